section MA
variable {G : ZG} {d : Nat} {α : AH} {post : Option Value → AH → Prop} {A : ZA}
def aUnder (kd k : Nat) : Bool := k == 0 || k == kd || (k == 1 && kd == 4) || (k == 2 && kd == 5) || (k == 3 && kd == 6)
theorem c_isUnder {kd k : Nat} (hk : kd < 100) (hk' : k < 100) (h : post (some (.int (b2i (aUnder kd k)))) α) : ZK G (d + 1) mX12_isUnder [.int (nI kd), .int (nI k)] α post := by
  have q0 : nI k = 0 ↔ k = 0 := nI_eq (b := 0) (by omega) (by omega)
  have q1 : nI k = 1 ↔ k = 1 := nI_eq (b := 1) (by omega) (by omega)
  have q2 : nI k = 2 ↔ k = 2 := nI_eq (b := 2) (by omega) (by omega)
  have q3 : nI k = 3 ↔ k = 3 := nI_eq (b := 3) (by omega) (by omega)
  have q4 : nI kd = 4 ↔ kd = 4 := nI_eq (b := 4) (by omega) (by omega)
  have q5 : nI kd = 5 ↔ kd = 5 := nI_eq (b := 5) (by omega) (by omega)
  have q6 : nI kd = 6 ↔ kd = 6 := nI_eq (b := 6) (by omega) (by omega)
  have qk : nI k = nI kd ↔ k = kd := nI_eq (by omega) (by omega)
  refine ZK.of (n := 0) (by decide) (Nat.le_of_ble_eq_true rfl) rfl ?_
  refine Z_iload_n dX12_isUnder_0 rfl rfl ?_
  refine Z_if_eq (tgt := 40) dX12_isUnder_1 (by decide) (fun h1 => ?_) (fun h1 => ?_)
  · skip
    refine Z_iconst (v := 1) dX12_isUnder_40 (by decide) ?_
    refine Z_goto (tgt := 45) dX12_isUnder_41 (by decide) ?_
    refine Z_iret dX12_isUnder_45 rfl rfl ⟨by decide, by decide⟩ ?_
    refine vi (P := fun z => post (some (.int z)) α) h ?_
    simp only [q0, q1, q2, q3, q4, q5, q6, qk] at *
    simp [aUnder, b2i] <;> omega
  · skip
    refine Z_iload_n dX12_isUnder_4 rfl rfl ?_
    refine Z_iload_n dX12_isUnder_5 rfl rfl ?_
    refine Z_icmp_eq (tgt := 40) dX12_isUnder_6 (by decide) (fun h6 => ?_) (fun h6 => ?_)
    · skip
      refine Z_iconst (v := 1) dX12_isUnder_40 (by decide) ?_
      refine Z_goto (tgt := 45) dX12_isUnder_41 (by decide) ?_
      refine Z_iret dX12_isUnder_45 rfl rfl ⟨by decide, by decide⟩ ?_
      refine vi (P := fun z => post (some (.int z)) α) h ?_
      simp only [q0, q1, q2, q3, q4, q5, q6, qk] at *
      simp [aUnder, b2i] <;> omega
    · skip
      refine Z_iload_n dX12_isUnder_9 rfl rfl ?_
      refine Z_iconst (v := 1) dX12_isUnder_10 (by decide) ?_
      refine Z_icmp_ne (tgt := 19) dX12_isUnder_11 (by decide) (fun h11 => ?_) (fun h11 => ?_)
      · skip
        refine Z_iload_n dX12_isUnder_19 rfl rfl ?_
        refine Z_iconst (v := 2) dX12_isUnder_20 (by decide) ?_
        refine Z_icmp_ne (tgt := 29) dX12_isUnder_21 (by decide) (fun h21 => ?_) (fun h21 => ?_)
        · skip
          refine Z_iload_n dX12_isUnder_29 rfl rfl ?_
          refine Z_iconst (v := 3) dX12_isUnder_30 (by decide) ?_
          refine Z_icmp_ne (tgt := 44) dX12_isUnder_31 (by decide) (fun h31 => ?_) (fun h31 => ?_)
          · skip
            refine Z_iconst (v := 0) dX12_isUnder_44 (by decide) ?_
            refine Z_iret dX12_isUnder_45 rfl rfl ⟨by decide, by decide⟩ ?_
            refine vi (P := fun z => post (some (.int z)) α) h ?_
            simp only [q0, q1, q2, q3, q4, q5, q6, qk] at *
            simp [aUnder, b2i] <;> omega
          · skip
            refine Z_iload_n dX12_isUnder_34 rfl rfl ?_
            refine Z_bipush (v := 6) dX12_isUnder_35 (by decide) ?_
            refine Z_icmp_ne (tgt := 44) dX12_isUnder_37 (by decide) (fun h37 => ?_) (fun h37 => ?_)
            · skip
              refine Z_iconst (v := 0) dX12_isUnder_44 (by decide) ?_
              refine Z_iret dX12_isUnder_45 rfl rfl ⟨by decide, by decide⟩ ?_
              refine vi (P := fun z => post (some (.int z)) α) h ?_
              simp only [q0, q1, q2, q3, q4, q5, q6, qk] at *
              simp [aUnder, b2i] <;> omega
            · skip
              refine Z_iconst (v := 1) dX12_isUnder_40 (by decide) ?_
              refine Z_goto (tgt := 45) dX12_isUnder_41 (by decide) ?_
              refine Z_iret dX12_isUnder_45 rfl rfl ⟨by decide, by decide⟩ ?_
              refine vi (P := fun z => post (some (.int z)) α) h ?_
              simp only [q0, q1, q2, q3, q4, q5, q6, qk] at *
              simp [aUnder, b2i] <;> omega
        · skip
          refine Z_iload_n dX12_isUnder_24 rfl rfl ?_
          refine Z_iconst (v := 5) dX12_isUnder_25 (by decide) ?_
          refine Z_icmp_eq (tgt := 40) dX12_isUnder_26 (by decide) (fun h26 => ?_) (fun h26 => ?_)
          · skip
            refine Z_iconst (v := 1) dX12_isUnder_40 (by decide) ?_
            refine Z_goto (tgt := 45) dX12_isUnder_41 (by decide) ?_
            refine Z_iret dX12_isUnder_45 rfl rfl ⟨by decide, by decide⟩ ?_
            refine vi (P := fun z => post (some (.int z)) α) h ?_
            simp only [q0, q1, q2, q3, q4, q5, q6, qk] at *
            simp [aUnder, b2i] <;> omega
          · skip
            refine Z_iload_n dX12_isUnder_29 rfl rfl ?_
            refine Z_iconst (v := 3) dX12_isUnder_30 (by decide) ?_
            refine Z_icmp_ne (tgt := 44) dX12_isUnder_31 (by decide) (fun h31 => ?_) (fun h31 => ?_)
            · skip
              refine Z_iconst (v := 0) dX12_isUnder_44 (by decide) ?_
              refine Z_iret dX12_isUnder_45 rfl rfl ⟨by decide, by decide⟩ ?_
              refine vi (P := fun z => post (some (.int z)) α) h ?_
              simp only [q0, q1, q2, q3, q4, q5, q6, qk] at *
              simp [aUnder, b2i] <;> omega
            · skip
              refine Z_iload_n dX12_isUnder_34 rfl rfl ?_
              refine Z_bipush (v := 6) dX12_isUnder_35 (by decide) ?_
              refine Z_icmp_ne (tgt := 44) dX12_isUnder_37 (by decide) (fun h37 => ?_) (fun h37 => ?_)
              · skip
                refine Z_iconst (v := 0) dX12_isUnder_44 (by decide) ?_
                refine Z_iret dX12_isUnder_45 rfl rfl ⟨by decide, by decide⟩ ?_
                refine vi (P := fun z => post (some (.int z)) α) h ?_
                simp only [q0, q1, q2, q3, q4, q5, q6, qk] at *
                simp [aUnder, b2i] <;> omega
              · skip
                refine Z_iconst (v := 1) dX12_isUnder_40 (by decide) ?_
                refine Z_goto (tgt := 45) dX12_isUnder_41 (by decide) ?_
                refine Z_iret dX12_isUnder_45 rfl rfl ⟨by decide, by decide⟩ ?_
                refine vi (P := fun z => post (some (.int z)) α) h ?_
                simp only [q0, q1, q2, q3, q4, q5, q6, qk] at *
                simp [aUnder, b2i] <;> omega
      · skip
        refine Z_iload_n dX12_isUnder_14 rfl rfl ?_
        refine Z_iconst (v := 4) dX12_isUnder_15 (by decide) ?_
        refine Z_icmp_eq (tgt := 40) dX12_isUnder_16 (by decide) (fun h16 => ?_) (fun h16 => ?_)
        · skip
          refine Z_iconst (v := 1) dX12_isUnder_40 (by decide) ?_
          refine Z_goto (tgt := 45) dX12_isUnder_41 (by decide) ?_
          refine Z_iret dX12_isUnder_45 rfl rfl ⟨by decide, by decide⟩ ?_
          refine vi (P := fun z => post (some (.int z)) α) h ?_
          simp only [q0, q1, q2, q3, q4, q5, q6, qk] at *
          simp [aUnder, b2i] <;> omega
        · skip
          refine Z_iload_n dX12_isUnder_19 rfl rfl ?_
          refine Z_iconst (v := 2) dX12_isUnder_20 (by decide) ?_
          refine Z_icmp_ne (tgt := 29) dX12_isUnder_21 (by decide) (fun h21 => ?_) (fun h21 => ?_)
          · skip
            refine Z_iload_n dX12_isUnder_29 rfl rfl ?_
            refine Z_iconst (v := 3) dX12_isUnder_30 (by decide) ?_
            refine Z_icmp_ne (tgt := 44) dX12_isUnder_31 (by decide) (fun h31 => ?_) (fun h31 => ?_)
            · skip
              refine Z_iconst (v := 0) dX12_isUnder_44 (by decide) ?_
              refine Z_iret dX12_isUnder_45 rfl rfl ⟨by decide, by decide⟩ ?_
              refine vi (P := fun z => post (some (.int z)) α) h ?_
              simp only [q0, q1, q2, q3, q4, q5, q6, qk] at *
              simp [aUnder, b2i] <;> omega
            · skip
              refine Z_iload_n dX12_isUnder_34 rfl rfl ?_
              refine Z_bipush (v := 6) dX12_isUnder_35 (by decide) ?_
              refine Z_icmp_ne (tgt := 44) dX12_isUnder_37 (by decide) (fun h37 => ?_) (fun h37 => ?_)
              · skip
                refine Z_iconst (v := 0) dX12_isUnder_44 (by decide) ?_
                refine Z_iret dX12_isUnder_45 rfl rfl ⟨by decide, by decide⟩ ?_
                refine vi (P := fun z => post (some (.int z)) α) h ?_
                simp only [q0, q1, q2, q3, q4, q5, q6, qk] at *
                simp [aUnder, b2i] <;> omega
              · skip
                refine Z_iconst (v := 1) dX12_isUnder_40 (by decide) ?_
                refine Z_goto (tgt := 45) dX12_isUnder_41 (by decide) ?_
                refine Z_iret dX12_isUnder_45 rfl rfl ⟨by decide, by decide⟩ ?_
                refine vi (P := fun z => post (some (.int z)) α) h ?_
                simp only [q0, q1, q2, q3, q4, q5, q6, qk] at *
                simp [aUnder, b2i] <;> omega
          · skip
            refine Z_iload_n dX12_isUnder_24 rfl rfl ?_
            refine Z_iconst (v := 5) dX12_isUnder_25 (by decide) ?_
            refine Z_icmp_eq (tgt := 40) dX12_isUnder_26 (by decide) (fun h26 => ?_) (fun h26 => ?_)
            · skip
              refine Z_iconst (v := 1) dX12_isUnder_40 (by decide) ?_
              refine Z_goto (tgt := 45) dX12_isUnder_41 (by decide) ?_
              refine Z_iret dX12_isUnder_45 rfl rfl ⟨by decide, by decide⟩ ?_
              refine vi (P := fun z => post (some (.int z)) α) h ?_
              simp only [q0, q1, q2, q3, q4, q5, q6, qk] at *
              simp [aUnder, b2i] <;> omega
            · skip
              refine Z_iload_n dX12_isUnder_29 rfl rfl ?_
              refine Z_iconst (v := 3) dX12_isUnder_30 (by decide) ?_
              refine Z_icmp_ne (tgt := 44) dX12_isUnder_31 (by decide) (fun h31 => ?_) (fun h31 => ?_)
              · skip
                refine Z_iconst (v := 0) dX12_isUnder_44 (by decide) ?_
                refine Z_iret dX12_isUnder_45 rfl rfl ⟨by decide, by decide⟩ ?_
                refine vi (P := fun z => post (some (.int z)) α) h ?_
                simp only [q0, q1, q2, q3, q4, q5, q6, qk] at *
                simp [aUnder, b2i] <;> omega
              · skip
                refine Z_iload_n dX12_isUnder_34 rfl rfl ?_
                refine Z_bipush (v := 6) dX12_isUnder_35 (by decide) ?_
                refine Z_icmp_ne (tgt := 44) dX12_isUnder_37 (by decide) (fun h37 => ?_) (fun h37 => ?_)
                · skip
                  refine Z_iconst (v := 0) dX12_isUnder_44 (by decide) ?_
                  refine Z_iret dX12_isUnder_45 rfl rfl ⟨by decide, by decide⟩ ?_
                  refine vi (P := fun z => post (some (.int z)) α) h ?_
                  simp only [q0, q1, q2, q3, q4, q5, q6, qk] at *
                  simp [aUnder, b2i] <;> omega
                · skip
                  refine Z_iconst (v := 1) dX12_isUnder_40 (by decide) ?_
                  refine Z_goto (tgt := 45) dX12_isUnder_41 (by decide) ?_
                  refine Z_iret dX12_isUnder_45 rfl rfl ⟨by decide, by decide⟩ ?_
                  refine vi (P := fun z => post (some (.int z)) α) h ?_
                  simp only [q0, q1, q2, q3, q4, q5, q6, qk] at *
                  simp [aUnder, b2i] <;> omega
/-- what the bodies of an act answer and which they are -/
def aSows (k : Nat) (w x : Int32) : Int32 × List Nat := if k = 1 ∨ k = 4 then (x * 3 + w, [11, 1]) else if k = 5 then ((x + w) ^^^ w, [51, 1]) else (x + w, [1])
def aPCuts (k : Nat) (w v x : Int32) : Int32 × List Nat := ((aSows k w x).1 - v, 2 :: (aSows k w x).2)
def aCuts (k : Nat) (w v x : Int32) : Int32 × List Nat := if k = 2 ∨ k = 5 then (-(aPCuts k w v x).1, 21 :: (aPCuts k w v x).2) else if k = 6 then ((aPCuts k w v x).1 + v, 61 :: (aPCuts k w v x).2) else aPCuts k w v x
def aPTells (k : Nat) (w v x : Int32) : Int32 × List Nat := ((aCuts k w v x).1 * 2, 3 :: (aCuts k w v x).2)
def aTells (k : Nat) (w v x : Int32) : Int32 × List Nat := if k = 3 ∨ k = 6 then ((aPTells k w v x).1 ^^^ 7, 31 :: (aPTells k w v x).2) else if k = 4 then ((aPTells k w v (x - 1)).1 + (aSows k w 2).1, 41 :: ((aPTells k w v (x - 1)).2 ++ (aSows k w 2).2)) else aPTells k w v x
/-- the reference within an act -/
def mAct (α : AH) (k : Nat) (w v : Int32) (l : List Nat) : Prop := MW α ∧ k ≤ 6 ∧ hI α 34 30 = nI k ∧ hI α 34 31 = w ∧ hI α 34 32 = v ∧ l.length < 20 ∧ hI α 34 29 = nI l.length ∧ ∀ i, i < l.length → hI α 51 i = nI (l.getD i 0)
def frT (α β : AH) : Prop := frI (fun k => k = 34 ∨ k = 51) α β ∧ ∀ j, j ≠ 29 → hI β 34 j = hI α 34 j
theorem frT.tr {α β γ : AH} (h : frT α β) (h' : frT β γ) : frT α γ := ⟨h.1.tr h'.1, fun j hj => (h'.2 j hj).trans (h.2 j hj)⟩
theorem c_ranBody {k b : Nat} {w v : Int32} {l : List Nat} (ha : mAct α k w v l) (hl : l.length < 19) (h : ∀ β, mAct β k w v (l ++ [b]) → frT α β → post none β) : ZK G (d + 1) mX12_ranBody [.ref (G.1 + 34), .int (nI b)] α post := by
  obtain ⟨hm, hk, h30, h31, h32, -, h29, hb⟩ := ha
  refine ZK.of (n := 0) (by decide) (Nat.le_of_ble_eq_true rfl) rfl ?_
  refine Z_aload_n dX12_ranBody_0 rfl rfl ?_
  refine Z_getIv dX12_ranBody_1 cl_12 fl_X12_304_12 rfl (mw_i34 hm) h29 ?_
  refine Z_bipush (v := 20) dX12_ranBody_4 (by decide) ?_
  refine Z_icmp_ge (tgt := 19) dX12_ranBody_6 (by decide) (fun h6 => ?_) (fun h6 => ?_)
  · skip
    exact absurd h6 (nI_ge (a := l.length) (b := 20) (by omega) (by omega))
  · skip
    refine Z_aload_n dX12_ranBody_9 rfl rfl ?_
    refine Z_getR dX12_ranBody_10 cl_12 fl_X12_62_12 rfl (mw_i34 hm) (mw_p34_28 hm) ?_
    refine Z_aload_n dX12_ranBody_13 rfl rfl ?_
    refine Z_getIv dX12_ranBody_14 cl_12 fl_X12_304_12 rfl (mw_i34 hm) h29 ?_
    refine Z_iload_n dX12_ranBody_17 rfl rfl ?_
    refine Z_iast dX12_ranBody_18 (mw_i51 hm) (zix_nI (by omega) (by decide)) ?_
    refine Z_aload_n dX12_ranBody_19 rfl rfl ?_
    refine Z_dup dX12_ranBody_20 rfl ?_
    refine Z_getIv dX12_ranBody_21 cl_12 fl_X12_304_12 rfl (mw_i34 hm) (show hI (sI α 51 l.length (nI b)) 34 29 = nI l.length from h29) ?_
    refine Z_iconst (v := 1) dX12_ranBody_24 (by decide) ?_
    refine Z_iadd dX12_ranBody_25 ?_
    refine Z_putI dX12_ranBody_26 cl_12 fl_X12_304_12 (Or.inl fn_12_29) rfl (mw_i34 hm) rfl rfl ?_
    refine Z_vret dX12_ranBody_29 rfl ⟨by decide, by decide⟩ ?_
    rw [nI_1]
    refine h _ ⟨hm, hk, h30, h31, h32, by simp; omega, by rw [hI_sI, if_pos ⟨rfl, rfl⟩]; simp, fun i hi => ?_⟩ ⟨(frI.sI (Or.inr rfl)).tr (frI.sI (Or.inl rfl)), fun j hj => ?_⟩
    · rw [hI_sI, if_neg (by omega), hI_sI]
      simp only [List.length_append, List.length_singleton] at hi
      by_cases e : i = l.length
      · subst e; simp
      · rw [if_neg (by omega), hb i (by omega)]
        simp [List.getD, List.getElem?_append_left (show i < l.length by omega)]
    · rw [hI_sI, if_neg (by omega), hI_sI, if_neg (by omega)]
theorem c_plainSows {k : Nat} {w v x : Int32} {l : List Nat} (ha : mAct α k w v l) (hl : l.length < 19) (h : ∀ β, mAct β k w v (l ++ [1]) → frT α β → post (some (.int (x + w))) β) : ZK G (d + 2) mX12_plainSows [.ref (G.1 + 34), .int x] α post := by
  have hm := ha.1
  refine ZK.of (n := 0) (by decide) (Nat.le_of_ble_eq_true rfl) rfl ?_
  refine Z_aload_n dX12_plainSows_0 rfl rfl ?_
  refine Z_iconst (v := 1) dX12_plainSows_1 (by decide) ?_
  refine Z_V1z (ci := 12) dX12_plainSows_2 to_X12_ranBody lk_X12_307 iv_X12_ranBody ⟨rfl, rfl⟩ (mw_i34 hm) (Nat.le_of_ble_eq_true rfl) ⟨rfl, rfl⟩ ⟨by decide, by decide⟩ ?_
  refine c_ranBody (b := 1) ha hl (fun β ha1 hf => ?_)
  have hm := ha1.1
  refine Z_iload_n dX12_plainSows_5 rfl rfl ?_
  refine Z_aload_n dX12_plainSows_6 rfl rfl ?_
  refine Z_getIv dX12_plainSows_7 cl_12 fl_X12_310_12 rfl (mw_i34 hm) ha1.2.2.2.1 ?_
  refine Z_iadd dX12_plainSows_10 ?_
  refine Z_iret dX12_plainSows_11 rfl rfl ⟨by decide, by decide⟩ ?_
  exact h β ha1 hf
theorem aU1 {k : Nat} (hk : k ≤ 6) : b2i (aUnder k 1) = 0 ↔ ¬ (k = 1 ∨ k = 4) := by
  unfold aUnder b2i; simp; omega
theorem aU2 {k : Nat} (hk : k ≤ 6) : b2i (aUnder k 2) = 0 ↔ ¬ (k = 2 ∨ k = 5) := by
  unfold aUnder b2i; simp; omega
theorem aU3 {k : Nat} (hk : k ≤ 6) : b2i (aUnder k 3) = 0 ↔ ¬ (k = 3 ∨ k = 6) := by
  unfold aUnder b2i; simp; omega
theorem c_sowsActs {k : Nat} {w v x : Int32} {l : List Nat} (ha : mAct α k w v l) (hl : l.length < 18) (h : ∀ β, mAct β k w v (l ++ (aSows k w x).2) → frT α β → post (some (.int (aSows k w x).1)) β) : ZK G (d + 3) mX12_sowsActs [.ref (G.1 + 34), .int x] α post := by
  have hm := ha.1
  have hk := ha.2.1
  refine ZK.of (n := 0) (by decide) (Nat.le_of_ble_eq_true rfl) rfl ?_
  refine Z_aload_n dX12_sowsActs_0 rfl rfl ?_
  refine Z_getIv dX12_sowsActs_1 cl_12 fl_X12_313_12 rfl (mw_i34 hm) ha.2.2.1 ?_
  refine Z_iconst (v := 1) dX12_sowsActs_4 (by decide) ?_
  refine Z_S2z dX12_sowsActs_5 to_X12_isUnder lk_X12_316 sc_X12_isUnder (Nat.le_of_ble_eq_true rfl) ⟨rfl, rfl⟩ ⟨by decide, by decide⟩ ?_
  refine c_isUnder (kd := k) (k := 1) (by omega) (by omega) ?_
  refine Z_if_eq (tgt := 25) dX12_sowsActs_8 (by decide) (fun h8 => ?_) (fun h8 => ?_)
  · skip
    have hc : ¬ (k = 1 ∨ k = 4) := (aU1 hk).mp h8
    refine Z_aload_n dX12_sowsActs_25 rfl rfl ?_
    refine Z_getIv dX12_sowsActs_26 cl_12 fl_X12_313_12 rfl (mw_i34 hm) ha.2.2.1 ?_
    refine Z_iconst (v := 5) dX12_sowsActs_29 (by decide) ?_
    refine Z_icmp_ne (tgt := 50) dX12_sowsActs_30 (by decide) (fun h30 => ?_) (fun h30 => ?_)
    · skip
      have e : aSows k w x = (x + w, [1]) := (if_neg hc).trans (if_neg (fun z => h30 (by rw [z]; rfl)))
      rw [e] at h
      refine Z_aload_n dX12_sowsActs_50 rfl rfl ?_
      refine Z_iload_n dX12_sowsActs_51 rfl rfl ?_
      refine Z_V1z (ci := 12) dX12_sowsActs_52 to_X12_plainSows lk_X12_319 iv_X12_plainSows ⟨rfl, rfl⟩ (mw_i34 hm) (Nat.le_of_ble_eq_true rfl) ⟨rfl, rfl⟩ ⟨by decide, by decide⟩ ?_
      refine c_plainSows ha (by omega) (fun γ ha2 hf2 => ?_)
      have hm := ha2.1
      refine Z_iret dX12_sowsActs_55 rfl rfl ⟨by decide, by decide⟩ ?_
      exact h γ ha2 hf2
    · skip
      have e : aSows k w x = ((x + w) ^^^ w, [51, 1]) := (if_neg hc).trans (if_pos ((nI_eq (a := k) (b := 5) (by omega) (by omega)).mp h30))
      rw [e] at h
      refine Z_aload_n dX12_sowsActs_33 rfl rfl ?_
      refine Z_bipush (v := 51) dX12_sowsActs_34 (by decide) ?_
      refine Z_V1z (ci := 12) dX12_sowsActs_36 to_X12_ranBody lk_X12_307 iv_X12_ranBody ⟨rfl, rfl⟩ (mw_i34 hm) (Nat.le_of_ble_eq_true rfl) ⟨rfl, rfl⟩ ⟨by decide, by decide⟩ ?_
      refine c_ranBody (b := 51) ha (by omega) (fun β ha1 hf => ?_)
      have hm := ha1.1
      refine Z_aload_n dX12_sowsActs_39 rfl rfl ?_
      refine Z_iload_n dX12_sowsActs_40 rfl rfl ?_
      refine Z_V1z (ci := 12) dX12_sowsActs_41 to_X12_plainSows lk_X12_319 iv_X12_plainSows ⟨rfl, rfl⟩ (mw_i34 hm) (Nat.le_of_ble_eq_true rfl) ⟨rfl, rfl⟩ ⟨by decide, by decide⟩ ?_
      refine c_plainSows ha1 (by simp; omega) (fun γ ha2 hf2 => ?_)
      have hm := ha2.1
      refine Z_aload_n dX12_sowsActs_44 rfl rfl ?_
      refine Z_getIv dX12_sowsActs_45 cl_12 fl_X12_310_12 rfl (mw_i34 hm) ha2.2.2.2.1 ?_
      refine Z_ixor dX12_sowsActs_48 ?_
      refine Z_iret dX12_sowsActs_49 rfl rfl ⟨by decide, by decide⟩ ?_
      rw [List.append_assoc] at ha2
      exact h γ ha2 (hf.tr hf2)
  · skip
    have hc : k = 1 ∨ k = 4 := Classical.not_not.mp (fun z => h8 ((aU1 hk).mpr z))
    have e : aSows k w x = (x * 3 + w, [11, 1]) := if_pos hc
    rw [e] at h
    refine Z_aload_n dX12_sowsActs_11 rfl rfl ?_
    refine Z_bipush (v := 11) dX12_sowsActs_12 (by decide) ?_
    refine Z_V1z (ci := 12) dX12_sowsActs_14 to_X12_ranBody lk_X12_307 iv_X12_ranBody ⟨rfl, rfl⟩ (mw_i34 hm) (Nat.le_of_ble_eq_true rfl) ⟨rfl, rfl⟩ ⟨by decide, by decide⟩ ?_
    refine c_ranBody (b := 11) ha (by omega) (fun β ha1 hf => ?_)
    have hm := ha1.1
    refine Z_aload_n dX12_sowsActs_17 rfl rfl ?_
    refine Z_iload_n dX12_sowsActs_18 rfl rfl ?_
    refine Z_iconst (v := 3) dX12_sowsActs_19 (by decide) ?_
    refine Z_imul dX12_sowsActs_20 ?_
    refine Z_V1z (ci := 12) dX12_sowsActs_21 to_X12_plainSows lk_X12_319 iv_X12_plainSows ⟨rfl, rfl⟩ (mw_i34 hm) (Nat.le_of_ble_eq_true rfl) ⟨rfl, rfl⟩ ⟨by decide, by decide⟩ ?_
    refine c_plainSows ha1 (by simp; omega) (fun γ ha2 hf2 => ?_)
    have hm := ha2.1
    refine Z_iret dX12_sowsActs_24 rfl rfl ⟨by decide, by decide⟩ ?_
    rw [List.append_assoc] at ha2
    exact h γ ha2 (hf.tr hf2)
theorem aSows_len (k : Nat) (w x : Int32) : (aSows k w x).2.length ≤ 2 := by
  unfold aSows; split
  · simp
  · split <;> simp
theorem c_plainCuts {k : Nat} {w v x : Int32} {l : List Nat} (ha : mAct α k w v l) (hl : l.length < 16) (h : ∀ β, mAct β k w v (l ++ (aPCuts k w v x).2) → frT α β → post (some (.int (aPCuts k w v x).1)) β) : ZK G (d + 4) mX12_plainCuts [.ref (G.1 + 34), .int x] α post := by
  have hm := ha.1
  refine ZK.of (n := 0) (by decide) (Nat.le_of_ble_eq_true rfl) rfl ?_
  refine Z_aload_n dX12_plainCuts_0 rfl rfl ?_
  refine Z_iconst (v := 2) dX12_plainCuts_1 (by decide) ?_
  refine Z_V1z (ci := 12) dX12_plainCuts_2 to_X12_ranBody lk_X12_307 iv_X12_ranBody ⟨rfl, rfl⟩ (mw_i34 hm) (Nat.le_of_ble_eq_true rfl) ⟨rfl, rfl⟩ ⟨by decide, by decide⟩ ?_
  refine c_ranBody (b := 2) ha (by omega) (fun β ha1 hf => ?_)
  have hm := ha1.1
  refine Z_aload_n dX12_plainCuts_5 rfl rfl ?_
  refine Z_iload_n dX12_plainCuts_6 rfl rfl ?_
  refine Z_V1z (ci := 12) dX12_plainCuts_7 to_X12_sowsActs lk_X12_322 iv_X12_sowsActs ⟨rfl, rfl⟩ (mw_i34 hm) (Nat.le_of_ble_eq_true rfl) ⟨rfl, rfl⟩ ⟨by decide, by decide⟩ ?_
  refine c_sowsActs ha1 (by simp; omega) (fun γ ha2 hf2 => ?_)
  have hm := ha2.1
  refine Z_aload_n dX12_plainCuts_10 rfl rfl ?_
  refine Z_getIv dX12_plainCuts_11 cl_12 fl_X12_325_12 rfl (mw_i34 hm) ha2.2.2.2.2.1 ?_
  refine Z_isub dX12_plainCuts_14 ?_
  refine Z_iret dX12_plainCuts_15 rfl rfl ⟨by decide, by decide⟩ ?_
  rw [List.append_assoc] at ha2
  exact h γ ha2 (hf.tr hf2)
theorem aPCuts_len (k : Nat) (w v x : Int32) : (aPCuts k w v x).2.length ≤ 3 := by
  have := aSows_len k w x
  unfold aPCuts; simp; omega
theorem c_cutsActs {k : Nat} {w v x : Int32} {l : List Nat} (ha : mAct α k w v l) (hl : l.length < 15) (h : ∀ β, mAct β k w v (l ++ (aCuts k w v x).2) → frT α β → post (some (.int (aCuts k w v x).1)) β) : ZK G (d + 5) mX12_cutsActs [.ref (G.1 + 34), .int x] α post := by
  have hm := ha.1
  have hk := ha.2.1
  refine ZK.of (n := 0) (by decide) (Nat.le_of_ble_eq_true rfl) rfl ?_
  refine Z_aload_n dX12_cutsActs_0 rfl rfl ?_
  refine Z_getIv dX12_cutsActs_1 cl_12 fl_X12_313_12 rfl (mw_i34 hm) ha.2.2.1 ?_
  refine Z_iconst (v := 2) dX12_cutsActs_4 (by decide) ?_
  refine Z_S2z dX12_cutsActs_5 to_X12_isUnder lk_X12_316 sc_X12_isUnder (Nat.le_of_ble_eq_true rfl) ⟨rfl, rfl⟩ ⟨by decide, by decide⟩ ?_
  refine c_isUnder (kd := k) (k := 2) (by omega) (by omega) ?_
  refine Z_if_eq (tgt := 24) dX12_cutsActs_8 (by decide) (fun h8 => ?_) (fun h8 => ?_)
  · skip
    have hc : ¬ (k = 2 ∨ k = 5) := (aU2 hk).mp h8
    refine Z_aload_n dX12_cutsActs_24 rfl rfl ?_
    refine Z_getIv dX12_cutsActs_25 cl_12 fl_X12_313_12 rfl (mw_i34 hm) ha.2.2.1 ?_
    refine Z_bipush (v := 6) dX12_cutsActs_28 (by decide) ?_
    refine Z_icmp_ne (tgt := 50) dX12_cutsActs_30 (by decide) (fun h30 => ?_) (fun h30 => ?_)
    · skip
      have e : aCuts k w v x = aPCuts k w v x := (if_neg hc).trans (if_neg (fun z => h30 (by rw [z]; rfl)))
      rw [e] at h
      refine Z_aload_n dX12_cutsActs_50 rfl rfl ?_
      refine Z_iload_n dX12_cutsActs_51 rfl rfl ?_
      refine Z_V1z (ci := 12) dX12_cutsActs_52 to_X12_plainCuts lk_X12_328 iv_X12_plainCuts ⟨rfl, rfl⟩ (mw_i34 hm) (Nat.le_of_ble_eq_true rfl) ⟨rfl, rfl⟩ ⟨by decide, by decide⟩ ?_
      first
        | refine c_plainCuts ha1 (by simp; omega) (fun γ ha2 hf2 => ?_)
        | refine c_plainCuts ha (by omega) (fun γ ha2 hf2 => ?_)
      have hm := ha2.1
      refine Z_iret dX12_cutsActs_55 rfl rfl ⟨by decide, by decide⟩ ?_
      exact h γ ha2 hf2
    · skip
      have e : aCuts k w v x = ((aPCuts k w v x).1 + v, 61 :: (aPCuts k w v x).2) := (if_neg hc).trans (if_pos ((nI_eq (a := k) (b := 6) (by omega) (by omega)).mp h30))
      rw [e] at h
      refine Z_aload_n dX12_cutsActs_33 rfl rfl ?_
      refine Z_bipush (v := 61) dX12_cutsActs_34 (by decide) ?_
      refine Z_V1z (ci := 12) dX12_cutsActs_36 to_X12_ranBody lk_X12_307 iv_X12_ranBody ⟨rfl, rfl⟩ (mw_i34 hm) (Nat.le_of_ble_eq_true rfl) ⟨rfl, rfl⟩ ⟨by decide, by decide⟩ ?_
      refine c_ranBody (b := 61) ha (by omega) (fun β ha1 hf => ?_)
      have hm := ha1.1
      refine Z_aload_n dX12_cutsActs_39 rfl rfl ?_
      refine Z_iload_n dX12_cutsActs_40 rfl rfl ?_
      refine Z_V1z (ci := 12) dX12_cutsActs_41 to_X12_plainCuts lk_X12_328 iv_X12_plainCuts ⟨rfl, rfl⟩ (mw_i34 hm) (Nat.le_of_ble_eq_true rfl) ⟨rfl, rfl⟩ ⟨by decide, by decide⟩ ?_
      first
        | refine c_plainCuts ha1 (by simp; omega) (fun γ ha2 hf2 => ?_)
        | refine c_plainCuts ha (by omega) (fun γ ha2 hf2 => ?_)
      have hm := ha2.1
      refine Z_aload_n dX12_cutsActs_44 rfl rfl ?_
      refine Z_getIv dX12_cutsActs_45 cl_12 fl_X12_325_12 rfl (mw_i34 hm) ha2.2.2.2.2.1 ?_
      refine Z_iadd dX12_cutsActs_48 ?_
      refine Z_iret dX12_cutsActs_49 rfl rfl ⟨by decide, by decide⟩ ?_
      rw [List.append_assoc] at ha2
      exact h γ ha2 (hf.tr hf2)
  · skip
    have hc : k = 2 ∨ k = 5 := Classical.not_not.mp (fun z => h8 ((aU2 hk).mpr z))
    have e : aCuts k w v x = (-(aPCuts k w v x).1, 21 :: (aPCuts k w v x).2) := if_pos hc
    rw [e] at h
    refine Z_aload_n dX12_cutsActs_11 rfl rfl ?_
    refine Z_bipush (v := 21) dX12_cutsActs_12 (by decide) ?_
    refine Z_V1z (ci := 12) dX12_cutsActs_14 to_X12_ranBody lk_X12_307 iv_X12_ranBody ⟨rfl, rfl⟩ (mw_i34 hm) (Nat.le_of_ble_eq_true rfl) ⟨rfl, rfl⟩ ⟨by decide, by decide⟩ ?_
    refine c_ranBody (b := 21) ha (by omega) (fun β ha1 hf => ?_)
    have hm := ha1.1
    refine Z_aload_n dX12_cutsActs_17 rfl rfl ?_
    refine Z_iload_n dX12_cutsActs_18 rfl rfl ?_
    refine Z_V1z (ci := 12) dX12_cutsActs_19 to_X12_plainCuts lk_X12_328 iv_X12_plainCuts ⟨rfl, rfl⟩ (mw_i34 hm) (Nat.le_of_ble_eq_true rfl) ⟨rfl, rfl⟩ ⟨by decide, by decide⟩ ?_
    first
      | refine c_plainCuts ha1 (by simp; omega) (fun γ ha2 hf2 => ?_)
      | refine c_plainCuts ha (by omega) (fun γ ha2 hf2 => ?_)
    have hm := ha2.1
    refine Z_ineg dX12_cutsActs_22 ?_
    refine Z_iret dX12_cutsActs_23 rfl rfl ⟨by decide, by decide⟩ ?_
    rw [List.append_assoc] at ha2
    exact h γ ha2 (hf.tr hf2)
theorem aCuts_len (k : Nat) (w v x : Int32) : (aCuts k w v x).2.length ≤ 4 := by
  have := aPCuts_len k w v x
  unfold aCuts; split
  · simp; omega
  · split
    · simp; omega
    · omega
theorem c_plainTells {k : Nat} {w v x : Int32} {l : List Nat} (ha : mAct α k w v l) (hl : l.length < 14) (h : ∀ β, mAct β k w v (l ++ (aPTells k w v x).2) → frT α β → post (some (.int (aPTells k w v x).1)) β) : ZK G (d + 6) mX12_plainTells [.ref (G.1 + 34), .int x] α post := by
  have hm := ha.1
  refine ZK.of (n := 0) (by decide) (Nat.le_of_ble_eq_true rfl) rfl ?_
  refine Z_aload_n dX12_plainTells_0 rfl rfl ?_
  refine Z_iconst (v := 3) dX12_plainTells_1 (by decide) ?_
  refine Z_V1z (ci := 12) dX12_plainTells_2 to_X12_ranBody lk_X12_307 iv_X12_ranBody ⟨rfl, rfl⟩ (mw_i34 hm) (Nat.le_of_ble_eq_true rfl) ⟨rfl, rfl⟩ ⟨by decide, by decide⟩ ?_
  refine c_ranBody (b := 3) ha (by omega) (fun β ha1 hf => ?_)
  have hm := ha1.1
  refine Z_aload_n dX12_plainTells_5 rfl rfl ?_
  refine Z_iload_n dX12_plainTells_6 rfl rfl ?_
  refine Z_V1z (ci := 12) dX12_plainTells_7 to_X12_cutsActs lk_X12_331 iv_X12_cutsActs ⟨rfl, rfl⟩ (mw_i34 hm) (Nat.le_of_ble_eq_true rfl) ⟨rfl, rfl⟩ ⟨by decide, by decide⟩ ?_
  refine c_cutsActs ha1 (by simp; omega) (fun γ ha2 hf2 => ?_)
  have hm := ha2.1
  refine Z_iconst (v := 2) dX12_plainTells_10 (by decide) ?_
  refine Z_imul dX12_plainTells_11 ?_
  refine Z_iret dX12_plainTells_12 rfl rfl ⟨by decide, by decide⟩ ?_
  rw [List.append_assoc] at ha2
  exact h γ ha2 (hf.tr hf2)
theorem aPTells_len (k : Nat) (w v x : Int32) : (aPTells k w v x).2.length ≤ 5 := by
  have := aCuts_len k w v x
  unfold aPTells; simp; omega
theorem c_tellsActs {k : Nat} {w v x : Int32} {l : List Nat} (ha : mAct α k w v l) (hl : l.length < 10) (h : ∀ β, mAct β k w v (l ++ (aTells k w v x).2) → frT α β → post (some (.int (aTells k w v x).1)) β) : ZK G (d + 7) mX12_tellsActs [.ref (G.1 + 34), .int x] α post := by
  have hm := ha.1
  have hk := ha.2.1
  have hl1 := aPTells_len k w v x
  have hl2 := aPTells_len k w v (x - 1)
  refine ZK.of (n := 1) (by decide) (Nat.le_of_ble_eq_true rfl) rfl ?_
  refine Z_aload_n dX12_tellsActs_0 rfl rfl ?_
  refine Z_getIv dX12_tellsActs_1 cl_12 fl_X12_313_12 rfl (mw_i34 hm) ha.2.2.1 ?_
  refine Z_iconst (v := 3) dX12_tellsActs_4 (by decide) ?_
  refine Z_S2z dX12_tellsActs_5 to_X12_isUnder lk_X12_316 sc_X12_isUnder (Nat.le_of_ble_eq_true rfl) ⟨rfl, rfl⟩ ⟨by decide, by decide⟩ ?_
  refine c_isUnder (kd := k) (k := 3) (by omega) (by omega) ?_
  refine Z_if_eq (tgt := 26) dX12_tellsActs_8 (by decide) (fun h8 => ?_) (fun h8 => ?_)
  · skip
    have hc : ¬ (k = 3 ∨ k = 6) := (aU3 hk).mp h8
    refine Z_aload_n dX12_tellsActs_26 rfl rfl ?_
    refine Z_getIv dX12_tellsActs_27 cl_12 fl_X12_313_12 rfl (mw_i34 hm) ha.2.2.1 ?_
    refine Z_iconst (v := 4) dX12_tellsActs_30 (by decide) ?_
    refine Z_icmp_ne (tgt := 56) dX12_tellsActs_31 (by decide) (fun h31 => ?_) (fun h31 => ?_)
    · skip
      have e : aTells k w v x = aPTells k w v x := (if_neg hc).trans (if_neg (fun z => h31 (by rw [z]; rfl)))
      rw [e] at h
      refine Z_aload_n dX12_tellsActs_56 rfl rfl ?_
      refine Z_iload_n dX12_tellsActs_57 rfl rfl ?_
      refine Z_V1z (ci := 12) dX12_tellsActs_58 to_X12_plainTells lk_X12_334 iv_X12_plainTells ⟨rfl, rfl⟩ (mw_i34 hm) (Nat.le_of_ble_eq_true rfl) ⟨rfl, rfl⟩ ⟨by decide, by decide⟩ ?_
      refine c_plainTells ha (by omega) (fun γ ha2 hf2 => ?_)
      have hm := ha2.1
      refine Z_iret dX12_tellsActs_61 rfl rfl ⟨by decide, by decide⟩ ?_
      exact h γ ha2 hf2
    · skip
      have e : aTells k w v x = ((aPTells k w v (x - 1)).1 + (aSows k w 2).1, 41 :: ((aPTells k w v (x - 1)).2 ++ (aSows k w 2).2)) := (if_neg hc).trans (if_pos ((nI_eq (a := k) (b := 4) (by omega) (by omega)).mp h31))
      rw [e] at h
      refine Z_aload_n dX12_tellsActs_34 rfl rfl ?_
      refine Z_bipush (v := 41) dX12_tellsActs_35 (by decide) ?_
      refine Z_V1z (ci := 12) dX12_tellsActs_37 to_X12_ranBody lk_X12_307 iv_X12_ranBody ⟨rfl, rfl⟩ (mw_i34 hm) (Nat.le_of_ble_eq_true rfl) ⟨rfl, rfl⟩ ⟨by decide, by decide⟩ ?_
      refine c_ranBody (b := 41) ha (by omega) (fun β ha1 hf => ?_)
      have hm := ha1.1
      refine Z_aload_n dX12_tellsActs_40 rfl rfl ?_
      refine Z_iload_n dX12_tellsActs_41 rfl rfl ?_
      refine Z_iconst (v := 1) dX12_tellsActs_42 (by decide) ?_
      refine Z_isub dX12_tellsActs_43 ?_
      refine Z_V1z (ci := 12) dX12_tellsActs_44 to_X12_plainTells lk_X12_334 iv_X12_plainTells ⟨rfl, rfl⟩ (mw_i34 hm) (Nat.le_of_ble_eq_true rfl) ⟨rfl, rfl⟩ ⟨by decide, by decide⟩ ?_
      refine c_plainTells ha1 (by simp; omega) (fun γ ha2 hf2 => ?_)
      have hm := ha2.1
      refine Z_istore_n (L' := [_, _, _]) dX12_tellsActs_47 rfl (by decide) rfl rfl ?_
      refine Z_iload_n dX12_tellsActs_48 rfl rfl ?_
      refine Z_aload_n dX12_tellsActs_49 rfl rfl ?_
      refine Z_iconst (v := 2) dX12_tellsActs_50 (by decide) ?_
      refine Z_V1z (ci := 12) dX12_tellsActs_51 to_X12_sowsActs lk_X12_322 iv_X12_sowsActs ⟨rfl, rfl⟩ (mw_i34 hm) (Nat.le_of_ble_eq_true rfl) ⟨rfl, rfl⟩ ⟨by decide, by decide⟩ ?_
      refine c_sowsActs ha2 (by simp; omega) (fun δ ha3 hf3 => ?_)
      have hm := ha3.1
      refine Z_iadd dX12_tellsActs_54 ?_
      refine Z_iret dX12_tellsActs_55 rfl rfl ⟨by decide, by decide⟩ ?_
      rw [List.append_assoc, List.append_assoc] at ha3
      exact h δ ha3 ((hf.tr hf2).tr hf3)
  · skip
    have hc : k = 3 ∨ k = 6 := Classical.not_not.mp (fun z => h8 ((aU3 hk).mpr z))
    have e : aTells k w v x = ((aPTells k w v x).1 ^^^ 7, 31 :: (aPTells k w v x).2) := if_pos hc
    rw [e] at h
    refine Z_aload_n dX12_tellsActs_11 rfl rfl ?_
    refine Z_bipush (v := 31) dX12_tellsActs_12 (by decide) ?_
    refine Z_V1z (ci := 12) dX12_tellsActs_14 to_X12_ranBody lk_X12_307 iv_X12_ranBody ⟨rfl, rfl⟩ (mw_i34 hm) (Nat.le_of_ble_eq_true rfl) ⟨rfl, rfl⟩ ⟨by decide, by decide⟩ ?_
    refine c_ranBody (b := 31) ha (by omega) (fun β ha1 hf => ?_)
    have hm := ha1.1
    refine Z_aload_n dX12_tellsActs_17 rfl rfl ?_
    refine Z_iload_n dX12_tellsActs_18 rfl rfl ?_
    refine Z_V1z (ci := 12) dX12_tellsActs_19 to_X12_plainTells lk_X12_334 iv_X12_plainTells ⟨rfl, rfl⟩ (mw_i34 hm) (Nat.le_of_ble_eq_true rfl) ⟨rfl, rfl⟩ ⟨by decide, by decide⟩ ?_
    refine c_plainTells ha1 (by simp; omega) (fun γ ha2 hf2 => ?_)
    have hm := ha2.1
    refine Z_bipush (v := 7) dX12_tellsActs_22 (by decide) ?_
    refine Z_ixor dX12_tellsActs_24 ?_
    refine Z_iret dX12_tellsActs_25 rfl rfl ⟨by decide, by decide⟩ ?_
    rw [List.append_assoc] at ha2
    exact h γ ha2 (hf.tr hf2)
end MA
