section MP
variable {G : ZG} {d : Nat} {α β : AH} {post : Option Value → AH → Prop} {A : ZA}
theorem mid51 : mId 51 := ⟨by decide, by decide⟩
theorem mid36 : mId 36 := ⟨by decide, by decide⟩
theorem MRel.act {l : List Nat} (hr : MRel A α) (hf : frI (fun k => k = 34 ∨ k = 51) α β) (h3 : hI β 34 3 = hI α 34 3) (h17 : hI β 34 17 = hI α 34 17) (hl : l.length ≤ 20 ∧ hI β 34 29 = nI l.length ∧ ∀ i, i < l.length → hI β 51 i = nI (l.getD i 0)) : MRel (A.1, A.2.1, l, A.2.2.2) β := by
  obtain ⟨hm, hb, hrow, himg, htr, t, htb, ht⟩ := hr
  have e : ∀ k, k ≠ 34 → k ≠ 51 → hI β k = hI α k := fun k h1 h2 => (hf.2.2.2 k (fun h => h.elim h1 h2)).1
  refine ⟨hf.mw hm, hb, by rw [e 35 (by decide) (by decide)]; exact hrow, ?_, hl, t, htb, ht.1, by rw [h17]; exact ht.2.1, by rw [e 39 (by decide) (by decide)]; exact ht.2.2.1, fun r hr => by rw [e r (by omega) (by omega)]; exact ht.2.2.2 r hr⟩
  show (match A.2.1 with
      | none => hI β 34 3 = 0
      | some q => hI β 34 3 = 1 ∧ SB q.1 ∧ mRow (hI β 36) q.1 q.2)
  rw [h3, e 36 (by decide) (by decide)]
  exact himg
def sp_act (A : ZA) (w a x : Int32) : Int32 × ZA :=
  if (0 ≤ w ∧ w ≤ nI (A.1.1 0) - 1) ∧ (0 ≤ a ∧ a ≤ 2) then
    (let r := if a = 0 then aSows (A.1.1 (112 + w.toNatClampNeg)) w x else if a = 1 then aCuts (A.1.1 (112 + w.toNatClampNeg)) w (nI (A.1.1 (120 + w.toNatClampNeg))) x else aTells (A.1.1 (112 + w.toNatClampNeg)) w (nI (A.1.1 (120 + w.toNatClampNeg))) x
     (r.1, (A.1, A.2.1, r.2, A.2.2.2)))
  else (0, (A.1, A.2.1, [], A.2.2.2))
theorem c_mact {w a x : Int32} (hr : MRel A α) (h : ∀ β, MRel (sp_act A w a x).2 β → frI mId α β → post (some (.int (sp_act A w a x).1)) β) : ZK G (d + 9) mX12_act [.ref (G.1 + 34), .int w, .int a, .int x] α post := by
  have hm := hr.mw
  have v0 := hr.at (i := 0) (by omega) (by omega)
  have b0 : A.1.1 0 ≤ 8 := hr.2.1.at (by omega) rfl
  have bad : ¬ ((0 ≤ w ∧ w ≤ nI (A.1.1 0) - 1) ∧ (0 ≤ a ∧ a ≤ 2)) → post (some (.int 0)) (sI α 34 29 0) := by
    intro hc
    have e : sp_act A w a x = (0, (A.1, A.2.1, [], A.2.2.2)) := if_neg hc
    rw [e] at h
    refine h _ (hr.act (l := []) (frI.sI (Or.inl rfl)) ?_ ?_ ⟨by decide, ?_, fun i hi => absurd hi (by simp)⟩) (frI.sI mid34)
    · rw [hI_sI, if_neg (by decide)]
    · rw [hI_sI, if_neg (by decide)]
    · rw [hI_sI, if_pos ⟨rfl, rfl⟩]; rfl
  have fin : ∀ (j : Nat) (r : Int32 × List Nat) (γ : AH), j < A.1.1 0 → w = nI j → r.2.length < 20 → sp_act A w a x = (r.1, (A.1, A.2.1, r.2, A.2.2.2)) → mAct γ (A.1.1 (112 + j)) w (nI (A.1.1 (120 + j))) r.2 → frT (sI (sI (sI (sI α 34 29 0) 34 30 (nI (A.1.1 (112 + j)))) 34 31 w) 34 32 (nI (A.1.1 (120 + j)))) γ → post (some (.int r.1)) γ := by
    intro j r γ hj hw hl e ha hf
    rw [e] at h
    refine h γ (hr.act (l := r.2) (((((frI.sI (Or.inl rfl)).tr (frI.sI (Or.inl rfl))).tr (frI.sI (Or.inl rfl))).tr (frI.sI (Or.inl rfl))).tr hf.1) ?_ ?_ ⟨by omega, ha.2.2.2.2.2.2.1, ha.2.2.2.2.2.2.2⟩) ((((((frI.sI mid34).tr (frI.sI mid34)).tr (frI.sI mid34)).tr (frI.sI mid34))).tr (hf.1.mono (fun k hk => hk.elim (fun e => e ▸ mid34) (fun e => e ▸ mid51))))
    · rw [hf.2 3 (by decide)]; simp [hI_sI]
    · rw [hf.2 17 (by decide)]; simp [hI_sI]
  refine ZK.of (n := 0) (by decide) (Nat.le_of_ble_eq_true rfl) rfl ?_
  refine Z_aload_n dX12_act_0 rfl rfl ?_
  refine Z_iconst (v := 0) dX12_act_1 (by decide) ?_
  refine Z_putI dX12_act_2 cl_12 fl_X12_304_12 (Or.inl fn_12_29) rfl (mw_i34 hm) rfl rfl ?_
  refine Z_aload_n dX12_act_5 rfl rfl ?_
  refine Z_iload_n dX12_act_6 rfl rfl ?_
  refine Z_V1z (ci := 12) dX12_act_7 to_X12_isWorker lk_X12_227 iv_X12_isWorker ⟨rfl, rfl⟩ (mw_i34 hm) (Nat.le_of_ble_eq_true rfl) ⟨rfl, rfl⟩ ⟨by decide, by decide⟩ ?_
  refine c_isWorker hm ?_
  rw [show hI (sI α 34 29 0) 35 0 = nI (A.1.1 0) from v0]
  refine Z_if_eq (tgt := 22) dX12_act_10 (by decide) (fun h10 => ?_) (fun h10 => ?_)
  · skip
    refine Z_iconst (v := 0) dX12_act_22 (by decide) ?_
    refine Z_iret dX12_act_23 rfl rfl ⟨by decide, by decide⟩ ?_
    first
      | exact bad (fun z => dec_f h10 z.1)
      | exact bad (fun z => dec_f h19 z.2)
  · skip
    refine Z_iload_n dX12_act_13 rfl rfl ?_
    refine Z_iconst (v := 0) dX12_act_14 (by decide) ?_
    refine Z_iconst (v := 2) dX12_act_15 (by decide) ?_
    refine Z_S3z dX12_act_16 to_X12_in lk_X12_69 sc_X12_in (Nat.le_of_ble_eq_true rfl) ⟨rfl, rfl⟩ ⟨by decide, by decide⟩ ?_
    refine c_in ?_
    refine Z_if_ne (tgt := 24) dX12_act_19 (by decide) (fun h19 => ?_) (fun h19 => ?_)
    · skip
      obtain ⟨j, hj, hwj⟩ := idx_lt (by omega) (dec_t h10)
      have hj8 : j < 8 := by omega
      refine Z_aload_n dX12_act_24 rfl rfl ?_
      refine Z_aload_n dX12_act_25 rfl rfl ?_
      refine Z_getR dX12_act_26 cl_12 fl_X12_9_12 rfl (mw_i34 hm) (mw_p34_1 hm) ?_
      refine Z_bipush (v := 112) dX12_act_29 (by decide) ?_
      refine Z_iload_n dX12_act_31 rfl rfl ?_
      refine Z_iadd dX12_act_32 ?_
      refine Z_ialdv dX12_act_33 (mw_i35 hm) (zix_e (m := 112 + j) (by rw [hwj]; exact nI_add 112 j) (by omega) (by decide)) (show hI (sI α 34 29 0) 35 (112 + j) = nI (A.1.1 (112 + j)) from hr.at (by omega) (by omega)) ?_
      refine Z_putI dX12_act_34 cl_12 fl_X12_313_12 (Or.inl fn_12_30) rfl (mw_i34 hm) rfl rfl ?_
      refine Z_aload_n dX12_act_37 rfl rfl ?_
      refine Z_iload_n dX12_act_38 rfl rfl ?_
      refine Z_putI dX12_act_39 cl_12 fl_X12_310_12 (Or.inl fn_12_31) rfl (mw_i34 hm) rfl rfl ?_
      refine Z_aload_n dX12_act_42 rfl rfl ?_
      refine Z_aload_n dX12_act_43 rfl rfl ?_
      refine Z_getR dX12_act_44 cl_12 fl_X12_9_12 rfl (mw_i34 hm) (mw_p34_1 hm) ?_
      refine Z_bipush (v := 120) dX12_act_47 (by decide) ?_
      refine Z_iload_n dX12_act_49 rfl rfl ?_
      refine Z_iadd dX12_act_50 ?_
      refine Z_ialdv dX12_act_51 (mw_i35 hm) (zix_e (m := 120 + j) (by rw [hwj]; exact nI_add 120 j) (by omega) (by decide)) (show hI (sI (sI (sI α 34 29 0) 34 30 (nI (A.1.1 (112 + j)))) 34 31 w) 35 (120 + j) = nI (A.1.1 (120 + j)) from hr.at (by omega) (by omega)) ?_
      refine Z_putI dX12_act_52 cl_12 fl_X12_325_12 (Or.inl fn_12_32) rfl (mw_i34 hm) rfl rfl ?_
      have hact : mAct (sI (sI (sI (sI α 34 29 0) 34 30 (nI (A.1.1 (112 + j)))) 34 31 w) 34 32 (nI (A.1.1 (120 + j)))) (A.1.1 (112 + j)) w (nI (A.1.1 (120 + j))) [] := ⟨hm, hr.2.1.at (by omega) (zbd_kind hj8), by simp [hI_sI], by simp [hI_sI], by simp [hI_sI], by decide, by simp [hI_sI]; rfl, fun i hi => absurd hi (by simp)⟩
      have hcl : w.toNatClampNeg = j := by rw [hwj]; exact nI_clamp (by omega)
      refine Z_iload_n dX12_act_55 rfl rfl ?_
      refine Z_if_ne (tgt := 67) dX12_act_56 (by decide) (fun h56 => ?_) (fun h56 => ?_)
      · skip
        refine Z_iload_n dX12_act_67 rfl rfl ?_
        refine Z_iconst (v := 1) dX12_act_68 (by decide) ?_
        refine Z_icmp_ne (tgt := 80) dX12_act_69 (by decide) (fun h69 => ?_) (fun h69 => ?_)
        · skip
          refine Z_aload_n dX12_act_80 rfl rfl ?_
          refine Z_iload_n dX12_act_81 rfl rfl ?_
          refine Z_V1z (ci := 12) dX12_act_82 to_X12_tellsActs lk_X12_337 iv_X12_tellsActs ⟨rfl, rfl⟩ (mw_i34 hm) (Nat.le_of_ble_eq_true rfl) ⟨rfl, rfl⟩ ⟨by decide, by decide⟩ ?_
          refine c_tellsActs (l := []) hact (by decide) (fun γ ha hf => ?_)
          refine Z_iret dX12_act_85 rfl rfl ⟨by decide, by decide⟩ ?_
          first
            | exact fin j (aSows (A.1.1 (112 + j)) w x) γ hj hwj (Nat.lt_of_le_of_lt (aSows_len _ _ _) (by decide)) (by unfold sp_act; rw [if_pos ⟨dec_t h10, dec_t h19⟩, hcl, if_pos h56]) ha hf
            | exact fin j (aCuts (A.1.1 (112 + j)) w (nI (A.1.1 (120 + j))) x) γ hj hwj (Nat.lt_of_le_of_lt (aCuts_len _ _ _ _) (by decide)) (by unfold sp_act; rw [if_pos ⟨dec_t h10, dec_t h19⟩, hcl, if_neg h56, if_pos h69]) ha hf
            | exact fin j (aTells (A.1.1 (112 + j)) w (nI (A.1.1 (120 + j))) x) γ hj hwj (by have := ha.2.2.2.2.2.1; simpa using this) (by unfold sp_act; rw [if_pos ⟨dec_t h10, dec_t h19⟩, hcl, if_neg h56, if_neg h69]) ha hf
        · skip
          refine Z_aload_n dX12_act_72 rfl rfl ?_
          refine Z_iload_n dX12_act_73 rfl rfl ?_
          refine Z_V1z (ci := 12) dX12_act_74 to_X12_cutsActs lk_X12_331 iv_X12_cutsActs ⟨rfl, rfl⟩ (mw_i34 hm) (Nat.le_of_ble_eq_true rfl) ⟨rfl, rfl⟩ ⟨by decide, by decide⟩ ?_
          refine c_cutsActs (l := []) hact (by decide) (fun γ ha hf => ?_)
          refine Z_goto (tgt := 85) dX12_act_77 (by decide) ?_
          refine Z_iret dX12_act_85 rfl rfl ⟨by decide, by decide⟩ ?_
          first
            | exact fin j (aSows (A.1.1 (112 + j)) w x) γ hj hwj (Nat.lt_of_le_of_lt (aSows_len _ _ _) (by decide)) (by unfold sp_act; rw [if_pos ⟨dec_t h10, dec_t h19⟩, hcl, if_pos h56]) ha hf
            | exact fin j (aCuts (A.1.1 (112 + j)) w (nI (A.1.1 (120 + j))) x) γ hj hwj (Nat.lt_of_le_of_lt (aCuts_len _ _ _ _) (by decide)) (by unfold sp_act; rw [if_pos ⟨dec_t h10, dec_t h19⟩, hcl, if_neg h56, if_pos h69]) ha hf
            | exact fin j (aTells (A.1.1 (112 + j)) w (nI (A.1.1 (120 + j))) x) γ hj hwj (by have := ha.2.2.2.2.2.1; simpa using this) (by unfold sp_act; rw [if_pos ⟨dec_t h10, dec_t h19⟩, hcl, if_neg h56, if_neg h69]) ha hf
      · skip
        refine Z_aload_n dX12_act_59 rfl rfl ?_
        refine Z_iload_n dX12_act_60 rfl rfl ?_
        refine Z_V1z (ci := 12) dX12_act_61 to_X12_sowsActs lk_X12_322 iv_X12_sowsActs ⟨rfl, rfl⟩ (mw_i34 hm) (Nat.le_of_ble_eq_true rfl) ⟨rfl, rfl⟩ ⟨by decide, by decide⟩ ?_
        refine c_sowsActs (l := []) hact (by decide) (fun γ ha hf => ?_)
        refine Z_goto (tgt := 85) dX12_act_64 (by decide) ?_
        refine Z_iret dX12_act_85 rfl rfl ⟨by decide, by decide⟩ ?_
        first
          | exact fin j (aSows (A.1.1 (112 + j)) w x) γ hj hwj (Nat.lt_of_le_of_lt (aSows_len _ _ _) (by decide)) (by unfold sp_act; rw [if_pos ⟨dec_t h10, dec_t h19⟩, hcl, if_pos h56]) ha hf
          | exact fin j (aCuts (A.1.1 (112 + j)) w (nI (A.1.1 (120 + j))) x) γ hj hwj (Nat.lt_of_le_of_lt (aCuts_len _ _ _ _) (by decide)) (by unfold sp_act; rw [if_pos ⟨dec_t h10, dec_t h19⟩, hcl, if_neg h56, if_pos h69]) ha hf
          | exact fin j (aTells (A.1.1 (112 + j)) w (nI (A.1.1 (120 + j))) x) γ hj hwj (by have := ha.2.2.2.2.2.1; simpa using this) (by unfold sp_act; rw [if_pos ⟨dec_t h10, dec_t h19⟩, hcl, if_neg h56, if_neg h69]) ha hf
    · skip
      refine Z_iconst (v := 0) dX12_act_22 (by decide) ?_
      refine Z_iret dX12_act_23 rfl rfl ⟨by decide, by decide⟩ ?_
      first
        | exact bad (fun z => dec_f h10 z.1)
        | exact bad (fun z => dec_f h19 z.2)
def sp_as (A : ZA) (w k : Int32) : Int32 := if (0 ≤ w ∧ w ≤ nI (A.1.1 0) - 1) ∧ (0 ≤ k ∧ k ≤ 6) then (if aUnder (A.1.1 (112 + w.toNatClampNeg)) k.toNatClampNeg then nI (A.1.1 (120 + w.toNatClampNeg)) else -6) else -1
theorem c_mas {w k : Int32} (hr : MRel A α) (h : post (some (.int (sp_as A w k))) α) : ZK G (d + 3) mX12_as [.ref (G.1 + 34), .int w, .int k] α post := by
  have hm := hr.mw
  have v0 := hr.at (i := 0) (by omega) (by omega)
  have b0 : A.1.1 0 ≤ 8 := hr.2.1.at (by omega) rfl
  refine ZK.of (n := 0) (by decide) (Nat.le_of_ble_eq_true rfl) rfl ?_
  refine Z_aload_n dX12_as_0 rfl rfl ?_
  refine Z_iload_n dX12_as_1 rfl rfl ?_
  refine Z_V1z (ci := 12) dX12_as_2 to_X12_isWorker lk_X12_227 iv_X12_isWorker ⟨rfl, rfl⟩ (mw_i34 hm) (Nat.le_of_ble_eq_true rfl) ⟨rfl, rfl⟩ ⟨by decide, by decide⟩ ?_
  refine c_isWorker hm ?_
  rw [v0]
  refine Z_if_eq (tgt := 18) dX12_as_5 (by decide) (fun h5 => ?_) (fun h5 => ?_)
  · skip
    refine Z_iconst (v := -1) dX12_as_18 (by decide) ?_
    refine Z_iret dX12_as_19 rfl rfl ⟨by decide, by decide⟩ ?_
    have e : sp_as A w k = -1 := if_neg (fun z => by first | exact dec_f h5 z.1 | exact dec_f h15 z.2)
    rw [e] at h; exact h
  · skip
    refine Z_iload_n dX12_as_8 rfl rfl ?_
    refine Z_iconst (v := 0) dX12_as_9 (by decide) ?_
    refine Z_bipush (v := 6) dX12_as_10 (by decide) ?_
    refine Z_S3z dX12_as_12 to_X12_in lk_X12_69 sc_X12_in (Nat.le_of_ble_eq_true rfl) ⟨rfl, rfl⟩ ⟨by decide, by decide⟩ ?_
    refine c_in ?_
    refine Z_if_ne (tgt := 20) dX12_as_15 (by decide) (fun h15 => ?_) (fun h15 => ?_)
    · skip
      obtain ⟨j, hj, rfl⟩ := idx_lt (by omega) (dec_t h5)
      obtain ⟨q, hq, rfl⟩ := arg_nI (n := 6) rfl rfl (dec_t h15)
      have bk : A.1.1 (112 + j) ≤ 6 := hr.2.1.at (by omega) (zbd_kind (by omega))
      have e : sp_as A (nI j) (nI q) = if aUnder (A.1.1 (112 + j)) q then nI (A.1.1 (120 + j)) else -6 := by
        unfold sp_as
        rw [if_pos ⟨dec_t h5, dec_t h15⟩, nI_clamp (by omega), nI_clamp (by omega)]
      rw [e] at h
      refine Z_aload_n dX12_as_20 rfl rfl ?_
      refine Z_getR dX12_as_21 cl_12 fl_X12_9_12 rfl (mw_i34 hm) (mw_p34_1 hm) ?_
      refine Z_bipush (v := 112) dX12_as_24 (by decide) ?_
      refine Z_iload_n dX12_as_26 rfl rfl ?_
      refine Z_iadd dX12_as_27 ?_
      refine Z_ialdv dX12_as_28 (mw_i35 hm) (zix_e (m := 112 + j) (nI_add 112 j) (by omega) (by decide)) (hr.at (by omega) (by omega)) ?_
      refine Z_iload_n dX12_as_29 rfl rfl ?_
      refine Z_S2z dX12_as_30 to_X12_isUnder lk_X12_316 sc_X12_isUnder (Nat.le_of_ble_eq_true rfl) ⟨rfl, rfl⟩ ⟨by decide, by decide⟩ ?_
      refine c_isUnder (by omega) (by omega) ?_
      refine Z_if_eq (tgt := 48) dX12_as_33 (by decide) (fun h33 => ?_) (fun h33 => ?_)
      · skip
        refine Z_bipush (v := -6) dX12_as_48 (by decide) ?_
        refine Z_iret dX12_as_50 rfl rfl ⟨by decide, by decide⟩ ?_
        first
          | (rw [if_pos (b2i_ne.mp h33)] at h; exact h)
          | (rw [if_neg (by rw [b2i_eq.mp h33]; decide)] at h; exact h)
      · skip
        refine Z_aload_n dX12_as_36 rfl rfl ?_
        refine Z_getR dX12_as_37 cl_12 fl_X12_9_12 rfl (mw_i34 hm) (mw_p34_1 hm) ?_
        refine Z_bipush (v := 120) dX12_as_40 (by decide) ?_
        refine Z_iload_n dX12_as_42 rfl rfl ?_
        refine Z_iadd dX12_as_43 ?_
        refine Z_ialdv dX12_as_44 (mw_i35 hm) (zix_e (m := 120 + j) (nI_add 120 j) (by omega) (by decide)) (hr.at (by omega) (by omega)) ?_
        refine Z_goto (tgt := 50) dX12_as_45 (by decide) ?_
        refine Z_iret dX12_as_50 rfl rfl ⟨by decide, by decide⟩ ?_
        first
          | (rw [if_pos (b2i_ne.mp h33)] at h; exact h)
          | (rw [if_neg (by rw [b2i_eq.mp h33]; decide)] at h; exact h)
    · skip
      refine Z_iconst (v := -1) dX12_as_18 (by decide) ?_
      refine Z_iret dX12_as_19 rfl rfl ⟨by decide, by decide⟩ ?_
      have e : sp_as A w k = -1 := if_neg (fun z => by first | exact dec_f h5 z.1 | exact dec_f h15 z.2)
      rw [e] at h; exact h
def sp_cov (σ : Nat → Nat) : Nat := if σ 4 = 0 then 0 else σ (182 + (σ 4 - 1))
def sp_pay (σ : Nat → Nat) (k : Nat) : Nat := if σ 4 = 0 then 1 else σ (167 + 3 * (σ 4 - 1) + k)
theorem hold_iff {σ4 : Nat} (h : σ4 ≤ 5) : nI σ4 - 1 = -1 ↔ σ4 = 0 := by
  have : σ4 = 0 ∨ σ4 = 1 ∨ σ4 = 2 ∨ σ4 = 3 ∨ σ4 = 4 ∨ σ4 = 5 := by omega
  rcases this with rfl | rfl | rfl | rfl | rfl | rfl <;> decide
theorem c_coverTold (hr : MRel A α) (h : post (some (.int (nI (sp_cov A.1.1)))) α) : ZK G (d + 1) mX12_coverTold [.ref (G.1 + 34)] α post := by
  have hm := hr.mw
  have v4 := hr.2.2.1.2.1
  have b4 : A.1.1 4 ≤ 5 := hr.2.1.at (by omega) rfl
  refine ZK.of (n := 0) (by decide) (Nat.le_of_ble_eq_true rfl) rfl ?_
  refine Z_aload_n dX12_coverTold_0 rfl rfl ?_
  refine Z_getR dX12_coverTold_1 cl_12 fl_X12_9_12 rfl (mw_i34 hm) (mw_p34_1 hm) ?_
  refine Z_iconst (v := 4) dX12_coverTold_4 (by decide) ?_
  refine Z_ialdv dX12_coverTold_5 (mw_i35 hm) (zix_k (m := 4) (by decide)) v4 ?_
  refine Z_iconst (v := -1) dX12_coverTold_6 (by decide) ?_
  refine Z_icmp_ne (tgt := 14) dX12_coverTold_7 (by decide) (fun h7 => ?_) (fun h7 => ?_)
  · skip
    have h0 : ¬ A.1.1 4 = 0 := fun z => h7 ((hold_iff b4).mpr z)
    have e : sp_cov A.1.1 = A.1.1 (182 + (A.1.1 4 - 1)) := if_neg h0
    have e4 : nI (A.1.1 4) - 1 = nI (A.1.1 4 - 1) := pk_sub (b := 1) (by omega)
    refine Z_aload_n dX12_coverTold_14 rfl rfl ?_
    refine Z_getR dX12_coverTold_15 cl_12 fl_X12_9_12 rfl (mw_i34 hm) (mw_p34_1 hm) ?_
    refine Z_sipush (v := 182) dX12_coverTold_18 (by decide) ?_
    refine Z_aload_n dX12_coverTold_21 rfl rfl ?_
    refine Z_getR dX12_coverTold_22 cl_12 fl_X12_9_12 rfl (mw_i34 hm) (mw_p34_1 hm) ?_
    refine Z_iconst (v := 4) dX12_coverTold_25 (by decide) ?_
    refine Z_ialdv dX12_coverTold_26 (mw_i35 hm) (zix_k (m := 4) (by decide)) v4 ?_
    refine Z_iadd dX12_coverTold_27 ?_
    refine Z_ialdv dX12_coverTold_28 (mw_i35 hm) (zix_e (m := 182 + (A.1.1 4 - 1)) (by rw [e4]; exact nI_add 182 _) (by omega) (by decide)) (hr.at (by omega) (by omega)) ?_
    refine Z_iret dX12_coverTold_29 rfl rfl ⟨by decide, by decide⟩ ?_
    rw [e] at h; exact h
  · skip
    have e : sp_cov A.1.1 = 0 := if_pos ((hold_iff b4).mp h7)
    refine Z_iconst (v := 0) dX12_coverTold_10 (by decide) ?_
    refine Z_goto (tgt := 29) dX12_coverTold_11 (by decide) ?_
    refine Z_iret dX12_coverTold_29 rfl rfl ⟨by decide, by decide⟩ ?_
    rw [e] at h; exact h
theorem c_mpay {k : Nat} (hk : k < 3) (hr : MRel A α) (h : post (some (.int (nI (sp_pay A.1.1 k)))) α) : ZK G (d + 1) mX12_pay [.ref (G.1 + 34), .int (nI k)] α post := by
  have hm := hr.mw
  have v4 := hr.2.2.1.2.1
  have b4 : A.1.1 4 ≤ 5 := hr.2.1.at (by omega) rfl
  refine ZK.of (n := 0) (by decide) (Nat.le_of_ble_eq_true rfl) rfl ?_
  refine Z_aload_n dX12_pay_0 rfl rfl ?_
  refine Z_getR dX12_pay_1 cl_12 fl_X12_9_12 rfl (mw_i34 hm) (mw_p34_1 hm) ?_
  refine Z_iconst (v := 4) dX12_pay_4 (by decide) ?_
  refine Z_ialdv dX12_pay_5 (mw_i35 hm) (zix_k (m := 4) (by decide)) v4 ?_
  refine Z_iconst (v := -1) dX12_pay_6 (by decide) ?_
  refine Z_icmp_ne (tgt := 14) dX12_pay_7 (by decide) (fun h7 => ?_) (fun h7 => ?_)
  · skip
    have h0 : ¬ A.1.1 4 = 0 := fun z => h7 ((hold_iff b4).mpr z)
    have e : sp_pay A.1.1 k = A.1.1 (167 + 3 * (A.1.1 4 - 1) + k) := if_neg h0
    have e4 : nI (A.1.1 4) - 1 = nI (A.1.1 4 - 1) := pk_sub (b := 1) (by omega)
    refine Z_aload_n dX12_pay_14 rfl rfl ?_
    refine Z_getR dX12_pay_15 cl_12 fl_X12_9_12 rfl (mw_i34 hm) (mw_p34_1 hm) ?_
    refine Z_sipush (v := 167) dX12_pay_18 (by decide) ?_
    refine Z_iconst (v := 3) dX12_pay_21 (by decide) ?_
    refine Z_aload_n dX12_pay_22 rfl rfl ?_
    refine Z_getR dX12_pay_23 cl_12 fl_X12_9_12 rfl (mw_i34 hm) (mw_p34_1 hm) ?_
    refine Z_iconst (v := 4) dX12_pay_26 (by decide) ?_
    refine Z_ialdv dX12_pay_27 (mw_i35 hm) (zix_k (m := 4) (by decide)) v4 ?_
    refine Z_imul dX12_pay_28 ?_
    refine Z_iadd dX12_pay_29 ?_
    refine Z_iload_n dX12_pay_30 rfl rfl ?_
    refine Z_iadd dX12_pay_31 ?_
    refine Z_ialdv dX12_pay_32 (mw_i35 hm) (zix_e (m := 167 + 3 * (A.1.1 4 - 1) + k) (by rw [e4, show (3 : Int32) = nI 3 from rfl, show (167 : Int32) = nI 167 from rfl, pk_mul, nI_add, nI_add]) (by omega) (by decide)) (hr.at (by omega) (by omega)) ?_
    refine Z_iret dX12_pay_33 rfl rfl ⟨by decide, by decide⟩ ?_
    rw [e] at h; exact h
  · skip
    have e : sp_pay A.1.1 k = 1 := if_pos ((hold_iff b4).mp h7)
    refine Z_iconst (v := 1) dX12_pay_10 (by decide) ?_
    refine Z_goto (tgt := 33) dX12_pay_11 (by decide) ?_
    refine Z_iret dX12_pay_33 rfl rfl ⟨by decide, by decide⟩ ?_
    rw [e] at h; exact h
end MP
