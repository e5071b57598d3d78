section MS2
variable {G : ZG} {d : Nat} {α β : AH} {post : Option Value → AH → Prop} {A : ZA}
/-- a work, or 3: none; the reference says -1 for none -/
def wI (w : Nat) : Int32 := if w = 3 then -1 else nI w
def zdw (q w : Nat) : Nat := if w = 3 then q else zdo q w
theorem nI_nm1 {w : Nat} (h : w < 2 ^ 31) : ¬ nI w = -1 := fun z => by
  have h1 := congrArg Int32.toInt z
  rw [nI_toInt h] at h1
  have : (-1 : Int32).toInt = -1 := rfl
  omega
theorem w4 {w : Nat} (h : w ≤ 3) : w = 0 ∨ w = 1 ∨ w = 2 ∨ w = 3 := by omega
theorem c_drawn {q s : Nat} (hq : q < 5832) (hs : s < 3) (hd : zds s ≤ q) (h : post (some (.int (nI (zd q s)))) α) : ZK G (d + 1) mX12_drawn [.int (nI q), .int (nI s)] α post := by
  refine ZK.of (n := 0) (by decide) (Nat.le_of_ble_eq_true rfl) rfl ?_
  rcases s3 hs with rfl | rfl | rfl
  · have e : nI q - 27 * 36 = nI (zd q 0) := pk_sub (b := 972) hd
    refine Z_iload_n dX12_drawn_0 rfl rfl ?_
    refine Z_bipush (v := 27) dX12_drawn_1 (by decide) ?_
    refine Z_iload_n dX12_drawn_3 rfl rfl ?_
    refine Z_if_ne (tgt := 12) dX12_drawn_4 (by decide) (fun h4 => ?_) (fun h4 => ?_)
    · skip
      exact absurd rfl h4
    · skip
      refine Z_bipush (v := 36) dX12_drawn_7 (by decide) ?_
      refine Z_goto (tgt := 23) dX12_drawn_9 (by decide) ?_
      refine Z_imul dX12_drawn_23 ?_
      refine Z_isub dX12_drawn_24 ?_
      refine Z_iret dX12_drawn_25 rfl rfl ⟨by decide, by decide⟩ ?_
      rw [e]; exact h
  · have e : nI q - 27 * 6 = nI (zd q 1) := pk_sub (b := 162) hd
    refine Z_iload_n dX12_drawn_0 rfl rfl ?_
    refine Z_bipush (v := 27) dX12_drawn_1 (by decide) ?_
    refine Z_iload_n dX12_drawn_3 rfl rfl ?_
    refine Z_if_ne (tgt := 12) dX12_drawn_4 (by decide) (fun h4 => ?_) (fun h4 => ?_)
    · skip
      refine Z_iload_n dX12_drawn_12 rfl rfl ?_
      refine Z_iconst (v := 1) dX12_drawn_13 (by decide) ?_
      refine Z_icmp_ne (tgt := 22) dX12_drawn_14 (by decide) (fun h14 => ?_) (fun h14 => ?_)
      · skip
        exact absurd rfl h14
      · skip
        refine Z_bipush (v := 6) dX12_drawn_17 (by decide) ?_
        refine Z_goto (tgt := 23) dX12_drawn_19 (by decide) ?_
        refine Z_imul dX12_drawn_23 ?_
        refine Z_isub dX12_drawn_24 ?_
        refine Z_iret dX12_drawn_25 rfl rfl ⟨by decide, by decide⟩ ?_
        rw [e]; exact h
    · skip
      exact absurd h4 (by decide)
  · have e : nI q - 27 * 1 = nI (zd q 2) := pk_sub (b := 27) hd
    refine Z_iload_n dX12_drawn_0 rfl rfl ?_
    refine Z_bipush (v := 27) dX12_drawn_1 (by decide) ?_
    refine Z_iload_n dX12_drawn_3 rfl rfl ?_
    refine Z_if_ne (tgt := 12) dX12_drawn_4 (by decide) (fun h4 => ?_) (fun h4 => ?_)
    · skip
      refine Z_iload_n dX12_drawn_12 rfl rfl ?_
      refine Z_iconst (v := 1) dX12_drawn_13 (by decide) ?_
      refine Z_icmp_ne (tgt := 22) dX12_drawn_14 (by decide) (fun h14 => ?_) (fun h14 => ?_)
      · skip
        refine Z_iconst (v := 1) dX12_drawn_22 (by decide) ?_
        refine Z_imul dX12_drawn_23 ?_
        refine Z_isub dX12_drawn_24 ?_
        refine Z_iret dX12_drawn_25 rfl rfl ⟨by decide, by decide⟩ ?_
        rw [e]; exact h
      · skip
        exact absurd h14 (by decide)
    · skip
      exact absurd h4 (by decide)
theorem c_done {q w : Nat} (hw : w ≤ 3) (h : post (some (.int (nI (zdw q w)))) α) : ZK G (d + 1) mX12_done [.int (nI q), .int (wI w)] α post := by
  refine ZK.of (n := 0) (by decide) (Nat.le_of_ble_eq_true rfl) rfl ?_
  rcases w4 hw with rfl | rfl | rfl | rfl
  · have e : nI q + 9 = nI (zdw q 0) := nI_add q 9
    refine Z_iload_n dX12_done_0 rfl rfl ?_
    refine Z_iconst (v := -1) dX12_done_1 (by decide) ?_
    refine Z_icmp_ne (tgt := 9) dX12_done_2 (by decide) (fun h2 => ?_) (fun h2 => ?_)
    · skip
      refine Z_iload_n dX12_done_9 rfl rfl ?_
      refine Z_iload_n dX12_done_10 rfl rfl ?_
      refine Z_if_ne (tgt := 19) dX12_done_11 (by decide) (fun h11 => ?_) (fun h11 => ?_)
      · skip
        exact absurd rfl h11
      · skip
        refine Z_bipush (v := 9) dX12_done_14 (by decide) ?_
        refine Z_goto (tgt := 29) dX12_done_16 (by decide) ?_
        refine Z_iadd dX12_done_29 ?_
        refine Z_iret dX12_done_30 rfl rfl ⟨by decide, by decide⟩ ?_
        rw [e]; exact h
    · skip
      exact absurd h2 (by decide)
  · have e : nI q + 3 = nI (zdw q 1) := nI_add q 3
    refine Z_iload_n dX12_done_0 rfl rfl ?_
    refine Z_iconst (v := -1) dX12_done_1 (by decide) ?_
    refine Z_icmp_ne (tgt := 9) dX12_done_2 (by decide) (fun h2 => ?_) (fun h2 => ?_)
    · skip
      refine Z_iload_n dX12_done_9 rfl rfl ?_
      refine Z_iload_n dX12_done_10 rfl rfl ?_
      refine Z_if_ne (tgt := 19) dX12_done_11 (by decide) (fun h11 => ?_) (fun h11 => ?_)
      · skip
        refine Z_iload_n dX12_done_19 rfl rfl ?_
        refine Z_iconst (v := 1) dX12_done_20 (by decide) ?_
        refine Z_icmp_ne (tgt := 28) dX12_done_21 (by decide) (fun h21 => ?_) (fun h21 => ?_)
        · skip
          exact absurd rfl h21
        · skip
          refine Z_iconst (v := 3) dX12_done_24 (by decide) ?_
          refine Z_goto (tgt := 29) dX12_done_25 (by decide) ?_
          refine Z_iadd dX12_done_29 ?_
          refine Z_iret dX12_done_30 rfl rfl ⟨by decide, by decide⟩ ?_
          rw [e]; exact h
      · skip
        exact absurd h11 (by decide)
    · skip
      exact absurd h2 (by decide)
  · have e : nI q + 1 = nI (zdw q 2) := nI_add q 1
    refine Z_iload_n dX12_done_0 rfl rfl ?_
    refine Z_iconst (v := -1) dX12_done_1 (by decide) ?_
    refine Z_icmp_ne (tgt := 9) dX12_done_2 (by decide) (fun h2 => ?_) (fun h2 => ?_)
    · skip
      refine Z_iload_n dX12_done_9 rfl rfl ?_
      refine Z_iload_n dX12_done_10 rfl rfl ?_
      refine Z_if_ne (tgt := 19) dX12_done_11 (by decide) (fun h11 => ?_) (fun h11 => ?_)
      · skip
        refine Z_iload_n dX12_done_19 rfl rfl ?_
        refine Z_iconst (v := 1) dX12_done_20 (by decide) ?_
        refine Z_icmp_ne (tgt := 28) dX12_done_21 (by decide) (fun h21 => ?_) (fun h21 => ?_)
        · skip
          refine Z_iconst (v := 1) dX12_done_28 (by decide) ?_
          refine Z_iadd dX12_done_29 ?_
          refine Z_iret dX12_done_30 rfl rfl ⟨by decide, by decide⟩ ?_
          rw [e]; exact h
        · skip
          exact absurd h21 (by decide)
      · skip
        exact absurd h11 (by decide)
    · skip
      exact absurd h2 (by decide)
  · skip
    refine Z_iload_n dX12_done_0 rfl rfl ?_
    refine Z_iconst (v := -1) dX12_done_1 (by decide) ?_
    refine Z_icmp_ne (tgt := 9) dX12_done_2 (by decide) (fun h2 => ?_) (fun h2 => ?_)
    · skip
      exact absurd rfl h2
    · skip
      refine Z_iload_n dX12_done_5 rfl rfl ?_
      refine Z_goto (tgt := 30) dX12_done_6 (by decide) ?_
      refine Z_iret dX12_done_30 rfl rfl ⟨by decide, by decide⟩ ?_
      exact h
/-- the state now -/
def zq (σ : Nat → Nat) : Nat := 27 * (36 * σ 6 + 6 * σ 7 + σ 8) + (9 * σ 9 + 3 * σ 10 + σ 11)
theorem c_stateOf {a b c g : Nat} (h : post (some (.int (nI (27 * (36 * a + 6 * b + c) + g)))) α) : ZK G (d + 1) mX12_stateOf [.int (nI a), .int (nI b), .int (nI c), .int (nI g)] α post := by
  have e : 27 * (36 * nI a + 6 * nI b + nI c) + nI g = nI (27 * (36 * a + 6 * b + c) + g) := by
    rw [show (27 : Int32) = nI 27 from rfl, show (36 : Int32) = nI 36 from rfl, show (6 : Int32) = nI 6 from rfl, pk_mul, pk_mul, nI_add, nI_add, pk_mul, nI_add]
  refine ZK.of (n := 0) (by decide) (Nat.le_of_ble_eq_true rfl) rfl ?_
  refine Z_bipush (v := 27) dX12_stateOf_0 (by decide) ?_
  refine Z_bipush (v := 36) dX12_stateOf_2 (by decide) ?_
  refine Z_iload_n dX12_stateOf_4 rfl rfl ?_
  refine Z_imul dX12_stateOf_5 ?_
  refine Z_bipush (v := 6) dX12_stateOf_6 (by decide) ?_
  refine Z_iload_n dX12_stateOf_8 rfl rfl ?_
  refine Z_imul dX12_stateOf_9 ?_
  refine Z_iadd dX12_stateOf_10 ?_
  refine Z_iload_n dX12_stateOf_11 rfl rfl ?_
  refine Z_iadd dX12_stateOf_12 ?_
  refine Z_imul dX12_stateOf_13 ?_
  refine Z_iload_n dX12_stateOf_14 rfl rfl ?_
  refine Z_iadd dX12_stateOf_15 ?_
  refine Z_iret dX12_stateOf_16 rfl rfl ⟨by decide, by decide⟩ ?_
  rw [e]; exact h
theorem c_stateNow (hr : MRel A α) (h : post (some (.int (nI (zq A.1.1)))) α) : ZK G (d + 2) mX12_stateNow [.ref (G.1 + 34)] α post := by
  have hm := hr.mw
  have e : 9 * nI (A.1.1 9) + 3 * nI (A.1.1 10) + nI (A.1.1 11) = nI (9 * A.1.1 9 + 3 * A.1.1 10 + A.1.1 11) := by
    rw [show (9 : Int32) = nI 9 from rfl, show (3 : Int32) = nI 3 from rfl, pk_mul, pk_mul, nI_add, nI_add]
  refine ZK.of (n := 0) (by decide) (Nat.le_of_ble_eq_true rfl) rfl ?_
  refine Z_aload_n dX12_stateNow_0 rfl rfl ?_
  refine Z_getR dX12_stateNow_1 cl_12 fl_X12_9_12 rfl (mw_i34 hm) (mw_p34_1 hm) ?_
  refine Z_bipush (v := 6) dX12_stateNow_4 (by decide) ?_
  refine Z_ialdv dX12_stateNow_6 (mw_i35 hm) (zix_k (m := 6) (by decide)) (hr.at (i := 6) (by omega) (by omega)) ?_
  refine Z_aload_n dX12_stateNow_7 rfl rfl ?_
  refine Z_getR dX12_stateNow_8 cl_12 fl_X12_9_12 rfl (mw_i34 hm) (mw_p34_1 hm) ?_
  refine Z_bipush (v := 7) dX12_stateNow_11 (by decide) ?_
  refine Z_ialdv dX12_stateNow_13 (mw_i35 hm) (zix_k (m := 7) (by decide)) (hr.at (i := 7) (by omega) (by omega)) ?_
  refine Z_aload_n dX12_stateNow_14 rfl rfl ?_
  refine Z_getR dX12_stateNow_15 cl_12 fl_X12_9_12 rfl (mw_i34 hm) (mw_p34_1 hm) ?_
  refine Z_bipush (v := 8) dX12_stateNow_18 (by decide) ?_
  refine Z_ialdv dX12_stateNow_20 (mw_i35 hm) (zix_k (m := 8) (by decide)) (hr.at (i := 8) (by omega) (by omega)) ?_
  refine Z_bipush (v := 9) dX12_stateNow_21 (by decide) ?_
  refine Z_aload_n dX12_stateNow_23 rfl rfl ?_
  refine Z_getR dX12_stateNow_24 cl_12 fl_X12_9_12 rfl (mw_i34 hm) (mw_p34_1 hm) ?_
  refine Z_bipush (v := 9) dX12_stateNow_27 (by decide) ?_
  refine Z_ialdv dX12_stateNow_29 (mw_i35 hm) (zix_k (m := 9) (by decide)) (hr.at (i := 9) (by omega) (by omega)) ?_
  refine Z_imul dX12_stateNow_30 ?_
  refine Z_iconst (v := 3) dX12_stateNow_31 (by decide) ?_
  refine Z_aload_n dX12_stateNow_32 rfl rfl ?_
  refine Z_getR dX12_stateNow_33 cl_12 fl_X12_9_12 rfl (mw_i34 hm) (mw_p34_1 hm) ?_
  refine Z_bipush (v := 10) dX12_stateNow_36 (by decide) ?_
  refine Z_ialdv dX12_stateNow_38 (mw_i35 hm) (zix_k (m := 10) (by decide)) (hr.at (i := 10) (by omega) (by omega)) ?_
  refine Z_imul dX12_stateNow_39 ?_
  refine Z_iadd dX12_stateNow_40 ?_
  refine Z_aload_n dX12_stateNow_41 rfl rfl ?_
  refine Z_getR dX12_stateNow_42 cl_12 fl_X12_9_12 rfl (mw_i34 hm) (mw_p34_1 hm) ?_
  refine Z_bipush (v := 11) dX12_stateNow_45 (by decide) ?_
  refine Z_ialdv dX12_stateNow_47 (mw_i35 hm) (zix_k (m := 11) (by decide)) (hr.at (i := 11) (by omega) (by omega)) ?_
  refine Z_iadd dX12_stateNow_48 ?_
  refine Z_S4z dX12_stateNow_49 to_X12_stateOf lk_X12_168 sc_X12_stateOf (Nat.le_of_ble_eq_true rfl) ⟨rfl, rfl⟩ ⟨by decide, by decide⟩ ?_
  rw [e]
  refine c_stateOf ?_
  refine Z_iret dX12_stateNow_52 rfl rfl ⟨by decide, by decide⟩ ?_
  exact h
theorem zq_ok {σ : Nat → Nat} (h : SB σ) : zq σ < 5832 ∧ zla (zq σ) = zrest σ ∧ (∀ s, s < 3 → zl (zq σ) s = σ (6 + s)) ∧ ∀ k, k < 3 → zg (zq σ) k = σ (9 + k) := by
  have b6 : σ 6 ≤ 5 := h.at (by omega) rfl
  have b7 : σ 7 ≤ 5 := h.at (by omega) rfl
  have b8 : σ 8 ≤ 5 := h.at (by omega) rfl
  have b9 : σ 9 ≤ 2 := h.at (by omega) rfl
  have b10 : σ 10 ≤ 2 := h.at (by omega) rfl
  have b11 : σ 11 ≤ 2 := h.at (by omega) rfl
  have l0 : zl (zq σ) 0 = σ 6 := by simp [zl, zq]; omega
  have l1 : zl (zq σ) 1 = σ 7 := by simp [zl, zq]; omega
  have l2 : zl (zq σ) 2 = σ 8 := by simp [zl, zq]; omega
  refine ⟨by unfold zq; omega, by unfold zla zrest; rw [l0, l1, l2], fun s hs => ?_, fun k hk => ?_⟩
  · rcases s3 hs with rfl | rfl | rfl
    · exact l0
    · exact l1
    · exact l2
  · rcases s3 hk with rfl | rfl | rfl
    · simp [zg, zq]; omega
    · simp [zg, zq]; omega
    · simp [zg, zq]; omega
def zoq (q : Nat) : Nat := zord (zl q 0) (zl q 1) (zl q 2)
theorem c_ordersOf {q : Nat} (hq : q < 5832) (h : post (some (.long (lN (zoq q)))) α) : ZK G (d + 3) mX12_ordersOf [.int (nI q)] α post := by
  refine ZK.of (n := 0) (by decide) (Nat.le_of_ble_eq_true rfl) rfl ?_
  refine Z_iload_n dX12_ordersOf_0 rfl rfl ?_
  refine Z_iconst (v := 0) dX12_ordersOf_1 (by decide) ?_
  refine Z_S2z dX12_ordersOf_2 to_X12_left lk_X12_172 sc_X12_left (Nat.le_of_ble_eq_true rfl) ⟨rfl, rfl⟩ ⟨by decide, by decide⟩ ?_
  refine c_left (s := 0) hq (by omega) ?_
  refine Z_iload_n dX12_ordersOf_5 rfl rfl ?_
  refine Z_iconst (v := 1) dX12_ordersOf_6 (by decide) ?_
  refine Z_S2z dX12_ordersOf_7 to_X12_left lk_X12_172 sc_X12_left (Nat.le_of_ble_eq_true rfl) ⟨rfl, rfl⟩ ⟨by decide, by decide⟩ ?_
  refine c_left (s := 1) hq (by omega) ?_
  refine Z_iload_n dX12_ordersOf_10 rfl rfl ?_
  refine Z_iconst (v := 2) dX12_ordersOf_11 (by decide) ?_
  refine Z_S2z dX12_ordersOf_12 to_X12_left lk_X12_172 sc_X12_left (Nat.le_of_ble_eq_true rfl) ⟨rfl, rfl⟩ ⟨by decide, by decide⟩ ?_
  refine c_left (s := 2) hq (by omega) ?_
  refine Z_S3z dX12_ordersOf_15 to_X12_ordersWith lk_X12_198 sc_X12_ordersWith (Nat.le_of_ble_eq_true rfl) ⟨rfl, rfl⟩ ⟨by decide, by decide⟩ ?_
  refine c_ordersWith (zla_le hq) ?_
  refine Z_lret dX12_ordersOf_18 rfl ⟨by decide, by decide⟩ ?_
  exact h
def zpays (pay : Nat → Nat) (q w : Nat) : Nat := if w = 3 then 0 else if zg q w = 1 then pay w else 0
theorem c_pays {q w : Nat} (hq : q < 5832) (hw : w ≤ 3) (hr : MRel A α) (h : post (some (.int (nI (zpays (sp_pay A.1.1) q w)))) α) : ZK G (d + 2) mX12_pays [.ref (G.1 + 34), .int (nI q), .int (wI w)] α post := by
  have hm := hr.mw
  have hg := zg_le (q := q) (k := w)
  refine ZK.of (n := 0) (by decide) (Nat.le_of_ble_eq_true rfl) rfl ?_
  by_cases h3 : w = 3
  · subst h3
    refine Z_iload_n dX12_pays_0 rfl rfl ?_
    refine Z_iconst (v := -1) dX12_pays_1 (by decide) ?_
    refine Z_icmp_eq (tgt := 22) dX12_pays_2 (by decide) (fun h2 => ?_) (fun h2 => ?_)
    · skip
      refine Z_iconst (v := 0) dX12_pays_22 (by decide) ?_
      refine Z_iret dX12_pays_23 rfl rfl ⟨by decide, by decide⟩ ?_
      exact h
    · skip
      exact absurd rfl h2
  · have ew : wI w = nI w := if_neg h3
    have ez : zpays (sp_pay A.1.1) q w = if zg q w = 1 then sp_pay A.1.1 w else 0 := if_neg h3
    rw [ew]
    rw [ez] at h
    refine Z_iload_n dX12_pays_0 rfl rfl ?_
    refine Z_iconst (v := -1) dX12_pays_1 (by decide) ?_
    refine Z_icmp_eq (tgt := 22) dX12_pays_2 (by decide) (fun h2 => ?_) (fun h2 => ?_)
    · skip
      exact absurd h2 (nI_nm1 (by omega))
    · skip
      refine Z_iload_n dX12_pays_5 rfl rfl ?_
      refine Z_iload_n dX12_pays_6 rfl rfl ?_
      refine Z_S2z dX12_pays_7 to_X12_stageOf lk_X12_182 sc_X12_stageOf (Nat.le_of_ble_eq_true rfl) ⟨rfl, rfl⟩ ⟨by decide, by decide⟩ ?_
      refine c_stageOf hq (by omega) ?_
      refine Z_iconst (v := 1) dX12_pays_10 (by decide) ?_
      refine Z_icmp_ne (tgt := 22) dX12_pays_11 (by decide) (fun h11 => ?_) (fun h11 => ?_)
      · skip
        refine Z_iconst (v := 0) dX12_pays_22 (by decide) ?_
        refine Z_iret dX12_pays_23 rfl rfl ⟨by decide, by decide⟩ ?_
        first
          | (rw [if_pos ((nI_eq (a := zg q w) (b := 1) (by omega) (by omega)).mp h11)] at h; exact h)
          | (rw [if_neg (fun z => h11 (by rw [z]; rfl))] at h; exact h)
      · skip
        refine Z_aload_n dX12_pays_14 rfl rfl ?_
        refine Z_iload_n dX12_pays_15 rfl rfl ?_
        refine Z_V1z (ci := 12) dX12_pays_16 to_X12_pay lk_X12_161 iv_X12_pay ⟨rfl, rfl⟩ (mw_i34 hm) (Nat.le_of_ble_eq_true rfl) ⟨rfl, rfl⟩ ⟨by decide, by decide⟩ ?_
        refine c_mpay (by omega) hr ?_
        refine Z_goto (tgt := 23) dX12_pays_19 (by decide) ?_
        refine Z_iret dX12_pays_23 rfl rfl ⟨by decide, by decide⟩ ?_
        first
          | (rw [if_pos ((nI_eq (a := zg q w) (b := 1) (by omega) (by omega)).mp h11)] at h; exact h)
          | (rw [if_neg (fun z => h11 (by rw [z]; rfl))] at h; exact h)
/-- looks(): a new stamp; the day and the rest that are asked from -/
def mAsk (α : AH) (t D R : Nat) : Prop := mStamp α t ∧ hI α 34 11 = nI D ∧ hI α 34 12 = nI R
theorem MRel.f34 {j : Nat} {x : Int32} (hr : MRel A α) (h3 : j ≠ 3) (h17 : j ≠ 17) (h29 : j ≠ 29) : MRel A (sI α 34 j x) := by
  obtain ⟨hm, hb, hrow, himg, htr, t, htb, ht⟩ := hr
  have e : ∀ k, k ≠ 34 → hI (sI α 34 j x) k = hI α k := fun k h1 => sI_ne h1
  have e4 : ∀ i, i ≠ j → hI (sI α 34 j x) 34 i = hI α 34 i := fun i hi => by rw [hI_sI, if_neg (fun z => hi z.2)]
  refine ⟨hm, hb, by rw [e 35 (by decide)]; exact hrow, ?_, ⟨htr.1, by rw [e4 29 (Ne.symm h29)]; exact htr.2.1, by rw [e 51 (by decide)]; exact htr.2.2⟩, t, htb, ht.1, by rw [e4 17 (Ne.symm h17)]; exact ht.2.1, by rw [e 39 (by decide)]; exact ht.2.2.1, fun r hr => by rw [e r (by omega)]; exact ht.2.2.2 r hr⟩
  show (match A.2.1 with
      | none => hI (sI α 34 j x) 34 3 = 0
      | some q => hI (sI α 34 j x) 34 3 = 1 ∧ SB q.1 ∧ mRow (hI (sI α 34 j x) 36) q.1 q.2)
  rw [e4 3 (Ne.symm h3), e 36 (by decide)]
  exact himg
theorem mStamp.f34 {t j : Nat} {x : Int32} (ht : mStamp α t) (h17 : j ≠ 17) : mStamp (sI α 34 j x) t := by
  refine ⟨ht.1, by rw [hI_sI, if_neg (fun z => h17 z.2.symm)]; exact ht.2.1, by rw [sI_ne (by decide)]; exact ht.2.2.1, fun r hr => by rw [sI_ne (by omega)]; exact ht.2.2.2 r hr⟩
theorem mStamp.uq {t t' : Nat} (h : mStamp α t) (h' : mStamp α t') : t = t' := (nI_eq (by have := h.1; omega) (by have := h'.1; omega)).mp (h.2.1.symm.trans h'.2.1)
theorem MRel.tb {t : Nat} (hr : MRel A α) (ht : mStamp α t) : t ≤ A.2.2.2 := by
  obtain ⟨-, -, -, -, -, t', htb, ht'⟩ := hr
  rw [ht.uq ht']; exact htb
theorem MRel.t17 {t : Nat} (hr : MRel A α) (ht : mStamp α t) (hb : t + 1 < 1000) : MRel (zup A 1) (sI α 34 17 (nI (t + 1))) ∧ mStamp (sI α 34 17 (nI (t + 1))) (t + 1) := by
  have hs : mStamp (sI α 34 17 (nI (t + 1))) (t + 1) := by
    refine ⟨hb, by rw [hI_sI, if_pos ⟨rfl, rfl⟩], fun i => ?_, fun r hr i => ?_⟩
    · obtain ⟨q, h1, h2⟩ := ht.2.2.1 i
      exact ⟨q, by omega, by rw [sI_ne (by decide)]; exact h2⟩
    · obtain ⟨q, h1, h2⟩ := ht.2.2.2 r hr i
      exact ⟨q, by omega, by rw [sI_ne (by omega)]; exact h2⟩
  have htb := hr.tb ht
  obtain ⟨hm, hb', hrow, himg, htr, -⟩ := hr
  have e : ∀ k, k ≠ 34 → hI (sI α 34 17 (nI (t + 1))) k = hI α k := fun k h1 => sI_ne h1
  have e4 : ∀ i, i ≠ 17 → hI (sI α 34 17 (nI (t + 1))) 34 i = hI α 34 i := fun i hi => by rw [hI_sI, if_neg (fun z => hi z.2)]
  refine ⟨⟨hm, hb', by rw [e 35 (by decide)]; exact hrow, ?_, ⟨htr.1, by rw [e4 29 (by decide)]; exact htr.2.1, by rw [e 51 (by decide)]; exact htr.2.2⟩, t + 1, Nat.succ_le_succ htb, hs⟩, hs⟩
  show (match A.2.1 with
      | none => hI (sI α 34 17 (nI (t + 1))) 34 3 = 0
      | some q => hI (sI α 34 17 (nI (t + 1))) 34 3 = 1 ∧ SB q.1 ∧ mRow (hI (sI α 34 17 (nI (t + 1))) 36) q.1 q.2)
  rw [e4 3 (by decide), e 36 (by decide)]
  exact himg
theorem c_asksFromNow {t : Nat} (hr : MRel A α) (ht : mStamp α t) (h : ∀ β, MRel A β → mAsk β t (A.1.1 5) (zrest A.1.1) → frI (fun k => k = 34) α β → (∀ k, k ≠ 34 → hI β k = hI α k) → (∀ j, j ≠ 11 → j ≠ 12 → hI β 34 j = hI α 34 j) → hJ β = hJ α → post none β) : ZK G (d + 2) mX12_asksFromNow [.ref (G.1 + 34)] α post := by
  have hm := hr.mw
  refine ZK.of (n := 0) (by decide) (Nat.le_of_ble_eq_true rfl) rfl ?_
  refine Z_aload_n dX12_asksFromNow_0 rfl rfl ?_
  refine Z_aload_n dX12_asksFromNow_1 rfl rfl ?_
  refine Z_getR dX12_asksFromNow_2 cl_12 fl_X12_9_12 rfl (mw_i34 hm) (mw_p34_1 hm) ?_
  refine Z_iconst (v := 5) dX12_asksFromNow_5 (by decide) ?_
  refine Z_ialdv dX12_asksFromNow_6 (mw_i35 hm) (zix_k (m := 5) (by decide)) (hr.at (i := 5) (by omega) (by omega)) ?_
  refine Z_putI dX12_asksFromNow_7 cl_12 fl_X12_176_12 (Or.inl fn_12_11) rfl (mw_i34 hm) rfl rfl ?_
  refine Z_aload_n dX12_asksFromNow_10 rfl rfl ?_
  refine Z_aload_n dX12_asksFromNow_11 rfl rfl ?_
  refine Z_V0z (ci := 12) dX12_asksFromNow_12 to_X12_rest lk_X12_158 iv_X12_rest ⟨rfl, rfl⟩ (mw_i34 hm) (Nat.le_of_ble_eq_true rfl) ⟨rfl, rfl⟩ ⟨by decide, by decide⟩ ?_
  refine c_rest' (hr.f34 (by decide) (by decide) (by decide)) ?_
  refine Z_putI dX12_asksFromNow_15 cl_12 fl_X12_179_12 (Or.inl fn_12_12) rfl (mw_i34 hm) rfl rfl ?_
  refine Z_vret dX12_asksFromNow_18 rfl ⟨by decide, by decide⟩ ?_
  refine h _ ((hr.f34 (by decide) (by decide) (by decide)).f34 (by decide) (by decide) (by decide)) ⟨(ht.f34 (by decide)).f34 (by decide), by simp [hI_sI], by simp [hI_sI]⟩ ((frI.sI (F := fun k => k = 34) rfl).tr (frI.sI rfl)) (fun k hk => (sI_ne hk).trans (sI_ne hk)) (fun j h1 h2 => ?_) rfl
  rw [hI_sI, if_neg (fun z => h2 z.2), hI_sI, if_neg (fun z => h1 z.2)]
theorem c_looks {t : Nat} (hr : MRel A α) (ht : mStamp α t) (hb : t + 1 < 1000) (h : ∀ β, MRel (zup A 1) β → mAsk β (t + 1) (A.1.1 5) (zrest A.1.1) → frI (fun k => k = 34) α β → (∀ k, k ≠ 34 → hI β k = hI α k) → (∀ j, j ≠ 11 → j ≠ 12 → j ≠ 17 → hI β 34 j = hI α 34 j) → hJ β = hJ α → post none β) : ZK G (d + 3) mX12_looks [.ref (G.1 + 34)] α post := by
  have hm := hr.mw
  refine ZK.of (n := 0) (by decide) (Nat.le_of_ble_eq_true rfl) rfl ?_
  refine Z_aload_n dX12_looks_0 rfl rfl ?_
  refine Z_dup dX12_looks_1 rfl ?_
  refine Z_getIv dX12_looks_2 cl_12 fl_X12_188_12 rfl (mw_i34 hm) ht.2.1 ?_
  refine Z_iconst (v := 1) dX12_looks_5 (by decide) ?_
  refine Z_iadd dX12_looks_6 ?_
  refine Z_putI dX12_looks_7 cl_12 fl_X12_188_12 (Or.inl fn_12_17) rfl (mw_i34 hm) rfl rfl ?_
  refine Z_aload_n dX12_looks_10 rfl rfl ?_
  refine Z_V0z (ci := 12) dX12_looks_11 to_X12_asksFromNow lk_X12_224 iv_X12_asksFromNow ⟨rfl, rfl⟩ (mw_i34 hm) (Nat.le_of_ble_eq_true rfl) ⟨rfl, rfl⟩ ⟨by decide, by decide⟩ ?_
  rw [nI_1]
  refine c_asksFromNow (hr.t17 ht hb).1 (hr.t17 ht hb).2 (fun β r1 a1 f1 g1 g2 g3 => ?_)
  refine Z_vret dX12_looks_14 rfl ⟨by decide, by decide⟩ ?_
  refine h β r1 a1 ((frI.sI (F := fun k => k = 34) rfl).tr f1) (fun k hk => (g1 k hk).trans (sI_ne hk)) (fun j h1 h2 h3 => (g2 j h1 h2).trans ?_) g3
  rw [hI_sI, if_neg (fun z => h3 z.2)]
end MS2
