section CP1
variable {G : ZG} {d : Nat} {α β : AH} {post : Option Value → AH → Prop} {Γ : Nat → VC} {A : ZA}
theorem CRel.now {S : ZS} (h : CRel Γ A α) (hf : frI (fun k => 5 ≤ k ∧ k ≤ 10) α β) (hb : SB S.1) (hs : cSea β Γ 5 S) : CRel Γ (S, A.2) β := by
  obtain ⟨k1, k2, k3, k4, k5, k6, k7, k8⟩ := h
  have hz := (hf.c (fun k hk => by unfold cId; omega)).z
  have hr : ∀ k, ¬ (5 ≤ k ∧ k ≤ 10) → hI β k = hI α k ∧ hP β k = hP α k := fun k hk => ⟨(hf.2.2.2 k hk).1, by rw [hf.2.2.1]⟩
  refine ⟨hf.cw k1, by rw [hf.1]; exact k2, hb, hs, (k5.fr hz (fun k p q => hr k (by omega)) (by rw [(hr 0 (by omega)).1])).to rfl, ?_, k7.fr hz (fun k p => (hr k (by omega)).1) (hr 23 (by omega)).2, k8.fr hz (fun k p => (hr k (by omega)).1) (hr 28 (by omega)).2⟩
  show cTr β A.2.2.1
  unfold cTr
  rw [(hr 33 (by omega)).1]
  exact k6
theorem vMat.cg {q : VC} {S : ZS} {σ : Nat → Nat} (h : vMat q S) (hσ : ∀ i, i = 4 ∨ 167 ≤ i → σ i = S.1 i) : vMat q (σ, S.2) := by
  obtain ⟨h1, h2, h3⟩ := h
  refine ⟨?_, fun k hk => ?_, ?_⟩
  · rw [h1]; unfold hSem; rw [show (σ, S.2).1 4 = S.1 4 from hσ 4 (Or.inl rfl)]
  · rw [h2 k hk]; unfold sp_pay
    rw [show (σ, S.2).1 = σ from rfl, hσ 4 (Or.inl rfl), hσ _ (Or.inr (by omega))]
  · rw [h3]; unfold sp_cov
    rw [show (σ, S.2).1 = σ from rfl, hσ 4 (Or.inl rfl), hσ _ (Or.inr (by omega))]
theorem cWks.cg {σ σ' : Nat → Nat} {a : Nat} (h : cWks α a σ) (hσ : ∀ i, i = 0 ∨ (112 ≤ i ∧ i < 152) → σ' i = σ i) (h8 : σ 0 ≤ 8) : cWks α a σ' := by
  refine ⟨h.1, fun w hw => ?_⟩
  rw [hσ 0 (Or.inl rfl)] at hw
  obtain ⟨c, q1, q2⟩ := h.2 w hw
  refine ⟨c, q1, ?_⟩
  rw [hσ (112 + w) (Or.inr (by omega)), hσ (120 + w) (Or.inr (by omega))]
  unfold trow at *
  rw [hσ (128 + 3 * w) (Or.inr (by omega)), hσ (128 + 3 * w + 1) (Or.inr (by omega)), hσ (128 + 3 * w + 2) (Or.inr (by omega))]
  exact q2
theorem cSea.up {S : ZS} {σ : Nat → Nat} (h : cSea α Γ 5 S) (hf : frI (fun k => 5 ≤ k ∧ k ≤ 10) α β) (h8 : S.1 0 ≤ 8) (hr : cRows β 5 σ) (hn : cNums β 5 σ) (hσ : ∀ i, i = 4 ∨ 167 ≤ i → σ i = S.1 i) (hσ2 : ∀ i, i = 0 ∨ (112 ≤ i ∧ i < 152) → σ i = S.1 i) : cSea β Γ 5 (σ, S.2) := by
  obtain ⟨-, -, ⟨v, k1, k2, k3⟩, k4, k5⟩ := h
  have hz := (hf.c (fun k hk => by unfold cId; omega)).z
  refine ⟨hr, hn, ⟨v, by rw [hf.2.2.1]; exact k1, k2.fr hz, k3.cg hσ⟩, ?_⟩
  refine cWks.cg (σ := S.1) ⟨?_, ?_⟩ hσ2 h8
  · rw [hf.2.2.1]
    intro w hw c hc
    obtain ⟨kd, num, v, row, q⟩ := k4 w hw c hc
    exact ⟨kd, num, v, row, q.fr hz⟩
  · rw [hf.2.2.1]
    intro w hw
    obtain ⟨c, q1, q2⟩ := k5 w hw
    exact ⟨c, q1, q2.fr hz⟩
theorem k_changed {k : Nat} {g : Nat → Nat} {x n : Int32} (hs : zIs α k (0, 3)) (hv : ∀ j, j < 3 → hI α k j = nI (g j)) (h1 : ¬ (0 ≤ x ∧ x ≤ 2) → post (some (.int (-1))) α) (h2 : (0 ≤ x ∧ x ≤ 2) → ¬ (0 ≤ n ∧ n ≤ 5) → post (some (.int (-2))) α) (h3 : ∀ j m, j ≤ 2 → m ≤ 5 → x = nI j → n = nI m → (0 ≤ x ∧ x ≤ 2) → (0 ≤ n ∧ n ≤ 5) → post (some (.int (nI (g j)))) (sI α k j (nI m))) : ZK G (d + 2) mX11_changed [.ref (G.1 + k), .int x, .int n] α post := by
  have e0 : (0 : Int32).toInt = 0 := rfl
  have e5 : (5 : Int32).toInt = 5 := rfl
  refine ZK.of (n := 1) (by decide) (Nat.le_of_ble_eq_true rfl) rfl ?_
  refine Z_iload_n dX11_changed_0 rfl rfl ?_
  refine Z_S1z dX11_changed_1 to_X11_isSort lk_X11_118 sc_X11_isSort (Nat.le_of_ble_eq_true rfl) ⟨rfl, rfl⟩ ⟨by decide, by decide⟩ ?_
  refine k_isSort ?_
  refine Z_if_ne (tgt := 9) dX11_changed_4 (by decide) (fun h4 => ?_) (fun h4 => ?_)
  · skip
    refine Z_iload_n dX11_changed_9 rfl rfl ?_
    refine Z_if_lt (tgt := 18) dX11_changed_10 (by decide) (fun h10 => ?_) (fun h10 => ?_)
    · skip
      refine Z_bipush (v := -2) dX11_changed_18 (by decide) ?_
      refine Z_iret dX11_changed_20 rfl rfl ⟨by decide, by decide⟩ ?_
      refine h2 (dec_t h4) (fun z => ?_)
      simp only [Int32.lt_iff_toInt_lt, Int32.le_iff_toInt_le] at *; omega
    · skip
      refine Z_iload_n dX11_changed_13 rfl rfl ?_
      refine Z_iconst (v := 5) dX11_changed_14 (by decide) ?_
      refine Z_icmp_le (tgt := 21) dX11_changed_15 (by decide) (fun h15 => ?_) (fun h15 => ?_)
      · skip
        have hn : 0 ≤ n ∧ n ≤ 5 := by simp only [Int32.lt_iff_toInt_lt, Int32.le_iff_toInt_le] at *; omega
        obtain ⟨j, hj, rfl⟩ := arg_nI (n := 2) rfl rfl (dec_t h4)
        obtain ⟨m, hm, rfl⟩ := arg_nI (n := 5) rfl rfl hn
        refine Z_aload_n dX11_changed_21 rfl rfl ?_
        refine Z_iload_n dX11_changed_22 rfl rfl ?_
        refine Z_ialdv dX11_changed_23 hs (zix_nI (m := j) (by omega) (by decide)) (hv j (by omega)) ?_
        refine Z_istore_n (L' := [_, _, _, _]) dX11_changed_24 rfl (by decide) rfl rfl ?_
        refine Z_aload_n dX11_changed_25 rfl rfl ?_
        refine Z_iload_n dX11_changed_26 rfl rfl ?_
        refine Z_iload_n dX11_changed_27 rfl rfl ?_
        refine Z_iast dX11_changed_28 hs (zix_nI (m := j) (by omega) (by decide)) ?_
        refine Z_iload_n dX11_changed_29 rfl rfl ?_
        refine Z_iret dX11_changed_30 rfl rfl ⟨by decide, by decide⟩ ?_
        exact h3 j m hj hm rfl rfl (dec_t h4) hn
      · skip
        refine Z_bipush (v := -2) dX11_changed_18 (by decide) ?_
        refine Z_iret dX11_changed_20 rfl rfl ⟨by decide, by decide⟩ ?_
        refine h2 (dec_t h4) (fun z => ?_)
        simp only [Int32.lt_iff_toInt_lt, Int32.le_iff_toInt_le] at *; omega
  · skip
    refine Z_iconst (v := -1) dX11_changed_7 (by decide) ?_
    refine Z_iret dX11_changed_8 rfl rfl ⟨by decide, by decide⟩ ?_
    exact h1 (dec_f h4)
theorem CRel.bag {j m : Nat} (hr : CRel Γ A α) (hj : j ≤ 2) (hm : m ≤ 5) : CRel Γ (zset A (6 + j) m) (sI α 6 j (nI m)) := by
  have sea := hr.2.2.2.1
  have b0 : A.1.1 0 ≤ 8 := hr.2.2.1.at (by omega) rfl
  have hf : frI (fun k => 5 ≤ k ∧ k ≤ 10) α (sI α 6 j (nI m)) := frI.sI ⟨by omega, by omega⟩
  refine hr.now hf (hr.2.2.1.set (by rw [zbd_bag (by omega)]; exact hm) (by omega) (by omega)) (sea.up hf b0 ⟨fun i hi => ?_, fun i hi => ?_, fun i hi => ?_, fun i hi => ?_⟩ ?_ (fun i hi => u1_n (by omega)) (fun i hi => u1_n (by omega)))
  · rw [hI_sI]
    by_cases e : i = j
    · subst e; rw [if_pos ⟨rfl, rfl⟩, u1_s]
    · rw [if_neg (by omega), u1_n (by omega)]; exact sea.1.1 i hi
  · rw [hI_sI, if_neg (by omega), u1_n (by omega)]; exact sea.1.2.1 i hi
  · rw [hI_sI, if_neg (by omega), u1_n (by omega)]; exact sea.1.2.2.1 i hi
  · rw [hI_sI, if_neg (by omega), u1_n (by omega)]; exact sea.1.2.2.2 i hi
  · unfold cNums zss
    rw [sI_ne (by decide), u1_n (by omega), u1_n (by omega), u1_n (by omega), u1_n (by omega), u1_n (by omega), u1_n (by omega), u1_n (by omega), u1_n (by omega)]
    exact sea.2.1
theorem CRel.oth {j m : Nat} (hr : CRel Γ A α) (hj : j ≤ 2) (hm : m ≤ 5) : CRel Γ (zset A (164 + j) m) (sI α 7 j (nI m)) := by
  have sea := hr.2.2.2.1
  have b0 : A.1.1 0 ≤ 8 := hr.2.2.1.at (by omega) rfl
  have hf : frI (fun k => 5 ≤ k ∧ k ≤ 10) α (sI α 7 j (nI m)) := frI.sI ⟨by omega, by omega⟩
  refine hr.now hf (hr.2.2.1.set (by rw [zbd_oth (by omega)]; exact hm) (by omega) (by omega)) (sea.up hf b0 ⟨fun i hi => ?_, fun i hi => ?_, fun i hi => ?_, fun i hi => ?_⟩ ?_ (fun i hi => u1_n (by omega)) (fun i hi => u1_n (by omega)))
  · rw [hI_sI, if_neg (by omega), u1_n (by omega)]; exact sea.1.1 i hi
  · rw [hI_sI]
    by_cases e : i = j
    · subst e; rw [if_pos ⟨rfl, rfl⟩, u1_s]
    · rw [if_neg (by omega), u1_n (by omega)]; exact sea.1.2.1 i hi
  · rw [hI_sI, if_neg (by omega), u1_n (by omega)]; exact sea.1.2.2.1 i hi
  · rw [hI_sI, if_neg (by omega), u1_n (by omega)]; exact sea.1.2.2.2 i hi
  · unfold cNums zss
    rw [sI_ne (by decide), u1_n (by omega), u1_n (by omega), u1_n (by omega), u1_n (by omega), u1_n (by omega), u1_n (by omega), u1_n (by omega), u1_n (by omega)]
    exact sea.2.1
theorem sp_chg_ok {b : Nat} {hi x n : Int32} {j m : Nat} (h1 : 0 ≤ x ∧ x ≤ 2) (h2 : 0 ≤ n ∧ n ≤ hi) (hx : x = nI j) (hn : n = nI m) (hj : j < 1000) (hm : m < 1000) : sp_chg A b hi x n = (nI (A.1.1 (b + j)), zset A (b + j) m) := by
  unfold sp_chg
  rw [if_pos h1, if_pos h2, hx, hn, nI_clamp (by omega), nI_clamp (by omega)]
theorem k_bag {x n : Int32} (hr : CRel Γ A α) (h : ∀ β, CRel Γ (sp_chg A 6 5 x n).2 β → frC α β → post (some (.int (sp_chg A 6 5 x n).1)) β) : ZK G (d + 3) mX11_bag [.ref (G.1 + 0), .int x, .int n] α post := by
  have hw := hr.1
  refine ZK.of (n := 0) (by decide) (Nat.le_of_ble_eq_true rfl) rfl ?_
  refine Z_aload_n dX11_bag_0 rfl rfl ?_
  refine Z_getR dX11_bag_1 cl_11 fl_X11_21_11 rfl (cw_i0 hw) (cw_p0_0 hw) ?_
  refine Z_getR dX11_bag_4 cl_5 fl_X11_51_5 rfl (cw_i5 hw) (cw_p5_0 hw) ?_
  refine Z_iload_n dX11_bag_7 rfl rfl ?_
  refine Z_iload_n dX11_bag_8 rfl rfl ?_
  refine Z_S3z dX11_bag_9 to_X11_changed lk_X11_54 sc_X11_changed (Nat.le_of_ble_eq_true rfl) ⟨rfl, rfl⟩ ⟨by decide, by decide⟩ ?_
  refine k_changed (g := fun j => A.1.1 (6 + j)) (cw_i6 hw) hr.2.2.2.1.1.1 (fun z => ?_) (fun z z2 => ?_) (fun j m hj hm ex en z1 z2 => ?_)
  · have e : sp_chg A 6 5 x n = (-1, A) := if_neg z
    rw [e] at h
    exact Z_iret dX11_bag_12 rfl rfl ⟨by decide, by decide⟩ (h α hr frC.rf)
  · have e : sp_chg A 6 5 x n = (-2, A) := (if_pos z).trans (if_neg z2)
    rw [e] at h
    exact Z_iret dX11_bag_12 rfl rfl ⟨by decide, by decide⟩ (h α hr frC.rf)
  rw [sp_chg_ok z1 z2 ex en (by omega) (by omega)] at h
  refine Z_iret dX11_bag_12 rfl rfl ⟨by decide, by decide⟩ ?_
  exact h _ (hr.bag hj hm) ((frI.sI (F := fun k => k = 6) rfl).c (fun k hk => by unfold cId; omega))
theorem k_other {x n : Int32} (hr : CRel Γ A α) (h : ∀ β, CRel Γ (sp_chg A 164 5 x n).2 β → frC α β → post (some (.int (sp_chg A 164 5 x n).1)) β) : ZK G (d + 3) mX11_other [.ref (G.1 + 0), .int x, .int n] α post := by
  have hw := hr.1
  refine ZK.of (n := 0) (by decide) (Nat.le_of_ble_eq_true rfl) rfl ?_
  refine Z_aload_n dX11_other_0 rfl rfl ?_
  refine Z_getR dX11_other_1 cl_11 fl_X11_21_11 rfl (cw_i0 hw) (cw_p0_0 hw) ?_
  refine Z_getR dX11_other_4 cl_5 fl_X11_226_5 rfl (cw_i5 hw) (cw_p5_1 hw) ?_
  refine Z_iload_n dX11_other_7 rfl rfl ?_
  refine Z_iload_n dX11_other_8 rfl rfl ?_
  refine Z_S3z dX11_other_9 to_X11_changed lk_X11_54 sc_X11_changed (Nat.le_of_ble_eq_true rfl) ⟨rfl, rfl⟩ ⟨by decide, by decide⟩ ?_
  refine k_changed (g := fun j => A.1.1 (164 + j)) (cw_i7 hw) hr.2.2.2.1.1.2.1 (fun z => ?_) (fun z z2 => ?_) (fun j m hj hm ex en z1 z2 => ?_)
  · have e : sp_chg A 164 5 x n = (-1, A) := if_neg z
    rw [e] at h
    exact Z_iret dX11_other_12 rfl rfl ⟨by decide, by decide⟩ (h α hr frC.rf)
  · have e : sp_chg A 164 5 x n = (-2, A) := (if_pos z).trans (if_neg z2)
    rw [e] at h
    exact Z_iret dX11_other_12 rfl rfl ⟨by decide, by decide⟩ (h α hr frC.rf)
  rw [sp_chg_ok z1 z2 ex en (by omega) (by omega)] at h
  refine Z_iret dX11_other_12 rfl rfl ⟨by decide, by decide⟩ ?_
  exact h _ (hr.oth hj hm) ((frI.sI (F := fun k => k = 7) rfl).c (fun k hk => by unfold cId; omega))
theorem CRel.b0 (hr : CRel Γ A α) : hI α 6 0 = nI (A.1.1 6) := hr.2.2.2.1.1.1 0 (by omega)
theorem CRel.b1 (hr : CRel Γ A α) : hI α 6 1 = nI (A.1.1 7) := hr.2.2.2.1.1.1 1 (by omega)
theorem CRel.b2 (hr : CRel Γ A α) : hI α 6 2 = nI (A.1.1 8) := hr.2.2.2.1.1.1 2 (by omega)
theorem CRel.sb (hr : CRel Γ A α) : SB A.1.1 := hr.2.2.1
theorem k_restB (hr : CRel Γ A α) (h : post (some (.int (nI (zrest A.1.1)))) α) : ZK G (d + 1) mX11_restOf [.ref (G.1 + 6)] α post := k_restOf (cw_i6 hr.1) (by decide) hr.b0 hr.b1 hr.b2 h
theorem k_ordB (hr : CRel Γ A α) (h : post (some (.int (nI (zord (A.1.1 6) (A.1.1 7) (A.1.1 8))))) α) : ZK G (d + 2) mX11_ordersOf [.ref (G.1 + 6)] α post := by
  have b6 : A.1.1 6 ≤ 5 := hr.2.2.1.at (by omega) rfl
  have b7 : A.1.1 7 ≤ 5 := hr.2.2.1.at (by omega) rfl
  have b8 : A.1.1 8 ≤ 5 := hr.2.2.1.at (by omega) rfl
  exact k_ordersOf (cw_i6 hr.1) (by decide) hr.b0 hr.b1 hr.b2 (by omega) h
theorem k_orders (hr : CRel Γ A α) (h : post (some (.long (lN (zord (A.1.1 6) (A.1.1 7) (A.1.1 8))))) α) : ZK G (d + 3) mX11_orders [.ref (G.1 + 0)] α post := by
  have hw := hr.1
  have b6 : A.1.1 6 ≤ 5 := hr.2.2.1.at (by omega) rfl
  have b7 : A.1.1 7 ≤ 5 := hr.2.2.1.at (by omega) rfl
  have b8 : A.1.1 8 ≤ 5 := hr.2.2.1.at (by omega) rfl
  have sea := hr.2.2.2.1
  have hl := zord_le (A.1.1 6) (by omega) (A.1.1 7) (by omega) (A.1.1 8) (by omega)
  refine ZK.of (n := 0) (by decide) (Nat.le_of_ble_eq_true rfl) rfl ?_
  refine Z_aload_n dX11_orders_0 rfl rfl ?_
  refine Z_getR dX11_orders_1 cl_11 fl_X11_21_11 rfl (cw_i0 hw) (cw_p0_0 hw) ?_
  refine Z_getR dX11_orders_4 cl_5 fl_X11_51_5 rfl (cw_i5 hw) (cw_p5_0 hw) ?_
  refine Z_S1z dX11_orders_7 to_X11_ordersOf lk_X11_170 sc_X11_ordersOf (Nat.le_of_ble_eq_true rfl) ⟨rfl, rfl⟩ ⟨by decide, by decide⟩ ?_
  refine k_ordB hr ?_
  refine Z_i2l dX11_orders_10 ?_
  refine Z_lret dX11_orders_11 rfl ⟨by decide, by decide⟩ ?_
  rw [nI_l (by omega)]; exact h
theorem k_count {x : Int32} (hr : CRel Γ A α) (h : post (some (.int (sp_count A x))) α) : ZK G (d + 1) mX11_count [.ref (G.1 + 0), .int x] α post := by
  have hw := hr.1
  have nu := hr.2.2.2.1.2.1
  refine ZK.of (n := 0) (by decide) (Nat.le_of_ble_eq_true rfl) rfl ?_
  refine Z_iload_n dX11_count_0 rfl rfl ?_
  refine Z_tab (tgt := 75) dX11_count_1 (fun i hx1 hh1 => ?_) (by decide) (fun hx1 => ?_)
  · skip
    have hi1 : i < 5 := by omega
    match i, hi1, hx1 with
    | 0, _, hx1 =>
      refine ⟨_, 36, rfl, by decide, ?_⟩
      refine Z_aload_n dX11_count_36 rfl rfl ?_
      refine Z_getR dX11_count_37 cl_11 fl_X11_21_11 rfl (cw_i0 hw) (cw_p0_0 hw) ?_
      refine Z_getIv dX11_count_40 cl_5 fl_X11_103_5 rfl (cw_i5 hw) nu.2.2.2.2.1 ?_
      refine Z_iret dX11_count_43 rfl rfl ⟨by decide, by decide⟩ ?_
      have e := i_of (by decide) hx1; subst e; exact h
    | 1, _, hx1 =>
      refine ⟨_, 44, rfl, by decide, ?_⟩
      refine Z_aload_n dX11_count_44 rfl rfl ?_
      refine Z_getR dX11_count_45 cl_11 fl_X11_21_11 rfl (cw_i0 hw) (cw_p0_0 hw) ?_
      refine Z_getIv dX11_count_48 cl_5 fl_X11_65_5 rfl (cw_i5 hw) nu.2.2.2.1 ?_
      refine Z_iret dX11_count_51 rfl rfl ⟨by decide, by decide⟩ ?_
      have e := i_of (by decide) hx1; subst e; exact h
    | 2, _, hx1 =>
      refine ⟨_, 52, rfl, by decide, ?_⟩
      refine Z_aload_n dX11_count_52 rfl rfl ?_
      refine Z_getR dX11_count_53 cl_11 fl_X11_21_11 rfl (cw_i0 hw) (cw_p0_0 hw) ?_
      refine Z_getIv dX11_count_56 cl_5 fl_X11_210_5 rfl (cw_i5 hw) nu.2.2.2.2.2 ?_
      refine Z_iret dX11_count_59 rfl rfl ⟨by decide, by decide⟩ ?_
      have e := i_of (by decide) hx1; subst e; exact h
    | 3, _, hx1 =>
      refine ⟨_, 60, rfl, by decide, ?_⟩
      refine Z_aload_n dX11_count_60 rfl rfl ?_
      refine Z_getR dX11_count_61 cl_11 fl_X11_21_11 rfl (cw_i0 hw) (cw_p0_0 hw) ?_
      refine Z_getIv dX11_count_64 cl_5 fl_X11_58_5 rfl (cw_i5 hw) nu.2.2.1 ?_
      refine Z_iret dX11_count_67 rfl rfl ⟨by decide, by decide⟩ ?_
      have e := i_of (by decide) hx1; subst e; exact h
    | 4, _, hx1 =>
      refine ⟨_, 68, rfl, by decide, ?_⟩
      refine Z_aload_n dX11_count_68 rfl rfl ?_
      refine Z_getR dX11_count_69 cl_11 fl_X11_47_11 rfl (cw_i0 hw) (cw_p0_6 hw) ?_
      refine Z_iconst (v := 0) dX11_count_72 (by decide) ?_
      refine Z_ialdv dX11_count_73 (cw_i33 hw) (zix_k (m := 0) (by decide)) hr.2.2.2.2.2.1.2.1 ?_
      refine Z_iret dX11_count_74 rfl rfl ⟨by decide, by decide⟩ ?_
      have e := i_of (by decide) hx1; subst e; exact h
    | k + 5, h, _ => exact absurd h (by omega)
  · skip
    refine Z_iconst (v := -1) dX11_count_75 (by decide) ?_
    refine Z_iret dX11_count_76 rfl rfl ⟨by decide, by decide⟩ ?_
    have e : sp_count A x = -1 := by
      unfold sp_count
      rw [if_neg, if_neg, if_neg, if_neg, if_neg] <;> (intro z; subst z; exact absurd hx1 (by decide))
    rw [e] at h; exact h
theorem k_trace {x : Int32} (hr : CRel Γ A α) (h : post (some (.int (sp_trace A x))) α) : ZK G (d + 1) mX11_trace [.ref (G.1 + 0), .int x] α post := by
  have hw := hr.1
  have ht := hr.2.2.2.2.2.1
  have hl : A.2.2.1.length ≤ 20 := ht.1
  have e0 : (0 : Int32).toInt = 0 := rfl
  have e20 : (20 : Int32).toInt = 20 := rfl
  have eL : (nI A.2.2.1.length).toInt = (A.2.2.1.length : Int) := nI_toInt (by omega)
  have key : (0 ≤ x ∧ x ≤ nI A.2.2.1.length - 1) ↔ (¬ x < 0 ∧ x < nI A.2.2.1.length) := by
    constructor
    · intro z
      obtain ⟨j, hj, rfl⟩ := idx_lt (by omega) z
      exact ⟨nI_pos (by omega), nI_lt hj (by omega)⟩
    · intro z
      obtain ⟨j, hj, rfl⟩ := nI_of2 (M := nI A.2.2.1.length) eL z.1 (by simp only [Int32.lt_iff_toInt_lt, Int32.le_iff_toInt_le] at *; omega)
      exact lt_idx (by omega) ((nI_ltI (by omega) (by omega)).mp z.2)
  refine ZK.of (n := 0) (by decide) (Nat.le_of_ble_eq_true rfl) rfl ?_
  refine Z_iload_n dX11_trace_0 rfl rfl ?_
  refine Z_if_lt (tgt := 20) dX11_trace_1 (by decide) (fun h1 => ?_) (fun h1 => ?_)
  · skip
    refine Z_iconst (v := -1) dX11_trace_20 (by decide) ?_
    refine Z_iret dX11_trace_21 rfl rfl ⟨by decide, by decide⟩ ?_
    have e : sp_trace A x = -1 := if_neg (fun z => by
      have z2 := key.mp z
      simp only [Int32.lt_iff_toInt_lt, Int32.le_iff_toInt_le] at *
      omega)
    rw [e] at h; exact h
  · skip
    refine Z_iload_n dX11_trace_4 rfl rfl ?_
    refine Z_bipush (v := 20) dX11_trace_5 (by decide) ?_
    refine Z_icmp_ge (tgt := 20) dX11_trace_7 (by decide) (fun h7 => ?_) (fun h7 => ?_)
    · skip
      refine Z_iconst (v := -1) dX11_trace_20 (by decide) ?_
      refine Z_iret dX11_trace_21 rfl rfl ⟨by decide, by decide⟩ ?_
      have e : sp_trace A x = -1 := if_neg (fun z => by
        have z2 := key.mp z
        simp only [Int32.lt_iff_toInt_lt, Int32.le_iff_toInt_le] at *
        omega)
      rw [e] at h; exact h
    · skip
      refine Z_iload_n dX11_trace_10 rfl rfl ?_
      refine Z_aload_n dX11_trace_11 rfl rfl ?_
      refine Z_getR dX11_trace_12 cl_11 fl_X11_47_11 rfl (cw_i0 hw) (cw_p0_6 hw) ?_
      refine Z_iconst (v := 0) dX11_trace_15 (by decide) ?_
      refine Z_ialdv dX11_trace_16 (cw_i33 hw) (zix_k (m := 0) (by decide)) ht.2.1 ?_
      refine Z_icmp_lt (tgt := 22) dX11_trace_17 (by decide) (fun h17 => ?_) (fun h17 => ?_)
      · skip
        have zz := key.mpr ⟨h1, h17⟩
        obtain ⟨j, hj, rfl⟩ := idx_lt (by omega) zz
        refine Z_aload_n dX11_trace_22 rfl rfl ?_
        refine Z_getR dX11_trace_23 cl_11 fl_X11_47_11 rfl (cw_i0 hw) (cw_p0_6 hw) ?_
        refine Z_iload_n dX11_trace_26 rfl rfl ?_
        refine Z_iconst (v := 1) dX11_trace_27 (by decide) ?_
        refine Z_iadd dX11_trace_28 ?_
        refine Z_ialdv dX11_trace_29 (cw_i33 hw) (zix_e (m := j + 1) (nI_1 j) (by omega) (by decide)) (ht.2.2 j hj) ?_
        refine Z_iret dX11_trace_30 rfl rfl ⟨by decide, by decide⟩ ?_
        have e : sp_trace A (nI j) = nI (A.2.2.1.getD j 0) := by
          unfold sp_trace
          rw [if_pos zz, nI_clamp (by omega)]
        rw [e] at h; exact h
      · skip
        refine Z_iconst (v := -1) dX11_trace_20 (by decide) ?_
        refine Z_iret dX11_trace_21 rfl rfl ⟨by decide, by decide⟩ ?_
        have e : sp_trace A x = -1 := if_neg (fun z => by
          have z2 := key.mp z
          simp only [Int32.lt_iff_toInt_lt, Int32.le_iff_toInt_le] at *
          omega)
        rw [e] at h; exact h
end CP1
