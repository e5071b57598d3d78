section CI1
variable {G : ZG} {d : Nat} {α β : AH} {post : Option Value → AH → Prop} {c : Nat} {k n v : Int32}
def wNew (α : AH) (c : Nat) (k n v : Int32) : AH := sI (sI (sI α c 0 k) c 1 n) c 2 v
theorem k_X10_init_10 (hz : zIs α c (14, 3)) (h : post none (wNew α c k n v)) : ZK G (d + 2) mX10_init [.ref (G.1 + c), .int k, .int n, .int v] α post := by
  refine ZK.of (n := 0) (by decide) (Nat.le_of_ble_eq_true rfl) rfl ?_
  refine Z_aload_n dX10_init_0 rfl rfl ?_
  refine Z_obj dX10_init_1 ob_X10_3 (Nat.le_of_ble_eq_true rfl) ?_
  refine Z_aload_n dX10_init_4 rfl rfl ?_
  refine Z_iload_n dX10_init_5 rfl rfl ?_
  refine Z_putI dX10_init_6 cl_10 fl_X10_9_10 (Or.inr ⟨fn_10_0, rfl⟩) rfl hz rfl rfl ?_
  refine Z_aload_n dX10_init_9 rfl rfl ?_
  refine Z_iload_n dX10_init_10 rfl rfl ?_
  refine Z_putI dX10_init_11 cl_10 fl_X10_15_10 (Or.inr ⟨fn_10_1, rfl⟩) rfl hz rfl rfl ?_
  refine Z_aload_n dX10_init_14 rfl rfl ?_
  refine Z_iload_n dX10_init_15 rfl rfl ?_
  refine Z_putI dX10_init_16 cl_10 fl_X10_18_10 (Or.inr ⟨fn_10_2, rfl⟩) rfl hz rfl rfl ?_
  refine Z_vret dX10_init_19 rfl ⟨by decide, by decide⟩ ?_
  exact h
theorem k_X10_init_3 (hz : zIs α c (7, 3)) (h : post none (wNew α c k n v)) : ZK G (d + 2) mX10_init [.ref (G.1 + c), .int k, .int n, .int v] α post := by
  refine ZK.of (n := 0) (by decide) (Nat.le_of_ble_eq_true rfl) rfl ?_
  refine Z_aload_n dX10_init_0 rfl rfl ?_
  refine Z_obj dX10_init_1 ob_X10_3 (Nat.le_of_ble_eq_true rfl) ?_
  refine Z_aload_n dX10_init_4 rfl rfl ?_
  refine Z_iload_n dX10_init_5 rfl rfl ?_
  refine Z_putI dX10_init_6 cl_3 fl_X10_9_3 (Or.inr ⟨fn_3_0, rfl⟩) rfl hz rfl rfl ?_
  refine Z_aload_n dX10_init_9 rfl rfl ?_
  refine Z_iload_n dX10_init_10 rfl rfl ?_
  refine Z_putI dX10_init_11 cl_3 fl_X10_15_3 (Or.inr ⟨fn_3_1, rfl⟩) rfl hz rfl rfl ?_
  refine Z_aload_n dX10_init_14 rfl rfl ?_
  refine Z_iload_n dX10_init_15 rfl rfl ?_
  refine Z_putI dX10_init_16 cl_3 fl_X10_18_3 (Or.inr ⟨fn_3_2, rfl⟩) rfl hz rfl rfl ?_
  refine Z_vret dX10_init_19 rfl ⟨by decide, by decide⟩ ?_
  exact h
theorem k_X10_init_2 (hz : zIs α c (6, 3)) (h : post none (wNew α c k n v)) : ZK G (d + 2) mX10_init [.ref (G.1 + c), .int k, .int n, .int v] α post := by
  refine ZK.of (n := 0) (by decide) (Nat.le_of_ble_eq_true rfl) rfl ?_
  refine Z_aload_n dX10_init_0 rfl rfl ?_
  refine Z_obj dX10_init_1 ob_X10_3 (Nat.le_of_ble_eq_true rfl) ?_
  refine Z_aload_n dX10_init_4 rfl rfl ?_
  refine Z_iload_n dX10_init_5 rfl rfl ?_
  refine Z_putI dX10_init_6 cl_2 fl_X10_9_2 (Or.inr ⟨fn_2_0, rfl⟩) rfl hz rfl rfl ?_
  refine Z_aload_n dX10_init_9 rfl rfl ?_
  refine Z_iload_n dX10_init_10 rfl rfl ?_
  refine Z_putI dX10_init_11 cl_2 fl_X10_15_2 (Or.inr ⟨fn_2_1, rfl⟩) rfl hz rfl rfl ?_
  refine Z_aload_n dX10_init_14 rfl rfl ?_
  refine Z_iload_n dX10_init_15 rfl rfl ?_
  refine Z_putI dX10_init_16 cl_2 fl_X10_18_2 (Or.inr ⟨fn_2_2, rfl⟩) rfl hz rfl rfl ?_
  refine Z_vret dX10_init_19 rfl ⟨by decide, by decide⟩ ?_
  exact h
theorem k_X10_init_9 (hz : zIs α c (13, 3)) (h : post none (wNew α c k n v)) : ZK G (d + 2) mX10_init [.ref (G.1 + c), .int k, .int n, .int v] α post := by
  refine ZK.of (n := 0) (by decide) (Nat.le_of_ble_eq_true rfl) rfl ?_
  refine Z_aload_n dX10_init_0 rfl rfl ?_
  refine Z_obj dX10_init_1 ob_X10_3 (Nat.le_of_ble_eq_true rfl) ?_
  refine Z_aload_n dX10_init_4 rfl rfl ?_
  refine Z_iload_n dX10_init_5 rfl rfl ?_
  refine Z_putI dX10_init_6 cl_9 fl_X10_9_9 (Or.inr ⟨fn_9_0, rfl⟩) rfl hz rfl rfl ?_
  refine Z_aload_n dX10_init_9 rfl rfl ?_
  refine Z_iload_n dX10_init_10 rfl rfl ?_
  refine Z_putI dX10_init_11 cl_9 fl_X10_15_9 (Or.inr ⟨fn_9_1, rfl⟩) rfl hz rfl rfl ?_
  refine Z_aload_n dX10_init_14 rfl rfl ?_
  refine Z_iload_n dX10_init_15 rfl rfl ?_
  refine Z_putI dX10_init_16 cl_9 fl_X10_18_9 (Or.inr ⟨fn_9_2, rfl⟩) rfl hz rfl rfl ?_
  refine Z_vret dX10_init_19 rfl ⟨by decide, by decide⟩ ?_
  exact h
theorem k_X10_init_6 (hz : zIs α c (10, 3)) (h : post none (wNew α c k n v)) : ZK G (d + 2) mX10_init [.ref (G.1 + c), .int k, .int n, .int v] α post := by
  refine ZK.of (n := 0) (by decide) (Nat.le_of_ble_eq_true rfl) rfl ?_
  refine Z_aload_n dX10_init_0 rfl rfl ?_
  refine Z_obj dX10_init_1 ob_X10_3 (Nat.le_of_ble_eq_true rfl) ?_
  refine Z_aload_n dX10_init_4 rfl rfl ?_
  refine Z_iload_n dX10_init_5 rfl rfl ?_
  refine Z_putI dX10_init_6 cl_6 fl_X10_9_6 (Or.inr ⟨fn_6_0, rfl⟩) rfl hz rfl rfl ?_
  refine Z_aload_n dX10_init_9 rfl rfl ?_
  refine Z_iload_n dX10_init_10 rfl rfl ?_
  refine Z_putI dX10_init_11 cl_6 fl_X10_15_6 (Or.inr ⟨fn_6_1, rfl⟩) rfl hz rfl rfl ?_
  refine Z_aload_n dX10_init_14 rfl rfl ?_
  refine Z_iload_n dX10_init_15 rfl rfl ?_
  refine Z_putI dX10_init_16 cl_6 fl_X10_18_6 (Or.inr ⟨fn_6_2, rfl⟩) rfl hz rfl rfl ?_
  refine Z_vret dX10_init_19 rfl ⟨by decide, by decide⟩ ?_
  exact h
theorem k_X10_init_1 (hz : zIs α c (5, 3)) (h : post none (wNew α c k n v)) : ZK G (d + 2) mX10_init [.ref (G.1 + c), .int k, .int n, .int v] α post := by
  refine ZK.of (n := 0) (by decide) (Nat.le_of_ble_eq_true rfl) rfl ?_
  refine Z_aload_n dX10_init_0 rfl rfl ?_
  refine Z_obj dX10_init_1 ob_X10_3 (Nat.le_of_ble_eq_true rfl) ?_
  refine Z_aload_n dX10_init_4 rfl rfl ?_
  refine Z_iload_n dX10_init_5 rfl rfl ?_
  refine Z_putI dX10_init_6 cl_1 fl_X10_9_1 (Or.inr ⟨fn_1_0, rfl⟩) rfl hz rfl rfl ?_
  refine Z_aload_n dX10_init_9 rfl rfl ?_
  refine Z_iload_n dX10_init_10 rfl rfl ?_
  refine Z_putI dX10_init_11 cl_1 fl_X10_15_1 (Or.inr ⟨fn_1_1, rfl⟩) rfl hz rfl rfl ?_
  refine Z_aload_n dX10_init_14 rfl rfl ?_
  refine Z_iload_n dX10_init_15 rfl rfl ?_
  refine Z_putI dX10_init_16 cl_1 fl_X10_18_1 (Or.inr ⟨fn_1_2, rfl⟩) rfl hz rfl rfl ?_
  refine Z_vret dX10_init_19 rfl ⟨by decide, by decide⟩ ?_
  exact h
theorem k_X10_init_7 (hz : zIs α c (11, 4)) (h : post none (wNew α c k n v)) : ZK G (d + 2) mX10_init [.ref (G.1 + c), .int k, .int n, .int v] α post := by
  refine ZK.of (n := 0) (by decide) (Nat.le_of_ble_eq_true rfl) rfl ?_
  refine Z_aload_n dX10_init_0 rfl rfl ?_
  refine Z_obj dX10_init_1 ob_X10_3 (Nat.le_of_ble_eq_true rfl) ?_
  refine Z_aload_n dX10_init_4 rfl rfl ?_
  refine Z_iload_n dX10_init_5 rfl rfl ?_
  refine Z_putI dX10_init_6 cl_7 fl_X10_9_7 (Or.inr ⟨fn_7_0, rfl⟩) rfl hz rfl rfl ?_
  refine Z_aload_n dX10_init_9 rfl rfl ?_
  refine Z_iload_n dX10_init_10 rfl rfl ?_
  refine Z_putI dX10_init_11 cl_7 fl_X10_15_7 (Or.inr ⟨fn_7_1, rfl⟩) rfl hz rfl rfl ?_
  refine Z_aload_n dX10_init_14 rfl rfl ?_
  refine Z_iload_n dX10_init_15 rfl rfl ?_
  refine Z_putI dX10_init_16 cl_7 fl_X10_18_7 (Or.inr ⟨fn_7_2, rfl⟩) rfl hz rfl rfl ?_
  refine Z_vret dX10_init_19 rfl ⟨by decide, by decide⟩ ?_
  exact h
theorem k_X3_init_3 (hz : zIs α c (7, 3)) (h : post none (wNew α c k n v)) : ZK G (d + 3) mX3_init [.ref (G.1 + c), .int k, .int n, .int v] α post := by
  refine ZK.of (n := 0) (by decide) (Nat.le_of_ble_eq_true rfl) rfl ?_
  refine Z_aload_n dX3_init_0 rfl rfl ?_
  refine Z_iload_n dX3_init_1 rfl rfl ?_
  refine Z_iload_n dX3_init_2 rfl rfl ?_
  refine Z_iload_n dX3_init_3 rfl rfl ?_
  refine Z_I3z dX3_init_4 to_X10_init lk_X3_1 im_X10_init ⟨rfl, rfl⟩ (Nat.le_of_ble_eq_true rfl) ⟨rfl, rfl⟩ ⟨by decide, by decide⟩ ?_
  refine k_X10_init_3 hz ?_
  refine Z_vret dX3_init_7 rfl ⟨by decide, by decide⟩ ?_
  exact h
theorem k_X3_init_6 (hz : zIs α c (10, 3)) (h : post none (wNew α c k n v)) : ZK G (d + 3) mX3_init [.ref (G.1 + c), .int k, .int n, .int v] α post := by
  refine ZK.of (n := 0) (by decide) (Nat.le_of_ble_eq_true rfl) rfl ?_
  refine Z_aload_n dX3_init_0 rfl rfl ?_
  refine Z_iload_n dX3_init_1 rfl rfl ?_
  refine Z_iload_n dX3_init_2 rfl rfl ?_
  refine Z_iload_n dX3_init_3 rfl rfl ?_
  refine Z_I3z dX3_init_4 to_X10_init lk_X3_1 im_X10_init ⟨rfl, rfl⟩ (Nat.le_of_ble_eq_true rfl) ⟨rfl, rfl⟩ ⟨by decide, by decide⟩ ?_
  refine k_X10_init_6 hz ?_
  refine Z_vret dX3_init_7 rfl ⟨by decide, by decide⟩ ?_
  exact h
theorem k_X2_init_2 (hz : zIs α c (6, 3)) (h : post none (wNew α c k n v)) : ZK G (d + 3) mX2_init [.ref (G.1 + c), .int k, .int n, .int v] α post := by
  refine ZK.of (n := 0) (by decide) (Nat.le_of_ble_eq_true rfl) rfl ?_
  refine Z_aload_n dX2_init_0 rfl rfl ?_
  refine Z_iload_n dX2_init_1 rfl rfl ?_
  refine Z_iload_n dX2_init_2 rfl rfl ?_
  refine Z_iload_n dX2_init_3 rfl rfl ?_
  refine Z_I3z dX2_init_4 to_X10_init lk_X2_3 im_X10_init ⟨rfl, rfl⟩ (Nat.le_of_ble_eq_true rfl) ⟨rfl, rfl⟩ ⟨by decide, by decide⟩ ?_
  refine k_X10_init_2 hz ?_
  refine Z_vret dX2_init_7 rfl ⟨by decide, by decide⟩ ?_
  exact h
theorem k_X2_init_1 (hz : zIs α c (5, 3)) (h : post none (wNew α c k n v)) : ZK G (d + 3) mX2_init [.ref (G.1 + c), .int k, .int n, .int v] α post := by
  refine ZK.of (n := 0) (by decide) (Nat.le_of_ble_eq_true rfl) rfl ?_
  refine Z_aload_n dX2_init_0 rfl rfl ?_
  refine Z_iload_n dX2_init_1 rfl rfl ?_
  refine Z_iload_n dX2_init_2 rfl rfl ?_
  refine Z_iload_n dX2_init_3 rfl rfl ?_
  refine Z_I3z dX2_init_4 to_X10_init lk_X2_3 im_X10_init ⟨rfl, rfl⟩ (Nat.le_of_ble_eq_true rfl) ⟨rfl, rfl⟩ ⟨by decide, by decide⟩ ?_
  refine k_X10_init_1 hz ?_
  refine Z_vret dX2_init_7 rfl ⟨by decide, by decide⟩ ?_
  exact h
theorem k_X9_init_9 (hz : zIs α c (13, 3)) (h : post none (wNew α c k n v)) : ZK G (d + 3) mX9_init [.ref (G.1 + c), .int k, .int n, .int v] α post := by
  refine ZK.of (n := 0) (by decide) (Nat.le_of_ble_eq_true rfl) rfl ?_
  refine Z_aload_n dX9_init_0 rfl rfl ?_
  refine Z_iload_n dX9_init_1 rfl rfl ?_
  refine Z_iload_n dX9_init_2 rfl rfl ?_
  refine Z_iload_n dX9_init_3 rfl rfl ?_
  refine Z_I3z dX9_init_4 to_X10_init lk_X9_3 im_X10_init ⟨rfl, rfl⟩ (Nat.le_of_ble_eq_true rfl) ⟨rfl, rfl⟩ ⟨by decide, by decide⟩ ?_
  refine k_X10_init_9 hz ?_
  refine Z_vret dX9_init_7 rfl ⟨by decide, by decide⟩ ?_
  exact h
theorem k_X9_init_7 (hz : zIs α c (11, 4)) (h : post none (wNew α c k n v)) : ZK G (d + 3) mX9_init [.ref (G.1 + c), .int k, .int n, .int v] α post := by
  refine ZK.of (n := 0) (by decide) (Nat.le_of_ble_eq_true rfl) rfl ?_
  refine Z_aload_n dX9_init_0 rfl rfl ?_
  refine Z_iload_n dX9_init_1 rfl rfl ?_
  refine Z_iload_n dX9_init_2 rfl rfl ?_
  refine Z_iload_n dX9_init_3 rfl rfl ?_
  refine Z_I3z dX9_init_4 to_X10_init lk_X9_3 im_X10_init ⟨rfl, rfl⟩ (Nat.le_of_ble_eq_true rfl) ⟨rfl, rfl⟩ ⟨by decide, by decide⟩ ?_
  refine k_X10_init_7 hz ?_
  refine Z_vret dX9_init_7 rfl ⟨by decide, by decide⟩ ?_
  exact h
theorem k_X6_init_6 (hz : zIs α c (10, 3)) (h : post none (wNew α c k n v)) : ZK G (d + 4) mX6_init [.ref (G.1 + c), .int k, .int n, .int v] α post := by
  refine ZK.of (n := 0) (by decide) (Nat.le_of_ble_eq_true rfl) rfl ?_
  refine Z_aload_n dX6_init_0 rfl rfl ?_
  refine Z_iload_n dX6_init_1 rfl rfl ?_
  refine Z_iload_n dX6_init_2 rfl rfl ?_
  refine Z_iload_n dX6_init_3 rfl rfl ?_
  refine Z_I3z dX6_init_4 to_X3_init lk_X6_3 im_X3_init ⟨rfl, rfl⟩ (Nat.le_of_ble_eq_true rfl) ⟨rfl, rfl⟩ ⟨by decide, by decide⟩ ?_
  refine k_X3_init_6 hz ?_
  refine Z_vret dX6_init_7 rfl ⟨by decide, by decide⟩ ?_
  exact h
theorem k_X1_init_1 (hz : zIs α c (5, 3)) (h : post none (wNew α c k n v)) : ZK G (d + 4) mX1_init [.ref (G.1 + c), .int k, .int n, .int v] α post := by
  refine ZK.of (n := 0) (by decide) (Nat.le_of_ble_eq_true rfl) rfl ?_
  refine Z_aload_n dX1_init_0 rfl rfl ?_
  refine Z_iload_n dX1_init_1 rfl rfl ?_
  refine Z_iload_n dX1_init_2 rfl rfl ?_
  refine Z_iload_n dX1_init_3 rfl rfl ?_
  refine Z_I3z dX1_init_4 to_X2_init lk_X1_1 im_X2_init ⟨rfl, rfl⟩ (Nat.le_of_ble_eq_true rfl) ⟨rfl, rfl⟩ ⟨by decide, by decide⟩ ?_
  refine k_X2_init_1 hz ?_
  refine Z_vret dX1_init_7 rfl ⟨by decide, by decide⟩ ?_
  exact h
theorem k_X7_init {r : Int32} (hz : zIs α c (11, 4)) (h : post none (sI (wNew α c 6 n v) c 3 r)) : ZK G (d + 4) mX7_init [.ref (G.1 + c), .int n, .int v, .int r] α post := by
  refine ZK.of (n := 0) (by decide) (Nat.le_of_ble_eq_true rfl) rfl ?_
  refine Z_aload_n dX7_init_0 rfl rfl ?_
  refine Z_bipush (v := 6) dX7_init_1 (by decide) ?_
  refine Z_iload_n dX7_init_3 rfl rfl ?_
  refine Z_iload_n dX7_init_4 rfl rfl ?_
  refine Z_I3z dX7_init_5 to_X9_init lk_X7_3 im_X9_init ⟨rfl, rfl⟩ (Nat.le_of_ble_eq_true rfl) ⟨rfl, rfl⟩ ⟨by decide, by decide⟩ ?_
  refine k_X9_init_7 hz ?_
  refine Z_aload_n dX7_init_8 rfl rfl ?_
  refine Z_iload_n dX7_init_9 rfl rfl ?_
  refine Z_putI dX7_init_10 cl_7 fl_X7_9_7 (Or.inr ⟨fn_7_3, rfl⟩) rfl hz rfl rfl ?_
  refine Z_vret dX7_init_13 rfl ⟨by decide, by decide⟩ ?_
  exact h
theorem frE.wNew (hc : hN α ≤ c) (h : frE α β) : frE α (wNew β c k n v) := ((h.pI hc).pI hc).pI hc
theorem wNew_at : hI (wNew β c k n v) c 0 = k ∧ hI (wNew β c k n v) c 1 = n ∧ hI (wNew β c k n v) c 2 = v := by
  unfold wNew
  refine ⟨?_, ?_, ?_⟩ <;> simp [hI_sI]
theorem wObj.mk {kd row : Nat} (hc : fz c) (hk : kd ≤ 6) (hz : zIs β c (kci kd + 4, znf (kci kd))) (h : hI β c 0 = nI kd ∧ hI β c 1 = n ∧ hI β c 2 = v) (hr : kd = 6 → hI β c 3 = nI row) (hr6 : row < 64) : wObj β c kd n v row := ⟨hc, hk, hz, h.1, h.2.1, h.2.2, hr, hr6⟩
theorem k_hired {kd : Nat} (hN52 : 52 ≤ hN α) (hk : kd ≤ 6) (h : ∀ β, frE α β → hN β = hN α + 1 → wObj β (hN α) kd n v 63 → post (some (.ref (G.1 + hN α))) β) : ZK G (d + 5) mX11_hired [.int (nI kd), .int n, .int v] α post := by
  have hfz : fz (hN α) := Or.inr hN52
  have hkk : kd = 0 ∨ kd = 1 ∨ kd = 2 ∨ kd = 3 ∨ kd = 4 ∨ kd = 5 ∨ kd = 6 := by omega
  refine ZK.of (n := 0) (by decide) (Nat.le_of_ble_eq_true rfl) rfl ?_
  rcases hkk with rfl | rfl | rfl | rfl | rfl | rfl | rfl
  · skip
    refine Z_iload_n dX11_hired_0 rfl rfl ?_
    refine Z_tab (tgt := 107) dX11_hired_1 (fun i hx1 hh1 => ?_) (by decide) (fun hx1 => ?_)
    · skip
      have hi1 : i < 6 := by omega
      match i, hi1, hx1 with
      | 0, _, hx1 =>
        refine ⟨_, 40, rfl, by decide, ?_⟩
        exact absurd hx1 (by decide)
      | 1, _, hx1 =>
        refine ⟨_, 51, rfl, by decide, ?_⟩
        exact absurd hx1 (by decide)
      | 2, _, hx1 =>
        refine ⟨_, 62, rfl, by decide, ?_⟩
        exact absurd hx1 (by decide)
      | 3, _, hx1 =>
        refine ⟨_, 73, rfl, by decide, ?_⟩
        exact absurd hx1 (by decide)
      | 4, _, hx1 =>
        refine ⟨_, 84, rfl, by decide, ?_⟩
        exact absurd hx1 (by decide)
      | 5, _, hx1 =>
        refine ⟨_, 95, rfl, by decide, ?_⟩
        exact absurd hx1 (by decide)
      | k + 6, h, _ => exact absurd h (by omega)
    · skip
      refine Z_new dX11_hired_107 cl_10 nc_X11_133 cf_10 ⟨by decide, by decide⟩ ?_
      refine Z_dup dX11_hired_110 rfl ?_
      refine Z_iload_n dX11_hired_111 rfl rfl ?_
      refine Z_iload_n dX11_hired_112 rfl rfl ?_
      refine Z_iload_n dX11_hired_113 rfl rfl ?_
      refine Z_I3z dX11_hired_114 to_X10_init lk_X11_285 im_X10_init ⟨rfl, rfl⟩ (Nat.le_of_ble_eq_true rfl) ⟨rfl, rfl⟩ ⟨by decide, by decide⟩ ?_
      refine k_X10_init_10 (show zIs (nw α (14, 3) (fun _ => 0)) (hN α) (14, 3) from ⟨Nat.lt_succ_self _, hS_nw⟩) ?_
      refine Z_aret dX11_hired_117 (Or.inr ⟨_, rfl⟩) rfl (Or.inl ⟨_, rfl⟩) ⟨by decide, by decide⟩ ?_
      refine h _ (frE.wNew (Nat.le_refl _) frE.new) rfl (wObj.mk (kd := 0) hfz (by omega) ⟨Nat.lt_succ_self _, hS_nw (f := fun _ => 0)⟩ wNew_at (fun z => absurd z (by decide)) (by decide))
  · skip
    refine Z_iload_n dX11_hired_0 rfl rfl ?_
    refine Z_tab (tgt := 107) dX11_hired_1 (fun i hx1 hh1 => ?_) (by decide) (fun hx1 => ?_)
    · skip
      have hi1 : i < 6 := by omega
      match i, hi1, hx1 with
      | 0, _, hx1 =>
        refine ⟨_, 40, rfl, by decide, ?_⟩
        refine Z_new dX11_hired_40 cl_3 nc_X11_267 cf_3 ⟨by decide, by decide⟩ ?_
        refine Z_dup dX11_hired_43 rfl ?_
        refine Z_iload_n dX11_hired_44 rfl rfl ?_
        refine Z_iload_n dX11_hired_45 rfl rfl ?_
        refine Z_iload_n dX11_hired_46 rfl rfl ?_
        refine Z_I3z dX11_hired_47 to_X3_init lk_X11_269 im_X3_init ⟨rfl, rfl⟩ (Nat.le_of_ble_eq_true rfl) ⟨rfl, rfl⟩ ⟨by decide, by decide⟩ ?_
        refine k_X3_init_3 (show zIs (nw α (7, 3) (fun _ => 0)) (hN α) (7, 3) from ⟨Nat.lt_succ_self _, hS_nw⟩) ?_
        refine Z_aret dX11_hired_50 (Or.inr ⟨_, rfl⟩) rfl (Or.inl ⟨_, rfl⟩) ⟨by decide, by decide⟩ ?_
        refine h _ (frE.wNew (Nat.le_refl _) frE.new) rfl (wObj.mk (kd := 1) hfz (by omega) ⟨Nat.lt_succ_self _, hS_nw (f := fun _ => 0)⟩ wNew_at (fun z => absurd z (by decide)) (by decide))
      | 1, _, hx1 =>
        refine ⟨_, 51, rfl, by decide, ?_⟩
        exact absurd hx1 (by decide)
      | 2, _, hx1 =>
        refine ⟨_, 62, rfl, by decide, ?_⟩
        exact absurd hx1 (by decide)
      | 3, _, hx1 =>
        refine ⟨_, 73, rfl, by decide, ?_⟩
        exact absurd hx1 (by decide)
      | 4, _, hx1 =>
        refine ⟨_, 84, rfl, by decide, ?_⟩
        exact absurd hx1 (by decide)
      | 5, _, hx1 =>
        refine ⟨_, 95, rfl, by decide, ?_⟩
        exact absurd hx1 (by decide)
      | k + 6, h, _ => exact absurd h (by omega)
    · skip
      exact absurd hx1 (by decide)
  · skip
    refine Z_iload_n dX11_hired_0 rfl rfl ?_
    refine Z_tab (tgt := 107) dX11_hired_1 (fun i hx1 hh1 => ?_) (by decide) (fun hx1 => ?_)
    · skip
      have hi1 : i < 6 := by omega
      match i, hi1, hx1 with
      | 0, _, hx1 =>
        refine ⟨_, 40, rfl, by decide, ?_⟩
        exact absurd hx1 (by decide)
      | 1, _, hx1 =>
        refine ⟨_, 51, rfl, by decide, ?_⟩
        refine Z_new dX11_hired_51 cl_2 nc_X11_272 cf_2 ⟨by decide, by decide⟩ ?_
        refine Z_dup dX11_hired_54 rfl ?_
        refine Z_iload_n dX11_hired_55 rfl rfl ?_
        refine Z_iload_n dX11_hired_56 rfl rfl ?_
        refine Z_iload_n dX11_hired_57 rfl rfl ?_
        refine Z_I3z dX11_hired_58 to_X2_init lk_X11_274 im_X2_init ⟨rfl, rfl⟩ (Nat.le_of_ble_eq_true rfl) ⟨rfl, rfl⟩ ⟨by decide, by decide⟩ ?_
        refine k_X2_init_2 (show zIs (nw α (6, 3) (fun _ => 0)) (hN α) (6, 3) from ⟨Nat.lt_succ_self _, hS_nw⟩) ?_
        refine Z_aret dX11_hired_61 (Or.inr ⟨_, rfl⟩) rfl (Or.inl ⟨_, rfl⟩) ⟨by decide, by decide⟩ ?_
        refine h _ (frE.wNew (Nat.le_refl _) frE.new) rfl (wObj.mk (kd := 2) hfz (by omega) ⟨Nat.lt_succ_self _, hS_nw (f := fun _ => 0)⟩ wNew_at (fun z => absurd z (by decide)) (by decide))
      | 2, _, hx1 =>
        refine ⟨_, 62, rfl, by decide, ?_⟩
        exact absurd hx1 (by decide)
      | 3, _, hx1 =>
        refine ⟨_, 73, rfl, by decide, ?_⟩
        exact absurd hx1 (by decide)
      | 4, _, hx1 =>
        refine ⟨_, 84, rfl, by decide, ?_⟩
        exact absurd hx1 (by decide)
      | 5, _, hx1 =>
        refine ⟨_, 95, rfl, by decide, ?_⟩
        exact absurd hx1 (by decide)
      | k + 6, h, _ => exact absurd h (by omega)
    · skip
      exact absurd hx1 (by decide)
  · skip
    refine Z_iload_n dX11_hired_0 rfl rfl ?_
    refine Z_tab (tgt := 107) dX11_hired_1 (fun i hx1 hh1 => ?_) (by decide) (fun hx1 => ?_)
    · skip
      have hi1 : i < 6 := by omega
      match i, hi1, hx1 with
      | 0, _, hx1 =>
        refine ⟨_, 40, rfl, by decide, ?_⟩
        exact absurd hx1 (by decide)
      | 1, _, hx1 =>
        refine ⟨_, 51, rfl, by decide, ?_⟩
        exact absurd hx1 (by decide)
      | 2, _, hx1 =>
        refine ⟨_, 62, rfl, by decide, ?_⟩
        refine Z_new dX11_hired_62 cl_9 nc_X11_275 cf_9 ⟨by decide, by decide⟩ ?_
        refine Z_dup dX11_hired_65 rfl ?_
        refine Z_iload_n dX11_hired_66 rfl rfl ?_
        refine Z_iload_n dX11_hired_67 rfl rfl ?_
        refine Z_iload_n dX11_hired_68 rfl rfl ?_
        refine Z_I3z dX11_hired_69 to_X9_init lk_X11_277 im_X9_init ⟨rfl, rfl⟩ (Nat.le_of_ble_eq_true rfl) ⟨rfl, rfl⟩ ⟨by decide, by decide⟩ ?_
        refine k_X9_init_9 (show zIs (nw α (13, 3) (fun _ => 0)) (hN α) (13, 3) from ⟨Nat.lt_succ_self _, hS_nw⟩) ?_
        refine Z_aret dX11_hired_72 (Or.inr ⟨_, rfl⟩) rfl (Or.inl ⟨_, rfl⟩) ⟨by decide, by decide⟩ ?_
        refine h _ (frE.wNew (Nat.le_refl _) frE.new) rfl (wObj.mk (kd := 3) hfz (by omega) ⟨Nat.lt_succ_self _, hS_nw (f := fun _ => 0)⟩ wNew_at (fun z => absurd z (by decide)) (by decide))
      | 3, _, hx1 =>
        refine ⟨_, 73, rfl, by decide, ?_⟩
        exact absurd hx1 (by decide)
      | 4, _, hx1 =>
        refine ⟨_, 84, rfl, by decide, ?_⟩
        exact absurd hx1 (by decide)
      | 5, _, hx1 =>
        refine ⟨_, 95, rfl, by decide, ?_⟩
        exact absurd hx1 (by decide)
      | k + 6, h, _ => exact absurd h (by omega)
    · skip
      exact absurd hx1 (by decide)
  · skip
    refine Z_iload_n dX11_hired_0 rfl rfl ?_
    refine Z_tab (tgt := 107) dX11_hired_1 (fun i hx1 hh1 => ?_) (by decide) (fun hx1 => ?_)
    · skip
      have hi1 : i < 6 := by omega
      match i, hi1, hx1 with
      | 0, _, hx1 =>
        refine ⟨_, 40, rfl, by decide, ?_⟩
        exact absurd hx1 (by decide)
      | 1, _, hx1 =>
        refine ⟨_, 51, rfl, by decide, ?_⟩
        exact absurd hx1 (by decide)
      | 2, _, hx1 =>
        refine ⟨_, 62, rfl, by decide, ?_⟩
        exact absurd hx1 (by decide)
      | 3, _, hx1 =>
        refine ⟨_, 73, rfl, by decide, ?_⟩
        refine Z_new dX11_hired_73 cl_6 nc_X11_278 cf_6 ⟨by decide, by decide⟩ ?_
        refine Z_dup dX11_hired_76 rfl ?_
        refine Z_iload_n dX11_hired_77 rfl rfl ?_
        refine Z_iload_n dX11_hired_78 rfl rfl ?_
        refine Z_iload_n dX11_hired_79 rfl rfl ?_
        refine Z_I3z dX11_hired_80 to_X6_init lk_X11_280 im_X6_init ⟨rfl, rfl⟩ (Nat.le_of_ble_eq_true rfl) ⟨rfl, rfl⟩ ⟨by decide, by decide⟩ ?_
        refine k_X6_init_6 (show zIs (nw α (10, 3) (fun _ => 0)) (hN α) (10, 3) from ⟨Nat.lt_succ_self _, hS_nw⟩) ?_
        refine Z_aret dX11_hired_83 (Or.inr ⟨_, rfl⟩) rfl (Or.inl ⟨_, rfl⟩) ⟨by decide, by decide⟩ ?_
        refine h _ (frE.wNew (Nat.le_refl _) frE.new) rfl (wObj.mk (kd := 4) hfz (by omega) ⟨Nat.lt_succ_self _, hS_nw (f := fun _ => 0)⟩ wNew_at (fun z => absurd z (by decide)) (by decide))
      | 4, _, hx1 =>
        refine ⟨_, 84, rfl, by decide, ?_⟩
        exact absurd hx1 (by decide)
      | 5, _, hx1 =>
        refine ⟨_, 95, rfl, by decide, ?_⟩
        exact absurd hx1 (by decide)
      | k + 6, h, _ => exact absurd h (by omega)
    · skip
      exact absurd hx1 (by decide)
  · skip
    refine Z_iload_n dX11_hired_0 rfl rfl ?_
    refine Z_tab (tgt := 107) dX11_hired_1 (fun i hx1 hh1 => ?_) (by decide) (fun hx1 => ?_)
    · skip
      have hi1 : i < 6 := by omega
      match i, hi1, hx1 with
      | 0, _, hx1 =>
        refine ⟨_, 40, rfl, by decide, ?_⟩
        exact absurd hx1 (by decide)
      | 1, _, hx1 =>
        refine ⟨_, 51, rfl, by decide, ?_⟩
        exact absurd hx1 (by decide)
      | 2, _, hx1 =>
        refine ⟨_, 62, rfl, by decide, ?_⟩
        exact absurd hx1 (by decide)
      | 3, _, hx1 =>
        refine ⟨_, 73, rfl, by decide, ?_⟩
        exact absurd hx1 (by decide)
      | 4, _, hx1 =>
        refine ⟨_, 84, rfl, by decide, ?_⟩
        refine Z_new dX11_hired_84 cl_1 nc_X11_281 cf_1 ⟨by decide, by decide⟩ ?_
        refine Z_dup dX11_hired_87 rfl ?_
        refine Z_iload_n dX11_hired_88 rfl rfl ?_
        refine Z_iload_n dX11_hired_89 rfl rfl ?_
        refine Z_iload_n dX11_hired_90 rfl rfl ?_
        refine Z_I3z dX11_hired_91 to_X1_init lk_X11_283 im_X1_init ⟨rfl, rfl⟩ (Nat.le_of_ble_eq_true rfl) ⟨rfl, rfl⟩ ⟨by decide, by decide⟩ ?_
        refine k_X1_init_1 (show zIs (nw α (5, 3) (fun _ => 0)) (hN α) (5, 3) from ⟨Nat.lt_succ_self _, hS_nw⟩) ?_
        refine Z_aret dX11_hired_94 (Or.inr ⟨_, rfl⟩) rfl (Or.inl ⟨_, rfl⟩) ⟨by decide, by decide⟩ ?_
        refine h _ (frE.wNew (Nat.le_refl _) frE.new) rfl (wObj.mk (kd := 5) hfz (by omega) ⟨Nat.lt_succ_self _, hS_nw (f := fun _ => 0)⟩ wNew_at (fun z => absurd z (by decide)) (by decide))
      | 5, _, hx1 =>
        refine ⟨_, 95, rfl, by decide, ?_⟩
        exact absurd hx1 (by decide)
      | k + 6, h, _ => exact absurd h (by omega)
    · skip
      exact absurd hx1 (by decide)
  · skip
    refine Z_iload_n dX11_hired_0 rfl rfl ?_
    refine Z_tab (tgt := 107) dX11_hired_1 (fun i hx1 hh1 => ?_) (by decide) (fun hx1 => ?_)
    · skip
      have hi1 : i < 6 := by omega
      match i, hi1, hx1 with
      | 0, _, hx1 =>
        refine ⟨_, 40, rfl, by decide, ?_⟩
        exact absurd hx1 (by decide)
      | 1, _, hx1 =>
        refine ⟨_, 51, rfl, by decide, ?_⟩
        exact absurd hx1 (by decide)
      | 2, _, hx1 =>
        refine ⟨_, 62, rfl, by decide, ?_⟩
        exact absurd hx1 (by decide)
      | 3, _, hx1 =>
        refine ⟨_, 73, rfl, by decide, ?_⟩
        exact absurd hx1 (by decide)
      | 4, _, hx1 =>
        refine ⟨_, 84, rfl, by decide, ?_⟩
        exact absurd hx1 (by decide)
      | 5, _, hx1 =>
        refine ⟨_, 95, rfl, by decide, ?_⟩
        refine Z_new dX11_hired_95 cl_7 nc_X11_122 cf_7 ⟨by decide, by decide⟩ ?_
        refine Z_dup dX11_hired_98 rfl ?_
        refine Z_iload_n dX11_hired_99 rfl rfl ?_
        refine Z_iload_n dX11_hired_100 rfl rfl ?_
        refine Z_bipush (v := 63) dX11_hired_101 (by decide) ?_
        refine Z_I3z dX11_hired_103 to_X7_init lk_X11_284 im_X7_init ⟨rfl, rfl⟩ (Nat.le_of_ble_eq_true rfl) ⟨rfl, rfl⟩ ⟨by decide, by decide⟩ ?_
        refine k_X7_init (show zIs (nw α (11, 4) (fun _ => 0)) (hN α) (11, 4) from ⟨Nat.lt_succ_self _, hS_nw⟩) ?_
        refine Z_aret dX11_hired_106 (Or.inr ⟨_, rfl⟩) rfl (Or.inl ⟨_, rfl⟩) ⟨by decide, by decide⟩ ?_
        refine h _ ((frE.wNew (Nat.le_refl _) frE.new).pI (Nat.le_refl _)) rfl (wObj.mk (kd := 6) hfz (by omega) ⟨Nat.lt_succ_self _, hS_nw (f := fun _ => 0)⟩ (by unfold wNew; refine ⟨?_, ?_, ?_⟩ <;> simp [hI_sI] <;> rfl) (fun _ => by rw [hI_sI, if_pos ⟨rfl, rfl⟩]; rfl) (by decide))
      | k + 6, h, _ => exact absurd h (by omega)
    · skip
      exact absurd hx1 (by decide)
theorem k_lonely {k : Nat} (hN52 : 52 ≤ hN α) (hk : k < 3) (h : ∀ β, frE α β → hN β = hN α + 1 → wObj β (hN α) 6 0 (-1) (k * 21) → post (some (.ref (G.1 + hN α))) β) : ZK G (d + 5) mX11_lonely [.int (nI k)] α post := by
  have hfz : fz (hN α) := Or.inr hN52
  have key : ∀ k, k < 3 → (nI k ||| nI k <<< ((2 : Int32) &&& 31)) ||| nI k <<< ((4 : Int32) &&& 31) = nI (k * 21) := by decide +kernel
  refine ZK.of (n := 0) (by decide) (Nat.le_of_ble_eq_true rfl) rfl ?_
  refine Z_new dX11_lonely_0 cl_7 nc_X11_122 cf_7 ⟨by decide, by decide⟩ ?_
  refine Z_dup dX11_lonely_3 rfl ?_
  refine Z_iconst (v := 0) dX11_lonely_4 (by decide) ?_
  refine Z_iconst (v := -1) dX11_lonely_5 (by decide) ?_
  refine Z_iload_n dX11_lonely_6 rfl rfl ?_
  refine Z_iload_n dX11_lonely_7 rfl rfl ?_
  refine Z_iconst (v := 2) dX11_lonely_8 (by decide) ?_
  refine Z_ishl dX11_lonely_9 ?_
  refine Z_ior dX11_lonely_10 ?_
  refine Z_iload_n dX11_lonely_11 rfl rfl ?_
  refine Z_iconst (v := 4) dX11_lonely_12 (by decide) ?_
  refine Z_ishl dX11_lonely_13 ?_
  refine Z_ior dX11_lonely_14 ?_
  rw [key k hk]
  refine Z_I3z dX11_lonely_15 to_X7_init lk_X11_284 im_X7_init ⟨rfl, rfl⟩ (Nat.le_of_ble_eq_true rfl) ⟨rfl, rfl⟩ ⟨by decide, by decide⟩ ?_
  refine k_X7_init (show zIs (nw α (11, 4) (fun _ => 0)) (hN α) (11, 4) from ⟨Nat.lt_succ_self _, hS_nw⟩) ?_
  refine Z_aret dX11_lonely_18 (Or.inr ⟨_, rfl⟩) rfl (Or.inl ⟨_, rfl⟩) ⟨by decide, by decide⟩ ?_
  refine h _ ((frE.wNew (Nat.le_refl _) frE.new).pI (Nat.le_refl _)) rfl (wObj.mk (kd := 6) hfz (by omega) ⟨Nat.lt_succ_self _, hS_nw (f := fun _ => 0)⟩ (by unfold wNew; refine ⟨?_, ?_, ?_⟩ <;> simp [hI_sI] <;> rfl) (fun _ => by rw [hI_sI, if_pos ⟨rfl, rfl⟩]) (by omega))
theorem tell_ok : ∀ r, r < 64 → ∀ s, s < 3 → ∀ n, n < 4 → (nI r &&& ((3 : Int32) <<< (2 * nI s &&& 31) ^^^ (-1))) ||| (nI n <<< (2 * nI s &&& 31)) = nI (r - r / 4 ^ s % 4 * 4 ^ s + n * 4 ^ s) := by decide +kernel
theorem k_telling {s m row : Nat} {num w : Int32} (hN52 : 52 ≤ hN α) (ho : wObj α c 6 num w row) (hs : s < 3) (hm : m < 4) (h : ∀ β, frE α β → hN β = hN α + 1 → wObj β (hN α) 6 num w (row - row / 4 ^ s % 4 * 4 ^ s + m * 4 ^ s) → post (some (.ref (G.1 + hN α))) β) : ZK G (d + 5) mX7_telling [.ref (G.1 + c), .int (nI s), .int (nI m)] α post := by
  have hfz : fz (hN α) := Or.inr hN52
  obtain ⟨hcz, -, hz, -, h1, h2, h3, h64⟩ := ho
  have hz : zIs α c (11, 4) := hz
  have hne : c ≠ hN α := by have := hz.1; omega
  have hzn : zIs (nw α (11, 4) (fun _ => 0)) c (11, 4) := ⟨Nat.lt_succ_of_lt hz.1, (u1_n hne).trans hz.2⟩
  have hi : hI (nw α (11, 4) (fun _ => 0)) c = hI α c := u1_n hne
  have hb : row - row / 4 ^ s % 4 * 4 ^ s + m * 4 ^ s < 64 := by
    rcases s3 hs with rfl | rfl | rfl <;> simp <;> omega
  refine ZK.of (n := 1) (by decide) (Nat.le_of_ble_eq_true rfl) rfl ?_
  refine Z_aload_n dX7_telling_0 rfl rfl ?_
  refine Z_getIv dX7_telling_1 cl_7 fl_X7_9_7 rfl (by first | exact hz | exact hzn) (h3 rfl) ?_
  refine Z_iconst (v := 3) dX7_telling_4 (by decide) ?_
  refine Z_iconst (v := 2) dX7_telling_5 (by decide) ?_
  refine Z_iload_n dX7_telling_6 rfl rfl ?_
  refine Z_imul dX7_telling_7 ?_
  refine Z_ishl dX7_telling_8 ?_
  refine Z_iconst (v := -1) dX7_telling_9 (by decide) ?_
  refine Z_ixor dX7_telling_10 ?_
  refine Z_iand dX7_telling_11 ?_
  refine Z_istore_n (L' := [_, _, _, _]) dX7_telling_12 rfl (by decide) rfl rfl ?_
  refine Z_new dX7_telling_13 cl_7 nc_X7_10 cf_7 ⟨by decide, by decide⟩ ?_
  refine Z_dup dX7_telling_16 rfl ?_
  refine Z_aload_n dX7_telling_17 rfl rfl ?_
  refine Z_getIv dX7_telling_18 cl_7 fl_X7_15_7 rfl (by first | exact hz | exact hzn) (show hI (nw α (11, 4) (fun _ => 0)) c 1 = num by rw [hi]; exact h1) ?_
  refine Z_aload_n dX7_telling_21 rfl rfl ?_
  refine Z_getIv dX7_telling_22 cl_7 fl_X7_18_7 rfl (by first | exact hz | exact hzn) (show hI (nw α (11, 4) (fun _ => 0)) c 2 = w by rw [hi]; exact h2) ?_
  refine Z_iload_n dX7_telling_25 rfl rfl ?_
  refine Z_iload_n dX7_telling_26 rfl rfl ?_
  refine Z_iconst (v := 2) dX7_telling_27 (by decide) ?_
  refine Z_iload_n dX7_telling_28 rfl rfl ?_
  refine Z_imul dX7_telling_29 ?_
  refine Z_ishl dX7_telling_30 ?_
  refine Z_ior dX7_telling_31 ?_
  rw [tell_ok row h64 s hs m hm]
  refine Z_I3z dX7_telling_32 to_X7_init lk_X7_21 im_X7_init ⟨rfl, rfl⟩ (Nat.le_of_ble_eq_true rfl) ⟨rfl, rfl⟩ ⟨by decide, by decide⟩ ?_
  refine k_X7_init (show zIs (nw α (11, 4) (fun _ => 0)) (hN α) (11, 4) from ⟨Nat.lt_succ_self _, hS_nw⟩) ?_
  refine Z_aret dX7_telling_35 (Or.inr ⟨_, rfl⟩) rfl (Or.inl ⟨_, rfl⟩) ⟨by decide, by decide⟩ ?_
  refine h _ ((frE.wNew (Nat.le_refl _) frE.new).pI (Nat.le_refl _)) rfl (wObj.mk (kd := 6) hfz (by omega) ⟨Nat.lt_succ_self _, hS_nw (f := fun _ => 0)⟩ (by unfold wNew; refine ⟨?_, ?_, ?_⟩ <;> simp [hI_sI] <;> rfl) (fun _ => by rw [hI_sI, if_pos ⟨rfl, rfl⟩]) hb)
end CI1
