section CI3
variable {G : ZG} {d : Nat} {α : AH} {post : Option Value → AH → Prop}
theorem k_sinit5 {b : Nat} (h0 : hN α = 5) (h : ∀ β, frE α β → hN β = 11 → (zIs β 5 (9, 12) ∧ zIs β 6 (0, 3) ∧ zIs β 7 (0, 3) ∧ zIs β 8 (0, 100) ∧ zIs β 9 (3, 8) ∧ zIs β 10 (0, 12) ∧ hP β 5 0 = some 6 ∧ hP β 5 1 = some 7 ∧ hP β 5 4 = some 8 ∧ hP β 5 8 = some 9 ∧ hP β 5 10 = some 10 ∧ hP β 5 6 = some b ∧ (hI β 6 = fun _ => 0) ∧ (hI β 7 = fun _ => 0) ∧ (hI β 8 = fun _ => 0) ∧ (hI β 9 = fun _ => 0) ∧ (hI β 10 = fun _ => 0) ∧ (hI β 5 = fun _ => 0) ∧ (hP β 9 = fun _ => none)) → post none β) : ZK G (d + 1) mX5_init [.ref (G.1 + 5), .ref (G.1 + b)] (nw α (9, 12) (fun _ => 0)) post := by
  obtain ⟨n, s, i, j, p⟩ := α
  have h0 : n = 5 := h0
  subst h0
  refine ZK.of (n := 0) (by decide) (Nat.le_of_ble_eq_true rfl) rfl ?_
  refine Z_aload_n dX5_init_0 rfl rfl ?_
  refine Z_obj dX5_init_1 ob_X5_3 (Nat.le_of_ble_eq_true rfl) ?_
  refine Z_aload_n dX5_init_4 rfl rfl ?_
  refine Z_iconst (v := 3) dX5_init_5 (by decide) ?_
  refine Z_newa (t := 0) (N := 3) dX5_init_6 rfl (Or.inl ⟨rfl, rfl⟩) wd_55 (by decide) (by decide) (by decide) ⟨by decide, by decide⟩ ?_
  refine Z_putR dX5_init_8 cl_5 fl_X5_9_5 (Or.inr ⟨fn_5_0, rfl⟩) rfl ⟨Nat.le_of_ble_eq_true rfl, rfl⟩ rfl rfl ?_
  refine Z_aload_n dX5_init_11 rfl rfl ?_
  refine Z_iconst (v := 3) dX5_init_12 (by decide) ?_
  refine Z_newa (t := 0) (N := 3) dX5_init_13 rfl (Or.inl ⟨rfl, rfl⟩) wd_55 (by decide) (by decide) (by decide) ⟨by decide, by decide⟩ ?_
  refine Z_putR dX5_init_15 cl_5 fl_X5_15_5 (Or.inr ⟨fn_5_1, rfl⟩) rfl ⟨Nat.le_of_ble_eq_true rfl, rfl⟩ rfl rfl ?_
  refine Z_aload_n dX5_init_18 rfl rfl ?_
  refine Z_bipush (v := 100) dX5_init_19 (by decide) ?_
  refine Z_newa (t := 0) (N := 100) dX5_init_21 rfl (Or.inl ⟨rfl, rfl⟩) wd_55 (by decide) (by decide) (by decide) ⟨by decide, by decide⟩ ?_
  refine Z_putR dX5_init_23 cl_5 fl_X5_18_5 (Or.inr ⟨fn_5_4, rfl⟩) rfl ⟨Nat.le_of_ble_eq_true rfl, rfl⟩ rfl rfl ?_
  refine Z_aload_n dX5_init_26 rfl rfl ?_
  refine Z_bipush (v := 8) dX5_init_27 (by decide) ?_
  refine Z_anew (N := 8) dX5_init_29 wd_62 (by decide) (by decide) (by decide) ⟨by decide, by decide⟩ ?_
  refine Z_putR dX5_init_32 cl_5 fl_X5_23_5 (Or.inr ⟨fn_5_8, rfl⟩) rfl ⟨Nat.le_of_ble_eq_true rfl, rfl⟩ rfl rfl ?_
  refine Z_aload_n dX5_init_35 rfl rfl ?_
  refine Z_bipush (v := 12) dX5_init_36 (by decide) ?_
  refine Z_newa (t := 0) (N := 12) dX5_init_38 rfl (Or.inl ⟨rfl, rfl⟩) wd_55 (by decide) (by decide) (by decide) ⟨by decide, by decide⟩ ?_
  refine Z_putR dX5_init_40 cl_5 fl_X5_27_5 (Or.inr ⟨fn_5_10, rfl⟩) rfl ⟨Nat.le_of_ble_eq_true rfl, rfl⟩ rfl rfl ?_
  refine Z_aload_n dX5_init_43 rfl rfl ?_
  refine Z_aload_n dX5_init_44 rfl rfl ?_
  refine Z_putR dX5_init_45 cl_5 fl_X5_30_5 (Or.inl fn_5_6) rfl ⟨Nat.le_of_ble_eq_true rfl, rfl⟩ rfl rfl ?_
  refine Z_vret dX5_init_48 rfl ⟨by decide, by decide⟩ ?_
  refine h _ ?_ rfl ⟨⟨Nat.le_of_ble_eq_true rfl, rfl⟩, ⟨Nat.le_of_ble_eq_true rfl, rfl⟩, ⟨Nat.le_of_ble_eq_true rfl, rfl⟩, ⟨Nat.le_of_ble_eq_true rfl, rfl⟩, ⟨Nat.le_of_ble_eq_true rfl, rfl⟩, ⟨Nat.le_of_ble_eq_true rfl, rfl⟩, rfl, rfl, rfl, rfl, rfl, rfl, rfl, rfl, rfl, rfl, rfl, rfl, rfl⟩
  exact ⟨Nat.le_of_ble_eq_true rfl, fun k hk => by
    have hk : k < 5 := hk
    have e : k = 0 ∨ k = 1 ∨ k = 2 ∨ k = 3 ∨ k = 4 := by omega
    rcases e with rfl | rfl | rfl | rfl | rfl <;> exact ⟨rfl, rfl, rfl, rfl⟩⟩
theorem k_sinit11 {b : Nat} (h0 : hN α = 11) (h : ∀ β, frE α β → hN β = 17 → (zIs β 11 (9, 12) ∧ zIs β 12 (0, 3) ∧ zIs β 13 (0, 3) ∧ zIs β 14 (0, 100) ∧ zIs β 15 (3, 8) ∧ zIs β 16 (0, 12) ∧ hP β 11 0 = some 12 ∧ hP β 11 1 = some 13 ∧ hP β 11 4 = some 14 ∧ hP β 11 8 = some 15 ∧ hP β 11 10 = some 16 ∧ hP β 11 6 = some b ∧ (hI β 12 = fun _ => 0) ∧ (hI β 13 = fun _ => 0) ∧ (hI β 14 = fun _ => 0) ∧ (hI β 15 = fun _ => 0) ∧ (hI β 16 = fun _ => 0) ∧ (hI β 11 = fun _ => 0) ∧ (hP β 15 = fun _ => none)) → post none β) : ZK G (d + 1) mX5_init [.ref (G.1 + 11), .ref (G.1 + b)] (nw α (9, 12) (fun _ => 0)) post := by
  obtain ⟨n, s, i, j, p⟩ := α
  have h0 : n = 11 := h0
  subst h0
  refine ZK.of (n := 0) (by decide) (Nat.le_of_ble_eq_true rfl) rfl ?_
  refine Z_aload_n dX5_init_0 rfl rfl ?_
  refine Z_obj dX5_init_1 ob_X5_3 (Nat.le_of_ble_eq_true rfl) ?_
  refine Z_aload_n dX5_init_4 rfl rfl ?_
  refine Z_iconst (v := 3) dX5_init_5 (by decide) ?_
  refine Z_newa (t := 0) (N := 3) dX5_init_6 rfl (Or.inl ⟨rfl, rfl⟩) wd_55 (by decide) (by decide) (by decide) ⟨by decide, by decide⟩ ?_
  refine Z_putR dX5_init_8 cl_5 fl_X5_9_5 (Or.inr ⟨fn_5_0, rfl⟩) rfl ⟨Nat.le_of_ble_eq_true rfl, rfl⟩ rfl rfl ?_
  refine Z_aload_n dX5_init_11 rfl rfl ?_
  refine Z_iconst (v := 3) dX5_init_12 (by decide) ?_
  refine Z_newa (t := 0) (N := 3) dX5_init_13 rfl (Or.inl ⟨rfl, rfl⟩) wd_55 (by decide) (by decide) (by decide) ⟨by decide, by decide⟩ ?_
  refine Z_putR dX5_init_15 cl_5 fl_X5_15_5 (Or.inr ⟨fn_5_1, rfl⟩) rfl ⟨Nat.le_of_ble_eq_true rfl, rfl⟩ rfl rfl ?_
  refine Z_aload_n dX5_init_18 rfl rfl ?_
  refine Z_bipush (v := 100) dX5_init_19 (by decide) ?_
  refine Z_newa (t := 0) (N := 100) dX5_init_21 rfl (Or.inl ⟨rfl, rfl⟩) wd_55 (by decide) (by decide) (by decide) ⟨by decide, by decide⟩ ?_
  refine Z_putR dX5_init_23 cl_5 fl_X5_18_5 (Or.inr ⟨fn_5_4, rfl⟩) rfl ⟨Nat.le_of_ble_eq_true rfl, rfl⟩ rfl rfl ?_
  refine Z_aload_n dX5_init_26 rfl rfl ?_
  refine Z_bipush (v := 8) dX5_init_27 (by decide) ?_
  refine Z_anew (N := 8) dX5_init_29 wd_62 (by decide) (by decide) (by decide) ⟨by decide, by decide⟩ ?_
  refine Z_putR dX5_init_32 cl_5 fl_X5_23_5 (Or.inr ⟨fn_5_8, rfl⟩) rfl ⟨Nat.le_of_ble_eq_true rfl, rfl⟩ rfl rfl ?_
  refine Z_aload_n dX5_init_35 rfl rfl ?_
  refine Z_bipush (v := 12) dX5_init_36 (by decide) ?_
  refine Z_newa (t := 0) (N := 12) dX5_init_38 rfl (Or.inl ⟨rfl, rfl⟩) wd_55 (by decide) (by decide) (by decide) ⟨by decide, by decide⟩ ?_
  refine Z_putR dX5_init_40 cl_5 fl_X5_27_5 (Or.inr ⟨fn_5_10, rfl⟩) rfl ⟨Nat.le_of_ble_eq_true rfl, rfl⟩ rfl rfl ?_
  refine Z_aload_n dX5_init_43 rfl rfl ?_
  refine Z_aload_n dX5_init_44 rfl rfl ?_
  refine Z_putR dX5_init_45 cl_5 fl_X5_30_5 (Or.inl fn_5_6) rfl ⟨Nat.le_of_ble_eq_true rfl, rfl⟩ rfl rfl ?_
  refine Z_vret dX5_init_48 rfl ⟨by decide, by decide⟩ ?_
  refine h _ ?_ rfl ⟨⟨Nat.le_of_ble_eq_true rfl, rfl⟩, ⟨Nat.le_of_ble_eq_true rfl, rfl⟩, ⟨Nat.le_of_ble_eq_true rfl, rfl⟩, ⟨Nat.le_of_ble_eq_true rfl, rfl⟩, ⟨Nat.le_of_ble_eq_true rfl, rfl⟩, ⟨Nat.le_of_ble_eq_true rfl, rfl⟩, rfl, rfl, rfl, rfl, rfl, rfl, rfl, rfl, rfl, rfl, rfl, rfl, rfl⟩
  exact ⟨Nat.le_of_ble_eq_true rfl, fun k hk => by
    have hk : k < 11 := hk
    have e : k = 0 ∨ k = 1 ∨ k = 2 ∨ k = 3 ∨ k = 4 ∨ k = 5 ∨ k = 6 ∨ k = 7 ∨ k = 8 ∨ k = 9 ∨ k = 10 := by omega
    rcases e with rfl | rfl | rfl | rfl | rfl | rfl | rfl | rfl | rfl | rfl | rfl <;> exact ⟨rfl, rfl, rfl, rfl⟩⟩
theorem k_rinit  (h0 : hN α = 17) (h : ∀ β, frE α β → hN β = 23 → (zIs β 17 (8, 10) ∧ zIs β 18 (0, 0) ∧ zIs β 19 (0, 100) ∧ zIs β 20 (0, 10) ∧ zIs β 21 (0, 10) ∧ zIs β 22 (0, 3) ∧ hP β 17 0 = some 18 ∧ hP β 17 3 = some 19 ∧ hP β 17 5 = some 20 ∧ hP β 17 6 = some 21 ∧ hP β 17 8 = some 22 ∧ (hI β 18 = fun _ => 0) ∧ (hI β 19 = fun _ => 0) ∧ (hI β 20 = fun _ => 0) ∧ (hI β 21 = fun _ => 0) ∧ (hI β 22 = fun _ => 0)) → post none β) : ZK G (d + 1) mX4_init [.ref (G.1 + 17)] (nw α (8, 10) (fun _ => 0)) post := by
  obtain ⟨n, s, i, j, p⟩ := α
  have h0 : n = 17 := h0
  subst h0
  refine ZK.of (n := 0) (by decide) (Nat.le_of_ble_eq_true rfl) rfl ?_
  refine Z_aload_n dX4_init_0 rfl rfl ?_
  refine Z_obj dX4_init_1 ob_X4_3 (Nat.le_of_ble_eq_true rfl) ?_
  refine Z_aload_n dX4_init_4 rfl rfl ?_
  refine Z_iconst (v := 0) dX4_init_5 (by decide) ?_
  refine Z_newa (t := 0) (N := 0) dX4_init_6 rfl (Or.inl ⟨rfl, rfl⟩) wd_55 (by decide) (by decide) (by decide) ⟨by decide, by decide⟩ ?_
  refine Z_putR dX4_init_8 cl_4 fl_X4_9_4 (Or.inl fn_4_0) rfl ⟨Nat.le_of_ble_eq_true rfl, rfl⟩ rfl rfl ?_
  refine Z_aload_n dX4_init_11 rfl rfl ?_
  refine Z_bipush (v := 100) dX4_init_12 (by decide) ?_
  refine Z_newa (t := 0) (N := 100) dX4_init_14 rfl (Or.inl ⟨rfl, rfl⟩) wd_55 (by decide) (by decide) (by decide) ⟨by decide, by decide⟩ ?_
  refine Z_putR dX4_init_16 cl_4 fl_X4_15_4 (Or.inr ⟨fn_4_3, rfl⟩) rfl ⟨Nat.le_of_ble_eq_true rfl, rfl⟩ rfl rfl ?_
  refine Z_aload_n dX4_init_19 rfl rfl ?_
  refine Z_bipush (v := 10) dX4_init_20 (by decide) ?_
  refine Z_newa (t := 0) (N := 10) dX4_init_22 rfl (Or.inl ⟨rfl, rfl⟩) wd_55 (by decide) (by decide) (by decide) ⟨by decide, by decide⟩ ?_
  refine Z_putR dX4_init_24 cl_4 fl_X4_18_4 (Or.inr ⟨fn_4_5, rfl⟩) rfl ⟨Nat.le_of_ble_eq_true rfl, rfl⟩ rfl rfl ?_
  refine Z_aload_n dX4_init_27 rfl rfl ?_
  refine Z_bipush (v := 10) dX4_init_28 (by decide) ?_
  refine Z_newa (t := 0) (N := 10) dX4_init_30 rfl (Or.inl ⟨rfl, rfl⟩) wd_55 (by decide) (by decide) (by decide) ⟨by decide, by decide⟩ ?_
  refine Z_putR dX4_init_32 cl_4 fl_X4_21_4 (Or.inr ⟨fn_4_6, rfl⟩) rfl ⟨Nat.le_of_ble_eq_true rfl, rfl⟩ rfl rfl ?_
  refine Z_aload_n dX4_init_35 rfl rfl ?_
  refine Z_iconst (v := 3) dX4_init_36 (by decide) ?_
  refine Z_newa (t := 0) (N := 3) dX4_init_37 rfl (Or.inl ⟨rfl, rfl⟩) wd_55 (by decide) (by decide) (by decide) ⟨by decide, by decide⟩ ?_
  refine Z_putR dX4_init_39 cl_4 fl_X4_24_4 (Or.inr ⟨fn_4_8, rfl⟩) rfl ⟨Nat.le_of_ble_eq_true rfl, rfl⟩ rfl rfl ?_
  refine Z_vret dX4_init_42 rfl ⟨by decide, by decide⟩ ?_
  refine h _ ?_ rfl ⟨⟨Nat.le_of_ble_eq_true rfl, rfl⟩, ⟨Nat.le_of_ble_eq_true rfl, rfl⟩, ⟨Nat.le_of_ble_eq_true rfl, rfl⟩, ⟨Nat.le_of_ble_eq_true rfl, rfl⟩, ⟨Nat.le_of_ble_eq_true rfl, rfl⟩, ⟨Nat.le_of_ble_eq_true rfl, rfl⟩, rfl, rfl, rfl, rfl, rfl, rfl, rfl, rfl, rfl, rfl⟩
  exact ⟨Nat.le_of_ble_eq_true rfl, fun k hk => by
    have hk : k < 17 := hk
    have e : k = 0 ∨ k = 1 ∨ k = 2 ∨ k = 3 ∨ k = 4 ∨ k = 5 ∨ k = 6 ∨ k = 7 ∨ k = 8 ∨ k = 9 ∨ k = 10 ∨ k = 11 ∨ k = 12 ∨ k = 13 ∨ k = 14 ∨ k = 15 ∨ k = 16 := by omega
    rcases e with rfl | rfl | rfl | rfl | rfl | rfl | rfl | rfl | rfl | rfl | rfl | rfl | rfl | rfl | rfl | rfl | rfl <;> exact ⟨rfl, rfl, rfl, rfl⟩⟩
theorem k_ainit23 {b x : Nat} (h0 : hN α = 23) (h : ∀ β, frE α β → hN β = 28 → (zIs β 23 (4, 10) ∧ zIs β 24 (0, 3) ∧ zIs β 25 (0, 270) ∧ zIs β 26 (0, 5) ∧ zIs β 27 (0, 5832) ∧ hP β 23 0 = some 24 ∧ hP β 23 6 = some 25 ∧ hP β 23 7 = some 26 ∧ hP β 23 8 = some 27 ∧ hP β 23 3 = some b ∧ hP β 23 9 = some x ∧ (hI β 24 = fun _ => 0) ∧ (hI β 25 = fun _ => 0) ∧ (hI β 26 = fun _ => 0) ∧ (hI β 27 = fun _ => 0) ∧ hI β 23 2 = -1) → post none β) : ZK G (d + 1) mX0_init [.ref (G.1 + 23), .ref (G.1 + b), .ref (G.1 + x)] (nw α (4, 10) (fun _ => 0)) post := by
  obtain ⟨n, s, i, j, p⟩ := α
  have h0 : n = 23 := h0
  subst h0
  refine ZK.of (n := 0) (by decide) (Nat.le_of_ble_eq_true rfl) rfl ?_
  refine Z_aload_n dX0_init_0 rfl rfl ?_
  refine Z_obj dX0_init_1 ob_X0_3 (Nat.le_of_ble_eq_true rfl) ?_
  refine Z_aload_n dX0_init_4 rfl rfl ?_
  refine Z_iconst (v := 3) dX0_init_5 (by decide) ?_
  refine Z_newa (t := 0) (N := 3) dX0_init_6 rfl (Or.inl ⟨rfl, rfl⟩) wd_55 (by decide) (by decide) (by decide) ⟨by decide, by decide⟩ ?_
  refine Z_putR dX0_init_8 cl_0 fl_X0_9_0 (Or.inr ⟨fn_0_0, rfl⟩) rfl ⟨Nat.le_of_ble_eq_true rfl, rfl⟩ rfl rfl ?_
  refine Z_aload_n dX0_init_11 rfl rfl ?_
  refine Z_iconst (v := -1) dX0_init_12 (by decide) ?_
  refine Z_putI dX0_init_13 cl_0 fl_X0_15_0 (Or.inl fn_0_2) rfl ⟨Nat.le_of_ble_eq_true rfl, rfl⟩ rfl rfl ?_
  refine Z_aload_n dX0_init_16 rfl rfl ?_
  refine Z_iconst (v := -1) dX0_init_17 (by decide) ?_
  refine Z_putI dX0_init_18 cl_0 fl_X0_19_0 (Or.inl fn_0_4) rfl ⟨Nat.le_of_ble_eq_true rfl, rfl⟩ rfl rfl ?_
  refine Z_aload_n dX0_init_21 rfl rfl ?_
  refine Z_sipush (v := 270) dX0_init_22 (by decide) ?_
  refine Z_newa (t := 0) (N := 270) dX0_init_25 rfl (Or.inl ⟨rfl, rfl⟩) wd_55 (by decide) (by decide) (by decide) ⟨by decide, by decide⟩ ?_
  refine Z_putR dX0_init_27 cl_0 fl_X0_22_0 (Or.inr ⟨fn_0_6, rfl⟩) rfl ⟨Nat.le_of_ble_eq_true rfl, rfl⟩ rfl rfl ?_
  refine Z_aload_n dX0_init_30 rfl rfl ?_
  refine Z_iconst (v := 5) dX0_init_31 (by decide) ?_
  refine Z_newa (t := 0) (N := 5) dX0_init_32 rfl (Or.inl ⟨rfl, rfl⟩) wd_55 (by decide) (by decide) (by decide) ⟨by decide, by decide⟩ ?_
  refine Z_putR dX0_init_34 cl_0 fl_X0_25_0 (Or.inr ⟨fn_0_7, rfl⟩) rfl ⟨Nat.le_of_ble_eq_true rfl, rfl⟩ rfl rfl ?_
  refine Z_aload_n dX0_init_37 rfl rfl ?_
  refine Z_sipush (v := 5832) dX0_init_38 (by decide) ?_
  refine Z_newa (t := 0) (N := 5832) dX0_init_41 rfl (Or.inl ⟨rfl, rfl⟩) wd_55 (by decide) (by decide) (by decide) ⟨by decide, by decide⟩ ?_
  refine Z_putR dX0_init_43 cl_0 fl_X0_28_0 (Or.inr ⟨fn_0_8, rfl⟩) rfl ⟨Nat.le_of_ble_eq_true rfl, rfl⟩ rfl rfl ?_
  refine Z_aload_n dX0_init_46 rfl rfl ?_
  refine Z_aload_n dX0_init_47 rfl rfl ?_
  refine Z_putR dX0_init_48 cl_0 fl_X0_31_0 (Or.inl fn_0_3) rfl ⟨Nat.le_of_ble_eq_true rfl, rfl⟩ rfl rfl ?_
  refine Z_aload_n dX0_init_51 rfl rfl ?_
  refine Z_aload_n dX0_init_52 rfl rfl ?_
  refine Z_putR dX0_init_53 cl_0 fl_X0_35_0 (Or.inr ⟨fn_0_9, rfl⟩) rfl ⟨Nat.le_of_ble_eq_true rfl, rfl⟩ rfl rfl ?_
  refine Z_vret dX0_init_56 rfl ⟨by decide, by decide⟩ ?_
  refine h _ ?_ rfl ⟨⟨Nat.le_of_ble_eq_true rfl, rfl⟩, ⟨Nat.le_of_ble_eq_true rfl, rfl⟩, ⟨Nat.le_of_ble_eq_true rfl, rfl⟩, ⟨Nat.le_of_ble_eq_true rfl, rfl⟩, ⟨Nat.le_of_ble_eq_true rfl, rfl⟩, rfl, rfl, rfl, rfl, rfl, rfl, rfl, rfl, rfl, rfl, rfl⟩
  exact ⟨Nat.le_of_ble_eq_true rfl, fun k hk => by
    have hk : k < 23 := hk
    have e : k = 0 ∨ k = 1 ∨ k = 2 ∨ k = 3 ∨ k = 4 ∨ k = 5 ∨ k = 6 ∨ k = 7 ∨ k = 8 ∨ k = 9 ∨ k = 10 ∨ k = 11 ∨ k = 12 ∨ k = 13 ∨ k = 14 ∨ k = 15 ∨ k = 16 ∨ k = 17 ∨ k = 18 ∨ k = 19 ∨ k = 20 ∨ k = 21 ∨ k = 22 := by omega
    rcases e with rfl | rfl | rfl | rfl | rfl | rfl | rfl | rfl | rfl | rfl | rfl | rfl | rfl | rfl | rfl | rfl | rfl | rfl | rfl | rfl | rfl | rfl | rfl <;> exact ⟨rfl, rfl, rfl, rfl⟩⟩
theorem k_ainit28 {b x : Nat} (h0 : hN α = 28) (h : ∀ β, frE α β → hN β = 33 → (zIs β 28 (4, 10) ∧ zIs β 29 (0, 3) ∧ zIs β 30 (0, 270) ∧ zIs β 31 (0, 5) ∧ zIs β 32 (0, 5832) ∧ hP β 28 0 = some 29 ∧ hP β 28 6 = some 30 ∧ hP β 28 7 = some 31 ∧ hP β 28 8 = some 32 ∧ hP β 28 3 = some b ∧ hP β 28 9 = some x ∧ (hI β 29 = fun _ => 0) ∧ (hI β 30 = fun _ => 0) ∧ (hI β 31 = fun _ => 0) ∧ (hI β 32 = fun _ => 0) ∧ hI β 28 2 = -1) → post none β) : ZK G (d + 1) mX0_init [.ref (G.1 + 28), .ref (G.1 + b), .ref (G.1 + x)] (nw α (4, 10) (fun _ => 0)) post := by
  obtain ⟨n, s, i, j, p⟩ := α
  have h0 : n = 28 := h0
  subst h0
  refine ZK.of (n := 0) (by decide) (Nat.le_of_ble_eq_true rfl) rfl ?_
  refine Z_aload_n dX0_init_0 rfl rfl ?_
  refine Z_obj dX0_init_1 ob_X0_3 (Nat.le_of_ble_eq_true rfl) ?_
  refine Z_aload_n dX0_init_4 rfl rfl ?_
  refine Z_iconst (v := 3) dX0_init_5 (by decide) ?_
  refine Z_newa (t := 0) (N := 3) dX0_init_6 rfl (Or.inl ⟨rfl, rfl⟩) wd_55 (by decide) (by decide) (by decide) ⟨by decide, by decide⟩ ?_
  refine Z_putR dX0_init_8 cl_0 fl_X0_9_0 (Or.inr ⟨fn_0_0, rfl⟩) rfl ⟨Nat.le_of_ble_eq_true rfl, rfl⟩ rfl rfl ?_
  refine Z_aload_n dX0_init_11 rfl rfl ?_
  refine Z_iconst (v := -1) dX0_init_12 (by decide) ?_
  refine Z_putI dX0_init_13 cl_0 fl_X0_15_0 (Or.inl fn_0_2) rfl ⟨Nat.le_of_ble_eq_true rfl, rfl⟩ rfl rfl ?_
  refine Z_aload_n dX0_init_16 rfl rfl ?_
  refine Z_iconst (v := -1) dX0_init_17 (by decide) ?_
  refine Z_putI dX0_init_18 cl_0 fl_X0_19_0 (Or.inl fn_0_4) rfl ⟨Nat.le_of_ble_eq_true rfl, rfl⟩ rfl rfl ?_
  refine Z_aload_n dX0_init_21 rfl rfl ?_
  refine Z_sipush (v := 270) dX0_init_22 (by decide) ?_
  refine Z_newa (t := 0) (N := 270) dX0_init_25 rfl (Or.inl ⟨rfl, rfl⟩) wd_55 (by decide) (by decide) (by decide) ⟨by decide, by decide⟩ ?_
  refine Z_putR dX0_init_27 cl_0 fl_X0_22_0 (Or.inr ⟨fn_0_6, rfl⟩) rfl ⟨Nat.le_of_ble_eq_true rfl, rfl⟩ rfl rfl ?_
  refine Z_aload_n dX0_init_30 rfl rfl ?_
  refine Z_iconst (v := 5) dX0_init_31 (by decide) ?_
  refine Z_newa (t := 0) (N := 5) dX0_init_32 rfl (Or.inl ⟨rfl, rfl⟩) wd_55 (by decide) (by decide) (by decide) ⟨by decide, by decide⟩ ?_
  refine Z_putR dX0_init_34 cl_0 fl_X0_25_0 (Or.inr ⟨fn_0_7, rfl⟩) rfl ⟨Nat.le_of_ble_eq_true rfl, rfl⟩ rfl rfl ?_
  refine Z_aload_n dX0_init_37 rfl rfl ?_
  refine Z_sipush (v := 5832) dX0_init_38 (by decide) ?_
  refine Z_newa (t := 0) (N := 5832) dX0_init_41 rfl (Or.inl ⟨rfl, rfl⟩) wd_55 (by decide) (by decide) (by decide) ⟨by decide, by decide⟩ ?_
  refine Z_putR dX0_init_43 cl_0 fl_X0_28_0 (Or.inr ⟨fn_0_8, rfl⟩) rfl ⟨Nat.le_of_ble_eq_true rfl, rfl⟩ rfl rfl ?_
  refine Z_aload_n dX0_init_46 rfl rfl ?_
  refine Z_aload_n dX0_init_47 rfl rfl ?_
  refine Z_putR dX0_init_48 cl_0 fl_X0_31_0 (Or.inl fn_0_3) rfl ⟨Nat.le_of_ble_eq_true rfl, rfl⟩ rfl rfl ?_
  refine Z_aload_n dX0_init_51 rfl rfl ?_
  refine Z_aload_n dX0_init_52 rfl rfl ?_
  refine Z_putR dX0_init_53 cl_0 fl_X0_35_0 (Or.inr ⟨fn_0_9, rfl⟩) rfl ⟨Nat.le_of_ble_eq_true rfl, rfl⟩ rfl rfl ?_
  refine Z_vret dX0_init_56 rfl ⟨by decide, by decide⟩ ?_
  refine h _ ?_ rfl ⟨⟨Nat.le_of_ble_eq_true rfl, rfl⟩, ⟨Nat.le_of_ble_eq_true rfl, rfl⟩, ⟨Nat.le_of_ble_eq_true rfl, rfl⟩, ⟨Nat.le_of_ble_eq_true rfl, rfl⟩, ⟨Nat.le_of_ble_eq_true rfl, rfl⟩, rfl, rfl, rfl, rfl, rfl, rfl, rfl, rfl, rfl, rfl, rfl⟩
  exact ⟨Nat.le_of_ble_eq_true rfl, fun k hk => by
    have hk : k < 28 := hk
    have e : k = 0 ∨ k = 1 ∨ k = 2 ∨ k = 3 ∨ k = 4 ∨ k = 5 ∨ k = 6 ∨ k = 7 ∨ k = 8 ∨ k = 9 ∨ k = 10 ∨ k = 11 ∨ k = 12 ∨ k = 13 ∨ k = 14 ∨ k = 15 ∨ k = 16 ∨ k = 17 ∨ k = 18 ∨ k = 19 ∨ k = 20 ∨ k = 21 ∨ k = 22 ∨ k = 23 ∨ k = 24 ∨ k = 25 ∨ k = 26 ∨ k = 27 := by omega
    rcases e with rfl | rfl | rfl | rfl | rfl | rfl | rfl | rfl | rfl | rfl | rfl | rfl | rfl | rfl | rfl | rfl | rfl | rfl | rfl | rfl | rfl | rfl | rfl | rfl | rfl | rfl | rfl | rfl <;> exact ⟨rfl, rfl, rfl, rfl⟩⟩
end CI3
