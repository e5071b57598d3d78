section CP2
variable {G : ZG} {d : Nat} {α β : AH} {post : Option Value → AH → Prop} {Γ : Nat → VC} {A : ZA}
theorem k_next {x p : Int32} (hr : CRel Γ A α) (h : post (some (.long (sp_next A.1.1 x p))) α) : ZK G (d + 3) mX11_next [.ref (G.1 + 0), .int x, .int p] α post := by
  have hw := hr.1
  refine ZK.of (n := 0) (by decide) (Nat.le_of_ble_eq_true rfl) rfl ?_
  refine Z_iload_n dX11_next_0 rfl rfl ?_
  refine Z_S1z dX11_next_1 to_X11_isSort lk_X11_118 sc_X11_isSort (Nat.le_of_ble_eq_true rfl) ⟨rfl, rfl⟩ ⟨by decide, by decide⟩ ?_
  refine k_isSort ?_
  refine Z_if_eq (tgt := 14) dX11_next_4 (by decide) (fun h4 => ?_) (fun h4 => ?_)
  · skip
    refine Z_ldc2 dX11_next_14 kc_X11_156 ?_
    refine Z_lret dX11_next_17 rfl ⟨by decide, by decide⟩ ?_
    have e : sp_next A.1.1 x p = zNO := if_neg (fun z => by first | exact dec_f h4 z.1 | exact dec_f h11 z.2)
    rw [e] at h; exact h
  · skip
    refine Z_iload_n dX11_next_7 rfl rfl ?_
    refine Z_S1z dX11_next_8 to_X11_isPart lk_X11_153 sc_X11_isPart (Nat.le_of_ble_eq_true rfl) ⟨rfl, rfl⟩ ⟨by decide, by decide⟩ ?_
    refine k_isPart ?_
    refine Z_if_ne (tgt := 18) dX11_next_11 (by decide) (fun h11 => ?_) (fun h11 => ?_)
    · skip
      obtain ⟨j, hj, rfl⟩ := okS.nI (dec_t h4)
      have b := zsb hr.sb hj
      have e : sp_next A.1.1 (nI j) p = lZ (zlow (A.1.1 (6 + j)) (max 1 (zrest A.1.1)) p) := (if_pos ⟨dec_t h4, dec_t h11⟩).trans (by rw [nI_clamp (by omega)])
      rw [e] at h
      refine Z_aload_n dX11_next_18 rfl rfl ?_
      refine Z_getR dX11_next_19 cl_11 fl_X11_21_11 rfl (cw_i0 hw) (cw_p0_0 hw) ?_
      refine Z_getR dX11_next_22 cl_5 fl_X11_51_5 rfl (cw_i5 hw) (cw_p5_0 hw) ?_
      refine Z_iload_n dX11_next_25 rfl rfl ?_
      refine Z_ialdv dX11_next_26 (cw_i6 hw) (zix_nI (m := j) (by omega) (by decide)) (hr.2.2.2.1.1.1 j (by omega)) ?_
      refine Z_i2l dX11_next_27 ?_
      refine Z_iconst (v := 1) dX11_next_28 (by decide) ?_
      refine Z_aload_n dX11_next_29 rfl rfl ?_
      refine Z_getR dX11_next_30 cl_11 fl_X11_21_11 rfl (cw_i0 hw) (cw_p0_0 hw) ?_
      refine Z_getR dX11_next_33 cl_5 fl_X11_51_5 rfl (cw_i5 hw) (cw_p5_0 hw) ?_
      refine Z_S1z dX11_next_36 to_X11_restOf lk_X11_86 sc_X11_restOf (Nat.le_of_ble_eq_true rfl) ⟨rfl, rfl⟩ ⟨by decide, by decide⟩ ?_
      refine k_restB hr ?_
      refine Z_mmax dX11_next_39 wd_714 mw_max.1 mw_max.2.1 mw_max.2.2 (Nat.le_of_ble_eq_true rfl) ⟨by decide, by decide⟩ ?_
      rw [show (1 : Int32) = nI 1 from rfl, nI_maxN (by omega) (by omega)]
      refine Z_i2l dX11_next_42 ?_
      refine Z_iload_n dX11_next_43 rfl rfl ?_
      refine Z_S3z dX11_next_44 to_X11_lowest lk_X11_163 sc_X11_lowest (Nat.le_of_ble_eq_true rfl) ⟨rfl, rfl⟩ ⟨by decide, by decide⟩ ?_
      rw [nI_l (by omega), nI_l (by omega), ← lZ_nat (A.1.1 (6 + j))]
      refine k_lowest (by omega) (by omega) (by omega) (by omega) ?_
      refine Z_lret dX11_next_47 rfl ⟨by decide, by decide⟩ ?_
      exact h
    · skip
      refine Z_ldc2 dX11_next_14 kc_X11_156 ?_
      refine Z_lret dX11_next_17 rfl ⟨by decide, by decide⟩ ?_
      have e : sp_next A.1.1 x p = zNO := if_neg (fun z => by first | exact dec_f h4 z.1 | exact dec_f h11 z.2)
      rw [e] at h; exact h
theorem k_run {x n p : Int32} (hr : CRel Γ A α) (h : post (some (.long (sp_run A.1.1 x n p))) α) : ZK G (d + 3) mX11_run [.ref (G.1 + 0), .int x, .int n, .int p] α post := by
  have hw := hr.1
  refine ZK.of (n := 1) (by decide) (Nat.le_of_ble_eq_true rfl) rfl ?_
  refine Z_iload_n dX11_run_0 rfl rfl ?_
  refine Z_S1z dX11_run_1 to_X11_isSort lk_X11_118 sc_X11_isSort (Nat.le_of_ble_eq_true rfl) ⟨rfl, rfl⟩ ⟨by decide, by decide⟩ ?_
  refine k_isSort ?_
  refine Z_if_eq (tgt := 24) dX11_run_4 (by decide) (fun h4 => ?_) (fun h4 => ?_)
  · skip
    refine Z_ldc2 dX11_run_24 kc_X11_156 ?_
    refine Z_lret dX11_run_27 rfl ⟨by decide, by decide⟩ ?_
    have e : sp_run A.1.1 x n p = zNO := if_neg (fun z => by first | exact dec_f h4 z.1.1 | exact dec_f h11 z.2 | (have z1 := z.1.2; simp only [Int32.lt_iff_toInt_lt, Int32.le_iff_toInt_le] at *; omega))
    rw [e] at h; exact h
  · skip
    refine Z_iload_n dX11_run_7 rfl rfl ?_
    refine Z_S1z dX11_run_8 to_X11_isPart lk_X11_153 sc_X11_isPart (Nat.le_of_ble_eq_true rfl) ⟨rfl, rfl⟩ ⟨by decide, by decide⟩ ?_
    refine k_isPart ?_
    refine Z_if_eq (tgt := 24) dX11_run_11 (by decide) (fun h11 => ?_) (fun h11 => ?_)
    · skip
      refine Z_ldc2 dX11_run_24 kc_X11_156 ?_
      refine Z_lret dX11_run_27 rfl ⟨by decide, by decide⟩ ?_
      have e : sp_run A.1.1 x n p = zNO := if_neg (fun z => by first | exact dec_f h4 z.1.1 | exact dec_f h11 z.2 | (have z1 := z.1.2; simp only [Int32.lt_iff_toInt_lt, Int32.le_iff_toInt_le] at *; omega))
      rw [e] at h; exact h
    · skip
      refine Z_iload_n dX11_run_14 rfl rfl ?_
      refine Z_iconst (v := 1) dX11_run_15 (by decide) ?_
      refine Z_icmp_lt (tgt := 24) dX11_run_16 (by decide) (fun h16 => ?_) (fun h16 => ?_)
      · skip
        refine Z_ldc2 dX11_run_24 kc_X11_156 ?_
        refine Z_lret dX11_run_27 rfl ⟨by decide, by decide⟩ ?_
        have e : sp_run A.1.1 x n p = zNO := if_neg (fun z => by first | exact dec_f h4 z.1.1 | exact dec_f h11 z.2 | (have z1 := z.1.2; simp only [Int32.lt_iff_toInt_lt, Int32.le_iff_toInt_le] at *; omega))
        rw [e] at h; exact h
      · skip
        refine Z_iload_n dX11_run_19 rfl rfl ?_
        refine Z_iconst (v := 5) dX11_run_20 (by decide) ?_
        refine Z_icmp_le (tgt := 28) dX11_run_21 (by decide) (fun h21 => ?_) (fun h21 => ?_)
        · skip
          have hn : 1 ≤ n ∧ n ≤ 5 := ⟨by simp only [Int32.lt_iff_toInt_lt, Int32.le_iff_toInt_le] at *; omega, h21⟩
          obtain ⟨j, hj, rfl⟩ := okS.nI (dec_t h4)
          obtain ⟨q, hq1, hq5, rfl⟩ := arg_1 (n := 5) rfl hn
          have b := zsb hr.sb hj
          have e : sp_run A.1.1 (nI j) (nI q) p = lZ (zlow (zch (A.1.1 (6 + j)) q) (max 1 (zch (zrest A.1.1) q)) p) := (if_pos ⟨⟨dec_t h4, hn⟩, dec_t h11⟩).trans (by rw [nI_clamp (by omega), nI_clamp (by omega)])
          rw [e] at h
          have c1 := zch_le' (A.1.1 (6 + j)) q
          have c2 := zch_le' (zrest A.1.1) q
          refine Z_aload_n dX11_run_28 rfl rfl ?_
          refine Z_getR dX11_run_29 cl_11 fl_X11_21_11 rfl (cw_i0 hw) (cw_p0_0 hw) ?_
          refine Z_getR dX11_run_32 cl_5 fl_X11_51_5 rfl (cw_i5 hw) (cw_p5_0 hw) ?_
          refine Z_S1z dX11_run_35 to_X11_restOf lk_X11_86 sc_X11_restOf (Nat.le_of_ble_eq_true rfl) ⟨rfl, rfl⟩ ⟨by decide, by decide⟩ ?_
          refine k_restB hr ?_
          refine Z_istore (L' := [_, _, _, _, _]) dX11_run_38 (by decide) rfl rfl ?_
          refine Z_aload_n dX11_run_40 rfl rfl ?_
          refine Z_getR dX11_run_41 cl_11 fl_X11_21_11 rfl (cw_i0 hw) (cw_p0_0 hw) ?_
          refine Z_getR dX11_run_44 cl_5 fl_X11_51_5 rfl (cw_i5 hw) (cw_p5_0 hw) ?_
          refine Z_iload_n dX11_run_47 rfl rfl ?_
          refine Z_ialdv dX11_run_48 (cw_i6 hw) (zix_nI (m := j) (by omega) (by decide)) (hr.2.2.2.1.1.1 j (by omega)) ?_
          refine Z_iload_n dX11_run_49 rfl rfl ?_
          refine Z_S2z dX11_run_50 to_X11_choose lk_X11_167 sc_X11_choose (Nat.le_of_ble_eq_true rfl) ⟨rfl, rfl⟩ ⟨by decide, by decide⟩ ?_
          refine k_choose (by omega) ?_
          rw [zchI_nI (by omega) (by omega)]
          refine Z_i2l dX11_run_53 ?_
          refine Z_iconst (v := 1) dX11_run_54 (by decide) ?_
          refine Z_iload dX11_run_55 rfl ?_
          refine Z_iload_n dX11_run_57 rfl rfl ?_
          refine Z_S2z dX11_run_58 to_X11_choose lk_X11_167 sc_X11_choose (Nat.le_of_ble_eq_true rfl) ⟨rfl, rfl⟩ ⟨by decide, by decide⟩ ?_
          refine k_choose (by omega) ?_
          rw [zchI_nI (by omega) (by omega)]
          refine Z_mmax dX11_run_61 wd_714 mw_max.1 mw_max.2.1 mw_max.2.2 (Nat.le_of_ble_eq_true rfl) ⟨by decide, by decide⟩ ?_
          rw [show (1 : Int32) = nI 1 from rfl, nI_maxN (by omega) (by omega)]
          refine Z_i2l dX11_run_64 ?_
          refine Z_iload_n dX11_run_65 rfl rfl ?_
          refine Z_S3z dX11_run_66 to_X11_lowest lk_X11_163 sc_X11_lowest (Nat.le_of_ble_eq_true rfl) ⟨rfl, rfl⟩ ⟨by decide, by decide⟩ ?_
          rw [nI_l (by omega), nI_l (by omega), ← lZ_nat (zch (A.1.1 (6 + j)) q)]
          refine k_lowest (by omega) (by omega) (by omega) (by omega) ?_
          refine Z_lret dX11_run_69 rfl ⟨by decide, by decide⟩ ?_
          exact h
        · skip
          refine Z_ldc2 dX11_run_24 kc_X11_156 ?_
          refine Z_lret dX11_run_27 rfl ⟨by decide, by decide⟩ ?_
          have e : sp_run A.1.1 x n p = zNO := if_neg (fun z => by first | exact dec_f h4 z.1.1 | exact dec_f h11 z.2 | (have z1 := z.1.2; simp only [Int32.lt_iff_toInt_lt, Int32.le_iff_toInt_le] at *; omega))
          rw [e] at h; exact h
theorem k_first {x p : Int32} (hr : CRel Γ A α) (h : post (some (.long (sp_first A.1.1 x p))) α) : ZK G (d + 3) mX11_first [.ref (G.1 + 0), .int x, .int p] α post := by
  have hw := hr.1
  refine ZK.of (n := 0) (by decide) (Nat.le_of_ble_eq_true rfl) rfl ?_
  refine Z_iload_n dX11_first_0 rfl rfl ?_
  refine Z_S1z dX11_first_1 to_X11_isSort lk_X11_118 sc_X11_isSort (Nat.le_of_ble_eq_true rfl) ⟨rfl, rfl⟩ ⟨by decide, by decide⟩ ?_
  refine k_isSort ?_
  refine Z_if_eq (tgt := 26) dX11_first_4 (by decide) (fun h4 => ?_) (fun h4 => ?_)
  · skip
    refine Z_ldc2 dX11_first_26 kc_X11_156 ?_
    refine Z_lret dX11_first_29 rfl ⟨by decide, by decide⟩ ?_
    first
      | (have e : sp_first A.1.1 x p = zNO := if_neg (fun z => by first | exact dec_f h4 z.1.1 | exact dec_f h11 z.1.2)
         rw [e] at h; exact h)
      | (have e : sp_first A.1.1 (nI j) p = zNO := if_neg (fun z => z.2 (by rw [nI_clamp (by omega)]; exact (nI_eq (b := 0) (by omega) (by omega)).mp h23))
         rw [e] at h; exact h)
  · skip
    refine Z_iload_n dX11_first_7 rfl rfl ?_
    refine Z_S1z dX11_first_8 to_X11_isPart lk_X11_153 sc_X11_isPart (Nat.le_of_ble_eq_true rfl) ⟨rfl, rfl⟩ ⟨by decide, by decide⟩ ?_
    refine k_isPart ?_
    refine Z_if_eq (tgt := 26) dX11_first_11 (by decide) (fun h11 => ?_) (fun h11 => ?_)
    · skip
      refine Z_ldc2 dX11_first_26 kc_X11_156 ?_
      refine Z_lret dX11_first_29 rfl ⟨by decide, by decide⟩ ?_
      first
        | (have e : sp_first A.1.1 x p = zNO := if_neg (fun z => by first | exact dec_f h4 z.1.1 | exact dec_f h11 z.1.2)
           rw [e] at h; exact h)
        | (have e : sp_first A.1.1 (nI j) p = zNO := if_neg (fun z => z.2 (by rw [nI_clamp (by omega)]; exact (nI_eq (b := 0) (by omega) (by omega)).mp h23))
           rw [e] at h; exact h)
    · skip
      obtain ⟨j, hj, rfl⟩ := okS.nI (dec_t h4)
      have b := zsb hr.sb hj
      have hbg := hr.2.2.2.1.1.1 j (by omega)
      refine Z_aload_n dX11_first_14 rfl rfl ?_
      refine Z_getR dX11_first_15 cl_11 fl_X11_21_11 rfl (cw_i0 hw) (cw_p0_0 hw) ?_
      refine Z_getR dX11_first_18 cl_5 fl_X11_51_5 rfl (cw_i5 hw) (cw_p5_0 hw) ?_
      refine Z_iload_n dX11_first_21 rfl rfl ?_
      refine Z_ialdv dX11_first_22 (cw_i6 hw) (zix_nI (m := j) (by omega) (by decide)) hbg ?_
      refine Z_if_ne (tgt := 30) dX11_first_23 (by decide) (fun h23 => ?_) (fun h23 => ?_)
      · skip
        have r0 : A.1.1 (6 + j) ≠ 0 := fun z => h23 (by rw [z]; rfl)
        have e : sp_first A.1.1 (nI j) p = lZ (zlow (zrest A.1.1 + 1 : Nat) (A.1.1 (6 + j) + 1) p) := (if_pos ⟨⟨dec_t h4, dec_t h11⟩, by rw [nI_clamp (by omega)]; exact r0⟩).trans (by rw [nI_clamp (by omega)])
        rw [e] at h
        refine Z_aload_n dX11_first_30 rfl rfl ?_
        refine Z_getR dX11_first_31 cl_11 fl_X11_21_11 rfl (cw_i0 hw) (cw_p0_0 hw) ?_
        refine Z_getR dX11_first_34 cl_5 fl_X11_51_5 rfl (cw_i5 hw) (cw_p5_0 hw) ?_
        refine Z_S1z dX11_first_37 to_X11_restOf lk_X11_86 sc_X11_restOf (Nat.le_of_ble_eq_true rfl) ⟨rfl, rfl⟩ ⟨by decide, by decide⟩ ?_
        refine k_restB hr ?_
        refine Z_iconst (v := 1) dX11_first_40 (by decide) ?_
        refine Z_iadd dX11_first_41 ?_
        refine Z_i2l dX11_first_42 ?_
        refine Z_aload_n dX11_first_43 rfl rfl ?_
        refine Z_getR dX11_first_44 cl_11 fl_X11_21_11 rfl (cw_i0 hw) (cw_p0_0 hw) ?_
        refine Z_getR dX11_first_47 cl_5 fl_X11_51_5 rfl (cw_i5 hw) (cw_p5_0 hw) ?_
        refine Z_iload_n dX11_first_50 rfl rfl ?_
        refine Z_ialdv dX11_first_51 (cw_i6 hw) (zix_nI (m := j) (by omega) (by decide)) hbg ?_
        refine Z_iconst (v := 1) dX11_first_52 (by decide) ?_
        refine Z_iadd dX11_first_53 ?_
        refine Z_i2l dX11_first_54 ?_
        refine Z_iload_n dX11_first_55 rfl rfl ?_
        refine Z_S3z dX11_first_56 to_X11_lowest lk_X11_163 sc_X11_lowest (Nat.le_of_ble_eq_true rfl) ⟨rfl, rfl⟩ ⟨by decide, by decide⟩ ?_
        rw [nI_1, nI_1, nI_l (by omega), nI_l (by omega), ← lZ_nat (zrest A.1.1 + 1)]
        refine k_lowest (by omega) (by omega) (by omega) (by omega) ?_
        refine Z_lret dX11_first_59 rfl ⟨by decide, by decide⟩ ?_
        exact h
      · skip
        refine Z_ldc2 dX11_first_26 kc_X11_156 ?_
        refine Z_lret dX11_first_29 rfl ⟨by decide, by decide⟩ ?_
        first
          | (have e : sp_first A.1.1 x p = zNO := if_neg (fun z => by first | exact dec_f h4 z.1.1 | exact dec_f h11 z.1.2)
             rw [e] at h; exact h)
          | (have e : sp_first A.1.1 (nI j) p = zNO := if_neg (fun z => z.2 (by rw [nI_clamp (by omega)]; exact (nI_eq (b := 0) (by omega) (by omega)).mp h23))
             rw [e] at h; exact h)
theorem k_before {x y p : Int32} (hr : CRel Γ A α) (h : post (some (.long (sp_before A.1.1 x y p))) α) : ZK G (d + 3) mX11_before [.ref (G.1 + 0), .int x, .int y, .int p] α post := by
  have hw := hr.1
  refine ZK.of (n := 1) (by decide) (Nat.le_of_ble_eq_true rfl) rfl ?_
  refine Z_iload_n dX11_before_0 rfl rfl ?_
  refine Z_S1z dX11_before_1 to_X11_isSort lk_X11_118 sc_X11_isSort (Nat.le_of_ble_eq_true rfl) ⟨rfl, rfl⟩ ⟨by decide, by decide⟩ ?_
  refine k_isSort ?_
  refine Z_if_eq (tgt := 26) dX11_before_4 (by decide) (fun h4 => ?_) (fun h4 => ?_)
  · skip
    refine Z_ldc2 dX11_before_26 kc_X11_156 ?_
    refine Z_lret dX11_before_29 rfl ⟨by decide, by decide⟩ ?_
    have e : sp_before A.1.1 x y p = zNO := if_neg (fun z => by first | exact dec_f h4 z.1.1.1 | exact dec_f h11 z.1.1.2 | exact dec_f h18 z.1.2.2 | exact z.1.2.1 h23)
    rw [e] at h; exact h
  · skip
    refine Z_iload_n dX11_before_7 rfl rfl ?_
    refine Z_S1z dX11_before_8 to_X11_isSort lk_X11_118 sc_X11_isSort (Nat.le_of_ble_eq_true rfl) ⟨rfl, rfl⟩ ⟨by decide, by decide⟩ ?_
    refine k_isSort ?_
    refine Z_if_eq (tgt := 26) dX11_before_11 (by decide) (fun h11 => ?_) (fun h11 => ?_)
    · skip
      refine Z_ldc2 dX11_before_26 kc_X11_156 ?_
      refine Z_lret dX11_before_29 rfl ⟨by decide, by decide⟩ ?_
      have e : sp_before A.1.1 x y p = zNO := if_neg (fun z => by first | exact dec_f h4 z.1.1.1 | exact dec_f h11 z.1.1.2 | exact dec_f h18 z.1.2.2 | exact z.1.2.1 h23)
      rw [e] at h; exact h
    · skip
      refine Z_iload_n dX11_before_14 rfl rfl ?_
      refine Z_S1z dX11_before_15 to_X11_isPart lk_X11_153 sc_X11_isPart (Nat.le_of_ble_eq_true rfl) ⟨rfl, rfl⟩ ⟨by decide, by decide⟩ ?_
      refine k_isPart ?_
      refine Z_if_eq (tgt := 26) dX11_before_18 (by decide) (fun h18 => ?_) (fun h18 => ?_)
      · skip
        refine Z_ldc2 dX11_before_26 kc_X11_156 ?_
        refine Z_lret dX11_before_29 rfl ⟨by decide, by decide⟩ ?_
        have e : sp_before A.1.1 x y p = zNO := if_neg (fun z => by first | exact dec_f h4 z.1.1.1 | exact dec_f h11 z.1.1.2 | exact dec_f h18 z.1.2.2 | exact z.1.2.1 h23)
        rw [e] at h; exact h
      · skip
        refine Z_iload_n dX11_before_21 rfl rfl ?_
        refine Z_iload_n dX11_before_22 rfl rfl ?_
        refine Z_icmp_ne (tgt := 30) dX11_before_23 (by decide) (fun h23 => ?_) (fun h23 => ?_)
        · skip
          obtain ⟨j, hj, rfl⟩ := okS.nI (dec_t h4)
          obtain ⟨i, hi, rfl⟩ := okS.nI (dec_t h11)
          have b := zsb hr.sb hj
          have bi := zsb hr.sb hi
          have hbg := hr.2.2.2.1.1.1 j (by omega)
          have hbi := hr.2.2.2.1.1.1 i (by omega)
          refine Z_aload_n dX11_before_30 rfl rfl ?_
          refine Z_getR dX11_before_31 cl_11 fl_X11_21_11 rfl (cw_i0 hw) (cw_p0_0 hw) ?_
          refine Z_getR dX11_before_34 cl_5 fl_X11_51_5 rfl (cw_i5 hw) (cw_p5_0 hw) ?_
          refine Z_iload_n dX11_before_37 rfl rfl ?_
          refine Z_ialdv dX11_before_38 (cw_i6 hw) (zix_nI (m := j) (by omega) (by decide)) hbg ?_
          refine Z_aload_n dX11_before_39 rfl rfl ?_
          refine Z_getR dX11_before_40 cl_11 fl_X11_21_11 rfl (cw_i0 hw) (cw_p0_0 hw) ?_
          refine Z_getR dX11_before_43 cl_5 fl_X11_51_5 rfl (cw_i5 hw) (cw_p5_0 hw) ?_
          refine Z_iload_n dX11_before_46 rfl rfl ?_
          refine Z_ialdv dX11_before_47 (cw_i6 hw) (zix_nI (m := i) (by omega) (by decide)) hbi ?_
          refine Z_iadd dX11_before_48 ?_
          rw [nI_add]
          refine Z_istore (L' := [_, _, _, _, _]) dX11_before_49 (by decide) rfl rfl ?_
          refine Z_iload dX11_before_51 rfl ?_
          refine Z_if_ne (tgt := 62) dX11_before_53 (by decide) (fun h53 => ?_) (fun h53 => ?_)
          · skip
            have r0 : ¬ A.1.1 (6 + j) + A.1.1 (6 + i) = 0 := fun z => h53 (by rw [z]; rfl)
            have e : sp_before A.1.1 (nI j) (nI i) p = lZ (zlow (A.1.1 (6 + j)) (A.1.1 (6 + j) + A.1.1 (6 + i)) p) := (if_pos ⟨⟨⟨dec_t h4, dec_t h11⟩, h23, dec_t h18⟩, by rw [nI_clamp (by omega), nI_clamp (by omega)]; exact r0⟩).trans (by rw [nI_clamp (by omega), nI_clamp (by omega)])
            rw [e] at h
            refine Z_aload_n dX11_before_62 rfl rfl ?_
            refine Z_getR dX11_before_63 cl_11 fl_X11_21_11 rfl (cw_i0 hw) (cw_p0_0 hw) ?_
            refine Z_getR dX11_before_66 cl_5 fl_X11_51_5 rfl (cw_i5 hw) (cw_p5_0 hw) ?_
            refine Z_iload_n dX11_before_69 rfl rfl ?_
            refine Z_ialdv dX11_before_70 (cw_i6 hw) (zix_nI (m := j) (by omega) (by decide)) hbg ?_
            refine Z_i2l dX11_before_71 ?_
            refine Z_iload dX11_before_72 rfl ?_
            refine Z_i2l dX11_before_74 ?_
            refine Z_iload_n dX11_before_75 rfl rfl ?_
            refine Z_S3z dX11_before_76 to_X11_lowest lk_X11_163 sc_X11_lowest (Nat.le_of_ble_eq_true rfl) ⟨rfl, rfl⟩ ⟨by decide, by decide⟩ ?_
            rw [nI_l (by omega), nI_l (by omega), ← lZ_nat (A.1.1 (6 + j))]
            refine k_lowest (by omega) (by omega) (by omega) (by omega) ?_
            refine Z_lret dX11_before_79 rfl ⟨by decide, by decide⟩ ?_
            first
              | exact h
              | (have e : sp_before A.1.1 (nI j) (nI i) p = zNO := if_neg (fun z => z.2 (by rw [nI_clamp (by omega), nI_clamp (by omega)]; exact (nI_eq (b := 0) (by omega) (by omega)).mp h53))
                 rw [e] at h; exact h)
          · skip
            refine Z_ldc2 dX11_before_56 kc_X11_156 ?_
            refine Z_goto (tgt := 79) dX11_before_59 (by decide) ?_
            refine Z_lret dX11_before_79 rfl ⟨by decide, by decide⟩ ?_
            first
              | exact h
              | (have e : sp_before A.1.1 (nI j) (nI i) p = zNO := if_neg (fun z => z.2 (by rw [nI_clamp (by omega), nI_clamp (by omega)]; exact (nI_eq (b := 0) (by omega) (by omega)).mp h53))
                 rw [e] at h; exact h)
        · skip
          refine Z_ldc2 dX11_before_26 kc_X11_156 ?_
          refine Z_lret dX11_before_29 rfl ⟨by decide, by decide⟩ ?_
          have e : sp_before A.1.1 x y p = zNO := if_neg (fun z => by first | exact dec_f h4 z.1.1.1 | exact dec_f h11 z.1.1.2 | exact dec_f h18 z.1.2.2 | exact z.1.2.1 h23)
          rw [e] at h; exact h
theorem zss_lt {σ : Nat → Nat} (h : SB σ) : zss σ < 27 := by
  have a0 : σ 9 ≤ 2 := h.at (by omega) rfl
  have a1 : σ 10 ≤ 2 := h.at (by omega) rfl
  have a2 : σ 11 ≤ 2 := h.at (by omega) rfl
  unfold zss; omega
theorem zss_d {σ : Nat → Nat} (h : SB σ) {k : Nat} (hk : k < 3) : zss σ / cst k % 3 = σ (9 + k) := by
  have a0 : σ 9 ≤ 2 := h.at (by omega) rfl
  have a1 : σ 10 ≤ 2 := h.at (by omega) rfl
  have a2 : σ 11 ≤ 2 := h.at (by omega) rfl
  unfold zss
  rcases s3 hk with rfl | rfl | rfl <;> simp [cst] <;> omega
theorem zss_q {σ : Nat → Nat} (h : SB σ) : cgs (zq σ) = zss σ := by
  have := (zq_ok h).2.2.2
  unfold cgs zss
  rw [this 0 (by omega), this 1 (by omega), this 2 (by omega)]
theorem k_told {x : Int32} (hr : CRel Γ A α) (h : post (some (.int (sp_told A.1.1 x))) α) : ZK G (d + 2) mX11_told [.ref (G.1 + 0), .int x] α post := by
  have hw := hr.1
  have sea := hr.2.2.2.1
  obtain ⟨v, hp5, ⟨hvk, c, w, e, p, hv⟩, hvm⟩ := sea.2.2.1
  have hss := zss_lt hr.sb
  have hsd : ∀ k, k < 3 → zss A.1.1 / cst k % 3 = A.1.1 (9 + k) := fun k hk => zss_d hr.sb hk
  have l10 : (10 : Int32).toInt = 10 := rfl
  have l13 : (13 : Int32).toInt = 13 := rfl
  have l12 : (12 : Int32).toInt = 12 := rfl
  have l20 : (20 : Int32).toInt = 20 := rfl
  have l22 : (22 : Int32).toInt = 22 := rfl
  have l23 : (23 : Int32).toInt = 23 := rfl
  have l30 : (30 : Int32).toInt = 30 := rfl
  have l32 : (32 : Int32).toInt = 32 := rfl
  have l33 : (33 : Int32).toInt = 33 := rfl
  have n1 : ¬ x = 0 → sp_told A.1.1 x = if x = 1 then nI (A.1.1 5) else if x = 2 then nI (A.1.1 6 + A.1.1 7 + A.1.1 8) else if 10 ≤ x ∧ x ≤ 12 then nI (sp_pay A.1.1 (x - 10).toNatClampNeg) else if 20 ≤ x ∧ x ≤ 22 then nI (A.1.1 (9 + (x - 20).toNatClampNeg)) else if 30 ≤ x ∧ x ≤ 32 then nI (A.1.1 (6 + (x - 30).toNatClampNeg)) else -1 := fun z => if_neg z
  refine ZK.of (n := 0) (by decide) (Nat.le_of_ble_eq_true rfl) rfl ?_
  refine Z_iload_n dX11_told_0 rfl rfl ?_
  refine Z_if_ne (tgt := 15) dX11_told_1 (by decide) (fun h1 => ?_) (fun h1 => ?_)
  · skip
    rw [n1 h1] at h
    refine Z_iload_n dX11_told_15 rfl rfl ?_
    refine Z_iconst (v := 1) dX11_told_16 (by decide) ?_
    refine Z_icmp_ne (tgt := 28) dX11_told_17 (by decide) (fun h17 => ?_) (fun h17 => ?_)
    · skip
      rw [if_neg h17] at h
      refine Z_iload_n dX11_told_28 rfl rfl ?_
      refine Z_iconst (v := 2) dX11_told_29 (by decide) ?_
      refine Z_icmp_ne (tgt := 44) dX11_told_30 (by decide) (fun h30 => ?_) (fun h30 => ?_)
      · skip
        rw [if_neg h30] at h
        refine Z_iload_n dX11_told_44 rfl rfl ?_
        refine Z_bipush (v := 10) dX11_told_45 (by decide) ?_
        refine Z_icmp_lt (tgt := 72) dX11_told_47 (by decide) (fun h47 => ?_) (fun h47 => ?_)
        · skip
          have z : ¬ (10 ≤ x ∧ x ≤ 12) := by simp only [Int32.lt_iff_toInt_lt, Int32.le_iff_toInt_le] at *; omega
          rw [if_neg z] at h
          refine Z_iload_n dX11_told_72 rfl rfl ?_
          refine Z_bipush (v := 20) dX11_told_73 (by decide) ?_
          refine Z_icmp_lt (tgt := 99) dX11_told_75 (by decide) (fun h75 => ?_) (fun h75 => ?_)
          · skip
            have z : ¬ (20 ≤ x ∧ x ≤ 22) := by simp only [Int32.lt_iff_toInt_lt, Int32.le_iff_toInt_le] at *; omega
            rw [if_neg z] at h
            refine Z_iload_n dX11_told_99 rfl rfl ?_
            refine Z_bipush (v := 30) dX11_told_100 (by decide) ?_
            refine Z_icmp_lt (tgt := 124) dX11_told_102 (by decide) (fun h102 => ?_) (fun h102 => ?_)
            · skip
              have z : ¬ (30 ≤ x ∧ x ≤ 32) := by simp only [Int32.lt_iff_toInt_lt, Int32.le_iff_toInt_le] at *; omega
              rw [if_neg z] at h
              refine Z_iconst (v := -1) dX11_told_124 (by decide) ?_
              refine Z_iret dX11_told_125 rfl rfl ⟨by decide, by decide⟩ ?_
              exact h
            · skip
              refine Z_iload_n dX11_told_105 rfl rfl ?_
              refine Z_bipush (v := 33) dX11_told_106 (by decide) ?_
              refine Z_icmp_ge (tgt := 124) dX11_told_108 (by decide) (fun h108 => ?_) (fun h108 => ?_)
              · skip
                have z : ¬ (30 ≤ x ∧ x ≤ 32) := by simp only [Int32.lt_iff_toInt_lt, Int32.le_iff_toInt_le] at *; omega
                rw [if_neg z] at h
                refine Z_iconst (v := -1) dX11_told_124 (by decide) ?_
                refine Z_iret dX11_told_125 rfl rfl ⟨by decide, by decide⟩ ?_
                exact h
              · skip
                have z : 30 ≤ x ∧ x ≤ 32 := by simp only [Int32.lt_iff_toInt_lt, Int32.le_iff_toInt_le] at *; omega
                rw [if_pos z] at h
                obtain ⟨j, hj, ex⟩ := arg_off (lo := 30) (hi := 32) (a := 30) (n := 2) rfl rfl (by decide) z
                have ej : x - 30 = nI j := by rw [ex]; exact (nI_s (a := 30 + j) (b := 30) (by omega)).trans (congrArg nI (by omega))
                rw [ej, nI_clamp (by omega)] at h
                refine Z_aload_n dX11_told_111 rfl rfl ?_
                refine Z_getR dX11_told_112 cl_11 fl_X11_21_11 rfl (cw_i0 hw) (cw_p0_0 hw) ?_
                refine Z_getR dX11_told_115 cl_5 fl_X11_51_5 rfl (cw_i5 hw) (cw_p5_0 hw) ?_
                refine Z_iload_n dX11_told_118 rfl rfl ?_
                refine Z_bipush (v := 30) dX11_told_119 (by decide) ?_
                refine Z_isub dX11_told_121 ?_
                refine Z_ialdv dX11_told_122 (cw_i6 hw) (zix_e (m := j) ej (by omega) (by decide)) (sea.1.1 j (by omega)) ?_
                refine Z_iret dX11_told_123 rfl rfl ⟨by decide, by decide⟩ ?_
                exact h
          · skip
            refine Z_iload_n dX11_told_78 rfl rfl ?_
            refine Z_bipush (v := 23) dX11_told_79 (by decide) ?_
            refine Z_icmp_ge (tgt := 99) dX11_told_81 (by decide) (fun h81 => ?_) (fun h81 => ?_)
            · skip
              have z : ¬ (20 ≤ x ∧ x ≤ 22) := by simp only [Int32.lt_iff_toInt_lt, Int32.le_iff_toInt_le] at *; omega
              rw [if_neg z] at h
              refine Z_iload_n dX11_told_99 rfl rfl ?_
              refine Z_bipush (v := 30) dX11_told_100 (by decide) ?_
              refine Z_icmp_lt (tgt := 124) dX11_told_102 (by decide) (fun h102 => ?_) (fun h102 => ?_)
              · skip
                have z : ¬ (30 ≤ x ∧ x ≤ 32) := by simp only [Int32.lt_iff_toInt_lt, Int32.le_iff_toInt_le] at *; omega
                rw [if_neg z] at h
                refine Z_iconst (v := -1) dX11_told_124 (by decide) ?_
                refine Z_iret dX11_told_125 rfl rfl ⟨by decide, by decide⟩ ?_
                exact h
              · skip
                refine Z_iload_n dX11_told_105 rfl rfl ?_
                refine Z_bipush (v := 33) dX11_told_106 (by decide) ?_
                refine Z_icmp_ge (tgt := 124) dX11_told_108 (by decide) (fun h108 => ?_) (fun h108 => ?_)
                · skip
                  have z : ¬ (30 ≤ x ∧ x ≤ 32) := by simp only [Int32.lt_iff_toInt_lt, Int32.le_iff_toInt_le] at *; omega
                  rw [if_neg z] at h
                  refine Z_iconst (v := -1) dX11_told_124 (by decide) ?_
                  refine Z_iret dX11_told_125 rfl rfl ⟨by decide, by decide⟩ ?_
                  exact h
                · skip
                  have z : 30 ≤ x ∧ x ≤ 32 := by simp only [Int32.lt_iff_toInt_lt, Int32.le_iff_toInt_le] at *; omega
                  rw [if_pos z] at h
                  obtain ⟨j, hj, ex⟩ := arg_off (lo := 30) (hi := 32) (a := 30) (n := 2) rfl rfl (by decide) z
                  have ej : x - 30 = nI j := by rw [ex]; exact (nI_s (a := 30 + j) (b := 30) (by omega)).trans (congrArg nI (by omega))
                  rw [ej, nI_clamp (by omega)] at h
                  refine Z_aload_n dX11_told_111 rfl rfl ?_
                  refine Z_getR dX11_told_112 cl_11 fl_X11_21_11 rfl (cw_i0 hw) (cw_p0_0 hw) ?_
                  refine Z_getR dX11_told_115 cl_5 fl_X11_51_5 rfl (cw_i5 hw) (cw_p5_0 hw) ?_
                  refine Z_iload_n dX11_told_118 rfl rfl ?_
                  refine Z_bipush (v := 30) dX11_told_119 (by decide) ?_
                  refine Z_isub dX11_told_121 ?_
                  refine Z_ialdv dX11_told_122 (cw_i6 hw) (zix_e (m := j) ej (by omega) (by decide)) (sea.1.1 j (by omega)) ?_
                  refine Z_iret dX11_told_123 rfl rfl ⟨by decide, by decide⟩ ?_
                  exact h
            · skip
              have z : 20 ≤ x ∧ x ≤ 22 := by simp only [Int32.lt_iff_toInt_lt, Int32.le_iff_toInt_le] at *; omega
              rw [if_pos z] at h
              obtain ⟨j, hj, ex⟩ := arg_off (lo := 20) (hi := 22) (a := 20) (n := 2) rfl rfl (by decide) z
              have ej : x - 20 = nI j := by rw [ex]; exact (nI_s (a := 20 + j) (b := 20) (by omega)).trans (congrArg nI (by omega))
              rw [ej, nI_clamp (by omega)] at h
              refine Z_aload_n dX11_told_84 rfl rfl ?_
              refine Z_getR dX11_told_85 cl_11 fl_X11_21_11 rfl (cw_i0 hw) (cw_p0_0 hw) ?_
              refine Z_getIv dX11_told_88 cl_5 fl_X11_93_5 rfl (cw_i5 hw) sea.2.1.2.1 ?_
              refine Z_iload_n dX11_told_91 rfl rfl ?_
              refine Z_bipush (v := 20) dX11_told_92 (by decide) ?_
              refine Z_isub dX11_told_94 ?_
              refine Z_S2z dX11_told_95 to_X11_stageOf lk_X11_96 sc_X11_stageOf (Nat.le_of_ble_eq_true rfl) ⟨rfl, rfl⟩ ⟨by decide, by decide⟩ ?_
              rw [ej]
              refine k_stageOf hss (by omega) ?_
              rw [hsd j (by omega)]
              refine Z_iret dX11_told_98 rfl rfl ⟨by decide, by decide⟩ ?_
              exact h
        · skip
          refine Z_iload_n dX11_told_50 rfl rfl ?_
          refine Z_bipush (v := 13) dX11_told_51 (by decide) ?_
          refine Z_icmp_ge (tgt := 72) dX11_told_53 (by decide) (fun h53 => ?_) (fun h53 => ?_)
          · skip
            have z : ¬ (10 ≤ x ∧ x ≤ 12) := by simp only [Int32.lt_iff_toInt_lt, Int32.le_iff_toInt_le] at *; omega
            rw [if_neg z] at h
            refine Z_iload_n dX11_told_72 rfl rfl ?_
            refine Z_bipush (v := 20) dX11_told_73 (by decide) ?_
            refine Z_icmp_lt (tgt := 99) dX11_told_75 (by decide) (fun h75 => ?_) (fun h75 => ?_)
            · skip
              have z : ¬ (20 ≤ x ∧ x ≤ 22) := by simp only [Int32.lt_iff_toInt_lt, Int32.le_iff_toInt_le] at *; omega
              rw [if_neg z] at h
              refine Z_iload_n dX11_told_99 rfl rfl ?_
              refine Z_bipush (v := 30) dX11_told_100 (by decide) ?_
              refine Z_icmp_lt (tgt := 124) dX11_told_102 (by decide) (fun h102 => ?_) (fun h102 => ?_)
              · skip
                have z : ¬ (30 ≤ x ∧ x ≤ 32) := by simp only [Int32.lt_iff_toInt_lt, Int32.le_iff_toInt_le] at *; omega
                rw [if_neg z] at h
                refine Z_iconst (v := -1) dX11_told_124 (by decide) ?_
                refine Z_iret dX11_told_125 rfl rfl ⟨by decide, by decide⟩ ?_
                exact h
              · skip
                refine Z_iload_n dX11_told_105 rfl rfl ?_
                refine Z_bipush (v := 33) dX11_told_106 (by decide) ?_
                refine Z_icmp_ge (tgt := 124) dX11_told_108 (by decide) (fun h108 => ?_) (fun h108 => ?_)
                · skip
                  have z : ¬ (30 ≤ x ∧ x ≤ 32) := by simp only [Int32.lt_iff_toInt_lt, Int32.le_iff_toInt_le] at *; omega
                  rw [if_neg z] at h
                  refine Z_iconst (v := -1) dX11_told_124 (by decide) ?_
                  refine Z_iret dX11_told_125 rfl rfl ⟨by decide, by decide⟩ ?_
                  exact h
                · skip
                  have z : 30 ≤ x ∧ x ≤ 32 := by simp only [Int32.lt_iff_toInt_lt, Int32.le_iff_toInt_le] at *; omega
                  rw [if_pos z] at h
                  obtain ⟨j, hj, ex⟩ := arg_off (lo := 30) (hi := 32) (a := 30) (n := 2) rfl rfl (by decide) z
                  have ej : x - 30 = nI j := by rw [ex]; exact (nI_s (a := 30 + j) (b := 30) (by omega)).trans (congrArg nI (by omega))
                  rw [ej, nI_clamp (by omega)] at h
                  refine Z_aload_n dX11_told_111 rfl rfl ?_
                  refine Z_getR dX11_told_112 cl_11 fl_X11_21_11 rfl (cw_i0 hw) (cw_p0_0 hw) ?_
                  refine Z_getR dX11_told_115 cl_5 fl_X11_51_5 rfl (cw_i5 hw) (cw_p5_0 hw) ?_
                  refine Z_iload_n dX11_told_118 rfl rfl ?_
                  refine Z_bipush (v := 30) dX11_told_119 (by decide) ?_
                  refine Z_isub dX11_told_121 ?_
                  refine Z_ialdv dX11_told_122 (cw_i6 hw) (zix_e (m := j) ej (by omega) (by decide)) (sea.1.1 j (by omega)) ?_
                  refine Z_iret dX11_told_123 rfl rfl ⟨by decide, by decide⟩ ?_
                  exact h
            · skip
              refine Z_iload_n dX11_told_78 rfl rfl ?_
              refine Z_bipush (v := 23) dX11_told_79 (by decide) ?_
              refine Z_icmp_ge (tgt := 99) dX11_told_81 (by decide) (fun h81 => ?_) (fun h81 => ?_)
              · skip
                have z : ¬ (20 ≤ x ∧ x ≤ 22) := by simp only [Int32.lt_iff_toInt_lt, Int32.le_iff_toInt_le] at *; omega
                rw [if_neg z] at h
                refine Z_iload_n dX11_told_99 rfl rfl ?_
                refine Z_bipush (v := 30) dX11_told_100 (by decide) ?_
                refine Z_icmp_lt (tgt := 124) dX11_told_102 (by decide) (fun h102 => ?_) (fun h102 => ?_)
                · skip
                  have z : ¬ (30 ≤ x ∧ x ≤ 32) := by simp only [Int32.lt_iff_toInt_lt, Int32.le_iff_toInt_le] at *; omega
                  rw [if_neg z] at h
                  refine Z_iconst (v := -1) dX11_told_124 (by decide) ?_
                  refine Z_iret dX11_told_125 rfl rfl ⟨by decide, by decide⟩ ?_
                  exact h
                · skip
                  refine Z_iload_n dX11_told_105 rfl rfl ?_
                  refine Z_bipush (v := 33) dX11_told_106 (by decide) ?_
                  refine Z_icmp_ge (tgt := 124) dX11_told_108 (by decide) (fun h108 => ?_) (fun h108 => ?_)
                  · skip
                    have z : ¬ (30 ≤ x ∧ x ≤ 32) := by simp only [Int32.lt_iff_toInt_lt, Int32.le_iff_toInt_le] at *; omega
                    rw [if_neg z] at h
                    refine Z_iconst (v := -1) dX11_told_124 (by decide) ?_
                    refine Z_iret dX11_told_125 rfl rfl ⟨by decide, by decide⟩ ?_
                    exact h
                  · skip
                    have z : 30 ≤ x ∧ x ≤ 32 := by simp only [Int32.lt_iff_toInt_lt, Int32.le_iff_toInt_le] at *; omega
                    rw [if_pos z] at h
                    obtain ⟨j, hj, ex⟩ := arg_off (lo := 30) (hi := 32) (a := 30) (n := 2) rfl rfl (by decide) z
                    have ej : x - 30 = nI j := by rw [ex]; exact (nI_s (a := 30 + j) (b := 30) (by omega)).trans (congrArg nI (by omega))
                    rw [ej, nI_clamp (by omega)] at h
                    refine Z_aload_n dX11_told_111 rfl rfl ?_
                    refine Z_getR dX11_told_112 cl_11 fl_X11_21_11 rfl (cw_i0 hw) (cw_p0_0 hw) ?_
                    refine Z_getR dX11_told_115 cl_5 fl_X11_51_5 rfl (cw_i5 hw) (cw_p5_0 hw) ?_
                    refine Z_iload_n dX11_told_118 rfl rfl ?_
                    refine Z_bipush (v := 30) dX11_told_119 (by decide) ?_
                    refine Z_isub dX11_told_121 ?_
                    refine Z_ialdv dX11_told_122 (cw_i6 hw) (zix_e (m := j) ej (by omega) (by decide)) (sea.1.1 j (by omega)) ?_
                    refine Z_iret dX11_told_123 rfl rfl ⟨by decide, by decide⟩ ?_
                    exact h
              · skip
                have z : 20 ≤ x ∧ x ≤ 22 := by simp only [Int32.lt_iff_toInt_lt, Int32.le_iff_toInt_le] at *; omega
                rw [if_pos z] at h
                obtain ⟨j, hj, ex⟩ := arg_off (lo := 20) (hi := 22) (a := 20) (n := 2) rfl rfl (by decide) z
                have ej : x - 20 = nI j := by rw [ex]; exact (nI_s (a := 20 + j) (b := 20) (by omega)).trans (congrArg nI (by omega))
                rw [ej, nI_clamp (by omega)] at h
                refine Z_aload_n dX11_told_84 rfl rfl ?_
                refine Z_getR dX11_told_85 cl_11 fl_X11_21_11 rfl (cw_i0 hw) (cw_p0_0 hw) ?_
                refine Z_getIv dX11_told_88 cl_5 fl_X11_93_5 rfl (cw_i5 hw) sea.2.1.2.1 ?_
                refine Z_iload_n dX11_told_91 rfl rfl ?_
                refine Z_bipush (v := 20) dX11_told_92 (by decide) ?_
                refine Z_isub dX11_told_94 ?_
                refine Z_S2z dX11_told_95 to_X11_stageOf lk_X11_96 sc_X11_stageOf (Nat.le_of_ble_eq_true rfl) ⟨rfl, rfl⟩ ⟨by decide, by decide⟩ ?_
                rw [ej]
                refine k_stageOf hss (by omega) ?_
                rw [hsd j (by omega)]
                refine Z_iret dX11_told_98 rfl rfl ⟨by decide, by decide⟩ ?_
                exact h
          · skip
            have z : 10 ≤ x ∧ x ≤ 12 := by simp only [Int32.lt_iff_toInt_lt, Int32.le_iff_toInt_le] at *; omega
            rw [if_pos z] at h
            obtain ⟨j, hj, ex⟩ := arg_off (lo := 10) (hi := 12) (a := 10) (n := 2) rfl rfl (by decide) z
            have ej : x - 10 = nI j := by rw [ex]; exact (nI_s (a := 10 + j) (b := 10) (by omega)).trans (congrArg nI (by omega))
            rw [ej, nI_clamp (by omega)] at h
            refine Z_aload_n dX11_told_56 rfl rfl ?_
            refine Z_getR dX11_told_57 cl_11 fl_X11_21_11 rfl (cw_i0 hw) (cw_p0_0 hw) ?_
            refine Z_getR dX11_told_60 cl_5 fl_X11_76_5 rfl (cw_i5 hw) hp5 ?_
            refine Z_getR dX11_told_63 cl_8 fl_X11_90_8 rfl hv.2.1 hv.2.2.1.2.2.2 ?_
            refine Z_iload_n dX11_told_66 rfl rfl ?_
            refine Z_bipush (v := 10) dX11_told_67 (by decide) ?_
            refine Z_isub dX11_told_69 ?_
            refine Z_ialdv dX11_told_70 hv.2.2.2.1.2.2.2 (zix_e (m := j) ej (by omega) (by decide)) (show _ = nI (sp_pay A.1.1 j) by rw [hv.2.2.2.2.2.2.1 j (by omega), hvm.2.1 j (by omega)]) ?_
            refine Z_iret dX11_told_71 rfl rfl ⟨by decide, by decide⟩ ?_
            exact h
      · skip
        refine Z_aload_n dX11_told_33 rfl rfl ?_
        refine Z_getR dX11_told_34 cl_11 fl_X11_21_11 rfl (cw_i0 hw) (cw_p0_0 hw) ?_
        refine Z_getR dX11_told_37 cl_5 fl_X11_51_5 rfl (cw_i5 hw) (cw_p5_0 hw) ?_
        refine Z_S1z dX11_told_40 to_X11_restOf lk_X11_86 sc_X11_restOf (Nat.le_of_ble_eq_true rfl) ⟨rfl, rfl⟩ ⟨by decide, by decide⟩ ?_
        refine k_restB hr ?_
        refine Z_iret dX11_told_43 rfl rfl ⟨by decide, by decide⟩ ?_
        rw [if_pos h30] at h; exact h
    · skip
      refine Z_aload_n dX11_told_20 rfl rfl ?_
      refine Z_getR dX11_told_21 cl_11 fl_X11_21_11 rfl (cw_i0 hw) (cw_p0_0 hw) ?_
      refine Z_getIv dX11_told_24 cl_5 fl_X11_83_5 rfl (cw_i5 hw) sea.2.1.1 ?_
      refine Z_iret dX11_told_27 rfl rfl ⟨by decide, by decide⟩ ?_
      rw [if_pos h17] at h; exact h
  · skip
    refine Z_aload_n dX11_told_4 rfl rfl ?_
    refine Z_getR dX11_told_5 cl_11 fl_X11_21_11 rfl (cw_i0 hw) (cw_p0_0 hw) ?_
    refine Z_getR dX11_told_8 cl_5 fl_X11_76_5 rfl (cw_i5 hw) hp5 ?_
    refine Z_getIv dX11_told_11 cl_8 fl_X11_80_8 rfl hv.2.1 (show _ = nI (sp_cov A.1.1) by rw [hv.2.2.2.2.2.2.2, hvm.2.2]) ?_
    refine Z_iret dX11_told_14 rfl rfl ⟨by decide, by decide⟩ ?_
    rw [show sp_told A.1.1 x = nI (sp_cov A.1.1) from if_pos h1] at h; exact h
end CP2
