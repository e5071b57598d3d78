section CO5
variable {G : ZG} {d : Nat} {α β γ : AH} {post : Option Value → AH → Prop} {Γ : Nat → VC} {A : ZA}
theorem k_by {x n m p : Int32} (hr : CRel Γ A α) (h : post (some (.long (sp_by A.1.1 x n m p))) α) : ZK G (d + 3) mX11_by [.ref (G.1 + 0), .int x, .int n, .int m, .int p] α post := by
  have hw := hr.1
  have l1 : (1 : Int32).toInt = 1 := rfl
  have l5 : (5 : Int32).toInt = 5 := rfl
  have l15 : (15 : Int32).toInt = 15 := rfl
  have l0 : (0 : Int32).toInt = 0 := rfl
  have lp : ∀ (j q w r R : Nat), r ≤ 5 → r ≤ R → R ≤ 15 → q ≤ 15 → w ≤ 5 → 1 ≤ q → q ≤ R → post (some (.long (lZ (zlow (zby r (R - r) q w) (zch R q) p)))) α → ∀ (k t : Nat), t + k = r + 1 - w → Z G mX11_by (d + 3) 78 [some (.ref (G.1 + 0)), some (.int (nI j)), some (.int (nI q)), some (.int (nI w)), some (.int p), some (.int (nI R)), some (.int (nI r)), some (.long (lN (zbyS r (R - r) q w t))), none, some (.int (nI (w + t)))] [] α (0, 0) post := by
    intro j q w r R hr5 hrR hR hq hw5 hq1 hqR h k
    induction k with
    | zero =>
      intro t ht
      have ht : t = r + 1 - w := by omega
      subst ht
      have c2 := zch_le' R q
      have c1 := zbyS_le r (R - r) q w (r + 1 - w)
      have hv1 : zbyS r (R - r) q w (r + 1 - w) ≤ 6 * 41409225 := Nat.le_trans c1 (Nat.mul_le_mul_right _ (by omega))
      have hgt : nI r < nI (w + (r + 1 - w)) := nI_lt (by omega) (by omega)
      refine Z_iload dX11_by_78 rfl ?_
      refine Z_iload dX11_by_80 rfl ?_
      refine Z_icmp_gt (tgt := 118) dX11_by_82 (by decide) (fun h82 => ?_) (fun h82 => ?_)
      · skip
        refine Z_lload dX11_by_118 rfl ?_
        refine Z_iload dX11_by_120 rfl ?_
        refine Z_iload_n dX11_by_122 rfl rfl ?_
        refine Z_S2z dX11_by_123 to_X11_choose lk_X11_167 sc_X11_choose (Nat.le_of_ble_eq_true rfl) ⟨rfl, rfl⟩ ⟨by decide, by decide⟩ ?_
        refine k_choose (by omega) ?_
        rw [zchI_nI (by omega) (by omega)]
        refine Z_i2l dX11_by_126 ?_
        refine Z_iload dX11_by_127 rfl ?_
        refine Z_S3z dX11_by_129 to_X11_lowest lk_X11_163 sc_X11_lowest (Nat.le_of_ble_eq_true rfl) ⟨rfl, rfl⟩ ⟨by decide, by decide⟩ ?_
        rw [nI_l (by omega), ← lZ_nat (zbyS _ _ _ _ _)]
        refine k_lowest (by omega) (by omega) (by omega) (zch_pos _ (by omega) _ (by omega) hqR) ?_
        refine Z_lret dX11_by_132 rfl ⟨by decide, by decide⟩ ?_
        exact h
      · skip
        exact absurd hgt h82
    | succ k ih =>
      intro t ht
      have c1 := zch_le' r (w + t)
      have c2 := zchI_le (R - r) (nI q - nI (w + t))
      have nx := ih (t + 1) (by omega)
      rw [show zbyS r (R - r) q w (t + 1) = zbyS r (R - r) q w t + zch r (w + t) * zchI (R - r) (nI q - nI (w + t)) from rfl] at nx
      refine Z_iload dX11_by_78 rfl ?_
      refine Z_iload dX11_by_80 rfl ?_
      refine Z_icmp_gt (tgt := 118) dX11_by_82 (by decide) (fun h82 => ?_) (fun h82 => ?_)
      · skip
        exact absurd ((nI_ltI (by omega) (by omega)).mp h82) (by omega)
      · skip
        refine Z_lload dX11_by_85 rfl ?_
        refine Z_iload dX11_by_87 rfl ?_
        refine Z_iload dX11_by_89 rfl ?_
        refine Z_S2z dX11_by_91 to_X11_choose lk_X11_167 sc_X11_choose (Nat.le_of_ble_eq_true rfl) ⟨rfl, rfl⟩ ⟨by decide, by decide⟩ ?_
        refine k_choose (by omega) ?_
        rw [zchI_nI (by omega) (by omega)]
        refine Z_i2l dX11_by_94 ?_
        rw [nI_l (by omega)]
        refine Z_iload dX11_by_95 rfl ?_
        refine Z_iload dX11_by_97 rfl ?_
        refine Z_isub dX11_by_99 ?_
        refine Z_iload_n dX11_by_100 rfl rfl ?_
        refine Z_iload dX11_by_101 rfl ?_
        refine Z_isub dX11_by_103 ?_
        refine Z_S2z dX11_by_104 to_X11_choose lk_X11_167 sc_X11_choose (Nat.le_of_ble_eq_true rfl) ⟨rfl, rfl⟩ ⟨by decide, by decide⟩ ?_
        rw [nI_s hrR]
        refine k_choose (by omega) ?_
        refine Z_i2l dX11_by_107 ?_
        rw [nI_l (by omega)]
        refine Z_lmul dX11_by_108 ?_
        rw [lN_mul]
        refine Z_ladd dX11_by_109 ?_
        rw [lN_add]
        refine Z_lstore (L' := [_, _, _, _, _, _, _, _, _, _]) dX11_by_110 (by decide) rfl rfl ?_
        refine Z_iinc (L' := [_, _, _, _, _, _, _, _, _, _]) dX11_by_112 rfl (by rfl : _ + Int32.ofInt 1 = _ + 1) (by decide) rfl rfl ?_
        refine Z_goto (tgt := 78) dX11_by_115 (by decide) ?_
        rw [nI_1]
        exact nx
  refine ZK.of (n := 5) (by decide) (Nat.le_of_ble_eq_true rfl) rfl ?_
  refine Z_iload_n dX11_by_0 rfl rfl ?_
  refine Z_S1z dX11_by_1 to_X11_isSort lk_X11_118 sc_X11_isSort (Nat.le_of_ble_eq_true rfl) ⟨rfl, rfl⟩ ⟨by decide, by decide⟩ ?_
  refine k_isSort ?_
  refine Z_if_eq (tgt := 35) dX11_by_4 (by decide) (fun h4 => ?_) (fun h4 => ?_)
  · skip
    refine Z_ldc2 dX11_by_35 kc_X11_156 ?_
    refine Z_lret dX11_by_38 rfl ⟨by decide, by decide⟩ ?_
    have e : sp_by A.1.1 x n m p = zNO := if_neg (fun z => by first | exact dec_f h4 z.1.1 | exact dec_f h12 z.2.1.2 | (have z1 := z.1.2; simp only [Int32.lt_iff_toInt_lt, Int32.le_iff_toInt_le] at *; omega) | (have z1 := z.2.1.1; simp only [Int32.lt_iff_toInt_lt, Int32.le_iff_toInt_le] at *; omega))
    rw [e] at h; exact h
  · skip
    refine Z_iload dX11_by_7 rfl ?_
    refine Z_S1z dX11_by_9 to_X11_isPart lk_X11_153 sc_X11_isPart (Nat.le_of_ble_eq_true rfl) ⟨rfl, rfl⟩ ⟨by decide, by decide⟩ ?_
    refine k_isPart ?_
    refine Z_if_eq (tgt := 35) dX11_by_12 (by decide) (fun h12 => ?_) (fun h12 => ?_)
    · skip
      refine Z_ldc2 dX11_by_35 kc_X11_156 ?_
      refine Z_lret dX11_by_38 rfl ⟨by decide, by decide⟩ ?_
      have e : sp_by A.1.1 x n m p = zNO := if_neg (fun z => by first | exact dec_f h4 z.1.1 | exact dec_f h12 z.2.1.2 | (have z1 := z.1.2; simp only [Int32.lt_iff_toInt_lt, Int32.le_iff_toInt_le] at *; omega) | (have z1 := z.2.1.1; simp only [Int32.lt_iff_toInt_lt, Int32.le_iff_toInt_le] at *; omega))
      rw [e] at h; exact h
    · skip
      refine Z_iload_n dX11_by_15 rfl rfl ?_
      refine Z_iconst (v := 1) dX11_by_16 (by decide) ?_
      refine Z_icmp_lt (tgt := 35) dX11_by_17 (by decide) (fun h17 => ?_) (fun h17 => ?_)
      · skip
        refine Z_ldc2 dX11_by_35 kc_X11_156 ?_
        refine Z_lret dX11_by_38 rfl ⟨by decide, by decide⟩ ?_
        have e : sp_by A.1.1 x n m p = zNO := if_neg (fun z => by first | exact dec_f h4 z.1.1 | exact dec_f h12 z.2.1.2 | (have z1 := z.1.2; simp only [Int32.lt_iff_toInt_lt, Int32.le_iff_toInt_le] at *; omega) | (have z1 := z.2.1.1; simp only [Int32.lt_iff_toInt_lt, Int32.le_iff_toInt_le] at *; omega))
        rw [e] at h; exact h
      · skip
        refine Z_iload_n dX11_by_20 rfl rfl ?_
        refine Z_bipush (v := 15) dX11_by_21 (by decide) ?_
        refine Z_icmp_gt (tgt := 35) dX11_by_23 (by decide) (fun h23 => ?_) (fun h23 => ?_)
        · skip
          refine Z_ldc2 dX11_by_35 kc_X11_156 ?_
          refine Z_lret dX11_by_38 rfl ⟨by decide, by decide⟩ ?_
          have e : sp_by A.1.1 x n m p = zNO := if_neg (fun z => by first | exact dec_f h4 z.1.1 | exact dec_f h12 z.2.1.2 | (have z1 := z.1.2; simp only [Int32.lt_iff_toInt_lt, Int32.le_iff_toInt_le] at *; omega) | (have z1 := z.2.1.1; simp only [Int32.lt_iff_toInt_lt, Int32.le_iff_toInt_le] at *; omega))
          rw [e] at h; exact h
        · skip
          refine Z_iload_n dX11_by_26 rfl rfl ?_
          refine Z_if_lt (tgt := 35) dX11_by_27 (by decide) (fun h27 => ?_) (fun h27 => ?_)
          · skip
            refine Z_ldc2 dX11_by_35 kc_X11_156 ?_
            refine Z_lret dX11_by_38 rfl ⟨by decide, by decide⟩ ?_
            have e : sp_by A.1.1 x n m p = zNO := if_neg (fun z => by first | exact dec_f h4 z.1.1 | exact dec_f h12 z.2.1.2 | (have z1 := z.1.2; simp only [Int32.lt_iff_toInt_lt, Int32.le_iff_toInt_le] at *; omega) | (have z1 := z.2.1.1; simp only [Int32.lt_iff_toInt_lt, Int32.le_iff_toInt_le] at *; omega))
            rw [e] at h; exact h
          · skip
            refine Z_iload_n dX11_by_30 rfl rfl ?_
            refine Z_iconst (v := 5) dX11_by_31 (by decide) ?_
            refine Z_icmp_le (tgt := 39) dX11_by_32 (by decide) (fun h32 => ?_) (fun h32 => ?_)
            · skip
              have hn : 1 ≤ n ∧ n ≤ 15 := by simp only [Int32.lt_iff_toInt_lt, Int32.le_iff_toInt_le] at *; omega
              have hm : 0 ≤ m ∧ m ≤ 5 := by simp only [Int32.lt_iff_toInt_lt, Int32.le_iff_toInt_le] at *; omega
              refine Z_aload_n dX11_by_39 rfl rfl ?_
              refine Z_getR dX11_by_40 cl_11 fl_X11_21_11 rfl (cw_i0 hw) (cw_p0_0 hw) ?_
              refine Z_getR dX11_by_43 cl_5 fl_X11_51_5 rfl (cw_i5 hw) (cw_p5_0 hw) ?_
              refine Z_S1z dX11_by_46 to_X11_restOf lk_X11_86 sc_X11_restOf (Nat.le_of_ble_eq_true rfl) ⟨rfl, rfl⟩ ⟨by decide, by decide⟩ ?_
              refine k_restB hr ?_
              refine Z_istore (L' := [_, _, _, _, _, _, _, _, _, _]) dX11_by_49 (by decide) rfl rfl ?_
              refine Z_iload_n dX11_by_51 rfl rfl ?_
              refine Z_iload dX11_by_52 rfl ?_
              refine Z_icmp_le (tgt := 61) dX11_by_54 (by decide) (fun h54 => ?_) (fun h54 => ?_)
              · skip
                obtain ⟨j, hj, rfl⟩ := okS.nI (dec_t h4)
                obtain ⟨q, hq1, hq15, rfl⟩ := arg_1 (n := 15) rfl hn
                obtain ⟨w, hw5, rfl⟩ := arg_nI (n := 5) rfl rfl hm
                have b := zsb hr.sb hj
                have hq := (nI_leI (by omega) (by omega)).mp h54
                have e : sp_by A.1.1 (nI j) (nI q) (nI w) p = lZ (zlow (zby (A.1.1 (6 + j)) (zrest A.1.1 - A.1.1 (6 + j)) q w) (zch (zrest A.1.1) q) p) := (if_pos ⟨⟨dec_t h4, hn⟩, ⟨hm, dec_t h12⟩, h54⟩).trans (by rw [nI_clamp (by omega), nI_clamp (by omega), nI_clamp (by omega)])
                rw [e] at h
                refine Z_aload_n dX11_by_61 rfl rfl ?_
                refine Z_getR dX11_by_62 cl_11 fl_X11_21_11 rfl (cw_i0 hw) (cw_p0_0 hw) ?_
                refine Z_getR dX11_by_65 cl_5 fl_X11_51_5 rfl (cw_i5 hw) (cw_p5_0 hw) ?_
                refine Z_iload_n dX11_by_68 rfl rfl ?_
                refine Z_ialdv dX11_by_69 (cw_i6 hw) (zix_nI (m := j) (by omega) (by decide)) (hr.2.2.2.1.1.1 j (by omega)) ?_
                refine Z_istore (L' := [_, _, _, _, _, _, _, _, _, _]) dX11_by_70 (by decide) rfl rfl ?_
                refine Z_lconst (v := 0) dX11_by_72 (by decide) ?_
                refine Z_lstore (L' := [_, _, _, _, _, _, _, _, _, _]) dX11_by_73 (by decide) rfl rfl ?_
                refine Z_iload_n dX11_by_75 rfl rfl ?_
                refine Z_istore (L' := [_, _, _, _, _, _, _, _, _, _]) dX11_by_76 (by decide) rfl rfl ?_
                exact lp j q w _ _ b.1 b.2.1 b.2.2 hq15 hw5 hq1 hq h (A.1.1 (6 + j) + 1 - w) 0 (by omega)
              · skip
                refine Z_ldc2 dX11_by_57 kc_X11_156 ?_
                refine Z_lret dX11_by_60 rfl ⟨by decide, by decide⟩ ?_
                have e : sp_by A.1.1 x n m p = zNO := if_neg (fun z => h54 z.2.2)
                rw [e] at h; exact h
            · skip
              refine Z_ldc2 dX11_by_35 kc_X11_156 ?_
              refine Z_lret dX11_by_38 rfl ⟨by decide, by decide⟩ ?_
              have e : sp_by A.1.1 x n m p = zNO := if_neg (fun z => by first | exact dec_f h4 z.1.1 | exact dec_f h12 z.2.1.2 | (have z1 := z.1.2; simp only [Int32.lt_iff_toInt_lt, Int32.le_iff_toInt_le] at *; omega) | (have z1 := z.2.1.1; simp only [Int32.lt_iff_toInt_lt, Int32.le_iff_toInt_le] at *; omega))
              rw [e] at h; exact h
theorem nI_min {x y : Nat} (hx : x < 2 ^ 31) (hy : y < 2 ^ 31) : (if nI y < nI x then nI y else nI x) = nI (min x y) := by
  by_cases h : y < x
  · rw [if_pos (nI_lt h hx)]; congr 1; omega
  · rw [if_neg (fun z => h ((nI_ltI hy hx).mp z))]; congr 1; omega
theorem k_cover {x n p : Int32} (hr : CRel Γ A α) (h : post (some (.long (sp_cover A.1.1 x n p))) α) : ZK G (d + 3) mX11_cover [.ref (G.1 + 0), .int x, .int n, .int p] α post := by
  have hw := hr.1
  have l1 : (1 : Int32).toInt = 1 := rfl
  have l15 : (15 : Int32).toInt = 15 := rfl
  obtain ⟨v, hp5, hvk, ⟨c, w, e, pp, hv⟩, hvm⟩ := hr.held
  have bc : sp_cov A.1.1 ≤ 99 := by have := hvk.2.2.2.2; rw [hvm.2.2] at this; exact this
  refine ZK.of (n := 6) (by decide) (Nat.le_of_ble_eq_true rfl) rfl ?_
  refine Z_iload_n dX11_cover_0 rfl rfl ?_
  refine Z_S1z dX11_cover_1 to_X11_isSort lk_X11_118 sc_X11_isSort (Nat.le_of_ble_eq_true rfl) ⟨rfl, rfl⟩ ⟨by decide, by decide⟩ ?_
  refine k_isSort ?_
  refine Z_if_eq (tgt := 25) dX11_cover_4 (by decide) (fun h4 => ?_) (fun h4 => ?_)
  · skip
    refine Z_ldc2 dX11_cover_25 kc_X11_156 ?_
    refine Z_lret dX11_cover_28 rfl ⟨by decide, by decide⟩ ?_
    have e : sp_cover A.1.1 x n p = zNO := if_neg (fun z => by first | exact dec_f h4 z.1.1 | exact dec_f h11 z.2 | (have z1 := z.1.2; simp only [Int32.lt_iff_toInt_lt, Int32.le_iff_toInt_le] at *; omega))
    rw [e] at h; exact h
  · skip
    refine Z_iload_n dX11_cover_7 rfl rfl ?_
    refine Z_S1z dX11_cover_8 to_X11_isPart lk_X11_153 sc_X11_isPart (Nat.le_of_ble_eq_true rfl) ⟨rfl, rfl⟩ ⟨by decide, by decide⟩ ?_
    refine k_isPart ?_
    refine Z_if_eq (tgt := 25) dX11_cover_11 (by decide) (fun h11 => ?_) (fun h11 => ?_)
    · skip
      refine Z_ldc2 dX11_cover_25 kc_X11_156 ?_
      refine Z_lret dX11_cover_28 rfl ⟨by decide, by decide⟩ ?_
      have e : sp_cover A.1.1 x n p = zNO := if_neg (fun z => by first | exact dec_f h4 z.1.1 | exact dec_f h11 z.2 | (have z1 := z.1.2; simp only [Int32.lt_iff_toInt_lt, Int32.le_iff_toInt_le] at *; omega))
      rw [e] at h; exact h
    · skip
      refine Z_iload_n dX11_cover_14 rfl rfl ?_
      refine Z_iconst (v := 1) dX11_cover_15 (by decide) ?_
      refine Z_icmp_lt (tgt := 25) dX11_cover_16 (by decide) (fun h16 => ?_) (fun h16 => ?_)
      · skip
        refine Z_ldc2 dX11_cover_25 kc_X11_156 ?_
        refine Z_lret dX11_cover_28 rfl ⟨by decide, by decide⟩ ?_
        have e : sp_cover A.1.1 x n p = zNO := if_neg (fun z => by first | exact dec_f h4 z.1.1 | exact dec_f h11 z.2 | (have z1 := z.1.2; simp only [Int32.lt_iff_toInt_lt, Int32.le_iff_toInt_le] at *; omega))
        rw [e] at h; exact h
      · skip
        refine Z_iload_n dX11_cover_19 rfl rfl ?_
        refine Z_bipush (v := 15) dX11_cover_20 (by decide) ?_
        refine Z_icmp_le (tgt := 29) dX11_cover_22 (by decide) (fun h22 => ?_) (fun h22 => ?_)
        · skip
          have hn : 1 ≤ n ∧ n ≤ 15 := by simp only [Int32.lt_iff_toInt_lt, Int32.le_iff_toInt_le] at *; omega
          obtain ⟨j, hj, rfl⟩ := okS.nI (dec_t h4)
          obtain ⟨q, hq1, hq15, rfl⟩ := arg_1 (n := 15) rfl hn
          have b := zsb hr.sb hj
          have e : sp_cover A.1.1 (nI j) (nI q) p = lZ (zlow ((sp_cov A.1.1 : Int) * ((zch (zrest A.1.1) (min q (zrest A.1.1)) : Int) - zch (zrest A.1.1 - A.1.1 (6 + j)) (min q (zrest A.1.1)))) (zch (zrest A.1.1) (min q (zrest A.1.1))) p) := (if_pos ⟨⟨dec_t h4, hn⟩, dec_t h11⟩).trans (by rw [nI_clamp (by omega), nI_clamp (by omega)])
          rw [e] at h
          have c1 := zch_le' (zrest A.1.1) (min q (zrest A.1.1))
          have c2 := zch_le' (zrest A.1.1 - A.1.1 (6 + j)) (min q (zrest A.1.1))
          have hz : -2 ^ 62 < (sp_cov A.1.1 : Int) * ((zch (zrest A.1.1) (min q (zrest A.1.1)) : Int) - zch (zrest A.1.1 - A.1.1 (6 + j)) (min q (zrest A.1.1))) ∧ (sp_cov A.1.1 : Int) * ((zch (zrest A.1.1) (min q (zrest A.1.1)) : Int) - zch (zrest A.1.1 - A.1.1 (6 + j)) (min q (zrest A.1.1))) < 2 ^ 62 := by
            have k1 : (sp_cov A.1.1 : Int) * ((zch (zrest A.1.1) (min q (zrest A.1.1)) : Int) - zch (zrest A.1.1 - A.1.1 (6 + j)) (min q (zrest A.1.1))) ≤ (sp_cov A.1.1 : Int) * 6435 := Int.mul_le_mul_of_nonneg_left (by omega) (by omega)
            have k2 : (sp_cov A.1.1 : Int) * (-6435) ≤ (sp_cov A.1.1 : Int) * ((zch (zrest A.1.1) (min q (zrest A.1.1)) : Int) - zch (zrest A.1.1 - A.1.1 (6 + j)) (min q (zrest A.1.1))) := Int.mul_le_mul_of_nonneg_left (by omega) (by omega)
            constructor <;> omega
          refine Z_aload_n dX11_cover_29 rfl rfl ?_
          refine Z_getR dX11_cover_30 cl_11 fl_X11_21_11 rfl (cw_i0 hw) (cw_p0_0 hw) ?_
          refine Z_getR dX11_cover_33 cl_5 fl_X11_51_5 rfl (cw_i5 hw) (cw_p5_0 hw) ?_
          refine Z_S1z dX11_cover_36 to_X11_restOf lk_X11_86 sc_X11_restOf (Nat.le_of_ble_eq_true rfl) ⟨rfl, rfl⟩ ⟨by decide, by decide⟩ ?_
          refine k_restB hr ?_
          refine Z_istore (L' := [_, _, _, _, _, _, _, _, _, _]) dX11_cover_39 (by decide) rfl rfl ?_
          refine Z_iload_n dX11_cover_41 rfl rfl ?_
          refine Z_iload dX11_cover_42 rfl ?_
          refine Z_mmin dX11_cover_44 wd_806 mw_min.1 mw_min.2.1 mw_min.2.2 (Nat.le_of_ble_eq_true rfl) ⟨by decide, by decide⟩ ?_
          rw [nI_min (by omega) (by omega)]
          refine Z_istore (L' := [_, _, _, _, _, _, _, _, _, _]) dX11_cover_47 (by decide) rfl rfl ?_
          refine Z_iload dX11_cover_49 rfl ?_
          refine Z_iload dX11_cover_51 rfl ?_
          refine Z_S2z dX11_cover_53 to_X11_choose lk_X11_167 sc_X11_choose (Nat.le_of_ble_eq_true rfl) ⟨rfl, rfl⟩ ⟨by decide, by decide⟩ ?_
          refine k_choose b.2.2 ?_
          rw [zchI_nI b.2.2 (by omega)]
          refine Z_i2l dX11_cover_56 ?_
          refine Z_lstore (L' := [_, _, _, _, _, _, _, _, _, _]) dX11_cover_57 (by decide) rfl rfl ?_
          refine Z_iload dX11_cover_59 rfl ?_
          refine Z_aload_n dX11_cover_61 rfl rfl ?_
          refine Z_getR dX11_cover_62 cl_11 fl_X11_21_11 rfl (cw_i0 hw) (cw_p0_0 hw) ?_
          refine Z_getR dX11_cover_65 cl_5 fl_X11_51_5 rfl (cw_i5 hw) (cw_p5_0 hw) ?_
          refine Z_iload_n dX11_cover_68 rfl rfl ?_
          refine Z_ialdv dX11_cover_69 (cw_i6 hw) (zix_nI (m := j) (by omega) (by decide)) (hr.2.2.2.1.1.1 j (by omega)) ?_
          refine Z_isub dX11_cover_70 ?_
          refine Z_iload dX11_cover_71 rfl ?_
          refine Z_S2z dX11_cover_73 to_X11_choose lk_X11_167 sc_X11_choose (Nat.le_of_ble_eq_true rfl) ⟨rfl, rfl⟩ ⟨by decide, by decide⟩ ?_
          rw [nI_s b.2.1]
          refine k_choose (by omega) ?_
          rw [zchI_nI (by omega) (by omega)]
          refine Z_i2l dX11_cover_76 ?_
          refine Z_lstore (L' := [_, _, _, _, _, _, _, _, _, _]) dX11_cover_77 (by decide) rfl rfl ?_
          refine Z_aload_n dX11_cover_79 rfl rfl ?_
          refine Z_getR dX11_cover_80 cl_11 fl_X11_21_11 rfl (cw_i0 hw) (cw_p0_0 hw) ?_
          refine Z_getR dX11_cover_83 cl_5 fl_X11_76_5 rfl (cw_i5 hw) hp5 ?_
          refine Z_getIv dX11_cover_86 cl_8 fl_X11_80_8 rfl hv.2.1 (show _ = nI (sp_cov A.1.1) by rw [hv.2.2.2.2.2.2.2, hvm.2.2]) ?_
          refine Z_i2l dX11_cover_89 ?_
          refine Z_lload dX11_cover_90 rfl ?_
          refine Z_lload dX11_cover_92 rfl ?_
          refine Z_lsub dX11_cover_94 ?_
          refine Z_lmul dX11_cover_95 ?_
          refine Z_lload dX11_cover_96 rfl ?_
          refine Z_iload_n dX11_cover_98 rfl rfl ?_
          refine Z_S3z dX11_cover_99 to_X11_lowest lk_X11_163 sc_X11_lowest (Nat.le_of_ble_eq_true rfl) ⟨rfl, rfl⟩ ⟨by decide, by decide⟩ ?_
          rw [nI_l (by omega), nI_l (by omega), nI_l (by omega), ← lZ_nat (sp_cov A.1.1), ← lZ_nat (zch (zrest A.1.1) (min q (zrest A.1.1))), ← lZ_nat (zch (zrest A.1.1 - A.1.1 (6 + j)) (min q (zrest A.1.1)))]
          unfold lZ
          rw [← Int64.ofInt_sub, ← Int64.ofInt_mul]
          rw [show Int64.ofInt ((zch (zrest A.1.1) (min q (zrest A.1.1)) : Nat) : Int) = lN (zch (zrest A.1.1) (min q (zrest A.1.1))) from lZ_nat _]
          refine k_lowest (z := (sp_cov A.1.1 : Int) * ((zch (zrest A.1.1) (min q (zrest A.1.1)) : Int) - zch (zrest A.1.1 - A.1.1 (6 + j)) (min q (zrest A.1.1)))) hz.1 hz.2 (by omega) (zch_pos _ (by omega) _ (by omega) (by omega)) ?_
          refine Z_lret dX11_cover_102 rfl ⟨by decide, by decide⟩ ?_
          exact h
        · skip
          refine Z_ldc2 dX11_cover_25 kc_X11_156 ?_
          refine Z_lret dX11_cover_28 rfl ⟨by decide, by decide⟩ ?_
          have e : sp_cover A.1.1 x n p = zNO := if_neg (fun z => by first | exact dec_f h4 z.1.1 | exact dec_f h11 z.2 | (have z1 := z.1.2; simp only [Int32.lt_iff_toInt_lt, Int32.le_iff_toInt_le] at *; omega))
          rw [e] at h; exact h
/-! the odds of a book -/
theorem zord_s0 : ∀ a, a < 6 → ∀ b, b < 6 → ∀ c, c < 6 → 0 < a → zord (a - 1) b c * (a + b + c) = zord a b c * a := by decide +kernel
theorem zord_s1 : ∀ a, a < 6 → ∀ b, b < 6 → ∀ c, c < 6 → 0 < b → zord a (b - 1) c * (a + b + c) = zord a b c * b := by decide +kernel
theorem zord_s2 : ∀ a, a < 6 → ∀ b, b < 6 → ∀ c, c < 6 → 0 < c → zord a b (c - 1) * (a + b + c) = zord a b c * c := by decide +kernel
/-- how many orders begin as the book does, from place i on, with so many left -/
def zbk (σ : Nat → Nat) : Nat → Nat → (Nat → Nat) → Nat
  | 0, _, l => zord (l 0) (l 1) (l 2)
  | j + 1, i, l => if l (σ (152 + i)) = 0 then 0 else zbk σ j (i + 1) (u1 l (σ (152 + i)) (l (σ (152 + i)) - 1))
theorem zlow_fr {u l o n : Nat} {p : Int32} (hl : 0 < l) (hn : 0 < n) (e : o * l = u * n) : zlow (u : Int) l p = zlow (o : Int) n p := by
  have hg : 0 < Nat.gcd u l := Nat.gcd_pos_of_pos_right _ hl
  obtain ⟨g, hgd, u', l', hc, eu, el⟩ : ∃ g, g = Nat.gcd u l ∧ ∃ u' l', Nat.Coprime u' l' ∧ u = u' * g ∧ l = l' * g := by
    refine ⟨_, rfl, u / Nat.gcd u l, l / Nat.gcd u l, Nat.coprime_div_gcd_div_gcd hg, (Nat.div_mul_cancel (Nat.gcd_dvd_left u l)).symm, (Nat.div_mul_cancel (Nat.gcd_dvd_right u l)).symm⟩
  rw [← hgd] at hg
  have e2 : o * l' = u' * n := by
    have : o * l' * g = u' * n * g := by rw [Nat.mul_assoc, ← el, e, eu, Nat.mul_assoc, Nat.mul_assoc, Nat.mul_comm g n]
    exact Nat.eq_of_mul_eq_mul_right hg this
  have hl' : 0 < l' := Nat.pos_of_ne_zero (fun z => by rw [z, Nat.zero_mul] at el; omega)
  obtain ⟨k, ek⟩ : l' ∣ n := (Nat.Coprime.symm hc).dvd_of_dvd_mul_left ⟨o, by rw [← e2, Nat.mul_comm]⟩
  have eo : o = u' * k := by
    have : o * l' = u' * k * l' := by rw [e2, ek, Nat.mul_assoc, Nat.mul_comm l' k]
    exact Nat.eq_of_mul_eq_mul_right hl' this
  have hk : 0 < k := Nat.pos_of_ne_zero (fun z => by rw [z, Nat.mul_zero] at ek; omega)
  have g2 : Nat.gcd o n = k := by rw [eo, ek, Nat.gcd_mul_right, hc.gcd_eq_one, Nat.one_mul]
  have a1 : ((u : Int) / (g : Int)) = u' := by rw [eu]; push_cast; exact Int.mul_ediv_cancel _ (by omega)
  have a2 : ((l : Int) / (g : Int)) = l' := by rw [el]; push_cast; exact Int.mul_ediv_cancel _ (by omega)
  have b1 : ((o : Int) / (k : Int)) = u' := by rw [eo]; push_cast; exact Int.mul_ediv_cancel _ (by omega)
  have b2 : ((n : Int) / (k : Int)) = l' := by rw [ek]; push_cast; exact Int.mul_ediv_cancel _ (by omega)
  unfold zlow
  rw [Int.natAbs_natCast, Int.natAbs_natCast, g2, ← hgd]
  by_cases hp : p = 0
  · rw [if_pos hp, if_pos hp, a1, b1]
  · rw [if_neg hp, if_neg hp, a2, b2]
theorem zbk_od {σ : Nat → Nat} {a : Nat} (hb : SB σ) (ha : a = 6 ∨ a = 164) : ∀ (j i u l : Nat) (L : Nat → Nat), i + j = σ 2 → 0 < u → 0 < l → (∀ s, s < 3 → L s = σ (a + s) - zah σ s i ∧ zah σ s i ≤ σ (a + s)) → L 0 + L 1 + L 2 + i = σ a + σ (a + 1) + σ (a + 2) → zord (L 0) (L 1) (L 2) * l = u * zord (σ a) (σ (a + 1)) (σ (a + 2)) → 0 < (zod σ a j i u l).2 ∧ zbk σ j i L * (zod σ a j i u l).2 = (zod σ a j i u l).1 * zord (σ a) (σ (a + 1)) (σ (a + 2)) := by
  have b2 : σ 2 ≤ 12 := hb.at (by omega) rfl
  have bb : ∀ s, s < 3 → σ (a + s) ≤ 5 := fun s hs => by
    rcases ha with rfl | rfl
    · exact hb.at (by omega) (zbd_bag hs)
    · exact hb.at (by omega) (zbd_oth hs)
  intro j
  induction j with
  | zero =>
    intro i u l L hi hu hl hL hs he
    exact ⟨hl, he⟩
  | succ j ih =>
    intro i u l L hi hu hl hL hs he
    have bs : σ (152 + i) ≤ 2 := hb.at (by omega) (zbd_book (by omega))
    have hz : ∀ s, zah σ s (i + 1) = zah σ s i + (if σ (152 + i) = s then 1 else 0) := fun s => rfl
    rw [zod_s]
    show 0 < _ ∧ (if L (σ (152 + i)) = 0 then 0 else zbk σ j (i + 1) (u1 L (σ (152 + i)) (L (σ (152 + i)) - 1))) * _ = _
    generalize σ (152 + i) = s at *
    have hLs := hL s (by omega)
    rw [← hLs.1]
    by_cases h0 : L s = 0
    · rw [if_pos (by rw [h0]; rfl), if_pos h0]
      exact ⟨by decide, by simp⟩
    · have hus : ¬ u * L s = 0 := fun z => (Nat.mul_eq_zero.mp z).elim (by omega) h0
      rw [if_neg hus, if_neg h0]
      have hsum : σ a + σ (a + 1) + σ (a + 2) - i = L 0 + L 1 + L 2 := by omega
      have hpos : 0 < L 0 + L 1 + L 2 := by
        rcases s3 (show s < 3 by omega) with rfl | rfl | rfl <;> omega
      rw [hsum, if_neg (by omega)]
      have l0 := (hL 0 (by omega)).1
      have l1 := (hL 1 (by omega)).1
      have l2 := (hL 2 (by omega)).1
      have c0 := bb 0 (by omega)
      have c1 := bb 1 (by omega)
      have c2 := bb 2 (by omega)
      refine ih (i + 1) (u * L s) (l * (L 0 + L 1 + L 2)) (u1 L s (L s - 1)) (by omega) (Nat.pos_of_ne_zero hus) (Nat.mul_pos hl hpos) (fun r hr => ?_) ?_ ?_
      · rw [hz r]
        have hLr := hL r hr
        by_cases e : r = s
        · subst e
          rw [u1_s, if_pos rfl]
          omega
        · rw [u1_n e, if_neg (fun z => e z.symm), Nat.add_zero]; exact hLr
      · rcases s3 (show s < 3 by omega) with rfl | rfl | rfl
        · rw [u1_s, u1_n (by omega), u1_n (by omega)]; omega
        · rw [u1_n (by omega), u1_s, u1_n (by omega)]; omega
        · rw [u1_n (by omega), u1_n (by omega), u1_s]; omega
      · have key : zord (u1 L s (L s - 1) 0) (u1 L s (L s - 1) 1) (u1 L s (L s - 1) 2) * (L 0 + L 1 + L 2) = zord (L 0) (L 1) (L 2) * L s := by
          rcases s3 (show s < 3 by omega) with rfl | rfl | rfl
          · rw [u1_s, u1_n (by omega), u1_n (by omega)]; exact zord_s0 _ (by omega) _ (by omega) _ (by omega) (by omega)
          · rw [u1_n (by omega), u1_s, u1_n (by omega)]; exact zord_s1 _ (by omega) _ (by omega) _ (by omega) (by omega)
          · rw [u1_n (by omega), u1_n (by omega), u1_s]; exact zord_s2 _ (by omega) _ (by omega) _ (by omega) (by omega)
        calc _ = (zord (u1 L s (L s - 1) 0) (u1 L s (L s - 1) 1) (u1 L s (L s - 1) 2) * (L 0 + L 1 + L 2)) * l := by ac_rfl
          _ = zord (L 0) (L 1) (L 2) * L s * l := by rw [key]
          _ = (zord (L 0) (L 1) (L 2) * l) * L s := by ac_rfl
          _ = _ := by rw [he]; ac_rfl
end CO5
