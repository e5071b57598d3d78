section CK4
variable {G : ZG} {d : Nat} {α β γ : AH} {post : Option Value → AH → Prop} {Γ : Nat → VC} {A : ZA} {T q : Nat} {b t : Int32}
theorem lN_sub' (x y : Nat) : lN x - lN y = lZ ((x : Int) - y) := by
  rw [← lZ_nat x, ← lZ_nat y]
  unfold lZ
  rw [← Int64.ofInt_sub]
theorem zown_f {f f' : Nat → Nat → Nat} {pay : Nat → Nat} {W : Nat} (hf : zfok f) (h : ∀ q s, q < 5832 → s < 3 → f q s = f' q s) : ∀ (n q : Nat), q < 5832 → zla q = n → zownN f pay W n q = zownN f' pay W n q := by
  intro n
  induction n with
  | zero => intro q _ _; rfl
  | succ n ih =>
    intro q hq hn
    show zsum _ q = zsum _ q
    refine zsum_cg (fun s hs hp => ?_)
    have ok := zd_ok hq hs hp
    have ok2 := zdw_ok ok.2.1 (hf (zd q s) s)
    rw [← h (zd q s) s ok.2.1 hs, ih _ ok2.1 (by rw [ok2.2.1]; omega)]
theorem zown_w' (h : SB A.1.1) {j W : Nat} (hj : j < 8) (hq : q < 5832) : zown (zwy A T (-1) 0 (A.1.1 (112 + j)) (nI (A.1.1 (120 + j))) (trow A.1.1 j)) (sp_pay A.1.1) W q = zown (zway A.1 T j) (sp_pay A.1.1) W q :=
  zown_f zwy_ok (fun q s hq hs => by unfold zwy; rw [zbc_n]; exact zwy_way h hj hs hq) _ q hq rfl
theorem zoq_zq (h : SB A.1.1) : zoq (zq A.1.1) = zord (A.1.1 6) (A.1.1 7) (A.1.1 8) := by
  have := (zq_ok h).2.2.1
  unfold zoq
  rw [this 0 (by omega), this 1 (by omega), this 2 (by omega)]
theorem k_mean {w x p : Int32} (hr : CRel Γ A α) (h : ∀ β, CRel Γ A β → frC α β → post (some (.long (sp_mean A.1 w x p))) β) : ZK G (d + 72) mX11_mean [.ref (G.1 + 0), .int w, .int x, .int p] α post := by
  have hw := hr.1
  have zq1 := zq_ok hr.sb
  have hO := zoq_zq hr.sb
  have hOl := zoq_le zq1.1
  have hOp := zoq_pos zq1.1
  have hpp := sp_pay_le hr.sb
  have l0 : (0 : Int32).toInt = 0 := rfl
  have l2 : (2 : Int32).toInt = 2 := rfl
  by_cases hz : 0 ≤ w ∧ w ≤ nI (A.1.1 0) - 1
  · obtain ⟨j, c, hj, hj8, rfl, hp, ho⟩ := hr.wk hz
    have e1 : (0 ≤ x ∧ x ≤ 2) ∧ (0 ≤ p ∧ p ≤ 1) → sp_mean A.1 (nI j) x p = lZ (zlow (if x = 0 then (zwk A.1 j : Int) else if x = 1 then (zak A.1 j : Int) else (zB A.1 : Int) - zwk A.1 j) (zoq (zq A.1.1)) p) := fun z => by
      unfold sp_mean
      rw [if_pos ⟨⟨hz, z.1⟩, z.2⟩, nI_clamp (by omega)]
    have hwl := zwork_lt (zway_ok (S := A.1) (T := A.1.1 5 + zrest A.1.1) (w := j)) hpp zq1.1
    have hal := zall_le (zway_ok (S := A.1) (T := A.1.1 5 + zrest A.1.1) (w := j)) _ _ zq1.1 rfl
    have hbl := zbest_lt (cn := zcn A.1 (A.1.1 5 + zrest A.1.1)) hpp zq1.1
    have ew : zwk A.1 j = zwork (zway A.1 (A.1.1 5 + zrest A.1.1) j) (sp_pay A.1.1) (zq A.1.1) := rfl
    have ea : zak A.1 j = zall (zway A.1 (A.1.1 5 + zrest A.1.1) j) (zq A.1.1) := rfl
    have eb : zB A.1 = zbest (zcn A.1 (A.1.1 5 + zrest A.1.1)) (sp_pay A.1.1) (zq A.1.1) := rfl
    refine ZK.of (n := 3) (by decide) (Nat.le_of_ble_eq_true rfl) rfl ?_
    refine Z_aload_n dX11_mean_0 rfl rfl ?_
    refine Z_iload_n dX11_mean_1 rfl rfl ?_
    refine Z_V1z (ci := 11) dX11_mean_2 to_X11_workerAt lk_X11_114 iv_X11_workerAt ⟨rfl, rfl⟩ (cw_i0 hw) (Nat.le_of_ble_eq_true rfl) ⟨rfl, rfl⟩ ⟨by decide, by decide⟩ ?_
    refine k_wAt1 hr hj hp ?_
    refine Z_astore (L' := [_, _, _, _, _, _, _]) dX11_mean_5 (by decide) rfl rfl ?_
    refine Z_aload dX11_mean_7 rfl ?_
    refine Z_ifnull dX11_mean_9 ?_
    refine Z_iload_n dX11_mean_12 rfl rfl ?_
    refine Z_if_lt (tgt := 28) dX11_mean_13 (by decide) (fun h13 => ?_) (fun h13 => ?_)
    · skip
      refine Z_ldc2 dX11_mean_28 kc_X11_156 ?_
      refine Z_lret dX11_mean_31 rfl ⟨by decide, by decide⟩ ?_
      have e : sp_mean A.1 (nI j) x p = zNO := if_neg (fun z => by first | exact dec_f h25 z.2 | (have z1 := z.1.2; simp only [Int32.lt_iff_toInt_lt, Int32.le_iff_toInt_le] at *; omega))
      rw [e] at h; exact h α hr frC.rf
    · skip
      refine Z_iload_n dX11_mean_16 rfl rfl ?_
      refine Z_iconst (v := 2) dX11_mean_17 (by decide) ?_
      refine Z_icmp_gt (tgt := 28) dX11_mean_18 (by decide) (fun h18 => ?_) (fun h18 => ?_)
      · skip
        refine Z_ldc2 dX11_mean_28 kc_X11_156 ?_
        refine Z_lret dX11_mean_31 rfl ⟨by decide, by decide⟩ ?_
        have e : sp_mean A.1 (nI j) x p = zNO := if_neg (fun z => by first | exact dec_f h25 z.2 | (have z1 := z.1.2; simp only [Int32.lt_iff_toInt_lt, Int32.le_iff_toInt_le] at *; omega))
        rw [e] at h; exact h α hr frC.rf
      · skip
        refine Z_iload_n dX11_mean_21 rfl rfl ?_
        refine Z_S1z dX11_mean_22 to_X11_isPart lk_X11_153 sc_X11_isPart (Nat.le_of_ble_eq_true rfl) ⟨rfl, rfl⟩ ⟨by decide, by decide⟩ ?_
        refine k_isPart ?_
        refine Z_if_ne (tgt := 32) dX11_mean_25 (by decide) (fun h25 => ?_) (fun h25 => ?_)
        · skip
          have hok : 0 ≤ x ∧ x ≤ 2 := by simp only [Int32.lt_iff_toInt_lt, Int32.le_iff_toInt_le] at *; omega
          rw [e1 ⟨hok, dec_t h25⟩] at h
          refine Z_aload_n dX11_mean_32 rfl rfl ?_
          refine Z_getR dX11_mean_33 cl_11 fl_X11_40_11 rfl (cw_i0 hw) (cw_p0_4 hw) ?_
          refine Z_aload_n dX11_mean_36 rfl rfl ?_
          refine Z_getR dX11_mean_37 cl_11 fl_X11_21_11 rfl (cw_i0 hw) (cw_p0_0 hw) ?_
          refine Z_iconst (v := -1) dX11_mean_40 (by decide) ?_
          refine Z_iconst (v := -1) dX11_mean_41 (by decide) ?_
          refine Z_V3z (ci := 0) dX11_mean_42 to_X0_look lk_X11_173 iv_X0_look ⟨rfl, rfl⟩ (cw_i23 hw) (Nat.le_of_ble_eq_true rfl) ⟨rfl, rfl⟩ ⟨by decide, by decide⟩ ?_
          refine k_lookN hr (Or.inl rfl) (fun β hw1 hc1 hf1 => ?_)
          have hw := hw1.1.1
          refine Z_aload_n dX11_mean_45 rfl rfl ?_
          refine Z_getR dX11_mean_46 cl_11 fl_X11_40_11 rfl (cw_i0 hw) (cw_p0_4 hw) ?_
          refine Z_V0z (ci := 0) dX11_mean_49 to_X0_forget lk_X11_177 iv_X0_forget ⟨rfl, rfl⟩ (cw_i23 hw) (Nat.le_of_ble_eq_true rfl) ⟨rfl, rfl⟩ ⟨by decide, by decide⟩ ?_
          refine k_forget hw1 hc1 (fun γ hw2 hc2 hm2 hf2 => ?_)
          have hw := hw2.1.1
          have hfc : frC α γ := (hf1.fc (Or.inl rfl)).fi hf2 (fun k => Fo.c (Or.inl rfl))
          refine Z_aload_n dX11_mean_52 rfl rfl ?_
          refine Z_getR dX11_mean_53 cl_11 fl_X11_40_11 rfl (cw_i0 hw) (cw_p0_4 hw) ?_
          refine Z_aload dX11_mean_56 rfl ?_
          refine Z_iload_n dX11_mean_58 rfl rfl ?_
          refine Z_iconst (v := 1) dX11_mean_59 (by decide) ?_
          refine Z_icmp_ne (tgt := 68) dX11_mean_60 (by decide) (fun h60 => ?_) (fun h60 => ?_)
          · skip
            refine Z_iconst (v := 0) dX11_mean_68 (by decide) ?_
            refine Z_aload_n dX11_mean_69 rfl rfl ?_
            refine Z_getR dX11_mean_70 cl_11 fl_X11_21_11 rfl (cw_i0 hw) (cw_p0_0 hw) ?_
            refine Z_getIv dX11_mean_73 cl_5 fl_X11_93_5 rfl (cw_i5 hw) hw2.1.2.2.2.1.2.1.2.1 ?_
            refine Z_V3z (ci := 0) dX11_mean_76 to_X0_ownSum lk_X11_180 iv_X0_ownSum ⟨rfl, rfl⟩ (cw_i23 hw) (Nat.le_of_ble_eq_true rfl) ⟨rfl, rfl⟩ ⟨by decide, by decide⟩ ?_
            rw [← zss_q hr.sb]
            first
              | (have hx1 : x = 1 := h60
                 refine k_ownSum (W := 7) (by decide) hw2 hc2 zq1.1 (by rw [zq1.2.1]; omega) (ho.fr hfc.z) (hm2 _) (fun δ hw3 hc3 hf3 => ?_)
                 rw [zown_w' hr.sb hj8 zq1.1, zown_all])
              | (refine k_ownSum (W := 0) (by decide) hw2 hc2 zq1.1 (by rw [zq1.2.1]; omega) (ho.fr hfc.z) (hm2 _) (fun δ hw3 hc3 hf3 => ?_)
                 rw [zown_w' hr.sb hj8 zq1.1, zown_work])
            have hw := hw3.1.1
            have hfc3 := hfc.fi hf3 (fun k => Fo.c (Or.inl rfl))
            refine Z_i2l dX11_mean_79 ?_
            refine Z_lstore (L' := [_, _, _, _, _, _, _]) dX11_mean_80 (by decide) rfl rfl ?_
            refine Z_iload_n dX11_mean_82 rfl rfl ?_
            refine Z_iconst (v := 2) dX11_mean_83 (by decide) ?_
            refine Z_icmp_ne (tgt := 107) dX11_mean_84 (by decide) (fun h84 => ?_) (fun h84 => ?_)
            · skip
              refine Z_lload dX11_mean_107 rfl ?_
              refine Z_aload_n dX11_mean_109 rfl rfl ?_
              refine Z_getR dX11_mean_110 cl_11 fl_X11_21_11 rfl (cw_i0 hw) (cw_p0_0 hw) ?_
              refine Z_getR dX11_mean_113 cl_5 fl_X11_51_5 rfl (cw_i5 hw) (cw_p5_0 hw) ?_
              refine Z_S1z dX11_mean_116 to_X11_ordersOf lk_X11_170 sc_X11_ordersOf (Nat.le_of_ble_eq_true rfl) ⟨rfl, rfl⟩ ⟨by decide, by decide⟩ ?_
              first
                | (refine k_ordB hw4.1 ?_)
                | (refine k_ordB hw3.1 ?_)
              rw [← hO]
              refine Z_i2l dX11_mean_119 ?_
              refine Z_iload_n dX11_mean_120 rfl rfl ?_
              refine Z_S3z dX11_mean_121 to_X11_lowest lk_X11_163 sc_X11_lowest (Nat.le_of_ble_eq_true rfl) ⟨rfl, rfl⟩ ⟨by decide, by decide⟩ ?_
              rw [nI_l (n := zoq (zq A.1.1)) (by omega)]
              first
                | (rw [show x = 2 from h84, if_neg (by decide), if_neg (by decide), eb, ew] at h
                   rw [nI_l (by omega), nI_l (by omega), lN_sub']
                   refine k_lowest (by omega) (by omega) (by omega) (by omega) ?_)
                | (have hx1 : x = 1 := h60
                   rw [hx1, if_neg (by decide), if_pos rfl, ea] at h
                   rw [nI_l (by omega), ← lZ_nat (zall _ _)]
                   refine k_lowest (by omega) (by omega) (by omega) (by omega) ?_)
                | (have hx0 : x = 0 := by
                     have n1 : ¬ x = 1 := h60
                     have n2 : ¬ x = 2 := h84
                     have c1 : (1 : Int32).toInt = 1 := rfl
                     rw [i_eq] at n1 n2
                     rw [i_eq]
                     simp only [Int32.lt_iff_toInt_lt, Int32.le_iff_toInt_le] at hok
                     omega
                   rw [hx0, if_pos rfl, ew] at h
                   rw [nI_l (by omega), ← lZ_nat (zwork _ _ _)]
                   refine k_lowest (by omega) (by omega) (by omega) (by omega) ?_)
              refine Z_lret dX11_mean_124 rfl ⟨by decide, by decide⟩ ?_
              first
                | exact h ε hw4.1 hfc4
                | exact h δ hw3.1 hfc3
                | (have hx1 : x = 1 := h60
                   exact absurd (hx1.symm.trans h84) (by decide))
            · skip
              refine Z_aload_n dX11_mean_87 rfl rfl ?_
              refine Z_getR dX11_mean_88 cl_11 fl_X11_40_11 rfl (cw_i0 hw) (cw_p0_4 hw) ?_
              refine Z_aload_n dX11_mean_91 rfl rfl ?_
              refine Z_getR dX11_mean_92 cl_11 fl_X11_21_11 rfl (cw_i0 hw) (cw_p0_0 hw) ?_
              refine Z_getIv dX11_mean_95 cl_5 fl_X11_93_5 rfl (cw_i5 hw) hw3.1.2.2.2.1.2.1.2.1 ?_
              refine Z_V1z (ci := 0) dX11_mean_98 to_X0_bestSum lk_X11_184 iv_X0_bestSum ⟨rfl, rfl⟩ (cw_i23 hw) (Nat.le_of_ble_eq_true rfl) ⟨rfl, rfl⟩ ⟨by decide, by decide⟩ ?_
              rw [← zss_q hr.sb]
              refine ZK.dep (show d + 22 + 49 = _ by omega) (k_bestSum hw3 hc3 zq1.1 (by rw [zq1.2.1]; omega) (fun ε hw4 hc4 hf4 => ?_))
              rw [zbc_n]
              have hw := hw4.1.1
              have hfc4 := hfc3.fi hf4 (fun k => Fk.c (Or.inl rfl))
              refine Z_i2l dX11_mean_101 ?_
              refine Z_lload dX11_mean_102 rfl ?_
              refine Z_lsub dX11_mean_104 ?_
              refine Z_lstore (L' := [_, _, _, _, _, _, _]) dX11_mean_105 (by decide) rfl rfl ?_
              refine Z_lload dX11_mean_107 rfl ?_
              refine Z_aload_n dX11_mean_109 rfl rfl ?_
              refine Z_getR dX11_mean_110 cl_11 fl_X11_21_11 rfl (cw_i0 hw) (cw_p0_0 hw) ?_
              refine Z_getR dX11_mean_113 cl_5 fl_X11_51_5 rfl (cw_i5 hw) (cw_p5_0 hw) ?_
              refine Z_S1z dX11_mean_116 to_X11_ordersOf lk_X11_170 sc_X11_ordersOf (Nat.le_of_ble_eq_true rfl) ⟨rfl, rfl⟩ ⟨by decide, by decide⟩ ?_
              first
                | (refine k_ordB hw4.1 ?_)
                | (refine k_ordB hw3.1 ?_)
              rw [← hO]
              refine Z_i2l dX11_mean_119 ?_
              refine Z_iload_n dX11_mean_120 rfl rfl ?_
              refine Z_S3z dX11_mean_121 to_X11_lowest lk_X11_163 sc_X11_lowest (Nat.le_of_ble_eq_true rfl) ⟨rfl, rfl⟩ ⟨by decide, by decide⟩ ?_
              rw [nI_l (n := zoq (zq A.1.1)) (by omega)]
              first
                | (rw [show x = 2 from h84, if_neg (by decide), if_neg (by decide), eb, ew] at h
                   rw [nI_l (by omega), nI_l (by omega), lN_sub']
                   refine k_lowest (by omega) (by omega) (by omega) (by omega) ?_)
                | (have hx1 : x = 1 := h60
                   rw [hx1, if_neg (by decide), if_pos rfl, ea] at h
                   rw [nI_l (by omega), ← lZ_nat (zall _ _)]
                   refine k_lowest (by omega) (by omega) (by omega) (by omega) ?_)
                | (have hx0 : x = 0 := by
                     have n1 : ¬ x = 1 := h60
                     have n2 : ¬ x = 2 := h84
                     have c1 : (1 : Int32).toInt = 1 := rfl
                     rw [i_eq] at n1 n2
                     rw [i_eq]
                     simp only [Int32.lt_iff_toInt_lt, Int32.le_iff_toInt_le] at hok
                     omega
                   rw [hx0, if_pos rfl, ew] at h
                   rw [nI_l (by omega), ← lZ_nat (zwork _ _ _)]
                   refine k_lowest (by omega) (by omega) (by omega) (by omega) ?_)
              refine Z_lret dX11_mean_124 rfl ⟨by decide, by decide⟩ ?_
              first
                | exact h ε hw4.1 hfc4
                | exact h δ hw3.1 hfc3
                | (have hx1 : x = 1 := h60
                   exact absurd (hx1.symm.trans h84) (by decide))
          · skip
            refine Z_bipush (v := 7) dX11_mean_63 (by decide) ?_
            refine Z_goto (tgt := 69) dX11_mean_65 (by decide) ?_
            refine Z_aload_n dX11_mean_69 rfl rfl ?_
            refine Z_getR dX11_mean_70 cl_11 fl_X11_21_11 rfl (cw_i0 hw) (cw_p0_0 hw) ?_
            refine Z_getIv dX11_mean_73 cl_5 fl_X11_93_5 rfl (cw_i5 hw) hw2.1.2.2.2.1.2.1.2.1 ?_
            refine Z_V3z (ci := 0) dX11_mean_76 to_X0_ownSum lk_X11_180 iv_X0_ownSum ⟨rfl, rfl⟩ (cw_i23 hw) (Nat.le_of_ble_eq_true rfl) ⟨rfl, rfl⟩ ⟨by decide, by decide⟩ ?_
            rw [← zss_q hr.sb]
            first
              | (have hx1 : x = 1 := h60
                 refine k_ownSum (W := 7) (by decide) hw2 hc2 zq1.1 (by rw [zq1.2.1]; omega) (ho.fr hfc.z) (hm2 _) (fun δ hw3 hc3 hf3 => ?_)
                 rw [zown_w' hr.sb hj8 zq1.1, zown_all])
              | (refine k_ownSum (W := 0) (by decide) hw2 hc2 zq1.1 (by rw [zq1.2.1]; omega) (ho.fr hfc.z) (hm2 _) (fun δ hw3 hc3 hf3 => ?_)
                 rw [zown_w' hr.sb hj8 zq1.1, zown_work])
            have hw := hw3.1.1
            have hfc3 := hfc.fi hf3 (fun k => Fo.c (Or.inl rfl))
            refine Z_i2l dX11_mean_79 ?_
            refine Z_lstore (L' := [_, _, _, _, _, _, _]) dX11_mean_80 (by decide) rfl rfl ?_
            refine Z_iload_n dX11_mean_82 rfl rfl ?_
            refine Z_iconst (v := 2) dX11_mean_83 (by decide) ?_
            refine Z_icmp_ne (tgt := 107) dX11_mean_84 (by decide) (fun h84 => ?_) (fun h84 => ?_)
            · skip
              refine Z_lload dX11_mean_107 rfl ?_
              refine Z_aload_n dX11_mean_109 rfl rfl ?_
              refine Z_getR dX11_mean_110 cl_11 fl_X11_21_11 rfl (cw_i0 hw) (cw_p0_0 hw) ?_
              refine Z_getR dX11_mean_113 cl_5 fl_X11_51_5 rfl (cw_i5 hw) (cw_p5_0 hw) ?_
              refine Z_S1z dX11_mean_116 to_X11_ordersOf lk_X11_170 sc_X11_ordersOf (Nat.le_of_ble_eq_true rfl) ⟨rfl, rfl⟩ ⟨by decide, by decide⟩ ?_
              first
                | (refine k_ordB hw4.1 ?_)
                | (refine k_ordB hw3.1 ?_)
              rw [← hO]
              refine Z_i2l dX11_mean_119 ?_
              refine Z_iload_n dX11_mean_120 rfl rfl ?_
              refine Z_S3z dX11_mean_121 to_X11_lowest lk_X11_163 sc_X11_lowest (Nat.le_of_ble_eq_true rfl) ⟨rfl, rfl⟩ ⟨by decide, by decide⟩ ?_
              rw [nI_l (n := zoq (zq A.1.1)) (by omega)]
              first
                | (rw [show x = 2 from h84, if_neg (by decide), if_neg (by decide), eb, ew] at h
                   rw [nI_l (by omega), nI_l (by omega), lN_sub']
                   refine k_lowest (by omega) (by omega) (by omega) (by omega) ?_)
                | (have hx1 : x = 1 := h60
                   rw [hx1, if_neg (by decide), if_pos rfl, ea] at h
                   rw [nI_l (by omega), ← lZ_nat (zall _ _)]
                   refine k_lowest (by omega) (by omega) (by omega) (by omega) ?_)
                | (have hx0 : x = 0 := by
                     have n1 : ¬ x = 1 := h60
                     have n2 : ¬ x = 2 := h84
                     have c1 : (1 : Int32).toInt = 1 := rfl
                     rw [i_eq] at n1 n2
                     rw [i_eq]
                     simp only [Int32.lt_iff_toInt_lt, Int32.le_iff_toInt_le] at hok
                     omega
                   rw [hx0, if_pos rfl, ew] at h
                   rw [nI_l (by omega), ← lZ_nat (zwork _ _ _)]
                   refine k_lowest (by omega) (by omega) (by omega) (by omega) ?_)
              refine Z_lret dX11_mean_124 rfl ⟨by decide, by decide⟩ ?_
              first
                | exact h ε hw4.1 hfc4
                | exact h δ hw3.1 hfc3
                | (have hx1 : x = 1 := h60
                   exact absurd (hx1.symm.trans h84) (by decide))
            · skip
              refine Z_aload_n dX11_mean_87 rfl rfl ?_
              refine Z_getR dX11_mean_88 cl_11 fl_X11_40_11 rfl (cw_i0 hw) (cw_p0_4 hw) ?_
              refine Z_aload_n dX11_mean_91 rfl rfl ?_
              refine Z_getR dX11_mean_92 cl_11 fl_X11_21_11 rfl (cw_i0 hw) (cw_p0_0 hw) ?_
              refine Z_getIv dX11_mean_95 cl_5 fl_X11_93_5 rfl (cw_i5 hw) hw3.1.2.2.2.1.2.1.2.1 ?_
              refine Z_V1z (ci := 0) dX11_mean_98 to_X0_bestSum lk_X11_184 iv_X0_bestSum ⟨rfl, rfl⟩ (cw_i23 hw) (Nat.le_of_ble_eq_true rfl) ⟨rfl, rfl⟩ ⟨by decide, by decide⟩ ?_
              rw [← zss_q hr.sb]
              refine ZK.dep (show d + 22 + 49 = _ by omega) (k_bestSum hw3 hc3 zq1.1 (by rw [zq1.2.1]; omega) (fun ε hw4 hc4 hf4 => ?_))
              rw [zbc_n]
              have hw := hw4.1.1
              have hfc4 := hfc3.fi hf4 (fun k => Fk.c (Or.inl rfl))
              refine Z_i2l dX11_mean_101 ?_
              refine Z_lload dX11_mean_102 rfl ?_
              refine Z_lsub dX11_mean_104 ?_
              refine Z_lstore (L' := [_, _, _, _, _, _, _]) dX11_mean_105 (by decide) rfl rfl ?_
              refine Z_lload dX11_mean_107 rfl ?_
              refine Z_aload_n dX11_mean_109 rfl rfl ?_
              refine Z_getR dX11_mean_110 cl_11 fl_X11_21_11 rfl (cw_i0 hw) (cw_p0_0 hw) ?_
              refine Z_getR dX11_mean_113 cl_5 fl_X11_51_5 rfl (cw_i5 hw) (cw_p5_0 hw) ?_
              refine Z_S1z dX11_mean_116 to_X11_ordersOf lk_X11_170 sc_X11_ordersOf (Nat.le_of_ble_eq_true rfl) ⟨rfl, rfl⟩ ⟨by decide, by decide⟩ ?_
              first
                | (refine k_ordB hw4.1 ?_)
                | (refine k_ordB hw3.1 ?_)
              rw [← hO]
              refine Z_i2l dX11_mean_119 ?_
              refine Z_iload_n dX11_mean_120 rfl rfl ?_
              refine Z_S3z dX11_mean_121 to_X11_lowest lk_X11_163 sc_X11_lowest (Nat.le_of_ble_eq_true rfl) ⟨rfl, rfl⟩ ⟨by decide, by decide⟩ ?_
              rw [nI_l (n := zoq (zq A.1.1)) (by omega)]
              first
                | (rw [show x = 2 from h84, if_neg (by decide), if_neg (by decide), eb, ew] at h
                   rw [nI_l (by omega), nI_l (by omega), lN_sub']
                   refine k_lowest (by omega) (by omega) (by omega) (by omega) ?_)
                | (have hx1 : x = 1 := h60
                   rw [hx1, if_neg (by decide), if_pos rfl, ea] at h
                   rw [nI_l (by omega), ← lZ_nat (zall _ _)]
                   refine k_lowest (by omega) (by omega) (by omega) (by omega) ?_)
                | (have hx0 : x = 0 := by
                     have n1 : ¬ x = 1 := h60
                     have n2 : ¬ x = 2 := h84
                     have c1 : (1 : Int32).toInt = 1 := rfl
                     rw [i_eq] at n1 n2
                     rw [i_eq]
                     simp only [Int32.lt_iff_toInt_lt, Int32.le_iff_toInt_le] at hok
                     omega
                   rw [hx0, if_pos rfl, ew] at h
                   rw [nI_l (by omega), ← lZ_nat (zwork _ _ _)]
                   refine k_lowest (by omega) (by omega) (by omega) (by omega) ?_)
              refine Z_lret dX11_mean_124 rfl ⟨by decide, by decide⟩ ?_
              first
                | exact h ε hw4.1 hfc4
                | exact h δ hw3.1 hfc3
                | (have hx1 : x = 1 := h60
                   exact absurd (hx1.symm.trans h84) (by decide))
        · skip
          refine Z_ldc2 dX11_mean_28 kc_X11_156 ?_
          refine Z_lret dX11_mean_31 rfl ⟨by decide, by decide⟩ ?_
          have e : sp_mean A.1 (nI j) x p = zNO := if_neg (fun z => by first | exact dec_f h25 z.2 | (have z1 := z.1.2; simp only [Int32.lt_iff_toInt_lt, Int32.le_iff_toInt_le] at *; omega))
          rw [e] at h; exact h α hr frC.rf
  · have e1 : sp_mean A.1 w x p = zNO := if_neg (fun z => hz z.1.1)
    rw [e1] at h
    refine ZK.of (n := 3) (by decide) (Nat.le_of_ble_eq_true rfl) rfl ?_
    refine Z_aload_n dX11_mean_0 rfl rfl ?_
    refine Z_iload_n dX11_mean_1 rfl rfl ?_
    refine Z_V1z (ci := 11) dX11_mean_2 to_X11_workerAt lk_X11_114 iv_X11_workerAt ⟨rfl, rfl⟩ (cw_i0 hw) (Nat.le_of_ble_eq_true rfl) ⟨rfl, rfl⟩ ⟨by decide, by decide⟩ ?_
    refine k_wAt0 hr hz ?_
    refine Z_astoreN (L' := [_, _, _, _, _, _, _]) dX11_mean_5 (by decide) rfl rfl ?_
    refine Z_aloadN dX11_mean_7 rfl ?_
    refine Z_ifnullN (tgt := 28) dX11_mean_9 (by decide) ?_
    refine Z_ldc2 dX11_mean_28 kc_X11_156 ?_
    refine Z_lret dX11_mean_31 rfl ⟨by decide, by decide⟩ ?_
    exact h α hr frC.rf
theorem k_pass {x p : Int32} (hr : CRel Γ A α) (h : ∀ β, CRel Γ A β → frC α β → post (some (.long (sp_pass A.1 x p))) β) : ZK G (d + 52) mX11_pass [.ref (G.1 + 0), .int x, .int p] α post := by
  have hw := hr.1
  have zq1 := zq_ok hr.sb
  have hO := zoq_zq hr.sb
  have hOl := zoq_le zq1.1
  have hOp := zoq_pos zq1.1
  have hpp := sp_pay_le hr.sb
  have hbl := zbest_lt (cn := zcn A.1 (A.1.1 5 + zrest A.1.1)) hpp zq1.1
  have eb : zB A.1 = zbest (zcn A.1 (A.1.1 5 + zrest A.1.1)) (sp_pay A.1.1) (zq A.1.1) := rfl
  have eo : zO A.1 = zoq (zq A.1.1) := hO.symm
  have hla := zla_le zq1.1
  refine ZK.of (n := 8) (by decide) (Nat.le_of_ble_eq_true rfl) rfl ?_
  refine Z_iload_n dX11_pass_0 rfl rfl ?_
  refine Z_S1z dX11_pass_1 to_X11_isSort lk_X11_118 sc_X11_isSort (Nat.le_of_ble_eq_true rfl) ⟨rfl, rfl⟩ ⟨by decide, by decide⟩ ?_
  refine k_isSort ?_
  refine Z_if_eq (tgt := 26) dX11_pass_4 (by decide) (fun h4 => ?_) (fun h4 => ?_)
  · skip
    refine Z_ldc2 dX11_pass_26 kc_X11_156 ?_
    refine Z_lret dX11_pass_29 rfl ⟨by decide, by decide⟩ ?_
    first
      | (have e : sp_pass A.1 x p = zNO := if_neg (fun z => by first | exact dec_f h4 z.1.1 | exact dec_f h11 z.1.2)
         rw [e] at h; exact h α hr frC.rf)
      | (have e : sp_pass A.1 (nI s) p = zNO := if_neg (fun z => z.2 (by rw [nI_clamp (by omega)]; exact (nI_eq (b := 0) (by omega) (by omega)).mp h23))
         rw [e] at h; exact h α hr frC.rf)
  · skip
    refine Z_iload_n dX11_pass_7 rfl rfl ?_
    refine Z_S1z dX11_pass_8 to_X11_isPart lk_X11_153 sc_X11_isPart (Nat.le_of_ble_eq_true rfl) ⟨rfl, rfl⟩ ⟨by decide, by decide⟩ ?_
    refine k_isPart ?_
    refine Z_if_eq (tgt := 26) dX11_pass_11 (by decide) (fun h11 => ?_) (fun h11 => ?_)
    · skip
      refine Z_ldc2 dX11_pass_26 kc_X11_156 ?_
      refine Z_lret dX11_pass_29 rfl ⟨by decide, by decide⟩ ?_
      first
        | (have e : sp_pass A.1 x p = zNO := if_neg (fun z => by first | exact dec_f h4 z.1.1 | exact dec_f h11 z.1.2)
           rw [e] at h; exact h α hr frC.rf)
        | (have e : sp_pass A.1 (nI s) p = zNO := if_neg (fun z => z.2 (by rw [nI_clamp (by omega)]; exact (nI_eq (b := 0) (by omega) (by omega)).mp h23))
           rw [e] at h; exact h α hr frC.rf)
    · skip
      obtain ⟨s, hs, rfl⟩ := okS.nI (dec_t h4)
      have bb := zsb hr.sb hs
      have hbg := hr.2.2.2.1.1.1 s (by omega)
      refine Z_aload_n dX11_pass_14 rfl rfl ?_
      refine Z_getR dX11_pass_15 cl_11 fl_X11_21_11 rfl (cw_i0 hw) (cw_p0_0 hw) ?_
      refine Z_getR dX11_pass_18 cl_5 fl_X11_51_5 rfl (cw_i5 hw) (cw_p5_0 hw) ?_
      refine Z_iload_n dX11_pass_21 rfl rfl ?_
      refine Z_ialdv dX11_pass_22 (cw_i6 hw) (zix_nI (m := s) (by omega) (by decide)) hbg ?_
      refine Z_if_ne (tgt := 30) dX11_pass_23 (by decide) (fun h23 => ?_) (fun h23 => ?_)
      · skip
        have hp0 : ¬ A.1.1 (6 + s) = 0 := fun z => h23 (by rw [z]; rfl)
        have hps : 0 < zl (zq A.1.1) s := by rw [zq1.2.2.1 s (by omega)]; omega
        have ok := zd_ok zq1.1 (show s < 3 by omega) hps
        have hT : zla (zq A.1.1) = zrest A.1.1 := zq1.2.1
        have hdl := zoq_le ok.2.1
        have hdp := zoq_pos ok.2.1
        have hnl : (zOn (zbest (zcn A.1 (A.1.1 5 + zrest A.1.1)) (sp_pay A.1.1)) (zcn A.1 (A.1.1 5 + zrest A.1.1)) (sp_pay A.1.1) (zd (zq A.1.1) s) s).1 ≤ 299675376 := zfold_lt hpp ok.2.1 3 (by omega)
        have e : sp_pass A.1 (nI s) p = lZ (zlow ((zB A.1 : Int) * zoq (zd (zq A.1.1) s) - ((zOn (zbest (zcn A.1 (A.1.1 5 + zrest A.1.1)) (sp_pay A.1.1)) (zcn A.1 (A.1.1 5 + zrest A.1.1)) (sp_pay A.1.1) (zd (zq A.1.1) s) s).1 : Int) * zO A.1) (zO A.1 * zoq (zd (zq A.1.1) s)) p) := by
          unfold sp_pass
          rw [if_pos ⟨⟨dec_t h4, dec_t h11⟩, by rw [nI_clamp (by omega)]; exact hp0⟩, nI_clamp (by omega)]
        rw [e, eb, eo] at h
        refine Z_aload_n dX11_pass_30 rfl rfl ?_
        refine Z_getR dX11_pass_31 cl_11 fl_X11_40_11 rfl (cw_i0 hw) (cw_p0_4 hw) ?_
        refine Z_aload_n dX11_pass_34 rfl rfl ?_
        refine Z_getR dX11_pass_35 cl_11 fl_X11_21_11 rfl (cw_i0 hw) (cw_p0_0 hw) ?_
        refine Z_iconst (v := -1) dX11_pass_38 (by decide) ?_
        refine Z_iconst (v := -1) dX11_pass_39 (by decide) ?_
        refine Z_V3z (ci := 0) dX11_pass_40 to_X0_look lk_X11_173 iv_X0_look ⟨rfl, rfl⟩ (cw_i23 hw) (Nat.le_of_ble_eq_true rfl) ⟨rfl, rfl⟩ ⟨by decide, by decide⟩ ?_
        refine k_lookN hr (Or.inl rfl) (fun β hw1 hc1 hf1 => ?_)
        have hw := hw1.1.1
        refine Z_aload_n dX11_pass_43 rfl rfl ?_
        refine Z_getR dX11_pass_44 cl_11 fl_X11_40_11 rfl (cw_i0 hw) (cw_p0_4 hw) ?_
        refine Z_aload_n dX11_pass_47 rfl rfl ?_
        refine Z_getR dX11_pass_48 cl_11 fl_X11_21_11 rfl (cw_i0 hw) (cw_p0_0 hw) ?_
        refine Z_getIv dX11_pass_51 cl_5 fl_X11_93_5 rfl (cw_i5 hw) hw1.1.2.2.2.1.2.1.2.1 ?_
        refine Z_V1z (ci := 0) dX11_pass_54 to_X0_bestSum lk_X11_184 iv_X0_bestSum ⟨rfl, rfl⟩ (cw_i23 hw) (Nat.le_of_ble_eq_true rfl) ⟨rfl, rfl⟩ ⟨by decide, by decide⟩ ?_
        rw [← zss_q hr.sb]
        refine ZK.dep (show d + 2 + 49 = _ by omega) (k_bestSum hw1 hc1 zq1.1 (by rw [zq1.2.1]; omega) (fun γ hw2 hc2 hf2 => ?_))
        rw [zbc_n]
        have hw := hw2.1.1
        refine Z_i2l dX11_pass_57 ?_
        refine Z_lstore_n (L' := [_, _, _, _, _, _, _, _, _, _, _]) dX11_pass_58 rfl (by decide) rfl rfl ?_
        refine Z_aload_n dX11_pass_59 rfl rfl ?_
        refine Z_getR dX11_pass_60 cl_11 fl_X11_40_11 rfl (cw_i0 hw) (cw_p0_4 hw) ?_
        refine Z_iload_n dX11_pass_63 rfl rfl ?_
        refine Z_V1z (ci := 0) dX11_pass_64 to_X0_take lk_X11_187 iv_X0_take ⟨rfl, rfl⟩ (cw_i23 hw) (Nat.le_of_ble_eq_true rfl) ⟨rfl, rfl⟩ ⟨by decide, by decide⟩ ?_
        refine k_take hw2 hc2 zq1.1 (by omega) hps (fun δ hw3 hc3 hf3 => ?_)
        have hw := hw3.1.1
        refine Z_aload_n dX11_pass_67 rfl rfl ?_
        refine Z_getR dX11_pass_68 cl_11 fl_X11_40_11 rfl (cw_i0 hw) (cw_p0_4 hw) ?_
        refine Z_iload_n dX11_pass_71 rfl rfl ?_
        refine Z_aload_n dX11_pass_72 rfl rfl ?_
        refine Z_getR dX11_pass_73 cl_11 fl_X11_21_11 rfl (cw_i0 hw) (cw_p0_0 hw) ?_
        refine Z_getIv dX11_pass_76 cl_5 fl_X11_93_5 rfl (cw_i5 hw) hw3.1.2.2.2.1.2.1.2.1 ?_
        refine Z_V2z (ci := 0) dX11_pass_79 to_X0_bestOn lk_X11_204 iv_X0_bestOn ⟨rfl, rfl⟩ (cw_i23 hw) (Nat.le_of_ble_eq_true rfl) ⟨rfl, rfl⟩ ⟨by decide, by decide⟩ ?_
        rw [← zss_q hr.sb, ← cgs_zd zq1.1 (show s < 3 by omega) hps]
        refine k_bestOn hw3 hc3 ok.2.1 (by omega) (by omega) (by omega) (fun ε hw4 hc4 hf4 => ?_)
        rw [zbc_n]
        have hw := hw4.1.1
        refine Z_i2l dX11_pass_82 ?_
        refine Z_lstore (L' := [_, _, _, _, _, _, _, _, _, _, _]) dX11_pass_83 (by decide) rfl rfl ?_
        refine Z_aload_n dX11_pass_85 rfl rfl ?_
        refine Z_getR dX11_pass_86 cl_11 fl_X11_21_11 rfl (cw_i0 hw) (cw_p0_0 hw) ?_
        refine Z_getR dX11_pass_89 cl_5 fl_X11_51_5 rfl (cw_i5 hw) (cw_p5_0 hw) ?_
        refine Z_S1z dX11_pass_92 to_X11_ordersOf lk_X11_170 sc_X11_ordersOf (Nat.le_of_ble_eq_true rfl) ⟨rfl, rfl⟩ ⟨by decide, by decide⟩ ?_
        refine k_ordB hw4.1 ?_
        rw [← hO]
        refine Z_i2l dX11_pass_95 ?_
        refine Z_lstore (L' := [_, _, _, _, _, _, _, _, _, _, _]) dX11_pass_96 (by decide) rfl rfl ?_
        refine Z_aload_n dX11_pass_98 rfl rfl ?_
        refine Z_getR dX11_pass_99 cl_11 fl_X11_40_11 rfl (cw_i0 hw) (cw_p0_4 hw) ?_
        refine Z_V0z (ci := 0) dX11_pass_102 to_X0_ways lk_X11_200 iv_X0_ways ⟨rfl, rfl⟩ (cw_i23 hw) (Nat.le_of_ble_eq_true rfl) ⟨rfl, rfl⟩ ⟨by decide, by decide⟩ ?_
        refine k_ways hw4 hc4 ok.2.1 ?_
        refine Z_i2l dX11_pass_105 ?_
        refine Z_lstore (L' := [_, _, _, _, _, _, _, _, _, _, _]) dX11_pass_106 (by decide) rfl rfl ?_
        refine Z_lload_n dX11_pass_108 rfl rfl ?_
        refine Z_lload dX11_pass_109 rfl ?_
        refine Z_lmul dX11_pass_111 ?_
        refine Z_lload dX11_pass_112 rfl ?_
        refine Z_lload dX11_pass_114 rfl ?_
        refine Z_lmul dX11_pass_116 ?_
        refine Z_lsub dX11_pass_117 ?_
        refine Z_lload dX11_pass_118 rfl ?_
        refine Z_lload dX11_pass_120 rfl ?_
        refine Z_lmul dX11_pass_122 ?_
        refine Z_iload_n dX11_pass_123 rfl rfl ?_
        refine Z_S3z dX11_pass_124 to_X11_lowest lk_X11_163 sc_X11_lowest (Nat.le_of_ble_eq_true rfl) ⟨rfl, rfl⟩ ⟨by decide, by decide⟩ ?_
        rw [nI_l (by omega), nI_l (by omega), nI_l (by omega), nI_l (by omega), lN_mul, lN_mul, lN_mul, lN_sub']
        have m1 := Nat.mul_le_mul hbl hdl
        have m2 := Nat.mul_le_mul hnl hOl
        have m3 := Nat.mul_le_mul hOl hdl
        have m4 := Nat.mul_pos hOp hdp
        refine k_lowest (by omega) (by omega) (by omega) m4 ?_
        refine Z_lret dX11_pass_127 rfl ⟨by decide, by decide⟩ ?_
        have := h ε hw4.1 ((((hf1.fc (Or.inl rfl)).fi hf2 (fun k => Fk.c (Or.inl rfl))).fi hf3 (fun k => Ft.c (Or.inl rfl))).fi hf4 (fun k => Fk.c (Or.inl rfl)))
        simpa only [Int.natCast_mul] using this
      · skip
        refine Z_ldc2 dX11_pass_26 kc_X11_156 ?_
        refine Z_lret dX11_pass_29 rfl ⟨by decide, by decide⟩ ?_
        first
          | (have e : sp_pass A.1 x p = zNO := if_neg (fun z => by first | exact dec_f h4 z.1.1 | exact dec_f h11 z.1.2)
             rw [e] at h; exact h α hr frC.rf)
          | (have e : sp_pass A.1 (nI s) p = zNO := if_neg (fun z => z.2 (by rw [nI_clamp (by omega)]; exact (nI_eq (b := 0) (by omega) (by omega)).mp h23))
             rw [e] at h; exact h α hr frC.rf)
end CK4
