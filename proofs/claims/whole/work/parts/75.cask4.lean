section CK5
variable {G : ZG} {d : Nat} {α β γ : AH} {post : Option Value → AH → Prop} {Γ : Nat → VC} {A : ZA} {T q : Nat} {b t : Int32}
theorem zB_up {s m : Nat} (hs : s < 3) : zB (u1 A.1.1 (6 + s) m, A.1.2) = zbest (zcn A.1 (A.1.1 5 + zrest (u1 A.1.1 (6 + s) m))) (sp_pay A.1.1) (zq (u1 A.1.1 (6 + s) m)) := by
  have e5 : u1 A.1.1 (6 + s) m 5 = A.1.1 5 := u1_n (by omega)
  have e4 : u1 A.1.1 (6 + s) m 4 = A.1.1 4 := u1_n (by omega)
  have ep : sp_pay (u1 A.1.1 (6 + s) m) = sp_pay A.1.1 := by
    funext k
    unfold sp_pay
    rw [e4, u1_n (by omega)]
  have ec : ∀ T, zcn (u1 A.1.1 (6 + s) m, A.1.2) T = zcn A.1 T := fun T => by
    funext s' l r g k
    unfold zcn
    rw [show (u1 A.1.1 (6 + s) m, A.1.2).1 4 = A.1.1 4 from e4]
  unfold zB
  rw [ec, show (u1 A.1.1 (6 + s) m, A.1.2).1 = u1 A.1.1 (6 + s) m from rfl, ep, e5]
theorem k_right {x p : Int32} (hr : CRel Γ A α) (h : ∀ β, CRel Γ A β → frC α β → post (some (.long (sp_right A.1 x p))) β) : ZK G (d + 50) mX11_right [.ref (G.1 + 0), .int x, .int p] α post := by
  have hw := hr.1
  have zq1 := zq_ok hr.sb
  have hO := zoq_zq hr.sb
  have hOl := zoq_le zq1.1
  have hOp := zoq_pos zq1.1
  have hpp := sp_pay_le hr.sb
  have hbl := zbest_lt (cn := zcn A.1 (A.1.1 5 + zrest A.1.1)) hpp zq1.1
  have eb : zB A.1 = zbest (zcn A.1 (A.1.1 5 + zrest A.1.1)) (sp_pay A.1.1) (zq A.1.1) := rfl
  have eo : zO A.1 = zoq (zq A.1.1) := hO.symm
  refine ZK.of (n := 2) (by decide) (Nat.le_of_ble_eq_true rfl) rfl ?_
  refine Z_iload_n dX11_right_0 rfl rfl ?_
  refine Z_S1z dX11_right_1 to_X11_isSort lk_X11_118 sc_X11_isSort (Nat.le_of_ble_eq_true rfl) ⟨rfl, rfl⟩ ⟨by decide, by decide⟩ ?_
  refine k_isSort ?_
  refine Z_if_eq (tgt := 26) dX11_right_4 (by decide) (fun h4 => ?_) (fun h4 => ?_)
  · skip
    refine Z_ldc2 dX11_right_26 kc_X11_156 ?_
    refine Z_lret dX11_right_29 rfl ⟨by decide, by decide⟩ ?_
    first
      | (have e : sp_right A.1 x p = zNO := if_neg (fun z => by first | exact dec_f h4 z.1.1 | exact dec_f h11 z.1.2)
         rw [e] at h; exact h α hr frC.rf)
      | (have e : sp_right A.1 (nI s) p = zNO := if_neg (fun z => z.2 (by rw [nI_clamp (by omega)]; exact (nI_eq (b := 0) (by omega) (by omega)).mp h23))
         rw [e] at h; exact h α hr frC.rf)
  · skip
    refine Z_iload_n dX11_right_7 rfl rfl ?_
    refine Z_S1z dX11_right_8 to_X11_isPart lk_X11_153 sc_X11_isPart (Nat.le_of_ble_eq_true rfl) ⟨rfl, rfl⟩ ⟨by decide, by decide⟩ ?_
    refine k_isPart ?_
    refine Z_if_eq (tgt := 26) dX11_right_11 (by decide) (fun h11 => ?_) (fun h11 => ?_)
    · skip
      refine Z_ldc2 dX11_right_26 kc_X11_156 ?_
      refine Z_lret dX11_right_29 rfl ⟨by decide, by decide⟩ ?_
      first
        | (have e : sp_right A.1 x p = zNO := if_neg (fun z => by first | exact dec_f h4 z.1.1 | exact dec_f h11 z.1.2)
           rw [e] at h; exact h α hr frC.rf)
        | (have e : sp_right A.1 (nI s) p = zNO := if_neg (fun z => z.2 (by rw [nI_clamp (by omega)]; exact (nI_eq (b := 0) (by omega) (by omega)).mp h23))
           rw [e] at h; exact h α hr frC.rf)
    · skip
      obtain ⟨s, hs, rfl⟩ := okS.nI (dec_t h4)
      have bb := zsb hr.sb hs
      have hbg := hr.2.2.2.1.1.1 s (by omega)
      refine Z_aload_n dX11_right_14 rfl rfl ?_
      refine Z_getR dX11_right_15 cl_11 fl_X11_21_11 rfl (cw_i0 hw) (cw_p0_0 hw) ?_
      refine Z_getR dX11_right_18 cl_5 fl_X11_51_5 rfl (cw_i5 hw) (cw_p5_0 hw) ?_
      refine Z_iload_n dX11_right_21 rfl rfl ?_
      refine Z_ialdv dX11_right_22 (cw_i6 hw) (zix_nI (m := s) (by omega) (by decide)) hbg ?_
      refine Z_if_ne (tgt := 30) dX11_right_23 (by decide) (fun h23 => ?_) (fun h23 => ?_)
      · skip
        have hp0 : ¬ A.1.1 (6 + s) = 0 := fun z => h23 (by rw [z]; rfl)
        have e : sp_right A.1 (nI s) p = lZ (zlow ((zB A.1 : Int) - zRi A.1 s) (zO A.1) p) := by
          unfold sp_right
          rw [if_pos ⟨⟨dec_t h4, dec_t h11⟩, by rw [nI_clamp (by omega)]; exact hp0⟩, nI_clamp (by omega)]
        rw [e, eb, eo, show zRi A.1 s = zbr (zcn A.1 (A.1.1 5 + zrest A.1.1)) (sp_pay A.1.1) s (zq A.1.1) from rfl] at h
        refine Z_aload_n dX11_right_30 rfl rfl ?_
        refine Z_getR dX11_right_31 cl_11 fl_X11_40_11 rfl (cw_i0 hw) (cw_p0_4 hw) ?_
        refine Z_aload_n dX11_right_34 rfl rfl ?_
        refine Z_getR dX11_right_35 cl_11 fl_X11_21_11 rfl (cw_i0 hw) (cw_p0_0 hw) ?_
        refine Z_iconst (v := -1) dX11_right_38 (by decide) ?_
        refine Z_iconst (v := -1) dX11_right_39 (by decide) ?_
        refine Z_V3z (ci := 0) dX11_right_40 to_X0_look lk_X11_173 iv_X0_look ⟨rfl, rfl⟩ (cw_i23 hw) (Nat.le_of_ble_eq_true rfl) ⟨rfl, rfl⟩ ⟨by decide, by decide⟩ ?_
        refine k_lookN hr (Or.inl rfl) (fun β hw1 hc1 hf1 => ?_)
        have hw := hw1.1.1
        refine Z_aload_n dX11_right_43 rfl rfl ?_
        refine Z_getR dX11_right_44 cl_11 fl_X11_44_11 rfl (cw_i0 hw) (cw_p0_5 hw) ?_
        refine Z_aload_n dX11_right_47 rfl rfl ?_
        refine Z_getR dX11_right_48 cl_11 fl_X11_21_11 rfl (cw_i0 hw) (cw_p0_0 hw) ?_
        refine Z_iconst (v := -1) dX11_right_51 (by decide) ?_
        refine Z_iload_n dX11_right_52 rfl rfl ?_
        refine Z_V3z (ci := 0) dX11_right_53 to_X0_look lk_X11_173 iv_X0_look ⟨rfl, rfl⟩ (cw_i28 hw) (Nat.le_of_ble_eq_true rfl) ⟨rfl, rfl⟩ ⟨by decide, by decide⟩ ?_
        refine k_look (τ := A.1.1) (Or.inr rfl) hw1.1 (fun i hi => by rw [if_neg (nI_nm1 (by omega))]; rfl) (fun i hi => hr.sb.at (by omega) (zbd_bag hi)) (fun _ _ => rfl) (Or.inr ⟨s, by omega, rfl, rfl⟩) (fun γ hw2 hc2 hf2 => ?_)
        have hw := hw2.1.1
        obtain ⟨hw1, hc1⟩ := hw1.oth hc1 hw2.1 hf2 (Or.inr rfl) (by decide)
        refine Z_aload_n dX11_right_56 rfl rfl ?_
        refine Z_getR dX11_right_57 cl_11 fl_X11_40_11 rfl (cw_i0 hw) (cw_p0_4 hw) ?_
        refine Z_aload_n dX11_right_60 rfl rfl ?_
        refine Z_getR dX11_right_61 cl_11 fl_X11_21_11 rfl (cw_i0 hw) (cw_p0_0 hw) ?_
        refine Z_getIv dX11_right_64 cl_5 fl_X11_93_5 rfl (cw_i5 hw) hw2.1.2.2.2.1.2.1.2.1 ?_
        refine Z_V1z (ci := 0) dX11_right_67 to_X0_bestSum lk_X11_184 iv_X0_bestSum ⟨rfl, rfl⟩ (cw_i23 hw) (Nat.le_of_ble_eq_true rfl) ⟨rfl, rfl⟩ ⟨by decide, by decide⟩ ?_
        rw [← zss_q hr.sb]
        refine ZK.dep (show d + 49 = _ by omega) (k_bestSum hw1 hc1 zq1.1 (by rw [zq1.2.1]; omega) (fun δ hw3 hc3 hf3 => ?_))
        rw [zbc_n]
        have hw := hw3.1.1
        obtain ⟨hw2, hc2⟩ := hw2.oth hc2 hw3.1 hf3.fx (Or.inl rfl) (by decide)
        refine Z_i2l dX11_right_70 ?_
        refine Z_aload_n dX11_right_71 rfl rfl ?_
        refine Z_getR dX11_right_72 cl_11 fl_X11_44_11 rfl (cw_i0 hw) (cw_p0_5 hw) ?_
        refine Z_aload_n dX11_right_75 rfl rfl ?_
        refine Z_getR dX11_right_76 cl_11 fl_X11_21_11 rfl (cw_i0 hw) (cw_p0_0 hw) ?_
        refine Z_getIv dX11_right_79 cl_5 fl_X11_93_5 rfl (cw_i5 hw) hw3.1.2.2.2.1.2.1.2.1 ?_
        refine Z_V1z (ci := 0) dX11_right_82 to_X0_bestSum lk_X11_184 iv_X0_bestSum ⟨rfl, rfl⟩ (cw_i28 hw) (Nat.le_of_ble_eq_true rfl) ⟨rfl, rfl⟩ ⟨by decide, by decide⟩ ?_
        rw [← zss_q hr.sb]
        refine ZK.dep (show d + 49 = _ by omega) (k_bestSum hw2 hc2 zq1.1 (by rw [zq1.2.1]; omega) (fun ε hw4 hc4 hf4 => ?_))
        rw [show nI (A.1.1 (6 + s)) - 1 = nI (A.1.1 (6 + s) - 1) from nI_s (b := 1) (by omega), ← zbr_bar (by omega) (by omega) (by omega) _ _ zq1.1 rfl (zq1.2.2.1 s (by omega))]
        have hw := hw4.1.1
        refine Z_i2l dX11_right_85 ?_
        refine Z_lsub dX11_right_86 ?_
        refine Z_lstore_n (L' := [_, _, _, _, _]) dX11_right_87 rfl (by decide) rfl rfl ?_
        refine Z_lload_n dX11_right_88 rfl rfl ?_
        refine Z_aload_n dX11_right_89 rfl rfl ?_
        refine Z_getR dX11_right_90 cl_11 fl_X11_21_11 rfl (cw_i0 hw) (cw_p0_0 hw) ?_
        refine Z_getR dX11_right_93 cl_5 fl_X11_51_5 rfl (cw_i5 hw) (cw_p5_0 hw) ?_
        refine Z_S1z dX11_right_96 to_X11_ordersOf lk_X11_170 sc_X11_ordersOf (Nat.le_of_ble_eq_true rfl) ⟨rfl, rfl⟩ ⟨by decide, by decide⟩ ?_
        refine k_ordB hw4.1 ?_
        rw [← hO]
        refine Z_i2l dX11_right_99 ?_
        refine Z_iload_n dX11_right_100 rfl rfl ?_
        refine Z_S3z dX11_right_101 to_X11_lowest lk_X11_163 sc_X11_lowest (Nat.le_of_ble_eq_true rfl) ⟨rfl, rfl⟩ ⟨by decide, by decide⟩ ?_
        have hrl := zbr_lt (cn := zcn A.1 (A.1.1 5 + zrest A.1.1)) (x := s) hpp zq1.1
        rw [nI_l (by omega), nI_l (by omega), nI_l (by omega), lN_sub']
        refine k_lowest (by omega) (by omega) (by omega) (by omega) ?_
        refine Z_lret dX11_right_104 rfl ⟨by decide, by decide⟩ ?_
        exact h ε hw4.1 ((((hf1.fc (Or.inl rfl)).tr (hf2.fc (Or.inr rfl))).fi hf3 (fun k => Fk.c (Or.inl rfl))).fi hf4 (fun k => Fk.c (Or.inr rfl)))
      · skip
        refine Z_ldc2 dX11_right_26 kc_X11_156 ?_
        refine Z_lret dX11_right_29 rfl ⟨by decide, by decide⟩ ?_
        first
          | (have e : sp_right A.1 x p = zNO := if_neg (fun z => by first | exact dec_f h4 z.1.1 | exact dec_f h11 z.1.2)
             rw [e] at h; exact h α hr frC.rf)
          | (have e : sp_right A.1 (nI s) p = zNO := if_neg (fun z => z.2 (by rw [nI_clamp (by omega)]; exact (nI_eq (b := 0) (by omega) (by omega)).mp h23))
             rw [e] at h; exact h α hr frC.rf)
theorem k_put {x p : Int32} (hr : CRel Γ A α) (h : ∀ β, CRel Γ A β → frC α β → post (some (.long (sp_put A.1 x p))) β) : ZK G (d + 50) mX11_put [.ref (G.1 + 0), .int x, .int p] α post := by
  have hw := hr.1
  have zq1 := zq_ok hr.sb
  have hO := zoq_zq hr.sb
  have hOl := zoq_le zq1.1
  have hOp := zoq_pos zq1.1
  have hpp := sp_pay_le hr.sb
  have hbl := zbest_lt (cn := zcn A.1 (A.1.1 5 + zrest A.1.1)) hpp zq1.1
  have eb : zB A.1 = zbest (zcn A.1 (A.1.1 5 + zrest A.1.1)) (sp_pay A.1.1) (zq A.1.1) := rfl
  have eo : zO A.1 = zoq (zq A.1.1) := hO.symm
  refine ZK.of (n := 6) (by decide) (Nat.le_of_ble_eq_true rfl) rfl ?_
  refine Z_iload_n dX11_put_0 rfl rfl ?_
  refine Z_S1z dX11_put_1 to_X11_isSort lk_X11_118 sc_X11_isSort (Nat.le_of_ble_eq_true rfl) ⟨rfl, rfl⟩ ⟨by decide, by decide⟩ ?_
  refine k_isSort ?_
  refine Z_if_eq (tgt := 27) dX11_put_4 (by decide) (fun h4 => ?_) (fun h4 => ?_)
  · skip
    refine Z_ldc2 dX11_put_27 kc_X11_156 ?_
    refine Z_lret dX11_put_30 rfl ⟨by decide, by decide⟩ ?_
    first
      | (have e : sp_put A.1 x p = zNO := if_neg (fun z => by first | exact dec_f h4 z.1.1 | exact dec_f h11 z.1.2)
         rw [e] at h; exact h α hr frC.rf)
      | (have e : sp_put A.1 (nI s) p = zNO := if_neg (fun z => z.2 (by rw [nI_clamp (by omega)]; have : ¬ A.1.1 (6 + s) < 5 := fun y => h24 (nI_lt (b := 5) y (by omega)); omega))
         rw [e] at h; exact h α hr frC.rf)
  · skip
    refine Z_iload_n dX11_put_7 rfl rfl ?_
    refine Z_S1z dX11_put_8 to_X11_isPart lk_X11_153 sc_X11_isPart (Nat.le_of_ble_eq_true rfl) ⟨rfl, rfl⟩ ⟨by decide, by decide⟩ ?_
    refine k_isPart ?_
    refine Z_if_eq (tgt := 27) dX11_put_11 (by decide) (fun h11 => ?_) (fun h11 => ?_)
    · skip
      refine Z_ldc2 dX11_put_27 kc_X11_156 ?_
      refine Z_lret dX11_put_30 rfl ⟨by decide, by decide⟩ ?_
      first
        | (have e : sp_put A.1 x p = zNO := if_neg (fun z => by first | exact dec_f h4 z.1.1 | exact dec_f h11 z.1.2)
           rw [e] at h; exact h α hr frC.rf)
        | (have e : sp_put A.1 (nI s) p = zNO := if_neg (fun z => z.2 (by rw [nI_clamp (by omega)]; have : ¬ A.1.1 (6 + s) < 5 := fun y => h24 (nI_lt (b := 5) y (by omega)); omega))
           rw [e] at h; exact h α hr frC.rf)
    · skip
      obtain ⟨s, hs, rfl⟩ := okS.nI (dec_t h4)
      have bb := zsb hr.sb hs
      have hbg := hr.2.2.2.1.1.1 s (by omega)
      refine Z_aload_n dX11_put_14 rfl rfl ?_
      refine Z_getR dX11_put_15 cl_11 fl_X11_21_11 rfl (cw_i0 hw) (cw_p0_0 hw) ?_
      refine Z_getR dX11_put_18 cl_5 fl_X11_51_5 rfl (cw_i5 hw) (cw_p5_0 hw) ?_
      refine Z_iload_n dX11_put_21 rfl rfl ?_
      refine Z_ialdv dX11_put_22 (cw_i6 hw) (zix_nI (m := s) (by omega) (by decide)) hbg ?_
      refine Z_iconst (v := 5) dX11_put_23 (by decide) ?_
      refine Z_icmp_lt (tgt := 31) dX11_put_24 (by decide) (fun h24 => ?_) (fun h24 => ?_)
      · skip
        have hp5 : A.1.1 (6 + s) < 5 := (nI_ltI (b := 5) (by omega) (by omega)).mp h24
        have hsb2 : SB (u1 A.1.1 (6 + s) (A.1.1 (6 + s) + 1)) := hr.sb.set (by rw [zbd_bag (by omega)]; omega) (by omega) (by omega)
        have zq2 := zq_ok hsb2
        have ho2 := zoq_le zq2.1
        have hp2 := zoq_pos zq2.1
        have hb2 := zbest_lt (cn := zcn A.1 (A.1.1 5 + zrest (u1 A.1.1 (6 + s) (A.1.1 (6 + s) + 1)))) hpp zq2.1
        have hup : ∀ i, i < 3 → u1 A.1.1 (6 + s) (A.1.1 (6 + s) + 1) (6 + i) = A.1.1 (6 + i) + (if nI i = nI s then 1 else 0) := fun i hi => by
          by_cases e : i = s
          · subst e; rw [if_pos rfl, u1_s]
          · rw [u1_n (by omega), if_neg (fun z => e ((nI_eq (by omega) (by omega)).mp z))]; rfl
        have eg : nI (zss A.1.1) = nI (cgs (zq (u1 A.1.1 (6 + s) (A.1.1 (6 + s) + 1)))) := by
          rw [zss_q hsb2]
          unfold zss
          rw [u1_n (by omega), u1_n (by omega), u1_n (by omega)]
        have e : sp_put A.1 (nI s) p = lZ (zlow ((zB (u1 A.1.1 (6 + s) (A.1.1 (6 + s) + 1), A.1.2) : Int) * zO A.1 - (zB A.1 : Int) * zO (u1 A.1.1 (6 + s) (A.1.1 (6 + s) + 1), A.1.2)) (zO (u1 A.1.1 (6 + s) (A.1.1 (6 + s) + 1), A.1.2) * zO A.1) p) := by
          unfold sp_put
          rw [if_pos ⟨⟨dec_t h4, dec_t h11⟩, by rw [nI_clamp (by omega)]; omega⟩, nI_clamp (by omega)]
        have eo2 : zO (u1 A.1.1 (6 + s) (A.1.1 (6 + s) + 1), A.1.2) = zoq (zq (u1 A.1.1 (6 + s) (A.1.1 (6 + s) + 1))) := by
          unfold zO zoq
          rw [zq2.2.2.1 0 (by omega), zq2.2.2.1 1 (by omega), zq2.2.2.1 2 (by omega)]
        rw [e, eb, eo, eo2, zB_up (by omega), Nat.mul_comm (zoq (zq (u1 A.1.1 (6 + s) (A.1.1 (6 + s) + 1))))] at h
        refine Z_aload_n dX11_put_31 rfl rfl ?_
        refine Z_getR dX11_put_32 cl_11 fl_X11_40_11 rfl (cw_i0 hw) (cw_p0_4 hw) ?_
        refine Z_aload_n dX11_put_35 rfl rfl ?_
        refine Z_getR dX11_put_36 cl_11 fl_X11_21_11 rfl (cw_i0 hw) (cw_p0_0 hw) ?_
        refine Z_iconst (v := -1) dX11_put_39 (by decide) ?_
        refine Z_iconst (v := -1) dX11_put_40 (by decide) ?_
        refine Z_V3z (ci := 0) dX11_put_41 to_X0_look lk_X11_173 iv_X0_look ⟨rfl, rfl⟩ (cw_i23 hw) (Nat.le_of_ble_eq_true rfl) ⟨rfl, rfl⟩ ⟨by decide, by decide⟩ ?_
        refine k_lookN hr (Or.inl rfl) (fun β hw1 hc1 hf1 => ?_)
        have hw := hw1.1.1
        refine Z_aload_n dX11_put_44 rfl rfl ?_
        refine Z_getR dX11_put_45 cl_11 fl_X11_44_11 rfl (cw_i0 hw) (cw_p0_5 hw) ?_
        refine Z_aload_n dX11_put_48 rfl rfl ?_
        refine Z_getR dX11_put_49 cl_11 fl_X11_21_11 rfl (cw_i0 hw) (cw_p0_0 hw) ?_
        refine Z_iload_n dX11_put_52 rfl rfl ?_
        refine Z_iconst (v := -1) dX11_put_53 (by decide) ?_
        refine Z_V3z (ci := 0) dX11_put_54 to_X0_look lk_X11_173 iv_X0_look ⟨rfl, rfl⟩ (cw_i28 hw) (Nat.le_of_ble_eq_true rfl) ⟨rfl, rfl⟩ ⟨by decide, by decide⟩ ?_
        refine k_look (τ := u1 A.1.1 (6 + s) (A.1.1 (6 + s) + 1)) (Or.inr rfl) hw1.1 hup (fun i hi => hsb2.at (by omega) (zbd_bag hi)) (fun i hi => u1_n (by omega)) (Or.inl ⟨rfl, rfl⟩) (fun γ hw2 hc2 hf2 => ?_)
        have hw := hw2.1.1
        obtain ⟨hw1, hc1⟩ := hw1.oth hc1 hw2.1 hf2 (Or.inr rfl) (by decide)
        refine Z_aload_n dX11_put_57 rfl rfl ?_
        refine Z_getR dX11_put_58 cl_11 fl_X11_21_11 rfl (cw_i0 hw) (cw_p0_0 hw) ?_
        refine Z_getR dX11_put_61 cl_5 fl_X11_51_5 rfl (cw_i5 hw) (cw_p5_0 hw) ?_
        refine Z_S1z dX11_put_64 to_X11_ordersOf lk_X11_170 sc_X11_ordersOf (Nat.le_of_ble_eq_true rfl) ⟨rfl, rfl⟩ ⟨by decide, by decide⟩ ?_
        refine k_ordB hw2.1 ?_
        rw [← hO]
        refine Z_i2l dX11_put_67 ?_
        refine Z_lstore_n (L' := [_, _, _, _, _, _, _, _, _]) dX11_put_68 rfl (by decide) rfl rfl ?_
        refine Z_aload_n dX11_put_69 rfl rfl ?_
        refine Z_getR dX11_put_70 cl_11 fl_X11_44_11 rfl (cw_i0 hw) (cw_p0_5 hw) ?_
        refine Z_V0z (ci := 0) dX11_put_73 to_X0_ways lk_X11_200 iv_X0_ways ⟨rfl, rfl⟩ (cw_i28 hw) (Nat.le_of_ble_eq_true rfl) ⟨rfl, rfl⟩ ⟨by decide, by decide⟩ ?_
        refine k_ways hw2 hc2 zq2.1 ?_
        refine Z_i2l dX11_put_76 ?_
        refine Z_lstore (L' := [_, _, _, _, _, _, _, _, _]) dX11_put_77 (by decide) rfl rfl ?_
        refine Z_aload_n dX11_put_79 rfl rfl ?_
        refine Z_getR dX11_put_80 cl_11 fl_X11_44_11 rfl (cw_i0 hw) (cw_p0_5 hw) ?_
        refine Z_aload_n dX11_put_83 rfl rfl ?_
        refine Z_getR dX11_put_84 cl_11 fl_X11_21_11 rfl (cw_i0 hw) (cw_p0_0 hw) ?_
        refine Z_getIv dX11_put_87 cl_5 fl_X11_93_5 rfl (cw_i5 hw) hw2.1.2.2.2.1.2.1.2.1 ?_
        refine Z_V1z (ci := 0) dX11_put_90 to_X0_bestSum lk_X11_184 iv_X0_bestSum ⟨rfl, rfl⟩ (cw_i28 hw) (Nat.le_of_ble_eq_true rfl) ⟨rfl, rfl⟩ ⟨by decide, by decide⟩ ?_
        rw [eg]
        refine ZK.dep (show d + 49 = _ by omega) (k_bestSum hw2 hc2 zq2.1 (by rw [zq2.2.1]; omega) (fun δ hw3 hc3 hf3 => ?_))
        rw [zbc_n]
        have hw := hw3.1.1
        obtain ⟨hw1, hc1⟩ := hw1.oth hc1 hw3.1 hf3.fx (Or.inr rfl) (by decide)
        refine Z_i2l dX11_put_93 ?_
        refine Z_lload_n dX11_put_94 rfl rfl ?_
        refine Z_lmul dX11_put_95 ?_
        refine Z_aload_n dX11_put_96 rfl rfl ?_
        refine Z_getR dX11_put_97 cl_11 fl_X11_40_11 rfl (cw_i0 hw) (cw_p0_4 hw) ?_
        refine Z_aload_n dX11_put_100 rfl rfl ?_
        refine Z_getR dX11_put_101 cl_11 fl_X11_21_11 rfl (cw_i0 hw) (cw_p0_0 hw) ?_
        refine Z_getIv dX11_put_104 cl_5 fl_X11_93_5 rfl (cw_i5 hw) hw3.1.2.2.2.1.2.1.2.1 ?_
        refine Z_V1z (ci := 0) dX11_put_107 to_X0_bestSum lk_X11_184 iv_X0_bestSum ⟨rfl, rfl⟩ (cw_i23 hw) (Nat.le_of_ble_eq_true rfl) ⟨rfl, rfl⟩ ⟨by decide, by decide⟩ ?_
        rw [← zss_q hr.sb]
        refine ZK.dep (show d + 49 = _ by omega) (k_bestSum hw1 hc1 zq1.1 (by rw [zq1.2.1]; omega) (fun ε hw4 hc4 hf4 => ?_))
        rw [zbc_n]
        have hw := hw4.1.1
        refine Z_i2l dX11_put_110 ?_
        refine Z_lload dX11_put_111 rfl ?_
        refine Z_lmul dX11_put_113 ?_
        refine Z_lsub dX11_put_114 ?_
        refine Z_lstore (L' := [_, _, _, _, _, _, _, _, _]) dX11_put_115 (by decide) rfl rfl ?_
        refine Z_lload dX11_put_117 rfl ?_
        refine Z_lload_n dX11_put_119 rfl rfl ?_
        refine Z_lload dX11_put_120 rfl ?_
        refine Z_lmul dX11_put_122 ?_
        refine Z_iload_n dX11_put_123 rfl rfl ?_
        refine Z_S3z dX11_put_124 to_X11_lowest lk_X11_163 sc_X11_lowest (Nat.le_of_ble_eq_true rfl) ⟨rfl, rfl⟩ ⟨by decide, by decide⟩ ?_
        rw [nI_l (by omega), nI_l (by omega), nI_l (by omega), nI_l (by omega), lN_mul, lN_mul, lN_mul, lN_sub']
        have m1 := Nat.mul_le_mul hb2 hOl
        have m2 := Nat.mul_le_mul hbl ho2
        have m3 := Nat.mul_le_mul hOl ho2
        have m4 := Nat.mul_pos hOp hp2
        refine k_lowest (by omega) (by omega) (by omega) m4 ?_
        refine Z_lret dX11_put_127 rfl ⟨by decide, by decide⟩ ?_
        have := h ε hw4.1 ((((hf1.fc (Or.inl rfl)).tr (hf2.fc (Or.inr rfl))).fi hf3 (fun k => Fk.c (Or.inr rfl))).fi hf4 (fun k => Fk.c (Or.inl rfl)))
        simpa only [Int.natCast_mul] using this
      · skip
        refine Z_ldc2 dX11_put_27 kc_X11_156 ?_
        refine Z_lret dX11_put_30 rfl ⟨by decide, by decide⟩ ?_
        first
          | (have e : sp_put A.1 x p = zNO := if_neg (fun z => by first | exact dec_f h4 z.1.1 | exact dec_f h11 z.1.2)
             rw [e] at h; exact h α hr frC.rf)
          | (have e : sp_put A.1 (nI s) p = zNO := if_neg (fun z => z.2 (by rw [nI_clamp (by omega)]; have : ¬ A.1.1 (6 + s) < 5 := fun y => h24 (nI_lt (b := 5) y (by omega)); omega))
             rw [e] at h; exact h α hr frC.rf)
theorem k_judged {w x : Int32} (hr : CRel Γ A α) (h : ∀ β, CRel Γ A β → frC α β → post (some (.int (sp_judged A.1 w x))) β) : ZK G (d + 54) mX11_judged [.ref (G.1 + 0), .int w, .int x] α post := by
  have hw := hr.1
  have zq1 := zq_ok hr.sb
  have b2 : A.1.1 2 ≤ 12 := hr.sb.at (by omega) rfl
  have l0 : (0 : Int32).toInt = 0 := rfl
  have l1 : (1 : Int32).toInt = 1 := rfl
  by_cases hz : 0 ≤ w ∧ w ≤ nI (A.1.1 0) - 1
  · obtain ⟨j, c, hj, hj8, rfl, hp, ho⟩ := hr.wk hz
    have e1 : 0 ≤ x ∧ x ≤ 1 → sp_judged A.1 (nI j) x = if x = 0 then nI (zjd A.1 j).1 else nI (zjd A.1 j).2 := fun z => by
      unfold sp_judged
      rw [if_pos ⟨hz, z⟩, nI_clamp (by omega)]
    have lp : (∀ β, CRel Γ A β → frC α β → post (some (.int (if x = 0 then nI (zjd A.1 j).1 else nI (zjd A.1 j).2))) β) → ∀ (m i q p : Nat), i + m = A.1.1 2 → q < 5832 → zla q ≤ A.1.1 5 + zrest A.1.1 → zjg A.1 (A.1.1 5 + zrest A.1.1) j m i q p = zjd A.1 j → ∀ (β : AH) (x8 : Option Value), cLk Γ A 23 (A.1.1 5 + zrest A.1.1) (-1) 0 β → cAt 23 β q → frC α β → Z G mX11_judged (d + 54) 52 [some (.ref (G.1 + 0)), some (.int (nI j)), some (.int x), some (.ref (G.1 + c)), some (.int (nI i)), some (.int (nI p)), some (.int (nI (cgs q))), some (.int (nI i)), x8] [] β (0, 0) post := by
      intro h m
      induction m with
      | zero =>
        intro i q p hi hq hT ez β x8 hw1 hc1 hf1
        have hw := hw1.1.1
        have ez : (i, p) = zjd A.1 j := ez
        rw [← ez] at h
        refine Z_iload dX11_judged_52 rfl ?_
        refine Z_aload_n dX11_judged_54 rfl rfl ?_
        refine Z_getR dX11_judged_55 cl_11 fl_X11_21_11 rfl (cw_i0 hw) (cw_p0_0 hw) ?_
        refine Z_getIv dX11_judged_58 cl_5 fl_X11_210_5 rfl (cw_i5 hw) hw1.1.2.2.2.1.2.1.2.2.2.2.2 ?_
        refine Z_icmp_ge (tgt := 160) dX11_judged_61 (by decide) (fun h61 => ?_) (fun h61 => ?_)
        · skip
          refine Z_iload_n dX11_judged_160 rfl rfl ?_
          refine Z_if_ne (tgt := 169) dX11_judged_161 (by decide) (fun h161 => ?_) (fun h161 => ?_)
          · skip
            refine Z_iload dX11_judged_169 rfl ?_
            refine Z_iret dX11_judged_171 rfl rfl ⟨by decide, by decide⟩ ?_
            have hp := h β hw1.1 hf1
            first
              | (rw [if_pos h161] at hp; exact hp)
              | (rw [if_neg h161] at hp; exact hp)
          · skip
            refine Z_iload dX11_judged_164 rfl ?_
            refine Z_goto (tgt := 171) dX11_judged_166 (by decide) ?_
            refine Z_iret dX11_judged_171 rfl rfl ⟨by decide, by decide⟩ ?_
            have hp := h β hw1.1 hf1
            first
              | (rw [if_pos h161] at hp; exact hp)
              | (rw [if_neg h161] at hp; exact hp)
        · skip
          exact absurd (nI_le (by omega) (by omega)) h61
      | succ m ih =>
        intro i q p hi hq hT ez β x8 hw1 hc1 hf1
        have hw := hw1.1.1
        have vs := hw1.1.2.2.2.1.1.2.2.2 i (by omega)
        have bs : A.1.1 (152 + i) ≤ 2 := hr.sb.at (by omega) (zbd_book (by omega))
        have hl := zl_le (s := A.1.1 (152 + i)) hq
        have hl15 := zla_le hq
        rw [zjg_s] at ez
        generalize A.1.1 (152 + i) = s at *
        by_cases hp : 0 < zl q s
        · rw [if_pos hp] at ez
          have ok := zd_ok hq (show s < 3 by omega) hp
          have hwo := zway_ok (S := A.1) (T := A.1.1 5 + zrest A.1.1) (w := j) (zd q s) s
          have ok2 := zdw_ok ok.2.1 hwo
          have hw3 : zway A.1 (A.1.1 5 + zrest A.1.1) j (zd q s) s ≤ 3 := by omega
          refine Z_iload dX11_judged_52 rfl ?_
          refine Z_aload_n dX11_judged_54 rfl rfl ?_
          refine Z_getR dX11_judged_55 cl_11 fl_X11_21_11 rfl (cw_i0 hw) (cw_p0_0 hw) ?_
          refine Z_getIv dX11_judged_58 cl_5 fl_X11_210_5 rfl (cw_i5 hw) hw1.1.2.2.2.1.2.1.2.2.2.2.2 ?_
          refine Z_icmp_ge (tgt := 160) dX11_judged_61 (by decide) (fun h61 => ?_) (fun h61 => ?_)
          · skip
            exact absurd h61 (nI_ge (by omega) (by omega))
          · skip
            refine Z_aload_n dX11_judged_64 rfl rfl ?_
            refine Z_getR dX11_judged_65 cl_11 fl_X11_40_11 rfl (cw_i0 hw) (cw_p0_4 hw) ?_
            refine Z_aload_n dX11_judged_68 rfl rfl ?_
            refine Z_getR dX11_judged_69 cl_11 fl_X11_21_11 rfl (cw_i0 hw) (cw_p0_0 hw) ?_
            refine Z_getR dX11_judged_72 cl_5 fl_X11_213_5 rfl (cw_i5 hw) (cw_p5_10 hw) ?_
            refine Z_iload dX11_judged_75 rfl ?_
            refine Z_ialdv dX11_judged_77 (cw_i10 hw) (zix_nI (m := i) (by omega) (by decide)) vs ?_
            refine Z_V1z (ci := 0) dX11_judged_78 to_X0_has lk_X11_219 iv_X0_has ⟨rfl, rfl⟩ (cw_i23 hw) (Nat.le_of_ble_eq_true rfl) ⟨rfl, rfl⟩ ⟨by decide, by decide⟩ ?_
            refine k_has hw1 hc1 hq (by omega) ?_
            refine Z_if_eq (tgt := 160) dX11_judged_81 (by decide) (fun h81 => ?_) (fun h81 => ?_)
            · skip
              exact absurd (decide_eq_false_iff_not.mp (b2i_eq.mp h81)) (fun z => z hp)
            · skip
              refine Z_aload_n dX11_judged_84 rfl rfl ?_
              refine Z_getR dX11_judged_85 cl_11 fl_X11_40_11 rfl (cw_i0 hw) (cw_p0_4 hw) ?_
              refine Z_aload_n dX11_judged_88 rfl rfl ?_
              refine Z_getR dX11_judged_89 cl_11 fl_X11_21_11 rfl (cw_i0 hw) (cw_p0_0 hw) ?_
              refine Z_getR dX11_judged_92 cl_5 fl_X11_213_5 rfl (cw_i5 hw) (cw_p5_10 hw) ?_
              refine Z_iload dX11_judged_95 rfl ?_
              refine Z_ialdv dX11_judged_97 (cw_i10 hw) (zix_nI (m := i) (by omega) (by decide)) vs ?_
              refine Z_V1z (ci := 0) dX11_judged_98 to_X0_take lk_X11_187 iv_X0_take ⟨rfl, rfl⟩ (cw_i23 hw) (Nat.le_of_ble_eq_true rfl) ⟨rfl, rfl⟩ ⟨by decide, by decide⟩ ?_
              refine k_take hw1 hc1 hq (by omega) hp (fun γ hw2 hc2 hf2 => ?_)
              have hw := hw2.1.1
              have hfc2 := hf1.fi hf2 (fun k => Ft.c (Or.inl rfl))
              have vs2 : hI γ 10 i = nI s := by rw [(hf2.2.2.2 10 (by unfold Ft; omega)).1]; exact vs
              refine Z_aload_n dX11_judged_101 rfl rfl ?_
              refine Z_aload_n dX11_judged_102 rfl rfl ?_
              refine Z_getR dX11_judged_103 cl_11 fl_X11_40_11 rfl (cw_i0 hw) (cw_p0_4 hw) ?_
              refine Z_aload_n dX11_judged_106 rfl rfl ?_
              refine Z_getR dX11_judged_107 cl_11 fl_X11_21_11 rfl (cw_i0 hw) (cw_p0_0 hw) ?_
              refine Z_getR dX11_judged_110 cl_5 fl_X11_213_5 rfl (cw_i5 hw) (cw_p5_10 hw) ?_
              refine Z_iload dX11_judged_113 rfl ?_
              refine Z_ialdv dX11_judged_115 (cw_i10 hw) (zix_nI (m := i) (by omega) (by decide)) vs2 ?_
              refine Z_iload dX11_judged_116 rfl ?_
              rw [← cgs_zd hq (show s < 3 by omega) hp]
              refine Z_does dX11_judged_118 wd_585 (ho.fr hfc2.z) hw2 hc2 ok.2.1 (by omega) (by omega) (by omega) (Nat.le_of_ble_eq_true rfl) ⟨by decide, by decide⟩ (fun δ hw3x hc3 hf3 => ?_)
              rw [cgs_zd hq (show s < 3 by omega) hp, zbc_n, zwy_way hr.sb hj8 (by omega) ok.2.1]
              have hw := hw3x.1.1
              obtain ⟨v, hp5, hvk, ⟨cc, ww, ee, pp, hv⟩, hvm⟩ := hw3x.1.held
              refine Z_istore (L' := [_, _, _, _, _, _, _, _, _]) dX11_judged_121 (by decide) rfl rfl ?_
              refine Z_iload dX11_judged_123 rfl ?_
              refine Z_aload_n dX11_judged_125 rfl rfl ?_
              refine Z_getR dX11_judged_126 cl_11 fl_X11_21_11 rfl (cw_i0 hw) (cw_p0_0 hw) ?_
              refine Z_getR dX11_judged_129 cl_5 fl_X11_76_5 rfl (cw_i5 hw) hp5 ?_
              refine Z_iload dX11_judged_132 rfl ?_
              refine Z_iload dX11_judged_134 rfl ?_
              refine Z_V2z (ci := 8) dX11_judged_136 to_X8_gain lk_X11_147 iv_X8_gain ⟨rfl, rfl⟩ hv.2.1 (Nat.le_of_ble_eq_true rfl) ⟨rfl, rfl⟩ ⟨by decide, by decide⟩ ?_
              rw [← cgs_zd hq (show s < 3 by omega) hp]
              refine k_gain hv cgs_lt hw3 ?_
              rw [zgn_p hw3 hvm.2.1, cgs_zd hq (show s < 3 by omega) hp]
              refine Z_iadd dX11_judged_139 ?_
              rw [nI_add]
              refine Z_istore (L' := [_, _, _, _, _, _, _, _, _]) dX11_judged_140 (by decide) rfl rfl ?_
              refine Z_iload dX11_judged_142 rfl ?_
              refine Z_iload dX11_judged_144 rfl ?_
              refine Z_S2z dX11_judged_146 to_X11_after lk_X11_150 sc_X11_after (Nat.le_of_ble_eq_true rfl) ⟨rfl, rfl⟩ ⟨by decide, by decide⟩ ?_
              rw [← cgs_zd hq (show s < 3 by omega) hp]
              refine k_after hw3 ?_
              rw [cgs_do ok.2.1 hw3 (fun z => by omega)]
              refine Z_istore (L' := [_, _, _, _, _, _, _, _, _]) dX11_judged_149 (by decide) rfl rfl ?_
              refine Z_iinc (L' := [_, _, _, _, _, _, _, _, _]) dX11_judged_151 rfl (by rfl : _ + Int32.ofInt 1 = _ + 1) (by decide) rfl rfl ?_
              refine Z_iinc (L' := [_, _, _, _, _, _, _, _, _]) dX11_judged_154 rfl (by rfl : _ + Int32.ofInt 1 = _ + 1) (by decide) rfl rfl ?_
              refine Z_goto (tgt := 52) dX11_judged_157 (by decide) ?_
              rw [nI_1]
              exact ih (i + 1) _ _ (by omega) ok2.1 (by rw [ok2.2.1]; omega) ez δ _ hw3x (hc3.la _ (fun k => zdw_l ok.2.1 hwo k)) (hfc2.fi hf3 (fun k => Fk.c (Or.inl rfl)))
        · rw [if_neg hp] at ez
          rw [← ez] at h
          refine Z_iload dX11_judged_52 rfl ?_
          refine Z_aload_n dX11_judged_54 rfl rfl ?_
          refine Z_getR dX11_judged_55 cl_11 fl_X11_21_11 rfl (cw_i0 hw) (cw_p0_0 hw) ?_
          refine Z_getIv dX11_judged_58 cl_5 fl_X11_210_5 rfl (cw_i5 hw) hw1.1.2.2.2.1.2.1.2.2.2.2.2 ?_
          refine Z_icmp_ge (tgt := 160) dX11_judged_61 (by decide) (fun h61 => ?_) (fun h61 => ?_)
          · skip
            exact absurd h61 (nI_ge (by omega) (by omega))
          · skip
            refine Z_aload_n dX11_judged_64 rfl rfl ?_
            refine Z_getR dX11_judged_65 cl_11 fl_X11_40_11 rfl (cw_i0 hw) (cw_p0_4 hw) ?_
            refine Z_aload_n dX11_judged_68 rfl rfl ?_
            refine Z_getR dX11_judged_69 cl_11 fl_X11_21_11 rfl (cw_i0 hw) (cw_p0_0 hw) ?_
            refine Z_getR dX11_judged_72 cl_5 fl_X11_213_5 rfl (cw_i5 hw) (cw_p5_10 hw) ?_
            refine Z_iload dX11_judged_75 rfl ?_
            refine Z_ialdv dX11_judged_77 (cw_i10 hw) (zix_nI (m := i) (by omega) (by decide)) vs ?_
            refine Z_V1z (ci := 0) dX11_judged_78 to_X0_has lk_X11_219 iv_X0_has ⟨rfl, rfl⟩ (cw_i23 hw) (Nat.le_of_ble_eq_true rfl) ⟨rfl, rfl⟩ ⟨by decide, by decide⟩ ?_
            refine k_has hw1 hc1 hq (by omega) ?_
            refine Z_if_eq (tgt := 160) dX11_judged_81 (by decide) (fun h81 => ?_) (fun h81 => ?_)
            · skip
              refine Z_iload_n dX11_judged_160 rfl rfl ?_
              refine Z_if_ne (tgt := 169) dX11_judged_161 (by decide) (fun h161 => ?_) (fun h161 => ?_)
              · skip
                refine Z_iload dX11_judged_169 rfl ?_
                refine Z_iret dX11_judged_171 rfl rfl ⟨by decide, by decide⟩ ?_
                have hp := h β hw1.1 hf1
                first
                  | (rw [if_pos h161] at hp; exact hp)
                  | (rw [if_neg h161] at hp; exact hp)
              · skip
                refine Z_iload dX11_judged_164 rfl ?_
                refine Z_goto (tgt := 171) dX11_judged_166 (by decide) ?_
                refine Z_iret dX11_judged_171 rfl rfl ⟨by decide, by decide⟩ ?_
                have hp := h β hw1.1 hf1
                first
                  | (rw [if_pos h161] at hp; exact hp)
                  | (rw [if_neg h161] at hp; exact hp)
            · skip
              exact absurd (decide_eq_true_eq.mp (b2i_ne.mp h81)) hp
    refine ZK.of (n := 6) (by decide) (Nat.le_of_ble_eq_true rfl) rfl ?_
    refine Z_aload_n dX11_judged_0 rfl rfl ?_
    refine Z_iload_n dX11_judged_1 rfl rfl ?_
    refine Z_V1z (ci := 11) dX11_judged_2 to_X11_workerAt lk_X11_114 iv_X11_workerAt ⟨rfl, rfl⟩ (cw_i0 hw) (Nat.le_of_ble_eq_true rfl) ⟨rfl, rfl⟩ ⟨by decide, by decide⟩ ?_
    refine k_wAt1 hr hj hp ?_
    refine Z_astore_n (L' := [_, _, _, _, _, _, _, _, _]) dX11_judged_5 rfl (by decide) rfl rfl ?_
    refine Z_aload_n dX11_judged_6 rfl rfl ?_
    refine Z_ifnull dX11_judged_7 ?_
    refine Z_iload_n dX11_judged_10 rfl rfl ?_
    refine Z_if_lt (tgt := 19) dX11_judged_11 (by decide) (fun h11 => ?_) (fun h11 => ?_)
    · skip
      refine Z_iconst (v := -1) dX11_judged_19 (by decide) ?_
      refine Z_iret dX11_judged_20 rfl rfl ⟨by decide, by decide⟩ ?_
      have e : sp_judged A.1 (nI j) x = -1 := if_neg (fun z => by have z1 := z.2; simp only [Int32.lt_iff_toInt_lt, Int32.le_iff_toInt_le] at *; omega)
      rw [e] at h; exact h α hr frC.rf
    · skip
      refine Z_iload_n dX11_judged_14 rfl rfl ?_
      refine Z_iconst (v := 1) dX11_judged_15 (by decide) ?_
      refine Z_icmp_le (tgt := 21) dX11_judged_16 (by decide) (fun h16 => ?_) (fun h16 => ?_)
      · skip
        have hok : 0 ≤ x ∧ x ≤ 1 := by simp only [Int32.lt_iff_toInt_lt, Int32.le_iff_toInt_le] at *; omega
        rw [e1 hok] at h
        refine Z_aload_n dX11_judged_21 rfl rfl ?_
        refine Z_getR dX11_judged_22 cl_11 fl_X11_40_11 rfl (cw_i0 hw) (cw_p0_4 hw) ?_
        refine Z_aload_n dX11_judged_25 rfl rfl ?_
        refine Z_getR dX11_judged_26 cl_11 fl_X11_21_11 rfl (cw_i0 hw) (cw_p0_0 hw) ?_
        refine Z_iconst (v := -1) dX11_judged_29 (by decide) ?_
        refine Z_iconst (v := -1) dX11_judged_30 (by decide) ?_
        refine Z_V3z (ci := 0) dX11_judged_31 to_X0_look lk_X11_173 iv_X0_look ⟨rfl, rfl⟩ (cw_i23 hw) (Nat.le_of_ble_eq_true rfl) ⟨rfl, rfl⟩ ⟨by decide, by decide⟩ ?_
        refine k_lookN hr (Or.inl rfl) (fun β hw1 hc1 hf1 => ?_)
        have hw := hw1.1.1
        refine Z_iconst (v := 0) dX11_judged_34 (by decide) ?_
        refine Z_istore (L' := [_, _, _, _, _, _, _, _, _]) dX11_judged_35 (by decide) rfl rfl ?_
        refine Z_iconst (v := 0) dX11_judged_37 (by decide) ?_
        refine Z_istore (L' := [_, _, _, _, _, _, _, _, _]) dX11_judged_38 (by decide) rfl rfl ?_
        refine Z_aload_n dX11_judged_40 rfl rfl ?_
        refine Z_getR dX11_judged_41 cl_11 fl_X11_21_11 rfl (cw_i0 hw) (cw_p0_0 hw) ?_
        refine Z_getIv dX11_judged_44 cl_5 fl_X11_93_5 rfl (cw_i5 hw) (show _ = nI (cgs (zq A.1.1)) by rw [zss_q hr.sb]; exact hw1.1.2.2.2.1.2.1.2.1) ?_
        refine Z_istore (L' := [_, _, _, _, _, _, _, _, _]) dX11_judged_47 (by decide) rfl rfl ?_
        refine Z_iconst (v := 0) dX11_judged_49 (by decide) ?_
        refine Z_istore (L' := [_, _, _, _, _, _, _, _, _]) dX11_judged_50 (by decide) rfl rfl ?_
        exact lp h (A.1.1 2) 0 (zq A.1.1) 0 (by omega) zq1.1 (by rw [zq1.2.1]; omega) rfl β _ hw1 hc1 (hf1.fc (Or.inl rfl))
      · skip
        refine Z_iconst (v := -1) dX11_judged_19 (by decide) ?_
        refine Z_iret dX11_judged_20 rfl rfl ⟨by decide, by decide⟩ ?_
        have e : sp_judged A.1 (nI j) x = -1 := if_neg (fun z => by have z1 := z.2; simp only [Int32.lt_iff_toInt_lt, Int32.le_iff_toInt_le] at *; omega)
        rw [e] at h; exact h α hr frC.rf
  · have e1 : sp_judged A.1 w x = -1 := if_neg (fun z => hz z.1)
    rw [e1] at h
    refine ZK.of (n := 6) (by decide) (Nat.le_of_ble_eq_true rfl) rfl ?_
    refine Z_aload_n dX11_judged_0 rfl rfl ?_
    refine Z_iload_n dX11_judged_1 rfl rfl ?_
    refine Z_V1z (ci := 11) dX11_judged_2 to_X11_workerAt lk_X11_114 iv_X11_workerAt ⟨rfl, rfl⟩ (cw_i0 hw) (Nat.le_of_ble_eq_true rfl) ⟨rfl, rfl⟩ ⟨by decide, by decide⟩ ?_
    refine k_wAt0 hr hz ?_
    refine Z_astore_nN (L' := [_, _, _, _, _, _, _, _, _]) dX11_judged_5 rfl (by decide) rfl rfl ?_
    refine Z_aload_nN dX11_judged_6 rfl rfl ?_
    refine Z_ifnullN (tgt := 19) dX11_judged_7 (by decide) ?_
    refine Z_iconst (v := -1) dX11_judged_19 (by decide) ?_
    refine Z_iret dX11_judged_20 rfl rfl ⟨by decide, by decide⟩ ?_
    exact h α hr frC.rf
end CK5
