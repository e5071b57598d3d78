section CK3
variable {G : ZG} {d : Nat} {α β γ : AH} {post : Option Value → AH → Prop} {Γ : Nat → VC} {A : ZA} {T q : Nat} {b t : Int32}
theorem k_of {w x : Int32} (hr : CRel Γ A α) (h : ∀ β, CRel Γ A β → frC α β → post (some (.int (sp_of A.1 w x))) β) : ZK G (d + 55) mX11_of [.ref (G.1 + 0), .int w, .int x] α post := by
  have hw := hr.1
  by_cases hz : 0 ≤ w ∧ w ≤ nI (A.1.1 0) - 1
  · obtain ⟨j, c, hj, hj8, rfl, hp, ho⟩ := hr.wk hz
    have hk := ho.2.2.2.1
    have hv := ho.2.2.2.2.2.1
    have e1 : sp_of A.1 (nI j) x = if x = 0 then nI (A.1.1 (112 + j)) else if x = 1 then nI (A.1.1 (120 + j)) else if 10 ≤ x ∧ x ≤ 12 then (if A.1.1 (6 + (x - 10).toNatClampNeg) = 0 then -5 else wF (zdoN A.1 j (x - 10).toNatClampNeg)) else -1 := by
      unfold sp_of
      rw [if_pos hz, nI_clamp (by omega)]
    rw [e1] at h
    have key : (0 ≤ x - 10 ∧ x - 10 ≤ 2) ↔ (10 ≤ x ∧ x ≤ 12) := by
      have h0 : (0 : Int32).toInt = 0 := rfl
      have h2 : (2 : Int32).toInt = 2 := rfl
      have h10 : (10 : Int32).toInt = 10 := rfl
      have h12 : (12 : Int32).toInt = 12 := rfl
      constructor
      · intro z
        obtain ⟨i, hi, ei⟩ := arg_nI (n := 2) rfl rfl z
        have : x = nI (10 + i) := by
          have := congrArg (fun y => y + 10) ei
          simp only [Int32.sub_add_cancel] at this
          rw [this, show (10 : Int32) = nI 10 from rfl, nI_add, Nat.add_comm]
        rw [this]
        simp only [Int32.le_iff_toInt_le, nI_toInt (show 10 + i < 2 ^ 31 by omega)]
        omega
      · intro z
        obtain ⟨i, hi, ei⟩ := arg_off (lo := 10) (hi := 12) (a := 10) (n := 2) rfl rfl (by decide) z
        have : x - 10 = nI i := by rw [ei]; exact (nI_s (a := 10 + i) (b := 10) (by omega)).trans (congrArg nI (by omega))
        rw [this]
        exact ⟨nI_pos' (by omega), nI_le (b := 2) hi (by omega)⟩
    refine ZK.of (n := 1) (by decide) (Nat.le_of_ble_eq_true rfl) rfl ?_
    refine Z_aload_n dX11_of_0 rfl rfl ?_
    refine Z_iload_n dX11_of_1 rfl rfl ?_
    refine Z_V1z (ci := 11) dX11_of_2 to_X11_workerAt lk_X11_114 iv_X11_workerAt ⟨rfl, rfl⟩ (cw_i0 hw) (Nat.le_of_ble_eq_true rfl) ⟨rfl, rfl⟩ ⟨by decide, by decide⟩ ?_
    refine k_wAt1 hr hj hp ?_
    refine Z_astore_n (L' := [_, _, _, _]) dX11_of_5 rfl (by decide) rfl rfl ?_
    refine Z_aload_n dX11_of_6 rfl rfl ?_
    refine Z_ifnonnull (tgt := 12) dX11_of_7 (by decide) ?_
    refine Z_iload_n dX11_of_12 rfl rfl ?_
    refine Z_if_ne (tgt := 21) dX11_of_13 (by decide) (fun h13 => ?_) (fun h13 => ?_)
    · skip
      rw [if_neg h13] at h
      refine Z_iload_n dX11_of_21 rfl rfl ?_
      refine Z_iconst (v := 1) dX11_of_22 (by decide) ?_
      refine Z_icmp_ne (tgt := 31) dX11_of_23 (by decide) (fun h23 => ?_) (fun h23 => ?_)
      · skip
        rw [if_neg h23] at h
        refine Z_iload_n dX11_of_31 rfl rfl ?_
        refine Z_bipush (v := 10) dX11_of_32 (by decide) ?_
        refine Z_isub dX11_of_34 ?_
        refine Z_S1z dX11_of_35 to_X11_isSort lk_X11_118 sc_X11_isSort (Nat.le_of_ble_eq_true rfl) ⟨rfl, rfl⟩ ⟨by decide, by decide⟩ ?_
        refine k_isSort ?_
        refine Z_if_ne (tgt := 43) dX11_of_38 (by decide) (fun h38 => ?_) (fun h38 => ?_)
        · skip
          have zz := key.mp (dec_t h38)
          rw [if_pos zz] at h
          obtain ⟨i, hi, ei⟩ := arg_nI (n := 2) rfl rfl (dec_t h38)
          have b := zsb hr.sb hi
          rw [ei, nI_clamp (by omega)] at h
          refine Z_aload_n dX11_of_43 rfl rfl ?_
          refine Z_getR dX11_of_44 cl_11 fl_X11_21_11 rfl (cw_i0 hw) (cw_p0_0 hw) ?_
          refine Z_getR dX11_of_47 cl_5 fl_X11_51_5 rfl (cw_i5 hw) (cw_p5_0 hw) ?_
          refine Z_iload_n dX11_of_50 rfl rfl ?_
          refine Z_bipush (v := 10) dX11_of_51 (by decide) ?_
          refine Z_isub dX11_of_53 ?_
          refine Z_ialdv dX11_of_54 (cw_i6 hw) (zix_e (m := i) ei (by omega) (by decide)) (hr.2.2.2.1.1.1 i (by omega)) ?_
          refine Z_if_ne (tgt := 63) dX11_of_55 (by decide) (fun h55 => ?_) (fun h55 => ?_)
          · skip
            have hp0 : ¬ A.1.1 (6 + i) = 0 := fun z => h55 (by rw [z]; rfl)
            rw [if_neg hp0] at h
            refine Z_aload_n dX11_of_63 rfl rfl ?_
            refine Z_aload_n dX11_of_64 rfl rfl ?_
            refine Z_iload_n dX11_of_65 rfl rfl ?_
            refine Z_bipush (v := 10) dX11_of_66 (by decide) ?_
            refine Z_isub dX11_of_68 ?_
            refine Z_V2z (ci := 11) dX11_of_69 to_X11_workNow lk_X11_140 iv_X11_workNow ⟨rfl, rfl⟩ (cw_i0 hw) (Nat.le_of_ble_eq_true rfl) ⟨rfl, rfl⟩ ⟨by decide, by decide⟩ ?_
            rw [ei]
            refine k_workNow hr hj8 ho (by omega) hp0 (fun β hr1 hf1 _ _ _ => ?_)
            have hw := hr1.1
            refine Z_S1z dX11_of_72 to_X11_workName lk_X11_144 sc_X11_workName (Nat.le_of_ble_eq_true rfl) ⟨rfl, rfl⟩ ⟨by decide, by decide⟩ ?_
            refine k_workName zdoN_le ?_
            refine Z_iret dX11_of_75 rfl rfl ⟨by decide, by decide⟩ ?_
            first
              | exact h β hr1 hf1
              | exact h α hr frC.rf
          · skip
            rw [if_pos ((nI_eq (a := A.1.1 (6 + i)) (b := 0) (by omega) (by omega)).mp h55)] at h
            refine Z_bipush (v := -5) dX11_of_58 (by decide) ?_
            refine Z_goto (tgt := 75) dX11_of_60 (by decide) ?_
            refine Z_iret dX11_of_75 rfl rfl ⟨by decide, by decide⟩ ?_
            first
              | exact h β hr1 hf1
              | exact h α hr frC.rf
        · skip
          refine Z_iconst (v := -1) dX11_of_41 (by decide) ?_
          refine Z_iret dX11_of_42 rfl rfl ⟨by decide, by decide⟩ ?_
          rw [if_neg (fun z => dec_f h38 (key.mpr z))] at h; exact h α hr frC.rf
      · skip
        refine Z_aload_n dX11_of_26 rfl rfl ?_
        refine Z_wget dX11_of_27 fw_X11_137 (by decide) ho ?_
        rw [hv]
        refine Z_iret dX11_of_30 rfl rfl ⟨by decide, by decide⟩ ?_
        rw [if_pos h23] at h; exact h α hr frC.rf
    · skip
      refine Z_aload_n dX11_of_16 rfl rfl ?_
      refine Z_wget dX11_of_17 fw_X11_132 (by decide) ho ?_
      rw [hk]
      refine Z_iret dX11_of_20 rfl rfl ⟨by decide, by decide⟩ ?_
      rw [if_pos h13] at h; exact h α hr frC.rf
  · have e1 : sp_of A.1 w x = -1 := if_neg hz
    rw [e1] at h
    refine ZK.of (n := 1) (by decide) (Nat.le_of_ble_eq_true rfl) rfl ?_
    refine Z_aload_n dX11_of_0 rfl rfl ?_
    refine Z_iload_n dX11_of_1 rfl rfl ?_
    refine Z_V1z (ci := 11) dX11_of_2 to_X11_workerAt lk_X11_114 iv_X11_workerAt ⟨rfl, rfl⟩ (cw_i0 hw) (Nat.le_of_ble_eq_true rfl) ⟨rfl, rfl⟩ ⟨by decide, by decide⟩ ?_
    refine k_wAt0 hr hz ?_
    refine Z_astore_nN (L' := [_, _, _, _]) dX11_of_5 rfl (by decide) rfl rfl ?_
    refine Z_aload_nN dX11_of_6 rfl rfl ?_
    refine Z_ifnonnullN dX11_of_7 ?_
    refine Z_iconst (v := -1) dX11_of_10 (by decide) ?_
    refine Z_iret dX11_of_11 rfl rfl ⟨by decide, by decide⟩ ?_
    exact h α hr frC.rf
theorem CRel.held (hr : CRel Γ A α) : ∃ v, hP α 5 6 = some v ∧ vOk (Γ v) ∧ (∃ c w e p, vO α v c w e p (Γ v)) ∧ vMat (Γ v) A.1 := by
  obtain ⟨v, h1, h2, h3⟩ := hr.2.2.2.1.2.2.1
  exact ⟨v, h1, h2.1, h2.2, h3⟩
theorem k_draw {w x : Int32} (hr : CRel Γ A α) (h : ∀ β, CRel Γ (sp_draw A w x).2 β → frC α β → post (some (.int (sp_draw A w x).1)) β) : ZK G (d + 55) mX11_draw [.ref (G.1 + 0), .int w, .int x] α post := by
  have hw := hr.1
  have b5 : A.1.1 5 ≤ 99 := hr.sb.at (by omega) rfl
  have zq1 := zq_ok hr.sb
  have v5 := hr.2.2.2.1.2.1.1
  by_cases hz : 0 ≤ w ∧ w ≤ nI (A.1.1 0) - 1
  · obtain ⟨j, c, hj, hj8, rfl, hp, ho⟩ := hr.wk hz
    refine ZK.of (n := 3) (by decide) (Nat.le_of_ble_eq_true rfl) rfl ?_
    refine Z_aload_n dX11_draw_0 rfl rfl ?_
    refine Z_iload_n dX11_draw_1 rfl rfl ?_
    refine Z_V1z (ci := 11) dX11_draw_2 to_X11_workerAt lk_X11_114 iv_X11_workerAt ⟨rfl, rfl⟩ (cw_i0 hw) (Nat.le_of_ble_eq_true rfl) ⟨rfl, rfl⟩ ⟨by decide, by decide⟩ ?_
    refine k_wAt1 hr hj hp ?_
    refine Z_astore_n (L' := [_, _, _, _, _, _]) dX11_draw_5 rfl (by decide) rfl rfl ?_
    refine Z_aload_n dX11_draw_6 rfl rfl ?_
    refine Z_ifnull dX11_draw_7 ?_
    refine Z_iload_n dX11_draw_10 rfl rfl ?_
    refine Z_S1z dX11_draw_11 to_X11_isSort lk_X11_118 sc_X11_isSort (Nat.le_of_ble_eq_true rfl) ⟨rfl, rfl⟩ ⟨by decide, by decide⟩ ?_
    refine k_isSort ?_
    refine Z_if_ne (tgt := 21) dX11_draw_14 (by decide) (fun h14 => ?_) (fun h14 => ?_)
    · skip
      obtain ⟨s, hs, rfl⟩ := okS.nI (dec_t h14)
      have b := zsb hr.sb hs
      have hbg := hr.2.2.2.1.1.1 s (by omega)
      have es : sp_draw A (nI j) (nI s) = if A.1.1 (6 + s) = 0 ∨ A.1.1 5 = 99 then (-1002, A) else (nI (zpays (sp_pay A.1.1) (zd (zq A.1.1) s) (zdoN A.1 j s)), zdrawn A s (zdoN A.1 j s)) := by
        unfold sp_draw
        rw [if_pos ⟨hz, dec_t h14⟩, nI_clamp (by omega), nI_clamp (by omega)]
      rw [es] at h
      refine Z_aload_n dX11_draw_21 rfl rfl ?_
      refine Z_getR dX11_draw_22 cl_11 fl_X11_21_11 rfl (cw_i0 hw) (cw_p0_0 hw) ?_
      refine Z_getR dX11_draw_25 cl_5 fl_X11_51_5 rfl (cw_i5 hw) (cw_p5_0 hw) ?_
      refine Z_iload_n dX11_draw_28 rfl rfl ?_
      refine Z_ialdv dX11_draw_29 (cw_i6 hw) (zix_nI (m := s) (by omega) (by decide)) hbg ?_
      refine Z_if_eq (tgt := 45) dX11_draw_30 (by decide) (fun h30 => ?_) (fun h30 => ?_)
      · skip
        refine Z_sipush (v := -1002) dX11_draw_45 (by decide) ?_
        refine Z_iret dX11_draw_48 rfl rfl ⟨by decide, by decide⟩ ?_
        rw [if_pos (by first | exact Or.inl ((nI_eq (b := 0) (by omega) (by omega)).mp h30) | exact Or.inr (by have : ¬ A.1.1 5 < 99 := fun y => h42 (nI_lt (b := 99) y (by omega)); omega))] at h
        exact h α hr frC.rf
      · skip
        refine Z_aload_n dX11_draw_33 rfl rfl ?_
        refine Z_getR dX11_draw_34 cl_11 fl_X11_21_11 rfl (cw_i0 hw) (cw_p0_0 hw) ?_
        refine Z_getIv dX11_draw_37 cl_5 fl_X11_83_5 rfl (cw_i5 hw) v5 ?_
        refine Z_bipush (v := 99) dX11_draw_40 (by decide) ?_
        refine Z_icmp_lt (tgt := 49) dX11_draw_42 (by decide) (fun h42 => ?_) (fun h42 => ?_)
        · skip
          have hp0 : ¬ A.1.1 (6 + s) = 0 := fun z => h30 (by rw [z]; rfl)
          have hd99 : ¬ A.1.1 5 = 99 := fun z => by rw [z] at h42; exact absurd h42 (by decide)
          rw [if_neg (fun z => z.elim hp0 hd99)] at h
          have hps : 0 < zl (zq A.1.1) s := by rw [zq1.2.2.1 s (by omega)]; omega
          have ok := zd_ok zq1.1 (show s < 3 by omega) hps
          have hgo := zway_ok (S := A.1) (T := A.1.1 5 + zrest A.1.1) (w := j) (zd (zq A.1.1) s) s
          have hgg : zdoN A.1 j s < 3 → zg (zq A.1.1) (zdoN A.1 j s) < 2 := fun z => by
            have := hgo.elim (fun y => absurd (show zdoN A.1 j s = 3 from y) (by omega)) (fun y => y.2)
            rw [ok.2.2.2.2] at this; exact this
          refine Z_aload_n dX11_draw_49 rfl rfl ?_
          refine Z_aload_n dX11_draw_50 rfl rfl ?_
          refine Z_iload_n dX11_draw_51 rfl rfl ?_
          refine Z_V2z (ci := 11) dX11_draw_52 to_X11_workNow lk_X11_140 iv_X11_workNow ⟨rfl, rfl⟩ (cw_i0 hw) (Nat.le_of_ble_eq_true rfl) ⟨rfl, rfl⟩ ⟨by decide, by decide⟩ ?_
          refine k_workNow hr hj8 ho (by omega) hp0 (fun β hr1 hf1 g1 g2 g3 => ?_)
          have hw := hr1.1
          obtain ⟨v, hp5, hvk, ⟨cc, ww, ee, pp, hv⟩, hvm⟩ := hr1.held
          have ss1 : hI β 5 3 = nI (cgs (zq A.1.1)) := by rw [zss_q hr.sb]; exact hr1.2.2.2.1.2.1.2.1
          refine Z_istore (L' := [_, _, _, _, _, _]) dX11_draw_55 (by decide) rfl rfl ?_
          refine Z_aload_n dX11_draw_57 rfl rfl ?_
          refine Z_getR dX11_draw_58 cl_11 fl_X11_21_11 rfl (cw_i0 hw) (cw_p0_0 hw) ?_
          refine Z_getR dX11_draw_61 cl_5 fl_X11_76_5 rfl (cw_i5 hw) hp5 ?_
          refine Z_iload dX11_draw_64 rfl ?_
          refine Z_aload_n dX11_draw_66 rfl rfl ?_
          refine Z_getR dX11_draw_67 cl_11 fl_X11_21_11 rfl (cw_i0 hw) (cw_p0_0 hw) ?_
          refine Z_getIv dX11_draw_70 cl_5 fl_X11_93_5 rfl (cw_i5 hw) ss1 ?_
          refine Z_V2z (ci := 8) dX11_draw_73 to_X8_gain lk_X11_147 iv_X8_gain ⟨rfl, rfl⟩ hv.2.1 (Nat.le_of_ble_eq_true rfl) ⟨rfl, rfl⟩ ⟨by decide, by decide⟩ ?_
          refine k_gain hv cgs_lt zdoN_le ?_
          rw [zgn_p zdoN_le hvm.2.1]
          refine Z_istore (L' := [_, _, _, _, _, _]) dX11_draw_76 (by decide) rfl rfl ?_
          refine Z_aload_n dX11_draw_78 rfl rfl ?_
          refine Z_getR dX11_draw_79 cl_11 fl_X11_21_11 rfl (cw_i0 hw) (cw_p0_0 hw) ?_
          refine Z_iload dX11_draw_82 rfl ?_
          refine Z_aload_n dX11_draw_84 rfl rfl ?_
          refine Z_getR dX11_draw_85 cl_11 fl_X11_21_11 rfl (cw_i0 hw) (cw_p0_0 hw) ?_
          refine Z_getIv dX11_draw_88 cl_5 fl_X11_93_5 rfl (cw_i5 hw) ss1 ?_
          refine Z_S2z dX11_draw_91 to_X11_after lk_X11_150 sc_X11_after (Nat.le_of_ble_eq_true rfl) ⟨rfl, rfl⟩ ⟨by decide, by decide⟩ ?_
          refine k_after zdoN_le ?_
          rw [cgs_do zq1.1 zdoN_le hgg]
          refine Z_putI dX11_draw_94 cl_5 fl_X11_93_5 (Or.inl fn_5_3) rfl (cw_i5 hw) rfl rfl ?_
          refine Z_aload_n dX11_draw_97 rfl rfl ?_
          refine Z_getR dX11_draw_98 cl_11 fl_X11_21_11 rfl (cw_i0 hw) (cw_p0_0 hw) ?_
          refine Z_getR dX11_draw_101 cl_5 fl_X11_51_5 rfl (cw_i5 hw) (cw_p5_0 hw) ?_
          refine Z_iload_n dX11_draw_104 rfl rfl ?_
          refine Z_dup2 dX11_draw_105 rfl rfl ?_
          refine Z_ialdv dX11_draw_106 (cw_i6 hw) (zix_nI (m := s) (by omega) (by decide)) (show _ = nI (A.1.1 (6 + s)) by rw [sI_ne (by decide)]; exact hr1.2.2.2.1.1.1 s (by omega)) ?_
          refine Z_iconst (v := 1) dX11_draw_107 (by decide) ?_
          refine Z_isub dX11_draw_108 ?_
          refine Z_iast dX11_draw_109 (cw_i6 hw) (zix_nI (m := s) (by omega) (by decide)) ?_
          refine Z_aload_n dX11_draw_110 rfl rfl ?_
          refine Z_getR dX11_draw_111 cl_11 fl_X11_21_11 rfl (cw_i0 hw) (cw_p0_0 hw) ?_
          refine Z_dup dX11_draw_114 rfl ?_
          refine Z_getIv dX11_draw_115 cl_5 fl_X11_83_5 rfl (cw_i5 hw) (show _ = nI (A.1.1 5) by rw [sI_ne (by decide), hI_sI, if_neg (by omega)]; exact hr1.2.2.2.1.2.1.1) ?_
          refine Z_iconst (v := 1) dX11_draw_118 (by decide) ?_
          refine Z_iadd dX11_draw_119 ?_
          refine Z_putI dX11_draw_120 cl_5 fl_X11_83_5 (Or.inl fn_5_2) rfl (cw_i5 hw) rfl rfl ?_
          refine Z_iload dX11_draw_123 rfl ?_
          refine Z_iret dX11_draw_125 rfl rfl ⟨by decide, by decide⟩ ?_
          have rr : CRel Γ (zdrawn A s (zdoN A.1 j s)) (sI (sI (sI β 5 3 (nI (cgs (zdw (zq A.1.1) (zdoN A.1 j s))))) 6 s (nI (A.1.1 (6 + s)) - 1)) 5 2 (nI (A.1.1 5) + 1)) := by
            rw [nI_1, show nI (A.1.1 (6 + s)) - 1 = nI (A.1.1 (6 + s) - 1) from nI_s (b := 1) (by omega)]
            unfold zdrawn
            by_cases h3 : zdoN A.1 j s = 3
            · rw [if_pos h3, h3, show zdw (zq A.1.1) 3 = zq A.1.1 from if_pos rfl, ← ss1, sI_self]
              exact (hr1.bag (by omega) (by omega)).day (by omega)
            · have hk3 : zdoN A.1 j s < 3 := by have := zdoN_le (S := A.1) (w := j) (s := s); omega
              have gl := hgg hk3
              rw [zq1.2.2.2 _ hk3] at gl
              rw [if_neg h3]
              have r1 := (hr1.stg (k := zdoN A.1 j s) (m := A.1.1 (9 + zdoN A.1 j s) + 1) hk3 (by omega))
              have e9 : zss (zset A (9 + zdoN A.1 j s) (A.1.1 (9 + zdoN A.1 j s) + 1)).1.1 = cgs (zdw (zq A.1.1) (zdoN A.1 j s)) := by
                have hsb : SB (zset A (9 + zdoN A.1 j s) (A.1.1 (9 + zdoN A.1 j s) + 1)).1.1 := r1.sb
                have ok3 := zdo_ok zq1.1 hk3 (hgg hk3)
                unfold cgs zss
                rw [show zdw (zq A.1.1) (zdoN A.1 j s) = zdo (zq A.1.1) (zdoN A.1 j s) from if_neg h3]
                have f : ∀ i, i < 3 → (zset A (9 + zdoN A.1 j s) (A.1.1 (9 + zdoN A.1 j s) + 1)).1.1 (9 + i) = zg (zdo (zq A.1.1) (zdoN A.1 j s)) i := fun i hi => by
                  rw [ok3.2.2 i hi]
                  show u1 A.1.1 _ _ (9 + i) = _
                  by_cases e : i = zdoN A.1 j s
                  · rw [if_pos e, e, u1_s, zq1.2.2.2 _ hk3]
                  · rw [if_neg e, u1_n (by omega), zq1.2.2.2 i hi]
                rw [← f 0 (by omega), ← f 1 (by omega), ← f 2 (by omega)]
              rw [e9] at r1
              have r2 := (r1.bag (j := s) (m := A.1.1 (6 + s) - 1) (by omega) (by omega)).day (m := A.1.1 5 + 1) (by omega)
              have ez : zset (zset (zset A (9 + zdoN A.1 j s) (A.1.1 (9 + zdoN A.1 j s) + 1)) (6 + s) (A.1.1 (6 + s) - 1)) 5 (A.1.1 5 + 1) = zset (zset (zset A (6 + s) (A.1.1 (6 + s) - 1)) 5 (A.1.1 5 + 1)) (9 + zdoN A.1 j s) (A.1.1 (9 + zdoN A.1 j s) + 1) := by
                unfold zset
                have : u1 (u1 (u1 A.1.1 (9 + zdoN A.1 j s) (A.1.1 (9 + zdoN A.1 j s) + 1)) (6 + s) (A.1.1 (6 + s) - 1)) 5 (A.1.1 5 + 1) = u1 (u1 (u1 A.1.1 (6 + s) (A.1.1 (6 + s) - 1)) 5 (A.1.1 5 + 1)) (9 + zdoN A.1 j s) (A.1.1 (9 + zdoN A.1 j s) + 1) := by
                  funext i
                  unfold u1
                  by_cases h1 : i = 5
                  · rw [if_pos h1, if_neg (by omega), if_pos h1]
                  · rw [if_neg h1]
                    by_cases h2 : i = 6 + s
                    · rw [if_pos h2, if_neg (by omega), if_neg h1, if_pos h2]
                    · rw [if_neg h2, if_neg h1, if_neg h2]
                show ((u1 (u1 (u1 A.1.1 _ _) _ _) _ _, A.1.2), A.2) = _
                rw [this]
              rw [ez] at r2
              exact r2
          have ep : zpays (sp_pay A.1.1) (zd (zq A.1.1) s) (zdoN A.1 j s) = zpays (sp_pay A.1.1) (zq A.1.1) (zdoN A.1 j s) := by
            unfold zpays
            rw [ok.2.2.2.2]
          rw [ep] at h
          have hfc : frC α (sI (sI (sI β 5 3 (nI (cgs (zdw (zq A.1.1) (zdoN A.1 j s))))) 6 s (nI (A.1.1 (6 + s)) - 1)) 5 2 (nI (A.1.1 5) + 1)) := ((hf1.pIn (Or.inl (by unfold cId; omega))).pIn (Or.inl (by unfold cId; omega))).pIn (Or.inl (by unfold cId; omega))
          exact h _ rr hfc
        · skip
          refine Z_sipush (v := -1002) dX11_draw_45 (by decide) ?_
          refine Z_iret dX11_draw_48 rfl rfl ⟨by decide, by decide⟩ ?_
          rw [if_pos (by first | exact Or.inl ((nI_eq (b := 0) (by omega) (by omega)).mp h30) | exact Or.inr (by have : ¬ A.1.1 5 < 99 := fun y => h42 (nI_lt (b := 99) y (by omega)); omega))] at h
          exact h α hr frC.rf
    · skip
      refine Z_sipush (v := -1001) dX11_draw_17 (by decide) ?_
      refine Z_iret dX11_draw_20 rfl rfl ⟨by decide, by decide⟩ ?_
      have e : sp_draw A (nI j) x = (-1001, A) := if_neg (fun z => dec_f h14 z.2)
      rw [e] at h; exact h α hr frC.rf
  · have e1 : sp_draw A w x = (-1001, A) := if_neg (fun z => hz z.1)
    rw [e1] at h
    refine ZK.of (n := 3) (by decide) (Nat.le_of_ble_eq_true rfl) rfl ?_
    refine Z_aload_n dX11_draw_0 rfl rfl ?_
    refine Z_iload_n dX11_draw_1 rfl rfl ?_
    refine Z_V1z (ci := 11) dX11_draw_2 to_X11_workerAt lk_X11_114 iv_X11_workerAt ⟨rfl, rfl⟩ (cw_i0 hw) (Nat.le_of_ble_eq_true rfl) ⟨rfl, rfl⟩ ⟨by decide, by decide⟩ ?_
    refine k_wAt0 hr hz ?_
    refine Z_astore_nN (L' := [_, _, _, _, _, _]) dX11_draw_5 rfl (by decide) rfl rfl ?_
    refine Z_aload_nN dX11_draw_6 rfl rfl ?_
    refine Z_ifnullN (tgt := 17) dX11_draw_7 (by decide) ?_
    refine Z_sipush (v := -1001) dX11_draw_17 (by decide) ?_
    refine Z_iret dX11_draw_20 rfl rfl ⟨by decide, by decide⟩ ?_
    exact h α hr frC.rf
end CK3
