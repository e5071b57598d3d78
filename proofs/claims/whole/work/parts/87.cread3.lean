section CR3
variable {G : ZG} {d : Nat} {α : AH} {post : Option Value → AH → Prop} {τ : Nat → Nat} {N p o c : Nat} {f : Nat → Int32}
theorem k_fac0 (ho : o = 5) : kRd G α τ N o (d + 9) mX4_factor (pFac τ N 0) := by
  subst ho
  intro f p c post hC hp hcp h
  have hw : CW (RS α f p c) := hC.1
  have hp0 : hP (RS α f p c) 17 0 = some 8 := hC.2.1
  unfold pFac at h
  refine ZK.of (n := 1) (by decide) (Nat.le_of_ble_eq_true rfl) rfl ?_
  by_cases hz : p < N ∧ τ p = 33
  · rw [if_pos ⟨hz.1, Or.inl hz.2⟩] at h
    refine Z_aload_n dX4_factor_0 rfl rfl ?_
    refine Z_bipush (v := 33) dX4_factor_1 (by decide) ?_
    refine Z_V1z (ci := 4) dX4_factor_3 to_X4_sees lk_X4_71 iv_X4_sees ⟨rfl, rfl⟩ (cw_i17 hw) (Nat.le_of_ble_eq_true rfl) ⟨rfl, rfl⟩ ⟨by decide, by decide⟩ ?_
    refine k_sees (ch := 33) hC hp (by omega) (fun _ => ?_) (fun z => absurd hz z)
    refine Z_if_ne (tgt := 18) dX4_factor_6 (by decide) (fun h6 => ?_) (fun h6 => ?_)
    · skip
      refine Z_iconst (v := 1) dX4_factor_18 (by decide) ?_
      refine Z_goto (tgt := 23) dX4_factor_19 (by decide) ?_
      refine Z_istore_n (L' := [_, _, _]) dX4_factor_23 rfl (by decide) rfl rfl ?_
      refine Z_iload_n dX4_factor_24 rfl rfl ?_
      refine Z_if_ne (tgt := 33) dX4_factor_25 (by decide) (fun h25 => ?_) (fun h25 => ?_)
      · skip
        refine Z_iload_n dX4_factor_33 rfl rfl ?_
        refine Z_iconst (v := 5) dX4_factor_34 (by decide) ?_
        refine Z_icmp_lt (tgt := 40) dX4_factor_35 (by decide) (fun h35 => ?_) (fun h35 => ?_)
        · skip
          exact absurd h35 (by decide)
        · skip
          refine Z_iconst (v := 0) dX4_factor_38 (by decide) ?_
          refine Z_iret dX4_factor_39 rfl rfl ⟨by decide, by decide⟩ ?_
          exact h
      · skip
        exact absurd h25 (by decide)
    · skip
      exact absurd h6 (by decide)
  · by_cases hy : p < N ∧ τ p = 40
    · rw [if_pos ⟨hy.1, Or.inr hy.2⟩] at h
      refine Z_aload_n dX4_factor_0 rfl rfl ?_
      refine Z_bipush (v := 33) dX4_factor_1 (by decide) ?_
      refine Z_V1z (ci := 4) dX4_factor_3 to_X4_sees lk_X4_71 iv_X4_sees ⟨rfl, rfl⟩ (cw_i17 hw) (Nat.le_of_ble_eq_true rfl) ⟨rfl, rfl⟩ ⟨by decide, by decide⟩ ?_
      refine k_sees (ch := 33) hC hp (by omega) (fun z => absurd z hz) (fun _ => ?_)
      refine Z_if_ne (tgt := 18) dX4_factor_6 (by decide) (fun h6 => ?_) (fun h6 => ?_)
      · skip
        exact absurd rfl h6
      · skip
        refine Z_aload_n dX4_factor_9 rfl rfl ?_
        refine Z_bipush (v := 40) dX4_factor_10 (by decide) ?_
        refine Z_V1z (ci := 4) dX4_factor_12 to_X4_sees lk_X4_71 iv_X4_sees ⟨rfl, rfl⟩ (cw_i17 hw) (Nat.le_of_ble_eq_true rfl) ⟨rfl, rfl⟩ ⟨by decide, by decide⟩ ?_
        refine k_sees (ch := 40) hC hp (by omega) (fun _ => ?_) (fun z => absurd hy z)
        refine Z_if_eq (tgt := 22) dX4_factor_15 (by decide) (fun h15 => ?_) (fun h15 => ?_)
        · skip
          exact absurd h15 (by decide)
        · skip
          refine Z_iconst (v := 1) dX4_factor_18 (by decide) ?_
          refine Z_goto (tgt := 23) dX4_factor_19 (by decide) ?_
          refine Z_istore_n (L' := [_, _, _]) dX4_factor_23 rfl (by decide) rfl rfl ?_
          refine Z_iload_n dX4_factor_24 rfl rfl ?_
          refine Z_if_ne (tgt := 33) dX4_factor_25 (by decide) (fun h25 => ?_) (fun h25 => ?_)
          · skip
            refine Z_iload_n dX4_factor_33 rfl rfl ?_
            refine Z_iconst (v := 5) dX4_factor_34 (by decide) ?_
            refine Z_icmp_lt (tgt := 40) dX4_factor_35 (by decide) (fun h35 => ?_) (fun h35 => ?_)
            · skip
              exact absurd h35 (by decide)
            · skip
              refine Z_iconst (v := 0) dX4_factor_38 (by decide) ?_
              refine Z_iret dX4_factor_39 rfl rfl ⟨by decide, by decide⟩ ?_
              exact h
          · skip
            exact absurd h25 (by decide)
    · rw [if_neg (fun z => z.2.elim (fun y => hz ⟨z.1, y⟩) (fun y => hy ⟨z.1, y⟩))] at h
      refine Z_aload_n dX4_factor_0 rfl rfl ?_
      refine Z_bipush (v := 33) dX4_factor_1 (by decide) ?_
      refine Z_V1z (ci := 4) dX4_factor_3 to_X4_sees lk_X4_71 iv_X4_sees ⟨rfl, rfl⟩ (cw_i17 hw) (Nat.le_of_ble_eq_true rfl) ⟨rfl, rfl⟩ ⟨by decide, by decide⟩ ?_
      refine k_sees (ch := 33) hC hp (by omega) (fun z => absurd z hz) (fun _ => ?_)
      refine Z_if_ne (tgt := 18) dX4_factor_6 (by decide) (fun h6 => ?_) (fun h6 => ?_)
      · skip
        exact absurd rfl h6
      · skip
        refine Z_aload_n dX4_factor_9 rfl rfl ?_
        refine Z_bipush (v := 40) dX4_factor_10 (by decide) ?_
        refine Z_V1z (ci := 4) dX4_factor_12 to_X4_sees lk_X4_71 iv_X4_sees ⟨rfl, rfl⟩ (cw_i17 hw) (Nat.le_of_ble_eq_true rfl) ⟨rfl, rfl⟩ ⟨by decide, by decide⟩ ?_
        refine k_sees (ch := 40) hC hp (by omega) (fun z => absurd z hy) (fun _ => ?_)
        refine Z_if_eq (tgt := 22) dX4_factor_15 (by decide) (fun h15 => ?_) (fun h15 => ?_)
        · skip
          refine Z_iconst (v := 0) dX4_factor_22 (by decide) ?_
          refine Z_istore_n (L' := [_, _, _]) dX4_factor_23 rfl (by decide) rfl rfl ?_
          refine Z_iload_n dX4_factor_24 rfl rfl ?_
          refine Z_if_ne (tgt := 33) dX4_factor_25 (by decide) (fun h25 => ?_) (fun h25 => ?_)
          · skip
            exact absurd rfl h25
          · skip
            refine Z_aload_n dX4_factor_28 rfl rfl ?_
            refine Z_V0z (ci := 4) dX4_factor_29 to_X4_testing lk_X4_132 iv_X4_testing ⟨rfl, rfl⟩ (cw_i17 hw) (Nat.le_of_ble_eq_true rfl) ⟨rfl, rfl⟩ ⟨by decide, by decide⟩ ?_
            refine k_testing hC hp hcp ?_
            refine Z_iret dX4_factor_32 rfl (by cases (pTest τ N p).1 <;> rfl) ⟨by decide, by decide⟩ ?_
            exact h
        · skip
          exact absurd rfl h15
theorem k_fac {k : Nat} (ho : o < 5) (hF : kRd G α τ N (o + 1) (d + 10) mX4_factor (pFac τ N k)) (hS : kRd G α τ N (o + 1) (d + 10) mX4_either (pSom τ N (pFac τ N k))) : kRd G α τ N o (d + 11) mX4_factor (pFac τ N (k + 1)) := by
  intro f p c post hC hp hcp h
  have hN := hC.2.2.2.1
  have hw : CW (RS α f p c) := hC.1
  have hp0 : hP (RS α f p c) 17 0 = some 8 := hC.2.1
  unfold pFac at h
  refine ZK.of (n := 1) (by decide) (Nat.le_of_ble_eq_true rfl) rfl ?_
  by_cases hz : p < N ∧ τ p = 33
  · rw [if_pos hz] at h
    have hq := pFac_ok (τ := τ) (N := N) k (p + 1) (by omega)
    generalize hQ : pFac τ N k (p + 1) = Q at *
    cases hq1 : Q.1 with
    | true =>
      rw [if_pos hq1] at h
      have hl := hq.2.2.2 hq1
      have ez2 : u1 (fem f c (Q.2.2.map vEnc)) (c + Q.2.2.length) (-1) = fem f c ((Q.2.2 ++ [(5, 0, 0)]).map vEnc) := by
        rw [List.map_append, fem_app, List.length_map]; rfl
      have el : c + Q.2.2.length + 1 = c + (Q.2.2 ++ [((5, 0, 0) : ZOp)]).length := by rw [List.length_append]; rfl
      refine Z_aload_n dX4_factor_0 rfl rfl ?_
      refine Z_bipush (v := 33) dX4_factor_1 (by decide) ?_
      refine Z_V1z (ci := 4) dX4_factor_3 to_X4_sees lk_X4_71 iv_X4_sees ⟨rfl, rfl⟩ (cw_i17 hw) (Nat.le_of_ble_eq_true rfl) ⟨rfl, rfl⟩ ⟨by decide, by decide⟩ ?_
      refine k_sees (ch := 33) hC hp (by omega) (fun _ => ?_) (fun z => absurd hz z)
      refine Z_if_ne (tgt := 18) dX4_factor_6 (by decide) (fun h6 => ?_) (fun h6 => ?_)
      · skip
        refine Z_iconst (v := 1) dX4_factor_18 (by decide) ?_
        refine Z_goto (tgt := 23) dX4_factor_19 (by decide) ?_
        refine Z_istore_n (L' := [_, _, _]) dX4_factor_23 rfl (by decide) rfl rfl ?_
        refine Z_iload_n dX4_factor_24 rfl rfl ?_
        refine Z_if_ne (tgt := 33) dX4_factor_25 (by decide) (fun h25 => ?_) (fun h25 => ?_)
        · skip
          refine Z_iload_n dX4_factor_33 rfl rfl ?_
          refine Z_iconst (v := 5) dX4_factor_34 (by decide) ?_
          refine Z_icmp_lt (tgt := 40) dX4_factor_35 (by decide) (fun h35 => ?_) (fun h35 => ?_)
          · skip
            refine Z_aload_n dX4_factor_40 rfl rfl ?_
            refine Z_bipush (v := 40) dX4_factor_41 (by decide) ?_
            refine Z_V1z (ci := 4) dX4_factor_43 to_X4_eats lk_X4_53 iv_X4_eats ⟨rfl, rfl⟩ (cw_i17 hw) (Nat.le_of_ble_eq_true rfl) ⟨rfl, rfl⟩ ⟨by decide, by decide⟩ ?_
            refine k_eats (ch := 40) hC hp (by omega) (fun z => absurd z (by omega)) (fun _ => ?_)
            refine Z_if_eq (tgt := 74) dX4_factor_46 (by decide) (fun h46 => ?_) (fun h46 => ?_)
            · skip
              refine Z_aload_n dX4_factor_74 rfl rfl ?_
              refine Z_dup dX4_factor_75 rfl ?_
              refine Z_getIv dX4_factor_76 cl_4 fl_X4_31_4 rfl (cw_i17 hw) RS_2 ?_
              refine Z_iconst (v := 1) dX4_factor_79 (by decide) ?_
              refine Z_iadd dX4_factor_80 ?_
              refine Z_putI dX4_factor_81 cl_4 fl_X4_31_4 (Or.inl fn_4_2) rfl (cw_i17 hw) rfl rfl ?_
              rw [nI_1, RS_at]
              refine Z_aload_n dX4_factor_84 rfl rfl ?_
              refine Z_iload_n dX4_factor_85 rfl rfl ?_
              refine Z_iconst (v := 1) dX4_factor_86 (by decide) ?_
              refine Z_iadd dX4_factor_87 ?_
              rw [nI_1]
              refine Z_V1z (ci := 4) dX4_factor_88 to_X4_factor lk_X4_129 iv_X4_factor ⟨rfl, rfl⟩ (cw_i17 hw) (Nat.le_of_ble_eq_true rfl) ⟨rfl, rfl⟩ ⟨by decide, by decide⟩ ?_
              refine hF f (p + 1) c _ hC (by omega) (by omega) ?_
              rw [hQ, hq1]
              refine Z_if_ne (tgt := 96) dX4_factor_91 (by decide) (fun h91 => ?_) (fun h91 => ?_)
              · skip
                refine Z_aload_n dX4_factor_96 rfl rfl ?_
                refine Z_iconst (v := -1) dX4_factor_97 (by decide) ?_
                refine Z_V1z (ci := 4) dX4_factor_98 to_X4_emit lk_X4_125 iv_X4_emit ⟨rfl, rfl⟩ (cw_i17 hw) (Nat.le_of_ble_eq_true rfl) ⟨rfl, rfl⟩ ⟨by decide, by decide⟩ ?_
                refine k_emit hC (by omega) ?_
                rw [ez2, el]
                refine Z_iconst (v := 1) dX4_factor_101 (by decide) ?_
                refine Z_iret dX4_factor_102 rfl rfl ⟨by decide, by decide⟩ ?_
                exact h
              · skip
                exact absurd h91 (by decide)
            · skip
              exact absurd rfl h46
          · skip
            exact absurd (nI_lt (a := o) (b := 5) ho (by omega)) h35
        · skip
          exact absurd h25 (by decide)
      · skip
        exact absurd h6 (by decide)
    | false =>
      rw [if_neg (fun z => by rw [hq1] at z; exact Bool.false_ne_true z), hq1] at h
      refine Z_aload_n dX4_factor_0 rfl rfl ?_
      refine Z_bipush (v := 33) dX4_factor_1 (by decide) ?_
      refine Z_V1z (ci := 4) dX4_factor_3 to_X4_sees lk_X4_71 iv_X4_sees ⟨rfl, rfl⟩ (cw_i17 hw) (Nat.le_of_ble_eq_true rfl) ⟨rfl, rfl⟩ ⟨by decide, by decide⟩ ?_
      refine k_sees (ch := 33) hC hp (by omega) (fun _ => ?_) (fun z => absurd hz z)
      refine Z_if_ne (tgt := 18) dX4_factor_6 (by decide) (fun h6 => ?_) (fun h6 => ?_)
      · skip
        refine Z_iconst (v := 1) dX4_factor_18 (by decide) ?_
        refine Z_goto (tgt := 23) dX4_factor_19 (by decide) ?_
        refine Z_istore_n (L' := [_, _, _]) dX4_factor_23 rfl (by decide) rfl rfl ?_
        refine Z_iload_n dX4_factor_24 rfl rfl ?_
        refine Z_if_ne (tgt := 33) dX4_factor_25 (by decide) (fun h25 => ?_) (fun h25 => ?_)
        · skip
          refine Z_iload_n dX4_factor_33 rfl rfl ?_
          refine Z_iconst (v := 5) dX4_factor_34 (by decide) ?_
          refine Z_icmp_lt (tgt := 40) dX4_factor_35 (by decide) (fun h35 => ?_) (fun h35 => ?_)
          · skip
            refine Z_aload_n dX4_factor_40 rfl rfl ?_
            refine Z_bipush (v := 40) dX4_factor_41 (by decide) ?_
            refine Z_V1z (ci := 4) dX4_factor_43 to_X4_eats lk_X4_53 iv_X4_eats ⟨rfl, rfl⟩ (cw_i17 hw) (Nat.le_of_ble_eq_true rfl) ⟨rfl, rfl⟩ ⟨by decide, by decide⟩ ?_
            refine k_eats (ch := 40) hC hp (by omega) (fun z => absurd z (by omega)) (fun _ => ?_)
            refine Z_if_eq (tgt := 74) dX4_factor_46 (by decide) (fun h46 => ?_) (fun h46 => ?_)
            · skip
              refine Z_aload_n dX4_factor_74 rfl rfl ?_
              refine Z_dup dX4_factor_75 rfl ?_
              refine Z_getIv dX4_factor_76 cl_4 fl_X4_31_4 rfl (cw_i17 hw) RS_2 ?_
              refine Z_iconst (v := 1) dX4_factor_79 (by decide) ?_
              refine Z_iadd dX4_factor_80 ?_
              refine Z_putI dX4_factor_81 cl_4 fl_X4_31_4 (Or.inl fn_4_2) rfl (cw_i17 hw) rfl rfl ?_
              rw [nI_1, RS_at]
              refine Z_aload_n dX4_factor_84 rfl rfl ?_
              refine Z_iload_n dX4_factor_85 rfl rfl ?_
              refine Z_iconst (v := 1) dX4_factor_86 (by decide) ?_
              refine Z_iadd dX4_factor_87 ?_
              rw [nI_1]
              refine Z_V1z (ci := 4) dX4_factor_88 to_X4_factor lk_X4_129 iv_X4_factor ⟨rfl, rfl⟩ (cw_i17 hw) (Nat.le_of_ble_eq_true rfl) ⟨rfl, rfl⟩ ⟨by decide, by decide⟩ ?_
              refine hF f (p + 1) c _ hC (by omega) (by omega) ?_
              rw [hQ, hq1]
              refine Z_if_ne (tgt := 96) dX4_factor_91 (by decide) (fun h91 => ?_) (fun h91 => ?_)
              · skip
                exact absurd rfl h91
              · skip
                refine Z_iconst (v := 0) dX4_factor_94 (by decide) ?_
                refine Z_iret dX4_factor_95 rfl rfl ⟨by decide, by decide⟩ ?_
                exact h
            · skip
              exact absurd rfl h46
          · skip
            exact absurd (nI_lt (a := o) (b := 5) ho (by omega)) h35
        · skip
          exact absurd h25 (by decide)
      · skip
        exact absurd h6 (by decide)
  · rw [if_neg hz] at h
    by_cases hy : p < N ∧ τ p = 40
    · rw [if_pos hy] at h
      have hq := pSom_ok (τ := τ) (pFac_ok (τ := τ) (N := N) k) (p + 1) (by omega)
      generalize hQ : pSom τ N (pFac τ N k) (p + 1) = Q at *
      cases hq1 : Q.1 with
      | true =>
        by_cases h41 : Q.2.1 < N ∧ τ Q.2.1 = 41
        · rw [if_pos ⟨hq1, h41⟩] at h
          refine Z_aload_n dX4_factor_0 rfl rfl ?_
          refine Z_bipush (v := 33) dX4_factor_1 (by decide) ?_
          refine Z_V1z (ci := 4) dX4_factor_3 to_X4_sees lk_X4_71 iv_X4_sees ⟨rfl, rfl⟩ (cw_i17 hw) (Nat.le_of_ble_eq_true rfl) ⟨rfl, rfl⟩ ⟨by decide, by decide⟩ ?_
          refine k_sees (ch := 33) hC hp (by omega) (fun z => absurd z hz) (fun _ => ?_)
          refine Z_if_ne (tgt := 18) dX4_factor_6 (by decide) (fun h6 => ?_) (fun h6 => ?_)
          · skip
            exact absurd rfl h6
          · skip
            refine Z_aload_n dX4_factor_9 rfl rfl ?_
            refine Z_bipush (v := 40) dX4_factor_10 (by decide) ?_
            refine Z_V1z (ci := 4) dX4_factor_12 to_X4_sees lk_X4_71 iv_X4_sees ⟨rfl, rfl⟩ (cw_i17 hw) (Nat.le_of_ble_eq_true rfl) ⟨rfl, rfl⟩ ⟨by decide, by decide⟩ ?_
            refine k_sees (ch := 40) hC hp (by omega) (fun _ => ?_) (fun z => absurd hy z)
            refine Z_if_eq (tgt := 22) dX4_factor_15 (by decide) (fun h15 => ?_) (fun h15 => ?_)
            · skip
              exact absurd h15 (by decide)
            · skip
              refine Z_iconst (v := 1) dX4_factor_18 (by decide) ?_
              refine Z_goto (tgt := 23) dX4_factor_19 (by decide) ?_
              refine Z_istore_n (L' := [_, _, _]) dX4_factor_23 rfl (by decide) rfl rfl ?_
              refine Z_iload_n dX4_factor_24 rfl rfl ?_
              refine Z_if_ne (tgt := 33) dX4_factor_25 (by decide) (fun h25 => ?_) (fun h25 => ?_)
              · skip
                refine Z_iload_n dX4_factor_33 rfl rfl ?_
                refine Z_iconst (v := 5) dX4_factor_34 (by decide) ?_
                refine Z_icmp_lt (tgt := 40) dX4_factor_35 (by decide) (fun h35 => ?_) (fun h35 => ?_)
                · skip
                  refine Z_aload_n dX4_factor_40 rfl rfl ?_
                  refine Z_bipush (v := 40) dX4_factor_41 (by decide) ?_
                  refine Z_V1z (ci := 4) dX4_factor_43 to_X4_eats lk_X4_53 iv_X4_eats ⟨rfl, rfl⟩ (cw_i17 hw) (Nat.le_of_ble_eq_true rfl) ⟨rfl, rfl⟩ ⟨by decide, by decide⟩ ?_
                  refine k_eats (ch := 40) hC hp (by omega) (fun _ => ?_) (fun z => absurd hy z)
                  refine Z_if_eq (tgt := 74) dX4_factor_46 (by decide) (fun h46 => ?_) (fun h46 => ?_)
                  · skip
                    exact absurd h46 (by decide)
                  · skip
                    refine Z_aload_n dX4_factor_49 rfl rfl ?_
                    refine Z_iload_n dX4_factor_50 rfl rfl ?_
                    refine Z_iconst (v := 1) dX4_factor_51 (by decide) ?_
                    refine Z_iadd dX4_factor_52 ?_
                    rw [nI_1]
                    refine Z_V1z (ci := 4) dX4_factor_53 to_X4_either lk_X4_118 iv_X4_either ⟨rfl, rfl⟩ (cw_i17 hw) (Nat.le_of_ble_eq_true rfl) ⟨rfl, rfl⟩ ⟨by decide, by decide⟩ ?_
                    refine hS f (p + 1) c _ hC (by omega) (by omega) ?_
                    rw [hQ, hq1]
                    refine Z_if_eq (tgt := 72) dX4_factor_56 (by decide) (fun h56 => ?_) (fun h56 => ?_)
                    · skip
                      exact absurd h56 (by decide)
                    · skip
                      refine Z_aload_n dX4_factor_59 rfl rfl ?_
                      refine Z_bipush (v := 41) dX4_factor_60 (by decide) ?_
                      refine Z_V1z (ci := 4) dX4_factor_62 to_X4_eats lk_X4_53 iv_X4_eats ⟨rfl, rfl⟩ (cw_i17 hw) (Nat.le_of_ble_eq_true rfl) ⟨rfl, rfl⟩ ⟨by decide, by decide⟩ ?_
                      refine k_eats (ch := 41) hC hq.2.1 (by omega) (fun _ => ?_) (fun z => absurd h41 z)
                      refine Z_if_eq (tgt := 72) dX4_factor_65 (by decide) (fun h65 => ?_) (fun h65 => ?_)
                      · skip
                        exact absurd h65 (by decide)
                      · skip
                        refine Z_iconst (v := 1) dX4_factor_68 (by decide) ?_
                        refine Z_goto (tgt := 73) dX4_factor_69 (by decide) ?_
                        refine Z_iret dX4_factor_73 rfl rfl ⟨by decide, by decide⟩ ?_
                        exact h
                · skip
                  exact absurd (nI_lt (a := o) (b := 5) ho (by omega)) h35
              · skip
                exact absurd h25 (by decide)
        · rw [if_neg (fun z => h41 z.2)] at h
          refine Z_aload_n dX4_factor_0 rfl rfl ?_
          refine Z_bipush (v := 33) dX4_factor_1 (by decide) ?_
          refine Z_V1z (ci := 4) dX4_factor_3 to_X4_sees lk_X4_71 iv_X4_sees ⟨rfl, rfl⟩ (cw_i17 hw) (Nat.le_of_ble_eq_true rfl) ⟨rfl, rfl⟩ ⟨by decide, by decide⟩ ?_
          refine k_sees (ch := 33) hC hp (by omega) (fun z => absurd z hz) (fun _ => ?_)
          refine Z_if_ne (tgt := 18) dX4_factor_6 (by decide) (fun h6 => ?_) (fun h6 => ?_)
          · skip
            exact absurd rfl h6
          · skip
            refine Z_aload_n dX4_factor_9 rfl rfl ?_
            refine Z_bipush (v := 40) dX4_factor_10 (by decide) ?_
            refine Z_V1z (ci := 4) dX4_factor_12 to_X4_sees lk_X4_71 iv_X4_sees ⟨rfl, rfl⟩ (cw_i17 hw) (Nat.le_of_ble_eq_true rfl) ⟨rfl, rfl⟩ ⟨by decide, by decide⟩ ?_
            refine k_sees (ch := 40) hC hp (by omega) (fun _ => ?_) (fun z => absurd hy z)
            refine Z_if_eq (tgt := 22) dX4_factor_15 (by decide) (fun h15 => ?_) (fun h15 => ?_)
            · skip
              exact absurd h15 (by decide)
            · skip
              refine Z_iconst (v := 1) dX4_factor_18 (by decide) ?_
              refine Z_goto (tgt := 23) dX4_factor_19 (by decide) ?_
              refine Z_istore_n (L' := [_, _, _]) dX4_factor_23 rfl (by decide) rfl rfl ?_
              refine Z_iload_n dX4_factor_24 rfl rfl ?_
              refine Z_if_ne (tgt := 33) dX4_factor_25 (by decide) (fun h25 => ?_) (fun h25 => ?_)
              · skip
                refine Z_iload_n dX4_factor_33 rfl rfl ?_
                refine Z_iconst (v := 5) dX4_factor_34 (by decide) ?_
                refine Z_icmp_lt (tgt := 40) dX4_factor_35 (by decide) (fun h35 => ?_) (fun h35 => ?_)
                · skip
                  refine Z_aload_n dX4_factor_40 rfl rfl ?_
                  refine Z_bipush (v := 40) dX4_factor_41 (by decide) ?_
                  refine Z_V1z (ci := 4) dX4_factor_43 to_X4_eats lk_X4_53 iv_X4_eats ⟨rfl, rfl⟩ (cw_i17 hw) (Nat.le_of_ble_eq_true rfl) ⟨rfl, rfl⟩ ⟨by decide, by decide⟩ ?_
                  refine k_eats (ch := 40) hC hp (by omega) (fun _ => ?_) (fun z => absurd hy z)
                  refine Z_if_eq (tgt := 74) dX4_factor_46 (by decide) (fun h46 => ?_) (fun h46 => ?_)
                  · skip
                    exact absurd h46 (by decide)
                  · skip
                    refine Z_aload_n dX4_factor_49 rfl rfl ?_
                    refine Z_iload_n dX4_factor_50 rfl rfl ?_
                    refine Z_iconst (v := 1) dX4_factor_51 (by decide) ?_
                    refine Z_iadd dX4_factor_52 ?_
                    rw [nI_1]
                    refine Z_V1z (ci := 4) dX4_factor_53 to_X4_either lk_X4_118 iv_X4_either ⟨rfl, rfl⟩ (cw_i17 hw) (Nat.le_of_ble_eq_true rfl) ⟨rfl, rfl⟩ ⟨by decide, by decide⟩ ?_
                    refine hS f (p + 1) c _ hC (by omega) (by omega) ?_
                    rw [hQ, hq1]
                    refine Z_if_eq (tgt := 72) dX4_factor_56 (by decide) (fun h56 => ?_) (fun h56 => ?_)
                    · skip
                      exact absurd h56 (by decide)
                    · skip
                      refine Z_aload_n dX4_factor_59 rfl rfl ?_
                      refine Z_bipush (v := 41) dX4_factor_60 (by decide) ?_
                      refine Z_V1z (ci := 4) dX4_factor_62 to_X4_eats lk_X4_53 iv_X4_eats ⟨rfl, rfl⟩ (cw_i17 hw) (Nat.le_of_ble_eq_true rfl) ⟨rfl, rfl⟩ ⟨by decide, by decide⟩ ?_
                      refine k_eats (ch := 41) hC hq.2.1 (by omega) (fun z => absurd z h41) (fun _ => ?_)
                      refine Z_if_eq (tgt := 72) dX4_factor_65 (by decide) (fun h65 => ?_) (fun h65 => ?_)
                      · skip
                        refine Z_iconst (v := 0) dX4_factor_72 (by decide) ?_
                        refine Z_iret dX4_factor_73 rfl rfl ⟨by decide, by decide⟩ ?_
                        exact h
                      · skip
                        exact absurd rfl h65
                · skip
                  exact absurd (nI_lt (a := o) (b := 5) ho (by omega)) h35
              · skip
                exact absurd h25 (by decide)
      | false =>
        rw [if_neg (fun z => by rw [hq1] at z; exact Bool.false_ne_true z.1)] at h
        refine Z_aload_n dX4_factor_0 rfl rfl ?_
        refine Z_bipush (v := 33) dX4_factor_1 (by decide) ?_
        refine Z_V1z (ci := 4) dX4_factor_3 to_X4_sees lk_X4_71 iv_X4_sees ⟨rfl, rfl⟩ (cw_i17 hw) (Nat.le_of_ble_eq_true rfl) ⟨rfl, rfl⟩ ⟨by decide, by decide⟩ ?_
        refine k_sees (ch := 33) hC hp (by omega) (fun z => absurd z hz) (fun _ => ?_)
        refine Z_if_ne (tgt := 18) dX4_factor_6 (by decide) (fun h6 => ?_) (fun h6 => ?_)
        · skip
          exact absurd rfl h6
        · skip
          refine Z_aload_n dX4_factor_9 rfl rfl ?_
          refine Z_bipush (v := 40) dX4_factor_10 (by decide) ?_
          refine Z_V1z (ci := 4) dX4_factor_12 to_X4_sees lk_X4_71 iv_X4_sees ⟨rfl, rfl⟩ (cw_i17 hw) (Nat.le_of_ble_eq_true rfl) ⟨rfl, rfl⟩ ⟨by decide, by decide⟩ ?_
          refine k_sees (ch := 40) hC hp (by omega) (fun _ => ?_) (fun z => absurd hy z)
          refine Z_if_eq (tgt := 22) dX4_factor_15 (by decide) (fun h15 => ?_) (fun h15 => ?_)
          · skip
            exact absurd h15 (by decide)
          · skip
            refine Z_iconst (v := 1) dX4_factor_18 (by decide) ?_
            refine Z_goto (tgt := 23) dX4_factor_19 (by decide) ?_
            refine Z_istore_n (L' := [_, _, _]) dX4_factor_23 rfl (by decide) rfl rfl ?_
            refine Z_iload_n dX4_factor_24 rfl rfl ?_
            refine Z_if_ne (tgt := 33) dX4_factor_25 (by decide) (fun h25 => ?_) (fun h25 => ?_)
            · skip
              refine Z_iload_n dX4_factor_33 rfl rfl ?_
              refine Z_iconst (v := 5) dX4_factor_34 (by decide) ?_
              refine Z_icmp_lt (tgt := 40) dX4_factor_35 (by decide) (fun h35 => ?_) (fun h35 => ?_)
              · skip
                refine Z_aload_n dX4_factor_40 rfl rfl ?_
                refine Z_bipush (v := 40) dX4_factor_41 (by decide) ?_
                refine Z_V1z (ci := 4) dX4_factor_43 to_X4_eats lk_X4_53 iv_X4_eats ⟨rfl, rfl⟩ (cw_i17 hw) (Nat.le_of_ble_eq_true rfl) ⟨rfl, rfl⟩ ⟨by decide, by decide⟩ ?_
                refine k_eats (ch := 40) hC hp (by omega) (fun _ => ?_) (fun z => absurd hy z)
                refine Z_if_eq (tgt := 74) dX4_factor_46 (by decide) (fun h46 => ?_) (fun h46 => ?_)
                · skip
                  exact absurd h46 (by decide)
                · skip
                  refine Z_aload_n dX4_factor_49 rfl rfl ?_
                  refine Z_iload_n dX4_factor_50 rfl rfl ?_
                  refine Z_iconst (v := 1) dX4_factor_51 (by decide) ?_
                  refine Z_iadd dX4_factor_52 ?_
                  rw [nI_1]
                  refine Z_V1z (ci := 4) dX4_factor_53 to_X4_either lk_X4_118 iv_X4_either ⟨rfl, rfl⟩ (cw_i17 hw) (Nat.le_of_ble_eq_true rfl) ⟨rfl, rfl⟩ ⟨by decide, by decide⟩ ?_
                  refine hS f (p + 1) c _ hC (by omega) (by omega) ?_
                  rw [hQ, hq1]
                  refine Z_if_eq (tgt := 72) dX4_factor_56 (by decide) (fun h56 => ?_) (fun h56 => ?_)
                  · skip
                    refine Z_iconst (v := 0) dX4_factor_72 (by decide) ?_
                    refine Z_iret dX4_factor_73 rfl rfl ⟨by decide, by decide⟩ ?_
                    exact h
                  · skip
                    exact absurd rfl h56
              · skip
                exact absurd (nI_lt (a := o) (b := 5) ho (by omega)) h35
            · skip
              exact absurd h25 (by decide)
    · rw [if_neg hy] at h
      refine Z_aload_n dX4_factor_0 rfl rfl ?_
      refine Z_bipush (v := 33) dX4_factor_1 (by decide) ?_
      refine Z_V1z (ci := 4) dX4_factor_3 to_X4_sees lk_X4_71 iv_X4_sees ⟨rfl, rfl⟩ (cw_i17 hw) (Nat.le_of_ble_eq_true rfl) ⟨rfl, rfl⟩ ⟨by decide, by decide⟩ ?_
      refine k_sees (ch := 33) hC hp (by omega) (fun z => absurd z hz) (fun _ => ?_)
      refine Z_if_ne (tgt := 18) dX4_factor_6 (by decide) (fun h6 => ?_) (fun h6 => ?_)
      · skip
        exact absurd rfl h6
      · skip
        refine Z_aload_n dX4_factor_9 rfl rfl ?_
        refine Z_bipush (v := 40) dX4_factor_10 (by decide) ?_
        refine Z_V1z (ci := 4) dX4_factor_12 to_X4_sees lk_X4_71 iv_X4_sees ⟨rfl, rfl⟩ (cw_i17 hw) (Nat.le_of_ble_eq_true rfl) ⟨rfl, rfl⟩ ⟨by decide, by decide⟩ ?_
        refine k_sees (ch := 40) hC hp (by omega) (fun z => absurd z hy) (fun _ => ?_)
        refine Z_if_eq (tgt := 22) dX4_factor_15 (by decide) (fun h15 => ?_) (fun h15 => ?_)
        · skip
          refine Z_iconst (v := 0) dX4_factor_22 (by decide) ?_
          refine Z_istore_n (L' := [_, _, _]) dX4_factor_23 rfl (by decide) rfl rfl ?_
          refine Z_iload_n dX4_factor_24 rfl rfl ?_
          refine Z_if_ne (tgt := 33) dX4_factor_25 (by decide) (fun h25 => ?_) (fun h25 => ?_)
          · skip
            exact absurd rfl h25
          · skip
            refine Z_aload_n dX4_factor_28 rfl rfl ?_
            refine Z_V0z (ci := 4) dX4_factor_29 to_X4_testing lk_X4_132 iv_X4_testing ⟨rfl, rfl⟩ (cw_i17 hw) (Nat.le_of_ble_eq_true rfl) ⟨rfl, rfl⟩ ⟨by decide, by decide⟩ ?_
            refine k_testing hC hp hcp ?_
            refine Z_iret dX4_factor_32 rfl (by cases (pTest τ N p).1 <;> rfl) ⟨by decide, by decide⟩ ?_
            exact h
        · skip
          exact absurd rfl h15
theorem kFac_all : ∀ (k o d : Nat), o + k = 5 → kRd G α τ N o (d + 3 * k + 9) mX4_factor (pFac τ N k)
  | 0, o, d, h => k_fac0 (by omega)
  | k + 1, o, d, h => by
    have h1 : kRd G α τ N (o + 1) (d + 3 * k + 1 + 10) mX4_factor (pFac τ N k) := by
      have := kFac_all k (o + 1) (d + 2) (by omega)
      rw [show d + 2 + 3 * k + 9 = d + 3 * k + 1 + 10 by omega] at this
      exact this
    have h2 : kRd G α τ N (o + 1) (d + 3 * k + 1 + 10) mX4_either (pSom τ N (pFac τ N k)) := by
      have q1 : kRd G α τ N (o + 1) (d + 3 * k + 7 + 2) mX4_factor (pFac τ N k) := kFac_all k (o + 1) d (by omega)
      have q2 : kRd G α τ N (o + 1) (d + 3 * k + 8 + 2) mX4_both (pEvr τ N (pFac τ N k)) := k_both q1 (pFac_ok k)
      exact k_either q2 (pEvr_ok (pFac_ok k))
    have := k_fac (d := d + 3 * k + 1) (by omega) h1 h2
    rw [show d + 3 * (k + 1) + 9 = d + 3 * k + 1 + 11 by omega]
    exact this
theorem k_top : kRd G α τ N 0 (d + 26) mX4_either (pSom τ N (pFac τ N 5)) := by
  have q1 : kRd G α τ N 0 (d + 22 + 2) mX4_factor (pFac τ N 5) := kFac_all 5 0 d (by omega)
  have q2 : kRd G α τ N 0 (d + 23 + 2) mX4_both (pEvr τ N (pFac τ N 5)) := k_both q1 (pFac_ok 5)
  exact k_either q2 (pEvr_ok (pFac_ok 5))
/-! clauses -/
theorem RS_out {k j : Nat} {x : Int32} (hk : k ≠ 19) (hj : k = 17 → j ≠ 2 ∧ j ≠ 4) : sI (RS α f p c) k j x = RS (sI α k j x) f p c := by
  refine congrArg (fun z => ((α.1, α.2.1, z, α.2.2.2.1, α.2.2.2.2) : AH)) ?_
  funext i m
  show u2 (RS α f p c).2.2.1 k j x i m = (RS (sI α k j x) f p c).2.2.1 i m
  show u2 (RS α f p c).2.2.1 k j x i m = (if i = 17 then (fun j' => if j' = 2 then nI p else if j' = 4 then nI c else u2 α.2.2.1 k j x 17 j') else if i = 19 then f else u2 α.2.2.1 k j x i) m
  unfold u2 u1 RS
  by_cases h17 : k = 17
  · subst h17
    obtain ⟨a1, a2⟩ := hj rfl
    by_cases hi : i = 17
    · subst hi
      by_cases hm : m = j
      · subst hm; simp [a1, a2]
      · simp [hm]
    · simp [hi]
  · by_cases hi : i = k
    · subst hi; simp [h17, hk]
    · by_cases h2 : i = 17
      · subst h2; simp [hi, Ne.symm h17]
      · simp [hi, h2]
theorem RC.out {k j : Nat} {x : Int32} (h : RC α τ N) (hk : k ≠ 8) (hj : k = 17 → j ≠ 1) : RC (sI α k j x) τ N := ⟨h.1, h.2.1, by rw [hI_sI, if_neg (fun z => hj z.1.symm z.2.symm)]; exact h.2.2.1, h.2.2.2.1, fun i hi => by rw [sI_ne (Ne.symm hk)]; exact h.2.2.2.2.1 i hi, h.2.2.2.2.2⟩
theorem k_work {G : ZG} (hC : RC α τ N) : p < N ∧ 48 ≤ τ p ∧ τ p ≤ 50 → pIx τ N (zCh 1) p = τ p - 48 := fun h => by
  unfold pIx
  rw [if_pos h.1]
  exact (wk_ix (τ p) (by omega)).1 h.2
theorem k_nwork {G : ZG} (hC : RC α τ N) : ¬ (p < N ∧ 48 ≤ τ p ∧ τ p ≤ 50) → pIx τ N (zCh 1) p = 3 := fun h => by
  unfold pIx
  by_cases hq : p < N
  · rw [if_pos hq]
    exact (wk_ix (τ p) (by have := hC.2.2.2.2.2 p hq; omega)).2 (fun z => h ⟨hq, z⟩)
  · rw [if_neg hq]; rfl
end CR3
