section CR4
variable {G : ZG} {d : Nat} {α : AH} {post : Option Value → AH → Prop} {τ : Nat → Nat} {N p o c m : Nat} {f : Nat → Int32} {S : Bool × Nat} {W Q : Bool × Nat × Nat} {R : PR}
theorem k_covC (hC : RC α τ N) (hp : p ≤ N) (hS : pSpell τ N (zCh 2) p = S) (hQ : pNum τ N S.2 = Q) (h0 : S.1 = false → post (some (.int 0)) (RS α f S.2 c))
    (h1 : S.1 = true → Q.1 = false → post (some (.int 0)) (RS α f Q.2.1 c))
    (h2 : S.1 = true → Q.1 = true → post (some (.int 1)) (RS (sI α 17 9 (nI Q.2.2)) f Q.2.1 c)) : ZK G (d + 8) mX4_coverClause [.ref (G.1 + 17)] (RS α f p c) post := by
  have hw : CW (RS α f p c) := hC.1
  have hp0 : hP (RS α f p c) 17 0 = some 8 := hC.2.1
  have hs := pSpell_ok (τ := τ) (N := N) (zCh 2) p hp
  rw [hS] at hs
  have hn := pNum_ok (τ := τ) (N := N) (p := S.2) hs.2.1
  rw [hQ] at hn
  refine ZK.of (n := 1) (by decide) (Nat.le_of_ble_eq_true rfl) rfl ?_
  cases hs1 : S.1 with
  | false =>
    refine Z_aload_n dX4_coverClause_0 rfl rfl ?_
    refine Z_ldcS (i := 2) dX4_coverClause_1 (by decide) ⟨rfl, rfl⟩ ?_
    refine Z_V1z (ci := 4) dX4_coverClause_3 to_X4_eatsAll lk_X4_101 iv_X4_eatsAll ⟨rfl, rfl⟩ (cw_i17 hw) (Nat.le_of_ble_eq_true rfl) ⟨rfl, rfl⟩ ⟨by decide, by decide⟩ ?_
    refine k_eatsAll (i := 2) (by omega) hC hp ?_
    rw [hS, hs1]
    refine Z_if_ne (tgt := 11) dX4_coverClause_6 (by decide) (fun h6 => ?_) (fun h6 => ?_)
    · skip
      exact absurd rfl h6
    · skip
      refine Z_iconst (v := 0) dX4_coverClause_9 (by decide) ?_
      refine Z_iret dX4_coverClause_10 rfl rfl ⟨by decide, by decide⟩ ?_
      exact h0 hs1
  | true =>
    cases hq1 : Q.1 with
    | false =>
      refine Z_aload_n dX4_coverClause_0 rfl rfl ?_
      refine Z_ldcS (i := 2) dX4_coverClause_1 (by decide) ⟨rfl, rfl⟩ ?_
      refine Z_V1z (ci := 4) dX4_coverClause_3 to_X4_eatsAll lk_X4_101 iv_X4_eatsAll ⟨rfl, rfl⟩ (cw_i17 hw) (Nat.le_of_ble_eq_true rfl) ⟨rfl, rfl⟩ ⟨by decide, by decide⟩ ?_
      refine k_eatsAll (i := 2) (by omega) hC hp ?_
      rw [hS, hs1]
      refine Z_if_ne (tgt := 11) dX4_coverClause_6 (by decide) (fun h6 => ?_) (fun h6 => ?_)
      · skip
        refine Z_aload_n dX4_coverClause_11 rfl rfl ?_
        refine Z_V0z (ci := 4) dX4_coverClause_12 to_X4_number lk_X4_111 iv_X4_number ⟨rfl, rfl⟩ (cw_i17 hw) (Nat.le_of_ble_eq_true rfl) ⟨rfl, rfl⟩ ⟨by decide, by decide⟩ ?_
        refine k_number hC hs.2.1 (fun z => by rw [hQ, hq1] at z; cases z) (fun _ => ?_)
        rw [hQ]
        refine Z_istore_n (L' := [_, _]) dX4_coverClause_15 rfl (by decide) rfl rfl ?_
        refine Z_iload_n dX4_coverClause_16 rfl rfl ?_
        refine Z_if_ge (tgt := 22) dX4_coverClause_17 (by decide) (fun h17 => ?_) (fun h17 => ?_)
        · skip
          exact absurd h17 (by decide)
        · skip
          refine Z_iconst (v := 0) dX4_coverClause_20 (by decide) ?_
          refine Z_iret dX4_coverClause_21 rfl rfl ⟨by decide, by decide⟩ ?_
          exact h1 hs1 hq1
      · skip
        exact absurd h6 (by decide)
    | true =>
      refine Z_aload_n dX4_coverClause_0 rfl rfl ?_
      refine Z_ldcS (i := 2) dX4_coverClause_1 (by decide) ⟨rfl, rfl⟩ ?_
      refine Z_V1z (ci := 4) dX4_coverClause_3 to_X4_eatsAll lk_X4_101 iv_X4_eatsAll ⟨rfl, rfl⟩ (cw_i17 hw) (Nat.le_of_ble_eq_true rfl) ⟨rfl, rfl⟩ ⟨by decide, by decide⟩ ?_
      refine k_eatsAll (i := 2) (by omega) hC hp ?_
      rw [hS, hs1]
      refine Z_if_ne (tgt := 11) dX4_coverClause_6 (by decide) (fun h6 => ?_) (fun h6 => ?_)
      · skip
        refine Z_aload_n dX4_coverClause_11 rfl rfl ?_
        refine Z_V0z (ci := 4) dX4_coverClause_12 to_X4_number lk_X4_111 iv_X4_number ⟨rfl, rfl⟩ (cw_i17 hw) (Nat.le_of_ble_eq_true rfl) ⟨rfl, rfl⟩ ⟨by decide, by decide⟩ ?_
        refine k_number hC hs.2.1 (fun _ => ?_) (fun z => by rw [hQ, hq1] at z; cases z)
        rw [hQ]
        refine Z_istore_n (L' := [_, _]) dX4_coverClause_15 rfl (by decide) rfl rfl ?_
        refine Z_iload_n dX4_coverClause_16 rfl rfl ?_
        refine Z_if_ge (tgt := 22) dX4_coverClause_17 (by decide) (fun h17 => ?_) (fun h17 => ?_)
        · skip
          refine Z_aload_n dX4_coverClause_22 rfl rfl ?_
          refine Z_iload_n dX4_coverClause_23 rfl rfl ?_
          refine Z_putI dX4_coverClause_24 cl_4 fl_X4_46_4 (Or.inl fn_4_9) rfl (cw_i17 hw) rfl rfl ?_
          rw [RS_out (by decide) (by omega)]
          refine Z_iconst (v := 1) dX4_coverClause_27 (by decide) ?_
          refine Z_iret dX4_coverClause_28 rfl rfl ⟨by decide, by decide⟩ ?_
          exact h2 hs1 hq1
        · skip
          exact absurd (nI_p0 (by omega)) h17
      · skip
        exact absurd h6 (by decide)
theorem k_payC (hC : RC α τ N) (hp : p ≤ N) (hS : pSpell τ N (zCh 0) p = S) (hW : pWork τ N S.2 = W) (hQ : pNum τ N W.2.1 = Q) (h0 : S.1 = false → post (some (.int 0)) (RS α f S.2 c))
    (h1 : S.1 = true → W.1 = false → post (some (.int 0)) (RS α f W.2.1 c))
    (h2 : S.1 = true → W.1 = true → Q.1 = false → post (some (.int 0)) (RS α f Q.2.1 c))
    (h3 : S.1 = true → W.1 = true → Q.1 = true → post (some (.int 1)) (RS (sI α 22 W.2.2 (nI Q.2.2)) f Q.2.1 c)) : ZK G (d + 8) mX4_payClause [.ref (G.1 + 17)] (RS α f p c) post := by
  have hw : CW (RS α f p c) := hC.1
  have hp0 : hP (RS α f p c) 17 0 = some 8 := hC.2.1
  have hs := pSpell_ok (τ := τ) (N := N) (zCh 0) p hp
  rw [hS] at hs
  have hk := pWork_ok (τ := τ) (N := N) (p := S.2) hs.2.1
  rw [hW] at hk
  have l1 : (zCh 1).length = 3 := rfl
  refine ZK.of (n := 2) (by decide) (Nat.le_of_ble_eq_true rfl) rfl ?_
  cases hs1 : S.1 with
  | false =>
    refine Z_aload_n dX4_payClause_0 rfl rfl ?_
    refine Z_ldcS (i := 0) dX4_payClause_1 (by decide) ⟨rfl, rfl⟩ ?_
    refine Z_V1z (ci := 4) dX4_payClause_3 to_X4_eatsAll lk_X4_101 iv_X4_eatsAll ⟨rfl, rfl⟩ (cw_i17 hw) (Nat.le_of_ble_eq_true rfl) ⟨rfl, rfl⟩ ⟨by decide, by decide⟩ ?_
    refine k_eatsAll (i := 0) (by omega) hC hp ?_
    rw [hS, hs1]
    refine Z_if_ne (tgt := 11) dX4_payClause_6 (by decide) (fun h6 => ?_) (fun h6 => ?_)
    · skip
      exact absurd rfl h6
    · skip
      refine Z_iconst (v := 0) dX4_payClause_9 (by decide) ?_
      refine Z_iret dX4_payClause_10 rfl rfl ⟨by decide, by decide⟩ ?_
      exact h0 hs1
  | true =>
    by_cases hd : S.2 < N ∧ 48 ≤ τ S.2 ∧ τ S.2 ≤ 50
    · have ex := k_work (G := G) hC hd
      by_cases h32 : S.2 + 1 < N ∧ τ (S.2 + 1) = 32
      · have e : W = (true, S.2 + 2, τ S.2 - 48) := by rw [← hW]; exact (if_pos hd).trans (if_pos h32)
        subst e
        have hn := pNum_ok (τ := τ) (N := N) (p := S.2 + 2) (by omega)
        have hQ : pNum τ N (S.2 + 2) = Q := hQ
        rw [hQ] at hn
        cases hq1 : Q.1 with
        | false =>
          refine Z_aload_n dX4_payClause_0 rfl rfl ?_
          refine Z_ldcS (i := 0) dX4_payClause_1 (by decide) ⟨rfl, rfl⟩ ?_
          refine Z_V1z (ci := 4) dX4_payClause_3 to_X4_eatsAll lk_X4_101 iv_X4_eatsAll ⟨rfl, rfl⟩ (cw_i17 hw) (Nat.le_of_ble_eq_true rfl) ⟨rfl, rfl⟩ ⟨by decide, by decide⟩ ?_
          refine k_eatsAll (i := 0) (by omega) hC hp ?_
          rw [hS, hs1]
          refine Z_if_ne (tgt := 11) dX4_payClause_6 (by decide) (fun h6 => ?_) (fun h6 => ?_)
          · skip
            refine Z_aload_n dX4_payClause_11 rfl rfl ?_
            refine Z_ldcS (i := 1) dX4_payClause_12 (by decide) ⟨rfl, rfl⟩ ?_
            refine Z_V1z (ci := 4) dX4_payClause_14 to_X4_eatsOneOf lk_X4_107 iv_X4_eatsOneOf ⟨rfl, rfl⟩ (cw_i17 hw) (Nat.le_of_ble_eq_true rfl) ⟨rfl, rfl⟩ ⟨by decide, by decide⟩ ?_
            refine k_oneOf (i := 1) (by omega) hC hs.2.1 (fun _ => ?_) (fun z => absurd (by omega) z)
            rw [ex]
            refine Z_istore_n (L' := [_, _, _]) dX4_payClause_17 rfl (by decide) rfl rfl ?_
            refine Z_iload_n dX4_payClause_18 rfl rfl ?_
            refine Z_if_lt (tgt := 31) dX4_payClause_19 (by decide) (fun h19 => ?_) (fun h19 => ?_)
            · skip
              exact absurd h19 (nI_pos (by omega))
            · skip
              refine Z_aload_n dX4_payClause_22 rfl rfl ?_
              refine Z_bipush (v := 32) dX4_payClause_23 (by decide) ?_
              refine Z_V1z (ci := 4) dX4_payClause_25 to_X4_eats lk_X4_53 iv_X4_eats ⟨rfl, rfl⟩ (cw_i17 hw) (Nat.le_of_ble_eq_true rfl) ⟨rfl, rfl⟩ ⟨by decide, by decide⟩ ?_
              refine k_eats (ch := 32) hC (by omega) (by omega) (fun _ => ?_) (fun z => absurd h32 z)
              refine Z_if_ne (tgt := 33) dX4_payClause_28 (by decide) (fun h28 => ?_) (fun h28 => ?_)
              · skip
                refine Z_aload_n dX4_payClause_33 rfl rfl ?_
                refine Z_V0z (ci := 4) dX4_payClause_34 to_X4_number lk_X4_111 iv_X4_number ⟨rfl, rfl⟩ (cw_i17 hw) (Nat.le_of_ble_eq_true rfl) ⟨rfl, rfl⟩ ⟨by decide, by decide⟩ ?_
                refine k_number hC (by omega) (fun z => by rw [hQ, hq1] at z; cases z) (fun _ => ?_)
                rw [hQ]
                refine Z_istore_n (L' := [_, _, _]) dX4_payClause_37 rfl (by decide) rfl rfl ?_
                refine Z_iload_n dX4_payClause_38 rfl rfl ?_
                refine Z_if_ge (tgt := 44) dX4_payClause_39 (by decide) (fun h39 => ?_) (fun h39 => ?_)
                · skip
                  exact absurd h39 (by decide)
                · skip
                  refine Z_iconst (v := 0) dX4_payClause_42 (by decide) ?_
                  refine Z_iret dX4_payClause_43 rfl rfl ⟨by decide, by decide⟩ ?_
                  exact h2 hs1 rfl hq1
              · skip
                exact absurd h28 (by decide)
          · skip
            exact absurd h6 (by decide)
        | true =>
          refine Z_aload_n dX4_payClause_0 rfl rfl ?_
          refine Z_ldcS (i := 0) dX4_payClause_1 (by decide) ⟨rfl, rfl⟩ ?_
          refine Z_V1z (ci := 4) dX4_payClause_3 to_X4_eatsAll lk_X4_101 iv_X4_eatsAll ⟨rfl, rfl⟩ (cw_i17 hw) (Nat.le_of_ble_eq_true rfl) ⟨rfl, rfl⟩ ⟨by decide, by decide⟩ ?_
          refine k_eatsAll (i := 0) (by omega) hC hp ?_
          rw [hS, hs1]
          refine Z_if_ne (tgt := 11) dX4_payClause_6 (by decide) (fun h6 => ?_) (fun h6 => ?_)
          · skip
            refine Z_aload_n dX4_payClause_11 rfl rfl ?_
            refine Z_ldcS (i := 1) dX4_payClause_12 (by decide) ⟨rfl, rfl⟩ ?_
            refine Z_V1z (ci := 4) dX4_payClause_14 to_X4_eatsOneOf lk_X4_107 iv_X4_eatsOneOf ⟨rfl, rfl⟩ (cw_i17 hw) (Nat.le_of_ble_eq_true rfl) ⟨rfl, rfl⟩ ⟨by decide, by decide⟩ ?_
            refine k_oneOf (i := 1) (by omega) hC hs.2.1 (fun _ => ?_) (fun z => absurd (by omega) z)
            rw [ex]
            refine Z_istore_n (L' := [_, _, _]) dX4_payClause_17 rfl (by decide) rfl rfl ?_
            refine Z_iload_n dX4_payClause_18 rfl rfl ?_
            refine Z_if_lt (tgt := 31) dX4_payClause_19 (by decide) (fun h19 => ?_) (fun h19 => ?_)
            · skip
              exact absurd h19 (nI_pos (by omega))
            · skip
              refine Z_aload_n dX4_payClause_22 rfl rfl ?_
              refine Z_bipush (v := 32) dX4_payClause_23 (by decide) ?_
              refine Z_V1z (ci := 4) dX4_payClause_25 to_X4_eats lk_X4_53 iv_X4_eats ⟨rfl, rfl⟩ (cw_i17 hw) (Nat.le_of_ble_eq_true rfl) ⟨rfl, rfl⟩ ⟨by decide, by decide⟩ ?_
              refine k_eats (ch := 32) hC (by omega) (by omega) (fun _ => ?_) (fun z => absurd h32 z)
              refine Z_if_ne (tgt := 33) dX4_payClause_28 (by decide) (fun h28 => ?_) (fun h28 => ?_)
              · skip
                refine Z_aload_n dX4_payClause_33 rfl rfl ?_
                refine Z_V0z (ci := 4) dX4_payClause_34 to_X4_number lk_X4_111 iv_X4_number ⟨rfl, rfl⟩ (cw_i17 hw) (Nat.le_of_ble_eq_true rfl) ⟨rfl, rfl⟩ ⟨by decide, by decide⟩ ?_
                refine k_number hC (by omega) (fun _ => ?_) (fun z => by rw [hQ, hq1] at z; cases z)
                rw [hQ]
                refine Z_istore_n (L' := [_, _, _]) dX4_payClause_37 rfl (by decide) rfl rfl ?_
                refine Z_iload_n dX4_payClause_38 rfl rfl ?_
                refine Z_if_ge (tgt := 44) dX4_payClause_39 (by decide) (fun h39 => ?_) (fun h39 => ?_)
                · skip
                  refine Z_aload_n dX4_payClause_44 rfl rfl ?_
                  refine Z_getR dX4_payClause_45 cl_4 fl_X4_24_4 rfl (cw_i17 hw) (cw_p17_8 hw) ?_
                  refine Z_iload_n dX4_payClause_48 rfl rfl ?_
                  refine Z_iload_n dX4_payClause_49 rfl rfl ?_
                  refine Z_iast dX4_payClause_50 (cw_i22 hw) (zix_nI (m := τ S.2 - 48) (by omega) (by decide)) ?_
                  rw [RS_out (by decide) (by omega)]
                  refine Z_iconst (v := 1) dX4_payClause_51 (by decide) ?_
                  refine Z_iret dX4_payClause_52 rfl rfl ⟨by decide, by decide⟩ ?_
                  exact h3 hs1 rfl hq1
                · skip
                  exact absurd (nI_p0 (by omega)) h39
              · skip
                exact absurd h28 (by decide)
          · skip
            exact absurd h6 (by decide)
      · have e : W = (false, S.2 + 1, τ S.2 - 48) := by rw [← hW]; exact (if_pos hd).trans (if_neg h32)
        subst e
        refine Z_aload_n dX4_payClause_0 rfl rfl ?_
        refine Z_ldcS (i := 0) dX4_payClause_1 (by decide) ⟨rfl, rfl⟩ ?_
        refine Z_V1z (ci := 4) dX4_payClause_3 to_X4_eatsAll lk_X4_101 iv_X4_eatsAll ⟨rfl, rfl⟩ (cw_i17 hw) (Nat.le_of_ble_eq_true rfl) ⟨rfl, rfl⟩ ⟨by decide, by decide⟩ ?_
        refine k_eatsAll (i := 0) (by omega) hC hp ?_
        rw [hS, hs1]
        refine Z_if_ne (tgt := 11) dX4_payClause_6 (by decide) (fun h6 => ?_) (fun h6 => ?_)
        · skip
          refine Z_aload_n dX4_payClause_11 rfl rfl ?_
          refine Z_ldcS (i := 1) dX4_payClause_12 (by decide) ⟨rfl, rfl⟩ ?_
          refine Z_V1z (ci := 4) dX4_payClause_14 to_X4_eatsOneOf lk_X4_107 iv_X4_eatsOneOf ⟨rfl, rfl⟩ (cw_i17 hw) (Nat.le_of_ble_eq_true rfl) ⟨rfl, rfl⟩ ⟨by decide, by decide⟩ ?_
          refine k_oneOf (i := 1) (by omega) hC hs.2.1 (fun _ => ?_) (fun z => absurd (by omega) z)
          rw [ex]
          refine Z_istore_n (L' := [_, _, _]) dX4_payClause_17 rfl (by decide) rfl rfl ?_
          refine Z_iload_n dX4_payClause_18 rfl rfl ?_
          refine Z_if_lt (tgt := 31) dX4_payClause_19 (by decide) (fun h19 => ?_) (fun h19 => ?_)
          · skip
            exact absurd h19 (nI_pos (by omega))
          · skip
            refine Z_aload_n dX4_payClause_22 rfl rfl ?_
            refine Z_bipush (v := 32) dX4_payClause_23 (by decide) ?_
            refine Z_V1z (ci := 4) dX4_payClause_25 to_X4_eats lk_X4_53 iv_X4_eats ⟨rfl, rfl⟩ (cw_i17 hw) (Nat.le_of_ble_eq_true rfl) ⟨rfl, rfl⟩ ⟨by decide, by decide⟩ ?_
            refine k_eats (ch := 32) hC (by omega) (by omega) (fun z => absurd z h32) (fun _ => ?_)
            refine Z_if_ne (tgt := 33) dX4_payClause_28 (by decide) (fun h28 => ?_) (fun h28 => ?_)
            · skip
              exact absurd rfl h28
            · skip
              refine Z_iconst (v := 0) dX4_payClause_31 (by decide) ?_
              refine Z_iret dX4_payClause_32 rfl rfl ⟨by decide, by decide⟩ ?_
              exact h1 hs1 rfl
        · skip
          exact absurd h6 (by decide)
    · have ex := k_nwork (G := G) hC hd
      have e : W = (false, S.2, 0) := by rw [← hW]; exact if_neg hd
      subst e
      refine Z_aload_n dX4_payClause_0 rfl rfl ?_
      refine Z_ldcS (i := 0) dX4_payClause_1 (by decide) ⟨rfl, rfl⟩ ?_
      refine Z_V1z (ci := 4) dX4_payClause_3 to_X4_eatsAll lk_X4_101 iv_X4_eatsAll ⟨rfl, rfl⟩ (cw_i17 hw) (Nat.le_of_ble_eq_true rfl) ⟨rfl, rfl⟩ ⟨by decide, by decide⟩ ?_
      refine k_eatsAll (i := 0) (by omega) hC hp ?_
      rw [hS, hs1]
      refine Z_if_ne (tgt := 11) dX4_payClause_6 (by decide) (fun h6 => ?_) (fun h6 => ?_)
      · skip
        refine Z_aload_n dX4_payClause_11 rfl rfl ?_
        refine Z_ldcS (i := 1) dX4_payClause_12 (by decide) ⟨rfl, rfl⟩ ?_
        refine Z_V1z (ci := 4) dX4_payClause_14 to_X4_eatsOneOf lk_X4_107 iv_X4_eatsOneOf ⟨rfl, rfl⟩ (cw_i17 hw) (Nat.le_of_ble_eq_true rfl) ⟨rfl, rfl⟩ ⟨by decide, by decide⟩ ?_
        refine k_oneOf (i := 1) (by omega) hC hs.2.1 (fun z => absurd z (by omega)) (fun _ => ?_)
        refine Z_istore_n (L' := [_, _, _]) dX4_payClause_17 rfl (by decide) rfl rfl ?_
        refine Z_iload_n dX4_payClause_18 rfl rfl ?_
        refine Z_if_lt (tgt := 31) dX4_payClause_19 (by decide) (fun h19 => ?_) (fun h19 => ?_)
        · skip
          refine Z_iconst (v := 0) dX4_payClause_31 (by decide) ?_
          refine Z_iret dX4_payClause_32 rfl rfl ⟨by decide, by decide⟩ ?_
          exact h1 hs1 rfl
        · skip
          exact absurd (by decide) h19
      · skip
        exact absurd h6 (by decide)
theorem k_canC (hC : RC α τ N) (hp : p ≤ N) (hcp : c ≤ p) (hm : hI α 17 7 = nI m) (hm10 : m < 10) (hS : pSpell τ N (zCh 3) p = S) (hW : pWork τ N S.2 = W) (hR : pSom τ N (pFac τ N 5) W.2.1 = R) (h0 : S.1 = false → post (some (.int 0)) (RS α f S.2 c))
    (h1 : S.1 = true → W.1 = false → post (some (.int 0)) (RS α f W.2.1 c))
    (h2 : S.1 = true → W.1 = true → R.1 = false → post (some (.int 0)) (RS α (fem f c (R.2.2.map vEnc)) R.2.1 (c + R.2.2.length)))
    (h3 : S.1 = true → W.1 = true → R.1 = true → post (some (.int 1)) (RS (sI (sI (sI α 20 m (nI W.2.2)) 21 m (nI (c + R.2.2.length))) 17 7 (nI (m + 1))) (fem f c (R.2.2.map vEnc)) R.2.1 (c + R.2.2.length))) : ZK G (d + 27) mX4_canClause [.ref (G.1 + 17)] (RS α f p c) post := by
  have hw : CW (RS α f p c) := hC.1
  have hp0 : hP (RS α f p c) 17 0 = some 8 := hC.2.1
  have hs := pSpell_ok (τ := τ) (N := N) (zCh 3) p hp
  rw [hS] at hs
  have hk := pWork_ok (τ := τ) (N := N) (p := S.2) hs.2.1
  rw [hW] at hk
  have l1 : (zCh 1).length = 3 := rfl
  refine ZK.of (n := 1) (by decide) (Nat.le_of_ble_eq_true rfl) rfl ?_
  cases hs1 : S.1 with
  | false =>
    refine Z_aload_n dX4_canClause_0 rfl rfl ?_
    refine Z_ldcS (i := 3) dX4_canClause_1 (by decide) ⟨rfl, rfl⟩ ?_
    refine Z_V1z (ci := 4) dX4_canClause_3 to_X4_eatsAll lk_X4_101 iv_X4_eatsAll ⟨rfl, rfl⟩ (cw_i17 hw) (Nat.le_of_ble_eq_true rfl) ⟨rfl, rfl⟩ ⟨by decide, by decide⟩ ?_
    refine k_eatsAll (i := 3) (by omega) hC hp ?_
    rw [hS, hs1]
    refine Z_if_ne (tgt := 11) dX4_canClause_6 (by decide) (fun h6 => ?_) (fun h6 => ?_)
    · skip
      exact absurd rfl h6
    · skip
      refine Z_iconst (v := 0) dX4_canClause_9 (by decide) ?_
      refine Z_iret dX4_canClause_10 rfl rfl ⟨by decide, by decide⟩ ?_
      exact h0 hs1
  | true =>
    by_cases hd : S.2 < N ∧ 48 ≤ τ S.2 ∧ τ S.2 ≤ 50
    · have ex := k_work (G := G) hC hd
      by_cases h32 : S.2 + 1 < N ∧ τ (S.2 + 1) = 32
      · have e : W = (true, S.2 + 2, τ S.2 - 48) := by rw [← hW]; exact (if_pos hd).trans (if_pos h32)
        subst e
        have hR : pSom τ N (pFac τ N 5) (S.2 + 2) = R := hR
        cases hq1 : R.1 with
        | false =>
          refine Z_aload_n dX4_canClause_0 rfl rfl ?_
          refine Z_ldcS (i := 3) dX4_canClause_1 (by decide) ⟨rfl, rfl⟩ ?_
          refine Z_V1z (ci := 4) dX4_canClause_3 to_X4_eatsAll lk_X4_101 iv_X4_eatsAll ⟨rfl, rfl⟩ (cw_i17 hw) (Nat.le_of_ble_eq_true rfl) ⟨rfl, rfl⟩ ⟨by decide, by decide⟩ ?_
          refine k_eatsAll (i := 3) (by omega) hC hp ?_
          rw [hS, hs1]
          refine Z_if_ne (tgt := 11) dX4_canClause_6 (by decide) (fun h6 => ?_) (fun h6 => ?_)
          · skip
            refine Z_aload_n dX4_canClause_11 rfl rfl ?_
            refine Z_ldcS (i := 1) dX4_canClause_12 (by decide) ⟨rfl, rfl⟩ ?_
            refine Z_V1z (ci := 4) dX4_canClause_14 to_X4_eatsOneOf lk_X4_107 iv_X4_eatsOneOf ⟨rfl, rfl⟩ (cw_i17 hw) (Nat.le_of_ble_eq_true rfl) ⟨rfl, rfl⟩ ⟨by decide, by decide⟩ ?_
            refine k_oneOf (i := 1) (by omega) hC hs.2.1 (fun _ => ?_) (fun z => absurd (by omega) z)
            rw [ex]
            refine Z_istore_n (L' := [_, _]) dX4_canClause_17 rfl (by decide) rfl rfl ?_
            refine Z_iload_n dX4_canClause_18 rfl rfl ?_
            refine Z_if_lt (tgt := 39) dX4_canClause_19 (by decide) (fun h19 => ?_) (fun h19 => ?_)
            · skip
              exact absurd h19 (nI_pos (by omega))
            · skip
              refine Z_aload_n dX4_canClause_22 rfl rfl ?_
              refine Z_bipush (v := 32) dX4_canClause_23 (by decide) ?_
              refine Z_V1z (ci := 4) dX4_canClause_25 to_X4_eats lk_X4_53 iv_X4_eats ⟨rfl, rfl⟩ (cw_i17 hw) (Nat.le_of_ble_eq_true rfl) ⟨rfl, rfl⟩ ⟨by decide, by decide⟩ ?_
              refine k_eats (ch := 32) hC (by omega) (by omega) (fun _ => ?_) (fun z => absurd h32 z)
              refine Z_if_eq (tgt := 39) dX4_canClause_28 (by decide) (fun h28 => ?_) (fun h28 => ?_)
              · skip
                exact absurd h28 (by decide)
              · skip
                refine Z_aload_n dX4_canClause_31 rfl rfl ?_
                refine Z_iconst (v := 0) dX4_canClause_32 (by decide) ?_
                refine Z_V1z (ci := 4) dX4_canClause_33 to_X4_either lk_X4_118 iv_X4_either ⟨rfl, rfl⟩ (cw_i17 hw) (Nat.le_of_ble_eq_true rfl) ⟨rfl, rfl⟩ ⟨by decide, by decide⟩ ?_
                refine k_top _ _ _ _ hC (by omega) (by omega) ?_
                rw [hR, hq1]
                refine Z_if_ne (tgt := 41) dX4_canClause_36 (by decide) (fun h36 => ?_) (fun h36 => ?_)
                · skip
                  exact absurd rfl h36
                · skip
                  refine Z_iconst (v := 0) dX4_canClause_39 (by decide) ?_
                  refine Z_iret dX4_canClause_40 rfl rfl ⟨by decide, by decide⟩ ?_
                  exact h2 hs1 rfl hq1
          · skip
            exact absurd h6 (by decide)
        | true =>
          have hC1 : RC (sI α 20 m (nI (τ S.2 - 48))) τ N := hC.out (by decide) (by omega)
          have hC2 : RC (sI (sI α 20 m (nI (τ S.2 - 48))) 21 m (nI (c + R.2.2.length))) τ N := hC1.out (by decide) (by omega)
          refine Z_aload_n dX4_canClause_0 rfl rfl ?_
          refine Z_ldcS (i := 3) dX4_canClause_1 (by decide) ⟨rfl, rfl⟩ ?_
          refine Z_V1z (ci := 4) dX4_canClause_3 to_X4_eatsAll lk_X4_101 iv_X4_eatsAll ⟨rfl, rfl⟩ (cw_i17 hw) (Nat.le_of_ble_eq_true rfl) ⟨rfl, rfl⟩ ⟨by decide, by decide⟩ ?_
          refine k_eatsAll (i := 3) (by omega) hC hp ?_
          rw [hS, hs1]
          refine Z_if_ne (tgt := 11) dX4_canClause_6 (by decide) (fun h6 => ?_) (fun h6 => ?_)
          · skip
            refine Z_aload_n dX4_canClause_11 rfl rfl ?_
            refine Z_ldcS (i := 1) dX4_canClause_12 (by decide) ⟨rfl, rfl⟩ ?_
            refine Z_V1z (ci := 4) dX4_canClause_14 to_X4_eatsOneOf lk_X4_107 iv_X4_eatsOneOf ⟨rfl, rfl⟩ (cw_i17 hw) (Nat.le_of_ble_eq_true rfl) ⟨rfl, rfl⟩ ⟨by decide, by decide⟩ ?_
            refine k_oneOf (i := 1) (by omega) hC hs.2.1 (fun _ => ?_) (fun z => absurd (by omega) z)
            rw [ex]
            refine Z_istore_n (L' := [_, _]) dX4_canClause_17 rfl (by decide) rfl rfl ?_
            refine Z_iload_n dX4_canClause_18 rfl rfl ?_
            refine Z_if_lt (tgt := 39) dX4_canClause_19 (by decide) (fun h19 => ?_) (fun h19 => ?_)
            · skip
              exact absurd h19 (nI_pos (by omega))
            · skip
              refine Z_aload_n dX4_canClause_22 rfl rfl ?_
              refine Z_bipush (v := 32) dX4_canClause_23 (by decide) ?_
              refine Z_V1z (ci := 4) dX4_canClause_25 to_X4_eats lk_X4_53 iv_X4_eats ⟨rfl, rfl⟩ (cw_i17 hw) (Nat.le_of_ble_eq_true rfl) ⟨rfl, rfl⟩ ⟨by decide, by decide⟩ ?_
              refine k_eats (ch := 32) hC (by omega) (by omega) (fun _ => ?_) (fun z => absurd h32 z)
              refine Z_if_eq (tgt := 39) dX4_canClause_28 (by decide) (fun h28 => ?_) (fun h28 => ?_)
              · skip
                exact absurd h28 (by decide)
              · skip
                refine Z_aload_n dX4_canClause_31 rfl rfl ?_
                refine Z_iconst (v := 0) dX4_canClause_32 (by decide) ?_
                refine Z_V1z (ci := 4) dX4_canClause_33 to_X4_either lk_X4_118 iv_X4_either ⟨rfl, rfl⟩ (cw_i17 hw) (Nat.le_of_ble_eq_true rfl) ⟨rfl, rfl⟩ ⟨by decide, by decide⟩ ?_
                refine k_top _ _ _ _ hC (by omega) (by omega) ?_
                rw [hR, hq1]
                refine Z_if_ne (tgt := 41) dX4_canClause_36 (by decide) (fun h36 => ?_) (fun h36 => ?_)
                · skip
                  refine Z_aload_n dX4_canClause_41 rfl rfl ?_
                  refine Z_getR dX4_canClause_42 cl_4 fl_X4_18_4 rfl (cw_i17 hw) (cw_p17_5 hw) ?_
                  refine Z_aload_n dX4_canClause_45 rfl rfl ?_
                  refine Z_getIv dX4_canClause_46 cl_4 fl_X4_37_4 rfl (cw_i17 hw) (show _ = nI m from hm) ?_
                  refine Z_iload_n dX4_canClause_49 rfl rfl ?_
                  refine Z_iast dX4_canClause_50 (cw_i20 hw) (zix_nI (m := m) hm10 (by decide)) ?_
                  rw [RS_out (by decide) (by omega)]
                  refine Z_aload_n dX4_canClause_51 rfl rfl ?_
                  refine Z_getR dX4_canClause_52 cl_4 fl_X4_21_4 rfl (cw_i17 hw) (cw_p17_6 hw) ?_
                  refine Z_aload_n dX4_canClause_55 rfl rfl ?_
                  refine Z_getIv dX4_canClause_56 cl_4 fl_X4_37_4 rfl (cw_i17 hw) (show _ = nI m from hm) ?_
                  refine Z_aload_n dX4_canClause_59 rfl rfl ?_
                  refine Z_getIv dX4_canClause_60 cl_4 fl_X4_34_4 rfl (cw_i17 hw) RS_4 ?_
                  refine Z_iast dX4_canClause_63 (cw_i21 hw) (zix_nI (m := m) hm10 (by decide)) ?_
                  rw [RS_out (by decide) (by omega)]
                  refine Z_aload_n dX4_canClause_64 rfl rfl ?_
                  refine Z_dup dX4_canClause_65 rfl ?_
                  refine Z_getIv dX4_canClause_66 cl_4 fl_X4_37_4 rfl (cw_i17 hw) (show _ = nI m from hm) ?_
                  refine Z_iconst (v := 1) dX4_canClause_69 (by decide) ?_
                  refine Z_iadd dX4_canClause_70 ?_
                  refine Z_putI dX4_canClause_71 cl_4 fl_X4_37_4 (Or.inl fn_4_7) rfl (cw_i17 hw) rfl rfl ?_
                  rw [nI_1, RS_out (by decide) (by omega)]
                  refine Z_iconst (v := 1) dX4_canClause_74 (by decide) ?_
                  refine Z_iret dX4_canClause_75 rfl rfl ⟨by decide, by decide⟩ ?_
                  exact h3 hs1 rfl hq1
                · skip
                  exact absurd h36 (by decide)
          · skip
            exact absurd h6 (by decide)
      · have e : W = (false, S.2 + 1, τ S.2 - 48) := by rw [← hW]; exact (if_pos hd).trans (if_neg h32)
        subst e
        refine Z_aload_n dX4_canClause_0 rfl rfl ?_
        refine Z_ldcS (i := 3) dX4_canClause_1 (by decide) ⟨rfl, rfl⟩ ?_
        refine Z_V1z (ci := 4) dX4_canClause_3 to_X4_eatsAll lk_X4_101 iv_X4_eatsAll ⟨rfl, rfl⟩ (cw_i17 hw) (Nat.le_of_ble_eq_true rfl) ⟨rfl, rfl⟩ ⟨by decide, by decide⟩ ?_
        refine k_eatsAll (i := 3) (by omega) hC hp ?_
        rw [hS, hs1]
        refine Z_if_ne (tgt := 11) dX4_canClause_6 (by decide) (fun h6 => ?_) (fun h6 => ?_)
        · skip
          refine Z_aload_n dX4_canClause_11 rfl rfl ?_
          refine Z_ldcS (i := 1) dX4_canClause_12 (by decide) ⟨rfl, rfl⟩ ?_
          refine Z_V1z (ci := 4) dX4_canClause_14 to_X4_eatsOneOf lk_X4_107 iv_X4_eatsOneOf ⟨rfl, rfl⟩ (cw_i17 hw) (Nat.le_of_ble_eq_true rfl) ⟨rfl, rfl⟩ ⟨by decide, by decide⟩ ?_
          refine k_oneOf (i := 1) (by omega) hC hs.2.1 (fun _ => ?_) (fun z => absurd (by omega) z)
          rw [ex]
          refine Z_istore_n (L' := [_, _]) dX4_canClause_17 rfl (by decide) rfl rfl ?_
          refine Z_iload_n dX4_canClause_18 rfl rfl ?_
          refine Z_if_lt (tgt := 39) dX4_canClause_19 (by decide) (fun h19 => ?_) (fun h19 => ?_)
          · skip
            exact absurd h19 (nI_pos (by omega))
          · skip
            refine Z_aload_n dX4_canClause_22 rfl rfl ?_
            refine Z_bipush (v := 32) dX4_canClause_23 (by decide) ?_
            refine Z_V1z (ci := 4) dX4_canClause_25 to_X4_eats lk_X4_53 iv_X4_eats ⟨rfl, rfl⟩ (cw_i17 hw) (Nat.le_of_ble_eq_true rfl) ⟨rfl, rfl⟩ ⟨by decide, by decide⟩ ?_
            refine k_eats (ch := 32) hC (by omega) (by omega) (fun z => absurd z h32) (fun _ => ?_)
            refine Z_if_eq (tgt := 39) dX4_canClause_28 (by decide) (fun h28 => ?_) (fun h28 => ?_)
            · skip
              refine Z_iconst (v := 0) dX4_canClause_39 (by decide) ?_
              refine Z_iret dX4_canClause_40 rfl rfl ⟨by decide, by decide⟩ ?_
              exact h1 hs1 rfl
            · skip
              exact absurd rfl h28
        · skip
          exact absurd h6 (by decide)
    · have ex := k_nwork (G := G) hC hd
      have e : W = (false, S.2, 0) := by rw [← hW]; exact if_neg hd
      subst e
      refine Z_aload_n dX4_canClause_0 rfl rfl ?_
      refine Z_ldcS (i := 3) dX4_canClause_1 (by decide) ⟨rfl, rfl⟩ ?_
      refine Z_V1z (ci := 4) dX4_canClause_3 to_X4_eatsAll lk_X4_101 iv_X4_eatsAll ⟨rfl, rfl⟩ (cw_i17 hw) (Nat.le_of_ble_eq_true rfl) ⟨rfl, rfl⟩ ⟨by decide, by decide⟩ ?_
      refine k_eatsAll (i := 3) (by omega) hC hp ?_
      rw [hS, hs1]
      refine Z_if_ne (tgt := 11) dX4_canClause_6 (by decide) (fun h6 => ?_) (fun h6 => ?_)
      · skip
        refine Z_aload_n dX4_canClause_11 rfl rfl ?_
        refine Z_ldcS (i := 1) dX4_canClause_12 (by decide) ⟨rfl, rfl⟩ ?_
        refine Z_V1z (ci := 4) dX4_canClause_14 to_X4_eatsOneOf lk_X4_107 iv_X4_eatsOneOf ⟨rfl, rfl⟩ (cw_i17 hw) (Nat.le_of_ble_eq_true rfl) ⟨rfl, rfl⟩ ⟨by decide, by decide⟩ ?_
        refine k_oneOf (i := 1) (by omega) hC hs.2.1 (fun z => absurd z (by omega)) (fun _ => ?_)
        refine Z_istore_n (L' := [_, _]) dX4_canClause_17 rfl (by decide) rfl rfl ?_
        refine Z_iload_n dX4_canClause_18 rfl rfl ?_
        refine Z_if_lt (tgt := 39) dX4_canClause_19 (by decide) (fun h19 => ?_) (fun h19 => ?_)
        · skip
          refine Z_iconst (v := 0) dX4_canClause_39 (by decide) ?_
          refine Z_iret dX4_canClause_40 rfl rfl ⟨by decide, by decide⟩ ?_
          exact h1 hs1 rfl
        · skip
          exact absurd (by decide) h19
      · skip
        exact absurd h6 (by decide)
/-- what a clause leaves -/
def kCl (α : AH) (m e : Nat) (q : ZCl) : AH := if q.1 = 0 then sI α 22 q.2.1 (nI q.2.2.1) else if q.1 = 1 then sI α 17 9 (nI q.2.2.1) else sI (sI (sI α 20 m (nI q.2.1)) 21 m (nI e)) 17 7 (nI (m + 1))
theorem k_clause (hC : RC α τ N) (hp : p ≤ N) (hcp : c ≤ p) (hm : hI α 17 7 = nI m) (hm10 : m < 10)
    (hb : (pCl τ N p).1 = false → ∀ f' c', post (some (.int 0)) (RS α f' (pCl τ N p).2.1 c'))
    (hok : (pCl τ N p).1 = true → post (some (.int 1)) (RS (kCl α m (c + (pCl τ N p).2.2.2.2.2.length) (pCl τ N p).2.2) (fem f c ((pCl τ N p).2.2.2.2.2.map vEnc)) (pCl τ N p).2.1 (c + (pCl τ N p).2.2.2.2.2.length))) : ZK G (d + 28) mX4_clause [.ref (G.1 + 17)] (RS α f p c) post := by
  have hw : CW (RS α f p c) := hC.1
  have hp0 : hP (RS α f p c) 17 0 = some 8 := hC.2.1
  refine ZK.of (n := 0) (by decide) (Nat.le_of_ble_eq_true rfl) rfl ?_
  by_cases h112 : p < N ∧ τ p = 112
  · have n99 : ¬ (p < N ∧ τ p = 99) := fun z => by omega
    have ec : pCl τ N p = if (pSpell τ N (zCh 0) p).1 = true then (if (pWork τ N (pSpell τ N (zCh 0) p).2).1 = true then ((pNum τ N (pWork τ N (pSpell τ N (zCh 0) p).2).2.1).1, (pNum τ N (pWork τ N (pSpell τ N (zCh 0) p).2).2.1).2.1, 0, (pWork τ N (pSpell τ N (zCh 0) p).2).2.2, (pNum τ N (pWork τ N (pSpell τ N (zCh 0) p).2).2.1).2.2, []) else (false, (pWork τ N (pSpell τ N (zCh 0) p).2).2.1, 3, 0, 0, [])) else (false, (pSpell τ N (zCh 0) p).2, 3, 0, 0, []) := (if_neg n99).trans (if_pos h112)
    generalize hS : pSpell τ N (zCh 0) p = S at ec
    generalize hW : pWork τ N S.2 = W at ec
    generalize hQ : pNum τ N W.2.1 = Q at ec
    rw [ec] at hb hok
    refine Z_aload_n dX4_clause_0 rfl rfl ?_
    refine Z_bipush (v := 112) dX4_clause_1 (by decide) ?_
    refine Z_V1z (ci := 4) dX4_clause_3 to_X4_sees lk_X4_71 iv_X4_sees ⟨rfl, rfl⟩ (cw_i17 hw) (Nat.le_of_ble_eq_true rfl) ⟨rfl, rfl⟩ ⟨by decide, by decide⟩ ?_
    refine k_sees (ch := 112) hC hp (by omega) (fun _ => ?_) (fun z => absurd h112 z)
    refine Z_if_eq (tgt := 14) dX4_clause_6 (by decide) (fun h6 => ?_) (fun h6 => ?_)
    · skip
      exact absurd h6 (by decide)
    · skip
      refine Z_aload_n dX4_clause_9 rfl rfl ?_
      refine Z_V0z (ci := 4) dX4_clause_10 to_X4_payClause lk_X4_90 iv_X4_payClause ⟨rfl, rfl⟩ (cw_i17 hw) (Nat.le_of_ble_eq_true rfl) ⟨rfl, rfl⟩ ⟨by decide, by decide⟩ ?_
      refine k_payC hC hp hS hW hQ (fun s1 => ?_) (fun s1 s2 => ?_) (fun s1 s2 s3 => ?_) (fun s1 s2 s3 => ?_)
      all_goals refine Z_iret dX4_clause_13 rfl rfl ⟨by decide, by decide⟩ ?_
      · rw [if_neg (by rw [s1]; exact Bool.false_ne_true)] at hb; exact hb rfl f c
      · rw [if_pos s1, if_neg (by rw [s2]; exact Bool.false_ne_true)] at hb; exact hb rfl f c
      · rw [if_pos s1, if_pos s2] at hb; exact hb s3 f c
      · rw [if_pos s1, if_pos s2] at hok; exact hok s3
  · by_cases h99 : p < N ∧ τ p = 99
    · by_cases h97 : p + 1 < N ∧ τ (p + 1) = 97
      · have n111 : ¬ (p + 1 < N ∧ τ (p + 1) = 111) := fun z => by omega
        have ec : pCl τ N p = if (pSpell τ N (zCh 3) (p + 1)).1 = true then (if (pWork τ N (pSpell τ N (zCh 3) (p + 1)).2).1 = true then ((pSom τ N (pFac τ N 5) (pWork τ N (pSpell τ N (zCh 3) (p + 1)).2).2.1).1, (pSom τ N (pFac τ N 5) (pWork τ N (pSpell τ N (zCh 3) (p + 1)).2).2.1).2.1, 2, (pWork τ N (pSpell τ N (zCh 3) (p + 1)).2).2.2, 0, (pSom τ N (pFac τ N 5) (pWork τ N (pSpell τ N (zCh 3) (p + 1)).2).2.1).2.2) else (false, (pWork τ N (pSpell τ N (zCh 3) (p + 1)).2).2.1, 3, 0, 0, [])) else (false, (pSpell τ N (zCh 3) (p + 1)).2, 3, 0, 0, []) := (if_pos h99).trans (if_neg n111)
        generalize hS : pSpell τ N (zCh 3) (p + 1) = S at ec
        generalize hW : pWork τ N S.2 = W at ec
        generalize hR : pSom τ N (pFac τ N 5) W.2.1 = R at ec
        rw [ec] at hb hok
        refine Z_aload_n dX4_clause_0 rfl rfl ?_
        refine Z_bipush (v := 112) dX4_clause_1 (by decide) ?_
        refine Z_V1z (ci := 4) dX4_clause_3 to_X4_sees lk_X4_71 iv_X4_sees ⟨rfl, rfl⟩ (cw_i17 hw) (Nat.le_of_ble_eq_true rfl) ⟨rfl, rfl⟩ ⟨by decide, by decide⟩ ?_
        refine k_sees (ch := 112) hC hp (by omega) (fun z => absurd z h112) (fun _ => ?_)
        refine Z_if_eq (tgt := 14) dX4_clause_6 (by decide) (fun h6 => ?_) (fun h6 => ?_)
        · skip
          refine Z_aload_n dX4_clause_14 rfl rfl ?_
          refine Z_bipush (v := 99) dX4_clause_15 (by decide) ?_
          refine Z_V1z (ci := 4) dX4_clause_17 to_X4_eats lk_X4_53 iv_X4_eats ⟨rfl, rfl⟩ (cw_i17 hw) (Nat.le_of_ble_eq_true rfl) ⟨rfl, rfl⟩ ⟨by decide, by decide⟩ ?_
          refine k_eats (ch := 99) hC hp (by omega) (fun _ => ?_) (fun z => absurd h99 z)
          refine Z_if_ne (tgt := 25) dX4_clause_20 (by decide) (fun h20 => ?_) (fun h20 => ?_)
          · skip
            refine Z_aload_n dX4_clause_25 rfl rfl ?_
            refine Z_bipush (v := 97) dX4_clause_26 (by decide) ?_
            refine Z_V1z (ci := 4) dX4_clause_28 to_X4_sees lk_X4_71 iv_X4_sees ⟨rfl, rfl⟩ (cw_i17 hw) (Nat.le_of_ble_eq_true rfl) ⟨rfl, rfl⟩ ⟨by decide, by decide⟩ ?_
            refine k_sees (ch := 97) hC (by omega) (by omega) (fun _ => ?_) (fun z => absurd h97 z)
            refine Z_if_eq (tgt := 41) dX4_clause_31 (by decide) (fun h31 => ?_) (fun h31 => ?_)
            · skip
              exact absurd h31 (by decide)
            · skip
              refine Z_aload_n dX4_clause_34 rfl rfl ?_
              refine Z_V0z (ci := 4) dX4_clause_35 to_X4_canClause lk_X4_93 iv_X4_canClause ⟨rfl, rfl⟩ (cw_i17 hw) (Nat.le_of_ble_eq_true rfl) ⟨rfl, rfl⟩ ⟨by decide, by decide⟩ ?_
              refine k_canC hC (by omega) (by omega) hm hm10 hS hW hR (fun s1 => ?_) (fun s1 s2 => ?_) (fun s1 s2 s3 => ?_) (fun s1 s2 s3 => ?_)
              all_goals refine Z_goto (tgt := 45) dX4_clause_38 (by decide) ?_
              all_goals refine Z_iret dX4_clause_45 rfl rfl ⟨by decide, by decide⟩ ?_
              · rw [if_neg (by rw [s1]; exact Bool.false_ne_true)] at hb; exact hb rfl f c
              · rw [if_pos s1, if_neg (by rw [s2]; exact Bool.false_ne_true)] at hb; exact hb rfl f c
              · rw [if_pos s1, if_pos s2] at hb; exact hb s3 _ _
              · rw [if_pos s1, if_pos s2] at hok; exact hok s3
          · skip
            exact absurd h20 (by decide)
        · skip
          exact absurd rfl h6
      · by_cases h111 : p + 1 < N ∧ τ (p + 1) = 111
        · have ec : pCl τ N p = if (pSpell τ N (zCh 2) (p + 1)).1 = true then ((pNum τ N (pSpell τ N (zCh 2) (p + 1)).2).1, (pNum τ N (pSpell τ N (zCh 2) (p + 1)).2).2.1, 1, 0, (pNum τ N (pSpell τ N (zCh 2) (p + 1)).2).2.2, []) else (false, (pSpell τ N (zCh 2) (p + 1)).2, 3, 0, 0, []) := (if_pos h99).trans (if_pos h111)
          generalize hS : pSpell τ N (zCh 2) (p + 1) = S at ec
          generalize hQ : pNum τ N S.2 = Q at ec
          rw [ec] at hb hok
          refine Z_aload_n dX4_clause_0 rfl rfl ?_
          refine Z_bipush (v := 112) dX4_clause_1 (by decide) ?_
          refine Z_V1z (ci := 4) dX4_clause_3 to_X4_sees lk_X4_71 iv_X4_sees ⟨rfl, rfl⟩ (cw_i17 hw) (Nat.le_of_ble_eq_true rfl) ⟨rfl, rfl⟩ ⟨by decide, by decide⟩ ?_
          refine k_sees (ch := 112) hC hp (by omega) (fun z => absurd z h112) (fun _ => ?_)
          refine Z_if_eq (tgt := 14) dX4_clause_6 (by decide) (fun h6 => ?_) (fun h6 => ?_)
          · skip
            refine Z_aload_n dX4_clause_14 rfl rfl ?_
            refine Z_bipush (v := 99) dX4_clause_15 (by decide) ?_
            refine Z_V1z (ci := 4) dX4_clause_17 to_X4_eats lk_X4_53 iv_X4_eats ⟨rfl, rfl⟩ (cw_i17 hw) (Nat.le_of_ble_eq_true rfl) ⟨rfl, rfl⟩ ⟨by decide, by decide⟩ ?_
            refine k_eats (ch := 99) hC hp (by omega) (fun _ => ?_) (fun z => absurd h99 z)
            refine Z_if_ne (tgt := 25) dX4_clause_20 (by decide) (fun h20 => ?_) (fun h20 => ?_)
            · skip
              refine Z_aload_n dX4_clause_25 rfl rfl ?_
              refine Z_bipush (v := 97) dX4_clause_26 (by decide) ?_
              refine Z_V1z (ci := 4) dX4_clause_28 to_X4_sees lk_X4_71 iv_X4_sees ⟨rfl, rfl⟩ (cw_i17 hw) (Nat.le_of_ble_eq_true rfl) ⟨rfl, rfl⟩ ⟨by decide, by decide⟩ ?_
              refine k_sees (ch := 97) hC (by omega) (by omega) (fun z => absurd z h97) (fun _ => ?_)
              refine Z_if_eq (tgt := 41) dX4_clause_31 (by decide) (fun h31 => ?_) (fun h31 => ?_)
              · skip
                refine Z_aload_n dX4_clause_41 rfl rfl ?_
                refine Z_V0z (ci := 4) dX4_clause_42 to_X4_coverClause lk_X4_96 iv_X4_coverClause ⟨rfl, rfl⟩ (cw_i17 hw) (Nat.le_of_ble_eq_true rfl) ⟨rfl, rfl⟩ ⟨by decide, by decide⟩ ?_
                refine k_covC hC (by omega) hS hQ (fun s1 => ?_) (fun s1 s2 => ?_) (fun s1 s2 => ?_)
                all_goals refine Z_iret dX4_clause_45 rfl rfl ⟨by decide, by decide⟩ ?_
                · rw [if_neg (by rw [s1]; exact Bool.false_ne_true)] at hb; exact hb rfl f c
                · rw [if_pos s1] at hb; exact hb s2 f c
                · rw [if_pos s1] at hok; exact hok s2
              · skip
                exact absurd rfl h31
            · skip
              exact absurd h20 (by decide)
          · skip
            exact absurd rfl h6
        · have e3 : pSpell τ N (zCh 3) (p + 1) = (false, p + 1) := if_neg h97
          have e2 : pSpell τ N (zCh 2) (p + 1) = (false, p + 1) := if_neg h111
          have ec : pCl τ N p = (false, p + 1, 3, 0, 0, []) := by
            refine ((if_pos h99).trans (if_neg h111)).trans ?_
            show (if (pSpell τ N (zCh 3) (p + 1)).1 = true then _ else (false, (pSpell τ N (zCh 3) (p + 1)).2, 3, 0, 0, [])) = _
            rw [e3, if_neg Bool.false_ne_true]
          rw [ec] at hb
          refine Z_aload_n dX4_clause_0 rfl rfl ?_
          refine Z_bipush (v := 112) dX4_clause_1 (by decide) ?_
          refine Z_V1z (ci := 4) dX4_clause_3 to_X4_sees lk_X4_71 iv_X4_sees ⟨rfl, rfl⟩ (cw_i17 hw) (Nat.le_of_ble_eq_true rfl) ⟨rfl, rfl⟩ ⟨by decide, by decide⟩ ?_
          refine k_sees (ch := 112) hC hp (by omega) (fun z => absurd z h112) (fun _ => ?_)
          refine Z_if_eq (tgt := 14) dX4_clause_6 (by decide) (fun h6 => ?_) (fun h6 => ?_)
          · skip
            refine Z_aload_n dX4_clause_14 rfl rfl ?_
            refine Z_bipush (v := 99) dX4_clause_15 (by decide) ?_
            refine Z_V1z (ci := 4) dX4_clause_17 to_X4_eats lk_X4_53 iv_X4_eats ⟨rfl, rfl⟩ (cw_i17 hw) (Nat.le_of_ble_eq_true rfl) ⟨rfl, rfl⟩ ⟨by decide, by decide⟩ ?_
            refine k_eats (ch := 99) hC hp (by omega) (fun _ => ?_) (fun z => absurd h99 z)
            refine Z_if_ne (tgt := 25) dX4_clause_20 (by decide) (fun h20 => ?_) (fun h20 => ?_)
            · skip
              refine Z_aload_n dX4_clause_25 rfl rfl ?_
              refine Z_bipush (v := 97) dX4_clause_26 (by decide) ?_
              refine Z_V1z (ci := 4) dX4_clause_28 to_X4_sees lk_X4_71 iv_X4_sees ⟨rfl, rfl⟩ (cw_i17 hw) (Nat.le_of_ble_eq_true rfl) ⟨rfl, rfl⟩ ⟨by decide, by decide⟩ ?_
              refine k_sees (ch := 97) hC (by omega) (by omega) (fun z => absurd z h97) (fun _ => ?_)
              refine Z_if_eq (tgt := 41) dX4_clause_31 (by decide) (fun h31 => ?_) (fun h31 => ?_)
              · skip
                refine Z_aload_n dX4_clause_41 rfl rfl ?_
                refine Z_V0z (ci := 4) dX4_clause_42 to_X4_coverClause lk_X4_96 iv_X4_coverClause ⟨rfl, rfl⟩ (cw_i17 hw) (Nat.le_of_ble_eq_true rfl) ⟨rfl, rfl⟩ ⟨by decide, by decide⟩ ?_
                refine k_covC hC (by omega) e2 rfl (fun s1 => ?_) (fun s1 s2 => absurd s1 Bool.false_ne_true) (fun s1 s2 => absurd s1 Bool.false_ne_true)
                refine Z_iret dX4_clause_45 rfl rfl ⟨by decide, by decide⟩ ?_
                exact hb rfl f c
              · skip
                exact absurd rfl h31
            · skip
              exact absurd h20 (by decide)
          · skip
            exact absurd rfl h6
    · have ec : pCl τ N p = (false, p, 3, 0, 0, []) := (if_neg h99).trans (if_neg h112)
      rw [ec] at hb
      refine Z_aload_n dX4_clause_0 rfl rfl ?_
      refine Z_bipush (v := 112) dX4_clause_1 (by decide) ?_
      refine Z_V1z (ci := 4) dX4_clause_3 to_X4_sees lk_X4_71 iv_X4_sees ⟨rfl, rfl⟩ (cw_i17 hw) (Nat.le_of_ble_eq_true rfl) ⟨rfl, rfl⟩ ⟨by decide, by decide⟩ ?_
      refine k_sees (ch := 112) hC hp (by omega) (fun z => absurd z h112) (fun _ => ?_)
      refine Z_if_eq (tgt := 14) dX4_clause_6 (by decide) (fun h6 => ?_) (fun h6 => ?_)
      · skip
        refine Z_aload_n dX4_clause_14 rfl rfl ?_
        refine Z_bipush (v := 99) dX4_clause_15 (by decide) ?_
        refine Z_V1z (ci := 4) dX4_clause_17 to_X4_eats lk_X4_53 iv_X4_eats ⟨rfl, rfl⟩ (cw_i17 hw) (Nat.le_of_ble_eq_true rfl) ⟨rfl, rfl⟩ ⟨by decide, by decide⟩ ?_
        refine k_eats (ch := 99) hC hp (by omega) (fun z => absurd z h99) (fun _ => ?_)
        refine Z_if_ne (tgt := 25) dX4_clause_20 (by decide) (fun h20 => ?_) (fun h20 => ?_)
        · skip
          exact absurd rfl h20
        · skip
          refine Z_iconst (v := 0) dX4_clause_23 (by decide) ?_
          refine Z_iret dX4_clause_24 rfl rfl ⟨by decide, by decide⟩ ?_
          exact hb rfl f c
      · skip
        exact absurd rfl h6
end CR4
