section CF2
variable {G : ZG} {d : Nat} {α β : AH} {post : Option Value → AH → Prop} {τ : Nat → Nat} {N p o c m : Nat} {f : Nat → Int32} {cl : List ZCl}
theorem pW_f : ∀ (n : Nat) (r : Bool × Nat × List ZCl), ¬ (r.1 = true ∧ (r.2.1 < N ∧ τ r.2.1 = 59)) → pW τ N n r = r
  | 0, r, _ => rfl
  | n + 1, r, h => if_neg h
theorem frR.kc {q : ZCl} {m e : Nat} (h : frR α β) (hq : clOk q) : frR α (kCl β m e q) := by
  unfold kCl
  split
  · exact h.pI (by omega)
  · split
    · exact h.pI (by omega)
    · exact ((h.pI (by omega)).pI (by omega)).pI (by omega)
theorem RC.kc {q : ZCl} {m e : Nat} (h : RC β τ N) : RC (kCl β m e q) τ N := by
  unfold kCl
  split
  · exact h.out (by decide) (by omega)
  · split
    · exact h.out (by decide) (by omega)
    · exact ((h.out (k := 20) (by decide) (by omega)).out (k := 21) (by decide) (by omega)).out (by decide) (by omega)
theorem KR.rs (h : KR β f c cl) : KR (RS β f p c) (hI (RS β f p c) 19) c cl := h
theorem lp_fault : ∀ (n i p c : Nat) (cl : List ZCl) (β : AH) (f : Nat → Int32), i + n = 10 → cl.length + 1 = i → RC β τ N → p ≤ N → c ≤ p → KR β f c cl → frR α β →
    (∀ δ, ¬ ((pW τ N n (pNx τ N p cl)).1 = true ∧ (pW τ N n (pNx τ N p cl)).2.1 = N) → frR α δ → post (some (.int (nI (pW τ N n (pNx τ N p cl)).2.1))) δ) →
    (∀ δ c', (pW τ N n (pNx τ N p cl)).1 = true → (pW τ N n (pNx τ N p cl)).2.1 = N → frR α δ → KR δ (hI δ 19) c' (pW τ N n (pNx τ N p cl)).2.2 → hI δ 17 4 = nI c' → c' ≤ N → (pW τ N n (pNx τ N p cl)).2.2.length ≤ 10 → post (some (.int (-1))) δ) →
    Z G mX4_fault (d + 29) 40 [some (.ref (G.1 + 17)), some (.ref (G.1 + 8)), some (.int (nI N)), some (.int (nI i))] [] (RS β f p c) (0, 0) post := by
  intro n
  induction n with
  | zero =>
    intro i p c cl β f hin hl hC hp hcp hk hfr hbad hok
    have hw : CW (RS β f p c) := hC.1
    have hp0 : hP (RS β f p c) 17 0 = some 8 := hC.2.1
    have hNN := hC.2.2.2.1
    have hcl10 := cans_le (cl := cl)
    cases hq : (pCl τ N p).1 with
    | false =>
      have e : pNx τ N p cl = (false, (pCl τ N p).2.1, cl) := by
        unfold pNx; rw [hq, if_neg Bool.false_ne_true]
      rw [e, pW_f 0 _ (fun z => absurd z.1 Bool.false_ne_true)] at hbad
      refine Z_iload_n dX4_fault_40 rfl rfl ?_
      refine Z_bipush (v := 10) dX4_fault_41 (by decide) ?_
      refine Z_icmp_gt (tgt := 97) dX4_fault_43 (by decide) (fun h43 => ?_) (fun h43 => ?_)
      · skip
        exact absurd h43 (nI_nlt (b := i) (a := 10) (by omega) (by omega))
      · skip
        refine Z_aload_n dX4_fault_46 rfl rfl ?_
        refine Z_V0z (ci := 4) dX4_fault_47 to_X4_clause lk_X4_49 iv_X4_clause ⟨rfl, rfl⟩ (cw_i17 hw) (Nat.le_of_ble_eq_true rfl) ⟨rfl, rfl⟩ ⟨by decide, by decide⟩ ?_
        refine k_clause hC hp hcp hk.1 (by omega) (fun _ f2 c2 => ?_) (fun z => by rw [hq] at z; cases z)
        refine Z_if_ne (tgt := 58) dX4_fault_50 (by decide) (fun h50 => ?_) (fun h50 => ?_)
        · skip
          exact absurd rfl h50
        · skip
          refine Z_aload_n dX4_fault_53 rfl rfl ?_
          refine Z_getIv dX4_fault_54 cl_4 fl_X4_31_4 rfl (cw_i17 hw) RS_2 ?_
          refine Z_iret dX4_fault_57 rfl rfl ⟨by decide, by decide⟩ ?_
          exact hbad _ (fun z => absurd z.1 Bool.false_ne_true) hfr.rs
    | true =>
      have hwo := pCl_wo (τ := τ) hp hq
      have hpo := pCl_ok (τ := τ) hp
      have hpe := pCl_e (τ := τ) hp hq
      have e : pNx τ N p cl = (true, (pCl τ N p).2.1, cl ++ [(pCl τ N p).2.2]) := by
        unfold pNx; rw [hq, if_pos rfl]
      rw [e] at hbad hok
      have hk1 := hk.step hwo pCl_nil
      have hC1 : RC (kCl β (cans cl).length (c + (pCl τ N p).2.2.2.2.2.length) (pCl τ N p).2.2) τ N := hC.kc
      have hf1 : frR α (kCl β (cans cl).length (c + (pCl τ N p).2.2.2.2.2.length) (pCl τ N p).2.2) := hfr.kc hwo.1
      generalize hB : kCl β (cans cl).length (c + (pCl τ N p).2.2.2.2.2.length) (pCl τ N p).2.2 = β1 at *
      generalize hF : fem f c ((pCl τ N p).2.2.2.2.2.map vEnc) = f1 at *
      generalize hc1 : c + (pCl τ N p).2.2.2.2.2.length = c1 at *
      have hll : (cl ++ [(pCl τ N p).2.2]).length = i := by rw [List.length_append]; exact hl
      generalize (cl ++ [(pCl τ N p).2.2]) = cl1 at *
      generalize hp1 : (pCl τ N p).2.1 = p1 at *
      have v1 : hI (RS β1 f1 p1 c1) 17 1 = nI N := hC1.2.2.1
      have hwn := hC1.1
      by_cases hlt : p1 < N
      · have e0 : pW τ N 0 (true, p1, cl1) = (true, p1, cl1) := rfl
        rw [e0] at hbad
        have hi : i = 10 := by omega
        refine Z_iload_n dX4_fault_40 rfl rfl ?_
        refine Z_bipush (v := 10) dX4_fault_41 (by decide) ?_
        refine Z_icmp_gt (tgt := 97) dX4_fault_43 (by decide) (fun h43 => ?_) (fun h43 => ?_)
        · skip
          exact absurd h43 (nI_nlt (b := i) (a := 10) (by omega) (by omega))
        · skip
          refine Z_aload_n dX4_fault_46 rfl rfl ?_
          refine Z_V0z (ci := 4) dX4_fault_47 to_X4_clause lk_X4_49 iv_X4_clause ⟨rfl, rfl⟩ (cw_i17 hw) (Nat.le_of_ble_eq_true rfl) ⟨rfl, rfl⟩ ⟨by decide, by decide⟩ ?_
          refine k_clause hC hp hcp hk.1 (by omega) (fun z => by rw [hq] at z; cases z) (fun _ => ?_)
          rw [hc1, hB, hF, hp1]
          have hw : CW (RS β1 f1 p1 c1) := hC1.1
          have hp0 : hP (RS β1 f1 p1 c1) 17 0 = some 8 := hC1.2.1
          refine Z_if_ne (tgt := 58) dX4_fault_50 (by decide) (fun h50 => ?_) (fun h50 => ?_)
          · skip
            refine Z_aload_n dX4_fault_58 rfl rfl ?_
            refine Z_getIv dX4_fault_59 cl_4 fl_X4_31_4 rfl (cw_i17 hw) RS_2 ?_
            refine Z_aload_n dX4_fault_62 rfl rfl ?_
            refine Z_getIv dX4_fault_63 cl_4 fl_X4_27_4 rfl (cw_i17 hw) v1 ?_
            refine Z_icmp_lt (tgt := 71) dX4_fault_66 (by decide) (fun h66 => ?_) (fun h66 => ?_)
            · skip
              refine Z_iload_n dX4_fault_71 rfl rfl ?_
              refine Z_bipush (v := 10) dX4_fault_72 (by decide) ?_
              refine Z_icmp_eq (tgt := 86) dX4_fault_74 (by decide) (fun h74 => ?_) (fun h74 => ?_)
              · skip
                refine Z_aload_n dX4_fault_86 rfl rfl ?_
                refine Z_getIv dX4_fault_87 cl_4 fl_X4_31_4 rfl (cw_i17 hw) RS_2 ?_
                refine Z_iret dX4_fault_90 rfl rfl ⟨by decide, by decide⟩ ?_
                exact hbad _ (fun z => absurd (show p1 = N from z.2) (by omega)) hf1.rs
              · skip
                exact absurd (by rw [hi]; rfl) h74
            · skip
              exact absurd (nI_lt hlt (by omega)) h66
          · skip
            exact absurd h50 (by decide)
      · have e0 : pW τ N 0 (true, p1, cl1) = (true, p1, cl1) := pW_f _ _ (fun z => hlt z.2.1)
        rw [e0] at hok
        have hpN : p1 = N := by omega
        refine Z_iload_n dX4_fault_40 rfl rfl ?_
        refine Z_bipush (v := 10) dX4_fault_41 (by decide) ?_
        refine Z_icmp_gt (tgt := 97) dX4_fault_43 (by decide) (fun h43 => ?_) (fun h43 => ?_)
        · skip
          exact absurd h43 (nI_nlt (b := i) (a := 10) (by omega) (by omega))
        · skip
          refine Z_aload_n dX4_fault_46 rfl rfl ?_
          refine Z_V0z (ci := 4) dX4_fault_47 to_X4_clause lk_X4_49 iv_X4_clause ⟨rfl, rfl⟩ (cw_i17 hw) (Nat.le_of_ble_eq_true rfl) ⟨rfl, rfl⟩ ⟨by decide, by decide⟩ ?_
          refine k_clause hC hp hcp hk.1 (by omega) (fun z => by rw [hq] at z; cases z) (fun _ => ?_)
          rw [hc1, hB, hF, hp1]
          have hw : CW (RS β1 f1 p1 c1) := hC1.1
          have hp0 : hP (RS β1 f1 p1 c1) 17 0 = some 8 := hC1.2.1
          refine Z_if_ne (tgt := 58) dX4_fault_50 (by decide) (fun h50 => ?_) (fun h50 => ?_)
          · skip
            refine Z_aload_n dX4_fault_58 rfl rfl ?_
            refine Z_getIv dX4_fault_59 cl_4 fl_X4_31_4 rfl (cw_i17 hw) RS_2 ?_
            refine Z_aload_n dX4_fault_62 rfl rfl ?_
            refine Z_getIv dX4_fault_63 cl_4 fl_X4_27_4 rfl (cw_i17 hw) v1 ?_
            refine Z_icmp_lt (tgt := 71) dX4_fault_66 (by decide) (fun h66 => ?_) (fun h66 => ?_)
            · skip
              exact absurd h66 (nI_nlt (by omega) (by omega))
            · skip
              refine Z_iconst (v := -1) dX4_fault_69 (by decide) ?_
              refine Z_iret dX4_fault_70 rfl rfl ⟨by decide, by decide⟩ ?_
              exact hok _ c1 rfl hpN hf1.rs hk1.rs RS_4 (by omega) (by show cl1.length ≤ 10; omega)
          · skip
            exact absurd h50 (by decide)
  | succ n ih =>
    intro i p c cl β f hin hl hC hp hcp hk hfr hbad hok
    have hw : CW (RS β f p c) := hC.1
    have hp0 : hP (RS β f p c) 17 0 = some 8 := hC.2.1
    have hNN := hC.2.2.2.1
    have hcl10 := cans_le (cl := cl)
    cases hq : (pCl τ N p).1 with
    | false =>
      have e : pNx τ N p cl = (false, (pCl τ N p).2.1, cl) := by
        unfold pNx; rw [hq, if_neg Bool.false_ne_true]
      rw [e, pW_f (n + 1) _ (fun z => absurd z.1 Bool.false_ne_true)] at hbad
      refine Z_iload_n dX4_fault_40 rfl rfl ?_
      refine Z_bipush (v := 10) dX4_fault_41 (by decide) ?_
      refine Z_icmp_gt (tgt := 97) dX4_fault_43 (by decide) (fun h43 => ?_) (fun h43 => ?_)
      · skip
        exact absurd h43 (nI_nlt (b := i) (a := 10) (by omega) (by omega))
      · skip
        refine Z_aload_n dX4_fault_46 rfl rfl ?_
        refine Z_V0z (ci := 4) dX4_fault_47 to_X4_clause lk_X4_49 iv_X4_clause ⟨rfl, rfl⟩ (cw_i17 hw) (Nat.le_of_ble_eq_true rfl) ⟨rfl, rfl⟩ ⟨by decide, by decide⟩ ?_
        refine k_clause hC hp hcp hk.1 (by omega) (fun _ f2 c2 => ?_) (fun z => by rw [hq] at z; cases z)
        refine Z_if_ne (tgt := 58) dX4_fault_50 (by decide) (fun h50 => ?_) (fun h50 => ?_)
        · skip
          exact absurd rfl h50
        · skip
          refine Z_aload_n dX4_fault_53 rfl rfl ?_
          refine Z_getIv dX4_fault_54 cl_4 fl_X4_31_4 rfl (cw_i17 hw) RS_2 ?_
          refine Z_iret dX4_fault_57 rfl rfl ⟨by decide, by decide⟩ ?_
          exact hbad _ (fun z => absurd z.1 Bool.false_ne_true) hfr.rs
    | true =>
      have hwo := pCl_wo (τ := τ) hp hq
      have hpo := pCl_ok (τ := τ) hp
      have hpe := pCl_e (τ := τ) hp hq
      have e : pNx τ N p cl = (true, (pCl τ N p).2.1, cl ++ [(pCl τ N p).2.2]) := by
        unfold pNx; rw [hq, if_pos rfl]
      rw [e] at hbad hok
      have hk1 := hk.step hwo pCl_nil
      have hC1 : RC (kCl β (cans cl).length (c + (pCl τ N p).2.2.2.2.2.length) (pCl τ N p).2.2) τ N := hC.kc
      have hf1 : frR α (kCl β (cans cl).length (c + (pCl τ N p).2.2.2.2.2.length) (pCl τ N p).2.2) := hfr.kc hwo.1
      generalize hB : kCl β (cans cl).length (c + (pCl τ N p).2.2.2.2.2.length) (pCl τ N p).2.2 = β1 at *
      generalize hF : fem f c ((pCl τ N p).2.2.2.2.2.map vEnc) = f1 at *
      generalize hc1 : c + (pCl τ N p).2.2.2.2.2.length = c1 at *
      have hll : (cl ++ [(pCl τ N p).2.2]).length = i := by rw [List.length_append]; exact hl
      generalize (cl ++ [(pCl τ N p).2.2]) = cl1 at *
      generalize hp1 : (pCl τ N p).2.1 = p1 at *
      have v1 : hI (RS β1 f1 p1 c1) 17 1 = nI N := hC1.2.2.1
      have hwn := hC1.1
      by_cases hlt : p1 < N
      · have hi : ¬ nI i = 10 := fun z => absurd ((nI_eq (b := 10) (by omega) (by omega)).mp z) (by omega)
        by_cases hz : τ p1 = 59
        · have e0 : pW τ N (n + 1) (true, p1, cl1) = pW τ N n (pNx τ N (p1 + 1) cl1) := if_pos ⟨rfl, hlt, hz⟩
          rw [e0] at hbad hok
          have next := ih (i + 1) (p1 + 1) c1 cl1 β1 f1 (by omega) (by omega) hC1 (by omega) (by omega) hk1 hf1 hbad hok
          refine Z_iload_n dX4_fault_40 rfl rfl ?_
          refine Z_bipush (v := 10) dX4_fault_41 (by decide) ?_
          refine Z_icmp_gt (tgt := 97) dX4_fault_43 (by decide) (fun h43 => ?_) (fun h43 => ?_)
          · skip
            exact absurd h43 (nI_nlt (b := i) (a := 10) (by omega) (by omega))
          · skip
            refine Z_aload_n dX4_fault_46 rfl rfl ?_
            refine Z_V0z (ci := 4) dX4_fault_47 to_X4_clause lk_X4_49 iv_X4_clause ⟨rfl, rfl⟩ (cw_i17 hw) (Nat.le_of_ble_eq_true rfl) ⟨rfl, rfl⟩ ⟨by decide, by decide⟩ ?_
            refine k_clause hC hp hcp hk.1 (by omega) (fun z => by rw [hq] at z; cases z) (fun _ => ?_)
            rw [hc1, hB, hF, hp1]
            have hw : CW (RS β1 f1 p1 c1) := hC1.1
            have hp0 : hP (RS β1 f1 p1 c1) 17 0 = some 8 := hC1.2.1
            refine Z_if_ne (tgt := 58) dX4_fault_50 (by decide) (fun h50 => ?_) (fun h50 => ?_)
            · skip
              refine Z_aload_n dX4_fault_58 rfl rfl ?_
              refine Z_getIv dX4_fault_59 cl_4 fl_X4_31_4 rfl (cw_i17 hw) RS_2 ?_
              refine Z_aload_n dX4_fault_62 rfl rfl ?_
              refine Z_getIv dX4_fault_63 cl_4 fl_X4_27_4 rfl (cw_i17 hw) v1 ?_
              refine Z_icmp_lt (tgt := 71) dX4_fault_66 (by decide) (fun h66 => ?_) (fun h66 => ?_)
              · skip
                refine Z_iload_n dX4_fault_71 rfl rfl ?_
                refine Z_bipush (v := 10) dX4_fault_72 (by decide) ?_
                refine Z_icmp_eq (tgt := 86) dX4_fault_74 (by decide) (fun h74 => ?_) (fun h74 => ?_)
                · skip
                  exact absurd h74 hi
                · skip
                  refine Z_aload_n dX4_fault_77 rfl rfl ?_
                  refine Z_bipush (v := 59) dX4_fault_78 (by decide) ?_
                  refine Z_V1z (ci := 4) dX4_fault_80 to_X4_eats lk_X4_53 iv_X4_eats ⟨rfl, rfl⟩ (cw_i17 hw) (Nat.le_of_ble_eq_true rfl) ⟨rfl, rfl⟩ ⟨by decide, by decide⟩ ?_
                  refine k_eats (ch := 59) hC1 (by omega) (by omega) (fun _ => ?_) (fun z => absurd ⟨hlt, hz⟩ z)
                  refine Z_if_ne (tgt := 91) dX4_fault_83 (by decide) (fun h83 => ?_) (fun h83 => ?_)
                  · skip
                    refine Z_iinc (L' := [_, _, _, _]) dX4_fault_91 rfl (by rfl : _ + Int32.ofInt 1 = _ + 1) (by decide) rfl rfl ?_
                    refine Z_goto (tgt := 40) dX4_fault_94 (by decide) ?_
                    rw [nI_1]
                    exact next
                  · skip
                    exact absurd h83 (by decide)
              · skip
                exact absurd (nI_lt hlt (by omega)) h66
            · skip
              exact absurd h50 (by decide)
        · have e0 : pW τ N (n + 1) (true, p1, cl1) = (true, p1, cl1) := if_neg (fun z => hz z.2.2)
          rw [e0] at hbad
          refine Z_iload_n dX4_fault_40 rfl rfl ?_
          refine Z_bipush (v := 10) dX4_fault_41 (by decide) ?_
          refine Z_icmp_gt (tgt := 97) dX4_fault_43 (by decide) (fun h43 => ?_) (fun h43 => ?_)
          · skip
            exact absurd h43 (nI_nlt (b := i) (a := 10) (by omega) (by omega))
          · skip
            refine Z_aload_n dX4_fault_46 rfl rfl ?_
            refine Z_V0z (ci := 4) dX4_fault_47 to_X4_clause lk_X4_49 iv_X4_clause ⟨rfl, rfl⟩ (cw_i17 hw) (Nat.le_of_ble_eq_true rfl) ⟨rfl, rfl⟩ ⟨by decide, by decide⟩ ?_
            refine k_clause hC hp hcp hk.1 (by omega) (fun z => by rw [hq] at z; cases z) (fun _ => ?_)
            rw [hc1, hB, hF, hp1]
            have hw : CW (RS β1 f1 p1 c1) := hC1.1
            have hp0 : hP (RS β1 f1 p1 c1) 17 0 = some 8 := hC1.2.1
            refine Z_if_ne (tgt := 58) dX4_fault_50 (by decide) (fun h50 => ?_) (fun h50 => ?_)
            · skip
              refine Z_aload_n dX4_fault_58 rfl rfl ?_
              refine Z_getIv dX4_fault_59 cl_4 fl_X4_31_4 rfl (cw_i17 hw) RS_2 ?_
              refine Z_aload_n dX4_fault_62 rfl rfl ?_
              refine Z_getIv dX4_fault_63 cl_4 fl_X4_27_4 rfl (cw_i17 hw) v1 ?_
              refine Z_icmp_lt (tgt := 71) dX4_fault_66 (by decide) (fun h66 => ?_) (fun h66 => ?_)
              · skip
                refine Z_iload_n dX4_fault_71 rfl rfl ?_
                refine Z_bipush (v := 10) dX4_fault_72 (by decide) ?_
                refine Z_icmp_eq (tgt := 86) dX4_fault_74 (by decide) (fun h74 => ?_) (fun h74 => ?_)
                · skip
                  exact absurd h74 hi
                · skip
                  refine Z_aload_n dX4_fault_77 rfl rfl ?_
                  refine Z_bipush (v := 59) dX4_fault_78 (by decide) ?_
                  refine Z_V1z (ci := 4) dX4_fault_80 to_X4_eats lk_X4_53 iv_X4_eats ⟨rfl, rfl⟩ (cw_i17 hw) (Nat.le_of_ble_eq_true rfl) ⟨rfl, rfl⟩ ⟨by decide, by decide⟩ ?_
                  refine k_eats (ch := 59) hC1 (by omega) (by omega) (fun z => absurd z.2 hz) (fun _ => ?_)
                  refine Z_if_ne (tgt := 91) dX4_fault_83 (by decide) (fun h83 => ?_) (fun h83 => ?_)
                  · skip
                    exact absurd rfl h83
                  · skip
                    refine Z_aload_n dX4_fault_86 rfl rfl ?_
                    refine Z_getIv dX4_fault_87 cl_4 fl_X4_31_4 rfl (cw_i17 hw) RS_2 ?_
                    refine Z_iret dX4_fault_90 rfl rfl ⟨by decide, by decide⟩ ?_
                    exact hbad _ (fun z => absurd (show p1 = N from z.2) (by omega)) hf1.rs
              · skip
                exact absurd (nI_lt hlt (by omega)) h66
            · skip
              exact absurd h50 (by decide)
      · have e0 : pW τ N (n + 1) (true, p1, cl1) = (true, p1, cl1) := pW_f _ _ (fun z => hlt z.2.1)
        rw [e0] at hok
        have hpN : p1 = N := by omega
        refine Z_iload_n dX4_fault_40 rfl rfl ?_
        refine Z_bipush (v := 10) dX4_fault_41 (by decide) ?_
        refine Z_icmp_gt (tgt := 97) dX4_fault_43 (by decide) (fun h43 => ?_) (fun h43 => ?_)
        · skip
          exact absurd h43 (nI_nlt (b := i) (a := 10) (by omega) (by omega))
        · skip
          refine Z_aload_n dX4_fault_46 rfl rfl ?_
          refine Z_V0z (ci := 4) dX4_fault_47 to_X4_clause lk_X4_49 iv_X4_clause ⟨rfl, rfl⟩ (cw_i17 hw) (Nat.le_of_ble_eq_true rfl) ⟨rfl, rfl⟩ ⟨by decide, by decide⟩ ?_
          refine k_clause hC hp hcp hk.1 (by omega) (fun z => by rw [hq] at z; cases z) (fun _ => ?_)
          rw [hc1, hB, hF, hp1]
          have hw : CW (RS β1 f1 p1 c1) := hC1.1
          have hp0 : hP (RS β1 f1 p1 c1) 17 0 = some 8 := hC1.2.1
          refine Z_if_ne (tgt := 58) dX4_fault_50 (by decide) (fun h50 => ?_) (fun h50 => ?_)
          · skip
            refine Z_aload_n dX4_fault_58 rfl rfl ?_
            refine Z_getIv dX4_fault_59 cl_4 fl_X4_31_4 rfl (cw_i17 hw) RS_2 ?_
            refine Z_aload_n dX4_fault_62 rfl rfl ?_
            refine Z_getIv dX4_fault_63 cl_4 fl_X4_27_4 rfl (cw_i17 hw) v1 ?_
            refine Z_icmp_lt (tgt := 71) dX4_fault_66 (by decide) (fun h66 => ?_) (fun h66 => ?_)
            · skip
              exact absurd h66 (nI_nlt (by omega) (by omega))
            · skip
              refine Z_iconst (v := -1) dX4_fault_69 (by decide) ?_
              refine Z_iret dX4_fault_70 rfl rfl ⟨by decide, by decide⟩ ?_
              exact hok _ c1 rfl hpN hf1.rs hk1.rs RS_4 (by omega) (by show cl1.length ≤ 10; omega)
          · skip
            exact absurd h50 (by decide)
theorem cw_t0 {x : Option Nat} (h : CW α) : CW (sP α 17 0 x) := frR.tp.cw h
theorem k_fault (hw : CW α) (hN : N ≤ 100) (hτ : ∀ i, i < N → hI α 8 i = nI (τ i)) (hτ2 : ∀ i, i < N → τ i ≤ 127)
    (hbad : ∀ δ, ¬ ((pText τ N).1 = true ∧ (pText τ N).2.1 = N) → frR α δ → post (some (.int (nI (pText τ N).2.1))) δ)
    (hok : ∀ δ c', (pText τ N).1 = true → (pText τ N).2.1 = N → frR α δ → KR δ (hI δ 19) c' (pText τ N).2.2 → hI δ 17 4 = nI c' → c' ≤ N → (pText τ N).2.2.length ≤ 10 → post (some (.int (-1))) δ) : ZK G (d + 29) mX4_fault [.ref (G.1 + 17), .ref (G.1 + 8), .int (nI N)] α post := by
  have fin : ∀ β, frR α β → hP β 17 0 = some 8 → hI β 17 1 = nI N → hI β 17 2 = 0 → hI β 17 4 = 0 → hI β 17 7 = 0 → (∀ j, j < 3 → hI β 22 j = 1) → hI β 17 9 = 0 → Z G mX4_fault (d + 29) 40 [some (.ref (G.1 + 17)), some (.ref (G.1 + 8)), some (.int (nI N)), some (.int (nI 1))] [] β (0, 0) post := by
    intro β hf h0 h1 h2 h4 h7 h22 h9
    have := lp_fault (G := G) (d := d) (α := α) (post := post) (τ := τ) (N := N) 9 1 0 0 [] β (hI β 19) rfl rfl ⟨hf.cw hw, h0, h1, hN, fun i hi => by rw [(hf.2.2.1 8 (by omega)).1]; exact hτ i hi, hτ2⟩ (Nat.zero_le _) (Nat.le_refl _) ⟨h7, rfl, fun j hj => absurd hj (Nat.not_lt_zero j), fun j hj => absurd hj (Nat.not_lt_zero j), h22, h9, fun q hq => absurd hq (List.not_mem_nil)⟩ hf hbad hok
    rw [RS_me h2 h4] at this
    exact this
  refine ZK.of (n := 1) (by decide) (Nat.le_of_ble_eq_true rfl) rfl ?_
  refine Z_aload_n dX4_fault_0 rfl rfl ?_
  refine Z_aload_n dX4_fault_1 rfl rfl ?_
  refine Z_putR dX4_fault_2 cl_4 fl_X4_9_4 (Or.inl fn_4_0) rfl (cw_i17 hw) rfl rfl ?_
  have hw := cw_t0 (x := some 8) hw
  refine Z_aload_n dX4_fault_5 rfl rfl ?_
  refine Z_iload_n dX4_fault_6 rfl rfl ?_
  refine Z_putI dX4_fault_7 cl_4 fl_X4_27_4 (Or.inl fn_4_1) rfl (cw_i17 hw) rfl rfl ?_
  refine Z_aload_n dX4_fault_10 rfl rfl ?_
  refine Z_iconst (v := 0) dX4_fault_11 (by decide) ?_
  refine Z_putI dX4_fault_12 cl_4 fl_X4_31_4 (Or.inl fn_4_2) rfl (cw_i17 hw) rfl rfl ?_
  refine Z_aload_n dX4_fault_15 rfl rfl ?_
  refine Z_iconst (v := 0) dX4_fault_16 (by decide) ?_
  refine Z_putI dX4_fault_17 cl_4 fl_X4_34_4 (Or.inl fn_4_4) rfl (cw_i17 hw) rfl rfl ?_
  refine Z_aload_n dX4_fault_20 rfl rfl ?_
  refine Z_iconst (v := 0) dX4_fault_21 (by decide) ?_
  refine Z_putI dX4_fault_22 cl_4 fl_X4_37_4 (Or.inl fn_4_7) rfl (cw_i17 hw) rfl rfl ?_
  refine Z_aload_n dX4_fault_25 rfl rfl ?_
  refine Z_getR dX4_fault_26 cl_4 fl_X4_24_4 rfl (cw_i17 hw) (cw_p17_8 hw) ?_
  refine Z_iconst (v := 1) dX4_fault_29 (by decide) ?_
  refine Z_S2z dX4_fault_30 to_J7_fill_53178 lk_X4_40 sc_J7_fill_53178 (Nat.le_of_ble_eq_true rfl) ⟨rfl, rfl⟩ ⟨by decide, by decide⟩ ?_
  refine c_jfill (cw_i22 hw) (by decide) ?_
  refine Z_aload_n dX4_fault_33 rfl rfl ?_
  refine Z_iconst (v := 0) dX4_fault_34 (by decide) ?_
  refine Z_putI dX4_fault_35 cl_4 fl_X4_46_4 (Or.inl fn_4_9) rfl (cw_i17 hw) rfl rfl ?_
  refine Z_iconst (v := 1) dX4_fault_38 (by decide) ?_
  refine Z_istore_n (L' := [_, _, _, _]) dX4_fault_39 rfl (by decide) rfl rfl ?_
  refine fin _ (((((((frR.tp.pI (by omega)).pI (by omega)).pI (by omega)).pI (by omega)).pR (by omega)).pI (by omega))) ?_ ?_ ?_ ?_ ?_ ?_ ?_
  · rfl
  · rfl
  · rfl
  · rfl
  · rfl
  · intro j hj; exact if_pos hj
  · rfl
end CF2
