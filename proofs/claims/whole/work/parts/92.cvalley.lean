section CV2
variable {G : ZG} {d : Nat} {α β γ : AH} {post : Option Value → AH → Prop} {cl : List ZCl} {Γ Γ1 : Nat → VC} {A : ZA}
theorem vsem_cans : vsem (cans cl) = vSem cl := by
  funext s g l r e k
  show (cans cl).any (fun c => decide (c.1 = k) && zval1 (dyOf s g l r e) c.2) = cl.any (vS1 (dyOf s g l r e) k)
  unfold cans
  induction cl with
  | nil => rfl
  | cons q cl ih =>
    rw [List.any_cons, ← ih]
    by_cases h : q.1 = 2
    · rw [List.filter_cons_of_pos (by exact decide_eq_true h), List.map_cons, List.any_cons]
      unfold vS1
      rw [decide_eq_true h, Bool.true_and]
    · rw [List.filter_cons_of_neg (by rw [decide_eq_false h]; exact Bool.false_ne_true)]
      unfold vS1
      rw [decide_eq_false h, Bool.false_and, Bool.false_and, Bool.false_or]
theorem frN.rf : frN α α := ⟨rfl, rfl, fun _ _ => ⟨rfl, rfl, rfl⟩, fun _ _ _ _ => rfl⟩
theorem CRel.gam (h : CRel Γ A α) (hΓ : ∀ k, k < hN α → Γ1 k = Γ k) : CRel Γ1 A α := by
  have hs : cSea α Γ1 5 A.1 := by
    obtain ⟨q1, q2, ⟨v, q3, q4, q5⟩, q6⟩ := h.2.2.2.1
    exact ⟨q1, q2, ⟨v, q3, by rw [hΓ v q4.lt]; exact q4, by rw [hΓ v q4.lt]; exact q5⟩, q6⟩
  exact h.nowP hΓ frN.rf h.2.2.1 hs
theorem CRel.junk {g : Nat → Int32} (h : CRel Γ A α) (h5 : A.1.1 1 < 5) (hb : SB (zJ A.1.1 g (A.1.1 1))) : CRel Γ ((zJ A.1.1 g (A.1.1 1), A.1.2), A.2) (sI α 5 5 0) := by
  have sea := h.2.2.2.1
  have s41 := h.2.2.1.2
  have b0 : A.1.1 0 ≤ 8 := h.sb.at (by omega) rfl
  have hf : frI (fun k => 5 ≤ k ∧ k ≤ 10) α (sI α 5 5 0) := frI.sI (by omega)
  have hz := (hf.c (fun k hk => by unfold cId; omega)).z
  have zo : ∀ i, i ≠ 3 → ¬ ((167 + 3 * A.1.1 1 ≤ i ∧ i < 167 + 3 * A.1.1 1 + 3) ∨ i = 182 + A.1.1 1 ∨ i = 187 + A.1.1 1) → zJ A.1.1 g (A.1.1 1) i = A.1.1 i := fun i h3 hn => by
    unfold zJ; rw [if_neg hn, if_neg h3]
  have z3 : zJ A.1.1 g (A.1.1 1) 3 = 0 := by unfold zJ; rw [if_neg (by omega), if_pos rfl]
  generalize zJ A.1.1 g (A.1.1 1) = σ at *
  have r5 : ∀ k, k ≠ 5 → hI (sI α 5 5 0) k = hI α k := fun k hk => sI_ne hk
  have n5 : ∀ j, j ≠ 5 → hI (sI α 5 5 0) 5 j = hI α 5 j := fun j hj => by rw [hI_sI, if_neg (fun z => hj z.2)]
  refine h.now hf hb ⟨⟨fun i hi => ?_, fun i hi => ?_, fun i hi => ?_, fun i hi => ?_⟩, ⟨?_, ?_, ?_, ?_, ?_, ?_⟩, ?_, ?_⟩
  · rw [r5 _ (by omega)]; show _ = nI (σ (6 + i)); rw [zo _ (by omega) (by omega)]; exact sea.1.1 i hi
  · rw [r5 _ (by omega)]; show _ = nI (σ (164 + i)); rw [zo _ (by omega) (by omega)]; exact sea.1.2.1 i hi
  · rw [r5 _ (by omega)]; show _ = nI (σ (12 + i)); rw [zo _ (by omega) (by omega)]; exact sea.1.2.2.1 i hi
  · rw [r5 _ (by omega)]; show _ = nI (σ (152 + i)); rw [zo _ (by omega) (by omega)]; exact sea.1.2.2.2 i hi
  · rw [n5 _ (by omega)]; show _ = nI (σ 5); rw [zo _ (by omega) (by omega)]; exact sea.2.1.1
  · rw [n5 _ (by omega)]; show _ = nI (zss σ); unfold zss
    rw [zo 9 (by omega) (by omega), zo 10 (by omega) (by omega), zo 11 (by omega) (by omega)]; exact sea.2.1.2.1
  · show _ = nI (σ 3); rw [hI_sI, if_pos ⟨rfl, rfl⟩, z3]; rfl
  · rw [n5 _ (by omega)]; show _ = nI (σ 1); rw [zo _ (by omega) (by omega)]; exact sea.2.1.2.2.2.1
  · rw [n5 _ (by omega)]; show _ = nI (σ 0); rw [zo _ (by omega) (by omega)]; exact sea.2.1.2.2.2.2.1
  · rw [n5 _ (by omega)]; show _ = nI (σ 2); rw [zo _ (by omega) (by omega)]; exact sea.2.1.2.2.2.2.2
  · obtain ⟨v, q1, q2, q3, q4, q5⟩ := sea.2.2.1
    have e4 : σ 4 = A.1.1 4 := zo 4 (by omega) (by omega)
    refine ⟨v, q1, q2.fr hz, ?_, fun k hk => ?_, ?_⟩
    · rw [q3]; unfold hSem; show _ = (if σ 4 = 0 then _ else A.1.2 (σ 4 - 1)); rw [e4]
    · rw [q4 k hk]; show sp_pay A.1.1 k = sp_pay σ k; unfold sp_pay; rw [e4]
      by_cases e : A.1.1 4 = 0
      · rw [if_pos e, if_pos e]
      · rw [if_neg e, if_neg e, zo _ (by omega) (by omega)]
    · rw [q5]; show sp_cov A.1.1 = sp_cov σ; unfold sp_cov; rw [e4]
      by_cases e : A.1.1 4 = 0
      · rw [if_pos e, if_pos e]
      · rw [if_neg e, if_neg e, zo _ (by omega) (by omega)]
  · refine cWks.cg (σ := A.1.1) ⟨fun w hw c hc => ?_, fun w hw => ?_⟩ (fun i hi => zo i (by omega) (by omega)) b0
    · obtain ⟨kd, num, v, row, q⟩ := sea.2.2.2.1 w hw c hc
      exact ⟨kd, num, v, row, q.fr hz⟩
    · obtain ⟨c, q1, q2⟩ := sea.2.2.2.2 w hw
      exact ⟨c, q1, q2.fr hz⟩
theorem CRel.tell2 {v : Nat} {S0 : ZS} (h : CRel Γ (S0, A.2) α) (hS : S0.1 = u1 A.1.1 3 0) (h5 : A.1.1 1 < 5) (hv : vObj α v (Γ v)) (hΓ : Γ v = (cans cl, vPay cl, vCov cl)) (hb : SB (zV A.1.1 (A.1.1 1) cl)) : CRel Γ ((zV A.1.1 (A.1.1 1) cl, u1 A.1.2 (A.1.1 1) (vSem cl)), A.2) (sI (sP α 5 6 (some v)) 5 7 (nI (A.1.1 1 + 1))) := by
  have sea := h.2.2.2.1
  have b0 : A.1.1 0 ≤ 8 := by
    have := h.sb.at (i := 0) (by omega) rfl
    rw [show ((S0, A.2) : ZA).1.1 = u1 A.1.1 3 0 from hS, u1_n (by omega)] at this
    exact this
  have hf : frN α (sI (sP α 5 6 (some v)) 5 7 (nI (A.1.1 1 + 1))) := ⟨rfl, rfl, fun k hk => ⟨sI_ne (α := sP α 5 6 (some v)) (by omega), rfl, u2_row (by omega)⟩, fun k j h6 h9 => by
    show hP (sP α 5 6 (some v)) k j = _
    rw [hP_sP, if_neg (fun z => h6 z.1 z.2)]⟩
  have hz := hf.c.z
  have s0 : ∀ i, i ≠ 3 → S0.1 i = A.1.1 i := fun i hi => by rw [hS, u1_n hi]
  have zo : ∀ i, i ≠ 1 → i ≠ 3 → i ≠ 4 → ¬ ((167 + 3 * A.1.1 1 ≤ i ∧ i < 167 + 3 * A.1.1 1 + 3) ∨ i = 182 + A.1.1 1 ∨ i = 187 + A.1.1 1) → zV A.1.1 (A.1.1 1) cl i = S0.1 i := fun i h1 h3 h4 hn => by
    unfold zV; rw [if_neg h1, if_neg h3, if_neg h4, if_neg (by omega), if_neg (by omega), if_neg (by omega), s0 i h3]
  have z1 : zV A.1.1 (A.1.1 1) cl 1 = A.1.1 1 + 1 := rfl
  have z3 : zV A.1.1 (A.1.1 1) cl 3 = 0 := rfl
  have z4 : zV A.1.1 (A.1.1 1) cl 4 = A.1.1 1 + 1 := rfl
  have zc : zV A.1.1 (A.1.1 1) cl (182 + A.1.1 1) = vCov cl := by
    unfold zV; rw [if_neg (by omega), if_neg (by omega), if_neg (by omega), if_pos rfl]
  have zp : ∀ k, k < 3 → zV A.1.1 (A.1.1 1) cl (167 + 3 * A.1.1 1 + k) = vPay cl k := fun k hk => by
    unfold zV; rw [if_neg (by omega), if_neg (by omega), if_neg (by omega), if_neg (by omega), if_neg (by omega), if_pos (by omega), Nat.add_sub_cancel_left]
  generalize zV A.1.1 (A.1.1 1) cl = σ at *
  have r5 : ∀ k, k ≠ 5 → hI (sI (sP α 5 6 (some v)) 5 7 (nI (A.1.1 1 + 1))) k = hI α k := fun k hk => sI_ne (α := sP α 5 6 (some v)) hk
  have n5 : ∀ j, j ≠ 7 → hI (sI (sP α 5 6 (some v)) 5 7 (nI (A.1.1 1 + 1))) 5 j = hI α 5 j := fun j hj => by rw [hI_sI, if_neg (fun z => hj z.2)]; rfl
  refine CRel.nowP (A := (S0, A.2)) (S := (σ, u1 A.1.2 (A.1.1 1) (vSem cl))) h (fun _ _ => rfl) hf hb ⟨⟨fun i hi => ?_, fun i hi => ?_, fun i hi => ?_, fun i hi => ?_⟩, ⟨?_, ?_, ?_, ?_, ?_, ?_⟩, ?_, ?_⟩
  · rw [r5 _ (by omega)]; show _ = nI (σ (6 + i)); rw [zo _ (by omega) (by omega) (by omega) (by omega)]; exact sea.1.1 i hi
  · rw [r5 _ (by omega)]; show _ = nI (σ (164 + i)); rw [zo _ (by omega) (by omega) (by omega) (by omega)]; exact sea.1.2.1 i hi
  · rw [r5 _ (by omega)]; show _ = nI (σ (12 + i)); rw [zo _ (by omega) (by omega) (by omega) (by omega)]; exact sea.1.2.2.1 i hi
  · rw [r5 _ (by omega)]; show _ = nI (σ (152 + i)); rw [zo _ (by omega) (by omega) (by omega) (by omega)]; exact sea.1.2.2.2 i hi
  · rw [n5 _ (by omega)]; show _ = nI (σ 5); rw [zo _ (by omega) (by omega) (by omega) (by omega)]; exact sea.2.1.1
  · rw [n5 _ (by omega)]; show _ = nI (zss σ); unfold zss
    rw [zo 9 (by omega) (by omega) (by omega) (by omega), zo 10 (by omega) (by omega) (by omega) (by omega), zo 11 (by omega) (by omega) (by omega) (by omega)]; exact sea.2.1.2.1
  · rw [n5 _ (by omega)]; show _ = nI (σ 3)
    have := sea.2.1.2.2.1
    rw [show ((S0, A.2) : ZA).1.1 3 = 0 by show S0.1 3 = 0; rw [hS, u1_s]] at this
    rw [z3]; exact this
  · show _ = nI (σ 1); rw [hI_sI, if_pos ⟨rfl, rfl⟩, z1]
  · rw [n5 _ (by omega)]; show _ = nI (σ 0); rw [zo _ (by omega) (by omega) (by omega) (by omega)]; exact sea.2.1.2.2.2.2.1
  · rw [n5 _ (by omega)]; show _ = nI (σ 2); rw [zo _ (by omega) (by omega) (by omega) (by omega)]; exact sea.2.1.2.2.2.2.2
  · refine ⟨v, ?_, hv.fr hz, ?_⟩
    · show hP (sP α 5 6 (some v)) 5 6 = some v; rw [hP_sP, if_pos ⟨rfl, rfl⟩]
    · rw [hΓ]
      refine ⟨?_, fun k hk => ?_, ?_⟩
      · show vsem (cans cl) = _
        rw [vsem_cans]; unfold hSem; show _ = if σ 4 = 0 then _ else u1 A.1.2 (A.1.1 1) (vSem cl) (σ 4 - 1)
        rw [z4, if_neg (by omega), Nat.add_sub_cancel, u1_s]
      · show vPay cl k = sp_pay σ k; unfold sp_pay
        rw [z4, if_neg (by omega), Nat.add_sub_cancel, zp k hk]
      · show vCov cl = sp_cov σ; unfold sp_cov
        rw [z4, if_neg (by omega), Nat.add_sub_cancel, zc]
  · have e9 : ∀ w, hP (sI (sP α 5 6 (some v)) 5 7 (nI (A.1.1 1 + 1))) (5 + 4) w = hP α (5 + 4) w := fun w => by
      show hP (sP α 5 6 (some v)) (5 + 4) w = _
      rw [hP_sP, if_neg (by omega)]
    refine cWks.cg (σ := S0.1) ⟨fun w hw c hc => ?_, fun w hw => ?_⟩ (fun i hi => zo i (by omega) (by omega) (by omega) (by omega)) (by rw [s0 0 (by omega)]; exact b0)
    · rw [e9] at hc
      obtain ⟨kd, num, v, row, q⟩ := sea.2.2.2.1 w hw c hc
      exact ⟨kd, num, v, row, q.fr hz⟩
    · obtain ⟨c, q1, q2⟩ := sea.2.2.2.2 w hw
      exact ⟨c, by rw [e9]; exact q1, q2.fr hz⟩
theorem pW_le {τ : Nat → Nat} {N : Nat} : ∀ (n : Nat) (r : Bool × Nat × List ZCl), r.2.1 ≤ N → (pW τ N n r).2.1 ≤ N
  | 0, r, h => h
  | n + 1, r, h => by
    unfold pW
    split
    · rename_i hz
      exact pW_le n _ (pCl_ok (τ := τ) (N := N) (p := r.2.1 + 1) (by omega)).2.1
    · exact h
theorem pT_le {τ : Nat → Nat} {N : Nat} : (pText τ N).2.1 ≤ N := pW_le 9 _ (pCl_ok (τ := τ) (N := N) (p := 0) (by omega)).2.1
theorem cw_h56 {v : Nat} (h : CW α) : CW (sP α 5 6 (some v)) := frS.cw5 (frS.rf.pP (Or.inl ⟨rfl, rfl⟩)) h
theorem k_valley (hr : CRel Γ A α) (hfull : A.1.1 1 = 5 → post (some (.int (-4))) α)
    (hbad : ∀ β, A.1.1 1 < 5 → ¬ ((zText A.1).1 = true ∧ (zText A.1).2.1 = A.1.1 3) → frC α β → (∀ g, SB (zJ A.1.1 g (A.1.1 1)) → CRel Γ ((zJ A.1.1 g (A.1.1 1), A.1.2), A.2) β) → post (some (.int (-10 - nI (zText A.1).2.1))) β)
    (hok : ∀ Γ1 β, A.1.1 1 < 5 → (zText A.1).1 = true → (zText A.1).2.1 = A.1.1 3 → frC α β → (SB (zV A.1.1 (A.1.1 1) (zText A.1).2.2) → CRel Γ1 ((zV A.1.1 (A.1.1 1) (zText A.1).2.2, u1 A.1.2 (A.1.1 1) (vSem (zText A.1).2.2)), A.2) β) → post (some (.int (nI (A.1.1 1)))) β) : ZK G (d + 30) mX11_valley [.ref (G.1 + 0)] α post := by
  have hw := hr.1
  have b1 : A.1.1 1 ≤ 5 := hr.sb.at (by omega) rfl
  have b3 : A.1.1 3 ≤ 100 := hr.sb.at (by omega) rfl
  have v7 := hr.2.2.2.1.2.1.2.2.2.1
  have v5 := hr.2.2.2.1.2.1.2.2.1
  have h52 := hr.2.1
  have htx : zText A.1 = pText (fun i => A.1.1 (12 + i)) (A.1.1 3) := rfl
  have hτ : ∀ i, i < A.1.1 3 → hI α 8 i = nI (A.1.1 (12 + i)) := fun i hi => hr.2.2.2.1.1.2.2.1 i (by omega)
  have hτ2 : ∀ i, i < A.1.1 3 → A.1.1 (12 + i) ≤ 127 := fun i hi => hr.sb.at (by omega) (by unfold zbd; rw [if_neg (by omega), if_neg (by omega), if_neg (by omega), if_neg (by omega), if_neg (by omega), if_neg (by omega), if_neg (by omega), if_neg (by omega), if_pos (by omega)])
  refine ZK.of (n := 1) (by decide) (Nat.le_of_ble_eq_true rfl) rfl ?_
  by_cases h5 : A.1.1 1 < 5
  · rw [htx] at hbad hok
    by_cases ht : (pText (fun i => A.1.1 (12 + i)) (A.1.1 3)).1 = true ∧ (pText (fun i => A.1.1 (12 + i)) (A.1.1 3)).2.1 = A.1.1 3
    · skip
      refine Z_aload_n dX11_valley_0 rfl rfl ?_
      refine Z_getR dX11_valley_1 cl_11 fl_X11_21_11 rfl (cw_i0 hw) (cw_p0_0 hw) ?_
      refine Z_getIv dX11_valley_4 cl_5 fl_X11_65_5 rfl (cw_i5 hw) v7 ?_
      refine Z_iconst (v := 5) dX11_valley_7 (by decide) ?_
      refine Z_icmp_lt (tgt := 14) dX11_valley_8 (by decide) (fun h8 => ?_) (fun h8 => ?_)
      · skip
        refine Z_aload_n dX11_valley_14 rfl rfl ?_
        refine Z_getR dX11_valley_15 cl_11 fl_X11_31_11 rfl (cw_i0 hw) (cw_p0_3 hw) ?_
        refine Z_aload_n dX11_valley_18 rfl rfl ?_
        refine Z_getR dX11_valley_19 cl_11 fl_X11_21_11 rfl (cw_i0 hw) (cw_p0_0 hw) ?_
        refine Z_getR dX11_valley_22 cl_5 fl_X11_62_5 rfl (cw_i5 hw) (cw_p5_4 hw) ?_
        refine Z_aload_n dX11_valley_25 rfl rfl ?_
        refine Z_getR dX11_valley_26 cl_11 fl_X11_21_11 rfl (cw_i0 hw) (cw_p0_0 hw) ?_
        refine Z_getIv dX11_valley_29 cl_5 fl_X11_58_5 rfl (cw_i5 hw) v5 ?_
        refine Z_V2z (ci := 4) dX11_valley_32 to_X4_fault lk_X11_68 iv_X4_fault ⟨rfl, rfl⟩ (cw_i17 hw) (Nat.le_of_ble_eq_true rfl) ⟨rfl, rfl⟩ ⟨by decide, by decide⟩ ?_
        refine k_fault (τ := fun i => A.1.1 (12 + i)) hr.1 b3 hτ hτ2 (fun δ z _ => absurd ht z) (fun δ c2 _ _ hfr hk h4 hc2 h10 => ?_)
        have hr1 := hr.rd hfr
        have hw := hr1.1
        have hs : CRel Γ (zset A 3 0) (sI δ 5 5 0) := hr1.sig (m := 0) (by omega)
        refine Z_istore_n (L' := [_, _]) dX11_valley_35 rfl (by decide) rfl rfl ?_
        refine Z_aload_n dX11_valley_36 rfl rfl ?_
        refine Z_getR dX11_valley_37 cl_11 fl_X11_21_11 rfl (cw_i0 hw) (cw_p0_0 hw) ?_
        refine Z_iconst (v := 0) dX11_valley_40 (by decide) ?_
        refine Z_putI dX11_valley_41 cl_5 fl_X11_58_5 (Or.inl fn_5_5) rfl (cw_i5 hw) rfl rfl ?_
        refine Z_iload_n dX11_valley_44 rfl rfl ?_
        refine Z_if_lt (tgt := 53) dX11_valley_45 (by decide) (fun h45 => ?_) (fun h45 => ?_)
        · skip
          refine Z_aload_n dX11_valley_53 rfl rfl ?_
          refine Z_getR dX11_valley_54 cl_11 fl_X11_21_11 rfl (cw_i0 hw) (cw_p0_0 hw) ?_
          refine Z_aload_n dX11_valley_57 rfl rfl ?_
          refine Z_getR dX11_valley_58 cl_11 fl_X11_31_11 rfl (cw_i0 hw) (cw_p0_3 hw) ?_
          refine Z_V0 (ci := 4) dX11_valley_61 to_X4_made lk_X11_72 iv_X4_made ⟨rfl, rfl⟩ (cw_i17 hw) (Nat.le_of_ble_eq_true rfl) ⟨by decide, by decide⟩ ?_
          refine k_made (c := c2) (cl := (pText (fun i => A.1.1 (12 + i)) (A.1.1 3)).2.2) hw (show 52 ≤ hN δ from hr1.2.1) (show KR (sI δ 5 5 0) (hI (sI δ 5 5 0) 19) c2 _ from hk) h4 (by omega) h10 (fun β hf hv => ?_)
          have hw := hf.cw hw
          have w7 : hI β 5 7 = nI (A.1.1 1) := by rw [(hf.2 5 (by show 5 < hN δ; have := hr1.2.1; omega)).2.1, hI_sI, if_neg (by omega)]; exact hr1.2.2.2.1.2.1.2.2.2.1
          refine Z_putR dX11_valley_64 cl_5 fl_X11_76_5 (Or.inl fn_5_6) rfl (cw_i5 hw) rfl rfl ?_
          have hw := cw_h56 (v := hN δ) hw
          refine Z_aload_n dX11_valley_67 rfl rfl ?_
          refine Z_getR dX11_valley_68 cl_11 fl_X11_21_11 rfl (cw_i0 hw) (cw_p0_0 hw) ?_
          refine Z_dup dX11_valley_71 rfl ?_
          refine Z_getIv dX11_valley_72 cl_5 fl_X11_65_5 rfl (cw_i5 hw) (show _ = nI (A.1.1 1) from w7) ?_
          refine Z_iconst (v := 1) dX11_valley_75 (by decide) ?_
          refine Z_iadd dX11_valley_76 ?_
          rw [nI_1]
          refine Z_putI dX11_valley_77 cl_5 fl_X11_65_5 (Or.inl fn_5_7) rfl (cw_i5 hw) rfl rfl ?_
          refine Z_aload_n dX11_valley_80 rfl rfl ?_
          refine Z_getR dX11_valley_81 cl_11 fl_X11_21_11 rfl (cw_i0 hw) (cw_p0_0 hw) ?_
          refine Z_getIv dX11_valley_84 cl_5 fl_X11_65_5 rfl (cw_i5 hw) (show _ = nI (A.1.1 1 + 1) by rw [hI_sI, if_pos ⟨rfl, rfl⟩]) ?_
          refine Z_iconst (v := 1) dX11_valley_87 (by decide) ?_
          refine Z_isub dX11_valley_88 ?_
          rw [nI_pred]
          refine Z_iret dX11_valley_89 rfl rfl ⟨by decide, by decide⟩ ?_
          refine hok (u1 Γ (hN δ) (cans (pText (fun i => A.1.1 (12 + i)) (A.1.1 3)).2.2, vPay (pText (fun i => A.1.1 (12 + i)) (A.1.1 3)).2.2, vCov (pText (fun i => A.1.1 (12 + i)) (A.1.1 3)).2.2)) _ h5 ht.1 ht.2 ((((hfr.cc.pIn (Or.inl (by unfold cId; omega))).tr hf.c).pPn (Or.inl (by unfold cId; omega))).pIn (Or.inl (by unfold cId; omega))) (fun hb => ?_)
          exact CRel.tell2 (S0 := (u1 A.1.1 3 0, A.1.2)) ((hs.gam (fun k hk => u1_n (by have : k < hN δ := hk; omega))).ext hf) rfl h5 (by rw [show hN (sI δ 5 5 0) = hN δ from rfl, u1_s]; exact hv) (u1_s _ _ _) hb
        · skip
          exact absurd (by decide) h45
      · skip
        exact absurd (nI_lt (b := 5) h5 (by omega)) h8
    · have hle := pT_le (τ := fun i => A.1.1 (12 + i)) (N := A.1.1 3)
      refine Z_aload_n dX11_valley_0 rfl rfl ?_
      refine Z_getR dX11_valley_1 cl_11 fl_X11_21_11 rfl (cw_i0 hw) (cw_p0_0 hw) ?_
      refine Z_getIv dX11_valley_4 cl_5 fl_X11_65_5 rfl (cw_i5 hw) v7 ?_
      refine Z_iconst (v := 5) dX11_valley_7 (by decide) ?_
      refine Z_icmp_lt (tgt := 14) dX11_valley_8 (by decide) (fun h8 => ?_) (fun h8 => ?_)
      · skip
        refine Z_aload_n dX11_valley_14 rfl rfl ?_
        refine Z_getR dX11_valley_15 cl_11 fl_X11_31_11 rfl (cw_i0 hw) (cw_p0_3 hw) ?_
        refine Z_aload_n dX11_valley_18 rfl rfl ?_
        refine Z_getR dX11_valley_19 cl_11 fl_X11_21_11 rfl (cw_i0 hw) (cw_p0_0 hw) ?_
        refine Z_getR dX11_valley_22 cl_5 fl_X11_62_5 rfl (cw_i5 hw) (cw_p5_4 hw) ?_
        refine Z_aload_n dX11_valley_25 rfl rfl ?_
        refine Z_getR dX11_valley_26 cl_11 fl_X11_21_11 rfl (cw_i0 hw) (cw_p0_0 hw) ?_
        refine Z_getIv dX11_valley_29 cl_5 fl_X11_58_5 rfl (cw_i5 hw) v5 ?_
        refine Z_V2z (ci := 4) dX11_valley_32 to_X4_fault lk_X11_68 iv_X4_fault ⟨rfl, rfl⟩ (cw_i17 hw) (Nat.le_of_ble_eq_true rfl) ⟨rfl, rfl⟩ ⟨by decide, by decide⟩ ?_
        refine k_fault (τ := fun i => A.1.1 (12 + i)) hr.1 b3 hτ hτ2 (fun δ _ hfr => ?_) (fun δ c2 z1 z2 _ _ _ _ _ => absurd ⟨z1, z2⟩ ht)
        have hr1 := hr.rd hfr
        have hw := hr1.1
        refine Z_istore_n (L' := [_, _]) dX11_valley_35 rfl (by decide) rfl rfl ?_
        refine Z_aload_n dX11_valley_36 rfl rfl ?_
        refine Z_getR dX11_valley_37 cl_11 fl_X11_21_11 rfl (cw_i0 hw) (cw_p0_0 hw) ?_
        refine Z_iconst (v := 0) dX11_valley_40 (by decide) ?_
        refine Z_putI dX11_valley_41 cl_5 fl_X11_58_5 (Or.inl fn_5_5) rfl (cw_i5 hw) rfl rfl ?_
        refine Z_iload_n dX11_valley_44 rfl rfl ?_
        refine Z_if_lt (tgt := 53) dX11_valley_45 (by decide) (fun h45 => ?_) (fun h45 => ?_)
        · skip
          exact absurd h45 (nI_pos (by omega))
        · skip
          refine Z_bipush (v := -10) dX11_valley_48 (by decide) ?_
          refine Z_iload_n dX11_valley_50 rfl rfl ?_
          refine Z_isub dX11_valley_51 ?_
          refine Z_iret dX11_valley_52 rfl rfl ⟨by decide, by decide⟩ ?_
          exact hbad _ h5 ht (hfr.cc.pIn (Or.inl (by unfold cId; omega))) (fun g hb => hr1.junk h5 hb)
      · skip
        exact absurd (nI_lt (b := 5) h5 (by omega)) h8
  · skip
    refine Z_aload_n dX11_valley_0 rfl rfl ?_
    refine Z_getR dX11_valley_1 cl_11 fl_X11_21_11 rfl (cw_i0 hw) (cw_p0_0 hw) ?_
    refine Z_getIv dX11_valley_4 cl_5 fl_X11_65_5 rfl (cw_i5 hw) v7 ?_
    refine Z_iconst (v := 5) dX11_valley_7 (by decide) ?_
    refine Z_icmp_lt (tgt := 14) dX11_valley_8 (by decide) (fun h8 => ?_) (fun h8 => ?_)
    · skip
      exact absurd h8 (nI_nlt (b := 5) (by omega) (by omega))
    · skip
      refine Z_bipush (v := -4) dX11_valley_11 (by decide) ?_
      refine Z_iret dX11_valley_13 rfl rfl ⟨by decide, by decide⟩ ?_
      exact hfull (by omega)
end CV2
