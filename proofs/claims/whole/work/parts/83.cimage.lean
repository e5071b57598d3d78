section CS1
variable {G : ZG} {d : Nat} {α β γ : AH} {post : Option Value → AH → Prop} {Γ : Nat → VC} {A : ZA}
theorem cpy_at {f g : Nat → Int32} {n j : Nat} (h : j < n) : va_cpy f g 0 0 n j = f j := by
  unfold va_cpy
  rw [if_pos ⟨Nat.zero_le _, by omega⟩, show 0 + (j - 0) = j by omega]
/-- one season is written -/
def frS (a : Nat) (α β : AH) : Prop := hN β = hN α ∧ hS β = hS α ∧ (∀ k, ¬ (a ≤ k ∧ k ≤ a + 5) → hI β k = hI α k ∧ hJ β k = hJ α k ∧ hP β k = hP α k) ∧ ∀ k j, (k = a → j ≠ 6) → k ≠ a + 4 → hP β k j = hP α k j
theorem frS.rf {a : Nat} : frS a α α := ⟨rfl, rfl, fun _ _ => ⟨rfl, rfl, rfl⟩, fun _ _ _ _ => rfl⟩
theorem frS.pR {a k : Nat} {f : Nat → Int32} (h : frS a α β) (hk : a ≤ k ∧ k ≤ a + 5) : frS a α (sIr β k f) := ⟨h.1, h.2.1, fun i hi => ⟨(u1_n (fun e => hi (by rw [e]; exact hk))).trans (h.2.2.1 i hi).1, (h.2.2.1 i hi).2⟩, h.2.2.2⟩
theorem frS.pI {a k j : Nat} {x : Int32} (h : frS a α β) (hk : a ≤ k ∧ k ≤ a + 5) : frS a α (sI β k j x) := ⟨h.1, h.2.1, fun i hi => ⟨(sI_ne (fun e => hi (by rw [e]; exact hk))).trans (h.2.2.1 i hi).1, (h.2.2.1 i hi).2⟩, h.2.2.2⟩
theorem frS.pP {a k j : Nat} {x : Option Nat} (h : frS a α β) (hk : (k = a ∧ j = 6) ∨ k = a + 4) : frS a α (sP β k j x) := ⟨h.1, h.2.1, fun i hi => ⟨(h.2.2.1 i hi).1, (h.2.2.1 i hi).2.1, (u2_row (fun e => hi (by omega))).trans (h.2.2.1 i hi).2.2⟩, fun i m h6 h9 => by
  rw [hP_sP, if_neg (fun z => by rcases hk with hk | hk; exact h6 (z.1.trans hk.1) (z.2.trans hk.2); exact h9 (z.1.trans hk))]
  exact h.2.2.2 i m h6 h9⟩
theorem frS.c {a : Nat} (h : frS a α β) (ha : 4 ≤ a ∧ a < 29) : frC α β := ⟨Nat.le_of_eq h.1.symm, fun k _ hz => by
  obtain ⟨h1, h2, h3⟩ := h.2.2.1 k (fun q => by unfold mId fz at hz; omega)
  exact ⟨by rw [h.2.1], h1, h2, h3⟩⟩
theorem sea_fin {a b v : Nat} {S : ZS} (ha : 4 ≤ a ∧ a < 29) (hab : b + 5 < a ∨ a + 5 < b) (hf : frS a α β) (hs : cSea α Γ b S) (hr : cRows β a S.1) (hk : ∀ j, j < 8 → hP β (a + 4) j = hP α (b + 4) j) (hv : hP α b 6 = some v) (h8 : S.1 0 ≤ 8) : frS a α (sI (sI (sI (sP (sI (sI (sI β a 2 (nI (S.1 5))) a 3 (nI (zss S.1))) a 5 (nI (S.1 3))) a 6 (some v)) a 7 (nI (S.1 1))) a 9 (nI (S.1 0))) a 11 (nI (S.1 2))) ∧ cSea (sI (sI (sI (sP (sI (sI (sI β a 2 (nI (S.1 5))) a 3 (nI (zss S.1))) a 5 (nI (S.1 3))) a 6 (some v)) a 7 (nI (S.1 1))) a 9 (nI (S.1 0))) a 11 (nI (S.1 2))) Γ a S := by
  have hq : ∀ X : AH, hI (sP X a 6 (some v)) = hI X := fun _ => rfl
  have hp : ∀ (X : AH) (j : Nat) (x : Int32), hP (sI X a j x) = hP X := fun _ _ _ => rfl
  have hfn : frS a α (sI (sI (sI (sP (sI (sI (sI β a 2 (nI (S.1 5))) a 3 (nI (zss S.1))) a 5 (nI (S.1 3))) a 6 (some v)) a 7 (nI (S.1 1))) a 9 (nI (S.1 0))) a 11 (nI (S.1 2))) := frS.pI (frS.pI (frS.pI (frS.pP (frS.pI (frS.pI (frS.pI hf (by omega)) (by omega)) (by omega)) (Or.inl ⟨rfl, rfl⟩)) (by omega)) (by omega)) (by omega)
  refine ⟨hfn, ?_⟩
  have hz := (hfn.c ha).z
  have eI : ∀ k j, hI (sI (sI (sI (sP (sI (sI (sI β a 2 (nI (S.1 5))) a 3 (nI (zss S.1))) a 5 (nI (S.1 3))) a 6 (some v)) a 7 (nI (S.1 1))) a 9 (nI (S.1 0))) a 11 (nI (S.1 2))) k j = if k = a ∧ j = 11 then nI (S.1 2) else if k = a ∧ j = 9 then nI (S.1 0) else if k = a ∧ j = 7 then nI (S.1 1) else if k = a ∧ j = 5 then nI (S.1 3) else if k = a ∧ j = 3 then nI (zss S.1) else if k = a ∧ j = 2 then nI (S.1 5) else hI β k j := fun k j => by
    rw [hI_sI, hI_sI, hI_sI, hq, hI_sI, hI_sI, hI_sI]
  have eP : ∀ k j, hP (sI (sI (sI (sP (sI (sI (sI β a 2 (nI (S.1 5))) a 3 (nI (zss S.1))) a 5 (nI (S.1 3))) a 6 (some v)) a 7 (nI (S.1 1))) a 9 (nI (S.1 0))) a 11 (nI (S.1 2))) k j = if k = a ∧ j = 6 then some v else hP β k j := fun k j => by
    rw [hp, hp, hp, hP_sP, hp, hp, hp]
  generalize (sI (sI (sI (sP (sI (sI (sI β a 2 (nI (S.1 5))) a 3 (nI (zss S.1))) a 5 (nI (S.1 3))) a 6 (some v)) a 7 (nI (S.1 1))) a 9 (nI (S.1 0))) a 11 (nI (S.1 2))) = δ at *
  have eo : ∀ k j, k ≠ a → hI δ k j = hI β k j := fun k j hk => by
    rw [eI, if_neg (fun z => hk z.1), if_neg (fun z => hk z.1), if_neg (fun z => hk z.1), if_neg (fun z => hk z.1), if_neg (fun z => hk z.1), if_neg (fun z => hk z.1)]
  obtain ⟨-, -, ⟨vv, q1, q2, q3⟩, q4, q5⟩ := hs
  rw [hv] at q1; cases q1
  refine ⟨⟨fun j hj => ?_, fun j hj => ?_, fun j hj => ?_, fun j hj => ?_⟩, ⟨?_, ?_, ?_, ?_, ?_, ?_⟩, ⟨v, ?_, q2.fr hz, q3⟩, fun w hw c hc => ?_, fun w hw => ?_⟩
  · rw [eo _ _ (by omega)]; exact hr.1 j hj
  · rw [eo _ _ (by omega)]; exact hr.2.1 j hj
  · rw [eo _ _ (by omega)]; exact hr.2.2.1 j hj
  · rw [eo _ _ (by omega)]; exact hr.2.2.2 j hj
  · rw [eI, if_neg (by omega), if_neg (by omega), if_neg (by omega), if_neg (by omega), if_neg (by omega), if_pos ⟨rfl, rfl⟩]
  · rw [eI, if_neg (by omega), if_neg (by omega), if_neg (by omega), if_neg (by omega), if_pos ⟨rfl, rfl⟩]
  · rw [eI, if_neg (by omega), if_neg (by omega), if_neg (by omega), if_pos ⟨rfl, rfl⟩]
  · rw [eI, if_neg (by omega), if_neg (by omega), if_pos ⟨rfl, rfl⟩]
  · rw [eI, if_neg (by omega), if_pos ⟨rfl, rfl⟩]
  · rw [eI, if_pos ⟨rfl, rfl⟩]
  · rw [eP, if_pos ⟨rfl, rfl⟩]
  · rw [eP, if_neg (by omega), hk w hw] at hc
    obtain ⟨a1, a2, a3, a4, a5⟩ := q4 w hw c hc
    exact ⟨a1, a2, a3, a4, a5.fr hz⟩
  · obtain ⟨c, p1, p2⟩ := q5 w hw
    exact ⟨c, by rw [eP, if_neg (by omega), hk w (by omega)]; exact p1, p2.fr hz⟩
theorem frS.cw11 (h : frS 11 α β) (hw : CW α) : CW β := by
  refine ⟨fun q hq => ⟨by rw [h.1]; exact (hw.1 q hq).1, by rw [h.2.1]; exact (hw.1 q hq).2⟩, fun q hq => ?_⟩
  have : ∀ q ∈ zCp, (q.1 = 11 → q.2.1 ≠ 6) ∧ q.1 ≠ 11 + 4 := by decide
  rw [h.2.2.2 q.1 q.2.1 (this q hq).1 (this q hq).2]
  exact hw.2 q hq
theorem k_copy11 {S : ZS} (hw : CW α) (hs : cSea α Γ 5 S) (h8 : S.1 0 ≤ 8) (h : ∀ β, frS 11 α β → cSea β Γ 11 S → post none β) : ZK G (d + 2) mX5_copy [.ref (G.1 + 11), .ref (G.1 + 5)] α post := by
  obtain ⟨v, hv, hvv⟩ := hs.2.2.1
  have lp : ∀ (j k : Nat), k + j = 8 → ∀ β, frS 11 α β → cRows β 11 S.1 → (∀ i, i < k → hP β (11 + 4) i = hP α (5 + 4) i) → Z G mX5_copy (d + 2) 60 [some (.ref (G.1 + 11)), some (.ref (G.1 + 5)), some (.int (nI k))] [] β (0, 0) post := by
    intro j
    induction j with
    | zero =>
      intro k hk β hf hr hp
      have hk : k = 8 := by omega
      subst hk
      have hw := hf.cw11 hw
      have hn : cNums β 5 S.1 := by
        unfold cNums; rw [(hf.2.2.1 5 (by omega)).1]; exact hs.2.1
      have hp6 : hP β 5 6 = some v := by rw [(hf.2.2.1 5 (by omega)).2.2]; exact hv
      have hfin := sea_fin (a := 11) (b := 5) (by omega) (by omega) hf hs hr hp hv h8
      refine Z_iload_n dX5_copy_60 rfl rfl ?_
      refine Z_bipush (v := 8) dX5_copy_61 (by decide) ?_
      refine Z_icmp_ge (tgt := 84) dX5_copy_63 (by decide) (fun h63 => ?_) (fun h63 => ?_)
      · skip
        refine Z_aload_n dX5_copy_84 rfl rfl ?_
        refine Z_aload_n dX5_copy_85 rfl rfl ?_
        refine Z_getIv dX5_copy_86 cl_5 fl_X5_40_5 rfl (cw_i5 hw) (show _ = nI (S.1 5) from hn.1) ?_
        refine Z_putI dX5_copy_89 cl_5 fl_X5_40_5 (Or.inl fn_5_2) rfl (cw_i11 hw) rfl rfl ?_
        refine Z_aload_n dX5_copy_92 rfl rfl ?_
        refine Z_aload_n dX5_copy_93 rfl rfl ?_
        refine Z_getIv dX5_copy_94 cl_5 fl_X5_44_5 rfl (cw_i5 hw) (show _ = nI (zss S.1) from hn.2.1) ?_
        refine Z_putI dX5_copy_97 cl_5 fl_X5_44_5 (Or.inl fn_5_3) rfl (cw_i11 hw) rfl rfl ?_
        refine Z_aload_n dX5_copy_100 rfl rfl ?_
        refine Z_aload_n dX5_copy_101 rfl rfl ?_
        refine Z_getIv dX5_copy_102 cl_5 fl_X5_47_5 rfl (cw_i5 hw) (show _ = nI (S.1 3) from hn.2.2.1) ?_
        refine Z_putI dX5_copy_105 cl_5 fl_X5_47_5 (Or.inl fn_5_5) rfl (cw_i11 hw) rfl rfl ?_
        refine Z_aload_n dX5_copy_108 rfl rfl ?_
        refine Z_aload_n dX5_copy_109 rfl rfl ?_
        refine Z_getP dX5_copy_110 cl_5 fl_X5_30_5 rfl (cw_i5 hw) hp6 ?_
        refine Z_putP dX5_copy_113 cl_5 fl_X5_30_5 (Or.inl fn_5_6) rfl (cw_i11 hw) rfl rfl ?_
        have hw : CW (sP β 11 6 (some v)) := frS.cw11 (frS.rf.pP (Or.inl ⟨rfl, rfl⟩)) hw
        refine Z_aload_n dX5_copy_116 rfl rfl ?_
        refine Z_aload_n dX5_copy_117 rfl rfl ?_
        refine Z_getIv dX5_copy_118 cl_5 fl_X5_50_5 rfl (cw_i5 hw) (show _ = nI (S.1 1) from hn.2.2.2.1) ?_
        refine Z_putI dX5_copy_121 cl_5 fl_X5_50_5 (Or.inl fn_5_7) rfl (cw_i11 hw) rfl rfl ?_
        refine Z_aload_n dX5_copy_124 rfl rfl ?_
        refine Z_aload_n dX5_copy_125 rfl rfl ?_
        refine Z_getIv dX5_copy_126 cl_5 fl_X5_53_5 rfl (cw_i5 hw) (show _ = nI (S.1 0) from hn.2.2.2.2.1) ?_
        refine Z_putI dX5_copy_129 cl_5 fl_X5_53_5 (Or.inl fn_5_9) rfl (cw_i11 hw) rfl rfl ?_
        refine Z_aload_n dX5_copy_132 rfl rfl ?_
        refine Z_aload_n dX5_copy_133 rfl rfl ?_
        refine Z_getIv dX5_copy_134 cl_5 fl_X5_56_5 rfl (cw_i5 hw) (show _ = nI (S.1 2) from hn.2.2.2.2.2) ?_
        refine Z_putI dX5_copy_137 cl_5 fl_X5_56_5 (Or.inl fn_5_11) rfl (cw_i11 hw) rfl rfl ?_
        refine Z_vret dX5_copy_140 rfl ⟨by decide, by decide⟩ ?_
        exact h _ hfin.1 hfin.2
      · skip
        exact absurd (by decide) h63
    | succ j ih =>
      intro k hk β hf hr hp
      have hw := hf.cw11 hw
      have hk8 : k < 8 := by omega
      have st : ∀ x, hP α (5 + 4) k = x → frS 11 α (sP β (11 + 4) k x) ∧ (∀ i, i < k + 1 → hP (sP β (11 + 4) k x) (11 + 4) i = hP α (5 + 4) i) := fun x hx => ⟨hf.pP (Or.inr rfl), fun i hi => by
        rw [hP_sP]
        by_cases e : i = k
        · rw [if_pos ⟨rfl, e⟩, e, hx]
        · rw [if_neg (fun z => e z.2)]; exact hp i (by omega)⟩
      have hb : hP β (5 + 4) = hP α (5 + 4) := (hf.2.2.1 (5 + 4) (by omega)).2.2
      cases e : hP α (5 + 4) k with
      | none =>
        have e1 : hP β 9 k = none := (congrFun hb k).trans e
        refine Z_iload_n dX5_copy_60 rfl rfl ?_
        refine Z_bipush (v := 8) dX5_copy_61 (by decide) ?_
        refine Z_icmp_ge (tgt := 84) dX5_copy_63 (by decide) (fun h63 => ?_) (fun h63 => ?_)
        · skip
          exact absurd h63 (nI_ge (a := k) (b := 8) (by omega) (by omega))
        · skip
          refine Z_aload_n dX5_copy_66 rfl rfl ?_
          refine Z_getR dX5_copy_67 cl_5 fl_X5_23_5 rfl (cw_i11 hw) (cw_p11_8 hw) ?_
          refine Z_iload_n dX5_copy_70 rfl rfl ?_
          refine Z_aload_n dX5_copy_71 rfl rfl ?_
          refine Z_getR dX5_copy_72 cl_5 fl_X5_23_5 rfl (cw_i5 hw) (cw_p5_8 hw) ?_
          refine Z_iload_n dX5_copy_75 rfl rfl ?_
          refine Z_aald dX5_copy_76 (cw_i9 hw) (zix_nI (m := k) hk8 (by decide)) e1 ?_
          refine Z_aastN dX5_copy_77 (cw_i15 hw) (zix_nI (m := k) hk8 (by decide)) ?_
          refine Z_iinc (L' := [_, _, _]) dX5_copy_78 rfl (by rfl : _ + Int32.ofInt 1 = _ + 1) (by decide) rfl rfl ?_
          refine Z_goto (tgt := 60) dX5_copy_81 (by decide) ?_
          rw [nI_1]
          exact ih (k + 1) (by omega) _ (st _ e).1 hr (st _ e).2
      | some c =>
        have e1 : hP β 9 k = some c := (congrFun hb k).trans e
        obtain ⟨kd, num, x, row, ho⟩ := hs.2.2.2.1 k hk8 c e
        have ho := ho.fr (hf.c (by omega)).z
        refine Z_iload_n dX5_copy_60 rfl rfl ?_
        refine Z_bipush (v := 8) dX5_copy_61 (by decide) ?_
        refine Z_icmp_ge (tgt := 84) dX5_copy_63 (by decide) (fun h63 => ?_) (fun h63 => ?_)
        · skip
          exact absurd h63 (nI_ge (a := k) (b := 8) (by omega) (by omega))
        · skip
          refine Z_aload_n dX5_copy_66 rfl rfl ?_
          refine Z_getR dX5_copy_67 cl_5 fl_X5_23_5 rfl (cw_i11 hw) (cw_p11_8 hw) ?_
          refine Z_iload_n dX5_copy_70 rfl rfl ?_
          refine Z_aload_n dX5_copy_71 rfl rfl ?_
          refine Z_getR dX5_copy_72 cl_5 fl_X5_23_5 rfl (cw_i5 hw) (cw_p5_8 hw) ?_
          refine Z_iload_n dX5_copy_75 rfl rfl ?_
          refine Z_aald dX5_copy_76 (cw_i9 hw) (zix_nI (m := k) hk8 (by decide)) e1 ?_
          refine Z_aastW dX5_copy_77 (cw_i15 hw) (zix_nI (m := k) hk8 (by decide)) ho ?_
          refine Z_iinc (L' := [_, _, _]) dX5_copy_78 rfl (by rfl : _ + Int32.ofInt 1 = _ + 1) (by decide) rfl rfl ?_
          refine Z_goto (tgt := 60) dX5_copy_81 (by decide) ?_
          rw [nI_1]
          exact ih (k + 1) (by omega) _ (st _ e).1 hr (st _ e).2
  have hr : ∀ f1 f2 f3 f4, f1 = va_cpy (hI α 6) (hI α 12) 0 0 3 → f2 = va_cpy (hI α 7) (hI α 13) 0 0 3 → f3 = va_cpy (hI α 8) (hI α 14) 0 0 100 → f4 = va_cpy (hI α 10) (hI α 16) 0 0 12 → cRows (sIr (sIr (sIr (sIr α 12 f1) 13 f2) 14 f3) 16 f4) 11 S.1 := by
    intro f1 f2 f3 f4 h1 h2 h3 h4
    refine ⟨fun j hj => ?_, fun j hj => ?_, fun j hj => ?_, fun j hj => ?_⟩
    · show f1 j = _; rw [h1, cpy_at hj]; exact hs.1.1 j hj
    · show f2 j = _; rw [h2, cpy_at hj]; exact hs.1.2.1 j hj
    · show f3 j = _; rw [h3, cpy_at hj]; exact hs.1.2.2.1 j hj
    · show f4 j = _; rw [h4, cpy_at hj]; exact hs.1.2.2.2 j hj
  refine ZK.of (n := 1) (by decide) (Nat.le_of_ble_eq_true rfl) rfl ?_
  refine Z_aload_n dX5_copy_0 rfl rfl ?_
  refine Z_getR dX5_copy_1 cl_5 fl_X5_9_5 rfl (cw_i5 hw) (cw_p5_0 hw) ?_
  refine Z_iconst (v := 0) dX5_copy_4 (by decide) ?_
  refine Z_aload_n dX5_copy_5 rfl rfl ?_
  refine Z_getR dX5_copy_6 cl_5 fl_X5_9_5 rfl (cw_i11 hw) (cw_p11_0 hw) ?_
  refine Z_iconst (v := 0) dX5_copy_9 (by decide) ?_
  refine Z_iconst (v := 3) dX5_copy_10 (by decide) ?_
  refine Z_copy (m := 3) dX5_copy_11 wd_942 (cw_i6 hw) (cw_i12 hw) rfl (by decide) (by decide) (by decide) (Nat.le_of_ble_eq_true rfl) ?_
  refine Z_aload_n dX5_copy_14 rfl rfl ?_
  refine Z_getR dX5_copy_15 cl_5 fl_X5_15_5 rfl (cw_i5 hw) (cw_p5_1 hw) ?_
  refine Z_iconst (v := 0) dX5_copy_18 (by decide) ?_
  refine Z_aload_n dX5_copy_19 rfl rfl ?_
  refine Z_getR dX5_copy_20 cl_5 fl_X5_15_5 rfl (cw_i11 hw) (cw_p11_1 hw) ?_
  refine Z_iconst (v := 0) dX5_copy_23 (by decide) ?_
  refine Z_iconst (v := 3) dX5_copy_24 (by decide) ?_
  refine Z_copy (m := 3) dX5_copy_25 wd_942 (cw_i7 hw) (cw_i13 hw) rfl (by decide) (by decide) (by decide) (Nat.le_of_ble_eq_true rfl) ?_
  refine Z_aload_n dX5_copy_28 rfl rfl ?_
  refine Z_getR dX5_copy_29 cl_5 fl_X5_18_5 rfl (cw_i5 hw) (cw_p5_4 hw) ?_
  refine Z_iconst (v := 0) dX5_copy_32 (by decide) ?_
  refine Z_aload_n dX5_copy_33 rfl rfl ?_
  refine Z_getR dX5_copy_34 cl_5 fl_X5_18_5 rfl (cw_i11 hw) (cw_p11_4 hw) ?_
  refine Z_iconst (v := 0) dX5_copy_37 (by decide) ?_
  refine Z_bipush (v := 100) dX5_copy_38 (by decide) ?_
  refine Z_copy (m := 100) dX5_copy_40 wd_942 (cw_i8 hw) (cw_i14 hw) rfl (by decide) (by decide) (by decide) (Nat.le_of_ble_eq_true rfl) ?_
  refine Z_aload_n dX5_copy_43 rfl rfl ?_
  refine Z_getR dX5_copy_44 cl_5 fl_X5_27_5 rfl (cw_i5 hw) (cw_p5_10 hw) ?_
  refine Z_iconst (v := 0) dX5_copy_47 (by decide) ?_
  refine Z_aload_n dX5_copy_48 rfl rfl ?_
  refine Z_getR dX5_copy_49 cl_5 fl_X5_27_5 rfl (cw_i11 hw) (cw_p11_10 hw) ?_
  refine Z_iconst (v := 0) dX5_copy_52 (by decide) ?_
  refine Z_bipush (v := 12) dX5_copy_53 (by decide) ?_
  refine Z_copy (m := 12) dX5_copy_55 wd_942 (cw_i10 hw) (cw_i16 hw) rfl (by decide) (by decide) (by decide) (Nat.le_of_ble_eq_true rfl) ?_
  refine Z_iconst (v := 0) dX5_copy_58 (by decide) ?_
  refine Z_istore_n (L' := [_, _, _]) dX5_copy_59 rfl (by decide) rfl rfl ?_
  exact lp 8 0 rfl _ ((((frS.rf.pR (by omega)).pR (by omega)).pR (by omega)).pR (by omega)) (hr _ _ _ _ rfl rfl rfl rfl) (fun i hi => absurd hi (by omega))
theorem frS.cw5 (h : frS 5 α β) (hw : CW α) : CW β := by
  refine ⟨fun q hq => ⟨by rw [h.1]; exact (hw.1 q hq).1, by rw [h.2.1]; exact (hw.1 q hq).2⟩, fun q hq => ?_⟩
  have : ∀ q ∈ zCp, (q.1 = 5 → q.2.1 ≠ 6) ∧ q.1 ≠ 5 + 4 := by decide
  rw [h.2.2.2 q.1 q.2.1 (this q hq).1 (this q hq).2]
  exact hw.2 q hq
theorem k_copy5 {S : ZS} (hw : CW α) (hs : cSea α Γ 11 S) (h8 : S.1 0 ≤ 8) (h : ∀ β, frS 5 α β → cSea β Γ 5 S → post none β) : ZK G (d + 2) mX5_copy [.ref (G.1 + 5), .ref (G.1 + 11)] α post := by
  obtain ⟨v, hv, hvv⟩ := hs.2.2.1
  have lp : ∀ (j k : Nat), k + j = 8 → ∀ β, frS 5 α β → cRows β 5 S.1 → (∀ i, i < k → hP β (5 + 4) i = hP α (11 + 4) i) → Z G mX5_copy (d + 2) 60 [some (.ref (G.1 + 5)), some (.ref (G.1 + 11)), some (.int (nI k))] [] β (0, 0) post := by
    intro j
    induction j with
    | zero =>
      intro k hk β hf hr hp
      have hk : k = 8 := by omega
      subst hk
      have hw := hf.cw5 hw
      have hn : cNums β 11 S.1 := by
        unfold cNums; rw [(hf.2.2.1 11 (by omega)).1]; exact hs.2.1
      have hp6 : hP β 11 6 = some v := by rw [(hf.2.2.1 11 (by omega)).2.2]; exact hv
      have hfin := sea_fin (a := 5) (b := 11) (by omega) (by omega) hf hs hr hp hv h8
      refine Z_iload_n dX5_copy_60 rfl rfl ?_
      refine Z_bipush (v := 8) dX5_copy_61 (by decide) ?_
      refine Z_icmp_ge (tgt := 84) dX5_copy_63 (by decide) (fun h63 => ?_) (fun h63 => ?_)
      · skip
        refine Z_aload_n dX5_copy_84 rfl rfl ?_
        refine Z_aload_n dX5_copy_85 rfl rfl ?_
        refine Z_getIv dX5_copy_86 cl_5 fl_X5_40_5 rfl (cw_i11 hw) (show _ = nI (S.1 5) from hn.1) ?_
        refine Z_putI dX5_copy_89 cl_5 fl_X5_40_5 (Or.inl fn_5_2) rfl (cw_i5 hw) rfl rfl ?_
        refine Z_aload_n dX5_copy_92 rfl rfl ?_
        refine Z_aload_n dX5_copy_93 rfl rfl ?_
        refine Z_getIv dX5_copy_94 cl_5 fl_X5_44_5 rfl (cw_i11 hw) (show _ = nI (zss S.1) from hn.2.1) ?_
        refine Z_putI dX5_copy_97 cl_5 fl_X5_44_5 (Or.inl fn_5_3) rfl (cw_i5 hw) rfl rfl ?_
        refine Z_aload_n dX5_copy_100 rfl rfl ?_
        refine Z_aload_n dX5_copy_101 rfl rfl ?_
        refine Z_getIv dX5_copy_102 cl_5 fl_X5_47_5 rfl (cw_i11 hw) (show _ = nI (S.1 3) from hn.2.2.1) ?_
        refine Z_putI dX5_copy_105 cl_5 fl_X5_47_5 (Or.inl fn_5_5) rfl (cw_i5 hw) rfl rfl ?_
        refine Z_aload_n dX5_copy_108 rfl rfl ?_
        refine Z_aload_n dX5_copy_109 rfl rfl ?_
        refine Z_getP dX5_copy_110 cl_5 fl_X5_30_5 rfl (cw_i11 hw) hp6 ?_
        refine Z_putP dX5_copy_113 cl_5 fl_X5_30_5 (Or.inl fn_5_6) rfl (cw_i5 hw) rfl rfl ?_
        have hw : CW (sP β 5 6 (some v)) := frS.cw5 (frS.rf.pP (Or.inl ⟨rfl, rfl⟩)) hw
        refine Z_aload_n dX5_copy_116 rfl rfl ?_
        refine Z_aload_n dX5_copy_117 rfl rfl ?_
        refine Z_getIv dX5_copy_118 cl_5 fl_X5_50_5 rfl (cw_i11 hw) (show _ = nI (S.1 1) from hn.2.2.2.1) ?_
        refine Z_putI dX5_copy_121 cl_5 fl_X5_50_5 (Or.inl fn_5_7) rfl (cw_i5 hw) rfl rfl ?_
        refine Z_aload_n dX5_copy_124 rfl rfl ?_
        refine Z_aload_n dX5_copy_125 rfl rfl ?_
        refine Z_getIv dX5_copy_126 cl_5 fl_X5_53_5 rfl (cw_i11 hw) (show _ = nI (S.1 0) from hn.2.2.2.2.1) ?_
        refine Z_putI dX5_copy_129 cl_5 fl_X5_53_5 (Or.inl fn_5_9) rfl (cw_i5 hw) rfl rfl ?_
        refine Z_aload_n dX5_copy_132 rfl rfl ?_
        refine Z_aload_n dX5_copy_133 rfl rfl ?_
        refine Z_getIv dX5_copy_134 cl_5 fl_X5_56_5 rfl (cw_i11 hw) (show _ = nI (S.1 2) from hn.2.2.2.2.2) ?_
        refine Z_putI dX5_copy_137 cl_5 fl_X5_56_5 (Or.inl fn_5_11) rfl (cw_i5 hw) rfl rfl ?_
        refine Z_vret dX5_copy_140 rfl ⟨by decide, by decide⟩ ?_
        exact h _ hfin.1 hfin.2
      · skip
        exact absurd (by decide) h63
    | succ j ih =>
      intro k hk β hf hr hp
      have hw := hf.cw5 hw
      have hk8 : k < 8 := by omega
      have st : ∀ x, hP α (11 + 4) k = x → frS 5 α (sP β (5 + 4) k x) ∧ (∀ i, i < k + 1 → hP (sP β (5 + 4) k x) (5 + 4) i = hP α (11 + 4) i) := fun x hx => ⟨hf.pP (Or.inr rfl), fun i hi => by
        rw [hP_sP]
        by_cases e : i = k
        · rw [if_pos ⟨rfl, e⟩, e, hx]
        · rw [if_neg (fun z => e z.2)]; exact hp i (by omega)⟩
      have hb : hP β (11 + 4) = hP α (11 + 4) := (hf.2.2.1 (11 + 4) (by omega)).2.2
      cases e : hP α (11 + 4) k with
      | none =>
        have e1 : hP β 15 k = none := (congrFun hb k).trans e
        refine Z_iload_n dX5_copy_60 rfl rfl ?_
        refine Z_bipush (v := 8) dX5_copy_61 (by decide) ?_
        refine Z_icmp_ge (tgt := 84) dX5_copy_63 (by decide) (fun h63 => ?_) (fun h63 => ?_)
        · skip
          exact absurd h63 (nI_ge (a := k) (b := 8) (by omega) (by omega))
        · skip
          refine Z_aload_n dX5_copy_66 rfl rfl ?_
          refine Z_getR dX5_copy_67 cl_5 fl_X5_23_5 rfl (cw_i5 hw) (cw_p5_8 hw) ?_
          refine Z_iload_n dX5_copy_70 rfl rfl ?_
          refine Z_aload_n dX5_copy_71 rfl rfl ?_
          refine Z_getR dX5_copy_72 cl_5 fl_X5_23_5 rfl (cw_i11 hw) (cw_p11_8 hw) ?_
          refine Z_iload_n dX5_copy_75 rfl rfl ?_
          refine Z_aald dX5_copy_76 (cw_i15 hw) (zix_nI (m := k) hk8 (by decide)) e1 ?_
          refine Z_aastN dX5_copy_77 (cw_i9 hw) (zix_nI (m := k) hk8 (by decide)) ?_
          refine Z_iinc (L' := [_, _, _]) dX5_copy_78 rfl (by rfl : _ + Int32.ofInt 1 = _ + 1) (by decide) rfl rfl ?_
          refine Z_goto (tgt := 60) dX5_copy_81 (by decide) ?_
          rw [nI_1]
          exact ih (k + 1) (by omega) _ (st _ e).1 hr (st _ e).2
      | some c =>
        have e1 : hP β 15 k = some c := (congrFun hb k).trans e
        obtain ⟨kd, num, x, row, ho⟩ := hs.2.2.2.1 k hk8 c e
        have ho := ho.fr (hf.c (by omega)).z
        refine Z_iload_n dX5_copy_60 rfl rfl ?_
        refine Z_bipush (v := 8) dX5_copy_61 (by decide) ?_
        refine Z_icmp_ge (tgt := 84) dX5_copy_63 (by decide) (fun h63 => ?_) (fun h63 => ?_)
        · skip
          exact absurd h63 (nI_ge (a := k) (b := 8) (by omega) (by omega))
        · skip
          refine Z_aload_n dX5_copy_66 rfl rfl ?_
          refine Z_getR dX5_copy_67 cl_5 fl_X5_23_5 rfl (cw_i5 hw) (cw_p5_8 hw) ?_
          refine Z_iload_n dX5_copy_70 rfl rfl ?_
          refine Z_aload_n dX5_copy_71 rfl rfl ?_
          refine Z_getR dX5_copy_72 cl_5 fl_X5_23_5 rfl (cw_i11 hw) (cw_p11_8 hw) ?_
          refine Z_iload_n dX5_copy_75 rfl rfl ?_
          refine Z_aald dX5_copy_76 (cw_i15 hw) (zix_nI (m := k) hk8 (by decide)) e1 ?_
          refine Z_aastW dX5_copy_77 (cw_i9 hw) (zix_nI (m := k) hk8 (by decide)) ho ?_
          refine Z_iinc (L' := [_, _, _]) dX5_copy_78 rfl (by rfl : _ + Int32.ofInt 1 = _ + 1) (by decide) rfl rfl ?_
          refine Z_goto (tgt := 60) dX5_copy_81 (by decide) ?_
          rw [nI_1]
          exact ih (k + 1) (by omega) _ (st _ e).1 hr (st _ e).2
  have hr : ∀ f1 f2 f3 f4, f1 = va_cpy (hI α 12) (hI α 6) 0 0 3 → f2 = va_cpy (hI α 13) (hI α 7) 0 0 3 → f3 = va_cpy (hI α 14) (hI α 8) 0 0 100 → f4 = va_cpy (hI α 16) (hI α 10) 0 0 12 → cRows (sIr (sIr (sIr (sIr α 6 f1) 7 f2) 8 f3) 10 f4) 5 S.1 := by
    intro f1 f2 f3 f4 h1 h2 h3 h4
    refine ⟨fun j hj => ?_, fun j hj => ?_, fun j hj => ?_, fun j hj => ?_⟩
    · show f1 j = _; rw [h1, cpy_at hj]; exact hs.1.1 j hj
    · show f2 j = _; rw [h2, cpy_at hj]; exact hs.1.2.1 j hj
    · show f3 j = _; rw [h3, cpy_at hj]; exact hs.1.2.2.1 j hj
    · show f4 j = _; rw [h4, cpy_at hj]; exact hs.1.2.2.2 j hj
  refine ZK.of (n := 1) (by decide) (Nat.le_of_ble_eq_true rfl) rfl ?_
  refine Z_aload_n dX5_copy_0 rfl rfl ?_
  refine Z_getR dX5_copy_1 cl_5 fl_X5_9_5 rfl (cw_i11 hw) (cw_p11_0 hw) ?_
  refine Z_iconst (v := 0) dX5_copy_4 (by decide) ?_
  refine Z_aload_n dX5_copy_5 rfl rfl ?_
  refine Z_getR dX5_copy_6 cl_5 fl_X5_9_5 rfl (cw_i5 hw) (cw_p5_0 hw) ?_
  refine Z_iconst (v := 0) dX5_copy_9 (by decide) ?_
  refine Z_iconst (v := 3) dX5_copy_10 (by decide) ?_
  refine Z_copy (m := 3) dX5_copy_11 wd_942 (cw_i12 hw) (cw_i6 hw) rfl (by decide) (by decide) (by decide) (Nat.le_of_ble_eq_true rfl) ?_
  refine Z_aload_n dX5_copy_14 rfl rfl ?_
  refine Z_getR dX5_copy_15 cl_5 fl_X5_15_5 rfl (cw_i11 hw) (cw_p11_1 hw) ?_
  refine Z_iconst (v := 0) dX5_copy_18 (by decide) ?_
  refine Z_aload_n dX5_copy_19 rfl rfl ?_
  refine Z_getR dX5_copy_20 cl_5 fl_X5_15_5 rfl (cw_i5 hw) (cw_p5_1 hw) ?_
  refine Z_iconst (v := 0) dX5_copy_23 (by decide) ?_
  refine Z_iconst (v := 3) dX5_copy_24 (by decide) ?_
  refine Z_copy (m := 3) dX5_copy_25 wd_942 (cw_i13 hw) (cw_i7 hw) rfl (by decide) (by decide) (by decide) (Nat.le_of_ble_eq_true rfl) ?_
  refine Z_aload_n dX5_copy_28 rfl rfl ?_
  refine Z_getR dX5_copy_29 cl_5 fl_X5_18_5 rfl (cw_i11 hw) (cw_p11_4 hw) ?_
  refine Z_iconst (v := 0) dX5_copy_32 (by decide) ?_
  refine Z_aload_n dX5_copy_33 rfl rfl ?_
  refine Z_getR dX5_copy_34 cl_5 fl_X5_18_5 rfl (cw_i5 hw) (cw_p5_4 hw) ?_
  refine Z_iconst (v := 0) dX5_copy_37 (by decide) ?_
  refine Z_bipush (v := 100) dX5_copy_38 (by decide) ?_
  refine Z_copy (m := 100) dX5_copy_40 wd_942 (cw_i14 hw) (cw_i8 hw) rfl (by decide) (by decide) (by decide) (Nat.le_of_ble_eq_true rfl) ?_
  refine Z_aload_n dX5_copy_43 rfl rfl ?_
  refine Z_getR dX5_copy_44 cl_5 fl_X5_27_5 rfl (cw_i11 hw) (cw_p11_10 hw) ?_
  refine Z_iconst (v := 0) dX5_copy_47 (by decide) ?_
  refine Z_aload_n dX5_copy_48 rfl rfl ?_
  refine Z_getR dX5_copy_49 cl_5 fl_X5_27_5 rfl (cw_i5 hw) (cw_p5_10 hw) ?_
  refine Z_iconst (v := 0) dX5_copy_52 (by decide) ?_
  refine Z_bipush (v := 12) dX5_copy_53 (by decide) ?_
  refine Z_copy (m := 12) dX5_copy_55 wd_942 (cw_i16 hw) (cw_i10 hw) rfl (by decide) (by decide) (by decide) (Nat.le_of_ble_eq_true rfl) ?_
  refine Z_iconst (v := 0) dX5_copy_58 (by decide) ?_
  refine Z_istore_n (L' := [_, _, _]) dX5_copy_59 rfl (by decide) rfl rfl ?_
  exact lp 8 0 rfl _ ((((frS.rf.pR (by omega)).pR (by omega)).pR (by omega)).pR (by omega)) (hr _ _ _ _ rfl rfl rfl rfl) (fun i hi => absurd hi (by omega))
theorem CRel.img (hr : CRel Γ A α) (hf : frS 11 α β) (hs : cSea β Γ 11 A.1) : CRel Γ (A.1, some A.1, A.2.2) (sI β 0 2 1) := by
  have cw := hf.cw11 hr.1
  obtain ⟨k1, k2, k3, k4, k5, k6, k7, k8⟩ := hr
  have hz : frZ α (sI β 0 2 1) := ((hf.c (by omega)).pIn (Or.inl (Or.inl rfl))).z
  have hz2 : frZ β (sI β 0 2 1) := (frC.rf.pIn (Or.inl (Or.inl rfl))).z
  have ro : ∀ k, k ≠ 0 → hI (sI β 0 2 1) k = hI β k := fun k hk => sI_ne hk
  have hq : ∀ k, k ≠ 0 → ¬ (11 ≤ k ∧ k ≤ 11 + 5) → hI (sI β 0 2 1) k = hI α k ∧ hP (sI β 0 2 1) k = hP α k := fun k h0 hk => ⟨(ro k h0).trans (hf.2.2.1 k hk).1, (hf.2.2.1 k hk).2.2⟩
  refine ⟨cw, by rw [show hN (sI β 0 2 1) = hN β from rfl, hf.1]; exact k2, k3, k4.fr hz (fun k p q => hq k (by omega) (by omega)), ⟨by rw [hI_sI, if_pos ⟨rfl, rfl⟩], k3, hs.fr hz2 (fun k p q => ⟨ro k (by omega), rfl⟩)⟩, ?_, k7.fr hz (fun k p => (hq k (by omega) (by omega)).1) (hq 23 (by omega) (by omega)).2, k8.fr hz (fun k p => (hq k (by omega) (by omega)).1) (hq 28 (by omega) (by omega)).2⟩
  show cTr _ A.2.2.1
  unfold cTr
  rw [(hq 33 (by omega) (by omega)).1]
  exact k6
theorem k_image (hr : CRel Γ A α) (h : ∀ β, CRel Γ (A.1, some A.1, A.2.2) β → frC α β → post (some (.int (nI (A.1.1 0)))) β) : ZK G (d + 3) mX11_image [.ref (G.1 + 0)] α post := by
  have hw := hr.1
  have b0 : A.1.1 0 ≤ 8 := hr.sb.at (by omega) rfl
  refine ZK.of (n := 1) (by decide) (Nat.le_of_ble_eq_true rfl) rfl ?_
  refine Z_aload_n dX11_image_0 rfl rfl ?_
  refine Z_getR dX11_image_1 cl_11 fl_X11_25_11 rfl (cw_i0 hw) (cw_p0_1 hw) ?_
  refine Z_aload_n dX11_image_4 rfl rfl ?_
  refine Z_getR dX11_image_5 cl_11 fl_X11_21_11 rfl (cw_i0 hw) (cw_p0_0 hw) ?_
  refine Z_V1z (ci := 5) dX11_image_8 to_X5_copy lk_X11_243 iv_X5_copy ⟨rfl, rfl⟩ (cw_i11 hw) (Nat.le_of_ble_eq_true rfl) ⟨rfl, rfl⟩ ⟨by decide, by decide⟩ ?_
  refine k_copy11 hr.1 hr.2.2.2.1 b0 (fun β hf hs => ?_)
  have hw := hf.cw11 hr.1
  have v9 : hI β 5 9 = nI (A.1.1 0) := by rw [(hf.2.2.1 5 (by omega)).1]; exact hr.2.2.2.1.2.1.2.2.2.2.1
  refine Z_aload_n dX11_image_11 rfl rfl ?_
  refine Z_iconst (v := 1) dX11_image_12 (by decide) ?_
  refine Z_putI dX11_image_13 cl_11 fl_X11_247_11 (Or.inl fn_11_2) rfl (cw_i0 hw) rfl rfl ?_
  refine Z_aload_n dX11_image_16 rfl rfl ?_
  refine Z_getR dX11_image_17 cl_11 fl_X11_21_11 rfl (cw_i0 hw) (cw_p0_0 hw) ?_
  refine Z_getIv dX11_image_20 cl_5 fl_X11_103_5 rfl (cw_i5 hw) (show _ = nI (A.1.1 0) from v9) ?_
  refine Z_iret dX11_image_23 rfl rfl ⟨by decide, by decide⟩ ?_
  exact h _ (hr.img hf hs) ((hf.c (by omega)).pIn (Or.inl (Or.inl rfl)))
theorem k_undo (hr : CRel Γ A α) (h : ∀ β, CRel Γ (sp_undo A).2 β → frC α β → post (some (.int (sp_undo A).1)) β) : ZK G (d + 3) mX11_undo [.ref (G.1 + 0)] α post := by
  have hw := hr.1
  have k5 := hr.2.2.2.2.1
  refine ZK.of (n := 1) (by decide) (Nat.le_of_ble_eq_true rfl) rfl ?_
  cases e : A.2.1 with
  | none =>
    have es : sp_undo A = (-3, A) := by unfold sp_undo; rw [e]
    rw [es] at h
    have v2 : hI α 0 2 = 0 := by unfold cImg at k5; rw [e] at k5; exact k5
    refine Z_aload_n dX11_undo_0 rfl rfl ?_
    refine Z_getIv dX11_undo_1 cl_11 fl_X11_247_11 rfl (cw_i0 hw) v2 ?_
    refine Z_if_ne (tgt := 10) dX11_undo_4 (by decide) (fun h4 => ?_) (fun h4 => ?_)
    · skip
      exact absurd rfl h4
    · skip
      refine Z_bipush (v := -3) dX11_undo_7 (by decide) ?_
      refine Z_iret dX11_undo_9 rfl rfl ⟨by decide, by decide⟩ ?_
      exact h α hr frC.rf
  | some q =>
    have es : sp_undo A = (nI (q.1 0), (q, some q, A.2.2)) := by unfold sp_undo; rw [e]
    rw [es] at h
    have k5 : hI α 0 2 = 1 ∧ SB q.1 ∧ cSea α Γ 11 q := by unfold cImg at k5; rw [e] at k5; exact k5
    have b0 : q.1 0 ≤ 8 := k5.2.1.at (by omega) rfl
    have eA : ((q, some q, A.2.2) : ZA) = (q, A.2) := by rw [← e]
    refine Z_aload_n dX11_undo_0 rfl rfl ?_
    refine Z_getIv dX11_undo_1 cl_11 fl_X11_247_11 rfl (cw_i0 hw) k5.1 ?_
    refine Z_if_ne (tgt := 10) dX11_undo_4 (by decide) (fun h4 => ?_) (fun h4 => ?_)
    · skip
      refine Z_aload_n dX11_undo_10 rfl rfl ?_
      refine Z_getR dX11_undo_11 cl_11 fl_X11_21_11 rfl (cw_i0 hw) (cw_p0_0 hw) ?_
      refine Z_aload_n dX11_undo_14 rfl rfl ?_
      refine Z_getR dX11_undo_15 cl_11 fl_X11_25_11 rfl (cw_i0 hw) (cw_p0_1 hw) ?_
      refine Z_V1z (ci := 5) dX11_undo_18 to_X5_copy lk_X11_243 iv_X5_copy ⟨rfl, rfl⟩ (cw_i5 hw) (Nat.le_of_ble_eq_true rfl) ⟨rfl, rfl⟩ ⟨by decide, by decide⟩ ?_
      refine k_copy5 hr.1 k5.2.2 b0 (fun β hf hs => ?_)
      have hw := hf.cw5 hr.1
      refine Z_aload_n dX11_undo_21 rfl rfl ?_
      refine Z_getR dX11_undo_22 cl_11 fl_X11_21_11 rfl (cw_i0 hw) (cw_p0_0 hw) ?_
      refine Z_getIv dX11_undo_25 cl_5 fl_X11_103_5 rfl (cw_i5 hw) hs.2.1.2.2.2.2.1 ?_
      refine Z_iret dX11_undo_28 rfl rfl ⟨by decide, by decide⟩ ?_
      refine h β ?_ (hf.c (by omega))
      rw [show (nI (q.1 0), ((q, some q, A.2.2) : ZA)).2 = (q, A.2) from eA]
      exact hr.nowP (fun _ _ => rfl) ⟨hf.1, hf.2.1, fun k hk => hf.2.2.1 k (by omega), fun k j h1 h2 => hf.2.2.2 k j h1 (by omega)⟩ k5.2.1 hs
    · skip
      exact absurd h4 (by decide)
end CS1
