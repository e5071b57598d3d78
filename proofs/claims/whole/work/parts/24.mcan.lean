section MC1
variable {G : ZG} {M : ZM} {d pc : Nat} {L L' : List (Option Value)} {st : List Value} {α β : AH} {u : Nat × Nat} {post : Option Value → AH → Prop} {A : ZA}
/-- fewer locals are known -/
def zLess : List (Option Value) → List (Option Value) → Prop
  | [], _ => True
  | none :: a, _ :: b => zLess a b
  | some v :: a, some w :: b => v = w ∧ zLess a b
  | _, _ => False
theorem zLess.ok : ∀ {L' L : List (Option Value)}, zLess L' L → ∀ (i : Nat) (v : Value), L'[i]? = some (some v) → L[i]? = some (some v)
  | [], _, _, i, v, e => by simp at e
  | none :: a, x :: b, h, i, v, e => by
    cases i with
    | zero => simp at e
    | succ i => simp at e ⊢; exact zLess.ok (L' := a) (L := b) h i v e
  | some w :: a, some x :: b, h, i, v, e => by
    obtain ⟨rfl, h⟩ := h
    cases i with
    | zero => simpa using e
    | succ i => simp at e ⊢; exact zLess.ok (L' := a) (L := b) h i v e
  | some w :: a, none :: b, h, _, _, _ => h.elim
  | none :: a, [], h, _, _, _ => h.elim
  | some w :: a, [], h, _, _, _ => h.elim
theorem Z_less (h : zLess L' L) (k : Z G M d pc L' st α u post) : Z G M d pc L st α u post := Z.less h.ok k
/-- the reference's state stands while other rows change -/
theorem MRel.fr {F : Nat → Prop} (hr : MRel A α) (hf : frI F α β) (hF : ∀ k ∈ [34, 35, 36, 39, 41, 45, 48, 50, 51], ¬ F k) : MRel A β := by
  obtain ⟨hm, hb, hrow, himg, htr, t, htb, ht⟩ := hr
  have e : ∀ k ∈ [34, 35, 36, 39, 41, 45, 48, 50, 51], hI β k = hI α k := fun k hk => (hf.2.2.2 k (hF k hk)).1
  refine ⟨hf.mw hm, hb, by rw [e 35 (by decide)]; exact hrow, ?_, by rw [e 34 (by decide), e 51 (by decide)]; exact htr, t, htb, ht.1, by rw [e 34 (by decide)]; exact ht.2.1, by rw [e 39 (by decide)]; exact ht.2.2.1, fun r hr => ?_⟩
  · show (match A.2.1 with
      | none => hI β 34 3 = 0
      | some q => hI β 34 3 = 1 ∧ SB q.1 ∧ mRow (hI β 36) q.1 q.2)
    rw [e 34 (by decide), e 36 (by decide)]
    exact himg
  · rw [e r (by rcases hr with rfl | rfl | rfl | rfl <;> decide)]
    exact ht.2.2.2 r hr
def tsOK (α : AH) (ts : List Bool) : Prop := ∀ j, j < ts.length → hI α 38 j = b2i (ts.getD (ts.length - 1 - j) false)
theorem tsOK.push {ts : List Bool} {b : Bool} (h : tsOK α ts) : tsOK (sI α 38 ts.length (b2i b)) (b :: ts) := by
  intro j hj
  simp only [List.length_cons] at hj ⊢
  rw [hI_sI]
  by_cases e : j = ts.length
  · subst e; rw [if_pos ⟨rfl, rfl⟩]; simp
  · rw [if_neg (fun z => e z.2), h j (by omega), show ts.length + 1 - 1 - j = ts.length - 1 - j + 1 by omega]
    simp
theorem tsOK.pop {ts : List Bool} {b : Bool} (h : tsOK α (b :: ts)) : tsOK α ts := by
  intro j hj
  have := h j (by simp; omega)
  simp only [List.length_cons] at this
  rw [this, show ts.length + 1 - 1 - j = ts.length - 1 - j + 1 by omega]
  simp
theorem tsOK.top {ts : List Bool} {b : Bool} (h : tsOK α (b :: ts)) : hI α 38 ts.length = b2i b := by
  have := h ts.length (by simp)
  rw [this]; simp
theorem mRun_some {dy : Nat → Nat} {k : Nat} {f : Nat → Int32} {b : Nat} {n : Nat} {r : List Bool × Bool} (h : mRun dy k f b (n + 1) = some r) : ∃ q, mRun dy k f b n = some q := by
  cases e : mRun dy k f b n with
  | some q => exact ⟨q, rfl⟩
  | none => unfold mRun at h; rw [e] at h; simp [mStep] at h
theorem mRun_pre {dy : Nat → Nat} {k : Nat} {f : Nat → Int32} {b m : Nat} {r : List Bool × Bool} (h : mRun dy k f b m = some r) : ∀ t n, n + t = m → ∃ q, mRun dy k f b n = some q := by
  intro t
  induction t with
  | zero => intro n hn; have : n = m := by omega
            subst this; exact ⟨r, h⟩
  | succ t ih =>
    intro n hn
    obtain ⟨q, hq⟩ := ih (n + 1) (by omega)
    exact mRun_some hq
theorem mStep_len {dy : Nat → Nat} {k : Nat} {ts ts' : List Bool} {r r' : Bool} {x : Int32} (h : mStep dy k (some (ts, r)) x = some (ts', r')) (hl : ts.length ≤ 63) : ts'.length ≤ 63 := by
  simp only [mStep] at h
  split at h
  · split at h
    · cases h; simp; omega
    · cases h
  · split at h
    · split at h
      · cases h; simpa using hl
      · cases h
    · split at h
      · split at h
        · cases h; simp at hl ⊢; omega
        · cases h
      · split at h
        · cases h; simp
        · cases h
theorem mRun_len {dy : Nat → Nat} {k : Nat} {f : Nat → Int32} {b : Nat} : ∀ {n : Nat} {ts : List Bool} {r : Bool}, mRun dy k f b n = some (ts, r) → ts.length ≤ 63
  | 0, ts, r, h => by cases h; simp
  | n + 1, ts, r, h => by
    obtain ⟨⟨ts0, r0⟩, h0⟩ := mRun_some h
    unfold mRun at h
    rw [h0] at h
    exact mStep_len h (mRun_len h0)
theorem b2i_vn {b : Bool} : vp_nar .boolean (b2i b) = b2i b := by cases b <;> decide
/-- what holds while canOn goes through the steps -/
def mGo (A : ZA) (dy : Nat → Nat) (α β : AH) : Prop := MRel A β ∧ frI (fun k => k = 37 ∨ k = 38) α β ∧ ∀ i, i < 5 → hI β 37 i = nI (dy i)
theorem mGo.put {dy : Nat → Nat} {i : Nat} {x : Int32} (h : mGo A dy α β) : mGo A dy α (sI β 38 i x) := by
  have hf : frI (fun k => k = 37 ∨ k = 38) β (sI β 38 i x) := frI.sI (Or.inr rfl)
  refine ⟨h.1.fr hf (by decide), h.2.1.tr hf, fun j hj => ?_⟩
  rw [hI_sI, if_neg (by omega)]
  exact h.2.2 j hj
theorem i_le_of {x y : Int32} (h : ¬ x < y) : y ≤ x := by simp only [Int32.lt_iff_toInt_lt, Int32.le_iff_toInt_le] at *; omega
theorem i_nle_of {x y : Int32} (h : x < y) : ¬ y ≤ x := by simp only [Int32.lt_iff_toInt_lt, Int32.le_iff_toInt_le] at *; omega
theorem lp_canOn {q s k b m : Nat} {dy : Nat → Nat} {res : Bool} (hb : b + m ≤ 892) (hk : k < 3) (hdy : ∀ i, i < 5 → dy i < 1000) (hrun : mRun dy k (hI α 35) b m = some ([], res))
    (h : ∀ β, mGo A dy α β → post (some (.int (b2i res))) β) :
    ∀ (t n : Nat), n + t = m → ∀ (ts : List Bool) (r : Bool) (β : AH), mRun dy k (hI α 35) b n = some (ts, r) → mGo A dy α β → tsOK β ts → Z G mX12_canOn (d + 1) 125 [some (.ref (G.1 + 34)), some (.int (nI q)), some (.int (nI s)), some (.int (nI k)), some (.int (nI m)), some (.int (nI b)), some (.int (nI ts.length)), some (.int (b2i r)), some (.int (nI (b + n))), none, none, none, none] [] β (0, 0) post := by
  intro t
  induction t with
  | zero =>
    intro n hn ts r β hq hg hts
    have hn : n = m := by omega
    subst hn
    cases hq.symm.trans hrun
    have hm := hg.1.mw
    refine Z_iload dX12_canOn_125 rfl ?_
    refine Z_iload dX12_canOn_127 rfl ?_
    refine Z_iload dX12_canOn_129 rfl ?_
    refine Z_iadd dX12_canOn_131 ?_
    rw [nI_add]
    refine Z_icmp_ge (tgt := 403) dX12_canOn_132 (by decide) (fun h132 => ?_) (fun h132 => ?_)
    · skip
      refine Z_iload dX12_canOn_403 rfl ?_
      refine Z_iret dX12_canOn_405 rfl b2i_nar ⟨by decide, by decide⟩ ?_
      exact h β hg
    · skip
      exact absurd (Int32.le_refl _) h132
  | succ t ih =>
    intro n hn ts r β hq hg hts
    have hm := hg.1.mw
    obtain ⟨⟨ts', r'⟩, hq'⟩ := mRun_pre hrun t (n + 1) (by omega)
    have hst := hq'
    unfold mRun at hst
    rw [hq] at hst
    have hlen : ts.length < 64 := Nat.lt_succ_of_le (mRun_len hq)
    have hrow : hI β 35 (b + n) = hI α 35 (b + n) := by rw [(hg.2.1.2.2.2 35 (by decide)).1]
    have next : ∀ (γ : AH) (x9 x10 x11 x12 : Option Value), mGo A dy α γ → tsOK γ ts' → Z G mX12_canOn (d + 1) 397 [some (.ref (G.1 + 34)), some (.int (nI q)), some (.int (nI s)), some (.int (nI k)), some (.int (nI m)), some (.int (nI b)), some (.int (nI ts'.length)), some (.int (b2i r')), some (.int (nI (b + n))), x9, x10, x11, x12] [] γ (0, 0) post := by
      intro γ x9 x10 x11 x12 hg1 hts1
      refine Z_iinc (L' := [_, _, _, _, _, _, _, _, _, _, _, _, _]) dX12_canOn_397 rfl (by rfl : _ + Int32.ofInt 1 = _ + 1) (by decide) rfl rfl ?_
      refine Z_goto (tgt := 125) dX12_canOn_400 (by decide) ?_
      refine Z_less (L' := [some (.ref (G.1 + 34)), some (.int (nI q)), some (.int (nI s)), some (.int (nI k)), some (.int (nI m)), some (.int (nI b)), some (.int (nI ts'.length)), some (.int (b2i r')), some (.int (nI (b + n) + 1)), none, none, none, none]) (by simp [zLess]) ?_
      rw [nI_1]
      exact ih (n + 1) (by omega) ts' r' γ hq' hg1 hts1
    generalize hse : hI α 35 (b + n) = se at hst hrow
    by_cases h146_ : se < 0
    · -- a step that takes from the stack
      have hs0 : ¬ 0 ≤ se := i_nle_of h146_
      simp only [mStep] at hst
      rw [if_neg hs0] at hst
      refine Z_iload dX12_canOn_125 rfl ?_
      refine Z_iload dX12_canOn_127 rfl ?_
      refine Z_iload dX12_canOn_129 rfl ?_
      refine Z_iadd dX12_canOn_131 ?_
      rw [nI_add]
      refine Z_icmp_ge (tgt := 403) dX12_canOn_132 (by decide) (fun h132 => ?_) (fun h132 => ?_)
      · skip
        exact absurd h132 (nI_ge (a := b + n) (b := b + m) (by omega) (by omega))
      · skip
        refine Z_aload_n dX12_canOn_135 rfl rfl ?_
        refine Z_getR dX12_canOn_136 cl_12 fl_X12_9_12 rfl (mw_i34 hm) (mw_p34_1 hm) ?_
        refine Z_iload dX12_canOn_139 rfl ?_
        refine Z_ialdv dX12_canOn_141 (mw_i35 hm) (zix_nI (by omega) (by decide)) hrow ?_
        refine Z_istore (L' := [_, _, _, _, _, _, _, _, _, _, _, _, _]) dX12_canOn_142 (by decide) rfl rfl ?_
        refine Z_iload dX12_canOn_144 rfl ?_
        refine Z_if_lt (tgt := 243) dX12_canOn_146 (by decide) (fun h146 => ?_) (fun h146 => ?_)
        · skip
          refine Z_iload dX12_canOn_243 rfl ?_
          refine Z_iconst (v := -1) dX12_canOn_245 (by decide) ?_
          refine Z_icmp_ne (tgt := 278) dX12_canOn_246 (by decide) (fun h246 => ?_) (fun h246 => ?_)
          · skip
            rw [if_neg h246] at hst
            refine Z_iload dX12_canOn_278 rfl ?_
            refine Z_bipush (v := -10) dX12_canOn_280 (by decide) ?_
            refine Z_icmp_le (tgt := 364) dX12_canOn_282 (by decide) (fun h282 => ?_) (fun h282 => ?_)
            · skip
              rw [if_neg (show ¬ (-10 : Int32) < se by simp only [Int32.lt_iff_toInt_lt, Int32.le_iff_toInt_le] at *; omega)] at hst
              obtain ⟨t, rfl⟩ : ∃ t, ts = [t] := by
                match ts, hst with
                | [t], _ => exact ⟨t, rfl⟩
              cases hst
              refine Z_iconst (v := 0) dX12_canOn_364 (by decide) ?_
              refine Z_istore (L' := [_, _, _, _, _, _, _, _, _, _, _, _, _]) dX12_canOn_365 (by decide) rfl rfl ?_
              refine Z_iload dX12_canOn_367 rfl ?_
              refine Z_if_ne (tgt := 390) dX12_canOn_369 (by decide) (fun h369 => ?_) (fun h369 => ?_)
              · skip
                refine Z_iconst (v := 1) dX12_canOn_390 (by decide) ?_
                refine Z_goto (tgt := 395) dX12_canOn_391 (by decide) ?_
                refine Z_istore (L' := [_, _, _, _, _, _, _, _, _, _, _, _, _]) dX12_canOn_395 (by decide) rfl rfl ?_
                first
                  | (have e : t = false := b2i_eq.mp h266
                     subst e
                     exact next _ _ _ _ _ hg.put (hts.pop.push (b := true)))
                  | (have e : t = true := b2i_ne.mp h266
                     subst e
                     exact next _ _ _ _ _ hg.put (hts.pop.push (b := false)))
                  | (have e := b2i_eq.mp h312
                     subst e
                     simp only [if_pos h300, Bool.false_and] at next
                     exact next _ _ _ _ _ hg.put (hts.pop.pop.push (b := false)))
                  | (have e := b2i_ne.mp h312
                     have e2 := b2i_eq.mp h322
                     subst e; subst e2
                     simp only [if_pos h300, Bool.and_false] at next
                     exact next _ _ _ _ _ hg.put (hts.pop.pop.push (b := false)))
                  | (have e := b2i_ne.mp h312
                     have e2 := b2i_ne.mp h322
                     subst e; subst e2
                     simp only [if_pos h300, Bool.and_true] at next
                     exact next _ _ _ _ _ hg.put (hts.pop.pop.push (b := true)))
                  | (have e := b2i_ne.mp h342
                     subst e
                     simp only [if_neg h300, Bool.true_or] at next
                     exact next _ _ _ _ _ hg.put (hts.pop.pop.push (b := true)))
                  | (have e := b2i_eq.mp h342
                     have e2 := b2i_eq.mp h352
                     subst e; subst e2
                     simp only [if_neg h300, Bool.or_false] at next
                     exact next _ _ _ _ _ hg.put (hts.pop.pop.push (b := false)))
                  | (have e := b2i_eq.mp h342
                     have e2 := b2i_ne.mp h352
                     subst e; subst e2
                     simp only [if_neg h300, Bool.false_or] at next
                     exact next _ _ _ _ _ hg.put (hts.pop.pop.push (b := true)))
                  | (have e := b2i_ne.mp h369
                     subst e
                     simp only [Bool.true_or] at next
                     exact next _ _ _ _ _ hg (fun j hj => absurd hj (by simp)))
                  | (have e := b2i_eq.mp h369
                     subst e
                     simp only [decide_eq_false h378, Bool.false_and, Bool.or_false] at next
                     exact next _ _ _ _ _ hg (fun j hj => absurd hj (by simp)))
                  | (have e := b2i_eq.mp h369
                     have e2 := b2i_eq.mp h387
                     subst e; subst e2
                     simp only [Bool.and_false, Bool.or_false] at next
                     exact next _ _ _ _ _ hg (fun j hj => absurd hj (by simp)))
                  | (have e := b2i_eq.mp h369
                     have e2 := b2i_ne.mp h387
                     subst e; subst e2
                     simp only [decide_eq_true h378, Bool.and_true, Bool.false_or] at next
                     exact next _ _ _ _ _ hg (fun j hj => absurd hj (by simp)))
              · skip
                refine Z_bipush (v := -10) dX12_canOn_372 (by decide) ?_
                refine Z_iload dX12_canOn_374 rfl ?_
                refine Z_isub dX12_canOn_376 ?_
                refine Z_iload_n dX12_canOn_377 rfl rfl ?_
                refine Z_icmp_ne (tgt := 394) dX12_canOn_378 (by decide) (fun h378 => ?_) (fun h378 => ?_)
                · skip
                  refine Z_iconst (v := 0) dX12_canOn_394 (by decide) ?_
                  refine Z_istore (L' := [_, _, _, _, _, _, _, _, _, _, _, _, _]) dX12_canOn_395 (by decide) rfl rfl ?_
                  first
                    | (have e : t = false := b2i_eq.mp h266
                       subst e
                       exact next _ _ _ _ _ hg.put (hts.pop.push (b := true)))
                    | (have e : t = true := b2i_ne.mp h266
                       subst e
                       exact next _ _ _ _ _ hg.put (hts.pop.push (b := false)))
                    | (have e := b2i_eq.mp h312
                       subst e
                       simp only [if_pos h300, Bool.false_and] at next
                       exact next _ _ _ _ _ hg.put (hts.pop.pop.push (b := false)))
                    | (have e := b2i_ne.mp h312
                       have e2 := b2i_eq.mp h322
                       subst e; subst e2
                       simp only [if_pos h300, Bool.and_false] at next
                       exact next _ _ _ _ _ hg.put (hts.pop.pop.push (b := false)))
                    | (have e := b2i_ne.mp h312
                       have e2 := b2i_ne.mp h322
                       subst e; subst e2
                       simp only [if_pos h300, Bool.and_true] at next
                       exact next _ _ _ _ _ hg.put (hts.pop.pop.push (b := true)))
                    | (have e := b2i_ne.mp h342
                       subst e
                       simp only [if_neg h300, Bool.true_or] at next
                       exact next _ _ _ _ _ hg.put (hts.pop.pop.push (b := true)))
                    | (have e := b2i_eq.mp h342
                       have e2 := b2i_eq.mp h352
                       subst e; subst e2
                       simp only [if_neg h300, Bool.or_false] at next
                       exact next _ _ _ _ _ hg.put (hts.pop.pop.push (b := false)))
                    | (have e := b2i_eq.mp h342
                       have e2 := b2i_ne.mp h352
                       subst e; subst e2
                       simp only [if_neg h300, Bool.false_or] at next
                       exact next _ _ _ _ _ hg.put (hts.pop.pop.push (b := true)))
                    | (have e := b2i_ne.mp h369
                       subst e
                       simp only [Bool.true_or] at next
                       exact next _ _ _ _ _ hg (fun j hj => absurd hj (by simp)))
                    | (have e := b2i_eq.mp h369
                       subst e
                       simp only [decide_eq_false h378, Bool.false_and, Bool.or_false] at next
                       exact next _ _ _ _ _ hg (fun j hj => absurd hj (by simp)))
                    | (have e := b2i_eq.mp h369
                       have e2 := b2i_eq.mp h387
                       subst e; subst e2
                       simp only [Bool.and_false, Bool.or_false] at next
                       exact next _ _ _ _ _ hg (fun j hj => absurd hj (by simp)))
                    | (have e := b2i_eq.mp h369
                       have e2 := b2i_ne.mp h387
                       subst e; subst e2
                       simp only [decide_eq_true h378, Bool.and_true, Bool.false_or] at next
                       exact next _ _ _ _ _ hg (fun j hj => absurd hj (by simp)))
                · skip
                  refine Z_aload_n dX12_canOn_381 rfl rfl ?_
                  refine Z_getR dX12_canOn_382 cl_12 fl_X12_21_12 rfl (mw_i34 hm) (mw_p34_10 hm) ?_
                  refine Z_iconst (v := 0) dX12_canOn_385 (by decide) ?_
                  refine Z_zaldv dX12_canOn_386 (mw_i38 hm) (zix_k (m := 0) (by decide)) hts.top ?_
                  refine Z_if_eq (tgt := 394) dX12_canOn_387 (by decide) (fun h387 => ?_) (fun h387 => ?_)
                  · skip
                    refine Z_iconst (v := 0) dX12_canOn_394 (by decide) ?_
                    refine Z_istore (L' := [_, _, _, _, _, _, _, _, _, _, _, _, _]) dX12_canOn_395 (by decide) rfl rfl ?_
                    first
                      | (have e : t = false := b2i_eq.mp h266
                         subst e
                         exact next _ _ _ _ _ hg.put (hts.pop.push (b := true)))
                      | (have e : t = true := b2i_ne.mp h266
                         subst e
                         exact next _ _ _ _ _ hg.put (hts.pop.push (b := false)))
                      | (have e := b2i_eq.mp h312
                         subst e
                         simp only [if_pos h300, Bool.false_and] at next
                         exact next _ _ _ _ _ hg.put (hts.pop.pop.push (b := false)))
                      | (have e := b2i_ne.mp h312
                         have e2 := b2i_eq.mp h322
                         subst e; subst e2
                         simp only [if_pos h300, Bool.and_false] at next
                         exact next _ _ _ _ _ hg.put (hts.pop.pop.push (b := false)))
                      | (have e := b2i_ne.mp h312
                         have e2 := b2i_ne.mp h322
                         subst e; subst e2
                         simp only [if_pos h300, Bool.and_true] at next
                         exact next _ _ _ _ _ hg.put (hts.pop.pop.push (b := true)))
                      | (have e := b2i_ne.mp h342
                         subst e
                         simp only [if_neg h300, Bool.true_or] at next
                         exact next _ _ _ _ _ hg.put (hts.pop.pop.push (b := true)))
                      | (have e := b2i_eq.mp h342
                         have e2 := b2i_eq.mp h352
                         subst e; subst e2
                         simp only [if_neg h300, Bool.or_false] at next
                         exact next _ _ _ _ _ hg.put (hts.pop.pop.push (b := false)))
                      | (have e := b2i_eq.mp h342
                         have e2 := b2i_ne.mp h352
                         subst e; subst e2
                         simp only [if_neg h300, Bool.false_or] at next
                         exact next _ _ _ _ _ hg.put (hts.pop.pop.push (b := true)))
                      | (have e := b2i_ne.mp h369
                         subst e
                         simp only [Bool.true_or] at next
                         exact next _ _ _ _ _ hg (fun j hj => absurd hj (by simp)))
                      | (have e := b2i_eq.mp h369
                         subst e
                         simp only [decide_eq_false h378, Bool.false_and, Bool.or_false] at next
                         exact next _ _ _ _ _ hg (fun j hj => absurd hj (by simp)))
                      | (have e := b2i_eq.mp h369
                         have e2 := b2i_eq.mp h387
                         subst e; subst e2
                         simp only [Bool.and_false, Bool.or_false] at next
                         exact next _ _ _ _ _ hg (fun j hj => absurd hj (by simp)))
                      | (have e := b2i_eq.mp h369
                         have e2 := b2i_ne.mp h387
                         subst e; subst e2
                         simp only [decide_eq_true h378, Bool.and_true, Bool.false_or] at next
                         exact next _ _ _ _ _ hg (fun j hj => absurd hj (by simp)))
                  · skip
                    refine Z_iconst (v := 1) dX12_canOn_390 (by decide) ?_
                    refine Z_goto (tgt := 395) dX12_canOn_391 (by decide) ?_
                    refine Z_istore (L' := [_, _, _, _, _, _, _, _, _, _, _, _, _]) dX12_canOn_395 (by decide) rfl rfl ?_
                    first
                      | (have e : t = false := b2i_eq.mp h266
                         subst e
                         exact next _ _ _ _ _ hg.put (hts.pop.push (b := true)))
                      | (have e : t = true := b2i_ne.mp h266
                         subst e
                         exact next _ _ _ _ _ hg.put (hts.pop.push (b := false)))
                      | (have e := b2i_eq.mp h312
                         subst e
                         simp only [if_pos h300, Bool.false_and] at next
                         exact next _ _ _ _ _ hg.put (hts.pop.pop.push (b := false)))
                      | (have e := b2i_ne.mp h312
                         have e2 := b2i_eq.mp h322
                         subst e; subst e2
                         simp only [if_pos h300, Bool.and_false] at next
                         exact next _ _ _ _ _ hg.put (hts.pop.pop.push (b := false)))
                      | (have e := b2i_ne.mp h312
                         have e2 := b2i_ne.mp h322
                         subst e; subst e2
                         simp only [if_pos h300, Bool.and_true] at next
                         exact next _ _ _ _ _ hg.put (hts.pop.pop.push (b := true)))
                      | (have e := b2i_ne.mp h342
                         subst e
                         simp only [if_neg h300, Bool.true_or] at next
                         exact next _ _ _ _ _ hg.put (hts.pop.pop.push (b := true)))
                      | (have e := b2i_eq.mp h342
                         have e2 := b2i_eq.mp h352
                         subst e; subst e2
                         simp only [if_neg h300, Bool.or_false] at next
                         exact next _ _ _ _ _ hg.put (hts.pop.pop.push (b := false)))
                      | (have e := b2i_eq.mp h342
                         have e2 := b2i_ne.mp h352
                         subst e; subst e2
                         simp only [if_neg h300, Bool.false_or] at next
                         exact next _ _ _ _ _ hg.put (hts.pop.pop.push (b := true)))
                      | (have e := b2i_ne.mp h369
                         subst e
                         simp only [Bool.true_or] at next
                         exact next _ _ _ _ _ hg (fun j hj => absurd hj (by simp)))
                      | (have e := b2i_eq.mp h369
                         subst e
                         simp only [decide_eq_false h378, Bool.false_and, Bool.or_false] at next
                         exact next _ _ _ _ _ hg (fun j hj => absurd hj (by simp)))
                      | (have e := b2i_eq.mp h369
                         have e2 := b2i_eq.mp h387
                         subst e; subst e2
                         simp only [Bool.and_false, Bool.or_false] at next
                         exact next _ _ _ _ _ hg (fun j hj => absurd hj (by simp)))
                      | (have e := b2i_eq.mp h369
                         have e2 := b2i_ne.mp h387
                         subst e; subst e2
                         simp only [decide_eq_true h378, Bool.and_true, Bool.false_or] at next
                         exact next _ _ _ _ _ hg (fun j hj => absurd hj (by simp)))
            · skip
              rw [if_pos (show (-10 : Int32) < se by simp only [Int32.lt_iff_toInt_lt, Int32.le_iff_toInt_le] at *; omega)] at hst
              obtain ⟨t, t2, l, rfl⟩ : ∃ t t2 l, ts = t :: t2 :: l := by
                match ts, hst with
                | t :: t2 :: l, _ => exact ⟨t, t2, l, rfl⟩
              cases hst
              rw [show (t :: t2 :: l).length = l.length + 1 + 1 from rfl] at hlen ⊢
              refine Z_iinc (L' := [_, _, _, _, _, _, _, _, _, _, _, _, _]) dX12_canOn_285 rfl (by rfl : _ + Int32.ofInt (-1) = _ + (-1)) (by decide) rfl rfl ?_
              rw [pk_m1]
              refine Z_aload_n dX12_canOn_288 rfl rfl ?_
              refine Z_getR dX12_canOn_289 cl_12 fl_X12_21_12 rfl (mw_i34 hm) (mw_p34_10 hm) ?_
              refine Z_iload dX12_canOn_292 rfl ?_
              refine Z_iconst (v := 1) dX12_canOn_294 (by decide) ?_
              refine Z_isub dX12_canOn_295 ?_
              rw [nI_pred]
              refine Z_iload dX12_canOn_296 rfl ?_
              refine Z_bipush (v := -2) dX12_canOn_298 (by decide) ?_
              refine Z_icmp_ne (tgt := 333) dX12_canOn_300 (by decide) (fun h300 => ?_) (fun h300 => ?_)
              · skip
                refine Z_aload_n dX12_canOn_333 rfl rfl ?_
                refine Z_getR dX12_canOn_334 cl_12 fl_X12_21_12 rfl (mw_i34 hm) (mw_p34_10 hm) ?_
                refine Z_iload dX12_canOn_337 rfl ?_
                refine Z_iconst (v := 1) dX12_canOn_339 (by decide) ?_
                refine Z_isub dX12_canOn_340 ?_
                rw [nI_pred]
                refine Z_zaldv dX12_canOn_341 (mw_i38 hm) (zix_nI (by omega) (by decide)) hts.pop.top ?_
                refine Z_if_ne (tgt := 355) dX12_canOn_342 (by decide) (fun h342 => ?_) (fun h342 => ?_)
                · skip
                  refine Z_iconst (v := 1) dX12_canOn_355 (by decide) ?_
                  refine Z_goto (tgt := 360) dX12_canOn_356 (by decide) ?_
                  refine Z_zast dX12_canOn_360 (mw_i38 hm) (zix_nI (by omega) (by decide)) (by decide) ?_
                  refine Z_goto (tgt := 397) dX12_canOn_361 (by decide) ?_
                  first
                    | (have e : t = false := b2i_eq.mp h266
                       subst e
                       exact next _ _ _ _ _ hg.put (hts.pop.push (b := true)))
                    | (have e : t = true := b2i_ne.mp h266
                       subst e
                       exact next _ _ _ _ _ hg.put (hts.pop.push (b := false)))
                    | (have e := b2i_eq.mp h312
                       subst e
                       simp only [if_pos h300, Bool.false_and] at next
                       exact next _ _ _ _ _ hg.put (hts.pop.pop.push (b := false)))
                    | (have e := b2i_ne.mp h312
                       have e2 := b2i_eq.mp h322
                       subst e; subst e2
                       simp only [if_pos h300, Bool.and_false] at next
                       exact next _ _ _ _ _ hg.put (hts.pop.pop.push (b := false)))
                    | (have e := b2i_ne.mp h312
                       have e2 := b2i_ne.mp h322
                       subst e; subst e2
                       simp only [if_pos h300, Bool.and_true] at next
                       exact next _ _ _ _ _ hg.put (hts.pop.pop.push (b := true)))
                    | (have e := b2i_ne.mp h342
                       subst e
                       simp only [if_neg h300, Bool.true_or] at next
                       exact next _ _ _ _ _ hg.put (hts.pop.pop.push (b := true)))
                    | (have e := b2i_eq.mp h342
                       have e2 := b2i_eq.mp h352
                       subst e; subst e2
                       simp only [if_neg h300, Bool.or_false] at next
                       exact next _ _ _ _ _ hg.put (hts.pop.pop.push (b := false)))
                    | (have e := b2i_eq.mp h342
                       have e2 := b2i_ne.mp h352
                       subst e; subst e2
                       simp only [if_neg h300, Bool.false_or] at next
                       exact next _ _ _ _ _ hg.put (hts.pop.pop.push (b := true)))
                    | (have e := b2i_ne.mp h369
                       subst e
                       simp only [Bool.true_or] at next
                       exact next _ _ _ _ _ hg (fun j hj => absurd hj (by simp)))
                    | (have e := b2i_eq.mp h369
                       subst e
                       simp only [decide_eq_false h378, Bool.false_and, Bool.or_false] at next
                       exact next _ _ _ _ _ hg (fun j hj => absurd hj (by simp)))
                    | (have e := b2i_eq.mp h369
                       have e2 := b2i_eq.mp h387
                       subst e; subst e2
                       simp only [Bool.and_false, Bool.or_false] at next
                       exact next _ _ _ _ _ hg (fun j hj => absurd hj (by simp)))
                    | (have e := b2i_eq.mp h369
                       have e2 := b2i_ne.mp h387
                       subst e; subst e2
                       simp only [decide_eq_true h378, Bool.and_true, Bool.false_or] at next
                       exact next _ _ _ _ _ hg (fun j hj => absurd hj (by simp)))
                · skip
                  refine Z_aload_n dX12_canOn_345 rfl rfl ?_
                  refine Z_getR dX12_canOn_346 cl_12 fl_X12_21_12 rfl (mw_i34 hm) (mw_p34_10 hm) ?_
                  refine Z_iload dX12_canOn_349 rfl ?_
                  refine Z_zaldv dX12_canOn_351 (mw_i38 hm) (zix_nI (by omega) (by decide)) hts.top ?_
                  refine Z_if_eq (tgt := 359) dX12_canOn_352 (by decide) (fun h352 => ?_) (fun h352 => ?_)
                  · skip
                    refine Z_iconst (v := 0) dX12_canOn_359 (by decide) ?_
                    refine Z_zast dX12_canOn_360 (mw_i38 hm) (zix_nI (by omega) (by decide)) (by decide) ?_
                    refine Z_goto (tgt := 397) dX12_canOn_361 (by decide) ?_
                    first
                      | (have e : t = false := b2i_eq.mp h266
                         subst e
                         exact next _ _ _ _ _ hg.put (hts.pop.push (b := true)))
                      | (have e : t = true := b2i_ne.mp h266
                         subst e
                         exact next _ _ _ _ _ hg.put (hts.pop.push (b := false)))
                      | (have e := b2i_eq.mp h312
                         subst e
                         simp only [if_pos h300, Bool.false_and] at next
                         exact next _ _ _ _ _ hg.put (hts.pop.pop.push (b := false)))
                      | (have e := b2i_ne.mp h312
                         have e2 := b2i_eq.mp h322
                         subst e; subst e2
                         simp only [if_pos h300, Bool.and_false] at next
                         exact next _ _ _ _ _ hg.put (hts.pop.pop.push (b := false)))
                      | (have e := b2i_ne.mp h312
                         have e2 := b2i_ne.mp h322
                         subst e; subst e2
                         simp only [if_pos h300, Bool.and_true] at next
                         exact next _ _ _ _ _ hg.put (hts.pop.pop.push (b := true)))
                      | (have e := b2i_ne.mp h342
                         subst e
                         simp only [if_neg h300, Bool.true_or] at next
                         exact next _ _ _ _ _ hg.put (hts.pop.pop.push (b := true)))
                      | (have e := b2i_eq.mp h342
                         have e2 := b2i_eq.mp h352
                         subst e; subst e2
                         simp only [if_neg h300, Bool.or_false] at next
                         exact next _ _ _ _ _ hg.put (hts.pop.pop.push (b := false)))
                      | (have e := b2i_eq.mp h342
                         have e2 := b2i_ne.mp h352
                         subst e; subst e2
                         simp only [if_neg h300, Bool.false_or] at next
                         exact next _ _ _ _ _ hg.put (hts.pop.pop.push (b := true)))
                      | (have e := b2i_ne.mp h369
                         subst e
                         simp only [Bool.true_or] at next
                         exact next _ _ _ _ _ hg (fun j hj => absurd hj (by simp)))
                      | (have e := b2i_eq.mp h369
                         subst e
                         simp only [decide_eq_false h378, Bool.false_and, Bool.or_false] at next
                         exact next _ _ _ _ _ hg (fun j hj => absurd hj (by simp)))
                      | (have e := b2i_eq.mp h369
                         have e2 := b2i_eq.mp h387
                         subst e; subst e2
                         simp only [Bool.and_false, Bool.or_false] at next
                         exact next _ _ _ _ _ hg (fun j hj => absurd hj (by simp)))
                      | (have e := b2i_eq.mp h369
                         have e2 := b2i_ne.mp h387
                         subst e; subst e2
                         simp only [decide_eq_true h378, Bool.and_true, Bool.false_or] at next
                         exact next _ _ _ _ _ hg (fun j hj => absurd hj (by simp)))
                  · skip
                    refine Z_iconst (v := 1) dX12_canOn_355 (by decide) ?_
                    refine Z_goto (tgt := 360) dX12_canOn_356 (by decide) ?_
                    refine Z_zast dX12_canOn_360 (mw_i38 hm) (zix_nI (by omega) (by decide)) (by decide) ?_
                    refine Z_goto (tgt := 397) dX12_canOn_361 (by decide) ?_
                    first
                      | (have e : t = false := b2i_eq.mp h266
                         subst e
                         exact next _ _ _ _ _ hg.put (hts.pop.push (b := true)))
                      | (have e : t = true := b2i_ne.mp h266
                         subst e
                         exact next _ _ _ _ _ hg.put (hts.pop.push (b := false)))
                      | (have e := b2i_eq.mp h312
                         subst e
                         simp only [if_pos h300, Bool.false_and] at next
                         exact next _ _ _ _ _ hg.put (hts.pop.pop.push (b := false)))
                      | (have e := b2i_ne.mp h312
                         have e2 := b2i_eq.mp h322
                         subst e; subst e2
                         simp only [if_pos h300, Bool.and_false] at next
                         exact next _ _ _ _ _ hg.put (hts.pop.pop.push (b := false)))
                      | (have e := b2i_ne.mp h312
                         have e2 := b2i_ne.mp h322
                         subst e; subst e2
                         simp only [if_pos h300, Bool.and_true] at next
                         exact next _ _ _ _ _ hg.put (hts.pop.pop.push (b := true)))
                      | (have e := b2i_ne.mp h342
                         subst e
                         simp only [if_neg h300, Bool.true_or] at next
                         exact next _ _ _ _ _ hg.put (hts.pop.pop.push (b := true)))
                      | (have e := b2i_eq.mp h342
                         have e2 := b2i_eq.mp h352
                         subst e; subst e2
                         simp only [if_neg h300, Bool.or_false] at next
                         exact next _ _ _ _ _ hg.put (hts.pop.pop.push (b := false)))
                      | (have e := b2i_eq.mp h342
                         have e2 := b2i_ne.mp h352
                         subst e; subst e2
                         simp only [if_neg h300, Bool.false_or] at next
                         exact next _ _ _ _ _ hg.put (hts.pop.pop.push (b := true)))
                      | (have e := b2i_ne.mp h369
                         subst e
                         simp only [Bool.true_or] at next
                         exact next _ _ _ _ _ hg (fun j hj => absurd hj (by simp)))
                      | (have e := b2i_eq.mp h369
                         subst e
                         simp only [decide_eq_false h378, Bool.false_and, Bool.or_false] at next
                         exact next _ _ _ _ _ hg (fun j hj => absurd hj (by simp)))
                      | (have e := b2i_eq.mp h369
                         have e2 := b2i_eq.mp h387
                         subst e; subst e2
                         simp only [Bool.and_false, Bool.or_false] at next
                         exact next _ _ _ _ _ hg (fun j hj => absurd hj (by simp)))
                      | (have e := b2i_eq.mp h369
                         have e2 := b2i_ne.mp h387
                         subst e; subst e2
                         simp only [decide_eq_true h378, Bool.and_true, Bool.false_or] at next
                         exact next _ _ _ _ _ hg (fun j hj => absurd hj (by simp)))
              · skip
                refine Z_aload_n dX12_canOn_303 rfl rfl ?_
                refine Z_getR dX12_canOn_304 cl_12 fl_X12_21_12 rfl (mw_i34 hm) (mw_p34_10 hm) ?_
                refine Z_iload dX12_canOn_307 rfl ?_
                refine Z_iconst (v := 1) dX12_canOn_309 (by decide) ?_
                refine Z_isub dX12_canOn_310 ?_
                rw [nI_pred]
                refine Z_zaldv dX12_canOn_311 (mw_i38 hm) (zix_nI (by omega) (by decide)) hts.pop.top ?_
                refine Z_if_eq (tgt := 329) dX12_canOn_312 (by decide) (fun h312 => ?_) (fun h312 => ?_)
                · skip
                  refine Z_iconst (v := 0) dX12_canOn_329 (by decide) ?_
                  refine Z_goto (tgt := 360) dX12_canOn_330 (by decide) ?_
                  refine Z_zast dX12_canOn_360 (mw_i38 hm) (zix_nI (by omega) (by decide)) (by decide) ?_
                  refine Z_goto (tgt := 397) dX12_canOn_361 (by decide) ?_
                  first
                    | (have e : t = false := b2i_eq.mp h266
                       subst e
                       exact next _ _ _ _ _ hg.put (hts.pop.push (b := true)))
                    | (have e : t = true := b2i_ne.mp h266
                       subst e
                       exact next _ _ _ _ _ hg.put (hts.pop.push (b := false)))
                    | (have e := b2i_eq.mp h312
                       subst e
                       simp only [if_pos h300, Bool.false_and] at next
                       exact next _ _ _ _ _ hg.put (hts.pop.pop.push (b := false)))
                    | (have e := b2i_ne.mp h312
                       have e2 := b2i_eq.mp h322
                       subst e; subst e2
                       simp only [if_pos h300, Bool.and_false] at next
                       exact next _ _ _ _ _ hg.put (hts.pop.pop.push (b := false)))
                    | (have e := b2i_ne.mp h312
                       have e2 := b2i_ne.mp h322
                       subst e; subst e2
                       simp only [if_pos h300, Bool.and_true] at next
                       exact next _ _ _ _ _ hg.put (hts.pop.pop.push (b := true)))
                    | (have e := b2i_ne.mp h342
                       subst e
                       simp only [if_neg h300, Bool.true_or] at next
                       exact next _ _ _ _ _ hg.put (hts.pop.pop.push (b := true)))
                    | (have e := b2i_eq.mp h342
                       have e2 := b2i_eq.mp h352
                       subst e; subst e2
                       simp only [if_neg h300, Bool.or_false] at next
                       exact next _ _ _ _ _ hg.put (hts.pop.pop.push (b := false)))
                    | (have e := b2i_eq.mp h342
                       have e2 := b2i_ne.mp h352
                       subst e; subst e2
                       simp only [if_neg h300, Bool.false_or] at next
                       exact next _ _ _ _ _ hg.put (hts.pop.pop.push (b := true)))
                    | (have e := b2i_ne.mp h369
                       subst e
                       simp only [Bool.true_or] at next
                       exact next _ _ _ _ _ hg (fun j hj => absurd hj (by simp)))
                    | (have e := b2i_eq.mp h369
                       subst e
                       simp only [decide_eq_false h378, Bool.false_and, Bool.or_false] at next
                       exact next _ _ _ _ _ hg (fun j hj => absurd hj (by simp)))
                    | (have e := b2i_eq.mp h369
                       have e2 := b2i_eq.mp h387
                       subst e; subst e2
                       simp only [Bool.and_false, Bool.or_false] at next
                       exact next _ _ _ _ _ hg (fun j hj => absurd hj (by simp)))
                    | (have e := b2i_eq.mp h369
                       have e2 := b2i_ne.mp h387
                       subst e; subst e2
                       simp only [decide_eq_true h378, Bool.and_true, Bool.false_or] at next
                       exact next _ _ _ _ _ hg (fun j hj => absurd hj (by simp)))
                · skip
                  refine Z_aload_n dX12_canOn_315 rfl rfl ?_
                  refine Z_getR dX12_canOn_316 cl_12 fl_X12_21_12 rfl (mw_i34 hm) (mw_p34_10 hm) ?_
                  refine Z_iload dX12_canOn_319 rfl ?_
                  refine Z_zaldv dX12_canOn_321 (mw_i38 hm) (zix_nI (by omega) (by decide)) hts.top ?_
                  refine Z_if_eq (tgt := 329) dX12_canOn_322 (by decide) (fun h322 => ?_) (fun h322 => ?_)
                  · skip
                    refine Z_iconst (v := 0) dX12_canOn_329 (by decide) ?_
                    refine Z_goto (tgt := 360) dX12_canOn_330 (by decide) ?_
                    refine Z_zast dX12_canOn_360 (mw_i38 hm) (zix_nI (by omega) (by decide)) (by decide) ?_
                    refine Z_goto (tgt := 397) dX12_canOn_361 (by decide) ?_
                    first
                      | (have e : t = false := b2i_eq.mp h266
                         subst e
                         exact next _ _ _ _ _ hg.put (hts.pop.push (b := true)))
                      | (have e : t = true := b2i_ne.mp h266
                         subst e
                         exact next _ _ _ _ _ hg.put (hts.pop.push (b := false)))
                      | (have e := b2i_eq.mp h312
                         subst e
                         simp only [if_pos h300, Bool.false_and] at next
                         exact next _ _ _ _ _ hg.put (hts.pop.pop.push (b := false)))
                      | (have e := b2i_ne.mp h312
                         have e2 := b2i_eq.mp h322
                         subst e; subst e2
                         simp only [if_pos h300, Bool.and_false] at next
                         exact next _ _ _ _ _ hg.put (hts.pop.pop.push (b := false)))
                      | (have e := b2i_ne.mp h312
                         have e2 := b2i_ne.mp h322
                         subst e; subst e2
                         simp only [if_pos h300, Bool.and_true] at next
                         exact next _ _ _ _ _ hg.put (hts.pop.pop.push (b := true)))
                      | (have e := b2i_ne.mp h342
                         subst e
                         simp only [if_neg h300, Bool.true_or] at next
                         exact next _ _ _ _ _ hg.put (hts.pop.pop.push (b := true)))
                      | (have e := b2i_eq.mp h342
                         have e2 := b2i_eq.mp h352
                         subst e; subst e2
                         simp only [if_neg h300, Bool.or_false] at next
                         exact next _ _ _ _ _ hg.put (hts.pop.pop.push (b := false)))
                      | (have e := b2i_eq.mp h342
                         have e2 := b2i_ne.mp h352
                         subst e; subst e2
                         simp only [if_neg h300, Bool.false_or] at next
                         exact next _ _ _ _ _ hg.put (hts.pop.pop.push (b := true)))
                      | (have e := b2i_ne.mp h369
                         subst e
                         simp only [Bool.true_or] at next
                         exact next _ _ _ _ _ hg (fun j hj => absurd hj (by simp)))
                      | (have e := b2i_eq.mp h369
                         subst e
                         simp only [decide_eq_false h378, Bool.false_and, Bool.or_false] at next
                         exact next _ _ _ _ _ hg (fun j hj => absurd hj (by simp)))
                      | (have e := b2i_eq.mp h369
                         have e2 := b2i_eq.mp h387
                         subst e; subst e2
                         simp only [Bool.and_false, Bool.or_false] at next
                         exact next _ _ _ _ _ hg (fun j hj => absurd hj (by simp)))
                      | (have e := b2i_eq.mp h369
                         have e2 := b2i_ne.mp h387
                         subst e; subst e2
                         simp only [decide_eq_true h378, Bool.and_true, Bool.false_or] at next
                         exact next _ _ _ _ _ hg (fun j hj => absurd hj (by simp)))
                  · skip
                    refine Z_iconst (v := 1) dX12_canOn_325 (by decide) ?_
                    refine Z_goto (tgt := 360) dX12_canOn_326 (by decide) ?_
                    refine Z_zast dX12_canOn_360 (mw_i38 hm) (zix_nI (by omega) (by decide)) (by decide) ?_
                    refine Z_goto (tgt := 397) dX12_canOn_361 (by decide) ?_
                    first
                      | (have e : t = false := b2i_eq.mp h266
                         subst e
                         exact next _ _ _ _ _ hg.put (hts.pop.push (b := true)))
                      | (have e : t = true := b2i_ne.mp h266
                         subst e
                         exact next _ _ _ _ _ hg.put (hts.pop.push (b := false)))
                      | (have e := b2i_eq.mp h312
                         subst e
                         simp only [if_pos h300, Bool.false_and] at next
                         exact next _ _ _ _ _ hg.put (hts.pop.pop.push (b := false)))
                      | (have e := b2i_ne.mp h312
                         have e2 := b2i_eq.mp h322
                         subst e; subst e2
                         simp only [if_pos h300, Bool.and_false] at next
                         exact next _ _ _ _ _ hg.put (hts.pop.pop.push (b := false)))
                      | (have e := b2i_ne.mp h312
                         have e2 := b2i_ne.mp h322
                         subst e; subst e2
                         simp only [if_pos h300, Bool.and_true] at next
                         exact next _ _ _ _ _ hg.put (hts.pop.pop.push (b := true)))
                      | (have e := b2i_ne.mp h342
                         subst e
                         simp only [if_neg h300, Bool.true_or] at next
                         exact next _ _ _ _ _ hg.put (hts.pop.pop.push (b := true)))
                      | (have e := b2i_eq.mp h342
                         have e2 := b2i_eq.mp h352
                         subst e; subst e2
                         simp only [if_neg h300, Bool.or_false] at next
                         exact next _ _ _ _ _ hg.put (hts.pop.pop.push (b := false)))
                      | (have e := b2i_eq.mp h342
                         have e2 := b2i_ne.mp h352
                         subst e; subst e2
                         simp only [if_neg h300, Bool.false_or] at next
                         exact next _ _ _ _ _ hg.put (hts.pop.pop.push (b := true)))
                      | (have e := b2i_ne.mp h369
                         subst e
                         simp only [Bool.true_or] at next
                         exact next _ _ _ _ _ hg (fun j hj => absurd hj (by simp)))
                      | (have e := b2i_eq.mp h369
                         subst e
                         simp only [decide_eq_false h378, Bool.false_and, Bool.or_false] at next
                         exact next _ _ _ _ _ hg (fun j hj => absurd hj (by simp)))
                      | (have e := b2i_eq.mp h369
                         have e2 := b2i_eq.mp h387
                         subst e; subst e2
                         simp only [Bool.and_false, Bool.or_false] at next
                         exact next _ _ _ _ _ hg (fun j hj => absurd hj (by simp)))
                      | (have e := b2i_eq.mp h369
                         have e2 := b2i_ne.mp h387
                         subst e; subst e2
                         simp only [decide_eq_true h378, Bool.and_true, Bool.false_or] at next
                         exact next _ _ _ _ _ hg (fun j hj => absurd hj (by simp)))
          · skip
            rw [if_pos h246] at hst
            obtain ⟨t, l, rfl⟩ : ∃ t l, ts = t :: l := by
              cases ts with
              | nil => cases hst
              | cons t l => exact ⟨t, l, rfl⟩
            cases hst
            rw [show (t :: l).length = l.length + 1 from rfl] at hlen ⊢
            refine Z_aload_n dX12_canOn_249 rfl rfl ?_
            refine Z_getR dX12_canOn_250 cl_12 fl_X12_21_12 rfl (mw_i34 hm) (mw_p34_10 hm) ?_
            refine Z_iload dX12_canOn_253 rfl ?_
            refine Z_iconst (v := 1) dX12_canOn_255 (by decide) ?_
            refine Z_isub dX12_canOn_256 ?_
            rw [nI_pred]
            refine Z_aload_n dX12_canOn_257 rfl rfl ?_
            refine Z_getR dX12_canOn_258 cl_12 fl_X12_21_12 rfl (mw_i34 hm) (mw_p34_10 hm) ?_
            refine Z_iload dX12_canOn_261 rfl ?_
            refine Z_iconst (v := 1) dX12_canOn_263 (by decide) ?_
            refine Z_isub dX12_canOn_264 ?_
            rw [nI_pred]
            refine Z_zaldv dX12_canOn_265 (mw_i38 hm) (zix_nI (by omega) (by decide)) hts.top ?_
            refine Z_if_ne (tgt := 273) dX12_canOn_266 (by decide) (fun h266 => ?_) (fun h266 => ?_)
            · skip
              refine Z_iconst (v := 0) dX12_canOn_273 (by decide) ?_
              refine Z_zast dX12_canOn_274 (mw_i38 hm) (zix_nI (by omega) (by decide)) (by decide) ?_
              refine Z_goto (tgt := 397) dX12_canOn_275 (by decide) ?_
              first
                | (have e : t = false := b2i_eq.mp h266
                   subst e
                   exact next _ _ _ _ _ hg.put (hts.pop.push (b := true)))
                | (have e : t = true := b2i_ne.mp h266
                   subst e
                   exact next _ _ _ _ _ hg.put (hts.pop.push (b := false)))
                | (have e := b2i_eq.mp h312
                   subst e
                   simp only [if_pos h300, Bool.false_and] at next
                   exact next _ _ _ _ _ hg.put (hts.pop.pop.push (b := false)))
                | (have e := b2i_ne.mp h312
                   have e2 := b2i_eq.mp h322
                   subst e; subst e2
                   simp only [if_pos h300, Bool.and_false] at next
                   exact next _ _ _ _ _ hg.put (hts.pop.pop.push (b := false)))
                | (have e := b2i_ne.mp h312
                   have e2 := b2i_ne.mp h322
                   subst e; subst e2
                   simp only [if_pos h300, Bool.and_true] at next
                   exact next _ _ _ _ _ hg.put (hts.pop.pop.push (b := true)))
                | (have e := b2i_ne.mp h342
                   subst e
                   simp only [if_neg h300, Bool.true_or] at next
                   exact next _ _ _ _ _ hg.put (hts.pop.pop.push (b := true)))
                | (have e := b2i_eq.mp h342
                   have e2 := b2i_eq.mp h352
                   subst e; subst e2
                   simp only [if_neg h300, Bool.or_false] at next
                   exact next _ _ _ _ _ hg.put (hts.pop.pop.push (b := false)))
                | (have e := b2i_eq.mp h342
                   have e2 := b2i_ne.mp h352
                   subst e; subst e2
                   simp only [if_neg h300, Bool.false_or] at next
                   exact next _ _ _ _ _ hg.put (hts.pop.pop.push (b := true)))
                | (have e := b2i_ne.mp h369
                   subst e
                   simp only [Bool.true_or] at next
                   exact next _ _ _ _ _ hg (fun j hj => absurd hj (by simp)))
                | (have e := b2i_eq.mp h369
                   subst e
                   simp only [decide_eq_false h378, Bool.false_and, Bool.or_false] at next
                   exact next _ _ _ _ _ hg (fun j hj => absurd hj (by simp)))
                | (have e := b2i_eq.mp h369
                   have e2 := b2i_eq.mp h387
                   subst e; subst e2
                   simp only [Bool.and_false, Bool.or_false] at next
                   exact next _ _ _ _ _ hg (fun j hj => absurd hj (by simp)))
                | (have e := b2i_eq.mp h369
                   have e2 := b2i_ne.mp h387
                   subst e; subst e2
                   simp only [decide_eq_true h378, Bool.and_true, Bool.false_or] at next
                   exact next _ _ _ _ _ hg (fun j hj => absurd hj (by simp)))
            · skip
              refine Z_iconst (v := 1) dX12_canOn_269 (by decide) ?_
              refine Z_goto (tgt := 274) dX12_canOn_270 (by decide) ?_
              refine Z_zast dX12_canOn_274 (mw_i38 hm) (zix_nI (by omega) (by decide)) (by decide) ?_
              refine Z_goto (tgt := 397) dX12_canOn_275 (by decide) ?_
              first
                | (have e : t = false := b2i_eq.mp h266
                   subst e
                   exact next _ _ _ _ _ hg.put (hts.pop.push (b := true)))
                | (have e : t = true := b2i_ne.mp h266
                   subst e
                   exact next _ _ _ _ _ hg.put (hts.pop.push (b := false)))
                | (have e := b2i_eq.mp h312
                   subst e
                   simp only [if_pos h300, Bool.false_and] at next
                   exact next _ _ _ _ _ hg.put (hts.pop.pop.push (b := false)))
                | (have e := b2i_ne.mp h312
                   have e2 := b2i_eq.mp h322
                   subst e; subst e2
                   simp only [if_pos h300, Bool.and_false] at next
                   exact next _ _ _ _ _ hg.put (hts.pop.pop.push (b := false)))
                | (have e := b2i_ne.mp h312
                   have e2 := b2i_ne.mp h322
                   subst e; subst e2
                   simp only [if_pos h300, Bool.and_true] at next
                   exact next _ _ _ _ _ hg.put (hts.pop.pop.push (b := true)))
                | (have e := b2i_ne.mp h342
                   subst e
                   simp only [if_neg h300, Bool.true_or] at next
                   exact next _ _ _ _ _ hg.put (hts.pop.pop.push (b := true)))
                | (have e := b2i_eq.mp h342
                   have e2 := b2i_eq.mp h352
                   subst e; subst e2
                   simp only [if_neg h300, Bool.or_false] at next
                   exact next _ _ _ _ _ hg.put (hts.pop.pop.push (b := false)))
                | (have e := b2i_eq.mp h342
                   have e2 := b2i_ne.mp h352
                   subst e; subst e2
                   simp only [if_neg h300, Bool.false_or] at next
                   exact next _ _ _ _ _ hg.put (hts.pop.pop.push (b := true)))
                | (have e := b2i_ne.mp h369
                   subst e
                   simp only [Bool.true_or] at next
                   exact next _ _ _ _ _ hg (fun j hj => absurd hj (by simp)))
                | (have e := b2i_eq.mp h369
                   subst e
                   simp only [decide_eq_false h378, Bool.false_and, Bool.or_false] at next
                   exact next _ _ _ _ _ hg (fun j hj => absurd hj (by simp)))
                | (have e := b2i_eq.mp h369
                   have e2 := b2i_eq.mp h387
                   subst e; subst e2
                   simp only [Bool.and_false, Bool.or_false] at next
                   exact next _ _ _ _ _ hg (fun j hj => absurd hj (by simp)))
                | (have e := b2i_eq.mp h369
                   have e2 := b2i_ne.mp h387
                   subst e; subst e2
                   simp only [decide_eq_true h378, Bool.and_true, Bool.false_or] at next
                   exact next _ _ _ _ _ hg (fun j hj => absurd hj (by simp)))
        · skip
          exact absurd h146_ h146
    · -- a test
      have hs0 : 0 ≤ se := i_le_of h146_
      obtain ⟨v, hv, rfl⟩ := nI_of h146_
      simp only [mStep] at hst
      rw [if_pos hs0, nI_clamp hv] at hst
      have hc : v % 8 < 5 ∧ ts.length < 63 := by
        by_cases hc : v % 8 < 5 ∧ ts.length < 63
        · exact hc
        · rw [if_neg hc] at hst; cases hst
      rw [if_pos hc] at hst
      cases hst
      have m8 : nI v - nI v / 8 * 8 = nI (v % 8) := pk_rem (d := 8) hv (by omega) (by omega)
      have e8 : nI v / 8 = nI (v / 8) := nI_div (b := 8) hv (by omega) (by omega)
      have m4 : nI (v / 8) - nI (v / 8) / 4 * 4 = nI (v / 8 % 4) := pk_rem (d := 4) (by omega) (by omega) (by omega)
      have e32 : nI v / 32 = nI (v / 32) := nI_div (b := 32) hv (by omega) (by omega)
      have hd := hdy (v % 8) hc.1
      have q0 : nI (v / 8 % 4) = 0 ↔ v / 8 % 4 = 0 := nI_eq (b := 0) (by omega) (by omega)
      have q1 : nI (v / 8 % 4) = 1 ↔ v / 8 % 4 = 1 := nI_eq (b := 1) (by omega) (by omega)
      have c0 : nI (v / 32) ≤ nI (dy (v % 8)) ↔ v / 32 ≤ dy (v % 8) := nI_leI (by omega) (by omega)
      have c1 : nI (dy (v % 8)) = nI (v / 32) ↔ dy (v % 8) = v / 32 := nI_eq (by omega) (by omega)
      have c2 : nI (dy (v % 8)) ≤ nI (v / 32) ↔ dy (v % 8) ≤ v / 32 := nI_leI (by omega) (by omega)
      have push : ∀ (bv : Bool), bv = zcmp (v / 8 % 4) (dy (v % 8)) (v / 32) → Z G mX12_canOn (d + 1) 236 [some (.ref (G.1 + 34)), some (.int (nI q)), some (.int (nI s)), some (.int (nI k)), some (.int (nI m)), some (.int (nI b)), some (.int (nI ts.length)), some (.int (b2i r)), some (.int (nI (b + n))), some (.int (nI v)), some (.int (nI (dy (v % 8)))), some (.int (nI (v / 8 % 4))), some (.int (nI (v / 32)))] [.int (b2i bv), .int (nI ts.length), .ref (G.1 + 38)] β (0, 0) post := by
        intro bv hbv
        subst hbv
        refine Z_zast dX12_canOn_236 (mw_i38 hm) (zix_nI hlen (by decide)) b2i_vn ?_
        refine Z_iinc (L' := [_, _, _, _, _, _, _, _, _, _, _, _, _]) dX12_canOn_237 rfl (by rfl : _ + Int32.ofInt 1 = _ + 1) (by decide) rfl rfl ?_
        refine Z_goto (tgt := 397) dX12_canOn_240 (by decide) ?_
        rw [nI_1]
        exact next _ _ _ _ _ hg.put hts.push
      refine Z_iload dX12_canOn_125 rfl ?_
      refine Z_iload dX12_canOn_127 rfl ?_
      refine Z_iload dX12_canOn_129 rfl ?_
      refine Z_iadd dX12_canOn_131 ?_
      rw [nI_add]
      refine Z_icmp_ge (tgt := 403) dX12_canOn_132 (by decide) (fun h132 => ?_) (fun h132 => ?_)
      · skip
        exact absurd h132 (nI_ge (a := b + n) (b := b + m) (by omega) (by omega))
      · skip
        refine Z_aload_n dX12_canOn_135 rfl rfl ?_
        refine Z_getR dX12_canOn_136 cl_12 fl_X12_9_12 rfl (mw_i34 hm) (mw_p34_1 hm) ?_
        refine Z_iload dX12_canOn_139 rfl ?_
        refine Z_ialdv dX12_canOn_141 (mw_i35 hm) (zix_nI (by omega) (by decide)) hrow ?_
        refine Z_istore (L' := [_, _, _, _, _, _, _, _, _, _, _, _, _]) dX12_canOn_142 (by decide) rfl rfl ?_
        refine Z_iload dX12_canOn_144 rfl ?_
        refine Z_if_lt (tgt := 243) dX12_canOn_146 (by decide) (fun h146 => ?_) (fun h146 => ?_)
        · skip
          exact absurd h146 h146_
        · skip
          refine Z_aload_n dX12_canOn_149 rfl rfl ?_
          refine Z_getR dX12_canOn_150 cl_12 fl_X12_18_12 rfl (mw_i34 hm) (mw_p34_9 hm) ?_
          refine Z_iload dX12_canOn_153 rfl ?_
          refine Z_bipush (v := 8) dX12_canOn_155 (by decide) ?_
          refine Z_irem dX12_canOn_157 (by decide) ?_
          rw [m8]
          refine Z_ialdv dX12_canOn_158 (mw_i37 hm) (zix_nI hc.1 (by decide)) (hg.2.2 _ hc.1) ?_
          refine Z_istore (L' := [_, _, _, _, _, _, _, _, _, _, _, _, _]) dX12_canOn_159 (by decide) rfl rfl ?_
          refine Z_iload dX12_canOn_161 rfl ?_
          refine Z_bipush (v := 8) dX12_canOn_163 (by decide) ?_
          refine Z_idiv dX12_canOn_165 (by decide) ?_
          rw [e8]
          refine Z_iconst (v := 4) dX12_canOn_166 (by decide) ?_
          refine Z_irem dX12_canOn_167 (by decide) ?_
          rw [m4]
          refine Z_istore (L' := [_, _, _, _, _, _, _, _, _, _, _, _, _]) dX12_canOn_168 (by decide) rfl rfl ?_
          refine Z_iload dX12_canOn_170 rfl ?_
          refine Z_bipush (v := 32) dX12_canOn_172 (by decide) ?_
          refine Z_idiv dX12_canOn_174 (by decide) ?_
          rw [e32]
          refine Z_istore (L' := [_, _, _, _, _, _, _, _, _, _, _, _, _]) dX12_canOn_175 (by decide) rfl rfl ?_
          refine Z_aload_n dX12_canOn_177 rfl rfl ?_
          refine Z_getR dX12_canOn_178 cl_12 fl_X12_21_12 rfl (mw_i34 hm) (mw_p34_10 hm) ?_
          refine Z_iload dX12_canOn_181 rfl ?_
          refine Z_iload dX12_canOn_183 rfl ?_
          refine Z_if_ne (tgt := 203) dX12_canOn_185 (by decide) (fun h185 => ?_) (fun h185 => ?_)
          · skip
            refine Z_iload dX12_canOn_203 rfl ?_
            refine Z_iconst (v := 1) dX12_canOn_205 (by decide) ?_
            refine Z_icmp_ne (tgt := 224) dX12_canOn_206 (by decide) (fun h206 => ?_) (fun h206 => ?_)
            · skip
              refine Z_iload dX12_canOn_224 rfl ?_
              refine Z_iload dX12_canOn_226 rfl ?_
              refine Z_icmp_le (tgt := 235) dX12_canOn_228 (by decide) (fun h228 => ?_) (fun h228 => ?_)
              · skip
                refine Z_iconst (v := 0) dX12_canOn_235 (by decide) ?_
                first
                  | exact push false (by unfold zcmp; rw [if_pos (q0.mp h185)]; exact (decide_eq_false (by have := c0.mp h192; omega)).symm)
                  | exact push true (by unfold zcmp; rw [if_pos (q0.mp h185)]; exact (decide_eq_true (by have := mt c0.mpr h192; omega)).symm)
                  | exact push false (by unfold zcmp; rw [if_neg (mt q0.mpr h185), if_neg (mt q1.mpr h206)]; exact (decide_eq_false (by have := c2.mp h228; omega)).symm)
                  | exact push true (by unfold zcmp; rw [if_neg (mt q0.mpr h185), if_neg (mt q1.mpr h206)]; exact (decide_eq_true (by have := mt c2.mpr h228; omega)).symm)
                  | exact push false (by unfold zcmp; rw [if_neg (mt q0.mpr h185), if_pos (q1.mp h206)]; exact (decide_eq_false (mt c1.mpr h213)).symm)
                  | exact push true (by unfold zcmp; rw [if_neg (mt q0.mpr h185), if_pos (q1.mp h206)]; exact (decide_eq_true (c1.mp h213)).symm)
              · skip
                refine Z_iconst (v := 1) dX12_canOn_231 (by decide) ?_
                refine Z_goto (tgt := 236) dX12_canOn_232 (by decide) ?_
                first
                  | exact push false (by unfold zcmp; rw [if_pos (q0.mp h185)]; exact (decide_eq_false (by have := c0.mp h192; omega)).symm)
                  | exact push true (by unfold zcmp; rw [if_pos (q0.mp h185)]; exact (decide_eq_true (by have := mt c0.mpr h192; omega)).symm)
                  | exact push false (by unfold zcmp; rw [if_neg (mt q0.mpr h185), if_neg (mt q1.mpr h206)]; exact (decide_eq_false (by have := c2.mp h228; omega)).symm)
                  | exact push true (by unfold zcmp; rw [if_neg (mt q0.mpr h185), if_neg (mt q1.mpr h206)]; exact (decide_eq_true (by have := mt c2.mpr h228; omega)).symm)
                  | exact push false (by unfold zcmp; rw [if_neg (mt q0.mpr h185), if_pos (q1.mp h206)]; exact (decide_eq_false (mt c1.mpr h213)).symm)
                  | exact push true (by unfold zcmp; rw [if_neg (mt q0.mpr h185), if_pos (q1.mp h206)]; exact (decide_eq_true (c1.mp h213)).symm)
            · skip
              refine Z_iload dX12_canOn_209 rfl ?_
              refine Z_iload dX12_canOn_211 rfl ?_
              refine Z_icmp_ne (tgt := 220) dX12_canOn_213 (by decide) (fun h213 => ?_) (fun h213 => ?_)
              · skip
                refine Z_iconst (v := 0) dX12_canOn_220 (by decide) ?_
                refine Z_goto (tgt := 236) dX12_canOn_221 (by decide) ?_
                first
                  | exact push false (by unfold zcmp; rw [if_pos (q0.mp h185)]; exact (decide_eq_false (by have := c0.mp h192; omega)).symm)
                  | exact push true (by unfold zcmp; rw [if_pos (q0.mp h185)]; exact (decide_eq_true (by have := mt c0.mpr h192; omega)).symm)
                  | exact push false (by unfold zcmp; rw [if_neg (mt q0.mpr h185), if_neg (mt q1.mpr h206)]; exact (decide_eq_false (by have := c2.mp h228; omega)).symm)
                  | exact push true (by unfold zcmp; rw [if_neg (mt q0.mpr h185), if_neg (mt q1.mpr h206)]; exact (decide_eq_true (by have := mt c2.mpr h228; omega)).symm)
                  | exact push false (by unfold zcmp; rw [if_neg (mt q0.mpr h185), if_pos (q1.mp h206)]; exact (decide_eq_false (mt c1.mpr h213)).symm)
                  | exact push true (by unfold zcmp; rw [if_neg (mt q0.mpr h185), if_pos (q1.mp h206)]; exact (decide_eq_true (c1.mp h213)).symm)
              · skip
                refine Z_iconst (v := 1) dX12_canOn_216 (by decide) ?_
                refine Z_goto (tgt := 236) dX12_canOn_217 (by decide) ?_
                first
                  | exact push false (by unfold zcmp; rw [if_pos (q0.mp h185)]; exact (decide_eq_false (by have := c0.mp h192; omega)).symm)
                  | exact push true (by unfold zcmp; rw [if_pos (q0.mp h185)]; exact (decide_eq_true (by have := mt c0.mpr h192; omega)).symm)
                  | exact push false (by unfold zcmp; rw [if_neg (mt q0.mpr h185), if_neg (mt q1.mpr h206)]; exact (decide_eq_false (by have := c2.mp h228; omega)).symm)
                  | exact push true (by unfold zcmp; rw [if_neg (mt q0.mpr h185), if_neg (mt q1.mpr h206)]; exact (decide_eq_true (by have := mt c2.mpr h228; omega)).symm)
                  | exact push false (by unfold zcmp; rw [if_neg (mt q0.mpr h185), if_pos (q1.mp h206)]; exact (decide_eq_false (mt c1.mpr h213)).symm)
                  | exact push true (by unfold zcmp; rw [if_neg (mt q0.mpr h185), if_pos (q1.mp h206)]; exact (decide_eq_true (c1.mp h213)).symm)
          · skip
            refine Z_iload dX12_canOn_188 rfl ?_
            refine Z_iload dX12_canOn_190 rfl ?_
            refine Z_icmp_ge (tgt := 199) dX12_canOn_192 (by decide) (fun h192 => ?_) (fun h192 => ?_)
            · skip
              refine Z_iconst (v := 0) dX12_canOn_199 (by decide) ?_
              refine Z_goto (tgt := 236) dX12_canOn_200 (by decide) ?_
              first
                | exact push false (by unfold zcmp; rw [if_pos (q0.mp h185)]; exact (decide_eq_false (by have := c0.mp h192; omega)).symm)
                | exact push true (by unfold zcmp; rw [if_pos (q0.mp h185)]; exact (decide_eq_true (by have := mt c0.mpr h192; omega)).symm)
                | exact push false (by unfold zcmp; rw [if_neg (mt q0.mpr h185), if_neg (mt q1.mpr h206)]; exact (decide_eq_false (by have := c2.mp h228; omega)).symm)
                | exact push true (by unfold zcmp; rw [if_neg (mt q0.mpr h185), if_neg (mt q1.mpr h206)]; exact (decide_eq_true (by have := mt c2.mpr h228; omega)).symm)
                | exact push false (by unfold zcmp; rw [if_neg (mt q0.mpr h185), if_pos (q1.mp h206)]; exact (decide_eq_false (mt c1.mpr h213)).symm)
                | exact push true (by unfold zcmp; rw [if_neg (mt q0.mpr h185), if_pos (q1.mp h206)]; exact (decide_eq_true (c1.mp h213)).symm)
            · skip
              refine Z_iconst (v := 1) dX12_canOn_195 (by decide) ?_
              refine Z_goto (tgt := 236) dX12_canOn_196 (by decide) ?_
              first
                | exact push false (by unfold zcmp; rw [if_pos (q0.mp h185)]; exact (decide_eq_false (by have := c0.mp h192; omega)).symm)
                | exact push true (by unfold zcmp; rw [if_pos (q0.mp h185)]; exact (decide_eq_true (by have := mt c0.mpr h192; omega)).symm)
                | exact push false (by unfold zcmp; rw [if_neg (mt q0.mpr h185), if_neg (mt q1.mpr h206)]; exact (decide_eq_false (by have := c2.mp h228; omega)).symm)
                | exact push true (by unfold zcmp; rw [if_neg (mt q0.mpr h185), if_neg (mt q1.mpr h206)]; exact (decide_eq_true (by have := mt c2.mpr h228; omega)).symm)
                | exact push false (by unfold zcmp; rw [if_neg (mt q0.mpr h185), if_pos (q1.mp h206)]; exact (decide_eq_false (mt c1.mpr h213)).symm)
                | exact push true (by unfold zcmp; rw [if_neg (mt q0.mpr h185), if_pos (q1.mp h206)]; exact (decide_eq_true (c1.mp h213)).symm)
end MC1
