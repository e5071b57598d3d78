section CF1
variable {G : ZG} {d : Nat} {α β : AH} {post : Option Value → AH → Prop} {τ : Nat → Nat} {N p o c m : Nat} {f : Nat → Int32} {cl : List ZCl}
theorem RS_me (h2 : hI α 17 2 = nI p) (h4 : hI α 17 4 = nI c) : RS α (hI α 19) p c = α := by
  refine congrArg (fun z => ((α.1, α.2.1, z, α.2.2.2.1, α.2.2.2.2) : AH)) ?_
  funext k j
  show (if k = 17 then (fun j => if j = 2 then nI p else if j = 4 then nI c else hI α 17 j) else if k = 19 then hI α 19 else hI α k) j = hI α k j
  by_cases hk : k = 17
  · subst hk
    rw [if_pos rfl]
    by_cases hj : j = 2
    · subst hj; rw [h2]; rfl
    · by_cases hj4 : j = 4
      · subst hj4; rw [h4]; rfl
      · simp [hj, hj4]
  · rw [if_neg hk]
    by_cases hk9 : k = 19
    · subst hk9; rfl
    · rw [if_neg hk9]
/-- only the reader is written -/
def frR (α β : AH) : Prop := hN β = hN α ∧ hS β = hS α ∧ (∀ k, ¬ (17 ≤ k ∧ k ≤ 22) → hI β k = hI α k ∧ hJ β k = hJ α k ∧ hP β k = hP α k) ∧ ∀ k j, ¬ (k = 17 ∧ j = 0) → hP β k j = hP α k j
theorem frR.rf : frR α α := ⟨rfl, rfl, fun _ _ => ⟨rfl, rfl, rfl⟩, fun _ _ _ => rfl⟩
theorem frR.pI {k j : Nat} {x : Int32} (h : frR α β) (hk : 17 ≤ k ∧ k ≤ 22) : frR α (sI β k j x) := ⟨h.1, h.2.1, fun i hi => ⟨(sI_ne (fun e => hi (by rw [e]; exact hk))).trans (h.2.2.1 i hi).1, (h.2.2.1 i hi).2⟩, h.2.2.2⟩
theorem frR.pR {k : Nat} {g : Nat → Int32} (h : frR α β) (hk : 17 ≤ k ∧ k ≤ 22) : frR α (sIr β k g) := ⟨h.1, h.2.1, fun i hi => ⟨(u1_n (fun e => hi (by rw [e]; exact hk))).trans (h.2.2.1 i hi).1, (h.2.2.1 i hi).2⟩, h.2.2.2⟩
theorem frR.tp {x : Option Nat} : frR α (sP α 17 0 x) := ⟨rfl, rfl, fun i hi => ⟨rfl, rfl, u2_row (fun e => hi (by omega))⟩, fun k j hj => by rw [hP_sP, if_neg hj]⟩
theorem frR.rs (h : frR α β) : frR α (RS β f p c) := ⟨h.1, h.2.1, fun i hi => ⟨by
  have e : hI (RS β f p c) i = hI β i := by
    show (if i = 17 then (fun j => if j = 2 then nI p else if j = 4 then nI c else hI β 17 j) else if i = 19 then f else hI β i) = hI β i
    rw [if_neg (by omega), if_neg (by omega)]
  exact e.trans (h.2.2.1 i hi).1, (h.2.2.1 i hi).2⟩, h.2.2.2⟩
theorem frR.cc (h : frR α β) : frC α β := ⟨Nat.le_of_eq h.1.symm, fun k _ hz => by
  obtain ⟨h1, h2, h3⟩ := h.2.2.1 k (fun q => by unfold mId fz at hz; omega)
  exact ⟨by rw [h.2.1], h1, h2, h3⟩⟩
theorem frR.cw (h : frR α β) (hw : CW α) : CW β := by
  refine ⟨fun q hq => ⟨by rw [h.1]; exact (hw.1 q hq).1, by rw [h.2.1]; exact (hw.1 q hq).2⟩, fun q hq => ?_⟩
  have : ∀ q ∈ zCp, ¬ (q.1 = 17 ∧ q.2.1 = 0) := by decide
  rw [h.2.2.2 q.1 q.2.1 (this q hq)]
  exact hw.2 q hq
theorem CRel.rd {Γ : Nat → VC} {A : ZA} (h : CRel Γ A α) (hf : frR α β) : CRel Γ A β := by
  obtain ⟨k1, k2, k3, k4, k5, k6, k7, k8⟩ := h
  have hz := hf.cc.z
  have hs : ∀ k, ¬ (17 ≤ k ∧ k ≤ 22) → hI β k = hI α k ∧ hP β k = hP α k := fun k hk => ⟨(hf.2.2.1 k hk).1, (hf.2.2.1 k hk).2.2⟩
  refine ⟨hf.cw k1, by rw [hf.1]; exact k2, k3, k4.fr hz (fun k _ b => hs k (by omega)), k5.fr hz (fun k _ b => hs k (by omega)) (by rw [(hs 0 (by omega)).1]), ?_, k7.fr hz (fun k b => (hs k (by omega)).1) (hs 23 (by omega)).2, k8.fr hz (fun k b => (hs k (by omega)).1) (hs 28 (by omega)).2⟩
  unfold cTr
  rw [(hs 33 (by omega)).1]
  exact k6
theorem gD_l {T : Type} {l1 l2 : List T} {j : Nat} {x : T} (h : j < l1.length) : (l1 ++ l2).getD j x = l1.getD j x := by
  rw [List.getD_eq_getElem?_getD, List.getD_eq_getElem?_getD, List.getElem?_append_left h]
theorem gD_r {T : Type} {l1 l2 : List T} {j : Nat} {x : T} (h : l1.length ≤ j) : (l1 ++ l2).getD j x = l2.getD (j - l1.length) x := by
  rw [List.getD_eq_getElem?_getD, List.getD_eq_getElem?_getD, List.getElem?_append_right h]
def cans (cl : List ZCl) : List (Nat × List ZOp) := (cl.filter (fun q => decide (q.1 = 2))).map (fun q => (q.2.1, q.2.2.2))
theorem cans_2 {q : ZCl} (h : q.1 = 2) : cans (cl ++ [q]) = cans cl ++ [(q.2.1, q.2.2.2)] := by
  unfold cans; rw [List.filter_append, List.map_append]; simp [h]
theorem cans_n {q : ZCl} (h : q.1 ≠ 2) : cans (cl ++ [q]) = cans cl := by
  unfold cans; rw [List.filter_append, List.map_append]; simp [h]
theorem cans_le : (cans cl).length ≤ cl.length := by
  unfold cans; rw [List.length_map]; exact List.length_filter_le _ _
theorem vCode_snoc {a : List (Nat × List ZOp)} {x : Nat × List ZOp} : vCode (a ++ [x]) = vCode a ++ x.2 := by
  unfold vCode; rw [List.flatMap_append, List.flatMap_cons, List.flatMap_nil, List.append_nil]
theorem pCl_nil : (pCl τ N p).2.2.1 ≠ 2 → (pCl τ N p).2.2.2.2.2 = [] := by
  unfold pCl
  split
  · split
    · split <;> exact fun _ => rfl
    · split
      · split
        · exact fun z => absurd rfl z
        · exact fun _ => rfl
      · exact fun _ => rfl
  · split
    · split
      · split <;> exact fun _ => rfl
      · exact fun _ => rfl
    · exact fun _ => rfl
theorem pCl_e (hp : p ≤ N) (h : (pCl τ N p).1 = true) : (pCl τ N p).2.2.2.2.2.length + p ≤ (pCl τ N p).2.1 := by
  have hk := pCl_ok (τ := τ) hp
  by_cases h2 : (pCl τ N p).2.2.1 = 2
  · have := (hk.2.2.1 h).2.2
    unfold vOp1 at this
    rw [if_pos h2, List.length_append, List.length_map] at this
    have e : [-10 - nI (pCl τ N p).2.2.2.1].length = 1 := rfl
    omega
  · rw [pCl_nil h2]
    show 0 + p ≤ _
    omega
/-- what the reader holds after some clauses -/
def KR (β : AH) (f : Nat → Int32) (c : Nat) (cl : List ZCl) : Prop := hI β 17 7 = nI (cans cl).length ∧ c = (vCode (cans cl)).length ∧ (∀ j, j < c → f j = vEnc ((vCode (cans cl)).getD j (0, 0, 0))) ∧ (∀ j, j < (cans cl).length → hI β 20 j = nI ((cans cl).getD j (0, [])).1 ∧ hI β 21 j = nI (vEnd (cans cl) (j + 1))) ∧ (∀ j, j < 3 → hI β 22 j = nI (vPay cl j)) ∧ hI β 17 9 = nI (vCov cl) ∧ ∀ q ∈ cl, clWo q
theorem KR.step {q : ZCl} (h : KR β f c cl) (hq : clWo q) (hnil : q.1 ≠ 2 → q.2.2.2 = []) : KR (kCl β (cans cl).length (c + q.2.2.2.length) q) (fem f c (q.2.2.2.map vEnc)) (c + q.2.2.2.length) (cl ++ [q]) := by
  obtain ⟨k1, k2, k3, k4, k5, k6, k7⟩ := h
  have k7 : ∀ q' ∈ cl ++ [q], clWo q' := fun q' hq' => by
    rcases List.mem_append.mp hq' with z | z
    · exact k7 q' z
    · rw [List.mem_singleton.mp z]; exact hq
  rcases hq.1 with h0 | h0 | h0
  · have n2 : q.1 ≠ 2 := by omega
    rw [hnil n2]
    have e : kCl β (cans cl).length (c + ([] : List ZOp).length) q = sI β 22 q.2.1 (nI q.2.2.1) := if_pos h0.1
    rw [e]
    refine ⟨?_, ?_, ?_, ?_, ?_, ?_, k7⟩
    · rw [cans_n n2, sI_ne (by omega)]; exact k1
    · rw [cans_n n2]; exact k2
    · rw [cans_n n2]; exact k3
    · rw [cans_n n2, sI_ne (by omega), sI_ne (by omega)]; exact k4
    · intro j hj
      rw [hI_sI, vPay_app]
      by_cases e : j = q.2.1
      · rw [if_pos ⟨rfl, e⟩, if_pos ⟨h0.1, e.symm⟩]
      · rw [if_neg (fun z => e z.2), if_neg (fun z => e z.2.symm)]; exact k5 j hj
    · rw [sI_ne (by omega), vCov_app, if_neg (by omega)]; exact k6
  · have n2 : q.1 ≠ 2 := by omega
    rw [hnil n2]
    have e : kCl β (cans cl).length (c + ([] : List ZOp).length) q = sI β 17 9 (nI q.2.2.1) := (if_neg (by omega)).trans (if_pos h0.1)
    rw [e]
    refine ⟨?_, ?_, ?_, ?_, ?_, ?_, k7⟩
    · rw [cans_n n2, hI_sI, if_neg (by omega)]; exact k1
    · rw [cans_n n2]; exact k2
    · rw [cans_n n2]; exact k3
    · rw [cans_n n2, sI_ne (by omega), sI_ne (by omega)]; exact k4
    · intro j hj
      rw [sI_ne (by omega), vPay_app, if_neg (by omega)]; exact k5 j hj
    · rw [hI_sI, if_pos ⟨rfl, rfl⟩, vCov_app, if_pos h0.1]
  · have e : kCl β (cans cl).length (c + q.2.2.2.length) q = sI (sI (sI β 20 (cans cl).length (nI q.2.1)) 21 (cans cl).length (nI (c + q.2.2.2.length))) 17 7 (nI ((cans cl).length + 1)) := (if_neg (by omega)).trans (if_neg (by omega))
    rw [e]
    have ec := cans_2 (cl := cl) h0.1
    have ecd : vCode (cans (cl ++ [q])) = vCode (cans cl) ++ q.2.2.2 := by rw [ec, vCode_snoc]
    refine ⟨?_, ?_, ?_, ?_, ?_, ?_, k7⟩
    · rw [hI_sI, if_pos ⟨rfl, rfl⟩, ec, List.length_append]; rfl
    · rw [ecd, List.length_append, ← k2]
    · intro j hj
      rw [ecd]
      by_cases hjc : j < c
      · rw [fem_lo _ _ _ _ hjc, k3 j hjc, gD_l (by omega)]
      · obtain ⟨i, rfl⟩ := Nat.exists_eq_add_of_le (Nat.le_of_not_lt hjc)
        rw [fem_in _ _ _ _ (by rw [List.length_map]; omega), gD_r (by omega), ← k2, Nat.add_sub_cancel_left]
        rw [List.getD_eq_getElem?_getD, List.getD_eq_getElem?_getD, List.getElem?_map]
        rw [List.getElem?_eq_getElem (by omega)]
        rfl
    · intro j hj
      rw [ec, List.length_append] at hj
      have hj : j < (cans cl).length + 1 := hj
      have e20 : hI (sI (sI (sI β 20 (cans cl).length (nI q.2.1)) 21 (cans cl).length (nI (c + q.2.2.2.length))) 17 7 (nI ((cans cl).length + 1))) 20 j = if 20 = 20 ∧ j = (cans cl).length then nI q.2.1 else hI β 20 j := by
        rw [sI_ne (by omega), sI_ne (by omega), hI_sI]
      have e21 : hI (sI (sI (sI β 20 (cans cl).length (nI q.2.1)) 21 (cans cl).length (nI (c + q.2.2.2.length))) 17 7 (nI ((cans cl).length + 1))) 21 j = if 21 = 21 ∧ j = (cans cl).length then nI (c + q.2.2.2.length) else hI β 21 j := by
        rw [sI_ne (by omega), hI_sI, sI_ne (by omega)]
      rw [e20, e21]
      by_cases e : j = (cans cl).length
      · rw [if_pos ⟨rfl, e⟩, if_pos ⟨rfl, e⟩]
        refine ⟨?_, ?_⟩
        · rw [ec, e, gD_r (Nat.le_refl _), Nat.sub_self]; rfl
        · unfold vEnd
          rw [e, show (cans cl).length + 1 = (cans (cl ++ [q])).length by rw [ec, List.length_append]; rfl, List.take_length, ecd, List.length_append, ← k2]
      · rw [if_neg (fun z => e z.2), if_neg (fun z => e z.2), ec]
        refine ⟨?_, ?_⟩
        · rw [gD_l (by omega)]; exact (k4 j (by omega)).1
        · unfold vEnd
          rw [List.take_append_of_le_length (by omega)]; exact (k4 j (by omega)).2
    · intro j hj
      rw [sI_ne (by omega), sI_ne (by omega), sI_ne (by omega), vPay_app, if_neg (by omega)]; exact k5 j hj
    · rw [hI_sI, if_neg (by omega), sI_ne (by omega), sI_ne (by omega), vCov_app, if_neg (by omega)]; exact k6
end CF1
