section CI4
variable {G : ZG} {d : Nat} {α β γ : AH} {post : Option Value → AH → Prop}
def frO (α β : AH) : Prop := hN α ≤ hN β ∧ ∀ k, k ≠ 0 → k < hN α → same4 α β k
theorem frE.o (h : frE α β) : frO α β := ⟨h.1, fun k _ hk => h.2 k hk⟩
theorem frO.tr (h : frO α β) (h' : frO β γ) : frO α γ := ⟨Nat.le_trans h.1 h'.1, fun k h0 hk => (h.2 k h0 hk).tr (h'.2 k h0 (Nat.lt_of_lt_of_le hk h.1))⟩
theorem frO.root {j : Nat} {x : Option Nat} : frO α (sP α 0 j x) := ⟨Nat.le_refl _, fun k h0 _ => ⟨rfl, rfl, rfl, u2_row h0⟩⟩
theorem frO.is {k : Nat} {sh : Nat × Nat} (h : frO α β) (h0 : k ≠ 0) (hz : zIs α k sh) : zIs β k sh := ⟨Nat.lt_of_lt_of_le hz.1 h.1, (h.2 k h0 hz.1).1.trans hz.2⟩
theorem frO.p {k j : Nat} {x : Option Nat} {sh : Nat × Nat} (h : frO α β) (h0 : k ≠ 0) (hz : zIs α k sh) (hp : hP α k j = x) : hP β k j = x := by rw [(h.2 k h0 hz.1).2.2.2]; exact hp
theorem frO.i {k : Nat} {f : Nat → Int32} {sh : Nat × Nat} (h : frO α β) (h0 : k ≠ 0) (hz : zIs α k sh) (hp : hI α k = f) : hI β k = f := by rw [(h.2 k h0 hz.1).2.1]; exact hp
def zΓ0 : Nat → VC := fun _ => ([], fun _ => 1, 0)
/-- all of CRel but how many cells there are -/
def CI0 (ω : AH) : Prop := CW ω ∧ cSea ω zΓ0 5 zA0.1 ∧ cImg ω zΓ0 zA0 ∧ cTr ω zA0.2.2.1 ∧ cMem ω zΓ0 23 ∧ cMem ω zΓ0 28
theorem CI0.rel (h : CI0 α) (hN34 : hN α = 34) (hN52 : 52 ≤ hN β) (hb : SB zA0.1.1) (hs : ∀ k, k < 34 → same4 α β k) : CRel zΓ0 zA0 β := by
  obtain ⟨k1, k2, k3, k4, k5, k6⟩ := h
  have hz : frZ α β := ⟨by omega, fun k hk _ => hs k (by omega)⟩
  have hq : ∀ k, k < 34 → hI β k = hI α k ∧ hP β k = hP α k := fun k hk => ⟨(hs k hk).2.1, (hs k hk).2.2.2⟩
  have cw : CW β := by
    have c1 : ∀ q ∈ zCo, q.1 < 34 := by decide
    have c2 : ∀ q ∈ zCp, q.1 < 34 := by decide
    refine ⟨fun q hq' => ⟨by have := c1 q hq'; omega, (hs q.1 (c1 q hq')).1.trans (k1.1 q hq').2⟩, fun q hq' => ?_⟩
    rw [(hq q.1 (c2 q hq')).2]; exact k1.2 q hq'
  refine ⟨cw, hN52, hb, k2.fr hz (fun k _ b => hq k (by omega)), k3.fr hz (fun k _ b => hq k (by omega)) (by rw [(hq 0 (by omega)).1]), ?_, k5.fr hz (fun k b => (hq k (by omega)).1) (hq 23 (by omega)).2, k6.fr hz (fun k b => (hq k (by omega)).1) (hq 28 (by omega)).2⟩
  unfold cTr
  rw [(hq 33 (by omega)).1]
  exact k4
theorem ci0_mk {ω : AH} (i0 : zIs ω 0 (15, 7)) (i4 : zIs ω 4 (0, 5832)) (i5 : zIs ω 5 (9, 12)) (i6 : zIs ω 6 (0, 3)) (i7 : zIs ω 7 (0, 3)) (i8 : zIs ω 8 (0, 100)) (i9 : zIs ω 9 (3, 8)) (i10 : zIs ω 10 (0, 12)) (i11 : zIs ω 11 (9, 12)) (i12 : zIs ω 12 (0, 3)) (i13 : zIs ω 13 (0, 3)) (i14 : zIs ω 14 (0, 100)) (i15 : zIs ω 15 (3, 8)) (i16 : zIs ω 16 (0, 12)) (i17 : zIs ω 17 (8, 10)) (i19 : zIs ω 19 (0, 100)) (i20 : zIs ω 20 (0, 10)) (i21 : zIs ω 21 (0, 10)) (i22 : zIs ω 22 (0, 3)) (i23 : zIs ω 23 (4, 10)) (i24 : zIs ω 24 (0, 3)) (i25 : zIs ω 25 (0, 270)) (i26 : zIs ω 26 (0, 5)) (i27 : zIs ω 27 (0, 5832)) (i28 : zIs ω 28 (4, 10)) (i29 : zIs ω 29 (0, 3)) (i30 : zIs ω 30 (0, 270)) (i31 : zIs ω 31 (0, 5)) (i32 : zIs ω 32 (0, 5832)) (i33 : zIs ω 33 (0, 21)) (p0_0 : hP ω 0 0 = some 5) (p0_1 : hP ω 0 1 = some 11) (p0_3 : hP ω 0 3 = some 17) (p0_4 : hP ω 0 4 = some 23) (p0_5 : hP ω 0 5 = some 28) (p0_6 : hP ω 0 6 = some 33) (p5_0 : hP ω 5 0 = some 6) (p5_1 : hP ω 5 1 = some 7) (p5_4 : hP ω 5 4 = some 8) (p5_8 : hP ω 5 8 = some 9) (p5_10 : hP ω 5 10 = some 10) (p11_0 : hP ω 11 0 = some 12) (p11_1 : hP ω 11 1 = some 13) (p11_4 : hP ω 11 4 = some 14) (p11_8 : hP ω 11 8 = some 15) (p11_10 : hP ω 11 10 = some 16) (p17_3 : hP ω 17 3 = some 19) (p17_5 : hP ω 17 5 = some 20) (p17_6 : hP ω 17 6 = some 21) (p17_8 : hP ω 17 8 = some 22) (p23_0 : hP ω 23 0 = some 24) (p23_6 : hP ω 23 6 = some 25) (p23_7 : hP ω 23 7 = some 26) (p23_8 : hP ω 23 8 = some 27) (p23_9 : hP ω 23 9 = some 4) (p28_0 : hP ω 28 0 = some 29) (p28_6 : hP ω 28 6 = some 30) (p28_7 : hP ω 28 7 = some 31) (p28_8 : hP ω 28 8 = some 32) (p28_9 : hP ω 28 9 = some 4) (i1 : zIs ω 1 (0, 0)) (i2 : zIs ω 2 (12, 5)) (i3 : zIs ω 3 (0, 3)) (v2 : hP ω 2 0 = some 1 ∧ hP ω 2 1 = some 1 ∧ hP ω 2 2 = some 1 ∧ hP ω 2 3 = some 3 ∧ hI ω 2 4 = 0) (v3 : ∀ j, j < 3 → hI ω 3 j = 1) (x0 : hI ω 0 2 = 0) (p5_6 : hP ω 5 6 = some 2) (x5 : hI ω 5 = fun _ => 0) (x6 : hI ω 6 = fun _ => 0) (x7 : hI ω 7 = fun _ => 0) (x8 : hI ω 8 = fun _ => 0) (x10 : hI ω 10 = fun _ => 0) (p9 : hP ω 9 = fun _ => none) (p23_3 : hP ω 23 3 = some 2) (x23 : hI ω 23 2 = -1) (p28_3 : hP ω 28 3 = some 2) (x28 : hI ω 28 2 = -1) (x33 : hI ω 33 0 = 0) : CI0 ω := by
  have hv : vObj ω 2 ([], fun _ => 1, 0) := by
    refine ⟨⟨fun c hc => absurd hc List.not_mem_nil, Nat.zero_le _, Nat.zero_le _, fun j _ => by show 1 ≤ 99; omega, Nat.zero_le _⟩, 1, 1, 1, 3, ⟨Or.inl (by omega), Or.inl (by omega), Or.inl (by omega), Or.inl (by omega), Or.inl (by omega)⟩, i2, ⟨v2.1, v2.2.1, v2.2.2.1, v2.2.2.2.1⟩, ⟨i1, i1, i1, i3⟩, fun j hj => absurd hj (Nat.not_lt_zero j), fun j hj => absurd hj (Nat.not_lt_zero j), v3, v2.2.2.2.2⟩
  refine ⟨⟨fun q hq => ?_, fun q hq => ?_⟩, ⟨⟨fun j hj => ?_, fun j hj => ?_, fun j hj => ?_, fun j hj => ?_⟩, ⟨?_, ?_, ?_, ?_, ?_, ?_⟩, ⟨2, p5_6, hv, ?_, fun k hk => rfl, rfl⟩, fun w hw c hc => ?_, fun w hw => absurd hw (Nat.not_lt_zero w)⟩, x0, ⟨Nat.zero_le _, x33, fun i hi => absurd hi (Nat.not_lt_zero i)⟩, ⟨2, p23_3, hv, Or.inl x23⟩, ⟨2, p28_3, hv, Or.inl x28⟩⟩
  · simp only [zCo, List.mem_cons, List.not_mem_nil, or_false] at hq
    rcases hq with rfl | rfl | rfl | rfl | rfl | rfl | rfl | rfl | rfl | rfl | rfl | rfl | rfl | rfl | rfl | rfl | rfl | rfl | rfl | rfl | rfl | rfl | rfl | rfl | rfl | rfl | rfl | rfl | rfl | rfl
    · exact i0
    · exact i4
    · exact i5
    · exact i6
    · exact i7
    · exact i8
    · exact i9
    · exact i10
    · exact i11
    · exact i12
    · exact i13
    · exact i14
    · exact i15
    · exact i16
    · exact i17
    · exact i19
    · exact i20
    · exact i21
    · exact i22
    · exact i23
    · exact i24
    · exact i25
    · exact i26
    · exact i27
    · exact i28
    · exact i29
    · exact i30
    · exact i31
    · exact i32
    · exact i33
  · simp only [zCp, List.mem_cons, List.not_mem_nil, or_false] at hq
    rcases hq with rfl | rfl | rfl | rfl | rfl | rfl | rfl | rfl | rfl | rfl | rfl | rfl | rfl | rfl | rfl | rfl | rfl | rfl | rfl | rfl | rfl | rfl | rfl | rfl | rfl | rfl | rfl | rfl | rfl | rfl
    · exact p0_0
    · exact p0_1
    · exact p0_3
    · exact p0_4
    · exact p0_5
    · exact p0_6
    · exact p5_0
    · exact p5_1
    · exact p5_4
    · exact p5_8
    · exact p5_10
    · exact p11_0
    · exact p11_1
    · exact p11_4
    · exact p11_8
    · exact p11_10
    · exact p17_3
    · exact p17_5
    · exact p17_6
    · exact p17_8
    · exact p23_0
    · exact p23_6
    · exact p23_7
    · exact p23_8
    · exact p23_9
    · exact p28_0
    · exact p28_6
    · exact p28_7
    · exact p28_8
    · exact p28_9
  · rw [x6]; show (0 : Int32) = nI (if 128 ≤ 6 + j ∧ 6 + j < 152 then 3 else 0); rw [if_neg (by omega)]; rfl
  · rw [x7]; show (0 : Int32) = nI (if 128 ≤ 164 + j ∧ 164 + j < 152 then 3 else 0); rw [if_neg (by omega)]; rfl
  · rw [x8]; show (0 : Int32) = nI (if 128 ≤ 12 + j ∧ 12 + j < 152 then 3 else 0); rw [if_neg (by omega)]; rfl
  · rw [x10]; show (0 : Int32) = nI (if 128 ≤ 152 + j ∧ 152 + j < 152 then 3 else 0); rw [if_neg (by omega)]; rfl
  · rw [x5]; rfl
  · rw [x5]; rfl
  · rw [x5]; rfl
  · rw [x5]; rfl
  · rw [x5]; rfl
  · rw [x5]; rfl
  · rfl
  · have hc : hP ω 9 w = some c := hc
    rw [p9] at hc; cases hc

theorem hP0 {j k : Nat} {x : Option Nat} (h : k ≠ j) : hP (sP α 0 j x) 0 k = hP α 0 k := by rw [hP_sP, if_neg (fun z => h z.2)]
theorem hP1 {j : Nat} {x : Option Nat} : hP (sP α 0 j x) 0 j = x := by rw [hP_sP, if_pos ⟨rfl, rfl⟩]
theorem cin_fin {S β5 β11 β17 β23 β28 : AH} (hS5 : hN S = 5) (s0 : zIs S 0 (15, 7)) (s1 : zIs S 1 (0, 0)) (s2 : zIs S 2 (12, 5)) (s3 : zIs S 3 (0, 3)) (s4 : zIs S 4 (0, 5832)) (w2 : hP S 2 0 = some 1 ∧ hP S 2 1 = some 1 ∧ hP S 2 2 = some 1 ∧ hP S 2 3 = some 3 ∧ hI S 2 4 = 0) (w3 : ∀ j, j < 3 → hI S 3 j = 1) (s02 : hI S 0 2 = 0)
    (f5 : frE S β5) (e5 : hN β5 = 11) (h5 : zIs β5 5 (9, 12) ∧ zIs β5 6 (0, 3) ∧ zIs β5 7 (0, 3) ∧ zIs β5 8 (0, 100) ∧ zIs β5 9 (3, 8) ∧ zIs β5 10 (0, 12) ∧ hP β5 5 0 = some 6 ∧ hP β5 5 1 = some 7 ∧ hP β5 5 4 = some 8 ∧ hP β5 5 8 = some 9 ∧ hP β5 5 10 = some 10 ∧ hP β5 5 6 = some 2 ∧ (hI β5 6 = fun _ => 0) ∧ (hI β5 7 = fun _ => 0) ∧ (hI β5 8 = fun _ => 0) ∧ (hI β5 9 = fun _ => 0) ∧ (hI β5 10 = fun _ => 0) ∧ (hI β5 5 = fun _ => 0) ∧ (hP β5 9 = fun _ => none)) (f11 : frE (sP β5 0 0 (some 5)) β11) (e11 : hN β11 = 17) (h11 : zIs β11 11 (9, 12) ∧ zIs β11 12 (0, 3) ∧ zIs β11 13 (0, 3) ∧ zIs β11 14 (0, 100) ∧ zIs β11 15 (3, 8) ∧ zIs β11 16 (0, 12) ∧ hP β11 11 0 = some 12 ∧ hP β11 11 1 = some 13 ∧ hP β11 11 4 = some 14 ∧ hP β11 11 8 = some 15 ∧ hP β11 11 10 = some 16 ∧ hP β11 11 6 = some 2 ∧ (hI β11 12 = fun _ => 0) ∧ (hI β11 13 = fun _ => 0) ∧ (hI β11 14 = fun _ => 0) ∧ (hI β11 15 = fun _ => 0) ∧ (hI β11 16 = fun _ => 0) ∧ (hI β11 11 = fun _ => 0) ∧ (hP β11 15 = fun _ => none)) (f17 : frE (sP β11 0 1 (some 11)) β17) (e17 : hN β17 = 23) (h17 : zIs β17 17 (8, 10) ∧ zIs β17 18 (0, 0) ∧ zIs β17 19 (0, 100) ∧ zIs β17 20 (0, 10) ∧ zIs β17 21 (0, 10) ∧ zIs β17 22 (0, 3) ∧ hP β17 17 0 = some 18 ∧ hP β17 17 3 = some 19 ∧ hP β17 17 5 = some 20 ∧ hP β17 17 6 = some 21 ∧ hP β17 17 8 = some 22 ∧ (hI β17 18 = fun _ => 0) ∧ (hI β17 19 = fun _ => 0) ∧ (hI β17 20 = fun _ => 0) ∧ (hI β17 21 = fun _ => 0) ∧ (hI β17 22 = fun _ => 0)) (f23 : frE (sP β17 0 3 (some 17)) β23) (e23 : hN β23 = 28) (h23 : zIs β23 23 (4, 10) ∧ zIs β23 24 (0, 3) ∧ zIs β23 25 (0, 270) ∧ zIs β23 26 (0, 5) ∧ zIs β23 27 (0, 5832) ∧ hP β23 23 0 = some 24 ∧ hP β23 23 6 = some 25 ∧ hP β23 23 7 = some 26 ∧ hP β23 23 8 = some 27 ∧ hP β23 23 3 = some 2 ∧ hP β23 23 9 = some 4 ∧ (hI β23 24 = fun _ => 0) ∧ (hI β23 25 = fun _ => 0) ∧ (hI β23 26 = fun _ => 0) ∧ (hI β23 27 = fun _ => 0) ∧ hI β23 23 2 = -1) (f28 : frE (sP β23 0 4 (some 23)) β28) (e28 : hN β28 = 33) (h28 : zIs β28 28 (4, 10) ∧ zIs β28 29 (0, 3) ∧ zIs β28 30 (0, 270) ∧ zIs β28 31 (0, 5) ∧ zIs β28 32 (0, 5832) ∧ hP β28 28 0 = some 29 ∧ hP β28 28 6 = some 30 ∧ hP β28 28 7 = some 31 ∧ hP β28 28 8 = some 32 ∧ hP β28 28 3 = some 2 ∧ hP β28 28 9 = some 4 ∧ (hI β28 29 = fun _ => 0) ∧ (hI β28 30 = fun _ => 0) ∧ (hI β28 31 = fun _ => 0) ∧ (hI β28 32 = fun _ => 0) ∧ hI β28 28 2 = -1) : CI0 (sP (nw (sP β28 0 5 (some 28)) (0, 21) (fun _ => 0)) 0 6 (some 33)) := by
  obtain ⟨z5_0, z5_1, z5_2, z5_3, z5_4, z5_5, q5_0, q5_1, q5_4, q5_8, q5_10, q5_6, y5_1, y5_2, y5_3, y5_4, y5_5, y5_0, n5⟩ := h5
  obtain ⟨z11_0, z11_1, z11_2, z11_3, z11_4, z11_5, q11_0, q11_1, q11_4, q11_8, q11_10, q11_6, y11_1, y11_2, y11_3, y11_4, y11_5, y11_0, n11⟩ := h11
  obtain ⟨z17_0, z17_1, z17_2, z17_3, z17_4, z17_5, q17_0, q17_3, q17_5, q17_6, q17_8, y17_1, y17_2, y17_3, y17_4, y17_5⟩ := h17
  obtain ⟨z23_0, z23_1, z23_2, z23_3, z23_4, q23_0, q23_6, q23_7, q23_8, q23_3, q23_9, y23_1, y23_2, y23_3, y23_4, y23_0⟩ := h23
  obtain ⟨z28_0, z28_1, z28_2, z28_3, z28_4, q28_0, q28_6, q28_7, q28_8, q28_3, q28_9, y28_1, y28_2, y28_3, y28_4, y28_0⟩ := h28
  have l28 : 0 < hN (sP β28 0 5 (some 28)) := by show 0 < hN β28; omega
  have l23 : 0 < hN (sP β23 0 4 (some 23)) := by show 0 < hN β23; omega
  have l17 : 0 < hN (sP β17 0 3 (some 17)) := by show 0 < hN β17; omega
  have l11 : 0 < hN (sP β11 0 1 (some 11)) := by show 0 < hN β11; omega
  have l5 : 0 < hN (sP β5 0 0 (some 5)) := by show 0 < hN β5; omega
  have fw : frE (sP β28 0 5 (some 28)) (nw (sP β28 0 5 (some 28)) (0, 21) (fun _ => 0)) := frE.new
  have R28 : ∀ j, 6 ≠ j → hP (sP (nw (sP β28 0 5 (some 28)) (0, 21) (fun _ => 0)) 0 6 (some 33)) 0 j = hP (sP β28 0 5 (some 28)) 0 j := fun j hj => (hP0 (Ne.symm hj)).trans (congrFun (fw.2 0 l28).2.2.2 j)
  have R23 : ∀ j, 5 ≠ j → hP (sP β28 0 5 (some 28)) 0 j = hP (sP β23 0 4 (some 23)) 0 j := fun j hj => (hP0 (Ne.symm hj)).trans (congrFun (f28.2 0 l23).2.2.2 j)
  have R17 : ∀ j, 4 ≠ j → hP (sP β23 0 4 (some 23)) 0 j = hP (sP β17 0 3 (some 17)) 0 j := fun j hj => (hP0 (Ne.symm hj)).trans (congrFun (f23.2 0 l17).2.2.2 j)
  have R11 : ∀ j, 3 ≠ j → hP (sP β17 0 3 (some 17)) 0 j = hP (sP β11 0 1 (some 11)) 0 j := fun j hj => (hP0 (Ne.symm hj)).trans (congrFun (f17.2 0 l11).2.2.2 j)
  have R5 : ∀ j, 1 ≠ j → hP (sP β11 0 1 (some 11)) 0 j = hP (sP β5 0 0 (some 5)) 0 j := fun j hj => (hP0 (Ne.symm hj)).trans (congrFun (f11.2 0 l5).2.2.2 j)
  have r6 : hP (sP (nw (sP β28 0 5 (some 28)) (0, 21) (fun _ => 0)) 0 6 (some 33)) 0 6 = some 33 := hP1
  have r5 : hP (sP (nw (sP β28 0 5 (some 28)) (0, 21) (fun _ => 0)) 0 6 (some 33)) 0 5 = some 28 := (R28 5 (by omega)).trans hP1
  have r4 : hP (sP (nw (sP β28 0 5 (some 28)) (0, 21) (fun _ => 0)) 0 6 (some 33)) 0 4 = some 23 := (R28 4 (by omega)).trans ((R23 4 (by omega)).trans hP1)
  have r3 : hP (sP (nw (sP β28 0 5 (some 28)) (0, 21) (fun _ => 0)) 0 6 (some 33)) 0 3 = some 17 := (R28 3 (by omega)).trans ((R23 3 (by omega)).trans ((R17 3 (by omega)).trans hP1))
  have r1 : hP (sP (nw (sP β28 0 5 (some 28)) (0, 21) (fun _ => 0)) 0 6 (some 33)) 0 1 = some 11 := (R28 1 (by omega)).trans ((R23 1 (by omega)).trans ((R17 1 (by omega)).trans ((R11 1 (by omega)).trans hP1)))
  have r0 : hP (sP (nw (sP β28 0 5 (some 28)) (0, 21) (fun _ => 0)) 0 6 (some 33)) 0 0 = some 5 := (R28 0 (by omega)).trans ((R23 0 (by omega)).trans ((R17 0 (by omega)).trans ((R11 0 (by omega)).trans ((R5 0 (by omega)).trans hP1))))
  have x0 : hI (sP (nw (sP β28 0 5 (some 28)) (0, 21) (fun _ => 0)) 0 6 (some 33)) 0 2 = 0 := (congrFun (fw.2 0 l28).2.1 2).trans ((congrFun (f28.2 0 l23).2.1 2).trans ((congrFun (f23.2 0 l17).2.1 2).trans ((congrFun (f17.2 0 l11).2.1 2).trans ((congrFun (f11.2 0 l5).2.1 2).trans ((congrFun (f5.2 0 s0.1).2.1 2).trans s02)))))
  have i0 : zIs (sP (nw (sP β28 0 5 (some 28)) (0, 21) (fun _ => 0)) 0 6 (some 33)) 0 (15, 7) := fw.is (f28.is (f23.is (f17.is (f11.is (f5.is s0)))))
  have i33 : zIs (sP (nw (sP β28 0 5 (some 28)) (0, 21) (fun _ => 0)) 0 6 (some 33)) 33 (0, 21) := ⟨by show 33 < hN β28 + 1; omega, by show u1 (hS β28) β28.1 (0, 21) 33 = (0, 21); rw [show β28.1 = 33 from e28, u1_s]⟩
  have x33 : hI (sP (nw (sP β28 0 5 (some 28)) (0, 21) (fun _ => 0)) 0 6 (some 33)) 33 0 = 0 := by show u1 (hI β28) β28.1 (fun _ => 0) 33 0 = 0; rw [show β28.1 = 33 from e28, u1_s]
  have T28 : frO β28 (sP (nw (sP β28 0 5 (some 28)) (0, 21) (fun _ => 0)) 0 6 (some 33)) := frO.root.tr (fw.o.tr frO.root)
  have T23 : frO β23 (sP (nw (sP β28 0 5 (some 28)) (0, 21) (fun _ => 0)) 0 6 (some 33)) := (frO.root.tr f28.o).tr T28
  have T17 : frO β17 (sP (nw (sP β28 0 5 (some 28)) (0, 21) (fun _ => 0)) 0 6 (some 33)) := (frO.root.tr f23.o).tr T23
  have T11 : frO β11 (sP (nw (sP β28 0 5 (some 28)) (0, 21) (fun _ => 0)) 0 6 (some 33)) := (frO.root.tr f17.o).tr T17
  have T5 : frO β5 (sP (nw (sP β28 0 5 (some 28)) (0, 21) (fun _ => 0)) 0 6 (some 33)) := (frO.root.tr f11.o).tr T11
  have T1 : frO S (sP (nw (sP β28 0 5 (some 28)) (0, 21) (fun _ => 0)) 0 6 (some 33)) := f5.o.tr T5
  generalize (sP (nw (sP β28 0 5 (some 28)) (0, 21) (fun _ => 0)) 0 6 (some 33)) = ω at *
  exact ci0_mk i0 (T1.is (by omega) s4) (T5.is (by omega) z5_0) (T5.is (by omega) z5_1) (T5.is (by omega) z5_2) (T5.is (by omega) z5_3) (T5.is (by omega) z5_4) (T5.is (by omega) z5_5) (T11.is (by omega) z11_0) (T11.is (by omega) z11_1) (T11.is (by omega) z11_2) (T11.is (by omega) z11_3) (T11.is (by omega) z11_4) (T11.is (by omega) z11_5) (T17.is (by omega) z17_0) (T17.is (by omega) z17_2) (T17.is (by omega) z17_3) (T17.is (by omega) z17_4) (T17.is (by omega) z17_5) (T23.is (by omega) z23_0) (T23.is (by omega) z23_1) (T23.is (by omega) z23_2) (T23.is (by omega) z23_3) (T23.is (by omega) z23_4) (T28.is (by omega) z28_0) (T28.is (by omega) z28_1) (T28.is (by omega) z28_2) (T28.is (by omega) z28_3) (T28.is (by omega) z28_4) i33 r0 r1 r3 r4 r5 r6 (T5.p (by omega) z5_0 q5_0) (T5.p (by omega) z5_0 q5_1) (T5.p (by omega) z5_0 q5_4) (T5.p (by omega) z5_0 q5_8) (T5.p (by omega) z5_0 q5_10) (T11.p (by omega) z11_0 q11_0) (T11.p (by omega) z11_0 q11_1) (T11.p (by omega) z11_0 q11_4) (T11.p (by omega) z11_0 q11_8) (T11.p (by omega) z11_0 q11_10) (T17.p (by omega) z17_0 q17_3) (T17.p (by omega) z17_0 q17_5) (T17.p (by omega) z17_0 q17_6) (T17.p (by omega) z17_0 q17_8) (T23.p (by omega) z23_0 q23_0) (T23.p (by omega) z23_0 q23_6) (T23.p (by omega) z23_0 q23_7) (T23.p (by omega) z23_0 q23_8) (T23.p (by omega) z23_0 q23_9) (T28.p (by omega) z28_0 q28_0) (T28.p (by omega) z28_0 q28_6) (T28.p (by omega) z28_0 q28_7) (T28.p (by omega) z28_0 q28_8) (T28.p (by omega) z28_0 q28_9) (T1.is (by omega) s1) (T1.is (by omega) s2) (T1.is (by omega) s3) ⟨T1.p (by omega) s2 w2.1, T1.p (by omega) s2 w2.2.1, T1.p (by omega) s2 w2.2.2.1, T1.p (by omega) s2 w2.2.2.2.1, (congrFun (T1.2 2 (by omega) s2.1).2.1 4).trans w2.2.2.2.2⟩ (fun j hj => (congrFun (T1.2 3 (by omega) s3.1).2.1 j).trans (w3 j hj)) x0 (T5.p (by omega) z5_0 q5_6) (T5.i (by omega) z5_0 y5_0) (T5.i (by omega) z5_1 y5_1) (T5.i (by omega) z5_2 y5_2) (T5.i (by omega) z5_3 y5_3) (T5.i (by omega) z5_5 y5_5) ((T5.2 9 (by omega) z5_4.1).2.2.2.trans n5) (T23.p (by omega) z23_0 q23_3) ((congrFun (T23.2 23 (by omega) z23_0.1).2.1 2).trans y23_0) (T28.p (by omega) z28_0 q28_3) ((congrFun (T28.2 28 (by omega) z28_0.1).2.1 2).trans y28_0) x33
theorem cin_rest {S : AH} (hS5 : hN S = 5) (s0 : zIs S 0 (15, 7)) (s1 : zIs S 1 (0, 0)) (s2 : zIs S 2 (12, 5)) (s3 : zIs S 3 (0, 3)) (s4 : zIs S 4 (0, 5832)) (w2 : hP S 2 0 = some 1 ∧ hP S 2 1 = some 1 ∧ hP S 2 2 = some 1 ∧ hP S 2 3 = some 3 ∧ hI S 2 4 = 0) (w3 : ∀ j, j < 3 → hI S 3 j = 1) (s02 : hI S 0 2 = 0) (h : ∀ ω, hN ω = 34 → CI0 ω → post none ω) : Z G mX11_init (d + 2) 41 [some (.ref (G.1 + 0)), some (.ref (G.1 + 1)), some (.ref (G.1 + 2)), some (.ref (G.1 + 4))] [] S (4, 5840) post := by
  have fn : ∀ {β γ : AH} {k j t N : Nat} {x : Option Nat}, frE β γ → zIs β 0 (15, 7) → zIs (sP γ 0 j x) 0 (15, 7) := fun f hz => f.is hz
  have nz : ∀ {β : AH} {sh : Nat × Nat}, zIs β 0 (15, 7) → zIs (nw β sh (fun _ => 0)) 0 (15, 7) := fun hz => frE.new.is hz
  have hz := s0
  refine Z_aload_n dX11_init_41 rfl rfl ?_
  refine Z_new dX11_init_42 cl_5 nc_X11_16 cf_5 ⟨by decide, by decide⟩ ?_
  rw [hS5]
  refine Z_dup dX11_init_45 rfl ?_
  refine Z_aload_n dX11_init_46 rfl rfl ?_
  refine Z_I1 dX11_init_47 to_X5_init lk_X11_18 im_X5_init ⟨rfl, rfl⟩ (Nat.le_of_ble_eq_true rfl) ⟨by decide, by decide⟩ ?_
  refine k_sinit5 (b := 2) hS5 (fun β5 f5 e5 h5 => ?_)
  have hz := f5.is hz
  refine Z_putR dX11_init_50 cl_11 fl_X11_21_11 (Or.inr ⟨fn_11_0, rfl⟩) rfl hz rfl rfl ?_
  refine Z_aload_n dX11_init_53 rfl rfl ?_
  refine Z_new dX11_init_54 cl_5 nc_X11_16 cf_5 ⟨by decide, by decide⟩ ?_
  rw [show hN (sP β5 0 0 (some 5)) = 11 from e5]
  refine Z_dup dX11_init_57 rfl ?_
  refine Z_aload_n dX11_init_58 rfl rfl ?_
  refine Z_I1 dX11_init_59 to_X5_init lk_X11_18 im_X5_init ⟨rfl, rfl⟩ (Nat.le_of_ble_eq_true rfl) ⟨by decide, by decide⟩ ?_
  refine k_sinit11 (b := 2) e5 (fun β11 f11 e11 h11 => ?_)
  have hz : zIs β11 0 (15, 7) := f11.is hz
  refine Z_putR dX11_init_62 cl_11 fl_X11_25_11 (Or.inr ⟨fn_11_1, rfl⟩) rfl hz rfl rfl ?_
  refine Z_aload_n dX11_init_65 rfl rfl ?_
  refine Z_new dX11_init_66 cl_4 nc_X11_28 cf_4 ⟨by decide, by decide⟩ ?_
  rw [show hN (sP β11 0 1 (some 11)) = 17 from e11]
  refine Z_dup dX11_init_69 rfl ?_
  refine Z_I0 dX11_init_70 to_X4_init lk_X11_30 im_X4_init ⟨rfl, rfl⟩ (Nat.le_of_ble_eq_true rfl) ⟨by decide, by decide⟩ ?_
  refine k_rinit e11 (fun β17 f17 e17 h17 => ?_)
  have hz : zIs β17 0 (15, 7) := f17.is hz
  refine Z_putR dX11_init_73 cl_11 fl_X11_31_11 (Or.inr ⟨fn_11_3, rfl⟩) rfl hz rfl rfl ?_
  refine Z_aload_n dX11_init_76 rfl rfl ?_
  refine Z_new dX11_init_77 cl_0 nc_X11_35 cf_0 ⟨by decide, by decide⟩ ?_
  rw [show hN (sP β17 0 3 (some 17)) = 23 from e17]
  refine Z_dup dX11_init_80 rfl ?_
  refine Z_aload_n dX11_init_81 rfl rfl ?_
  refine Z_aload_n dX11_init_82 rfl rfl ?_
  refine Z_I2 dX11_init_83 to_X0_init lk_X11_37 im_X0_init ⟨rfl, rfl⟩ (Nat.le_of_ble_eq_true rfl) ⟨by decide, by decide⟩ ?_
  refine k_ainit23 (b := 2) (x := 4) e17 (fun β23 f23 e23 h23 => ?_)
  have hz : zIs β23 0 (15, 7) := f23.is hz
  refine Z_putR dX11_init_86 cl_11 fl_X11_40_11 (Or.inr ⟨fn_11_4, rfl⟩) rfl hz rfl rfl ?_
  refine Z_aload_n dX11_init_89 rfl rfl ?_
  refine Z_new dX11_init_90 cl_0 nc_X11_35 cf_0 ⟨by decide, by decide⟩ ?_
  rw [show hN (sP β23 0 4 (some 23)) = 28 from e23]
  refine Z_dup dX11_init_93 rfl ?_
  refine Z_aload_n dX11_init_94 rfl rfl ?_
  refine Z_aload_n dX11_init_95 rfl rfl ?_
  refine Z_I2 dX11_init_96 to_X0_init lk_X11_37 im_X0_init ⟨rfl, rfl⟩ (Nat.le_of_ble_eq_true rfl) ⟨by decide, by decide⟩ ?_
  refine k_ainit28 (b := 2) (x := 4) e23 (fun β28 f28 e28 h28 => ?_)
  have hz : zIs β28 0 (15, 7) := f28.is hz
  refine Z_putR dX11_init_99 cl_11 fl_X11_44_11 (Or.inr ⟨fn_11_5, rfl⟩) rfl hz rfl rfl ?_
  refine Z_aload_n dX11_init_102 rfl rfl ?_
  refine Z_bipush (v := 21) dX11_init_103 (by decide) ?_
  refine Z_newa (t := 0) (N := 21) dX11_init_105 rfl (Or.inl ⟨rfl, rfl⟩) wd_55 (by decide) (by decide) (by decide) ⟨by decide, by decide⟩ ?_
  rw [show hN (sP β28 0 5 (some 28)) = 33 from e28]
  have hz := nz (sh := (0, 21)) hz
  refine Z_putR dX11_init_107 cl_11 fl_X11_47_11 (Or.inr ⟨fn_11_6, rfl⟩) rfl hz rfl rfl ?_
  refine Z_vret dX11_init_110 rfl ⟨by decide, by decide⟩ ?_
  refine h _ (congrArg (· + 1) e28) ?_
  exact cin_fin hS5 s0 s1 s2 s3 s4 w2 w3 s02 f5 e5 h5 f11 e11 h11 f17 e17 h17 f23 e23 h23 f28 e28 h28
end CI4
