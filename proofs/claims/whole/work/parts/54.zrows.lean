section CZ3
variable {G : ZG} {M : ZM} {d pc : Nat} {L : List (Option Value)} {st : List Value} {α : AH} {u : Nat × Nat} {post : Option Value → AH → Prop}
theorem Z_i2b {x v : Int32} (hd : decode (mC M) pc = .ok (.i2b, 1)) (hv : x.toInt8.toInt32 = v) (k : Z G M d (pc + 1) L (.int v :: st) α u post) : Z G M d pc L (.int x :: st) α u post := Z.go (fun _ _ _ _ _ _ _ _ _ _ _ _ _ _ hx hb => lv_i2b hx hb hd hv) k
theorem Z_aast {k n m v ci z : Nat} {i : Int32} {q : vw_C} (hd : decode (mC M) pc = .ok (.aastore, 1)) (hs : zIs α k (3, n)) (hix : zix i n m) (hv : zIs α v (ci + 4, z)) (hq : vwCl[ci]? = some q) (hw : q.1 = "DaysBag$Worker" ∨ Cond.castable q.1 "DaysBag$Worker" ∈ zN) (kk : Z G M d (pc + 1) L st (sP α k m (some v)) u post) : Z G M d pc L (.ref (G.1 + v) :: .int i :: .ref (G.1 + k) :: st) α u post := by
  obtain ⟨hin, rfl⟩ := hix
  refine Z.goW (fun p l e R s m args below meth c' Q D dA H locs ls C hR hV hl kk => ?_) kk
  have hlt : i.toNatClampNeg < n := Nat.not_le.mp fun q => hin (Or.inr q)
  have h0 : ¬ i < 0 := fun q => hin (Or.inl q)
  have hK := C.2.2.2.2.2.2.1
  obtain ⟨cellV, g1, g2, g3, -⟩ := (hR.2 v hv.1).o hv.2
  have hcls := (hK.1 ci q hq).2
  obtain ⟨kA, comp, k1, k2, k3, -⟩ := (hK.2 3 _ rfl).2
  obtain ⟨kE, hkE, -⟩ := Vm.findClass_spec k3
  obtain ⟨kC, hkC, -⟩ := hcls.2
  have hasg : s.vm.assignable (D.1 ci) comp = true := by
    rcases hw with hw | hw
    · have : comp = D.1 ci := Option.some.inj (k3.symm.trans (hw ▸ hcls.1))
      rw [this]; exact va_assign hcls
    · obtain ⟨c0, t1, f1, f2, f3⟩ := Cond.castable_spec (va_Nw.use (A := args) rfl (C.2.2.2.2.2.2.2.1.2.2.2.1 _ hw))
      cases hcls.1.symm.trans f1
      cases k3.symm.trans f2
      exact f3
  refine W.aast C.1 C.2.1 ((hR.2 k hs.1).q hs.2) (fun q h => by cases h) (fun h => by cases h) k1 k2 rfl hkE ⟨h0, by show _ < (arrV _ _ _).slots.size; rw [arrV_size]; exact hlt⟩ g1 (fun q h => by rw [g3] at h; cases h) (by rw [g2]; exact hkC) (by rw [g2]; exact hasg) rfl rfl hd fun H1 e z oq => ?_
  refine kk H1 _ (hR.put (β := sP α k i.toNatClampNeg (some v)) rfl (fun b hb => ⟨rfl, rfl, rfl, u2_row hb⟩) z oq ?_) (hV.put z oq (Nat.le_add_right _ _))
  unfold zAt
  rw [show hS (sP α k i.toNatClampNeg (some v)) k = (3, n) from hs.2]
  show H1[G.1 + k]? = some (arrV (dA 3) n (fun j => zrf G.1 (hP (sP α k i.toNatClampNeg (some v)) k j)))
  rw [e, arrV_store]
  congr 2
  funext j
  by_cases hj : j = i.toNatClampNeg
  · subst hj
    simp only [updV]
    rw [if_pos trivial, show hP (sP α k i.toNatClampNeg (some v)) k i.toNatClampNeg = some v from u2_at]
    rfl
  · simp only [updV]
    rw [if_neg hj, show hP (sP α k i.toNatClampNeg (some v)) k j = hP α k j from u2_ne hj]
theorem Z_aastN {k n m : Nat} {i : Int32} (hd : decode (mC M) pc = .ok (.aastore, 1)) (hs : zIs α k (3, n)) (hix : zix i n m) (kk : Z G M d (pc + 1) L st (sP α k m none) u post) : Z G M d pc L (.null :: .int i :: .ref (G.1 + k) :: st) α u post := by
  obtain ⟨hin, rfl⟩ := hix
  refine Z.goW (fun p l e R s m args below meth c' Q D dA H locs ls C hR hV hl kk => ?_) kk
  refine va_WaastN (C := "DaysBag$Worker") C.1 C.2.1 ((hR.2 k hs.1).q hs.2) ((C.2.2.2.2.2.2.1.2 3 _ rfl).1 n _) (fun h => by cases h) (by rw [arrV_size]; exact hin) rfl rfl hd fun H1 e z oq => ?_
  refine kk H1 _ (hR.put (β := sP α k i.toNatClampNeg none) rfl (fun b hb => ⟨rfl, rfl, rfl, u2_row hb⟩) z oq ?_) (hV.put z oq (Nat.le_add_right _ _))
  unfold zAt
  rw [show hS (sP α k i.toNatClampNeg none) k = (3, n) from hs.2]
  show H1[G.1 + k]? = some (arrV (dA 3) n (fun j => zrf G.1 (hP (sP α k i.toNatClampNeg none) k j)))
  rw [e, arrV_store]
  congr 2
  funext j
  by_cases hj : j = i.toNatClampNeg
  · subst hj
    simp only [updV]
    rw [if_pos trivial, show hP (sP α k i.toNatClampNeg none) k i.toNatClampNeg = none from u2_at]
    rfl
  · simp only [updV]
    rw [if_neg hj, show hP (sP α k i.toNatClampNeg none) k j = hP α k j from u2_ne hj]
theorem Z_anew {idx : Nat} {n : Int32} {N : Nat} (hd : decode (mC M) pc = .ok (.anewarray idx, 3)) (hc : Cond.classLink (mY M).cls idx "DaysBag$Worker" ∈ zT) (hn : ¬ n < 0) (hN' : n.toNatClampNeg = N) (hb8 : N * 4 ≤ 536870912) (hu : u.1 + 1 ≤ mK M ∧ u.2 + N ≤ mS M)
    (kk : Z G M d (pc + 3) L (.ref (G.1 + hN α) :: st) (nw α (3, N) (fun _ => 0)) (u.1 + 1, u.2 + N) post) : Z G M d pc L (.int n :: st) α u post := by
  refine Z.goW (fun p l e R s m args below meth c' Q D dA H locs ls C hR hV hl kk => ?_) kk
  obtain ⟨hx, hb, -, hown, hts, hname, hK, hX, hos, hroom, -⟩ := C
  subst hN'
  refine W.anew hx hb hown (hts _ hc) (va_AO.use hX.2.2.2.2.1.1) rfl hd rfl hn hb8 (Nat.le_trans hu.1 hroom.2.2.1) (Nat.le_trans hu.2 hroom.2.2.2) fun cA kA comp f1 f2 f3 f4 => ?_
  generalize hH1 : H.push ({ cls := cA, slots := Array.replicate n.toNatClampNeg .null, vm := .none } : Cell) = H1
  have z1 : H1.size = H.size + 1 := by rw [← hH1, Array.size_push]
  have e1 : H1[H.size]? = some (arrV cA n.toNatClampNeg (fun _ => .null)) := by rw [← hH1, Array.getElem?_push_size, ← arrV_new]
  have o1 : ∀ q : Nat, q < H.size → H1[q]? = H[q]? := fun q hq => by rw [← hH1, Array.getElem?_push, if_neg (Nat.ne_of_lt hq)]
  obtain ⟨kA', comp', k1, k2, k3, k4⟩ := (hK.2 3 _ rfl).2
  cases f1.symm.trans k4
  rw [show (.ref H.size : Value) = .ref (G.1 + hN α) from by rw [hR.1]]
  refine kk H1 locs (hR.new z1 o1 ?_) ⟨Nat.le_trans hV.1 (by omega), fun q h1 h2 => (o1 q (Nat.lt_of_lt_of_le h1 hV.1)).trans (hV.2.1 q h1 h2), hV.2.2⟩
  unfold zAt
  rw [hS_nw]
  show H1[G.1 + hN α]? = some (arrV (dA 3) n.toNatClampNeg (fun j => zrf G.1 (hP (nw α (3, n.toNatClampNeg) (fun _ => 0)) (hN α) j)))
  rw [← hR.1, e1]
  congr 2
  funext j
  rw [show hP (nw α (3, n.toNatClampNeg) (fun _ => 0)) (hN α) j = none from by show u1 α.2.2.2.2 α.1 (fun _ => none) α.1 j = none; rw [u1_s]]
  rfl
theorem Z_castA {k n idx : Nat} (hd : decode (mC M) pc = .ok (.checkcast idx, 3)) (hl : Cond.classLink (mY M).cls idx "[I" ∈ zT) (hk : zIs α k (0, n)) (kk : Z G M d (pc + 3) L (.ref (G.1 + k) :: st) α u post) : Z G M d pc L (.ref (G.1 + k) :: st) α u post := by
  refine Z.goR (fun p l e R s m args below meth c' Q D dA H locs ls C hR hV hl' kk => ?_) kk
  have hA : va_RA s (dA 0) .int := (C.2.2.2.2.2.2.1.2 0 _ rfl).2
  exact va_castA (D := D) (cl := vwCl) (ws := [(G.1 + k, .inl (dA 0, n, .inl (hI α k)))]) C.1 C.2.1 C.2.2.2.1 (C.2.2.2.2.1 _ hl) (fun j q hj => by
    match j, hj with
    | 0, hj => cases hj; exact (hR.2 k hk.1).i hk.2) 0 rfl hA hd kk
theorem Z_clone {k n idx : Nat} (hd : decode (mC M) pc = .ok (.invokevirtual idx, 3)) (lk : Cond.methodLink (mY M).cls idx ⟨"[I", "clone", "()Ljava/lang/Object;"⟩ ∈ zT) (hk : zIs α k (0, n)) (hst : (st.map fun v => v.category).sum ≤ 8) (hu : u.1 + 1 ≤ mK M ∧ u.2 + n ≤ mS M)
    (kk : Z G M (d + 1) (pc + 3) L (.ref (G.1 + hN α) :: st) (nw α (0, n) (hI α k)) (u.1 + 1, u.2 + n) post) : Z G M (d + 1) pc L (.ref (G.1 + k) :: st) α u post := by
  intro p l e R s m args below meth c' Q D dA C H locs ls hR hV hl
  have C' := C
  obtain ⟨hx, hb, hml, hown, hts, hname, hK, hX, hos, hroom, -⟩ := C'
  have hA : va_RA s (dA 0) .int := (hK.2 0 _ rfl).2
  have hcell := (hR.2 k hk.1).i hk.2
  have hsz : (arrV (dA 0) n (fun j => .int (hI α k j))).slots.size = n := arrV_size _ _ _
  obtain ⟨c0, t0', f1, f2, f3⟩ := Cond.castable_spec (va_Nw.use (A := args) rfl (hX.2.2.2.1 _ wd_427))
  cases (show s.vm.findClass "[I" = some (dA 0) from hA).symm.trans f1
  intro T hT X
  obtain ⟨-, kA, hkA, comp, hkind⟩ := State.isArrayOf_alike X.warmed.alike ((hK.2 0 _ rfl).1 0 (fun _ => .null))
  obtain ⟨-, kS, hkS, compS, hkindS⟩ := (hK.2 0 _ rfl).1 0 (fun _ => .null)
  obtain ⟨vm', X', stp⟩ := X.cloneArray hx hown (hts _ lk) (hts _ wd_423) (hts _ wd_424) (hts _ wd_425) (hts _ wd_426) (a := G.1 + k) (cell := arrV (dA 0) n (fun j => .int (hI α k j))) (by rw [hT]; exact hcell) (fun k h => by cases h) (fun h => by cases h) hA f2 f3
    (fun i v hv => by
      have hk' : T.vm.classes[dA 0]? = some kA := hkA
      have hft : fits .int v = true := by
        by_cases hi : i < n
        · rw [arrV_read _ _ hi] at hv; cases hv; rfl
        · rw [Array.getElem?_eq_none (by rw [arrV_size]; omega)] at hv; cases hv
      have hk'' : T.vm.classes[(arrV (dA 0) n (fun j => Value.int (hI α k j))).cls]? = some kA := hk'
      simpa [State.fitsSlot, State.slotType?, hk'', hkind] using hft)
    (g := F0 m pc ls (.ref (G.1 + k) :: st)) rfl (by rw [hml]; exact hl.1) rfl (by rw [hb]; exact hd) (Nat.le_trans (Nat.le_add_left 1 d) hroom.1) (by show 2 * 0 + _ + 14 ≤ _; have := hroom.2.1; omega) (Nat.le_trans hu.1 hroom.2.2.1) (by rw [hsz]; exact Nat.le_trans hu.2 hroom.2.2.2) (hloader := Vm.clonesLoader_of_array hkS hkindS)
  rw [hsz] at X'
  generalize hH1 : H.push (arrV (dA 0) n (fun j => .int (hI α k j))) = H1
  have z1 : H1.size = H.size + 1 := by rw [← hH1, Array.size_push]
  have e1 : H1[H.size]? = some (arrV (dA 0) n (fun j => .int (hI α k j))) := by rw [← hH1, Array.getElem?_push_size]
  have o1 : ∀ q : Nat, q < H.size → H1[q]? = H[q]? := fun q hq => by rw [← hH1, Array.getElem?_push, if_neg (Nat.ne_of_lt hq)]
  have hR1 : zR G.1 D dA (nw α (0, n) (hI α k)) H1 := by
    refine hR.new z1 o1 ?_
    unfold zAt
    rw [hS_nw]
    show H1[G.1 + hN α]? = some (arrV (dA 0) n (fun j => .int (hI (nw α (0, n) (hI α k)) (hN α) j)))
    rw [← hR.1, e1, show hI (nw α (0, n) (hI α k)) (hN α) = hI α k from u1_s _ _ _]
  obtain ⟨t, b1, b2⟩ := kk p l e R s m args below meth c' Q D dA C H1 locs ls hR1 ⟨Nat.le_trans hV.1 (by omega), fun q h1 h2 => (o1 q (Nat.lt_of_lt_of_le h1 hV.1)).trans (hV.2.1 q h1 h2), hV.2.2⟩ hl ((T.setVm vm').pushCell (arrV (dA 0) n (fun j => .int (hI α k j)))) (by rw [← hH1, ← hT]; rfl) X'
  refine ⟨t, stp t ?_, b2⟩
  rw [show T.heap.size = G.1 + hN α from by rw [hT]; exact hR.1]
  exact b1
theorem Z_copy {k0 k1 n0 n1 m idx : Nat} {n : Int32} (hd : decode (mC M) pc = .ok (.invokestatic idx, 3)) (lk : Cond.methodLink (mY M).cls idx arraycopyName ∈ zT) (hk0 : zIs α k0 (0, n0)) (hk1 : zIs α k1 (0, n1)) (hn : n = nI m) (hm : m < 2 ^ 31) (h4 : m ≤ n0) (h5 : m ≤ n1) (hst : (st.map fun v => v.category).sum ≤ 8)
    (kk : Z G M (d + 1) (pc + 3) L st (sIr α k1 (va_cpy (hI α k0) (hI α k1) 0 0 m)) u post) : Z G M (d + 1) pc L (.int n :: .int 0 :: .ref (G.1 + k1) :: .int 0 :: .ref (G.1 + k0) :: st) α u post := by
  subst hn
  intro p l e R s mm args below meth c' Q D dA C H locs ls hR hV hl
  have C' := C
  obtain ⟨hx, hb, hml, hown, hts, hname, hK, hX, hos, hroom, -⟩ := C'
  have hc0 := (hR.2 k0 hk0.1).i hk0.2
  have hc1 := (hR.2 k1 hk1.1).i hk1.2
  have hmi : (nI m).toInt = (m : Int) := nI_toInt hm
  have hmc : (nI m).toNatClampNeg = m := nI_clamp hm
  have z0 : (0 : Int32).toInt = 0 := rfl
  have zc : (0 : Int32).toNatClampNeg = 0 := rfl
  have hnf : nativeFrameWords "java/lang/System" "arraycopy" 5 ≤ 30 := by decide
  intro T hT X
  obtain ⟨-, q0, hq0, cm0, hqk0⟩ := (hK.2 0 _ rfl).1 n0 (fun j => .int (hI α k0 j))
  obtain ⟨-, q1, hq1, cm1, hqk1⟩ := (hK.2 0 _ rfl).1 n1 (fun j => .int (hI α k1 j))
  obtain ⟨vm', X', step⟩ := X.arraycopy hx hown (hts _ lk) (hts _ wd_432) (hts _ wd_431) (hts _ wd_14) (src := G.1 + k0) (dst := G.1 + k1) (cs := vp_cell (dA 0) (n0, .inl (hI α k0))) (cd := vp_cell (dA 0) (n1, .inl (hI α k1))) (srcPos := 0) (destPos := 0) (n := nI m) (by rw [hT]; exact hc0) (by rw [hT]; exact hc1)
    (fun _ h => by cases h) (fun _ h => by cases h) (fun h => by cases h) (fun h => by cases h) hq0 hq1 hqk0 hqk1 (by simp [refKind]) (by decide) (by decide) (by rw [Int32.lt_iff_toInt_lt, hmi, z0]; omega)
    (by rw [z0, hmi]; show ¬ _ > ((arrV (dA 0) n0 (fun j => .int (hI α k0 j))).slots.size : Int); rw [arrV_size]; omega)
    (by rw [z0, hmi]; show ¬ _ > ((arrV (dA 0) n1 (fun j => .int (hI α k1 j))).slots.size : Int); rw [arrV_size]; omega)
    (fun vm₁ _ i hi => by
      rw [hmc] at hi
      have e : (vp_cell (dA 0) (n0, .inl (hI α k0))).slots.getD ((0 : Int32).toNatClampNeg + i) .null = .int (hI α k0 i) := by
        show (arrV (dA 0) n0 (fun j => .int (hI α k0 j))).slots.getD _ _ = _
        rw [zc, Nat.zero_add, Array.getD_eq_getD_getElem?, arrV_read _ _ (by omega)]
        rfl
      refine ⟨?_, ?_⟩
      · rw [e]; rfl
      · rw [e]; exact trivial)
    (g := F0 mm pc ls (.int (nI m) :: .int 0 :: .ref (G.1 + k1) :: .int 0 :: .ref (G.1 + k0) :: st)) rfl (by rw [hml]; exact hl.1) (rest := st) rfl (by rw [hb]; exact hd) (Nat.le_trans (Nat.le_add_left 1 d) hroom.1) (by show 2 * 0 + _ + _ ≤ _; have h8 := hroom.2.1; have h9 := hnf; omega)
  have e1 : copied (vp_cell (dA 0) (n0, .inl (hI α k0))) (vp_cell (dA 0) (n1, .inl (hI α k1))) 0 0 (nI m) = vp_cell (dA 0) (n1, .inl (va_cpy (hI α k0) (hI α k1) 0 0 m)) := by
    have h1 := va_copied (fun z : Int32 => Value.int z) (dA 0) (dA 0) (n0 := n0) (n1 := n1) (sp := 0) (dp := 0) (n := m) (hI α k0) (hI α k1) (by omega)
    show (arrV (dA 0) n1 (fun j => .int (hI α k1 j))).storeRun (0 : Int32).toNatClampNeg ((arrV (dA 0) n0 (fun j => .int (hI α k0 j))).stretch (0 : Int32).toNatClampNeg (nI m).toNatClampNeg) = _
    rw [zc, hmc]
    exact h1
  rw [e1] at X' step
  have hlt : G.1 + k1 < H.size := (Array.getElem?_eq_some_iff.mp hc1).1
  generalize hH1 : H.setIfInBounds (G.1 + k1) (vp_cell (dA 0) (n1, .inl (va_cpy (hI α k0) (hI α k1) 0 0 m))) = H1
  have hheap : ((T.setVm vm').setCell (G.1 + k1) (vp_cell (dA 0) (n1, .inl (va_cpy (hI α k0) (hI α k1) 0 0 m)))).heap = H1 := by rw [← hH1, ← hT]; rfl
  have oq : ∀ q : Nat, q ≠ G.1 + k1 → H1[q]? = H[q]? := fun q hq => by rw [← hH1]; simp [Array.getElem?_setIfInBounds, Ne.symm hq]
  have eq1 : H1[G.1 + k1]? = some (vp_cell (dA 0) (n1, .inl (va_cpy (hI α k0) (hI α k1) 0 0 m))) := by rw [← hH1]; simp [Array.getElem?_setIfInBounds, hlt]
  have hz : H1.size = H.size := by rw [← hH1]; simp
  have hR1 : zR G.1 D dA (sIr α k1 (va_cpy (hI α k0) (hI α k1) 0 0 m)) H1 := by
    refine hR.put (β := sIr α k1 (va_cpy (hI α k0) (hI α k1) 0 0 m)) rfl (fun b hb => ⟨rfl, u1_n hb, rfl, rfl⟩) hz oq ?_
    unfold zAt
    rw [show hS (sIr α k1 (va_cpy (hI α k0) (hI α k1) 0 0 m)) k1 = (0, n1) from hk1.2]
    show H1[G.1 + k1]? = some (arrV (dA 0) n1 (fun j => .int (hI (sIr α k1 (va_cpy (hI α k0) (hI α k1) 0 0 m)) k1 j)))
    rw [eq1, show hI (sIr α k1 (va_cpy (hI α k0) (hI α k1) 0 0 m)) k1 = va_cpy (hI α k0) (hI α k1) 0 0 m from u1_s _ _ _]
    rfl
  obtain ⟨t, a1, b1⟩ := kk p l e R s mm args below meth c' Q D dA C H1 _ ls hR1 ⟨by rw [hz]; exact hV.1, fun q g1 g2 => by
      rw [oq q (fun e => g2 (by rw [e]; exact Nat.le_add_right _ _))]
      exact hV.2.1 q g1 g2, fun q hq => by
      rcases List.mem_append.mp hq with h | h
      · exact hV.2.2 q h
      · obtain ⟨z, -, hz⟩ := List.mem_map.mp h
        rw [← hz]
        exact Nat.le_add_right _ _⟩ hl _ hheap X'
  exact ⟨t, step t a1, b1⟩
end CZ3
section CZ5
variable {p : Program} {l : Launch} {e : Env} {R : Room} {s : State} {m : MethodId} {args : Array Value} {below : List Frame} {meth : Method} {c : Code} {T : State} {locs : List Loc} {cells slots : Nat}
/-- the linking of a static call by an inherited name, done before it -/
theorem zs_cold {Q : Unit → Pre} {E : CtlPost} {d : Bool} {acts : List Action} {s₀ : State} {f : JFrame} {index ci n c : Nat} {m : MethodId} {dk ck : Class} {cf : ClassFile} {name desc : String} (hs : T.topJava?.isSome) (hp : e.platform.polymorphicOnlyByInvokevirtual = true)
    (hW : s₀.WarmedH T.vm) (hE : s₀.MethodEntryUp e T.vm f.method.cls index c m ci) (h1 : s₀.vm.classes[f.method.cls]? = some dk) (h2 : dk.cf = some cf)
    (h3 : cf.constantPool[index]? = some (.methodref ci n)) (h4 : cf.constantPool.nameAndType? n = some (name, desc))
    (hck : s₀.vm.classes[c]? = some ck) (hnone : (ck.methods.any fun x => x.name == name && !x.isStatic && signaturePolymorphic ck x) = false) :
    wp (invokestatic.sem index) Q E e d acts (T.setTop f) ↔ wp (invokestatic.sem index) Q E e d acts ((T.setVm (T.vm.calledUp f.method.cls ci index c m)).setTop f) := by
  obtain ⟨g1, g2, g3, g4⟩ := hE.classFirst
  obtain ⟨ka, ha, ea⟩ := hW.alike.2.2 _ _ h1
  obtain ⟨kb, hb, eb⟩ := hE.warmed.alike.2.2 _ _ h1
  obtain ⟨kc, hc, ec⟩ := g3.alike.2.2 _ _ hck
  obtain ⟨kd, hd, ed⟩ := hE.warmed.alike.2.2 _ _ hck
  have h3' : cf.constantPool[index]? = some (if false then .interfaceMethodref ci n else .methodref ci n) := h3
  have q1 := memberRef_ask_via (e := e) ha (by rw [ea]; exact h2) h3' h4
  have q2 := memberRef_ask_via (e := e) hb (by rw [eb]; exact h2) h3' h4
  have n1 : (kc.methods.any fun x => x.name == name && !x.isStatic && signaturePolymorphic kc x) = false := by rw [ec]; exact hnone
  have n2 : (kd.methods.any fun x => x.name == name && !x.isStatic && signaturePolymorphic kd x) = false := by rw [ed]; exact hnone
  have t1 : (T.setVm (T.vm.noted f.method.cls ci (.cls c))).topJava?.isSome := hs
  have t2 : (T.setVm (T.vm.calledUp f.method.cls ci index c m)).topJava?.isSome := hs
  have r1 : ∀ {Q' : ClassId → Pre} {d' : Bool} {acts' : List Action}, wp (Jvm.resolveClassAt ci) Q' E e d' acts' (T.setTop f) ↔ Q' c d' acts' ((T.setVm (T.vm.noted f.method.cls ci (.cls c))).setTop f) := Jvm.W.resolveClassAt_links (t := T.setTop f) (State.method?_setTop f hs) g1
  have r2 : ∀ {Q' : MethodId → Pre} {d' : Bool} {acts' : List Action}, wp (Jvm.resolveMethodAt index) Q' E e d' acts' ((T.setVm (T.vm.noted f.method.cls ci (.cls c))).setTop f) ↔ Q' m d' acts' ((T.setVm (T.vm.calledUp f.method.cls ci index c m)).setTop f) := Jvm.W.resolveMethodAt_links (t := (T.setVm (T.vm.noted f.method.cls ci (.cls c))).setTop f) (State.method?_setTop f t1) g4
  simp [invokestatic.sem, hp, Seam.memberRefOf, State.method?_setTop f hs, State.method?_setTop f t2, q1, q2, r1, Jvm.W.resolveClassAt_ready (s := (T.setVm (T.vm.calledUp f.method.cls ci index c m)).setTop f) (State.method?_setTop f t2) hE.classReady, hc, hd, n1, n2, r2, Jvm.W.resolveMethodAt_ready (s := (T.setVm (T.vm.calledUp f.method.cls ci index c m)).setTop f) (State.method?_setTop f t2) hE.ready, -Array.any_eq_true]
theorem zs_up (X : Stand p l e R s m args below meth c T locs cells slots) (hexec : p.tables.exec = Jvm.exec) {own owner : String} {index : Nat} {x : MethodName} (hown : s.vm.findClass own = some m.cls) (hlink : (Cond.methodLink own index x).before args s = true)
    (hsame : (Cond.sameMethod x.cls owner x.name x.desc).before args s = true) (howner : owner ≠ "java/lang/invoke/MethodHandle" ∧ owner ≠ "java/lang/invoke/VarHandle")
    {m' : MethodId} {meth' : Method} {k' : Class} (hn : s.methodNamed? ⟨owner, x.name, x.desc⟩ = some m') (hm' : s.vm.method? m' = some meth') (hstatic : meth'.isStatic = true) (hk' : s.vm.classes[m'.cls]? = some k') (hinit : k'.init = .initialized)
    {g : JFrame} (hg : g.method = m) {argsL rest : List Value} (hlen : argsL.length = meth'.sig.parameters.length) (hstack : g.stack = argsL.reverse ++ rest) (hdg : decode c.code g.pc = .ok (.invokestatic index, 3)) :
    ∃ vm', Stand p l e R s m args below meth c (T.setVm vm') locs cells slots ∧ ∀ target, (∀ acts, Steps p.tables e below (doInvoke e ((T.setVm vm').setTop { g with stack := rest }) acts m' argsL.toArray).1 target) → Steps p.tables e below (T.setTop g) target := by
  have hpl : e.platform.magicAccessors = ({} : Platform).magicAccessors := by rw [X.admits.platform]
  have hpv : e.platform.polymorphicOnlyByInvokevirtual = true := by rw [X.admits.platform]
  obtain ⟨cn, ck, r1, hcn, hck, hni, hf, hn1⟩ := Cond.sameMethod_found hsame
  cases hn.symm.trans hn1
  obtain ⟨ci, hl, hright⟩ := Cond.methodLink_specUp hown hcn hck hni hf hlink e.platform hpl (by rw [X.admits.platform])
  have hE : s.MethodEntryUp e T.vm m.cls index cn m' ci := State.methodEntryUp X.warmed hl hright
  obtain ⟨kx, hkx, hnx⟩ := className_of_methodNamed hn
  cases hk'.symm.trans hkx
  obtain ⟨dk, cfile, nt, mname, mdesc, ck', _, _, hd, hcf, hcp, hnt, -, -, hck', -, hnopoly, -⟩ := hl.here
  cases hck.symm.trans hck'
  obtain ⟨dk2, hdk2, hed2⟩ := hE.warmed.alike.2.2 _ _ hd
  obtain ⟨k2, hk2, he2⟩ := hE.warmed.alike.2.2 _ _ hk'
  obtain ⟨ck2, hck2, hec2⟩ := hE.warmed.alike.2.2 _ _ hck
  have hnone : (ck.methods.any fun y => y.name == mname && !y.isStatic && signaturePolymorphic ck y) = false := by simp [hnopoly]
  have hnone2 : (ck2.methods.any fun y => y.name == mname && !y.isStatic && signaturePolymorphic ck2 y) = false := by rw [hec2]; exact hnone
  have hcp' : cfile.constantPool[index]? = some (if false then .interfaceMethodref ci nt else .methodref ci nt) := hcp
  refine ⟨T.vm.calledUp m.cls ci index cn m', X.noted hE.warmed, fun target hrest => ?_⟩
  subst hg
  jvm_step X.here [hexec, hdg, zs_cold (e := e) (T := T) (s₀ := s) (f := g) X.here.top hpv X.warmed hE hd hcf hcp hnt hck hnone,
    invokestatic.wp_ready (e := e) (s := T.setVm (T.vm.calledUp g.method.cls ci index cn m')) (k := k2) (meth := meth') (m := m') (args := argsL) (rest := rest) (f := g)
      X.here.top ⟨ci, mname, mdesc, false, cn, ck2, memberRef_ask_via (e := e) hdk2 (by rw [hed2]; exact hcf) hcp' hnt, hE.classReady, hck2, hnone2⟩ hE.ready hk2
      (by show (T.vm.calledUp g.method.cls ci index cn m').method? m' = some meth'; rw [hE.warmed.alike.method?]; exact hm')
      (by rw [he2]; show signaturePolymorphic k' meth' = false; simp [signaturePolymorphic, hnx, howner.1, howner.2]) hstatic (by rw [he2]; exact hinit) hlen hstack]
  exact fun acts => hrest _
end CZ5
section CZ4
variable {G : ZG} {M M' : ZM} {d pc n : Nat} {L : List (Option Value)} {st : List Value} {α : AH} {u : Nat × Nat} {post : Option Value → AH → Prop}
theorem Z_U2z {idx k ci z : Nat} {x : MethodName} {owner : String} {q : vw_C} {a1 a2 : Value} {b0 : ByteArray} {m0 : Nat} {r0 : Option FieldType} (hd : decode (mC M) pc = .ok (.invokevirtual idx, 3)) (to : zTo M' 2) (lk : Cond.methodLink (mY M).cls idx x ∈ zT) (hsm : Cond.sameMethod x.cls owner x.name x.desc ∈ zT) (hdc : Cond.instanceMethod ⟨owner, x.name, x.desc⟩ ∈ zT ∧ Cond.code ⟨owner, x.name, x.desc⟩ b0 m0 r0 ∈ zT) (ho : owner ≠ "java/lang/invoke/MethodHandle" ∧ owner ≠ "java/lang/invoke/VarHandle" ∧ x.desc = (mY M').desc) (hq : vwCl[ci]? = some q) (hse : Cond.selects q.1 x (mY M') ∈ zT) (hi : Cond.instanceMethod (mY M') ∈ zT) (hk : zIs α k (ci + 4, z)) (hst : (st.map fun v => v.category).sum ≤ 8) (hz : mK M' = 0 ∧ mS M' = 0) (hu : u.1 ≤ mK M ∧ u.2 ≤ mS M)
    (h : ZK G d M' [.ref (G.1 + k), a1, a2] α (fun v α1 => Z G M (d + 1) (pc + 3) L (zst v st) α1 u post)) : Z G M (d + 1) pc L (a2 :: a1 :: .ref (G.1 + k) :: st) α u post :=
  Z_runU (av := [a1, a2]) hd to lk hsm hdc ho hq hse hi hk rfl hst (by rw [hz.1, hz.2]; exact hu) rfl (by rw [hz.1, hz.2]; exact h)
theorem Z_U3z {idx k ci z : Nat} {x : MethodName} {owner : String} {q : vw_C} {a1 a2 a3 : Value} {b0 : ByteArray} {m0 : Nat} {r0 : Option FieldType} (hd : decode (mC M) pc = .ok (.invokevirtual idx, 3)) (to : zTo M' 3) (lk : Cond.methodLink (mY M).cls idx x ∈ zT) (hsm : Cond.sameMethod x.cls owner x.name x.desc ∈ zT) (hdc : Cond.instanceMethod ⟨owner, x.name, x.desc⟩ ∈ zT ∧ Cond.code ⟨owner, x.name, x.desc⟩ b0 m0 r0 ∈ zT) (ho : owner ≠ "java/lang/invoke/MethodHandle" ∧ owner ≠ "java/lang/invoke/VarHandle" ∧ x.desc = (mY M').desc) (hq : vwCl[ci]? = some q) (hse : Cond.selects q.1 x (mY M') ∈ zT) (hi : Cond.instanceMethod (mY M') ∈ zT) (hk : zIs α k (ci + 4, z)) (hst : (st.map fun v => v.category).sum ≤ 8) (hz : mK M' = 0 ∧ mS M' = 0) (hu : u.1 ≤ mK M ∧ u.2 ≤ mS M)
    (h : ZK G d M' [.ref (G.1 + k), a1, a2, a3] α (fun v α1 => Z G M (d + 1) (pc + 3) L (zst v st) α1 u post)) : Z G M (d + 1) pc L (a3 :: a2 :: a1 :: .ref (G.1 + k) :: st) α u post :=
  Z_runU (av := [a1, a2, a3]) hd to lk hsm hdc ho hq hse hi hk rfl hst (by rw [hz.1, hz.2]; exact hu) rfl (by rw [hz.1, hz.2]; exact h)
theorem Z_SU2z {idx k ci z : Nat} {q : vw_C} {a1 a2 : Value} (hd : decode (mC M) pc = .ok (.invokespecial idx, 3)) (to : zTo M' 2) (lk : Cond.methodLink (mY M).cls idx (mY M') ∈ zT) (hsm : Cond.sameMethod (mY M').cls (mY M').cls (mY M').name (mY M').desc ∈ zT) (hsup : Cond.superclass (mY M).cls (mY M').cls ∈ zT) (hi : Cond.instanceMethod (mY M') ∈ zT) (hy : (mY M').name ≠ "<init>") (hq : vwCl[ci]? = some q) (hk : zIs α k (ci + 4, z)) (hst : (st.map fun v => v.category).sum ≤ 8) (hz : mK M' = 0 ∧ mS M' = 0) (hu : u.1 ≤ mK M ∧ u.2 ≤ mS M)
    (h : ZK G d M' [.ref (G.1 + k), a1, a2] α (fun v α1 => Z G M (d + 1) (pc + 3) L (zst v st) α1 u post)) : Z G M (d + 1) pc L (a2 :: a1 :: .ref (G.1 + k) :: st) α u post :=
  Z_runSU (av := [a1, a2]) hd to lk hsm hsup hi hy hq hk rfl hst (by rw [hz.1, hz.2]; exact hu) rfl (by rw [hz.1, hz.2]; exact h)
theorem Z_SU3z {idx k ci z : Nat} {q : vw_C} {a1 a2 a3 : Value} (hd : decode (mC M) pc = .ok (.invokespecial idx, 3)) (to : zTo M' 3) (lk : Cond.methodLink (mY M).cls idx (mY M') ∈ zT) (hsm : Cond.sameMethod (mY M').cls (mY M').cls (mY M').name (mY M').desc ∈ zT) (hsup : Cond.superclass (mY M).cls (mY M').cls ∈ zT) (hi : Cond.instanceMethod (mY M') ∈ zT) (hy : (mY M').name ≠ "<init>") (hq : vwCl[ci]? = some q) (hk : zIs α k (ci + 4, z)) (hst : (st.map fun v => v.category).sum ≤ 8) (hz : mK M' = 0 ∧ mS M' = 0) (hu : u.1 ≤ mK M ∧ u.2 ≤ mS M)
    (h : ZK G d M' [.ref (G.1 + k), a1, a2, a3] α (fun v α1 => Z G M (d + 1) (pc + 3) L (zst v st) α1 u post)) : Z G M (d + 1) pc L (a3 :: a2 :: a1 :: .ref (G.1 + k) :: st) α u post :=
  Z_runSU (av := [a1, a2, a3]) hd to lk hsm hsup hi hy hq hk rfl hst (by rw [hz.1, hz.2]; exact hu) rfl (by rw [hz.1, hz.2]; exact h)
/-- super.m(..) where the superclass has m from its own superclass -/
theorem Z_SX2z {idx k ci z : Nat} {nm : String} {q : vw_C} {a1 a2 : Value} (hd : decode (mC M) pc = .ok (.invokespecial idx, 3)) (to : zTo M' 2) (lk : Cond.methodLink (mY M).cls idx ⟨nm, (mY M').name, (mY M').desc⟩ ∈ zT) (hsm : Cond.sameMethod nm (mY M').cls (mY M').name (mY M').desc ∈ zT) (hsup : Cond.superclass (mY M).cls nm ∈ zT) (hsup2 : Cond.superclass nm (mY M').cls ∈ zT) (hi : Cond.instanceMethod (mY M') ∈ zT) (hy : (mY M').name ≠ "<init>") (hq : vwCl[ci]? = some q) (hk : zIs α k (ci + 4, z)) (hst : (st.map fun v => v.category).sum ≤ 8) (hz : mK M' = 0 ∧ mS M' = 0) (hu : u.1 ≤ mK M ∧ u.2 ≤ mS M)
    (h : ZK G d M' [.ref (G.1 + k), a1, a2] α (fun v α1 => Z G M (d + 1) (pc + 3) L (zst v st) α1 u post)) : Z G M (d + 1) pc L (a2 :: a1 :: .ref (G.1 + k) :: st) α u post := by
  intro p l e R s m args below meth c Q D dA C H locs ls hR hV hl
  have C' := C
  obtain ⟨hx, hb, hml, hown, hts, hname, hK, hX, hos, hroom, -⟩ := C'
  have hu' : u.1 + mK M' ≤ mK M ∧ u.2 + mS M' ≤ mS M := by rw [hz.1, hz.2]; exact hu
  have hf : u.1 + mK M' ≤ R.cells ∧ u.2 + mS M' ≤ R.slots := ⟨Nat.le_trans hu'.1 hroom.2.2.1, Nat.le_trans hu'.2 hroom.2.2.2⟩
  have hG := zW_good to
  have to' := to
  obtain ⟨t1, t2, t3, t4, t5⟩ := to'
  obtain ⟨cellB, hcB, hoB, hclB⟩ := zrecv C hR hk hq
  have hpre := zPre (av := [.ref (G.1 + k), a1, a2]) C hR hV
  refine z_call (a := #[.ref (G.1 + k), a1, a2]) (rest := st) (post' := fun v α1 => Z G M (d + 1) (pc + 3) L (zst v st) α1 u post) (D := D) (dA := dA) (mc := mK M') (ms := mS M') (ls := ls) (st0 := a2 :: a1 :: .ref (G.1 + k) :: st) ?_ hV (fun v β H1 locs1 hp hR1 hV1 => ?_)
  · have hKb : Back l R p e below s args (mY M') 3 8 (PreOf R (mK M') (mS M') (zPc G D dA [.ref (G.1 + k), a1, a2] α)) (PostOf (zQc G D dA (fun v α1 => Z G M (d + 1) (pc + 3) L (zst v st) α1 u post)) (mK M') (mS M') (zA G.1)) := back_of (bytes := mC M') (maxL := mL M') (ret := mR M') (h l D dA) hpre.1 rfl rfl (zroom hroom t5).1 (zroom hroom t5).2 (pay_in hts hG) List.mem_cons_self (fun a' U hW => word_at hW (Or.inl (by first | rfl | simp [Cond.onTables, Cond.keeps, Cond.steady])) (hts _ t2))
    obtain ⟨kB, hkB, -⟩ := (hK.1 ci _ hq).2.2
    have hcl : cellB.cls = D.1 ci := Option.some.inj (hclB.symm.trans (hK.1 ci _ hq).2.1)
    obtain ⟨mk, methM, hnamed, hmethM, hstM, habM⟩ := Cond.instanceMethod_spec (hts _ hi)
    obtain ⟨methM', cM, hmethM', -, -, -, -, -, -, hsigM⟩ := Cond.code_spec hnamed (hts _ t1)
    cases hmethM.symm.trans hmethM'
    obtain ⟨ps, dk, kp, hps, hdk, hkp, hsuper, -, -, hnid⟩ := Cond.superclass_spec hown (hts _ hsup)
    obtain ⟨ps2, dk2, kp2, hps2, hdk2, hkp2, hsuper2, -, -, hnid2⟩ := Cond.superclass_spec hps (hts _ hsup2)
    have hpm : ps2 = mk.cls := Option.some.inj (hps2.symm.trans (findClass_of_methodNamed hnamed))
    have hsz : ps < s.vm.classes.size := (Array.getElem?_eq_some_iff.mp hkp).1
    have hsub : s.vm.isSubclass ps mk.cls = true := by
      rw [← hpm]
      obtain ⟨n1, e1⟩ : ∃ n1, s.vm.classes.size = n1 + 1 := ⟨s.vm.classes.size - 1, (Nat.succ_pred_eq_of_pos (Nat.lt_of_le_of_lt (Nat.zero_le _) hsz)).symm⟩
      unfold Vm.isSubclass
      rw [e1]
      simp [Vm.isSubclassAux, hdk2, hsuper2]
    intro T hT X
    obtain ⟨vm₁, X₁, hstep₁⟩ := X.invokespecialUp hx hown (hts _ lk) (hts _ hsm) hnamed hmethM hstM habM hy hdk hnid hps hsuper hsub (a := G.1 + k) (cell := cellB) (by rw [hT]; exact hcB)
      (fun z h => by rw [h] at hoB; cases hoB) (by rw [hcl]; exact hkB) (g := F0 m pc ls (a2 :: a1 :: .ref (G.1 + k) :: st)) rfl (argsL := [a1, a2]) (rest := st) (by have := zlen t4 _ hsigM; rw [← this]; rfl) rfl (by rw [hb]; exact hd)
    obtain ⟨v, ⟨U', l2, c2, s2⟩, X', ⟨g', mk', t, L', e1, e2, hq', h1, hL, h2, h3⟩, hsteps⟩ := hKb m meth c ⟨T.setVm vm₁, locs, u.1, u.2⟩ (F0 m pc ls st) (.invokespecial idx) mk (Value.ref (G.1 + k) :: [a1, a2]).toArray X₁ rfl (by rw [hml]; exact hl.1) (by rw [hb]; exact hd) (lv_room hst) (X₁.named hnamed) ⟨hf.1, hf.2, hpre.2 (T.setVm vm₁) hT X₁.warmed⟩
    dsimp only [Pt.U, Pt.locs, Pt.cells, Pt.slots] at X' e1 e2 h1 h2 h3 hsteps
    subst h1; subst h2; subst h3
    exact ⟨v, (T.setVm vm₁).calling g' mk' (Value.ref (G.1 + k) :: [a1, a2]).toArray, t, U', L', hT, X', hL, e1, e2, hq', fun target h => hstep₁ _ (by rw [doInvoke_state]; exact hsteps.trans h)⟩
  · rw [hz.1, hz.2]
    exact hp p l e R s m args below meth c Q D dA C H1 locs1 ls hR1 hV1 hl
/-- a static method by the name of a class that has it from its superclass -/
theorem Z_T1z {idx : Nat} {nm : String} {a1 : Value} (hd : decode (mC M) pc = .ok (.invokestatic idx, 3)) (to : zTo M' 1) (lk : Cond.methodLink (mY M).cls idx ⟨nm, (mY M').name, (mY M').desc⟩ ∈ zT) (hsm : Cond.sameMethod nm (mY M').cls (mY M').name (mY M').desc ∈ zT) (hs : Cond.static (mY M') ∈ zT) (hst : (st.map fun v => v.category).sum ≤ 8) (hz : mK M' = 0 ∧ mS M' = 0) (hu : u.1 ≤ mK M ∧ u.2 ≤ mS M)
    (h : ZK G d M' [a1] α (fun v α1 => Z G M (d + 1) (pc + 3) L (zst v st) α1 u post)) : Z G M (d + 1) pc L (a1 :: st) α u post := by
  intro p l e R s m args below meth c Q D dA C H locs ls hR hV hl
  have C' := C
  obtain ⟨hx, hb, hml, hown, hts, hname, hK, hX, hos, hroom, -⟩ := C'
  have hu' : u.1 + mK M' ≤ mK M ∧ u.2 + mS M' ≤ mS M := by rw [hz.1, hz.2]; exact hu
  have hf : u.1 + mK M' ≤ R.cells ∧ u.2 + mS M' ≤ R.slots := ⟨Nat.le_trans hu'.1 hroom.2.2.1, Nat.le_trans hu'.2 hroom.2.2.2⟩
  have hG := zW_good to
  obtain ⟨t1, t2, t3, t4, t5⟩ := to
  have hpre := zPre (av := [a1]) C hR hV
  refine z_call (a := #[a1]) (rest := st) (post' := fun v α1 => Z G M (d + 1) (pc + 3) L (zst v st) α1 u post) (D := D) (dA := dA) (mc := mK M') (ms := mS M') (ls := ls) (st0 := a1 :: st) ?_ hV (fun v β H1 locs1 hp hR1 hV1 => ?_)
  · have hKb : Back l R p e below s args (mY M') 3 8 (PreOf R (mK M') (mS M') (zPc G D dA [a1] α)) (PostOf (zQc G D dA (fun v α1 => Z G M (d + 1) (pc + 3) L (zst v st) α1 u post)) (mK M') (mS M') (zA G.1)) := back_of (bytes := mC M') (maxL := mL M') (ret := mR M') (h l D dA) hpre.1 rfl rfl (zroom hroom t5).1 (zroom hroom t5).2 (pay_in hts hG) List.mem_cons_self (fun a' U hW => word_at hW (Or.inl (by first | rfl | simp [Cond.onTables, Cond.keeps, Cond.steady])) (hts _ t2))
    obtain ⟨mk, hnamed⟩ : ∃ mk, s.methodNamed? (mY M') = some mk := by
      obtain ⟨-, -, r1, -, -, -, -, hn1⟩ := Cond.sameMethod_found (hts _ hsm)
      exact ⟨r1, hn1⟩
    obtain ⟨methM, cM, hmethM, -, -, -, -, -, -, hsigM⟩ := Cond.code_spec hnamed (hts _ t1)
    have hstatic : methM.isStatic = true := Cond.static_spec hnamed hmethM (hts _ hs)
    obtain ⟨kP, hkP, -⟩ := className_of_methodNamed hnamed
    have hinitP : kP.init = .initialized := Cond.initialized_spec (findClass_of_methodNamed hnamed) hkP (hts _ t2)
    intro T hT X
    obtain ⟨vm₁, X₁, hstep₁⟩ := zs_up X hx hown (hts _ lk) (hts _ hsm) t3 hnamed hmethM hstatic hkP hinitP (g := F0 m pc ls (a1 :: st)) rfl (argsL := [a1]) (rest := st) (by have := zlen t4 _ hsigM; rw [← this]; rfl) rfl (by rw [hb]; exact hd)
    obtain ⟨v, ⟨U', l2, c2, s2⟩, X', ⟨g', mk', t, L', e1, e2, hq', h1, hL, h2, h3⟩, hsteps⟩ := hKb m meth c ⟨T.setVm vm₁, locs, u.1, u.2⟩ (F0 m pc ls st) (.invokestatic idx) mk [a1].toArray X₁ rfl (by rw [hml]; exact hl.1) (by rw [hb]; exact hd) (lv_room hst) (X₁.named hnamed) ⟨hf.1, hf.2, hpre.2 (T.setVm vm₁) hT X₁.warmed⟩
    dsimp only [Pt.U, Pt.locs, Pt.cells, Pt.slots] at X' e1 e2 h1 h2 h3 hsteps
    subst h1; subst h2; subst h3
    exact ⟨v, (T.setVm vm₁).calling g' mk' [a1].toArray, t, U', L', hT, X', hL, e1, e2, hq', fun target h => (hstep₁ _ fun acts => by rw [doInvoke_state]; exact hsteps.trans h)⟩
  · rw [hz.1, hz.2]
    exact hp p l e R s m args below meth c Q D dA C H1 locs1 ls hR1 hV1 hl
/-- a static method by the name of a class that has it from its superclass -/
theorem Z_T2z {idx : Nat} {nm : String} {a1 a2 : Value} (hd : decode (mC M) pc = .ok (.invokestatic idx, 3)) (to : zTo M' 2) (lk : Cond.methodLink (mY M).cls idx ⟨nm, (mY M').name, (mY M').desc⟩ ∈ zT) (hsm : Cond.sameMethod nm (mY M').cls (mY M').name (mY M').desc ∈ zT) (hs : Cond.static (mY M') ∈ zT) (hst : (st.map fun v => v.category).sum ≤ 8) (hz : mK M' = 0 ∧ mS M' = 0) (hu : u.1 ≤ mK M ∧ u.2 ≤ mS M)
    (h : ZK G d M' [a1, a2] α (fun v α1 => Z G M (d + 1) (pc + 3) L (zst v st) α1 u post)) : Z G M (d + 1) pc L (a2 :: a1 :: st) α u post := by
  intro p l e R s m args below meth c Q D dA C H locs ls hR hV hl
  have C' := C
  obtain ⟨hx, hb, hml, hown, hts, hname, hK, hX, hos, hroom, -⟩ := C'
  have hu' : u.1 + mK M' ≤ mK M ∧ u.2 + mS M' ≤ mS M := by rw [hz.1, hz.2]; exact hu
  have hf : u.1 + mK M' ≤ R.cells ∧ u.2 + mS M' ≤ R.slots := ⟨Nat.le_trans hu'.1 hroom.2.2.1, Nat.le_trans hu'.2 hroom.2.2.2⟩
  have hG := zW_good to
  obtain ⟨t1, t2, t3, t4, t5⟩ := to
  have hpre := zPre (av := [a1, a2]) C hR hV
  refine z_call (a := #[a1, a2]) (rest := st) (post' := fun v α1 => Z G M (d + 1) (pc + 3) L (zst v st) α1 u post) (D := D) (dA := dA) (mc := mK M') (ms := mS M') (ls := ls) (st0 := a2 :: a1 :: st) ?_ hV (fun v β H1 locs1 hp hR1 hV1 => ?_)
  · have hKb : Back l R p e below s args (mY M') 3 8 (PreOf R (mK M') (mS M') (zPc G D dA [a1, a2] α)) (PostOf (zQc G D dA (fun v α1 => Z G M (d + 1) (pc + 3) L (zst v st) α1 u post)) (mK M') (mS M') (zA G.1)) := back_of (bytes := mC M') (maxL := mL M') (ret := mR M') (h l D dA) hpre.1 rfl rfl (zroom hroom t5).1 (zroom hroom t5).2 (pay_in hts hG) List.mem_cons_self (fun a' U hW => word_at hW (Or.inl (by first | rfl | simp [Cond.onTables, Cond.keeps, Cond.steady])) (hts _ t2))
    obtain ⟨mk, hnamed⟩ : ∃ mk, s.methodNamed? (mY M') = some mk := by
      obtain ⟨-, -, r1, -, -, -, -, hn1⟩ := Cond.sameMethod_found (hts _ hsm)
      exact ⟨r1, hn1⟩
    obtain ⟨methM, cM, hmethM, -, -, -, -, -, -, hsigM⟩ := Cond.code_spec hnamed (hts _ t1)
    have hstatic : methM.isStatic = true := Cond.static_spec hnamed hmethM (hts _ hs)
    obtain ⟨kP, hkP, -⟩ := className_of_methodNamed hnamed
    have hinitP : kP.init = .initialized := Cond.initialized_spec (findClass_of_methodNamed hnamed) hkP (hts _ t2)
    intro T hT X
    obtain ⟨vm₁, X₁, hstep₁⟩ := zs_up X hx hown (hts _ lk) (hts _ hsm) t3 hnamed hmethM hstatic hkP hinitP (g := F0 m pc ls (a2 :: a1 :: st)) rfl (argsL := [a1, a2]) (rest := st) (by have := zlen t4 _ hsigM; rw [← this]; rfl) rfl (by rw [hb]; exact hd)
    obtain ⟨v, ⟨U', l2, c2, s2⟩, X', ⟨g', mk', t, L', e1, e2, hq', h1, hL, h2, h3⟩, hsteps⟩ := hKb m meth c ⟨T.setVm vm₁, locs, u.1, u.2⟩ (F0 m pc ls st) (.invokestatic idx) mk [a1, a2].toArray X₁ rfl (by rw [hml]; exact hl.1) (by rw [hb]; exact hd) (lv_room hst) (X₁.named hnamed) ⟨hf.1, hf.2, hpre.2 (T.setVm vm₁) hT X₁.warmed⟩
    dsimp only [Pt.U, Pt.locs, Pt.cells, Pt.slots] at X' e1 e2 h1 h2 h3 hsteps
    subst h1; subst h2; subst h3
    exact ⟨v, (T.setVm vm₁).calling g' mk' [a1, a2].toArray, t, U', L', hT, X', hL, e1, e2, hq', fun target h => (hstep₁ _ fun acts => by rw [doInvoke_state]; exact hsteps.trans h)⟩
  · rw [hz.1, hz.2]
    exact hp p l e R s m args below meth c Q D dA C H1 locs1 ls hR1 hV1 hl
end CZ4
