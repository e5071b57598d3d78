section ZR3
variable {G : ZG} {M : ZM} {d pc pc' : Nat} {L L' : List (Option Value)} {st st' : List Value} {α α' : AH} {u u' : Nat × Nat} {post : Option Value → AH → Prop}
/-! making cells -/
def zNew (own : String) (idx c : Nat) : Prop := ∃ (C : String) (T : u_T) (N : Nat), vwCl[c]? = some (C, T, N) ∧ Cond.classLink own idx C ∈ zT ∧ Cond.instantiable C N ∈ zT ∧ Cond.initialized C ∈ zT
theorem zdef {o : Nat} {α : AH} {sh : Nat × Nat} {f : Nat → Int32} (hf : ∀ j, f j = 0) (t : FieldType) (ht : t ≠ .float ∧ t ≠ .double) (j : Nat) : defaultValue t = zfv o t (nw α sh f) (hN α) j := by
  have h1 : hI (nw α sh f) (hN α) j = 0 := by show u1 α.2.2.1 α.1 f α.1 j = 0; rw [u1_s]; exact hf j
  have h2 : hJ (nw α sh f) (hN α) j = 0 := by show u1 α.2.2.2.1 α.1 (fun _ => 0) α.1 j = 0; rw [u1_s]
  have h3 : hP (nw α sh f) (hN α) j = none := by show u1 α.2.2.2.2 α.1 (fun _ => none) α.1 j = none; rw [u1_s]
  unfold zfv
  rw [h1, h2, h3]
  cases t <;> first | rfl | exact absurd rfl ht.1 | exact absurd rfl ht.2
theorem hS_nw {α : AH} {sh : Nat × Nat} {f : Nat → Int32} : hS (nw α sh f) (hN α) = sh := u1_s _ _ _
theorem Z_new {c idx : Nat} (hd : decode (mC M) pc = .ok (.new idx, 3)) (hc : zCls c) (hw : zNew (mY M).cls idx c) (hty : ∀ j, j < znf c → zTy c j ≠ .float ∧ zTy c j ≠ .double) (hu : u.1 + 1 ≤ mK M ∧ u.2 + znf c ≤ mS M)
    (kk : Z G M d (pc + 3) L (.ref (G.1 + hN α) :: st) (nw α (c + 4, znf c) (fun _ => 0)) (u.1 + 1, u.2 + znf c) post) : Z G M d pc L st α u post := by
  refine Z.goW (fun p l e R s m args below meth c' Q D dA H locs ls C hR hV hl kk => ?_) kk
  obtain ⟨hx, hb, -, hown, hts, hname, hK, -, hos, hroom, -⟩ := C
  obtain ⟨C, T, N, e1, e2, hin, hnm, hpt⟩ := hc
  obtain ⟨C2, T2, N2, f1, f2, f3, f4⟩ := hw
  cases e1.symm.trans f1
  have hKn := hK.1 c _ e1
  subst e2
  refine W.newcK hx hb hown (hts _ f2) (hts _ f3) (hts _ f4) rfl hd (Nat.le_trans hu.1 hroom.2.2.1) (Nat.le_trans hu.2 hroom.2.2.2) hKn.2.1 hR.1 fun H1 kC hkC e1' z1 o1 => ?_
  refine kk H1 locs (hR.new (by rw [z1, hR.1]) (fun q hq => o1 q (by rw [← hR.1]; exact hq)) ?_) ⟨Nat.le_trans hV.1 (by rw [z1, hR.1]; omega), fun q h1 h2 => (o1 q (by rw [← hR.1]; exact Nat.lt_of_lt_of_le h1 hV.1)).trans (hV.2.1 q h1 h2), hV.2.2⟩
  unfold zAt
  rw [hS_nw]
  exact (u_born (zTy c) hts hin hKn hkC e1' hpt).to (fun j hj => zdef (fun _ => rfl) _ (hty j hj) j)
theorem Z_newa {t : Nat} {ty : FieldType} {atype : ArrayType} {n : Int32} {N : Nat} (hd : decode (mC M) pc = .ok (.newarray atype, 2)) (hty : newarray.typeOf atype = ty) (ht : (t = 0 ∧ ty = .int) ∨ (t = 1 ∧ ty = .long) ∨ (t = 2 ∧ ty = .boolean)) (ha : Cond.arrayClass ty ∈ zT) (hn : ¬ n < 0) (hN' : n.toNatClampNeg = N) (hb8 : N * 8 ≤ 536870912) (hu : u.1 + 1 ≤ mK M ∧ u.2 + N ≤ mS M)
    (kk : Z G M d (pc + 2) L (.ref (G.1 + hN α) :: st) (nw α (t, N) (fun _ => 0)) (u.1 + 1, u.2 + N) post) : Z G M d pc L (.int n :: st) α u post := by
  refine Z.goW (fun p l e R s m args below meth c' Q D dA H locs ls C hR hV hl kk => ?_) kk
  obtain ⟨hx, hb, -, hown, hts, hname, hK, -, hos, hroom, -⟩ := C
  subst hty
  refine va_newaK hx hb (hts _ ha) rfl hd rfl hn hN' ?_ (Nat.le_trans hu.1 hroom.2.2.1) (Nat.le_trans hu.2 hroom.2.2.2) hR.1 fun H1 cA e1' z1 o1 hof hfc => ?_
  · rcases ht with ⟨-, h⟩ | ⟨-, h⟩ | ⟨-, h⟩ <;> rw [h] <;> simp only [componentBytes] <;> omega
  refine kk H1 locs (hR.new (by rw [z1, hR.1]) (fun q hq => o1 q (by rw [← hR.1]; exact hq)) ?_) ⟨Nat.le_trans hV.1 (by rw [z1, hR.1]; omega), fun q h1 h2 => (o1 q (by rw [← hR.1]; exact Nat.lt_of_lt_of_le h1 hV.1)).trans (hV.2.1 q h1 h2), hV.2.2⟩
  have h1 : ∀ j, hI (nw α (t, N) (fun _ => 0)) (hN α) j = 0 := fun j => by show u1 α.2.2.1 α.1 (fun _ => 0) α.1 j = 0; rw [u1_s]
  have h2 : ∀ j, hJ (nw α (t, N) (fun _ => 0)) (hN α) j = 0 := fun j => by show u1 α.2.2.2.1 α.1 (fun _ => 0) α.1 j = 0; rw [u1_s]
  unfold zAt
  rw [hS_nw]
  rcases ht with ⟨rfl, h⟩ | ⟨rfl, h⟩ | ⟨rfl, h⟩
  · rw [h] at e1' hfc
    have hA : va_RA s (dA 0) .int := (hK.2 0 _ rfl).2
    cases hfc.symm.trans hA
    show H1[G.1 + hN α]? = some (arrV (dA 0) N (fun j => .int (hI (nw α (0, N) (fun _ => 0)) (hN α) j)))
    rw [e1']
    congr 2
    funext j
    rw [h1]
    rfl
  · rw [h] at e1' hfc
    have hA : va_RA s (dA 1) .long := (hK.2 1 _ rfl).2
    cases hfc.symm.trans hA
    show H1[G.1 + hN α]? = some (arrV (dA 1) N (fun j => .long (hJ (nw α (1, N) (fun _ => 0)) (hN α) j)))
    rw [e1']
    congr 2
    funext j
    rw [h2]
    rfl
  · rw [h] at e1' hfc
    have hA : va_RA s (dA 2) .boolean := (hK.2 2 _ rfl).2
    cases hfc.symm.trans hA
    show H1[G.1 + hN α]? = some (arrV (dA 2) N (fun j => .int (hI (nw α (2, N) (fun _ => 0)) (hN α) j)))
    rw [e1']
    congr 2
    funext j
    rw [h1]
    rfl
/-! what nobody writes -/
def zStt (own : String) (idx i : Nat) : Prop := Cond.fieldLink own idx "DaysBag" (zArr i).1 "[I" ∈ zT ∨ ∃ host, Cond.fieldLinkNest own idx "DaysBag" (zArr i).1 "[I" host ∈ zN
theorem Z_gets {i idx : Nat} (hd : decode (mC M) pc = .ok (.getstatic idx, 3)) (hi : i < 3) (hw : zStt (mY M).cls idx i) (kk : Z G M d (pc + 3) L (.ref (G.2 i) :: st) α u post) : Z G M d pc L st α u post := by
  refine Z.goR (fun p l e R s m args below meth c' Q D dA H locs ls C hR hV hl kk => ?_) kk
  obtain ⟨hx, hb, -, hown, hts, hname, hK, hX, -⟩ := C
  rcases hw with h | ⟨host, h⟩
  · exact va_gets hx hb (hX.1 i hi).1 hV hown (hts _ h) (fun _ h => h) hd kk
  · exact va_getsN hx hb (hX.1 i hi).1 hV hown ((hX.2.2.2.1 _ h).use rfl) (fun _ h => h) hd kk
theorem Z_ti {i m : Nat} {k : Int32} (hd : decode (mC M) pc = .ok (.iaload, 1)) (hi : i < 3) (hix : zix k (zArr i).2.length m) (kk : Z G M d (pc + 1) L (.int ((zArr i).2.getD m 0) :: st) α u post) : Z G M d pc L (.int k :: .ref (G.2 i) :: st) α u post := by
  obtain ⟨hin, rfl⟩ := hix
  refine Z.goR (fun p l e R s m args below meth c' Q D dA H locs ls C hR hV hl kk => ?_) kk
  obtain ⟨hx, hb, -, hown, hts, hname, hK, hX, -⟩ := C
  exact va_ti hx hb (hX.1 i hi).2 hV hin rfl hd kk
/-- the script of the law -/
theorem Z_scr {m : Nat} {k : Int32} (hd : decode (mC M) pc = .ok (.iaload, 1)) (hix : zix k (G.2 51) m) (kk : Z G M d (pc + 1) L (.int (Int32.ofNat (G.2 (100 + m))) :: st) α u post) : Z G M d pc L (.int k :: .ref (G.2 50) :: st) α u post := by
  obtain ⟨hin, rfl⟩ := hix
  refine Z.goR (fun p l e R s m args below meth c' Q D dA H locs ls C hR hV hl kk => ?_) kk
  obtain ⟨hx, hb, -, hown, hts, hname, hK, hX, -⟩ := C
  exact va_ti hx hb hX.2.2.2.2.1.2 hV hin rfl hd kk
theorem Z_ldc {idx : Nat} {v : Int32} (hd : decode (mC M) pc = .ok (.ldc idx, 2)) (hw : Cond.constant (mY M).cls idx v ∈ zT) (kk : Z G M d (pc + 2) L (.int v :: st) α u post) : Z G M d pc L st α u post :=
  Z.goR (fun p l e R s m args below meth c' Q D dA H locs ls C hR hV hl kk => lv_ldc C.1 C.2.1 C.2.2.2.1 (C.2.2.2.2.1 _ hw) hd kk) kk
theorem Z_ldc2 {idx : Nat} {v : Int64} (hd : decode (mC M) pc = .ok (.ldc2_w idx, 3)) (hw : Cond.constantLong (mY M).cls idx v ∈ zT) (kk : Z G M d (pc + 3) L (.long v :: st) α u post) : Z G M d pc L st α u post :=
  Z.goR (fun p l e R s m args below meth c' Q D dA H locs ls C hR hV hl kk => lv_ldc2 C.1 C.2.1 C.2.2.2.1 (C.2.2.2.2.1 _ hw) hd kk) kk
theorem Z_ldcS {i idx : Nat} (hd : decode (mC M) pc = .ok (.ldc idx, 2)) (hi : i < 12) (hw : (zStr i).1 = (mY M).cls ∧ (zStr i).2.1 = idx) (kk : Z G M d (pc + 2) L (.ref (G.2 (10 + i)) :: st) α u post) : Z G M d pc L st α u post :=
  Z.goR (fun p l e R s m args below meth c' Q D dA H locs ls C hR hV hl kk => va_ldcS C.1 C.2.1 C.2.2.2.1 (by have := (C.2.2.2.2.2.2.2.1.2.1 i hi).1; rw [hw.1, hw.2] at this; exact this) hd kk) kk
/-! contracts -/
def zRoom (M : ZM) (d : Nat) : Room := { frames := d, cells := mK M, slots := mS M, locals := 64 * d }
def zW (M : ZM) : List Cond := .code (mY M) (mC M) (mL M) (mR M) :: zT
def zPc (G : ZG) (D : va_G) (dA : Nat → ClassId) (av : List Value) (α : AH) : Array Value → State → Prop := va_Pc av (fun U => zR G.1 D dA α U.heap ∧ va_K D vwCl (zTys dA) U ∧ zX G U ∧ G.1 ≤ U.heap.size)
def zQc (G : ZG) (D : va_G) (dA : Nat → ClassId) (post : Option Value → AH → Prop) : Array Value → State → Outcome → State → Prop := fun _ st oc t => (∃ (v : Option Value) (α : AH), oc = .returned v ∧ post v α ∧ zR G.1 D dA α t.heap) ∧ va_F (zA G.1) st t
/-- the method M, called with av over α within d frames more, returns with post -/
def ZK (G : ZG) (d : Nat) (M : ZM) (av : List Value) (α : AH) (post : Option Value → AH → Prop) : Prop := ∀ (l : Launch) (D : va_G) (dA : Nat → ClassId), Met l (mY M) (zW M) (zRoom M d) (zPc G D dA av α) (zQc G D dA post) (mK M) (mS M) (zA G.1)
def zargs : List Value → List (Option Value)
  | [] => []
  | v :: r => if v.category = 2 then some v :: none :: zargs r else some v :: zargs r
theorem zargs_in : ∀ (av : List Value) (i j : Nat) (v : Value), (zargs av)[j]? = some (some v) → (i + j, v) ∈ lv_args i av
  | [], i, j, v, h => by simp [zargs] at h
  | w :: r, i, j, v, h => by
    unfold zargs at h
    unfold lv_args
    split at h
    · rename_i hc
      rw [if_pos hc]
      match j, h with
      | 0, h => simp at h; rw [h]; exact List.mem_cons_self
      | 1, h => simp at h
      | j + 2, h =>
        have h' : (zargs r)[j]? = some (some v) := by simpa using h
        have := zargs_in r (i + 2) j v h'
        rw [show i + 2 + j = i + (j + 2) by omega] at this
        exact List.mem_cons_of_mem _ this
    · rename_i hc
      rw [if_neg hc]
      match j, h with
      | 0, h => simp at h; rw [h]; exact List.mem_cons_self
      | j + 1, h =>
        have h' : (zargs r)[j]? = some (some v) := by simpa using h
        have := zargs_in r (i + 1) j v h'
        rw [show i + 1 + j = i + (j + 1) by omega] at this
        exact List.mem_cons_of_mem _ this
theorem zX.same {G : ZG} {s U : State} (h : zX G s) (hv : U.vm = s.vm) (hh : U.heap = s.heap) : zX G U := by
  have hA : s.vm.Alike U.vm := by rw [hv]; exact Vm.Alike.refl _
  have hq : ∀ a : Nat, a < s.heap.size → ¬ zA G.1 a → U.heap[a]? = s.heap[a]? := fun a _ _ => by rw [hh]
  obtain ⟨h1, h2, h3, h4, h5, h6, h7⟩ := h
  refine ⟨fun i hi => ⟨((h1 i hi).1.moved hA).kept hq, ((h1 i hi).2.moved hA).kept hq⟩, fun i hi => ?_, (h3.moved hA).kept hq, fun w hw => (h4 w hw).same (zkind_tab (List.mem_filter.mp hw).2) hv.symm, ⟨va_AO.moved hA h5.1, (h5.2.moved hA).kept hq⟩, fun q hq => va_Nc.moved hA (h6 q hq), (va_Zq.moved hA h7).kept hq⟩
  obtain ⟨g1, g2, g3, g4, g5⟩ := h2 i hi
  exact ⟨g1.same hv, (va_O.moved hA g2).kept hq, (va_OF.moved hA g3).kept hq, (va_OF.moved hA g4).kept hq, (va_T.moved hA g5).kept hq⟩
theorem zPc_blind {D : va_G} {dA : Nat → ClassId} {av : List Value} : FrameBlind (zPc G D dA av α) := fun _ U _ _ h => ⟨h.1, h.2.1, va_K.moved (u := U) (Vm.Alike.refl U.vm) h.2.2.1, h.2.2.2.1.same rfl rfl, h.2.2.2.2⟩
/-- a contract out of the walk from the method's entry -/
theorem ZK.of {av : List Value} {n : Nat} (hy : plainName (mY M).cls = true) (hn : (lg_sl av).length ≤ mL M) (hL : zargs av ++ List.replicate n none = L) (k : Z G M d 0 L [] α (0, 0) post) : ZK G d M av α post := by
  intro l D dA
  refine Met.ofW (cc := mC M) (maxL := mL M) (ret := mR M) hy rfl ?_
  intro p e s m args below meth c s₁ B hml hv
  obtain ⟨rfl, hR, hK, hX, ho⟩ := hv
  have hx := B.exec
  have hb := B.bytes
  have hr := B.returns
  have hts0 := atoms_spec (ws := zW M) B.pre
  have hts : ∀ w ∈ zT, w.before av.toArray s = true := fun w h => hts0 w (List.mem_cons_of_mem _ h)
  have hown : s.vm.findClass (mY M).cls = some m.cls := findClass_of_methodNamed B.named
  have hlocks := B.notSynchronized
  have hnm : meth.name = (mY M).name := (name_of_methodNamed B.named B.method).1
  have hl := lv_entry av (n := mL M) hn
  rw [lg_entry_eq]
  generalize (lg_sl av ++ List.replicate (mL M - (lg_sl av).length) Slot.unset).toArray = ls at hl ⊢
  have hS : va_S (zA G.1) s.heap s.heap [] := va_S.rf
  have hzl : zL ls (mL M) L := by
    refine zL.of hl (fun i v h => ?_)
    rw [← hL, List.getElem?_append] at h
    split at h
    · have := zargs_in av 0 i v h
      rwa [Nat.zero_add] at this
    · rw [List.getElem?_replicate] at h
      split at h <;> cases h
  refine k p l e (headSpec (zW M) (zRoom M d)).room s m av.toArray below meth c _ D dA ⟨hx, hb, hml, hown, hts, hnm, hK, hX, ho, ⟨Nat.le_refl _, Nat.le_refl _, Nat.le_refl _, Nat.le_refl _⟩, ?_⟩ s.heap [] ls hR hS hzl
  intro v β H locs cells slots pc ls' hp hRβ hSβ hc1 hc2 hret
  refine W.widen (k := mK M) (n := mS M) hc1 hc2 ?_
  have hq : ∀ t : State, t.heap = H → s.WarmedH t.vm → zQc G D dA post av.toArray s (.returned v) t := fun t ht _ => ⟨⟨v, β, rfl, hp, by rw [ht]; exact hRβ⟩, hSβ.F ht⟩
  rcases hret with ⟨x, ty, rfl, h1, h2, h3⟩ | ⟨x, rfl, h1, h3⟩ | ⟨r, rt, rfl, h0, h1, h2, h3⟩ | ⟨rfl, h1, h3⟩
  · exact W.zret hx hb (hr.trans h1) h2 hq hSβ.2.2 h3
  · exact W.lret hx hb (hr.trans h1) hq hSβ.2.2 h3
  · exact W.aret hx hb (hr.trans h1) h2 h0 hq hSβ.2.2 h3
  · exact W.vret hx hb (hr.trans h1) hq hSβ.2.2 h3
/-- a contract's end may be weakened -/
theorem ZK.mono {av : List Value} {post' : Option Value → AH → Prop} (h : ZK G d M av α post) (hp : ∀ v β, post v β → post' v β) : ZK G d M av α post' := by
  intro l D dA
  exact MetFree.mono (h l D dA) (fun _ _ h => h) (fun _ _ _ _ _ h => h) (fun _ _ _ _ _ ⟨⟨⟨v, β, e1, e2, e3⟩, e4⟩, e5⟩ => ⟨⟨⟨v, β, e1, hp v β e2, e3⟩, e4⟩, e5⟩)
end ZR3
