section ZR4
variable {G : ZG} {M M' : ZM} {d pc pc' n : Nat} {L L' : List (Option Value)} {st st' : List Value} {α α' : AH} {u u' : Nat × Nat} {post : Option Value → AH → Prop}
def zst : Option Value → List Value → List Value
  | none, st => st
  | some v, st => v :: st
theorem zst_eq (v : Option Value) (st : List Value) : v.toList ++ st = zst v st := by cases v <;> rfl
/-- what every call of M' needs: its code, its class, its parameters -/
def zTo (M' : ZM) (n : Nat) : Prop := Cond.code (mY M') (mC M') (mL M') (mR M') ∈ zT ∧ Cond.initialized (mY M').cls ∈ zT ∧ ((mY M').cls ≠ "java/lang/invoke/MethodHandle" ∧ (mY M').cls ≠ "java/lang/invoke/VarHandle") ∧ (parseMethodDescriptor (mY M').desc).map (fun d => d.parameters.length) = some n ∧ mL M' ≤ 45
def zLk (own : String) (idx : Nat) (y : MethodName) : Prop := Cond.methodLink own idx y ∈ zT ∨ ∃ host, Cond.methodLinkNest own idx y host ∈ zN
theorem zW_good (h : zTo M' n) : GoodIn zT (zW M') := fun w hw => (List.mem_cons.mp hw).elim (fun e => by subst e; exact ⟨h.1, zT_good _ h.1⟩) (fun h => ⟨h, zT_good _ h⟩)
theorem zNw {s : State} {args : Array Value} {w : Cond} (hw : w.onTables = true) (h : w.before args s = true) : va_Nw w s := va_tabs hw rfl h
/-- behind a call -/
theorem z_call {p : Program} {l : Launch} {e : Env} {R : Room} {s : State} {m : MethodId} {args : Array Value} {below : List Frame} {meth : Method} {c : Code} {H H0 : Heap} {locs : List Loc} {cells slots mc ms : Nat} {Q : State → Prop} {D : va_G} {dA : Nat → ClassId} {ls : Array Slot} {st0 rest : List Value} {a : Array Value} {post' : Option Value → AH → Prop}
    (hr : va_Run p l e R s m args below meth c H locs cells slots mc ms (F0 m pc ls st0) rest (zQc G D dA post' a) (zA G.1)) (hS : va_S (zA G.1) H0 H locs)
    (kk : ∀ (v : Option Value) (β : AH) (H1 : Heap) (locs1 : List Loc), post' v β → zR G.1 D dA β H1 → va_S (zA G.1) H0 H1 locs1 → W p l e R s m args below meth c H1 locs1 (cells + mc) (slots + ms) Q (F0 m (pc + 3) ls (zst v rest))) : W p l e R s m args below meth c H locs cells slots Q (F0 m pc ls st0) := by
  intro T hT X
  obtain ⟨v0, st₀, t, T', L, h0, X', hL, e1, e2, ⟨⟨v, β, hv, hp, hRβ⟩, hz, hk⟩, stp⟩ := hr T hT X
  cases hv
  rw [h0] at hz hk
  obtain ⟨t2, a1, b1⟩ := kk v0 β T'.heap (locs ++ L) hp (by rw [e1]; exact hRβ)
    ⟨Nat.le_trans hS.1 (by rw [e1]; exact hz), fun q h1 h2 => by rw [e1, hk q (Nat.lt_of_lt_of_le h1 hS.1) h2]; exact hS.2.1 q h1 h2, fun q hq => by
      rcases List.mem_append.mp hq with h | h
      · exact hS.2.2 q h
      · exact hL q h⟩ T' rfl X'
  rw [← zst_eq] at a1
  exact ⟨t2, stp t2 a1, b1⟩
theorem zPre {p : Program} {l : Launch} {e : Env} {R : Room} {s : State} {m : MethodId} {args : Array Value} {below : List Frame} {meth : Method} {c : Code} {Q : State → Prop} {D : va_G} {dA : Nat → ClassId} {H : Heap} {locs : List Loc} {av : List Value} (C : ZC G M d post p l e R s m args below meth c Q D dA) (hR : zR G.1 D dA α H) (hV : va_S (zA G.1) s.heap H locs) : PreS s H (zPc G D dA av α) av := by
  refine ⟨zPc_blind, fun U hU hW => ⟨rfl, by rw [hU]; exact hR, va_K.moved hW.alike C.2.2.2.2.2.2.1, C.2.2.2.2.2.2.2.1.to hW (fun a h1 h2 => by rw [hU]; exact hV.2.1 a h1 h2), ?_⟩⟩
  rw [hU]
  exact Nat.le_trans C.2.2.2.2.2.2.2.2.1 hV.1
theorem zrecv {p : Program} {l : Launch} {e : Env} {R : Room} {s : State} {m : MethodId} {args : Array Value} {below : List Frame} {meth : Method} {c : Code} {Q : State → Prop} {D : va_G} {dA : Nat → ClassId} {H : Heap} {k ci z : Nat} {q : vw_C} (C : ZC G M d post p l e R s m args below meth c Q D dA) (hR : zR G.1 D dA α H) (hs : zIs α k (ci + 4, z)) (hq : vwCl[ci]? = some q) : ∃ cellB : Cell, H[G.1 + k]? = some cellB ∧ cellB.vm.isStatics = false ∧ s.vm.findClass q.1 = some cellB.cls := by
  obtain ⟨cell, q1, q2, q3, q4⟩ := (hR.2 k hs.1).o hs.2
  exact ⟨cell, q1, by rw [q3]; rfl, by rw [q2]; exact (C.2.2.2.2.2.2.1.1 ci _ hq).2.1⟩
theorem zroom {R : Room} (h : d + 1 ≤ R.frames ∧ 64 * (d + 1) ≤ R.locals ∧ mK M ≤ R.cells ∧ mS M ≤ R.slots) (hm : mL M' ≤ 45) : (zRoom M' d).frames + 1 ≤ R.frames ∧ 8 + (mL M' + 11) + (zRoom M' d).locals ≤ R.locals := by
  refine ⟨h.1, ?_⟩
  have := h.2.1
  show 8 + (mL M' + 11) + 64 * d ≤ R.locals
  omega
theorem zlen {desc : String} (h : (parseMethodDescriptor desc).map (fun d => d.parameters.length) = some n) : ∀ sig, parseMethodDescriptor desc = some sig → n = sig.parameters.length := fun sig e => by
  rw [e] at h
  exact (Option.some.inj h).symm
theorem Z_runS {idx : Nat} {av st0 : List Value} (hd : decode (mC M) pc = .ok (.invokestatic idx, 3)) (to : zTo M' n) (lk : zLk (mY M).cls idx (mY M')) (hs : Cond.static (mY M') ∈ zT) (hn : av.length = n) (hst : (st.map fun v => v.category).sum ≤ 8) (hu : u.1 + mK M' ≤ mK M ∧ u.2 + mS M' ≤ mS M) (hstk : st0 = av.reverse ++ st)
    (h : ZK G d M' av α (fun v α1 => Z G M (d + 1) (pc + 3) L (zst v st) α1 (u.1 + mK M', u.2 + mS M') post)) : Z G M (d + 1) pc L st0 α u post := by
  subst hstk
  intro p l e R s m args below meth c Q D dA C H locs ls hR hV hl
  have C' := C
  obtain ⟨hx, hb, hml, hown, hts, hname, hK, hX, hos, hroom, -⟩ := C'
  have hfix : CallFix p m c (mC M) (mL M) s args zT (mY M).cls := ⟨hx, hb, hml, hown, hts⟩
  have hf : u.1 + mK M' ≤ R.cells ∧ u.2 + mS M' ≤ R.slots := ⟨Nat.le_trans hu.1 hroom.2.2.1, Nat.le_trans hu.2 hroom.2.2.2⟩
  obtain ⟨t1, t2, t3, t4, t5⟩ := to
  rcases lk with lk | ⟨host, lk⟩
  · refine z_call (va_runS (g := F0 m pc ls (av.reverse ++ st)) hfix (h l D dA) ⟨callB_of n hts (zW_good ⟨t1, t2, t3, t4, t5⟩) rfl rfl rfl (hts _ t2) (hts _ lk) ⟨t3.1, t3.2, t4⟩ (zroom hroom t5), hts _ hs⟩ (zPre C hR hV) rfl hn hl.1 rfl (lv_room hst) hd hf) hV (fun v β H1 locs1 hp hR1 hV1 => ?_)
    exact hp p l e R s m args below meth c Q D dA C H1 locs1 ls hR1 hV1 hl
  · refine z_call (va_runSN (g := F0 m pc ls (av.reverse ++ st)) hfix (h l D dA) ⟨va_cnB n hts (zW_good ⟨t1, t2, t3, t4, t5⟩) rfl rfl rfl (hX.2.2.2.1 _ lk) (hts _ t2) ⟨t3.1, t3.2, t4⟩ (zroom hroom t5), hts _ hs, trivial⟩ (zPre C hR hV) rfl hn hl.1 rfl (lv_room hst) hd hf) hV (fun v β H1 locs1 hp hR1 hV1 => ?_)
    exact hp p l e R s m args below meth c Q D dA C H1 locs1 ls hR1 hV1 hl
theorem Z_runV {idx k ci z : Nat} {q : vw_C} {av st0 : List Value} (hd : decode (mC M) pc = .ok (.invokevirtual idx, 3)) (to : zTo M' n) (lk : zLk (mY M).cls idx (mY M')) (hi : Cond.instanceMethod (mY M') ∈ zT) (hse : Cond.selects (mY M').cls (mY M') (mY M') ∈ zT) (hq : vwCl[ci]? = some q ∧ q.1 = (mY M').cls) (hk : zIs α k (ci + 4, z)) (hn : av.length = n) (hst : (st.map fun v => v.category).sum ≤ 8) (hu : u.1 + mK M' ≤ mK M ∧ u.2 + mS M' ≤ mS M) (hstk : st0 = av.reverse ++ .ref (G.1 + k) :: st)
    (h : ZK G d M' (.ref (G.1 + k) :: av) α (fun v α1 => Z G M (d + 1) (pc + 3) L (zst v st) α1 (u.1 + mK M', u.2 + mS M') post)) : Z G M (d + 1) pc L st0 α u post := by
  subst hstk
  intro p l e R s m args below meth c Q D dA C H locs ls hR hV hl
  have C' := C
  obtain ⟨hx, hb, hml, hown, hts, hname, hK, hX, hos, hroom, -⟩ := C'
  have hfix : CallFix p m c (mC M) (mL M) s args zT (mY M).cls := ⟨hx, hb, hml, hown, hts⟩
  have hf : u.1 + mK M' ≤ R.cells ∧ u.2 + mS M' ≤ R.slots := ⟨Nat.le_trans hu.1 hroom.2.2.1, Nat.le_trans hu.2 hroom.2.2.2⟩
  obtain ⟨t1, t2, t3, t4, t5⟩ := to
  have hrec := zrecv C hR hk hq.1
  rw [hq.2] at hrec
  rcases lk with lk | ⟨host, lk⟩
  · refine z_call (va_runV (C := (mY M').cls) (g := F0 m pc ls (av.reverse ++ .ref (G.1 + k) :: st)) hfix (h l D dA) ⟨callB_of n hts (zW_good ⟨t1, t2, t3, t4, t5⟩) rfl rfl rfl (hts _ t2) (hts _ lk) ⟨t3.1, t3.2, t4⟩ (zroom hroom t5), hts _ hi, hts _ hse⟩ ⟨(zPre C hR hV).1, hrec, (zPre C hR hV).2⟩ rfl hn hl.1 rfl (lv_room hst) hd hf) hV (fun v β H1 locs1 hp hR1 hV1 => ?_)
    exact hp p l e R s m args below meth c Q D dA C H1 locs1 ls hR1 hV1 hl
  · refine z_call (va_runVN (C := (mY M').cls) (g := F0 m pc ls (av.reverse ++ .ref (G.1 + k) :: st)) hfix (h l D dA) ⟨va_cnB n hts (zW_good ⟨t1, t2, t3, t4, t5⟩) rfl rfl rfl (hX.2.2.2.1 _ lk) (hts _ t2) ⟨t3.1, t3.2, t4⟩ (zroom hroom t5), hts _ hi, hts _ hse⟩ ⟨(zPre C hR hV).1, hrec, (zPre C hR hV).2⟩ rfl hn hl.1 rfl (lv_room hst) hd hf) hV (fun v β H1 locs1 hp hR1 hV1 => ?_)
    exact hp p l e R s m args below meth c Q D dA C H1 locs1 ls hR1 hV1 hl
theorem Z_runI {idx k : Nat} {av st0 : List Value} (hd : decode (mC M) pc = .ok (.invokespecial idx, 3)) (to : zTo M' n) (lk : zLk (mY M).cls idx (mY M')) (hi : Cond.instanceMethod (mY M') ∈ zT) (hy : (mY M').name = "<init>" ∧ mR M' = none) (hn : av.length = n) (hst : (st.map fun v => v.category).sum ≤ 8) (hu : u.1 + mK M' ≤ mK M ∧ u.2 + mS M' ≤ mS M) (hstk : st0 = av.reverse ++ .ref (G.1 + k) :: st)
    (h : ZK G d M' (.ref (G.1 + k) :: av) α (fun v α1 => Z G M (d + 1) (pc + 3) L (zst v st) α1 (u.1 + mK M', u.2 + mS M') post)) : Z G M (d + 1) pc L st0 α u post := by
  subst hstk
  intro p l e R s m args below meth c Q D dA C H locs ls hR hV hl
  have C' := C
  obtain ⟨hx, hb, hml, hown, hts, hname, hK, hX, hos, hroom, -⟩ := C'
  have hfix : CallFix p m c (mC M) (mL M) s args zT (mY M).cls := ⟨hx, hb, hml, hown, hts⟩
  have hf : u.1 + mK M' ≤ R.cells ∧ u.2 + mS M' ≤ R.slots := ⟨Nat.le_trans hu.1 hroom.2.2.1, Nat.le_trans hu.2 hroom.2.2.2⟩
  obtain ⟨t1, t2, t3, t4, t5⟩ := to
  have hw : zW M' = Cond.code (mY M') (mC M') (mL M') none :: zT := by unfold zW; rw [hy.2]
  rcases lk with lk | ⟨host, lk⟩
  · refine z_call (va_runI (bytes := mC M') (maxL := mL M') (g := F0 m pc ls (av.reverse ++ .ref (G.1 + k) :: st)) hfix (h l D dA) ⟨callB_of n hts (zW_good ⟨t1, t2, t3, t4, t5⟩) hw rfl rfl (hts _ t2) (hts _ lk) ⟨t3.1, t3.2, t4⟩ (zroom hroom t5), hy.1, hts _ hi⟩ (zPre C hR hV) rfl hn hl.1 rfl (lv_room hst) hd hf) hV (fun v β H1 locs1 hp hR1 hV1 => ?_)
    exact hp p l e R s m args below meth c Q D dA C H1 locs1 ls hR1 hV1 hl
  · refine z_call (va_runIN (bytes := mC M') (maxL := mL M') (g := F0 m pc ls (av.reverse ++ .ref (G.1 + k) :: st)) hfix (h l D dA) ⟨va_cnB n hts (zW_good ⟨t1, t2, t3, t4, t5⟩) hw rfl rfl (hX.2.2.2.1 _ lk) (hts _ t2) ⟨t3.1, t3.2, t4⟩ (zroom hroom t5), hy.1, hts _ hi⟩ (zPre C hR hV) rfl hn hl.1 rfl (lv_room hst) hd hf) hV (fun v β H1 locs1 hp hR1 hV1 => ?_)
    exact hp p l e R s m args below meth c Q D dA C H1 locs1 ls hR1 hV1 hl
/-- a call that is dispatched: x is what the instruction names, M' what the receiver's class C selects -/
theorem Z_runU {idx k ci z : Nat} {x : MethodName} {owner : String} {q : vw_C} {av st0 : List Value} {b0 : ByteArray} {m0 : Nat} {r0 : Option FieldType} (hd : decode (mC M) pc = .ok (.invokevirtual idx, 3)) (to : zTo M' n) (lk : Cond.methodLink (mY M).cls idx x ∈ zT) (hsm : Cond.sameMethod x.cls owner x.name x.desc ∈ zT) (hdc : Cond.instanceMethod ⟨owner, x.name, x.desc⟩ ∈ zT ∧ Cond.code ⟨owner, x.name, x.desc⟩ b0 m0 r0 ∈ zT) (ho : owner ≠ "java/lang/invoke/MethodHandle" ∧ owner ≠ "java/lang/invoke/VarHandle" ∧ x.desc = (mY M').desc) (hq : vwCl[ci]? = some q) (hse : Cond.selects q.1 x (mY M') ∈ zT) (hi : Cond.instanceMethod (mY M') ∈ zT) (hk : zIs α k (ci + 4, z)) (hn : av.length = n) (hst : (st.map fun v => v.category).sum ≤ 8) (hu : u.1 + mK M' ≤ mK M ∧ u.2 + mS M' ≤ mS M) (hstk : st0 = av.reverse ++ .ref (G.1 + k) :: st)
    (h : ZK G d M' (.ref (G.1 + k) :: av) α (fun v α1 => Z G M (d + 1) (pc + 3) L (zst v st) α1 (u.1 + mK M', u.2 + mS M') post)) : Z G M (d + 1) pc L st0 α u post := by
  subst hstk
  intro p l e R s m args below meth c Q D dA C H locs ls hR hV hl
  have C' := C
  obtain ⟨hx, hb, hml, hown, hts, hname, hK, hX, hos, hroom, -⟩ := C'
  have hfix : CallFix p m c (mC M) (mL M) s args zT (mY M).cls := ⟨hx, hb, hml, hown, hts⟩
  have hf : u.1 + mK M' ≤ R.cells ∧ u.2 + mS M' ≤ R.slots := ⟨Nat.le_trans hu.1 hroom.2.2.1, Nat.le_trans hu.2 hroom.2.2.2⟩
  have hG := zW_good to
  obtain ⟨t1, t2, t3, t4, t5⟩ := to
  have hrec := zrecv C hR hk hq
  have hcu : va_CU R s args (mY M).cls q.1 owner idx x (mY M') (mC M') (mL M') (mR M') (zW M') (zRoom M' d) (mK M') (mS M') n :=
    ⟨⟨rfl, rfl, (zroom hroom t5).1, (zroom hroom t5).2, pay_in hts hG, List.mem_cons_self⟩, hts _ t1, hts _ t2, ⟨ho.1, ho.2.1⟩, zlen (by rw [ho.2.2]; exact t4), hts _ lk, hts _ hsm, va_Decl.of (hts _ hdc.1) (hts _ hdc.2), hts _ hse, hts _ hi⟩
  refine z_call (va_runU (C := q.1) (g := F0 m pc ls (av.reverse ++ .ref (G.1 + k) :: st)) hfix (h l D dA) hcu ⟨(zPre C hR hV).1, hrec, (zPre C hR hV).2⟩ rfl hn hl.1 rfl (lv_room hst) hd hf) hV (fun v β H1 locs1 hp hR1 hV1 => ?_)
  exact hp p l e R s m args below meth c Q D dA C H1 locs1 ls hR1 hV1 hl
/-- super.m(..) -/
theorem Z_runSU {idx k ci z : Nat} {q : vw_C} {av st0 : List Value} (hd : decode (mC M) pc = .ok (.invokespecial idx, 3)) (to : zTo M' n) (lk : Cond.methodLink (mY M).cls idx (mY M') ∈ zT) (hsm : Cond.sameMethod (mY M').cls (mY M').cls (mY M').name (mY M').desc ∈ zT) (hsup : Cond.superclass (mY M).cls (mY M').cls ∈ zT) (hi : Cond.instanceMethod (mY M') ∈ zT) (hy : (mY M').name ≠ "<init>") (hq : vwCl[ci]? = some q) (hk : zIs α k (ci + 4, z)) (hn : av.length = n) (hst : (st.map fun v => v.category).sum ≤ 8) (hu : u.1 + mK M' ≤ mK M ∧ u.2 + mS M' ≤ mS M) (hstk : st0 = av.reverse ++ .ref (G.1 + k) :: st)
    (h : ZK G d M' (.ref (G.1 + k) :: av) α (fun v α1 => Z G M (d + 1) (pc + 3) L (zst v st) α1 (u.1 + mK M', u.2 + mS M') post)) : Z G M (d + 1) pc L st0 α u post := by
  subst hstk
  intro p l e R s m args below meth c Q D dA C H locs ls hR hV hl
  have C' := C
  obtain ⟨hx, hb, hml, hown, hts, hname, hK, hX, hos, hroom, -⟩ := C'
  have hfix : CallFix p m c (mC M) (mL M) s args zT (mY M).cls := ⟨hx, hb, hml, hown, hts⟩
  have hf : u.1 + mK M' ≤ R.cells ∧ u.2 + mS M' ≤ R.slots := ⟨Nat.le_trans hu.1 hroom.2.2.1, Nat.le_trans hu.2 hroom.2.2.2⟩
  have hG := zW_good to
  obtain ⟨t1, t2, t3, t4, t5⟩ := to
  have hrec := zrecv C hR hk hq
  have hcs : va_CS R s args (mY M).cls idx (mY M') (mC M') (mL M') (mR M') (zW M') (zRoom M' d) (mK M') (mS M') n :=
    ⟨⟨rfl, rfl, (zroom hroom t5).1, (zroom hroom t5).2, pay_in hts hG, List.mem_cons_self⟩, hts _ lk, hts _ hsm, hts _ hsup, hts _ hi, hts _ t2, hts _ t1, hy, zlen t4⟩
  refine z_call (va_runSU (C := q.1) (hK.1 ci _ hq).2 (g := F0 m pc ls (av.reverse ++ .ref (G.1 + k) :: st)) hfix (h l D dA) hcs ⟨(zPre C hR hV).1, hrec, (zPre C hR hV).2⟩ rfl hn hl.1 rfl (lv_room hst) hd hf) hV (fun v β H1 locs1 hp hR1 hV1 => ?_)
  exact hp p l e R s m args below meth c Q D dA C H1 locs1 ls hR1 hV1 hl
/-- Object's constructor -/
theorem Z_obj {idx : Nat} {a : Nat} (hd : decode (mC M) pc = .ok (.invokespecial idx, 3)) (hw : Cond.methodLink (mY M).cls idx Lib.objectInit ∈ zT ∧ Cond.instanceMethod Lib.objectInit ∈ zT ∧ Cond.code Lib.objectInit ⟨#[0xb1]⟩ 1 none ∈ zT) (hst : (st.map fun v => v.category).sum ≤ 8) (k : Z G M (d + 1) (pc + 3) L st α u post) : Z G M (d + 1) pc L (.ref a :: st) α u post := by
  refine Z.goR (fun p l e R s m args below meth c' Q D dA H locs ls C hR hV hl kk => ?_) k
  obtain ⟨hx, hb, hml, hown, hts, hname, hK, hX, hos, hroom, -⟩ := C
  refine W.objInit hx hb hown (hts _ hw.1) (hts _ hw.2.1) (hts _ hw.2.2) rfl (by rw [hml]; exact hl) rfl hd (Nat.le_trans (Nat.le_add_left _ _) hroom.1) ?_ kk
  have h1 := lv_room (m := m) (pc := pc) (ls := ls) (rest := .ref a :: st) hst
  have h2 := hroom.2.1
  omega
theorem Z_S0 {idx : Nat} (hd : decode (mC M) pc = .ok (.invokestatic idx, 3)) (to : zTo M' 0) (lk : zLk (mY M).cls idx (mY M')) (hs : Cond.static (mY M') ∈ zT) (hst : (st.map fun v => v.category).sum ≤ 8) (hu : u.1 + mK M' ≤ mK M ∧ u.2 + mS M' ≤ mS M) (h : ZK G d M' [] α (fun v α1 => Z G M (d + 1) (pc + 3) L (zst v st) α1 (u.1 + mK M', u.2 + mS M') post)) : Z G M (d + 1) pc L (st) α u post := Z_runS hd to lk hs rfl hst hu rfl h
theorem Z_V0 {idx k ci z : Nat} {q : vw_C} (hd : decode (mC M) pc = .ok (.invokevirtual idx, 3)) (to : zTo M' 0) (lk : zLk (mY M).cls idx (mY M')) (hi : Cond.instanceMethod (mY M') ∈ zT ∧ Cond.selects (mY M').cls (mY M') (mY M') ∈ zT) (hq : vwCl[ci]? = some q ∧ q.1 = (mY M').cls) (hk : zIs α k (ci + 4, z)) (hst : (st.map fun v => v.category).sum ≤ 8) (hu : u.1 + mK M' ≤ mK M ∧ u.2 + mS M' ≤ mS M) (h : ZK G d M' (.ref (G.1 + k) :: []) α (fun v α1 => Z G M (d + 1) (pc + 3) L (zst v st) α1 (u.1 + mK M', u.2 + mS M') post)) : Z G M (d + 1) pc L (.ref (G.1 + k) :: st) α u post := Z_runV hd to lk hi.1 hi.2 hq hk rfl hst hu rfl h
theorem Z_I0 {idx k : Nat} (hd : decode (mC M) pc = .ok (.invokespecial idx, 3)) (to : zTo M' 0) (lk : zLk (mY M).cls idx (mY M')) (hi : Cond.instanceMethod (mY M') ∈ zT) (hy : (mY M').name = "<init>" ∧ mR M' = none) (hst : (st.map fun v => v.category).sum ≤ 8) (hu : u.1 + mK M' ≤ mK M ∧ u.2 + mS M' ≤ mS M) (h : ZK G d M' (.ref (G.1 + k) :: []) α (fun v α1 => Z G M (d + 1) (pc + 3) L (zst v st) α1 (u.1 + mK M', u.2 + mS M') post)) : Z G M (d + 1) pc L (.ref (G.1 + k) :: st) α u post := Z_runI hd to lk hi hy rfl hst hu rfl h
theorem Z_S1 {idx : Nat} {a1 : Value} (hd : decode (mC M) pc = .ok (.invokestatic idx, 3)) (to : zTo M' 1) (lk : zLk (mY M).cls idx (mY M')) (hs : Cond.static (mY M') ∈ zT) (hst : (st.map fun v => v.category).sum ≤ 8) (hu : u.1 + mK M' ≤ mK M ∧ u.2 + mS M' ≤ mS M) (h : ZK G d M' [a1] α (fun v α1 => Z G M (d + 1) (pc + 3) L (zst v st) α1 (u.1 + mK M', u.2 + mS M') post)) : Z G M (d + 1) pc L (a1 :: st) α u post := Z_runS hd to lk hs rfl hst hu rfl h
theorem Z_V1 {idx k ci z : Nat} {q : vw_C} {a1 : Value} (hd : decode (mC M) pc = .ok (.invokevirtual idx, 3)) (to : zTo M' 1) (lk : zLk (mY M).cls idx (mY M')) (hi : Cond.instanceMethod (mY M') ∈ zT ∧ Cond.selects (mY M').cls (mY M') (mY M') ∈ zT) (hq : vwCl[ci]? = some q ∧ q.1 = (mY M').cls) (hk : zIs α k (ci + 4, z)) (hst : (st.map fun v => v.category).sum ≤ 8) (hu : u.1 + mK M' ≤ mK M ∧ u.2 + mS M' ≤ mS M) (h : ZK G d M' (.ref (G.1 + k) :: [a1]) α (fun v α1 => Z G M (d + 1) (pc + 3) L (zst v st) α1 (u.1 + mK M', u.2 + mS M') post)) : Z G M (d + 1) pc L (a1 :: .ref (G.1 + k) :: st) α u post := Z_runV hd to lk hi.1 hi.2 hq hk rfl hst hu rfl h
theorem Z_I1 {idx k : Nat} {a1 : Value} (hd : decode (mC M) pc = .ok (.invokespecial idx, 3)) (to : zTo M' 1) (lk : zLk (mY M).cls idx (mY M')) (hi : Cond.instanceMethod (mY M') ∈ zT) (hy : (mY M').name = "<init>" ∧ mR M' = none) (hst : (st.map fun v => v.category).sum ≤ 8) (hu : u.1 + mK M' ≤ mK M ∧ u.2 + mS M' ≤ mS M) (h : ZK G d M' (.ref (G.1 + k) :: [a1]) α (fun v α1 => Z G M (d + 1) (pc + 3) L (zst v st) α1 (u.1 + mK M', u.2 + mS M') post)) : Z G M (d + 1) pc L (a1 :: .ref (G.1 + k) :: st) α u post := Z_runI hd to lk hi hy rfl hst hu rfl h
theorem Z_S2 {idx : Nat} {a1 a2 : Value} (hd : decode (mC M) pc = .ok (.invokestatic idx, 3)) (to : zTo M' 2) (lk : zLk (mY M).cls idx (mY M')) (hs : Cond.static (mY M') ∈ zT) (hst : (st.map fun v => v.category).sum ≤ 8) (hu : u.1 + mK M' ≤ mK M ∧ u.2 + mS M' ≤ mS M) (h : ZK G d M' [a1, a2] α (fun v α1 => Z G M (d + 1) (pc + 3) L (zst v st) α1 (u.1 + mK M', u.2 + mS M') post)) : Z G M (d + 1) pc L (a2 :: a1 :: st) α u post := Z_runS hd to lk hs rfl hst hu rfl h
theorem Z_V2 {idx k ci z : Nat} {q : vw_C} {a1 a2 : Value} (hd : decode (mC M) pc = .ok (.invokevirtual idx, 3)) (to : zTo M' 2) (lk : zLk (mY M).cls idx (mY M')) (hi : Cond.instanceMethod (mY M') ∈ zT ∧ Cond.selects (mY M').cls (mY M') (mY M') ∈ zT) (hq : vwCl[ci]? = some q ∧ q.1 = (mY M').cls) (hk : zIs α k (ci + 4, z)) (hst : (st.map fun v => v.category).sum ≤ 8) (hu : u.1 + mK M' ≤ mK M ∧ u.2 + mS M' ≤ mS M) (h : ZK G d M' (.ref (G.1 + k) :: [a1, a2]) α (fun v α1 => Z G M (d + 1) (pc + 3) L (zst v st) α1 (u.1 + mK M', u.2 + mS M') post)) : Z G M (d + 1) pc L (a2 :: a1 :: .ref (G.1 + k) :: st) α u post := Z_runV hd to lk hi.1 hi.2 hq hk rfl hst hu rfl h
theorem Z_I2 {idx k : Nat} {a1 a2 : Value} (hd : decode (mC M) pc = .ok (.invokespecial idx, 3)) (to : zTo M' 2) (lk : zLk (mY M).cls idx (mY M')) (hi : Cond.instanceMethod (mY M') ∈ zT) (hy : (mY M').name = "<init>" ∧ mR M' = none) (hst : (st.map fun v => v.category).sum ≤ 8) (hu : u.1 + mK M' ≤ mK M ∧ u.2 + mS M' ≤ mS M) (h : ZK G d M' (.ref (G.1 + k) :: [a1, a2]) α (fun v α1 => Z G M (d + 1) (pc + 3) L (zst v st) α1 (u.1 + mK M', u.2 + mS M') post)) : Z G M (d + 1) pc L (a2 :: a1 :: .ref (G.1 + k) :: st) α u post := Z_runI hd to lk hi hy rfl hst hu rfl h
theorem Z_S3 {idx : Nat} {a1 a2 a3 : Value} (hd : decode (mC M) pc = .ok (.invokestatic idx, 3)) (to : zTo M' 3) (lk : zLk (mY M).cls idx (mY M')) (hs : Cond.static (mY M') ∈ zT) (hst : (st.map fun v => v.category).sum ≤ 8) (hu : u.1 + mK M' ≤ mK M ∧ u.2 + mS M' ≤ mS M) (h : ZK G d M' [a1, a2, a3] α (fun v α1 => Z G M (d + 1) (pc + 3) L (zst v st) α1 (u.1 + mK M', u.2 + mS M') post)) : Z G M (d + 1) pc L (a3 :: a2 :: a1 :: st) α u post := Z_runS hd to lk hs rfl hst hu rfl h
theorem Z_V3 {idx k ci z : Nat} {q : vw_C} {a1 a2 a3 : Value} (hd : decode (mC M) pc = .ok (.invokevirtual idx, 3)) (to : zTo M' 3) (lk : zLk (mY M).cls idx (mY M')) (hi : Cond.instanceMethod (mY M') ∈ zT ∧ Cond.selects (mY M').cls (mY M') (mY M') ∈ zT) (hq : vwCl[ci]? = some q ∧ q.1 = (mY M').cls) (hk : zIs α k (ci + 4, z)) (hst : (st.map fun v => v.category).sum ≤ 8) (hu : u.1 + mK M' ≤ mK M ∧ u.2 + mS M' ≤ mS M) (h : ZK G d M' (.ref (G.1 + k) :: [a1, a2, a3]) α (fun v α1 => Z G M (d + 1) (pc + 3) L (zst v st) α1 (u.1 + mK M', u.2 + mS M') post)) : Z G M (d + 1) pc L (a3 :: a2 :: a1 :: .ref (G.1 + k) :: st) α u post := Z_runV hd to lk hi.1 hi.2 hq hk rfl hst hu rfl h
theorem Z_I3 {idx k : Nat} {a1 a2 a3 : Value} (hd : decode (mC M) pc = .ok (.invokespecial idx, 3)) (to : zTo M' 3) (lk : zLk (mY M).cls idx (mY M')) (hi : Cond.instanceMethod (mY M') ∈ zT) (hy : (mY M').name = "<init>" ∧ mR M' = none) (hst : (st.map fun v => v.category).sum ≤ 8) (hu : u.1 + mK M' ≤ mK M ∧ u.2 + mS M' ≤ mS M) (h : ZK G d M' (.ref (G.1 + k) :: [a1, a2, a3]) α (fun v α1 => Z G M (d + 1) (pc + 3) L (zst v st) α1 (u.1 + mK M', u.2 + mS M') post)) : Z G M (d + 1) pc L (a3 :: a2 :: a1 :: .ref (G.1 + k) :: st) α u post := Z_runI hd to lk hi hy rfl hst hu rfl h
theorem Z_S4 {idx : Nat} {a1 a2 a3 a4 : Value} (hd : decode (mC M) pc = .ok (.invokestatic idx, 3)) (to : zTo M' 4) (lk : zLk (mY M).cls idx (mY M')) (hs : Cond.static (mY M') ∈ zT) (hst : (st.map fun v => v.category).sum ≤ 8) (hu : u.1 + mK M' ≤ mK M ∧ u.2 + mS M' ≤ mS M) (h : ZK G d M' [a1, a2, a3, a4] α (fun v α1 => Z G M (d + 1) (pc + 3) L (zst v st) α1 (u.1 + mK M', u.2 + mS M') post)) : Z G M (d + 1) pc L (a4 :: a3 :: a2 :: a1 :: st) α u post := Z_runS hd to lk hs rfl hst hu rfl h
theorem Z_V4 {idx k ci z : Nat} {q : vw_C} {a1 a2 a3 a4 : Value} (hd : decode (mC M) pc = .ok (.invokevirtual idx, 3)) (to : zTo M' 4) (lk : zLk (mY M).cls idx (mY M')) (hi : Cond.instanceMethod (mY M') ∈ zT ∧ Cond.selects (mY M').cls (mY M') (mY M') ∈ zT) (hq : vwCl[ci]? = some q ∧ q.1 = (mY M').cls) (hk : zIs α k (ci + 4, z)) (hst : (st.map fun v => v.category).sum ≤ 8) (hu : u.1 + mK M' ≤ mK M ∧ u.2 + mS M' ≤ mS M) (h : ZK G d M' (.ref (G.1 + k) :: [a1, a2, a3, a4]) α (fun v α1 => Z G M (d + 1) (pc + 3) L (zst v st) α1 (u.1 + mK M', u.2 + mS M') post)) : Z G M (d + 1) pc L (a4 :: a3 :: a2 :: a1 :: .ref (G.1 + k) :: st) α u post := Z_runV hd to lk hi.1 hi.2 hq hk rfl hst hu rfl h
theorem Z_I4 {idx k : Nat} {a1 a2 a3 a4 : Value} (hd : decode (mC M) pc = .ok (.invokespecial idx, 3)) (to : zTo M' 4) (lk : zLk (mY M).cls idx (mY M')) (hi : Cond.instanceMethod (mY M') ∈ zT) (hy : (mY M').name = "<init>" ∧ mR M' = none) (hst : (st.map fun v => v.category).sum ≤ 8) (hu : u.1 + mK M' ≤ mK M ∧ u.2 + mS M' ≤ mS M) (h : ZK G d M' (.ref (G.1 + k) :: [a1, a2, a3, a4]) α (fun v α1 => Z G M (d + 1) (pc + 3) L (zst v st) α1 (u.1 + mK M', u.2 + mS M') post)) : Z G M (d + 1) pc L (a4 :: a3 :: a2 :: a1 :: .ref (G.1 + k) :: st) α u post := Z_runI hd to lk hi hy rfl hst hu rfl h
theorem Z_S5 {idx : Nat} {a1 a2 a3 a4 a5 : Value} (hd : decode (mC M) pc = .ok (.invokestatic idx, 3)) (to : zTo M' 5) (lk : zLk (mY M).cls idx (mY M')) (hs : Cond.static (mY M') ∈ zT) (hst : (st.map fun v => v.category).sum ≤ 8) (hu : u.1 + mK M' ≤ mK M ∧ u.2 + mS M' ≤ mS M) (h : ZK G d M' [a1, a2, a3, a4, a5] α (fun v α1 => Z G M (d + 1) (pc + 3) L (zst v st) α1 (u.1 + mK M', u.2 + mS M') post)) : Z G M (d + 1) pc L (a5 :: a4 :: a3 :: a2 :: a1 :: st) α u post := Z_runS hd to lk hs rfl hst hu rfl h
theorem Z_V5 {idx k ci z : Nat} {q : vw_C} {a1 a2 a3 a4 a5 : Value} (hd : decode (mC M) pc = .ok (.invokevirtual idx, 3)) (to : zTo M' 5) (lk : zLk (mY M).cls idx (mY M')) (hi : Cond.instanceMethod (mY M') ∈ zT ∧ Cond.selects (mY M').cls (mY M') (mY M') ∈ zT) (hq : vwCl[ci]? = some q ∧ q.1 = (mY M').cls) (hk : zIs α k (ci + 4, z)) (hst : (st.map fun v => v.category).sum ≤ 8) (hu : u.1 + mK M' ≤ mK M ∧ u.2 + mS M' ≤ mS M) (h : ZK G d M' (.ref (G.1 + k) :: [a1, a2, a3, a4, a5]) α (fun v α1 => Z G M (d + 1) (pc + 3) L (zst v st) α1 (u.1 + mK M', u.2 + mS M') post)) : Z G M (d + 1) pc L (a5 :: a4 :: a3 :: a2 :: a1 :: .ref (G.1 + k) :: st) α u post := Z_runV hd to lk hi.1 hi.2 hq hk rfl hst hu rfl h
theorem Z_I5 {idx k : Nat} {a1 a2 a3 a4 a5 : Value} (hd : decode (mC M) pc = .ok (.invokespecial idx, 3)) (to : zTo M' 5) (lk : zLk (mY M).cls idx (mY M')) (hi : Cond.instanceMethod (mY M') ∈ zT) (hy : (mY M').name = "<init>" ∧ mR M' = none) (hst : (st.map fun v => v.category).sum ≤ 8) (hu : u.1 + mK M' ≤ mK M ∧ u.2 + mS M' ≤ mS M) (h : ZK G d M' (.ref (G.1 + k) :: [a1, a2, a3, a4, a5]) α (fun v α1 => Z G M (d + 1) (pc + 3) L (zst v st) α1 (u.1 + mK M', u.2 + mS M') post)) : Z G M (d + 1) pc L (a5 :: a4 :: a3 :: a2 :: a1 :: .ref (G.1 + k) :: st) α u post := Z_runI hd to lk hi hy rfl hst hu rfl h
end ZR4
