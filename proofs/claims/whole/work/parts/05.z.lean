/-! Globals: the law's first free address; the addresses of arrays and texts that nobody writes. Methods: name, code, locals, answer's type, cells and slots that a call may make. -/
abbrev ZG : Type := Nat × (Nat → Nat)
abbrev ZM : Type := MethodName × ByteArray × Nat × Option FieldType × Nat × Nat
abbrev mY (M : ZM) : MethodName := M.1
abbrev mC (M : ZM) : ByteArray := M.2.1
abbrev mL (M : ZM) : Nat := M.2.2.1
abbrev mR (M : ZM) : Option FieldType := M.2.2.2.1
abbrev mK (M : ZM) : Nat := M.2.2.2.2.1
abbrev mS (M : ZM) : Nat := M.2.2.2.2.2
def zSTEP : List Int32 := [1, 3, 9]
def zUND : List Int32 := [21, 22, 20, 25, 26, 24, 17, 18, 16, 37, 38, 36, 41, 42, 40, 33, 34, 32, 5, 6, 4, 9, 10, 8, 1, 2, 0]
def zPAS : List Int32 := [1, 1, 1, 1, 2, 1, 1, 3, 3, 1, 1, 4, 6, 4, 1, 1, 5, 10, 10, 5, 1, 1, 6, 15, 20, 15, 6, 1, 1, 7, 21, 35, 35, 21, 7, 1, 1, 8, 28, 56, 70, 56, 28, 8, 1, 1, 9, 36, 84, 126, 126, 84, 36, 9, 1, 1, 10, 45, 120, 210, 252, 210, 120, 45, 10, 1, 1, 11, 55, 165, 330, 462, 462, 330, 165, 55, 11, 1, 1, 12, 66, 220, 495, 792, 924, 792, 495, 220, 66, 12, 1, 1, 13, 78, 286, 715, 1287, 1716, 1716, 1287, 715, 286, 78, 13, 1, 1, 14, 91, 364, 1001, 2002, 3003, 3432, 3003, 2002, 1001, 364, 91, 14, 1, 1, 15, 105, 455, 1365, 3003, 5005, 6435, 6435, 5005, 3003, 1365, 455, 105, 15, 1]
/-- the three arrays: name, contents -/
def zArr (i : Nat) : String × List Int32 := match i with
  | 0 => ("STEP", zSTEP)
  | 1 => ("UNDONE", zUND)
  | _ => ("PASCAL", zPAS)
/-- the texts: class, pool entry, text, its signs -/
def zStr (i : Nat) : String × Nat × String × List Int32 := match i with
  | 0 => ("DaysBag$Reader", 99, "pay ", [112, 97, 121, 32])
  | 1 => ("DaysBag$Reader", 105, "012", [48, 49, 50])
  | 2 => ("DaysBag$Reader", 114, "over ", [111, 118, 101, 114, 32])
  | 3 => ("DaysBag$Reader", 116, "an ", [97, 110, 32])
  | 4 => ("DaysBag$Reader", 135, "sglrd", [115, 103, 108, 114, 100])
  | 5 => ("DaysBag$Reader", 137, "<=>", [60, 61, 62])
  | 6 => ("DaysBag$Reader", 137, "<=>", [60, 61, 62])
  | 7 => ("DaysBagModel", 119, "sglrd", [115, 103, 108, 114, 100])
  | 8 => ("DaysBagModel", 125, "<=>", [60, 61, 62])
  | 9 => ("DaysBagModel", 133, "over ", [111, 118, 101, 114, 32])
  | 10 => ("DaysBagModel", 139, "an ", [97, 110, 32])
  | _ => ("DaysBagModel", 144, "pay ", [112, 97, 121, 32])
theorem zkind_warm {w : Cond} {s U : State} (hk : zkind w = true) (hW : s.WarmedH U.vm) (h : va_Nw w s) : va_Nw w U := by
  cases w <;> first | exact va_Nw.warmM hW h | exact va_Nw.warmF hW h | exact va_Nw.warmC hW h | cases hk
theorem zkind_tab {w : Cond} (hk : zkind w = true) : w.onTables = true := by
  cases w <;> first | rfl | cases hk
/-- pairs of classes that aren't castable -/
def zNC : List (String × String) := [("DaysBag$Best", "DaysBag$Plain"), ("DaysBag$Best", "DaysBag$Waiting"), ("DaysBag$Best", "DaysBag$Sure"), ("DaysBag$Best", "DaysBag$Told"), ("DaysBag$Left", "DaysBag$Plain"), ("DaysBag$Left", "DaysBag$Waiting"), ("DaysBag$Left", "DaysBag$Sure"), ("DaysBag$Left", "DaysBag$Best"), ("DaysBag$Left", "DaysBag$Told"), ("DaysBag$Plain", "DaysBag$Left"), ("DaysBag$Plain", "DaysBag$Waiting"), ("DaysBag$Plain", "DaysBag$Sure"), ("DaysBag$Plain", "DaysBag$Best"), ("DaysBag$Plain", "DaysBag$Told"), ("DaysBag$Sure", "DaysBag$Left"), ("DaysBag$Sure", "DaysBag$Waiting"), ("DaysBag$Sure", "DaysBag$Best"), ("DaysBag$Sure", "DaysBag$Told"), ("DaysBag$Told", "DaysBag$Plain"), ("DaysBag$Told", "DaysBag$Left"), ("DaysBag$Told", "DaysBag$Sure"), ("DaysBag$Told", "DaysBag$Best"), ("DaysBag$Waiting", "DaysBag$Plain"), ("DaysBag$Waiting", "DaysBag$Left"), ("DaysBag$Waiting", "DaysBag$Sure"), ("DaysBag$Waiting", "DaysBag$Best"), ("DaysBag$Waiting", "DaysBag$Told"), ("DaysBag$Worker", "DaysBag$Plain"), ("DaysBag$Worker", "DaysBag$Left"), ("DaysBag$Worker", "DaysBag$Waiting"), ("DaysBag$Worker", "DaysBag$Sure"), ("DaysBag$Worker", "DaysBag$Best"), ("DaysBag$Worker", "DaysBag$Told")]
def zX (G : ZG) (U : State) : Prop :=
  (∀ i, i < 3 → va_Z "DaysBag" (zArr i).1 "[I" (.ref (G.2 i)) (zA G.1) U U.heap ∧ va_T .int (G.2 i) (zArr i).2.length (fun j => .int ((zArr i).2.getD j 0)) (zA G.1) U U.heap) ∧
  (∀ i, i < 12 → vk_R (zStr i).1 (zStr i).2.1 (zStr i).2.2.1 (G.2 (10 + i)) U ∧ va_O "java/lang/String" (G.2 (10 + i)) (zA G.1) U U.heap ∧ va_OF "java/lang/String" "coder" "B" (.int 0) (G.2 (10 + i)) (zA G.1) U U.heap ∧ va_OF "java/lang/String" "value" "[B" (.ref (G.2 (30 + i))) (G.2 (10 + i)) (zA G.1) U U.heap ∧ va_T .byte (G.2 (30 + i)) (zStr i).2.2.2.length (fun j => .int ((zStr i).2.2.2.getD j 0)) (zA G.1) U U.heap) ∧
  va_Z "java/lang/String" "COMPACT_STRINGS" "Z" (.int 1) (zA G.1) U U.heap ∧ (∀ w ∈ zN, va_Nw w U) ∧ (va_AO "DaysBag$Worker" U ∧ va_T .int (G.2 50) (G.2 51) (fun j => .int (Int32.ofNat (G.2 (100 + j)))) (zA G.1) U U.heap) ∧ (∀ q ∈ zNC, va_Nc q.1 q.2 U) ∧ va_Zq "jdk/internal/util/Preconditions" "SIOOBE_FORMATTER" "Ljava/util/function/BiFunction;" (zA G.1) U U.heap
theorem zX.to {G : ZG} {s U : State} (h : zX G s) (hW : s.WarmedH U.vm) (hq : ∀ a : Nat, a < s.heap.size → ¬ zA G.1 a → U.heap[a]? = s.heap[a]?) : zX G U := by
  obtain ⟨h1, h2, h3, h4, h5, h6, h7⟩ := h
  refine ⟨fun i hi => ⟨((h1 i hi).1.moved hW.alike).kept hq, ((h1 i hi).2.moved hW.alike).kept hq⟩, fun i hi => ?_, (h3.moved hW.alike).kept hq, fun w hw => zkind_warm (List.mem_filter.mp hw).2 hW (h4 w hw), ⟨va_AO.moved hW.alike h5.1, (h5.2.moved hW.alike).kept hq⟩, fun q hq => va_Nc.moved hW.alike (h6 q hq), (va_Zq.moved hW.alike h7).kept hq⟩
  obtain ⟨g1, g2, g3, g4, g5⟩ := h2 i hi
  exact ⟨g1.warm hW, (va_O.moved hW.alike g2).kept hq, (va_OF.moved hW.alike g3).kept hq, (va_OF.moved hW.alike g4).kept hq, (va_T.moved hW.alike g5).kept hq⟩
def zTys (dA : Nat → ClassId) : List (ClassId × FieldType) := [(dA 0, .int), (dA 1, .long), (dA 2, .boolean), (dA 3, .object "DaysBag$Worker")]
/-- a return instruction, and what it hands over -/
def zRet (M : ZM) (pc : Nat) (v : Option Value) : Prop :=
  (∃ (x : Int32) (ty : FieldType), v = some (.int x) ∧ mR M = some ty ∧ narrow ty (.int x) = .int x ∧ decode (mC M) pc = .ok (.ireturn, 1)) ∨
  (∃ x : Int64, v = some (.long x) ∧ mR M = some .long ∧ decode (mC M) pc = .ok (.lreturn, 1)) ∨
  (∃ (r : Value) (rt : FieldType), v = some r ∧ (r = .null ∨ ∃ a, r = .ref a) ∧ mR M = some rt ∧ ((∃ n, rt = .object n) ∨ ∃ t, rt = .array t) ∧ decode (mC M) pc = .ok (.areturn, 1)) ∨
  (v = none ∧ mR M = none ∧ decode (mC M) pc = .ok (.return_, 1))
/-- what stands for a whole activation -/
def ZC (G : ZG) (M : ZM) (d : Nat) (post : Option Value → AH → Prop) (p : Program) (l : Launch) (e : Env) (R : Room) (s : State) (m : MethodId) (args : Array Value) (below : List Frame) (meth : Method) (c : Code) (Q : State → Prop) (D : va_G) (dA : Nat → ClassId) : Prop :=
  p.tables.exec = Jvm.exec ∧ c.code = mC M ∧ c.maxLocals = mL M ∧ s.vm.findClass (mY M).cls = some m.cls ∧ (∀ w ∈ zT, w.before args s = true) ∧ meth.name = (mY M).name ∧ va_K D vwCl (zTys dA) s ∧ zX G s ∧ G.1 ≤ s.heap.size ∧ (d ≤ R.frames ∧ 64 * d ≤ R.locals ∧ mK M ≤ R.cells ∧ mS M ≤ R.slots) ∧
  ∀ (v : Option Value) (α : AH) (H : Heap) (locs : List Loc) (cells slots pc : Nat) (ls : Array Slot), post v α → zR G.1 D dA α H → va_S (zA G.1) s.heap H locs → cells ≤ mK M → slots ≤ mS M → zRet M pc v → W p l e R s m args below meth c H locs cells slots Q (F0 m pc ls v.toList)
def zL (ls : Array Slot) (n : Nat) (L : List (Option Value)) : Prop := ls.size = n ∧ lv_wf ls ∧ ∀ (i : Nat) (v : Value), L[i]? = some (some v) → ls[i]? = some (.val v)
/-- the machine at pc, with these locals and this stack, over the abstract heap, comes to the method's end with post -/
def Z (G : ZG) (M : ZM) (d pc : Nat) (L : List (Option Value)) (st : List Value) (α : AH) (u : Nat × Nat) (post : Option Value → AH → Prop) : Prop :=
  ∀ (p : Program) (l : Launch) (e : Env) (R : Room) (s : State) (m : MethodId) (args : Array Value) (below : List Frame) (meth : Method) (c : Code) (Q : State → Prop) (D : va_G) (dA : Nat → ClassId), ZC G M d post p l e R s m args below meth c Q D dA →
  ∀ (H : Heap) (locs : List Loc) (ls : Array Slot), zR G.1 D dA α H → va_S (zA G.1) s.heap H locs → zL ls (mL M) L → W p l e R s m args below meth c H locs u.1 u.2 Q (F0 m pc ls st)
section ZR1
variable {G : ZG} {M : ZM} {d pc pc' : Nat} {L L' : List (Option Value)} {st st' : List Value} {α α' : AH} {u u' : Nat × Nat} {post : Option Value → AH → Prop}
theorem Z.go (h : ∀ (p : Program) (l : Launch) (e : Env) (R : Room) (s : State) (m : MethodId) (args : Array Value) (below : List Frame) (meth : Method) (c : Code) (Q : State → Prop) (H : Heap) (locs : List Loc) (ls : Array Slot), p.tables.exec = Jvm.exec → c.code = mC M → W p l e R s m args below meth c H locs u.1 u.2 Q (F0 m pc' ls st') → W p l e R s m args below meth c H locs u.1 u.2 Q (F0 m pc ls st)) (k : Z G M d pc' L st' α u post) : Z G M d pc L st α u post :=
  fun p l e R s m args below meth c Q D dA C H locs ls hR hS hl => h p l e R s m args below meth c Q H locs ls C.1 C.2.1 (k p l e R s m args below meth c Q D dA C H locs ls hR hS hl)
/-- a row over the locals -/
theorem Z.goL (h : ∀ (p : Program) (l : Launch) (e : Env) (R : Room) (s : State) (m : MethodId) (args : Array Value) (below : List Frame) (meth : Method) (c : Code) (Q : State → Prop) (H : Heap) (locs : List Loc) (ls : Array Slot), p.tables.exec = Jvm.exec → c.code = mC M → zL ls (mL M) L → (∀ ls', zL ls' (mL M) L' → W p l e R s m args below meth c H locs u.1 u.2 Q (F0 m pc' ls' st')) → W p l e R s m args below meth c H locs u.1 u.2 Q (F0 m pc ls st)) (k : Z G M d pc' L' st' α u post) : Z G M d pc L st α u post :=
  fun p l e R s m args below meth c Q D dA C H locs ls hR hS hl => h p l e R s m args below meth c Q H locs ls C.1 C.2.1 hl (fun ls' hl' => k p l e R s m args below meth c Q D dA C H locs ls' hR hS hl')
theorem zL.at {ls : Array Slot} {n : Nat} (h : zL ls n L) {i : Nat} {v : Value} (e : L[i]? = some (some v)) : ls[i]? = some (.val v) := h.2.2 i v e
/-- the list of what is set -/
def zpairs (L : List (Option Value)) : List (Nat × Value) := (List.range L.length).filterMap (fun i => match L[i]? with
  | some (some v) => some (i, v)
  | _ => none)
theorem zpairs_mem {i : Nat} {v : Value} : (i, v) ∈ zpairs L ↔ L[i]? = some (some v) := by
  unfold zpairs
  rw [List.mem_filterMap]
  constructor
  · rintro ⟨j, -, hj⟩
    split at hj
    · rename_i w hw
      cases hj
      exact hw
    · cases hj
  · intro h
    refine ⟨i, List.mem_range.mpr (List.getElem?_eq_some_iff.mp h).1, ?_⟩
    rw [h]
theorem zL.has {ls : Array Slot} {n : Nat} (h : zL ls n L) : lv_has ls n (zpairs L) := ⟨h.1, h.2.1, fun q hq => h.2.2 q.1 q.2 (zpairs_mem.mp (by obtain ⟨a, b⟩ := q; exact hq))⟩
theorem zL.of {ls : Array Slot} {n : Nat} {l : List (Nat × Value)} (h : lv_has ls n l) (hm : ∀ (i : Nat) (v : Value), L[i]? = some (some v) → (i, v) ∈ l) : zL ls n L := ⟨h.1, h.2.1, fun i v e => h.2.2 (i, v) (hm i v e)⟩
/-- no long's second half lies at i -/
def zok (L : List (Option Value)) (i : Nat) : Bool := match i with
  | 0 => true
  | j + 1 => match L[j]? with
    | some (some (.long _)) => false
    | some (some (.double _)) => false
    | _ => true
theorem zok_cat {i : Nat} (h : zok L i = true) {j : Nat} {v : Value} (hj : L[j]? = some (some v)) (e : j + 1 = i) : v.category = 1 := by
  subst e
  simp only [zok, hj] at h
  cases v <;> first | rfl | cases h
theorem zL_store1 {ls' : Array Slot} {n i : Nat} {v : Value} (hk : zok L i = true) (h : lv_has ls' n ((i, v) :: (zpairs L).filter (fun q => !(q.1 == i) && !(q.1 + 1 == i && q.2.category == 2)))) : zL ls' n (L.set i (some v)) := by
  refine zL.of h (fun j w e => ?_)
  by_cases hj : i = j
  · subst hj
    rw [List.getElem?_set] at e
    rw [if_pos rfl] at e
    split at e
    · cases e; exact List.mem_cons_self
    · cases e
  · rw [List.getElem?_set_ne hj] at e
    refine List.mem_cons_of_mem _ (List.mem_filter.mpr ⟨zpairs_mem.mpr e, ?_⟩)
    have h1 : (j == i) = false := by simpa using fun z => hj z.symm
    by_cases h2 : j + 1 = i
    · simp [h1, zok_cat hk e h2]
    · simp [h1, h2]
theorem zL_store2 {ls' : Array Slot} {n i : Nat} {v : Value} (hk : zok L i = true) (h : lv_has ls' n ((i, v) :: (zpairs L).filter (fun q => !(q.1 == i) && (!(q.1 == i + 1) && !(q.1 + 1 == i && q.2.category == 2))))) : zL ls' n ((L.set i (some v)).set (i + 1) none) := by
  refine zL.of h (fun j w e => ?_)
  by_cases hj1 : i + 1 = j
  · subst hj1
    rw [List.getElem?_set] at e
    rw [if_pos rfl] at e
    split at e <;> cases e
  · rw [List.getElem?_set_ne hj1] at e
    by_cases hj : i = j
    · subst hj
      rw [List.getElem?_set] at e
      rw [if_pos rfl] at e
      split at e
      · cases e; exact List.mem_cons_self
      · cases e
    · rw [List.getElem?_set_ne hj] at e
      refine List.mem_cons_of_mem _ (List.mem_filter.mpr ⟨zpairs_mem.mpr e, ?_⟩)
      have h1 : (j == i) = false := by simpa using fun z => hj z.symm
      have h3 : (j == i + 1) = false := by simpa using fun z => hj1 z.symm
      by_cases h2 : j + 1 = i
      · simp [h1, h3, zok_cat hk e h2]
      · simp [h1, h3, h2]
/-- fewer locals are known -/
theorem Z.less (h : ∀ (i : Nat) (v : Value), L'[i]? = some (some v) → L[i]? = some (some v)) (k : Z G M d pc L' st α u post) : Z G M d pc L st α u post :=
  fun p l e R s m args below meth c Q D dA C H locs ls hR hS hl => k p l e R s m args below meth c Q D dA C H locs ls hR hS ⟨hl.1, hl.2.1, fun i v e => hl.2.2 i v (h i v e)⟩
theorem Z_topi {x : Int32} (k : ∀ y : Int32, y = x → Z G M d pc L (.int y :: st) α u post) : Z G M d pc L (.int x :: st) α u post := k x rfl
theorem Z_topl {x : Int64} (k : ∀ y : Int64, y = x → Z G M d pc L (.long y :: st) α u post) : Z G M d pc L (.long x :: st) α u post := k x rfl
theorem Z_iconst {n : Int} {v : Int32} (hd : decode (mC M) pc = .ok (.iconst n, 1)) (hv : Int32.ofInt n = v) (k : Z G M d (pc + 1) L (.int v :: st) α u post) : Z G M d pc L st α u post := Z.go (fun _ _ _ _ _ _ _ _ _ _ _ _ _ _ hx hb => lv_iconst hx hb hd hv) k
theorem Z_bipush {n : Int} {v : Int32} (hd : decode (mC M) pc = .ok (.bipush n, 2)) (hv : (Int8.ofInt n).toInt32 = v) (k : Z G M d (pc + 2) L (.int v :: st) α u post) : Z G M d pc L st α u post := Z.go (fun _ _ _ _ _ _ _ _ _ _ _ _ _ _ hx hb => lv_bipush hx hb hd hv) k
theorem Z_sipush {n : Int} {v : Int32} (hd : decode (mC M) pc = .ok (.sipush n, 3)) (hv : (Int16.ofInt n).toInt32 = v) (k : Z G M d (pc + 3) L (.int v :: st) α u post) : Z G M d pc L st α u post := Z.go (fun _ _ _ _ _ _ _ _ _ _ _ _ _ _ hx hb => lv_sipush hx hb hd hv) k
theorem Z_lconst {n : Fin 2} {v : Int64} (hd : decode (mC M) pc = .ok (.lconst n, 1)) (hv : Int64.ofNat (n : Nat) = v) (k : Z G M d (pc + 1) L (.long v :: st) α u post) : Z G M d pc L st α u post := Z.go (fun _ _ _ _ _ _ _ _ _ _ _ _ _ _ hx hb => lv_lconst hx hb hd hv) k
theorem Z_null (hd : decode (mC M) pc = .ok (.aconst_null, 1)) (k : Z G M d (pc + 1) L (.null :: st) α u post) : Z G M d pc L st α u post := Z.go (fun _ _ _ _ _ _ _ _ _ _ _ _ _ _ hx hb => lv_null hx hb hd) k

theorem Z_iadd {x y : Int32} (hd : decode (mC M) pc = .ok (.iadd, 1)) (k : Z G M d (pc + 1) L (.int ((x + y)) :: st) α u post) : Z G M d pc L (.int y :: .int x :: st) α u post := Z.go (fun _ _ _ _ _ _ _ _ _ _ _ _ _ _ hx hb => lv_iadd hx hb hd) k
theorem Z_isub {x y : Int32} (hd : decode (mC M) pc = .ok (.isub, 1)) (k : Z G M d (pc + 1) L (.int ((x - y)) :: st) α u post) : Z G M d pc L (.int y :: .int x :: st) α u post := Z.go (fun _ _ _ _ _ _ _ _ _ _ _ _ _ _ hx hb => lv_isub hx hb hd) k
theorem Z_imul {x y : Int32} (hd : decode (mC M) pc = .ok (.imul, 1)) (k : Z G M d (pc + 1) L (.int ((x * y)) :: st) α u post) : Z G M d pc L (.int y :: .int x :: st) α u post := Z.go (fun _ _ _ _ _ _ _ _ _ _ _ _ _ _ hx hb => lv_imul hx hb hd) k
theorem Z_iand {x y : Int32} (hd : decode (mC M) pc = .ok (.iand, 1)) (k : Z G M d (pc + 1) L (.int ((x &&& y)) :: st) α u post) : Z G M d pc L (.int y :: .int x :: st) α u post := Z.go (fun _ _ _ _ _ _ _ _ _ _ _ _ _ _ hx hb => lv_iand hx hb hd) k
theorem Z_ior {x y : Int32} (hd : decode (mC M) pc = .ok (.ior, 1)) (k : Z G M d (pc + 1) L (.int ((x ||| y)) :: st) α u post) : Z G M d pc L (.int y :: .int x :: st) α u post := Z.go (fun _ _ _ _ _ _ _ _ _ _ _ _ _ _ hx hb => lv_ior hx hb hd) k
theorem Z_ixor {x y : Int32} (hd : decode (mC M) pc = .ok (.ixor, 1)) (k : Z G M d (pc + 1) L (.int ((x ^^^ y)) :: st) α u post) : Z G M d pc L (.int y :: .int x :: st) α u post := Z.go (fun _ _ _ _ _ _ _ _ _ _ _ _ _ _ hx hb => lv_ixor hx hb hd) k
theorem Z_idiv {x y : Int32} (hd : decode (mC M) pc = .ok (.idiv, 1)) (hne : ¬ y = 0) (k : Z G M d (pc + 1) L (.int ((x / y)) :: st) α u post) : Z G M d pc L (.int y :: .int x :: st) α u post := Z.go (fun _ _ _ _ _ _ _ _ _ _ _ _ _ _ hx hb => lv_idiv hx hb hd hne) k
theorem Z_irem {x y : Int32} (hd : decode (mC M) pc = .ok (.irem, 1)) (hne : ¬ y = 0) (k : Z G M d (pc + 1) L (.int ((x - x / y * y)) :: st) α u post) : Z G M d pc L (.int y :: .int x :: st) α u post := Z.go (fun _ _ _ _ _ _ _ _ _ _ _ _ _ _ hx hb => lv_irem hx hb hd hne) k
theorem Z_ishl {x y : Int32} (hd : decode (mC M) pc = .ok (.ishl, 1)) (k : Z G M d (pc + 1) L (.int ((x <<< (y &&& 31))) :: st) α u post) : Z G M d pc L (.int y :: .int x :: st) α u post := Z.go (fun _ _ _ _ _ _ _ _ _ _ _ _ _ _ hx hb => lv_ishl hx hb hd) k
theorem Z_ishr {x y : Int32} (hd : decode (mC M) pc = .ok (.ishr, 1)) (k : Z G M d (pc + 1) L (.int ((x >>> (y &&& 31))) :: st) α u post) : Z G M d pc L (.int y :: .int x :: st) α u post := Z.go (fun _ _ _ _ _ _ _ _ _ _ _ _ _ _ hx hb => lv_ishr hx hb hd) k
theorem Z_ladd {x y : Int64} (hd : decode (mC M) pc = .ok (.ladd, 1)) (k : Z G M d (pc + 1) L (.long ((x + y)) :: st) α u post) : Z G M d pc L (.long y :: .long x :: st) α u post := Z.go (fun _ _ _ _ _ _ _ _ _ _ _ _ _ _ hx hb => lv_ladd hx hb hd) k
theorem Z_lsub {x y : Int64} (hd : decode (mC M) pc = .ok (.lsub, 1)) (k : Z G M d (pc + 1) L (.long ((x - y)) :: st) α u post) : Z G M d pc L (.long y :: .long x :: st) α u post := Z.go (fun _ _ _ _ _ _ _ _ _ _ _ _ _ _ hx hb => lv_lsub hx hb hd) k
theorem Z_lmul {x y : Int64} (hd : decode (mC M) pc = .ok (.lmul, 1)) (k : Z G M d (pc + 1) L (.long ((x * y)) :: st) α u post) : Z G M d pc L (.long y :: .long x :: st) α u post := Z.go (fun _ _ _ _ _ _ _ _ _ _ _ _ _ _ hx hb => lv_lmul hx hb hd) k
theorem Z_ldiv {x y : Int64} (hd : decode (mC M) pc = .ok (.ldiv, 1)) (hne : ¬ y = 0) (k : Z G M d (pc + 1) L (.long ((x / y)) :: st) α u post) : Z G M d pc L (.long y :: .long x :: st) α u post := Z.go (fun _ _ _ _ _ _ _ _ _ _ _ _ _ _ hx hb => lv_ldiv hx hb hd hne) k
theorem Z_lrem {x y : Int64} (hd : decode (mC M) pc = .ok (.lrem, 1)) (hne : ¬ y = 0) (k : Z G M d (pc + 1) L (.long ((x - x / y * y)) :: st) α u post) : Z G M d pc L (.long y :: .long x :: st) α u post := Z.go (fun _ _ _ _ _ _ _ _ _ _ _ _ _ _ hx hb => lv_lrem hx hb hd hne) k
theorem Z_ineg {x : Int32} (hd : decode (mC M) pc = .ok (.ineg, 1)) (k : Z G M d (pc + 1) L (.int ((-x)) :: st) α u post) : Z G M d pc L (.int x :: st) α u post := Z.go (fun _ _ _ _ _ _ _ _ _ _ _ _ _ _ hx hb => lv_ineg hx hb hd) k
theorem Z_lneg {x : Int64} (hd : decode (mC M) pc = .ok (.lneg, 1)) (k : Z G M d (pc + 1) L (.long ((-x)) :: st) α u post) : Z G M d pc L (.long x :: st) α u post := Z.go (fun _ _ _ _ _ _ _ _ _ _ _ _ _ _ hx hb => lv_lneg hx hb hd) k
theorem Z_i2l {x : Int32} (hd : decode (mC M) pc = .ok (.i2l, 1)) (k : Z G M d (pc + 1) L (.long x.toInt64 :: st) α u post) : Z G M d pc L (.int x :: st) α u post := Z.go (fun _ _ _ _ _ _ _ _ _ _ _ _ _ _ hx hb => lv_i2l hx hb hd rfl) k
theorem Z_i2c {x : Int32} (hd : decode (mC M) pc = .ok (.i2c, 1)) (k : Z G M d (pc + 1) L (.int (x.toUInt32 % 65536).toInt32 :: st) α u post) : Z G M d pc L (.int x :: st) α u post := Z.go (fun _ _ _ _ _ _ _ _ _ _ _ _ _ _ hx hb => lv_i2c hx hb hd rfl) k
theorem Z_dup {v : Value} (hd : decode (mC M) pc = .ok (.dup, 1)) (hc : v.category = 1) (k : Z G M d (pc + 1) L (v :: v :: st) α u post) : Z G M d pc L (v :: st) α u post := Z.go (fun _ _ _ _ _ _ _ _ _ _ _ _ _ _ hx hb => lv_dup hx hb hd hc) k
theorem Z_dup2 {v w : Value} (hd : decode (mC M) pc = .ok (.dup2, 1)) (hv : v.category = 1) (hw : w.category = 1) (k : Z G M d (pc + 1) L (v :: w :: v :: w :: st) α u post) : Z G M d pc L (v :: w :: st) α u post := Z.go (fun _ _ _ _ _ _ _ _ _ _ _ _ _ _ hx hb => lv_dup2_11 hx hb hd hv hw) k
theorem Z_goto {off : Int} {tgt : Nat} (hd : decode (mC M) pc = .ok (.goto off, 3)) (ht : (pc : Int) + off = (tgt : Int)) (k : Z G M d tgt L st α u post) : Z G M d pc L st α u post := Z.go (fun _ _ _ _ _ _ _ _ _ _ _ _ _ _ hx hb => lv_goto hx hb hd ht) k
theorem Z_lcmp {x y : Int64} (hd : decode (mC M) pc = .ok (.lcmp, 1)) (k : Z G M d (pc + 1) L (.int (lg_cmp x y) :: st) α u post) : Z G M d pc L (.long y :: .long x :: st) α u post := Z.go (fun _ _ _ _ _ _ _ _ _ _ _ _ _ _ hx hb => W.lcmp hx hb hd) k
-- lv_if_eq: ['x = 0', '¬ x = 0']
theorem Z_if_eq {x : Int32} {off : Int} {tgt : Nat} (hd : decode (mC M) pc = .ok (.ifCond .eq off, 3)) (ht : (pc : Int) + off = (tgt : Int)) (k1 : x = 0 → Z G M d tgt L st α u post) (k2 : ¬ x = 0 → Z G M d (pc + 3) L st α u post) : Z G M d pc L (.int x :: st) α u post :=
  fun p l e R s m args below meth c Q D dA C H locs ls hR hS hl => lv_if_eq C.1 C.2.1 hd ht (fun h => k1 h p l e R s m args below meth c Q D dA C H locs ls hR hS hl) (fun h => k2 h p l e R s m args below meth c Q D dA C H locs ls hR hS hl)
theorem Z_icmp_eq {x y : Int32} {off : Int} {tgt : Nat} (hd : decode (mC M) pc = .ok (.if_icmp .eq off, 3)) (ht : (pc : Int) + off = (tgt : Int)) (k1 : x = y → Z G M d tgt L st α u post) (k2 : ¬ x = y → Z G M d (pc + 3) L st α u post) : Z G M d pc L (.int y :: .int x :: st) α u post :=
  fun p l e R s m args below meth c Q D dA C H locs ls hR hS hl => lv_icmp_eq C.1 C.2.1 hd ht (fun h => k1 h p l e R s m args below meth c Q D dA C H locs ls hR hS hl) (fun h => k2 h p l e R s m args below meth c Q D dA C H locs ls hR hS hl)
-- lv_if_ne: ['¬ x = 0', 'x = 0']
theorem Z_if_ne {x : Int32} {off : Int} {tgt : Nat} (hd : decode (mC M) pc = .ok (.ifCond .ne off, 3)) (ht : (pc : Int) + off = (tgt : Int)) (k1 : ¬ x = 0 → Z G M d tgt L st α u post) (k2 : x = 0 → Z G M d (pc + 3) L st α u post) : Z G M d pc L (.int x :: st) α u post :=
  fun p l e R s m args below meth c Q D dA C H locs ls hR hS hl => lv_if_ne C.1 C.2.1 hd ht (fun h => k1 h p l e R s m args below meth c Q D dA C H locs ls hR hS hl) (fun h => k2 h p l e R s m args below meth c Q D dA C H locs ls hR hS hl)
theorem Z_icmp_ne {x y : Int32} {off : Int} {tgt : Nat} (hd : decode (mC M) pc = .ok (.if_icmp .ne off, 3)) (ht : (pc : Int) + off = (tgt : Int)) (k1 : ¬ x = y → Z G M d tgt L st α u post) (k2 : x = y → Z G M d (pc + 3) L st α u post) : Z G M d pc L (.int y :: .int x :: st) α u post :=
  fun p l e R s m args below meth c Q D dA C H locs ls hR hS hl => lv_icmp_ne C.1 C.2.1 hd ht (fun h => k1 h p l e R s m args below meth c Q D dA C H locs ls hR hS hl) (fun h => k2 h p l e R s m args below meth c Q D dA C H locs ls hR hS hl)
-- lv_if_lt: ['x < 0', '¬ x < 0']
theorem Z_if_lt {x : Int32} {off : Int} {tgt : Nat} (hd : decode (mC M) pc = .ok (.ifCond .lt off, 3)) (ht : (pc : Int) + off = (tgt : Int)) (k1 : x < 0 → Z G M d tgt L st α u post) (k2 : ¬ x < 0 → Z G M d (pc + 3) L st α u post) : Z G M d pc L (.int x :: st) α u post :=
  fun p l e R s m args below meth c Q D dA C H locs ls hR hS hl => lv_if_lt C.1 C.2.1 hd ht (fun h => k1 h p l e R s m args below meth c Q D dA C H locs ls hR hS hl) (fun h => k2 h p l e R s m args below meth c Q D dA C H locs ls hR hS hl)
theorem Z_icmp_lt {x y : Int32} {off : Int} {tgt : Nat} (hd : decode (mC M) pc = .ok (.if_icmp .lt off, 3)) (ht : (pc : Int) + off = (tgt : Int)) (k1 : x < y → Z G M d tgt L st α u post) (k2 : ¬ x < y → Z G M d (pc + 3) L st α u post) : Z G M d pc L (.int y :: .int x :: st) α u post :=
  fun p l e R s m args below meth c Q D dA C H locs ls hR hS hl => lv_icmp_lt C.1 C.2.1 hd ht (fun h => k1 h p l e R s m args below meth c Q D dA C H locs ls hR hS hl) (fun h => k2 h p l e R s m args below meth c Q D dA C H locs ls hR hS hl)
-- lv_if_ge: ['0 ≤ x', '¬ 0 ≤ x']
theorem Z_if_ge {x : Int32} {off : Int} {tgt : Nat} (hd : decode (mC M) pc = .ok (.ifCond .ge off, 3)) (ht : (pc : Int) + off = (tgt : Int)) (k1 : 0 ≤ x → Z G M d tgt L st α u post) (k2 : ¬ 0 ≤ x → Z G M d (pc + 3) L st α u post) : Z G M d pc L (.int x :: st) α u post :=
  fun p l e R s m args below meth c Q D dA C H locs ls hR hS hl => lv_if_ge C.1 C.2.1 hd ht (fun h => k1 h p l e R s m args below meth c Q D dA C H locs ls hR hS hl) (fun h => k2 h p l e R s m args below meth c Q D dA C H locs ls hR hS hl)
theorem Z_icmp_ge {x y : Int32} {off : Int} {tgt : Nat} (hd : decode (mC M) pc = .ok (.if_icmp .ge off, 3)) (ht : (pc : Int) + off = (tgt : Int)) (k1 : y ≤ x → Z G M d tgt L st α u post) (k2 : ¬ y ≤ x → Z G M d (pc + 3) L st α u post) : Z G M d pc L (.int y :: .int x :: st) α u post :=
  fun p l e R s m args below meth c Q D dA C H locs ls hR hS hl => lv_icmp_ge C.1 C.2.1 hd ht (fun h => k1 h p l e R s m args below meth c Q D dA C H locs ls hR hS hl) (fun h => k2 h p l e R s m args below meth c Q D dA C H locs ls hR hS hl)
-- lv_if_gt: ['0 < x', '¬ 0 < x']
theorem Z_if_gt {x : Int32} {off : Int} {tgt : Nat} (hd : decode (mC M) pc = .ok (.ifCond .gt off, 3)) (ht : (pc : Int) + off = (tgt : Int)) (k1 : 0 < x → Z G M d tgt L st α u post) (k2 : ¬ 0 < x → Z G M d (pc + 3) L st α u post) : Z G M d pc L (.int x :: st) α u post :=
  fun p l e R s m args below meth c Q D dA C H locs ls hR hS hl => lv_if_gt C.1 C.2.1 hd ht (fun h => k1 h p l e R s m args below meth c Q D dA C H locs ls hR hS hl) (fun h => k2 h p l e R s m args below meth c Q D dA C H locs ls hR hS hl)
theorem Z_icmp_gt {x y : Int32} {off : Int} {tgt : Nat} (hd : decode (mC M) pc = .ok (.if_icmp .gt off, 3)) (ht : (pc : Int) + off = (tgt : Int)) (k1 : y < x → Z G M d tgt L st α u post) (k2 : ¬ y < x → Z G M d (pc + 3) L st α u post) : Z G M d pc L (.int y :: .int x :: st) α u post :=
  fun p l e R s m args below meth c Q D dA C H locs ls hR hS hl => lv_icmp_gt C.1 C.2.1 hd ht (fun h => k1 h p l e R s m args below meth c Q D dA C H locs ls hR hS hl) (fun h => k2 h p l e R s m args below meth c Q D dA C H locs ls hR hS hl)
-- lv_if_le: ['x ≤ 0', '¬ x ≤ 0']
theorem Z_if_le {x : Int32} {off : Int} {tgt : Nat} (hd : decode (mC M) pc = .ok (.ifCond .le off, 3)) (ht : (pc : Int) + off = (tgt : Int)) (k1 : x ≤ 0 → Z G M d tgt L st α u post) (k2 : ¬ x ≤ 0 → Z G M d (pc + 3) L st α u post) : Z G M d pc L (.int x :: st) α u post :=
  fun p l e R s m args below meth c Q D dA C H locs ls hR hS hl => lv_if_le C.1 C.2.1 hd ht (fun h => k1 h p l e R s m args below meth c Q D dA C H locs ls hR hS hl) (fun h => k2 h p l e R s m args below meth c Q D dA C H locs ls hR hS hl)
theorem Z_icmp_le {x y : Int32} {off : Int} {tgt : Nat} (hd : decode (mC M) pc = .ok (.if_icmp .le off, 3)) (ht : (pc : Int) + off = (tgt : Int)) (k1 : x ≤ y → Z G M d tgt L st α u post) (k2 : ¬ x ≤ y → Z G M d (pc + 3) L st α u post) : Z G M d pc L (.int y :: .int x :: st) α u post :=
  fun p l e R s m args below meth c Q D dA C H locs ls hR hS hl => lv_icmp_le C.1 C.2.1 hd ht (fun h => k1 h p l e R s m args below meth c Q D dA C H locs ls hR hS hl) (fun h => k2 h p l e R s m args below meth c Q D dA C H locs ls hR hS hl)
theorem Z_ifnull {x : Nat} {off : Int} (hd : decode (mC M) pc = .ok (.ifnull off, 3)) (k : Z G M d (pc + 3) L st α u post) : Z G M d pc L (.ref x :: st) α u post := Z.go (fun _ _ _ _ _ _ _ _ _ _ _ _ _ _ hx hb => lv_ifnull hx hb hd) k
theorem Z_ifnullN {off : Int} {tgt : Nat} (hd : decode (mC M) pc = .ok (.ifnull off, 3)) (ht : (pc : Int) + off = (tgt : Int)) (k : Z G M d tgt L st α u post) : Z G M d pc L (.null :: st) α u post := Z.go (fun _ _ _ _ _ _ _ _ _ _ _ _ _ _ hx hb => lv_ifnullN hx hb hd ht) k
theorem Z_ifnonnull {x : Nat} {off : Int} {tgt : Nat} (hd : decode (mC M) pc = .ok (.ifnonnull off, 3)) (ht : (pc : Int) + off = (tgt : Int)) (k : Z G M d tgt L st α u post) : Z G M d pc L (.ref x :: st) α u post := Z.go (fun _ _ _ _ _ _ _ _ _ _ _ _ _ _ hx hb => lv_ifnonnull hx hb hd ht) k
theorem Z_ifnonnullN {off : Int} (hd : decode (mC M) pc = .ok (.ifnonnull off, 3)) (k : Z G M d (pc + 3) L st α u post) : Z G M d pc L (.null :: st) α u post := Z.go (fun _ _ _ _ _ _ _ _ _ _ _ _ _ _ hx hb => lv_ifnonnullN hx hb hd) k
theorem Z_iload_n {k : Fin 4} {i : Nat} {x : Int32} (hd : decode (mC M) pc = .ok (.iload_n k, 1)) (hi : (k : Nat) = i) (hl : L[i]? = some (some (.int x))) (kk : Z G M d (pc + 1) L (.int x :: st) α u post) : Z G M d pc L st α u post := Z.goL (fun _ _ _ _ _ _ _ _ _ _ _ _ _ ls hx hb h k => lv_iload_n hx hb hd hi (h.at hl) (k ls h)) kk
theorem Z_iload {i : Nat} {x : Int32} (hd : decode (mC M) pc = .ok (.iload i, 2)) (hl : L[i]? = some (some (.int x))) (kk : Z G M d (pc + 2) L (.int x :: st) α u post) : Z G M d pc L st α u post := Z.goL (fun _ _ _ _ _ _ _ _ _ _ _ _ _ ls hx hb h k => lv_iload hx hb hd (h.at hl) (k ls h)) kk
theorem Z_lload_n {k : Fin 4} {i : Nat} {x : Int64} (hd : decode (mC M) pc = .ok (.lload_n k, 1)) (hi : (k : Nat) = i) (hl : L[i]? = some (some (.long x))) (kk : Z G M d (pc + 1) L (.long x :: st) α u post) : Z G M d pc L st α u post := Z.goL (fun _ _ _ _ _ _ _ _ _ _ _ _ _ ls hx hb h k => lv_lload_n hx hb hd hi (h.at hl) (k ls h)) kk
theorem Z_lload {i : Nat} {x : Int64} (hd : decode (mC M) pc = .ok (.lload i, 2)) (hl : L[i]? = some (some (.long x))) (kk : Z G M d (pc + 2) L (.long x :: st) α u post) : Z G M d pc L st α u post := Z.goL (fun _ _ _ _ _ _ _ _ _ _ _ _ _ ls hx hb h k => lv_lload hx hb hd (h.at hl) (k ls h)) kk
theorem Z_aload_n {k : Fin 4} {i : Nat} {x : Nat} (hd : decode (mC M) pc = .ok (.aload_n k, 1)) (hi : (k : Nat) = i) (hl : L[i]? = some (some (.ref x))) (kk : Z G M d (pc + 1) L (.ref x :: st) α u post) : Z G M d pc L st α u post := Z.goL (fun _ _ _ _ _ _ _ _ _ _ _ _ _ ls hx hb h k => lv_aload_n hx hb hd hi (h.at hl) (k ls h)) kk
theorem Z_aload {i : Nat} {x : Nat} (hd : decode (mC M) pc = .ok (.aload i, 2)) (hl : L[i]? = some (some (.ref x))) (kk : Z G M d (pc + 2) L (.ref x :: st) α u post) : Z G M d pc L st α u post := Z.goL (fun _ _ _ _ _ _ _ _ _ _ _ _ _ ls hx hb h k => lv_aload hx hb hd (h.at hl) (k ls h)) kk
theorem Z_aload_nN {k : Fin 4} {i : Nat} (hd : decode (mC M) pc = .ok (.aload_n k, 1)) (hi : (k : Nat) = i) (hl : L[i]? = some (some .null)) (kk : Z G M d (pc + 1) L (.null :: st) α u post) : Z G M d pc L st α u post := Z.goL (fun _ _ _ _ _ _ _ _ _ _ _ _ _ ls hx hb h k => lv_aload_nN hx hb hd hi (h.at hl) (k ls h)) kk
theorem Z_aloadN {i : Nat} (hd : decode (mC M) pc = .ok (.aload i, 2)) (hl : L[i]? = some (some .null)) (kk : Z G M d (pc + 2) L (.null :: st) α u post) : Z G M d pc L st α u post := Z.goL (fun _ _ _ _ _ _ _ _ _ _ _ _ _ ls hx hb h k => lv_aloadN hx hb hd (h.at hl) (k ls h)) kk
theorem Z_istore_n {k : Fin 4} {i : Nat} {x : Int32} (hd : decode (mC M) pc = .ok (.istore_n k, 1)) (hi : (k : Nat) = i) (hn : i < mL M) (hk : zok L i = true) (hL : L.set i (some (.int x)) = L') (kk : Z G M d (pc + 1) L' st α u post) : Z G M d pc L (.int x :: st) α u post := Z.goL (fun _ _ _ _ _ _ _ _ _ _ _ _ _ ls hx hb h k => lv_istore_n hx hb hd hi h.has hn rfl (fun ls' h' => k ls' (hL ▸ zL_store1 hk h'))) kk
theorem Z_istore {i : Nat} {x : Int32} (hd : decode (mC M) pc = .ok (.istore i, 2)) (hn : i < mL M) (hk : zok L i = true) (hL : L.set i (some (.int x)) = L') (kk : Z G M d (pc + 2) L' st α u post) : Z G M d pc L (.int x :: st) α u post := Z.goL (fun _ _ _ _ _ _ _ _ _ _ _ _ _ ls hx hb h k => lv_istore hx hb hd h.has hn rfl (fun ls' h' => k ls' (hL ▸ zL_store1 hk h'))) kk
theorem Z_astore_n {k : Fin 4} {i : Nat} {x : Nat} (hd : decode (mC M) pc = .ok (.astore_n k, 1)) (hi : (k : Nat) = i) (hn : i < mL M) (hk : zok L i = true) (hL : L.set i (some (.ref x)) = L') (kk : Z G M d (pc + 1) L' st α u post) : Z G M d pc L (.ref x :: st) α u post := Z.goL (fun _ _ _ _ _ _ _ _ _ _ _ _ _ ls hx hb h k => lv_astore_n hx hb hd hi h.has hn rfl (fun ls' h' => k ls' (hL ▸ zL_store1 hk h'))) kk
theorem Z_astore {i : Nat} {x : Nat} (hd : decode (mC M) pc = .ok (.astore i, 2)) (hn : i < mL M) (hk : zok L i = true) (hL : L.set i (some (.ref x)) = L') (kk : Z G M d (pc + 2) L' st α u post) : Z G M d pc L (.ref x :: st) α u post := Z.goL (fun _ _ _ _ _ _ _ _ _ _ _ _ _ ls hx hb h k => lv_astore hx hb hd h.has hn rfl (fun ls' h' => k ls' (hL ▸ zL_store1 hk h'))) kk
theorem Z_astore_nN {k : Fin 4} {i : Nat} (hd : decode (mC M) pc = .ok (.astore_n k, 1)) (hi : (k : Nat) = i) (hn : i < mL M) (hk : zok L i = true) (hL : L.set i (some .null) = L') (kk : Z G M d (pc + 1) L' st α u post) : Z G M d pc L (.null :: st) α u post := Z.goL (fun _ _ _ _ _ _ _ _ _ _ _ _ _ ls hx hb h k => lv_astore_nN hx hb hd hi h.has hn rfl (fun ls' h' => k ls' (hL ▸ zL_store1 hk h'))) kk
theorem Z_astoreN {i : Nat} (hd : decode (mC M) pc = .ok (.astore i, 2)) (hn : i < mL M) (hk : zok L i = true) (hL : L.set i (some .null) = L') (kk : Z G M d (pc + 2) L' st α u post) : Z G M d pc L (.null :: st) α u post := Z.goL (fun _ _ _ _ _ _ _ _ _ _ _ _ _ ls hx hb h k => lv_astoreN hx hb hd h.has hn rfl (fun ls' h' => k ls' (hL ▸ zL_store1 hk h'))) kk
theorem Z_lstore_n {k : Fin 4} {i : Nat} {x : Int64} (hd : decode (mC M) pc = .ok (.lstore_n k, 1)) (hi : (k : Nat) = i) (hn : i + 1 < mL M) (hk : zok L i = true) (hL : (L.set i (some (.long x))).set (i + 1) none = L') (kk : Z G M d (pc + 1) L' st α u post) : Z G M d pc L (.long x :: st) α u post := Z.goL (fun _ _ _ _ _ _ _ _ _ _ _ _ _ ls hx hb h k => lv_lstore_n hx hb hd hi h.has hn rfl (fun ls' h' => k ls' (hL ▸ zL_store2 hk h'))) kk
theorem Z_lstore {i : Nat} {x : Int64} (hd : decode (mC M) pc = .ok (.lstore i, 2)) (hn : i + 1 < mL M) (hk : zok L i = true) (hL : (L.set i (some (.long x))).set (i + 1) none = L') (kk : Z G M d (pc + 2) L' st α u post) : Z G M d pc L (.long x :: st) α u post := Z.goL (fun _ _ _ _ _ _ _ _ _ _ _ _ _ ls hx hb h k => lv_lstore hx hb hd h.has hn rfl (fun ls' h' => k ls' (hL ▸ zL_store2 hk h'))) kk
theorem Z_iinc {i : Nat} {n : Int} {x v : Int32} (hd : decode (mC M) pc = .ok (.iinc i n, 3)) (hl : L[i]? = some (some (.int x))) (hv : x + Int32.ofInt n = v) (hn : i < mL M) (hk : zok L i = true) (hL : L.set i (some (.int v)) = L') (kk : Z G M d (pc + 3) L' st α u post) : Z G M d pc L st α u post :=
  Z.goL (fun _ _ _ _ _ _ _ _ _ _ _ _ _ ls hx hb h k => by
    obtain ⟨j, hj⟩ := List.getElem?_of_mem (zpairs_mem.mpr hl)
    exact lv_iinc hx hb hd h.has hj hv hn rfl (fun ls' h' => k ls' (hL ▸ zL_store1 hk h'))) kk
theorem Z_iret {x : Int32} {ty : FieldType} (hd : decode (mC M) pc = .ok (.ireturn, 1)) (hty : mR M = some ty) (hn : narrow ty (.int x) = .int x) (hu : u.1 ≤ mK M ∧ u.2 ≤ mS M) (h : post (some (.int x)) α) : Z G M d pc L [.int x] α u post :=
  fun p l e R s m args below meth c Q D dA C H locs ls hR hS _ => C.2.2.2.2.2.2.2.2.2.2 _ α H locs u.1 u.2 pc ls h hR hS hu.1 hu.2 (Or.inl ⟨x, ty, rfl, hty, hn, hd⟩)
theorem Z_lret {x : Int64} (hd : decode (mC M) pc = .ok (.lreturn, 1)) (hty : mR M = some .long) (hu : u.1 ≤ mK M ∧ u.2 ≤ mS M) (h : post (some (.long x)) α) : Z G M d pc L [.long x] α u post :=
  fun p l e R s m args below meth c Q D dA C H locs ls hR hS _ => C.2.2.2.2.2.2.2.2.2.2 _ α H locs u.1 u.2 pc ls h hR hS hu.1 hu.2 (Or.inr (Or.inl ⟨x, rfl, hty, hd⟩))
theorem Z_aret {r : Value} {rt : FieldType} (hd : decode (mC M) pc = .ok (.areturn, 1)) (hr : r = .null ∨ ∃ a, r = .ref a) (hty : mR M = some rt) (hrt : (∃ n, rt = .object n) ∨ ∃ t, rt = .array t) (hu : u.1 ≤ mK M ∧ u.2 ≤ mS M) (h : post (some r) α) : Z G M d pc L [r] α u post :=
  fun p l e R s m args below meth c Q D dA C H locs ls hR hS _ => C.2.2.2.2.2.2.2.2.2.2 _ α H locs u.1 u.2 pc ls h hR hS hu.1 hu.2 (Or.inr (Or.inr (Or.inl ⟨r, rt, rfl, hr, hty, hrt, hd⟩)))
theorem Z_vret (hd : decode (mC M) pc = .ok (.return_, 1)) (hty : mR M = none) (hu : u.1 ≤ mK M ∧ u.2 ≤ mS M) (h : post none α) : Z G M d pc L [] α u post :=
  fun p l e R s m args below meth c Q D dA C H locs ls hR hS _ => C.2.2.2.2.2.2.2.2.2.2 _ α H locs u.1 u.2 pc ls h hR hS hu.1 hu.2 (Or.inr (Or.inr (Or.inr ⟨rfl, hty, hd⟩)))
end ZR1
