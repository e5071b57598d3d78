/-! The layer over the kit. An abstract heap: how many cells, their kinds and lengths, ints, longs, references (by number).
Cell k of the abstract heap lies at the address o + k, where o is the heap's size at the law's start. -/
abbrev AH : Type := Nat × (Nat → Nat × Nat) × (Nat → Nat → Int32) × (Nat → Nat → Int64) × (Nat → Nat → Option Nat)
def hN (α : AH) : Nat := α.1
def hS (α : AH) : Nat → Nat × Nat := α.2.1
def hI (α : AH) : Nat → Nat → Int32 := α.2.2.1
def hJ (α : AH) : Nat → Nat → Int64 := α.2.2.2.1
def hP (α : AH) : Nat → Nat → Option Nat := α.2.2.2.2
def u1 {β : Type} (f : Nat → β) (a : Nat) (x : β) : Nat → β := fun b => if b = a then x else f b
def u2 {β : Type} (f : Nat → Nat → β) (a k : Nat) (x : β) : Nat → Nat → β := u1 f a (u1 (f a) k x)
def sI (α : AH) (a k : Nat) (x : Int32) : AH := (α.1, α.2.1, u2 α.2.2.1 a k x, α.2.2.2.1, α.2.2.2.2)
def sJ (α : AH) (a k : Nat) (x : Int64) : AH := (α.1, α.2.1, α.2.2.1, u2 α.2.2.2.1 a k x, α.2.2.2.2)
def sP (α : AH) (a k : Nat) (x : Option Nat) : AH := (α.1, α.2.1, α.2.2.1, α.2.2.2.1, u2 α.2.2.2.2 a k x)
/-- a whole row of ints -/
def sIr (α : AH) (a : Nat) (f : Nat → Int32) : AH := (α.1, α.2.1, u1 α.2.2.1 a f, α.2.2.2.1, α.2.2.2.2)
/-- a new cell -/
def nw (α : AH) (sh : Nat × Nat) (f : Nat → Int32) : AH := (α.1 + 1, u1 α.2.1 α.1 sh, u1 α.2.2.1 α.1 f, u1 α.2.2.2.1 α.1 (fun _ => 0), u1 α.2.2.2.2 α.1 (fun _ => none))
theorem u1_s {β : Type} (f : Nat → β) (a : Nat) (x : β) : u1 f a x a = x := if_pos rfl
theorem u1_n {β : Type} {f : Nat → β} {a b : Nat} {x : β} (h : b ≠ a) : u1 f a x b = f b := if_neg h
def zTy : Nat → Nat → FieldType := fun c => match c with
  | 0 => tyX0
  | 1 => tyX1
  | 2 => tyX2
  | 3 => tyX3
  | 4 => tyX4
  | 5 => tyX5
  | 6 => tyX6
  | 7 => tyX7
  | 8 => tyX8
  | 9 => tyX9
  | 10 => tyX10
  | 11 => tyX11
  | _ => tyX12
def zfk (t : FieldType) : Nat := match t with
  | .long => 1
  | .object _ => 2
  | .array _ => 2
  | _ => 0
def znf : Nat → Nat := fun c => match c with
  | 0 => 10
  | 1 => 3
  | 2 => 3
  | 3 => 3
  | 4 => 10
  | 5 => 12
  | 6 => 3
  | 7 => 4
  | 8 => 5
  | 9 => 3
  | 10 => 3
  | 11 => 7
  | _ => 33
def zrf (o : Nat) (r : Option Nat) : Value := va_rf (r.map (fun i => o + i))
/-- the value of field j (of a type) of cell k -/
def zfv (o : Nat) (t : FieldType) (α : AH) (k j : Nat) : Value := match zfk t with
  | 0 => .int (hI α k j)
  | 1 => .long (hJ α k j)
  | _ => zrf o (hP α k j)
/-- cell k lies in the heap; kinds: 0 int[], 1 long[], 2 boolean[], 3 Worker[], c + 4 an object of the class c of vwCl -/
def zAt (o : Nat) (D : va_G) (dA : Nat → ClassId) (α : AH) (k : Nat) (H : Heap) : Prop := match (hS α k).1 with
  | 0 => H[o + k]? = some (arrV (dA 0) (hS α k).2 (fun j => .int (hI α k j)))
  | 1 => H[o + k]? = some (arrV (dA 1) (hS α k).2 (fun j => .long (hJ α k j)))
  | 2 => H[o + k]? = some (arrV (dA 2) (hS α k).2 (fun j => .int (hI α k j)))
  | 3 => H[o + k]? = some (arrV (dA 3) (hS α k).2 (fun j => zrf o (hP α k j)))
  | c + 4 => t_OB (o + k) (D.1 c) (znf c) (D.2 c) H (fun j => zfv o (zTy c j) α k j)
def zR (o : Nat) (D : va_G) (dA : Nat → ClassId) (α : AH) (H : Heap) : Prop := H.size = o + hN α ∧ ∀ k, k < hN α → zAt o D dA α k H
def zIs (α : AH) (k : Nat) (sh : Nat × Nat) : Prop := k < hN α ∧ hS α k = sh
def zA (o : Nat) : Nat → Prop := fun q => o ≤ q
theorem zAt.cg {o : Nat} {D : va_G} {dA : Nat → ClassId} {α β : AH} {k : Nat} {H H1 : Heap} (hs : hS β k = hS α k) (hi : hI β k = hI α k) (hj : hJ β k = hJ α k) (hp : hP β k = hP α k) (hh : H1[o + k]? = H[o + k]?) (h : zAt o D dA α k H) : zAt o D dA β k H1 := by
  unfold zAt at h ⊢
  rw [hs]
  split <;> rename_i e <;> rw [e] at h
  · rw [hh, hi]; exact h
  · rw [hh, hj]; exact h
  · rw [hh, hi]; exact h
  · rw [hh, hp]; exact h
  · refine (t_OB.kept h hh).to (fun j _ => ?_)
    unfold zfv
    rw [hi, hj, hp]
theorem zR.put {o : Nat} {D : va_G} {dA : Nat → ClassId} {α β : AH} {k : Nat} {H H1 : Heap} (h : zR o D dA α H) (hn : hN β = hN α) (hs : ∀ b, b ≠ k → hS β b = hS α b ∧ hI β b = hI α b ∧ hJ β b = hJ α b ∧ hP β b = hP α b) (hz : H1.size = H.size) (ho : ∀ q, q ≠ o + k → H1[q]? = H[q]?) (hat : zAt o D dA β k H1) : zR o D dA β H1 := by
  refine ⟨by rw [hz, h.1, hn], fun b hb => ?_⟩
  by_cases e : b = k
  · rw [e]; exact hat
  · obtain ⟨h1, h2, h3, h4⟩ := hs b e
    exact zAt.cg h1 h2 h3 h4 (ho _ (by omega)) (h.2 b (by rw [← hn]; exact hb))
theorem zR.new {o : Nat} {D : va_G} {dA : Nat → ClassId} {α : AH} {sh : Nat × Nat} {f : Nat → Int32} {H H1 : Heap} (h : zR o D dA α H) (hz : H1.size = H.size + 1) (ho : ∀ q, q < H.size → H1[q]? = H[q]?) (hat : zAt o D dA (nw α sh f) (hN α) H1) : zR o D dA (nw α sh f) H1 := by
  refine ⟨by rw [hz, h.1]; rfl, fun b hb => ?_⟩
  by_cases e : b = hN α
  · rw [e]; exact hat
  · have hb' : b < hN α := by have : b < hN α + 1 := hb; omega
    exact zAt.cg (u1_n e) (u1_n e) (u1_n e) (u1_n e) (ho _ (by rw [h.1]; omega)) (h.2 b hb')
theorem zAt.i {o : Nat} {D : va_G} {dA : Nat → ClassId} {α : AH} {k n : Nat} {H : Heap} (h : zAt o D dA α k H) (hs : hS α k = (0, n)) : H[o + k]? = some (arrV (dA 0) n (fun j => .int (hI α k j))) := by
  unfold zAt at h; rw [hs] at h; exact h
theorem zAt.l {o : Nat} {D : va_G} {dA : Nat → ClassId} {α : AH} {k n : Nat} {H : Heap} (h : zAt o D dA α k H) (hs : hS α k = (1, n)) : H[o + k]? = some (arrV (dA 1) n (fun j => .long (hJ α k j))) := by
  unfold zAt at h; rw [hs] at h; exact h
theorem zAt.z {o : Nat} {D : va_G} {dA : Nat → ClassId} {α : AH} {k n : Nat} {H : Heap} (h : zAt o D dA α k H) (hs : hS α k = (2, n)) : H[o + k]? = some (arrV (dA 2) n (fun j => .int (hI α k j))) := by
  unfold zAt at h; rw [hs] at h; exact h
theorem zAt.q {o : Nat} {D : va_G} {dA : Nat → ClassId} {α : AH} {k n : Nat} {H : Heap} (h : zAt o D dA α k H) (hs : hS α k = (3, n)) : H[o + k]? = some (arrV (dA 3) n (fun j => zrf o (hP α k j))) := by
  unfold zAt at h; rw [hs] at h; exact h
theorem zAt.o {o : Nat} {D : va_G} {dA : Nat → ClassId} {α : AH} {k c n : Nat} {H : Heap} (h : zAt o D dA α k H) (hs : hS α k = (c + 4, n)) : t_OB (o + k) (D.1 c) (znf c) (D.2 c) H (fun j => zfv o (zTy c j) α k j) := by
  unfold zAt at h; rw [hs] at h; exact h
/-- what a class must have for its objects' fields to be read and written -/
def zCls (c : Nat) : Prop := ∃ (C : String) (T : u_T) (N : Nat), vwCl[c]? = some (C, T, N) ∧ znf c = N ∧ (∀ w ∈ u_ws C T N, w ∈ zT) ∧ (∀ a, a < N → ∀ b, b < N → a ≠ b → (T a).2.1 ≠ (T b).2.1) ∧ ∀ k, k < N → parseFieldDescriptor (T k).2.2.1 = some (zTy c k)
/-- the pool's entry idx of the class own links field j of the class c -/
def zFld (own : String) (idx c j : Nat) : Prop := ∃ (C : String) (T : u_T) (N : Nat) (ref : String), vwCl[c]? = some (C, T, N) ∧ j < N ∧ Cond.fieldLink own idx ref (T j).2.1 (T j).2.2.1 ∈ zT ∧ (ref = (T j).1 ∨ Cond.sameField ref (T j).1 (T j).2.1 (T j).2.2.1 ∈ zT)
def zFin (own : String) (c j : Nat) (b : Bool) : Prop := ∃ q : vw_C, vwCl[c]? = some q ∧ (q.2.1 j).2.2.2 = b ∧ (b = true → (q.2.1 j).1 = own)
