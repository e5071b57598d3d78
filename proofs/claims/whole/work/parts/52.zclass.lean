section CZ1
variable {G : ZG} {M : ZM} {d pc : Nat} {L : List (Option Value)} {st : List Value} {α : AH} {u : Nat × Nat} {post : Option Value → AH → Prop}
theorem zrf_inj {o : Nat} {r1 r2 : Option Nat} (h : r1.map (fun i => o + i) = r2.map (fun i => o + i)) : r1 = r2 := by
  cases r1 with
  | none => cases r2 with
    | none => rfl
    | some b => cases h
  | some a => cases r2 with
    | none => cases h
    | some b =>
      have : o + a = o + b := Option.some.inj h
      rw [show a = b by omega]
theorem Z_acmp_ne {r1 r2 : Option Nat} {off : Int} {tgt : Nat} (hd : decode (mC M) pc = .ok (.if_acmp .ne off, 3)) (ht : (pc : Int) + off = (tgt : Int)) (k1 : ¬ r1 = r2 → Z G M d tgt L st α u post) (k2 : r1 = r2 → Z G M d (pc + 3) L st α u post) : Z G M d pc L (zrf G.1 r2 :: zrf G.1 r1 :: st) α u post := by
  intro p l e R s m args below meth c Q D dA C H locs ls hR hV hl
  have hx := C.1
  have hb := C.2.1
  exact lv_acmp_ne hx hb hd ht (fun h => k1 (fun z => h (by rw [z])) p l e R s m args below meth c Q D dA C H locs ls hR hV hl) (fun h => k2 (zrf_inj h) p l e R s m args below meth c Q D dA C H locs ls hR hV hl)
theorem Z_instY {k ci z idx : Nat} {nm : String} {q : vw_C} (hd : decode (mC M) pc = .ok (.instanceof idx, 3)) (hl : Cond.classLink (mY M).cls idx nm ∈ zT) (hq : vwCl[ci]? = some q) (hk : zIs α k (ci + 4, z)) (hc : Cond.castable q.1 nm ∈ zN) (kk : Z G M d (pc + 3) L (.int 1 :: st) α u post) : Z G M d pc L (.ref (G.1 + k) :: st) α u post :=
  Z.goR (fun p l e R s m args below meth c' Q D dA H locs ls C hR hV hl' kk => va_instY C.1 C.2.1 C.2.2.2.1 (C.2.2.2.2.1 _ hl) (C.2.2.2.2.2.2.2.1.2.2.2.1 _ hc) (zrecv C hR hk hq) hd kk) kk
theorem Z_instN {k ci z idx : Nat} {nm : String} {q : vw_C} (hd : decode (mC M) pc = .ok (.instanceof idx, 3)) (hl : Cond.classLink (mY M).cls idx nm ∈ zT) (hq : vwCl[ci]? = some q) (hk : zIs α k (ci + 4, z)) (hc : (q.1, nm) ∈ zNC) (kk : Z G M d (pc + 3) L (.int 0 :: st) α u post) : Z G M d pc L (.ref (G.1 + k) :: st) α u post :=
  Z.goR (fun p l e R s m args below meth c' Q D dA H locs ls C hR hV hl' kk => va_instNo C.1 C.2.1 C.2.2.2.1 (C.2.2.2.2.1 _ hl) (C.2.2.2.2.2.2.2.1.2.2.2.2.2.1 _ hc) (zrecv C hR hk hq) hd kk) kk
theorem Z_castY {k ci z idx : Nat} {nm : String} {q : vw_C} (hd : decode (mC M) pc = .ok (.checkcast idx, 3)) (hl : Cond.classLink (mY M).cls idx nm ∈ zT) (hq : vwCl[ci]? = some q) (hk : zIs α k (ci + 4, z)) (hc : Cond.castable q.1 nm ∈ zN) (kk : Z G M d (pc + 3) L (.ref (G.1 + k) :: st) α u post) : Z G M d pc L (.ref (G.1 + k) :: st) α u post :=
  Z.goR (fun p l e R s m args below meth c' Q D dA H locs ls C hR hV hl' kk => va_castY C.1 C.2.1 C.2.2.2.1 (C.2.2.2.2.1 _ hl) (C.2.2.2.2.2.2.2.1.2.2.2.1 _ hc) (zrecv C hR hk hq) hd kk) kk
theorem Z_instS {k ci z idx : Nat} {q : vw_C} (hd : decode (mC M) pc = .ok (.instanceof idx, 3)) (hq : vwCl[ci]? = some q) (hl : Cond.classLink (mY M).cls idx q.1 ∈ zT) (hk : zIs α k (ci + 4, z)) (kk : Z G M d (pc + 3) L (.int 1 :: st) α u post) : Z G M d pc L (.ref (G.1 + k) :: st) α u post :=
  Z.goR (fun p l e R s m args below meth c' Q D dA H locs ls C hR hV hl' kk => va_instS C.1 C.2.1 C.2.2.2.1 (C.2.2.2.2.1 _ hl) (C.2.2.2.2.2.2.1.1 ci q hq).2 (zrecv C hR hk hq) hd kk) kk
theorem Z_castS {k ci z idx : Nat} {q : vw_C} (hd : decode (mC M) pc = .ok (.checkcast idx, 3)) (hq : vwCl[ci]? = some q) (hl : Cond.classLink (mY M).cls idx q.1 ∈ zT) (hk : zIs α k (ci + 4, z)) (kk : Z G M d (pc + 3) L (.ref (G.1 + k) :: st) α u post) : Z G M d pc L (.ref (G.1 + k) :: st) α u post :=
  Z.goR (fun p l e R s m args below meth c' Q D dA H locs ls C hR hV hl' kk => va_castS C.1 C.2.1 C.2.2.2.1 (C.2.2.2.2.1 _ hl) (C.2.2.2.2.2.2.1.1 ci q hq).2 (zrecv C hR hk hq) hd kk) kk
end CZ1
