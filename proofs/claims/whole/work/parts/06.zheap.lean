section ZR2
variable {G : ZG} {M : ZM} {d pc pc' : Nat} {L L' : List (Option Value)} {st st' : List Value} {α α' : AH} {u u' : Nat × Nat} {post : Option Value → AH → Prop}
/-- a row that reads the heap and the tables -/
theorem Z.goR (h : ∀ (p : Program) (l : Launch) (e : Env) (R : Room) (s : State) (m : MethodId) (args : Array Value) (below : List Frame) (meth : Method) (c : Code) (Q : State → Prop) (D : va_G) (dA : Nat → ClassId) (H : Heap) (locs : List Loc) (ls : Array Slot), ZC G M d post p l e R s m args below meth c Q D dA → zR G.1 D dA α H → va_S (zA G.1) s.heap H locs → ls.size = mL M → W p l e R s m args below meth c H locs u.1 u.2 Q (F0 m pc' ls st') → W p l e R s m args below meth c H locs u.1 u.2 Q (F0 m pc ls st)) (k : Z G M d pc' L st' α u post) : Z G M d pc L st α u post :=
  fun p l e R s m args below meth c Q D dA C H locs ls hR hS hl => h p l e R s m args below meth c Q D dA H locs ls C hR hS hl.1 (k p l e R s m args below meth c Q D dA C H locs ls hR hS hl)
/-- a row that writes the heap -/
theorem Z.goW (h : ∀ (p : Program) (l : Launch) (e : Env) (R : Room) (s : State) (m : MethodId) (args : Array Value) (below : List Frame) (meth : Method) (c : Code) (Q : State → Prop) (D : va_G) (dA : Nat → ClassId) (H : Heap) (locs : List Loc) (ls : Array Slot), ZC G M d post p l e R s m args below meth c Q D dA → zR G.1 D dA α H → va_S (zA G.1) s.heap H locs → ls.size = mL M → (∀ (H1 : Heap) (locs1 : List Loc), zR G.1 D dA α' H1 → va_S (zA G.1) s.heap H1 locs1 → W p l e R s m args below meth c H1 locs1 u'.1 u'.2 Q (F0 m pc' ls st')) → W p l e R s m args below meth c H locs u.1 u.2 Q (F0 m pc ls st)) (k : Z G M d pc' L st' α' u' post) : Z G M d pc L st α u post :=
  fun p l e R s m args below meth c Q D dA C H locs ls hR hS hl => h p l e R s m args below meth c Q D dA H locs ls C hR hS hl.1 (fun H1 locs1 hR1 hS1 => k p l e R s m args below meth c Q D dA C H1 locs1 ls hR1 hS1 hl)
theorem zfld_same {own : String} {args : Array Value} {s : State} {T : u_T} {j : Nat} {ref : String} (hts : ∀ w ∈ zT, w.before args s = true) (h : ref = (T j).1 ∨ Cond.sameField ref (T j).1 (T j).2.1 (T j).2.2.1 ∈ zT) : ∀ x, s.fieldFound? (T j).1 (T j).2.1 (T j).2.2.1 = some x → s.fieldFound? ref (T j).2.1 (T j).2.2.1 = some x := by
  rcases h with h | h
  · subst h; exact fun _ h => h
  · exact fun x hx => u_same (hts _ h) x hx
theorem Z_getv {c j k n idx : Nat} (hd : decode (mC M) pc = .ok (.getfield idx, 3)) (hc : zCls c) (hf : zFld (mY M).cls idx c j) (hs : zIs α k (c + 4, n)) (kk : Z G M d (pc + 3) L (zfv G.1 (zTy c j) α k j :: st) α u post) : Z G M d pc L (.ref (G.1 + k) :: st) α u post := by
  refine Z.goR (fun p l e R s m args below meth c' Q D dA H locs ls C hR hV hl kk => ?_) kk
  obtain ⟨hx, hb, -, hown, hts, -, hK, -⟩ := C
  obtain ⟨C, T, N, e1, e2, hin, -, -⟩ := hc
  obtain ⟨C2, T2, N2, ref, f1, f2, f3, f4⟩ := hf
  cases e1.symm.trans f1
  obtain ⟨cell, q1, q2, q3, q4⟩ := (hR.2 k hs.1).o hs.2
  obtain ⟨hSl, hfc, kC, hkC, hkind⟩ := hK.1 c _ e1
  obtain ⟨cf, kf, fi, f, hi, hsl⟩ := hSl j f2
  refine W.getf hx hb hown (hts _ f3) (zfld_same (own := C) hts f4 _ hi) (u_facts hfc hkC (u_lays hts hin f2) hi).1 q1 (by rw [q3]; exact fun h => by cases h) (v := zfv G.1 (zTy c j) α k j) ?_ rfl rfl hd kk
  rw [hsl, q4 j (by rw [e2]; exact f2)]
theorem Z_getI {c j k n idx : Nat} (hd : decode (mC M) pc = .ok (.getfield idx, 3)) (hc : zCls c) (hf : zFld (mY M).cls idx c j) (ht : zfk (zTy c j) = 0) (hs : zIs α k (c + 4, n)) (kk : Z G M d (pc + 3) L (.int (hI α k j) :: st) α u post) : Z G M d pc L (.ref (G.1 + k) :: st) α u post :=
  Z_getv hd hc hf hs (by unfold zfv; rw [ht]; exact kk)
theorem Z_getJ {c j k n idx : Nat} (hd : decode (mC M) pc = .ok (.getfield idx, 3)) (hc : zCls c) (hf : zFld (mY M).cls idx c j) (ht : zfk (zTy c j) = 1) (hs : zIs α k (c + 4, n)) (kk : Z G M d (pc + 3) L (.long (hJ α k j) :: st) α u post) : Z G M d pc L (.ref (G.1 + k) :: st) α u post :=
  Z_getv hd hc hf hs (by unfold zfv; rw [ht]; exact kk)
theorem Z_getP {c j k n idx : Nat} {r : Option Nat} (hd : decode (mC M) pc = .ok (.getfield idx, 3)) (hc : zCls c) (hf : zFld (mY M).cls idx c j) (ht : zfk (zTy c j) = 2) (hs : zIs α k (c + 4, n)) (hr : hP α k j = r) (kk : Z G M d (pc + 3) L (zrf G.1 r :: st) α u post) : Z G M d pc L (.ref (G.1 + k) :: st) α u post :=
  Z_getv hd hc hf hs (by unfold zfv; rw [ht, hr]; exact kk)
/-- a field that holds a cell -/
theorem Z_getR {c j k n idx i : Nat} (hd : decode (mC M) pc = .ok (.getfield idx, 3)) (hc : zCls c) (hf : zFld (mY M).cls idx c j) (ht : zfk (zTy c j) = 2) (hs : zIs α k (c + 4, n)) (hr : hP α k j = some i) (kk : Z G M d (pc + 3) L (.ref (G.1 + i) :: st) α u post) : Z G M d pc L (.ref (G.1 + k) :: st) α u post :=
  Z_getP hd hc hf ht hs hr kk
theorem zfv_set {o : Nat} {c : Nat} {α β : AH} {k j : Nat} {v : Value} (hv : zfv o (zTy c j) β k j = v) (hk : ∀ i, i ≠ j → zfv o (zTy c i) β k i = zfv o (zTy c i) α k i) : ∀ i, updV (fun i => zfv o (zTy c i) α k i) j v i = zfv o (zTy c i) β k i := by
  intro i
  by_cases e : i = j
  · subst e; simp [updV, hv]
  · simp [updV, e, hk i e]
/-- a write to a field, in general -/
theorem Z_putv {c j k n idx : Nat} {v : Value} {β : AH} (hd : decode (mC M) pc = .ok (.putfield idx, 3)) (hc : zCls c) (hf : zFld (mY M).cls idx c j) (hfin : zFin (mY M).cls c j false ∨ (zFin (mY M).cls c j true ∧ (mY M).name = "<init>")) (hs : zIs α k (c + 4, n)) (hn : narrow (zTy c j) v = v) (hfit : fits (zTy c j) v = true)
    (b1 : hN β = hN α) (b2 : ∀ b, b ≠ k → hS β b = hS α b ∧ hI β b = hI α b ∧ hJ β b = hJ α b ∧ hP β b = hP α b) (b3 : hS β k = hS α k) (b4 : zfv G.1 (zTy c j) β k j = v) (b5 : ∀ i, i ≠ j → zfv G.1 (zTy c i) β k i = zfv G.1 (zTy c i) α k i)
    (kk : Z G M d (pc + 3) L st β u post) : Z G M d pc L (v :: .ref (G.1 + k) :: st) α u post := by
  refine Z.goW (fun p l e R s m args below meth c' Q D dA H locs ls C hR hV hl kk => ?_) kk
  obtain ⟨hx, hb, -, hown, hts, hname, hK, -, hos, -⟩ := C
  obtain ⟨C, T, N, e1, e2, hin, hnm, hty⟩ := hc
  obtain ⟨C2, T2, N2, ref, f1, f2, f3, f4⟩ := hf
  cases e1.symm.trans f1
  have hap := va_apart (own := C) hts hin (zTy c) hty hnm hK e1
  obtain ⟨cell, q1, q2, q3, q4⟩ := (hR.2 k hs.1).o hs.2
  rw [e2] at q4
  obtain ⟨hSl, hfc, kC, hkC, hkind⟩ := hK.1 c _ e1
  obtain ⟨cf, kf, fi, f, hi, hsl⟩ := hSl j f2
  have hst := (u_facts hfc hkC (u_lays hts hin f2) hi).1
  have hsame := zfld_same (own := C) hts f4 _ hi
  have hend : ∀ H' : Heap, H'[G.1 + k]? = some (cell.setSlot f.slot v) → H'.size = H.size → (∀ q, q ≠ G.1 + k → H'[q]? = H[q]?) → W p l e R s m args below meth c' H' (locs ++ [⟨G.1 + k, f.slot⟩]) u.1 u.2 Q { F0 m pc ls (v :: .ref (G.1 + k) :: st) with pc := pc + 3, stack := st } := by
    intro H' e1' e2' e3'
    rw [hsl] at e1' ⊢
    refine kk H' _ (hR.put b1 b2 e2' e3' ?_) (hV.put e2' e3' (Nat.le_add_right _ _))
    have hSk : hS β k = (c + 4, n) := by rw [b3]; exact hs.2
    unfold zAt
    rw [hSk]
    show t_OB (G.1 + k) (D.1 c) (znf c) (D.2 c) H' (fun j => zfv G.1 (zTy c j) β k j)
    rw [e2]
    exact t_OB.to (V := updV (fun i => zfv G.1 (zTy c i) α k i) j v) ⟨_, e1', q2, q3, t_set q4 hap f2 v⟩ (fun i _ => zfv_set b4 b5 i)
  have hlay := hts _ (hin _ (u_in_lay f2))
  unfold u_lay at hlay
  rcases hfin with hfin | ⟨hfin, hini⟩
  · obtain ⟨q, g1, g2, -⟩ := hfin
    cases e1.symm.trans g1
    rw [if_neg (by rw [g2]; decide)] at hlay
    have h6 := u_store hfc hkC hkind hlay hi (hty j f2) hn hfit
    exact W.putK hx hb (f := f) ⟨hown, hts _ f3, ⟨_, _, _, hsame⟩, hst⟩ (by rw [q2]; exact h6) q1 q3 (by rw [hsl]; exact k2_hasslot (q4 j f2)) rfl rfl hd hend
  · obtain ⟨q, g1, g2, g3⟩ := hfin
    cases e1.symm.trans g1
    rw [if_pos g2] at hlay
    have hcf : m.cls = cf := by
      obtain ⟨_, _, c', _, _, _, -, -, hf', -, -, -, hown2, -⟩ := Cond.laysFinal_spec hlay
      have e1 : c' = cf := by have := hi.symm.trans hf'; simp at this; exact this.1.symm
      rw [g3 rfl] at hown2
      rw [← e1]; exact Option.some.inj (hown.symm.trans hown2)
    have h6 := u_fits hfc hkC hkind (Or.inr hlay) hi (hty j f2) hn hfit
    exact W.putFinK hx hb hown (hts _ f3) hsame hst hcf (by rw [hname]; exact hini) (by rw [q2]; exact h6) q1 q3 (by rw [hsl]; exact k2_hasslot (q4 j f2)) rfl rfl hd hend
theorem u2_row {β : Type} {f : Nat → Nat → β} {a k b : Nat} {x : β} (h : b ≠ a) : u2 f a k x b = f b := u1_n h
theorem u2_at {β : Type} {f : Nat → Nat → β} {a k : Nat} {x : β} : u2 f a k x a k = x := by unfold u2; rw [u1_s, u1_s]
theorem u2_ne {β : Type} {f : Nat → Nat → β} {a k j : Nat} {x : β} (h : j ≠ k) : u2 f a k x a j = f a j := by unfold u2; rw [u1_s, u1_n h]
theorem Z_putI {c j k n idx : Nat} {x : Int32} (hd : decode (mC M) pc = .ok (.putfield idx, 3)) (hc : zCls c) (hf : zFld (mY M).cls idx c j) (hfin : zFin (mY M).cls c j false ∨ (zFin (mY M).cls c j true ∧ (mY M).name = "<init>")) (ht : zfk (zTy c j) = 0) (hs : zIs α k (c + 4, n)) (hn : narrow (zTy c j) (.int x) = .int x) (hfit : fits (zTy c j) (.int x) = true)
    (kk : Z G M d (pc + 3) L st (sI α k j x) u post) : Z G M d pc L (.int x :: .ref (G.1 + k) :: st) α u post := by
  refine Z_putv (β := sI α k j x) hd hc hf hfin hs hn hfit rfl (fun b hb => ⟨rfl, u2_row hb, rfl, rfl⟩) rfl ?_ (fun i hi => ?_) kk
  · unfold zfv; rw [ht]; exact congrArg Value.int u2_at
  · unfold zfv; rw [show hI (sI α k j x) k i = hI α k i from u2_ne hi]; rfl
theorem Z_putJ {c j k n idx : Nat} {x : Int64} (hd : decode (mC M) pc = .ok (.putfield idx, 3)) (hc : zCls c) (hf : zFld (mY M).cls idx c j) (hfin : zFin (mY M).cls c j false ∨ (zFin (mY M).cls c j true ∧ (mY M).name = "<init>")) (ht : zfk (zTy c j) = 1) (hs : zIs α k (c + 4, n)) (hn : narrow (zTy c j) (.long x) = .long x) (hfit : fits (zTy c j) (.long x) = true)
    (kk : Z G M d (pc + 3) L st (sJ α k j x) u post) : Z G M d pc L (.long x :: .ref (G.1 + k) :: st) α u post := by
  refine Z_putv (β := sJ α k j x) hd hc hf hfin hs hn hfit rfl (fun b hb => ⟨rfl, rfl, u2_row hb, rfl⟩) rfl ?_ (fun i hi => ?_) kk
  · unfold zfv; rw [ht]; exact congrArg Value.long u2_at
  · unfold zfv; rw [show hJ (sJ α k j x) k i = hJ α k i from u2_ne hi]; rfl
theorem Z_putP {c j k n idx : Nat} {r : Option Nat} (hd : decode (mC M) pc = .ok (.putfield idx, 3)) (hc : zCls c) (hf : zFld (mY M).cls idx c j) (hfin : zFin (mY M).cls c j false ∨ (zFin (mY M).cls c j true ∧ (mY M).name = "<init>")) (ht : zfk (zTy c j) = 2) (hs : zIs α k (c + 4, n)) (hn : narrow (zTy c j) (zrf G.1 r) = zrf G.1 r) (hfit : fits (zTy c j) (zrf G.1 r) = true)
    (kk : Z G M d (pc + 3) L st (sP α k j r) u post) : Z G M d pc L (zrf G.1 r :: .ref (G.1 + k) :: st) α u post := by
  refine Z_putv (β := sP α k j r) hd hc hf hfin hs hn hfit rfl (fun b hb => ⟨rfl, rfl, rfl, u2_row hb⟩) rfl ?_ (fun i hi => ?_) kk
  · unfold zfv; rw [ht]; exact congrArg (zrf G.1) u2_at
  · unfold zfv; rw [show hP (sP α k j r) k i = hP α k i from u2_ne hi]; rfl
theorem Z_putR {c j k n idx i : Nat} (hd : decode (mC M) pc = .ok (.putfield idx, 3)) (hc : zCls c) (hf : zFld (mY M).cls idx c j) (hfin : zFin (mY M).cls c j false ∨ (zFin (mY M).cls c j true ∧ (mY M).name = "<init>")) (ht : zfk (zTy c j) = 2) (hs : zIs α k (c + 4, n)) (hn : narrow (zTy c j) (.ref (G.1 + i)) = .ref (G.1 + i)) (hfit : fits (zTy c j) (.ref (G.1 + i)) = true)
    (kk : Z G M d (pc + 3) L st (sP α k j (some i)) u post) : Z G M d pc L (.ref (G.1 + i) :: .ref (G.1 + k) :: st) α u post := Z_putP (r := some i) hd hc hf hfin ht hs hn hfit kk
/-- an index in its row: i is m, below n -/
def zix (i : Int32) (n m : Nat) : Prop := vp_in i n ∧ i.toNatClampNeg = m
theorem zix_any {i : Int32} {n : Nat} (h : vp_in i n) : zix i n i.toNatClampNeg := ⟨h, rfl⟩
theorem zix_nI {n m : Nat} (h : m < n) (hn : n < 2 ^ 31) : zix (nI m) n m := ⟨vp_in_nI h hn, nI_clamp (Nat.lt_trans h hn)⟩
theorem zix_k {i : Int32} {n m : Nat} (h : i.toInt = (m : Int) ∧ m < n ∧ n < 2 ^ 31) : zix i n m := by
  have e : i = nI m := by
    apply Int32.toInt_inj.mp
    rw [nI_toInt (Nat.lt_trans h.2.1 h.2.2)]
    exact h.1
  rw [e]
  exact zix_nI h.2.1 h.2.2
theorem zix_e {i : Int32} {n m : Nat} (e : i = nI m) (h : m < n) (hn : n < 2 ^ 31) : zix i n m := e ▸ zix_nI h hn
/-! arrays -/
theorem Z_iald {k n m : Nat} {i : Int32} (hd : decode (mC M) pc = .ok (.iaload, 1)) (hs : zIs α k (0, n)) (hix : zix i n m) (kk : Z G M d (pc + 1) L (.int (hI α k m) :: st) α u post) : Z G M d pc L (.int i :: .ref (G.1 + k) :: st) α u post := by
  obtain ⟨hin, rfl⟩ := hix
  refine Z.goR (fun p l e R s m args below meth c' Q D dA H locs ls C hR hV hl kk => ?_) kk
  have hlt : i.toNatClampNeg < n := Nat.not_le.mp fun q => hin (Or.inr q)
  exact W.iald (v := .int (hI α k i.toNatClampNeg)) C.1 C.2.1 ((hR.2 k hs.1).i hs.2) ((C.2.2.2.2.2.2.1.2 0 _ rfl).1 n _) (fun q => by cases q) (by rw [arrV_size]; exact hin) (by rw [arrV_read _ _ hlt]) rfl rfl hd kk
theorem Z_lald {k n m : Nat} {i : Int32} (hd : decode (mC M) pc = .ok (.laload, 1)) (hs : zIs α k (1, n)) (hix : zix i n m) (kk : Z G M d (pc + 1) L (.long (hJ α k m) :: st) α u post) : Z G M d pc L (.int i :: .ref (G.1 + k) :: st) α u post := by
  obtain ⟨hin, rfl⟩ := hix
  refine Z.goR (fun p l e R s m args below meth c' Q D dA H locs ls C hR hV hl kk => ?_) kk
  have hlt : i.toNatClampNeg < n := Nat.not_le.mp fun q => hin (Or.inr q)
  exact W.lald (v := .long (hJ α k i.toNatClampNeg)) C.1 C.2.1 ((hR.2 k hs.1).l hs.2) ((C.2.2.2.2.2.2.1.2 1 _ rfl).1 n _) (fun q => by cases q) (by rw [arrV_size]; exact hin) (by rw [arrV_read _ _ hlt]) rfl rfl hd kk
theorem Z_zald {k n m : Nat} {i : Int32} (hd : decode (mC M) pc = .ok (.baload, 1)) (hs : zIs α k (2, n)) (hix : zix i n m) (kk : Z G M d (pc + 1) L (.int (hI α k m) :: st) α u post) : Z G M d pc L (.int i :: .ref (G.1 + k) :: st) α u post := by
  obtain ⟨hin, rfl⟩ := hix
  refine Z.goR (fun p l e R s m args below meth c' Q D dA H locs ls C hR hV hl kk => ?_) kk
  have hlt : i.toNatClampNeg < n := Nat.not_le.mp fun q => hin (Or.inr q)
  exact W.zald (v := .int (hI α k i.toNatClampNeg)) C.1 C.2.1 ((hR.2 k hs.1).z hs.2) ((C.2.2.2.2.2.2.1.2 2 _ rfl).1 n _) (fun q => by cases q) (by rw [arrV_size]; exact hin) (by rw [arrV_read _ _ hlt]) rfl rfl hd kk
theorem Z_aald {k n m : Nat} {i : Int32} {r : Option Nat} (hd : decode (mC M) pc = .ok (.aaload, 1)) (hs : zIs α k (3, n)) (hix : zix i n m) (hr : hP α k m = r) (kk : Z G M d (pc + 1) L (zrf G.1 r :: st) α u post) : Z G M d pc L (.int i :: .ref (G.1 + k) :: st) α u post := by
  obtain ⟨hin, rfl⟩ := hix
  subst hr
  refine Z.goR (fun p l e R s m args below meth c' Q D dA H locs ls C hR hV hl kk => ?_) kk
  have hlt : i.toNatClampNeg < n := Nat.not_le.mp fun q => hin (Or.inr q)
  exact W.aald (v := zrf G.1 (hP α k i.toNatClampNeg)) (ty := .object "DaysBag$Worker") C.1 C.2.1 ((hR.2 k hs.1).q hs.2) ((C.2.2.2.2.2.2.1.2 3 _ rfl).1 n _) rfl (fun q => by cases q) (by rw [arrV_size]; exact hin) (by rw [arrV_read _ _ hlt]) rfl rfl hd kk
theorem Z_iast {k n m : Nat} {i x : Int32} (hd : decode (mC M) pc = .ok (.iastore, 1)) (hs : zIs α k (0, n)) (hix : zix i n m) (kk : Z G M d (pc + 1) L st (sI α k m x) u post) : Z G M d pc L (.int x :: .int i :: .ref (G.1 + k) :: st) α u post := by
  obtain ⟨hin, rfl⟩ := hix
  refine Z.goW (fun p l e R s m args below meth c' Q D dA H locs ls C hR hV hl kk => ?_) kk
  refine W.iast C.1 C.2.1 ((hR.2 k hs.1).i hs.2) ((C.2.2.2.2.2.2.1.2 0 _ rfl).1 n _) (fun q => by cases q) (by rw [arrV_size]; exact hin) rfl rfl hd (fun H1 e z oq => ?_)
  refine kk H1 _ (hR.put (β := sI α k i.toNatClampNeg x) rfl (fun b hb => ⟨rfl, u2_row hb, rfl, rfl⟩) z oq ?_) (hV.put z oq (Nat.le_add_right _ _))
  unfold zAt
  rw [show hS (sI α k i.toNatClampNeg x) k = (0, n) from hs.2]
  show H1[G.1 + k]? = some (arrV (dA 0) n (fun j => .int (hI (sI α k i.toNatClampNeg x) k j)))
  rw [e, arrV_store]
  congr 2
  funext q
  by_cases hq : q = i.toNatClampNeg
  · subst hq; simp only [updV]; rw [if_pos trivial]; exact congrArg Value.int u2_at.symm
  · simp only [updV]; rw [if_neg hq]; exact congrArg Value.int (u2_ne hq).symm
theorem Z_last {k n m : Nat} {i : Int32} {x : Int64} (hd : decode (mC M) pc = .ok (.lastore, 1)) (hs : zIs α k (1, n)) (hix : zix i n m) (kk : Z G M d (pc + 1) L st (sJ α k m x) u post) : Z G M d pc L (.long x :: .int i :: .ref (G.1 + k) :: st) α u post := by
  obtain ⟨hin, rfl⟩ := hix
  refine Z.goW (fun p l e R s m args below meth c' Q D dA H locs ls C hR hV hl kk => ?_) kk
  refine W.last C.1 C.2.1 ((hR.2 k hs.1).l hs.2) ((C.2.2.2.2.2.2.1.2 1 _ rfl).1 n _) (fun q => by cases q) (by rw [arrV_size]; exact hin) rfl rfl hd (fun H1 e z oq => ?_)
  refine kk H1 _ (hR.put (β := sJ α k i.toNatClampNeg x) rfl (fun b hb => ⟨rfl, rfl, u2_row hb, rfl⟩) z oq ?_) (hV.put z oq (Nat.le_add_right _ _))
  unfold zAt
  rw [show hS (sJ α k i.toNatClampNeg x) k = (1, n) from hs.2]
  show H1[G.1 + k]? = some (arrV (dA 1) n (fun j => .long (hJ (sJ α k i.toNatClampNeg x) k j)))
  rw [e, arrV_store]
  congr 2
  funext q
  by_cases hq : q = i.toNatClampNeg
  · subst hq; simp only [updV]; rw [if_pos trivial]; exact congrArg Value.long u2_at.symm
  · simp only [updV]; rw [if_neg hq]; exact congrArg Value.long (u2_ne hq).symm
theorem Z_zast {k n m : Nat} {i x : Int32} (hd : decode (mC M) pc = .ok (.bastore, 1)) (hs : zIs α k (2, n)) (hix : zix i n m) (hx1 : vp_nar .boolean x = x) (kk : Z G M d (pc + 1) L st (sI α k m x) u post) : Z G M d pc L (.int x :: .int i :: .ref (G.1 + k) :: st) α u post := by
  obtain ⟨hin, rfl⟩ := hix
  refine Z.goW (fun p l e R s m args below meth c' Q D dA H locs ls C hR hV hl kk => ?_) kk
  refine W.zast C.1 C.2.1 ((hR.2 k hs.1).z hs.2) ((C.2.2.2.2.2.2.1.2 2 _ rfl).1 n _) (fun q => by cases q) (by rw [arrV_size]; exact hin) rfl rfl hd (fun H1 e z oq => ?_)
  refine kk H1 _ (hR.put (β := sI α k i.toNatClampNeg x) rfl (fun b hb => ⟨rfl, u2_row hb, rfl, rfl⟩) z oq ?_) (hV.put z oq (Nat.le_add_right _ _))
  unfold zAt
  rw [show hS (sI α k i.toNatClampNeg x) k = (2, n) from hs.2]
  show H1[G.1 + k]? = some (arrV (dA 2) n (fun j => .int (hI (sI α k i.toNatClampNeg x) k j)))
  rw [e, arrV_store]
  congr 2
  funext q
  by_cases hq : q = i.toNatClampNeg
  · subst hq
    have h2 : hI (sI α k i.toNatClampNeg x) k i.toNatClampNeg = x := u2_at
    rw [h2]
    have h3 : narrow .boolean (.int x) = .int (vp_nar .boolean x) := by simp [vp_nar]; rfl
    simp only [updV]
    rw [if_pos trivial]
    first | (rw [h3, hx1]; done) | (rw [hx1]; done) | (simp [hx1]; done) | (simp only [vp_nar] at hx1; simp_all)
  · simp only [updV]; rw [if_neg hq]; exact congrArg Value.int (u2_ne hq).symm
theorem Z_alen {k t n : Nat} (hd : decode (mC M) pc = .ok (.arraylength, 1)) (hs : zIs α k (t, n)) (ht : t < 4) (kk : Z G M d (pc + 1) L (.int (nI n) :: st) α u post) : Z G M d pc L (.ref (G.1 + k) :: st) α u post := by
  refine Z.goR (fun p l e R s m args below meth c' Q D dA H locs ls C hR hV hl kk => ?_) kk
  have hsz : ∀ (cA : ClassId) (f : Nat → Value), (arrV cA n f).slots.size.toInt32 = nI n := fun cA f => by rw [arrV_size]; rfl
  match t, ht, hs with
  | 0, _, hs => exact W.alen C.1 C.2.1 ((hR.2 k hs.1).i hs.2) ((C.2.2.2.2.2.2.1.2 0 _ rfl).1 n _) (hsz _ _) rfl rfl hd kk
  | 1, _, hs => exact W.alen C.1 C.2.1 ((hR.2 k hs.1).l hs.2) ((C.2.2.2.2.2.2.1.2 1 _ rfl).1 n _) (hsz _ _) rfl rfl hd kk
  | 2, _, hs => exact W.alen C.1 C.2.1 ((hR.2 k hs.1).z hs.2) ((C.2.2.2.2.2.2.1.2 2 _ rfl).1 n _) (hsz _ _) rfl rfl hd kk
  | 3, _, hs => exact W.alen C.1 C.2.1 ((hR.2 k hs.1).q hs.2) ((C.2.2.2.2.2.2.1.2 3 _ rfl).1 n _) (hsz _ _) rfl rfl hd kk
end ZR2
