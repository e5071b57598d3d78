section JZ1
variable {G : ZG} {d : Nat} {α β : AH} {post : Option Value → AH → Prop} {f : Nat → Int32}
theorem Rk_f {k i : Nat} {x : Int32} : sI (sIr β k f) k i x = sIr β k (u1 f i x) := by
  refine congrArg (fun z => ((β.1, β.2.1, z, β.2.2.2.1, β.2.2.2.2) : AH)) ?_
  funext a j
  show u2 (u1 β.2.2.1 k f) k i x a j = u1 β.2.2.1 k (u1 f i x) a j
  unfold u2 u1
  by_cases hk : a = k
  · subst hk; simp
  · simp [hk]
theorem Rk_self {k : Nat} : sIr β k (hI β k) = β := by
  have : u1 β.2.2.1 k (hI β k) = β.2.2.1 := by
    funext a
    unfold u1
    by_cases hk : a = k
    · subst hk; rw [if_pos rfl]; rfl
    · rw [if_neg hk]
  show ((β.1, β.2.1, u1 β.2.2.1 k (hI β k), β.2.2.2.1, β.2.2.2.2) : AH) = β
  rw [this]
/-- a row whose first n cells are x -/
def zfl (f : Nat → Int32) (x : Int32) (n : Nat) : Nat → Int32 := fun j => if j < n then x else f j
theorem zfl_s {x : Int32} {n : Nat} : u1 (zfl f x n) n x = zfl f x (n + 1) := by
  funext j
  unfold u1 zfl
  by_cases e : j = n
  · rw [if_pos e, if_pos (by omega)]
  · rw [if_neg e]
    by_cases h : j < n
    · rw [if_pos h, if_pos (by omega)]
    · rw [if_neg h, if_neg (by omega)]
theorem lp_fill {k n : Nat} {x : Int32} (hs : zIs α k (0, n)) (hn : n < 2 ^ 31) (h : post none (sIr α k (zfl f x n))) : ∀ (j i : Nat), i + j = n → Z G mJ7_fill_53178 (d + 1) 5 [some (.ref (G.1 + k)), some (.int x), some (.int (nI i)), some (.int (nI n))] [] (sIr α k (zfl f x i)) (0, 0) post := by
  have hz : ∀ {f : Nat → Int32}, zIs (sIr α k f) k (0, n) := hs
  intro j
  induction j with
  | zero =>
    intro i hi
    have hi : i = n := by omega
    subst hi
    refine Z_iload_n dJ7_fill_53178_5 rfl rfl ?_
    refine Z_iload_n dJ7_fill_53178_6 rfl rfl ?_
    refine Z_icmp_ge (tgt := 20) dJ7_fill_53178_7 (by decide) (fun h7 => ?_) (fun h7 => ?_)
    · skip
      refine Z_vret dJ7_fill_53178_20 rfl ⟨by decide, by decide⟩ ?_
      exact h
    · skip
      exact absurd (nI_le (Nat.le_refl _) hn) h7
  | succ j ih =>
    intro i hi
    refine Z_iload_n dJ7_fill_53178_5 rfl rfl ?_
    refine Z_iload_n dJ7_fill_53178_6 rfl rfl ?_
    refine Z_icmp_ge (tgt := 20) dJ7_fill_53178_7 (by decide) (fun h7 => ?_) (fun h7 => ?_)
    · skip
      exact absurd h7 (nI_ge (by omega) (by omega))
    · skip
      refine Z_aload_n dJ7_fill_53178_10 rfl rfl ?_
      refine Z_iload_n dJ7_fill_53178_11 rfl rfl ?_
      refine Z_iload_n dJ7_fill_53178_12 rfl rfl ?_
      refine Z_iast dJ7_fill_53178_13 hz (zix_nI (m := i) (by omega) hn) ?_
      rw [Rk_f, zfl_s]
      refine Z_iinc (L' := [_, _, _, _]) dJ7_fill_53178_14 rfl (by rfl : _ + Int32.ofInt 1 = _ + 1) (by decide) rfl rfl ?_
      refine Z_goto (tgt := 5) dJ7_fill_53178_17 (by decide) ?_
      rw [nI_1]
      exact ih (i + 1) (by omega)
theorem c_jfill {k n : Nat} {x : Int32} (hs : zIs α k (0, n)) (hn : n < 2 ^ 31) (h : post none (sIr α k (zfl (hI α k) x n))) : ZK G (d + 1) mJ7_fill_53178 [.ref (G.1 + k), .int x] α post := by
  have e : sIr α k (zfl (hI α k) x 0) = α := by
    have : zfl (hI α k) x 0 = hI α k := by funext j; exact if_neg (Nat.not_lt_zero j)
    rw [this, Rk_self]
  have key := lp_fill (G := G) (d := d) (post := post) hs hn h n 0 (by omega)
  rw [e] at key
  refine ZK.of (n := 2) (by decide) (Nat.le_of_ble_eq_true rfl) rfl ?_
  refine Z_iconst (v := 0) dJ7_fill_53178_0 (by decide) ?_
  refine Z_istore_n (L' := [_, _, _, _]) dJ7_fill_53178_1 rfl (by decide) rfl rfl ?_
  refine Z_aload_n dJ7_fill_53178_2 rfl rfl ?_
  refine Z_alen dJ7_fill_53178_3 hs (by decide) ?_
  refine Z_istore_n (L' := [_, _, _, _]) dJ7_fill_53178_4 rfl (by decide) rfl rfl ?_
  exact key
end JZ1
section JZ2
variable {G : ZG} {M : ZM} {d pc : Nat} {L : List (Option Value)} {st : List Value} {α : AH} {u : Nat × Nat} {post : Option Value → AH → Prop}
theorem Z_mmax {idx : Nat} {x y : Int32} (hd : decode (mC M) pc = .ok (.invokestatic idx, 3)) (lk : Cond.methodLink (mY M).cls idx Lib.Math.max.name ∈ zT) (hs : Cond.static Lib.Math.max.name ∈ zT) (hi : Cond.initialized "java/lang/Math" ∈ zT) (hc : Cond.code Lib.Math.max.name Lib.Math.max.code 2 (some .int) ∈ zT) (hst : (st.map fun v => v.category).sum ≤ 8) (hu : u.1 ≤ mK M ∧ u.2 ≤ mS M) (kk : Z G M (d + 1) (pc + 3) L (.int (if x < y then y else x) :: st) α u post) : Z G M (d + 1) pc L (.int y :: .int x :: st) α u post :=
  Z.goR (fun p l e R s m args below meth c' Q D dA H locs ls C hR hV hl kk => va_mmax C.1 C.2.1 (C.2.2.1.trans hl.symm) C.2.2.2.1 (C.2.2.2.2.1 _ lk) (C.2.2.2.2.1 _ hs) (C.2.2.2.2.1 _ hi) (C.2.2.2.2.1 _ hc) (Nat.le_trans (Nat.le_add_left 1 d) C.2.2.2.2.2.2.2.2.2.1.1) (by have := C.2.2.2.2.2.2.2.2.2.1.2.1; omega) (Nat.le_trans hu.1 C.2.2.2.2.2.2.2.2.2.1.2.2.1) (Nat.le_trans hu.2 C.2.2.2.2.2.2.2.2.2.1.2.2.2) hd kk) kk
theorem Z_mmin {idx : Nat} {x y : Int32} (hd : decode (mC M) pc = .ok (.invokestatic idx, 3)) (lk : Cond.methodLink (mY M).cls idx Lib.Math.min.name ∈ zT) (hs : Cond.static Lib.Math.min.name ∈ zT) (hi : Cond.initialized "java/lang/Math" ∈ zT) (hc : Cond.code Lib.Math.min.name Lib.Math.min.code 2 (some .int) ∈ zT) (hst : (st.map fun v => v.category).sum ≤ 8) (hu : u.1 ≤ mK M ∧ u.2 ≤ mS M) (kk : Z G M (d + 1) (pc + 3) L (.int (if y < x then y else x) :: st) α u post) : Z G M (d + 1) pc L (.int y :: .int x :: st) α u post :=
  Z.goR (fun p l e R s m args below meth c' Q D dA H locs ls C hR hV hl kk => va_mmin C.1 C.2.1 (C.2.2.1.trans hl.symm) C.2.2.2.1 (C.2.2.2.2.1 _ lk) (C.2.2.2.2.1 _ hs) (C.2.2.2.2.1 _ hi) (C.2.2.2.2.1 _ hc) (Nat.le_trans (Nat.le_add_left 1 d) C.2.2.2.2.2.2.2.2.2.1.1) (by have := C.2.2.2.2.2.2.2.2.2.1.2.1; omega) (Nat.le_trans hu.1 C.2.2.2.2.2.2.2.2.2.1.2.2.1) (Nat.le_trans hu.2 C.2.2.2.2.2.2.2.2.2.1.2.2.2) hd kk) kk
theorem Z_mabs {idx : Nat} {x : Int64} (hd : decode (mC M) pc = .ok (.invokestatic idx, 3)) (lk : Cond.methodLink (mY M).cls idx Lib.MathLoose.abs_long.x ∈ zT) (hs : Cond.static Lib.MathLoose.abs_long.x ∈ zT) (hi : Cond.initialized "java/lang/Math" ∈ zT) (hc : Cond.code Lib.MathLoose.abs_long.x Lib.MathLoose.abs_long.code 2 (some .long) ∈ zT) (hst : (st.map fun v => v.category).sum ≤ 8) (hu : u.1 ≤ mK M ∧ u.2 ≤ mS M) (kk : Z G M (d + 1) (pc + 3) L (.long (if 0 < x then x else -x) :: st) α u post) : Z G M (d + 1) pc L (.long x :: st) α u post :=
  Z.goR (fun p l e R s m args below meth c' Q D dA H locs ls C hR hV hl kk => va_mabs_long C.1 C.2.1 (C.2.2.1.trans hl.symm) C.2.2.2.1 (C.2.2.2.2.1 _ lk) (C.2.2.2.2.1 _ hs) (C.2.2.2.2.1 _ hi) (C.2.2.2.2.1 _ hc) (Nat.le_trans (Nat.le_add_left 1 d) C.2.2.2.2.2.2.2.2.2.1.1) (by have := C.2.2.2.2.2.2.2.2.2.1.2.1; omega) (Nat.le_trans hu.1 C.2.2.2.2.2.2.2.2.2.1.2.2.1) (Nat.le_trans hu.2 C.2.2.2.2.2.2.2.2.2.1.2.2.2) hd kk) kk
theorem mw_max : Cond.static Lib.Math.max.name ∈ zT ∧ Cond.initialized "java/lang/Math" ∈ zT ∧ Cond.code Lib.Math.max.name Lib.Math.max.code 2 (some .int) ∈ zT := ⟨sc_J9_max_7cf53, to_J9_max_7cf53.2.1, to_J9_max_7cf53.1⟩
theorem mw_min : Cond.static Lib.Math.min.name ∈ zT ∧ Cond.initialized "java/lang/Math" ∈ zT ∧ Cond.code Lib.Math.min.name Lib.Math.min.code 2 (some .int) ∈ zT := ⟨sc_J9_min_7cf53, to_J9_min_7cf53.2.1, to_J9_min_7cf53.1⟩
theorem mw_abs : Cond.static Lib.MathLoose.abs_long.x ∈ zT ∧ Cond.initialized "java/lang/Math" ∈ zT ∧ Cond.code Lib.MathLoose.abs_long.x Lib.MathLoose.abs_long.code 2 (some .long) ∈ zT := ⟨sc_J9_abs_067f4, to_J9_abs_067f4.2.1, to_J9_abs_067f4.1⟩
end JZ2
