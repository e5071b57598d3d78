section CO1
/-- six bits as one number -/
def num6 (b : Nat → Bool) : Nat := hbit (b 0) + 2 * hbit (b 1) + 4 * hbit (b 2) + 8 * hbit (b 3) + 16 * hbit (b 4) + 32 * hbit (b 5)
theorem num6_lt (b : Nat → Bool) : num6 b < 64 := by
  have h0 := hbit_le (b 0)
  have h1 := hbit_le (b 1)
  have h2 := hbit_le (b 2)
  have h3 := hbit_le (b 3)
  have h4 := hbit_le (b 4)
  have h5 := hbit_le (b 5)
  unfold num6; omega
theorem num6_cg {b b' : Nat → Bool} (h : ∀ j, j < 6 → b j = b' j) : num6 b = num6 b' := by
  unfold num6
  rw [h 0 (by omega), h 1 (by omega), h 2 (by omega), h 3 (by omega), h 4 (by omega), h 5 (by omega)]
def num6' (c0 c1 c2 c3 c4 c5 : Bool) : Nat := hbit c0 + 2 * hbit c1 + 4 * hbit c2 + 8 * hbit c3 + 16 * hbit c4 + 32 * hbit c5
theorem num6_or {b : Nat → Bool} {j : Nat} (hj : j < 6) : nI (num6 b) ||| nI (2 ^ j) = nI (num6 (fun i => b i || decide (i = j))) := by
  have key : ∀ (c0 c1 c2 c3 c4 c5 : Bool) (j : Fin 6), num6' c0 c1 c2 c3 c4 c5 ||| 2 ^ j.val = num6' (c0 || decide (0 = j.val)) (c1 || decide (1 = j.val)) (c2 || decide (2 = j.val)) (c3 || decide (3 = j.val)) (c4 || decide (4 = j.val)) (c5 || decide (5 = j.val)) := by decide +kernel
  rw [nx_or]
  exact congrArg nI (key (b 0) (b 1) (b 2) (b 3) (b 4) (b 5) ⟨j, hj⟩)
theorem num6_and (b b' : Nat → Bool) : nI (num6 b) &&& nI (num6 b') = nI (num6 (fun i => b i && b' i)) := by
  have key : ∀ (c0 c1 c2 c3 c4 c5 e0 e1 e2 e3 e4 e5 : Bool), num6' c0 c1 c2 c3 c4 c5 &&& num6' e0 e1 e2 e3 e4 e5 = num6' (c0 && e0) (c1 && e1) (c2 && e2) (c3 && e3) (c4 && e4) (c5 && e5) := by decide +kernel
  rw [nx_and]
  exact congrArg nI (key (b 0) (b 1) (b 2) (b 3) (b 4) (b 5) (b' 0) (b' 1) (b' 2) (b' 3) (b' 4) (b' 5))
theorem num6_bit (b : Nat → Bool) {j : Nat} (hj : j < 6) : (num6 b).testBit j = b j := by
  have key : ∀ (c0 c1 c2 c3 c4 c5 : Bool), (num6' c0 c1 c2 c3 c4 c5).testBit 0 = c0 ∧ (num6' c0 c1 c2 c3 c4 c5).testBit 1 = c1 ∧ (num6' c0 c1 c2 c3 c4 c5).testBit 2 = c2 ∧ (num6' c0 c1 c2 c3 c4 c5).testBit 3 = c3 ∧ (num6' c0 c1 c2 c3 c4 c5).testBit 4 = c4 ∧ (num6' c0 c1 c2 c3 c4 c5).testBit 5 = c5 := by decide +kernel
  obtain ⟨k0, k1, k2, k3, k4, k5⟩ := key (b 0) (b 1) (b 2) (b 3) (b 4) (b 5)
  match j, hj with
  | 0, _ => exact k0
  | 1, _ => exact k1
  | 2, _ => exact k2
  | 3, _ => exact k3
  | 4, _ => exact k4
  | 5, _ => exact k5
  | j + 6, h => exact absurd h (by omega)
theorem num6_in (b : Nat → Bool) {k : Nat} (hk : k < 3) : zin (num6 b) k = (b (2 * k) || b (2 * k + 1)) := by
  have key : ∀ (c0 c1 c2 c3 c4 c5 : Bool), zin (num6' c0 c1 c2 c3 c4 c5) 0 = (c0 || c1) ∧ zin (num6' c0 c1 c2 c3 c4 c5) 1 = (c2 || c3) ∧ zin (num6' c0 c1 c2 c3 c4 c5) 2 = (c4 || c5) := by decide +kernel
  obtain ⟨k0, k1, k2⟩ := key (b 0) (b 1) (b 2) (b 3) (b 4) (b 5)
  rcases s3 hk with rfl | rfl | rfl
  · exact k0
  · exact k1
  · exact k2
theorem num6_in3 (b : Nat → Bool) : zin (num6 b) 3 = false := by
  have := num6_lt b
  unfold zin
  rw [show num6 b / 4 ^ 3 = 0 from Nat.div_eq_of_lt this]
  rfl
theorem num6_stp {k : Nat} (hk : k ≤ 2) {z0 z1 : Bool} {b : Nat → Bool} : num6 (fun j => (b j || (z0 && decide (j = k * 2 + 0))) || (z1 && decide (j = k * 2 + 1))) = num6 (fun j => b j || (decide (k = j / 2) && (if j % 2 = 0 then z0 else z1))) := by
  refine num6_cg (fun j hj => ?_)
  have hj : j = 0 ∨ j = 1 ∨ j = 2 ∨ j = 3 ∨ j = 4 ∨ j = 5 := by omega
  rcases s3 (show k < 3 by omega) with rfl | rfl | rfl <;> rcases hj with rfl | rfl | rfl | rfl | rfl | rfl <;> simp
theorem num6_0 {b : Nat → Bool} (h : ∀ j, j < 6 → b j = false) : num6 b = 0 := by
  rw [num6_cg (b' := fun _ => false) h]; rfl
theorem zob_num {W : ZSem} {s l r e : Nat} : zob W s l r e = num6 (fun j => W s (j % 2) l r e (j / 2)) := by
  unfold zob num6 hbit
  simp only [show (0 : Nat) % 2 = 0 from rfl, show (1 : Nat) % 2 = 1 from rfl, show (2 : Nat) % 2 = 0 from rfl, show (3 : Nat) % 2 = 1 from rfl, show (4 : Nat) % 2 = 0 from rfl, show (5 : Nat) % 2 = 1 from rfl, show (0 : Nat) / 2 = 0 from rfl, show (1 : Nat) / 2 = 0 from rfl, show (2 : Nat) / 2 = 1 from rfl, show (3 : Nat) / 2 = 1 from rfl, show (4 : Nat) / 2 = 2 from rfl, show (5 : Nat) / 2 = 2 from rfl]
  cases W s 0 l r e 0 <;> cases W s 1 l r e 0 <;> cases W s 0 l r e 1 <;> cases W s 1 l r e 1 <;> cases W s 0 l r e 2 <;> cases W s 1 l r e 2 <;> rfl
theorem zob_lt {W : ZSem} {s l r e : Nat} : zob W s l r e < 64 := by rw [zob_num]; exact num6_lt _
def undN (s : Nat) : Nat := num6 (fun j => decide (s / cst (j / 2) % 3 = j % 2))
theorem und_ok : ∀ s, s < 27 → (zArr 1).2.getD s 0 = nI (undN s) := by decide +kernel
theorem sh_ok : ∀ j, j < 6 → (1 : Int32) <<< (nI j &&& 31) = nI (2 ^ j) := by decide +kernel
/-! lists of clauses -/
theorem take_at {cs : List (Nat × List ZOp)} {i : Nat} (hi : i < cs.length) : cs.take (i + 1) = cs.take i ++ [cs.getD i (0, [])] := by
  rw [List.take_add_one, List.getElem?_eq_getElem hi, List.getD_eq_getElem?_getD, List.getElem?_eq_getElem hi]; rfl
theorem vCode_app (a b : List (Nat × List ZOp)) : vCode (a ++ b) = vCode a ++ vCode b := List.flatMap_append
theorem vEnd_s {cs : List (Nat × List ZOp)} {i : Nat} (hi : i < cs.length) : vEnd cs (i + 1) = vEnd cs i + (cs.getD i (0, [])).2.length := by
  unfold vEnd
  rw [take_at hi, vCode_app, List.length_append]
  congr 1
  simp [vCode]
theorem cs_cut {cs : List (Nat × List ZOp)} {i : Nat} (hi : i < cs.length) : cs = cs.take i ++ (cs.getD i (0, []) :: cs.drop (i + 1)) := by
  have := (List.take_append_drop (i + 1) cs).symm
  rw [take_at hi, List.append_assoc] at this
  exact this
theorem vCode_at {cs : List (Nat × List ZOp)} {i : Nat} (hi : i < cs.length) : vEnd cs i + (cs.getD i (0, [])).2.length ≤ (vCode cs).length ∧ ∀ j, j < (cs.getD i (0, [])).2.length → (vCode cs).getD (vEnd cs i + j) (0, 0, 0) = (cs.getD i (0, [])).2.getD j (0, 0, 0) := by
  have e : vCode cs = vCode (cs.take i) ++ ((cs.getD i (0, [])).2 ++ vCode (cs.drop (i + 1))) := by
    have h1 : vCode cs = vCode (cs.take i ++ (cs.getD i (0, []) :: cs.drop (i + 1))) := congrArg vCode (cs_cut hi)
    rw [h1, vCode_app]
    rfl
  generalize cs.getD i (0, []) = x at e ⊢
  refine ⟨?_, fun j hj => ?_⟩
  · rw [e, List.length_append, List.length_append]
    unfold vEnd
    omega
  · rw [e, List.getD_eq_getElem?_getD, List.getElem?_append_right (by unfold vEnd; omega), List.getElem?_append_left (by unfold vEnd; omega), List.getD_eq_getElem?_getD]
    congr 2
    unfold vEnd; omega
theorem vsem_s {cs : List (Nat × List ZOp)} {i s g l r e k : Nat} (hi : i < cs.length) : vsem (cs.take (i + 1)) s g l r e k = (vsem (cs.take i) s g l r e k || (decide ((cs.getD i (0, [])).1 = k) && zval1 (dyOf s g l r e) (cs.getD i (0, [])).2)) := by
  unfold vsem
  rw [take_at hi, List.any_append, List.any_cons, List.any_nil, Bool.or_false]
theorem vsem_all {cs : List (Nat × List ZOp)} : vsem (cs.take cs.length) = vsem cs := by rw [List.take_length]
end CO1
section CO2
variable {G : ZG} {d : Nat} {α β : AH} {post : Option Value → AH → Prop} {v c w e p y : Nat} {q : VC}
theorem sI_sI {a i : Nat} {x x' : Int32} : sI (sI α a i x) a i x' = sI α a i x' := by
  refine congrArg (fun z => ((α.1, α.2.1, z, α.2.2.2.1, α.2.2.2.2) : AH)) ?_
  funext b j
  show u2 (u2 α.2.2.1 a i x) a i x' b j = u2 α.2.2.1 a i x' b j
  unfold u2 u1
  by_cases hb : b = a
  · subst hb
    by_cases hj : j = i
    · simp [hj]
    · simp [hj]
  · simp [hb]
theorem sI_self {a i : Nat} : sI α a i (hI α a i) = α := by
  have : u2 α.2.2.1 a i (hI α a i) = α.2.2.1 := by
    funext b j
    unfold u2 u1
    by_cases hb : b = a
    · subst hb
      by_cases hj : j = i
      · subst hj; simp [hI]
      · simp [hj]
    · simp [hb]
  show ((α.1, α.2.1, u2 α.2.2.1 a i (hI α a i), α.2.2.2.1, α.2.2.2.2) : AH) = α
  rw [this]
theorem vO.sI (hv : vO α v c w e p q) {a i : Nat} {x : Int32} (ha : ¬ fz a) : vO (sI α a i x) v c w e p q := hv.fr ⟨Nat.le_refl _, fun k _ hk => ⟨rfl, u2_row (fun z => ha (z ▸ hk)), rfl, rfl⟩⟩
def vStep (s l r e : Nat) (x : Nat × List ZOp) (b : Nat → Bool) : Nat → Bool := fun j => b j || (decide (x.1 = j / 2) && zval1 (dyOf s (j % 2) l r e) x.2)
theorem lp_opened {s l r e0 : Nat} (hv : vO α v c w e p q) (hk : vOk q) (hy : zIs α y (0, 5)) (hyz : ¬ fz y) (h0 : hI α y 0 = nI s) (h2 : hI α y 2 = nI l) (h3 : hI α y 3 = nI r) (h4 : hI α y 4 = nI e0) (hb : s < 1000 ∧ l < 1000 ∧ r < 1000 ∧ e0 < 1000) (h : ∀ x, post (some (.int (nI (zob (vsem q.1) s l r e0)))) (sI α y 1 x)) : ∀ (m i : Nat) (x : Int32) (x5 : Option Value), i + m = q.1.length → Z G mX8_opened (d + 2) 7 [some (.ref (G.1 + v)), some (.ref (G.1 + y)), some (.int (nI (zob (vsem (q.1.take i)) s l r e0))), some (.int (nI (vEnd q.1 i))), some (.int (nI i)), x5] [] (sI α y 1 x) (0, 0) post := by
  have hv0 := hv
  have hv : ∀ {x : Int32}, vO (sI α y 1 x) v c w e p q := hv.sI hyz
  have hlen : q.1.length ≤ 10 := hk.2.2.1
  intro m
  induction m with
  | zero =>
    intro i x x5 hi
    have hi : i = q.1.length := by omega
    subst hi
    rw [vsem_all]
    refine Z_iload dX8_opened_7 rfl ?_
    refine Z_aload_n dX8_opened_9 rfl rfl ?_
    refine Z_getR dX8_opened_10 cl_8 fl_X8_15_8 rfl hv.2.1 hv.2.2.1.2.1 ?_
    refine Z_alen dX8_opened_13 hv.2.2.2.1.2.1 (by decide) ?_
    refine Z_icmp_ge (tgt := 84) dX8_opened_14 (by decide) (fun h14 => ?_) (fun h14 => ?_)
    · skip
      refine Z_iload_n dX8_opened_84 rfl rfl ?_
      refine Z_iret dX8_opened_85 rfl rfl ⟨by decide, by decide⟩ ?_
      exact h x
    · skip
      exact absurd (nI_le (Nat.le_refl _) (by omega)) h14
  | succ m ih =>
    intro i x x5 hi
    have hlt : i < q.1.length := by omega
    have hx := hk.1 _ (List.getElem_mem hlt)
    rw [show q.1[i] = q.1.getD i (0, []) from by rw [List.getD_eq_getElem?_getD, List.getElem?_eq_getElem hlt]; rfl] at hx
    have hw1 : hI α w i = nI (q.1.getD i (0, [])).1 := (hv0.2.2.2.2.2.1 i hlt).1
    have he1 : hI α e i = nI (vEnd q.1 (i + 1)) := (hv0.2.2.2.2.2.1 i hlt).2
    have nw : w ≠ y := fun z => hyz (z ▸ hv0.1.2.2.1)
    have ne : e ≠ y := fun z => hyz (z ▸ hv0.1.2.2.2.1)
    have nc : c ≠ y := fun z => hyz (z ▸ hv0.1.2.1)
    have hw2 : ∀ {x : Int32}, hI (sI α y 1 x) w i = nI (q.1.getD i (0, [])).1 := by intro x; rw [sI_ne nw]; exact hw1
    have he2 : ∀ {x : Int32}, hI (sI α y 1 x) e i = nI (vEnd q.1 i + (q.1.getD i (0, [])).2.length) := by intro x; rw [sI_ne ne, he1, vEnd_s hlt]
    obtain ⟨cl, ca⟩ := vCode_at (cs := q.1) hlt
    have hc : ∀ {x : Int32} (j : Nat), j < (q.1.getD i (0, [])).2.length → hI (sI α y 1 x) c (vEnd q.1 i + j) = vEnc ((q.1.getD i (0, [])).2.getD j (0, 0, 0)) := by
      intro x j hj
      rw [sI_ne nc, hv0.2.2.2.2.1 _ (by omega), ca j hj]
    have hd5 : ∀ g, ∀ i, i < 5 → hI (sI α y 1 (nI g)) y i = nI (dyOf s g l r e0 i) := by
      intro g i hi
      rw [hI_sI]
      match i, hi with
      | 0, _ => rw [if_neg (by omega)]; exact h0
      | 1, _ => rw [if_pos ⟨rfl, rfl⟩]; rfl
      | 2, _ => rw [if_neg (by omega)]; exact h2
      | 3, _ => rw [if_neg (by omega)]; exact h3
      | 4, _ => rw [if_neg (by omega)]; exact h4
      | i + 5, h => exact absurd h (by omega)
    have hdb : ∀ g, g < 2 → ∀ i, i < 5 → dyOf s g l r e0 i < 1000 := by
      intro g hg i hi
      unfold dyOf
      split
      · omega
      · split
        · omega
        · split
          · omega
          · split <;> omega
    have fin : nI (num6 (vStep s l r e0 (q.1.getD i (0, [])) (fun j => vsem (q.1.take i) s (j % 2) l r e0 (j / 2)))) = nI (zob (vsem (q.1.take (i + 1))) s l r e0) := by
      rw [zob_num]
      congr 1
      refine num6_cg (fun j _ => ?_)
      show (_ || _) = _
      rw [vsem_s hlt]
    rw [show vEnd q.1 i + (q.1.getD i (0, [])).2.length = vEnd q.1 (i + 1) from (vEnd_s hlt).symm] at he2 cl
    have nx : ∀ (b : Nat) (x : Int32) (x5 : Option Value), nI b = nI (zob (vsem (q.1.take (i + 1))) s l r e0) → Z G mX8_opened (d + 2) 7 [some (.ref (G.1 + v)), some (.ref (G.1 + y)), some (.int (nI b)), some (.int (nI (vEnd q.1 (i + 1)))), some (.int (nI (i + 1))), x5] [] (sI α y 1 x) (0, 0) post := by
      intro b x x5 hb
      rw [hb]
      exact ih (i + 1) x x5 (by omega)
    have hX2' : (q.1.getD i (0, [])).1 ≤ 2 := hx.1
    have stp : ∀ (b0 b1 : Bool), zval1 (dyOf s 0 l r e0) (q.1.getD i (0, [])).2 = b0 → zval1 (dyOf s 1 l r e0) (q.1.getD i (0, [])).2 = b1 → ∀ b : Nat → Bool, num6 (fun j => (b j || (b0 && decide (j = (q.1.getD i (0, [])).1 * 2 + 0))) || (b1 && decide (j = (q.1.getD i (0, [])).1 * 2 + 1))) = num6 (vStep s l r e0 (q.1.getD i (0, [])) b) := by
      intro b0 b1 e0' e1' b
      rw [num6_stp hX2']
      refine num6_cg (fun j _ => ?_)
      unfold vStep
      rw [← e0', ← e1']
      rcases Nat.mod_two_eq_zero_or_one j with z | z
      · rw [z, if_pos rfl]
      · rw [z, if_neg (by decide)]
    generalize hX : q.1.getD i (0, []) = X at *
    have hX2 : X.1 ≤ 2 := hx.1
    have sh0 : (1 : Int32) <<< ((nI X.1 * 2 + 0) &&& 31) = nI (2 ^ (X.1 * 2 + 0)) := by
      rw [show nI X.1 * 2 + 0 = nI (X.1 * 2 + 0) from by rw [show (2 : Int32) = nI 2 from rfl, show (0 : Int32) = nI 0 from rfl, pk_mul, nI_add]]
      exact sh_ok _ (by omega)
    have sh1 : (1 : Int32) <<< ((nI X.1 * 2 + 1) &&& 31) = nI (2 ^ (X.1 * 2 + 1)) := by
      rw [show nI X.1 * 2 + 1 = nI (X.1 * 2 + 1) from by rw [show (2 : Int32) = nI 2 from rfl, show (1 : Int32) = nI 1 from rfl, pk_mul, nI_add]]
      exact sh_ok _ (by omega)
    rw [zob_num]
    generalize hB : (fun j => vsem (q.1.take i) s (j % 2) l r e0 (j / 2)) = B at *
    refine Z_iload dX8_opened_7 rfl ?_
    refine Z_aload_n dX8_opened_9 rfl rfl ?_
    refine Z_getR dX8_opened_10 cl_8 fl_X8_15_8 rfl hv.2.1 hv.2.2.1.2.1 ?_
    refine Z_alen dX8_opened_13 hv.2.2.2.1.2.1 (by decide) ?_
    refine Z_icmp_ge (tgt := 84) dX8_opened_14 (by decide) (fun h14 => ?_) (fun h14 => ?_)
    · skip
      exact absurd h14 (nI_ge hlt (by omega))
    · skip
      refine Z_iconst (v := 0) dX8_opened_17 (by decide) ?_
      refine Z_istore (L' := [_, _, _, _, _, _]) dX8_opened_18 (by decide) rfl rfl ?_
      refine Z_iload dX8_opened_20 rfl ?_
      refine Z_iconst (v := 2) dX8_opened_22 (by decide) ?_
      refine Z_icmp_ge (tgt := 70) dX8_opened_23 (by decide) (fun h => absurd h (by decide)) (fun _ => ?_)
      refine Z_aload_n dX8_opened_26 rfl rfl ?_
      refine Z_iconst (v := 1) dX8_opened_27 (by decide) ?_
      refine Z_iload dX8_opened_28 rfl ?_
      refine Z_iast dX8_opened_30 hy (zix_k (m := 1) (by decide)) ?_
      rw [sI_sI]
      refine Z_aload_n dX8_opened_31 rfl rfl ?_
      refine Z_iload_n dX8_opened_32 rfl rfl ?_
      refine Z_aload_n dX8_opened_33 rfl rfl ?_
      refine Z_getR dX8_opened_34 cl_8 fl_X8_18_8 rfl hv.2.1 hv.2.2.1.2.2.1 ?_
      refine Z_iload dX8_opened_37 rfl ?_
      refine Z_ialdv dX8_opened_39 hv.2.2.2.1.2.2.1 (zix_nI (m := i) hlt (by omega)) he2 ?_
      refine Z_aload_n dX8_opened_40 rfl rfl ?_
      refine Z_V3z (ci := 8) dX8_opened_41 to_X8_holds lk_X8_35 iv_X8_holds ⟨rfl, rfl⟩ hv.2.1 (Nat.le_of_ble_eq_true rfl) ⟨rfl, rfl⟩ ⟨by decide, by decide⟩ ?_
      rw [vEnd_s hlt, hX]
      first
        | refine k_holds (l := X.2) (hv (x := nI 0)) hy (hd5 0) (hdb 0 (by omega)) hk.2.1 hx.2 (fun j hj => hc j hj) (by have := vEnd_s hlt; rw [hX] at this; omega) ?_
        | refine k_holds (l := X.2) (hv (x := nI 1)) hy (hd5 1) (hdb 1 (by omega)) hk.2.1 hx.2 (fun j hj => hc j hj) (by have := vEnd_s hlt; rw [hX] at this; omega) ?_
      refine Z_if_eq (tgt := 64) dX8_opened_44 (by decide) (fun h44 => ?_) (fun h44 => ?_)
      · skip
        first
          | have f0 : zval1 (dyOf s 0 l r e0) X.2 = false := b2i_eq.mp h44
          | have f1 : zval1 (dyOf s 1 l r e0) X.2 = false := b2i_eq.mp h44
          | skip
        refine Z_iinc (L' := [_, _, _, _, _, _]) dX8_opened_64 rfl (show (0 : Int32) + Int32.ofInt 1 = 1 from by decide) (by decide) rfl rfl ?_
        refine Z_goto (tgt := 20) dX8_opened_67 (by decide) ?_
        refine Z_iload dX8_opened_20 rfl ?_
        refine Z_iconst (v := 2) dX8_opened_22 (by decide) ?_
        refine Z_icmp_ge (tgt := 70) dX8_opened_23 (by decide) (fun h => absurd h (by decide)) (fun _ => ?_)
        refine Z_aload_n dX8_opened_26 rfl rfl ?_
        refine Z_iconst (v := 1) dX8_opened_27 (by decide) ?_
        refine Z_iload dX8_opened_28 rfl ?_
        refine Z_iast dX8_opened_30 hy (zix_k (m := 1) (by decide)) ?_
        rw [sI_sI]
        refine Z_aload_n dX8_opened_31 rfl rfl ?_
        refine Z_iload_n dX8_opened_32 rfl rfl ?_
        refine Z_aload_n dX8_opened_33 rfl rfl ?_
        refine Z_getR dX8_opened_34 cl_8 fl_X8_18_8 rfl hv.2.1 hv.2.2.1.2.2.1 ?_
        refine Z_iload dX8_opened_37 rfl ?_
        refine Z_ialdv dX8_opened_39 hv.2.2.2.1.2.2.1 (zix_nI (m := i) hlt (by omega)) he2 ?_
        refine Z_aload_n dX8_opened_40 rfl rfl ?_
        refine Z_V3z (ci := 8) dX8_opened_41 to_X8_holds lk_X8_35 iv_X8_holds ⟨rfl, rfl⟩ hv.2.1 (Nat.le_of_ble_eq_true rfl) ⟨rfl, rfl⟩ ⟨by decide, by decide⟩ ?_
        rw [vEnd_s hlt, hX]
        first
          | refine k_holds (l := X.2) (hv (x := nI 0)) hy (hd5 0) (hdb 0 (by omega)) hk.2.1 hx.2 (fun j hj => hc j hj) (by have := vEnd_s hlt; rw [hX] at this; omega) ?_
          | refine k_holds (l := X.2) (hv (x := nI 1)) hy (hd5 1) (hdb 1 (by omega)) hk.2.1 hx.2 (fun j hj => hc j hj) (by have := vEnd_s hlt; rw [hX] at this; omega) ?_
        refine Z_if_eq (tgt := 64) dX8_opened_44 (by decide) (fun h44 => ?_) (fun h44 => ?_)
        · skip
          first
            | have f0 : zval1 (dyOf s 0 l r e0) X.2 = false := b2i_eq.mp h44
            | have f1 : zval1 (dyOf s 1 l r e0) X.2 = false := b2i_eq.mp h44
            | skip
          refine Z_iinc (L' := [_, _, _, _, _, _]) dX8_opened_64 rfl (show (1 : Int32) + Int32.ofInt 1 = 2 from by decide) (by decide) rfl rfl ?_
          refine Z_goto (tgt := 20) dX8_opened_67 (by decide) ?_
          refine Z_iload dX8_opened_20 rfl ?_
          refine Z_iconst (v := 2) dX8_opened_22 (by decide) ?_
          refine Z_icmp_ge (tgt := 70) dX8_opened_23 (by decide) (fun _ => ?_) (fun h => absurd h (by decide))
          refine Z_aload_n dX8_opened_70 rfl rfl ?_
          refine Z_getR dX8_opened_71 cl_8 fl_X8_18_8 rfl hv.2.1 hv.2.2.1.2.2.1 ?_
          refine Z_iload dX8_opened_74 rfl ?_
          refine Z_ialdv dX8_opened_76 hv.2.2.2.1.2.2.1 (zix_nI (m := i) hlt (by omega)) he2 ?_
          refine Z_istore_n (L' := [_, _, _, _, _, _]) dX8_opened_77 rfl (by decide) rfl rfl ?_
          refine Z_iinc (L' := [_, _, _, _, _, _]) dX8_opened_78 rfl (by rfl : _ + Int32.ofInt 1 = _ + 1) (by decide) rfl rfl ?_
          refine Z_goto (tgt := 7) dX8_opened_81 (by decide) ?_
          rw [nI_1]
          refine nx _ _ _ ?_
          rw [← fin]
          first
            | (rw [← stp true true t0 t1 B]; refine congrArg nI (num6_cg (fun j _ => ?_)); simp only [Bool.true_and, Bool.false_and, Bool.or_false])
            | (rw [← stp true false t0 f1 B]; refine congrArg nI (num6_cg (fun j _ => ?_)); simp only [Bool.true_and, Bool.false_and, Bool.or_false])
            | (rw [← stp false true f0 t1 B]; refine congrArg nI (num6_cg (fun j _ => ?_)); simp only [Bool.true_and, Bool.false_and, Bool.or_false])
            | (rw [← stp false false f0 f1 B]; refine congrArg nI (num6_cg (fun j _ => ?_)); simp only [Bool.true_and, Bool.false_and, Bool.or_false])
        · skip
          first
            | have t0 : zval1 (dyOf s 0 l r e0) X.2 = true := b2i_ne.mp h44
            | have t1 : zval1 (dyOf s 1 l r e0) X.2 = true := b2i_ne.mp h44
          refine Z_iload_n dX8_opened_47 rfl rfl ?_
          refine Z_iconst (v := 1) dX8_opened_48 (by decide) ?_
          refine Z_aload_n dX8_opened_49 rfl rfl ?_
          refine Z_getR dX8_opened_50 cl_8 fl_X8_15_8 rfl hv.2.1 hv.2.2.1.2.1 ?_
          refine Z_iload dX8_opened_53 rfl ?_
          refine Z_ialdv dX8_opened_55 hv.2.2.2.1.2.1 (zix_nI (m := i) hlt (by omega)) hw2 ?_
          refine Z_iconst (v := 2) dX8_opened_56 (by decide) ?_
          refine Z_imul dX8_opened_57 ?_
          refine Z_iload dX8_opened_58 rfl ?_
          refine Z_iadd dX8_opened_60 ?_
          refine Z_ishl dX8_opened_61 ?_
          refine Z_ior dX8_opened_62 ?_
          first
            | rw [sh0, num6_or (by omega)]
            | rw [sh1, num6_or (by omega)]
          refine Z_istore_n (L' := [_, _, _, _, _, _]) dX8_opened_63 rfl (by decide) rfl rfl ?_
          first
            | have f0 : zval1 (dyOf s 0 l r e0) X.2 = false := b2i_eq.mp h44
            | have f1 : zval1 (dyOf s 1 l r e0) X.2 = false := b2i_eq.mp h44
            | skip
          refine Z_iinc (L' := [_, _, _, _, _, _]) dX8_opened_64 rfl (show (1 : Int32) + Int32.ofInt 1 = 2 from by decide) (by decide) rfl rfl ?_
          refine Z_goto (tgt := 20) dX8_opened_67 (by decide) ?_
          refine Z_iload dX8_opened_20 rfl ?_
          refine Z_iconst (v := 2) dX8_opened_22 (by decide) ?_
          refine Z_icmp_ge (tgt := 70) dX8_opened_23 (by decide) (fun _ => ?_) (fun h => absurd h (by decide))
          refine Z_aload_n dX8_opened_70 rfl rfl ?_
          refine Z_getR dX8_opened_71 cl_8 fl_X8_18_8 rfl hv.2.1 hv.2.2.1.2.2.1 ?_
          refine Z_iload dX8_opened_74 rfl ?_
          refine Z_ialdv dX8_opened_76 hv.2.2.2.1.2.2.1 (zix_nI (m := i) hlt (by omega)) he2 ?_
          refine Z_istore_n (L' := [_, _, _, _, _, _]) dX8_opened_77 rfl (by decide) rfl rfl ?_
          refine Z_iinc (L' := [_, _, _, _, _, _]) dX8_opened_78 rfl (by rfl : _ + Int32.ofInt 1 = _ + 1) (by decide) rfl rfl ?_
          refine Z_goto (tgt := 7) dX8_opened_81 (by decide) ?_
          rw [nI_1]
          refine nx _ _ _ ?_
          rw [← fin]
          first
            | (rw [← stp true true t0 t1 B]; refine congrArg nI (num6_cg (fun j _ => ?_)); simp only [Bool.true_and, Bool.false_and, Bool.or_false])
            | (rw [← stp true false t0 f1 B]; refine congrArg nI (num6_cg (fun j _ => ?_)); simp only [Bool.true_and, Bool.false_and, Bool.or_false])
            | (rw [← stp false true f0 t1 B]; refine congrArg nI (num6_cg (fun j _ => ?_)); simp only [Bool.true_and, Bool.false_and, Bool.or_false])
            | (rw [← stp false false f0 f1 B]; refine congrArg nI (num6_cg (fun j _ => ?_)); simp only [Bool.true_and, Bool.false_and, Bool.or_false])
      · skip
        first
          | have t0 : zval1 (dyOf s 0 l r e0) X.2 = true := b2i_ne.mp h44
          | have t1 : zval1 (dyOf s 1 l r e0) X.2 = true := b2i_ne.mp h44
        refine Z_iload_n dX8_opened_47 rfl rfl ?_
        refine Z_iconst (v := 1) dX8_opened_48 (by decide) ?_
        refine Z_aload_n dX8_opened_49 rfl rfl ?_
        refine Z_getR dX8_opened_50 cl_8 fl_X8_15_8 rfl hv.2.1 hv.2.2.1.2.1 ?_
        refine Z_iload dX8_opened_53 rfl ?_
        refine Z_ialdv dX8_opened_55 hv.2.2.2.1.2.1 (zix_nI (m := i) hlt (by omega)) hw2 ?_
        refine Z_iconst (v := 2) dX8_opened_56 (by decide) ?_
        refine Z_imul dX8_opened_57 ?_
        refine Z_iload dX8_opened_58 rfl ?_
        refine Z_iadd dX8_opened_60 ?_
        refine Z_ishl dX8_opened_61 ?_
        refine Z_ior dX8_opened_62 ?_
        first
          | rw [sh0, num6_or (by omega)]
          | rw [sh1, num6_or (by omega)]
        refine Z_istore_n (L' := [_, _, _, _, _, _]) dX8_opened_63 rfl (by decide) rfl rfl ?_
        first
          | have f0 : zval1 (dyOf s 0 l r e0) X.2 = false := b2i_eq.mp h44
          | have f1 : zval1 (dyOf s 1 l r e0) X.2 = false := b2i_eq.mp h44
          | skip
        refine Z_iinc (L' := [_, _, _, _, _, _]) dX8_opened_64 rfl (show (0 : Int32) + Int32.ofInt 1 = 1 from by decide) (by decide) rfl rfl ?_
        refine Z_goto (tgt := 20) dX8_opened_67 (by decide) ?_
        refine Z_iload dX8_opened_20 rfl ?_
        refine Z_iconst (v := 2) dX8_opened_22 (by decide) ?_
        refine Z_icmp_ge (tgt := 70) dX8_opened_23 (by decide) (fun h => absurd h (by decide)) (fun _ => ?_)
        refine Z_aload_n dX8_opened_26 rfl rfl ?_
        refine Z_iconst (v := 1) dX8_opened_27 (by decide) ?_
        refine Z_iload dX8_opened_28 rfl ?_
        refine Z_iast dX8_opened_30 hy (zix_k (m := 1) (by decide)) ?_
        rw [sI_sI]
        refine Z_aload_n dX8_opened_31 rfl rfl ?_
        refine Z_iload_n dX8_opened_32 rfl rfl ?_
        refine Z_aload_n dX8_opened_33 rfl rfl ?_
        refine Z_getR dX8_opened_34 cl_8 fl_X8_18_8 rfl hv.2.1 hv.2.2.1.2.2.1 ?_
        refine Z_iload dX8_opened_37 rfl ?_
        refine Z_ialdv dX8_opened_39 hv.2.2.2.1.2.2.1 (zix_nI (m := i) hlt (by omega)) he2 ?_
        refine Z_aload_n dX8_opened_40 rfl rfl ?_
        refine Z_V3z (ci := 8) dX8_opened_41 to_X8_holds lk_X8_35 iv_X8_holds ⟨rfl, rfl⟩ hv.2.1 (Nat.le_of_ble_eq_true rfl) ⟨rfl, rfl⟩ ⟨by decide, by decide⟩ ?_
        rw [vEnd_s hlt, hX]
        first
          | refine k_holds (l := X.2) (hv (x := nI 0)) hy (hd5 0) (hdb 0 (by omega)) hk.2.1 hx.2 (fun j hj => hc j hj) (by have := vEnd_s hlt; rw [hX] at this; omega) ?_
          | refine k_holds (l := X.2) (hv (x := nI 1)) hy (hd5 1) (hdb 1 (by omega)) hk.2.1 hx.2 (fun j hj => hc j hj) (by have := vEnd_s hlt; rw [hX] at this; omega) ?_
        refine Z_if_eq (tgt := 64) dX8_opened_44 (by decide) (fun h44 => ?_) (fun h44 => ?_)
        · skip
          first
            | have f0 : zval1 (dyOf s 0 l r e0) X.2 = false := b2i_eq.mp h44
            | have f1 : zval1 (dyOf s 1 l r e0) X.2 = false := b2i_eq.mp h44
            | skip
          refine Z_iinc (L' := [_, _, _, _, _, _]) dX8_opened_64 rfl (show (1 : Int32) + Int32.ofInt 1 = 2 from by decide) (by decide) rfl rfl ?_
          refine Z_goto (tgt := 20) dX8_opened_67 (by decide) ?_
          refine Z_iload dX8_opened_20 rfl ?_
          refine Z_iconst (v := 2) dX8_opened_22 (by decide) ?_
          refine Z_icmp_ge (tgt := 70) dX8_opened_23 (by decide) (fun _ => ?_) (fun h => absurd h (by decide))
          refine Z_aload_n dX8_opened_70 rfl rfl ?_
          refine Z_getR dX8_opened_71 cl_8 fl_X8_18_8 rfl hv.2.1 hv.2.2.1.2.2.1 ?_
          refine Z_iload dX8_opened_74 rfl ?_
          refine Z_ialdv dX8_opened_76 hv.2.2.2.1.2.2.1 (zix_nI (m := i) hlt (by omega)) he2 ?_
          refine Z_istore_n (L' := [_, _, _, _, _, _]) dX8_opened_77 rfl (by decide) rfl rfl ?_
          refine Z_iinc (L' := [_, _, _, _, _, _]) dX8_opened_78 rfl (by rfl : _ + Int32.ofInt 1 = _ + 1) (by decide) rfl rfl ?_
          refine Z_goto (tgt := 7) dX8_opened_81 (by decide) ?_
          rw [nI_1]
          refine nx _ _ _ ?_
          rw [← fin]
          first
            | (rw [← stp true true t0 t1 B]; refine congrArg nI (num6_cg (fun j _ => ?_)); simp only [Bool.true_and, Bool.false_and, Bool.or_false])
            | (rw [← stp true false t0 f1 B]; refine congrArg nI (num6_cg (fun j _ => ?_)); simp only [Bool.true_and, Bool.false_and, Bool.or_false])
            | (rw [← stp false true f0 t1 B]; refine congrArg nI (num6_cg (fun j _ => ?_)); simp only [Bool.true_and, Bool.false_and, Bool.or_false])
            | (rw [← stp false false f0 f1 B]; refine congrArg nI (num6_cg (fun j _ => ?_)); simp only [Bool.true_and, Bool.false_and, Bool.or_false])
        · skip
          first
            | have t0 : zval1 (dyOf s 0 l r e0) X.2 = true := b2i_ne.mp h44
            | have t1 : zval1 (dyOf s 1 l r e0) X.2 = true := b2i_ne.mp h44
          refine Z_iload_n dX8_opened_47 rfl rfl ?_
          refine Z_iconst (v := 1) dX8_opened_48 (by decide) ?_
          refine Z_aload_n dX8_opened_49 rfl rfl ?_
          refine Z_getR dX8_opened_50 cl_8 fl_X8_15_8 rfl hv.2.1 hv.2.2.1.2.1 ?_
          refine Z_iload dX8_opened_53 rfl ?_
          refine Z_ialdv dX8_opened_55 hv.2.2.2.1.2.1 (zix_nI (m := i) hlt (by omega)) hw2 ?_
          refine Z_iconst (v := 2) dX8_opened_56 (by decide) ?_
          refine Z_imul dX8_opened_57 ?_
          refine Z_iload dX8_opened_58 rfl ?_
          refine Z_iadd dX8_opened_60 ?_
          refine Z_ishl dX8_opened_61 ?_
          refine Z_ior dX8_opened_62 ?_
          first
            | rw [sh0, num6_or (by omega)]
            | rw [sh1, num6_or (by omega)]
          refine Z_istore_n (L' := [_, _, _, _, _, _]) dX8_opened_63 rfl (by decide) rfl rfl ?_
          first
            | have f0 : zval1 (dyOf s 0 l r e0) X.2 = false := b2i_eq.mp h44
            | have f1 : zval1 (dyOf s 1 l r e0) X.2 = false := b2i_eq.mp h44
            | skip
          refine Z_iinc (L' := [_, _, _, _, _, _]) dX8_opened_64 rfl (show (1 : Int32) + Int32.ofInt 1 = 2 from by decide) (by decide) rfl rfl ?_
          refine Z_goto (tgt := 20) dX8_opened_67 (by decide) ?_
          refine Z_iload dX8_opened_20 rfl ?_
          refine Z_iconst (v := 2) dX8_opened_22 (by decide) ?_
          refine Z_icmp_ge (tgt := 70) dX8_opened_23 (by decide) (fun _ => ?_) (fun h => absurd h (by decide))
          refine Z_aload_n dX8_opened_70 rfl rfl ?_
          refine Z_getR dX8_opened_71 cl_8 fl_X8_18_8 rfl hv.2.1 hv.2.2.1.2.2.1 ?_
          refine Z_iload dX8_opened_74 rfl ?_
          refine Z_ialdv dX8_opened_76 hv.2.2.2.1.2.2.1 (zix_nI (m := i) hlt (by omega)) he2 ?_
          refine Z_istore_n (L' := [_, _, _, _, _, _]) dX8_opened_77 rfl (by decide) rfl rfl ?_
          refine Z_iinc (L' := [_, _, _, _, _, _]) dX8_opened_78 rfl (by rfl : _ + Int32.ofInt 1 = _ + 1) (by decide) rfl rfl ?_
          refine Z_goto (tgt := 7) dX8_opened_81 (by decide) ?_
          rw [nI_1]
          refine nx _ _ _ ?_
          rw [← fin]
          first
            | (rw [← stp true true t0 t1 B]; refine congrArg nI (num6_cg (fun j _ => ?_)); simp only [Bool.true_and, Bool.false_and, Bool.or_false])
            | (rw [← stp true false t0 f1 B]; refine congrArg nI (num6_cg (fun j _ => ?_)); simp only [Bool.true_and, Bool.false_and, Bool.or_false])
            | (rw [← stp false true f0 t1 B]; refine congrArg nI (num6_cg (fun j _ => ?_)); simp only [Bool.true_and, Bool.false_and, Bool.or_false])
            | (rw [← stp false false f0 f1 B]; refine congrArg nI (num6_cg (fun j _ => ?_)); simp only [Bool.true_and, Bool.false_and, Bool.or_false])
theorem k_opened {s l r e0 : Nat} (hv : vO α v c w e p q) (hk : vOk q) (hy : zIs α y (0, 5)) (hyz : ¬ fz y) (h0 : hI α y 0 = nI s) (h2 : hI α y 2 = nI l) (h3 : hI α y 3 = nI r) (h4 : hI α y 4 = nI e0) (hb : s < 1000 ∧ l < 1000 ∧ r < 1000 ∧ e0 < 1000) (h : ∀ x, post (some (.int (nI (zob (vsem q.1) s l r e0)))) (sI α y 1 x)) : ZK G (d + 2) mX8_opened [.ref (G.1 + v), .ref (G.1 + y)] α post := by
  have key := lp_opened (G := G) (d := d) hv hk hy hyz h0 h2 h3 h4 hb h q.1.length 0 (hI α y 1) none (by omega)
  rw [sI_self] at key
  have e1 : zob (vsem (q.1.take 0)) s l r e0 = 0 := by rw [zob_num]; exact num6_0 (fun j _ => rfl)
  rw [e1] at key
  refine ZK.of (n := 4) (by decide) (Nat.le_of_ble_eq_true rfl) rfl ?_
  refine Z_iconst (v := 0) dX8_opened_0 (by decide) ?_
  refine Z_istore_n (L' := [_, _, _, _, _, _]) dX8_opened_1 rfl (by decide) rfl rfl ?_
  refine Z_iconst (v := 0) dX8_opened_2 (by decide) ?_
  refine Z_istore_n (L' := [_, _, _, _, _, _]) dX8_opened_3 rfl (by decide) rfl rfl ?_
  refine Z_iconst (v := 0) dX8_opened_4 (by decide) ?_
  refine Z_istore (L' := [_, _, _, _, _, _]) dX8_opened_5 (by decide) rfl rfl ?_
  exact key
def zgn (P : Nat → Nat) (w s : Nat) : Nat := if w = 3 then 0 else if s / cst w % 3 = 1 then P w else 0
theorem k_gain {x s : Nat} (hv : vO α v c w e p q) (hs : s < 27) (hx : x ≤ 3) (h : post (some (.int (nI (zgn q.2.1 x s)))) α) : ZK G (d + 2) mX8_gain [.ref (G.1 + v), .int (nI x), .int (nI s)] α post := by
  refine ZK.of (n := 0) (by decide) (Nat.le_of_ble_eq_true rfl) rfl ?_
  refine Z_iload_n dX8_gain_0 rfl rfl ?_
  refine Z_if_lt (tgt := 9) dX8_gain_1 (by decide) (fun h1 => ?_) (fun h1 => ?_)
  · skip
    exact absurd h1 (nI_pos (by omega))
  · skip
    refine Z_iload_n dX8_gain_4 rfl rfl ?_
    refine Z_iconst (v := 3) dX8_gain_5 (by decide) ?_
    refine Z_icmp_lt (tgt := 11) dX8_gain_6 (by decide) (fun h6 => ?_) (fun h6 => ?_)
    · skip
      have hx3 : x < 3 := (nI_ltI (a := x) (b := 3) (by omega) (by omega)).mp h6
      have e1 : zgn q.2.1 x s = if s / cst x % 3 = 1 then q.2.1 x else 0 := if_neg (by omega)
      have e2 : nI x * 2 + 1 = nI (2 * x + 1) := by rw [show (2 : Int32) = nI 2 from rfl, pk_mul, nI_1, Nat.mul_comm]
      have e3 : (undN s).testBit (2 * x + 1) = decide (s / cst x % 3 = 1) := by
        unfold undN
        rw [num6_bit _ (by omega), show (2 * x + 1) / 2 = x by omega, show (2 * x + 1) % 2 = 1 by omega]
      refine Z_gets dX8_gain_11 (by decide) sa_X8_28 ?_
      refine Z_iload_n dX8_gain_14 rfl rfl ?_
      refine Z_ti (i := 1) dX8_gain_15 (by decide) (zix_nI (m := s) (by exact hs) (by decide)) ?_
      rw [und_ok s hs]
      refine Z_iload_n dX8_gain_16 rfl rfl ?_
      refine Z_iconst (v := 2) dX8_gain_17 (by decide) ?_
      refine Z_imul dX8_gain_18 ?_
      refine Z_iconst (v := 1) dX8_gain_19 (by decide) ?_
      refine Z_iadd dX8_gain_20 ?_
      rw [e2]
      refine Z_S2z dX8_gain_21 to_X11_hasBit lk_X8_31 sc_X11_hasBit (Nat.le_of_ble_eq_true rfl) ⟨rfl, rfl⟩ ⟨by decide, by decide⟩ ?_
      refine k_hasBit (num6_lt _) (by omega) ?_
      rw [e3]
      refine Z_if_eq (tgt := 36) dX8_gain_24 (by decide) (fun h24 => ?_) (fun h24 => ?_)
      · skip
        refine Z_iconst (v := 0) dX8_gain_36 (by decide) ?_
        refine Z_iret dX8_gain_37 rfl rfl ⟨by decide, by decide⟩ ?_
        first
          | (rw [e1, if_pos (dec_t h24)] at h; exact h)
          | (rw [e1, if_neg (dec_f h24)] at h; exact h)
      · skip
        refine Z_aload_n dX8_gain_27 rfl rfl ?_
        refine Z_getR dX8_gain_28 cl_8 fl_X8_21_8 rfl hv.2.1 hv.2.2.1.2.2.2 ?_
        refine Z_iload_n dX8_gain_31 rfl rfl ?_
        refine Z_ialdv dX8_gain_32 hv.2.2.2.1.2.2.2 (zix_nI (m := x) hx3 (by decide)) (hv.2.2.2.2.2.2.1 x hx3) ?_
        refine Z_goto (tgt := 37) dX8_gain_33 (by decide) ?_
        refine Z_iret dX8_gain_37 rfl rfl ⟨by decide, by decide⟩ ?_
        first
          | (rw [e1, if_pos (dec_t h24)] at h; exact h)
          | (rw [e1, if_neg (dec_f h24)] at h; exact h)
    · skip
      have e1 : zgn q.2.1 x s = 0 := if_pos (Nat.le_antisymm hx (Nat.not_lt.mp (fun z => h6 (nI_lt (b := 3) z (by omega)))))
      refine Z_iconst (v := 0) dX8_gain_9 (by decide) ?_
      refine Z_iret dX8_gain_10 rfl rfl ⟨by decide, by decide⟩ ?_
      rw [e1] at h; exact h
end CO2
