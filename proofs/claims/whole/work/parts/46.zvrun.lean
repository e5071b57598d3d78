section PV3
def dyOf (s g l r e : Nat) : Nat → Nat := fun i => if i = 0 then s else if i = 1 then g else if i = 2 then l else if i = 3 then r else e
theorem zval1_cg {dy dy' : Nat → Nat} (h : ∀ i, i < 5 → dy i = dy' i) : ∀ (o : List ZOp) (ts : List Bool), o.foldl (zst1 dy) ts = o.foldl (zst1 dy') ts
  | [], ts => rfl
  | q :: o, ts => by
    show o.foldl (zst1 dy) (zst1 dy ts q) = o.foldl (zst1 dy') (zst1 dy' ts q)
    have e : zst1 dy ts q = zst1 dy' ts q := by
      unfold zst1
      by_cases h5 : q.1 < 5
      · rw [if_pos h5, if_pos h5, h _ h5]
      · rw [if_neg h5, if_neg h5]
    rw [e]
    exact zval1_cg h o _
theorem zval1_dy {dy : Nat → Nat} {o : List ZOp} : zval1 (dyOf (dy 0) (dy 1) (dy 2) (dy 3) (dy 4)) o = zval1 dy o := by
  unfold zval1
  rw [zval1_cg (dy' := dy) (fun i hi => ?_) o []]
  have : i = 0 ∨ i = 1 ∨ i = 2 ∨ i = 3 ∨ i = 4 := by omega
  rcases this with rfl | rfl | rfl | rfl | rfl <;> rfl
theorem mStep_test {dy : Nat → Nat} {k v r n : Nat} {ts : List Bool} {b : Bool} (hv : v < 5) (hr : r < 3) (hn : n ≤ 99) (hl : ts.length < 63) : mStep dy k (some (ts, b)) (mO (v, r, n)) = some (zcmp r (dy v) n :: ts, b) := by
  have e : mO (v, r, n) = nI (v + 8 * r + 32 * n) := if_pos hv
  have e2 : (nI (v + 8 * r + 32 * n)).toNatClampNeg = v + 8 * r + 32 * n := nI_clamp (by omega)
  have e3 : 0 ≤ nI (v + 8 * r + 32 * n) := by
    rw [Int32.le_iff_toInt_le, nI_toInt (by omega)]
    exact Int.natCast_nonneg _
  rw [e]
  unfold mStep
  dsimp only
  rw [if_pos e3, e2, if_pos ⟨by omega, hl⟩, show (v + 8 * r + 32 * n) / 8 % 4 = r by omega, show (v + 8 * r + 32 * n) % 8 = v by omega, show (v + 8 * r + 32 * n) / 32 = n by omega]
theorem WO.run {h : Nat} {o : List ZOp} (w : WO h o) (dy : Nat → Nat) (k : Nat) (b : Bool) (ts : List Bool) (hl : ts.length + h ≤ 63) : (o.map mO).foldl (mStep dy k) (some (ts, b)) = some (zval1 dy o :: ts, b) := by
  have : ∃ v : Bool, (∀ ts : List Bool, o.foldl (zst1 dy) ts = v :: ts) ∧ ∀ (b : Bool) (ts : List Bool), ts.length + h ≤ 63 → (o.map mO).foldl (mStep dy k) (some (ts, b)) = some (v :: ts, b) := by
    refine w (fun h o => ∃ v : Bool, (∀ ts : List Bool, o.foldl (zst1 dy) ts = v :: ts) ∧ ∀ (b : Bool) (ts : List Bool), ts.length + h ≤ 63 → (o.map mO).foldl (mStep dy k) (some (ts, b)) = some (v :: ts, b)) ?_ ?_ ?_ ?_
    · intro v r n hv hr hn
      refine ⟨zcmp r (dy v) n, fun ts => ?_, fun b ts hl => ?_⟩
      · show zst1 dy ts (v, r, n) = _
        unfold zst1
        rw [if_pos hv]
      · exact mStep_test hv hr hn (by omega)
    · rintro h o ⟨v, hv, hr⟩
      refine ⟨!v, fun ts => ?_, fun b ts hl => ?_⟩
      · rw [List.foldl_append, hv ts]; rfl
      · rw [List.map_append, List.foldl_append, hr b ts hl]; rfl
    · rintro h1 h2 o1 o2 x hx ⟨v1, hv1, hr1⟩ ⟨v2, hv2, hr2⟩
      refine ⟨if x = 6 then v1 && v2 else v1 || v2, fun ts => ?_, fun b ts hl => ?_⟩
      · rw [List.foldl_append, List.foldl_append, hv1 ts, hv2 (v1 :: ts)]
        rcases hx with rfl | rfl <;> rfl
      · rw [List.map_append, List.map_append, List.foldl_append, List.foldl_append, hr1 b ts (by omega), hr2 b (v1 :: ts) (by show ts.length + 1 + h2 ≤ 63; omega)]
        rcases hx with rfl | rfl <;> rfl
    · rintro h h' o hh ⟨v, hv, hr⟩
      exact ⟨v, hv, fun b ts hl => hr b ts (by omega)⟩
  obtain ⟨v, hv, hr⟩ := this
  rw [hr b ts hl]
  unfold zval1
  rw [hv]; rfl
theorem mStep_end {dy : Nat → Nat} {k w : Nat} {b t : Bool} (hk : k < 3) (hw : w ≤ 2) : mStep dy k (some ([t], b)) (-10 - nI w) = some ([], b || (decide (w = k) && t)) := by
  have h1 : k = 0 ∨ k = 1 ∨ k = 2 := by omega
  have h2 : w = 0 ∨ w = 1 ∨ w = 2 := by omega
  rcases h1 with rfl | rfl | rfl <;> rcases h2 with rfl | rfl | rfl <;> rfl
/-- a clause as it is read, and well made -/
def clWo (q : ZCl) : Prop := clOk q ∧ (q.1 = 2 → WO 13 q.2.2.2)
def vS1 (dy : Nat → Nat) (k : Nat) (q : ZCl) : Bool := decide (q.1 = 2) && decide (q.2.1 = k) && zval1 dy q.2.2.2
def vSem (cl : List ZCl) : ZSem := fun s g l r e k => cl.any (vS1 (dyOf s g l r e) k)
theorem vS1_run {dy : Nat → Nat} {k : Nat} {q : ZCl} {b : Bool} (hk : k < 3) (hq : clWo q) : (vOp1 q).foldl (mStep dy k) (some ([], b)) = some ([], b || vS1 dy k q) := by
  unfold vOp1 vS1
  by_cases e : q.1 = 2
  · have hw : q.2.1 ≤ 2 := by
      rcases hq.1 with h | h | h <;> omega
    rw [if_pos e, List.foldl_append, (hq.2 e).run dy k b [] (by decide), decide_eq_true e, Bool.true_and]
    rw [List.foldl_cons, List.foldl_nil, mStep_end hk hw]
  · rw [if_neg e, decide_eq_false e, Bool.false_and, Bool.false_and, Bool.or_false]
    rfl
theorem vOps_run {dy : Nat → Nat} {k : Nat} (hk : k < 3) : ∀ (cl : List ZCl) (b : Bool), (∀ q ∈ cl, clWo q) → (vOps cl).foldl (mStep dy k) (some ([], b)) = some ([], b || cl.any (vS1 dy k))
  | [], b, _ => by show some ([], b) = some ([], b || false); rw [Bool.or_false]
  | q :: cl, b, h => by
    show (vOp1 q ++ vOps cl).foldl (mStep dy k) (some ([], b)) = some ([], b || (vS1 dy k q || cl.any (vS1 dy k)))
    rw [List.foldl_append, vS1_run hk (h q List.mem_cons_self), vOps_run hk cl _ (fun r hr => h r (List.mem_cons_of_mem _ hr)), Bool.or_assoc]
theorem mRun_list {dy : Nat → Nat} {k b : Nat} {f : Nat → Int32} {xs : List Int32} (h : ∀ j, j < xs.length → f (b + j) = xs.getD j 0) : ∀ n, n ≤ xs.length → mRun dy k f b n = (xs.take n).foldl (mStep dy k) (some ([], false))
  | 0, _ => rfl
  | n + 1, hn => by
    show mStep dy k (mRun dy k f b n) (f (b + n)) = _
    have e := h n hn
    rw [List.getD_eq_getElem?_getD, List.getElem?_eq_getElem hn] at e
    rw [mRun_list h n (by omega), List.take_add_one, List.foldl_append, List.getElem?_eq_getElem hn, e]
    rfl
theorem mVR.val {f0 f : Nat → Int32} {a : Nat} {cl : List ZCl} (h : mVR f0 f a cl) (hc : ∀ q ∈ cl, clWo q) : mVal f a (vOps cl).length (vSem cl) := by
  intro dy k hk
  rw [mRun_list h.2.2.2.1 _ (Nat.le_refl _), List.take_length, vOps_run hk cl false hc, Bool.false_or]
  unfold vSem
  have : vS1 (dyOf (dy 0) (dy 1) (dy 2) (dy 3) (dy 4)) k = vS1 dy k := by
    funext q
    unfold vS1
    rw [zval1_dy]
  rw [this]
variable {τ : Nat → Nat} {N p : Nat}
theorem pCl_wo (hp : p ≤ N) (h : (pCl τ N p).1 = true) : clWo (pCl τ N p).2.2 := by
  refine ⟨((pCl_ok hp).2.2.1 h).1, ?_⟩
  revert h
  unfold pCl
  split
  · rename_i h99
    split
    · split
      · exact fun _ z => absurd z (show ¬ (1 = 2) by decide)
      · exact fun z => absurd z Bool.false_ne_true
    · have hs := pSpell_ok (τ := τ) (N := N) [97, 110, 32] (p + 1) (by omega)
      split
      · have hw := pWork_ok (τ := τ) (N := N) (p := (pSpell τ N [97, 110, 32] (p + 1)).2) hs.2.1
        split
        · exact fun z _ => pSom_wo (τ := τ) (pFac_wo 5) (pFac_ok 5) _ hw.2.1 z
        · exact fun z => absurd z Bool.false_ne_true
      · exact fun z => absurd z Bool.false_ne_true
  · split
    · split
      · split
        · exact fun _ z => absurd z (show ¬ (0 = 2) by decide)
        · exact fun z => absurd z Bool.false_ne_true
      · exact fun z => absurd z Bool.false_ne_true
    · exact fun z => absurd z Bool.false_ne_true
end PV3
