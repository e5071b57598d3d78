section PV1
variable {τ : Nat → Nat} {N a c p : Nat} {f : Nat → Int32}
theorem zem_out {i : Nat} (h1 : i ≠ 187 + a) : ∀ (xs : List Int32) (f : Nat → Int32) (c : Nat), (i < 192 + 140 * a + c ∨ 192 + 140 * a + c + xs.length ≤ i) → zem f a c xs i = f i
  | [], f, c, _ => rfl
  | x :: xs, f, c, h => by
    have h : i < 192 + 140 * a + c ∨ 192 + 140 * a + c + (xs.length + 1) ≤ i := h
    show zem (zem1 f a c x) a (c + 1) xs i = f i
    rw [zem_out h1 xs (zem1 f a c x) (c + 1) (by omega)]
    unfold zem1
    rw [u1_n h1, u1_n (by omega)]
theorem zem_in (ha : a < 5) : ∀ (xs : List Int32) (f : Nat → Int32) (c j : Nat), j < xs.length → zem f a c xs (192 + 140 * a + c + j) = xs.getD j 0
  | [], f, c, j, h => absurd h (Nat.not_lt_zero j)
  | x :: xs, f, c, 0, h => by
    show zem (zem1 f a c x) a (c + 1) xs (192 + 140 * a + c) = x
    rw [zem_out (by omega) xs (zem1 f a c x) (c + 1) (by omega)]
    unfold zem1
    rw [u1_n (by omega), u1_s]
  | x :: xs, f, c, j + 1, h => by
    show zem (zem1 f a c x) a (c + 1) xs (192 + 140 * a + c + (j + 1)) = xs.getD j 0
    rw [← zem_in ha xs (zem1 f a c x) (c + 1) j (Nat.lt_of_succ_lt_succ h), show 192 + 140 * a + c + (j + 1) = 192 + 140 * a + (c + 1) + j by omega]
/-- a text: clause by clause -/
def pNx (τ : Nat → Nat) (N p : Nat) (cl : List ZCl) : Bool × Nat × List ZCl := ((pCl τ N p).1, (pCl τ N p).2.1, if (pCl τ N p).1 = true then cl ++ [(pCl τ N p).2.2] else cl)
def pW (τ : Nat → Nat) (N : Nat) : Nat → Bool × Nat × List ZCl → Bool × Nat × List ZCl
  | 0, r => r
  | n + 1, r => if r.1 = true ∧ (r.2.1 < N ∧ τ r.2.1 = 59) then pW τ N n (pNx τ N (r.2.1 + 1) r.2.2) else r
def pText (τ : Nat → Nat) (N : Nat) : Bool × Nat × List ZCl := pW τ N 9 (pNx τ N 0 [])
def vPay (cl : List ZCl) (k : Nat) : Nat := cl.foldl (fun x q => if q.1 = 0 ∧ q.2.1 = k then q.2.2.1 else x) 1
def vCov (cl : List ZCl) : Nat := cl.foldl (fun x q => if q.1 = 1 then q.2.2.1 else x) 0
def vOp1 (q : ZCl) : List Int32 := if q.1 = 2 then q.2.2.2.map mO ++ [-10 - nI q.2.1] else []
def vOps (cl : List ZCl) : List Int32 := cl.flatMap vOp1
theorem vPay_app {cl : List ZCl} {q : ZCl} {k : Nat} : vPay (cl ++ [q]) k = if q.1 = 0 ∧ q.2.1 = k then q.2.2.1 else vPay cl k := by
  unfold vPay; rw [List.foldl_append]; rfl
theorem vCov_app {cl : List ZCl} {q : ZCl} : vCov (cl ++ [q]) = if q.1 = 1 then q.2.2.1 else vCov cl := by
  unfold vCov; rw [List.foldl_append]; rfl
theorem vOps_app {cl : List ZCl} {q : ZCl} : vOps (cl ++ [q]) = vOps cl ++ vOp1 q := by
  unfold vOps; rw [List.flatMap_append, List.flatMap_cons, List.flatMap_nil, List.append_nil]
/-- a clause as it is read -/
def clOk (q : ZCl) : Prop := (q.1 = 0 ∧ q.2.1 ≤ 2 ∧ q.2.2.1 ≤ 99) ∨ (q.1 = 1 ∧ q.2.2.1 ≤ 99) ∨ (q.1 = 2 ∧ q.2.1 ≤ 2)
theorem pCl_ok (hp : p ≤ N) : p ≤ (pCl τ N p).2.1 ∧ (pCl τ N p).2.1 ≤ N ∧ ((pCl τ N p).1 = true → clOk (pCl τ N p).2.2 ∧ p < (pCl τ N p).2.1 ∧ (vOp1 (pCl τ N p).2.2).length + p ≤ (pCl τ N p).2.1) ∧ ((pCl τ N p).1 = false → (pCl τ N p).2.2.2.2.2.length + p ≤ (pCl τ N p).2.1) := by
  unfold pCl
  split
  · rename_i h99
    split
    · have hs := pSpell_ok (τ := τ) (N := N) [111, 118, 101, 114, 32] (p + 1) (by omega)
      generalize pSpell τ N [111, 118, 101, 114, 32] (p + 1) = S at *
      split
      · have hn := pNum_ok (τ := τ) (N := N) (p := S.2) hs.2.1
        generalize pNum τ N S.2 = R at *
        exact ⟨by show p ≤ R.2.1; omega, hn.2.1, fun _ => ⟨Or.inr (Or.inl ⟨rfl, hn.2.2.2⟩), by show p < R.2.1; omega, by show 0 + p ≤ R.2.1; omega⟩, fun _ => by show 0 + p ≤ R.2.1; omega⟩
      · exact ⟨by show p ≤ S.2; omega, hs.2.1, fun z => absurd z Bool.false_ne_true, fun _ => by show 0 + p ≤ S.2; omega⟩
    · have hs := pSpell_ok (τ := τ) (N := N) [97, 110, 32] (p + 1) (by omega)
      generalize pSpell τ N [97, 110, 32] (p + 1) = S at *
      split
      · rename_i hs1
        have hs2 := hs.2.2 hs1
        have hw := pWork_ok (τ := τ) (N := N) (p := S.2) hs.2.1
        generalize pWork τ N S.2 = W at *
        split
        · rename_i hw1
          have hw2 := hw.2.2.1 hw1
          have hq := pSom_ok (τ := τ) (pFac_ok (τ := τ) (N := N) 5) W.2.1 hw.2.1
          generalize pSom τ N (pFac τ N 5) W.2.1 = R at *
          refine ⟨by show p ≤ R.2.1; omega, hq.2.1, fun _ => ⟨Or.inr (Or.inr ⟨rfl, hw.2.2.2⟩), by show p < R.2.1; omega, ?_⟩, fun _ => by show R.2.2.length + p ≤ R.2.1; omega⟩
          show (R.2.2.map mO ++ [-10 - nI W.2.2]).length + p ≤ R.2.1
          rw [List.length_append, List.length_map]
          show R.2.2.length + 1 + p ≤ R.2.1
          have : ([97, 110, 32] : List Nat).length = 3 := rfl
          omega
        · exact ⟨by show p ≤ W.2.1; omega, hw.2.1, fun z => absurd z Bool.false_ne_true, fun _ => by show 0 + p ≤ W.2.1; omega⟩
      · exact ⟨by show p ≤ S.2; omega, hs.2.1, fun z => absurd z Bool.false_ne_true, fun _ => by show 0 + p ≤ S.2; omega⟩
  · split
    · have hs := pSpell_ok (τ := τ) (N := N) [112, 97, 121, 32] p hp
      generalize pSpell τ N [112, 97, 121, 32] p = S at *
      split
      · have hw := pWork_ok (τ := τ) (N := N) (p := S.2) hs.2.1
        generalize pWork τ N S.2 = W at *
        split
        · rename_i hw1
          have hw2 := hw.2.2.1 hw1
          have hn := pNum_ok (τ := τ) (N := N) (p := W.2.1) hw.2.1
          generalize pNum τ N W.2.1 = R at *
          exact ⟨by show p ≤ R.2.1; omega, hn.2.1, fun _ => ⟨Or.inl ⟨rfl, hw.2.2.2, hn.2.2.2⟩, by show p < R.2.1; omega, by show 0 + p ≤ R.2.1; omega⟩, fun _ => by show 0 + p ≤ R.2.1; omega⟩
        · exact ⟨by show p ≤ W.2.1; omega, hw.2.1, fun z => absurd z Bool.false_ne_true, fun _ => by show 0 + p ≤ W.2.1; omega⟩
      · exact ⟨by show p ≤ S.2; omega, hs.2.1, fun z => absurd z Bool.false_ne_true, fun _ => by show 0 + p ≤ S.2; omega⟩
    · exact ⟨Nat.le_refl p, hp, fun z => absurd z Bool.false_ne_true, fun _ => by show 0 + p ≤ p; omega⟩
/-- the places of a valley being read -/
def vIn (a i : Nat) : Prop := (167 + 3 * a ≤ i ∧ i < 167 + 3 * a + 3) ∨ i = 182 + a ∨ i = 187 + a ∨ (192 + 140 * a ≤ i ∧ i < 192 + 140 * a + 140)
def mVR (f0 f : Nat → Int32) (a : Nat) (cl : List ZCl) : Prop := (∀ k, k < 3 → f (167 + 3 * a + k) = nI (vPay cl k)) ∧ f (182 + a) = nI (vCov cl) ∧ f (187 + a) = nI (vOps cl).length ∧ (∀ j, j < (vOps cl).length → f (192 + 140 * a + j) = (vOps cl).getD j 0) ∧ ∀ i, ¬ vIn a i → f i = f0 i
def mVJ (f0 f : Nat → Int32) (a : Nat) : Prop := (∀ k, k < 3 → ∃ n, n ≤ 99 ∧ f (167 + 3 * a + k) = nI n) ∧ (∃ n, n ≤ 99 ∧ f (182 + a) = nI n) ∧ (∃ n, n ≤ 140 ∧ f (187 + a) = nI n) ∧ ∀ i, ¬ vIn a i → f i = f0 i
theorem mVR.step {f0 : Nat → Int32} {cl : List ZCl} {q : Bool × Nat × ZCl} (ha : a < 5) (h : mVR f0 f a cl) (hq : q.1 = true) (hk : clOk q.2.2) (hb : (vOps cl).length + (vOp1 q.2.2).length ≤ 140) : mVR f0 (mCl f a (vOps cl).length q) a (cl ++ [q.2.2]) := by
  obtain ⟨b, pos, kd, w, n, ops⟩ := q
  have hq : b = true := hq
  subst hq
  obtain ⟨h1, h2, h3, h4, h5⟩ := h
  rcases hk with hk | hk | hk
  · have hk1 : kd = 0 := hk.1
    have hw : w ≤ 2 := hk.2.1
    subst hk1
    have eO : vOps (cl ++ [(0, w, n, ops)]) = vOps cl := by rw [vOps_app]; show vOps cl ++ [] = _; rw [List.append_nil]
    have eM : mCl f a (vOps cl).length (true, pos, 0, w, n, ops) = u1 f (167 + 3 * a + w) (nI n) := rfl
    refine ⟨fun k hk => ?_, ?_, ?_, fun j hj => ?_, fun i hi => ?_⟩
    · rw [eM, vPay_app]
      by_cases e : w = k
      · subst e; rw [u1_s, if_pos ⟨rfl, rfl⟩]
      · rw [u1_n (by omega), if_neg (fun z => e z.2)]; exact h1 k hk
    · rw [eM, vCov_app, u1_n (by omega), if_neg (show ¬ (0 = 1) by decide)]; exact h2
    · rw [eM, eO, u1_n (by omega)]; exact h3
    · rw [eO] at hj ⊢; rw [eM, u1_n (by omega)]; exact h4 j hj
    · rw [eM, u1_n (fun e => hi (Or.inl (by omega)))]; exact h5 i hi
  · have hk1 : kd = 1 := hk.1
    subst hk1
    have eO : vOps (cl ++ [(1, w, n, ops)]) = vOps cl := by rw [vOps_app]; show vOps cl ++ [] = _; rw [List.append_nil]
    have eM : mCl f a (vOps cl).length (true, pos, 1, w, n, ops) = u1 f (182 + a) (nI n) := rfl
    refine ⟨fun k hk => ?_, ?_, ?_, fun j hj => ?_, fun i hi => ?_⟩
    · rw [eM, vPay_app, u1_n (by omega), if_neg (fun z => absurd z.1 (show ¬ (1 = 0) by decide))]; exact h1 k hk
    · rw [eM, vCov_app, u1_s, if_pos rfl]
    · rw [eM, eO, u1_n (by omega)]; exact h3
    · rw [eO] at hj ⊢; rw [eM, u1_n (by omega)]; exact h4 j hj
    · rw [eM, u1_n (fun e => hi (Or.inr (Or.inl e)))]; exact h5 i hi
  · have hk1 : kd = 2 := hk.1
    subst hk1
    have eO : vOps (cl ++ [(2, w, n, ops)]) = vOps cl ++ vOp1 (2, w, n, ops) := vOps_app
    have eM : mCl f a (vOps cl).length (true, pos, 2, w, n, ops) = zem f a (vOps cl).length (vOp1 (2, w, n, ops)) := rfl
    have hb : (vOps cl).length + (vOp1 (2, w, n, ops)).length ≤ 140 := hb
    generalize vOp1 (2, w, n, ops) = xs at *
    refine ⟨fun k hk => ?_, ?_, ?_, fun j hj => ?_, fun i hi => ?_⟩
    · rw [eM, vPay_app, zem_lo (by omega), if_neg (fun z => absurd z.1 (show ¬ (2 = 0) by decide))]; exact h1 k hk
    · rw [eM, vCov_app, zem_lo (by omega), if_neg (show ¬ (2 = 1) by decide)]; exact h2
    · rw [eM, eO, zem_cnt _ _ _ h3, List.length_append]
    · rw [eO] at hj ⊢
      rw [List.length_append] at hj
      rw [eM]
      by_cases e : j < (vOps cl).length
      · rw [zem_out (by omega) _ _ _ (by omega), h4 j e, List.getD_eq_getElem?_getD, List.getD_eq_getElem?_getD, List.getElem?_append_left e]
      · have := zem_in ha xs f (vOps cl).length (j - (vOps cl).length) (by omega)
        rw [show 192 + 140 * a + (vOps cl).length + (j - (vOps cl).length) = 192 + 140 * a + j by omega] at this
        rw [this, List.getD_eq_getElem?_getD, List.getD_eq_getElem?_getD, List.getElem?_append_right (by omega)]
    · rw [eM, zem_out (fun e => hi (Or.inr (Or.inr (Or.inl e)))) _ _ _ (by
        by_cases e : i < 192 + 140 * a
        · exact Or.inl (by omega)
        · refine Or.inr (Nat.le_of_not_lt (fun z => hi (Or.inr (Or.inr (Or.inr ⟨by omega, by omega⟩)))))
        )]
      exact h5 i hi
theorem vPay_le {k : Nat} : ∀ (cl : List ZCl) (x : Nat), x ≤ 99 → (∀ q ∈ cl, clOk q) → cl.foldl (fun x (q : ZCl) => if q.1 = 0 ∧ q.2.1 = k then q.2.2.1 else x) x ≤ 99
  | [], x, hx, _ => hx
  | q :: cl, x, hx, h => by
    refine vPay_le cl _ ?_ (fun r hr => h r (List.mem_cons_of_mem _ hr))
    have hq := h q List.mem_cons_self
    dsimp only
    split
    · rename_i hc
      rcases hq with hq | hq | hq <;> omega
    · exact hx
theorem vCov_le : ∀ (cl : List ZCl) (x : Nat), x ≤ 99 → (∀ q ∈ cl, clOk q) → cl.foldl (fun x (q : ZCl) => if q.1 = 1 then q.2.2.1 else x) x ≤ 99
  | [], x, hx, _ => hx
  | q :: cl, x, hx, h => by
    refine vCov_le cl _ ?_ (fun r hr => h r (List.mem_cons_of_mem _ hr))
    have hq := h q List.mem_cons_self
    dsimp only
    split
    · rename_i hc
      rcases hq with hq | hq | hq <;> omega
    · exact hx
theorem mVR.junk {f0 : Nat → Int32} {cl : List ZCl} (h : mVR f0 f a cl) (hc : ∀ q ∈ cl, clOk q) (hl : (vOps cl).length ≤ 140) : mVJ f0 f a := ⟨fun k hk => ⟨_, vPay_le cl 1 (by omega) hc, h.1 k hk⟩, ⟨_, vCov_le cl 0 (by omega) hc, h.2.1⟩, ⟨_, hl, h.2.2.1⟩, h.2.2.2.2⟩
theorem mVR.fail {f0 : Nat → Int32} {cl : List ZCl} {q : Bool × Nat × ZCl} (ha : a < 5) (h : mVR f0 f a cl) (hc : ∀ q ∈ cl, clOk q) (hq : q.1 = false) (hb : (vOps cl).length + q.2.2.2.2.2.length ≤ 140) : mVJ f0 (mCl f a (vOps cl).length q) a := by
  obtain ⟨b, pos, kd, w, n, ops⟩ := q
  have hq : b = false := hq
  subst hq
  have hb : (vOps cl).length + ops.length ≤ 140 := hb
  have hj := h.junk hc (by omega)
  unfold mCl
  split
  · rw [if_neg Bool.false_ne_true]; exact hj
  · split
    · rw [if_neg Bool.false_ne_true]; exact hj
    · split
      · rw [if_neg Bool.false_ne_true]
        show mVJ f0 (zem f a (vOps cl).length (ops.map mO)) a
        refine ⟨fun k hk => ?_, ?_, ⟨(vOps cl).length + ops.length, hb, ?_⟩, fun i hi => ?_⟩
        · rw [zem_lo (by omega)]; exact hj.1 k hk
        · rw [zem_lo (by omega)]; exact hj.2.1
        · rw [zem_cnt _ _ _ h.2.2.1, List.length_map]
        · rw [zem_out (fun e => hi (Or.inr (Or.inr (Or.inl e)))) _ _ _ (by
            rw [List.length_map]
            by_cases e : i < 192 + 140 * a
            · exact Or.inl (by omega)
            · refine Or.inr (Nat.le_of_not_lt (fun z => hi (Or.inr (Or.inr (Or.inr ⟨by omega, by omega⟩)))))
            )]
          exact hj.2.2.2 i hi
      · exact hj
end PV1
section PV2
/-- the ops are well made, and need a stack of h: what holds of every test, and goes on by not, and, or -/
def WO (h : Nat) (ops : List ZOp) : Prop := ∀ P : Nat → List ZOp → Prop, (∀ v r n, v < 5 → r < 3 → n ≤ 99 → P 1 [(v, r, n)]) → (∀ h o, P h o → P h (o ++ [(5, 0, 0)])) → (∀ h1 h2 o1 o2 x, x = 6 ∨ x = 7 → P h1 o1 → P h2 o2 → P (max h1 (h2 + 1)) (o1 ++ o2 ++ [(x, 0, 0)])) → (∀ h h' o, h ≤ h' → P h o → P h' o) → P h ops
theorem WO.test {v r n : Nat} (hv : v < 5) (hr : r < 3) (hn : n ≤ 99) : WO 1 [(v, r, n)] := fun _ t _ _ _ => t v r n hv hr hn
theorem WO.not {h : Nat} {o : List ZOp} (w : WO h o) : WO h (o ++ [(5, 0, 0)]) := fun P t n b m => n h o (w P t n b m)
theorem WO.bin {h1 h2 x : Nat} {o1 o2 : List ZOp} (hx : x = 6 ∨ x = 7) (w1 : WO h1 o1) (w2 : WO h2 o2) : WO (max h1 (h2 + 1)) (o1 ++ o2 ++ [(x, 0, 0)]) := fun P t n b m => b h1 h2 o1 o2 x hx (w1 P t n b m) (w2 P t n b m)
theorem WO.mono {h h' : Nat} {o : List ZOp} (hh : h ≤ h') (w : WO h o) : WO h' o := fun P t n b m => m h h' o hh (w P t n b m)
variable {τ : Nat → Nat} {N : Nat}
def pWo (N : Nat) (F : Nat → PR) (h : Nat) : Prop := ∀ p, p ≤ N → (F p).1 = true → WO h (F p).2.2
theorem pTest_wo : pWo N (pTest τ N) 1 := by
  intro p hp
  unfold pTest
  split
  · rename_i h1
    have l1 := pIx_lt h1
    split
    · rename_i h2
      have l2 := pIx_lt h2
      have hn := pNum_ok (τ := τ) (N := N) (p := p + 2) (by omega)
      split
      · exact fun _ => WO.test h1 h2 hn.2.2.2
      · exact fun z => absurd z Bool.false_ne_true
    · exact fun z => absurd z Bool.false_ne_true
  · exact fun z => absurd z Bool.false_ne_true
theorem pLoop_wo {ch h x : Nat} {F : Nat → PR} (hx : x = 6 ∨ x = 7) (hF : pWo N F h) (hok : pOk N F) : ∀ (n : Nat) (r : PR), r.2.1 ≤ N → (r.1 = true → WO (h + 1) r.2.2) → (pLoop τ N ch (x, 0, 0) F n r).1 = true → WO (h + 1) (pLoop τ N ch (x, 0, 0) F n r).2.2
  | 0, r, _, hr => hr
  | n + 1, r, hb, hr => by
    unfold pLoop
    split
    · rename_i hc
      have hq := hok (r.2.1 + 1) (by omega)
      split
      · rename_i hf
        refine pLoop_wo hx hF hok n _ hq.2.1 (fun _ => ?_)
        have := WO.bin hx (hr hc.1) (hF (r.2.1 + 1) (by omega) hf)
        rw [Nat.max_self] at this
        exact this
      · exact fun z => absurd z Bool.false_ne_true
    · exact hr
theorem pEvr_wo {h : Nat} {F : Nat → PR} (hF : pWo N F h) (hok : pOk N F) : pWo N (pEvr τ N F) (h + 1) := fun p hp => pLoop_wo (Or.inl rfl) hF hok 100 _ (hok p hp).2.1 (fun z => (hF p hp z).mono (by omega))
theorem pSom_wo {h : Nat} {F : Nat → PR} (hF : pWo N F h) (hok : pOk N F) : pWo N (pSom τ N F) (h + 2) := fun p hp => pLoop_wo (Or.inr rfl) (pEvr_wo hF hok) (pEvr_ok hok) 100 _ (pEvr_ok (τ := τ) hok p hp).2.1 (fun z => (pEvr_wo hF hok p hp z).mono (by omega))
theorem pFac_wo : ∀ k, pWo N (pFac τ N k) (2 * k + 1)
  | 0 => by
    intro p hp
    unfold pFac
    split
    · exact fun z => absurd z Bool.false_ne_true
    · exact pTest_wo p hp
  | k + 1 => by
    intro p hp
    have hk : pWo N (pFac τ N k) (2 * k + 1) := pFac_wo k
    unfold pFac
    split
    · rename_i h1
      split
      · rename_i h2
        exact fun _ => ((hk (p + 1) (by omega) h2).mono (by omega)).not
      · rename_i h2
        exact fun z => absurd z h2
    · split
      · rename_i h1 h2
        split
        · rename_i h3
          exact fun _ => (pSom_wo (τ := τ) hk (pFac_ok k) (p + 1) (by omega) h3.1).mono (by omega)
        · exact fun z => absurd z Bool.false_ne_true
      · exact fun z => (pTest_wo p hp z).mono (by omega)
/-- what the ops say on a day -/
def zst1 (dy : Nat → Nat) (ts : List Bool) (op : ZOp) : List Bool :=
  if op.1 < 5 then zcmp op.2.1 (dy op.1) op.2.2 :: ts
  else if op.1 = 5 then (match ts with
    | t :: l => (!t) :: l
    | _ => ts)
  else (match ts with
    | t :: t' :: l => (if op.1 = 6 then t' && t else t' || t) :: l
    | _ => ts)
def zval1 (dy : Nat → Nat) (ops : List ZOp) : Bool := (ops.foldl (zst1 dy) []).headD false
theorem WO.st {h : Nat} {o : List ZOp} (w : WO h o) (dy : Nat → Nat) : ∀ ts : List Bool, o.foldl (zst1 dy) ts = zval1 dy o :: ts := by
  have : ∃ v : Bool, ∀ ts : List Bool, o.foldl (zst1 dy) ts = v :: ts := by
    refine w (fun _ o => ∃ v : Bool, ∀ ts : List Bool, o.foldl (zst1 dy) ts = v :: ts) ?_ ?_ ?_ ?_
    · intro v r n hv hr hn
      refine ⟨zcmp r (dy v) n, fun ts => ?_⟩
      show zst1 dy ts (v, r, n) = _
      unfold zst1
      rw [if_pos hv]
    · rintro h o ⟨v, hv⟩
      refine ⟨!v, fun ts => ?_⟩
      rw [List.foldl_append, hv ts]; rfl
    · rintro h1 h2 o1 o2 x hx ⟨v1, hv1⟩ ⟨v2, hv2⟩
      refine ⟨if x = 6 then v1 && v2 else v1 || v2, fun ts => ?_⟩
      rw [List.foldl_append, List.foldl_append, hv1 ts, hv2 (v1 :: ts)]
      rcases hx with rfl | rfl <;> rfl
    · intro h h' o _ q; exact q
  obtain ⟨v, hv⟩ := this
  intro ts
  unfold zval1
  rw [hv, hv]; rfl
end PV2
