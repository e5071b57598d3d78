/-! THE TEXTS: what reading gives. An op: (v, how, n) with v < 5 a test, 5 not, 6 and, 7 or. A reading: did it go, where it stands, what it wrote. -/
abbrev ZOp : Type := Nat × Nat × Nat
abbrev PR : Type := Bool × Nat × List ZOp
section PA
variable (τ : Nat → Nat) (N : Nat)
def pAt (p c : Nat) : Prop := p < N ∧ τ p = c
def pIx (l : List Nat) (p : Nat) : Nat := if p < N then l.idxOf (τ p) else l.length
def pDg (p : Nat) : Prop := p < N ∧ 48 ≤ τ p ∧ τ p ≤ 57
def pNum (p : Nat) : Bool × Nat × Nat :=
  if p < N ∧ 48 ≤ τ p ∧ τ p ≤ 57 then
    (if τ p = 48 then (true, p + 1, 0) else if p + 1 < N ∧ 48 ≤ τ (p + 1) ∧ τ (p + 1) ≤ 57 then (true, p + 2, 10 * (τ p - 48) + (τ (p + 1) - 48)) else (true, p + 1, τ p - 48))
  else (false, p, 0)
def pTest (p : Nat) : PR :=
  if pIx τ N [115, 103, 108, 114, 100] p < 5 then
    (if pIx τ N [60, 61, 62] (p + 1) < 3 then
      (if (pNum τ N (p + 2)).1 = true then (true, (pNum τ N (p + 2)).2.1, [(pIx τ N [115, 103, 108, 114, 100] p, pIx τ N [60, 61, 62] (p + 1), (pNum τ N (p + 2)).2.2)]) else (false, p + 2, []))
    else (false, p + 1, []))
  else (false, p, [])
def pLoop (ch : Nat) (op : ZOp) (f : Nat → PR) : Nat → PR → PR
  | 0, r => r
  | n + 1, r => if r.1 = true ∧ (r.2.1 < N ∧ τ r.2.1 = ch) then
      (if (f (r.2.1 + 1)).1 = true then pLoop ch op f n (true, (f (r.2.1 + 1)).2.1, r.2.2 ++ (f (r.2.1 + 1)).2.2 ++ [op]) else (false, (f (r.2.1 + 1)).2.1, r.2.2 ++ (f (r.2.1 + 1)).2.2))
    else r
def pEvr (f : Nat → PR) (p : Nat) : PR := pLoop τ N 38 (6, 0, 0) f 100 (f p)
def pSom (f : Nat → PR) (p : Nat) : PR := pLoop τ N 124 (7, 0, 0) (pEvr τ N f) 100 (pEvr τ N f p)
def pFac : Nat → Nat → PR
  | 0, p => if p < N ∧ (τ p = 33 ∨ τ p = 40) then (false, p, []) else pTest τ N p
  | k + 1, p =>
    if p < N ∧ τ p = 33 then (if (pFac k (p + 1)).1 = true then (true, (pFac k (p + 1)).2.1, (pFac k (p + 1)).2.2 ++ [(5, 0, 0)]) else pFac k (p + 1))
    else if p < N ∧ τ p = 40 then (if (pSom τ N (pFac k) (p + 1)).1 = true ∧ ((pSom τ N (pFac k) (p + 1)).2.1 < N ∧ τ (pSom τ N (pFac k) (p + 1)).2.1 = 41) then (true, (pSom τ N (pFac k) (p + 1)).2.1 + 1, (pSom τ N (pFac k) (p + 1)).2.2) else (false, (pSom τ N (pFac k) (p + 1)).2.1, (pSom τ N (pFac k) (p + 1)).2.2))
    else pTest τ N p
end PA
section PB
variable {τ : Nat → Nat} {N : Nat}
/-- a reading goes on: it stays within the text, and writes no more than it reads -/
def pOk (N : Nat) (f : Nat → PR) : Prop := ∀ p, p ≤ N → p ≤ (f p).2.1 ∧ (f p).2.1 ≤ N ∧ (f p).2.2.length + p ≤ (f p).2.1 ∧ ((f p).1 = true → p < (f p).2.1)
theorem pNum_ok {p : Nat} (hp : p ≤ N) : p ≤ (pNum τ N p).2.1 ∧ (pNum τ N p).2.1 ≤ N ∧ ((pNum τ N p).1 = true → p < (pNum τ N p).2.1) ∧ (pNum τ N p).2.2 ≤ 99 := by
  unfold pNum
  split
  · split
    · exact ⟨by show p ≤ p + 1; omega, by show p + 1 ≤ N; omega, fun _ => by show p < p + 1; omega, by show 0 ≤ 99; omega⟩
    · split
      · exact ⟨by show p ≤ p + 2; omega, by show p + 2 ≤ N; omega, fun _ => by show p < p + 2; omega, by show 10 * (τ p - 48) + (τ (p + 1) - 48) ≤ 99; omega⟩
      · exact ⟨by show p ≤ p + 1; omega, by show p + 1 ≤ N; omega, fun _ => by show p < p + 1; omega, by show τ p - 48 ≤ 99; omega⟩
  · exact ⟨Nat.le_refl p, hp, fun z => absurd z Bool.false_ne_true, by show 0 ≤ 99; omega⟩
theorem pIx_lt {l : List Nat} {p : Nat} (h : pIx τ N l p < l.length) : p < N := by
  unfold pIx at h
  split at h
  · assumption
  · omega
theorem pTest_ok : pOk N (pTest τ N) := by
  intro p hp
  unfold pTest
  split
  · rename_i h1
    have h1 := pIx_lt h1
    split
    · rename_i h2
      have h2 := pIx_lt h2
      have hn := pNum_ok (τ := τ) (N := N) (p := p + 2) (by omega)
      split
      · exact ⟨by show p ≤ (pNum τ N (p + 2)).2.1; omega, hn.2.1, by show 1 + p ≤ (pNum τ N (p + 2)).2.1; omega, fun _ => by show p < (pNum τ N (p + 2)).2.1; omega⟩
      · exact ⟨by show p ≤ p + 2; omega, by show p + 2 ≤ N; omega, by show 0 + p ≤ p + 2; omega, fun z => absurd z Bool.false_ne_true⟩
    · exact ⟨by show p ≤ p + 1; omega, by show p + 1 ≤ N; omega, by show 0 + p ≤ p + 1; omega, fun z => absurd z Bool.false_ne_true⟩
  · exact ⟨Nat.le_refl p, hp, by show 0 + p ≤ p; omega, fun z => absurd z Bool.false_ne_true⟩
theorem pLoop_ok {ch : Nat} {op : ZOp} {f : Nat → PR} (hf : pOk N f) : ∀ (n : Nat) (r : PR) (p : Nat), p ≤ r.2.1 ∧ r.2.1 ≤ N ∧ r.2.2.length + p ≤ r.2.1 ∧ (r.1 = true → p < r.2.1) → p ≤ (pLoop τ N ch op f n r).2.1 ∧ (pLoop τ N ch op f n r).2.1 ≤ N ∧ (pLoop τ N ch op f n r).2.2.length + p ≤ (pLoop τ N ch op f n r).2.1 ∧ ((pLoop τ N ch op f n r).1 = true → p < (pLoop τ N ch op f n r).2.1)
  | 0, r, p, h => h
  | n + 1, r, p, h => by
    unfold pLoop
    split
    · rename_i hc
      have hq := hf (r.2.1 + 1) (by omega)
      split
      · refine pLoop_ok hf n _ p ⟨?_, hq.2.1, ?_, fun _ => ?_⟩
        · show p ≤ (f (r.2.1 + 1)).2.1; omega
        · show (r.2.2 ++ (f (r.2.1 + 1)).2.2 ++ [op]).length + p ≤ (f (r.2.1 + 1)).2.1
          rw [List.length_append, List.length_append]
          show r.2.2.length + (f (r.2.1 + 1)).2.2.length + 1 + p ≤ _
          omega
        · show p < (f (r.2.1 + 1)).2.1; omega
      · refine ⟨?_, hq.2.1, ?_, fun z => absurd z Bool.false_ne_true⟩
        · show p ≤ (f (r.2.1 + 1)).2.1; omega
        · show (r.2.2 ++ (f (r.2.1 + 1)).2.2).length + p ≤ (f (r.2.1 + 1)).2.1
          rw [List.length_append]
          omega
    · exact h
theorem pEvr_ok {f : Nat → PR} (hf : pOk N f) : pOk N (pEvr τ N f) := fun p hp => pLoop_ok hf 100 _ p (hf p hp)
theorem pSom_ok {f : Nat → PR} (hf : pOk N f) : pOk N (pSom τ N f) := fun p hp => pLoop_ok (pEvr_ok hf) 100 _ p (pEvr_ok hf p hp)
theorem pFac_ok : ∀ k, pOk N (pFac τ N k)
  | 0 => by
    intro p hp
    unfold pFac
    split
    · exact ⟨Nat.le_refl p, hp, by show 0 + p ≤ p; omega, fun z => absurd z Bool.false_ne_true⟩
    · exact pTest_ok p hp
  | k + 1 => by
    intro p hp
    unfold pFac
    have hk : pOk N (pFac τ N k) := pFac_ok k
    split
    · rename_i h1
      have hq := hk (p + 1) (by omega)
      split
      · refine ⟨?_, hq.2.1, ?_, fun _ => ?_⟩
        · show p ≤ (pFac τ N k (p + 1)).2.1; omega
        · show ((pFac τ N k (p + 1)).2.2 ++ [(5, 0, 0)]).length + p ≤ (pFac τ N k (p + 1)).2.1
          rw [List.length_append]
          show (pFac τ N k (p + 1)).2.2.length + 1 + p ≤ _
          omega
        · show p < (pFac τ N k (p + 1)).2.1; omega
      · exact ⟨by omega, hq.2.1, by omega, fun z => by omega⟩
    · split
      · rename_i h1 h2
        have hq := pSom_ok (τ := τ) hk (p + 1) (by omega)
        split
        · rename_i h3
          exact ⟨by show p ≤ _ + 1; omega, by show _ + 1 ≤ N; omega, by show (pSom τ N (pFac τ N k) (p + 1)).2.2.length + p ≤ (pSom τ N (pFac τ N k) (p + 1)).2.1 + 1; omega, fun _ => by show p < _ + 1; omega⟩
        · exact ⟨by show p ≤ (pSom τ N (pFac τ N k) (p + 1)).2.1; omega, hq.2.1, by show (pSom τ N (pFac τ N k) (p + 1)).2.2.length + p ≤ (pSom τ N (pFac τ N k) (p + 1)).2.1; omega, fun z => absurd z Bool.false_ne_true⟩
      · exact pTest_ok p hp
def pSpell (τ : Nat → Nat) (N : Nat) : List Nat → Nat → Bool × Nat
  | [], p => (true, p)
  | c :: l, p => if p < N ∧ τ p = c then pSpell τ N l (p + 1) else (false, p)
theorem pSpell_ok : ∀ (l : List Nat) (p : Nat), p ≤ N → p ≤ (pSpell τ N l p).2 ∧ (pSpell τ N l p).2 ≤ N ∧ ((pSpell τ N l p).1 = true → (pSpell τ N l p).2 = p + l.length)
  | [], p, hp => ⟨Nat.le_refl p, hp, fun _ => rfl⟩
  | c :: l, p, hp => by
    unfold pSpell
    split
    · have := pSpell_ok l (p + 1) (by omega)
      exact ⟨by omega, this.2.1, fun z => by rw [this.2.2 z]; show p + 1 + l.length = p + (l.length + 1); omega⟩
    · exact ⟨Nat.le_refl p, hp, fun z => absurd z Bool.false_ne_true⟩
def pWork (τ : Nat → Nat) (N p : Nat) : Bool × Nat × Nat :=
  if p < N ∧ 48 ≤ τ p ∧ τ p ≤ 50 then (if p + 1 < N ∧ τ (p + 1) = 32 then (true, p + 2, τ p - 48) else (false, p + 1, τ p - 48)) else (false, p, 0)
theorem pWork_ok {p : Nat} (hp : p ≤ N) : p ≤ (pWork τ N p).2.1 ∧ (pWork τ N p).2.1 ≤ N ∧ ((pWork τ N p).1 = true → (pWork τ N p).2.1 = p + 2) ∧ (pWork τ N p).2.2 ≤ 2 := by
  unfold pWork
  split
  · split
    · exact ⟨by show p ≤ p + 2; omega, by show p + 2 ≤ N; omega, fun _ => rfl, by show τ p - 48 ≤ 2; omega⟩
    · exact ⟨by show p ≤ p + 1; omega, by show p + 1 ≤ N; omega, fun z => absurd z Bool.false_ne_true, by show τ p - 48 ≤ 2; omega⟩
  · exact ⟨Nat.le_refl p, hp, fun z => absurd z Bool.false_ne_true, by show 0 ≤ 2; omega⟩
theorem idx_first {x : Nat} : ∀ (l : List Nat) (k : Nat), (∀ j, j < k → ¬ l.getD j 0 = x) → k < l.length → l.getD k 0 = x → l.idxOf x = k
  | [], k, _, hk, _ => absurd hk (Nat.not_lt_zero k)
  | c :: l, 0, _, _, h => by
    have h : c = x := h
    rw [h, List.idxOf_cons_self]
  | c :: l, k + 1, h0, hk, h => by
    have hc : ¬ c = x := h0 0 (by omega)
    rw [List.idxOf_cons, show (c == x) = false from beq_eq_false_iff_ne.mpr hc]
    show l.idxOf x + 1 = k + 1
    rw [idx_first l k (fun j hj => h0 (j + 1) (by omega)) (Nat.lt_of_succ_lt_succ hk) h]
theorem idx_none {x : Nat} : ∀ (l : List Nat), (∀ j, j < l.length → ¬ l.getD j 0 = x) → l.idxOf x = l.length
  | [], _ => rfl
  | c :: l, h0 => by
    have hc : ¬ c = x := h0 0 (Nat.succ_pos _)
    rw [List.idxOf_cons, show (c == x) = false from beq_eq_false_iff_ne.mpr hc]
    show l.idxOf x + 1 = l.length + 1
    rw [idx_none l (fun j hj => h0 (j + 1) (Nat.succ_lt_succ hj))]
end PB
