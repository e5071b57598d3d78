/-! THE ABSTRACT STATE. σ: the numbers of the state, in the places that the reference gives them (0 workers, 1 valleys, 2 booked, 3 taped, 4 which valley holds, plus 1, 5 day, 6.. bag, 9.. stages, 12.. tape, 112.. kinds, 120.. v, 128.. rows, 152.. book, 164.. other bag, 167.. pay, 182.. cover, 187.. how many steps).
V: what the valleys say: on a day of sort s, stage g, rest l, left r, day e, can the work k be done. -/
abbrev ZSem : Type := Nat → Nat → Nat → Nat → Nat → Nat → Bool
def zcmp (how v n : Nat) : Bool := if how = 0 then decide (v < n) else if how = 1 then decide (v = n) else decide (n < v)
/-- a step of the reference over its stack -/
def mStep (dy : Nat → Nat) (k : Nat) (q : Option (List Bool × Bool)) (st : Int32) : Option (List Bool × Bool) := match q with
  | none => none
  | some (ts, r) =>
    if 0 ≤ st then (if st.toNatClampNeg % 8 < 5 ∧ ts.length < 63 then some (zcmp (st.toNatClampNeg / 8 % 4) (dy (st.toNatClampNeg % 8)) (st.toNatClampNeg / 32) :: ts, r) else none)
    else if st = -1 then (match ts with
      | t :: l => some ((!t) :: l, r)
      | _ => none)
    else if -10 < st then (match ts with
      | t :: t' :: l => some ((if st = -2 then t' && t else t' || t) :: l, r)
      | _ => none)
    else (match ts with
      | [t] => some ([], r || (decide (-10 - st = nI k) && t))
      | _ => none)
def mRun (dy : Nat → Nat) (k : Nat) (f : Nat → Int32) (b : Nat) : Nat → Option (List Bool × Bool)
  | 0 => some ([], false)
  | n + 1 => mStep dy k (mRun dy k f b n) (f (b + n))
/-- the steps of valley a, m of them, say what sem says -/
def mVal (f : Nat → Int32) (a m : Nat) (sem : ZSem) : Prop := ∀ (dy : Nat → Nat) (k : Nat), k < 3 → mRun dy k f (192 + 140 * a) m = some ([], sem (dy 0) (dy 1) (dy 2) (dy 3) (dy 4) k)
/-- bounds of the state -/
def zbd (i : Nat) : Nat := if i = 0 then 8 else if i = 1 then 5 else if i = 2 then 12 else if i = 3 then 100 else if i = 4 then 5 else if i = 5 then 99 else if i < 9 then 5 else if i < 12 then 2 else if i < 112 then 127 else if i < 120 then 6 else if i < 128 then 9 else if i < 152 then 3 else if i < 164 then 2 else if i < 167 then 5 else if i < 187 then 99 else 140
def SB (σ : Nat → Nat) : Prop := (∀ i, i < 192 → σ i ≤ zbd i) ∧ σ 4 ≤ σ 1
theorem SB.at {σ : Nat → Nat} (h : SB σ) {i b : Nat} (hi : i < 192) (hb : zbd i = b) : σ i ≤ b := hb ▸ h.1 i hi
theorem SB.set {σ : Nat → Nat} (h : SB σ) {i n : Nat} (hn : n ≤ zbd i) (h4 : i ≠ 4) (h1 : i ≠ 1) : SB (u1 σ i n) := by
  refine ⟨fun j hj => ?_, ?_⟩
  · by_cases e : j = i
    · subst e; rw [u1_s]; exact hn
    · rw [u1_n e]; exact h.1 j hj
  · rw [u1_n (Ne.symm h4), u1_n (Ne.symm h1)]; exact h.2
theorem zbd_bag {j : Nat} (h : j < 3) : zbd (6 + j) = 5 := by unfold zbd; rw [if_neg (by omega), if_neg (by omega), if_neg (by omega), if_neg (by omega), if_neg (by omega), if_neg (by omega), if_pos (by omega)]
theorem zbd_stage {j : Nat} (h : j < 3) : zbd (9 + j) = 2 := by unfold zbd; rw [if_neg (by omega), if_neg (by omega), if_neg (by omega), if_neg (by omega), if_neg (by omega), if_neg (by omega), if_neg (by omega), if_pos (by omega)]
theorem zbd_tape {j : Nat} (h : j < 100) : zbd (12 + j) = 127 := by unfold zbd; rw [if_neg (by omega), if_neg (by omega), if_neg (by omega), if_neg (by omega), if_neg (by omega), if_neg (by omega), if_neg (by omega), if_neg (by omega), if_pos (by omega)]
theorem zbd_kind {j : Nat} (h : j < 8) : zbd (112 + j) = 6 := by unfold zbd; rw [if_neg (by omega), if_neg (by omega), if_neg (by omega), if_neg (by omega), if_neg (by omega), if_neg (by omega), if_neg (by omega), if_neg (by omega), if_neg (by omega), if_pos (by omega)]
theorem zbd_v {j : Nat} (h : j < 8) : zbd (120 + j) = 9 := by unfold zbd; rw [if_neg (by omega), if_neg (by omega), if_neg (by omega), if_neg (by omega), if_neg (by omega), if_neg (by omega), if_neg (by omega), if_neg (by omega), if_neg (by omega), if_neg (by omega), if_pos (by omega)]
theorem zbd_row {j : Nat} (h : j < 24) : zbd (128 + j) = 3 := by unfold zbd; rw [if_neg (by omega), if_neg (by omega), if_neg (by omega), if_neg (by omega), if_neg (by omega), if_neg (by omega), if_neg (by omega), if_neg (by omega), if_neg (by omega), if_neg (by omega), if_neg (by omega), if_pos (by omega)]
theorem zbd_book {j : Nat} (h : j < 12) : zbd (152 + j) = 2 := by unfold zbd; rw [if_neg (by omega), if_neg (by omega), if_neg (by omega), if_neg (by omega), if_neg (by omega), if_neg (by omega), if_neg (by omega), if_neg (by omega), if_neg (by omega), if_neg (by omega), if_neg (by omega), if_neg (by omega), if_pos (by omega)]
theorem zbd_oth {j : Nat} (h : j < 3) : zbd (164 + j) = 5 := by unfold zbd; rw [if_neg (by omega), if_neg (by omega), if_neg (by omega), if_neg (by omega), if_neg (by omega), if_neg (by omega), if_neg (by omega), if_neg (by omega), if_neg (by omega), if_neg (by omega), if_neg (by omega), if_neg (by omega), if_neg (by omega), if_pos (by omega)]
theorem zbd_pay {j : Nat} (h : j < 20) : zbd (167 + j) = 99 := by unfold zbd; rw [if_neg (by omega), if_neg (by omega), if_neg (by omega), if_neg (by omega), if_neg (by omega), if_neg (by omega), if_neg (by omega), if_neg (by omega), if_neg (by omega), if_neg (by omega), if_neg (by omega), if_neg (by omega), if_neg (by omega), if_neg (by omega), if_pos (by omega)]
theorem zbd_many {j : Nat} (h : j < 5) : zbd (187 + j) = 140 := by unfold zbd; rw [if_neg (by omega), if_neg (by omega), if_neg (by omega), if_neg (by omega), if_neg (by omega), if_neg (by omega), if_neg (by omega), if_neg (by omega), if_neg (by omega), if_neg (by omega), if_neg (by omega), if_neg (by omega), if_neg (by omega), if_neg (by omega), if_neg (by omega)]
/-- a row of the reference holds a state -/
def mRow (f : Nat → Int32) (σ : Nat → Nat) (V : Nat → ZSem) : Prop := (∀ i, i < 192 → i ≠ 4 → f i = nI (σ i)) ∧ f 4 = nI (σ 4) - 1 ∧ ∀ a, a < σ 1 → mVal f a (σ (187 + a)) (V a)
abbrev ZS : Type := (Nat → Nat) × (Nat → ZSem)
/-- the whole abstract state: now, the image, the trace; and a bound of the reference's stamps -/
abbrev ZA : Type := ZS × Option ZS × List Nat × Nat
/-- what a memo's stamps may be: at most the newest one -/
def mStamp (α : AH) (t : Nat) : Prop := t < 1000 ∧ hI α 34 17 = nI t ∧ (∀ i, ∃ q : Nat, q ≤ 2 * t + 1 ∧ hI α 39 i = nI q) ∧ ∀ r, r = 41 ∨ r = 45 ∨ r = 48 ∨ r = 50 → ∀ i, ∃ q : Nat, q ≤ t ∧ hI α r i = nI q
def MRel (A : ZA) (α : AH) : Prop := MW α ∧ SB A.1.1 ∧ mRow (hI α 35) A.1.1 A.1.2 ∧ (match A.2.1 with
  | none => hI α 34 3 = 0
  | some q => hI α 34 3 = 1 ∧ SB q.1 ∧ mRow (hI α 36) q.1 q.2) ∧ (A.2.2.1.length ≤ 20 ∧ hI α 34 29 = nI A.2.2.1.length ∧ ∀ i, i < A.2.2.1.length → hI α 51 i = nI (A.2.2.1.getD i 0)) ∧ ∃ t, t ≤ A.2.2.2 ∧ mStamp α t
def zup (A : ZA) (n : Nat) : ZA := (A.1, A.2.1, A.2.2.1, A.2.2.2 + n)
/-- the reference's own cells -/
def mId (k : Nat) : Prop := 34 ≤ k ∧ k < 52
/-- only cells of a set changed their numbers; no cell came, no reference changed -/
def frI (F : Nat → Prop) (α β : AH) : Prop := hN β = hN α ∧ hS β = hS α ∧ hP β = hP α ∧ ∀ k, ¬ F k → hI β k = hI α k ∧ hJ β k = hJ α k
theorem frI.rf {F : Nat → Prop} {α : AH} : frI F α α := ⟨rfl, rfl, rfl, fun _ _ => ⟨rfl, rfl⟩⟩
theorem frI.tr {F : Nat → Prop} {α β γ : AH} (h : frI F α β) (h' : frI F β γ) : frI F α γ := ⟨h'.1.trans h.1, h'.2.1.trans h.2.1, h'.2.2.1.trans h.2.2.1, fun k hk => ⟨(h'.2.2.2 k hk).1.trans (h.2.2.2 k hk).1, (h'.2.2.2 k hk).2.trans (h.2.2.2 k hk).2⟩⟩
theorem frI.sI {F : Nat → Prop} {α : AH} {a j : Nat} {x : Int32} (h : F a) : frI F α (sI α a j x) := ⟨rfl, rfl, rfl, fun k hk => ⟨u2_row (fun e => hk (e ▸ h)), rfl⟩⟩
theorem frI.sJ {F : Nat → Prop} {α : AH} {a j : Nat} {x : Int64} (h : F a) : frI F α (sJ α a j x) := ⟨rfl, rfl, rfl, fun k hk => ⟨rfl, u2_row (fun e => hk (e ▸ h))⟩⟩
theorem frI.sIr {F : Nat → Prop} {α : AH} {a : Nat} {f : Nat → Int32} (h : F a) : frI F α (sIr α a f) := ⟨rfl, rfl, rfl, fun k hk => ⟨u1_n (fun e => hk (e ▸ h)), rfl⟩⟩
theorem frI.mono {F F' : Nat → Prop} {α β : AH} (h : frI F α β) (hF : ∀ k, F k → F' k) : frI F' α β := ⟨h.1, h.2.1, h.2.2.1, fun k hk => h.2.2.2 k (fun e => hk (hF k e))⟩
theorem frI.is {F : Nat → Prop} {α β : AH} {k : Nat} {sh : Nat × Nat} (h : frI F α β) (hi : zIs α k sh) : zIs β k sh := ⟨by rw [h.1]; exact hi.1, by rw [h.2.1]; exact hi.2⟩
theorem frI.shape {F : Nat → Prop} {α β : AH} {os ps : List (Nat × Nat × Nat)} (h : frI F α β) (hs : zShape os ps α) : zShape os ps β := ⟨fun q hq => h.is (hs.1 q hq), fun q hq => by rw [h.2.2.1]; exact hs.2 q hq⟩
theorem frI.mw {F : Nat → Prop} {α β : AH} (h : frI F α β) (hs : MW α) : MW β := frI.shape h hs
theorem frI.cw {F : Nat → Prop} {α β : AH} (h : frI F α β) (hs : CW α) : CW β := frI.shape h hs
theorem hI_sI {α : AH} {a k b j : Nat} {x : Int32} : hI (sI α a k x) b j = if b = a ∧ j = k then x else hI α b j := by
  show u2 α.2.2.1 a k x b j = _
  unfold u2 u1
  by_cases h : b = a
  · subst h
    by_cases h2 : j = k <;> simp [h2, hI]
  · simp [h, hI]
theorem hJ_sJ {α : AH} {a k b j : Nat} {x : Int64} : hJ (sJ α a k x) b j = if b = a ∧ j = k then x else hJ α b j := by
  show u2 α.2.2.2.1 a k x b j = _
  unfold u2 u1
  by_cases h : b = a
  · subst h
    by_cases h2 : j = k <;> simp [h2, hJ]
  · simp [h, hJ]
theorem hP_sP {α : AH} {a k b j : Nat} {x : Option Nat} : hP (sP α a k x) b j = if b = a ∧ j = k then x else hP α b j := by
  show u2 α.2.2.2.2 a k x b j = _
  unfold u2 u1
  by_cases h : b = a
  · subst h
    by_cases h2 : j = k <;> simp [h2, hP]
  · simp [h, hP]
theorem hI_sIr {α : AH} {a b j : Nat} {f : Nat → Int32} : hI (sIr α a f) b j = if b = a then f j else hI α b j := by
  show u1 α.2.2.1 a f b j = _
  unfold u1
  by_cases h : b = a <;> simp [h, hI]
theorem mRun_cg {dy : Nat → Nat} {k : Nat} {f g : Nat → Int32} {b : Nat} : ∀ n, (∀ i, i < n → f (b + i) = g (b + i)) → mRun dy k f b n = mRun dy k g b n
  | 0, _ => rfl
  | n + 1, h => by
    unfold mRun
    rw [mRun_cg n (fun i hi => h i (Nat.lt_succ_of_lt hi)), h n (Nat.lt_succ_self n)]
theorem mVal.cg {f g : Nat → Int32} {a m : Nat} {sem : ZSem} (h : mVal f a m sem) (e : ∀ i, i < m → g (192 + 140 * a + i) = f (192 + 140 * a + i)) : mVal g a m sem := fun dy k hk => (mRun_cg m e).trans (h dy k hk)
/-- a number of the state is changed -/
theorem mRow.set {f : Nat → Int32} {σ : Nat → Nat} {V : Nat → ZSem} (h : mRow f σ V) (hb : SB σ) {i n : Nat} (hi : i < 187) (h4 : i ≠ 4) (h1 : i ≠ 1) : mRow (u1 f i (nI n)) (u1 σ i n) V := by
  obtain ⟨h1', h2, h3⟩ := h
  refine ⟨fun j hj hj4 => ?_, ?_, fun a ha => ?_⟩
  · by_cases e : j = i
    · subst e; rw [u1_s, u1_s]
    · rw [u1_n e, u1_n e]; exact h1' j hj hj4
  · rw [u1_n (Ne.symm h4), u1_n (Ne.symm h4)]; exact h2
  · rw [u1_n (show (1 : Nat) ≠ i from Ne.symm h1)] at ha
    rw [u1_n (show 187 + a ≠ i by omega)]
    exact (h3 a ha).cg (fun j _ => u1_n (by omega))
