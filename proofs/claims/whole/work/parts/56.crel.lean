/-! THE CLASS'S CELLS. Frozen cells: valleys, workers and their rows; once made nobody writes them. -/
abbrev VC : Type := List (Nat × List ZOp) × (Nat → Nat) × Nat
def fz (k : Nat) : Prop := (1 ≤ k ∧ k < 4) ∨ 52 ≤ k
def same4 (α β : AH) (k : Nat) : Prop := hS β k = hS α k ∧ hI β k = hI α k ∧ hJ β k = hJ α k ∧ hP β k = hP α k
def frZ (α β : AH) : Prop := hN α ≤ hN β ∧ ∀ k, k < hN α → fz k → same4 α β k
def frC (α β : AH) : Prop := hN α ≤ hN β ∧ ∀ k, k < hN α → mId k ∨ fz k → same4 α β k
theorem same4.rf {α : AH} {k : Nat} : same4 α α k := ⟨rfl, rfl, rfl, rfl⟩
theorem same4.tr {α β γ : AH} {k : Nat} (h : same4 α β k) (h' : same4 β γ k) : same4 α γ k := ⟨h'.1.trans h.1, h'.2.1.trans h.2.1, h'.2.2.1.trans h.2.2.1, h'.2.2.2.trans h.2.2.2⟩
theorem frZ.rf {α : AH} : frZ α α := ⟨Nat.le_refl _, fun _ _ _ => same4.rf⟩
theorem frC.rf {α : AH} : frC α α := ⟨Nat.le_refl _, fun _ _ _ => same4.rf⟩
theorem frC.tr {α β γ : AH} (h : frC α β) (h' : frC β γ) : frC α γ := ⟨Nat.le_trans h.1 h'.1, fun k hk hz => (h.2 k hk hz).tr (h'.2 k (Nat.lt_of_lt_of_le hk h.1) hz)⟩
theorem frZ.tr {α β γ : AH} (h : frZ α β) (h' : frZ β γ) : frZ α γ := ⟨Nat.le_trans h.1 h'.1, fun k hk hz => (h.2 k hk hz).tr (h'.2 k (Nat.lt_of_lt_of_le hk h.1) hz)⟩
theorem frC.z {α β : AH} (h : frC α β) : frZ α β := ⟨h.1, fun k hk hz => h.2 k hk (Or.inr hz)⟩
/-- cells of the class that are written -/
def cId (k : Nat) : Prop := k = 0 ∨ (4 ≤ k ∧ k < 34)
theorem frI.c {F : Nat → Prop} {α β : AH} (h : frI F α β) (hF : ∀ k, F k → cId k) : frC α β := ⟨Nat.le_of_eq h.1.symm, fun k _ hz => ⟨by rw [h.2.1], (h.2.2.2 k (fun q => by have := hF k q; unfold cId at this; unfold mId fz at hz; omega)).1, (h.2.2.2 k (fun q => by have := hF k q; unfold cId at this; unfold mId fz at hz; omega)).2, by rw [h.2.2.1]⟩⟩
theorem frI.m {α β : AH} (h : frI mId α β) : frZ α β := ⟨Nat.le_of_eq h.1.symm, fun k _ hz => ⟨by rw [h.2.1], (h.2.2.2 k (fun q => by unfold mId at q; unfold fz at hz; omega)).1, (h.2.2.2 k (fun q => by unfold mId at q; unfold fz at hz; omega)).2, by rw [h.2.2.1]⟩⟩
theorem frC.new {α : AH} {sh : Nat × Nat} {f : Nat → Int32} : frC α (nw α sh f) := ⟨Nat.le_succ _, fun k hk _ => by
  have hk : k < α.1 := hk
  exact ⟨u1_n (by omega), u1_n (by omega), u1_n (by omega), u1_n (by omega)⟩⟩
theorem frC.pP {α : AH} {a j : Nat} {x : Option Nat} (h : cId a) : frC α (sP α a j x) := ⟨Nat.le_refl _, fun k _ hz => ⟨rfl, rfl, rfl, u2_row (fun e => by unfold cId at h; unfold mId fz at hz; omega)⟩⟩
theorem frC.pPn {α β : AH} {a j : Nat} {x : Option Nat} (h : frC α β) (ha : cId a ∨ hN α ≤ a) : frC α (sP β a j x) := ⟨h.1, fun k hk hz => (h.2 k hk hz).tr ⟨rfl, rfl, rfl, u2_row (fun e => by unfold cId at ha; unfold mId fz at hz; omega)⟩⟩
theorem frC.pIn {α β : AH} {a j : Nat} {x : Int32} (h : frC α β) (ha : cId a ∨ hN α ≤ a) : frC α (sI β a j x) := ⟨h.1, fun k hk hz => (h.2 k hk hz).tr ⟨rfl, u2_row (fun e => by unfold cId at ha; unfold mId fz at hz; omega), rfl, rfl⟩⟩
theorem frC.pRn {α β : AH} {a : Nat} {f : Nat → Int32} (h : frC α β) (ha : cId a ∨ hN α ≤ a) : frC α (sIr β a f) := ⟨h.1, fun k hk hz => (h.2 k hk hz).tr ⟨rfl, u1_n (fun e => by unfold cId at ha; unfold mId fz at hz; omega), rfl, rfl⟩⟩
theorem frC.is {α β : AH} {k : Nat} {sh : Nat × Nat} (h : frC α β) (hz : mId k ∨ fz k) (hi : zIs α k sh) : zIs β k sh := ⟨Nat.lt_of_lt_of_le hi.1 h.1, (h.2 k hi.1 hz).1.trans hi.2⟩
theorem frZ.is {α β : AH} {k : Nat} {sh : Nat × Nat} (h : frZ α β) (hz : fz k) (hi : zIs α k sh) : zIs β k sh := ⟨Nat.lt_of_lt_of_le hi.1 h.1, (h.2 k hi.1 hz).1.trans hi.2⟩
/-! valleys -/
def vEnc (o : ZOp) : Int32 := if o.1 = 5 then -1 else if o.1 = 6 then -2 else if o.1 = 7 then -3 else nI ((o.1 * 3 + o.2.1) * 100 + o.2.2)
def vCode (cs : List (Nat × List ZOp)) : List ZOp := cs.flatMap (fun c => c.2)
def vEnd (cs : List (Nat × List ZOp)) (i : Nat) : Nat := (vCode (cs.take i)).length
def vsem (cs : List (Nat × List ZOp)) : ZSem := fun s g l r e k => cs.any (fun c => decide (c.1 = k) && zval1 (dyOf s g l r e) c.2)
def vOk (q : VC) : Prop := (∀ c ∈ q.1, c.1 ≤ 2 ∧ WO 13 c.2) ∧ (vCode q.1).length ≤ 100 ∧ q.1.length ≤ 10 ∧ (∀ j, j < 3 → q.2.1 j ≤ 99) ∧ q.2.2 ≤ 99
def vO (α : AH) (v c w e p : Nat) (q : VC) : Prop := (fz v ∧ fz c ∧ fz w ∧ fz e ∧ fz p) ∧ zIs α v (12, 5) ∧ (hP α v 0 = some c ∧ hP α v 1 = some w ∧ hP α v 2 = some e ∧ hP α v 3 = some p) ∧ (zIs α c (0, (vCode q.1).length) ∧ zIs α w (0, q.1.length) ∧ zIs α e (0, q.1.length) ∧ zIs α p (0, 3)) ∧ (∀ j, j < (vCode q.1).length → hI α c j = vEnc ((vCode q.1).getD j (0, 0, 0))) ∧ (∀ j, j < q.1.length → hI α w j = nI (q.1.getD j (0, [])).1 ∧ hI α e j = nI (vEnd q.1 (j + 1))) ∧ (∀ j, j < 3 → hI α p j = nI (q.2.1 j)) ∧ hI α v 4 = nI q.2.2
def vObj (α : AH) (v : Nat) (q : VC) : Prop := vOk q ∧ ∃ c w e p, vO α v c w e p q
theorem vO.fr {α β : AH} {v c w e p : Nat} {q : VC} (h : vO α v c w e p q) (hz : frZ α β) : vO β v c w e p q := by
  obtain ⟨⟨a1, a2, a3, a4, a5⟩, b, ⟨c1, c2, c3, c4⟩, ⟨d1, d2, d3, d4⟩, e1, e2, e3, e4⟩ := h
  have sv := hz.2 v b.1 a1
  have sc := hz.2 c d1.1 a2
  have sw := hz.2 w d2.1 a3
  have se := hz.2 e d3.1 a4
  have sp := hz.2 p d4.1 a5
  refine ⟨⟨a1, a2, a3, a4, a5⟩, hz.is a1 b, ?_, ⟨hz.is a2 d1, hz.is a3 d2, hz.is a4 d3, hz.is a5 d4⟩, ?_, ?_, ?_, ?_⟩
  · rw [sv.2.2.2]; exact ⟨c1, c2, c3, c4⟩
  · rw [sc.2.1]; exact e1
  · rw [sw.2.1, se.2.1]; exact e2
  · rw [sp.2.1]; exact e3
  · rw [sv.2.1]; exact e4
theorem vObj.fr {α β : AH} {v : Nat} {q : VC} (h : vObj α v q) (hz : frZ α β) : vObj β v q := by
  obtain ⟨h1, c, w, e, p, h⟩ := h
  exact ⟨h1, c, w, e, p, h.fr hz⟩
theorem vObj.lt {α : AH} {v : Nat} {q : VC} (h : vObj α v q) : v < hN α := by
  obtain ⟨-, c, w, e, p, h⟩ := h
  exact h.2.1.1
/-! workers -/
def kci (kd : Nat) : Nat := if kd = 0 then 10 else if kd = 1 then 3 else if kd = 2 then 2 else if kd = 3 then 9 else if kd = 4 then 6 else if kd = 5 then 1 else 7
def wObj (α : AH) (c kd : Nat) (num v : Int32) (row : Nat) : Prop := fz c ∧ kd ≤ 6 ∧ zIs α c (kci kd + 4, znf (kci kd)) ∧ hI α c 0 = nI kd ∧ hI α c 1 = num ∧ hI α c 2 = v ∧ (kd = 6 → hI α c 3 = nI row) ∧ row < 64
theorem wObj.fr {α β : AH} {c kd row : Nat} {num v : Int32} (h : wObj α c kd num v row) (hz : frZ α β) : wObj β c kd num v row := by
  obtain ⟨a1, a2, a3, a4, a5, a6, a7, a8⟩ := h
  have s := hz.2 c a3.1 a1
  exact ⟨a1, a2, hz.is a1 a3, by rw [s.2.1]; exact a4, by rw [s.2.1]; exact a5, by rw [s.2.1]; exact a6, by rw [s.2.1]; exact a7, a8⟩
def wAny (α : AH) (c : Nat) : Prop := ∃ kd num v row, wObj α c kd num v row
def trow (σ : Nat → Nat) (w : Nat) : Nat := σ (128 + 3 * w) + 4 * σ (128 + 3 * w + 1) + 16 * σ (128 + 3 * w + 2)
/-! a season: cell a; rows a + 1 bag, a + 2 second, a + 3 tape, a + 4 workers, a + 5 book -/
def zss (σ : Nat → Nat) : Nat := σ 9 + 3 * σ 10 + 9 * σ 11
def hSem (S : ZS) : ZSem := if S.1 4 = 0 then (fun _ _ _ _ _ _ => false) else S.2 (S.1 4 - 1)
def hcn (W : ZSem) (T : Nat) : ZCn := fun s l r g k => W s g l r (T - l - 1) k
theorem zcn_h {S : ZS} {T : Nat} : zcn S T = hcn (hSem S) T := by
  funext s l r g k
  unfold zcn hcn hSem
  split <;> rfl
def vMat (q : VC) (S : ZS) : Prop := vsem q.1 = hSem S ∧ (∀ k, k < 3 → q.2.1 k = sp_pay S.1 k) ∧ q.2.2 = sp_cov S.1
def cRows (α : AH) (a : Nat) (σ : Nat → Nat) : Prop := (∀ j, j < 3 → hI α (a + 1) j = nI (σ (6 + j))) ∧ (∀ j, j < 3 → hI α (a + 2) j = nI (σ (164 + j))) ∧ (∀ j, j < 100 → hI α (a + 3) j = nI (σ (12 + j))) ∧ ∀ j, j < 12 → hI α (a + 5) j = nI (σ (152 + j))
def cNums (α : AH) (a : Nat) (σ : Nat → Nat) : Prop := hI α a 2 = nI (σ 5) ∧ hI α a 3 = nI (zss σ) ∧ hI α a 5 = nI (σ 3) ∧ hI α a 7 = nI (σ 1) ∧ hI α a 9 = nI (σ 0) ∧ hI α a 11 = nI (σ 2)
def cHeld (α : AH) (Γ : Nat → VC) (a : Nat) (S : ZS) : Prop := ∃ v, hP α a 6 = some v ∧ vObj α v (Γ v) ∧ vMat (Γ v) S
def cWks (α : AH) (a : Nat) (σ : Nat → Nat) : Prop := (∀ w, w < 8 → ∀ c, hP α (a + 4) w = some c → wAny α c) ∧ ∀ w, w < σ 0 → ∃ c, hP α (a + 4) w = some c ∧ wObj α c (σ (112 + w)) (nI w) (nI (σ (120 + w))) (trow σ w)
def cSea (α : AH) (Γ : Nat → VC) (a : Nat) (S : ZS) : Prop := cRows α a S.1 ∧ cNums α a S.1 ∧ cHeld α Γ a S ∧ cWks α a S.1
theorem cSea.fr {α β : AH} {Γ : Nat → VC} {a : Nat} {S : ZS} (h : cSea α Γ a S) (hz : frZ α β) (hs : ∀ k, a ≤ k → k ≤ a + 5 → hI β k = hI α k ∧ hP β k = hP α k) : cSea β Γ a S := by
  obtain ⟨⟨h1, h2, h3, h4⟩, h5, ⟨v, h6, h7, h8⟩, h9, h10⟩ := h
  refine ⟨⟨?_, ?_, ?_, ?_⟩, ?_, ⟨v, ?_, h7.fr hz, h8⟩, ?_, ?_⟩
  · rw [(hs (a + 1) (by omega) (by omega)).1]; exact h1
  · rw [(hs (a + 2) (by omega) (by omega)).1]; exact h2
  · rw [(hs (a + 3) (by omega) (by omega)).1]; exact h3
  · rw [(hs (a + 5) (by omega) (by omega)).1]; exact h4
  · unfold cNums; rw [(hs a (by omega) (by omega)).1]; exact h5
  · rw [(hs a (by omega) (by omega)).2]; exact h6
  · rw [(hs (a + 4) (by omega) (by omega)).2]
    intro w hw c hc
    obtain ⟨kd, num, v, row, q⟩ := h9 w hw c hc
    exact ⟨kd, num, v, row, q.fr hz⟩
  · rw [(hs (a + 4) (by omega) (by omega)).2]
    intro w hw
    obtain ⟨c, q1, q2⟩ := h10 w hw
    exact ⟨c, q1, q2.fr hz⟩
/-! what lies ahead: cell a; a + 1 left, a + 2 opened, a + 3 day, a + 4 best -/
def zob (W : ZSem) (s l r e : Nat) : Nat := (if W s 0 l r e 0 then 1 else 0) + (if W s 1 l r e 0 then 2 else 0) + (if W s 0 l r e 1 then 4 else 0) + (if W s 1 l r e 1 then 8 else 0) + (if W s 0 l r e 2 then 16 else 0) + (if W s 1 l r e 2 then 32 else 0)
def cgs (q : Nat) : Nat := zg q 0 + 3 * zg q 1 + 9 * zg q 2
def cq (q : Nat) : Nat := 27 * (q / 27) + cgs q
def zbc (b a : Int32) (cn : ZCn) : ZCn := if b = -1 then cn else fun s l r g k => if nI s = b ∧ nI r = a then false else cn s l r g k
theorem zbc_n {a : Int32} {cn : ZCn} : zbc (-1) a cn = cn := if_pos rfl
theorem zbc_at {b a : Int32} {cn : ZCn} {s l r g k : Nat} (hs : s < 3) : zbc b a cn s l r g k = if nI s = b ∧ nI r = a then false else cn s l r g k := by
  unfold zbc
  by_cases h : b = -1
  · rw [if_pos h, if_neg (fun z => nI_nm1 (w := s) (by omega) (z.1.trans h))]
  · rw [if_neg h]
def cOM (α : AH) (a T : Nat) (W : ZSem) : Prop := ∀ l s r, l < 15 → s < 3 → r < 6 → hI α (a + 2) ((l * 3 + s) * 6 + r) = -1 ∨ (l < T ∧ hI α (a + 2) ((l * 3 + s) * 6 + r) = nI (zob W s l r (T - l - 1)))
def cBM (α : AH) (a : Nat) (cn : ZCn) (pay : Nat → Nat) : Prop := ∀ q, q < 5832 → hI α (a + 4) (cq q) = -1 ∨ hI α (a + 4) (cq q) = nI (zbest cn pay q)
def cMem (α : AH) (Γ : Nat → VC) (a : Nat) : Prop := ∃ v, hP α a 3 = some v ∧ vObj α v (Γ v) ∧ (hI α a 2 = -1 ∨ ∃ T, T < 200 ∧ hI α a 2 = nI T ∧ cOM α a T (vsem (Γ v).1) ∧ cBM α a (zbc (hI α a 4) (hI α a 5) (hcn (vsem (Γ v).1) T)) (Γ v).2.1)
theorem cMem.fr {α β : AH} {Γ : Nat → VC} {a : Nat} (h : cMem α Γ a) (hz : frZ α β) (hs : ∀ k, k = a ∨ k = a + 2 ∨ k = a + 4 → hI β k = hI α k) (hp : hP β a = hP α a) : cMem β Γ a := by
  obtain ⟨v, h1, h2, h3⟩ := h
  refine ⟨v, by rw [hp]; exact h1, h2.fr hz, ?_⟩
  unfold cOM cBM
  rw [hs a (Or.inl rfl), hs (a + 2) (Or.inr (Or.inl rfl)), hs (a + 4) (Or.inr (Or.inr rfl))]
  exact h3
def cTr (α : AH) (l : List Nat) : Prop := l.length ≤ 20 ∧ hI α 33 0 = nI l.length ∧ ∀ i, i < l.length → hI α 33 (i + 1) = nI (l.getD i 0)
def cImg (α : AH) (Γ : Nat → VC) (A : ZA) : Prop := match A.2.1 with
  | none => hI α 0 2 = 0
  | some q => hI α 0 2 = 1 ∧ SB q.1 ∧ cSea α Γ 11 q
def CRel (Γ : Nat → VC) (A : ZA) (α : AH) : Prop := CW α ∧ 52 ≤ hN α ∧ SB A.1.1 ∧ cSea α Γ 5 A.1 ∧ cImg α Γ A ∧ cTr α A.2.2.1 ∧ cMem α Γ 23 ∧ cMem α Γ 28
theorem cImg.fr {α β : AH} {Γ : Nat → VC} {A : ZA} (h : cImg α Γ A) (hz : frZ α β) (hs : ∀ k, 11 ≤ k → k ≤ 16 → hI β k = hI α k ∧ hP β k = hP α k) (h0 : hI β 0 2 = hI α 0 2) : cImg β Γ A := by
  unfold cImg at h ⊢
  split
  · rename_i e; rw [e] at h; rw [h0]; exact h
  · rename_i q e; rw [e] at h; rw [h0]; exact ⟨h.1, h.2.1, h.2.2.fr hz (fun k a b => hs k a (by omega))⟩
theorem cImg.to {α : AH} {Γ : Nat → VC} {A B : ZA} (h : cImg α Γ A) (e : B.2.1 = A.2.1) : cImg α Γ B := by
  unfold cImg at h ⊢; rw [e]; exact h
/-- a call of the reference leaves the class alone -/
theorem CRel.m {Γ : Nat → VC} {A : ZA} {α β : AH} (h : CRel Γ A α) (hf : frI mId α β) : CRel Γ A β := by
  obtain ⟨h1, h2, h3, h4, h5, h6, h7, h8⟩ := h
  have hz := hf.m
  have hs : ∀ k, k < 34 → hI β k = hI α k ∧ hP β k = hP α k := fun k hk => ⟨(hf.2.2.2 k (fun q => by unfold mId at q; omega)).1, by rw [hf.2.2.1]⟩
  refine ⟨hf.cw h1, by rw [hf.1]; exact h2, h3, h4.fr hz (fun k _ b => hs k (by omega)), h5.fr hz (fun k _ b => hs k (by omega)) (by rw [(hs 0 (by omega)).1]), ?_, h7.fr hz (fun k b => (hs k (by omega)).1) (hs 23 (by omega)).2, h8.fr hz (fun k b => (hs k (by omega)).1) (hs 28 (by omega)).2⟩
  unfold cTr
  rw [(hs 33 (by omega)).1]
  exact h6
theorem CRel.up {Γ : Nat → VC} {A : ZA} {α : AH} {n : Nat} (h : CRel Γ A α) : CRel Γ (zup A n) α := ⟨h.1, h.2.1, h.2.2.1, h.2.2.2.1, h.2.2.2.2.1.to rfl, h.2.2.2.2.2⟩
/-- a call of the class leaves the reference alone -/
theorem MRel.c {A : ZA} {α β : AH} (h : MRel A α) (hf : frC α β) : MRel A β := by
  have hmw := h.1
  have hN51 : 51 < hN α := (mw_i51 hmw).1
  have hs : ∀ k, mId k → same4 α β k := fun k hk => hf.2 k (by unfold mId at hk; omega) (Or.inl hk)
  obtain ⟨h1, h2, h3, h4, h5, t, h6, h7⟩ := h
  have e34 := (hs 34 (by unfold mId; omega)).2.1
  have e35 := (hs 35 (by unfold mId; omega)).2.1
  have e36 := (hs 36 (by unfold mId; omega)).2.1
  have e39 := (hs 39 (by unfold mId; omega)).2.1
  have e51 := (hs 51 (by unfold mId; omega)).2.1
  refine ⟨⟨fun q hq => ?_, fun q hq => ?_⟩, h2, ?_, ?_, ?_, t, h6, ?_⟩
  · have hm : mId q.1 := by
      have : ∀ q ∈ zMo, 34 ≤ q.1 ∧ q.1 < 52 := by decide
      exact this q hq
    exact hf.is (Or.inl hm) (h1.1 q hq)
  · have hm : mId q.1 := by
      have : ∀ q ∈ zMp, 34 ≤ q.1 ∧ q.1 < 52 := by decide
      exact this q hq
    rw [(hs q.1 hm).2.2.2]; exact h1.2 q hq
  · rw [e35]; exact h3
  · rw [e34, e36]; exact h4
  · rw [e34, e51]; exact h5
  · unfold mStamp
    rw [e34, e39]
    refine ⟨h7.1, h7.2.1, h7.2.2.1, fun r hr => ?_⟩
    rw [(hs r (by unfold mId; omega)).2.1]
    exact h7.2.2.2 r hr
