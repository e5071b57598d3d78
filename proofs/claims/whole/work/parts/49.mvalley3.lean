section MV4
variable {G : ZG} {d : Nat} {α β : AH} {post : Option Value → AH → Prop} {N a p o c : Nat} {f f0 : Nat → Int32} {w x y : Int32} {A : ZA}
theorem PS_k {k : Nat} (h4 : k ≠ 34) (h5 : k ≠ 35) : hI (PS (sI (sI α 34 4 x) 34 6 y) f p w o) k = hI α k := by
  have : hI (PS (sI (sI α 34 4 x) 34 6 y) f p w o) k = hI (sI (sI α 34 4 x) 34 6 y) k := by
    show (if k = 34 then _ else if k = 35 then f else _) = _
    rw [if_neg h4, if_neg h5]; rfl
  rw [this, sI_ne h4, sI_ne h4]
theorem PS_j {j : Nat} (h : j ≠ 4 ∧ j ≠ 5 ∧ j ≠ 6 ∧ j ≠ 7 ∧ j ≠ 8) : hI (PS (sI (sI α 34 4 x) 34 6 y) f p w o) 34 j = hI α 34 j := by
  have : hI (PS (sI (sI α 34 4 x) 34 6 y) f p w o) 34 j = hI (sI (sI α 34 4 x) 34 6 y) 34 j := by
    show (if j = 5 then nI p else if j = 7 then w else if j = 8 then nI o else _) = _
    rw [if_neg h.2.1, if_neg h.2.2.2.1, if_neg h.2.2.2.2]; rfl
  rw [this, hI_sI, if_neg (by omega), hI_sI, if_neg (by omega)]
theorem PS_fr : frI mId α (PS (sI (sI α 34 4 x) 34 6 y) f p w o) := ⟨rfl, rfl, rfl, fun k hk => ⟨PS_k (fun e => hk (by unfold mId; omega)) (fun e => hk (by unfold mId; omega)), rfl⟩⟩
theorem MRel.ps {σ : Nat → Nat} {V : Nat → ZSem} (hr : MRel A α) (hb : SB σ) (hrow : mRow f σ V) : MRel ((σ, V), A.2) (PS (sI (sI α 34 4 x) 34 6 y) f p w o) := by
  obtain ⟨hm, -, -, himg, htr, t, htb, ht⟩ := hr
  refine ⟨hm, hb, hrow, ?_, ?_, t, htb, ?_⟩
  · show match A.2.1 with
      | none => hI (PS (sI (sI α 34 4 x) 34 6 y) f p w o) 34 3 = 0
      | some q => hI (PS (sI (sI α 34 4 x) 34 6 y) f p w o) 34 3 = 1 ∧ SB q.1 ∧ mRow (hI (PS (sI (sI α 34 4 x) 34 6 y) f p w o) 36) q.1 q.2
    rw [PS_j (by omega), PS_k (by omega) (by omega)]
    exact himg
  · refine ⟨htr.1, ?_, ?_⟩
    · rw [PS_j (by omega)]; exact htr.2.1
    · rw [PS_k (by omega) (by omega)]; exact htr.2.2
  · refine ⟨ht.1, ?_, ?_, fun r hr => ?_⟩
    · rw [PS_j (by omega)]; exact ht.2.1
    · rw [PS_k (by omega) (by omega)]; exact ht.2.2.1
    · rw [PS_k (by omega) (by omega)]; exact ht.2.2.2 r hr
theorem mRun_cg2 {dy : Nat → Nat} {k b : Nat} {g : Nat → Int32} : ∀ n, (∀ j, j < n → f (b + j) = g (b + j)) → mRun dy k f b n = mRun dy k g b n
  | 0, _ => rfl
  | n + 1, h => by
    show mStep dy k (mRun dy k f b n) (f (b + n)) = mStep dy k (mRun dy k g b n) (g (b + n))
    rw [mRun_cg2 n (fun j hj => h j (by omega)), h n (by omega)]
theorem mVal.cg2 {g : Nat → Int32} {b m : Nat} {sem : ZSem} (h : mVal g b m sem) (e : ∀ j, j < m → f (192 + 140 * b + j) = g (192 + 140 * b + j)) : mVal f b m sem := fun dy k hk => by rw [mRun_cg2 m e]; exact h dy k hk
/-- the numbers behind a text that fails -/
def zJ (σ : Nat → Nat) (f : Nat → Int32) (a : Nat) : Nat → Nat := fun i => if (167 + 3 * a ≤ i ∧ i < 167 + 3 * a + 3) ∨ i = 182 + a ∨ i = 187 + a then (f i).toNatClampNeg else if i = 3 then 0 else σ i
theorem zJ_out {σ : Nat → Nat} {i : Nat} (h : ¬ ((167 + 3 * a ≤ i ∧ i < 167 + 3 * a + 3) ∨ i = 182 + a ∨ i = 187 + a)) : zJ σ f a i = if i = 3 then 0 else σ i := if_neg h
theorem zJ_in {σ : Nat → Nat} {i n : Nat} (h : (167 + 3 * a ≤ i ∧ i < 167 + 3 * a + 3) ∨ i = 182 + a ∨ i = 187 + a) (hf : f i = nI n) (hn : n ≤ 140) : zJ σ f a i = n := by
  unfold zJ
  rw [if_pos h, hf, nI_clamp (by omega)]
theorem mVJ.at (hj : mVJ f0 f a) {i : Nat} (h : (167 + 3 * a ≤ i ∧ i < 167 + 3 * a + 3) ∨ i = 182 + a ∨ i = 187 + a) : ∃ n, n ≤ (if i = 187 + a then 140 else 99) ∧ f i = nI n := by
  rcases h with h | h | h
  · obtain ⟨n, h1, h2⟩ := hj.1 (i - (167 + 3 * a)) (by omega)
    rw [show 167 + 3 * a + (i - (167 + 3 * a)) = i by omega] at h2
    exact ⟨n, by split <;> omega, h2⟩
  · obtain ⟨n, h1, h2⟩ := hj.2.1
    subst h
    exact ⟨n, by split <;> omega, h2⟩
  · obtain ⟨n, h1, h2⟩ := hj.2.2.1
    subst h
    exact ⟨n, by rw [if_pos rfl]; exact h1, h2⟩
theorem zbd_99 {i : Nat} (h1 : 167 ≤ i) (h2 : i < 187) : zbd i = 99 := by
  have := zbd_pay (j := i - 167) (by omega)
  rw [show 167 + (i - 167) = i by omega] at this
  exact this
theorem MRel.junk (hr : MRel A α) (ha : A.1.1 1 < 5) (hj : mVJ (u1 (hI α 35) 3 0) f (A.1.1 1)) : MRel ((zJ A.1.1 f (A.1.1 1), A.1.2), A.2) (PS (sI (sI α 34 4 x) 34 6 y) f p w o) := by
  have hb := hr.2.1
  have hrow := hr.2.2.1
  generalize hA : A.1.1 1 = a at *
  refine hr.ps ⟨fun i hi => ?_, ?_⟩ ⟨fun i hi h4 => ?_, ?_, fun b hb' => ?_⟩
  · by_cases h : (167 + 3 * a ≤ i ∧ i < 167 + 3 * a + 3) ∨ i = 182 + a ∨ i = 187 + a
    · obtain ⟨n, h1, h2⟩ := hj.at h
      rw [zJ_in h h2 (by split at h1 <;> omega)]
      by_cases e : i = 187 + a
      · rw [if_pos e] at h1
        have := zbd_many (j := a) ha
        rw [e, this]; exact h1
      · rw [if_neg e] at h1
        rw [zbd_99 (by omega) (by omega)]; exact h1
    · rw [zJ_out h]
      split
      · exact Nat.zero_le _
      · exact hb.1 i hi
  · rw [zJ_out (by omega), zJ_out (by omega), if_neg (by omega), if_neg (by omega)]; exact hb.2
  · by_cases h : (167 + 3 * a ≤ i ∧ i < 167 + 3 * a + 3) ∨ i = 182 + a ∨ i = 187 + a
    · obtain ⟨n, h1, h2⟩ := hj.at h
      rw [zJ_in h h2 (by split at h1 <;> omega)]; exact h2
    · rw [zJ_out h, hj.2.2.2 i (by unfold vIn; omega)]
      by_cases e : i = 3
      · rw [if_pos e, e, u1_s]; rfl
      · rw [if_neg e, u1_n e]; exact hrow.1 i hi h4
  · rw [hj.2.2.2 4 (by unfold vIn; omega), u1_n (by omega), zJ_out (by omega), if_neg (by omega)]; exact hrow.2.1
  · have hb' : b < a := by
      rw [zJ_out (by omega), if_neg (by omega), hA] at hb'
      exact hb'
    have bm : A.1.1 (187 + b) ≤ 140 := hb.at (by omega) (zbd_many (by omega))
    show mVal f b (zJ A.1.1 f a (187 + b)) (A.1.2 b)
    rw [zJ_out (by omega), if_neg (by omega)]
    refine (hrow.2.2 b (by omega)).cg2 (fun j hj' => ?_)
    rw [hj.2.2.2 _ (by unfold vIn; omega), u1_n (by omega)]
/-- the numbers behind a text that is read -/
def zV (σ : Nat → Nat) (a : Nat) (cl : List ZCl) : Nat → Nat := fun i => if i = 1 then a + 1 else if i = 3 then 0 else if i = 4 then a + 1 else if i = 182 + a then vCov cl else if i = 187 + a then (vOps cl).length else if 167 + 3 * a ≤ i ∧ i < 167 + 3 * a + 3 then vPay cl (i - (167 + 3 * a)) else σ i
theorem MRel.made {cl : List ZCl} (hr : MRel A α) (ha : A.1.1 1 < 5) (hc : ∀ q ∈ cl, clWo q) (hl : (vOps cl).length ≤ 140) (hR : mVR (u1 (hI α 35) 3 0) f (A.1.1 1) cl) : MRel ((zV A.1.1 (A.1.1 1) cl, u1 A.1.2 (A.1.1 1) (vSem cl)), A.2) (PS (sI (sI α 34 4 x) 34 6 y) (u1 (u1 f 1 (nI (A.1.1 1 + 1))) 4 (nI (A.1.1 1))) p w o) := by
  have hb := hr.2.1
  have hrow := hr.2.2.1
  generalize hA : A.1.1 1 = a at *
  have p1 : ∀ k, vPay cl k ≤ 99 := fun k => vPay_le cl 1 (by omega) (fun q hq => (hc q hq).1)
  have p2 : vCov cl ≤ 99 := vCov_le cl 0 (by omega) (fun q hq => (hc q hq).1)
  refine hr.ps ⟨fun i hi => ?_, ?_⟩ ⟨fun i hi h4 => ?_, ?_, fun b hb' => ?_⟩
  · unfold zV
    by_cases e1 : i = 1
    · rw [if_pos e1, e1]; show a + 1 ≤ 5; omega
    rw [if_neg e1]
    by_cases e3 : i = 3
    · rw [if_pos e3]; exact Nat.zero_le _
    rw [if_neg e3]
    by_cases e4 : i = 4
    · rw [if_pos e4, e4]; show a + 1 ≤ 5; omega
    rw [if_neg e4]
    by_cases e5 : i = 182 + a
    · rw [if_pos e5, zbd_99 (by omega) (by omega)]; exact p2
    rw [if_neg e5]
    by_cases e6 : i = 187 + a
    · rw [if_pos e6, e6, zbd_many (by omega)]; exact hl
    rw [if_neg e6]
    by_cases e7 : 167 + 3 * a ≤ i ∧ i < 167 + 3 * a + 3
    · rw [if_pos e7, zbd_99 (by omega) (by omega)]; exact p1 _
    rw [if_neg e7]; exact hb.1 i hi
  · show a + 1 ≤ a + 1; omega
  · unfold zV
    by_cases e1 : i = 1
    · rw [if_pos e1, e1, u1_n (by omega), u1_s]
    rw [if_neg e1, u1_n h4, u1_n e1]
    by_cases e3 : i = 3
    · rw [if_pos e3, e3, hR.2.2.2.2 3 (by unfold vIn; omega), u1_s]; rfl
    rw [if_neg e3, if_neg h4]
    by_cases e5 : i = 182 + a
    · rw [if_pos e5, e5]; exact hR.2.1
    rw [if_neg e5]
    by_cases e6 : i = 187 + a
    · rw [if_pos e6, e6]; exact hR.2.2.1
    rw [if_neg e6]
    by_cases e7 : 167 + 3 * a ≤ i ∧ i < 167 + 3 * a + 3
    · have := hR.1 (i - (167 + 3 * a)) (by omega)
      rw [show 167 + 3 * a + (i - (167 + 3 * a)) = i by omega] at this
      rw [if_pos e7]; exact this
    rw [if_neg e7, hR.2.2.2.2 i (by unfold vIn; omega), u1_n e3]; exact hrow.1 i hi h4
  · rw [u1_s]
    show nI a = nI (a + 1) - 1
    rw [nI_pred]
  · have hb' : b < a + 1 := hb'
    by_cases e : b = a
    · subst e
      have ez : zV A.1.1 b cl (187 + b) = (vOps cl).length := by
        unfold zV
        rw [if_neg (by omega), if_neg (by omega), if_neg (by omega), if_neg (by omega), if_pos rfl]
      rw [ez, u1_s]
      exact (hR.val hc).cg2 (fun j hj' => by rw [u1_n (by omega), u1_n (by omega)])
    · have bm : A.1.1 (187 + b) ≤ 140 := hb.at (by omega) (zbd_many (by omega))
      have ez : zV A.1.1 a cl (187 + b) = A.1.1 (187 + b) := by
        unfold zV
        rw [if_neg (by omega), if_neg (by omega), if_neg (by omega), if_neg (by omega), if_neg (by omega), if_neg (by omega)]
      rw [ez, u1_n e]
      exact (hrow.2.2 b (by omega)).cg2 (fun j hj' => by rw [u1_n (by omega), u1_n (by omega), hR.2.2.2.2 _ (by unfold vIn; omega), u1_n (by omega)])
/-- what a text on the tape says -/
def zText (S : ZS) : Bool × Nat × List ZCl := pText (fun i => S.1 (12 + i)) (S.1 3)
theorem c_mvalley (hr : MRel A α)
    (hfull : A.1.1 1 = 5 → post (some (.int (-4))) α)
    (hbad : ∀ g β, A.1.1 1 < 5 → ¬ ((zText A.1).1 = true ∧ (zText A.1).2.1 = A.1.1 3) → MRel ((zJ A.1.1 g (A.1.1 1), A.1.2), A.2) β → frI mId α β → post (some (.int (-10 - nI (zText A.1).2.1))) β)
    (hok : ∀ β, A.1.1 1 < 5 → (zText A.1).1 = true → (zText A.1).2.1 = A.1.1 3 → MRel ((zV A.1.1 (A.1.1 1) (zText A.1).2.2, u1 A.1.2 (A.1.1 1) (vSem (zText A.1).2.2)), A.2) β → frI mId α β → post (some (.int (nI (A.1.1 1)))) β) : ZK G (d + 26) mX12_valley [.ref (G.1 + 34)] α post :=
  c_mvalley0 hr hfull (fun f h5 hn hj => hbad f _ h5 hn (hr.junk h5 hj) PS_fr) (fun f h5 h1 h2 hc hl hR => hok _ h5 h1 h2 (hr.made h5 hc hl hR) PS_fr)
end MV4
