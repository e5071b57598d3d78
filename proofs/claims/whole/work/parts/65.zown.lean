section ZO1
/-- the works of W are done -/
def zrc (W q : Nat) : Bool := (!W.testBit 0 || decide (zg q 0 = 2)) && (!W.testBit 1 || decide (zg q 1 = 2)) && (!W.testBit 2 || decide (zg q 2 = 2))
def zownN (f : Nat → Nat → Nat) (pay : Nat → Nat) (W : Nat) : Nat → Nat → Nat
  | 0, q => if W ≠ 0 ∧ zrc W q = true then 1 else 0
  | n + 1, q => zsum (fun s => (if W = 0 then zoq (zd q s) * zpays pay (zd q s) (f (zd q s) s) else 0) + zownN f pay W n (zdw (zd q s) (f (zd q s) s))) q
def zown (f : Nat → Nat → Nat) (pay : Nat → Nat) (W q : Nat) : Nat := zownN f pay W (zla q) q
theorem zown_0 {f : Nat → Nat → Nat} {pay : Nat → Nat} {W q : Nat} (h : zla q = 0) : zown f pay W q = if W ≠ 0 ∧ zrc W q = true then 1 else 0 := by
  unfold zown; rw [h]; rfl
theorem zown_eq {f : Nat → Nat → Nat} {pay : Nat → Nat} {W q : Nat} (hf : zfok f) (hq : q < 5832) (hp : 0 < zla q) : zown f pay W q = zsum (fun s => (if W = 0 then zoq (zd q s) * zpays pay (zd q s) (f (zd q s) s) else 0) + zown f pay W (zdw (zd q s) (f (zd q s) s))) q := by
  obtain ⟨n, hn⟩ : ∃ n, zla q = n + 1 := ⟨zla q - 1, by omega⟩
  have e : zown f pay W q = zsum (fun s => (if W = 0 then zoq (zd q s) * zpays pay (zd q s) (f (zd q s) s) else 0) + zownN f pay W n (zdw (zd q s) (f (zd q s) s))) q := by unfold zown; rw [hn]; rfl
  rw [e]
  refine zsum_cg (fun s hs hps => ?_)
  have ok := zd_ok hq hs hps
  have ok2 := zdw_ok ok.2.1 (hf (zd q s) s)
  show _ + zownN f pay W n _ = _ + zownN f pay W (zla _) _
  rw [ok2.2.1, show zla (zd q s) = n by omega]
theorem zoq_0 {q : Nat} (h : zla q = 0) : zoq q = 1 := by
  have h0 : zl q 0 = 0 ∧ zl q 1 = 0 ∧ zl q 2 = 0 := by unfold zla at h; omega
  unfold zoq
  rw [h0.1, h0.2.1, h0.2.2]
  decide
theorem zown_le {f : Nat → Nat → Nat} {pay : Nat → Nat} {W : Nat} (hf : zfok f) : ∀ (n q : Nat), q < 5832 → zla q = n → zown f pay W q ≤ zoq q * (if W = 0 then zpl pay q else 1) := by
  intro n
  induction n with
  | zero =>
    intro q hq hn
    rw [zown_0 hn, zoq_0 hn]
    by_cases e : W = 0
    · rw [if_neg (fun z => z.1 e)]; omega
    · rw [if_neg e]; split <;> omega
  | succ n ih =>
    intro q hq hn
    rw [zown_eq hf hq (by omega), zoq_rec hq (by omega), ← zsum_mul]
    refine zsum_le (fun s hs hp => ?_)
    have ok := zd_ok hq hs hp
    have ok2 := zdw_ok ok.2.1 (hf (zd q s) s)
    have h := ih _ ok2.1 (by rw [ok2.2.1]; omega)
    rw [ok2.2.2] at h
    by_cases e : W = 0
    · simp only [if_pos e] at h ⊢
      rw [← zpl_d hq hs hp, ← zpl_w ok.2.1 (hf (zd q s) s), Nat.mul_add]
      omega
    · simp only [if_neg e] at h ⊢
      omega
theorem zown_lt {f : Nat → Nat → Nat} {pay : Nat → Nat} {W q : Nat} (hf : zfok f) (hp : ∀ k, k < 3 → pay k ≤ 99) (hq : q < 5832) : zown f pay W q ≤ 224756532 := by
  have h1 := zown_le (pay := pay) (W := W) hf _ q hq rfl
  have h2 := zoq_le hq
  have h3 : (if W = 0 then zpl pay q else 1) ≤ 297 := by
    split
    · exact zpl_le hp
    · omega
  exact Nat.le_trans h1 (Nat.le_trans (Nat.mul_le_mul h2 h3) (by decide))
theorem zown_w {f : Nat → Nat → Nat} {pay : Nat → Nat} : ∀ (n q : Nat), zownN f pay 0 n q = zworkN f pay n q := by
  intro n
  induction n with
  | zero => intro q; rfl
  | succ n ih =>
    intro q
    show zsum _ q = zsum _ q
    refine zsum_cg (fun s _ _ => ?_)
    rw [if_pos rfl, ih]
theorem zown_work {f : Nat → Nat → Nat} {pay : Nat → Nat} {q : Nat} : zown f pay 0 q = zwork f pay q := zown_w _ _
theorem zrc_7 {q : Nat} : (zrc 7 q = true) ↔ q % 27 = 26 := by
  have h0 := zg_le (q := q) (k := 0)
  have h1 := zg_le (q := q) (k := 1)
  have h2 := zg_le (q := q) (k := 2)
  have e0 : (7 : Nat).testBit 0 = true := by decide
  have e1 : (7 : Nat).testBit 1 = true := by decide
  have e2 : (7 : Nat).testBit 2 = true := by decide
  unfold zrc
  rw [e0, e1, e2]
  simp [zg]
  omega
theorem zown_a {f : Nat → Nat → Nat} {pay : Nat → Nat} : ∀ (n q : Nat), zownN f pay 7 n q = zallN f n q := by
  intro n
  induction n with
  | zero =>
    intro q
    show (if (7 : Nat) ≠ 0 ∧ zrc 7 q = true then 1 else 0) = (if q % 27 = 26 then 1 else 0)
    by_cases e : q % 27 = 26
    · rw [if_pos e, if_pos ⟨by decide, zrc_7.mpr e⟩]
    · rw [if_neg e, if_neg (fun z => e (zrc_7.mp z.2))]
  | succ n ih =>
    intro q
    show zsum _ q = zsum _ q
    refine zsum_cg (fun s _ _ => ?_)
    rw [if_neg (by decide), ih, Nat.zero_add]
theorem zown_all {f : Nat → Nat → Nat} {pay : Nat → Nat} {q : Nat} : zown f pay 7 q = zall f q := zown_a _ _
/-- one who does work k alone -/
def zlon (cn : ZCn) (k q s : Nat) : Nat := if zcan cn q s k = true then k else 3
theorem zlon_ok {cn : ZCn} {k : Nat} (hk : k < 3) : zfok (zlon cn k) := fun q s => by
  unfold zlon
  split
  · rename_i h; exact Or.inr ⟨hk, zcan_g h⟩
  · exact Or.inl rfl
theorem zrc_k {k q : Nat} (hk : k < 3) : zrc (2 ^ k) q = decide (zg q k = 2) := by
  unfold zrc
  rcases s3 hk with rfl | rfl | rfl <;> simp [Nat.testBit] 
theorem zlon_x {cn : ZCn} {k q s : Nat} (hk : k < 3) : zdw (zd q s) (zlon cn k (zd q s) s) = znx cn k q s := by
  unfold zdw zlon znx
  by_cases h : zcan cn (zd q s) s k = true
  · rw [if_pos h, if_pos h, if_neg (by omega)]
  · rw [if_neg h, if_neg h, if_pos rfl]
theorem zown_is {cn : ZCn} {pay : Nat → Nat} {k : Nat} (hk : k < 3) : ∀ (n q : Nat), q < 5832 → zla q = n → (zown (zlon cn k) pay (2 ^ k) q = zoq q ↔ zis cn k q = true) := by
  have hW : ¬ 2 ^ k = 0 := Nat.pos_iff_ne_zero.mp (Nat.two_pow_pos k)
  intro n
  induction n with
  | zero =>
    intro q hq hn
    rw [zown_0 hn, zoq_0 hn, zrc_k hk]
    unfold zis
    rw [hn]
    show _ ↔ decide (zg q k = 2) = true
    by_cases e : zg q k = 2
    · simp [e]
    · simp [e]
  | succ n ih =>
    intro q hq hn
    have le : ∀ s, s < 3 → 0 < zl q s → zown (zlon cn k) pay (2 ^ k) (znx cn k q s) ≤ zoq (zd q s) ∧ (zown (zlon cn k) pay (2 ^ k) (znx cn k q s) = zoq (zd q s) ↔ zis cn k (znx cn k q s) = true) := by
      intro s hs hp
      have ok := zd_ok hq hs hp
      have ok2 := zdw_ok ok.2.1 (zlon_ok (cn := cn) hk (zd q s) s)
      rw [zlon_x hk] at ok2
      have h1 := zown_le (pay := pay) (W := 2 ^ k) (zlon_ok (cn := cn) hk) _ (znx cn k q s) ok2.1 rfl
      rw [if_neg hW, Nat.mul_one, ok2.2.2] at h1
      have h2 := ih (znx cn k q s) ok2.1 (by rw [ok2.2.1]; omega)
      rw [ok2.2.2] at h2
      exact ⟨h1, h2⟩
    rw [zown_eq (zlon_ok hk) hq (by omega), zoq_rec hq (by omega)]
    simp only [if_neg hW, Nat.zero_add, zlon_x hk]
    have key : zsum (fun s => zown (zlon cn k) pay (2 ^ k) (znx cn k q s)) q = zsum (fun s => zoq (zd q s)) q ↔ ∀ s, s < 3 → 0 < zl q s → zis cn k (znx cn k q s) = true := by
      constructor
      · intro h s hs hp
        refine (le s hs hp).2.mp ?_
        have t : ∀ s, s < 3 → (if 0 < zl q s then zown (zlon cn k) pay (2 ^ k) (znx cn k q s) else 0) ≤ (if 0 < zl q s then zoq (zd q s) else 0) := fun s hs => by
          by_cases hc : 0 < zl q s
          · rw [if_pos hc, if_pos hc]; exact (le s hs hc).1
          · rw [if_neg hc, if_neg hc]; exact Nat.le_refl _
        have t0 := t 0 (by omega)
        have t1 := t 1 (by omega)
        have t2 := t 2 (by omega)
        unfold zsum at h
        dsimp only at h
        rcases s3 hs with rfl | rfl | rfl
        · have : (if 0 < zl q 0 then zown (zlon cn k) pay (2 ^ k) (znx cn k q 0) else 0) = (if 0 < zl q 0 then zoq (zd q 0) else 0) := by omega
          rw [if_pos hp, if_pos hp] at this; exact this
        · have : (if 0 < zl q 1 then zown (zlon cn k) pay (2 ^ k) (znx cn k q 1) else 0) = (if 0 < zl q 1 then zoq (zd q 1) else 0) := by omega
          rw [if_pos hp, if_pos hp] at this; exact this
        · have : (if 0 < zl q 2 then zown (zlon cn k) pay (2 ^ k) (znx cn k q 2) else 0) = (if 0 < zl q 2 then zoq (zd q 2) else 0) := by omega
          rw [if_pos hp, if_pos hp] at this; exact this
      · intro h
        exact zsum_cg (fun s hs hp => (le s hs hp).2.mpr (h s hs hp))
    rw [key]
    by_cases e : zg q k = 2
    · rw [zis_2 e]
      refine ⟨fun _ => rfl, fun _ s hs hp => zis_2 ?_⟩
      have ok := zd_ok hq hs hp
      have e2 : zg (zd q s) k = 2 := by rw [ok.2.2.2.2]; exact e
      unfold znx
      rw [if_neg (by unfold zcan; rw [if_pos e2]; decide)]
      exact e2
    · rw [zis_eq hq hk e, decide_eq_true (show 0 < zla q by omega), Bool.true_and]
      show _ ↔ (((true && (decide (zl q 0 = 0) || zis cn k (znx cn k q 0))) && (decide (zl q 1 = 0) || zis cn k (znx cn k q 1))) && (decide (zl q 2 = 0) || zis cn k (znx cn k q 2))) = true
      simp only [Bool.true_and, Bool.and_eq_true, Bool.or_eq_true, decide_eq_true_eq]
      constructor
      · intro h
        refine ⟨⟨?_, ?_⟩, ?_⟩
        · by_cases z : zl q 0 = 0
          · exact Or.inl z
          · exact Or.inr (h 0 (by omega) (by omega))
        · by_cases z : zl q 1 = 0
          · exact Or.inl z
          · exact Or.inr (h 1 (by omega) (by omega))
        · by_cases z : zl q 2 = 0
          · exact Or.inl z
          · exact Or.inr (h 2 (by omega) (by omega))
      · rintro ⟨⟨h0, h1⟩, h2⟩ s hs hp
        rcases s3 hs with rfl | rfl | rfl
        · exact h0.elim (fun z => by omega) id
        · exact h1.elim (fun z => by omega) id
        · exact h2.elim (fun z => by omega) id
/-- barred: the best sums of the class are the reference's -/
theorem zmx_on {B : Nat → Nat} {cn : ZCn} {pay : Nat → Nat} {q s : Nat} : zmx B zoq cn pay q s 3 = (zOn B cn pay q s).1 := by
  have e : ∀ (k : Nat) (p : Nat × Nat), max p.1 (if zcan cn q s k = true then zoq q * zpays pay q k + B (zdo q k) else 0) = (zstp B cn pay q s k p).1 := fun k p => by
    unfold zstp
    by_cases hc : zcan cn q s k = true
    · rw [if_pos hc, if_pos hc]
      show max p.1 (zval B pay q k) = _
      by_cases hv : p.1 < zval B pay q k
      · rw [if_pos hv]; show max _ _ = zval B pay q k; omega
      · rw [if_neg hv]; omega
    · rw [if_neg hc, if_neg hc]; omega
  show max (max (max (B q) _) _) _ = _
  unfold zOn
  rw [← e, ← e, ← e]
theorem zbest_cn {cn cn' : ZCn} {pay : Nat → Nat} {P : Nat → Prop} (hP : ∀ q s, q < 5832 → s < 3 → 0 < zl q s → P q → P (zd q s)) (hP2 : ∀ q k, q < 5832 → k < 3 → zg q k < 2 → P q → P (zdo q k)) (h : ∀ q s k, q < 5832 → s < 3 → 0 < zl q s → k < 3 → P q → zcan cn (zd q s) s k = zcan cn' (zd q s) s k) : ∀ (n q : Nat), q < 5832 → zla q = n → P q → zbest cn pay q = zbest cn' pay q := by
  intro n
  induction n with
  | zero =>
    intro q hq hn _
    unfold zbest
    rw [hn]; rfl
  | succ n ih =>
    intro q hq hn hp
    rw [zbest_eq hq, zbest_eq hq]
    refine zsum_cg (fun s hs hps => ?_)
    have ok := zd_ok hq hs hps
    have e : ∀ k p, k < 3 → zstp (zbest cn pay) cn pay (zd q s) s k p = zstp (zbest cn' pay) cn' pay (zd q s) s k p := fun k p hk => by
      unfold zstp
      rw [← h q s k hq hs hps hk hp]
      by_cases hc : zcan cn (zd q s) s k = true
      · rw [if_pos hc, if_pos hc]
        unfold zval
        rw [ih _ (zdo_ok ok.2.1 hk (zcan_g hc)).1 (by rw [zdo_la ok.2.1 hk (zcan_g hc)]; omega) (hP2 _ _ ok.2.1 hk (zcan_g hc) (hP q s hq hs hps hp))]
      · rw [if_neg hc, if_neg hc]
    unfold zOn
    rw [ih _ ok.2.1 (by omega) (hP q s hq hs hps hp), e 0 _ (by omega), e 1 _ (by omega), e 2 _ (by omega)]
theorem zbc_x {cn : ZCn} {x c q s k : Nat} (hs : s < 3) (hx : x < 3) (hc : c ≤ 5) (hq : zl q s ≤ 5) (h : s ≠ x ∨ zl q s ≠ c) : zcan (zbc (nI x) (nI c) cn) q s k = zcan cn q s k := by
  have hn : ¬ (nI s = nI x ∧ nI (zl q s) = nI c) := fun z => by
    have e1 : s = x := (nI_eq (by omega) (by omega)).mp z.1
    have e2 : zl q s = c := (nI_eq (by omega) (by omega)).mp z.2
    omega
  have e : ∀ g, zbc (nI x) (nI c) cn s (zla q) (zl q s) g k = cn s (zla q) (zl q s) g k := fun g => (zbc_at hs).trans (if_neg hn)
  unfold zcan
  rw [e]
theorem zbc_b {cn : ZCn} {x c q k : Nat} (hx : x < 3) (h : zl q x = c) : zcan (zbc (nI x) (nI c) cn) q x k = false := by
  have e : ∀ g, zbc (nI x) (nI c) cn x (zla q) (zl q x) g k = false := fun g => (zbc_at hx).trans (if_pos ⟨rfl, by rw [h]⟩)
  unfold zcan
  rw [e]
  split <;> rfl
theorem zbr_bar {cn : ZCn} {pay : Nat → Nat} {x c : Nat} (hx : x < 3) (hc : 0 < c) (hc5 : c ≤ 5) : ∀ (n q : Nat), q < 5832 → zla q = n → zl q x = c → zbr cn pay x q = zbest (zbc (nI x) (nI (c - 1)) cn) pay q := by
  intro n
  have low : ∀ q, q < 5832 → zl q x < c → zbest cn pay q = zbest (zbc (nI x) (nI (c - 1)) cn) pay q := by
    intro q hq hl
    refine zbest_cn (P := fun q => zl q x < c) ?_ ?_ ?_ _ q hq rfl hl
    · intro q s hq hs hps hp
      rw [(zd_ok hq hs hps).2.2.2.1 x hx]
      split
      · rename_i e; subst e; omega
      · exact hp
    · intro q k hq hk hg hp
      rw [(zdo_ok hq hk hg).2.1]; exact hp
    · intro q s k hq hs hps hk hp
      have ok := zd_ok hq hs hps
      have h5 := zl_le (s := s) ok.2.1
      refine (zbc_x hs hx (by omega) h5 ?_).symm
      by_cases e : s = x
      · subst e
        refine Or.inr ?_
        rw [ok.2.2.2.1 s hs, if_pos rfl]
        omega
      · exact Or.inl e
  induction n with
  | zero =>
    intro q hq hn hl
    have := zl_zla (q := q) hx
    omega
  | succ n ih =>
    intro q hq hn hl
    rw [zbr_eq hq, zbest_eq hq]
    refine zsum_cg (fun s hs hps => ?_)
    have ok := zd_ok hq hs hps
    unfold zbrF
    by_cases e : s = x
    · subst e
      have hl2 : zl (zd q s) s = c - 1 := by rw [ok.2.2.2.1 s hs, if_pos rfl]; omega
      rw [if_pos rfl, low _ ok.2.1 (by omega)]
      unfold zOn zstp
      rw [zbc_b hs hl2, zbc_b hs hl2, zbc_b hs hl2]
      rfl
    · have hl2 : zl (zd q s) x = c := by rw [ok.2.2.2.1 x hx, if_neg (fun z => e z.symm)]; exact hl
      rw [if_neg e, zmx_on]
      have h5 := zl_le (s := s) ok.2.1
      have e3 : ∀ k p, k < 3 → zstp (zbr cn pay x) cn pay (zd q s) s k p = zstp (zbest (zbc (nI x) (nI (c - 1)) cn) pay) (zbc (nI x) (nI (c - 1)) cn) pay (zd q s) s k p := fun k p hk => by
        unfold zstp
        rw [zbc_x (k := k) hs hx (by omega) h5 (Or.inl e)]
        by_cases hcn : zcan cn (zd q s) s k = true
        · rw [if_pos hcn, if_pos hcn]
          unfold zval
          have ok2 := zdo_ok ok.2.1 hk (zcan_g hcn)
          rw [ih _ ok2.1 (by rw [zdo_la ok.2.1 hk (zcan_g hcn)]; omega) (by rw [ok2.2.1]; exact hl2)]
        · rw [if_neg hcn, if_neg hcn]
      unfold zOn
      rw [ih _ ok.2.1 (by omega) hl2, e3 0 _ (by omega), e3 1 _ (by omega), e3 2 _ (by omega)]
end ZO1
