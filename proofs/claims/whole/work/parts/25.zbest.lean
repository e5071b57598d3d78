/-! what can be done on a day, and what a BEST one makes: the numbers that both sides come to -/
abbrev ZCn : Type := Nat → Nat → Nat → Nat → Nat → Bool
/-- sort, rest, left, stage, work -/
def zcn (S : ZS) (T : Nat) : ZCn := fun s l r g k => if S.1 4 = 0 then false else S.2 (S.1 4 - 1) s g l r (T - l - 1) k
def zcan (cn : ZCn) (q s k : Nat) : Bool := if zg q k = 2 then false else cn s (zla q) (zl q s) (zg q k) k
def zval (B : Nat → Nat) (pay : Nat → Nat) (q k : Nat) : Nat := zoq q * zpays pay q k + B (zdo q k)
def zstp (B : Nat → Nat) (cn : ZCn) (pay : Nat → Nat) (q s k : Nat) (p : Nat × Nat) : Nat × Nat := if zcan cn q s k then (if p.1 < zval B pay q k then (zval B pay q k, k) else p) else p
/-- the most and which work, 3 for none, on a day of sort s that was drawn -/
def zOn (B : Nat → Nat) (cn : ZCn) (pay : Nat → Nat) (q s : Nat) : Nat × Nat := zstp B cn pay q s 2 (zstp B cn pay q s 1 (zstp B cn pay q s 0 (B q, 3)))
def zsum (f : Nat → Nat) (q : Nat) : Nat := (if 0 < zl q 0 then f 0 else 0) + (if 0 < zl q 1 then f 1 else 0) + (if 0 < zl q 2 then f 2 else 0)
def zbestN (cn : ZCn) (pay : Nat → Nat) : Nat → Nat → Nat
  | 0, _ => 0
  | n + 1, q => zsum (fun s => (zOn (zbestN cn pay n) cn pay (zd q s) s).1) q
def zbest (cn : ZCn) (pay : Nat → Nat) (q : Nat) : Nat := zbestN cn pay (zla q) q
theorem zcan_g {cn : ZCn} {q s k : Nat} (h : zcan cn q s k = true) : zg q k < 2 := by
  have := zg_le (q := q) (k := k)
  by_cases e : zg q k = 2
  · unfold zcan at h; rw [if_pos e] at h; cases h
  · omega
theorem zstp_cg {B B' : Nat → Nat} {cn : ZCn} {pay : Nat → Nat} {q s k : Nat} {p : Nat × Nat} (h : zcan cn q s k = true → B (zdo q k) = B' (zdo q k)) : zstp B cn pay q s k p = zstp B' cn pay q s k p := by
  unfold zstp
  by_cases hc : zcan cn q s k = true
  · rw [if_pos hc, if_pos hc]; unfold zval; rw [h hc]
  · rw [if_neg hc, if_neg hc]
theorem zOn_cg {B B' : Nat → Nat} {cn : ZCn} {pay : Nat → Nat} {q s : Nat} (h0 : B q = B' q) (h : ∀ k, k < 3 → zcan cn q s k = true → B (zdo q k) = B' (zdo q k)) : zOn B cn pay q s = zOn B' cn pay q s := by
  unfold zOn
  rw [h0, zstp_cg (h 0 (by omega)), zstp_cg (h 1 (by omega)), zstp_cg (h 2 (by omega))]
theorem zsum_cg {f g : Nat → Nat} {q : Nat} (h : ∀ s, s < 3 → 0 < zl q s → f s = g s) : zsum f q = zsum g q := by
  unfold zsum
  have e : ∀ s, s < 3 → (if 0 < zl q s then f s else 0) = (if 0 < zl q s then g s else 0) := fun s hs => by
    by_cases hc : 0 < zl q s
    · rw [if_pos hc, if_pos hc, h s hs hc]
    · rw [if_neg hc, if_neg hc]
  rw [e 0 (by omega), e 1 (by omega), e 2 (by omega)]
theorem zbestN_eq {cn : ZCn} {pay : Nat → Nat} {n q : Nat} (hq : q < 5832) (hn : zla q = n) : zbestN cn pay n q = zbest cn pay q := by unfold zbest; rw [hn]
theorem zbest_eq {cn : ZCn} {pay : Nat → Nat} {q : Nat} (hq : q < 5832) : zbest cn pay q = zsum (fun s => (zOn (zbest cn pay) cn pay (zd q s) s).1) q := by
  cases hn : zla q with
  | zero =>
    have h0 : zl q 0 = 0 ∧ zl q 1 = 0 ∧ zl q 2 = 0 := by unfold zla at hn; omega
    unfold zbest zsum
    rw [hn, h0.1, h0.2.1, h0.2.2]
    rfl
  | succ n =>
    unfold zbest
    rw [hn]
    show zsum (fun s => (zOn (zbestN cn pay n) cn pay (zd q s) s).1) q = _
    refine zsum_cg (fun s hs hp => ?_)
    have ok := zd_ok hq hs hp
    have hla : zla (zd q s) = n := by omega
    show (zOn (zbestN cn pay n) cn pay (zd q s) s).1 = (zOn (zbest cn pay) cn pay (zd q s) s).1
    rw [zOn_cg (zbestN_eq ok.2.1 hla) (fun k hk hc => zbestN_eq (zdo_ok ok.2.1 hk (zcan_g hc)).1 (by rw [zdo_la ok.2.1 hk (zcan_g hc)]; exact hla))]
/-- what is still to be paid -/
def zpl (pay : Nat → Nat) (q : Nat) : Nat := (if zg q 0 = 2 then 0 else pay 0) + (if zg q 1 = 2 then 0 else pay 1) + (if zg q 2 = 2 then 0 else pay 2)
theorem zord_le : ∀ a, a < 6 → ∀ b, b < 6 → ∀ c, c < 6 → zord a b c ≤ 756756 := by decide +kernel
theorem zord_rec : ∀ a, a < 6 → ∀ b, b < 6 → ∀ c, c < 6 → 0 < a + b + c → zord a b c = (if 0 < a then zord (a - 1) b c else 0) + (if 0 < b then zord a (b - 1) c else 0) + (if 0 < c then zord a b (c - 1) else 0) := by decide +kernel
theorem zord_pos : ∀ a, a < 6 → ∀ b, b < 6 → ∀ c, c < 6 → 0 < zord a b c := by decide +kernel
theorem zoq_le {q : Nat} (hq : q < 5832) : zoq q ≤ 756756 := zord_le _ (by have := zl_le (s := 0) hq; omega) _ (by have := zl_le (s := 1) hq; omega) _ (by have := zl_le (s := 2) hq; omega)
theorem zoq_pos {q : Nat} (hq : q < 5832) : 0 < zoq q := zord_pos _ (by have := zl_le (s := 0) hq; omega) _ (by have := zl_le (s := 1) hq; omega) _ (by have := zl_le (s := 2) hq; omega)
theorem zoq_rec {q : Nat} (hq : q < 5832) (h0 : 0 < zla q) : zoq q = zsum (fun s => zoq (zd q s)) q := by
  have a := zl_le (s := 0) hq
  have b := zl_le (s := 1) hq
  have c := zl_le (s := 2) hq
  unfold zoq zsum
  rw [zord_rec _ (by omega) _ (by omega) _ (by omega) h0]
  have e : ∀ s, s < 3 → 0 < zl q s → (zl (zd q s) 0 = (if 0 = s then zl q s - 1 else zl q 0) ∧ zl (zd q s) 1 = (if 1 = s then zl q s - 1 else zl q 1) ∧ zl (zd q s) 2 = (if 2 = s then zl q s - 1 else zl q 2)) := fun s hs hp => ⟨(zd_ok hq hs hp).2.2.2.1 0 (by omega), (zd_ok hq hs hp).2.2.2.1 1 (by omega), (zd_ok hq hs hp).2.2.2.1 2 (by omega)⟩
  have t0 : (if 0 < zl q 0 then zord (zl q 0 - 1) (zl q 1) (zl q 2) else 0) = (if 0 < zl q 0 then zord (zl (zd q 0) 0) (zl (zd q 0) 1) (zl (zd q 0) 2) else 0) := by
    by_cases h : 0 < zl q 0
    · obtain ⟨e0, e1, e2⟩ := e 0 (by omega) h
      rw [if_pos h, if_pos h, e0, e1, e2]; rfl
    · rw [if_neg h, if_neg h]
  have t1 : (if 0 < zl q 1 then zord (zl q 0) (zl q 1 - 1) (zl q 2) else 0) = (if 0 < zl q 1 then zord (zl (zd q 1) 0) (zl (zd q 1) 1) (zl (zd q 1) 2) else 0) := by
    by_cases h : 0 < zl q 1
    · obtain ⟨e0, e1, e2⟩ := e 1 (by omega) h
      rw [if_pos h, if_pos h, e0, e1, e2]; rfl
    · rw [if_neg h, if_neg h]
  have t2 : (if 0 < zl q 2 then zord (zl q 0) (zl q 1) (zl q 2 - 1) else 0) = (if 0 < zl q 2 then zord (zl (zd q 2) 0) (zl (zd q 2) 1) (zl (zd q 2) 2) else 0) := by
    by_cases h : 0 < zl q 2
    · obtain ⟨e0, e1, e2⟩ := e 2 (by omega) h
      rw [if_pos h, if_pos h, e0, e1, e2]; rfl
    · rw [if_neg h, if_neg h]
  rw [t0, t1, t2]
theorem zpl_done {pay : Nat → Nat} {q k : Nat} (hq : q < 5832) (hk : k < 3) (hg : zg q k < 2) : zpays pay q k + zpl pay (zdo q k) = zpl pay q := by
  have ok := (zdo_ok hq hk hg).2.2
  unfold zpl
  rw [ok 0 (by omega), ok 1 (by omega), ok 2 (by omega)]
  unfold zpays
  rw [if_neg (by omega)]
  have g : zg q k = 0 ∨ zg q k = 1 := by omega
  rcases s3 hk with rfl | rfl | rfl <;> rcases g with g | g <;> simp [g] <;> omega
theorem zpl_d {pay : Nat → Nat} {q s : Nat} (hq : q < 5832) (hs : s < 3) (hp : 0 < zl q s) : zpl pay (zd q s) = zpl pay q := by
  have ok := (zd_ok hq hs hp).2.2.2.2
  unfold zpl
  rw [ok, ok, ok]
theorem zstp_le {B : Nat → Nat} {cn : ZCn} {pay : Nat → Nat} {q s k b : Nat} {p : Nat × Nat} (h : p.1 ≤ b) (hv : zcan cn q s k = true → zval B pay q k ≤ b) : (zstp B cn pay q s k p).1 ≤ b := by
  unfold zstp
  split
  · rename_i hc
    split
    · exact hv hc
    · exact h
  · exact h
theorem zOn_le {B : Nat → Nat} {cn : ZCn} {pay : Nat → Nat} {q s b : Nat} (h : B q ≤ b) (hv : ∀ k, k < 3 → zcan cn q s k = true → zval B pay q k ≤ b) : (zOn B cn pay q s).1 ≤ b := zstp_le (zstp_le (zstp_le h (hv 0 (by omega))) (hv 1 (by omega))) (hv 2 (by omega))
theorem zsum_le {f g : Nat → Nat} {q : Nat} (h : ∀ s, s < 3 → 0 < zl q s → f s ≤ g s) : zsum f q ≤ zsum g q := by
  unfold zsum
  have e : ∀ s, s < 3 → (if 0 < zl q s then f s else 0) ≤ (if 0 < zl q s then g s else 0) := fun s hs => by
    by_cases hc : 0 < zl q s
    · rw [if_pos hc, if_pos hc]; exact h s hs hc
    · rw [if_neg hc, if_neg hc]; exact Nat.le_refl _
  have a := e 0 (by omega)
  have b := e 1 (by omega)
  have c := e 2 (by omega)
  omega
theorem zsum_mul {f : Nat → Nat} {q c : Nat} : zsum (fun s => f s * c) q = zsum f q * c := by
  unfold zsum
  have e : ∀ s, (if 0 < zl q s then f s * c else 0) = (if 0 < zl q s then f s else 0) * c := fun s => by split <;> simp
  rw [e, e, e, Nat.add_mul, Nat.add_mul]
theorem zbest_le {cn : ZCn} {pay : Nat → Nat} : ∀ (n q : Nat), q < 5832 → zla q = n → zbest cn pay q ≤ zoq q * zpl pay q := by
  intro n
  induction n with
  | zero =>
    intro q hq hn
    rw [zbest_eq hq]
    have h0 : zl q 0 = 0 ∧ zl q 1 = 0 ∧ zl q 2 = 0 := by unfold zla at hn; omega
    unfold zsum
    rw [h0.1, h0.2.1, h0.2.2]
    simp
  | succ n ih =>
    intro q hq hn
    rw [zbest_eq hq, zoq_rec hq (by omega), ← zsum_mul]
    refine zsum_le (fun s hs hp => ?_)
    have ok := zd_ok hq hs hp
    have hla : zla (zd q s) = n := by omega
    rw [← zpl_d hq hs hp]
    refine zOn_le (ih _ ok.2.1 hla) (fun k hk hc => ?_)
    have hg := zcan_g hc
    have ok2 := zdo_ok ok.2.1 hk hg
    have h2 := ih (zdo (zd q s) k) ok2.1 (by rw [zdo_la ok.2.1 hk hg]; exact hla)
    unfold zval
    have e : zoq (zdo (zd q s) k) = zoq (zd q s) := by unfold zoq; rw [ok2.2.1, ok2.2.1, ok2.2.1]
    rw [e] at h2
    rw [← zpl_done ok.2.1 hk hg, Nat.mul_add]
    omega
theorem zbest_lt {cn : ZCn} {pay : Nat → Nat} (hp : ∀ k, k < 3 → pay k ≤ 99) {q : Nat} (hq : q < 5832) : zbest cn pay q ≤ 224756532 := by
  have h1 := zbest_le (cn := cn) (pay := pay) _ q hq rfl
  have h2 := zoq_le hq
  have h3 : zpl pay q ≤ 297 := by
    have a := hp 0 (by omega)
    have b := hp 1 (by omega)
    have c := hp 2 (by omega)
    unfold zpl
    split <;> split <;> split <;> omega
  exact Nat.le_trans h1 (Nat.le_trans (Nat.mul_le_mul h2 h3) (by decide))
theorem zval_lt {cn : ZCn} {pay : Nat → Nat} (hp : ∀ k, k < 3 → pay k ≤ 99) {q k : Nat} (hq : q < 5832) (hk : k < 3) (hg : zg q k < 2) : zval (zbest cn pay) pay q k ≤ 299675376 := by
  have h1 := zbest_lt (cn := cn) hp (zdo_ok hq hk hg).1
  have h2 := zoq_le hq
  have h3 : zpays pay q k ≤ 99 := by
    have := hp k hk
    unfold zpays
    split
    · omega
    · split <;> omega
  have h4 := Nat.mul_le_mul h2 h3
  unfold zval
  omega
