section MN2
variable {G : ZG} {d : Nat} {α β : AH} {post : Option Value → AH → Prop} {A : ZA}
/-- a whole number as a long -/
def lZ (z : Int) : Int64 := Int64.ofInt z
theorem lZ_nat (n : Nat) : lZ (n : Int) = lN n := by
  unfold lZ lN
  exact Int64.ofInt_eq_ofNat
theorem lZ_toInt {z : Int} (h1 : -2 ^ 62 < z) (h2 : z < 2 ^ 62) : (lZ z).toInt = z := Int64.toInt_ofInt_of_le (by omega) (by omega)
theorem lg_ge {x y : Int64} : 0 ≤ lg_cmp x y ↔ y ≤ x := by
  unfold lg_cmp
  by_cases h : x > y
  · rw [if_pos h]
    exact ⟨fun _ => by simp only [gt_iff_lt, Int64.lt_iff_toInt_lt, Int64.le_iff_toInt_le] at *; omega, fun _ => by decide⟩
  · rw [if_neg h]
    by_cases h2 : x = y
    · rw [if_pos h2]; subst h2
      exact ⟨fun _ => by simp only [Int64.le_iff_toInt_le]; omega, fun _ => by decide⟩
    · rw [if_neg h2]
      refine ⟨fun z => absurd z (by decide), fun z => ?_⟩
      exfalso
      apply h2
      apply Int64.toInt_inj.mp
      simp only [gt_iff_lt, Int64.lt_iff_toInt_lt, Int64.le_iff_toInt_le] at *
      omega
theorem lg_eq {x y : Int64} : lg_cmp x y = 0 ↔ x = y := by
  unfold lg_cmp
  by_cases h : x > y
  · rw [if_pos h]
    refine ⟨fun z => absurd z (by decide), fun z => ?_⟩
    subst z
    simp only [gt_iff_lt, Int64.lt_iff_toInt_lt] at h
    omega
  · rw [if_neg h]
    by_cases h2 : x = y
    · rw [if_pos h2]; exact ⟨fun _ => h2, fun _ => rfl⟩
    · rw [if_neg h2]
      exact ⟨fun z => absurd z (by decide), fun z => absurd z h2⟩
theorem lg_gt {x y : Int64} : lg_cmp x y ≤ 0 ↔ x ≤ y := by
  unfold lg_cmp
  by_cases h : x > y
  · rw [if_pos h]
    refine ⟨fun z => absurd z (by decide), fun z => ?_⟩
    simp only [gt_iff_lt, Int64.lt_iff_toInt_lt, Int64.le_iff_toInt_le] at *
    omega
  · rw [if_neg h]
    have : x ≤ y := by simp only [gt_iff_lt, Int64.lt_iff_toInt_lt, Int64.le_iff_toInt_le] at *; omega
    by_cases h2 : x = y
    · rw [if_pos h2]; exact ⟨fun _ => this, fun _ => by decide⟩
    · rw [if_neg h2]; exact ⟨fun _ => this, fun _ => by decide⟩
theorem lp_divisor {a b : Int64} : ∀ (y x : Nat), x < 2 ^ 62 → y < 2 ^ 62 → ∀ (r : Option Value), post (some (.long (lN (Nat.gcd x y)))) α → Z G mX12_divisor (d + 1) 17 [some (.long a), none, some (.long b), none, some (.long (lN x)), none, some (.long (lN y)), none, r, none] [] α (0, 0) post := by
  intro y
  induction y using Nat.strongRecOn with
  | ind y ih =>
    intro x hx hy r h
    refine Z_lload dX12_divisor_17 rfl ?_
    refine Z_lconst (v := 0) dX12_divisor_19 (by decide) ?_
    refine Z_lcmp dX12_divisor_20 ?_
    refine Z_if_eq (tgt := 42) dX12_divisor_21 (by decide) (fun h21 => ?_) (fun h21 => ?_)
    · skip
      have e : y = 0 := (pk_lEQ (b := 0) (by omega) (by omega)).mp (lg_eq.mp h21)
      subst e
      refine Z_lload dX12_divisor_42 rfl ?_
      refine Z_lret dX12_divisor_44 rfl ⟨by decide, by decide⟩ ?_
      rw [Nat.gcd_zero_right] at h; exact h
    · skip
      have e : 0 < y := Nat.pos_of_ne_zero (fun z => h21 (lg_eq.mpr (by rw [z]; rfl)))
      refine Z_lload dX12_divisor_24 rfl ?_
      refine Z_lload dX12_divisor_26 rfl ?_
      refine Z_lrem dX12_divisor_28 (fun z => h21 (lg_eq.mpr z)) ?_
      rw [pk_lRem (by omega) e (by omega)]
      refine Z_lstore (L' := [_, _, _, _, _, _, _, _, _, _]) dX12_divisor_29 (by decide) rfl rfl ?_
      refine Z_lload dX12_divisor_31 rfl ?_
      refine Z_lstore (L' := [_, _, _, _, _, _, _, _, _, _]) dX12_divisor_33 (by decide) rfl rfl ?_
      refine Z_lload dX12_divisor_35 rfl ?_
      refine Z_lstore (L' := [_, _, _, _, _, _, _, _, _, _]) dX12_divisor_37 (by decide) rfl rfl ?_
      refine Z_goto (tgt := 17) dX12_divisor_39 (by decide) ?_
      refine ih (x % y) (Nat.mod_lt x e) y hy (Nat.lt_trans (Nat.mod_lt x e) hy) _ ?_
      rw [Nat.gcd_comm, ← Nat.gcd_rec, Nat.gcd_comm]; exact h
theorem lZ_neg {z : Int} (h1 : -2 ^ 62 < z) (h2 : z < 2 ^ 62) (h : z < 0) : - lZ z = lN z.natAbs := by
  rw [← lZ_nat]
  unfold lZ
  rw [← Int64.ofInt_neg]
  congr 1
  omega
theorem lZ_pos {z : Int} (h : 0 ≤ z) : lZ z = lN z.natAbs := by
  rw [← lZ_nat]
  congr 1
  omega
theorem c_divisor {z : Int} {n : Nat} (z1 : -2 ^ 62 < z) (z2 : z < 2 ^ 62) (hn : n < 2 ^ 62) (h : post (some (.long (lN (Nat.gcd z.natAbs n)))) α) : ZK G (d + 1) mX12_divisor [.long (lZ z), .long (lN n)] α post := by
  refine ZK.of (n := 6) (by decide) (Nat.le_of_ble_eq_true rfl) rfl ?_
  have e0 : (0 : Int64).toInt = 0 := rfl
  refine Z_lload_n dX12_divisor_0 rfl rfl ?_
  refine Z_lconst (v := 0) dX12_divisor_1 (by decide) ?_
  refine Z_lcmp dX12_divisor_2 ?_
  refine Z_if_ge (tgt := 11) dX12_divisor_3 (by decide) (fun h3 => ?_) (fun h3 => ?_)
  · skip
    have e := lZ_pos (z := z) (by have := lg_ge.mp h3; simp only [Int64.le_iff_toInt_le, lZ_toInt z1 z2] at this; omega)
    refine Z_lload_n dX12_divisor_11 rfl rfl ?_
    refine Z_lstore (L' := [_, _, _, _, _, _, _, _, _, _]) dX12_divisor_12 (by decide) rfl rfl ?_
    refine Z_lload_n dX12_divisor_14 rfl rfl ?_
    refine Z_lstore (L' := [_, _, _, _, _, _, _, _, _, _]) dX12_divisor_15 (by decide) rfl rfl ?_
    rw [e]
    exact lp_divisor n z.natAbs (by omega) hn _ h
  · skip
    have e := lZ_neg z1 z2 (by have hq : ¬ (0 : Int64) ≤ lZ z := fun q => h3 (lg_ge.mpr q); simp only [Int64.le_iff_toInt_le, lZ_toInt z1 z2] at hq; omega)
    refine Z_lload_n dX12_divisor_6 rfl rfl ?_
    refine Z_lneg dX12_divisor_7 ?_
    refine Z_goto (tgt := 12) dX12_divisor_8 (by decide) ?_
    refine Z_lstore (L' := [_, _, _, _, _, _, _, _, _, _]) dX12_divisor_12 (by decide) rfl rfl ?_
    refine Z_lload_n dX12_divisor_14 rfl rfl ?_
    refine Z_lstore (L' := [_, _, _, _, _, _, _, _, _, _]) dX12_divisor_15 (by decide) rfl rfl ?_
    rw [e]
    exact lp_divisor n z.natAbs (by omega) hn _ h
def zlow (z : Int) (n : Nat) (part : Int32) : Int := (if part = 0 then z else n) / (Nat.gcd z.natAbs n : Int)
theorem lZ_div {z : Int} {g : Nat} (h1 : -2 ^ 62 < z) (h2 : z < 2 ^ 62) (hg : 0 < g) (hg2 : g < 2 ^ 62) (hd : (g : Int) ∣ z) : lZ z / lN g = lZ (z / g) := by
  obtain ⟨q, rfl⟩ := hd
  have hg' : (0 : Int) < g := by omega
  have hq : (g : Int) * q / g = q := Int.mul_ediv_cancel_left q (by omega)
  have hb : -2 ^ 62 < q ∧ q < 2 ^ 62 := by
    constructor
    · by_cases h : q < 0
      · have : (g : Int) * q ≤ 1 * q := Int.mul_le_mul_of_nonpos_right (by omega) (by omega)
        omega
      · omega
    · by_cases h : 0 < q
      · have : 1 * q ≤ (g : Int) * q := Int.mul_le_mul_of_nonneg_right (by omega) (by omega)
        omega
      · omega
  apply Int64.toInt_inj.mp
  rw [Int64.toInt_div, lZ_toInt h1 h2, pk_lT (by omega), hq, lZ_toInt hb.1 hb.2, Int.mul_tdiv_cancel_left q (by omega)]
  exact Int.bmod_eq_of_le (by omega) (by omega)
theorem c_lowest {z : Int} {n : Nat} {part : Int32} (z1 : -2 ^ 62 < z) (z2 : z < 2 ^ 62) (hn : n < 2 ^ 62) (h0 : 0 < n) (h : post (some (.long (lZ (zlow z n part)))) α) : ZK G (d + 2) mX12_lowest [.long (lZ z), .long (lN n), .int part] α post := by
  have hg : 0 < Nat.gcd z.natAbs n := Nat.gcd_pos_of_pos_right _ h0
  have hg2 : Nat.gcd z.natAbs n ≤ n := Nat.le_of_dvd h0 (Nat.gcd_dvd_right _ _)
  have hne : ¬ lN (Nat.gcd z.natAbs n) = 0 := fun q => absurd ((pk_lEQ (a := Nat.gcd z.natAbs n) (b := 0) (by omega) (by omega)).mp q) (by omega)
  refine ZK.of (n := 0) (by decide) (Nat.le_of_ble_eq_true rfl) rfl ?_
  refine Z_iload dX12_lowest_0 rfl ?_
  refine Z_if_ne (tgt := 9) dX12_lowest_2 (by decide) (fun h2 => ?_) (fun h2 => ?_)
  · skip
    have k : lN n / lN (Nat.gcd z.natAbs n) = lZ (zlow z n part) := by
      rw [← lZ_nat n, lZ_div (by omega) (by omega) hg (by omega) (Int.natCast_dvd_natCast.mpr (Nat.gcd_dvd_right _ _))]
      unfold zlow
      rw [if_neg h2]
    refine Z_lload_n dX12_lowest_9 rfl rfl ?_
    refine Z_lload_n dX12_lowest_10 rfl rfl ?_
    refine Z_lload_n dX12_lowest_11 rfl rfl ?_
    refine Z_S2z dX12_lowest_12 to_X12_divisor lk_X12_255 sc_X12_divisor (Nat.le_of_ble_eq_true rfl) ⟨rfl, rfl⟩ ⟨by decide, by decide⟩ ?_
    refine c_divisor z1 z2 hn ?_
    refine Z_ldiv dX12_lowest_15 hne ?_
    refine Z_lret dX12_lowest_16 rfl ⟨by decide, by decide⟩ ?_
    rw [k]; exact h
  · skip
    have k : lZ z / lN (Nat.gcd z.natAbs n) = lZ (zlow z n part) := by
      rw [lZ_div z1 z2 hg (by omega) (Int.dvd_natAbs.mp (Int.natCast_dvd_natCast.mpr (Nat.gcd_dvd_left _ _)))]
      unfold zlow
      rw [if_pos h2]
    refine Z_lload_n dX12_lowest_5 rfl rfl ?_
    refine Z_goto (tgt := 10) dX12_lowest_6 (by decide) ?_
    refine Z_lload_n dX12_lowest_10 rfl rfl ?_
    refine Z_lload_n dX12_lowest_11 rfl rfl ?_
    refine Z_S2z dX12_lowest_12 to_X12_divisor lk_X12_255 sc_X12_divisor (Nat.le_of_ble_eq_true rfl) ⟨rfl, rfl⟩ ⟨by decide, by decide⟩ ?_
    refine c_divisor z1 z2 hn ?_
    refine Z_ldiv dX12_lowest_15 hne ?_
    refine Z_lret dX12_lowest_16 rfl ⟨by decide, by decide⟩ ?_
    rw [k]; exact h
end MN2
