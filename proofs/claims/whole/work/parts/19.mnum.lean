section MN1
variable {G : ZG} {d : Nat} {α β : AH} {post : Option Value → AH → Prop} {A : ZA}
/-- how many ways there are to take k of n (n up to 15) -/
def zPN : List Nat := [1, 1, 1, 1, 2, 1, 1, 3, 3, 1, 1, 4, 6, 4, 1, 1, 5, 10, 10, 5, 1, 1, 6, 15, 20, 15, 6, 1, 1, 7, 21, 35, 35, 21, 7, 1, 1, 8, 28, 56, 70, 56, 28, 8, 1, 1, 9, 36, 84, 126, 126, 84, 36, 9, 1, 1, 10, 45, 120, 210, 252, 210, 120, 45, 10, 1, 1, 11, 55, 165, 330, 462, 462, 330, 165, 55, 11, 1, 1, 12, 66, 220, 495, 792, 924, 792, 495, 220, 66, 12, 1, 1, 13, 78, 286, 715, 1287, 1716, 1716, 1287, 715, 286, 78, 13, 1, 1, 14, 91, 364, 1001, 2002, 3003, 3432, 3003, 2002, 1001, 364, 91, 14, 1, 1, 15, 105, 455, 1365, 3003, 5005, 6435, 6435, 5005, 3003, 1365, 455, 105, 15, 1]
def zch (n k : Nat) : Nat := if k ≤ n ∧ n ≤ 15 then zPN.getD (n * (n + 1) / 2 + k) 0 else 0
theorem zch_0 : ∀ n, n < 16 → zch n 0 = 1 := by decide +kernel
theorem zch_step : ∀ m, m < 16 → ∀ i, i < 16 → m + i + 1 ≤ 15 → zch (m + i) i * (m + (i + 1)) / (i + 1) = zch (m + (i + 1)) (i + 1) := by decide +kernel
theorem zch_le : ∀ n, n < 16 → ∀ k, k < 16 → zch n k ≤ 6435 := by decide +kernel
theorem zch_pos : ∀ n, n < 16 → ∀ k, k < 16 → k ≤ n → 0 < zch n k := by decide +kernel
theorem zch_le' (n k : Nat) : zch n k ≤ 6435 := by
  unfold zch
  split
  · rename_i h
    have := zch_le n (by omega) k (by omega)
    unfold zch at this
    rwa [if_pos h] at this
  · omega
def zchI (n : Nat) (k : Int32) : Nat := if k < 0 ∨ nI n < k then 0 else zch n k.toNatClampNeg
theorem lp_chooses {n k : Nat} (hn : n ≤ 15) (hk : k ≤ n) (h : post (some (.long (lN (zch n k)))) α) : ∀ (t i : Nat), i + t = k → Z G mX12_chooses (d + 1) 16 [some (.int (nI n)), some (.int (nI k)), some (.long (lN (zch (n - k + i) i))), none, some (.int (nI (i + 1)))] [] α (0, 0) post := by
  intro t
  induction t with
  | zero =>
    intro i hi
    have hi : i = k := by omega
    subst hi
    have e : n - i + i = n := by omega
    rw [e]
    refine Z_iload dX12_chooses_16 rfl ?_
    refine Z_iload_n dX12_chooses_18 rfl rfl ?_
    refine Z_icmp_gt (tgt := 42) dX12_chooses_19 (by decide) (fun h19 => ?_) (fun h19 => ?_)
    · skip
      refine Z_lload_n dX12_chooses_42 rfl rfl ?_
      refine Z_lret dX12_chooses_43 rfl ⟨by decide, by decide⟩ ?_
      exact h
    · skip
      exact absurd (nI_lt (a := i) (b := i + 1) (by omega) (by omega)) h19
  | succ t ih =>
    intro i hi
    have b := zch_le' (n - k + i) i
    have e1 : nI n - nI k + nI (i + 1) = nI (n - k + (i + 1)) := by rw [pk_sub hk, nI_add]
    have e2 : lN (zch (n - k + i) i) * (nI n - nI k + nI (i + 1)).toInt64 / (nI (i + 1)).toInt64 = lN (zch (n - k + (i + 1)) (i + 1)) := by
      rw [e1, nI_l (by omega), nI_l (by omega), lN_mul, pk_lDiv (Nat.lt_of_le_of_lt (Nat.mul_le_mul b (show n - k + (i + 1) ≤ 16 by omega)) (by decide)) (by omega) (by omega), zch_step (n - k) (by omega) i (by omega) (by omega)]
    refine Z_iload dX12_chooses_16 rfl ?_
    refine Z_iload_n dX12_chooses_18 rfl rfl ?_
    refine Z_icmp_gt (tgt := 42) dX12_chooses_19 (by decide) (fun h19 => ?_) (fun h19 => ?_)
    · skip
      exact absurd h19 (fun z => absurd ((nI_ltI (a := k) (b := i + 1) (by omega) (by omega)).mp z) (by omega))
    · skip
      refine Z_lload_n dX12_chooses_22 rfl rfl ?_
      refine Z_iload_n dX12_chooses_23 rfl rfl ?_
      refine Z_iload_n dX12_chooses_24 rfl rfl ?_
      refine Z_isub dX12_chooses_25 ?_
      refine Z_iload dX12_chooses_26 rfl ?_
      refine Z_iadd dX12_chooses_28 ?_
      refine Z_i2l dX12_chooses_29 ?_
      refine Z_lmul dX12_chooses_30 ?_
      refine Z_iload dX12_chooses_31 rfl ?_
      refine Z_i2l dX12_chooses_33 ?_
      refine Z_ldiv dX12_chooses_34 (by rw [nI_l (by omega)]; exact fun z => absurd ((lN_eq (a := i + 1) (b := 0) (by omega) (by omega)).mp z) (by omega)) ?_
      rw [e2]
      refine Z_lstore_n (L' := [_, _, _, _, _]) dX12_chooses_35 rfl (by decide) rfl rfl ?_
      refine Z_iinc (L' := [_, _, _, _, _]) dX12_chooses_36 rfl (by rfl : _ + Int32.ofInt 1 = _ + 1) (by decide) rfl rfl ?_
      refine Z_goto (tgt := 16) dX12_chooses_39 (by decide) ?_
      rw [nI_1]
      exact ih (i + 1) (by omega)
theorem c_chooses {n : Nat} {k : Int32} (hn : n ≤ 15) (h : post (some (.long (lN (zchI n k)))) α) : ZK G (d + 1) mX12_chooses [.int (nI n), .int k] α post := by
  refine ZK.of (n := 3) (by decide) (Nat.le_of_ble_eq_true rfl) rfl ?_
  refine Z_iload_n dX12_chooses_0 rfl rfl ?_
  refine Z_if_lt (tgt := 9) dX12_chooses_1 (by decide) (fun h1 => ?_) (fun h1 => ?_)
  · skip
    refine Z_lconst (v := 0) dX12_chooses_9 (by decide) ?_
    refine Z_lret dX12_chooses_10 rfl ⟨by decide, by decide⟩ ?_
    have e : zchI n k = 0 := if_pos (by first | exact Or.inl h1 | (refine Or.inr ?_; simp only [Int32.lt_iff_toInt_lt, Int32.le_iff_toInt_le] at *; omega))
    rw [e] at h; exact h
  · skip
    refine Z_iload_n dX12_chooses_4 rfl rfl ?_
    refine Z_iload_n dX12_chooses_5 rfl rfl ?_
    refine Z_icmp_le (tgt := 11) dX12_chooses_6 (by decide) (fun h6 => ?_) (fun h6 => ?_)
    · skip
      have hc : ¬ (k < 0 ∨ nI n < k) := fun z => z.elim (fun z => h1 z) (fun z => by simp only [Int32.lt_iff_toInt_lt, Int32.le_iff_toInt_le] at *; omega)
      obtain ⟨q, hq, rfl⟩ := nI_of2 (M := nI n) (nI_toInt (by omega)) h1 (by simp only [Int32.lt_iff_toInt_lt, Int32.le_iff_toInt_le] at *; omega)
      have e : zchI n (nI q) = zch n q := (if_neg hc).trans (by rw [nI_clamp (by omega)])
      rw [e] at h
      refine Z_lconst (v := 1) dX12_chooses_11 (by decide) ?_
      refine Z_lstore_n (L' := [_, _, _, _, _]) dX12_chooses_12 rfl (by decide) rfl rfl ?_
      refine Z_iconst (v := 1) dX12_chooses_13 (by decide) ?_
      refine Z_istore (L' := [_, _, _, _, _]) dX12_chooses_14 (by decide) rfl rfl ?_
      have := lp_chooses (G := G) (d := d) hn hq h q 0 (by omega)
      rw [Nat.add_zero, zch_0 _ (by omega)] at this
      exact this
    · skip
      refine Z_lconst (v := 0) dX12_chooses_9 (by decide) ?_
      refine Z_lret dX12_chooses_10 rfl ⟨by decide, by decide⟩ ?_
      have e : zchI n k = 0 := if_pos (by first | exact Or.inl h1 | (refine Or.inr ?_; simp only [Int32.lt_iff_toInt_lt, Int32.le_iff_toInt_le] at *; omega))
      rw [e] at h; exact h
theorem zchI_nI {n k : Nat} (hn : n ≤ 15) (hk : k < 2 ^ 31) : zchI n (nI k) = zch n k := by
  unfold zchI
  rw [nI_clamp hk]
  by_cases h : n < k
  · rw [if_pos (Or.inr (nI_lt h hk))]
    unfold zch
    rw [if_neg (by omega)]
  · rw [if_neg]
    rintro (z | z)
    · exact nI_pos hk z
    · exact nI_nlt (a := n) (b := k) (by omega) (by omega) z
def zord (a b c : Nat) : Nat := zch (a + b + c) a * zch (b + c) b
theorem c_ordersWith {a b c : Nat} (h : a + b + c ≤ 15) (hp : post (some (.long (lN (zord a b c)))) α) : ZK G (d + 2) mX12_ordersWith [.int (nI a), .int (nI b), .int (nI c)] α post := by
  refine ZK.of (n := 0) (by decide) (Nat.le_of_ble_eq_true rfl) rfl ?_
  refine Z_iload_n dX12_ordersWith_0 rfl rfl ?_
  refine Z_iload_n dX12_ordersWith_1 rfl rfl ?_
  refine Z_iadd dX12_ordersWith_2 ?_
  refine Z_iload_n dX12_ordersWith_3 rfl rfl ?_
  refine Z_iadd dX12_ordersWith_4 ?_
  refine Z_iload_n dX12_ordersWith_5 rfl rfl ?_
  refine Z_S2z dX12_ordersWith_6 to_X12_chooses lk_X12_194 sc_X12_chooses (Nat.le_of_ble_eq_true rfl) ⟨rfl, rfl⟩ ⟨by decide, by decide⟩ ?_
  rw [nI_add, nI_add]
  refine c_chooses h ?_
  rw [zchI_nI h (by omega)]
  refine Z_iload_n dX12_ordersWith_9 rfl rfl ?_
  refine Z_iload_n dX12_ordersWith_10 rfl rfl ?_
  refine Z_iadd dX12_ordersWith_11 ?_
  refine Z_iload_n dX12_ordersWith_12 rfl rfl ?_
  refine Z_S2z dX12_ordersWith_13 to_X12_chooses lk_X12_194 sc_X12_chooses (Nat.le_of_ble_eq_true rfl) ⟨rfl, rfl⟩ ⟨by decide, by decide⟩ ?_
  rw [nI_add]
  refine c_chooses (by omega) ?_
  rw [zchI_nI (by omega) (by omega)]
  refine Z_lmul dX12_ordersWith_16 ?_
  refine Z_lret dX12_ordersWith_17 rfl ⟨by decide, by decide⟩ ?_
  rw [lN_mul]; exact hp
theorem c_orders (hr : MRel A α) (h : post (some (.long (lN (zord (A.1.1 6) (A.1.1 7) (A.1.1 8))))) α) : ZK G (d + 3) mX12_orders [.ref (G.1 + 34)] α post := by
  have hm := hr.mw
  have b6 : A.1.1 6 ≤ 5 := hr.2.1.at (by omega) rfl
  have b7 : A.1.1 7 ≤ 5 := hr.2.1.at (by omega) rfl
  have b8 : A.1.1 8 ≤ 5 := hr.2.1.at (by omega) rfl
  refine ZK.of (n := 0) (by decide) (Nat.le_of_ble_eq_true rfl) rfl ?_
  refine Z_aload_n dX12_orders_0 rfl rfl ?_
  refine Z_getR dX12_orders_1 cl_12 fl_X12_9_12 rfl (mw_i34 hm) (mw_p34_1 hm) ?_
  refine Z_bipush (v := 6) dX12_orders_4 (by decide) ?_
  refine Z_ialdv dX12_orders_6 (mw_i35 hm) (zix_k (m := 6) (by decide)) (hr.at (i := 6) (by omega) (by omega)) ?_
  refine Z_aload_n dX12_orders_7 rfl rfl ?_
  refine Z_getR dX12_orders_8 cl_12 fl_X12_9_12 rfl (mw_i34 hm) (mw_p34_1 hm) ?_
  refine Z_bipush (v := 7) dX12_orders_11 (by decide) ?_
  refine Z_ialdv dX12_orders_13 (mw_i35 hm) (zix_k (m := 7) (by decide)) (hr.at (i := 7) (by omega) (by omega)) ?_
  refine Z_aload_n dX12_orders_14 rfl rfl ?_
  refine Z_getR dX12_orders_15 cl_12 fl_X12_9_12 rfl (mw_i34 hm) (mw_p34_1 hm) ?_
  refine Z_bipush (v := 8) dX12_orders_18 (by decide) ?_
  refine Z_ialdv dX12_orders_20 (mw_i35 hm) (zix_k (m := 8) (by decide)) (hr.at (i := 8) (by omega) (by omega)) ?_
  refine Z_S3z dX12_orders_21 to_X12_ordersWith lk_X12_198 sc_X12_ordersWith (Nat.le_of_ble_eq_true rfl) ⟨rfl, rfl⟩ ⟨by decide, by decide⟩ ?_
  refine c_ordersWith (by omega) ?_
  refine Z_lret dX12_orders_24 rfl ⟨by decide, by decide⟩ ?_
  exact h
end MN1
