section CB1
variable {G : ZG} {d : Nat} {α β : AH} {post : Option Value → AH → Prop}
theorem k_isSort {x : Int32} (h : post (some (.int (b2i (decide (0 ≤ x ∧ x ≤ 2))))) α) : ZK G (d + 1) mX11_isSort [.int x] α post := by
  have e0 : (0 : Int32).toInt = 0 := rfl
  have e2 : (2 : Int32).toInt = 2 := rfl
  have e3 : (3 : Int32).toInt = 3 := rfl
  refine ZK.of (n := 0) (by decide) (Nat.le_of_ble_eq_true rfl) rfl ?_
  refine Z_iload_n dX11_isSort_0 rfl rfl ?_
  refine Z_if_lt (tgt := 13) dX11_isSort_1 (by decide) (fun h1 => ?_) (fun h1 => ?_)
  · skip
    refine Z_iconst (v := 0) dX11_isSort_13 (by decide) ?_
    refine Z_iret dX11_isSort_14 rfl rfl ⟨by decide, by decide⟩ ?_
    refine vi (P := fun z => post (some (.int z)) α) h ?_
    first | (rw [b2i_t]; simp only [Int32.lt_iff_toInt_lt, Int32.le_iff_toInt_le] at *; omega) | (rw [b2i_f]; simp only [Int32.lt_iff_toInt_lt, Int32.le_iff_toInt_le] at *; omega)
  · skip
    refine Z_iload_n dX11_isSort_4 rfl rfl ?_
    refine Z_iconst (v := 3) dX11_isSort_5 (by decide) ?_
    refine Z_icmp_ge (tgt := 13) dX11_isSort_6 (by decide) (fun h6 => ?_) (fun h6 => ?_)
    · skip
      refine Z_iconst (v := 0) dX11_isSort_13 (by decide) ?_
      refine Z_iret dX11_isSort_14 rfl rfl ⟨by decide, by decide⟩ ?_
      refine vi (P := fun z => post (some (.int z)) α) h ?_
      first | (rw [b2i_t]; simp only [Int32.lt_iff_toInt_lt, Int32.le_iff_toInt_le] at *; omega) | (rw [b2i_f]; simp only [Int32.lt_iff_toInt_lt, Int32.le_iff_toInt_le] at *; omega)
    · skip
      refine Z_iconst (v := 1) dX11_isSort_9 (by decide) ?_
      refine Z_goto (tgt := 14) dX11_isSort_10 (by decide) ?_
      refine Z_iret dX11_isSort_14 rfl rfl ⟨by decide, by decide⟩ ?_
      refine vi (P := fun z => post (some (.int z)) α) h ?_
      first | (rw [b2i_t]; simp only [Int32.lt_iff_toInt_lt, Int32.le_iff_toInt_le] at *; omega) | (rw [b2i_f]; simp only [Int32.lt_iff_toInt_lt, Int32.le_iff_toInt_le] at *; omega)
theorem i_eq {x y : Int32} : x = y ↔ x.toInt = y.toInt := ⟨fun h => by rw [h], fun h => Int32.toInt_inj.mp h⟩
theorem k_isPart {x : Int32} (h : post (some (.int (b2i (decide (0 ≤ x ∧ x ≤ 1))))) α) : ZK G (d + 1) mX11_isPart [.int x] α post := by
  have e0 : (0 : Int32).toInt = 0 := rfl
  have e1 : (1 : Int32).toInt = 1 := rfl
  refine ZK.of (n := 0) (by decide) (Nat.le_of_ble_eq_true rfl) rfl ?_
  refine Z_iload_n dX11_isPart_0 rfl rfl ?_
  refine Z_if_eq (tgt := 9) dX11_isPart_1 (by decide) (fun h1 => ?_) (fun h1 => ?_)
  · skip
    refine Z_iconst (v := 1) dX11_isPart_9 (by decide) ?_
    refine Z_goto (tgt := 14) dX11_isPart_10 (by decide) ?_
    refine Z_iret dX11_isPart_14 rfl rfl ⟨by decide, by decide⟩ ?_
    refine vi (P := fun z => post (some (.int z)) α) h ?_
    first | (rw [b2i_t]; simp only [i_eq, Int32.lt_iff_toInt_lt, Int32.le_iff_toInt_le] at *; omega) | (rw [b2i_f]; simp only [i_eq, Int32.lt_iff_toInt_lt, Int32.le_iff_toInt_le] at *; omega)
  · skip
    refine Z_iload_n dX11_isPart_4 rfl rfl ?_
    refine Z_iconst (v := 1) dX11_isPart_5 (by decide) ?_
    refine Z_icmp_ne (tgt := 13) dX11_isPart_6 (by decide) (fun h6 => ?_) (fun h6 => ?_)
    · skip
      refine Z_iconst (v := 0) dX11_isPart_13 (by decide) ?_
      refine Z_iret dX11_isPart_14 rfl rfl ⟨by decide, by decide⟩ ?_
      refine vi (P := fun z => post (some (.int z)) α) h ?_
      first | (rw [b2i_t]; simp only [i_eq, Int32.lt_iff_toInt_lt, Int32.le_iff_toInt_le] at *; omega) | (rw [b2i_f]; simp only [i_eq, Int32.lt_iff_toInt_lt, Int32.le_iff_toInt_le] at *; omega)
    · skip
      refine Z_iconst (v := 1) dX11_isPart_9 (by decide) ?_
      refine Z_goto (tgt := 14) dX11_isPart_10 (by decide) ?_
      refine Z_iret dX11_isPart_14 rfl rfl ⟨by decide, by decide⟩ ?_
      refine vi (P := fun z => post (some (.int z)) α) h ?_
      first | (rw [b2i_t]; simp only [i_eq, Int32.lt_iff_toInt_lt, Int32.le_iff_toInt_le] at *; omega) | (rw [b2i_f]; simp only [i_eq, Int32.lt_iff_toInt_lt, Int32.le_iff_toInt_le] at *; omega)
theorem k_workName {w : Nat} (hw : w ≤ 3) (h : post (some (.int (wF w))) α) : ZK G (d + 1) mX11_workName [.int (nI w)] α post := by
  refine ZK.of (n := 0) (by decide) (Nat.le_of_ble_eq_true rfl) rfl ?_
  refine Z_iload_n dX11_workName_0 rfl rfl ?_
  refine Z_iconst (v := 3) dX11_workName_1 (by decide) ?_
  refine Z_icmp_ne (tgt := 10) dX11_workName_2 (by decide) (fun h2 => ?_) (fun h2 => ?_)
  · skip
    have e : ¬ w = 3 := fun z => h2 (by rw [z]; rfl)
    refine Z_iload_n dX11_workName_10 rfl rfl ?_
    refine Z_iret dX11_workName_11 rfl rfl ⟨by decide, by decide⟩ ?_
    unfold wF at h
    first
      | (rw [if_pos e] at h; exact h)
      | (rw [if_neg e] at h; exact h)
  · skip
    have e : w = 3 := (nI_eq (a := w) (b := 3) (by omega) (by omega)).mp h2
    refine Z_bipush (v := -5) dX11_workName_5 (by decide) ?_
    refine Z_goto (tgt := 11) dX11_workName_7 (by decide) ?_
    refine Z_iret dX11_workName_11 rfl rfl ⟨by decide, by decide⟩ ?_
    unfold wF at h
    first
      | (rw [if_pos e] at h; exact h)
      | (rw [if_neg e] at h; exact h)
theorem bt_ok : ∀ b, b < 64 → ∀ k, k < 6 → decide ((nI b >>> (nI k &&& 31)) &&& 1 = 1) = b.testBit k := by decide +kernel
theorem k_hasBit {b k : Nat} (hb : b < 64) (hk : k < 6) (h : post (some (.int (b2i (b.testBit k)))) α) : ZK G (d + 1) mX11_hasBit [.int (nI b), .int (nI k)] α post := by
  rw [← bt_ok b hb k hk] at h
  refine ZK.of (n := 0) (by decide) (Nat.le_of_ble_eq_true rfl) rfl ?_
  refine Z_iload_n dX11_hasBit_0 rfl rfl ?_
  refine Z_iload_n dX11_hasBit_1 rfl rfl ?_
  refine Z_ishr dX11_hasBit_2 ?_
  refine Z_iconst (v := 1) dX11_hasBit_3 (by decide) ?_
  refine Z_iand dX11_hasBit_4 ?_
  refine Z_iconst (v := 1) dX11_hasBit_5 (by decide) ?_
  refine Z_icmp_ne (tgt := 13) dX11_hasBit_6 (by decide) (fun h6 => ?_) (fun h6 => ?_)
  · skip
    refine Z_iconst (v := 0) dX11_hasBit_13 (by decide) ?_
    refine Z_iret dX11_hasBit_14 rfl rfl ⟨by decide, by decide⟩ ?_
    refine vi (P := fun z => post (some (.int z)) α) h ?_
    first
      | exact b2i_t h6
      | exact b2i_f h6
  · skip
    refine Z_iconst (v := 1) dX11_hasBit_9 (by decide) ?_
    refine Z_goto (tgt := 14) dX11_hasBit_10 (by decide) ?_
    refine Z_iret dX11_hasBit_14 rfl rfl ⟨by decide, by decide⟩ ?_
    refine vi (P := fun z => post (some (.int z)) α) h ?_
    first
      | exact b2i_t h6
      | exact b2i_f h6
def zin (b k : Nat) : Bool := decide (¬ b / 4 ^ k % 4 = 0)
theorem in_ok : ∀ b, b < 64 → ∀ k, k < 4 → decide ((nI b >>> (nI k * 2 &&& 31)) &&& 3 = 0) = !zin b k := by decide +kernel
theorem k_isIn {b k : Nat} (hb : b < 64) (hk : k < 4) (h : post (some (.int (b2i (zin b k)))) α) : ZK G (d + 1) mX11_isIn [.int (nI b), .int (nI k)] α post := by
  have e := in_ok b hb k hk
  refine ZK.of (n := 0) (by decide) (Nat.le_of_ble_eq_true rfl) rfl ?_
  refine Z_iload_n dX11_isIn_0 rfl rfl ?_
  refine Z_iload_n dX11_isIn_1 rfl rfl ?_
  refine Z_iconst (v := 2) dX11_isIn_2 (by decide) ?_
  refine Z_imul dX11_isIn_3 ?_
  refine Z_ishr dX11_isIn_4 ?_
  refine Z_iconst (v := 3) dX11_isIn_5 (by decide) ?_
  refine Z_iand dX11_isIn_6 ?_
  refine Z_if_eq (tgt := 14) dX11_isIn_7 (by decide) (fun h7 => ?_) (fun h7 => ?_)
  · skip
    refine Z_iconst (v := 0) dX11_isIn_14 (by decide) ?_
    refine Z_iret dX11_isIn_15 rfl rfl ⟨by decide, by decide⟩ ?_
    refine vi (P := fun z => post (some (.int z)) α) h ?_
    first
      | (rw [decide_eq_true h7] at e; have e : zin b k = false := by simpa using e.symm
         rw [e]; rfl)
      | (rw [decide_eq_false h7] at e; have e : zin b k = true := by simpa using e.symm
         rw [e]; rfl)
  · skip
    refine Z_iconst (v := 1) dX11_isIn_10 (by decide) ?_
    refine Z_goto (tgt := 15) dX11_isIn_11 (by decide) ?_
    refine Z_iret dX11_isIn_15 rfl rfl ⟨by decide, by decide⟩ ?_
    refine vi (P := fun z => post (some (.int z)) α) h ?_
    first
      | (rw [decide_eq_true h7] at e; have e : zin b k = false := by simpa using e.symm
         rw [e]; rfl)
      | (rw [decide_eq_false h7] at e; have e : zin b k = true := by simpa using e.symm
         rw [e]; rfl)
/-- how much a work counts in the stages' one number -/
def cst (k : Nat) : Nat := if k = 0 then 1 else if k = 1 then 3 else 9
theorem step_at : ∀ k, k < 3 → (zArr 0).2.getD k 0 = nI (cst k) := by decide
theorem und_at : ∀ s, s < 27 → ∃ b, b < 64 ∧ (zArr 1).2.getD s 0 = nI b := by
  have : ∀ s, s < 27 → (zArr 1).2.getD s 0 = nI ((zArr 1).2.getD s 0).toNatClampNeg ∧ ((zArr 1).2.getD s 0).toNatClampNeg < 64 := by decide
  exact fun s hs => ⟨_, (this s hs).2, (this s hs).1⟩
theorem k_stageOf {s k : Nat} (hs : s < 27) (hk : k < 3) (h : post (some (.int (nI (s / cst k % 3)))) α) : ZK G (d + 1) mX11_stageOf [.int (nI s), .int (nI k)] α post := by
  have e := step_at k hk
  have hc : 0 < cst k ∧ cst k < 10 := by rcases s3 hk with rfl | rfl | rfl <;> decide
  refine ZK.of (n := 0) (by decide) (Nat.le_of_ble_eq_true rfl) rfl ?_
  refine Z_iload_n dX11_stageOf_0 rfl rfl ?_
  refine Z_gets dX11_stageOf_1 (by decide) sa_X11_100 ?_
  refine Z_iload_n dX11_stageOf_4 rfl rfl ?_
  refine Z_ti (i := 0) dX11_stageOf_5 (by decide) (zix_nI (m := k) (by exact hk) (by decide)) ?_
  rw [e]
  refine Z_idiv dX11_stageOf_6 (fun z => absurd ((nI_eq (b := 0) (by omega) (by omega)).mp z) (by omega)) ?_
  rw [nI_div (by omega) (by omega) (by omega)]
  refine Z_iconst (v := 3) dX11_stageOf_7 (by decide) ?_
  refine Z_irem dX11_stageOf_8 (by decide) ?_
  rw [show (3 : Int32) = nI 3 from rfl, pk_rem (d := 3) (by have := Nat.div_le_self s (cst k); omega) (by omega) (by omega)]
  refine Z_iret dX11_stageOf_9 rfl rfl ⟨by decide, by decide⟩ ?_
  exact h
def zaf (w s : Nat) : Nat := if w = 3 then s else s + cst w
theorem k_after {w s : Nat} (hw : w ≤ 3) (h : post (some (.int (nI (zaf w s)))) α) : ZK G (d + 1) mX11_after [.int (nI w), .int (nI s)] α post := by
  refine ZK.of (n := 0) (by decide) (Nat.le_of_ble_eq_true rfl) rfl ?_
  refine Z_iload_n dX11_after_0 rfl rfl ?_
  refine Z_if_lt (tgt := 19) dX11_after_1 (by decide) (fun h1 => ?_) (fun h1 => ?_)
  · skip
    exact absurd h1 (nI_pos (by omega))
  · skip
    refine Z_iload_n dX11_after_4 rfl rfl ?_
    refine Z_iconst (v := 3) dX11_after_5 (by decide) ?_
    refine Z_icmp_ge (tgt := 19) dX11_after_6 (by decide) (fun h6 => ?_) (fun h6 => ?_)
    · skip
      have e2 : zaf w s = s := if_pos (by have := (nI_leI (a := 3) (b := w) (by omega) (by omega)).mp h6; omega)
      rw [e2] at h
      refine Z_iload_n dX11_after_19 rfl rfl ?_
      refine Z_iret dX11_after_20 rfl rfl ⟨by decide, by decide⟩ ?_
      exact h
    · skip
      have hk : w < 3 := Nat.not_le.mp (fun z => h6 (nI_le (a := 3) z (by omega)))
      have e := step_at w hk
      have e2 : zaf w s = s + cst w := if_neg (by omega)
      rw [e2] at h
      refine Z_iload_n dX11_after_9 rfl rfl ?_
      refine Z_gets dX11_after_10 (by decide) sa_X11_100 ?_
      refine Z_iload_n dX11_after_13 rfl rfl ?_
      refine Z_ti (i := 0) dX11_after_14 (by decide) (zix_nI (m := w) (by exact hk) (by decide)) ?_
      rw [e]
      refine Z_iadd dX11_after_15 ?_
      rw [nI_add]
      refine Z_goto (tgt := 20) dX11_after_16 (by decide) ?_
      refine Z_iret dX11_after_20 rfl rfl ⟨by decide, by decide⟩ ?_
      exact h
set_option maxRecDepth 20000 in
theorem pas_len : (zArr 2).2.length = 136 := by decide
theorem pas_at : ∀ n, n < 16 → ∀ k, k < 16 → k ≤ n → (zArr 2).2.getD (n * (n + 1) / 2 + k) 0 = nI (zch n k) ∧ n * (n + 1) / 2 + k < 136 := by decide +kernel
theorem k_choose {n : Nat} {k : Int32} (hn : n ≤ 15) (h : post (some (.int (nI (zchI n k)))) α) : ZK G (d + 1) mX11_choose [.int (nI n), .int k] α post := by
  refine ZK.of (n := 0) (by decide) (Nat.le_of_ble_eq_true rfl) rfl ?_
  refine Z_iload_n dX11_choose_0 rfl rfl ?_
  refine Z_if_lt (tgt := 15) dX11_choose_1 (by decide) (fun h1 => ?_) (fun h1 => ?_)
  · skip
    refine Z_iconst (v := 0) dX11_choose_15 (by decide) ?_
    refine Z_iret dX11_choose_16 rfl rfl ⟨by decide, by decide⟩ ?_
    have e : zchI n k = 0 := if_pos (by first | exact Or.inl h1 | (refine Or.inr ?_; simp only [Int32.lt_iff_toInt_lt, Int32.le_iff_toInt_le] at *; omega))
    rw [e] at h; exact h
  · skip
    refine Z_iload_n dX11_choose_4 rfl rfl ?_
    refine Z_iload_n dX11_choose_5 rfl rfl ?_
    refine Z_icmp_gt (tgt := 15) dX11_choose_6 (by decide) (fun h6 => ?_) (fun h6 => ?_)
    · skip
      refine Z_iconst (v := 0) dX11_choose_15 (by decide) ?_
      refine Z_iret dX11_choose_16 rfl rfl ⟨by decide, by decide⟩ ?_
      have e : zchI n k = 0 := if_pos (by first | exact Or.inl h1 | (refine Or.inr ?_; simp only [Int32.lt_iff_toInt_lt, Int32.le_iff_toInt_le] at *; omega))
      rw [e] at h; exact h
    · skip
      refine Z_iload_n dX11_choose_9 rfl rfl ?_
      refine Z_bipush (v := 15) dX11_choose_10 (by decide) ?_
      refine Z_icmp_le (tgt := 17) dX11_choose_12 (by decide) (fun h12 => ?_) (fun h12 => ?_)
      · skip
        have hc : ¬ (k < 0 ∨ nI n < k) := fun z => z.elim (fun z => h1 z) (fun z => by simp only [Int32.lt_iff_toInt_lt, Int32.le_iff_toInt_le] at *; omega)
        obtain ⟨q, hq, rfl⟩ := nI_of2 (M := nI n) (nI_toInt (by omega)) h1 (by simp only [Int32.lt_iff_toInt_lt, Int32.le_iff_toInt_le] at *; omega)
        have e : zchI n (nI q) = zch n q := (if_neg hc).trans (by rw [nI_clamp (by omega)])
        rw [e] at h
        have e3 := pas_at n (by omega) q (by omega) hq
        have e4 : nI n * (nI n + 1) / 2 + nI q = nI (n * (n + 1) / 2 + q) := by
          rw [nI_1, pk_mul, show (2 : Int32) = nI 2 from rfl, nI_div (Nat.lt_of_le_of_lt (Nat.mul_le_mul hn (show n + 1 ≤ 16 by omega)) (by decide)) (by omega) (by omega), nI_add]
        refine Z_gets dX11_choose_17 (by decide) sa_X11_251 ?_
        refine Z_iload_n dX11_choose_20 rfl rfl ?_
        refine Z_iload_n dX11_choose_21 rfl rfl ?_
        refine Z_iconst (v := 1) dX11_choose_22 (by decide) ?_
        refine Z_iadd dX11_choose_23 ?_
        refine Z_imul dX11_choose_24 ?_
        refine Z_iconst (v := 2) dX11_choose_25 (by decide) ?_
        refine Z_idiv dX11_choose_26 (by decide) ?_
        refine Z_iload_n dX11_choose_27 rfl rfl ?_
        refine Z_iadd dX11_choose_28 ?_
        refine Z_ti (i := 2) dX11_choose_29 (by decide) (zix_e (m := n * (n + 1) / 2 + q) e4 (by rw [pas_len]; exact e3.2) (by rw [pas_len]; decide)) ?_
        rw [e3.1]
        refine Z_iret dX11_choose_30 rfl rfl ⟨by decide, by decide⟩ ?_
        exact h
      · skip
        exact absurd (nI_le (a := n) (b := 15) hn (by omega)) h12
theorem k_restOf {k n a b c : Nat} (hs : zIs α k (0, n)) (hn : 3 ≤ n ∧ n < 2 ^ 31) (h0 : hI α k 0 = nI a) (h1 : hI α k 1 = nI b) (h2 : hI α k 2 = nI c) (h : post (some (.int (nI (a + b + c)))) α) : ZK G (d + 1) mX11_restOf [.ref (G.1 + k)] α post := by
  refine ZK.of (n := 2) (by decide) (Nat.le_of_ble_eq_true rfl) rfl ?_
  refine Z_iconst (v := 0) dX11_restOf_0 (by decide) ?_
  refine Z_istore_n (L' := [_, _, _]) dX11_restOf_1 rfl (by decide) rfl rfl ?_
  refine Z_iconst (v := 0) dX11_restOf_2 (by decide) ?_
  refine Z_istore_n (L' := [_, _, _]) dX11_restOf_3 rfl (by decide) rfl rfl ?_
  refine Z_iload_n dX11_restOf_4 rfl rfl ?_
  refine Z_iconst (v := 3) dX11_restOf_5 (by decide) ?_
  refine Z_icmp_ge (tgt := 21) dX11_restOf_6 (by decide) (fun h => absurd h (by decide)) (fun _ => ?_)
  refine Z_iload_n dX11_restOf_9 rfl rfl ?_
  refine Z_aload_n dX11_restOf_10 rfl rfl ?_
  refine Z_iload_n dX11_restOf_11 rfl rfl ?_
  refine Z_iald dX11_restOf_12 hs (by first | exact zix_nI (m := 0) (by omega) (by omega) | exact zix_nI (m := 1) (by omega) (by omega) | exact zix_nI (m := 2) (by omega) (by omega)) ?_
  first | rw [h0] | rw [h1] | rw [h2]
  refine Z_iadd dX11_restOf_13 ?_
  refine Z_istore_n (L' := [_, _, _]) dX11_restOf_14 rfl (by decide) rfl rfl ?_
  refine Z_iinc (L' := [_, _, _]) dX11_restOf_15 rfl (by rfl : _ + Int32.ofInt 1 = _ + 1) (by decide) rfl rfl ?_
  refine Z_goto (tgt := 4) dX11_restOf_18 (by decide) ?_
  refine Z_iload_n dX11_restOf_4 rfl rfl ?_
  refine Z_iconst (v := 3) dX11_restOf_5 (by decide) ?_
  refine Z_icmp_ge (tgt := 21) dX11_restOf_6 (by decide) (fun h => absurd h (by decide)) (fun _ => ?_)
  refine Z_iload_n dX11_restOf_9 rfl rfl ?_
  refine Z_aload_n dX11_restOf_10 rfl rfl ?_
  refine Z_iload_n dX11_restOf_11 rfl rfl ?_
  refine Z_iald dX11_restOf_12 hs (by first | exact zix_nI (m := 0) (by omega) (by omega) | exact zix_nI (m := 1) (by omega) (by omega) | exact zix_nI (m := 2) (by omega) (by omega)) ?_
  first | rw [h0] | rw [h1] | rw [h2]
  refine Z_iadd dX11_restOf_13 ?_
  refine Z_istore_n (L' := [_, _, _]) dX11_restOf_14 rfl (by decide) rfl rfl ?_
  refine Z_iinc (L' := [_, _, _]) dX11_restOf_15 rfl (by rfl : _ + Int32.ofInt 1 = _ + 1) (by decide) rfl rfl ?_
  refine Z_goto (tgt := 4) dX11_restOf_18 (by decide) ?_
  refine Z_iload_n dX11_restOf_4 rfl rfl ?_
  refine Z_iconst (v := 3) dX11_restOf_5 (by decide) ?_
  refine Z_icmp_ge (tgt := 21) dX11_restOf_6 (by decide) (fun h => absurd h (by decide)) (fun _ => ?_)
  refine Z_iload_n dX11_restOf_9 rfl rfl ?_
  refine Z_aload_n dX11_restOf_10 rfl rfl ?_
  refine Z_iload_n dX11_restOf_11 rfl rfl ?_
  refine Z_iald dX11_restOf_12 hs (by first | exact zix_nI (m := 0) (by omega) (by omega) | exact zix_nI (m := 1) (by omega) (by omega) | exact zix_nI (m := 2) (by omega) (by omega)) ?_
  first | rw [h0] | rw [h1] | rw [h2]
  refine Z_iadd dX11_restOf_13 ?_
  refine Z_istore_n (L' := [_, _, _]) dX11_restOf_14 rfl (by decide) rfl rfl ?_
  refine Z_iinc (L' := [_, _, _]) dX11_restOf_15 rfl (by rfl : _ + Int32.ofInt 1 = _ + 1) (by decide) rfl rfl ?_
  refine Z_goto (tgt := 4) dX11_restOf_18 (by decide) ?_
  refine Z_iload_n dX11_restOf_4 rfl rfl ?_
  refine Z_iconst (v := 3) dX11_restOf_5 (by decide) ?_
  refine Z_icmp_ge (tgt := 21) dX11_restOf_6 (by decide) (fun _ => ?_) (fun h => absurd h (by decide))
  refine Z_iload_n dX11_restOf_21 rfl rfl ?_
  refine Z_iret dX11_restOf_22 rfl rfl ⟨by decide, by decide⟩ ?_
  rw [show (0 : Int32) = nI 0 from rfl, nI_add, nI_add, nI_add, Nat.zero_add]; exact h
theorem k_ordersOf {k n a b c : Nat} (hs : zIs α k (0, n)) (hn : 3 ≤ n ∧ n < 2 ^ 31) (h0 : hI α k 0 = nI a) (h1 : hI α k 1 = nI b) (h2 : hI α k 2 = nI c) (hr : a + b + c ≤ 15) (h : post (some (.int (nI (zord a b c)))) α) : ZK G (d + 2) mX11_ordersOf [.ref (G.1 + k)] α post := by
  refine ZK.of (n := 1) (by decide) (Nat.le_of_ble_eq_true rfl) rfl ?_
  refine Z_aload_n dX11_ordersOf_0 rfl rfl ?_
  refine Z_S1z dX11_ordersOf_1 to_X11_restOf lk_X11_86 sc_X11_restOf (Nat.le_of_ble_eq_true rfl) ⟨rfl, rfl⟩ ⟨by decide, by decide⟩ ?_
  refine k_restOf hs hn h0 h1 h2 ?_
  refine Z_istore_n (L' := [_, _]) dX11_ordersOf_4 rfl (by decide) rfl rfl ?_
  refine Z_iload_n dX11_ordersOf_5 rfl rfl ?_
  refine Z_aload_n dX11_ordersOf_6 rfl rfl ?_
  refine Z_iconst (v := 0) dX11_ordersOf_7 (by decide) ?_
  refine Z_ialdv dX11_ordersOf_8 hs (zix_nI (m := 0) (by omega) (by omega)) h0 ?_
  refine Z_S2z dX11_ordersOf_9 to_X11_choose lk_X11_167 sc_X11_choose (Nat.le_of_ble_eq_true rfl) ⟨rfl, rfl⟩ ⟨by decide, by decide⟩ ?_
  refine k_choose hr ?_
  rw [zchI_nI hr (by omega)]
  refine Z_iload_n dX11_ordersOf_12 rfl rfl ?_
  refine Z_aload_n dX11_ordersOf_13 rfl rfl ?_
  refine Z_iconst (v := 0) dX11_ordersOf_14 (by decide) ?_
  refine Z_ialdv dX11_ordersOf_15 hs (zix_nI (m := 0) (by omega) (by omega)) h0 ?_
  refine Z_isub dX11_ordersOf_16 ?_
  refine Z_aload_n dX11_ordersOf_17 rfl rfl ?_
  refine Z_iconst (v := 1) dX11_ordersOf_18 (by decide) ?_
  refine Z_ialdv dX11_ordersOf_19 hs (zix_nI (m := 1) (by omega) (by omega)) h1 ?_
  refine Z_S2z dX11_ordersOf_20 to_X11_choose lk_X11_167 sc_X11_choose (Nat.le_of_ble_eq_true rfl) ⟨rfl, rfl⟩ ⟨by decide, by decide⟩ ?_
  rw [nI_s (by omega), show a + b + c - a = b + c by omega]
  refine k_choose (by omega) ?_
  rw [zchI_nI (by omega) (by omega)]
  refine Z_imul dX11_ordersOf_23 ?_
  refine Z_iret dX11_ordersOf_24 rfl rfl ⟨by decide, by decide⟩ ?_
  rw [pk_mul]; exact h
theorem lp_common : ∀ (k y x i : Nat), y < 2 ^ k → x < 2 ^ 62 → y < 2 ^ 62 → i + 2 * k ≤ 200 → ∀ (r : Option Value), post (some (.long (lN (Nat.gcd x y)))) α → Z G mX11_commonOf (d + 1) 3 [some (.long (lN x)), none, some (.long (lN y)), none, some (.int (nI i)), r, none] [] α (0, 0) post := by
  have out : ∀ (x i : Nat) (r : Option Value), x < 2 ^ 62 → post (some (.long (lN x))) α → Z G mX11_commonOf (d + 1) 3 [some (.long (lN x)), none, some (.long (lN 0)), none, some (.int (nI i)), r, none] [] α (0, 0) post := by
    intro x i r hx h
    refine Z_iload dX11_commonOf_3 rfl ?_
    refine Z_sipush (v := 200) dX11_commonOf_5 (by decide) ?_
    refine Z_icmp_ge (tgt := 33) dX11_commonOf_8 (by decide) (fun h8 => ?_) (fun h8 => ?_)
    · skip
      refine Z_lload_n dX11_commonOf_33 rfl rfl ?_
      refine Z_lret dX11_commonOf_34 rfl ⟨by decide, by decide⟩ ?_
      exact h
    · skip
      refine Z_lload_n dX11_commonOf_11 rfl rfl ?_
      refine Z_lconst (v := 0) dX11_commonOf_12 (by decide) ?_
      refine Z_lcmp dX11_commonOf_13 ?_
      refine Z_if_eq (tgt := 33) dX11_commonOf_14 (by decide) (fun h14 => ?_) (fun h14 => ?_)
      · skip
        refine Z_lload_n dX11_commonOf_33 rfl rfl ?_
        refine Z_lret dX11_commonOf_34 rfl ⟨by decide, by decide⟩ ?_
        exact h
      · skip
        exact absurd (lg_eq.mpr (show lN 0 = 0 from rfl)) h14
  have one : ∀ (x y i : Nat) (r : Option Value), x < 2 ^ 62 → y < 2 ^ 62 → 0 < y → i < 200 → (∀ r : Option Value, Z G mX11_commonOf (d + 1) 3 [some (.long (lN y)), none, some (.long (lN (x % y))), none, some (.int (nI (i + 1))), r, none] [] α (0, 0) post) → Z G mX11_commonOf (d + 1) 3 [some (.long (lN x)), none, some (.long (lN y)), none, some (.int (nI i)), r, none] [] α (0, 0) post := by
    intro x y i r hx hy h0 hi h
    refine Z_iload dX11_commonOf_3 rfl ?_
    refine Z_sipush (v := 200) dX11_commonOf_5 (by decide) ?_
    refine Z_icmp_ge (tgt := 33) dX11_commonOf_8 (by decide) (fun h8 => ?_) (fun h8 => ?_)
    · skip
      exact absurd h8 (nI_ge (a := i) (b := 200) (by omega) (by omega))
    · skip
      refine Z_lload_n dX11_commonOf_11 rfl rfl ?_
      refine Z_lconst (v := 0) dX11_commonOf_12 (by decide) ?_
      refine Z_lcmp dX11_commonOf_13 ?_
      refine Z_if_eq (tgt := 33) dX11_commonOf_14 (by decide) (fun h14 => ?_) (fun h14 => ?_)
      · skip
        exact absurd ((pk_lEQ (b := 0) (by omega) (by omega)).mp (lg_eq.mp h14)) (by omega)
      · skip
        refine Z_lload_n dX11_commonOf_17 rfl rfl ?_
        refine Z_lload_n dX11_commonOf_18 rfl rfl ?_
        refine Z_lrem dX11_commonOf_19 (fun z => h14 (lg_eq.mpr z)) ?_
        rw [pk_lRem (by omega) h0 (by omega)]
        refine Z_lstore (L' := [_, _, _, _, _, _, _]) dX11_commonOf_20 (by decide) rfl rfl ?_
        refine Z_lload_n dX11_commonOf_22 rfl rfl ?_
        refine Z_lstore_n (L' := [_, _, _, _, _, _, _]) dX11_commonOf_23 rfl (by decide) rfl rfl ?_
        refine Z_lload dX11_commonOf_24 rfl ?_
        refine Z_lstore_n (L' := [_, _, _, _, _, _, _]) dX11_commonOf_26 rfl (by decide) rfl rfl ?_
        refine Z_iinc (L' := [_, _, _, _, _, _, _]) dX11_commonOf_27 rfl (by rfl : _ + Int32.ofInt 1 = _ + 1) (by decide) rfl rfl ?_
        refine Z_goto (tgt := 3) dX11_commonOf_30 (by decide) ?_
        rw [nI_1]
        exact h _
  intro k
  induction k with
  | zero =>
    intro y x i hy hx _ _ r h
    have : y = 0 := by omega
    subst this
    rw [Nat.gcd_zero_right] at h
    exact out x i r hx h
  | succ k ih =>
    intro y x i hy hx hy2 hi r h
    by_cases h0 : y = 0
    · subst h0
      rw [Nat.gcd_zero_right] at h
      exact out x i r hx h
    · have hp : 0 < y := by omega
      have hm := Nat.mod_lt x hp
      have e : Nat.gcd x y = Nat.gcd y (x % y) := by rw [Nat.gcd_comm x y, Nat.gcd_rec, Nat.gcd_comm]
      refine one x y i r hx hy2 hp (by omega) (fun r => ?_)
      by_cases hk : x % y < 2 ^ k
      · exact ih (x % y) y (i + 1) hk hy2 (by omega) (by omega) r (e ▸ h)
      · have hp2 : 0 < x % y := Nat.lt_of_lt_of_le (Nat.two_pow_pos k) (Nat.not_lt.mp hk)
        have e2 : Nat.gcd y (x % y) = Nat.gcd (x % y) (y % (x % y)) := by rw [Nat.gcd_comm y (x % y), Nat.gcd_rec, Nat.gcd_comm]
        refine one y (x % y) (i + 1) r hy2 (by omega) hp2 (by omega) (fun r => ?_)
        have hm2 := Nat.mod_lt y hp2
        have e3 : y % (x % y) = y - x % y := by
          rw [Nat.mod_eq_sub_mod (by omega), Nat.mod_eq_of_lt]
          rw [Nat.pow_succ] at hy
          omega
        refine ih (y % (x % y)) (x % y) (i + 1 + 1) ?_ (by omega) (by omega) (by omega) r (e2 ▸ e ▸ h)
        rw [e3]
        rw [Nat.pow_succ] at hy
        omega
theorem k_common {x y : Nat} (hx : x < 2 ^ 62) (hy : y < 2 ^ 62) (h : post (some (.long (lN (Nat.gcd x y)))) α) : ZK G (d + 1) mX11_commonOf [.long (lN x), .long (lN y)] α post := by
  refine ZK.of (n := 3) (by decide) (Nat.le_of_ble_eq_true rfl) rfl ?_
  refine Z_iconst (v := 0) dX11_commonOf_0 (by decide) ?_
  refine Z_istore (L' := [_, _, _, _, _, _, _]) dX11_commonOf_1 (by decide) rfl rfl ?_
  exact lp_common (G := G) (d := d) 62 y x 0 hy hx hy (by omega) _ h
theorem k_lowest {z : Int} {n : Nat} {part : Int32} (z1 : -2 ^ 62 < z) (z2 : z < 2 ^ 62) (hn : n < 2 ^ 62) (h0 : 0 < n) (h : post (some (.long (lZ (zlow z n part)))) α) : ZK G (d + 2) mX11_lowest [.long (lZ z), .long (lN n), .int part] α post := by
  have hg : 0 < Nat.gcd z.natAbs n := Nat.gcd_pos_of_pos_right _ h0
  have hg2 : Nat.gcd z.natAbs n ≤ n := Nat.le_of_dvd h0 (Nat.gcd_dvd_right _ _)
  have hne : ¬ lN (Nat.gcd z.natAbs n) = 0 := fun q => absurd ((pk_lEQ (a := Nat.gcd z.natAbs n) (b := 0) (by omega) (by omega)).mp q) (by omega)
  have ha : (if 0 < lZ z then lZ z else -lZ z) = lN z.natAbs := by
    have e0 : (0 : Int64).toInt = 0 := rfl
    by_cases hz : 0 < z
    · rw [if_pos (by rw [Int64.lt_iff_toInt_lt, lZ_toInt z1 z2, e0]; exact hz), lZ_pos (by omega)]
    · rw [if_neg (by rw [Int64.lt_iff_toInt_lt, lZ_toInt z1 z2, e0]; exact hz)]
      by_cases h00 : z = 0
      · subst h00; rfl
      · exact lZ_neg z1 z2 (by omega)
  refine ZK.of (n := 2) (by decide) (Nat.le_of_ble_eq_true rfl) rfl ?_
  refine Z_lload_n dX11_lowest_0 rfl rfl ?_
  refine Z_mabs dX11_lowest_1 wd_718 mw_abs.1 mw_abs.2.1 mw_abs.2.2 (Nat.le_of_ble_eq_true rfl) ⟨by decide, by decide⟩ ?_
  rw [ha]
  refine Z_lload_n dX11_lowest_4 rfl rfl ?_
  refine Z_S2z dX11_lowest_5 to_X11_commonOf lk_X11_258 sc_X11_commonOf (Nat.le_of_ble_eq_true rfl) ⟨rfl, rfl⟩ ⟨by decide, by decide⟩ ?_
  refine k_common (by omega) hn ?_
  refine Z_lstore (L' := [_, _, _, _, _, _, _]) dX11_lowest_8 (by decide) rfl rfl ?_
  refine Z_lload dX11_lowest_10 rfl ?_
  refine Z_lconst (v := 0) dX11_lowest_12 (by decide) ?_
  refine Z_lcmp dX11_lowest_13 ?_
  refine Z_if_ne (tgt := 21) dX11_lowest_14 (by decide) (fun h14 => ?_) (fun h14 => ?_)
  · skip
    refine Z_iload dX11_lowest_21 rfl ?_
    refine Z_if_ne (tgt := 30) dX11_lowest_23 (by decide) (fun h23 => ?_) (fun h23 => ?_)
    · skip
      have k : lN n / lN (Nat.gcd z.natAbs n) = lZ (zlow z n part) := by
        rw [← lZ_nat n, lZ_div (by omega) (by omega) hg (by omega) (Int.natCast_dvd_natCast.mpr (Nat.gcd_dvd_right _ _))]
        unfold zlow
        rw [if_neg h23]
      refine Z_lload_n dX11_lowest_30 rfl rfl ?_
      refine Z_lload dX11_lowest_31 rfl ?_
      refine Z_ldiv dX11_lowest_33 hne ?_
      refine Z_lret dX11_lowest_34 rfl ⟨by decide, by decide⟩ ?_
      rw [k]; exact h
    · skip
      have k : lZ z / lN (Nat.gcd z.natAbs n) = lZ (zlow z n part) := by
        rw [lZ_div z1 z2 hg (by omega) (Int.dvd_natAbs.mp (Int.natCast_dvd_natCast.mpr (Nat.gcd_dvd_left _ _)))]
        unfold zlow
        rw [if_pos h23]
      refine Z_lload_n dX11_lowest_26 rfl rfl ?_
      refine Z_goto (tgt := 31) dX11_lowest_27 (by decide) ?_
      refine Z_lload dX11_lowest_31 rfl ?_
      refine Z_ldiv dX11_lowest_33 hne ?_
      refine Z_lret dX11_lowest_34 rfl ⟨by decide, by decide⟩ ?_
      rw [k]; exact h
  · skip
    exact absurd (lg_eq.mp h14) hne
end CB1
