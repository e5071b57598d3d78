section CR2
variable {G : ZG} {d : Nat} {α : AH} {post : Option Value → AH → Prop} {τ : Nat → Nat} {N p o c : Nat} {f : Nat → Int32}
theorem nIm (a b : Nat) : nI a * nI b = nI (a * b) := (Int32.ofNat_mul a b).symm
theorem nI_p0 {n : Nat} (h : n < 2 ^ 31) : 0 ≤ nI n := nI_pos' h
def fem (f : Nat → Int32) (c : Nat) : List Int32 → Nat → Int32
  | [] => f
  | x :: xs => fem (u1 f c x) (c + 1) xs
theorem fem_app : ∀ (xs ys : List Int32) (f : Nat → Int32) (c : Nat), fem f c (xs ++ ys) = fem (fem f c xs) (c + xs.length) ys
  | [], ys, f, c => rfl
  | x :: xs, ys, f, c => by
    show fem (u1 f c x) (c + 1) (xs ++ ys) = fem (fem (u1 f c x) (c + 1) xs) (c + (xs.length + 1)) ys
    rw [fem_app xs ys (u1 f c x) (c + 1), show c + 1 + xs.length = c + (xs.length + 1) by omega]
theorem fem_lo : ∀ (xs : List Int32) (f : Nat → Int32) (c i : Nat), i < c → fem f c xs i = f i
  | [], f, c, i, h => rfl
  | x :: xs, f, c, i, h => by
    show fem (u1 f c x) (c + 1) xs i = f i
    rw [fem_lo xs _ _ i (by omega), u1_n (by omega)]
theorem fem_in : ∀ (xs : List Int32) (f : Nat → Int32) (c j : Nat), j < xs.length → fem f c xs (c + j) = xs.getD j 0
  | [], f, c, j, h => absurd h (Nat.not_lt_zero j)
  | x :: xs, f, c, 0, h => by
    show fem (u1 f c x) (c + 1) xs (c + 0) = x
    rw [fem_lo xs _ _ _ (by omega)]; exact u1_s _ _ _
  | x :: xs, f, c, j + 1, h => by
    show fem (u1 f c x) (c + 1) xs (c + (j + 1)) = xs.getD j 0
    rw [← fem_in xs (u1 f c x) (c + 1) j (Nat.lt_of_succ_lt_succ h), show c + 1 + j = c + (j + 1) by omega]
theorem wk_ix : ∀ x : Nat, x < 128 → (48 ≤ x ∧ x ≤ 50 → (zCh 1).idxOf x = x - 48) ∧ (¬ (48 ≤ x ∧ x ≤ 50) → (zCh 1).idxOf x = 3) := by decide
theorem k_digit (hC : RC α τ N) (hp : p ≤ N) (h1 : p < N ∧ 48 ≤ τ p ∧ τ p ≤ 57 → post (some (.int (nI (τ p - 48)))) (RS α f (p + 1) c)) (h0 : ¬ (p < N ∧ 48 ≤ τ p ∧ τ p ≤ 57) → post (some (.int (-1))) (RS α f p c)) : ZK G (d + 1) mX4_digit [.ref (G.1 + 17)] (RS α f p c) post := by
  have hw : ∀ {p : Nat}, CW (RS α f p c) := hC.1
  have hp0 : ∀ {p : Nat}, hP (RS α f p c) 17 0 = some 8 := hC.2.1
  have v1 : hI (RS α f p c) 17 1 = nI N := hC.2.2.1
  have hN := hC.2.2.2.1
  refine ZK.of (n := 0) (by decide) (Nat.le_of_ble_eq_true rfl) rfl ?_
  by_cases hq : p < N
  · have v8 : ∀ {q : Nat}, hI (RS α f q c) 8 p = nI (τ p) := hC.2.2.2.2.1 p hq
    have hτ := hC.2.2.2.2.2 p hq
    by_cases ha : 48 ≤ τ p
    · by_cases hb : τ p ≤ 57
      · have es : nI (p + 1) - nI 1 = nI (p + 1 - 1) := nI_s (by omega)
        have es : nI (p + 1) - 1 = nI p := es
        have ed : nI (τ p) - nI 48 = nI (τ p - 48) := nI_s ha
        have ed : nI (τ p) - 48 = nI (τ p - 48) := ed
        refine Z_aload_n dX4_digit_0 rfl rfl ?_
        refine Z_getIv dX4_digit_1 cl_4 fl_X4_31_4 rfl (cw_i17 hw) RS_2 ?_
        refine Z_aload_n dX4_digit_4 rfl rfl ?_
        refine Z_getIv dX4_digit_5 cl_4 fl_X4_27_4 rfl (cw_i17 hw) v1 ?_
        refine Z_icmp_ge (tgt := 39) dX4_digit_8 (by decide) (fun h8 => ?_) (fun h8 => ?_)
        · skip
          exact absurd h8 (nI_ge hq (by omega))
        · skip
          refine Z_aload_n dX4_digit_11 rfl rfl ?_
          refine Z_getR dX4_digit_12 cl_4 fl_X4_9_4 rfl (cw_i17 hw) hp0 ?_
          refine Z_aload_n dX4_digit_15 rfl rfl ?_
          refine Z_getIv dX4_digit_16 cl_4 fl_X4_31_4 rfl (cw_i17 hw) RS_2 ?_
          refine Z_ialdv dX4_digit_19 (cw_i8 hw) (zix_nI (m := p) (by omega) (by decide)) v8 ?_
          refine Z_bipush (v := 48) dX4_digit_20 (by decide) ?_
          refine Z_icmp_lt (tgt := 39) dX4_digit_22 (by decide) (fun h22 => ?_) (fun h22 => ?_)
          · skip
            exact absurd h22 (nI_nlt (b := 48) ha (by omega))
          · skip
            refine Z_aload_n dX4_digit_25 rfl rfl ?_
            refine Z_getR dX4_digit_26 cl_4 fl_X4_9_4 rfl (cw_i17 hw) hp0 ?_
            refine Z_aload_n dX4_digit_29 rfl rfl ?_
            refine Z_getIv dX4_digit_30 cl_4 fl_X4_31_4 rfl (cw_i17 hw) RS_2 ?_
            refine Z_ialdv dX4_digit_33 (cw_i8 hw) (zix_nI (m := p) (by omega) (by decide)) v8 ?_
            refine Z_bipush (v := 57) dX4_digit_34 (by decide) ?_
            refine Z_icmp_le (tgt := 41) dX4_digit_36 (by decide) (fun h36 => ?_) (fun h36 => ?_)
            · skip
              refine Z_aload_n dX4_digit_41 rfl rfl ?_
              refine Z_dup dX4_digit_42 rfl ?_
              refine Z_getIv dX4_digit_43 cl_4 fl_X4_31_4 rfl (cw_i17 hw) RS_2 ?_
              refine Z_iconst (v := 1) dX4_digit_46 (by decide) ?_
              refine Z_iadd dX4_digit_47 ?_
              refine Z_putI dX4_digit_48 cl_4 fl_X4_31_4 (Or.inl fn_4_2) rfl (cw_i17 hw) rfl rfl ?_
              rw [nI_1, RS_at]
              refine Z_aload_n dX4_digit_51 rfl rfl ?_
              refine Z_getR dX4_digit_52 cl_4 fl_X4_9_4 rfl (cw_i17 hw) hp0 ?_
              refine Z_aload_n dX4_digit_55 rfl rfl ?_
              refine Z_getIv dX4_digit_56 cl_4 fl_X4_31_4 rfl (cw_i17 hw) RS_2 ?_
              refine Z_iconst (v := 1) dX4_digit_59 (by decide) ?_
              refine Z_isub dX4_digit_60 ?_
              rw [es]
              refine Z_ialdv dX4_digit_61 (cw_i8 hw) (zix_nI (m := p) (by omega) (by decide)) v8 ?_
              refine Z_bipush (v := 48) dX4_digit_62 (by decide) ?_
              refine Z_isub dX4_digit_64 ?_
              rw [ed]
              refine Z_iret dX4_digit_65 rfl rfl ⟨by decide, by decide⟩ ?_
              exact h1 ⟨hq, ha, hb⟩
            · skip
              exact absurd (nI_le (b := 57) hb (by omega)) h36
      · skip
        refine Z_aload_n dX4_digit_0 rfl rfl ?_
        refine Z_getIv dX4_digit_1 cl_4 fl_X4_31_4 rfl (cw_i17 hw) RS_2 ?_
        refine Z_aload_n dX4_digit_4 rfl rfl ?_
        refine Z_getIv dX4_digit_5 cl_4 fl_X4_27_4 rfl (cw_i17 hw) v1 ?_
        refine Z_icmp_ge (tgt := 39) dX4_digit_8 (by decide) (fun h8 => ?_) (fun h8 => ?_)
        · skip
          exact absurd h8 (nI_ge hq (by omega))
        · skip
          refine Z_aload_n dX4_digit_11 rfl rfl ?_
          refine Z_getR dX4_digit_12 cl_4 fl_X4_9_4 rfl (cw_i17 hw) hp0 ?_
          refine Z_aload_n dX4_digit_15 rfl rfl ?_
          refine Z_getIv dX4_digit_16 cl_4 fl_X4_31_4 rfl (cw_i17 hw) RS_2 ?_
          refine Z_ialdv dX4_digit_19 (cw_i8 hw) (zix_nI (m := p) (by omega) (by decide)) v8 ?_
          refine Z_bipush (v := 48) dX4_digit_20 (by decide) ?_
          refine Z_icmp_lt (tgt := 39) dX4_digit_22 (by decide) (fun h22 => ?_) (fun h22 => ?_)
          · skip
            exact absurd h22 (nI_nlt (b := 48) ha (by omega))
          · skip
            refine Z_aload_n dX4_digit_25 rfl rfl ?_
            refine Z_getR dX4_digit_26 cl_4 fl_X4_9_4 rfl (cw_i17 hw) hp0 ?_
            refine Z_aload_n dX4_digit_29 rfl rfl ?_
            refine Z_getIv dX4_digit_30 cl_4 fl_X4_31_4 rfl (cw_i17 hw) RS_2 ?_
            refine Z_ialdv dX4_digit_33 (cw_i8 hw) (zix_nI (m := p) (by omega) (by decide)) v8 ?_
            refine Z_bipush (v := 57) dX4_digit_34 (by decide) ?_
            refine Z_icmp_le (tgt := 41) dX4_digit_36 (by decide) (fun h36 => ?_) (fun h36 => ?_)
            · skip
              exact absurd h36 (nI_ge (a := 57) (b := τ p) (by omega) (by omega))
            · skip
              refine Z_iconst (v := -1) dX4_digit_39 (by decide) ?_
              refine Z_iret dX4_digit_40 rfl rfl ⟨by decide, by decide⟩ ?_
              exact h0 (fun z => hb z.2.2)
    · skip
      refine Z_aload_n dX4_digit_0 rfl rfl ?_
      refine Z_getIv dX4_digit_1 cl_4 fl_X4_31_4 rfl (cw_i17 hw) RS_2 ?_
      refine Z_aload_n dX4_digit_4 rfl rfl ?_
      refine Z_getIv dX4_digit_5 cl_4 fl_X4_27_4 rfl (cw_i17 hw) v1 ?_
      refine Z_icmp_ge (tgt := 39) dX4_digit_8 (by decide) (fun h8 => ?_) (fun h8 => ?_)
      · skip
        exact absurd h8 (nI_ge hq (by omega))
      · skip
        refine Z_aload_n dX4_digit_11 rfl rfl ?_
        refine Z_getR dX4_digit_12 cl_4 fl_X4_9_4 rfl (cw_i17 hw) hp0 ?_
        refine Z_aload_n dX4_digit_15 rfl rfl ?_
        refine Z_getIv dX4_digit_16 cl_4 fl_X4_31_4 rfl (cw_i17 hw) RS_2 ?_
        refine Z_ialdv dX4_digit_19 (cw_i8 hw) (zix_nI (m := p) (by omega) (by decide)) v8 ?_
        refine Z_bipush (v := 48) dX4_digit_20 (by decide) ?_
        refine Z_icmp_lt (tgt := 39) dX4_digit_22 (by decide) (fun h22 => ?_) (fun h22 => ?_)
        · skip
          refine Z_iconst (v := -1) dX4_digit_39 (by decide) ?_
          refine Z_iret dX4_digit_40 rfl rfl ⟨by decide, by decide⟩ ?_
          exact h0 (fun z => ha z.2.1)
        · skip
          exact absurd (nI_lt (a := τ p) (b := 48) (by omega) (by omega)) h22
  · skip
    refine Z_aload_n dX4_digit_0 rfl rfl ?_
    refine Z_getIv dX4_digit_1 cl_4 fl_X4_31_4 rfl (cw_i17 hw) RS_2 ?_
    refine Z_aload_n dX4_digit_4 rfl rfl ?_
    refine Z_getIv dX4_digit_5 cl_4 fl_X4_27_4 rfl (cw_i17 hw) v1 ?_
    refine Z_icmp_ge (tgt := 39) dX4_digit_8 (by decide) (fun h8 => ?_) (fun h8 => ?_)
    · skip
      refine Z_iconst (v := -1) dX4_digit_39 (by decide) ?_
      refine Z_iret dX4_digit_40 rfl rfl ⟨by decide, by decide⟩ ?_
      exact h0 (fun z => hq z.1)
    · skip
      exact absurd (nI_le (by omega) (by omega)) h8
theorem k_number (hC : RC α τ N) (hp : p ≤ N) (h1 : (pNum τ N p).1 = true → post (some (.int (nI (pNum τ N p).2.2))) (RS α f (pNum τ N p).2.1 c)) (h0 : (pNum τ N p).1 = false → post (some (.int (-1))) (RS α f (pNum τ N p).2.1 c)) : ZK G (d + 7) mX4_number [.ref (G.1 + 17)] (RS α f p c) post := by
  have hw : CW (RS α f p c) := hC.1
  have hp0 : hP (RS α f p c) 17 0 = some 8 := hC.2.1
  have hN := hC.2.2.2.1
  refine ZK.of (n := 2) (by decide) (Nat.le_of_ble_eq_true rfl) rfl ?_
  by_cases hdg : p < N ∧ 48 ≤ τ p ∧ τ p ≤ 57
  · by_cases hz : τ p = 48
    · have e : pNum τ N p = (true, p + 1, 0) := by unfold pNum; rw [if_pos hdg, if_pos hz]
      rw [e] at h1
      have ex : τ p - 48 = 0 := by omega
      refine Z_aload_n dX4_number_0 rfl rfl ?_
      refine Z_V0z (ci := 4) dX4_number_1 to_X4_digit lk_X4_87 iv_X4_digit ⟨rfl, rfl⟩ (cw_i17 hw) (Nat.le_of_ble_eq_true rfl) ⟨rfl, rfl⟩ ⟨by decide, by decide⟩ ?_
      refine k_digit hC hp (fun _ => ?_) (fun z => absurd hdg z)
      rw [ex]
      refine Z_istore_n (L' := [_, _, _]) dX4_number_4 rfl (by decide) rfl rfl ?_
      refine Z_iload_n dX4_number_5 rfl rfl ?_
      refine Z_if_gt (tgt := 11) dX4_number_6 (by decide) (fun h6 => ?_) (fun h6 => ?_)
      · skip
        exact absurd h6 (by decide)
      · skip
        refine Z_iload_n dX4_number_9 rfl rfl ?_
        refine Z_iret dX4_number_10 rfl rfl ⟨by decide, by decide⟩ ?_
        exact h1 rfl
    · have ne : ¬ nI (τ p - 48) ≤ 0 := nI_nle (by omega) (by omega)
      by_cases hd2 : p + 1 < N ∧ 48 ≤ τ (p + 1) ∧ τ (p + 1) ≤ 57
      · have e : pNum τ N p = (true, p + 2, 10 * (τ p - 48) + (τ (p + 1) - 48)) := by unfold pNum; rw [if_pos hdg, if_neg hz, if_pos hd2]
        rw [e] at h1
        have ea : nI (τ p - 48) * 10 + nI (τ (p + 1) - 48) = nI (10 * (τ p - 48) + (τ (p + 1) - 48)) := by
          rw [show (10 : Int32) = nI 10 from rfl, nIm, nI_add, Nat.mul_comm]
        refine Z_aload_n dX4_number_0 rfl rfl ?_
        refine Z_V0z (ci := 4) dX4_number_1 to_X4_digit lk_X4_87 iv_X4_digit ⟨rfl, rfl⟩ (cw_i17 hw) (Nat.le_of_ble_eq_true rfl) ⟨rfl, rfl⟩ ⟨by decide, by decide⟩ ?_
        refine k_digit hC hp (fun _ => ?_) (fun z => absurd hdg z)
        refine Z_istore_n (L' := [_, _, _]) dX4_number_4 rfl (by decide) rfl rfl ?_
        refine Z_iload_n dX4_number_5 rfl rfl ?_
        refine Z_if_gt (tgt := 11) dX4_number_6 (by decide) (fun h6 => ?_) (fun h6 => ?_)
        · skip
          refine Z_aload_n dX4_number_11 rfl rfl ?_
          refine Z_V0z (ci := 4) dX4_number_12 to_X4_digit lk_X4_87 iv_X4_digit ⟨rfl, rfl⟩ (cw_i17 hw) (Nat.le_of_ble_eq_true rfl) ⟨rfl, rfl⟩ ⟨by decide, by decide⟩ ?_
          refine k_digit hC (by omega) (fun _ => ?_) (fun z => absurd hd2 z)
          refine Z_istore_n (L' := [_, _, _]) dX4_number_15 rfl (by decide) rfl rfl ?_
          refine Z_iload_n dX4_number_16 rfl rfl ?_
          refine Z_if_ge (tgt := 24) dX4_number_17 (by decide) (fun h17 => ?_) (fun h17 => ?_)
          · skip
            refine Z_iload_n dX4_number_24 rfl rfl ?_
            refine Z_bipush (v := 10) dX4_number_25 (by decide) ?_
            refine Z_imul dX4_number_27 ?_
            refine Z_iload_n dX4_number_28 rfl rfl ?_
            refine Z_iadd dX4_number_29 ?_
            rw [ea]
            refine Z_iret dX4_number_30 rfl rfl ⟨by decide, by decide⟩ ?_
            exact h1 rfl
          · skip
            exact absurd (nI_p0 (by omega)) h17
        · skip
          exact absurd h6 (by first | exact ne | (intro z; exact ne (Int32.not_lt.mp z)))
      · have e : pNum τ N p = (true, p + 1, τ p - 48) := by unfold pNum; rw [if_pos hdg, if_neg hz, if_neg hd2]
        rw [e] at h1
        refine Z_aload_n dX4_number_0 rfl rfl ?_
        refine Z_V0z (ci := 4) dX4_number_1 to_X4_digit lk_X4_87 iv_X4_digit ⟨rfl, rfl⟩ (cw_i17 hw) (Nat.le_of_ble_eq_true rfl) ⟨rfl, rfl⟩ ⟨by decide, by decide⟩ ?_
        refine k_digit hC hp (fun _ => ?_) (fun z => absurd hdg z)
        refine Z_istore_n (L' := [_, _, _]) dX4_number_4 rfl (by decide) rfl rfl ?_
        refine Z_iload_n dX4_number_5 rfl rfl ?_
        refine Z_if_gt (tgt := 11) dX4_number_6 (by decide) (fun h6 => ?_) (fun h6 => ?_)
        · skip
          refine Z_aload_n dX4_number_11 rfl rfl ?_
          refine Z_V0z (ci := 4) dX4_number_12 to_X4_digit lk_X4_87 iv_X4_digit ⟨rfl, rfl⟩ (cw_i17 hw) (Nat.le_of_ble_eq_true rfl) ⟨rfl, rfl⟩ ⟨by decide, by decide⟩ ?_
          refine k_digit hC (by omega) (fun z => absurd z hd2) (fun _ => ?_)
          refine Z_istore_n (L' := [_, _, _]) dX4_number_15 rfl (by decide) rfl rfl ?_
          refine Z_iload_n dX4_number_16 rfl rfl ?_
          refine Z_if_ge (tgt := 24) dX4_number_17 (by decide) (fun h17 => ?_) (fun h17 => ?_)
          · skip
            exact absurd h17 (by decide)
          · skip
            refine Z_iload_n dX4_number_20 rfl rfl ?_
            refine Z_goto (tgt := 30) dX4_number_21 (by decide) ?_
            refine Z_iret dX4_number_30 rfl rfl ⟨by decide, by decide⟩ ?_
            exact h1 rfl
        · skip
          exact absurd h6 (by first | exact ne | (intro z; exact ne (Int32.not_lt.mp z)))
  · have e : pNum τ N p = (false, p, 0) := by unfold pNum; rw [if_neg hdg]
    rw [e] at h0
    refine Z_aload_n dX4_number_0 rfl rfl ?_
    refine Z_V0z (ci := 4) dX4_number_1 to_X4_digit lk_X4_87 iv_X4_digit ⟨rfl, rfl⟩ (cw_i17 hw) (Nat.le_of_ble_eq_true rfl) ⟨rfl, rfl⟩ ⟨by decide, by decide⟩ ?_
    refine k_digit hC hp (fun z => absurd z hdg) (fun _ => ?_)
    refine Z_istore_n (L' := [_, _, _]) dX4_number_4 rfl (by decide) rfl rfl ?_
    refine Z_iload_n dX4_number_5 rfl rfl ?_
    refine Z_if_gt (tgt := 11) dX4_number_6 (by decide) (fun h6 => ?_) (fun h6 => ?_)
    · skip
      exact absurd h6 (by decide)
    · skip
      refine Z_iload_n dX4_number_9 rfl rfl ?_
      refine Z_iret dX4_number_10 rfl rfl ⟨by decide, by decide⟩ ?_
      exact h0 rfl
theorem k_emit {x : Int32} (hC : RC α τ N) (hc : c < 100) (h : post none (RS α (u1 f c x) p (c + 1))) : ZK G (d + 1) mX4_emit [.ref (G.1 + 17), .int x] (RS α f p c) post := by
  have hw : CW (RS α f p c) := hC.1
  have hp0 : hP (RS α f p c) 17 0 = some 8 := hC.2.1
  refine ZK.of (n := 0) (by decide) (Nat.le_of_ble_eq_true rfl) rfl ?_
  refine Z_aload_n dX4_emit_0 rfl rfl ?_
  refine Z_getIv dX4_emit_1 cl_4 fl_X4_34_4 rfl (cw_i17 hw) RS_4 ?_
  refine Z_aload_n dX4_emit_4 rfl rfl ?_
  refine Z_getR dX4_emit_5 cl_4 fl_X4_15_4 rfl (cw_i17 hw) (cw_p17_3 hw) ?_
  refine Z_alen dX4_emit_8 (cw_i19 hw) (by decide) ?_
  refine Z_icmp_ge (tgt := 32) dX4_emit_9 (by decide) (fun h9 => ?_) (fun h9 => ?_)
  · skip
    exact absurd h9 (nI_ge (a := c) (b := 100) hc (by omega))
  · skip
    refine Z_aload_n dX4_emit_12 rfl rfl ?_
    refine Z_getR dX4_emit_13 cl_4 fl_X4_15_4 rfl (cw_i17 hw) (cw_p17_3 hw) ?_
    refine Z_aload_n dX4_emit_16 rfl rfl ?_
    refine Z_getIv dX4_emit_17 cl_4 fl_X4_34_4 rfl (cw_i17 hw) RS_4 ?_
    refine Z_iload_n dX4_emit_20 rfl rfl ?_
    refine Z_iast dX4_emit_21 (cw_i19 hw) (zix_nI (m := c) hc (by decide)) ?_
    rw [RS_cd]
    refine Z_aload_n dX4_emit_22 rfl rfl ?_
    refine Z_dup dX4_emit_23 rfl ?_
    refine Z_getIv dX4_emit_24 cl_4 fl_X4_34_4 rfl (cw_i17 hw) RS_4 ?_
    refine Z_iconst (v := 1) dX4_emit_27 (by decide) ?_
    refine Z_iadd dX4_emit_28 ?_
    refine Z_putI dX4_emit_29 cl_4 fl_X4_34_4 (Or.inl fn_4_4) rfl (cw_i17 hw) rfl rfl ?_
    rw [nI_1, RS_ln]
    refine Z_vret dX4_emit_32 rfl ⟨by decide, by decide⟩ ?_
    exact h
theorem k_test {v r n : Nat} (h : post (some (.int (nI ((v * 3 + r) * 100 + n)))) α) : ZK G (d + 1) mX8_test [.int (nI v), .int (nI r), .int (nI n)] α post := by
  have e : (nI v * 3 + nI r) * 100 + nI n = nI ((v * 3 + r) * 100 + n) := by
    rw [show (3 : Int32) = nI 3 from rfl, show (100 : Int32) = nI 100 from rfl, nIm, nI_add, nIm, nI_add]
  refine ZK.of (n := 0) (by decide) (Nat.le_of_ble_eq_true rfl) rfl ?_
  refine Z_iload_n dX8_test_0 rfl rfl ?_
  refine Z_iconst (v := 3) dX8_test_1 (by decide) ?_
  refine Z_imul dX8_test_2 ?_
  refine Z_iload_n dX8_test_3 rfl rfl ?_
  refine Z_iadd dX8_test_4 ?_
  refine Z_bipush (v := 100) dX8_test_5 (by decide) ?_
  refine Z_imul dX8_test_7 ?_
  refine Z_iload_n dX8_test_8 rfl rfl ?_
  refine Z_iadd dX8_test_9 ?_
  rw [e]
  refine Z_iret dX8_test_10 rfl rfl ⟨by decide, by decide⟩ ?_
  exact h
theorem k_testing (hC : RC α τ N) (hp : p ≤ N) (hcp : c ≤ p) (h : post (some (.int (b2i (pTest τ N p).1))) (RS α (fem f c ((pTest τ N p).2.2.map vEnc)) (pTest τ N p).2.1 (c + (pTest τ N p).2.2.length))) : ZK G (d + 8) mX4_testing [.ref (G.1 + 17)] (RS α f p c) post := by
  have hw : CW (RS α f p c) := hC.1
  have hp0 : hP (RS α f p c) 17 0 = some 8 := hC.2.1
  have hN := hC.2.2.2.1
  have l4 : (zCh 4).length = 5 := rfl
  have l5 : (zCh 5).length = 3 := rfl
  refine ZK.of (n := 3) (by decide) (Nat.le_of_ble_eq_true rfl) rfl ?_
  by_cases ha : pIx τ N (zCh 4) p < 5
  · have hpN := pIx_lt (l := zCh 4) ha
    by_cases hb : pIx τ N (zCh 5) (p + 1) < 3
    · have hpN2 := pIx_lt (l := zCh 5) hb
      have hn := pNum_ok (τ := τ) (N := N) (p := p + 2) (by omega)
      cases hq : (pNum τ N (p + 2)).1 with
      | true =>
        have e : pTest τ N p = (true, (pNum τ N (p + 2)).2.1, [(pIx τ N (zCh 4) p, pIx τ N (zCh 5) (p + 1), (pNum τ N (p + 2)).2.2)]) := (if_pos ha).trans ((if_pos hb).trans (if_pos hq))
        have ev : vEnc (pIx τ N (zCh 4) p, pIx τ N (zCh 5) (p + 1), (pNum τ N (p + 2)).2.2) = nI ((pIx τ N (zCh 4) p * 3 + pIx τ N (zCh 5) (p + 1)) * 100 + (pNum τ N (p + 2)).2.2) := by
          unfold vEnc
          rw [if_neg (by show ¬ pIx τ N (zCh 4) p = 5; omega), if_neg (by show ¬ pIx τ N (zCh 4) p = 6; omega), if_neg (by show ¬ pIx τ N (zCh 4) p = 7; omega)]
        rw [e] at h
        have h : post (some (.int 1)) (RS α (u1 f c (vEnc (pIx τ N (zCh 4) p, pIx τ N (zCh 5) (p + 1), (pNum τ N (p + 2)).2.2))) (pNum τ N (p + 2)).2.1 (c + 1)) := h
        rw [ev] at h
        refine Z_aload_n dX4_testing_0 rfl rfl ?_
        refine Z_ldcS (i := 4) dX4_testing_1 (by decide) ⟨rfl, rfl⟩ ?_
        refine Z_V1z (ci := 4) dX4_testing_3 to_X4_eatsOneOf lk_X4_107 iv_X4_eatsOneOf ⟨rfl, rfl⟩ (cw_i17 hw) (Nat.le_of_ble_eq_true rfl) ⟨rfl, rfl⟩ ⟨by decide, by decide⟩ ?_
        refine k_oneOf (i := 4) (by omega) hC hp (fun _ => ?_) (fun z => absurd ha z)
        refine Z_istore_n (L' := [_, _, _, _]) dX4_testing_6 rfl (by decide) rfl rfl ?_
        refine Z_iload_n dX4_testing_7 rfl rfl ?_
        refine Z_if_ge (tgt := 13) dX4_testing_8 (by decide) (fun h8 => ?_) (fun h8 => ?_)
        · skip
          refine Z_aload_n dX4_testing_13 rfl rfl ?_
          refine Z_ldcS (i := 5) dX4_testing_14 (by decide) ⟨rfl, rfl⟩ ?_
          refine Z_V1z (ci := 4) dX4_testing_16 to_X4_eatsOneOf lk_X4_107 iv_X4_eatsOneOf ⟨rfl, rfl⟩ (cw_i17 hw) (Nat.le_of_ble_eq_true rfl) ⟨rfl, rfl⟩ ⟨by decide, by decide⟩ ?_
          refine k_oneOf (i := 5) (by omega) hC (by omega) (fun _ => ?_) (fun z => absurd hb z)
          refine Z_istore_n (L' := [_, _, _, _]) dX4_testing_19 rfl (by decide) rfl rfl ?_
          refine Z_iload_n dX4_testing_20 rfl rfl ?_
          refine Z_if_ge (tgt := 26) dX4_testing_21 (by decide) (fun h21 => ?_) (fun h21 => ?_)
          · skip
            refine Z_aload_n dX4_testing_26 rfl rfl ?_
            refine Z_V0z (ci := 4) dX4_testing_27 to_X4_number lk_X4_111 iv_X4_number ⟨rfl, rfl⟩ (cw_i17 hw) (Nat.le_of_ble_eq_true rfl) ⟨rfl, rfl⟩ ⟨by decide, by decide⟩ ?_
            refine k_number hC (by omega) (fun _ => ?_) (fun z => by rw [hq] at z; cases z)
            refine Z_istore_n (L' := [_, _, _, _]) dX4_testing_30 rfl (by decide) rfl rfl ?_
            refine Z_iload_n dX4_testing_31 rfl rfl ?_
            refine Z_if_ge (tgt := 37) dX4_testing_32 (by decide) (fun h32 => ?_) (fun h32 => ?_)
            · skip
              refine Z_aload_n dX4_testing_37 rfl rfl ?_
              refine Z_iload_n dX4_testing_38 rfl rfl ?_
              refine Z_iload_n dX4_testing_39 rfl rfl ?_
              refine Z_iload_n dX4_testing_40 rfl rfl ?_
              refine Z_S3z dX4_testing_41 to_X8_test lk_X4_139 sc_X8_test (Nat.le_of_ble_eq_true rfl) ⟨rfl, rfl⟩ ⟨by decide, by decide⟩ ?_
              refine k_test ?_
              refine Z_V1z (ci := 4) dX4_testing_44 to_X4_emit lk_X4_125 iv_X4_emit ⟨rfl, rfl⟩ (cw_i17 hw) (Nat.le_of_ble_eq_true rfl) ⟨rfl, rfl⟩ ⟨by decide, by decide⟩ ?_
              refine k_emit hC (by omega) ?_
              refine Z_iconst (v := 1) dX4_testing_47 (by decide) ?_
              refine Z_iret dX4_testing_48 rfl rfl ⟨by decide, by decide⟩ ?_
              exact h
            · skip
              exact absurd (nI_p0 (n := (pNum τ N (p + 2)).2.2) (by omega)) h32
          · skip
            exact absurd (nI_p0 (by omega)) h21
        · skip
          exact absurd (nI_p0 (by omega)) h8
      | false =>
        have hqp : (pNum τ N (p + 2)).2.1 = p + 2 := by
          unfold pNum at hq ⊢
          split at hq
          · split at hq
            · cases hq
            · split at hq <;> cases hq
          · rename_i hh; rw [if_neg hh]
        have e : pTest τ N p = (false, p + 2, []) := (if_pos ha).trans ((if_pos hb).trans (if_neg (by rw [hq]; exact Bool.false_ne_true)))
        rw [e] at h
        refine Z_aload_n dX4_testing_0 rfl rfl ?_
        refine Z_ldcS (i := 4) dX4_testing_1 (by decide) ⟨rfl, rfl⟩ ?_
        refine Z_V1z (ci := 4) dX4_testing_3 to_X4_eatsOneOf lk_X4_107 iv_X4_eatsOneOf ⟨rfl, rfl⟩ (cw_i17 hw) (Nat.le_of_ble_eq_true rfl) ⟨rfl, rfl⟩ ⟨by decide, by decide⟩ ?_
        refine k_oneOf (i := 4) (by omega) hC hp (fun _ => ?_) (fun z => absurd ha z)
        refine Z_istore_n (L' := [_, _, _, _]) dX4_testing_6 rfl (by decide) rfl rfl ?_
        refine Z_iload_n dX4_testing_7 rfl rfl ?_
        refine Z_if_ge (tgt := 13) dX4_testing_8 (by decide) (fun h8 => ?_) (fun h8 => ?_)
        · skip
          refine Z_aload_n dX4_testing_13 rfl rfl ?_
          refine Z_ldcS (i := 5) dX4_testing_14 (by decide) ⟨rfl, rfl⟩ ?_
          refine Z_V1z (ci := 4) dX4_testing_16 to_X4_eatsOneOf lk_X4_107 iv_X4_eatsOneOf ⟨rfl, rfl⟩ (cw_i17 hw) (Nat.le_of_ble_eq_true rfl) ⟨rfl, rfl⟩ ⟨by decide, by decide⟩ ?_
          refine k_oneOf (i := 5) (by omega) hC (by omega) (fun _ => ?_) (fun z => absurd hb z)
          refine Z_istore_n (L' := [_, _, _, _]) dX4_testing_19 rfl (by decide) rfl rfl ?_
          refine Z_iload_n dX4_testing_20 rfl rfl ?_
          refine Z_if_ge (tgt := 26) dX4_testing_21 (by decide) (fun h21 => ?_) (fun h21 => ?_)
          · skip
            refine Z_aload_n dX4_testing_26 rfl rfl ?_
            refine Z_V0z (ci := 4) dX4_testing_27 to_X4_number lk_X4_111 iv_X4_number ⟨rfl, rfl⟩ (cw_i17 hw) (Nat.le_of_ble_eq_true rfl) ⟨rfl, rfl⟩ ⟨by decide, by decide⟩ ?_
            refine k_number hC (by omega) (fun z => by rw [hq] at z; cases z) (fun _ => ?_)
            rw [hqp]
            refine Z_istore_n (L' := [_, _, _, _]) dX4_testing_30 rfl (by decide) rfl rfl ?_
            refine Z_iload_n dX4_testing_31 rfl rfl ?_
            refine Z_if_ge (tgt := 37) dX4_testing_32 (by decide) (fun h32 => ?_) (fun h32 => ?_)
            · skip
              exact absurd h32 (by decide)
            · skip
              refine Z_iconst (v := 0) dX4_testing_35 (by decide) ?_
              refine Z_iret dX4_testing_36 rfl rfl ⟨by decide, by decide⟩ ?_
              exact h
          · skip
            exact absurd (nI_p0 (by omega)) h21
        · skip
          exact absurd (nI_p0 (by omega)) h8
    · have e : pTest τ N p = (false, p + 1, []) := (if_pos ha).trans (if_neg hb)
      rw [e] at h
      refine Z_aload_n dX4_testing_0 rfl rfl ?_
      refine Z_ldcS (i := 4) dX4_testing_1 (by decide) ⟨rfl, rfl⟩ ?_
      refine Z_V1z (ci := 4) dX4_testing_3 to_X4_eatsOneOf lk_X4_107 iv_X4_eatsOneOf ⟨rfl, rfl⟩ (cw_i17 hw) (Nat.le_of_ble_eq_true rfl) ⟨rfl, rfl⟩ ⟨by decide, by decide⟩ ?_
      refine k_oneOf (i := 4) (by omega) hC hp (fun _ => ?_) (fun z => absurd ha z)
      refine Z_istore_n (L' := [_, _, _, _]) dX4_testing_6 rfl (by decide) rfl rfl ?_
      refine Z_iload_n dX4_testing_7 rfl rfl ?_
      refine Z_if_ge (tgt := 13) dX4_testing_8 (by decide) (fun h8 => ?_) (fun h8 => ?_)
      · skip
        refine Z_aload_n dX4_testing_13 rfl rfl ?_
        refine Z_ldcS (i := 5) dX4_testing_14 (by decide) ⟨rfl, rfl⟩ ?_
        refine Z_V1z (ci := 4) dX4_testing_16 to_X4_eatsOneOf lk_X4_107 iv_X4_eatsOneOf ⟨rfl, rfl⟩ (cw_i17 hw) (Nat.le_of_ble_eq_true rfl) ⟨rfl, rfl⟩ ⟨by decide, by decide⟩ ?_
        refine k_oneOf (i := 5) (by omega) hC (by omega) (fun z => absurd z hb) (fun _ => ?_)
        refine Z_istore_n (L' := [_, _, _, _]) dX4_testing_19 rfl (by decide) rfl rfl ?_
        refine Z_iload_n dX4_testing_20 rfl rfl ?_
        refine Z_if_ge (tgt := 26) dX4_testing_21 (by decide) (fun h21 => ?_) (fun h21 => ?_)
        · skip
          exact absurd h21 (by decide)
        · skip
          refine Z_iconst (v := 0) dX4_testing_24 (by decide) ?_
          refine Z_iret dX4_testing_25 rfl rfl ⟨by decide, by decide⟩ ?_
          exact h
      · skip
        exact absurd (nI_p0 (by omega)) h8
  · have e : pTest τ N p = (false, p, []) := if_neg ha
    rw [e] at h
    refine Z_aload_n dX4_testing_0 rfl rfl ?_
    refine Z_ldcS (i := 4) dX4_testing_1 (by decide) ⟨rfl, rfl⟩ ?_
    refine Z_V1z (ci := 4) dX4_testing_3 to_X4_eatsOneOf lk_X4_107 iv_X4_eatsOneOf ⟨rfl, rfl⟩ (cw_i17 hw) (Nat.le_of_ble_eq_true rfl) ⟨rfl, rfl⟩ ⟨by decide, by decide⟩ ?_
    refine k_oneOf (i := 4) (by omega) hC hp (fun z => absurd z ha) (fun _ => ?_)
    refine Z_istore_n (L' := [_, _, _, _]) dX4_testing_6 rfl (by decide) rfl rfl ?_
    refine Z_iload_n dX4_testing_7 rfl rfl ?_
    refine Z_if_ge (tgt := 13) dX4_testing_8 (by decide) (fun h8 => ?_) (fun h8 => ?_)
    · skip
      exact absurd h8 (by decide)
    · skip
      refine Z_iconst (v := 0) dX4_testing_11 (by decide) ?_
      refine Z_iret dX4_testing_12 rfl rfl ⟨by decide, by decide⟩ ?_
      exact h
/-- a reading by the class -/
def kRd (G : ZG) (α : AH) (τ : Nat → Nat) (N o d : Nat) (M : ZM) (F : Nat → PR) : Prop := ∀ (f : Nat → Int32) (p c : Nat) (post : Option Value → AH → Prop), RC α τ N → p ≤ N → c ≤ p → post (some (.int (b2i (F p).1))) (RS α (fem f c ((F p).2.2.map vEnc)) (F p).2.1 (c + (F p).2.2.length)) → ZK G d M [.ref (G.1 + 17), .int (nI o)] (RS α f p c) post
theorem ex_both {F : Nat → PR} {r : PR} {i : Nat} (hC : RC α τ N) (hr : r.2.1 ≤ N) (hi : i < 100) (hz : ¬ (r.2.1 < N ∧ τ r.2.1 = 38)) (h : post (some (.int 1)) (RS α f r.2.1 c)) : Z G mX4_both (d + 3) 12 [some (.ref (G.1 + 17)), some (.int (nI o)), some (.int (nI i))] [] (RS α f r.2.1 c) (0, 0) post := by
  have hw : CW (RS α f r.2.1 c) := hC.1
  have hp0 : hP (RS α f r.2.1 c) 17 0 = some 8 := hC.2.1
  refine Z_iload_n dX4_both_12 rfl rfl ?_
  refine Z_bipush (v := 100) dX4_both_13 (by decide) ?_
  refine Z_icmp_ge (tgt := 49) dX4_both_15 (by decide) (fun h15 => ?_) (fun h15 => ?_)
  · skip
    exact absurd h15 (nI_ge (a := i) (b := 100) hi (by omega))
  · skip
    refine Z_aload_n dX4_both_18 rfl rfl ?_
    refine Z_bipush (v := 38) dX4_both_19 (by decide) ?_
    refine Z_V1z (ci := 4) dX4_both_21 to_X4_eats lk_X4_53 iv_X4_eats ⟨rfl, rfl⟩ (cw_i17 hw) (Nat.le_of_ble_eq_true rfl) ⟨rfl, rfl⟩ ⟨by decide, by decide⟩ ?_
    refine k_eats (ch := 38) hC hr (by omega) (fun z => absurd z hz) (fun _ => ?_)
    refine Z_if_eq (tgt := 49) dX4_both_24 (by decide) (fun h24 => ?_) (fun h24 => ?_)
    · skip
      refine Z_iconst (v := 1) dX4_both_49 (by decide) ?_
      refine Z_iret dX4_both_50 rfl rfl ⟨by decide, by decide⟩ ?_
      exact h
    · skip
      exact absurd rfl h24
theorem lp_both {F : Nat → PR} (hC : RC α τ N) (hcp : c ≤ p) (hF : kRd G α τ N o (d + 2) mX4_factor F) (hok : pOk N F) : ∀ (n i : Nat) (r : PR), (p ≤ r.2.1 ∧ r.2.1 ≤ N ∧ r.2.2.length + p ≤ r.2.1) → i + n = 100 → r.1 = true → post (some (.int (b2i (pLoop τ N 38 (6, 0, 0) F n r).1))) (RS α (fem f c ((pLoop τ N 38 (6, 0, 0) F n r).2.2.map vEnc)) (pLoop τ N 38 (6, 0, 0) F n r).2.1 (c + (pLoop τ N 38 (6, 0, 0) F n r).2.2.length)) → Z G mX4_both (d + 3) 12 [some (.ref (G.1 + 17)), some (.int (nI o)), some (.int (nI i))] [] (RS α (fem f c (r.2.2.map vEnc)) r.2.1 (c + r.2.2.length)) (0, 0) post := by
  have hN := hC.2.2.2.1
  intro n
  induction n with
  | zero =>
    intro i r hb hn hr h
    have hi : i = 100 := by omega
    subst hi
    have h : post (some (.int (b2i r.1))) (RS α (fem f c (r.2.2.map vEnc)) r.2.1 (c + r.2.2.length)) := h
    rw [hr] at h
    have hw : CW (RS α (fem f c (r.2.2.map vEnc)) r.2.1 (c + r.2.2.length)) := hC.1
    have hp0 : hP (RS α (fem f c (r.2.2.map vEnc)) r.2.1 (c + r.2.2.length)) 17 0 = some 8 := hC.2.1
    refine Z_iload_n dX4_both_12 rfl rfl ?_
    refine Z_bipush (v := 100) dX4_both_13 (by decide) ?_
    refine Z_icmp_ge (tgt := 49) dX4_both_15 (by decide) (fun h15 => ?_) (fun h15 => ?_)
    · skip
      refine Z_iconst (v := 1) dX4_both_49 (by decide) ?_
      refine Z_iret dX4_both_50 rfl rfl ⟨by decide, by decide⟩ ?_
      exact h
    · skip
      exact absurd (by decide) h15
  | succ n ih =>
    intro i r hb hn hr h
    have hi : i < 100 := by omega
    by_cases hz : r.2.1 < N ∧ τ r.2.1 = 38
    · have hw : CW (RS α (fem f c (r.2.2.map vEnc)) r.2.1 (c + r.2.2.length)) := hC.1
      have hp0 : hP (RS α (fem f c (r.2.2.map vEnc)) r.2.1 (c + r.2.2.length)) 17 0 = some 8 := hC.2.1
      have hq := hok (r.2.1 + 1) (by omega)
      have hstep : pLoop τ N 38 (6, 0, 0) F (n + 1) r = if (F (r.2.1 + 1)).1 = true then pLoop τ N 38 (6, 0, 0) F n (true, (F (r.2.1 + 1)).2.1, r.2.2 ++ (F (r.2.1 + 1)).2.2 ++ [(6, 0, 0)]) else (false, (F (r.2.1 + 1)).2.1, r.2.2 ++ (F (r.2.1 + 1)).2.2) := if_pos ⟨hr, hz⟩
      rw [hstep] at h
      have ez : fem (fem f c (r.2.2.map vEnc)) (c + r.2.2.length) ((F (r.2.1 + 1)).2.2.map vEnc) = fem f c ((r.2.2 ++ (F (r.2.1 + 1)).2.2).map vEnc) := by
        rw [List.map_append, fem_app, List.length_map]
      cases hq1 : (F (r.2.1 + 1)).1 with
      | true =>
        rw [if_pos hq1] at h
        have hl := hq.2.2.2 hq1
        have ez2 : u1 (fem f c ((r.2.2 ++ (F (r.2.1 + 1)).2.2).map vEnc)) (c + r.2.2.length + (F (r.2.1 + 1)).2.2.length) (-2) = fem f c ((r.2.2 ++ (F (r.2.1 + 1)).2.2 ++ [(6, 0, 0)]).map vEnc) := by
          rw [List.map_append (l₂ := [(6, 0, 0)]), fem_app, List.length_map, List.length_append, Nat.add_assoc]; rfl
        have el : c + r.2.2.length + (F (r.2.1 + 1)).2.2.length + 1 = c + (r.2.2 ++ (F (r.2.1 + 1)).2.2 ++ [(6, 0, 0)]).length := by
          rw [List.length_append, List.length_append]; show _ = c + (r.2.2.length + (F (r.2.1 + 1)).2.2.length + 1); omega
        have next := ih (i + 1) (true, (F (r.2.1 + 1)).2.1, r.2.2 ++ (F (r.2.1 + 1)).2.2 ++ [(6, 0, 0)]) ⟨by show p ≤ (F (r.2.1 + 1)).2.1; omega, hq.2.1, by rw [List.length_append, List.length_append]; show r.2.2.length + (F (r.2.1 + 1)).2.2.length + 1 + p ≤ (F (r.2.1 + 1)).2.1; omega⟩ (by omega) rfl h
        refine Z_iload_n dX4_both_12 rfl rfl ?_
        refine Z_bipush (v := 100) dX4_both_13 (by decide) ?_
        refine Z_icmp_ge (tgt := 49) dX4_both_15 (by decide) (fun h15 => ?_) (fun h15 => ?_)
        · skip
          exact absurd h15 (nI_ge (a := i) (b := 100) hi (by omega))
        · skip
          refine Z_aload_n dX4_both_18 rfl rfl ?_
          refine Z_bipush (v := 38) dX4_both_19 (by decide) ?_
          refine Z_V1z (ci := 4) dX4_both_21 to_X4_eats lk_X4_53 iv_X4_eats ⟨rfl, rfl⟩ (cw_i17 hw) (Nat.le_of_ble_eq_true rfl) ⟨rfl, rfl⟩ ⟨by decide, by decide⟩ ?_
          refine k_eats (ch := 38) hC hb.2.1 (by omega) (fun _ => ?_) (fun z => absurd hz z)
          refine Z_if_eq (tgt := 49) dX4_both_24 (by decide) (fun h24 => ?_) (fun h24 => ?_)
          · skip
            exact absurd h24 (by decide)
          · skip
            refine Z_aload_n dX4_both_27 rfl rfl ?_
            refine Z_iload_n dX4_both_28 rfl rfl ?_
            refine Z_V1z (ci := 4) dX4_both_29 to_X4_factor lk_X4_129 iv_X4_factor ⟨rfl, rfl⟩ (cw_i17 hw) (Nat.le_of_ble_eq_true rfl) ⟨rfl, rfl⟩ ⟨by decide, by decide⟩ ?_
            refine hF _ _ _ _ hC (by omega) (by omega) ?_
            rw [ez, hq1]
            refine Z_if_ne (tgt := 37) dX4_both_32 (by decide) (fun h32 => ?_) (fun h32 => ?_)
            · skip
              refine Z_aload_n dX4_both_37 rfl rfl ?_
              refine Z_bipush (v := -2) dX4_both_38 (by decide) ?_
              refine Z_V1z (ci := 4) dX4_both_40 to_X4_emit lk_X4_125 iv_X4_emit ⟨rfl, rfl⟩ (cw_i17 hw) (Nat.le_of_ble_eq_true rfl) ⟨rfl, rfl⟩ ⟨by decide, by decide⟩ ?_
              refine k_emit hC (by omega) ?_
              rw [ez2, el]
              refine Z_iinc (L' := [_, _, _]) dX4_both_43 rfl (by rfl : _ + Int32.ofInt 1 = _ + 1) (by decide) rfl rfl ?_
              refine Z_goto (tgt := 12) dX4_both_46 (by decide) ?_
              rw [nI_1]
              exact next
            · skip
              exact absurd h32 (by decide)
      | false =>
        rw [if_neg (fun z => by rw [hq1] at z; exact Bool.false_ne_true z)] at h
        have el : c + r.2.2.length + (F (r.2.1 + 1)).2.2.length = c + (r.2.2 ++ (F (r.2.1 + 1)).2.2).length := by
          rw [List.length_append]; omega
        refine Z_iload_n dX4_both_12 rfl rfl ?_
        refine Z_bipush (v := 100) dX4_both_13 (by decide) ?_
        refine Z_icmp_ge (tgt := 49) dX4_both_15 (by decide) (fun h15 => ?_) (fun h15 => ?_)
        · skip
          exact absurd h15 (nI_ge (a := i) (b := 100) hi (by omega))
        · skip
          refine Z_aload_n dX4_both_18 rfl rfl ?_
          refine Z_bipush (v := 38) dX4_both_19 (by decide) ?_
          refine Z_V1z (ci := 4) dX4_both_21 to_X4_eats lk_X4_53 iv_X4_eats ⟨rfl, rfl⟩ (cw_i17 hw) (Nat.le_of_ble_eq_true rfl) ⟨rfl, rfl⟩ ⟨by decide, by decide⟩ ?_
          refine k_eats (ch := 38) hC hb.2.1 (by omega) (fun _ => ?_) (fun z => absurd hz z)
          refine Z_if_eq (tgt := 49) dX4_both_24 (by decide) (fun h24 => ?_) (fun h24 => ?_)
          · skip
            exact absurd h24 (by decide)
          · skip
            refine Z_aload_n dX4_both_27 rfl rfl ?_
            refine Z_iload_n dX4_both_28 rfl rfl ?_
            refine Z_V1z (ci := 4) dX4_both_29 to_X4_factor lk_X4_129 iv_X4_factor ⟨rfl, rfl⟩ (cw_i17 hw) (Nat.le_of_ble_eq_true rfl) ⟨rfl, rfl⟩ ⟨by decide, by decide⟩ ?_
            refine hF _ _ _ _ hC (by omega) (by omega) ?_
            rw [ez, hq1, el]
            refine Z_if_ne (tgt := 37) dX4_both_32 (by decide) (fun h32 => ?_) (fun h32 => ?_)
            · skip
              exact absurd rfl h32
            · skip
              refine Z_iconst (v := 0) dX4_both_35 (by decide) ?_
              refine Z_iret dX4_both_36 rfl rfl ⟨by decide, by decide⟩ ?_
              exact h
    · rw [pLoop_f (n + 1) r (fun z => hz z.2), hr] at h
      exact ex_both (F := F) (r := r) hC hb.2.1 hi hz h
theorem k_both {F : Nat → PR} (hF : kRd G α τ N o (d + 2) mX4_factor F) (hok : pOk N F) : kRd G α τ N o (d + 3) mX4_both (fun p => pLoop τ N 38 (6, 0, 0) F 100 (F p)) := by
  intro f p c post hC hp hcp h
  have hN := hC.2.2.2.1
  have hw : CW (RS α f p c) := hC.1
  have hp0 : hP (RS α f p c) 17 0 = some 8 := hC.2.1
  have hq := hok p hp
  refine ZK.of (n := 1) (by decide) (Nat.le_of_ble_eq_true rfl) rfl ?_
  cases hq1 : (F p).1 with
  | true =>
    have next := lp_both (f := f) (post := post) (d := d) hC hcp hF hok 100 0 (F p) ⟨hq.1, hq.2.1, hq.2.2.1⟩ (by omega) hq1 h
    refine Z_aload_n dX4_both_0 rfl rfl ?_
    refine Z_iload_n dX4_both_1 rfl rfl ?_
    refine Z_V1z (ci := 4) dX4_both_2 to_X4_factor lk_X4_129 iv_X4_factor ⟨rfl, rfl⟩ (cw_i17 hw) (Nat.le_of_ble_eq_true rfl) ⟨rfl, rfl⟩ ⟨by decide, by decide⟩ ?_
    refine hF _ _ _ _ hC hp hcp ?_
    rw [hq1]
    refine Z_if_ne (tgt := 10) dX4_both_5 (by decide) (fun h5 => ?_) (fun h5 => ?_)
    · skip
      refine Z_iconst (v := 0) dX4_both_10 (by decide) ?_
      refine Z_istore_n (L' := [_, _, _]) dX4_both_11 rfl (by decide) rfl rfl ?_
      exact next
    · skip
      exact absurd h5 (by decide)
  | false =>
    have e : pLoop τ N 38 (6, 0, 0) F 100 (F p) = F p := pLoop_f 100 _ (fun z => by rw [hq1] at z; exact Bool.false_ne_true z.1)
    have h : post (some (.int (b2i (pLoop τ N 38 (6, 0, 0) F 100 (F p)).1))) (RS α (fem f c ((pLoop τ N 38 (6, 0, 0) F 100 (F p)).2.2.map vEnc)) (pLoop τ N 38 (6, 0, 0) F 100 (F p)).2.1 (c + (pLoop τ N 38 (6, 0, 0) F 100 (F p)).2.2.length)) := h
    rw [e, hq1] at h
    refine Z_aload_n dX4_both_0 rfl rfl ?_
    refine Z_iload_n dX4_both_1 rfl rfl ?_
    refine Z_V1z (ci := 4) dX4_both_2 to_X4_factor lk_X4_129 iv_X4_factor ⟨rfl, rfl⟩ (cw_i17 hw) (Nat.le_of_ble_eq_true rfl) ⟨rfl, rfl⟩ ⟨by decide, by decide⟩ ?_
    refine hF _ _ _ _ hC hp hcp ?_
    rw [hq1]
    refine Z_if_ne (tgt := 10) dX4_both_5 (by decide) (fun h5 => ?_) (fun h5 => ?_)
    · skip
      exact absurd rfl h5
    · skip
      refine Z_iconst (v := 0) dX4_both_8 (by decide) ?_
      refine Z_iret dX4_both_9 rfl rfl ⟨by decide, by decide⟩ ?_
      exact h
theorem ex_either {F : Nat → PR} {r : PR} {i : Nat} (hC : RC α τ N) (hr : r.2.1 ≤ N) (hi : i < 100) (hz : ¬ (r.2.1 < N ∧ τ r.2.1 = 124)) (h : post (some (.int 1)) (RS α f r.2.1 c)) : Z G mX4_either (d + 3) 12 [some (.ref (G.1 + 17)), some (.int (nI o)), some (.int (nI i))] [] (RS α f r.2.1 c) (0, 0) post := by
  have hw : CW (RS α f r.2.1 c) := hC.1
  have hp0 : hP (RS α f r.2.1 c) 17 0 = some 8 := hC.2.1
  refine Z_iload_n dX4_either_12 rfl rfl ?_
  refine Z_bipush (v := 100) dX4_either_13 (by decide) ?_
  refine Z_icmp_ge (tgt := 49) dX4_either_15 (by decide) (fun h15 => ?_) (fun h15 => ?_)
  · skip
    exact absurd h15 (nI_ge (a := i) (b := 100) hi (by omega))
  · skip
    refine Z_aload_n dX4_either_18 rfl rfl ?_
    refine Z_bipush (v := 124) dX4_either_19 (by decide) ?_
    refine Z_V1z (ci := 4) dX4_either_21 to_X4_eats lk_X4_53 iv_X4_eats ⟨rfl, rfl⟩ (cw_i17 hw) (Nat.le_of_ble_eq_true rfl) ⟨rfl, rfl⟩ ⟨by decide, by decide⟩ ?_
    refine k_eats (ch := 124) hC hr (by omega) (fun z => absurd z hz) (fun _ => ?_)
    refine Z_if_eq (tgt := 49) dX4_either_24 (by decide) (fun h24 => ?_) (fun h24 => ?_)
    · skip
      refine Z_iconst (v := 1) dX4_either_49 (by decide) ?_
      refine Z_iret dX4_either_50 rfl rfl ⟨by decide, by decide⟩ ?_
      exact h
    · skip
      exact absurd rfl h24
theorem lp_either {F : Nat → PR} (hC : RC α τ N) (hcp : c ≤ p) (hF : kRd G α τ N o (d + 2) mX4_both F) (hok : pOk N F) : ∀ (n i : Nat) (r : PR), (p ≤ r.2.1 ∧ r.2.1 ≤ N ∧ r.2.2.length + p ≤ r.2.1) → i + n = 100 → r.1 = true → post (some (.int (b2i (pLoop τ N 124 (7, 0, 0) F n r).1))) (RS α (fem f c ((pLoop τ N 124 (7, 0, 0) F n r).2.2.map vEnc)) (pLoop τ N 124 (7, 0, 0) F n r).2.1 (c + (pLoop τ N 124 (7, 0, 0) F n r).2.2.length)) → Z G mX4_either (d + 3) 12 [some (.ref (G.1 + 17)), some (.int (nI o)), some (.int (nI i))] [] (RS α (fem f c (r.2.2.map vEnc)) r.2.1 (c + r.2.2.length)) (0, 0) post := by
  have hN := hC.2.2.2.1
  intro n
  induction n with
  | zero =>
    intro i r hb hn hr h
    have hi : i = 100 := by omega
    subst hi
    have h : post (some (.int (b2i r.1))) (RS α (fem f c (r.2.2.map vEnc)) r.2.1 (c + r.2.2.length)) := h
    rw [hr] at h
    have hw : CW (RS α (fem f c (r.2.2.map vEnc)) r.2.1 (c + r.2.2.length)) := hC.1
    have hp0 : hP (RS α (fem f c (r.2.2.map vEnc)) r.2.1 (c + r.2.2.length)) 17 0 = some 8 := hC.2.1
    refine Z_iload_n dX4_either_12 rfl rfl ?_
    refine Z_bipush (v := 100) dX4_either_13 (by decide) ?_
    refine Z_icmp_ge (tgt := 49) dX4_either_15 (by decide) (fun h15 => ?_) (fun h15 => ?_)
    · skip
      refine Z_iconst (v := 1) dX4_either_49 (by decide) ?_
      refine Z_iret dX4_either_50 rfl rfl ⟨by decide, by decide⟩ ?_
      exact h
    · skip
      exact absurd (by decide) h15
  | succ n ih =>
    intro i r hb hn hr h
    have hi : i < 100 := by omega
    by_cases hz : r.2.1 < N ∧ τ r.2.1 = 124
    · have hw : CW (RS α (fem f c (r.2.2.map vEnc)) r.2.1 (c + r.2.2.length)) := hC.1
      have hp0 : hP (RS α (fem f c (r.2.2.map vEnc)) r.2.1 (c + r.2.2.length)) 17 0 = some 8 := hC.2.1
      have hq := hok (r.2.1 + 1) (by omega)
      have hstep : pLoop τ N 124 (7, 0, 0) F (n + 1) r = if (F (r.2.1 + 1)).1 = true then pLoop τ N 124 (7, 0, 0) F n (true, (F (r.2.1 + 1)).2.1, r.2.2 ++ (F (r.2.1 + 1)).2.2 ++ [(7, 0, 0)]) else (false, (F (r.2.1 + 1)).2.1, r.2.2 ++ (F (r.2.1 + 1)).2.2) := if_pos ⟨hr, hz⟩
      rw [hstep] at h
      have ez : fem (fem f c (r.2.2.map vEnc)) (c + r.2.2.length) ((F (r.2.1 + 1)).2.2.map vEnc) = fem f c ((r.2.2 ++ (F (r.2.1 + 1)).2.2).map vEnc) := by
        rw [List.map_append, fem_app, List.length_map]
      cases hq1 : (F (r.2.1 + 1)).1 with
      | true =>
        rw [if_pos hq1] at h
        have hl := hq.2.2.2 hq1
        have ez2 : u1 (fem f c ((r.2.2 ++ (F (r.2.1 + 1)).2.2).map vEnc)) (c + r.2.2.length + (F (r.2.1 + 1)).2.2.length) (-3) = fem f c ((r.2.2 ++ (F (r.2.1 + 1)).2.2 ++ [(7, 0, 0)]).map vEnc) := by
          rw [List.map_append (l₂ := [(7, 0, 0)]), fem_app, List.length_map, List.length_append, Nat.add_assoc]; rfl
        have el : c + r.2.2.length + (F (r.2.1 + 1)).2.2.length + 1 = c + (r.2.2 ++ (F (r.2.1 + 1)).2.2 ++ [(7, 0, 0)]).length := by
          rw [List.length_append, List.length_append]; show _ = c + (r.2.2.length + (F (r.2.1 + 1)).2.2.length + 1); omega
        have next := ih (i + 1) (true, (F (r.2.1 + 1)).2.1, r.2.2 ++ (F (r.2.1 + 1)).2.2 ++ [(7, 0, 0)]) ⟨by show p ≤ (F (r.2.1 + 1)).2.1; omega, hq.2.1, by rw [List.length_append, List.length_append]; show r.2.2.length + (F (r.2.1 + 1)).2.2.length + 1 + p ≤ (F (r.2.1 + 1)).2.1; omega⟩ (by omega) rfl h
        refine Z_iload_n dX4_either_12 rfl rfl ?_
        refine Z_bipush (v := 100) dX4_either_13 (by decide) ?_
        refine Z_icmp_ge (tgt := 49) dX4_either_15 (by decide) (fun h15 => ?_) (fun h15 => ?_)
        · skip
          exact absurd h15 (nI_ge (a := i) (b := 100) hi (by omega))
        · skip
          refine Z_aload_n dX4_either_18 rfl rfl ?_
          refine Z_bipush (v := 124) dX4_either_19 (by decide) ?_
          refine Z_V1z (ci := 4) dX4_either_21 to_X4_eats lk_X4_53 iv_X4_eats ⟨rfl, rfl⟩ (cw_i17 hw) (Nat.le_of_ble_eq_true rfl) ⟨rfl, rfl⟩ ⟨by decide, by decide⟩ ?_
          refine k_eats (ch := 124) hC hb.2.1 (by omega) (fun _ => ?_) (fun z => absurd hz z)
          refine Z_if_eq (tgt := 49) dX4_either_24 (by decide) (fun h24 => ?_) (fun h24 => ?_)
          · skip
            exact absurd h24 (by decide)
          · skip
            refine Z_aload_n dX4_either_27 rfl rfl ?_
            refine Z_iload_n dX4_either_28 rfl rfl ?_
            refine Z_V1z (ci := 4) dX4_either_29 to_X4_both lk_X4_122 iv_X4_both ⟨rfl, rfl⟩ (cw_i17 hw) (Nat.le_of_ble_eq_true rfl) ⟨rfl, rfl⟩ ⟨by decide, by decide⟩ ?_
            refine hF _ _ _ _ hC (by omega) (by omega) ?_
            rw [ez, hq1]
            refine Z_if_ne (tgt := 37) dX4_either_32 (by decide) (fun h32 => ?_) (fun h32 => ?_)
            · skip
              refine Z_aload_n dX4_either_37 rfl rfl ?_
              refine Z_bipush (v := -3) dX4_either_38 (by decide) ?_
              refine Z_V1z (ci := 4) dX4_either_40 to_X4_emit lk_X4_125 iv_X4_emit ⟨rfl, rfl⟩ (cw_i17 hw) (Nat.le_of_ble_eq_true rfl) ⟨rfl, rfl⟩ ⟨by decide, by decide⟩ ?_
              refine k_emit hC (by omega) ?_
              rw [ez2, el]
              refine Z_iinc (L' := [_, _, _]) dX4_either_43 rfl (by rfl : _ + Int32.ofInt 1 = _ + 1) (by decide) rfl rfl ?_
              refine Z_goto (tgt := 12) dX4_either_46 (by decide) ?_
              rw [nI_1]
              exact next
            · skip
              exact absurd h32 (by decide)
      | false =>
        rw [if_neg (fun z => by rw [hq1] at z; exact Bool.false_ne_true z)] at h
        have el : c + r.2.2.length + (F (r.2.1 + 1)).2.2.length = c + (r.2.2 ++ (F (r.2.1 + 1)).2.2).length := by
          rw [List.length_append]; omega
        refine Z_iload_n dX4_either_12 rfl rfl ?_
        refine Z_bipush (v := 100) dX4_either_13 (by decide) ?_
        refine Z_icmp_ge (tgt := 49) dX4_either_15 (by decide) (fun h15 => ?_) (fun h15 => ?_)
        · skip
          exact absurd h15 (nI_ge (a := i) (b := 100) hi (by omega))
        · skip
          refine Z_aload_n dX4_either_18 rfl rfl ?_
          refine Z_bipush (v := 124) dX4_either_19 (by decide) ?_
          refine Z_V1z (ci := 4) dX4_either_21 to_X4_eats lk_X4_53 iv_X4_eats ⟨rfl, rfl⟩ (cw_i17 hw) (Nat.le_of_ble_eq_true rfl) ⟨rfl, rfl⟩ ⟨by decide, by decide⟩ ?_
          refine k_eats (ch := 124) hC hb.2.1 (by omega) (fun _ => ?_) (fun z => absurd hz z)
          refine Z_if_eq (tgt := 49) dX4_either_24 (by decide) (fun h24 => ?_) (fun h24 => ?_)
          · skip
            exact absurd h24 (by decide)
          · skip
            refine Z_aload_n dX4_either_27 rfl rfl ?_
            refine Z_iload_n dX4_either_28 rfl rfl ?_
            refine Z_V1z (ci := 4) dX4_either_29 to_X4_both lk_X4_122 iv_X4_both ⟨rfl, rfl⟩ (cw_i17 hw) (Nat.le_of_ble_eq_true rfl) ⟨rfl, rfl⟩ ⟨by decide, by decide⟩ ?_
            refine hF _ _ _ _ hC (by omega) (by omega) ?_
            rw [ez, hq1, el]
            refine Z_if_ne (tgt := 37) dX4_either_32 (by decide) (fun h32 => ?_) (fun h32 => ?_)
            · skip
              exact absurd rfl h32
            · skip
              refine Z_iconst (v := 0) dX4_either_35 (by decide) ?_
              refine Z_iret dX4_either_36 rfl rfl ⟨by decide, by decide⟩ ?_
              exact h
    · rw [pLoop_f (n + 1) r (fun z => hz z.2), hr] at h
      exact ex_either (F := F) (r := r) hC hb.2.1 hi hz h
theorem k_either {F : Nat → PR} (hF : kRd G α τ N o (d + 2) mX4_both F) (hok : pOk N F) : kRd G α τ N o (d + 3) mX4_either (fun p => pLoop τ N 124 (7, 0, 0) F 100 (F p)) := by
  intro f p c post hC hp hcp h
  have hN := hC.2.2.2.1
  have hw : CW (RS α f p c) := hC.1
  have hp0 : hP (RS α f p c) 17 0 = some 8 := hC.2.1
  have hq := hok p hp
  refine ZK.of (n := 1) (by decide) (Nat.le_of_ble_eq_true rfl) rfl ?_
  cases hq1 : (F p).1 with
  | true =>
    have next := lp_either (f := f) (post := post) (d := d) hC hcp hF hok 100 0 (F p) ⟨hq.1, hq.2.1, hq.2.2.1⟩ (by omega) hq1 h
    refine Z_aload_n dX4_either_0 rfl rfl ?_
    refine Z_iload_n dX4_either_1 rfl rfl ?_
    refine Z_V1z (ci := 4) dX4_either_2 to_X4_both lk_X4_122 iv_X4_both ⟨rfl, rfl⟩ (cw_i17 hw) (Nat.le_of_ble_eq_true rfl) ⟨rfl, rfl⟩ ⟨by decide, by decide⟩ ?_
    refine hF _ _ _ _ hC hp hcp ?_
    rw [hq1]
    refine Z_if_ne (tgt := 10) dX4_either_5 (by decide) (fun h5 => ?_) (fun h5 => ?_)
    · skip
      refine Z_iconst (v := 0) dX4_either_10 (by decide) ?_
      refine Z_istore_n (L' := [_, _, _]) dX4_either_11 rfl (by decide) rfl rfl ?_
      exact next
    · skip
      exact absurd h5 (by decide)
  | false =>
    have e : pLoop τ N 124 (7, 0, 0) F 100 (F p) = F p := pLoop_f 100 _ (fun z => by rw [hq1] at z; exact Bool.false_ne_true z.1)
    have h : post (some (.int (b2i (pLoop τ N 124 (7, 0, 0) F 100 (F p)).1))) (RS α (fem f c ((pLoop τ N 124 (7, 0, 0) F 100 (F p)).2.2.map vEnc)) (pLoop τ N 124 (7, 0, 0) F 100 (F p)).2.1 (c + (pLoop τ N 124 (7, 0, 0) F 100 (F p)).2.2.length)) := h
    rw [e, hq1] at h
    refine Z_aload_n dX4_either_0 rfl rfl ?_
    refine Z_iload_n dX4_either_1 rfl rfl ?_
    refine Z_V1z (ci := 4) dX4_either_2 to_X4_both lk_X4_122 iv_X4_both ⟨rfl, rfl⟩ (cw_i17 hw) (Nat.le_of_ble_eq_true rfl) ⟨rfl, rfl⟩ ⟨by decide, by decide⟩ ?_
    refine hF _ _ _ _ hC hp hcp ?_
    rw [hq1]
    refine Z_if_ne (tgt := 10) dX4_either_5 (by decide) (fun h5 => ?_) (fun h5 => ?_)
    · skip
      exact absurd rfl h5
    · skip
      refine Z_iconst (v := 0) dX4_either_8 (by decide) ?_
      refine Z_iret dX4_either_9 rfl rfl ⟨by decide, by decide⟩ ?_
      exact h
end CR2
