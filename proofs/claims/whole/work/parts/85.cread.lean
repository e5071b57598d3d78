section CR1
variable {G : ZG} {d : Nat} {α : AH} {post : Option Value → AH → Prop} {τ : Nat → Nat} {N p o c : Nat} {f : Nat → Int32}
/-- the class's heap while it reads: row 19 is f, it stands at p, has written c -/
def RS (α : AH) (f : Nat → Int32) (p c : Nat) : AH := (α.1, α.2.1, fun k => if k = 17 then (fun j => if j = 2 then nI p else if j = 4 then nI c else α.2.2.1 17 j) else if k = 19 then f else α.2.2.1 k, α.2.2.2.1, α.2.2.2.2)
theorem RS_at {q : Nat} : sI (RS α f p c) 17 2 (nI q) = RS α f q c := by
  refine congrArg (fun z => ((α.1, α.2.1, z, α.2.2.2.1, α.2.2.2.2) : AH)) ?_
  funext k j
  show u2 (RS α f p c).2.2.1 17 2 (nI q) k j = (RS α f q c).2.2.1 k j
  unfold u2 u1 RS
  by_cases hk : k = 17
  · subst hk; by_cases hj : j = 2 <;> simp [hj]
  · simp [hk]
theorem RS_ln {q : Nat} : sI (RS α f p c) 17 4 (nI q) = RS α f p q := by
  refine congrArg (fun z => ((α.1, α.2.1, z, α.2.2.2.1, α.2.2.2.2) : AH)) ?_
  funext k j
  show u2 (RS α f p c).2.2.1 17 4 (nI q) k j = (RS α f p q).2.2.1 k j
  unfold u2 u1 RS
  by_cases hk : k = 17
  · subst hk; by_cases hj : j = 4 <;> simp [hj]
  · simp [hk]
theorem RS_cd {i : Nat} {x : Int32} : sI (RS α f p c) 19 i x = RS α (u1 f i x) p c := by
  refine congrArg (fun z => ((α.1, α.2.1, z, α.2.2.2.1, α.2.2.2.2) : AH)) ?_
  funext k j
  show u2 (RS α f p c).2.2.1 19 i x k j = (RS α (u1 f i x) p c).2.2.1 k j
  unfold u2 u1 RS
  by_cases hk : k = 19
  · subst hk; simp
  · simp [hk]
theorem RS_2 : hI (RS α f p c) 17 2 = nI p := rfl
theorem RS_4 : hI (RS α f p c) 17 4 = nI c := rfl
def RC (α : AH) (τ : Nat → Nat) (N : Nat) : Prop := CW α ∧ hP α 17 0 = some 8 ∧ hI α 17 1 = nI N ∧ N ≤ 100 ∧ (∀ i, i < N → hI α 8 i = nI (τ i)) ∧ ∀ i, i < N → τ i ≤ 127
theorem k_sees {ch : Nat} (hC : RC α τ N) (hp : p ≤ N) (hc : ch ≤ 127) (h1 : p < N ∧ τ p = ch → post (some (.int 1)) (RS α f p c)) (h0 : ¬ (p < N ∧ τ p = ch) → post (some (.int 0)) (RS α f p c)) : ZK G (d + 1) mX4_sees [.ref (G.1 + 17), .int (nI ch)] (RS α f p c) post := by
  have hw : CW (RS α f p c) := hC.1
  have hp0 : hP (RS α f p c) 17 0 = some 8 := hC.2.1
  have v1 : hI (RS α f p c) 17 1 = nI N := hC.2.2.1
  have hN := hC.2.2.2.1
  refine ZK.of (n := 0) (by decide) (Nat.le_of_ble_eq_true rfl) rfl ?_
  by_cases hq : p < N
  · have v8 : hI (RS α f p c) 8 p = nI (τ p) := hC.2.2.2.2.1 p hq
    have hτ := hC.2.2.2.2.2 p hq
    refine Z_aload_n dX4_sees_0 rfl rfl ?_
    refine Z_getIv dX4_sees_1 cl_4 fl_X4_31_4 rfl (cw_i17 hw) RS_2 ?_
    refine Z_aload_n dX4_sees_4 rfl rfl ?_
    refine Z_getIv dX4_sees_5 cl_4 fl_X4_27_4 rfl (cw_i17 hw) v1 ?_
    refine Z_icmp_ge (tgt := 28) dX4_sees_8 (by decide) (fun h8 => ?_) (fun h8 => ?_)
    · skip
      exact absurd h8 (nI_ge hq (by omega))
    · skip
      refine Z_aload_n dX4_sees_11 rfl rfl ?_
      refine Z_getR dX4_sees_12 cl_4 fl_X4_9_4 rfl (cw_i17 hw) hp0 ?_
      refine Z_aload_n dX4_sees_15 rfl rfl ?_
      refine Z_getIv dX4_sees_16 cl_4 fl_X4_31_4 rfl (cw_i17 hw) RS_2 ?_
      refine Z_ialdv dX4_sees_19 (cw_i8 hw) (zix_nI (m := p) (by omega) (by decide)) v8 ?_
      refine Z_iload_n dX4_sees_20 rfl rfl ?_
      refine Z_icmp_ne (tgt := 28) dX4_sees_21 (by decide) (fun h21 => ?_) (fun h21 => ?_)
      · skip
        refine Z_iconst (v := 0) dX4_sees_28 (by decide) ?_
        refine Z_iret dX4_sees_29 rfl rfl ⟨by decide, by decide⟩ ?_
        first
          | (have z : nI (τ p) = nI ch := h21
             exact h1 ⟨hq, (nI_eq (by omega) (by omega)).mp z⟩)
          | (have z : ¬ nI (τ p) = nI ch := h21
             exact h0 (fun y => z (congrArg nI y.2)))
      · skip
        refine Z_iconst (v := 1) dX4_sees_24 (by decide) ?_
        refine Z_goto (tgt := 29) dX4_sees_25 (by decide) ?_
        refine Z_iret dX4_sees_29 rfl rfl ⟨by decide, by decide⟩ ?_
        first
          | (have z : nI (τ p) = nI ch := h21
             exact h1 ⟨hq, (nI_eq (by omega) (by omega)).mp z⟩)
          | (have z : ¬ nI (τ p) = nI ch := h21
             exact h0 (fun y => z (congrArg nI y.2)))
  · skip
    refine Z_aload_n dX4_sees_0 rfl rfl ?_
    refine Z_getIv dX4_sees_1 cl_4 fl_X4_31_4 rfl (cw_i17 hw) RS_2 ?_
    refine Z_aload_n dX4_sees_4 rfl rfl ?_
    refine Z_getIv dX4_sees_5 cl_4 fl_X4_27_4 rfl (cw_i17 hw) v1 ?_
    refine Z_icmp_ge (tgt := 28) dX4_sees_8 (by decide) (fun h8 => ?_) (fun h8 => ?_)
    · skip
      refine Z_iconst (v := 0) dX4_sees_28 (by decide) ?_
      refine Z_iret dX4_sees_29 rfl rfl ⟨by decide, by decide⟩ ?_
      exact h0 (fun z => hq z.1)
    · skip
      exact absurd (nI_le (by omega) (by omega)) h8
theorem k_eats {ch : Nat} (hC : RC α τ N) (hp : p ≤ N) (hc : ch ≤ 127) (h1 : p < N ∧ τ p = ch → post (some (.int 1)) (RS α f (p + 1) c)) (h0 : ¬ (p < N ∧ τ p = ch) → post (some (.int 0)) (RS α f p c)) : ZK G (d + 2) mX4_eats [.ref (G.1 + 17), .int (nI ch)] (RS α f p c) post := by
  have hw : CW (RS α f p c) := hC.1
  have hp0 : hP (RS α f p c) 17 0 = some 8 := hC.2.1
  refine ZK.of (n := 0) (by decide) (Nat.le_of_ble_eq_true rfl) rfl ?_
  by_cases hq : p < N ∧ τ p = ch
  · skip
    refine Z_aload_n dX4_eats_0 rfl rfl ?_
    refine Z_iload_n dX4_eats_1 rfl rfl ?_
    refine Z_V1z (ci := 4) dX4_eats_2 to_X4_sees lk_X4_71 iv_X4_sees ⟨rfl, rfl⟩ (cw_i17 hw) (Nat.le_of_ble_eq_true rfl) ⟨rfl, rfl⟩ ⟨by decide, by decide⟩ ?_
    refine k_sees hC hp hc (fun _ => ?_) (fun z => absurd hq z)
    refine Z_if_ne (tgt := 10) dX4_eats_5 (by decide) (fun h5 => ?_) (fun h5 => ?_)
    · skip
      refine Z_aload_n dX4_eats_10 rfl rfl ?_
      refine Z_dup dX4_eats_11 rfl ?_
      refine Z_getIv dX4_eats_12 cl_4 fl_X4_31_4 rfl (cw_i17 hw) RS_2 ?_
      refine Z_iconst (v := 1) dX4_eats_15 (by decide) ?_
      refine Z_iadd dX4_eats_16 ?_
      refine Z_putI dX4_eats_17 cl_4 fl_X4_31_4 (Or.inl fn_4_2) rfl (cw_i17 hw) rfl rfl ?_
      rw [nI_1, RS_at]
      refine Z_iconst (v := 1) dX4_eats_20 (by decide) ?_
      refine Z_iret dX4_eats_21 rfl rfl ⟨by decide, by decide⟩ ?_
      exact h1 hq
    · skip
      exact absurd h5 (by decide)
  · skip
    refine Z_aload_n dX4_eats_0 rfl rfl ?_
    refine Z_iload_n dX4_eats_1 rfl rfl ?_
    refine Z_V1z (ci := 4) dX4_eats_2 to_X4_sees lk_X4_71 iv_X4_sees ⟨rfl, rfl⟩ (cw_i17 hw) (Nat.le_of_ble_eq_true rfl) ⟨rfl, rfl⟩ ⟨by decide, by decide⟩ ?_
    refine k_sees hC hp hc (fun z => absurd z hq) (fun _ => ?_)
    refine Z_if_ne (tgt := 10) dX4_eats_5 (by decide) (fun h5 => ?_) (fun h5 => ?_)
    · skip
      exact absurd rfl h5
    · skip
      refine Z_iconst (v := 0) dX4_eats_8 (by decide) ?_
      refine Z_iret dX4_eats_9 rfl rfl ⟨by decide, by decide⟩ ?_
      exact h0 hq
theorem lp_eatsAll {i : Nat} (hi : i < 12) (hC : RC α τ N) : ∀ (l : List Nat) (k p : Nat), (zCh i).drop k = l → k ≤ (zCh i).length → p ≤ N → post (some (.int (b2i (pSpell τ N l p).1))) (RS α f (pSpell τ N l p).2 c) → Z G mX4_eatsAll (d + 5) 2 [some (.ref (G.1 + 17)), some (.ref (G.2 (10 + i))), some (.int (nI k))] [] (RS α f p c) (0, 0) post := by
  have hw : ∀ {p : Nat}, CW (RS α f p c) := hC.1
  have hp0 : ∀ {p : Nat}, hP (RS α f p c) 17 0 = some 8 := hC.2.1
  have hl := zCh_len i hi
  have h10 := zCh_l10 i hi
  intro l
  induction l with
  | nil =>
    intro k p hk hkle hp h
    have hk := List.drop_eq_nil_iff.mp hk
    refine Z_iload_n dX4_eatsAll_2 rfl rfl ?_
    refine Z_aload_n dX4_eatsAll_3 rfl rfl ?_
    refine Z_W0z dX4_eatsAll_4 to_J0_length_8abf5 lk_X4_74 iv_J0_length_8abf5 rfl hi (Nat.le_of_ble_eq_true rfl) ⟨rfl, rfl⟩ ⟨by decide, by decide⟩ ?_
    refine c_slength hi ?_
    rw [hl]
    refine Z_icmp_ge (tgt := 30) dX4_eatsAll_7 (by decide) (fun h7 => ?_) (fun h7 => ?_)
    · skip
      refine Z_iconst (v := 1) dX4_eatsAll_30 (by decide) ?_
      refine Z_iret dX4_eatsAll_31 rfl rfl ⟨by decide, by decide⟩ ?_
      exact h
    · skip
      exact absurd (nI_le (by omega) (by omega)) h7
  | cons x l ih =>
    intro k p hk hkle hp h
    have hkl : k < (zCh i).length := Nat.lt_of_not_le (fun z => by rw [List.drop_eq_nil_iff.mpr z] at hk; cases hk)
    have hc : (zCh i).getD k 0 = x := by
      rw [List.getD_eq_getElem?_getD, ← List.head?_drop, hk]; rfl
    have hx := zCh_le i hi k hkl
    rw [hc] at hx
    have hd : (zCh i).drop (k + 1) = l := by
      rw [← List.drop_drop, hk]; rfl
    by_cases hq : p < N ∧ τ p = x
    · have e : pSpell τ N (x :: l) p = pSpell τ N l (p + 1) := if_pos hq
      rw [e] at h
      refine Z_iload_n dX4_eatsAll_2 rfl rfl ?_
      refine Z_aload_n dX4_eatsAll_3 rfl rfl ?_
      refine Z_W0z dX4_eatsAll_4 to_J0_length_8abf5 lk_X4_74 iv_J0_length_8abf5 rfl hi (Nat.le_of_ble_eq_true rfl) ⟨rfl, rfl⟩ ⟨by decide, by decide⟩ ?_
      refine c_slength hi ?_
      rw [hl]
      refine Z_icmp_ge (tgt := 30) dX4_eatsAll_7 (by decide) (fun h7 => ?_) (fun h7 => ?_)
      · skip
        exact absurd h7 (nI_ge hkl (by omega))
      · skip
        refine Z_aload_n dX4_eatsAll_10 rfl rfl ?_
        refine Z_aload_n dX4_eatsAll_11 rfl rfl ?_
        refine Z_iload_n dX4_eatsAll_12 rfl rfl ?_
        refine Z_W1z dX4_eatsAll_13 to_J0_charAt_5068e lk_X4_79 iv_J0_charAt_5068e rfl hi (Nat.le_of_ble_eq_true rfl) ⟨rfl, rfl⟩ ⟨by decide, by decide⟩ ?_
        refine c_scharAt hi hkl ?_
        rw [hc]
        refine Z_V1z (ci := 4) dX4_eatsAll_16 to_X4_eats lk_X4_53 iv_X4_eats ⟨rfl, rfl⟩ (cw_i17 hw) (Nat.le_of_ble_eq_true rfl) ⟨rfl, rfl⟩ ⟨by decide, by decide⟩ ?_
        refine k_eats hC hp hx (fun _ => ?_) (fun z => absurd hq z)
        refine Z_if_ne (tgt := 24) dX4_eatsAll_19 (by decide) (fun h19 => ?_) (fun h19 => ?_)
        · skip
          refine Z_iinc (L' := [_, _, _]) dX4_eatsAll_24 rfl (by rfl : _ + Int32.ofInt 1 = _ + 1) (by decide) rfl rfl ?_
          refine Z_goto (tgt := 2) dX4_eatsAll_27 (by decide) ?_
          rw [nI_1]
          exact ih (k + 1) (p + 1) hd (by omega) (by omega) h
        · skip
          exact absurd h19 (by decide)
    · have e : pSpell τ N (x :: l) p = (false, p) := if_neg hq
      rw [e] at h
      refine Z_iload_n dX4_eatsAll_2 rfl rfl ?_
      refine Z_aload_n dX4_eatsAll_3 rfl rfl ?_
      refine Z_W0z dX4_eatsAll_4 to_J0_length_8abf5 lk_X4_74 iv_J0_length_8abf5 rfl hi (Nat.le_of_ble_eq_true rfl) ⟨rfl, rfl⟩ ⟨by decide, by decide⟩ ?_
      refine c_slength hi ?_
      rw [hl]
      refine Z_icmp_ge (tgt := 30) dX4_eatsAll_7 (by decide) (fun h7 => ?_) (fun h7 => ?_)
      · skip
        exact absurd h7 (nI_ge hkl (by omega))
      · skip
        refine Z_aload_n dX4_eatsAll_10 rfl rfl ?_
        refine Z_aload_n dX4_eatsAll_11 rfl rfl ?_
        refine Z_iload_n dX4_eatsAll_12 rfl rfl ?_
        refine Z_W1z dX4_eatsAll_13 to_J0_charAt_5068e lk_X4_79 iv_J0_charAt_5068e rfl hi (Nat.le_of_ble_eq_true rfl) ⟨rfl, rfl⟩ ⟨by decide, by decide⟩ ?_
        refine c_scharAt hi hkl ?_
        rw [hc]
        refine Z_V1z (ci := 4) dX4_eatsAll_16 to_X4_eats lk_X4_53 iv_X4_eats ⟨rfl, rfl⟩ (cw_i17 hw) (Nat.le_of_ble_eq_true rfl) ⟨rfl, rfl⟩ ⟨by decide, by decide⟩ ?_
        refine k_eats hC hp hx (fun z => absurd z hq) (fun _ => ?_)
        refine Z_if_ne (tgt := 24) dX4_eatsAll_19 (by decide) (fun h19 => ?_) (fun h19 => ?_)
        · skip
          exact absurd rfl h19
        · skip
          refine Z_iconst (v := 0) dX4_eatsAll_22 (by decide) ?_
          refine Z_iret dX4_eatsAll_23 rfl rfl ⟨by decide, by decide⟩ ?_
          exact h
theorem k_eatsAll {i : Nat} (hi : i < 12) (hC : RC α τ N) (hp : p ≤ N) (h : post (some (.int (b2i (pSpell τ N (zCh i) p).1))) (RS α f (pSpell τ N (zCh i) p).2 c)) : ZK G (d + 5) mX4_eatsAll [.ref (G.1 + 17), .ref (G.2 (10 + i))] (RS α f p c) post := by
  refine ZK.of (n := 1) (by decide) (Nat.le_of_ble_eq_true rfl) rfl ?_
  refine Z_iconst (v := 0) dX4_eatsAll_0 (by decide) ?_
  refine Z_istore_n (L' := [_, _, _]) dX4_eatsAll_1 rfl (by decide) rfl rfl ?_
  exact lp_eatsAll hi hC (zCh i) 0 p (List.drop_zero) (Nat.zero_le _) hp h
theorem zb_chr : ∀ c : Nat, c < 128 → ((nI c).toUInt32 % 65536).toInt32 = nI c := by decide
theorem k_oneOf {i : Nat} (hi : i < 12) (hC : RC α τ N) (hp : p ≤ N) (h1 : pIx τ N (zCh i) p < (zCh i).length → post (some (.int (nI (pIx τ N (zCh i) p)))) (RS α f (p + 1) c)) (h0 : ¬ pIx τ N (zCh i) p < (zCh i).length → post (some (.int (-1))) (RS α f p c)) : ZK G (d + 6) mX4_eatsOneOf [.ref (G.1 + 17), .ref (G.2 (10 + i))] (RS α f p c) post := by
  have hw : CW (RS α f p c) := hC.1
  have hp0 : hP (RS α f p c) 17 0 = some 8 := hC.2.1
  have v1 : hI (RS α f p c) 17 1 = nI N := hC.2.2.1
  have hN := hC.2.2.2.1
  have h10 := zCh_l10 i hi
  refine ZK.of (n := 1) (by decide) (Nat.le_of_ble_eq_true rfl) rfl ?_
  by_cases hq : p < N
  · have v8 : hI (RS α f p c) 8 p = nI (τ p) := hC.2.2.2.2.1 p hq
    have hτ := hC.2.2.2.2.2 p hq
    have e : pIx τ N (zCh i) p = (zCh i).idxOf (τ p) := if_pos hq
    rw [e] at h1 h0
    by_cases hx : (zCh i).idxOf (τ p) < (zCh i).length
    · have e2 : zixx (zCh i) (τ p) = nI ((zCh i).idxOf (τ p)) := if_pos hx
      refine Z_aload_n dX4_eatsOneOf_0 rfl rfl ?_
      refine Z_getIv dX4_eatsOneOf_1 cl_4 fl_X4_31_4 rfl (cw_i17 hw) RS_2 ?_
      refine Z_aload_n dX4_eatsOneOf_4 rfl rfl ?_
      refine Z_getIv dX4_eatsOneOf_5 cl_4 fl_X4_27_4 rfl (cw_i17 hw) v1 ?_
      refine Z_icmp_lt (tgt := 13) dX4_eatsOneOf_8 (by decide) (fun h8 => ?_) (fun h8 => ?_)
      · skip
        refine Z_aload_n dX4_eatsOneOf_13 rfl rfl ?_
        refine Z_aload_n dX4_eatsOneOf_14 rfl rfl ?_
        refine Z_getR dX4_eatsOneOf_15 cl_4 fl_X4_9_4 rfl (cw_i17 hw) hp0 ?_
        refine Z_aload_n dX4_eatsOneOf_18 rfl rfl ?_
        refine Z_getIv dX4_eatsOneOf_19 cl_4 fl_X4_31_4 rfl (cw_i17 hw) RS_2 ?_
        refine Z_ialdv dX4_eatsOneOf_22 (cw_i8 hw) (zix_nI (m := p) (by omega) (by decide)) v8 ?_
        refine Z_i2c dX4_eatsOneOf_23 ?_
        rw [zb_chr _ (by omega)]
        refine Z_W1z dX4_eatsOneOf_24 to_J0_indexOf_0f7a4 lk_X4_83 iv_J0_indexOf_0f7a4 rfl hi (Nat.le_of_ble_eq_true rfl) ⟨rfl, rfl⟩ ⟨by decide, by decide⟩ ?_
        refine c_sidx hi (by omega) ?_
        rw [e2]
        refine Z_istore_n (L' := [_, _, _]) dX4_eatsOneOf_27 rfl (by decide) rfl rfl ?_
        refine Z_iload_n dX4_eatsOneOf_28 rfl rfl ?_
        refine Z_if_lt (tgt := 42) dX4_eatsOneOf_29 (by decide) (fun h29 => ?_) (fun h29 => ?_)
        · skip
          exact absurd h29 (nI_pos (by omega))
        · skip
          refine Z_aload_n dX4_eatsOneOf_32 rfl rfl ?_
          refine Z_dup dX4_eatsOneOf_33 rfl ?_
          refine Z_getIv dX4_eatsOneOf_34 cl_4 fl_X4_31_4 rfl (cw_i17 hw) RS_2 ?_
          refine Z_iconst (v := 1) dX4_eatsOneOf_37 (by decide) ?_
          refine Z_iadd dX4_eatsOneOf_38 ?_
          refine Z_putI dX4_eatsOneOf_39 cl_4 fl_X4_31_4 (Or.inl fn_4_2) rfl (cw_i17 hw) rfl rfl ?_
          rw [nI_1, RS_at]
          refine Z_iload_n dX4_eatsOneOf_42 rfl rfl ?_
          refine Z_iret dX4_eatsOneOf_43 rfl rfl ⟨by decide, by decide⟩ ?_
          exact h1 hx
      · skip
        exact absurd (nI_lt hq (by omega)) h8
    · have e2 : zixx (zCh i) (τ p) = -1 := if_neg hx
      refine Z_aload_n dX4_eatsOneOf_0 rfl rfl ?_
      refine Z_getIv dX4_eatsOneOf_1 cl_4 fl_X4_31_4 rfl (cw_i17 hw) RS_2 ?_
      refine Z_aload_n dX4_eatsOneOf_4 rfl rfl ?_
      refine Z_getIv dX4_eatsOneOf_5 cl_4 fl_X4_27_4 rfl (cw_i17 hw) v1 ?_
      refine Z_icmp_lt (tgt := 13) dX4_eatsOneOf_8 (by decide) (fun h8 => ?_) (fun h8 => ?_)
      · skip
        refine Z_aload_n dX4_eatsOneOf_13 rfl rfl ?_
        refine Z_aload_n dX4_eatsOneOf_14 rfl rfl ?_
        refine Z_getR dX4_eatsOneOf_15 cl_4 fl_X4_9_4 rfl (cw_i17 hw) hp0 ?_
        refine Z_aload_n dX4_eatsOneOf_18 rfl rfl ?_
        refine Z_getIv dX4_eatsOneOf_19 cl_4 fl_X4_31_4 rfl (cw_i17 hw) RS_2 ?_
        refine Z_ialdv dX4_eatsOneOf_22 (cw_i8 hw) (zix_nI (m := p) (by omega) (by decide)) v8 ?_
        refine Z_i2c dX4_eatsOneOf_23 ?_
        rw [zb_chr _ (by omega)]
        refine Z_W1z dX4_eatsOneOf_24 to_J0_indexOf_0f7a4 lk_X4_83 iv_J0_indexOf_0f7a4 rfl hi (Nat.le_of_ble_eq_true rfl) ⟨rfl, rfl⟩ ⟨by decide, by decide⟩ ?_
        refine c_sidx hi (by omega) ?_
        rw [e2]
        refine Z_istore_n (L' := [_, _, _]) dX4_eatsOneOf_27 rfl (by decide) rfl rfl ?_
        refine Z_iload_n dX4_eatsOneOf_28 rfl rfl ?_
        refine Z_if_lt (tgt := 42) dX4_eatsOneOf_29 (by decide) (fun h29 => ?_) (fun h29 => ?_)
        · skip
          refine Z_iload_n dX4_eatsOneOf_42 rfl rfl ?_
          refine Z_iret dX4_eatsOneOf_43 rfl rfl ⟨by decide, by decide⟩ ?_
          exact h0 hx
        · skip
          exact absurd (by decide) h29
      · skip
        exact absurd (nI_lt hq (by omega)) h8
  · have e : pIx τ N (zCh i) p = (zCh i).length := if_neg hq
    refine Z_aload_n dX4_eatsOneOf_0 rfl rfl ?_
    refine Z_getIv dX4_eatsOneOf_1 cl_4 fl_X4_31_4 rfl (cw_i17 hw) RS_2 ?_
    refine Z_aload_n dX4_eatsOneOf_4 rfl rfl ?_
    refine Z_getIv dX4_eatsOneOf_5 cl_4 fl_X4_27_4 rfl (cw_i17 hw) v1 ?_
    refine Z_icmp_lt (tgt := 13) dX4_eatsOneOf_8 (by decide) (fun h8 => ?_) (fun h8 => ?_)
    · skip
      exact absurd h8 (nI_nlt (by omega) (by omega))
    · skip
      refine Z_iconst (v := -1) dX4_eatsOneOf_11 (by decide) ?_
      refine Z_iret dX4_eatsOneOf_12 rfl rfl ⟨by decide, by decide⟩ ?_
      exact h0 (by omega)
end CR1
