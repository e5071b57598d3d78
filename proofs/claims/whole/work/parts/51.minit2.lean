section MN2
variable {G : ZG} {d : Nat} {α γ : AH} {post : Option Value → AH → Prop} {f : Nat → Int32}
def gI (f : Nat → Int32) : Nat → Nat → Int32
  | 0 => f
  | i + 1 => u1 (gI f i) (128 + i) 3
theorem gI_at : ∀ (n i : Nat), gI f n i = if 128 ≤ i ∧ i < 128 + n then 3 else f i
  | 0, i => by rw [if_neg (by omega)]; rfl
  | n + 1, i => by
    show u1 (gI f n) (128 + n) 3 i = _
    by_cases e : i = 128 + n
    · rw [e, u1_s, if_pos (by omega)]
    · rw [u1_n e, gI_at n i]
      by_cases h : 128 ≤ i ∧ i < 128 + n
      · rw [if_pos h, if_pos (by omega)]
      · rw [if_neg h, if_neg (by omega)]
/-- the state of a new object -/
def zA0 : ZA := ((fun i => if 128 ≤ i ∧ i < 152 then 3 else 0, fun _ _ _ _ _ _ _ => false), none, [], 0)
theorem MI.rel (q : MI α 17 γ) : MRel zA0 (sIr γ 35 (gI (u1 (hI γ 35) 4 (-1)) 24)) := by
  have h34 : hI (sIr γ 35 (gI (u1 (hI γ 35) 4 (-1)) 24)) 34 = fun _ => 0 := by rw [RS_34]; exact q.2.2.2.1 34 (by omega) (by omega)
  have hk : ∀ k, k ≠ 35 → 34 ≤ k → k < 52 → hI (sIr γ 35 (gI (u1 (hI γ 35) 4 (-1)) 24)) k = fun _ => 0 := fun k h1 h2 h3 => by
    have : hI (sIr γ 35 (gI (u1 (hI γ 35) 4 (-1)) 24)) k = hI γ k := by
      show u1 γ.2.2.1 35 _ k = γ.2.2.1 k
      exact u1_n h1
    rw [this]; exact q.2.2.2.1 k h2 (by omega)
  have h35 : hI γ 35 = fun _ => 0 := q.2.2.2.1 35 (by omega) (by omega)
  refine ⟨q.mw, ⟨fun i hi => ?_, Nat.le_refl _⟩, ⟨fun i hi h4 => ?_, ?_, fun a ha => absurd ha (Nat.not_lt_zero a)⟩, ?_, ⟨Nat.zero_le _, ?_, fun i hi => absurd hi (Nat.not_lt_zero i)⟩, 0, Nat.le_refl _, by decide, ?_, fun i => ⟨0, Nat.zero_le _, ?_⟩, fun r hr i => ⟨0, Nat.zero_le _, ?_⟩⟩
  · show (if 128 ≤ i ∧ i < 152 then 3 else 0) ≤ zbd i
    by_cases h : 128 ≤ i ∧ i < 152
    · rw [if_pos h]
      have := zbd_row (j := i - 128) (by omega)
      rw [show 128 + (i - 128) = i by omega] at this
      omega
    · rw [if_neg h]; exact Nat.zero_le _
  · rw [RS_35, gI_at, h35]
    show _ = nI (if 128 ≤ i ∧ i < 152 then 3 else 0)
    by_cases h : 128 ≤ i ∧ i < 152
    · rw [if_pos h, if_pos h]; rfl
    · rw [if_neg h, if_neg h, u1_n h4]; rfl
  · rw [RS_35, gI_at, if_neg (by omega), u1_s]; rfl
  · show hI _ 34 3 = 0
    rw [h34]
  · rw [h34]; rfl
  · rw [h34]; rfl
  · rw [hk 39 (by omega) (by omega) (by omega)]; rfl
  · rw [hk r (by omega) (by omega) (by omega)]; rfl
theorem lp_minit {u : Nat × Nat} (hu : u.1 ≤ 20 ∧ u.2 ≤ 80000) (hmw : MW γ) (h : post none (sIr γ 35 (gI f 24))) : ∀ (j i : Nat), i + j = 24 → Z G mX12_init (d + 2) 162 [some (.ref (G.1 + 34)), some (.int (nI i))] [] (sIr γ 35 (gI f i)) u post := by
  have hm : ∀ {f : Nat → Int32}, MW (sIr γ 35 f) := hmw
  intro j
  induction j with
  | zero =>
    intro i hi
    have hi : i = 24 := by omega
    subst hi
    refine Z_iload_n dX12_init_162 rfl rfl ?_
    refine Z_bipush (v := 24) dX12_init_163 (by decide) ?_
    refine Z_icmp_ge (tgt := 185) dX12_init_165 (by decide) (fun h165 => ?_) (fun h165 => ?_)
    · skip
      refine Z_vret dX12_init_185 rfl hu ?_
      exact h
    · skip
      exact absurd (by decide) h165
  | succ j ih =>
    intro i hi
    refine Z_iload_n dX12_init_162 rfl rfl ?_
    refine Z_bipush (v := 24) dX12_init_163 (by decide) ?_
    refine Z_icmp_ge (tgt := 185) dX12_init_165 (by decide) (fun h165 => ?_) (fun h165 => ?_)
    · skip
      exact absurd h165 (nI_ge (a := i) (b := 24) (by omega) (by omega))
    · skip
      refine Z_aload_n dX12_init_168 rfl rfl ?_
      refine Z_getR dX12_init_169 cl_12 fl_X12_9_12 rfl (mw_i34 hm) (mw_p34_1 hm) ?_
      refine Z_sipush (v := 128) dX12_init_172 (by decide) ?_
      refine Z_iload_n dX12_init_175 rfl rfl ?_
      refine Z_iadd dX12_init_176 ?_
      refine Z_iconst (v := 3) dX12_init_177 (by decide) ?_
      refine Z_iast dX12_init_178 (mw_i35 hm) (zix_e (m := 128 + i) (nI_add 128 i) (by omega) (by decide)) ?_
      rw [RS_f]
      refine Z_iinc (L' := [_, _]) dX12_init_179 rfl (by rfl : _ + Int32.ofInt 1 = _ + 1) (by decide) rfl rfl ?_
      refine Z_goto (tgt := 162) dX12_init_182 (by decide) ?_
      rw [nI_1]
      exact ih (i + 1) (by omega)
theorem c_minit (h1 : hN α = 35) (h2 : hS α 34 = (16, 33)) (h3 : hI α 34 = fun _ => 0) (h : ∀ β, MRel zA0 β → hN β = 52 → (∀ i, i < 34 → hS β i = hS α i ∧ hI β i = hI α i ∧ hJ β i = hJ α i ∧ hP β i = hP α i) → post none β) : ZK G (d + 2) mX12_init [.ref (G.1 + 34)] α post := by
  refine ZK.of (n := 1) (by decide) (Nat.le_of_ble_eq_true rfl) rfl ?_
  refine Z_aload_n dX12_init_0 rfl rfl ?_
  refine Z_obj dX12_init_1 ob_X12_3 (Nat.le_of_ble_eq_true rfl) ?_
  refine mk_ref (MI.zero h1 h2 h3) (fun γ u q hu => ?_)
  have hm := q.mw
  have key := lp_minit (G := G) (d := d) (post := post) (f := u1 (hI γ 35) 4 (-1)) hu hm (h _ q.rel q.1 (fun i hi => ⟨(q.2.2.2.2 i hi).1, by
    show u1 γ.2.2.1 35 _ i = _
    rw [u1_n (by omega)]; exact (q.2.2.2.2 i hi).2.1, (q.2.2.2.2 i hi).2.2.1, (q.2.2.2.2 i hi).2.2.2⟩)) 24 0 rfl
  refine Z_aload_n dX12_init_153 rfl rfl ?_
  refine Z_getR dX12_init_154 cl_12 fl_X12_9_12 rfl (mw_i34 hm) (mw_p34_1 hm) ?_
  refine Z_iconst (v := 4) dX12_init_157 (by decide) ?_
  refine Z_iconst (v := -1) dX12_init_158 (by decide) ?_
  refine Z_iast dX12_init_159 (mw_i35 hm) (zix_k (m := 4) (by decide)) ?_
  rw [RS_1]
  refine Z_iconst (v := 0) dX12_init_160 (by decide) ?_
  refine Z_istore_n (L' := [_, _]) dX12_init_161 rfl (by decide) rfl rfl ?_
  exact key
end MN2
