section MN1
variable {G : ZG} {d : Nat} {α γ : AH} {post : Option Value → AH → Prop}
/-- the reference under construction: k arrays made -/
def MI (α : AH) (k : Nat) (γ : AH) : Prop := hN γ = 35 + k ∧ (∀ q ∈ zMo.take (k + 1), zIs γ q.1 q.2) ∧ (∀ q ∈ zMp.take k, hP γ q.1 q.2.1 = some q.2.2) ∧ (∀ i, 34 ≤ i → i < 35 + k → hI γ i = fun _ => 0) ∧ ∀ i, i < 34 → hS γ i = hS α i ∧ hI γ i = hI α i ∧ hJ γ i = hJ α i ∧ hP γ i = hP α i
theorem MI.step {k t N j : Nat} (h : MI α k γ) (ho : zMo.take (k + 2) = zMo.take (k + 1) ++ [(35 + k, t, N)]) (hp : zMp.take (k + 1) = zMp.take k ++ [(34, j, 35 + k)]) (hj : ∀ q ∈ zMp.take k, q.2.1 ≠ j) : MI α (k + 1) (sP (nw γ (t, N) (fun _ => 0)) 34 j (some (35 + k))) := by
  obtain ⟨h1, h2, h3, h4, h5⟩ := h
  have e1 : γ.1 = 35 + k := h1
  refine ⟨by show γ.1 + 1 = 35 + (k + 1); omega, fun q hq => ?_, fun q hq => ?_, fun i hi1 hi2 => ?_, fun i hi => ?_⟩
  · rw [ho] at hq
    rcases List.mem_append.mp hq with hq | hq
    · have := h2 q hq
      refine ⟨by show q.1 < γ.1 + 1; have := this.1; show _; exact Nat.lt_succ_of_lt this, ?_⟩
      show u1 γ.2.1 γ.1 (t, N) q.1 = q.2
      rw [u1_n (show q.1 ≠ γ.1 from Nat.ne_of_lt this.1)]; exact this.2
    · rw [List.mem_singleton.mp hq]
      refine ⟨by show 35 + k < γ.1 + 1; omega, ?_⟩
      show u1 γ.2.1 γ.1 (t, N) (35 + k) = (t, N)
      rw [e1, u1_s]
  · rw [hp] at hq
    show u2 (u1 γ.2.2.2.2 γ.1 (fun _ => none)) 34 j (some (35 + k)) q.1 q.2.1 = some q.2.2
    rcases List.mem_append.mp hq with hq | hq
    · have e34 : ∀ q ∈ zMp, q.1 = 34 := by decide
      have q34 := e34 q (List.mem_of_mem_take hq)
      rw [q34, u2_ne (hj q hq), u1_n (by omega)]
      have := h3 q hq
      rw [q34] at this
      exact this
    · rw [List.mem_singleton.mp hq]; exact u2_at
  · show u1 γ.2.2.1 γ.1 (fun _ => 0) i = _
    by_cases e : i = γ.1
    · rw [e, u1_s]
    · rw [u1_n e]; exact h4 i hi1 (by omega)
  · have := h5 i hi
    refine ⟨?_, ?_, ?_, ?_⟩
    · show u1 γ.2.1 γ.1 (t, N) i = _
      rw [u1_n (by omega)]; exact this.1
    · show u1 γ.2.2.1 γ.1 (fun _ => 0) i = _
      rw [u1_n (by omega)]; exact this.2.1
    · show u1 γ.2.2.2.1 γ.1 (fun _ => 0) i = _
      rw [u1_n (by omega)]; exact this.2.2.1
    · show u2 (u1 γ.2.2.2.2 γ.1 (fun _ => none)) 34 j (some (35 + k)) i = _
      rw [u2_row (by omega), u1_n (by omega)]; exact this.2.2.2
theorem MI.i34 {k t N : Nat} (h : MI α k γ) : zIs (nw γ (t, N) (fun _ => 0)) 34 (16, 33) := by
  have := h.2.1 (34, 16, 33) List.mem_cons_self
  exact ⟨Nat.lt_succ_of_lt this.1, by
    show u1 γ.2.1 γ.1 (t, N) 34 = (16, 33)
    rw [u1_n (show 34 ≠ γ.1 from Nat.ne_of_lt this.1)]; exact this.2⟩
theorem MI.mw (h : MI α 17 γ) : MW γ := ⟨h.2.1, h.2.2.1⟩
theorem MI.zero (h1 : hN α = 35) (h2 : hS α 34 = (16, 33)) (h3 : hI α 34 = fun _ => 0) : MI α 0 α := by
  refine ⟨h1, fun q hq => ?_, fun q hq => absurd hq List.not_mem_nil, fun i hi1 hi2 => ?_, fun i hi => ⟨rfl, rfl, rfl, rfl⟩⟩
  · have hq : q ∈ [((34, 16, 33) : Nat × Nat × Nat)] := hq
    rw [List.mem_singleton.mp hq]
    exact ⟨by rw [h1]; decide, h2⟩
  · have e : i = 34 := by omega
    rw [e]; exact h3
theorem MIk {M : ZM} {pc k t N j : Nat} {L : List (Option Value)} {st : List Value} {u : Nat × Nat} (h : MI α k γ) (ho : zMo.take (k + 2) = zMo.take (k + 1) ++ [(35 + k, t, N)]) (hp : zMp.take (k + 1) = zMp.take k ++ [(34, j, 35 + k)]) (hj : ∀ q ∈ zMp.take k, q.2.1 ≠ j) (c : ∀ γ', MI α (k + 1) γ' → Z G M d pc L st γ' u post) : Z G M d pc L st (sP (nw γ (t, N) (fun _ => 0)) 34 j (some (35 + k))) u post := c _ (h.step ho hp hj)
theorem mk_ref (q : MI α 0 γ) (h : ∀ (γ : AH) (u : Nat × Nat), MI α 17 γ → u.1 ≤ 20 ∧ u.2 ≤ 80000 → Z G mX12_init (d + 2) 153 [some (.ref (G.1 + 34)), none] [] γ u post) : Z G mX12_init (d + 2) 4 [some (.ref (G.1 + 34)), none] [] γ (0, 0) post := by
  refine Z_aload_n dX12_init_4 rfl rfl ?_
  refine Z_sipush (v := 892) dX12_init_5 (by decide) ?_
  refine Z_newa (t := 0) (N := 892) dX12_init_8 rfl (Or.inl ⟨rfl, rfl⟩) wd_55 (by decide) (by decide) (by decide) ⟨by decide, by decide⟩ ?_
  rw [q.1]
  refine Z_putR dX12_init_10 cl_12 fl_X12_9_12 (Or.inr ⟨fn_12_1, rfl⟩) rfl q.i34 rfl rfl ?_
  refine MIk q (by decide) (by decide) (by decide) (fun γ q => ?_)
  refine Z_aload_n dX12_init_13 rfl rfl ?_
  refine Z_sipush (v := 892) dX12_init_14 (by decide) ?_
  refine Z_newa (t := 0) (N := 892) dX12_init_17 rfl (Or.inl ⟨rfl, rfl⟩) wd_55 (by decide) (by decide) (by decide) ⟨by decide, by decide⟩ ?_
  rw [q.1]
  refine Z_putR dX12_init_19 cl_12 fl_X12_15_12 (Or.inr ⟨fn_12_2, rfl⟩) rfl q.i34 rfl rfl ?_
  refine MIk q (by decide) (by decide) (by decide) (fun γ q => ?_)
  refine Z_aload_n dX12_init_22 rfl rfl ?_
  refine Z_iconst (v := 5) dX12_init_23 (by decide) ?_
  refine Z_newa (t := 0) (N := 5) dX12_init_24 rfl (Or.inl ⟨rfl, rfl⟩) wd_55 (by decide) (by decide) (by decide) ⟨by decide, by decide⟩ ?_
  rw [q.1]
  refine Z_putR dX12_init_26 cl_12 fl_X12_18_12 (Or.inr ⟨fn_12_9, rfl⟩) rfl q.i34 rfl rfl ?_
  refine MIk q (by decide) (by decide) (by decide) (fun γ q => ?_)
  refine Z_aload_n dX12_init_29 rfl rfl ?_
  refine Z_bipush (v := 64) dX12_init_30 (by decide) ?_
  refine Z_newa (t := 2) (N := 64) dX12_init_32 rfl (Or.inr (Or.inr ⟨rfl, rfl⟩)) wd_1056 (by decide) (by decide) (by decide) ⟨by decide, by decide⟩ ?_
  rw [q.1]
  refine Z_putR dX12_init_34 cl_12 fl_X12_21_12 (Or.inr ⟨fn_12_10, rfl⟩) rfl q.i34 rfl rfl ?_
  refine MIk q (by decide) (by decide) (by decide) (fun γ q => ?_)
  refine Z_aload_n dX12_init_37 rfl rfl ?_
  refine Z_sipush (v := 1728) dX12_init_38 (by decide) ?_
  refine Z_newa (t := 0) (N := 1728) dX12_init_41 rfl (Or.inl ⟨rfl, rfl⟩) wd_55 (by decide) (by decide) (by decide) ⟨by decide, by decide⟩ ?_
  rw [q.1]
  refine Z_putR dX12_init_43 cl_12 fl_X12_25_12 (Or.inr ⟨fn_12_13, rfl⟩) rfl q.i34 rfl rfl ?_
  refine MIk q (by decide) (by decide) (by decide) (fun γ q => ?_)
  refine Z_aload_n dX12_init_46 rfl rfl ?_
  refine Z_sipush (v := 5832) dX12_init_47 (by decide) ?_
  refine Z_newa (t := 1) (N := 5832) dX12_init_50 rfl (Or.inr (Or.inl ⟨rfl, rfl⟩)) wd_1057 (by decide) (by decide) (by decide) ⟨by decide, by decide⟩ ?_
  rw [q.1]
  refine Z_putR dX12_init_52 cl_12 fl_X12_28_12 (Or.inr ⟨fn_12_14, rfl⟩) rfl q.i34 rfl rfl ?_
  refine MIk q (by decide) (by decide) (by decide) (fun γ q => ?_)
  refine Z_aload_n dX12_init_55 rfl rfl ?_
  refine Z_sipush (v := 5832) dX12_init_56 (by decide) ?_
  refine Z_newa (t := 0) (N := 5832) dX12_init_59 rfl (Or.inl ⟨rfl, rfl⟩) wd_55 (by decide) (by decide) (by decide) ⟨by decide, by decide⟩ ?_
  rw [q.1]
  refine Z_putR dX12_init_61 cl_12 fl_X12_32_12 (Or.inr ⟨fn_12_15, rfl⟩) rfl q.i34 rfl rfl ?_
  refine MIk q (by decide) (by decide) (by decide) (fun γ q => ?_)
  refine Z_aload_n dX12_init_64 rfl rfl ?_
  refine Z_sipush (v := 17496) dX12_init_65 (by decide) ?_
  refine Z_newa (t := 0) (N := 17496) dX12_init_68 rfl (Or.inl ⟨rfl, rfl⟩) wd_55 (by decide) (by decide) (by decide) ⟨by decide, by decide⟩ ?_
  rw [q.1]
  refine Z_putR dX12_init_70 cl_12 fl_X12_35_12 (Or.inr ⟨fn_12_16, rfl⟩) rfl q.i34 rfl rfl ?_
  refine MIk q (by decide) (by decide) (by decide) (fun γ q => ?_)
  refine Z_aload_n dX12_init_73 rfl rfl ?_
  refine Z_sipush (v := 5832) dX12_init_74 (by decide) ?_
  refine Z_newa (t := 1) (N := 5832) dX12_init_77 rfl (Or.inr (Or.inl ⟨rfl, rfl⟩)) wd_1057 (by decide) (by decide) (by decide) ⟨by decide, by decide⟩ ?_
  rw [q.1]
  refine Z_putR dX12_init_79 cl_12 fl_X12_38_12 (Or.inr ⟨fn_12_18, rfl⟩) rfl q.i34 rfl rfl ?_
  refine MIk q (by decide) (by decide) (by decide) (fun γ q => ?_)
  refine Z_aload_n dX12_init_82 rfl rfl ?_
  refine Z_sipush (v := 5832) dX12_init_83 (by decide) ?_
  refine Z_newa (t := 1) (N := 5832) dX12_init_86 rfl (Or.inr (Or.inl ⟨rfl, rfl⟩)) wd_1057 (by decide) (by decide) (by decide) ⟨by decide, by decide⟩ ?_
  rw [q.1]
  refine Z_putR dX12_init_88 cl_12 fl_X12_41_12 (Or.inr ⟨fn_12_19, rfl⟩) rfl q.i34 rfl rfl ?_
  refine MIk q (by decide) (by decide) (by decide) (fun γ q => ?_)
  refine Z_aload_n dX12_init_91 rfl rfl ?_
  refine Z_sipush (v := 5832) dX12_init_92 (by decide) ?_
  refine Z_newa (t := 0) (N := 5832) dX12_init_95 rfl (Or.inl ⟨rfl, rfl⟩) wd_55 (by decide) (by decide) (by decide) ⟨by decide, by decide⟩ ?_
  rw [q.1]
  refine Z_putR dX12_init_97 cl_12 fl_X12_44_12 (Or.inr ⟨fn_12_20, rfl⟩) rfl q.i34 rfl rfl ?_
  refine MIk q (by decide) (by decide) (by decide) (fun γ q => ?_)
  refine Z_aload_n dX12_init_100 rfl rfl ?_
  refine Z_sipush (v := 5832) dX12_init_101 (by decide) ?_
  refine Z_newa (t := 0) (N := 5832) dX12_init_104 rfl (Or.inl ⟨rfl, rfl⟩) wd_55 (by decide) (by decide) (by decide) ⟨by decide, by decide⟩ ?_
  rw [q.1]
  refine Z_putR dX12_init_106 cl_12 fl_X12_47_12 (Or.inr ⟨fn_12_21, rfl⟩) rfl q.i34 rfl rfl ?_
  refine MIk q (by decide) (by decide) (by decide) (fun γ q => ?_)
  refine Z_aload_n dX12_init_109 rfl rfl ?_
  refine Z_sipush (v := 5832) dX12_init_110 (by decide) ?_
  refine Z_newa (t := 0) (N := 5832) dX12_init_113 rfl (Or.inl ⟨rfl, rfl⟩) wd_55 (by decide) (by decide) (by decide) ⟨by decide, by decide⟩ ?_
  rw [q.1]
  refine Z_putR dX12_init_115 cl_12 fl_X12_50_12 (Or.inr ⟨fn_12_22, rfl⟩) rfl q.i34 rfl rfl ?_
  refine MIk q (by decide) (by decide) (by decide) (fun γ q => ?_)
  refine Z_aload_n dX12_init_118 rfl rfl ?_
  refine Z_sipush (v := 5832) dX12_init_119 (by decide) ?_
  refine Z_newa (t := 0) (N := 5832) dX12_init_122 rfl (Or.inl ⟨rfl, rfl⟩) wd_55 (by decide) (by decide) (by decide) ⟨by decide, by decide⟩ ?_
  rw [q.1]
  refine Z_putR dX12_init_124 cl_12 fl_X12_53_12 (Or.inr ⟨fn_12_23, rfl⟩) rfl q.i34 rfl rfl ?_
  refine MIk q (by decide) (by decide) (by decide) (fun γ q => ?_)
  refine Z_aload_n dX12_init_127 rfl rfl ?_
  refine Z_sipush (v := 5832) dX12_init_128 (by decide) ?_
  refine Z_newa (t := 1) (N := 5832) dX12_init_131 rfl (Or.inr (Or.inl ⟨rfl, rfl⟩)) wd_1057 (by decide) (by decide) (by decide) ⟨by decide, by decide⟩ ?_
  rw [q.1]
  refine Z_putR dX12_init_133 cl_12 fl_X12_56_12 (Or.inr ⟨fn_12_24, rfl⟩) rfl q.i34 rfl rfl ?_
  refine MIk q (by decide) (by decide) (by decide) (fun γ q => ?_)
  refine Z_aload_n dX12_init_136 rfl rfl ?_
  refine Z_sipush (v := 5832) dX12_init_137 (by decide) ?_
  refine Z_newa (t := 0) (N := 5832) dX12_init_140 rfl (Or.inl ⟨rfl, rfl⟩) wd_55 (by decide) (by decide) (by decide) ⟨by decide, by decide⟩ ?_
  rw [q.1]
  refine Z_putR dX12_init_142 cl_12 fl_X12_59_12 (Or.inr ⟨fn_12_25, rfl⟩) rfl q.i34 rfl rfl ?_
  refine MIk q (by decide) (by decide) (by decide) (fun γ q => ?_)
  refine Z_aload_n dX12_init_145 rfl rfl ?_
  refine Z_bipush (v := 20) dX12_init_146 (by decide) ?_
  refine Z_newa (t := 0) (N := 20) dX12_init_148 rfl (Or.inl ⟨rfl, rfl⟩) wd_55 (by decide) (by decide) (by decide) ⟨by decide, by decide⟩ ?_
  rw [q.1]
  refine Z_putR dX12_init_150 cl_12 fl_X12_62_12 (Or.inr ⟨fn_12_28, rfl⟩) rfl q.i34 rfl rfl ?_
  refine MIk q (by decide) (by decide) (by decide) (fun γ q => ?_)
  exact h γ _ q ⟨by decide, by decide⟩
end MN1
