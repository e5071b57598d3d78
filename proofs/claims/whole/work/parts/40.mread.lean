section MP1
variable {G : ZG} {d : Nat} {α : AH} {post : Option Value → AH → Prop} {τ : Nat → Nat} {N a p o c : Nat} {f : Nat → Int32} {w : Int32}
/-- the reference's heap while it reads: row 35 is f, it stands at p, is wrong or not, o are open -/
def PS (α : AH) (f : Nat → Int32) (p : Nat) (w : Int32) (o : Nat) : AH := (α.1, α.2.1, fun k => if k = 34 then (fun j => if j = 5 then nI p else if j = 7 then w else if j = 8 then nI o else α.2.2.1 34 j) else if k = 35 then f else α.2.2.1 k, α.2.2.2.1, α.2.2.2.2)
theorem PS_sp {q : Nat} : sI (PS α f p w o) 34 5 (nI q) = PS α f q w o := by
  refine congrArg (fun z => ((α.1, α.2.1, z, α.2.2.2.1, α.2.2.2.2) : AH)) ?_
  funext k j
  show u2 (PS α f p w o).2.2.1 34 5 (nI q) k j = (PS α f q w o).2.2.1 k j
  unfold u2 u1 PS
  by_cases hk : k = 34
  · subst hk; by_cases hj : j = 5 <;> simp [hj]
  · simp [hk]
theorem PS_wr {x : Int32} : sI (PS α f p w o) 34 7 x = PS α f p x o := by
  refine congrArg (fun z => ((α.1, α.2.1, z, α.2.2.2.1, α.2.2.2.2) : AH)) ?_
  funext k j
  show u2 (PS α f p w o).2.2.1 34 7 x k j = (PS α f p x o).2.2.1 k j
  unfold u2 u1 PS
  by_cases hk : k = 34
  · subst hk; by_cases hj : j = 7 <;> simp [hj]
  · simp [hk]
theorem PS_op {q : Nat} : sI (PS α f p w o) 34 8 (nI q) = PS α f p w q := by
  refine congrArg (fun z => ((α.1, α.2.1, z, α.2.2.2.1, α.2.2.2.2) : AH)) ?_
  funext k j
  show u2 (PS α f p w o).2.2.1 34 8 (nI q) k j = (PS α f p w q).2.2.1 k j
  unfold u2 u1 PS
  by_cases hk : k = 34
  · subst hk; by_cases hj : j = 8 <;> simp [hj]
  · simp [hk]
theorem PS_f {i : Nat} {x : Int32} : sI (PS α f p w o) 35 i x = PS α (u1 f i x) p w o := by
  refine congrArg (fun z => ((α.1, α.2.1, z, α.2.2.2.1, α.2.2.2.2) : AH)) ?_
  funext k j
  show u2 (PS α f p w o).2.2.1 35 i x k j = (PS α (u1 f i x) p w o).2.2.1 k j
  unfold u2 u1 PS
  by_cases hk : k = 35
  · subst hk; simp
  · simp [hk]
theorem PS_5 : hI (PS α f p w o) 34 5 = nI p := rfl
theorem PS_7 : hI (PS α f p w o) 34 7 = w := rfl
theorem PS_8 : hI (PS α f p w o) 34 8 = nI o := rfl
theorem PS_4 : hI (PS α f p w o) 34 4 = hI α 34 4 := rfl
theorem PS_6 : hI (PS α f p w o) 34 6 = hI α 34 6 := rfl
theorem PS_35 : hI (PS α f p w o) 35 = f := rfl
def PC (α : AH) (f : Nat → Int32) (τ : Nat → Nat) (N a : Nat) : Prop := MW α ∧ hI α 34 6 = nI N ∧ hI α 34 4 = nI a ∧ N ≤ 100 ∧ a < 5 ∧ (∀ i, i < N → f (12 + i) = nI (τ i)) ∧ (∀ i, i < N → τ i ≤ 127)
theorem PC.mw (h : PC α f τ N a) : MW (PS α f p w o) := h.1
def hv (τ : Nat → Nat) (N p : Nat) : Int32 := if p < N then nI (τ p) else -1
theorem hv_eq (h : PC α f τ N a) {c : Nat} (hc : c ≤ 127) : hv τ N p = nI c ↔ (p < N ∧ τ p = c) := by
  unfold hv
  by_cases hp : p < N
  · have := h.2.2.2.2.2.2 p hp
    rw [if_pos hp, nI_eq (by omega) (by omega)]
    exact ⟨fun e => ⟨hp, e⟩, fun e => e.2⟩
  · rw [if_neg hp]
    exact ⟨fun e => absurd e.symm (nI_nm1 (by omega)), fun e => absurd e.1 hp⟩
theorem c_here (hC : PC α f τ N a) (hp : p ≤ N) (h : post (some (.int (hv τ N p))) (PS α f p w o)) : ZK G (d + 1) mX12_here [.ref (G.1 + 34)] (PS α f p w o) post := by
  have hm : ∀ {f : Nat → Int32} {p : Nat} {w : Int32} {o : Nat}, MW (PS α f p w o) := hC.1
  have hN := hC.2.2.2.1
  unfold hv at h
  refine ZK.of (n := 0) (by decide) (Nat.le_of_ble_eq_true rfl) rfl ?_
  refine Z_aload_n dX12_here_0 rfl rfl ?_
  refine Z_getIv dX12_here_1 cl_12 fl_X12_77_12 rfl (mw_i34 hm) PS_5 ?_
  refine Z_aload_n dX12_here_4 rfl rfl ?_
  refine Z_getIv dX12_here_5 cl_12 fl_X12_80_12 rfl (mw_i34 hm) (PS_6.trans hC.2.1) ?_
  refine Z_icmp_ge (tgt := 26) dX12_here_8 (by decide) (fun h8 => ?_) (fun h8 => ?_)
  · skip
    refine Z_iconst (v := -1) dX12_here_26 (by decide) ?_
    refine Z_iret dX12_here_27 rfl rfl ⟨by decide, by decide⟩ ?_
    first
      | (rw [if_neg (fun z => absurd ((nI_leI (by omega) (by omega)).mp h8) (by omega))] at h; exact h)
      | (rw [if_pos (Nat.lt_of_not_le (fun z => h8 (nI_le z (by omega))))] at h; exact h)
  · skip
    refine Z_aload_n dX12_here_11 rfl rfl ?_
    refine Z_getR dX12_here_12 cl_12 fl_X12_9_12 rfl (mw_i34 hm) (mw_p34_1 hm) ?_
    refine Z_bipush (v := 12) dX12_here_15 (by decide) ?_
    refine Z_aload_n dX12_here_17 rfl rfl ?_
    refine Z_getIv dX12_here_18 cl_12 fl_X12_77_12 rfl (mw_i34 hm) PS_5 ?_
    refine Z_iadd dX12_here_21 ?_
    refine Z_ialdv dX12_here_22 (mw_i35 hm) (zix_e (m := 12 + p) (nI_add 12 p) (by omega) (by decide)) (hC.2.2.2.2.2.1 p (Nat.lt_of_not_le (fun z => h8 (nI_le z (by omega))))) ?_
    refine Z_goto (tgt := 27) dX12_here_23 (by decide) ?_
    refine Z_iret dX12_here_27 rfl rfl ⟨by decide, by decide⟩ ?_
    first
      | (rw [if_neg (fun z => absurd ((nI_leI (by omega) (by omega)).mp h8) (by omega))] at h; exact h)
      | (rw [if_pos (Nat.lt_of_not_le (fun z => h8 (nI_le z (by omega))))] at h; exact h)
theorem c_mustW {x : Int32} (hC : PC α f τ N a) (hp : p ≤ N) (h : post none (PS α f p 1 o)) : ZK G (d + 2) mX12_must [.ref (G.1 + 34), .int x] (PS α f p 1 o) post := by
  have hm : ∀ {f : Nat → Int32} {p : Nat} {w : Int32} {o : Nat}, MW (PS α f p w o) := hC.1
  refine ZK.of (n := 0) (by decide) (Nat.le_of_ble_eq_true rfl) rfl ?_
  refine Z_aload_n dX12_must_0 rfl rfl ?_
  refine Z_aload_n dX12_must_1 rfl rfl ?_
  refine Z_getIv dX12_must_2 cl_12 fl_X12_83_12 rfl (mw_i34 hm) PS_7 ?_
  refine Z_if_ne (tgt := 16) dX12_must_5 (by decide) (fun h5 => ?_) (fun h5 => ?_)
  · skip
    refine Z_iconst (v := 1) dX12_must_16 (by decide) ?_
    refine Z_goto (tgt := 21) dX12_must_17 (by decide) ?_
    refine Z_putI dX12_must_21 cl_12 fl_X12_83_12 (Or.inl fn_12_7) rfl (mw_i34 hm) rfl rfl ?_
    rw [PS_wr]
    refine Z_aload_n dX12_must_24 rfl rfl ?_
    refine Z_dup dX12_must_25 rfl ?_
    refine Z_getIv dX12_must_26 cl_12 fl_X12_77_12 rfl (mw_i34 hm) PS_5 ?_
    refine Z_aload_n dX12_must_29 rfl rfl ?_
    refine Z_getIv dX12_must_30 cl_12 fl_X12_83_12 rfl (mw_i34 hm) PS_7 ?_
    refine Z_if_eq (tgt := 40) dX12_must_33 (by decide) (fun h33 => ?_) (fun h33 => ?_)
    · skip
      exact absurd h33 (by decide)
    · skip
      refine Z_iconst (v := 0) dX12_must_36 (by decide) ?_
      refine Z_goto (tgt := 41) dX12_must_37 (by decide) ?_
      refine Z_iadd dX12_must_41 ?_
      rw [Int32.add_zero]
      refine Z_putI dX12_must_42 cl_12 fl_X12_77_12 (Or.inl fn_12_5) rfl (mw_i34 hm) rfl rfl ?_
      rw [PS_sp]
      refine Z_vret dX12_must_45 rfl ⟨by decide, by decide⟩ ?_
      exact h
  · skip
    exact absurd h5 (by decide)
theorem c_must {c : Nat} (hC : PC α f τ N a) (hp : p ≤ N) (hc : c ≤ 127) (h1 : p < N ∧ τ p = c → post none (PS α f (p + 1) 0 o)) (h0 : ¬ (p < N ∧ τ p = c) → post none (PS α f p 1 o)) : ZK G (d + 2) mX12_must [.ref (G.1 + 34), .int (nI c)] (PS α f p 0 o) post := by
  have hm : ∀ {f : Nat → Int32} {p : Nat} {w : Int32} {o : Nat}, MW (PS α f p w o) := hC.1
  refine ZK.of (n := 0) (by decide) (Nat.le_of_ble_eq_true rfl) rfl ?_
  refine Z_aload_n dX12_must_0 rfl rfl ?_
  refine Z_aload_n dX12_must_1 rfl rfl ?_
  refine Z_getIv dX12_must_2 cl_12 fl_X12_83_12 rfl (mw_i34 hm) PS_7 ?_
  refine Z_if_ne (tgt := 16) dX12_must_5 (by decide) (fun h5 => ?_) (fun h5 => ?_)
  · skip
    exact absurd rfl h5
  · skip
    refine Z_aload_n dX12_must_8 rfl rfl ?_
    refine Z_V0z (ci := 12) dX12_must_9 to_X12_here lk_X12_87 iv_X12_here ⟨rfl, rfl⟩ (mw_i34 hm) (Nat.le_of_ble_eq_true rfl) ⟨rfl, rfl⟩ ⟨by decide, by decide⟩ ?_
    refine c_here hC hp ?_
    refine Z_iload_n dX12_must_12 rfl rfl ?_
    refine Z_icmp_eq (tgt := 20) dX12_must_13 (by decide) (fun h13 => ?_) (fun h13 => ?_)
    · skip
      refine Z_iconst (v := 0) dX12_must_20 (by decide) ?_
      refine Z_putI dX12_must_21 cl_12 fl_X12_83_12 (Or.inl fn_12_7) rfl (mw_i34 hm) rfl rfl ?_
      rw [PS_wr]
      refine Z_aload_n dX12_must_24 rfl rfl ?_
      refine Z_dup dX12_must_25 rfl ?_
      refine Z_getIv dX12_must_26 cl_12 fl_X12_77_12 rfl (mw_i34 hm) PS_5 ?_
      refine Z_aload_n dX12_must_29 rfl rfl ?_
      refine Z_getIv dX12_must_30 cl_12 fl_X12_83_12 rfl (mw_i34 hm) PS_7 ?_
      refine Z_if_eq (tgt := 40) dX12_must_33 (by decide) (fun h33 => ?_) (fun h33 => ?_)
      · skip
        refine Z_iconst (v := 1) dX12_must_40 (by decide) ?_
        refine Z_iadd dX12_must_41 ?_
        refine Z_putI dX12_must_42 cl_12 fl_X12_77_12 (Or.inl fn_12_5) rfl (mw_i34 hm) rfl rfl ?_
        first
          | rw [Int32.add_zero, PS_sp]
          | rw [nI_1, PS_sp]
        refine Z_vret dX12_must_45 rfl ⟨by decide, by decide⟩ ?_
        first
          | exact h1 ((hv_eq hC hc).mp h13)
          | exact h0 (fun z => h13 ((hv_eq hC hc).mpr z))
          | exact absurd h33 (by decide)
          | exact absurd rfl h33
      · skip
        refine Z_iconst (v := 0) dX12_must_36 (by decide) ?_
        refine Z_goto (tgt := 41) dX12_must_37 (by decide) ?_
        refine Z_iadd dX12_must_41 ?_
        refine Z_putI dX12_must_42 cl_12 fl_X12_77_12 (Or.inl fn_12_5) rfl (mw_i34 hm) rfl rfl ?_
        first
          | rw [Int32.add_zero, PS_sp]
          | rw [nI_1, PS_sp]
        refine Z_vret dX12_must_45 rfl ⟨by decide, by decide⟩ ?_
        first
          | exact h1 ((hv_eq hC hc).mp h13)
          | exact h0 (fun z => h13 ((hv_eq hC hc).mpr z))
          | exact absurd h33 (by decide)
          | exact absurd rfl h33
    · skip
      refine Z_iconst (v := 1) dX12_must_16 (by decide) ?_
      refine Z_goto (tgt := 21) dX12_must_17 (by decide) ?_
      refine Z_putI dX12_must_21 cl_12 fl_X12_83_12 (Or.inl fn_12_7) rfl (mw_i34 hm) rfl rfl ?_
      rw [PS_wr]
      refine Z_aload_n dX12_must_24 rfl rfl ?_
      refine Z_dup dX12_must_25 rfl ?_
      refine Z_getIv dX12_must_26 cl_12 fl_X12_77_12 rfl (mw_i34 hm) PS_5 ?_
      refine Z_aload_n dX12_must_29 rfl rfl ?_
      refine Z_getIv dX12_must_30 cl_12 fl_X12_83_12 rfl (mw_i34 hm) PS_7 ?_
      refine Z_if_eq (tgt := 40) dX12_must_33 (by decide) (fun h33 => ?_) (fun h33 => ?_)
      · skip
        refine Z_iconst (v := 1) dX12_must_40 (by decide) ?_
        refine Z_iadd dX12_must_41 ?_
        refine Z_putI dX12_must_42 cl_12 fl_X12_77_12 (Or.inl fn_12_5) rfl (mw_i34 hm) rfl rfl ?_
        first
          | rw [Int32.add_zero, PS_sp]
          | rw [nI_1, PS_sp]
        refine Z_vret dX12_must_45 rfl ⟨by decide, by decide⟩ ?_
        first
          | exact h1 ((hv_eq hC hc).mp h13)
          | exact h0 (fun z => h13 ((hv_eq hC hc).mpr z))
          | exact absurd h33 (by decide)
          | exact absurd rfl h33
      · skip
        refine Z_iconst (v := 0) dX12_must_36 (by decide) ?_
        refine Z_goto (tgt := 41) dX12_must_37 (by decide) ?_
        refine Z_iadd dX12_must_41 ?_
        refine Z_putI dX12_must_42 cl_12 fl_X12_77_12 (Or.inl fn_12_5) rfl (mw_i34 hm) rfl rfl ?_
        first
          | rw [Int32.add_zero, PS_sp]
          | rw [nI_1, PS_sp]
        refine Z_vret dX12_must_45 rfl ⟨by decide, by decide⟩ ?_
        first
          | exact h1 ((hv_eq hC hc).mp h13)
          | exact h0 (fun z => h13 ((hv_eq hC hc).mpr z))
          | exact absurd h33 (by decide)
          | exact absurd rfl h33
theorem lp_spellsW {i : Nat} (hi : i < 12) (hC : PC α f τ N a) (hp : p ≤ N) (h : post none (PS α f p 1 o)) : ∀ (j k : Nat), k + j = (zCh i).length → Z G mX12_spells (d + 5) 2 [some (.ref (G.1 + 34)), some (.ref (G.2 (10 + i))), some (.int (nI k))] [] (PS α f p 1 o) (0, 0) post := by
  have hm : ∀ {f : Nat → Int32} {p : Nat} {w : Int32} {o : Nat}, MW (PS α f p w o) := hC.1
  have hl := zCh_len i hi
  have h10 := zCh_l10 i hi
  intro j
  induction j with
  | zero =>
    intro k hk
    have hk : k = (zCh i).length := by omega
    refine Z_iload_n dX12_spells_2 rfl rfl ?_
    refine Z_aload_n dX12_spells_3 rfl rfl ?_
    refine Z_W0z dX12_spells_4 to_J0_length_8abf5 lk_X12_91 iv_J0_length_8abf5 rfl hi (Nat.le_of_ble_eq_true rfl) ⟨rfl, rfl⟩ ⟨by decide, by decide⟩ ?_
    refine c_slength hi ?_
    rw [hl]
    refine Z_icmp_ge (tgt := 25) dX12_spells_7 (by decide) (fun h7 => ?_) (fun h7 => ?_)
    · skip
      refine Z_vret dX12_spells_25 rfl ⟨by decide, by decide⟩ ?_
      exact h
    · skip
      exact absurd (nI_le (by omega) (by omega)) h7
  | succ j ih =>
    intro k hk
    refine Z_iload_n dX12_spells_2 rfl rfl ?_
    refine Z_aload_n dX12_spells_3 rfl rfl ?_
    refine Z_W0z dX12_spells_4 to_J0_length_8abf5 lk_X12_91 iv_J0_length_8abf5 rfl hi (Nat.le_of_ble_eq_true rfl) ⟨rfl, rfl⟩ ⟨by decide, by decide⟩ ?_
    refine c_slength hi ?_
    rw [hl]
    refine Z_icmp_ge (tgt := 25) dX12_spells_7 (by decide) (fun h7 => ?_) (fun h7 => ?_)
    · skip
      exact absurd h7 (nI_ge (by omega) (by omega))
    · skip
      refine Z_aload_n dX12_spells_10 rfl rfl ?_
      refine Z_aload_n dX12_spells_11 rfl rfl ?_
      refine Z_iload_n dX12_spells_12 rfl rfl ?_
      refine Z_W1z dX12_spells_13 to_J0_charAt_5068e lk_X12_96 iv_J0_charAt_5068e rfl hi (Nat.le_of_ble_eq_true rfl) ⟨rfl, rfl⟩ ⟨by decide, by decide⟩ ?_
      refine c_scharAt hi (by omega) ?_
      refine Z_V1z (ci := 12) dX12_spells_16 to_X12_must lk_X12_100 iv_X12_must ⟨rfl, rfl⟩ (mw_i34 hm) (Nat.le_of_ble_eq_true rfl) ⟨rfl, rfl⟩ ⟨by decide, by decide⟩ ?_
      refine c_mustW hC hp ?_
      refine Z_iinc (L' := [_, _, _]) dX12_spells_19 rfl (by rfl : _ + Int32.ofInt 1 = _ + 1) (by decide) rfl rfl ?_
      refine Z_goto (tgt := 2) dX12_spells_22 (by decide) ?_
      rw [nI_1]
      exact ih (k + 1) (by omega)
theorem lp_spells {i : Nat} (hi : i < 12) (hC : PC α f τ N a) : ∀ (l : List Nat) (k p : Nat), (zCh i).drop k = l → k ≤ (zCh i).length → p ≤ N → post none (PS α f (pSpell τ N l p).2 (b2i (!(pSpell τ N l p).1)) o) → Z G mX12_spells (d + 5) 2 [some (.ref (G.1 + 34)), some (.ref (G.2 (10 + i))), some (.int (nI k))] [] (PS α f p 0 o) (0, 0) post := by
  have hm : ∀ {f : Nat → Int32} {p : Nat} {w : Int32} {o : Nat}, MW (PS α f p w o) := hC.1
  have hl := zCh_len i hi
  have h10 := zCh_l10 i hi
  intro l
  induction l with
  | nil =>
    intro k p hk hkle hp h
    have hk := List.drop_eq_nil_iff.mp hk
    refine Z_iload_n dX12_spells_2 rfl rfl ?_
    refine Z_aload_n dX12_spells_3 rfl rfl ?_
    refine Z_W0z dX12_spells_4 to_J0_length_8abf5 lk_X12_91 iv_J0_length_8abf5 rfl hi (Nat.le_of_ble_eq_true rfl) ⟨rfl, rfl⟩ ⟨by decide, by decide⟩ ?_
    refine c_slength hi ?_
    rw [hl]
    refine Z_icmp_ge (tgt := 25) dX12_spells_7 (by decide) (fun h7 => ?_) (fun h7 => ?_)
    · skip
      refine Z_vret dX12_spells_25 rfl ⟨by decide, by decide⟩ ?_
      exact h
    · skip
      exact absurd (nI_le (by omega) (by omega)) h7
  | cons c l ih =>
    intro k p hk hkle hp h
    have hkl : k < (zCh i).length := Nat.lt_of_not_le (fun z => by rw [List.drop_eq_nil_iff.mpr z] at hk; cases hk)
    have hc : (zCh i).getD k 0 = c := by
      rw [List.getD_eq_getElem?_getD, ← List.head?_drop, hk]; rfl
    have hd : (zCh i).drop (k + 1) = l := by rw [← List.tail_drop, hk]; rfl
    have hc1 := zCh_le i hi k hkl
    rw [hc] at hc1
    refine Z_iload_n dX12_spells_2 rfl rfl ?_
    refine Z_aload_n dX12_spells_3 rfl rfl ?_
    refine Z_W0z dX12_spells_4 to_J0_length_8abf5 lk_X12_91 iv_J0_length_8abf5 rfl hi (Nat.le_of_ble_eq_true rfl) ⟨rfl, rfl⟩ ⟨by decide, by decide⟩ ?_
    refine c_slength hi ?_
    rw [hl]
    refine Z_icmp_ge (tgt := 25) dX12_spells_7 (by decide) (fun h7 => ?_) (fun h7 => ?_)
    · skip
      exact absurd h7 (nI_ge (by omega) (by omega))
    · skip
      refine Z_aload_n dX12_spells_10 rfl rfl ?_
      refine Z_aload_n dX12_spells_11 rfl rfl ?_
      refine Z_iload_n dX12_spells_12 rfl rfl ?_
      refine Z_W1z dX12_spells_13 to_J0_charAt_5068e lk_X12_96 iv_J0_charAt_5068e rfl hi (Nat.le_of_ble_eq_true rfl) ⟨rfl, rfl⟩ ⟨by decide, by decide⟩ ?_
      refine c_scharAt hi hkl ?_
      rw [hc]
      refine Z_V1z (ci := 12) dX12_spells_16 to_X12_must lk_X12_100 iv_X12_must ⟨rfl, rfl⟩ (mw_i34 hm) (Nat.le_of_ble_eq_true rfl) ⟨rfl, rfl⟩ ⟨by decide, by decide⟩ ?_
      unfold pSpell at h
      refine c_must hC hp hc1 (fun hy => ?_) (fun hy => ?_)
      rotate_left
      · rw [if_neg hy] at h
        refine Z_iinc (L' := [_, _, _]) dX12_spells_19 rfl (by rfl : _ + Int32.ofInt 1 = _ + 1) (by decide) rfl rfl ?_
        refine Z_goto (tgt := 2) dX12_spells_22 (by decide) ?_
        rw [nI_1]
        exact lp_spellsW hi hC hp h ((zCh i).length - (k + 1)) (k + 1) (by omega)
      rw [if_pos hy] at h
      refine Z_iinc (L' := [_, _, _]) dX12_spells_19 rfl (by rfl : _ + Int32.ofInt 1 = _ + 1) (by decide) rfl rfl ?_
      refine Z_goto (tgt := 2) dX12_spells_22 (by decide) ?_
      rw [nI_1]
      exact ih (k + 1) (p + 1) hd hkl (by omega) h
end MP1
