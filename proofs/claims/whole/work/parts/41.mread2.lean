section MP2
variable {G : ZG} {d : Nat} {α : AH} {post : Option Value → AH → Prop} {τ : Nat → Nat} {N a p o c : Nat} {f : Nat → Int32} {w : Int32}
theorem c_spells {i : Nat} (hi : i < 12) (hC : PC α f τ N a) (hp : p ≤ N) (h : post none (PS α f (pSpell τ N (zCh i) p).2 (b2i (!(pSpell τ N (zCh i) p).1)) o)) : ZK G (d + 5) mX12_spells [.ref (G.1 + 34), .ref (G.2 (10 + i))] (PS α f p 0 o) post := by
  refine ZK.of (n := 1) (by decide) (Nat.le_of_ble_eq_true rfl) rfl ?_
  refine Z_iconst (v := 0) dX12_spells_0 (by decide) ?_
  refine Z_istore_n (L' := [_, _, _]) dX12_spells_1 rfl (by decide) rfl rfl ?_
  exact lp_spells hi hC (zCh i) 0 p (List.drop_zero) (Nat.zero_le _) hp h
theorem c_spellsW {i : Nat} (hi : i < 12) (hC : PC α f τ N a) (hp : p ≤ N) (h : post none (PS α f p 1 o)) : ZK G (d + 5) mX12_spells [.ref (G.1 + 34), .ref (G.2 (10 + i))] (PS α f p 1 o) post := by
  refine ZK.of (n := 1) (by decide) (Nat.le_of_ble_eq_true rfl) rfl ?_
  refine Z_iconst (v := 0) dX12_spells_0 (by decide) ?_
  refine Z_istore_n (L' := [_, _, _]) dX12_spells_1 rfl (by decide) rfl rfl ?_
  exact lp_spellsW hi hC hp h (zCh i).length 0 (Nat.zero_add _)
theorem lp_among {i : Nat} (hi : i < 12) (hC : PC α f τ N a) (hp : p ≤ N) (h1 : pIx τ N (zCh i) p < (zCh i).length → post (some (.int (nI (pIx τ N (zCh i) p)))) (PS α f (p + 1) w o)) (h0 : ¬ pIx τ N (zCh i) p < (zCh i).length → post (some (.int (-1))) (PS α f p w o)) : ∀ (j k : Nat), k + j = (zCh i).length → (∀ q, q < k → ¬ hv τ N p = nI ((zCh i).getD q 0)) → Z G mX12_among (d + 5) 2 [some (.ref (G.1 + 34)), some (.ref (G.2 (10 + i))), some (.int (nI k))] [] (PS α f p w o) (0, 0) post := by
  have hm : ∀ {f : Nat → Int32} {p : Nat} {w : Int32} {o : Nat}, MW (PS α f p w o) := hC.1
  have hl := zCh_len i hi
  have h10 := zCh_l10 i hi
  intro j
  induction j with
  | zero =>
    intro k hk hno
    have hk : k = (zCh i).length := by omega
    have hz : ¬ pIx τ N (zCh i) p < (zCh i).length := by
      unfold pIx
      by_cases hpN : p < N
      · rw [if_pos hpN, idx_none (zCh i) (fun q hq e => hno q (by omega) ((hv_eq hC (zCh_le i hi q hq)).mpr ⟨hpN, e.symm⟩))]
        omega
      · rw [if_neg hpN]; omega
    refine Z_iload_n dX12_among_2 rfl rfl ?_
    refine Z_aload_n dX12_among_3 rfl rfl ?_
    refine Z_W0z dX12_among_4 to_J0_length_8abf5 lk_X12_91 iv_J0_length_8abf5 rfl hi (Nat.le_of_ble_eq_true rfl) ⟨rfl, rfl⟩ ⟨by decide, by decide⟩ ?_
    refine c_slength hi ?_
    rw [hl]
    refine Z_icmp_ge (tgt := 40) dX12_among_7 (by decide) (fun h7 => ?_) (fun h7 => ?_)
    · skip
      refine Z_iconst (v := -1) dX12_among_40 (by decide) ?_
      refine Z_iret dX12_among_41 rfl rfl ⟨by decide, by decide⟩ ?_
      exact h0 hz
    · skip
      exact absurd (nI_le (by omega) (by omega)) h7
  | succ j ih =>
    intro k hk hno
    have hkl : k < (zCh i).length := by omega
    have hc1 := zCh_le i hi k hkl
    refine Z_iload_n dX12_among_2 rfl rfl ?_
    refine Z_aload_n dX12_among_3 rfl rfl ?_
    refine Z_W0z dX12_among_4 to_J0_length_8abf5 lk_X12_91 iv_J0_length_8abf5 rfl hi (Nat.le_of_ble_eq_true rfl) ⟨rfl, rfl⟩ ⟨by decide, by decide⟩ ?_
    refine c_slength hi ?_
    rw [hl]
    refine Z_icmp_ge (tgt := 40) dX12_among_7 (by decide) (fun h7 => ?_) (fun h7 => ?_)
    · skip
      exact absurd h7 (nI_ge (by omega) (by omega))
    · skip
      refine Z_aload_n dX12_among_10 rfl rfl ?_
      refine Z_V0z (ci := 12) dX12_among_11 to_X12_here lk_X12_87 iv_X12_here ⟨rfl, rfl⟩ (mw_i34 hm) (Nat.le_of_ble_eq_true rfl) ⟨rfl, rfl⟩ ⟨by decide, by decide⟩ ?_
      refine c_here hC hp ?_
      refine Z_aload_n dX12_among_14 rfl rfl ?_
      refine Z_iload_n dX12_among_15 rfl rfl ?_
      refine Z_W1z dX12_among_16 to_J0_charAt_5068e lk_X12_96 iv_J0_charAt_5068e rfl hi (Nat.le_of_ble_eq_true rfl) ⟨rfl, rfl⟩ ⟨by decide, by decide⟩ ?_
      refine c_scharAt hi hkl ?_
      refine Z_icmp_ne (tgt := 34) dX12_among_19 (by decide) (fun h19 => ?_) (fun h19 => ?_)
      · skip
        refine Z_iinc (L' := [_, _, _]) dX12_among_34 rfl (by rfl : _ + Int32.ofInt 1 = _ + 1) (by decide) rfl rfl ?_
        refine Z_goto (tgt := 2) dX12_among_37 (by decide) ?_
        rw [nI_1]
        exact ih (k + 1) (by omega) (fun q hq => by
          by_cases e : q = k
          · rw [e]; exact h19
          · exact hno q (by omega))
      · skip
        refine Z_aload_n dX12_among_22 rfl rfl ?_
        refine Z_dup dX12_among_23 rfl ?_
        refine Z_getIv dX12_among_24 cl_12 fl_X12_77_12 rfl (mw_i34 hm) PS_5 ?_
        refine Z_iconst (v := 1) dX12_among_27 (by decide) ?_
        refine Z_iadd dX12_among_28 ?_
        refine Z_putI dX12_among_29 cl_12 fl_X12_77_12 (Or.inl fn_12_5) rfl (mw_i34 hm) rfl rfl ?_
        rw [nI_1, PS_sp]
        refine Z_iload_n dX12_among_32 rfl rfl ?_
        refine Z_iret dX12_among_33 rfl rfl ⟨by decide, by decide⟩ ?_
        have hy := (hv_eq hC hc1).mp h19
        have e : pIx τ N (zCh i) p = k := by
          unfold pIx
          rw [if_pos hy.1]
          exact idx_first (zCh i) k (fun q hq e => hno q hq ((hv_eq hC (zCh_le i hi q (by omega))).mpr ⟨hy.1, e.symm⟩)) hkl hy.2.symm
        have := h1 (by omega)
        rw [e] at this
        exact this
theorem c_among {i : Nat} (hi : i < 12) (hC : PC α f τ N a) (hp : p ≤ N) (h1 : pIx τ N (zCh i) p < (zCh i).length → post (some (.int (nI (pIx τ N (zCh i) p)))) (PS α f (p + 1) w o)) (h0 : ¬ pIx τ N (zCh i) p < (zCh i).length → post (some (.int (-1))) (PS α f p w o)) : ZK G (d + 5) mX12_among [.ref (G.1 + 34), .ref (G.2 (10 + i))] (PS α f p w o) post := by
  refine ZK.of (n := 1) (by decide) (Nat.le_of_ble_eq_true rfl) rfl ?_
  refine Z_iconst (v := 0) dX12_among_0 (by decide) ?_
  refine Z_istore_n (L' := [_, _, _]) dX12_among_1 rfl (by decide) rfl rfl ?_
  exact lp_among hi hC hp h1 h0 (zCh i).length 0 (Nat.zero_add _) (fun q hq => absurd hq (Nat.not_lt_zero q))
/-- one more step is written -/
def zem1 (f : Nat → Int32) (a c : Nat) (x : Int32) : Nat → Int32 := u1 (u1 f (192 + 140 * a + c) x) (187 + a) (nI (c + 1))
theorem c_emits {x : Int32} (hC : PC α f τ N a) (hc : f (187 + a) = nI c) (hc1 : c < 140) (h : post none (PS α (zem1 f a c x) p 0 o)) : ZK G (d + 1) mX12_emits [.ref (G.1 + 34), .int x] (PS α f p 0 o) post := by
  have hm : ∀ {f : Nat → Int32} {p : Nat} {w : Int32} {o : Nat}, MW (PS α f p w o) := hC.1
  have ha := hC.2.2.2.2.1
  have ex : (192 : Int32) + 140 * nI a + nI c = nI (192 + 140 * a + c) := by
    rw [show (192 : Int32) = nI 192 from rfl, show (140 : Int32) = nI 140 from rfl, pk_mul, nI_add, nI_add]
  refine ZK.of (n := 0) (by decide) (Nat.le_of_ble_eq_true rfl) rfl ?_
  refine Z_aload_n dX12_emits_0 rfl rfl ?_
  refine Z_getIv dX12_emits_1 cl_12 fl_X12_83_12 rfl (mw_i34 hm) PS_7 ?_
  refine Z_if_ne (tgt := 56) dX12_emits_4 (by decide) (fun h4 => ?_) (fun h4 => ?_)
  · skip
    exact absurd rfl h4
  · skip
    refine Z_aload_n dX12_emits_7 rfl rfl ?_
    refine Z_getR dX12_emits_8 cl_12 fl_X12_9_12 rfl (mw_i34 hm) (mw_p34_1 hm) ?_
    refine Z_sipush (v := 192) dX12_emits_11 (by decide) ?_
    refine Z_sipush (v := 140) dX12_emits_14 (by decide) ?_
    refine Z_aload_n dX12_emits_17 rfl rfl ?_
    refine Z_getIv dX12_emits_18 cl_12 fl_X12_104_12 rfl (mw_i34 hm) (PS_4.trans hC.2.2.1) ?_
    refine Z_imul dX12_emits_21 ?_
    refine Z_iadd dX12_emits_22 ?_
    refine Z_aload_n dX12_emits_23 rfl rfl ?_
    refine Z_getR dX12_emits_24 cl_12 fl_X12_9_12 rfl (mw_i34 hm) (mw_p34_1 hm) ?_
    refine Z_sipush (v := 187) dX12_emits_27 (by decide) ?_
    refine Z_aload_n dX12_emits_30 rfl rfl ?_
    refine Z_getIv dX12_emits_31 cl_12 fl_X12_104_12 rfl (mw_i34 hm) (PS_4.trans hC.2.2.1) ?_
    refine Z_iadd dX12_emits_34 ?_
    refine Z_ialdv dX12_emits_35 (mw_i35 hm) (zix_e (m := 187 + a) (nI_add 187 a) (by omega) (by decide)) hc ?_
    refine Z_iadd dX12_emits_36 ?_
    rw [ex]
    refine Z_iload_n dX12_emits_37 rfl rfl ?_
    refine Z_iast dX12_emits_38 (mw_i35 hm) (zix_nI (m := 192 + 140 * a + c) (by omega) (by decide)) ?_
    rw [PS_f]
    refine Z_aload_n dX12_emits_39 rfl rfl ?_
    refine Z_getR dX12_emits_40 cl_12 fl_X12_9_12 rfl (mw_i34 hm) (mw_p34_1 hm) ?_
    refine Z_sipush (v := 187) dX12_emits_43 (by decide) ?_
    refine Z_aload_n dX12_emits_46 rfl rfl ?_
    refine Z_getIv dX12_emits_47 cl_12 fl_X12_104_12 rfl (mw_i34 hm) (PS_4.trans hC.2.2.1) ?_
    refine Z_iadd dX12_emits_50 ?_
    refine Z_dup2 dX12_emits_51 rfl rfl ?_
    refine Z_ialdv dX12_emits_52 (mw_i35 hm) (zix_e (m := 187 + a) (nI_add 187 a) (by omega) (by decide)) (show u1 f (192 + 140 * a + c) x (187 + a) = nI c by rw [u1_n (by omega)]; exact hc) ?_
    refine Z_iconst (v := 1) dX12_emits_53 (by decide) ?_
    refine Z_iadd dX12_emits_54 ?_
    rw [nI_1]
    refine Z_iast dX12_emits_55 (mw_i35 hm) (zix_e (m := 187 + a) (nI_add 187 a) (by omega) (by decide)) ?_
    rw [PS_f]
    refine Z_vret dX12_emits_56 rfl ⟨by decide, by decide⟩ ?_
    exact h
theorem c_emitsW {x : Int32} (hC : PC α f τ N a) (h : post none (PS α f p 1 o)) : ZK G (d + 1) mX12_emits [.ref (G.1 + 34), .int x] (PS α f p 1 o) post := by
  have hm : ∀ {f : Nat → Int32} {p : Nat} {w : Int32} {o : Nat}, MW (PS α f p w o) := hC.1
  refine ZK.of (n := 0) (by decide) (Nat.le_of_ble_eq_true rfl) rfl ?_
  refine Z_aload_n dX12_emits_0 rfl rfl ?_
  refine Z_getIv dX12_emits_1 cl_12 fl_X12_83_12 rfl (mw_i34 hm) PS_7 ?_
  refine Z_if_ne (tgt := 56) dX12_emits_4 (by decide) (fun h4 => ?_) (fun h4 => ?_)
  · skip
    refine Z_vret dX12_emits_56 rfl ⟨by decide, by decide⟩ ?_
    exact h
  · skip
    exact absurd h4 (by decide)
theorem hv_dg (hC : PC α f τ N a) {x y : Nat} (hy : y ≤ 127) : (nI x ≤ hv τ N p ∧ hv τ N p ≤ nI y) ↔ (p < N ∧ x ≤ τ p ∧ τ p ≤ y) ∨ (x ≥ 2 ^ 30 ∧ (nI x ≤ hv τ N p ∧ hv τ N p ≤ nI y)) := by
  by_cases hx : x < 2 ^ 30
  · unfold hv
    by_cases hpN : p < N
    · have := hC.2.2.2.2.2.2 p hpN
      rw [if_pos hpN, nI_leI (by omega) (by omega), nI_leI (by omega) (by omega)]
      constructor
      · exact fun z => Or.inl ⟨hpN, z⟩
      · rintro (z | z)
        · exact z.2
        · omega
    · rw [if_neg hpN]
      constructor
      · intro z
        have z1 := z.1
        rw [Int32.le_iff_toInt_le, nI_toInt (by omega), show (-1 : Int32).toInt = -1 from rfl] at z1
        omega
      · rintro (z | z)
        · exact absurd z.1 hpN
        · omega
  · constructor
    · exact fun z => Or.inr ⟨by omega, z⟩
    · rintro (z | z)
      · have := hC.2.2.2.2.2.2 p z.1
        omega
      · exact z.2
theorem hv_dig (hC : PC α f τ N a) {y : Nat} (hy : y ≤ 127) : (48 ≤ hv τ N p ∧ hv τ N p ≤ nI y) ↔ (p < N ∧ 48 ≤ τ p ∧ τ p ≤ y) := by
  have := hv_dg (p := p) hC (x := 48) hy
  rw [show nI 48 = 48 from rfl] at this
  rw [this]
  exact ⟨fun z => z.elim id (fun z => absurd z.1 (by decide)), Or.inl⟩
theorem hv_in (h : p < N) : hv τ N p = nI (τ p) := if_pos h
theorem fg3 {n : Nat} (hC : PC α f τ N a) (h : post (some (.int (nI n))) (PS α f p 0 o)) : Z G mX12_figures (d + 2) 34 [some (.ref (G.1 + 34)), some (.int (nI n)), some (.int (nI 2))] [] (PS α f p 0 o) (0, 0) post := by
  refine Z_iload_n dX12_figures_34 rfl rfl ?_
  refine Z_iconst (v := 2) dX12_figures_35 (by decide) ?_
  refine Z_icmp_ge (tgt := 97) dX12_figures_36 (by decide) (fun h36 => ?_) (fun h36 => ?_)
  · skip
    refine Z_iload_n dX12_figures_97 rfl rfl ?_
    refine Z_iret dX12_figures_98 rfl rfl ⟨by decide, by decide⟩ ?_
    exact h
  · skip
    exact absurd (by decide) h36
theorem fg2 {n : Nat} (hn : n ≤ 9) (hC : PC α f τ N a) (hp : p ≤ N) (h1 : 0 < n ∧ (p < N ∧ 48 ≤ τ p ∧ τ p ≤ 57) → post (some (.int (nI (10 * n + (τ p - 48))))) (PS α f (p + 1) 0 o)) (h0 : ¬ (0 < n ∧ (p < N ∧ 48 ≤ τ p ∧ τ p ≤ 57)) → post (some (.int (nI n))) (PS α f p 0 o)) : Z G mX12_figures (d + 2) 34 [some (.ref (G.1 + 34)), some (.int (nI n)), some (.int (nI 1))] [] (PS α f p 0 o) (0, 0) post := by
  have hm : ∀ {f : Nat → Int32} {p : Nat} {w : Int32} {o : Nat}, MW (PS α f p w o) := hC.1
  refine Z_iload_n dX12_figures_34 rfl rfl ?_
  refine Z_iconst (v := 2) dX12_figures_35 (by decide) ?_
  refine Z_icmp_ge (tgt := 97) dX12_figures_36 (by decide) (fun h36 => ?_) (fun h36 => ?_)
  · skip
    exact absurd h36 (by decide)
  · skip
    refine Z_aload_n dX12_figures_39 rfl rfl ?_
    refine Z_getIv dX12_figures_40 cl_12 fl_X12_83_12 rfl (mw_i34 hm) PS_7 ?_
    refine Z_if_ne (tgt := 97) dX12_figures_43 (by decide) (fun h43 => ?_) (fun h43 => ?_)
    · skip
      exact absurd rfl h43
    · skip
      refine Z_aload_n dX12_figures_46 rfl rfl ?_
      refine Z_V0z (ci := 12) dX12_figures_47 to_X12_here lk_X12_87 iv_X12_here ⟨rfl, rfl⟩ (mw_i34 hm) (Nat.le_of_ble_eq_true rfl) ⟨rfl, rfl⟩ ⟨by decide, by decide⟩ ?_
      refine c_here hC hp ?_
      refine Z_bipush (v := 48) dX12_figures_50 (by decide) ?_
      refine Z_bipush (v := 57) dX12_figures_52 (by decide) ?_
      refine Z_S3z dX12_figures_54 to_X12_in lk_X12_69 sc_X12_in (Nat.le_of_ble_eq_true rfl) ⟨rfl, rfl⟩ ⟨by decide, by decide⟩ ?_
      refine c_in ?_
      refine Z_if_eq (tgt := 97) dX12_figures_57 (by decide) (fun h57 => ?_) (fun h57 => ?_)
      · skip
        refine Z_iload_n dX12_figures_97 rfl rfl ?_
        refine Z_iret dX12_figures_98 rfl rfl ⟨by decide, by decide⟩ ?_
        first
          | exact h0 (fun z => dec_f h57 ((hv_dig hC (by omega : 57 ≤ 127)).mpr z.2))
          | exact h0 (fun z => nI_nle z.1 (by omega) h65)
      · skip
        refine Z_iload_n dX12_figures_60 rfl rfl ?_
        refine Z_if_eq (tgt := 68) dX12_figures_61 (by decide) (fun h61 => ?_) (fun h61 => ?_)
        · skip
          exact absurd h61 (by decide)
        · skip
          refine Z_iload_n dX12_figures_64 rfl rfl ?_
          refine Z_if_le (tgt := 97) dX12_figures_65 (by decide) (fun h65 => ?_) (fun h65 => ?_)
          · skip
            refine Z_iload_n dX12_figures_97 rfl rfl ?_
            refine Z_iret dX12_figures_98 rfl rfl ⟨by decide, by decide⟩ ?_
            first
              | exact h0 (fun z => dec_f h57 ((hv_dig hC (by omega : 57 ≤ 127)).mpr z.2))
              | exact h0 (fun z => nI_nle z.1 (by omega) h65)
          · skip
            have hdg := (hv_dig hC (by omega : 57 ≤ 127)).mp (dec_t h57)
            have hn0 := nI_pos0 (by omega) h65
            have hv1 := hv_in (τ := τ) hdg.1
            have ex : (10 : Int32) * nI n + nI (τ p) - 48 = nI (10 * n + (τ p - 48)) := by
              rw [show (10 : Int32) = nI 10 from rfl, show (48 : Int32) = nI 48 from rfl, pk_mul, nI_add, pk_sub (by omega), Nat.add_sub_assoc hdg.2.1]
            refine Z_bipush (v := 10) dX12_figures_68 (by decide) ?_
            refine Z_iload_n dX12_figures_70 rfl rfl ?_
            refine Z_imul dX12_figures_71 ?_
            refine Z_aload_n dX12_figures_72 rfl rfl ?_
            refine Z_V0z (ci := 12) dX12_figures_73 to_X12_here lk_X12_87 iv_X12_here ⟨rfl, rfl⟩ (mw_i34 hm) (Nat.le_of_ble_eq_true rfl) ⟨rfl, rfl⟩ ⟨by decide, by decide⟩ ?_
            refine c_here hC hp ?_
            refine Z_iadd dX12_figures_76 ?_
            refine Z_bipush (v := 48) dX12_figures_77 (by decide) ?_
            refine Z_isub dX12_figures_79 ?_
            rw [hv1, ex]
            refine Z_istore_n (L' := [_, _, _]) dX12_figures_80 rfl (by decide) rfl rfl ?_
            refine Z_aload_n dX12_figures_81 rfl rfl ?_
            refine Z_dup dX12_figures_82 rfl ?_
            refine Z_getIv dX12_figures_83 cl_12 fl_X12_77_12 rfl (mw_i34 hm) PS_5 ?_
            refine Z_iconst (v := 1) dX12_figures_86 (by decide) ?_
            refine Z_iadd dX12_figures_87 ?_
            refine Z_putI dX12_figures_88 cl_12 fl_X12_77_12 (Or.inl fn_12_5) rfl (mw_i34 hm) rfl rfl ?_
            rw [nI_1, PS_sp]
            refine Z_iinc (L' := [_, _, _]) dX12_figures_91 rfl (by rfl : _ + Int32.ofInt 1 = _ + 1) (by decide) rfl rfl ?_
            refine Z_goto (tgt := 34) dX12_figures_94 (by decide) ?_
            rw [show nI 1 + 1 = nI 2 from rfl]
            exact fg3 hC (h1 ⟨hn0, hdg⟩)
theorem c_figures (hC : PC α f τ N a) (hp : p ≤ N) (h : post (some (.int (nI (pNum τ N p).2.2))) (PS α f (pNum τ N p).2.1 (b2i (!(pNum τ N p).1)) o)) : ZK G (d + 2) mX12_figures [.ref (G.1 + 34)] (PS α f p 0 o) post := by
  have hm : ∀ {f : Nat → Int32} {p : Nat} {w : Int32} {o : Nat}, MW (PS α f p w o) := hC.1
  refine ZK.of (n := 2) (by decide) (Nat.le_of_ble_eq_true rfl) rfl ?_
  by_cases hdg : p < N ∧ 48 ≤ τ p ∧ τ p ≤ 57
  · have hdI := (hv_dig hC (by omega : 57 ≤ 127)).mpr hdg
    have hv1 := hv_in (τ := τ) hdg.1
    have ex : (10 : Int32) * 0 + nI (τ p) - 48 = nI (τ p - 48) := by
      rw [show (10 : Int32) * 0 = nI 0 from rfl, show (48 : Int32) = nI 48 from rfl, nI_add, pk_sub (by omega), Nat.zero_add]
    unfold pNum at h
    rw [if_pos hdg] at h
    refine Z_aload_n dX12_figures_0 rfl rfl ?_
    refine Z_aload_n dX12_figures_1 rfl rfl ?_
    refine Z_getIv dX12_figures_2 cl_12 fl_X12_83_12 rfl (mw_i34 hm) PS_7 ?_
    refine Z_if_ne (tgt := 22) dX12_figures_5 (by decide) (fun h5 => ?_) (fun h5 => ?_)
    · skip
      exact absurd rfl h5
    · skip
      refine Z_aload_n dX12_figures_8 rfl rfl ?_
      refine Z_V0z (ci := 12) dX12_figures_9 to_X12_here lk_X12_87 iv_X12_here ⟨rfl, rfl⟩ (mw_i34 hm) (Nat.le_of_ble_eq_true rfl) ⟨rfl, rfl⟩ ⟨by decide, by decide⟩ ?_
      refine c_here hC hp ?_
      refine Z_bipush (v := 48) dX12_figures_12 (by decide) ?_
      refine Z_bipush (v := 57) dX12_figures_14 (by decide) ?_
      refine Z_S3z dX12_figures_16 to_X12_in lk_X12_69 sc_X12_in (Nat.le_of_ble_eq_true rfl) ⟨rfl, rfl⟩ ⟨by decide, by decide⟩ ?_
      refine c_in ?_
      refine Z_if_ne (tgt := 26) dX12_figures_19 (by decide) (fun h19 => ?_) (fun h19 => ?_)
      · skip
        refine Z_iconst (v := 0) dX12_figures_26 (by decide) ?_
        refine Z_putI dX12_figures_27 cl_12 fl_X12_83_12 (Or.inl fn_12_7) rfl (mw_i34 hm) rfl rfl ?_
        rw [PS_wr]
        refine Z_iconst (v := 0) dX12_figures_30 (by decide) ?_
        refine Z_istore_n (L' := [_, _, _]) dX12_figures_31 rfl (by decide) rfl rfl ?_
        refine Z_iconst (v := 0) dX12_figures_32 (by decide) ?_
        refine Z_istore_n (L' := [_, _, _]) dX12_figures_33 rfl (by decide) rfl rfl ?_
        refine Z_iload_n dX12_figures_34 rfl rfl ?_
        refine Z_iconst (v := 2) dX12_figures_35 (by decide) ?_
        refine Z_icmp_ge (tgt := 97) dX12_figures_36 (by decide) (fun h36 => ?_) (fun h36 => ?_)
        · skip
          exact absurd h36 (by decide)
        · skip
          refine Z_aload_n dX12_figures_39 rfl rfl ?_
          refine Z_getIv dX12_figures_40 cl_12 fl_X12_83_12 rfl (mw_i34 hm) PS_7 ?_
          refine Z_if_ne (tgt := 97) dX12_figures_43 (by decide) (fun h43 => ?_) (fun h43 => ?_)
          · skip
            exact absurd rfl h43
          · skip
            refine Z_aload_n dX12_figures_46 rfl rfl ?_
            refine Z_V0z (ci := 12) dX12_figures_47 to_X12_here lk_X12_87 iv_X12_here ⟨rfl, rfl⟩ (mw_i34 hm) (Nat.le_of_ble_eq_true rfl) ⟨rfl, rfl⟩ ⟨by decide, by decide⟩ ?_
            refine c_here hC hp ?_
            refine Z_bipush (v := 48) dX12_figures_50 (by decide) ?_
            refine Z_bipush (v := 57) dX12_figures_52 (by decide) ?_
            refine Z_S3z dX12_figures_54 to_X12_in lk_X12_69 sc_X12_in (Nat.le_of_ble_eq_true rfl) ⟨rfl, rfl⟩ ⟨by decide, by decide⟩ ?_
            refine c_in ?_
            refine Z_if_eq (tgt := 97) dX12_figures_57 (by decide) (fun h57 => ?_) (fun h57 => ?_)
            · skip
              exact absurd hdI (dec_f h57)
            · skip
              refine Z_iload_n dX12_figures_60 rfl rfl ?_
              refine Z_if_eq (tgt := 68) dX12_figures_61 (by decide) (fun h61 => ?_) (fun h61 => ?_)
              · skip
                refine Z_bipush (v := 10) dX12_figures_68 (by decide) ?_
                refine Z_iload_n dX12_figures_70 rfl rfl ?_
                refine Z_imul dX12_figures_71 ?_
                refine Z_aload_n dX12_figures_72 rfl rfl ?_
                refine Z_V0z (ci := 12) dX12_figures_73 to_X12_here lk_X12_87 iv_X12_here ⟨rfl, rfl⟩ (mw_i34 hm) (Nat.le_of_ble_eq_true rfl) ⟨rfl, rfl⟩ ⟨by decide, by decide⟩ ?_
                refine c_here hC hp ?_
                refine Z_iadd dX12_figures_76 ?_
                refine Z_bipush (v := 48) dX12_figures_77 (by decide) ?_
                refine Z_isub dX12_figures_79 ?_
                rw [hv1, ex]
                refine Z_istore_n (L' := [_, _, _]) dX12_figures_80 rfl (by decide) rfl rfl ?_
                refine Z_aload_n dX12_figures_81 rfl rfl ?_
                refine Z_dup dX12_figures_82 rfl ?_
                refine Z_getIv dX12_figures_83 cl_12 fl_X12_77_12 rfl (mw_i34 hm) PS_5 ?_
                refine Z_iconst (v := 1) dX12_figures_86 (by decide) ?_
                refine Z_iadd dX12_figures_87 ?_
                refine Z_putI dX12_figures_88 cl_12 fl_X12_77_12 (Or.inl fn_12_5) rfl (mw_i34 hm) rfl rfl ?_
                rw [nI_1, PS_sp]
                refine Z_iinc (L' := [_, _, _]) dX12_figures_91 rfl (by rfl : _ + Int32.ofInt 1 = _ + 1) (by decide) rfl rfl ?_
                refine Z_goto (tgt := 34) dX12_figures_94 (by decide) ?_
                rw [show (0 : Int32) + 1 = nI 1 from rfl]
                refine fg2 (n := τ p - 48) (by omega) hC (by omega) (fun z => ?_) (fun z => ?_)
                · rw [if_neg (by omega), if_pos z.2] at h; exact h
                · by_cases e : τ p = 48
                  · rw [if_pos e] at h; rw [e]; exact h
                  · rw [if_neg e, if_neg (fun y => z ⟨by omega, y⟩)] at h; exact h
              · skip
                exact absurd rfl h61
      · skip
        exact absurd hdI (dec_f h19)
  · have hdI : ¬ (48 ≤ hv τ N p ∧ hv τ N p ≤ 57) := fun z => hdg ((hv_dig hC (by omega : 57 ≤ 127)).mp z)
    unfold pNum at h
    rw [if_neg hdg] at h
    refine Z_aload_n dX12_figures_0 rfl rfl ?_
    refine Z_aload_n dX12_figures_1 rfl rfl ?_
    refine Z_getIv dX12_figures_2 cl_12 fl_X12_83_12 rfl (mw_i34 hm) PS_7 ?_
    refine Z_if_ne (tgt := 22) dX12_figures_5 (by decide) (fun h5 => ?_) (fun h5 => ?_)
    · skip
      exact absurd rfl h5
    · skip
      refine Z_aload_n dX12_figures_8 rfl rfl ?_
      refine Z_V0z (ci := 12) dX12_figures_9 to_X12_here lk_X12_87 iv_X12_here ⟨rfl, rfl⟩ (mw_i34 hm) (Nat.le_of_ble_eq_true rfl) ⟨rfl, rfl⟩ ⟨by decide, by decide⟩ ?_
      refine c_here hC hp ?_
      refine Z_bipush (v := 48) dX12_figures_12 (by decide) ?_
      refine Z_bipush (v := 57) dX12_figures_14 (by decide) ?_
      refine Z_S3z dX12_figures_16 to_X12_in lk_X12_69 sc_X12_in (Nat.le_of_ble_eq_true rfl) ⟨rfl, rfl⟩ ⟨by decide, by decide⟩ ?_
      refine c_in ?_
      refine Z_if_ne (tgt := 26) dX12_figures_19 (by decide) (fun h19 => ?_) (fun h19 => ?_)
      · skip
        exact absurd (dec_t h19) hdI
      · skip
        refine Z_iconst (v := 1) dX12_figures_22 (by decide) ?_
        refine Z_goto (tgt := 27) dX12_figures_23 (by decide) ?_
        refine Z_putI dX12_figures_27 cl_12 fl_X12_83_12 (Or.inl fn_12_7) rfl (mw_i34 hm) rfl rfl ?_
        rw [PS_wr]
        refine Z_iconst (v := 0) dX12_figures_30 (by decide) ?_
        refine Z_istore_n (L' := [_, _, _]) dX12_figures_31 rfl (by decide) rfl rfl ?_
        refine Z_iconst (v := 0) dX12_figures_32 (by decide) ?_
        refine Z_istore_n (L' := [_, _, _]) dX12_figures_33 rfl (by decide) rfl rfl ?_
        refine Z_iload_n dX12_figures_34 rfl rfl ?_
        refine Z_iconst (v := 2) dX12_figures_35 (by decide) ?_
        refine Z_icmp_ge (tgt := 97) dX12_figures_36 (by decide) (fun h36 => ?_) (fun h36 => ?_)
        · skip
          exact absurd h36 (by decide)
        · skip
          refine Z_aload_n dX12_figures_39 rfl rfl ?_
          refine Z_getIv dX12_figures_40 cl_12 fl_X12_83_12 rfl (mw_i34 hm) PS_7 ?_
          refine Z_if_ne (tgt := 97) dX12_figures_43 (by decide) (fun h43 => ?_) (fun h43 => ?_)
          · skip
            refine Z_iload_n dX12_figures_97 rfl rfl ?_
            refine Z_iret dX12_figures_98 rfl rfl ⟨by decide, by decide⟩ ?_
            exact h
          · skip
            exact absurd h43 (by decide)
end MP2
