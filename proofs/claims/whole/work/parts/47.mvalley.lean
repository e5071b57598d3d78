section MV2
variable {G : ZG} {d : Nat} {α β : AH} {post : Option Value → AH → Prop} {τ : Nat → Nat} {N a p o c : Nat} {f f0 : Nat → Int32} {w : Int32} {A : ZA}
theorem RS_f {i : Nat} {x : Int32} : sI (sIr β 35 f) 35 i x = sIr β 35 (u1 f i x) := by
  refine congrArg (fun z => ((β.1, β.2.1, z, β.2.2.2.1, β.2.2.2.2) : AH)) ?_
  funext k j
  show u2 (u1 β.2.2.1 35 f) 35 i x k j = u1 β.2.2.1 35 (u1 f i x) k j
  unfold u2 u1
  by_cases hk : k = 35
  · subst hk; simp
  · simp [hk]
theorem RS_self : sIr β 35 (hI β 35) = β := by
  have : u1 β.2.2.1 35 (hI β 35) = β.2.2.1 := by
    funext k
    unfold u1
    by_cases hk : k = 35
    · subst hk; rw [if_pos rfl]; rfl
    · rw [if_neg hk]
  show ((β.1, β.2.1, u1 β.2.2.1 35 (hI β 35), β.2.2.2.1, β.2.2.2.2) : AH) = β
  rw [this]
theorem RS_PS : sI (sI (sI (sIr β 35 f) 34 5 0) 34 7 0) 34 8 0 = PS β f 0 0 0 := by
  refine congrArg (fun z => ((β.1, β.2.1, z, β.2.2.2.1, β.2.2.2.2) : AH)) ?_
  funext k j
  show u2 (u2 (u2 (u1 β.2.2.1 35 f) 34 5 0) 34 7 0) 34 8 0 k j = (PS β f 0 0 0).2.2.1 k j
  unfold u2 u1 PS
  by_cases hk : k = 34
  · subst hk
    by_cases h8 : j = 8
    · subst h8; rfl
    · by_cases h7 : j = 7
      · subst h7; rfl
      · by_cases h5 : j = 5
        · subst h5; rfl
        · simp [h8, h7, h5]
  · simp [hk]
theorem mVR.pc {cl : List ZCl} (h : mVR f0 f a cl) (hC : PC β f0 τ N a) : PC β f τ N a := ⟨hC.1, hC.2.1, hC.2.2.1, hC.2.2.2.1, hC.2.2.2.2.1, fun i hi => by
  have hN := hC.2.2.2.1
  have ha := hC.2.2.2.2.1
  rw [h.2.2.2.2 (12 + i) (by unfold vIn; omega)]
  exact hC.2.2.2.2.2.1 i hi, hC.2.2.2.2.2.2⟩
/-- what stands behind the clauses so far -/
def mVs (f0 f : Nat → Int32) (a N : Nat) (r : Bool × Nat × List ZCl) : Prop := r.2.1 ≤ N ∧ (∀ q ∈ r.2.2, clWo q) ∧ (if r.1 = true then mVR f0 f a r.2.2 ∧ (vOps r.2.2).length ≤ r.2.1 else mVJ f0 f a)
theorem mVs.step {cl : List ZCl} (hC : PC β f0 τ N a) (hp : p ≤ N) (hr : mVR f0 f a cl) (hcp : (vOps cl).length ≤ p) (hw : ∀ q ∈ cl, clWo q) : mVs f0 (mCl f a (vOps cl).length (pCl τ N p)) a N (pNx τ N p cl) := by
  have hN := hC.2.2.2.1
  have ha := hC.2.2.2.2.1
  have hk := pCl_ok (τ := τ) hp
  unfold pNx
  cases h1 : (pCl τ N p).1 with
  | true =>
    have hk1 := hk.2.2.1 h1
    refine ⟨hk.2.1, fun q hq => ?_, ?_⟩
    · have hq : q ∈ cl ++ [(pCl τ N p).2.2] := hq
      rcases List.mem_append.mp hq with hq | hq
      · exact hw q hq
      · rw [List.mem_singleton.mp hq]; exact pCl_wo hp h1
    · show mVR f0 _ a (cl ++ [(pCl τ N p).2.2]) ∧ (vOps (cl ++ [(pCl τ N p).2.2])).length ≤ (pCl τ N p).2.1
      refine ⟨hr.step ha h1 hk1.1 (by omega), ?_⟩
      rw [vOps_app, List.length_append]
      omega
  | false =>
    have hk2 := hk.2.2.2 h1
    exact ⟨hk.2.1, hw, hr.fail ha (fun q hq => (hw q hq).1) h1 (by omega)⟩
theorem lp_valley (hC : PC β f0 τ N a) (h : ∀ f, mVs f0 f a N (pText τ N) → Z G mX12_valley (d + 26) 162 [some (.ref (G.1 + 34)), none] [] (PS β f (pText τ N).2.1 (b2i (!(pText τ N).1)) 0) (0, 0) post) :
    ∀ (n i : Nat) (r : Bool × Nat × List ZCl), i + n = 10 → pW τ N n r = pText τ N → ∀ f, mVs f0 f a N r → Z G mX12_valley (d + 26) 120 [some (.ref (G.1 + 34)), some (.int (nI i))] [] (PS β f r.2.1 (b2i (!r.1)) 0) (0, 0) post := by
  have hm : ∀ {f : Nat → Int32} {p : Nat} {w : Int32} {o : Nat}, MW (PS β f p w o) := hC.1
  have hN := hC.2.2.2.1
  intro n
  induction n with
  | zero =>
    intro i r hi he f hs
    have he : r = pText τ N := he
    rw [← he] at h
    have h := Z_less (L := [some (.ref (G.1 + 34)), some (.int (nI i))]) (L' := [some (.ref (G.1 + 34)), none]) ⟨rfl, trivial⟩ (h f hs)
    cases hr : r.1 with
    | true =>
      rw [hr] at h
      refine Z_aload_n dX12_valley_120 rfl rfl ?_
      refine Z_getIv dX12_valley_121 cl_12 fl_X12_83_12 rfl (mw_i34 hm) PS_7 ?_
      refine Z_if_ne (tgt := 162) dX12_valley_124 (by decide) (fun h124 => ?_) (fun h124 => ?_)
      · skip
        exact absurd rfl h124
      · skip
        refine Z_iload_n dX12_valley_127 rfl rfl ?_
        refine Z_bipush (v := 10) dX12_valley_128 (by decide) ?_
        refine Z_icmp_ge (tgt := 162) dX12_valley_130 (by decide) (fun h130 => ?_) (fun h130 => ?_)
        · skip
          exact h
        · skip
          exact absurd (nI_le (a := 10) (by omega) (by omega)) h130
    | false =>
      rw [hr] at h
      refine Z_aload_n dX12_valley_120 rfl rfl ?_
      refine Z_getIv dX12_valley_121 cl_12 fl_X12_83_12 rfl (mw_i34 hm) PS_7 ?_
      refine Z_if_ne (tgt := 162) dX12_valley_124 (by decide) (fun h124 => ?_) (fun h124 => ?_)
      · skip
        exact h
      · skip
        exact absurd h124 (by decide)
  | succ n ih =>
    intro i r hi he f hs
    by_cases hc : r.1 = true ∧ (r.2.1 < N ∧ τ r.2.1 = 59)
    · have he : pW τ N n (pNx τ N (r.2.1 + 1) r.2.2) = pText τ N := by rw [← he]; exact (if_pos hc).symm
      have hs2 := hs.2.2
      rw [if_pos hc.1] at hs2
      have hC1 := hs2.1.pc hC
      have st := mVs.step (p := r.2.1 + 1) hC (by omega) hs2.1 (by omega) hs.2.1
      have next := ih (i + 1) (pNx τ N (r.2.1 + 1) r.2.2) (by omega) he _ st
      rw [hc.1]
      refine Z_aload_n dX12_valley_120 rfl rfl ?_
      refine Z_getIv dX12_valley_121 cl_12 fl_X12_83_12 rfl (mw_i34 hm) PS_7 ?_
      refine Z_if_ne (tgt := 162) dX12_valley_124 (by decide) (fun h124 => ?_) (fun h124 => ?_)
      · skip
        exact absurd rfl h124
      · skip
        refine Z_iload_n dX12_valley_127 rfl rfl ?_
        refine Z_bipush (v := 10) dX12_valley_128 (by decide) ?_
        refine Z_icmp_ge (tgt := 162) dX12_valley_130 (by decide) (fun h130 => ?_) (fun h130 => ?_)
        · skip
          exact absurd h130 (nI_ge (a := i) (b := 10) (by omega) (by omega))
        · skip
          refine Z_aload_n dX12_valley_133 rfl rfl ?_
          refine Z_V0z (ci := 12) dX12_valley_134 to_X12_here lk_X12_87 iv_X12_here ⟨rfl, rfl⟩ (mw_i34 hm) (Nat.le_of_ble_eq_true rfl) ⟨rfl, rfl⟩ ⟨by decide, by decide⟩ ?_
          refine c_here hC1 hs.1 ?_
          refine Z_bipush (v := 59) dX12_valley_137 (by decide) ?_
          refine Z_icmp_ne (tgt := 162) dX12_valley_139 (by decide) (fun h139 => ?_) (fun h139 => ?_)
          · skip
            exact absurd ((hv_eq hC1 (c := 59) (by omega)).mpr hc.2) h139
          · skip
            refine Z_aload_n dX12_valley_142 rfl rfl ?_
            refine Z_dup dX12_valley_143 rfl ?_
            refine Z_getIv dX12_valley_144 cl_12 fl_X12_77_12 rfl (mw_i34 hm) PS_5 ?_
            refine Z_iconst (v := 1) dX12_valley_147 (by decide) ?_
            refine Z_iadd dX12_valley_148 ?_
            refine Z_putI dX12_valley_149 cl_12 fl_X12_77_12 (Or.inl fn_12_5) rfl (mw_i34 hm) rfl rfl ?_
            rw [nI_1, PS_sp]
            refine Z_aload_n dX12_valley_152 rfl rfl ?_
            refine Z_V0z (ci := 12) dX12_valley_153 to_X12_clauseHere lk_X12_152 iv_X12_clauseHere ⟨rfl, rfl⟩ (mw_i34 hm) (Nat.le_of_ble_eq_true rfl) ⟨rfl, rfl⟩ ⟨by decide, by decide⟩ ?_
            refine c_clauseHere (d := d) hC1 (by omega) hs2.1.2.2.1 (by omega) ?_
            refine Z_iinc (L' := [_, _]) dX12_valley_156 rfl (by rfl : _ + Int32.ofInt 1 = _ + 1) (by decide) rfl rfl ?_
            refine Z_goto (tgt := 120) dX12_valley_159 (by decide) ?_
            rw [nI_1]
            exact next
    · have he : r = pText τ N := by rw [← he]; exact (if_neg hc).symm
      rw [← he] at h
      have h := Z_less (L := [some (.ref (G.1 + 34)), some (.int (nI i))]) (L' := [some (.ref (G.1 + 34)), none]) ⟨rfl, trivial⟩ (h f hs)
      cases hr : r.1 with
      | true =>
        rw [hr] at h
        have hs2 := hs.2.2
        rw [if_pos hr] at hs2
        have hC1 := hs2.1.pc hC
        refine Z_aload_n dX12_valley_120 rfl rfl ?_
        refine Z_getIv dX12_valley_121 cl_12 fl_X12_83_12 rfl (mw_i34 hm) PS_7 ?_
        refine Z_if_ne (tgt := 162) dX12_valley_124 (by decide) (fun h124 => ?_) (fun h124 => ?_)
        · skip
          exact absurd rfl h124
        · skip
          refine Z_iload_n dX12_valley_127 rfl rfl ?_
          refine Z_bipush (v := 10) dX12_valley_128 (by decide) ?_
          refine Z_icmp_ge (tgt := 162) dX12_valley_130 (by decide) (fun h130 => ?_) (fun h130 => ?_)
          · skip
            exact absurd h130 (nI_ge (a := i) (b := 10) (by omega) (by omega))
          · skip
            refine Z_aload_n dX12_valley_133 rfl rfl ?_
            refine Z_V0z (ci := 12) dX12_valley_134 to_X12_here lk_X12_87 iv_X12_here ⟨rfl, rfl⟩ (mw_i34 hm) (Nat.le_of_ble_eq_true rfl) ⟨rfl, rfl⟩ ⟨by decide, by decide⟩ ?_
            refine c_here hC1 hs.1 ?_
            refine Z_bipush (v := 59) dX12_valley_137 (by decide) ?_
            refine Z_icmp_ne (tgt := 162) dX12_valley_139 (by decide) (fun h139 => ?_) (fun h139 => ?_)
            · skip
              exact h
            · skip
              exact absurd ((hv_eq hC1 (c := 59) (by omega)).mp h139) (fun z => hc ⟨hr, z⟩)
      | false =>
        rw [hr] at h
        refine Z_aload_n dX12_valley_120 rfl rfl ?_
        refine Z_getIv dX12_valley_121 cl_12 fl_X12_83_12 rfl (mw_i34 hm) PS_7 ?_
        refine Z_if_ne (tgt := 162) dX12_valley_124 (by decide) (fun h124 => ?_) (fun h124 => ?_)
        · skip
          exact h
        · skip
          exact absurd h124 (by decide)
end MV2
