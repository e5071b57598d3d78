section MP4
variable {G : ZG} {d : Nat} {α : AH} {post : Option Value → AH → Prop} {τ : Nat → Nat} {N a p o c : Nat} {f : Nat → Int32} {w : Int32}
/-- a reader's method: from the right state at p to what F says -/
def mRd (G : ZG) (α : AH) (τ : Nat → Nat) (N a o d : Nat) (M : ZM) (F : Nat → PR) : Prop := ∀ (f : Nat → Int32) (p c : Nat) (post : Option Value → AH → Prop), PC α f τ N a → p ≤ N → f (187 + a) = nI c → c ≤ p → post none (PS α (zem f a c ((F p).2.2.map mO)) (F p).2.1 (b2i (!(F p).1)) o) → ZK G d M [.ref (G.1 + 34)] (PS α f p 0 o) post
theorem pLoop_f {ch : Nat} {op : ZOp} {F : Nat → PR} : ∀ (n : Nat) (r : PR), ¬ (r.1 = true ∧ (r.2.1 < N ∧ τ r.2.1 = ch)) → pLoop τ N ch op F n r = r
  | 0, r, _ => rfl
  | n + 1, r, h => if_neg h
theorem lp_every {F : Nat → PR} (hC : PC α f τ N a) (hc : f (187 + a) = nI c) (hcp : c ≤ p) (hF : mRd G α τ N a o (d + 2) mX12_factor F) (hok : pOk N F) :
    ∀ (n : Nat) (r : PR), (p ≤ r.2.1 ∧ r.2.1 ≤ N ∧ r.2.2.length + p ≤ r.2.1) → N ≤ r.2.1 + n → post none (PS α (zem f a c ((pLoop τ N 38 (6, 0, 0) F n r).2.2.map mO)) (pLoop τ N 38 (6, 0, 0) F n r).2.1 (b2i (!(pLoop τ N 38 (6, 0, 0) F n r).1)) o) → Z G mX12_every (d + 3) 4 [some (.ref (G.1 + 34))] [] (PS α (zem f a c (r.2.2.map mO)) r.2.1 (b2i (!r.1)) o) (0, 0) post := by
  have hm : ∀ {f : Nat → Int32} {p : Nat} {w : Int32} {o : Nat}, MW (PS α f p w o) := hC.1
  have hN := hC.2.2.2.1
  intro n
  induction n with
  | zero =>
    intro r hb hn h
    have hC1 := hC.zem (r.2.2.map mO) c
    have hz : ¬ (r.2.1 < N ∧ τ r.2.1 = 38) := fun z => by omega
    cases hr : r.1 with
    | false =>
      rw [pLoop_f 0 r (fun z => hz z.2), hr] at h
      refine Z_aload_n dX12_every_4 rfl rfl ?_
      refine Z_getIv dX12_every_5 cl_12 fl_X12_83_12 rfl (mw_i34 hm) PS_7 ?_
      refine Z_if_ne (tgt := 43) dX12_every_8 (by decide) (fun h8 => ?_) (fun h8 => ?_)
      · skip
        refine Z_vret dX12_every_43 rfl ⟨by decide, by decide⟩ ?_
        exact h
      · skip
        exact absurd h8 (by decide)
    | true =>
      rw [pLoop_f 0 r (fun z => hz z.2), hr] at h
      refine Z_aload_n dX12_every_4 rfl rfl ?_
      refine Z_getIv dX12_every_5 cl_12 fl_X12_83_12 rfl (mw_i34 hm) PS_7 ?_
      refine Z_if_ne (tgt := 43) dX12_every_8 (by decide) (fun h8 => ?_) (fun h8 => ?_)
      · skip
        exact absurd rfl h8
      · skip
        refine Z_aload_n dX12_every_11 rfl rfl ?_
        refine Z_V0z (ci := 12) dX12_every_12 to_X12_here lk_X12_87 iv_X12_here ⟨rfl, rfl⟩ (mw_i34 hm) (Nat.le_of_ble_eq_true rfl) ⟨rfl, rfl⟩ ⟨by decide, by decide⟩ ?_
        refine c_here hC1 hb.2.1 ?_
        refine Z_bipush (v := 38) dX12_every_15 (by decide) ?_
        refine Z_icmp_ne (tgt := 43) dX12_every_17 (by decide) (fun h17 => ?_) (fun h17 => ?_)
        · skip
          refine Z_vret dX12_every_43 rfl ⟨by decide, by decide⟩ ?_
          exact h
        · skip
          exact absurd ((hv_eq hC (c := 38) (by omega)).mp h17) hz
  | succ n ih =>
    intro r hb hn h
    have hC1 := hC.zem (r.2.2.map mO) c
    cases hr : r.1 with
    | false =>
      rw [pLoop_f (n + 1) r (fun z => by rw [hr] at z; exact Bool.false_ne_true z.1), hr] at h
      refine Z_aload_n dX12_every_4 rfl rfl ?_
      refine Z_getIv dX12_every_5 cl_12 fl_X12_83_12 rfl (mw_i34 hm) PS_7 ?_
      refine Z_if_ne (tgt := 43) dX12_every_8 (by decide) (fun h8 => ?_) (fun h8 => ?_)
      · skip
        refine Z_vret dX12_every_43 rfl ⟨by decide, by decide⟩ ?_
        exact h
      · skip
        exact absurd h8 (by decide)
    | true =>
      by_cases hz : r.2.1 < N ∧ τ r.2.1 = 38
      · have hq := hok (r.2.1 + 1) (by omega)
        have hcnt := zem_cnt (a := a) (r.2.2.map mO) f c hc
        rw [List.length_map] at hcnt
        have hstep : pLoop τ N 38 (6, 0, 0) F (n + 1) r = if (F (r.2.1 + 1)).1 = true then pLoop τ N 38 (6, 0, 0) F n (true, (F (r.2.1 + 1)).2.1, r.2.2 ++ (F (r.2.1 + 1)).2.2 ++ [(6, 0, 0)]) else (false, (F (r.2.1 + 1)).2.1, r.2.2 ++ (F (r.2.1 + 1)).2.2) := if_pos ⟨hr, hz⟩
        rw [hstep] at h
        have ez : zem (zem f a c (r.2.2.map mO)) a (c + r.2.2.length) ((F (r.2.1 + 1)).2.2.map mO) = zem f a c ((r.2.2 ++ (F (r.2.1 + 1)).2.2).map mO) := by
          rw [List.map_append, zem_app, List.length_map]
        have hcnt2 := zem_cnt (a := a) ((r.2.2 ++ (F (r.2.1 + 1)).2.2).map mO) f c hc
        rw [List.length_map, List.length_append] at hcnt2
        have hC2 := hC.zem ((r.2.2 ++ (F (r.2.1 + 1)).2.2).map mO) c
        cases hq1 : (F (r.2.1 + 1)).1 with
        | true =>
          rw [if_pos hq1] at h
          have hl := hq.2.2.2 hq1
          have ez2 : zem1 (zem f a c ((r.2.2 ++ (F (r.2.1 + 1)).2.2).map mO)) a (c + (r.2.2.length + (F (r.2.1 + 1)).2.2.length)) (-2) = zem f a c ((r.2.2 ++ (F (r.2.1 + 1)).2.2 ++ [(6, 0, 0)]).map mO) := by
            rw [List.map_append (l₂ := [(6, 0, 0)]), zem_app, List.length_map, List.length_append]; rfl
          have next := ih (true, (F (r.2.1 + 1)).2.1, r.2.2 ++ (F (r.2.1 + 1)).2.2 ++ [(6, 0, 0)]) ⟨by show p ≤ (F (r.2.1 + 1)).2.1; omega, hq.2.1, by rw [List.length_append, List.length_append]; show r.2.2.length + (F (r.2.1 + 1)).2.2.length + 1 + p ≤ (F (r.2.1 + 1)).2.1; omega⟩ (by show N ≤ (F (r.2.1 + 1)).2.1 + n; omega) h
          refine Z_aload_n dX12_every_4 rfl rfl ?_
          refine Z_getIv dX12_every_5 cl_12 fl_X12_83_12 rfl (mw_i34 hm) PS_7 ?_
          refine Z_if_ne (tgt := 43) dX12_every_8 (by decide) (fun h8 => ?_) (fun h8 => ?_)
          · skip
            exact absurd rfl h8
          · skip
            refine Z_aload_n dX12_every_11 rfl rfl ?_
            refine Z_V0z (ci := 12) dX12_every_12 to_X12_here lk_X12_87 iv_X12_here ⟨rfl, rfl⟩ (mw_i34 hm) (Nat.le_of_ble_eq_true rfl) ⟨rfl, rfl⟩ ⟨by decide, by decide⟩ ?_
            refine c_here hC1 hb.2.1 ?_
            refine Z_bipush (v := 38) dX12_every_15 (by decide) ?_
            refine Z_icmp_ne (tgt := 43) dX12_every_17 (by decide) (fun h17 => ?_) (fun h17 => ?_)
            · skip
              exact absurd ((hv_eq hC (c := 38) (by omega)).mpr hz) h17
            · skip
              refine Z_aload_n dX12_every_20 rfl rfl ?_
              refine Z_dup dX12_every_21 rfl ?_
              refine Z_getIv dX12_every_22 cl_12 fl_X12_77_12 rfl (mw_i34 hm) PS_5 ?_
              refine Z_iconst (v := 1) dX12_every_25 (by decide) ?_
              refine Z_iadd dX12_every_26 ?_
              refine Z_putI dX12_every_27 cl_12 fl_X12_77_12 (Or.inl fn_12_5) rfl (mw_i34 hm) rfl rfl ?_
              rw [nI_1, PS_sp]
              refine Z_aload_n dX12_every_30 rfl rfl ?_
              refine Z_V0z (ci := 12) dX12_every_31 to_X12_factor lk_X12_110 iv_X12_factor ⟨rfl, rfl⟩ (mw_i34 hm) (Nat.le_of_ble_eq_true rfl) ⟨rfl, rfl⟩ ⟨by decide, by decide⟩ ?_
              refine hF _ _ (c + r.2.2.length) _ hC1 (by omega) hcnt (by omega) ?_
              rw [ez, hq1]
              refine Z_aload_n dX12_every_34 rfl rfl ?_
              refine Z_bipush (v := -2) dX12_every_35 (by decide) ?_
              refine Z_V1z (ci := 12) dX12_every_37 to_X12_emits lk_X12_113 iv_X12_emits ⟨rfl, rfl⟩ (mw_i34 hm) (Nat.le_of_ble_eq_true rfl) ⟨rfl, rfl⟩ ⟨by decide, by decide⟩ ?_
              refine c_emits hC2 hcnt2 (by omega) ?_
              rw [ez2]
              refine Z_goto (tgt := 4) dX12_every_40 (by decide) ?_
              exact next
        | false =>
          rw [if_neg (fun z => by rw [hq1] at z; exact Bool.false_ne_true z)] at h
          have nz : ¬ ((false, (F (r.2.1 + 1)).2.1, r.2.2 ++ (F (r.2.1 + 1)).2.2) : PR).1 = true := Bool.false_ne_true
          have next := ih (false, (F (r.2.1 + 1)).2.1, r.2.2 ++ (F (r.2.1 + 1)).2.2) ⟨by show p ≤ (F (r.2.1 + 1)).2.1; omega, hq.2.1, by rw [List.length_append]; show r.2.2.length + (F (r.2.1 + 1)).2.2.length + p ≤ (F (r.2.1 + 1)).2.1; omega⟩ (by show N ≤ (F (r.2.1 + 1)).2.1 + n; omega) (by rw [pLoop_f n _ (fun z => nz z.1)]; exact h)
          refine Z_aload_n dX12_every_4 rfl rfl ?_
          refine Z_getIv dX12_every_5 cl_12 fl_X12_83_12 rfl (mw_i34 hm) PS_7 ?_
          refine Z_if_ne (tgt := 43) dX12_every_8 (by decide) (fun h8 => ?_) (fun h8 => ?_)
          · skip
            exact absurd rfl h8
          · skip
            refine Z_aload_n dX12_every_11 rfl rfl ?_
            refine Z_V0z (ci := 12) dX12_every_12 to_X12_here lk_X12_87 iv_X12_here ⟨rfl, rfl⟩ (mw_i34 hm) (Nat.le_of_ble_eq_true rfl) ⟨rfl, rfl⟩ ⟨by decide, by decide⟩ ?_
            refine c_here hC1 hb.2.1 ?_
            refine Z_bipush (v := 38) dX12_every_15 (by decide) ?_
            refine Z_icmp_ne (tgt := 43) dX12_every_17 (by decide) (fun h17 => ?_) (fun h17 => ?_)
            · skip
              exact absurd ((hv_eq hC (c := 38) (by omega)).mpr hz) h17
            · skip
              refine Z_aload_n dX12_every_20 rfl rfl ?_
              refine Z_dup dX12_every_21 rfl ?_
              refine Z_getIv dX12_every_22 cl_12 fl_X12_77_12 rfl (mw_i34 hm) PS_5 ?_
              refine Z_iconst (v := 1) dX12_every_25 (by decide) ?_
              refine Z_iadd dX12_every_26 ?_
              refine Z_putI dX12_every_27 cl_12 fl_X12_77_12 (Or.inl fn_12_5) rfl (mw_i34 hm) rfl rfl ?_
              rw [nI_1, PS_sp]
              refine Z_aload_n dX12_every_30 rfl rfl ?_
              refine Z_V0z (ci := 12) dX12_every_31 to_X12_factor lk_X12_110 iv_X12_factor ⟨rfl, rfl⟩ (mw_i34 hm) (Nat.le_of_ble_eq_true rfl) ⟨rfl, rfl⟩ ⟨by decide, by decide⟩ ?_
              refine hF _ _ (c + r.2.2.length) _ hC1 (by omega) hcnt (by omega) ?_
              rw [ez, hq1]
              refine Z_aload_n dX12_every_34 rfl rfl ?_
              refine Z_bipush (v := -2) dX12_every_35 (by decide) ?_
              refine Z_V1z (ci := 12) dX12_every_37 to_X12_emits lk_X12_113 iv_X12_emits ⟨rfl, rfl⟩ (mw_i34 hm) (Nat.le_of_ble_eq_true rfl) ⟨rfl, rfl⟩ ⟨by decide, by decide⟩ ?_
              refine c_emitsW hC2 ?_
              refine Z_goto (tgt := 4) dX12_every_40 (by decide) ?_
              exact next
      · rw [pLoop_f (n + 1) r (fun z => hz z.2), hr] at h
        refine Z_aload_n dX12_every_4 rfl rfl ?_
        refine Z_getIv dX12_every_5 cl_12 fl_X12_83_12 rfl (mw_i34 hm) PS_7 ?_
        refine Z_if_ne (tgt := 43) dX12_every_8 (by decide) (fun h8 => ?_) (fun h8 => ?_)
        · skip
          exact absurd rfl h8
        · skip
          refine Z_aload_n dX12_every_11 rfl rfl ?_
          refine Z_V0z (ci := 12) dX12_every_12 to_X12_here lk_X12_87 iv_X12_here ⟨rfl, rfl⟩ (mw_i34 hm) (Nat.le_of_ble_eq_true rfl) ⟨rfl, rfl⟩ ⟨by decide, by decide⟩ ?_
          refine c_here hC1 hb.2.1 ?_
          refine Z_bipush (v := 38) dX12_every_15 (by decide) ?_
          refine Z_icmp_ne (tgt := 43) dX12_every_17 (by decide) (fun h17 => ?_) (fun h17 => ?_)
          · skip
            refine Z_vret dX12_every_43 rfl ⟨by decide, by decide⟩ ?_
            exact h
          · skip
            exact absurd ((hv_eq hC (c := 38) (by omega)).mp h17) hz
theorem c_every {F : Nat → PR} (hF : mRd G α τ N a o (d + 2) mX12_factor F) (hok : pOk N F) : mRd G α τ N a o (d + 3) mX12_every (pEvr τ N F) := by
  intro f p c post hC hp hc hcp h
  have hN := hC.2.2.2.1
  have hb := hok p hp
  have hm : ∀ {f : Nat → Int32} {p : Nat} {w : Int32} {o : Nat}, MW (PS α f p w o) := hC.1
  refine ZK.of (n := 0) (by decide) (Nat.le_of_ble_eq_true rfl) rfl ?_
  refine Z_aload_n dX12_every_0 rfl rfl ?_
  refine Z_V0z (ci := 12) dX12_every_1 to_X12_factor lk_X12_110 iv_X12_factor ⟨rfl, rfl⟩ (mw_i34 hm) (Nat.le_of_ble_eq_true rfl) ⟨rfl, rfl⟩ ⟨by decide, by decide⟩ ?_
  refine hF f p c _ hC hp hc hcp ?_
  exact lp_every hC hc hcp hF hok 100 (F p) ⟨hb.1, hb.2.1, hb.2.2.1⟩ (by omega) h
theorem lp_some {F : Nat → PR} (hC : PC α f τ N a) (hc : f (187 + a) = nI c) (hcp : c ≤ p) (hF : mRd G α τ N a o (d + 2) mX12_every F) (hok : pOk N F) :
    ∀ (n : Nat) (r : PR), (p ≤ r.2.1 ∧ r.2.1 ≤ N ∧ r.2.2.length + p ≤ r.2.1) → N ≤ r.2.1 + n → post none (PS α (zem f a c ((pLoop τ N 124 (7, 0, 0) F n r).2.2.map mO)) (pLoop τ N 124 (7, 0, 0) F n r).2.1 (b2i (!(pLoop τ N 124 (7, 0, 0) F n r).1)) o) → Z G mX12_some (d + 3) 4 [some (.ref (G.1 + 34))] [] (PS α (zem f a c (r.2.2.map mO)) r.2.1 (b2i (!r.1)) o) (0, 0) post := by
  have hm : ∀ {f : Nat → Int32} {p : Nat} {w : Int32} {o : Nat}, MW (PS α f p w o) := hC.1
  have hN := hC.2.2.2.1
  intro n
  induction n with
  | zero =>
    intro r hb hn h
    have hC1 := hC.zem (r.2.2.map mO) c
    have hz : ¬ (r.2.1 < N ∧ τ r.2.1 = 124) := fun z => by omega
    cases hr : r.1 with
    | false =>
      rw [pLoop_f 0 r (fun z => hz z.2), hr] at h
      refine Z_aload_n dX12_some_4 rfl rfl ?_
      refine Z_getIv dX12_some_5 cl_12 fl_X12_83_12 rfl (mw_i34 hm) PS_7 ?_
      refine Z_if_ne (tgt := 43) dX12_some_8 (by decide) (fun h8 => ?_) (fun h8 => ?_)
      · skip
        refine Z_vret dX12_some_43 rfl ⟨by decide, by decide⟩ ?_
        exact h
      · skip
        exact absurd h8 (by decide)
    | true =>
      rw [pLoop_f 0 r (fun z => hz z.2), hr] at h
      refine Z_aload_n dX12_some_4 rfl rfl ?_
      refine Z_getIv dX12_some_5 cl_12 fl_X12_83_12 rfl (mw_i34 hm) PS_7 ?_
      refine Z_if_ne (tgt := 43) dX12_some_8 (by decide) (fun h8 => ?_) (fun h8 => ?_)
      · skip
        exact absurd rfl h8
      · skip
        refine Z_aload_n dX12_some_11 rfl rfl ?_
        refine Z_V0z (ci := 12) dX12_some_12 to_X12_here lk_X12_87 iv_X12_here ⟨rfl, rfl⟩ (mw_i34 hm) (Nat.le_of_ble_eq_true rfl) ⟨rfl, rfl⟩ ⟨by decide, by decide⟩ ?_
        refine c_here hC1 hb.2.1 ?_
        refine Z_bipush (v := 124) dX12_some_15 (by decide) ?_
        refine Z_icmp_ne (tgt := 43) dX12_some_17 (by decide) (fun h17 => ?_) (fun h17 => ?_)
        · skip
          refine Z_vret dX12_some_43 rfl ⟨by decide, by decide⟩ ?_
          exact h
        · skip
          exact absurd ((hv_eq hC (c := 124) (by omega)).mp h17) hz
  | succ n ih =>
    intro r hb hn h
    have hC1 := hC.zem (r.2.2.map mO) c
    cases hr : r.1 with
    | false =>
      rw [pLoop_f (n + 1) r (fun z => by rw [hr] at z; exact Bool.false_ne_true z.1), hr] at h
      refine Z_aload_n dX12_some_4 rfl rfl ?_
      refine Z_getIv dX12_some_5 cl_12 fl_X12_83_12 rfl (mw_i34 hm) PS_7 ?_
      refine Z_if_ne (tgt := 43) dX12_some_8 (by decide) (fun h8 => ?_) (fun h8 => ?_)
      · skip
        refine Z_vret dX12_some_43 rfl ⟨by decide, by decide⟩ ?_
        exact h
      · skip
        exact absurd h8 (by decide)
    | true =>
      by_cases hz : r.2.1 < N ∧ τ r.2.1 = 124
      · have hq := hok (r.2.1 + 1) (by omega)
        have hcnt := zem_cnt (a := a) (r.2.2.map mO) f c hc
        rw [List.length_map] at hcnt
        have hstep : pLoop τ N 124 (7, 0, 0) F (n + 1) r = if (F (r.2.1 + 1)).1 = true then pLoop τ N 124 (7, 0, 0) F n (true, (F (r.2.1 + 1)).2.1, r.2.2 ++ (F (r.2.1 + 1)).2.2 ++ [(7, 0, 0)]) else (false, (F (r.2.1 + 1)).2.1, r.2.2 ++ (F (r.2.1 + 1)).2.2) := if_pos ⟨hr, hz⟩
        rw [hstep] at h
        have ez : zem (zem f a c (r.2.2.map mO)) a (c + r.2.2.length) ((F (r.2.1 + 1)).2.2.map mO) = zem f a c ((r.2.2 ++ (F (r.2.1 + 1)).2.2).map mO) := by
          rw [List.map_append, zem_app, List.length_map]
        have hcnt2 := zem_cnt (a := a) ((r.2.2 ++ (F (r.2.1 + 1)).2.2).map mO) f c hc
        rw [List.length_map, List.length_append] at hcnt2
        have hC2 := hC.zem ((r.2.2 ++ (F (r.2.1 + 1)).2.2).map mO) c
        cases hq1 : (F (r.2.1 + 1)).1 with
        | true =>
          rw [if_pos hq1] at h
          have hl := hq.2.2.2 hq1
          have ez2 : zem1 (zem f a c ((r.2.2 ++ (F (r.2.1 + 1)).2.2).map mO)) a (c + (r.2.2.length + (F (r.2.1 + 1)).2.2.length)) (-3) = zem f a c ((r.2.2 ++ (F (r.2.1 + 1)).2.2 ++ [(7, 0, 0)]).map mO) := by
            rw [List.map_append (l₂ := [(7, 0, 0)]), zem_app, List.length_map, List.length_append]; rfl
          have next := ih (true, (F (r.2.1 + 1)).2.1, r.2.2 ++ (F (r.2.1 + 1)).2.2 ++ [(7, 0, 0)]) ⟨by show p ≤ (F (r.2.1 + 1)).2.1; omega, hq.2.1, by rw [List.length_append, List.length_append]; show r.2.2.length + (F (r.2.1 + 1)).2.2.length + 1 + p ≤ (F (r.2.1 + 1)).2.1; omega⟩ (by show N ≤ (F (r.2.1 + 1)).2.1 + n; omega) h
          refine Z_aload_n dX12_some_4 rfl rfl ?_
          refine Z_getIv dX12_some_5 cl_12 fl_X12_83_12 rfl (mw_i34 hm) PS_7 ?_
          refine Z_if_ne (tgt := 43) dX12_some_8 (by decide) (fun h8 => ?_) (fun h8 => ?_)
          · skip
            exact absurd rfl h8
          · skip
            refine Z_aload_n dX12_some_11 rfl rfl ?_
            refine Z_V0z (ci := 12) dX12_some_12 to_X12_here lk_X12_87 iv_X12_here ⟨rfl, rfl⟩ (mw_i34 hm) (Nat.le_of_ble_eq_true rfl) ⟨rfl, rfl⟩ ⟨by decide, by decide⟩ ?_
            refine c_here hC1 hb.2.1 ?_
            refine Z_bipush (v := 124) dX12_some_15 (by decide) ?_
            refine Z_icmp_ne (tgt := 43) dX12_some_17 (by decide) (fun h17 => ?_) (fun h17 => ?_)
            · skip
              exact absurd ((hv_eq hC (c := 124) (by omega)).mpr hz) h17
            · skip
              refine Z_aload_n dX12_some_20 rfl rfl ?_
              refine Z_dup dX12_some_21 rfl ?_
              refine Z_getIv dX12_some_22 cl_12 fl_X12_77_12 rfl (mw_i34 hm) PS_5 ?_
              refine Z_iconst (v := 1) dX12_some_25 (by decide) ?_
              refine Z_iadd dX12_some_26 ?_
              refine Z_putI dX12_some_27 cl_12 fl_X12_77_12 (Or.inl fn_12_5) rfl (mw_i34 hm) rfl rfl ?_
              rw [nI_1, PS_sp]
              refine Z_aload_n dX12_some_30 rfl rfl ?_
              refine Z_V0z (ci := 12) dX12_some_31 to_X12_every lk_X12_130 iv_X12_every ⟨rfl, rfl⟩ (mw_i34 hm) (Nat.le_of_ble_eq_true rfl) ⟨rfl, rfl⟩ ⟨by decide, by decide⟩ ?_
              refine hF _ _ (c + r.2.2.length) _ hC1 (by omega) hcnt (by omega) ?_
              rw [ez, hq1]
              refine Z_aload_n dX12_some_34 rfl rfl ?_
              refine Z_bipush (v := -3) dX12_some_35 (by decide) ?_
              refine Z_V1z (ci := 12) dX12_some_37 to_X12_emits lk_X12_113 iv_X12_emits ⟨rfl, rfl⟩ (mw_i34 hm) (Nat.le_of_ble_eq_true rfl) ⟨rfl, rfl⟩ ⟨by decide, by decide⟩ ?_
              refine c_emits hC2 hcnt2 (by omega) ?_
              rw [ez2]
              refine Z_goto (tgt := 4) dX12_some_40 (by decide) ?_
              exact next
        | false =>
          rw [if_neg (fun z => by rw [hq1] at z; exact Bool.false_ne_true z)] at h
          have nz : ¬ ((false, (F (r.2.1 + 1)).2.1, r.2.2 ++ (F (r.2.1 + 1)).2.2) : PR).1 = true := Bool.false_ne_true
          have next := ih (false, (F (r.2.1 + 1)).2.1, r.2.2 ++ (F (r.2.1 + 1)).2.2) ⟨by show p ≤ (F (r.2.1 + 1)).2.1; omega, hq.2.1, by rw [List.length_append]; show r.2.2.length + (F (r.2.1 + 1)).2.2.length + p ≤ (F (r.2.1 + 1)).2.1; omega⟩ (by show N ≤ (F (r.2.1 + 1)).2.1 + n; omega) (by rw [pLoop_f n _ (fun z => nz z.1)]; exact h)
          refine Z_aload_n dX12_some_4 rfl rfl ?_
          refine Z_getIv dX12_some_5 cl_12 fl_X12_83_12 rfl (mw_i34 hm) PS_7 ?_
          refine Z_if_ne (tgt := 43) dX12_some_8 (by decide) (fun h8 => ?_) (fun h8 => ?_)
          · skip
            exact absurd rfl h8
          · skip
            refine Z_aload_n dX12_some_11 rfl rfl ?_
            refine Z_V0z (ci := 12) dX12_some_12 to_X12_here lk_X12_87 iv_X12_here ⟨rfl, rfl⟩ (mw_i34 hm) (Nat.le_of_ble_eq_true rfl) ⟨rfl, rfl⟩ ⟨by decide, by decide⟩ ?_
            refine c_here hC1 hb.2.1 ?_
            refine Z_bipush (v := 124) dX12_some_15 (by decide) ?_
            refine Z_icmp_ne (tgt := 43) dX12_some_17 (by decide) (fun h17 => ?_) (fun h17 => ?_)
            · skip
              exact absurd ((hv_eq hC (c := 124) (by omega)).mpr hz) h17
            · skip
              refine Z_aload_n dX12_some_20 rfl rfl ?_
              refine Z_dup dX12_some_21 rfl ?_
              refine Z_getIv dX12_some_22 cl_12 fl_X12_77_12 rfl (mw_i34 hm) PS_5 ?_
              refine Z_iconst (v := 1) dX12_some_25 (by decide) ?_
              refine Z_iadd dX12_some_26 ?_
              refine Z_putI dX12_some_27 cl_12 fl_X12_77_12 (Or.inl fn_12_5) rfl (mw_i34 hm) rfl rfl ?_
              rw [nI_1, PS_sp]
              refine Z_aload_n dX12_some_30 rfl rfl ?_
              refine Z_V0z (ci := 12) dX12_some_31 to_X12_every lk_X12_130 iv_X12_every ⟨rfl, rfl⟩ (mw_i34 hm) (Nat.le_of_ble_eq_true rfl) ⟨rfl, rfl⟩ ⟨by decide, by decide⟩ ?_
              refine hF _ _ (c + r.2.2.length) _ hC1 (by omega) hcnt (by omega) ?_
              rw [ez, hq1]
              refine Z_aload_n dX12_some_34 rfl rfl ?_
              refine Z_bipush (v := -3) dX12_some_35 (by decide) ?_
              refine Z_V1z (ci := 12) dX12_some_37 to_X12_emits lk_X12_113 iv_X12_emits ⟨rfl, rfl⟩ (mw_i34 hm) (Nat.le_of_ble_eq_true rfl) ⟨rfl, rfl⟩ ⟨by decide, by decide⟩ ?_
              refine c_emitsW hC2 ?_
              refine Z_goto (tgt := 4) dX12_some_40 (by decide) ?_
              exact next
      · rw [pLoop_f (n + 1) r (fun z => hz z.2), hr] at h
        refine Z_aload_n dX12_some_4 rfl rfl ?_
        refine Z_getIv dX12_some_5 cl_12 fl_X12_83_12 rfl (mw_i34 hm) PS_7 ?_
        refine Z_if_ne (tgt := 43) dX12_some_8 (by decide) (fun h8 => ?_) (fun h8 => ?_)
        · skip
          exact absurd rfl h8
        · skip
          refine Z_aload_n dX12_some_11 rfl rfl ?_
          refine Z_V0z (ci := 12) dX12_some_12 to_X12_here lk_X12_87 iv_X12_here ⟨rfl, rfl⟩ (mw_i34 hm) (Nat.le_of_ble_eq_true rfl) ⟨rfl, rfl⟩ ⟨by decide, by decide⟩ ?_
          refine c_here hC1 hb.2.1 ?_
          refine Z_bipush (v := 124) dX12_some_15 (by decide) ?_
          refine Z_icmp_ne (tgt := 43) dX12_some_17 (by decide) (fun h17 => ?_) (fun h17 => ?_)
          · skip
            refine Z_vret dX12_some_43 rfl ⟨by decide, by decide⟩ ?_
            exact h
          · skip
            exact absurd ((hv_eq hC (c := 124) (by omega)).mp h17) hz
theorem c_some {F : Nat → PR} (hF : mRd G α τ N a o (d + 2) mX12_every F) (hok : pOk N F) : mRd G α τ N a o (d + 3) mX12_some (fun p => pLoop τ N 124 (7, 0, 0) F 100 (F p)) := by
  intro f p c post hC hp hc hcp h
  have hN := hC.2.2.2.1
  have hb := hok p hp
  have hm : ∀ {f : Nat → Int32} {p : Nat} {w : Int32} {o : Nat}, MW (PS α f p w o) := hC.1
  refine ZK.of (n := 0) (by decide) (Nat.le_of_ble_eq_true rfl) rfl ?_
  refine Z_aload_n dX12_some_0 rfl rfl ?_
  refine Z_V0z (ci := 12) dX12_some_1 to_X12_every lk_X12_130 iv_X12_every ⟨rfl, rfl⟩ (mw_i34 hm) (Nat.le_of_ble_eq_true rfl) ⟨rfl, rfl⟩ ⟨by decide, by decide⟩ ?_
  refine hF f p c _ hC hp hc hcp ?_
  exact lp_some hC hc hcp hF hok 100 (F p) ⟨hb.1, hb.2.1, hb.2.2.1⟩ (by omega) h

theorem lp_fac0 (ho : o = 5) : mRd G α τ N a o (d + 6) mX12_factor (pFac τ N 0) := by
  intro f p c post hC hp hc hcp h
  have hm : ∀ {f : Nat → Int32} {p : Nat} {w : Int32} {o : Nat}, MW (PS α f p w o) := hC.1
  subst ho
  unfold pFac at h
  refine ZK.of (n := 4) (by decide) (Nat.le_of_ble_eq_true rfl) rfl ?_
  by_cases hz : p < N ∧ (τ p = 33 ∨ τ p = 40)
  · rw [if_pos hz] at h
    by_cases h33 : τ p = 33
    · have e33 : hv τ N p = 33 := (hv_eq hC (c := 33) (by omega)).mpr ⟨hz.1, h33⟩
      refine Z_aload_n dX12_factor_0 rfl rfl ?_
      refine Z_getIv dX12_factor_1 cl_12 fl_X12_83_12 rfl (mw_i34 hm) PS_7 ?_
      refine Z_if_eq (tgt := 8) dX12_factor_4 (by decide) (fun h4 => ?_) (fun h4 => ?_)
      · skip
        refine Z_aload_n dX12_factor_8 rfl rfl ?_
        refine Z_V0z (ci := 12) dX12_factor_9 to_X12_here lk_X12_87 iv_X12_here ⟨rfl, rfl⟩ (mw_i34 hm) (Nat.le_of_ble_eq_true rfl) ⟨rfl, rfl⟩ ⟨by decide, by decide⟩ ?_
        refine c_here hC hp ?_
        refine Z_istore_n (L' := [_, _, _, _, _]) dX12_factor_12 rfl (by decide) rfl rfl ?_
        refine Z_iload_n dX12_factor_13 rfl rfl ?_
        refine Z_bipush (v := 33) dX12_factor_14 (by decide) ?_
        refine Z_icmp_eq (tgt := 25) dX12_factor_16 (by decide) (fun h16 => ?_) (fun h16 => ?_)
        · skip
          refine Z_aload_n dX12_factor_25 rfl rfl ?_
          refine Z_aload_n dX12_factor_26 rfl rfl ?_
          refine Z_getIv dX12_factor_27 cl_12 fl_X12_107_12 rfl (mw_i34 hm) PS_8 ?_
          refine Z_iconst (v := 5) dX12_factor_30 (by decide) ?_
          refine Z_icmp_ne (tgt := 38) dX12_factor_31 (by decide) (fun h31 => ?_) (fun h31 => ?_)
          · skip
            exact absurd rfl h31
          · skip
            refine Z_iconst (v := 1) dX12_factor_34 (by decide) ?_
            refine Z_goto (tgt := 39) dX12_factor_35 (by decide) ?_
            refine Z_putI dX12_factor_39 cl_12 fl_X12_83_12 (Or.inl fn_12_7) rfl (mw_i34 hm) rfl rfl ?_
            rw [PS_wr]
            refine Z_aload_n dX12_factor_42 rfl rfl ?_
            refine Z_dup dX12_factor_43 rfl ?_
            refine Z_getIv dX12_factor_44 cl_12 fl_X12_107_12 rfl (mw_i34 hm) PS_8 ?_
            refine Z_iconst (v := 1) dX12_factor_47 (by decide) ?_
            refine Z_iadd dX12_factor_48 ?_
            refine Z_putI dX12_factor_49 cl_12 fl_X12_107_12 (Or.inl fn_12_8) rfl (mw_i34 hm) rfl rfl ?_
            rw [nI_1, PS_op]
            refine Z_aload_n dX12_factor_52 rfl rfl ?_
            refine Z_dup dX12_factor_53 rfl ?_
            refine Z_getIv dX12_factor_54 cl_12 fl_X12_77_12 rfl (mw_i34 hm) PS_5 ?_
            refine Z_aload_n dX12_factor_57 rfl rfl ?_
            refine Z_getIv dX12_factor_58 cl_12 fl_X12_83_12 rfl (mw_i34 hm) PS_7 ?_
            refine Z_if_eq (tgt := 68) dX12_factor_61 (by decide) (fun h61 => ?_) (fun h61 => ?_)
            · skip
              exact absurd h61 (by decide)
            · skip
              refine Z_iconst (v := 0) dX12_factor_64 (by decide) ?_
              refine Z_goto (tgt := 69) dX12_factor_65 (by decide) ?_
              refine Z_iadd dX12_factor_69 ?_
              refine Z_putI dX12_factor_70 cl_12 fl_X12_77_12 (Or.inl fn_12_5) rfl (mw_i34 hm) rfl rfl ?_
              rw [Int32.add_zero, PS_sp]
              refine Z_iload_n dX12_factor_73 rfl rfl ?_
              refine Z_bipush (v := 33) dX12_factor_74 (by decide) ?_
              refine Z_icmp_ne (tgt := 91) dX12_factor_76 (by decide) (fun h76 => ?_) (fun h76 => ?_)
              · skip
                exact absurd e33 h76
              · skip
                refine Z_aload_n dX12_factor_79 rfl rfl ?_
                refine Z_V0z (ci := 12) dX12_factor_80 to_X12_factor lk_X12_110 iv_X12_factor ⟨rfl, rfl⟩ (mw_i34 hm) (Nat.le_of_ble_eq_true rfl) ⟨rfl, rfl⟩ ⟨by decide, by decide⟩ ?_
                refine c_factorW hC ?_
                refine Z_aload_n dX12_factor_83 rfl rfl ?_
                refine Z_iconst (v := -1) dX12_factor_84 (by decide) ?_
                refine Z_V1z (ci := 12) dX12_factor_85 to_X12_emits lk_X12_113 iv_X12_emits ⟨rfl, rfl⟩ (mw_i34 hm) (Nat.le_of_ble_eq_true rfl) ⟨rfl, rfl⟩ ⟨by decide, by decide⟩ ?_
                refine c_emitsW hC ?_
                refine Z_goto (tgt := 101) dX12_factor_88 (by decide) ?_
                refine Z_aload_n dX12_factor_101 rfl rfl ?_
                refine Z_dup dX12_factor_102 rfl ?_
                refine Z_getIv dX12_factor_103 cl_12 fl_X12_107_12 rfl (mw_i34 hm) PS_8 ?_
                refine Z_iconst (v := 1) dX12_factor_106 (by decide) ?_
                refine Z_isub dX12_factor_107 ?_
                refine Z_putI dX12_factor_108 cl_12 fl_X12_107_12 (Or.inl fn_12_8) rfl (mw_i34 hm) rfl rfl ?_
                rw [nI_pred, PS_op]
                refine Z_vret dX12_factor_111 rfl ⟨by decide, by decide⟩ ?_
                exact h
        · skip
          exact absurd e33 h16
      · skip
        exact absurd rfl h4
    · have h40 : τ p = 40 := hz.2.resolve_left h33
      have e40 : hv τ N p = 40 := (hv_eq hC (c := 40) (by omega)).mpr ⟨hz.1, h40⟩
      refine Z_aload_n dX12_factor_0 rfl rfl ?_
      refine Z_getIv dX12_factor_1 cl_12 fl_X12_83_12 rfl (mw_i34 hm) PS_7 ?_
      refine Z_if_eq (tgt := 8) dX12_factor_4 (by decide) (fun h4 => ?_) (fun h4 => ?_)
      · skip
        refine Z_aload_n dX12_factor_8 rfl rfl ?_
        refine Z_V0z (ci := 12) dX12_factor_9 to_X12_here lk_X12_87 iv_X12_here ⟨rfl, rfl⟩ (mw_i34 hm) (Nat.le_of_ble_eq_true rfl) ⟨rfl, rfl⟩ ⟨by decide, by decide⟩ ?_
        refine c_here hC hp ?_
        refine Z_istore_n (L' := [_, _, _, _, _]) dX12_factor_12 rfl (by decide) rfl rfl ?_
        refine Z_iload_n dX12_factor_13 rfl rfl ?_
        refine Z_bipush (v := 33) dX12_factor_14 (by decide) ?_
        refine Z_icmp_eq (tgt := 25) dX12_factor_16 (by decide) (fun h16 => ?_) (fun h16 => ?_)
        · skip
          rw [e40] at h16; exact absurd h16 (by decide)
        · skip
          refine Z_iload_n dX12_factor_19 rfl rfl ?_
          refine Z_bipush (v := 40) dX12_factor_20 (by decide) ?_
          refine Z_icmp_ne (tgt := 112) dX12_factor_22 (by decide) (fun h22 => ?_) (fun h22 => ?_)
          · skip
            exact absurd e40 h22
          · skip
            refine Z_aload_n dX12_factor_25 rfl rfl ?_
            refine Z_aload_n dX12_factor_26 rfl rfl ?_
            refine Z_getIv dX12_factor_27 cl_12 fl_X12_107_12 rfl (mw_i34 hm) PS_8 ?_
            refine Z_iconst (v := 5) dX12_factor_30 (by decide) ?_
            refine Z_icmp_ne (tgt := 38) dX12_factor_31 (by decide) (fun h31 => ?_) (fun h31 => ?_)
            · skip
              exact absurd rfl h31
            · skip
              refine Z_iconst (v := 1) dX12_factor_34 (by decide) ?_
              refine Z_goto (tgt := 39) dX12_factor_35 (by decide) ?_
              refine Z_putI dX12_factor_39 cl_12 fl_X12_83_12 (Or.inl fn_12_7) rfl (mw_i34 hm) rfl rfl ?_
              rw [PS_wr]
              refine Z_aload_n dX12_factor_42 rfl rfl ?_
              refine Z_dup dX12_factor_43 rfl ?_
              refine Z_getIv dX12_factor_44 cl_12 fl_X12_107_12 rfl (mw_i34 hm) PS_8 ?_
              refine Z_iconst (v := 1) dX12_factor_47 (by decide) ?_
              refine Z_iadd dX12_factor_48 ?_
              refine Z_putI dX12_factor_49 cl_12 fl_X12_107_12 (Or.inl fn_12_8) rfl (mw_i34 hm) rfl rfl ?_
              rw [nI_1, PS_op]
              refine Z_aload_n dX12_factor_52 rfl rfl ?_
              refine Z_dup dX12_factor_53 rfl ?_
              refine Z_getIv dX12_factor_54 cl_12 fl_X12_77_12 rfl (mw_i34 hm) PS_5 ?_
              refine Z_aload_n dX12_factor_57 rfl rfl ?_
              refine Z_getIv dX12_factor_58 cl_12 fl_X12_83_12 rfl (mw_i34 hm) PS_7 ?_
              refine Z_if_eq (tgt := 68) dX12_factor_61 (by decide) (fun h61 => ?_) (fun h61 => ?_)
              · skip
                exact absurd h61 (by decide)
              · skip
                refine Z_iconst (v := 0) dX12_factor_64 (by decide) ?_
                refine Z_goto (tgt := 69) dX12_factor_65 (by decide) ?_
                refine Z_iadd dX12_factor_69 ?_
                refine Z_putI dX12_factor_70 cl_12 fl_X12_77_12 (Or.inl fn_12_5) rfl (mw_i34 hm) rfl rfl ?_
                rw [Int32.add_zero, PS_sp]
                refine Z_iload_n dX12_factor_73 rfl rfl ?_
                refine Z_bipush (v := 33) dX12_factor_74 (by decide) ?_
                refine Z_icmp_ne (tgt := 91) dX12_factor_76 (by decide) (fun h76 => ?_) (fun h76 => ?_)
                · skip
                  refine Z_aload_n dX12_factor_91 rfl rfl ?_
                  refine Z_V0z (ci := 12) dX12_factor_92 to_X12_some lk_X12_116 iv_X12_some ⟨rfl, rfl⟩ (mw_i34 hm) (Nat.le_of_ble_eq_true rfl) ⟨rfl, rfl⟩ ⟨by decide, by decide⟩ ?_
                  refine c_someW hC ?_
                  refine Z_aload_n dX12_factor_95 rfl rfl ?_
                  refine Z_bipush (v := 41) dX12_factor_96 (by decide) ?_
                  refine Z_V1z (ci := 12) dX12_factor_98 to_X12_must lk_X12_100 iv_X12_must ⟨rfl, rfl⟩ (mw_i34 hm) (Nat.le_of_ble_eq_true rfl) ⟨rfl, rfl⟩ ⟨by decide, by decide⟩ ?_
                  refine c_mustW hC hp ?_
                  refine Z_aload_n dX12_factor_101 rfl rfl ?_
                  refine Z_dup dX12_factor_102 rfl ?_
                  refine Z_getIv dX12_factor_103 cl_12 fl_X12_107_12 rfl (mw_i34 hm) PS_8 ?_
                  refine Z_iconst (v := 1) dX12_factor_106 (by decide) ?_
                  refine Z_isub dX12_factor_107 ?_
                  refine Z_putI dX12_factor_108 cl_12 fl_X12_107_12 (Or.inl fn_12_8) rfl (mw_i34 hm) rfl rfl ?_
                  rw [nI_pred, PS_op]
                  refine Z_vret dX12_factor_111 rfl ⟨by decide, by decide⟩ ?_
                  exact h
                · skip
                  rw [e40] at h76; exact absurd h76 (by decide)
      · skip
        exact absurd rfl h4
  · rw [if_neg hz] at h
    refine Z_aload_n dX12_factor_0 rfl rfl ?_
    refine Z_getIv dX12_factor_1 cl_12 fl_X12_83_12 rfl (mw_i34 hm) PS_7 ?_
    refine Z_if_eq (tgt := 8) dX12_factor_4 (by decide) (fun h4 => ?_) (fun h4 => ?_)
    · skip
      refine Z_aload_n dX12_factor_8 rfl rfl ?_
      refine Z_V0z (ci := 12) dX12_factor_9 to_X12_here lk_X12_87 iv_X12_here ⟨rfl, rfl⟩ (mw_i34 hm) (Nat.le_of_ble_eq_true rfl) ⟨rfl, rfl⟩ ⟨by decide, by decide⟩ ?_
      refine c_here hC hp ?_
      refine Z_istore_n (L' := [_, _, _, _, _]) dX12_factor_12 rfl (by decide) rfl rfl ?_
      refine Z_iload_n dX12_factor_13 rfl rfl ?_
      refine Z_bipush (v := 33) dX12_factor_14 (by decide) ?_
      refine Z_icmp_eq (tgt := 25) dX12_factor_16 (by decide) (fun h16 => ?_) (fun h16 => ?_)
      · skip
        exact absurd ((hv_eq hC (c := 33) (by omega)).mp h16) (fun z => hz ⟨z.1, Or.inl z.2⟩)
      · skip
        refine Z_iload_n dX12_factor_19 rfl rfl ?_
        refine Z_bipush (v := 40) dX12_factor_20 (by decide) ?_
        refine Z_icmp_ne (tgt := 112) dX12_factor_22 (by decide) (fun h22 => ?_) (fun h22 => ?_)
        · skip
          exact tst hC hp hc hcp h
        · skip
          exact absurd ((hv_eq hC (c := 40) (by omega)).mp h22) (fun z => hz ⟨z.1, Or.inr z.2⟩)
    · skip
      exact absurd rfl h4
theorem lp_fac {k : Nat} (ho : o < 5) (hF : mRd G α τ N a (o + 1) (d + 5) mX12_factor (pFac τ N k)) (hS : mRd G α τ N a (o + 1) (d + 5) mX12_some (pSom τ N (pFac τ N k))) : mRd G α τ N a o (d + 6) mX12_factor (pFac τ N (k + 1)) := by
  intro f p c post hC hp hc hcp h
  have hm : ∀ {f : Nat → Int32} {p : Nat} {w : Int32} {o : Nat}, MW (PS α f p w o) := hC.1
  have hN := hC.2.2.2.1
  unfold pFac at h
  refine ZK.of (n := 4) (by decide) (Nat.le_of_ble_eq_true rfl) rfl ?_
  by_cases hz : p < N ∧ τ p = 33
  · rw [if_pos hz] at h
    have e33 : hv τ N p = 33 := (hv_eq hC (c := 33) (by omega)).mpr hz
    have hq := pFac_ok (τ := τ) (N := N) k (p + 1) (by omega)
    generalize hQ : pFac τ N k (p + 1) = Q at *
    have hcnt := zem_cnt (a := a) (Q.2.2.map mO) f c hc
    rw [List.length_map] at hcnt
    have hC2 := hC.zem (Q.2.2.map mO) c
    cases hq1 : Q.1 with
    | true =>
      rw [if_pos hq1] at h
      have ez2 : zem1 (zem f a c (Q.2.2.map mO)) a (c + Q.2.2.length) (-1) = zem f a c ((Q.2.2 ++ [(5, 0, 0)]).map mO) := by
        rw [List.map_append, zem_app, List.length_map]; rfl
      refine Z_aload_n dX12_factor_0 rfl rfl ?_
      refine Z_getIv dX12_factor_1 cl_12 fl_X12_83_12 rfl (mw_i34 hm) PS_7 ?_
      refine Z_if_eq (tgt := 8) dX12_factor_4 (by decide) (fun h4 => ?_) (fun h4 => ?_)
      · skip
        refine Z_aload_n dX12_factor_8 rfl rfl ?_
        refine Z_V0z (ci := 12) dX12_factor_9 to_X12_here lk_X12_87 iv_X12_here ⟨rfl, rfl⟩ (mw_i34 hm) (Nat.le_of_ble_eq_true rfl) ⟨rfl, rfl⟩ ⟨by decide, by decide⟩ ?_
        refine c_here hC hp ?_
        refine Z_istore_n (L' := [_, _, _, _, _]) dX12_factor_12 rfl (by decide) rfl rfl ?_
        refine Z_iload_n dX12_factor_13 rfl rfl ?_
        refine Z_bipush (v := 33) dX12_factor_14 (by decide) ?_
        refine Z_icmp_eq (tgt := 25) dX12_factor_16 (by decide) (fun h16 => ?_) (fun h16 => ?_)
        · skip
          refine Z_aload_n dX12_factor_25 rfl rfl ?_
          refine Z_aload_n dX12_factor_26 rfl rfl ?_
          refine Z_getIv dX12_factor_27 cl_12 fl_X12_107_12 rfl (mw_i34 hm) PS_8 ?_
          refine Z_iconst (v := 5) dX12_factor_30 (by decide) ?_
          refine Z_icmp_ne (tgt := 38) dX12_factor_31 (by decide) (fun h31 => ?_) (fun h31 => ?_)
          · skip
            refine Z_iconst (v := 0) dX12_factor_38 (by decide) ?_
            refine Z_putI dX12_factor_39 cl_12 fl_X12_83_12 (Or.inl fn_12_7) rfl (mw_i34 hm) rfl rfl ?_
            rw [PS_wr]
            refine Z_aload_n dX12_factor_42 rfl rfl ?_
            refine Z_dup dX12_factor_43 rfl ?_
            refine Z_getIv dX12_factor_44 cl_12 fl_X12_107_12 rfl (mw_i34 hm) PS_8 ?_
            refine Z_iconst (v := 1) dX12_factor_47 (by decide) ?_
            refine Z_iadd dX12_factor_48 ?_
            refine Z_putI dX12_factor_49 cl_12 fl_X12_107_12 (Or.inl fn_12_8) rfl (mw_i34 hm) rfl rfl ?_
            rw [nI_1, PS_op]
            refine Z_aload_n dX12_factor_52 rfl rfl ?_
            refine Z_dup dX12_factor_53 rfl ?_
            refine Z_getIv dX12_factor_54 cl_12 fl_X12_77_12 rfl (mw_i34 hm) PS_5 ?_
            refine Z_aload_n dX12_factor_57 rfl rfl ?_
            refine Z_getIv dX12_factor_58 cl_12 fl_X12_83_12 rfl (mw_i34 hm) PS_7 ?_
            refine Z_if_eq (tgt := 68) dX12_factor_61 (by decide) (fun h61 => ?_) (fun h61 => ?_)
            · skip
              refine Z_iconst (v := 1) dX12_factor_68 (by decide) ?_
              refine Z_iadd dX12_factor_69 ?_
              refine Z_putI dX12_factor_70 cl_12 fl_X12_77_12 (Or.inl fn_12_5) rfl (mw_i34 hm) rfl rfl ?_
              rw [nI_1, PS_sp]
              refine Z_iload_n dX12_factor_73 rfl rfl ?_
              refine Z_bipush (v := 33) dX12_factor_74 (by decide) ?_
              refine Z_icmp_ne (tgt := 91) dX12_factor_76 (by decide) (fun h76 => ?_) (fun h76 => ?_)
              · skip
                exact absurd e33 h76
              · skip
                refine Z_aload_n dX12_factor_79 rfl rfl ?_
                refine Z_V0z (ci := 12) dX12_factor_80 to_X12_factor lk_X12_110 iv_X12_factor ⟨rfl, rfl⟩ (mw_i34 hm) (Nat.le_of_ble_eq_true rfl) ⟨rfl, rfl⟩ ⟨by decide, by decide⟩ ?_
                refine hF f (p + 1) c _ hC (by omega) hc (by omega) ?_
                rw [hQ, hq1]
                refine Z_aload_n dX12_factor_83 rfl rfl ?_
                refine Z_iconst (v := -1) dX12_factor_84 (by decide) ?_
                refine Z_V1z (ci := 12) dX12_factor_85 to_X12_emits lk_X12_113 iv_X12_emits ⟨rfl, rfl⟩ (mw_i34 hm) (Nat.le_of_ble_eq_true rfl) ⟨rfl, rfl⟩ ⟨by decide, by decide⟩ ?_
                refine c_emits hC2 hcnt (by omega) ?_
                rw [ez2]
                refine Z_goto (tgt := 101) dX12_factor_88 (by decide) ?_
                refine Z_aload_n dX12_factor_101 rfl rfl ?_
                refine Z_dup dX12_factor_102 rfl ?_
                refine Z_getIv dX12_factor_103 cl_12 fl_X12_107_12 rfl (mw_i34 hm) PS_8 ?_
                refine Z_iconst (v := 1) dX12_factor_106 (by decide) ?_
                refine Z_isub dX12_factor_107 ?_
                refine Z_putI dX12_factor_108 cl_12 fl_X12_107_12 (Or.inl fn_12_8) rfl (mw_i34 hm) rfl rfl ?_
                rw [nI_pred, PS_op]
                refine Z_vret dX12_factor_111 rfl ⟨by decide, by decide⟩ ?_
                exact h
            · skip
              exact absurd rfl h61
          · skip
            exact absurd ((nI_eq (b := 5) (by omega) (by omega)).mp h31) (by omega)
        · skip
          exact absurd e33 h16
      · skip
        exact absurd rfl h4
    | false =>
      rw [if_neg (fun z => by rw [hq1] at z; exact Bool.false_ne_true z), hq1] at h
      refine Z_aload_n dX12_factor_0 rfl rfl ?_
      refine Z_getIv dX12_factor_1 cl_12 fl_X12_83_12 rfl (mw_i34 hm) PS_7 ?_
      refine Z_if_eq (tgt := 8) dX12_factor_4 (by decide) (fun h4 => ?_) (fun h4 => ?_)
      · skip
        refine Z_aload_n dX12_factor_8 rfl rfl ?_
        refine Z_V0z (ci := 12) dX12_factor_9 to_X12_here lk_X12_87 iv_X12_here ⟨rfl, rfl⟩ (mw_i34 hm) (Nat.le_of_ble_eq_true rfl) ⟨rfl, rfl⟩ ⟨by decide, by decide⟩ ?_
        refine c_here hC hp ?_
        refine Z_istore_n (L' := [_, _, _, _, _]) dX12_factor_12 rfl (by decide) rfl rfl ?_
        refine Z_iload_n dX12_factor_13 rfl rfl ?_
        refine Z_bipush (v := 33) dX12_factor_14 (by decide) ?_
        refine Z_icmp_eq (tgt := 25) dX12_factor_16 (by decide) (fun h16 => ?_) (fun h16 => ?_)
        · skip
          refine Z_aload_n dX12_factor_25 rfl rfl ?_
          refine Z_aload_n dX12_factor_26 rfl rfl ?_
          refine Z_getIv dX12_factor_27 cl_12 fl_X12_107_12 rfl (mw_i34 hm) PS_8 ?_
          refine Z_iconst (v := 5) dX12_factor_30 (by decide) ?_
          refine Z_icmp_ne (tgt := 38) dX12_factor_31 (by decide) (fun h31 => ?_) (fun h31 => ?_)
          · skip
            refine Z_iconst (v := 0) dX12_factor_38 (by decide) ?_
            refine Z_putI dX12_factor_39 cl_12 fl_X12_83_12 (Or.inl fn_12_7) rfl (mw_i34 hm) rfl rfl ?_
            rw [PS_wr]
            refine Z_aload_n dX12_factor_42 rfl rfl ?_
            refine Z_dup dX12_factor_43 rfl ?_
            refine Z_getIv dX12_factor_44 cl_12 fl_X12_107_12 rfl (mw_i34 hm) PS_8 ?_
            refine Z_iconst (v := 1) dX12_factor_47 (by decide) ?_
            refine Z_iadd dX12_factor_48 ?_
            refine Z_putI dX12_factor_49 cl_12 fl_X12_107_12 (Or.inl fn_12_8) rfl (mw_i34 hm) rfl rfl ?_
            rw [nI_1, PS_op]
            refine Z_aload_n dX12_factor_52 rfl rfl ?_
            refine Z_dup dX12_factor_53 rfl ?_
            refine Z_getIv dX12_factor_54 cl_12 fl_X12_77_12 rfl (mw_i34 hm) PS_5 ?_
            refine Z_aload_n dX12_factor_57 rfl rfl ?_
            refine Z_getIv dX12_factor_58 cl_12 fl_X12_83_12 rfl (mw_i34 hm) PS_7 ?_
            refine Z_if_eq (tgt := 68) dX12_factor_61 (by decide) (fun h61 => ?_) (fun h61 => ?_)
            · skip
              refine Z_iconst (v := 1) dX12_factor_68 (by decide) ?_
              refine Z_iadd dX12_factor_69 ?_
              refine Z_putI dX12_factor_70 cl_12 fl_X12_77_12 (Or.inl fn_12_5) rfl (mw_i34 hm) rfl rfl ?_
              rw [nI_1, PS_sp]
              refine Z_iload_n dX12_factor_73 rfl rfl ?_
              refine Z_bipush (v := 33) dX12_factor_74 (by decide) ?_
              refine Z_icmp_ne (tgt := 91) dX12_factor_76 (by decide) (fun h76 => ?_) (fun h76 => ?_)
              · skip
                exact absurd e33 h76
              · skip
                refine Z_aload_n dX12_factor_79 rfl rfl ?_
                refine Z_V0z (ci := 12) dX12_factor_80 to_X12_factor lk_X12_110 iv_X12_factor ⟨rfl, rfl⟩ (mw_i34 hm) (Nat.le_of_ble_eq_true rfl) ⟨rfl, rfl⟩ ⟨by decide, by decide⟩ ?_
                refine hF f (p + 1) c _ hC (by omega) hc (by omega) ?_
                rw [hQ, hq1]
                refine Z_aload_n dX12_factor_83 rfl rfl ?_
                refine Z_iconst (v := -1) dX12_factor_84 (by decide) ?_
                refine Z_V1z (ci := 12) dX12_factor_85 to_X12_emits lk_X12_113 iv_X12_emits ⟨rfl, rfl⟩ (mw_i34 hm) (Nat.le_of_ble_eq_true rfl) ⟨rfl, rfl⟩ ⟨by decide, by decide⟩ ?_
                refine c_emitsW hC2 ?_
                refine Z_goto (tgt := 101) dX12_factor_88 (by decide) ?_
                refine Z_aload_n dX12_factor_101 rfl rfl ?_
                refine Z_dup dX12_factor_102 rfl ?_
                refine Z_getIv dX12_factor_103 cl_12 fl_X12_107_12 rfl (mw_i34 hm) PS_8 ?_
                refine Z_iconst (v := 1) dX12_factor_106 (by decide) ?_
                refine Z_isub dX12_factor_107 ?_
                refine Z_putI dX12_factor_108 cl_12 fl_X12_107_12 (Or.inl fn_12_8) rfl (mw_i34 hm) rfl rfl ?_
                rw [nI_pred, PS_op]
                refine Z_vret dX12_factor_111 rfl ⟨by decide, by decide⟩ ?_
                exact h
            · skip
              exact absurd rfl h61
          · skip
            exact absurd ((nI_eq (b := 5) (by omega) (by omega)).mp h31) (by omega)
        · skip
          exact absurd e33 h16
      · skip
        exact absurd rfl h4
  · rw [if_neg hz] at h
    have n33 : ¬ hv τ N p = 33 := fun z => hz ((hv_eq hC (c := 33) (by omega)).mp z)
    by_cases hy : p < N ∧ τ p = 40
    · rw [if_pos hy] at h
      have e40 : hv τ N p = 40 := (hv_eq hC (c := 40) (by omega)).mpr hy
      have hq := pSom_ok (τ := τ) (pFac_ok (τ := τ) (N := N) k) (p + 1) (by omega)
      generalize hQ : pSom τ N (pFac τ N k) (p + 1) = Q at *
      have hC2 := hC.zem (Q.2.2.map mO) c
      cases hq1 : Q.1 with
      | true =>
        by_cases h41 : Q.2.1 < N ∧ τ Q.2.1 = 41
        · rw [if_pos ⟨hq1, h41⟩] at h
          refine Z_aload_n dX12_factor_0 rfl rfl ?_
          refine Z_getIv dX12_factor_1 cl_12 fl_X12_83_12 rfl (mw_i34 hm) PS_7 ?_
          refine Z_if_eq (tgt := 8) dX12_factor_4 (by decide) (fun h4 => ?_) (fun h4 => ?_)
          · skip
            refine Z_aload_n dX12_factor_8 rfl rfl ?_
            refine Z_V0z (ci := 12) dX12_factor_9 to_X12_here lk_X12_87 iv_X12_here ⟨rfl, rfl⟩ (mw_i34 hm) (Nat.le_of_ble_eq_true rfl) ⟨rfl, rfl⟩ ⟨by decide, by decide⟩ ?_
            refine c_here hC hp ?_
            refine Z_istore_n (L' := [_, _, _, _, _]) dX12_factor_12 rfl (by decide) rfl rfl ?_
            refine Z_iload_n dX12_factor_13 rfl rfl ?_
            refine Z_bipush (v := 33) dX12_factor_14 (by decide) ?_
            refine Z_icmp_eq (tgt := 25) dX12_factor_16 (by decide) (fun h16 => ?_) (fun h16 => ?_)
            · skip
              exact absurd h16 n33
            · skip
              refine Z_iload_n dX12_factor_19 rfl rfl ?_
              refine Z_bipush (v := 40) dX12_factor_20 (by decide) ?_
              refine Z_icmp_ne (tgt := 112) dX12_factor_22 (by decide) (fun h22 => ?_) (fun h22 => ?_)
              · skip
                exact absurd e40 h22
              · skip
                refine Z_aload_n dX12_factor_25 rfl rfl ?_
                refine Z_aload_n dX12_factor_26 rfl rfl ?_
                refine Z_getIv dX12_factor_27 cl_12 fl_X12_107_12 rfl (mw_i34 hm) PS_8 ?_
                refine Z_iconst (v := 5) dX12_factor_30 (by decide) ?_
                refine Z_icmp_ne (tgt := 38) dX12_factor_31 (by decide) (fun h31 => ?_) (fun h31 => ?_)
                · skip
                  refine Z_iconst (v := 0) dX12_factor_38 (by decide) ?_
                  refine Z_putI dX12_factor_39 cl_12 fl_X12_83_12 (Or.inl fn_12_7) rfl (mw_i34 hm) rfl rfl ?_
                  rw [PS_wr]
                  refine Z_aload_n dX12_factor_42 rfl rfl ?_
                  refine Z_dup dX12_factor_43 rfl ?_
                  refine Z_getIv dX12_factor_44 cl_12 fl_X12_107_12 rfl (mw_i34 hm) PS_8 ?_
                  refine Z_iconst (v := 1) dX12_factor_47 (by decide) ?_
                  refine Z_iadd dX12_factor_48 ?_
                  refine Z_putI dX12_factor_49 cl_12 fl_X12_107_12 (Or.inl fn_12_8) rfl (mw_i34 hm) rfl rfl ?_
                  rw [nI_1, PS_op]
                  refine Z_aload_n dX12_factor_52 rfl rfl ?_
                  refine Z_dup dX12_factor_53 rfl ?_
                  refine Z_getIv dX12_factor_54 cl_12 fl_X12_77_12 rfl (mw_i34 hm) PS_5 ?_
                  refine Z_aload_n dX12_factor_57 rfl rfl ?_
                  refine Z_getIv dX12_factor_58 cl_12 fl_X12_83_12 rfl (mw_i34 hm) PS_7 ?_
                  refine Z_if_eq (tgt := 68) dX12_factor_61 (by decide) (fun h61 => ?_) (fun h61 => ?_)
                  · skip
                    refine Z_iconst (v := 1) dX12_factor_68 (by decide) ?_
                    refine Z_iadd dX12_factor_69 ?_
                    refine Z_putI dX12_factor_70 cl_12 fl_X12_77_12 (Or.inl fn_12_5) rfl (mw_i34 hm) rfl rfl ?_
                    rw [nI_1, PS_sp]
                    refine Z_iload_n dX12_factor_73 rfl rfl ?_
                    refine Z_bipush (v := 33) dX12_factor_74 (by decide) ?_
                    refine Z_icmp_ne (tgt := 91) dX12_factor_76 (by decide) (fun h76 => ?_) (fun h76 => ?_)
                    · skip
                      refine Z_aload_n dX12_factor_91 rfl rfl ?_
                      refine Z_V0z (ci := 12) dX12_factor_92 to_X12_some lk_X12_116 iv_X12_some ⟨rfl, rfl⟩ (mw_i34 hm) (Nat.le_of_ble_eq_true rfl) ⟨rfl, rfl⟩ ⟨by decide, by decide⟩ ?_
                      refine hS f (p + 1) c _ hC (by omega) hc (by omega) ?_
                      rw [hQ, hq1]
                      refine Z_aload_n dX12_factor_95 rfl rfl ?_
                      refine Z_bipush (v := 41) dX12_factor_96 (by decide) ?_
                      refine Z_V1z (ci := 12) dX12_factor_98 to_X12_must lk_X12_100 iv_X12_must ⟨rfl, rfl⟩ (mw_i34 hm) (Nat.le_of_ble_eq_true rfl) ⟨rfl, rfl⟩ ⟨by decide, by decide⟩ ?_
                      refine c_must (c := 41) hC2 hq.2.1 (by omega) (fun _ => ?_) (fun z => absurd h41 z)
                      refine Z_aload_n dX12_factor_101 rfl rfl ?_
                      refine Z_dup dX12_factor_102 rfl ?_
                      refine Z_getIv dX12_factor_103 cl_12 fl_X12_107_12 rfl (mw_i34 hm) PS_8 ?_
                      refine Z_iconst (v := 1) dX12_factor_106 (by decide) ?_
                      refine Z_isub dX12_factor_107 ?_
                      refine Z_putI dX12_factor_108 cl_12 fl_X12_107_12 (Or.inl fn_12_8) rfl (mw_i34 hm) rfl rfl ?_
                      rw [nI_pred, PS_op]
                      refine Z_vret dX12_factor_111 rfl ⟨by decide, by decide⟩ ?_
                      exact h
                    · skip
                      exact absurd h76 n33
                  · skip
                    exact absurd rfl h61
                · skip
                  exact absurd ((nI_eq (b := 5) (by omega) (by omega)).mp h31) (by omega)
          · skip
            exact absurd rfl h4
        · rw [if_neg (fun z => h41 z.2)] at h
          refine Z_aload_n dX12_factor_0 rfl rfl ?_
          refine Z_getIv dX12_factor_1 cl_12 fl_X12_83_12 rfl (mw_i34 hm) PS_7 ?_
          refine Z_if_eq (tgt := 8) dX12_factor_4 (by decide) (fun h4 => ?_) (fun h4 => ?_)
          · skip
            refine Z_aload_n dX12_factor_8 rfl rfl ?_
            refine Z_V0z (ci := 12) dX12_factor_9 to_X12_here lk_X12_87 iv_X12_here ⟨rfl, rfl⟩ (mw_i34 hm) (Nat.le_of_ble_eq_true rfl) ⟨rfl, rfl⟩ ⟨by decide, by decide⟩ ?_
            refine c_here hC hp ?_
            refine Z_istore_n (L' := [_, _, _, _, _]) dX12_factor_12 rfl (by decide) rfl rfl ?_
            refine Z_iload_n dX12_factor_13 rfl rfl ?_
            refine Z_bipush (v := 33) dX12_factor_14 (by decide) ?_
            refine Z_icmp_eq (tgt := 25) dX12_factor_16 (by decide) (fun h16 => ?_) (fun h16 => ?_)
            · skip
              exact absurd h16 n33
            · skip
              refine Z_iload_n dX12_factor_19 rfl rfl ?_
              refine Z_bipush (v := 40) dX12_factor_20 (by decide) ?_
              refine Z_icmp_ne (tgt := 112) dX12_factor_22 (by decide) (fun h22 => ?_) (fun h22 => ?_)
              · skip
                exact absurd e40 h22
              · skip
                refine Z_aload_n dX12_factor_25 rfl rfl ?_
                refine Z_aload_n dX12_factor_26 rfl rfl ?_
                refine Z_getIv dX12_factor_27 cl_12 fl_X12_107_12 rfl (mw_i34 hm) PS_8 ?_
                refine Z_iconst (v := 5) dX12_factor_30 (by decide) ?_
                refine Z_icmp_ne (tgt := 38) dX12_factor_31 (by decide) (fun h31 => ?_) (fun h31 => ?_)
                · skip
                  refine Z_iconst (v := 0) dX12_factor_38 (by decide) ?_
                  refine Z_putI dX12_factor_39 cl_12 fl_X12_83_12 (Or.inl fn_12_7) rfl (mw_i34 hm) rfl rfl ?_
                  rw [PS_wr]
                  refine Z_aload_n dX12_factor_42 rfl rfl ?_
                  refine Z_dup dX12_factor_43 rfl ?_
                  refine Z_getIv dX12_factor_44 cl_12 fl_X12_107_12 rfl (mw_i34 hm) PS_8 ?_
                  refine Z_iconst (v := 1) dX12_factor_47 (by decide) ?_
                  refine Z_iadd dX12_factor_48 ?_
                  refine Z_putI dX12_factor_49 cl_12 fl_X12_107_12 (Or.inl fn_12_8) rfl (mw_i34 hm) rfl rfl ?_
                  rw [nI_1, PS_op]
                  refine Z_aload_n dX12_factor_52 rfl rfl ?_
                  refine Z_dup dX12_factor_53 rfl ?_
                  refine Z_getIv dX12_factor_54 cl_12 fl_X12_77_12 rfl (mw_i34 hm) PS_5 ?_
                  refine Z_aload_n dX12_factor_57 rfl rfl ?_
                  refine Z_getIv dX12_factor_58 cl_12 fl_X12_83_12 rfl (mw_i34 hm) PS_7 ?_
                  refine Z_if_eq (tgt := 68) dX12_factor_61 (by decide) (fun h61 => ?_) (fun h61 => ?_)
                  · skip
                    refine Z_iconst (v := 1) dX12_factor_68 (by decide) ?_
                    refine Z_iadd dX12_factor_69 ?_
                    refine Z_putI dX12_factor_70 cl_12 fl_X12_77_12 (Or.inl fn_12_5) rfl (mw_i34 hm) rfl rfl ?_
                    rw [nI_1, PS_sp]
                    refine Z_iload_n dX12_factor_73 rfl rfl ?_
                    refine Z_bipush (v := 33) dX12_factor_74 (by decide) ?_
                    refine Z_icmp_ne (tgt := 91) dX12_factor_76 (by decide) (fun h76 => ?_) (fun h76 => ?_)
                    · skip
                      refine Z_aload_n dX12_factor_91 rfl rfl ?_
                      refine Z_V0z (ci := 12) dX12_factor_92 to_X12_some lk_X12_116 iv_X12_some ⟨rfl, rfl⟩ (mw_i34 hm) (Nat.le_of_ble_eq_true rfl) ⟨rfl, rfl⟩ ⟨by decide, by decide⟩ ?_
                      refine hS f (p + 1) c _ hC (by omega) hc (by omega) ?_
                      rw [hQ, hq1]
                      refine Z_aload_n dX12_factor_95 rfl rfl ?_
                      refine Z_bipush (v := 41) dX12_factor_96 (by decide) ?_
                      refine Z_V1z (ci := 12) dX12_factor_98 to_X12_must lk_X12_100 iv_X12_must ⟨rfl, rfl⟩ (mw_i34 hm) (Nat.le_of_ble_eq_true rfl) ⟨rfl, rfl⟩ ⟨by decide, by decide⟩ ?_
                      refine c_must (c := 41) hC2 hq.2.1 (by omega) (fun z => absurd z h41) (fun _ => ?_)
                      refine Z_aload_n dX12_factor_101 rfl rfl ?_
                      refine Z_dup dX12_factor_102 rfl ?_
                      refine Z_getIv dX12_factor_103 cl_12 fl_X12_107_12 rfl (mw_i34 hm) PS_8 ?_
                      refine Z_iconst (v := 1) dX12_factor_106 (by decide) ?_
                      refine Z_isub dX12_factor_107 ?_
                      refine Z_putI dX12_factor_108 cl_12 fl_X12_107_12 (Or.inl fn_12_8) rfl (mw_i34 hm) rfl rfl ?_
                      rw [nI_pred, PS_op]
                      refine Z_vret dX12_factor_111 rfl ⟨by decide, by decide⟩ ?_
                      exact h
                    · skip
                      exact absurd h76 n33
                  · skip
                    exact absurd rfl h61
                · skip
                  exact absurd ((nI_eq (b := 5) (by omega) (by omega)).mp h31) (by omega)
          · skip
            exact absurd rfl h4
      | false =>
        rw [if_neg (fun z => by rw [hq1] at z; exact Bool.false_ne_true z.1)] at h
        refine Z_aload_n dX12_factor_0 rfl rfl ?_
        refine Z_getIv dX12_factor_1 cl_12 fl_X12_83_12 rfl (mw_i34 hm) PS_7 ?_
        refine Z_if_eq (tgt := 8) dX12_factor_4 (by decide) (fun h4 => ?_) (fun h4 => ?_)
        · skip
          refine Z_aload_n dX12_factor_8 rfl rfl ?_
          refine Z_V0z (ci := 12) dX12_factor_9 to_X12_here lk_X12_87 iv_X12_here ⟨rfl, rfl⟩ (mw_i34 hm) (Nat.le_of_ble_eq_true rfl) ⟨rfl, rfl⟩ ⟨by decide, by decide⟩ ?_
          refine c_here hC hp ?_
          refine Z_istore_n (L' := [_, _, _, _, _]) dX12_factor_12 rfl (by decide) rfl rfl ?_
          refine Z_iload_n dX12_factor_13 rfl rfl ?_
          refine Z_bipush (v := 33) dX12_factor_14 (by decide) ?_
          refine Z_icmp_eq (tgt := 25) dX12_factor_16 (by decide) (fun h16 => ?_) (fun h16 => ?_)
          · skip
            exact absurd h16 n33
          · skip
            refine Z_iload_n dX12_factor_19 rfl rfl ?_
            refine Z_bipush (v := 40) dX12_factor_20 (by decide) ?_
            refine Z_icmp_ne (tgt := 112) dX12_factor_22 (by decide) (fun h22 => ?_) (fun h22 => ?_)
            · skip
              exact absurd e40 h22
            · skip
              refine Z_aload_n dX12_factor_25 rfl rfl ?_
              refine Z_aload_n dX12_factor_26 rfl rfl ?_
              refine Z_getIv dX12_factor_27 cl_12 fl_X12_107_12 rfl (mw_i34 hm) PS_8 ?_
              refine Z_iconst (v := 5) dX12_factor_30 (by decide) ?_
              refine Z_icmp_ne (tgt := 38) dX12_factor_31 (by decide) (fun h31 => ?_) (fun h31 => ?_)
              · skip
                refine Z_iconst (v := 0) dX12_factor_38 (by decide) ?_
                refine Z_putI dX12_factor_39 cl_12 fl_X12_83_12 (Or.inl fn_12_7) rfl (mw_i34 hm) rfl rfl ?_
                rw [PS_wr]
                refine Z_aload_n dX12_factor_42 rfl rfl ?_
                refine Z_dup dX12_factor_43 rfl ?_
                refine Z_getIv dX12_factor_44 cl_12 fl_X12_107_12 rfl (mw_i34 hm) PS_8 ?_
                refine Z_iconst (v := 1) dX12_factor_47 (by decide) ?_
                refine Z_iadd dX12_factor_48 ?_
                refine Z_putI dX12_factor_49 cl_12 fl_X12_107_12 (Or.inl fn_12_8) rfl (mw_i34 hm) rfl rfl ?_
                rw [nI_1, PS_op]
                refine Z_aload_n dX12_factor_52 rfl rfl ?_
                refine Z_dup dX12_factor_53 rfl ?_
                refine Z_getIv dX12_factor_54 cl_12 fl_X12_77_12 rfl (mw_i34 hm) PS_5 ?_
                refine Z_aload_n dX12_factor_57 rfl rfl ?_
                refine Z_getIv dX12_factor_58 cl_12 fl_X12_83_12 rfl (mw_i34 hm) PS_7 ?_
                refine Z_if_eq (tgt := 68) dX12_factor_61 (by decide) (fun h61 => ?_) (fun h61 => ?_)
                · skip
                  refine Z_iconst (v := 1) dX12_factor_68 (by decide) ?_
                  refine Z_iadd dX12_factor_69 ?_
                  refine Z_putI dX12_factor_70 cl_12 fl_X12_77_12 (Or.inl fn_12_5) rfl (mw_i34 hm) rfl rfl ?_
                  rw [nI_1, PS_sp]
                  refine Z_iload_n dX12_factor_73 rfl rfl ?_
                  refine Z_bipush (v := 33) dX12_factor_74 (by decide) ?_
                  refine Z_icmp_ne (tgt := 91) dX12_factor_76 (by decide) (fun h76 => ?_) (fun h76 => ?_)
                  · skip
                    refine Z_aload_n dX12_factor_91 rfl rfl ?_
                    refine Z_V0z (ci := 12) dX12_factor_92 to_X12_some lk_X12_116 iv_X12_some ⟨rfl, rfl⟩ (mw_i34 hm) (Nat.le_of_ble_eq_true rfl) ⟨rfl, rfl⟩ ⟨by decide, by decide⟩ ?_
                    refine hS f (p + 1) c _ hC (by omega) hc (by omega) ?_
                    rw [hQ, hq1]
                    refine Z_aload_n dX12_factor_95 rfl rfl ?_
                    refine Z_bipush (v := 41) dX12_factor_96 (by decide) ?_
                    refine Z_V1z (ci := 12) dX12_factor_98 to_X12_must lk_X12_100 iv_X12_must ⟨rfl, rfl⟩ (mw_i34 hm) (Nat.le_of_ble_eq_true rfl) ⟨rfl, rfl⟩ ⟨by decide, by decide⟩ ?_
                    refine c_mustW hC2 hq.2.1 ?_
                    refine Z_aload_n dX12_factor_101 rfl rfl ?_
                    refine Z_dup dX12_factor_102 rfl ?_
                    refine Z_getIv dX12_factor_103 cl_12 fl_X12_107_12 rfl (mw_i34 hm) PS_8 ?_
                    refine Z_iconst (v := 1) dX12_factor_106 (by decide) ?_
                    refine Z_isub dX12_factor_107 ?_
                    refine Z_putI dX12_factor_108 cl_12 fl_X12_107_12 (Or.inl fn_12_8) rfl (mw_i34 hm) rfl rfl ?_
                    rw [nI_pred, PS_op]
                    refine Z_vret dX12_factor_111 rfl ⟨by decide, by decide⟩ ?_
                    exact h
                  · skip
                    exact absurd h76 n33
                · skip
                  exact absurd rfl h61
              · skip
                exact absurd ((nI_eq (b := 5) (by omega) (by omega)).mp h31) (by omega)
        · skip
          exact absurd rfl h4
    · rw [if_neg hy] at h
      refine Z_aload_n dX12_factor_0 rfl rfl ?_
      refine Z_getIv dX12_factor_1 cl_12 fl_X12_83_12 rfl (mw_i34 hm) PS_7 ?_
      refine Z_if_eq (tgt := 8) dX12_factor_4 (by decide) (fun h4 => ?_) (fun h4 => ?_)
      · skip
        refine Z_aload_n dX12_factor_8 rfl rfl ?_
        refine Z_V0z (ci := 12) dX12_factor_9 to_X12_here lk_X12_87 iv_X12_here ⟨rfl, rfl⟩ (mw_i34 hm) (Nat.le_of_ble_eq_true rfl) ⟨rfl, rfl⟩ ⟨by decide, by decide⟩ ?_
        refine c_here hC hp ?_
        refine Z_istore_n (L' := [_, _, _, _, _]) dX12_factor_12 rfl (by decide) rfl rfl ?_
        refine Z_iload_n dX12_factor_13 rfl rfl ?_
        refine Z_bipush (v := 33) dX12_factor_14 (by decide) ?_
        refine Z_icmp_eq (tgt := 25) dX12_factor_16 (by decide) (fun h16 => ?_) (fun h16 => ?_)
        · skip
          exact absurd h16 n33
        · skip
          refine Z_iload_n dX12_factor_19 rfl rfl ?_
          refine Z_bipush (v := 40) dX12_factor_20 (by decide) ?_
          refine Z_icmp_ne (tgt := 112) dX12_factor_22 (by decide) (fun h22 => ?_) (fun h22 => ?_)
          · skip
            exact tst hC hp hc hcp h
          · skip
            exact absurd ((hv_eq hC (c := 40) (by omega)).mp h22) hy
      · skip
        exact absurd rfl h4
theorem mFac_all : ∀ (k o d : Nat), o + k = 5 → mRd G α τ N a o (d + 3 * k + 6) mX12_factor (pFac τ N k)
  | 0, o, d, h => lp_fac0 (by omega)
  | k + 1, o, d, h => by
    have h1 : mRd G α τ N a (o + 1) (d + 3 * k + 3 + 5) mX12_factor (pFac τ N k) := by
      have := mFac_all k (o + 1) (d + 2) (by omega)
      rw [show d + 2 + 3 * k + 6 = d + 3 * k + 3 + 5 by omega] at this
      exact this
    have h2 : mRd G α τ N a (o + 1) (d + 3 * k + 3 + 5) mX12_some (pSom τ N (pFac τ N k)) := by
      have q1 : mRd G α τ N a (o + 1) (d + 3 * k + 4 + 2) mX12_factor (pFac τ N k) := mFac_all k (o + 1) d (by omega)
      have q2 := c_every q1 (pFac_ok k)
      have q3 := c_some (d := d + 3 * k + 5) (F := pEvr τ N (pFac τ N k)) q2 (pEvr_ok (pFac_ok k))
      exact q3
    have := lp_fac (d := d + 3 * k + 3) (by omega) h1 h2
    rw [show d + 3 * (k + 1) + 6 = d + 3 * k + 3 + 6 by omega]
    exact this
theorem c_someTop : mRd G α τ N a 0 (d + 23) mX12_some (pSom τ N (pFac τ N 5)) := by
  have q1 : mRd G α τ N a 0 (d + 19 + 2) mX12_factor (pFac τ N 5) := mFac_all 5 0 d (by omega)
  have q2 := c_every q1 (pFac_ok 5)
  exact c_some (d := d + 20) (F := pEvr τ N (pFac τ N 5)) q2 (pEvr_ok (pFac_ok 5))
end MP4
