/-- a clause: 0 pay (w, n), 1 cover n, 2 can (w, ops), 3 none -/
abbrev ZCl : Type := Nat × Nat × Nat × List ZOp
def pCl (τ : Nat → Nat) (N p : Nat) : Bool × Nat × ZCl :=
  if p < N ∧ τ p = 99 then
    (if p + 1 < N ∧ τ (p + 1) = 111 then
      (if (pSpell τ N [111, 118, 101, 114, 32] (p + 1)).1 = true then ((pNum τ N (pSpell τ N [111, 118, 101, 114, 32] (p + 1)).2).1, (pNum τ N (pSpell τ N [111, 118, 101, 114, 32] (p + 1)).2).2.1, 1, 0, (pNum τ N (pSpell τ N [111, 118, 101, 114, 32] (p + 1)).2).2.2, []) else (false, (pSpell τ N [111, 118, 101, 114, 32] (p + 1)).2, 3, 0, 0, []))
    else
      (if (pSpell τ N [97, 110, 32] (p + 1)).1 = true then
        (if (pWork τ N (pSpell τ N [97, 110, 32] (p + 1)).2).1 = true then ((pSom τ N (pFac τ N 5) (pWork τ N (pSpell τ N [97, 110, 32] (p + 1)).2).2.1).1, (pSom τ N (pFac τ N 5) (pWork τ N (pSpell τ N [97, 110, 32] (p + 1)).2).2.1).2.1, 2, (pWork τ N (pSpell τ N [97, 110, 32] (p + 1)).2).2.2, 0, (pSom τ N (pFac τ N 5) (pWork τ N (pSpell τ N [97, 110, 32] (p + 1)).2).2.1).2.2)
        else (false, (pWork τ N (pSpell τ N [97, 110, 32] (p + 1)).2).2.1, 3, 0, 0, []))
      else (false, (pSpell τ N [97, 110, 32] (p + 1)).2, 3, 0, 0, [])))
  else if p < N ∧ τ p = 112 then
    (if (pSpell τ N [112, 97, 121, 32] p).1 = true then
      (if (pWork τ N (pSpell τ N [112, 97, 121, 32] p).2).1 = true then ((pNum τ N (pWork τ N (pSpell τ N [112, 97, 121, 32] p).2).2.1).1, (pNum τ N (pWork τ N (pSpell τ N [112, 97, 121, 32] p).2).2.1).2.1, 0, (pWork τ N (pSpell τ N [112, 97, 121, 32] p).2).2.2, (pNum τ N (pWork τ N (pSpell τ N [112, 97, 121, 32] p).2).2.1).2.2, [])
      else (false, (pWork τ N (pSpell τ N [112, 97, 121, 32] p).2).2.1, 3, 0, 0, []))
    else (false, (pSpell τ N [112, 97, 121, 32] p).2, 3, 0, 0, []))
  else (false, p, 3, 0, 0, [])
section MP5
variable {G : ZG} {d : Nat} {α : AH} {post : Option Value → AH → Prop} {τ : Nat → Nat} {N a p o c : Nat} {f : Nat → Int32} {w : Int32}
/-- what a clause writes -/
def mCl (f : Nat → Int32) (a c : Nat) (q : Bool × Nat × ZCl) : Nat → Int32 :=
  if q.2.2.1 = 0 then (if q.1 = true then u1 f (167 + 3 * a + q.2.2.2.1) (nI q.2.2.2.2.1) else f)
  else if q.2.2.1 = 1 then (if q.1 = true then u1 f (182 + a) (nI q.2.2.2.2.1) else f)
  else if q.2.2.1 = 2 then (if q.1 = true then zem f a c (q.2.2.2.2.2.map mO ++ [-10 - nI q.2.2.2.1]) else zem f a c (q.2.2.2.2.2.map mO))
  else f
theorem pNum_f {p : Nat} (h : (pNum τ N p).1 = false) : pNum τ N p = (false, p, 0) := by
  revert h
  unfold pNum
  split
  · split
    · exact fun z => absurd z.symm Bool.false_ne_true
    · split <;> exact fun z => absurd z.symm Bool.false_ne_true
  · exact fun _ => rfl
theorem c_clauseOfC (hC : PC α f τ N a) (hp : p ≤ N) (hc : f (187 + a) = nI c) (hcp : c ≤ p) (hz : p < N ∧ τ p = 99) (h : post none (PS α (mCl f a c (pCl τ N p)) (pCl τ N p).2.1 (b2i (!(pCl τ N p).1)) 0)) : ZK G (d + 24) mX12_clauseOfC [.ref (G.1 + 34)] (PS α f p 0 0) post := by
  have hm : ∀ {f : Nat → Int32} {p : Nat} {w : Int32} {o : Nat}, MW (PS α f p w o) := hC.1
  have hN := hC.2.2.2.1
  have ha := hC.2.2.2.2.1
  unfold pCl at h
  rw [if_pos hz] at h
  refine ZK.of (n := 1) (by decide) (Nat.le_of_ble_eq_true rfl) rfl ?_
  by_cases h111 : p + 1 < N ∧ τ (p + 1) = 111
  · rw [if_pos h111] at h
    have e111 : hv τ N (p + 1) = 111 := (hv_eq hC (c := 111) (by omega)).mpr h111
    have hs := pSpell_ok (τ := τ) (N := N) [111, 118, 101, 114, 32] (p + 1) (by omega)
    generalize hS : pSpell τ N [111, 118, 101, 114, 32] (p + 1) = S at *
    have hS' : pSpell τ N (zCh 9) (p + 1) = S := hS
    cases hs1 : S.1 with
    | true =>
      rw [if_pos hs1] at h
      have hn := pNum_ok (τ := τ) (N := N) (p := S.2) hs.2.1
      generalize hR : pNum τ N S.2 = R at *
      cases hr1 : R.1 with
      | true =>
        rw [hr1] at h
        have h : post none (PS α (u1 f (182 + a) (nI R.2.2)) R.2.1 0 0) := h
        refine Z_aload_n dX12_clauseOfC_0 rfl rfl ?_
        refine Z_bipush (v := 99) dX12_clauseOfC_1 (by decide) ?_
        refine Z_V1z (ci := 12) dX12_clauseOfC_3 to_X12_must lk_X12_100 iv_X12_must ⟨rfl, rfl⟩ (mw_i34 hm) (Nat.le_of_ble_eq_true rfl) ⟨rfl, rfl⟩ ⟨by decide, by decide⟩ ?_
        refine c_must (c := 99) hC hp (by omega) (fun _ => ?_) (fun z => absurd hz z)
        refine Z_aload_n dX12_clauseOfC_6 rfl rfl ?_
        refine Z_V0z (ci := 12) dX12_clauseOfC_7 to_X12_here lk_X12_87 iv_X12_here ⟨rfl, rfl⟩ (mw_i34 hm) (Nat.le_of_ble_eq_true rfl) ⟨rfl, rfl⟩ ⟨by decide, by decide⟩ ?_
        refine c_here hC (by omega) ?_
        refine Z_bipush (v := 111) dX12_clauseOfC_10 (by decide) ?_
        refine Z_icmp_ne (tgt := 48) dX12_clauseOfC_12 (by decide) (fun h12 => ?_) (fun h12 => ?_)
        · skip
          exact absurd e111 h12
        · skip
          refine Z_aload_n dX12_clauseOfC_15 rfl rfl ?_
          refine Z_ldcS (i := 9) dX12_clauseOfC_16 (by decide) ⟨rfl, rfl⟩ ?_
          refine Z_V1z (ci := 12) dX12_clauseOfC_18 to_X12_spells lk_X12_135 iv_X12_spells ⟨rfl, rfl⟩ (mw_i34 hm) (Nat.le_of_ble_eq_true rfl) ⟨rfl, rfl⟩ ⟨by decide, by decide⟩ ?_
          refine c_spells (i := 9) (by decide) hC (by omega) ?_
          rw [hS', hs1]
          refine Z_aload_n dX12_clauseOfC_21 rfl rfl ?_
          refine Z_V0z (ci := 12) dX12_clauseOfC_22 to_X12_figures lk_X12_127 iv_X12_figures ⟨rfl, rfl⟩ (mw_i34 hm) (Nat.le_of_ble_eq_true rfl) ⟨rfl, rfl⟩ ⟨by decide, by decide⟩ ?_
          refine c_figures hC hs.2.1 ?_
          rw [hR, hr1]
          refine Z_istore_n (L' := [_, _]) dX12_clauseOfC_25 rfl (by decide) rfl rfl ?_
          refine Z_aload_n dX12_clauseOfC_26 rfl rfl ?_
          refine Z_getIv dX12_clauseOfC_27 cl_12 fl_X12_83_12 rfl (mw_i34 hm) PS_7 ?_
          refine Z_if_ne (tgt := 47) dX12_clauseOfC_30 (by decide) (fun h30 => ?_) (fun h30 => ?_)
          · skip
            exact absurd rfl h30
          · skip
            refine Z_aload_n dX12_clauseOfC_33 rfl rfl ?_
            refine Z_getR dX12_clauseOfC_34 cl_12 fl_X12_9_12 rfl (mw_i34 hm) (mw_p34_1 hm) ?_
            refine Z_sipush (v := 182) dX12_clauseOfC_37 (by decide) ?_
            refine Z_aload_n dX12_clauseOfC_40 rfl rfl ?_
            refine Z_getIv dX12_clauseOfC_41 cl_12 fl_X12_104_12 rfl (mw_i34 hm) (PS_4.trans hC.2.2.1) ?_
            refine Z_iadd dX12_clauseOfC_44 ?_
            refine Z_iload_n dX12_clauseOfC_45 rfl rfl ?_
            refine Z_iast dX12_clauseOfC_46 (mw_i35 hm) (zix_e (m := 182 + a) (nI_add 182 a) (by omega) (by decide)) ?_
            rw [PS_f]
            refine Z_vret dX12_clauseOfC_47 rfl ⟨by decide, by decide⟩ ?_
            exact h
      | false =>
        rw [hr1] at h
        have h : post none (PS α f R.2.1 1 0) := h
        refine Z_aload_n dX12_clauseOfC_0 rfl rfl ?_
        refine Z_bipush (v := 99) dX12_clauseOfC_1 (by decide) ?_
        refine Z_V1z (ci := 12) dX12_clauseOfC_3 to_X12_must lk_X12_100 iv_X12_must ⟨rfl, rfl⟩ (mw_i34 hm) (Nat.le_of_ble_eq_true rfl) ⟨rfl, rfl⟩ ⟨by decide, by decide⟩ ?_
        refine c_must (c := 99) hC hp (by omega) (fun _ => ?_) (fun z => absurd hz z)
        refine Z_aload_n dX12_clauseOfC_6 rfl rfl ?_
        refine Z_V0z (ci := 12) dX12_clauseOfC_7 to_X12_here lk_X12_87 iv_X12_here ⟨rfl, rfl⟩ (mw_i34 hm) (Nat.le_of_ble_eq_true rfl) ⟨rfl, rfl⟩ ⟨by decide, by decide⟩ ?_
        refine c_here hC (by omega) ?_
        refine Z_bipush (v := 111) dX12_clauseOfC_10 (by decide) ?_
        refine Z_icmp_ne (tgt := 48) dX12_clauseOfC_12 (by decide) (fun h12 => ?_) (fun h12 => ?_)
        · skip
          exact absurd e111 h12
        · skip
          refine Z_aload_n dX12_clauseOfC_15 rfl rfl ?_
          refine Z_ldcS (i := 9) dX12_clauseOfC_16 (by decide) ⟨rfl, rfl⟩ ?_
          refine Z_V1z (ci := 12) dX12_clauseOfC_18 to_X12_spells lk_X12_135 iv_X12_spells ⟨rfl, rfl⟩ (mw_i34 hm) (Nat.le_of_ble_eq_true rfl) ⟨rfl, rfl⟩ ⟨by decide, by decide⟩ ?_
          refine c_spells (i := 9) (by decide) hC (by omega) ?_
          rw [hS', hs1]
          refine Z_aload_n dX12_clauseOfC_21 rfl rfl ?_
          refine Z_V0z (ci := 12) dX12_clauseOfC_22 to_X12_figures lk_X12_127 iv_X12_figures ⟨rfl, rfl⟩ (mw_i34 hm) (Nat.le_of_ble_eq_true rfl) ⟨rfl, rfl⟩ ⟨by decide, by decide⟩ ?_
          refine c_figures hC hs.2.1 ?_
          rw [hR, hr1]
          refine Z_istore_n (L' := [_, _]) dX12_clauseOfC_25 rfl (by decide) rfl rfl ?_
          refine Z_aload_n dX12_clauseOfC_26 rfl rfl ?_
          refine Z_getIv dX12_clauseOfC_27 cl_12 fl_X12_83_12 rfl (mw_i34 hm) PS_7 ?_
          refine Z_if_ne (tgt := 47) dX12_clauseOfC_30 (by decide) (fun h30 => ?_) (fun h30 => ?_)
          · skip
            refine Z_vret dX12_clauseOfC_47 rfl ⟨by decide, by decide⟩ ?_
            exact h
          · skip
            exact absurd h30 (by decide)
    | false =>
      rw [if_neg (fun z => by rw [hs1] at z; exact Bool.false_ne_true z)] at h
      have h : post none (PS α f S.2 1 0) := h
      refine Z_aload_n dX12_clauseOfC_0 rfl rfl ?_
      refine Z_bipush (v := 99) dX12_clauseOfC_1 (by decide) ?_
      refine Z_V1z (ci := 12) dX12_clauseOfC_3 to_X12_must lk_X12_100 iv_X12_must ⟨rfl, rfl⟩ (mw_i34 hm) (Nat.le_of_ble_eq_true rfl) ⟨rfl, rfl⟩ ⟨by decide, by decide⟩ ?_
      refine c_must (c := 99) hC hp (by omega) (fun _ => ?_) (fun z => absurd hz z)
      refine Z_aload_n dX12_clauseOfC_6 rfl rfl ?_
      refine Z_V0z (ci := 12) dX12_clauseOfC_7 to_X12_here lk_X12_87 iv_X12_here ⟨rfl, rfl⟩ (mw_i34 hm) (Nat.le_of_ble_eq_true rfl) ⟨rfl, rfl⟩ ⟨by decide, by decide⟩ ?_
      refine c_here hC (by omega) ?_
      refine Z_bipush (v := 111) dX12_clauseOfC_10 (by decide) ?_
      refine Z_icmp_ne (tgt := 48) dX12_clauseOfC_12 (by decide) (fun h12 => ?_) (fun h12 => ?_)
      · skip
        exact absurd e111 h12
      · skip
        refine Z_aload_n dX12_clauseOfC_15 rfl rfl ?_
        refine Z_ldcS (i := 9) dX12_clauseOfC_16 (by decide) ⟨rfl, rfl⟩ ?_
        refine Z_V1z (ci := 12) dX12_clauseOfC_18 to_X12_spells lk_X12_135 iv_X12_spells ⟨rfl, rfl⟩ (mw_i34 hm) (Nat.le_of_ble_eq_true rfl) ⟨rfl, rfl⟩ ⟨by decide, by decide⟩ ?_
        refine c_spells (i := 9) (by decide) hC (by omega) ?_
        rw [hS', hs1]
        refine Z_aload_n dX12_clauseOfC_21 rfl rfl ?_
        refine Z_V0z (ci := 12) dX12_clauseOfC_22 to_X12_figures lk_X12_127 iv_X12_figures ⟨rfl, rfl⟩ (mw_i34 hm) (Nat.le_of_ble_eq_true rfl) ⟨rfl, rfl⟩ ⟨by decide, by decide⟩ ?_
        refine c_figuresW hC hs.2.1 ?_
        refine Z_istore_n (L' := [_, _]) dX12_clauseOfC_25 rfl (by decide) rfl rfl ?_
        refine Z_aload_n dX12_clauseOfC_26 rfl rfl ?_
        refine Z_getIv dX12_clauseOfC_27 cl_12 fl_X12_83_12 rfl (mw_i34 hm) PS_7 ?_
        refine Z_if_ne (tgt := 47) dX12_clauseOfC_30 (by decide) (fun h30 => ?_) (fun h30 => ?_)
        · skip
          refine Z_vret dX12_clauseOfC_47 rfl ⟨by decide, by decide⟩ ?_
          exact h
        · skip
          exact absurd h30 (by decide)
  · rw [if_neg h111] at h
    have e111 : ¬ hv τ N (p + 1) = 111 := fun z => h111 ((hv_eq hC (c := 111) (by omega)).mp z)
    have hs := pSpell_ok (τ := τ) (N := N) [97, 110, 32] (p + 1) (by omega)
    generalize hS : pSpell τ N [97, 110, 32] (p + 1) = S at *
    have hS' : pSpell τ N (zCh 10) (p + 1) = S := hS
    cases hs1 : S.1 with
    | true =>
      rw [if_pos hs1] at h
      have hw := pWork_ok (τ := τ) (N := N) (p := S.2) hs.2.1
      generalize hW : pWork τ N S.2 = W at *
      cases hw1 : W.1 with
      | true =>
        rw [if_pos hw1] at h
        have hw2 := hw.2.2.1 hw1
        have hq := pSom_ok (τ := τ) (pFac_ok (τ := τ) (N := N) 5) W.2.1 hw.2.1
        generalize hR : pSom τ N (pFac τ N 5) W.2.1 = R at *
        have hcnt := zem_cnt (a := a) (R.2.2.map mO) f c hc
        rw [List.length_map] at hcnt
        have hC2 := hC.zem (R.2.2.map mO) c
        cases hr1 : R.1 with
        | true =>
          rw [hr1] at h
          have h : post none (PS α (zem f a c (R.2.2.map mO ++ [-10 - nI W.2.2])) R.2.1 0 0) := h
          rw [zem_app, List.length_map] at h
          refine Z_aload_n dX12_clauseOfC_0 rfl rfl ?_
          refine Z_bipush (v := 99) dX12_clauseOfC_1 (by decide) ?_
          refine Z_V1z (ci := 12) dX12_clauseOfC_3 to_X12_must lk_X12_100 iv_X12_must ⟨rfl, rfl⟩ (mw_i34 hm) (Nat.le_of_ble_eq_true rfl) ⟨rfl, rfl⟩ ⟨by decide, by decide⟩ ?_
          refine c_must (c := 99) hC hp (by omega) (fun _ => ?_) (fun z => absurd hz z)
          refine Z_aload_n dX12_clauseOfC_6 rfl rfl ?_
          refine Z_V0z (ci := 12) dX12_clauseOfC_7 to_X12_here lk_X12_87 iv_X12_here ⟨rfl, rfl⟩ (mw_i34 hm) (Nat.le_of_ble_eq_true rfl) ⟨rfl, rfl⟩ ⟨by decide, by decide⟩ ?_
          refine c_here hC (by omega) ?_
          refine Z_bipush (v := 111) dX12_clauseOfC_10 (by decide) ?_
          refine Z_icmp_ne (tgt := 48) dX12_clauseOfC_12 (by decide) (fun h12 => ?_) (fun h12 => ?_)
          · skip
            refine Z_aload_n dX12_clauseOfC_48 rfl rfl ?_
            refine Z_ldcS (i := 10) dX12_clauseOfC_49 (by decide) ⟨rfl, rfl⟩ ?_
            refine Z_V1z (ci := 12) dX12_clauseOfC_51 to_X12_spells lk_X12_135 iv_X12_spells ⟨rfl, rfl⟩ (mw_i34 hm) (Nat.le_of_ble_eq_true rfl) ⟨rfl, rfl⟩ ⟨by decide, by decide⟩ ?_
            refine c_spells (i := 10) (by decide) hC (by omega) ?_
            rw [hS', hs1]
            refine Z_aload_n dX12_clauseOfC_54 rfl rfl ?_
            refine Z_V0z (ci := 12) dX12_clauseOfC_55 to_X12_workHere lk_X12_141 iv_X12_workHere ⟨rfl, rfl⟩ (mw_i34 hm) (Nat.le_of_ble_eq_true rfl) ⟨rfl, rfl⟩ ⟨by decide, by decide⟩ ?_
            refine c_workHere hC hs.2.1 ?_
            rw [hW, hw1]
            refine Z_istore_n (L' := [_, _]) dX12_clauseOfC_58 rfl (by decide) rfl rfl ?_
            refine Z_aload_n dX12_clauseOfC_59 rfl rfl ?_
            refine Z_V0z (ci := 12) dX12_clauseOfC_60 to_X12_some lk_X12_116 iv_X12_some ⟨rfl, rfl⟩ (mw_i34 hm) (Nat.le_of_ble_eq_true rfl) ⟨rfl, rfl⟩ ⟨by decide, by decide⟩ ?_
            refine c_someTop f W.2.1 c _ hC hw.2.1 hc (by omega) ?_
            rw [hR, hr1]
            refine Z_aload_n dX12_clauseOfC_63 rfl rfl ?_
            refine Z_bipush (v := -10) dX12_clauseOfC_64 (by decide) ?_
            refine Z_iload_n dX12_clauseOfC_66 rfl rfl ?_
            refine Z_isub dX12_clauseOfC_67 ?_
            refine Z_V1z (ci := 12) dX12_clauseOfC_68 to_X12_emits lk_X12_113 iv_X12_emits ⟨rfl, rfl⟩ (mw_i34 hm) (Nat.le_of_ble_eq_true rfl) ⟨rfl, rfl⟩ ⟨by decide, by decide⟩ ?_
            refine c_emits hC2 hcnt (by omega) ?_
            refine Z_vret dX12_clauseOfC_71 rfl ⟨by decide, by decide⟩ ?_
            exact h
          · skip
            exact absurd h12 e111
        | false =>
          rw [hr1] at h
          have h : post none (PS α (zem f a c (R.2.2.map mO)) R.2.1 1 0) := h
          refine Z_aload_n dX12_clauseOfC_0 rfl rfl ?_
          refine Z_bipush (v := 99) dX12_clauseOfC_1 (by decide) ?_
          refine Z_V1z (ci := 12) dX12_clauseOfC_3 to_X12_must lk_X12_100 iv_X12_must ⟨rfl, rfl⟩ (mw_i34 hm) (Nat.le_of_ble_eq_true rfl) ⟨rfl, rfl⟩ ⟨by decide, by decide⟩ ?_
          refine c_must (c := 99) hC hp (by omega) (fun _ => ?_) (fun z => absurd hz z)
          refine Z_aload_n dX12_clauseOfC_6 rfl rfl ?_
          refine Z_V0z (ci := 12) dX12_clauseOfC_7 to_X12_here lk_X12_87 iv_X12_here ⟨rfl, rfl⟩ (mw_i34 hm) (Nat.le_of_ble_eq_true rfl) ⟨rfl, rfl⟩ ⟨by decide, by decide⟩ ?_
          refine c_here hC (by omega) ?_
          refine Z_bipush (v := 111) dX12_clauseOfC_10 (by decide) ?_
          refine Z_icmp_ne (tgt := 48) dX12_clauseOfC_12 (by decide) (fun h12 => ?_) (fun h12 => ?_)
          · skip
            refine Z_aload_n dX12_clauseOfC_48 rfl rfl ?_
            refine Z_ldcS (i := 10) dX12_clauseOfC_49 (by decide) ⟨rfl, rfl⟩ ?_
            refine Z_V1z (ci := 12) dX12_clauseOfC_51 to_X12_spells lk_X12_135 iv_X12_spells ⟨rfl, rfl⟩ (mw_i34 hm) (Nat.le_of_ble_eq_true rfl) ⟨rfl, rfl⟩ ⟨by decide, by decide⟩ ?_
            refine c_spells (i := 10) (by decide) hC (by omega) ?_
            rw [hS', hs1]
            refine Z_aload_n dX12_clauseOfC_54 rfl rfl ?_
            refine Z_V0z (ci := 12) dX12_clauseOfC_55 to_X12_workHere lk_X12_141 iv_X12_workHere ⟨rfl, rfl⟩ (mw_i34 hm) (Nat.le_of_ble_eq_true rfl) ⟨rfl, rfl⟩ ⟨by decide, by decide⟩ ?_
            refine c_workHere hC hs.2.1 ?_
            rw [hW, hw1]
            refine Z_istore_n (L' := [_, _]) dX12_clauseOfC_58 rfl (by decide) rfl rfl ?_
            refine Z_aload_n dX12_clauseOfC_59 rfl rfl ?_
            refine Z_V0z (ci := 12) dX12_clauseOfC_60 to_X12_some lk_X12_116 iv_X12_some ⟨rfl, rfl⟩ (mw_i34 hm) (Nat.le_of_ble_eq_true rfl) ⟨rfl, rfl⟩ ⟨by decide, by decide⟩ ?_
            refine c_someTop f W.2.1 c _ hC hw.2.1 hc (by omega) ?_
            rw [hR, hr1]
            refine Z_aload_n dX12_clauseOfC_63 rfl rfl ?_
            refine Z_bipush (v := -10) dX12_clauseOfC_64 (by decide) ?_
            refine Z_iload_n dX12_clauseOfC_66 rfl rfl ?_
            refine Z_isub dX12_clauseOfC_67 ?_
            refine Z_V1z (ci := 12) dX12_clauseOfC_68 to_X12_emits lk_X12_113 iv_X12_emits ⟨rfl, rfl⟩ (mw_i34 hm) (Nat.le_of_ble_eq_true rfl) ⟨rfl, rfl⟩ ⟨by decide, by decide⟩ ?_
            refine c_emitsW hC2 ?_
            refine Z_vret dX12_clauseOfC_71 rfl ⟨by decide, by decide⟩ ?_
            exact h
          · skip
            exact absurd h12 e111
      | false =>
        rw [if_neg (fun z => by rw [hw1] at z; exact Bool.false_ne_true z)] at h
        have h : post none (PS α f W.2.1 1 0) := h
        refine Z_aload_n dX12_clauseOfC_0 rfl rfl ?_
        refine Z_bipush (v := 99) dX12_clauseOfC_1 (by decide) ?_
        refine Z_V1z (ci := 12) dX12_clauseOfC_3 to_X12_must lk_X12_100 iv_X12_must ⟨rfl, rfl⟩ (mw_i34 hm) (Nat.le_of_ble_eq_true rfl) ⟨rfl, rfl⟩ ⟨by decide, by decide⟩ ?_
        refine c_must (c := 99) hC hp (by omega) (fun _ => ?_) (fun z => absurd hz z)
        refine Z_aload_n dX12_clauseOfC_6 rfl rfl ?_
        refine Z_V0z (ci := 12) dX12_clauseOfC_7 to_X12_here lk_X12_87 iv_X12_here ⟨rfl, rfl⟩ (mw_i34 hm) (Nat.le_of_ble_eq_true rfl) ⟨rfl, rfl⟩ ⟨by decide, by decide⟩ ?_
        refine c_here hC (by omega) ?_
        refine Z_bipush (v := 111) dX12_clauseOfC_10 (by decide) ?_
        refine Z_icmp_ne (tgt := 48) dX12_clauseOfC_12 (by decide) (fun h12 => ?_) (fun h12 => ?_)
        · skip
          refine Z_aload_n dX12_clauseOfC_48 rfl rfl ?_
          refine Z_ldcS (i := 10) dX12_clauseOfC_49 (by decide) ⟨rfl, rfl⟩ ?_
          refine Z_V1z (ci := 12) dX12_clauseOfC_51 to_X12_spells lk_X12_135 iv_X12_spells ⟨rfl, rfl⟩ (mw_i34 hm) (Nat.le_of_ble_eq_true rfl) ⟨rfl, rfl⟩ ⟨by decide, by decide⟩ ?_
          refine c_spells (i := 10) (by decide) hC (by omega) ?_
          rw [hS', hs1]
          refine Z_aload_n dX12_clauseOfC_54 rfl rfl ?_
          refine Z_V0z (ci := 12) dX12_clauseOfC_55 to_X12_workHere lk_X12_141 iv_X12_workHere ⟨rfl, rfl⟩ (mw_i34 hm) (Nat.le_of_ble_eq_true rfl) ⟨rfl, rfl⟩ ⟨by decide, by decide⟩ ?_
          refine c_workHere hC hs.2.1 ?_
          rw [hW, hw1]
          refine Z_istore_n (L' := [_, _]) dX12_clauseOfC_58 rfl (by decide) rfl rfl ?_
          refine Z_aload_n dX12_clauseOfC_59 rfl rfl ?_
          refine Z_V0z (ci := 12) dX12_clauseOfC_60 to_X12_some lk_X12_116 iv_X12_some ⟨rfl, rfl⟩ (mw_i34 hm) (Nat.le_of_ble_eq_true rfl) ⟨rfl, rfl⟩ ⟨by decide, by decide⟩ ?_
          refine c_someW hC ?_
          refine Z_aload_n dX12_clauseOfC_63 rfl rfl ?_
          refine Z_bipush (v := -10) dX12_clauseOfC_64 (by decide) ?_
          refine Z_iload_n dX12_clauseOfC_66 rfl rfl ?_
          refine Z_isub dX12_clauseOfC_67 ?_
          refine Z_V1z (ci := 12) dX12_clauseOfC_68 to_X12_emits lk_X12_113 iv_X12_emits ⟨rfl, rfl⟩ (mw_i34 hm) (Nat.le_of_ble_eq_true rfl) ⟨rfl, rfl⟩ ⟨by decide, by decide⟩ ?_
          refine c_emitsW hC ?_
          refine Z_vret dX12_clauseOfC_71 rfl ⟨by decide, by decide⟩ ?_
          exact h
        · skip
          exact absurd h12 e111
    | false =>
      rw [if_neg (fun z => by rw [hs1] at z; exact Bool.false_ne_true z)] at h
      have h : post none (PS α f S.2 1 0) := h
      refine Z_aload_n dX12_clauseOfC_0 rfl rfl ?_
      refine Z_bipush (v := 99) dX12_clauseOfC_1 (by decide) ?_
      refine Z_V1z (ci := 12) dX12_clauseOfC_3 to_X12_must lk_X12_100 iv_X12_must ⟨rfl, rfl⟩ (mw_i34 hm) (Nat.le_of_ble_eq_true rfl) ⟨rfl, rfl⟩ ⟨by decide, by decide⟩ ?_
      refine c_must (c := 99) hC hp (by omega) (fun _ => ?_) (fun z => absurd hz z)
      refine Z_aload_n dX12_clauseOfC_6 rfl rfl ?_
      refine Z_V0z (ci := 12) dX12_clauseOfC_7 to_X12_here lk_X12_87 iv_X12_here ⟨rfl, rfl⟩ (mw_i34 hm) (Nat.le_of_ble_eq_true rfl) ⟨rfl, rfl⟩ ⟨by decide, by decide⟩ ?_
      refine c_here hC (by omega) ?_
      refine Z_bipush (v := 111) dX12_clauseOfC_10 (by decide) ?_
      refine Z_icmp_ne (tgt := 48) dX12_clauseOfC_12 (by decide) (fun h12 => ?_) (fun h12 => ?_)
      · skip
        refine Z_aload_n dX12_clauseOfC_48 rfl rfl ?_
        refine Z_ldcS (i := 10) dX12_clauseOfC_49 (by decide) ⟨rfl, rfl⟩ ?_
        refine Z_V1z (ci := 12) dX12_clauseOfC_51 to_X12_spells lk_X12_135 iv_X12_spells ⟨rfl, rfl⟩ (mw_i34 hm) (Nat.le_of_ble_eq_true rfl) ⟨rfl, rfl⟩ ⟨by decide, by decide⟩ ?_
        refine c_spells (i := 10) (by decide) hC (by omega) ?_
        rw [hS', hs1]
        refine Z_aload_n dX12_clauseOfC_54 rfl rfl ?_
        refine Z_V0z (ci := 12) dX12_clauseOfC_55 to_X12_workHere lk_X12_141 iv_X12_workHere ⟨rfl, rfl⟩ (mw_i34 hm) (Nat.le_of_ble_eq_true rfl) ⟨rfl, rfl⟩ ⟨by decide, by decide⟩ ?_
        refine c_workHereW hC hs.2.1 ?_
        refine Z_istore_n (L' := [_, _]) dX12_clauseOfC_58 rfl (by decide) rfl rfl ?_
        refine Z_aload_n dX12_clauseOfC_59 rfl rfl ?_
        refine Z_V0z (ci := 12) dX12_clauseOfC_60 to_X12_some lk_X12_116 iv_X12_some ⟨rfl, rfl⟩ (mw_i34 hm) (Nat.le_of_ble_eq_true rfl) ⟨rfl, rfl⟩ ⟨by decide, by decide⟩ ?_
        refine c_someW hC ?_
        refine Z_aload_n dX12_clauseOfC_63 rfl rfl ?_
        refine Z_bipush (v := -10) dX12_clauseOfC_64 (by decide) ?_
        refine Z_iload_n dX12_clauseOfC_66 rfl rfl ?_
        refine Z_isub dX12_clauseOfC_67 ?_
        refine Z_V1z (ci := 12) dX12_clauseOfC_68 to_X12_emits lk_X12_113 iv_X12_emits ⟨rfl, rfl⟩ (mw_i34 hm) (Nat.le_of_ble_eq_true rfl) ⟨rfl, rfl⟩ ⟨by decide, by decide⟩ ?_
        refine c_emitsW hC ?_
        refine Z_vret dX12_clauseOfC_71 rfl ⟨by decide, by decide⟩ ?_
        exact h
      · skip
        exact absurd h12 e111
theorem c_payHere (hC : PC α f τ N a) (hp : p ≤ N) (hn99 : ¬ (p < N ∧ τ p = 99)) (hz : p < N ∧ τ p = 112) (h : post none (PS α (mCl f a c (pCl τ N p)) (pCl τ N p).2.1 (b2i (!(pCl τ N p).1)) 0)) : ZK G (d + 6) mX12_payHere [.ref (G.1 + 34)] (PS α f p 0 0) post := by
  have hm : ∀ {f : Nat → Int32} {p : Nat} {w : Int32} {o : Nat}, MW (PS α f p w o) := hC.1
  have hN := hC.2.2.2.1
  have ha := hC.2.2.2.2.1
  unfold pCl at h
  rw [if_neg hn99, if_pos hz] at h
  refine ZK.of (n := 2) (by decide) (Nat.le_of_ble_eq_true rfl) rfl ?_
  have hs := pSpell_ok (τ := τ) (N := N) [112, 97, 121, 32] p hp
  generalize hS : pSpell τ N [112, 97, 121, 32] p = S at *
  have hS' : pSpell τ N (zCh 11) p = S := hS
  cases hs1 : S.1 with
  | true =>
    rw [if_pos hs1] at h
    have hw := pWork_ok (τ := τ) (N := N) (p := S.2) hs.2.1
    generalize hW : pWork τ N S.2 = W at *
    cases hw1 : W.1 with
    | true =>
      rw [if_pos hw1] at h
      have hn := pNum_ok (τ := τ) (N := N) (p := W.2.1) hw.2.1
      generalize hR : pNum τ N W.2.1 = R at *
      have ex : (167 : Int32) + 3 * nI a + nI W.2.2 = nI (167 + 3 * a + W.2.2) := by
        rw [show (167 : Int32) = nI 167 from rfl, show (3 : Int32) = nI 3 from rfl, pk_mul, nI_add, nI_add]
      cases hr1 : R.1 with
      | true =>
        rw [hr1] at h
        have h : post none (PS α (u1 f (167 + 3 * a + W.2.2) (nI R.2.2)) R.2.1 0 0) := h
        refine Z_aload_n dX12_payHere_0 rfl rfl ?_
        refine Z_ldcS (i := 11) dX12_payHere_1 (by decide) ⟨rfl, rfl⟩ ?_
        refine Z_V1z (ci := 12) dX12_payHere_3 to_X12_spells lk_X12_135 iv_X12_spells ⟨rfl, rfl⟩ (mw_i34 hm) (Nat.le_of_ble_eq_true rfl) ⟨rfl, rfl⟩ ⟨by decide, by decide⟩ ?_
        refine c_spells (i := 11) (by decide) hC hp ?_
        rw [hS', hs1]
        refine Z_aload_n dX12_payHere_6 rfl rfl ?_
        refine Z_V0z (ci := 12) dX12_payHere_7 to_X12_workHere lk_X12_141 iv_X12_workHere ⟨rfl, rfl⟩ (mw_i34 hm) (Nat.le_of_ble_eq_true rfl) ⟨rfl, rfl⟩ ⟨by decide, by decide⟩ ?_
        refine c_workHere hC hs.2.1 ?_
        rw [hW, hw1]
        refine Z_istore_n (L' := [_, _, _]) dX12_payHere_10 rfl (by decide) rfl rfl ?_
        refine Z_aload_n dX12_payHere_11 rfl rfl ?_
        refine Z_V0z (ci := 12) dX12_payHere_12 to_X12_figures lk_X12_127 iv_X12_figures ⟨rfl, rfl⟩ (mw_i34 hm) (Nat.le_of_ble_eq_true rfl) ⟨rfl, rfl⟩ ⟨by decide, by decide⟩ ?_
        refine c_figures hC hw.2.1 ?_
        rw [hR, hr1]
        refine Z_istore_n (L' := [_, _, _]) dX12_payHere_15 rfl (by decide) rfl rfl ?_
        refine Z_aload_n dX12_payHere_16 rfl rfl ?_
        refine Z_getIv dX12_payHere_17 cl_12 fl_X12_83_12 rfl (mw_i34 hm) PS_7 ?_
        refine Z_if_ne (tgt := 41) dX12_payHere_20 (by decide) (fun h20 => ?_) (fun h20 => ?_)
        · skip
          exact absurd rfl h20
        · skip
          refine Z_aload_n dX12_payHere_23 rfl rfl ?_
          refine Z_getR dX12_payHere_24 cl_12 fl_X12_9_12 rfl (mw_i34 hm) (mw_p34_1 hm) ?_
          refine Z_sipush (v := 167) dX12_payHere_27 (by decide) ?_
          refine Z_iconst (v := 3) dX12_payHere_30 (by decide) ?_
          refine Z_aload_n dX12_payHere_31 rfl rfl ?_
          refine Z_getIv dX12_payHere_32 cl_12 fl_X12_104_12 rfl (mw_i34 hm) (PS_4.trans hC.2.2.1) ?_
          refine Z_imul dX12_payHere_35 ?_
          refine Z_iadd dX12_payHere_36 ?_
          refine Z_iload_n dX12_payHere_37 rfl rfl ?_
          refine Z_iadd dX12_payHere_38 ?_
          rw [ex]
          refine Z_iload_n dX12_payHere_39 rfl rfl ?_
          refine Z_iast dX12_payHere_40 (mw_i35 hm) (zix_nI (m := 167 + 3 * a + W.2.2) (by omega) (by decide)) ?_
          rw [PS_f]
          refine Z_vret dX12_payHere_41 rfl ⟨by decide, by decide⟩ ?_
          exact h
      | false =>
        rw [hr1] at h
        have h : post none (PS α f R.2.1 1 0) := h
        refine Z_aload_n dX12_payHere_0 rfl rfl ?_
        refine Z_ldcS (i := 11) dX12_payHere_1 (by decide) ⟨rfl, rfl⟩ ?_
        refine Z_V1z (ci := 12) dX12_payHere_3 to_X12_spells lk_X12_135 iv_X12_spells ⟨rfl, rfl⟩ (mw_i34 hm) (Nat.le_of_ble_eq_true rfl) ⟨rfl, rfl⟩ ⟨by decide, by decide⟩ ?_
        refine c_spells (i := 11) (by decide) hC hp ?_
        rw [hS', hs1]
        refine Z_aload_n dX12_payHere_6 rfl rfl ?_
        refine Z_V0z (ci := 12) dX12_payHere_7 to_X12_workHere lk_X12_141 iv_X12_workHere ⟨rfl, rfl⟩ (mw_i34 hm) (Nat.le_of_ble_eq_true rfl) ⟨rfl, rfl⟩ ⟨by decide, by decide⟩ ?_
        refine c_workHere hC hs.2.1 ?_
        rw [hW, hw1]
        refine Z_istore_n (L' := [_, _, _]) dX12_payHere_10 rfl (by decide) rfl rfl ?_
        refine Z_aload_n dX12_payHere_11 rfl rfl ?_
        refine Z_V0z (ci := 12) dX12_payHere_12 to_X12_figures lk_X12_127 iv_X12_figures ⟨rfl, rfl⟩ (mw_i34 hm) (Nat.le_of_ble_eq_true rfl) ⟨rfl, rfl⟩ ⟨by decide, by decide⟩ ?_
        refine c_figures hC hw.2.1 ?_
        rw [hR, hr1]
        refine Z_istore_n (L' := [_, _, _]) dX12_payHere_15 rfl (by decide) rfl rfl ?_
        refine Z_aload_n dX12_payHere_16 rfl rfl ?_
        refine Z_getIv dX12_payHere_17 cl_12 fl_X12_83_12 rfl (mw_i34 hm) PS_7 ?_
        refine Z_if_ne (tgt := 41) dX12_payHere_20 (by decide) (fun h20 => ?_) (fun h20 => ?_)
        · skip
          refine Z_vret dX12_payHere_41 rfl ⟨by decide, by decide⟩ ?_
          exact h
        · skip
          exact absurd h20 (by decide)
    | false =>
      rw [if_neg (fun z => by rw [hw1] at z; exact Bool.false_ne_true z)] at h
      have h : post none (PS α f W.2.1 1 0) := h
      refine Z_aload_n dX12_payHere_0 rfl rfl ?_
      refine Z_ldcS (i := 11) dX12_payHere_1 (by decide) ⟨rfl, rfl⟩ ?_
      refine Z_V1z (ci := 12) dX12_payHere_3 to_X12_spells lk_X12_135 iv_X12_spells ⟨rfl, rfl⟩ (mw_i34 hm) (Nat.le_of_ble_eq_true rfl) ⟨rfl, rfl⟩ ⟨by decide, by decide⟩ ?_
      refine c_spells (i := 11) (by decide) hC hp ?_
      rw [hS', hs1]
      refine Z_aload_n dX12_payHere_6 rfl rfl ?_
      refine Z_V0z (ci := 12) dX12_payHere_7 to_X12_workHere lk_X12_141 iv_X12_workHere ⟨rfl, rfl⟩ (mw_i34 hm) (Nat.le_of_ble_eq_true rfl) ⟨rfl, rfl⟩ ⟨by decide, by decide⟩ ?_
      refine c_workHere hC hs.2.1 ?_
      rw [hW, hw1]
      refine Z_istore_n (L' := [_, _, _]) dX12_payHere_10 rfl (by decide) rfl rfl ?_
      refine Z_aload_n dX12_payHere_11 rfl rfl ?_
      refine Z_V0z (ci := 12) dX12_payHere_12 to_X12_figures lk_X12_127 iv_X12_figures ⟨rfl, rfl⟩ (mw_i34 hm) (Nat.le_of_ble_eq_true rfl) ⟨rfl, rfl⟩ ⟨by decide, by decide⟩ ?_
      refine c_figuresW hC hw.2.1 ?_
      refine Z_istore_n (L' := [_, _, _]) dX12_payHere_15 rfl (by decide) rfl rfl ?_
      refine Z_aload_n dX12_payHere_16 rfl rfl ?_
      refine Z_getIv dX12_payHere_17 cl_12 fl_X12_83_12 rfl (mw_i34 hm) PS_7 ?_
      refine Z_if_ne (tgt := 41) dX12_payHere_20 (by decide) (fun h20 => ?_) (fun h20 => ?_)
      · skip
        refine Z_vret dX12_payHere_41 rfl ⟨by decide, by decide⟩ ?_
        exact h
      · skip
        exact absurd h20 (by decide)
  | false =>
    rw [if_neg (fun z => by rw [hs1] at z; exact Bool.false_ne_true z)] at h
    have h : post none (PS α f S.2 1 0) := h
    refine Z_aload_n dX12_payHere_0 rfl rfl ?_
    refine Z_ldcS (i := 11) dX12_payHere_1 (by decide) ⟨rfl, rfl⟩ ?_
    refine Z_V1z (ci := 12) dX12_payHere_3 to_X12_spells lk_X12_135 iv_X12_spells ⟨rfl, rfl⟩ (mw_i34 hm) (Nat.le_of_ble_eq_true rfl) ⟨rfl, rfl⟩ ⟨by decide, by decide⟩ ?_
    refine c_spells (i := 11) (by decide) hC hp ?_
    rw [hS', hs1]
    refine Z_aload_n dX12_payHere_6 rfl rfl ?_
    refine Z_V0z (ci := 12) dX12_payHere_7 to_X12_workHere lk_X12_141 iv_X12_workHere ⟨rfl, rfl⟩ (mw_i34 hm) (Nat.le_of_ble_eq_true rfl) ⟨rfl, rfl⟩ ⟨by decide, by decide⟩ ?_
    refine c_workHereW hC hs.2.1 ?_
    refine Z_istore_n (L' := [_, _, _]) dX12_payHere_10 rfl (by decide) rfl rfl ?_
    refine Z_aload_n dX12_payHere_11 rfl rfl ?_
    refine Z_V0z (ci := 12) dX12_payHere_12 to_X12_figures lk_X12_127 iv_X12_figures ⟨rfl, rfl⟩ (mw_i34 hm) (Nat.le_of_ble_eq_true rfl) ⟨rfl, rfl⟩ ⟨by decide, by decide⟩ ?_
    refine c_figuresW hC hs.2.1 ?_
    refine Z_istore_n (L' := [_, _, _]) dX12_payHere_15 rfl (by decide) rfl rfl ?_
    refine Z_aload_n dX12_payHere_16 rfl rfl ?_
    refine Z_getIv dX12_payHere_17 cl_12 fl_X12_83_12 rfl (mw_i34 hm) PS_7 ?_
    refine Z_if_ne (tgt := 41) dX12_payHere_20 (by decide) (fun h20 => ?_) (fun h20 => ?_)
    · skip
      refine Z_vret dX12_payHere_41 rfl ⟨by decide, by decide⟩ ?_
      exact h
    · skip
      exact absurd h20 (by decide)
theorem c_clauseHere (hC : PC α f τ N a) (hp : p ≤ N) (hc : f (187 + a) = nI c) (hcp : c ≤ p) (h : post none (PS α (mCl f a c (pCl τ N p)) (pCl τ N p).2.1 (b2i (!(pCl τ N p).1)) 0)) : ZK G (d + 25) mX12_clauseHere [.ref (G.1 + 34)] (PS α f p 0 0) post := by
  have hm : ∀ {f : Nat → Int32} {p : Nat} {w : Int32} {o : Nat}, MW (PS α f p w o) := hC.1
  have hvc : ∀ q : Nat, q ≤ 127 → ((hv τ N p).toInt = (q : Int) ↔ (p < N ∧ τ p = q)) := fun q hq => by
    rw [← hv_eq (p := p) hC hq]
    constructor
    · intro e; exact Int32.toInt_inj.mp (by rw [e, nI_toInt (by omega)])
    · intro e; rw [e, nI_toInt (by omega)]
  refine ZK.of (n := 0) (by decide) (Nat.le_of_ble_eq_true rfl) rfl ?_
  refine Z_aload_n dX12_clauseHere_0 rfl rfl ?_
  refine Z_V0z (ci := 12) dX12_clauseHere_1 to_X12_here lk_X12_87 iv_X12_here ⟨rfl, rfl⟩ (mw_i34 hm) (Nat.le_of_ble_eq_true rfl) ⟨rfl, rfl⟩ ⟨by decide, by decide⟩ ?_
  refine c_here hC hp ?_
  refine Z_look2 (t0 := 46) (t1 := 32) (t2 := 39) dX12_clauseHere_4 (by decide) (by decide) (by decide) (by decide) (fun h4 => ?_) (fun h4 => ?_) (fun h4 => ?_)
  · skip
    refine Z_aload_n dX12_clauseHere_32 rfl rfl ?_
    refine Z_V0z (ci := 12) dX12_clauseHere_33 to_X12_clauseOfC lk_X12_146 iv_X12_clauseOfC ⟨rfl, rfl⟩ (mw_i34 hm) (Nat.le_of_ble_eq_true rfl) ⟨rfl, rfl⟩ ⟨by decide, by decide⟩ ?_
    refine c_clauseOfC hC hp hc hcp ((hvc 99 (by omega)).mp h4) ?_
    refine Z_goto (tgt := 51) dX12_clauseHere_36 (by decide) ?_
    refine Z_vret dX12_clauseHere_51 rfl ⟨by decide, by decide⟩ ?_
    first
      | exact h
      | (have e : pCl τ N p = (false, p, 3, 0, 0, []) := by
           unfold pCl
           rw [if_neg (fun z => h4.1 ((hvc 99 (by omega)).mpr z)), if_neg (fun z => h4.2 ((hvc 112 (by omega)).mpr z))]
         rw [e] at h
         exact h)
  · skip
    refine Z_aload_n dX12_clauseHere_39 rfl rfl ?_
    refine Z_V0z (ci := 12) dX12_clauseHere_40 to_X12_payHere lk_X12_149 iv_X12_payHere ⟨rfl, rfl⟩ (mw_i34 hm) (Nat.le_of_ble_eq_true rfl) ⟨rfl, rfl⟩ ⟨by decide, by decide⟩ ?_
    refine c_payHere (c := c) hC hp (fun z => by have := (hvc 99 (by omega)).mpr z; rw [h4] at this; exact absurd this (by decide)) ((hvc 112 (by omega)).mp h4) ?_
    refine Z_goto (tgt := 51) dX12_clauseHere_43 (by decide) ?_
    refine Z_vret dX12_clauseHere_51 rfl ⟨by decide, by decide⟩ ?_
    first
      | exact h
      | (have e : pCl τ N p = (false, p, 3, 0, 0, []) := by
           unfold pCl
           rw [if_neg (fun z => h4.1 ((hvc 99 (by omega)).mpr z)), if_neg (fun z => h4.2 ((hvc 112 (by omega)).mpr z))]
         rw [e] at h
         exact h)
  · skip
    refine Z_aload_n dX12_clauseHere_46 rfl rfl ?_
    refine Z_iconst (v := 1) dX12_clauseHere_47 (by decide) ?_
    refine Z_putI dX12_clauseHere_48 cl_12 fl_X12_83_12 (Or.inl fn_12_7) rfl (mw_i34 hm) rfl rfl ?_
    rw [PS_wr]
    refine Z_vret dX12_clauseHere_51 rfl ⟨by decide, by decide⟩ ?_
    first
      | exact h
      | (have e : pCl τ N p = (false, p, 3, 0, 0, []) := by
           unfold pCl
           rw [if_neg (fun z => h4.1 ((hvc 99 (by omega)).mpr z)), if_neg (fun z => h4.2 ((hvc 112 (by omega)).mpr z))]
         rw [e] at h
         exact h)
end MP5
