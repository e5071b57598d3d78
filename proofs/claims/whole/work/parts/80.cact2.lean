section CN1
variable {G : ZG} {d : Nat} {α β γ : AH} {post : Option Value → AH → Prop} {Γ : Nat → VC} {A : ZA}
/-- the trace is written -/
theorem CRel.run {l : List Nat} (h : CRel Γ A α) (hf : fr33 α β) (hr : cRun β l) (hl : l.length ≤ 20) : CRel Γ (A.1, A.2.1, l, A.2.2.2) β := by
  obtain ⟨k1, k2, k3, k4, k5, k6, k7, k8⟩ := h
  have hz := (hf.c (fun k hk => by unfold cId; omega)).z
  have hs : ∀ k, k ≠ 33 → hI β k = hI α k ∧ hP β k = hP α k := fun k hk => ⟨(hf.2.2.2 k hk).1, by rw [hf.2.2.1]⟩
  exact ⟨hf.cw k1, by rw [hf.1]; exact k2, k3, k4.fr hz (fun k p q => hs k (by omega)), (k5.fr hz (fun k p q => hs k (by omega)) (by rw [(hs 0 (by omega)).1])).to rfl, ⟨hl, hr.2.1, hr.2.2⟩, k7.fr hz (fun k p => (hs k (by omega)).1) (hs 23 (by omega)).2, k8.fr hz (fun k p => (hs k (by omega)).1) (hs 28 (by omega)).2⟩
theorem aSows_le (k : Nat) (w x : Int32) : (aSows k w x).2.length ≤ 20 := by have := aSows_len k w x; omega
theorem aCuts_le (k : Nat) (w v x : Int32) : (aCuts k w v x).2.length ≤ 20 := by have := aCuts_len k w v x; omega
theorem aTells_le (k : Nat) (w v x : Int32) : (aTells k w v x).2.length ≤ 20 := by
  have h1 := aPTells_len k w v x
  have h2 := aPTells_len k w v (x - 1)
  have h3 := aSows_len k w 2
  unfold aTells
  split
  · simp; omega
  · split
    · simp; omega
    · omega
theorem k_act {w a x : Int32} (hr : CRel Γ A α) (h : ∀ β, CRel Γ (sp_act A w a x).2 β → frC α β → post (some (.int (sp_act A w a x).1)) β) : ZK G (d + 10) mX11_act [.ref (G.1 + 0), .int w, .int a, .int x] α post := by
  have hw := hr.1
  have l0 : (0 : Int32).toInt = 0 := rfl
  have l1 : (1 : Int32).toInt = 1 := rfl
  have l2 : (2 : Int32).toInt = 2 := rfl
  have l3 : (3 : Int32).toInt = 3 := rfl
  have f0 : fr33 α (sI α 33 0 0) := frI.sI (F := fun k => k = 33) rfl
  have c0 : cRun (sI α 33 0 0) [] := ⟨cw_i33 hw, by rw [hI_sI, if_pos ⟨rfl, rfl⟩]; rfl, fun i hi => absurd hi (Nat.not_lt_zero i)⟩
  have hr0 : CRel Γ (A.1, A.2.1, [], A.2.2.2) (sI α 33 0 0) := hr.run f0 c0 (by decide)
  have fc0 : frC α (sI α 33 0 0) := f0.c (fun k hk => by unfold cId; omega)
  by_cases hz : 0 ≤ w ∧ w ≤ nI (A.1.1 0) - 1
  · obtain ⟨j, c, hj, hj8, rfl, hp, ho⟩ := hr0.wk hz
    have eo : (0 ≤ a ∧ a ≤ 2) → sp_act A (nI j) a x = (let r := if a = 0 then aSows (A.1.1 (112 + j)) (nI j) x else if a = 1 then aCuts (A.1.1 (112 + j)) (nI j) (nI (A.1.1 (120 + j))) x else aTells (A.1.1 (112 + j)) (nI j) (nI (A.1.1 (120 + j))) x
     (r.1, (A.1, A.2.1, r.2, A.2.2.2))) := fun z => by
      unfold sp_act
      rw [if_pos ⟨hz, z⟩, nI_clamp (by omega)]
    refine ZK.of (n := 1) (by decide) (Nat.le_of_ble_eq_true rfl) rfl ?_
    refine Z_aload_n dX11_act_0 rfl rfl ?_
    refine Z_getR dX11_act_1 cl_11 fl_X11_47_11 rfl (cw_i0 hw) (cw_p0_6 hw) ?_
    refine Z_iconst (v := 0) dX11_act_4 (by decide) ?_
    refine Z_iconst (v := 0) dX11_act_5 (by decide) ?_
    refine Z_iast dX11_act_6 (cw_i33 hw) (zix_k (m := 0) (by decide)) ?_
    refine Z_aload_n dX11_act_7 rfl rfl ?_
    refine Z_iload_n dX11_act_8 rfl rfl ?_
    refine Z_V1z (ci := 11) dX11_act_9 to_X11_workerAt lk_X11_114 iv_X11_workerAt ⟨rfl, rfl⟩ (cw_i0 hw) (Nat.le_of_ble_eq_true rfl) ⟨rfl, rfl⟩ ⟨by decide, by decide⟩ ?_
    refine k_wAt1 hr0 hj hp ?_
    refine Z_astore (L' := [_, _, _, _, _]) dX11_act_12 (by decide) rfl rfl ?_
    refine Z_aload dX11_act_14 rfl ?_
    refine Z_ifnull dX11_act_16 ?_
    refine Z_iload_n dX11_act_19 rfl rfl ?_
    refine Z_if_lt (tgt := 28) dX11_act_20 (by decide) (fun h20 => ?_) (fun h20 => ?_)
    · skip
      refine Z_iconst (v := 0) dX11_act_28 (by decide) ?_
      refine Z_iret dX11_act_29 rfl rfl ⟨by decide, by decide⟩ ?_
      have e : sp_act A (nI j) a x = (0, (A.1, A.2.1, [], A.2.2.2)) := if_neg (fun z => by have z1 := z.2; simp only [Int32.lt_iff_toInt_lt, Int32.le_iff_toInt_le] at *; omega)
      rw [e] at h; exact h _ hr0 fc0
    · skip
      refine Z_iload_n dX11_act_23 rfl rfl ?_
      refine Z_iconst (v := 3) dX11_act_24 (by decide) ?_
      refine Z_icmp_lt (tgt := 30) dX11_act_25 (by decide) (fun h25 => ?_) (fun h25 => ?_)
      · skip
        have z : 0 ≤ a ∧ a ≤ 2 := by simp only [Int32.lt_iff_toInt_lt, Int32.le_iff_toInt_le] at *; omega
        rw [eo z] at h
        dsimp only at h
        refine Z_iload_n dX11_act_30 rfl rfl ?_
        refine Z_if_ne (tgt := 45) dX11_act_31 (by decide) (fun h31 => ?_) (fun h31 => ?_)
        · skip
          refine Z_iload_n dX11_act_45 rfl rfl ?_
          refine Z_iconst (v := 1) dX11_act_46 (by decide) ?_
          refine Z_icmp_ne (tgt := 63) dX11_act_47 (by decide) (fun h47 => ?_) (fun h47 => ?_)
          · skip
            refine Z_aload dX11_act_63 rfl ?_
            refine Z_iload_n dX11_act_65 rfl rfl ?_
            refine Z_aload_n dX11_act_66 rfl rfl ?_
            refine Z_getR dX11_act_67 cl_11 fl_X11_47_11 rfl (cw_i0 hw) (cw_p0_6 hw) ?_
            refine Z_tells (d := d) dX11_act_70 wd_895 ho c0 (by simp) (Nat.le_of_ble_eq_true rfl) ⟨by decide, by decide⟩ (fun γ hr2 hf2 => ?_)
            refine Z_iret dX11_act_73 rfl rfl ⟨by decide, by decide⟩ ?_
            rw [if_neg h31] at h
            first
              | (rw [if_pos h47] at h
                 exact h γ (hr0.run hf2 hr2 (aCuts_le _ _ _ _)) (fc0.tr (hf2.c (fun k hk => by unfold cId; omega))))
              | (rw [if_neg h47] at h
                 exact h γ (hr0.run hf2 hr2 (aTells_le _ _ _ _)) (fc0.tr (hf2.c (fun k hk => by unfold cId; omega))))
          · skip
            refine Z_aload dX11_act_50 rfl ?_
            refine Z_iload_n dX11_act_52 rfl rfl ?_
            refine Z_aload_n dX11_act_53 rfl rfl ?_
            refine Z_getR dX11_act_54 cl_11 fl_X11_47_11 rfl (cw_i0 hw) (cw_p0_6 hw) ?_
            refine Z_cuts (d := d + 3) dX11_act_57 wd_871 ho c0 (by simp) (Nat.le_of_ble_eq_true rfl) ⟨by decide, by decide⟩ (fun γ hr2 hf2 => ?_)
            refine Z_goto (tgt := 73) dX11_act_60 (by decide) ?_
            refine Z_iret dX11_act_73 rfl rfl ⟨by decide, by decide⟩ ?_
            rw [if_neg h31] at h
            first
              | (rw [if_pos h47] at h
                 exact h γ (hr0.run hf2 hr2 (aCuts_le _ _ _ _)) (fc0.tr (hf2.c (fun k hk => by unfold cId; omega))))
              | (rw [if_neg h47] at h
                 exact h γ (hr0.run hf2 hr2 (aTells_le _ _ _ _)) (fc0.tr (hf2.c (fun k hk => by unfold cId; omega))))
        · skip
          refine Z_aload dX11_act_34 rfl ?_
          refine Z_iload_n dX11_act_36 rfl rfl ?_
          refine Z_aload_n dX11_act_37 rfl rfl ?_
          refine Z_getR dX11_act_38 cl_11 fl_X11_47_11 rfl (cw_i0 hw) (cw_p0_6 hw) ?_
          refine Z_sows (d := d + 6) dX11_act_41 wd_845 ho c0 (by simp) (Nat.le_of_ble_eq_true rfl) ⟨by decide, by decide⟩ (fun γ hr2 hf2 => ?_)
          refine Z_iret dX11_act_44 rfl rfl ⟨by decide, by decide⟩ ?_
          rw [if_pos h31] at h
          exact h γ (hr0.run hf2 hr2 (aSows_le _ _ _)) (fc0.tr (hf2.c (fun k hk => by unfold cId; omega)))
      · skip
        refine Z_iconst (v := 0) dX11_act_28 (by decide) ?_
        refine Z_iret dX11_act_29 rfl rfl ⟨by decide, by decide⟩ ?_
        have e : sp_act A (nI j) a x = (0, (A.1, A.2.1, [], A.2.2.2)) := if_neg (fun z => by have z1 := z.2; simp only [Int32.lt_iff_toInt_lt, Int32.le_iff_toInt_le] at *; omega)
        rw [e] at h; exact h _ hr0 fc0
  · have e : sp_act A w a x = (0, (A.1, A.2.1, [], A.2.2.2)) := if_neg (fun z => hz z.1)
    rw [e] at h
    refine ZK.of (n := 1) (by decide) (Nat.le_of_ble_eq_true rfl) rfl ?_
    refine Z_aload_n dX11_act_0 rfl rfl ?_
    refine Z_getR dX11_act_1 cl_11 fl_X11_47_11 rfl (cw_i0 hw) (cw_p0_6 hw) ?_
    refine Z_iconst (v := 0) dX11_act_4 (by decide) ?_
    refine Z_iconst (v := 0) dX11_act_5 (by decide) ?_
    refine Z_iast dX11_act_6 (cw_i33 hw) (zix_k (m := 0) (by decide)) ?_
    refine Z_aload_n dX11_act_7 rfl rfl ?_
    refine Z_iload_n dX11_act_8 rfl rfl ?_
    refine Z_V1z (ci := 11) dX11_act_9 to_X11_workerAt lk_X11_114 iv_X11_workerAt ⟨rfl, rfl⟩ (cw_i0 hw) (Nat.le_of_ble_eq_true rfl) ⟨rfl, rfl⟩ ⟨by decide, by decide⟩ ?_
    refine k_wAt0 hr0 hz ?_
    refine Z_astoreN (L' := [_, _, _, _, _]) dX11_act_12 (by decide) rfl rfl ?_
    refine Z_aloadN dX11_act_14 rfl ?_
    refine Z_ifnullN (tgt := 28) dX11_act_16 (by decide) ?_
    refine Z_iconst (v := 0) dX11_act_28 (by decide) ?_
    refine Z_iret dX11_act_29 rfl rfl ⟨by decide, by decide⟩ ?_
    exact h _ hr0 fc0
theorem k_isOf {c kd row k : Nat} {num v : Int32} (ho : wObj α c kd num v row) (hk : k < 7) (h : post (some (.int (b2i (aUnder kd k)))) α) : ZK G (d + 1) mX11_isOf [.ref (G.1 + c), .int (nI k)] α post := by
  obtain ⟨hfz, hk6, hz, -⟩ := ho
  have hkk : kd = 0 ∨ kd = 1 ∨ kd = 2 ∨ kd = 3 ∨ kd = 4 ∨ kd = 5 ∨ kd = 6 := by omega
  have hq : ∀ {i : Nat}, i < 7 → (nI k).toInt = 1 + (i : Int) → k = i + 1 := fun hi z => by
    rw [nI_toInt (by omega)] at z; omega
  refine ZK.of (n := 0) (by decide) (Nat.le_of_ble_eq_true rfl) rfl ?_
  rcases hkk with rfl | rfl | rfl | rfl | rfl | rfl | rfl
  · skip
    refine Z_iload_n dX11_isOf_0 rfl rfl ?_
    refine Z_tab (tgt := 70) dX11_isOf_1 (fun i hx1 hh1 => ?_) (by decide) (fun hx1 => ?_)
    · skip
      have hi1 : i < 6 := by omega
      match i, hi1, hx1 with
      | 0, _, hx1 =>
        refine ⟨_, 40, rfl, by decide, ?_⟩
        refine Z_aload_n dX11_isOf_40 rfl rfl ?_
        refine Z_instN (ci := 10) dX11_isOf_41 wd_460 rfl hz (by decide) ?_
        refine Z_iret dX11_isOf_44 rfl rfl ⟨by decide, by decide⟩ ?_
        have e := hq (i := 0) (by decide) hx1; subst e; exact h
      | 1, _, hx1 =>
        refine ⟨_, 45, rfl, by decide, ?_⟩
        refine Z_aload_n dX11_isOf_45 rfl rfl ?_
        refine Z_instN (ci := 10) dX11_isOf_46 wd_489 rfl hz (by decide) ?_
        refine Z_iret dX11_isOf_49 rfl rfl ⟨by decide, by decide⟩ ?_
        have e := hq (i := 1) (by decide) hx1; subst e; exact h
      | 2, _, hx1 =>
        refine ⟨_, 50, rfl, by decide, ?_⟩
        refine Z_aload_n dX11_isOf_50 rfl rfl ?_
        refine Z_instN (ci := 10) dX11_isOf_51 wd_499 rfl hz (by decide) ?_
        refine Z_iret dX11_isOf_54 rfl rfl ⟨by decide, by decide⟩ ?_
        have e := hq (i := 2) (by decide) hx1; subst e; exact h
      | 3, _, hx1 =>
        refine ⟨_, 55, rfl, by decide, ?_⟩
        refine Z_aload_n dX11_isOf_55 rfl rfl ?_
        refine Z_instN (ci := 10) dX11_isOf_56 wd_509 rfl hz (by decide) ?_
        refine Z_iret dX11_isOf_59 rfl rfl ⟨by decide, by decide⟩ ?_
        have e := hq (i := 3) (by decide) hx1; subst e; exact h
      | 4, _, hx1 =>
        refine ⟨_, 60, rfl, by decide, ?_⟩
        refine Z_aload_n dX11_isOf_60 rfl rfl ?_
        refine Z_instN (ci := 10) dX11_isOf_61 wd_519 rfl hz (by decide) ?_
        refine Z_iret dX11_isOf_64 rfl rfl ⟨by decide, by decide⟩ ?_
        have e := hq (i := 4) (by decide) hx1; subst e; exact h
      | 5, _, hx1 =>
        refine ⟨_, 65, rfl, by decide, ?_⟩
        refine Z_aload_n dX11_isOf_65 rfl rfl ?_
        refine Z_instN (ci := 10) dX11_isOf_66 wd_529 rfl hz (by decide) ?_
        refine Z_iret dX11_isOf_69 rfl rfl ⟨by decide, by decide⟩ ?_
        have e := hq (i := 5) (by decide) hx1; subst e; exact h
      | k + 6, h, _ => exact absurd h (by omega)
    · skip
      refine Z_iconst (v := 1) dX11_isOf_70 (by decide) ?_
      refine Z_iret dX11_isOf_71 rfl rfl ⟨by decide, by decide⟩ ?_
      have e : k = 0 := by
        rw [nI_toInt (by omega)] at hx1
        omega
      subst e; exact h
  · skip
    refine Z_iload_n dX11_isOf_0 rfl rfl ?_
    refine Z_tab (tgt := 70) dX11_isOf_1 (fun i hx1 hh1 => ?_) (by decide) (fun hx1 => ?_)
    · skip
      have hi1 : i < 6 := by omega
      match i, hi1, hx1 with
      | 0, _, hx1 =>
        refine ⟨_, 40, rfl, by decide, ?_⟩
        refine Z_aload_n dX11_isOf_40 rfl rfl ?_
        refine Z_instS (ci := 3) dX11_isOf_41 rfl wd_460 hz ?_
        refine Z_iret dX11_isOf_44 rfl rfl ⟨by decide, by decide⟩ ?_
        have e := hq (i := 0) (by decide) hx1; subst e; exact h
      | 1, _, hx1 =>
        refine ⟨_, 45, rfl, by decide, ?_⟩
        refine Z_aload_n dX11_isOf_45 rfl rfl ?_
        refine Z_instN (ci := 3) dX11_isOf_46 wd_489 rfl hz (by decide) ?_
        refine Z_iret dX11_isOf_49 rfl rfl ⟨by decide, by decide⟩ ?_
        have e := hq (i := 1) (by decide) hx1; subst e; exact h
      | 2, _, hx1 =>
        refine ⟨_, 50, rfl, by decide, ?_⟩
        refine Z_aload_n dX11_isOf_50 rfl rfl ?_
        refine Z_instN (ci := 3) dX11_isOf_51 wd_499 rfl hz (by decide) ?_
        refine Z_iret dX11_isOf_54 rfl rfl ⟨by decide, by decide⟩ ?_
        have e := hq (i := 2) (by decide) hx1; subst e; exact h
      | 3, _, hx1 =>
        refine ⟨_, 55, rfl, by decide, ?_⟩
        refine Z_aload_n dX11_isOf_55 rfl rfl ?_
        refine Z_instN (ci := 3) dX11_isOf_56 wd_509 rfl hz (by decide) ?_
        refine Z_iret dX11_isOf_59 rfl rfl ⟨by decide, by decide⟩ ?_
        have e := hq (i := 3) (by decide) hx1; subst e; exact h
      | 4, _, hx1 =>
        refine ⟨_, 60, rfl, by decide, ?_⟩
        refine Z_aload_n dX11_isOf_60 rfl rfl ?_
        refine Z_instN (ci := 3) dX11_isOf_61 wd_519 rfl hz (by decide) ?_
        refine Z_iret dX11_isOf_64 rfl rfl ⟨by decide, by decide⟩ ?_
        have e := hq (i := 4) (by decide) hx1; subst e; exact h
      | 5, _, hx1 =>
        refine ⟨_, 65, rfl, by decide, ?_⟩
        refine Z_aload_n dX11_isOf_65 rfl rfl ?_
        refine Z_instN (ci := 3) dX11_isOf_66 wd_529 rfl hz (by decide) ?_
        refine Z_iret dX11_isOf_69 rfl rfl ⟨by decide, by decide⟩ ?_
        have e := hq (i := 5) (by decide) hx1; subst e; exact h
      | k + 6, h, _ => exact absurd h (by omega)
    · skip
      refine Z_iconst (v := 1) dX11_isOf_70 (by decide) ?_
      refine Z_iret dX11_isOf_71 rfl rfl ⟨by decide, by decide⟩ ?_
      have e : k = 0 := by
        rw [nI_toInt (by omega)] at hx1
        omega
      subst e; exact h
  · skip
    refine Z_iload_n dX11_isOf_0 rfl rfl ?_
    refine Z_tab (tgt := 70) dX11_isOf_1 (fun i hx1 hh1 => ?_) (by decide) (fun hx1 => ?_)
    · skip
      have hi1 : i < 6 := by omega
      match i, hi1, hx1 with
      | 0, _, hx1 =>
        refine ⟨_, 40, rfl, by decide, ?_⟩
        refine Z_aload_n dX11_isOf_40 rfl rfl ?_
        refine Z_instN (ci := 2) dX11_isOf_41 wd_460 rfl hz (by decide) ?_
        refine Z_iret dX11_isOf_44 rfl rfl ⟨by decide, by decide⟩ ?_
        have e := hq (i := 0) (by decide) hx1; subst e; exact h
      | 1, _, hx1 =>
        refine ⟨_, 45, rfl, by decide, ?_⟩
        refine Z_aload_n dX11_isOf_45 rfl rfl ?_
        refine Z_instS (ci := 2) dX11_isOf_46 rfl wd_489 hz ?_
        refine Z_iret dX11_isOf_49 rfl rfl ⟨by decide, by decide⟩ ?_
        have e := hq (i := 1) (by decide) hx1; subst e; exact h
      | 2, _, hx1 =>
        refine ⟨_, 50, rfl, by decide, ?_⟩
        refine Z_aload_n dX11_isOf_50 rfl rfl ?_
        refine Z_instN (ci := 2) dX11_isOf_51 wd_499 rfl hz (by decide) ?_
        refine Z_iret dX11_isOf_54 rfl rfl ⟨by decide, by decide⟩ ?_
        have e := hq (i := 2) (by decide) hx1; subst e; exact h
      | 3, _, hx1 =>
        refine ⟨_, 55, rfl, by decide, ?_⟩
        refine Z_aload_n dX11_isOf_55 rfl rfl ?_
        refine Z_instN (ci := 2) dX11_isOf_56 wd_509 rfl hz (by decide) ?_
        refine Z_iret dX11_isOf_59 rfl rfl ⟨by decide, by decide⟩ ?_
        have e := hq (i := 3) (by decide) hx1; subst e; exact h
      | 4, _, hx1 =>
        refine ⟨_, 60, rfl, by decide, ?_⟩
        refine Z_aload_n dX11_isOf_60 rfl rfl ?_
        refine Z_instN (ci := 2) dX11_isOf_61 wd_519 rfl hz (by decide) ?_
        refine Z_iret dX11_isOf_64 rfl rfl ⟨by decide, by decide⟩ ?_
        have e := hq (i := 4) (by decide) hx1; subst e; exact h
      | 5, _, hx1 =>
        refine ⟨_, 65, rfl, by decide, ?_⟩
        refine Z_aload_n dX11_isOf_65 rfl rfl ?_
        refine Z_instN (ci := 2) dX11_isOf_66 wd_529 rfl hz (by decide) ?_
        refine Z_iret dX11_isOf_69 rfl rfl ⟨by decide, by decide⟩ ?_
        have e := hq (i := 5) (by decide) hx1; subst e; exact h
      | k + 6, h, _ => exact absurd h (by omega)
    · skip
      refine Z_iconst (v := 1) dX11_isOf_70 (by decide) ?_
      refine Z_iret dX11_isOf_71 rfl rfl ⟨by decide, by decide⟩ ?_
      have e : k = 0 := by
        rw [nI_toInt (by omega)] at hx1
        omega
      subst e; exact h
  · skip
    refine Z_iload_n dX11_isOf_0 rfl rfl ?_
    refine Z_tab (tgt := 70) dX11_isOf_1 (fun i hx1 hh1 => ?_) (by decide) (fun hx1 => ?_)
    · skip
      have hi1 : i < 6 := by omega
      match i, hi1, hx1 with
      | 0, _, hx1 =>
        refine ⟨_, 40, rfl, by decide, ?_⟩
        refine Z_aload_n dX11_isOf_40 rfl rfl ?_
        refine Z_instN (ci := 9) dX11_isOf_41 wd_460 rfl hz (by decide) ?_
        refine Z_iret dX11_isOf_44 rfl rfl ⟨by decide, by decide⟩ ?_
        have e := hq (i := 0) (by decide) hx1; subst e; exact h
      | 1, _, hx1 =>
        refine ⟨_, 45, rfl, by decide, ?_⟩
        refine Z_aload_n dX11_isOf_45 rfl rfl ?_
        refine Z_instN (ci := 9) dX11_isOf_46 wd_489 rfl hz (by decide) ?_
        refine Z_iret dX11_isOf_49 rfl rfl ⟨by decide, by decide⟩ ?_
        have e := hq (i := 1) (by decide) hx1; subst e; exact h
      | 2, _, hx1 =>
        refine ⟨_, 50, rfl, by decide, ?_⟩
        refine Z_aload_n dX11_isOf_50 rfl rfl ?_
        refine Z_instS (ci := 9) dX11_isOf_51 rfl wd_499 hz ?_
        refine Z_iret dX11_isOf_54 rfl rfl ⟨by decide, by decide⟩ ?_
        have e := hq (i := 2) (by decide) hx1; subst e; exact h
      | 3, _, hx1 =>
        refine ⟨_, 55, rfl, by decide, ?_⟩
        refine Z_aload_n dX11_isOf_55 rfl rfl ?_
        refine Z_instN (ci := 9) dX11_isOf_56 wd_509 rfl hz (by decide) ?_
        refine Z_iret dX11_isOf_59 rfl rfl ⟨by decide, by decide⟩ ?_
        have e := hq (i := 3) (by decide) hx1; subst e; exact h
      | 4, _, hx1 =>
        refine ⟨_, 60, rfl, by decide, ?_⟩
        refine Z_aload_n dX11_isOf_60 rfl rfl ?_
        refine Z_instN (ci := 9) dX11_isOf_61 wd_519 rfl hz (by decide) ?_
        refine Z_iret dX11_isOf_64 rfl rfl ⟨by decide, by decide⟩ ?_
        have e := hq (i := 4) (by decide) hx1; subst e; exact h
      | 5, _, hx1 =>
        refine ⟨_, 65, rfl, by decide, ?_⟩
        refine Z_aload_n dX11_isOf_65 rfl rfl ?_
        refine Z_instN (ci := 9) dX11_isOf_66 wd_529 rfl hz (by decide) ?_
        refine Z_iret dX11_isOf_69 rfl rfl ⟨by decide, by decide⟩ ?_
        have e := hq (i := 5) (by decide) hx1; subst e; exact h
      | k + 6, h, _ => exact absurd h (by omega)
    · skip
      refine Z_iconst (v := 1) dX11_isOf_70 (by decide) ?_
      refine Z_iret dX11_isOf_71 rfl rfl ⟨by decide, by decide⟩ ?_
      have e : k = 0 := by
        rw [nI_toInt (by omega)] at hx1
        omega
      subst e; exact h
  · skip
    refine Z_iload_n dX11_isOf_0 rfl rfl ?_
    refine Z_tab (tgt := 70) dX11_isOf_1 (fun i hx1 hh1 => ?_) (by decide) (fun hx1 => ?_)
    · skip
      have hi1 : i < 6 := by omega
      match i, hi1, hx1 with
      | 0, _, hx1 =>
        refine ⟨_, 40, rfl, by decide, ?_⟩
        refine Z_aload_n dX11_isOf_40 rfl rfl ?_
        refine Z_instY (ci := 6) dX11_isOf_41 wd_460 rfl hz wd_1432 ?_
        refine Z_iret dX11_isOf_44 rfl rfl ⟨by decide, by decide⟩ ?_
        have e := hq (i := 0) (by decide) hx1; subst e; exact h
      | 1, _, hx1 =>
        refine ⟨_, 45, rfl, by decide, ?_⟩
        refine Z_aload_n dX11_isOf_45 rfl rfl ?_
        refine Z_instN (ci := 6) dX11_isOf_46 wd_489 rfl hz (by decide) ?_
        refine Z_iret dX11_isOf_49 rfl rfl ⟨by decide, by decide⟩ ?_
        have e := hq (i := 1) (by decide) hx1; subst e; exact h
      | 2, _, hx1 =>
        refine ⟨_, 50, rfl, by decide, ?_⟩
        refine Z_aload_n dX11_isOf_50 rfl rfl ?_
        refine Z_instN (ci := 6) dX11_isOf_51 wd_499 rfl hz (by decide) ?_
        refine Z_iret dX11_isOf_54 rfl rfl ⟨by decide, by decide⟩ ?_
        have e := hq (i := 2) (by decide) hx1; subst e; exact h
      | 3, _, hx1 =>
        refine ⟨_, 55, rfl, by decide, ?_⟩
        refine Z_aload_n dX11_isOf_55 rfl rfl ?_
        refine Z_instS (ci := 6) dX11_isOf_56 rfl wd_509 hz ?_
        refine Z_iret dX11_isOf_59 rfl rfl ⟨by decide, by decide⟩ ?_
        have e := hq (i := 3) (by decide) hx1; subst e; exact h
      | 4, _, hx1 =>
        refine ⟨_, 60, rfl, by decide, ?_⟩
        refine Z_aload_n dX11_isOf_60 rfl rfl ?_
        refine Z_instN (ci := 6) dX11_isOf_61 wd_519 rfl hz (by decide) ?_
        refine Z_iret dX11_isOf_64 rfl rfl ⟨by decide, by decide⟩ ?_
        have e := hq (i := 4) (by decide) hx1; subst e; exact h
      | 5, _, hx1 =>
        refine ⟨_, 65, rfl, by decide, ?_⟩
        refine Z_aload_n dX11_isOf_65 rfl rfl ?_
        refine Z_instN (ci := 6) dX11_isOf_66 wd_529 rfl hz (by decide) ?_
        refine Z_iret dX11_isOf_69 rfl rfl ⟨by decide, by decide⟩ ?_
        have e := hq (i := 5) (by decide) hx1; subst e; exact h
      | k + 6, h, _ => exact absurd h (by omega)
    · skip
      refine Z_iconst (v := 1) dX11_isOf_70 (by decide) ?_
      refine Z_iret dX11_isOf_71 rfl rfl ⟨by decide, by decide⟩ ?_
      have e : k = 0 := by
        rw [nI_toInt (by omega)] at hx1
        omega
      subst e; exact h
  · skip
    refine Z_iload_n dX11_isOf_0 rfl rfl ?_
    refine Z_tab (tgt := 70) dX11_isOf_1 (fun i hx1 hh1 => ?_) (by decide) (fun hx1 => ?_)
    · skip
      have hi1 : i < 6 := by omega
      match i, hi1, hx1 with
      | 0, _, hx1 =>
        refine ⟨_, 40, rfl, by decide, ?_⟩
        refine Z_aload_n dX11_isOf_40 rfl rfl ?_
        refine Z_instN (ci := 1) dX11_isOf_41 wd_460 rfl hz (by decide) ?_
        refine Z_iret dX11_isOf_44 rfl rfl ⟨by decide, by decide⟩ ?_
        have e := hq (i := 0) (by decide) hx1; subst e; exact h
      | 1, _, hx1 =>
        refine ⟨_, 45, rfl, by decide, ?_⟩
        refine Z_aload_n dX11_isOf_45 rfl rfl ?_
        refine Z_instY (ci := 1) dX11_isOf_46 wd_489 rfl hz wd_1433 ?_
        refine Z_iret dX11_isOf_49 rfl rfl ⟨by decide, by decide⟩ ?_
        have e := hq (i := 1) (by decide) hx1; subst e; exact h
      | 2, _, hx1 =>
        refine ⟨_, 50, rfl, by decide, ?_⟩
        refine Z_aload_n dX11_isOf_50 rfl rfl ?_
        refine Z_instN (ci := 1) dX11_isOf_51 wd_499 rfl hz (by decide) ?_
        refine Z_iret dX11_isOf_54 rfl rfl ⟨by decide, by decide⟩ ?_
        have e := hq (i := 2) (by decide) hx1; subst e; exact h
      | 3, _, hx1 =>
        refine ⟨_, 55, rfl, by decide, ?_⟩
        refine Z_aload_n dX11_isOf_55 rfl rfl ?_
        refine Z_instN (ci := 1) dX11_isOf_56 wd_509 rfl hz (by decide) ?_
        refine Z_iret dX11_isOf_59 rfl rfl ⟨by decide, by decide⟩ ?_
        have e := hq (i := 3) (by decide) hx1; subst e; exact h
      | 4, _, hx1 =>
        refine ⟨_, 60, rfl, by decide, ?_⟩
        refine Z_aload_n dX11_isOf_60 rfl rfl ?_
        refine Z_instS (ci := 1) dX11_isOf_61 rfl wd_519 hz ?_
        refine Z_iret dX11_isOf_64 rfl rfl ⟨by decide, by decide⟩ ?_
        have e := hq (i := 4) (by decide) hx1; subst e; exact h
      | 5, _, hx1 =>
        refine ⟨_, 65, rfl, by decide, ?_⟩
        refine Z_aload_n dX11_isOf_65 rfl rfl ?_
        refine Z_instN (ci := 1) dX11_isOf_66 wd_529 rfl hz (by decide) ?_
        refine Z_iret dX11_isOf_69 rfl rfl ⟨by decide, by decide⟩ ?_
        have e := hq (i := 5) (by decide) hx1; subst e; exact h
      | k + 6, h, _ => exact absurd h (by omega)
    · skip
      refine Z_iconst (v := 1) dX11_isOf_70 (by decide) ?_
      refine Z_iret dX11_isOf_71 rfl rfl ⟨by decide, by decide⟩ ?_
      have e : k = 0 := by
        rw [nI_toInt (by omega)] at hx1
        omega
      subst e; exact h
  · skip
    refine Z_iload_n dX11_isOf_0 rfl rfl ?_
    refine Z_tab (tgt := 70) dX11_isOf_1 (fun i hx1 hh1 => ?_) (by decide) (fun hx1 => ?_)
    · skip
      have hi1 : i < 6 := by omega
      match i, hi1, hx1 with
      | 0, _, hx1 =>
        refine ⟨_, 40, rfl, by decide, ?_⟩
        refine Z_aload_n dX11_isOf_40 rfl rfl ?_
        refine Z_instN (ci := 7) dX11_isOf_41 wd_460 rfl hz (by decide) ?_
        refine Z_iret dX11_isOf_44 rfl rfl ⟨by decide, by decide⟩ ?_
        have e := hq (i := 0) (by decide) hx1; subst e; exact h
      | 1, _, hx1 =>
        refine ⟨_, 45, rfl, by decide, ?_⟩
        refine Z_aload_n dX11_isOf_45 rfl rfl ?_
        refine Z_instN (ci := 7) dX11_isOf_46 wd_489 rfl hz (by decide) ?_
        refine Z_iret dX11_isOf_49 rfl rfl ⟨by decide, by decide⟩ ?_
        have e := hq (i := 1) (by decide) hx1; subst e; exact h
      | 2, _, hx1 =>
        refine ⟨_, 50, rfl, by decide, ?_⟩
        refine Z_aload_n dX11_isOf_50 rfl rfl ?_
        refine Z_instY (ci := 7) dX11_isOf_51 wd_499 rfl hz wd_1434 ?_
        refine Z_iret dX11_isOf_54 rfl rfl ⟨by decide, by decide⟩ ?_
        have e := hq (i := 2) (by decide) hx1; subst e; exact h
      | 3, _, hx1 =>
        refine ⟨_, 55, rfl, by decide, ?_⟩
        refine Z_aload_n dX11_isOf_55 rfl rfl ?_
        refine Z_instN (ci := 7) dX11_isOf_56 wd_509 rfl hz (by decide) ?_
        refine Z_iret dX11_isOf_59 rfl rfl ⟨by decide, by decide⟩ ?_
        have e := hq (i := 3) (by decide) hx1; subst e; exact h
      | 4, _, hx1 =>
        refine ⟨_, 60, rfl, by decide, ?_⟩
        refine Z_aload_n dX11_isOf_60 rfl rfl ?_
        refine Z_instN (ci := 7) dX11_isOf_61 wd_519 rfl hz (by decide) ?_
        refine Z_iret dX11_isOf_64 rfl rfl ⟨by decide, by decide⟩ ?_
        have e := hq (i := 4) (by decide) hx1; subst e; exact h
      | 5, _, hx1 =>
        refine ⟨_, 65, rfl, by decide, ?_⟩
        refine Z_aload_n dX11_isOf_65 rfl rfl ?_
        refine Z_instS (ci := 7) dX11_isOf_66 rfl wd_529 hz ?_
        refine Z_iret dX11_isOf_69 rfl rfl ⟨by decide, by decide⟩ ?_
        have e := hq (i := 5) (by decide) hx1; subst e; exact h
      | k + 6, h, _ => exact absurd h (by omega)
    · skip
      refine Z_iconst (v := 1) dX11_isOf_70 (by decide) ?_
      refine Z_iret dX11_isOf_71 rfl rfl ⟨by decide, by decide⟩ ?_
      have e : k = 0 := by
        rw [nI_toInt (by omega)] at hx1
        omega
      subst e; exact h
theorem k_as {w k : Int32} (hr : CRel Γ A α) (h : post (some (.int (sp_as A w k))) α) : ZK G (d + 2) mX11_as [.ref (G.1 + 0), .int w, .int k] α post := by
  have hw := hr.1
  have l0 : (0 : Int32).toInt = 0 := rfl
  have l6 : (6 : Int32).toInt = 6 := rfl
  have l7 : (7 : Int32).toInt = 7 := rfl
  by_cases hz : 0 ≤ w ∧ w ≤ nI (A.1.1 0) - 1
  · obtain ⟨j, c, hj, hj8, rfl, hp, ho⟩ := hr.wk hz
    refine ZK.of (n := 1) (by decide) (Nat.le_of_ble_eq_true rfl) rfl ?_
    refine Z_aload_n dX11_as_0 rfl rfl ?_
    refine Z_iload_n dX11_as_1 rfl rfl ?_
    refine Z_V1z (ci := 11) dX11_as_2 to_X11_workerAt lk_X11_114 iv_X11_workerAt ⟨rfl, rfl⟩ (cw_i0 hw) (Nat.le_of_ble_eq_true rfl) ⟨rfl, rfl⟩ ⟨by decide, by decide⟩ ?_
    refine k_wAt1 hr hj hp ?_
    refine Z_astore_n (L' := [_, _, _, _]) dX11_as_5 rfl (by decide) rfl rfl ?_
    refine Z_aload_n dX11_as_6 rfl rfl ?_
    refine Z_ifnull dX11_as_7 ?_
    refine Z_iload_n dX11_as_10 rfl rfl ?_
    refine Z_if_lt (tgt := 20) dX11_as_11 (by decide) (fun h11 => ?_) (fun h11 => ?_)
    · skip
      refine Z_iconst (v := -1) dX11_as_20 (by decide) ?_
      refine Z_iret dX11_as_21 rfl rfl ⟨by decide, by decide⟩ ?_
      have e : sp_as A (nI j) k = -1 := if_neg (fun z => by have z1 := z.2; simp only [Int32.lt_iff_toInt_lt, Int32.le_iff_toInt_le] at *; omega)
      rw [e] at h; exact h
    · skip
      refine Z_iload_n dX11_as_14 rfl rfl ?_
      refine Z_bipush (v := 7) dX11_as_15 (by decide) ?_
      refine Z_icmp_lt (tgt := 22) dX11_as_17 (by decide) (fun h17 => ?_) (fun h17 => ?_)
      · skip
        have z : 0 ≤ k ∧ k ≤ 6 := by simp only [Int32.lt_iff_toInt_lt, Int32.le_iff_toInt_le] at *; omega
        obtain ⟨q, hq, rfl⟩ := arg_nI (n := 6) rfl rfl z
        have e : sp_as A (nI j) (nI q) = if aUnder (A.1.1 (112 + j)) q then nI (A.1.1 (120 + j)) else -6 := by
          unfold sp_as
          rw [if_pos ⟨hz, z⟩, nI_clamp (by omega), nI_clamp (by omega)]
        rw [e] at h
        refine Z_aload_n dX11_as_22 rfl rfl ?_
        refine Z_iload_n dX11_as_23 rfl rfl ?_
        refine Z_S2z dX11_as_24 to_X11_isOf lk_X11_239 sc_X11_isOf (Nat.le_of_ble_eq_true rfl) ⟨rfl, rfl⟩ ⟨by decide, by decide⟩ ?_
        refine k_isOf ho (by omega) ?_
        refine Z_if_eq (tgt := 37) dX11_as_27 (by decide) (fun h27 => ?_) (fun h27 => ?_)
        · skip
          refine Z_bipush (v := -6) dX11_as_37 (by decide) ?_
          refine Z_iret dX11_as_39 rfl rfl ⟨by decide, by decide⟩ ?_
          first
            | (have z := b2i_ne.mp h27
               rw [if_pos z] at h; exact h)
            | (have z := b2i_eq.mp h27
               rw [if_neg (by rw [z]; decide)] at h; exact h)
        · skip
          refine Z_aload_n dX11_as_30 rfl rfl ?_
          refine Z_wget dX11_as_31 fw_X11_137 (by decide) ho ?_
          rw [ho.2.2.2.2.2.1]
          refine Z_goto (tgt := 39) dX11_as_34 (by decide) ?_
          refine Z_iret dX11_as_39 rfl rfl ⟨by decide, by decide⟩ ?_
          first
            | (have z := b2i_ne.mp h27
               rw [if_pos z] at h; exact h)
            | (have z := b2i_eq.mp h27
               rw [if_neg (by rw [z]; decide)] at h; exact h)
      · skip
        refine Z_iconst (v := -1) dX11_as_20 (by decide) ?_
        refine Z_iret dX11_as_21 rfl rfl ⟨by decide, by decide⟩ ?_
        have e : sp_as A (nI j) k = -1 := if_neg (fun z => by have z1 := z.2; simp only [Int32.lt_iff_toInt_lt, Int32.le_iff_toInt_le] at *; omega)
        rw [e] at h; exact h
  · have e : sp_as A w k = -1 := if_neg (fun z => hz z.1)
    rw [e] at h
    refine ZK.of (n := 1) (by decide) (Nat.le_of_ble_eq_true rfl) rfl ?_
    refine Z_aload_n dX11_as_0 rfl rfl ?_
    refine Z_iload_n dX11_as_1 rfl rfl ?_
    refine Z_V1z (ci := 11) dX11_as_2 to_X11_workerAt lk_X11_114 iv_X11_workerAt ⟨rfl, rfl⟩ (cw_i0 hw) (Nat.le_of_ble_eq_true rfl) ⟨rfl, rfl⟩ ⟨by decide, by decide⟩ ?_
    refine k_wAt0 hr hz ?_
    refine Z_astore_nN (L' := [_, _, _, _]) dX11_as_5 rfl (by decide) rfl rfl ?_
    refine Z_aload_nN dX11_as_6 rfl rfl ?_
    refine Z_ifnullN (tgt := 20) dX11_as_7 (by decide) ?_
    refine Z_iconst (v := -1) dX11_as_20 (by decide) ?_
    refine Z_iret dX11_as_21 rfl rfl ⟨by decide, by decide⟩ ?_
    exact h
/-- the season now is written, its references too -/
def frN (α β : AH) : Prop := hN β = hN α ∧ hS β = hS α ∧ (∀ k, ¬ (5 ≤ k ∧ k ≤ 10) → hI β k = hI α k ∧ hJ β k = hJ α k ∧ hP β k = hP α k) ∧ ∀ k j, (k = 5 → j ≠ 6) → k ≠ 9 → hP β k j = hP α k j
theorem frN.c (h : frN α β) : frC α β := ⟨Nat.le_of_eq h.1.symm, fun k _ hz => by
  obtain ⟨h1, h2, h3⟩ := h.2.2.1 k (fun q => by unfold mId fz at hz; omega)
  exact ⟨by rw [h.2.1], h1, h2, h3⟩⟩
theorem CRel.nowP {S : ZS} {Γ' : Nat → VC} (h : CRel Γ A α) (hΓ : ∀ k, k < hN α → Γ' k = Γ k) (hf : frN α β) (hb : SB S.1) (hs : cSea β Γ' 5 S) : CRel Γ' (S, A.2) β := by
  obtain ⟨k1, k2, k3, k4, k5, k6, k7, k8⟩ := h
  have hz := hf.c.z
  have hr : ∀ k, ¬ (5 ≤ k ∧ k ≤ 10) → hI β k = hI α k ∧ hP β k = hP α k := fun k hk => ⟨(hf.2.2.1 k hk).1, (hf.2.2.1 k hk).2.2⟩
  have cw : CW β := by
    refine ⟨fun q hq => ⟨by rw [hf.1]; exact (k1.1 q hq).1, by rw [hf.2.1]; exact (k1.1 q hq).2⟩, fun q hq => ?_⟩
    have : ∀ q ∈ zCp, (q.1 = 5 → q.2.1 ≠ 6) ∧ q.1 ≠ 9 := by decide
    rw [hf.2.2.2 q.1 q.2.1 (this q hq).1 (this q hq).2]
    exact k1.2 q hq
  have sg : ∀ {a : Nat} {S : ZS}, cSea α Γ a S → cSea α Γ' a S := fun {a S} q => by
    obtain ⟨q1, q2, ⟨v, q3, q4, q5⟩, q6⟩ := q
    exact ⟨q1, q2, ⟨v, q3, by rw [hΓ v q4.lt]; exact q4, by rw [hΓ v q4.lt]; exact q5⟩, q6⟩
  have mg : ∀ {a : Nat}, cMem α Γ a → cMem α Γ' a := fun {a} q => by
    obtain ⟨v, q1, q2, q3⟩ := q
    exact ⟨v, q1, by rw [hΓ v q2.lt]; exact q2, by rw [hΓ v q2.lt]; exact q3⟩
  have ig : cImg α Γ' A := by
    unfold cImg at k5 ⊢
    split
    · rename_i e; rw [e] at k5; exact k5
    · rename_i q e; rw [e] at k5; exact ⟨k5.1, k5.2.1, sg k5.2.2⟩
  refine ⟨cw, by rw [hf.1]; exact k2, hb, hs, (ig.fr hz (fun k p q => hr k (by omega)) (by rw [(hr 0 (by omega)).1])).to rfl, ?_, (mg k7).fr hz (fun k p => (hr k (by omega)).1) (hr 23 (by omega)).2, (mg k8).fr hz (fun k p => (hr k (by omega)).1) (hr 28 (by omega)).2⟩
  show cTr β A.2.2.1
  unfold cTr
  rw [(hr 33 (by omega)).1]
  exact k6
end CN1
