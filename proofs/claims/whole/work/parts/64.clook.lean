section CL1
variable {G : ZG} {d : Nat} {α β : AH} {post : Option Value → AH → Prop} {Γ : Nat → VC} {A : ZA} {a T q s c row kd : Nat} {b t num v : Int32} {M : ZM} {pc idx : Nat} {L : List (Option Value)} {st : List Value} {u : Nat × Nat}
theorem Z_does (hd : decode (mC M) pc = .ok (.invokevirtual idx, 3)) (lk : Cond.methodLink (mY M).cls idx yX10_does ∈ zT) (ho : wObj α c kd num v row) (hw : cLk Γ A a T b t α) (hc : cAt a α q) (hq : q < 5832) (hs : s < 3) (h15 : zla q < 15) (hT : zla q + 1 ≤ T) (hst : (st.map fun v => v.category).sum ≤ 8) (hu : u.1 ≤ mK M ∧ u.2 ≤ mS M) (h : ∀ β, cLk Γ A a T b t β → cAt a β q → frI (Fk a) α β → Z G M (d + 54) (pc + 3) L (.int (nI (zdoC (zbc b t (zcn A.1 T)) (sp_pay A.1.1) kd v (row / 4 ^ s % 4) q s)) :: st) β u post) : Z G M (d + 54) pc L (.int (nI (cgs q)) :: .int (nI s) :: .ref (G.1 + a) :: .ref (G.1 + c) :: st) α u post := by
  obtain ⟨hfz, hk6, hz, -, -, hv, hr, hr6⟩ := ho
  have hk : kd = 0 ∨ kd = 1 ∨ kd = 2 ∨ kd = 3 ∨ kd = 4 ∨ kd = 5 ∨ kd = 6 := by omega
  rcases hk with rfl | rfl | rfl | rfl | rfl | rfl | rfl
  · exact Z_U3z (ci := 10) hd to_X10_does lk wd_588 ⟨wd_586, wd_696⟩ ⟨by decide, by decide, rfl⟩ rfl wd_587 im_X10_does hz hst ⟨rfl, rfl⟩ hu (k_does10 (h α hw hc frI.rf))
  · exact Z_U3z (ci := 3) hd to_X3_does lk wd_588 ⟨wd_586, wd_696⟩ ⟨by decide, by decide, rfl⟩ rfl wd_668 im_X3_does hz hst ⟨rfl, rfl⟩ hu (k_does3 hw hc hq hs h15 hT h)
  · exact Z_U3z (ci := 2) hd to_X2_does lk wd_588 ⟨wd_586, wd_696⟩ ⟨by decide, by decide, rfl⟩ rfl wd_659 im_X2_does hz hst ⟨rfl, rfl⟩ hu (k_does2 hw hc hq hs h15 hT h)
  · exact Z_U3z (ci := 9) hd to_X9_does lk wd_588 ⟨wd_586, wd_696⟩ ⟨by decide, by decide, rfl⟩ rfl wd_695 im_X9_does hz hst ⟨rfl, rfl⟩ hu (k_does9 hz hv hw hc hq hs h15 hT h)
  · exact Z_U3z (ci := 6) hd to_X6_does lk wd_588 ⟨wd_586, wd_696⟩ ⟨by decide, by decide, rfl⟩ rfl wd_677 im_X6_does hz hst ⟨rfl, rfl⟩ hu (k_does6 hz hfz hw hc hq hs h15 hT h)
  · exact Z_U3z (ci := 1) hd to_X1_does lk wd_588 ⟨wd_586, wd_696⟩ ⟨by decide, by decide, rfl⟩ rfl wd_589 im_X1_does hz hst ⟨rfl, rfl⟩ hu (k_does1 hw hc hq hs h15 hT h)
  · exact Z_U3z (ci := 7) hd to_X7_does lk wd_588 ⟨wd_586, wd_696⟩ ⟨by decide, by decide, rfl⟩ rfl wd_683 im_X7_does hz hst ⟨rfl, rfl⟩ hu (k_does7 hz hfz hv (hr rfl) hr6 hw hc hq hs h15 hT h)
def frX (a : Nat) (α β : AH) : Prop := hN β = hN α ∧ hS β = hS α ∧ (∀ k, ¬ Fk a k → hI β k = hI α k ∧ hJ β k = hJ α k ∧ hP β k = hP α k) ∧ ∀ k j, k ≠ a ∨ j ≠ 3 → hP β k j = hP α k j
theorem frX.fc (ha : a = 23 ∨ a = 28) (h : frX a α β) : frC α β := ⟨Nat.le_of_eq h.1.symm, fun k _ hz => by
  obtain ⟨h1, h2, h3⟩ := h.2.2.1 k (fun q => by unfold Fk at q; unfold mId fz at hz; omega)
  exact ⟨by rw [h.2.1], h1, h2, h3⟩⟩
theorem CRel.lookX (ha : a = 23 ∨ a = 28) (h : CRel Γ A α) (hf : frX a α β) (hm : cMem β Γ a) : CRel Γ A β := by
  have hz := (hf.fc ha).z
  obtain ⟨k1, k2, k3, k4, k5, k6, k7, k8⟩ := h
  have hs : ∀ k, ¬ Fk a k → hI β k = hI α k ∧ hP β k = hP α k := fun k hk => ⟨(hf.2.2.1 k hk).1, (hf.2.2.1 k hk).2.2⟩
  have cw : CW β := by
    refine ⟨fun q hq => ⟨by rw [hf.1]; exact (k1.1 q hq).1, by rw [hf.2.1]; exact (k1.1 q hq).2⟩, fun q hq => ?_⟩
    have : ∀ q ∈ zCp, q.2.1 ≠ 3 ∨ (q.1 ≠ 23 ∧ q.1 ≠ 28) := by decide
    rw [hf.2.2.2 q.1 q.2.1 (by have := this q hq; omega)]
    exact k1.2 q hq
  have c33 : cTr β A.2.2.1 := by
    unfold cTr
    rw [(hs 33 (by unfold Fk; omega)).1]
    exact k6
  have sea := k4.fr (β := β) hz (fun k _ q => hs k (by unfold Fk; omega))
  have img := k5.fr (β := β) hz (fun k _ q => hs k (by unfold Fk; omega)) (by rw [(hs 0 (by unfold Fk; omega)).1])
  rcases ha with rfl | rfl
  · refine ⟨cw, by rw [hf.1]; exact k2, k3, sea, img, c33, hm, k8.fr2 hz ?_ ?_ ?_ ?_ ?_ (hs 28 (by unfold Fk; omega)).2⟩ <;> rw [(hs _ (by unfold Fk; omega)).1]
  · refine ⟨cw, by rw [hf.1]; exact k2, k3, sea, img, c33, k7.fr2 hz ?_ ?_ ?_ ?_ ?_ (hs 23 (by unfold Fk; omega)).2, hm⟩ <;> rw [(hs _ (by unfold Fk; omega)).1]
theorem cA.p3 {x : Option Nat} (h : cA a α) : cA a (sP α a 3 x) := by
  obtain ⟨h1, h2, h3, h4, h5, h6, h7⟩ := h
  have e : ∀ j, j ≠ 3 → hP (sP α a 3 x) a j = hP α a j := fun j hj => by rw [hP_sP, if_neg (fun z => hj z.2)]
  exact ⟨h1, (e 0 (by decide)).trans h2, (e 6 (by decide)).trans h3, (e 7 (by decide)).trans h4, (e 8 (by decide)).trans h5, (e 9 (by decide)).trans h6, h7⟩
/-- the left row while look writes it -/
def lrow (f : Nat → Int32) (σ : Nat → Nat) (i : Nat) : Nat → Int32 := fun j => if j < i then nI (σ (6 + j)) else f j
theorem lrow_s {f : Nat → Int32} {σ : Nat → Nat} {i : Nat} : u1 (lrow f σ i) i (nI (σ (6 + i))) = lrow f σ (i + 1) := by
  funext j
  unfold u1 lrow
  by_cases e : j = i
  · rw [if_pos e, if_pos (by omega), e]
  · rw [if_neg e]
    by_cases h : j < i
    · rw [if_pos h, if_pos (by omega)]
    · rw [if_neg h, if_neg (by omega)]
theorem zq_zl {σ : Nat → Nat} (h6 : σ 6 ≤ 5) (h7 : σ 7 ≤ 5) (h8 : σ 8 ≤ 5) (h9 : σ 9 ≤ 2) (h10 : σ 10 ≤ 2) (h11 : σ 11 ≤ 2) : zl (zq σ) 0 = σ 6 ∧ zl (zq σ) 1 = σ 7 ∧ zl (zq σ) 2 = σ 8 := by
  refine ⟨?_, ?_, ?_⟩
  · simp [zl, zq]; omega
  · simp [zl, zq]; omega
  · simp [zl, zq]; omega
theorem k_look {τ : Nat → Nat} {more : Int32} (ha0 : a = 23 ∨ a = 28) (hr : CRel Γ A α) (hσ : ∀ j, j < 3 → τ (6 + j) = A.1.1 (6 + j) + (if nI j = more then 1 else 0)) (hσ5 : ∀ j, j < 3 → τ (6 + j) ≤ 5) (hσg : ∀ j, j < 3 → τ (9 + j) = A.1.1 (9 + j)) (hb : (b = -1 ∧ t = 0) ∨ ∃ x, x < 3 ∧ b = nI x ∧ t = nI (τ (6 + x)) - 1)
    (h : ∀ β, cLk Γ A a (A.1.1 5 + zrest τ) b t β → cAt a β (zq τ) → frX a α β → post none β) : ZK G (d + 2) mX0_look [.ref (G.1 + a), .ref (G.1 + 5), .int more, .int b] α post := by
  have ha := cA.of hr.1 ha0
  have hcw := hr.1
  have sea := hr.2.2.2.1
  have s6 : τ 6 ≤ 5 := hσ5 0 (by omega)
  have s7 : τ 7 ≤ 5 := hσ5 1 (by omega)
  have s8 : τ 8 ≤ 5 := hσ5 2 (by omega)
  have b5 : A.1.1 5 ≤ 99 := hr.2.2.1.at (by omega) rfl
  obtain ⟨v, hp5, hvo, hvm⟩ := sea.2.2.1
  have hzr : τ 6 + τ 7 + τ 8 = zrest τ := rfl
  have g9 : ∀ j, j < 3 → τ (9 + j) ≤ 2 := fun j hj => by rw [hσg j hj]; exact hr.2.2.1.at (by omega) (zbd_stage hj)
  have p9 : τ 9 ≤ 2 := g9 0 (by omega)
  have p10 : τ 10 ≤ 2 := g9 1 (by omega)
  have p11 : τ 11 ≤ 2 := g9 2 (by omega)
  obtain ⟨zl0, zl1, zl2⟩ := zq_zl s6 s7 s8 p9 p10 p11
  have zlaS : zla (zq τ) = zrest τ := by unfold zla zrest; rw [zl0, zl1, zl2]
  have zlj : ∀ j, j < 3 → zl (zq τ) j = τ (6 + j) := fun j hj => by
    rcases s3 hj with rfl | rfl | rfl
    · exact zl0
    · exact zl1
    · exact zl2
  -- what look has written when it comes to compare
  have fin : ∀ (x4 x5 : Int32), x4 = nI (A.1.1 5 + zrest τ) → x5 = t → Z G mX0_look (d + 2) 86 [some (.ref (G.1 + a)), some (.ref (G.1 + 5)), some (.int more), some (.int b), some (.int x4), some (.int x5)] [] (sI (sIr α (a + 1) (lrow (hI α (a + 1)) τ 3)) a 1 (nI (zrest τ))) (0, 0) post := by
    intro x4 x5 e4 e5
    subst e4 e5
    have hH1 : frX a α (sI (sIr α (a + 1) (lrow (hI α (a + 1)) τ 3)) a 1 (nI (zrest τ))) := ⟨rfl, rfl, fun k hk => ⟨(sI_ne (by unfold Fk at hk; omega)).trans (u1_n (by unfold Fk at hk; omega)), rfl, rfl⟩, fun k j _ => rfl⟩
    have rw1 : ∀ j, j ≠ 1 → hI (sI (sIr α (a + 1) (lrow (hI α (a + 1)) τ 3)) a 1 (nI (zrest τ))) a j = hI α a j := fun j hj => by rw [hI_sI, if_neg (fun z => hj z.2), hI_sIr, if_neg (by omega)]
    have rwo : hI (sI (sIr α (a + 1) (lrow (hI α (a + 1)) τ 3)) a 1 (nI (zrest τ))) (a + 2) = hI α (a + 2) := (sI_ne (by omega)).trans (u1_n (by omega))
    have rwb : hI (sI (sIr α (a + 1) (lrow (hI α (a + 1)) τ 3)) a 1 (nI (zrest τ))) (a + 4) = hI α (a + 4) := (sI_ne (by omega)).trans (u1_n (by omega))
    have left : ∀ j, j < 3 → hI (sI (sIr α (a + 1) (lrow (hI α (a + 1)) τ 3)) a 1 (nI (zrest τ))) (a + 1) j = nI (τ (6 + j)) := fun j hj => by rw [hI_sI, if_neg (by omega), hI_sIr, if_pos rfl]; exact if_pos hj
    have at1 : hI (sI (sIr α (a + 1) (lrow (hI α (a + 1)) τ 3)) a 1 (nI (zrest τ))) a 1 = nI (zrest τ) := by rw [hI_sI, if_pos ⟨rfl, rfl⟩]
    have hmem : cMem α Γ a := by
      rcases ha0 with rfl | rfl
      · exact hr.2.2.2.2.2.2.1
      · exact hr.2.2.2.2.2.2.2
    obtain ⟨w, hp3, hwo, hmm⟩ := hmem
    -- reset
    have rst : Z G mX0_look (d + 2) 124 [some (.ref (G.1 + a)), some (.ref (G.1 + 5)), some (.int more), some (.int b), some (.int (nI (A.1.1 5 + zrest τ))), some (.int x5)] [] (sI (sIr α (a + 1) (lrow (hI α (a + 1)) τ 3)) a 1 (nI (zrest τ))) (0, 0) post := by
      have ha1 : cA a (sP (sI (sIr α (a + 1) (lrow (hI α (a + 1)) τ 3)) a 1 (nI (zrest τ))) a 3 (some v)) := cA.p3 (α := sI (sIr α (a + 1) (lrow (hI α (a + 1)) τ 3)) a 1 (nI (zrest τ))) ha
      have rfin : ∀ K : AH, K = sIr (sIr (sI (sI (sI (sP (sI (sIr α (a + 1) (lrow (hI α (a + 1)) τ 3)) a 1 (nI (zrest τ))) a 3 (some v)) a 2 (nI (A.1.1 5 + zrest τ))) a 4 b) a 5 x5) (a + 2) (zfl (hI (sI (sI (sI (sP (sI (sIr α (a + 1) (lrow (hI α (a + 1)) τ 3)) a 1 (nI (zrest τ))) a 3 (some v)) a 2 (nI (A.1.1 5 + zrest τ))) a 4 b) a 5 x5) (a + 2)) (-1) 270)) (a + 4) (zfl (hI (sIr (sI (sI (sI (sP (sI (sIr α (a + 1) (lrow (hI α (a + 1)) τ 3)) a 1 (nI (zrest τ))) a 3 (some v)) a 2 (nI (A.1.1 5 + zrest τ))) a 4 b) a 5 x5) (a + 2) (zfl (hI (sI (sI (sI (sP (sI (sIr α (a + 1) (lrow (hI α (a + 1)) τ 3)) a 1 (nI (zrest τ))) a 3 (some v)) a 2 (nI (A.1.1 5 + zrest τ))) a 4 b) a 5 x5) (a + 2)) (-1) 270)) (a + 4)) (-1) 5832) → post none K := by
        intro K hK
        generalize hH : sI (sIr α (a + 1) (lrow (hI α (a + 1)) τ 3)) a 1 (nI (zrest τ)) = H at *
        generalize hg1 : zfl (hI (sI (sI (sI (sP H a 3 (some v)) a 2 (nI (A.1.1 5 + zrest τ))) a 4 b) a 5 x5) (a + 2)) (-1) 270 = g1 at hK
        generalize hg2 : zfl _ (-1) 5832 = g2 at hK
        have r1 : ∀ i, i < 270 → g1 i = -1 := fun i hi => by rw [← hg1]; exact if_pos hi
        have r2 : ∀ i, i < 5832 → g2 i = -1 := fun i hi => by rw [← hg2]; exact if_pos hi
        have kI : ∀ k, ¬ Fk a k → hI K k = hI H k := fun k hk => by
          rw [hK]
          exact (u1_n (by unfold Fk at hk; omega)).trans ((u1_n (by unfold Fk at hk; omega)).trans ((sI_ne (by unfold Fk at hk; omega)).trans ((sI_ne (by unfold Fk at hk; omega)).trans (sI_ne (by unfold Fk at hk; omega)))))
        have kP : ∀ k j, k ≠ a ∨ j ≠ 3 → hP K k j = hP H k j := fun k j hkj => by
          rw [hK]
          show hP (sP H a 3 (some v)) k j = _
          rw [hP_sP, if_neg (by omega)]
        have kP3 : hP K a 3 = some v := by
          rw [hK]
          show hP (sP H a 3 (some v)) a 3 = _
          rw [hP_sP, if_pos ⟨rfl, rfl⟩]
        have ka : ∀ j, hI K a j = if j = 5 then x5 else if j = 4 then b else if j = 2 then nI (A.1.1 5 + zrest τ) else hI H a j := fun j => by
          rw [hK, hI_sIr, if_neg (by omega), hI_sIr, if_neg (by omega), hI_sI, hI_sI, hI_sI]
          by_cases e5 : j = 5
          · simp [e5]
          · by_cases e4 : j = 4
            · simp [e4]
            · by_cases e2 : j = 2
              · simp [e2]
              · simp [e5, e4, e2]; rfl
        have k2 : hI K a 2 = nI (A.1.1 5 + zrest τ) := ka 2
        have k4 : hI K a 4 = b := ka 4
        have k5 : hI K a 5 = x5 := ka 5
        have ko : hI K (a + 2) = g1 := by rw [hK]; exact (u1_n (by omega)).trans (u1_s _ _ _)
        have kb : hI K (a + 4) = g2 := by rw [hK]; exact u1_s _ _ _
        have kl : hI K (a + 1) = hI H (a + 1) := by
          rw [hK]
          exact (u1_n (by omega)).trans ((u1_n (by omega)).trans ((sI_ne (by omega)).trans ((sI_ne (by omega)).trans (sI_ne (by omega)))))
        have hX : frX a α K := by
          refine ⟨by rw [hK]; exact hH1.1, by rw [hK]; exact hH1.2.1, fun k hk => ⟨(kI k hk).trans (hH1.2.2.1 k hk).1, by rw [hK]; exact (hH1.2.2.1 k hk).2.1, ?_⟩, fun k j hkj => (kP k j hkj).trans (hH1.2.2.2 k j hkj)⟩
          funext j
          rw [kP k j (Or.inl (fun z => hk (by unfold Fk; omega))), (hH1.2.2.1 k hk).2.2]
        have hz := (hX.fc ha0).z
        have hm : cMem K Γ a := ⟨v, kP3, hvo.fr hz, Or.inr ⟨_, by omega, k2, fun l s r hl hs hr => by rw [ko]; exact Or.inl (r1 _ (by omega)), fun q hq => by rw [kb]; exact Or.inl (r2 _ (cq_lt hq))⟩⟩
        refine h K ⟨hr.lookX ha0 hX hm, ha0, by omega, ⟨v, kP3, ?_⟩, k2, k4, k5⟩ ⟨fun j hj => ?_, ?_⟩ hX
        · rw [kP 5 6 (Or.inl (by omega)), hH1.2.2.2 5 6 (Or.inl (by omega))]; exact hp5
        · rw [kl, left j hj, zlj j hj]
        · rw [ka 1, zlaS]; exact at1
      refine Z_aload_n dX0_look_124 rfl rfl ?_
      refine Z_aload_n dX0_look_125 rfl rfl ?_
      refine Z_getP dX0_look_126 cl_5 fl_X0_52_5 rfl (cw_i5 hcw) hp5 ?_
      refine Z_putP dX0_look_129 cl_0 fl_X0_31_0 (Or.inl fn_0_3) rfl ha.1 rfl rfl ?_
      have ha := ha1
      refine Z_aload_n dX0_look_132 rfl rfl ?_
      refine Z_iload dX0_look_133 rfl ?_
      refine Z_putI dX0_look_135 cl_0 fl_X0_15_0 (Or.inl fn_0_2) rfl ha.1 rfl rfl ?_
      refine Z_aload_n dX0_look_138 rfl rfl ?_
      refine Z_iload_n dX0_look_139 rfl rfl ?_
      refine Z_putI dX0_look_140 cl_0 fl_X0_19_0 (Or.inl fn_0_4) rfl ha.1 rfl rfl ?_
      refine Z_aload_n dX0_look_143 rfl rfl ?_
      refine Z_iload dX0_look_144 rfl ?_
      refine Z_putI dX0_look_146 cl_0 fl_X0_55_0 (Or.inl fn_0_5) rfl ha.1 rfl rfl ?_
      refine Z_aload_n dX0_look_149 rfl rfl ?_
      refine Z_getR dX0_look_150 cl_0 fl_X0_22_0 rfl ha.1 ha.2.2.1 ?_
      refine Z_iconst (v := -1) dX0_look_153 (by decide) ?_
      refine Z_S2z dX0_look_154 to_J7_fill_53178 lk_X0_58 sc_J7_fill_53178 (Nat.le_of_ble_eq_true rfl) ⟨rfl, rfl⟩ ⟨by decide, by decide⟩ ?_
      refine c_jfill ha.2.2.2.2.2.2.2.1 (by decide) ?_
      refine Z_aload_n dX0_look_157 rfl rfl ?_
      refine Z_getR dX0_look_158 cl_0 fl_X0_28_0 rfl ha.1 ha.2.2.2.2.1 ?_
      refine Z_iconst (v := -1) dX0_look_161 (by decide) ?_
      refine Z_S2z dX0_look_162 to_J7_fill_53178 lk_X0_58 sc_J7_fill_53178 (Nat.le_of_ble_eq_true rfl) ⟨rfl, rfl⟩ ⟨by decide, by decide⟩ ?_
      refine c_jfill ha.2.2.2.2.2.2.2.2.2.1 (by decide) ?_
      refine Z_vret dX0_look_165 rfl ⟨by decide, by decide⟩ ?_
      exact rfin _ rfl
    refine Z_aload_n dX0_look_86 rfl rfl ?_
    refine Z_getP dX0_look_87 cl_5 fl_X0_52_5 rfl (cw_i5 hcw) hp5 ?_
    refine Z_aload_n dX0_look_90 rfl rfl ?_
    refine Z_getP dX0_look_91 cl_0 fl_X0_31_0 rfl ha.1 hp3 ?_
    refine Z_acmp_ne (tgt := 124) dX0_look_94 (by decide) (fun h94 => ?_) (fun h94 => ?_)
    · skip
      exact rst
    · skip
      refine Z_iload dX0_look_97 rfl ?_
      refine Z_aload_n dX0_look_99 rfl rfl ?_
      refine Z_getIv dX0_look_100 cl_0 fl_X0_15_0 rfl ha.1 (rw1 2 (by decide)) ?_
      refine Z_icmp_ne (tgt := 124) dX0_look_103 (by decide) (fun h103 => ?_) (fun h103 => ?_)
      · skip
        exact rst
      · skip
        refine Z_iload_n dX0_look_106 rfl rfl ?_
        refine Z_aload_n dX0_look_107 rfl rfl ?_
        refine Z_getIv dX0_look_108 cl_0 fl_X0_19_0 rfl ha.1 (rw1 4 (by decide)) ?_
        refine Z_icmp_ne (tgt := 124) dX0_look_111 (by decide) (fun h111 => ?_) (fun h111 => ?_)
        · skip
          exact rst
        · skip
          refine Z_iload dX0_look_114 rfl ?_
          refine Z_aload_n dX0_look_116 rfl rfl ?_
          refine Z_getIv dX0_look_117 cl_0 fl_X0_55_0 rfl ha.1 (rw1 5 (by decide)) ?_
          refine Z_icmp_ne (tgt := 124) dX0_look_120 (by decide) (fun h120 => ?_) (fun h120 => ?_)
          · skip
            exact rst
          · skip
            refine Z_vret dX0_look_123 rfl ⟨by decide, by decide⟩ ?_
            cases h94
            have hf : frI (Fo a) α (sI (sIr α (a + 1) (lrow (hI α (a + 1)) τ 3)) a 1 (nI (zrest τ))) := (frI.sIr (Or.inr (by omega))).tr (frI.sI (Or.inr (by omega)))
            have hm : cMem (sI (sIr α (a + 1) (lrow (hI α (a + 1)) τ 3)) a 1 (nI (zrest τ))) Γ a := cMem.fr2 ⟨v, hp3, hwo, hmm⟩ (hf.fo ha0).z (rw1 2 (by decide)) (rw1 4 (by decide)) (rw1 5 (by decide)) rwo rwb rfl
            refine h _ ⟨hr.step ha0 hf hm, ha0, by omega, ⟨v, hp3, hp5⟩, (rw1 2 (by decide)).trans h103.symm, (rw1 4 (by decide)).trans h111.symm, (rw1 5 (by decide)).trans h120.symm⟩ ⟨fun j hj => ?_, ?_⟩ hH1
            · rw [left j hj, zlj j hj]
            · rw [at1, zlaS]
  have lp : ∀ (j i : Nat) (x5 : Option Value), i + j = 3 → Z G mX0_look (d + 2) 3 [some (.ref (G.1 + a)), some (.ref (G.1 + 5)), some (.int more), some (.int b), some (.int (nI i)), x5] [] (sIr α (a + 1) (lrow (hI α (a + 1)) τ i)) (0, 0) post := by
    intro j
    induction j with
    | zero =>
      intro i x5 hi
      have hi : i = 3 := by omega
      subst hi
      have l0 : ∀ j, j < 3 → hI (sIr α (a + 1) (lrow (hI α (a + 1)) τ 3)) (a + 1) j = nI (τ (6 + j)) := fun j hj => by rw [hI_sIr, if_pos rfl]; exact if_pos hj
      have g53 : hI (sI (sIr α (a + 1) (lrow (hI α (a + 1)) τ 3)) a 1 (nI (zrest τ))) 5 2 = nI (A.1.1 5) := by rw [hI_sI, if_neg (by omega), hI_sIr, if_neg (by omega)]; exact sea.2.1.1
      have g57 : hI (sI (sIr α (a + 1) (lrow (hI α (a + 1)) τ 3)) a 1 (nI (zrest τ))) a 1 = nI (zrest τ) := by rw [hI_sI, if_pos ⟨rfl, rfl⟩]
      rcases hb with ⟨hb1, hb2⟩ | ⟨x, hx3, hb1, hb2⟩
      · rw [hb1] at fin ⊢
        refine Z_iload dX0_look_3 rfl ?_
        refine Z_iconst (v := 3) dX0_look_5 (by decide) ?_
        refine Z_icmp_ge (tgt := 41) dX0_look_6 (by decide) (fun h6 => ?_) (fun h6 => ?_)
        · skip
          refine Z_aload_n dX0_look_41 rfl rfl ?_
          refine Z_aload_n dX0_look_42 rfl rfl ?_
          refine Z_getR dX0_look_43 cl_0 fl_X0_9_0 rfl ha.1 ha.2.1 ?_
          refine Z_S1z dX0_look_46 to_X11_restOf lk_X0_43 sc_X11_restOf (Nat.le_of_ble_eq_true rfl) ⟨rfl, rfl⟩ ⟨by decide, by decide⟩ ?_
          refine k_restOf ha.2.2.2.2.2.2.1 (by decide) (l0 0 (by omega)) (l0 1 (by omega)) (l0 2 (by omega)) ?_
          rw [hzr]
          refine Z_putI dX0_look_49 cl_0 fl_X0_47_0 (Or.inl fn_0_1) rfl ha.1 rfl rfl ?_
          refine Z_aload_n dX0_look_52 rfl rfl ?_
          refine Z_getIv dX0_look_53 cl_5 fl_X0_50_5 rfl (cw_i5 hcw) g53 ?_
          refine Z_aload_n dX0_look_56 rfl rfl ?_
          refine Z_getIv dX0_look_57 cl_0 fl_X0_47_0 rfl ha.1 g57 ?_
          refine Z_iadd dX0_look_60 ?_
          rw [nI_add]
          refine Z_istore (L' := [_, _, _, _, _, _]) dX0_look_61 (by decide) rfl rfl ?_
          refine Z_iload_n dX0_look_63 rfl rfl ?_
          refine Z_if_lt (tgt := 83) dX0_look_64 (by decide) (fun h64 => ?_) (fun h64 => ?_)
          · skip
            refine Z_iconst (v := 0) dX0_look_83 (by decide) ?_
            refine Z_istore (L' := [_, _, _, _, _, _]) dX0_look_84 (by decide) rfl rfl ?_
            exact fin _ _ rfl hb2.symm
          · skip
            exact absurd (by decide) h64
        · skip
          exact absurd (by decide) h6
      · have g77 : hI (sI (sIr α (a + 1) (lrow (hI α (a + 1)) τ 3)) a 1 (nI (zrest τ))) (a + 1) x = nI (τ (6 + x)) := by rw [hI_sI, if_neg (by omega)]; exact l0 x hx3
        rw [hb1] at fin ⊢
        refine Z_iload dX0_look_3 rfl ?_
        refine Z_iconst (v := 3) dX0_look_5 (by decide) ?_
        refine Z_icmp_ge (tgt := 41) dX0_look_6 (by decide) (fun h6 => ?_) (fun h6 => ?_)
        · skip
          refine Z_aload_n dX0_look_41 rfl rfl ?_
          refine Z_aload_n dX0_look_42 rfl rfl ?_
          refine Z_getR dX0_look_43 cl_0 fl_X0_9_0 rfl ha.1 ha.2.1 ?_
          refine Z_S1z dX0_look_46 to_X11_restOf lk_X0_43 sc_X11_restOf (Nat.le_of_ble_eq_true rfl) ⟨rfl, rfl⟩ ⟨by decide, by decide⟩ ?_
          refine k_restOf ha.2.2.2.2.2.2.1 (by decide) (l0 0 (by omega)) (l0 1 (by omega)) (l0 2 (by omega)) ?_
          rw [hzr]
          refine Z_putI dX0_look_49 cl_0 fl_X0_47_0 (Or.inl fn_0_1) rfl ha.1 rfl rfl ?_
          refine Z_aload_n dX0_look_52 rfl rfl ?_
          refine Z_getIv dX0_look_53 cl_5 fl_X0_50_5 rfl (cw_i5 hcw) g53 ?_
          refine Z_aload_n dX0_look_56 rfl rfl ?_
          refine Z_getIv dX0_look_57 cl_0 fl_X0_47_0 rfl ha.1 g57 ?_
          refine Z_iadd dX0_look_60 ?_
          rw [nI_add]
          refine Z_istore (L' := [_, _, _, _, _, _]) dX0_look_61 (by decide) rfl rfl ?_
          refine Z_iload_n dX0_look_63 rfl rfl ?_
          refine Z_if_lt (tgt := 83) dX0_look_64 (by decide) (fun h64 => ?_) (fun h64 => ?_)
          · skip
            exact absurd h64 (nI_pos (by omega))
          · skip
            refine Z_iload_n dX0_look_67 rfl rfl ?_
            refine Z_iconst (v := 3) dX0_look_68 (by decide) ?_
            refine Z_icmp_ge (tgt := 83) dX0_look_69 (by decide) (fun h69 => ?_) (fun h69 => ?_)
            · skip
              exact absurd h69 (nI_ge (a := x) (b := 3) hx3 (by omega))
            · skip
              refine Z_aload_n dX0_look_72 rfl rfl ?_
              refine Z_getR dX0_look_73 cl_0 fl_X0_9_0 rfl ha.1 ha.2.1 ?_
              refine Z_iload_n dX0_look_76 rfl rfl ?_
              refine Z_ialdv dX0_look_77 ha.2.2.2.2.2.2.1 (zix_nI (m := x) hx3 (by decide)) g77 ?_
              refine Z_iconst (v := 1) dX0_look_78 (by decide) ?_
              refine Z_isub dX0_look_79 ?_
              refine Z_goto (tgt := 84) dX0_look_80 (by decide) ?_
              refine Z_istore (L' := [_, _, _, _, _, _]) dX0_look_84 (by decide) rfl rfl ?_
              exact fin _ _ rfl hb2.symm
        · skip
          exact absurd (by decide) h6
    | succ j ih =>
      intro i x5 hi
      have hi3 : i < 3 := by omega
      have g21 : hI (sIr α (a + 1) (lrow (hI α (a + 1)) τ i)) 6 i = nI (A.1.1 (6 + i)) := by rw [hI_sIr, if_neg (by omega)]; exact sea.1.1 i hi3
      have e := hσ i hi3
      refine Z_iload dX0_look_3 rfl ?_
      refine Z_iconst (v := 3) dX0_look_5 (by decide) ?_
      refine Z_icmp_ge (tgt := 41) dX0_look_6 (by decide) (fun h6 => ?_) (fun h6 => ?_)
      · skip
        exact absurd h6 (nI_ge (a := i) (b := 3) (by omega) (by omega))
      · skip
        refine Z_aload_n dX0_look_9 rfl rfl ?_
        refine Z_getR dX0_look_10 cl_0 fl_X0_9_0 rfl ha.1 ha.2.1 ?_
        refine Z_iload dX0_look_13 rfl ?_
        refine Z_aload_n dX0_look_15 rfl rfl ?_
        refine Z_getR dX0_look_16 cl_5 fl_X0_38_5 rfl (cw_i5 hcw) (cw_p5_0 hcw) ?_
        refine Z_iload dX0_look_19 rfl ?_
        refine Z_ialdv dX0_look_21 (cw_i6 hcw) (zix_nI (m := i) hi3 (by decide)) g21 ?_
        refine Z_iload dX0_look_22 rfl ?_
        refine Z_iload_n dX0_look_24 rfl rfl ?_
        refine Z_icmp_ne (tgt := 32) dX0_look_25 (by decide) (fun h25 => ?_) (fun h25 => ?_)
        · skip
          refine Z_iconst (v := 0) dX0_look_32 (by decide) ?_
          refine Z_iadd dX0_look_33 ?_
          first
            | (have z25 : nI i = more := h25
               rw [if_pos z25] at e
               rw [nI_1, ← e])
            | (have z25 : ¬ nI i = more := h25
               rw [if_neg z25] at e
               rw [show (0 : Int32) = nI 0 from rfl, nI_add, ← e])
          refine Z_iast dX0_look_34 ha.2.2.2.2.2.2.1 (zix_nI (m := i) hi3 (by decide)) ?_
          rw [Rk_f, lrow_s]
          refine Z_iinc (L' := [_, _, _, _, _, _]) dX0_look_35 rfl (by rfl : _ + Int32.ofInt 1 = _ + 1) (by decide) rfl rfl ?_
          refine Z_goto (tgt := 3) dX0_look_38 (by decide) ?_
          rw [nI_1]
          exact ih (i + 1) _ (by omega)
        · skip
          refine Z_iconst (v := 1) dX0_look_28 (by decide) ?_
          refine Z_goto (tgt := 33) dX0_look_29 (by decide) ?_
          refine Z_iadd dX0_look_33 ?_
          first
            | (have z25 : nI i = more := h25
               rw [if_pos z25] at e
               rw [nI_1, ← e])
            | (have z25 : ¬ nI i = more := h25
               rw [if_neg z25] at e
               rw [show (0 : Int32) = nI 0 from rfl, nI_add, ← e])
          refine Z_iast dX0_look_34 ha.2.2.2.2.2.2.1 (zix_nI (m := i) hi3 (by decide)) ?_
          rw [Rk_f, lrow_s]
          refine Z_iinc (L' := [_, _, _, _, _, _]) dX0_look_35 rfl (by rfl : _ + Int32.ofInt 1 = _ + 1) (by decide) rfl rfl ?_
          refine Z_goto (tgt := 3) dX0_look_38 (by decide) ?_
          rw [nI_1]
          exact ih (i + 1) _ (by omega)
  have l00 : sIr α (a + 1) (lrow (hI α (a + 1)) τ 0) = α := by
    have : lrow (hI α (a + 1)) τ 0 = hI α (a + 1) := by funext j; exact if_neg (Nat.not_lt_zero j)
    rw [this, Rk_self]
  have key := lp 3 0 none rfl
  rw [l00] at key
  refine ZK.of (n := 2) (by decide) (Nat.le_of_ble_eq_true rfl) rfl ?_
  refine Z_iconst (v := 0) dX0_look_0 (by decide) ?_
  refine Z_istore (L' := [_, _, _, _, _, _]) dX0_look_1 (by decide) rfl rfl ?_
  exact key
end CL1
