section CA1
variable {G : ZG} {d : Nat} {α β : AH} {post : Option Value → AH → Prop} {Γ : Nat → VC} {A : ZA} {a T q s : Nat} {b t : Int32}
def cA (a : Nat) (α : AH) : Prop := zIs α a (4, 10) ∧ hP α a 0 = some (a + 1) ∧ hP α a 6 = some (a + 2) ∧ hP α a 7 = some (a + 3) ∧ hP α a 8 = some (a + 4) ∧ hP α a 9 = some 4 ∧ zIs α (a + 1) (0, 3) ∧ zIs α (a + 2) (0, 270) ∧ zIs α (a + 3) (0, 5) ∧ zIs α (a + 4) (0, 5832) ∧ zIs α 4 (0, 5832)
theorem cA.of (hw : CW α) (ha : a = 23 ∨ a = 28) : cA a α := by
  rcases ha with rfl | rfl
  · exact ⟨cw_i23 hw, cw_p23_0 hw, cw_p23_6 hw, cw_p23_7 hw, cw_p23_8 hw, cw_p23_9 hw, cw_i24 hw, cw_i25 hw, cw_i26 hw, cw_i27 hw, cw_i4 hw⟩
  · exact ⟨cw_i28 hw, cw_p28_0 hw, cw_p28_6 hw, cw_p28_7 hw, cw_p28_8 hw, cw_p28_9 hw, cw_i29 hw, cw_i30 hw, cw_i31 hw, cw_i32 hw, cw_i4 hw⟩
theorem cMem.fr2 {α β : AH} {Γ : Nat → VC} {a : Nat} (h : cMem α Γ a) (hz : frZ α β) (h2 : hI β a 2 = hI α a 2) (h4 : hI β a 4 = hI α a 4) (h5 : hI β a 5 = hI α a 5) (ho : hI β (a + 2) = hI α (a + 2)) (hb : hI β (a + 4) = hI α (a + 4)) (hp : hP β a = hP α a) : cMem β Γ a := by
  obtain ⟨v, k1, k2, k3⟩ := h
  refine ⟨v, by rw [hp]; exact k1, k2.fr hz, ?_⟩
  unfold cOM cBM
  rw [h2, h4, h5, ho, hb]
  exact k3
def FA (k : Nat) : Prop := k = 4 ∨ (17 ≤ k ∧ k ≤ 32)
theorem FA.c {k : Nat} (h : FA k) : cId k := by unfold FA at h; unfold cId; omega
theorem CRel.mem (h : CRel Γ A α) (hf : frI FA α β) (h1 : cMem β Γ 23) (h2 : cMem β Γ 28) : CRel Γ A β := by
  obtain ⟨k1, k2, k3, k4, k5, k6, k7, k8⟩ := h
  have hz := (hf.c (fun k => FA.c)).z
  have hs : ∀ k, ¬ FA k → hI β k = hI α k ∧ hP β k = hP α k := fun k hk => ⟨(hf.2.2.2 k hk).1, by rw [hf.2.2.1]⟩
  refine ⟨hf.cw k1, by rw [hf.1]; exact k2, k3, k4.fr hz (fun k _ q => hs k (by unfold FA; omega)), k5.fr hz (fun k _ q => hs k (by unfold FA; omega)) (by rw [(hs 0 (by unfold FA; omega)).1]), ?_, h1, h2⟩
  unfold cTr
  rw [(hs 33 (by unfold FA; omega)).1]
  exact k6
def Fo (a k : Nat) : Prop := k = 4 ∨ (a ≤ k ∧ k ≤ a + 4)
theorem CRel.step (ha : a = 23 ∨ a = 28) (h : CRel Γ A α) (hf : frI (Fo a) α β) (hm : cMem β Γ a) : CRel Γ A β := by
  have hf' : frI FA α β := hf.mono (fun k hk => by unfold Fo at hk; unfold FA; omega)
  have hz := (hf'.c (fun k => FA.c)).z
  have hs : ∀ k, ¬ Fo a k → hI β k = hI α k := fun k hk => (hf.2.2.2 k hk).1
  rcases ha with rfl | rfl
  · refine h.mem hf' hm (h.2.2.2.2.2.2.2.fr2 hz ?_ ?_ ?_ ?_ ?_ (by rw [hf.2.2.1])) <;> rw [hs _ (by unfold Fo; omega)]
  · refine h.mem hf' (h.2.2.2.2.2.2.1.fr2 hz ?_ ?_ ?_ ?_ ?_ (by rw [hf.2.2.1])) hm <;> rw [hs _ (by unfold Fo; omega)]
/-- what lies ahead was looked at: the valley held, the days in all, what is barred -/
def cLk (Γ : Nat → VC) (A : ZA) (a T : Nat) (b t : Int32) (α : AH) : Prop := CRel Γ A α ∧ (a = 23 ∨ a = 28) ∧ T < 200 ∧ (∃ v, hP α a 3 = some v ∧ hP α 5 6 = some v) ∧ hI α a 2 = nI T ∧ hI α a 4 = b ∧ hI α a 5 = t
def cAt (a : Nat) (α : AH) (q : Nat) : Prop := (∀ j, j < 3 → hI α (a + 1) j = nI (zl q j)) ∧ hI α a 1 = nI (zla q)
theorem cLk.mem (h : cLk Γ A a T b t α) : cMem α Γ a := by
  rcases h.2.1 with rfl | rfl
  · exact h.1.2.2.2.2.2.2.1
  · exact h.1.2.2.2.2.2.2.2
theorem cLk.get (h : cLk Γ A a T b t α) : cA a α ∧ ∃ v, hP α a 3 = some v ∧ vOk (Γ v) ∧ (∃ c w e p, vO α v c w e p (Γ v)) ∧ vMat (Γ v) A.1 ∧ cOM α a T (hSem A.1) ∧ cBM α a (zbc b t (zcn A.1 T)) (Γ v).2.1 := by
  have hm := h.mem
  obtain ⟨h1, ha, hT, ⟨v, hv, hv5⟩, h2, h4, h5⟩ := h
  refine ⟨cA.of h1.1 ha, v, hv, ?_⟩
  obtain ⟨v', e1, e2, e3⟩ := h1.2.2.2.1.2.2.1
  cases hv5.symm.trans e1
  obtain ⟨v'', f1, f2, f3⟩ := hm
  cases hv.symm.trans f1
  refine ⟨e2.1, e2.2, e3, ?_⟩
  rcases f3 with f3 | ⟨T', t1, t2, t3, t4⟩
  · rw [h2] at f3; exact absurd f3 (nI_nm1 (by omega))
  · have eT : T = T' := (nI_eq (by omega) (by omega)).mp (h2.symm.trans t2)
    subst eT
    rw [e3.1] at t3 t4
    rw [h4, h5, ← zcn_h] at t4
    exact ⟨t3, t4⟩
theorem cLk.step (h : cLk Γ A a T b t α) (hf : frI (Fo a) α β) (hm : cMem β Γ a) (h2 : hI β a 2 = hI α a 2) (h4 : hI β a 4 = hI α a 4) (h5 : hI β a 5 = hI α a 5) : cLk Γ A a T b t β := by
  obtain ⟨k1, ha, hT, ⟨v, hv, hv5⟩, k2, k4, k5⟩ := h
  exact ⟨k1.step ha hf hm, ha, hT, ⟨v, by rw [hf.2.2.1]; exact hv, by rw [hf.2.2.1]; exact hv5⟩, h2.trans k2, h4.trans k4, h5.trans k5⟩
theorem Fo.c {k : Nat} (ha : a = 23 ∨ a = 28) (h : Fo a k) : cId k := by unfold Fo at h; unfold cId; omega
theorem frI.fo (ha : a = 23 ∨ a = 28) (hf : frI (Fo a) α β) : frC α β := hf.c (fun k => Fo.c ha)
/-- the rows that aren't memos -/
def Fl (a k : Nat) : Prop := k = a ∨ k = a + 1 ∨ k = a + 3 ∨ k = 4
theorem Fl.o {k : Nat} (h : Fl a k) : Fo a k := by unfold Fl at h; unfold Fo; omega
def Ft (a k : Nat) : Prop := k = a ∨ k = a + 1
theorem Ft.l {k : Nat} (h : Ft a k) : Fl a k := by unfold Ft at h; unfold Fl; omega
theorem cLk.mv (h : cLk Γ A a T b t α) (hf : frI (Fl a) α β) (h2 : hI β a 2 = hI α a 2) (h4 : hI β a 4 = hI α a 4) (h5 : hI β a 5 = hI α a 5) : cLk Γ A a T b t β := by
  have hf' : frI (Fo a) α β := hf.mono (fun k => Fl.o)
  have ha := h.2.1
  refine h.step hf' (h.mem.fr2 (hf'.fo ha).z h2 h4 h5 ?_ ?_ (by rw [hf.2.2.1])) h2 h4 h5
  · rw [(hf.2.2.2 (a + 2) (by unfold Fl; omega)).1]
  · rw [(hf.2.2.2 (a + 4) (by unfold Fl; omega)).1]
theorem k_has (hw : cLk Γ A a T b t α) (hc : cAt a α q) (hq : q < 5832) (hs : s < 3) (h : post (some (.int (b2i (decide (0 < zl q s))))) α) : ZK G (d + 1) mX0_has [.ref (G.1 + a), .int (nI s)] α post := by
  have ha := hw.get.1
  have hz := zl_le (s := s) hq
  refine ZK.of (n := 0) (by decide) (Nat.le_of_ble_eq_true rfl) rfl ?_
  refine Z_aload_n dX0_has_0 rfl rfl ?_
  refine Z_getR dX0_has_1 cl_0 fl_X0_9_0 rfl ha.1 ha.2.1 ?_
  refine Z_iload_n dX0_has_4 rfl rfl ?_
  refine Z_ialdv dX0_has_5 ha.2.2.2.2.2.2.1 (zix_nI (m := s) hs (by decide)) (hc.1 s hs) ?_
  refine Z_if_le (tgt := 13) dX0_has_6 (by decide) (fun h6 => ?_) (fun h6 => ?_)
  · skip
    refine Z_iconst (v := 0) dX0_has_13 (by decide) ?_
    refine Z_iret dX0_has_14 rfl rfl ⟨by decide, by decide⟩ ?_
    refine vi (P := fun z => post (some (.int z)) α) h ?_
    first
      | (rw [b2i_t]; exact nI_pos0 (by omega) h6)
      | (rw [b2i_f]; intro z; exact nI_ge (a := 0) (b := zl q s) z (by omega) h6)
  · skip
    refine Z_iconst (v := 1) dX0_has_9 (by decide) ?_
    refine Z_goto (tgt := 14) dX0_has_10 (by decide) ?_
    refine Z_iret dX0_has_14 rfl rfl ⟨by decide, by decide⟩ ?_
    refine vi (P := fun z => post (some (.int z)) α) h ?_
    first
      | (rw [b2i_t]; exact nI_pos0 (by omega) h6)
      | (rw [b2i_f]; intro z; exact nI_ge (a := 0) (b := zl q s) z (by omega) h6)
theorem k_take (hw : cLk Γ A a T b t α) (hc : cAt a α q) (hq : q < 5832) (hs : s < 3) (hp : 0 < zl q s) (h : ∀ β, cLk Γ A a T b t β → cAt a β (zd q s) → frI (Ft a) α β → post none β) : ZK G (d + 1) mX0_take [.ref (G.1 + a), .int (nI s)] α post := by
  have ha := hw.get.1
  have ok := zd_ok hq hs hp
  have hne : a ≠ a + 1 := by omega
  have e1 : hI (sI α (a + 1) s (nI (zl q s) - 1)) a 1 = nI (zla q) := by rw [sI_ne hne]; exact hc.2
  refine ZK.of (n := 0) (by decide) (Nat.le_of_ble_eq_true rfl) rfl ?_
  refine Z_aload_n dX0_take_0 rfl rfl ?_
  refine Z_getR dX0_take_1 cl_0 fl_X0_9_0 rfl ha.1 ha.2.1 ?_
  refine Z_iload_n dX0_take_4 rfl rfl ?_
  refine Z_dup2 dX0_take_5 rfl rfl ?_
  refine Z_ialdv dX0_take_6 ha.2.2.2.2.2.2.1 (zix_nI (m := s) hs (by decide)) (hc.1 s hs) ?_
  refine Z_iconst (v := 1) dX0_take_7 (by decide) ?_
  refine Z_isub dX0_take_8 ?_
  refine Z_iast dX0_take_9 ha.2.2.2.2.2.2.1 (zix_nI (m := s) hs (by decide)) ?_
  refine Z_aload_n dX0_take_10 rfl rfl ?_
  refine Z_dup dX0_take_11 rfl ?_
  refine Z_getIv dX0_take_12 cl_0 fl_X0_47_0 rfl ha.1 e1 ?_
  refine Z_iconst (v := 1) dX0_take_15 (by decide) ?_
  refine Z_isub dX0_take_16 ?_
  refine Z_putI dX0_take_17 cl_0 fl_X0_47_0 (Or.inl fn_0_1) rfl ha.1 rfl rfl ?_
  refine Z_vret dX0_take_20 rfl ⟨by decide, by decide⟩ ?_
  have hf : frI (Ft a) α (sI (sI α (a + 1) s (nI (zl q s) - 1)) a 1 (nI (zla q) - 1)) := (frI.sI (Or.inr rfl)).tr (frI.sI (Or.inl rfl))
  refine h _ (hw.mv (hf.mono (fun k => Ft.l)) ?_ ?_ ?_) ⟨fun j hj => ?_, ?_⟩ hf
  · rw [hI_sI, if_neg (by omega), hI_sI, if_neg (by omega)]
  · rw [hI_sI, if_neg (by omega), hI_sI, if_neg (by omega)]
  · rw [hI_sI, if_neg (by omega), hI_sI, if_neg (by omega)]
  · rw [hI_sI, if_neg (by omega), hI_sI, ok.2.2.2.1 j hj]
    by_cases e : j = s
    · subst e; rw [if_pos ⟨rfl, rfl⟩, if_pos rfl]; exact nI_s (b := 1) hp
    · rw [if_neg (by omega), if_neg e]; exact hc.1 j hj
  · rw [hI_sI, if_pos ⟨rfl, rfl⟩, show zla q = zla (zd q s) + 1 from ok.2.2.1.symm]
    exact nI_s (a := zla (zd q s) + 1) (b := 1) (by omega)
theorem k_back (hw : cLk Γ A a T b t α) (hc : cAt a α (zd q s)) (hq : q < 5832) (hs : s < 3) (hp : 0 < zl q s) (h : ∀ β, cLk Γ A a T b t β → cAt a β q → frI (Ft a) α β → post none β) : ZK G (d + 1) mX0_back [.ref (G.1 + a), .int (nI s)] α post := by
  have ha := hw.get.1
  have ok := zd_ok hq hs hp
  have hne : a ≠ a + 1 := by omega
  have e0 : hI α (a + 1) s = nI (zl q s - 1) := by have := hc.1 s hs; rw [ok.2.2.2.1 s hs, if_pos rfl] at this; exact this
  have e1 : hI (sI α (a + 1) s (nI (zl q s - 1) + 1)) a 1 = nI (zla (zd q s)) := by rw [sI_ne hne]; exact hc.2
  refine ZK.of (n := 0) (by decide) (Nat.le_of_ble_eq_true rfl) rfl ?_
  refine Z_aload_n dX0_back_0 rfl rfl ?_
  refine Z_getR dX0_back_1 cl_0 fl_X0_9_0 rfl ha.1 ha.2.1 ?_
  refine Z_iload_n dX0_back_4 rfl rfl ?_
  refine Z_dup2 dX0_back_5 rfl rfl ?_
  refine Z_ialdv dX0_back_6 ha.2.2.2.2.2.2.1 (zix_nI (m := s) hs (by decide)) e0 ?_
  refine Z_iconst (v := 1) dX0_back_7 (by decide) ?_
  refine Z_iadd dX0_back_8 ?_
  refine Z_iast dX0_back_9 ha.2.2.2.2.2.2.1 (zix_nI (m := s) hs (by decide)) ?_
  refine Z_aload_n dX0_back_10 rfl rfl ?_
  refine Z_dup dX0_back_11 rfl ?_
  refine Z_getIv dX0_back_12 cl_0 fl_X0_47_0 rfl ha.1 e1 ?_
  refine Z_iconst (v := 1) dX0_back_15 (by decide) ?_
  refine Z_iadd dX0_back_16 ?_
  refine Z_putI dX0_back_17 cl_0 fl_X0_47_0 (Or.inl fn_0_1) rfl ha.1 rfl rfl ?_
  refine Z_vret dX0_back_20 rfl ⟨by decide, by decide⟩ ?_
  have hf : frI (Ft a) α (sI (sI α (a + 1) s (nI (zl q s - 1) + 1)) a 1 (nI (zla (zd q s)) + 1)) := (frI.sI (Or.inr rfl)).tr (frI.sI (Or.inl rfl))
  refine h _ (hw.mv (hf.mono (fun k => Ft.l)) ?_ ?_ ?_) ⟨fun j hj => ?_, ?_⟩ hf
  · rw [hI_sI, if_neg (by omega), hI_sI, if_neg (by omega)]
  · rw [hI_sI, if_neg (by omega), hI_sI, if_neg (by omega)]
  · rw [hI_sI, if_neg (by omega), hI_sI, if_neg (by omega)]
  · rw [hI_sI, if_neg (by omega), hI_sI]
    by_cases e : j = s
    · subst e; rw [if_pos ⟨rfl, rfl⟩, nI_1, show zl q j - 1 + 1 = zl q j by omega]
    · have := hc.1 j hj
      rw [ok.2.2.2.1 j hj, if_neg e] at this
      rw [if_neg (by omega)]; exact this
  · rw [hI_sI, if_pos ⟨rfl, rfl⟩, nI_1, ok.2.2.1]
theorem k_ways (hw : cLk Γ A a T b t α) (hc : cAt a α q) (hq : q < 5832) (h : post (some (.int (nI (zoq q)))) α) : ZK G (d + 2) mX0_ways [.ref (G.1 + a)] α post := by
  have ha := hw.get.1
  have hl := zla_le hq
  have hl2 : zla q = zl q 0 + zl q 1 + zl q 2 := rfl
  have e0 := hc.1 0 (by omega)
  have e1 := hc.1 1 (by omega)
  refine ZK.of (n := 0) (by decide) (Nat.le_of_ble_eq_true rfl) rfl ?_
  refine Z_aload_n dX0_ways_0 rfl rfl ?_
  refine Z_getIv dX0_ways_1 cl_0 fl_X0_47_0 rfl ha.1 hc.2 ?_
  refine Z_aload_n dX0_ways_4 rfl rfl ?_
  refine Z_getR dX0_ways_5 cl_0 fl_X0_9_0 rfl ha.1 ha.2.1 ?_
  refine Z_iconst (v := 0) dX0_ways_8 (by decide) ?_
  refine Z_ialdv dX0_ways_9 ha.2.2.2.2.2.2.1 (zix_k (m := 0) (by decide)) e0 ?_
  refine Z_S2z dX0_ways_10 to_X11_choose lk_X0_64 sc_X11_choose (Nat.le_of_ble_eq_true rfl) ⟨rfl, rfl⟩ ⟨by decide, by decide⟩ ?_
  refine k_choose hl ?_
  rw [zchI_nI hl (by omega)]
  refine Z_aload_n dX0_ways_13 rfl rfl ?_
  refine Z_getIv dX0_ways_14 cl_0 fl_X0_47_0 rfl ha.1 hc.2 ?_
  refine Z_aload_n dX0_ways_17 rfl rfl ?_
  refine Z_getR dX0_ways_18 cl_0 fl_X0_9_0 rfl ha.1 ha.2.1 ?_
  refine Z_iconst (v := 0) dX0_ways_21 (by decide) ?_
  refine Z_ialdv dX0_ways_22 ha.2.2.2.2.2.2.1 (zix_k (m := 0) (by decide)) e0 ?_
  refine Z_isub dX0_ways_23 ?_
  refine Z_aload_n dX0_ways_24 rfl rfl ?_
  refine Z_getR dX0_ways_25 cl_0 fl_X0_9_0 rfl ha.1 ha.2.1 ?_
  refine Z_iconst (v := 1) dX0_ways_28 (by decide) ?_
  refine Z_ialdv dX0_ways_29 ha.2.2.2.2.2.2.1 (zix_k (m := 1) (by decide)) e1 ?_
  refine Z_S2z dX0_ways_30 to_X11_choose lk_X0_64 sc_X11_choose (Nat.le_of_ble_eq_true rfl) ⟨rfl, rfl⟩ ⟨by decide, by decide⟩ ?_
  rw [nI_s (by omega), show zla q - zl q 0 = zl q 1 + zl q 2 by omega]
  refine k_choose (by omega) ?_
  rw [zchI_nI (by omega) (by omega)]
  refine Z_imul dX0_ways_33 ?_
  refine Z_iret dX0_ways_34 rfl rfl ⟨by decide, by decide⟩ ?_
  rw [pk_mul]; exact h
theorem k_place (hw : cLk Γ A a T b t α) (hc : cAt a α q) (hq : q < 5832) (h : post (some (.int (nI (cq q)))) α) : ZK G (d + 1) mX0_place [.ref (G.1 + a), .int (nI (cgs q))] α post := by
  have ha := hw.get.1
  have e0 := hc.1 0 (by omega)
  have e1 := hc.1 1 (by omega)
  have e2 := hc.1 2 (by omega)
  have e : ((nI (zl q 0) * 6 + nI (zl q 1)) * 6 + nI (zl q 2)) * 27 + nI (cgs q) = nI (cq q) := by
    rw [show (6 : Int32) = nI 6 from rfl, show (27 : Int32) = nI 27 from rfl, pk_mul, nI_add, pk_mul, nI_add, pk_mul, nI_add]
    congr 1
    unfold cq
    have : (zl q 0 * 6 + zl q 1) * 6 + zl q 2 = q / 27 := by simp [zl]; omega
    rw [this]; omega
  refine ZK.of (n := 0) (by decide) (Nat.le_of_ble_eq_true rfl) rfl ?_
  refine Z_aload_n dX0_place_0 rfl rfl ?_
  refine Z_getR dX0_place_1 cl_0 fl_X0_9_0 rfl ha.1 ha.2.1 ?_
  refine Z_iconst (v := 0) dX0_place_4 (by decide) ?_
  refine Z_ialdv dX0_place_5 ha.2.2.2.2.2.2.1 (zix_k (m := 0) (by decide)) e0 ?_
  refine Z_bipush (v := 6) dX0_place_6 (by decide) ?_
  refine Z_imul dX0_place_8 ?_
  refine Z_aload_n dX0_place_9 rfl rfl ?_
  refine Z_getR dX0_place_10 cl_0 fl_X0_9_0 rfl ha.1 ha.2.1 ?_
  refine Z_iconst (v := 1) dX0_place_13 (by decide) ?_
  refine Z_ialdv dX0_place_14 ha.2.2.2.2.2.2.1 (zix_k (m := 1) (by decide)) e1 ?_
  refine Z_iadd dX0_place_15 ?_
  refine Z_bipush (v := 6) dX0_place_16 (by decide) ?_
  refine Z_imul dX0_place_18 ?_
  refine Z_aload_n dX0_place_19 rfl rfl ?_
  refine Z_getR dX0_place_20 cl_0 fl_X0_9_0 rfl ha.1 ha.2.1 ?_
  refine Z_iconst (v := 2) dX0_place_23 (by decide) ?_
  refine Z_ialdv dX0_place_24 ha.2.2.2.2.2.2.1 (zix_k (m := 2) (by decide)) e2 ?_
  refine Z_iadd dX0_place_25 ?_
  refine Z_bipush (v := 27) dX0_place_26 (by decide) ?_
  refine Z_imul dX0_place_28 ?_
  refine Z_iload_n dX0_place_29 rfl rfl ?_
  refine Z_iadd dX0_place_30 ?_
  refine Z_iret dX0_place_31 rfl rfl ⟨by decide, by decide⟩ ?_
  rw [e]; exact h
theorem k_payOf {k : Nat} (hw : cLk Γ A a T b t α) (hk : k < 3) (h : post (some (.int (nI (sp_pay A.1.1 k)))) α) : ZK G (d + 1) mX0_payOf [.ref (G.1 + a), .int (nI k)] α post := by
  obtain ⟨ha, v, hp3, -, ⟨c, w, e, p, hv⟩, hm, -⟩ := hw.get
  have e1 : hI α p k = nI (sp_pay A.1.1 k) := by rw [hv.2.2.2.2.2.2.1 k hk, hm.2.1 k hk]
  refine ZK.of (n := 0) (by decide) (Nat.le_of_ble_eq_true rfl) rfl ?_
  refine Z_aload_n dX0_payOf_0 rfl rfl ?_
  refine Z_getR dX0_payOf_1 cl_0 fl_X0_31_0 rfl ha.1 hp3 ?_
  refine Z_getR dX0_payOf_4 cl_8 fl_X0_68_8 rfl hv.2.1 hv.2.2.1.2.2.2 ?_
  refine Z_iload_n dX0_payOf_7 rfl rfl ?_
  refine Z_ialdv dX0_payOf_8 hv.2.2.2.1.2.2.2 (zix_nI (m := k) hk (by decide)) e1 ?_
  refine Z_iret dX0_payOf_9 rfl rfl ⟨by decide, by decide⟩ ?_
  exact h
theorem cgs_lt : cgs q < 27 := by
  have h0 := zg_le (q := q) (k := 0)
  have h1 := zg_le (q := q) (k := 1)
  have h2 := zg_le (q := q) (k := 2)
  unfold cgs; omega
theorem cgs_d {k : Nat} (hk : k < 3) : cgs q / cst k % 3 = zg q k := by
  have h0 := zg_le (q := q) (k := 0)
  have h1 := zg_le (q := q) (k := 1)
  have h2 := zg_le (q := q) (k := 2)
  unfold cgs
  rcases s3 hk with rfl | rfl | rfl <;> simp [cst] <;> omega
theorem cgs_do {k : Nat} (hq : q < 5832) (hk : k ≤ 3) (hg : k < 3 → zg q k < 2) : zaf k (cgs q) = cgs (zdw q k) := by
  unfold zaf zdw
  by_cases h3 : k = 3
  · rw [if_pos h3, if_pos h3]
  · rw [if_neg h3, if_neg h3]
    have ok := (zdo_ok hq (show k < 3 by omega) (hg (by omega))).2.2
    unfold cgs
    rw [ok 0 (by omega), ok 1 (by omega), ok 2 (by omega)]
    rcases s3 (show k < 3 by omega) with rfl | rfl | rfl <;> simp [cst] <;> omega
theorem cgs_zd (hq : q < 5832) (hs : s < 3) (hp : 0 < zl q s) : cgs (zd q s) = cgs q := by
  have ok := (zd_ok hq hs hp).2.2.2.2
  unfold cgs
  rw [ok, ok, ok]
theorem zgn_p {P pay : Nat → Nat} {w : Nat} (hw : w ≤ 3) (hp : ∀ k, k < 3 → P k = pay k) : zgn P w (cgs q) = zpays pay q w := by
  unfold zgn zpays
  by_cases h3 : w = 3
  · rw [if_pos h3, if_pos h3]
  · rw [if_neg h3, if_neg h3, cgs_d (by omega), hp w (by omega)]
theorem k_gain' {v x : Nat} (hw : cLk Γ A a T b t α) (hv3 : hP α a 3 = some v) (hx : x ≤ 3) (h : post (some (.int (nI (zpays (sp_pay A.1.1) q x)))) α) : ZK G (d + 2) mX8_gain [.ref (G.1 + v), .int (nI x), .int (nI (cgs q))] α post := by
  obtain ⟨ha, v', hp3, -, ⟨c, w, e, p, hv⟩, hm, -⟩ := hw.get
  cases hp3.symm.trans hv3
  refine k_gain hv cgs_lt hx ?_
  rw [zgn_p hx hm.2.1]
  exact h
theorem k_paidOn {x : Nat} (hw : cLk Γ A a T b t α) (hc : cAt a α q) (hq : q < 5832) (hx : x ≤ 3) (h : post (some (.int (nI (zoq q * zpays (sp_pay A.1.1) q x)))) α) : ZK G (d + 3) mX0_paidOn [.ref (G.1 + a), .int (nI x), .int (nI (cgs q))] α post := by
  obtain ⟨ha, v, hp3, hvk, ⟨c, w, e, p, hv⟩, hm, -⟩ := hw.get
  have hb : zpays (sp_pay A.1.1) q x ≤ 99 := by
    unfold zpays
    split
    · omega
    · split
      · rename_i h3 _
        have := hvk.2.2.2.1 x (by omega)
        rw [hm.2.1 x (by omega)] at this
        exact this
      · omega
  refine ZK.of (n := 1) (by decide) (Nat.le_of_ble_eq_true rfl) rfl ?_
  refine Z_aload_n dX0_paidOn_0 rfl rfl ?_
  refine Z_getR dX0_paidOn_1 cl_0 fl_X0_31_0 rfl ha.1 hp3 ?_
  refine Z_iload_n dX0_paidOn_4 rfl rfl ?_
  refine Z_iload_n dX0_paidOn_5 rfl rfl ?_
  refine Z_V2z (ci := 8) dX0_paidOn_6 to_X8_gain lk_X0_116 iv_X8_gain ⟨rfl, rfl⟩ hv.2.1 (Nat.le_of_ble_eq_true rfl) ⟨rfl, rfl⟩ ⟨by decide, by decide⟩ ?_
  refine k_gain' (q := q) hw hp3 hx ?_
  refine Z_istore_n (L' := [_, _, _, _]) dX0_paidOn_9 rfl (by decide) rfl rfl ?_
  refine Z_iload_n dX0_paidOn_10 rfl rfl ?_
  refine Z_if_ne (tgt := 18) dX0_paidOn_11 (by decide) (fun h11 => ?_) (fun h11 => ?_)
  · skip
    refine Z_iload_n dX0_paidOn_18 rfl rfl ?_
    refine Z_aload_n dX0_paidOn_19 rfl rfl ?_
    refine Z_V0z (ci := 0) dX0_paidOn_20 to_X0_ways lk_X0_119 iv_X0_ways ⟨rfl, rfl⟩ ha.1 (Nat.le_of_ble_eq_true rfl) ⟨rfl, rfl⟩ ⟨by decide, by decide⟩ ?_
    refine k_ways hw hc hq ?_
    refine Z_imul dX0_paidOn_23 ?_
    refine Z_iret dX0_paidOn_24 rfl rfl ⟨by decide, by decide⟩ ?_
    first
      | exact h
      | (rw [pk_mul, Nat.mul_comm]; exact h)
  · skip
    have e0 : zpays (sp_pay A.1.1) q x = 0 := (nI_eq (b := 0) (by omega) (by omega)).mp h11
    rw [e0, Nat.mul_zero] at h
    refine Z_iconst (v := 0) dX0_paidOn_14 (by decide) ?_
    refine Z_goto (tgt := 24) dX0_paidOn_15 (by decide) ?_
    refine Z_iret dX0_paidOn_24 rfl rfl ⟨by decide, by decide⟩ ?_
    first
      | exact h
      | (rw [pk_mul, Nat.mul_comm]; exact h)
end CA1
