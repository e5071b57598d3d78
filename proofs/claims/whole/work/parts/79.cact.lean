section CT1
variable {G : ZG} {M : ZM} {d pc idx c kd row : Nat} {L : List (Option Value)} {st : List Value} {α β : AH} {u : Nat × Nat} {num v x : Int32} {post : Option Value → AH → Prop} {l : List Nat}
theorem fw_X10_9 : zFld "DaysBag$Worker" 9 10 0 ∧ zFld "DaysBag$Worker" 9 3 0 ∧ zFld "DaysBag$Worker" 9 2 0 ∧ zFld "DaysBag$Worker" 9 9 0 ∧ zFld "DaysBag$Worker" 9 6 0 ∧ zFld "DaysBag$Worker" 9 1 0 ∧ zFld "DaysBag$Worker" 9 7 0 := ⟨fl_X10_9_10, fl_X10_9_3, fl_X10_9_2, fl_X10_9_9, fl_X10_9_6, fl_X10_9_1, fl_X10_9_7⟩
theorem fw_X10_15 : zFld "DaysBag$Worker" 15 10 1 ∧ zFld "DaysBag$Worker" 15 3 1 ∧ zFld "DaysBag$Worker" 15 2 1 ∧ zFld "DaysBag$Worker" 15 9 1 ∧ zFld "DaysBag$Worker" 15 6 1 ∧ zFld "DaysBag$Worker" 15 1 1 ∧ zFld "DaysBag$Worker" 15 7 1 := ⟨fl_X10_15_10, fl_X10_15_3, fl_X10_15_2, fl_X10_15_9, fl_X10_15_6, fl_X10_15_1, fl_X10_15_7⟩
theorem fw_X10_18 : zFld "DaysBag$Worker" 18 10 2 ∧ zFld "DaysBag$Worker" 18 3 2 ∧ zFld "DaysBag$Worker" 18 2 2 ∧ zFld "DaysBag$Worker" 18 9 2 ∧ zFld "DaysBag$Worker" 18 6 2 ∧ zFld "DaysBag$Worker" 18 1 2 ∧ zFld "DaysBag$Worker" 18 7 2 := ⟨fl_X10_18_10, fl_X10_18_3, fl_X10_18_2, fl_X10_18_9, fl_X10_18_6, fl_X10_18_1, fl_X10_18_7⟩
def cRun (α : AH) (l : List Nat) : Prop := zIs α 33 (0, 21) ∧ hI α 33 0 = nI l.length ∧ ∀ i, i < l.length → hI α 33 (i + 1) = nI (l.getD i 0)
def fr33 (α β : AH) : Prop := frI (fun k => k = 33) α β
theorem wObj.f33 (h : wObj α c kd num v row) (hf : fr33 α β) : wObj β c kd num v row := h.fr (hf.c (fun k hk => by unfold cId; omega)).z
theorem k_began {b : Nat} (hr : cRun α l) (hl : l.length < 20) (h : ∀ β, cRun β (l ++ [b]) → fr33 α β → post none β) : ZK G (d + 1) mX10_began [.int (nI b), .ref (G.1 + 33)] α post := by
  obtain ⟨hz, h0, ht⟩ := hr
  have e1 : hI (sI α 33 0 (nI (l.length + 1))) 33 0 = nI (l.length + 1) := by rw [hI_sI, if_pos ⟨rfl, rfl⟩]
  refine ZK.of (n := 0) (by decide) (Nat.le_of_ble_eq_true rfl) rfl ?_
  refine Z_aload_n dX10_began_0 rfl rfl ?_
  refine Z_iconst (v := 0) dX10_began_1 (by decide) ?_
  refine Z_dup2 dX10_began_2 rfl rfl ?_
  refine Z_ialdv dX10_began_3 hz (zix_k (m := 0) (by decide)) h0 ?_
  refine Z_iconst (v := 1) dX10_began_4 (by decide) ?_
  refine Z_iadd dX10_began_5 ?_
  rw [nI_1]
  refine Z_iast dX10_began_6 hz (zix_k (m := 0) (by decide)) ?_
  refine Z_aload_n dX10_began_7 rfl rfl ?_
  refine Z_iconst (v := 0) dX10_began_8 (by decide) ?_
  refine Z_ialdv dX10_began_9 hz (zix_k (m := 0) (by decide)) e1 ?_
  refine Z_aload_n dX10_began_10 rfl rfl ?_
  refine Z_alen dX10_began_11 hz (by decide) ?_
  refine Z_icmp_ge (tgt := 21) dX10_began_12 (by decide) (fun h12 => ?_) (fun h12 => ?_)
  · skip
    exact absurd h12 (nI_ge (a := l.length + 1) (b := 21) (by omega) (by omega))
  · skip
    refine Z_aload_n dX10_began_15 rfl rfl ?_
    refine Z_aload_n dX10_began_16 rfl rfl ?_
    refine Z_iconst (v := 0) dX10_began_17 (by decide) ?_
    refine Z_ialdv dX10_began_18 hz (zix_k (m := 0) (by decide)) e1 ?_
    refine Z_iload_n dX10_began_19 rfl rfl ?_
    refine Z_iast dX10_began_20 hz (zix_nI (m := l.length + 1) (by omega) (by decide)) ?_
    refine Z_vret dX10_began_21 rfl ⟨by decide, by decide⟩ ?_
    refine h _ ⟨hz, ?_, fun i hi => ?_⟩ ((frI.sI (F := fun k => k = 33) rfl).tr (frI.sI rfl))
    · rw [hI_sI, if_neg (by omega), hI_sI, if_pos ⟨rfl, rfl⟩]; simp
    · rw [hI_sI]
      simp only [List.length_append, List.length_singleton] at hi
      by_cases e : i = l.length
      · subst e; rw [if_pos ⟨rfl, rfl⟩]; simp
      · rw [if_neg (by omega), hI_sI, if_neg (by omega), ht i (by omega)]
        simp [List.getD, List.getElem?_append_left (show i < l.length by omega)]
theorem k_sows10 (ho : wObj α c kd num v row) (hr : cRun α l) (hl : l.length + 1 ≤ 20) (h : ∀ β, cRun β (l ++ ((x + num, [1]) : Int32 × List Nat).2) → fr33 α β → post (some (.int ((x + num, [1]) : Int32 × List Nat).1)) β) : ZK G (d + 2) mX10_sows [.ref (G.1 + c), .int x, .ref (G.1 + 33)] α post := by
  refine ZK.of (n := 0) (by decide) (Nat.le_of_ble_eq_true rfl) rfl ?_
  refine Z_iconst (v := 1) dX10_sows_0 (by decide) ?_
  refine Z_aload_n dX10_sows_1 rfl rfl ?_
  refine Z_S2z dX10_sows_2 to_X10_began lk_X10_21 sc_X10_began (Nat.le_of_ble_eq_true rfl) ⟨rfl, rfl⟩ ⟨by decide, by decide⟩ ?_
  refine k_began (b := 1) hr (by omega) (fun β hr1 hf1 => ?_)
  have ho1 := ho.f33 hf1
  refine Z_iload_n dX10_sows_5 rfl rfl ?_
  refine Z_aload_n dX10_sows_6 rfl rfl ?_
  refine Z_wget dX10_sows_7 fw_X10_15 (by decide) ho1 ?_
  rw [ho1.2.2.2.2.1]
  refine Z_iadd dX10_sows_10 ?_
  refine Z_iret dX10_sows_11 rfl rfl ⟨by decide, by decide⟩ ?_
  exact h β hr1 hf1
theorem k_sows3_3 (ho : wObj α c 1 num v row) (hr : cRun α l) (hl : l.length + 2 ≤ 20) (h : ∀ β, cRun β (l ++ ((x * 3 + num, [11, 1]) : Int32 × List Nat).2) → fr33 α β → post (some (.int ((x * 3 + num, [11, 1]) : Int32 × List Nat).1)) β) : ZK G (d + 3) mX3_sows [.ref (G.1 + c), .int x, .ref (G.1 + 33)] α post := by
  refine ZK.of (n := 0) (by decide) (Nat.le_of_ble_eq_true rfl) rfl ?_
  refine Z_bipush (v := 11) dX3_sows_0 (by decide) ?_
  refine Z_aload_n dX3_sows_2 rfl rfl ?_
  refine Z_T2z dX3_sows_3 to_X10_began wd_863 wd_864 sc_X10_began (Nat.le_of_ble_eq_true rfl) ⟨rfl, rfl⟩ ⟨by decide, by decide⟩ ?_
  refine k_began (b := 11) hr (by omega) (fun β hr1 hf1 => ?_)
  have ho1 := ho.f33 hf1
  refine Z_aload_n dX3_sows_6 rfl rfl ?_
  refine Z_iload_n dX3_sows_7 rfl rfl ?_
  refine Z_iconst (v := 3) dX3_sows_8 (by decide) ?_
  refine Z_imul dX3_sows_9 ?_
  refine Z_aload_n dX3_sows_10 rfl rfl ?_
  refine Z_SU2z (ci := 3) dX3_sows_11 to_X10_sows wd_865 wd_848 wd_488 im_X10_sows (by decide) rfl ho1.2.2.1 (Nat.le_of_ble_eq_true rfl) ⟨rfl, rfl⟩ ⟨by decide, by decide⟩ ?_
  refine k_sows10 ho1 hr1 (by simp; omega) (fun γ hr2 hf2 => ?_)
  refine Z_iret dX3_sows_14 rfl rfl ⟨by decide, by decide⟩ ?_
  rw [List.append_assoc] at hr2
  exact h γ hr2 (hf1.tr hf2)
theorem k_sows3_6 (ho : wObj α c 4 num v row) (hr : cRun α l) (hl : l.length + 2 ≤ 20) (h : ∀ β, cRun β (l ++ ((x * 3 + num, [11, 1]) : Int32 × List Nat).2) → fr33 α β → post (some (.int ((x * 3 + num, [11, 1]) : Int32 × List Nat).1)) β) : ZK G (d + 3) mX3_sows [.ref (G.1 + c), .int x, .ref (G.1 + 33)] α post := by
  refine ZK.of (n := 0) (by decide) (Nat.le_of_ble_eq_true rfl) rfl ?_
  refine Z_bipush (v := 11) dX3_sows_0 (by decide) ?_
  refine Z_aload_n dX3_sows_2 rfl rfl ?_
  refine Z_T2z dX3_sows_3 to_X10_began wd_863 wd_864 sc_X10_began (Nat.le_of_ble_eq_true rfl) ⟨rfl, rfl⟩ ⟨by decide, by decide⟩ ?_
  refine k_began (b := 11) hr (by omega) (fun β hr1 hf1 => ?_)
  have ho1 := ho.f33 hf1
  refine Z_aload_n dX3_sows_6 rfl rfl ?_
  refine Z_iload_n dX3_sows_7 rfl rfl ?_
  refine Z_iconst (v := 3) dX3_sows_8 (by decide) ?_
  refine Z_imul dX3_sows_9 ?_
  refine Z_aload_n dX3_sows_10 rfl rfl ?_
  refine Z_SU2z (ci := 6) dX3_sows_11 to_X10_sows wd_865 wd_848 wd_488 im_X10_sows (by decide) rfl ho1.2.2.1 (Nat.le_of_ble_eq_true rfl) ⟨rfl, rfl⟩ ⟨by decide, by decide⟩ ?_
  refine k_sows10 ho1 hr1 (by simp; omega) (fun γ hr2 hf2 => ?_)
  refine Z_iret dX3_sows_14 rfl rfl ⟨by decide, by decide⟩ ?_
  rw [List.append_assoc] at hr2
  exact h γ hr2 (hf1.tr hf2)
theorem k_sows1 (ho : wObj α c 5 num v row) (hr : cRun α l) (hl : l.length + 2 ≤ 20) (h : ∀ β, cRun β (l ++ (((x + num) ^^^ num, [51, 1]) : Int32 × List Nat).2) → fr33 α β → post (some (.int (((x + num) ^^^ num, [51, 1]) : Int32 × List Nat).1)) β) : ZK G (d + 3) mX1_sows [.ref (G.1 + c), .int x, .ref (G.1 + 33)] α post := by
  refine ZK.of (n := 0) (by decide) (Nat.le_of_ble_eq_true rfl) rfl ?_
  refine Z_bipush (v := 51) dX1_sows_0 (by decide) ?_
  refine Z_aload_n dX1_sows_2 rfl rfl ?_
  refine Z_T2z dX1_sows_3 to_X10_began wd_852 wd_853 sc_X10_began (Nat.le_of_ble_eq_true rfl) ⟨rfl, rfl⟩ ⟨by decide, by decide⟩ ?_
  refine k_began (b := 51) hr (by omega) (fun β hr1 hf1 => ?_)
  have ho1 := ho.f33 hf1
  refine Z_aload_n dX1_sows_6 rfl rfl ?_
  refine Z_iload_n dX1_sows_7 rfl rfl ?_
  refine Z_aload_n dX1_sows_8 rfl rfl ?_
  refine Z_SX2z (ci := 1) dX1_sows_9 to_X10_sows wd_856 wd_857 wd_528 wd_498 im_X10_sows (by decide) rfl (by first | exact ho2.2.2.1 | exact ho1.2.2.1) (Nat.le_of_ble_eq_true rfl) ⟨rfl, rfl⟩ ⟨by decide, by decide⟩ ?_
  refine k_sows10 ho1 hr1 (by simp; omega) (fun γ hr2 hf2 => ?_)
  have ho2 := ho1.f33 hf2
  refine Z_aload_n dX1_sows_12 rfl rfl ?_
  refine Z_getIv dX1_sows_13 cl_1 fl_X1_23_1 rfl (by first | exact ho2.2.2.1 | exact ho1.2.2.1) ho2.2.2.2.2.1 ?_
  refine Z_ixor dX1_sows_16 ?_
  refine Z_iret dX1_sows_17 rfl rfl ⟨by decide, by decide⟩ ?_
  rw [List.append_assoc] at hr2
  exact h γ hr2 (hf1.tr hf2)
theorem Z_sows (hd : decode (mC M) pc = .ok (.invokevirtual idx, 3)) (lk : Cond.methodLink (mY M).cls idx yX10_sows ∈ zT) (ho : wObj α c kd num v row) (hr : cRun α l) (hl : l.length + 2 ≤ 20) (hst : (st.map fun v => v.category).sum ≤ 8) (hu : u.1 ≤ mK M ∧ u.2 ≤ mS M) (h : ∀ β, cRun β (l ++ (aSows kd num x).2) → fr33 α β → Z G M (d + 4) (pc + 3) L (.int (aSows kd num x).1 :: st) β u post) : Z G M (d + 4) pc L (.ref (G.1 + 33) :: .int x :: .ref (G.1 + c) :: st) α u post := by
  have ho' := ho
  obtain ⟨hfz, hk6, hz, -⟩ := ho'
  have hk : kd = 0 ∨ kd = 1 ∨ kd = 2 ∨ kd = 3 ∨ kd = 4 ∨ kd = 5 ∨ kd = 6 := by omega
  rcases hk with rfl | rfl | rfl | rfl | rfl | rfl | rfl
  · exact Z_U2z (ci := 10) hd to_X10_sows lk wd_848 ⟨wd_846, wd_869⟩ ⟨by decide, by decide, rfl⟩ rfl wd_847 im_X10_sows hz hst ⟨rfl, rfl⟩ hu (k_sows10 ho hr (by omega) h)
  · exact Z_U2z (ci := 3) hd to_X3_sows lk wd_848 ⟨wd_846, wd_869⟩ ⟨by decide, by decide, rfl⟩ rfl wd_860 im_X3_sows hz hst ⟨rfl, rfl⟩ hu (k_sows3_3 ho hr (by omega) h)
  · exact Z_U2z (ci := 2) hd to_X10_sows lk wd_848 ⟨wd_846, wd_869⟩ ⟨by decide, by decide, rfl⟩ rfl wd_859 im_X10_sows hz hst ⟨rfl, rfl⟩ hu (k_sows10 ho hr (by omega) h)
  · exact Z_U2z (ci := 9) hd to_X10_sows lk wd_848 ⟨wd_846, wd_869⟩ ⟨by decide, by decide, rfl⟩ rfl wd_868 im_X10_sows hz hst ⟨rfl, rfl⟩ hu (k_sows10 ho hr (by omega) h)
  · exact Z_U2z (ci := 6) hd to_X3_sows lk wd_848 ⟨wd_846, wd_869⟩ ⟨by decide, by decide, rfl⟩ rfl wd_866 im_X3_sows hz hst ⟨rfl, rfl⟩ hu (k_sows3_6 ho hr (by omega) h)
  · exact Z_U2z (ci := 1) hd to_X1_sows lk wd_848 ⟨wd_846, wd_869⟩ ⟨by decide, by decide, rfl⟩ rfl wd_849 im_X1_sows hz hst ⟨rfl, rfl⟩ hu (k_sows1 ho hr (by omega) h)
  · exact Z_U2z (ci := 7) hd to_X10_sows lk wd_848 ⟨wd_846, wd_869⟩ ⟨by decide, by decide, rfl⟩ rfl wd_867 im_X10_sows hz hst ⟨rfl, rfl⟩ hu (k_sows10 ho hr (by omega) h)
theorem k_cuts10 (ho : wObj α c kd num v row) (hr : cRun α l) (hl : l.length + 3 ≤ 20) (h : ∀ β, cRun β (l ++ (aPCuts kd num v x).2) → fr33 α β → post (some (.int (aPCuts kd num v x).1)) β) : ZK G (d + 5) mX10_cuts [.ref (G.1 + c), .int x, .ref (G.1 + 33)] α post := by
  refine ZK.of (n := 0) (by decide) (Nat.le_of_ble_eq_true rfl) rfl ?_
  refine Z_iconst (v := 2) dX10_cuts_0 (by decide) ?_
  refine Z_aload_n dX10_cuts_1 rfl rfl ?_
  refine Z_S2z dX10_cuts_2 to_X10_began lk_X10_21 sc_X10_began (Nat.le_of_ble_eq_true rfl) ⟨rfl, rfl⟩ ⟨by decide, by decide⟩ ?_
  refine k_began (b := 2) hr (by omega) (fun β hr1 hf1 => ?_)
  have ho1 := ho.f33 hf1
  refine Z_aload_n dX10_cuts_5 rfl rfl ?_
  refine Z_iload_n dX10_cuts_6 rfl rfl ?_
  refine Z_aload_n dX10_cuts_7 rfl rfl ?_
  refine Z_sows (d := d + 1) dX10_cuts_8 wd_894 ho1 hr1 (by simp; omega) (Nat.le_of_ble_eq_true rfl) ⟨by decide, by decide⟩ (fun γ hr2 hf2 => ?_)
  have ho2 := ho1.f33 hf2
  refine Z_aload_n dX10_cuts_11 rfl rfl ?_
  refine Z_wget dX10_cuts_12 fw_X10_18 (by decide) ho2 ?_
  rw [ho2.2.2.2.2.2.1]
  refine Z_isub dX10_cuts_15 ?_
  refine Z_iret dX10_cuts_16 rfl rfl ⟨by decide, by decide⟩ ?_
  rw [List.append_assoc] at hr2
  exact h γ hr2 (hf1.tr hf2)
theorem k_cuts2_2 (ho : wObj α c 2 num v row) (hr : cRun α l) (hl : l.length + 4 ≤ 20) (h : ∀ β, cRun β (l ++ ((-(aPCuts 2 num v x).1, 21 :: (aPCuts 2 num v x).2) : Int32 × List Nat).2) → fr33 α β → post (some (.int ((-(aPCuts 2 num v x).1, 21 :: (aPCuts 2 num v x).2) : Int32 × List Nat).1)) β) : ZK G (d + 6) mX2_cuts [.ref (G.1 + c), .int x, .ref (G.1 + 33)] α post := by
  refine ZK.of (n := 0) (by decide) (Nat.le_of_ble_eq_true rfl) rfl ?_
  refine Z_bipush (v := 21) dX2_cuts_0 (by decide) ?_
  refine Z_aload_n dX2_cuts_2 rfl rfl ?_
  refine Z_T2z dX2_cuts_3 to_X10_began wd_878 wd_879 sc_X10_began (Nat.le_of_ble_eq_true rfl) ⟨rfl, rfl⟩ ⟨by decide, by decide⟩ ?_
  refine k_began (b := 21) hr (by omega) (fun β hr1 hf1 => ?_)
  have ho1 := ho.f33 hf1
  refine Z_aload_n dX2_cuts_6 rfl rfl ?_
  refine Z_iload_n dX2_cuts_7 rfl rfl ?_
  refine Z_aload_n dX2_cuts_8 rfl rfl ?_
  refine Z_SU2z (ci := 2) dX2_cuts_9 to_X10_cuts wd_880 wd_874 wd_498 im_X10_cuts (by decide) rfl ho1.2.2.1 (Nat.le_of_ble_eq_true rfl) ⟨rfl, rfl⟩ ⟨by decide, by decide⟩ ?_
  refine k_cuts10 ho1 hr1 (by simp; omega) (fun γ hr2 hf2 => ?_)
  refine Z_ineg dX2_cuts_12 ?_
  refine Z_iret dX2_cuts_13 rfl rfl ⟨by decide, by decide⟩ ?_
  rw [List.append_assoc] at hr2
  exact h γ hr2 (hf1.tr hf2)
theorem k_cuts2_1 (ho : wObj α c 5 num v row) (hr : cRun α l) (hl : l.length + 4 ≤ 20) (h : ∀ β, cRun β (l ++ ((-(aPCuts 5 num v x).1, 21 :: (aPCuts 5 num v x).2) : Int32 × List Nat).2) → fr33 α β → post (some (.int ((-(aPCuts 5 num v x).1, 21 :: (aPCuts 5 num v x).2) : Int32 × List Nat).1)) β) : ZK G (d + 6) mX2_cuts [.ref (G.1 + c), .int x, .ref (G.1 + 33)] α post := by
  refine ZK.of (n := 0) (by decide) (Nat.le_of_ble_eq_true rfl) rfl ?_
  refine Z_bipush (v := 21) dX2_cuts_0 (by decide) ?_
  refine Z_aload_n dX2_cuts_2 rfl rfl ?_
  refine Z_T2z dX2_cuts_3 to_X10_began wd_878 wd_879 sc_X10_began (Nat.le_of_ble_eq_true rfl) ⟨rfl, rfl⟩ ⟨by decide, by decide⟩ ?_
  refine k_began (b := 21) hr (by omega) (fun β hr1 hf1 => ?_)
  have ho1 := ho.f33 hf1
  refine Z_aload_n dX2_cuts_6 rfl rfl ?_
  refine Z_iload_n dX2_cuts_7 rfl rfl ?_
  refine Z_aload_n dX2_cuts_8 rfl rfl ?_
  refine Z_SU2z (ci := 1) dX2_cuts_9 to_X10_cuts wd_880 wd_874 wd_498 im_X10_cuts (by decide) rfl ho1.2.2.1 (Nat.le_of_ble_eq_true rfl) ⟨rfl, rfl⟩ ⟨by decide, by decide⟩ ?_
  refine k_cuts10 ho1 hr1 (by simp; omega) (fun γ hr2 hf2 => ?_)
  refine Z_ineg dX2_cuts_12 ?_
  refine Z_iret dX2_cuts_13 rfl rfl ⟨by decide, by decide⟩ ?_
  rw [List.append_assoc] at hr2
  exact h γ hr2 (hf1.tr hf2)
theorem k_cuts7 (ho : wObj α c 6 num v row) (hr : cRun α l) (hl : l.length + 4 ≤ 20) (h : ∀ β, cRun β (l ++ (((aPCuts 6 num v x).1 + v, 61 :: (aPCuts 6 num v x).2) : Int32 × List Nat).2) → fr33 α β → post (some (.int (((aPCuts 6 num v x).1 + v, 61 :: (aPCuts 6 num v x).2) : Int32 × List Nat).1)) β) : ZK G (d + 6) mX7_cuts [.ref (G.1 + c), .int x, .ref (G.1 + 33)] α post := by
  refine ZK.of (n := 0) (by decide) (Nat.le_of_ble_eq_true rfl) rfl ?_
  refine Z_bipush (v := 61) dX7_cuts_0 (by decide) ?_
  refine Z_aload_n dX7_cuts_2 rfl rfl ?_
  refine Z_T2z dX7_cuts_3 to_X10_began wd_887 wd_888 sc_X10_began (Nat.le_of_ble_eq_true rfl) ⟨rfl, rfl⟩ ⟨by decide, by decide⟩ ?_
  refine k_began (b := 61) hr (by omega) (fun β hr1 hf1 => ?_)
  have ho1 := ho.f33 hf1
  refine Z_aload_n dX7_cuts_6 rfl rfl ?_
  refine Z_iload_n dX7_cuts_7 rfl rfl ?_
  refine Z_aload_n dX7_cuts_8 rfl rfl ?_
  refine Z_SX2z (ci := 7) dX7_cuts_9 to_X10_cuts wd_889 wd_890 wd_541 wd_508 im_X10_cuts (by decide) rfl (by first | exact ho2.2.2.1 | exact ho1.2.2.1) (Nat.le_of_ble_eq_true rfl) ⟨rfl, rfl⟩ ⟨by decide, by decide⟩ ?_
  refine k_cuts10 ho1 hr1 (by simp; omega) (fun γ hr2 hf2 => ?_)
  have ho2 := ho1.f33 hf2
  refine Z_aload_n dX7_cuts_12 rfl rfl ?_
  refine Z_getIv dX7_cuts_13 cl_7 fl_X7_18_7 rfl (by first | exact ho2.2.2.1 | exact ho1.2.2.1) ho2.2.2.2.2.2.1 ?_
  refine Z_iadd dX7_cuts_16 ?_
  refine Z_iret dX7_cuts_17 rfl rfl ⟨by decide, by decide⟩ ?_
  rw [List.append_assoc] at hr2
  exact h γ hr2 (hf1.tr hf2)
theorem Z_cuts (hd : decode (mC M) pc = .ok (.invokevirtual idx, 3)) (lk : Cond.methodLink (mY M).cls idx yX10_cuts ∈ zT) (ho : wObj α c kd num v row) (hr : cRun α l) (hl : l.length + 4 ≤ 20) (hst : (st.map fun v => v.category).sum ≤ 8) (hu : u.1 ≤ mK M ∧ u.2 ≤ mS M) (h : ∀ β, cRun β (l ++ (aCuts kd num v x).2) → fr33 α β → Z G M (d + 7) (pc + 3) L (.int (aCuts kd num v x).1 :: st) β u post) : Z G M (d + 7) pc L (.ref (G.1 + 33) :: .int x :: .ref (G.1 + c) :: st) α u post := by
  have ho' := ho
  obtain ⟨hfz, hk6, hz, -⟩ := ho'
  have hk : kd = 0 ∨ kd = 1 ∨ kd = 2 ∨ kd = 3 ∨ kd = 4 ∨ kd = 5 ∨ kd = 6 := by omega
  rcases hk with rfl | rfl | rfl | rfl | rfl | rfl | rfl
  · exact Z_U2z (ci := 10) hd to_X10_cuts lk wd_874 ⟨wd_872, wd_893⟩ ⟨by decide, by decide, rfl⟩ rfl wd_873 im_X10_cuts hz hst ⟨rfl, rfl⟩ hu (k_cuts10 ho hr (by omega) h)
  · exact Z_U2z (ci := 3) hd to_X10_cuts lk wd_874 ⟨wd_872, wd_893⟩ ⟨by decide, by decide, rfl⟩ rfl wd_882 im_X10_cuts hz hst ⟨rfl, rfl⟩ hu (k_cuts10 ho hr (by omega) h)
  · exact Z_U2z (ci := 2) hd to_X2_cuts lk wd_874 ⟨wd_872, wd_893⟩ ⟨by decide, by decide, rfl⟩ rfl wd_881 im_X2_cuts hz hst ⟨rfl, rfl⟩ hu (k_cuts2_2 ho hr (by omega) h)
  · exact Z_U2z (ci := 9) hd to_X10_cuts lk wd_874 ⟨wd_872, wd_893⟩ ⟨by decide, by decide, rfl⟩ rfl wd_892 im_X10_cuts hz hst ⟨rfl, rfl⟩ hu (k_cuts10 ho hr (by omega) h)
  · exact Z_U2z (ci := 6) hd to_X10_cuts lk wd_874 ⟨wd_872, wd_893⟩ ⟨by decide, by decide, rfl⟩ rfl wd_883 im_X10_cuts hz hst ⟨rfl, rfl⟩ hu (k_cuts10 ho hr (by omega) h)
  · exact Z_U2z (ci := 1) hd to_X2_cuts lk wd_874 ⟨wd_872, wd_893⟩ ⟨by decide, by decide, rfl⟩ rfl wd_875 im_X2_cuts hz hst ⟨rfl, rfl⟩ hu (k_cuts2_1 ho hr (by omega) h)
  · exact Z_U2z (ci := 7) hd to_X7_cuts lk wd_874 ⟨wd_872, wd_893⟩ ⟨by decide, by decide, rfl⟩ rfl wd_884 im_X7_cuts hz hst ⟨rfl, rfl⟩ hu (k_cuts7 ho hr (by omega) h)
theorem k_tells10 (ho : wObj α c kd num v row) (hr : cRun α l) (hl : l.length + 5 ≤ 20) (h : ∀ β, cRun β (l ++ (aPTells kd num v x).2) → fr33 α β → post (some (.int (aPTells kd num v x).1)) β) : ZK G (d + 8) mX10_tells [.ref (G.1 + c), .int x, .ref (G.1 + 33)] α post := by
  refine ZK.of (n := 0) (by decide) (Nat.le_of_ble_eq_true rfl) rfl ?_
  refine Z_iconst (v := 3) dX10_tells_0 (by decide) ?_
  refine Z_aload_n dX10_tells_1 rfl rfl ?_
  refine Z_S2z dX10_tells_2 to_X10_began lk_X10_21 sc_X10_began (Nat.le_of_ble_eq_true rfl) ⟨rfl, rfl⟩ ⟨by decide, by decide⟩ ?_
  refine k_began (b := 3) hr (by omega) (fun β hr1 hf1 => ?_)
  have ho1 := ho.f33 hf1
  refine Z_aload_n dX10_tells_5 rfl rfl ?_
  refine Z_iload_n dX10_tells_6 rfl rfl ?_
  refine Z_aload_n dX10_tells_7 rfl rfl ?_
  refine Z_cuts (d := d + 1) dX10_tells_8 wd_922 ho1 hr1 (by simp; omega) (Nat.le_of_ble_eq_true rfl) ⟨by decide, by decide⟩ (fun γ hr2 hf2 => ?_)
  refine Z_iconst (v := 2) dX10_tells_11 (by decide) ?_
  refine Z_imul dX10_tells_12 ?_
  refine Z_iret dX10_tells_13 rfl rfl ⟨by decide, by decide⟩ ?_
  rw [List.append_assoc] at hr2
  exact h γ hr2 (hf1.tr hf2)
theorem k_tells9_9 (ho : wObj α c 3 num v row) (hr : cRun α l) (hl : l.length + 6 ≤ 20) (h : ∀ β, cRun β (l ++ (((aPTells 3 num v x).1 ^^^ 7, 31 :: (aPTells 3 num v x).2) : Int32 × List Nat).2) → fr33 α β → post (some (.int (((aPTells 3 num v x).1 ^^^ 7, 31 :: (aPTells 3 num v x).2) : Int32 × List Nat).1)) β) : ZK G (d + 9) mX9_tells [.ref (G.1 + c), .int x, .ref (G.1 + 33)] α post := by
  refine ZK.of (n := 0) (by decide) (Nat.le_of_ble_eq_true rfl) rfl ?_
  refine Z_bipush (v := 31) dX9_tells_0 (by decide) ?_
  refine Z_aload_n dX9_tells_2 rfl rfl ?_
  refine Z_T2z dX9_tells_3 to_X10_began wd_917 wd_918 sc_X10_began (Nat.le_of_ble_eq_true rfl) ⟨rfl, rfl⟩ ⟨by decide, by decide⟩ ?_
  refine k_began (b := 31) hr (by omega) (fun β hr1 hf1 => ?_)
  have ho1 := ho.f33 hf1
  refine Z_aload_n dX9_tells_6 rfl rfl ?_
  refine Z_iload_n dX9_tells_7 rfl rfl ?_
  refine Z_aload_n dX9_tells_8 rfl rfl ?_
  refine Z_SU2z (ci := 9) dX9_tells_9 to_X10_tells wd_919 wd_898 wd_508 im_X10_tells (by decide) rfl ho1.2.2.1 (Nat.le_of_ble_eq_true rfl) ⟨rfl, rfl⟩ ⟨by decide, by decide⟩ ?_
  refine k_tells10 ho1 hr1 (by simp; omega) (fun γ hr2 hf2 => ?_)
  refine Z_bipush (v := 7) dX9_tells_12 (by decide) ?_
  refine Z_ixor dX9_tells_14 ?_
  refine Z_iret dX9_tells_15 rfl rfl ⟨by decide, by decide⟩ ?_
  rw [List.append_assoc] at hr2
  exact h γ hr2 (hf1.tr hf2)
theorem k_tells9_7 (ho : wObj α c 6 num v row) (hr : cRun α l) (hl : l.length + 6 ≤ 20) (h : ∀ β, cRun β (l ++ (((aPTells 6 num v x).1 ^^^ 7, 31 :: (aPTells 6 num v x).2) : Int32 × List Nat).2) → fr33 α β → post (some (.int (((aPTells 6 num v x).1 ^^^ 7, 31 :: (aPTells 6 num v x).2) : Int32 × List Nat).1)) β) : ZK G (d + 9) mX9_tells [.ref (G.1 + c), .int x, .ref (G.1 + 33)] α post := by
  refine ZK.of (n := 0) (by decide) (Nat.le_of_ble_eq_true rfl) rfl ?_
  refine Z_bipush (v := 31) dX9_tells_0 (by decide) ?_
  refine Z_aload_n dX9_tells_2 rfl rfl ?_
  refine Z_T2z dX9_tells_3 to_X10_began wd_917 wd_918 sc_X10_began (Nat.le_of_ble_eq_true rfl) ⟨rfl, rfl⟩ ⟨by decide, by decide⟩ ?_
  refine k_began (b := 31) hr (by omega) (fun β hr1 hf1 => ?_)
  have ho1 := ho.f33 hf1
  refine Z_aload_n dX9_tells_6 rfl rfl ?_
  refine Z_iload_n dX9_tells_7 rfl rfl ?_
  refine Z_aload_n dX9_tells_8 rfl rfl ?_
  refine Z_SU2z (ci := 7) dX9_tells_9 to_X10_tells wd_919 wd_898 wd_508 im_X10_tells (by decide) rfl ho1.2.2.1 (Nat.le_of_ble_eq_true rfl) ⟨rfl, rfl⟩ ⟨by decide, by decide⟩ ?_
  refine k_tells10 ho1 hr1 (by simp; omega) (fun γ hr2 hf2 => ?_)
  refine Z_bipush (v := 7) dX9_tells_12 (by decide) ?_
  refine Z_ixor dX9_tells_14 ?_
  refine Z_iret dX9_tells_15 rfl rfl ⟨by decide, by decide⟩ ?_
  rw [List.append_assoc] at hr2
  exact h γ hr2 (hf1.tr hf2)
theorem k_tells6 (ho : wObj α c 4 num v row) (hr : cRun α l) (hl : l.length + 8 ≤ 20) (h : ∀ β, cRun β (l ++ (((aPTells 4 num v (x - 1)).1 + (aSows 4 num 2).1, 41 :: ((aPTells 4 num v (x - 1)).2 ++ (aSows 4 num 2).2)) : Int32 × List Nat).2) → fr33 α β → post (some (.int (((aPTells 4 num v (x - 1)).1 + (aSows 4 num 2).1, 41 :: ((aPTells 4 num v (x - 1)).2 ++ (aSows 4 num 2).2)) : Int32 × List Nat).1)) β) : ZK G (d + 9) mX6_tells [.ref (G.1 + c), .int x, .ref (G.1 + 33)] α post := by
  refine ZK.of (n := 0) (by decide) (Nat.le_of_ble_eq_true rfl) rfl ?_
  have hpl := aPTells_len 4 num v (x - 1)
  refine Z_bipush (v := 41) dX6_tells_0 (by decide) ?_
  refine Z_aload_n dX6_tells_2 rfl rfl ?_
  refine Z_T2z dX6_tells_3 to_X10_began wd_905 wd_906 sc_X10_began (Nat.le_of_ble_eq_true rfl) ⟨rfl, rfl⟩ ⟨by decide, by decide⟩ ?_
  refine k_began (b := 41) hr (by omega) (fun β hr1 hf1 => ?_)
  have ho1 := ho.f33 hf1
  refine Z_aload_n dX6_tells_6 rfl rfl ?_
  refine Z_iload_n dX6_tells_7 rfl rfl ?_
  refine Z_iconst (v := 1) dX6_tells_8 (by decide) ?_
  refine Z_isub dX6_tells_9 ?_
  refine Z_aload_n dX6_tells_10 rfl rfl ?_
  refine Z_SX2z (ci := 6) dX6_tells_11 to_X10_tells wd_907 wd_908 wd_518 wd_488 im_X10_tells (by decide) rfl (by first | exact ho2.2.2.1 | exact ho1.2.2.1) (Nat.le_of_ble_eq_true rfl) ⟨rfl, rfl⟩ ⟨by decide, by decide⟩ ?_
  refine k_tells10 ho1 hr1 (by simp; omega) (fun γ hr2 hf2 => ?_)
  have ho2 := ho1.f33 hf2
  refine Z_aload_n dX6_tells_14 rfl rfl ?_
  refine Z_iconst (v := 2) dX6_tells_15 (by decide) ?_
  refine Z_aload_n dX6_tells_16 rfl rfl ?_
  refine Z_U2z (ci := 6) dX6_tells_17 to_X3_sows wd_910 wd_911 ⟨wd_861, wd_862⟩ ⟨by decide, by decide, rfl⟩ rfl wd_913 im_X3_sows (by first | exact ho2.2.2.1 | exact ho1.2.2.1) (Nat.le_of_ble_eq_true rfl) ⟨rfl, rfl⟩ ⟨by decide, by decide⟩ ?_
  refine k_sows3_6 ho2 hr2 (by simp; omega) (fun δ hr3 hf3 => ?_)
  refine Z_iadd dX6_tells_20 ?_
  refine Z_iret dX6_tells_21 rfl rfl ⟨by decide, by decide⟩ ?_
  rw [List.append_assoc, List.append_assoc] at hr3
  exact h δ hr3 ((hf1.tr hf2).tr hf3)
theorem Z_tells (hd : decode (mC M) pc = .ok (.invokevirtual idx, 3)) (lk : Cond.methodLink (mY M).cls idx yX10_tells ∈ zT) (ho : wObj α c kd num v row) (hr : cRun α l) (hl : l.length + 8 ≤ 20) (hst : (st.map fun v => v.category).sum ≤ 8) (hu : u.1 ≤ mK M ∧ u.2 ≤ mS M) (h : ∀ β, cRun β (l ++ (aTells kd num v x).2) → fr33 α β → Z G M (d + 10) (pc + 3) L (.int (aTells kd num v x).1 :: st) β u post) : Z G M (d + 10) pc L (.ref (G.1 + 33) :: .int x :: .ref (G.1 + c) :: st) α u post := by
  have ho' := ho
  obtain ⟨hfz, hk6, hz, -⟩ := ho'
  have hk : kd = 0 ∨ kd = 1 ∨ kd = 2 ∨ kd = 3 ∨ kd = 4 ∨ kd = 5 ∨ kd = 6 := by omega
  rcases hk with rfl | rfl | rfl | rfl | rfl | rfl | rfl
  · exact Z_U2z (ci := 10) hd to_X10_tells lk wd_898 ⟨wd_896, wd_921⟩ ⟨by decide, by decide, rfl⟩ rfl wd_897 im_X10_tells hz hst ⟨rfl, rfl⟩ hu (k_tells10 ho hr (by omega) h)
  · exact Z_U2z (ci := 3) hd to_X10_tells lk wd_898 ⟨wd_896, wd_921⟩ ⟨by decide, by decide, rfl⟩ rfl wd_901 im_X10_tells hz hst ⟨rfl, rfl⟩ hu (k_tells10 ho hr (by omega) h)
  · exact Z_U2z (ci := 2) hd to_X10_tells lk wd_898 ⟨wd_896, wd_921⟩ ⟨by decide, by decide, rfl⟩ rfl wd_900 im_X10_tells hz hst ⟨rfl, rfl⟩ hu (k_tells10 ho hr (by omega) h)
  · exact Z_U2z (ci := 9) hd to_X9_tells lk wd_898 ⟨wd_896, wd_921⟩ ⟨by decide, by decide, rfl⟩ rfl wd_920 im_X9_tells hz hst ⟨rfl, rfl⟩ hu (k_tells9_9 ho hr (by omega) h)
  · exact Z_U2z (ci := 6) hd to_X6_tells lk wd_898 ⟨wd_896, wd_921⟩ ⟨by decide, by decide, rfl⟩ rfl wd_902 im_X6_tells hz hst ⟨rfl, rfl⟩ hu (k_tells6 ho hr (by omega) h)
  · exact Z_U2z (ci := 1) hd to_X10_tells lk wd_898 ⟨wd_896, wd_921⟩ ⟨by decide, by decide, rfl⟩ rfl wd_899 im_X10_tells hz hst ⟨rfl, rfl⟩ hu (k_tells10 ho hr (by omega) h)
  · exact Z_U2z (ci := 7) hd to_X9_tells lk wd_898 ⟨wd_896, wd_921⟩ ⟨by decide, by decide, rfl⟩ rfl wd_914 im_X9_tells hz hst ⟨rfl, rfl⟩ hu (k_tells9_7 ho hr (by omega) h)
end CT1
