section CP3
variable {G : ZG} {d : Nat} {α β : AH} {post : Option Value → AH → Prop} {Γ : Nat → VC} {A : ZA}
theorem CRel.pages {m : Nat} (hr : CRel Γ A α) (hm : m ≤ 12) : CRel Γ (zset A 2 m) (sI α 5 11 (nI m)) := by
  have sea := hr.2.2.2.1
  have b0 : A.1.1 0 ≤ 8 := hr.sb.at (by omega) rfl
  have hf : frI (fun k => 5 ≤ k ∧ k ≤ 10) α (sI α 5 11 (nI m)) := frI.sI ⟨by omega, by omega⟩
  refine hr.now hf (hr.sb.set (i := 2) hm (by omega) (by omega)) (sea.up hf b0 ⟨fun i hi => ?_, fun i hi => ?_, fun i hi => ?_, fun i hi => ?_⟩ ⟨?_, ?_, ?_, ?_, ?_, ?_⟩ (fun i hi => u1_n (by omega)) (fun i hi => u1_n (by omega)))
  · rw [hI_sI, if_neg (by omega), u1_n (by omega)]; exact sea.1.1 i hi
  · rw [hI_sI, if_neg (by omega), u1_n (by omega)]; exact sea.1.2.1 i hi
  · rw [hI_sI, if_neg (by omega), u1_n (by omega)]; exact sea.1.2.2.1 i hi
  · rw [hI_sI, if_neg (by omega), u1_n (by omega)]; exact sea.1.2.2.2 i hi
  · rw [hI_sI, if_neg (by omega), u1_n (by omega)]; exact sea.2.1.1
  · rw [hI_sI, if_neg (by omega)]
    unfold zss
    rw [u1_n (by omega), u1_n (by omega), u1_n (by omega)]; exact sea.2.1.2.1
  · rw [hI_sI, if_neg (by omega), u1_n (by omega)]; exact sea.2.1.2.2.1
  · rw [hI_sI, if_neg (by omega), u1_n (by omega)]; exact sea.2.1.2.2.2.1
  · rw [hI_sI, if_neg (by omega), u1_n (by omega)]; exact sea.2.1.2.2.2.2.1
  · rw [hI_sI, if_pos ⟨rfl, rfl⟩, u1_s]
theorem CRel.book {j m : Nat} (hr : CRel Γ A α) (hj : j < 12) (hm : m ≤ 2) : CRel Γ (zset A (152 + j) m) (sI α 10 j (nI m)) := by
  have sea := hr.2.2.2.1
  have b0 : A.1.1 0 ≤ 8 := hr.2.2.1.at (by omega) rfl
  have hf : frI (fun k => 5 ≤ k ∧ k ≤ 10) α (sI α 10 j (nI m)) := frI.sI ⟨by omega, by omega⟩
  refine hr.now hf (hr.2.2.1.set (by rw [zbd_book hj]; exact hm) (by omega) (by omega)) (sea.up hf b0 ⟨fun i hi => ?_, fun i hi => ?_, fun i hi => ?_, fun i hi => ?_⟩ ?_ (fun i hi => u1_n (by omega)) (fun i hi => u1_n (by omega)))
  · rw [hI_sI, if_neg (by omega), u1_n (by omega)]; exact sea.1.1 i hi
  · rw [hI_sI, if_neg (by omega), u1_n (by omega)]; exact sea.1.2.1 i hi
  · rw [hI_sI, if_neg (by omega), u1_n (by omega)]; exact sea.1.2.2.1 i hi
  · rw [hI_sI]
    by_cases e : i = j
    · subst e; rw [if_pos ⟨rfl, rfl⟩, u1_s]
    · rw [if_neg (by omega), u1_n (by omega)]; exact sea.1.2.2.2 i hi
  · unfold cNums zss
    rw [sI_ne (by decide), u1_n (by omega), u1_n (by omega), u1_n (by omega), u1_n (by omega), u1_n (by omega), u1_n (by omega), u1_n (by omega), u1_n (by omega)]
    exact sea.2.1
theorem CRel.tape {j m : Nat} (hr : CRel Γ A α) (hj : j < 100) (hm : m ≤ 127) : CRel Γ (zset A (12 + j) m) (sI α 8 j (nI m)) := by
  have sea := hr.2.2.2.1
  have b0 : A.1.1 0 ≤ 8 := hr.2.2.1.at (by omega) rfl
  have hf : frI (fun k => 5 ≤ k ∧ k ≤ 10) α (sI α 8 j (nI m)) := frI.sI ⟨by omega, by omega⟩
  refine hr.now hf (hr.2.2.1.set (by rw [zbd_tape hj]; exact hm) (by omega) (by omega)) (sea.up hf b0 ⟨fun i hi => ?_, fun i hi => ?_, fun i hi => ?_, fun i hi => ?_⟩ ?_ (fun i hi => u1_n (by omega)) (fun i hi => u1_n (by omega)))
  · rw [hI_sI, if_neg (by omega), u1_n (by omega)]; exact sea.1.1 i hi
  · rw [hI_sI, if_neg (by omega), u1_n (by omega)]; exact sea.1.2.1 i hi
  · rw [hI_sI]
    by_cases e : i = j
    · subst e; rw [if_pos ⟨rfl, rfl⟩, u1_s]
    · rw [if_neg (by omega), u1_n (by omega)]; exact sea.1.2.2.1 i hi
  · rw [hI_sI, if_neg (by omega), u1_n (by omega)]; exact sea.1.2.2.2 i hi
  · unfold cNums zss
    rw [sI_ne (by decide), u1_n (by omega), u1_n (by omega), u1_n (by omega), u1_n (by omega), u1_n (by omega), u1_n (by omega), u1_n (by omega), u1_n (by omega)]
    exact sea.2.1
theorem CRel.sig {m : Nat} (hr : CRel Γ A α) (hm : m ≤ 100) : CRel Γ (zset A 3 m) (sI α 5 5 (nI m)) := by
  have sea := hr.2.2.2.1
  have b0 : A.1.1 0 ≤ 8 := hr.sb.at (by omega) rfl
  have hf : frI (fun k => 5 ≤ k ∧ k ≤ 10) α (sI α 5 5 (nI m)) := frI.sI ⟨by omega, by omega⟩
  refine hr.now hf (hr.sb.set (i := 3) hm (by omega) (by omega)) (sea.up hf b0 ⟨fun i hi => ?_, fun i hi => ?_, fun i hi => ?_, fun i hi => ?_⟩ ⟨?_, ?_, ?_, ?_, ?_, ?_⟩ (fun i hi => u1_n (by omega)) (fun i hi => u1_n (by omega)))
  · rw [hI_sI, if_neg (by omega), u1_n (by omega)]; exact sea.1.1 i hi
  · rw [hI_sI, if_neg (by omega), u1_n (by omega)]; exact sea.1.2.1 i hi
  · rw [hI_sI, if_neg (by omega), u1_n (by omega)]; exact sea.1.2.2.1 i hi
  · rw [hI_sI, if_neg (by omega), u1_n (by omega)]; exact sea.1.2.2.2 i hi
  · rw [hI_sI, if_neg (by omega), u1_n (by omega)]; exact sea.2.1.1
  · rw [hI_sI, if_neg (by omega)]
    unfold zss
    rw [u1_n (by omega), u1_n (by omega), u1_n (by omega)]; exact sea.2.1.2.1
  · rw [hI_sI, if_pos ⟨rfl, rfl⟩, u1_s]
  · rw [hI_sI, if_neg (by omega), u1_n (by omega)]; exact sea.2.1.2.2.2.1
  · rw [hI_sI, if_neg (by omega), u1_n (by omega)]; exact sea.2.1.2.2.2.2.1
  · rw [hI_sI, if_neg (by omega), u1_n (by omega)]; exact sea.2.1.2.2.2.2.2
theorem CRel.day {m : Nat} (hr : CRel Γ A α) (hm : m ≤ 99) : CRel Γ (zset A 5 m) (sI α 5 2 (nI m)) := by
  have sea := hr.2.2.2.1
  have b0 : A.1.1 0 ≤ 8 := hr.sb.at (by omega) rfl
  have hf : frI (fun k => 5 ≤ k ∧ k ≤ 10) α (sI α 5 2 (nI m)) := frI.sI ⟨by omega, by omega⟩
  refine hr.now hf (hr.sb.set (i := 5) hm (by omega) (by omega)) (sea.up hf b0 ⟨fun i hi => ?_, fun i hi => ?_, fun i hi => ?_, fun i hi => ?_⟩ ⟨?_, ?_, ?_, ?_, ?_, ?_⟩ (fun i hi => u1_n (by omega)) (fun i hi => u1_n (by omega)))
  · rw [hI_sI, if_neg (by omega), u1_n (by omega)]; exact sea.1.1 i hi
  · rw [hI_sI, if_neg (by omega), u1_n (by omega)]; exact sea.1.2.1 i hi
  · rw [hI_sI, if_neg (by omega), u1_n (by omega)]; exact sea.1.2.2.1 i hi
  · rw [hI_sI, if_neg (by omega), u1_n (by omega)]; exact sea.1.2.2.2 i hi
  · rw [hI_sI, if_pos ⟨rfl, rfl⟩, u1_s]
  · rw [hI_sI, if_neg (by omega)]
    unfold zss
    rw [u1_n (by omega), u1_n (by omega), u1_n (by omega)]; exact sea.2.1.2.1
  · rw [hI_sI, if_neg (by omega), u1_n (by omega)]; exact sea.2.1.2.2.1
  · rw [hI_sI, if_neg (by omega), u1_n (by omega)]; exact sea.2.1.2.2.2.1
  · rw [hI_sI, if_neg (by omega), u1_n (by omega)]; exact sea.2.1.2.2.2.2.1
  · rw [hI_sI, if_neg (by omega), u1_n (by omega)]; exact sea.2.1.2.2.2.2.2
theorem k_feed {x : Int32} (hr : CRel Γ A α) (h : ∀ β, CRel Γ (sp_feed A x).2 β → frC α β → post (some (.int (sp_feed A x).1)) β) : ZK G (d + 1) mX11_feed [.ref (G.1 + 0), .int x] α post := by
  have hw := hr.1
  have sea := hr.2.2.2.1
  have v3 : hI α 5 5 = nI (A.1.1 3) := sea.2.1.2.2.1
  have b3 : A.1.1 3 ≤ 100 := hr.sb.at (by omega) rfl
  have b0 : A.1.1 0 ≤ 8 := hr.sb.at (by omega) rfl
  have e0 : (0 : Int32).toInt = 0 := rfl
  have e127 : (127 : Int32).toInt = 127 := rfl
  refine ZK.of (n := 0) (by decide) (Nat.le_of_ble_eq_true rfl) rfl ?_
  refine Z_iload_n dX11_feed_0 rfl rfl ?_
  refine Z_if_lt (tgt := 10) dX11_feed_1 (by decide) (fun h1 => ?_) (fun h1 => ?_)
  · skip
    have z : ¬ (0 ≤ x ∧ x ≤ 127) := by simp only [Int32.lt_iff_toInt_lt, Int32.le_iff_toInt_le] at *; omega
    have e : sp_feed A x = (-2, A) := if_neg z
    rw [e] at h
    refine Z_bipush (v := -2) dX11_feed_10 (by decide) ?_
    refine Z_iret dX11_feed_12 rfl rfl ⟨by decide, by decide⟩ ?_
    exact h α hr frC.rf
  · skip
    refine Z_iload_n dX11_feed_4 rfl rfl ?_
    refine Z_bipush (v := 127) dX11_feed_5 (by decide) ?_
    refine Z_icmp_le (tgt := 13) dX11_feed_7 (by decide) (fun h7 => ?_) (fun h7 => ?_)
    · skip
      have z : 0 ≤ x ∧ x ≤ 127 := by simp only [Int32.lt_iff_toInt_lt, Int32.le_iff_toInt_le] at *; omega
      obtain ⟨q, hq, rfl⟩ := arg_nI (n := 127) rfl rfl z
      refine Z_aload_n dX11_feed_13 rfl rfl ?_
      refine Z_getR dX11_feed_14 cl_11 fl_X11_21_11 rfl (cw_i0 hw) (cw_p0_0 hw) ?_
      refine Z_getIv dX11_feed_17 cl_5 fl_X11_58_5 rfl (cw_i5 hw) v3 ?_
      refine Z_bipush (v := 100) dX11_feed_20 (by decide) ?_
      refine Z_icmp_lt (tgt := 28) dX11_feed_22 (by decide) (fun h22 => ?_) (fun h22 => ?_)
      · skip
        have g3 : A.1.1 3 < 100 := (nI_ltI (b := 100) (by omega) (by omega)).mp h22
        have e : sp_feed A (nI q) = (nI (A.1.1 3 + 1), zset (zset A (12 + A.1.1 3) q) 3 (A.1.1 3 + 1)) := by
          unfold sp_feed
          rw [if_pos z, if_neg (by omega), nI_clamp (by omega)]
        rw [e] at h
        refine Z_aload_n dX11_feed_28 rfl rfl ?_
        refine Z_getR dX11_feed_29 cl_11 fl_X11_21_11 rfl (cw_i0 hw) (cw_p0_0 hw) ?_
        refine Z_getR dX11_feed_32 cl_5 fl_X11_62_5 rfl (cw_i5 hw) (cw_p5_4 hw) ?_
        refine Z_aload_n dX11_feed_35 rfl rfl ?_
        refine Z_getR dX11_feed_36 cl_11 fl_X11_21_11 rfl (cw_i0 hw) (cw_p0_0 hw) ?_
        refine Z_getIv dX11_feed_39 cl_5 fl_X11_58_5 rfl (cw_i5 hw) v3 ?_
        refine Z_iload_n dX11_feed_42 rfl rfl ?_
        refine Z_iast dX11_feed_43 (cw_i8 hw) (zix_nI (m := A.1.1 3) g3 (by decide)) ?_
        refine Z_aload_n dX11_feed_44 rfl rfl ?_
        refine Z_getR dX11_feed_45 cl_11 fl_X11_21_11 rfl (cw_i0 hw) (cw_p0_0 hw) ?_
        refine Z_dup dX11_feed_48 rfl ?_
        refine Z_getIv dX11_feed_49 cl_5 fl_X11_58_5 rfl (cw_i5 hw) (show _ = nI (A.1.1 3) by rw [sI_ne (by decide)]; exact v3) ?_
        refine Z_iconst (v := 1) dX11_feed_52 (by decide) ?_
        refine Z_iadd dX11_feed_53 ?_
        refine Z_putI dX11_feed_54 cl_5 fl_X11_58_5 (Or.inl fn_5_5) rfl (cw_i5 hw) rfl rfl ?_
        refine Z_aload_n dX11_feed_57 rfl rfl ?_
        refine Z_getR dX11_feed_58 cl_11 fl_X11_21_11 rfl (cw_i0 hw) (cw_p0_0 hw) ?_
        refine Z_getIv dX11_feed_61 cl_5 fl_X11_58_5 rfl (cw_i5 hw) (show _ = nI (A.1.1 3) + 1 by rw [hI_sI, if_pos ⟨rfl, rfl⟩]) ?_
        refine Z_iret dX11_feed_64 rfl rfl ⟨by decide, by decide⟩ ?_
        rw [nI_1]
        exact h _ ((hr.tape g3 hq).sig (m := A.1.1 3 + 1) (by omega)) (((frI.sI (F := fun k => k = 5 ∨ k = 8) (Or.inr rfl)).tr (frI.sI (Or.inl rfl))).c (fun k hk => by unfold cId; omega))
      · skip
        have e : sp_feed A (nI q) = (-4, A) := (if_pos z).trans (if_pos (by have : ¬ A.1.1 3 < 100 := fun y => h22 (nI_lt (b := 100) y (by omega)); omega))
        rw [e] at h
        refine Z_bipush (v := -4) dX11_feed_25 (by decide) ?_
        refine Z_iret dX11_feed_27 rfl rfl ⟨by decide, by decide⟩ ?_
        exact h α hr frC.rf
    · skip
      have z : ¬ (0 ≤ x ∧ x ≤ 127) := by simp only [Int32.lt_iff_toInt_lt, Int32.le_iff_toInt_le] at *; omega
      have e : sp_feed A x = (-2, A) := if_neg z
      rw [e] at h
      refine Z_bipush (v := -2) dX11_feed_10 (by decide) ?_
      refine Z_iret dX11_feed_12 rfl rfl ⟨by decide, by decide⟩ ?_
      exact h α hr frC.rf
theorem k_book {x : Int32} (hr : CRel Γ A α) (h : ∀ β, CRel Γ (sp_book A x).2 β → frC α β → post (some (.int (sp_book A x).1)) β) : ZK G (d + 2) mX11_book [.ref (G.1 + 0), .int x] α post := by
  have hw := hr.1
  have v2 : hI α 5 11 = nI (A.1.1 2) := hr.2.2.2.1.2.1.2.2.2.2.2
  have b2 : A.1.1 2 ≤ 12 := hr.sb.at (by omega) rfl
  refine ZK.of (n := 0) (by decide) (Nat.le_of_ble_eq_true rfl) rfl ?_
  refine Z_iload_n dX11_book_0 rfl rfl ?_
  refine Z_iconst (v := -1) dX11_book_1 (by decide) ?_
  refine Z_icmp_ne (tgt := 15) dX11_book_2 (by decide) (fun h2 => ?_) (fun h2 => ?_)
  · skip
    refine Z_iload_n dX11_book_15 rfl rfl ?_
    refine Z_S1z dX11_book_16 to_X11_isSort lk_X11_118 sc_X11_isSort (Nat.le_of_ble_eq_true rfl) ⟨rfl, rfl⟩ ⟨by decide, by decide⟩ ?_
    refine k_isSort ?_
    refine Z_if_ne (tgt := 24) dX11_book_19 (by decide) (fun h19 => ?_) (fun h19 => ?_)
    · skip
      obtain ⟨q, hq, rfl⟩ := arg_nI (n := 2) rfl rfl (dec_t h19)
      refine Z_aload_n dX11_book_24 rfl rfl ?_
      refine Z_getR dX11_book_25 cl_11 fl_X11_21_11 rfl (cw_i0 hw) (cw_p0_0 hw) ?_
      refine Z_getIv dX11_book_28 cl_5 fl_X11_210_5 rfl (cw_i5 hw) v2 ?_
      refine Z_bipush (v := 12) dX11_book_31 (by decide) ?_
      refine Z_icmp_lt (tgt := 39) dX11_book_33 (by decide) (fun h33 => ?_) (fun h33 => ?_)
      · skip
        have g2 : A.1.1 2 < 12 := (nI_ltI (b := 12) (by omega) (by omega)).mp h33
        refine Z_aload_n dX11_book_39 rfl rfl ?_
        refine Z_getR dX11_book_40 cl_11 fl_X11_21_11 rfl (cw_i0 hw) (cw_p0_0 hw) ?_
        refine Z_getR dX11_book_43 cl_5 fl_X11_213_5 rfl (cw_i5 hw) (cw_p5_10 hw) ?_
        refine Z_aload_n dX11_book_46 rfl rfl ?_
        refine Z_getR dX11_book_47 cl_11 fl_X11_21_11 rfl (cw_i0 hw) (cw_p0_0 hw) ?_
        refine Z_getIv dX11_book_50 cl_5 fl_X11_210_5 rfl (cw_i5 hw) v2 ?_
        refine Z_iload_n dX11_book_53 rfl rfl ?_
        refine Z_iast dX11_book_54 (cw_i10 hw) (zix_nI (m := A.1.1 2) g2 (by decide)) ?_
        refine Z_aload_n dX11_book_55 rfl rfl ?_
        refine Z_getR dX11_book_56 cl_11 fl_X11_21_11 rfl (cw_i0 hw) (cw_p0_0 hw) ?_
        refine Z_dup dX11_book_59 rfl ?_
        refine Z_getIv dX11_book_60 cl_5 fl_X11_210_5 rfl (cw_i5 hw) (show _ = nI (A.1.1 2) by rw [sI_ne (by decide)]; exact v2) ?_
        refine Z_iconst (v := 1) dX11_book_63 (by decide) ?_
        refine Z_iadd dX11_book_64 ?_
        refine Z_putI dX11_book_65 cl_5 fl_X11_210_5 (Or.inl fn_5_11) rfl (cw_i5 hw) rfl rfl ?_
        refine Z_aload_n dX11_book_68 rfl rfl ?_
        refine Z_getR dX11_book_69 cl_11 fl_X11_21_11 rfl (cw_i0 hw) (cw_p0_0 hw) ?_
        refine Z_getIv dX11_book_72 cl_5 fl_X11_210_5 rfl (cw_i5 hw) (show _ = nI (A.1.1 2) + 1 by rw [hI_sI, if_pos ⟨rfl, rfl⟩]) ?_
        refine Z_iret dX11_book_75 rfl rfl ⟨by decide, by decide⟩ ?_
        have e : sp_book A (nI q) = (nI (A.1.1 2 + 1), zset (zset A (152 + A.1.1 2) q) 2 (A.1.1 2 + 1)) := by
          unfold sp_book
          rw [if_neg h2, if_pos (dec_t h19), if_neg (by omega), nI_clamp (by omega)]
        rw [e] at h
        rw [nI_1]
        exact h _ ((hr.book g2 hq).pages (by omega)) (((frI.sI (F := fun k => k = 5 ∨ k = 10) (Or.inr rfl)).tr (frI.sI (Or.inl rfl))).c (fun k hk => by unfold cId; omega))
      · skip
        refine Z_bipush (v := -4) dX11_book_36 (by decide) ?_
        refine Z_iret dX11_book_38 rfl rfl ⟨by decide, by decide⟩ ?_
        have e : sp_book A (nI q) = (-4, A) := (if_neg h2).trans ((if_pos (dec_t h19)).trans (if_pos (by have : ¬ A.1.1 2 < 12 := fun y => h33 (nI_lt (b := 12) y (by omega)); omega)))
        rw [e] at h
        exact h α hr frC.rf
    · skip
      refine Z_iconst (v := -1) dX11_book_22 (by decide) ?_
      refine Z_iret dX11_book_23 rfl rfl ⟨by decide, by decide⟩ ?_
      have e : sp_book A x = (-1, A) := (if_neg h2).trans (if_neg (dec_f h19))
      rw [e] at h
      exact h α hr frC.rf
  · skip
    refine Z_aload_n dX11_book_5 rfl rfl ?_
    refine Z_getR dX11_book_6 cl_11 fl_X11_21_11 rfl (cw_i0 hw) (cw_p0_0 hw) ?_
    refine Z_iconst (v := 0) dX11_book_9 (by decide) ?_
    refine Z_putI dX11_book_10 cl_5 fl_X11_210_5 (Or.inl fn_5_11) rfl (cw_i5 hw) rfl rfl ?_
    refine Z_iconst (v := 0) dX11_book_13 (by decide) ?_
    refine Z_iret dX11_book_14 rfl rfl ⟨by decide, by decide⟩ ?_
    have e : sp_book A x = (0, zset A 2 0) := if_pos h2
    rw [e] at h
    exact h _ (hr.pages (m := 0) (by omega)) ((frI.sI (F := fun k => k = 5) rfl).c (fun k hk => by unfold cId; omega))
theorem CRel.stg {k m : Nat} (hr : CRel Γ A α) (hk : k < 3) (hm : m ≤ 2) : CRel Γ (zset A (9 + k) m) (sI α 5 3 (nI (zss (zset A (9 + k) m).1.1))) := by
  have sea := hr.2.2.2.1
  have b0 : A.1.1 0 ≤ 8 := hr.sb.at (by omega) rfl
  have hf : frI (fun k => 5 ≤ k ∧ k ≤ 10) α (sI α 5 3 (nI (zss (zset A (9 + k) m).1.1))) := frI.sI ⟨by omega, by omega⟩
  refine hr.now hf (hr.sb.set (by rw [zbd_stage hk]; exact hm) (by omega) (by omega)) (sea.up hf b0 ⟨fun i hi => ?_, fun i hi => ?_, fun i hi => ?_, fun i hi => ?_⟩ ⟨?_, ?_, ?_, ?_, ?_, ?_⟩ (fun i hi => u1_n (by omega)) (fun i hi => u1_n (by omega)))
  · rw [hI_sI, if_neg (by omega), u1_n (by omega)]; exact sea.1.1 i hi
  · rw [hI_sI, if_neg (by omega), u1_n (by omega)]; exact sea.1.2.1 i hi
  · rw [hI_sI, if_neg (by omega), u1_n (by omega)]; exact sea.1.2.2.1 i hi
  · rw [hI_sI, if_neg (by omega), u1_n (by omega)]; exact sea.1.2.2.2 i hi
  · rw [hI_sI, if_neg (by omega), u1_n (by omega)]; exact sea.2.1.1
  · rw [hI_sI, if_pos ⟨rfl, rfl⟩]; rfl
  · rw [hI_sI, if_neg (by omega), u1_n (by omega)]; exact sea.2.1.2.2.1
  · rw [hI_sI, if_neg (by omega), u1_n (by omega)]; exact sea.2.1.2.2.2.1
  · rw [hI_sI, if_neg (by omega), u1_n (by omega)]; exact sea.2.1.2.2.2.2.1
  · rw [hI_sI, if_neg (by omega), u1_n (by omega)]; exact sea.2.1.2.2.2.2.2
theorem stg_ok : ∀ s, s < 27 → ∀ k, k < 3 → ∀ n, n < 3 → nI s + (nI n - nI (s / cst k % 3)) * nI (cst k) = nI (s - s / cst k % 3 * cst k + n * cst k) := by decide +kernel
theorem zss_set {k m : Nat} (h : SB A.1.1) (hk : k < 3) : zss (zset A (9 + k) m).1.1 = zss A.1.1 - zss A.1.1 / cst k % 3 * cst k + m * cst k := by
  rw [zss_d h hk]
  show zss (u1 A.1.1 (9 + k) m) = _
  unfold zss
  rcases s3 hk with rfl | rfl | rfl
  · rw [u1_s, u1_n (by omega), u1_n (by omega)]; simp [cst]; omega
  · rw [u1_n (by omega), u1_s, u1_n (by omega)]; simp [cst]; omega
  · rw [u1_n (by omega), u1_n (by omega), u1_s]; simp [cst]; omega
theorem k_stage {x n : Int32} (hr : CRel Γ A α) (h : ∀ β, CRel Γ (sp_chg A 9 2 x n).2 β → frC α β → post (some (.int (sp_chg A 9 2 x n).1)) β) : ZK G (d + 2) mX11_stage [.ref (G.1 + 0), .int x, .int n] α post := by
  have hw := hr.1
  have sea := hr.2.2.2.1
  have hss := zss_lt hr.sb
  have l0 : (0 : Int32).toInt = 0 := rfl
  have l2 : (2 : Int32).toInt = 2 := rfl
  have l3 : (3 : Int32).toInt = 3 := rfl
  refine ZK.of (n := 1) (by decide) (Nat.le_of_ble_eq_true rfl) rfl ?_
  refine Z_iload_n dX11_stage_0 rfl rfl ?_
  refine Z_if_lt (tgt := 9) dX11_stage_1 (by decide) (fun h1 => ?_) (fun h1 => ?_)
  · skip
    have z : ¬ (0 ≤ x ∧ x ≤ 2) := by simp only [Int32.lt_iff_toInt_lt, Int32.le_iff_toInt_le] at *; omega
    have e : sp_chg A 9 2 x n = (-1, A) := if_neg z
    rw [e] at h
    refine Z_iconst (v := -1) dX11_stage_9 (by decide) ?_
    refine Z_iret dX11_stage_10 rfl rfl ⟨by decide, by decide⟩ ?_
    exact h α hr frC.rf
  · skip
    refine Z_iload_n dX11_stage_4 rfl rfl ?_
    refine Z_iconst (v := 3) dX11_stage_5 (by decide) ?_
    refine Z_icmp_lt (tgt := 11) dX11_stage_6 (by decide) (fun h6 => ?_) (fun h6 => ?_)
    · skip
      have z : 0 ≤ x ∧ x ≤ 2 := by simp only [Int32.lt_iff_toInt_lt, Int32.le_iff_toInt_le] at *; omega
      refine Z_iload_n dX11_stage_11 rfl rfl ?_
      refine Z_if_lt (tgt := 20) dX11_stage_12 (by decide) (fun h12 => ?_) (fun h12 => ?_)
      · skip
        have z2 : ¬ (0 ≤ n ∧ n ≤ 2) := by simp only [Int32.lt_iff_toInt_lt, Int32.le_iff_toInt_le] at *; omega
        have e : sp_chg A 9 2 x n = (-2, A) := (if_pos z).trans (if_neg z2)
        rw [e] at h
        refine Z_bipush (v := -2) dX11_stage_20 (by decide) ?_
        refine Z_iret dX11_stage_22 rfl rfl ⟨by decide, by decide⟩ ?_
        exact h α hr frC.rf
      · skip
        refine Z_iload_n dX11_stage_15 rfl rfl ?_
        refine Z_iconst (v := 2) dX11_stage_16 (by decide) ?_
        refine Z_icmp_le (tgt := 23) dX11_stage_17 (by decide) (fun h17 => ?_) (fun h17 => ?_)
        · skip
          have z2 : 0 ≤ n ∧ n ≤ 2 := by simp only [Int32.lt_iff_toInt_lt, Int32.le_iff_toInt_le] at *; omega
          obtain ⟨j, hj, rfl⟩ := arg_nI (n := 2) rfl rfl z
          obtain ⟨q, hq, rfl⟩ := arg_nI (n := 2) rfl rfl z2
          rw [sp_chg_ok z z2 rfl rfl (by omega) (by omega)] at h
          refine Z_aload_n dX11_stage_23 rfl rfl ?_
          refine Z_getR dX11_stage_24 cl_11 fl_X11_21_11 rfl (cw_i0 hw) (cw_p0_0 hw) ?_
          refine Z_getIv dX11_stage_27 cl_5 fl_X11_93_5 rfl (cw_i5 hw) sea.2.1.2.1 ?_
          refine Z_iload_n dX11_stage_30 rfl rfl ?_
          refine Z_S2z dX11_stage_31 to_X11_stageOf lk_X11_96 sc_X11_stageOf (Nat.le_of_ble_eq_true rfl) ⟨rfl, rfl⟩ ⟨by decide, by decide⟩ ?_
          refine k_stageOf hss (by omega) ?_
          refine Z_istore_n (L' := [_, _, _, _]) dX11_stage_34 rfl (by decide) rfl rfl ?_
          refine Z_aload_n dX11_stage_35 rfl rfl ?_
          refine Z_getR dX11_stage_36 cl_11 fl_X11_21_11 rfl (cw_i0 hw) (cw_p0_0 hw) ?_
          refine Z_dup dX11_stage_39 rfl ?_
          refine Z_getIv dX11_stage_40 cl_5 fl_X11_93_5 rfl (cw_i5 hw) sea.2.1.2.1 ?_
          refine Z_iload_n dX11_stage_43 rfl rfl ?_
          refine Z_iload_n dX11_stage_44 rfl rfl ?_
          refine Z_isub dX11_stage_45 ?_
          refine Z_gets dX11_stage_46 (by decide) sa_X11_100 ?_
          refine Z_iload_n dX11_stage_49 rfl rfl ?_
          refine Z_ti (i := 0) dX11_stage_50 (by decide) (zix_nI (m := j) (by exact Nat.lt_succ_of_le hj) (by decide)) ?_
          rw [step_at j (by omega)]
          refine Z_imul dX11_stage_51 ?_
          refine Z_iadd dX11_stage_52 ?_
          rw [stg_ok _ hss _ (by omega) _ (by omega), ← zss_set hr.sb (by omega)]
          refine Z_putI dX11_stage_53 cl_5 fl_X11_93_5 (Or.inl fn_5_3) rfl (cw_i5 hw) rfl rfl ?_
          refine Z_iload_n dX11_stage_56 rfl rfl ?_
          refine Z_iret dX11_stage_57 rfl rfl ⟨by decide, by decide⟩ ?_
          rw [zss_d hr.sb (by omega)]
          exact h _ (hr.stg (by omega) hq) ((frI.sI (F := fun k => k = 5) rfl).c (fun k hk => by unfold cId; omega))
        · skip
          have z2 : ¬ (0 ≤ n ∧ n ≤ 2) := by simp only [Int32.lt_iff_toInt_lt, Int32.le_iff_toInt_le] at *; omega
          have e : sp_chg A 9 2 x n = (-2, A) := (if_pos z).trans (if_neg z2)
          rw [e] at h
          refine Z_bipush (v := -2) dX11_stage_20 (by decide) ?_
          refine Z_iret dX11_stage_22 rfl rfl ⟨by decide, by decide⟩ ?_
          exact h α hr frC.rf
    · skip
      have z : ¬ (0 ≤ x ∧ x ≤ 2) := by simp only [Int32.lt_iff_toInt_lt, Int32.le_iff_toInt_le] at *; omega
      have e : sp_chg A 9 2 x n = (-1, A) := if_neg z
      rw [e] at h
      refine Z_iconst (v := -1) dX11_stage_9 (by decide) ?_
      refine Z_iret dX11_stage_10 rfl rfl ⟨by decide, by decide⟩ ?_
      exact h α hr frC.rf
end CP3
