section CK1
variable {G : ZG} {d : Nat} {α β γ : AH} {post : Option Value → AH → Prop} {Γ : Nat → VC} {A : ZA} {a a' T q : Nat} {b t : Int32}
theorem frC.fi {F : Nat → Prop} (h : frC α β) (hf : frI F β γ) (hF : ∀ k, F k → cId k) : frC α γ := h.tr (hf.c hF)
theorem frI.fx (hf : frI (Fk a) α β) : frX a α β := ⟨hf.1, hf.2.1, fun k hk => ⟨(hf.2.2.2 k hk).1, (hf.2.2.2 k hk).2, by rw [hf.2.2.1]⟩, fun k j _ => by rw [hf.2.2.1]⟩
theorem cLk.oth (h : cLk Γ A a T b t α) (hc : cAt a α q) (hr : CRel Γ A β) (hf : frX a' α β) (ha : a' = 23 ∨ a' = 28) (hne : a ≠ a') : cLk Γ A a T b t β ∧ cAt a β q := by
  obtain ⟨k1, k2, k3, ⟨v, k4, k5⟩, k6, k7, k8⟩ := h
  have e : ∀ k, ¬ Fk a' k → hI β k = hI α k ∧ hP β k = hP α k := fun k hk => ⟨(hf.2.2.1 k hk).1, (hf.2.2.1 k hk).2.2⟩
  have ea := e a (by unfold Fk; omega)
  refine ⟨⟨hr, k2, k3, ⟨v, by rw [ea.2]; exact k4, by rw [(e 5 (by unfold Fk; omega)).2]; exact k5⟩, by rw [ea.1]; exact k6, by rw [ea.1]; exact k7, by rw [ea.1]; exact k8⟩, ?_⟩
  unfold cAt
  rw [ea.1, (e (a + 1) (by unfold Fk; omega)).1]
  exact hc
theorem Fk.c {k : Nat} (ha : a = 23 ∨ a = 28) (h : Fk a k) : cId k := by unfold Fk at h; unfold cId; omega
theorem Fo.c' {k : Nat} (ha : a = 23 ∨ a = 28) (h : Fo a k) : cId k := by unfold Fo at h; unfold cId; omega
theorem Ft.c {k : Nat} (ha : a = 23 ∨ a = 28) (h : Ft a k) : cId k := by unfold Ft at h; unfold cId; omega
theorem idx_iff {x : Int32} {n : Nat} (hn : n < 2 ^ 31) : (0 ≤ x ∧ x ≤ nI n - 1) ↔ (¬ x < 0 ∧ x < nI n) := by
  constructor
  · intro z
    obtain ⟨j, hj, rfl⟩ := idx_lt hn z
    exact ⟨nI_pos (by omega), nI_lt hj hn⟩
  · intro z
    have e0 : (0 : Int32).toInt = 0 := rfl
    obtain ⟨j, hj, rfl⟩ := nI_of2 (M := nI n) (nI_toInt hn) z.1 (by simp only [Int32.lt_iff_toInt_lt, Int32.le_iff_toInt_le] at *; omega)
    exact lt_idx hn ((nI_ltI (by omega) hn).mp z.2)
theorem k_wAt0 {w : Int32} (hr : CRel Γ A α) (hz : ¬ (0 ≤ w ∧ w ≤ nI (A.1.1 0) - 1)) (h : post (some .null) α) : ZK G (d + 1) mX11_workerAt [.ref (G.1 + 0), .int w] α post := by
  have hw := hr.1
  have b0 : A.1.1 0 ≤ 8 := hr.sb.at (by omega) rfl
  have v0 := hr.2.2.2.1.2.1.2.2.2.2.1
  rw [idx_iff (by omega)] at hz
  refine ZK.of (n := 0) (by decide) (Nat.le_of_ble_eq_true rfl) rfl ?_
  refine Z_iload_n dX11_workerAt_0 rfl rfl ?_
  refine Z_if_lt (tgt := 27) dX11_workerAt_1 (by decide) (fun h1 => ?_) (fun h1 => ?_)
  · skip
    refine Z_null dX11_workerAt_27 ?_
    refine Z_aret dX11_workerAt_28 (Or.inl rfl) rfl (Or.inl ⟨_, rfl⟩) ⟨by decide, by decide⟩ ?_
    exact h
  · skip
    refine Z_iload_n dX11_workerAt_4 rfl rfl ?_
    refine Z_aload_n dX11_workerAt_5 rfl rfl ?_
    refine Z_getR dX11_workerAt_6 cl_11 fl_X11_21_11 rfl (cw_i0 hw) (cw_p0_0 hw) ?_
    refine Z_getIv dX11_workerAt_9 cl_5 fl_X11_103_5 rfl (cw_i5 hw) v0 ?_
    refine Z_icmp_ge (tgt := 27) dX11_workerAt_12 (by decide) (fun h12 => ?_) (fun h12 => ?_)
    · skip
      refine Z_null dX11_workerAt_27 ?_
      refine Z_aret dX11_workerAt_28 (Or.inl rfl) rfl (Or.inl ⟨_, rfl⟩) ⟨by decide, by decide⟩ ?_
      exact h
    · skip
      exact absurd ⟨h1, Int32.not_le.mp h12⟩ hz
theorem k_wAt1 {j c : Nat} (hr : CRel Γ A α) (hj : j < A.1.1 0) (hp : hP α 9 j = some c) (h : post (some (.ref (G.1 + c))) α) : ZK G (d + 1) mX11_workerAt [.ref (G.1 + 0), .int (nI j)] α post := by
  have hw := hr.1
  have b0 : A.1.1 0 ≤ 8 := hr.sb.at (by omega) rfl
  have v0 := hr.2.2.2.1.2.1.2.2.2.2.1
  refine ZK.of (n := 0) (by decide) (Nat.le_of_ble_eq_true rfl) rfl ?_
  refine Z_iload_n dX11_workerAt_0 rfl rfl ?_
  refine Z_if_lt (tgt := 27) dX11_workerAt_1 (by decide) (fun h1 => ?_) (fun h1 => ?_)
  · skip
    exact absurd h1 (nI_pos (by omega))
  · skip
    refine Z_iload_n dX11_workerAt_4 rfl rfl ?_
    refine Z_aload_n dX11_workerAt_5 rfl rfl ?_
    refine Z_getR dX11_workerAt_6 cl_11 fl_X11_21_11 rfl (cw_i0 hw) (cw_p0_0 hw) ?_
    refine Z_getIv dX11_workerAt_9 cl_5 fl_X11_103_5 rfl (cw_i5 hw) v0 ?_
    refine Z_icmp_ge (tgt := 27) dX11_workerAt_12 (by decide) (fun h12 => ?_) (fun h12 => ?_)
    · skip
      exact absurd h12 (nI_ge hj (by omega))
    · skip
      refine Z_aload_n dX11_workerAt_15 rfl rfl ?_
      refine Z_getR dX11_workerAt_16 cl_11 fl_X11_21_11 rfl (cw_i0 hw) (cw_p0_0 hw) ?_
      refine Z_getR dX11_workerAt_19 cl_5 fl_X11_106_5 rfl (cw_i5 hw) (cw_p5_8 hw) ?_
      refine Z_iload_n dX11_workerAt_22 rfl rfl ?_
      refine Z_aald dX11_workerAt_23 (cw_i9 hw) (zix_nI (m := j) (by omega) (by decide)) hp ?_
      refine Z_goto (tgt := 28) dX11_workerAt_24 (by decide) ?_
      refine Z_aret dX11_workerAt_28 (Or.inr ⟨_, rfl⟩) rfl (Or.inl ⟨_, rfl⟩) ⟨by decide, by decide⟩ ?_
      exact h
theorem CRel.wk {w : Int32} (hr : CRel Γ A α) (hz : 0 ≤ w ∧ w ≤ nI (A.1.1 0) - 1) : ∃ j c, j < A.1.1 0 ∧ j < 8 ∧ w = nI j ∧ hP α 9 j = some c ∧ wObj α c (A.1.1 (112 + j)) (nI j) (nI (A.1.1 (120 + j))) (trow A.1.1 j) := by
  have b0 : A.1.1 0 ≤ 8 := hr.sb.at (by omega) rfl
  obtain ⟨j, hj, e⟩ := idx_lt (by omega) hz
  obtain ⟨c, q1, q2⟩ := hr.2.2.2.1.2.2.2.2 j hj
  exact ⟨j, c, hj, by omega, e, q1, q2⟩
theorem k_lookN (hr : CRel Γ A α) (ha : a = 23 ∨ a = 28) (h : ∀ β, cLk Γ A a (A.1.1 5 + zrest A.1.1) (-1) 0 β → cAt a β (zq A.1.1) → frX a α β → post none β) : ZK G (d + 2) mX0_look [.ref (G.1 + a), .ref (G.1 + 5), .int (-1), .int (-1)] α post :=
  k_look (τ := A.1.1) ha hr (fun j hj => by rw [if_neg (nI_nm1 (by omega))]; rfl) (fun j hj => hr.sb.at (by omega) (zbd_bag hj)) (fun _ _ => rfl) (Or.inl ⟨rfl, rfl⟩) h
theorem trow_d {σ : Nat → Nat} (h : SB σ) {j s : Nat} (hj : j < 8) (hs : s < 3) : trow σ j / 4 ^ s % 4 = σ (128 + 3 * j + s) := by
  have a0 : σ (128 + 3 * j) ≤ 3 := h.at (by omega) (by rw [show 128 + 3 * j = 128 + (3 * j) from rfl]; exact zbd_row (by omega))
  have a1 : σ (128 + 3 * j + 1) ≤ 3 := h.at (by omega) (by rw [Nat.add_assoc]; exact zbd_row (by omega))
  have a2 : σ (128 + 3 * j + 2) ≤ 3 := h.at (by omega) (by rw [Nat.add_assoc]; exact zbd_row (by omega))
  unfold trow
  rcases s3 hs with rfl | rfl | rfl <;> simp <;> omega
theorem zwy_way (h : SB A.1.1) {j : Nat} (hj : j < 8) {s : Nat} (hs : s < 3) (hq : q < 5832) : zdoC (zcn A.1 T) (sp_pay A.1.1) (A.1.1 (112 + j)) (nI (A.1.1 (120 + j))) (trow A.1.1 j / 4 ^ s % 4) q s = zway A.1 T j q s := by
  have b9 : A.1.1 (120 + j) ≤ 9 := h.at (by omega) (zbd_v hj)
  rw [trow_d h hj hs, zdoC_nI hq (by omega)]
  rfl
theorem k_workNow {j c s : Nat} (hr : CRel Γ A α) (hj : j < 8) (ho : wObj α c (A.1.1 (112 + j)) (nI j) (nI (A.1.1 (120 + j))) (trow A.1.1 j)) (hs : s < 3) (hp : A.1.1 (6 + s) ≠ 0) (h : ∀ β, CRel Γ A β → frC α β → hP β 5 = hP α 5 → hI β 5 = hI α 5 → hI β 6 = hI α 6 → post (some (.int (nI (zdoN A.1 j s)))) β) : ZK G (d + 54) mX11_workNow [.ref (G.1 + 0), .ref (G.1 + c), .int (nI s)] α post := by
  have hw := hr.1
  have zq1 := zq_ok hr.sb
  have hps : 0 < zl (zq A.1.1) s := by rw [zq1.2.2.1 s hs]; omega
  have ok := zd_ok zq1.1 hs hps
  have hla := zla_le zq1.1
  have hT : zla (zq A.1.1) = zrest A.1.1 := zq1.2.1
  refine ZK.of (n := 0) (by decide) (Nat.le_of_ble_eq_true rfl) rfl ?_
  refine Z_aload_n dX11_workNow_0 rfl rfl ?_
  refine Z_getR dX11_workNow_1 cl_11 fl_X11_40_11 rfl (cw_i0 hw) (cw_p0_4 hw) ?_
  refine Z_aload_n dX11_workNow_4 rfl rfl ?_
  refine Z_getR dX11_workNow_5 cl_11 fl_X11_21_11 rfl (cw_i0 hw) (cw_p0_0 hw) ?_
  refine Z_iconst (v := -1) dX11_workNow_8 (by decide) ?_
  refine Z_iconst (v := -1) dX11_workNow_9 (by decide) ?_
  refine Z_V3z (ci := 0) dX11_workNow_10 to_X0_look lk_X11_173 iv_X0_look ⟨rfl, rfl⟩ (cw_i23 hw) (Nat.le_of_ble_eq_true rfl) ⟨rfl, rfl⟩ ⟨by decide, by decide⟩ ?_
  refine k_lookN hr (Or.inl rfl) (fun β hw1 hc1 hf1 => ?_)
  have hw := hw1.1.1
  refine Z_aload_n dX11_workNow_13 rfl rfl ?_
  refine Z_getR dX11_workNow_14 cl_11 fl_X11_40_11 rfl (cw_i0 hw) (cw_p0_4 hw) ?_
  refine Z_iload_n dX11_workNow_17 rfl rfl ?_
  refine Z_V1z (ci := 0) dX11_workNow_18 to_X0_take lk_X11_187 iv_X0_take ⟨rfl, rfl⟩ (cw_i23 hw) (Nat.le_of_ble_eq_true rfl) ⟨rfl, rfl⟩ ⟨by decide, by decide⟩ ?_
  refine k_take hw1 hc1 zq1.1 hs hps (fun γ hw2 hc2 hf2 => ?_)
  have hw := hw2.1.1
  refine Z_aload_n dX11_workNow_21 rfl rfl ?_
  refine Z_aload_n dX11_workNow_22 rfl rfl ?_
  refine Z_getR dX11_workNow_23 cl_11 fl_X11_40_11 rfl (cw_i0 hw) (cw_p0_4 hw) ?_
  refine Z_iload_n dX11_workNow_26 rfl rfl ?_
  refine Z_aload_n dX11_workNow_27 rfl rfl ?_
  refine Z_getR dX11_workNow_28 cl_11 fl_X11_21_11 rfl (cw_i0 hw) (cw_p0_0 hw) ?_
  refine Z_getIv dX11_workNow_31 cl_5 fl_X11_93_5 rfl (cw_i5 hw) hw2.1.2.2.2.1.2.1.2.1 ?_
  rw [← zss_q hr.sb, ← cgs_zd zq1.1 hs hps]
  have hfc : frC α γ := (hf1.fc (Or.inl rfl)).fi hf2 (fun k => Ft.c (Or.inl rfl))
  refine Z_does dX11_workNow_34 wd_585 (ho.fr hfc.z) hw2 hc2 ok.2.1 hs (by omega) (by omega) (Nat.le_of_ble_eq_true rfl) ⟨by decide, by decide⟩ (fun δ hw3 hc3 hf3 => ?_)
  rw [zbc_n, zwy_way hr.sb hj hs ok.2.1]
  refine Z_iret dX11_workNow_37 rfl rfl ⟨by decide, by decide⟩ ?_
  have n5 : ¬ Fk 23 5 := by unfold Fk; omega
  have n6 : ¬ Fk 23 6 := by unfold Fk; omega
  have m5 : ¬ Ft 23 5 := by unfold Ft; omega
  have m6 : ¬ Ft 23 6 := by unfold Ft; omega
  refine h δ hw3.1 (hfc.fi hf3 (fun k => Fk.c (Or.inl rfl))) ?_ ?_ ?_
  · rw [hf3.2.2.1, hf2.2.2.1, (hf1.2.2.1 5 n5).2.2]
  · rw [(hf3.2.2.2 5 n5).1, (hf2.2.2.2 5 m5).1, (hf1.2.2.1 5 n5).1]
  · rw [(hf3.2.2.2 6 n6).1, (hf2.2.2.2 6 m6).1, (hf1.2.2.1 6 n6).1]
theorem kind_is {c kd row : Nat} {num v : Int32} (ho : wObj α c kd num v row) : ∃ ci n, zIs α c (ci + 4, n) ∧ (ci = 10 ∨ ci = 3 ∨ ci = 2 ∨ ci = 9 ∨ ci = 6 ∨ ci = 1 ∨ ci = 7) := by
  refine ⟨kci kd, _, ho.2.2.1, ?_⟩
  unfold kci
  split
  · exact Or.inl rfl
  · split
    · exact Or.inr (Or.inl rfl)
    · split
      · exact Or.inr (Or.inr (Or.inl rfl))
      · split
        · exact Or.inr (Or.inr (Or.inr (Or.inl rfl)))
        · split
          · exact Or.inr (Or.inr (Or.inr (Or.inr (Or.inl rfl))))
          · split
            · exact Or.inr (Or.inr (Or.inr (Or.inr (Or.inr (Or.inl rfl)))))
            · exact Or.inr (Or.inr (Or.inr (Or.inr (Or.inr (Or.inr rfl)))))
theorem zdoN_le {S : ZS} {w s : Nat} : zdoN S w s ≤ 3 := by
  have := zway_ok (S := S) (T := S.1 5 + zrest S.1) (w := w) (zd (zq S.1) s) s
  have e : zdoN S w s = zway S (S.1 5 + zrest S.1) w (zd (zq S.1) s) s := rfl
  rw [e]; omega
theorem k_today {x : Int32} (hr : CRel Γ A α) (h : ∀ β, CRel Γ A β → frC α β → post (some (.int (sp_today A.1 x))) β) : ZK G (d + 53) mX11_today [.ref (G.1 + 0), .int x] α post := by
  have hw := hr.1
  have zq1 := zq_ok hr.sb
  have hla := zla_le zq1.1
  refine ZK.of (n := 0) (by decide) (Nat.le_of_ble_eq_true rfl) rfl ?_
  refine Z_iload_n dX11_today_0 rfl rfl ?_
  refine Z_S1z dX11_today_1 to_X11_isSort lk_X11_118 sc_X11_isSort (Nat.le_of_ble_eq_true rfl) ⟨rfl, rfl⟩ ⟨by decide, by decide⟩ ?_
  refine k_isSort ?_
  refine Z_if_ne (tgt := 9) dX11_today_4 (by decide) (fun h4 => ?_) (fun h4 => ?_)
  · skip
    obtain ⟨s, hs, rfl⟩ := okS.nI (dec_t h4)
    have b := zsb hr.sb hs
    have hbg := hr.2.2.2.1.1.1 s (by omega)
    refine Z_aload_n dX11_today_9 rfl rfl ?_
    refine Z_getR dX11_today_10 cl_11 fl_X11_21_11 rfl (cw_i0 hw) (cw_p0_0 hw) ?_
    refine Z_getR dX11_today_13 cl_5 fl_X11_51_5 rfl (cw_i5 hw) (cw_p5_0 hw) ?_
    refine Z_iload_n dX11_today_16 rfl rfl ?_
    refine Z_ialdv dX11_today_17 (cw_i6 hw) (zix_nI (m := s) (by omega) (by decide)) hbg ?_
    refine Z_if_ne (tgt := 24) dX11_today_18 (by decide) (fun h18 => ?_) (fun h18 => ?_)
    · skip
      have hp0 : ¬ A.1.1 (6 + s) = 0 := fun z => h18 (by rw [z]; rfl)
      have hps : 0 < zl (zq A.1.1) s := by rw [zq1.2.2.1 s (by omega)]; omega
      have ok := zd_ok zq1.1 (show s < 3 by omega) hps
      have hT : zla (zq A.1.1) = zrest A.1.1 := zq1.2.1
      refine Z_aload_n dX11_today_24 rfl rfl ?_
      refine Z_getR dX11_today_25 cl_11 fl_X11_40_11 rfl (cw_i0 hw) (cw_p0_4 hw) ?_
      refine Z_aload_n dX11_today_28 rfl rfl ?_
      refine Z_getR dX11_today_29 cl_11 fl_X11_21_11 rfl (cw_i0 hw) (cw_p0_0 hw) ?_
      refine Z_iconst (v := -1) dX11_today_32 (by decide) ?_
      refine Z_iconst (v := -1) dX11_today_33 (by decide) ?_
      refine Z_V3z (ci := 0) dX11_today_34 to_X0_look lk_X11_173 iv_X0_look ⟨rfl, rfl⟩ (cw_i23 hw) (Nat.le_of_ble_eq_true rfl) ⟨rfl, rfl⟩ ⟨by decide, by decide⟩ ?_
      refine k_lookN hr (Or.inl rfl) (fun β hw1 hc1 hf1 => ?_)
      have hw := hw1.1.1
      refine Z_aload_n dX11_today_37 rfl rfl ?_
      refine Z_getR dX11_today_38 cl_11 fl_X11_40_11 rfl (cw_i0 hw) (cw_p0_4 hw) ?_
      refine Z_iload_n dX11_today_41 rfl rfl ?_
      refine Z_V1z (ci := 0) dX11_today_42 to_X0_take lk_X11_187 iv_X0_take ⟨rfl, rfl⟩ (cw_i23 hw) (Nat.le_of_ble_eq_true rfl) ⟨rfl, rfl⟩ ⟨by decide, by decide⟩ ?_
      refine k_take hw1 hc1 zq1.1 (by omega) hps (fun γ hw2 hc2 hf2 => ?_)
      have hw := hw2.1.1
      refine Z_aload_n dX11_today_45 rfl rfl ?_
      refine Z_getR dX11_today_46 cl_11 fl_X11_40_11 rfl (cw_i0 hw) (cw_p0_4 hw) ?_
      refine Z_iload_n dX11_today_49 rfl rfl ?_
      refine Z_aload_n dX11_today_50 rfl rfl ?_
      refine Z_getR dX11_today_51 cl_11 fl_X11_21_11 rfl (cw_i0 hw) (cw_p0_0 hw) ?_
      refine Z_getIv dX11_today_54 cl_5 fl_X11_93_5 rfl (cw_i5 hw) hw2.1.2.2.2.1.2.1.2.1 ?_
      refine Z_V2z (ci := 0) dX11_today_57 to_X0_bestWork lk_X11_191 iv_X0_bestWork ⟨rfl, rfl⟩ (cw_i23 hw) (Nat.le_of_ble_eq_true rfl) ⟨rfl, rfl⟩ ⟨by decide, by decide⟩ ?_
      rw [← zss_q hr.sb, ← cgs_zd zq1.1 (show s < 3 by omega) hps]
      refine k_bestWork hw2 hc2 ok.2.1 (by omega) (by omega) (by omega) (fun δ hw3 hc3 hf3 => ?_)
      rw [zbc_n]
      refine Z_S1z dX11_today_60 to_X11_workName lk_X11_144 sc_X11_workName (Nat.le_of_ble_eq_true rfl) ⟨rfl, rfl⟩ ⟨by decide, by decide⟩ ?_
      refine k_workName (zfold_bd 3 (by omega)) ?_
      refine Z_iret dX11_today_63 rfl rfl ⟨by decide, by decide⟩ ?_
      have e : sp_today A.1 (nI s) = wF (zOn (zbest (zcn A.1 (A.1.1 5 + zrest A.1.1)) (sp_pay A.1.1)) (zcn A.1 (A.1.1 5 + zrest A.1.1)) (sp_pay A.1.1) (zd (zq A.1.1) s) s).2 := by
        unfold sp_today
        rw [if_pos (dec_t h4), nI_clamp (by omega), if_neg hp0]
      rw [e] at h
      exact h δ hw3.1 (((hf1.fc (Or.inl rfl)).fi hf2 (fun k => Ft.c (Or.inl rfl))).fi hf3 (fun k => Fk.c (Or.inl rfl)))
    · skip
      refine Z_bipush (v := -3) dX11_today_21 (by decide) ?_
      refine Z_iret dX11_today_23 rfl rfl ⟨by decide, by decide⟩ ?_
      have e : sp_today A.1 (nI s) = -3 := by
        unfold sp_today
        rw [if_pos (dec_t h4), nI_clamp (by omega), if_pos ((nI_eq (b := 0) (by omega) (by omega)).mp h18)]
      rw [e] at h; exact h α hr frC.rf
  · skip
    refine Z_iconst (v := -1) dX11_today_7 (by decide) ?_
    refine Z_iret dX11_today_8 rfl rfl ⟨by decide, by decide⟩ ?_
    have e : sp_today A.1 x = -1 := if_neg (dec_f h4)
    rw [e] at h; exact h α hr frC.rf
theorem k_most (hr : CRel Γ A α) (h : ∀ β, CRel Γ A β → frC α β → post (some (.int (sp_most A.1))) β) : ZK G (d + 35) mX11_most [.ref (G.1 + 0)] α post := by
  have hw := hr.1
  have zq1 := zq_ok hr.sb
  refine ZK.of (n := 0) (by decide) (Nat.le_of_ble_eq_true rfl) rfl ?_
  refine Z_aload_n dX11_most_0 rfl rfl ?_
  refine Z_getR dX11_most_1 cl_11 fl_X11_40_11 rfl (cw_i0 hw) (cw_p0_4 hw) ?_
  refine Z_aload_n dX11_most_4 rfl rfl ?_
  refine Z_getR dX11_most_5 cl_11 fl_X11_21_11 rfl (cw_i0 hw) (cw_p0_0 hw) ?_
  refine Z_iconst (v := -1) dX11_most_8 (by decide) ?_
  refine Z_iconst (v := -1) dX11_most_9 (by decide) ?_
  refine Z_V3z (ci := 0) dX11_most_10 to_X0_look lk_X11_173 iv_X0_look ⟨rfl, rfl⟩ (cw_i23 hw) (Nat.le_of_ble_eq_true rfl) ⟨rfl, rfl⟩ ⟨by decide, by decide⟩ ?_
  refine k_lookN hr (Or.inl rfl) (fun β hw1 hc1 hf1 => ?_)
  have hw := hw1.1.1
  refine Z_aload_n dX11_most_13 rfl rfl ?_
  refine Z_getR dX11_most_14 cl_11 fl_X11_40_11 rfl (cw_i0 hw) (cw_p0_4 hw) ?_
  refine Z_V0z (ci := 0) dX11_most_17 to_X0_forget lk_X11_177 iv_X0_forget ⟨rfl, rfl⟩ (cw_i23 hw) (Nat.le_of_ble_eq_true rfl) ⟨rfl, rfl⟩ ⟨by decide, by decide⟩ ?_
  refine k_forget hw1 hc1 (fun γ hw2 hc2 hm2 hf2 => ?_)
  have hw := hw2.1.1
  refine Z_aload_n dX11_most_20 rfl rfl ?_
  refine Z_getR dX11_most_21 cl_11 fl_X11_40_11 rfl (cw_i0 hw) (cw_p0_4 hw) ?_
  refine Z_aload_n dX11_most_24 rfl rfl ?_
  refine Z_getR dX11_most_25 cl_11 fl_X11_21_11 rfl (cw_i0 hw) (cw_p0_0 hw) ?_
  refine Z_getIv dX11_most_28 cl_5 fl_X11_93_5 rfl (cw_i5 hw) hw2.1.2.2.2.1.2.1.2.1 ?_
  refine Z_V1z (ci := 0) dX11_most_31 to_X0_mostPaid lk_X11_197 iv_X0_mostPaid ⟨rfl, rfl⟩ (cw_i23 hw) (Nat.le_of_ble_eq_true rfl) ⟨rfl, rfl⟩ ⟨by decide, by decide⟩ ?_
  rw [← zss_q hr.sb]
  refine k_mostPaid hw2 hc2 zq1.1 (by rw [zq1.2.1]; omega) (hm2 _) (fun δ hw3 hc3 hf3 => ?_)
  rw [zbc_n]
  refine Z_iret dX11_most_34 rfl rfl ⟨by decide, by decide⟩ ?_
  exact h δ hw3.1 (((hf1.fc (Or.inl rfl)).fi hf2 (fun k => Fo.c (Or.inl rfl))).fi hf3 (fun k => Fo.c (Or.inl rfl)))
end CK1
