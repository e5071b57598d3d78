section CN3
variable {G : ZG} {d : Nat} {α β γ : AH} {post : Option Value → AH → Prop} {Γ : Nat → VC} {A : ZA} {a T q : Nat} {b t : Int32}
theorem CRel.tell {w s m c : Nat} (hr : CRel Γ A α) (hw0 : w < A.1.1 0) (hs : s < 3) (hm : m ≤ 3) (hk : A.1.1 (112 + w) = 6) (ho : wObj α c 6 (nI w) (nI (A.1.1 (120 + w))) (trow A.1.1 w - trow A.1.1 w / 4 ^ s % 4 * 4 ^ s + m * 4 ^ s)) : CRel Γ (zset A (128 + 3 * w + s) m) (sP α 9 w (some c)) := by
  have sea := hr.2.2.2.1
  have b0 : A.1.1 0 ≤ 8 := hr.sb.at (by omega) rfl
  have hf : frN α (sP α 9 w (some c)) := ⟨rfl, rfl, fun k hk => ⟨rfl, rfl, u2_row (by omega)⟩, fun k j _ h9 => by rw [hP_sP, if_neg (fun z => h9 z.1)]⟩
  have hz := hf.c.z
  have hsb : SB (zset A (128 + 3 * w + s) m).1.1 := hr.sb.set (by rw [Nat.add_assoc, zbd_row (by omega)]; exact hm) (by omega) (by omega)
  have zo : ∀ i, i ≠ 128 + 3 * w + s → (zset A (128 + 3 * w + s) m).1.1 i = A.1.1 i := fun i hi => u1_n hi
  have tr : trow (zset A (128 + 3 * w + s) m).1.1 w = trow A.1.1 w - trow A.1.1 w / 4 ^ s % 4 * 4 ^ s + m * 4 ^ s := by
    rw [trow_d hr.sb (by omega) hs]
    have a0 : A.1.1 (128 + 3 * w) ≤ 3 := hr.sb.at (by omega) (by rw [show 128 + 3 * w = 128 + (3 * w) from rfl]; exact zbd_row (by omega))
    have a1 : A.1.1 (128 + 3 * w + 1) ≤ 3 := hr.sb.at (by omega) (by rw [Nat.add_assoc]; exact zbd_row (by omega))
    have a2 : A.1.1 (128 + 3 * w + 2) ≤ 3 := hr.sb.at (by omega) (by rw [Nat.add_assoc]; exact zbd_row (by omega))
    show trow (u1 A.1.1 (128 + 3 * w + s) m) w = _
    unfold trow
    rcases s3 hs with rfl | rfl | rfl
    · rw [show 128 + 3 * w + 0 = 128 + 3 * w from rfl, u1_s, u1_n (by omega), u1_n (by omega)]; simp; omega
    · rw [u1_n (by omega), u1_s, u1_n (by omega)]; simp; omega
    · rw [u1_n (by omega), u1_n (by omega), u1_s]; simp; omega
  generalize hσ : zset A (128 + 3 * w + s) m = B at hsb zo tr ⊢
  have hB : B = (((B.1.1, A.1.2), A.2) : ZA) := by rw [← hσ]; rfl
  rw [hB]
  refine hr.nowP (fun _ _ => rfl) hf hsb ⟨⟨fun i hi => ?_, fun i hi => ?_, fun i hi => ?_, fun i hi => ?_⟩, ?_, ?_, ?_⟩
  · rw [zo _ (by omega)]; exact sea.1.1 i hi
  · rw [zo _ (by omega)]; exact sea.1.2.1 i hi
  · rw [zo _ (by omega)]; exact sea.1.2.2.1 i hi
  · rw [zo _ (by omega)]; exact sea.1.2.2.2 i hi
  · unfold cNums zss
    rw [zo _ (by omega), zo _ (by omega), zo _ (by omega), zo _ (by omega), zo _ (by omega), zo _ (by omega), zo _ (by omega), zo _ (by omega)]
    exact sea.2.1
  · obtain ⟨vv, q1, q2, q3⟩ := sea.2.2.1
    refine ⟨vv, ?_, q2.fr hz, q3.cg (fun i hi => zo i (by omega))⟩
    rw [hP_sP, if_neg (by omega)]; exact q1
  · refine ⟨fun w' hw' c' hc' => ?_, fun w' hw' => ?_⟩
    · rw [hP_sP] at hc'
      by_cases e : w' = w
      · rw [if_pos ⟨rfl, e⟩] at hc'; cases hc'
        exact ⟨_, _, _, _, ho.fr hz⟩
      · rw [if_neg (fun z => e z.2)] at hc'
        obtain ⟨a1, a2, a3, a4, a5⟩ := sea.2.2.2.1 w' hw' c' hc'
        exact ⟨a1, a2, a3, a4, a5.fr hz⟩
    · rw [zo 0 (by omega)] at hw'
      rw [hP_sP]
      by_cases e : w' = w
      · subst e
        rw [if_pos ⟨rfl, rfl⟩]
        refine ⟨c, rfl, ?_⟩
        rw [tr, zo _ (by omega), zo _ (by omega), hk]
        exact ho.fr hz
      · rw [if_neg (fun z => e z.2)]
        obtain ⟨c', q1, q2⟩ := sea.2.2.2.2 w' (by omega)
        refine ⟨c', q1, ?_⟩
        have t0 : trow B.1.1 w' = trow A.1.1 w' := by
          unfold trow
          rw [zo _ (by omega), zo _ (by omega), zo _ (by omega)]
        rw [t0, zo _ (by omega), zo _ (by omega)]
        exact q2.fr hz
theorem k_row {w x n : Int32} (hr : CRel Γ A α) (h : ∀ β, CRel Γ (sp_row A w x n).2 β → frC α β → post (some (.int (sp_row A w x n).1)) β) : ZK G (d + 6) mX11_row [.ref (G.1 + 0), .int w, .int x, .int n] α post := by
  have hw := hr.1
  have l0 : (0 : Int32).toInt = 0 := rfl
  have l3 : (3 : Int32).toInt = 3 := rfl
  have b0 : A.1.1 0 ≤ 8 := hr.sb.at (by omega) rfl
  by_cases hz : 0 ≤ w ∧ w ≤ nI (A.1.1 0) - 1
  · obtain ⟨j, c, hj, hj8, rfl, hp, ho⟩ := hr.wk hz
    have e0 : ¬ (0 ≤ x ∧ x ≤ 2) → sp_row A (nI j) x n = (-1, A) := fun z => if_neg (fun y => z y.2)
    have e1 : (0 ≤ x ∧ x ≤ 2) → ¬ (0 ≤ n ∧ n ≤ 3) → sp_row A (nI j) x n = (-2, A) := fun z z2 => (if_pos ⟨hz, z⟩).trans (if_neg z2)
    have hk6 : A.1.1 (112 + j) ≤ 6 := ho.2.1
    have hkk : A.1.1 (112 + j) = 0 ∨ A.1.1 (112 + j) = 1 ∨ A.1.1 (112 + j) = 2 ∨ A.1.1 (112 + j) = 3 ∨ A.1.1 (112 + j) = 4 ∨ A.1.1 (112 + j) = 5 ∨ A.1.1 (112 + j) = 6 := by omega
    refine ZK.of (n := 2) (by decide) (Nat.le_of_ble_eq_true rfl) rfl ?_
    rcases hkk with hk | hk | hk | hk | hk | hk | hk
    · have hzz : zIs α c (14, 3) := by have := ho.2.2.1; rw [hk] at this; exact this
      refine Z_aload_n dX11_row_0 rfl rfl ?_
      refine Z_iload_n dX11_row_1 rfl rfl ?_
      refine Z_V1z (ci := 11) dX11_row_2 to_X11_workerAt lk_X11_114 iv_X11_workerAt ⟨rfl, rfl⟩ (cw_i0 hw) (Nat.le_of_ble_eq_true rfl) ⟨rfl, rfl⟩ ⟨by decide, by decide⟩ ?_
      refine k_wAt1 hr hj hp ?_
      refine Z_astore (L' := [_, _, _, _, _, _]) dX11_row_5 (by decide) rfl rfl ?_
      refine Z_aload dX11_row_7 rfl ?_
      refine Z_ifnull dX11_row_9 ?_
      refine Z_iload_n dX11_row_12 rfl rfl ?_
      refine Z_S1z dX11_row_13 to_X11_isSort lk_X11_118 sc_X11_isSort (Nat.le_of_ble_eq_true rfl) ⟨rfl, rfl⟩ ⟨by decide, by decide⟩ ?_
      refine k_isSort ?_
      refine Z_if_ne (tgt := 21) dX11_row_16 (by decide) (fun h16 => ?_) (fun h16 => ?_)
      · skip
        refine Z_iload_n dX11_row_21 rfl rfl ?_
        refine Z_if_lt (tgt := 30) dX11_row_22 (by decide) (fun h22 => ?_) (fun h22 => ?_)
        · skip
          refine Z_bipush (v := -2) dX11_row_30 (by decide) ?_
          refine Z_iret dX11_row_32 rfl rfl ⟨by decide, by decide⟩ ?_
          rw [e1 (dec_t h16) (fun z => by simp only [Int32.lt_iff_toInt_lt, Int32.le_iff_toInt_le] at *; omega)] at h; exact h α hr frC.rf
        · skip
          refine Z_iload_n dX11_row_25 rfl rfl ?_
          refine Z_iconst (v := 3) dX11_row_26 (by decide) ?_
          refine Z_icmp_le (tgt := 33) dX11_row_27 (by decide) (fun h27 => ?_) (fun h27 => ?_)
          · skip
            have z2 : 0 ≤ n ∧ n ≤ 3 := by simp only [Int32.lt_iff_toInt_lt, Int32.le_iff_toInt_le] at *; omega
            obtain ⟨s, hs, rfl⟩ := okS.nI (dec_t h16)
            obtain ⟨m, hm, rfl⟩ := arg_nI (n := 3) rfl rfl z2
            refine Z_aload dX11_row_33 rfl ?_
            refine Z_instN (ci := 10) dX11_row_35 wd_529 rfl hzz (by decide) ?_
            refine Z_if_eq (tgt := 71) dX11_row_38 (by decide) (fun h38 => ?_) (fun h38 => ?_)
            · skip
              refine Z_bipush (v := -3) dX11_row_71 (by decide) ?_
              refine Z_iret dX11_row_73 rfl rfl ⟨by decide, by decide⟩ ?_
              have e : sp_row A (nI j) (nI s) (nI m) = (-3, A) := by
                unfold sp_row
                rw [if_pos ⟨hz, dec_t h16⟩, if_pos z2, nI_clamp (by omega), if_neg (by omega)]
              rw [e] at h; exact h α hr frC.rf
            · skip
              exact absurd rfl h38
          · skip
            refine Z_bipush (v := -2) dX11_row_30 (by decide) ?_
            refine Z_iret dX11_row_32 rfl rfl ⟨by decide, by decide⟩ ?_
            rw [e1 (dec_t h16) (fun z => by simp only [Int32.lt_iff_toInt_lt, Int32.le_iff_toInt_le] at *; omega)] at h; exact h α hr frC.rf
      · skip
        refine Z_iconst (v := -1) dX11_row_19 (by decide) ?_
        refine Z_iret dX11_row_20 rfl rfl ⟨by decide, by decide⟩ ?_
        rw [e0 (dec_f h16)] at h; exact h α hr frC.rf
    · have hzz : zIs α c (7, 3) := by have := ho.2.2.1; rw [hk] at this; exact this
      refine Z_aload_n dX11_row_0 rfl rfl ?_
      refine Z_iload_n dX11_row_1 rfl rfl ?_
      refine Z_V1z (ci := 11) dX11_row_2 to_X11_workerAt lk_X11_114 iv_X11_workerAt ⟨rfl, rfl⟩ (cw_i0 hw) (Nat.le_of_ble_eq_true rfl) ⟨rfl, rfl⟩ ⟨by decide, by decide⟩ ?_
      refine k_wAt1 hr hj hp ?_
      refine Z_astore (L' := [_, _, _, _, _, _]) dX11_row_5 (by decide) rfl rfl ?_
      refine Z_aload dX11_row_7 rfl ?_
      refine Z_ifnull dX11_row_9 ?_
      refine Z_iload_n dX11_row_12 rfl rfl ?_
      refine Z_S1z dX11_row_13 to_X11_isSort lk_X11_118 sc_X11_isSort (Nat.le_of_ble_eq_true rfl) ⟨rfl, rfl⟩ ⟨by decide, by decide⟩ ?_
      refine k_isSort ?_
      refine Z_if_ne (tgt := 21) dX11_row_16 (by decide) (fun h16 => ?_) (fun h16 => ?_)
      · skip
        refine Z_iload_n dX11_row_21 rfl rfl ?_
        refine Z_if_lt (tgt := 30) dX11_row_22 (by decide) (fun h22 => ?_) (fun h22 => ?_)
        · skip
          refine Z_bipush (v := -2) dX11_row_30 (by decide) ?_
          refine Z_iret dX11_row_32 rfl rfl ⟨by decide, by decide⟩ ?_
          rw [e1 (dec_t h16) (fun z => by simp only [Int32.lt_iff_toInt_lt, Int32.le_iff_toInt_le] at *; omega)] at h; exact h α hr frC.rf
        · skip
          refine Z_iload_n dX11_row_25 rfl rfl ?_
          refine Z_iconst (v := 3) dX11_row_26 (by decide) ?_
          refine Z_icmp_le (tgt := 33) dX11_row_27 (by decide) (fun h27 => ?_) (fun h27 => ?_)
          · skip
            have z2 : 0 ≤ n ∧ n ≤ 3 := by simp only [Int32.lt_iff_toInt_lt, Int32.le_iff_toInt_le] at *; omega
            obtain ⟨s, hs, rfl⟩ := okS.nI (dec_t h16)
            obtain ⟨m, hm, rfl⟩ := arg_nI (n := 3) rfl rfl z2
            refine Z_aload dX11_row_33 rfl ?_
            refine Z_instN (ci := 3) dX11_row_35 wd_529 rfl hzz (by decide) ?_
            refine Z_if_eq (tgt := 71) dX11_row_38 (by decide) (fun h38 => ?_) (fun h38 => ?_)
            · skip
              refine Z_bipush (v := -3) dX11_row_71 (by decide) ?_
              refine Z_iret dX11_row_73 rfl rfl ⟨by decide, by decide⟩ ?_
              have e : sp_row A (nI j) (nI s) (nI m) = (-3, A) := by
                unfold sp_row
                rw [if_pos ⟨hz, dec_t h16⟩, if_pos z2, nI_clamp (by omega), if_neg (by omega)]
              rw [e] at h; exact h α hr frC.rf
            · skip
              exact absurd rfl h38
          · skip
            refine Z_bipush (v := -2) dX11_row_30 (by decide) ?_
            refine Z_iret dX11_row_32 rfl rfl ⟨by decide, by decide⟩ ?_
            rw [e1 (dec_t h16) (fun z => by simp only [Int32.lt_iff_toInt_lt, Int32.le_iff_toInt_le] at *; omega)] at h; exact h α hr frC.rf
      · skip
        refine Z_iconst (v := -1) dX11_row_19 (by decide) ?_
        refine Z_iret dX11_row_20 rfl rfl ⟨by decide, by decide⟩ ?_
        rw [e0 (dec_f h16)] at h; exact h α hr frC.rf
    · have hzz : zIs α c (6, 3) := by have := ho.2.2.1; rw [hk] at this; exact this
      refine Z_aload_n dX11_row_0 rfl rfl ?_
      refine Z_iload_n dX11_row_1 rfl rfl ?_
      refine Z_V1z (ci := 11) dX11_row_2 to_X11_workerAt lk_X11_114 iv_X11_workerAt ⟨rfl, rfl⟩ (cw_i0 hw) (Nat.le_of_ble_eq_true rfl) ⟨rfl, rfl⟩ ⟨by decide, by decide⟩ ?_
      refine k_wAt1 hr hj hp ?_
      refine Z_astore (L' := [_, _, _, _, _, _]) dX11_row_5 (by decide) rfl rfl ?_
      refine Z_aload dX11_row_7 rfl ?_
      refine Z_ifnull dX11_row_9 ?_
      refine Z_iload_n dX11_row_12 rfl rfl ?_
      refine Z_S1z dX11_row_13 to_X11_isSort lk_X11_118 sc_X11_isSort (Nat.le_of_ble_eq_true rfl) ⟨rfl, rfl⟩ ⟨by decide, by decide⟩ ?_
      refine k_isSort ?_
      refine Z_if_ne (tgt := 21) dX11_row_16 (by decide) (fun h16 => ?_) (fun h16 => ?_)
      · skip
        refine Z_iload_n dX11_row_21 rfl rfl ?_
        refine Z_if_lt (tgt := 30) dX11_row_22 (by decide) (fun h22 => ?_) (fun h22 => ?_)
        · skip
          refine Z_bipush (v := -2) dX11_row_30 (by decide) ?_
          refine Z_iret dX11_row_32 rfl rfl ⟨by decide, by decide⟩ ?_
          rw [e1 (dec_t h16) (fun z => by simp only [Int32.lt_iff_toInt_lt, Int32.le_iff_toInt_le] at *; omega)] at h; exact h α hr frC.rf
        · skip
          refine Z_iload_n dX11_row_25 rfl rfl ?_
          refine Z_iconst (v := 3) dX11_row_26 (by decide) ?_
          refine Z_icmp_le (tgt := 33) dX11_row_27 (by decide) (fun h27 => ?_) (fun h27 => ?_)
          · skip
            have z2 : 0 ≤ n ∧ n ≤ 3 := by simp only [Int32.lt_iff_toInt_lt, Int32.le_iff_toInt_le] at *; omega
            obtain ⟨s, hs, rfl⟩ := okS.nI (dec_t h16)
            obtain ⟨m, hm, rfl⟩ := arg_nI (n := 3) rfl rfl z2
            refine Z_aload dX11_row_33 rfl ?_
            refine Z_instN (ci := 2) dX11_row_35 wd_529 rfl hzz (by decide) ?_
            refine Z_if_eq (tgt := 71) dX11_row_38 (by decide) (fun h38 => ?_) (fun h38 => ?_)
            · skip
              refine Z_bipush (v := -3) dX11_row_71 (by decide) ?_
              refine Z_iret dX11_row_73 rfl rfl ⟨by decide, by decide⟩ ?_
              have e : sp_row A (nI j) (nI s) (nI m) = (-3, A) := by
                unfold sp_row
                rw [if_pos ⟨hz, dec_t h16⟩, if_pos z2, nI_clamp (by omega), if_neg (by omega)]
              rw [e] at h; exact h α hr frC.rf
            · skip
              exact absurd rfl h38
          · skip
            refine Z_bipush (v := -2) dX11_row_30 (by decide) ?_
            refine Z_iret dX11_row_32 rfl rfl ⟨by decide, by decide⟩ ?_
            rw [e1 (dec_t h16) (fun z => by simp only [Int32.lt_iff_toInt_lt, Int32.le_iff_toInt_le] at *; omega)] at h; exact h α hr frC.rf
      · skip
        refine Z_iconst (v := -1) dX11_row_19 (by decide) ?_
        refine Z_iret dX11_row_20 rfl rfl ⟨by decide, by decide⟩ ?_
        rw [e0 (dec_f h16)] at h; exact h α hr frC.rf
    · have hzz : zIs α c (13, 3) := by have := ho.2.2.1; rw [hk] at this; exact this
      refine Z_aload_n dX11_row_0 rfl rfl ?_
      refine Z_iload_n dX11_row_1 rfl rfl ?_
      refine Z_V1z (ci := 11) dX11_row_2 to_X11_workerAt lk_X11_114 iv_X11_workerAt ⟨rfl, rfl⟩ (cw_i0 hw) (Nat.le_of_ble_eq_true rfl) ⟨rfl, rfl⟩ ⟨by decide, by decide⟩ ?_
      refine k_wAt1 hr hj hp ?_
      refine Z_astore (L' := [_, _, _, _, _, _]) dX11_row_5 (by decide) rfl rfl ?_
      refine Z_aload dX11_row_7 rfl ?_
      refine Z_ifnull dX11_row_9 ?_
      refine Z_iload_n dX11_row_12 rfl rfl ?_
      refine Z_S1z dX11_row_13 to_X11_isSort lk_X11_118 sc_X11_isSort (Nat.le_of_ble_eq_true rfl) ⟨rfl, rfl⟩ ⟨by decide, by decide⟩ ?_
      refine k_isSort ?_
      refine Z_if_ne (tgt := 21) dX11_row_16 (by decide) (fun h16 => ?_) (fun h16 => ?_)
      · skip
        refine Z_iload_n dX11_row_21 rfl rfl ?_
        refine Z_if_lt (tgt := 30) dX11_row_22 (by decide) (fun h22 => ?_) (fun h22 => ?_)
        · skip
          refine Z_bipush (v := -2) dX11_row_30 (by decide) ?_
          refine Z_iret dX11_row_32 rfl rfl ⟨by decide, by decide⟩ ?_
          rw [e1 (dec_t h16) (fun z => by simp only [Int32.lt_iff_toInt_lt, Int32.le_iff_toInt_le] at *; omega)] at h; exact h α hr frC.rf
        · skip
          refine Z_iload_n dX11_row_25 rfl rfl ?_
          refine Z_iconst (v := 3) dX11_row_26 (by decide) ?_
          refine Z_icmp_le (tgt := 33) dX11_row_27 (by decide) (fun h27 => ?_) (fun h27 => ?_)
          · skip
            have z2 : 0 ≤ n ∧ n ≤ 3 := by simp only [Int32.lt_iff_toInt_lt, Int32.le_iff_toInt_le] at *; omega
            obtain ⟨s, hs, rfl⟩ := okS.nI (dec_t h16)
            obtain ⟨m, hm, rfl⟩ := arg_nI (n := 3) rfl rfl z2
            refine Z_aload dX11_row_33 rfl ?_
            refine Z_instN (ci := 9) dX11_row_35 wd_529 rfl hzz (by decide) ?_
            refine Z_if_eq (tgt := 71) dX11_row_38 (by decide) (fun h38 => ?_) (fun h38 => ?_)
            · skip
              refine Z_bipush (v := -3) dX11_row_71 (by decide) ?_
              refine Z_iret dX11_row_73 rfl rfl ⟨by decide, by decide⟩ ?_
              have e : sp_row A (nI j) (nI s) (nI m) = (-3, A) := by
                unfold sp_row
                rw [if_pos ⟨hz, dec_t h16⟩, if_pos z2, nI_clamp (by omega), if_neg (by omega)]
              rw [e] at h; exact h α hr frC.rf
            · skip
              exact absurd rfl h38
          · skip
            refine Z_bipush (v := -2) dX11_row_30 (by decide) ?_
            refine Z_iret dX11_row_32 rfl rfl ⟨by decide, by decide⟩ ?_
            rw [e1 (dec_t h16) (fun z => by simp only [Int32.lt_iff_toInt_lt, Int32.le_iff_toInt_le] at *; omega)] at h; exact h α hr frC.rf
      · skip
        refine Z_iconst (v := -1) dX11_row_19 (by decide) ?_
        refine Z_iret dX11_row_20 rfl rfl ⟨by decide, by decide⟩ ?_
        rw [e0 (dec_f h16)] at h; exact h α hr frC.rf
    · have hzz : zIs α c (10, 3) := by have := ho.2.2.1; rw [hk] at this; exact this
      refine Z_aload_n dX11_row_0 rfl rfl ?_
      refine Z_iload_n dX11_row_1 rfl rfl ?_
      refine Z_V1z (ci := 11) dX11_row_2 to_X11_workerAt lk_X11_114 iv_X11_workerAt ⟨rfl, rfl⟩ (cw_i0 hw) (Nat.le_of_ble_eq_true rfl) ⟨rfl, rfl⟩ ⟨by decide, by decide⟩ ?_
      refine k_wAt1 hr hj hp ?_
      refine Z_astore (L' := [_, _, _, _, _, _]) dX11_row_5 (by decide) rfl rfl ?_
      refine Z_aload dX11_row_7 rfl ?_
      refine Z_ifnull dX11_row_9 ?_
      refine Z_iload_n dX11_row_12 rfl rfl ?_
      refine Z_S1z dX11_row_13 to_X11_isSort lk_X11_118 sc_X11_isSort (Nat.le_of_ble_eq_true rfl) ⟨rfl, rfl⟩ ⟨by decide, by decide⟩ ?_
      refine k_isSort ?_
      refine Z_if_ne (tgt := 21) dX11_row_16 (by decide) (fun h16 => ?_) (fun h16 => ?_)
      · skip
        refine Z_iload_n dX11_row_21 rfl rfl ?_
        refine Z_if_lt (tgt := 30) dX11_row_22 (by decide) (fun h22 => ?_) (fun h22 => ?_)
        · skip
          refine Z_bipush (v := -2) dX11_row_30 (by decide) ?_
          refine Z_iret dX11_row_32 rfl rfl ⟨by decide, by decide⟩ ?_
          rw [e1 (dec_t h16) (fun z => by simp only [Int32.lt_iff_toInt_lt, Int32.le_iff_toInt_le] at *; omega)] at h; exact h α hr frC.rf
        · skip
          refine Z_iload_n dX11_row_25 rfl rfl ?_
          refine Z_iconst (v := 3) dX11_row_26 (by decide) ?_
          refine Z_icmp_le (tgt := 33) dX11_row_27 (by decide) (fun h27 => ?_) (fun h27 => ?_)
          · skip
            have z2 : 0 ≤ n ∧ n ≤ 3 := by simp only [Int32.lt_iff_toInt_lt, Int32.le_iff_toInt_le] at *; omega
            obtain ⟨s, hs, rfl⟩ := okS.nI (dec_t h16)
            obtain ⟨m, hm, rfl⟩ := arg_nI (n := 3) rfl rfl z2
            refine Z_aload dX11_row_33 rfl ?_
            refine Z_instN (ci := 6) dX11_row_35 wd_529 rfl hzz (by decide) ?_
            refine Z_if_eq (tgt := 71) dX11_row_38 (by decide) (fun h38 => ?_) (fun h38 => ?_)
            · skip
              refine Z_bipush (v := -3) dX11_row_71 (by decide) ?_
              refine Z_iret dX11_row_73 rfl rfl ⟨by decide, by decide⟩ ?_
              have e : sp_row A (nI j) (nI s) (nI m) = (-3, A) := by
                unfold sp_row
                rw [if_pos ⟨hz, dec_t h16⟩, if_pos z2, nI_clamp (by omega), if_neg (by omega)]
              rw [e] at h; exact h α hr frC.rf
            · skip
              exact absurd rfl h38
          · skip
            refine Z_bipush (v := -2) dX11_row_30 (by decide) ?_
            refine Z_iret dX11_row_32 rfl rfl ⟨by decide, by decide⟩ ?_
            rw [e1 (dec_t h16) (fun z => by simp only [Int32.lt_iff_toInt_lt, Int32.le_iff_toInt_le] at *; omega)] at h; exact h α hr frC.rf
      · skip
        refine Z_iconst (v := -1) dX11_row_19 (by decide) ?_
        refine Z_iret dX11_row_20 rfl rfl ⟨by decide, by decide⟩ ?_
        rw [e0 (dec_f h16)] at h; exact h α hr frC.rf
    · have hzz : zIs α c (5, 3) := by have := ho.2.2.1; rw [hk] at this; exact this
      refine Z_aload_n dX11_row_0 rfl rfl ?_
      refine Z_iload_n dX11_row_1 rfl rfl ?_
      refine Z_V1z (ci := 11) dX11_row_2 to_X11_workerAt lk_X11_114 iv_X11_workerAt ⟨rfl, rfl⟩ (cw_i0 hw) (Nat.le_of_ble_eq_true rfl) ⟨rfl, rfl⟩ ⟨by decide, by decide⟩ ?_
      refine k_wAt1 hr hj hp ?_
      refine Z_astore (L' := [_, _, _, _, _, _]) dX11_row_5 (by decide) rfl rfl ?_
      refine Z_aload dX11_row_7 rfl ?_
      refine Z_ifnull dX11_row_9 ?_
      refine Z_iload_n dX11_row_12 rfl rfl ?_
      refine Z_S1z dX11_row_13 to_X11_isSort lk_X11_118 sc_X11_isSort (Nat.le_of_ble_eq_true rfl) ⟨rfl, rfl⟩ ⟨by decide, by decide⟩ ?_
      refine k_isSort ?_
      refine Z_if_ne (tgt := 21) dX11_row_16 (by decide) (fun h16 => ?_) (fun h16 => ?_)
      · skip
        refine Z_iload_n dX11_row_21 rfl rfl ?_
        refine Z_if_lt (tgt := 30) dX11_row_22 (by decide) (fun h22 => ?_) (fun h22 => ?_)
        · skip
          refine Z_bipush (v := -2) dX11_row_30 (by decide) ?_
          refine Z_iret dX11_row_32 rfl rfl ⟨by decide, by decide⟩ ?_
          rw [e1 (dec_t h16) (fun z => by simp only [Int32.lt_iff_toInt_lt, Int32.le_iff_toInt_le] at *; omega)] at h; exact h α hr frC.rf
        · skip
          refine Z_iload_n dX11_row_25 rfl rfl ?_
          refine Z_iconst (v := 3) dX11_row_26 (by decide) ?_
          refine Z_icmp_le (tgt := 33) dX11_row_27 (by decide) (fun h27 => ?_) (fun h27 => ?_)
          · skip
            have z2 : 0 ≤ n ∧ n ≤ 3 := by simp only [Int32.lt_iff_toInt_lt, Int32.le_iff_toInt_le] at *; omega
            obtain ⟨s, hs, rfl⟩ := okS.nI (dec_t h16)
            obtain ⟨m, hm, rfl⟩ := arg_nI (n := 3) rfl rfl z2
            refine Z_aload dX11_row_33 rfl ?_
            refine Z_instN (ci := 1) dX11_row_35 wd_529 rfl hzz (by decide) ?_
            refine Z_if_eq (tgt := 71) dX11_row_38 (by decide) (fun h38 => ?_) (fun h38 => ?_)
            · skip
              refine Z_bipush (v := -3) dX11_row_71 (by decide) ?_
              refine Z_iret dX11_row_73 rfl rfl ⟨by decide, by decide⟩ ?_
              have e : sp_row A (nI j) (nI s) (nI m) = (-3, A) := by
                unfold sp_row
                rw [if_pos ⟨hz, dec_t h16⟩, if_pos z2, nI_clamp (by omega), if_neg (by omega)]
              rw [e] at h; exact h α hr frC.rf
            · skip
              exact absurd rfl h38
          · skip
            refine Z_bipush (v := -2) dX11_row_30 (by decide) ?_
            refine Z_iret dX11_row_32 rfl rfl ⟨by decide, by decide⟩ ?_
            rw [e1 (dec_t h16) (fun z => by simp only [Int32.lt_iff_toInt_lt, Int32.le_iff_toInt_le] at *; omega)] at h; exact h α hr frC.rf
      · skip
        refine Z_iconst (v := -1) dX11_row_19 (by decide) ?_
        refine Z_iret dX11_row_20 rfl rfl ⟨by decide, by decide⟩ ?_
        rw [e0 (dec_f h16)] at h; exact h α hr frC.rf
    · have hzz : zIs α c (11, 4) := by have := ho.2.2.1; rw [hk] at this; exact this
      have ho : wObj α c 6 (nI j) (nI (A.1.1 (120 + j))) (trow A.1.1 j) := by have := ho; rw [hk] at this; exact this
      refine Z_aload_n dX11_row_0 rfl rfl ?_
      refine Z_iload_n dX11_row_1 rfl rfl ?_
      refine Z_V1z (ci := 11) dX11_row_2 to_X11_workerAt lk_X11_114 iv_X11_workerAt ⟨rfl, rfl⟩ (cw_i0 hw) (Nat.le_of_ble_eq_true rfl) ⟨rfl, rfl⟩ ⟨by decide, by decide⟩ ?_
      refine k_wAt1 hr hj hp ?_
      refine Z_astore (L' := [_, _, _, _, _, _]) dX11_row_5 (by decide) rfl rfl ?_
      refine Z_aload dX11_row_7 rfl ?_
      refine Z_ifnull dX11_row_9 ?_
      refine Z_iload_n dX11_row_12 rfl rfl ?_
      refine Z_S1z dX11_row_13 to_X11_isSort lk_X11_118 sc_X11_isSort (Nat.le_of_ble_eq_true rfl) ⟨rfl, rfl⟩ ⟨by decide, by decide⟩ ?_
      refine k_isSort ?_
      refine Z_if_ne (tgt := 21) dX11_row_16 (by decide) (fun h16 => ?_) (fun h16 => ?_)
      · skip
        refine Z_iload_n dX11_row_21 rfl rfl ?_
        refine Z_if_lt (tgt := 30) dX11_row_22 (by decide) (fun h22 => ?_) (fun h22 => ?_)
        · skip
          refine Z_bipush (v := -2) dX11_row_30 (by decide) ?_
          refine Z_iret dX11_row_32 rfl rfl ⟨by decide, by decide⟩ ?_
          rw [e1 (dec_t h16) (fun z => by simp only [Int32.lt_iff_toInt_lt, Int32.le_iff_toInt_le] at *; omega)] at h; exact h α hr frC.rf
        · skip
          refine Z_iload_n dX11_row_25 rfl rfl ?_
          refine Z_iconst (v := 3) dX11_row_26 (by decide) ?_
          refine Z_icmp_le (tgt := 33) dX11_row_27 (by decide) (fun h27 => ?_) (fun h27 => ?_)
          · skip
            have z2 : 0 ≤ n ∧ n ≤ 3 := by simp only [Int32.lt_iff_toInt_lt, Int32.le_iff_toInt_le] at *; omega
            obtain ⟨s, hs, rfl⟩ := okS.nI (dec_t h16)
            obtain ⟨m, hm, rfl⟩ := arg_nI (n := 3) rfl rfl z2
            refine Z_aload dX11_row_33 rfl ?_
            refine Z_instS (ci := 7) dX11_row_35 rfl wd_529 hzz ?_
            refine Z_if_eq (tgt := 71) dX11_row_38 (by decide) (fun h38 => ?_) (fun h38 => ?_)
            · skip
              exact absurd h38 (by decide)
            · skip
              refine Z_aload dX11_row_41 rfl ?_
              refine Z_castS (ci := 7) dX11_row_43 rfl wd_529 hzz ?_
              refine Z_astore (L' := [_, _, _, _, _, _]) dX11_row_46 (by decide) rfl rfl ?_
              refine Z_aload_n dX11_row_48 rfl rfl ?_
              refine Z_getR dX11_row_49 cl_11 fl_X11_21_11 rfl (cw_i0 hw) (cw_p0_0 hw) ?_
              refine Z_getR dX11_row_52 cl_5 fl_X11_106_5 rfl (cw_i5 hw) (cw_p5_8 hw) ?_
              refine Z_iload_n dX11_row_55 rfl rfl ?_
              refine Z_aload dX11_row_56 rfl ?_
              refine Z_iload_n dX11_row_58 rfl rfl ?_
              refine Z_iload_n dX11_row_59 rfl rfl ?_
              refine Z_V2 (ci := 7) dX11_row_60 to_X7_telling lk_X11_124 iv_X7_telling ⟨rfl, rfl⟩ hzz (Nat.le_of_ble_eq_true rfl) ⟨by decide, by decide⟩ ?_
              refine k_telling (s := s) (m := m) hr.2.1 ho (by omega) (by omega) (fun β hf1 hn1 ho1 => ?_)
              have hr1 := hr.ext hf1
              have hw := hr1.1
              have hzz : zIs (sP β 9 j (some (hN α))) c (11, 4) := (ho.fr hf1.c.z).2.2.1
              refine Z_aastW dX11_row_63 (cw_i9 hr1.1) (zix_nI (m := j) hj8 (by decide)) ho1 ?_
              refine Z_aload dX11_row_64 rfl ?_
              refine Z_iload_n dX11_row_66 rfl rfl ?_
              refine Z_V1z (ci := 7) dX11_row_67 to_X7_toldFor lk_X11_128 iv_X7_toldFor ⟨rfl, rfl⟩ hzz (Nat.le_of_ble_eq_true rfl) ⟨rfl, rfl⟩ ⟨by decide, by decide⟩ ?_
              refine k_toldFor (row := trow A.1.1 j) (show zIs (sP β 9 j (some (hN α))) c (11, 4) from (ho.fr hf1.c.z).2.2.1) ((ho.fr hf1.c.z).2.2.2.2.2.2.1 rfl) ho.2.2.2.2.2.2.2 (by omega) ?_
              rw [trow_d hr.sb hj8 (by omega)]
              refine Z_iret dX11_row_70 rfl rfl ⟨by decide, by decide⟩ ?_
              have e : sp_row A (nI j) (nI s) (nI m) = (nI (A.1.1 (128 + 3 * j + s)), zset A (128 + 3 * j + s) m) := by
                unfold sp_row
                rw [if_pos ⟨hz, dec_t h16⟩, if_pos z2, nI_clamp (by omega), nI_clamp (by omega), nI_clamp (by omega), if_pos hk]
              rw [e] at h
              exact h _ (hr1.tell hj (by omega) hm hk ho1) (hf1.c.pPn (Or.inl (by unfold cId; omega)))
          · skip
            refine Z_bipush (v := -2) dX11_row_30 (by decide) ?_
            refine Z_iret dX11_row_32 rfl rfl ⟨by decide, by decide⟩ ?_
            rw [e1 (dec_t h16) (fun z => by simp only [Int32.lt_iff_toInt_lt, Int32.le_iff_toInt_le] at *; omega)] at h; exact h α hr frC.rf
      · skip
        refine Z_iconst (v := -1) dX11_row_19 (by decide) ?_
        refine Z_iret dX11_row_20 rfl rfl ⟨by decide, by decide⟩ ?_
        rw [e0 (dec_f h16)] at h; exact h α hr frC.rf
  · have e : sp_row A w x n = (-1, A) := if_neg (fun z => hz z.1)
    rw [e] at h
    refine ZK.of (n := 2) (by decide) (Nat.le_of_ble_eq_true rfl) rfl ?_
    refine Z_aload_n dX11_row_0 rfl rfl ?_
    refine Z_iload_n dX11_row_1 rfl rfl ?_
    refine Z_V1z (ci := 11) dX11_row_2 to_X11_workerAt lk_X11_114 iv_X11_workerAt ⟨rfl, rfl⟩ (cw_i0 hw) (Nat.le_of_ble_eq_true rfl) ⟨rfl, rfl⟩ ⟨by decide, by decide⟩ ?_
    refine k_wAt0 hr hz ?_
    refine Z_astoreN (L' := [_, _, _, _, _, _]) dX11_row_5 (by decide) rfl rfl ?_
    refine Z_aloadN dX11_row_7 rfl ?_
    refine Z_ifnullN (tgt := 19) dX11_row_9 (by decide) ?_
    refine Z_iconst (v := -1) dX11_row_19 (by decide) ?_
    refine Z_iret dX11_row_20 rfl rfl ⟨by decide, by decide⟩ ?_
    exact h α hr frC.rf
theorem cLk.ext (h : cLk Γ A a T b t α) (hc : cAt a α q) (hf : frE α β) : cLk Γ A a T b t β ∧ cAt a β q ∧ ∀ g, cOw α g → cOw β g := by
  obtain ⟨k1, k2, k3, ⟨v, k4, k5⟩, k6, k7, k8⟩ := h
  have h52 := k1.2.1
  have e : ∀ k, k < 52 → hI β k = hI α k ∧ hP β k = hP α k := fun k hk => ⟨(hf.2 k (by omega)).2.1, (hf.2 k (by omega)).2.2.2⟩
  have ea := e a (by omega)
  refine ⟨⟨k1.ext hf, k2, k3, ⟨v, by rw [ea.2]; exact k4, by rw [(e 5 (by omega)).2]; exact k5⟩, by rw [ea.1]; exact k6, by rw [ea.1]; exact k7, by rw [ea.1]; exact k8⟩, ?_, fun g hg q hq => ?_⟩
  · unfold cAt
    rw [ea.1, (e (a + 1) (by omega)).1]
    exact hc
  · rw [(e 4 (by omega)).1]; exact hg q hq
theorem zlon_w {k : Nat} (hk : k < 3) {s : Nat} (hs : s < 3) (hq : q < 5832) : zwy A T (-1) 0 6 (-1) (k * 21) q s = zlon (zcn A.1 T) k q s := by
  have e : k * 21 / 4 ^ s % 4 = k := by
    rcases s3 hs with rfl | rfl | rfl <;> rcases s3 hk with rfl | rfl | rfl <;> rfl
  have hw : zwaC (zcn A.1 T) (-1) q s = 3 := by
    have hl := zla_le hq
    unfold zwaC
    rw [if_neg (fun z => by
      have l1 : (-1 : Int32).toInt = -1 := rfl
      rw [Int32.le_iff_toInt_le, nI_toInt (by omega), l1] at z; omega)]
  unfold zwy zdoC zlon
  rw [zbc_n, e, hw, if_neg (by decide), if_neg (by decide), if_neg (by decide), if_neg (by decide), if_neg (by decide), if_pos rfl]
  by_cases hc : zcan (zcn A.1 T) q s k = true
  · rw [if_pos ⟨hk, hc⟩, if_pos hc]
  · rw [if_neg (fun z => hc z.2), if_neg hc]
theorem k_whatever (hr : CRel Γ A α) (h : ∀ β, CRel Γ A β → frC α β → post (some (.int (sp_whatever A.1))) β) : ZK G (d + 72) mX11_whatever [.ref (G.1 + 0)] α post := by
  have hw := hr.1
  have zq1 := zq_ok hr.sb
  have hO := zoq_zq hr.sb
  have hOl := zoq_le zq1.1
  have hpp := sp_pay_le hr.sb
  have lp : ∀ (j k : Nat), k + j = 3 → ∀ (β : AH) (x3 : Option Value), cLk Γ A 23 (A.1.1 5 + zrest A.1.1) (-1) 0 β → cAt 23 β (zq A.1.1) → frC α β → Z G mX11_whatever (d + 72) 17 [some (.ref (G.1 + 0)), some (.int (nI (zwb (zwh A.1) k))), some (.int (nI k)), x3] [] β (k, 4 * k) post := by
    intro j
    induction j with
    | zero =>
      intro k hk β x3 hw1 hc1 hf1
      have hk : k = 3 := by omega
      subst hk
      refine Z_iload_n dX11_whatever_17 rfl rfl ?_
      refine Z_iconst (v := 3) dX11_whatever_18 (by decide) ?_
      refine Z_icmp_ge (tgt := 77) dX11_whatever_19 (by decide) (fun h19 => ?_) (fun h19 => ?_)
      · skip
        refine Z_iload_n dX11_whatever_77 rfl rfl ?_
        refine Z_iret dX11_whatever_78 rfl rfl ⟨by decide, by decide⟩ ?_
        exact h β hw1.1 hf1
      · skip
        exact absurd (by decide) h19
    | succ j ih =>
      intro k hk β x3 hw1 hc1 hf1
      have hw := hw1.1.1
      have hk3 : k < 3 := by omega
      have hor := zwb_or (f := zwh A.1) (k := k) hk3
      have his := zown_is (cn := zcn A.1 (A.1.1 5 + zrest A.1.1)) (pay := sp_pay A.1.1) hk3 _ _ zq1.1 rfl
      have hlt := zown_lt (f := zlon (zcn A.1 (A.1.1 5 + zrest A.1.1)) k) (W := 2 ^ k) (zlon_ok hk3) hpp zq1.1
      have hb : (k + 1 ≤ 3 ∧ 4 * k + 4 ≤ 12) := by omega
      have hb0 : (k ≤ 3 ∧ 4 * k ≤ 12) := by omega
      refine Z_iload_n dX11_whatever_17 rfl rfl ?_
      refine Z_iconst (v := 3) dX11_whatever_18 (by decide) ?_
      refine Z_icmp_ge (tgt := 77) dX11_whatever_19 (by decide) (fun h19 => ?_) (fun h19 => ?_)
      · skip
        exact absurd h19 (nI_ge (a := k) (b := 3) (by omega) (by omega))
      · skip
        refine Z_aload_n dX11_whatever_22 rfl rfl ?_
        refine Z_getR dX11_whatever_23 cl_11 fl_X11_40_11 rfl (cw_i0 hw) (cw_p0_4 hw) ?_
        refine Z_V0z (ci := 0) dX11_whatever_26 to_X0_forget lk_X11_177 iv_X0_forget ⟨rfl, rfl⟩ (cw_i23 hw) (Nat.le_of_ble_eq_true rfl) ⟨rfl, rfl⟩ hb0 ?_
        refine k_forget hw1 hc1 (fun γ hw2 hc2 hm2 hf2 => ?_)
        have hw := hw2.1.1
        refine Z_aload_n dX11_whatever_29 rfl rfl ?_
        refine Z_getR dX11_whatever_30 cl_11 fl_X11_40_11 rfl (cw_i0 hw) (cw_p0_4 hw) ?_
        refine Z_iload_n dX11_whatever_33 rfl rfl ?_
        refine Z_S1 dX11_whatever_34 to_X11_lonely lk_X11_194 sc_X11_lonely (Nat.le_of_ble_eq_true rfl) hb ?_
        refine k_lonely hw2.1.2.1 hk3 (fun δ hf3 hn3 ho => ?_)
        obtain ⟨hw3, hc3, hm3⟩ := hw2.ext hc2 hf3
        have hw := hw3.1.1
        refine Z_iconst (v := 1) dX11_whatever_37 (by decide) ?_
        refine Z_iload_n dX11_whatever_38 rfl rfl ?_
        refine Z_ishl dX11_whatever_39 ?_
        refine Z_aload_n dX11_whatever_40 rfl rfl ?_
        refine Z_getR dX11_whatever_41 cl_11 fl_X11_21_11 rfl (cw_i0 hw) (cw_p0_0 hw) ?_
        refine Z_getIv dX11_whatever_44 cl_5 fl_X11_93_5 rfl (cw_i5 hw) hw3.1.2.2.2.1.2.1.2.1 ?_
        refine Z_V3z (ci := 0) dX11_whatever_47 to_X0_ownSum lk_X11_180 iv_X0_ownSum ⟨rfl, rfl⟩ (cw_i23 hw) (Nat.le_of_ble_eq_true rfl) ⟨rfl, rfl⟩ hb ?_
        rw [sh_ok k (by omega), ← zss_q hr.sb]
        refine k_ownSum (W := 2 ^ k) (by rcases s3 hk3 with rfl | rfl | rfl <;> decide) hw3 hc3 zq1.1 (by rw [zq1.2.1]; omega) ho (hm3 _ (hm2 _)) (fun ε hw4 hc4 hf4 => ?_)
        rw [show zown (zwy A (A.1.1 5 + zrest A.1.1) (-1) 0 6 (-1) (k * 21)) (sp_pay A.1.1) (2 ^ k) (zq A.1.1) = zown (zlon (zcn A.1 (A.1.1 5 + zrest A.1.1)) k) (sp_pay A.1.1) (2 ^ k) (zq A.1.1) from zown_f zwy_ok (fun q s hq hs => zlon_w hk3 hs hq) _ _ zq1.1 rfl]
        have hw := hw4.1.1
        have hfc : frC α ε := ((hf1.fi hf2 (fun k => Fo.c (Or.inl rfl))).tr hf3.c).fi hf4 (fun k => Fo.c (Or.inl rfl))
        refine Z_istore_n (L' := [_, _, _, _]) dX11_whatever_50 rfl (by decide) rfl rfl ?_
        refine Z_iload_n dX11_whatever_51 rfl rfl ?_
        refine Z_aload_n dX11_whatever_52 rfl rfl ?_
        refine Z_getR dX11_whatever_53 cl_11 fl_X11_21_11 rfl (cw_i0 hw) (cw_p0_0 hw) ?_
        refine Z_getR dX11_whatever_56 cl_5 fl_X11_51_5 rfl (cw_i5 hw) (cw_p5_0 hw) ?_
        refine Z_S1z dX11_whatever_59 to_X11_ordersOf lk_X11_170 sc_X11_ordersOf (Nat.le_of_ble_eq_true rfl) ⟨rfl, rfl⟩ hb ?_
        refine k_ordB hw4.1 ?_
        rw [← hO]
        refine Z_icmp_ne (tgt := 71) dX11_whatever_62 (by decide) (fun h62 => ?_) (fun h62 => ?_)
        · skip
          refine Z_iinc (L' := [_, _, _, _]) dX11_whatever_71 rfl (by rfl : _ + Int32.ofInt 1 = _ + 1) (by decide) rfl rfl ?_
          refine Z_goto (tgt := 17) dX11_whatever_74 (by decide) ?_
          rw [nI_1]
          first
            | (have z : ¬ zwh A.1 k = true := fun y => h62 (congrArg nI (his.mpr y))
               rw [if_neg z, Int32.or_zero] at hor
               rw [hor]
               exact ih (k + 1) (by omega) ε _ hw4 hc4 hfc)
            | (have z : zwh A.1 k = true := his.mp ((nI_eq (by omega) (by omega)).mp h62)
               rw [if_pos z] at hor
               rw [hor]
               exact ih (k + 1) (by omega) ε _ hw4 hc4 hfc)
        · skip
          refine Z_iload_n dX11_whatever_65 rfl rfl ?_
          refine Z_iconst (v := 1) dX11_whatever_66 (by decide) ?_
          refine Z_iload_n dX11_whatever_67 rfl rfl ?_
          refine Z_ishl dX11_whatever_68 ?_
          refine Z_ior dX11_whatever_69 ?_
          refine Z_istore_n (L' := [_, _, _, _]) dX11_whatever_70 rfl (by decide) rfl rfl ?_
          refine Z_iinc (L' := [_, _, _, _]) dX11_whatever_71 rfl (by rfl : _ + Int32.ofInt 1 = _ + 1) (by decide) rfl rfl ?_
          refine Z_goto (tgt := 17) dX11_whatever_74 (by decide) ?_
          rw [nI_1]
          first
            | (have z : ¬ zwh A.1 k = true := fun y => h62 (congrArg nI (his.mpr y))
               rw [if_neg z, Int32.or_zero] at hor
               rw [hor]
               exact ih (k + 1) (by omega) ε _ hw4 hc4 hfc)
            | (have z : zwh A.1 k = true := his.mp ((nI_eq (by omega) (by omega)).mp h62)
               rw [if_pos z] at hor
               rw [hor]
               exact ih (k + 1) (by omega) ε _ hw4 hc4 hfc)
  refine ZK.of (n := 3) (by decide) (Nat.le_of_ble_eq_true rfl) rfl ?_
  refine Z_aload_n dX11_whatever_0 rfl rfl ?_
  refine Z_getR dX11_whatever_1 cl_11 fl_X11_40_11 rfl (cw_i0 hw) (cw_p0_4 hw) ?_
  refine Z_aload_n dX11_whatever_4 rfl rfl ?_
  refine Z_getR dX11_whatever_5 cl_11 fl_X11_21_11 rfl (cw_i0 hw) (cw_p0_0 hw) ?_
  refine Z_iconst (v := -1) dX11_whatever_8 (by decide) ?_
  refine Z_iconst (v := -1) dX11_whatever_9 (by decide) ?_
  refine Z_V3z (ci := 0) dX11_whatever_10 to_X0_look lk_X11_173 iv_X0_look ⟨rfl, rfl⟩ (cw_i23 hw) (Nat.le_of_ble_eq_true rfl) ⟨rfl, rfl⟩ ⟨by decide, by decide⟩ ?_
  refine k_lookN hr (Or.inl rfl) (fun β hw1 hc1 hf1 => ?_)
  have hw := hw1.1.1
  refine Z_iconst (v := 0) dX11_whatever_13 (by decide) ?_
  refine Z_istore_n (L' := [_, _, _, _]) dX11_whatever_14 rfl (by decide) rfl rfl ?_
  refine Z_iconst (v := 0) dX11_whatever_15 (by decide) ?_
  refine Z_istore_n (L' := [_, _, _, _]) dX11_whatever_16 rfl (by decide) rfl rfl ?_
  exact lp 3 0 rfl β none hw1 hc1 (hf1.fc (Or.inl rfl))
end CN3
