section CN2
variable {G : ZG} {M : ZM} {d pc : Nat} {L : List (Option Value)} {st : List Value} {u : Nat × Nat} {α β γ : AH} {post : Option Value → AH → Prop} {Γ : Nat → VC} {A : ZA} {a T q : Nat} {b t : Int32}
theorem Z_aastW {k n m v kd row : Nat} {i num x : Int32} (hd : decode (mC M) pc = .ok (.aastore, 1)) (hs : zIs α k (3, n)) (hix : zix i n m) (ho : wObj α v kd num x row) (kk : Z G M d (pc + 1) L st (sP α k m (some v)) u post) : Z G M d pc L (.ref (G.1 + v) :: .int i :: .ref (G.1 + k) :: st) α u post := by
  obtain ⟨-, hk6, hz, -⟩ := ho
  have hk : kd = 0 ∨ kd = 1 ∨ kd = 2 ∨ kd = 3 ∨ kd = 4 ∨ kd = 5 ∨ kd = 6 := by omega
  rcases hk with rfl | rfl | rfl | rfl | rfl | rfl | rfl
  · exact Z_aast (ci := 10) hd hs hix hz rfl (Or.inl rfl) kk
  · exact Z_aast (ci := 3) hd hs hix hz rfl (Or.inr wd_1435) kk
  · exact Z_aast (ci := 2) hd hs hix hz rfl (Or.inr wd_1436) kk
  · exact Z_aast (ci := 9) hd hs hix hz rfl (Or.inr wd_1437) kk
  · exact Z_aast (ci := 6) hd hs hix hz rfl (Or.inr wd_1438) kk
  · exact Z_aast (ci := 1) hd hs hix hz rfl (Or.inr wd_1439) kk
  · exact Z_aast (ci := 7) hd hs hix hz rfl (Or.inr wd_1440) kk
theorem cw_p9 {j : Nat} {x : Option Nat} (h : CW α) : CW (sP α 9 j x) := ⟨h.1, fun q hq => by
  have : ∀ q ∈ zCp, q.1 ≠ 9 := by decide
  rw [hP_sP, if_neg (fun z => this q hq z.1)]; exact h.2 q hq⟩
theorem zw_at {h kd v : Nat} (i : Nat) (h8 : h < 8) : (zset (zset3 (zset (zset A (112 + h) kd) (120 + h) v) h) 0 (h + 1)).1.1 i = if i = 0 then h + 1 else if i = 112 + h then kd else if i = 120 + h then v else if 128 + 3 * h ≤ i ∧ i < 128 + 3 * h + 3 then 3 else A.1.1 i := by
  simp only [zset, zset3, u1]
  by_cases e0 : i = 0
  · rw [if_pos e0, if_pos e0]
  · rw [if_neg e0, if_neg e0]
    by_cases e1 : i = 112 + h
    · rw [if_neg (by omega), if_neg (by omega), if_neg (by omega), if_neg (by omega), if_pos e1, if_pos e1]
    · by_cases e2 : i = 120 + h
      · rw [if_neg (by omega), if_neg (by omega), if_neg (by omega), if_pos e2, if_neg e1, if_pos e2]
      · rw [if_neg e1, if_neg e2]
        by_cases e3 : 128 + 3 * h ≤ i ∧ i < 128 + 3 * h + 3
        · rw [if_pos e3]
          have : i = 128 + 3 * h + 0 ∨ i = 128 + 3 * h + 1 ∨ i = 128 + 3 * h + 2 := by omega
          rcases this with z | z | z
          · rw [if_neg (by omega), if_neg (by omega), if_pos z, if_neg e1, if_neg e2]
          · rw [if_neg (by omega), if_pos z, if_neg e1, if_neg e2]
          · rw [if_pos z, if_neg e1, if_neg e2]
        · rw [if_neg e3, if_neg (by omega), if_neg (by omega), if_neg (by omega), if_neg e2, if_neg e1]
theorem CRel.hire {kd v c : Nat} (hr : CRel Γ A α) (h8 : A.1.1 0 < 8) (hk : kd ≤ 6) (hv : v ≤ 9) (ho : wObj α c kd (nI (A.1.1 0)) (nI v) 63) : CRel Γ (zset (zset3 (zset (zset A (112 + A.1.1 0) kd) (120 + A.1.1 0) v) (A.1.1 0)) 0 (A.1.1 0 + 1)) (sI (sP α 9 (A.1.1 0) (some c)) 5 9 (nI (A.1.1 0 + 1))) := by
  have sea := hr.2.2.2.1
  have za := fun i => zw_at (A := A) (kd := kd) (v := v) i h8
  generalize hσ : (zset (zset3 (zset (zset A (112 + A.1.1 0) kd) (120 + A.1.1 0) v) (A.1.1 0)) 0 (A.1.1 0 + 1)) = B at za
  have hB : B = (((B.1.1, A.1.2), A.2) : ZA) := by rw [← hσ]; rfl
  rw [hB]
  have zo : ∀ i, i ≠ 0 → ¬ (112 ≤ i ∧ i < 152) → B.1.1 i = A.1.1 i := fun i h0 h1 => by rw [za i, if_neg h0, if_neg (by omega), if_neg (by omega), if_neg (by omega)]
  have z0 : B.1.1 0 = A.1.1 0 + 1 := by rw [za 0, if_pos rfl]
  have hf : frN α (sI (sP α 9 (A.1.1 0) (some c)) 5 9 (nI (A.1.1 0 + 1))) := ⟨rfl, rfl, fun k hk => ⟨sI_ne (α := sP α 9 (A.1.1 0) (some c)) (by omega), rfl, u2_row (by omega)⟩, fun k j _ h9 => by
    show hP (sP α 9 (A.1.1 0) (some c)) k j = _
    rw [hP_sP, if_neg (fun z => h9 z.1)]⟩
  have hz := hf.c.z
  have hsb : SB B.1.1 := by
    rw [← hσ]
    refine SB.set (SB.set (SB.set (SB.set (SB.set (SB.set hr.sb ?_ (by omega) (by omega)) ?_ (by omega) (by omega)) ?_ (by omega) (by omega)) ?_ (by omega) (by omega)) ?_ (by omega) (by omega)) ?_ (by omega) (by omega)
    · rw [zbd_kind h8]; exact hk
    · rw [zbd_v h8]; exact hv
    · rw [Nat.add_assoc, zbd_row (by omega)]; omega
    · rw [Nat.add_assoc, zbd_row (by omega)]; omega
    · rw [Nat.add_assoc, zbd_row (by omega)]; omega
    · show A.1.1 0 + 1 ≤ 8; omega
  have r5 : ∀ k, k ≠ 5 → hI (sI (sP α 9 (A.1.1 0) (some c)) 5 9 (nI (A.1.1 0 + 1))) k = hI α k := fun k hk => sI_ne (α := sP α 9 (A.1.1 0) (some c)) hk
  have n5 : ∀ j, j ≠ 9 → hI (sI (sP α 9 (A.1.1 0) (some c)) 5 9 (nI (A.1.1 0 + 1))) 5 j = hI α 5 j := fun j hj => by rw [hI_sI, if_neg (fun z => hj z.2)]; rfl
  refine hr.nowP (fun _ _ => rfl) hf hsb ⟨⟨fun i hi => ?_, fun i hi => ?_, fun i hi => ?_, fun i hi => ?_⟩, ⟨?_, ?_, ?_, ?_, ?_, ?_⟩, ?_, ?_⟩
  · rw [r5 _ (by omega), zo _ (by omega) (by omega)]; exact sea.1.1 i hi
  · rw [r5 _ (by omega), zo _ (by omega) (by omega)]; exact sea.1.2.1 i hi
  · rw [r5 _ (by omega), zo _ (by omega) (by omega)]; exact sea.1.2.2.1 i hi
  · rw [r5 _ (by omega), zo _ (by omega) (by omega)]; exact sea.1.2.2.2 i hi
  · rw [n5 _ (by omega), zo _ (by omega) (by omega)]; exact sea.2.1.1
  · rw [n5 _ (by omega)]
    unfold zss
    rw [zo 9 (by omega) (by omega), zo 10 (by omega) (by omega), zo 11 (by omega) (by omega)]; exact sea.2.1.2.1
  · rw [n5 _ (by omega), zo _ (by omega) (by omega)]; exact sea.2.1.2.2.1
  · rw [n5 _ (by omega), zo _ (by omega) (by omega)]; exact sea.2.1.2.2.2.1
  · rw [hI_sI, if_pos ⟨rfl, rfl⟩, z0]
  · rw [n5 _ (by omega), zo _ (by omega) (by omega)]; exact sea.2.1.2.2.2.2.2
  · obtain ⟨vv, q1, q2, q3⟩ := sea.2.2.1
    refine ⟨vv, ?_, q2.fr hz, q3.cg (fun i hi => zo i (by omega) (by omega))⟩
    show hP (sP α 9 (A.1.1 0) (some c)) 5 6 = some vv
    rw [hP_sP, if_neg (by omega)]; exact q1
  · refine ⟨fun w hw c' hc' => ?_, fun w hw => ?_⟩
    · have hc' : hP (sP α 9 (A.1.1 0) (some c)) 9 w = some c' := hc'
      rw [hP_sP] at hc'
      by_cases e : w = A.1.1 0
      · rw [if_pos ⟨rfl, e⟩] at hc'; cases hc'
        exact ⟨_, _, _, _, ho.fr hz⟩
      · rw [if_neg (fun z => e z.2)] at hc'
        obtain ⟨a1, a2, a3, a4, a5⟩ := sea.2.2.2.1 w hw c' hc'
        exact ⟨a1, a2, a3, a4, a5.fr hz⟩
    · rw [z0] at hw
      show ∃ c', hP (sP α 9 (A.1.1 0) (some c)) 9 w = some c' ∧ _
      rw [hP_sP]
      by_cases e : w = A.1.1 0
      · subst e
        rw [if_pos ⟨rfl, rfl⟩]
        refine ⟨c, rfl, ?_⟩
        have t0 : trow B.1.1 (A.1.1 0) = 63 := by
          unfold trow
          rw [za (128 + 3 * A.1.1 0), za (128 + 3 * A.1.1 0 + 1), za (128 + 3 * A.1.1 0 + 2)]
          rw [if_neg (by omega), if_neg (by omega), if_neg (by omega), if_pos (by omega), if_neg (by omega), if_neg (by omega), if_neg (by omega), if_pos (by omega), if_neg (by omega), if_neg (by omega), if_neg (by omega), if_pos (by omega)]
        rw [t0, za (112 + A.1.1 0), za (120 + A.1.1 0), if_neg (by omega), if_pos rfl, if_neg (by omega), if_neg (by omega), if_pos rfl]
        exact ho.fr hz
      · rw [if_neg (fun z => e z.2)]
        obtain ⟨c', q1, q2⟩ := sea.2.2.2.2 w (by omega)
        refine ⟨c', q1, ?_⟩
        have zz : ∀ i, (i = 112 + w ∨ i = 120 + w ∨ (128 + 3 * w ≤ i ∧ i < 128 + 3 * w + 3)) → B.1.1 i = A.1.1 i := fun i hi => by rw [za i, if_neg (by omega), if_neg (by omega), if_neg (by omega), if_neg (by omega)]
        have t0 : trow B.1.1 w = trow A.1.1 w := by
          unfold trow
          rw [zz _ (by omega), zz _ (by omega), zz _ (by omega)]
        rw [t0, zz (112 + w) (by omega), zz (120 + w) (by omega)]
        exact q2.fr hz
theorem k_worker {k v : Int32} (hr : CRel Γ A α) (h : ∀ β, CRel Γ (sp_worker A k v).2 β → frC α β → post (some (.int (sp_worker A k v).1)) β) : ZK G (d + 6) mX11_worker [.ref (G.1 + 0), .int k, .int v] α post := by
  have hw := hr.1
  have l0 : (0 : Int32).toInt = 0 := rfl
  have l6 : (6 : Int32).toInt = 6 := rfl
  have l7 : (7 : Int32).toInt = 7 := rfl
  have l9 : (9 : Int32).toInt = 9 := rfl
  have b0 : A.1.1 0 ≤ 8 := hr.sb.at (by omega) rfl
  have v0 := hr.2.2.2.1.2.1.2.2.2.2.1
  refine ZK.of (n := 0) (by decide) (Nat.le_of_ble_eq_true rfl) rfl ?_
  refine Z_iload_n dX11_worker_0 rfl rfl ?_
  refine Z_if_lt (tgt := 10) dX11_worker_1 (by decide) (fun h1 => ?_) (fun h1 => ?_)
  · skip
    have z : ¬ (0 ≤ k ∧ k ≤ 6) := by simp only [Int32.lt_iff_toInt_lt, Int32.le_iff_toInt_le] at *; omega
    have e : sp_worker A k v = (-1, A) := if_neg z
    rw [e] at h
    refine Z_iconst (v := -1) dX11_worker_10 (by decide) ?_
    refine Z_iret dX11_worker_11 rfl rfl ⟨by decide, by decide⟩ ?_
    exact h α hr frC.rf
  · skip
    refine Z_iload_n dX11_worker_4 rfl rfl ?_
    refine Z_bipush (v := 7) dX11_worker_5 (by decide) ?_
    refine Z_icmp_lt (tgt := 12) dX11_worker_7 (by decide) (fun h7 => ?_) (fun h7 => ?_)
    · skip
      have z : 0 ≤ k ∧ k ≤ 6 := by simp only [Int32.lt_iff_toInt_lt, Int32.le_iff_toInt_le] at *; omega
      refine Z_iload_n dX11_worker_12 rfl rfl ?_
      refine Z_if_lt (tgt := 22) dX11_worker_13 (by decide) (fun h13 => ?_) (fun h13 => ?_)
      · skip
        have z2 : ¬ (0 ≤ v ∧ v ≤ 9) := by simp only [Int32.lt_iff_toInt_lt, Int32.le_iff_toInt_le] at *; omega
        have e : sp_worker A k v = (-2, A) := (if_pos z).trans (if_neg z2)
        rw [e] at h
        refine Z_bipush (v := -2) dX11_worker_22 (by decide) ?_
        refine Z_iret dX11_worker_24 rfl rfl ⟨by decide, by decide⟩ ?_
        exact h α hr frC.rf
      · skip
        refine Z_iload_n dX11_worker_16 rfl rfl ?_
        refine Z_bipush (v := 9) dX11_worker_17 (by decide) ?_
        refine Z_icmp_le (tgt := 25) dX11_worker_19 (by decide) (fun h19 => ?_) (fun h19 => ?_)
        · skip
          have z2 : 0 ≤ v ∧ v ≤ 9 := by simp only [Int32.lt_iff_toInt_lt, Int32.le_iff_toInt_le] at *; omega
          obtain ⟨q, hq, rfl⟩ := arg_nI (n := 6) rfl rfl z
          obtain ⟨y, hy, rfl⟩ := arg_nI (n := 9) rfl rfl z2
          refine Z_aload_n dX11_worker_25 rfl rfl ?_
          refine Z_getR dX11_worker_26 cl_11 fl_X11_21_11 rfl (cw_i0 hw) (cw_p0_0 hw) ?_
          refine Z_getIv dX11_worker_29 cl_5 fl_X11_103_5 rfl (cw_i5 hw) v0 ?_
          refine Z_bipush (v := 8) dX11_worker_32 (by decide) ?_
          refine Z_icmp_lt (tgt := 40) dX11_worker_34 (by decide) (fun h34 => ?_) (fun h34 => ?_)
          · skip
            have hh8 : A.1.1 0 < 8 := (nI_ltI (b := 8) (by omega) (by omega)).mp h34
            have e : sp_worker A (nI q) (nI y) = (nI (A.1.1 0), zset (zset3 (zset (zset A (112 + A.1.1 0) q) (120 + A.1.1 0) y) (A.1.1 0)) 0 (A.1.1 0 + 1)) := by
              unfold sp_worker
              rw [if_pos z, if_pos z2, if_neg (by omega), nI_clamp (by omega), nI_clamp (by omega)]
            rw [e] at h
            refine Z_aload_n dX11_worker_40 rfl rfl ?_
            refine Z_getR dX11_worker_41 cl_11 fl_X11_21_11 rfl (cw_i0 hw) (cw_p0_0 hw) ?_
            refine Z_getR dX11_worker_44 cl_5 fl_X11_106_5 rfl (cw_i5 hw) (cw_p5_8 hw) ?_
            refine Z_aload_n dX11_worker_47 rfl rfl ?_
            refine Z_getR dX11_worker_48 cl_11 fl_X11_21_11 rfl (cw_i0 hw) (cw_p0_0 hw) ?_
            refine Z_getIv dX11_worker_51 cl_5 fl_X11_103_5 rfl (cw_i5 hw) v0 ?_
            refine Z_iload_n dX11_worker_54 rfl rfl ?_
            refine Z_aload_n dX11_worker_55 rfl rfl ?_
            refine Z_getR dX11_worker_56 cl_11 fl_X11_21_11 rfl (cw_i0 hw) (cw_p0_0 hw) ?_
            refine Z_getIv dX11_worker_59 cl_5 fl_X11_103_5 rfl (cw_i5 hw) v0 ?_
            refine Z_iload_n dX11_worker_62 rfl rfl ?_
            refine Z_S3 dX11_worker_63 to_X11_hired lk_X11_110 sc_X11_hired (Nat.le_of_ble_eq_true rfl) ⟨by decide, by decide⟩ ?_
            refine k_hired hr.2.1 hq (fun β hf1 hn1 ho => ?_)
            have hr1 := hr.ext hf1
            have hw := hr1.1
            refine Z_aastW dX11_worker_66 (cw_i9 hw) (zix_nI (m := A.1.1 0) hh8 (by decide)) ho ?_
            have hw := cw_p9 (j := A.1.1 0) (x := some (hN α)) hr1.1
            refine Z_aload_n dX11_worker_67 rfl rfl ?_
            refine Z_getR dX11_worker_68 cl_11 fl_X11_21_11 rfl (cw_i0 hw) (cw_p0_0 hw) ?_
            refine Z_dup dX11_worker_71 rfl ?_
            refine Z_getIv dX11_worker_72 cl_5 fl_X11_103_5 rfl (cw_i5 hw) (show _ = nI (A.1.1 0) from hr1.2.2.2.1.2.1.2.2.2.2.1) ?_
            refine Z_iconst (v := 1) dX11_worker_75 (by decide) ?_
            refine Z_iadd dX11_worker_76 ?_
            refine Z_putI dX11_worker_77 cl_5 fl_X11_103_5 (Or.inl fn_5_9) rfl (cw_i5 hw) rfl rfl ?_
            refine Z_aload_n dX11_worker_80 rfl rfl ?_
            refine Z_getR dX11_worker_81 cl_11 fl_X11_21_11 rfl (cw_i0 hw) (cw_p0_0 hw) ?_
            refine Z_getIv dX11_worker_84 cl_5 fl_X11_103_5 rfl (cw_i5 hw) (show _ = nI (A.1.1 0) + 1 by rw [hI_sI, if_pos ⟨rfl, rfl⟩]) ?_
            refine Z_iconst (v := 1) dX11_worker_87 (by decide) ?_
            refine Z_isub dX11_worker_88 ?_
            refine Z_iret dX11_worker_89 rfl rfl ⟨by decide, by decide⟩ ?_
            rw [nI_1, show nI (A.1.1 0 + 1) - 1 = nI (A.1.1 0) from nI_s (b := 1) (by omega)]
            refine h _ (CRel.hire hr1 (by omega) hq hy ho) ((hf1.c.pPn (Or.inl (by unfold cId; omega))).pIn (Or.inl (by unfold cId; omega)))
          · skip
            have e : sp_worker A (nI q) (nI y) = (-4, A) := (if_pos z).trans ((if_pos z2).trans (if_pos (by have : ¬ A.1.1 0 < 8 := fun m => h34 (nI_lt (b := 8) m (by omega)); omega)))
            rw [e] at h
            refine Z_bipush (v := -4) dX11_worker_37 (by decide) ?_
            refine Z_iret dX11_worker_39 rfl rfl ⟨by decide, by decide⟩ ?_
            exact h α hr frC.rf
        · skip
          have z2 : ¬ (0 ≤ v ∧ v ≤ 9) := by simp only [Int32.lt_iff_toInt_lt, Int32.le_iff_toInt_le] at *; omega
          have e : sp_worker A k v = (-2, A) := (if_pos z).trans (if_neg z2)
          rw [e] at h
          refine Z_bipush (v := -2) dX11_worker_22 (by decide) ?_
          refine Z_iret dX11_worker_24 rfl rfl ⟨by decide, by decide⟩ ?_
          exact h α hr frC.rf
    · skip
      have z : ¬ (0 ≤ k ∧ k ≤ 6) := by simp only [Int32.lt_iff_toInt_lt, Int32.le_iff_toInt_le] at *; omega
      have e : sp_worker A k v = (-1, A) := if_neg z
      rw [e] at h
      refine Z_iconst (v := -1) dX11_worker_10 (by decide) ?_
      refine Z_iret dX11_worker_11 rfl rfl ⟨by decide, by decide⟩ ?_
      exact h α hr frC.rf
end CN2
