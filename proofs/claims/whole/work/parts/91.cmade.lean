section CV1
variable {G : ZG} {d : Nat} {α β γ : AH} {post : Option Value → AH → Prop} {τ : Nat → Nat} {N p o c m : Nat} {cl : List ZCl} {Γ : Nat → VC} {A : ZA}
theorem frE.is {k : Nat} {sh : Nat × Nat} (h : frE α β) (hz : zIs α k sh) : zIs β k sh := ⟨Nat.lt_of_lt_of_le hz.1 h.1, (h.2 k hz.1).1.trans hz.2⟩
theorem frE.cw (h : frE α β) (hw : CW α) : CW β := by
  refine ⟨fun q hq => h.is (hw.1 q hq), fun q hq => ?_⟩
  have hlt : q.1 < hN α := by
    have h33 := (cw_i33 hw).1
    have : ∀ q ∈ zCp, q.1 ≤ 33 := by decide
    have := this q hq
    omega
  rw [(h.2 q.1 hlt).2.2.2]; exact hw.2 q hq
theorem c_copyOf {k n0 n : Nat} (hs : zIs α k (0, n0)) (hn : n ≤ n0) (h100 : n0 ≤ 100) (h : ∀ β, frE α β → hN β = hN α + 1 → zIs β (hN α) (0, n) → (∀ j, j < n → hI β (hN α) j = hI α k j) → post (some (.ref (G.1 + hN α))) β) : ZK G (d + 2) mJ7_copyOf_59c91 [.ref (G.1 + k), .int (nI n)] α post := by
  have hkl := hs.1
  refine ZK.of (n := 1) (by decide) (Nat.le_of_ble_eq_true rfl) rfl ?_
  by_cases e : n = n0
  · subst e
    have hz1 : zIs (nw α (0, n) (hI α k)) (hN α) (0, n) := ⟨Nat.lt_succ_self _, hS_nw⟩
    refine Z_iload_n dJ7_copyOf_59c91_0 rfl rfl ?_
    refine Z_aload_n dJ7_copyOf_59c91_1 rfl rfl ?_
    refine Z_alen dJ7_copyOf_59c91_2 hs (by decide) ?_
    refine Z_icmp_ne (tgt := 14) dJ7_copyOf_59c91_3 (by decide) (fun h3 => ?_) (fun h3 => ?_)
    · skip
      exact absurd rfl h3
    · skip
      refine Z_aload_n dJ7_copyOf_59c91_6 rfl rfl ?_
      refine Z_clone dJ7_copyOf_59c91_7 wd_422 hs (Nat.le_of_ble_eq_true rfl) ⟨by show 0 + 1 ≤ 1; omega, by show 0 + n ≤ 100; omega⟩ ?_
      refine Z_castA dJ7_copyOf_59c91_10 wd_428 hz1 ?_
      refine Z_aret dJ7_copyOf_59c91_13 (Or.inr ⟨_, rfl⟩) rfl (Or.inr ⟨_, rfl⟩) ⟨by show 0 + 1 ≤ 1; omega, by show 0 + n ≤ 100; omega⟩ ?_
      exact h _ frE.new rfl hz1 (fun j _ => congrFun (u1_s _ _ _) j)
  · have hz1 : zIs (nw α (0, n) (fun _ => 0)) (hN α) (0, n) := ⟨Nat.lt_succ_self _, hS_nw⟩
    have hs2 : zIs (nw α (0, n) (fun _ => 0)) k (0, n0) := frE.new.is hs
    have hi2 : hI (nw α (0, n) (fun _ => 0)) k = hI α k := (frE.new.2 k hkl).2.1
    refine Z_iload_n dJ7_copyOf_59c91_0 rfl rfl ?_
    refine Z_aload_n dJ7_copyOf_59c91_1 rfl rfl ?_
    refine Z_alen dJ7_copyOf_59c91_2 hs (by decide) ?_
    refine Z_icmp_ne (tgt := 14) dJ7_copyOf_59c91_3 (by decide) (fun h3 => ?_) (fun h3 => ?_)
    · skip
      refine Z_iload_n dJ7_copyOf_59c91_14 rfl rfl ?_
      refine Z_newa (t := 0) (N := n) dJ7_copyOf_59c91_15 rfl (Or.inl ⟨rfl, rfl⟩) wd_55 (nI_pos (by omega)) (nI_clamp (by omega)) (by omega) ⟨by show 0 + 1 ≤ 1; omega, by show 0 + n ≤ 100; omega⟩ ?_
      have hs := hs2
      refine Z_astore_n (L' := [_, _, _]) dJ7_copyOf_59c91_17 rfl (by decide) rfl rfl ?_
      refine Z_aload_n dJ7_copyOf_59c91_18 rfl rfl ?_
      refine Z_iconst (v := 0) dJ7_copyOf_59c91_19 (by decide) ?_
      refine Z_aload_n dJ7_copyOf_59c91_20 rfl rfl ?_
      refine Z_iconst (v := 0) dJ7_copyOf_59c91_21 (by decide) ?_
      refine Z_aload_n dJ7_copyOf_59c91_22 rfl rfl ?_
      refine Z_alen dJ7_copyOf_59c91_23 hs (by decide) ?_
      refine Z_iload_n dJ7_copyOf_59c91_24 rfl rfl ?_
      refine Z_mmin dJ7_copyOf_59c91_25 wd_429 mw_min.1 mw_min.2.1 mw_min.2.2 (Nat.le_of_ble_eq_true rfl) ⟨by show 0 + 1 ≤ 1; omega, by show 0 + n ≤ 100; omega⟩ ?_
      rw [if_pos (nI_lt (by omega) (by omega))]
      refine Z_copy (m := n) dJ7_copyOf_59c91_28 wd_430 hs hz1 rfl (by omega) (by omega) (Nat.le_refl _) (Nat.le_of_ble_eq_true rfl) ?_
      refine Z_aload_n dJ7_copyOf_59c91_31 rfl rfl ?_
      refine Z_aret dJ7_copyOf_59c91_32 (Or.inr ⟨_, rfl⟩) rfl (Or.inr ⟨_, rfl⟩) ⟨by show 0 + 1 ≤ 1; omega, by show 0 + n ≤ 100; omega⟩ ?_
      refine h _ (frE.new.row (Nat.le_refl _)) rfl hz1 (fun j hj => ?_)
      rw [hI_sIr, if_pos rfl, cpy_at hj, hi2]
    · skip
      exact absurd ((nI_eq (by omega) (by omega)).mp h3) e
def vNew (β : AH) (v c w e p : Nat) (x : Int32) : AH := sI (sP (sP (sP (sP β v 0 (some c)) v 1 (some w)) v 2 (some e)) v 3 (some p)) v 4 x
theorem k_vinit {v c w e p : Nat} {x : Int32} (hz : zIs α v (12, 5)) (h : post none (vNew α v c w e p x)) : ZK G (d + 1) mX8_init [.ref (G.1 + v), .ref (G.1 + c), .ref (G.1 + w), .ref (G.1 + e), .ref (G.1 + p), .int x] α post := by
  refine ZK.of (n := 0) (by decide) (Nat.le_of_ble_eq_true rfl) rfl ?_
  refine Z_aload_n dX8_init_0 rfl rfl ?_
  refine Z_obj dX8_init_1 ob_X8_3 (Nat.le_of_ble_eq_true rfl) ?_
  refine Z_aload_n dX8_init_4 rfl rfl ?_
  refine Z_aload_n dX8_init_5 rfl rfl ?_
  refine Z_putR dX8_init_6 cl_8 fl_X8_9_8 (Or.inr ⟨fn_8_0, rfl⟩) rfl hz rfl rfl ?_
  refine Z_aload_n dX8_init_9 rfl rfl ?_
  refine Z_aload_n dX8_init_10 rfl rfl ?_
  refine Z_putR dX8_init_11 cl_8 fl_X8_15_8 (Or.inr ⟨fn_8_1, rfl⟩) rfl hz rfl rfl ?_
  refine Z_aload_n dX8_init_14 rfl rfl ?_
  refine Z_aload_n dX8_init_15 rfl rfl ?_
  refine Z_putR dX8_init_16 cl_8 fl_X8_18_8 (Or.inr ⟨fn_8_2, rfl⟩) rfl hz rfl rfl ?_
  refine Z_aload_n dX8_init_19 rfl rfl ?_
  refine Z_aload dX8_init_20 rfl ?_
  refine Z_putR dX8_init_22 cl_8 fl_X8_21_8 (Or.inr ⟨fn_8_3, rfl⟩) rfl hz rfl rfl ?_
  refine Z_aload_n dX8_init_25 rfl rfl ?_
  refine Z_iload dX8_init_26 rfl ?_
  refine Z_putI dX8_init_28 cl_8 fl_X8_24_8 (Or.inr ⟨fn_8_4, rfl⟩) rfl hz rfl rfl ?_
  refine Z_vret dX8_init_31 rfl ⟨by decide, by decide⟩ ?_
  exact h
theorem vNew_o {v c w e p k : Nat} {x : Int32} (hk : k ≠ v) : same4 β (vNew β v c w e p x) k := ⟨rfl, sI_ne hk, rfl, by
  show hP (sP (sP (sP (sP β v 0 (some c)) v 1 (some w)) v 2 (some e)) v 3 (some p)) k = hP β k
  funext j
  rw [hP_sP, if_neg (fun z => hk z.1), hP_sP, if_neg (fun z => hk z.1), hP_sP, if_neg (fun z => hk z.1), hP_sP, if_neg (fun z => hk z.1)]⟩
theorem vNew_p {v c w e p : Nat} {x : Int32} : hP (vNew β v c w e p x) v 0 = some c ∧ hP (vNew β v c w e p x) v 1 = some w ∧ hP (vNew β v c w e p x) v 2 = some e ∧ hP (vNew β v c w e p x) v 3 = some p ∧ hI (vNew β v c w e p x) v 4 = x := by
  refine ⟨?_, ?_, ?_, ?_, ?_⟩
  · show hP (sP (sP (sP (sP β v 0 (some c)) v 1 (some w)) v 2 (some e)) v 3 (some p)) v 0 = some c
    rw [hP_sP, if_neg (by omega), hP_sP, if_neg (by omega), hP_sP, if_neg (by omega), hP_sP, if_pos ⟨rfl, rfl⟩]
  · show hP (sP (sP (sP (sP β v 0 (some c)) v 1 (some w)) v 2 (some e)) v 3 (some p)) v 1 = some w
    rw [hP_sP, if_neg (by omega), hP_sP, if_neg (by omega), hP_sP, if_pos ⟨rfl, rfl⟩]
  · show hP (sP (sP (sP (sP β v 0 (some c)) v 1 (some w)) v 2 (some e)) v 3 (some p)) v 2 = some e
    rw [hP_sP, if_neg (by omega), hP_sP, if_pos ⟨rfl, rfl⟩]
  · show hP (sP (sP (sP (sP β v 0 (some c)) v 1 (some w)) v 2 (some e)) v 3 (some p)) v 3 = some p
    rw [hP_sP, if_pos ⟨rfl, rfl⟩]
  · show hI (sI (sP (sP (sP (sP β v 0 (some c)) v 1 (some w)) v 2 (some e)) v 3 (some p)) v 4 x) v 4 = x
    rw [hI_sI, if_pos ⟨rfl, rfl⟩]
theorem KR.vok {f : Nat → Int32} (h : KR α f c cl) (hc : c ≤ 100) (h10 : cl.length ≤ 10) : vOk (cans cl, vPay cl, vCov cl) := by
  obtain ⟨-, k2, -, -, -, -, k7⟩ := h
  refine ⟨fun x hx => ?_, by show (vCode (cans cl)).length ≤ 100; omega, Nat.le_trans cans_le h10, fun j _ => vPay_le cl 1 (by omega) (fun q hq => (k7 q hq).1), vCov_le cl 0 (by omega) (fun q hq => (k7 q hq).1)⟩
  have hx : x ∈ cans cl := hx
  unfold cans at hx
  obtain ⟨q, hq, rfl⟩ := List.mem_map.mp hx
  obtain ⟨hq1, hq2⟩ := List.mem_filter.mp hq
  have hq2 : q.1 = 2 := of_decide_eq_true hq2
  have hw := k7 q hq1
  refine ⟨?_, hw.2 hq2⟩
  show q.2.1 ≤ 2
  rcases hw.1 with z | z | z
  · omega
  · omega
  · exact z.2
theorem k_made (hw : CW α) (hN52 : 52 ≤ hN α) (hk : KR α (hI α 19) c cl) (h4 : hI α 17 4 = nI c) (hc : c ≤ 100) (h10 : cl.length ≤ 10) (h : ∀ β, frE α β → vObj β (hN α) (cans cl, vPay cl, vCov cl) → post (some (.ref (G.1 + hN α))) β) : ZK G (d + 3) mX4_made [.ref (G.1 + 17)] α post := by
  have hvok := hk.vok hc h10
  have hm10 : (cans cl).length ≤ 10 := Nat.le_trans cans_le h10
  obtain ⟨k1, k2, k3, k4, k5, k6, -⟩ := hk
  generalize hv : hN α = v at *
  have f0 : frE α (nw α (12, 5) (fun _ => 0)) := frE.new
  have n0 : hN (nw α (12, 5) (fun _ => 0)) = v + 1 := by rw [← hv]; rfl
  have z0 : zIs (nw α (12, 5) (fun _ => 0)) v (12, 5) := by rw [← hv]; exact ⟨Nat.lt_succ_self _, hS_nw⟩
  have lo : ∀ {β : AH} {k : Nat}, frE α β → k < 52 → hI β k = hI α k := fun f hk => (f.2 _ (by omega)).2.1
  have fin : ∀ β1 β2 β3, frE (nw α (12, 5) (fun _ => 0)) β1 → hN β1 = v + 1 + 1 → zIs β1 (v + 1) (0, c) → (∀ j, j < c → hI β1 (v + 1) j = hI α 19 j) → frE β1 β2 → hN β2 = v + 1 + 1 + 1 → zIs β2 (v + 1 + 1) (0, (cans cl).length) → (∀ j, j < (cans cl).length → hI β2 (v + 1 + 1) j = hI α 20 j) → frE β2 β3 → hN β3 = v + 1 + 1 + 1 + 1 → zIs β3 (v + 1 + 1 + 1) (0, (cans cl).length) → (∀ j, j < (cans cl).length → hI β3 (v + 1 + 1 + 1) j = hI α 21 j) → frE α (vNew (nw β3 (0, 3) (hI β3 22)) v (v + 1) (v + 1 + 1) (v + 1 + 1 + 1) (v + 1 + 1 + 1 + 1) (nI (vCov cl))) ∧ vObj (vNew (nw β3 (0, 3) (hI β3 22)) v (v + 1) (v + 1 + 1) (v + 1 + 1 + 1) (v + 1 + 1 + 1 + 1) (nI (vCov cl))) v (cans cl, vPay cl, vCov cl) := by
    intro β1 β2 β3 f1 n1 z1 i1 f2 n2 z2 i2 f3 n3 z3 i3
    have f03 : frE α β3 := ((f0.tr f1).tr f2).tr f3
    have f34 : frE β3 (nw β3 (0, 3) (hI β3 22)) := frE.new
    have f04 := f03.tr f34
    have z4 : zIs (nw β3 (0, 3) (hI β3 22)) (v + 1 + 1 + 1 + 1) (0, 3) := by rw [← n3]; exact ⟨Nat.lt_succ_self _, hS_nw⟩
    have i4 : hI (nw β3 (0, 3) (hI β3 22)) (v + 1 + 1 + 1 + 1) = hI α 22 := by rw [← n3]; exact (u1_s _ _ _).trans (lo f03 (by omega))
    have z1' := f34.is (f3.is (f2.is z1))
    have z2' := f34.is (f3.is z2)
    have z3' := f34.is z3
    have z0' := f34.is (f3.is (f2.is (f1.is z0)))
    have i1' : hI (nw β3 (0, 3) (hI β3 22)) (v + 1) = hI β1 (v + 1) := ((f2.tr f3).tr f34).2 _ z1.1 |>.2.1
    have i2' : hI (nw β3 (0, 3) (hI β3 22)) (v + 1 + 1) = hI β2 (v + 1 + 1) := (f3.tr f34).2 _ z2.1 |>.2.1
    have i3' : hI (nw β3 (0, 3) (hI β3 22)) (v + 1 + 1 + 1) = hI β3 (v + 1 + 1 + 1) := f34.2 _ z3.1 |>.2.1
    generalize nw β3 (0, 3) (hI β3 22) = β4 at *
    have fo := fun k (hk : k ≠ v) => vNew_o (β := β4) (v := v) (c := v + 1) (w := v + 1 + 1) (e := v + 1 + 1 + 1) (p := v + 1 + 1 + 1 + 1) (x := nI (vCov cl)) hk
    obtain ⟨p0, p1, p2, p3, x4⟩ := vNew_p (β := β4) (v := v) (c := v + 1) (w := v + 1 + 1) (e := v + 1 + 1 + 1) (p := v + 1 + 1 + 1 + 1) (x := nI (vCov cl))
    have nn : hN (vNew β4 v (v + 1) (v + 1 + 1) (v + 1 + 1 + 1) (v + 1 + 1 + 1 + 1) (nI (vCov cl))) = hN β4 := rfl
    have ss : hS (vNew β4 v (v + 1) (v + 1 + 1) (v + 1 + 1 + 1) (v + 1 + 1 + 1 + 1) (nI (vCov cl))) = hS β4 := rfl
    generalize vNew β4 v (v + 1) (v + 1 + 1) (v + 1 + 1 + 1) (v + 1 + 1 + 1 + 1) (nI (vCov cl)) = δ at *
    have zi : ∀ {k : Nat} {sh : Nat × Nat}, zIs β4 k sh → zIs δ k sh := fun hz => ⟨by rw [nn]; exact hz.1, by rw [ss]; exact hz.2⟩
    refine ⟨⟨by rw [nn]; exact f04.1, fun k hk => (f04.2 k hk).tr (fo k (by omega))⟩, hvok, v + 1, v + 1 + 1, v + 1 + 1 + 1, v + 1 + 1 + 1 + 1, ?_⟩
    refine ⟨⟨Or.inr (by omega), Or.inr (by omega), Or.inr (by omega), Or.inr (by omega), Or.inr (by omega)⟩, zi z0', ⟨p0, p1, p2, p3⟩, ⟨?_, zi z2', zi z3', zi z4⟩, fun j hj => ?_, fun j hj => ⟨?_, ?_⟩, fun j hj => ?_, x4⟩
    · rw [← k2]; exact zi z1'
    · have hj : j < c := by rw [k2]; exact hj
      rw [(fo (v + 1) (by omega)).2.1, i1', i1 j hj]; exact k3 j hj
    · rw [(fo (v + 1 + 1) (by omega)).2.1, i2', i2 j hj]; exact (k4 j hj).1
    · rw [(fo (v + 1 + 1 + 1) (by omega)).2.1, i3', i3 j hj]; exact (k4 j hj).2
    · rw [(fo (v + 1 + 1 + 1 + 1) (by omega)).2.1, i4]; exact k5 j hj
  refine ZK.of (n := 0) (by decide) (Nat.le_of_ble_eq_true rfl) rfl ?_
  refine Z_new dX4_made_0 cl_8 nc_X4_57 cf_8 ⟨by decide, by decide⟩ ?_
  rw [hv]
  show Z G mX4_made (d + 3) _ _ _ (nw α (12, 5) (fun _ => 0)) _ post
  have hw := f0.cw hw
  refine Z_dup dX4_made_3 rfl ?_
  refine Z_aload_n dX4_made_4 rfl rfl ?_
  refine Z_getR dX4_made_5 cl_4 fl_X4_15_4 rfl (cw_i17 hw) (cw_p17_3 hw) ?_
  refine Z_aload_n dX4_made_8 rfl rfl ?_
  refine Z_getIv dX4_made_9 cl_4 fl_X4_34_4 rfl (cw_i17 hw) ((congrFun (lo f0 (by omega)) 4).trans h4) ?_
  refine Z_S2 dX4_made_12 to_J7_copyOf_59c91 lk_X4_59 sc_J7_copyOf_59c91 (Nat.le_of_ble_eq_true rfl) ⟨by decide, by decide⟩ ?_
  refine c_copyOf (cw_i19 hw) hc (by omega) (fun β1 f1 n1 z1 i1 => ?_)
  rw [n0] at n1 z1 i1 ⊢
  have hw := f1.cw hw
  skip
  refine Z_aload_n dX4_made_15 rfl rfl ?_
  refine Z_getR dX4_made_16 cl_4 fl_X4_18_4 rfl (cw_i17 hw) (cw_p17_5 hw) ?_
  refine Z_aload_n dX4_made_19 rfl rfl ?_
  refine Z_getIv dX4_made_20 cl_4 fl_X4_37_4 rfl (cw_i17 hw) ((congrFun (lo (f0.tr f1) (by omega)) 7).trans k1) ?_
  refine Z_S2 dX4_made_23 to_J7_copyOf_59c91 lk_X4_59 sc_J7_copyOf_59c91 (Nat.le_of_ble_eq_true rfl) ⟨by decide, by decide⟩ ?_
  refine c_copyOf (cw_i20 hw) hm10 (by omega) (fun β2 f2 n2 z2 i2 => ?_)
  rw [n1] at n2 z2 i2 ⊢
  have hw := f2.cw hw
  refine Z_aload_n dX4_made_26 rfl rfl ?_
  refine Z_getR dX4_made_27 cl_4 fl_X4_21_4 rfl (cw_i17 hw) (cw_p17_6 hw) ?_
  refine Z_aload_n dX4_made_30 rfl rfl ?_
  refine Z_getIv dX4_made_31 cl_4 fl_X4_37_4 rfl (cw_i17 hw) ((congrFun (lo ((f0.tr f1).tr f2) (by omega)) 7).trans k1) ?_
  refine Z_S2 dX4_made_34 to_J7_copyOf_59c91 lk_X4_59 sc_J7_copyOf_59c91 (Nat.le_of_ble_eq_true rfl) ⟨by decide, by decide⟩ ?_
  refine c_copyOf (cw_i21 hw) hm10 (by omega) (fun β3 f3 n3 z3 i3 => ?_)
  rw [n2] at n3 z3 i3 ⊢
  have hw := f3.cw hw
  refine Z_aload_n dX4_made_37 rfl rfl ?_
  refine Z_getR dX4_made_38 cl_4 fl_X4_24_4 rfl (cw_i17 hw) (cw_p17_8 hw) ?_
  refine Z_clone dX4_made_41 wd_433 (cw_i22 hw) (Nat.le_of_ble_eq_true rfl) ⟨by decide, by decide⟩ ?_
  have hw := (frE.new (α := β3) (sh := (0, 3)) (f := hI β3 22)).cw hw
  have zc : zIs (nw β3 (0, 3) (hI β3 22)) (hN β3) (0, 3) := ⟨Nat.lt_succ_self _, hS_nw⟩
  refine Z_castA dX4_made_44 wd_434 zc ?_
  refine Z_aload_n dX4_made_47 rfl rfl ?_
  refine Z_getIv dX4_made_48 cl_4 fl_X4_46_4 rfl (cw_i17 hw) ((congrFun (lo (((f0.tr f1).tr f2).tr (f3.tr frE.new)) (by omega)) 9).trans k6) ?_
  refine Z_I5z dX4_made_51 to_X8_init lk_X4_68 im_X8_init ⟨rfl, rfl⟩ (Nat.le_of_ble_eq_true rfl) ⟨rfl, rfl⟩ ⟨by decide, by decide⟩ ?_
  rw [n3]
  refine k_vinit ?_ ?_
  · exact (frE.new (α := β3)).is (f3.is (f2.is (f1.is z0)))
  refine Z_aret dX4_made_54 (Or.inr ⟨_, rfl⟩) rfl (Or.inl ⟨_, rfl⟩) ⟨by decide, by decide⟩ ?_
  have q := fin β1 β2 β3 f1 n1 z1 (fun j hj => (i1 j hj).trans (congrFun (lo f0 (by omega)) j)) f2 n2 z2 (fun j hj => (i2 j hj).trans (congrFun (lo (f0.tr f1) (by omega)) j)) f3 n3 z3 (fun j hj => (i3 j hj).trans (congrFun (lo ((f0.tr f1).tr f2) (by omega)) j))
  exact h _ q.1 q.2
end CV1
