section CD1
variable {G : ZG} {d : Nat} {α β : AH} {post : Option Value → AH → Prop} {Γ : Nat → VC} {A : ZA} {a T q s : Nat} {b t : Int32}
/-- which work is the first of the best ones -/
theorem on_pick (B0 v0 v1 v2 : Nat) (c0 c1 c2 : Bool) (P : Nat × Nat) (hP : P = (if c2 then (if (if c1 then (if (if c0 then (if B0 < v0 then (v0, 0) else (B0, 3)) else (B0, 3)).1 < v1 then (v1, 1) else (if c0 then (if B0 < v0 then (v0, 0) else (B0, 3)) else (B0, 3))) else (if c0 then (if B0 < v0 then (v0, 0) else (B0, 3)) else (B0, 3))).1 < v2 then (v2, 2) else (if c1 then (if (if c0 then (if B0 < v0 then (v0, 0) else (B0, 3)) else (B0, 3)).1 < v1 then (v1, 1) else (if c0 then (if B0 < v0 then (v0, 0) else (B0, 3)) else (B0, 3))) else (if c0 then (if B0 < v0 then (v0, 0) else (B0, 3)) else (B0, 3)))) else (if c1 then (if (if c0 then (if B0 < v0 then (v0, 0) else (B0, 3)) else (B0, 3)).1 < v1 then (v1, 1) else (if c0 then (if B0 < v0 then (v0, 0) else (B0, 3)) else (B0, 3))) else (if c0 then (if B0 < v0 then (v0, 0) else (B0, 3)) else (B0, 3))) : Nat × Nat)) :
    P.2 = if B0 = P.1 then 3 else if c0 = true ∧ v0 = P.1 then 0 else if c1 = true ∧ v1 = P.1 then 1 else if c2 = true ∧ v2 = P.1 then 2 else 3 := by
  subst hP
  by_cases h0 : B0 < v0 <;> by_cases h1 : B0 < v1 <;> by_cases h2 : B0 < v2 <;> by_cases h3 : v0 < v1 <;> by_cases h4 : v0 < v2 <;> by_cases h5 : v1 < v2 <;> cases c0 <;> cases c1 <;> cases c2 <;> simp [h0, h1, h2, h3, h4, h5] <;> (repeat' split) <;> omega
theorem zOn_pick {B : Nat → Nat} {cn : ZCn} {pay : Nat → Nat} : (zOn B cn pay q s).2 = if B q = (zOn B cn pay q s).1 then 3 else if zcan cn q s 0 = true ∧ zval B pay q 0 = (zOn B cn pay q s).1 then 0 else if zcan cn q s 1 = true ∧ zval B pay q 1 = (zOn B cn pay q s).1 then 1 else if zcan cn q s 2 = true ∧ zval B pay q 2 = (zOn B cn pay q s).1 then 2 else 3 := on_pick (B q) (zval B pay q 0) (zval B pay q 1) (zval B pay q 2) (zcan cn q s 0) (zcan cn q s 1) (zcan cn q s 2) _ rfl
theorem zOn_none {B : Nat → Nat} {cn : ZCn} {pay : Nat → Nat} (h : ∀ k, k < 3 → zcan cn q s k = false) : (zOn B cn pay q s).2 = 3 := by
  unfold zOn zstp
  rw [h 0 (by omega), h 1 (by omega), h 2 (by omega)]
  rfl
/-- the first k below 3 with a property, else 3 -/
def zfst (p : Nat → Bool) : Nat := if p 0 = true then 0 else if p 1 = true then 1 else if p 2 = true then 2 else 3
theorem zfst_at {p : Nat → Bool} {k : Nat} (hk : k < 3) (h : p k = true) (h0 : ∀ i, i < k → p i = false) : zfst p = k := by
  unfold zfst
  rcases s3 hk with rfl | rfl | rfl
  · rw [if_pos h]
  · rw [if_neg (by rw [h0 0 (by omega)]; decide), if_pos h]
  · rw [if_neg (by rw [h0 0 (by omega)]; decide), if_neg (by rw [h0 1 (by omega)]; decide), if_pos h]
theorem zfst_no {p : Nat → Bool} (h0 : ∀ i, i < 3 → p i = false) : zfst p = 3 := by
  unfold zfst
  rw [if_neg (by rw [h0 0 (by omega)]; decide), if_neg (by rw [h0 1 (by omega)]; decide), if_neg (by rw [h0 2 (by omega)]; decide)]
theorem k_least {n : Nat} (hn : n < 64) (h : post (some (.int (nI (zfst (zin n))))) α) : ZK G (d + 2) mX10_least [.int (nI n)] α post := by
  have lp : ∀ (j k : Nat), k + j = 3 → (∀ i, i < k → zin n i = false) → Z G mX10_least (d + 2) 2 [some (.int (nI n)), some (.int (nI k))] [] α (0, 0) post := by
    intro j
    induction j with
    | zero =>
      intro k hk h0
      have hk : k = 3 := by omega
      subst hk
      rw [zfst_no h0] at h
      refine Z_iload_n dX10_least_2 rfl rfl ?_
      refine Z_iconst (v := 3) dX10_least_3 (by decide) ?_
      refine Z_icmp_ge (tgt := 23) dX10_least_4 (by decide) (fun h4 => ?_) (fun h4 => ?_)
      · skip
        refine Z_iconst (v := 3) dX10_least_23 (by decide) ?_
        refine Z_iret dX10_least_24 rfl rfl ⟨by decide, by decide⟩ ?_
        exact h
      · skip
        exact absurd (by decide) h4
    | succ j ih =>
      intro k hk h0
      refine Z_iload_n dX10_least_2 rfl rfl ?_
      refine Z_iconst (v := 3) dX10_least_3 (by decide) ?_
      refine Z_icmp_ge (tgt := 23) dX10_least_4 (by decide) (fun h4 => ?_) (fun h4 => ?_)
      · skip
        exact absurd h4 (nI_ge (a := k) (b := 3) (by omega) (by omega))
      · skip
        refine Z_iload_n dX10_least_7 rfl rfl ?_
        refine Z_iload_n dX10_least_8 rfl rfl ?_
        refine Z_S2z dX10_least_9 to_X11_isIn lk_X10_32 sc_X11_isIn (Nat.le_of_ble_eq_true rfl) ⟨rfl, rfl⟩ ⟨by decide, by decide⟩ ?_
        refine k_isIn hn (by omega) ?_
        refine Z_if_eq (tgt := 17) dX10_least_12 (by decide) (fun h12 => ?_) (fun h12 => ?_)
        · skip
          refine Z_iinc (L' := [_, _]) dX10_least_17 rfl (by rfl : _ + Int32.ofInt 1 = _ + 1) (by decide) rfl rfl ?_
          refine Z_goto (tgt := 2) dX10_least_20 (by decide) ?_
          rw [nI_1]
          refine ih (k + 1) (by omega) (fun i hi => ?_)
          by_cases e : i = k
          · rw [e]; exact b2i_eq.mp h12
          · exact h0 i (by omega)
        · skip
          refine Z_iload_n dX10_least_15 rfl rfl ?_
          refine Z_iret dX10_least_16 rfl rfl ⟨by decide, by decide⟩ ?_
          rw [zfst_at (by omega) (b2i_ne.mp h12) h0] at h; exact h
  refine ZK.of (n := 1) (by decide) (Nat.le_of_ble_eq_true rfl) rfl ?_
  refine Z_iconst (v := 0) dX10_least_0 (by decide) ?_
  refine Z_istore_n (L' := [_, _]) dX10_least_1 rfl (by decide) rfl rfl ?_
  exact lp 3 0 rfl (fun i hi => absurd hi (Nat.not_lt_zero i))
theorem zplain_f {cn : ZCn} : zfst (zin (zcb cn q s)) = zplain cn q s := by
  unfold zfst zplain
  rw [zcb_in (by omega), zcb_in (by omega), zcb_in (by omega)]
theorem k_bestWork (hw : cLk Γ A a T b t α) (hc : cAt a α q) (hq : q < 5832) (hs : s < 3) (h15 : zla q < 15) (hT : zla q + 1 ≤ T) (h : ∀ β, cLk Γ A a T b t β → cAt a β q → frI (Fk a) α β → post (some (.int (nI (zOn (zbest (zbc b t (zcn A.1 T)) (sp_pay A.1.1)) (zbc b t (zcn A.1 T)) (sp_pay A.1.1) q s).2))) β) : ZK G (d + 52) mX0_bestWork [.ref (G.1 + a), .int (nI s), .int (nI (cgs q))] α post := by
  have ha := hw.get.1
  have hp := sp_pay_le hw.1.2.2.1
  have hM : (zOn (zbest (zbc b t (zcn A.1 T)) (sp_pay A.1.1)) (zbc b t (zcn A.1 T)) (sp_pay A.1.1) q s).1 ≤ 299675376 := zfold_lt hp hq 3 (by omega)
  have hBl := zbest_lt (cn := zbc b t (zcn A.1 T)) hp hq
  have pk := zOn_pick (B := zbest (zbc b t (zcn A.1 T)) (sp_pay A.1.1)) (cn := zbc b t (zcn A.1 T)) (pay := sp_pay A.1.1) (q := q) (s := s)
  have no : zcb (zbc b t (zcn A.1 T)) q s = 0 → (zOn (zbest (zbc b t (zcn A.1 T)) (sp_pay A.1.1)) (zbc b t (zcn A.1 T)) (sp_pay A.1.1) q s).2 = 3 := fun z => zOn_none (fun k hk => zcb_0 z hk)
  have vl : ∀ k, k < 3 → zcan (zbc b t (zcn A.1 T)) q s k = true → zval (zbest (zbc b t (zcn A.1 T)) (sp_pay A.1.1)) (sp_pay A.1.1) q k ≤ 299675376 := fun k hk z => zval_lt hp hq hk (zcan_g z)
  generalize hMM : (zOn (zbest (zbc b t (zcn A.1 T)) (sp_pay A.1.1)) (zbc b t (zcn A.1 T)) (sp_pay A.1.1) q s) = M at *
  have hz := zcb_lt (cn := zbc b t (zcn A.1 T)) (q := q) (s := s)
  have lp : ∀ (j k : Nat), k + j = 3 → (¬ zbest (zbc b t (zcn A.1 T)) (sp_pay A.1.1) q = M.1) → (∀ i, i < k → (zcan (zbc b t (zcn A.1 T)) q s i && decide (zval (zbest (zbc b t (zcn A.1 T)) (sp_pay A.1.1)) (sp_pay A.1.1) q i = M.1)) = false) → ∀ β, cLk Γ A a T b t β → cAt a β q → frI (Fk a) α β → Z G mX0_bestWork (d + 52) 34 [some (.ref (G.1 + a)), some (.int (nI s)), some (.int (nI (cgs q))), some (.int (nI (zcb (zbc b t (zcn A.1 T)) q s))), some (.int (nI M.1)), some (.int (nI k))] [] β (0, 0) post := by
    intro j
    induction j with
    | zero =>
      intro k hk hne h0 β hw1 hc1 hf1
      have hk : k = 3 := by omega
      subst hk
      have e : M.2 = 3 := by
        rw [pk, if_neg hne]
        have f0 := h0 0 (by omega)
        have f1 := h0 1 (by omega)
        have f2 := h0 2 (by omega)
        simp only [Bool.and_eq_false_iff, decide_eq_false_iff_not] at f0 f1 f2
        rw [if_neg (fun z => f0.elim (fun y => by rw [y] at z; exact absurd z.1 (by decide)) (fun y => y z.2)), if_neg (fun z => f1.elim (fun y => by rw [y] at z; exact absurd z.1 (by decide)) (fun y => y z.2)), if_neg (fun z => f2.elim (fun y => by rw [y] at z; exact absurd z.1 (by decide)) (fun y => y z.2))]
      refine Z_iload dX0_bestWork_34 rfl ?_
      refine Z_iconst (v := 3) dX0_bestWork_36 (by decide) ?_
      refine Z_icmp_ge (tgt := 70) dX0_bestWork_37 (by decide) (fun h37 => ?_) (fun h37 => ?_)
      · skip
        refine Z_iconst (v := 3) dX0_bestWork_70 (by decide) ?_
        refine Z_iret dX0_bestWork_71 rfl rfl ⟨by decide, by decide⟩ ?_
        have := h _ hw1 hc1 hf1
        rw [e] at this; exact this
      · skip
        exact absurd (by decide) h37
    | succ j ih =>
      intro k hk hne h0 β hw1 hc1 hf1
      have ha := hw1.get.1
      refine Z_iload dX0_bestWork_34 rfl ?_
      refine Z_iconst (v := 3) dX0_bestWork_36 (by decide) ?_
      refine Z_icmp_ge (tgt := 70) dX0_bestWork_37 (by decide) (fun h37 => ?_) (fun h37 => ?_)
      · skip
        exact absurd h37 (nI_ge (a := k) (b := 3) (by omega) (by omega))
      · skip
        refine Z_iload_n dX0_bestWork_40 rfl rfl ?_
        refine Z_iload dX0_bestWork_41 rfl ?_
        refine Z_S2z dX0_bestWork_43 to_X11_isIn lk_X0_98 sc_X11_isIn (Nat.le_of_ble_eq_true rfl) ⟨rfl, rfl⟩ ⟨by decide, by decide⟩ ?_
        refine k_isIn hz (by omega) ?_
        rw [zcb_in (by omega)]
        refine Z_if_eq (tgt := 64) dX0_bestWork_46 (by decide) (fun h46 => ?_) (fun h46 => ?_)
        · skip
          refine Z_iinc (L' := [_, _, _, _, _, _]) dX0_bestWork_64 rfl (by rfl : _ + Int32.ofInt 1 = _ + 1) (by decide) rfl rfl ?_
          refine Z_goto (tgt := 34) dX0_bestWork_67 (by decide) ?_
          rw [nI_1]
          first
            | (have hcan : zcan (zbc b t (zcn A.1 T)) q s k = false := b2i_eq.mp h46
               refine ih (k + 1) (by omega) hne (fun i hi => ?_) _ hw1 hc1 hf1
               by_cases e : i = k
               · rw [e, hcan]; rfl
               · exact h0 i (by omega))
            | (refine ih (k + 1) (by omega) hne (fun i hi => ?_) _ hw2 hc2 (hf1.tr hf2)
               by_cases e : i = k
               · rw [e, hcan, decide_eq_false (fun z => h58 (by rw [z]))]; rfl
               · exact h0 i (by omega))
        · skip
          have hcan : zcan (zbc b t (zcn A.1 T)) q s k = true := b2i_ne.mp h46
          have hvl := vl k (by omega) hcan
          refine Z_aload_n dX0_bestWork_49 rfl rfl ?_
          refine Z_iload dX0_bestWork_50 rfl ?_
          refine Z_iload_n dX0_bestWork_52 rfl rfl ?_
          refine Z_V2z (ci := 0) dX0_bestWork_53 to_X0_worth lk_X0_102 iv_X0_worth ⟨rfl, rfl⟩ ha.1 (Nat.le_of_ble_eq_true rfl) ⟨rfl, rfl⟩ ⟨by decide, by decide⟩ ?_
          refine k_worth hw1 hc1 hq (by omega) (zcan_g hcan) (by omega) (fun γ hw2 hc2 hf2 => ?_)
          refine Z_iload dX0_bestWork_56 rfl ?_
          refine Z_icmp_ne (tgt := 64) dX0_bestWork_58 (by decide) (fun h58 => ?_) (fun h58 => ?_)
          · skip
            refine Z_iinc (L' := [_, _, _, _, _, _]) dX0_bestWork_64 rfl (by rfl : _ + Int32.ofInt 1 = _ + 1) (by decide) rfl rfl ?_
            refine Z_goto (tgt := 34) dX0_bestWork_67 (by decide) ?_
            rw [nI_1]
            first
              | (have hcan : zcan (zbc b t (zcn A.1 T)) q s k = false := b2i_eq.mp h46
                 refine ih (k + 1) (by omega) hne (fun i hi => ?_) _ hw1 hc1 hf1
                 by_cases e : i = k
                 · rw [e, hcan]; rfl
                 · exact h0 i (by omega))
              | (refine ih (k + 1) (by omega) hne (fun i hi => ?_) _ hw2 hc2 (hf1.tr hf2)
                 by_cases e : i = k
                 · rw [e, hcan, decide_eq_false (fun z => h58 (by rw [z]))]; rfl
                 · exact h0 i (by omega))
          · skip
            have heq : zval (zbest (zbc b t (zcn A.1 T)) (sp_pay A.1.1)) (sp_pay A.1.1) q k = M.1 := (nI_eq (by omega) (by omega)).mp h58
            have e : M.2 = k := by
              rw [pk, if_neg hne]
              refine Eq.trans ?_ (zfst_at (p := fun i => zcan (zbc b t (zcn A.1 T)) q s i && decide (zval (zbest (zbc b t (zcn A.1 T)) (sp_pay A.1.1)) (sp_pay A.1.1) q i = M.1)) (k := k) (by omega) (by show (_ && _) = true; rw [hcan, heq]; simp) h0)
              unfold zfst
              simp only [Bool.and_eq_true, decide_eq_true_eq]
            refine Z_iload dX0_bestWork_61 rfl ?_
            refine Z_iret dX0_bestWork_63 rfl rfl ⟨by decide, by decide⟩ ?_
            have := h _ hw2 hc2 (hf1.tr hf2)
            rw [e] at this; exact this
  refine ZK.of (n := 3) (by decide) (Nat.le_of_ble_eq_true rfl) rfl ?_
  refine Z_aload_n dX0_bestWork_0 rfl rfl ?_
  refine Z_iload_n dX0_bestWork_1 rfl rfl ?_
  refine Z_iload_n dX0_bestWork_2 rfl rfl ?_
  refine Z_V2z (ci := 0) dX0_bestWork_3 to_X0_cans lk_X0_92 iv_X0_cans ⟨rfl, rfl⟩ ha.1 (Nat.le_of_ble_eq_true rfl) ⟨rfl, rfl⟩ ⟨by decide, by decide⟩ ?_
  refine k_cans hw hc hq hs h15 hT (fun β hw1 hc1 hf1 => ?_)
  have ha := hw1.get.1
  refine Z_istore_n (L' := [_, _, _, _, _, _]) dX0_bestWork_6 rfl (by decide) rfl rfl ?_
  refine Z_aload_n dX0_bestWork_7 rfl rfl ?_
  refine Z_iload_n dX0_bestWork_8 rfl rfl ?_
  refine Z_iload_n dX0_bestWork_9 rfl rfl ?_
  refine Z_V2z (ci := 0) dX0_bestWork_10 to_X0_bestOn lk_X0_86 iv_X0_bestOn ⟨rfl, rfl⟩ ha.1 (Nat.le_of_ble_eq_true rfl) ⟨rfl, rfl⟩ ⟨by decide, by decide⟩ ?_
  refine k_bestOn hw1 hc1 hq hs h15 hT (fun γ hw2 hc2 hf2 => ?_)
  rw [hMM]
  have ha := hw2.get.1
  refine Z_istore (L' := [_, _, _, _, _, _]) dX0_bestWork_13 (by decide) rfl rfl ?_
  refine Z_iload_n dX0_bestWork_15 rfl rfl ?_
  refine Z_if_eq (tgt := 29) dX0_bestWork_16 (by decide) (fun h16 => ?_) (fun h16 => ?_)
  · skip
    refine Z_iconst (v := 3) dX0_bestWork_29 (by decide) ?_
    refine Z_iret dX0_bestWork_30 rfl rfl ⟨by decide, by decide⟩ ?_
    first
      | (have z : zcb (zbc b t (zcn A.1 T)) q s = 0 := (nI_eq (b := 0) (by omega) (by omega)).mp h16
         have := h _ hw2 hc2 (hf1.tr hf2)
         rw [no z] at this; exact this)
      | (have z : zbest (zbc b t (zcn A.1 T)) (sp_pay A.1.1) q = M.1 := (nI_eq (by omega) (by omega)).mp h26
         have := h _ hw3 hc3 ((hf1.tr hf2).tr hf3)
         rw [show M.2 = 3 from by rw [pk, if_pos z]] at this; exact this)
  · skip
    refine Z_aload_n dX0_bestWork_19 rfl rfl ?_
    refine Z_iload_n dX0_bestWork_20 rfl rfl ?_
    refine Z_V1z (ci := 0) dX0_bestWork_21 to_X0_bestSum lk_X0_95 iv_X0_bestSum ⟨rfl, rfl⟩ ha.1 (Nat.le_of_ble_eq_true rfl) ⟨rfl, rfl⟩ ⟨by decide, by decide⟩ ?_
    refine ZK.dep (show d + 2 + 49 = _ by omega) (k_bestSum hw2 hc2 hq (by omega) (fun δ hw3 hc3 hf3 => ?_))
    have ha := hw3.get.1
    refine Z_iload dX0_bestWork_24 rfl ?_
    refine Z_icmp_ne (tgt := 31) dX0_bestWork_26 (by decide) (fun h26 => ?_) (fun h26 => ?_)
    · skip
      refine Z_iconst (v := 0) dX0_bestWork_31 (by decide) ?_
      refine Z_istore (L' := [_, _, _, _, _, _]) dX0_bestWork_32 (by decide) rfl rfl ?_
      exact lp 3 0 rfl (fun z => h26 (by rw [z])) (fun i hi => absurd hi (Nat.not_lt_zero i)) δ hw3 hc3 ((hf1.tr hf2).tr hf3)
    · skip
      refine Z_iconst (v := 3) dX0_bestWork_29 (by decide) ?_
      refine Z_iret dX0_bestWork_30 rfl rfl ⟨by decide, by decide⟩ ?_
      first
        | (have z : zcb (zbc b t (zcn A.1 T)) q s = 0 := (nI_eq (b := 0) (by omega) (by omega)).mp h16
           have := h _ hw2 hc2 (hf1.tr hf2)
           rw [no z] at this; exact this)
        | (have z : zbest (zbc b t (zcn A.1 T)) (sp_pay A.1.1) q = M.1 := (nI_eq (by omega) (by omega)).mp h26
           have := h _ hw3 hc3 ((hf1.tr hf2).tr hf3)
           rw [show M.2 = 3 from by rw [pk, if_pos z]] at this; exact this)
end CD1
