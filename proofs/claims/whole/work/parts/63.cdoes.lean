section CD2
variable {G : ZG} {d : Nat} {α β : AH} {post : Option Value → AH → Prop} {Γ : Nat → VC} {A : ZA} {a T q s c row : Nat} {b t num v : Int32}
def zwaC (cn : ZCn) (v : Int32) (q s : Nat) : Nat := if nI (zla q) ≤ v then zplain cn q s else 3
def zdoC (cn : ZCn) (pay : Nat → Nat) (kd : Nat) (v : Int32) (tl q s : Nat) : Nat :=
  if kd = 1 then zplain cn q s else if kd = 2 then zleft cn pay q s else if kd = 3 then zwaC cn v q s else if kd = 4 then zsure cn q s else if kd = 5 then (zOn (zbest cn pay) cn pay q s).2 else if kd = 6 then (if tl < 3 ∧ zcan cn q s tl = true then tl else zwaC cn v q s) else 3
theorem zdoC_nI {cn : ZCn} {pay : Nat → Nat} {kd v0 tl : Nat} (hq : q < 5832) (hv : v0 < 1000) : zdoC cn pay kd (nI v0) tl q s = zdoes cn pay kd v0 tl q s := by
  have e : zwaC cn (nI v0) q s = zwait cn v0 q s := by
    have := zla_le hq
    unfold zwaC zwait
    by_cases h : zla q ≤ v0
    · rw [if_pos h, if_pos (nI_le h (by omega))]
    · rw [if_neg h, if_neg (fun z => h ((nI_leI (by omega) (by omega)).mp z))]
  unfold zdoC zdoes
  rw [e]
theorem k_does3 (hw : cLk Γ A a T b t α) (hc : cAt a α q) (hq : q < 5832) (hs : s < 3) (h15 : zla q < 15) (hT : zla q + 1 ≤ T) (h : ∀ β, cLk Γ A a T b t β → cAt a β q → frI (Fk a) α β → post (some (.int (nI (zplain (zbc b t (zcn A.1 T)) q s)))) β) : ZK G (d + 4) mX3_does [.ref (G.1 + c), .ref (G.1 + a), .int (nI s), .int (nI (cgs q))] α post := by
  have ha := hw.get.1
  refine ZK.of (n := 0) (by decide) (Nat.le_of_ble_eq_true rfl) rfl ?_
  refine Z_aload_n dX3_does_0 rfl rfl ?_
  refine Z_iload_n dX3_does_1 rfl rfl ?_
  refine Z_iload_n dX3_does_2 rfl rfl ?_
  refine Z_V2z (ci := 0) dX3_does_3 to_X0_cans lk_X3_7 iv_X0_cans ⟨rfl, rfl⟩ ha.1 (Nat.le_of_ble_eq_true rfl) ⟨rfl, rfl⟩ ⟨by decide, by decide⟩ ?_
  refine k_cans hw hc hq hs h15 hT (fun β hw1 hc1 hf1 => ?_)
  refine Z_T1z dX3_does_6 to_X10_least wd_672 wd_673 sc_X10_least (Nat.le_of_ble_eq_true rfl) ⟨rfl, rfl⟩ ⟨by decide, by decide⟩ ?_
  refine k_least zcb_lt ?_
  rw [zplain_f]
  refine Z_iret dX3_does_9 rfl rfl ⟨by decide, by decide⟩ ?_
  exact h β hw1 hc1 hf1
theorem k_does10 (h : post (some (.int 3)) α) : ZK G (d + 1) mX10_does [.ref (G.1 + c), .ref (G.1 + a), .int (nI s), .int (nI (cgs q))] α post := by
  refine ZK.of (n := 0) (by decide) (Nat.le_of_ble_eq_true rfl) rfl ?_
  refine Z_iconst (v := 3) dX10_does_0 (by decide) ?_
  refine Z_iret dX10_does_1 rfl rfl ⟨by decide, by decide⟩ ?_
  exact h
theorem k_does9 (hz : zIs α c (13, 3)) (hv : hI α c 2 = v) (hw : cLk Γ A a T b t α) (hc : cAt a α q) (hq : q < 5832) (hs : s < 3) (h15 : zla q < 15) (hT : zla q + 1 ≤ T) (h : ∀ β, cLk Γ A a T b t β → cAt a β q → frI (Fk a) α β → post (some (.int (nI (zwaC (zbc b t (zcn A.1 T)) v q s)))) β) : ZK G (d + 4) mX9_does [.ref (G.1 + c), .ref (G.1 + a), .int (nI s), .int (nI (cgs q))] α post := by
  have ha := hw.get.1
  refine ZK.of (n := 0) (by decide) (Nat.le_of_ble_eq_true rfl) rfl ?_
  refine Z_aload_n dX9_does_0 rfl rfl ?_
  refine Z_getIv dX9_does_1 cl_0 fl_X9_9_0 rfl ha.1 hc.2 ?_
  refine Z_aload_n dX9_does_4 rfl rfl ?_
  refine Z_getIv dX9_does_5 cl_9 fl_X9_15_9 rfl hz hv ?_
  refine Z_icmp_gt (tgt := 23) dX9_does_8 (by decide) (fun h8 => ?_) (fun h8 => ?_)
  · skip
    refine Z_iconst (v := 3) dX9_does_23 (by decide) ?_
    refine Z_iret dX9_does_24 rfl rfl ⟨by decide, by decide⟩ ?_
    first
      | (have := h β hw1 hc1 hf1
         unfold zwaC at this
         rw [if_pos (by simp only [Int32.lt_iff_toInt_lt, Int32.le_iff_toInt_le] at *; omega)] at this; exact this)
      | (have := h α hw hc frI.rf
         unfold zwaC at this
         rw [if_neg (by simp only [Int32.lt_iff_toInt_lt, Int32.le_iff_toInt_le] at *; omega)] at this; exact this)
  · skip
    refine Z_aload_n dX9_does_11 rfl rfl ?_
    refine Z_iload_n dX9_does_12 rfl rfl ?_
    refine Z_iload_n dX9_does_13 rfl rfl ?_
    refine Z_V2z (ci := 0) dX9_does_14 to_X0_cans lk_X9_20 iv_X0_cans ⟨rfl, rfl⟩ ha.1 (Nat.le_of_ble_eq_true rfl) ⟨rfl, rfl⟩ ⟨by decide, by decide⟩ ?_
    refine k_cans hw hc hq hs h15 hT (fun β hw1 hc1 hf1 => ?_)
    refine Z_T1z dX9_does_17 to_X10_least wd_693 wd_694 sc_X10_least (Nat.le_of_ble_eq_true rfl) ⟨rfl, rfl⟩ ⟨by decide, by decide⟩ ?_
    refine k_least zcb_lt ?_
    rw [zplain_f]
    refine Z_goto (tgt := 24) dX9_does_20 (by decide) ?_
    refine Z_iret dX9_does_24 rfl rfl ⟨by decide, by decide⟩ ?_
    first
      | (have := h β hw1 hc1 hf1
         unfold zwaC at this
         rw [if_pos (by simp only [Int32.lt_iff_toInt_lt, Int32.le_iff_toInt_le] at *; omega)] at this; exact this)
      | (have := h α hw hc frI.rf
         unfold zwaC at this
         rw [if_neg (by simp only [Int32.lt_iff_toInt_lt, Int32.le_iff_toInt_le] at *; omega)] at this; exact this)
theorem k_does97 (hz : zIs α c (11, 4)) (hv : hI α c 2 = v) (hw : cLk Γ A a T b t α) (hc : cAt a α q) (hq : q < 5832) (hs : s < 3) (h15 : zla q < 15) (hT : zla q + 1 ≤ T) (h : ∀ β, cLk Γ A a T b t β → cAt a β q → frI (Fk a) α β → post (some (.int (nI (zwaC (zbc b t (zcn A.1 T)) v q s)))) β) : ZK G (d + 4) mX9_does [.ref (G.1 + c), .ref (G.1 + a), .int (nI s), .int (nI (cgs q))] α post := by
  have ha := hw.get.1
  refine ZK.of (n := 0) (by decide) (Nat.le_of_ble_eq_true rfl) rfl ?_
  refine Z_aload_n dX9_does_0 rfl rfl ?_
  refine Z_getIv dX9_does_1 cl_0 fl_X9_9_0 rfl ha.1 hc.2 ?_
  refine Z_aload_n dX9_does_4 rfl rfl ?_
  refine Z_getIv dX9_does_5 cl_7 fl_X9_15_7 rfl hz hv ?_
  refine Z_icmp_gt (tgt := 23) dX9_does_8 (by decide) (fun h8 => ?_) (fun h8 => ?_)
  · skip
    refine Z_iconst (v := 3) dX9_does_23 (by decide) ?_
    refine Z_iret dX9_does_24 rfl rfl ⟨by decide, by decide⟩ ?_
    first
      | (have := h β hw1 hc1 hf1
         unfold zwaC at this
         rw [if_pos (by simp only [Int32.lt_iff_toInt_lt, Int32.le_iff_toInt_le] at *; omega)] at this; exact this)
      | (have := h α hw hc frI.rf
         unfold zwaC at this
         rw [if_neg (by simp only [Int32.lt_iff_toInt_lt, Int32.le_iff_toInt_le] at *; omega)] at this; exact this)
  · skip
    refine Z_aload_n dX9_does_11 rfl rfl ?_
    refine Z_iload_n dX9_does_12 rfl rfl ?_
    refine Z_iload_n dX9_does_13 rfl rfl ?_
    refine Z_V2z (ci := 0) dX9_does_14 to_X0_cans lk_X9_20 iv_X0_cans ⟨rfl, rfl⟩ ha.1 (Nat.le_of_ble_eq_true rfl) ⟨rfl, rfl⟩ ⟨by decide, by decide⟩ ?_
    refine k_cans hw hc hq hs h15 hT (fun β hw1 hc1 hf1 => ?_)
    refine Z_T1z dX9_does_17 to_X10_least wd_693 wd_694 sc_X10_least (Nat.le_of_ble_eq_true rfl) ⟨rfl, rfl⟩ ⟨by decide, by decide⟩ ?_
    refine k_least zcb_lt ?_
    rw [zplain_f]
    refine Z_goto (tgt := 24) dX9_does_20 (by decide) ?_
    refine Z_iret dX9_does_24 rfl rfl ⟨by decide, by decide⟩ ?_
    first
      | (have := h β hw1 hc1 hf1
         unfold zwaC at this
         rw [if_pos (by simp only [Int32.lt_iff_toInt_lt, Int32.le_iff_toInt_le] at *; omega)] at this; exact this)
      | (have := h α hw hc frI.rf
         unfold zwaC at this
         rw [if_neg (by simp only [Int32.lt_iff_toInt_lt, Int32.le_iff_toInt_le] at *; omega)] at this; exact this)
theorem k_does2 (hw : cLk Γ A a T b t α) (hc : cAt a α q) (hq : q < 5832) (hs : s < 3) (h15 : zla q < 15) (hT : zla q + 1 ≤ T) (h : ∀ β, cLk Γ A a T b t β → cAt a β q → frI (Fk a) α β → post (some (.int (nI (zleft (zbc b t (zcn A.1 T)) (sp_pay A.1.1) q s)))) β) : ZK G (d + 4) mX2_does [.ref (G.1 + c), .ref (G.1 + a), .int (nI s), .int (nI (cgs q))] α post := by
  have ha := hw.get.1
  have hp := sp_pay_le hw.1.2.2.1
  have lp : ∀ (j k : Nat), k + j = 3 → ∀ β, cLk Γ A a T b t β → cAt a β q → frI (Fk a) α β → Z G mX2_does (d + 4) 14 [some (.ref (G.1 + c)), some (.ref (G.1 + a)), some (.int (nI s)), some (.int (nI (cgs q))), some (.int (nI (zcb (zbc b t (zcn A.1 T)) q s))), some (.int (nI (zlf (zbc b t (zcn A.1 T)) (sp_pay A.1.1) q s k))), some (.int (nI k))] [] β (0, 0) post := by
    intro j
    induction j with
    | zero =>
      intro k hk β hw1 hc1 hf1
      have hk : k = 3 := by omega
      subst hk
      refine Z_iload dX2_does_14 rfl ?_
      refine Z_iconst (v := 3) dX2_does_16 (by decide) ?_
      refine Z_icmp_ge (tgt := 61) dX2_does_17 (by decide) (fun h17 => ?_) (fun h17 => ?_)
      · skip
        refine Z_iload dX2_does_61 rfl ?_
        refine Z_iret dX2_does_63 rfl rfl ⟨by decide, by decide⟩ ?_
        exact h β hw1 hc1 hf1
      · skip
        exact absurd (by decide) h17
    | succ j ih =>
      intro k hk β hw1 hc1 hf1
      have ha := hw1.get.1
      have hb := zlf_bd (cn := zbc b t (zcn A.1 T)) (pay := sp_pay A.1.1) (q := q) (s := s) k (by omega)
      have nx : ∀ x : Nat, x = zlf (zbc b t (zcn A.1 T)) (sp_pay A.1.1) q s (k + 1) → Z G mX2_does (d + 4) 55 [some (.ref (G.1 + c)), some (.ref (G.1 + a)), some (.int (nI s)), some (.int (nI (cgs q))), some (.int (nI (zcb (zbc b t (zcn A.1 T)) q s))), some (.int (nI x)), some (.int (nI k))] [] β (0, 0) post := by
        intro x ex
        subst ex
        refine Z_iinc (L' := [_, _, _, _, _, _, _]) dX2_does_55 rfl (by rfl : _ + Int32.ofInt 1 = _ + 1) (by decide) rfl rfl ?_
        refine Z_goto (tgt := 14) dX2_does_58 (by decide) ?_
        rw [nI_1]
        exact ih (k + 1) (by omega) β hw1 hc1 hf1
      have eu : zlf (zbc b t (zcn A.1 T)) (sp_pay A.1.1) q s (k + 1) = zlstp (zbc b t (zcn A.1 T)) (sp_pay A.1.1) q s k (zlf (zbc b t (zcn A.1 T)) (sp_pay A.1.1) q s k) := rfl
      rw [eu] at nx
      generalize zlf (zbc b t (zcn A.1 T)) (sp_pay A.1.1) q s k = x at *
      refine Z_iload dX2_does_14 rfl ?_
      refine Z_iconst (v := 3) dX2_does_16 (by decide) ?_
      refine Z_icmp_ge (tgt := 61) dX2_does_17 (by decide) (fun h17 => ?_) (fun h17 => ?_)
      · skip
        exact absurd h17 (nI_ge (a := k) (b := 3) (by omega) (by omega))
      · skip
        refine Z_iload dX2_does_20 rfl ?_
        refine Z_iload dX2_does_22 rfl ?_
        refine Z_S2z dX2_does_24 to_X11_isIn lk_X2_15 sc_X11_isIn (Nat.le_of_ble_eq_true rfl) ⟨rfl, rfl⟩ ⟨by decide, by decide⟩ ?_
        refine k_isIn zcb_lt (by omega) ?_
        rw [zcb_in (by omega)]
        refine Z_if_eq (tgt := 55) dX2_does_27 (by decide) (fun h27 => ?_) (fun h27 => ?_)
        · skip
          first
            | exact nx x (by unfold zlstp; rw [if_neg (fun z => by rw [b2i_eq.mp h27] at z; exact absurd z.1 (by decide))])
            | exact nx x (by unfold zlstp; rw [if_neg (fun z => z.2.elim (fun z => by omega) (fun z => absurd ((nI_leI (by omega) (by omega)).mp h48) (by omega)))])
            | (have z33 : nI x = 3 := h33
               exact nx k (by unfold zlstp; rw [if_pos ⟨b2i_ne.mp h27, Or.inl ((nI_eq (b := 3) (by omega) (by omega)).mp z33)⟩]))
            | exact nx k (by unfold zlstp; rw [if_pos ⟨b2i_ne.mp h27, Or.inr (Nat.lt_of_not_le (fun z => h48 (nI_le z (by omega))))⟩])
        · skip
          refine Z_iload dX2_does_30 rfl ?_
          refine Z_iconst (v := 3) dX2_does_32 (by decide) ?_
          refine Z_icmp_eq (tgt := 51) dX2_does_33 (by decide) (fun h33 => ?_) (fun h33 => ?_)
          · skip
            refine Z_iload dX2_does_51 rfl ?_
            refine Z_istore (L' := [_, _, _, _, _, _, _]) dX2_does_53 (by decide) rfl rfl ?_
            first
              | exact nx x (by unfold zlstp; rw [if_neg (fun z => by rw [b2i_eq.mp h27] at z; exact absurd z.1 (by decide))])
              | exact nx x (by unfold zlstp; rw [if_neg (fun z => z.2.elim (fun z => by omega) (fun z => absurd ((nI_leI (by omega) (by omega)).mp h48) (by omega)))])
              | (have z33 : nI x = 3 := h33
                 exact nx k (by unfold zlstp; rw [if_pos ⟨b2i_ne.mp h27, Or.inl ((nI_eq (b := 3) (by omega) (by omega)).mp z33)⟩]))
              | exact nx k (by unfold zlstp; rw [if_pos ⟨b2i_ne.mp h27, Or.inr (Nat.lt_of_not_le (fun z => h48 (nI_le z (by omega))))⟩])
          · skip
            have hx3 : x < 3 := by
              rcases hb with z | z
              · exact absurd (show nI x = 3 by rw [z]; rfl) h33
              · omega
            have p1 := hp x hx3
            have p2 := hp k (by omega)
            refine Z_aload_n dX2_does_36 rfl rfl ?_
            refine Z_iload dX2_does_37 rfl ?_
            refine Z_V1z (ci := 0) dX2_does_39 to_X0_payOf lk_X2_19 iv_X0_payOf ⟨rfl, rfl⟩ ha.1 (Nat.le_of_ble_eq_true rfl) ⟨rfl, rfl⟩ ⟨by decide, by decide⟩ ?_
            refine k_payOf hw1 (by omega) ?_
            refine Z_aload_n dX2_does_42 rfl rfl ?_
            refine Z_iload dX2_does_43 rfl ?_
            refine Z_V1z (ci := 0) dX2_does_45 to_X0_payOf lk_X2_19 iv_X0_payOf ⟨rfl, rfl⟩ ha.1 (Nat.le_of_ble_eq_true rfl) ⟨rfl, rfl⟩ ⟨by decide, by decide⟩ ?_
            refine k_payOf hw1 (by omega) ?_
            refine Z_icmp_le (tgt := 55) dX2_does_48 (by decide) (fun h48 => ?_) (fun h48 => ?_)
            · skip
              first
                | exact nx x (by unfold zlstp; rw [if_neg (fun z => by rw [b2i_eq.mp h27] at z; exact absurd z.1 (by decide))])
                | exact nx x (by unfold zlstp; rw [if_neg (fun z => z.2.elim (fun z => by omega) (fun z => absurd ((nI_leI (by omega) (by omega)).mp h48) (by omega)))])
                | (have z33 : nI x = 3 := h33
                   exact nx k (by unfold zlstp; rw [if_pos ⟨b2i_ne.mp h27, Or.inl ((nI_eq (b := 3) (by omega) (by omega)).mp z33)⟩]))
                | exact nx k (by unfold zlstp; rw [if_pos ⟨b2i_ne.mp h27, Or.inr (Nat.lt_of_not_le (fun z => h48 (nI_le z (by omega))))⟩])
            · skip
              refine Z_iload dX2_does_51 rfl ?_
              refine Z_istore (L' := [_, _, _, _, _, _, _]) dX2_does_53 (by decide) rfl rfl ?_
              first
                | exact nx x (by unfold zlstp; rw [if_neg (fun z => by rw [b2i_eq.mp h27] at z; exact absurd z.1 (by decide))])
                | exact nx x (by unfold zlstp; rw [if_neg (fun z => z.2.elim (fun z => by omega) (fun z => absurd ((nI_leI (by omega) (by omega)).mp h48) (by omega)))])
                | (have z33 : nI x = 3 := h33
                   exact nx k (by unfold zlstp; rw [if_pos ⟨b2i_ne.mp h27, Or.inl ((nI_eq (b := 3) (by omega) (by omega)).mp z33)⟩]))
                | exact nx k (by unfold zlstp; rw [if_pos ⟨b2i_ne.mp h27, Or.inr (Nat.lt_of_not_le (fun z => h48 (nI_le z (by omega))))⟩])
  refine ZK.of (n := 3) (by decide) (Nat.le_of_ble_eq_true rfl) rfl ?_
  refine Z_aload_n dX2_does_0 rfl rfl ?_
  refine Z_iload_n dX2_does_1 rfl rfl ?_
  refine Z_iload_n dX2_does_2 rfl rfl ?_
  refine Z_V2z (ci := 0) dX2_does_3 to_X0_cans lk_X2_9 iv_X0_cans ⟨rfl, rfl⟩ ha.1 (Nat.le_of_ble_eq_true rfl) ⟨rfl, rfl⟩ ⟨by decide, by decide⟩ ?_
  refine k_cans hw hc hq hs h15 hT (fun β hw1 hc1 hf1 => ?_)
  refine Z_istore (L' := [_, _, _, _, _, _, _]) dX2_does_6 (by decide) rfl rfl ?_
  refine Z_iconst (v := 3) dX2_does_8 (by decide) ?_
  refine Z_istore (L' := [_, _, _, _, _, _, _]) dX2_does_9 (by decide) rfl rfl ?_
  refine Z_iconst (v := 0) dX2_does_11 (by decide) ?_
  refine Z_istore (L' := [_, _, _, _, _, _, _]) dX2_does_12 (by decide) rfl rfl ?_
  exact lp 3 0 rfl β hw1 hc1 hf1
theorem zsure_f {cn : ZCn} : zsure cn q s = if zfst (fun k => (zcb cn q s).testBit (2 * k + 1)) = 3 then zplain cn q s else zfst (fun k => (zcb cn q s).testBit (2 * k + 1)) := by
  have e : ∀ k, k < 3 → ((zcb cn q s).testBit (2 * k + 1) = true ↔ (zg q k = 1 ∧ zcan cn q s k = true)) := fun k hk => by rw [zcb_1 hk]; simp
  unfold zsure zfst
  simp only [e 0 (by omega), e 1 (by omega), e 2 (by omega)]
  by_cases h0 : zg q 0 = 1 ∧ zcan cn q s 0 = true
  · rw [if_pos h0, if_pos h0, if_neg (by decide)]
  · rw [if_neg h0, if_neg h0]
    by_cases h1 : zg q 1 = 1 ∧ zcan cn q s 1 = true
    · rw [if_pos h1, if_pos h1, if_neg (by decide)]
    · rw [if_neg h1, if_neg h1]
      by_cases h2 : zg q 2 = 1 ∧ zcan cn q s 2 = true
      · rw [if_pos h2, if_pos h2, if_neg (by decide)]
      · rw [if_neg h2, if_neg h2, if_pos rfl]
theorem k_does6 (hz : zIs α c (10, 3)) (hfz : fz c) (hw : cLk Γ A a T b t α) (hc : cAt a α q) (hq : q < 5832) (hs : s < 3) (h15 : zla q < 15) (hT : zla q + 1 ≤ T) (h : ∀ β, cLk Γ A a T b t β → cAt a β q → frI (Fk a) α β → post (some (.int (nI (zsure (zbc b t (zcn A.1 T)) q s)))) β) : ZK G (d + 5) mX6_does [.ref (G.1 + c), .ref (G.1 + a), .int (nI s), .int (nI (cgs q))] α post := by
  have ha := hw.get.1
  rw [zsure_f] at h
  have lp : ∀ (j k : Nat), k + j = 3 → (∀ i, i < k → (fun k => (zcb (zbc b t (zcn A.1 T)) q s).testBit (2 * k + 1)) i = false) → ∀ β, cLk Γ A a T b t β → cAt a β q → frI (Fk a) α β → Z G mX6_does (d + 5) 11 [some (.ref (G.1 + c)), some (.ref (G.1 + a)), some (.int (nI s)), some (.int (nI (cgs q))), some (.int (nI (zcb (zbc b t (zcn A.1 T)) q s))), some (.int (nI k))] [] β (0, 0) post := by
    intro j
    induction j with
    | zero =>
      intro k hk h0 β hw1 hc1 hf1
      have hk : k = 3 := by omega
      subst hk
      have ha := hw1.get.1
      have hz1 := hf1.is hz
      rw [zfst_no h0, if_pos rfl] at h
      refine Z_iload dX6_does_11 rfl ?_
      refine Z_iconst (v := 3) dX6_does_13 (by decide) ?_
      refine Z_icmp_ge (tgt := 40) dX6_does_14 (by decide) (fun h14 => ?_) (fun h14 => ?_)
      · skip
        refine Z_aload_n dX6_does_40 rfl rfl ?_
        refine Z_aload_n dX6_does_41 rfl rfl ?_
        refine Z_iload_n dX6_does_42 rfl rfl ?_
        refine Z_iload_n dX6_does_43 rfl rfl ?_
        refine Z_SU3z (ci := 6) dX6_does_44 to_X3_does wd_682 wd_1430 wd_518 im_X3_does (by decide) rfl hz1 (Nat.le_of_ble_eq_true rfl) ⟨rfl, rfl⟩ ⟨by decide, by decide⟩ ?_
        refine k_does3 hw1 hc1 hq hs h15 hT (fun γ hw2 hc2 hf2 => ?_)
        refine Z_iret dX6_does_47 rfl rfl ⟨by decide, by decide⟩ ?_
        exact h γ hw2 hc2 (hf1.tr hf2)
      · skip
        exact absurd (by decide) h14
    | succ j ih =>
      intro k hk h0 β hw1 hc1 hf1
      have e2 : nI k * 2 + 1 = nI (2 * k + 1) := by rw [show (2 : Int32) = nI 2 from rfl, pk_mul, nI_1, Nat.mul_comm]
      refine Z_iload dX6_does_11 rfl ?_
      refine Z_iconst (v := 3) dX6_does_13 (by decide) ?_
      refine Z_icmp_ge (tgt := 40) dX6_does_14 (by decide) (fun h14 => ?_) (fun h14 => ?_)
      · skip
        exact absurd h14 (nI_ge (a := k) (b := 3) (by omega) (by omega))
      · skip
        refine Z_iload dX6_does_17 rfl ?_
        refine Z_iload dX6_does_19 rfl ?_
        refine Z_iconst (v := 2) dX6_does_21 (by decide) ?_
        refine Z_imul dX6_does_22 ?_
        refine Z_iconst (v := 1) dX6_does_23 (by decide) ?_
        refine Z_iadd dX6_does_24 ?_
        rw [e2]
        refine Z_S2z dX6_does_25 to_X11_hasBit lk_X6_15 sc_X11_hasBit (Nat.le_of_ble_eq_true rfl) ⟨rfl, rfl⟩ ⟨by decide, by decide⟩ ?_
        refine k_hasBit zcb_lt (by omega) ?_
        refine Z_if_eq (tgt := 34) dX6_does_28 (by decide) (fun h28 => ?_) (fun h28 => ?_)
        · skip
          refine Z_iinc (L' := [_, _, _, _, _, _]) dX6_does_34 rfl (by rfl : _ + Int32.ofInt 1 = _ + 1) (by decide) rfl rfl ?_
          refine Z_goto (tgt := 11) dX6_does_37 (by decide) ?_
          rw [nI_1]
          refine ih (k + 1) (by omega) (fun i hi => ?_) β hw1 hc1 hf1
          by_cases e : i = k
          · rw [e]; exact b2i_eq.mp h28
          · exact h0 i (by omega)
        · skip
          refine Z_iload dX6_does_31 rfl ?_
          refine Z_iret dX6_does_33 rfl rfl ⟨by decide, by decide⟩ ?_
          have e := zfst_at (p := fun k => (zcb (zbc b t (zcn A.1 T)) q s).testBit (2 * k + 1)) (k := k) (by omega) (b2i_ne.mp h28) h0
          rw [e, if_neg (by omega)] at h
          exact h β hw1 hc1 hf1
  refine ZK.of (n := 2) (by decide) (Nat.le_of_ble_eq_true rfl) rfl ?_
  refine Z_aload_n dX6_does_0 rfl rfl ?_
  refine Z_iload_n dX6_does_1 rfl rfl ?_
  refine Z_iload_n dX6_does_2 rfl rfl ?_
  refine Z_V2z (ci := 0) dX6_does_3 to_X0_cans lk_X6_9 iv_X0_cans ⟨rfl, rfl⟩ ha.1 (Nat.le_of_ble_eq_true rfl) ⟨rfl, rfl⟩ ⟨by decide, by decide⟩ ?_
  refine k_cans hw hc hq hs h15 hT (fun β hw1 hc1 hf1 => ?_)
  refine Z_istore (L' := [_, _, _, _, _, _]) dX6_does_6 (by decide) rfl rfl ?_
  refine Z_iconst (v := 0) dX6_does_8 (by decide) ?_
  refine Z_istore (L' := [_, _, _, _, _, _]) dX6_does_9 (by decide) rfl rfl ?_
  exact lp 3 0 rfl (fun i hi => absurd hi (Nat.not_lt_zero i)) β hw1 hc1 hf1
theorem k_does1 (hw : cLk Γ A a T b t α) (hc : cAt a α q) (hq : q < 5832) (hs : s < 3) (h15 : zla q < 15) (hT : zla q + 1 ≤ T) (h : ∀ β, cLk Γ A a T b t β → cAt a β q → frI (Fk a) α β → post (some (.int (nI (zOn (zbest (zbc b t (zcn A.1 T)) (sp_pay A.1.1)) (zbc b t (zcn A.1 T)) (sp_pay A.1.1) q s).2))) β) : ZK G (d + 53) mX1_does [.ref (G.1 + c), .ref (G.1 + a), .int (nI s), .int (nI (cgs q))] α post := by
  have ha := hw.get.1
  refine ZK.of (n := 0) (by decide) (Nat.le_of_ble_eq_true rfl) rfl ?_
  refine Z_aload_n dX1_does_0 rfl rfl ?_
  refine Z_iload_n dX1_does_1 rfl rfl ?_
  refine Z_iload_n dX1_does_2 rfl rfl ?_
  refine Z_V2z (ci := 0) dX1_does_3 to_X0_bestWork lk_X1_7 iv_X0_bestWork ⟨rfl, rfl⟩ ha.1 (Nat.le_of_ble_eq_true rfl) ⟨rfl, rfl⟩ ⟨by decide, by decide⟩ ?_
  refine k_bestWork hw hc hq hs h15 hT (fun β hw1 hc1 hf1 => ?_)
  refine Z_iret dX1_does_6 rfl rfl ⟨by decide, by decide⟩ ?_
  exact h β hw1 hc1 hf1
theorem told_ok : ∀ r, r < 64 → ∀ s, s < 3 → (nI r >>> (2 * nI s &&& 31)) &&& 3 = nI (r / 4 ^ s % 4) := by decide +kernel
theorem k_toldFor (hz : zIs α c (11, 4)) (hr : hI α c 3 = nI row) (hr6 : row < 64) (hs : s < 3) (h : post (some (.int (nI (row / 4 ^ s % 4)))) α) : ZK G (d + 1) mX7_toldFor [.ref (G.1 + c), .int (nI s)] α post := by
  refine ZK.of (n := 0) (by decide) (Nat.le_of_ble_eq_true rfl) rfl ?_
  refine Z_aload_n dX7_toldFor_0 rfl rfl ?_
  refine Z_getIv dX7_toldFor_1 cl_7 fl_X7_9_7 rfl hz hr ?_
  refine Z_iconst (v := 2) dX7_toldFor_4 (by decide) ?_
  refine Z_iload_n dX7_toldFor_5 rfl rfl ?_
  refine Z_imul dX7_toldFor_6 ?_
  refine Z_ishr dX7_toldFor_7 ?_
  refine Z_iconst (v := 3) dX7_toldFor_8 (by decide) ?_
  refine Z_iand dX7_toldFor_9 ?_
  refine Z_iret dX7_toldFor_10 rfl rfl ⟨by decide, by decide⟩ ?_
  rw [told_ok _ hr6 _ hs]; exact h
theorem k_does7 (hz : zIs α c (11, 4)) (hfz : fz c) (hv : hI α c 2 = v) (hr : hI α c 3 = nI row) (hr6 : row < 64) (hw : cLk Γ A a T b t α) (hc : cAt a α q) (hq : q < 5832) (hs : s < 3) (h15 : zla q < 15) (hT : zla q + 1 ≤ T) (h : ∀ β, cLk Γ A a T b t β → cAt a β q → frI (Fk a) α β → post (some (.int (nI (if row / 4 ^ s % 4 < 3 ∧ zcan (zbc b t (zcn A.1 T)) q s (row / 4 ^ s % 4) = true then row / 4 ^ s % 4 else zwaC (zbc b t (zcn A.1 T)) v q s)))) β) : ZK G (d + 5) mX7_does [.ref (G.1 + c), .ref (G.1 + a), .int (nI s), .int (nI (cgs q))] α post := by
  have ha := hw.get.1
  have h4 : row / 4 ^ s % 4 < 4 := Nat.mod_lt _ (by decide)
  generalize etl : row / 4 ^ s % 4 = tl at h h4
  have hzin : zin (zcb (zbc b t (zcn A.1 T)) q s) tl = decide (tl < 3 ∧ zcan (zbc b t (zcn A.1 T)) q s tl = true) := by
    by_cases e : tl = 3
    · subst e; unfold zcb; rw [num6_in3]; simp
    · rw [zcb_in (by omega)]; simp [show tl < 3 by omega]
  refine ZK.of (n := 1) (by decide) (Nat.le_of_ble_eq_true rfl) rfl ?_
  refine Z_aload_n dX7_does_0 rfl rfl ?_
  refine Z_iload_n dX7_does_1 rfl rfl ?_
  refine Z_V1z (ci := 7) dX7_does_2 to_X7_toldFor lk_X7_22 iv_X7_toldFor ⟨rfl, rfl⟩ (by first | exact hz1 | exact hz) (Nat.le_of_ble_eq_true rfl) ⟨rfl, rfl⟩ ⟨by decide, by decide⟩ ?_
  refine k_toldFor hz hr hr6 hs ?_
  rw [etl]
  refine Z_istore (L' := [_, _, _, _, _]) dX7_does_5 (by decide) rfl rfl ?_
  refine Z_aload_n dX7_does_7 rfl rfl ?_
  refine Z_iload_n dX7_does_8 rfl rfl ?_
  refine Z_iload_n dX7_does_9 rfl rfl ?_
  refine Z_V2z (ci := 0) dX7_does_10 to_X0_cans lk_X7_26 iv_X0_cans ⟨rfl, rfl⟩ ha.1 (Nat.le_of_ble_eq_true rfl) ⟨rfl, rfl⟩ ⟨by decide, by decide⟩ ?_
  refine k_cans hw hc hq hs h15 hT (fun β hw1 hc1 hf1 => ?_)
  have ha := hw1.get.1
  have hz1 := hf1.is hz
  have hv1 : hI β c 2 = v := by rw [(hf1.2.2.2 c (fun z => by have := hw.2.1; unfold Fk at z; unfold fz at hfz; omega)).1]; exact hv
  refine Z_iload dX7_does_13 rfl ?_
  refine Z_S2z dX7_does_15 to_X11_isIn lk_X7_32 sc_X11_isIn (Nat.le_of_ble_eq_true rfl) ⟨rfl, rfl⟩ ⟨by decide, by decide⟩ ?_
  refine k_isIn zcb_lt h4 ?_
  rw [hzin]
  refine Z_if_eq (tgt := 24) dX7_does_18 (by decide) (fun h18 => ?_) (fun h18 => ?_)
  · skip
    refine Z_aload_n dX7_does_24 rfl rfl ?_
    refine Z_aload_n dX7_does_25 rfl rfl ?_
    refine Z_iload_n dX7_does_26 rfl rfl ?_
    refine Z_iload_n dX7_does_27 rfl rfl ?_
    refine Z_SU3z (ci := 7) dX7_does_28 to_X9_does wd_689 wd_1431 wd_541 im_X9_does (by decide) rfl (by first | exact hz1 | exact hz) (Nat.le_of_ble_eq_true rfl) ⟨rfl, rfl⟩ ⟨by decide, by decide⟩ ?_
    refine k_does97 hz1 hv1 hw1 hc1 hq hs h15 hT (fun γ hw2 hc2 hf2 => ?_)
    refine Z_iret dX7_does_31 rfl rfl ⟨by decide, by decide⟩ ?_
    have := h γ hw2 hc2 (hf1.tr hf2)
    rw [if_neg (dec_f h18)] at this; exact this
  · skip
    refine Z_iload dX7_does_21 rfl ?_
    refine Z_iret dX7_does_23 rfl rfl ⟨by decide, by decide⟩ ?_
    have := h β hw1 hc1 hf1
    rw [if_pos (dec_t h18)] at this; exact this
end CD2
