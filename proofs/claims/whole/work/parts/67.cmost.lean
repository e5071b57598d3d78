section CM1
variable {G : ZG} {d : Nat} {α β : AH} {post : Option Value → AH → Prop} {Γ : Nat → VC} {A : ZA} {a T : Nat} {b t : Int32}
theorem nI_maxN {x y : Nat} (hx : x < 2 ^ 31) (hy : y < 2 ^ 31) : (if nI x < nI y then nI y else nI x) = nI (max x y) := by
  rw [nI_max hx hy]
  congr 1
  split <;> omega
def cMost (G : ZG) (Γ : Nat → VC) (A : ZA) (a T : Nat) (b t : Int32) (d n : Nat) : Prop := ∀ (q : Nat) (α : AH) (post : Option Value → AH → Prop), q < 5832 → zla q = n → n ≤ T → cLk Γ A a T b t α → cAt a α q → cOw α (zmost (zbc b t (zcn A.1 T)) (sp_pay A.1.1)) → (∀ β, cLk Γ A a T b t β → cAt a β q → cOw β (zmost (zbc b t (zcn A.1 T)) (sp_pay A.1.1)) → frI (Fo a) α β → post (some (.int (nI (zmost (zbc b t (zcn A.1 T)) (sp_pay A.1.1) q)))) β) → ZK G (d + 2 * n + 4) mX0_mostPaid [.ref (G.1 + a), .int (nI (cgs q))] α post
def cMostOn (G : ZG) (Γ : Nat → VC) (A : ZA) (a T : Nat) (b t : Int32) (d n : Nat) : Prop := ∀ (q s : Nat) (α : AH) (post : Option Value → AH → Prop), q < 5832 → s < 3 → zla q = n → n < 15 → n + 1 ≤ T → cLk Γ A a T b t α → cAt a α q → cOw α (zmost (zbc b t (zcn A.1 T)) (sp_pay A.1.1)) → (∀ β, cLk Γ A a T b t β → cAt a β q → cOw β (zmost (zbc b t (zcn A.1 T)) (sp_pay A.1.1)) → frI (Fo a) α β → post (some (.int (nI (zmx (zmost (zbc b t (zcn A.1 T)) (sp_pay A.1.1)) c1 (zbc b t (zcn A.1 T)) (sp_pay A.1.1) q s 3)))) β) → ZK G (d + 2 * n + 5) mX0_mostOn [.ref (G.1 + a), .int (nI s), .int (nI (cgs q))] α post
theorem st_mostOn {n : Nat} (hB : cMost G Γ A a T b t d n) : cMostOn G Γ A a T b t d n := by
  intro q s α post hq hs hn h15 hnT hw hc hm h
  have ha := hw.get.1
  have haa := hw.2.1
  have lp : ∀ (j k : Nat), k + j = 3 → ∀ (β : AH), cLk Γ A a T b t β → cAt a β q → cOw β (zmost (zbc b t (zcn A.1 T)) (sp_pay A.1.1)) → frI (Fo a) α β → Z G mX0_mostOn (d + 2 * n + 5) 17 [some (.ref (G.1 + a)), some (.int (nI s)), some (.int (nI (cgs q))), some (.int (nI (zcb (zbc b t (zcn A.1 T)) q s))), some (.int (nI (zmx (zmost (zbc b t (zcn A.1 T)) (sp_pay A.1.1)) c1 (zbc b t (zcn A.1 T)) (sp_pay A.1.1) q s k))), some (.int (nI k))] [] β (0, 0) post := by
    intro j
    induction j with
    | zero =>
      intro k hk β hw hc hm hf
      have hk : k = 3 := by omega
      subst hk
      refine Z_iload dX0_mostOn_17 rfl ?_
      refine Z_iconst (v := 3) dX0_mostOn_19 (by decide) ?_
      refine Z_icmp_ge (tgt := 66) dX0_mostOn_20 (by decide) (fun h20 => ?_) (fun h20 => ?_)
      · skip
        refine Z_iload dX0_mostOn_66 rfl ?_
        refine Z_iret dX0_mostOn_68 rfl rfl ⟨by decide, by decide⟩ ?_
        exact h _ hw hc hm hf
      · skip
        exact absurd (by decide) h20
    | succ j ih =>
      intro k hk β hw hc hm hf
      have hp := sp_pay_le hw.1.2.2.1
      have hfl := zmx_lt (cn := zbc b t (zcn A.1 T)) hp (s := s) (k := k) hq (by omega)
      have nx : ∀ (γ : AH) (p : Nat), cLk Γ A a T b t γ → cAt a γ q → cOw γ (zmost (zbc b t (zcn A.1 T)) (sp_pay A.1.1)) → frI (Fo a) α γ → p = zmx (zmost (zbc b t (zcn A.1 T)) (sp_pay A.1.1)) c1 (zbc b t (zcn A.1 T)) (sp_pay A.1.1) q s (k + 1) → Z G mX0_mostOn (d + 2 * n + 5) 60 [some (.ref (G.1 + a)), some (.int (nI s)), some (.int (nI (cgs q))), some (.int (nI (zcb (zbc b t (zcn A.1 T)) q s))), some (.int (nI p)), some (.int (nI k))] [] γ (0, 0) post := by
        intro γ p hw1 hc1 hm1 hf1 ep
        subst ep
        refine Z_iinc (L' := [_, _, _, _, _, _]) dX0_mostOn_60 rfl (by rfl : _ + Int32.ofInt 1 = _ + 1) (by decide) rfl rfl ?_
        refine Z_goto (tgt := 17) dX0_mostOn_63 (by decide) ?_
        rw [nI_1]
        exact ih (k + 1) (by omega) γ hw1 hc1 hm1 hf1
      have efo : zmx (zmost (zbc b t (zcn A.1 T)) (sp_pay A.1.1)) c1 (zbc b t (zcn A.1 T)) (sp_pay A.1.1) q s (k + 1) = max (zmx (zmost (zbc b t (zcn A.1 T)) (sp_pay A.1.1)) c1 (zbc b t (zcn A.1 T)) (sp_pay A.1.1) q s k) (if zcan (zbc b t (zcn A.1 T)) q s k = true then c1 q * zpays (sp_pay A.1.1) q k + zmost (zbc b t (zcn A.1 T)) (sp_pay A.1.1) (zdo q k) else 0) := rfl
      rw [efo] at nx
      generalize zmx (zmost (zbc b t (zcn A.1 T)) (sp_pay A.1.1)) c1 (zbc b t (zcn A.1 T)) (sp_pay A.1.1) q s k = p at *
      obtain ⟨ha, vv, hp3, hvk, ⟨cc, ww, ee, pp, hv⟩, hmm, -⟩ := hw.get
      refine Z_iload dX0_mostOn_17 rfl ?_
      refine Z_iconst (v := 3) dX0_mostOn_19 (by decide) ?_
      refine Z_icmp_ge (tgt := 66) dX0_mostOn_20 (by decide) (fun h20 => ?_) (fun h20 => ?_)
      · skip
        exact absurd h20 (nI_ge (a := k) (b := 3) (by omega) (by omega))
      · skip
        refine Z_iload_n dX0_mostOn_23 rfl rfl ?_
        refine Z_iload dX0_mostOn_24 rfl ?_
        refine Z_S2z dX0_mostOn_26 to_X11_isIn lk_X0_98 sc_X11_isIn (Nat.le_of_ble_eq_true rfl) ⟨rfl, rfl⟩ ⟨by decide, by decide⟩ ?_
        refine k_isIn zcb_lt (by omega) ?_
        rw [zcb_in (by omega)]
        refine Z_if_eq (tgt := 60) dX0_mostOn_29 (by decide) (fun h29 => ?_) (fun h29 => ?_)
        · skip
          first
            | (have hcan : zcan (zbc b t (zcn A.1 T)) q s k = false := b2i_eq.mp h29
               exact nx _ _ hw hc hm hf (by rw [hcan, if_neg (by decide)]; omega))
            | (refine nx _ _ hw1 (hc1.la _ (fun j => (ok.2.1 j).symm)) hm1 (hf.tr hf1) ?_
               rw [if_pos hcan]
               show _ = max p (1 * _ + _)
               rw [Nat.one_mul])
        · skip
          have hcan : zcan (zbc b t (zcn A.1 T)) q s k = true := b2i_ne.mp h29
          have hg := zcan_g hcan
          have ok := zdo_ok hq (show k < 3 by omega) hg
          have hvl := zmost_lt (cn := zbc b t (zcn A.1 T)) hp ok.1
          have hpl := zpays_le hp (q := q) (w := k) (by omega)
          refine Z_iload dX0_mostOn_32 rfl ?_
          refine Z_aload_n dX0_mostOn_34 rfl rfl ?_
          refine Z_getR dX0_mostOn_35 cl_0 fl_X0_31_0 rfl ha.1 hp3 ?_
          refine Z_iload dX0_mostOn_38 rfl ?_
          refine Z_iload_n dX0_mostOn_40 rfl rfl ?_
          refine Z_V2z (ci := 8) dX0_mostOn_41 to_X8_gain lk_X0_116 iv_X8_gain ⟨rfl, rfl⟩ hv.2.1 (Nat.le_of_ble_eq_true rfl) ⟨rfl, rfl⟩ ⟨by decide, by decide⟩ ?_
          refine k_gain' (q := q) hw hp3 (by omega) ?_
          refine Z_aload_n dX0_mostOn_44 rfl rfl ?_
          refine Z_iload dX0_mostOn_45 rfl ?_
          refine Z_iload_n dX0_mostOn_47 rfl rfl ?_
          refine Z_S2z dX0_mostOn_48 to_X11_after lk_X0_113 sc_X11_after (Nat.le_of_ble_eq_true rfl) ⟨rfl, rfl⟩ ⟨by decide, by decide⟩ ?_
          refine k_after (by omega) ?_
          rw [cgs_do hq (by omega) (fun _ => hg), show zdw q k = zdo q k from if_neg (by omega)]
          refine Z_V1z (ci := 0) dX0_mostOn_51 to_X0_mostPaid lk_X0_142 iv_X0_mostPaid ⟨rfl, rfl⟩ ha.1 (Nat.le_of_ble_eq_true rfl) ⟨rfl, rfl⟩ ⟨by decide, by decide⟩ ?_
          refine hB _ _ _ ok.1 (by rw [zdo_la hq (show k < 3 by omega) hg]; exact hn) (by omega) hw (hc.la _ ok.2.1) hm (fun γ hw1 hc1 hm1 hf1 => ?_)
          refine Z_iadd dX0_mostOn_54 ?_
          rw [nI_add]
          refine Z_mmax dX0_mostOn_55 wd_658 mw_max.1 mw_max.2.1 mw_max.2.2 (Nat.le_of_ble_eq_true rfl) ⟨by decide, by decide⟩ ?_
          rw [nI_maxN (by omega) (by omega)]
          refine Z_istore (L' := [_, _, _, _, _, _]) dX0_mostOn_58 (by decide) rfl rfl ?_
          first
            | (have hcan : zcan (zbc b t (zcn A.1 T)) q s k = false := b2i_eq.mp h29
               exact nx _ _ hw hc hm hf (by rw [hcan, if_neg (by decide)]; omega))
            | (refine nx _ _ hw1 (hc1.la _ (fun j => (ok.2.1 j).symm)) hm1 (hf.tr hf1) ?_
               rw [if_pos hcan]
               show _ = max p (1 * _ + _)
               rw [Nat.one_mul])
  refine ZK.of (n := 3) (by decide) (Nat.le_of_ble_eq_true rfl) rfl ?_
  refine Z_aload_n dX0_mostOn_0 rfl rfl ?_
  refine Z_iload_n dX0_mostOn_1 rfl rfl ?_
  refine Z_iload_n dX0_mostOn_2 rfl rfl ?_
  refine Z_V2z (ci := 0) dX0_mostOn_3 to_X0_cans lk_X0_92 iv_X0_cans ⟨rfl, rfl⟩ ha.1 (Nat.le_of_ble_eq_true rfl) ⟨rfl, rfl⟩ ⟨by decide, by decide⟩ ?_
  refine k_cans hw hc hq hs (by omega) (by omega) (fun β hw1 hc1 hf1 => ?_)
  have ha := hw1.get.1
  refine Z_istore_n (L' := [_, _, _, _, _, _]) dX0_mostOn_6 rfl (by decide) rfl rfl ?_
  refine Z_aload_n dX0_mostOn_7 rfl rfl ?_
  refine Z_iload_n dX0_mostOn_8 rfl rfl ?_
  refine Z_V1z (ci := 0) dX0_mostOn_9 to_X0_mostPaid lk_X0_142 iv_X0_mostPaid ⟨rfl, rfl⟩ ha.1 (Nat.le_of_ble_eq_true rfl) ⟨rfl, rfl⟩ ⟨by decide, by decide⟩ ?_
  refine hB _ _ _ hq hn (by omega) hw1 hc1 (hm.fk haa hf1) (fun γ hw2 hc2 hm2 hf2 => ?_)
  refine Z_istore (L' := [_, _, _, _, _, _]) dX0_mostOn_12 (by decide) rfl rfl ?_
  refine Z_iconst (v := 0) dX0_mostOn_14 (by decide) ?_
  refine Z_istore (L' := [_, _, _, _, _, _]) dX0_mostOn_15 (by decide) rfl rfl ?_
  exact lp 3 0 rfl γ hw2 hc2 hm2 (hf1.ko.tr hf2)
theorem zmo_s {f : Nat → Nat} {q s : Nat} : zmo f q (s + 1) = if 0 < zl q s then max (zmo f q s) (f s) else zmo f q s := rfl
theorem st_most' {n : Nat} (hO : ∀ m, n = m + 1 → cMostOn G Γ A a T b t d m) : cMost G Γ A a T b t d n := by
  intro q α post hq hn hnT hw hc hm h
  have ha := hw.get.1
  have haa := hw.2.1
  have hl15 := zla_le hq
  have hpp := sp_pay_le hw.1.2.2.1
  have lp : ∀ (j s : Nat), s + j = 3 → ∀ (β : AH), cLk Γ A a T b t β → cAt a β q → cOw β (zmost (zbc b t (zcn A.1 T)) (sp_pay A.1.1)) → frI (Fo a) α β → Z G mX0_mostPaid (d + 2 * n + 4) 37 [some (.ref (G.1 + a)), some (.int (nI (cgs q))), some (.int (nI (cq q))), some (.int (nI (zmo (fun s => zmx (zmost (zbc b t (zcn A.1 T)) (sp_pay A.1.1)) c1 (zbc b t (zcn A.1 T)) (sp_pay A.1.1) (zd q s) s 3) q s))), some (.int (nI s))] [] β (0, 0) post := by
    intro j
    induction j with
    | zero =>
      intro s hs β hw hc hm hf
      have hs : s = 3 := by omega
      subst hs
      have ha := hw.get.1
      rw [← zmost_eq hq]
      refine Z_iload dX0_mostPaid_37 rfl ?_
      refine Z_iconst (v := 3) dX0_mostPaid_39 (by decide) ?_
      refine Z_icmp_ge (tgt := 83) dX0_mostPaid_40 (by decide) (fun h40 => ?_) (fun h40 => ?_)
      · skip
        refine Z_aload_n dX0_mostPaid_83 rfl rfl ?_
        refine Z_getR dX0_mostPaid_84 cl_0 fl_X0_35_0 rfl ha.1 ha.2.2.2.2.2.1 ?_
        refine Z_iload_n dX0_mostPaid_87 rfl rfl ?_
        refine Z_iload_n dX0_mostPaid_88 rfl rfl ?_
        refine Z_iast dX0_mostPaid_89 ha.2.2.2.2.2.2.2.2.2.2 (zix_nI (cq_lt hq) (by decide)) ?_
        refine Z_iload_n dX0_mostPaid_90 rfl rfl ?_
        refine Z_iret dX0_mostPaid_91 rfl rfl ⟨by decide, by decide⟩ ?_
        exact h _ hw.own (hc.own hw.2.1) (hm.put hq) (hf.tr (frI.sI (Or.inl rfl)))
      · skip
        exact absurd (by decide) h40
    | succ j ih =>
      intro s hs β hw hc hm hf
      have ha := hw.get.1
      have hl := zl_le (s := s) hq
      have cs := hc.1 s (by omega)
      have hmo := zmo_lt (cn := zbc b t (zcn A.1 T)) hpp (q := q) (s := s) hq (by omega)
      have nx0 : ¬ 0 < zl q s → _ := fun z => (zmo_s (f := fun s => zmx (zmost (zbc b t (zcn A.1 T)) (sp_pay A.1.1)) c1 (zbc b t (zcn A.1 T)) (sp_pay A.1.1) (zd q s) s 3) (q := q) (s := s)).trans (if_neg z)
      have nx1 : 0 < zl q s → _ := fun z => (zmo_s (f := fun s => zmx (zmost (zbc b t (zcn A.1 T)) (sp_pay A.1.1)) c1 (zbc b t (zcn A.1 T)) (sp_pay A.1.1) (zd q s) s 3) (q := q) (s := s)).trans (if_pos z)
      generalize zmo (fun s => zmx (zmost (zbc b t (zcn A.1 T)) (sp_pay A.1.1)) c1 (zbc b t (zcn A.1 T)) (sp_pay A.1.1) (zd q s) s 3) q s = P at nx0 nx1 hmo ⊢
      refine Z_iload dX0_mostPaid_37 rfl ?_
      refine Z_iconst (v := 3) dX0_mostPaid_39 (by decide) ?_
      refine Z_icmp_ge (tgt := 83) dX0_mostPaid_40 (by decide) (fun h40 => ?_) (fun h40 => ?_)
      · skip
        exact absurd h40 (nI_ge (a := s) (b := 3) (by omega) (by omega))
      · skip
        refine Z_aload_n dX0_mostPaid_43 rfl rfl ?_
        refine Z_getR dX0_mostPaid_44 cl_0 fl_X0_9_0 rfl ha.1 ha.2.1 ?_
        refine Z_iload dX0_mostPaid_47 rfl ?_
        refine Z_ialdv dX0_mostPaid_49 ha.2.2.2.2.2.2.1 (zix_nI (m := s) (by omega) (by decide)) cs ?_
        refine Z_if_le (tgt := 77) dX0_mostPaid_50 (by decide) (fun h50 => ?_) (fun h50 => ?_)
        · skip
          refine Z_iinc (L' := [_, _, _, _, _]) dX0_mostPaid_77 rfl (by rfl : _ + Int32.ofInt 1 = _ + 1) (by decide) rfl rfl ?_
          refine Z_goto (tgt := 37) dX0_mostPaid_80 (by decide) ?_
          rw [nI_1]
          first
            | (rw [← nx1 hp]
               exact ih (s + 1) (by omega) ε hw3 hc3 (hm2.fk haa hf3.kl4) (hf.tr ((hf1.kl4.ko.tr hf2).tr hf3.kl4.ko)))
            | (rw [← nx0 (fun z => by have := nI_nle z (by omega); exact this h50)]
               exact ih (s + 1) (by omega) β hw hc hm hf)
        · skip
          have hp := nI_pos0 (by omega) h50
          have ok := zd_ok hq (show s < 3 by omega) hp
          obtain ⟨m, em⟩ : ∃ m, n = m + 1 := ⟨n - 1, by omega⟩
          subst em
          rw [show d + 2 * (m + 1) + 4 = d + 2 * m + 5 + 1 by omega] at ih ⊢
          have em2 : zla (zd q s) = m := by omega
          have hxl := zmx_lt (cn := zbc b t (zcn A.1 T)) hpp (q := zd q s) (s := s) (k := 3) ok.2.1 (by omega)
          refine Z_aload_n dX0_mostPaid_53 rfl rfl ?_
          refine Z_iload dX0_mostPaid_54 rfl ?_
          refine Z_V1z (ci := 0) dX0_mostPaid_56 to_X0_take lk_X0_82 iv_X0_take ⟨rfl, rfl⟩ ha.1 (Nat.le_of_ble_eq_true rfl) ⟨rfl, rfl⟩ ⟨by decide, by decide⟩ ?_
          refine k_take hw hc hq (by omega) hp (fun γ hw1 hc1 hf1 => ?_)
          have ha := hw1.get.1
          refine Z_iload_n dX0_mostPaid_59 rfl rfl ?_
          refine Z_aload_n dX0_mostPaid_60 rfl rfl ?_
          refine Z_iload dX0_mostPaid_61 rfl ?_
          refine Z_iload_n dX0_mostPaid_63 rfl rfl ?_
          refine Z_V2z (ci := 0) dX0_mostPaid_64 to_X0_mostOn lk_X0_139 iv_X0_mostOn ⟨rfl, rfl⟩ ha.1 (Nat.le_of_ble_eq_true rfl) ⟨rfl, rfl⟩ ⟨by decide, by decide⟩ ?_
          rw [← cgs_zd hq (show s < 3 by omega) hp]
          refine hO m rfl _ _ _ _ ok.2.1 (by omega) em2 (by omega) (by omega) hw1 hc1 (hm.fk haa hf1.kl4) (fun δ hw2 hc2 hm2 hf2 => ?_)
          rw [cgs_zd hq (show s < 3 by omega) hp]
          have ha := hw2.get.1
          refine Z_mmax dX0_mostPaid_67 wd_658 mw_max.1 mw_max.2.1 mw_max.2.2 (Nat.le_of_ble_eq_true rfl) ⟨by decide, by decide⟩ ?_
          rw [nI_maxN (by omega) (by omega)]
          refine Z_istore_n (L' := [_, _, _, _, _]) dX0_mostPaid_70 rfl (by decide) rfl rfl ?_
          refine Z_aload_n dX0_mostPaid_71 rfl rfl ?_
          refine Z_iload dX0_mostPaid_72 rfl ?_
          refine Z_V1z (ci := 0) dX0_mostPaid_74 to_X0_back lk_X0_89 iv_X0_back ⟨rfl, rfl⟩ ha.1 (Nat.le_of_ble_eq_true rfl) ⟨rfl, rfl⟩ ⟨by decide, by decide⟩ ?_
          refine k_back hw2 hc2 hq (by omega) hp (fun ε hw3 hc3 hf3 => ?_)
          have ha := hw3.get.1
          refine Z_iinc (L' := [_, _, _, _, _]) dX0_mostPaid_77 rfl (by rfl : _ + Int32.ofInt 1 = _ + 1) (by decide) rfl rfl ?_
          refine Z_goto (tgt := 37) dX0_mostPaid_80 (by decide) ?_
          rw [nI_1]
          first
            | (rw [← nx1 hp]
               exact ih (s + 1) (by omega) ε hw3 hc3 (hm2.fk haa hf3.kl4) (hf.tr ((hf1.kl4.ko.tr hf2).tr hf3.kl4.ko)))
            | (rw [← nx0 (fun z => by have := nI_nle z (by omega); exact this h50)]
               exact ih (s + 1) (by omega) β hw hc hm hf)
  refine ZK.of (n := 3) (by decide) (Nat.le_of_ble_eq_true rfl) rfl ?_
  by_cases h0 : n = 0
  · have e0 : zmost (zbc b t (zcn A.1 T)) (sp_pay A.1.1) q = 0 := by unfold zmost; rw [hn, h0]; rfl
    rw [e0] at h
    refine Z_aload_n dX0_mostPaid_0 rfl rfl ?_
    refine Z_getIv dX0_mostPaid_1 cl_0 fl_X0_47_0 rfl ha.1 hc.2 ?_
    refine Z_if_gt (tgt := 9) dX0_mostPaid_4 (by decide) (fun h4 => ?_) (fun h4 => ?_)
    · skip
      exact absurd h4 (by rw [hn, h0]; decide)
    · skip
      refine Z_iconst (v := 0) dX0_mostPaid_7 (by decide) ?_
      refine Z_iret dX0_mostPaid_8 rfl rfl ⟨by decide, by decide⟩ ?_
      exact h α hw hc hm frI.rf
  · have hp : ¬ nI (zla q) ≤ 0 := nI_nle (by omega) (by omega)
    have hlt := zmost_lt (cn := zbc b t (zcn A.1 T)) hpp hq
    rcases hm q hq with mm | mm
    · skip
      refine Z_aload_n dX0_mostPaid_0 rfl rfl ?_
      refine Z_getIv dX0_mostPaid_1 cl_0 fl_X0_47_0 rfl ha.1 hc.2 ?_
      refine Z_if_gt (tgt := 9) dX0_mostPaid_4 (by decide) (fun h4 => ?_) (fun h4 => ?_)
      · skip
        refine Z_aload_n dX0_mostPaid_9 rfl rfl ?_
        refine Z_iload_n dX0_mostPaid_10 rfl rfl ?_
        refine Z_V1z (ci := 0) dX0_mostPaid_11 to_X0_place lk_X0_78 iv_X0_place ⟨rfl, rfl⟩ ha.1 (Nat.le_of_ble_eq_true rfl) ⟨rfl, rfl⟩ ⟨by decide, by decide⟩ ?_
        refine k_place hw hc hq ?_
        refine Z_istore_n (L' := [_, _, _, _, _]) dX0_mostPaid_14 rfl (by decide) rfl rfl ?_
        refine Z_aload_n dX0_mostPaid_15 rfl rfl ?_
        refine Z_getR dX0_mostPaid_16 cl_0 fl_X0_35_0 rfl ha.1 ha.2.2.2.2.2.1 ?_
        refine Z_iload_n dX0_mostPaid_19 rfl rfl ?_
        refine Z_ialdv dX0_mostPaid_20 ha.2.2.2.2.2.2.2.2.2.2 (zix_nI (cq_lt hq) (by decide)) mm ?_
        refine Z_iconst (v := -1) dX0_mostPaid_21 (by decide) ?_
        refine Z_icmp_eq (tgt := 32) dX0_mostPaid_22 (by decide) (fun h22 => ?_) (fun h22 => ?_)
        · skip
          refine Z_iconst (v := 0) dX0_mostPaid_32 (by decide) ?_
          refine Z_istore_n (L' := [_, _, _, _, _]) dX0_mostPaid_33 rfl (by decide) rfl rfl ?_
          refine Z_iconst (v := 0) dX0_mostPaid_34 (by decide) ?_
          refine Z_istore (L' := [_, _, _, _, _]) dX0_mostPaid_35 (by decide) rfl rfl ?_
          exact lp 3 0 rfl α hw hc hm frI.rf
        · skip
          exact absurd rfl h22
      · skip
        exact absurd h4 (fun z => hp (by simp only [Int32.lt_iff_toInt_lt, Int32.le_iff_toInt_le] at *; omega))
    · skip
      refine Z_aload_n dX0_mostPaid_0 rfl rfl ?_
      refine Z_getIv dX0_mostPaid_1 cl_0 fl_X0_47_0 rfl ha.1 hc.2 ?_
      refine Z_if_gt (tgt := 9) dX0_mostPaid_4 (by decide) (fun h4 => ?_) (fun h4 => ?_)
      · skip
        refine Z_aload_n dX0_mostPaid_9 rfl rfl ?_
        refine Z_iload_n dX0_mostPaid_10 rfl rfl ?_
        refine Z_V1z (ci := 0) dX0_mostPaid_11 to_X0_place lk_X0_78 iv_X0_place ⟨rfl, rfl⟩ ha.1 (Nat.le_of_ble_eq_true rfl) ⟨rfl, rfl⟩ ⟨by decide, by decide⟩ ?_
        refine k_place hw hc hq ?_
        refine Z_istore_n (L' := [_, _, _, _, _]) dX0_mostPaid_14 rfl (by decide) rfl rfl ?_
        refine Z_aload_n dX0_mostPaid_15 rfl rfl ?_
        refine Z_getR dX0_mostPaid_16 cl_0 fl_X0_35_0 rfl ha.1 ha.2.2.2.2.2.1 ?_
        refine Z_iload_n dX0_mostPaid_19 rfl rfl ?_
        refine Z_ialdv dX0_mostPaid_20 ha.2.2.2.2.2.2.2.2.2.2 (zix_nI (cq_lt hq) (by decide)) mm ?_
        refine Z_iconst (v := -1) dX0_mostPaid_21 (by decide) ?_
        refine Z_icmp_eq (tgt := 32) dX0_mostPaid_22 (by decide) (fun h22 => ?_) (fun h22 => ?_)
        · skip
          exact absurd h22 (nI_nm1 (by omega))
        · skip
          refine Z_aload_n dX0_mostPaid_25 rfl rfl ?_
          refine Z_getR dX0_mostPaid_26 cl_0 fl_X0_35_0 rfl ha.1 ha.2.2.2.2.2.1 ?_
          refine Z_iload_n dX0_mostPaid_29 rfl rfl ?_
          refine Z_ialdv dX0_mostPaid_30 ha.2.2.2.2.2.2.2.2.2.2 (zix_nI (cq_lt hq) (by decide)) mm ?_
          refine Z_iret dX0_mostPaid_31 rfl rfl ⟨by decide, by decide⟩ ?_
          exact h α hw hc hm frI.rf
      · skip
        exact absurd h4 (fun z => hp (by simp only [Int32.lt_iff_toInt_lt, Int32.le_iff_toInt_le] at *; omega))
theorem cMost_all : ∀ n, cMost G Γ A a T b t d n
  | 0 => st_most' (fun m h => by cases h)
  | n + 1 => st_most' (fun m h => by cases h; exact st_mostOn (cMost_all n))
theorem k_mostPaid {q : Nat} (hw : cLk Γ A a T b t α) (hc : cAt a α q) (hq : q < 5832) (hT : zla q ≤ T) (hm : cOw α (zmost (zbc b t (zcn A.1 T)) (sp_pay A.1.1))) (h : ∀ β, cLk Γ A a T b t β → cAt a β q → frI (Fo a) α β → post (some (.int (nI (zmost (zbc b t (zcn A.1 T)) (sp_pay A.1.1) q)))) β) : ZK G (d + 34) mX0_mostPaid [.ref (G.1 + a), .int (nI (cgs q))] α post := by
  have hla := zla_le hq
  have := cMost_all (G := G) (Γ := Γ) (A := A) (a := a) (T := T) (b := b) (t := t) (d := d + 2 * (15 - zla q)) (zla q) q α post hq rfl hT hw hc hm (fun β h1 h2 _ h4 => h β h1 h2 h4)
  rw [show d + 2 * (15 - zla q) + 2 * zla q + 4 = d + 34 by omega] at this
  exact this
end CM1
