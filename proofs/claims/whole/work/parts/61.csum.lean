section CS1
variable {G : ZG} {d : Nat} {α β : AH} {post : Option Value → AH → Prop} {Γ : Nat → VC} {A : ZA} {a T : Nat} {b t : Int32}
theorem nI_max {x y : Nat} (hx : x < 2 ^ 31) (hy : y < 2 ^ 31) : (if nI x < nI y then nI y else nI x) = nI (if x < y then y else x) := by
  by_cases h : x < y
  · rw [if_pos (nI_lt h hy), if_pos h]
  · rw [if_neg (fun z => h ((nI_ltI hx hy).mp z)), if_neg h]
def cBest (G : ZG) (Γ : Nat → VC) (A : ZA) (a T : Nat) (b t : Int32) (d n : Nat) : Prop := ∀ (q : Nat) (α : AH) (post : Option Value → AH → Prop), q < 5832 → zla q = n → n ≤ T → cLk Γ A a T b t α → cAt a α q → (∀ β, cLk Γ A a T b t β → cAt a β q → frI (Fk a) α β → post (some (.int (nI (zbest (zbc b t (zcn A.1 T)) (sp_pay A.1.1) q)))) β) → ZK G (d + 3 * n + 4) mX0_bestSum [.ref (G.1 + a), .int (nI (cgs q))] α post
def cWorth (G : ZG) (Γ : Nat → VC) (A : ZA) (a T : Nat) (b t : Int32) (d n : Nat) : Prop := ∀ (q k : Nat) (α : AH) (post : Option Value → AH → Prop), q < 5832 → k < 3 → zg q k < 2 → zla q = n → n ≤ T → cLk Γ A a T b t α → cAt a α q → (∀ β, cLk Γ A a T b t β → cAt a β q → frI (Fk a) α β → post (some (.int (nI (zval (zbest (zbc b t (zcn A.1 T)) (sp_pay A.1.1)) (sp_pay A.1.1) q k)))) β) → ZK G (d + 3 * n + 5) mX0_worth [.ref (G.1 + a), .int (nI k), .int (nI (cgs q))] α post
def cBestOn (G : ZG) (Γ : Nat → VC) (A : ZA) (a T : Nat) (b t : Int32) (d n : Nat) : Prop := ∀ (q s : Nat) (α : AH) (post : Option Value → AH → Prop), q < 5832 → s < 3 → zla q = n → n < 15 → n + 1 ≤ T → cLk Γ A a T b t α → cAt a α q → (∀ β, cLk Γ A a T b t β → cAt a β q → frI (Fk a) α β → post (some (.int (nI (zOn (zbest (zbc b t (zcn A.1 T)) (sp_pay A.1.1)) (zbc b t (zcn A.1 T)) (sp_pay A.1.1) q s).1))) β) → ZK G (d + 3 * n + 6) mX0_bestOn [.ref (G.1 + a), .int (nI s), .int (nI (cgs q))] α post
theorem cAt.la {q : Nat} (hc : cAt a α q) (q' : Nat) (h : ∀ j, zl q' j = zl q j) : cAt a α q' := by
  refine ⟨fun j hj => by rw [h j]; exact hc.1 j hj, ?_⟩
  unfold zla
  rw [h, h, h]
  exact hc.2
theorem frI.kl4 (hf : frI (Ft a) α β) : frI (Fk a) α β := hf.mono (fun k hk => by unfold Ft at hk; unfold Fk; omega)
theorem ZK.dep {d' : Nat} {M : ZM} {av : List Value} (e : d' = d) (h : ZK G d' M av α post) : ZK G d M av α post := e ▸ h
theorem st_worth {n : Nat} (hB : cBest G Γ A a T b t d n) : cWorth G Γ A a T b t d n := by
  intro q k α post hq hk hg hn hnT hw hc h
  have ha := hw.get.1
  have ok := zdo_ok hq hk hg
  have hc' : cAt a α (zdo q k) := hc.la _ ok.2.1
  refine ZK.of (n := 0) (by decide) (Nat.le_of_ble_eq_true rfl) rfl ?_
  refine Z_aload_n dX0_worth_0 rfl rfl ?_
  refine Z_iload_n dX0_worth_1 rfl rfl ?_
  refine Z_iload_n dX0_worth_2 rfl rfl ?_
  refine Z_V2z (ci := 0) dX0_worth_3 to_X0_paidOn lk_X0_110 iv_X0_paidOn ⟨rfl, rfl⟩ ha.1 (Nat.le_of_ble_eq_true rfl) ⟨rfl, rfl⟩ ⟨by decide, by decide⟩ ?_
  refine k_paidOn hw hc hq (by omega) ?_
  refine Z_aload_n dX0_worth_6 rfl rfl ?_
  refine Z_iload_n dX0_worth_7 rfl rfl ?_
  refine Z_iload_n dX0_worth_8 rfl rfl ?_
  refine Z_S2z dX0_worth_9 to_X11_after lk_X0_113 sc_X11_after (Nat.le_of_ble_eq_true rfl) ⟨rfl, rfl⟩ ⟨by decide, by decide⟩ ?_
  refine k_after (by omega) ?_
  rw [cgs_do hq (by omega) (fun _ => hg), show zdw q k = zdo q k from if_neg (by omega)]
  refine Z_V1z (ci := 0) dX0_worth_12 to_X0_bestSum lk_X0_95 iv_X0_bestSum ⟨rfl, rfl⟩ ha.1 (Nat.le_of_ble_eq_true rfl) ⟨rfl, rfl⟩ ⟨by decide, by decide⟩ ?_
  refine hB _ _ _ ok.1 (by rw [zdo_la hq hk hg]; exact hn) hnT hw hc' (fun β hw1 hc1 hf1 => ?_)
  refine Z_iadd dX0_worth_15 ?_
  refine Z_iret dX0_worth_16 rfl rfl ⟨by decide, by decide⟩ ?_
  rw [nI_add]; exact h β hw1 (hc1.la _ (fun j => (ok.2.1 j).symm)) hf1
theorem lp_cbestOn {n q s : Nat} (hB : cWorth G Γ A a T b t d n) (hq : q < 5832) (hs : s < 3) (hn : zla q = n) (hnT : n + 1 ≤ T)
    (h : ∀ β, cLk Γ A a T b t β → cAt a β q → frI (Fk a) α β → post (some (.int (nI (zOn (zbest (zbc b t (zcn A.1 T)) (sp_pay A.1.1)) (zbc b t (zcn A.1 T)) (sp_pay A.1.1) q s).1))) β) :
    ∀ (j k : Nat), k + j = 3 → ∀ (β : AH), cLk Γ A a T b t β → cAt a β q → frI (Fk a) α β → Z G mX0_bestOn (d + 3 * n + 6) 17 [some (.ref (G.1 + a)), some (.int (nI s)), some (.int (nI (cgs q))), some (.int (nI (zcb (zbc b t (zcn A.1 T)) q s))), some (.int (nI (zfold (zbest (zbc b t (zcn A.1 T)) (sp_pay A.1.1)) (zbc b t (zcn A.1 T)) (sp_pay A.1.1) q s k).1)), some (.int (nI k))] [] β (0, 0) post := by
  intro j
  induction j with
  | zero =>
    intro k hk β hw hc hf
    have hk : k = 3 := by omega
    subst hk
    rw [zfold3]
    refine Z_iload dX0_bestOn_17 rfl ?_
    refine Z_iconst (v := 3) dX0_bestOn_19 (by decide) ?_
    refine Z_icmp_ge (tgt := 52) dX0_bestOn_20 (by decide) (fun h20 => ?_) (fun h20 => ?_)
    · skip
      refine Z_iload dX0_bestOn_52 rfl ?_
      refine Z_iret dX0_bestOn_54 rfl rfl ⟨by decide, by decide⟩ ?_
      exact h _ hw hc hf
    · skip
      exact absurd (by decide) h20
  | succ j ih =>
    intro k hk β hw hc hf
    have ha := hw.get.1
    have hp := sp_pay_le hw.1.2.2.1
    have hfl := zfold_lt (cn := zbc b t (zcn A.1 T)) hp (s := s) hq k (by omega)
    have nx : ∀ (γ : AH) (p : Nat), cLk Γ A a T b t γ → cAt a γ q → frI (Fk a) α γ → p = (zfold (zbest (zbc b t (zcn A.1 T)) (sp_pay A.1.1)) (zbc b t (zcn A.1 T)) (sp_pay A.1.1) q s (k + 1)).1 → Z G mX0_bestOn (d + 3 * n + 6) 46 [some (.ref (G.1 + a)), some (.int (nI s)), some (.int (nI (cgs q))), some (.int (nI (zcb (zbc b t (zcn A.1 T)) q s))), some (.int (nI p)), some (.int (nI k))] [] γ (0, 0) post := by
      intro γ p hw1 hc1 hf1 ep
      subst ep
      refine Z_iinc (L' := [_, _, _, _, _, _]) dX0_bestOn_46 rfl (by rfl : _ + Int32.ofInt 1 = _ + 1) (by decide) rfl rfl ?_
      refine Z_goto (tgt := 17) dX0_bestOn_49 (by decide) ?_
      rw [nI_1]
      exact ih (k + 1) (by omega) γ hw1 hc1 hf1
    have efo : zfold (zbest (zbc b t (zcn A.1 T)) (sp_pay A.1.1)) (zbc b t (zcn A.1 T)) (sp_pay A.1.1) q s (k + 1) = zstp (zbest (zbc b t (zcn A.1 T)) (sp_pay A.1.1)) (zbc b t (zcn A.1 T)) (sp_pay A.1.1) q s k (zfold (zbest (zbc b t (zcn A.1 T)) (sp_pay A.1.1)) (zbc b t (zcn A.1 T)) (sp_pay A.1.1) q s k) := rfl
    rw [efo] at nx
    generalize zfold (zbest (zbc b t (zcn A.1 T)) (sp_pay A.1.1)) (zbc b t (zcn A.1 T)) (sp_pay A.1.1) q s k = p at *
    refine Z_iload dX0_bestOn_17 rfl ?_
    refine Z_iconst (v := 3) dX0_bestOn_19 (by decide) ?_
    refine Z_icmp_ge (tgt := 52) dX0_bestOn_20 (by decide) (fun h20 => ?_) (fun h20 => ?_)
    · skip
      exact absurd h20 (nI_ge (a := k) (b := 3) (by omega) (by omega))
    · skip
      refine Z_iload_n dX0_bestOn_23 rfl rfl ?_
      refine Z_iload dX0_bestOn_24 rfl ?_
      refine Z_S2z dX0_bestOn_26 to_X11_isIn lk_X0_98 sc_X11_isIn (Nat.le_of_ble_eq_true rfl) ⟨rfl, rfl⟩ ⟨by decide, by decide⟩ ?_
      refine k_isIn zcb_lt (by omega) ?_
      rw [zcb_in (by omega)]
      refine Z_if_eq (tgt := 46) dX0_bestOn_29 (by decide) (fun h29 => ?_) (fun h29 => ?_)
      · skip
        first
          | (have hcan : zcan (zbc b t (zcn A.1 T)) q s k = false := b2i_eq.mp h29
             exact nx _ _ hw hc hf (by unfold zstp; rw [hcan]; rfl))
          | (refine nx _ _ hw1 hc1 (hf.tr hf1) ?_
             unfold zstp
             rw [if_pos hcan]
             by_cases z : p.1 < zval (zbest (zbc b t (zcn A.1 T)) (sp_pay A.1.1)) (sp_pay A.1.1) q k
             · rw [if_pos z, if_pos z]
             · rw [if_neg z, if_neg z])
      · skip
        have hcan : zcan (zbc b t (zcn A.1 T)) q s k = true := b2i_ne.mp h29
        have hg := zcan_g hcan
        have hvl := zval_lt (cn := zbc b t (zcn A.1 T)) hp hq (show k < 3 by omega) hg
        refine Z_iload dX0_bestOn_32 rfl ?_
        refine Z_aload_n dX0_bestOn_34 rfl rfl ?_
        refine Z_iload dX0_bestOn_35 rfl ?_
        refine Z_iload_n dX0_bestOn_37 rfl rfl ?_
        refine Z_V2z (ci := 0) dX0_bestOn_38 to_X0_worth lk_X0_102 iv_X0_worth ⟨rfl, rfl⟩ ha.1 (Nat.le_of_ble_eq_true rfl) ⟨rfl, rfl⟩ ⟨by decide, by decide⟩ ?_
        refine hB _ _ _ _ hq (by omega) hg hn (by omega) hw hc (fun γ hw1 hc1 hf1 => ?_)
        refine Z_mmax dX0_bestOn_41 wd_658 mw_max.1 mw_max.2.1 mw_max.2.2 (Nat.le_of_ble_eq_true rfl) ⟨by decide, by decide⟩ ?_
        rw [nI_max (by omega) (by omega)]
        refine Z_istore (L' := [_, _, _, _, _, _]) dX0_bestOn_44 (by decide) rfl rfl ?_
        first
          | (have hcan : zcan (zbc b t (zcn A.1 T)) q s k = false := b2i_eq.mp h29
             exact nx _ _ hw hc hf (by unfold zstp; rw [hcan]; rfl))
          | (refine nx _ _ hw1 hc1 (hf.tr hf1) ?_
             unfold zstp
             rw [if_pos hcan]
             by_cases z : p.1 < zval (zbest (zbc b t (zcn A.1 T)) (sp_pay A.1.1)) (sp_pay A.1.1) q k
             · rw [if_pos z, if_pos z]
             · rw [if_neg z, if_neg z])
theorem st_cbestOn {n : Nat} (hB : cBest G Γ A a T b t d n) (hB1 : cBest G Γ A a T b t (d + 1) n) : cBestOn G Γ A a T b t d n := by
  intro q s α post hq hs hn h15 hnT hw hc h
  have ha := hw.get.1
  refine ZK.of (n := 3) (by decide) (Nat.le_of_ble_eq_true rfl) rfl ?_
  refine Z_aload_n dX0_bestOn_0 rfl rfl ?_
  refine Z_iload_n dX0_bestOn_1 rfl rfl ?_
  refine Z_iload_n dX0_bestOn_2 rfl rfl ?_
  refine Z_V2z (ci := 0) dX0_bestOn_3 to_X0_cans lk_X0_92 iv_X0_cans ⟨rfl, rfl⟩ ha.1 (Nat.le_of_ble_eq_true rfl) ⟨rfl, rfl⟩ ⟨by decide, by decide⟩ ?_
  refine k_cans hw hc hq hs (by omega) (by omega) (fun β hw1 hc1 hf1 => ?_)
  have ha := hw1.get.1
  refine Z_istore_n (L' := [_, _, _, _, _, _]) dX0_bestOn_6 rfl (by decide) rfl rfl ?_
  refine Z_aload_n dX0_bestOn_7 rfl rfl ?_
  refine Z_iload_n dX0_bestOn_8 rfl rfl ?_
  refine Z_V1z (ci := 0) dX0_bestOn_9 to_X0_bestSum lk_X0_95 iv_X0_bestSum ⟨rfl, rfl⟩ ha.1 (Nat.le_of_ble_eq_true rfl) ⟨rfl, rfl⟩ ⟨by decide, by decide⟩ ?_
  refine ZK.dep (show d + 1 + 3 * n + 4 = _ by omega) (hB1 _ _ _ hq hn (by omega) hw1 hc1 (fun γ hw2 hc2 hf2 => ?_))
  refine Z_istore (L' := [_, _, _, _, _, _]) dX0_bestOn_12 (by decide) rfl rfl ?_
  refine Z_iconst (v := 0) dX0_bestOn_14 (by decide) ?_
  refine Z_istore (L' := [_, _, _, _, _, _]) dX0_bestOn_15 (by decide) rfl rfl ?_
  exact lp_cbestOn (st_worth hB) hq hs hn hnT h 3 0 rfl γ hw2 hc2 (hf1.tr hf2)
theorem lp_cbest {n q : Nat} (hO : ∀ m, n = m + 1 → cBestOn G Γ A a T b t d m) (hq : q < 5832) (hn : zla q = n) (hnT : n ≤ T)
    (h : ∀ β, cLk Γ A a T b t β → cAt a β q → frI (Fk a) α β → post (some (.int (nI (zbest (zbc b t (zcn A.1 T)) (sp_pay A.1.1) q)))) β) :
    ∀ (j s : Nat), s + j = 3 → ∀ (β : AH), cLk Γ A a T b t β → cAt a β q → frI (Fk a) α β → Z G mX0_bestSum (d + 3 * n + 4) 37 [some (.ref (G.1 + a)), some (.int (nI (cgs q))), some (.int (nI (cq q))), some (.int (nI (zpart (fun s => (zOn (zbest (zbc b t (zcn A.1 T)) (sp_pay A.1.1)) (zbc b t (zcn A.1 T)) (sp_pay A.1.1) (zd q s) s).1) q s))), some (.int (nI s))] [] β (0, 0) post := by
  intro j
  induction j with
  | zero =>
    intro s hs β hw hc hf
    have hs : s = 3 := by omega
    subst hs
    have ha := hw.get.1
    rw [zpart3, ← zbest_eq hq]
    refine Z_iload dX0_bestSum_37 rfl ?_
    refine Z_iconst (v := 3) dX0_bestSum_39 (by decide) ?_
    refine Z_icmp_ge (tgt := 81) dX0_bestSum_40 (by decide) (fun h40 => ?_) (fun h40 => ?_)
    · skip
      refine Z_aload_n dX0_bestSum_81 rfl rfl ?_
      refine Z_getR dX0_bestSum_82 cl_0 fl_X0_28_0 rfl ha.1 ha.2.2.2.2.1 ?_
      refine Z_iload_n dX0_bestSum_85 rfl rfl ?_
      refine Z_iload_n dX0_bestSum_86 rfl rfl ?_
      refine Z_iast dX0_bestSum_87 ha.2.2.2.2.2.2.2.2.2.1 (zix_nI (cq_lt hq) (by decide)) ?_
      refine Z_iload_n dX0_bestSum_88 rfl rfl ?_
      refine Z_iret dX0_bestSum_89 rfl rfl ⟨by decide, by decide⟩ ?_
      have f1 : frI (fun k => k = a + 2 ∨ k = a + 3 ∨ k = a + 4 ∨ k = 4) β (sI β (a + 4) (cq q) (nI (zbest (zbc b t (zcn A.1 T)) (sp_pay A.1.1) q))) := frI.sI (by omega)
      exact h _ (hw.best hq) (hc.mv f1 hw.2.1) (hf.tr (frI.sI (by unfold Fk; omega)))
    · skip
      exact absurd (by decide) h40
  | succ j ih =>
    intro s hs β hw hc hf
    have ha := hw.get.1
    have hl := zl_le (s := s) hq
    have cs := hc.1 s (by omega)
    refine Z_iload dX0_bestSum_37 rfl ?_
    refine Z_iconst (v := 3) dX0_bestSum_39 (by decide) ?_
    refine Z_icmp_ge (tgt := 81) dX0_bestSum_40 (by decide) (fun h40 => ?_) (fun h40 => ?_)
    · skip
      exact absurd h40 (nI_ge (a := s) (b := 3) (by omega) (by omega))
    · skip
      refine Z_aload_n dX0_bestSum_43 rfl rfl ?_
      refine Z_getR dX0_bestSum_44 cl_0 fl_X0_9_0 rfl ha.1 ha.2.1 ?_
      refine Z_iload dX0_bestSum_47 rfl ?_
      refine Z_ialdv dX0_bestSum_49 ha.2.2.2.2.2.2.1 (zix_nI (m := s) (by omega) (by decide)) cs ?_
      refine Z_if_le (tgt := 75) dX0_bestSum_50 (by decide) (fun h50 => ?_) (fun h50 => ?_)
      · skip
        refine Z_iinc (L' := [_, _, _, _, _]) dX0_bestSum_75 rfl (by rfl : _ + Int32.ofInt 1 = _ + 1) (by decide) rfl rfl ?_
        refine Z_goto (tgt := 37) dX0_bestSum_78 (by decide) ?_
        rw [nI_1]
        first
          | (have := ih (s + 1) (by omega) ε hw3 hc3 (hf.tr ((hf1.kl4.tr hf2).tr hf3.kl4))
             rw [show zpart (fun s => (zOn (zbest (zbc b t (zcn A.1 T)) (sp_pay A.1.1)) (zbc b t (zcn A.1 T)) (sp_pay A.1.1) (zd q s) s).1) q (s + 1) = zpart (fun s => (zOn (zbest (zbc b t (zcn A.1 T)) (sp_pay A.1.1)) (zbc b t (zcn A.1 T)) (sp_pay A.1.1) (zd q s) s).1) q s + (zOn (zbest (zbc b t (zcn A.1 T)) (sp_pay A.1.1)) (zbc b t (zcn A.1 T)) (sp_pay A.1.1) (zd q s) s).1 from congrArg (fun z => zpart (fun s => (zOn (zbest (zbc b t (zcn A.1 T)) (sp_pay A.1.1)) (zbc b t (zcn A.1 T)) (sp_pay A.1.1) (zd q s) s).1) q s + z) (if_pos hp)] at this
             exact this)
          | (have := ih (s + 1) (by omega) β hw hc hf
             rw [show zpart (fun s => (zOn (zbest (zbc b t (zcn A.1 T)) (sp_pay A.1.1)) (zbc b t (zcn A.1 T)) (sp_pay A.1.1) (zd q s) s).1) q (s + 1) = zpart (fun s => (zOn (zbest (zbc b t (zcn A.1 T)) (sp_pay A.1.1)) (zbc b t (zcn A.1 T)) (sp_pay A.1.1) (zd q s) s).1) q s + 0 from congrArg (fun z => zpart (fun s => (zOn (zbest (zbc b t (zcn A.1 T)) (sp_pay A.1.1)) (zbc b t (zcn A.1 T)) (sp_pay A.1.1) (zd q s) s).1) q s + z) (if_neg (fun z => by have := nI_nle z (by omega); exact this h50))] at this
             exact this)
      · skip
        have hp := nI_pos0 (by omega) h50
        have ok := zd_ok hq (show s < 3 by omega) hp
        obtain ⟨m, em⟩ : ∃ m, n = m + 1 := ⟨n - 1, by omega⟩
        subst em
        rw [show d + 3 * (m + 1) + 4 = d + 3 * m + 6 + 1 by omega] at ih ⊢
        have em2 : zla (zd q s) = m := by omega
        have hl15 := zla_le hq
        refine Z_aload_n dX0_bestSum_53 rfl rfl ?_
        refine Z_iload dX0_bestSum_54 rfl ?_
        refine Z_V1z (ci := 0) dX0_bestSum_56 to_X0_take lk_X0_82 iv_X0_take ⟨rfl, rfl⟩ ha.1 (Nat.le_of_ble_eq_true rfl) ⟨rfl, rfl⟩ ⟨by decide, by decide⟩ ?_
        refine k_take hw hc hq (by omega) hp (fun γ hw1 hc1 hf1 => ?_)
        have ha := hw1.get.1
        refine Z_iload_n dX0_bestSum_59 rfl rfl ?_
        refine Z_aload_n dX0_bestSum_60 rfl rfl ?_
        refine Z_iload dX0_bestSum_61 rfl ?_
        refine Z_iload_n dX0_bestSum_63 rfl rfl ?_
        refine Z_V2z (ci := 0) dX0_bestSum_64 to_X0_bestOn lk_X0_86 iv_X0_bestOn ⟨rfl, rfl⟩ ha.1 (Nat.le_of_ble_eq_true rfl) ⟨rfl, rfl⟩ ⟨by decide, by decide⟩ ?_
        rw [← cgs_zd hq (show s < 3 by omega) hp]
        refine hO m rfl _ _ _ _ ok.2.1 (by omega) em2 (by omega) (by omega) hw1 hc1 (fun δ hw2 hc2 hf2 => ?_)
        rw [cgs_zd hq (show s < 3 by omega) hp]
        have ha := hw2.get.1
        refine Z_iadd dX0_bestSum_67 ?_
        rw [nI_add]
        refine Z_istore_n (L' := [_, _, _, _, _]) dX0_bestSum_68 rfl (by decide) rfl rfl ?_
        refine Z_aload_n dX0_bestSum_69 rfl rfl ?_
        refine Z_iload dX0_bestSum_70 rfl ?_
        refine Z_V1z (ci := 0) dX0_bestSum_72 to_X0_back lk_X0_89 iv_X0_back ⟨rfl, rfl⟩ ha.1 (Nat.le_of_ble_eq_true rfl) ⟨rfl, rfl⟩ ⟨by decide, by decide⟩ ?_
        refine k_back hw2 hc2 hq (by omega) hp (fun ε hw3 hc3 hf3 => ?_)
        have ha := hw3.get.1
        refine Z_iinc (L' := [_, _, _, _, _]) dX0_bestSum_75 rfl (by rfl : _ + Int32.ofInt 1 = _ + 1) (by decide) rfl rfl ?_
        refine Z_goto (tgt := 37) dX0_bestSum_78 (by decide) ?_
        rw [nI_1]
        first
          | (have := ih (s + 1) (by omega) ε hw3 hc3 (hf.tr ((hf1.kl4.tr hf2).tr hf3.kl4))
             rw [show zpart (fun s => (zOn (zbest (zbc b t (zcn A.1 T)) (sp_pay A.1.1)) (zbc b t (zcn A.1 T)) (sp_pay A.1.1) (zd q s) s).1) q (s + 1) = zpart (fun s => (zOn (zbest (zbc b t (zcn A.1 T)) (sp_pay A.1.1)) (zbc b t (zcn A.1 T)) (sp_pay A.1.1) (zd q s) s).1) q s + (zOn (zbest (zbc b t (zcn A.1 T)) (sp_pay A.1.1)) (zbc b t (zcn A.1 T)) (sp_pay A.1.1) (zd q s) s).1 from congrArg (fun z => zpart (fun s => (zOn (zbest (zbc b t (zcn A.1 T)) (sp_pay A.1.1)) (zbc b t (zcn A.1 T)) (sp_pay A.1.1) (zd q s) s).1) q s + z) (if_pos hp)] at this
             exact this)
          | (have := ih (s + 1) (by omega) β hw hc hf
             rw [show zpart (fun s => (zOn (zbest (zbc b t (zcn A.1 T)) (sp_pay A.1.1)) (zbc b t (zcn A.1 T)) (sp_pay A.1.1) (zd q s) s).1) q (s + 1) = zpart (fun s => (zOn (zbest (zbc b t (zcn A.1 T)) (sp_pay A.1.1)) (zbc b t (zcn A.1 T)) (sp_pay A.1.1) (zd q s) s).1) q s + 0 from congrArg (fun z => zpart (fun s => (zOn (zbest (zbc b t (zcn A.1 T)) (sp_pay A.1.1)) (zbc b t (zcn A.1 T)) (sp_pay A.1.1) (zd q s) s).1) q s + z) (if_neg (fun z => by have := nI_nle z (by omega); exact this h50))] at this
             exact this)
theorem st_cbest {n : Nat} (hO : ∀ m, n = m + 1 → cBestOn G Γ A a T b t d m) : cBest G Γ A a T b t d n := by
  intro q α post hq hn hnT hw hc h
  have ha := hw.get.1
  have hl := zla_le hq
  refine ZK.of (n := 3) (by decide) (Nat.le_of_ble_eq_true rfl) rfl ?_
  by_cases h0 : n = 0
  · have e0 : zbest (zbc b t (zcn A.1 T)) (sp_pay A.1.1) q = 0 := by unfold zbest; rw [hn, h0]; rfl
    rw [e0] at h
    refine Z_aload_n dX0_bestSum_0 rfl rfl ?_
    refine Z_getIv dX0_bestSum_1 cl_0 fl_X0_47_0 rfl ha.1 hc.2 ?_
    refine Z_if_gt (tgt := 9) dX0_bestSum_4 (by decide) (fun h4 => ?_) (fun h4 => ?_)
    · skip
      exact absurd h4 (by rw [hn, h0]; decide)
    · skip
      refine Z_iconst (v := 0) dX0_bestSum_7 (by decide) ?_
      refine Z_iret dX0_bestSum_8 rfl rfl ⟨by decide, by decide⟩ ?_
      exact h α hw hc frI.rf
  · have hp : ¬ nI (zla q) ≤ 0 := nI_nle (by omega) (by omega)
    have mm := hw.memo hq
    have hlt := zbest_lt (cn := zbc b t (zcn A.1 T)) (sp_pay_le hw.1.2.2.1) hq
    rcases mm with mm | mm
    · skip
      refine Z_aload_n dX0_bestSum_0 rfl rfl ?_
      refine Z_getIv dX0_bestSum_1 cl_0 fl_X0_47_0 rfl ha.1 hc.2 ?_
      refine Z_if_gt (tgt := 9) dX0_bestSum_4 (by decide) (fun h4 => ?_) (fun h4 => ?_)
      · skip
        refine Z_aload_n dX0_bestSum_9 rfl rfl ?_
        refine Z_iload_n dX0_bestSum_10 rfl rfl ?_
        refine Z_V1z (ci := 0) dX0_bestSum_11 to_X0_place lk_X0_78 iv_X0_place ⟨rfl, rfl⟩ ha.1 (Nat.le_of_ble_eq_true rfl) ⟨rfl, rfl⟩ ⟨by decide, by decide⟩ ?_
        refine k_place hw hc hq ?_
        refine Z_istore_n (L' := [_, _, _, _, _]) dX0_bestSum_14 rfl (by decide) rfl rfl ?_
        refine Z_aload_n dX0_bestSum_15 rfl rfl ?_
        refine Z_getR dX0_bestSum_16 cl_0 fl_X0_28_0 rfl ha.1 ha.2.2.2.2.1 ?_
        refine Z_iload_n dX0_bestSum_19 rfl rfl ?_
        refine Z_ialdv dX0_bestSum_20 ha.2.2.2.2.2.2.2.2.2.1 (zix_nI (cq_lt hq) (by decide)) mm ?_
        refine Z_iconst (v := -1) dX0_bestSum_21 (by decide) ?_
        refine Z_icmp_eq (tgt := 32) dX0_bestSum_22 (by decide) (fun h22 => ?_) (fun h22 => ?_)
        · skip
          refine Z_iconst (v := 0) dX0_bestSum_32 (by decide) ?_
          refine Z_istore_n (L' := [_, _, _, _, _]) dX0_bestSum_33 rfl (by decide) rfl rfl ?_
          refine Z_iconst (v := 0) dX0_bestSum_34 (by decide) ?_
          refine Z_istore (L' := [_, _, _, _, _]) dX0_bestSum_35 (by decide) rfl rfl ?_
          exact lp_cbest hO hq hn hnT h 3 0 rfl α hw hc frI.rf
        · skip
          exact absurd rfl h22
      · skip
        exact absurd h4 (fun z => hp (by simp only [Int32.lt_iff_toInt_lt, Int32.le_iff_toInt_le] at *; omega))
    · skip
      refine Z_aload_n dX0_bestSum_0 rfl rfl ?_
      refine Z_getIv dX0_bestSum_1 cl_0 fl_X0_47_0 rfl ha.1 hc.2 ?_
      refine Z_if_gt (tgt := 9) dX0_bestSum_4 (by decide) (fun h4 => ?_) (fun h4 => ?_)
      · skip
        refine Z_aload_n dX0_bestSum_9 rfl rfl ?_
        refine Z_iload_n dX0_bestSum_10 rfl rfl ?_
        refine Z_V1z (ci := 0) dX0_bestSum_11 to_X0_place lk_X0_78 iv_X0_place ⟨rfl, rfl⟩ ha.1 (Nat.le_of_ble_eq_true rfl) ⟨rfl, rfl⟩ ⟨by decide, by decide⟩ ?_
        refine k_place hw hc hq ?_
        refine Z_istore_n (L' := [_, _, _, _, _]) dX0_bestSum_14 rfl (by decide) rfl rfl ?_
        refine Z_aload_n dX0_bestSum_15 rfl rfl ?_
        refine Z_getR dX0_bestSum_16 cl_0 fl_X0_28_0 rfl ha.1 ha.2.2.2.2.1 ?_
        refine Z_iload_n dX0_bestSum_19 rfl rfl ?_
        refine Z_ialdv dX0_bestSum_20 ha.2.2.2.2.2.2.2.2.2.1 (zix_nI (cq_lt hq) (by decide)) mm ?_
        refine Z_iconst (v := -1) dX0_bestSum_21 (by decide) ?_
        refine Z_icmp_eq (tgt := 32) dX0_bestSum_22 (by decide) (fun h22 => ?_) (fun h22 => ?_)
        · skip
          exact absurd h22 (nI_nm1 (by omega))
        · skip
          refine Z_aload_n dX0_bestSum_25 rfl rfl ?_
          refine Z_getR dX0_bestSum_26 cl_0 fl_X0_28_0 rfl ha.1 ha.2.2.2.2.1 ?_
          refine Z_iload_n dX0_bestSum_29 rfl rfl ?_
          refine Z_ialdv dX0_bestSum_30 ha.2.2.2.2.2.2.2.2.2.1 (zix_nI (cq_lt hq) (by decide)) mm ?_
          refine Z_iret dX0_bestSum_31 rfl rfl ⟨by decide, by decide⟩ ?_
          exact h α hw hc frI.rf
      · skip
        exact absurd h4 (fun z => hp (by simp only [Int32.lt_iff_toInt_lt, Int32.le_iff_toInt_le] at *; omega))
theorem cBest_all : ∀ n, (∀ d, cBest G Γ A a T b t d n) ∧ ∀ d, cBestOn G Γ A a T b t d n
  | 0 => by
    have h : ∀ d, cBest G Γ A a T b t d 0 := fun d => st_cbest (fun m h => by cases h)
    exact ⟨h, fun d => st_cbestOn (h d) (h (d + 1))⟩
  | n + 1 => by
    have h : ∀ d, cBest G Γ A a T b t d (n + 1) := fun d => st_cbest (fun m h => by cases h; exact (cBest_all n).2 d)
    exact ⟨h, fun d => st_cbestOn (h d) (h (d + 1))⟩
theorem k_bestSum {q : Nat} (hw : cLk Γ A a T b t α) (hc : cAt a α q) (hq : q < 5832) (hT : zla q ≤ T) (h : ∀ β, cLk Γ A a T b t β → cAt a β q → frI (Fk a) α β → post (some (.int (nI (zbest (zbc b t (zcn A.1 T)) (sp_pay A.1.1) q)))) β) : ZK G (d + 49) mX0_bestSum [.ref (G.1 + a), .int (nI (cgs q))] α post := by
  have hla := zla_le hq
  have := ((cBest_all (G := G) (Γ := Γ) (A := A) (a := a) (T := T) (b := b) (t := t) (zla q)).1 (d + 3 * (15 - zla q))) q α post hq rfl hT hw hc h
  rw [show d + 3 * (15 - zla q) + 3 * zla q + 4 = d + 49 by omega] at this
  exact this
theorem k_worth {q k : Nat} (hw : cLk Γ A a T b t α) (hc : cAt a α q) (hq : q < 5832) (hk : k < 3) (hg : zg q k < 2) (hT : zla q ≤ T) (h : ∀ β, cLk Γ A a T b t β → cAt a β q → frI (Fk a) α β → post (some (.int (nI (zval (zbest (zbc b t (zcn A.1 T)) (sp_pay A.1.1)) (sp_pay A.1.1) q k)))) β) : ZK G (d + 50) mX0_worth [.ref (G.1 + a), .int (nI k), .int (nI (cgs q))] α post := by
  have hla := zla_le hq
  have := st_worth ((cBest_all (G := G) (Γ := Γ) (A := A) (a := a) (T := T) (b := b) (t := t) (zla q)).1 (d + 3 * (15 - zla q))) q k α post hq hk hg rfl hT hw hc h
  rw [show d + 3 * (15 - zla q) + 3 * zla q + 5 = d + 50 by omega] at this
  exact this
theorem k_bestOn {q s : Nat} (hw : cLk Γ A a T b t α) (hc : cAt a α q) (hq : q < 5832) (hs : s < 3) (h15 : zla q < 15) (hT : zla q + 1 ≤ T) (h : ∀ β, cLk Γ A a T b t β → cAt a β q → frI (Fk a) α β → post (some (.int (nI (zOn (zbest (zbc b t (zcn A.1 T)) (sp_pay A.1.1)) (zbc b t (zcn A.1 T)) (sp_pay A.1.1) q s).1))) β) : ZK G (d + 51) mX0_bestOn [.ref (G.1 + a), .int (nI s), .int (nI (cgs q))] α post := by
  have hla := zla_le hq
  have := ((cBest_all (G := G) (Γ := Γ) (A := A) (a := a) (T := T) (b := b) (t := t) (zla q)).2 (d + 3 * (15 - zla q))) q s α post hq hs rfl h15 hT hw hc h
  rw [show d + 3 * (15 - zla q) + 3 * zla q + 6 = d + 51 by omega] at this
  exact this
end CS1
