section MB2
variable {G : ZG} {d : Nat} {α β : AH} {post : Option Value → AH → Prop} {A : ZA} {t D R : Nat}
def zpart (f : Nat → Nat) (q : Nat) : Nat → Nat
  | 0 => 0
  | s + 1 => zpart f q s + (if 0 < zl q s then f s else 0)
theorem zpart3 (f : Nat → Nat) (q : Nat) : zpart f q 3 = zsum f q := by simp [zpart, zsum]
def zfold (B : Nat → Nat) (cn : ZCn) (pay : Nat → Nat) (q s : Nat) : Nat → Nat × Nat
  | 0 => (B q, 3)
  | k + 1 => zstp B cn pay q s k (zfold B cn pay q s k)
theorem zfold3 (B : Nat → Nat) (cn : ZCn) (pay : Nat → Nat) (q s : Nat) : zfold B cn pay q s 3 = zOn B cn pay q s := rfl
theorem sp_pay_le {σ : Nat → Nat} (h : SB σ) : ∀ k, k < 3 → sp_pay σ k ≤ 99 := by
  intro k hk
  have b4 : σ 4 ≤ 5 := h.at (by omega) rfl
  unfold sp_pay
  split
  · omega
  · exact h.at (by omega) (by rw [Nat.add_assoc]; exact zbd_pay (by omega))
theorem mLk.b42 {i : Nat} {x : Int32} (h : mLk A t D R α) : mLk A t D R (sI α 42 i x) := h.fr (F := fun k => k = 42) (frI.sI rfl) (by decide)
theorem mLk.put {q : Nat} (h : mLk A t D R α) : mLk A t D R (sJ (sI α 41 q (nI t)) 40 q (lN (zbest (zcn A.1 (D + R)) (sp_pay A.1.1) q))) := by
  obtain ⟨hr, ha, hc, hbm⟩ := h
  have hst : mStamp (sJ (sI α 41 q (nI t)) 40 q (lN (zbest (zcn A.1 (D + R)) (sp_pay A.1.1) q))) t := ha.1.sr (Or.inl rfl) (Nat.le_refl t)
  have e : ∀ k, k ≠ 41 → hI (sJ (sI α 41 q (nI t)) 40 q (lN (zbest (zcn A.1 (D + R)) (sp_pay A.1.1) q))) k = hI α k := fun k hk => sI_ne (α := α) hk
  refine ⟨hr.st (F := fun k => k = 40 ∨ k = 41) ((frI.sI (Or.inr rfl)).tr (frI.sJ (Or.inl rfl))) (by decide) hst (hr.tb ha.1), ⟨hst, by rw [e 34 (by decide)]; exact ha.2.1, by rw [e 34 (by decide)]; exact ha.2.2⟩, ?_, fun q' hq' e' => ?_⟩
  · unfold mCM; rw [e 39 (by decide)]; exact hc
  · rw [hJ_sJ]
    by_cases h : q' = q
    · rw [if_pos ⟨rfl, h⟩, h]
    · rw [if_neg (fun z => h z.2)]
      refine hbm q' hq' ?_
      have e2 : hI (sI α 41 q (nI t)) 41 q' = nI t := e'
      rw [hI_sI, if_neg (fun z => h z.2)] at e2
      exact e2
def mBest (G : ZG) (A : ZA) (t D R d n : Nat) : Prop := ∀ (q : Nat) (α : AH) (post : Option Value → AH → Prop), q < 5832 → zla q = n → n ≤ D + R → mLk A t D R α → (∀ β, mLk A t D R β → frI Fb α β → post (some (.long (lN (zbest (zcn A.1 (D + R)) (sp_pay A.1.1) q)))) β) → ZK G (d + 2 * n + 6) mX12_best [.ref (G.1 + 34), .int (nI q)] α post
def mBestOn (G : ZG) (A : ZA) (t D R d n : Nat) : Prop := ∀ (q s : Nat) (α : AH) (post : Option Value → AH → Prop), q < 5832 → s < 3 → zla q = n → n + 1 ≤ D + R → mLk A t D R α → (∀ β, mLk A t D R β → frI Fb α β → hI β 42 (3 * q + s) = nI (zOn (zbest (zcn A.1 (D + R)) (sp_pay A.1.1)) (zcn A.1 (D + R)) (sp_pay A.1.1) q s).2 → post (some (.long (lN (zOn (zbest (zcn A.1 (D + R)) (sp_pay A.1.1)) (zcn A.1 (D + R)) (sp_pay A.1.1) q s).1))) β) → ZK G (d + 2 * n + 7) mX12_bestOn [.ref (G.1 + 34), .int (nI q), .int (nI s)] α post
theorem zstp_bd {B : Nat → Nat} {cn : ZCn} {pay : Nat → Nat} {q s k : Nat} {p : Nat × Nat} (h : p.2 ≤ 3) (hk : k < 3) : (zstp B cn pay q s k p).2 ≤ 3 := by
  unfold zstp
  split
  · split
    · show k ≤ 3; omega
    · exact h
  · exact h
theorem zfold_bd {B : Nat → Nat} {cn : ZCn} {pay : Nat → Nat} {q s : Nat} : ∀ k, k ≤ 3 → (zfold B cn pay q s k).2 ≤ 3
  | 0, _ => Nat.le_refl 3
  | k + 1, h => zstp_bd (zfold_bd k (by omega)) (by omega)
theorem zfold_lt {cn : ZCn} {pay : Nat → Nat} (hp : ∀ k, k < 3 → pay k ≤ 99) {q s : Nat} (hq : q < 5832) : ∀ k, k ≤ 3 → (zfold (zbest cn pay) cn pay q s k).1 ≤ 299675376
  | 0, _ => Nat.le_trans (zbest_lt hp hq) (by decide)
  | k + 1, h => zstp_le (zfold_lt hp hq k (by omega)) (fun hc => zval_lt hp hq (by omega) (zcan_g hc))
theorem wI_nI {w : Nat} (h : w < 3) : wI w = nI w := if_neg (by omega)
theorem lp_bestOn {n q s : Nat} (hT2 : D + R < 500) (hB : mBest G A t D R d n) (hq : q < 5832) (hs : s < 3) (hn : zla q = n) (hnT : n + 1 ≤ D + R)
    (h : ∀ β, mLk A t D R β → frI Fb α β → hI β 42 (3 * q + s) = nI (zOn (zbest (zcn A.1 (D + R)) (sp_pay A.1.1)) (zcn A.1 (D + R)) (sp_pay A.1.1) q s).2 → post (some (.long (lN (zOn (zbest (zcn A.1 (D + R)) (sp_pay A.1.1)) (zcn A.1 (D + R)) (sp_pay A.1.1) q s).1))) β) :
    ∀ (j k : Nat), k + j = 3 → ∀ (β : AH), mLk A t D R β → frI Fb α β → Z G mX12_bestOn (d + 2 * n + 7) 12 [some (.ref (G.1 + 34)), some (.int (nI q)), some (.int (nI s)), some (.long (lN (zfold (zbest (zcn A.1 (D + R)) (sp_pay A.1.1)) (zcn A.1 (D + R)) (sp_pay A.1.1) q s k).1)), none, some (.int (nI (zfold (zbest (zcn A.1 (D + R)) (sp_pay A.1.1)) (zcn A.1 (D + R)) (sp_pay A.1.1) q s k).2)), some (.int (nI k)), none, none] [] β (0, 0) post := by
  intro j
  induction j with
  | zero =>
    intro k hk β hw hf
    have hk : k = 3 := by omega
    subst hk
    have hm := hw.1.mw
    have ei : 3 * nI q + nI s = nI (3 * q + s) := by rw [show (3 : Int32) = nI 3 from rfl, pk_mul, nI_add]
    rw [zfold3]
    refine Z_iload dX12_bestOn_12 rfl ?_
    refine Z_iconst (v := 3) dX12_bestOn_14 (by decide) ?_
    refine Z_icmp_ge (tgt := 91) dX12_bestOn_15 (by decide) (fun h15 => ?_) (fun h15 => ?_)
    · skip
      refine Z_aload_n dX12_bestOn_91 rfl rfl ?_
      refine Z_getR dX12_bestOn_92 cl_12 fl_X12_35_12 rfl (mw_i34 hm) (mw_p34_16 hm) ?_
      refine Z_iconst (v := 3) dX12_bestOn_95 (by decide) ?_
      refine Z_iload_n dX12_bestOn_96 rfl rfl ?_
      refine Z_imul dX12_bestOn_97 ?_
      refine Z_iload_n dX12_bestOn_98 rfl rfl ?_
      refine Z_iadd dX12_bestOn_99 ?_
      refine Z_iload dX12_bestOn_100 rfl ?_
      refine Z_iast dX12_bestOn_102 (mw_i42 hm) (zix_e (m := 3 * q + s) ei (by omega) (by decide)) ?_
      refine Z_lload_n dX12_bestOn_103 rfl rfl ?_
      refine Z_lret dX12_bestOn_104 rfl ⟨by decide, by decide⟩ ?_
      exact h _ hw.b42 (hf.tr (frI.sI (by unfold Fb; omega))) (by rw [hI_sI, if_pos ⟨rfl, rfl⟩])
    · skip
      exact absurd (by decide) h15
  | succ j ih =>
    intro k hk β hw hf
    have hm := hw.1.mw
    have hp := sp_pay_le hw.1.2.1
    have hfl := zfold_lt (cn := zcn A.1 (D + R)) hp (s := s) hq k (by omega)
    have next : ∀ (γ : AH) (x7 : Option Value) (p : Nat × Nat), mLk A t D R γ → frI Fb α γ → p = zfold (zbest (zcn A.1 (D + R)) (sp_pay A.1.1)) (zcn A.1 (D + R)) (sp_pay A.1.1) q s (k + 1) → Z G mX12_bestOn (d + 2 * n + 7) 85 [some (.ref (G.1 + 34)), some (.int (nI q)), some (.int (nI s)), some (.long (lN p.1)), none, some (.int (nI p.2)), some (.int (nI k)), x7, none] [] γ (0, 0) post := by
      intro γ x7 p hw1 hf1 ep
      subst ep
      refine Z_iinc (L' := [_, _, _, _, _, _, _, _, _]) dX12_bestOn_85 rfl (by rfl : _ + Int32.ofInt 1 = _ + 1) (by decide) rfl rfl ?_
      refine Z_goto (tgt := 12) dX12_bestOn_88 (by decide) ?_
      refine Z_less (L' := [some (.ref (G.1 + 34)), some (.int (nI q)), some (.int (nI s)), some (.long _), none, some (.int _), some (.int (nI k + 1)), none, none]) ⟨rfl, rfl, rfl, rfl, rfl, rfl, trivial⟩ ?_
      rw [nI_1]
      exact ih (k + 1) (by omega) γ hw1 hf1
    generalize hfo : zfold (zbest (zcn A.1 (D + R)) (sp_pay A.1.1)) (zcn A.1 (D + R)) (sp_pay A.1.1) q s k = p at hfl
    have efo : zfold (zbest (zcn A.1 (D + R)) (sp_pay A.1.1)) (zcn A.1 (D + R)) (sp_pay A.1.1) q s (k + 1) = zstp (zbest (zcn A.1 (D + R)) (sp_pay A.1.1)) (zcn A.1 (D + R)) (sp_pay A.1.1) q s k p := by rw [← hfo]; rfl
    rw [efo] at next
    refine Z_iload dX12_bestOn_12 rfl ?_
    refine Z_iconst (v := 3) dX12_bestOn_14 (by decide) ?_
    refine Z_icmp_ge (tgt := 91) dX12_bestOn_15 (by decide) (fun h15 => ?_) (fun h15 => ?_)
    · skip
      exact absurd h15 (nI_ge (a := k) (b := 3) (by omega) (by omega))
    · skip
      refine Z_aload_n dX12_bestOn_18 rfl rfl ?_
      refine Z_iload_n dX12_bestOn_19 rfl rfl ?_
      refine Z_iload_n dX12_bestOn_20 rfl rfl ?_
      refine Z_iload dX12_bestOn_21 rfl ?_
      refine Z_V3z (ci := 12) dX12_bestOn_23 to_X12_can lk_X12_206 iv_X12_can ⟨rfl, rfl⟩ (mw_i34 hm) (Nat.le_of_ble_eq_true rfl) ⟨rfl, rfl⟩ ⟨by decide, by decide⟩ ?_
      refine c_can hw hq hs (by omega) (by omega) hT2 (fun γ hw1 hf1 => ?_)
      have hm := hw1.1.mw
      have hf1 : frI Fb α γ := hf.tr (hf1.mono (fun k hk => by unfold Fb; omega))
      refine Z_if_eq (tgt := 85) dX12_bestOn_26 (by decide) (fun h26 => ?_) (fun h26 => ?_)
      · skip
        first
          | (have hcan : zcan (zcn A.1 (D + R)) q s k = false := b2i_eq.mp h26
             exact next _ _ p hw1 hf1 (by unfold zstp; rw [hcan]; rfl))
          | (have hlt : ¬ p.1 < zval (zbest (zcn A.1 (D + R)) (sp_pay A.1.1)) (sp_pay A.1.1) q k := fun z => by
               have := (pk_lLE (by omega) (by omega)).mp (lg_gt.mp h75)
               omega
             refine Z_less (L' := [some (.ref (G.1 + 34)), some (.int (nI q)), some (.int (nI s)), some (.long _), none, some (.int _), some (.int (nI k)), none, none]) ⟨rfl, rfl, rfl, rfl, rfl, rfl, trivial⟩ ?_
             exact next _ _ p hw2 hf2 (by unfold zstp; rw [if_pos hcan, if_neg hlt]))
          | (have hlt : p.1 < zval (zbest (zcn A.1 (D + R)) (sp_pay A.1.1)) (sp_pay A.1.1) q k := Nat.lt_of_not_le (fun z => h75 (lg_gt.mpr ((pk_lLE (by omega) (by omega)).mpr z)))
             refine Z_less (L' := [some (.ref (G.1 + 34)), some (.int (nI q)), some (.int (nI s)), some (.long _), none, some (.int _), some (.int (nI k)), none, none]) ⟨rfl, rfl, rfl, rfl, rfl, rfl, trivial⟩ ?_
             exact next _ _ (zval (zbest (zcn A.1 (D + R)) (sp_pay A.1.1)) (sp_pay A.1.1) q k, k) hw2 hf2 (by unfold zstp; rw [if_pos hcan, if_pos hlt]))
          | exact absurd h75 h59
          | exact absurd h59 h75
      · skip
        have hcan : zcan (zcn A.1 (D + R)) q s k = true := b2i_ne.mp h26
        have hg := zcan_g hcan
        have ok := zdo_ok hq (show k < 3 by omega) hg
        have hvl := zval_lt (cn := zcn A.1 (D + R)) hp hq (show k < 3 by omega) hg
        have hpl : zpays (sp_pay A.1.1) q k ≤ 99 := by
          have := hp k (by omega)
          unfold zpays
          split
          · omega
          · split <;> omega
        refine Z_iload_n dX12_bestOn_29 rfl rfl ?_
        refine Z_S1z dX12_bestOn_30 to_X12_ordersOf lk_X12_209 sc_X12_ordersOf (Nat.le_of_ble_eq_true rfl) ⟨rfl, rfl⟩ ⟨by decide, by decide⟩ ?_
        refine c_ordersOf hq ?_
        refine Z_aload_n dX12_bestOn_33 rfl rfl ?_
        refine Z_iload_n dX12_bestOn_34 rfl rfl ?_
        refine Z_iload dX12_bestOn_35 rfl ?_
        refine Z_V2z (ci := 12) dX12_bestOn_37 to_X12_pays lk_X12_212 iv_X12_pays ⟨rfl, rfl⟩ (mw_i34 hm) (Nat.le_of_ble_eq_true rfl) ⟨rfl, rfl⟩ ⟨by decide, by decide⟩ ?_
        rw [← wI_nI (w := k) (by omega)]
        refine c_pays hq (by omega) hw1.1 ?_
        rw [wI_nI (w := k) (by omega)]
        refine Z_i2l dX12_bestOn_40 ?_
        rw [nI_l (by omega)]
        refine Z_lmul dX12_bestOn_41 ?_
        rw [lN_mul]
        refine Z_aload_n dX12_bestOn_42 rfl rfl ?_
        refine Z_iload_n dX12_bestOn_43 rfl rfl ?_
        refine Z_iload dX12_bestOn_44 rfl ?_
        refine Z_S2z dX12_bestOn_46 to_X12_done lk_X12_215 sc_X12_done (Nat.le_of_ble_eq_true rfl) ⟨rfl, rfl⟩ ⟨by decide, by decide⟩ ?_
        rw [← wI_nI (w := k) (by omega)]
        refine c_done (by omega) ?_
        rw [wI_nI (w := k) (by omega), show zdw q k = zdo q k from if_neg (by omega)]
        refine Z_V1z (ci := 12) dX12_bestOn_49 to_X12_best lk_X12_202 iv_X12_best ⟨rfl, rfl⟩ (mw_i34 hm) (Nat.le_of_ble_eq_true rfl) ⟨rfl, rfl⟩ ⟨by decide, by decide⟩ ?_
        refine hB _ _ _ ok.1 (by rw [zdo_la hq (by omega) hg]; exact hn) (by omega) hw1 (fun δ hw2 hf2 => ?_)
        have hm := hw2.1.mw
        have hf2 : frI Fb α δ := hf1.tr hf2
        refine Z_ladd dX12_bestOn_52 ?_
        rw [lN_add, show zoq q * zpays (sp_pay A.1.1) q k + zbest (zcn A.1 (D + R)) (sp_pay A.1.1) (zdo q k) = zval (zbest (zcn A.1 (D + R)) (sp_pay A.1.1)) (sp_pay A.1.1) q k from rfl]
        refine Z_lstore (L' := [_, _, _, _, _, _, _, _, _]) dX12_bestOn_53 (by decide) rfl rfl ?_
        refine Z_lload dX12_bestOn_55 rfl ?_
        refine Z_lload_n dX12_bestOn_57 rfl rfl ?_
        refine Z_lcmp dX12_bestOn_58 ?_
        refine Z_if_le (tgt := 67) dX12_bestOn_59 (by decide) (fun h59 => ?_) (fun h59 => ?_)
        · skip
          refine Z_iload dX12_bestOn_67 rfl ?_
          refine Z_istore (L' := [_, _, _, _, _, _, _, _, _]) dX12_bestOn_69 (by decide) rfl rfl ?_
          refine Z_lload dX12_bestOn_71 rfl ?_
          refine Z_lload_n dX12_bestOn_73 rfl rfl ?_
          refine Z_lcmp dX12_bestOn_74 ?_
          refine Z_if_le (tgt := 83) dX12_bestOn_75 (by decide) (fun h75 => ?_) (fun h75 => ?_)
          · skip
            refine Z_lload_n dX12_bestOn_83 rfl rfl ?_
            refine Z_lstore_n (L' := [_, _, _, _, _, _, _, _, _]) dX12_bestOn_84 rfl (by decide) rfl rfl ?_
            first
              | (have hcan : zcan (zcn A.1 (D + R)) q s k = false := b2i_eq.mp h26
                 exact next _ _ p hw1 hf1 (by unfold zstp; rw [hcan]; rfl))
              | (have hlt : ¬ p.1 < zval (zbest (zcn A.1 (D + R)) (sp_pay A.1.1)) (sp_pay A.1.1) q k := fun z => by
                   have := (pk_lLE (by omega) (by omega)).mp (lg_gt.mp h75)
                   omega
                 refine Z_less (L' := [some (.ref (G.1 + 34)), some (.int (nI q)), some (.int (nI s)), some (.long _), none, some (.int _), some (.int (nI k)), none, none]) ⟨rfl, rfl, rfl, rfl, rfl, rfl, trivial⟩ ?_
                 exact next _ _ p hw2 hf2 (by unfold zstp; rw [if_pos hcan, if_neg hlt]))
              | (have hlt : p.1 < zval (zbest (zcn A.1 (D + R)) (sp_pay A.1.1)) (sp_pay A.1.1) q k := Nat.lt_of_not_le (fun z => h75 (lg_gt.mpr ((pk_lLE (by omega) (by omega)).mpr z)))
                 refine Z_less (L' := [some (.ref (G.1 + 34)), some (.int (nI q)), some (.int (nI s)), some (.long _), none, some (.int _), some (.int (nI k)), none, none]) ⟨rfl, rfl, rfl, rfl, rfl, rfl, trivial⟩ ?_
                 exact next _ _ (zval (zbest (zcn A.1 (D + R)) (sp_pay A.1.1)) (sp_pay A.1.1) q k, k) hw2 hf2 (by unfold zstp; rw [if_pos hcan, if_pos hlt]))
              | exact absurd h75 h59
              | exact absurd h59 h75
          · skip
            refine Z_lload dX12_bestOn_78 rfl ?_
            refine Z_goto (tgt := 84) dX12_bestOn_80 (by decide) ?_
            refine Z_lstore_n (L' := [_, _, _, _, _, _, _, _, _]) dX12_bestOn_84 rfl (by decide) rfl rfl ?_
            first
              | (have hcan : zcan (zcn A.1 (D + R)) q s k = false := b2i_eq.mp h26
                 exact next _ _ p hw1 hf1 (by unfold zstp; rw [hcan]; rfl))
              | (have hlt : ¬ p.1 < zval (zbest (zcn A.1 (D + R)) (sp_pay A.1.1)) (sp_pay A.1.1) q k := fun z => by
                   have := (pk_lLE (by omega) (by omega)).mp (lg_gt.mp h75)
                   omega
                 refine Z_less (L' := [some (.ref (G.1 + 34)), some (.int (nI q)), some (.int (nI s)), some (.long _), none, some (.int _), some (.int (nI k)), none, none]) ⟨rfl, rfl, rfl, rfl, rfl, rfl, trivial⟩ ?_
                 exact next _ _ p hw2 hf2 (by unfold zstp; rw [if_pos hcan, if_neg hlt]))
              | (have hlt : p.1 < zval (zbest (zcn A.1 (D + R)) (sp_pay A.1.1)) (sp_pay A.1.1) q k := Nat.lt_of_not_le (fun z => h75 (lg_gt.mpr ((pk_lLE (by omega) (by omega)).mpr z)))
                 refine Z_less (L' := [some (.ref (G.1 + 34)), some (.int (nI q)), some (.int (nI s)), some (.long _), none, some (.int _), some (.int (nI k)), none, none]) ⟨rfl, rfl, rfl, rfl, rfl, rfl, trivial⟩ ?_
                 exact next _ _ (zval (zbest (zcn A.1 (D + R)) (sp_pay A.1.1)) (sp_pay A.1.1) q k, k) hw2 hf2 (by unfold zstp; rw [if_pos hcan, if_pos hlt]))
              | exact absurd h75 h59
              | exact absurd h59 h75
        · skip
          refine Z_iload dX12_bestOn_62 rfl ?_
          refine Z_goto (tgt := 69) dX12_bestOn_64 (by decide) ?_
          refine Z_istore (L' := [_, _, _, _, _, _, _, _, _]) dX12_bestOn_69 (by decide) rfl rfl ?_
          refine Z_lload dX12_bestOn_71 rfl ?_
          refine Z_lload_n dX12_bestOn_73 rfl rfl ?_
          refine Z_lcmp dX12_bestOn_74 ?_
          refine Z_if_le (tgt := 83) dX12_bestOn_75 (by decide) (fun h75 => ?_) (fun h75 => ?_)
          · skip
            refine Z_lload_n dX12_bestOn_83 rfl rfl ?_
            refine Z_lstore_n (L' := [_, _, _, _, _, _, _, _, _]) dX12_bestOn_84 rfl (by decide) rfl rfl ?_
            first
              | (have hcan : zcan (zcn A.1 (D + R)) q s k = false := b2i_eq.mp h26
                 exact next _ _ p hw1 hf1 (by unfold zstp; rw [hcan]; rfl))
              | (have hlt : ¬ p.1 < zval (zbest (zcn A.1 (D + R)) (sp_pay A.1.1)) (sp_pay A.1.1) q k := fun z => by
                   have := (pk_lLE (by omega) (by omega)).mp (lg_gt.mp h75)
                   omega
                 refine Z_less (L' := [some (.ref (G.1 + 34)), some (.int (nI q)), some (.int (nI s)), some (.long _), none, some (.int _), some (.int (nI k)), none, none]) ⟨rfl, rfl, rfl, rfl, rfl, rfl, trivial⟩ ?_
                 exact next _ _ p hw2 hf2 (by unfold zstp; rw [if_pos hcan, if_neg hlt]))
              | (have hlt : p.1 < zval (zbest (zcn A.1 (D + R)) (sp_pay A.1.1)) (sp_pay A.1.1) q k := Nat.lt_of_not_le (fun z => h75 (lg_gt.mpr ((pk_lLE (by omega) (by omega)).mpr z)))
                 refine Z_less (L' := [some (.ref (G.1 + 34)), some (.int (nI q)), some (.int (nI s)), some (.long _), none, some (.int _), some (.int (nI k)), none, none]) ⟨rfl, rfl, rfl, rfl, rfl, rfl, trivial⟩ ?_
                 exact next _ _ (zval (zbest (zcn A.1 (D + R)) (sp_pay A.1.1)) (sp_pay A.1.1) q k, k) hw2 hf2 (by unfold zstp; rw [if_pos hcan, if_pos hlt]))
              | exact absurd h75 h59
              | exact absurd h59 h75
          · skip
            refine Z_lload dX12_bestOn_78 rfl ?_
            refine Z_goto (tgt := 84) dX12_bestOn_80 (by decide) ?_
            refine Z_lstore_n (L' := [_, _, _, _, _, _, _, _, _]) dX12_bestOn_84 rfl (by decide) rfl rfl ?_
            first
              | (have hcan : zcan (zcn A.1 (D + R)) q s k = false := b2i_eq.mp h26
                 exact next _ _ p hw1 hf1 (by unfold zstp; rw [hcan]; rfl))
              | (have hlt : ¬ p.1 < zval (zbest (zcn A.1 (D + R)) (sp_pay A.1.1)) (sp_pay A.1.1) q k := fun z => by
                   have := (pk_lLE (by omega) (by omega)).mp (lg_gt.mp h75)
                   omega
                 refine Z_less (L' := [some (.ref (G.1 + 34)), some (.int (nI q)), some (.int (nI s)), some (.long _), none, some (.int _), some (.int (nI k)), none, none]) ⟨rfl, rfl, rfl, rfl, rfl, rfl, trivial⟩ ?_
                 exact next _ _ p hw2 hf2 (by unfold zstp; rw [if_pos hcan, if_neg hlt]))
              | (have hlt : p.1 < zval (zbest (zcn A.1 (D + R)) (sp_pay A.1.1)) (sp_pay A.1.1) q k := Nat.lt_of_not_le (fun z => h75 (lg_gt.mpr ((pk_lLE (by omega) (by omega)).mpr z)))
                 refine Z_less (L' := [some (.ref (G.1 + 34)), some (.int (nI q)), some (.int (nI s)), some (.long _), none, some (.int _), some (.int (nI k)), none, none]) ⟨rfl, rfl, rfl, rfl, rfl, rfl, trivial⟩ ?_
                 exact next _ _ (zval (zbest (zcn A.1 (D + R)) (sp_pay A.1.1)) (sp_pay A.1.1) q k, k) hw2 hf2 (by unfold zstp; rw [if_pos hcan, if_pos hlt]))
              | exact absurd h75 h59
              | exact absurd h59 h75
theorem st_bestOn {n : Nat} (hT2 : D + R < 500) (hB : mBest G A t D R d n) : mBestOn G A t D R d n := by
  intro q s α post hq hs hn hnT hw h
  have hm := hw.1.mw
  refine ZK.of (n := 6) (by decide) (Nat.le_of_ble_eq_true rfl) rfl ?_
  refine Z_aload_n dX12_bestOn_0 rfl rfl ?_
  refine Z_iload_n dX12_bestOn_1 rfl rfl ?_
  refine Z_V1z (ci := 12) dX12_bestOn_2 to_X12_best lk_X12_202 iv_X12_best ⟨rfl, rfl⟩ (mw_i34 hm) (Nat.le_of_ble_eq_true rfl) ⟨rfl, rfl⟩ ⟨by decide, by decide⟩ ?_
  refine hB _ _ _ hq hn (by omega) hw (fun β hw1 hf1 => ?_)
  refine Z_lstore_n (L' := [_, _, _, _, _, _, _, _, _]) dX12_bestOn_5 rfl (by decide) rfl rfl ?_
  refine Z_iconst (v := 3) dX12_bestOn_6 (by decide) ?_
  refine Z_istore (L' := [_, _, _, _, _, _, _, _, _]) dX12_bestOn_7 (by decide) rfl rfl ?_
  refine Z_iconst (v := 0) dX12_bestOn_9 (by decide) ?_
  refine Z_istore (L' := [_, _, _, _, _, _, _, _, _]) dX12_bestOn_10 (by decide) rfl rfl ?_
  exact lp_bestOn hT2 hB hq hs hn hnT h 3 0 rfl β hw1 hf1
theorem nI_pos0 {n : Nat} (hn : n < 2 ^ 31) (h : ¬ nI n ≤ 0) : 0 < n := Nat.pos_of_ne_zero (fun z => h (by rw [z]; decide))
theorem lp_best {n q : Nat} (hT2 : D + R < 500) (hO : ∀ m, n = m + 1 → mBestOn G A t D R d m) (hq : q < 5832) (hn : zla q = n) (hnT : n ≤ D + R)
    (h : ∀ β, mLk A t D R β → frI Fb α β → post (some (.long (lN (zbest (zcn A.1 (D + R)) (sp_pay A.1.1) q)))) β) :
    ∀ (j s : Nat), s + j = 3 → ∀ (β : AH), mLk A t D R β → frI Fb α β → Z G mX12_best (d + 2 * n + 6) 25 [some (.ref (G.1 + 34)), some (.int (nI q)), some (.long (lN (zpart (fun s => (zOn (zbest (zcn A.1 (D + R)) (sp_pay A.1.1)) (zcn A.1 (D + R)) (sp_pay A.1.1) (zd q s) s).1) q s))), none, some (.int (nI s))] [] β (0, 0) post := by
  intro j
  induction j with
  | zero =>
    intro s hs β hw hf
    have hs : s = 3 := by omega
    subst hs
    have hm := hw.1.mw
    rw [zpart3, ← zbest_eq hq]
    refine Z_iload dX12_best_25 rfl ?_
    refine Z_iconst (v := 3) dX12_best_27 (by decide) ?_
    refine Z_icmp_ge (tgt := 65) dX12_best_28 (by decide) (fun h28 => ?_) (fun h28 => ?_)
    · skip
      refine Z_aload_n dX12_best_65 rfl rfl ?_
      refine Z_getR dX12_best_66 cl_12 fl_X12_32_12 rfl (mw_i34 hm) (mw_p34_15 hm) ?_
      refine Z_iload_n dX12_best_69 rfl rfl ?_
      refine Z_aload_n dX12_best_70 rfl rfl ?_
      refine Z_getIv dX12_best_71 cl_12 fl_X12_188_12 rfl (mw_i34 hm) hw.2.1.1.2.1 ?_
      refine Z_iast dX12_best_74 (mw_i41 hm) (zix_nI (by omega) (by decide)) ?_
      refine Z_aload_n dX12_best_75 rfl rfl ?_
      refine Z_getR dX12_best_76 cl_12 fl_X12_28_12 rfl (mw_i34 hm) (mw_p34_14 hm) ?_
      refine Z_iload_n dX12_best_79 rfl rfl ?_
      refine Z_lload_n dX12_best_80 rfl rfl ?_
      refine Z_last dX12_best_81 (mw_i40 hm) (zix_nI (by omega) (by decide)) ?_
      refine Z_lload_n dX12_best_82 rfl rfl ?_
      refine Z_lret dX12_best_83 rfl ⟨by decide, by decide⟩ ?_
      exact h _ hw.put ((hf.tr (frI.sI (by unfold Fb; omega))).tr (frI.sJ (by unfold Fb; omega)))
    · skip
      exact absurd (by decide) h28
  | succ j ih =>
    intro s hs β hw hf
    have hm := hw.1.mw
    have hl := zl_le (s := s) hq
    refine Z_iload dX12_best_25 rfl ?_
    refine Z_iconst (v := 3) dX12_best_27 (by decide) ?_
    refine Z_icmp_ge (tgt := 65) dX12_best_28 (by decide) (fun h28 => ?_) (fun h28 => ?_)
    · skip
      exact absurd h28 (nI_ge (a := s) (b := 3) (by omega) (by omega))
    · skip
      refine Z_lload_n dX12_best_31 rfl rfl ?_
      refine Z_iload_n dX12_best_32 rfl rfl ?_
      refine Z_iload dX12_best_33 rfl ?_
      refine Z_S2z dX12_best_35 to_X12_left lk_X12_172 sc_X12_left (Nat.le_of_ble_eq_true rfl) ⟨rfl, rfl⟩ ⟨by decide, by decide⟩ ?_
      refine c_left hq (by omega) ?_
      refine Z_if_le (tgt := 56) dX12_best_38 (by decide) (fun h38 => ?_) (fun h38 => ?_)
      · skip
        refine Z_lconst (v := 0) dX12_best_56 (by decide) ?_
        refine Z_ladd dX12_best_57 ?_
        first
          | rw [show (0 : Int64) = lN 0 from rfl, lN_add]
          | rw [lN_add]
        refine Z_lstore_n (L' := [_, _, _, _, _]) dX12_best_58 rfl (by decide) rfl rfl ?_
        refine Z_iinc (L' := [_, _, _, _, _]) dX12_best_59 rfl (by rfl : _ + Int32.ofInt 1 = _ + 1) (by decide) rfl rfl ?_
        refine Z_goto (tgt := 25) dX12_best_62 (by decide) ?_
        rw [nI_1]
        first
          | (have := ih (s + 1) (by omega) γ hw1 (hf.tr hf1)
             rw [show zpart (fun s => (zOn (zbest (zcn A.1 (D + R)) (sp_pay A.1.1)) (zcn A.1 (D + R)) (sp_pay A.1.1) (zd q s) s).1) q (s + 1) = zpart (fun s => (zOn (zbest (zcn A.1 (D + R)) (sp_pay A.1.1)) (zcn A.1 (D + R)) (sp_pay A.1.1) (zd q s) s).1) q s + (zOn (zbest (zcn A.1 (D + R)) (sp_pay A.1.1)) (zcn A.1 (D + R)) (sp_pay A.1.1) (zd q s) s).1 from congrArg (fun z => zpart (fun s => (zOn (zbest (zcn A.1 (D + R)) (sp_pay A.1.1)) (zcn A.1 (D + R)) (sp_pay A.1.1) (zd q s) s).1) q s + z) (if_pos hp)] at this
             exact this)
          | (have := ih (s + 1) (by omega) β hw hf
             rw [show zpart (fun s => (zOn (zbest (zcn A.1 (D + R)) (sp_pay A.1.1)) (zcn A.1 (D + R)) (sp_pay A.1.1) (zd q s) s).1) q (s + 1) = zpart (fun s => (zOn (zbest (zcn A.1 (D + R)) (sp_pay A.1.1)) (zcn A.1 (D + R)) (sp_pay A.1.1) (zd q s) s).1) q s + 0 from congrArg (fun z => zpart (fun s => (zOn (zbest (zcn A.1 (D + R)) (sp_pay A.1.1)) (zcn A.1 (D + R)) (sp_pay A.1.1) (zd q s) s).1) q s + z) (if_neg (fun z => by have := nI_nle z (by omega); exact this h38))] at this
             exact this)
      · skip
        have hp := nI_pos0 (by omega) h38
        have ok := zd_ok hq (show s < 3 by omega) hp
        obtain ⟨m, em⟩ : ∃ m, n = m + 1 := ⟨n - 1, by omega⟩
        subst em
        rw [show d + 2 * (m + 1) + 6 = d + 2 * m + 7 + 1 by omega] at ih ⊢
        have em2 : zla (zd q s) = m := by omega
        refine Z_aload_n dX12_best_41 rfl rfl ?_
        refine Z_iload_n dX12_best_42 rfl rfl ?_
        refine Z_iload dX12_best_43 rfl ?_
        refine Z_S2z dX12_best_45 to_X12_drawn lk_X12_218 sc_X12_drawn (Nat.le_of_ble_eq_true rfl) ⟨rfl, rfl⟩ ⟨by decide, by decide⟩ ?_
        refine c_drawn hq (by omega) ok.1 ?_
        refine Z_iload dX12_best_48 rfl ?_
        refine Z_V2z (ci := 12) dX12_best_50 to_X12_bestOn lk_X12_221 iv_X12_bestOn ⟨rfl, rfl⟩ (mw_i34 hm) (Nat.le_of_ble_eq_true rfl) ⟨rfl, rfl⟩ ⟨by decide, by decide⟩ ?_
        refine hO m rfl _ _ _ _ ok.2.1 (by omega) em2 (by omega) hw (fun γ hw1 hf1 _ => ?_)
        refine Z_goto (tgt := 57) dX12_best_53 (by decide) ?_
        refine Z_ladd dX12_best_57 ?_
        first
          | rw [show (0 : Int64) = lN 0 from rfl, lN_add]
          | rw [lN_add]
        refine Z_lstore_n (L' := [_, _, _, _, _]) dX12_best_58 rfl (by decide) rfl rfl ?_
        refine Z_iinc (L' := [_, _, _, _, _]) dX12_best_59 rfl (by rfl : _ + Int32.ofInt 1 = _ + 1) (by decide) rfl rfl ?_
        refine Z_goto (tgt := 25) dX12_best_62 (by decide) ?_
        rw [nI_1]
        first
          | (have := ih (s + 1) (by omega) γ hw1 (hf.tr hf1)
             rw [show zpart (fun s => (zOn (zbest (zcn A.1 (D + R)) (sp_pay A.1.1)) (zcn A.1 (D + R)) (sp_pay A.1.1) (zd q s) s).1) q (s + 1) = zpart (fun s => (zOn (zbest (zcn A.1 (D + R)) (sp_pay A.1.1)) (zcn A.1 (D + R)) (sp_pay A.1.1) (zd q s) s).1) q s + (zOn (zbest (zcn A.1 (D + R)) (sp_pay A.1.1)) (zcn A.1 (D + R)) (sp_pay A.1.1) (zd q s) s).1 from congrArg (fun z => zpart (fun s => (zOn (zbest (zcn A.1 (D + R)) (sp_pay A.1.1)) (zcn A.1 (D + R)) (sp_pay A.1.1) (zd q s) s).1) q s + z) (if_pos hp)] at this
             exact this)
          | (have := ih (s + 1) (by omega) β hw hf
             rw [show zpart (fun s => (zOn (zbest (zcn A.1 (D + R)) (sp_pay A.1.1)) (zcn A.1 (D + R)) (sp_pay A.1.1) (zd q s) s).1) q (s + 1) = zpart (fun s => (zOn (zbest (zcn A.1 (D + R)) (sp_pay A.1.1)) (zcn A.1 (D + R)) (sp_pay A.1.1) (zd q s) s).1) q s + 0 from congrArg (fun z => zpart (fun s => (zOn (zbest (zcn A.1 (D + R)) (sp_pay A.1.1)) (zcn A.1 (D + R)) (sp_pay A.1.1) (zd q s) s).1) q s + z) (if_neg (fun z => by have := nI_nle z (by omega); exact this h38))] at this
             exact this)
theorem st_best {n : Nat} (hT2 : D + R < 500) (hO : ∀ m, n = m + 1 → mBestOn G A t D R d m) : mBest G A t D R d n := by
  intro q α post hq hn hnT hw h
  have hm := hw.1.mw
  obtain ⟨v, hv1, hv2⟩ := hw.2.1.1.2.2.2 41 (Or.inl rfl) q
  have ht := hw.2.1.1.1
  refine ZK.of (n := 3) (by decide) (Nat.le_of_ble_eq_true rfl) rfl ?_
  refine Z_aload_n dX12_best_0 rfl rfl ?_
  refine Z_getR dX12_best_1 cl_12 fl_X12_32_12 rfl (mw_i34 hm) (mw_p34_15 hm) ?_
  refine Z_iload_n dX12_best_4 rfl rfl ?_
  refine Z_ialdv dX12_best_5 (mw_i41 hm) (zix_nI (by omega) (by decide)) hv2 ?_
  refine Z_aload_n dX12_best_6 rfl rfl ?_
  refine Z_getIv dX12_best_7 cl_12 fl_X12_188_12 rfl (mw_i34 hm) hw.2.1.1.2.1 ?_
  refine Z_icmp_ne (tgt := 20) dX12_best_10 (by decide) (fun h10 => ?_) (fun h10 => ?_)
  · skip
    refine Z_lconst (v := 0) dX12_best_20 (by decide) ?_
    refine Z_lstore_n (L' := [_, _, _, _, _]) dX12_best_21 rfl (by decide) rfl rfl ?_
    refine Z_iconst (v := 0) dX12_best_22 (by decide) ?_
    refine Z_istore (L' := [_, _, _, _, _]) dX12_best_23 (by decide) rfl rfl ?_
    exact lp_best hT2 hO hq hn hnT h 3 0 rfl α hw frI.rf
  · skip
    refine Z_aload_n dX12_best_13 rfl rfl ?_
    refine Z_getR dX12_best_14 cl_12 fl_X12_28_12 rfl (mw_i34 hm) (mw_p34_14 hm) ?_
    refine Z_iload_n dX12_best_17 rfl rfl ?_
    refine Z_laldv dX12_best_18 (mw_i40 hm) (zix_nI (by omega) (by decide)) (hw.2.2.2 q hq (by rw [hv2]; exact congrArg nI ((nI_eq (by omega) (by omega)).mp h10))) ?_
    refine Z_lret dX12_best_19 rfl ⟨by decide, by decide⟩ ?_
    exact h α hw frI.rf
theorem mBest_all (hT2 : D + R < 500) : ∀ n, mBest G A t D R d n ∧ mBestOn G A t D R d n
  | 0 => by
    have h := st_best (G := G) (A := A) (t := t) (d := d) (n := 0) hT2 (fun m h => by cases h)
    exact ⟨h, st_bestOn hT2 h⟩
  | n + 1 => by
    have h := st_best (G := G) (A := A) (t := t) (d := d) (n := n + 1) hT2 (fun m h => by cases h; exact (mBest_all hT2 n).2)
    exact ⟨h, st_bestOn hT2 h⟩
end MB2
