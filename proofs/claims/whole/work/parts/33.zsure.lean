section MS1
variable {G : ZG} {d : Nat} {α β : AH} {post : Option Value → AH → Prop} {A : ZA} {t D R : Nat}
/-- after a day of sort s on which work k is done if it can be -/
def znx (cn : ZCn) (k q s : Nat) : Nat := if zcan cn (zd q s) s k = true then zdo (zd q s) k else zd q s
def zpt (f : Nat → Bool) (q : Nat) : Nat → Bool
  | 0 => true
  | s + 1 => zpt f q s && (decide (zl q s = 0) || f s)
def zsrN (cn : ZCn) (k : Nat) : Nat → Nat → Bool
  | 0, q => decide (zg q k = 2)
  | n + 1, q => decide (zg q k = 2) || zpt (fun s => zsrN cn k n (znx cn k q s)) q 3
def zis (cn : ZCn) (k q : Nat) : Bool := zsrN cn k (zla q) q
theorem znx_ok {cn : ZCn} {k q s : Nat} (hq : q < 5832) (hs : s < 3) (hk : k < 3) (hp : 0 < zl q s) : znx cn k q s < 5832 ∧ zla (znx cn k q s) + 1 = zla q := by
  have ok := zd_ok hq hs hp
  unfold znx
  split
  · rename_i hc
    have hg := zcan_g hc
    exact ⟨(zdo_ok ok.2.1 hk hg).1, by rw [zdo_la ok.2.1 hk hg]; exact ok.2.2.1⟩
  · exact ⟨ok.2.1, ok.2.2.1⟩
theorem zpt_cg {f g : Nat → Bool} {q : Nat} : ∀ n, (∀ s, s < n → 0 < zl q s → f s = g s) → zpt f q n = zpt g q n
  | 0, _ => rfl
  | n + 1, h => by
    show (zpt f q n && (decide (zl q n = 0) || f n)) = (zpt g q n && (decide (zl q n = 0) || g n))
    rw [zpt_cg n (fun s hs hp => h s (by omega) hp)]
    by_cases e : zl q n = 0
    · rw [decide_eq_true e, Bool.true_or, Bool.true_or]
    · rw [h n (by omega) (by omega)]
theorem zis_eq {cn : ZCn} {k q : Nat} (hq : q < 5832) (hk : k < 3) (h2 : ¬ zg q k = 2) : zis cn k q = (decide (0 < zla q) && zpt (fun s => zis cn k (znx cn k q s)) q 3) := by
  unfold zis
  cases hn : zla q with
  | zero => show decide (zg q k = 2) = _; rw [decide_eq_false h2]; rfl
  | succ n =>
    show (decide (zg q k = 2) || zpt (fun s => zsrN cn k n (znx cn k q s)) q 3) = _
    rw [decide_eq_false h2, Bool.false_or, decide_eq_true (show 0 < n + 1 by omega), Bool.true_and]
    refine zpt_cg 3 (fun s hs hp => ?_)
    have ok := znx_ok (cn := cn) hq hs hk hp
    show zsrN cn k n (znx cn k q s) = zsrN cn k (zla (znx cn k q s)) (znx cn k q s)
    rw [show zla (znx cn k q s) = n by omega]
theorem zis_2 {cn : ZCn} {k q : Nat} (h : zg q k = 2) : zis cn k q = true := by
  unfold zis
  cases zla q with
  | zero => exact decide_eq_true h
  | succ n => show (decide (zg q k = 2) || _) = true; rw [decide_eq_true h]; rfl
theorem zpt_f {f : Nat → Bool} {q s : Nat} (h : zpt f q s = false) : ∀ j, zpt f q (s + j) = false
  | 0 => h
  | j + 1 => by
    show (zpt f q (s + j) && _) = false
    rw [zpt_f h j]; rfl
def mSM (α : AH) (cn : ZCn) (k : Nat) : Prop := ∀ q, q < 5832 → hI α 46 q = 0 ∨ hI α 46 q = (if zis cn k q = true then 2 else 1)
def mGs (A : ZA) (t D R k : Nat) (α : AH) : Prop := mLk A t D R α ∧ mSM α (zcn A.1 (D + R)) k
def Fs (k : Nat) : Prop := k = 37 ∨ k = 38 ∨ k = 39 ∨ k = 46
theorem mGs.fr {k : Nat} (h : mGs A t D R k α) (hf : frI (fun k => k = 37 ∨ k = 38 ∨ k = 39) α β) (hw : mLk A t D R β) : mGs A t D R k β := by
  refine ⟨hw, fun q hq => ?_⟩
  rw [(hf.2.2.2 46 (by omega)).1]
  exact h.2 q hq
theorem mGs.put {k q : Nat} {x : Int32} (h : mGs A t D R k α) (hx : x = (if zis (zcn A.1 (D + R)) k q = true then 2 else 1)) : mGs A t D R k (sI α 46 q x) := by
  refine ⟨h.1.fr (F := fun k => k = 46) (frI.sI rfl) (by decide), fun q' hq' => ?_⟩
  rw [hI_sI]
  by_cases e : q' = q
  · subst e; rw [if_pos ⟨rfl, rfl⟩]; exact Or.inr hx
  · rw [if_neg (fun z => e z.2)]; exact h.2 q' hq'
def mSure (G : ZG) (A : ZA) (t D R d k n : Nat) : Prop := ∀ (q : Nat) (α : AH) (post : Option Value → AH → Prop), q < 5832 → zla q = n → n ≤ D + R → mGs A t D R k α → (∀ β, mGs A t D R k β → frI Fs α β → post (some (.int (b2i (zis (zcn A.1 (D + R)) k q)))) β) → ZK G (d + n + 6) mX12_isSure [.ref (G.1 + 34), .int (nI q), .int (nI k)] α post
theorem tl_sure {e k q : Nat} {x4 x5 : Option Value} (hq : q < 5832) (hw : mGs A t D R k α) (hf : frI Fs β α) (h : ∀ γ, mGs A t D R k γ → frI Fs β γ → post (some (.int (b2i (zis (zcn A.1 (D + R)) k q)))) γ) : Z G mX12_isSure (e + 1) 114 [some (.ref (G.1 + 34)), some (.int (nI q)), some (.int (nI k)), some (.int (b2i (zis (zcn A.1 (D + R)) k q))), x4, x5] [] α (0, 0) post := by
  have hm := hw.1.1.mw
  refine Z_aload_n dX12_isSure_114 rfl rfl ?_
  refine Z_getR dX12_isSure_115 cl_12 fl_X12_47_12 rfl (mw_i34 hm) (mw_p34_21 hm) ?_
  refine Z_iload_n dX12_isSure_118 rfl rfl ?_
  refine Z_iload_n dX12_isSure_119 rfl rfl ?_
  refine Z_if_eq (tgt := 127) dX12_isSure_120 (by decide) (fun h120 => ?_) (fun h120 => ?_)
  · skip
    refine Z_iconst (v := 1) dX12_isSure_127 (by decide) ?_
    refine Z_iast dX12_isSure_128 (mw_i46 hm) (zix_nI (by omega) (by decide)) ?_
    refine Z_iload_n dX12_isSure_129 rfl rfl ?_
    refine Z_iret dX12_isSure_130 rfl b2i_nar ⟨by decide, by decide⟩ ?_
    first
      | exact h _ (hw.put (by rw [b2i_ne.mp h120]; rfl)) (hf.tr (frI.sI (by unfold Fs; omega)))
      | exact h _ (hw.put (by rw [b2i_eq.mp h120]; rfl)) (hf.tr (frI.sI (by unfold Fs; omega)))
  · skip
    refine Z_iconst (v := 2) dX12_isSure_123 (by decide) ?_
    refine Z_goto (tgt := 128) dX12_isSure_124 (by decide) ?_
    refine Z_iast dX12_isSure_128 (mw_i46 hm) (zix_nI (by omega) (by decide)) ?_
    refine Z_iload_n dX12_isSure_129 rfl rfl ?_
    refine Z_iret dX12_isSure_130 rfl b2i_nar ⟨by decide, by decide⟩ ?_
    first
      | exact h _ (hw.put (by rw [b2i_ne.mp h120]; rfl)) (hf.tr (frI.sI (by unfold Fs; omega)))
      | exact h _ (hw.put (by rw [b2i_eq.mp h120]; rfl)) (hf.tr (frI.sI (by unfold Fs; omega)))
theorem lp_sure {n k q : Nat} (hT2 : D + R < 500) (hk : k < 3) (hG : ∀ m, n = m + 1 → mSure G A t D R d k m) (hq : q < 5832) (hn : zla q = n) (hnT : n ≤ D + R) (h2 : ¬ zg q k = 2)
    (h : ∀ β, mGs A t D R k β → frI Fs α β → post (some (.int (b2i (zis (zcn A.1 (D + R)) k q)))) β) :
    ∀ (j s : Nat), s + j = 3 → ∀ (β : AH) (x5 : Option Value), mGs A t D R k β → frI Fs α β → Z G mX12_isSure (d + n + 6) 52 [some (.ref (G.1 + 34)), some (.int (nI q)), some (.int (nI k)), some (.int (b2i (decide (0 < zla q) && zpt (fun s => zis (zcn A.1 (D + R)) k (znx (zcn A.1 (D + R)) k q s)) q s))), some (.int (nI s)), x5] [] β (0, 0) post := by
  intro j
  induction j with
  | zero =>
    intro s hs β x5 hw hf
    have hs : s = 3 := by omega
    subst hs
    have hm := hw.1.1.mw
    rw [← zis_eq hq hk h2]
    refine Z_iload dX12_isSure_52 rfl ?_
    refine Z_iconst (v := 3) dX12_isSure_54 (by decide) ?_
    refine Z_icmp_ge (tgt := 114) dX12_isSure_55 (by decide) (fun h55 => ?_) (fun h55 => ?_)
    · skip
      exact tl_sure hq hw hf h
    · skip
      exact absurd (by decide) h55
  | succ j ih =>
    intro s hs β x5 hw hf
    have hm := hw.1.1.mw
    have hl := zl_le (s := s) hq
    generalize hb : (decide (0 < zla q) && zpt (fun s => zis (zcn A.1 (D + R)) k (znx (zcn A.1 (D + R)) k q s)) q s) = b
    have hnx : (decide (0 < zla q) && zpt (fun s => zis (zcn A.1 (D + R)) k (znx (zcn A.1 (D + R)) k q s)) q (s + 1)) = (b && (decide (zl q s = 0) || zis (zcn A.1 (D + R)) k (znx (zcn A.1 (D + R)) k q s))) := by
      rw [← hb, Bool.and_assoc]; rfl
    have ih := fun γ x5 => ih (s + 1) (by omega) γ x5
    rw [hnx] at ih
    refine Z_iload dX12_isSure_52 rfl ?_
    refine Z_iconst (v := 3) dX12_isSure_54 (by decide) ?_
    refine Z_icmp_ge (tgt := 114) dX12_isSure_55 (by decide) (fun h55 => ?_) (fun h55 => ?_)
    · skip
      exact absurd h55 (nI_ge (a := s) (b := 3) (by omega) (by omega))
    · skip
      refine Z_iload_n dX12_isSure_58 rfl rfl ?_
      refine Z_if_eq (tgt := 114) dX12_isSure_59 (by decide) (fun h59 => ?_) (fun h59 => ?_)
      · skip
        have hbf : b = false := b2i_eq.mp h59
        have hz : zis (zcn A.1 (D + R)) k q = false := by
          rw [zis_eq hq hk h2]
          rw [hbf] at hb
          rcases Bool.and_eq_false_iff.mp hb with e | e
          · rw [e]; rfl
          · have := zpt_f e (3 - s)
            rw [show s + (3 - s) = 3 by omega] at this
            rw [this, Bool.and_false]
        rw [hbf, ← hz]
        exact tl_sure hq hw hf h
      · skip
        refine Z_iload_n dX12_isSure_62 rfl rfl ?_
        refine Z_iload dX12_isSure_63 rfl ?_
        refine Z_S2z dX12_isSure_65 to_X12_left lk_X12_172 sc_X12_left (Nat.le_of_ble_eq_true rfl) ⟨rfl, rfl⟩ ⟨by decide, by decide⟩ ?_
        refine c_left hq (by omega) ?_
        refine Z_if_le (tgt := 108) dX12_isSure_68 (by decide) (fun h68 => ?_) (fun h68 => ?_)
        · skip
          refine Z_iinc (L' := [_, _, _, _, _, _]) dX12_isSure_108 rfl (by rfl : _ + Int32.ofInt 1 = _ + 1) (by decide) rfl rfl ?_
          refine Z_goto (tgt := 52) dX12_isSure_111 (by decide) ?_
          rw [nI_1]
          first
            | exact ih δ _ hw2 hf2
            | (have hz : zl q s = 0 := Nat.eq_zero_of_not_pos (fun z => nI_nle z (by omega) h68)
               rw [decide_eq_true hz, Bool.true_or, Bool.and_true] at ih
               exact ih β _ hw hf)
        · skip
          have hbt : b = true := b2i_ne.mp h59
          have hp := nI_pos0 (by omega) h68
          have ok := zd_ok hq (show s < 3 by omega) hp
          have ok3 := znx_ok (cn := zcn A.1 (D + R)) hq (show s < 3 by omega) hk hp
          obtain ⟨m, em⟩ : ∃ m, n = m + 1 := ⟨n - 1, by omega⟩
          subst em
          rw [show d + (m + 1) + 6 = d + m + 6 + 1 by omega] at ih ⊢
          rw [hbt, decide_eq_false (show ¬ zl q s = 0 by omega), Bool.true_and, Bool.false_or] at ih
          refine Z_iload_n dX12_isSure_71 rfl rfl ?_
          refine Z_iload dX12_isSure_72 rfl ?_
          refine Z_S2z dX12_isSure_74 to_X12_drawn lk_X12_218 sc_X12_drawn (Nat.le_of_ble_eq_true rfl) ⟨rfl, rfl⟩ ⟨by decide, by decide⟩ ?_
          refine c_drawn hq (by omega) ok.1 ?_
          refine Z_istore (L' := [_, _, _, _, _, _]) dX12_isSure_77 (by decide) rfl rfl ?_
          refine Z_aload_n dX12_isSure_79 rfl rfl ?_
          refine Z_aload_n dX12_isSure_80 rfl rfl ?_
          refine Z_iload dX12_isSure_81 rfl ?_
          refine Z_iload dX12_isSure_83 rfl ?_
          refine Z_iload_n dX12_isSure_85 rfl rfl ?_
          refine Z_V3z (ci := 12) dX12_isSure_86 to_X12_can lk_X12_206 iv_X12_can ⟨rfl, rfl⟩ (mw_i34 hm) (Nat.le_of_ble_eq_true rfl) ⟨rfl, rfl⟩ ⟨by decide, by decide⟩ ?_
          refine c_can hw.1 ok.2.1 (by omega) hk (by omega) hT2 (fun γ hw1 hf1 => ?_)
          have hm := hw1.1.mw
          have hw1 := hw.fr hf1 hw1
          have hf1 : frI Fs α γ := hf.tr (hf1.mono (fun k hk => by unfold Fs; omega))
          refine Z_if_eq (tgt := 101) dX12_isSure_89 (by decide) (fun h89 => ?_) (fun h89 => ?_)
          · skip
            refine Z_iload dX12_isSure_101 rfl ?_
            refine Z_iload_n dX12_isSure_103 rfl rfl ?_
            refine Z_V2z (ci := 12) dX12_isSure_104 to_X12_isSure lk_X12_269 iv_X12_isSure ⟨rfl, rfl⟩ (mw_i34 hm) (Nat.le_of_ble_eq_true rfl) ⟨rfl, rfl⟩ ⟨by decide, by decide⟩ ?_
            first
              | (have hc := b2i_ne.mp h89
                 have enx : znx (zcn A.1 (D + R)) k q s = zdo (zd q s) k := if_pos hc
                 rw [enx] at ok3 ih)
              | (have hc := b2i_eq.mp h89
                 have enx : znx (zcn A.1 (D + R)) k q s = zd q s := if_neg (fun z => by rw [hc] at z; exact absurd z (by decide))
                 rw [enx] at ok3 ih)
            refine hG m rfl _ _ _ ok3.1 (by omega) (by omega) hw1 (fun δ hw2 hf2 => ?_)
            have hm := hw2.1.1.mw
            have hf2 : frI Fs α δ := hf1.tr hf2
            refine Z_istore_n (L' := [_, _, _, _, _, _]) dX12_isSure_107 rfl (by decide) rfl rfl ?_
            refine Z_iinc (L' := [_, _, _, _, _, _]) dX12_isSure_108 rfl (by rfl : _ + Int32.ofInt 1 = _ + 1) (by decide) rfl rfl ?_
            refine Z_goto (tgt := 52) dX12_isSure_111 (by decide) ?_
            rw [nI_1]
            first
              | exact ih δ _ hw2 hf2
              | (have hz : zl q s = 0 := Nat.eq_zero_of_not_pos (fun z => nI_nle z (by omega) h68)
                 rw [decide_eq_true hz, Bool.true_or, Bool.and_true] at ih
                 exact ih β _ hw hf)
          · skip
            refine Z_iload dX12_isSure_92 rfl ?_
            refine Z_iload_n dX12_isSure_94 rfl rfl ?_
            refine Z_S2z dX12_isSure_95 to_X12_done lk_X12_215 sc_X12_done (Nat.le_of_ble_eq_true rfl) ⟨rfl, rfl⟩ ⟨by decide, by decide⟩ ?_
            rw [← wI_nI (w := k) (by omega)]
            refine c_done (by omega) ?_
            rw [wI_nI (w := k) (by omega), show zdw (zd q s) k = zdo (zd q s) k from if_neg (by omega)]
            refine Z_goto (tgt := 103) dX12_isSure_98 (by decide) ?_
            refine Z_iload_n dX12_isSure_103 rfl rfl ?_
            refine Z_V2z (ci := 12) dX12_isSure_104 to_X12_isSure lk_X12_269 iv_X12_isSure ⟨rfl, rfl⟩ (mw_i34 hm) (Nat.le_of_ble_eq_true rfl) ⟨rfl, rfl⟩ ⟨by decide, by decide⟩ ?_
            first
              | (have hc := b2i_ne.mp h89
                 have enx : znx (zcn A.1 (D + R)) k q s = zdo (zd q s) k := if_pos hc
                 rw [enx] at ok3 ih)
              | (have hc := b2i_eq.mp h89
                 have enx : znx (zcn A.1 (D + R)) k q s = zd q s := if_neg (fun z => by rw [hc] at z; exact absurd z (by decide))
                 rw [enx] at ok3 ih)
            refine hG m rfl _ _ _ ok3.1 (by omega) (by omega) hw1 (fun δ hw2 hf2 => ?_)
            have hm := hw2.1.1.mw
            have hf2 : frI Fs α δ := hf1.tr hf2
            refine Z_istore_n (L' := [_, _, _, _, _, _]) dX12_isSure_107 rfl (by decide) rfl rfl ?_
            refine Z_iinc (L' := [_, _, _, _, _, _]) dX12_isSure_108 rfl (by rfl : _ + Int32.ofInt 1 = _ + 1) (by decide) rfl rfl ?_
            refine Z_goto (tgt := 52) dX12_isSure_111 (by decide) ?_
            rw [nI_1]
            first
              | exact ih δ _ hw2 hf2
              | (have hz : zl q s = 0 := Nat.eq_zero_of_not_pos (fun z => nI_nle z (by omega) h68)
                 rw [decide_eq_true hz, Bool.true_or, Bool.and_true] at ih
                 exact ih β _ hw hf)
theorem st_sure {n k : Nat} (hT2 : D + R < 500) (hk : k < 3) (hG : ∀ m, n = m + 1 → mSure G A t D R d k m) : mSure G A t D R d k n := by
  intro q α post hq hn hnT hw h
  have hm := hw.1.1.mw
  have hgl := zg_le (q := q) (k := k)
  have hla := zla_le hq
  refine ZK.of (n := 3) (by decide) (Nat.le_of_ble_eq_true rfl) rfl ?_
  rcases hw.2 q hq with e46 | e46
  · skip
    refine Z_iload_n dX12_isSure_0 rfl rfl ?_
    refine Z_iload_n dX12_isSure_1 rfl rfl ?_
    refine Z_S2z dX12_isSure_2 to_X12_stageOf lk_X12_182 sc_X12_stageOf (Nat.le_of_ble_eq_true rfl) ⟨rfl, rfl⟩ ⟨by decide, by decide⟩ ?_
    refine c_stageOf hq hk ?_
    refine Z_iconst (v := 2) dX12_isSure_5 (by decide) ?_
    refine Z_icmp_ne (tgt := 11) dX12_isSure_6 (by decide) (fun h6 => ?_) (fun h6 => ?_)
    · skip
      have h2 : ¬ zg q k = 2 := fun z => h6 (by rw [z]; rfl)
      have key := lp_sure hT2 hk hG hq hn hnT h2 h 3 0 rfl α none hw frI.rf
      refine Z_aload_n dX12_isSure_11 rfl rfl ?_
      refine Z_getR dX12_isSure_12 cl_12 fl_X12_47_12 rfl (mw_i34 hm) (mw_p34_21 hm) ?_
      refine Z_iload_n dX12_isSure_15 rfl rfl ?_
      refine Z_ialdv dX12_isSure_16 (mw_i46 hm) (zix_nI (by omega) (by decide)) e46 ?_
      refine Z_if_eq (tgt := 36) dX12_isSure_17 (by decide) (fun h17 => ?_) (fun h17 => ?_)
      · skip
        refine Z_iload_n dX12_isSure_36 rfl rfl ?_
        refine Z_S1z dX12_isSure_37 to_X12_leftInAll lk_X12_185 sc_X12_leftInAll (Nat.le_of_ble_eq_true rfl) ⟨rfl, rfl⟩ ⟨by decide, by decide⟩ ?_
        refine c_leftInAll hq ?_
        refine Z_if_le (tgt := 47) dX12_isSure_40 (by decide) (fun h40 => ?_) (fun h40 => ?_)
        · skip
          refine Z_iconst (v := 0) dX12_isSure_47 (by decide) ?_
          refine Z_istore_n (L' := [_, _, _, _, _, _]) dX12_isSure_48 rfl (by decide) rfl rfl ?_
          refine Z_iconst (v := 0) dX12_isSure_49 (by decide) ?_
          refine Z_istore (L' := [_, _, _, _, _, _]) dX12_isSure_50 (by decide) rfl rfl ?_
          first
            | (rw [decide_eq_true (nI_pos0 (by omega) h40)] at key; exact key)
            | (rw [decide_eq_false (fun z => nI_nle z (by omega) h40)] at key; exact key)
        · skip
          refine Z_iconst (v := 1) dX12_isSure_43 (by decide) ?_
          refine Z_goto (tgt := 48) dX12_isSure_44 (by decide) ?_
          refine Z_istore_n (L' := [_, _, _, _, _, _]) dX12_isSure_48 rfl (by decide) rfl rfl ?_
          refine Z_iconst (v := 0) dX12_isSure_49 (by decide) ?_
          refine Z_istore (L' := [_, _, _, _, _, _]) dX12_isSure_50 (by decide) rfl rfl ?_
          first
            | (rw [decide_eq_true (nI_pos0 (by omega) h40)] at key; exact key)
            | (rw [decide_eq_false (fun z => nI_nle z (by omega) h40)] at key; exact key)
      · skip
        exact absurd rfl h17
    · skip
      refine Z_iconst (v := 1) dX12_isSure_9 (by decide) ?_
      refine Z_iret dX12_isSure_10 rfl rfl ⟨by decide, by decide⟩ ?_
      have hp := h α hw frI.rf
      rw [zis_2 ((nI_eq (b := 2) (by omega) (by omega)).mp h6)] at hp
      exact hp
  · skip
    refine Z_iload_n dX12_isSure_0 rfl rfl ?_
    refine Z_iload_n dX12_isSure_1 rfl rfl ?_
    refine Z_S2z dX12_isSure_2 to_X12_stageOf lk_X12_182 sc_X12_stageOf (Nat.le_of_ble_eq_true rfl) ⟨rfl, rfl⟩ ⟨by decide, by decide⟩ ?_
    refine c_stageOf hq hk ?_
    refine Z_iconst (v := 2) dX12_isSure_5 (by decide) ?_
    refine Z_icmp_ne (tgt := 11) dX12_isSure_6 (by decide) (fun h6 => ?_) (fun h6 => ?_)
    · skip
      refine Z_aload_n dX12_isSure_11 rfl rfl ?_
      refine Z_getR dX12_isSure_12 cl_12 fl_X12_47_12 rfl (mw_i34 hm) (mw_p34_21 hm) ?_
      refine Z_iload_n dX12_isSure_15 rfl rfl ?_
      refine Z_ialdv dX12_isSure_16 (mw_i46 hm) (zix_nI (by omega) (by decide)) e46 ?_
      refine Z_if_eq (tgt := 36) dX12_isSure_17 (by decide) (fun h17 => ?_) (fun h17 => ?_)
      · skip
        revert h17; split <;> exact fun z => absurd z (by decide)
      · skip
        refine Z_aload_n dX12_isSure_20 rfl rfl ?_
        refine Z_getR dX12_isSure_21 cl_12 fl_X12_47_12 rfl (mw_i34 hm) (mw_p34_21 hm) ?_
        refine Z_iload_n dX12_isSure_24 rfl rfl ?_
        refine Z_ialdv dX12_isSure_25 (mw_i46 hm) (zix_nI (by omega) (by decide)) e46 ?_
        refine Z_iconst (v := 2) dX12_isSure_26 (by decide) ?_
        refine Z_icmp_ne (tgt := 34) dX12_isSure_27 (by decide) (fun h27 => ?_) (fun h27 => ?_)
        · skip
          refine Z_iconst (v := 0) dX12_isSure_34 (by decide) ?_
          refine Z_iret dX12_isSure_35 rfl rfl ⟨by decide, by decide⟩ ?_
          have hp := h α hw frI.rf
          cases hz : zis (zcn A.1 (D + R)) k q with
          | true =>
            rw [hz] at hp h27
            first | exact hp | exact absurd rfl h27
          | false =>
            rw [hz] at hp h27
            first | exact hp | exact absurd h27 (by decide)
        · skip
          refine Z_iconst (v := 1) dX12_isSure_30 (by decide) ?_
          refine Z_goto (tgt := 35) dX12_isSure_31 (by decide) ?_
          refine Z_iret dX12_isSure_35 rfl rfl ⟨by decide, by decide⟩ ?_
          have hp := h α hw frI.rf
          cases hz : zis (zcn A.1 (D + R)) k q with
          | true =>
            rw [hz] at hp h27
            first | exact hp | exact absurd rfl h27
          | false =>
            rw [hz] at hp h27
            first | exact hp | exact absurd h27 (by decide)
    · skip
      refine Z_iconst (v := 1) dX12_isSure_9 (by decide) ?_
      refine Z_iret dX12_isSure_10 rfl rfl ⟨by decide, by decide⟩ ?_
      have hp := h α hw frI.rf
      rw [zis_2 ((nI_eq (b := 2) (by omega) (by omega)).mp h6)] at hp
      exact hp
theorem mSure_all {k : Nat} (hT2 : D + R < 500) (hk : k < 3) : ∀ n, mSure G A t D R d k n
  | 0 => st_sure hT2 hk (fun m h => by cases h)
  | n + 1 => st_sure hT2 hk (fun m h => by cases h; exact mSure_all hT2 hk n)
theorem c_isSure {k q : Nat} (hw : mGs A t D R k α) (hT2 : D + R < 500) (hk : k < 3) (hq : q < 5832) (hT : zla q ≤ D + R) (h : ∀ β, mGs A t D R k β → frI Fs α β → post (some (.int (b2i (zis (zcn A.1 (D + R)) k q)))) β) : ZK G (d + 21) mX12_isSure [.ref (G.1 + 34), .int (nI q), .int (nI k)] α post := by
  have hla := zla_le hq
  have := mSure_all (G := G) (A := A) (t := t) (d := d + (15 - zla q)) hT2 hk (zla q) q α post hq rfl hT hw h
  rw [show d + (15 - zla q) + zla q + 6 = d + 21 by omega] at this
  exact this
theorem fs_mid : ∀ k, Fs k → mId k := fun k hk => by unfold Fs at hk; unfold mId; omega
def zwb (f : Nat → Bool) : Nat → Nat
  | 0 => 0
  | k + 1 => zwb f k + (if f k = true then 2 ^ k else 0)
theorem zwb_or {f : Nat → Bool} {k : Nat} (hk : k < 3) : nI (zwb f k) ||| (if f k = true then 1 <<< (nI k &&& 31) else 0) = nI (zwb f (k + 1)) := by
  have : k = 0 ∨ k = 1 ∨ k = 2 := by omega
  rcases this with rfl | rfl | rfl
  · show nI 0 ||| _ = nI (0 + _)
    cases f 0 <;> decide
  · show nI (0 + _) ||| _ = nI (0 + _ + _)
    cases f 0 <;> cases f 1 <;> decide
  · show nI (0 + _ + _) ||| _ = nI (0 + _ + _ + _)
    cases f 0 <;> cases f 1 <;> cases f 2 <;> decide
def zwh (S : ZS) (k : Nat) : Bool := zis (zcn S (S.1 5 + zrest S.1)) k (zq S.1)
def sp_whatever (S : ZS) : Int32 := nI (zwb (zwh S) 3)
theorem lp_clear {e i0 : Nat} {x1 x2 : Int32} (hk : ∀ γ, mLk A t D R γ → frI mId α γ → (∀ q, q < 5832 → hI γ 46 q = 0) → Z G mX12_whatever (e + 1) 35 [some (.ref (G.1 + 34)), some (.int x1), some (.int x2), some (.int (nI 5832))] [] γ (0, 0) post) :
    ∀ (j i : Nat), i + j = 5832 → ∀ (β : AH), mLk A t D R β → frI mId α β → (∀ q, q < i → hI β 46 q = 0) → Z G mX12_whatever (e + 1) 15 [some (.ref (G.1 + 34)), some (.int x1), some (.int x2), some (.int (nI i))] [] β (0, 0) post := by
  intro j
  induction j with
  | zero =>
    intro i hi β hw hf hz
    have hi : i = 5832 := by omega
    subst hi
    refine Z_iload_n dX12_whatever_15 rfl rfl ?_
    refine Z_sipush (v := 5832) dX12_whatever_16 (by decide) ?_
    refine Z_icmp_ge (tgt := 35) dX12_whatever_19 (by decide) (fun h19 => ?_) (fun h19 => ?_)
    · skip
      exact hk β hw hf hz
    · skip
      exact absurd (by decide) h19
  | succ j ih =>
    intro i hi β hw hf hz
    have hm := hw.1.mw
    refine Z_iload_n dX12_whatever_15 rfl rfl ?_
    refine Z_sipush (v := 5832) dX12_whatever_16 (by decide) ?_
    refine Z_icmp_ge (tgt := 35) dX12_whatever_19 (by decide) (fun h19 => ?_) (fun h19 => ?_)
    · skip
      exact absurd h19 (nI_ge (a := i) (b := 5832) (by omega) (by omega))
    · skip
      refine Z_aload_n dX12_whatever_22 rfl rfl ?_
      refine Z_getR dX12_whatever_23 cl_12 fl_X12_47_12 rfl (mw_i34 hm) (mw_p34_21 hm) ?_
      refine Z_iload_n dX12_whatever_26 rfl rfl ?_
      refine Z_iconst (v := 0) dX12_whatever_27 (by decide) ?_
      refine Z_iast dX12_whatever_28 (mw_i46 hm) (zix_nI (by omega) (by decide)) ?_
      refine Z_iinc (L' := [_, _, _, _]) dX12_whatever_29 rfl (by rfl : _ + Int32.ofInt 1 = _ + 1) (by decide) rfl rfl ?_
      refine Z_goto (tgt := 15) dX12_whatever_32 (by decide) ?_
      rw [nI_1]
      refine ih (i + 1) (by omega) _ (hw.fr (F := fun k => k = 46) (frI.sI rfl) (by decide)) (hf.tr (frI.sI (by unfold mId; omega))) (fun q hq => ?_)
      rw [hI_sI]
      by_cases e : q = i
      · rw [if_pos ⟨rfl, e⟩]
      · rw [if_neg (fun z => e z.2)]; exact hz q (by omega)
theorem lp_what (hT2 : A.1.1 5 + zrest A.1.1 < 500) (h : ∀ γ, mLk A t (A.1.1 5) (zrest A.1.1) γ → frI mId α γ → post (some (.int (sp_whatever A.1))) γ) :
    ∀ (j k : Nat), k + j = 3 → ∀ (β : AH) (x3 : Option Value), mLk A t (A.1.1 5) (zrest A.1.1) β → frI mId α β → Z G mX12_whatever (d + 22) 8 [some (.ref (G.1 + 34)), some (.int (nI (zwb (zwh A.1) k))), some (.int (nI k)), x3] [] β (0, 0) post := by
  intro j
  induction j with
  | zero =>
    intro k hk β x3 hw hf
    have hk : k = 3 := by omega
    subst hk
    refine Z_iload_n dX12_whatever_8 rfl rfl ?_
    refine Z_iconst (v := 3) dX12_whatever_9 (by decide) ?_
    refine Z_icmp_ge (tgt := 63) dX12_whatever_10 (by decide) (fun h10 => ?_) (fun h10 => ?_)
    · skip
      refine Z_iload_n dX12_whatever_63 rfl rfl ?_
      refine Z_iret dX12_whatever_64 rfl rfl ⟨by decide, by decide⟩ ?_
      exact h β hw hf
    · skip
      exact absurd (by decide) h10
  | succ j ih =>
    intro k hk β x3 hw hf
    have hr := hw.1
    have hq := zq_ok hr.2.1
    have hla := hq.2.1
    have step : ∀ γ, mLk A t (A.1.1 5) (zrest A.1.1) γ → frI mId α γ → (∀ q, q < 5832 → hI γ 46 q = 0) → Z G mX12_whatever (d + 21 + 1) 35 [some (.ref (G.1 + 34)), some (.int (nI (zwb (zwh A.1) k))), some (.int (nI k)), some (.int (nI 5832))] [] γ (0, 0) post := by
      intro γ hw1 hf1 hz
      have hm := hw1.1.mw
      refine Z_iload_n dX12_whatever_35 rfl rfl ?_
      refine Z_aload_n dX12_whatever_36 rfl rfl ?_
      refine Z_aload_n dX12_whatever_37 rfl rfl ?_
      refine Z_V0z (ci := 12) dX12_whatever_38 to_X12_stateNow lk_X12_249 iv_X12_stateNow ⟨rfl, rfl⟩ (mw_i34 hm) (Nat.le_of_ble_eq_true rfl) ⟨rfl, rfl⟩ ⟨by decide, by decide⟩ ?_
      refine c_stateNow hw1.1 ?_
      refine Z_iload_n dX12_whatever_41 rfl rfl ?_
      refine Z_V2z (ci := 12) dX12_whatever_42 to_X12_isSure lk_X12_269 iv_X12_isSure ⟨rfl, rfl⟩ (mw_i34 hm) (Nat.le_of_ble_eq_true rfl) ⟨rfl, rfl⟩ ⟨by decide, by decide⟩ ?_
      refine c_isSure (⟨hw1, fun q hq => Or.inl (hz q hq)⟩ : mGs A t (A.1.1 5) (zrest A.1.1) k γ) hT2 (by omega) hq.1 (by omega) (fun δ hw2 hf2 => ?_)
      have hm := hw2.1.1.mw
      have hf2 : frI mId α δ := hf1.tr (hf2.mono fs_mid)
      have hor := zwb_or (f := zwh A.1) (k := k) (by omega)
      refine Z_if_eq (tgt := 54) dX12_whatever_45 (by decide) (fun h45 => ?_) (fun h45 => ?_)
      · skip
        refine Z_iconst (v := 0) dX12_whatever_54 (by decide) ?_
        refine Z_ior dX12_whatever_55 ?_
        refine Z_istore_n (L' := [_, _, _, _]) dX12_whatever_56 rfl (by decide) rfl rfl ?_
        refine Z_iinc (L' := [_, _, _, _]) dX12_whatever_57 rfl (by rfl : _ + Int32.ofInt 1 = _ + 1) (by decide) rfl rfl ?_
        refine Z_goto (tgt := 8) dX12_whatever_60 (by decide) ?_
        rw [nI_1]
        first
          | (rw [if_pos (show zwh A.1 k = true from b2i_ne.mp h45)] at hor; rw [hor]; exact ih (k + 1) (by omega) δ _ hw2.1 hf2)
          | (rw [if_neg (show ¬ zwh A.1 k = true from fun z => by rw [show zwh A.1 k = false from b2i_eq.mp h45] at z; exact absurd z (by decide))] at hor; rw [hor]; exact ih (k + 1) (by omega) δ _ hw2.1 hf2)
      · skip
        refine Z_iconst (v := 1) dX12_whatever_48 (by decide) ?_
        refine Z_iload_n dX12_whatever_49 rfl rfl ?_
        refine Z_ishl dX12_whatever_50 ?_
        refine Z_goto (tgt := 55) dX12_whatever_51 (by decide) ?_
        refine Z_ior dX12_whatever_55 ?_
        refine Z_istore_n (L' := [_, _, _, _]) dX12_whatever_56 rfl (by decide) rfl rfl ?_
        refine Z_iinc (L' := [_, _, _, _]) dX12_whatever_57 rfl (by rfl : _ + Int32.ofInt 1 = _ + 1) (by decide) rfl rfl ?_
        refine Z_goto (tgt := 8) dX12_whatever_60 (by decide) ?_
        rw [nI_1]
        first
          | (rw [if_pos (show zwh A.1 k = true from b2i_ne.mp h45)] at hor; rw [hor]; exact ih (k + 1) (by omega) δ _ hw2.1 hf2)
          | (rw [if_neg (show ¬ zwh A.1 k = true from fun z => by rw [show zwh A.1 k = false from b2i_eq.mp h45] at z; exact absurd z (by decide))] at hor; rw [hor]; exact ih (k + 1) (by omega) δ _ hw2.1 hf2)
    refine Z_iload_n dX12_whatever_8 rfl rfl ?_
    refine Z_iconst (v := 3) dX12_whatever_9 (by decide) ?_
    refine Z_icmp_ge (tgt := 63) dX12_whatever_10 (by decide) (fun h10 => ?_) (fun h10 => ?_)
    · skip
      exact absurd h10 (nI_ge (a := k) (b := 3) (by omega) (by omega))
    · skip
      refine Z_iconst (v := 0) dX12_whatever_13 (by decide) ?_
      refine Z_istore_n (L' := [_, _, _, _]) dX12_whatever_14 rfl (by decide) rfl rfl ?_
      refine lp_clear (i0 := 0) (α := α) step 5832 0 rfl β hw hf (fun q hq => absurd hq (by omega))
theorem c_mwhatever (hr : MRel A α) (hb : A.2.2.2 + 3 < 1000) (h : ∀ β, MRel (zup A 2) β → frI mId α β → post (some (.int (sp_whatever A.1))) β) : ZK G (d + 40) mX12_whatever [.ref (G.1 + 34)] α post := by
  have hm := hr.mw
  have b5 : A.1.1 5 ≤ 99 := hr.2.1.at (by omega) rfl
  have b := zsb hr.2.1 (show 0 ≤ 2 by omega)
  refine ZK.of (n := 3) (by decide) (Nat.le_of_ble_eq_true rfl) rfl ?_
  refine Z_aload_n dX12_whatever_0 rfl rfl ?_
  refine Z_V0z (ci := 12) dX12_whatever_1 to_X12_looks lk_X12_246 iv_X12_looks ⟨rfl, rfl⟩ (mw_i34 hm) (Nat.le_of_ble_eq_true rfl) ⟨rfl, rfl⟩ ⟨by decide, by decide⟩ ?_
  refine c_look hr hb (fun β t hw hf _ _ _ => ?_)
  refine Z_iconst (v := 0) dX12_whatever_4 (by decide) ?_
  refine Z_istore_n (L' := [_, _, _, _]) dX12_whatever_5 rfl (by decide) rfl rfl ?_
  refine Z_iconst (v := 0) dX12_whatever_6 (by decide) ?_
  refine Z_istore_n (L' := [_, _, _, _]) dX12_whatever_7 rfl (by decide) rfl rfl ?_
  exact lp_what (A := zup A 1) (t := t) (d := d + 18) (by show A.1.1 5 + zrest A.1.1 < 500; omega) (fun γ hw1 hf1 => h γ (hw1.1.up' (by omega)) (hf.tr hf1)) 3 0 rfl β none hw frI.rf
end MS1
