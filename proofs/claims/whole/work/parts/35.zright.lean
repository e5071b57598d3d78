section MR1
variable {G : ZG} {d : Nat} {α β : AH} {post : Option Value → AH → Prop} {A : ZA} {t D R : Nat}
/-- the best sum if on the first day of sort x nothing is done -/
def zbrN (cn : ZCn) (pay : Nat → Nat) (x : Nat) : Nat → Nat → Nat
  | 0, _ => 0
  | n + 1, q => zsum (fun s => if s = x then zbest cn pay (zd q s) else zmx (zbrN cn pay x n) zoq cn pay (zd q s) s 3) q
def zbr (cn : ZCn) (pay : Nat → Nat) (x q : Nat) : Nat := zbrN cn pay x (zla q) q
def zbrF (cn : ZCn) (pay : Nat → Nat) (x q s : Nat) : Nat := if s = x then zbest cn pay (zd q s) else zmx (zbr cn pay x) zoq cn pay (zd q s) s 3
theorem zbr_eq {cn : ZCn} {pay : Nat → Nat} {x q : Nat} (hq : q < 5832) : zbr cn pay x q = zsum (zbrF cn pay x q) q := by
  cases hn : zla q with
  | zero =>
    have : zsum (zbrF cn pay x q) q = zsum (fun _ => 0) q := zsum_cg (fun s hs hp => by have := zl_zla (q := q) hs; omega)
    rw [this]
    unfold zbr
    rw [hn]
    show 0 = zsum (fun _ => 0) q
    unfold zsum
    split <;> split <;> split <;> rfl
  | succ n =>
    have e1 : zbr cn pay x q = zsum (fun s => if s = x then zbest cn pay (zd q s) else zmx (zbrN cn pay x n) zoq cn pay (zd q s) s 3) q := by
      show zbrN cn pay x (zla q) q = _
      rw [hn]; rfl
    rw [e1]
    refine zsum_cg (fun s hs hp => ?_)
    unfold zbrF
    by_cases e : s = x
    · rw [if_pos e, if_pos e]
    · rw [if_neg e, if_neg e]
      have ok := zd_ok hq hs hp
      refine zmx_cg ?_ (fun k hk hc => ?_) 3 (by omega)
      · show zbrN cn pay x n _ = zbrN cn pay x (zla (zd q s)) _
        rw [show zla (zd q s) = n by omega]
      · have hg := zcan_g hc
        show zbrN cn pay x n _ = zbrN cn pay x (zla (zdo (zd q s) k)) _
        rw [zdo_la ok.2.1 hk hg, show zla (zd q s) = n by omega]
theorem zoq_do {q k : Nat} (hq : q < 5832) (hk : k < 3) (hg : zg q k < 2) : zoq (zdo q k) = zoq q := by
  have := (zdw_ok hq (w := k) (Or.inr ⟨hk, hg⟩)).2.2
  rw [show zdw q k = zdo q k from if_neg (by omega)] at this
  exact this
theorem zbr_le {cn : ZCn} {pay : Nat → Nat} {x : Nat} : ∀ (n q : Nat), q < 5832 → zla q = n → zbr cn pay x q ≤ zoq q * zpl pay q := by
  intro n
  induction n with
  | zero =>
    intro q hq hn
    unfold zbr
    rw [hn]
    exact Nat.zero_le _
  | succ n ih =>
    intro q hq hn
    rw [zbr_eq hq, zoq_rec hq (by omega), ← zsum_mul]
    refine zsum_le (fun s hs hp => ?_)
    have ok := zd_ok hq hs hp
    rw [← zpl_d hq hs hp]
    unfold zbrF
    by_cases e : s = x
    · rw [if_pos e]; exact zbest_le _ _ ok.2.1 rfl
    · rw [if_neg e]
      refine zmx_le (c := zoq) ok.2.1 (ih _ ok.2.1 (by omega)) (fun k hk hc => ?_) 3 (by omega)
      have hg := zcan_g hc
      have := ih _ (zdo_ok ok.2.1 hk hg).1 (by rw [zdo_la ok.2.1 hk hg]; omega)
      rw [zoq_do ok.2.1 hk hg] at this
      exact this
theorem zbr_lt {cn : ZCn} {pay : Nat → Nat} {x : Nat} (hp : ∀ k, k < 3 → pay k ≤ 99) {q : Nat} (hq : q < 5832) : zbr cn pay x q ≤ 224756532 :=
  Nat.le_trans (zbr_le _ q hq rfl) (Nat.le_trans (Nat.mul_le_mul (zoq_le hq) (zpl_le hp)) (by decide))
theorem zbmx_lt {cn : ZCn} {pay : Nat → Nat} {x : Nat} (hp : ∀ k, k < 3 → pay k ≤ 99) {q s k : Nat} (hq : q < 5832) (hk : k ≤ 3) : zmx (zbr cn pay x) zoq cn pay q s k ≤ 224756532 := by
  have h1 := zmx_le (M := zbr cn pay x) (c := zoq) (cn := cn) (pay := pay) (s := s) hq (zbr_le _ q hq rfl) (fun k hk hc => by
    have := zbr_le (cn := cn) (pay := pay) (x := x) _ _ (zdo_ok hq hk (zcan_g hc)).1 rfl
    rw [zoq_do hq hk (zcan_g hc)] at this
    exact this) k hk
  exact Nat.le_trans h1 (Nat.le_trans (Nat.mul_le_mul (zoq_le hq) (zpl_le hp)) (by decide))
def mRM (α : AH) (t : Nat) (cn : ZCn) (pay : Nat → Nat) (x : Nat) : Prop := ∀ q, q < 5832 → hI α 50 q = nI t → hJ α 49 q = lN (zbr cn pay x q)
def mGr (A : ZA) (t D R x : Nat) (α : AH) : Prop := mLk A t D R α ∧ mRM α t (zcn A.1 (D + R)) (sp_pay A.1.1) x
def Fr (k : Nat) : Prop := Fb k ∨ k = 49 ∨ k = 50
theorem mGr.fb {x : Nat} (h : mGr A t D R x α) (hf : frI Fb α β) (hw : mLk A t D R β) : mGr A t D R x β := by
  refine ⟨hw, fun q hq => ?_⟩
  rw [(hf.2.2.2 50 (by unfold Fb; omega)).1, (hf.2.2.2 49 (by unfold Fb; omega)).2]
  exact h.2 q hq
theorem mGr.put {x q : Nat} (h : mGr A t D R x α) : mGr A t D R x (sJ (sI α 50 q (nI t)) 49 q (lN (zbr (zcn A.1 (D + R)) (sp_pay A.1.1) x q))) := by
  obtain ⟨hl, hm⟩ := h
  have hst : mStamp (sJ (sI α 50 q (nI t)) 49 q (lN (zbr (zcn A.1 (D + R)) (sp_pay A.1.1) x q))) t := hl.2.1.1.sr (Or.inr (Or.inr (Or.inr rfl))) (Nat.le_refl t)
  refine ⟨hl.rows (F := fun k => k = 49 ∨ k = 50) ((frI.sI (by omega)).tr (frI.sJ (by omega))) (by decide) hst, fun q' hq' e => ?_⟩
  have e2 : hI (sI α 50 q (nI t)) 50 q' = nI t := e
  rw [hJ_sJ]
  by_cases hx : q' = q
  · subst hx; rw [if_pos ⟨rfl, rfl⟩]
  · rw [if_neg (fun z => hx z.2)]
    rw [hI_sI, if_neg (fun z => hx z.2)] at e2
    exact hm q' hq' e2
def mBar (G : ZG) (A : ZA) (t D R d x n : Nat) : Prop := ∀ (q : Nat) (α : AH) (post : Option Value → AH → Prop), q < 5832 → zla q = n → n ≤ D + R → mGr A t D R x α → (∀ β, mGr A t D R x β → frI Fr α β → post (some (.long (lN (zbr (zcn A.1 (D + R)) (sp_pay A.1.1) x q)))) β) → ZK G (d + n + 40) mX12_barred [.ref (G.1 + 34), .int (nI q), .int (nI x)] α post
theorem lp_barIn {m q s p x y : Nat} (hT2 : D + R < 500) (hG : mBar G A t D R d x m) (hp5 : p < 5832) (hs : s < 3) (hx3 : x < 3) (hsx : ¬ s = x) (hn : zla p = m) (hnT : m + 1 ≤ D + R) (hpl : ∀ k, k < 3 → sp_pay A.1.1 k ≤ 99)
    (h : ∀ (γ : AH) (x9 x10 : Option Value), mGr A t D R x γ → frI Fr α γ → Z G mX12_barred (d + m + 40 + 1) 157 [some (.ref (G.1 + 34)), some (.int (nI q)), some (.int (nI x)), some (.long (lN y)), none, some (.int (nI s)), some (.int (nI p)), some (.long (lN (zmx (zbr (zcn A.1 (D + R)) (sp_pay A.1.1) x) zoq (zcn A.1 (D + R)) (sp_pay A.1.1) p s 3))), none, x9, x10, none] [] γ (0, 0) post) :
    ∀ (j k : Nat), k + j = 3 → ∀ (γ : AH) (x10 : Option Value), mGr A t D R x γ → frI Fr α γ → Z G mX12_barred (d + m + 40 + 1) 75 [some (.ref (G.1 + 34)), some (.int (nI q)), some (.int (nI x)), some (.long (lN y)), none, some (.int (nI s)), some (.int (nI p)), some (.long (lN (zmx (zbr (zcn A.1 (D + R)) (sp_pay A.1.1) x) zoq (zcn A.1 (D + R)) (sp_pay A.1.1) p s k))), none, some (.int (nI k)), x10, none] [] γ (0, 0) post := by
  intro j
  induction j with
  | zero =>
    intro k hk γ x10 hw hf
    have hk : k = 3 := by omega
    subst hk
    refine Z_iload dX12_barred_75 rfl ?_
    refine Z_iconst (v := 3) dX12_barred_77 (by decide) ?_
    refine Z_icmp_ge (tgt := 157) dX12_barred_78 (by decide) (fun h78 => ?_) (fun h78 => ?_)
    · skip
      exact h γ _ _ hw hf
    · skip
      exact absurd (by decide) h78
  | succ j ih =>
    intro k hk γ x10 hw hf
    have hm := hw.1.1.mw
    have hxl := zbmx_lt (cn := zcn A.1 (D + R)) hpl (x := x) (s := s) (k := k) hp5 (by omega)
    have hxl2 := zbmx_lt (cn := zcn A.1 (D + R)) hpl (x := x) (s := s) (k := k + 1) hp5 (by omega)
    have ih := fun γ x10 => ih (k + 1) (by omega) γ x10
    have est : zmx (zbr (zcn A.1 (D + R)) (sp_pay A.1.1) x) zoq (zcn A.1 (D + R)) (sp_pay A.1.1) p s (k + 1) = max (zmx (zbr (zcn A.1 (D + R)) (sp_pay A.1.1) x) zoq (zcn A.1 (D + R)) (sp_pay A.1.1) p s k) (if zcan (zcn A.1 (D + R)) p s k = true then zoq p * zpays (sp_pay A.1.1) p k + zbr (zcn A.1 (D + R)) (sp_pay A.1.1) x (zdo p k) else 0) := rfl
    rw [est] at ih hxl2
    generalize zmx (zbr (zcn A.1 (D + R)) (sp_pay A.1.1) x) zoq (zcn A.1 (D + R)) (sp_pay A.1.1) p s k = a at *
    have tail : ∀ (v : Nat) (δ : AH), v = (if zcan (zcn A.1 (D + R)) p s k = true then zoq p * zpays (sp_pay A.1.1) p k + zbr (zcn A.1 (D + R)) (sp_pay A.1.1) x (zdo p k) else 0) → mGr A t D R x δ → frI Fr α δ → Z G mX12_barred (d + m + 40 + 1) 132 [some (.ref (G.1 + 34)), some (.int (nI q)), some (.int (nI x)), some (.long (lN y)), none, some (.int (nI s)), some (.int (nI p)), some (.long (lN a)), none, some (.int (nI k)), x10, none] [.long (lN v)] δ (0, 0) post := by
      intro v δ ev hw1 hf1
      rw [← ev] at ih hxl2
      have hv : v ≤ 224756532 := by omega
      refine Z_lstore (L' := [_, _, _, _, _, _, _, _, _, _, _, _]) dX12_barred_132 (by decide) rfl rfl ?_
      refine Z_lload dX12_barred_134 rfl ?_
      refine Z_lload dX12_barred_136 rfl ?_
      refine Z_lcmp dX12_barred_138 ?_
      refine Z_if_le (tgt := 147) dX12_barred_139 (by decide) (fun h139 => ?_) (fun h139 => ?_)
      · skip
        refine Z_lload dX12_barred_147 rfl ?_
        refine Z_lstore (L' := [_, _, _, _, _, _, _, _, _, _, _, _]) dX12_barred_149 (by decide) rfl rfl ?_
        refine Z_iinc (L' := [_, _, _, _, _, _, _, _, _, _, _, _]) dX12_barred_151 rfl (by rfl : _ + Int32.ofInt 1 = _ + 1) (by decide) rfl rfl ?_
        refine Z_goto (tgt := 75) dX12_barred_154 (by decide) ?_
        rw [nI_1]
        first
          | (have hle : v ≤ a := (pk_lLE (by omega) (by omega)).mp (lg_gt.mp h139)
             have := ih δ (some (.long (lN v))) hw1 hf1
             rw [Nat.max_eq_left hle] at this
             exact this)
          | (have hle : a ≤ v := Nat.le_of_not_le (fun z => h139 (lg_gt.mpr ((pk_lLE (by omega) (by omega)).mpr z)))
             have := ih δ (some (.long (lN v))) hw1 hf1
             rw [Nat.max_eq_right hle] at this
             exact this)
      · skip
        refine Z_lload dX12_barred_142 rfl ?_
        refine Z_goto (tgt := 149) dX12_barred_144 (by decide) ?_
        refine Z_lstore (L' := [_, _, _, _, _, _, _, _, _, _, _, _]) dX12_barred_149 (by decide) rfl rfl ?_
        refine Z_iinc (L' := [_, _, _, _, _, _, _, _, _, _, _, _]) dX12_barred_151 rfl (by rfl : _ + Int32.ofInt 1 = _ + 1) (by decide) rfl rfl ?_
        refine Z_goto (tgt := 75) dX12_barred_154 (by decide) ?_
        rw [nI_1]
        first
          | (have hle : v ≤ a := (pk_lLE (by omega) (by omega)).mp (lg_gt.mp h139)
             have := ih δ (some (.long (lN v))) hw1 hf1
             rw [Nat.max_eq_left hle] at this
             exact this)
          | (have hle : a ≤ v := Nat.le_of_not_le (fun z => h139 (lg_gt.mpr ((pk_lLE (by omega) (by omega)).mpr z)))
             have := ih δ (some (.long (lN v))) hw1 hf1
             rw [Nat.max_eq_right hle] at this
             exact this)
    refine Z_iload dX12_barred_75 rfl ?_
    refine Z_iconst (v := 3) dX12_barred_77 (by decide) ?_
    refine Z_icmp_ge (tgt := 157) dX12_barred_78 (by decide) (fun h78 => ?_) (fun h78 => ?_)
    · skip
      exact absurd h78 (nI_ge (a := k) (b := 3) (by omega) (by omega))
    · skip
      refine Z_iload dX12_barred_81 rfl ?_
      refine Z_iload_n dX12_barred_83 rfl rfl ?_
      refine Z_icmp_eq (tgt := 157) dX12_barred_84 (by decide) (fun h84 => ?_) (fun h84 => ?_)
      · skip
        exact absurd ((nI_eq (by omega) (by omega)).mp h84) hsx
      · skip
        refine Z_aload_n dX12_barred_87 rfl rfl ?_
        refine Z_iload dX12_barred_88 rfl ?_
        refine Z_iload dX12_barred_90 rfl ?_
        refine Z_iload dX12_barred_92 rfl ?_
        refine Z_V3z (ci := 12) dX12_barred_94 to_X12_can lk_X12_206 iv_X12_can ⟨rfl, rfl⟩ (mw_i34 hm) (Nat.le_of_ble_eq_true rfl) ⟨rfl, rfl⟩ ⟨by decide, by decide⟩ ?_
        refine c_can hw.1 hp5 hs (by omega) (by omega) hT2 (fun δ hw1 hf1 => ?_)
        have hm := hw1.1.mw
        have hw1 := hw.fb (hf1.mono (fun k hk => by unfold Fb; omega)) hw1
        have hf1 : frI Fr α δ := hf.tr (hf1.mono (fun k hk => by unfold Fr Fb; omega))
        refine Z_if_eq (tgt := 131) dX12_barred_97 (by decide) (fun h97 => ?_) (fun h97 => ?_)
        · skip
          refine Z_lconst (v := 0) dX12_barred_131 (by decide) ?_
          first
            | exact tail _ ε (by rw [if_pos hc]) hw2 hf2
            | exact tail 0 δ (by rw [if_neg (fun z => by rw [b2i_eq.mp h97] at z; exact absurd z (by decide))]) hw1 hf1
        · skip
          refine Z_iload dX12_barred_100 rfl ?_
          refine Z_S1z dX12_barred_102 to_X12_ordersOf lk_X12_209 sc_X12_ordersOf (Nat.le_of_ble_eq_true rfl) ⟨rfl, rfl⟩ ⟨by decide, by decide⟩ ?_
          refine c_ordersOf hp5 ?_
          refine Z_aload_n dX12_barred_105 rfl rfl ?_
          refine Z_iload dX12_barred_106 rfl ?_
          refine Z_iload dX12_barred_108 rfl ?_
          refine Z_V2z (ci := 12) dX12_barred_110 to_X12_pays lk_X12_212 iv_X12_pays ⟨rfl, rfl⟩ (mw_i34 hm) (Nat.le_of_ble_eq_true rfl) ⟨rfl, rfl⟩ ⟨by decide, by decide⟩ ?_
          rw [← wI_nI (w := k) (by omega)]
          refine c_pays hp5 (by omega) hw1.1.1 ?_
          rw [wI_nI (w := k) (by omega)]
          refine Z_i2l dX12_barred_113 ?_
          rw [nI_l (by have := zpays_le hpl (q := p) (w := k) (by omega); omega)]
          refine Z_lmul dX12_barred_114 ?_
          rw [lN_mul]
          refine Z_aload_n dX12_barred_115 rfl rfl ?_
          refine Z_iload dX12_barred_116 rfl ?_
          refine Z_iload dX12_barred_118 rfl ?_
          refine Z_S2z dX12_barred_120 to_X12_done lk_X12_215 sc_X12_done (Nat.le_of_ble_eq_true rfl) ⟨rfl, rfl⟩ ⟨by decide, by decide⟩ ?_
          rw [← wI_nI (w := k) (by omega)]
          refine c_done (by omega) ?_
          rw [wI_nI (w := k) (by omega), show zdw p k = zdo p k from if_neg (by omega)]
          refine Z_iload_n dX12_barred_123 rfl rfl ?_
          refine Z_V2z (ci := 12) dX12_barred_124 to_X12_barred lk_X12_284 iv_X12_barred ⟨rfl, rfl⟩ (mw_i34 hm) (Nat.le_of_ble_eq_true rfl) ⟨rfl, rfl⟩ ⟨by decide, by decide⟩ ?_
          have hc := b2i_ne.mp h97
          have hg := zcan_g hc
          refine hG _ _ _ (zdo_ok hp5 (by omega) hg).1 (by rw [zdo_la hp5 (by omega) hg]; exact hn) (by omega) hw1 (fun ε hw2 hf2 => ?_)
          have hm := hw2.1.1.mw
          have hf2 : frI Fr α ε := hf1.tr hf2
          refine Z_ladd dX12_barred_127 ?_
          rw [lN_add]
          refine Z_goto (tgt := 132) dX12_barred_128 (by decide) ?_
          first
            | exact tail _ ε (by rw [if_pos hc]) hw2 hf2
            | exact tail 0 δ (by rw [if_neg (fun z => by rw [b2i_eq.mp h97] at z; exact absurd z (by decide))]) hw1 hf1
theorem lp_bar {n q x : Nat} (hT2 : D + R < 500) (hx3 : x < 3) (hG : ∀ m, n = m + 1 → mBar G A t D R d x m) (hq : q < 5832) (hn : zla q = n) (hnT : n ≤ D + R)
    (h : ∀ β, mGr A t D R x β → frI Fr α β → post (some (.long (lN (zbr (zcn A.1 (D + R)) (sp_pay A.1.1) x q)))) β) :
    ∀ (j s : Nat), s + j = 3 → ∀ (β : AH) (x6 x7 x9 x10 : Option Value), mGr A t D R x β → frI Fr α β → Z G mX12_barred (d + n + 40) 25 [some (.ref (G.1 + 34)), some (.int (nI q)), some (.int (nI x)), some (.long (lN (zpart (zbrF (zcn A.1 (D + R)) (sp_pay A.1.1) x q) q s))), none, some (.int (nI s)), x6, x7, none, x9, x10, none] [] β (0, 0) post := by
  intro j
  induction j with
  | zero =>
    intro s hs β x6 x7 x9 x10 hw hf
    have hs : s = 3 := by omega
    subst hs
    have hm := hw.1.1.mw
    rw [zpart3, ← zbr_eq hq]
    refine Z_iload dX12_barred_25 rfl ?_
    refine Z_iconst (v := 3) dX12_barred_27 (by decide) ?_
    refine Z_icmp_ge (tgt := 168) dX12_barred_28 (by decide) (fun h28 => ?_) (fun h28 => ?_)
    · skip
      refine Z_aload_n dX12_barred_168 rfl rfl ?_
      refine Z_getR dX12_barred_169 cl_12 fl_X12_59_12 rfl (mw_i34 hm) (mw_p34_25 hm) ?_
      refine Z_iload_n dX12_barred_172 rfl rfl ?_
      refine Z_aload_n dX12_barred_173 rfl rfl ?_
      refine Z_getIv dX12_barred_174 cl_12 fl_X12_188_12 rfl (mw_i34 hm) hw.1.2.1.1.2.1 ?_
      refine Z_iast dX12_barred_177 (mw_i50 hm) (zix_nI (by omega) (by decide)) ?_
      refine Z_aload_n dX12_barred_178 rfl rfl ?_
      refine Z_getR dX12_barred_179 cl_12 fl_X12_56_12 rfl (mw_i34 hm) (mw_p34_24 hm) ?_
      refine Z_iload_n dX12_barred_182 rfl rfl ?_
      refine Z_lload_n dX12_barred_183 rfl rfl ?_
      refine Z_last dX12_barred_184 (mw_i49 hm) (zix_nI (by omega) (by decide)) ?_
      refine Z_lload_n dX12_barred_185 rfl rfl ?_
      refine Z_lret dX12_barred_186 rfl ⟨by decide, by decide⟩ ?_
      exact h _ hw.put ((hf.tr (frI.sI (by unfold Fr; omega))).tr (frI.sJ (by unfold Fr; omega)))
    · skip
      exact absurd (by decide) h28
  | succ j ih =>
    intro s hs β x6 x7 x9 x10 hw hf
    have hm := hw.1.1.mw
    have hl := zl_le (s := s) hq
    have hpl := sp_pay_le hw.1.1.2.1
    have ih := fun γ x6 x7 x9 x10 => ih (s + 1) (by omega) γ x6 x7 x9 x10
    have est : zpart (zbrF (zcn A.1 (D + R)) (sp_pay A.1.1) x q) q (s + 1) = zpart (zbrF (zcn A.1 (D + R)) (sp_pay A.1.1) x q) q s + (if 0 < zl q s then zbrF (zcn A.1 (D + R)) (sp_pay A.1.1) x q s else 0) := rfl
    rw [est] at ih
    generalize zpart (zbrF (zcn A.1 (D + R)) (sp_pay A.1.1) x q) q s = y at *
    by_cases hp : 0 < zl q s
    · rw [if_pos hp] at ih
      have ok := zd_ok hq (show s < 3 by omega) hp
      obtain ⟨m, em⟩ : ∃ m, n = m + 1 := ⟨n - 1, by omega⟩
      subst em
      rw [show d + (m + 1) + 40 = d + m + 40 + 1 by omega] at ih ⊢
      have em2 : zla (zd q s) = m := by omega
      have hG := hG m rfl
      have next : ∀ (v : Nat) (γ : AH) (x9 x10 : Option Value), v = zbrF (zcn A.1 (D + R)) (sp_pay A.1.1) x q s → mGr A t D R x γ → frI Fr α γ → Z G mX12_barred (d + m + 40 + 1) 157 [some (.ref (G.1 + 34)), some (.int (nI q)), some (.int (nI x)), some (.long (lN y)), none, some (.int (nI s)), some (.int (nI (zd q s))), some (.long (lN v)), none, x9, x10, none] [] γ (0, 0) post := by
        intro v γ x9 x10 ev hw1 hf1
        rw [← ev] at ih
        refine Z_lload_n dX12_barred_157 rfl rfl ?_
        refine Z_lload dX12_barred_158 rfl ?_
        refine Z_ladd dX12_barred_160 ?_
        rw [lN_add]
        refine Z_lstore_n (L' := [_, _, _, _, _, _, _, _, _, _, _, _]) dX12_barred_161 rfl (by decide) rfl rfl ?_
        refine Z_iinc (L' := [_, _, _, _, _, _, _, _, _, _, _, _]) dX12_barred_162 rfl (by rfl : _ + Int32.ofInt 1 = _ + 1) (by decide) rfl rfl ?_
        refine Z_goto (tgt := 25) dX12_barred_165 (by decide) ?_
        rw [nI_1]
        exact ih γ _ _ _ _ hw1 hf1
      by_cases hsx : s = x
      · have ev : zbest (zcn A.1 (D + R)) (sp_pay A.1.1) (zd q s) = zbrF (zcn A.1 (D + R)) (sp_pay A.1.1) x q s := by unfold zbrF; rw [if_pos hsx]
        refine Z_iload dX12_barred_25 rfl ?_
        refine Z_iconst (v := 3) dX12_barred_27 (by decide) ?_
        refine Z_icmp_ge (tgt := 168) dX12_barred_28 (by decide) (fun h28 => ?_) (fun h28 => ?_)
        · skip
          exact absurd h28 (nI_ge (a := s) (b := 3) (by omega) (by omega))
        · skip
          refine Z_iload_n dX12_barred_31 rfl rfl ?_
          refine Z_iload dX12_barred_32 rfl ?_
          refine Z_S2z dX12_barred_34 to_X12_left lk_X12_172 sc_X12_left (Nat.le_of_ble_eq_true rfl) ⟨rfl, rfl⟩ ⟨by decide, by decide⟩ ?_
          refine c_left hq (by omega) ?_
          refine Z_if_le (tgt := 162) dX12_barred_37 (by decide) (fun h37 => ?_) (fun h37 => ?_)
          · skip
            exact absurd h37 (nI_nle hp (by omega))
          · skip
            refine Z_iload_n dX12_barred_40 rfl rfl ?_
            refine Z_iload dX12_barred_41 rfl ?_
            refine Z_S2z dX12_barred_43 to_X12_drawn lk_X12_218 sc_X12_drawn (Nat.le_of_ble_eq_true rfl) ⟨rfl, rfl⟩ ⟨by decide, by decide⟩ ?_
            refine c_drawn hq (by omega) ok.1 ?_
            refine Z_istore (L' := [_, _, _, _, _, _, _, _, _, _, _, _]) dX12_barred_46 (by decide) rfl rfl ?_
            refine Z_iload dX12_barred_48 rfl ?_
            refine Z_iload_n dX12_barred_50 rfl rfl ?_
            refine Z_icmp_ne (tgt := 63) dX12_barred_51 (by decide) (fun h51 => ?_) (fun h51 => ?_)
            · skip
              exact absurd (by rw [hsx]) h51
            · skip
              refine Z_aload_n dX12_barred_54 rfl rfl ?_
              refine Z_iload dX12_barred_55 rfl ?_
              refine Z_V1z (ci := 12) dX12_barred_57 to_X12_best lk_X12_202 iv_X12_best ⟨rfl, rfl⟩ (mw_i34 hm) (Nat.le_of_ble_eq_true rfl) ⟨rfl, rfl⟩ ⟨by decide, by decide⟩ ?_
              refine c_best hw.1 hT2 ok.2.1 (by omega) (fun γ hw1 hf1 => ?_)
              have hw1 := hw.fb hf1 hw1
              have hf1 : frI Fr α γ := hf.tr (hf1.mono (fun k hk => Or.inl hk))
              refine Z_goto (tgt := 70) dX12_barred_60 (by decide) ?_
              refine Z_lstore (L' := [_, _, _, _, _, _, _, _, _, _, _, _]) dX12_barred_70 (by decide) rfl rfl ?_
              refine Z_iconst (v := 0) dX12_barred_72 (by decide) ?_
              refine Z_istore (L' := [_, _, _, _, _, _, _, _, _, _, _, _]) dX12_barred_73 (by decide) rfl rfl ?_
              refine Z_iload dX12_barred_75 rfl ?_
              refine Z_iconst (v := 3) dX12_barred_77 (by decide) ?_
              refine Z_icmp_ge (tgt := 157) dX12_barred_78 (by decide) (fun h78 => ?_) (fun h78 => ?_)
              · skip
                exact absurd h78 (by decide)
              · skip
                refine Z_iload dX12_barred_81 rfl ?_
                refine Z_iload_n dX12_barred_83 rfl rfl ?_
                refine Z_icmp_eq (tgt := 157) dX12_barred_84 (by decide) (fun h84 => ?_) (fun h84 => ?_)
                · skip
                  exact next _ γ _ _ ev hw1 hf1
                · skip
                  exact absurd (by rw [hsx]) h84
      · have ev : zmx (zbr (zcn A.1 (D + R)) (sp_pay A.1.1) x) zoq (zcn A.1 (D + R)) (sp_pay A.1.1) (zd q s) s 3 = zbrF (zcn A.1 (D + R)) (sp_pay A.1.1) x q s := by unfold zbrF; rw [if_neg hsx]
        refine Z_iload dX12_barred_25 rfl ?_
        refine Z_iconst (v := 3) dX12_barred_27 (by decide) ?_
        refine Z_icmp_ge (tgt := 168) dX12_barred_28 (by decide) (fun h28 => ?_) (fun h28 => ?_)
        · skip
          exact absurd h28 (nI_ge (a := s) (b := 3) (by omega) (by omega))
        · skip
          refine Z_iload_n dX12_barred_31 rfl rfl ?_
          refine Z_iload dX12_barred_32 rfl ?_
          refine Z_S2z dX12_barred_34 to_X12_left lk_X12_172 sc_X12_left (Nat.le_of_ble_eq_true rfl) ⟨rfl, rfl⟩ ⟨by decide, by decide⟩ ?_
          refine c_left hq (by omega) ?_
          refine Z_if_le (tgt := 162) dX12_barred_37 (by decide) (fun h37 => ?_) (fun h37 => ?_)
          · skip
            exact absurd h37 (nI_nle hp (by omega))
          · skip
            refine Z_iload_n dX12_barred_40 rfl rfl ?_
            refine Z_iload dX12_barred_41 rfl ?_
            refine Z_S2z dX12_barred_43 to_X12_drawn lk_X12_218 sc_X12_drawn (Nat.le_of_ble_eq_true rfl) ⟨rfl, rfl⟩ ⟨by decide, by decide⟩ ?_
            refine c_drawn hq (by omega) ok.1 ?_
            refine Z_istore (L' := [_, _, _, _, _, _, _, _, _, _, _, _]) dX12_barred_46 (by decide) rfl rfl ?_
            refine Z_iload dX12_barred_48 rfl ?_
            refine Z_iload_n dX12_barred_50 rfl rfl ?_
            refine Z_icmp_ne (tgt := 63) dX12_barred_51 (by decide) (fun h51 => ?_) (fun h51 => ?_)
            · skip
              refine Z_aload_n dX12_barred_63 rfl rfl ?_
              refine Z_iload dX12_barred_64 rfl ?_
              refine Z_iload_n dX12_barred_66 rfl rfl ?_
              refine Z_V2z (ci := 12) dX12_barred_67 to_X12_barred lk_X12_284 iv_X12_barred ⟨rfl, rfl⟩ (mw_i34 hm) (Nat.le_of_ble_eq_true rfl) ⟨rfl, rfl⟩ ⟨by decide, by decide⟩ ?_
              refine hG _ _ _ ok.2.1 em2 (by omega) hw (fun γ hw1 hf1 => ?_)
              have hf1 : frI Fr α γ := hf.tr hf1
              refine Z_lstore (L' := [_, _, _, _, _, _, _, _, _, _, _, _]) dX12_barred_70 (by decide) rfl rfl ?_
              refine Z_iconst (v := 0) dX12_barred_72 (by decide) ?_
              refine Z_istore (L' := [_, _, _, _, _, _, _, _, _, _, _, _]) dX12_barred_73 (by decide) rfl rfl ?_
              exact lp_barIn hT2 hG ok.2.1 (show s < 3 by omega) hx3 hsx em2 hnT hpl (fun γ x9 x10 hw1 hf1 => next _ γ x9 x10 ev hw1 hf1) 3 0 rfl γ _ hw1 hf1
            · skip
              exact absurd ((nI_eq (by omega) (by omega)).mp h51) hsx
    · rw [if_neg hp, Nat.add_zero] at ih
      refine Z_iload dX12_barred_25 rfl ?_
      refine Z_iconst (v := 3) dX12_barred_27 (by decide) ?_
      refine Z_icmp_ge (tgt := 168) dX12_barred_28 (by decide) (fun h28 => ?_) (fun h28 => ?_)
      · skip
        exact absurd h28 (nI_ge (a := s) (b := 3) (by omega) (by omega))
      · skip
        refine Z_iload_n dX12_barred_31 rfl rfl ?_
        refine Z_iload dX12_barred_32 rfl ?_
        refine Z_S2z dX12_barred_34 to_X12_left lk_X12_172 sc_X12_left (Nat.le_of_ble_eq_true rfl) ⟨rfl, rfl⟩ ⟨by decide, by decide⟩ ?_
        refine c_left hq (by omega) ?_
        refine Z_if_le (tgt := 162) dX12_barred_37 (by decide) (fun h37 => ?_) (fun h37 => ?_)
        · skip
          refine Z_iinc (L' := [_, _, _, _, _, _, _, _, _, _, _, _]) dX12_barred_162 rfl (by rfl : _ + Int32.ofInt 1 = _ + 1) (by decide) rfl rfl ?_
          refine Z_goto (tgt := 25) dX12_barred_165 (by decide) ?_
          rw [nI_1]
          exact ih β _ _ _ _ hw hf
        · skip
          exact absurd (nI_pos0 (by omega) h37) hp
theorem st_bar {n x : Nat} (hT2 : D + R < 500) (hx3 : x < 3) (hG : ∀ m, n = m + 1 → mBar G A t D R d x m) : mBar G A t D R d x n := by
  intro q α post hq hn hnT hw h
  have hm := hw.1.1.mw
  obtain ⟨v, hv1, hv2⟩ := hw.1.2.1.1.2.2.2 50 (Or.inr (Or.inr (Or.inr rfl))) q
  have ht := hw.1.2.1.1.1
  refine ZK.of (n := 9) (by decide) (Nat.le_of_ble_eq_true rfl) rfl ?_
  refine Z_aload_n dX12_barred_0 rfl rfl ?_
  refine Z_getR dX12_barred_1 cl_12 fl_X12_59_12 rfl (mw_i34 hm) (mw_p34_25 hm) ?_
  refine Z_iload_n dX12_barred_4 rfl rfl ?_
  refine Z_ialdv dX12_barred_5 (mw_i50 hm) (zix_nI (by omega) (by decide)) hv2 ?_
  refine Z_aload_n dX12_barred_6 rfl rfl ?_
  refine Z_getIv dX12_barred_7 cl_12 fl_X12_188_12 rfl (mw_i34 hm) hw.1.2.1.1.2.1 ?_
  refine Z_icmp_ne (tgt := 20) dX12_barred_10 (by decide) (fun h10 => ?_) (fun h10 => ?_)
  · skip
    refine Z_lconst (v := 0) dX12_barred_20 (by decide) ?_
    refine Z_lstore_n (L' := [_, _, _, _, _, _, _, _, _, _, _, _]) dX12_barred_21 rfl (by decide) rfl rfl ?_
    refine Z_iconst (v := 0) dX12_barred_22 (by decide) ?_
    refine Z_istore (L' := [_, _, _, _, _, _, _, _, _, _, _, _]) dX12_barred_23 (by decide) rfl rfl ?_
    exact lp_bar hT2 hx3 hG hq hn hnT h 3 0 rfl α none none none none hw frI.rf
  · skip
    refine Z_aload_n dX12_barred_13 rfl rfl ?_
    refine Z_getR dX12_barred_14 cl_12 fl_X12_56_12 rfl (mw_i34 hm) (mw_p34_24 hm) ?_
    refine Z_iload_n dX12_barred_17 rfl rfl ?_
    refine Z_laldv dX12_barred_18 (mw_i49 hm) (zix_nI (by omega) (by decide)) (hw.2 q hq (by rw [hv2]; exact congrArg nI ((nI_eq (by omega) (by omega)).mp h10))) ?_
    refine Z_lret dX12_barred_19 rfl ⟨by decide, by decide⟩ ?_
    exact h α hw frI.rf
theorem mBar_all {x : Nat} (hT2 : D + R < 500) (hx3 : x < 3) : ∀ n, mBar G A t D R d x n
  | 0 => st_bar hT2 hx3 (fun m h => by cases h)
  | n + 1 => st_bar hT2 hx3 (fun m h => by cases h; exact mBar_all hT2 hx3 n)
theorem c_barred {q x : Nat} (hw : mGr A t D R x α) (hT2 : D + R < 500) (hx3 : x < 3) (hq : q < 5832) (hT : zla q ≤ D + R) (h : ∀ β, mGr A t D R x β → frI Fr α β → post (some (.long (lN (zbr (zcn A.1 (D + R)) (sp_pay A.1.1) x q)))) β) : ZK G (d + 55) mX12_barred [.ref (G.1 + 34), .int (nI q), .int (nI x)] α post := by
  have hla := zla_le hq
  have := mBar_all (G := G) (A := A) (t := t) (d := d + (15 - zla q)) hT2 hx3 (zla q) q α post hq rfl hT hw h
  rw [show d + (15 - zla q) + zla q + 40 = d + 55 by omega] at this
  exact this
theorem fr_mid : ∀ k, Fr k → mId k := fun k hk => by unfold Fr Fb at hk; unfold mId; omega
def zRi (S : ZS) (x : Nat) : Nat := zbr (zcn S (S.1 5 + zrest S.1)) (sp_pay S.1) x (zq S.1)
def sp_right (S : ZS) (x p : Int32) : Int64 := if ((0 ≤ x ∧ x ≤ 2) ∧ (0 ≤ p ∧ p ≤ 1)) ∧ S.1 (6 + x.toNatClampNeg) ≠ 0 then lZ (zlow ((zB S : Int) - zRi S x.toNatClampNeg) (zO S) p) else zNO
theorem c_mright {x p : Int32} (hr : MRel A α) (hb : A.2.2.2 + 3 < 1000) (h : ∀ β, MRel (zup A 2) β → frI mId α β → post (some (.long (sp_right A.1 x p))) β) : ZK G (d + 56) mX12_right [.ref (G.1 + 34), .int x, .int p] α post := by
  have hm := hr.mw
  have b5 : A.1.1 5 ≤ 99 := hr.2.1.at (by omega) rfl
  have hq := zq_ok hr.2.1
  have hla := hq.2.1
  have hpl := sp_pay_le hr.2.1
  have ho := zord_ok hr.2.1
  have hB : zB A.1 ≤ _ := zbest_lt (cn := zcn A.1 (A.1.1 5 + zrest A.1.1)) hpl hq.1
  have b0 := zsb hr.2.1 (show 0 ≤ 2 by omega)
  refine ZK.of (n := 0) (by decide) (Nat.le_of_ble_eq_true rfl) rfl ?_
  refine Z_iload_n dX12_right_0 rfl rfl ?_
  refine Z_S1z dX12_right_1 to_X12_isSort lk_X12_73 sc_X12_isSort (Nat.le_of_ble_eq_true rfl) ⟨rfl, rfl⟩ ⟨by decide, by decide⟩ ?_
  refine c_isSort ?_
  refine Z_if_eq (tgt := 28) dX12_right_4 (by decide) (fun h4 => ?_) (fun h4 => ?_)
  · skip
    refine Z_ldc2 dX12_right_28 kc_X12_259 ?_
    refine Z_lret dX12_right_31 rfl ⟨by decide, by decide⟩ ?_
    first
      | (have e : sp_right A.1 x p = zNO := if_neg (fun z => by first | exact dec_f h4 z.1.1 | exact dec_f h13 z.1.2)
         rw [e] at h; exact h α hr.up frI.rf)
      | (have e : sp_right A.1 (nI s) p = zNO := if_neg (fun z => z.2 (by rw [es]; exact (nI_eq (b := 0) (by omega) (by omega)).mp h25))
         rw [e] at h; exact h α hr.up frI.rf)
  · skip
    refine Z_iload_n dX12_right_7 rfl rfl ?_
    refine Z_iconst (v := 0) dX12_right_8 (by decide) ?_
    refine Z_iconst (v := 1) dX12_right_9 (by decide) ?_
    refine Z_S3z dX12_right_10 to_X12_in lk_X12_69 sc_X12_in (Nat.le_of_ble_eq_true rfl) ⟨rfl, rfl⟩ ⟨by decide, by decide⟩ ?_
    refine c_in ?_
    refine Z_if_eq (tgt := 28) dX12_right_13 (by decide) (fun h13 => ?_) (fun h13 => ?_)
    · skip
      refine Z_ldc2 dX12_right_28 kc_X12_259 ?_
      refine Z_lret dX12_right_31 rfl ⟨by decide, by decide⟩ ?_
      first
        | (have e : sp_right A.1 x p = zNO := if_neg (fun z => by first | exact dec_f h4 z.1.1 | exact dec_f h13 z.1.2)
           rw [e] at h; exact h α hr.up frI.rf)
        | (have e : sp_right A.1 (nI s) p = zNO := if_neg (fun z => z.2 (by rw [es]; exact (nI_eq (b := 0) (by omega) (by omega)).mp h25))
           rw [e] at h; exact h α hr.up frI.rf)
    · skip
      obtain ⟨s, hs, rfl⟩ := okS.nI (dec_t h4)
      have b := zsb hr.2.1 hs
      have es : (nI s).toNatClampNeg = s := nI_clamp (by omega)
      refine Z_aload_n dX12_right_16 rfl rfl ?_
      refine Z_getR dX12_right_17 cl_12 fl_X12_9_12 rfl (mw_i34 hm) (mw_p34_1 hm) ?_
      refine Z_bipush (v := 6) dX12_right_20 (by decide) ?_
      refine Z_iload_n dX12_right_22 rfl rfl ?_
      refine Z_iadd dX12_right_23 ?_
      refine Z_ialdv dX12_right_24 (mw_i35 hm) (zix_e (m := 6 + s) (nI_add 6 s) (by omega) (by decide)) (hr.at (by omega) (by omega)) ?_
      refine Z_if_ne (tgt := 32) dX12_right_25 (by decide) (fun h25 => ?_) (fun h25 => ?_)
      · skip
        have r0 : ¬ A.1.1 (6 + s) = 0 := fun z => h25 (by rw [z]; rfl)
        have e : sp_right A.1 (nI s) p = lZ (zlow ((zB A.1 : Int) - zRi A.1 s) (zO A.1) p) := by
          unfold sp_right
          rw [es, if_pos ⟨⟨dec_t h4, dec_t h13⟩, r0⟩]
        rw [e] at h
        refine Z_aload_n dX12_right_32 rfl rfl ?_
        refine Z_V0z (ci := 12) dX12_right_33 to_X12_looks lk_X12_246 iv_X12_looks ⟨rfl, rfl⟩ (mw_i34 hm) (Nat.le_of_ble_eq_true rfl) ⟨rfl, rfl⟩ ⟨by decide, by decide⟩ ?_
        refine c_look hr hb (fun β t hw hf _ _ f50 => ?_)
        have hm := hw.1.mw
        refine Z_aload_n dX12_right_36 rfl rfl ?_
        refine Z_aload_n dX12_right_37 rfl rfl ?_
        refine Z_V0z (ci := 12) dX12_right_38 to_X12_stateNow lk_X12_249 iv_X12_stateNow ⟨rfl, rfl⟩ (mw_i34 hm) (Nat.le_of_ble_eq_true rfl) ⟨rfl, rfl⟩ ⟨by decide, by decide⟩ ?_
        refine c_stateNow hw.1 ?_
        rw [show zq (zup A 1).1.1 = zq A.1.1 from rfl]
        refine Z_V1z (ci := 12) dX12_right_41 to_X12_best lk_X12_202 iv_X12_best ⟨rfl, rfl⟩ (mw_i34 hm) (Nat.le_of_ble_eq_true rfl) ⟨rfl, rfl⟩ ⟨by decide, by decide⟩ ?_
        refine c_best hw (by show A.1.1 5 + zrest A.1.1 < 500; omega) hq.1 (by show _ ≤ A.1.1 5 + zrest A.1.1; omega) (fun γ hw1 hf1 => ?_)
        have hm := hw1.1.mw
        have g50 : mFresh γ t 50 := fun q => by rw [(hf1.2.2.2 50 (by unfold Fb; omega)).1]; exact f50 q
        refine Z_aload_n dX12_right_44 rfl rfl ?_
        refine Z_aload_n dX12_right_45 rfl rfl ?_
        refine Z_V0z (ci := 12) dX12_right_46 to_X12_stateNow lk_X12_249 iv_X12_stateNow ⟨rfl, rfl⟩ (mw_i34 hm) (Nat.le_of_ble_eq_true rfl) ⟨rfl, rfl⟩ ⟨by decide, by decide⟩ ?_
        refine c_stateNow hw1.1 ?_
        rw [show zq (zup A 1).1.1 = zq A.1.1 from rfl]
        refine Z_iload_n dX12_right_49 rfl rfl ?_
        refine Z_V2z (ci := 12) dX12_right_50 to_X12_barred lk_X12_284 iv_X12_barred ⟨rfl, rfl⟩ (mw_i34 hm) (Nat.le_of_ble_eq_true rfl) ⟨rfl, rfl⟩ ⟨by decide, by decide⟩ ?_
        refine c_barred (⟨hw1, fun q hq e => absurd e (g50 q)⟩ : mGr (zup A 1) t (A.1.1 5) (zrest A.1.1) s γ) (by show A.1.1 5 + zrest A.1.1 < 500; omega) (by omega) hq.1 (by show _ ≤ A.1.1 5 + zrest A.1.1; omega) (fun δ hw2 hf2 => ?_)
        have hm := hw2.1.1.mw
        have hp := h δ (hw2.1.1.up' (by omega)) ((hf.tr (hf1.mono fb_mid)).tr (hf2.mono fr_mid))
        rw [show zbest (zcn (zup A 1).1 (A.1.1 5 + zrest A.1.1)) (sp_pay (zup A 1).1.1) (zq A.1.1) = zB A.1 from rfl, show zbr (zcn (zup A 1).1 (A.1.1 5 + zrest A.1.1)) (sp_pay (zup A 1).1.1) s (zq A.1.1) = zRi A.1 s from rfl]
        have hR : zRi A.1 s ≤ _ := zbr_lt (cn := zcn A.1 (A.1.1 5 + zrest A.1.1)) hpl hq.1
        have esub : lN (zB A.1) - lN (zRi A.1 s) = lZ ((zB A.1 : Int) - zRi A.1 s) := by
          rw [← lZ_nat, ← lZ_nat]
          unfold lZ
          rw [← Int64.ofInt_sub]
        refine Z_lsub dX12_right_53 ?_
        rw [esub]
        refine Z_aload_n dX12_right_54 rfl rfl ?_
        refine Z_V0z (ci := 12) dX12_right_55 to_X12_orders lk_X12_276 iv_X12_orders ⟨rfl, rfl⟩ (mw_i34 hm) (Nat.le_of_ble_eq_true rfl) ⟨rfl, rfl⟩ ⟨by decide, by decide⟩ ?_
        refine c_orders hw2.1.1 ?_
        refine Z_iload_n dX12_right_58 rfl rfl ?_
        refine Z_S3z dX12_right_59 to_X12_lowest lk_X12_261 sc_X12_lowest (Nat.le_of_ble_eq_true rfl) ⟨rfl, rfl⟩ ⟨by decide, by decide⟩ ?_
        refine c_lowest (by omega) (by omega) (Nat.lt_of_le_of_lt ho.1 (by decide)) ho.2 ?_
        refine Z_lret dX12_right_62 rfl ⟨by decide, by decide⟩ ?_
        exact hp
      · skip
        refine Z_ldc2 dX12_right_28 kc_X12_259 ?_
        refine Z_lret dX12_right_31 rfl ⟨by decide, by decide⟩ ?_
        first
          | (have e : sp_right A.1 x p = zNO := if_neg (fun z => by first | exact dec_f h4 z.1.1 | exact dec_f h13 z.1.2)
             rw [e] at h; exact h α hr.up frI.rf)
          | (have e : sp_right A.1 (nI s) p = zNO := if_neg (fun z => z.2 (by rw [es]; exact (nI_eq (b := 0) (by omega) (by omega)).mp h25))
             rw [e] at h; exact h α hr.up frI.rf)
end MR1
