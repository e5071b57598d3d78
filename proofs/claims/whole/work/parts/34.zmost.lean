section MM1
variable {G : ZG} {d : Nat} {α β : AH} {post : Option Value → AH → Prop} {A : ZA} {t D R : Nat}
/-- the most over doing nothing and the works below k -/
def zmx (M c : Nat → Nat) (cn : ZCn) (pay : Nat → Nat) (q s : Nat) : Nat → Nat
  | 0 => M q
  | k + 1 => max (zmx M c cn pay q s k) (if zcan cn q s k = true then c q * zpays pay q k + M (zdo q k) else 0)
theorem zmx_cg {M M' c : Nat → Nat} {cn : ZCn} {pay : Nat → Nat} {q s : Nat} (h0 : M q = M' q) (h : ∀ k, k < 3 → zcan cn q s k = true → M (zdo q k) = M' (zdo q k)) : ∀ n, n ≤ 3 → zmx M c cn pay q s n = zmx M' c cn pay q s n
  | 0, _ => h0
  | n + 1, hn => by
    show max _ _ = max _ _
    rw [zmx_cg h0 h n (by omega)]
    by_cases e : zcan cn q s n = true
    · rw [if_pos e, if_pos e, h n (by omega) e]
    · rw [if_neg e, if_neg e]
theorem zmx_le {M c : Nat → Nat} {cn : ZCn} {pay : Nat → Nat} {q s : Nat} (hq : q < 5832) (h0 : M q ≤ c q * zpl pay q) (h : ∀ k, k < 3 → zcan cn q s k = true → M (zdo q k) ≤ c q * zpl pay (zdo q k)) : ∀ n, n ≤ 3 → zmx M c cn pay q s n ≤ c q * zpl pay q
  | 0, _ => h0
  | n + 1, hn => by
    have ih := zmx_le hq h0 h n (by omega)
    refine Nat.max_le.mpr ⟨ih, ?_⟩
    by_cases e : zcan cn q s n = true
    · rw [if_pos e, ← zpl_done hq (show n < 3 by omega) (zcan_g e), Nat.mul_add]
      have := h n (by omega) e
      omega
    · rw [if_neg e]; exact Nat.zero_le _
def zmo (f : Nat → Nat) (q : Nat) : Nat → Nat
  | 0 => 0
  | s + 1 => if 0 < zl q s then max (zmo f q s) (f s) else zmo f q s
theorem zmo_cg {f g : Nat → Nat} {q : Nat} : ∀ n, (∀ s, s < n → 0 < zl q s → f s = g s) → zmo f q n = zmo g q n
  | 0, _ => rfl
  | n + 1, h => by
    show (if 0 < zl q n then max _ _ else _) = (if 0 < zl q n then max _ _ else _)
    rw [zmo_cg n (fun s hs hp => h s (by omega) hp)]
    by_cases e : 0 < zl q n
    · rw [if_pos e, if_pos e, h n (by omega) e]
    · rw [if_neg e, if_neg e]
theorem zmo_le {f : Nat → Nat} {q b : Nat} : ∀ n, (∀ s, s < n → 0 < zl q s → f s ≤ b) → zmo f q n ≤ b
  | 0, _ => Nat.zero_le _
  | n + 1, h => by
    show (if 0 < zl q n then max _ _ else _) ≤ b
    have ih := zmo_le n (fun s hs hp => h s (by omega) hp)
    by_cases e : 0 < zl q n
    · rw [if_pos e]; exact Nat.max_le.mpr ⟨ih, h n (by omega) e⟩
    · rw [if_neg e]; exact ih
def c1 (_ : Nat) : Nat := 1
def zmsN (cn : ZCn) (pay : Nat → Nat) : Nat → Nat → Nat
  | 0, _ => 0
  | n + 1, q => zmo (fun s => zmx (zmsN cn pay n) c1 cn pay (zd q s) s 3) q 3
def zmost (cn : ZCn) (pay : Nat → Nat) (q : Nat) : Nat := zmsN cn pay (zla q) q
theorem zl_zla {q s : Nat} (hs : s < 3) : zl q s ≤ zla q := by
  have : s = 0 ∨ s = 1 ∨ s = 2 := by omega
  unfold zla
  rcases this with rfl | rfl | rfl <;> omega
theorem zmost_eq {cn : ZCn} {pay : Nat → Nat} {q : Nat} (hq : q < 5832) : zmost cn pay q = zmo (fun s => zmx (zmost cn pay) c1 cn pay (zd q s) s 3) q 3 := by
  cases hn : zla q with
  | zero =>
    have : zmo (fun s => zmx (zmost cn pay) c1 cn pay (zd q s) s 3) q 3 ≤ 0 := zmo_le 3 (fun s hs hp => by have := zl_zla (q := q) hs; omega)
    unfold zmost at this ⊢
    rw [hn]
    show 0 = _
    omega
  | succ n =>
    have e1 : zmost cn pay q = zmo (fun s => zmx (zmsN cn pay n) c1 cn pay (zd q s) s 3) q 3 := by
      show zmsN cn pay (zla q) q = _
      rw [hn]; rfl
    rw [e1]
    refine zmo_cg 3 (fun s hs hp => zmx_cg ?_ (fun k hk hc => ?_) 3 (by omega))
    · have ok := zd_ok hq hs hp
      show zmsN cn pay n _ = zmsN cn pay (zla (zd q s)) _
      rw [show zla (zd q s) = n by omega]
    · have ok := zd_ok hq hs hp
      have hg := zcan_g hc
      show zmsN cn pay n _ = zmsN cn pay (zla (zdo (zd q s) k)) _
      rw [zdo_la ok.2.1 hk hg, show zla (zd q s) = n by omega]
theorem zmost_le {cn : ZCn} {pay : Nat → Nat} : ∀ (n q : Nat), q < 5832 → zla q = n → zmost cn pay q ≤ c1 q * zpl pay q := by
  intro n
  induction n with
  | zero =>
    intro q hq hn
    unfold zmost
    rw [hn]
    exact Nat.zero_le _
  | succ n ih =>
    intro q hq hn
    rw [zmost_eq hq]
    refine zmo_le 3 (fun s hs hp => ?_)
    have ok := zd_ok hq hs hp
    rw [← zpl_d hq hs hp]
    refine zmx_le (c := c1) ok.2.1 (ih _ ok.2.1 (by omega)) (fun k hk hc => ?_) 3 (by omega)
    have hg := zcan_g hc
    exact ih _ (zdo_ok ok.2.1 hk hg).1 (by rw [zdo_la ok.2.1 hk hg]; omega)
theorem zmost_lt {cn : ZCn} {pay : Nat → Nat} (hp : ∀ k, k < 3 → pay k ≤ 99) {q : Nat} (hq : q < 5832) : zmost cn pay q ≤ 297 := by
  have h1 := zmost_le (cn := cn) (pay := pay) _ q hq rfl
  have h2 := zpl_le hp (q := q)
  unfold c1 at h1
  omega
theorem zmx_lt {cn : ZCn} {pay : Nat → Nat} (hp : ∀ k, k < 3 → pay k ≤ 99) {q s k : Nat} (hq : q < 5832) (hk : k ≤ 3) : zmx (zmost cn pay) c1 cn pay q s k ≤ 297 := by
  have h1 := zmx_le (M := zmost cn pay) (c := c1) (cn := cn) (pay := pay) (s := s) hq (zmost_le _ q hq rfl) (fun k hk hc => zmost_le _ _ (zdo_ok hq hk (zcan_g hc)).1 rfl) k hk
  have h2 := zpl_le hp (q := q)
  unfold c1 at h1
  unfold c1
  omega
theorem zmo_lt {cn : ZCn} {pay : Nat → Nat} (hp : ∀ k, k < 3 → pay k ≤ 99) {q s : Nat} (hq : q < 5832) (hs : s ≤ 3) : zmo (fun s => zmx (zmost cn pay) c1 cn pay (zd q s) s 3) q s ≤ 297 := zmo_le s (fun s' hs' hpp => zmx_lt hp (zd_ok hq (by omega) hpp).2.1 (by omega))
def mMM (α : AH) (t : Nat) (cn : ZCn) (pay : Nat → Nat) : Prop := ∀ q, q < 5832 → hI α 48 q = nI t → hI α 47 q = nI (zmost cn pay q)
def mGm (A : ZA) (t D R : Nat) (α : AH) : Prop := mLk A t D R α ∧ mMM α t (zcn A.1 (D + R)) (sp_pay A.1.1)
def Fm (k : Nat) : Prop := k = 37 ∨ k = 38 ∨ k = 39 ∨ k = 47 ∨ k = 48
theorem mGm.fr (h : mGm A t D R α) (hf : frI (fun k => k = 37 ∨ k = 38 ∨ k = 39) α β) (hw : mLk A t D R β) : mGm A t D R β := by
  refine ⟨hw, fun q hq => ?_⟩
  rw [(hf.2.2.2 48 (by omega)).1, (hf.2.2.2 47 (by omega)).1]
  exact h.2 q hq
theorem mGm.put {q : Nat} (h : mGm A t D R α) : mGm A t D R (sI (sI α 48 q (nI t)) 47 q (nI (zmost (zcn A.1 (D + R)) (sp_pay A.1.1) q))) := by
  obtain ⟨hl, hm⟩ := h
  have hst0 : mStamp (sI α 48 q (nI t)) t := hl.2.1.1.sr (Or.inr (Or.inr (Or.inl rfl))) (Nat.le_refl t)
  have hl0 : mLk A t D R (sI α 48 q (nI t)) := hl.rows (F := fun k => k = 48) (frI.sI rfl) (by decide) hst0
  refine ⟨hl0.fr (F := fun k => k = 47) (frI.sI rfl) (by decide), fun q' hq' e => ?_⟩
  have e2 : hI (sI α 48 q (nI t)) 48 q' = nI t := e
  rw [hI_sI]
  by_cases hx : q' = q
  · subst hx; rw [if_pos ⟨rfl, rfl⟩]
  · rw [if_neg (fun z => hx z.2)]
    rw [hI_sI, if_neg (fun z => hx z.2)] at e2
    show hI α 47 q' = _
    exact hm q' hq' e2
def mMost (G : ZG) (A : ZA) (t D R d n : Nat) : Prop := ∀ (q : Nat) (α : AH) (post : Option Value → AH → Prop), q < 5832 → zla q = n → n ≤ D + R → mGm A t D R α → (∀ β, mGm A t D R β → frI Fm α β → post (some (.int (nI (zmost (zcn A.1 (D + R)) (sp_pay A.1.1) q)))) β) → ZK G (d + n + 6) mX12_mostFrom [.ref (G.1 + 34), .int (nI q)] α post
theorem lp_mostIn {m q s p b : Nat} (hT2 : D + R < 500) (hG : mMost G A t D R d m) (hp5 : p < 5832) (hs : s < 3) (hn : zla p = m) (hnT : m + 1 ≤ D + R) (hb : b ≤ 297) (hpl : ∀ k, k < 3 → sp_pay A.1.1 k ≤ 99)
    (h : ∀ (γ : AH) (x5 x6 : Option Value), mGm A t D R γ → frI Fm α γ → Z G mX12_mostFrom (d + m + 6 + 1) 131 [some (.ref (G.1 + 34)), some (.int (nI q)), some (.int (nI (max b (zmx (zmost (zcn A.1 (D + R)) (sp_pay A.1.1)) c1 (zcn A.1 (D + R)) (sp_pay A.1.1) p s 3)))), some (.int (nI s)), some (.int (nI p)), x5, x6] [] γ (0, 0) post) :
    ∀ (j k : Nat), k + j = 3 → ∀ (γ : AH) (x5 : Option Value), mGm A t D R γ → frI Fm α γ → Z G mX12_mostFrom (d + m + 6 + 1) 68 [some (.ref (G.1 + 34)), some (.int (nI q)), some (.int (nI (max b (zmx (zmost (zcn A.1 (D + R)) (sp_pay A.1.1)) c1 (zcn A.1 (D + R)) (sp_pay A.1.1) p s k)))), some (.int (nI s)), some (.int (nI p)), x5, some (.int (nI k))] [] γ (0, 0) post := by
  intro j
  induction j with
  | zero =>
    intro k hk γ x5 hw hf
    have hk : k = 3 := by omega
    subst hk
    refine Z_iload dX12_mostFrom_68 rfl ?_
    refine Z_iconst (v := 3) dX12_mostFrom_70 (by decide) ?_
    refine Z_icmp_ge (tgt := 131) dX12_mostFrom_71 (by decide) (fun h71 => ?_) (fun h71 => ?_)
    · skip
      exact h γ _ _ hw hf
    · skip
      exact absurd (by decide) h71
  | succ j ih =>
    intro k hk γ x5 hw hf
    have hm := hw.1.1.mw
    have hxl := zmx_lt (cn := zcn A.1 (D + R)) hpl (s := s) (k := k) hp5 (by omega)
    have hxl2 := zmx_lt (cn := zcn A.1 (D + R)) hpl (s := s) (k := k + 1) hp5 (by omega)
    have ih := fun γ x5 => ih (k + 1) (by omega) γ x5
    have est : zmx (zmost (zcn A.1 (D + R)) (sp_pay A.1.1)) c1 (zcn A.1 (D + R)) (sp_pay A.1.1) p s (k + 1) = max (zmx (zmost (zcn A.1 (D + R)) (sp_pay A.1.1)) c1 (zcn A.1 (D + R)) (sp_pay A.1.1) p s k) (if zcan (zcn A.1 (D + R)) p s k = true then c1 p * zpays (sp_pay A.1.1) p k + zmost (zcn A.1 (D + R)) (sp_pay A.1.1) (zdo p k) else 0) := rfl
    rw [est] at ih hxl2
    generalize zmx (zmost (zcn A.1 (D + R)) (sp_pay A.1.1)) c1 (zcn A.1 (D + R)) (sp_pay A.1.1) p s k = a at *
    have tail : ∀ (v : Nat) (δ : AH), v = (if zcan (zcn A.1 (D + R)) p s k = true then c1 p * zpays (sp_pay A.1.1) p k + zmost (zcn A.1 (D + R)) (sp_pay A.1.1) (zdo p k) else 0) → mGm A t D R δ → frI Fm α δ → Z G mX12_mostFrom (d + m + 6 + 1) 110 [some (.ref (G.1 + 34)), some (.int (nI q)), some (.int (nI (max b a))), some (.int (nI s)), some (.int (nI p)), x5, some (.int (nI k))] [.int (nI v)] δ (0, 0) post := by
      intro v δ ev hw1 hf1
      rw [← ev] at ih hxl2
      have hv : v ≤ 297 := by omega
      refine Z_istore (L' := [_, _, _, _, _, _, _]) dX12_mostFrom_110 (by decide) rfl rfl ?_
      refine Z_iload dX12_mostFrom_112 rfl ?_
      refine Z_iload_n dX12_mostFrom_114 rfl rfl ?_
      refine Z_icmp_le (tgt := 123) dX12_mostFrom_115 (by decide) (fun h115 => ?_) (fun h115 => ?_)
      · skip
        refine Z_iload_n dX12_mostFrom_123 rfl rfl ?_
        refine Z_istore_n (L' := [_, _, _, _, _, _, _]) dX12_mostFrom_124 rfl (by decide) rfl rfl ?_
        refine Z_iinc (L' := [_, _, _, _, _, _, _]) dX12_mostFrom_125 rfl (by rfl : _ + Int32.ofInt 1 = _ + 1) (by decide) rfl rfl ?_
        refine Z_goto (tgt := 68) dX12_mostFrom_128 (by decide) ?_
        rw [nI_1]
        first
          | (have hle : v ≤ max b a := (nI_leI (by omega) (by omega)).mp h115
             have := ih δ (some (.int (nI v))) hw1 hf1
             rw [← Nat.max_assoc, Nat.max_eq_left hle] at this
             exact this)
          | (have hle : max b a ≤ v := Nat.le_of_not_le (fun z => h115 ((nI_leI (by omega) (by omega)).mpr z))
             have := ih δ (some (.int (nI v))) hw1 hf1
             rw [← Nat.max_assoc, Nat.max_eq_right hle] at this
             exact this)
      · skip
        refine Z_iload dX12_mostFrom_118 rfl ?_
        refine Z_goto (tgt := 124) dX12_mostFrom_120 (by decide) ?_
        refine Z_istore_n (L' := [_, _, _, _, _, _, _]) dX12_mostFrom_124 rfl (by decide) rfl rfl ?_
        refine Z_iinc (L' := [_, _, _, _, _, _, _]) dX12_mostFrom_125 rfl (by rfl : _ + Int32.ofInt 1 = _ + 1) (by decide) rfl rfl ?_
        refine Z_goto (tgt := 68) dX12_mostFrom_128 (by decide) ?_
        rw [nI_1]
        first
          | (have hle : v ≤ max b a := (nI_leI (by omega) (by omega)).mp h115
             have := ih δ (some (.int (nI v))) hw1 hf1
             rw [← Nat.max_assoc, Nat.max_eq_left hle] at this
             exact this)
          | (have hle : max b a ≤ v := Nat.le_of_not_le (fun z => h115 ((nI_leI (by omega) (by omega)).mpr z))
             have := ih δ (some (.int (nI v))) hw1 hf1
             rw [← Nat.max_assoc, Nat.max_eq_right hle] at this
             exact this)
    refine Z_iload dX12_mostFrom_68 rfl ?_
    refine Z_iconst (v := 3) dX12_mostFrom_70 (by decide) ?_
    refine Z_icmp_ge (tgt := 131) dX12_mostFrom_71 (by decide) (fun h71 => ?_) (fun h71 => ?_)
    · skip
      exact absurd h71 (nI_ge (a := k) (b := 3) (by omega) (by omega))
    · skip
      refine Z_aload_n dX12_mostFrom_74 rfl rfl ?_
      refine Z_iload dX12_mostFrom_75 rfl ?_
      refine Z_iload_n dX12_mostFrom_77 rfl rfl ?_
      refine Z_iload dX12_mostFrom_78 rfl ?_
      refine Z_V3z (ci := 12) dX12_mostFrom_80 to_X12_can lk_X12_206 iv_X12_can ⟨rfl, rfl⟩ (mw_i34 hm) (Nat.le_of_ble_eq_true rfl) ⟨rfl, rfl⟩ ⟨by decide, by decide⟩ ?_
      refine c_can hw.1 hp5 hs (by omega) (by omega) hT2 (fun δ hw1 hf1 => ?_)
      have hm := hw1.1.mw
      have hw1 := hw.fr hf1 hw1
      have hf1 : frI Fm α δ := hf.tr (hf1.mono (fun k hk => by unfold Fm; omega))
      refine Z_if_eq (tgt := 109) dX12_mostFrom_83 (by decide) (fun h83 => ?_) (fun h83 => ?_)
      · skip
        refine Z_iconst (v := 0) dX12_mostFrom_109 (by decide) ?_
        first
          | exact tail _ ε (by rw [if_pos hc]; unfold c1; rw [Nat.one_mul]) hw2 hf2
          | exact tail 0 δ (by rw [if_neg (fun z => by rw [b2i_eq.mp h83] at z; exact absurd z (by decide))]) hw1 hf1
      · skip
        refine Z_aload_n dX12_mostFrom_86 rfl rfl ?_
        refine Z_iload dX12_mostFrom_87 rfl ?_
        refine Z_iload dX12_mostFrom_89 rfl ?_
        refine Z_V2z (ci := 12) dX12_mostFrom_91 to_X12_pays lk_X12_212 iv_X12_pays ⟨rfl, rfl⟩ (mw_i34 hm) (Nat.le_of_ble_eq_true rfl) ⟨rfl, rfl⟩ ⟨by decide, by decide⟩ ?_
        rw [← wI_nI (w := k) (by omega)]
        refine c_pays hp5 (by omega) hw1.1.1 ?_
        rw [wI_nI (w := k) (by omega)]
        refine Z_aload_n dX12_mostFrom_94 rfl rfl ?_
        refine Z_iload dX12_mostFrom_95 rfl ?_
        refine Z_iload dX12_mostFrom_97 rfl ?_
        refine Z_S2z dX12_mostFrom_99 to_X12_done lk_X12_215 sc_X12_done (Nat.le_of_ble_eq_true rfl) ⟨rfl, rfl⟩ ⟨by decide, by decide⟩ ?_
        rw [← wI_nI (w := k) (by omega)]
        refine c_done (by omega) ?_
        rw [wI_nI (w := k) (by omega), show zdw p k = zdo p k from if_neg (by omega)]
        refine Z_V1z (ci := 12) dX12_mostFrom_102 to_X12_mostFrom lk_X12_273 iv_X12_mostFrom ⟨rfl, rfl⟩ (mw_i34 hm) (Nat.le_of_ble_eq_true rfl) ⟨rfl, rfl⟩ ⟨by decide, by decide⟩ ?_
        have hc := b2i_ne.mp h83
        have hg := zcan_g hc
        refine hG _ _ _ (zdo_ok hp5 (by omega) hg).1 (by rw [zdo_la hp5 (by omega) hg]; exact hn) (by omega) hw1 (fun ε hw2 hf2 => ?_)
        have hm := hw2.1.1.mw
        have hf2 : frI Fm α ε := hf1.tr hf2
        refine Z_iadd dX12_mostFrom_105 ?_
        rw [nI_add]
        refine Z_goto (tgt := 110) dX12_mostFrom_106 (by decide) ?_
        first
          | exact tail _ ε (by rw [if_pos hc]; unfold c1; rw [Nat.one_mul]) hw2 hf2
          | exact tail 0 δ (by rw [if_neg (fun z => by rw [b2i_eq.mp h83] at z; exact absurd z (by decide))]) hw1 hf1
theorem lp_most {n q : Nat} (hT2 : D + R < 500) (hG : ∀ m, n = m + 1 → mMost G A t D R d m) (hq : q < 5832) (hn : zla q = n) (hnT : n ≤ D + R)
    (h : ∀ β, mGm A t D R β → frI Fm α β → post (some (.int (nI (zmost (zcn A.1 (D + R)) (sp_pay A.1.1) q)))) β) :
    ∀ (j s : Nat), s + j = 3 → ∀ (β : AH) (x4 x5 x6 : Option Value), mGm A t D R β → frI Fm α β → Z G mX12_mostFrom (d + n + 6) 24 [some (.ref (G.1 + 34)), some (.int (nI q)), some (.int (nI (zmo (fun s => zmx (zmost (zcn A.1 (D + R)) (sp_pay A.1.1)) c1 (zcn A.1 (D + R)) (sp_pay A.1.1) (zd q s) s 3) q s))), some (.int (nI s)), x4, x5, x6] [] β (0, 0) post := by
  intro j
  induction j with
  | zero =>
    intro s hs β x4 x5 x6 hw hf
    have hs : s = 3 := by omega
    subst hs
    have hm := hw.1.1.mw
    rw [← zmost_eq hq]
    refine Z_iload_n dX12_mostFrom_24 rfl rfl ?_
    refine Z_iconst (v := 3) dX12_mostFrom_25 (by decide) ?_
    refine Z_icmp_ge (tgt := 137) dX12_mostFrom_26 (by decide) (fun h26 => ?_) (fun h26 => ?_)
    · skip
      refine Z_aload_n dX12_mostFrom_137 rfl rfl ?_
      refine Z_getR dX12_mostFrom_138 cl_12 fl_X12_53_12 rfl (mw_i34 hm) (mw_p34_23 hm) ?_
      refine Z_iload_n dX12_mostFrom_141 rfl rfl ?_
      refine Z_aload_n dX12_mostFrom_142 rfl rfl ?_
      refine Z_getIv dX12_mostFrom_143 cl_12 fl_X12_188_12 rfl (mw_i34 hm) hw.1.2.1.1.2.1 ?_
      refine Z_iast dX12_mostFrom_146 (mw_i48 hm) (zix_nI (by omega) (by decide)) ?_
      refine Z_aload_n dX12_mostFrom_147 rfl rfl ?_
      refine Z_getR dX12_mostFrom_148 cl_12 fl_X12_50_12 rfl (mw_i34 hm) (mw_p34_22 hm) ?_
      refine Z_iload_n dX12_mostFrom_151 rfl rfl ?_
      refine Z_iload_n dX12_mostFrom_152 rfl rfl ?_
      refine Z_iast dX12_mostFrom_153 (mw_i47 hm) (zix_nI (by omega) (by decide)) ?_
      refine Z_iload_n dX12_mostFrom_154 rfl rfl ?_
      refine Z_iret dX12_mostFrom_155 rfl rfl ⟨by decide, by decide⟩ ?_
      exact h _ hw.put ((hf.tr (frI.sI (by unfold Fm; omega))).tr (frI.sI (by unfold Fm; omega)))
    · skip
      exact absurd (by decide) h26
  | succ j ih =>
    intro s hs β x4 x5 x6 hw hf
    have hm := hw.1.1.mw
    have hl := zl_le (s := s) hq
    have hpl := sp_pay_le hw.1.1.2.1
    have ih := fun γ x4 x5 x6 => ih (s + 1) (by omega) γ x4 x5 x6
    have hbl := zmo_lt (cn := zcn A.1 (D + R)) hpl (s := s) hq (by omega)
    have est : zmo (fun s => zmx (zmost (zcn A.1 (D + R)) (sp_pay A.1.1)) c1 (zcn A.1 (D + R)) (sp_pay A.1.1) (zd q s) s 3) q (s + 1) = if 0 < zl q s then max (zmo (fun s => zmx (zmost (zcn A.1 (D + R)) (sp_pay A.1.1)) c1 (zcn A.1 (D + R)) (sp_pay A.1.1) (zd q s) s 3) q s) (zmx (zmost (zcn A.1 (D + R)) (sp_pay A.1.1)) c1 (zcn A.1 (D + R)) (sp_pay A.1.1) (zd q s) s 3) else zmo (fun s => zmx (zmost (zcn A.1 (D + R)) (sp_pay A.1.1)) c1 (zcn A.1 (D + R)) (sp_pay A.1.1) (zd q s) s 3) q s := rfl
    rw [est] at ih
    generalize zmo (fun s => zmx (zmost (zcn A.1 (D + R)) (sp_pay A.1.1)) c1 (zcn A.1 (D + R)) (sp_pay A.1.1) (zd q s) s 3) q s = b at *
    by_cases hp : 0 < zl q s
    · rw [if_pos hp] at ih
      have ok := zd_ok hq (show s < 3 by omega) hp
      obtain ⟨m, em⟩ : ∃ m, n = m + 1 := ⟨n - 1, by omega⟩
      subst em
      rw [show d + (m + 1) + 6 = d + m + 6 + 1 by omega] at ih ⊢
      have em2 : zla (zd q s) = m := by omega
      have hG := hG m rfl
      have ml := zmost_lt (cn := zcn A.1 (D + R)) hpl ok.2.1
      have next : ∀ (γ : AH) (x5 x6 : Option Value), mGm A t D R γ → frI Fm α γ → Z G mX12_mostFrom (d + m + 6 + 1) 131 [some (.ref (G.1 + 34)), some (.int (nI q)), some (.int (nI (max b (zmx (zmost (zcn A.1 (D + R)) (sp_pay A.1.1)) c1 (zcn A.1 (D + R)) (sp_pay A.1.1) (zd q s) s 3)))), some (.int (nI s)), some (.int (nI (zd q s))), x5, x6] [] γ (0, 0) post := by
        intro γ x5 x6 hw1 hf1
        refine Z_iinc (L' := [_, _, _, _, _, _, _]) dX12_mostFrom_131 rfl (by rfl : _ + Int32.ofInt 1 = _ + 1) (by decide) rfl rfl ?_
        refine Z_goto (tgt := 24) dX12_mostFrom_134 (by decide) ?_
        rw [nI_1]
        exact ih γ _ _ _ hw1 hf1
      refine Z_iload_n dX12_mostFrom_24 rfl rfl ?_
      refine Z_iconst (v := 3) dX12_mostFrom_25 (by decide) ?_
      refine Z_icmp_ge (tgt := 137) dX12_mostFrom_26 (by decide) (fun h26 => ?_) (fun h26 => ?_)
      · skip
        exact absurd h26 (nI_ge (a := s) (b := 3) (by omega) (by omega))
      · skip
        refine Z_iload_n dX12_mostFrom_29 rfl rfl ?_
        refine Z_iload_n dX12_mostFrom_30 rfl rfl ?_
        refine Z_S2z dX12_mostFrom_31 to_X12_left lk_X12_172 sc_X12_left (Nat.le_of_ble_eq_true rfl) ⟨rfl, rfl⟩ ⟨by decide, by decide⟩ ?_
        refine c_left hq (by omega) ?_
        refine Z_if_le (tgt := 131) dX12_mostFrom_34 (by decide) (fun h34 => ?_) (fun h34 => ?_)
        · skip
          exact absurd h34 (nI_nle hp (by omega))
        · skip
          refine Z_iload_n dX12_mostFrom_37 rfl rfl ?_
          refine Z_iload_n dX12_mostFrom_38 rfl rfl ?_
          refine Z_S2z dX12_mostFrom_39 to_X12_drawn lk_X12_218 sc_X12_drawn (Nat.le_of_ble_eq_true rfl) ⟨rfl, rfl⟩ ⟨by decide, by decide⟩ ?_
          refine c_drawn hq (by omega) ok.1 ?_
          refine Z_istore (L' := [_, _, _, _, _, _, _]) dX12_mostFrom_42 (by decide) rfl rfl ?_
          refine Z_aload_n dX12_mostFrom_44 rfl rfl ?_
          refine Z_iload dX12_mostFrom_45 rfl ?_
          refine Z_V1z (ci := 12) dX12_mostFrom_47 to_X12_mostFrom lk_X12_273 iv_X12_mostFrom ⟨rfl, rfl⟩ (mw_i34 hm) (Nat.le_of_ble_eq_true rfl) ⟨rfl, rfl⟩ ⟨by decide, by decide⟩ ?_
          refine hG _ _ _ ok.2.1 em2 (by omega) hw (fun γ hw1 hf1 => ?_)
          have hf1 : frI Fm α γ := hf.tr hf1
          have key := lp_mostIn hT2 hG ok.2.1 (show s < 3 by omega) em2 hnT hbl hpl next 3 0 rfl γ (some (.int (nI (zmost (zcn A.1 (D + R)) (sp_pay A.1.1) (zd q s))))) hw1 hf1
          rw [show zmx (zmost (zcn A.1 (D + R)) (sp_pay A.1.1)) c1 (zcn A.1 (D + R)) (sp_pay A.1.1) (zd q s) s 0 = zmost (zcn A.1 (D + R)) (sp_pay A.1.1) (zd q s) from rfl] at key
          generalize zmost (zcn A.1 (D + R)) (sp_pay A.1.1) (zd q s) = v at *
          refine Z_istore (L' := [_, _, _, _, _, _, _]) dX12_mostFrom_50 (by decide) rfl rfl ?_
          refine Z_iload dX12_mostFrom_52 rfl ?_
          refine Z_iload_n dX12_mostFrom_54 rfl rfl ?_
          refine Z_icmp_le (tgt := 63) dX12_mostFrom_55 (by decide) (fun h55 => ?_) (fun h55 => ?_)
          · skip
            refine Z_iload_n dX12_mostFrom_63 rfl rfl ?_
            refine Z_istore_n (L' := [_, _, _, _, _, _, _]) dX12_mostFrom_64 rfl (by decide) rfl rfl ?_
            refine Z_iconst (v := 0) dX12_mostFrom_65 (by decide) ?_
            refine Z_istore (L' := [_, _, _, _, _, _, _]) dX12_mostFrom_66 (by decide) rfl rfl ?_
            first
              | (rw [Nat.max_eq_left ((nI_leI (by omega) (by omega)).mp h55)] at key; exact key)
              | (rw [Nat.max_eq_right (Nat.le_of_not_le (fun z => h55 ((nI_leI (by omega) (by omega)).mpr z)))] at key; exact key)
          · skip
            refine Z_iload dX12_mostFrom_58 rfl ?_
            refine Z_goto (tgt := 64) dX12_mostFrom_60 (by decide) ?_
            refine Z_istore_n (L' := [_, _, _, _, _, _, _]) dX12_mostFrom_64 rfl (by decide) rfl rfl ?_
            refine Z_iconst (v := 0) dX12_mostFrom_65 (by decide) ?_
            refine Z_istore (L' := [_, _, _, _, _, _, _]) dX12_mostFrom_66 (by decide) rfl rfl ?_
            first
              | (rw [Nat.max_eq_left ((nI_leI (by omega) (by omega)).mp h55)] at key; exact key)
              | (rw [Nat.max_eq_right (Nat.le_of_not_le (fun z => h55 ((nI_leI (by omega) (by omega)).mpr z)))] at key; exact key)
    · rw [if_neg hp] at ih
      refine Z_iload_n dX12_mostFrom_24 rfl rfl ?_
      refine Z_iconst (v := 3) dX12_mostFrom_25 (by decide) ?_
      refine Z_icmp_ge (tgt := 137) dX12_mostFrom_26 (by decide) (fun h26 => ?_) (fun h26 => ?_)
      · skip
        exact absurd h26 (nI_ge (a := s) (b := 3) (by omega) (by omega))
      · skip
        refine Z_iload_n dX12_mostFrom_29 rfl rfl ?_
        refine Z_iload_n dX12_mostFrom_30 rfl rfl ?_
        refine Z_S2z dX12_mostFrom_31 to_X12_left lk_X12_172 sc_X12_left (Nat.le_of_ble_eq_true rfl) ⟨rfl, rfl⟩ ⟨by decide, by decide⟩ ?_
        refine c_left hq (by omega) ?_
        refine Z_if_le (tgt := 131) dX12_mostFrom_34 (by decide) (fun h34 => ?_) (fun h34 => ?_)
        · skip
          refine Z_iinc (L' := [_, _, _, _, _, _, _]) dX12_mostFrom_131 rfl (by rfl : _ + Int32.ofInt 1 = _ + 1) (by decide) rfl rfl ?_
          refine Z_goto (tgt := 24) dX12_mostFrom_134 (by decide) ?_
          rw [nI_1]
          exact ih β _ _ _ hw hf
        · skip
          exact absurd (nI_pos0 (by omega) h34) hp
theorem st_most {n : Nat} (hT2 : D + R < 500) (hG : ∀ m, n = m + 1 → mMost G A t D R d m) : mMost G A t D R d n := by
  intro q α post hq hn hnT hw h
  have hm := hw.1.1.mw
  obtain ⟨v, hv1, hv2⟩ := hw.1.2.1.1.2.2.2 48 (Or.inr (Or.inr (Or.inl rfl))) q
  have ht := hw.1.2.1.1.1
  refine ZK.of (n := 5) (by decide) (Nat.le_of_ble_eq_true rfl) rfl ?_
  refine Z_aload_n dX12_mostFrom_0 rfl rfl ?_
  refine Z_getR dX12_mostFrom_1 cl_12 fl_X12_53_12 rfl (mw_i34 hm) (mw_p34_23 hm) ?_
  refine Z_iload_n dX12_mostFrom_4 rfl rfl ?_
  refine Z_ialdv dX12_mostFrom_5 (mw_i48 hm) (zix_nI (by omega) (by decide)) hv2 ?_
  refine Z_aload_n dX12_mostFrom_6 rfl rfl ?_
  refine Z_getIv dX12_mostFrom_7 cl_12 fl_X12_188_12 rfl (mw_i34 hm) hw.1.2.1.1.2.1 ?_
  refine Z_icmp_ne (tgt := 20) dX12_mostFrom_10 (by decide) (fun h10 => ?_) (fun h10 => ?_)
  · skip
    refine Z_iconst (v := 0) dX12_mostFrom_20 (by decide) ?_
    refine Z_istore_n (L' := [_, _, _, _, _, _, _]) dX12_mostFrom_21 rfl (by decide) rfl rfl ?_
    refine Z_iconst (v := 0) dX12_mostFrom_22 (by decide) ?_
    refine Z_istore_n (L' := [_, _, _, _, _, _, _]) dX12_mostFrom_23 rfl (by decide) rfl rfl ?_
    exact lp_most hT2 hG hq hn hnT h 3 0 rfl α none none none hw frI.rf
  · skip
    refine Z_aload_n dX12_mostFrom_13 rfl rfl ?_
    refine Z_getR dX12_mostFrom_14 cl_12 fl_X12_50_12 rfl (mw_i34 hm) (mw_p34_22 hm) ?_
    refine Z_iload_n dX12_mostFrom_17 rfl rfl ?_
    refine Z_ialdv dX12_mostFrom_18 (mw_i47 hm) (zix_nI (by omega) (by decide)) (hw.2 q hq (by rw [hv2]; exact congrArg nI ((nI_eq (by omega) (by omega)).mp h10))) ?_
    refine Z_iret dX12_mostFrom_19 rfl rfl ⟨by decide, by decide⟩ ?_
    exact h α hw frI.rf
theorem mMost_all (hT2 : D + R < 500) : ∀ n, mMost G A t D R d n
  | 0 => st_most hT2 (fun m h => by cases h)
  | n + 1 => st_most hT2 (fun m h => by cases h; exact mMost_all hT2 n)
theorem c_mostFrom {q : Nat} (hw : mGm A t D R α) (hT2 : D + R < 500) (hq : q < 5832) (hT : zla q ≤ D + R) (h : ∀ β, mGm A t D R β → frI Fm α β → post (some (.int (nI (zmost (zcn A.1 (D + R)) (sp_pay A.1.1) q)))) β) : ZK G (d + 21) mX12_mostFrom [.ref (G.1 + 34), .int (nI q)] α post := by
  have hla := zla_le hq
  have := mMost_all (G := G) (A := A) (t := t) (d := d + (15 - zla q)) hT2 (zla q) q α post hq rfl hT hw h
  rw [show d + (15 - zla q) + zla q + 6 = d + 21 by omega] at this
  exact this
theorem fm_mid : ∀ k, Fm k → mId k := fun k hk => by unfold Fm at hk; unfold mId; omega
def sp_most (S : ZS) : Int32 := nI (zmost (zcn S (S.1 5 + zrest S.1)) (sp_pay S.1) (zq S.1))
theorem c_mmost (hr : MRel A α) (hb : A.2.2.2 + 3 < 1000) (h : ∀ β, MRel (zup A 2) β → frI mId α β → post (some (.int (sp_most A.1))) β) : ZK G (d + 40) mX12_most [.ref (G.1 + 34)] α post := by
  have hm := hr.mw
  have b5 : A.1.1 5 ≤ 99 := hr.2.1.at (by omega) rfl
  have b := zsb hr.2.1 (show 0 ≤ 2 by omega)
  have hq := zq_ok hr.2.1
  have hla := hq.2.1
  refine ZK.of (n := 0) (by decide) (Nat.le_of_ble_eq_true rfl) rfl ?_
  refine Z_aload_n dX12_most_0 rfl rfl ?_
  refine Z_V0z (ci := 12) dX12_most_1 to_X12_looks lk_X12_246 iv_X12_looks ⟨rfl, rfl⟩ (mw_i34 hm) (Nat.le_of_ble_eq_true rfl) ⟨rfl, rfl⟩ ⟨by decide, by decide⟩ ?_
  refine c_look hr hb (fun β t hw hf _ f48 _ => ?_)
  have hm := hw.1.mw
  refine Z_aload_n dX12_most_4 rfl rfl ?_
  refine Z_aload_n dX12_most_5 rfl rfl ?_
  refine Z_V0z (ci := 12) dX12_most_6 to_X12_stateNow lk_X12_249 iv_X12_stateNow ⟨rfl, rfl⟩ (mw_i34 hm) (Nat.le_of_ble_eq_true rfl) ⟨rfl, rfl⟩ ⟨by decide, by decide⟩ ?_
  refine c_stateNow hw.1 ?_
  rw [show zq (zup A 1).1.1 = zq A.1.1 from rfl]
  refine Z_V1z (ci := 12) dX12_most_9 to_X12_mostFrom lk_X12_273 iv_X12_mostFrom ⟨rfl, rfl⟩ (mw_i34 hm) (Nat.le_of_ble_eq_true rfl) ⟨rfl, rfl⟩ ⟨by decide, by decide⟩ ?_
  refine c_mostFrom (⟨hw, fun q hq e => absurd e (f48 q)⟩ : mGm (zup A 1) t (A.1.1 5) (zrest A.1.1) β) (by show A.1.1 5 + zrest A.1.1 < 500; omega) hq.1 (by show _ ≤ A.1.1 5 + zrest A.1.1; omega) (fun γ hw1 hf1 => ?_)
  refine Z_iret dX12_most_12 rfl rfl ⟨by decide, by decide⟩ ?_
  exact h γ (hw1.1.1.up' (by omega)) (hf.tr (hf1.mono fm_mid))
end MM1
