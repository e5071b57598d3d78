/-! what a worker with a way f of choosing makes, over all orders; in how many orders all is done -/
def zfok (f : Nat → Nat → Nat) : Prop := ∀ q s, f q s = 3 ∨ (f q s < 3 ∧ zg q (f q s) < 2)
def zworkN (f : Nat → Nat → Nat) (pay : Nat → Nat) : Nat → Nat → Nat
  | 0, _ => 0
  | n + 1, q => zsum (fun s => zoq (zd q s) * zpays pay (zd q s) (f (zd q s) s) + zworkN f pay n (zdw (zd q s) (f (zd q s) s))) q
def zwork (f : Nat → Nat → Nat) (pay : Nat → Nat) (q : Nat) : Nat := zworkN f pay (zla q) q
def zallN (f : Nat → Nat → Nat) : Nat → Nat → Nat
  | 0, q => if q % 27 = 26 then 1 else 0
  | n + 1, q => zsum (fun s => zallN f n (zdw (zd q s) (f (zd q s) s))) q
def zall (f : Nat → Nat → Nat) (q : Nat) : Nat := zallN f (zla q) q
theorem zdw_ok {q w : Nat} (hq : q < 5832) (h : w = 3 ∨ (w < 3 ∧ zg q w < 2)) : zdw q w < 5832 ∧ zla (zdw q w) = zla q ∧ zoq (zdw q w) = zoq q := by
  unfold zdw
  rcases h with h | h
  · rw [if_pos h]; exact ⟨hq, rfl, rfl⟩
  · rw [if_neg (by omega)]
    have ok := zdo_ok hq h.1 h.2
    exact ⟨ok.1, zdo_la hq h.1 h.2, by unfold zoq; rw [ok.2.1, ok.2.1, ok.2.1]⟩
theorem zwork_eq {f : Nat → Nat → Nat} {pay : Nat → Nat} (hf : zfok f) {q : Nat} (hq : q < 5832) : zwork f pay q = zsum (fun s => zoq (zd q s) * zpays pay (zd q s) (f (zd q s) s) + zwork f pay (zdw (zd q s) (f (zd q s) s))) q := by
  cases hn : zla q with
  | zero =>
    have h0 : zl q 0 = 0 ∧ zl q 1 = 0 ∧ zl q 2 = 0 := by unfold zla at hn; omega
    unfold zwork zsum
    rw [hn, h0.1, h0.2.1, h0.2.2]
    rfl
  | succ n =>
    show zworkN f pay (zla q) q = _
    rw [hn]
    refine zsum_cg (fun s hs hp => ?_)
    have ok := zd_ok hq hs hp
    have ok2 := zdw_ok ok.2.1 (hf (zd q s) s)
    show zoq (zd q s) * zpays pay (zd q s) (f (zd q s) s) + zworkN f pay n (zdw (zd q s) (f (zd q s) s)) = zoq (zd q s) * zpays pay (zd q s) (f (zd q s) s) + zworkN f pay (zla (zdw (zd q s) (f (zd q s) s))) (zdw (zd q s) (f (zd q s) s))
    rw [ok2.2.1, show zla (zd q s) = n by omega]
theorem zall_eq {f : Nat → Nat → Nat} (hf : zfok f) {q : Nat} (hq : q < 5832) : zall f q = (if zla q = 0 ∧ q % 27 = 26 then 1 else 0) + zsum (fun s => zall f (zdw (zd q s) (f (zd q s) s))) q := by
  cases hn : zla q with
  | zero =>
    have h0 : zl q 0 = 0 ∧ zl q 1 = 0 ∧ zl q 2 = 0 := by unfold zla at hn; omega
    unfold zall zsum
    rw [hn, h0.1, h0.2.1, h0.2.2]
    show (if q % 27 = 26 then 1 else 0) = _
    by_cases e : q % 27 = 26
    · rw [if_pos e, if_pos ⟨rfl, e⟩]; rfl
    · rw [if_neg e, if_neg (fun z => e z.2)]; rfl
  | succ n =>
    show zallN f (zla q) q = _
    rw [hn, if_neg (fun z => by omega), Nat.zero_add]
    refine zsum_cg (fun s hs hp => ?_)
    have ok := zd_ok hq hs hp
    have ok2 := zdw_ok ok.2.1 (hf (zd q s) s)
    show zallN f n (zdw (zd q s) (f (zd q s) s)) = zallN f (zla (zdw (zd q s) (f (zd q s) s))) (zdw (zd q s) (f (zd q s) s))
    rw [ok2.2.1, show zla (zd q s) = n by omega]
theorem zpl_w {pay : Nat → Nat} {q w : Nat} (hq : q < 5832) (h : w = 3 ∨ (w < 3 ∧ zg q w < 2)) : zpays pay q w + zpl pay (zdw q w) = zpl pay q := by
  rcases h with h | h
  · subst h; simp [zpays, zdw]
  · rw [show zdw q w = zdo q w from if_neg (by omega)]
    exact zpl_done hq h.1 h.2
theorem zwork_le {f : Nat → Nat → Nat} {pay : Nat → Nat} (hf : zfok f) : ∀ (n q : Nat), q < 5832 → zla q = n → zwork f pay q ≤ zoq q * zpl pay q := by
  intro n
  induction n with
  | zero =>
    intro q hq hn
    unfold zwork
    rw [hn]
    exact Nat.zero_le _
  | succ n ih =>
    intro q hq hn
    rw [zwork_eq hf hq, zoq_rec hq (by omega), ← zsum_mul]
    refine zsum_le (fun s hs hp => ?_)
    have ok := zd_ok hq hs hp
    have ok2 := zdw_ok ok.2.1 (hf (zd q s) s)
    have h2 := ih _ ok2.1 (by omega)
    rw [ok2.2.2] at h2
    rw [← zpl_d hq hs hp, ← zpl_w ok.2.1 (hf (zd q s) s), Nat.mul_add]
    omega
theorem zall_le {f : Nat → Nat → Nat} (hf : zfok f) : ∀ (n q : Nat), q < 5832 → zla q = n → zall f q ≤ zoq q := by
  intro n
  induction n with
  | zero =>
    intro q hq hn
    unfold zall
    rw [hn]
    show (if q % 27 = 26 then 1 else 0) ≤ zoq q
    have := zoq_pos hq
    split <;> omega
  | succ n ih =>
    intro q hq hn
    rw [zall_eq hf hq, if_neg (fun z => by omega), Nat.zero_add, zoq_rec hq (by omega)]
    refine zsum_le (fun s hs hp => ?_)
    have ok := zd_ok hq hs hp
    have ok2 := zdw_ok ok.2.1 (hf (zd q s) s)
    have h2 := ih _ ok2.1 (by omega)
    rw [ok2.2.2] at h2
    exact h2
theorem zpl_le {pay : Nat → Nat} (hp : ∀ k, k < 3 → pay k ≤ 99) {q : Nat} : zpl pay q ≤ 297 := by
  have a := hp 0 (by omega)
  have b := hp 1 (by omega)
  have c := hp 2 (by omega)
  unfold zpl
  split <;> split <;> split <;> omega
theorem zwork_lt {f : Nat → Nat → Nat} {pay : Nat → Nat} (hf : zfok f) (hp : ∀ k, k < 3 → pay k ≤ 99) {q : Nat} (hq : q < 5832) : zwork f pay q ≤ 224756532 :=
  Nat.le_trans (zwork_le hf _ q hq rfl) (Nat.le_trans (Nat.mul_le_mul (zoq_le hq) (zpl_le hp)) (by decide))
theorem zpays_le {pay : Nat → Nat} (hp : ∀ k, k < 3 → pay k ≤ 99) {q w : Nat} (hw : w ≤ 3) : zpays pay q w ≤ 99 := by
  unfold zpays
  split
  · omega
  · rename_i h
    have := hp w (by omega)
    split <;> omega
theorem zdoes_ok {cn : ZCn} {pay : Nat → Nat} {kd v : Nat} {tl : Nat → Nat} : zfok (fun q s => zdoes cn pay kd v (tl s) q s) := fun q s => by
  rcases zdoes_in (cn := cn) (pay := pay) (kd := kd) (v := v) (tl := tl s) (q := q) (s := s) with h | h
  · exact Or.inl h
  · exact Or.inr ⟨h.1, zcan_g h.2⟩
section MW1
variable {G : ZG} {d : Nat} {α β : AH} {post : Option Value → AH → Prop} {A : ZA} {t D R : Nat}
/-- worker w's way -/
def zway (S : ZS) (T w : Nat) : Nat → Nat → Nat := fun q s => zdoes (zcn S T) (sp_pay S.1) (S.1 (112 + w)) (S.1 (120 + w)) (S.1 (128 + 3 * w + s)) q s
theorem zway_ok {S : ZS} {T w : Nat} : zfok (zway S T w) := zdoes_ok (tl := fun s => S.1 (128 + 3 * w + s))
def mWM (α : AH) (t : Nat) (f : Nat → Nat → Nat) (pay : Nat → Nat) : Prop := ∀ q, q < 5832 → hI α 45 q = nI t → hJ α 43 q = lN (zwork f pay q) ∧ hJ α 44 q = lN (zall f q)
def Fw (k : Nat) : Prop := Fb k ∨ k = 43 ∨ k = 44 ∨ k = 45
def mGw (A : ZA) (t D R w : Nat) (α : AH) : Prop := mLk A t D R α ∧ mWM α t (zway A.1 (D + R) w) (sp_pay A.1.1)
theorem mGw.fb {w : Nat} (h : mGw A t D R w α) (hf : frI Fb α β) (hw : mLk A t D R β) : mGw A t D R w β := by
  refine ⟨hw, fun q hq e => ?_⟩
  have e45 := hf.2.2.2 45 (by unfold Fb; omega)
  have e43 := hf.2.2.2 43 (by unfold Fb; omega)
  have e44 := hf.2.2.2 44 (by unfold Fb; omega)
  rw [e45.1] at e
  rw [e43.2, e44.2]
  exact h.2 q hq e
theorem mLk.rows {F : Nat → Prop} (h : mLk A t D R α) (hf : frI F α β) (hF : ∀ k ∈ [34, 35, 36, 39, 40, 41, 51], ¬ F k) (hst : mStamp β t) : mLk A t D R β := by
  have e : ∀ k ∈ [34, 35, 36, 39, 40, 41, 51], hI β k = hI α k ∧ hJ β k = hJ α k := fun k hk => hf.2.2.2 k (hF k hk)
  obtain ⟨hr, ha, hc, hbm⟩ := h
  refine ⟨hr.st hf (fun k hk => hF k (by simp at hk ⊢; omega)) hst (hr.tb ha.1), ⟨hst, by rw [(e 34 (by decide)).1]; exact ha.2.1, by rw [(e 34 (by decide)).1]; exact ha.2.2⟩, ?_, ?_⟩
  · unfold mCM; rw [(e 39 (by decide)).1]; exact hc
  · unfold mBM; rw [(e 41 (by decide)).1, (e 40 (by decide)).2]; exact hbm
theorem mGw.put {w q : Nat} (h : mGw A t D R w α) : mGw A t D R w (sJ (sJ (sI α 45 q (nI t)) 43 q (lN (zwork (zway A.1 (D + R) w) (sp_pay A.1.1) q))) 44 q (lN (zall (zway A.1 (D + R) w) q))) := by
  obtain ⟨hl, hm⟩ := h
  have hst : mStamp (sJ (sJ (sI α 45 q (nI t)) 43 q (lN (zwork (zway A.1 (D + R) w) (sp_pay A.1.1) q))) 44 q (lN (zall (zway A.1 (D + R) w) q))) t := hl.2.1.1.sr (Or.inr (Or.inl rfl)) (Nat.le_refl t)
  refine ⟨hl.rows (F := fun k => k = 43 ∨ k = 44 ∨ k = 45) (((frI.sI (by omega)).tr (frI.sJ (by omega))).tr (frI.sJ (by omega))) (by decide) hst, fun q' hq' e => ?_⟩
  have e2 : hI (sI α 45 q (nI t)) 45 q' = nI t := e
  by_cases hx : q' = q
  · subst hx
    refine ⟨?_, ?_⟩
    · rw [hJ_sJ, if_neg (by omega), hJ_sJ, if_pos ⟨rfl, rfl⟩]
    · rw [hJ_sJ, if_pos ⟨rfl, rfl⟩]
  · rw [hI_sI, if_neg (fun z => hx z.2)] at e2
    have := hm q' hq' e2
    refine ⟨?_, ?_⟩
    · rw [hJ_sJ, if_neg (by omega), hJ_sJ, if_neg (fun z => hx z.2)]; exact this.1
    · rw [hJ_sJ, if_neg (fun z => hx z.2), hJ_sJ, if_neg (by omega)]; exact this.2
def mGoes (G : ZG) (A : ZA) (t D R d w n : Nat) : Prop := ∀ (q : Nat) (α : AH) (post : Option Value → AH → Prop), q < 5832 → zla q = n → n ≤ D + R → mGw A t D R w α → (∀ β, mGw A t D R w β → frI Fw α β → hI β 45 q = nI t → post none β) → ZK G (d + n + 40) mX12_goesThrough [.ref (G.1 + 34), .int (nI w), .int (nI q)] α post
theorem lp_goes {n q w : Nat} (hT2 : D + R < 500) (hw8 : w < 8) (hG : ∀ m, n = m + 1 → mGoes G A t D R d w m) (hq : q < 5832) (hn : zla q = n) (hnT : n ≤ D + R)
    (h : ∀ β, mGw A t D R w β → frI Fw α β → hI β 45 q = nI t → post none β) :
    ∀ (j s : Nat), s + j = 3 → ∀ (β : AH), mGw A t D R w β → frI Fw α β → Z G mX12_goesThrough (d + n + 40) 42 [some (.ref (G.1 + 34)), some (.int (nI w)), some (.int (nI q)), some (.long (lN (zpart (fun s => zoq (zd q s) * zpays (sp_pay A.1.1) (zd q s) (zway A.1 (D + R) w (zd q s) s) + zwork (zway A.1 (D + R) w) (sp_pay A.1.1) (zdw (zd q s) (zway A.1 (D + R) w (zd q s) s))) q s))), none, some (.long (lN ((if zla q = 0 ∧ q % 27 = 26 then 1 else 0) + zpart (fun s => zall (zway A.1 (D + R) w) (zdw (zd q s) (zway A.1 (D + R) w (zd q s) s))) q s))), none, some (.int (nI s)), none, none, none] [] β (0, 0) post := by
  intro j
  induction j with
  | zero =>
    intro s hs β hw hf
    have hs : s = 3 := by omega
    subst hs
    have hm := hw.1.1.mw
    rw [zpart3, zpart3, ← zwork_eq zway_ok hq, ← zall_eq zway_ok hq]
    refine Z_iload dX12_goesThrough_42 rfl ?_
    refine Z_iconst (v := 3) dX12_goesThrough_44 (by decide) ?_
    refine Z_icmp_ge (tgt := 136) dX12_goesThrough_45 (by decide) (fun h45 => ?_) (fun h45 => ?_)
    · skip
      refine Z_aload_n dX12_goesThrough_136 rfl rfl ?_
      refine Z_getR dX12_goesThrough_137 cl_12 fl_X12_44_12 rfl (mw_i34 hm) (mw_p34_20 hm) ?_
      refine Z_iload_n dX12_goesThrough_140 rfl rfl ?_
      refine Z_aload_n dX12_goesThrough_141 rfl rfl ?_
      refine Z_getIv dX12_goesThrough_142 cl_12 fl_X12_188_12 rfl (mw_i34 hm) hw.1.2.1.1.2.1 ?_
      refine Z_iast dX12_goesThrough_145 (mw_i45 hm) (zix_nI (by omega) (by decide)) ?_
      refine Z_aload_n dX12_goesThrough_146 rfl rfl ?_
      refine Z_getR dX12_goesThrough_147 cl_12 fl_X12_38_12 rfl (mw_i34 hm) (mw_p34_18 hm) ?_
      refine Z_iload_n dX12_goesThrough_150 rfl rfl ?_
      refine Z_lload_n dX12_goesThrough_151 rfl rfl ?_
      refine Z_last dX12_goesThrough_152 (mw_i43 hm) (zix_nI (by omega) (by decide)) ?_
      refine Z_aload_n dX12_goesThrough_153 rfl rfl ?_
      refine Z_getR dX12_goesThrough_154 cl_12 fl_X12_41_12 rfl (mw_i34 hm) (mw_p34_19 hm) ?_
      refine Z_iload_n dX12_goesThrough_157 rfl rfl ?_
      refine Z_lload dX12_goesThrough_158 rfl ?_
      refine Z_last dX12_goesThrough_160 (mw_i44 hm) (zix_nI (by omega) (by decide)) ?_
      refine Z_vret dX12_goesThrough_161 rfl ⟨by decide, by decide⟩ ?_
      exact h _ hw.put (((hf.tr (frI.sI (by unfold Fw; omega))).tr (frI.sJ (by unfold Fw; omega))).tr (frI.sJ (by unfold Fw; omega))) (show hI (sI β 45 q (nI t)) 45 q = nI t by rw [hI_sI, if_pos ⟨rfl, rfl⟩])
    · skip
      exact absurd (by decide) h45
  | succ j ih =>
    intro s hs β hw hf
    have hm := hw.1.1.mw
    have hl := zl_le (s := s) hq
    have hpl := sp_pay_le hw.1.1.2.1
    refine Z_iload dX12_goesThrough_42 rfl ?_
    refine Z_iconst (v := 3) dX12_goesThrough_44 (by decide) ?_
    refine Z_icmp_ge (tgt := 136) dX12_goesThrough_45 (by decide) (fun h45 => ?_) (fun h45 => ?_)
    · skip
      exact absurd h45 (nI_ge (a := s) (b := 3) (by omega) (by omega))
    · skip
      refine Z_iload_n dX12_goesThrough_48 rfl rfl ?_
      refine Z_iload dX12_goesThrough_49 rfl ?_
      refine Z_S2z dX12_goesThrough_51 to_X12_left lk_X12_172 sc_X12_left (Nat.le_of_ble_eq_true rfl) ⟨rfl, rfl⟩ ⟨by decide, by decide⟩ ?_
      refine c_left hq (by omega) ?_
      refine Z_if_le (tgt := 130) dX12_goesThrough_54 (by decide) (fun h54 => ?_) (fun h54 => ?_)
      · skip
        refine Z_iinc (L' := [_, _, _, _, _, _, _, _, _, _, _]) dX12_goesThrough_130 rfl (by rfl : _ + Int32.ofInt 1 = _ + 1) (by decide) rfl rfl ?_
        refine Z_goto (tgt := 42) dX12_goesThrough_133 (by decide) ?_
        rw [nI_1]
        first
          | (have := ih (s + 1) (by omega) δ hw2 hf2
             unfold zpart at this
             rw [if_pos hp, if_pos hp, ← Nat.add_assoc (if zla q = 0 ∧ q % 27 = 26 then 1 else 0)] at this
             refine Z_less (L' := [some (.ref (G.1 + 34)), some (.int (nI w)), some (.int (nI q)), some (.long _), none, some (.long _), none, some (.int _), none, none, none]) ⟨rfl, rfl, rfl, rfl, rfl, rfl, trivial⟩ ?_
             exact this)
          | (have := ih (s + 1) (by omega) β hw hf
             have hz : ¬ 0 < zl q s := fun z => nI_nle z (by omega) h54
             unfold zpart at this
             rw [if_neg hz, if_neg hz, Nat.add_zero, Nat.add_zero] at this
             exact this)
      · skip
        have hp := nI_pos0 (by omega) h54
        have ok := zd_ok hq (show s < 3 by omega) hp
        obtain ⟨m, em⟩ : ∃ m, n = m + 1 := ⟨n - 1, by omega⟩
        subst em
        rw [show d + (m + 1) + 40 = d + m + 40 + 1 by omega] at ih ⊢
        have em2 : zla (zd q s) = m := by omega
        refine Z_iload_n dX12_goesThrough_57 rfl rfl ?_
        refine Z_iload dX12_goesThrough_58 rfl ?_
        refine Z_S2z dX12_goesThrough_60 to_X12_drawn lk_X12_218 sc_X12_drawn (Nat.le_of_ble_eq_true rfl) ⟨rfl, rfl⟩ ⟨by decide, by decide⟩ ?_
        refine c_drawn hq (by omega) ok.1 ?_
        refine Z_istore (L' := [_, _, _, _, _, _, _, _, _, _, _]) dX12_goesThrough_63 (by decide) rfl rfl ?_
        refine Z_aload_n dX12_goesThrough_65 rfl rfl ?_
        refine Z_iload_n dX12_goesThrough_66 rfl rfl ?_
        refine Z_iload dX12_goesThrough_67 rfl ?_
        refine Z_iload dX12_goesThrough_69 rfl ?_
        refine Z_V3z (ci := 12) dX12_goesThrough_71 to_X12_doesOn lk_X12_252 iv_X12_doesOn ⟨rfl, rfl⟩ (mw_i34 hm) (Nat.le_of_ble_eq_true rfl) ⟨rfl, rfl⟩ ⟨by decide, by decide⟩ ?_
        refine c_doesOn hw.1 hT2 ok.2.1 (by omega) (by omega) hw8 (fun γ hw1 hf1 => ?_)
        have hm := hw1.1.mw
        have hw1 := hw.fb hf1 hw1
        have hf1 : frI Fw α γ := hf.tr (hf1.mono (fun k hk => Or.inl hk))
        rw [show zdoes (zcn A.1 (D + R)) (sp_pay A.1.1) (A.1.1 (112 + w)) (A.1.1 (120 + w)) (A.1.1 (128 + 3 * w + s)) (zd q s) s = zway A.1 (D + R) w (zd q s) s from rfl]
        have hwo := zway_ok (S := A.1) (T := D + R) (w := w) (zd q s) s
        have ok2 := zdw_ok ok.2.1 hwo
        have hw3 : zway A.1 (D + R) w (zd q s) s ≤ 3 := by omega
        refine Z_istore (L' := [_, _, _, _, _, _, _, _, _, _, _]) dX12_goesThrough_74 (by decide) rfl rfl ?_
        refine Z_iload dX12_goesThrough_76 rfl ?_
        refine Z_iload dX12_goesThrough_78 rfl ?_
        refine Z_S2z dX12_goesThrough_80 to_X12_done lk_X12_215 sc_X12_done (Nat.le_of_ble_eq_true rfl) ⟨rfl, rfl⟩ ⟨by decide, by decide⟩ ?_
        refine c_done hw3 ?_
        refine Z_istore (L' := [_, _, _, _, _, _, _, _, _, _, _]) dX12_goesThrough_83 (by decide) rfl rfl ?_
        refine Z_aload_n dX12_goesThrough_85 rfl rfl ?_
        refine Z_iload_n dX12_goesThrough_86 rfl rfl ?_
        refine Z_iload dX12_goesThrough_87 rfl ?_
        refine Z_V2z (ci := 12) dX12_goesThrough_89 to_X12_goesThrough lk_X12_265 iv_X12_goesThrough ⟨rfl, rfl⟩ (mw_i34 hm) (Nat.le_of_ble_eq_true rfl) ⟨rfl, rfl⟩ ⟨by decide, by decide⟩ ?_
        refine hG m rfl _ _ _ ok2.1 (by omega) (by omega) hw1 (fun δ hw2 hf2 e2 => ?_)
        have hm := hw2.1.1.mw
        have hf2 : frI Fw α δ := hf1.tr hf2
        have mm := hw2.2 _ ok2.1 e2
        refine Z_lload_n dX12_goesThrough_92 rfl rfl ?_
        refine Z_iload dX12_goesThrough_93 rfl ?_
        refine Z_S1z dX12_goesThrough_95 to_X12_ordersOf lk_X12_209 sc_X12_ordersOf (Nat.le_of_ble_eq_true rfl) ⟨rfl, rfl⟩ ⟨by decide, by decide⟩ ?_
        refine c_ordersOf ok.2.1 ?_
        refine Z_aload_n dX12_goesThrough_98 rfl rfl ?_
        refine Z_iload dX12_goesThrough_99 rfl ?_
        refine Z_iload dX12_goesThrough_101 rfl ?_
        refine Z_V2z (ci := 12) dX12_goesThrough_103 to_X12_pays lk_X12_212 iv_X12_pays ⟨rfl, rfl⟩ (mw_i34 hm) (Nat.le_of_ble_eq_true rfl) ⟨rfl, rfl⟩ ⟨by decide, by decide⟩ ?_
        refine c_pays ok.2.1 hw3 hw2.1.1 ?_
        refine Z_i2l dX12_goesThrough_106 ?_
        rw [nI_l (by have := zpays_le hpl (q := zd q s) hw3; omega)]
        refine Z_lmul dX12_goesThrough_107 ?_
        rw [lN_mul]
        refine Z_aload_n dX12_goesThrough_108 rfl rfl ?_
        refine Z_getR dX12_goesThrough_109 cl_12 fl_X12_38_12 rfl (mw_i34 hm) (mw_p34_18 hm) ?_
        refine Z_iload dX12_goesThrough_112 rfl ?_
        refine Z_laldv dX12_goesThrough_114 (mw_i43 hm) (zix_nI (by omega) (by decide)) mm.1 ?_
        refine Z_ladd dX12_goesThrough_115 ?_
        rw [lN_add]
        refine Z_ladd dX12_goesThrough_116 ?_
        rw [lN_add]
        refine Z_lstore_n (L' := [_, _, _, _, _, _, _, _, _, _, _]) dX12_goesThrough_117 rfl (by decide) rfl rfl ?_
        refine Z_lload dX12_goesThrough_118 rfl ?_
        refine Z_aload_n dX12_goesThrough_120 rfl rfl ?_
        refine Z_getR dX12_goesThrough_121 cl_12 fl_X12_41_12 rfl (mw_i34 hm) (mw_p34_19 hm) ?_
        refine Z_iload dX12_goesThrough_124 rfl ?_
        refine Z_laldv dX12_goesThrough_126 (mw_i44 hm) (zix_nI (by omega) (by decide)) mm.2 ?_
        refine Z_ladd dX12_goesThrough_127 ?_
        rw [lN_add]
        refine Z_lstore (L' := [_, _, _, _, _, _, _, _, _, _, _]) dX12_goesThrough_128 (by decide) rfl rfl ?_
        refine Z_iinc (L' := [_, _, _, _, _, _, _, _, _, _, _]) dX12_goesThrough_130 rfl (by rfl : _ + Int32.ofInt 1 = _ + 1) (by decide) rfl rfl ?_
        refine Z_goto (tgt := 42) dX12_goesThrough_133 (by decide) ?_
        rw [nI_1]
        first
          | (have := ih (s + 1) (by omega) δ hw2 hf2
             unfold zpart at this
             rw [if_pos hp, if_pos hp, ← Nat.add_assoc (if zla q = 0 ∧ q % 27 = 26 then 1 else 0)] at this
             refine Z_less (L' := [some (.ref (G.1 + 34)), some (.int (nI w)), some (.int (nI q)), some (.long _), none, some (.long _), none, some (.int _), none, none, none]) ⟨rfl, rfl, rfl, rfl, rfl, rfl, trivial⟩ ?_
             exact this)
          | (have := ih (s + 1) (by omega) β hw hf
             have hz : ¬ 0 < zl q s := fun z => nI_nle z (by omega) h54
             unfold zpart at this
             rw [if_neg hz, if_neg hz, Nat.add_zero, Nat.add_zero] at this
             exact this)
theorem st_goes {n w : Nat} (hT2 : D + R < 500) (hw8 : w < 8) (hG : ∀ m, n = m + 1 → mGoes G A t D R d w m) : mGoes G A t D R d w n := by
  intro q α post hq hn hnT hw h
  have hm := hw.1.1.mw
  obtain ⟨v, hv1, hv2⟩ := hw.1.2.1.1.2.2.2 45 (Or.inr (Or.inl rfl)) q
  have ht := hw.1.2.1.1.1
  have hla := zla_le hq
  have e27 : nI q - nI q / 27 * 27 = nI (q % 27) := pk_rem (d := 27) (by omega) (by omega) (by omega)
  have key := lp_goes hT2 hw8 hG hq hn hnT h 3 0 rfl α hw frI.rf
  refine ZK.of (n := 8) (by decide) (Nat.le_of_ble_eq_true rfl) rfl ?_
  refine Z_aload_n dX12_goesThrough_0 rfl rfl ?_
  refine Z_getR dX12_goesThrough_1 cl_12 fl_X12_44_12 rfl (mw_i34 hm) (mw_p34_20 hm) ?_
  refine Z_iload_n dX12_goesThrough_4 rfl rfl ?_
  refine Z_ialdv dX12_goesThrough_5 (mw_i45 hm) (zix_nI (by omega) (by decide)) hv2 ?_
  refine Z_aload_n dX12_goesThrough_6 rfl rfl ?_
  refine Z_getIv dX12_goesThrough_7 cl_12 fl_X12_188_12 rfl (mw_i34 hm) hw.1.2.1.1.2.1 ?_
  refine Z_icmp_ne (tgt := 14) dX12_goesThrough_10 (by decide) (fun h10 => ?_) (fun h10 => ?_)
  · skip
    refine Z_lconst (v := 0) dX12_goesThrough_14 (by decide) ?_
    refine Z_lstore_n (L' := [_, _, _, _, _, _, _, _, _, _, _]) dX12_goesThrough_15 rfl (by decide) rfl rfl ?_
    refine Z_iload_n dX12_goesThrough_16 rfl rfl ?_
    refine Z_S1z dX12_goesThrough_17 to_X12_leftInAll lk_X12_185 sc_X12_leftInAll (Nat.le_of_ble_eq_true rfl) ⟨rfl, rfl⟩ ⟨by decide, by decide⟩ ?_
    refine c_leftInAll hq ?_
    refine Z_if_ne (tgt := 36) dX12_goesThrough_20 (by decide) (fun h20 => ?_) (fun h20 => ?_)
    · skip
      refine Z_lconst (v := 0) dX12_goesThrough_36 (by decide) ?_
      refine Z_lstore (L' := [_, _, _, _, _, _, _, _, _, _, _]) dX12_goesThrough_37 (by decide) rfl rfl ?_
      refine Z_iconst (v := 0) dX12_goesThrough_39 (by decide) ?_
      refine Z_istore (L' := [_, _, _, _, _, _, _, _, _, _, _]) dX12_goesThrough_40 (by decide) rfl rfl ?_
      first
        | (rw [if_pos ⟨(nI_eq (b := 0) (by omega) (by omega)).mp h20, (nI_eq (b := 26) (by omega) (by omega)).mp h29⟩] at key; exact key)
        | (rw [if_neg (fun z => h29 (by rw [z.2]; rfl))] at key; exact key)
        | (rw [if_neg (fun z => h20 (by rw [z.1]; rfl))] at key; exact key)
    · skip
      refine Z_iload_n dX12_goesThrough_23 rfl rfl ?_
      refine Z_bipush (v := 27) dX12_goesThrough_24 (by decide) ?_
      refine Z_irem dX12_goesThrough_26 (by decide) ?_
      rw [e27]
      refine Z_bipush (v := 26) dX12_goesThrough_27 (by decide) ?_
      refine Z_icmp_ne (tgt := 36) dX12_goesThrough_29 (by decide) (fun h29 => ?_) (fun h29 => ?_)
      · skip
        refine Z_lconst (v := 0) dX12_goesThrough_36 (by decide) ?_
        refine Z_lstore (L' := [_, _, _, _, _, _, _, _, _, _, _]) dX12_goesThrough_37 (by decide) rfl rfl ?_
        refine Z_iconst (v := 0) dX12_goesThrough_39 (by decide) ?_
        refine Z_istore (L' := [_, _, _, _, _, _, _, _, _, _, _]) dX12_goesThrough_40 (by decide) rfl rfl ?_
        first
          | (rw [if_pos ⟨(nI_eq (b := 0) (by omega) (by omega)).mp h20, (nI_eq (b := 26) (by omega) (by omega)).mp h29⟩] at key; exact key)
          | (rw [if_neg (fun z => h29 (by rw [z.2]; rfl))] at key; exact key)
          | (rw [if_neg (fun z => h20 (by rw [z.1]; rfl))] at key; exact key)
      · skip
        refine Z_lconst (v := 1) dX12_goesThrough_32 (by decide) ?_
        refine Z_goto (tgt := 37) dX12_goesThrough_33 (by decide) ?_
        refine Z_lstore (L' := [_, _, _, _, _, _, _, _, _, _, _]) dX12_goesThrough_37 (by decide) rfl rfl ?_
        refine Z_iconst (v := 0) dX12_goesThrough_39 (by decide) ?_
        refine Z_istore (L' := [_, _, _, _, _, _, _, _, _, _, _]) dX12_goesThrough_40 (by decide) rfl rfl ?_
        first
          | (rw [if_pos ⟨(nI_eq (b := 0) (by omega) (by omega)).mp h20, (nI_eq (b := 26) (by omega) (by omega)).mp h29⟩] at key; exact key)
          | (rw [if_neg (fun z => h29 (by rw [z.2]; rfl))] at key; exact key)
          | (rw [if_neg (fun z => h20 (by rw [z.1]; rfl))] at key; exact key)
  · skip
    refine Z_vret dX12_goesThrough_13 rfl ⟨by decide, by decide⟩ ?_
    exact h α hw frI.rf (by rw [hv2]; exact congrArg nI ((nI_eq (by omega) (by omega)).mp h10))
theorem mGoes_all {w : Nat} (hT2 : D + R < 500) (hw8 : w < 8) : ∀ n, mGoes G A t D R d w n
  | 0 => st_goes hT2 hw8 (fun m h => by cases h)
  | n + 1 => st_goes hT2 hw8 (fun m h => by cases h; exact mGoes_all hT2 hw8 n)
theorem c_goesThrough {q w : Nat} (hw : mGw A t D R w α) (hT2 : D + R < 500) (hw8 : w < 8) (hq : q < 5832) (hT : zla q ≤ D + R) (h : ∀ β, mGw A t D R w β → frI Fw α β → hI β 45 q = nI t → post none β) : ZK G (d + 55) mX12_goesThrough [.ref (G.1 + 34), .int (nI w), .int (nI q)] α post := by
  have hla := zla_le hq
  have := mGoes_all (G := G) (A := A) (t := t) (d := d + (15 - zla q)) hT2 hw8 (zla q) q α post hq rfl hT hw h
  rw [show d + (15 - zla q) + zla q + 40 = d + 55 by omega] at this
  exact this
theorem fw_mid : ∀ k, Fw k → mId k := fun k hk => by unfold Fw Fb at hk; unfold mId; omega
def zwk (S : ZS) (w : Nat) : Nat := zwork (zway S (S.1 5 + zrest S.1) w) (sp_pay S.1) (zq S.1)
def zak (S : ZS) (w : Nat) : Nat := zall (zway S (S.1 5 + zrest S.1) w) (zq S.1)
def sp_mean (S : ZS) (w x p : Int32) : Int64 := if ((0 ≤ w ∧ w ≤ nI (S.1 0) - 1) ∧ (0 ≤ x ∧ x ≤ 2)) ∧ (0 ≤ p ∧ p ≤ 1) then lZ (zlow (if x = 0 then (zwk S w.toNatClampNeg : Int) else if x = 1 then (zak S w.toNatClampNeg : Int) else (zB S : Int) - zwk S w.toNatClampNeg) (zoq (zq S.1)) p) else zNO
theorem c_mmean {w x p : Int32} (hr : MRel A α) (hb : A.2.2.2 + 3 < 1000) (h : ∀ β, MRel (zup A 2) β → frI mId α β → post (some (.long (sp_mean A.1 w x p))) β) : ZK G (d + 56) mX12_mean [.ref (G.1 + 34), .int w, .int x, .int p] α post := by
  have hm := hr.mw
  have v0 := hr.at (i := 0) (by omega) (by omega)
  have b0 : A.1.1 0 ≤ 8 := hr.2.1.at (by omega) rfl
  have b5 : A.1.1 5 ≤ 99 := hr.2.1.at (by omega) rfl
  have b := zsb hr.2.1 (show 0 ≤ 2 by omega)
  have hq := zq_ok hr.2.1
  have hla := hq.2.1
  have hpl := sp_pay_le hr.2.1
  have ho1 := zoq_le hq.1
  have ho2 := zoq_pos hq.1
  have hbl := zbest_lt (cn := zcn A.1 (A.1.1 5 + zrest A.1.1)) hpl hq.1
  refine ZK.of (n := 3) (by decide) (Nat.le_of_ble_eq_true rfl) rfl ?_
  refine Z_aload_n dX12_mean_0 rfl rfl ?_
  refine Z_iload_n dX12_mean_1 rfl rfl ?_
  refine Z_V1z (ci := 12) dX12_mean_2 to_X12_isWorker lk_X12_227 iv_X12_isWorker ⟨rfl, rfl⟩ (mw_i34 hm) (Nat.le_of_ble_eq_true rfl) ⟨rfl, rfl⟩ ⟨by decide, by decide⟩ ?_
  refine c_isWorker hm ?_
  rw [v0]
  refine Z_if_eq (tgt := 26) dX12_mean_5 (by decide) (fun h5 => ?_) (fun h5 => ?_)
  · skip
    refine Z_ldc2 dX12_mean_26 kc_X12_259 ?_
    refine Z_lret dX12_mean_29 rfl ⟨by decide, by decide⟩ ?_
    have e : sp_mean A.1 w x p = zNO := if_neg (fun z => by first | exact dec_f h5 z.1.1 | exact dec_f h14 z.1.2 | exact dec_f h23 z.2)
    rw [e] at h; exact h α hr.up frI.rf
  · skip
    refine Z_iload_n dX12_mean_8 rfl rfl ?_
    refine Z_iconst (v := 0) dX12_mean_9 (by decide) ?_
    refine Z_iconst (v := 2) dX12_mean_10 (by decide) ?_
    refine Z_S3z dX12_mean_11 to_X12_in lk_X12_69 sc_X12_in (Nat.le_of_ble_eq_true rfl) ⟨rfl, rfl⟩ ⟨by decide, by decide⟩ ?_
    refine c_in ?_
    refine Z_if_eq (tgt := 26) dX12_mean_14 (by decide) (fun h14 => ?_) (fun h14 => ?_)
    · skip
      refine Z_ldc2 dX12_mean_26 kc_X12_259 ?_
      refine Z_lret dX12_mean_29 rfl ⟨by decide, by decide⟩ ?_
      have e : sp_mean A.1 w x p = zNO := if_neg (fun z => by first | exact dec_f h5 z.1.1 | exact dec_f h14 z.1.2 | exact dec_f h23 z.2)
      rw [e] at h; exact h α hr.up frI.rf
    · skip
      refine Z_iload_n dX12_mean_17 rfl rfl ?_
      refine Z_iconst (v := 0) dX12_mean_18 (by decide) ?_
      refine Z_iconst (v := 1) dX12_mean_19 (by decide) ?_
      refine Z_S3z dX12_mean_20 to_X12_in lk_X12_69 sc_X12_in (Nat.le_of_ble_eq_true rfl) ⟨rfl, rfl⟩ ⟨by decide, by decide⟩ ?_
      refine c_in ?_
      refine Z_if_ne (tgt := 30) dX12_mean_23 (by decide) (fun h23 => ?_) (fun h23 => ?_)
      · skip
        obtain ⟨j, hj, rfl⟩ := idx_lt (by omega) (dec_t h5)
        have ej : (nI j).toNatClampNeg = j := nI_clamp (by omega)
        have es : sp_mean A.1 (nI j) x p = lZ (zlow (if x = 0 then (zwk A.1 j : Int) else if x = 1 then (zak A.1 j : Int) else (zB A.1 : Int) - zwk A.1 j) (zoq (zq A.1.1)) p) := by
          unfold sp_mean
          rw [if_pos ⟨⟨dec_t h5, dec_t h14⟩, dec_t h23⟩, ej]
        rw [es] at h
        refine Z_aload_n dX12_mean_30 rfl rfl ?_
        refine Z_V0z (ci := 12) dX12_mean_31 to_X12_looks lk_X12_246 iv_X12_looks ⟨rfl, rfl⟩ (mw_i34 hm) (Nat.le_of_ble_eq_true rfl) ⟨rfl, rfl⟩ ⟨by decide, by decide⟩ ?_
        refine c_look hr hb (fun β t hw hf f45 _ _ => ?_)
        have hm := hw.1.mw
        refine Z_aload_n dX12_mean_34 rfl rfl ?_
        refine Z_V0z (ci := 12) dX12_mean_35 to_X12_stateNow lk_X12_249 iv_X12_stateNow ⟨rfl, rfl⟩ (mw_i34 hm) (Nat.le_of_ble_eq_true rfl) ⟨rfl, rfl⟩ ⟨by decide, by decide⟩ ?_
        refine c_stateNow hw.1 ?_
        rw [show zq (zup A 1).1.1 = zq A.1.1 from rfl]
        refine Z_istore (L' := [_, _, _, _, _, _, _]) dX12_mean_38 (by decide) rfl rfl ?_
        refine Z_aload_n dX12_mean_40 rfl rfl ?_
        refine Z_iload_n dX12_mean_41 rfl rfl ?_
        refine Z_iload dX12_mean_42 rfl ?_
        refine Z_V2z (ci := 12) dX12_mean_44 to_X12_goesThrough lk_X12_265 iv_X12_goesThrough ⟨rfl, rfl⟩ (mw_i34 hm) (Nat.le_of_ble_eq_true rfl) ⟨rfl, rfl⟩ ⟨by decide, by decide⟩ ?_
        refine c_goesThrough (⟨hw, fun q hq e => absurd e (f45 q)⟩ : mGw (zup A 1) t (A.1.1 5) (zrest A.1.1) j β) (by show A.1.1 5 + zrest A.1.1 < 500; omega) (by omega) hq.1 (by show _ ≤ A.1.1 5 + zrest A.1.1; omega) (fun γ hw1 hf1 e1 => ?_)
        have hm := hw1.1.1.mw
        have mm := hw1.2 _ hq.1 e1
        rw [show zwork (zway (zup A 1).1 (A.1.1 5 + zrest A.1.1) j) (sp_pay (zup A 1).1.1) (zq A.1.1) = zwk A.1 j from rfl, show zall (zway (zup A 1).1 (A.1.1 5 + zrest A.1.1) j) (zq A.1.1) = zak A.1 j from rfl] at mm
        have w1 : zwk A.1 j ≤ 224756532 := zwork_lt zway_ok hpl hq.1
        have w2 : zak A.1 j ≤ zoq (zq A.1.1) := zall_le zway_ok _ _ hq.1 rfl
        have hf1 : frI mId α γ := hf.tr (hf1.mono fw_mid)
        refine Z_iload_n dX12_mean_47 rfl rfl ?_
        refine Z_if_ne (tgt := 61) dX12_mean_48 (by decide) (fun h48 => ?_) (fun h48 => ?_)
        · skip
          refine Z_iload_n dX12_mean_61 rfl rfl ?_
          refine Z_iconst (v := 1) dX12_mean_62 (by decide) ?_
          refine Z_icmp_ne (tgt := 76) dX12_mean_63 (by decide) (fun h63 => ?_) (fun h63 => ?_)
          · skip
            refine Z_aload_n dX12_mean_76 rfl rfl ?_
            refine Z_iload dX12_mean_77 rfl ?_
            refine Z_V1z (ci := 12) dX12_mean_79 to_X12_best lk_X12_202 iv_X12_best ⟨rfl, rfl⟩ (mw_i34 hm) (Nat.le_of_ble_eq_true rfl) ⟨rfl, rfl⟩ ⟨by decide, by decide⟩ ?_
            refine c_best hw1.1 (by show A.1.1 5 + zrest A.1.1 < 500; omega) hq.1 (by show _ ≤ A.1.1 5 + zrest A.1.1; omega) (fun δ hw2 hf2 => ?_)
            have hm := hw2.1.mw
            have e43 := (hf2.2.2.2 43 (by unfold Fb; omega)).2
            have mm3 : hJ δ 43 (zq A.1.1) = lN (zwk A.1 j) := by rw [e43]; exact mm.1
            have hf2 : frI mId α δ := hf1.tr (hf2.mono fb_mid)
            have eB : zbest (zcn (zup A 1).1 (A.1.1 5 + zrest A.1.1)) (sp_pay (zup A 1).1.1) (zq A.1.1) = zB A.1 := rfl
            rw [eB]
            have hB : zB A.1 ≤ _ := hbl
            have esub : lN (zB A.1) - lN (zwk A.1 j) = lZ ((zB A.1 : Int) - zwk A.1 j) := by
              rw [← lZ_nat, ← lZ_nat]
              unfold lZ
              rw [← Int64.ofInt_sub]
            refine Z_aload_n dX12_mean_82 rfl rfl ?_
            refine Z_getR dX12_mean_83 cl_12 fl_X12_38_12 rfl (mw_i34 hm) (mw_p34_18 hm) ?_
            refine Z_iload dX12_mean_86 rfl ?_
            refine Z_laldv dX12_mean_88 (mw_i43 hm) (zix_nI (by omega) (by decide)) mm3 ?_
            refine Z_lsub dX12_mean_89 ?_
            rw [esub]
            refine Z_lstore (L' := [_, _, _, _, _, _, _]) dX12_mean_90 (by decide) rfl rfl ?_
            refine Z_lload dX12_mean_92 rfl ?_
            refine Z_iload dX12_mean_94 rfl ?_
            refine Z_S1z dX12_mean_96 to_X12_ordersOf lk_X12_209 sc_X12_ordersOf (Nat.le_of_ble_eq_true rfl) ⟨rfl, rfl⟩ ⟨by decide, by decide⟩ ?_
            refine c_ordersOf hq.1 ?_
            refine Z_iload_n dX12_mean_99 rfl rfl ?_
            refine Z_S3z dX12_mean_100 to_X12_lowest lk_X12_261 sc_X12_lowest (Nat.le_of_ble_eq_true rfl) ⟨rfl, rfl⟩ ⟨by decide, by decide⟩ ?_
            first
              | refine c_lowest (z := (zwk A.1 j : Int)) (by omega) (by omega) (by omega) ho2 ?_
              | refine c_lowest (z := (zak A.1 j : Int)) (by omega) (by omega) (by omega) ho2 ?_
              | refine c_lowest (by omega) (by omega) (by omega) ho2 ?_
            refine Z_lret dX12_mean_103 rfl ⟨by decide, by decide⟩ ?_
            first
              | (have hp := h γ (hw1.1.1.up' (by omega)) hf1; rw [if_pos h48] at hp; exact hp)
              | (have hp := h γ (hw1.1.1.up' (by omega)) hf1; rw [if_neg h48, if_pos h63] at hp; exact hp)
              | (have hp := h δ (hw2.1.up' (by omega)) hf2; rw [if_neg h48, if_neg h63] at hp; exact hp)
          · skip
            refine Z_aload_n dX12_mean_66 rfl rfl ?_
            refine Z_getR dX12_mean_67 cl_12 fl_X12_41_12 rfl (mw_i34 hm) (mw_p34_19 hm) ?_
            refine Z_iload dX12_mean_70 rfl ?_
            refine Z_laldv dX12_mean_72 (mw_i44 hm) (zix_nI (by omega) (by decide)) mm.2 ?_
            rw [← lZ_nat]
            refine Z_goto (tgt := 90) dX12_mean_73 (by decide) ?_
            refine Z_lstore (L' := [_, _, _, _, _, _, _]) dX12_mean_90 (by decide) rfl rfl ?_
            refine Z_lload dX12_mean_92 rfl ?_
            refine Z_iload dX12_mean_94 rfl ?_
            refine Z_S1z dX12_mean_96 to_X12_ordersOf lk_X12_209 sc_X12_ordersOf (Nat.le_of_ble_eq_true rfl) ⟨rfl, rfl⟩ ⟨by decide, by decide⟩ ?_
            refine c_ordersOf hq.1 ?_
            refine Z_iload_n dX12_mean_99 rfl rfl ?_
            refine Z_S3z dX12_mean_100 to_X12_lowest lk_X12_261 sc_X12_lowest (Nat.le_of_ble_eq_true rfl) ⟨rfl, rfl⟩ ⟨by decide, by decide⟩ ?_
            first
              | refine c_lowest (z := (zwk A.1 j : Int)) (by omega) (by omega) (by omega) ho2 ?_
              | refine c_lowest (z := (zak A.1 j : Int)) (by omega) (by omega) (by omega) ho2 ?_
              | refine c_lowest (by omega) (by omega) (by omega) ho2 ?_
            refine Z_lret dX12_mean_103 rfl ⟨by decide, by decide⟩ ?_
            first
              | (have hp := h γ (hw1.1.1.up' (by omega)) hf1; rw [if_pos h48] at hp; exact hp)
              | (have hp := h γ (hw1.1.1.up' (by omega)) hf1; rw [if_neg h48, if_pos h63] at hp; exact hp)
              | (have hp := h δ (hw2.1.up' (by omega)) hf2; rw [if_neg h48, if_neg h63] at hp; exact hp)
        · skip
          refine Z_aload_n dX12_mean_51 rfl rfl ?_
          refine Z_getR dX12_mean_52 cl_12 fl_X12_38_12 rfl (mw_i34 hm) (mw_p34_18 hm) ?_
          refine Z_iload dX12_mean_55 rfl ?_
          refine Z_laldv dX12_mean_57 (mw_i43 hm) (zix_nI (by omega) (by decide)) mm.1 ?_
          rw [← lZ_nat]
          refine Z_goto (tgt := 90) dX12_mean_58 (by decide) ?_
          refine Z_lstore (L' := [_, _, _, _, _, _, _]) dX12_mean_90 (by decide) rfl rfl ?_
          refine Z_lload dX12_mean_92 rfl ?_
          refine Z_iload dX12_mean_94 rfl ?_
          refine Z_S1z dX12_mean_96 to_X12_ordersOf lk_X12_209 sc_X12_ordersOf (Nat.le_of_ble_eq_true rfl) ⟨rfl, rfl⟩ ⟨by decide, by decide⟩ ?_
          refine c_ordersOf hq.1 ?_
          refine Z_iload_n dX12_mean_99 rfl rfl ?_
          refine Z_S3z dX12_mean_100 to_X12_lowest lk_X12_261 sc_X12_lowest (Nat.le_of_ble_eq_true rfl) ⟨rfl, rfl⟩ ⟨by decide, by decide⟩ ?_
          first
            | refine c_lowest (z := (zwk A.1 j : Int)) (by omega) (by omega) (by omega) ho2 ?_
            | refine c_lowest (z := (zak A.1 j : Int)) (by omega) (by omega) (by omega) ho2 ?_
            | refine c_lowest (by omega) (by omega) (by omega) ho2 ?_
          refine Z_lret dX12_mean_103 rfl ⟨by decide, by decide⟩ ?_
          first
            | (have hp := h γ (hw1.1.1.up' (by omega)) hf1; rw [if_pos h48] at hp; exact hp)
            | (have hp := h γ (hw1.1.1.up' (by omega)) hf1; rw [if_neg h48, if_pos h63] at hp; exact hp)
            | (have hp := h δ (hw2.1.up' (by omega)) hf2; rw [if_neg h48, if_neg h63] at hp; exact hp)
      · skip
        refine Z_ldc2 dX12_mean_26 kc_X12_259 ?_
        refine Z_lret dX12_mean_29 rfl ⟨by decide, by decide⟩ ?_
        have e : sp_mean A.1 w x p = zNO := if_neg (fun z => by first | exact dec_f h5 z.1.1 | exact dec_f h14 z.1.2 | exact dec_f h23 z.2)
        rw [e] at h; exact h α hr.up frI.rf
end MW1
