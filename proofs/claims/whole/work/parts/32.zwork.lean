/-! what a worker with a way f of choosing makes, over all orders; in how many orders all is done -/
def zfok (f : Nat → Nat → Nat) : Prop := ∀ q s, f q s = 3 ∨ (f q s < 3 ∧ zg q (f q s) < 2)
def zworkN (f : Nat → Nat → Nat) (pay : Nat → Nat) : Nat → Nat → Nat
  | 0, _ => 0
  | n + 1, q => zsum (fun s => zoq (zd q s) * zpays pay (zd q s) (f (zd q s) s) + zworkN f pay n (zdw (zd q s) (f (zd q s) s))) q
def zwork (f : Nat → Nat → Nat) (pay : Nat → Nat) (q : Nat) : Nat := zworkN f pay (zla q) q
def zallN (f : Nat → Nat → Nat) : Nat → Nat → Nat
  | 0, q => if q % 27 = 26 then 1 else 0
  | n + 1, q => zsum (fun s => zallN f n (zdw (zd q s) (f (zd q s) s))) q
def zall (f : Nat → Nat → Nat) (q : Nat) : Nat := zallN f (zla q) q
theorem zdw_ok {q w : Nat} (hq : q < 5832) (h : w = 3 ∨ (w < 3 ∧ zg q w < 2)) : zdw q w < 5832 ∧ zla (zdw q w) = zla q ∧ zoq (zdw q w) = zoq q := by
  unfold zdw
  rcases h with h | h
  · rw [if_pos h]; exact ⟨hq, rfl, rfl⟩
  · rw [if_neg (by omega)]
    have ok := zdo_ok hq h.1 h.2
    exact ⟨ok.1, zdo_la hq h.1 h.2, by unfold zoq; rw [ok.2.1, ok.2.1, ok.2.1]⟩
theorem zwork_eq {f : Nat → Nat → Nat} {pay : Nat → Nat} (hf : zfok f) {q : Nat} (hq : q < 5832) : zwork f pay q = zsum (fun s => zoq (zd q s) * zpays pay (zd q s) (f (zd q s) s) + zwork f pay (zdw (zd q s) (f (zd q s) s))) q := by
  cases hn : zla q with
  | zero =>
    have h0 : zl q 0 = 0 ∧ zl q 1 = 0 ∧ zl q 2 = 0 := by unfold zla at hn; omega
    unfold zwork zsum
    rw [hn, h0.1, h0.2.1, h0.2.2]
    rfl
  | succ n =>
    show zworkN f pay (zla q) q = _
    rw [hn]
    refine zsum_cg (fun s hs hp => ?_)
    have ok := zd_ok hq hs hp
    have ok2 := zdw_ok ok.2.1 (hf (zd q s) s)
    show zoq (zd q s) * zpays pay (zd q s) (f (zd q s) s) + zworkN f pay n (zdw (zd q s) (f (zd q s) s)) = zoq (zd q s) * zpays pay (zd q s) (f (zd q s) s) + zworkN f pay (zla (zdw (zd q s) (f (zd q s) s))) (zdw (zd q s) (f (zd q s) s))
    rw [ok2.2.1, show zla (zd q s) = n by omega]
theorem zall_eq {f : Nat → Nat → Nat} (hf : zfok f) {q : Nat} (hq : q < 5832) : zall f q = (if zla q = 0 ∧ q % 27 = 26 then 1 else 0) + zsum (fun s => zall f (zdw (zd q s) (f (zd q s) s))) q := by
  cases hn : zla q with
  | zero =>
    have h0 : zl q 0 = 0 ∧ zl q 1 = 0 ∧ zl q 2 = 0 := by unfold zla at hn; omega
    unfold zall zsum
    rw [hn, h0.1, h0.2.1, h0.2.2]
    show (if q % 27 = 26 then 1 else 0) = _
    by_cases e : q % 27 = 26
    · rw [if_pos e, if_pos ⟨rfl, e⟩]; rfl
    · rw [if_neg e, if_neg (fun z => e z.2)]; rfl
  | succ n =>
    show zallN f (zla q) q = _
    rw [hn, if_neg (fun z => by omega), Nat.zero_add]
    refine zsum_cg (fun s hs hp => ?_)
    have ok := zd_ok hq hs hp
    have ok2 := zdw_ok ok.2.1 (hf (zd q s) s)
    show zallN f n (zdw (zd q s) (f (zd q s) s)) = zallN f (zla (zdw (zd q s) (f (zd q s) s))) (zdw (zd q s) (f (zd q s) s))
    rw [ok2.2.1, show zla (zd q s) = n by omega]
theorem zpl_w {pay : Nat → Nat} {q w : Nat} (hq : q < 5832) (h : w = 3 ∨ (w < 3 ∧ zg q w < 2)) : zpays pay q w + zpl pay (zdw q w) = zpl pay q := by
  rcases h with h | h
  · subst h; simp [zpays, zdw]
  · rw [show zdw q w = zdo q w from if_neg (by omega)]
    exact zpl_done hq h.1 h.2
theorem zwork_le {f : Nat → Nat → Nat} {pay : Nat → Nat} (hf : zfok f) : ∀ (n q : Nat), q < 5832 → zla q = n → zwork f pay q ≤ zoq q * zpl pay q := by
  intro n
  induction n with
  | zero =>
    intro q hq hn
    unfold zwork
    rw [hn]
    exact Nat.zero_le _
  | succ n ih =>
    intro q hq hn
    rw [zwork_eq hf hq, zoq_rec hq (by omega), ← zsum_mul]
    refine zsum_le (fun s hs hp => ?_)
    have ok := zd_ok hq hs hp
    have ok2 := zdw_ok ok.2.1 (hf (zd q s) s)
    have h2 := ih _ ok2.1 (by omega)
    rw [ok2.2.2] at h2
    rw [← zpl_d hq hs hp, ← zpl_w ok.2.1 (hf (zd q s) s), Nat.mul_add]
    omega
theorem zall_le {f : Nat → Nat → Nat} (hf : zfok f) : ∀ (n q : Nat), q < 5832 → zla q = n → zall f q ≤ zoq q := by
  intro n
  induction n with
  | zero =>
    intro q hq hn
    unfold zall
    rw [hn]
    show (if q % 27 = 26 then 1 else 0) ≤ zoq q
    have := zoq_pos hq
    split <;> omega
  | succ n ih =>
    intro q hq hn
    rw [zall_eq hf hq, if_neg (fun z => by omega), Nat.zero_add, zoq_rec hq (by omega)]
    refine zsum_le (fun s hs hp => ?_)
    have ok := zd_ok hq hs hp
    have ok2 := zdw_ok ok.2.1 (hf (zd q s) s)
    have h2 := ih _ ok2.1 (by omega)
    rw [ok2.2.2] at h2
    exact h2
theorem zpl_le {pay : Nat → Nat} (hp : ∀ k, k < 3 → pay k ≤ 99) {q : Nat} : zpl pay q ≤ 297 := by
  have a := hp 0 (by omega)
  have b := hp 1 (by omega)
  have c := hp 2 (by omega)
  unfold zpl
  split <;> split <;> split <;> omega
theorem zwork_lt {f : Nat → Nat → Nat} {pay : Nat → Nat} (hf : zfok f) (hp : ∀ k, k < 3 → pay k ≤ 99) {q : Nat} (hq : q < 5832) : zwork f pay q ≤ 224756532 :=
  Nat.le_trans (zwork_le hf _ q hq rfl) (Nat.le_trans (Nat.mul_le_mul (zoq_le hq) (zpl_le hp)) (by decide))
theorem zpays_le {pay : Nat → Nat} (hp : ∀ k, k < 3 → pay k ≤ 99) {q w : Nat} (hw : w ≤ 3) : zpays pay q w ≤ 99 := by
  unfold zpays
  split
  · omega
  · rename_i h
    have := hp w (by omega)
    split <;> omega
theorem zdoes_ok {cn : ZCn} {pay : Nat → Nat} {kd v : Nat} {tl : Nat → Nat} : zfok (fun q s => zdoes cn pay kd v (tl s) q s) := fun q s => by
  rcases zdoes_in (cn := cn) (pay := pay) (kd := kd) (v := v) (tl := tl s) (q := q) (s := s) with h | h
  · exact Or.inl h
  · exact Or.inr ⟨h.1, zcan_g h.2⟩
section MW1
variable {G : ZG} {d : Nat} {α β : AH} {post : Option Value → AH → Prop} {A : ZA} {t D R : Nat}
/-- worker w's way -/
def zway (S : ZS) (T w : Nat) : Nat → Nat → Nat := fun q s => zdoes (zcn S T) (sp_pay S.1) (S.1 (112 + w)) (S.1 (120 + w)) (S.1 (128 + 3 * w + s)) q s
theorem zway_ok {S : ZS} {T w : Nat} : zfok (zway S T w) := zdoes_ok (tl := fun s => S.1 (128 + 3 * w + s))
def mWM (α : AH) (t : Nat) (f : Nat → Nat → Nat) (pay : Nat → Nat) : Prop := ∀ q, q < 5832 → hI α 45 q = nI t → hJ α 43 q = lN (zwork f pay q) ∧ hJ α 44 q = lN (zall f q)
def Fw (k : Nat) : Prop := Fb k ∨ k = 43 ∨ k = 44 ∨ k = 45
def mGw (A : ZA) (t D R w : Nat) (α : AH) : Prop := mLk A t D R α ∧ mWM α t (zway A.1 (D + R) w) (sp_pay A.1.1)
theorem mGw.fb {w : Nat} (h : mGw A t D R w α) (hf : frI Fb α β) (hw : mLk A t D R β) : mGw A t D R w β := by
  refine ⟨hw, fun q hq e => ?_⟩
  have e45 := hf.2.2.2 45 (by unfold Fb; omega)
  have e43 := hf.2.2.2 43 (by unfold Fb; omega)
  have e44 := hf.2.2.2 44 (by unfold Fb; omega)
  rw [e45.1] at e
  rw [e43.2, e44.2]
  exact h.2 q hq e
theorem mLk.rows {F : Nat → Prop} (h : mLk A t D R α) (hf : frI F α β) (hF : ∀ k ∈ [34, 35, 36, 39, 40, 41, 51], ¬ F k) (hst : mStamp β t) : mLk A t D R β := by
  have e : ∀ k ∈ [34, 35, 36, 39, 40, 41, 51], hI β k = hI α k ∧ hJ β k = hJ α k := fun k hk => hf.2.2.2 k (hF k hk)
  obtain ⟨hr, ha, hc, hbm⟩ := h
  refine ⟨hr.st hf (fun k hk => hF k (by simp at hk ⊢; omega)) hst (hr.tb ha.1), ⟨hst, by rw [(e 34 (by decide)).1]; exact ha.2.1, by rw [(e 34 (by decide)).1]; exact ha.2.2⟩, ?_, ?_⟩
  · unfold mCM; rw [(e 39 (by decide)).1]; exact hc
  · unfold mBM; rw [(e 41 (by decide)).1, (e 40 (by decide)).2]; exact hbm
theorem mGw.put {w q : Nat} (h : mGw A t D R w α) : mGw A t D R w (sJ (sJ (sI α 45 q (nI t)) 43 q (lN (zwork (zway A.1 (D + R) w) (sp_pay A.1.1) q))) 44 q (lN (zall (zway A.1 (D + R) w) q))) := by
  obtain ⟨hl, hm⟩ := h
  have hst : mStamp (sJ (sJ (sI α 45 q (nI t)) 43 q (lN (zwork (zway A.1 (D + R) w) (sp_pay A.1.1) q))) 44 q (lN (zall (zway A.1 (D + R) w) q))) t := hl.2.1.1.sr (Or.inr (Or.inl rfl)) (Nat.le_refl t)
  refine ⟨hl.rows (F := fun k => k = 43 ∨ k = 44 ∨ k = 45) (((frI.sI (by omega)).tr (frI.sJ (by omega))).tr (frI.sJ (by omega))) (by decide) hst, fun q' hq' e => ?_⟩
  have e2 : hI (sI α 45 q (nI t)) 45 q' = nI t := e
  by_cases hx : q' = q
  · subst hx
    refine ⟨?_, ?_⟩
    · rw [hJ_sJ, if_neg (by omega), hJ_sJ, if_pos ⟨rfl, rfl⟩]
    · rw [hJ_sJ, if_pos ⟨rfl, rfl⟩]
  · rw [hI_sI, if_neg (fun z => hx z.2)] at e2
    have := hm q' hq' e2
    refine ⟨?_, ?_⟩
    · rw [hJ_sJ, if_neg (by omega), hJ_sJ, if_neg (fun z => hx z.2)]; exact this.1
    · rw [hJ_sJ, if_neg (fun z => hx z.2), hJ_sJ, if_neg (by omega)]; exact this.2
def mGoes (G : ZG) (A : ZA) (t D R d w n : Nat) : Prop := ∀ (q : Nat) (α : AH) (post : Option Value → AH → Prop), q < 5832 → zla q = n → n ≤ D + R → mGw A t D R w α → (∀ β, mGw A t D R w β → frI Fw α β → hI β 45 q = nI t → post none β) → ZK G (d + n + 40) mX12_goesThrough [.ref (G.1 + 34), .int (nI w), .int (nI q)] α post
theorem lp_goes {n q w : Nat} (hT2 : D + R < 500) (hw8 : w < 8) (hG : ∀ m, n = m + 1 → mGoes G A t D R d w m) (hq : q < 5832) (hn : zla q = n) (hnT : n ≤ D + R)
    (h : ∀ β, mGw A t D R w β → frI Fw α β → hI β 45 q = nI t → post none β) :
    ∀ (j s : Nat), s + j = 3 → ∀ (β : AH), mGw A t D R w β → frI Fw α β → Z G mX12_goesThrough (d + n + 40) 42 [some (.ref (G.1 + 34)), some (.int (nI w)), some (.int (nI q)), some (.long (lN (zpart (fun s => zoq (zd q s) * zpays (sp_pay A.1.1) (zd q s) (zway A.1 (D + R) w (zd q s) s) + zwork (zway A.1 (D + R) w) (sp_pay A.1.1) (zdw (zd q s) (zway A.1 (D + R) w (zd q s) s))) q s))), none, some (.long (lN ((if zla q = 0 ∧ q % 27 = 26 then 1 else 0) + zpart (fun s => zall (zway A.1 (D + R) w) (zdw (zd q s) (zway A.1 (D + R) w (zd q s) s))) q s))), none, some (.int (nI s)), none, none, none] [] β (0, 0) post := by
  intro j
  induction j with
  | zero =>
    intro s hs β hw hf
    have hs : s = 3 := by omega
    subst hs
    have hm := hw.1.1.mw
    rw [zpart3, zpart3, ← zwork_eq zway_ok hq, ← zall_eq zway_ok hq]
    refine Z_iload dX12_goesThrough_42 rfl ?_
    refine Z_iconst (v := 3) dX12_goesThrough_44 (by decide) ?_
    refine Z_icmp_ge (tgt := 136) dX12_goesThrough_45 (by decide) (fun h45 => ?_) (fun h45 => ?_)
    · skip
      refine Z_aload_n dX12_goesThrough_136 rfl rfl ?_
      refine Z_getR dX12_goesThrough_137 cl_12 fl_X12_44_12 rfl (mw_i34 hm) (mw_p34_20 hm) ?_
      refine Z_iload_n dX12_goesThrough_140 rfl rfl ?_
      refine Z_aload_n dX12_goesThrough_141 rfl rfl ?_
      refine Z_getIv dX12_goesThrough_142 cl_12 fl_X12_188_12 rfl (mw_i34 hm) hw.1.2.1.1.2.1 ?_
      refine Z_iast dX12_goesThrough_145 (mw_i45 hm) (zix_nI (by omega) (by decide)) ?_
      refine Z_aload_n dX12_goesThrough_146 rfl rfl ?_
      refine Z_getR dX12_goesThrough_147 cl_12 fl_X12_38_12 rfl (mw_i34 hm) (mw_p34_18 hm) ?_
      refine Z_iload_n dX12_goesThrough_150 rfl rfl ?_
      refine Z_lload_n dX12_goesThrough_151 rfl rfl ?_
      refine Z_last dX12_goesThrough_152 (mw_i43 hm) (zix_nI (by omega) (by decide)) ?_
      refine Z_aload_n dX12_goesThrough_153 rfl rfl ?_
      refine Z_getR dX12_goesThrough_154 cl_12 fl_X12_41_12 rfl (mw_i34 hm) (mw_p34_19 hm) ?_
      refine Z_iload_n dX12_goesThrough_157 rfl rfl ?_
      refine Z_lload dX12_goesThrough_158 rfl ?_
      refine Z_last dX12_goesThrough_160 (mw_i44 hm) (zix_nI (by omega) (by decide)) ?_
      refine Z_vret dX12_goesThrough_161 rfl ⟨by decide, by decide⟩ ?_
      exact h _ hw.put (((hf.tr (frI.sI (by unfold Fw; omega))).tr (frI.sJ (by unfold Fw; omega))).tr (frI.sJ (by unfold Fw; omega))) (show hI (sI β 45 q (nI t)) 45 q = nI t by rw [hI_sI, if_pos ⟨rfl, rfl⟩])
    · skip
      exact absurd (by decide) h45
  | succ j ih =>
    intro s hs β hw hf
    have hm := hw.1.1.mw
    have hl := zl_le (s := s) hq
    have hpl := sp_pay_le hw.1.1.2.1
    refine Z_iload dX12_goesThrough_42 rfl ?_
    refine Z_iconst (v := 3) dX12_goesThrough_44 (by decide) ?_
    refine Z_icmp_ge (tgt := 136) dX12_goesThrough_45 (by decide) (fun h45 => ?_) (fun h45 => ?_)
    · skip
      exact absurd h45 (nI_ge (a := s) (b := 3) (by omega) (by omega))
    · skip
      refine Z_iload_n dX12_goesThrough_48 rfl rfl ?_
      refine Z_iload dX12_goesThrough_49 rfl ?_
      refine Z_S2z dX12_goesThrough_51 to_X12_left lk_X12_172 sc_X12_left (Nat.le_of_ble_eq_true rfl) ⟨rfl, rfl⟩ ⟨by decide, by decide⟩ ?_
      refine c_left hq (by omega) ?_
      refine Z_if_le (tgt := 130) dX12_goesThrough_54 (by decide) (fun h54 => ?_) (fun h54 => ?_)
      · skip
        refine Z_iinc (L' := [_, _, _, _, _, _, _, _, _, _, _]) dX12_goesThrough_130 rfl (by rfl : _ + Int32.ofInt 1 = _ + 1) (by decide) rfl rfl ?_
        refine Z_goto (tgt := 42) dX12_goesThrough_133 (by decide) ?_
        rw [nI_1]
        first
          | (have := ih (s + 1) (by omega) δ hw2 hf2
             unfold zpart at this
             rw [if_pos hp, if_pos hp, ← Nat.add_assoc (if zla q = 0 ∧ q % 27 = 26 then 1 else 0)] at this
             refine Z_less (L' := [some (.ref (G.1 + 34)), some (.int (nI w)), some (.int (nI q)), some (.long _), none, some (.long _), none, some (.int _), none, none, none]) ⟨rfl, rfl, rfl, rfl, rfl, rfl, trivial⟩ ?_
             exact this)
          | (have := ih (s + 1) (by omega) β hw hf
             have hz : ¬ 0 < zl q s := fun z => nI_nle z (by omega) h54
             unfold zpart at this
             rw [if_neg hz, if_neg hz, Nat.add_zero, Nat.add_zero] at this
             exact this)
      · skip
        have hp := nI_pos0 (by omega) h54
        have ok := zd_ok hq (show s < 3 by omega) hp
        obtain ⟨m, em⟩ : ∃ m, n = m + 1 := ⟨n - 1, by omega⟩
        subst em
        rw [show d + (m + 1) + 40 = d + m + 40 + 1 by omega] at ih ⊢
        have em2 : zla (zd q s) = m := by omega
        refine Z_iload_n dX12_goesThrough_57 rfl rfl ?_
        refine Z_iload dX12_goesThrough_58 rfl ?_
        refine Z_S2z dX12_goesThrough_60 to_X12_drawn lk_X12_218 sc_X12_drawn (Nat.le_of_ble_eq_true rfl) ⟨rfl, rfl⟩ ⟨by decide, by decide⟩ ?_
        refine c_drawn hq (by omega) ok.1 ?_
        refine Z_istore (L' := [_, _, _, _, _, _, _, _, _, _, _]) dX12_goesThrough_63 (by decide) rfl rfl ?_
        refine Z_aload_n dX12_goesThrough_65 rfl rfl ?_
        refine Z_iload_n dX12_goesThrough_66 rfl rfl ?_
        refine Z_iload dX12_goesThrough_67 rfl ?_
        refine Z_iload dX12_goesThrough_69 rfl ?_
        refine Z_V3z (ci := 12) dX12_goesThrough_71 to_X12_doesOn lk_X12_252 iv_X12_doesOn ⟨rfl, rfl⟩ (mw_i34 hm) (Nat.le_of_ble_eq_true rfl) ⟨rfl, rfl⟩ ⟨by decide, by decide⟩ ?_
        refine c_doesOn hw.1 hT2 ok.2.1 (by omega) (by omega) hw8 (fun γ hw1 hf1 => ?_)
        have hm := hw1.1.mw
        have hw1 := hw.fb hf1 hw1
        have hf1 : frI Fw α γ := hf.tr (hf1.mono (fun k hk => Or.inl hk))
        rw [show zdoes (zcn A.1 (D + R)) (sp_pay A.1.1) (A.1.1 (112 + w)) (A.1.1 (120 + w)) (A.1.1 (128 + 3 * w + s)) (zd q s) s = zway A.1 (D + R) w (zd q s) s from rfl]
        have hwo := zway_ok (S := A.1) (T := D + R) (w := w) (zd q s) s
        have ok2 := zdw_ok ok.2.1 hwo
        have hw3 : zway A.1 (D + R) w (zd q s) s ≤ 3 := by omega
        refine Z_istore (L' := [_, _, _, _, _, _, _, _, _, _, _]) dX12_goesThrough_74 (by decide) rfl rfl ?_
        refine Z_iload dX12_goesThrough_76 rfl ?_
        refine Z_iload dX12_goesThrough_78 rfl ?_
        refine Z_S2z dX12_goesThrough_80 to_X12_done lk_X12_215 sc_X12_done (Nat.le_of_ble_eq_true rfl) ⟨rfl, rfl⟩ ⟨by decide, by decide⟩ ?_
        refine c_done hw3 ?_
        refine Z_istore (L' := [_, _, _, _, _, _, _, _, _, _, _]) dX12_goesThrough_83 (by decide) rfl rfl ?_
        refine Z_aload_n dX12_goesThrough_85 rfl rfl ?_
        refine Z_iload_n dX12_goesThrough_86 rfl rfl ?_
        refine Z_iload dX12_goesThrough_87 rfl ?_
        refine Z_V2z (ci := 12) dX12_goesThrough_89 to_X12_goesThrough lk_X12_265 iv_X12_goesThrough ⟨rfl, rfl⟩ (mw_i34 hm) (Nat.le_of_ble_eq_true rfl) ⟨rfl, rfl⟩ ⟨by decide, by decide⟩ ?_
        refine hG m rfl _ _ _ ok2.1 (by omega) (by omega) hw1 (fun δ hw2 hf2 e2 => ?_)
        have hm := hw2.1.1.mw
        have hf2 : frI Fw α δ := hf1.tr hf2
        have mm := hw2.2 _ ok2.1 e2
        refine Z_lload_n dX12_goesThrough_92 rfl rfl ?_
        refine Z_iload dX12_goesThrough_93 rfl ?_
        refine Z_S1z dX12_goesThrough_95 to_X12_ordersOf lk_X12_209 sc_X12_ordersOf (Nat.le_of_ble_eq_true rfl) ⟨rfl, rfl⟩ ⟨by decide, by decide⟩ ?_
        refine c_ordersOf ok.2.1 ?_
        refine Z_aload_n dX12_goesThrough_98 rfl rfl ?_
        refine Z_iload dX12_goesThrough_99 rfl ?_
        refine Z_iload dX12_goesThrough_101 rfl ?_
        refine Z_V2z (ci := 12) dX12_goesThrough_103 to_X12_pays lk_X12_212 iv_X12_pays ⟨rfl, rfl⟩ (mw_i34 hm) (Nat.le_of_ble_eq_true rfl) ⟨rfl, rfl⟩ ⟨by decide, by decide⟩ ?_
        refine c_pays ok.2.1 hw3 hw2.1.1 ?_
        refine Z_i2l dX12_goesThrough_106 ?_
        rw [nI_l (by have := zpays_le hpl (q := zd q s) hw3; omega)]
        refine Z_lmul dX12_goesThrough_107 ?_
        rw [lN_mul]
        refine Z_aload_n dX12_goesThrough_108 rfl rfl ?_
        refine Z_getR dX12_goesThrough_109 cl_12 fl_X12_38_12 rfl (mw_i34 hm) (mw_p34_18 hm) ?_
        refine Z_iload dX12_goesThrough_112 rfl ?_
        refine Z_laldv dX12_goesThrough_114 (mw_i43 hm) (zix_nI (by omega) (by decide)) mm.1 ?_
        refine Z_ladd dX12_goesThrough_115 ?_
        rw [lN_add]
        refine Z_ladd dX12_goesThrough_116 ?_
        rw [lN_add]
        refine Z_lstore_n (L' := [_, _, _, _, _, _, _, _, _, _, _]) dX12_goesThrough_117 rfl (by decide) rfl rfl ?_
        refine Z_lload dX12_goesThrough_118 rfl ?_
        refine Z_aload_n dX12_goesThrough_120 rfl rfl ?_
        refine Z_getR dX12_goesThrough_121 cl_12 fl_X12_41_12 rfl (mw_i34 hm) (mw_p34_19 hm) ?_
        refine Z_iload dX12_goesThrough_124 rfl ?_
        refine Z_laldv dX12_goesThrough_126 (mw_i44 hm) (zix_nI (by omega) (by decide)) mm.2 ?_
        refine Z_ladd dX12_goesThrough_127 ?_
        rw [lN_add]
        refine Z_lstore (L' := [_, _, _, _, _, _, _, _, _, _, _]) dX12_goesThrough_128 (by decide) rfl rfl ?_
        refine Z_iinc (L' := [_, _, _, _, _, _, _, _, _, _, _]) dX12_goesThrough_130 rfl (by rfl : _ + Int32.ofInt 1 = _ + 1) (by decide) rfl rfl ?_
        refine Z_goto (tgt := 42) dX12_goesThrough_133 (by decide) ?_
        rw [nI_1]
        first
          | (have := ih (s + 1) (by omega) δ hw2 hf2
             unfold zpart at this
             rw [if_pos hp, if_pos hp, ← Nat.add_assoc (if zla q = 0 ∧ q % 27 = 26 then 1 else 0)] at this
             refine Z_less (L' := [some (.ref (G.1 + 34)), some (.int (nI w)), some (.int (nI q)), some (.long _), none, some (.long _), none, some (.int _), none, none, none]) ⟨rfl, rfl, rfl, rfl, rfl, rfl, trivial⟩ ?_
             exact this)
          | (have := ih (s + 1) (by omega) β hw hf
             have hz : ¬ 0 < zl q s := fun z => nI_nle z (by omega) h54
             unfold zpart at this
             rw [if_neg hz, if_neg hz, Nat.add_zero, Nat.add_zero] at this
             exact this)
end MW1
