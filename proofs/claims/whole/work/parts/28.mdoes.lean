section MD1
variable {G : ZG} {d : Nat} {α β : AH} {post : Option Value → AH → Prop} {A : ZA} {t D R : Nat}
theorem c_best {q : Nat} (hw : mLk A t D R α) (hT2 : D + R < 500) (hq : q < 5832) (hT : zla q ≤ D + R) (h : ∀ β, mLk A t D R β → frI Fb α β → post (some (.long (lN (zbest (zcn A.1 (D + R)) (sp_pay A.1.1) q)))) β) : ZK G (d + 36) mX12_best [.ref (G.1 + 34), .int (nI q)] α post := by
  have hla := zla_le hq
  have := (mBest_all (G := G) (A := A) (t := t) (d := d + 2 * (15 - zla q)) hT2 (zla q)).1 q α post hq rfl hT hw h
  rw [show d + 2 * (15 - zla q) + 2 * zla q + 6 = d + 36 by omega] at this
  exact this
theorem c_bestOn {q s : Nat} (hw : mLk A t D R α) (hT2 : D + R < 500) (hq : q < 5832) (hs : s < 3) (hT : zla q + 1 ≤ D + R) (h : ∀ β, mLk A t D R β → frI Fb α β → hI β 42 (3 * q + s) = nI (zOn (zbest (zcn A.1 (D + R)) (sp_pay A.1.1)) (zcn A.1 (D + R)) (sp_pay A.1.1) q s).2 → post (some (.long (lN (zOn (zbest (zcn A.1 (D + R)) (sp_pay A.1.1)) (zcn A.1 (D + R)) (sp_pay A.1.1) q s).1))) β) : ZK G (d + 37) mX12_bestOn [.ref (G.1 + 34), .int (nI q), .int (nI s)] α post := by
  have hla := zla_le hq
  have := (mBest_all (G := G) (A := A) (t := t) (d := d + 2 * (15 - zla q)) hT2 (zla q)).2 q s α post hq hs rfl hT hw h
  rw [show d + 2 * (15 - zla q) + 2 * zla q + 7 = d + 37 by omega] at this
  exact this
def zplain (cn : ZCn) (q s : Nat) : Nat := if zcan cn q s 0 then 0 else if zcan cn q s 1 then 1 else if zcan cn q s 2 then 2 else 3
def zlstp (cn : ZCn) (pay : Nat → Nat) (q s k b : Nat) : Nat := if zcan cn q s k = true ∧ (b = 3 ∨ pay b < pay k) then k else b
def zleft (cn : ZCn) (pay : Nat → Nat) (q s : Nat) : Nat := zlstp cn pay q s 2 (zlstp cn pay q s 1 (zlstp cn pay q s 0 3))
def zsure (cn : ZCn) (q s : Nat) : Nat := if zg q 0 = 1 ∧ zcan cn q s 0 = true then 0 else if zg q 1 = 1 ∧ zcan cn q s 1 = true then 1 else if zg q 2 = 1 ∧ zcan cn q s 2 = true then 2 else zplain cn q s
def zwait (cn : ZCn) (v q s : Nat) : Nat := if zla q ≤ v then zplain cn q s else 3
/-- which work one of a kind, with v and a row, does on a day of sort s that was drawn; 3: none -/
def zdoes (cn : ZCn) (pay : Nat → Nat) (kd v tl q s : Nat) : Nat :=
  if kd = 1 then zplain cn q s else if kd = 2 then zleft cn pay q s else if kd = 3 then zwait cn v q s else if kd = 4 then zsure cn q s else if kd = 5 then (zOn (zbest cn pay) cn pay q s).2 else if kd = 6 then (if tl < 3 ∧ zcan cn q s tl = true then tl else zwait cn v q s) else 3
theorem c_bestly {q s : Nat} (hw : mLk A t D R α) (hT2 : D + R < 500) (hq : q < 5832) (hs : s < 3) (hT : zla q + 1 ≤ D + R) (h : ∀ β, mLk A t D R β → frI Fb α β → post (some (.int (wI (zOn (zbest (zcn A.1 (D + R)) (sp_pay A.1.1)) (zcn A.1 (D + R)) (sp_pay A.1.1) q s).2))) β) : ZK G (d + 38) mX12_bestly [.ref (G.1 + 34), .int (nI q), .int (nI s)] α post := by
  have hm := hw.1.mw
  have hb : (zOn (zbest (zcn A.1 (D + R)) (sp_pay A.1.1)) (zcn A.1 (D + R)) (sp_pay A.1.1) q s).2 ≤ 3 := zfold_bd 3 (by omega)
  have ei : 3 * nI q + nI s = nI (3 * q + s) := by rw [show (3 : Int32) = nI 3 from rfl, pk_mul, nI_add]
  refine ZK.of (n := 3) (by decide) (Nat.le_of_ble_eq_true rfl) rfl ?_
  refine Z_aload_n dX12_bestly_0 rfl rfl ?_
  refine Z_iload_n dX12_bestly_1 rfl rfl ?_
  refine Z_iload_n dX12_bestly_2 rfl rfl ?_
  refine Z_V2z (ci := 12) dX12_bestly_3 to_X12_bestOn lk_X12_221 iv_X12_bestOn ⟨rfl, rfl⟩ (mw_i34 hm) (Nat.le_of_ble_eq_true rfl) ⟨rfl, rfl⟩ ⟨by decide, by decide⟩ ?_
  refine c_bestOn hw hT2 hq hs hT (fun β hw1 hf1 e1 => ?_)
  have hm := hw1.1.mw
  have h := h β hw1 hf1
  refine Z_lstore_n (L' := [_, _, _, _, _, _]) dX12_bestly_6 rfl (by decide) rfl rfl ?_
  refine Z_aload_n dX12_bestly_7 rfl rfl ?_
  refine Z_getR dX12_bestly_8 cl_12 fl_X12_35_12 rfl (mw_i34 hm) (mw_p34_16 hm) ?_
  refine Z_iconst (v := 3) dX12_bestly_11 (by decide) ?_
  refine Z_iload_n dX12_bestly_12 rfl rfl ?_
  refine Z_imul dX12_bestly_13 ?_
  refine Z_iload_n dX12_bestly_14 rfl rfl ?_
  refine Z_iadd dX12_bestly_15 ?_
  refine Z_ialdv dX12_bestly_16 (mw_i42 hm) (zix_e (m := 3 * q + s) ei (by omega) (by decide)) e1 ?_
  refine Z_istore (L' := [_, _, _, _, _, _]) dX12_bestly_17 (by decide) rfl rfl ?_
  refine Z_iload dX12_bestly_19 rfl ?_
  refine Z_iconst (v := 3) dX12_bestly_21 (by decide) ?_
  refine Z_icmp_ne (tgt := 29) dX12_bestly_22 (by decide) (fun h22 => ?_) (fun h22 => ?_)
  · skip
    refine Z_iload dX12_bestly_29 rfl ?_
    refine Z_iret dX12_bestly_31 rfl rfl ⟨by decide, by decide⟩ ?_
    first
      | (rw [show wI (zOn (zbest (zcn A.1 (D + R)) (sp_pay A.1.1)) (zcn A.1 (D + R)) (sp_pay A.1.1) q s).2 = -1 from if_pos ((nI_eq (b := 3) (by omega) (by omega)).mp h22)] at h; exact h)
      | (rw [show wI (zOn (zbest (zcn A.1 (D + R)) (sp_pay A.1.1)) (zcn A.1 (D + R)) (sp_pay A.1.1) q s).2 = nI (zOn (zbest (zcn A.1 (D + R)) (sp_pay A.1.1)) (zcn A.1 (D + R)) (sp_pay A.1.1) q s).2 from if_neg (fun z => h22 (by rw [z]; rfl))] at h; exact h)
  · skip
    refine Z_iconst (v := -1) dX12_bestly_25 (by decide) ?_
    refine Z_goto (tgt := 31) dX12_bestly_26 (by decide) ?_
    refine Z_iret dX12_bestly_31 rfl rfl ⟨by decide, by decide⟩ ?_
    first
      | (rw [show wI (zOn (zbest (zcn A.1 (D + R)) (sp_pay A.1.1)) (zcn A.1 (D + R)) (sp_pay A.1.1) q s).2 = -1 from if_pos ((nI_eq (b := 3) (by omega) (by omega)).mp h22)] at h; exact h)
      | (rw [show wI (zOn (zbest (zcn A.1 (D + R)) (sp_pay A.1.1)) (zcn A.1 (D + R)) (sp_pay A.1.1) q s).2 = nI (zOn (zbest (zcn A.1 (D + R)) (sp_pay A.1.1)) (zcn A.1 (D + R)) (sp_pay A.1.1) q s).2 from if_neg (fun z => h22 (by rw [z]; rfl))] at h; exact h)
theorem c_plainly {q s : Nat} (hw : mLk A t D R α) (hT2 : D + R < 500) (hq : q < 5832) (hs : s < 3) (hT : zla q + 1 ≤ D + R) (h : ∀ β, mLk A t D R β → frI Fb α β → post (some (.int (wI (zplain (zcn A.1 (D + R)) q s)))) β) : ZK G (d + 5) mX12_plainly [.ref (G.1 + 34), .int (nI q), .int (nI s)] α post := by
  have hm := hw.1.mw
  refine ZK.of (n := 0) (by decide) (Nat.le_of_ble_eq_true rfl) rfl ?_
  refine Z_aload_n dX12_plainly_0 rfl rfl ?_
  refine Z_iload_n dX12_plainly_1 rfl rfl ?_
  refine Z_iload_n dX12_plainly_2 rfl rfl ?_
  refine Z_iconst (v := 0) dX12_plainly_3 (by decide) ?_
  refine Z_V3z (ci := 12) dX12_plainly_4 to_X12_can lk_X12_206 iv_X12_can ⟨rfl, rfl⟩ (mw_i34 hm) (Nat.le_of_ble_eq_true rfl) ⟨rfl, rfl⟩ ⟨by decide, by decide⟩ ?_
  refine c_can (k := 0) hw hq hs (by omega) hT hT2 (fun γ hw0 hf0 => ?_)
  have hm := hw0.1.mw
  have hf0 : frI Fb α γ := hf0.mono (fun k hk => by unfold Fb; omega)
  refine Z_if_eq (tgt := 14) dX12_plainly_7 (by decide) (fun h7 => ?_) (fun h7 => ?_)
  · skip
    refine Z_aload_n dX12_plainly_14 rfl rfl ?_
    refine Z_iload_n dX12_plainly_15 rfl rfl ?_
    refine Z_iload_n dX12_plainly_16 rfl rfl ?_
    refine Z_iconst (v := 1) dX12_plainly_17 (by decide) ?_
    refine Z_V3z (ci := 12) dX12_plainly_18 to_X12_can lk_X12_206 iv_X12_can ⟨rfl, rfl⟩ (mw_i34 hm) (Nat.le_of_ble_eq_true rfl) ⟨rfl, rfl⟩ ⟨by decide, by decide⟩ ?_
    refine c_can (k := 1) hw0 hq hs (by omega) hT hT2 (fun δ hw1 hf1 => ?_)
    have hm := hw1.1.mw
    have hf1 : frI Fb α δ := hf0.tr (hf1.mono (fun k hk => by unfold Fb; omega))
    refine Z_if_eq (tgt := 28) dX12_plainly_21 (by decide) (fun h21 => ?_) (fun h21 => ?_)
    · skip
      refine Z_aload_n dX12_plainly_28 rfl rfl ?_
      refine Z_iload_n dX12_plainly_29 rfl rfl ?_
      refine Z_iload_n dX12_plainly_30 rfl rfl ?_
      refine Z_iconst (v := 2) dX12_plainly_31 (by decide) ?_
      refine Z_V3z (ci := 12) dX12_plainly_32 to_X12_can lk_X12_206 iv_X12_can ⟨rfl, rfl⟩ (mw_i34 hm) (Nat.le_of_ble_eq_true rfl) ⟨rfl, rfl⟩ ⟨by decide, by decide⟩ ?_
      refine c_can (k := 2) hw1 hq hs (by omega) hT hT2 (fun ε hw2 hf2 => ?_)
      have hf2 : frI Fb α ε := hf1.tr (hf2.mono (fun k hk => by unfold Fb; omega))
      refine Z_if_eq (tgt := 42) dX12_plainly_35 (by decide) (fun h35 => ?_) (fun h35 => ?_)
      · skip
        refine Z_iconst (v := -1) dX12_plainly_42 (by decide) ?_
        refine Z_iret dX12_plainly_43 rfl rfl ⟨by decide, by decide⟩ ?_
        first
          | (have := h _ hw0 hf0
             rw [show zplain (zcn A.1 (D + R)) q s = 0 from if_pos (b2i_ne.mp h7)] at this; exact this)
          | (have := h _ hw1 hf1
             rw [show zplain (zcn A.1 (D + R)) q s = 1 from (if_neg (by rw [b2i_eq.mp h7]; decide)).trans (if_pos (b2i_ne.mp h21))] at this; exact this)
          | (have := h _ hw2 hf2
             rw [show zplain (zcn A.1 (D + R)) q s = 2 from (if_neg (by rw [b2i_eq.mp h7]; decide)).trans ((if_neg (by rw [b2i_eq.mp h21]; decide)).trans (if_pos (b2i_ne.mp h35)))] at this; exact this)
          | (have := h _ hw2 hf2
             rw [show zplain (zcn A.1 (D + R)) q s = 3 from (if_neg (by rw [b2i_eq.mp h7]; decide)).trans ((if_neg (by rw [b2i_eq.mp h21]; decide)).trans (if_neg (by rw [b2i_eq.mp h35]; decide)))] at this; exact this)
      · skip
        refine Z_iconst (v := 2) dX12_plainly_38 (by decide) ?_
        refine Z_goto (tgt := 43) dX12_plainly_39 (by decide) ?_
        refine Z_iret dX12_plainly_43 rfl rfl ⟨by decide, by decide⟩ ?_
        first
          | (have := h _ hw0 hf0
             rw [show zplain (zcn A.1 (D + R)) q s = 0 from if_pos (b2i_ne.mp h7)] at this; exact this)
          | (have := h _ hw1 hf1
             rw [show zplain (zcn A.1 (D + R)) q s = 1 from (if_neg (by rw [b2i_eq.mp h7]; decide)).trans (if_pos (b2i_ne.mp h21))] at this; exact this)
          | (have := h _ hw2 hf2
             rw [show zplain (zcn A.1 (D + R)) q s = 2 from (if_neg (by rw [b2i_eq.mp h7]; decide)).trans ((if_neg (by rw [b2i_eq.mp h21]; decide)).trans (if_pos (b2i_ne.mp h35)))] at this; exact this)
          | (have := h _ hw2 hf2
             rw [show zplain (zcn A.1 (D + R)) q s = 3 from (if_neg (by rw [b2i_eq.mp h7]; decide)).trans ((if_neg (by rw [b2i_eq.mp h21]; decide)).trans (if_neg (by rw [b2i_eq.mp h35]; decide)))] at this; exact this)
    · skip
      refine Z_iconst (v := 1) dX12_plainly_24 (by decide) ?_
      refine Z_goto (tgt := 43) dX12_plainly_25 (by decide) ?_
      refine Z_iret dX12_plainly_43 rfl rfl ⟨by decide, by decide⟩ ?_
      first
        | (have := h _ hw0 hf0
           rw [show zplain (zcn A.1 (D + R)) q s = 0 from if_pos (b2i_ne.mp h7)] at this; exact this)
        | (have := h _ hw1 hf1
           rw [show zplain (zcn A.1 (D + R)) q s = 1 from (if_neg (by rw [b2i_eq.mp h7]; decide)).trans (if_pos (b2i_ne.mp h21))] at this; exact this)
        | (have := h _ hw2 hf2
           rw [show zplain (zcn A.1 (D + R)) q s = 2 from (if_neg (by rw [b2i_eq.mp h7]; decide)).trans ((if_neg (by rw [b2i_eq.mp h21]; decide)).trans (if_pos (b2i_ne.mp h35)))] at this; exact this)
        | (have := h _ hw2 hf2
           rw [show zplain (zcn A.1 (D + R)) q s = 3 from (if_neg (by rw [b2i_eq.mp h7]; decide)).trans ((if_neg (by rw [b2i_eq.mp h21]; decide)).trans (if_neg (by rw [b2i_eq.mp h35]; decide)))] at this; exact this)
  · skip
    refine Z_iconst (v := 0) dX12_plainly_10 (by decide) ?_
    refine Z_goto (tgt := 43) dX12_plainly_11 (by decide) ?_
    refine Z_iret dX12_plainly_43 rfl rfl ⟨by decide, by decide⟩ ?_
    first
      | (have := h _ hw0 hf0
         rw [show zplain (zcn A.1 (D + R)) q s = 0 from if_pos (b2i_ne.mp h7)] at this; exact this)
      | (have := h _ hw1 hf1
         rw [show zplain (zcn A.1 (D + R)) q s = 1 from (if_neg (by rw [b2i_eq.mp h7]; decide)).trans (if_pos (b2i_ne.mp h21))] at this; exact this)
      | (have := h _ hw2 hf2
         rw [show zplain (zcn A.1 (D + R)) q s = 2 from (if_neg (by rw [b2i_eq.mp h7]; decide)).trans ((if_neg (by rw [b2i_eq.mp h21]; decide)).trans (if_pos (b2i_ne.mp h35)))] at this; exact this)
      | (have := h _ hw2 hf2
         rw [show zplain (zcn A.1 (D + R)) q s = 3 from (if_neg (by rw [b2i_eq.mp h7]; decide)).trans ((if_neg (by rw [b2i_eq.mp h21]; decide)).trans (if_neg (by rw [b2i_eq.mp h35]; decide)))] at this; exact this)
theorem c_waiting {q s w : Nat} (hw : mLk A t D R α) (hT2 : D + R < 500) (hq : q < 5832) (hs : s < 3) (hT : zla q + 1 ≤ D + R) (hw8 : w < 8) (h : ∀ β, mLk A t D R β → frI Fb α β → post (some (.int (wI (zwait (zcn A.1 (D + R)) (A.1.1 (120 + w)) q s)))) β) : ZK G (d + 6) mX12_waiting [.ref (G.1 + 34), .int (nI w), .int (nI q), .int (nI s)] α post := by
  have hm := hw.1.mw
  have hla := zla_le hq
  have bv : A.1.1 (120 + w) ≤ 9 := hw.1.2.1.at (by omega) (zbd_v hw8)
  refine ZK.of (n := 0) (by decide) (Nat.le_of_ble_eq_true rfl) rfl ?_
  refine Z_iload_n dX12_waiting_0 rfl rfl ?_
  refine Z_S1z dX12_waiting_1 to_X12_leftInAll lk_X12_185 sc_X12_leftInAll (Nat.le_of_ble_eq_true rfl) ⟨rfl, rfl⟩ ⟨by decide, by decide⟩ ?_
  refine c_leftInAll hq ?_
  refine Z_aload_n dX12_waiting_4 rfl rfl ?_
  refine Z_getR dX12_waiting_5 cl_12 fl_X12_9_12 rfl (mw_i34 hm) (mw_p34_1 hm) ?_
  refine Z_bipush (v := 120) dX12_waiting_8 (by decide) ?_
  refine Z_iload_n dX12_waiting_10 rfl rfl ?_
  refine Z_iadd dX12_waiting_11 ?_
  refine Z_ialdv dX12_waiting_12 (mw_i35 hm) (zix_e (m := 120 + w) (nI_add 120 w) (by omega) (by decide)) (hw.1.at (by omega) (by omega)) ?_
  refine Z_icmp_gt (tgt := 25) dX12_waiting_13 (by decide) (fun h13 => ?_) (fun h13 => ?_)
  · skip
    refine Z_iconst (v := -1) dX12_waiting_25 (by decide) ?_
    refine Z_iret dX12_waiting_26 rfl rfl ⟨by decide, by decide⟩ ?_
    first
      | (have := h _ hw1 hf1
         rw [show zwait (zcn A.1 (D + R)) (A.1.1 (120 + w)) q s = zplain (zcn A.1 (D + R)) q s from if_pos (Nat.le_of_not_lt (fun z => h13 (nI_lt z (by omega))))] at this; exact this)
      | (have := h _ hw frI.rf
         rw [show zwait (zcn A.1 (D + R)) (A.1.1 (120 + w)) q s = 3 from if_neg (Nat.not_le_of_lt ((nI_ltI (by omega) (by omega)).mp h13))] at this; exact this)
  · skip
    refine Z_aload_n dX12_waiting_16 rfl rfl ?_
    refine Z_iload_n dX12_waiting_17 rfl rfl ?_
    refine Z_iload_n dX12_waiting_18 rfl rfl ?_
    refine Z_V2z (ci := 12) dX12_waiting_19 to_X12_plainly lk_X12_230 iv_X12_plainly ⟨rfl, rfl⟩ (mw_i34 hm) (Nat.le_of_ble_eq_true rfl) ⟨rfl, rfl⟩ ⟨by decide, by decide⟩ ?_
    refine c_plainly hw hT2 hq hs hT (fun β hw1 hf1 => ?_)
    refine Z_goto (tgt := 26) dX12_waiting_22 (by decide) ?_
    refine Z_iret dX12_waiting_26 rfl rfl ⟨by decide, by decide⟩ ?_
    first
      | (have := h _ hw1 hf1
         rw [show zwait (zcn A.1 (D + R)) (A.1.1 (120 + w)) q s = zplain (zcn A.1 (D + R)) q s from if_pos (Nat.le_of_not_lt (fun z => h13 (nI_lt z (by omega))))] at this; exact this)
      | (have := h _ hw frI.rf
         rw [show zwait (zcn A.1 (D + R)) (A.1.1 (120 + w)) q s = 3 from if_neg (Nat.not_le_of_lt ((nI_ltI (by omega) (by omega)).mp h13))] at this; exact this)
def zlf (cn : ZCn) (pay : Nat → Nat) (q s : Nat) : Nat → Nat
  | 0 => 3
  | k + 1 => zlstp cn pay q s k (zlf cn pay q s k)
theorem zlf_bd {cn : ZCn} {pay : Nat → Nat} {q s : Nat} : ∀ k, k ≤ 3 → zlf cn pay q s k = 3 ∨ zlf cn pay q s k < k
  | 0, _ => Or.inl rfl
  | k + 1, h => by
    have := zlf_bd (cn := cn) (pay := pay) (q := q) (s := s) k (by omega)
    unfold zlf zlstp
    split
    · exact Or.inr (by omega)
    · omega
theorem lp_leftOne {q s : Nat} (hT2 : D + R < 500) (hq : q < 5832) (hs : s < 3) (hT : zla q + 1 ≤ D + R) (h : ∀ β, mLk A t D R β → frI Fb α β → post (some (.int (wI (zleft (zcn A.1 (D + R)) (sp_pay A.1.1) q s)))) β) :
    ∀ (j k : Nat), k + j = 3 → ∀ (β : AH), mLk A t D R β → frI Fb α β → Z G mX12_leftOne (d + 5) 5 [some (.ref (G.1 + 34)), some (.int (nI q)), some (.int (nI s)), some (.int (wI (zlf (zcn A.1 (D + R)) (sp_pay A.1.1) q s k))), some (.int (nI k))] [] β (0, 0) post := by
  intro j
  induction j with
  | zero =>
    intro k hk β hw hf
    have hk : k = 3 := by omega
    subst hk
    refine Z_iload dX12_leftOne_5 rfl ?_
    refine Z_iconst (v := 3) dX12_leftOne_7 (by decide) ?_
    refine Z_icmp_ge (tgt := 54) dX12_leftOne_8 (by decide) (fun h8 => ?_) (fun h8 => ?_)
    · skip
      refine Z_iload_n dX12_leftOne_54 rfl rfl ?_
      refine Z_iret dX12_leftOne_55 rfl rfl ⟨by decide, by decide⟩ ?_
      exact h β hw hf
    · skip
      exact absurd (by decide) h8
  | succ j ih =>
    intro k hk β hw hf
    have hm := hw.1.mw
    have hb := zlf_bd (cn := zcn A.1 (D + R)) (pay := sp_pay A.1.1) (q := q) (s := s) k (by omega)
    have hp := sp_pay_le hw.1.2.1
    have nx : ∀ (γ : AH) (b : Nat), mLk A t D R γ → frI Fb α γ → b = zlf (zcn A.1 (D + R)) (sp_pay A.1.1) q s (k + 1) → Z G mX12_leftOne (d + 5) 47 [some (.ref (G.1 + 34)), some (.int (nI q)), some (.int (nI s)), some (.int (wI (zlf (zcn A.1 (D + R)) (sp_pay A.1.1) q s k))), some (.int (nI k))] [.int (wI b)] γ (0, 0) post := by
      intro γ b hw1 hf1 eb
      subst eb
      refine Z_istore_n (L' := [_, _, _, _, _]) dX12_leftOne_47 rfl (by decide) rfl rfl ?_
      refine Z_iinc (L' := [_, _, _, _, _]) dX12_leftOne_48 rfl (by rfl : _ + Int32.ofInt 1 = _ + 1) (by decide) rfl rfl ?_
      refine Z_goto (tgt := 5) dX12_leftOne_51 (by decide) ?_
      rw [nI_1]
      exact ih (k + 1) (by omega) γ hw1 hf1
    have eu : zlf (zcn A.1 (D + R)) (sp_pay A.1.1) q s (k + 1) = zlstp (zcn A.1 (D + R)) (sp_pay A.1.1) q s k (zlf (zcn A.1 (D + R)) (sp_pay A.1.1) q s k) := rfl
    rw [eu] at nx
    obtain ⟨b, eb⟩ : ∃ b, b = zlf (zcn A.1 (D + R)) (sp_pay A.1.1) q s k := ⟨_, rfl⟩
    rw [← eb] at hb nx ⊢
    refine Z_iload dX12_leftOne_5 rfl ?_
    refine Z_iconst (v := 3) dX12_leftOne_7 (by decide) ?_
    refine Z_icmp_ge (tgt := 54) dX12_leftOne_8 (by decide) (fun h8 => ?_) (fun h8 => ?_)
    · skip
      exact absurd h8 (nI_ge (a := k) (b := 3) (by omega) (by omega))
    · skip
      refine Z_aload_n dX12_leftOne_11 rfl rfl ?_
      refine Z_iload_n dX12_leftOne_12 rfl rfl ?_
      refine Z_iload_n dX12_leftOne_13 rfl rfl ?_
      refine Z_iload dX12_leftOne_14 rfl ?_
      refine Z_V3z (ci := 12) dX12_leftOne_16 to_X12_can lk_X12_206 iv_X12_can ⟨rfl, rfl⟩ (mw_i34 hm) (Nat.le_of_ble_eq_true rfl) ⟨rfl, rfl⟩ ⟨by decide, by decide⟩ ?_
      refine c_can hw hq hs (by omega) hT hT2 (fun γ hw1 hf1 => ?_)
      have hm := hw1.1.mw
      have hf1 : frI Fb α γ := hf.tr (hf1.mono (fun k hk => by unfold Fb; omega))
      refine Z_if_eq (tgt := 46) dX12_leftOne_19 (by decide) (fun h19 => ?_) (fun h19 => ?_)
      · skip
        refine Z_iload_n dX12_leftOne_46 rfl rfl ?_
        first
          | (have this := nx _ k hw1 hf1 (by unfold zlstp; rw [if_pos ⟨b2i_ne.mp h19, Or.inl (Classical.not_not.mp (fun z => by rw [wI_nI (w := b) (by omega)] at h24; exact nI_nm1 (by omega) h24))⟩])
             rw [wI_nI (w := k) (by omega)] at this
             exact this)
          | (have this := nx _ k hw1 hf1 (by unfold zlstp; rw [if_pos ⟨b2i_ne.mp h19, Or.inr (Nat.lt_of_not_le (fun z => h38 (nI_le z (by omega))))⟩])
             rw [wI_nI (w := k) (by omega)] at this
             exact this)
          | exact nx _ b hw1 hf1 (by unfold zlstp; rw [if_neg (fun z => by rw [b2i_eq.mp h19] at z; exact absurd z.1 (by decide))])
          | exact nx _ b hw1 hf1 (by unfold zlstp; rw [if_neg (fun z => z.2.elim (fun z => by omega) (fun z => absurd ((nI_leI (by omega) (by omega)).mp h38) (by omega)))])
      · skip
        refine Z_iload_n dX12_leftOne_22 rfl rfl ?_
        refine Z_iconst (v := -1) dX12_leftOne_23 (by decide) ?_
        refine Z_icmp_eq (tgt := 41) dX12_leftOne_24 (by decide) (fun h24 => ?_) (fun h24 => ?_)
        · skip
          refine Z_iload dX12_leftOne_41 rfl ?_
          refine Z_goto (tgt := 47) dX12_leftOne_43 (by decide) ?_
          first
            | (have this := nx _ k hw1 hf1 (by unfold zlstp; rw [if_pos ⟨b2i_ne.mp h19, Or.inl (Classical.not_not.mp (fun z => by rw [wI_nI (w := b) (by omega)] at h24; exact nI_nm1 (by omega) h24))⟩])
               rw [wI_nI (w := k) (by omega)] at this
               exact this)
            | (have this := nx _ k hw1 hf1 (by unfold zlstp; rw [if_pos ⟨b2i_ne.mp h19, Or.inr (Nat.lt_of_not_le (fun z => h38 (nI_le z (by omega))))⟩])
               rw [wI_nI (w := k) (by omega)] at this
               exact this)
            | exact nx _ b hw1 hf1 (by unfold zlstp; rw [if_neg (fun z => by rw [b2i_eq.mp h19] at z; exact absurd z.1 (by decide))])
            | exact nx _ b hw1 hf1 (by unfold zlstp; rw [if_neg (fun z => z.2.elim (fun z => by omega) (fun z => absurd ((nI_leI (by omega) (by omega)).mp h38) (by omega)))])
        · skip
          have hb3 : b < k := hb.elim (fun z => absurd (show wI b = -1 by rw [z]; rfl) h24) id
          have p1 := hp b (by omega)
          have p2 := hp k (by omega)
          refine Z_aload_n dX12_leftOne_27 rfl rfl ?_
          refine Z_iload dX12_leftOne_28 rfl ?_
          refine Z_V1z (ci := 12) dX12_leftOne_30 to_X12_pay lk_X12_161 iv_X12_pay ⟨rfl, rfl⟩ (mw_i34 hm) (Nat.le_of_ble_eq_true rfl) ⟨rfl, rfl⟩ ⟨by decide, by decide⟩ ?_
          refine c_mpay (by omega) hw1.1 ?_
          refine Z_aload_n dX12_leftOne_33 rfl rfl ?_
          refine Z_iload_n dX12_leftOne_34 rfl rfl ?_
          refine Z_V1z (ci := 12) dX12_leftOne_35 to_X12_pay lk_X12_161 iv_X12_pay ⟨rfl, rfl⟩ (mw_i34 hm) (Nat.le_of_ble_eq_true rfl) ⟨rfl, rfl⟩ ⟨by decide, by decide⟩ ?_
          rw [wI_nI (w := b) (by omega)]
          refine c_mpay (by omega) hw1.1 ?_
          rw [← wI_nI (w := b) (by omega)]
          refine Z_icmp_le (tgt := 46) dX12_leftOne_38 (by decide) (fun h38 => ?_) (fun h38 => ?_)
          · skip
            refine Z_iload_n dX12_leftOne_46 rfl rfl ?_
            first
              | (have this := nx _ k hw1 hf1 (by unfold zlstp; rw [if_pos ⟨b2i_ne.mp h19, Or.inl (Classical.not_not.mp (fun z => by rw [wI_nI (w := b) (by omega)] at h24; exact nI_nm1 (by omega) h24))⟩])
                 rw [wI_nI (w := k) (by omega)] at this
                 exact this)
              | (have this := nx _ k hw1 hf1 (by unfold zlstp; rw [if_pos ⟨b2i_ne.mp h19, Or.inr (Nat.lt_of_not_le (fun z => h38 (nI_le z (by omega))))⟩])
                 rw [wI_nI (w := k) (by omega)] at this
                 exact this)
              | exact nx _ b hw1 hf1 (by unfold zlstp; rw [if_neg (fun z => by rw [b2i_eq.mp h19] at z; exact absurd z.1 (by decide))])
              | exact nx _ b hw1 hf1 (by unfold zlstp; rw [if_neg (fun z => z.2.elim (fun z => by omega) (fun z => absurd ((nI_leI (by omega) (by omega)).mp h38) (by omega)))])
          · skip
            refine Z_iload dX12_leftOne_41 rfl ?_
            refine Z_goto (tgt := 47) dX12_leftOne_43 (by decide) ?_
            first
              | (have this := nx _ k hw1 hf1 (by unfold zlstp; rw [if_pos ⟨b2i_ne.mp h19, Or.inl (Classical.not_not.mp (fun z => by rw [wI_nI (w := b) (by omega)] at h24; exact nI_nm1 (by omega) h24))⟩])
                 rw [wI_nI (w := k) (by omega)] at this
                 exact this)
              | (have this := nx _ k hw1 hf1 (by unfold zlstp; rw [if_pos ⟨b2i_ne.mp h19, Or.inr (Nat.lt_of_not_le (fun z => h38 (nI_le z (by omega))))⟩])
                 rw [wI_nI (w := k) (by omega)] at this
                 exact this)
              | exact nx _ b hw1 hf1 (by unfold zlstp; rw [if_neg (fun z => by rw [b2i_eq.mp h19] at z; exact absurd z.1 (by decide))])
              | exact nx _ b hw1 hf1 (by unfold zlstp; rw [if_neg (fun z => z.2.elim (fun z => by omega) (fun z => absurd ((nI_leI (by omega) (by omega)).mp h38) (by omega)))])
theorem c_leftOne {q s : Nat} (hw : mLk A t D R α) (hT2 : D + R < 500) (hq : q < 5832) (hs : s < 3) (hT : zla q + 1 ≤ D + R) (h : ∀ β, mLk A t D R β → frI Fb α β → post (some (.int (wI (zleft (zcn A.1 (D + R)) (sp_pay A.1.1) q s)))) β) : ZK G (d + 5) mX12_leftOne [.ref (G.1 + 34), .int (nI q), .int (nI s)] α post := by
  refine ZK.of (n := 2) (by decide) (Nat.le_of_ble_eq_true rfl) rfl ?_
  refine Z_iconst (v := -1) dX12_leftOne_0 (by decide) ?_
  refine Z_istore_n (L' := [_, _, _, _, _]) dX12_leftOne_1 rfl (by decide) rfl rfl ?_
  refine Z_iconst (v := 0) dX12_leftOne_2 (by decide) ?_
  refine Z_istore (L' := [_, _, _, _, _]) dX12_leftOne_3 (by decide) rfl rfl ?_
  exact lp_leftOne hT2 hq hs hT h 3 0 rfl α hw frI.rf
theorem lp_surely {q s : Nat} (hT2 : D + R < 500) (hq : q < 5832) (hs : s < 3) (hT : zla q + 1 ≤ D + R) (h : ∀ β, mLk A t D R β → frI Fb α β → post (some (.int (wI (zsure (zcn A.1 (D + R)) q s)))) β) :
    ∀ (j k : Nat), k + j = 3 → (∀ i, i < k → ¬ (zg q i = 1 ∧ zcan (zcn A.1 (D + R)) q s i = true)) → ∀ (β : AH), mLk A t D R β → frI Fb α β → Z G mX12_surely (d + 6) 2 [some (.ref (G.1 + 34)), some (.int (nI q)), some (.int (nI s)), some (.int (nI k))] [] β (0, 0) post := by
  intro j
  induction j with
  | zero =>
    intro k hk hno β hw hf
    have hk : k = 3 := by omega
    subst hk
    have hm := hw.1.mw
    have e : zsure (zcn A.1 (D + R)) q s = zplain (zcn A.1 (D + R)) q s := by unfold zsure; rw [if_neg (hno 0 (by omega)), if_neg (hno 1 (by omega)), if_neg (hno 2 (by omega))]
    rw [e] at h
    refine Z_iload_n dX12_surely_2 rfl rfl ?_
    refine Z_iconst (v := 3) dX12_surely_3 (by decide) ?_
    refine Z_icmp_ge (tgt := 34) dX12_surely_4 (by decide) (fun h4 => ?_) (fun h4 => ?_)
    · skip
      refine Z_aload_n dX12_surely_34 rfl rfl ?_
      refine Z_iload_n dX12_surely_35 rfl rfl ?_
      refine Z_iload_n dX12_surely_36 rfl rfl ?_
      refine Z_V2z (ci := 12) dX12_surely_37 to_X12_plainly lk_X12_230 iv_X12_plainly ⟨rfl, rfl⟩ (mw_i34 hm) (Nat.le_of_ble_eq_true rfl) ⟨rfl, rfl⟩ ⟨by decide, by decide⟩ ?_
      refine c_plainly hw hT2 hq hs hT (fun γ hw1 hf1 => ?_)
      refine Z_iret dX12_surely_40 rfl rfl ⟨by decide, by decide⟩ ?_
      exact h γ hw1 (hf.tr hf1)
    · skip
      exact absurd (by decide) h4
  | succ j ih =>
    intro k hk hno β hw hf
    have hm := hw.1.mw
    have hg := zg_le (q := q) (k := k)
    have step : ∀ (γ : AH), mLk A t D R γ → frI Fb α γ → ¬ (zg q k = 1 ∧ zcan (zcn A.1 (D + R)) q s k = true) → Z G mX12_surely (d + 6) 28 [some (.ref (G.1 + 34)), some (.int (nI q)), some (.int (nI s)), some (.int (nI k))] [] γ (0, 0) post := by
      intro γ hw1 hf1 hn
      refine Z_iinc (L' := [_, _, _, _]) dX12_surely_28 rfl (by rfl : _ + Int32.ofInt 1 = _ + 1) (by decide) rfl rfl ?_
      refine Z_goto (tgt := 2) dX12_surely_31 (by decide) ?_
      rw [nI_1]
      refine ih (k + 1) (by omega) (fun i hi => ?_) γ hw1 hf1
      by_cases e : i = k
      · subst e; exact hn
      · exact hno i (by omega)
    have found : zg q k = 1 ∧ zcan (zcn A.1 (D + R)) q s k = true → zsure (zcn A.1 (D + R)) q s = k := by
      intro hy
      unfold zsure
      have : k = 0 ∨ k = 1 ∨ k = 2 := by omega
      rcases this with rfl | rfl | rfl
      · rw [if_pos hy]
      · rw [if_neg (hno 0 (by omega)), if_pos hy]
      · rw [if_neg (hno 0 (by omega)), if_neg (hno 1 (by omega)), if_pos hy]
    refine Z_iload_n dX12_surely_2 rfl rfl ?_
    refine Z_iconst (v := 3) dX12_surely_3 (by decide) ?_
    refine Z_icmp_ge (tgt := 34) dX12_surely_4 (by decide) (fun h4 => ?_) (fun h4 => ?_)
    · skip
      exact absurd h4 (nI_ge (a := k) (b := 3) (by omega) (by omega))
    · skip
      refine Z_iload_n dX12_surely_7 rfl rfl ?_
      refine Z_iload_n dX12_surely_8 rfl rfl ?_
      refine Z_S2z dX12_surely_9 to_X12_stageOf lk_X12_182 sc_X12_stageOf (Nat.le_of_ble_eq_true rfl) ⟨rfl, rfl⟩ ⟨by decide, by decide⟩ ?_
      refine c_stageOf hq (by omega) ?_
      refine Z_iconst (v := 1) dX12_surely_12 (by decide) ?_
      refine Z_icmp_ne (tgt := 28) dX12_surely_13 (by decide) (fun h13 => ?_) (fun h13 => ?_)
      · skip
        first
          | exact step γ hw1 hf1 (fun z => by rw [b2i_eq.mp h23] at z; exact absurd z.2 (by decide))
          | exact step β hw hf (fun z => h13 (by rw [z.1]; rfl))
      · skip
        refine Z_aload_n dX12_surely_16 rfl rfl ?_
        refine Z_iload_n dX12_surely_17 rfl rfl ?_
        refine Z_iload_n dX12_surely_18 rfl rfl ?_
        refine Z_iload_n dX12_surely_19 rfl rfl ?_
        refine Z_V3z (ci := 12) dX12_surely_20 to_X12_can lk_X12_206 iv_X12_can ⟨rfl, rfl⟩ (mw_i34 hm) (Nat.le_of_ble_eq_true rfl) ⟨rfl, rfl⟩ ⟨by decide, by decide⟩ ?_
        refine c_can hw hq hs (by omega) hT hT2 (fun γ hw1 hf1 => ?_)
        have hm := hw1.1.mw
        have hf1 : frI Fb α γ := hf.tr (hf1.mono (fun k hk => by unfold Fb; omega))
        refine Z_if_eq (tgt := 28) dX12_surely_23 (by decide) (fun h23 => ?_) (fun h23 => ?_)
        · skip
          first
            | exact step γ hw1 hf1 (fun z => by rw [b2i_eq.mp h23] at z; exact absurd z.2 (by decide))
            | exact step β hw hf (fun z => h13 (by rw [z.1]; rfl))
        · skip
          refine Z_iload_n dX12_surely_26 rfl rfl ?_
          refine Z_iret dX12_surely_27 rfl rfl ⟨by decide, by decide⟩ ?_
          have := h γ hw1 hf1
          rw [found ⟨(nI_eq (b := 1) (by omega) (by omega)).mp h13, b2i_ne.mp h23⟩, wI_nI (w := k) (by omega)] at this
          exact this
theorem c_surely {q s : Nat} (hw : mLk A t D R α) (hT2 : D + R < 500) (hq : q < 5832) (hs : s < 3) (hT : zla q + 1 ≤ D + R) (h : ∀ β, mLk A t D R β → frI Fb α β → post (some (.int (wI (zsure (zcn A.1 (D + R)) q s)))) β) : ZK G (d + 6) mX12_surely [.ref (G.1 + 34), .int (nI q), .int (nI s)] α post := by
  refine ZK.of (n := 1) (by decide) (Nat.le_of_ble_eq_true rfl) rfl ?_
  refine Z_iconst (v := 0) dX12_surely_0 (by decide) ?_
  refine Z_istore_n (L' := [_, _, _, _]) dX12_surely_1 rfl (by decide) rfl rfl ?_
  exact lp_surely hT2 hq hs hT h 3 0 rfl (fun i hi => absurd hi (by omega)) α hw frI.rf
theorem zdoes6 {cn : ZCn} {pay : Nat → Nat} {v tl q s : Nat} : zdoes cn pay 6 v tl q s = if tl < 3 ∧ zcan cn q s tl = true then tl else zwait cn v q s := by simp [zdoes]
theorem c_doesOn {q s w : Nat} (hw : mLk A t D R α) (hT2 : D + R < 500) (hq : q < 5832) (hs : s < 3) (hT : zla q + 1 ≤ D + R) (hw8 : w < 8) (h : ∀ β, mLk A t D R β → frI Fb α β → post (some (.int (wI (zdoes (zcn A.1 (D + R)) (sp_pay A.1.1) (A.1.1 (112 + w)) (A.1.1 (120 + w)) (A.1.1 (128 + 3 * w + s)) q s)))) β) : ZK G (d + 39) mX12_doesOn [.ref (G.1 + 34), .int (nI w), .int (nI q), .int (nI s)] α post := by
  have hm := hw.1.mw
  have bk : A.1.1 (112 + w) ≤ 6 := hw.1.2.1.at (by omega) (zbd_kind hw8)
  have bt : A.1.1 (128 + 3 * w + s) ≤ 3 := hw.1.2.1.at (by omega) (by rw [Nat.add_assoc]; exact zbd_row (by omega))
  have kk : ∀ n : Nat, n < 7 → (nI (A.1.1 (112 + w))).toInt = 1 + (n : Int) → A.1.1 (112 + w) = n + 1 := fun n hn e => by rw [nI_toInt (by omega)] at e; omega
  refine ZK.of (n := 1) (by decide) (Nat.le_of_ble_eq_true rfl) rfl ?_
  refine Z_aload_n dX12_doesOn_0 rfl rfl ?_
  refine Z_getR dX12_doesOn_1 cl_12 fl_X12_9_12 rfl (mw_i34 hm) (mw_p34_1 hm) ?_
  refine Z_sipush (v := 128) dX12_doesOn_4 (by decide) ?_
  refine Z_iconst (v := 3) dX12_doesOn_7 (by decide) ?_
  refine Z_iload_n dX12_doesOn_8 rfl rfl ?_
  refine Z_imul dX12_doesOn_9 ?_
  refine Z_iadd dX12_doesOn_10 ?_
  refine Z_iload_n dX12_doesOn_11 rfl rfl ?_
  refine Z_iadd dX12_doesOn_12 ?_
  refine Z_ialdv dX12_doesOn_13 (mw_i35 hm) (zix_e (m := 128 + 3 * w + s) (nI3 128 3 w s) (by omega) (by decide)) (hw.1.at (by omega) (by omega)) ?_
  refine Z_istore (L' := [_, _, _, _, _]) dX12_doesOn_14 (by decide) rfl rfl ?_
  refine Z_aload_n dX12_doesOn_16 rfl rfl ?_
  refine Z_getR dX12_doesOn_17 cl_12 fl_X12_9_12 rfl (mw_i34 hm) (mw_p34_1 hm) ?_
  refine Z_bipush (v := 112) dX12_doesOn_20 (by decide) ?_
  refine Z_iload_n dX12_doesOn_22 rfl rfl ?_
  refine Z_iadd dX12_doesOn_23 ?_
  refine Z_ialdv dX12_doesOn_24 (mw_i35 hm) (zix_e (m := 112 + w) (nI_add 112 w) (by omega) (by decide)) (hw.1.at (by omega) (by omega)) ?_
  refine Z_tab (tgt := 130) dX12_doesOn_25 (fun i hx25 hh25 => ?_) (by decide) (fun hx25 => ?_)
  · skip
    have hi25 : i < 6 := by omega
    match i, hi25, hx25 with
    | 0, _, hx25 =>
      refine ⟨_, 64, rfl, by decide, ?_⟩
      have ek := kk 0 (by omega) hx25
      refine Z_aload_n dX12_doesOn_64 rfl rfl ?_
      refine Z_iload_n dX12_doesOn_65 rfl rfl ?_
      refine Z_iload_n dX12_doesOn_66 rfl rfl ?_
      refine Z_V2z (ci := 12) dX12_doesOn_67 to_X12_plainly lk_X12_230 iv_X12_plainly ⟨rfl, rfl⟩ (mw_i34 hm) (Nat.le_of_ble_eq_true rfl) ⟨rfl, rfl⟩ ⟨by decide, by decide⟩ ?_
      refine c_plainly hw hT2 hq hs hT (fun β hw1 hf1 => ?_)
      refine Z_iret dX12_doesOn_70 rfl rfl ⟨by decide, by decide⟩ ?_
      have := h β hw1 hf1; rw [ek] at this; exact this
    | 1, _, hx25 =>
      refine ⟨_, 71, rfl, by decide, ?_⟩
      have ek := kk 1 (by omega) hx25
      refine Z_aload_n dX12_doesOn_71 rfl rfl ?_
      refine Z_iload_n dX12_doesOn_72 rfl rfl ?_
      refine Z_iload_n dX12_doesOn_73 rfl rfl ?_
      refine Z_V2z (ci := 12) dX12_doesOn_74 to_X12_leftOne lk_X12_233 iv_X12_leftOne ⟨rfl, rfl⟩ (mw_i34 hm) (Nat.le_of_ble_eq_true rfl) ⟨rfl, rfl⟩ ⟨by decide, by decide⟩ ?_
      refine c_leftOne hw hT2 hq hs hT (fun β hw1 hf1 => ?_)
      refine Z_iret dX12_doesOn_77 rfl rfl ⟨by decide, by decide⟩ ?_
      have := h β hw1 hf1; rw [ek] at this; exact this
    | 2, _, hx25 =>
      refine ⟨_, 78, rfl, by decide, ?_⟩
      have ek := kk 2 (by omega) hx25
      refine Z_aload_n dX12_doesOn_78 rfl rfl ?_
      refine Z_iload_n dX12_doesOn_79 rfl rfl ?_
      refine Z_iload_n dX12_doesOn_80 rfl rfl ?_
      refine Z_iload_n dX12_doesOn_81 rfl rfl ?_
      refine Z_V3z (ci := 12) dX12_doesOn_82 to_X12_waiting lk_X12_236 iv_X12_waiting ⟨rfl, rfl⟩ (mw_i34 hm) (Nat.le_of_ble_eq_true rfl) ⟨rfl, rfl⟩ ⟨by decide, by decide⟩ ?_
      refine c_waiting hw hT2 hq hs hT hw8 (fun β hw1 hf1 => ?_)
      refine Z_iret dX12_doesOn_85 rfl rfl ⟨by decide, by decide⟩ ?_
      have := h β hw1 hf1; rw [ek] at this; exact this
    | 3, _, hx25 =>
      refine ⟨_, 86, rfl, by decide, ?_⟩
      have ek := kk 3 (by omega) hx25
      refine Z_aload_n dX12_doesOn_86 rfl rfl ?_
      refine Z_iload_n dX12_doesOn_87 rfl rfl ?_
      refine Z_iload_n dX12_doesOn_88 rfl rfl ?_
      refine Z_V2z (ci := 12) dX12_doesOn_89 to_X12_surely lk_X12_240 iv_X12_surely ⟨rfl, rfl⟩ (mw_i34 hm) (Nat.le_of_ble_eq_true rfl) ⟨rfl, rfl⟩ ⟨by decide, by decide⟩ ?_
      refine c_surely hw hT2 hq hs hT (fun β hw1 hf1 => ?_)
      refine Z_iret dX12_doesOn_92 rfl rfl ⟨by decide, by decide⟩ ?_
      have := h β hw1 hf1; rw [ek] at this; exact this
    | 4, _, hx25 =>
      refine ⟨_, 93, rfl, by decide, ?_⟩
      have ek := kk 4 (by omega) hx25
      refine Z_aload_n dX12_doesOn_93 rfl rfl ?_
      refine Z_iload_n dX12_doesOn_94 rfl rfl ?_
      refine Z_iload_n dX12_doesOn_95 rfl rfl ?_
      refine Z_V2z (ci := 12) dX12_doesOn_96 to_X12_bestly lk_X12_243 iv_X12_bestly ⟨rfl, rfl⟩ (mw_i34 hm) (Nat.le_of_ble_eq_true rfl) ⟨rfl, rfl⟩ ⟨by decide, by decide⟩ ?_
      refine c_bestly hw hT2 hq hs hT (fun β hw1 hf1 => ?_)
      refine Z_iret dX12_doesOn_99 rfl rfl ⟨by decide, by decide⟩ ?_
      have := h β hw1 hf1; rw [ek] at this; exact this
    | 5, _, hx25 =>
      refine ⟨_, 100, rfl, by decide, ?_⟩
      have ek : A.1.1 (112 + w) = 6 := kk 5 (by omega) hx25
      refine Z_iload dX12_doesOn_100 rfl ?_
      refine Z_iconst (v := 3) dX12_doesOn_102 (by decide) ?_
      refine Z_icmp_ge (tgt := 122) dX12_doesOn_103 (by decide) (fun h103 => ?_) (fun h103 => ?_)
      · skip
        refine Z_aload_n dX12_doesOn_122 rfl rfl ?_
        refine Z_iload_n dX12_doesOn_123 rfl rfl ?_
        refine Z_iload_n dX12_doesOn_124 rfl rfl ?_
        refine Z_iload_n dX12_doesOn_125 rfl rfl ?_
        refine Z_V3z (ci := 12) dX12_doesOn_126 to_X12_waiting lk_X12_236 iv_X12_waiting ⟨rfl, rfl⟩ (mw_i34 hm) (Nat.le_of_ble_eq_true rfl) ⟨rfl, rfl⟩ ⟨by decide, by decide⟩ ?_
        first
          | refine c_waiting hw1 hT2 hq hs hT hw8 (fun γ hw2 hf2 => ?_)
          | refine c_waiting hw hT2 hq hs hT hw8 (fun γ hw2 hf2 => ?_)
        refine Z_iret dX12_doesOn_129 rfl rfl ⟨by decide, by decide⟩ ?_
        first
          | (have hc := b2i_ne.mp h114
             have := h β hw1 hf1
             rw [ek, zdoes6, if_pos ⟨ht3, hc⟩, wI_nI ht3] at this
             exact this)
          | (have hc := b2i_eq.mp h114
             have := h γ hw2 (hf1.tr hf2)
             rw [ek, zdoes6, if_neg (fun z => by rw [hc] at z; exact absurd z.2 (by decide))] at this
             exact this)
          | (have := h γ hw2 hf2
             rw [ek, zdoes6, if_neg (fun z => absurd ((nI_leI (a := 3) (by omega) (by omega)).mp h103) (by omega))] at this
             exact this)
      · skip
        have ht3 : A.1.1 (128 + 3 * w + s) < 3 := Nat.lt_of_not_le (fun z => h103 (nI_le z (by omega)))
        refine Z_aload_n dX12_doesOn_106 rfl rfl ?_
        refine Z_iload_n dX12_doesOn_107 rfl rfl ?_
        refine Z_iload_n dX12_doesOn_108 rfl rfl ?_
        refine Z_iload dX12_doesOn_109 rfl ?_
        refine Z_V3z (ci := 12) dX12_doesOn_111 to_X12_can lk_X12_206 iv_X12_can ⟨rfl, rfl⟩ (mw_i34 hm) (Nat.le_of_ble_eq_true rfl) ⟨rfl, rfl⟩ ⟨by decide, by decide⟩ ?_
        refine c_can hw hq hs ht3 hT hT2 (fun β hw1 hf1 => ?_)
        have hm := hw1.1.mw
        have hf1 : frI Fb α β := hf1.mono (fun k hk => by unfold Fb; omega)
        refine Z_if_eq (tgt := 122) dX12_doesOn_114 (by decide) (fun h114 => ?_) (fun h114 => ?_)
        · skip
          refine Z_aload_n dX12_doesOn_122 rfl rfl ?_
          refine Z_iload_n dX12_doesOn_123 rfl rfl ?_
          refine Z_iload_n dX12_doesOn_124 rfl rfl ?_
          refine Z_iload_n dX12_doesOn_125 rfl rfl ?_
          refine Z_V3z (ci := 12) dX12_doesOn_126 to_X12_waiting lk_X12_236 iv_X12_waiting ⟨rfl, rfl⟩ (mw_i34 hm) (Nat.le_of_ble_eq_true rfl) ⟨rfl, rfl⟩ ⟨by decide, by decide⟩ ?_
          first
            | refine c_waiting hw1 hT2 hq hs hT hw8 (fun γ hw2 hf2 => ?_)
            | refine c_waiting hw hT2 hq hs hT hw8 (fun γ hw2 hf2 => ?_)
          refine Z_iret dX12_doesOn_129 rfl rfl ⟨by decide, by decide⟩ ?_
          first
            | (have hc := b2i_ne.mp h114
               have := h β hw1 hf1
               rw [ek, zdoes6, if_pos ⟨ht3, hc⟩, wI_nI ht3] at this
               exact this)
            | (have hc := b2i_eq.mp h114
               have := h γ hw2 (hf1.tr hf2)
               rw [ek, zdoes6, if_neg (fun z => by rw [hc] at z; exact absurd z.2 (by decide))] at this
               exact this)
            | (have := h γ hw2 hf2
               rw [ek, zdoes6, if_neg (fun z => absurd ((nI_leI (a := 3) (by omega) (by omega)).mp h103) (by omega))] at this
               exact this)
        · skip
          refine Z_iload dX12_doesOn_117 rfl ?_
          refine Z_goto (tgt := 129) dX12_doesOn_119 (by decide) ?_
          refine Z_iret dX12_doesOn_129 rfl rfl ⟨by decide, by decide⟩ ?_
          first
            | (have hc := b2i_ne.mp h114
               have := h β hw1 hf1
               rw [ek, zdoes6, if_pos ⟨ht3, hc⟩, wI_nI ht3] at this
               exact this)
            | (have hc := b2i_eq.mp h114
               have := h γ hw2 (hf1.tr hf2)
               rw [ek, zdoes6, if_neg (fun z => by rw [hc] at z; exact absurd z.2 (by decide))] at this
               exact this)
            | (have := h γ hw2 hf2
               rw [ek, zdoes6, if_neg (fun z => absurd ((nI_leI (a := 3) (by omega) (by omega)).mp h103) (by omega))] at this
               exact this)
    | k + 6, h, _ => exact absurd h (by omega)
  · skip
    refine Z_iconst (v := -1) dX12_doesOn_130 (by decide) ?_
    refine Z_iret dX12_doesOn_131 rfl rfl ⟨by decide, by decide⟩ ?_
    have hk0 : A.1.1 (112 + w) = 0 := by rw [nI_toInt (by omega)] at hx25; omega
    have := h α hw frI.rf
    rw [hk0] at this
    exact this
end MD1
