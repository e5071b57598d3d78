section MPu
variable {G : ZG} {d : Nat} {α β : AH} {post : Option Value → AH → Prop} {A : ZA} {t D R : Nat}
theorem c_less {a b c e : Nat} {p : Int32} (ha : a ≤ 300000000) (hb : b ≤ 756756) (hb0 : 0 < b) (hc : c ≤ 300000000) (he : e ≤ 756756) (he0 : 0 < e) (h : post (some (.long (lZ (zlow ((a : Int) * e - (c : Int) * b) (b * e) p)))) α) : ZK G (d + 3) mX12_less [.long (lN a), .long (lN b), .long (lN c), .long (lN e), .int p] α post := by
  have m1 : a * e ≤ 300000000 * 756756 := Nat.mul_le_mul ha he
  have m2 : c * b ≤ 300000000 * 756756 := Nat.mul_le_mul hc hb
  have m3 : b * e ≤ 756756 * 756756 := Nat.mul_le_mul hb he
  have m4 : 0 < b * e := Nat.mul_pos hb0 he0
  have e1 : lN a * lN e - lN c * lN b = lZ ((a : Int) * e - (c : Int) * b) := by
    rw [lN_mul, lN_mul, ← lZ_nat, ← lZ_nat]
    unfold lZ
    rw [← Int64.ofInt_sub]
    simp only [Int.natCast_mul]
  have q1 : (a : Int) * e = ((a * e : Nat) : Int) := by simp
  have q2 : (c : Int) * b = ((c * b : Nat) : Int) := by simp
  refine ZK.of (n := 0) (by decide) (Nat.le_of_ble_eq_true rfl) rfl ?_
  refine Z_lload_n dX12_less_0 rfl rfl ?_
  refine Z_lload dX12_less_1 rfl ?_
  refine Z_lmul dX12_less_3 ?_
  refine Z_lload dX12_less_4 rfl ?_
  refine Z_lload_n dX12_less_6 rfl rfl ?_
  refine Z_lmul dX12_less_7 ?_
  refine Z_lsub dX12_less_8 ?_
  refine Z_lload_n dX12_less_9 rfl rfl ?_
  refine Z_lload dX12_less_10 rfl ?_
  refine Z_lmul dX12_less_12 ?_
  refine Z_iload dX12_less_13 rfl ?_
  refine Z_S3z dX12_less_15 to_X12_lowest lk_X12_261 sc_X12_lowest (Nat.le_of_ble_eq_true rfl) ⟨rfl, rfl⟩ ⟨by decide, by decide⟩ ?_
  rw [e1, lN_mul]
  refine c_lowest (by rw [q1, q2]; omega) (by rw [q1, q2]; omega) (by omega) m4 ?_
  refine Z_lret dX12_less_18 rfl ⟨by decide, by decide⟩ ?_
  exact h
theorem zOn_lt {cn : ZCn} {pay : Nat → Nat} (hp : ∀ k, k < 3 → pay k ≤ 99) {q s : Nat} (hq : q < 5832) : (zOn (zbest cn pay) cn pay q s).1 ≤ 300000000 := Nat.le_trans (zfold_lt hp hq 3 (by omega)) (by decide)
theorem zord_ok {σ : Nat → Nat} (h : SB σ) : zord (σ 6) (σ 7) (σ 8) ≤ 756756 ∧ 0 < zord (σ 6) (σ 7) (σ 8) := by
  have b6 : σ 6 ≤ 5 := h.at (by omega) rfl
  have b7 : σ 7 ≤ 5 := h.at (by omega) rfl
  have b8 : σ 8 ≤ 5 := h.at (by omega) rfl
  exact ⟨zord_le _ (by omega) _ (by omega) _ (by omega), zord_pos _ (by omega) _ (by omega) _ (by omega)⟩
/-- BEST's sum now, and the orders -/
def zB (S : ZS) : Nat := zbest (zcn S (S.1 5 + zrest S.1)) (sp_pay S.1) (zq S.1)
def zO (S : ZS) : Nat := zord (S.1 6) (S.1 7) (S.1 8)
def sp_pass (S : ZS) (x p : Int32) : Int64 := if ((0 ≤ x ∧ x ≤ 2) ∧ (0 ≤ p ∧ p ≤ 1)) ∧ S.1 (6 + x.toNatClampNeg) ≠ 0 then lZ (zlow ((zB S : Int) * zoq (zd (zq S.1) x.toNatClampNeg) - ((zOn (zbest (zcn S (S.1 5 + zrest S.1)) (sp_pay S.1)) (zcn S (S.1 5 + zrest S.1)) (sp_pay S.1) (zd (zq S.1) x.toNatClampNeg) x.toNatClampNeg).1 : Int) * zO S) (zO S * zoq (zd (zq S.1) x.toNatClampNeg)) p) else zNO
theorem c_mpass {x p : Int32} (hr : MRel A α) (hb : A.2.2.2 + 3 < 1000) (h : ∀ β, MRel (zup A 2) β → frI mId α β → post (some (.long (sp_pass A.1 x p))) β) : ZK G (d + 40) mX12_pass [.ref (G.1 + 34), .int x, .int p] α post := by
  have hm := hr.mw
  have b5 : A.1.1 5 ≤ 99 := hr.2.1.at (by omega) rfl
  have hq := zq_ok hr.2.1
  have hpl := sp_pay_le hr.2.1
  have ho := zord_ok hr.2.1
  refine ZK.of (n := 1) (by decide) (Nat.le_of_ble_eq_true rfl) rfl ?_
  refine Z_iload_n dX12_pass_0 rfl rfl ?_
  refine Z_S1z dX12_pass_1 to_X12_isSort lk_X12_73 sc_X12_isSort (Nat.le_of_ble_eq_true rfl) ⟨rfl, rfl⟩ ⟨by decide, by decide⟩ ?_
  refine c_isSort ?_
  refine Z_if_eq (tgt := 28) dX12_pass_4 (by decide) (fun h4 => ?_) (fun h4 => ?_)
  · skip
    refine Z_ldc2 dX12_pass_28 kc_X12_259 ?_
    refine Z_lret dX12_pass_31 rfl ⟨by decide, by decide⟩ ?_
    first
      | (have e : sp_pass A.1 x p = zNO := if_neg (fun z => by first | exact dec_f h4 z.1.1 | exact dec_f h13 z.1.2)
         rw [e] at h; exact h α hr.up frI.rf)
      | (have e : sp_pass A.1 (nI s) p = zNO := if_neg (fun z => z.2 (by rw [es]; exact (nI_eq (b := 0) (by omega) (by omega)).mp h25))
         rw [e] at h; exact h α hr.up frI.rf)
  · skip
    refine Z_iload_n dX12_pass_7 rfl rfl ?_
    refine Z_iconst (v := 0) dX12_pass_8 (by decide) ?_
    refine Z_iconst (v := 1) dX12_pass_9 (by decide) ?_
    refine Z_S3z dX12_pass_10 to_X12_in lk_X12_69 sc_X12_in (Nat.le_of_ble_eq_true rfl) ⟨rfl, rfl⟩ ⟨by decide, by decide⟩ ?_
    refine c_in ?_
    refine Z_if_eq (tgt := 28) dX12_pass_13 (by decide) (fun h13 => ?_) (fun h13 => ?_)
    · skip
      refine Z_ldc2 dX12_pass_28 kc_X12_259 ?_
      refine Z_lret dX12_pass_31 rfl ⟨by decide, by decide⟩ ?_
      first
        | (have e : sp_pass A.1 x p = zNO := if_neg (fun z => by first | exact dec_f h4 z.1.1 | exact dec_f h13 z.1.2)
           rw [e] at h; exact h α hr.up frI.rf)
        | (have e : sp_pass A.1 (nI s) p = zNO := if_neg (fun z => z.2 (by rw [es]; exact (nI_eq (b := 0) (by omega) (by omega)).mp h25))
           rw [e] at h; exact h α hr.up frI.rf)
    · skip
      obtain ⟨s, hs, rfl⟩ := okS.nI (dec_t h4)
      have b := zsb hr.2.1 hs
      have es : (nI s).toNatClampNeg = s := nI_clamp (by omega)
      refine Z_aload_n dX12_pass_16 rfl rfl ?_
      refine Z_getR dX12_pass_17 cl_12 fl_X12_9_12 rfl (mw_i34 hm) (mw_p34_1 hm) ?_
      refine Z_bipush (v := 6) dX12_pass_20 (by decide) ?_
      refine Z_iload_n dX12_pass_22 rfl rfl ?_
      refine Z_iadd dX12_pass_23 ?_
      refine Z_ialdv dX12_pass_24 (mw_i35 hm) (zix_e (m := 6 + s) (nI_add 6 s) (by omega) (by decide)) (hr.at (by omega) (by omega)) ?_
      refine Z_if_ne (tgt := 32) dX12_pass_25 (by decide) (fun h25 => ?_) (fun h25 => ?_)
      · skip
        have r0 : ¬ A.1.1 (6 + s) = 0 := fun z => h25 (by rw [z]; rfl)
        have e : sp_pass A.1 (nI s) p = lZ (zlow ((zB A.1 : Int) * zoq (zd (zq A.1.1) s) - ((zOn (zbest (zcn A.1 (A.1.1 5 + zrest A.1.1)) (sp_pay A.1.1)) (zcn A.1 (A.1.1 5 + zrest A.1.1)) (sp_pay A.1.1) (zd (zq A.1.1) s) s).1 : Int) * zO A.1) (zO A.1 * zoq (zd (zq A.1.1) s)) p) := by
          unfold sp_pass
          rw [es, if_pos ⟨⟨dec_t h4, dec_t h13⟩, r0⟩]
        rw [e] at h
        have hp0 : 0 < zl (zq A.1.1) s := by rw [hq.2.2.1 s (by omega)]; omega
        have ok := zd_ok hq.1 (show s < 3 by omega) hp0
        have hla := hq.2.1
        refine Z_aload_n dX12_pass_32 rfl rfl ?_
        refine Z_V0z (ci := 12) dX12_pass_33 to_X12_looks lk_X12_246 iv_X12_looks ⟨rfl, rfl⟩ (mw_i34 hm) (Nat.le_of_ble_eq_true rfl) ⟨rfl, rfl⟩ ⟨by decide, by decide⟩ ?_
        refine c_look hr hb (fun β t hw hf _ _ _ => ?_)
        have hm := hw.1.mw
        refine Z_aload_n dX12_pass_36 rfl rfl ?_
        refine Z_V0z (ci := 12) dX12_pass_37 to_X12_stateNow lk_X12_249 iv_X12_stateNow ⟨rfl, rfl⟩ (mw_i34 hm) (Nat.le_of_ble_eq_true rfl) ⟨rfl, rfl⟩ ⟨by decide, by decide⟩ ?_
        refine c_stateNow hw.1 ?_
        rw [show zq (zup A 1).1.1 = zq A.1.1 from rfl]
        refine Z_iload_n dX12_pass_40 rfl rfl ?_
        refine Z_S2z dX12_pass_41 to_X12_drawn lk_X12_218 sc_X12_drawn (Nat.le_of_ble_eq_true rfl) ⟨rfl, rfl⟩ ⟨by decide, by decide⟩ ?_
        refine c_drawn hq.1 (by omega) ok.1 ?_
        refine Z_istore_n (L' := [_, _, _, _]) dX12_pass_44 rfl (by decide) rfl rfl ?_
        refine Z_aload_n dX12_pass_45 rfl rfl ?_
        refine Z_aload_n dX12_pass_46 rfl rfl ?_
        refine Z_V0z (ci := 12) dX12_pass_47 to_X12_stateNow lk_X12_249 iv_X12_stateNow ⟨rfl, rfl⟩ (mw_i34 hm) (Nat.le_of_ble_eq_true rfl) ⟨rfl, rfl⟩ ⟨by decide, by decide⟩ ?_
        refine c_stateNow hw.1 ?_
        rw [show zq (zup A 1).1.1 = zq A.1.1 from rfl]
        refine Z_V1z (ci := 12) dX12_pass_50 to_X12_best lk_X12_202 iv_X12_best ⟨rfl, rfl⟩ (mw_i34 hm) (Nat.le_of_ble_eq_true rfl) ⟨rfl, rfl⟩ ⟨by decide, by decide⟩ ?_
        refine c_best hw (by show A.1.1 5 + zrest A.1.1 < 500; omega) hq.1 (by show _ ≤ A.1.1 5 + zrest A.1.1; omega) (fun γ hw1 hf1 => ?_)
        have hm := hw1.1.mw
        refine Z_aload_n dX12_pass_53 rfl rfl ?_
        refine Z_V0z (ci := 12) dX12_pass_54 to_X12_orders lk_X12_276 iv_X12_orders ⟨rfl, rfl⟩ (mw_i34 hm) (Nat.le_of_ble_eq_true rfl) ⟨rfl, rfl⟩ ⟨by decide, by decide⟩ ?_
        refine c_orders hw1.1 ?_
        refine Z_aload_n dX12_pass_57 rfl rfl ?_
        refine Z_iload_n dX12_pass_58 rfl rfl ?_
        refine Z_iload_n dX12_pass_59 rfl rfl ?_
        refine Z_V2z (ci := 12) dX12_pass_60 to_X12_bestOn lk_X12_221 iv_X12_bestOn ⟨rfl, rfl⟩ (mw_i34 hm) (Nat.le_of_ble_eq_true rfl) ⟨rfl, rfl⟩ ⟨by decide, by decide⟩ ?_
        refine c_bestOn hw1 (by show A.1.1 5 + zrest A.1.1 < 500; omega) ok.2.1 (by omega) (by show _ ≤ A.1.1 5 + zrest A.1.1; omega) (fun δ hw2 hf2 _ => ?_)
        have hm := hw2.1.mw
        have hp := h δ (hw2.1.up' (by omega)) ((hf.tr (hf1.mono fb_mid)).tr (hf2.mono fb_mid))
        refine Z_iload_n dX12_pass_63 rfl rfl ?_
        refine Z_S1z dX12_pass_64 to_X12_ordersOf lk_X12_209 sc_X12_ordersOf (Nat.le_of_ble_eq_true rfl) ⟨rfl, rfl⟩ ⟨by decide, by decide⟩ ?_
        refine c_ordersOf ok.2.1 ?_
        refine Z_iload_n dX12_pass_67 rfl rfl ?_
        refine Z_S5z dX12_pass_68 to_X12_less lk_X12_280 sc_X12_less (Nat.le_of_ble_eq_true rfl) ⟨rfl, rfl⟩ ⟨by decide, by decide⟩ ?_
        refine c_less (Nat.le_trans (zbest_lt hpl hq.1) (by decide)) ho.1 ho.2 (zOn_lt hpl ok.2.1) (zoq_le ok.2.1) (zoq_pos ok.2.1) ?_
        refine Z_lret dX12_pass_71 rfl ⟨by decide, by decide⟩ ?_
        exact hp
      · skip
        refine Z_ldc2 dX12_pass_28 kc_X12_259 ?_
        refine Z_lret dX12_pass_31 rfl ⟨by decide, by decide⟩ ?_
        first
          | (have e : sp_pass A.1 x p = zNO := if_neg (fun z => by first | exact dec_f h4 z.1.1 | exact dec_f h13 z.1.2)
             rw [e] at h; exact h α hr.up frI.rf)
          | (have e : sp_pass A.1 (nI s) p = zNO := if_neg (fun z => z.2 (by rw [es]; exact (nI_eq (b := 0) (by omega) (by omega)).mp h25))
             rw [e] at h; exact h α hr.up frI.rf)
/-- one more day of a sort -/
def zmore (A : ZA) (s : Nat) : ZA := zset A (6 + s) (A.1.1 (6 + s) + 1)
def sp_put (S : ZS) (x p : Int32) : Int64 := if ((0 ≤ x ∧ x ≤ 2) ∧ (0 ≤ p ∧ p ≤ 1)) ∧ S.1 (6 + x.toNatClampNeg) ≠ 5 then lZ (zlow ((zB (u1 S.1 (6 + x.toNatClampNeg) (S.1 (6 + x.toNatClampNeg) + 1), S.2) : Int) * zO S - (zB S : Int) * zO (u1 S.1 (6 + x.toNatClampNeg) (S.1 (6 + x.toNatClampNeg) + 1), S.2)) (zO (u1 S.1 (6 + x.toNatClampNeg) (S.1 (6 + x.toNatClampNeg) + 1), S.2) * zO S) p) else zNO
theorem u1_back {f : Nat → Nat} {i : Nat} {x : Nat} (h : f i = x) {y : Nat} : u1 (u1 f i y) i x = f := by
  funext j
  unfold u1
  by_cases e : j = i
  · rw [if_pos e, e, h]
  · rw [if_neg e, if_neg e]
theorem c_mput {x p : Int32} (hr : MRel A α) (hb : A.2.2.2 + 4 < 1000) (h : ∀ β, MRel (zup A 2) β → frI mId α β → post (some (.long (sp_put A.1 x p))) β) : ZK G (d + 40) mX12_put [.ref (G.1 + 34), .int x, .int p] α post := by
  have hm := hr.mw
  have b5 : A.1.1 5 ≤ 99 := hr.2.1.at (by omega) rfl
  have hq := zq_ok hr.2.1
  have hpl := sp_pay_le hr.2.1
  have ho := zord_ok hr.2.1
  have hla := hq.2.1
  refine ZK.of (n := 8) (by decide) (Nat.le_of_ble_eq_true rfl) rfl ?_
  refine Z_iload_n dX12_put_0 rfl rfl ?_
  refine Z_S1z dX12_put_1 to_X12_isSort lk_X12_73 sc_X12_isSort (Nat.le_of_ble_eq_true rfl) ⟨rfl, rfl⟩ ⟨by decide, by decide⟩ ?_
  refine c_isSort ?_
  refine Z_if_eq (tgt := 29) dX12_put_4 (by decide) (fun h4 => ?_) (fun h4 => ?_)
  · skip
    refine Z_ldc2 dX12_put_29 kc_X12_259 ?_
    refine Z_lret dX12_put_32 rfl ⟨by decide, by decide⟩ ?_
    first
      | (have e : sp_put A.1 x p = zNO := if_neg (fun z => by first | exact dec_f h4 z.1.1 | exact dec_f h13 z.1.2)
         rw [e] at h; exact h α hr.up frI.rf)
      | (have e : sp_put A.1 (nI s) p = zNO := if_neg (fun z => z.2 (by rw [es]; exact (nI_eq (b := 5) (by omega) (by omega)).mp h26))
         rw [e] at h; exact h α hr.up frI.rf)
  · skip
    refine Z_iload_n dX12_put_7 rfl rfl ?_
    refine Z_iconst (v := 0) dX12_put_8 (by decide) ?_
    refine Z_iconst (v := 1) dX12_put_9 (by decide) ?_
    refine Z_S3z dX12_put_10 to_X12_in lk_X12_69 sc_X12_in (Nat.le_of_ble_eq_true rfl) ⟨rfl, rfl⟩ ⟨by decide, by decide⟩ ?_
    refine c_in ?_
    refine Z_if_eq (tgt := 29) dX12_put_13 (by decide) (fun h13 => ?_) (fun h13 => ?_)
    · skip
      refine Z_ldc2 dX12_put_29 kc_X12_259 ?_
      refine Z_lret dX12_put_32 rfl ⟨by decide, by decide⟩ ?_
      first
        | (have e : sp_put A.1 x p = zNO := if_neg (fun z => by first | exact dec_f h4 z.1.1 | exact dec_f h13 z.1.2)
           rw [e] at h; exact h α hr.up frI.rf)
        | (have e : sp_put A.1 (nI s) p = zNO := if_neg (fun z => z.2 (by rw [es]; exact (nI_eq (b := 5) (by omega) (by omega)).mp h26))
           rw [e] at h; exact h α hr.up frI.rf)
    · skip
      obtain ⟨s, hs, rfl⟩ := okS.nI (dec_t h4)
      have b := zsb hr.2.1 hs
      have es : (nI s).toNatClampNeg = s := nI_clamp (by omega)
      refine Z_aload_n dX12_put_16 rfl rfl ?_
      refine Z_getR dX12_put_17 cl_12 fl_X12_9_12 rfl (mw_i34 hm) (mw_p34_1 hm) ?_
      refine Z_bipush (v := 6) dX12_put_20 (by decide) ?_
      refine Z_iload_n dX12_put_22 rfl rfl ?_
      refine Z_iadd dX12_put_23 ?_
      refine Z_ialdv dX12_put_24 (mw_i35 hm) (zix_e (m := 6 + s) (nI_add 6 s) (by omega) (by decide)) (hr.at (by omega) (by omega)) ?_
      refine Z_iconst (v := 5) dX12_put_25 (by decide) ?_
      refine Z_icmp_ne (tgt := 33) dX12_put_26 (by decide) (fun h26 => ?_) (fun h26 => ?_)
      · skip
        have r0 : ¬ A.1.1 (6 + s) = 5 := fun z => h26 (by rw [z]; rfl)
        have e : sp_put A.1 (nI s) p = lZ (zlow ((zB (u1 A.1.1 (6 + s) (A.1.1 (6 + s) + 1), A.1.2) : Int) * zO A.1 - (zB A.1 : Int) * zO (u1 A.1.1 (6 + s) (A.1.1 (6 + s) + 1), A.1.2)) (zO (u1 A.1.1 (6 + s) (A.1.1 (6 + s) + 1), A.1.2) * zO A.1) p) := by
          unfold sp_put
          rw [es, if_pos ⟨⟨dec_t h4, dec_t h13⟩, r0⟩]
        rw [e] at h
        refine Z_aload_n dX12_put_33 rfl rfl ?_
        refine Z_V0z (ci := 12) dX12_put_34 to_X12_looks lk_X12_246 iv_X12_looks ⟨rfl, rfl⟩ (mw_i34 hm) (Nat.le_of_ble_eq_true rfl) ⟨rfl, rfl⟩ ⟨by decide, by decide⟩ ?_
        refine c_look hr (by omega) (fun β t hw hf _ _ _ => ?_)
        have hm := hw.1.mw
        refine Z_aload_n dX12_put_37 rfl rfl ?_
        refine Z_aload_n dX12_put_38 rfl rfl ?_
        refine Z_V0z (ci := 12) dX12_put_39 to_X12_stateNow lk_X12_249 iv_X12_stateNow ⟨rfl, rfl⟩ (mw_i34 hm) (Nat.le_of_ble_eq_true rfl) ⟨rfl, rfl⟩ ⟨by decide, by decide⟩ ?_
        refine c_stateNow hw.1 ?_
        rw [show zq (zup A 1).1.1 = zq A.1.1 from rfl]
        refine Z_V1z (ci := 12) dX12_put_42 to_X12_best lk_X12_202 iv_X12_best ⟨rfl, rfl⟩ (mw_i34 hm) (Nat.le_of_ble_eq_true rfl) ⟨rfl, rfl⟩ ⟨by decide, by decide⟩ ?_
        refine c_best hw (by show A.1.1 5 + zrest A.1.1 < 500; omega) hq.1 (by show _ ≤ A.1.1 5 + zrest A.1.1; omega) (fun γ hw1 hf1 => ?_)
        have hm := hw1.1.mw
        have gb := hw1.1.at (i := 6 + s) (by omega) (by omega)
        have r1 : MRel (zmore (zup A 1) s) (sI γ 35 (6 + s) (nI (A.1.1 (6 + s) + 1))) := hw1.1.set (i := 6 + s) (n := A.1.1 (6 + s) + 1) (by omega) (by omega) (by omega) (hw1.1.2.1.set (by rw [zbd_bag (by omega)]; omega) (by omega) (by omega))
        have hq2 := zq_ok r1.2.1
        have ho2 := zord_ok r1.2.1
        have hpl2 := sp_pay_le r1.2.1
        have bz := zsb r1.2.1 (show 0 ≤ 2 by omega)
        have b52 : (zmore (zup A 1) s).1.1 5 ≤ 99 := r1.2.1.at (by omega) rfl
        have hla2 := hq2.2.1
        refine Z_lstore_n (L' := [_, _, _, _, _, _, _, _, _, _, _]) dX12_put_45 rfl (by decide) rfl rfl ?_
        refine Z_aload_n dX12_put_46 rfl rfl ?_
        refine Z_V0z (ci := 12) dX12_put_47 to_X12_orders lk_X12_276 iv_X12_orders ⟨rfl, rfl⟩ (mw_i34 hm) (Nat.le_of_ble_eq_true rfl) ⟨rfl, rfl⟩ ⟨by decide, by decide⟩ ?_
        refine c_orders hw1.1 ?_
        refine Z_lstore (L' := [_, _, _, _, _, _, _, _, _, _, _]) dX12_put_50 (by decide) rfl rfl ?_
        refine Z_aload_n dX12_put_52 rfl rfl ?_
        refine Z_getR dX12_put_53 cl_12 fl_X12_9_12 rfl (mw_i34 hm) (mw_p34_1 hm) ?_
        refine Z_bipush (v := 6) dX12_put_56 (by decide) ?_
        refine Z_iload_n dX12_put_58 rfl rfl ?_
        refine Z_iadd dX12_put_59 ?_
        refine Z_dup2 dX12_put_60 rfl rfl ?_
        refine Z_ialdv dX12_put_61 (mw_i35 hm) (zix_e (m := 6 + s) (nI_add 6 s) (by omega) (by decide)) gb ?_
        refine Z_iconst (v := 1) dX12_put_62 (by decide) ?_
        refine Z_iadd dX12_put_63 ?_
        rw [nI_1, show (zup A 1).1.1 (6 + s) = A.1.1 (6 + s) from rfl]
        refine Z_iast dX12_put_64 (mw_i35 hm) (zix_e (m := 6 + s) (nI_add 6 s) (by omega) (by decide)) ?_
        refine Z_aload_n dX12_put_65 rfl rfl ?_
        refine Z_V0z (ci := 12) dX12_put_66 to_X12_looks lk_X12_246 iv_X12_looks ⟨rfl, rfl⟩ (mw_i34 hm) (Nat.le_of_ble_eq_true rfl) ⟨rfl, rfl⟩ ⟨by decide, by decide⟩ ?_
        refine c_look r1 (by show A.2.2.2 + 1 + 3 < 1000; omega) (fun δ t2 hw2 hf2 _ _ _ => ?_)
        have hm := hw2.1.mw
        refine Z_aload_n dX12_put_69 rfl rfl ?_
        refine Z_aload_n dX12_put_70 rfl rfl ?_
        refine Z_V0z (ci := 12) dX12_put_71 to_X12_stateNow lk_X12_249 iv_X12_stateNow ⟨rfl, rfl⟩ (mw_i34 hm) (Nat.le_of_ble_eq_true rfl) ⟨rfl, rfl⟩ ⟨by decide, by decide⟩ ?_
        refine c_stateNow hw2.1 ?_
        rw [show zq (zup (zmore (zup A 1) s) 1).1.1 = zq (zmore (zup A 1) s).1.1 from rfl]
        refine Z_V1z (ci := 12) dX12_put_74 to_X12_best lk_X12_202 iv_X12_best ⟨rfl, rfl⟩ (mw_i34 hm) (Nat.le_of_ble_eq_true rfl) ⟨rfl, rfl⟩ ⟨by decide, by decide⟩ ?_
        refine c_best hw2 (by omega) hq2.1 (by omega) (fun ε hw3 hf3 => ?_)
        have hm := hw3.1.mw
        have gc := hw3.1.at (i := 6 + s) (by omega) (by omega)
        rw [show (zup (zmore (zup A 1) s) 1).1.1 (6 + s) = A.1.1 (6 + s) + 1 from u1_s _ _ _] at gc
        have r3 := hw3.1.set (i := 6 + s) (n := A.1.1 (6 + s)) (by omega) (by omega) (by omega) (hw3.1.2.1.set (by rw [zbd_bag (by omega)]; omega) (by omega) (by omega))
        have ez : zset (zup (zmore (zup A 1) s) 1) (6 + s) (A.1.1 (6 + s)) = zup A 2 := by
          show ((u1 (u1 A.1.1 (6 + s) (A.1.1 (6 + s) + 1)) (6 + s) (A.1.1 (6 + s)), A.1.2), A.2.1, A.2.2.1, A.2.2.2 + 1 + 1) = (A.1, A.2.1, A.2.2.1, A.2.2.2 + 2)
          rw [u1_back rfl]
        rw [ez] at r3
        refine Z_lstore (L' := [_, _, _, _, _, _, _, _, _, _, _]) dX12_put_77 (by decide) rfl rfl ?_
        refine Z_aload_n dX12_put_79 rfl rfl ?_
        refine Z_V0z (ci := 12) dX12_put_80 to_X12_orders lk_X12_276 iv_X12_orders ⟨rfl, rfl⟩ (mw_i34 hm) (Nat.le_of_ble_eq_true rfl) ⟨rfl, rfl⟩ ⟨by decide, by decide⟩ ?_
        refine c_orders hw3.1 ?_
        refine Z_lstore (L' := [_, _, _, _, _, _, _, _, _, _, _]) dX12_put_83 (by decide) rfl rfl ?_
        refine Z_aload_n dX12_put_85 rfl rfl ?_
        refine Z_getR dX12_put_86 cl_12 fl_X12_9_12 rfl (mw_i34 hm) (mw_p34_1 hm) ?_
        refine Z_bipush (v := 6) dX12_put_89 (by decide) ?_
        refine Z_iload_n dX12_put_91 rfl rfl ?_
        refine Z_iadd dX12_put_92 ?_
        refine Z_dup2 dX12_put_93 rfl rfl ?_
        refine Z_ialdv dX12_put_94 (mw_i35 hm) (zix_e (m := 6 + s) (nI_add 6 s) (by omega) (by decide)) gc ?_
        refine Z_iconst (v := 1) dX12_put_95 (by decide) ?_
        refine Z_isub dX12_put_96 ?_
        rw [nI_pred]
        refine Z_iast dX12_put_97 (mw_i35 hm) (zix_e (m := 6 + s) (nI_add 6 s) (by omega) (by decide)) ?_
        refine Z_lload dX12_put_98 rfl ?_
        refine Z_lload dX12_put_100 rfl ?_
        refine Z_lload_n dX12_put_102 rfl rfl ?_
        refine Z_lload dX12_put_103 rfl ?_
        refine Z_iload_n dX12_put_105 rfl rfl ?_
        refine Z_S5z dX12_put_106 to_X12_less lk_X12_280 sc_X12_less (Nat.le_of_ble_eq_true rfl) ⟨rfl, rfl⟩ ⟨by decide, by decide⟩ ?_
        refine c_less (Nat.le_trans (zbest_lt hpl2 hq2.1) (by decide)) ho2.1 ho2.2 (Nat.le_trans (zbest_lt hpl hq.1) (by decide)) ho.1 ho.2 ?_
        refine Z_lret dX12_put_109 rfl ⟨by decide, by decide⟩ ?_
        exact h _ r3 (((((hf.tr (hf1.mono fb_mid)).tr (frI.sI mid35)).tr hf2).tr (hf3.mono fb_mid)).tr (frI.sI mid35))
      · skip
        refine Z_ldc2 dX12_put_29 kc_X12_259 ?_
        refine Z_lret dX12_put_32 rfl ⟨by decide, by decide⟩ ?_
        first
          | (have e : sp_put A.1 x p = zNO := if_neg (fun z => by first | exact dec_f h4 z.1.1 | exact dec_f h13 z.1.2)
             rw [e] at h; exact h α hr.up frI.rf)
          | (have e : sp_put A.1 (nI s) p = zNO := if_neg (fun z => z.2 (by rw [es]; exact (nI_eq (b := 5) (by omega) (by omega)).mp h26))
             rw [e] at h; exact h α hr.up frI.rf)
end MPu
