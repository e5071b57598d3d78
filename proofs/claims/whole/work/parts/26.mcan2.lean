section MC2
variable {G : ZG} {d : Nat} {α β : AH} {post : Option Value → AH → Prop} {A : ZA}
def zday (q s k T : Nat) : Nat → Nat := fun i => if i = 0 then s else if i = 1 then zg q k else if i = 2 then zla q else if i = 3 then zl q s else T - zla q - 1
theorem nI_s {a b : Nat} (h : b ≤ a) : nI a - nI b = nI (a - b) := pk_sub h
theorem c_canOn {q s k t D R : Nat} (hr : MRel A α) (ha : mAsk α t D R) (hq : q < 5832) (hs : s < 3) (hk : k < 3) (hT : zla q + 1 ≤ D + R) (hT2 : D + R < 500) (h : ∀ β, MRel A β → frI (fun k => k = 37 ∨ k = 38) α β → post (some (.int (b2i (zcan (zcn A.1 (D + R)) q s k)))) β) : ZK G (d + 3) mX12_canOn [.ref (G.1 + 34), .int (nI q), .int (nI s), .int (nI k)] α post := by
  have hm := hr.mw
  have hg := zg_le (q := q) (k := k)
  have hla := zla_le hq
  have hl := zl_le (s := s) hq
  have v4 := hr.2.2.1.2.1
  have b4 : A.1.1 4 ≤ 5 := hr.2.1.at (by omega) rfl
  have b1 : A.1.1 4 ≤ A.1.1 1 := hr.2.1.2
  refine ZK.of (n := 9) (by decide) (Nat.le_of_ble_eq_true rfl) rfl ?_
  have e5 : nI D + nI R - nI (zla q) - 1 = nI (D + R - zla q - 1) := by
    rw [nI_add, nI_s (by omega)]; exact nI_s (b := 1) (by omega)
  by_cases h2 : zg q k = 2
  · have ez : zcan (zcn A.1 (D + R)) q s k = false := if_pos h2
    rw [ez] at h
    refine Z_iload_n dX12_canOn_0 rfl rfl ?_
    refine Z_iload_n dX12_canOn_1 rfl rfl ?_
    refine Z_S2z dX12_canOn_2 to_X12_stageOf lk_X12_182 sc_X12_stageOf (Nat.le_of_ble_eq_true rfl) ⟨rfl, rfl⟩ ⟨by decide, by decide⟩ ?_
    refine c_stageOf hq hk ?_
    rw [h2]
    refine Z_iconst (v := 2) dX12_canOn_5 (by decide) ?_
    refine Z_icmp_eq (tgt := 19) dX12_canOn_6 (by decide) (fun h6 => ?_) (fun h6 => ?_)
    · skip
      refine Z_iconst (v := 0) dX12_canOn_19 (by decide) ?_
      refine Z_iret dX12_canOn_20 rfl rfl ⟨by decide, by decide⟩ ?_
      exact h α hr frI.rf
    · skip
      exact absurd rfl h6
  · by_cases h0 : A.1.1 4 = 0
    · have ez : zcan (zcn A.1 (D + R)) q s k = false := by unfold zcan zcn; rw [if_neg h2, if_pos h0]
      rw [ez] at h
      rw [h0] at v4
      refine Z_iload_n dX12_canOn_0 rfl rfl ?_
      refine Z_iload_n dX12_canOn_1 rfl rfl ?_
      refine Z_S2z dX12_canOn_2 to_X12_stageOf lk_X12_182 sc_X12_stageOf (Nat.le_of_ble_eq_true rfl) ⟨rfl, rfl⟩ ⟨by decide, by decide⟩ ?_
      refine c_stageOf hq hk ?_
      refine Z_iconst (v := 2) dX12_canOn_5 (by decide) ?_
      refine Z_icmp_eq (tgt := 19) dX12_canOn_6 (by decide) (fun h6 => ?_) (fun h6 => ?_)
      · skip
        exact absurd ((nI_eq (a := zg q k) (b := 2) (by omega) (by omega)).mp h6) h2
      · skip
        refine Z_aload_n dX12_canOn_9 rfl rfl ?_
        refine Z_getR dX12_canOn_10 cl_12 fl_X12_9_12 rfl (mw_i34 hm) (mw_p34_1 hm) ?_
        refine Z_iconst (v := 4) dX12_canOn_13 (by decide) ?_
        refine Z_ialdv dX12_canOn_14 (mw_i35 hm) (zix_k (m := 4) (by decide)) v4 ?_
        refine Z_iconst (v := -1) dX12_canOn_15 (by decide) ?_
        refine Z_icmp_ne (tgt := 21) dX12_canOn_16 (by decide) (fun h16 => ?_) (fun h16 => ?_)
        · skip
          exact absurd (by decide) h16
        · skip
          refine Z_iconst (v := 0) dX12_canOn_19 (by decide) ?_
          refine Z_iret dX12_canOn_20 rfl rfl ⟨by decide, by decide⟩ ?_
          exact h α hr frI.rf
    · have ez : zcan (zcn A.1 (D + R)) q s k = A.1.2 (A.1.1 4 - 1) s (zg q k) (zla q) (zl q s) (D + R - zla q - 1) k := by unfold zcan zcn; rw [if_neg h2, if_neg h0]
      rw [ez] at h
      obtain ⟨a, ea⟩ : ∃ a, A.1.1 4 = a + 1 := ⟨A.1.1 4 - 1, by omega⟩
      rw [ea, Nat.add_sub_cancel] at h
      rw [ea, nI_pred] at v4
      have bm : A.1.1 (187 + a) ≤ 140 := hr.2.1.at (by omega) (zbd_many (by omega))
      have eb : 192 + 140 * nI a = nI (192 + 140 * a) := by rw [show (192 : Int32) = nI 192 from rfl, show (140 : Int32) = nI 140 from rfl, pk_mul, nI_add]
      have hrun := hr.2.2.1.2.2 a (by omega) (zday q s k (D + R)) k hk
      refine Z_iload_n dX12_canOn_0 rfl rfl ?_
      refine Z_iload_n dX12_canOn_1 rfl rfl ?_
      refine Z_S2z dX12_canOn_2 to_X12_stageOf lk_X12_182 sc_X12_stageOf (Nat.le_of_ble_eq_true rfl) ⟨rfl, rfl⟩ ⟨by decide, by decide⟩ ?_
      refine c_stageOf hq hk ?_
      refine Z_iconst (v := 2) dX12_canOn_5 (by decide) ?_
      refine Z_icmp_eq (tgt := 19) dX12_canOn_6 (by decide) (fun h6 => ?_) (fun h6 => ?_)
      · skip
        exact absurd ((nI_eq (a := zg q k) (b := 2) (by omega) (by omega)).mp h6) h2
      · skip
        refine Z_aload_n dX12_canOn_9 rfl rfl ?_
        refine Z_getR dX12_canOn_10 cl_12 fl_X12_9_12 rfl (mw_i34 hm) (mw_p34_1 hm) ?_
        refine Z_iconst (v := 4) dX12_canOn_13 (by decide) ?_
        refine Z_ialdv dX12_canOn_14 (mw_i35 hm) (zix_k (m := 4) (by decide)) v4 ?_
        refine Z_iconst (v := -1) dX12_canOn_15 (by decide) ?_
        refine Z_icmp_ne (tgt := 21) dX12_canOn_16 (by decide) (fun h16 => ?_) (fun h16 => ?_)
        · skip
          refine Z_aload_n dX12_canOn_21 rfl rfl ?_
          refine Z_getR dX12_canOn_22 cl_12 fl_X12_18_12 rfl (mw_i34 hm) (mw_p34_9 hm) ?_
          refine Z_iconst (v := 0) dX12_canOn_25 (by decide) ?_
          refine Z_iload_n dX12_canOn_26 rfl rfl ?_
          refine Z_iast dX12_canOn_27 (mw_i37 hm) (zix_k (m := 0) (by decide)) ?_
          refine Z_aload_n dX12_canOn_28 rfl rfl ?_
          refine Z_getR dX12_canOn_29 cl_12 fl_X12_18_12 rfl (mw_i34 hm) (mw_p34_9 hm) ?_
          refine Z_iconst (v := 1) dX12_canOn_32 (by decide) ?_
          refine Z_iload_n dX12_canOn_33 rfl rfl ?_
          refine Z_iload_n dX12_canOn_34 rfl rfl ?_
          refine Z_S2z dX12_canOn_35 to_X12_stageOf lk_X12_182 sc_X12_stageOf (Nat.le_of_ble_eq_true rfl) ⟨rfl, rfl⟩ ⟨by decide, by decide⟩ ?_
          refine c_stageOf hq hk ?_
          refine Z_iast dX12_canOn_38 (mw_i37 hm) (zix_k (m := 1) (by decide)) ?_
          refine Z_aload_n dX12_canOn_39 rfl rfl ?_
          refine Z_getR dX12_canOn_40 cl_12 fl_X12_18_12 rfl (mw_i34 hm) (mw_p34_9 hm) ?_
          refine Z_iconst (v := 2) dX12_canOn_43 (by decide) ?_
          refine Z_iload_n dX12_canOn_44 rfl rfl ?_
          refine Z_S1z dX12_canOn_45 to_X12_leftInAll lk_X12_185 sc_X12_leftInAll (Nat.le_of_ble_eq_true rfl) ⟨rfl, rfl⟩ ⟨by decide, by decide⟩ ?_
          refine c_leftInAll hq ?_
          refine Z_iast dX12_canOn_48 (mw_i37 hm) (zix_k (m := 2) (by decide)) ?_
          refine Z_aload_n dX12_canOn_49 rfl rfl ?_
          refine Z_getR dX12_canOn_50 cl_12 fl_X12_18_12 rfl (mw_i34 hm) (mw_p34_9 hm) ?_
          refine Z_iconst (v := 3) dX12_canOn_53 (by decide) ?_
          refine Z_iload_n dX12_canOn_54 rfl rfl ?_
          refine Z_iload_n dX12_canOn_55 rfl rfl ?_
          refine Z_S2z dX12_canOn_56 to_X12_left lk_X12_172 sc_X12_left (Nat.le_of_ble_eq_true rfl) ⟨rfl, rfl⟩ ⟨by decide, by decide⟩ ?_
          refine c_left hq hs ?_
          refine Z_iast dX12_canOn_59 (mw_i37 hm) (zix_k (m := 3) (by decide)) ?_
          refine Z_aload_n dX12_canOn_60 rfl rfl ?_
          refine Z_getR dX12_canOn_61 cl_12 fl_X12_18_12 rfl (mw_i34 hm) (mw_p34_9 hm) ?_
          refine Z_iconst (v := 4) dX12_canOn_64 (by decide) ?_
          refine Z_aload_n dX12_canOn_65 rfl rfl ?_
          refine Z_getIv dX12_canOn_66 cl_12 fl_X12_176_12 rfl (mw_i34 hm) (show hI (sI (sI (sI (sI α 37 0 (nI s)) 37 1 (nI (zg q k))) 37 2 (nI (zla q))) 37 3 (nI (zl q s))) 34 11 = nI D from ha.2.1) ?_
          refine Z_aload_n dX12_canOn_69 rfl rfl ?_
          refine Z_getIv dX12_canOn_70 cl_12 fl_X12_179_12 rfl (mw_i34 hm) (show hI (sI (sI (sI (sI α 37 0 (nI s)) 37 1 (nI (zg q k))) 37 2 (nI (zla q))) 37 3 (nI (zl q s))) 34 12 = nI R from ha.2.2) ?_
          refine Z_iadd dX12_canOn_73 ?_
          refine Z_iload_n dX12_canOn_74 rfl rfl ?_
          refine Z_S1z dX12_canOn_75 to_X12_leftInAll lk_X12_185 sc_X12_leftInAll (Nat.le_of_ble_eq_true rfl) ⟨rfl, rfl⟩ ⟨by decide, by decide⟩ ?_
          refine c_leftInAll hq ?_
          refine Z_isub dX12_canOn_78 ?_
          refine Z_iconst (v := 1) dX12_canOn_79 (by decide) ?_
          refine Z_isub dX12_canOn_80 ?_
          rw [e5]
          refine Z_iast dX12_canOn_81 (mw_i37 hm) (zix_k (m := 4) (by decide)) ?_
          refine Z_aload_n dX12_canOn_82 rfl rfl ?_
          refine Z_getR dX12_canOn_83 cl_12 fl_X12_9_12 rfl (mw_i34 hm) (mw_p34_1 hm) ?_
          refine Z_sipush (v := 187) dX12_canOn_86 (by decide) ?_
          refine Z_aload_n dX12_canOn_89 rfl rfl ?_
          refine Z_getR dX12_canOn_90 cl_12 fl_X12_9_12 rfl (mw_i34 hm) (mw_p34_1 hm) ?_
          refine Z_iconst (v := 4) dX12_canOn_93 (by decide) ?_
          refine Z_ialdv dX12_canOn_94 (mw_i35 hm) (zix_k (m := 4) (by decide)) (show hI (sI (sI (sI (sI (sI α 37 0 (nI s)) 37 1 (nI (zg q k))) 37 2 (nI (zla q))) 37 3 (nI (zl q s))) 37 4 (nI (D + R - zla q - 1))) 35 4 = nI a from v4) ?_
          refine Z_iadd dX12_canOn_95 ?_
          refine Z_ialdv dX12_canOn_96 (mw_i35 hm) (zix_e (m := 187 + a) (nI_add 187 a) (by omega) (by decide)) (show hI (sI (sI (sI (sI (sI α 37 0 (nI s)) 37 1 (nI (zg q k))) 37 2 (nI (zla q))) 37 3 (nI (zl q s))) 37 4 (nI (D + R - zla q - 1))) 35 (187 + a) = nI (A.1.1 (187 + a)) from hr.at (by omega) (by omega)) ?_
          refine Z_istore (L' := [_, _, _, _, _, _, _, _, _, _, _, _, _]) dX12_canOn_97 (by decide) rfl rfl ?_
          refine Z_sipush (v := 192) dX12_canOn_99 (by decide) ?_
          refine Z_sipush (v := 140) dX12_canOn_102 (by decide) ?_
          refine Z_aload_n dX12_canOn_105 rfl rfl ?_
          refine Z_getR dX12_canOn_106 cl_12 fl_X12_9_12 rfl (mw_i34 hm) (mw_p34_1 hm) ?_
          refine Z_iconst (v := 4) dX12_canOn_109 (by decide) ?_
          refine Z_ialdv dX12_canOn_110 (mw_i35 hm) (zix_k (m := 4) (by decide)) (show hI (sI (sI (sI (sI (sI α 37 0 (nI s)) 37 1 (nI (zg q k))) 37 2 (nI (zla q))) 37 3 (nI (zl q s))) 37 4 (nI (D + R - zla q - 1))) 35 4 = nI a from v4) ?_
          refine Z_imul dX12_canOn_111 ?_
          refine Z_iadd dX12_canOn_112 ?_
          rw [eb]
          refine Z_istore (L' := [_, _, _, _, _, _, _, _, _, _, _, _, _]) dX12_canOn_113 (by decide) rfl rfl ?_
          refine Z_iconst (v := 0) dX12_canOn_115 (by decide) ?_
          refine Z_istore (L' := [_, _, _, _, _, _, _, _, _, _, _, _, _]) dX12_canOn_116 (by decide) rfl rfl ?_
          refine Z_iconst (v := 0) dX12_canOn_118 (by decide) ?_
          refine Z_istore (L' := [_, _, _, _, _, _, _, _, _, _, _, _, _]) dX12_canOn_119 (by decide) rfl rfl ?_
          refine Z_iload dX12_canOn_121 rfl ?_
          refine Z_istore (L' := [_, _, _, _, _, _, _, _, _, _, _, _, _]) dX12_canOn_123 (by decide) rfl rfl ?_
          refine lp_canOn (dy := zday q s k (D + R)) (by omega) hk (fun i hi => ?_) hrun (fun β hg => h β hg.1 hg.2.1) (A.1.1 (187 + a)) 0 (by omega) [] false _ rfl ?_ (fun j hj => absurd hj (by simp))
          · unfold zday; split
            · omega
            · split
              · omega
              · split
                · omega
                · split <;> omega
          · have hf : frI (fun k => k = 37 ∨ k = 38) α (sI (sI (sI (sI (sI α 37 0 (nI s)) 37 1 (nI (zg q k))) 37 2 (nI (zla q))) 37 3 (nI (zl q s))) 37 4 (nI (D + R - zla q - 1))) := ((((frI.sI (Or.inl rfl)).tr (frI.sI (Or.inl rfl))).tr (frI.sI (Or.inl rfl))).tr (frI.sI (Or.inl rfl))).tr (frI.sI (Or.inl rfl))
            refine ⟨hr.fr hf (by decide), hf, fun i hi => ?_⟩
            match i, hi with
            | 0, _ => simp [hI_sI, zday]
            | 1, _ => simp [hI_sI, zday]
            | 2, _ => simp [hI_sI, zday]
            | 3, _ => simp [hI_sI, zday]
            | 4, _ => simp [hI_sI, zday]
        · skip
          exact absurd h16 (nI_nm1 (by omega))
/-- the memo of can: what is stamped t is right -/
def mCM (α : AH) (t : Nat) (cn : ZCn) : Prop := ∀ s l r g k b, s < 3 → l < 16 → r < 6 → g < 2 → k < 3 → b < 2 → hI α 39 (36 * (16 * s + l) + 6 * r + 3 * g + k) = nI (2 * t + b) → (b = 1 ↔ cn s l r g k = true)
/-- the memo of best -/
def mBM (α : AH) (t : Nat) (cn : ZCn) (pay : Nat → Nat) : Prop := ∀ q, q < 5832 → hI α 41 q = nI t → hJ α 40 q = lN (zbest cn pay q)
/-- the reference while it looks ahead -/
def mLk (A : ZA) (t D R : Nat) (α : AH) : Prop := MRel A α ∧ mAsk α t D R ∧ mCM α t (zcn A.1 (D + R)) ∧ mBM α t (zcn A.1 (D + R)) (sp_pay A.1.1)
def Fb (k : Nat) : Prop := k = 37 ∨ k = 38 ∨ k = 39 ∨ k = 40 ∨ k = 41 ∨ k = 42
theorem mStamp.s39 {t i n : Nat} (ht : mStamp α t) (hn : n ≤ 2 * t + 1) : mStamp (sI α 39 i (nI n)) t := by
  refine ⟨ht.1, by rw [sI_ne (by decide)]; exact ht.2.1, fun j => ?_, fun r hr => by rw [sI_ne (by omega)]; exact ht.2.2.2 r hr⟩
  rw [hI_sI]
  by_cases e : j = i
  · rw [if_pos ⟨rfl, e⟩]; exact ⟨n, hn, rfl⟩
  · rw [if_neg (fun z => e z.2)]; exact ht.2.2.1 j
theorem mStamp.sr {t i n r0 : Nat} (ht : mStamp α t) (hr0 : r0 = 41 ∨ r0 = 45 ∨ r0 = 48 ∨ r0 = 50) (hn : n ≤ t) : mStamp (sI α r0 i (nI n)) t := by
  refine ⟨ht.1, by rw [sI_ne (by omega)]; exact ht.2.1, by rw [sI_ne (by omega)]; exact ht.2.2.1, fun r hr j => ?_⟩
  rw [hI_sI]
  by_cases e : r = r0 ∧ j = i
  · rw [if_pos e]; exact ⟨n, hn, rfl⟩
  · rw [if_neg e]; exact ht.2.2.2 r hr j
/-- MRel apart from the stamps -/
theorem MRel.st {F : Nat → Prop} {t : Nat} (hr : MRel A α) (hf : frI F α β) (hF : ∀ k ∈ [34, 35, 36, 51], ¬ F k) (ht : mStamp β t) (htb : t ≤ A.2.2.2) : MRel A β := by
  obtain ⟨hm, hb, hrow, himg, htr, -⟩ := hr
  have e : ∀ k ∈ [34, 35, 36, 51], hI β k = hI α k := fun k hk => (hf.2.2.2 k (hF k hk)).1
  refine ⟨hf.mw hm, hb, by rw [e 35 (by decide)]; exact hrow, ?_, by rw [e 34 (by decide), e 51 (by decide)]; exact htr, t, htb, ht⟩
  show (match A.2.1 with
      | none => hI β 34 3 = 0
      | some q => hI β 34 3 = 1 ∧ SB q.1 ∧ mRow (hI β 36) q.1 q.2)
  rw [e 34 (by decide), e 36 (by decide)]
  exact himg
def zcx (q s k : Nat) : Nat := 36 * (16 * s + zla q) + 6 * zl q s + 3 * zg q k + k
theorem mLk.s39 {t D R q s k b : Nat} (h : mLk A t D R α) (hq : q < 5832) (hs : s < 3) (hk : k < 3) (hg : zg q k < 2) (hb : b < 2) (hv : b = 1 ↔ zcn A.1 (D + R) s (zla q) (zl q s) (zg q k) k = true) : mLk A t D R (sI α 39 (zcx q s k) (nI (2 * t + b))) := by
  obtain ⟨hr, ha, hc, hbm⟩ := h
  have hla := zla_le hq
  have hl := zl_le (s := s) hq
  have hst := ha.1.s39 (i := zcx q s k) (n := 2 * t + b) (by omega)
  have ht := ha.1.1
  refine ⟨hr.st (F := fun k => k = 39) (frI.sI rfl) (by decide) hst (hr.tb ha.1), ⟨hst, by rw [sI_ne (by decide)]; exact ha.2.1, by rw [sI_ne (by decide)]; exact ha.2.2⟩, ?_, fun q' hq' e => ?_⟩
  · intro s' l r g k' b' h1 h2 h3 h4 h5 h6 e
    rw [hI_sI] at e
    by_cases hx : 36 * (16 * s' + l) + 6 * r + 3 * g + k' = zcx q s k
    · rw [if_pos ⟨rfl, hx⟩] at e
      have eb : b = b' := by
        have := (nI_eq (by omega) (by omega)).mp e
        omega
      unfold zcx at hx
      have x1 : k' = k ∧ g = zg q k ∧ r = zl q s ∧ l = zla q ∧ s' = s := by omega
      obtain ⟨rfl, rfl, rfl, rfl, rfl⟩ := x1
      rw [← eb]
      exact hv
    · rw [if_neg (fun z => hx z.2)] at e
      exact hc s' l r g k' b' h1 h2 h3 h4 h5 h6 e
  · rw [sI_ne (by decide)] at e
    exact hbm q' hq' e
theorem mLk.fr {F : Nat → Prop} {t D R : Nat} (h : mLk A t D R α) (hf : frI F α β) (hF : ∀ k ∈ [34, 35, 36, 39, 40, 41, 45, 48, 50, 51], ¬ F k) : mLk A t D R β := by
  have e : ∀ k ∈ [34, 35, 36, 39, 40, 41, 45, 48, 50, 51], hI β k = hI α k ∧ hJ β k = hJ α k := fun k hk => hf.2.2.2 k (hF k hk)
  obtain ⟨hr, ha, hc, hbm⟩ := h
  refine ⟨hr.fr hf (fun k hk => hF k (by simp at hk ⊢; omega)), ⟨⟨ha.1.1, by rw [(e 34 (by decide)).1]; exact ha.1.2.1, by rw [(e 39 (by decide)).1]; exact ha.1.2.2.1, fun r hr => by rw [(e r (by rcases hr with rfl | rfl | rfl | rfl <;> decide)).1]; exact ha.1.2.2.2 r hr⟩, by rw [(e 34 (by decide)).1]; exact ha.2.1, by rw [(e 34 (by decide)).1]; exact ha.2.2⟩, ?_, ?_⟩
  · unfold mCM; rw [(e 39 (by decide)).1]; exact hc
  · unfold mBM; rw [(e 41 (by decide)).1, (e 40 (by decide)).2]; exact hbm
theorem c_can {q s k t D R : Nat} (hw : mLk A t D R α) (hq : q < 5832) (hs : s < 3) (hk : k < 3) (hT : zla q + 1 ≤ D + R) (hT2 : D + R < 500) (h : ∀ β, mLk A t D R β → frI (fun k => k = 37 ∨ k = 38 ∨ k = 39) α β → post (some (.int (b2i (zcan (zcn A.1 (D + R)) q s k)))) β) : ZK G (d + 4) mX12_can [.ref (G.1 + 34), .int (nI q), .int (nI s), .int (nI k)] α post := by
  have hm := hw.1.mw
  have hgl := zg_le (q := q) (k := k)
  have hla := zla_le hq
  have hl := zl_le (s := s) hq
  have ht := hw.2.1.1.1
  have ex : 36 * (16 * nI s + nI (zla q)) + 6 * nI (zl q s) + 3 * nI (zg q k) + nI k = nI (zcx q s k) := by
    rw [show (36 : Int32) = nI 36 from rfl, show (16 : Int32) = nI 16 from rfl, show (6 : Int32) = nI 6 from rfl, show (3 : Int32) = nI 3 from rfl, pk_mul, nI_add, pk_mul, pk_mul, nI_add, pk_mul, nI_add, nI_add]; rfl
  obtain ⟨v, hv1, hv2⟩ := hw.2.1.1.2.2.1 (zcx q s k)
  have ev : nI v / 2 = nI (v / 2) := nI_div (b := 2) (by omega) (by omega) (by omega)
  refine ZK.of (n := 1) (by decide) (Nat.le_of_ble_eq_true rfl) rfl ?_
  by_cases h2 : zg q k = 2
  · have ez : zcan (zcn A.1 (D + R)) q s k = false := if_pos h2
    rw [ez] at h
    refine Z_iload_n dX12_can_0 rfl rfl ?_
    refine Z_iload_n dX12_can_1 rfl rfl ?_
    refine Z_S2z dX12_can_2 to_X12_stageOf lk_X12_182 sc_X12_stageOf (Nat.le_of_ble_eq_true rfl) ⟨rfl, rfl⟩ ⟨by decide, by decide⟩ ?_
    refine c_stageOf hq hk ?_
    rw [h2]
    refine Z_iconst (v := 2) dX12_can_5 (by decide) ?_
    refine Z_icmp_ne (tgt := 11) dX12_can_6 (by decide) (fun h6 => ?_) (fun h6 => ?_)
    · skip
      exact absurd rfl h6
    · skip
      refine Z_iconst (v := 0) dX12_can_9 (by decide) ?_
      refine Z_iret dX12_can_10 rfl rfl ⟨by decide, by decide⟩ ?_
      exact h α hw frI.rf
  · have ez : zcan (zcn A.1 (D + R)) q s k = zcn A.1 (D + R) s (zla q) (zl q s) (zg q k) k := if_neg h2
    have hx : zcx q s k < 1728 := by unfold zcx; omega
    have tail : ∀ (b : Nat) (γ : AH), b < 2 → mLk A t D R γ → frI (fun k => k = 37 ∨ k = 38 ∨ k = 39) α γ → hI γ 39 (zcx q s k) = nI (2 * t + b) → (b = 1 ↔ zcn A.1 (D + R) s (zla q) (zl q s) (zg q k) k = true) → Z G mX12_can (d + 4) 89 [some (.ref (G.1 + 34)), some (.int (nI q)), some (.int (nI s)), some (.int (nI k)), some (.int (nI (zcx q s k)))] [] γ (0, 0) post := by
      intro b γ hb hw1 hf1 e hv
      have hm := hw1.1.mw
      have e2 : nI (2 * t + b) - nI (2 * t + b) / 2 * 2 = nI ((2 * t + b) % 2) := pk_rem (d := 2) (by omega) (by omega) (by omega)
      have e3 : (2 * t + b) % 2 = b := by omega
      rw [e3] at e2
      have := h γ hw1 hf1
      rw [ez] at this
      refine Z_aload_n dX12_can_89 rfl rfl ?_
      refine Z_getR dX12_can_90 cl_12 fl_X12_25_12 rfl (mw_i34 hm) (mw_p34_13 hm) ?_
      refine Z_iload dX12_can_93 rfl ?_
      refine Z_ialdv dX12_can_95 (mw_i39 hm) (zix_nI hx (by decide)) e ?_
      refine Z_iconst (v := 2) dX12_can_96 (by decide) ?_
      refine Z_irem dX12_can_97 (by decide) ?_
      rw [e2]
      refine Z_iconst (v := 1) dX12_can_98 (by decide) ?_
      refine Z_icmp_ne (tgt := 106) dX12_can_99 (by decide) (fun h99 => ?_) (fun h99 => ?_)
      · skip
        refine Z_iconst (v := 0) dX12_can_106 (by decide) ?_
        refine Z_iret dX12_can_107 rfl rfl ⟨by decide, by decide⟩ ?_
        first
          | (rw [show zcn A.1 (D + R) s (zla q) (zl q s) (zg q k) k = true from hv.mp ((nI_eq (a := b) (b := 1) (by omega) (by omega)).mp h99)] at this; exact this)
          | (rw [show zcn A.1 (D + R) s (zla q) (zl q s) (zg q k) k = false from Bool.eq_false_iff.mpr (fun z => h99 (by rw [hv.mpr z]; rfl))] at this; exact this)
      · skip
        refine Z_iconst (v := 1) dX12_can_102 (by decide) ?_
        refine Z_goto (tgt := 107) dX12_can_103 (by decide) ?_
        refine Z_iret dX12_can_107 rfl rfl ⟨by decide, by decide⟩ ?_
        first
          | (rw [show zcn A.1 (D + R) s (zla q) (zl q s) (zg q k) k = true from hv.mp ((nI_eq (a := b) (b := 1) (by omega) (by omega)).mp h99)] at this; exact this)
          | (rw [show zcn A.1 (D + R) s (zla q) (zl q s) (zg q k) k = false from Bool.eq_false_iff.mpr (fun z => h99 (by rw [hv.mpr z]; rfl))] at this; exact this)
    refine Z_iload_n dX12_can_0 rfl rfl ?_
    refine Z_iload_n dX12_can_1 rfl rfl ?_
    refine Z_S2z dX12_can_2 to_X12_stageOf lk_X12_182 sc_X12_stageOf (Nat.le_of_ble_eq_true rfl) ⟨rfl, rfl⟩ ⟨by decide, by decide⟩ ?_
    refine c_stageOf hq hk ?_
    refine Z_iconst (v := 2) dX12_can_5 (by decide) ?_
    refine Z_icmp_ne (tgt := 11) dX12_can_6 (by decide) (fun h6 => ?_) (fun h6 => ?_)
    · skip
      refine Z_bipush (v := 36) dX12_can_11 (by decide) ?_
      refine Z_bipush (v := 16) dX12_can_13 (by decide) ?_
      refine Z_iload_n dX12_can_15 rfl rfl ?_
      refine Z_imul dX12_can_16 ?_
      refine Z_iload_n dX12_can_17 rfl rfl ?_
      refine Z_S1z dX12_can_18 to_X12_leftInAll lk_X12_185 sc_X12_leftInAll (Nat.le_of_ble_eq_true rfl) ⟨rfl, rfl⟩ ⟨by decide, by decide⟩ ?_
      refine c_leftInAll hq ?_
      refine Z_iadd dX12_can_21 ?_
      refine Z_imul dX12_can_22 ?_
      refine Z_bipush (v := 6) dX12_can_23 (by decide) ?_
      refine Z_iload_n dX12_can_25 rfl rfl ?_
      refine Z_iload_n dX12_can_26 rfl rfl ?_
      refine Z_S2z dX12_can_27 to_X12_left lk_X12_172 sc_X12_left (Nat.le_of_ble_eq_true rfl) ⟨rfl, rfl⟩ ⟨by decide, by decide⟩ ?_
      refine c_left hq hs ?_
      refine Z_imul dX12_can_30 ?_
      refine Z_iadd dX12_can_31 ?_
      refine Z_iconst (v := 3) dX12_can_32 (by decide) ?_
      refine Z_iload_n dX12_can_33 rfl rfl ?_
      refine Z_iload_n dX12_can_34 rfl rfl ?_
      refine Z_S2z dX12_can_35 to_X12_stageOf lk_X12_182 sc_X12_stageOf (Nat.le_of_ble_eq_true rfl) ⟨rfl, rfl⟩ ⟨by decide, by decide⟩ ?_
      refine c_stageOf hq hk ?_
      refine Z_imul dX12_can_38 ?_
      refine Z_iadd dX12_can_39 ?_
      refine Z_iload_n dX12_can_40 rfl rfl ?_
      refine Z_iadd dX12_can_41 ?_
      rw [ex]
      refine Z_istore (L' := [_, _, _, _, _]) dX12_can_42 (by decide) rfl rfl ?_
      refine Z_aload_n dX12_can_44 rfl rfl ?_
      refine Z_getR dX12_can_45 cl_12 fl_X12_25_12 rfl (mw_i34 hm) (mw_p34_13 hm) ?_
      refine Z_iload dX12_can_48 rfl ?_
      refine Z_ialdv dX12_can_50 (mw_i39 hm) (zix_nI hx (by decide)) hv2 ?_
      refine Z_iconst (v := 2) dX12_can_51 (by decide) ?_
      refine Z_idiv dX12_can_52 (by decide) ?_
      rw [ev]
      refine Z_aload_n dX12_can_53 rfl rfl ?_
      refine Z_getIv dX12_can_54 cl_12 fl_X12_188_12 rfl (mw_i34 hm) hw.2.1.1.2.1 ?_
      refine Z_icmp_eq (tgt := 89) dX12_can_57 (by decide) (fun h57 => ?_) (fun h57 => ?_)
      · skip
        first
          | (have e : v / 2 = t := (nI_eq (by omega) (by omega)).mp h57
             exact tail (v - 2 * t) α (by omega) hw frI.rf (by rw [hv2]; congr 1; omega) (hw.2.2.1 s (zla q) (zl q s) (zg q k) k (v - 2 * t) hs (by omega) (by omega) (by omega) hk (by omega) (by show hI α 39 (zcx q s k) = _; rw [hv2]; congr 1; omega)))
          | (have e : zcn A.1 (D + R) s (zla q) (zl q s) (zg q k) k = false := b2i_eq.mp h79
             rw [show (2 : Int32) * nI t + 0 = nI (2 * t + 0) from by rw [show (2 : Int32) = nI 2 from rfl, pk_mul]; exact nI_add _ 0]
             exact tail 0 _ (by omega) (hw1.s39 hq hs hk (by omega) (by omega) (by rw [e]; decide)) ((hf1.mono (fun k hk => by omega)).tr (frI.sI (by omega))) (by rw [hI_sI, if_pos ⟨rfl, rfl⟩]) (by rw [e]; decide))
          | (have e : zcn A.1 (D + R) s (zla q) (zl q s) (zg q k) k = true := b2i_ne.mp h79
             rw [show (2 : Int32) * nI t + 1 = nI (2 * t + 1) from by rw [show (2 : Int32) = nI 2 from rfl, pk_mul]; exact nI_add _ 1]
             exact tail 1 _ (by omega) (hw1.s39 hq hs hk (by omega) (by omega) (by rw [e]; decide)) ((hf1.mono (fun k hk => by omega)).tr (frI.sI (by omega))) (by rw [hI_sI, if_pos ⟨rfl, rfl⟩]) (by rw [e]; decide))
      · skip
        refine Z_aload_n dX12_can_60 rfl rfl ?_
        refine Z_getR dX12_can_61 cl_12 fl_X12_25_12 rfl (mw_i34 hm) (mw_p34_13 hm) ?_
        refine Z_iload dX12_can_64 rfl ?_
        refine Z_iconst (v := 2) dX12_can_66 (by decide) ?_
        refine Z_aload_n dX12_can_67 rfl rfl ?_
        refine Z_getIv dX12_can_68 cl_12 fl_X12_188_12 rfl (mw_i34 hm) hw.2.1.1.2.1 ?_
        refine Z_imul dX12_can_71 ?_
        refine Z_aload_n dX12_can_72 rfl rfl ?_
        refine Z_iload_n dX12_can_73 rfl rfl ?_
        refine Z_iload_n dX12_can_74 rfl rfl ?_
        refine Z_iload_n dX12_can_75 rfl rfl ?_
        refine Z_V3z (ci := 12) dX12_can_76 to_X12_canOn lk_X12_191 iv_X12_canOn ⟨rfl, rfl⟩ (mw_i34 hm) (Nat.le_of_ble_eq_true rfl) ⟨rfl, rfl⟩ ⟨by decide, by decide⟩ ?_
        refine c_canOn hw.1 hw.2.1 hq hs hk hT hT2 (fun β hr1 hf1 => ?_)
        have hm := hr1.mw
        have hw1 : mLk A t D R β := hw.fr hf1 (by decide)
        rw [ez]
        refine Z_if_eq (tgt := 86) dX12_can_79 (by decide) (fun h79 => ?_) (fun h79 => ?_)
        · skip
          refine Z_iconst (v := 0) dX12_can_86 (by decide) ?_
          refine Z_iadd dX12_can_87 ?_
          refine Z_iast dX12_can_88 (mw_i39 hm) (zix_nI hx (by decide)) ?_
          first
            | (have e : v / 2 = t := (nI_eq (by omega) (by omega)).mp h57
               exact tail (v - 2 * t) α (by omega) hw frI.rf (by rw [hv2]; congr 1; omega) (hw.2.2.1 s (zla q) (zl q s) (zg q k) k (v - 2 * t) hs (by omega) (by omega) (by omega) hk (by omega) (by show hI α 39 (zcx q s k) = _; rw [hv2]; congr 1; omega)))
            | (have e : zcn A.1 (D + R) s (zla q) (zl q s) (zg q k) k = false := b2i_eq.mp h79
               rw [show (2 : Int32) * nI t + 0 = nI (2 * t + 0) from by rw [show (2 : Int32) = nI 2 from rfl, pk_mul]; exact nI_add _ 0]
               exact tail 0 _ (by omega) (hw1.s39 hq hs hk (by omega) (by omega) (by rw [e]; decide)) ((hf1.mono (fun k hk => by omega)).tr (frI.sI (by omega))) (by rw [hI_sI, if_pos ⟨rfl, rfl⟩]) (by rw [e]; decide))
            | (have e : zcn A.1 (D + R) s (zla q) (zl q s) (zg q k) k = true := b2i_ne.mp h79
               rw [show (2 : Int32) * nI t + 1 = nI (2 * t + 1) from by rw [show (2 : Int32) = nI 2 from rfl, pk_mul]; exact nI_add _ 1]
               exact tail 1 _ (by omega) (hw1.s39 hq hs hk (by omega) (by omega) (by rw [e]; decide)) ((hf1.mono (fun k hk => by omega)).tr (frI.sI (by omega))) (by rw [hI_sI, if_pos ⟨rfl, rfl⟩]) (by rw [e]; decide))
        · skip
          refine Z_iconst (v := 1) dX12_can_82 (by decide) ?_
          refine Z_goto (tgt := 87) dX12_can_83 (by decide) ?_
          refine Z_iadd dX12_can_87 ?_
          refine Z_iast dX12_can_88 (mw_i39 hm) (zix_nI hx (by decide)) ?_
          first
            | (have e : v / 2 = t := (nI_eq (by omega) (by omega)).mp h57
               exact tail (v - 2 * t) α (by omega) hw frI.rf (by rw [hv2]; congr 1; omega) (hw.2.2.1 s (zla q) (zl q s) (zg q k) k (v - 2 * t) hs (by omega) (by omega) (by omega) hk (by omega) (by show hI α 39 (zcx q s k) = _; rw [hv2]; congr 1; omega)))
            | (have e : zcn A.1 (D + R) s (zla q) (zl q s) (zg q k) k = false := b2i_eq.mp h79
               rw [show (2 : Int32) * nI t + 0 = nI (2 * t + 0) from by rw [show (2 : Int32) = nI 2 from rfl, pk_mul]; exact nI_add _ 0]
               exact tail 0 _ (by omega) (hw1.s39 hq hs hk (by omega) (by omega) (by rw [e]; decide)) ((hf1.mono (fun k hk => by omega)).tr (frI.sI (by omega))) (by rw [hI_sI, if_pos ⟨rfl, rfl⟩]) (by rw [e]; decide))
            | (have e : zcn A.1 (D + R) s (zla q) (zl q s) (zg q k) k = true := b2i_ne.mp h79
               rw [show (2 : Int32) * nI t + 1 = nI (2 * t + 1) from by rw [show (2 : Int32) = nI 2 from rfl, pk_mul]; exact nI_add _ 1]
               exact tail 1 _ (by omega) (hw1.s39 hq hs hk (by omega) (by omega) (by rw [e]; decide)) ((hf1.mono (fun k hk => by omega)).tr (frI.sI (by omega))) (by rw [hI_sI, if_pos ⟨rfl, rfl⟩]) (by rw [e]; decide))
    · skip
      exact absurd ((nI_eq (a := zg q k) (b := 2) (by omega) (by omega)).mp h6) h2
end MC2
