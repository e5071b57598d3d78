section MDr
variable {G : ZG} {d : Nat} {α β : AH} {post : Option Value → AH → Prop} {A : ZA} {t D R : Nat}
def zdrawn (A : ZA) (s k : Nat) : ZA := if k = 3 then zset (zset A (6 + s) (A.1.1 (6 + s) - 1)) 5 (A.1.1 5 + 1) else zset (zset (zset A (6 + s) (A.1.1 (6 + s) - 1)) 5 (A.1.1 5 + 1)) (9 + k) (A.1.1 (9 + k) + 1)
def sp_draw (A : ZA) (w x : Int32) : Int32 × ZA :=
  if (0 ≤ w ∧ w ≤ nI (A.1.1 0) - 1) ∧ (0 ≤ x ∧ x ≤ 2) then
    (if A.1.1 (6 + x.toNatClampNeg) = 0 ∨ A.1.1 5 = 99 then (-1002, A)
     else (nI (zpays (sp_pay A.1.1) (zd (zq A.1.1) x.toNatClampNeg) (zdoN A.1 w.toNatClampNeg x.toNatClampNeg)), zdrawn A x.toNatClampNeg (zdoN A.1 w.toNatClampNeg x.toNatClampNeg)))
  else (-1001, A)
theorem c_mdraw {w x : Int32} (hr : MRel A α) (hb : A.2.2.2 + 3 < 1000) (h : ∀ β, MRel (zup (sp_draw A w x).2 2) β → frI mId α β → post (some (.int (sp_draw A w x).1)) β) : ZK G (d + 40) mX12_draw [.ref (G.1 + 34), .int w, .int x] α post := by
  have hm := hr.mw
  have v0 := hr.at (i := 0) (by omega) (by omega)
  have b0 : A.1.1 0 ≤ 8 := hr.2.1.at (by omega) rfl
  have b5 : A.1.1 5 ≤ 99 := hr.2.1.at (by omega) rfl
  have v5 := hr.at (i := 5) (by omega) (by omega)
  have hq := zq_ok hr.2.1
  refine ZK.of (n := 3) (by decide) (Nat.le_of_ble_eq_true rfl) rfl ?_
  refine Z_aload_n dX12_draw_0 rfl rfl ?_
  refine Z_iload_n dX12_draw_1 rfl rfl ?_
  refine Z_V1z (ci := 12) dX12_draw_2 to_X12_isWorker lk_X12_227 iv_X12_isWorker ⟨rfl, rfl⟩ (mw_i34 hm) (Nat.le_of_ble_eq_true rfl) ⟨rfl, rfl⟩ ⟨by decide, by decide⟩ ?_
  refine c_isWorker hm ?_
  rw [v0]
  refine Z_if_eq (tgt := 15) dX12_draw_5 (by decide) (fun h5 => ?_) (fun h5 => ?_)
  · skip
    refine Z_sipush (v := -1001) dX12_draw_15 (by decide) ?_
    refine Z_iret dX12_draw_18 rfl rfl ⟨by decide, by decide⟩ ?_
    have e : sp_draw A w x = (-1001, A) := if_neg (fun z => by first | exact dec_f h5 z.1 | exact dec_f h12 z.2)
    rw [e] at h; exact h α hr.up frI.rf
  · skip
    refine Z_iload_n dX12_draw_8 rfl rfl ?_
    refine Z_S1z dX12_draw_9 to_X12_isSort lk_X12_73 sc_X12_isSort (Nat.le_of_ble_eq_true rfl) ⟨rfl, rfl⟩ ⟨by decide, by decide⟩ ?_
    refine c_isSort ?_
    refine Z_if_ne (tgt := 19) dX12_draw_12 (by decide) (fun h12 => ?_) (fun h12 => ?_)
    · skip
      obtain ⟨j, hj, rfl⟩ := idx_lt (by omega) (dec_t h5)
      obtain ⟨s, hs, rfl⟩ := okS.nI (dec_t h12)
      have ej : (nI j).toNatClampNeg = j := nI_clamp (by omega)
      have es : (nI s).toNatClampNeg = s := nI_clamp (by omega)
      have b := zsb hr.2.1 hs
      have e : sp_draw A (nI j) (nI s) = (if A.1.1 (6 + s) = 0 ∨ A.1.1 5 = 99 then (-1002, A) else (nI (zpays (sp_pay A.1.1) (zd (zq A.1.1) s) (zdoN A.1 j s)), zdrawn A s (zdoN A.1 j s))) := by
        unfold sp_draw
        rw [if_pos ⟨dec_t h5, dec_t h12⟩, ej, es]
      rw [e] at h
      refine Z_aload_n dX12_draw_19 rfl rfl ?_
      refine Z_getR dX12_draw_20 cl_12 fl_X12_9_12 rfl (mw_i34 hm) (mw_p34_1 hm) ?_
      refine Z_bipush (v := 6) dX12_draw_23 (by decide) ?_
      refine Z_iload_n dX12_draw_25 rfl rfl ?_
      refine Z_iadd dX12_draw_26 ?_
      refine Z_ialdv dX12_draw_27 (mw_i35 hm) (zix_e (m := 6 + s) (nI_add 6 s) (by omega) (by decide)) (hr.at (by omega) (by omega)) ?_
      refine Z_if_eq (tgt := 42) dX12_draw_28 (by decide) (fun h28 => ?_) (fun h28 => ?_)
      · skip
        refine Z_sipush (v := -1002) dX12_draw_42 (by decide) ?_
        refine Z_iret dX12_draw_45 rfl rfl ⟨by decide, by decide⟩ ?_
        have hc : A.1.1 (6 + s) = 0 ∨ A.1.1 5 = 99 := by
          first
          | exact Or.inl ((nI_eq (b := 0) (by omega) (by omega)).mp h28)
          | exact Or.inr ((nI_eq (b := 99) (by omega) (by omega)).mp h39)
        rw [if_pos hc] at h; exact h α hr.up frI.rf
      · skip
        refine Z_aload_n dX12_draw_31 rfl rfl ?_
        refine Z_getR dX12_draw_32 cl_12 fl_X12_9_12 rfl (mw_i34 hm) (mw_p34_1 hm) ?_
        refine Z_iconst (v := 5) dX12_draw_35 (by decide) ?_
        refine Z_ialdv dX12_draw_36 (mw_i35 hm) (zix_k (m := 5) (by decide)) v5 ?_
        refine Z_bipush (v := 99) dX12_draw_37 (by decide) ?_
        refine Z_icmp_ne (tgt := 46) dX12_draw_39 (by decide) (fun h39 => ?_) (fun h39 => ?_)
        · skip
          have n0 : ¬ A.1.1 (6 + s) = 0 := fun z => h28 (by rw [z]; rfl)
          have n9 : ¬ A.1.1 5 = 99 := fun z => h39 (by rw [z]; rfl)
          rw [if_neg (fun z => z.elim n0 n9)] at h
          have hp0 : 0 < zl (zq A.1.1) s := by rw [hq.2.2.1 s (by omega)]; omega
          have ok := zd_ok hq.1 (show s < 3 by omega) hp0
          have hla := hq.2.1
          refine Z_aload_n dX12_draw_46 rfl rfl ?_
          refine Z_V0z (ci := 12) dX12_draw_47 to_X12_looks lk_X12_246 iv_X12_looks ⟨rfl, rfl⟩ (mw_i34 hm) (Nat.le_of_ble_eq_true rfl) ⟨rfl, rfl⟩ ⟨by decide, by decide⟩ ?_
          refine c_look hr hb (fun β t hw hf _ _ _ => ?_)
          have hm := hw.1.mw
          refine Z_aload_n dX12_draw_50 rfl rfl ?_
          refine Z_V0z (ci := 12) dX12_draw_51 to_X12_stateNow lk_X12_249 iv_X12_stateNow ⟨rfl, rfl⟩ (mw_i34 hm) (Nat.le_of_ble_eq_true rfl) ⟨rfl, rfl⟩ ⟨by decide, by decide⟩ ?_
          refine c_stateNow hw.1 ?_
          rw [show zq (zup A 1).1.1 = zq A.1.1 from rfl]
          refine Z_iload_n dX12_draw_54 rfl rfl ?_
          refine Z_S2z dX12_draw_55 to_X12_drawn lk_X12_218 sc_X12_drawn (Nat.le_of_ble_eq_true rfl) ⟨rfl, rfl⟩ ⟨by decide, by decide⟩ ?_
          refine c_drawn hq.1 (by omega) ok.1 ?_
          refine Z_istore_n (L' := [_, _, _, _, _, _]) dX12_draw_58 rfl (by decide) rfl rfl ?_
          refine Z_aload_n dX12_draw_59 rfl rfl ?_
          refine Z_iload_n dX12_draw_60 rfl rfl ?_
          refine Z_iload_n dX12_draw_61 rfl rfl ?_
          refine Z_iload_n dX12_draw_62 rfl rfl ?_
          refine Z_V3z (ci := 12) dX12_draw_63 to_X12_doesOn lk_X12_252 iv_X12_doesOn ⟨rfl, rfl⟩ (mw_i34 hm) (Nat.le_of_ble_eq_true rfl) ⟨rfl, rfl⟩ ⟨by decide, by decide⟩ ?_
          refine c_doesOn hw (by show A.1.1 5 + zrest A.1.1 < 500; omega) ok.2.1 (by omega) (by show _ ≤ A.1.1 5 + zrest A.1.1; omega) (by omega) (fun γ hw1 hf1 => ?_)
          have hm := hw1.1.mw
          have hdo := zdoes_in (cn := zcn A.1 (A.1.1 5 + zrest A.1.1)) (pay := sp_pay A.1.1) (kd := A.1.1 (112 + j)) (v := A.1.1 (120 + j)) (tl := A.1.1 (128 + 3 * j + s)) (q := zd (zq A.1.1) s) (s := s)
          rw [show zdoes (zcn (zup A 1).1 (A.1.1 5 + zrest A.1.1)) (sp_pay (zup A 1).1.1) ((zup A 1).1.1 (112 + j)) ((zup A 1).1.1 (120 + j)) ((zup A 1).1.1 (128 + 3 * j + s)) (zd (zq A.1.1) s) s = zdoN A.1 j s from rfl]
          rw [show zdoes (zcn A.1 (A.1.1 5 + zrest A.1.1)) (sp_pay A.1.1) (A.1.1 (112 + j)) (A.1.1 (120 + j)) (A.1.1 (128 + 3 * j + s)) (zd (zq A.1.1) s) s = zdoN A.1 j s from rfl] at hdo
          generalize zdoN A.1 j s = k at hdo h ⊢
          have hk3 : k ≤ 3 := by omega
          have gb := hw1.1.at (i := 6 + s) (by omega) (by omega)
          have g5 := hw1.1.at (i := 5) (by omega) (by omega)
          have r1 := hw1.1.set (i := 6 + s) (n := A.1.1 (6 + s) - 1) (by omega) (by omega) (by omega) (hw1.1.2.1.set (by rw [zbd_bag (by omega)]; omega) (by omega) (by omega))
          have r2 := r1.set (i := 5) (n := A.1.1 5 + 1) (by omega) (by omega) (by omega) (r1.2.1.set (show A.1.1 5 + 1 ≤ 99 by omega) (by omega) (by omega))
          have em1 : nI (A.1.1 (6 + s)) - 1 = nI (A.1.1 (6 + s) - 1) := pk_sub (b := 1) (by omega)
          refine Z_istore (L' := [_, _, _, _, _, _]) dX12_draw_66 (by decide) rfl rfl ?_
          refine Z_aload_n dX12_draw_68 rfl rfl ?_
          refine Z_iload_n dX12_draw_69 rfl rfl ?_
          refine Z_iload dX12_draw_70 rfl ?_
          refine Z_V2z (ci := 12) dX12_draw_72 to_X12_pays lk_X12_212 iv_X12_pays ⟨rfl, rfl⟩ (mw_i34 hm) (Nat.le_of_ble_eq_true rfl) ⟨rfl, rfl⟩ ⟨by decide, by decide⟩ ?_
          refine c_pays ok.2.1 hk3 hw1.1 ?_
          refine Z_istore (L' := [_, _, _, _, _, _]) dX12_draw_75 (by decide) rfl rfl ?_
          refine Z_aload_n dX12_draw_77 rfl rfl ?_
          refine Z_getR dX12_draw_78 cl_12 fl_X12_9_12 rfl (mw_i34 hm) (mw_p34_1 hm) ?_
          refine Z_bipush (v := 6) dX12_draw_81 (by decide) ?_
          refine Z_iload_n dX12_draw_83 rfl rfl ?_
          refine Z_iadd dX12_draw_84 ?_
          refine Z_dup2 dX12_draw_85 rfl rfl ?_
          refine Z_ialdv dX12_draw_86 (mw_i35 hm) (zix_e (m := 6 + s) (nI_add 6 s) (by omega) (by decide)) gb ?_
          refine Z_iconst (v := 1) dX12_draw_87 (by decide) ?_
          refine Z_isub dX12_draw_88 ?_
          rw [show (zup A 1).1.1 (6 + s) = A.1.1 (6 + s) from rfl, em1]
          refine Z_iast dX12_draw_89 (mw_i35 hm) (zix_e (m := 6 + s) (nI_add 6 s) (by omega) (by decide)) ?_
          refine Z_aload_n dX12_draw_90 rfl rfl ?_
          refine Z_getR dX12_draw_91 cl_12 fl_X12_9_12 rfl (mw_i34 hm) (mw_p34_1 hm) ?_
          refine Z_iconst (v := 5) dX12_draw_94 (by decide) ?_
          refine Z_dup2 dX12_draw_95 rfl rfl ?_
          refine Z_ialdv dX12_draw_96 (mw_i35 hm) (zix_k (m := 5) (by decide)) (show hI (sI γ 35 (6 + s) (nI (A.1.1 (6 + s) - 1))) 35 5 = nI (A.1.1 5) from (by rw [hI_sI, if_neg (by omega)]; exact g5)) ?_
          refine Z_iconst (v := 1) dX12_draw_97 (by decide) ?_
          refine Z_iadd dX12_draw_98 ?_
          rw [nI_1]
          refine Z_iast dX12_draw_99 (mw_i35 hm) (zix_k (m := 5) (by decide)) ?_
          refine Z_iload dX12_draw_100 rfl ?_
          refine Z_iconst (v := -1) dX12_draw_102 (by decide) ?_
          refine Z_icmp_eq (tgt := 120) dX12_draw_103 (by decide) (fun h103 => ?_) (fun h103 => ?_)
          · skip
            refine Z_iload dX12_draw_120 rfl ?_
            refine Z_iret dX12_draw_122 rfl rfl ⟨by decide, by decide⟩ ?_
            first
              | (have e3 : k = 3 := by
                   by_cases z : k = 3
                   · exact z
                   · exact absurd h103 (by rw [wI_nI (w := k) (by omega)]; exact nI_nm1 (by omega))
                 subst e3
                 exact h _ (r2.up' (A := zset (zset A (6 + s) (A.1.1 (6 + s) - 1)) 5 (A.1.1 5 + 1)) (n := 1) (by omega)) (((hf.tr (hf1.mono fb_mid)).tr (frI.sI mid35)).tr (frI.sI mid35)))
              | (have e3 : ¬ k = 3 := fun z => h103 (by rw [z]; rfl)
                 rw [show zdrawn A s k = zset (zset (zset A (6 + s) (A.1.1 (6 + s) - 1)) 5 (A.1.1 5 + 1)) (9 + k) (A.1.1 (9 + k) + 1) from if_neg e3] at h
                 exact h _ ((r2.set (i := 9 + k) (n := A.1.1 (9 + k) + 1) (by omega) (by omega) (by omega) (r2.2.1.set (by rw [zbd_stage (by omega)]; omega) (by omega) (by omega))).up' (A := zset (zset (zset A (6 + s) (A.1.1 (6 + s) - 1)) 5 (A.1.1 5 + 1)) (9 + k) (A.1.1 (9 + k) + 1)) (n := 1) (by omega)) ((((hf.tr (hf1.mono fb_mid)).tr (frI.sI mid35)).tr (frI.sI mid35)).tr (frI.sI mid35)))
          · skip
            have e3 : ¬ k = 3 := fun z => h103 (by rw [z]; rfl)
            have hk2 : k < 3 := by omega
            have hcan : zcan (zcn A.1 (A.1.1 5 + zrest A.1.1)) (zd (zq A.1.1) s) s k = true := hdo.elim (fun z => absurd z e3) (fun z => z.2)
            have hgk := zcan_g hcan
            rw [ok.2.2.2.2 k, hq.2.2.2 k hk2] at hgk
            have g9 : hI (sI (sI γ 35 (6 + s) (nI (A.1.1 (6 + s) - 1))) 35 5 (nI (A.1.1 5 + 1))) 35 (9 + k) = nI (A.1.1 (9 + k)) := by rw [hI_sI, if_neg (by omega), hI_sI, if_neg (by omega)]; exact hw1.1.at (by omega) (by omega)
            refine Z_aload_n dX12_draw_106 rfl rfl ?_
            refine Z_getR dX12_draw_107 cl_12 fl_X12_9_12 rfl (mw_i34 hm) (mw_p34_1 hm) ?_
            refine Z_bipush (v := 9) dX12_draw_110 (by decide) ?_
            refine Z_iload dX12_draw_112 rfl ?_
            refine Z_iadd dX12_draw_114 ?_
            refine Z_dup2 dX12_draw_115 rfl rfl ?_
            refine Z_ialdv dX12_draw_116 (mw_i35 hm) (zix_e (m := 9 + k) (by rw [wI_nI (w := k) (by omega)]; exact nI_add 9 k) (by omega) (by decide)) g9 ?_
            refine Z_iconst (v := 1) dX12_draw_117 (by decide) ?_
            refine Z_iadd dX12_draw_118 ?_
            rw [nI_1]
            refine Z_iast dX12_draw_119 (mw_i35 hm) (zix_e (m := 9 + k) (by rw [wI_nI (w := k) (by omega)]; exact nI_add 9 k) (by omega) (by decide)) ?_
            refine Z_iload dX12_draw_120 rfl ?_
            refine Z_iret dX12_draw_122 rfl rfl ⟨by decide, by decide⟩ ?_
            first
              | (have e3 : k = 3 := by
                   by_cases z : k = 3
                   · exact z
                   · exact absurd h103 (by rw [wI_nI (w := k) (by omega)]; exact nI_nm1 (by omega))
                 subst e3
                 exact h _ (r2.up' (A := zset (zset A (6 + s) (A.1.1 (6 + s) - 1)) 5 (A.1.1 5 + 1)) (n := 1) (by omega)) (((hf.tr (hf1.mono fb_mid)).tr (frI.sI mid35)).tr (frI.sI mid35)))
              | (have e3 : ¬ k = 3 := fun z => h103 (by rw [z]; rfl)
                 rw [show zdrawn A s k = zset (zset (zset A (6 + s) (A.1.1 (6 + s) - 1)) 5 (A.1.1 5 + 1)) (9 + k) (A.1.1 (9 + k) + 1) from if_neg e3] at h
                 exact h _ ((r2.set (i := 9 + k) (n := A.1.1 (9 + k) + 1) (by omega) (by omega) (by omega) (r2.2.1.set (by rw [zbd_stage (by omega)]; omega) (by omega) (by omega))).up' (A := zset (zset (zset A (6 + s) (A.1.1 (6 + s) - 1)) 5 (A.1.1 5 + 1)) (9 + k) (A.1.1 (9 + k) + 1)) (n := 1) (by omega)) ((((hf.tr (hf1.mono fb_mid)).tr (frI.sI mid35)).tr (frI.sI mid35)).tr (frI.sI mid35)))
        · skip
          refine Z_sipush (v := -1002) dX12_draw_42 (by decide) ?_
          refine Z_iret dX12_draw_45 rfl rfl ⟨by decide, by decide⟩ ?_
          have hc : A.1.1 (6 + s) = 0 ∨ A.1.1 5 = 99 := by
            first
            | exact Or.inl ((nI_eq (b := 0) (by omega) (by omega)).mp h28)
            | exact Or.inr ((nI_eq (b := 99) (by omega) (by omega)).mp h39)
          rw [if_pos hc] at h; exact h α hr.up frI.rf
    · skip
      refine Z_sipush (v := -1001) dX12_draw_15 (by decide) ?_
      refine Z_iret dX12_draw_18 rfl rfl ⟨by decide, by decide⟩ ?_
      have e : sp_draw A w x = (-1001, A) := if_neg (fun z => by first | exact dec_f h5 z.1 | exact dec_f h12 z.2)
      rw [e] at h; exact h α hr.up frI.rf
end MDr
