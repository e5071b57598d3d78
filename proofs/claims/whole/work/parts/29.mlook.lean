section ML1
variable {G : ZG} {d : Nat} {α β : AH} {post : Option Value → AH → Prop} {A : ZA} {t D R : Nat}
theorem MRel.up {n : Nat} (hr : MRel A α) : MRel (zup A n) α := by
  obtain ⟨hm, hb, hrow, himg, htr, t, htb, ht⟩ := hr
  exact ⟨hm, hb, hrow, himg, htr, t, Nat.le_trans htb (Nat.le_add_right _ _), ht⟩
theorem MRel.up' {n m : Nat} (hr : MRel (zup A n) α) (h : n ≤ m) : MRel (zup A m) α := by
  obtain ⟨hm, hb, hrow, himg, htr, t, htb, ht⟩ := hr
  exact ⟨hm, hb, hrow, himg, htr, t, Nat.le_trans htb (Nat.add_le_add_left h _), ht⟩
theorem mLk.look (hr : MRel A β) (ha : mAsk β (t + 1) D R) (ht : mStamp α t) (e : ∀ k, k ≠ 34 → hI β k = hI α k) : mLk A (t + 1) D R β := by
  have h1 := ha.1.1
  refine ⟨hr, ha, fun s l r g k b _ _ _ _ _ hb e2 => ?_, fun q _ e2 => ?_⟩
  · obtain ⟨v, hv1, hv2⟩ := ht.2.2.1 (36 * (16 * s + l) + 6 * r + 3 * g + k)
    rw [e 39 (by decide), hv2] at e2
    have := (nI_eq (by omega) (by omega)).mp e2
    omega
  · obtain ⟨v, hv1, hv2⟩ := ht.2.2.2 41 (Or.inl rfl) q
    rw [e 41 (by decide), hv2] at e2
    have := (nI_eq (by omega) (by omega)).mp e2
    omega
/-- nothing is stamped with the newest stamp in a memo r -/
def mFresh (α : AH) (t r : Nat) : Prop := ∀ q, ¬ hI α r q = nI t
/-- looks(), as the public methods use it -/
theorem c_look (hr : MRel A α) (hb : A.2.2.2 + 3 < 1000) (h : ∀ (β : AH) (t : Nat), mLk (zup A 1) t (A.1.1 5) (zrest A.1.1) β → frI mId α β → mFresh β t 45 → mFresh β t 48 → mFresh β t 50 → post none β) : ZK G (d + 3) mX12_looks [.ref (G.1 + 34)] α post := by
  obtain ⟨t, htb, ht⟩ := hr.2.2.2.2.2
  refine c_looks hr ht (by omega) (fun β r1 a1 f1 g1 g2 g3 => ?_)
  have fresh : ∀ r, r = 45 ∨ r = 48 ∨ r = 50 → mFresh β (t + 1) r := by
    intro r hr q e
    obtain ⟨v, hv1, hv2⟩ := ht.2.2.2 r (by omega) q
    rw [g1 r (by omega), hv2] at e
    have := (nI_eq (by omega) (by omega)).mp e
    omega
  exact h β (t + 1) (mLk.look r1 a1 ht g1) (f1.mono (fun k hk => by subst hk; exact mid34)) (fresh 45 (by omega)) (fresh 48 (by omega)) (fresh 50 (by omega))
theorem fb_mid : ∀ k, Fb k → mId k := fun k hk => by unfold Fb at hk; unfold mId; omega
def wF (w : Nat) : Int32 := if w = 3 then -5 else nI w
/-- the work that worker w does if a day of sort s is drawn now -/
def zdoN (S : ZS) (w s : Nat) : Nat := zdoes (zcn S (S.1 5 + zrest S.1)) (sp_pay S.1) (S.1 (112 + w)) (S.1 (120 + w)) (S.1 (128 + 3 * w + s)) (zd (zq S.1) s) s
theorem zstp_in {B : Nat → Nat} {cn : ZCn} {pay : Nat → Nat} {q s k : Nat} {p : Nat × Nat} (h : p.2 = 3 ∨ (p.2 < 3 ∧ zcan cn q s p.2 = true)) (hk : k < 3) : (zstp B cn pay q s k p).2 = 3 ∨ ((zstp B cn pay q s k p).2 < 3 ∧ zcan cn q s (zstp B cn pay q s k p).2 = true) := by
  unfold zstp
  split
  · rename_i hc
    split
    · exact Or.inr ⟨hk, hc⟩
    · exact h
  · exact h
theorem zplain_in {cn : ZCn} {q s : Nat} : zplain cn q s = 3 ∨ (zplain cn q s < 3 ∧ zcan cn q s (zplain cn q s) = true) := by
  unfold zplain
  split
  · rename_i h; exact Or.inr ⟨by omega, h⟩
  · split
    · rename_i h; exact Or.inr ⟨by omega, h⟩
    · split
      · rename_i h; exact Or.inr ⟨by omega, h⟩
      · exact Or.inl rfl
theorem zlstp_in {cn : ZCn} {pay : Nat → Nat} {q s k b : Nat} (h : b = 3 ∨ (b < 3 ∧ zcan cn q s b = true)) (hk : k < 3) : zlstp cn pay q s k b = 3 ∨ (zlstp cn pay q s k b < 3 ∧ zcan cn q s (zlstp cn pay q s k b) = true) := by
  unfold zlstp
  split
  · rename_i hc; exact Or.inr ⟨hk, hc.1⟩
  · exact h
theorem zwait_in {cn : ZCn} {v q s : Nat} : zwait cn v q s = 3 ∨ (zwait cn v q s < 3 ∧ zcan cn q s (zwait cn v q s) = true) := by
  unfold zwait
  split
  · exact zplain_in
  · exact Or.inl rfl
theorem zdoes_in {cn : ZCn} {pay : Nat → Nat} {kd v tl q s : Nat} : zdoes cn pay kd v tl q s = 3 ∨ (zdoes cn pay kd v tl q s < 3 ∧ zcan cn q s (zdoes cn pay kd v tl q s) = true) := by
  unfold zdoes
  split
  · exact zplain_in
  · split
    · exact zlstp_in (zlstp_in (zlstp_in (Or.inl rfl) (by omega)) (by omega)) (by omega)
    · split
      · exact zwait_in
      · split
        · unfold zsure
          split
          · rename_i h; exact Or.inr ⟨by omega, h.2⟩
          · split
            · rename_i h; exact Or.inr ⟨by omega, h.2⟩
            · split
              · rename_i h; exact Or.inr ⟨by omega, h.2⟩
              · exact zplain_in
        · split
          · exact zstp_in (zstp_in (zstp_in (Or.inl rfl) (by omega)) (by omega)) (by omega)
          · split
            · split
              · rename_i h; exact Or.inr h
              · exact zwait_in
            · exact Or.inl rfl
theorem zdoes_le {cn : ZCn} {pay : Nat → Nat} {kd v tl q s : Nat} : zdoes cn pay kd v tl q s ≤ 3 := by
  rcases zdoes_in (cn := cn) (pay := pay) (kd := kd) (v := v) (tl := tl) (q := q) (s := s) with h | h <;> omega
theorem wF_wI {w : Nat} (h : w ≤ 3) : wI w = -1 ∧ wF w = -5 ∨ ¬ wI w = -1 ∧ wF w = wI w := by
  unfold wF wI
  by_cases e : w = 3
  · rw [if_pos e, if_pos e]; exact Or.inl ⟨rfl, rfl⟩
  · rw [if_neg e, if_neg e]; exact Or.inr ⟨nI_nm1 (by omega), rfl⟩
def sp_of (S : ZS) (w x : Int32) : Int32 :=
  if 0 ≤ w ∧ w ≤ nI (S.1 0) - 1 then (if x = 0 then nI (S.1 (112 + w.toNatClampNeg)) else if x = 1 then nI (S.1 (120 + w.toNatClampNeg)) else if 10 ≤ x ∧ x ≤ 12 then (if S.1 (6 + (x - 10).toNatClampNeg) = 0 then -5 else wF (zdoN S w.toNatClampNeg (x - 10).toNatClampNeg)) else -1) else -1
theorem c_mof {w x : Int32} (hr : MRel A α) (hb : A.2.2.2 + 3 < 1000) (h : ∀ β, MRel (zup A 2) β → frI mId α β → post (some (.int (sp_of A.1 w x))) β) : ZK G (d + 40) mX12_of [.ref (G.1 + 34), .int w, .int x] α post := by
  have hm := hr.mw
  have v0 := hr.at (i := 0) (by omega) (by omega)
  have b0 : A.1.1 0 ≤ 8 := hr.2.1.at (by omega) rfl
  have b5 : A.1.1 5 ≤ 99 := hr.2.1.at (by omega) rfl
  have hq := zq_ok hr.2.1
  refine ZK.of (n := 2) (by decide) (Nat.le_of_ble_eq_true rfl) rfl ?_
  refine Z_aload_n dX12_of_0 rfl rfl ?_
  refine Z_iload_n dX12_of_1 rfl rfl ?_
  refine Z_V1z (ci := 12) dX12_of_2 to_X12_isWorker lk_X12_227 iv_X12_isWorker ⟨rfl, rfl⟩ (mw_i34 hm) (Nat.le_of_ble_eq_true rfl) ⟨rfl, rfl⟩ ⟨by decide, by decide⟩ ?_
  refine c_isWorker hm ?_
  rw [v0]
  refine Z_if_ne (tgt := 10) dX12_of_5 (by decide) (fun h5 => ?_) (fun h5 => ?_)
  · skip
    obtain ⟨j, hj, rfl⟩ := idx_lt (by omega) (dec_t h5)
    have ej : (nI j).toNatClampNeg = j := nI_clamp (by omega)
    refine Z_iload_n dX12_of_10 rfl rfl ?_
    refine Z_if_eq (tgt := 19) dX12_of_11 (by decide) (fun h11 => ?_) (fun h11 => ?_)
    · skip
      refine Z_iload_n dX12_of_19 rfl rfl ?_
      refine Z_if_ne (tgt := 35) dX12_of_20 (by decide) (fun h20 => ?_) (fun h20 => ?_)
      · skip
        refine Z_aload_n dX12_of_35 rfl rfl ?_
        refine Z_getR dX12_of_36 cl_12 fl_X12_9_12 rfl (mw_i34 hm) (mw_p34_1 hm) ?_
        refine Z_bipush (v := 120) dX12_of_39 (by decide) ?_
        refine Z_iload_n dX12_of_41 rfl rfl ?_
        refine Z_iadd dX12_of_42 ?_
        refine Z_ialdv dX12_of_43 (mw_i35 hm) (zix_e (m := 120 + j) (nI_add 120 j) (by omega) (by decide)) (hr.at (by omega) (by omega)) ?_
        refine Z_iret dX12_of_44 rfl rfl ⟨by decide, by decide⟩ ?_
        first
          | (have e : sp_of A.1 (nI j) x = nI (A.1.1 (112 + j)) := (if_pos (dec_t h5)).trans ((if_pos h20).trans (by rw [ej]))
             rw [e] at h; exact h α hr.up frI.rf)
          | (have e : sp_of A.1 (nI j) x = nI (A.1.1 (120 + j)) := (if_pos (dec_t h5)).trans ((if_neg h20).trans ((if_pos h16).trans (by rw [ej])))
             rw [e] at h; exact h α hr.up frI.rf)
          | exact absurd h11 h20
      · skip
        refine Z_aload_n dX12_of_23 rfl rfl ?_
        refine Z_getR dX12_of_24 cl_12 fl_X12_9_12 rfl (mw_i34 hm) (mw_p34_1 hm) ?_
        refine Z_bipush (v := 112) dX12_of_27 (by decide) ?_
        refine Z_iload_n dX12_of_29 rfl rfl ?_
        refine Z_iadd dX12_of_30 ?_
        refine Z_ialdv dX12_of_31 (mw_i35 hm) (zix_e (m := 112 + j) (nI_add 112 j) (by omega) (by decide)) (hr.at (by omega) (by omega)) ?_
        refine Z_goto (tgt := 44) dX12_of_32 (by decide) ?_
        refine Z_iret dX12_of_44 rfl rfl ⟨by decide, by decide⟩ ?_
        first
          | (have e : sp_of A.1 (nI j) x = nI (A.1.1 (112 + j)) := (if_pos (dec_t h5)).trans ((if_pos h20).trans (by rw [ej]))
             rw [e] at h; exact h α hr.up frI.rf)
          | (have e : sp_of A.1 (nI j) x = nI (A.1.1 (120 + j)) := (if_pos (dec_t h5)).trans ((if_neg h20).trans ((if_pos h16).trans (by rw [ej])))
             rw [e] at h; exact h α hr.up frI.rf)
          | exact absurd h11 h20
    · skip
      refine Z_iload_n dX12_of_14 rfl rfl ?_
      refine Z_iconst (v := 1) dX12_of_15 (by decide) ?_
      refine Z_icmp_ne (tgt := 45) dX12_of_16 (by decide) (fun h16 => ?_) (fun h16 => ?_)
      · skip
        refine Z_iload_n dX12_of_45 rfl rfl ?_
        refine Z_bipush (v := 10) dX12_of_46 (by decide) ?_
        refine Z_bipush (v := 12) dX12_of_48 (by decide) ?_
        refine Z_S3z dX12_of_50 to_X12_in lk_X12_69 sc_X12_in (Nat.le_of_ble_eq_true rfl) ⟨rfl, rfl⟩ ⟨by decide, by decide⟩ ?_
        refine c_in ?_
        refine Z_if_ne (tgt := 58) dX12_of_53 (by decide) (fun h53 => ?_) (fun h53 => ?_)
        · skip
          obtain ⟨s, hs, rfl⟩ := arg_off (a := 10) (n := 2) rfl rfl (by decide) (dec_t h53)
          have es : nI (10 + s) - 10 = nI s := (pk_sub (a := 10 + s) (b := 10) (by omega)).trans (by rw [Nat.add_sub_cancel_left])
          have b := zsb hr.2.1 hs
          have e : sp_of A.1 (nI j) (nI (10 + s)) = (if A.1.1 (6 + s) = 0 then -5 else wF (zdoN A.1 j s)) := by
            unfold sp_of
            rw [if_pos (dec_t h5), if_neg (by assumption), if_neg (by assumption), if_pos (dec_t h53), es, ej, nI_clamp (by omega)]
          rw [e] at h
          refine Z_iload_n dX12_of_58 rfl rfl ?_
          refine Z_bipush (v := 10) dX12_of_59 (by decide) ?_
          refine Z_isub dX12_of_61 ?_
          rw [es]
          refine Z_istore_n (L' := [_, _, _, _, _]) dX12_of_62 rfl (by decide) rfl rfl ?_
          refine Z_aload_n dX12_of_63 rfl rfl ?_
          refine Z_getR dX12_of_64 cl_12 fl_X12_9_12 rfl (mw_i34 hm) (mw_p34_1 hm) ?_
          refine Z_bipush (v := 6) dX12_of_67 (by decide) ?_
          refine Z_iload_n dX12_of_69 rfl rfl ?_
          refine Z_iadd dX12_of_70 ?_
          refine Z_ialdv dX12_of_71 (mw_i35 hm) (zix_e (m := 6 + s) (nI_add 6 s) (by omega) (by decide)) (hr.at (by omega) (by omega)) ?_
          refine Z_if_ne (tgt := 78) dX12_of_72 (by decide) (fun h72 => ?_) (fun h72 => ?_)
          · skip
            have r0 : ¬ A.1.1 (6 + s) = 0 := fun z => h72 (by rw [z]; rfl)
            rw [if_neg r0] at h
            have hp0 : 0 < zl (zq A.1.1) s := by rw [hq.2.2.1 s (by omega)]; omega
            have ok := zd_ok hq.1 (show s < 3 by omega) hp0
            have hla := hq.2.1
            refine Z_aload_n dX12_of_78 rfl rfl ?_
            refine Z_V0z (ci := 12) dX12_of_79 to_X12_looks lk_X12_246 iv_X12_looks ⟨rfl, rfl⟩ (mw_i34 hm) (Nat.le_of_ble_eq_true rfl) ⟨rfl, rfl⟩ ⟨by decide, by decide⟩ ?_
            refine c_look hr hb (fun β t hw hf _ _ _ => ?_)
            have hm := hw.1.mw
            refine Z_aload_n dX12_of_82 rfl rfl ?_
            refine Z_iload_n dX12_of_83 rfl rfl ?_
            refine Z_aload_n dX12_of_84 rfl rfl ?_
            refine Z_V0z (ci := 12) dX12_of_85 to_X12_stateNow lk_X12_249 iv_X12_stateNow ⟨rfl, rfl⟩ (mw_i34 hm) (Nat.le_of_ble_eq_true rfl) ⟨rfl, rfl⟩ ⟨by decide, by decide⟩ ?_
            refine c_stateNow hw.1 ?_
            rw [show zq (zup A 1).1.1 = zq A.1.1 from rfl]
            refine Z_iload_n dX12_of_88 rfl rfl ?_
            refine Z_S2z dX12_of_89 to_X12_drawn lk_X12_218 sc_X12_drawn (Nat.le_of_ble_eq_true rfl) ⟨rfl, rfl⟩ ⟨by decide, by decide⟩ ?_
            refine c_drawn hq.1 (by omega) ok.1 ?_
            refine Z_iload_n dX12_of_92 rfl rfl ?_
            refine Z_V3z (ci := 12) dX12_of_93 to_X12_doesOn lk_X12_252 iv_X12_doesOn ⟨rfl, rfl⟩ (mw_i34 hm) (Nat.le_of_ble_eq_true rfl) ⟨rfl, rfl⟩ ⟨by decide, by decide⟩ ?_
            refine c_doesOn hw (by show A.1.1 5 + zrest A.1.1 < 500; omega) ok.2.1 (by omega) (by show _ ≤ A.1.1 5 + zrest A.1.1; omega) (by omega) (fun γ hw1 hf1 => ?_)
            have hp := h γ (hw1.1.up' (by omega)) (hf.tr (hf1.mono fb_mid))
            refine Z_istore (L' := [_, _, _, _, _]) dX12_of_96 (by decide) rfl rfl ?_
            refine Z_iload dX12_of_98 rfl ?_
            refine Z_iconst (v := -1) dX12_of_100 (by decide) ?_
            refine Z_icmp_ne (tgt := 109) dX12_of_101 (by decide) (fun h101 => ?_) (fun h101 => ?_)
            · skip
              refine Z_iload dX12_of_109 rfl ?_
              refine Z_iret dX12_of_111 rfl rfl ⟨by decide, by decide⟩ ?_
              have wf := wF_wI (zdoes_le (cn := zcn A.1 (A.1.1 5 + zrest A.1.1)) (pay := sp_pay A.1.1) (kd := A.1.1 (112 + j)) (v := A.1.1 (120 + j)) (tl := A.1.1 (128 + 3 * j + s)) (q := zd (zq A.1.1) s) (s := s))
              unfold zdoN at hp
              first
                | (rcases wf with wf | wf
                   · rw [wf.2] at hp; exact hp
                   · exact absurd h101 wf.1)
                | (rcases wf with wf | wf
                   · exact absurd wf.1 h101
                   · rw [wf.2] at hp; exact hp)
            · skip
              refine Z_bipush (v := -5) dX12_of_104 (by decide) ?_
              refine Z_goto (tgt := 111) dX12_of_106 (by decide) ?_
              refine Z_iret dX12_of_111 rfl rfl ⟨by decide, by decide⟩ ?_
              have wf := wF_wI (zdoes_le (cn := zcn A.1 (A.1.1 5 + zrest A.1.1)) (pay := sp_pay A.1.1) (kd := A.1.1 (112 + j)) (v := A.1.1 (120 + j)) (tl := A.1.1 (128 + 3 * j + s)) (q := zd (zq A.1.1) s) (s := s))
              unfold zdoN at hp
              first
                | (rcases wf with wf | wf
                   · rw [wf.2] at hp; exact hp
                   · exact absurd h101 wf.1)
                | (rcases wf with wf | wf
                   · exact absurd wf.1 h101
                   · rw [wf.2] at hp; exact hp)
          · skip
            rw [if_pos ((nI_eq (b := 0) (by omega) (by omega)).mp h72)] at h
            refine Z_bipush (v := -5) dX12_of_75 (by decide) ?_
            refine Z_iret dX12_of_77 rfl rfl ⟨by decide, by decide⟩ ?_
            exact h α hr.up frI.rf
        · skip
          refine Z_iconst (v := -1) dX12_of_56 (by decide) ?_
          refine Z_iret dX12_of_57 rfl rfl ⟨by decide, by decide⟩ ?_
          have e : sp_of A.1 (nI j) x = -1 := (if_pos (dec_t h5)).trans ((if_neg h11).trans ((if_neg h16).trans (if_neg (dec_f h53))))
          rw [e] at h; exact h α hr.up frI.rf
      · skip
        refine Z_iload_n dX12_of_19 rfl rfl ?_
        refine Z_if_ne (tgt := 35) dX12_of_20 (by decide) (fun h20 => ?_) (fun h20 => ?_)
        · skip
          refine Z_aload_n dX12_of_35 rfl rfl ?_
          refine Z_getR dX12_of_36 cl_12 fl_X12_9_12 rfl (mw_i34 hm) (mw_p34_1 hm) ?_
          refine Z_bipush (v := 120) dX12_of_39 (by decide) ?_
          refine Z_iload_n dX12_of_41 rfl rfl ?_
          refine Z_iadd dX12_of_42 ?_
          refine Z_ialdv dX12_of_43 (mw_i35 hm) (zix_e (m := 120 + j) (nI_add 120 j) (by omega) (by decide)) (hr.at (by omega) (by omega)) ?_
          refine Z_iret dX12_of_44 rfl rfl ⟨by decide, by decide⟩ ?_
          first
            | (have e : sp_of A.1 (nI j) x = nI (A.1.1 (112 + j)) := (if_pos (dec_t h5)).trans ((if_pos h20).trans (by rw [ej]))
               rw [e] at h; exact h α hr.up frI.rf)
            | (have e : sp_of A.1 (nI j) x = nI (A.1.1 (120 + j)) := (if_pos (dec_t h5)).trans ((if_neg h20).trans ((if_pos h16).trans (by rw [ej])))
               rw [e] at h; exact h α hr.up frI.rf)
            | exact absurd h11 h20
        · skip
          refine Z_aload_n dX12_of_23 rfl rfl ?_
          refine Z_getR dX12_of_24 cl_12 fl_X12_9_12 rfl (mw_i34 hm) (mw_p34_1 hm) ?_
          refine Z_bipush (v := 112) dX12_of_27 (by decide) ?_
          refine Z_iload_n dX12_of_29 rfl rfl ?_
          refine Z_iadd dX12_of_30 ?_
          refine Z_ialdv dX12_of_31 (mw_i35 hm) (zix_e (m := 112 + j) (nI_add 112 j) (by omega) (by decide)) (hr.at (by omega) (by omega)) ?_
          refine Z_goto (tgt := 44) dX12_of_32 (by decide) ?_
          refine Z_iret dX12_of_44 rfl rfl ⟨by decide, by decide⟩ ?_
          first
            | (have e : sp_of A.1 (nI j) x = nI (A.1.1 (112 + j)) := (if_pos (dec_t h5)).trans ((if_pos h20).trans (by rw [ej]))
               rw [e] at h; exact h α hr.up frI.rf)
            | (have e : sp_of A.1 (nI j) x = nI (A.1.1 (120 + j)) := (if_pos (dec_t h5)).trans ((if_neg h20).trans ((if_pos h16).trans (by rw [ej])))
               rw [e] at h; exact h α hr.up frI.rf)
            | exact absurd h11 h20
  · skip
    refine Z_iconst (v := -1) dX12_of_8 (by decide) ?_
    refine Z_iret dX12_of_9 rfl rfl ⟨by decide, by decide⟩ ?_
    have e : sp_of A.1 w x = -1 := if_neg (dec_f h5)
    rw [e] at h; exact h α hr.up frI.rf
def sp_today (S : ZS) (x : Int32) : Int32 := if 0 ≤ x ∧ x ≤ 2 then (if S.1 (6 + x.toNatClampNeg) = 0 then -3 else wF (zOn (zbest (zcn S (S.1 5 + zrest S.1)) (sp_pay S.1)) (zcn S (S.1 5 + zrest S.1)) (sp_pay S.1) (zd (zq S.1) x.toNatClampNeg) x.toNatClampNeg).2) else -1
theorem c_mtoday {x : Int32} (hr : MRel A α) (hb : A.2.2.2 + 3 < 1000) (h : ∀ β, MRel (zup A 2) β → frI mId α β → post (some (.int (sp_today A.1 x))) β) : ZK G (d + 40) mX12_today [.ref (G.1 + 34), .int x] α post := by
  have hm := hr.mw
  have b5 : A.1.1 5 ≤ 99 := hr.2.1.at (by omega) rfl
  have hq := zq_ok hr.2.1
  refine ZK.of (n := 1) (by decide) (Nat.le_of_ble_eq_true rfl) rfl ?_
  refine Z_iload_n dX12_today_0 rfl rfl ?_
  refine Z_S1z dX12_today_1 to_X12_isSort lk_X12_73 sc_X12_isSort (Nat.le_of_ble_eq_true rfl) ⟨rfl, rfl⟩ ⟨by decide, by decide⟩ ?_
  refine c_isSort ?_
  refine Z_if_ne (tgt := 9) dX12_today_4 (by decide) (fun h4 => ?_) (fun h4 => ?_)
  · skip
    obtain ⟨s, hs, rfl⟩ := okS.nI (dec_t h4)
    have b := zsb hr.2.1 hs
    have e : sp_today A.1 (nI s) = (if A.1.1 (6 + s) = 0 then -3 else wF (zOn (zbest (zcn A.1 (A.1.1 5 + zrest A.1.1)) (sp_pay A.1.1)) (zcn A.1 (A.1.1 5 + zrest A.1.1)) (sp_pay A.1.1) (zd (zq A.1.1) s) s).2) := by
      unfold sp_today
      rw [if_pos (dec_t h4), nI_clamp (by omega)]
    rw [e] at h
    refine Z_aload_n dX12_today_9 rfl rfl ?_
    refine Z_getR dX12_today_10 cl_12 fl_X12_9_12 rfl (mw_i34 hm) (mw_p34_1 hm) ?_
    refine Z_bipush (v := 6) dX12_today_13 (by decide) ?_
    refine Z_iload_n dX12_today_15 rfl rfl ?_
    refine Z_iadd dX12_today_16 ?_
    refine Z_ialdv dX12_today_17 (mw_i35 hm) (zix_e (m := 6 + s) (nI_add 6 s) (by omega) (by decide)) (hr.at (by omega) (by omega)) ?_
    refine Z_if_ne (tgt := 24) dX12_today_18 (by decide) (fun h18 => ?_) (fun h18 => ?_)
    · skip
      have r0 : ¬ A.1.1 (6 + s) = 0 := fun z => h18 (by rw [z]; rfl)
      rw [if_neg r0] at h
      have hp0 : 0 < zl (zq A.1.1) s := by rw [hq.2.2.1 s (by omega)]; omega
      have ok := zd_ok hq.1 (show s < 3 by omega) hp0
      have hla := hq.2.1
      refine Z_aload_n dX12_today_24 rfl rfl ?_
      refine Z_V0z (ci := 12) dX12_today_25 to_X12_looks lk_X12_246 iv_X12_looks ⟨rfl, rfl⟩ (mw_i34 hm) (Nat.le_of_ble_eq_true rfl) ⟨rfl, rfl⟩ ⟨by decide, by decide⟩ ?_
      refine c_look hr hb (fun β t hw hf _ _ _ => ?_)
      have hm := hw.1.mw
      refine Z_aload_n dX12_today_28 rfl rfl ?_
      refine Z_aload_n dX12_today_29 rfl rfl ?_
      refine Z_V0z (ci := 12) dX12_today_30 to_X12_stateNow lk_X12_249 iv_X12_stateNow ⟨rfl, rfl⟩ (mw_i34 hm) (Nat.le_of_ble_eq_true rfl) ⟨rfl, rfl⟩ ⟨by decide, by decide⟩ ?_
      refine c_stateNow hw.1 ?_
      rw [show zq (zup A 1).1.1 = zq A.1.1 from rfl]
      refine Z_iload_n dX12_today_33 rfl rfl ?_
      refine Z_S2z dX12_today_34 to_X12_drawn lk_X12_218 sc_X12_drawn (Nat.le_of_ble_eq_true rfl) ⟨rfl, rfl⟩ ⟨by decide, by decide⟩ ?_
      refine c_drawn hq.1 (by omega) ok.1 ?_
      refine Z_iload_n dX12_today_37 rfl rfl ?_
      refine Z_V2z (ci := 12) dX12_today_38 to_X12_bestly lk_X12_243 iv_X12_bestly ⟨rfl, rfl⟩ (mw_i34 hm) (Nat.le_of_ble_eq_true rfl) ⟨rfl, rfl⟩ ⟨by decide, by decide⟩ ?_
      refine c_bestly hw (by show A.1.1 5 + zrest A.1.1 < 500; omega) ok.2.1 (by omega) (by show _ ≤ A.1.1 5 + zrest A.1.1; omega) (fun γ hw1 hf1 => ?_)
      have hp := h γ (hw1.1.up' (by omega)) (hf.tr (hf1.mono fb_mid))
      refine Z_istore_n (L' := [_, _, _]) dX12_today_41 rfl (by decide) rfl rfl ?_
      refine Z_iload_n dX12_today_42 rfl rfl ?_
      refine Z_iconst (v := -1) dX12_today_43 (by decide) ?_
      refine Z_icmp_ne (tgt := 52) dX12_today_44 (by decide) (fun h44 => ?_) (fun h44 => ?_)
      · skip
        refine Z_iload_n dX12_today_52 rfl rfl ?_
        refine Z_iret dX12_today_53 rfl rfl ⟨by decide, by decide⟩ ?_
        have wf := wF_wI (w := (zOn (zbest (zcn A.1 (A.1.1 5 + zrest A.1.1)) (sp_pay A.1.1)) (zcn A.1 (A.1.1 5 + zrest A.1.1)) (sp_pay A.1.1) (zd (zq A.1.1) s) s).2) (zfold_bd 3 (by omega))
        first
          | (rcases wf with wf | wf
             · rw [wf.2] at hp; exact hp
             · exact absurd h44 wf.1)
          | (rcases wf with wf | wf
             · exact absurd wf.1 h44
             · rw [wf.2] at hp; exact hp)
      · skip
        refine Z_bipush (v := -5) dX12_today_47 (by decide) ?_
        refine Z_goto (tgt := 53) dX12_today_49 (by decide) ?_
        refine Z_iret dX12_today_53 rfl rfl ⟨by decide, by decide⟩ ?_
        have wf := wF_wI (w := (zOn (zbest (zcn A.1 (A.1.1 5 + zrest A.1.1)) (sp_pay A.1.1)) (zcn A.1 (A.1.1 5 + zrest A.1.1)) (sp_pay A.1.1) (zd (zq A.1.1) s) s).2) (zfold_bd 3 (by omega))
        first
          | (rcases wf with wf | wf
             · rw [wf.2] at hp; exact hp
             · exact absurd h44 wf.1)
          | (rcases wf with wf | wf
             · exact absurd wf.1 h44
             · rw [wf.2] at hp; exact hp)
    · skip
      rw [if_pos ((nI_eq (b := 0) (by omega) (by omega)).mp h18)] at h
      refine Z_bipush (v := -3) dX12_today_21 (by decide) ?_
      refine Z_iret dX12_today_23 rfl rfl ⟨by decide, by decide⟩ ?_
      exact h α hr.up frI.rf
  · skip
    refine Z_iconst (v := -1) dX12_today_7 (by decide) ?_
    refine Z_iret dX12_today_8 rfl rfl ⟨by decide, by decide⟩ ?_
    have e : sp_today A.1 x = -1 := if_neg (dec_f h4)
    rw [e] at h; exact h α hr.up frI.rf
end ML1
