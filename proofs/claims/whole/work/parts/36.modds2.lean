section MJ1
variable {G : ZG} {d : Nat} {α β : AH} {post : Option Value → AH → Prop} {A : ZA} {t D R : Nat}
/-- along the book: how many days were kept, and what is paid -/
def zjg (S : ZS) (T w : Nat) : Nat → Nat → Nat → Nat → Nat × Nat
  | 0, i, _, p => (i, p)
  | j + 1, i, q, p => if 0 < zl q (S.1 (152 + i)) then zjg S T w j (i + 1) (zdw (zd q (S.1 (152 + i))) (zway S T w (zd q (S.1 (152 + i))) (S.1 (152 + i)))) (p + zpays (sp_pay S.1) (zd q (S.1 (152 + i))) (zway S T w (zd q (S.1 (152 + i))) (S.1 (152 + i)))) else (i, p)
theorem zjg_s {S : ZS} {T w j i q p : Nat} : zjg S T w (j + 1) i q p = if 0 < zl q (S.1 (152 + i)) then zjg S T w j (i + 1) (zdw (zd q (S.1 (152 + i))) (zway S T w (zd q (S.1 (152 + i))) (S.1 (152 + i)))) (p + zpays (sp_pay S.1) (zd q (S.1 (152 + i))) (zway S T w (zd q (S.1 (152 + i))) (S.1 (152 + i)))) else (i, p) := rfl
theorem lp_judged {w : Nat} {x : Int32} (hT2 : D + R < 500) (hw8 : w < 8) (b2 : A.1.1 2 ≤ 12)
    (h : ∀ (i p : Nat) (γ : AH), (i, p) = zjg A.1 (D + R) w (A.1.1 2) 0 (zq A.1.1) 0 → mLk A t D R γ → frI Fb α γ → post (some (.int (if x = 0 then nI i else nI p))) γ) :
    ∀ (j i q p : Nat), i + j = A.1.1 2 → q < 5832 → zla q ≤ D + R → zjg A.1 (D + R) w j i q p = zjg A.1 (D + R) w (A.1.1 2) 0 (zq A.1.1) 0 → ∀ (β : AH) (x6 x7 : Option Value), mLk A t D R β → frI Fb α β → Z G mX12_judged (d + 40) 34 [some (.ref (G.1 + 34)), some (.int (nI w)), some (.int x), some (.int (nI q)), some (.int (nI p)), some (.int (nI i)), x6, x7] [] β (0, 0) post := by
  intro j
  induction j with
  | zero =>
    intro i q p hi hq hT ez β x6 x7 hw hf
    have hm := hw.1.mw
    have v2 := hw.1.at (i := 2) (by omega) (by omega)
    refine Z_iload dX12_judged_34 rfl ?_
    refine Z_aload_n dX12_judged_36 rfl rfl ?_
    refine Z_getR dX12_judged_37 cl_12 fl_X12_9_12 rfl (mw_i34 hm) (mw_p34_1 hm) ?_
    refine Z_iconst (v := 2) dX12_judged_40 (by decide) ?_
    refine Z_ialdv dX12_judged_41 (mw_i35 hm) (zix_k (m := 2) (by decide)) v2 ?_
    refine Z_icmp_ge (tgt := 118) dX12_judged_42 (by decide) (fun h42 => ?_) (fun h42 => ?_)
    · skip
      refine Z_iload_n dX12_judged_118 rfl rfl ?_
      refine Z_if_ne (tgt := 127) dX12_judged_119 (by decide) (fun h119 => ?_) (fun h119 => ?_)
      · skip
        refine Z_iload dX12_judged_127 rfl ?_
        refine Z_iret dX12_judged_129 rfl rfl ⟨by decide, by decide⟩ ?_
        have hp := h i p β ez hw hf
        first
          | (rw [if_pos h119] at hp; exact hp)
          | (rw [if_neg h119] at hp; exact hp)
      · skip
        refine Z_iload dX12_judged_122 rfl ?_
        refine Z_goto (tgt := 129) dX12_judged_124 (by decide) ?_
        refine Z_iret dX12_judged_129 rfl rfl ⟨by decide, by decide⟩ ?_
        have hp := h i p β ez hw hf
        first
          | (rw [if_pos h119] at hp; exact hp)
          | (rw [if_neg h119] at hp; exact hp)
    · skip
      exact absurd (nI_le (by omega) (by omega)) h42
  | succ j ih =>
    intro i q p hi hq hT ez β x6 x7 hw hf
    have hm := hw.1.mw
    have v2 := hw.1.at (i := 2) (by omega) (by omega)
    have vs := hw.1.at (i := 152 + i) (by omega) (by omega)
    have bs : A.1.1 (152 + i) ≤ 2 := hw.1.2.1.at (by omega) (zbd_book (by omega))
    have hl := zl_le (s := A.1.1 (152 + i)) hq
    rw [zjg_s] at ez
    generalize A.1.1 (152 + i) = s at *
    by_cases hp : 0 < zl q s
    · rw [if_pos hp] at ez
      have ok := zd_ok hq (show s < 3 by omega) hp
      refine Z_iload dX12_judged_34 rfl ?_
      refine Z_aload_n dX12_judged_36 rfl rfl ?_
      refine Z_getR dX12_judged_37 cl_12 fl_X12_9_12 rfl (mw_i34 hm) (mw_p34_1 hm) ?_
      refine Z_iconst (v := 2) dX12_judged_40 (by decide) ?_
      refine Z_ialdv dX12_judged_41 (mw_i35 hm) (zix_k (m := 2) (by decide)) v2 ?_
      refine Z_icmp_ge (tgt := 118) dX12_judged_42 (by decide) (fun h42 => ?_) (fun h42 => ?_)
      · skip
        exact absurd h42 (nI_ge (by omega) (by omega))
      · skip
        refine Z_iload_n dX12_judged_45 rfl rfl ?_
        refine Z_aload_n dX12_judged_46 rfl rfl ?_
        refine Z_getR dX12_judged_47 cl_12 fl_X12_9_12 rfl (mw_i34 hm) (mw_p34_1 hm) ?_
        refine Z_sipush (v := 152) dX12_judged_50 (by decide) ?_
        refine Z_iload dX12_judged_53 rfl ?_
        refine Z_iadd dX12_judged_55 ?_
        refine Z_ialdv dX12_judged_56 (mw_i35 hm) (zix_e (m := 152 + i) (nI_add 152 i) (by omega) (by decide)) vs ?_
        refine Z_S2z dX12_judged_57 to_X12_left lk_X12_172 sc_X12_left (Nat.le_of_ble_eq_true rfl) ⟨rfl, rfl⟩ ⟨by decide, by decide⟩ ?_
        refine c_left hq (by omega) ?_
        refine Z_if_le (tgt := 118) dX12_judged_60 (by decide) (fun h60 => ?_) (fun h60 => ?_)
        · skip
          exact absurd h60 (nI_nle hp (by omega))
        · skip
          refine Z_aload_n dX12_judged_63 rfl rfl ?_
          refine Z_getR dX12_judged_64 cl_12 fl_X12_9_12 rfl (mw_i34 hm) (mw_p34_1 hm) ?_
          refine Z_sipush (v := 152) dX12_judged_67 (by decide) ?_
          refine Z_iload dX12_judged_70 rfl ?_
          refine Z_iadd dX12_judged_72 ?_
          refine Z_ialdv dX12_judged_73 (mw_i35 hm) (zix_e (m := 152 + i) (nI_add 152 i) (by omega) (by decide)) vs ?_
          refine Z_istore (L' := [_, _, _, _, _, _, _, _]) dX12_judged_74 (by decide) rfl rfl ?_
          refine Z_iload_n dX12_judged_76 rfl rfl ?_
          refine Z_iload dX12_judged_77 rfl ?_
          refine Z_S2z dX12_judged_79 to_X12_drawn lk_X12_218 sc_X12_drawn (Nat.le_of_ble_eq_true rfl) ⟨rfl, rfl⟩ ⟨by decide, by decide⟩ ?_
          refine c_drawn hq (by omega) ok.1 ?_
          refine Z_istore_n (L' := [_, _, _, _, _, _, _, _]) dX12_judged_82 rfl (by decide) rfl rfl ?_
          refine Z_aload_n dX12_judged_83 rfl rfl ?_
          refine Z_iload_n dX12_judged_84 rfl rfl ?_
          refine Z_iload_n dX12_judged_85 rfl rfl ?_
          refine Z_iload dX12_judged_86 rfl ?_
          refine Z_V3z (ci := 12) dX12_judged_88 to_X12_doesOn lk_X12_252 iv_X12_doesOn ⟨rfl, rfl⟩ (mw_i34 hm) (Nat.le_of_ble_eq_true rfl) ⟨rfl, rfl⟩ ⟨by decide, by decide⟩ ?_
          refine c_doesOn hw hT2 ok.2.1 (by omega) (by omega) hw8 (fun γ hw1 hf1 => ?_)
          have hm := hw1.1.mw
          have hf1 : frI Fb α γ := hf.tr hf1
          rw [show zdoes (zcn A.1 (D + R)) (sp_pay A.1.1) (A.1.1 (112 + w)) (A.1.1 (120 + w)) (A.1.1 (128 + 3 * w + s)) (zd q s) s = zway A.1 (D + R) w (zd q s) s from rfl]
          have hwo := zway_ok (S := A.1) (T := D + R) (w := w) (zd q s) s
          have ok2 := zdw_ok ok.2.1 hwo
          have hw3 : zway A.1 (D + R) w (zd q s) s ≤ 3 := by omega
          refine Z_istore (L' := [_, _, _, _, _, _, _, _]) dX12_judged_91 (by decide) rfl rfl ?_
          refine Z_iload dX12_judged_93 rfl ?_
          refine Z_aload_n dX12_judged_95 rfl rfl ?_
          refine Z_iload_n dX12_judged_96 rfl rfl ?_
          refine Z_iload dX12_judged_97 rfl ?_
          refine Z_V2z (ci := 12) dX12_judged_99 to_X12_pays lk_X12_212 iv_X12_pays ⟨rfl, rfl⟩ (mw_i34 hm) (Nat.le_of_ble_eq_true rfl) ⟨rfl, rfl⟩ ⟨by decide, by decide⟩ ?_
          refine c_pays ok.2.1 hw3 hw1.1 ?_
          refine Z_iadd dX12_judged_102 ?_
          rw [nI_add]
          refine Z_istore (L' := [_, _, _, _, _, _, _, _]) dX12_judged_103 (by decide) rfl rfl ?_
          refine Z_iload_n dX12_judged_105 rfl rfl ?_
          refine Z_iload dX12_judged_106 rfl ?_
          refine Z_S2z dX12_judged_108 to_X12_done lk_X12_215 sc_X12_done (Nat.le_of_ble_eq_true rfl) ⟨rfl, rfl⟩ ⟨by decide, by decide⟩ ?_
          refine c_done hw3 ?_
          refine Z_istore_n (L' := [_, _, _, _, _, _, _, _]) dX12_judged_111 rfl (by decide) rfl rfl ?_
          refine Z_iinc (L' := [_, _, _, _, _, _, _, _]) dX12_judged_112 rfl (by rfl : _ + Int32.ofInt 1 = _ + 1) (by decide) rfl rfl ?_
          refine Z_goto (tgt := 34) dX12_judged_115 (by decide) ?_
          rw [nI_1]
          exact ih (i + 1) _ _ (by omega) ok2.1 (by omega) ez γ _ _ hw1 hf1
    · rw [if_neg hp] at ez
      refine Z_iload dX12_judged_34 rfl ?_
      refine Z_aload_n dX12_judged_36 rfl rfl ?_
      refine Z_getR dX12_judged_37 cl_12 fl_X12_9_12 rfl (mw_i34 hm) (mw_p34_1 hm) ?_
      refine Z_iconst (v := 2) dX12_judged_40 (by decide) ?_
      refine Z_ialdv dX12_judged_41 (mw_i35 hm) (zix_k (m := 2) (by decide)) v2 ?_
      refine Z_icmp_ge (tgt := 118) dX12_judged_42 (by decide) (fun h42 => ?_) (fun h42 => ?_)
      · skip
        exact absurd h42 (nI_ge (by omega) (by omega))
      · skip
        refine Z_iload_n dX12_judged_45 rfl rfl ?_
        refine Z_aload_n dX12_judged_46 rfl rfl ?_
        refine Z_getR dX12_judged_47 cl_12 fl_X12_9_12 rfl (mw_i34 hm) (mw_p34_1 hm) ?_
        refine Z_sipush (v := 152) dX12_judged_50 (by decide) ?_
        refine Z_iload dX12_judged_53 rfl ?_
        refine Z_iadd dX12_judged_55 ?_
        refine Z_ialdv dX12_judged_56 (mw_i35 hm) (zix_e (m := 152 + i) (nI_add 152 i) (by omega) (by decide)) vs ?_
        refine Z_S2z dX12_judged_57 to_X12_left lk_X12_172 sc_X12_left (Nat.le_of_ble_eq_true rfl) ⟨rfl, rfl⟩ ⟨by decide, by decide⟩ ?_
        refine c_left hq (by omega) ?_
        refine Z_if_le (tgt := 118) dX12_judged_60 (by decide) (fun h60 => ?_) (fun h60 => ?_)
        · skip
          refine Z_iload_n dX12_judged_118 rfl rfl ?_
          refine Z_if_ne (tgt := 127) dX12_judged_119 (by decide) (fun h119 => ?_) (fun h119 => ?_)
          · skip
            refine Z_iload dX12_judged_127 rfl ?_
            refine Z_iret dX12_judged_129 rfl rfl ⟨by decide, by decide⟩ ?_
            have hp := h i p β ez hw hf
            first
              | (rw [if_pos h119] at hp; exact hp)
              | (rw [if_neg h119] at hp; exact hp)
          · skip
            refine Z_iload dX12_judged_122 rfl ?_
            refine Z_goto (tgt := 129) dX12_judged_124 (by decide) ?_
            refine Z_iret dX12_judged_129 rfl rfl ⟨by decide, by decide⟩ ?_
            have hp := h i p β ez hw hf
            first
              | (rw [if_pos h119] at hp; exact hp)
              | (rw [if_neg h119] at hp; exact hp)
        · skip
          exact absurd (nI_pos0 (by omega) h60) hp
def zjd (S : ZS) (w : Nat) : Nat × Nat := zjg S (S.1 5 + zrest S.1) w (S.1 2) 0 (zq S.1) 0
def sp_judged (S : ZS) (w x : Int32) : Int32 := if (0 ≤ w ∧ w ≤ nI (S.1 0) - 1) ∧ (0 ≤ x ∧ x ≤ 1) then (if x = 0 then nI (zjd S w.toNatClampNeg).1 else nI (zjd S w.toNatClampNeg).2) else -1
theorem c_mjudged {w x : Int32} (hr : MRel A α) (hb : A.2.2.2 + 3 < 1000) (h : ∀ β, MRel (zup A 2) β → frI mId α β → post (some (.int (sp_judged A.1 w x))) β) : ZK G (d + 40) mX12_judged [.ref (G.1 + 34), .int w, .int x] α post := by
  have hm := hr.mw
  have v0 := hr.at (i := 0) (by omega) (by omega)
  have b0 : A.1.1 0 ≤ 8 := hr.2.1.at (by omega) rfl
  have b2 : A.1.1 2 ≤ 12 := hr.2.1.at (by omega) rfl
  have b5 : A.1.1 5 ≤ 99 := hr.2.1.at (by omega) rfl
  have b := zsb hr.2.1 (show 0 ≤ 2 by omega)
  have hq := zq_ok hr.2.1
  have hla := hq.2.1
  refine ZK.of (n := 5) (by decide) (Nat.le_of_ble_eq_true rfl) rfl ?_
  refine Z_aload_n dX12_judged_0 rfl rfl ?_
  refine Z_iload_n dX12_judged_1 rfl rfl ?_
  refine Z_V1z (ci := 12) dX12_judged_2 to_X12_isWorker lk_X12_227 iv_X12_isWorker ⟨rfl, rfl⟩ (mw_i34 hm) (Nat.le_of_ble_eq_true rfl) ⟨rfl, rfl⟩ ⟨by decide, by decide⟩ ?_
  refine c_isWorker hm ?_
  rw [v0]
  refine Z_if_eq (tgt := 17) dX12_judged_5 (by decide) (fun h5 => ?_) (fun h5 => ?_)
  · skip
    refine Z_iconst (v := -1) dX12_judged_17 (by decide) ?_
    refine Z_iret dX12_judged_18 rfl rfl ⟨by decide, by decide⟩ ?_
    have e : sp_judged A.1 w x = -1 := if_neg (fun z => by first | exact dec_f h5 z.1 | exact dec_f h14 z.2)
    rw [e] at h; exact h α hr.up frI.rf
  · skip
    refine Z_iload_n dX12_judged_8 rfl rfl ?_
    refine Z_iconst (v := 0) dX12_judged_9 (by decide) ?_
    refine Z_iconst (v := 1) dX12_judged_10 (by decide) ?_
    refine Z_S3z dX12_judged_11 to_X12_in lk_X12_69 sc_X12_in (Nat.le_of_ble_eq_true rfl) ⟨rfl, rfl⟩ ⟨by decide, by decide⟩ ?_
    refine c_in ?_
    refine Z_if_ne (tgt := 19) dX12_judged_14 (by decide) (fun h14 => ?_) (fun h14 => ?_)
    · skip
      obtain ⟨j, hj, rfl⟩ := idx_lt (by omega) (dec_t h5)
      have ej : (nI j).toNatClampNeg = j := nI_clamp (by omega)
      have es : sp_judged A.1 (nI j) x = (if x = 0 then nI (zjd A.1 j).1 else nI (zjd A.1 j).2) := by
        unfold sp_judged
        rw [if_pos ⟨dec_t h5, dec_t h14⟩, ej]
      rw [es] at h
      refine Z_aload_n dX12_judged_19 rfl rfl ?_
      refine Z_V0z (ci := 12) dX12_judged_20 to_X12_looks lk_X12_246 iv_X12_looks ⟨rfl, rfl⟩ (mw_i34 hm) (Nat.le_of_ble_eq_true rfl) ⟨rfl, rfl⟩ ⟨by decide, by decide⟩ ?_
      refine c_look hr hb (fun β t hw hf _ _ _ => ?_)
      have hm := hw.1.mw
      refine Z_aload_n dX12_judged_23 rfl rfl ?_
      refine Z_V0z (ci := 12) dX12_judged_24 to_X12_stateNow lk_X12_249 iv_X12_stateNow ⟨rfl, rfl⟩ (mw_i34 hm) (Nat.le_of_ble_eq_true rfl) ⟨rfl, rfl⟩ ⟨by decide, by decide⟩ ?_
      refine c_stateNow hw.1 ?_
      rw [show zq (zup A 1).1.1 = zq A.1.1 from rfl]
      refine Z_istore_n (L' := [_, _, _, _, _, _, _, _]) dX12_judged_27 rfl (by decide) rfl rfl ?_
      refine Z_iconst (v := 0) dX12_judged_28 (by decide) ?_
      refine Z_istore (L' := [_, _, _, _, _, _, _, _]) dX12_judged_29 (by decide) rfl rfl ?_
      refine Z_iconst (v := 0) dX12_judged_31 (by decide) ?_
      refine Z_istore (L' := [_, _, _, _, _, _, _, _]) dX12_judged_32 (by decide) rfl rfl ?_
      refine lp_judged (A := zup A 1) (w := j) (D := A.1.1 5) (R := zrest A.1.1) (by omega) (by omega) b2 (fun i p γ e hw1 hf1 => ?_) (A.1.1 2) 0 (zq A.1.1) 0 (by show 0 + A.1.1 2 = A.1.1 2; omega) hq.1 (by omega) rfl β none none hw frI.rf
      have hp := h γ (hw1.1.up' (by omega)) (hf.tr (hf1.mono fb_mid))
      have e : (i, p) = zjd A.1 j := e
      rw [← e] at hp
      exact hp
    · skip
      refine Z_iconst (v := -1) dX12_judged_17 (by decide) ?_
      refine Z_iret dX12_judged_18 rfl rfl ⟨by decide, by decide⟩ ?_
      have e : sp_judged A.1 w x = -1 := if_neg (fun z => by first | exact dec_f h5 z.1 | exact dec_f h14 z.2)
      rw [e] at h; exact h α hr.up frI.rf
end MJ1
section MO1
variable {G : ZG} {d : Nat} {α β : AH} {post : Option Value → AH → Prop} {A : ZA}
theorem nI_dif {a b : Nat} (ha : a < 2 ^ 30) (hb : b < 2 ^ 30) : (nI a - nI b).toInt = (a : Int) - b := by
  rw [Int32.toInt_sub, nI_toInt (by omega), nI_toInt (by omega)]
  exact Int.bmod_eq_of_le (by omega) (by omega)
theorem nI_dif1 {a b : Nat} (ha : a < 2 ^ 30) (hb : b < 2 ^ 30) : 1 ≤ nI a - nI b ↔ b < a := by
  rw [Int32.le_iff_toInt_le, nI_dif ha hb, show (1 : Int32).toInt = 1 from rfl]
  omega
/-- how many of the first i booked days are of sort s -/
def zah (σ : Nat → Nat) (s : Nat) : Nat → Nat
  | 0 => 0
  | i + 1 => zah σ s i + (if σ (152 + i) = s then 1 else 0)
theorem zah_le {σ : Nat → Nat} {s : Nat} : ∀ i, zah σ s i ≤ i
  | 0 => Nat.le_refl 0
  | i + 1 => by
    have := zah_le (σ := σ) (s := s) i
    show zah σ s i + (if σ (152 + i) = s then 1 else 0) ≤ i + 1
    split <;> omega
theorem lp_told {n s : Nat} (hr : MRel A α) (hn : n ≤ 12) (hs : s ≤ 2) (h : post (some (.int (nI (zah A.1.1 s n)))) α) : ∀ (j i : Nat), i + j = n → Z G mX12_toldAhead (d + 1) 5 [some (.ref (G.1 + 34)), some (.int (nI n)), some (.int (nI s)), some (.int (nI (zah A.1.1 s i))), some (.int (nI i))] [] α (0, 0) post := by
  intro j
  have hm := hr.mw
  induction j with
  | zero =>
    intro i hi
    have hi : i = n := by omega
    subst hi
    refine Z_iload dX12_toldAhead_5 rfl ?_
    refine Z_iload_n dX12_toldAhead_7 rfl rfl ?_
    refine Z_icmp_ge (tgt := 40) dX12_toldAhead_8 (by decide) (fun h8 => ?_) (fun h8 => ?_)
    · skip
      refine Z_iload_n dX12_toldAhead_40 rfl rfl ?_
      refine Z_iret dX12_toldAhead_41 rfl rfl ⟨by decide, by decide⟩ ?_
      exact h
    · skip
      exact absurd (nI_le (by omega) (by omega)) h8
  | succ j ih =>
    intro i hi
    have vs := hr.at (i := 152 + i) (by omega) (by omega)
    have bs : A.1.1 (152 + i) ≤ 2 := hr.2.1.at (by omega) (zbd_book (by omega))
    have ih := ih (i + 1) (by omega)
    have est : zah A.1.1 s (i + 1) = zah A.1.1 s i + (if A.1.1 (152 + i) = s then 1 else 0) := rfl
    rw [est] at ih
    refine Z_iload dX12_toldAhead_5 rfl ?_
    refine Z_iload_n dX12_toldAhead_7 rfl rfl ?_
    refine Z_icmp_ge (tgt := 40) dX12_toldAhead_8 (by decide) (fun h8 => ?_) (fun h8 => ?_)
    · skip
      exact absurd h8 (nI_ge (by omega) (by omega))
    · skip
      refine Z_iload_n dX12_toldAhead_11 rfl rfl ?_
      refine Z_aload_n dX12_toldAhead_12 rfl rfl ?_
      refine Z_getR dX12_toldAhead_13 cl_12 fl_X12_9_12 rfl (mw_i34 hm) (mw_p34_1 hm) ?_
      refine Z_sipush (v := 152) dX12_toldAhead_16 (by decide) ?_
      refine Z_iload dX12_toldAhead_19 rfl ?_
      refine Z_iadd dX12_toldAhead_21 ?_
      refine Z_ialdv dX12_toldAhead_22 (mw_i35 hm) (zix_e (m := 152 + i) (nI_add 152 i) (by omega) (by decide)) vs ?_
      refine Z_iload_n dX12_toldAhead_23 rfl rfl ?_
      refine Z_icmp_ne (tgt := 31) dX12_toldAhead_24 (by decide) (fun h24 => ?_) (fun h24 => ?_)
      · skip
        refine Z_iconst (v := 0) dX12_toldAhead_31 (by decide) ?_
        refine Z_iadd dX12_toldAhead_32 ?_
        refine Z_istore_n (L' := [_, _, _, _, _]) dX12_toldAhead_33 rfl (by decide) rfl rfl ?_
        refine Z_iinc (L' := [_, _, _, _, _]) dX12_toldAhead_34 rfl (by rfl : _ + Int32.ofInt 1 = _ + 1) (by decide) rfl rfl ?_
        refine Z_goto (tgt := 5) dX12_toldAhead_37 (by decide) ?_
        rw [nI_1]
        first
          | (rw [if_pos ((nI_eq (by omega) (by omega)).mp h24)] at ih; rw [nI_1]; exact ih)
          | (rw [if_neg (fun z => h24 (by rw [z])), Nat.add_zero] at ih; rw [Int32.add_zero]; exact ih)
      · skip
        refine Z_iconst (v := 1) dX12_toldAhead_27 (by decide) ?_
        refine Z_goto (tgt := 32) dX12_toldAhead_28 (by decide) ?_
        refine Z_iadd dX12_toldAhead_32 ?_
        refine Z_istore_n (L' := [_, _, _, _, _]) dX12_toldAhead_33 rfl (by decide) rfl rfl ?_
        refine Z_iinc (L' := [_, _, _, _, _]) dX12_toldAhead_34 rfl (by rfl : _ + Int32.ofInt 1 = _ + 1) (by decide) rfl rfl ?_
        refine Z_goto (tgt := 5) dX12_toldAhead_37 (by decide) ?_
        rw [nI_1]
        first
          | (rw [if_pos ((nI_eq (by omega) (by omega)).mp h24)] at ih; rw [nI_1]; exact ih)
          | (rw [if_neg (fun z => h24 (by rw [z])), Nat.add_zero] at ih; rw [Int32.add_zero]; exact ih)
theorem c_toldAhead {n s : Nat} (hr : MRel A α) (hn : n ≤ 12) (hs : s ≤ 2) (h : post (some (.int (nI (zah A.1.1 s n)))) α) : ZK G (d + 1) mX12_toldAhead [.ref (G.1 + 34), .int (nI n), .int (nI s)] α post := by
  refine ZK.of (n := 2) (by decide) (Nat.le_of_ble_eq_true rfl) rfl ?_
  refine Z_iconst (v := 0) dX12_toldAhead_0 (by decide) ?_
  refine Z_istore_n (L' := [_, _, _, _, _]) dX12_toldAhead_1 rfl (by decide) rfl rfl ?_
  refine Z_iconst (v := 0) dX12_toldAhead_2 (by decide) ?_
  refine Z_istore (L' := [_, _, _, _, _]) dX12_toldAhead_3 (by decide) rfl rfl ?_
  exact lp_told hr hn hs h n 0 (by omega)
def zod (σ : Nat → Nat) (a : Nat) : Nat → Nat → Nat → Nat → Nat × Nat
  | 0, _, u, l => (u, l)
  | j + 1, i, u, l => if u * (σ (a + σ (152 + i)) - zah σ (σ (152 + i)) i) = 0 then (0, 1) else zod σ a j (i + 1) (u * (σ (a + σ (152 + i)) - zah σ (σ (152 + i)) i)) (if σ a + σ (a + 1) + σ (a + 2) - i < 1 then 1 else l * (σ a + σ (a + 1) + σ (a + 2) - i))
theorem zod_s {σ : Nat → Nat} {a j i u l : Nat} : zod σ a (j + 1) i u l = if u * (σ (a + σ (152 + i)) - zah σ (σ (152 + i)) i) = 0 then (0, 1) else zod σ a j (i + 1) (u * (σ (a + σ (152 + i)) - zah σ (σ (152 + i)) i)) (if σ a + σ (a + 1) + σ (a + 2) - i < 1 then 1 else l * (σ a + σ (a + 1) + σ (a + 2) - i)) := rfl
theorem lp_odds {a : Nat} (ha : a = 6 ∨ a = 164) (b2 : A.1.1 2 ≤ 12)
    (h : ∀ (u l : Nat) (γ : AH), (u, l) = zod A.1.1 a (A.1.1 2) 0 1 1 → u < 2 ^ 61 → 0 < l → l < 2 ^ 61 → MRel A γ → frI (fun k => k = 34) α γ → hI γ = hI α → hJ γ 34 26 = lN u → hJ γ 34 27 = lN l → post none γ) :
    ∀ (j i u l : Nat), i + j = A.1.1 2 → u ≤ 5 ^ i → 0 < u → l ≤ 15 ^ i → 0 < l → zod A.1.1 a j i u l = zod A.1.1 a (A.1.1 2) 0 1 1 → ∀ (β : AH) (x3 x4 : Option Value), MRel A β → frI (fun k => k = 34) α β → hI β = hI α → hJ β 34 26 = lN u → hJ β 34 27 = lN l → Z G mX12_oddsFrom (d + 2) 12 [some (.ref (G.1 + 34)), some (.int (nI a)), some (.int (nI i)), x3, x4] [] β (0, 0) post := by
  have p5 : ∀ i, i ≤ 12 → 5 ^ i ≤ 5 ^ 12 := fun i hi => Nat.pow_le_pow_right (by decide) hi
  have p15 : ∀ i, i ≤ 12 → 15 ^ i ≤ 15 ^ 12 := fun i hi => Nat.pow_le_pow_right (by decide) hi
  have e5 : 5 ^ 12 = 244140625 := by decide
  have e15 : 15 ^ 12 = 129746337890625 := by decide
  intro j
  induction j with
  | zero =>
    intro i u l hi hu hu0 hl hl0 ez β x3 x4 hr hf hh h26 h27
    have hm := hr.mw
    have v2 := hr.at (i := 2) (by omega) (by omega)
    have q5 := p5 i (by omega)
    have q15 := p15 i (by omega)
    refine Z_iload_n dX12_oddsFrom_12 rfl rfl ?_
    refine Z_aload_n dX12_oddsFrom_13 rfl rfl ?_
    refine Z_getR dX12_oddsFrom_14 cl_12 fl_X12_9_12 rfl (mw_i34 hm) (mw_p34_1 hm) ?_
    refine Z_iconst (v := 2) dX12_oddsFrom_17 (by decide) ?_
    refine Z_ialdv dX12_oddsFrom_18 (mw_i35 hm) (zix_k (m := 2) (by decide)) v2 ?_
    refine Z_icmp_ge (tgt := 147) dX12_oddsFrom_19 (by decide) (fun h19 => ?_) (fun h19 => ?_)
    · skip
      refine Z_vret dX12_oddsFrom_147 rfl ⟨by decide, by decide⟩ ?_
      exact h u l β ez (by omega) hl0 (by omega) hr hf hh h26 h27
    · skip
      exact absurd (nI_le (by omega) (by omega)) h19
  | succ j ih =>
    intro i u l hi hu hu0 hl hl0 ez β x3 x4 hr hf hh h26 h27
    have hm := hr.mw
    have v2 := hr.at (i := 2) (by omega) (by omega)
    have vs := hr.at (i := 152 + i) (by omega) (by omega)
    have bs : A.1.1 (152 + i) ≤ 2 := hr.2.1.at (by omega) (zbd_book (by omega))
    have q5 := p5 i (by omega)
    have q15 := p15 i (by omega)
    have r5 := p5 (i + 1) (by omega)
    have r15 := p15 (i + 1) (by omega)
    have va : ∀ k, k ≤ 2 → hI β 35 (a + k) = nI (A.1.1 (a + k)) := fun k hk => hr.at (by omega) (by omega)
    have ba : ∀ k, k ≤ 2 → A.1.1 (a + k) ≤ 5 := fun k hk => hr.2.1.at (by omega) (by rcases ha with rfl | rfl; exact zbd_bag (by omega); exact zbd_oth (by omega))
    have vb := va _ bs
    have bb := ba _ bs
    have v_0 := va 0 (by omega)
    have v_1 := va 1 (by omega)
    have v_2 := va 2 (by omega)
    have b_0 := ba 0 (by omega)
    have b_1 := ba 1 (by omega)
    have b_2 := ba 2 (by omega)
    rw [Nat.add_zero] at v_0 b_0
    rw [zod_s] at ez
    have bz := zah_le (σ := A.1.1) (s := A.1.1 (152 + i)) i
    have ezh : nI (A.1.1 (a + A.1.1 (152 + i))) = nI (A.1.1 (a + A.1.1 (152 + i))) := rfl
    generalize hQ : A.1.1 a + A.1.1 (a + 1) + A.1.1 (a + 2) = Q at *
    generalize hH : A.1.1 (a + A.1.1 (152 + i)) = H at *
    generalize hN : zah A.1.1 (A.1.1 (152 + i)) i = N at *
    have m5 : u * (H - N) ≤ 5 ^ (i + 1) := by rw [Nat.pow_succ]; exact Nat.mul_le_mul hu (by omega)
    have m15 : l * (Q - i) ≤ 15 ^ (i + 1) := by rw [Nat.pow_succ]; exact Nat.mul_le_mul hl (by omega)
    have o15 : 1 ≤ 15 ^ (i + 1) := Nat.pow_pos (by decide)
    have tail2 : ∀ (l' : Nat) (γ : AH) (x3 x4 : Option Value), l' = (if Q - i < 1 then 1 else l * (Q - i)) → MRel A γ → frI (fun k => k = 34) α γ → hI γ = hI α → hJ γ 34 26 = lN (u * (H - N)) → Z G mX12_oddsFrom (d + 2) 123 [some (.ref (G.1 + 34)), some (.int (nI a)), some (.int (nI i)), x3, x4] [.long (lN l'), .ref (G.1 + 34)] γ (0, 0) post := by
      intro l' γ x3 x4 el hr1 hf1 hh1 g26
      have hm := hr1.mw
      have hl' : l' ≤ 15 ^ (i + 1) ∧ 0 < l' := by
        rw [el]
        split
        · exact ⟨o15, by omega⟩
        · exact ⟨m15, Nat.mul_pos hl0 (by omega)⟩
      rw [← el] at ez
      refine Z_putJ dX12_oddsFrom_123 cl_12 fl_X12_291_12 (Or.inl fn_12_27) rfl (mw_i34 hm) rfl rfl ?_
      refine Z_aload_n dX12_oddsFrom_126 rfl rfl ?_
      refine Z_getJv dX12_oddsFrom_127 cl_12 fl_X12_287_12 rfl (mw_i34 hm) (show hJ (sJ γ 34 27 (lN l')) 34 26 = lN (u * (H - N)) by rw [hJ_sJ, if_neg (by omega)]; exact g26) ?_
      refine Z_lconst (v := 0) dX12_oddsFrom_130 (by decide) ?_
      refine Z_lcmp dX12_oddsFrom_131 ?_
      refine Z_if_ne (tgt := 141) dX12_oddsFrom_132 (by decide) (fun h132 => ?_) (fun h132 => ?_)
      · skip
        refine Z_iinc (L' := [_, _, _, _, _]) dX12_oddsFrom_141 rfl (by rfl : _ + Int32.ofInt 1 = _ + 1) (by decide) rfl rfl ?_
        refine Z_goto (tgt := 12) dX12_oddsFrom_144 (by decide) ?_
        rw [nI_1]
        have e0 : ¬ u * (H - N) = 0 := fun z => h132 (lg_eq.mpr (by rw [z]; rfl))
        rw [if_neg e0] at ez
        exact ih (i + 1) _ _ (by omega) m5 (Nat.pos_of_ne_zero e0) hl'.1 hl'.2 ez _ _ _ hr1 (hf1.tr (frI.sJ rfl)) hh1 (by rw [hJ_sJ, if_neg (by omega)]; exact g26) (by rw [hJ_sJ, if_pos ⟨rfl, rfl⟩])
      · skip
        refine Z_aload_n dX12_oddsFrom_135 rfl rfl ?_
        refine Z_lconst (v := 1) dX12_oddsFrom_136 (by decide) ?_
        refine Z_putJ dX12_oddsFrom_137 cl_12 fl_X12_291_12 (Or.inl fn_12_27) rfl (mw_i34 hm) rfl rfl ?_
        refine Z_vret dX12_oddsFrom_140 rfl ⟨by decide, by decide⟩ ?_
        have e0 : u * (H - N) = 0 := (pk_lEQ (b := 0) (by omega) (by omega)).mp (lg_eq.mp h132)
        rw [if_pos e0] at ez
        exact h 0 1 _ ez (by omega) (by omega) (by omega) hr1 ((hf1.tr (frI.sJ rfl)).tr (frI.sJ rfl)) hh1 (by rw [hJ_sJ, if_neg (by omega), hJ_sJ, if_neg (by omega), g26, e0]) (by rw [hJ_sJ, if_pos ⟨rfl, rfl⟩]; rfl)
    have tail1 : ∀ (x3 : Option Value), Z G mX12_oddsFrom (d + 2) 101 [some (.ref (G.1 + 34)), some (.int (nI a)), some (.int (nI i)), x3, some (.int (nI Q - nI i))] [.long (lN (u * (H - N))), .ref (G.1 + 34)] β (0, 0) post := by
      intro x3
      refine Z_putJ dX12_oddsFrom_101 cl_12 fl_X12_287_12 (Or.inl fn_12_26) rfl (mw_i34 hm) rfl rfl ?_
      refine Z_aload_n dX12_oddsFrom_104 rfl rfl ?_
      refine Z_iload dX12_oddsFrom_105 rfl ?_
      refine Z_iconst (v := 1) dX12_oddsFrom_107 (by decide) ?_
      refine Z_icmp_ge (tgt := 115) dX12_oddsFrom_108 (by decide) (fun h108 => ?_) (fun h108 => ?_)
      · skip
        refine Z_aload_n dX12_oddsFrom_115 rfl rfl ?_
        refine Z_getJv dX12_oddsFrom_116 cl_12 fl_X12_291_12 rfl (mw_i34 hm) (show hJ (sJ β 34 26 (lN (u * (H - N)))) 34 27 = lN l by rw [hJ_sJ, if_neg (by omega)]; exact h27) ?_
        refine Z_iload dX12_oddsFrom_119 rfl ?_
        refine Z_i2l dX12_oddsFrom_121 ?_
        have hlt := (nI_dif1 (by omega) (by omega)).mp h108
        rw [pk_sub (by omega), nI_l (by omega)]
        refine Z_lmul dX12_oddsFrom_122 ?_
        rw [lN_mul]
        first
          | exact tail2 _ _ _ _ (by rw [if_neg (by omega)]) hr (hf.tr (frI.sJ rfl)) hh (by rw [hJ_sJ, if_pos ⟨rfl, rfl⟩])
          | (have hge : ¬ i < Q := fun z => h108 ((nI_dif1 (by omega) (by omega)).mpr z)
             exact tail2 1 _ _ _ (by rw [if_pos (by omega)]) hr (hf.tr (frI.sJ rfl)) hh (by rw [hJ_sJ, if_pos ⟨rfl, rfl⟩]))
      · skip
        refine Z_lconst (v := 1) dX12_oddsFrom_111 (by decide) ?_
        refine Z_goto (tgt := 123) dX12_oddsFrom_112 (by decide) ?_
        first
          | exact tail2 _ _ _ _ (by rw [if_neg (by omega)]) hr (hf.tr (frI.sJ rfl)) hh (by rw [hJ_sJ, if_pos ⟨rfl, rfl⟩])
          | (have hge : ¬ i < Q := fun z => h108 ((nI_dif1 (by omega) (by omega)).mpr z)
             exact tail2 1 _ _ _ (by rw [if_pos (by omega)]) hr (hf.tr (frI.sJ rfl)) hh (by rw [hJ_sJ, if_pos ⟨rfl, rfl⟩]))
    refine Z_iload_n dX12_oddsFrom_12 rfl rfl ?_
    refine Z_aload_n dX12_oddsFrom_13 rfl rfl ?_
    refine Z_getR dX12_oddsFrom_14 cl_12 fl_X12_9_12 rfl (mw_i34 hm) (mw_p34_1 hm) ?_
    refine Z_iconst (v := 2) dX12_oddsFrom_17 (by decide) ?_
    refine Z_ialdv dX12_oddsFrom_18 (mw_i35 hm) (zix_k (m := 2) (by decide)) v2 ?_
    refine Z_icmp_ge (tgt := 147) dX12_oddsFrom_19 (by decide) (fun h19 => ?_) (fun h19 => ?_)
    · skip
      exact absurd h19 (nI_ge (by omega) (by omega))
    · skip
      refine Z_aload_n dX12_oddsFrom_22 rfl rfl ?_
      refine Z_getR dX12_oddsFrom_23 cl_12 fl_X12_9_12 rfl (mw_i34 hm) (mw_p34_1 hm) ?_
      refine Z_iload_n dX12_oddsFrom_26 rfl rfl ?_
      refine Z_aload_n dX12_oddsFrom_27 rfl rfl ?_
      refine Z_getR dX12_oddsFrom_28 cl_12 fl_X12_9_12 rfl (mw_i34 hm) (mw_p34_1 hm) ?_
      refine Z_sipush (v := 152) dX12_oddsFrom_31 (by decide) ?_
      refine Z_iload_n dX12_oddsFrom_34 rfl rfl ?_
      refine Z_iadd dX12_oddsFrom_35 ?_
      refine Z_ialdv dX12_oddsFrom_36 (mw_i35 hm) (zix_e (m := 152 + i) (nI_add 152 i) (by omega) (by decide)) vs ?_
      refine Z_iadd dX12_oddsFrom_37 ?_
      refine Z_ialdv dX12_oddsFrom_38 (mw_i35 hm) (zix_e (nI_add a _) (by omega) (by decide)) vb ?_
      refine Z_aload_n dX12_oddsFrom_39 rfl rfl ?_
      refine Z_iload_n dX12_oddsFrom_40 rfl rfl ?_
      refine Z_aload_n dX12_oddsFrom_41 rfl rfl ?_
      refine Z_getR dX12_oddsFrom_42 cl_12 fl_X12_9_12 rfl (mw_i34 hm) (mw_p34_1 hm) ?_
      refine Z_sipush (v := 152) dX12_oddsFrom_45 (by decide) ?_
      refine Z_iload_n dX12_oddsFrom_48 rfl rfl ?_
      refine Z_iadd dX12_oddsFrom_49 ?_
      refine Z_ialdv dX12_oddsFrom_50 (mw_i35 hm) (zix_e (m := 152 + i) (nI_add 152 i) (by omega) (by decide)) vs ?_
      refine Z_V2z (ci := 12) dX12_oddsFrom_51 to_X12_toldAhead lk_X12_294 iv_X12_toldAhead ⟨rfl, rfl⟩ (mw_i34 hm) (Nat.le_of_ble_eq_true rfl) ⟨rfl, rfl⟩ ⟨by decide, by decide⟩ ?_
      refine c_toldAhead hr (by omega) bs ?_
      rw [hN]
      refine Z_isub dX12_oddsFrom_54 ?_
      refine Z_istore_n (L' := [_, _, _, _, _]) dX12_oddsFrom_55 rfl (by decide) rfl rfl ?_
      refine Z_aload_n dX12_oddsFrom_56 rfl rfl ?_
      refine Z_getR dX12_oddsFrom_57 cl_12 fl_X12_9_12 rfl (mw_i34 hm) (mw_p34_1 hm) ?_
      refine Z_iload_n dX12_oddsFrom_60 rfl rfl ?_
      refine Z_ialdv dX12_oddsFrom_61 (mw_i35 hm) (zix_nI (by omega) (by decide)) v_0 ?_
      refine Z_aload_n dX12_oddsFrom_62 rfl rfl ?_
      refine Z_getR dX12_oddsFrom_63 cl_12 fl_X12_9_12 rfl (mw_i34 hm) (mw_p34_1 hm) ?_
      refine Z_iload_n dX12_oddsFrom_66 rfl rfl ?_
      refine Z_iconst (v := 1) dX12_oddsFrom_67 (by decide) ?_
      refine Z_iadd dX12_oddsFrom_68 ?_
      refine Z_ialdv dX12_oddsFrom_69 (mw_i35 hm) (zix_e (nI_add a 1) (by omega) (by decide)) v_1 ?_
      refine Z_iadd dX12_oddsFrom_70 ?_
      rw [nI_add]
      refine Z_aload_n dX12_oddsFrom_71 rfl rfl ?_
      refine Z_getR dX12_oddsFrom_72 cl_12 fl_X12_9_12 rfl (mw_i34 hm) (mw_p34_1 hm) ?_
      refine Z_iload_n dX12_oddsFrom_75 rfl rfl ?_
      refine Z_iconst (v := 2) dX12_oddsFrom_76 (by decide) ?_
      refine Z_iadd dX12_oddsFrom_77 ?_
      refine Z_ialdv dX12_oddsFrom_78 (mw_i35 hm) (zix_e (nI_add a 2) (by omega) (by decide)) v_2 ?_
      refine Z_iadd dX12_oddsFrom_79 ?_
      rw [nI_add, hQ]
      refine Z_iload_n dX12_oddsFrom_80 rfl rfl ?_
      refine Z_isub dX12_oddsFrom_81 ?_
      refine Z_istore (L' := [_, _, _, _, _]) dX12_oddsFrom_82 (by decide) rfl rfl ?_
      refine Z_aload_n dX12_oddsFrom_84 rfl rfl ?_
      refine Z_iload_n dX12_oddsFrom_85 rfl rfl ?_
      refine Z_iconst (v := 1) dX12_oddsFrom_86 (by decide) ?_
      refine Z_icmp_ge (tgt := 94) dX12_oddsFrom_87 (by decide) (fun h87 => ?_) (fun h87 => ?_)
      · skip
        refine Z_aload_n dX12_oddsFrom_94 rfl rfl ?_
        refine Z_getJv dX12_oddsFrom_95 cl_12 fl_X12_287_12 rfl (mw_i34 hm) h26 ?_
        refine Z_iload_n dX12_oddsFrom_98 rfl rfl ?_
        refine Z_i2l dX12_oddsFrom_99 ?_
        have hlt := (nI_dif1 (by omega) (by omega)).mp h87
        rw [pk_sub (by omega), nI_l (by omega)]
        refine Z_lmul dX12_oddsFrom_100 ?_
        rw [lN_mul]
        first
          | exact tail1 _
          | (have hge : ¬ N < H := fun z => h87 ((nI_dif1 (by omega) (by omega)).mpr z)
             have e0 : u * (H - N) = 0 := by rw [show H - N = 0 by omega]; rfl
             have := tail1 (some (.int (nI H - nI N)))
             rw [e0] at this
             exact this)
      · skip
        refine Z_lconst (v := 0) dX12_oddsFrom_90 (by decide) ?_
        refine Z_goto (tgt := 101) dX12_oddsFrom_91 (by decide) ?_
        first
          | exact tail1 _
          | (have hge : ¬ N < H := fun z => h87 ((nI_dif1 (by omega) (by omega)).mpr z)
             have e0 : u * (H - N) = 0 := by rw [show H - N = 0 by omega]; rfl
             have := tail1 (some (.int (nI H - nI N)))
             rw [e0] at this
             exact this)
theorem c_oddsFrom {a : Nat} (ha : a = 6 ∨ a = 164) (hr : MRel A α) (h : ∀ (u l : Nat) (γ : AH), (u, l) = zod A.1.1 a (A.1.1 2) 0 1 1 → u < 2 ^ 61 → 0 < l → l < 2 ^ 61 → MRel A γ → frI (fun k => k = 34) α γ → hI γ = hI α → hJ γ 34 26 = lN u → hJ γ 34 27 = lN l → post none γ) : ZK G (d + 2) mX12_oddsFrom [.ref (G.1 + 34), .int (nI a)] α post := by
  have hm := hr.mw
  have b2 : A.1.1 2 ≤ 12 := hr.2.1.at (by omega) rfl
  refine ZK.of (n := 3) (by decide) (Nat.le_of_ble_eq_true rfl) rfl ?_
  refine Z_aload_n dX12_oddsFrom_0 rfl rfl ?_
  refine Z_lconst (v := 1) dX12_oddsFrom_1 (by decide) ?_
  refine Z_putJ dX12_oddsFrom_2 cl_12 fl_X12_287_12 (Or.inl fn_12_26) rfl (mw_i34 hm) rfl rfl ?_
  refine Z_aload_n dX12_oddsFrom_5 rfl rfl ?_
  refine Z_lconst (v := 1) dX12_oddsFrom_6 (by decide) ?_
  refine Z_putJ dX12_oddsFrom_7 cl_12 fl_X12_291_12 (Or.inl fn_12_27) rfl (mw_i34 hm) rfl rfl ?_
  refine Z_iconst (v := 0) dX12_oddsFrom_10 (by decide) ?_
  refine Z_istore_n (L' := [_, _, _, _, _]) dX12_oddsFrom_11 rfl (by decide) rfl rfl ?_
  exact lp_odds ha b2 h (A.1.1 2) 0 1 1 (by omega) (by decide) (by decide) (by decide) (by decide) rfl _ none none hr (((frI.rf (F := fun k => k = 34)).tr (frI.sJ rfl)).tr (frI.sJ rfl)) rfl (by rw [hJ_sJ, if_neg (by omega), hJ_sJ, if_pos ⟨rfl, rfl⟩]; rfl) (by rw [hJ_sJ, if_pos ⟨rfl, rfl⟩]; rfl)
def zodds (σ : Nat → Nat) (a : Nat) : Nat × Nat := zod σ a (σ 2) 0 1 1
def sp_likely (S : ZS) (p : Int32) : Int64 := if 0 ≤ p ∧ p ≤ 1 then lZ (zlow ((zodds S.1 6).1 : Int) (zodds S.1 6).2 p) else zNO
theorem c_mlikely {p : Int32} (hr : MRel A α) (h : ∀ β, MRel A β → frI mId α β → post (some (.long (sp_likely A.1 p))) β) : ZK G (d + 3) mX12_likely [.ref (G.1 + 34), .int p] α post := by
  have hm := hr.mw
  refine ZK.of (n := 0) (by decide) (Nat.le_of_ble_eq_true rfl) rfl ?_
  refine Z_iload_n dX12_likely_0 rfl rfl ?_
  refine Z_iconst (v := 0) dX12_likely_1 (by decide) ?_
  refine Z_iconst (v := 1) dX12_likely_2 (by decide) ?_
  refine Z_S3z dX12_likely_3 to_X12_in lk_X12_69 sc_X12_in (Nat.le_of_ble_eq_true rfl) ⟨rfl, rfl⟩ ⟨by decide, by decide⟩ ?_
  refine c_in ?_
  refine Z_if_ne (tgt := 13) dX12_likely_6 (by decide) (fun h6 => ?_) (fun h6 => ?_)
  · skip
    refine Z_aload_n dX12_likely_13 rfl rfl ?_
    refine Z_bipush (v := 6) dX12_likely_14 (by decide) ?_
    refine Z_V1z (ci := 12) dX12_likely_16 to_X12_oddsFrom lk_X12_297 iv_X12_oddsFrom ⟨rfl, rfl⟩ (mw_i34 hm) (Nat.le_of_ble_eq_true rfl) ⟨rfl, rfl⟩ ⟨by decide, by decide⟩ ?_
    refine c_oddsFrom (a := 6) (Or.inl rfl) hr (fun u l γ e hu hl0 hl hr1 hf1 _ g26 g27 => ?_)
    have hm := hr1.mw
    have hp := h γ hr1 (hf1.mono (fun k hk => by subst hk; exact mid34))
    have es : sp_likely A.1 p = lZ (zlow (u : Int) l p) := by
      unfold sp_likely
      rw [if_pos (dec_t h6), show zodds A.1.1 6 = (u, l) from e.symm]
    rw [es] at hp
    refine Z_aload_n dX12_likely_19 rfl rfl ?_
    refine Z_getJv dX12_likely_20 cl_12 fl_X12_287_12 rfl (mw_i34 hm) g26 ?_
    refine Z_aload_n dX12_likely_23 rfl rfl ?_
    refine Z_getJv dX12_likely_24 cl_12 fl_X12_291_12 rfl (mw_i34 hm) g27 ?_
    refine Z_iload_n dX12_likely_27 rfl rfl ?_
    refine Z_S3z dX12_likely_28 to_X12_lowest lk_X12_261 sc_X12_lowest (Nat.le_of_ble_eq_true rfl) ⟨rfl, rfl⟩ ⟨by decide, by decide⟩ ?_
    rw [← lZ_nat u]
    refine c_lowest (by omega) (by omega) (by omega) hl0 ?_
    refine Z_lret dX12_likely_31 rfl ⟨by decide, by decide⟩ ?_
    exact hp
  · skip
    refine Z_ldc2 dX12_likely_9 kc_X12_259 ?_
    refine Z_lret dX12_likely_12 rfl ⟨by decide, by decide⟩ ?_
    have e : sp_likely A.1 p = zNO := if_neg (dec_f h6)
    rw [e] at h; exact h α hr frI.rf
end MO1
