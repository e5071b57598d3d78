section MV3
variable {G : ZG} {d : Nat} {α β : AH} {post : Option Value → AH → Prop} {τ : Nat → Nat} {N a p o c : Nat} {f f0 : Nat → Int32} {w : Int32} {A : ZA}
theorem RS_1 {i : Nat} {x : Int32} : sI β 35 i x = sIr β 35 (u1 (hI β 35) i x) := rfl
theorem RS_34 : hI (sIr β 35 f) 34 = hI β 34 := by
  show u1 β.2.2.1 35 f 34 = β.2.2.1 34
  exact u1_n (by decide)
theorem RS_35 : hI (sIr β 35 f) 35 = f := by
  show u1 β.2.2.1 35 f 35 = f
  exact u1_s _ _ _
def fI (f : Nat → Int32) (a : Nat) : Nat → Nat → Int32
  | 0 => f
  | i + 1 => u1 (fI f a i) (167 + 3 * a + i) 1
theorem lp_init (hmw : MW β) (ha : a < 5) (h4 : hI β 34 4 = nI a) (h : Z G mX12_valley (d + 26) 99 [some (.ref (G.1 + 34)), none] [] (sIr β 35 (fI f a 3)) (0, 0) post) : ∀ (j i : Nat), i + j = 3 → Z G mX12_valley (d + 26) 70 [some (.ref (G.1 + 34)), some (.int (nI i))] [] (sIr β 35 (fI f a i)) (0, 0) post := by
  have hm : ∀ {f : Nat → Int32}, MW (sIr β 35 f) := hmw
  intro j
  induction j with
  | zero =>
    intro i hi
    have hi : i = 3 := by omega
    subst hi
    have h := Z_less (L := [some (.ref (G.1 + 34)), some (.int (nI 3))]) (L' := [some (.ref (G.1 + 34)), none]) ⟨rfl, trivial⟩ h
    refine Z_iload_n dX12_valley_70 rfl rfl ?_
    refine Z_iconst (v := 3) dX12_valley_71 (by decide) ?_
    refine Z_icmp_ge (tgt := 99) dX12_valley_72 (by decide) (fun h72 => ?_) (fun h72 => ?_)
    · skip
      exact h
    · skip
      exact absurd (by decide) h72
  | succ j ih =>
    intro i hi
    have ex : (167 : Int32) + 3 * nI a + nI i = nI (167 + 3 * a + i) := by
      rw [show (167 : Int32) = nI 167 from rfl, show (3 : Int32) = nI 3 from rfl, pk_mul, nI_add, nI_add]
    refine Z_iload_n dX12_valley_70 rfl rfl ?_
    refine Z_iconst (v := 3) dX12_valley_71 (by decide) ?_
    refine Z_icmp_ge (tgt := 99) dX12_valley_72 (by decide) (fun h72 => ?_) (fun h72 => ?_)
    · skip
      exact absurd h72 (nI_ge (a := i) (b := 3) (by omega) (by omega))
    · skip
      refine Z_aload_n dX12_valley_75 rfl rfl ?_
      refine Z_getR dX12_valley_76 cl_12 fl_X12_9_12 rfl (mw_i34 hm) (mw_p34_1 hm) ?_
      refine Z_sipush (v := 167) dX12_valley_79 (by decide) ?_
      refine Z_iconst (v := 3) dX12_valley_82 (by decide) ?_
      refine Z_aload_n dX12_valley_83 rfl rfl ?_
      refine Z_getIv dX12_valley_84 cl_12 fl_X12_104_12 rfl (mw_i34 hm) (show hI (sIr β 35 (fI f a i)) 34 4 = nI a by rw [RS_34]; exact h4) ?_
      refine Z_imul dX12_valley_87 ?_
      refine Z_iadd dX12_valley_88 ?_
      refine Z_iload_n dX12_valley_89 rfl rfl ?_
      refine Z_iadd dX12_valley_90 ?_
      rw [ex]
      refine Z_iconst (v := 1) dX12_valley_91 (by decide) ?_
      refine Z_iast dX12_valley_92 (mw_i35 hm) (zix_nI (m := 167 + 3 * a + i) (by omega) (by decide)) ?_
      rw [RS_f]
      refine Z_iinc (L' := [_, _]) dX12_valley_93 rfl (by rfl : _ + Int32.ofInt 1 = _ + 1) (by decide) rfl rfl ?_
      refine Z_goto (tgt := 70) dX12_valley_96 (by decide) ?_
      rw [nI_1]
      exact ih (i + 1) (by omega)
theorem ed_valley (hC : PC β f0 τ N a) (r : Bool × Nat × List ZCl) (hs : mVs f0 f a N r) (h1 : f0 1 = nI a)
    (hbad : ¬ (r.1 = true ∧ r.2.1 = N) → mVJ f0 f a → post (some (.int (-10 - nI r.2.1))) (PS β f r.2.1 (b2i (!r.1)) 0))
    (hok : r.1 = true → r.2.1 = N → mVR f0 f a r.2.2 → post (some (.int (nI a))) (PS β (u1 (u1 f 1 (nI (a + 1))) 4 (nI a)) r.2.1 0 0)) :
    Z G mX12_valley (d + 26) 162 [some (.ref (G.1 + 34)), none] [] (PS β f r.2.1 (b2i (!r.1)) 0) (0, 0) post := by
  have hm : ∀ {f : Nat → Int32} {p : Nat} {w : Int32} {o : Nat}, MW (PS β f p w o) := hC.1
  have hN := hC.2.2.2.1
  have ha := hC.2.2.2.2.1
  have hs1 := hs.1
  have hs2 := hs.2.2
  cases hr : r.1 with
  | true =>
    rw [if_pos hr] at hs2
    have hj := hs2.1.junk (fun q hq => (hs.2.1 q hq).1) (by omega)
    have f1 : f 1 = nI a := by rw [hs2.1.2.2.2.2 1 (by unfold vIn; omega)]; exact h1
    rw [hr] at hbad
    refine Z_aload_n dX12_valley_162 rfl rfl ?_
    refine Z_getIv dX12_valley_163 cl_12 fl_X12_83_12 rfl (mw_i34 hm) PS_7 ?_
    refine Z_if_ne (tgt := 180) dX12_valley_166 (by decide) (fun h166 => ?_) (fun h166 => ?_)
    · skip
      exact absurd rfl h166
    · skip
      refine Z_aload_n dX12_valley_169 rfl rfl ?_
      refine Z_getIv dX12_valley_170 cl_12 fl_X12_77_12 rfl (mw_i34 hm) PS_5 ?_
      refine Z_aload_n dX12_valley_173 rfl rfl ?_
      refine Z_getIv dX12_valley_174 cl_12 fl_X12_80_12 rfl (mw_i34 hm) (PS_6.trans hC.2.1) ?_
      refine Z_icmp_eq (tgt := 188) dX12_valley_177 (by decide) (fun h177 => ?_) (fun h177 => ?_)
      · skip
        refine Z_aload_n dX12_valley_188 rfl rfl ?_
        refine Z_getR dX12_valley_189 cl_12 fl_X12_9_12 rfl (mw_i34 hm) (mw_p34_1 hm) ?_
        refine Z_iconst (v := 1) dX12_valley_192 (by decide) ?_
        refine Z_dup2 dX12_valley_193 rfl rfl ?_
        refine Z_ialdv dX12_valley_194 (mw_i35 hm) (zix_k (m := 1) (by decide)) f1 ?_
        refine Z_iconst (v := 1) dX12_valley_195 (by decide) ?_
        refine Z_iadd dX12_valley_196 ?_
        rw [nI_1]
        refine Z_iast dX12_valley_197 (mw_i35 hm) (zix_k (m := 1) (by decide)) ?_
        rw [PS_f]
        refine Z_aload_n dX12_valley_198 rfl rfl ?_
        refine Z_getR dX12_valley_199 cl_12 fl_X12_9_12 rfl (mw_i34 hm) (mw_p34_1 hm) ?_
        refine Z_iconst (v := 4) dX12_valley_202 (by decide) ?_
        refine Z_aload_n dX12_valley_203 rfl rfl ?_
        refine Z_getIv dX12_valley_204 cl_12 fl_X12_104_12 rfl (mw_i34 hm) (PS_4.trans hC.2.2.1) ?_
        refine Z_iast dX12_valley_207 (mw_i35 hm) (zix_k (m := 4) (by decide)) ?_
        rw [PS_f]
        refine Z_aload_n dX12_valley_208 rfl rfl ?_
        refine Z_getIv dX12_valley_209 cl_12 fl_X12_104_12 rfl (mw_i34 hm) (PS_4.trans hC.2.2.1) ?_
        refine Z_iret dX12_valley_212 rfl rfl ⟨by decide, by decide⟩ ?_
        exact hok hr ((nI_eq (by omega) (by omega)).mp h177) hs2.1
      · skip
        refine Z_bipush (v := -10) dX12_valley_180 (by decide) ?_
        refine Z_aload_n dX12_valley_182 rfl rfl ?_
        refine Z_getIv dX12_valley_183 cl_12 fl_X12_77_12 rfl (mw_i34 hm) PS_5 ?_
        refine Z_isub dX12_valley_186 ?_
        refine Z_iret dX12_valley_187 rfl rfl ⟨by decide, by decide⟩ ?_
        exact hbad (fun z => h177 (by rw [z.2])) hj
  | false =>
    rw [if_neg (fun z => by rw [hr] at z; exact Bool.false_ne_true z)] at hs2
    rw [hr] at hbad
    refine Z_aload_n dX12_valley_162 rfl rfl ?_
    refine Z_getIv dX12_valley_163 cl_12 fl_X12_83_12 rfl (mw_i34 hm) PS_7 ?_
    refine Z_if_ne (tgt := 180) dX12_valley_166 (by decide) (fun h166 => ?_) (fun h166 => ?_)
    · skip
      refine Z_bipush (v := -10) dX12_valley_180 (by decide) ?_
      refine Z_aload_n dX12_valley_182 rfl rfl ?_
      refine Z_getIv dX12_valley_183 cl_12 fl_X12_77_12 rfl (mw_i34 hm) PS_5 ?_
      refine Z_isub dX12_valley_186 ?_
      refine Z_iret dX12_valley_187 rfl rfl ⟨by decide, by decide⟩ ?_
      exact hbad (fun z => Bool.false_ne_true z.1) hs2
    · skip
      exact absurd h166 (by decide)
/-- valley(), over heaps -/
theorem c_mvalley0 (hr : MRel A α)
    (hfull : A.1.1 1 = 5 → post (some (.int (-4))) α)
    (hbad : ∀ f, A.1.1 1 < 5 → ¬ ((pText (fun i => A.1.1 (12 + i)) (A.1.1 3)).1 = true ∧ (pText (fun i => A.1.1 (12 + i)) (A.1.1 3)).2.1 = A.1.1 3) → mVJ (u1 (hI α 35) 3 0) f (A.1.1 1) → post (some (.int (-10 - nI (pText (fun i => A.1.1 (12 + i)) (A.1.1 3)).2.1))) (PS (sI (sI α 34 4 (nI (A.1.1 1))) 34 6 (nI (A.1.1 3))) f (pText (fun i => A.1.1 (12 + i)) (A.1.1 3)).2.1 (b2i (!(pText (fun i => A.1.1 (12 + i)) (A.1.1 3)).1)) 0))
    (hok : ∀ f, A.1.1 1 < 5 → (pText (fun i => A.1.1 (12 + i)) (A.1.1 3)).1 = true → (pText (fun i => A.1.1 (12 + i)) (A.1.1 3)).2.1 = A.1.1 3 → (∀ q ∈ (pText (fun i => A.1.1 (12 + i)) (A.1.1 3)).2.2, clWo q) → (vOps (pText (fun i => A.1.1 (12 + i)) (A.1.1 3)).2.2).length ≤ 140 → mVR (u1 (hI α 35) 3 0) f (A.1.1 1) (pText (fun i => A.1.1 (12 + i)) (A.1.1 3)).2.2 → post (some (.int (nI (A.1.1 1)))) (PS (sI (sI α 34 4 (nI (A.1.1 1))) 34 6 (nI (A.1.1 3))) (u1 (u1 f 1 (nI (A.1.1 1 + 1))) 4 (nI (A.1.1 1))) (pText (fun i => A.1.1 (12 + i)) (A.1.1 3)).2.1 0 0)) : ZK G (d + 26) mX12_valley [.ref (G.1 + 34)] α post := by
  have hm := hr.mw
  have v1 := hr.at (i := 1) (by omega) (by omega)
  have v3 := hr.at (i := 3) (by omega) (by omega)
  have b1 : A.1.1 1 ≤ 5 := hr.2.1.at (by omega) rfl
  have b3 : A.1.1 3 ≤ 100 := hr.2.1.at (by omega) rfl
  have hτ : ∀ i, i < A.1.1 3 → A.1.1 (12 + i) ≤ 127 := fun i hi => hr.2.1.at (by omega) (zbd_tape (by omega))
  refine ZK.of (n := 1) (by decide) (Nat.le_of_ble_eq_true rfl) rfl ?_
  generalize hτe : (fun i => A.1.1 (12 + i)) = τ at *
  have hτ2 : ∀ i, i < A.1.1 3 → τ i ≤ 127 := fun i hi => by rw [← hτe]; exact hτ i hi
  have hv : ∀ i, i < A.1.1 3 → hI α 35 (12 + i) = nI (τ i) := fun i hi => by rw [← hτe]; exact hr.at (by omega) (by omega)
  generalize hN : A.1.1 3 = N at *
  generalize ha : A.1.1 1 = a at *
  by_cases h5 : a = 5
  · skip
    refine Z_aload_n dX12_valley_0 rfl rfl ?_
    refine Z_getR dX12_valley_1 cl_12 fl_X12_9_12 rfl (mw_i34 hm) (mw_p34_1 hm) ?_
    refine Z_iconst (v := 1) dX12_valley_4 (by decide) ?_
    refine Z_ialdv dX12_valley_5 (mw_i35 hm) (zix_k (m := 1) (by decide)) v1 ?_
    refine Z_iconst (v := 5) dX12_valley_6 (by decide) ?_
    refine Z_icmp_ne (tgt := 13) dX12_valley_7 (by decide) (fun h7 => ?_) (fun h7 => ?_)
    · skip
      exact absurd (by rw [h5]; rfl) h7
    · skip
      refine Z_bipush (v := -4) dX12_valley_10 (by decide) ?_
      refine Z_iret dX12_valley_12 rfl rfl ⟨by decide, by decide⟩ ?_
      exact hfull h5
  · have ha5 : a < 5 := by omega
    generalize hβ : sI (sI α 34 4 (nI a)) 34 6 (nI N) = β at *
    have e4 : hI β 34 4 = nI a := by rw [← hβ, hI_sI, if_neg (by omega), hI_sI, if_pos ⟨rfl, rfl⟩]
    have e6 : hI β 34 6 = nI N := by rw [← hβ, hI_sI, if_pos ⟨rfl, rfl⟩]
    have e35 : hI β 35 = hI α 35 := by rw [← hβ, sI_ne (by decide), sI_ne (by decide)]
    have hmβ : MW β := by rw [← hβ]; exact hm
    have hC : PC β (u1 (hI α 35) 3 0) τ N a := ⟨hmβ, e6, e4, b3, ha5, fun i hi => by rw [u1_n (by omega)]; exact hv i hi, hτ2⟩
    have hm2 : ∀ {f : Nat → Int32}, MW (sIr β 35 f) := hmβ
    have hm3 : ∀ {f : Nat → Int32} {p : Nat} {w : Int32} {o : Nat}, MW (PS β f p w o) := hmβ
    have hR : mVR (u1 (hI α 35) 3 0) (fI (u1 (u1 (u1 (hI α 35) 3 0) (182 + a) 0) (187 + a) 0) a 3) a [] := by
      refine ⟨fun k hk => ?_, ?_, ?_, fun j hj => absurd hj (Nat.not_lt_zero j), fun i hi => ?_⟩
      · have : k = 0 ∨ k = 1 ∨ k = 2 := by omega
        rcases this with rfl | rfl | rfl
        · show u1 (u1 (u1 (u1 (u1 (u1 (hI α 35) 3 0) (182 + a) 0) (187 + a) 0) (167 + 3 * a + 0) 1) (167 + 3 * a + 1) 1) (167 + 3 * a + 2) 1 (167 + 3 * a + 0) = _
          rw [u1_n (by omega), u1_n (by omega), u1_s]; rfl
        · show u1 (u1 (u1 (u1 (u1 (u1 (hI α 35) 3 0) (182 + a) 0) (187 + a) 0) (167 + 3 * a + 0) 1) (167 + 3 * a + 1) 1) (167 + 3 * a + 2) 1 (167 + 3 * a + 1) = _
          rw [u1_n (by omega), u1_s]; rfl
        · show u1 (u1 (u1 (u1 (u1 (u1 (hI α 35) 3 0) (182 + a) 0) (187 + a) 0) (167 + 3 * a + 0) 1) (167 + 3 * a + 1) 1) (167 + 3 * a + 2) 1 (167 + 3 * a + 2) = _
          rw [u1_s]; rfl
      · show u1 (u1 (u1 (u1 (u1 (u1 (hI α 35) 3 0) (182 + a) 0) (187 + a) 0) (167 + 3 * a + 0) 1) (167 + 3 * a + 1) 1) (167 + 3 * a + 2) 1 (182 + a) = _
        rw [u1_n (by omega), u1_n (by omega), u1_n (by omega), u1_n (by omega), u1_s]; rfl
      · show u1 (u1 (u1 (u1 (u1 (u1 (hI α 35) 3 0) (182 + a) 0) (187 + a) 0) (167 + 3 * a + 0) 1) (167 + 3 * a + 1) 1) (167 + 3 * a + 2) 1 (187 + a) = _
        rw [u1_n (by omega), u1_n (by omega), u1_n (by omega), u1_s]; rfl
      · show u1 (u1 (u1 (u1 (u1 (u1 (hI α 35) 3 0) (182 + a) 0) (187 + a) 0) (167 + 3 * a + 0) 1) (167 + 3 * a + 1) 1) (167 + 3 * a + 2) 1 i = _
        unfold vIn at hi
        rw [u1_n (by omega), u1_n (by omega), u1_n (by omega), u1_n (by omega), u1_n (by omega)]
    have hC1 := hR.pc hC
    have st := mVs.step (p := 0) hC (Nat.zero_le _) hR (Nat.le_refl _) (fun q hq => by cases hq)
    have hend := lp_valley (G := G) (d := d) (post := post) hC (fun f hs => ed_valley hC (pText τ N) hs (by rw [u1_n (by omega)]; exact v1) (fun z hj => hbad f ha5 z hj) (fun z1 z2 hR => hok f ha5 z1 z2 hs.2.1 (by have h2 := hs.2.2; rw [if_pos z1] at h2; have := hs.1; omega) hR)) 9 1 (pNx τ N 0 []) rfl rfl _ st
    have at99 : Z G mX12_valley (d + 26) 99 [some (.ref (G.1 + 34)), none] [] (sIr β 35 (fI (u1 (u1 (u1 (hI α 35) 3 0) (182 + a) 0) (187 + a) 0) a 3)) (0, 0) post := by
      generalize fI (u1 (u1 (u1 (hI α 35) 3 0) (182 + a) 0) (187 + a) 0) a 3 = f at *
      have hm : MW (sIr β 35 f) := hmβ
      refine Z_aload_n dX12_valley_99 rfl rfl ?_
      refine Z_iconst (v := 0) dX12_valley_100 (by decide) ?_
      refine Z_putI dX12_valley_101 cl_12 fl_X12_77_12 (Or.inl fn_12_5) rfl (mw_i34 hm) rfl rfl ?_
      refine Z_aload_n dX12_valley_104 rfl rfl ?_
      refine Z_iconst (v := 0) dX12_valley_105 (by decide) ?_
      refine Z_putI dX12_valley_106 cl_12 fl_X12_83_12 (Or.inl fn_12_7) rfl (mw_i34 hm) rfl rfl ?_
      refine Z_aload_n dX12_valley_109 rfl rfl ?_
      refine Z_iconst (v := 0) dX12_valley_110 (by decide) ?_
      refine Z_putI dX12_valley_111 cl_12 fl_X12_107_12 (Or.inl fn_12_8) rfl (mw_i34 hm) rfl rfl ?_
      rw [RS_PS]
      refine Z_iconst (v := 1) dX12_valley_114 (by decide) ?_
      refine Z_istore_n (L' := [_, _]) dX12_valley_115 rfl (by decide) rfl rfl ?_
      have hm := @hm3
      refine Z_aload_n dX12_valley_116 rfl rfl ?_
      refine Z_V0z (ci := 12) dX12_valley_117 to_X12_clauseHere lk_X12_152 iv_X12_clauseHere ⟨rfl, rfl⟩ (mw_i34 hm) (Nat.le_of_ble_eq_true rfl) ⟨rfl, rfl⟩ ⟨by decide, by decide⟩ ?_
      refine c_clauseHere (d := d) hC1 (Nat.zero_le _) hR.2.2.1 (Nat.le_refl _) ?_
      exact hend
    have at70 := lp_init (d := d) hmβ ha5 e4 at99 3 0 rfl
    have s3 : sI β 35 3 0 = sIr β 35 (u1 (hI α 35) 3 0) := by rw [RS_1, e35]
    refine Z_aload_n dX12_valley_0 rfl rfl ?_
    refine Z_getR dX12_valley_1 cl_12 fl_X12_9_12 rfl (mw_i34 hm) (mw_p34_1 hm) ?_
    refine Z_iconst (v := 1) dX12_valley_4 (by decide) ?_
    refine Z_ialdv dX12_valley_5 (mw_i35 hm) (zix_k (m := 1) (by decide)) v1 ?_
    refine Z_iconst (v := 5) dX12_valley_6 (by decide) ?_
    refine Z_icmp_ne (tgt := 13) dX12_valley_7 (by decide) (fun h7 => ?_) (fun h7 => ?_)
    · skip
      refine Z_aload_n dX12_valley_13 rfl rfl ?_
      refine Z_aload_n dX12_valley_14 rfl rfl ?_
      refine Z_getR dX12_valley_15 cl_12 fl_X12_9_12 rfl (mw_i34 hm) (mw_p34_1 hm) ?_
      refine Z_iconst (v := 1) dX12_valley_18 (by decide) ?_
      refine Z_ialdv dX12_valley_19 (mw_i35 hm) (zix_k (m := 1) (by decide)) v1 ?_
      refine Z_putI dX12_valley_20 cl_12 fl_X12_104_12 (Or.inl fn_12_4) rfl (mw_i34 hm) rfl rfl ?_
      refine Z_aload_n dX12_valley_23 rfl rfl ?_
      refine Z_aload_n dX12_valley_24 rfl rfl ?_
      refine Z_getR dX12_valley_25 cl_12 fl_X12_9_12 rfl (mw_i34 hm) (mw_p34_1 hm) ?_
      refine Z_iconst (v := 3) dX12_valley_28 (by decide) ?_
      refine Z_ialdv dX12_valley_29 (mw_i35 hm) (zix_k (m := 3) (by decide)) (show hI (sI α 34 4 (nI a)) 35 3 = nI N by rw [sI_ne (by decide)]; exact v3) ?_
      refine Z_putI dX12_valley_30 cl_12 fl_X12_80_12 (Or.inl fn_12_6) rfl (mw_i34 hm) rfl rfl ?_
      rw [hβ]
      have hm := hmβ
      refine Z_aload_n dX12_valley_33 rfl rfl ?_
      refine Z_getR dX12_valley_34 cl_12 fl_X12_9_12 rfl (mw_i34 hm) (mw_p34_1 hm) ?_
      refine Z_iconst (v := 3) dX12_valley_37 (by decide) ?_
      refine Z_iconst (v := 0) dX12_valley_38 (by decide) ?_
      refine Z_iast dX12_valley_39 (mw_i35 hm) (zix_k (m := 3) (by decide)) ?_
      rw [s3]
      have hm := @hm2
      refine Z_aload_n dX12_valley_40 rfl rfl ?_
      refine Z_getR dX12_valley_41 cl_12 fl_X12_9_12 rfl (mw_i34 hm) (mw_p34_1 hm) ?_
      refine Z_sipush (v := 182) dX12_valley_44 (by decide) ?_
      refine Z_aload_n dX12_valley_47 rfl rfl ?_
      refine Z_getIv dX12_valley_48 cl_12 fl_X12_104_12 rfl (mw_i34 hm) (show hI (sIr β 35 _) 34 4 = nI a by rw [RS_34]; exact e4) ?_
      refine Z_iadd dX12_valley_51 ?_
      refine Z_iconst (v := 0) dX12_valley_52 (by decide) ?_
      refine Z_iast dX12_valley_53 (mw_i35 hm) (zix_e (m := 182 + a) (nI_add 182 a) (by omega) (by decide)) ?_
      rw [RS_f]
      refine Z_aload_n dX12_valley_54 rfl rfl ?_
      refine Z_getR dX12_valley_55 cl_12 fl_X12_9_12 rfl (mw_i34 hm) (mw_p34_1 hm) ?_
      refine Z_sipush (v := 187) dX12_valley_58 (by decide) ?_
      refine Z_aload_n dX12_valley_61 rfl rfl ?_
      refine Z_getIv dX12_valley_62 cl_12 fl_X12_104_12 rfl (mw_i34 hm) (show hI (sIr β 35 _) 34 4 = nI a by rw [RS_34]; exact e4) ?_
      refine Z_iadd dX12_valley_65 ?_
      refine Z_iconst (v := 0) dX12_valley_66 (by decide) ?_
      refine Z_iast dX12_valley_67 (mw_i35 hm) (zix_e (m := 187 + a) (nI_add 187 a) (by omega) (by decide)) ?_
      rw [RS_f]
      refine Z_iconst (v := 0) dX12_valley_68 (by decide) ?_
      refine Z_istore_n (L' := [_, _]) dX12_valley_69 rfl (by decide) rfl rfl ?_
      exact at70
    · skip
      exact absurd ((nI_eq (b := 5) (by omega) (by omega)).mp h7) h5
end MV3
