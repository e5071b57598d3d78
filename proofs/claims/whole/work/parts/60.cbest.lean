section CBE
variable {G : ZG} {d : Nat} {α β : AH} {post : Option Value → AH → Prop} {Γ : Nat → VC} {A : ZA} {a T q s : Nat} {b t : Int32} {cn : ZCn} {pay : Nat → Nat}
/-- what can be done on a day that was taken, as bits -/
def zcb (cn : ZCn) (q s : Nat) : Nat := num6 (fun j => cn s (zla q) (zl q s) (j % 2) (j / 2) && decide (zg q (j / 2) = j % 2))
theorem zcb_lt : zcb cn q s < 64 := num6_lt _
theorem zcb_in {k : Nat} (hk : k < 3) : zin (zcb cn q s) k = zcan cn q s k := by
  unfold zcb
  rw [num6_in _ hk, show (2 * k) % 2 = 0 by omega, show (2 * k + 1) % 2 = 1 by omega, show (2 * k) / 2 = k by omega, show (2 * k + 1) / 2 = k by omega]
  have hg := zg_le (q := q) (k := k)
  unfold zcan
  have : zg q k = 0 ∨ zg q k = 1 ∨ zg q k = 2 := by omega
  rcases this with e | e | e <;> rw [e] <;> simp
theorem zcb_1 {k : Nat} (hk : k < 3) : (zcb cn q s).testBit (2 * k + 1) = (decide (zg q k = 1) && zcan cn q s k) := by
  unfold zcb
  rw [num6_bit _ (by omega), show (2 * k + 1) % 2 = 1 by omega, show (2 * k + 1) / 2 = k by omega]
  unfold zcan
  by_cases e : zg q k = 1
  · rw [e]; simp
  · simp [e]
theorem zcb_0 (h : zcb cn q s = 0) {k : Nat} (hk : k < 3) : zcan cn q s k = false := by
  rw [← zcb_in hk, h]; unfold zin; simp
theorem cq_lt (hq : q < 5832) : cq q < 5832 := by
  have := cgs_lt (q := q)
  unfold cq; omega
theorem cq_inj {q' : Nat} (h : cq q = cq q') : q = q' := by
  have h1 := cgs_lt (q := q)
  have h2 := cgs_lt (q := q')
  unfold cq at h
  have e1 : q / 27 = q' / 27 := by omega
  have e2 : cgs q = cgs q' := by omega
  have key : ∀ r, r < 27 → ∀ r', r' < 27 → r / 9 + 3 * (r / 3 % 3) + 9 * (r % 3) = r' / 9 + 3 * (r' / 3 % 3) + 9 * (r' % 3) → r = r' := by decide +kernel
  have e3 : q % 27 = q' % 27 := key _ (Nat.mod_lt _ (by decide)) _ (Nat.mod_lt _ (by decide)) (by unfold cgs zg at e2; simpa using e2)
  omega
def Fk (a k : Nat) : Prop := a ≤ k ∧ k ≤ a + 4
theorem Fk.o {k : Nat} (h : Fk a k) : Fo a k := Or.inr h
theorem cLk.opn {l r : Nat} (h : cLk Γ A a T b t α) (hl : l < 15) (hs : s < 3) (hr : r < 6) (hT : l < T) : cLk Γ A a T b t (sI α (a + 2) ((l * 3 + s) * 6 + r) (nI (zob (hSem A.1) s l r (T - l - 1)))) := by
  have hf : frI (Fo a) α (sI α (a + 2) ((l * 3 + s) * 6 + r) (nI (zob (hSem A.1) s l r (T - l - 1)))) := frI.sI (Or.inr (by omega))
  obtain ⟨v, k1, k2, k3⟩ := h.mem
  obtain ⟨-, v', g1, -, -, g2, g3, -⟩ := h.get
  cases k1.symm.trans g1
  have e2 : hI (sI α (a + 2) ((l * 3 + s) * 6 + r) (nI (zob (hSem A.1) s l r (T - l - 1)))) a = hI α a := sI_ne (by omega)
  have e4 : hI (sI α (a + 2) ((l * 3 + s) * 6 + r) (nI (zob (hSem A.1) s l r (T - l - 1)))) (a + 4) = hI α (a + 4) := sI_ne (by omega)
  refine h.step hf ⟨v, k1, k2.fr (hf.fo h.2.1).z, Or.inr ⟨T, h.2.2.1, by rw [e2]; exact h.2.2.2.2.1, ?_, ?_⟩⟩ (by rw [e2]) (by rw [e2]) (by rw [e2])
  · intro l' s' r' hl' hs' hr'
    rw [hI_sI, g2.1]
    by_cases e : (l' * 3 + s') * 6 + r' = (l * 3 + s) * 6 + r
    · have e1 : r' = r := by omega
      have e3 : l' * 3 + s' = l * 3 + s := by omega
      have e5 : s' = s := by omega
      have e6 : l' = l := by omega
      subst e1 e5 e6
      rw [if_pos ⟨rfl, rfl⟩]
      exact Or.inr ⟨hT, rfl⟩
    · rw [if_neg (fun z => e z.2)]
      exact g3 l' s' r' hl' hs' hr'
  · rcases k3 with k3 | ⟨T', t1, t2, t3, t4⟩
    · rw [h.2.2.2.2.1] at k3; exact absurd k3 (nI_nm1 (by have := h.2.2.1; omega))
    · have eT : T = T' := (nI_eq (by have := h.2.2.1; omega) (by omega)).mp (h.2.2.2.2.1.symm.trans t2)
      subst eT
      unfold cBM
      rw [e4, e2]
      exact t4
theorem zOn_pay {pay' : Nat → Nat} {B : Nat → Nat} (h : ∀ k, k < 3 → pay k = pay' k) : zOn B cn pay q s = zOn B cn pay' q s := by
  have e : ∀ k, k < 3 → zval B pay q k = zval B pay' q k := fun k hk => by unfold zval zpays; rw [h k hk]
  unfold zOn zstp
  rw [e 0 (by omega), e 1 (by omega), e 2 (by omega)]
theorem zbest_pay {pay' : Nat → Nat} (h : ∀ k, k < 3 → pay k = pay' k) : ∀ (n q : Nat), q < 5832 → zla q = n → zbest cn pay q = zbest cn pay' q := by
  intro n
  induction n with
  | zero =>
    intro q hq hn
    unfold zbest
    rw [hn]
    rfl
  | succ n ih =>
    intro q hq hn
    rw [zbest_eq hq, zbest_eq hq]
    refine zsum_cg (fun s hs hp => ?_)
    have ok := zd_ok hq hs hp
    rw [zOn_pay h, zOn_cg (ih _ ok.2.1 (by omega)) (fun k hk hc => ih _ (zdo_ok ok.2.1 hk (zcan_g hc)).1 (by rw [zdo_la ok.2.1 hk (zcan_g hc)]; omega))]
theorem cLk.best (h : cLk Γ A a T b t α) (hq : q < 5832) : cLk Γ A a T b t (sI α (a + 4) (cq q) (nI (zbest (zbc b t (zcn A.1 T)) (sp_pay A.1.1) q))) := by
  have hf : frI (Fo a) α (sI α (a + 4) (cq q) (nI (zbest (zbc b t (zcn A.1 T)) (sp_pay A.1.1) q))) := frI.sI (Or.inr (by omega))
  obtain ⟨v, k1, k2, k3⟩ := h.mem
  obtain ⟨-, v', g1, -, -, g2, g3, g4⟩ := h.get
  cases k1.symm.trans g1
  have e2 : hI (sI α (a + 4) (cq q) (nI (zbest (zbc b t (zcn A.1 T)) (sp_pay A.1.1) q))) a = hI α a := sI_ne (by omega)
  have e4 : hI (sI α (a + 4) (cq q) (nI (zbest (zbc b t (zcn A.1 T)) (sp_pay A.1.1) q))) (a + 2) = hI α (a + 2) := sI_ne (by omega)
  refine h.step hf ⟨v, k1, k2.fr (hf.fo h.2.1).z, Or.inr ⟨T, h.2.2.1, by rw [e2]; exact h.2.2.2.2.1, ?_, ?_⟩⟩ (by rw [e2]) (by rw [e2]) (by rw [e2])
  · unfold cOM
    rw [e4, g2.1]
    exact g3
  · intro q' hq'
    rw [hI_sI, e2, h.2.2.2.2.2.1, h.2.2.2.2.2.2, g2.1, ← zcn_h]
    by_cases e : cq q' = cq q
    · have := cq_inj e
      subst this
      rw [if_pos ⟨rfl, rfl⟩]
      exact Or.inr (congrArg nI (zbest_pay (fun k hk => (g2.2.1 k hk).symm) _ q' hq' rfl))
    · rw [if_neg (fun z => e z.2)]
      exact g4 q' hq'
theorem cLk.memo (h : cLk Γ A a T b t α) (hq : q < 5832) : hI α (a + 4) (cq q) = -1 ∨ hI α (a + 4) (cq q) = nI (zbest (zbc b t (zcn A.1 T)) (sp_pay A.1.1) q) := by
  obtain ⟨-, v', g1, -, -, g2, g3, g4⟩ := h.get
  rcases g4 q hq with e | e
  · exact Or.inl e
  · exact Or.inr (e.trans (congrArg nI (zbest_pay g2.2.1 _ q hq rfl)))
theorem cAt.mv (hc : cAt a α q) (hf : frI (fun k => k = a + 2 ∨ k = a + 3 ∨ k = a + 4 ∨ k = 4) α β) (ha : a = 23 ∨ a = 28) : cAt a β q := by
  unfold cAt
  rw [(hf.2.2.2 (a + 1) (by omega)).1, (hf.2.2.2 a (by omega)).1]
  exact hc
theorem zbc_no (hs : s < 3) (hb : ¬ (nI s = b ∧ nI (zl q s) = t)) : zcb (zbc b t cn) q s = zcb cn q s := by
  unfold zcb
  refine num6_cg (fun j _ => ?_)
  rw [zbc_at hs, if_neg hb]
theorem zbc_yes (hs : s < 3) (hb : nI s = b ∧ nI (zl q s) = t) : zcb (zbc b t cn) q s = 0 := by
  unfold zcb
  refine num6_0 (fun j _ => ?_)
  rw [zbc_at hs, if_pos hb]; rfl
theorem zcb_w {l r e : Nat} (hl : l = zla q) (hr : r = zl q s) (he : e = T - l - 1) : nI (zob (hSem A.1) s l r e) &&& nI (undN (cgs q)) = nI (zcb (zcn A.1 T) q s) := by
  subst hl hr he
  unfold undN
  rw [zob_num, num6_and]
  refine congrArg nI (num6_cg (fun j hj => ?_))
  rw [zcn_h, cgs_d (by omega)]
  rfl
theorem k_cans (hw : cLk Γ A a T b t α) (hc : cAt a α q) (hq : q < 5832) (hs : s < 3) (hn : zla q < 15) (hnT : zla q + 1 ≤ T) (h : ∀ β, cLk Γ A a T b t β → cAt a β q → frI (Fk a) α β → post (some (.int (nI (zcb (zbc b t (zcn A.1 T)) q s)))) β) : ZK G (d + 3) mX0_cans [.ref (G.1 + a), .int (nI s), .int (nI (cgs q))] α post := by
  obtain ⟨ha, v, hp3, hvk, ⟨c, w, e, p, hv⟩, hm, hom, -⟩ := hw.get
  have haa := hw.2.1
  have hT2 := hw.2.2.1
  have e4 := hw.2.2.2.2.2.1
  have e5 := hw.2.2.2.2.2.2
  have e2 := hw.2.2.2.2.1
  have cs := hc.1 s hs
  have hz := zl_le (s := s) hq
  have hcg := cgs_lt (q := q)
  refine ZK.of (n := 1) (by decide) (Nat.le_of_ble_eq_true rfl) rfl ?_
  by_cases hbar : nI s = b ∧ nI (zl q s) = t
  · rw [zbc_yes hs hbar] at h
    refine Z_iload_n dX0_cans_0 rfl rfl ?_
    refine Z_aload_n dX0_cans_1 rfl rfl ?_
    refine Z_getIv dX0_cans_2 cl_0 fl_X0_19_0 rfl ha.1 e4 ?_
    refine Z_icmp_ne (tgt := 23) dX0_cans_5 (by decide) (fun h5 => ?_) (fun h5 => ?_)
    · skip
      exact absurd hbar.1 h5
    · skip
      refine Z_aload_n dX0_cans_8 rfl rfl ?_
      refine Z_getR dX0_cans_9 cl_0 fl_X0_9_0 rfl ha.1 ha.2.1 ?_
      refine Z_iload_n dX0_cans_12 rfl rfl ?_
      refine Z_ialdv dX0_cans_13 ha.2.2.2.2.2.2.1 (zix_nI (m := s) hs (by decide)) cs ?_
      refine Z_aload_n dX0_cans_14 rfl rfl ?_
      refine Z_getIv dX0_cans_15 cl_0 fl_X0_55_0 rfl ha.1 e5 ?_
      refine Z_icmp_ne (tgt := 23) dX0_cans_18 (by decide) (fun h18 => ?_) (fun h18 => ?_)
      · skip
        exact absurd hbar.2 h18
      · skip
        refine Z_iconst (v := 0) dX0_cans_21 (by decide) ?_
        refine Z_iret dX0_cans_22 rfl rfl ⟨by decide, by decide⟩ ?_
        exact h α hw hc frI.rf
  · rw [zbc_no hs hbar] at h
    have ix : (nI (zla q) * 3 + nI s) * 6 + nI (zl q s) = nI ((zla q * 3 + s) * 6 + zl q s) := by rw [show (3 : Int32) = nI 3 from rfl, show (6 : Int32) = nI 6 from rfl, pk_mul, nI_add, pk_mul, nI_add]
    have ixl : (zla q * 3 + s) * 6 + zl q s < 270 := by omega
    have mid : Z G mX0_cans (d + 3) 23 [some (.ref (G.1 + a)), some (.int (nI s)), some (.int (nI (cgs q))), none] [] α (0, 0) post := by
      rcases hom (zla q) s (zl q s) hn hs (by omega) with hx | ⟨-, hx⟩
      · have nv : ¬ fz (a + 3) := by unfold fz; omega
        have dd : nI T - 1 - nI (zla q) = nI (T - zla q - 1) := by
          rw [show (1 : Int32) = nI 1 from rfl, nI_s (by omega), nI_s (by omega), show T - 1 - zla q = T - zla q - 1 by omega]
        have r0 : ∀ {i : Nat} {x : Int32}, hI (sI α (a + 3) i x) a = hI α a := fun {i x} => sI_ne (by omega)
        have f4 : frI (fun k => k = a + 3) α (sI (sI (sI (sI α (a + 3) 0 (nI s)) (a + 3) 2 (nI (zla q))) (a + 3) 3 (nI (zl q s))) (a + 3) 4 (nI (T - zla q - 1))) := (((frI.sI (F := fun k => k = a + 3) rfl).tr (frI.sI rfl)).tr (frI.sI rfl)).tr (frI.sI rfl)
        have g65 : hI (sI α (a + 3) 0 (nI s)) a 1 = nI (zla q) := by rw [sI_ne (by omega)]; exact hc.2
        have g79 : hI (sI (sI α (a + 3) 0 (nI s)) (a + 3) 2 (nI (zla q))) (a + 1) s = nI (zl q s) := by rw [sI_ne (by omega), sI_ne (by omega)]; exact cs
        have g87 : hI (sI (sI (sI α (a + 3) 0 (nI s)) (a + 3) 2 (nI (zla q))) (a + 3) 3 (nI (zl q s))) a = hI α a := by rw [sI_ne (by omega), sI_ne (by omega), sI_ne (by omega)]
        have o0 : hI (sI (sI (sI (sI α (a + 3) 0 (nI s)) (a + 3) 2 (nI (zla q))) (a + 3) 3 (nI (zl q s))) (a + 3) 4 (nI (T - zla q - 1))) (a + 3) 0 = nI s := by simp [hI_sI]
        have o2 : hI (sI (sI (sI (sI α (a + 3) 0 (nI s)) (a + 3) 2 (nI (zla q))) (a + 3) 3 (nI (zl q s))) (a + 3) 4 (nI (T - zla q - 1))) (a + 3) 2 = nI (zla q) := by simp [hI_sI]
        have o3 : hI (sI (sI (sI (sI α (a + 3) 0 (nI s)) (a + 3) 2 (nI (zla q))) (a + 3) 3 (nI (zl q s))) (a + 3) 4 (nI (T - zla q - 1))) (a + 3) 3 = nI (zl q s) := by simp [hI_sI]
        have o4 : hI (sI (sI (sI (sI α (a + 3) 0 (nI s)) (a + 3) 2 (nI (zla q))) (a + 3) 3 (nI (zl q s))) (a + 3) 4 (nI (T - zla q - 1))) (a + 3) 4 = nI (T - zla q - 1) := by simp [hI_sI]
        have hv4 := (((hv.sI (i := 0) (x := nI s) nv).sI (i := 2) (x := nI (zla q)) nv).sI (i := 3) (x := nI (zl q s)) nv).sI (i := 4) (x := nI (T - zla q - 1)) nv
        refine Z_aload_n dX0_cans_23 rfl rfl ?_
        refine Z_getIv dX0_cans_24 cl_0 fl_X0_47_0 rfl ha.1 hc.2 ?_
        refine Z_iconst (v := 3) dX0_cans_27 (by decide) ?_
        refine Z_imul dX0_cans_28 ?_
        refine Z_iload_n dX0_cans_29 rfl rfl ?_
        refine Z_iadd dX0_cans_30 ?_
        refine Z_bipush (v := 6) dX0_cans_31 (by decide) ?_
        refine Z_imul dX0_cans_33 ?_
        refine Z_aload_n dX0_cans_34 rfl rfl ?_
        refine Z_getR dX0_cans_35 cl_0 fl_X0_9_0 rfl ha.1 ha.2.1 ?_
        refine Z_iload_n dX0_cans_38 rfl rfl ?_
        refine Z_ialdv dX0_cans_39 ha.2.2.2.2.2.2.1 (zix_nI (m := s) hs (by decide)) cs ?_
        refine Z_iadd dX0_cans_40 ?_
        rw [ix]
        refine Z_istore_n (L' := [_, _, _, _]) dX0_cans_41 rfl (by decide) rfl rfl ?_
        refine Z_aload_n dX0_cans_42 rfl rfl ?_
        refine Z_getR dX0_cans_43 cl_0 fl_X0_22_0 rfl ha.1 ha.2.2.1 ?_
        refine Z_iload_n dX0_cans_46 rfl rfl ?_
        refine Z_ialdv dX0_cans_47 ha.2.2.2.2.2.2.2.1 (zix_nI ixl (by decide)) hx ?_
        refine Z_iconst (v := -1) dX0_cans_48 (by decide) ?_
        refine Z_icmp_ne (tgt := 115) dX0_cans_49 (by decide) (fun h49 => ?_) (fun h49 => ?_)
        · skip
          exact absurd rfl h49
        · skip
          refine Z_aload_n dX0_cans_52 rfl rfl ?_
          refine Z_getR dX0_cans_53 cl_0 fl_X0_25_0 rfl ha.1 ha.2.2.2.1 ?_
          refine Z_iconst (v := 0) dX0_cans_56 (by decide) ?_
          refine Z_iload_n dX0_cans_57 rfl rfl ?_
          refine Z_iast dX0_cans_58 ha.2.2.2.2.2.2.2.2.1 (zix_k (m := 0) (by decide)) ?_
          refine Z_aload_n dX0_cans_59 rfl rfl ?_
          refine Z_getR dX0_cans_60 cl_0 fl_X0_25_0 rfl ha.1 ha.2.2.2.1 ?_
          refine Z_iconst (v := 2) dX0_cans_63 (by decide) ?_
          refine Z_aload_n dX0_cans_64 rfl rfl ?_
          refine Z_getIv dX0_cans_65 cl_0 fl_X0_47_0 rfl ha.1 g65 ?_
          refine Z_iast dX0_cans_68 ha.2.2.2.2.2.2.2.2.1 (zix_k (m := 2) (by decide)) ?_
          refine Z_aload_n dX0_cans_69 rfl rfl ?_
          refine Z_getR dX0_cans_70 cl_0 fl_X0_25_0 rfl ha.1 ha.2.2.2.1 ?_
          refine Z_iconst (v := 3) dX0_cans_73 (by decide) ?_
          refine Z_aload_n dX0_cans_74 rfl rfl ?_
          refine Z_getR dX0_cans_75 cl_0 fl_X0_9_0 rfl ha.1 ha.2.1 ?_
          refine Z_iload_n dX0_cans_78 rfl rfl ?_
          refine Z_ialdv dX0_cans_79 ha.2.2.2.2.2.2.1 (zix_nI (m := s) hs (by decide)) g79 ?_
          refine Z_iast dX0_cans_80 ha.2.2.2.2.2.2.2.2.1 (zix_k (m := 3) (by decide)) ?_
          refine Z_aload_n dX0_cans_81 rfl rfl ?_
          refine Z_getR dX0_cans_82 cl_0 fl_X0_25_0 rfl ha.1 ha.2.2.2.1 ?_
          refine Z_iconst (v := 4) dX0_cans_85 (by decide) ?_
          refine Z_aload_n dX0_cans_86 rfl rfl ?_
          refine Z_getIv dX0_cans_87 cl_0 fl_X0_15_0 rfl ha.1 (show _ = nI T by rw [g87]; exact e2) ?_
          refine Z_iconst (v := 1) dX0_cans_90 (by decide) ?_
          refine Z_isub dX0_cans_91 ?_
          refine Z_aload_n dX0_cans_92 rfl rfl ?_
          refine Z_getIv dX0_cans_93 cl_0 fl_X0_47_0 rfl ha.1 (show _ = nI (zla q) by rw [g87]; exact hc.2) ?_
          refine Z_isub dX0_cans_96 ?_
          rw [dd]
          refine Z_iast dX0_cans_97 ha.2.2.2.2.2.2.2.2.1 (zix_k (m := 4) (by decide)) ?_
          refine Z_aload_n dX0_cans_98 rfl rfl ?_
          refine Z_getR dX0_cans_99 cl_0 fl_X0_22_0 rfl ha.1 ha.2.2.1 ?_
          refine Z_iload_n dX0_cans_102 rfl rfl ?_
          refine Z_aload_n dX0_cans_103 rfl rfl ?_
          refine Z_getR dX0_cans_104 cl_0 fl_X0_31_0 rfl ha.1 hp3 ?_
          refine Z_aload_n dX0_cans_107 rfl rfl ?_
          refine Z_getR dX0_cans_108 cl_0 fl_X0_25_0 rfl ha.1 ha.2.2.2.1 ?_
          refine Z_V1z (ci := 8) dX0_cans_111 to_X8_opened lk_X0_73 iv_X8_opened ⟨rfl, rfl⟩ hv4.2.1 (Nat.le_of_ble_eq_true rfl) ⟨rfl, rfl⟩ ⟨by decide, by decide⟩ ?_
          refine k_opened hv4 hvk ha.2.2.2.2.2.2.2.2.1 nv o0 o2 o3 o4 (by omega) (fun x => ?_)
          refine Z_iast dX0_cans_114 ha.2.2.2.2.2.2.2.1 (zix_nI ixl (by decide)) ?_
          refine Z_aload_n dX0_cans_115 rfl rfl ?_
          refine Z_getR dX0_cans_116 cl_0 fl_X0_22_0 rfl ha.1 ha.2.2.1 ?_
          refine Z_iload_n dX0_cans_119 rfl rfl ?_
          refine Z_ialdv dX0_cans_120 ha.2.2.2.2.2.2.2.1 (zix_nI ixl (by decide)) (show _ = nI (zob (vsem (Γ v).1) s (zla q) (zl q s) (T - zla q - 1)) by rw [hI_sI, if_pos ⟨rfl, rfl⟩]) ?_
          refine Z_gets dX0_cans_121 (by decide) sa_X0_75 ?_
          refine Z_iload_n dX0_cans_124 rfl rfl ?_
          refine Z_ti (i := 1) dX0_cans_125 (by decide) (zix_nI (m := cgs q) (by exact hcg) (by decide)) ?_
          rw [und_ok _ hcg, hm.1]
          refine Z_iand dX0_cans_126 ?_
          refine Z_iret dX0_cans_127 rfl rfl ⟨by decide, by decide⟩ ?_
          rw [zcb_w rfl rfl rfl]
          have f5 := f4.tr (frI.sI (F := fun k => k = a + 3) (a := a + 3) (j := 1) (x := x) rfl)
          have w5 := hw.mv (f5.mono (fun k hk => Or.inr (Or.inr (Or.inl hk)))) (by rw [(f5.2.2.2 a (by omega)).1]) (by rw [(f5.2.2.2 a (by omega)).1]) (by rw [(f5.2.2.2 a (by omega)).1])
          have w6 := w5.opn (s := s) (l := zla q) (r := zl q s) hn hs (by omega) (by omega)
          have f6 := (f5.mono (F' := fun k => k = a + 2 ∨ k = a + 3) (fun k hk => Or.inr hk)).tr (frI.sI (a := a + 2) (j := (zla q * 3 + s) * 6 + zl q s) (x := nI (zob (hSem A.1) s (zla q) (zl q s) (T - zla q - 1))) (Or.inl rfl))
          exact h _ w6 (hc.mv (f6.mono (fun k hk => by omega)) haa) (f6.mono (fun k hk => by unfold Fk; omega))
      · have nm : ¬ nI (zob (hSem A.1) s (zla q) (zl q s) (T - zla q - 1)) = -1 := nI_nm1 (by have := zob_lt (W := hSem A.1) (s := s) (l := zla q) (r := zl q s) (e := T - zla q - 1); omega)
        refine Z_aload_n dX0_cans_23 rfl rfl ?_
        refine Z_getIv dX0_cans_24 cl_0 fl_X0_47_0 rfl ha.1 hc.2 ?_
        refine Z_iconst (v := 3) dX0_cans_27 (by decide) ?_
        refine Z_imul dX0_cans_28 ?_
        refine Z_iload_n dX0_cans_29 rfl rfl ?_
        refine Z_iadd dX0_cans_30 ?_
        refine Z_bipush (v := 6) dX0_cans_31 (by decide) ?_
        refine Z_imul dX0_cans_33 ?_
        refine Z_aload_n dX0_cans_34 rfl rfl ?_
        refine Z_getR dX0_cans_35 cl_0 fl_X0_9_0 rfl ha.1 ha.2.1 ?_
        refine Z_iload_n dX0_cans_38 rfl rfl ?_
        refine Z_ialdv dX0_cans_39 ha.2.2.2.2.2.2.1 (zix_nI (m := s) hs (by decide)) cs ?_
        refine Z_iadd dX0_cans_40 ?_
        rw [ix]
        refine Z_istore_n (L' := [_, _, _, _]) dX0_cans_41 rfl (by decide) rfl rfl ?_
        refine Z_aload_n dX0_cans_42 rfl rfl ?_
        refine Z_getR dX0_cans_43 cl_0 fl_X0_22_0 rfl ha.1 ha.2.2.1 ?_
        refine Z_iload_n dX0_cans_46 rfl rfl ?_
        refine Z_ialdv dX0_cans_47 ha.2.2.2.2.2.2.2.1 (zix_nI ixl (by decide)) hx ?_
        refine Z_iconst (v := -1) dX0_cans_48 (by decide) ?_
        refine Z_icmp_ne (tgt := 115) dX0_cans_49 (by decide) (fun h49 => ?_) (fun h49 => ?_)
        · skip
          refine Z_aload_n dX0_cans_115 rfl rfl ?_
          refine Z_getR dX0_cans_116 cl_0 fl_X0_22_0 rfl ha.1 ha.2.2.1 ?_
          refine Z_iload_n dX0_cans_119 rfl rfl ?_
          refine Z_ialdv dX0_cans_120 ha.2.2.2.2.2.2.2.1 (zix_nI ixl (by decide)) hx ?_
          refine Z_gets dX0_cans_121 (by decide) sa_X0_75 ?_
          refine Z_iload_n dX0_cans_124 rfl rfl ?_
          refine Z_ti (i := 1) dX0_cans_125 (by decide) (zix_nI (m := cgs q) (by exact hcg) (by decide)) ?_
          rw [und_ok _ hcg]
          refine Z_iand dX0_cans_126 ?_
          refine Z_iret dX0_cans_127 rfl rfl ⟨by decide, by decide⟩ ?_
          rw [zcb_w rfl rfl rfl]
          exact h α hw hc frI.rf
        · skip
          exact absurd h49 nm
    refine Z_iload_n dX0_cans_0 rfl rfl ?_
    refine Z_aload_n dX0_cans_1 rfl rfl ?_
    refine Z_getIv dX0_cans_2 cl_0 fl_X0_19_0 rfl ha.1 e4 ?_
    refine Z_icmp_ne (tgt := 23) dX0_cans_5 (by decide) (fun h5 => ?_) (fun h5 => ?_)
    · skip
      exact mid
    · skip
      refine Z_aload_n dX0_cans_8 rfl rfl ?_
      refine Z_getR dX0_cans_9 cl_0 fl_X0_9_0 rfl ha.1 ha.2.1 ?_
      refine Z_iload_n dX0_cans_12 rfl rfl ?_
      refine Z_ialdv dX0_cans_13 ha.2.2.2.2.2.2.1 (zix_nI (m := s) hs (by decide)) cs ?_
      refine Z_aload_n dX0_cans_14 rfl rfl ?_
      refine Z_getIv dX0_cans_15 cl_0 fl_X0_55_0 rfl ha.1 e5 ?_
      refine Z_icmp_ne (tgt := 23) dX0_cans_18 (by decide) (fun h18 => ?_) (fun h18 => ?_)
      · skip
        exact mid
      · skip
        exact absurd ⟨h5, h18⟩ hbar
end CBE
