section CW1
variable {G : ZG} {d : Nat} {α β : AH} {post : Option Value → AH → Prop} {Γ : Nat → VC} {A : ZA} {a T q s c row kd : Nat} {b t num v : Int32}
def cOw (α : AH) (g : Nat → Nat) : Prop := ∀ q, q < 5832 → hI α 4 (cq q) = -1 ∨ hI α 4 (cq q) = nI (g q)
theorem cOw.fk {g : Nat → Nat} (h : cOw α g) (ha : a = 23 ∨ a = 28) (hf : frI (Fk a) α β) : cOw β g := fun q hq => by
  rw [(hf.2.2.2 4 (by unfold Fk; omega)).1]; exact h q hq
theorem cOw.put {g : Nat → Nat} (h : cOw α g) (hq : q < 5832) : cOw (sI α 4 (cq q) (nI (g q))) g := fun q' hq' => by
  rw [hI_sI]
  by_cases e : cq q' = cq q
  · have := cq_inj e
    subst this
    rw [if_pos ⟨rfl, rfl⟩]; exact Or.inr rfl
  · rw [if_neg (fun z => e z.2)]; exact h q' hq'
theorem cLk.own {i : Nat} {x : Int32} (hw : cLk Γ A a T b t α) : cLk Γ A a T b t (sI α 4 i x) := hw.mv (frI.sI (Or.inr (Or.inr (Or.inr rfl)))) (by rw [sI_ne (by have := hw.2.1; omega)]) (by rw [sI_ne (by have := hw.2.1; omega)]) (by rw [sI_ne (by have := hw.2.1; omega)])
theorem cAt.own {i : Nat} {x : Int32} (ha : a = 23 ∨ a = 28) (hc : cAt a α q) : cAt a (sI α 4 i x) q := hc.mv (frI.sI (Or.inr (Or.inr (Or.inr rfl)))) ha
theorem k_forget (hw : cLk Γ A a T b t α) (hc : cAt a α q) (h : ∀ β, cLk Γ A a T b t β → cAt a β q → (∀ g, cOw β g) → frI (Fo a) α β → post none β) : ZK G (d + 2) mX0_forget [.ref (G.1 + a)] α post := by
  have ha := hw.get.1
  have haa := hw.2.1
  refine ZK.of (n := 0) (by decide) (Nat.le_of_ble_eq_true rfl) rfl ?_
  refine Z_aload_n dX0_forget_0 rfl rfl ?_
  refine Z_getR dX0_forget_1 cl_0 fl_X0_35_0 rfl ha.1 ha.2.2.2.2.2.1 ?_
  refine Z_iconst (v := -1) dX0_forget_4 (by decide) ?_
  refine Z_S2z dX0_forget_5 to_J7_fill_53178 lk_X0_58 sc_J7_fill_53178 (Nat.le_of_ble_eq_true rfl) ⟨rfl, rfl⟩ ⟨by decide, by decide⟩ ?_
  refine c_jfill ha.2.2.2.2.2.2.2.2.2.2 (by decide) ?_
  refine Z_vret dX0_forget_8 rfl ⟨by decide, by decide⟩ ?_
  have hf : frI (fun k => k = 4) α (sIr α 4 (zfl (hI α 4) (-1) 5832)) := frI.sIr rfl
  refine h _ (hw.mv (hf.mono (fun k hk => Or.inr (Or.inr (Or.inr hk)))) ?_ ?_ ?_) (hc.mv (hf.mono (fun k hk => Or.inr (Or.inr (Or.inr hk)))) haa) (fun g q hq => Or.inl ?_) (hf.mono (fun k hk => Or.inl hk))
  · rw [hI_sIr, if_neg (by omega)]
  · rw [hI_sIr, if_neg (by omega)]
  · rw [hI_sIr, if_neg (by omega)]
  · rw [hI_sIr, if_pos rfl]; exact if_pos (cq_lt hq)
theorem und_in {k : Nat} (hk : k < 3) : zin (undN (cgs q)) k = decide (¬ zg q k = 2) := by
  have hg := zg_le (q := q) (k := k)
  unfold undN
  rw [num6_in _ hk, show (2 * k) % 2 = 0 by omega, show (2 * k + 1) % 2 = 1 by omega, show (2 * k) / 2 = k by omega, show (2 * k + 1) / 2 = k by omega, cgs_d hk]
  have : zg q k = 0 ∨ zg q k = 1 ∨ zg q k = 2 := by omega
  rcases this with e | e | e <;> rw [e] <;> rfl
theorem k_reached {W : Nat} (hW : W < 8) (h : post (some (.int (b2i (zrc W q)))) α) : ZK G (d + 2) mX0_reached [.int (nI W), .int (nI (cgs q))] α post := by
  have hcg := cgs_lt (q := q)
  have lp : ∀ (j k : Nat), k + j = 3 → (∀ i, i < k → (!W.testBit i || decide (zg q i = 2)) = true) → Z G mX0_reached (d + 2) 2 [some (.int (nI W)), some (.int (nI (cgs q))), some (.int (nI k))] [] α (0, 0) post := by
    intro j
    induction j with
    | zero =>
      intro k hk h0
      have hk : k = 3 := by omega
      subst hk
      have e : zrc W q = true := by unfold zrc; rw [h0 0 (by omega), h0 1 (by omega), h0 2 (by omega)]; rfl
      rw [e] at h
      refine Z_iload_n dX0_reached_2 rfl rfl ?_
      refine Z_iconst (v := 3) dX0_reached_3 (by decide) ?_
      refine Z_icmp_ge (tgt := 35) dX0_reached_4 (by decide) (fun h4 => ?_) (fun h4 => ?_)
      · skip
        refine Z_iconst (v := 1) dX0_reached_35 (by decide) ?_
        refine Z_iret dX0_reached_36 rfl rfl ⟨by decide, by decide⟩ ?_
        exact h
      · skip
        exact absurd (by decide) h4
    | succ j ih =>
      intro k hk h0
      refine Z_iload_n dX0_reached_2 rfl rfl ?_
      refine Z_iconst (v := 3) dX0_reached_3 (by decide) ?_
      refine Z_icmp_ge (tgt := 35) dX0_reached_4 (by decide) (fun h4 => ?_) (fun h4 => ?_)
      · skip
        exact absurd h4 (nI_ge (a := k) (b := 3) (by omega) (by omega))
      · skip
        refine Z_iload_n dX0_reached_7 rfl rfl ?_
        refine Z_iload_n dX0_reached_8 rfl rfl ?_
        refine Z_S2z dX0_reached_9 to_X11_hasBit lk_X0_136 sc_X11_hasBit (Nat.le_of_ble_eq_true rfl) ⟨rfl, rfl⟩ ⟨by decide, by decide⟩ ?_
        refine k_hasBit (by omega) (by omega) ?_
        refine Z_if_eq (tgt := 29) dX0_reached_12 (by decide) (fun h12 => ?_) (fun h12 => ?_)
        · skip
          refine Z_iinc (L' := [_, _, _]) dX0_reached_29 rfl (by rfl : _ + Int32.ofInt 1 = _ + 1) (by decide) rfl rfl ?_
          refine Z_goto (tgt := 2) dX0_reached_32 (by decide) ?_
          rw [nI_1]
          refine ih (k + 1) (by omega) (fun i hi => ?_)
          by_cases e : i = k
          · rw [e]
            first
              | (have z1 : W.testBit k = false := b2i_eq.mp h12
                 rw [z1]; rfl)
              | (have z2 := Classical.not_not.mp (dec_f h24)
                 rw [decide_eq_true z2]; simp)
          · exact h0 i (by omega)
        · skip
          refine Z_gets dX0_reached_15 (by decide) sa_X0_75 ?_
          refine Z_iload_n dX0_reached_18 rfl rfl ?_
          refine Z_ti (i := 1) dX0_reached_19 (by decide) (zix_nI (m := cgs q) (by exact hcg) (by decide)) ?_
          rw [und_ok _ hcg]
          refine Z_iload_n dX0_reached_20 rfl rfl ?_
          refine Z_S2z dX0_reached_21 to_X11_isIn lk_X0_98 sc_X11_isIn (Nat.le_of_ble_eq_true rfl) ⟨rfl, rfl⟩ ⟨by decide, by decide⟩ ?_
          refine k_isIn (num6_lt _) (by omega) ?_
          rw [und_in (by omega)]
          refine Z_if_eq (tgt := 29) dX0_reached_24 (by decide) (fun h24 => ?_) (fun h24 => ?_)
          · skip
            refine Z_iinc (L' := [_, _, _]) dX0_reached_29 rfl (by rfl : _ + Int32.ofInt 1 = _ + 1) (by decide) rfl rfl ?_
            refine Z_goto (tgt := 2) dX0_reached_32 (by decide) ?_
            rw [nI_1]
            refine ih (k + 1) (by omega) (fun i hi => ?_)
            by_cases e : i = k
            · rw [e]
              first
                | (have z1 : W.testBit k = false := b2i_eq.mp h12
                   rw [z1]; rfl)
                | (have z2 := Classical.not_not.mp (dec_f h24)
                   rw [decide_eq_true z2]; simp)
            · exact h0 i (by omega)
          · skip
            refine Z_iconst (v := 0) dX0_reached_27 (by decide) ?_
            refine Z_iret dX0_reached_28 rfl rfl ⟨by decide, by decide⟩ ?_
            have e : zrc W q = false := by
              have z1 := b2i_ne.mp h12
              have z2 := dec_t h24
              have : (!W.testBit k || decide (zg q k = 2)) = false := by rw [z1, decide_eq_false z2]; rfl
              unfold zrc
              rcases s3 (show k < 3 by omega) with rfl | rfl | rfl <;> rw [this] <;> simp
            rw [e] at h; exact h
  refine ZK.of (n := 1) (by decide) (Nat.le_of_ble_eq_true rfl) rfl ?_
  refine Z_iconst (v := 0) dX0_reached_0 (by decide) ?_
  refine Z_istore_n (L' := [_, _, _]) dX0_reached_1 rfl (by decide) rfl rfl ?_
  exact lp 3 0 rfl (fun i hi => absurd hi (Nat.not_lt_zero i))
theorem zdoC_ok {cn : ZCn} {pay : Nat → Nat} {kd : Nat} {v : Int32} {tl : Nat → Nat} : zfok (fun q s => zdoC cn pay kd v (tl s) q s) := fun q s => by
  have key := zdoes_ok (cn := cn) (pay := pay) (kd := kd) (v := 0) (tl := tl) q s
  have kw : zwaC cn v q s = 3 ∨ (zwaC cn v q s < 3 ∧ zg q (zwaC cn v q s) < 2) := by
    have kp := zdoes_ok (cn := cn) (pay := pay) (kd := 1) (v := 0) (tl := tl) q s
    unfold zwaC
    split
    · exact kp
    · exact Or.inl rfl
  show zdoC cn pay kd v (tl s) q s = 3 ∨ (zdoC cn pay kd v (tl s) q s < 3 ∧ zg q (zdoC cn pay kd v (tl s) q s) < 2)
  have key : zdoes cn pay kd 0 (tl s) q s = 3 ∨ (zdoes cn pay kd 0 (tl s) q s < 3 ∧ zg q (zdoes cn pay kd 0 (tl s) q s) < 2) := key
  unfold zdoC
  unfold zdoes at key
  by_cases h1 : kd = 1
  · rw [if_pos h1] at key ⊢; exact key
  · rw [if_neg h1] at key ⊢
    by_cases h2 : kd = 2
    · rw [if_pos h2] at key ⊢; exact key
    · rw [if_neg h2] at key ⊢
      by_cases h3 : kd = 3
      · rw [if_pos h3]; exact kw
      · rw [if_neg h3] at key ⊢
        by_cases h4 : kd = 4
        · rw [if_pos h4] at key ⊢; exact key
        · rw [if_neg h4] at key ⊢
          by_cases h5 : kd = 5
          · rw [if_pos h5] at key ⊢; exact key
          · rw [if_neg h5] at key ⊢
            by_cases h6 : kd = 6
            · rw [if_pos h6]
              split
              · rename_i h; exact Or.inr ⟨h.1, zcan_g h.2⟩
              · exact kw
            · rw [if_neg h6]; exact Or.inl rfl
/-- the way of a worker of the class -/
def zwy (A : ZA) (T : Nat) (b t : Int32) (kd : Nat) (v : Int32) (row : Nat) : Nat → Nat → Nat := fun q s => zdoC (zbc b t (zcn A.1 T)) (sp_pay A.1.1) kd v (row / 4 ^ s % 4) q s
theorem zwy_ok : zfok (zwy A T b t kd v row) := zdoC_ok (tl := fun s => row / 4 ^ s % 4)
theorem zdw_l {w : Nat} (hq : q < 5832) (h : w = 3 ∨ (w < 3 ∧ zg q w < 2)) (j : Nat) : zl (zdw q w) j = zl q j := by
  unfold zdw
  rcases h with h | h
  · rw [if_pos h]
  · rw [if_neg (by omega)]; exact (zdo_ok hq h.1 h.2).2.1 j
def cOwn (G : ZG) (Γ : Nat → VC) (A : ZA) (a T c kd row W : Nat) (b t num v : Int32) (d n : Nat) : Prop := ∀ (q : Nat) (α : AH) (post : Option Value → AH → Prop), q < 5832 → zla q = n → n ≤ T → cLk Γ A a T b t α → cAt a α q → wObj α c kd num v row → cOw α (zown (zwy A T b t kd v row) (sp_pay A.1.1) W) → (∀ β, cLk Γ A a T b t β → cAt a β q → wObj β c kd num v row → cOw β (zown (zwy A T b t kd v row) (sp_pay A.1.1) W) → frI (Fo a) α β → post (some (.int (nI (zown (zwy A T b t kd v row) (sp_pay A.1.1) W q)))) β) → ZK G (d + n + 56) mX0_ownSum [.ref (G.1 + a), .ref (G.1 + c), .int (nI W), .int (nI (cgs q))] α post
theorem wObj.fo (ha : a = 23 ∨ a = 28) (h : wObj α c kd num v row) (hf : frI (Fo a) α β) : wObj β c kd num v row := h.fr (hf.fo ha).z
theorem frI.ko (hf : frI (Fk a) α β) : frI (Fo a) α β := hf.mono (fun k => Fk.o)
theorem lp_own {n W : Nat} (hW : W < 8) (hO : ∀ m, n = m + 1 → cOwn G Γ A a T c kd row W b t num v d m) (hq : q < 5832) (hn : zla q = n) (hn0 : 0 < n) (hnT : n ≤ T)
    (h : ∀ β, cLk Γ A a T b t β → cAt a β q → wObj β c kd num v row → cOw β (zown (zwy A T b t kd v row) (sp_pay A.1.1) W) → frI (Fo a) α β → post (some (.int (nI (zown (zwy A T b t kd v row) (sp_pay A.1.1) W q)))) β) :
    ∀ (j s : Nat), s + j = 3 → ∀ (x7 x8 : Option Value) (β : AH), cLk Γ A a T b t β → cAt a β q → wObj β c kd num v row → cOw β (zown (zwy A T b t kd v row) (sp_pay A.1.1) W) → frI (Fo a) α β → Z G mX0_ownSum (d + n + 56) 57 [some (.ref (G.1 + a)), some (.ref (G.1 + c)), some (.int (nI W)), some (.int (nI (cgs q))), some (.int (nI (cq q))), some (.int (nI (zpart (fun s => (if W = 0 then zoq (zd q s) * zpays (sp_pay A.1.1) (zd q s) (zwy A T b t kd v row (zd q s) s) else 0) + zown (zwy A T b t kd v row) (sp_pay A.1.1) W (zdw (zd q s) (zwy A T b t kd v row (zd q s) s))) q s))), some (.int (nI s)), x7, x8] [] β (0, 0) post := by
  obtain ⟨m, rfl⟩ : ∃ m, n = m + 1 := ⟨n - 1, by omega⟩
  rw [show d + (m + 1) + 56 = d + m + 56 + 1 by omega]
  intro j
  induction j with
  | zero =>
    intro s hs x7 x8 β hw hc ho hm hf
    have hs : s = 3 := by omega
    subst hs
    have ha := hw.get.1
    rw [zpart3, ← zown_eq zwy_ok hq (by omega)]
    refine Z_iload dX0_ownSum_57 rfl ?_
    refine Z_iconst (v := 3) dX0_ownSum_59 (by decide) ?_
    refine Z_icmp_ge (tgt := 138) dX0_ownSum_60 (by decide) (fun h60 => ?_) (fun h60 => ?_)
    · skip
      refine Z_aload_n dX0_ownSum_138 rfl rfl ?_
      refine Z_getR dX0_ownSum_139 cl_0 fl_X0_35_0 rfl ha.1 ha.2.2.2.2.2.1 ?_
      refine Z_iload dX0_ownSum_142 rfl ?_
      refine Z_iload dX0_ownSum_144 rfl ?_
      refine Z_iast dX0_ownSum_146 ha.2.2.2.2.2.2.2.2.2.2 (zix_nI (cq_lt hq) (by decide)) ?_
      refine Z_iload dX0_ownSum_147 rfl ?_
      refine Z_iret dX0_ownSum_149 rfl rfl ⟨by decide, by decide⟩ ?_
      exact h _ hw.own (hc.own hw.2.1) (ho.fo hw.2.1 (frI.sI (Or.inl rfl))) (hm.put hq) (hf.tr (frI.sI (Or.inl rfl)))
    · skip
      exact absurd (by decide) h60
  | succ j ih =>
    intro s hs x7 x8 β hw hc ho hm hf
    have ha := hw.get.1
    have haa := hw.2.1
    have hl := zl_le (s := s) hq
    have hl15 := zla_le hq
    have cs := hc.1 s (by omega)
    have nx0 : ¬ 0 < zl q s → zpart (fun s => (if W = 0 then zoq (zd q s) * zpays (sp_pay A.1.1) (zd q s) (zwy A T b t kd v row (zd q s) s) else 0) + zown (zwy A T b t kd v row) (sp_pay A.1.1) W (zdw (zd q s) (zwy A T b t kd v row (zd q s) s))) q (s + 1) = zpart (fun s => (if W = 0 then zoq (zd q s) * zpays (sp_pay A.1.1) (zd q s) (zwy A T b t kd v row (zd q s) s) else 0) + zown (zwy A T b t kd v row) (sp_pay A.1.1) W (zdw (zd q s) (zwy A T b t kd v row (zd q s) s))) q s := fun z => by
      show _ + (if 0 < zl q s then _ else 0) = _
      rw [if_neg z]; rfl
    have nx1 : 0 < zl q s → zpart (fun s => (if W = 0 then zoq (zd q s) * zpays (sp_pay A.1.1) (zd q s) (zwy A T b t kd v row (zd q s) s) else 0) + zown (zwy A T b t kd v row) (sp_pay A.1.1) W (zdw (zd q s) (zwy A T b t kd v row (zd q s) s))) q (s + 1) = zpart (fun s => (if W = 0 then zoq (zd q s) * zpays (sp_pay A.1.1) (zd q s) (zwy A T b t kd v row (zd q s) s) else 0) + zown (zwy A T b t kd v row) (sp_pay A.1.1) W (zdw (zd q s) (zwy A T b t kd v row (zd q s) s))) q s + ((if W = 0 then zoq (zd q s) * zpays (sp_pay A.1.1) (zd q s) (zwy A T b t kd v row (zd q s) s) else 0) + zown (zwy A T b t kd v row) (sp_pay A.1.1) W (zdw (zd q s) (zwy A T b t kd v row (zd q s) s))) := fun z => by
      show _ + (if 0 < zl q s then _ else 0) = _
      rw [if_pos z]
    generalize zpart (fun s => (if W = 0 then zoq (zd q s) * zpays (sp_pay A.1.1) (zd q s) (zwy A T b t kd v row (zd q s) s) else 0) + zown (zwy A T b t kd v row) (sp_pay A.1.1) W (zdw (zd q s) (zwy A T b t kd v row (zd q s) s))) q s = P at nx0 nx1 ⊢
    have hQ := zwy_ok (A := A) (T := T) (b := b) (t := t) (kd := kd) (v := v) (row := row) (zd q s) s
    refine Z_iload dX0_ownSum_57 rfl ?_
    refine Z_iconst (v := 3) dX0_ownSum_59 (by decide) ?_
    refine Z_icmp_ge (tgt := 138) dX0_ownSum_60 (by decide) (fun h60 => ?_) (fun h60 => ?_)
    · skip
      exact absurd h60 (nI_ge (a := s) (b := 3) (by omega) (by omega))
    · skip
      refine Z_aload_n dX0_ownSum_63 rfl rfl ?_
      refine Z_getR dX0_ownSum_64 cl_0 fl_X0_9_0 rfl ha.1 ha.2.1 ?_
      refine Z_iload dX0_ownSum_67 rfl ?_
      refine Z_ialdv dX0_ownSum_69 ha.2.2.2.2.2.2.1 (zix_nI (m := s) (by omega) (by decide)) cs ?_
      refine Z_if_le (tgt := 132) dX0_ownSum_70 (by decide) (fun h70 => ?_) (fun h70 => ?_)
      · skip
        refine Z_iinc (L' := [_, _, _, _, _, _, _, _, _]) dX0_ownSum_132 rfl (by rfl : _ + Int32.ofInt 1 = _ + 1) (by decide) rfl rfl ?_
        refine Z_goto (tgt := 57) dX0_ownSum_135 (by decide) ?_
        rw [nI_1]
        first
          | (rw [← nx]
             exact ih (s + 1) (by omega) _ _ ζ hw4 hc4 (ho3.fo haa (hf4.kl4.ko)) (hm3.fk haa hf4.kl4) (hf.tr ((f12.tr hf3).tr (hf4.kl4.ko))))
          | (rw [← nx0 (fun z => by have := nI_nle z (by omega); exact this h70)]
             exact ih (s + 1) (by omega) _ _ β hw hc ho hm hf)
      · skip
        have hp := nI_pos0 (by omega) h70
        have ok := zd_ok hq (show s < 3 by omega) hp
        have ok2 := zdw_ok ok.2.1 hQ
        have nx := nx1 hp
        refine Z_aload_n dX0_ownSum_73 rfl rfl ?_
        refine Z_iload dX0_ownSum_74 rfl ?_
        refine Z_V1z (ci := 0) dX0_ownSum_76 to_X0_take lk_X0_82 iv_X0_take ⟨rfl, rfl⟩ ha.1 (Nat.le_of_ble_eq_true rfl) ⟨rfl, rfl⟩ ⟨by decide, by decide⟩ ?_
        refine k_take hw hc hq (by omega) hp (fun γ hw1 hc1 hf1 => ?_)
        have ha := hw1.get.1
        refine Z_aload_n dX0_ownSum_79 rfl rfl ?_
        refine Z_aload_n dX0_ownSum_80 rfl rfl ?_
        refine Z_iload dX0_ownSum_81 rfl ?_
        refine Z_iload_n dX0_ownSum_83 rfl rfl ?_
        rw [← cgs_zd hq (show s < 3 by omega) hp]
        refine Z_does (d := d + m + 3) dX0_ownSum_84 wd_764 (ho.fo haa ((hf1.mono (fun k => Ft.l)).mono (fun k => Fl.o))) hw1 hc1 ok.2.1 (by omega) (by omega) (by omega) (Nat.le_of_ble_eq_true rfl) ⟨by decide, by decide⟩ (fun δ hw2 hc2 hf2 => ?_)
        rw [cgs_zd hq (show s < 3 by omega) hp, show zdoC (zbc b t (zcn A.1 T)) (sp_pay A.1.1) kd v (row / 4 ^ s % 4) (zd q s) s = zwy A T b t kd v row (zd q s) s from rfl]
        have ha := hw2.get.1
        have f12k : frI (Fk a) β δ := (hf1.kl4).tr hf2
        have f12 : frI (Fo a) β δ := f12k.ko
        generalize hX : zwy A T b t kd v row (zd q s) s = X at *
        refine Z_istore (L' := [_, _, _, _, _, _, _, _, _]) dX0_ownSum_87 (by decide) rfl rfl ?_
        refine Z_iload_n dX0_ownSum_89 rfl rfl ?_
        refine Z_if_ne (tgt := 103) dX0_ownSum_90 (by decide) (fun h90 => ?_) (fun h90 => ?_)
        · skip
          have hW0 : ¬ W = 0 := fun z => h90 (by rw [z]; rfl)
          rw [if_neg hW0] at nx
          refine Z_iconst (v := 0) dX0_ownSum_103 (by decide) ?_
          refine Z_istore (L' := [_, _, _, _, _, _, _, _, _]) dX0_ownSum_104 (by decide) rfl rfl ?_
          refine Z_iload dX0_ownSum_106 rfl ?_
          refine Z_iload dX0_ownSum_108 rfl ?_
          refine Z_aload_n dX0_ownSum_110 rfl rfl ?_
          refine Z_aload_n dX0_ownSum_111 rfl rfl ?_
          refine Z_iload_n dX0_ownSum_112 rfl rfl ?_
          refine Z_iload dX0_ownSum_113 rfl ?_
          refine Z_iload_n dX0_ownSum_115 rfl rfl ?_
          refine Z_S2z dX0_ownSum_116 to_X11_after lk_X0_113 sc_X11_after (Nat.le_of_ble_eq_true rfl) ⟨rfl, rfl⟩ ⟨by decide, by decide⟩ ?_
          rw [← cgs_zd hq (show s < 3 by omega) hp]
          refine k_after (by omega) ?_
          rw [cgs_do ok.2.1 (by omega) (fun z => by omega), cgs_zd hq (show s < 3 by omega) hp]
          refine Z_V3z (ci := 0) dX0_ownSum_119 to_X0_ownSum lk_X0_132 iv_X0_ownSum ⟨rfl, rfl⟩ ha.1 (Nat.le_of_ble_eq_true rfl) ⟨rfl, rfl⟩ ⟨by decide, by decide⟩ ?_
          refine hO m rfl _ _ _ ok2.1 (by rw [ok2.2.1]; omega) (by omega) hw2 (hc2.la _ (fun j => zdw_l ok.2.1 hQ j)) (ho.fo haa f12) (hm.fk haa f12k) (fun ε hw3 hc3 ho3 hm3 hf3 => ?_)
          have ha := hw3.get.1
          have hc3 : cAt a ε (zd q s) := hc3.la _ (fun j => (zdw_l ok.2.1 hQ j).symm)
          refine Z_iadd dX0_ownSum_122 ?_
          first
            | rw [nI_add]
            | rw [show (0 : Int32) = nI 0 from rfl, nI_add]
          refine Z_iadd dX0_ownSum_123 ?_
          rw [nI_add]
          refine Z_istore (L' := [_, _, _, _, _, _, _, _, _]) dX0_ownSum_124 (by decide) rfl rfl ?_
          refine Z_aload_n dX0_ownSum_126 rfl rfl ?_
          refine Z_iload dX0_ownSum_127 rfl ?_
          refine Z_V1z (ci := 0) dX0_ownSum_129 to_X0_back lk_X0_89 iv_X0_back ⟨rfl, rfl⟩ ha.1 (Nat.le_of_ble_eq_true rfl) ⟨rfl, rfl⟩ ⟨by decide, by decide⟩ ?_
          refine k_back hw3 hc3 hq (by omega) hp (fun ζ hw4 hc4 hf4 => ?_)
          have ha := hw4.get.1
          refine Z_iinc (L' := [_, _, _, _, _, _, _, _, _]) dX0_ownSum_132 rfl (by rfl : _ + Int32.ofInt 1 = _ + 1) (by decide) rfl rfl ?_
          refine Z_goto (tgt := 57) dX0_ownSum_135 (by decide) ?_
          rw [nI_1]
          first
            | (rw [← nx]
               exact ih (s + 1) (by omega) _ _ ζ hw4 hc4 (ho3.fo haa (hf4.kl4.ko)) (hm3.fk haa hf4.kl4) (hf.tr ((f12.tr hf3).tr (hf4.kl4.ko))))
            | (rw [← nx0 (fun z => by have := nI_nle z (by omega); exact this h70)]
               exact ih (s + 1) (by omega) _ _ β hw hc ho hm hf)
        · skip
          have hW0 : W = 0 := (nI_eq (b := 0) (by omega) (by omega)).mp h90
          rw [if_pos hW0] at nx
          refine Z_aload_n dX0_ownSum_93 rfl rfl ?_
          refine Z_iload dX0_ownSum_94 rfl ?_
          refine Z_iload_n dX0_ownSum_96 rfl rfl ?_
          refine Z_V2z (ci := 0) dX0_ownSum_97 to_X0_paidOn lk_X0_110 iv_X0_paidOn ⟨rfl, rfl⟩ ha.1 (Nat.le_of_ble_eq_true rfl) ⟨rfl, rfl⟩ ⟨by decide, by decide⟩ ?_
          rw [← cgs_zd hq (show s < 3 by omega) hp]
          refine k_paidOn hw2 hc2 ok.2.1 (by omega) ?_
          rw [cgs_zd hq (show s < 3 by omega) hp]
          refine Z_goto (tgt := 104) dX0_ownSum_100 (by decide) ?_
          refine Z_istore (L' := [_, _, _, _, _, _, _, _, _]) dX0_ownSum_104 (by decide) rfl rfl ?_
          refine Z_iload dX0_ownSum_106 rfl ?_
          refine Z_iload dX0_ownSum_108 rfl ?_
          refine Z_aload_n dX0_ownSum_110 rfl rfl ?_
          refine Z_aload_n dX0_ownSum_111 rfl rfl ?_
          refine Z_iload_n dX0_ownSum_112 rfl rfl ?_
          refine Z_iload dX0_ownSum_113 rfl ?_
          refine Z_iload_n dX0_ownSum_115 rfl rfl ?_
          refine Z_S2z dX0_ownSum_116 to_X11_after lk_X0_113 sc_X11_after (Nat.le_of_ble_eq_true rfl) ⟨rfl, rfl⟩ ⟨by decide, by decide⟩ ?_
          rw [← cgs_zd hq (show s < 3 by omega) hp]
          refine k_after (by omega) ?_
          rw [cgs_do ok.2.1 (by omega) (fun z => by omega), cgs_zd hq (show s < 3 by omega) hp]
          refine Z_V3z (ci := 0) dX0_ownSum_119 to_X0_ownSum lk_X0_132 iv_X0_ownSum ⟨rfl, rfl⟩ ha.1 (Nat.le_of_ble_eq_true rfl) ⟨rfl, rfl⟩ ⟨by decide, by decide⟩ ?_
          refine hO m rfl _ _ _ ok2.1 (by rw [ok2.2.1]; omega) (by omega) hw2 (hc2.la _ (fun j => zdw_l ok.2.1 hQ j)) (ho.fo haa f12) (hm.fk haa f12k) (fun ε hw3 hc3 ho3 hm3 hf3 => ?_)
          have ha := hw3.get.1
          have hc3 : cAt a ε (zd q s) := hc3.la _ (fun j => (zdw_l ok.2.1 hQ j).symm)
          refine Z_iadd dX0_ownSum_122 ?_
          first
            | rw [nI_add]
            | rw [show (0 : Int32) = nI 0 from rfl, nI_add]
          refine Z_iadd dX0_ownSum_123 ?_
          rw [nI_add]
          refine Z_istore (L' := [_, _, _, _, _, _, _, _, _]) dX0_ownSum_124 (by decide) rfl rfl ?_
          refine Z_aload_n dX0_ownSum_126 rfl rfl ?_
          refine Z_iload dX0_ownSum_127 rfl ?_
          refine Z_V1z (ci := 0) dX0_ownSum_129 to_X0_back lk_X0_89 iv_X0_back ⟨rfl, rfl⟩ ha.1 (Nat.le_of_ble_eq_true rfl) ⟨rfl, rfl⟩ ⟨by decide, by decide⟩ ?_
          refine k_back hw3 hc3 hq (by omega) hp (fun ζ hw4 hc4 hf4 => ?_)
          have ha := hw4.get.1
          refine Z_iinc (L' := [_, _, _, _, _, _, _, _, _]) dX0_ownSum_132 rfl (by rfl : _ + Int32.ofInt 1 = _ + 1) (by decide) rfl rfl ?_
          refine Z_goto (tgt := 57) dX0_ownSum_135 (by decide) ?_
          rw [nI_1]
          first
            | (rw [← nx]
               exact ih (s + 1) (by omega) _ _ ζ hw4 hc4 (ho3.fo haa (hf4.kl4.ko)) (hm3.fk haa hf4.kl4) (hf.tr ((f12.tr hf3).tr (hf4.kl4.ko))))
            | (rw [← nx0 (fun z => by have := nI_nle z (by omega); exact this h70)]
               exact ih (s + 1) (by omega) _ _ β hw hc ho hm hf)
theorem st_own {n W : Nat} (hW : W < 8) (hO : ∀ m, n = m + 1 → cOwn G Γ A a T c kd row W b t num v d m) : cOwn G Γ A a T c kd row W b t num v d n := by
  intro q α post hq hn hnT hw hc ho hm h
  have ha := hw.get.1
  have hl := zla_le hq
  have hlt := zown_lt (f := zwy A T b t kd v row) (W := W) zwy_ok (sp_pay_le hw.1.2.2.1) hq
  have hWq : nI W = 0 ↔ W = 0 := nI_eq (b := 0) (by omega) (by omega)
  refine ZK.of (n := 5) (by decide) (Nat.le_of_ble_eq_true rfl) rfl ?_
  by_cases h0 : n = 0
  · rw [zown_0 (by omega)] at h
    refine Z_aload_n dX0_ownSum_0 rfl rfl ?_
    refine Z_getIv dX0_ownSum_1 cl_0 fl_X0_47_0 rfl ha.1 hc.2 ?_
    refine Z_if_gt (tgt := 25) dX0_ownSum_4 (by decide) (fun h4 => ?_) (fun h4 => ?_)
    · skip
      exact absurd h4 (by rw [hn, h0]; decide)
    · skip
      refine Z_iload_n dX0_ownSum_7 rfl rfl ?_
      refine Z_if_eq (tgt := 23) dX0_ownSum_8 (by decide) (fun h8 => ?_) (fun h8 => ?_)
      · skip
        refine Z_iconst (v := 0) dX0_ownSum_23 (by decide) ?_
        refine Z_iret dX0_ownSum_24 rfl rfl ⟨by decide, by decide⟩ ?_
        first
          | (have z1 : ¬ W = 0 := fun z => h8 (hWq.mpr z)
             have z2 := b2i_ne.mp h16
             rw [if_pos ⟨z1, z2⟩] at h; exact h α hw hc ho hm frI.rf)
          | (have z2 := b2i_eq.mp h16
             rw [if_neg (fun z => by rw [z2] at z; exact absurd z.2 (by decide))] at h; exact h α hw hc ho hm frI.rf)
          | (have z1 : W = 0 := hWq.mp h8
             rw [if_neg (fun z => z.1 z1)] at h; exact h α hw hc ho hm frI.rf)
      · skip
        refine Z_iload_n dX0_ownSum_11 rfl rfl ?_
        refine Z_iload_n dX0_ownSum_12 rfl rfl ?_
        refine Z_S2z dX0_ownSum_13 to_X0_reached lk_X0_123 sc_X0_reached (Nat.le_of_ble_eq_true rfl) ⟨rfl, rfl⟩ ⟨by decide, by decide⟩ ?_
        refine k_reached (q := q) hW ?_
        refine Z_if_eq (tgt := 23) dX0_ownSum_16 (by decide) (fun h16 => ?_) (fun h16 => ?_)
        · skip
          refine Z_iconst (v := 0) dX0_ownSum_23 (by decide) ?_
          refine Z_iret dX0_ownSum_24 rfl rfl ⟨by decide, by decide⟩ ?_
          first
            | (have z1 : ¬ W = 0 := fun z => h8 (hWq.mpr z)
               have z2 := b2i_ne.mp h16
               rw [if_pos ⟨z1, z2⟩] at h; exact h α hw hc ho hm frI.rf)
            | (have z2 := b2i_eq.mp h16
               rw [if_neg (fun z => by rw [z2] at z; exact absurd z.2 (by decide))] at h; exact h α hw hc ho hm frI.rf)
            | (have z1 : W = 0 := hWq.mp h8
               rw [if_neg (fun z => z.1 z1)] at h; exact h α hw hc ho hm frI.rf)
        · skip
          refine Z_iconst (v := 1) dX0_ownSum_19 (by decide) ?_
          refine Z_goto (tgt := 24) dX0_ownSum_20 (by decide) ?_
          refine Z_iret dX0_ownSum_24 rfl rfl ⟨by decide, by decide⟩ ?_
          first
            | (have z1 : ¬ W = 0 := fun z => h8 (hWq.mpr z)
               have z2 := b2i_ne.mp h16
               rw [if_pos ⟨z1, z2⟩] at h; exact h α hw hc ho hm frI.rf)
            | (have z2 := b2i_eq.mp h16
               rw [if_neg (fun z => by rw [z2] at z; exact absurd z.2 (by decide))] at h; exact h α hw hc ho hm frI.rf)
            | (have z1 : W = 0 := hWq.mp h8
               rw [if_neg (fun z => z.1 z1)] at h; exact h α hw hc ho hm frI.rf)
  · have hp : ¬ nI (zla q) ≤ 0 := nI_nle (by omega) (by omega)
    rcases hm q hq with mm | mm
    · skip
      refine Z_aload_n dX0_ownSum_0 rfl rfl ?_
      refine Z_getIv dX0_ownSum_1 cl_0 fl_X0_47_0 rfl ha.1 hc.2 ?_
      refine Z_if_gt (tgt := 25) dX0_ownSum_4 (by decide) (fun h4 => ?_) (fun h4 => ?_)
      · skip
        refine Z_aload_n dX0_ownSum_25 rfl rfl ?_
        refine Z_iload_n dX0_ownSum_26 rfl rfl ?_
        refine Z_V1z (ci := 0) dX0_ownSum_27 to_X0_place lk_X0_78 iv_X0_place ⟨rfl, rfl⟩ ha.1 (Nat.le_of_ble_eq_true rfl) ⟨rfl, rfl⟩ ⟨by decide, by decide⟩ ?_
        refine k_place hw hc hq ?_
        refine Z_istore (L' := [_, _, _, _, _, _, _, _, _]) dX0_ownSum_30 (by decide) rfl rfl ?_
        refine Z_aload_n dX0_ownSum_32 rfl rfl ?_
        refine Z_getR dX0_ownSum_33 cl_0 fl_X0_35_0 rfl ha.1 ha.2.2.2.2.2.1 ?_
        refine Z_iload dX0_ownSum_36 rfl ?_
        refine Z_ialdv dX0_ownSum_38 ha.2.2.2.2.2.2.2.2.2.2 (zix_nI (cq_lt hq) (by decide)) mm ?_
        refine Z_iconst (v := -1) dX0_ownSum_39 (by decide) ?_
        refine Z_icmp_eq (tgt := 51) dX0_ownSum_40 (by decide) (fun h40 => ?_) (fun h40 => ?_)
        · skip
          refine Z_iconst (v := 0) dX0_ownSum_51 (by decide) ?_
          refine Z_istore (L' := [_, _, _, _, _, _, _, _, _]) dX0_ownSum_52 (by decide) rfl rfl ?_
          refine Z_iconst (v := 0) dX0_ownSum_54 (by decide) ?_
          refine Z_istore (L' := [_, _, _, _, _, _, _, _, _]) dX0_ownSum_55 (by decide) rfl rfl ?_
          exact lp_own hW hO hq hn (by omega) hnT h 3 0 rfl _ _ α hw hc ho hm frI.rf
        · skip
          exact absurd rfl h40
      · skip
        exact absurd h4 (fun z => hp (by simp only [Int32.lt_iff_toInt_lt, Int32.le_iff_toInt_le] at *; omega))
    · skip
      refine Z_aload_n dX0_ownSum_0 rfl rfl ?_
      refine Z_getIv dX0_ownSum_1 cl_0 fl_X0_47_0 rfl ha.1 hc.2 ?_
      refine Z_if_gt (tgt := 25) dX0_ownSum_4 (by decide) (fun h4 => ?_) (fun h4 => ?_)
      · skip
        refine Z_aload_n dX0_ownSum_25 rfl rfl ?_
        refine Z_iload_n dX0_ownSum_26 rfl rfl ?_
        refine Z_V1z (ci := 0) dX0_ownSum_27 to_X0_place lk_X0_78 iv_X0_place ⟨rfl, rfl⟩ ha.1 (Nat.le_of_ble_eq_true rfl) ⟨rfl, rfl⟩ ⟨by decide, by decide⟩ ?_
        refine k_place hw hc hq ?_
        refine Z_istore (L' := [_, _, _, _, _, _, _, _, _]) dX0_ownSum_30 (by decide) rfl rfl ?_
        refine Z_aload_n dX0_ownSum_32 rfl rfl ?_
        refine Z_getR dX0_ownSum_33 cl_0 fl_X0_35_0 rfl ha.1 ha.2.2.2.2.2.1 ?_
        refine Z_iload dX0_ownSum_36 rfl ?_
        refine Z_ialdv dX0_ownSum_38 ha.2.2.2.2.2.2.2.2.2.2 (zix_nI (cq_lt hq) (by decide)) mm ?_
        refine Z_iconst (v := -1) dX0_ownSum_39 (by decide) ?_
        refine Z_icmp_eq (tgt := 51) dX0_ownSum_40 (by decide) (fun h40 => ?_) (fun h40 => ?_)
        · skip
          exact absurd h40 (nI_nm1 (by omega))
        · skip
          refine Z_aload_n dX0_ownSum_43 rfl rfl ?_
          refine Z_getR dX0_ownSum_44 cl_0 fl_X0_35_0 rfl ha.1 ha.2.2.2.2.2.1 ?_
          refine Z_iload dX0_ownSum_47 rfl ?_
          refine Z_ialdv dX0_ownSum_49 ha.2.2.2.2.2.2.2.2.2.2 (zix_nI (cq_lt hq) (by decide)) mm ?_
          refine Z_iret dX0_ownSum_50 rfl rfl ⟨by decide, by decide⟩ ?_
          exact h α hw hc ho hm frI.rf
      · skip
        exact absurd h4 (fun z => hp (by simp only [Int32.lt_iff_toInt_lt, Int32.le_iff_toInt_le] at *; omega))
theorem cOwn_all {W : Nat} (hW : W < 8) : ∀ n, cOwn G Γ A a T c kd row W b t num v d n
  | 0 => st_own hW (fun m h => by cases h)
  | n + 1 => st_own hW (fun m h => by cases h; exact cOwn_all hW n)
theorem k_ownSum {W : Nat} (hW : W < 8) (hw : cLk Γ A a T b t α) (hc : cAt a α q) (hq : q < 5832) (hT : zla q ≤ T) (ho : wObj α c kd num v row) (hm : cOw α (zown (zwy A T b t kd v row) (sp_pay A.1.1) W)) (h : ∀ β, cLk Γ A a T b t β → cAt a β q → frI (Fo a) α β → post (some (.int (nI (zown (zwy A T b t kd v row) (sp_pay A.1.1) W q)))) β) : ZK G (d + 71) mX0_ownSum [.ref (G.1 + a), .ref (G.1 + c), .int (nI W), .int (nI (cgs q))] α post := by
  have hla := zla_le hq
  have := cOwn_all (G := G) (Γ := Γ) (A := A) (a := a) (T := T) (b := b) (t := t) (c := c) (kd := kd) (row := row) (num := num) (v := v) (d := d + (15 - zla q)) hW (zla q) q α post hq rfl hT hw hc ho hm (fun β h1 h2 _ _ h5 => h β h1 h2 h5)
  rw [show d + (15 - zla q) + zla q + 56 = d + 71 by omega] at this
  exact this
end CW1
