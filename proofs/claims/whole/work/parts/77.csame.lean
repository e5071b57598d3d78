section CO6
variable {G : ZG} {d : Nat} {α β γ : AH} {post : Option Value → AH → Prop} {Γ : Nat → VC} {A : ZA}
/-- more cells, the old ones as they were -/
def frE (α β : AH) : Prop := hN α ≤ hN β ∧ ∀ k, k < hN α → same4 α β k
theorem frE.c (h : frE α β) : frC α β := ⟨h.1, fun k hk _ => h.2 k hk⟩
theorem frE.rf : frE α α := ⟨Nat.le_refl _, fun _ _ => same4.rf⟩
theorem frE.tr (h : frE α β) (h' : frE β γ) : frE α γ := ⟨Nat.le_trans h.1 h'.1, fun k hk => (h.2 k hk).tr (h'.2 k (Nat.lt_of_lt_of_le hk h.1))⟩
theorem frE.new {sh : Nat × Nat} {f : Nat → Int32} : frE α (nw α sh f) := ⟨Nat.le_succ _, fun k hk => by
  have hk : k < α.1 := hk
  exact ⟨u1_n (by omega), u1_n (by omega), u1_n (by omega), u1_n (by omega)⟩⟩
theorem frE.row {a : Nat} {f : Nat → Int32} (h : frE α β) (ha : hN α ≤ a) : frE α (sIr β a f) := ⟨h.1, fun k hk => (h.2 k hk).tr ⟨rfl, u1_n (by omega), rfl, rfl⟩⟩
theorem frE.pI {a j : Nat} {x : Int32} (h : frE α β) (ha : hN α ≤ a) : frE α (sI β a j x) := ⟨h.1, fun k hk => (h.2 k hk).tr ⟨rfl, u2_row (by omega), rfl, rfl⟩⟩
theorem frE.pP {a j : Nat} {x : Option Nat} (h : frE α β) (ha : hN α ≤ a) : frE α (sP β a j x) := ⟨h.1, fun k hk => (h.2 k hk).tr ⟨rfl, rfl, rfl, u2_row (by omega)⟩⟩
theorem CRel.ext (h : CRel Γ A α) (hf : frE α β) : CRel Γ A β := by
  obtain ⟨k1, k2, k3, k4, k5, k6, k7, k8⟩ := h
  have hz := hf.c.z
  have hr : ∀ k, k < 52 → hI β k = hI α k ∧ hP β k = hP α k := fun k hk => ⟨(hf.2 k (by omega)).2.1, (hf.2 k (by omega)).2.2.2⟩
  have cw : CW β := zShape.ext k1 ⟨hf.1, fun k hk => (hf.2 k hk).1⟩ (fun q hq => by
    have : ∀ q ∈ zCp, q.1 < 52 := by decide
    rw [(hr q.1 (this q hq)).2])
  refine ⟨cw, Nat.le_trans k2 hf.1, k3, k4.fr hz (fun k p q => hr k (by omega)), k5.fr hz (fun k p q => hr k (by omega)) (by rw [(hr 0 (by omega)).1]), ?_, k7.fr hz (fun k p => (hr k (by omega)).1) (hr 23 (by omega)).2, k8.fr hz (fun k p => (hr k (by omega)).1) (hr 28 (by omega)).2⟩
  unfold cTr
  rw [(hr 33 (by omega)).1]
  exact k6
theorem k_ordersByBook {k a : Nat} (hr : CRel Γ A α) (ha : (k = 6 ∧ a = 6) ∨ (k = 7 ∧ a = 164)) (h : ∀ β, frE α β → CRel Γ A β → post (some (.int (nI (zbk A.1.1 (A.1.1 2) 0 (fun s => A.1.1 (a + s)))))) β) : ZK G (d + 3) mX11_ordersByBook [.ref (G.1 + 0), .ref (G.1 + k)] α post := by
  have hw := hr.1
  have b2 : A.1.1 2 ≤ 12 := hr.sb.at (by omega) rfl
  have hk : zIs α k (0, 3) := by
    rcases ha with ⟨rfl, -⟩ | ⟨rfl, -⟩
    · exact cw_i6 hw
    · exact cw_i7 hw
  have hv : ∀ s, s < 3 → hI α k s = nI (A.1.1 (a + s)) ∧ A.1.1 (a + s) ≤ 5 := fun s hs => by
    rcases ha with ⟨rfl, rfl⟩ | ⟨rfl, rfl⟩
    · exact ⟨hr.2.2.2.1.1.1 s hs, hr.sb.at (by omega) (zbd_bag hs)⟩
    · exact ⟨hr.2.2.2.1.1.2.1 s hs, hr.sb.at (by omega) (zbd_oth hs)⟩
  have hz0 : zIs (nw α (0, 3) (hI α k)) (hN α) (0, 3) := ⟨Nat.lt_succ_self _, hS_nw⟩
  have hzg : ∀ {g : Nat → Int32}, zIs (sIr (nw α (0, 3) (hI α k)) (hN α) g) (hN α) (0, 3) := hz0
  have fe : ∀ {g : Nat → Int32}, frE α (sIr (nw α (0, 3) (hI α k)) (hN α) g) := frE.new.row (Nat.le_refl _)
  have hrg : ∀ {g : Nat → Int32}, CRel Γ A (sIr (nw α (0, 3) (hI α k)) (hN α) g) := hr.ext fe
  have lp : ∀ (m i : Nat) (L : Nat → Nat) (g : Nat → Int32) (x4 : Option Value), i + m = A.1.1 2 → (∀ s, s < 3 → g s = nI (L s) ∧ L s ≤ 5) → zbk A.1.1 m i L = zbk A.1.1 (A.1.1 2) 0 (fun s => A.1.1 (a + s)) → Z G mX11_ordersByBook (d + 3) 10 [some (.ref (G.1 + 0)), some (.ref (G.1 + k)), some (.ref (G.1 + hN α)), some (.int (nI i)), x4] [] (sIr (nw α (0, 3) (hI α k)) (hN α) g) (1, 3) post := by
    intro m
    induction m with
    | zero =>
      intro i L g x4 hi hg he
      have hw := (hrg (g := g)).1
      have g0 : hI (sIr (nw α (0, 3) (hI α k)) (hN α) g) (hN α) 0 = nI (L 0) := by rw [hI_sIr, if_pos rfl]; exact (hg 0 (by omega)).1
      have g1 : hI (sIr (nw α (0, 3) (hI α k)) (hN α) g) (hN α) 1 = nI (L 1) := by rw [hI_sIr, if_pos rfl]; exact (hg 1 (by omega)).1
      have g2 : hI (sIr (nw α (0, 3) (hI α k)) (hN α) g) (hN α) 2 = nI (L 2) := by rw [hI_sIr, if_pos rfl]; exact (hg 2 (by omega)).1
      have c0 := (hg 0 (by omega)).2
      have c1 := (hg 1 (by omega)).2
      have c2 := (hg 2 (by omega)).2
      refine Z_iload_n dX11_ordersByBook_10 rfl rfl ?_
      refine Z_aload_n dX11_ordersByBook_11 rfl rfl ?_
      refine Z_getR dX11_ordersByBook_12 cl_11 fl_X11_21_11 rfl (cw_i0 hw) (cw_p0_0 hw) ?_
      refine Z_getIv dX11_ordersByBook_15 cl_5 fl_X11_210_5 rfl (cw_i5 hw) (hrg (g := g)).2.2.2.1.2.1.2.2.2.2.2 ?_
      refine Z_icmp_ge (tgt := 55) dX11_ordersByBook_18 (by decide) (fun h18 => ?_) (fun h18 => ?_)
      · skip
        refine Z_aload_n dX11_ordersByBook_55 rfl rfl ?_
        refine Z_S1z dX11_ordersByBook_56 to_X11_ordersOf lk_X11_170 sc_X11_ordersOf (Nat.le_of_ble_eq_true rfl) ⟨rfl, rfl⟩ ⟨by decide, by decide⟩ ?_
        refine k_ordersOf hzg (by decide) g0 g1 g2 (by omega) ?_
        refine Z_iret dX11_ordersByBook_59 rfl rfl ⟨by decide, by decide⟩ ?_
        rw [show zord (L 0) (L 1) (L 2) = _ from he]; exact h _ fe hrg
      · skip
        exact absurd (nI_le (by omega) (by omega)) h18
    | succ m ih =>
      intro i L g x4 hi hg he
      have hw := (hrg (g := g)).1
      have bs : A.1.1 (152 + i) ≤ 2 := hr.sb.at (by omega) (zbd_book (by omega))
      have vs := (hrg (g := g)).2.2.2.1.1.2.2.2 i (by omega)
      have he : (if L (A.1.1 (152 + i)) = 0 then 0 else zbk A.1.1 m (i + 1) (u1 L (A.1.1 (152 + i)) (L (A.1.1 (152 + i)) - 1))) = _ := he
      generalize A.1.1 (152 + i) = s at *
      have gs : hI (sIr (nw α (0, 3) (hI α k)) (hN α) g) (hN α) s = nI (L s) := by rw [hI_sIr, if_pos rfl]; exact (hg s (by omega)).1
      have c5 := (hg s (by omega)).2
      by_cases h0 : L s = 0
      · rw [if_pos h0] at he
        rw [← he] at h
        refine Z_iload_n dX11_ordersByBook_10 rfl rfl ?_
        refine Z_aload_n dX11_ordersByBook_11 rfl rfl ?_
        refine Z_getR dX11_ordersByBook_12 cl_11 fl_X11_21_11 rfl (cw_i0 hw) (cw_p0_0 hw) ?_
        refine Z_getIv dX11_ordersByBook_15 cl_5 fl_X11_210_5 rfl (cw_i5 hw) (hrg (g := g)).2.2.2.1.2.1.2.2.2.2.2 ?_
        refine Z_icmp_ge (tgt := 55) dX11_ordersByBook_18 (by decide) (fun h18 => ?_) (fun h18 => ?_)
        · skip
          exact absurd h18 (nI_ge (by omega) (by omega))
        · skip
          refine Z_aload_n dX11_ordersByBook_21 rfl rfl ?_
          refine Z_getR dX11_ordersByBook_22 cl_11 fl_X11_21_11 rfl (cw_i0 hw) (cw_p0_0 hw) ?_
          refine Z_getR dX11_ordersByBook_25 cl_5 fl_X11_213_5 rfl (cw_i5 hw) (cw_p5_10 hw) ?_
          refine Z_iload_n dX11_ordersByBook_28 rfl rfl ?_
          refine Z_ialdv dX11_ordersByBook_29 (cw_i10 hw) (zix_nI (m := i) (by omega) (by decide)) vs ?_
          refine Z_istore (L' := [_, _, _, _, _]) dX11_ordersByBook_30 (by decide) rfl rfl ?_
          refine Z_aload_n dX11_ordersByBook_32 rfl rfl ?_
          refine Z_iload dX11_ordersByBook_33 rfl ?_
          refine Z_ialdv dX11_ordersByBook_35 hzg (zix_nI (m := s) (by omega) (by decide)) gs ?_
          refine Z_if_ne (tgt := 41) dX11_ordersByBook_36 (by decide) (fun h36 => ?_) (fun h36 => ?_)
          · skip
            exact absurd (by rw [h0]; rfl) h36
          · skip
            refine Z_iconst (v := 0) dX11_ordersByBook_39 (by decide) ?_
            refine Z_iret dX11_ordersByBook_40 rfl rfl ⟨by decide, by decide⟩ ?_
            exact h _ fe hrg
      · rw [if_neg h0] at he
        refine Z_iload_n dX11_ordersByBook_10 rfl rfl ?_
        refine Z_aload_n dX11_ordersByBook_11 rfl rfl ?_
        refine Z_getR dX11_ordersByBook_12 cl_11 fl_X11_21_11 rfl (cw_i0 hw) (cw_p0_0 hw) ?_
        refine Z_getIv dX11_ordersByBook_15 cl_5 fl_X11_210_5 rfl (cw_i5 hw) (hrg (g := g)).2.2.2.1.2.1.2.2.2.2.2 ?_
        refine Z_icmp_ge (tgt := 55) dX11_ordersByBook_18 (by decide) (fun h18 => ?_) (fun h18 => ?_)
        · skip
          exact absurd h18 (nI_ge (by omega) (by omega))
        · skip
          refine Z_aload_n dX11_ordersByBook_21 rfl rfl ?_
          refine Z_getR dX11_ordersByBook_22 cl_11 fl_X11_21_11 rfl (cw_i0 hw) (cw_p0_0 hw) ?_
          refine Z_getR dX11_ordersByBook_25 cl_5 fl_X11_213_5 rfl (cw_i5 hw) (cw_p5_10 hw) ?_
          refine Z_iload_n dX11_ordersByBook_28 rfl rfl ?_
          refine Z_ialdv dX11_ordersByBook_29 (cw_i10 hw) (zix_nI (m := i) (by omega) (by decide)) vs ?_
          refine Z_istore (L' := [_, _, _, _, _]) dX11_ordersByBook_30 (by decide) rfl rfl ?_
          refine Z_aload_n dX11_ordersByBook_32 rfl rfl ?_
          refine Z_iload dX11_ordersByBook_33 rfl ?_
          refine Z_ialdv dX11_ordersByBook_35 hzg (zix_nI (m := s) (by omega) (by decide)) gs ?_
          refine Z_if_ne (tgt := 41) dX11_ordersByBook_36 (by decide) (fun h36 => ?_) (fun h36 => ?_)
          · skip
            refine Z_aload_n dX11_ordersByBook_41 rfl rfl ?_
            refine Z_iload dX11_ordersByBook_42 rfl ?_
            refine Z_dup2 dX11_ordersByBook_44 rfl rfl ?_
            refine Z_ialdv dX11_ordersByBook_45 hzg (zix_nI (m := s) (by omega) (by decide)) gs ?_
            refine Z_iconst (v := 1) dX11_ordersByBook_46 (by decide) ?_
            refine Z_isub dX11_ordersByBook_47 ?_
            refine Z_iast dX11_ordersByBook_48 hzg (zix_nI (m := s) (by omega) (by decide)) ?_
            rw [Rk_f]
            refine Z_iinc (L' := [_, _, _, _, _]) dX11_ordersByBook_49 rfl (by rfl : _ + Int32.ofInt 1 = _ + 1) (by decide) rfl rfl ?_
            refine Z_goto (tgt := 10) dX11_ordersByBook_52 (by decide) ?_
            rw [nI_1]
            refine ih (i + 1) _ _ _ (by omega) (fun r hr => ?_) he
            by_cases e : r = s
            · subst e; rw [u1_s, u1_s]; exact ⟨nI_s (b := 1) (by omega), by omega⟩
            · rw [u1_n e, u1_n e]; exact hg r hr
          · skip
            exact absurd ((nI_eq (b := 0) (by omega) (by omega)).mp h36) h0
  refine ZK.of (n := 3) (by decide) (Nat.le_of_ble_eq_true rfl) rfl ?_
  refine Z_aload_n dX11_ordersByBook_0 rfl rfl ?_
  refine Z_clone dX11_ordersByBook_1 wd_823 hk (Nat.le_of_ble_eq_true rfl) ⟨by decide, by decide⟩ ?_
  refine Z_castA dX11_ordersByBook_4 wd_824 hz0 ?_
  refine Z_astore_n (L' := [_, _, _, _, _]) dX11_ordersByBook_7 rfl (by decide) rfl rfl ?_
  refine Z_iconst (v := 0) dX11_ordersByBook_8 (by decide) ?_
  refine Z_istore_n (L' := [_, _, _, _, _]) dX11_ordersByBook_9 rfl (by decide) rfl rfl ?_
  rw [← Rk_self (β := nw α (0, 3) (hI α k)) (k := hN α)]
  exact lp (A.1.1 2) 0 (fun s => A.1.1 (a + s)) _ _ (by omega) (fun s hs => by rw [show hI (nw α (0, 3) (hI α k)) (hN α) = hI α k from u1_s _ _ _]; exact hv s hs) rfl
theorem zbk_le {σ : Nat → Nat} : ∀ (j i : Nat) (l : Nat → Nat), (∀ s, l s < 6) → zbk σ j i l ≤ 756756
  | 0, i, l, h => zord_le _ (h 0) _ (h 1) _ (h 2)
  | j + 1, i, l, h => by
    unfold zbk
    split
    · omega
    · exact zbk_le j (i + 1) _ (fun s => by unfold u1; split <;> have := h s <;> have := h (σ (152 + i)) <;> omega)
theorem zbk_cg {σ : Nat → Nat} (hb : SB σ) : ∀ (j i : Nat) (l l' : Nat → Nat), i + j ≤ 12 → (∀ s, s < 3 → l s = l' s) → zbk σ j i l = zbk σ j i l'
  | 0, i, l, l', _, h => by unfold zbk; rw [h 0 (by omega), h 1 (by omega), h 2 (by omega)]
  | j + 1, i, l, l', hi, h => by
    have bs : σ (152 + i) ≤ 2 := hb.at (by omega) (zbd_book (by omega))
    unfold zbk
    rw [h (σ (152 + i)) (by omega), zbk_cg hb j (i + 1) (u1 l (σ (152 + i)) (l' (σ (152 + i)) - 1)) (u1 l' (σ (152 + i)) (l' (σ (152 + i)) - 1)) (by omega) (fun s hs => by unfold u1; split <;> first | rfl | exact h s hs)]
theorem bk_key {a : Nat} (hr : CRel Γ A α) (ha : a = 6 ∨ a = 164) : 0 < (zodds A.1.1 a).2 ∧ zbk A.1.1 (A.1.1 2) 0 (fun s => A.1.1 (a + s)) * (zodds A.1.1 a).2 = (zodds A.1.1 a).1 * zord (A.1.1 a) (A.1.1 (a + 1)) (A.1.1 (a + 2)) := by
  refine zbk_od hr.sb ha (A.1.1 2) 0 1 1 (fun s => A.1.1 (a + s)) (by omega) (by decide) (by decide) (fun s _ => ⟨rfl, Nat.zero_le _⟩) rfl ?_
  show zord (A.1.1 (a + 0)) _ _ * 1 = 1 * _
  rw [Nat.mul_one, Nat.one_mul]; rfl
theorem bk_le {a : Nat} (hr : CRel Γ A α) (ha : a = 6 ∨ a = 164) : zbk A.1.1 (A.1.1 2) 0 (fun s => A.1.1 (a + s)) ≤ 756756 ∧ zord (A.1.1 a) (A.1.1 (a + 1)) (A.1.1 (a + 2)) ≤ 756756 ∧ 0 < zord (A.1.1 a) (A.1.1 (a + 1)) (A.1.1 (a + 2)) := by
  have b2 : A.1.1 2 ≤ 12 := hr.sb.at (by omega) rfl
  have bb : ∀ s, s < 3 → A.1.1 (a + s) ≤ 5 := fun s hs => by
    rcases ha with rfl | rfl
    · exact hr.sb.at (by omega) (zbd_bag hs)
    · exact hr.sb.at (by omega) (zbd_oth hs)
  have c0 : A.1.1 a ≤ 5 := bb 0 (by omega)
  have c1 := bb 1 (by omega)
  have c2 := bb 2 (by omega)
  refine ⟨?_, zord_le _ (by omega) _ (by omega) _ (by omega), zord_pos _ (by omega) _ (by omega) _ (by omega)⟩
  rw [zbk_cg hr.sb _ _ _ (fun s => if s < 3 then A.1.1 (a + s) else 0) (by omega) (fun s hs => (if_pos hs).symm)]
  refine zbk_le _ _ _ (fun s => ?_)
  by_cases hs : s < 3
  · rw [if_pos hs]; have := bb s hs; omega
  · rw [if_neg hs]; omega
theorem k_likely {p : Int32} (hr : CRel Γ A α) (h : ∀ β, CRel Γ A β → frC α β → post (some (.long (sp_likely A.1 p))) β) : ZK G (d + 4) mX11_likely [.ref (G.1 + 0), .int p] α post := by
  have hw := hr.1
  have bk := bk_key hr (Or.inl rfl)
  have bl := bk_le hr (Or.inl rfl)
  have bl : zbk A.1.1 (A.1.1 2) 0 (fun s => A.1.1 (6 + s)) ≤ 756756 ∧ zord (A.1.1 6) (A.1.1 7) (A.1.1 8) ≤ 756756 ∧ 0 < zord (A.1.1 6) (A.1.1 7) (A.1.1 8) := bl
  refine ZK.of (n := 0) (by decide) (Nat.le_of_ble_eq_true rfl) rfl ?_
  refine Z_iload_n dX11_likely_0 rfl rfl ?_
  refine Z_S1z dX11_likely_1 to_X11_isPart lk_X11_153 sc_X11_isPart (Nat.le_of_ble_eq_true rfl) ⟨rfl, rfl⟩ ⟨by decide, by decide⟩ ?_
  refine k_isPart ?_
  refine Z_if_ne (tgt := 11) dX11_likely_4 (by decide) (fun h4 => ?_) (fun h4 => ?_)
  · skip
    refine Z_aload_n dX11_likely_11 rfl rfl ?_
    refine Z_aload_n dX11_likely_12 rfl rfl ?_
    refine Z_getR dX11_likely_13 cl_11 fl_X11_21_11 rfl (cw_i0 hw) (cw_p0_0 hw) ?_
    refine Z_getR dX11_likely_16 cl_5 fl_X11_51_5 rfl (cw_i5 hw) (cw_p5_0 hw) ?_
    refine Z_V1 (ci := 11) dX11_likely_19 to_X11_ordersByBook lk_X11_216 iv_X11_ordersByBook ⟨rfl, rfl⟩ (cw_i0 hw) (Nat.le_of_ble_eq_true rfl) ⟨by decide, by decide⟩ ?_
    refine k_ordersByBook hr (Or.inl ⟨rfl, rfl⟩) (fun β hf1 hr1 => ?_)
    have hw := hr1.1
    refine Z_i2l dX11_likely_22 ?_
    refine Z_aload_n dX11_likely_23 rfl rfl ?_
    refine Z_getR dX11_likely_24 cl_11 fl_X11_21_11 rfl (cw_i0 hw) (cw_p0_0 hw) ?_
    refine Z_getR dX11_likely_27 cl_5 fl_X11_51_5 rfl (cw_i5 hw) (cw_p5_0 hw) ?_
    refine Z_S1z dX11_likely_30 to_X11_ordersOf lk_X11_170 sc_X11_ordersOf (Nat.le_of_ble_eq_true rfl) ⟨rfl, rfl⟩ ⟨by decide, by decide⟩ ?_
    refine k_ordB hr1 ?_
    refine Z_i2l dX11_likely_33 ?_
    refine Z_iload_n dX11_likely_34 rfl rfl ?_
    refine Z_S3z dX11_likely_35 to_X11_lowest lk_X11_163 sc_X11_lowest (Nat.le_of_ble_eq_true rfl) ⟨rfl, rfl⟩ ⟨by decide, by decide⟩ ?_
    rw [nI_l (by omega), nI_l (by omega), ← lZ_nat (zbk _ _ _ _)]
    refine k_lowest (by omega) (by omega) (by omega) (by omega) ?_
    refine Z_lret dX11_likely_38 rfl ⟨by decide, by decide⟩ ?_
    have e : sp_likely A.1 p = lZ (zlow ((zodds A.1.1 6).1 : Int) (zodds A.1.1 6).2 p) := if_pos (dec_t h4)
    rw [e, zlow_fr bk.1 bl.2.2 bk.2] at h
    exact h β hr1 hf1.c
  · skip
    refine Z_ldc2 dX11_likely_7 kc_X11_156 ?_
    refine Z_lret dX11_likely_10 rfl ⟨by decide, by decide⟩ ?_
    have e : sp_likely A.1 p = zNO := if_neg (dec_f h4)
    rw [e] at h; exact h α hr frC.rf
theorem k_same (hr : CRel Γ A α) (h : ∀ β, CRel Γ A β → frC α β → post (some (.int (sp_same A.1))) β) : ZK G (d + 4) mX11_same [.ref (G.1 + 0)] α post := by
  have hw := hr.1
  have k6 := bk_key hr (Or.inl rfl)
  have k7 := bk_key hr (Or.inr rfl)
  have b6 := bk_le hr (Or.inl rfl)
  have b7 := bk_le hr (Or.inr rfl)
  have o7 : ∀ {β : AH}, CRel Γ A β → hI β 7 0 = nI (A.1.1 164) ∧ hI β 7 1 = nI (A.1.1 165) ∧ hI β 7 2 = nI (A.1.1 166) := fun hb => ⟨hb.2.2.2.1.1.2.1 0 (by omega), hb.2.2.2.1.1.2.1 1 (by omega), hb.2.2.2.1.1.2.1 2 (by omega)⟩
  have c4 : A.1.1 164 ≤ 5 := hr.sb.at (by omega) rfl
  have c5 : A.1.1 165 ≤ 5 := hr.sb.at (by omega) rfl
  have c6 : A.1.1 166 ≤ 5 := hr.sb.at (by omega) rfl
  generalize eb6 : zbk A.1.1 (A.1.1 2) 0 (fun s => A.1.1 (6 + s)) = B6 at *
  generalize eb7 : zbk A.1.1 (A.1.1 2) 0 (fun s => A.1.1 (164 + s)) = B7 at *
  have k6 : 0 < (zodds A.1.1 6).2 ∧ B6 * (zodds A.1.1 6).2 = (zodds A.1.1 6).1 * zord (A.1.1 6) (A.1.1 7) (A.1.1 8) := k6
  have k7 : 0 < (zodds A.1.1 164).2 ∧ B7 * (zodds A.1.1 164).2 = (zodds A.1.1 164).1 * zord (A.1.1 164) (A.1.1 165) (A.1.1 166) := k7
  have b6 : B6 ≤ 756756 ∧ zord (A.1.1 6) (A.1.1 7) (A.1.1 8) ≤ 756756 ∧ 0 < zord (A.1.1 6) (A.1.1 7) (A.1.1 8) := b6
  have b7 : B7 ≤ 756756 ∧ zord (A.1.1 164) (A.1.1 165) (A.1.1 166) ≤ 756756 ∧ 0 < zord (A.1.1 164) (A.1.1 165) (A.1.1 166) := b7
  have m1 := Nat.mul_le_mul b6.1 b7.2.1
  have m2 := Nat.mul_le_mul b7.1 b6.2.1
  have key : (B6 * zord (A.1.1 164) (A.1.1 165) (A.1.1 166)) * ((zodds A.1.1 6).2 * (zodds A.1.1 164).2) = ((zodds A.1.1 6).1 * (zodds A.1.1 164).2) * (zord (A.1.1 6) (A.1.1 7) (A.1.1 8) * zord (A.1.1 164) (A.1.1 165) (A.1.1 166)) ∧ (B7 * zord (A.1.1 6) (A.1.1 7) (A.1.1 8)) * ((zodds A.1.1 6).2 * (zodds A.1.1 164).2) = ((zodds A.1.1 164).1 * (zodds A.1.1 6).2) * (zord (A.1.1 6) (A.1.1 7) (A.1.1 8) * zord (A.1.1 164) (A.1.1 165) (A.1.1 166)) := by
    constructor
    · calc _ = (B6 * (zodds A.1.1 6).2) * (zord (A.1.1 164) (A.1.1 165) (A.1.1 166) * (zodds A.1.1 164).2) := by ac_rfl
        _ = _ := by rw [k6.2]; ac_rfl
    · calc _ = (B7 * (zodds A.1.1 164).2) * (zord (A.1.1 6) (A.1.1 7) (A.1.1 8) * (zodds A.1.1 6).2) := by ac_rfl
        _ = _ := by rw [k7.2]; ac_rfl
  obtain ⟨y1, y2⟩ := key
  have hp : 0 < (zodds A.1.1 6).2 * (zodds A.1.1 164).2 := Nat.mul_pos k6.1 k7.1
  have hq : 0 < zord (A.1.1 6) (A.1.1 7) (A.1.1 8) * zord (A.1.1 164) (A.1.1 165) (A.1.1 166) := Nat.mul_pos b6.2.2 b7.2.2
  have i1 : B7 * zord (A.1.1 6) (A.1.1 7) (A.1.1 8) < B6 * zord (A.1.1 164) (A.1.1 165) (A.1.1 166) ↔ (zodds A.1.1 164).1 * (zodds A.1.1 6).2 < (zodds A.1.1 6).1 * (zodds A.1.1 164).2 := by
    rw [← Nat.mul_lt_mul_right hp, y1, y2, Nat.mul_lt_mul_right hq]
  have i2 : B6 * zord (A.1.1 164) (A.1.1 165) (A.1.1 166) < B7 * zord (A.1.1 6) (A.1.1 7) (A.1.1 8) ↔ (zodds A.1.1 6).1 * (zodds A.1.1 164).2 < (zodds A.1.1 164).1 * (zodds A.1.1 6).2 := by
    rw [← Nat.mul_lt_mul_right hp, y1, y2, Nat.mul_lt_mul_right hq]
  have es : sp_same A.1 = if B7 * zord (A.1.1 6) (A.1.1 7) (A.1.1 8) < B6 * zord (A.1.1 164) (A.1.1 165) (A.1.1 166) then 1 else if B6 * zord (A.1.1 164) (A.1.1 165) (A.1.1 166) < B7 * zord (A.1.1 6) (A.1.1 7) (A.1.1 8) then 2 else 0 := by
    unfold sp_same
    by_cases z1 : (zodds A.1.1 164).1 * (zodds A.1.1 6).2 < (zodds A.1.1 6).1 * (zodds A.1.1 164).2
    · rw [if_pos z1, if_pos (i1.mpr z1)]
    · rw [if_neg z1, if_neg (fun z => z1 (i1.mp z))]
      by_cases z2 : (zodds A.1.1 6).1 * (zodds A.1.1 164).2 < (zodds A.1.1 164).1 * (zodds A.1.1 6).2
      · rw [if_pos z2, if_pos (i2.mpr z2)]
      · rw [if_neg z2, if_neg (fun z => z2 (i2.mp z))]
  rw [es] at h
  refine ZK.of (n := 4) (by decide) (Nat.le_of_ble_eq_true rfl) rfl ?_
  refine Z_aload_n dX11_same_0 rfl rfl ?_
  refine Z_aload_n dX11_same_1 rfl rfl ?_
  refine Z_getR dX11_same_2 cl_11 fl_X11_21_11 rfl (cw_i0 hw) (cw_p0_0 hw) ?_
  refine Z_getR dX11_same_5 cl_5 fl_X11_51_5 rfl (cw_i5 hw) (cw_p5_0 hw) ?_
  refine Z_V1 (ci := 11) dX11_same_8 to_X11_ordersByBook lk_X11_216 iv_X11_ordersByBook ⟨rfl, rfl⟩ (cw_i0 hw) (Nat.le_of_ble_eq_true rfl) ⟨by decide, by decide⟩ ?_
  refine k_ordersByBook hr (Or.inl ⟨rfl, rfl⟩) (fun β hf1 hr1 => ?_)
  rw [eb6]
  have hw := hr1.1
  refine Z_i2l dX11_same_11 ?_
  refine Z_aload_n dX11_same_12 rfl rfl ?_
  refine Z_getR dX11_same_13 cl_11 fl_X11_21_11 rfl (cw_i0 hw) (cw_p0_0 hw) ?_
  refine Z_getR dX11_same_16 cl_5 fl_X11_226_5 rfl (cw_i5 hw) (cw_p5_1 hw) ?_
  refine Z_S1z dX11_same_19 to_X11_ordersOf lk_X11_170 sc_X11_ordersOf (Nat.le_of_ble_eq_true rfl) ⟨rfl, rfl⟩ ⟨by decide, by decide⟩ ?_
  refine k_ordersOf (cw_i7 hr1.1) (by decide) (o7 hr1).1 (o7 hr1).2.1 (o7 hr1).2.2 (by omega) ?_
  refine Z_i2l dX11_same_22 ?_
  refine Z_lmul dX11_same_23 ?_
  rw [nI_l (by omega), nI_l (by omega), lN_mul]
  refine Z_lstore_n (L' := [_, _, _, _, _]) dX11_same_24 rfl (by decide) rfl rfl ?_
  refine Z_aload_n dX11_same_25 rfl rfl ?_
  refine Z_aload_n dX11_same_26 rfl rfl ?_
  refine Z_getR dX11_same_27 cl_11 fl_X11_21_11 rfl (cw_i0 hw) (cw_p0_0 hw) ?_
  refine Z_getR dX11_same_30 cl_5 fl_X11_226_5 rfl (cw_i5 hw) (cw_p5_1 hw) ?_
  refine Z_V1 (ci := 11) dX11_same_33 to_X11_ordersByBook lk_X11_216 iv_X11_ordersByBook ⟨rfl, rfl⟩ (cw_i0 hw) (Nat.le_of_ble_eq_true rfl) ⟨by decide, by decide⟩ ?_
  refine k_ordersByBook hr1 (Or.inr ⟨rfl, rfl⟩) (fun γ hf2 hr2 => ?_)
  rw [eb7]
  have hw := hr2.1
  refine Z_i2l dX11_same_36 ?_
  refine Z_aload_n dX11_same_37 rfl rfl ?_
  refine Z_getR dX11_same_38 cl_11 fl_X11_21_11 rfl (cw_i0 hw) (cw_p0_0 hw) ?_
  refine Z_getR dX11_same_41 cl_5 fl_X11_51_5 rfl (cw_i5 hw) (cw_p5_0 hw) ?_
  refine Z_S1z dX11_same_44 to_X11_ordersOf lk_X11_170 sc_X11_ordersOf (Nat.le_of_ble_eq_true rfl) ⟨rfl, rfl⟩ ⟨by decide, by decide⟩ ?_
  refine k_ordB hr2 ?_
  refine Z_i2l dX11_same_47 ?_
  refine Z_lmul dX11_same_48 ?_
  rw [nI_l (by omega), nI_l (by omega), lN_mul]
  refine Z_lstore_n (L' := [_, _, _, _, _]) dX11_same_49 rfl (by decide) rfl rfl ?_
  refine Z_lload_n dX11_same_50 rfl rfl ?_
  refine Z_lload_n dX11_same_51 rfl rfl ?_
  refine Z_lcmp dX11_same_52 ?_
  refine Z_if_ne (tgt := 58) dX11_same_53 (by decide) (fun h53 => ?_) (fun h53 => ?_)
  · skip
    refine Z_lload_n dX11_same_58 rfl rfl ?_
    refine Z_lload_n dX11_same_59 rfl rfl ?_
    refine Z_lcmp dX11_same_60 ?_
    refine Z_if_le (tgt := 68) dX11_same_61 (by decide) (fun h61 => ?_) (fun h61 => ?_)
    · skip
      refine Z_iconst (v := 2) dX11_same_68 (by decide) ?_
      refine Z_iret dX11_same_69 rfl rfl ⟨by decide, by decide⟩ ?_
      have zn : ¬ B6 * zord (A.1.1 164) (A.1.1 165) (A.1.1 166) = B7 * zord (A.1.1 6) (A.1.1 7) (A.1.1 8) := fun z => h53 (lg_eq.mpr (by rw [z]))
      first
        | (have z := (pk_lLE (by omega) (by omega)).mp (lg_gt.mp h61)
           rw [if_neg (by omega), if_pos (by omega)] at h
           exact h γ hr2 (hf1.c.tr hf2.c))
        | (have z : ¬ B6 * zord (A.1.1 164) (A.1.1 165) (A.1.1 166) ≤ B7 * zord (A.1.1 6) (A.1.1 7) (A.1.1 8) := fun y => h61 (lg_gt.mpr ((pk_lLE (by omega) (by omega)).mpr y))
           rw [if_pos (by omega)] at h
           exact h γ hr2 (hf1.c.tr hf2.c))
    · skip
      refine Z_iconst (v := 1) dX11_same_64 (by decide) ?_
      refine Z_goto (tgt := 69) dX11_same_65 (by decide) ?_
      refine Z_iret dX11_same_69 rfl rfl ⟨by decide, by decide⟩ ?_
      have zn : ¬ B6 * zord (A.1.1 164) (A.1.1 165) (A.1.1 166) = B7 * zord (A.1.1 6) (A.1.1 7) (A.1.1 8) := fun z => h53 (lg_eq.mpr (by rw [z]))
      first
        | (have z := (pk_lLE (by omega) (by omega)).mp (lg_gt.mp h61)
           rw [if_neg (by omega), if_pos (by omega)] at h
           exact h γ hr2 (hf1.c.tr hf2.c))
        | (have z : ¬ B6 * zord (A.1.1 164) (A.1.1 165) (A.1.1 166) ≤ B7 * zord (A.1.1 6) (A.1.1 7) (A.1.1 8) := fun y => h61 (lg_gt.mpr ((pk_lLE (by omega) (by omega)).mpr y))
           rw [if_pos (by omega)] at h
           exact h γ hr2 (hf1.c.tr hf2.c))
  · skip
    refine Z_iconst (v := 0) dX11_same_56 (by decide) ?_
    refine Z_iret dX11_same_57 rfl rfl ⟨by decide, by decide⟩ ?_
    have z := (pk_lEQ (by omega) (by omega)).mp (lg_eq.mp h53)
    rw [if_neg (by omega), if_neg (by omega)] at h
    exact h γ hr2 (hf1.c.tr hf2.c)
end CO6
