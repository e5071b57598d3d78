section MR1
variable {G : ZG} {d : Nat} {α β : AH} {post : Option Value → AH → Prop} {A : ZA}
def sp_row (A : ZA) (w x n : Int32) : Int32 × ZA := if (0 ≤ w ∧ w ≤ nI (A.1.1 0) - 1) ∧ (0 ≤ x ∧ x ≤ 2) then (if 0 ≤ n ∧ n ≤ 3 then (if A.1.1 (112 + w.toNatClampNeg) = 6 then (nI (A.1.1 (128 + 3 * w.toNatClampNeg + x.toNatClampNeg)), zset A (128 + 3 * w.toNatClampNeg + x.toNatClampNeg) n.toNatClampNeg) else (-3, A)) else (-2, A)) else (-1, A)
theorem c_mrow {w x n : Int32} (hr : MRel A α) (h : ∀ β, MRel (sp_row A w x n).2 β → frI mId α β → post (some (.int (sp_row A w x n).1)) β) : ZK G (d + 3) mX12_row [.ref (G.1 + 34), .int w, .int x, .int n] α post := by
  have hm := hr.mw
  have v0 := hr.at (i := 0) (by omega) (by omega)
  have b0 : A.1.1 0 ≤ 8 := hr.2.1.at (by omega) rfl
  refine ZK.of (n := 1) (by decide) (Nat.le_of_ble_eq_true rfl) rfl ?_
  refine Z_aload_n dX12_row_0 rfl rfl ?_
  refine Z_iload_n dX12_row_1 rfl rfl ?_
  refine Z_V1z (ci := 12) dX12_row_2 to_X12_isWorker lk_X12_227 iv_X12_isWorker ⟨rfl, rfl⟩ (mw_i34 hm) (Nat.le_of_ble_eq_true rfl) ⟨rfl, rfl⟩ ⟨by decide, by decide⟩ ?_
  refine c_isWorker hm ?_
  rw [v0]
  refine Z_if_eq (tgt := 15) dX12_row_5 (by decide) (fun h5 => ?_) (fun h5 => ?_)
  · skip
    refine Z_iconst (v := -1) dX12_row_15 (by decide) ?_
    refine Z_iret dX12_row_16 rfl rfl ⟨by decide, by decide⟩ ?_
    have e : sp_row A w x n = (-1, A) := if_neg (fun z => by first | exact dec_f h5 z.1 | exact dec_f h12 z.2)
    rw [e] at h; exact h α hr frI.rf
  · skip
    refine Z_iload_n dX12_row_8 rfl rfl ?_
    refine Z_S1z dX12_row_9 to_X12_isSort lk_X12_73 sc_X12_isSort (Nat.le_of_ble_eq_true rfl) ⟨rfl, rfl⟩ ⟨by decide, by decide⟩ ?_
    refine c_isSort ?_
    refine Z_if_ne (tgt := 17) dX12_row_12 (by decide) (fun h12 => ?_) (fun h12 => ?_)
    · skip
      refine Z_iload_n dX12_row_17 rfl rfl ?_
      refine Z_iconst (v := 0) dX12_row_18 (by decide) ?_
      refine Z_iconst (v := 3) dX12_row_19 (by decide) ?_
      refine Z_S3z dX12_row_20 to_X12_in lk_X12_69 sc_X12_in (Nat.le_of_ble_eq_true rfl) ⟨rfl, rfl⟩ ⟨by decide, by decide⟩ ?_
      refine c_in ?_
      refine Z_if_ne (tgt := 29) dX12_row_23 (by decide) (fun h23 => ?_) (fun h23 => ?_)
      · skip
        obtain ⟨j, hj, rfl⟩ := idx_lt (by omega) (dec_t h5)
        obtain ⟨s, hs, rfl⟩ := arg_nI (n := 2) rfl rfl (dec_t h12)
        obtain ⟨q, hq, rfl⟩ := arg_nI (n := 3) rfl rfl (dec_t h23)
        have bk : A.1.1 (112 + j) ≤ 6 := hr.2.1.at (by omega) (zbd_kind (by omega))
        have e : sp_row A (nI j) (nI s) (nI q) = (if A.1.1 (112 + j) = 6 then (nI (A.1.1 (128 + 3 * j + s)), zset A (128 + 3 * j + s) q) else (-3, A)) := by
          unfold sp_row
          rw [if_pos ⟨dec_t h5, dec_t h12⟩, if_pos (dec_t h23), nI_clamp (by omega), nI_clamp (by omega), nI_clamp (by omega)]
        rw [e] at h
        refine Z_aload_n dX12_row_29 rfl rfl ?_
        refine Z_getR dX12_row_30 cl_12 fl_X12_9_12 rfl (mw_i34 hm) (mw_p34_1 hm) ?_
        refine Z_bipush (v := 112) dX12_row_33 (by decide) ?_
        refine Z_iload_n dX12_row_35 rfl rfl ?_
        refine Z_iadd dX12_row_36 ?_
        refine Z_ialdv dX12_row_37 (mw_i35 hm) (zix_e (m := 112 + j) (nI_add 112 j) (by omega) (by decide)) (hr.at (by omega) (by omega)) ?_
        refine Z_bipush (v := 6) dX12_row_38 (by decide) ?_
        refine Z_icmp_eq (tgt := 46) dX12_row_40 (by decide) (fun h40 => ?_) (fun h40 => ?_)
        · skip
          refine Z_aload_n dX12_row_46 rfl rfl ?_
          refine Z_getR dX12_row_47 cl_12 fl_X12_9_12 rfl (mw_i34 hm) (mw_p34_1 hm) ?_
          refine Z_sipush (v := 128) dX12_row_50 (by decide) ?_
          refine Z_iconst (v := 3) dX12_row_53 (by decide) ?_
          refine Z_iload_n dX12_row_54 rfl rfl ?_
          refine Z_imul dX12_row_55 ?_
          refine Z_iadd dX12_row_56 ?_
          refine Z_iload_n dX12_row_57 rfl rfl ?_
          refine Z_iadd dX12_row_58 ?_
          refine Z_ialdv dX12_row_59 (mw_i35 hm) (zix_e (m := 128 + 3 * j + s) (nI3 128 3 j s) (by omega) (by decide)) (hr.at (by omega) (by omega)) ?_
          refine Z_istore (L' := [_, _, _, _, _]) dX12_row_60 (by decide) rfl rfl ?_
          refine Z_aload_n dX12_row_62 rfl rfl ?_
          refine Z_getR dX12_row_63 cl_12 fl_X12_9_12 rfl (mw_i34 hm) (mw_p34_1 hm) ?_
          refine Z_sipush (v := 128) dX12_row_66 (by decide) ?_
          refine Z_iconst (v := 3) dX12_row_69 (by decide) ?_
          refine Z_iload_n dX12_row_70 rfl rfl ?_
          refine Z_imul dX12_row_71 ?_
          refine Z_iadd dX12_row_72 ?_
          refine Z_iload_n dX12_row_73 rfl rfl ?_
          refine Z_iadd dX12_row_74 ?_
          refine Z_iload_n dX12_row_75 rfl rfl ?_
          refine Z_iast dX12_row_76 (mw_i35 hm) (zix_e (m := 128 + 3 * j + s) (nI3 128 3 j s) (by omega) (by decide)) ?_
          refine Z_iload dX12_row_77 rfl ?_
          refine Z_iret dX12_row_79 rfl rfl ⟨by decide, by decide⟩ ?_
          rw [if_pos ((nI_eq (a := A.1.1 (112 + j)) (b := 6) (by omega) (by omega)).mp h40)] at h
          exact h _ (hr.set (by omega) (by omega) (by omega) (hr.2.1.set (by rw [Nat.add_assoc, zbd_row (by omega)]; exact hq) (by omega) (by omega))) (frI.sI mid35)
        · skip
          refine Z_bipush (v := -3) dX12_row_43 (by decide) ?_
          refine Z_iret dX12_row_45 rfl rfl ⟨by decide, by decide⟩ ?_
          rw [if_neg (fun z => h40 (by rw [z]; rfl))] at h; exact h α hr frI.rf
      · skip
        refine Z_bipush (v := -2) dX12_row_26 (by decide) ?_
        refine Z_iret dX12_row_28 rfl rfl ⟨by decide, by decide⟩ ?_
        have e : sp_row A w x n = (-2, A) := (if_pos ⟨dec_t h5, dec_t h12⟩).trans (if_neg (dec_f h23))
        rw [e] at h; exact h α hr frI.rf
    · skip
      refine Z_iconst (v := -1) dX12_row_15 (by decide) ?_
      refine Z_iret dX12_row_16 rfl rfl ⟨by decide, by decide⟩ ?_
      have e : sp_row A w x n = (-1, A) := if_neg (fun z => by first | exact dec_f h5 z.1 | exact dec_f h12 z.2)
      rw [e] at h; exact h α hr frI.rf
theorem mRow.cg {f g : Nat → Int32} {σ : Nat → Nat} {V : Nat → ZSem} (h : mRow f σ V) (hb : SB σ) (e : ∀ i, i < 892 → g i = f i) : mRow g σ V := by
  refine ⟨fun i hi h4 => (e i (by omega)).trans (h.1 i hi h4), (e 4 (by omega)).trans h.2.1, fun a ha => ?_⟩
  have b1 : σ 1 ≤ 5 := hb.at (by omega) rfl
  have ba : σ (187 + a) ≤ 140 := hb.at (by omega) (zbd_many (by omega))
  exact (h.2.2 a ha).cg (fun i hi => e _ (by omega))
theorem sI_sIr {a k : Nat} {f : Nat → Int32} {x : Int32} : sI (sIr α a f) a k x = sIr α a (u1 f k x) := by
  show ((α.1, α.2.1, u2 (u1 α.2.2.1 a f) a k x, α.2.2.2.1, α.2.2.2.2) : AH) = (α.1, α.2.1, u1 α.2.2.1 a (u1 f k x), α.2.2.2.1, α.2.2.2.2)
  congr 3
  funext b
  unfold u2 u1
  by_cases h : b = a <;> simp [h]
/-- the first k numbers of f, then those of g -/
def zmix (f g : Nat → Int32) (k : Nat) : Nat → Int32 := fun j => if j < k then f j else g j
theorem zmix_s {f g : Nat → Int32} {k : Nat} : u1 (zmix f g k) k (f k) = zmix f g (k + 1) := by
  funext j
  unfold u1 zmix
  by_cases h : j = k
  · subst h; simp
  · rw [if_neg h]
    by_cases h2 : j < k
    · rw [if_pos h2, if_pos (by omega)]
    · rw [if_neg h2, if_neg (by omega)]
theorem sIr_self {a : Nat} : sIr α a (hI α a) = α := by
  obtain ⟨n, s, i, j, p⟩ := α
  show ((n, s, u1 i a (i a), j, p) : AH) = (n, s, i, j, p)
  congr 2
  congr 1
  funext b
  unfold u1
  by_cases h : b = a <;> simp [h]
theorem zmix_0 {f g : Nat → Int32} : zmix f g 0 = g := by funext j; simp [zmix]
theorem lp_image (hm : MW α) (h : post (some (.int (hI α 35 0))) (sI (sIr α 36 (zmix (hI α 35) (hI α 36) 892)) 34 3 1)) : ∀ (n k : Nat), k + n = 892 → Z G mX12_image (d + 1) 2 [some (.ref (G.1 + 34)), some (.int (nI k))] [] (sIr α 36 (zmix (hI α 35) (hI α 36) k)) (0, 0) post := by
  intro n
  induction n with
  | zero =>
    intro k hk
    have hk : k = 892 := by omega
    subst hk
    refine Z_iload_n dX12_image_2 rfl rfl ?_
    refine Z_sipush (v := 892) dX12_image_3 (by decide) ?_
    refine Z_icmp_ge (tgt := 27) dX12_image_6 (by decide) (fun h6 => ?_) (fun h6 => ?_)
    · skip
      refine Z_aload_n dX12_image_27 rfl rfl ?_
      refine Z_iconst (v := 1) dX12_image_28 (by decide) ?_
      refine Z_putI dX12_image_29 cl_12 fl_X12_340_12 (Or.inl fn_12_3) rfl (mw_i34 hm) rfl rfl ?_
      refine Z_aload_n dX12_image_32 rfl rfl ?_
      refine Z_getR dX12_image_33 cl_12 fl_X12_9_12 rfl (mw_i34 hm) (mw_p34_1 hm) ?_
      refine Z_iconst (v := 0) dX12_image_36 (by decide) ?_
      refine Z_ialdv dX12_image_37 (mw_i35 hm) (zix_k (m := 0) (by decide)) (show hI (sI (sIr α 36 (zmix (hI α 35) (hI α 36) 892)) 34 3 1) 35 0 = hI α 35 0 from rfl) ?_
      refine Z_iret dX12_image_38 rfl rfl ⟨by decide, by decide⟩ ?_
      exact h
    · skip
      exact absurd (show (892 : Int32) ≤ nI 892 by decide) h6
  | succ n ih =>
    intro k hk
    refine Z_iload_n dX12_image_2 rfl rfl ?_
    refine Z_sipush (v := 892) dX12_image_3 (by decide) ?_
    refine Z_icmp_ge (tgt := 27) dX12_image_6 (by decide) (fun h6 => ?_) (fun h6 => ?_)
    · skip
      exact absurd h6 (nI_ge (a := k) (b := 892) (by omega) (by omega))
    · skip
      refine Z_aload_n dX12_image_9 rfl rfl ?_
      refine Z_getR dX12_image_10 cl_12 fl_X12_15_12 rfl (mw_i34 hm) (mw_p34_2 hm) ?_
      refine Z_iload_n dX12_image_13 rfl rfl ?_
      refine Z_aload_n dX12_image_14 rfl rfl ?_
      refine Z_getR dX12_image_15 cl_12 fl_X12_9_12 rfl (mw_i34 hm) (mw_p34_1 hm) ?_
      refine Z_iload_n dX12_image_18 rfl rfl ?_
      refine Z_ialdv dX12_image_19 (mw_i35 hm) (zix_nI (by omega) (by decide)) (show hI (sIr α 36 (zmix (hI α 35) (hI α 36) k)) 35 k = hI α 35 k from rfl) ?_
      refine Z_iast dX12_image_20 (mw_i36 hm) (zix_nI (by omega) (by decide)) ?_
      refine Z_iinc (L' := [_, _]) dX12_image_21 rfl (by rfl : _ + Int32.ofInt 1 = _ + 1) (by decide) rfl rfl ?_
      refine Z_goto (tgt := 2) dX12_image_24 (by decide) ?_
      rw [sI_sIr, zmix_s, nI_1]
      exact ih (k + 1) (by omega)
theorem c_mimage (hr : MRel A α) (h : ∀ β, MRel (A.1, some A.1, A.2.2) β → frI mId α β → post (some (.int (nI (A.1.1 0)))) β) : ZK G (d + 1) mX12_image [.ref (G.1 + 34)] α post := by
  have hm := hr.mw
  have v0 := hr.at (i := 0) (by omega) (by omega)
  have hh : post (some (.int (hI α 35 0))) (sI (sIr α 36 (zmix (hI α 35) (hI α 36) 892)) 34 3 1) := by
    rw [v0]
    refine h _ ?_ ((frI.sIr mid36).tr (frI.sI mid34))
    obtain ⟨-, hb, hrow, himg, htr, t, htb, ht⟩ := hr
    have e : ∀ k, k ≠ 34 → k ≠ 36 → hI (sI (sIr α 36 (zmix (hI α 35) (hI α 36) 892)) 34 3 1) k = hI α k := fun k h1 h2 => (sI_ne h1).trans (u1_n h2)
    have e4 : ∀ j, j ≠ 3 → hI (sI (sIr α 36 (zmix (hI α 35) (hI α 36) 892)) 34 3 1) 34 j = hI α 34 j := fun j hj => by rw [hI_sI, if_neg (fun z => hj z.2)]; rfl
    refine ⟨hm, hb, by rw [e 35 (by decide) (by decide)]; exact hrow, ⟨by rw [hI_sI, if_pos ⟨rfl, rfl⟩], hb, hrow.cg hb (fun i hi => ?_)⟩, ⟨htr.1, by rw [e4 29 (by decide)]; exact htr.2.1, by rw [e 51 (by decide) (by decide)]; exact htr.2.2⟩, t, htb, ht.1, by rw [e4 17 (by decide)]; exact ht.2.1, by rw [e 39 (by decide) (by decide)]; exact ht.2.2.1, fun r hr => by rw [e r (by omega) (by omega)]; exact ht.2.2.2 r hr⟩
    show hI (sI (sIr α 36 (zmix (hI α 35) (hI α 36) 892)) 34 3 1) 36 i = hI α 35 i
    rw [hI_sI, if_neg (by omega), hI_sIr, if_pos rfl]
    exact if_pos hi
  refine ZK.of (n := 1) (by decide) (Nat.le_of_ble_eq_true rfl) rfl ?_
  have := lp_image (G := G) (d := d) hm hh 892 0 rfl
  rw [zmix_0, sIr_self] at this
  refine Z_iconst (v := 0) dX12_image_0 (by decide) ?_
  refine Z_istore_n (L' := [_, _]) dX12_image_1 rfl (by decide) rfl rfl ?_
  exact this
theorem lp_undo (hm : MW α) (h : post (some (.int (hI α 36 0))) (sIr α 35 (zmix (hI α 36) (hI α 35) 892))) : ∀ (n k : Nat), k + n = 892 → Z G mX12_undo (d + 1) 12 [some (.ref (G.1 + 34)), some (.int (nI k))] [] (sIr α 35 (zmix (hI α 36) (hI α 35) k)) (0, 0) post := by
  intro n
  induction n with
  | zero =>
    intro k hk
    have hk : k = 892 := by omega
    subst hk
    refine Z_iload_n dX12_undo_12 rfl rfl ?_
    refine Z_sipush (v := 892) dX12_undo_13 (by decide) ?_
    refine Z_icmp_ge (tgt := 37) dX12_undo_16 (by decide) (fun h16 => ?_) (fun h16 => ?_)
    · skip
      refine Z_aload_n dX12_undo_37 rfl rfl ?_
      refine Z_getR dX12_undo_38 cl_12 fl_X12_9_12 rfl (mw_i34 hm) (mw_p34_1 hm) ?_
      refine Z_iconst (v := 0) dX12_undo_41 (by decide) ?_
      refine Z_ialdv dX12_undo_42 (mw_i35 hm) (zix_k (m := 0) (by decide)) (show hI (sIr α 35 (zmix (hI α 36) (hI α 35) 892)) 35 0 = hI α 36 0 from rfl) ?_
      refine Z_iret dX12_undo_43 rfl rfl ⟨by decide, by decide⟩ ?_
      exact h
    · skip
      exact absurd (show (892 : Int32) ≤ nI 892 by decide) h16
  | succ n ih =>
    intro k hk
    refine Z_iload_n dX12_undo_12 rfl rfl ?_
    refine Z_sipush (v := 892) dX12_undo_13 (by decide) ?_
    refine Z_icmp_ge (tgt := 37) dX12_undo_16 (by decide) (fun h16 => ?_) (fun h16 => ?_)
    · skip
      exact absurd h16 (nI_ge (a := k) (b := 892) (by omega) (by omega))
    · skip
      refine Z_aload_n dX12_undo_19 rfl rfl ?_
      refine Z_getR dX12_undo_20 cl_12 fl_X12_9_12 rfl (mw_i34 hm) (mw_p34_1 hm) ?_
      refine Z_iload_n dX12_undo_23 rfl rfl ?_
      refine Z_aload_n dX12_undo_24 rfl rfl ?_
      refine Z_getR dX12_undo_25 cl_12 fl_X12_15_12 rfl (mw_i34 hm) (mw_p34_2 hm) ?_
      refine Z_iload_n dX12_undo_28 rfl rfl ?_
      refine Z_ialdv dX12_undo_29 (mw_i36 hm) (zix_nI (by omega) (by decide)) (show hI (sIr α 35 (zmix (hI α 36) (hI α 35) k)) 36 k = hI α 36 k from rfl) ?_
      refine Z_iast dX12_undo_30 (mw_i35 hm) (zix_nI (by omega) (by decide)) ?_
      refine Z_iinc (L' := [_, _]) dX12_undo_31 rfl (by rfl : _ + Int32.ofInt 1 = _ + 1) (by decide) rfl rfl ?_
      refine Z_goto (tgt := 12) dX12_undo_34 (by decide) ?_
      rw [sI_sIr, zmix_s, nI_1]
      exact ih (k + 1) (by omega)
def sp_undo (A : ZA) : Int32 × ZA := match A.2.1 with
  | none => (-3, A)
  | some q => (nI (q.1 0), (q, some q, A.2.2))
theorem c_mundo (hr : MRel A α) (h : ∀ β, MRel (sp_undo A).2 β → frI mId α β → post (some (.int (sp_undo A).1)) β) : ZK G (d + 1) mX12_undo [.ref (G.1 + 34)] α post := by
  have hm := hr.mw
  have hr0 := hr
  obtain ⟨-, hb, hrow, himg, htr, t, htb, ht⟩ := hr
  obtain ⟨a1, a2, a3⟩ := A
  cases a2 with
  | none =>
    refine ZK.of (n := 1) (by decide) (Nat.le_of_ble_eq_true rfl) rfl ?_
    refine Z_aload_n dX12_undo_0 rfl rfl ?_
    refine Z_getIv dX12_undo_1 cl_12 fl_X12_340_12 rfl (mw_i34 hm) himg ?_
    refine Z_if_ne (tgt := 10) dX12_undo_4 (by decide) (fun h4 => ?_) (fun h4 => ?_)
    · skip
      exact absurd rfl h4
    · skip
      refine Z_bipush (v := -3) dX12_undo_7 (by decide) ?_
      refine Z_iret dX12_undo_9 rfl rfl ⟨by decide, by decide⟩ ?_
      exact h α hr0 frI.rf
  | some q =>
    have hh : post (some (.int (hI α 36 0))) (sIr α 35 (zmix (hI α 36) (hI α 35) 892)) := by
      rw [himg.2.2.1 0 (by decide) (by decide)]
      refine h _ ?_ (frI.sIr mid35)
      have e : ∀ k, k ≠ 35 → hI (sIr α 35 (zmix (hI α 36) (hI α 35) 892)) k = hI α k := fun k h1 => u1_n h1
      refine ⟨hm, himg.2.1, himg.2.2.cg himg.2.1 (fun i hi => ?_), ⟨himg.1, himg.2.1, by rw [e 36 (by decide)]; exact himg.2.2⟩, htr, t, htb, ht.1, ht.2.1, ht.2.2.1, fun r hr => by rw [e r (by omega)]; exact ht.2.2.2 r hr⟩
      rw [hI_sIr, if_pos rfl]
      exact if_pos hi
    refine ZK.of (n := 1) (by decide) (Nat.le_of_ble_eq_true rfl) rfl ?_
    have := lp_undo (G := G) (d := d) hm hh 892 0 rfl
    rw [zmix_0, sIr_self] at this
    refine Z_aload_n dX12_undo_0 rfl rfl ?_
    refine Z_getIv dX12_undo_1 cl_12 fl_X12_340_12 rfl (mw_i34 hm) himg.1 ?_
    refine Z_if_ne (tgt := 10) dX12_undo_4 (by decide) (fun h4 => ?_) (fun h4 => ?_)
    · skip
      refine Z_iconst (v := 0) dX12_undo_10 (by decide) ?_
      refine Z_istore_n (L' := [_, _]) dX12_undo_11 rfl (by decide) rfl rfl ?_
      exact this
    · skip
      exact absurd h4 (by decide)
end MR1
