section MO
variable {G : ZG} {d : Nat} {α : AH} {post : Option Value → AH → Prop} {A : ZA}
theorem mid35 : mId 35 := ⟨by decide, by decide⟩
theorem mid34 : mId 34 := ⟨by decide, by decide⟩
def zset (A : ZA) (i n : Nat) : ZA := ((u1 A.1.1 i n, A.1.2), A.2)
theorem sI_row {α : AH} {a i : Nat} {x : Int32} : hI (sI α a i x) a = u1 (hI α a) i x := u1_s _ _ _
theorem sI_ne {α : AH} {a b i : Nat} {x : Int32} (h : b ≠ a) : hI (sI α a i x) b = hI α b := u1_n h
theorem MRel.set (hr : MRel A α) {i n : Nat} (hi : i < 187) (h4 : i ≠ 4) (h1 : i ≠ 1) (hs : SB (u1 A.1.1 i n)) : MRel (zset A i n) (sI α 35 i (nI n)) := by
  obtain ⟨hm, hb, hrow, himg, htr, t, htb, ht⟩ := hr
  have e34 : hI (sI α 35 i (nI n)) 34 = hI α 34 := sI_ne (by decide)
  have e36 : hI (sI α 35 i (nI n)) 36 = hI α 36 := sI_ne (by decide)
  have e39 : hI (sI α 35 i (nI n)) 39 = hI α 39 := sI_ne (by decide)
  have e51 : hI (sI α 35 i (nI n)) 51 = hI α 51 := sI_ne (by decide)
  refine ⟨hm, hs, ?_, ?_, ?_, t, htb, ?_⟩
  · rw [sI_row]; exact hrow.set hb hi h4 h1
  · show (match A.2.1 with
      | none => hI (sI α 35 i (nI n)) 34 3 = 0
      | some q => hI (sI α 35 i (nI n)) 34 3 = 1 ∧ SB q.1 ∧ mRow (hI (sI α 35 i (nI n)) 36) q.1 q.2)
    rw [e34, e36]; exact himg
  · rw [e34, e51]; exact htr
  · unfold mStamp
    rw [e34, e39]
    refine ⟨ht.1, ht.2.1, ht.2.2.1, fun r hr => ?_⟩
    rw [sI_ne (by omega : r ≠ 35)]
    exact ht.2.2.2 r hr
theorem MRel.mw (hr : MRel A α) : MW α := hr.1
theorem MRel.at (hr : MRel A α) {i : Nat} (hi : i < 192) (h4 : i ≠ 4) : hI α 35 i = nI (A.1.1 i) := hr.2.2.1.1 i hi h4
/-- an argument within small bounds is a number -/
theorem arg_nI {x lo hi : Int32} {n : Nat} (hlo : lo = 0) (hhi : hi.toInt = (n : Int)) (h : lo ≤ x ∧ x ≤ hi) : ∃ j : Nat, j ≤ n ∧ x = nI j := by
  subst hlo
  exact nI_of2 hhi (by simp only [Int32.lt_iff_toInt_lt, Int32.le_iff_toInt_le] at *; omega) h.2
theorem dec_t {p : Prop} {_ : Decidable p} (h : ¬ b2i (decide p) = 0) : p := by
  by_cases hp : p
  · exact hp
  · exact absurd (b2i_f hp) h
theorem dec_f {p : Prop} {_ : Decidable p} (h : b2i (decide p) = 0) : ¬ p := fun hp => by rw [b2i_t hp] at h; exact absurd h (by decide)
def sp_chg (A : ZA) (b : Nat) (hi x n : Int32) : Int32 × ZA := if 0 ≤ x ∧ x ≤ 2 then (if 0 ≤ n ∧ n ≤ hi then (nI (A.1.1 (b + x.toNatClampNeg)), zset A (b + x.toNatClampNeg) n.toNatClampNeg) else (-2, A)) else (-1, A)
theorem c_mbag {x n : Int32} (hr : MRel A α) (h : ∀ β, MRel (sp_chg A 6 5 x n).2 β → frI mId α β → post (some (.int (sp_chg A 6 5 x n).1)) β) : ZK G (d + 3) mX12_bag [.ref (G.1 + 34), .int x, .int n] α post := by
  have hm := hr.mw
  refine ZK.of (n := 1) (by decide) (Nat.le_of_ble_eq_true rfl) rfl ?_
  refine Z_iload_n dX12_bag_0 rfl rfl ?_
  refine Z_S1z dX12_bag_1 to_X12_isSort lk_X12_73 sc_X12_isSort (Nat.le_of_ble_eq_true rfl) ⟨rfl, rfl⟩ ⟨by decide, by decide⟩ ?_
  refine c_isSort ?_
  refine Z_if_ne (tgt := 9) dX12_bag_4 (by decide) (fun h4 => ?_) (fun h4 => ?_)
  · skip
    refine Z_iload_n dX12_bag_9 rfl rfl ?_
    refine Z_iconst (v := 0) dX12_bag_10 (by decide) ?_
    refine Z_iconst (v := 5) dX12_bag_11 (by decide) ?_
    refine Z_S3z dX12_bag_12 to_X12_in lk_X12_69 sc_X12_in (Nat.le_of_ble_eq_true rfl) ⟨rfl, rfl⟩ ⟨by decide, by decide⟩ ?_
    refine c_in ?_
    refine Z_if_ne (tgt := 21) dX12_bag_15 (by decide) (fun h15 => ?_) (fun h15 => ?_)
    · skip
      obtain ⟨j, hj, rfl⟩ := arg_nI (n := 2) rfl rfl (dec_t h4)
      obtain ⟨q, hq, rfl⟩ := arg_nI (n := 5) rfl rfl (dec_t h15)
      refine Z_aload_n dX12_bag_21 rfl rfl ?_
      refine Z_getR dX12_bag_22 cl_12 fl_X12_9_12 rfl (mw_i34 hm) (mw_p34_1 hm) ?_
      refine Z_bipush (v := 6) dX12_bag_25 (by decide) ?_
      refine Z_iload_n dX12_bag_27 rfl rfl ?_
      refine Z_iadd dX12_bag_28 ?_
      refine Z_iald dX12_bag_29 (mw_i35 hm) (zix_e (m := 6 + j) (nI_add 6 j) (by omega) (by decide)) ?_
      refine Z_istore_n (L' := [_, _, _, _]) dX12_bag_30 rfl (by decide) rfl rfl ?_
      refine Z_aload_n dX12_bag_31 rfl rfl ?_
      refine Z_getR dX12_bag_32 cl_12 fl_X12_9_12 rfl (mw_i34 hm) (mw_p34_1 hm) ?_
      refine Z_bipush (v := 6) dX12_bag_35 (by decide) ?_
      refine Z_iload_n dX12_bag_37 rfl rfl ?_
      refine Z_iadd dX12_bag_38 ?_
      refine Z_iload_n dX12_bag_39 rfl rfl ?_
      refine Z_iast dX12_bag_40 (mw_i35 hm) (zix_e (m := 6 + j) (nI_add 6 j) (by omega) (by decide)) ?_
      refine Z_iload_n dX12_bag_41 rfl rfl ?_
      refine Z_iret dX12_bag_42 rfl rfl ⟨by decide, by decide⟩ ?_
      have e : sp_chg A 6 5 (nI j) (nI q) = (nI (A.1.1 (6 + j)), zset A (6 + j) q) := by
        unfold sp_chg
        rw [if_pos (dec_t h4), if_pos (dec_t h15), nI_clamp (by omega), nI_clamp (by omega)]
      rw [e] at h
      rw [hr.at (by omega) (by omega)]
      exact h _ (hr.set (by omega) (by omega) (by omega) (hr.2.1.set (by rw [zbd_bag (by omega)]; exact hq) (by omega) (by omega))) (frI.sI mid35)
    · skip
      have e : sp_chg A 6 5 x n = (-2, A) := (if_pos (dec_t h4)).trans (if_neg (dec_f h15))
      refine Z_bipush (v := -2) dX12_bag_18 (by decide) ?_
      refine Z_iret dX12_bag_20 rfl rfl ⟨by decide, by decide⟩ ?_
      rw [e] at h; exact h α hr frI.rf
  · skip
    have e : sp_chg A 6 5 x n = (-1, A) := if_neg (dec_f h4)
    refine Z_iconst (v := -1) dX12_bag_7 (by decide) ?_
    refine Z_iret dX12_bag_8 rfl rfl ⟨by decide, by decide⟩ ?_
    rw [e] at h; exact h α hr frI.rf
theorem c_mother {x n : Int32} (hr : MRel A α) (h : ∀ β, MRel (sp_chg A 164 5 x n).2 β → frI mId α β → post (some (.int (sp_chg A 164 5 x n).1)) β) : ZK G (d + 3) mX12_other [.ref (G.1 + 34), .int x, .int n] α post := by
  have hm := hr.mw
  refine ZK.of (n := 1) (by decide) (Nat.le_of_ble_eq_true rfl) rfl ?_
  refine Z_iload_n dX12_other_0 rfl rfl ?_
  refine Z_S1z dX12_other_1 to_X12_isSort lk_X12_73 sc_X12_isSort (Nat.le_of_ble_eq_true rfl) ⟨rfl, rfl⟩ ⟨by decide, by decide⟩ ?_
  refine c_isSort ?_
  refine Z_if_ne (tgt := 9) dX12_other_4 (by decide) (fun h4 => ?_) (fun h4 => ?_)
  · skip
    refine Z_iload_n dX12_other_9 rfl rfl ?_
    refine Z_iconst (v := 0) dX12_other_10 (by decide) ?_
    refine Z_iconst (v := 5) dX12_other_11 (by decide) ?_
    refine Z_S3z dX12_other_12 to_X12_in lk_X12_69 sc_X12_in (Nat.le_of_ble_eq_true rfl) ⟨rfl, rfl⟩ ⟨by decide, by decide⟩ ?_
    refine c_in ?_
    refine Z_if_ne (tgt := 21) dX12_other_15 (by decide) (fun h15 => ?_) (fun h15 => ?_)
    · skip
      obtain ⟨j, hj, rfl⟩ := arg_nI (n := 2) rfl rfl (dec_t h4)
      obtain ⟨q, hq, rfl⟩ := arg_nI (n := 5) rfl rfl (dec_t h15)
      refine Z_aload_n dX12_other_21 rfl rfl ?_
      refine Z_getR dX12_other_22 cl_12 fl_X12_9_12 rfl (mw_i34 hm) (mw_p34_1 hm) ?_
      refine Z_sipush (v := 164) dX12_other_25 (by decide) ?_
      refine Z_iload_n dX12_other_28 rfl rfl ?_
      refine Z_iadd dX12_other_29 ?_
      refine Z_iald dX12_other_30 (mw_i35 hm) (zix_e (m := 164 + j) (nI_add 164 j) (by omega) (by decide)) ?_
      refine Z_istore_n (L' := [_, _, _, _]) dX12_other_31 rfl (by decide) rfl rfl ?_
      refine Z_aload_n dX12_other_32 rfl rfl ?_
      refine Z_getR dX12_other_33 cl_12 fl_X12_9_12 rfl (mw_i34 hm) (mw_p34_1 hm) ?_
      refine Z_sipush (v := 164) dX12_other_36 (by decide) ?_
      refine Z_iload_n dX12_other_39 rfl rfl ?_
      refine Z_iadd dX12_other_40 ?_
      refine Z_iload_n dX12_other_41 rfl rfl ?_
      refine Z_iast dX12_other_42 (mw_i35 hm) (zix_e (m := 164 + j) (nI_add 164 j) (by omega) (by decide)) ?_
      refine Z_iload_n dX12_other_43 rfl rfl ?_
      refine Z_iret dX12_other_44 rfl rfl ⟨by decide, by decide⟩ ?_
      have e : sp_chg A 164 5 (nI j) (nI q) = (nI (A.1.1 (164 + j)), zset A (164 + j) q) := by
        unfold sp_chg
        rw [if_pos (dec_t h4), if_pos (dec_t h15), nI_clamp (by omega), nI_clamp (by omega)]
      rw [e] at h
      rw [hr.at (by omega) (by omega)]
      exact h _ (hr.set (by omega) (by omega) (by omega) (hr.2.1.set (by rw [zbd_oth (by omega)]; exact hq) (by omega) (by omega))) (frI.sI mid35)
    · skip
      have e : sp_chg A 164 5 x n = (-2, A) := (if_pos (dec_t h4)).trans (if_neg (dec_f h15))
      refine Z_bipush (v := -2) dX12_other_18 (by decide) ?_
      refine Z_iret dX12_other_20 rfl rfl ⟨by decide, by decide⟩ ?_
      rw [e] at h; exact h α hr frI.rf
  · skip
    have e : sp_chg A 164 5 x n = (-1, A) := if_neg (dec_f h4)
    refine Z_iconst (v := -1) dX12_other_7 (by decide) ?_
    refine Z_iret dX12_other_8 rfl rfl ⟨by decide, by decide⟩ ?_
    rw [e] at h; exact h α hr frI.rf
theorem c_mstage {x n : Int32} (hr : MRel A α) (h : ∀ β, MRel (sp_chg A 9 2 x n).2 β → frI mId α β → post (some (.int (sp_chg A 9 2 x n).1)) β) : ZK G (d + 3) mX12_stage [.ref (G.1 + 34), .int x, .int n] α post := by
  have hm := hr.mw
  refine ZK.of (n := 1) (by decide) (Nat.le_of_ble_eq_true rfl) rfl ?_
  refine Z_iload_n dX12_stage_0 rfl rfl ?_
  refine Z_S1z dX12_stage_1 to_X12_isWork lk_X12_165 sc_X12_isWork (Nat.le_of_ble_eq_true rfl) ⟨rfl, rfl⟩ ⟨by decide, by decide⟩ ?_
  refine c_isWork ?_
  refine Z_if_ne (tgt := 9) dX12_stage_4 (by decide) (fun h4 => ?_) (fun h4 => ?_)
  · skip
    refine Z_iload_n dX12_stage_9 rfl rfl ?_
    refine Z_iconst (v := 0) dX12_stage_10 (by decide) ?_
    refine Z_iconst (v := 2) dX12_stage_11 (by decide) ?_
    refine Z_S3z dX12_stage_12 to_X12_in lk_X12_69 sc_X12_in (Nat.le_of_ble_eq_true rfl) ⟨rfl, rfl⟩ ⟨by decide, by decide⟩ ?_
    refine c_in ?_
    refine Z_if_ne (tgt := 21) dX12_stage_15 (by decide) (fun h15 => ?_) (fun h15 => ?_)
    · skip
      obtain ⟨j, hj, rfl⟩ := arg_nI (n := 2) rfl rfl (dec_t h4)
      obtain ⟨q, hq, rfl⟩ := arg_nI (n := 2) rfl rfl (dec_t h15)
      refine Z_aload_n dX12_stage_21 rfl rfl ?_
      refine Z_getR dX12_stage_22 cl_12 fl_X12_9_12 rfl (mw_i34 hm) (mw_p34_1 hm) ?_
      refine Z_bipush (v := 9) dX12_stage_25 (by decide) ?_
      refine Z_iload_n dX12_stage_27 rfl rfl ?_
      refine Z_iadd dX12_stage_28 ?_
      refine Z_iald dX12_stage_29 (mw_i35 hm) (zix_e (m := 9 + j) (nI_add 9 j) (by omega) (by decide)) ?_
      refine Z_istore_n (L' := [_, _, _, _]) dX12_stage_30 rfl (by decide) rfl rfl ?_
      refine Z_aload_n dX12_stage_31 rfl rfl ?_
      refine Z_getR dX12_stage_32 cl_12 fl_X12_9_12 rfl (mw_i34 hm) (mw_p34_1 hm) ?_
      refine Z_bipush (v := 9) dX12_stage_35 (by decide) ?_
      refine Z_iload_n dX12_stage_37 rfl rfl ?_
      refine Z_iadd dX12_stage_38 ?_
      refine Z_iload_n dX12_stage_39 rfl rfl ?_
      refine Z_iast dX12_stage_40 (mw_i35 hm) (zix_e (m := 9 + j) (nI_add 9 j) (by omega) (by decide)) ?_
      refine Z_iload_n dX12_stage_41 rfl rfl ?_
      refine Z_iret dX12_stage_42 rfl rfl ⟨by decide, by decide⟩ ?_
      have e : sp_chg A 9 2 (nI j) (nI q) = (nI (A.1.1 (9 + j)), zset A (9 + j) q) := by
        unfold sp_chg
        rw [if_pos (dec_t h4), if_pos (dec_t h15), nI_clamp (by omega), nI_clamp (by omega)]
      rw [e] at h
      rw [hr.at (by omega) (by omega)]
      exact h _ (hr.set (by omega) (by omega) (by omega) (hr.2.1.set (by rw [zbd_stage (by omega)]; exact hq) (by omega) (by omega))) (frI.sI mid35)
    · skip
      have e : sp_chg A 9 2 x n = (-2, A) := (if_pos (dec_t h4)).trans (if_neg (dec_f h15))
      refine Z_bipush (v := -2) dX12_stage_18 (by decide) ?_
      refine Z_iret dX12_stage_20 rfl rfl ⟨by decide, by decide⟩ ?_
      rw [e] at h; exact h α hr frI.rf
  · skip
    have e : sp_chg A 9 2 x n = (-1, A) := if_neg (dec_f h4)
    refine Z_iconst (v := -1) dX12_stage_7 (by decide) ?_
    refine Z_iret dX12_stage_8 rfl rfl ⟨by decide, by decide⟩ ?_
    rw [e] at h; exact h α hr frI.rf
def sp_feed (A : ZA) (x : Int32) : Int32 × ZA := if 0 ≤ x ∧ x ≤ 127 then (if A.1.1 3 = 100 then (-4, A) else (nI (A.1.1 3 + 1), zset (zset A (12 + A.1.1 3) x.toNatClampNeg) 3 (A.1.1 3 + 1))) else (-2, A)
theorem c_mfeed {x : Int32} (hr : MRel A α) (h : ∀ β, MRel (sp_feed A x).2 β → frI mId α β → post (some (.int (sp_feed A x).1)) β) : ZK G (d + 3) mX12_feed [.ref (G.1 + 34), .int x] α post := by
  have hm := hr.mw
  have h3 := hr.at (i := 3) (by omega) (by omega)
  have b3 : A.1.1 3 ≤ 100 := hr.2.1.at (by omega) rfl
  refine ZK.of (n := 0) (by decide) (Nat.le_of_ble_eq_true rfl) rfl ?_
  refine Z_iload_n dX12_feed_0 rfl rfl ?_
  refine Z_iconst (v := 0) dX12_feed_1 (by decide) ?_
  refine Z_bipush (v := 127) dX12_feed_2 (by decide) ?_
  refine Z_S3z dX12_feed_4 to_X12_in lk_X12_69 sc_X12_in (Nat.le_of_ble_eq_true rfl) ⟨rfl, rfl⟩ ⟨by decide, by decide⟩ ?_
  refine c_in ?_
  refine Z_if_ne (tgt := 13) dX12_feed_7 (by decide) (fun h7 => ?_) (fun h7 => ?_)
  · skip
    refine Z_aload_n dX12_feed_13 rfl rfl ?_
    refine Z_getR dX12_feed_14 cl_12 fl_X12_9_12 rfl (mw_i34 hm) (mw_p34_1 hm) ?_
    refine Z_iconst (v := 3) dX12_feed_17 (by decide) ?_
    refine Z_ialdv dX12_feed_18 (mw_i35 hm) (zix_k (m := 3) (by decide)) h3 ?_
    refine Z_bipush (v := 100) dX12_feed_19 (by decide) ?_
    refine Z_icmp_ne (tgt := 27) dX12_feed_21 (by decide) (fun h21 => ?_) (fun h21 => ?_)
    · skip
      have g3 : ¬ A.1.1 3 = 100 := fun q => h21 (by rw [q]; rfl)
      obtain ⟨q, hq, rfl⟩ := arg_nI (n := 127) rfl rfl (dec_t h7)
      have k3 : hI (sI α 35 (12 + A.1.1 3) (nI q)) 35 3 = nI (A.1.1 3) := by rw [hI_sI, if_neg (by omega)]; exact h3
      refine Z_aload_n dX12_feed_27 rfl rfl ?_
      refine Z_getR dX12_feed_28 cl_12 fl_X12_9_12 rfl (mw_i34 hm) (mw_p34_1 hm) ?_
      refine Z_bipush (v := 12) dX12_feed_31 (by decide) ?_
      refine Z_aload_n dX12_feed_33 rfl rfl ?_
      refine Z_getR dX12_feed_34 cl_12 fl_X12_9_12 rfl (mw_i34 hm) (mw_p34_1 hm) ?_
      refine Z_iconst (v := 3) dX12_feed_37 (by decide) ?_
      refine Z_ialdv dX12_feed_38 (mw_i35 hm) (zix_k (m := 3) (by decide)) h3 ?_
      refine Z_iadd dX12_feed_39 ?_
      refine Z_iload_n dX12_feed_40 rfl rfl ?_
      refine Z_iast dX12_feed_41 (mw_i35 hm) (zix_e (m := 12 + A.1.1 3) (nI_add 12 _) (by omega) (by decide)) ?_
      refine Z_aload_n dX12_feed_42 rfl rfl ?_
      refine Z_getR dX12_feed_43 cl_12 fl_X12_9_12 rfl (mw_i34 hm) (mw_p34_1 hm) ?_
      refine Z_iconst (v := 3) dX12_feed_46 (by decide) ?_
      refine Z_dup2 dX12_feed_47 rfl rfl ?_
      refine Z_ialdv dX12_feed_48 (mw_i35 hm) (zix_k (m := 3) (by decide)) k3 ?_
      refine Z_iconst (v := 1) dX12_feed_49 (by decide) ?_
      refine Z_iadd dX12_feed_50 ?_
      refine Z_iast dX12_feed_51 (mw_i35 hm) (zix_k (m := 3) (by decide)) ?_
      refine Z_aload_n dX12_feed_52 rfl rfl ?_
      refine Z_getR dX12_feed_53 cl_12 fl_X12_9_12 rfl (mw_i34 hm) (mw_p34_1 hm) ?_
      refine Z_iconst (v := 3) dX12_feed_56 (by decide) ?_
      refine Z_ialdv dX12_feed_57 (mw_i35 hm) (zix_k (m := 3) (by decide)) (by rw [hI_sI, if_pos ⟨rfl, rfl⟩]) ?_
      refine Z_iret dX12_feed_58 rfl rfl ⟨by decide, by decide⟩ ?_
      have e : sp_feed A (nI q) = (nI (A.1.1 3 + 1), zset (zset A (12 + A.1.1 3) q) 3 (A.1.1 3 + 1)) := by
        unfold sp_feed
        rw [if_pos (dec_t h7), if_neg g3, nI_clamp (by omega)]
      rw [e] at h
      rw [nI_1]
      have hr1 : MRel (zset A (12 + A.1.1 3) q) (sI α 35 (12 + A.1.1 3) (nI q)) := hr.set (by omega) (by omega) (by omega) (hr.2.1.set (by rw [zbd_tape (by omega)]; exact hq) (by omega) (by omega))
      exact h _ (hr1.set (by omega) (by omega) (by omega) (hr1.2.1.set (show A.1.1 3 + 1 ≤ 100 by omega) (by omega) (by omega))) ((frI.sI mid35).tr (frI.sI mid35))
    · skip
      have e : sp_feed A x = (-4, A) := (if_pos (dec_t h7)).trans (if_pos ((nI_eq (a := A.1.1 3) (b := 100) (by omega) (by omega)).mp h21))
      refine Z_bipush (v := -4) dX12_feed_24 (by decide) ?_
      refine Z_iret dX12_feed_26 rfl rfl ⟨by decide, by decide⟩ ?_
      rw [e] at h; exact h α hr frI.rf
  · skip
    have e : sp_feed A x = (-2, A) := if_neg (dec_f h7)
    refine Z_bipush (v := -2) dX12_feed_10 (by decide) ?_
    refine Z_iret dX12_feed_12 rfl rfl ⟨by decide, by decide⟩ ?_
    rw [e] at h; exact h α hr frI.rf
def sp_book (A : ZA) (x : Int32) : Int32 × ZA := if x = -1 then (0, zset A 2 0) else if 0 ≤ x ∧ x ≤ 2 then (if A.1.1 2 = 12 then (-4, A) else (nI (A.1.1 2 + 1), zset (zset A (152 + A.1.1 2) x.toNatClampNeg) 2 (A.1.1 2 + 1))) else (-1, A)
theorem c_mbook {x : Int32} (hr : MRel A α) (h : ∀ β, MRel (sp_book A x).2 β → frI mId α β → post (some (.int (sp_book A x).1)) β) : ZK G (d + 3) mX12_book [.ref (G.1 + 34), .int x] α post := by
  have hm := hr.mw
  have v2 := hr.at (i := 2) (by omega) (by omega)
  have b2 : A.1.1 2 ≤ 12 := hr.2.1.at (by omega) rfl
  refine ZK.of (n := 0) (by decide) (Nat.le_of_ble_eq_true rfl) rfl ?_
  refine Z_iload_n dX12_book_0 rfl rfl ?_
  refine Z_iconst (v := -1) dX12_book_1 (by decide) ?_
  refine Z_icmp_ne (tgt := 14) dX12_book_2 (by decide) (fun h2 => ?_) (fun h2 => ?_)
  · skip
    refine Z_iload_n dX12_book_14 rfl rfl ?_
    refine Z_S1z dX12_book_15 to_X12_isSort lk_X12_73 sc_X12_isSort (Nat.le_of_ble_eq_true rfl) ⟨rfl, rfl⟩ ⟨by decide, by decide⟩ ?_
    refine c_isSort ?_
    refine Z_if_ne (tgt := 23) dX12_book_18 (by decide) (fun h18 => ?_) (fun h18 => ?_)
    · skip
      refine Z_aload_n dX12_book_23 rfl rfl ?_
      refine Z_getR dX12_book_24 cl_12 fl_X12_9_12 rfl (mw_i34 hm) (mw_p34_1 hm) ?_
      refine Z_iconst (v := 2) dX12_book_27 (by decide) ?_
      refine Z_ialdv dX12_book_28 (mw_i35 hm) (zix_k (m := 2) (by decide)) v2 ?_
      refine Z_bipush (v := 12) dX12_book_29 (by decide) ?_
      refine Z_icmp_ne (tgt := 37) dX12_book_31 (by decide) (fun h31 => ?_) (fun h31 => ?_)
      · skip
        obtain ⟨q, hq, rfl⟩ := arg_nI (n := 2) rfl rfl (dec_t h18)
        have k2 : hI (sI α 35 (152 + A.1.1 2) (nI q)) 35 2 = nI (A.1.1 2) := by rw [hI_sI, if_neg (by omega)]; exact v2
        refine Z_aload_n dX12_book_37 rfl rfl ?_
        refine Z_getR dX12_book_38 cl_12 fl_X12_9_12 rfl (mw_i34 hm) (mw_p34_1 hm) ?_
        refine Z_sipush (v := 152) dX12_book_41 (by decide) ?_
        refine Z_aload_n dX12_book_44 rfl rfl ?_
        refine Z_getR dX12_book_45 cl_12 fl_X12_9_12 rfl (mw_i34 hm) (mw_p34_1 hm) ?_
        refine Z_iconst (v := 2) dX12_book_48 (by decide) ?_
        refine Z_ialdv dX12_book_49 (mw_i35 hm) (zix_k (m := 2) (by decide)) v2 ?_
        refine Z_iadd dX12_book_50 ?_
        refine Z_iload_n dX12_book_51 rfl rfl ?_
        refine Z_iast dX12_book_52 (mw_i35 hm) (zix_e (m := 152 + A.1.1 2) (nI_add 152 _) (by omega) (by decide)) ?_
        refine Z_aload_n dX12_book_53 rfl rfl ?_
        refine Z_getR dX12_book_54 cl_12 fl_X12_9_12 rfl (mw_i34 hm) (mw_p34_1 hm) ?_
        refine Z_iconst (v := 2) dX12_book_57 (by decide) ?_
        refine Z_dup2 dX12_book_58 rfl rfl ?_
        refine Z_ialdv dX12_book_59 (mw_i35 hm) (zix_k (m := 2) (by decide)) k2 ?_
        refine Z_iconst (v := 1) dX12_book_60 (by decide) ?_
        refine Z_iadd dX12_book_61 ?_
        refine Z_iast dX12_book_62 (mw_i35 hm) (zix_k (m := 2) (by decide)) ?_
        refine Z_aload_n dX12_book_63 rfl rfl ?_
        refine Z_getR dX12_book_64 cl_12 fl_X12_9_12 rfl (mw_i34 hm) (mw_p34_1 hm) ?_
        refine Z_iconst (v := 2) dX12_book_67 (by decide) ?_
        refine Z_ialdv dX12_book_68 (mw_i35 hm) (zix_k (m := 2) (by decide)) (by rw [hI_sI, if_pos ⟨rfl, rfl⟩]) ?_
        refine Z_iret dX12_book_69 rfl rfl ⟨by decide, by decide⟩ ?_
        have e : sp_book A (nI q) = (nI (A.1.1 2 + 1), zset (zset A (152 + A.1.1 2) q) 2 (A.1.1 2 + 1)) := by
          unfold sp_book
          rw [if_neg (by assumption), if_pos (dec_t h18), if_neg (fun z => h31 (by rw [z]; rfl)), nI_clamp (by omega)]
        rw [e] at h
        rw [nI_1]
        have g2 : ¬ A.1.1 2 = 12 := fun z => h31 (by rw [z]; rfl)
        have hr1 : MRel (zset A (152 + A.1.1 2) q) (sI α 35 (152 + A.1.1 2) (nI q)) := hr.set (by omega) (by omega) (by omega) (hr.2.1.set (by rw [zbd_book (by omega)]; exact hq) (by omega) (by omega))
        exact h _ (hr1.set (by omega) (by omega) (by omega) (hr1.2.1.set (show A.1.1 2 + 1 ≤ 12 by omega) (by omega) (by omega))) ((frI.sI mid35).tr (frI.sI mid35))
      · skip
        refine Z_bipush (v := -4) dX12_book_34 (by decide) ?_
        refine Z_iret dX12_book_36 rfl rfl ⟨by decide, by decide⟩ ?_
        have e : sp_book A x = (-4, A) := (if_neg (by assumption)).trans ((if_pos (dec_t h18)).trans (if_pos ((nI_eq (a := A.1.1 2) (b := 12) (by omega) (by omega)).mp h31)))
        rw [e] at h
        exact h α hr frI.rf
    · skip
      refine Z_iconst (v := -1) dX12_book_21 (by decide) ?_
      refine Z_iret dX12_book_22 rfl rfl ⟨by decide, by decide⟩ ?_
      have e : sp_book A x = (-1, A) := (if_neg (by assumption)).trans (if_neg (dec_f h18))
      rw [e] at h
      exact h α hr frI.rf
  · skip
    refine Z_aload_n dX12_book_5 rfl rfl ?_
    refine Z_getR dX12_book_6 cl_12 fl_X12_9_12 rfl (mw_i34 hm) (mw_p34_1 hm) ?_
    refine Z_iconst (v := 2) dX12_book_9 (by decide) ?_
    refine Z_iconst (v := 0) dX12_book_10 (by decide) ?_
    refine Z_iast dX12_book_11 (mw_i35 hm) (zix_k (m := 2) (by decide)) ?_
    refine Z_iconst (v := 0) dX12_book_12 (by decide) ?_
    refine Z_iret dX12_book_13 rfl rfl ⟨by decide, by decide⟩ ?_
    have e : sp_book A x = (0, zset A 2 0) := if_pos (by assumption)
    rw [e] at h
    exact h _ (hr.set (by omega) (by omega) (by omega) (hr.2.1.set (by decide) (by omega) (by omega))) (frI.sI mid35)
def sp_count (A : ZA) (x : Int32) : Int32 := if x = 0 then nI (A.1.1 0) else if x = 1 then nI (A.1.1 1) else if x = 2 then nI (A.1.1 2) else if x = 3 then nI (A.1.1 3) else if x = 4 then nI A.2.2.1.length else -1
theorem i_of {x : Int32} {n : Nat} (hn : n < 2 ^ 31) (h : x.toInt = 0 + (n : Int)) : x = nI n := Int32.toInt_inj.mp (by rw [nI_toInt hn]; omega)
theorem c_mcount {x : Int32} (hr : MRel A α) (h : post (some (.int (sp_count A x))) α) : ZK G (d + 1) mX12_count [.ref (G.1 + 34), .int x] α post := by
  have hm := hr.mw
  refine ZK.of (n := 0) (by decide) (Nat.le_of_ble_eq_true rfl) rfl ?_
  refine Z_iload_n dX12_count_0 rfl rfl ?_
  refine Z_tab (tgt := 69) dX12_count_1 (fun i hx1 hh1 => ?_) (by decide) (fun hx1 => ?_)
  · skip
    have hi1 : i < 5 := by omega
    match i, hi1, hx1 with
    | 0, _, hx1 =>
      refine ⟨_, 36, rfl, by decide, ?_⟩
      refine Z_aload_n dX12_count_36 rfl rfl ?_
      refine Z_getR dX12_count_37 cl_12 fl_X12_9_12 rfl (mw_i34 hm) (mw_p34_1 hm) ?_
      refine Z_iconst (v := 0) dX12_count_40 (by decide) ?_
      refine Z_ialdv dX12_count_41 (mw_i35 hm) (zix_k (m := 0) (by decide)) (hr.at (i := 0) (by omega) (by omega)) ?_
      refine Z_iret dX12_count_42 rfl rfl ⟨by decide, by decide⟩ ?_
      have e := i_of (by decide) hx1; subst e; exact h
    | 1, _, hx1 =>
      refine ⟨_, 43, rfl, by decide, ?_⟩
      refine Z_aload_n dX12_count_43 rfl rfl ?_
      refine Z_getR dX12_count_44 cl_12 fl_X12_9_12 rfl (mw_i34 hm) (mw_p34_1 hm) ?_
      refine Z_iconst (v := 1) dX12_count_47 (by decide) ?_
      refine Z_ialdv dX12_count_48 (mw_i35 hm) (zix_k (m := 1) (by decide)) (hr.at (i := 1) (by omega) (by omega)) ?_
      refine Z_iret dX12_count_49 rfl rfl ⟨by decide, by decide⟩ ?_
      have e := i_of (by decide) hx1; subst e; exact h
    | 2, _, hx1 =>
      refine ⟨_, 50, rfl, by decide, ?_⟩
      refine Z_aload_n dX12_count_50 rfl rfl ?_
      refine Z_getR dX12_count_51 cl_12 fl_X12_9_12 rfl (mw_i34 hm) (mw_p34_1 hm) ?_
      refine Z_iconst (v := 2) dX12_count_54 (by decide) ?_
      refine Z_ialdv dX12_count_55 (mw_i35 hm) (zix_k (m := 2) (by decide)) (hr.at (i := 2) (by omega) (by omega)) ?_
      refine Z_iret dX12_count_56 rfl rfl ⟨by decide, by decide⟩ ?_
      have e := i_of (by decide) hx1; subst e; exact h
    | 3, _, hx1 =>
      refine ⟨_, 57, rfl, by decide, ?_⟩
      refine Z_aload_n dX12_count_57 rfl rfl ?_
      refine Z_getR dX12_count_58 cl_12 fl_X12_9_12 rfl (mw_i34 hm) (mw_p34_1 hm) ?_
      refine Z_iconst (v := 3) dX12_count_61 (by decide) ?_
      refine Z_ialdv dX12_count_62 (mw_i35 hm) (zix_k (m := 3) (by decide)) (hr.at (i := 3) (by omega) (by omega)) ?_
      refine Z_iret dX12_count_63 rfl rfl ⟨by decide, by decide⟩ ?_
      have e := i_of (by decide) hx1; subst e; exact h
    | 4, _, hx1 =>
      refine ⟨_, 64, rfl, by decide, ?_⟩
      refine Z_aload_n dX12_count_64 rfl rfl ?_
      refine Z_getIv dX12_count_65 cl_12 fl_X12_304_12 rfl (mw_i34 hm) hr.2.2.2.2.1.2.1 ?_
      refine Z_iret dX12_count_68 rfl rfl ⟨by decide, by decide⟩ ?_
      have e := i_of (by decide) hx1; subst e; exact h
    | k + 5, h, _ => exact absurd h (by omega)
  · skip
    refine Z_iconst (v := -1) dX12_count_69 (by decide) ?_
    refine Z_iret dX12_count_70 rfl rfl ⟨by decide, by decide⟩ ?_
    have e : sp_count A x = -1 := by
      unfold sp_count
      rw [if_neg, if_neg, if_neg, if_neg, if_neg] <;> (intro z; subst z; exact absurd hx1 (by decide))
    rw [e] at h; exact h
theorem idx_lt {x : Int32} {n : Nat} (hn : n < 2 ^ 31) (h : 0 ≤ x ∧ x ≤ nI n - 1) : ∃ j : Nat, j < n ∧ x = nI j := by
  cases n with
  | zero =>
    have h1 : nI 0 - 1 = -1 := rfl
    rw [h1] at h
    simp only [Int32.le_iff_toInt_le] at h
    have a : (0 : Int32).toInt = 0 := rfl
    have b : (-1 : Int32).toInt = -1 := rfl
    omega
  | succ n =>
    rw [nI_pred] at h
    obtain ⟨j, hj, e⟩ := nI_of2 (M := nI n) (nI_toInt (by omega)) (by simp only [Int32.lt_iff_toInt_lt, Int32.le_iff_toInt_le] at *; omega) h.2
    exact ⟨j, by omega, e⟩
theorem lt_idx {n j : Nat} (hn : n < 2 ^ 31) (hj : j < n) : 0 ≤ nI j ∧ nI j ≤ nI n - 1 := by
  cases n with
  | zero => omega
  | succ n =>
    rw [nI_pred]
    exact ⟨nI_pos' (by omega), nI_le (by omega) (by omega)⟩
def sp_trace (A : ZA) (x : Int32) : Int32 := if 0 ≤ x ∧ x ≤ nI A.2.2.1.length - 1 then nI (A.2.2.1.getD x.toNatClampNeg 0) else -1
theorem c_mtrace {x : Int32} (hr : MRel A α) (h : post (some (.int (sp_trace A x))) α) : ZK G (d + 2) mX12_trace [.ref (G.1 + 34), .int x] α post := by
  have hm := hr.mw
  have ht := hr.2.2.2.2.1
  have hl : A.2.2.1.length ≤ 20 := ht.1
  refine ZK.of (n := 0) (by decide) (Nat.le_of_ble_eq_true rfl) rfl ?_
  refine Z_iload_n dX12_trace_0 rfl rfl ?_
  refine Z_iconst (v := 0) dX12_trace_1 (by decide) ?_
  refine Z_aload_n dX12_trace_2 rfl rfl ?_
  refine Z_getIv dX12_trace_3 cl_12 fl_X12_304_12 rfl (mw_i34 hm) ht.2.1 ?_
  refine Z_bipush (v := 20) dX12_trace_6 (by decide) ?_
  refine Z_icmp_ge (tgt := 18) dX12_trace_8 (by decide) (fun h8 => ?_) (fun h8 => ?_)
  · skip
    refine Z_bipush (v := 20) dX12_trace_18 (by decide) ?_
    rw [show (20 : Int32) = nI A.2.2.1.length from by rw [show A.2.2.1.length = 20 from Nat.le_antisymm hl ((nI_leI (a := 20) (by omega) (by omega)).mp h8)]; rfl]
    refine Z_iconst (v := 1) dX12_trace_20 (by decide) ?_
    refine Z_isub dX12_trace_21 ?_
    refine Z_S3z dX12_trace_22 to_X12_in lk_X12_69 sc_X12_in (Nat.le_of_ble_eq_true rfl) ⟨rfl, rfl⟩ ⟨by decide, by decide⟩ ?_
    refine c_in ?_
    refine Z_if_eq (tgt := 37) dX12_trace_25 (by decide) (fun h25 => ?_) (fun h25 => ?_)
    · skip
      refine Z_iconst (v := -1) dX12_trace_37 (by decide) ?_
      refine Z_iret dX12_trace_38 rfl rfl ⟨by decide, by decide⟩ ?_
      first
        | (have e : sp_trace A (nI j) = nI (A.2.2.1.getD j 0) := by
            unfold sp_trace
            rw [if_pos (dec_t h25), nI_clamp (by omega)]
           rw [e] at h; exact h)
        | (have e : sp_trace A x = -1 := if_neg (dec_f h25)
           rw [e] at h; exact h)
    · skip
      obtain ⟨j, hj, rfl⟩ := idx_lt (by omega) (dec_t h25)
      refine Z_aload_n dX12_trace_28 rfl rfl ?_
      refine Z_getR dX12_trace_29 cl_12 fl_X12_62_12 rfl (mw_i34 hm) (mw_p34_28 hm) ?_
      refine Z_iload_n dX12_trace_32 rfl rfl ?_
      refine Z_ialdv dX12_trace_33 (mw_i51 hm) (zix_nI (by omega) (by decide)) (ht.2.2 j hj) ?_
      refine Z_goto (tgt := 38) dX12_trace_34 (by decide) ?_
      refine Z_iret dX12_trace_38 rfl rfl ⟨by decide, by decide⟩ ?_
      first
        | (have e : sp_trace A (nI j) = nI (A.2.2.1.getD j 0) := by
            unfold sp_trace
            rw [if_pos (dec_t h25), nI_clamp (by omega)]
           rw [e] at h; exact h)
        | (have e : sp_trace A x = -1 := if_neg (dec_f h25)
           rw [e] at h; exact h)
  · skip
    refine Z_aload_n dX12_trace_11 rfl rfl ?_
    refine Z_getIv dX12_trace_12 cl_12 fl_X12_304_12 rfl (mw_i34 hm) ht.2.1 ?_
    refine Z_goto (tgt := 20) dX12_trace_15 (by decide) ?_
    refine Z_iconst (v := 1) dX12_trace_20 (by decide) ?_
    refine Z_isub dX12_trace_21 ?_
    refine Z_S3z dX12_trace_22 to_X12_in lk_X12_69 sc_X12_in (Nat.le_of_ble_eq_true rfl) ⟨rfl, rfl⟩ ⟨by decide, by decide⟩ ?_
    refine c_in ?_
    refine Z_if_eq (tgt := 37) dX12_trace_25 (by decide) (fun h25 => ?_) (fun h25 => ?_)
    · skip
      refine Z_iconst (v := -1) dX12_trace_37 (by decide) ?_
      refine Z_iret dX12_trace_38 rfl rfl ⟨by decide, by decide⟩ ?_
      first
        | (have e : sp_trace A (nI j) = nI (A.2.2.1.getD j 0) := by
            unfold sp_trace
            rw [if_pos (dec_t h25), nI_clamp (by omega)]
           rw [e] at h; exact h)
        | (have e : sp_trace A x = -1 := if_neg (dec_f h25)
           rw [e] at h; exact h)
    · skip
      obtain ⟨j, hj, rfl⟩ := idx_lt (by omega) (dec_t h25)
      refine Z_aload_n dX12_trace_28 rfl rfl ?_
      refine Z_getR dX12_trace_29 cl_12 fl_X12_62_12 rfl (mw_i34 hm) (mw_p34_28 hm) ?_
      refine Z_iload_n dX12_trace_32 rfl rfl ?_
      refine Z_ialdv dX12_trace_33 (mw_i51 hm) (zix_nI (by omega) (by decide)) (ht.2.2 j hj) ?_
      refine Z_goto (tgt := 38) dX12_trace_34 (by decide) ?_
      refine Z_iret dX12_trace_38 rfl rfl ⟨by decide, by decide⟩ ?_
      first
        | (have e : sp_trace A (nI j) = nI (A.2.2.1.getD j 0) := by
            unfold sp_trace
            rw [if_pos (dec_t h25), nI_clamp (by omega)]
           rw [e] at h; exact h)
        | (have e : sp_trace A x = -1 := if_neg (dec_f h25)
           rw [e] at h; exact h)
end MO
