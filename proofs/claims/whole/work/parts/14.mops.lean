section MO
variable {G : ZG} {d : Nat} {α : AH} {post : Option Value → AH → Prop} {A : ZA}
theorem mid35 : mId 35 := ⟨by decide, by decide⟩
theorem mid34 : mId 34 := ⟨by decide, by decide⟩
def zset (A : ZA) (i n : Nat) : ZA := ((u1 A.1.1 i n, A.1.2), A.2)
theorem sI_row {α : AH} {a i : Nat} {x : Int32} : hI (sI α a i x) a = u1 (hI α a) i x := u1_s _ _ _
theorem sI_ne {α : AH} {a b i : Nat} {x : Int32} (h : b ≠ a) : hI (sI α a i x) b = hI α b := u1_n h
theorem MRel.set (hr : MRel A α) {i n : Nat} (hi : i < 187) (h4 : i ≠ 4) (h1 : i ≠ 1) (hs : SB (u1 A.1.1 i n)) : MRel (zset A i n) (sI α 35 i (nI n)) := by
  obtain ⟨hm, hb, hrow, himg, htr, t, ht⟩ := hr
  have e34 : hI (sI α 35 i (nI n)) 34 = hI α 34 := sI_ne (by decide)
  have e36 : hI (sI α 35 i (nI n)) 36 = hI α 36 := sI_ne (by decide)
  have e39 : hI (sI α 35 i (nI n)) 39 = hI α 39 := sI_ne (by decide)
  have e51 : hI (sI α 35 i (nI n)) 51 = hI α 51 := sI_ne (by decide)
  refine ⟨hm, hs, ?_, ?_, ?_, t, ?_⟩
  · rw [sI_row]; exact hrow.set hb hi h4 h1
  · show (match A.2.1 with
      | none => hI (sI α 35 i (nI n)) 34 3 = 0
      | some q => hI (sI α 35 i (nI n)) 34 3 = 1 ∧ SB q.1 ∧ mRow (hI (sI α 35 i (nI n)) 36) q.1 q.2)
    rw [e34, e36]; exact himg
  · rw [e34, e51]; exact htr
  · unfold mStamp
    rw [e34, e39]
    refine ⟨ht.1, ht.2.1, ht.2.2.1, fun r hr => ?_⟩
    rw [sI_ne (by omega : r ≠ 35)]
    exact ht.2.2.2 r hr
theorem MRel.mw (hr : MRel A α) : MW α := hr.1
theorem MRel.at (hr : MRel A α) {i : Nat} (hi : i < 192) (h4 : i ≠ 4) : hI α 35 i = nI (A.1.1 i) := hr.2.2.1.1 i hi h4
/-- an argument within small bounds is a number -/
theorem arg_nI {x lo hi : Int32} {n : Nat} (hlo : lo = 0) (hhi : hi.toInt = (n : Int)) (h : lo ≤ x ∧ x ≤ hi) : ∃ j : Nat, j ≤ n ∧ x = nI j := by
  subst hlo
  exact nI_of2 hhi (by simp only [Int32.lt_iff_toInt_lt, Int32.le_iff_toInt_le] at *; omega) h.2
theorem dec_t {p : Prop} {_ : Decidable p} (h : ¬ b2i (decide p) = 0) : p := by
  by_cases hp : p
  · exact hp
  · exact absurd (b2i_f hp) h
theorem dec_f {p : Prop} {_ : Decidable p} (h : b2i (decide p) = 0) : ¬ p := fun hp => by rw [b2i_t hp] at h; exact absurd h (by decide)
def sp_chg (A : ZA) (b m : Nat) (hi : Int32) (x n : Int32) : Int32 × ZA := if 0 ≤ x ∧ x ≤ 2 then (if 0 ≤ n ∧ n ≤ hi then (nI (A.1.1 (b + x.toNatClampNeg)), zset A (b + x.toNatClampNeg) n.toNatClampNeg) else (-2, A)) else (-1, A)
theorem SB.bag {σ : Nat → Nat} (h : SB σ) {j n : Nat} (hj : j < 3) (hn : n ≤ 5) : SB (u1 σ (6 + j) n) := by
  unfold SB at h ⊢
  simp only [u1]
  refine ⟨?_, ?_, ?_, ?_, ?_, ?_, ?_, ?_, ?_, ?_, ?_, ?_, ?_, ?_, ?_, ?_, ?_⟩
  all_goals sorry
theorem c_mbag {x n : Int32} (hr : MRel A α) (h : ∀ β, MRel (sp_chg A 6 5 5 x n).2 β → frI mId α β → post (some (.int (sp_chg A 6 5 5 x n).1)) β) : ZK G (d + 3) mX12_bag [.ref (G.1 + 34), .int x, .int n] α post := by
  have hm := hr.mw
  refine ZK.of (n := 1) (by decide) (Nat.le_of_ble_eq_true rfl) rfl ?_
  refine Z_iload_n dX12_bag_0 rfl rfl ?_
  refine Z_S1 dX12_bag_1 to_X12_isSort lk_X12_73 sc_X12_isSort (Nat.le_of_ble_eq_true rfl) ⟨by decide, by decide⟩ ?_
  refine c_isSort ?_
  refine Z_if_ne (tgt := 9) dX12_bag_4 (by decide) (fun h4 => ?_) (fun h4 => ?_)
  · skip
    refine Z_iload_n dX12_bag_9 rfl rfl ?_
    refine Z_iconst (v := 0) dX12_bag_10 (by decide) ?_
    refine Z_iconst (v := 5) dX12_bag_11 (by decide) ?_
    refine Z_S3 dX12_bag_12 to_X12_in lk_X12_69 sc_X12_in (Nat.le_of_ble_eq_true rfl) ⟨by decide, by decide⟩ ?_
    refine c_in ?_
    refine Z_if_ne (tgt := 21) dX12_bag_15 (by decide) (fun h15 => ?_) (fun h15 => ?_)
    · skip
      obtain ⟨j, hj, rfl⟩ := arg_nI (n := 2) rfl rfl (dec_t h4)
      obtain ⟨q, hq, rfl⟩ := arg_nI (n := 5) rfl rfl (dec_t h15)
      refine Z_aload_n dX12_bag_21 rfl rfl ?_
      refine Z_getR dX12_bag_22 cl_12 fl_X12_9_12 rfl (mw_i34 hm) (mw_p34_1 hm) ?_
      refine Z_bipush (v := 6) dX12_bag_25 (by decide) ?_
      refine Z_iload_n dX12_bag_27 rfl rfl ?_
      refine Z_iadd dX12_bag_28 ?_
      refine Z_iald dX12_bag_29 (mw_i35 hm) (zix_e (m := 6 + j) (nI_add 6 j) (by omega) (by decide)) ?_
      refine Z_istore_n (L' := [_, _, _, _]) dX12_bag_30 rfl (by decide) rfl rfl ?_
      refine Z_aload_n dX12_bag_31 rfl rfl ?_
      refine Z_getR dX12_bag_32 cl_12 fl_X12_9_12 rfl (mw_i34 hm) (mw_p34_1 hm) ?_
      refine Z_bipush (v := 6) dX12_bag_35 (by decide) ?_
      refine Z_iload_n dX12_bag_37 rfl rfl ?_
      refine Z_iadd dX12_bag_38 ?_
      refine Z_iload_n dX12_bag_39 rfl rfl ?_
      refine Z_iast dX12_bag_40 (mw_i35 hm) (zix_e (m := 6 + j) (nI_add 6 j) (by omega) (by decide)) ?_
      refine Z_iload_n dX12_bag_41 rfl rfl ?_
      refine Z_iret dX12_bag_42 rfl rfl ⟨by decide, by decide⟩ ?_
      have e : sp_chg A 6 5 5 (nI j) (nI q) = (nI (A.1.1 (6 + j)), zset A (6 + j) q) := by
        unfold sp_chg
        rw [if_pos (dec_t h4), if_pos (dec_t h15), nI_clamp (by omega), nI_clamp (by omega)]
      rw [e] at h
      rw [hr.at (by omega) (by omega)]
      exact h _ (hr.set (by omega) (by omega) (by omega) (hr.2.1.bag (by omega) hq)) (frI.sI mid35)
    · skip
      have e : sp_chg A 6 5 5 x n = (-2, A) := (if_pos (dec_t h4)).trans (if_neg (dec_f h15))
      refine Z_bipush (v := -2) dX12_bag_18 (by decide) ?_
      refine Z_iret dX12_bag_20 rfl rfl ⟨by decide, by decide⟩ ?_
      rw [e] at h; exact h α hr frI.rf
  · skip
    have e : sp_chg A 6 5 5 x n = (-1, A) := if_neg (dec_f h4)
    refine Z_iconst (v := -1) dX12_bag_7 (by decide) ?_
    refine Z_iret dX12_bag_8 rfl rfl ⟨by decide, by decide⟩ ?_
    rw [e] at h; exact h α hr frI.rf
end MO
