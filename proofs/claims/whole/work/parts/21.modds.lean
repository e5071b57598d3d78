section MO2
variable {G : ZG} {d : Nat} {α β : AH} {post : Option Value → AH → Prop} {A : ZA}
def zNO : Int64 := -9223372036854775808
def okS (x : Int32) : Prop := 0 ≤ x ∧ x ≤ 2
def okP (p : Int32) : Prop := 0 ≤ p ∧ p ≤ 1
theorem okS.nI {x : Int32} (h : 0 ≤ x ∧ x ≤ 2) : ∃ j : Nat, j ≤ 2 ∧ x = nI j := arg_nI (n := 2) rfl rfl h
theorem okP.nI {x : Int32} (h : 0 ≤ x ∧ x ≤ 1) : ∃ j : Nat, j ≤ 1 ∧ x = nI j := arg_nI (n := 1) rfl rfl h
def zrest (σ : Nat → Nat) : Nat := σ 6 + σ 7 + σ 8
theorem zlow_0 {m : Nat} (hm : 0 < m) {p : Int32} (hp : 0 ≤ p ∧ p ≤ 1) : lZ (zlow 0 m p) = p.toInt64 := by
  obtain ⟨q, hq, rfl⟩ := okP.nI hp
  have hm' : (m : Int) ≠ 0 := by omega
  have : q = 0 ∨ q = 1 := by omega
  rcases this with rfl | rfl
  · unfold zlow; rw [if_pos (show nI 0 = 0 from rfl)]; simp; rfl
  · unfold zlow; rw [if_neg (by decide)]; simp [Int.ediv_self hm']; rfl
theorem zsb {σ : Nat → Nat} (h : SB σ) {j : Nat} (hj : j ≤ 2) : σ (6 + j) ≤ 5 ∧ σ (6 + j) ≤ zrest σ ∧ zrest σ ≤ 15 := by
  have b6 : σ 6 ≤ 5 := h.at (by omega) rfl
  have b7 : σ 7 ≤ 5 := h.at (by omega) rfl
  have b8 : σ 8 ≤ 5 := h.at (by omega) rfl
  unfold zrest
  have : j = 0 ∨ j = 1 ∨ j = 2 := by omega
  rcases this with rfl | rfl | rfl
  · exact ⟨b6, show σ 6 ≤ _ by omega, by omega⟩
  · exact ⟨b7, show σ 7 ≤ _ by omega, by omega⟩
  · exact ⟨b8, show σ 8 ≤ _ by omega, by omega⟩
theorem c_rest' (hr : MRel A α) (h : post (some (.int (nI (zrest A.1.1)))) α) : ZK G (d + 1) mX12_rest [.ref (G.1 + 34)] α post := by
  refine c_rest hr.mw ?_
  rw [hr.at (by omega) (by omega), hr.at (by omega) (by omega), hr.at (by omega) (by omega), nI_add, nI_add]
  exact h
def sp_next (σ : Nat → Nat) (x p : Int32) : Int64 := if (0 ≤ x ∧ x ≤ 2) ∧ (0 ≤ p ∧ p ≤ 1) then lZ (zlow (σ (6 + x.toNatClampNeg)) (max 1 (zrest σ)) p) else zNO
theorem c_mnext {x p : Int32} (hr : MRel A α) (h : post (some (.long (sp_next A.1.1 x p))) α) : ZK G (d + 3) mX12_next [.ref (G.1 + 34), .int x, .int p] α post := by
  have hm := hr.mw
  refine ZK.of (n := 0) (by decide) (Nat.le_of_ble_eq_true rfl) rfl ?_
  refine Z_iload_n dX12_next_0 rfl rfl ?_
  refine Z_S1z dX12_next_1 to_X12_isSort lk_X12_73 sc_X12_isSort (Nat.le_of_ble_eq_true rfl) ⟨rfl, rfl⟩ ⟨by decide, by decide⟩ ?_
  refine c_isSort ?_
  refine Z_if_eq (tgt := 16) dX12_next_4 (by decide) (fun h4 => ?_) (fun h4 => ?_)
  · skip
    refine Z_ldc2 dX12_next_16 kc_X12_259 ?_
    refine Z_lret dX12_next_19 rfl ⟨by decide, by decide⟩ ?_
    have e : sp_next A.1.1 x p = zNO := if_neg (fun z => by first | exact dec_f h4 z.1 | exact dec_f h13 z.2)
    rw [e] at h; exact h
  · skip
    refine Z_iload_n dX12_next_7 rfl rfl ?_
    refine Z_iconst (v := 0) dX12_next_8 (by decide) ?_
    refine Z_iconst (v := 1) dX12_next_9 (by decide) ?_
    refine Z_S3z dX12_next_10 to_X12_in lk_X12_69 sc_X12_in (Nat.le_of_ble_eq_true rfl) ⟨rfl, rfl⟩ ⟨by decide, by decide⟩ ?_
    refine c_in ?_
    refine Z_if_ne (tgt := 20) dX12_next_13 (by decide) (fun h13 => ?_) (fun h13 => ?_)
    · skip
      obtain ⟨j, hj, rfl⟩ := okS.nI (dec_t h4)
      have b := zsb hr.2.1 hj
      have e : sp_next A.1.1 (nI j) p = lZ (zlow (A.1.1 (6 + j)) (max 1 (zrest A.1.1)) p) := (if_pos ⟨dec_t h4, dec_t h13⟩).trans (by rw [nI_clamp (by omega)])
      rw [e] at h
      refine Z_aload_n dX12_next_20 rfl rfl ?_
      refine Z_V0z (ci := 12) dX12_next_21 to_X12_rest lk_X12_158 iv_X12_rest ⟨rfl, rfl⟩ (mw_i34 hm) (Nat.le_of_ble_eq_true rfl) ⟨rfl, rfl⟩ ⟨by decide, by decide⟩ ?_
      refine c_rest' hr ?_
      refine Z_if_ne (tgt := 32) dX12_next_24 (by decide) (fun h24 => ?_) (fun h24 => ?_)
      · skip
        have r0 : ¬ zrest A.1.1 = 0 := fun z => h24 (by rw [z]; rfl)
        refine Z_aload_n dX12_next_32 rfl rfl ?_
        refine Z_getR dX12_next_33 cl_12 fl_X12_9_12 rfl (mw_i34 hm) (mw_p34_1 hm) ?_
        refine Z_bipush (v := 6) dX12_next_36 (by decide) ?_
        refine Z_iload_n dX12_next_38 rfl rfl ?_
        refine Z_iadd dX12_next_39 ?_
        refine Z_ialdv dX12_next_40 (mw_i35 hm) (zix_e (m := 6 + j) (nI_add 6 j) (by omega) (by decide)) (hr.at (by omega) (by omega)) ?_
        refine Z_i2l dX12_next_41 ?_
        refine Z_aload_n dX12_next_42 rfl rfl ?_
        refine Z_V0z (ci := 12) dX12_next_43 to_X12_rest lk_X12_158 iv_X12_rest ⟨rfl, rfl⟩ (mw_i34 hm) (Nat.le_of_ble_eq_true rfl) ⟨rfl, rfl⟩ ⟨by decide, by decide⟩ ?_
        refine c_rest' hr ?_
        refine Z_i2l dX12_next_46 ?_
        refine Z_iload_n dX12_next_47 rfl rfl ?_
        refine Z_S3z dX12_next_48 to_X12_lowest lk_X12_261 sc_X12_lowest (Nat.le_of_ble_eq_true rfl) ⟨rfl, rfl⟩ ⟨by decide, by decide⟩ ?_
        rw [nI_l (by omega), nI_l (by omega), ← lZ_nat (A.1.1 (6 + j))]
        refine c_lowest (by omega) (by omega) (by omega) (by omega) ?_
        refine Z_lret dX12_next_51 rfl ⟨by decide, by decide⟩ ?_
        first
          | (rw [show max 1 (zrest A.1.1) = zrest A.1.1 by omega] at h; exact h)
          | (rw [show A.1.1 (6 + j) = 0 by omega, show ((0 : Nat) : Int) = 0 from rfl, zlow_0 (by omega) (dec_t h13)] at h; exact h)
      · skip
        have r0 : zrest A.1.1 = 0 := (nI_eq (b := 0) (by omega) (by omega)).mp h24
        refine Z_iload_n dX12_next_27 rfl rfl ?_
        refine Z_i2l dX12_next_28 ?_
        refine Z_goto (tgt := 51) dX12_next_29 (by decide) ?_
        refine Z_lret dX12_next_51 rfl ⟨by decide, by decide⟩ ?_
        first
          | (rw [show max 1 (zrest A.1.1) = zrest A.1.1 by omega] at h; exact h)
          | (rw [show A.1.1 (6 + j) = 0 by omega, show ((0 : Nat) : Int) = 0 from rfl, zlow_0 (by omega) (dec_t h13)] at h; exact h)
    · skip
      refine Z_ldc2 dX12_next_16 kc_X12_259 ?_
      refine Z_lret dX12_next_19 rfl ⟨by decide, by decide⟩ ?_
      have e : sp_next A.1.1 x p = zNO := if_neg (fun z => by first | exact dec_f h4 z.1 | exact dec_f h13 z.2)
      rw [e] at h; exact h
def sp_run (σ : Nat → Nat) (x n p : Int32) : Int64 := if ((0 ≤ x ∧ x ≤ 2) ∧ (1 ≤ n ∧ n ≤ 5)) ∧ (0 ≤ p ∧ p ≤ 1) then lZ (zlow (zch (σ (6 + x.toNatClampNeg)) n.toNatClampNeg) (max 1 (zch (zrest σ) n.toNatClampNeg)) p) else zNO
theorem arg_1 {x hi : Int32} {n : Nat} (hhi : hi.toInt = (n : Int)) (h : 1 ≤ x ∧ x ≤ hi) : ∃ j : Nat, 1 ≤ j ∧ j ≤ n ∧ x = nI j := by
  have e1 : (1 : Int32).toInt = 1 := rfl
  obtain ⟨j, hj, rfl⟩ := nI_of2 hhi (by simp only [Int32.lt_iff_toInt_lt, Int32.le_iff_toInt_le] at *; have e0 : (0 : Int32).toInt = 0 := rfl; omega) h.2
  have hb : hi.toInt < 2 ^ 31 := hi.toInt_lt
  have := h.1
  rw [Int32.le_iff_toInt_le, nI_toInt (by omega)] at this
  exact ⟨j, by omega, hj, rfl⟩
theorem c_mrun {x n p : Int32} (hr : MRel A α) (h : post (some (.long (sp_run A.1.1 x n p))) α) : ZK G (d + 3) mX12_run [.ref (G.1 + 34), .int x, .int n, .int p] α post := by
  have hm := hr.mw
  refine ZK.of (n := 2) (by decide) (Nat.le_of_ble_eq_true rfl) rfl ?_
  refine Z_iload_n dX12_run_0 rfl rfl ?_
  refine Z_S1z dX12_run_1 to_X12_isSort lk_X12_73 sc_X12_isSort (Nat.le_of_ble_eq_true rfl) ⟨rfl, rfl⟩ ⟨by decide, by decide⟩ ?_
  refine c_isSort ?_
  refine Z_if_eq (tgt := 25) dX12_run_4 (by decide) (fun h4 => ?_) (fun h4 => ?_)
  · skip
    refine Z_ldc2 dX12_run_25 kc_X12_259 ?_
    refine Z_lret dX12_run_28 rfl ⟨by decide, by decide⟩ ?_
    have e : sp_run A.1.1 x n p = zNO := if_neg (fun z => by first | exact dec_f h4 z.1.1 | exact dec_f h13 z.1.2 | exact dec_f h22 z.2)
    rw [e] at h; exact h
  · skip
    refine Z_iload_n dX12_run_7 rfl rfl ?_
    refine Z_iconst (v := 1) dX12_run_8 (by decide) ?_
    refine Z_iconst (v := 5) dX12_run_9 (by decide) ?_
    refine Z_S3z dX12_run_10 to_X12_in lk_X12_69 sc_X12_in (Nat.le_of_ble_eq_true rfl) ⟨rfl, rfl⟩ ⟨by decide, by decide⟩ ?_
    refine c_in ?_
    refine Z_if_eq (tgt := 25) dX12_run_13 (by decide) (fun h13 => ?_) (fun h13 => ?_)
    · skip
      refine Z_ldc2 dX12_run_25 kc_X12_259 ?_
      refine Z_lret dX12_run_28 rfl ⟨by decide, by decide⟩ ?_
      have e : sp_run A.1.1 x n p = zNO := if_neg (fun z => by first | exact dec_f h4 z.1.1 | exact dec_f h13 z.1.2 | exact dec_f h22 z.2)
      rw [e] at h; exact h
    · skip
      refine Z_iload_n dX12_run_16 rfl rfl ?_
      refine Z_iconst (v := 0) dX12_run_17 (by decide) ?_
      refine Z_iconst (v := 1) dX12_run_18 (by decide) ?_
      refine Z_S3z dX12_run_19 to_X12_in lk_X12_69 sc_X12_in (Nat.le_of_ble_eq_true rfl) ⟨rfl, rfl⟩ ⟨by decide, by decide⟩ ?_
      refine c_in ?_
      refine Z_if_ne (tgt := 29) dX12_run_22 (by decide) (fun h22 => ?_) (fun h22 => ?_)
      · skip
        obtain ⟨j, hj, rfl⟩ := okS.nI (dec_t h4)
        obtain ⟨q, hq1, hq5, rfl⟩ := arg_1 (n := 5) rfl (dec_t h13)
        have b := zsb hr.2.1 hj
        have e : sp_run A.1.1 (nI j) (nI q) p = lZ (zlow (zch (A.1.1 (6 + j)) q) (max 1 (zch (zrest A.1.1) q)) p) := (if_pos ⟨⟨dec_t h4, dec_t h13⟩, dec_t h22⟩).trans (by rw [nI_clamp (by omega), nI_clamp (by omega)])
        rw [e] at h
        have c1 := zch_le' (A.1.1 (6 + j)) q
        have c2 := zch_le' (zrest A.1.1) q
        refine Z_aload_n dX12_run_29 rfl rfl ?_
        refine Z_getR dX12_run_30 cl_12 fl_X12_9_12 rfl (mw_i34 hm) (mw_p34_1 hm) ?_
        refine Z_bipush (v := 6) dX12_run_33 (by decide) ?_
        refine Z_iload_n dX12_run_35 rfl rfl ?_
        refine Z_iadd dX12_run_36 ?_
        refine Z_ialdv dX12_run_37 (mw_i35 hm) (zix_e (m := 6 + j) (nI_add 6 j) (by omega) (by decide)) (hr.at (by omega) (by omega)) ?_
        refine Z_iload_n dX12_run_38 rfl rfl ?_
        refine Z_S2z dX12_run_39 to_X12_chooses lk_X12_194 sc_X12_chooses (Nat.le_of_ble_eq_true rfl) ⟨rfl, rfl⟩ ⟨by decide, by decide⟩ ?_
        refine c_chooses (by omega) ?_
        rw [zchI_nI (by omega) (by omega)]
        refine Z_lstore (L' := [_, _, _, _, _, _]) dX12_run_42 (by decide) rfl rfl ?_
        refine Z_lload dX12_run_44 rfl ?_
        refine Z_lconst (v := 0) dX12_run_46 (by decide) ?_
        refine Z_lcmp dX12_run_47 ?_
        refine Z_if_ne (tgt := 56) dX12_run_48 (by decide) (fun h48 => ?_) (fun h48 => ?_)
        · skip
          have z0 : 0 < zch (A.1.1 (6 + j)) q := Nat.pos_of_ne_zero (fun z => h48 (lg_eq.mpr (by rw [z]; rfl)))
          have z1 : 0 < zch (zrest A.1.1) q := by
            by_cases hc : q ≤ A.1.1 (6 + j)
            · exact zch_pos _ (by omega) _ (by omega) (by omega)
            · unfold zch at z0; rw [if_neg (by omega)] at z0; omega
          refine Z_lload dX12_run_56 rfl ?_
          refine Z_aload_n dX12_run_58 rfl rfl ?_
          refine Z_V0z (ci := 12) dX12_run_59 to_X12_rest lk_X12_158 iv_X12_rest ⟨rfl, rfl⟩ (mw_i34 hm) (Nat.le_of_ble_eq_true rfl) ⟨rfl, rfl⟩ ⟨by decide, by decide⟩ ?_
          refine c_rest' hr ?_
          refine Z_iload_n dX12_run_62 rfl rfl ?_
          refine Z_S2z dX12_run_63 to_X12_chooses lk_X12_194 sc_X12_chooses (Nat.le_of_ble_eq_true rfl) ⟨rfl, rfl⟩ ⟨by decide, by decide⟩ ?_
          refine c_chooses (by omega) ?_
          rw [zchI_nI (by omega) (by omega)]
          refine Z_iload_n dX12_run_66 rfl rfl ?_
          refine Z_S3z dX12_run_67 to_X12_lowest lk_X12_261 sc_X12_lowest (Nat.le_of_ble_eq_true rfl) ⟨rfl, rfl⟩ ⟨by decide, by decide⟩ ?_
          rw [← lZ_nat (zch (A.1.1 (6 + j)) q)]
          refine c_lowest (by omega) (by omega) (by omega) z1 ?_
          refine Z_lret dX12_run_70 rfl ⟨by decide, by decide⟩ ?_
          first
            | (rw [show max 1 (zch (zrest A.1.1) q) = zch (zrest A.1.1) q by omega] at h; exact h)
            | (rw [z0, show ((0 : Nat) : Int) = 0 from rfl, zlow_0 (by omega) (dec_t h22)] at h; exact h)
        · skip
          have z0 : zch (A.1.1 (6 + j)) q = 0 := (pk_lEQ (b := 0) (by omega) (by omega)).mp (lg_eq.mp h48)
          refine Z_iload_n dX12_run_51 rfl rfl ?_
          refine Z_i2l dX12_run_52 ?_
          refine Z_goto (tgt := 70) dX12_run_53 (by decide) ?_
          refine Z_lret dX12_run_70 rfl ⟨by decide, by decide⟩ ?_
          first
            | (rw [show max 1 (zch (zrest A.1.1) q) = zch (zrest A.1.1) q by omega] at h; exact h)
            | (rw [z0, show ((0 : Nat) : Int) = 0 from rfl, zlow_0 (by omega) (dec_t h22)] at h; exact h)
      · skip
        refine Z_ldc2 dX12_run_25 kc_X12_259 ?_
        refine Z_lret dX12_run_28 rfl ⟨by decide, by decide⟩ ?_
        have e : sp_run A.1.1 x n p = zNO := if_neg (fun z => by first | exact dec_f h4 z.1.1 | exact dec_f h13 z.1.2 | exact dec_f h22 z.2)
        rw [e] at h; exact h
def sp_first (σ : Nat → Nat) (x p : Int32) : Int64 := if ((0 ≤ x ∧ x ≤ 2) ∧ (0 ≤ p ∧ p ≤ 1)) ∧ σ (6 + x.toNatClampNeg) ≠ 0 then lZ (zlow (zrest σ + 1 : Nat) (σ (6 + x.toNatClampNeg) + 1) p) else zNO
theorem c_mfirst {x p : Int32} (hr : MRel A α) (h : post (some (.long (sp_first A.1.1 x p))) α) : ZK G (d + 3) mX12_first [.ref (G.1 + 34), .int x, .int p] α post := by
  have hm := hr.mw
  refine ZK.of (n := 0) (by decide) (Nat.le_of_ble_eq_true rfl) rfl ?_
  refine Z_iload_n dX12_first_0 rfl rfl ?_
  refine Z_S1z dX12_first_1 to_X12_isSort lk_X12_73 sc_X12_isSort (Nat.le_of_ble_eq_true rfl) ⟨rfl, rfl⟩ ⟨by decide, by decide⟩ ?_
  refine c_isSort ?_
  refine Z_if_eq (tgt := 28) dX12_first_4 (by decide) (fun h4 => ?_) (fun h4 => ?_)
  · skip
    refine Z_ldc2 dX12_first_28 kc_X12_259 ?_
    refine Z_lret dX12_first_31 rfl ⟨by decide, by decide⟩ ?_
    first
      | (have e : sp_first A.1.1 x p = zNO := if_neg (fun z => by first | exact dec_f h4 z.1.1 | exact dec_f h13 z.1.2)
         rw [e] at h; exact h)
      | (have e : sp_first A.1.1 (nI j) p = zNO := if_neg (fun z => z.2 (by rw [ec]; exact (nI_eq (b := 0) (by omega) (by omega)).mp h25))
         rw [e] at h; exact h)
  · skip
    refine Z_iload_n dX12_first_7 rfl rfl ?_
    refine Z_iconst (v := 0) dX12_first_8 (by decide) ?_
    refine Z_iconst (v := 1) dX12_first_9 (by decide) ?_
    refine Z_S3z dX12_first_10 to_X12_in lk_X12_69 sc_X12_in (Nat.le_of_ble_eq_true rfl) ⟨rfl, rfl⟩ ⟨by decide, by decide⟩ ?_
    refine c_in ?_
    refine Z_if_eq (tgt := 28) dX12_first_13 (by decide) (fun h13 => ?_) (fun h13 => ?_)
    · skip
      refine Z_ldc2 dX12_first_28 kc_X12_259 ?_
      refine Z_lret dX12_first_31 rfl ⟨by decide, by decide⟩ ?_
      first
        | (have e : sp_first A.1.1 x p = zNO := if_neg (fun z => by first | exact dec_f h4 z.1.1 | exact dec_f h13 z.1.2)
           rw [e] at h; exact h)
        | (have e : sp_first A.1.1 (nI j) p = zNO := if_neg (fun z => z.2 (by rw [ec]; exact (nI_eq (b := 0) (by omega) (by omega)).mp h25))
           rw [e] at h; exact h)
    · skip
      obtain ⟨j, hj, rfl⟩ := okS.nI (dec_t h4)
      have b := zsb hr.2.1 hj
      have ec : (nI j).toNatClampNeg = j := nI_clamp (by omega)
      refine Z_aload_n dX12_first_16 rfl rfl ?_
      refine Z_getR dX12_first_17 cl_12 fl_X12_9_12 rfl (mw_i34 hm) (mw_p34_1 hm) ?_
      refine Z_bipush (v := 6) dX12_first_20 (by decide) ?_
      refine Z_iload_n dX12_first_22 rfl rfl ?_
      refine Z_iadd dX12_first_23 ?_
      refine Z_ialdv dX12_first_24 (mw_i35 hm) (zix_e (m := 6 + j) (nI_add 6 j) (by omega) (by decide)) (hr.at (by omega) (by omega)) ?_
      refine Z_if_ne (tgt := 32) dX12_first_25 (by decide) (fun h25 => ?_) (fun h25 => ?_)
      · skip
        have r0 : ¬ A.1.1 (6 + j) = 0 := fun z => h25 (by rw [z]; rfl)
        have e : sp_first A.1.1 (nI j) p = lZ (zlow (zrest A.1.1 + 1 : Nat) (A.1.1 (6 + j) + 1) p) := by unfold sp_first; rw [ec, if_pos ⟨⟨dec_t h4, dec_t h13⟩, r0⟩]
        rw [e] at h
        refine Z_aload_n dX12_first_32 rfl rfl ?_
        refine Z_V0z (ci := 12) dX12_first_33 to_X12_rest lk_X12_158 iv_X12_rest ⟨rfl, rfl⟩ (mw_i34 hm) (Nat.le_of_ble_eq_true rfl) ⟨rfl, rfl⟩ ⟨by decide, by decide⟩ ?_
        refine c_rest' hr ?_
        refine Z_iconst (v := 1) dX12_first_36 (by decide) ?_
        refine Z_iadd dX12_first_37 ?_
        refine Z_i2l dX12_first_38 ?_
        refine Z_aload_n dX12_first_39 rfl rfl ?_
        refine Z_getR dX12_first_40 cl_12 fl_X12_9_12 rfl (mw_i34 hm) (mw_p34_1 hm) ?_
        refine Z_bipush (v := 6) dX12_first_43 (by decide) ?_
        refine Z_iload_n dX12_first_45 rfl rfl ?_
        refine Z_iadd dX12_first_46 ?_
        refine Z_ialdv dX12_first_47 (mw_i35 hm) (zix_e (m := 6 + j) (nI_add 6 j) (by omega) (by decide)) (hr.at (by omega) (by omega)) ?_
        refine Z_iconst (v := 1) dX12_first_48 (by decide) ?_
        refine Z_iadd dX12_first_49 ?_
        refine Z_i2l dX12_first_50 ?_
        refine Z_iload_n dX12_first_51 rfl rfl ?_
        refine Z_S3z dX12_first_52 to_X12_lowest lk_X12_261 sc_X12_lowest (Nat.le_of_ble_eq_true rfl) ⟨rfl, rfl⟩ ⟨by decide, by decide⟩ ?_
        rw [nI_1, nI_1, nI_l (by omega), nI_l (by omega), ← lZ_nat (zrest A.1.1 + 1)]
        refine c_lowest (by omega) (by omega) (by omega) (by omega) ?_
        refine Z_lret dX12_first_55 rfl ⟨by decide, by decide⟩ ?_
        exact h
      · skip
        refine Z_ldc2 dX12_first_28 kc_X12_259 ?_
        refine Z_lret dX12_first_31 rfl ⟨by decide, by decide⟩ ?_
        first
          | (have e : sp_first A.1.1 x p = zNO := if_neg (fun z => by first | exact dec_f h4 z.1.1 | exact dec_f h13 z.1.2)
             rw [e] at h; exact h)
          | (have e : sp_first A.1.1 (nI j) p = zNO := if_neg (fun z => z.2 (by rw [ec]; exact (nI_eq (b := 0) (by omega) (by omega)).mp h25))
             rw [e] at h; exact h)
def sp_before (σ : Nat → Nat) (x y p : Int32) : Int64 := if (((0 ≤ x ∧ x ≤ 2) ∧ (0 ≤ y ∧ y ≤ 2)) ∧ (x ≠ y ∧ (0 ≤ p ∧ p ≤ 1))) ∧ σ (6 + x.toNatClampNeg) + σ (6 + y.toNatClampNeg) ≠ 0 then lZ (zlow (σ (6 + x.toNatClampNeg)) (σ (6 + x.toNatClampNeg) + σ (6 + y.toNatClampNeg)) p) else zNO
theorem c_mbefore {x y p : Int32} (hr : MRel A α) (h : post (some (.long (sp_before A.1.1 x y p))) α) : ZK G (d + 3) mX12_before [.ref (G.1 + 34), .int x, .int y, .int p] α post := by
  have hm := hr.mw
  refine ZK.of (n := 0) (by decide) (Nat.le_of_ble_eq_true rfl) rfl ?_
  refine Z_iload_n dX12_before_0 rfl rfl ?_
  refine Z_S1z dX12_before_1 to_X12_isSort lk_X12_73 sc_X12_isSort (Nat.le_of_ble_eq_true rfl) ⟨rfl, rfl⟩ ⟨by decide, by decide⟩ ?_
  refine c_isSort ?_
  refine Z_if_eq (tgt := 50) dX12_before_4 (by decide) (fun h4 => ?_) (fun h4 => ?_)
  · skip
    refine Z_ldc2 dX12_before_50 kc_X12_259 ?_
    refine Z_lret dX12_before_53 rfl ⟨by decide, by decide⟩ ?_
    first
      | (have e : sp_before A.1.1 x y p = zNO := if_neg (fun z => by first | exact dec_f h4 z.1.1.1 | exact dec_f h11 z.1.1.2 | exact z.1.2.1 h16 | exact dec_f h25 z.1.2.2)
         rw [e] at h; exact h)
      | (have e : sp_before A.1.1 (nI j) (nI q) p = zNO := if_neg (fun z => z.2 (by rw [ec, ed]; rw [nI_add] at h47; exact (nI_eq (b := 0) (by omega) (by omega)).mp h47))
         rw [e] at h; exact h)
  · skip
    refine Z_iload_n dX12_before_7 rfl rfl ?_
    refine Z_S1z dX12_before_8 to_X12_isSort lk_X12_73 sc_X12_isSort (Nat.le_of_ble_eq_true rfl) ⟨rfl, rfl⟩ ⟨by decide, by decide⟩ ?_
    refine c_isSort ?_
    refine Z_if_eq (tgt := 50) dX12_before_11 (by decide) (fun h11 => ?_) (fun h11 => ?_)
    · skip
      refine Z_ldc2 dX12_before_50 kc_X12_259 ?_
      refine Z_lret dX12_before_53 rfl ⟨by decide, by decide⟩ ?_
      first
        | (have e : sp_before A.1.1 x y p = zNO := if_neg (fun z => by first | exact dec_f h4 z.1.1.1 | exact dec_f h11 z.1.1.2 | exact z.1.2.1 h16 | exact dec_f h25 z.1.2.2)
           rw [e] at h; exact h)
        | (have e : sp_before A.1.1 (nI j) (nI q) p = zNO := if_neg (fun z => z.2 (by rw [ec, ed]; rw [nI_add] at h47; exact (nI_eq (b := 0) (by omega) (by omega)).mp h47))
           rw [e] at h; exact h)
    · skip
      refine Z_iload_n dX12_before_14 rfl rfl ?_
      refine Z_iload_n dX12_before_15 rfl rfl ?_
      refine Z_icmp_eq (tgt := 50) dX12_before_16 (by decide) (fun h16 => ?_) (fun h16 => ?_)
      · skip
        refine Z_ldc2 dX12_before_50 kc_X12_259 ?_
        refine Z_lret dX12_before_53 rfl ⟨by decide, by decide⟩ ?_
        first
          | (have e : sp_before A.1.1 x y p = zNO := if_neg (fun z => by first | exact dec_f h4 z.1.1.1 | exact dec_f h11 z.1.1.2 | exact z.1.2.1 h16 | exact dec_f h25 z.1.2.2)
             rw [e] at h; exact h)
          | (have e : sp_before A.1.1 (nI j) (nI q) p = zNO := if_neg (fun z => z.2 (by rw [ec, ed]; rw [nI_add] at h47; exact (nI_eq (b := 0) (by omega) (by omega)).mp h47))
             rw [e] at h; exact h)
      · skip
        refine Z_iload_n dX12_before_19 rfl rfl ?_
        refine Z_iconst (v := 0) dX12_before_20 (by decide) ?_
        refine Z_iconst (v := 1) dX12_before_21 (by decide) ?_
        refine Z_S3z dX12_before_22 to_X12_in lk_X12_69 sc_X12_in (Nat.le_of_ble_eq_true rfl) ⟨rfl, rfl⟩ ⟨by decide, by decide⟩ ?_
        refine c_in ?_
        refine Z_if_eq (tgt := 50) dX12_before_25 (by decide) (fun h25 => ?_) (fun h25 => ?_)
        · skip
          refine Z_ldc2 dX12_before_50 kc_X12_259 ?_
          refine Z_lret dX12_before_53 rfl ⟨by decide, by decide⟩ ?_
          first
            | (have e : sp_before A.1.1 x y p = zNO := if_neg (fun z => by first | exact dec_f h4 z.1.1.1 | exact dec_f h11 z.1.1.2 | exact z.1.2.1 h16 | exact dec_f h25 z.1.2.2)
               rw [e] at h; exact h)
            | (have e : sp_before A.1.1 (nI j) (nI q) p = zNO := if_neg (fun z => z.2 (by rw [ec, ed]; rw [nI_add] at h47; exact (nI_eq (b := 0) (by omega) (by omega)).mp h47))
               rw [e] at h; exact h)
        · skip
          obtain ⟨j, hj, rfl⟩ := okS.nI (dec_t h4)
          obtain ⟨q, hq, rfl⟩ := okS.nI (dec_t h11)
          have b := zsb hr.2.1 hj
          have b' := zsb hr.2.1 hq
          have ec : (nI j).toNatClampNeg = j := nI_clamp (by omega)
          have ed : (nI q).toNatClampNeg = q := nI_clamp (by omega)
          refine Z_aload_n dX12_before_28 rfl rfl ?_
          refine Z_getR dX12_before_29 cl_12 fl_X12_9_12 rfl (mw_i34 hm) (mw_p34_1 hm) ?_
          refine Z_bipush (v := 6) dX12_before_32 (by decide) ?_
          refine Z_iload_n dX12_before_34 rfl rfl ?_
          refine Z_iadd dX12_before_35 ?_
          refine Z_ialdv dX12_before_36 (mw_i35 hm) (zix_e (m := 6 + j) (nI_add 6 j) (by omega) (by decide)) (hr.at (by omega) (by omega)) ?_
          refine Z_aload_n dX12_before_37 rfl rfl ?_
          refine Z_getR dX12_before_38 cl_12 fl_X12_9_12 rfl (mw_i34 hm) (mw_p34_1 hm) ?_
          refine Z_bipush (v := 6) dX12_before_41 (by decide) ?_
          refine Z_iload_n dX12_before_43 rfl rfl ?_
          refine Z_iadd dX12_before_44 ?_
          refine Z_ialdv dX12_before_45 (mw_i35 hm) (zix_e (m := 6 + q) (nI_add 6 q) (by omega) (by decide)) (hr.at (by omega) (by omega)) ?_
          refine Z_iadd dX12_before_46 ?_
          refine Z_if_ne (tgt := 54) dX12_before_47 (by decide) (fun h47 => ?_) (fun h47 => ?_)
          · skip
            have r0 : ¬ A.1.1 (6 + j) + A.1.1 (6 + q) = 0 := fun z => h47 (by rw [nI_add, z]; rfl)
            have e : sp_before A.1.1 (nI j) (nI q) p = lZ (zlow (A.1.1 (6 + j)) (A.1.1 (6 + j) + A.1.1 (6 + q)) p) := by unfold sp_before; rw [ec, ed, if_pos ⟨⟨⟨dec_t h4, dec_t h11⟩, ⟨h16, dec_t h25⟩⟩, r0⟩]
            rw [e] at h
            refine Z_aload_n dX12_before_54 rfl rfl ?_
            refine Z_getR dX12_before_55 cl_12 fl_X12_9_12 rfl (mw_i34 hm) (mw_p34_1 hm) ?_
            refine Z_bipush (v := 6) dX12_before_58 (by decide) ?_
            refine Z_iload_n dX12_before_60 rfl rfl ?_
            refine Z_iadd dX12_before_61 ?_
            refine Z_ialdv dX12_before_62 (mw_i35 hm) (zix_e (m := 6 + j) (nI_add 6 j) (by omega) (by decide)) (hr.at (by omega) (by omega)) ?_
            refine Z_i2l dX12_before_63 ?_
            refine Z_aload_n dX12_before_64 rfl rfl ?_
            refine Z_getR dX12_before_65 cl_12 fl_X12_9_12 rfl (mw_i34 hm) (mw_p34_1 hm) ?_
            refine Z_bipush (v := 6) dX12_before_68 (by decide) ?_
            refine Z_iload_n dX12_before_70 rfl rfl ?_
            refine Z_iadd dX12_before_71 ?_
            refine Z_ialdv dX12_before_72 (mw_i35 hm) (zix_e (m := 6 + j) (nI_add 6 j) (by omega) (by decide)) (hr.at (by omega) (by omega)) ?_
            refine Z_aload_n dX12_before_73 rfl rfl ?_
            refine Z_getR dX12_before_74 cl_12 fl_X12_9_12 rfl (mw_i34 hm) (mw_p34_1 hm) ?_
            refine Z_bipush (v := 6) dX12_before_77 (by decide) ?_
            refine Z_iload_n dX12_before_79 rfl rfl ?_
            refine Z_iadd dX12_before_80 ?_
            refine Z_ialdv dX12_before_81 (mw_i35 hm) (zix_e (m := 6 + q) (nI_add 6 q) (by omega) (by decide)) (hr.at (by omega) (by omega)) ?_
            refine Z_iadd dX12_before_82 ?_
            refine Z_i2l dX12_before_83 ?_
            refine Z_iload_n dX12_before_84 rfl rfl ?_
            refine Z_S3z dX12_before_85 to_X12_lowest lk_X12_261 sc_X12_lowest (Nat.le_of_ble_eq_true rfl) ⟨rfl, rfl⟩ ⟨by decide, by decide⟩ ?_
            rw [nI_add, nI_l (by omega), nI_l (by omega), ← lZ_nat (A.1.1 (6 + j))]
            refine c_lowest (by omega) (by omega) (by omega) (by omega) ?_
            refine Z_lret dX12_before_88 rfl ⟨by decide, by decide⟩ ?_
            exact h
          · skip
            refine Z_ldc2 dX12_before_50 kc_X12_259 ?_
            refine Z_lret dX12_before_53 rfl ⟨by decide, by decide⟩ ?_
            first
              | (have e : sp_before A.1.1 x y p = zNO := if_neg (fun z => by first | exact dec_f h4 z.1.1.1 | exact dec_f h11 z.1.1.2 | exact z.1.2.1 h16 | exact dec_f h25 z.1.2.2)
                 rw [e] at h; exact h)
              | (have e : sp_before A.1.1 (nI j) (nI q) p = zNO := if_neg (fun z => z.2 (by rw [ec, ed]; rw [nI_add] at h47; exact (nI_eq (b := 0) (by omega) (by omega)).mp h47))
                 rw [e] at h; exact h)
/-- over the counts m .. r: how many ways there are that n days have j of a sort -/
def zbyS (r s : Nat) (n : Nat) (m : Nat) : Nat → Nat
  | 0 => 0
  | t + 1 => zbyS r s n m t + zch r (m + t) * zchI s (nI n - nI (m + t))
def zby (r s n m : Nat) : Nat := zbyS r s n m (r + 1 - m)
theorem zchI_le (n : Nat) (k : Int32) : zchI n k ≤ 6435 := by
  unfold zchI; split
  · omega
  · exact zch_le' _ _
theorem zbyS_le (r s n m : Nat) : ∀ t, zbyS r s n m t ≤ t * 41409225
  | 0 => Nat.le_refl _
  | t + 1 => by
    have h1 := zbyS_le r s n m t
    have h2 := Nat.mul_le_mul (zch_le' r (m + t)) (zchI_le s (nI n - nI (m + t)))
    unfold zbyS
    omega
theorem lp_mby {n m r R : Nat} {x p : Int32} (hr : MRel A α) (hR : zrest A.1.1 = R) (hr5 : r ≤ 5) (hrR : r ≤ R) (hR15 : R ≤ 15) (hn : n ≤ 15) (hm5 : m ≤ 5)
    (h : ∀ v, v = zby r (R - r) n m → Z G mX12_by (d + 3) 105 [some (.ref (G.1 + 34)), some (.int x), some (.int (nI n)), some (.int (nI m)), some (.int p), some (.int (nI r)), some (.long (lN v)), none, none] [] α (0, 0) post) :
    ∀ (k t : Nat), t + k = r + 1 - m → Z G mX12_by (d + 3) 65 [some (.ref (G.1 + 34)), some (.int x), some (.int (nI n)), some (.int (nI m)), some (.int p), some (.int (nI r)), some (.long (lN (zbyS r (R - r) n m t))), none, some (.int (nI (m + t)))] [] α (0, 0) post := by
  have hm := hr.mw
  intro k
  induction k with
  | zero =>
    intro t ht
    refine Z_iload dX12_by_65 rfl ?_
    refine Z_iload dX12_by_67 rfl ?_
    refine Z_icmp_gt (tgt := 105) dX12_by_69 (by decide) (fun h69 => ?_) (fun h69 => ?_)
    · skip
      refine Z.less (fun i v hv => ?_) (h _ (by unfold zby; rw [← ht, Nat.add_zero]))
      match i, hv with
      | 0, hv => exact hv
      | 1, hv => exact hv
      | 2, hv => exact hv
      | 3, hv => exact hv
      | 4, hv => exact hv
      | 5, hv => exact hv
      | 6, hv => exact hv
      | 7, hv => exact hv
      | 8, hv => cases hv
      | i + 9, hv => cases hv
    · skip
      exact absurd (nI_lt (a := r) (b := m + t) (by omega) (by omega)) h69
  | succ k ih =>
    intro t ht
    have b1 := zbyS_le r (R - r) n m t
    have e2 : lN (zbyS r (R - r) n m t) + lN (zch r (m + t)) * lN (zchI (R - r) (nI n - nI (m + t))) = lN (zbyS r (R - r) n m (t + 1)) := by
      rw [lN_mul, lN_add]; rfl
    refine Z_iload dX12_by_65 rfl ?_
    refine Z_iload dX12_by_67 rfl ?_
    refine Z_icmp_gt (tgt := 105) dX12_by_69 (by decide) (fun h69 => ?_) (fun h69 => ?_)
    · skip
      exact absurd ((nI_ltI (a := r) (b := m + t) (by omega) (by omega)).mp h69) (by omega)
    · skip
      refine Z_lload dX12_by_72 rfl ?_
      refine Z_iload dX12_by_74 rfl ?_
      refine Z_iload dX12_by_76 rfl ?_
      refine Z_S2z dX12_by_78 to_X12_chooses lk_X12_194 sc_X12_chooses (Nat.le_of_ble_eq_true rfl) ⟨rfl, rfl⟩ ⟨by decide, by decide⟩ ?_
      refine c_chooses (by omega) ?_
      rw [zchI_nI (by omega) (by omega)]
      refine Z_aload_n dX12_by_81 rfl rfl ?_
      refine Z_V0z (ci := 12) dX12_by_82 to_X12_rest lk_X12_158 iv_X12_rest ⟨rfl, rfl⟩ (mw_i34 hm) (Nat.le_of_ble_eq_true rfl) ⟨rfl, rfl⟩ ⟨by decide, by decide⟩ ?_
      refine c_rest' hr ?_
      rw [hR]
      refine Z_iload dX12_by_85 rfl ?_
      refine Z_isub dX12_by_87 ?_
      refine Z_iload_n dX12_by_88 rfl rfl ?_
      refine Z_iload dX12_by_89 rfl ?_
      refine Z_isub dX12_by_91 ?_
      refine Z_S2z dX12_by_92 to_X12_chooses lk_X12_194 sc_X12_chooses (Nat.le_of_ble_eq_true rfl) ⟨rfl, rfl⟩ ⟨by decide, by decide⟩ ?_
      rw [pk_sub hrR]
      refine c_chooses (by omega) ?_
      refine Z_lmul dX12_by_95 ?_
      refine Z_ladd dX12_by_96 ?_
      rw [e2]
      refine Z_lstore (L' := [_, _, _, _, _, _, _, _, _]) dX12_by_97 (by decide) rfl rfl ?_
      refine Z_iinc (L' := [_, _, _, _, _, _, _, _, _]) dX12_by_99 rfl (by rfl : _ + Int32.ofInt 1 = _ + 1) (by decide) rfl rfl ?_
      refine Z_goto (tgt := 65) dX12_by_102 (by decide) ?_
      rw [nI_1]
      exact ih (t + 1) (by omega)
def sp_by (σ : Nat → Nat) (x n m p : Int32) : Int64 := if ((0 ≤ x ∧ x ≤ 2) ∧ (1 ≤ n ∧ n ≤ 15)) ∧ ((0 ≤ m ∧ m ≤ 5) ∧ (0 ≤ p ∧ p ≤ 1)) ∧ n ≤ nI (zrest σ) then lZ (zlow (zby (σ (6 + x.toNatClampNeg)) (zrest σ - σ (6 + x.toNatClampNeg)) n.toNatClampNeg m.toNatClampNeg) (zch (zrest σ) n.toNatClampNeg) p) else zNO
theorem tl_mby {j q w : Nat} {v : Nat} {x p : Int32} {post : Option Value → AH → Prop} (hr : MRel A α) (hv : v < 2 ^ 60) (hq : q ≤ zrest A.1.1) (hR : zrest A.1.1 ≤ 15) (h : post (some (.long (lZ (zlow v (zch (zrest A.1.1) q) p)))) α) : Z G mX12_by (d + 3) 105 [some (.ref (G.1 + 34)), some (.int x), some (.int (nI q)), some (.int (nI w)), some (.int p), some (.int (nI j)), some (.long (lN v)), none, none] [] α (0, 0) post := by
  have hm := hr.mw
  have c2 := zch_le' (zrest A.1.1) q
  refine Z_lload dX12_by_105 rfl ?_
  refine Z_aload_n dX12_by_107 rfl rfl ?_
  refine Z_V0z (ci := 12) dX12_by_108 to_X12_rest lk_X12_158 iv_X12_rest ⟨rfl, rfl⟩ (mw_i34 hm) (Nat.le_of_ble_eq_true rfl) ⟨rfl, rfl⟩ ⟨by decide, by decide⟩ ?_
  refine c_rest' hr ?_
  refine Z_iload_n dX12_by_111 rfl rfl ?_
  refine Z_S2z dX12_by_112 to_X12_chooses lk_X12_194 sc_X12_chooses (Nat.le_of_ble_eq_true rfl) ⟨rfl, rfl⟩ ⟨by decide, by decide⟩ ?_
  refine c_chooses (by omega) ?_
  rw [zchI_nI (by omega) (by omega)]
  refine Z_iload dX12_by_115 rfl ?_
  refine Z_S3z dX12_by_117 to_X12_lowest lk_X12_261 sc_X12_lowest (Nat.le_of_ble_eq_true rfl) ⟨rfl, rfl⟩ ⟨by decide, by decide⟩ ?_
  rw [← lZ_nat v]
  refine c_lowest (by omega) (by omega) (by omega) (zch_pos _ (by omega) _ (by omega) hq) ?_
  refine Z_lret dX12_by_120 rfl ⟨by decide, by decide⟩ ?_
  exact h
theorem c_mby {x n m p : Int32} (hr : MRel A α) (h : post (some (.long (sp_by A.1.1 x n m p))) α) : ZK G (d + 3) mX12_by [.ref (G.1 + 34), .int x, .int n, .int m, .int p] α post := by
  have hm := hr.mw
  refine ZK.of (n := 4) (by decide) (Nat.le_of_ble_eq_true rfl) rfl ?_
  refine Z_iload_n dX12_by_0 rfl rfl ?_
  refine Z_S1z dX12_by_1 to_X12_isSort lk_X12_73 sc_X12_isSort (Nat.le_of_ble_eq_true rfl) ⟨rfl, rfl⟩ ⟨by decide, by decide⟩ ?_
  refine c_isSort ?_
  refine Z_if_eq (tgt := 44) dX12_by_4 (by decide) (fun h4 => ?_) (fun h4 => ?_)
  · skip
    refine Z_ldc2 dX12_by_44 kc_X12_259 ?_
    refine Z_lret dX12_by_47 rfl ⟨by decide, by decide⟩ ?_
    have e : sp_by A.1.1 x n m p = zNO := if_neg (fun z => by first | exact dec_f h4 z.1.1 | exact dec_f h14 z.1.2 | exact dec_f h23 z.2.1.1 | exact dec_f h33 z.2.1.2 | exact h41 z.2.2)
    rw [e] at h; exact h
  · skip
    refine Z_iload_n dX12_by_7 rfl rfl ?_
    refine Z_iconst (v := 1) dX12_by_8 (by decide) ?_
    refine Z_bipush (v := 15) dX12_by_9 (by decide) ?_
    refine Z_S3z dX12_by_11 to_X12_in lk_X12_69 sc_X12_in (Nat.le_of_ble_eq_true rfl) ⟨rfl, rfl⟩ ⟨by decide, by decide⟩ ?_
    refine c_in ?_
    refine Z_if_eq (tgt := 44) dX12_by_14 (by decide) (fun h14 => ?_) (fun h14 => ?_)
    · skip
      refine Z_ldc2 dX12_by_44 kc_X12_259 ?_
      refine Z_lret dX12_by_47 rfl ⟨by decide, by decide⟩ ?_
      have e : sp_by A.1.1 x n m p = zNO := if_neg (fun z => by first | exact dec_f h4 z.1.1 | exact dec_f h14 z.1.2 | exact dec_f h23 z.2.1.1 | exact dec_f h33 z.2.1.2 | exact h41 z.2.2)
      rw [e] at h; exact h
    · skip
      refine Z_iload_n dX12_by_17 rfl rfl ?_
      refine Z_iconst (v := 0) dX12_by_18 (by decide) ?_
      refine Z_iconst (v := 5) dX12_by_19 (by decide) ?_
      refine Z_S3z dX12_by_20 to_X12_in lk_X12_69 sc_X12_in (Nat.le_of_ble_eq_true rfl) ⟨rfl, rfl⟩ ⟨by decide, by decide⟩ ?_
      refine c_in ?_
      refine Z_if_eq (tgt := 44) dX12_by_23 (by decide) (fun h23 => ?_) (fun h23 => ?_)
      · skip
        refine Z_ldc2 dX12_by_44 kc_X12_259 ?_
        refine Z_lret dX12_by_47 rfl ⟨by decide, by decide⟩ ?_
        have e : sp_by A.1.1 x n m p = zNO := if_neg (fun z => by first | exact dec_f h4 z.1.1 | exact dec_f h14 z.1.2 | exact dec_f h23 z.2.1.1 | exact dec_f h33 z.2.1.2 | exact h41 z.2.2)
        rw [e] at h; exact h
      · skip
        refine Z_iload dX12_by_26 rfl ?_
        refine Z_iconst (v := 0) dX12_by_28 (by decide) ?_
        refine Z_iconst (v := 1) dX12_by_29 (by decide) ?_
        refine Z_S3z dX12_by_30 to_X12_in lk_X12_69 sc_X12_in (Nat.le_of_ble_eq_true rfl) ⟨rfl, rfl⟩ ⟨by decide, by decide⟩ ?_
        refine c_in ?_
        refine Z_if_eq (tgt := 44) dX12_by_33 (by decide) (fun h33 => ?_) (fun h33 => ?_)
        · skip
          refine Z_ldc2 dX12_by_44 kc_X12_259 ?_
          refine Z_lret dX12_by_47 rfl ⟨by decide, by decide⟩ ?_
          have e : sp_by A.1.1 x n m p = zNO := if_neg (fun z => by first | exact dec_f h4 z.1.1 | exact dec_f h14 z.1.2 | exact dec_f h23 z.2.1.1 | exact dec_f h33 z.2.1.2 | exact h41 z.2.2)
          rw [e] at h; exact h
        · skip
          refine Z_iload_n dX12_by_36 rfl rfl ?_
          refine Z_aload_n dX12_by_37 rfl rfl ?_
          refine Z_V0z (ci := 12) dX12_by_38 to_X12_rest lk_X12_158 iv_X12_rest ⟨rfl, rfl⟩ (mw_i34 hm) (Nat.le_of_ble_eq_true rfl) ⟨rfl, rfl⟩ ⟨by decide, by decide⟩ ?_
          refine c_rest' hr ?_
          refine Z_icmp_le (tgt := 48) dX12_by_41 (by decide) (fun h41 => ?_) (fun h41 => ?_)
          · skip
            obtain ⟨j, hj, rfl⟩ := okS.nI (dec_t h4)
            obtain ⟨q, hq1, hq15, rfl⟩ := arg_1 (n := 15) rfl (dec_t h14)
            obtain ⟨w, hw, rfl⟩ := arg_nI (n := 5) rfl rfl (dec_t h23)
            have b := zsb hr.2.1 hj
            have hq := (nI_leI (by omega) (by omega)).mp h41
            have e : sp_by A.1.1 (nI j) (nI q) (nI w) p = lZ (zlow (zby (A.1.1 (6 + j)) (zrest A.1.1 - A.1.1 (6 + j)) q w) (zch (zrest A.1.1) q) p) := (if_pos ⟨⟨dec_t h4, dec_t h14⟩, ⟨dec_t h23, dec_t h33⟩, h41⟩).trans (by rw [nI_clamp (by omega), nI_clamp (by omega), nI_clamp (by omega)])
            rw [e] at h
            have c2 := zch_le' (zrest A.1.1) q
            have c1 := zbyS_le (A.1.1 (6 + j)) (zrest A.1.1 - A.1.1 (6 + j)) q w (A.1.1 (6 + j) + 1 - w)
            refine Z_aload_n dX12_by_48 rfl rfl ?_
            refine Z_getR dX12_by_49 cl_12 fl_X12_9_12 rfl (mw_i34 hm) (mw_p34_1 hm) ?_
            refine Z_bipush (v := 6) dX12_by_52 (by decide) ?_
            refine Z_iload_n dX12_by_54 rfl rfl ?_
            refine Z_iadd dX12_by_55 ?_
            refine Z_ialdv dX12_by_56 (mw_i35 hm) (zix_e (m := 6 + j) (nI_add 6 j) (by omega) (by decide)) (hr.at (by omega) (by omega)) ?_
            refine Z_istore (L' := [_, _, _, _, _, _, _, _, _]) dX12_by_57 (by decide) rfl rfl ?_
            refine Z_lconst (v := 0) dX12_by_59 (by decide) ?_
            refine Z_lstore (L' := [_, _, _, _, _, _, _, _, _]) dX12_by_60 (by decide) rfl rfl ?_
            refine Z_iload_n dX12_by_62 rfl rfl ?_
            refine Z_istore (L' := [_, _, _, _, _, _, _, _, _]) dX12_by_63 (by decide) rfl rfl ?_
            refine lp_mby hr rfl b.1 b.2.1 b.2.2 hq15 hw (fun v hv => ?_) (A.1.1 (6 + j) + 1 - w) 0 (by omega)
            have hv1 : v ≤ 6 * 41409225 := by
              rw [hv]; exact Nat.le_trans c1 (Nat.mul_le_mul_right _ (by omega))
            subst hv
            exact tl_mby hr (by omega) hq b.2.2 h
          · skip
            refine Z_ldc2 dX12_by_44 kc_X12_259 ?_
            refine Z_lret dX12_by_47 rfl ⟨by decide, by decide⟩ ?_
            have e : sp_by A.1.1 x n m p = zNO := if_neg (fun z => by first | exact dec_f h4 z.1.1 | exact dec_f h14 z.1.2 | exact dec_f h23 z.2.1.1 | exact dec_f h33 z.2.1.2 | exact h41 z.2.2)
            rw [e] at h; exact h
def sp_cover (σ : Nat → Nat) (x n p : Int32) : Int64 := if ((0 ≤ x ∧ x ≤ 2) ∧ (1 ≤ n ∧ n ≤ 15)) ∧ (0 ≤ p ∧ p ≤ 1) then lZ (zlow ((sp_cov σ : Int) * ((zch (zrest σ) (min n.toNatClampNeg (zrest σ)) : Int) - zch (zrest σ - σ (6 + x.toNatClampNeg)) (min n.toNatClampNeg (zrest σ)))) (zch (zrest σ) (min n.toNatClampNeg (zrest σ))) p) else zNO
theorem c_mcover {x n p : Int32} (hr : MRel A α) (h : post (some (.long (sp_cover A.1.1 x n p))) α) : ZK G (d + 3) mX12_cover [.ref (G.1 + 34), .int x, .int n, .int p] α post := by
  have hm := hr.mw
  have bc : sp_cov A.1.1 ≤ 99 := by
    have b4 : A.1.1 4 ≤ 5 := hr.2.1.at (by omega) rfl
    unfold sp_cov
    split
    · omega
    · exact hr.2.1.at (by omega) (by rw [show 182 + (A.1.1 4 - 1) = 167 + (15 + (A.1.1 4 - 1)) by omega]; exact zbd_pay (by omega))
  refine ZK.of (n := 3) (by decide) (Nat.le_of_ble_eq_true rfl) rfl ?_
  refine Z_iload_n dX12_cover_0 rfl rfl ?_
  refine Z_S1z dX12_cover_1 to_X12_isSort lk_X12_73 sc_X12_isSort (Nat.le_of_ble_eq_true rfl) ⟨rfl, rfl⟩ ⟨by decide, by decide⟩ ?_
  refine c_isSort ?_
  refine Z_if_eq (tgt := 26) dX12_cover_4 (by decide) (fun h4 => ?_) (fun h4 => ?_)
  · skip
    refine Z_ldc2 dX12_cover_26 kc_X12_259 ?_
    refine Z_lret dX12_cover_29 rfl ⟨by decide, by decide⟩ ?_
    have e : sp_cover A.1.1 x n p = zNO := if_neg (fun z => by first | exact dec_f h4 z.1.1 | exact dec_f h14 z.1.2 | exact dec_f h23 z.2)
    rw [e] at h; exact h
  · skip
    refine Z_iload_n dX12_cover_7 rfl rfl ?_
    refine Z_iconst (v := 1) dX12_cover_8 (by decide) ?_
    refine Z_bipush (v := 15) dX12_cover_9 (by decide) ?_
    refine Z_S3z dX12_cover_11 to_X12_in lk_X12_69 sc_X12_in (Nat.le_of_ble_eq_true rfl) ⟨rfl, rfl⟩ ⟨by decide, by decide⟩ ?_
    refine c_in ?_
    refine Z_if_eq (tgt := 26) dX12_cover_14 (by decide) (fun h14 => ?_) (fun h14 => ?_)
    · skip
      refine Z_ldc2 dX12_cover_26 kc_X12_259 ?_
      refine Z_lret dX12_cover_29 rfl ⟨by decide, by decide⟩ ?_
      have e : sp_cover A.1.1 x n p = zNO := if_neg (fun z => by first | exact dec_f h4 z.1.1 | exact dec_f h14 z.1.2 | exact dec_f h23 z.2)
      rw [e] at h; exact h
    · skip
      refine Z_iload_n dX12_cover_17 rfl rfl ?_
      refine Z_iconst (v := 0) dX12_cover_18 (by decide) ?_
      refine Z_iconst (v := 1) dX12_cover_19 (by decide) ?_
      refine Z_S3z dX12_cover_20 to_X12_in lk_X12_69 sc_X12_in (Nat.le_of_ble_eq_true rfl) ⟨rfl, rfl⟩ ⟨by decide, by decide⟩ ?_
      refine c_in ?_
      refine Z_if_ne (tgt := 30) dX12_cover_23 (by decide) (fun h23 => ?_) (fun h23 => ?_)
      · skip
        obtain ⟨j, hj, rfl⟩ := okS.nI (dec_t h4)
        obtain ⟨q, hq1, hq15, rfl⟩ := arg_1 (n := 15) rfl (dec_t h14)
        have b := zsb hr.2.1 hj
        have e : sp_cover A.1.1 (nI j) (nI q) p = lZ (zlow ((sp_cov A.1.1 : Int) * ((zch (zrest A.1.1) (min q (zrest A.1.1)) : Int) - zch (zrest A.1.1 - A.1.1 (6 + j)) (min q (zrest A.1.1)))) (zch (zrest A.1.1) (min q (zrest A.1.1))) p) := (if_pos ⟨⟨dec_t h4, dec_t h14⟩, dec_t h23⟩).trans (by rw [nI_clamp (by omega), nI_clamp (by omega)])
        rw [e] at h
        have c1 := zch_le' (zrest A.1.1) (min q (zrest A.1.1))
        have c2 := zch_le' (zrest A.1.1 - A.1.1 (6 + j)) (min q (zrest A.1.1))
        have hz : -2 ^ 62 < (sp_cov A.1.1 : Int) * ((zch (zrest A.1.1) (min q (zrest A.1.1)) : Int) - zch (zrest A.1.1 - A.1.1 (6 + j)) (min q (zrest A.1.1))) ∧ (sp_cov A.1.1 : Int) * ((zch (zrest A.1.1) (min q (zrest A.1.1)) : Int) - zch (zrest A.1.1 - A.1.1 (6 + j)) (min q (zrest A.1.1))) < 2 ^ 62 := by
          have k1 : (sp_cov A.1.1 : Int) * ((zch (zrest A.1.1) (min q (zrest A.1.1)) : Int) - zch (zrest A.1.1 - A.1.1 (6 + j)) (min q (zrest A.1.1))) ≤ (sp_cov A.1.1 : Int) * 6435 := Int.mul_le_mul_of_nonneg_left (by omega) (by omega)
          have k2 : (sp_cov A.1.1 : Int) * (-6435) ≤ (sp_cov A.1.1 : Int) * ((zch (zrest A.1.1) (min q (zrest A.1.1)) : Int) - zch (zrest A.1.1 - A.1.1 (6 + j)) (min q (zrest A.1.1))) := Int.mul_le_mul_of_nonneg_left (by omega) (by omega)
          constructor <;> omega
        refine Z_iload_n dX12_cover_30 rfl rfl ?_
        refine Z_aload_n dX12_cover_31 rfl rfl ?_
        refine Z_V0z (ci := 12) dX12_cover_32 to_X12_rest lk_X12_158 iv_X12_rest ⟨rfl, rfl⟩ (mw_i34 hm) (Nat.le_of_ble_eq_true rfl) ⟨rfl, rfl⟩ ⟨by decide, by decide⟩ ?_
        refine c_rest' hr ?_
        refine Z_icmp_le (tgt := 45) dX12_cover_35 (by decide) (fun h35 => ?_) (fun h35 => ?_)
        · skip
          refine Z_iload_n dX12_cover_45 rfl rfl ?_
          first
            | rw [show nI q = nI (min q (zrest A.1.1)) from congrArg nI (by have := (nI_leI (by omega) (by omega)).mp h35; omega)]
            | rw [show nI (zrest A.1.1) = nI (min q (zrest A.1.1)) from congrArg nI (by have : ¬ q ≤ zrest A.1.1 := fun z => h35 (nI_le z (by omega)); omega)]
          refine Z_istore (L' := [_, _, _, _, _, _, _]) dX12_cover_46 (by decide) rfl rfl ?_
          refine Z_aload_n dX12_cover_48 rfl rfl ?_
          refine Z_V0z (ci := 12) dX12_cover_49 to_X12_rest lk_X12_158 iv_X12_rest ⟨rfl, rfl⟩ (mw_i34 hm) (Nat.le_of_ble_eq_true rfl) ⟨rfl, rfl⟩ ⟨by decide, by decide⟩ ?_
          refine c_rest' hr ?_
          refine Z_iload dX12_cover_52 rfl ?_
          refine Z_S2z dX12_cover_54 to_X12_chooses lk_X12_194 sc_X12_chooses (Nat.le_of_ble_eq_true rfl) ⟨rfl, rfl⟩ ⟨by decide, by decide⟩ ?_
          refine c_chooses b.2.2 ?_
          rw [zchI_nI b.2.2 (by omega)]
          refine Z_lstore (L' := [_, _, _, _, _, _, _]) dX12_cover_57 (by decide) rfl rfl ?_
          refine Z_aload_n dX12_cover_59 rfl rfl ?_
          refine Z_V0z (ci := 12) dX12_cover_60 to_X12_coverTold lk_X12_155 iv_X12_coverTold ⟨rfl, rfl⟩ (mw_i34 hm) (Nat.le_of_ble_eq_true rfl) ⟨rfl, rfl⟩ ⟨by decide, by decide⟩ ?_
          refine c_coverTold hr ?_
          refine Z_i2l dX12_cover_63 ?_
          refine Z_lload dX12_cover_64 rfl ?_
          refine Z_aload_n dX12_cover_66 rfl rfl ?_
          refine Z_V0z (ci := 12) dX12_cover_67 to_X12_rest lk_X12_158 iv_X12_rest ⟨rfl, rfl⟩ (mw_i34 hm) (Nat.le_of_ble_eq_true rfl) ⟨rfl, rfl⟩ ⟨by decide, by decide⟩ ?_
          refine c_rest' hr ?_
          refine Z_aload_n dX12_cover_70 rfl rfl ?_
          refine Z_getR dX12_cover_71 cl_12 fl_X12_9_12 rfl (mw_i34 hm) (mw_p34_1 hm) ?_
          refine Z_bipush (v := 6) dX12_cover_74 (by decide) ?_
          refine Z_iload_n dX12_cover_76 rfl rfl ?_
          refine Z_iadd dX12_cover_77 ?_
          refine Z_ialdv dX12_cover_78 (mw_i35 hm) (zix_e (m := 6 + j) (nI_add 6 j) (by omega) (by decide)) (hr.at (by omega) (by omega)) ?_
          refine Z_isub dX12_cover_79 ?_
          refine Z_iload dX12_cover_80 rfl ?_
          refine Z_S2z dX12_cover_82 to_X12_chooses lk_X12_194 sc_X12_chooses (Nat.le_of_ble_eq_true rfl) ⟨rfl, rfl⟩ ⟨by decide, by decide⟩ ?_
          rw [pk_sub b.2.1]
          refine c_chooses (by omega) ?_
          rw [zchI_nI (by omega) (by omega)]
          refine Z_lsub dX12_cover_85 ?_
          refine Z_lmul dX12_cover_86 ?_
          refine Z_lload dX12_cover_87 rfl ?_
          refine Z_iload_n dX12_cover_89 rfl rfl ?_
          refine Z_S3z dX12_cover_90 to_X12_lowest lk_X12_261 sc_X12_lowest (Nat.le_of_ble_eq_true rfl) ⟨rfl, rfl⟩ ⟨by decide, by decide⟩ ?_
          rw [nI_l (by omega), ← lZ_nat (sp_cov A.1.1), ← lZ_nat (zch (zrest A.1.1) (min q (zrest A.1.1))), ← lZ_nat (zch (zrest A.1.1 - A.1.1 (6 + j)) (min q (zrest A.1.1)))]
          unfold lZ
          rw [← Int64.ofInt_sub, ← Int64.ofInt_mul]
          rw [show Int64.ofInt ((zch (zrest A.1.1) (min q (zrest A.1.1)) : Nat) : Int) = lN (zch (zrest A.1.1) (min q (zrest A.1.1))) from lZ_nat _]
          refine c_lowest (z := (sp_cov A.1.1 : Int) * ((zch (zrest A.1.1) (min q (zrest A.1.1)) : Int) - zch (zrest A.1.1 - A.1.1 (6 + j)) (min q (zrest A.1.1)))) hz.1 hz.2 (by omega) (zch_pos _ (by omega) _ (by omega) (by omega)) ?_
          refine Z_lret dX12_cover_93 rfl ⟨by decide, by decide⟩ ?_
          exact h
        · skip
          refine Z_aload_n dX12_cover_38 rfl rfl ?_
          refine Z_V0z (ci := 12) dX12_cover_39 to_X12_rest lk_X12_158 iv_X12_rest ⟨rfl, rfl⟩ (mw_i34 hm) (Nat.le_of_ble_eq_true rfl) ⟨rfl, rfl⟩ ⟨by decide, by decide⟩ ?_
          refine c_rest' hr ?_
          refine Z_goto (tgt := 46) dX12_cover_42 (by decide) ?_
          first
            | rw [show nI q = nI (min q (zrest A.1.1)) from congrArg nI (by have := (nI_leI (by omega) (by omega)).mp h35; omega)]
            | rw [show nI (zrest A.1.1) = nI (min q (zrest A.1.1)) from congrArg nI (by have : ¬ q ≤ zrest A.1.1 := fun z => h35 (nI_le z (by omega)); omega)]
          refine Z_istore (L' := [_, _, _, _, _, _, _]) dX12_cover_46 (by decide) rfl rfl ?_
          refine Z_aload_n dX12_cover_48 rfl rfl ?_
          refine Z_V0z (ci := 12) dX12_cover_49 to_X12_rest lk_X12_158 iv_X12_rest ⟨rfl, rfl⟩ (mw_i34 hm) (Nat.le_of_ble_eq_true rfl) ⟨rfl, rfl⟩ ⟨by decide, by decide⟩ ?_
          refine c_rest' hr ?_
          refine Z_iload dX12_cover_52 rfl ?_
          refine Z_S2z dX12_cover_54 to_X12_chooses lk_X12_194 sc_X12_chooses (Nat.le_of_ble_eq_true rfl) ⟨rfl, rfl⟩ ⟨by decide, by decide⟩ ?_
          refine c_chooses b.2.2 ?_
          rw [zchI_nI b.2.2 (by omega)]
          refine Z_lstore (L' := [_, _, _, _, _, _, _]) dX12_cover_57 (by decide) rfl rfl ?_
          refine Z_aload_n dX12_cover_59 rfl rfl ?_
          refine Z_V0z (ci := 12) dX12_cover_60 to_X12_coverTold lk_X12_155 iv_X12_coverTold ⟨rfl, rfl⟩ (mw_i34 hm) (Nat.le_of_ble_eq_true rfl) ⟨rfl, rfl⟩ ⟨by decide, by decide⟩ ?_
          refine c_coverTold hr ?_
          refine Z_i2l dX12_cover_63 ?_
          refine Z_lload dX12_cover_64 rfl ?_
          refine Z_aload_n dX12_cover_66 rfl rfl ?_
          refine Z_V0z (ci := 12) dX12_cover_67 to_X12_rest lk_X12_158 iv_X12_rest ⟨rfl, rfl⟩ (mw_i34 hm) (Nat.le_of_ble_eq_true rfl) ⟨rfl, rfl⟩ ⟨by decide, by decide⟩ ?_
          refine c_rest' hr ?_
          refine Z_aload_n dX12_cover_70 rfl rfl ?_
          refine Z_getR dX12_cover_71 cl_12 fl_X12_9_12 rfl (mw_i34 hm) (mw_p34_1 hm) ?_
          refine Z_bipush (v := 6) dX12_cover_74 (by decide) ?_
          refine Z_iload_n dX12_cover_76 rfl rfl ?_
          refine Z_iadd dX12_cover_77 ?_
          refine Z_ialdv dX12_cover_78 (mw_i35 hm) (zix_e (m := 6 + j) (nI_add 6 j) (by omega) (by decide)) (hr.at (by omega) (by omega)) ?_
          refine Z_isub dX12_cover_79 ?_
          refine Z_iload dX12_cover_80 rfl ?_
          refine Z_S2z dX12_cover_82 to_X12_chooses lk_X12_194 sc_X12_chooses (Nat.le_of_ble_eq_true rfl) ⟨rfl, rfl⟩ ⟨by decide, by decide⟩ ?_
          rw [pk_sub b.2.1]
          refine c_chooses (by omega) ?_
          rw [zchI_nI (by omega) (by omega)]
          refine Z_lsub dX12_cover_85 ?_
          refine Z_lmul dX12_cover_86 ?_
          refine Z_lload dX12_cover_87 rfl ?_
          refine Z_iload_n dX12_cover_89 rfl rfl ?_
          refine Z_S3z dX12_cover_90 to_X12_lowest lk_X12_261 sc_X12_lowest (Nat.le_of_ble_eq_true rfl) ⟨rfl, rfl⟩ ⟨by decide, by decide⟩ ?_
          rw [nI_l (by omega), ← lZ_nat (sp_cov A.1.1), ← lZ_nat (zch (zrest A.1.1) (min q (zrest A.1.1))), ← lZ_nat (zch (zrest A.1.1 - A.1.1 (6 + j)) (min q (zrest A.1.1)))]
          unfold lZ
          rw [← Int64.ofInt_sub, ← Int64.ofInt_mul]
          rw [show Int64.ofInt ((zch (zrest A.1.1) (min q (zrest A.1.1)) : Nat) : Int) = lN (zch (zrest A.1.1) (min q (zrest A.1.1))) from lZ_nat _]
          refine c_lowest (z := (sp_cov A.1.1 : Int) * ((zch (zrest A.1.1) (min q (zrest A.1.1)) : Int) - zch (zrest A.1.1 - A.1.1 (6 + j)) (min q (zrest A.1.1)))) hz.1 hz.2 (by omega) (zch_pos _ (by omega) _ (by omega) (by omega)) ?_
          refine Z_lret dX12_cover_93 rfl ⟨by decide, by decide⟩ ?_
          exact h
      · skip
        refine Z_ldc2 dX12_cover_26 kc_X12_259 ?_
        refine Z_lret dX12_cover_29 rfl ⟨by decide, by decide⟩ ?_
        have e : sp_cover A.1.1 x n p = zNO := if_neg (fun z => by first | exact dec_f h4 z.1.1 | exact dec_f h14 z.1.2 | exact dec_f h23 z.2)
        rw [e] at h; exact h
end MO2
