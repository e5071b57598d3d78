section MQ1
variable {G : ZG} {d : Nat} {α β : AH} {post : Option Value → AH → Prop} {A : ZA}
def sp_told (σ : Nat → Nat) (x : Int32) : Int32 :=
  if x = 0 then nI (sp_cov σ) else if x = 1 then nI (σ 5) else if x = 2 then nI (σ 6 + σ 7 + σ 8) else if 10 ≤ x ∧ x ≤ 12 then nI (sp_pay σ (x - 10).toNatClampNeg) else if 20 ≤ x ∧ x ≤ 22 then nI (σ (9 + (x - 20).toNatClampNeg)) else if 30 ≤ x ∧ x ≤ 32 then nI (σ (6 + (x - 30).toNatClampNeg)) else -1
/-- an argument between two small bounds, less the lower one -/
theorem arg_off {x lo hi : Int32} {a n : Nat} (hlo : lo.toInt = (a : Int)) (hhi : hi.toInt = (a : Int) + n) (ha : a + n < 2 ^ 31) (h : lo ≤ x ∧ x ≤ hi) : ∃ j : Nat, j ≤ n ∧ x = nI (a + j) := by
  simp only [Int32.le_iff_toInt_le] at h
  refine ⟨(x.toInt - a).toNat, by omega, Int32.toInt_inj.mp ?_⟩
  rw [nI_toInt (by omega)]
  omega
theorem c_mtold {x : Int32} (hr : MRel A α) (h : post (some (.int (sp_told A.1.1 x))) α) : ZK G (d + 2) mX12_told [.ref (G.1 + 34), .int x] α post := by
  have hm := hr.mw
  have k6 := hr.at (i := 6) (by omega) (by omega)
  have k7 := hr.at (i := 7) (by omega) (by omega)
  have k8 := hr.at (i := 8) (by omega) (by omega)
  refine ZK.of (n := 0) (by decide) (Nat.le_of_ble_eq_true rfl) rfl ?_
  refine Z_iload_n dX12_told_0 rfl rfl ?_
  refine Z_if_ne (tgt := 9) dX12_told_1 (by decide) (fun h1 => ?_) (fun h1 => ?_)
  · skip
    refine Z_iload_n dX12_told_9 rfl rfl ?_
    refine Z_iconst (v := 1) dX12_told_10 (by decide) ?_
    refine Z_icmp_ne (tgt := 21) dX12_told_11 (by decide) (fun h11 => ?_) (fun h11 => ?_)
    · skip
      refine Z_iload_n dX12_told_21 rfl rfl ?_
      refine Z_iconst (v := 2) dX12_told_22 (by decide) ?_
      refine Z_icmp_ne (tgt := 31) dX12_told_23 (by decide) (fun h23 => ?_) (fun h23 => ?_)
      · skip
        refine Z_iload_n dX12_told_31 rfl rfl ?_
        refine Z_bipush (v := 10) dX12_told_32 (by decide) ?_
        refine Z_bipush (v := 12) dX12_told_34 (by decide) ?_
        refine Z_S3z dX12_told_36 to_X12_in lk_X12_69 sc_X12_in (Nat.le_of_ble_eq_true rfl) ⟨rfl, rfl⟩ ⟨by decide, by decide⟩ ?_
        refine c_in ?_
        refine Z_if_eq (tgt := 53) dX12_told_39 (by decide) (fun h39 => ?_) (fun h39 => ?_)
        · skip
          refine Z_iload_n dX12_told_53 rfl rfl ?_
          refine Z_bipush (v := 20) dX12_told_54 (by decide) ?_
          refine Z_bipush (v := 22) dX12_told_56 (by decide) ?_
          refine Z_S3z dX12_told_58 to_X12_in lk_X12_69 sc_X12_in (Nat.le_of_ble_eq_true rfl) ⟨rfl, rfl⟩ ⟨by decide, by decide⟩ ?_
          refine c_in ?_
          refine Z_if_eq (tgt := 79) dX12_told_61 (by decide) (fun h61 => ?_) (fun h61 => ?_)
          · skip
            refine Z_iload_n dX12_told_79 rfl rfl ?_
            refine Z_bipush (v := 30) dX12_told_80 (by decide) ?_
            refine Z_bipush (v := 32) dX12_told_82 (by decide) ?_
            refine Z_S3z dX12_told_84 to_X12_in lk_X12_69 sc_X12_in (Nat.le_of_ble_eq_true rfl) ⟨rfl, rfl⟩ ⟨by decide, by decide⟩ ?_
            refine c_in ?_
            refine Z_if_eq (tgt := 105) dX12_told_87 (by decide) (fun h87 => ?_) (fun h87 => ?_)
            · skip
              refine Z_iconst (v := -1) dX12_told_105 (by decide) ?_
              refine Z_iret dX12_told_106 rfl rfl ⟨by decide, by decide⟩ ?_
              unfold sp_told at h
              rw [if_neg (by assumption), if_neg (by assumption), if_neg (by assumption)] at h
              first
                | (rw [if_pos (dec_t h39), ej, nI_clamp (by omega)] at h; exact h)
                | (rw [if_neg (dec_f h39), if_pos (dec_t h61), ej, nI_clamp (by omega)] at h; exact h)
                | (rw [if_neg (dec_f h39), if_neg (dec_f h61), if_pos (dec_t h87), ej, nI_clamp (by omega)] at h; exact h)
                | (rw [if_neg (dec_f h39), if_neg (dec_f h61), if_neg (dec_f h87)] at h; exact h)
            · skip
              obtain ⟨j, hj, rfl⟩ := arg_off (a := 30) (n := 2) rfl rfl (by decide) (dec_t h87)
              have ej : nI (30 + j) - 30 = nI j := (pk_sub (a := 30 + j) (b := 30) (by omega)).trans (by rw [Nat.add_sub_cancel_left])
              refine Z_aload_n dX12_told_90 rfl rfl ?_
              refine Z_getR dX12_told_91 cl_12 fl_X12_9_12 rfl (mw_i34 hm) (mw_p34_1 hm) ?_
              refine Z_bipush (v := 6) dX12_told_94 (by decide) ?_
              refine Z_iload_n dX12_told_96 rfl rfl ?_
              refine Z_iadd dX12_told_97 ?_
              refine Z_bipush (v := 30) dX12_told_98 (by decide) ?_
              refine Z_isub dX12_told_100 ?_
              refine Z_ialdv dX12_told_101 (mw_i35 hm) (zix_e (m := 6 + j) (by rw [show (6 : Int32) = nI 6 from rfl, nI_add]; exact (pk_sub (a := 6 + (30 + j)) (b := 30) (by omega)).trans (congrArg nI (by omega))) (by omega) (by decide)) (hr.at (by omega) (by omega)) ?_
              refine Z_goto (tgt := 106) dX12_told_102 (by decide) ?_
              refine Z_iret dX12_told_106 rfl rfl ⟨by decide, by decide⟩ ?_
              unfold sp_told at h
              rw [if_neg (by assumption), if_neg (by assumption), if_neg (by assumption)] at h
              first
                | (rw [if_pos (dec_t h39), ej, nI_clamp (by omega)] at h; exact h)
                | (rw [if_neg (dec_f h39), if_pos (dec_t h61), ej, nI_clamp (by omega)] at h; exact h)
                | (rw [if_neg (dec_f h39), if_neg (dec_f h61), if_pos (dec_t h87), ej, nI_clamp (by omega)] at h; exact h)
                | (rw [if_neg (dec_f h39), if_neg (dec_f h61), if_neg (dec_f h87)] at h; exact h)
          · skip
            obtain ⟨j, hj, rfl⟩ := arg_off (a := 20) (n := 2) rfl rfl (by decide) (dec_t h61)
            have ej : nI (20 + j) - 20 = nI j := (pk_sub (a := 20 + j) (b := 20) (by omega)).trans (by rw [Nat.add_sub_cancel_left])
            refine Z_aload_n dX12_told_64 rfl rfl ?_
            refine Z_getR dX12_told_65 cl_12 fl_X12_9_12 rfl (mw_i34 hm) (mw_p34_1 hm) ?_
            refine Z_bipush (v := 9) dX12_told_68 (by decide) ?_
            refine Z_iload_n dX12_told_70 rfl rfl ?_
            refine Z_iadd dX12_told_71 ?_
            refine Z_bipush (v := 20) dX12_told_72 (by decide) ?_
            refine Z_isub dX12_told_74 ?_
            refine Z_ialdv dX12_told_75 (mw_i35 hm) (zix_e (m := 9 + j) (by rw [show (9 : Int32) = nI 9 from rfl, nI_add]; exact (pk_sub (a := 9 + (20 + j)) (b := 20) (by omega)).trans (congrArg nI (by omega))) (by omega) (by decide)) (hr.at (by omega) (by omega)) ?_
            refine Z_goto (tgt := 106) dX12_told_76 (by decide) ?_
            refine Z_iret dX12_told_106 rfl rfl ⟨by decide, by decide⟩ ?_
            unfold sp_told at h
            rw [if_neg (by assumption), if_neg (by assumption), if_neg (by assumption)] at h
            first
              | (rw [if_pos (dec_t h39), ej, nI_clamp (by omega)] at h; exact h)
              | (rw [if_neg (dec_f h39), if_pos (dec_t h61), ej, nI_clamp (by omega)] at h; exact h)
              | (rw [if_neg (dec_f h39), if_neg (dec_f h61), if_pos (dec_t h87), ej, nI_clamp (by omega)] at h; exact h)
              | (rw [if_neg (dec_f h39), if_neg (dec_f h61), if_neg (dec_f h87)] at h; exact h)
        · skip
          obtain ⟨j, hj, rfl⟩ := arg_off (a := 10) (n := 2) rfl rfl (by decide) (dec_t h39)
          have ej : nI (10 + j) - 10 = nI j := (pk_sub (a := 10 + j) (b := 10) (by omega)).trans (by rw [Nat.add_sub_cancel_left])
          refine Z_aload_n dX12_told_42 rfl rfl ?_
          refine Z_iload_n dX12_told_43 rfl rfl ?_
          refine Z_bipush (v := 10) dX12_told_44 (by decide) ?_
          refine Z_isub dX12_told_46 ?_
          refine Z_V1z (ci := 12) dX12_told_47 to_X12_pay lk_X12_161 iv_X12_pay ⟨rfl, rfl⟩ (mw_i34 hm) (Nat.le_of_ble_eq_true rfl) ⟨rfl, rfl⟩ ⟨by decide, by decide⟩ ?_
          rw [show nI (10 + j) - 10 = nI j from (pk_sub (a := 10 + j) (b := 10) (by omega)).trans (by rw [Nat.add_sub_cancel_left])]
          refine c_mpay (k := j) (by omega) hr ?_
          refine Z_goto (tgt := 106) dX12_told_50 (by decide) ?_
          refine Z_iret dX12_told_106 rfl rfl ⟨by decide, by decide⟩ ?_
          unfold sp_told at h
          rw [if_neg (by assumption), if_neg (by assumption), if_neg (by assumption)] at h
          first
            | (rw [if_pos (dec_t h39), ej, nI_clamp (by omega)] at h; exact h)
            | (rw [if_neg (dec_f h39), if_pos (dec_t h61), ej, nI_clamp (by omega)] at h; exact h)
            | (rw [if_neg (dec_f h39), if_neg (dec_f h61), if_pos (dec_t h87), ej, nI_clamp (by omega)] at h; exact h)
            | (rw [if_neg (dec_f h39), if_neg (dec_f h61), if_neg (dec_f h87)] at h; exact h)
      · skip
        refine Z_aload_n dX12_told_26 rfl rfl ?_
        refine Z_V0z (ci := 12) dX12_told_27 to_X12_rest lk_X12_158 iv_X12_rest ⟨rfl, rfl⟩ (mw_i34 hm) (Nat.le_of_ble_eq_true rfl) ⟨rfl, rfl⟩ ⟨by decide, by decide⟩ ?_
        refine c_rest hm ?_
        rw [k6, k7, k8, nI_add, nI_add]
        refine Z_iret dX12_told_30 rfl rfl ⟨by decide, by decide⟩ ?_
        unfold sp_told at h; rw [if_neg (by assumption), if_neg (by assumption), if_pos (by assumption)] at h; exact h
    · skip
      refine Z_aload_n dX12_told_14 rfl rfl ?_
      refine Z_getR dX12_told_15 cl_12 fl_X12_9_12 rfl (mw_i34 hm) (mw_p34_1 hm) ?_
      refine Z_iconst (v := 5) dX12_told_18 (by decide) ?_
      refine Z_ialdv dX12_told_19 (mw_i35 hm) (zix_k (m := 5) (by decide)) (hr.at (i := 5) (by omega) (by omega)) ?_
      refine Z_iret dX12_told_20 rfl rfl ⟨by decide, by decide⟩ ?_
      unfold sp_told at h; rw [if_neg (by assumption), if_pos (by assumption)] at h; exact h
  · skip
    refine Z_aload_n dX12_told_4 rfl rfl ?_
    refine Z_V0z (ci := 12) dX12_told_5 to_X12_coverTold lk_X12_155 iv_X12_coverTold ⟨rfl, rfl⟩ (mw_i34 hm) (Nat.le_of_ble_eq_true rfl) ⟨rfl, rfl⟩ ⟨by decide, by decide⟩ ?_
    refine c_coverTold hr ?_
    refine Z_iret dX12_told_8 rfl rfl ⟨by decide, by decide⟩ ?_
    rw [show sp_told A.1.1 x = nI (sp_cov A.1.1) from if_pos (by assumption)] at h; exact h
def zset3 (A : ZA) (w : Nat) : ZA := zset (zset (zset A (128 + 3 * w + 0) 3) (128 + 3 * w + 1) 3) (128 + 3 * w + 2) 3
def sp_worker (A : ZA) (k v : Int32) : Int32 × ZA := if 0 ≤ k ∧ k ≤ 6 then (if 0 ≤ v ∧ v ≤ 9 then (if A.1.1 0 = 8 then (-4, A) else (nI (A.1.1 0), zset (zset3 (zset (zset A (112 + A.1.1 0) k.toNatClampNeg) (120 + A.1.1 0) v.toNatClampNeg) (A.1.1 0)) 0 (A.1.1 0 + 1))) else (-2, A)) else (-1, A)
theorem nI3 (a b c t : Nat) : nI a + nI b * nI c + nI t = nI (a + b * c + t) := by rw [pk_mul, nI_add, nI_add]
theorem c_mworker {k v : Int32} (hr : MRel A α) (h : ∀ β, MRel (sp_worker A k v).2 β → frI mId α β → post (some (.int (sp_worker A k v).1)) β) : ZK G (d + 2) mX12_worker [.ref (G.1 + 34), .int k, .int v] α post := by
  have hm := hr.mw
  have v0 := hr.at (i := 0) (by omega) (by omega)
  have b0 : A.1.1 0 ≤ 8 := hr.2.1.at (by omega) rfl
  refine ZK.of (n := 2) (by decide) (Nat.le_of_ble_eq_true rfl) rfl ?_
  refine Z_iload_n dX12_worker_0 rfl rfl ?_
  refine Z_iconst (v := 0) dX12_worker_1 (by decide) ?_
  refine Z_bipush (v := 6) dX12_worker_2 (by decide) ?_
  refine Z_S3z dX12_worker_4 to_X12_in lk_X12_69 sc_X12_in (Nat.le_of_ble_eq_true rfl) ⟨rfl, rfl⟩ ⟨by decide, by decide⟩ ?_
  refine c_in ?_
  refine Z_if_ne (tgt := 12) dX12_worker_7 (by decide) (fun h7 => ?_) (fun h7 => ?_)
  · skip
    refine Z_iload_n dX12_worker_12 rfl rfl ?_
    refine Z_iconst (v := 0) dX12_worker_13 (by decide) ?_
    refine Z_bipush (v := 9) dX12_worker_14 (by decide) ?_
    refine Z_S3z dX12_worker_16 to_X12_in lk_X12_69 sc_X12_in (Nat.le_of_ble_eq_true rfl) ⟨rfl, rfl⟩ ⟨by decide, by decide⟩ ?_
    refine c_in ?_
    refine Z_if_ne (tgt := 25) dX12_worker_19 (by decide) (fun h19 => ?_) (fun h19 => ?_)
    · skip
      refine Z_aload_n dX12_worker_25 rfl rfl ?_
      refine Z_getR dX12_worker_26 cl_12 fl_X12_9_12 rfl (mw_i34 hm) (mw_p34_1 hm) ?_
      refine Z_iconst (v := 0) dX12_worker_29 (by decide) ?_
      refine Z_ialdv dX12_worker_30 (mw_i35 hm) (zix_k (m := 0) (by decide)) v0 ?_
      refine Z_bipush (v := 8) dX12_worker_31 (by decide) ?_
      refine Z_icmp_ne (tgt := 39) dX12_worker_33 (by decide) (fun h33 => ?_) (fun h33 => ?_)
      · skip
        have g0 : ¬ A.1.1 0 = 8 := fun z => h33 (by rw [z]; rfl)
        obtain ⟨q, hq, rfl⟩ := arg_nI (n := 6) rfl rfl (dec_t h7)
        obtain ⟨z, hz, rfl⟩ := arg_nI (n := 9) rfl rfl (dec_t h19)
        refine Z_aload_n dX12_worker_39 rfl rfl ?_
        refine Z_getR dX12_worker_40 cl_12 fl_X12_9_12 rfl (mw_i34 hm) (mw_p34_1 hm) ?_
        refine Z_iconst (v := 0) dX12_worker_43 (by decide) ?_
        refine Z_ialdv dX12_worker_44 (mw_i35 hm) (zix_k (m := 0) (by decide)) v0 ?_
        refine Z_istore_n (L' := [_, _, _, _, _]) dX12_worker_45 rfl (by decide) rfl rfl ?_
        refine Z_aload_n dX12_worker_46 rfl rfl ?_
        refine Z_getR dX12_worker_47 cl_12 fl_X12_9_12 rfl (mw_i34 hm) (mw_p34_1 hm) ?_
        refine Z_bipush (v := 112) dX12_worker_50 (by decide) ?_
        refine Z_iload_n dX12_worker_52 rfl rfl ?_
        refine Z_iadd dX12_worker_53 ?_
        refine Z_iload_n dX12_worker_54 rfl rfl ?_
        refine Z_iast dX12_worker_55 (mw_i35 hm) (zix_e (m := 112 + A.1.1 0) (nI_add 112 _) (by omega) (by decide)) ?_
        refine Z_aload_n dX12_worker_56 rfl rfl ?_
        refine Z_getR dX12_worker_57 cl_12 fl_X12_9_12 rfl (mw_i34 hm) (mw_p34_1 hm) ?_
        refine Z_bipush (v := 120) dX12_worker_60 (by decide) ?_
        refine Z_iload_n dX12_worker_62 rfl rfl ?_
        refine Z_iadd dX12_worker_63 ?_
        refine Z_iload_n dX12_worker_64 rfl rfl ?_
        refine Z_iast dX12_worker_65 (mw_i35 hm) (zix_e (m := 120 + A.1.1 0) (nI_add 120 _) (by omega) (by decide)) ?_
        refine Z_iconst (v := 0) dX12_worker_66 (by decide) ?_
        refine Z_istore (L' := [_, _, _, _, _]) dX12_worker_67 (by decide) rfl rfl ?_
        refine Z_iload dX12_worker_69 rfl ?_
        refine Z_iconst (v := 3) dX12_worker_71 (by decide) ?_
        refine Z_icmp_ge (tgt := 97) dX12_worker_72 (by decide) (fun h => absurd h (by decide)) (fun _ => ?_)
        refine Z_aload_n dX12_worker_75 rfl rfl ?_
        refine Z_getR dX12_worker_76 cl_12 fl_X12_9_12 rfl (mw_i34 hm) (mw_p34_1 hm) ?_
        refine Z_sipush (v := 128) dX12_worker_79 (by decide) ?_
        refine Z_iconst (v := 3) dX12_worker_82 (by decide) ?_
        refine Z_iload_n dX12_worker_83 rfl rfl ?_
        refine Z_imul dX12_worker_84 ?_
        refine Z_iadd dX12_worker_85 ?_
        refine Z_iload dX12_worker_86 rfl ?_
        refine Z_iadd dX12_worker_88 ?_
        refine Z_iconst (v := 3) dX12_worker_89 (by decide) ?_
        refine Z_iast dX12_worker_90 (mw_i35 hm) (by first | exact zix_e (m := 128 + 3 * A.1.1 0 + 0) (nI3 128 3 _ 0) (by omega) (by decide) | exact zix_e (m := 128 + 3 * A.1.1 0 + 1) (nI3 128 3 _ 1) (by omega) (by decide) | exact zix_e (m := 128 + 3 * A.1.1 0 + 2) (nI3 128 3 _ 2) (by omega) (by decide)) ?_
        refine Z_iinc (L' := [_, _, _, _, _]) dX12_worker_91 rfl (by rfl : _ + Int32.ofInt 1 = _ + 1) (by decide) rfl rfl ?_
        refine Z_goto (tgt := 69) dX12_worker_94 (by decide) ?_
        refine Z_iload dX12_worker_69 rfl ?_
        refine Z_iconst (v := 3) dX12_worker_71 (by decide) ?_
        refine Z_icmp_ge (tgt := 97) dX12_worker_72 (by decide) (fun h => absurd h (by decide)) (fun _ => ?_)
        refine Z_aload_n dX12_worker_75 rfl rfl ?_
        refine Z_getR dX12_worker_76 cl_12 fl_X12_9_12 rfl (mw_i34 hm) (mw_p34_1 hm) ?_
        refine Z_sipush (v := 128) dX12_worker_79 (by decide) ?_
        refine Z_iconst (v := 3) dX12_worker_82 (by decide) ?_
        refine Z_iload_n dX12_worker_83 rfl rfl ?_
        refine Z_imul dX12_worker_84 ?_
        refine Z_iadd dX12_worker_85 ?_
        refine Z_iload dX12_worker_86 rfl ?_
        refine Z_iadd dX12_worker_88 ?_
        refine Z_iconst (v := 3) dX12_worker_89 (by decide) ?_
        refine Z_iast dX12_worker_90 (mw_i35 hm) (by first | exact zix_e (m := 128 + 3 * A.1.1 0 + 0) (nI3 128 3 _ 0) (by omega) (by decide) | exact zix_e (m := 128 + 3 * A.1.1 0 + 1) (nI3 128 3 _ 1) (by omega) (by decide) | exact zix_e (m := 128 + 3 * A.1.1 0 + 2) (nI3 128 3 _ 2) (by omega) (by decide)) ?_
        refine Z_iinc (L' := [_, _, _, _, _]) dX12_worker_91 rfl (by rfl : _ + Int32.ofInt 1 = _ + 1) (by decide) rfl rfl ?_
        refine Z_goto (tgt := 69) dX12_worker_94 (by decide) ?_
        refine Z_iload dX12_worker_69 rfl ?_
        refine Z_iconst (v := 3) dX12_worker_71 (by decide) ?_
        refine Z_icmp_ge (tgt := 97) dX12_worker_72 (by decide) (fun h => absurd h (by decide)) (fun _ => ?_)
        refine Z_aload_n dX12_worker_75 rfl rfl ?_
        refine Z_getR dX12_worker_76 cl_12 fl_X12_9_12 rfl (mw_i34 hm) (mw_p34_1 hm) ?_
        refine Z_sipush (v := 128) dX12_worker_79 (by decide) ?_
        refine Z_iconst (v := 3) dX12_worker_82 (by decide) ?_
        refine Z_iload_n dX12_worker_83 rfl rfl ?_
        refine Z_imul dX12_worker_84 ?_
        refine Z_iadd dX12_worker_85 ?_
        refine Z_iload dX12_worker_86 rfl ?_
        refine Z_iadd dX12_worker_88 ?_
        refine Z_iconst (v := 3) dX12_worker_89 (by decide) ?_
        refine Z_iast dX12_worker_90 (mw_i35 hm) (by first | exact zix_e (m := 128 + 3 * A.1.1 0 + 0) (nI3 128 3 _ 0) (by omega) (by decide) | exact zix_e (m := 128 + 3 * A.1.1 0 + 1) (nI3 128 3 _ 1) (by omega) (by decide) | exact zix_e (m := 128 + 3 * A.1.1 0 + 2) (nI3 128 3 _ 2) (by omega) (by decide)) ?_
        refine Z_iinc (L' := [_, _, _, _, _]) dX12_worker_91 rfl (by rfl : _ + Int32.ofInt 1 = _ + 1) (by decide) rfl rfl ?_
        refine Z_goto (tgt := 69) dX12_worker_94 (by decide) ?_
        refine Z_iload dX12_worker_69 rfl ?_
        refine Z_iconst (v := 3) dX12_worker_71 (by decide) ?_
        refine Z_icmp_ge (tgt := 97) dX12_worker_72 (by decide) (fun _ => ?_) (fun h => absurd h (by decide))
        have r1 := hr.set (i := 112 + A.1.1 0) (n := q) (by omega) (by omega) (by omega) (hr.2.1.set (by rw [zbd_kind (by omega)]; exact hq) (by omega) (by omega))
        have r2 := r1.set (i := 120 + A.1.1 0) (n := z) (by omega) (by omega) (by omega) (r1.2.1.set (by rw [zbd_v (by omega)]; exact hz) (by omega) (by omega))
        have r3 := r2.set (i := 128 + 3 * A.1.1 0 + 0) (n := 3) (by omega) (by omega) (by omega) (r2.2.1.set (by rw [Nat.add_assoc, zbd_row (by omega)]; decide) (by omega) (by omega))
        have r4 := r3.set (i := 128 + 3 * A.1.1 0 + 1) (n := 3) (by omega) (by omega) (by omega) (r3.2.1.set (by rw [Nat.add_assoc, zbd_row (by omega)]; decide) (by omega) (by omega))
        have r5 := r4.set (i := 128 + 3 * A.1.1 0 + 2) (n := 3) (by omega) (by omega) (by omega) (r4.2.1.set (by rw [Nat.add_assoc, zbd_row (by omega)]; decide) (by omega) (by omega))
        have e0 := r5.at (i := 0) (by omega) (by omega)
        have ez : (zset (zset (zset (zset (zset A (112 + A.1.1 0) q) (120 + A.1.1 0) z) (128 + 3 * A.1.1 0 + 0) 3) (128 + 3 * A.1.1 0 + 1) 3) (128 + 3 * A.1.1 0 + 2) 3).1.1 0 = A.1.1 0 := by
          show u1 (u1 (u1 (u1 (u1 A.1.1 (112 + A.1.1 0) q) (120 + A.1.1 0) z) (128 + 3 * A.1.1 0 + 0) 3) (128 + 3 * A.1.1 0 + 1) 3) (128 + 3 * A.1.1 0 + 2) 3 0 = A.1.1 0
          rw [u1_n (by omega), u1_n (by omega), u1_n (by omega), u1_n (by omega), u1_n (by omega)]
        rw [ez] at e0
        refine Z_aload_n dX12_worker_97 rfl rfl ?_
        refine Z_getR dX12_worker_98 cl_12 fl_X12_9_12 rfl (mw_i34 hm) (mw_p34_1 hm) ?_
        refine Z_iconst (v := 0) dX12_worker_101 (by decide) ?_
        refine Z_dup2 dX12_worker_102 rfl rfl ?_
        refine Z_ialdv dX12_worker_103 (mw_i35 hm) (zix_k (m := 0) (by decide)) e0 ?_
        refine Z_iconst (v := 1) dX12_worker_104 (by decide) ?_
        refine Z_iadd dX12_worker_105 ?_
        refine Z_iast dX12_worker_106 (mw_i35 hm) (zix_k (m := 0) (by decide)) ?_
        refine Z_iload_n dX12_worker_107 rfl rfl ?_
        refine Z_iret dX12_worker_108 rfl rfl ⟨by decide, by decide⟩ ?_
        have e : sp_worker A (nI q) (nI z) = (nI (A.1.1 0), zset (zset3 (zset (zset A (112 + A.1.1 0) q) (120 + A.1.1 0) z) (A.1.1 0)) 0 (A.1.1 0 + 1)) := by
          unfold sp_worker
          rw [if_pos (dec_t h7), if_pos (dec_t h19), if_neg g0, nI_clamp (by omega), nI_clamp (by omega)]
        rw [e] at h
        rw [nI_1]
        exact h _ (r5.set (by omega) (by omega) (by omega) (r5.2.1.set (show A.1.1 0 + 1 ≤ 8 by omega) (by omega) (by omega))) ((((((frI.sI mid35).tr (frI.sI mid35)).tr (frI.sI mid35)).tr (frI.sI mid35)).tr (frI.sI mid35)).tr (frI.sI mid35))
      · skip
        refine Z_bipush (v := -4) dX12_worker_36 (by decide) ?_
        refine Z_iret dX12_worker_38 rfl rfl ⟨by decide, by decide⟩ ?_
        have e : sp_worker A k v = (-4, A) := (if_pos (dec_t h7)).trans ((if_pos (dec_t h19)).trans (if_pos ((nI_eq (a := A.1.1 0) (b := 8) (by omega) (by omega)).mp h33)))
        rw [e] at h; exact h α hr frI.rf
    · skip
      refine Z_bipush (v := -2) dX12_worker_22 (by decide) ?_
      refine Z_iret dX12_worker_24 rfl rfl ⟨by decide, by decide⟩ ?_
      have e : sp_worker A k v = (-2, A) := (if_pos (dec_t h7)).trans (if_neg (dec_f h19))
      rw [e] at h; exact h α hr frI.rf
  · skip
    refine Z_iconst (v := -1) dX12_worker_10 (by decide) ?_
    refine Z_iret dX12_worker_11 rfl rfl ⟨by decide, by decide⟩ ?_
    have e : sp_worker A k v = (-1, A) := if_neg (dec_f h7)
    rw [e] at h; exact h α hr frI.rf
end MQ1
