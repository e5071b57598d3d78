section CT1
variable {G : ZG} {d : Nat} {α : AH} {post : Option Value → AH → Prop}
theorem zb_byte : ∀ c : Nat, c < 128 → (nI c).toInt8.toInt32 = nI c := by decide
/-- where a sign stands in a text, or -1 -/
def zixx (l : List Nat) (x : Nat) : Int32 := if l.idxOf x < l.length then nI (l.idxOf x) else -1
theorem c_canEnc {x : Nat} (hx : x < 128) (h : post (some (.int 1)) α) : ZK G (d + 1) mJ1_canEncode_9a6ad [.int (nI x)] α post := by
  refine ZK.of (n := 0) (by decide) (Nat.le_of_ble_eq_true rfl) rfl ?_
  refine Z_iload_n dJ1_canEncode_9a6ad_0 rfl rfl ?_
  refine Z_if_lt (tgt := 15) dJ1_canEncode_9a6ad_1 (by decide) (fun h1 => ?_) (fun h1 => ?_)
  · skip
    exact absurd h1 (by rw [Int32.lt_iff_toInt_lt, nI_toInt (by omega)]; exact Int.not_lt.mpr (Int.natCast_nonneg x))
  · skip
    refine Z_iload_n dJ1_canEncode_9a6ad_4 rfl rfl ?_
    refine Z_sipush (v := 255) dJ1_canEncode_9a6ad_5 (by decide) ?_
    refine Z_icmp_gt (tgt := 15) dJ1_canEncode_9a6ad_8 (by decide) (fun h8 => ?_) (fun h8 => ?_)
    · skip
      exact absurd h8 (by rw [Int32.lt_iff_toInt_lt, nI_toInt (by omega)]; have : (255 : Int32).toInt = 255 := rfl; omega)
    · skip
      refine Z_iconst (v := 1) dJ1_canEncode_9a6ad_11 (by decide) ?_
      refine Z_goto (tgt := 16) dJ1_canEncode_9a6ad_12 (by decide) ?_
      refine Z_iret dJ1_canEncode_9a6ad_16 rfl rfl ⟨by decide, by decide⟩ ?_
      exact h
theorem c_idxChar {i x : Nat} (hi : i < 12) (hx : x < 128) (h : post (some (.int (zixx (zCh i) x))) α) : ZK G (d + 1) mJ1_indexOfChar_4cfef [.ref (G.2 (30 + i)), .int (nI x), .int 0, .int (nI (zCh i).length)] α post := by
  have hl := zCh_len i hi
  have h10 := zCh_l10 i hi
  have lp : ∀ (n k : Nat), k + n = (zCh i).length → (∀ j, j < k → ¬ (zCh i).getD j 0 = x) → Z G mJ1_indexOfChar_4cfef (d + 1) 7 [some (.ref (G.2 (30 + i))), some (.int (nI x)), some (.int 0), some (.int (nI (zCh i).length)), some (.int (nI x)), some (.int (nI k))] [] α (0, 0) post := by
    intro n
    induction n with
    | zero =>
      intro k hk hn
      have hk : k = (zCh i).length := by omega
      have e : zixx (zCh i) x = -1 := by
        unfold zixx
        rw [if_neg (by rw [idx_none _ (fun j hj => hn j (by omega))]; omega)]
      rw [e] at h
      refine Z_iload dJ1_indexOfChar_4cfef_7 rfl ?_
      refine Z_iload_n dJ1_indexOfChar_4cfef_9 rfl rfl ?_
      refine Z_icmp_ge (tgt := 31) dJ1_indexOfChar_4cfef_10 (by decide) (fun h10 => ?_) (fun h10 => ?_)
      · skip
        refine Z_iconst (v := -1) dJ1_indexOfChar_4cfef_31 (by decide) ?_
        refine Z_iret dJ1_indexOfChar_4cfef_32 rfl rfl ⟨by decide, by decide⟩ ?_
        exact h
      · skip
        exact absurd (by rw [hk]; exact Int32.le_refl _) h10
    | succ n ih =>
      intro k hk hn
      have hk1 : k < (zCh i).length := by omega
      have hc := zCh_le i hi k hk1
      refine Z_iload dJ1_indexOfChar_4cfef_7 rfl ?_
      refine Z_iload_n dJ1_indexOfChar_4cfef_9 rfl rfl ?_
      refine Z_icmp_ge (tgt := 31) dJ1_indexOfChar_4cfef_10 (by decide) (fun h10 => ?_) (fun h10 => ?_)
      · skip
        exact absurd h10 (nI_ge hk1 (by omega))
      · skip
        refine Z_aload_n dJ1_indexOfChar_4cfef_13 rfl rfl ?_
        refine Z_iload dJ1_indexOfChar_4cfef_14 rfl ?_
        refine Z_sbl dJ1_indexOfChar_4cfef_16 hi (zix_nI (m := k) (by omega) (by omega)) ?_
        rw [zCh_at i hi k hk1]
        refine Z_iload dJ1_indexOfChar_4cfef_17 rfl ?_
        refine Z_icmp_ne (tgt := 25) dJ1_indexOfChar_4cfef_19 (by decide) (fun h19 => ?_) (fun h19 => ?_)
        · skip
          refine Z_iinc (L' := [_, _, _, _, _, _]) dJ1_indexOfChar_4cfef_25 rfl (by rfl : _ + Int32.ofInt 1 = _ + 1) (by decide) rfl rfl ?_
          refine Z_goto (tgt := 7) dJ1_indexOfChar_4cfef_28 (by decide) ?_
          rw [nI_1]
          exact ih (k + 1) (by omega) (fun j hj => by
            by_cases e : j = k
            · rw [e]; exact fun z => h19 (congrArg nI z)
            · exact hn j (by omega))
        · skip
          refine Z_iload dJ1_indexOfChar_4cfef_22 rfl ?_
          refine Z_iret dJ1_indexOfChar_4cfef_24 rfl rfl ⟨by decide, by decide⟩ ?_
          have e : (zCh i).idxOf x = k := idx_first _ k hn hk1 ((nI_eq (by omega) (by omega)).mp h19)
          have e2 : zixx (zCh i) x = nI k := by
            unfold zixx
            rw [e, if_pos hk1]
          rw [e2] at h
          exact h
  refine ZK.of (n := 2) (by decide) (Nat.le_of_ble_eq_true rfl) rfl ?_
  refine Z_iload_n dJ1_indexOfChar_4cfef_0 rfl rfl ?_
  refine Z_i2b dJ1_indexOfChar_4cfef_1 (zb_byte x hx) ?_
  refine Z_istore (L' := [_, _, _, _, _, _]) dJ1_indexOfChar_4cfef_2 (by decide) rfl rfl ?_
  refine Z_iload_n dJ1_indexOfChar_4cfef_4 rfl rfl ?_
  refine Z_istore (L' := [_, _, _, _, _, _]) dJ1_indexOfChar_4cfef_5 (by decide) rfl rfl ?_
  exact lp _ 0 (Nat.zero_add _) (fun j hj => absurd hj (Nat.not_lt_zero j))
theorem c_j1idx {i x : Nat} (hi : i < 12) (hx : x < 128) (h : post (some (.int (zixx (zCh i) x))) α) : ZK G (d + 3) mJ1_indexOf_4cfef [.ref (G.2 (30 + i)), .int (nI x), .int 0, .int (nI (zCh i).length)] α post := by
  have hl := zCh_len i hi
  have h10 := zCh_l10 i hi
  have h0 : 0 < (zCh i).length := by
    have : ∀ i, i < 12 → 0 < (zCh i).length := by decide
    exact this i hi
  refine ZK.of (n := 0) (by decide) (Nat.le_of_ble_eq_true rfl) rfl ?_
  refine Z_iload_n dJ1_indexOf_4cfef_0 rfl rfl ?_
  refine Z_S1z dJ1_indexOf_4cfef_1 to_J1_canEncode_9a6ad lk_J1_88 sc_J1_canEncode_9a6ad (Nat.le_of_ble_eq_true rfl) ⟨rfl, rfl⟩ ⟨by decide, by decide⟩ ?_
  refine c_canEnc hx ?_
  refine Z_if_ne (tgt := 9) dJ1_indexOf_4cfef_4 (by decide) (fun h4 => ?_) (fun h4 => ?_)
  · skip
    refine Z_iload_n dJ1_indexOf_4cfef_9 rfl rfl ?_
    refine Z_iconst (v := 0) dJ1_indexOf_4cfef_10 (by decide) ?_
    refine Z_mmax dJ1_indexOf_4cfef_11 wd_327 mw_max.1 mw_max.2.1 mw_max.2.2 (Nat.le_of_ble_eq_true rfl) ⟨by decide, by decide⟩ ?_
    rw [if_neg (show ¬ ((0 : Int32) < 0) by decide)]
    refine Z_istore_n (L' := [_, _, _, _]) dJ1_indexOf_4cfef_14 rfl (by decide) rfl rfl ?_
    refine Z_iload_n dJ1_indexOf_4cfef_15 rfl rfl ?_
    refine Z_aload_n dJ1_indexOf_4cfef_16 rfl rfl ?_
    refine Z_slen dJ1_indexOf_4cfef_17 hi ?_
    refine Z_mmin dJ1_indexOf_4cfef_18 wd_330 mw_min.1 mw_min.2.1 mw_min.2.2 (Nat.le_of_ble_eq_true rfl) ⟨by decide, by decide⟩ ?_
    rw [hl, if_neg (show ¬ (nI (zCh i).length < nI (zCh i).length) from fun z => Int32.lt_irrefl z)]
    refine Z_istore_n (L' := [_, _, _, _]) dJ1_indexOf_4cfef_21 rfl (by decide) rfl rfl ?_
    refine Z_iload_n dJ1_indexOf_4cfef_22 rfl rfl ?_
    refine Z_iload_n dJ1_indexOf_4cfef_23 rfl rfl ?_
    refine Z_icmp_lt (tgt := 29) dJ1_indexOf_4cfef_24 (by decide) (fun h24 => ?_) (fun h24 => ?_)
    · skip
      refine Z_aload_n dJ1_indexOf_4cfef_29 rfl rfl ?_
      refine Z_iload_n dJ1_indexOf_4cfef_30 rfl rfl ?_
      refine Z_iload_n dJ1_indexOf_4cfef_31 rfl rfl ?_
      refine Z_iload_n dJ1_indexOf_4cfef_32 rfl rfl ?_
      refine Z_S4z dJ1_indexOf_4cfef_33 to_J1_indexOfChar_4cfef lk_J1_95 sc_J1_indexOfChar_4cfef (Nat.le_of_ble_eq_true rfl) ⟨rfl, rfl⟩ ⟨by decide, by decide⟩ ?_
      refine c_idxChar hi hx ?_
      refine Z_iret dJ1_indexOf_4cfef_36 rfl rfl ⟨by decide, by decide⟩ ?_
      exact h
    · skip
      exact absurd (show nI 0 < nI (zCh i).length from nI_lt h0 (by omega)) h24
  · skip
    exact absurd h4 (by decide)
theorem c_sidx3 {i x : Nat} (hi : i < 12) (hx : x < 128) (h : post (some (.int (zixx (zCh i) x))) α) : ZK G (d + 4) mJ0_indexOf_7cf53 [.ref (G.2 (10 + i)), .int (nI x), .int 0] α post := by
  have hl := zCh_len i hi
  refine ZK.of (n := 0) (by decide) (Nat.le_of_ble_eq_true rfl) rfl ?_
  refine Z_aload_n dJ0_indexOf_7cf53_0 rfl rfl ?_
  refine Z_W0z dJ0_indexOf_7cf53_1 to_J0_isLatin1_aae02 lk_J0_492 iv_J0_isLatin1_aae02 rfl hi (Nat.le_of_ble_eq_true rfl) ⟨rfl, rfl⟩ ⟨by decide, by decide⟩ ?_
  refine c_slatin hi ?_
  refine Z_if_eq (tgt := 23) dJ0_indexOf_7cf53_4 (by decide) (fun h4 => ?_) (fun h4 => ?_)
  · skip
    exact absurd h4 (by decide)
  · skip
    refine Z_aload_n dJ0_indexOf_7cf53_7 rfl rfl ?_
    refine Z_sval dJ0_indexOf_7cf53_8 hi rfl ?_
    refine Z_iload_n dJ0_indexOf_7cf53_11 rfl rfl ?_
    refine Z_iload_n dJ0_indexOf_7cf53_12 rfl rfl ?_
    refine Z_aload_n dJ0_indexOf_7cf53_13 rfl rfl ?_
    refine Z_W0z dJ0_indexOf_7cf53_14 to_J0_length_8abf5 lk_J0_505 iv_J0_length_8abf5 rfl hi (Nat.le_of_ble_eq_true rfl) ⟨rfl, rfl⟩ ⟨by decide, by decide⟩ ?_
    refine c_slength hi ?_
    rw [hl]
    refine Z_S4z dJ0_indexOf_7cf53_17 to_J1_indexOf_4cfef lk_J0_637 sc_J1_indexOf_4cfef (Nat.le_of_ble_eq_true rfl) ⟨rfl, rfl⟩ ⟨by decide, by decide⟩ ?_
    refine c_j1idx hi hx ?_
    refine Z_goto (tgt := 36) dJ0_indexOf_7cf53_20 (by decide) ?_
    refine Z_iret dJ0_indexOf_7cf53_36 rfl rfl ⟨by decide, by decide⟩ ?_
    exact h
theorem c_sidx {i x : Nat} (hi : i < 12) (hx : x < 128) (h : post (some (.int (zixx (zCh i) x))) α) : ZK G (d + 5) mJ0_indexOf_0f7a4 [.ref (G.2 (10 + i)), .int (nI x)] α post := by
  refine ZK.of (n := 0) (by decide) (Nat.le_of_ble_eq_true rfl) rfl ?_
  refine Z_aload_n dJ0_indexOf_0f7a4_0 rfl rfl ?_
  refine Z_iload_n dJ0_indexOf_0f7a4_1 rfl rfl ?_
  refine Z_iconst (v := 0) dJ0_indexOf_0f7a4_2 (by decide) ?_
  refine Z_W2z dJ0_indexOf_0f7a4_3 to_J0_indexOf_7cf53 lk_J0_633 iv_J0_indexOf_7cf53 rfl hi (Nat.le_of_ble_eq_true rfl) ⟨rfl, rfl⟩ ⟨by decide, by decide⟩ ?_
  refine c_sidx3 hi hx ?_
  refine Z_iret dJ0_indexOf_0f7a4_6 rfl rfl ⟨by decide, by decide⟩ ?_
  exact h
end CT1
