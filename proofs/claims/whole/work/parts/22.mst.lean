section MS1
variable {G : ZG} {d : Nat} {α β : AH} {post : Option Value → AH → Prop} {A : ZA}
/-- a state as one number q below 5832: 27 times (36 a + 6 b + c), and 9 g0 + 3 g1 + g2 -/
def zl (q s : Nat) : Nat := if s = 0 then q / 27 / 36 else if s = 1 then q / 27 / 6 % 6 else q / 27 % 6
def zg (q k : Nat) : Nat := if k = 0 then q % 27 / 9 else if k = 1 then q % 27 / 3 % 3 else q % 27 % 3
def zla (q : Nat) : Nat := zl q 0 + zl q 1 + zl q 2
def zds (s : Nat) : Nat := if s = 0 then 972 else if s = 1 then 162 else 27
def zd (q s : Nat) : Nat := q - zds s
def zdk (k : Nat) : Nat := if k = 0 then 9 else if k = 1 then 3 else 1
def zdo (q k : Nat) : Nat := q + zdk k
theorem zl_le {q s : Nat} (h : q < 5832) : zl q s ≤ 5 := by
  unfold zl; split
  · omega
  · split <;> omega
theorem zg_le {q k : Nat} : zg q k ≤ 2 := by
  unfold zg; split
  · omega
  · split <;> omega
theorem zla_le {q : Nat} (h : q < 5832) : zla q ≤ 15 := by
  have h0 := zl_le (s := 0) h
  have h1 := zl_le (s := 1) h
  have h2 := zl_le (s := 2) h
  unfold zla; omega
theorem s3 {s : Nat} (h : s < 3) : s = 0 ∨ s = 1 ∨ s = 2 := by omega
theorem zd_ok {q s : Nat} (hq : q < 5832) (hs : s < 3) (hp : 0 < zl q s) : zds s ≤ q ∧ zd q s < 5832 ∧ zla (zd q s) + 1 = zla q ∧ (∀ j, j < 3 → zl (zd q s) j = if j = s then zl q s - 1 else zl q j) ∧ ∀ k, zg (zd q s) k = zg q k := by
  rcases s3 hs with rfl | rfl | rfl
  · simp only [zl, if_pos] at hp
    refine ⟨by simp only [zds, if_pos]; omega, by simp only [zd, zds, if_pos]; omega, ?_, ?_, ?_⟩
    · simp [zla, zl, zd, zds]; omega
    · intro j hj
      rcases s3 hj with rfl | rfl | rfl <;> simp [zl, zd, zds] <;> omega
    · intro k
      unfold zg zd zds
      simp
      split
      · omega
      · split <;> omega
  · simp [zl] at hp
    refine ⟨by simp [zds]; omega, by simp [zd, zds]; omega, ?_, ?_, ?_⟩
    · simp [zla, zl, zd, zds]; omega
    · intro j hj
      rcases s3 hj with rfl | rfl | rfl <;> simp [zl, zd, zds] <;> omega
    · intro k
      unfold zg zd zds
      simp
      split
      · omega
      · split <;> omega
  · simp [zl] at hp
    refine ⟨by simp [zds]; omega, by simp [zd, zds]; omega, ?_, ?_, ?_⟩
    · simp [zla, zl, zd, zds]; omega
    · intro j hj
      rcases s3 hj with rfl | rfl | rfl <;> simp [zl, zd, zds] <;> omega
    · intro k
      unfold zg zd zds
      simp
      split
      · omega
      · split <;> omega
theorem zdo_ok {q k : Nat} (hq : q < 5832) (hk : k < 3) (hp : zg q k < 2) : zdo q k < 5832 ∧ (∀ j, zl (zdo q k) j = zl q j) ∧ ∀ j, j < 3 → zg (zdo q k) j = if j = k then zg q k + 1 else zg q j := by
  rcases s3 hk with rfl | rfl | rfl
  · simp [zg] at hp
    refine ⟨by simp [zdo, zdk]; omega, fun j => ?_, fun j hj => ?_⟩
    · unfold zl zdo zdk; simp
      split
      · omega
      · split <;> omega
    · rcases s3 hj with rfl | rfl | rfl <;> simp [zg, zdo, zdk] <;> omega
  · simp [zg] at hp
    refine ⟨by simp [zdo, zdk]; omega, fun j => ?_, fun j hj => ?_⟩
    · unfold zl zdo zdk; simp
      split
      · omega
      · split <;> omega
    · rcases s3 hj with rfl | rfl | rfl <;> simp [zg, zdo, zdk] <;> omega
  · simp [zg] at hp
    refine ⟨by simp [zdo, zdk]; omega, fun j => ?_, fun j hj => ?_⟩
    · unfold zl zdo zdk; simp
      split
      · omega
      · split <;> omega
    · rcases s3 hj with rfl | rfl | rfl <;> simp [zg, zdo, zdk] <;> omega
theorem zdo_la {q k : Nat} (hq : q < 5832) (hk : k < 3) (hp : zg q k < 2) : zla (zdo q k) = zla q := by
  have := (zdo_ok hq hk hp).2.1
  unfold zla; rw [this, this, this]
theorem nI_div {a b : Nat} (ha : a < 2 ^ 31) (h0 : 0 < b) (hb : b < 2 ^ 31) : nI a / nI b = nI (a / b) := pk_div ha h0 hb
set_option maxRecDepth 20000 in
theorem c_left {q s : Nat} (hq : q < 5832) (hs : s < 3) (h : post (some (.int (nI (zl q s)))) α) : ZK G (d + 1) mX12_left [.int (nI q), .int (nI s)] α post := by
  have e27 : nI q / 27 = nI (q / 27) := nI_div (b := 27) (by omega) (by omega) (by omega)
  have e36 : nI (q / 27) / 36 = nI (q / 27 / 36) := nI_div (b := 36) (by omega) (by omega) (by omega)
  have e6 : nI (q / 27) / 6 = nI (q / 27 / 6) := nI_div (b := 6) (by omega) (by omega) (by omega)
  have m6 : nI (q / 27 / 6) - nI (q / 27 / 6) / 6 * 6 = nI (q / 27 / 6 % 6) := pk_rem (d := 6) (by omega) (by omega) (by omega)
  have n6 : nI (q / 27) - nI (q / 27) / 6 * 6 = nI (q / 27 % 6) := pk_rem (d := 6) (by omega) (by omega) (by omega)
  refine ZK.of (n := 1) (by decide) (Nat.le_of_ble_eq_true rfl) rfl ?_
  rcases s3 hs with rfl | rfl | rfl
  · skip
    refine Z_iload_n dX12_left_0 rfl rfl ?_
    refine Z_bipush (v := 27) dX12_left_1 (by decide) ?_
    refine Z_idiv dX12_left_3 (by decide) ?_
    rw [e27]
    refine Z_istore_n (L' := [_, _, _]) dX12_left_4 rfl (by decide) rfl rfl ?_
    refine Z_iload_n dX12_left_5 rfl rfl ?_
    refine Z_if_ne (tgt := 16) dX12_left_6 (by decide) (fun h6 => ?_) (fun h6 => ?_)
    · skip
      exact absurd rfl h6
    · skip
      refine Z_iload_n dX12_left_9 rfl rfl ?_
      refine Z_bipush (v := 36) dX12_left_10 (by decide) ?_
      refine Z_idiv dX12_left_12 (by decide) ?_
      rw [e36]
      refine Z_goto (tgt := 35) dX12_left_13 (by decide) ?_
      refine Z_iret dX12_left_35 rfl rfl ⟨by decide, by decide⟩ ?_
      exact h
  · skip
    refine Z_iload_n dX12_left_0 rfl rfl ?_
    refine Z_bipush (v := 27) dX12_left_1 (by decide) ?_
    refine Z_idiv dX12_left_3 (by decide) ?_
    rw [e27]
    refine Z_istore_n (L' := [_, _, _]) dX12_left_4 rfl (by decide) rfl rfl ?_
    refine Z_iload_n dX12_left_5 rfl rfl ?_
    refine Z_if_ne (tgt := 16) dX12_left_6 (by decide) (fun h6 => ?_) (fun h6 => ?_)
    · skip
      refine Z_iload_n dX12_left_16 rfl rfl ?_
      refine Z_iconst (v := 1) dX12_left_17 (by decide) ?_
      refine Z_icmp_ne (tgt := 31) dX12_left_18 (by decide) (fun h18 => ?_) (fun h18 => ?_)
      · skip
        exact absurd rfl h18
      · skip
        refine Z_iload_n dX12_left_21 rfl rfl ?_
        refine Z_bipush (v := 6) dX12_left_22 (by decide) ?_
        refine Z_idiv dX12_left_24 (by decide) ?_
        rw [e6]
        refine Z_bipush (v := 6) dX12_left_25 (by decide) ?_
        refine Z_irem dX12_left_27 (by decide) ?_
        rw [m6]
        refine Z_goto (tgt := 35) dX12_left_28 (by decide) ?_
        refine Z_iret dX12_left_35 rfl rfl ⟨by decide, by decide⟩ ?_
        exact h
    · skip
      exact absurd h6 (by decide)
  · skip
    refine Z_iload_n dX12_left_0 rfl rfl ?_
    refine Z_bipush (v := 27) dX12_left_1 (by decide) ?_
    refine Z_idiv dX12_left_3 (by decide) ?_
    rw [e27]
    refine Z_istore_n (L' := [_, _, _]) dX12_left_4 rfl (by decide) rfl rfl ?_
    refine Z_iload_n dX12_left_5 rfl rfl ?_
    refine Z_if_ne (tgt := 16) dX12_left_6 (by decide) (fun h6 => ?_) (fun h6 => ?_)
    · skip
      refine Z_iload_n dX12_left_16 rfl rfl ?_
      refine Z_iconst (v := 1) dX12_left_17 (by decide) ?_
      refine Z_icmp_ne (tgt := 31) dX12_left_18 (by decide) (fun h18 => ?_) (fun h18 => ?_)
      · skip
        refine Z_iload_n dX12_left_31 rfl rfl ?_
        refine Z_bipush (v := 6) dX12_left_32 (by decide) ?_
        refine Z_irem dX12_left_34 (by decide) ?_
        rw [n6]
        refine Z_iret dX12_left_35 rfl rfl ⟨by decide, by decide⟩ ?_
        exact h
      · skip
        exact absurd h18 (by decide)
    · skip
      exact absurd h6 (by decide)
theorem c_leftInAll {q : Nat} (hq : q < 5832) (h : post (some (.int (nI (zla q)))) α) : ZK G (d + 2) mX12_leftInAll [.int (nI q)] α post := by
  refine ZK.of (n := 0) (by decide) (Nat.le_of_ble_eq_true rfl) rfl ?_
  refine Z_iload_n dX12_leftInAll_0 rfl rfl ?_
  refine Z_iconst (v := 0) dX12_leftInAll_1 (by decide) ?_
  refine Z_S2z dX12_leftInAll_2 to_X12_left lk_X12_172 sc_X12_left (Nat.le_of_ble_eq_true rfl) ⟨rfl, rfl⟩ ⟨by decide, by decide⟩ ?_
  refine c_left (s := 0) hq (by omega) ?_
  refine Z_iload_n dX12_leftInAll_5 rfl rfl ?_
  refine Z_iconst (v := 1) dX12_leftInAll_6 (by decide) ?_
  refine Z_S2z dX12_leftInAll_7 to_X12_left lk_X12_172 sc_X12_left (Nat.le_of_ble_eq_true rfl) ⟨rfl, rfl⟩ ⟨by decide, by decide⟩ ?_
  refine c_left (s := 1) hq (by omega) ?_
  refine Z_iadd dX12_leftInAll_10 ?_
  refine Z_iload_n dX12_leftInAll_11 rfl rfl ?_
  refine Z_iconst (v := 2) dX12_leftInAll_12 (by decide) ?_
  refine Z_S2z dX12_leftInAll_13 to_X12_left lk_X12_172 sc_X12_left (Nat.le_of_ble_eq_true rfl) ⟨rfl, rfl⟩ ⟨by decide, by decide⟩ ?_
  refine c_left (s := 2) hq (by omega) ?_
  refine Z_iadd dX12_leftInAll_16 ?_
  refine Z_iret dX12_leftInAll_17 rfl rfl ⟨by decide, by decide⟩ ?_
  rw [nI_add, nI_add]; exact h
theorem c_stageOf {q k : Nat} (hq : q < 5832) (hk : k < 3) (h : post (some (.int (nI (zg q k)))) α) : ZK G (d + 1) mX12_stageOf [.int (nI q), .int (nI k)] α post := by
  have e27 : nI q - nI q / 27 * 27 = nI (q % 27) := pk_rem (d := 27) (by omega) (by omega) (by omega)
  have e9 : nI (q % 27) / 9 = nI (q % 27 / 9) := nI_div (b := 9) (by omega) (by omega) (by omega)
  have e3 : nI (q % 27) / 3 = nI (q % 27 / 3) := nI_div (b := 3) (by omega) (by omega) (by omega)
  have m3 : nI (q % 27 / 3) - nI (q % 27 / 3) / 3 * 3 = nI (q % 27 / 3 % 3) := pk_rem (d := 3) (by omega) (by omega) (by omega)
  have n3 : nI (q % 27) - nI (q % 27) / 3 * 3 = nI (q % 27 % 3) := pk_rem (d := 3) (by omega) (by omega) (by omega)
  refine ZK.of (n := 1) (by decide) (Nat.le_of_ble_eq_true rfl) rfl ?_
  rcases s3 hk with rfl | rfl | rfl
  · skip
    refine Z_iload_n dX12_stageOf_0 rfl rfl ?_
    refine Z_bipush (v := 27) dX12_stageOf_1 (by decide) ?_
    refine Z_irem dX12_stageOf_3 (by decide) ?_
    rw [e27]
    refine Z_istore_n (L' := [_, _, _]) dX12_stageOf_4 rfl (by decide) rfl rfl ?_
    refine Z_iload_n dX12_stageOf_5 rfl rfl ?_
    refine Z_if_ne (tgt := 16) dX12_stageOf_6 (by decide) (fun h6 => ?_) (fun h6 => ?_)
    · skip
      exact absurd rfl h6
    · skip
      refine Z_iload_n dX12_stageOf_9 rfl rfl ?_
      refine Z_bipush (v := 9) dX12_stageOf_10 (by decide) ?_
      refine Z_idiv dX12_stageOf_12 (by decide) ?_
      rw [e9]
      refine Z_goto (tgt := 32) dX12_stageOf_13 (by decide) ?_
      refine Z_iret dX12_stageOf_32 rfl rfl ⟨by decide, by decide⟩ ?_
      exact h
  · skip
    refine Z_iload_n dX12_stageOf_0 rfl rfl ?_
    refine Z_bipush (v := 27) dX12_stageOf_1 (by decide) ?_
    refine Z_irem dX12_stageOf_3 (by decide) ?_
    rw [e27]
    refine Z_istore_n (L' := [_, _, _]) dX12_stageOf_4 rfl (by decide) rfl rfl ?_
    refine Z_iload_n dX12_stageOf_5 rfl rfl ?_
    refine Z_if_ne (tgt := 16) dX12_stageOf_6 (by decide) (fun h6 => ?_) (fun h6 => ?_)
    · skip
      refine Z_iload_n dX12_stageOf_16 rfl rfl ?_
      refine Z_iconst (v := 1) dX12_stageOf_17 (by decide) ?_
      refine Z_icmp_ne (tgt := 29) dX12_stageOf_18 (by decide) (fun h18 => ?_) (fun h18 => ?_)
      · skip
        exact absurd rfl h18
      · skip
        refine Z_iload_n dX12_stageOf_21 rfl rfl ?_
        refine Z_iconst (v := 3) dX12_stageOf_22 (by decide) ?_
        refine Z_idiv dX12_stageOf_23 (by decide) ?_
        rw [e3]
        refine Z_iconst (v := 3) dX12_stageOf_24 (by decide) ?_
        refine Z_irem dX12_stageOf_25 (by decide) ?_
        rw [m3]
        refine Z_goto (tgt := 32) dX12_stageOf_26 (by decide) ?_
        refine Z_iret dX12_stageOf_32 rfl rfl ⟨by decide, by decide⟩ ?_
        exact h
    · skip
      exact absurd h6 (by decide)
  · skip
    refine Z_iload_n dX12_stageOf_0 rfl rfl ?_
    refine Z_bipush (v := 27) dX12_stageOf_1 (by decide) ?_
    refine Z_irem dX12_stageOf_3 (by decide) ?_
    rw [e27]
    refine Z_istore_n (L' := [_, _, _]) dX12_stageOf_4 rfl (by decide) rfl rfl ?_
    refine Z_iload_n dX12_stageOf_5 rfl rfl ?_
    refine Z_if_ne (tgt := 16) dX12_stageOf_6 (by decide) (fun h6 => ?_) (fun h6 => ?_)
    · skip
      refine Z_iload_n dX12_stageOf_16 rfl rfl ?_
      refine Z_iconst (v := 1) dX12_stageOf_17 (by decide) ?_
      refine Z_icmp_ne (tgt := 29) dX12_stageOf_18 (by decide) (fun h18 => ?_) (fun h18 => ?_)
      · skip
        refine Z_iload_n dX12_stageOf_29 rfl rfl ?_
        refine Z_iconst (v := 3) dX12_stageOf_30 (by decide) ?_
        refine Z_irem dX12_stageOf_31 (by decide) ?_
        rw [n3]
        refine Z_iret dX12_stageOf_32 rfl rfl ⟨by decide, by decide⟩ ?_
        exact h
      · skip
        exact absurd h18 (by decide)
    · skip
      exact absurd h6 (by decide)
end MS1
