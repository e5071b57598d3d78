section ZT
variable {G : ZG} {M : ZM} {d pc : Nat} {L : List (Option Value)} {st : List Value} {α : AH} {u : Nat × Nat} {post : Option Value → AH → Prop}
theorem Z_tabIn {dflt lo hi : Int} {offs : Array Int} {len : Nat} {x : Int32} {off : Int} {tgt : Nat} (hd : decode (mC M) pc = .ok (.tableswitch dflt lo hi offs, len)) (h1 : ¬ x.toInt < lo) (h2 : ¬ hi < x.toInt) (ho : offs[(x.toInt - lo).toNat]? = some off) (ht : (pc : Int) + off = (tgt : Int)) (k : Z G M d tgt L st α u post) : Z G M d pc L (.int x :: st) α u post := Z.go (fun _ _ _ _ _ _ _ _ _ _ _ _ _ _ hx hb => lv_tableIn hx hb hd h1 h2 ho ht) k
theorem Z_tabOut {dflt lo hi : Int} {offs : Array Int} {len : Nat} {x : Int32} {tgt : Nat} (hd : decode (mC M) pc = .ok (.tableswitch dflt lo hi offs, len)) (h : x.toInt < lo ∨ hi < x.toInt) (ht : (pc : Int) + dflt = (tgt : Int)) (k : Z G M d tgt L st α u post) : Z G M d pc L (.int x :: st) α u post := Z.go (fun _ _ _ _ _ _ _ _ _ _ _ _ _ _ hx hb => lv_tableOut hx hb hd h ht) k
theorem Z_tab {dflt lo hi : Int} {offs : Array Int} {len : Nat} {x : Int32} (hd : decode (mC M) pc = .ok (.tableswitch dflt lo hi offs, len)) (k : ∀ i : Nat, x.toInt = lo + i → ¬ hi < x.toInt → ∃ (off : Int) (tgt : Nat), offs[i]? = some off ∧ (pc : Int) + off = (tgt : Int) ∧ Z G M d tgt L st α u post) {tgt : Nat} (ht : (pc : Int) + dflt = (tgt : Int)) (ko : x.toInt < lo ∨ hi < x.toInt → Z G M d tgt L st α u post) : Z G M d pc L (.int x :: st) α u post := by
  by_cases h : x.toInt < lo ∨ hi < x.toInt
  · exact Z_tabOut hd h ht (ko h)
  · obtain ⟨off, t, e1, e2, kk⟩ := k (x.toInt - lo).toNat (by omega) (fun q => h (Or.inr q))
    exact Z_tabIn hd (fun q => h (Or.inl q)) (fun q => h (Or.inr q)) e1 e2 kk
end ZT
section ZV
variable {G : ZG} {M : ZM} {d pc : Nat} {L : List (Option Value)} {st : List Value} {α : AH} {u : Nat × Nat} {post : Option Value → AH → Prop}
theorem Z_ialdv {k n m : Nat} {i v : Int32} (hd : decode (mC M) pc = .ok (.iaload, 1)) (hs : zIs α k (0, n)) (hix : zix i n m) (hv : hI α k m = v) (kk : Z G M d (pc + 1) L (.int v :: st) α u post) : Z G M d pc L (.int i :: .ref (G.1 + k) :: st) α u post := Z_iald hd hs hix (hv ▸ kk)
theorem Z_zaldv {k n m : Nat} {i v : Int32} (hd : decode (mC M) pc = .ok (.baload, 1)) (hs : zIs α k (2, n)) (hix : zix i n m) (hv : hI α k m = v) (kk : Z G M d (pc + 1) L (.int v :: st) α u post) : Z G M d pc L (.int i :: .ref (G.1 + k) :: st) α u post := Z_zald hd hs hix (hv ▸ kk)
theorem Z_laldv {k n m : Nat} {i : Int32} {v : Int64} (hd : decode (mC M) pc = .ok (.laload, 1)) (hs : zIs α k (1, n)) (hix : zix i n m) (hv : hJ α k m = v) (kk : Z G M d (pc + 1) L (.long v :: st) α u post) : Z G M d pc L (.int i :: .ref (G.1 + k) :: st) α u post := Z_lald hd hs hix (hv ▸ kk)
theorem Z_getIv {c j k n idx : Nat} {v : Int32} (hd : decode (mC M) pc = .ok (.getfield idx, 3)) (hc : zCls c) (hf : zFld (mY M).cls idx c j) (ht : zfk (zTy c j) = 0) (hs : zIs α k (c + 4, n)) (hv : hI α k j = v) (kk : Z G M d (pc + 3) L (.int v :: st) α u post) : Z G M d pc L (.ref (G.1 + k) :: st) α u post := Z_getI hd hc hf ht hs (hv ▸ kk)
theorem Z_getJv {c j k n idx : Nat} {v : Int64} (hd : decode (mC M) pc = .ok (.getfield idx, 3)) (hc : zCls c) (hf : zFld (mY M).cls idx c j) (ht : zfk (zTy c j) = 1) (hs : zIs α k (c + 4, n)) (hv : hJ α k j = v) (kk : Z G M d (pc + 3) L (.long v :: st) α u post) : Z G M d pc L (.ref (G.1 + k) :: st) α u post := Z_getJ hd hc hf ht hs (hv ▸ kk)
end ZV
section MB
variable {G : ZG} {d : Nat} {α : AH} {post : Option Value → AH → Prop}
def b2i (b : Bool) : Int32 := if b then 1 else 0
theorem b2i_t {p : Prop} {_ : Decidable p} (h : p) : b2i (decide p) = 1 := by simp [b2i, h]
theorem b2i_f {p : Prop} {_ : Decidable p} (h : ¬ p) : b2i (decide p) = 0 := by simp [b2i, h]
theorem b2i_ne {b : Bool} : ¬ b2i b = 0 ↔ b = true := by cases b <;> simp [b2i]
theorem b2i_eq {b : Bool} : b2i b = 0 ↔ b = false := by cases b <;> simp [b2i]
theorem b2i_nar {b : Bool} : narrow .boolean (.int (b2i b)) = .int (b2i b) := by cases b <;> rfl
theorem b2i_fit {b : Bool} : fits .boolean (.int (b2i b)) = true := by cases b <;> rfl
theorem vi {x : Int32} {P : Int32 → Prop} {y : Int32} (h : P y) (e : y = x) : P x := e ▸ h
set_option maxRecDepth 20000 in
theorem c_in {x lo hi : Int32} (h : post (some (.int (b2i (decide (lo ≤ x ∧ x ≤ hi))))) α) : ZK G (d + 1) mX12_in [.int x, .int lo, .int hi] α post := by
  refine ZK.of (n := 0) (by decide) (Nat.le_of_ble_eq_true rfl) rfl ?_
  refine Z_iload_n dX12_in_0 rfl rfl ?_
  refine Z_iload_n dX12_in_1 rfl rfl ?_
  refine Z_icmp_lt (tgt := 14) dX12_in_2 (by decide) (fun h2 => ?_) (fun h2 => ?_)
  · skip
    refine Z_iconst (v := 0) dX12_in_14 (by decide) ?_
    refine Z_iret dX12_in_15 rfl rfl ⟨by decide, by decide⟩ ?_
    refine vi (P := fun z => post (some (.int z)) α) h ?_
    first | (rw [b2i_t]; simp only [Int32.lt_iff_toInt_lt, Int32.le_iff_toInt_le] at *; omega) | (rw [b2i_f]; simp only [Int32.lt_iff_toInt_lt, Int32.le_iff_toInt_le] at *; omega)
  · skip
    refine Z_iload_n dX12_in_5 rfl rfl ?_
    refine Z_iload_n dX12_in_6 rfl rfl ?_
    refine Z_icmp_gt (tgt := 14) dX12_in_7 (by decide) (fun h7 => ?_) (fun h7 => ?_)
    · skip
      refine Z_iconst (v := 0) dX12_in_14 (by decide) ?_
      refine Z_iret dX12_in_15 rfl rfl ⟨by decide, by decide⟩ ?_
      refine vi (P := fun z => post (some (.int z)) α) h ?_
      first | (rw [b2i_t]; simp only [Int32.lt_iff_toInt_lt, Int32.le_iff_toInt_le] at *; omega) | (rw [b2i_f]; simp only [Int32.lt_iff_toInt_lt, Int32.le_iff_toInt_le] at *; omega)
    · skip
      refine Z_iconst (v := 1) dX12_in_10 (by decide) ?_
      refine Z_goto (tgt := 15) dX12_in_11 (by decide) ?_
      refine Z_iret dX12_in_15 rfl rfl ⟨by decide, by decide⟩ ?_
      refine vi (P := fun z => post (some (.int z)) α) h ?_
      first | (rw [b2i_t]; simp only [Int32.lt_iff_toInt_lt, Int32.le_iff_toInt_le] at *; omega) | (rw [b2i_f]; simp only [Int32.lt_iff_toInt_lt, Int32.le_iff_toInt_le] at *; omega)
theorem c_isSort {x : Int32} (h : post (some (.int (b2i (decide (0 ≤ x ∧ x ≤ 2))))) α) : ZK G (d + 2) mX12_isSort [.int x] α post := by
  refine ZK.of (n := 0) (by decide) (Nat.le_of_ble_eq_true rfl) rfl ?_
  refine Z_iload_n dX12_isSort_0 rfl rfl ?_
  refine Z_iconst (v := 0) dX12_isSort_1 (by decide) ?_
  refine Z_iconst (v := 2) dX12_isSort_2 (by decide) ?_
  refine Z_S3z dX12_isSort_3 to_X12_in lk_X12_69 sc_X12_in (Nat.le_of_ble_eq_true rfl) ⟨rfl, rfl⟩ ⟨by decide, by decide⟩ ?_
  refine c_in ?_
  refine Z_iret dX12_isSort_6 rfl b2i_nar ⟨by decide, by decide⟩ ?_
  exact h
theorem c_isWork {x : Int32} (h : post (some (.int (b2i (decide (0 ≤ x ∧ x ≤ 2))))) α) : ZK G (d + 2) mX12_isWork [.int x] α post := by
  refine ZK.of (n := 0) (by decide) (Nat.le_of_ble_eq_true rfl) rfl ?_
  refine Z_iload_n dX12_isWork_0 rfl rfl ?_
  refine Z_iconst (v := 0) dX12_isWork_1 (by decide) ?_
  refine Z_iconst (v := 2) dX12_isWork_2 (by decide) ?_
  refine Z_S3z dX12_isWork_3 to_X12_in lk_X12_69 sc_X12_in (Nat.le_of_ble_eq_true rfl) ⟨rfl, rfl⟩ ⟨by decide, by decide⟩ ?_
  refine c_in ?_
  refine Z_iret dX12_isWork_6 rfl b2i_nar ⟨by decide, by decide⟩ ?_
  exact h
theorem c_isWorker {x : Int32} (hm : MW α) (h : post (some (.int (b2i (decide (0 ≤ x ∧ x ≤ hI α 35 0 - 1))))) α) : ZK G (d + 2) mX12_isWorker [.ref (G.1 + 34), .int x] α post := by
  refine ZK.of (n := 0) (by decide) (Nat.le_of_ble_eq_true rfl) rfl ?_
  refine Z_iload_n dX12_isWorker_0 rfl rfl ?_
  refine Z_iconst (v := 0) dX12_isWorker_1 (by decide) ?_
  refine Z_aload_n dX12_isWorker_2 rfl rfl ?_
  refine Z_getR dX12_isWorker_3 cl_12 fl_X12_9_12 rfl (mw_i34 hm) (mw_p34_1 hm) ?_
  refine Z_iconst (v := 0) dX12_isWorker_6 (by decide) ?_
  refine Z_iald dX12_isWorker_7 (mw_i35 hm) (zix_k (m := 0) (by decide)) ?_
  refine Z_iconst (v := 1) dX12_isWorker_8 (by decide) ?_
  refine Z_isub dX12_isWorker_9 ?_
  refine Z_S3z dX12_isWorker_10 to_X12_in lk_X12_69 sc_X12_in (Nat.le_of_ble_eq_true rfl) ⟨rfl, rfl⟩ ⟨by decide, by decide⟩ ?_
  refine c_in ?_
  refine Z_iret dX12_isWorker_13 rfl b2i_nar ⟨by decide, by decide⟩ ?_
  exact h
theorem c_rest (hm : MW α) (h : post (some (.int (hI α 35 6 + hI α 35 7 + hI α 35 8))) α) : ZK G (d + 1) mX12_rest [.ref (G.1 + 34)] α post := by
  refine ZK.of (n := 0) (by decide) (Nat.le_of_ble_eq_true rfl) rfl ?_
  refine Z_aload_n dX12_rest_0 rfl rfl ?_
  refine Z_getR dX12_rest_1 cl_12 fl_X12_9_12 rfl (mw_i34 hm) (mw_p34_1 hm) ?_
  refine Z_bipush (v := 6) dX12_rest_4 (by decide) ?_
  refine Z_iald dX12_rest_6 (mw_i35 hm) (zix_k (m := 6) (by decide)) ?_
  refine Z_aload_n dX12_rest_7 rfl rfl ?_
  refine Z_getR dX12_rest_8 cl_12 fl_X12_9_12 rfl (mw_i34 hm) (mw_p34_1 hm) ?_
  refine Z_bipush (v := 7) dX12_rest_11 (by decide) ?_
  refine Z_iald dX12_rest_13 (mw_i35 hm) (zix_k (m := 7) (by decide)) ?_
  refine Z_iadd dX12_rest_14 ?_
  refine Z_aload_n dX12_rest_15 rfl rfl ?_
  refine Z_getR dX12_rest_16 cl_12 fl_X12_9_12 rfl (mw_i34 hm) (mw_p34_1 hm) ?_
  refine Z_bipush (v := 8) dX12_rest_19 (by decide) ?_
  refine Z_iald dX12_rest_21 (mw_i35 hm) (zix_k (m := 8) (by decide)) ?_
  refine Z_iadd dX12_rest_22 ?_
  refine Z_iret dX12_rest_23 rfl rfl ⟨by decide, by decide⟩ ?_
  exact h
end MB
