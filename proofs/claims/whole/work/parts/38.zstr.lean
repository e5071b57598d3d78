section SZ1
variable {G : ZG} {M M' : ZM} {d pc n : Nat} {L : List (Option Value)} {st : List Value} {α : AH} {u : Nat × Nat} {post : Option Value → AH → Prop}
theorem Z_pop {v : Value} (hd : decode (mC M) pc = .ok (.pop, 1)) (hv : v.category = 1) (k : Z G M d (pc + 1) L st α u post) : Z G M d pc L (v :: st) α u post := Z.go (fun _ _ _ _ _ _ _ _ _ _ _ _ _ _ hx hb => lv_pop hx hb hd hv) k
theorem Z_sval {i : Nat} (hd : decode (mC M) pc = .ok (.getfield 9, 3)) (hi : i < 12) (hM : (mY M).cls = "java/lang/String") (kk : Z G M d (pc + 3) L (.ref (G.2 (30 + i)) :: st) α u post) : Z G M d pc L (.ref (G.2 (10 + i)) :: st) α u post := by
  refine Z.goR (fun p l e R s m args below meth c' Q D dA H locs ls C hR hV hl kk => ?_) kk
  obtain ⟨hx, hb, -, hown, hts, hname, hK, hX, -⟩ := C
  rw [hM] at hown
  exact va_getX (N := 1) (ad := fun _ => G.2 (10 + i)) (v := fun _ => .ref (G.2 (30 + i))) (i := 0) hx hb (fun _ _ => (hX.2.1 i hi).2.2.2.1) (by decide) hV hown (hts _ wd_1441) (fun _ h => h) hd kk
theorem Z_scod {i : Nat} (hd : decode (mC M) pc = .ok (.getfield 15, 3)) (hi : i < 12) (hM : (mY M).cls = "java/lang/String") (kk : Z G M d (pc + 3) L (.int 0 :: st) α u post) : Z G M d pc L (.ref (G.2 (10 + i)) :: st) α u post := by
  refine Z.goR (fun p l e R s m args below meth c' Q D dA H locs ls C hR hV hl kk => ?_) kk
  obtain ⟨hx, hb, -, hown, hts, hname, hK, hX, -⟩ := C
  rw [hM] at hown
  exact va_getX (N := 1) (ad := fun _ => G.2 (10 + i)) (v := fun _ => .int 0) (i := 0) hx hb (fun _ _ => (hX.2.1 i hi).2.2.1) (by decide) hV hown (hts _ wd_1442) (fun _ h => h) hd kk
theorem Z_sC (hd : decode (mC M) pc = .ok (.getstatic 38, 3)) (hM : (mY M).cls = "java/lang/String") (kk : Z G M d (pc + 3) L (.int 1 :: st) α u post) : Z G M d pc L st α u post := by
  refine Z.goR (fun p l e R s m args below meth c' Q D dA H locs ls C hR hV hl kk => ?_) kk
  obtain ⟨hx, hb, -, hown, hts, hname, hK, hX, -⟩ := C
  rw [hM] at hown
  exact va_gets hx hb hX.2.2.1 hV hown (hts _ wd_263) (fun _ h => h) hd kk
theorem Z_sF (hd : decode (mC M) pc = .ok (.getstatic 1053, 3)) (hM : (mY M).cls = "java/lang/String") (kk : ∀ v : Value, (v = .null ∨ ∃ t, v = .ref t) → Z G M d (pc + 3) L (v :: st) α u post) : Z G M d pc L st α u post := by
  intro p l e R s m args below meth c Q D dA C H locs ls hR hV hl
  have C' := C
  obtain ⟨hx, hb, -, hown, hts, hname, hK, hX, -⟩ := C'
  rw [hM] at hown
  rcases hX.2.2.2.2.2.2 with h | ⟨t, h⟩
  · exact va_gets hx hb h hV hown (hts _ wd_279) (fun _ h => h) hd (kk _ (Or.inl rfl) p l e R s m args below meth c Q D dA C H locs ls hR hV hl)
  · exact va_gets hx hb h hV hown (hts _ wd_279) (fun _ h => h) hd (kk _ (Or.inr ⟨t, rfl⟩) p l e R s m args below meth c Q D dA C H locs ls hR hV hl)
theorem Z_slen {i : Nat} (hd : decode (mC M) pc = .ok (.arraylength, 1)) (hi : i < 12) (kk : Z G M d (pc + 1) L (.int (nI (zStr i).2.2.2.length) :: st) α u post) : Z G M d pc L (.ref (G.2 (30 + i)) :: st) α u post := by
  refine Z.goR (fun p l e R s m args below meth c' Q D dA H locs ls C hR hV hl kk => ?_) kk
  obtain ⟨hx, hb, -, hown, hts, hname, hK, hX, -⟩ := C
  exact va_tlen hx hb (hX.2.1 i hi).2.2.2.2 hV rfl hd kk
theorem Z_sbl {i m : Nat} {k : Int32} (hd : decode (mC M) pc = .ok (.baload, 1)) (hi : i < 12) (hix : zix k (zStr i).2.2.2.length m) (kk : Z G M d (pc + 1) L (.int ((zStr i).2.2.2.getD m 0) :: st) α u post) : Z G M d pc L (.int k :: .ref (G.2 (30 + i)) :: st) α u post := by
  obtain ⟨hin, rfl⟩ := hix
  refine Z.goR (fun p l e R s m args below meth c' Q D dA H locs ls C hR hV hl kk => ?_) kk
  obtain ⟨hx, hb, -, hown, hts, hname, hK, hX, -⟩ := C
  exact va_tb hx hb (hX.2.1 i hi).2.2.2.2 hV hin rfl hd kk
theorem Z_runW {idx i : Nat} {av st0 : List Value} (hd : decode (mC M) pc = .ok (.invokevirtual idx, 3)) (to : zTo M' n) (lk : zLk (mY M).cls idx (mY M')) (hi : Cond.instanceMethod (mY M') ∈ zT) (hse : Cond.selects (mY M').cls (mY M') (mY M') ∈ zT) (hM : (mY M').cls = "java/lang/String") (hi12 : i < 12) (hn : av.length = n) (hst : (st.map fun v => v.category).sum ≤ 8) (hu : u.1 + mK M' ≤ mK M ∧ u.2 + mS M' ≤ mS M) (hstk : st0 = av.reverse ++ .ref (G.2 (10 + i)) :: st)
    (h : ZK G d M' (.ref (G.2 (10 + i)) :: av) α (fun v α1 => Z G M (d + 1) (pc + 3) L (zst v st) α1 (u.1 + mK M', u.2 + mS M') post)) : Z G M (d + 1) pc L st0 α u post := by
  subst hstk
  intro p l e R s m args below meth c Q D dA C H locs ls hR hV hl
  have C' := C
  obtain ⟨hx, hb, hml, hown, hts, hname, hK, hX, hos, hroom, -⟩ := C'
  have hfix : CallFix p m c (mC M) (mL M) s args zT (mY M).cls := ⟨hx, hb, hml, hown, hts⟩
  have hf : u.1 + mK M' ≤ R.cells ∧ u.2 + mS M' ≤ R.slots := ⟨Nat.le_trans hu.1 hroom.2.2.1, Nat.le_trans hu.2 hroom.2.2.2⟩
  obtain ⟨t1, t2, t3, t4, t5⟩ := to
  have hrec := va_Orecv (hX.2.1 i hi12).2.1 hV
  rw [← hM] at hrec
  rcases lk with lk | ⟨host, lk⟩
  · refine z_call (va_runV (C := (mY M').cls) (g := F0 m pc ls (av.reverse ++ .ref (G.2 (10 + i)) :: st)) hfix (h l D dA) ⟨callB_of n hts (zW_good ⟨t1, t2, t3, t4, t5⟩) rfl rfl rfl (hts _ t2) (hts _ lk) ⟨t3.1, t3.2, t4⟩ (zroom hroom t5), hts _ hi, hts _ hse⟩ ⟨(zPre C hR hV).1, hrec, (zPre C hR hV).2⟩ rfl hn hl.1 rfl (lv_room hst) hd hf) hV (fun v β H1 locs1 hp hR1 hV1 => ?_)
    exact hp p l e R s m args below meth c Q D dA C H1 locs1 ls hR1 hV1 hl
  · refine z_call (va_runVN (C := (mY M').cls) (g := F0 m pc ls (av.reverse ++ .ref (G.2 (10 + i)) :: st)) hfix (h l D dA) ⟨va_cnB n hts (zW_good ⟨t1, t2, t3, t4, t5⟩) rfl rfl rfl (hX.2.2.2.1 _ lk) (hts _ t2) ⟨t3.1, t3.2, t4⟩ (zroom hroom t5), hts _ hi, hts _ hse⟩ ⟨(zPre C hR hV).1, hrec, (zPre C hR hV).2⟩ rfl hn hl.1 rfl (lv_room hst) hd hf) hV (fun v β H1 locs1 hp hR1 hV1 => ?_)
    exact hp p l e R s m args below meth c Q D dA C H1 locs1 ls hR1 hV1 hl
theorem Z_W0z {idx i : Nat} (hd : decode (mC M) pc = .ok (.invokevirtual idx, 3)) (to : zTo M' 0) (lk : zLk (mY M).cls idx (mY M')) (hi : Cond.instanceMethod (mY M') ∈ zT ∧ Cond.selects (mY M').cls (mY M') (mY M') ∈ zT) (hM : (mY M').cls = "java/lang/String") (hi12 : i < 12) (hst : (st.map fun v => v.category).sum ≤ 8) (hz : mK M' = 0 ∧ mS M' = 0) (hu : u.1 ≤ mK M ∧ u.2 ≤ mS M) (h : ZK G d M' [.ref (G.2 (10 + i))] α (fun v α1 => Z G M (d + 1) (pc + 3) L (zst v st) α1 u post)) : Z G M (d + 1) pc L (.ref (G.2 (10 + i)) :: st) α u post := Z_runW (av := []) hd to lk hi.1 hi.2 hM hi12 rfl hst (by rw [hz.1, hz.2]; exact hu) rfl (by rw [hz.1, hz.2]; exact h)
theorem Z_W1z {idx i : Nat} {a1 : Value} (hd : decode (mC M) pc = .ok (.invokevirtual idx, 3)) (to : zTo M' 1) (lk : zLk (mY M).cls idx (mY M')) (hi : Cond.instanceMethod (mY M') ∈ zT ∧ Cond.selects (mY M').cls (mY M') (mY M') ∈ zT) (hM : (mY M').cls = "java/lang/String") (hi12 : i < 12) (hst : (st.map fun v => v.category).sum ≤ 8) (hz : mK M' = 0 ∧ mS M' = 0) (hu : u.1 ≤ mK M ∧ u.2 ≤ mS M) (h : ZK G d M' [.ref (G.2 (10 + i)), a1] α (fun v α1 => Z G M (d + 1) (pc + 3) L (zst v st) α1 u post)) : Z G M (d + 1) pc L (a1 :: .ref (G.2 (10 + i)) :: st) α u post := Z_runW (av := [a1]) hd to lk hi.1 hi.2 hM hi12 rfl hst (by rw [hz.1, hz.2]; exact hu) rfl (by rw [hz.1, hz.2]; exact h)
theorem Z_W2z {idx i : Nat} {a1 a2 : Value} (hd : decode (mC M) pc = .ok (.invokevirtual idx, 3)) (to : zTo M' 2) (lk : zLk (mY M).cls idx (mY M')) (hi : Cond.instanceMethod (mY M') ∈ zT ∧ Cond.selects (mY M').cls (mY M') (mY M') ∈ zT) (hM : (mY M').cls = "java/lang/String") (hi12 : i < 12) (hst : (st.map fun v => v.category).sum ≤ 8) (hz : mK M' = 0 ∧ mS M' = 0) (hu : u.1 ≤ mK M ∧ u.2 ≤ mS M) (h : ZK G d M' [.ref (G.2 (10 + i)), a1, a2] α (fun v α1 => Z G M (d + 1) (pc + 3) L (zst v st) α1 u post)) : Z G M (d + 1) pc L (a2 :: a1 :: .ref (G.2 (10 + i)) :: st) α u post := Z_runW (av := [a1, a2]) hd to lk hi.1 hi.2 hM hi12 rfl hst (by rw [hz.1, hz.2]; exact hu) rfl (by rw [hz.1, hz.2]; exact h)
theorem Z_look2 {dflt : Int} {a1 b1 a2 b2 : Int} {len t0 t1 t2 : Nat} {x : Int32} (hd : decode (mC M) pc = .ok (.lookupswitch dflt #[(a1, b1), (a2, b2)], len)) (ho : a1 < a2) (h0 : (pc : Int) + dflt = (t0 : Int)) (h1 : (pc : Int) + b1 = (t1 : Int)) (h2 : (pc : Int) + b2 = (t2 : Int)) (k1 : x.toInt = a1 → Z G M d t1 L st α u post) (k2 : x.toInt = a2 → Z G M d t2 L st α u post) (k0 : ¬ x.toInt = a1 ∧ ¬ x.toInt = a2 → Z G M d t0 L st α u post) : Z G M d pc L (.int x :: st) α u post := by
  have hp : ((#[(a1, b1), (a2, b2)] : Array (Int × Int)).toList.zip ((#[(a1, b1), (a2, b2)] : Array (Int × Int)).toList.drop 1)).all (fun (a, next) => a.1 < next.1) = true := by
    show (decide (a1 < a2) && true) = true
    rw [decide_eq_true ho]; rfl
  by_cases e1 : x.toInt = a1
  · exact Z.go (fun _ _ _ _ _ _ _ _ _ _ _ _ _ _ hx hb => lv_lookup hx hb hd hp (off := b1) (by simp [Op.lookupswitch.offset, e1]) h1) (k1 e1)
  · by_cases e2 : x.toInt = a2
    · exact Z.go (fun _ _ _ _ _ _ _ _ _ _ _ _ _ _ hx hb => lv_lookup hx hb hd hp (off := b2) (by simp [Op.lookupswitch.offset, e2]; intro z; omega) h2) (k2 e2)
    · exact Z.go (fun _ _ _ _ _ _ _ _ _ _ _ _ _ _ hx hb => lv_lookup hx hb hd hp (off := dflt) (by simp [Op.lookupswitch.offset, Ne.symm e1, Ne.symm e2, e1, e2]) h0) (k0 ⟨e1, e2⟩)
end SZ1
section SC1
variable {G : ZG} {d : Nat} {α : AH} {post : Option Value → AH → Prop}
theorem c_scoder {i : Nat} (hi : i < 12) (h : post (some (.int 0)) α) : ZK G (d + 1) mJ0_coder_7d493 [.ref (G.2 (10 + i))] α post := by
  refine ZK.of (n := 0) (by decide) (Nat.le_of_ble_eq_true rfl) rfl ?_
  refine Z_sC dJ0_coder_7d493_0 rfl ?_
  refine Z_if_eq (tgt := 13) dJ0_coder_7d493_3 (by decide) (fun h3 => ?_) (fun h3 => ?_)
  · skip
    exact absurd h3 (by decide)
  · skip
    refine Z_aload_n dJ0_coder_7d493_6 rfl rfl ?_
    refine Z_scod dJ0_coder_7d493_7 hi rfl ?_
    refine Z_goto (tgt := 14) dJ0_coder_7d493_10 (by decide) ?_
    refine Z_iret dJ0_coder_7d493_14 rfl rfl ⟨by decide, by decide⟩ ?_
    exact h
theorem c_slatin {i : Nat} (hi : i < 12) (h : post (some (.int 1)) α) : ZK G (d + 1) mJ0_isLatin1_aae02 [.ref (G.2 (10 + i))] α post := by
  refine ZK.of (n := 0) (by decide) (Nat.le_of_ble_eq_true rfl) rfl ?_
  refine Z_sC dJ0_isLatin1_aae02_0 rfl ?_
  refine Z_if_eq (tgt := 17) dJ0_isLatin1_aae02_3 (by decide) (fun h3 => ?_) (fun h3 => ?_)
  · skip
    exact absurd h3 (by decide)
  · skip
    refine Z_aload_n dJ0_isLatin1_aae02_6 rfl rfl ?_
    refine Z_scod dJ0_isLatin1_aae02_7 hi rfl ?_
    refine Z_if_ne (tgt := 17) dJ0_isLatin1_aae02_10 (by decide) (fun h10 => ?_) (fun h10 => ?_)
    · skip
      exact absurd rfl h10
    · skip
      refine Z_iconst (v := 1) dJ0_isLatin1_aae02_13 (by decide) ?_
      refine Z_goto (tgt := 18) dJ0_isLatin1_aae02_14 (by decide) ?_
      refine Z_iret dJ0_isLatin1_aae02_18 rfl rfl ⟨by decide, by decide⟩ ?_
      exact h
theorem zSh : ∀ i, i < 12 → nI (zStr i).2.2.2.length >>> (0 &&& 31) = nI (zStr i).2.2.2.length := by decide
theorem c_slength {i : Nat} (hi : i < 12) (h : post (some (.int (nI (zStr i).2.2.2.length))) α) : ZK G (d + 2) mJ0_length_8abf5 [.ref (G.2 (10 + i))] α post := by
  refine ZK.of (n := 0) (by decide) (Nat.le_of_ble_eq_true rfl) rfl ?_
  refine Z_aload_n dJ0_length_8abf5_0 rfl rfl ?_
  refine Z_sval dJ0_length_8abf5_1 hi rfl ?_
  refine Z_slen dJ0_length_8abf5_4 hi ?_
  refine Z_aload_n dJ0_length_8abf5_5 rfl rfl ?_
  refine Z_W0z dJ0_length_8abf5_6 to_J0_coder_7d493 lk_J0_335 iv_J0_coder_7d493 rfl hi (Nat.le_of_ble_eq_true rfl) ⟨rfl, rfl⟩ ⟨by decide, by decide⟩ ?_
  refine c_scoder hi ?_
  refine Z_ishr dJ0_length_8abf5_9 ?_
  rw [zSh i hi]
  refine Z_iret dJ0_length_8abf5_10 rfl rfl ⟨by decide, by decide⟩ ?_
  exact h
theorem c_j3check {x y : Int32} {v : Value} (hv : v = .null ∨ ∃ t, v = .ref t) (h0 : 0 ≤ x) (hxy : x < y) (h : post (some (.int x)) α) : ZK G (d + 1) mJ3_checkIndex_8e157 [.int x, .int y, v] α post := by
  rcases hv with rfl | ⟨t, rfl⟩
  · refine ZK.of (n := 0) (by decide) (Nat.le_of_ble_eq_true rfl) rfl ?_
    refine Z_iload_n dJ3_checkIndex_8e157_0 rfl rfl ?_
    refine Z_if_lt (tgt := 9) dJ3_checkIndex_8e157_1 (by decide) (fun h1 => ?_) (fun h1 => ?_)
    · skip
      exact absurd h1 (fun z => by simp only [Int32.lt_iff_toInt_lt, Int32.le_iff_toInt_le] at *; have : (0 : Int32).toInt = 0 := rfl; omega)
    · skip
      refine Z_iload_n dJ3_checkIndex_8e157_4 rfl rfl ?_
      refine Z_iload_n dJ3_checkIndex_8e157_5 rfl rfl ?_
      refine Z_icmp_lt (tgt := 16) dJ3_checkIndex_8e157_6 (by decide) (fun h6 => ?_) (fun h6 => ?_)
      · skip
        refine Z_iload_n dJ3_checkIndex_8e157_16 rfl rfl ?_
        refine Z_iret dJ3_checkIndex_8e157_17 rfl rfl ⟨by decide, by decide⟩ ?_
        exact h
      · skip
        exact absurd hxy h6
  · refine ZK.of (n := 0) (by decide) (Nat.le_of_ble_eq_true rfl) rfl ?_
    refine Z_iload_n dJ3_checkIndex_8e157_0 rfl rfl ?_
    refine Z_if_lt (tgt := 9) dJ3_checkIndex_8e157_1 (by decide) (fun h1 => ?_) (fun h1 => ?_)
    · skip
      exact absurd h1 (fun z => by simp only [Int32.lt_iff_toInt_lt, Int32.le_iff_toInt_le] at *; have : (0 : Int32).toInt = 0 := rfl; omega)
    · skip
      refine Z_iload_n dJ3_checkIndex_8e157_4 rfl rfl ?_
      refine Z_iload_n dJ3_checkIndex_8e157_5 rfl rfl ?_
      refine Z_icmp_lt (tgt := 16) dJ3_checkIndex_8e157_6 (by decide) (fun h6 => ?_) (fun h6 => ?_)
      · skip
        refine Z_iload_n dJ3_checkIndex_8e157_16 rfl rfl ?_
        refine Z_iret dJ3_checkIndex_8e157_17 rfl rfl ⟨by decide, by decide⟩ ?_
        exact h
      · skip
        exact absurd hxy h6
theorem c_scheck {x y : Int32} (h0 : 0 ≤ x) (h1 : x < y) (h : post none α) : ZK G (d + 2) mJ0_checkIndex_df160 [.int x, .int y] α post := by
  refine ZK.of (n := 0) (by decide) (Nat.le_of_ble_eq_true rfl) rfl ?_
  refine Z_iload_n dJ0_checkIndex_df160_0 rfl rfl ?_
  refine Z_iload_n dJ0_checkIndex_df160_1 rfl rfl ?_
  refine Z_sF dJ0_checkIndex_df160_2 rfl (fun vF hF => ?_)
  refine Z_S3z dJ0_checkIndex_df160_5 to_J3_checkIndex_8e157 lk_J0_1059 sc_J3_checkIndex_8e157 (Nat.le_of_ble_eq_true rfl) ⟨rfl, rfl⟩ ⟨by decide, by decide⟩ ?_
  refine c_j3check hF h0 h1 ?_
  refine Z_pop dJ0_checkIndex_df160_8 rfl ?_
  refine Z_vret dJ0_checkIndex_df160_9 rfl ⟨by decide, by decide⟩ ?_
  exact h
/-- the texts' signs -/
def zCh (i : Nat) : List Nat := match i with
  | 0 => [112, 97, 121, 32]
  | 1 => [48, 49, 50]
  | 2 => [111, 118, 101, 114, 32]
  | 3 => [97, 110, 32]
  | 4 => [115, 103, 108, 114, 100]
  | 5 => [60, 61, 62]
  | 6 => [60, 61, 62]
  | 7 => [115, 103, 108, 114, 100]
  | 8 => [60, 61, 62]
  | 9 => [111, 118, 101, 114, 32]
  | 10 => [97, 110, 32]
  | _ => [112, 97, 121, 32]
theorem zCh_len : ∀ i, i < 12 → (zStr i).2.2.2.length = (zCh i).length := by decide
theorem zCh_at : ∀ i, i < 12 → ∀ j, j < (zCh i).length → (zStr i).2.2.2.getD j 0 = nI ((zCh i).getD j 0) := by decide
theorem zCh_le : ∀ i, i < 12 → ∀ j, j < (zCh i).length → (zCh i).getD j 0 ≤ 127 := by decide
theorem zCh_l10 : ∀ i, i < 12 → (zCh i).length ≤ 10 := by decide
theorem zCh_c : ∀ c : Nat, c < 128 → ((nI c &&& 255).toUInt32 % 65536).toInt32 = nI c := by decide
theorem zCh_n : ∀ c : Nat, c < 128 → vp_nar .char (nI c) = nI c := by decide
theorem c_j1charAt {i j : Nat} (hi : i < 12) (hj : j < (zCh i).length) (h : post (some (.int (nI ((zCh i).getD j 0)))) α) : ZK G (d + 3) mJ1_charAt_3b067 [.ref (G.2 (30 + i)), .int (nI j)] α post := by
  have hl := zCh_len i hi
  have h10 := zCh_l10 i hi
  have hc := zCh_le i hi j hj
  refine ZK.of (n := 0) (by decide) (Nat.le_of_ble_eq_true rfl) rfl ?_
  refine Z_iload_n dJ1_charAt_3b067_0 rfl rfl ?_
  refine Z_aload_n dJ1_charAt_3b067_1 rfl rfl ?_
  refine Z_slen dJ1_charAt_3b067_2 hi ?_
  refine Z_S2z dJ1_charAt_3b067_3 to_J0_checkIndex_df160 lk_J1_9 sc_J0_checkIndex_df160 (Nat.le_of_ble_eq_true rfl) ⟨rfl, rfl⟩ ⟨by decide, by decide⟩ ?_
  rw [hl]
  refine c_scheck (by simp only [Int32.le_iff_toInt_le]; rw [nI_toInt (by omega)]; exact Int.natCast_nonneg j) (by simp only [Int32.lt_iff_toInt_lt]; rw [nI_toInt (by omega), nI_toInt (by omega)]; omega) ?_
  refine Z_aload_n dJ1_charAt_3b067_6 rfl rfl ?_
  refine Z_iload_n dJ1_charAt_3b067_7 rfl rfl ?_
  refine Z_sbl dJ1_charAt_3b067_8 hi (zix_nI (m := j) (by omega) (by omega)) ?_
  rw [zCh_at i hi j hj]
  refine Z_sipush (v := 255) dJ1_charAt_3b067_9 (by decide) ?_
  refine Z_iand dJ1_charAt_3b067_12 ?_
  refine Z_i2c dJ1_charAt_3b067_13 ?_
  rw [zCh_c _ (by omega)]
  refine Z_iret dJ1_charAt_3b067_14 rfl (by show Value.int (vp_nar .char _) = _; rw [zCh_n _ (by omega)]) ⟨by decide, by decide⟩ ?_
  exact h
theorem c_scharAt {i j : Nat} (hi : i < 12) (hj : j < (zCh i).length) (h : post (some (.int (nI ((zCh i).getD j 0)))) α) : ZK G (d + 4) mJ0_charAt_5068e [.ref (G.2 (10 + i)), .int (nI j)] α post := by
  have hc := zCh_le i hi j hj
  refine ZK.of (n := 0) (by decide) (Nat.le_of_ble_eq_true rfl) rfl ?_
  refine Z_aload_n dJ0_charAt_5068e_0 rfl rfl ?_
  refine Z_W0z dJ0_charAt_5068e_1 to_J0_isLatin1_aae02 lk_J0_492 iv_J0_isLatin1_aae02 rfl hi (Nat.le_of_ble_eq_true rfl) ⟨rfl, rfl⟩ ⟨by decide, by decide⟩ ?_
  refine c_slatin hi ?_
  refine Z_if_eq (tgt := 16) dJ0_charAt_5068e_4 (by decide) (fun h4 => ?_) (fun h4 => ?_)
  · skip
    exact absurd h4 (by decide)
  · skip
    refine Z_aload_n dJ0_charAt_5068e_7 rfl rfl ?_
    refine Z_sval dJ0_charAt_5068e_8 hi rfl ?_
    refine Z_iload_n dJ0_charAt_5068e_11 rfl rfl ?_
    refine Z_S2z dJ0_charAt_5068e_12 to_J1_charAt_3b067 lk_J0_495 sc_J1_charAt_3b067 (Nat.le_of_ble_eq_true rfl) ⟨rfl, rfl⟩ ⟨by decide, by decide⟩ ?_
    refine c_j1charAt hi hj ?_
    refine Z_iret dJ0_charAt_5068e_15 rfl (by show Value.int (vp_nar .char _) = _; rw [zCh_n _ (by omega)]) ⟨by decide, by decide⟩ ?_
    exact h
end SC1
