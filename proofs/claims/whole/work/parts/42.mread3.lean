section MP3
variable {G : ZG} {d : Nat} {α : AH} {post : Option Value → AH → Prop} {τ : Nat → Nat} {N a p o c : Nat} {f : Nat → Int32} {w : Int32}
def mO (q : ZOp) : Int32 := if q.1 < 5 then nI (q.1 + 8 * q.2.1 + 32 * q.2.2) else if q.1 = 5 then -1 else if q.1 = 6 then -2 else -3
def zem (f : Nat → Int32) (a c : Nat) : List Int32 → Nat → Int32
  | [] => f
  | x :: xs => zem (zem1 f a c x) a (c + 1) xs
theorem zem_app : ∀ (xs : List Int32) (ys : List Int32) (f : Nat → Int32) (c : Nat), zem f a c (xs ++ ys) = zem (zem f a c xs) a (c + xs.length) ys
  | [], ys, f, c => rfl
  | x :: xs, ys, f, c => by
    show zem (zem1 f a c x) a (c + 1) (xs ++ ys) = zem (zem (zem1 f a c x) a (c + 1) xs) a (c + (xs.length + 1)) ys
    rw [zem_app xs ys (zem1 f a c x) (c + 1), show c + 1 + xs.length = c + (xs.length + 1) by omega]
theorem zem_cnt : ∀ (xs : List Int32) (f : Nat → Int32) (c : Nat), f (187 + a) = nI c → zem f a c xs (187 + a) = nI (c + xs.length)
  | [], f, c, h => h
  | x :: xs, f, c, h => by
    show zem (zem1 f a c x) a (c + 1) xs (187 + a) = nI (c + (xs.length + 1))
    rw [zem_cnt xs (zem1 f a c x) (c + 1) (u1_s _ _ _), show c + 1 + xs.length = c + (xs.length + 1) by omega]
theorem zem_lo {i : Nat} (hi : i < 187) : ∀ (xs : List Int32) (f : Nat → Int32) (c : Nat), zem f a c xs i = f i
  | [], f, c => rfl
  | x :: xs, f, c => by
    show zem (zem1 f a c x) a (c + 1) xs i = f i
    rw [zem_lo hi xs (zem1 f a c x) (c + 1)]
    unfold zem1
    rw [u1_n (by omega), u1_n (by omega)]
theorem PC.zem (h : PC α f τ N a) (xs : List Int32) (c : Nat) : PC α (zem f a c xs) τ N a := ⟨h.1, h.2.1, h.2.2.1, h.2.2.2.1, h.2.2.2.2.1, fun i hi => by rw [zem_lo (by have := h.2.2.2.1; omega)]; exact h.2.2.2.2.2.1 i hi, h.2.2.2.2.2.2⟩
theorem c_figuresW (hC : PC α f τ N a) (hp : p ≤ N) (h : post (some (.int 0)) (PS α f p 1 o)) : ZK G (d + 2) mX12_figures [.ref (G.1 + 34)] (PS α f p 1 o) post := by
  have hm : ∀ {f : Nat → Int32} {p : Nat} {w : Int32} {o : Nat}, MW (PS α f p w o) := hC.1
  refine ZK.of (n := 2) (by decide) (Nat.le_of_ble_eq_true rfl) rfl ?_
  refine Z_aload_n dX12_figures_0 rfl rfl ?_
  refine Z_aload_n dX12_figures_1 rfl rfl ?_
  refine Z_getIv dX12_figures_2 cl_12 fl_X12_83_12 rfl (mw_i34 hm) PS_7 ?_
  refine Z_if_ne (tgt := 22) dX12_figures_5 (by decide) (fun h5 => ?_) (fun h5 => ?_)
  · skip
    refine Z_iconst (v := 1) dX12_figures_22 (by decide) ?_
    refine Z_goto (tgt := 27) dX12_figures_23 (by decide) ?_
    refine Z_putI dX12_figures_27 cl_12 fl_X12_83_12 (Or.inl fn_12_7) rfl (mw_i34 hm) rfl rfl ?_
    rw [PS_wr]
    refine Z_iconst (v := 0) dX12_figures_30 (by decide) ?_
    refine Z_istore_n (L' := [_, _, _]) dX12_figures_31 rfl (by decide) rfl rfl ?_
    refine Z_iconst (v := 0) dX12_figures_32 (by decide) ?_
    refine Z_istore_n (L' := [_, _, _]) dX12_figures_33 rfl (by decide) rfl rfl ?_
    refine Z_iload_n dX12_figures_34 rfl rfl ?_
    refine Z_iconst (v := 2) dX12_figures_35 (by decide) ?_
    refine Z_icmp_ge (tgt := 97) dX12_figures_36 (by decide) (fun h36 => ?_) (fun h36 => ?_)
    · skip
      exact absurd h36 (by decide)
    · skip
      refine Z_aload_n dX12_figures_39 rfl rfl ?_
      refine Z_getIv dX12_figures_40 cl_12 fl_X12_83_12 rfl (mw_i34 hm) PS_7 ?_
      refine Z_if_ne (tgt := 97) dX12_figures_43 (by decide) (fun h43 => ?_) (fun h43 => ?_)
      · skip
        refine Z_iload_n dX12_figures_97 rfl rfl ?_
        refine Z_iret dX12_figures_98 rfl rfl ⟨by decide, by decide⟩ ?_
        exact h
      · skip
        exact absurd h43 (by decide)
  · skip
    exact absurd h5 (by decide)
theorem c_workHereW (hC : PC α f τ N a) (hp : p ≤ N) (h : post (some (.int 0)) (PS α f p 1 o)) : ZK G (d + 3) mX12_workHere [.ref (G.1 + 34)] (PS α f p 1 o) post := by
  have hm : ∀ {f : Nat → Int32} {p : Nat} {w : Int32} {o : Nat}, MW (PS α f p w o) := hC.1
  refine ZK.of (n := 1) (by decide) (Nat.le_of_ble_eq_true rfl) rfl ?_
  refine Z_aload_n dX12_workHere_0 rfl rfl ?_
  refine Z_aload_n dX12_workHere_1 rfl rfl ?_
  refine Z_getIv dX12_workHere_2 cl_12 fl_X12_83_12 rfl (mw_i34 hm) PS_7 ?_
  refine Z_if_ne (tgt := 22) dX12_workHere_5 (by decide) (fun h5 => ?_) (fun h5 => ?_)
  · skip
    refine Z_iconst (v := 1) dX12_workHere_22 (by decide) ?_
    refine Z_goto (tgt := 27) dX12_workHere_23 (by decide) ?_
    refine Z_putI dX12_workHere_27 cl_12 fl_X12_83_12 (Or.inl fn_12_7) rfl (mw_i34 hm) rfl rfl ?_
    rw [PS_wr]
    refine Z_aload_n dX12_workHere_30 rfl rfl ?_
    refine Z_getIv dX12_workHere_31 cl_12 fl_X12_83_12 rfl (mw_i34 hm) PS_7 ?_
    refine Z_if_eq (tgt := 41) dX12_workHere_34 (by decide) (fun h34 => ?_) (fun h34 => ?_)
    · skip
      exact absurd h34 (by decide)
    · skip
      refine Z_iconst (v := 0) dX12_workHere_37 (by decide) ?_
      refine Z_goto (tgt := 48) dX12_workHere_38 (by decide) ?_
      refine Z_istore_n (L' := [_, _]) dX12_workHere_48 rfl (by decide) rfl rfl ?_
      refine Z_aload_n dX12_workHere_49 rfl rfl ?_
      refine Z_bipush (v := 48) dX12_workHere_50 (by decide) ?_
      refine Z_iload_n dX12_workHere_52 rfl rfl ?_
      refine Z_iadd dX12_workHere_53 ?_
      refine Z_V1z (ci := 12) dX12_workHere_54 to_X12_must lk_X12_100 iv_X12_must ⟨rfl, rfl⟩ (mw_i34 hm) (Nat.le_of_ble_eq_true rfl) ⟨rfl, rfl⟩ ⟨by decide, by decide⟩ ?_
      refine c_mustW hC hp ?_
      refine Z_aload_n dX12_workHere_57 rfl rfl ?_
      refine Z_bipush (v := 32) dX12_workHere_58 (by decide) ?_
      refine Z_V1z (ci := 12) dX12_workHere_60 to_X12_must lk_X12_100 iv_X12_must ⟨rfl, rfl⟩ (mw_i34 hm) (Nat.le_of_ble_eq_true rfl) ⟨rfl, rfl⟩ ⟨by decide, by decide⟩ ?_
      refine c_mustW hC hp ?_
      refine Z_iload_n dX12_workHere_63 rfl rfl ?_
      refine Z_iret dX12_workHere_64 rfl rfl ⟨by decide, by decide⟩ ?_
      exact h
  · skip
    exact absurd h5 (by decide)
theorem c_workHere (hC : PC α f τ N a) (hp : p ≤ N) (h : post (some (.int (nI (pWork τ N p).2.2))) (PS α f (pWork τ N p).2.1 (b2i (!(pWork τ N p).1)) o)) : ZK G (d + 3) mX12_workHere [.ref (G.1 + 34)] (PS α f p 0 o) post := by
  have hm : ∀ {f : Nat → Int32} {p : Nat} {w : Int32} {o : Nat}, MW (PS α f p w o) := hC.1
  refine ZK.of (n := 1) (by decide) (Nat.le_of_ble_eq_true rfl) rfl ?_
  unfold pWork at h
  by_cases hdg : p < N ∧ 48 ≤ τ p ∧ τ p ≤ 50
  · have hdI : 48 ≤ hv τ N p ∧ hv τ N p ≤ 50 := (hv_dig hC (by omega : 50 ≤ 127)).mpr hdg
    have hv1 := hv_in (τ := τ) hdg.1
    have ex : nI (τ p) - 48 = nI (τ p - 48) := by rw [show (48 : Int32) = nI 48 from rfl, pk_sub (by omega)]
    have ey : (48 : Int32) + nI (τ p - 48) = nI (τ p) := by rw [show (48 : Int32) = nI 48 from rfl, nI_add, Nat.add_sub_cancel' hdg.2.1]
    rw [if_pos hdg] at h
    by_cases h32 : p + 1 < N ∧ τ (p + 1) = 32
    · rw [if_pos h32] at h
      refine Z_aload_n dX12_workHere_0 rfl rfl ?_
      refine Z_aload_n dX12_workHere_1 rfl rfl ?_
      refine Z_getIv dX12_workHere_2 cl_12 fl_X12_83_12 rfl (mw_i34 hm) PS_7 ?_
      refine Z_if_ne (tgt := 22) dX12_workHere_5 (by decide) (fun h5 => ?_) (fun h5 => ?_)
      · skip
        exact absurd rfl h5
      · skip
        refine Z_aload_n dX12_workHere_8 rfl rfl ?_
        refine Z_V0z (ci := 12) dX12_workHere_9 to_X12_here lk_X12_87 iv_X12_here ⟨rfl, rfl⟩ (mw_i34 hm) (Nat.le_of_ble_eq_true rfl) ⟨rfl, rfl⟩ ⟨by decide, by decide⟩ ?_
        refine c_here hC hp ?_
        refine Z_bipush (v := 48) dX12_workHere_12 (by decide) ?_
        refine Z_bipush (v := 50) dX12_workHere_14 (by decide) ?_
        refine Z_S3z dX12_workHere_16 to_X12_in lk_X12_69 sc_X12_in (Nat.le_of_ble_eq_true rfl) ⟨rfl, rfl⟩ ⟨by decide, by decide⟩ ?_
        refine c_in ?_
        refine Z_if_ne (tgt := 26) dX12_workHere_19 (by decide) (fun h19 => ?_) (fun h19 => ?_)
        · skip
          refine Z_iconst (v := 0) dX12_workHere_26 (by decide) ?_
          refine Z_putI dX12_workHere_27 cl_12 fl_X12_83_12 (Or.inl fn_12_7) rfl (mw_i34 hm) rfl rfl ?_
          rw [PS_wr]
          refine Z_aload_n dX12_workHere_30 rfl rfl ?_
          refine Z_getIv dX12_workHere_31 cl_12 fl_X12_83_12 rfl (mw_i34 hm) PS_7 ?_
          refine Z_if_eq (tgt := 41) dX12_workHere_34 (by decide) (fun h34 => ?_) (fun h34 => ?_)
          · skip
            refine Z_aload_n dX12_workHere_41 rfl rfl ?_
            refine Z_V0z (ci := 12) dX12_workHere_42 to_X12_here lk_X12_87 iv_X12_here ⟨rfl, rfl⟩ (mw_i34 hm) (Nat.le_of_ble_eq_true rfl) ⟨rfl, rfl⟩ ⟨by decide, by decide⟩ ?_
            refine c_here hC hp ?_
            refine Z_bipush (v := 48) dX12_workHere_45 (by decide) ?_
            refine Z_isub dX12_workHere_47 ?_
            rw [hv1, ex]
            refine Z_istore_n (L' := [_, _]) dX12_workHere_48 rfl (by decide) rfl rfl ?_
            refine Z_aload_n dX12_workHere_49 rfl rfl ?_
            refine Z_bipush (v := 48) dX12_workHere_50 (by decide) ?_
            refine Z_iload_n dX12_workHere_52 rfl rfl ?_
            refine Z_iadd dX12_workHere_53 ?_
            refine Z_V1z (ci := 12) dX12_workHere_54 to_X12_must lk_X12_100 iv_X12_must ⟨rfl, rfl⟩ (mw_i34 hm) (Nat.le_of_ble_eq_true rfl) ⟨rfl, rfl⟩ ⟨by decide, by decide⟩ ?_
            rw [ey]
            refine c_must hC hp (by omega) (fun _ => ?_) (fun z => absurd ⟨hdg.1, rfl⟩ z)
            refine Z_aload_n dX12_workHere_57 rfl rfl ?_
            refine Z_bipush (v := 32) dX12_workHere_58 (by decide) ?_
            refine Z_V1z (ci := 12) dX12_workHere_60 to_X12_must lk_X12_100 iv_X12_must ⟨rfl, rfl⟩ (mw_i34 hm) (Nat.le_of_ble_eq_true rfl) ⟨rfl, rfl⟩ ⟨by decide, by decide⟩ ?_
            rw [show (32 : Int32) = nI 32 from rfl]
            refine c_must hC (by omega) (by omega) (fun _ => ?_) (fun z => absurd h32 z)
            refine Z_iload_n dX12_workHere_63 rfl rfl ?_
            refine Z_iret dX12_workHere_64 rfl rfl ⟨by decide, by decide⟩ ?_
            exact h
          · skip
            exact absurd rfl h34
        · skip
          exact absurd hdI (dec_f h19)
    · rw [if_neg h32] at h
      refine Z_aload_n dX12_workHere_0 rfl rfl ?_
      refine Z_aload_n dX12_workHere_1 rfl rfl ?_
      refine Z_getIv dX12_workHere_2 cl_12 fl_X12_83_12 rfl (mw_i34 hm) PS_7 ?_
      refine Z_if_ne (tgt := 22) dX12_workHere_5 (by decide) (fun h5 => ?_) (fun h5 => ?_)
      · skip
        exact absurd rfl h5
      · skip
        refine Z_aload_n dX12_workHere_8 rfl rfl ?_
        refine Z_V0z (ci := 12) dX12_workHere_9 to_X12_here lk_X12_87 iv_X12_here ⟨rfl, rfl⟩ (mw_i34 hm) (Nat.le_of_ble_eq_true rfl) ⟨rfl, rfl⟩ ⟨by decide, by decide⟩ ?_
        refine c_here hC hp ?_
        refine Z_bipush (v := 48) dX12_workHere_12 (by decide) ?_
        refine Z_bipush (v := 50) dX12_workHere_14 (by decide) ?_
        refine Z_S3z dX12_workHere_16 to_X12_in lk_X12_69 sc_X12_in (Nat.le_of_ble_eq_true rfl) ⟨rfl, rfl⟩ ⟨by decide, by decide⟩ ?_
        refine c_in ?_
        refine Z_if_ne (tgt := 26) dX12_workHere_19 (by decide) (fun h19 => ?_) (fun h19 => ?_)
        · skip
          refine Z_iconst (v := 0) dX12_workHere_26 (by decide) ?_
          refine Z_putI dX12_workHere_27 cl_12 fl_X12_83_12 (Or.inl fn_12_7) rfl (mw_i34 hm) rfl rfl ?_
          rw [PS_wr]
          refine Z_aload_n dX12_workHere_30 rfl rfl ?_
          refine Z_getIv dX12_workHere_31 cl_12 fl_X12_83_12 rfl (mw_i34 hm) PS_7 ?_
          refine Z_if_eq (tgt := 41) dX12_workHere_34 (by decide) (fun h34 => ?_) (fun h34 => ?_)
          · skip
            refine Z_aload_n dX12_workHere_41 rfl rfl ?_
            refine Z_V0z (ci := 12) dX12_workHere_42 to_X12_here lk_X12_87 iv_X12_here ⟨rfl, rfl⟩ (mw_i34 hm) (Nat.le_of_ble_eq_true rfl) ⟨rfl, rfl⟩ ⟨by decide, by decide⟩ ?_
            refine c_here hC hp ?_
            refine Z_bipush (v := 48) dX12_workHere_45 (by decide) ?_
            refine Z_isub dX12_workHere_47 ?_
            rw [hv1, ex]
            refine Z_istore_n (L' := [_, _]) dX12_workHere_48 rfl (by decide) rfl rfl ?_
            refine Z_aload_n dX12_workHere_49 rfl rfl ?_
            refine Z_bipush (v := 48) dX12_workHere_50 (by decide) ?_
            refine Z_iload_n dX12_workHere_52 rfl rfl ?_
            refine Z_iadd dX12_workHere_53 ?_
            refine Z_V1z (ci := 12) dX12_workHere_54 to_X12_must lk_X12_100 iv_X12_must ⟨rfl, rfl⟩ (mw_i34 hm) (Nat.le_of_ble_eq_true rfl) ⟨rfl, rfl⟩ ⟨by decide, by decide⟩ ?_
            rw [ey]
            refine c_must hC hp (by omega) (fun _ => ?_) (fun z => absurd ⟨hdg.1, rfl⟩ z)
            refine Z_aload_n dX12_workHere_57 rfl rfl ?_
            refine Z_bipush (v := 32) dX12_workHere_58 (by decide) ?_
            refine Z_V1z (ci := 12) dX12_workHere_60 to_X12_must lk_X12_100 iv_X12_must ⟨rfl, rfl⟩ (mw_i34 hm) (Nat.le_of_ble_eq_true rfl) ⟨rfl, rfl⟩ ⟨by decide, by decide⟩ ?_
            rw [show (32 : Int32) = nI 32 from rfl]
            refine c_must hC (by omega) (by omega) (fun z => absurd z h32) (fun _ => ?_)
            refine Z_iload_n dX12_workHere_63 rfl rfl ?_
            refine Z_iret dX12_workHere_64 rfl rfl ⟨by decide, by decide⟩ ?_
            exact h
          · skip
            exact absurd rfl h34
        · skip
          exact absurd hdI (dec_f h19)
  · have hdI : ¬ (48 ≤ hv τ N p ∧ hv τ N p ≤ 50) := fun z => hdg ((hv_dig hC (by omega : 50 ≤ 127)).mp z)
    rw [if_neg hdg] at h
    refine Z_aload_n dX12_workHere_0 rfl rfl ?_
    refine Z_aload_n dX12_workHere_1 rfl rfl ?_
    refine Z_getIv dX12_workHere_2 cl_12 fl_X12_83_12 rfl (mw_i34 hm) PS_7 ?_
    refine Z_if_ne (tgt := 22) dX12_workHere_5 (by decide) (fun h5 => ?_) (fun h5 => ?_)
    · skip
      exact absurd rfl h5
    · skip
      refine Z_aload_n dX12_workHere_8 rfl rfl ?_
      refine Z_V0z (ci := 12) dX12_workHere_9 to_X12_here lk_X12_87 iv_X12_here ⟨rfl, rfl⟩ (mw_i34 hm) (Nat.le_of_ble_eq_true rfl) ⟨rfl, rfl⟩ ⟨by decide, by decide⟩ ?_
      refine c_here hC hp ?_
      refine Z_bipush (v := 48) dX12_workHere_12 (by decide) ?_
      refine Z_bipush (v := 50) dX12_workHere_14 (by decide) ?_
      refine Z_S3z dX12_workHere_16 to_X12_in lk_X12_69 sc_X12_in (Nat.le_of_ble_eq_true rfl) ⟨rfl, rfl⟩ ⟨by decide, by decide⟩ ?_
      refine c_in ?_
      refine Z_if_ne (tgt := 26) dX12_workHere_19 (by decide) (fun h19 => ?_) (fun h19 => ?_)
      · skip
        exact absurd (dec_t h19) hdI
      · skip
        refine Z_iconst (v := 1) dX12_workHere_22 (by decide) ?_
        refine Z_goto (tgt := 27) dX12_workHere_23 (by decide) ?_
        refine Z_putI dX12_workHere_27 cl_12 fl_X12_83_12 (Or.inl fn_12_7) rfl (mw_i34 hm) rfl rfl ?_
        rw [PS_wr]
        refine Z_aload_n dX12_workHere_30 rfl rfl ?_
        refine Z_getIv dX12_workHere_31 cl_12 fl_X12_83_12 rfl (mw_i34 hm) PS_7 ?_
        refine Z_if_eq (tgt := 41) dX12_workHere_34 (by decide) (fun h34 => ?_) (fun h34 => ?_)
        · skip
          exact absurd h34 (by decide)
        · skip
          refine Z_iconst (v := 0) dX12_workHere_37 (by decide) ?_
          refine Z_goto (tgt := 48) dX12_workHere_38 (by decide) ?_
          refine Z_istore_n (L' := [_, _]) dX12_workHere_48 rfl (by decide) rfl rfl ?_
          refine Z_aload_n dX12_workHere_49 rfl rfl ?_
          refine Z_bipush (v := 48) dX12_workHere_50 (by decide) ?_
          refine Z_iload_n dX12_workHere_52 rfl rfl ?_
          refine Z_iadd dX12_workHere_53 ?_
          refine Z_V1z (ci := 12) dX12_workHere_54 to_X12_must lk_X12_100 iv_X12_must ⟨rfl, rfl⟩ (mw_i34 hm) (Nat.le_of_ble_eq_true rfl) ⟨rfl, rfl⟩ ⟨by decide, by decide⟩ ?_
          refine c_mustW hC hp ?_
          refine Z_aload_n dX12_workHere_57 rfl rfl ?_
          refine Z_bipush (v := 32) dX12_workHere_58 (by decide) ?_
          refine Z_V1z (ci := 12) dX12_workHere_60 to_X12_must lk_X12_100 iv_X12_must ⟨rfl, rfl⟩ (mw_i34 hm) (Nat.le_of_ble_eq_true rfl) ⟨rfl, rfl⟩ ⟨by decide, by decide⟩ ?_
          refine c_mustW hC hp ?_
          refine Z_iload_n dX12_workHere_63 rfl rfl ?_
          refine Z_iret dX12_workHere_64 rfl rfl ⟨by decide, by decide⟩ ?_
          exact h
theorem c_factorW (hC : PC α f τ N a) (h : post none (PS α f p 1 o)) : ZK G (d + 1) mX12_factor [.ref (G.1 + 34)] (PS α f p 1 o) post := by
  have hm : ∀ {f : Nat → Int32} {p : Nat} {w : Int32} {o : Nat}, MW (PS α f p w o) := hC.1
  refine ZK.of (n := 4) (by decide) (Nat.le_of_ble_eq_true rfl) rfl ?_
  refine Z_aload_n dX12_factor_0 rfl rfl ?_
  refine Z_getIv dX12_factor_1 cl_12 fl_X12_83_12 rfl (mw_i34 hm) PS_7 ?_
  refine Z_if_eq (tgt := 8) dX12_factor_4 (by decide) (fun h4 => ?_) (fun h4 => ?_)
  · skip
    exact absurd h4 (by decide)
  · skip
    refine Z_vret dX12_factor_7 rfl ⟨by decide, by decide⟩ ?_
    exact h
theorem c_everyW (hC : PC α f τ N a) (h : post none (PS α f p 1 o)) : ZK G (d + 2) mX12_every [.ref (G.1 + 34)] (PS α f p 1 o) post := by
  have hm : ∀ {f : Nat → Int32} {p : Nat} {w : Int32} {o : Nat}, MW (PS α f p w o) := hC.1
  refine ZK.of (n := 0) (by decide) (Nat.le_of_ble_eq_true rfl) rfl ?_
  refine Z_aload_n dX12_every_0 rfl rfl ?_
  refine Z_V0z (ci := 12) dX12_every_1 to_X12_factor lk_X12_110 iv_X12_factor ⟨rfl, rfl⟩ (mw_i34 hm) (Nat.le_of_ble_eq_true rfl) ⟨rfl, rfl⟩ ⟨by decide, by decide⟩ ?_
  refine c_factorW hC ?_
  refine Z_aload_n dX12_every_4 rfl rfl ?_
  refine Z_getIv dX12_every_5 cl_12 fl_X12_83_12 rfl (mw_i34 hm) PS_7 ?_
  refine Z_if_ne (tgt := 43) dX12_every_8 (by decide) (fun h8 => ?_) (fun h8 => ?_)
  · skip
    refine Z_vret dX12_every_43 rfl ⟨by decide, by decide⟩ ?_
    exact h
  · skip
    exact absurd h8 (by decide)
theorem c_someW (hC : PC α f τ N a) (h : post none (PS α f p 1 o)) : ZK G (d + 3) mX12_some [.ref (G.1 + 34)] (PS α f p 1 o) post := by
  have hm : ∀ {f : Nat → Int32} {p : Nat} {w : Int32} {o : Nat}, MW (PS α f p w o) := hC.1
  refine ZK.of (n := 0) (by decide) (Nat.le_of_ble_eq_true rfl) rfl ?_
  refine Z_aload_n dX12_some_0 rfl rfl ?_
  refine Z_V0z (ci := 12) dX12_some_1 to_X12_every lk_X12_130 iv_X12_every ⟨rfl, rfl⟩ (mw_i34 hm) (Nat.le_of_ble_eq_true rfl) ⟨rfl, rfl⟩ ⟨by decide, by decide⟩ ?_
  refine c_everyW hC ?_
  refine Z_aload_n dX12_some_4 rfl rfl ?_
  refine Z_getIv dX12_some_5 cl_12 fl_X12_83_12 rfl (mw_i34 hm) PS_7 ?_
  refine Z_if_ne (tgt := 43) dX12_some_8 (by decide) (fun h8 => ?_) (fun h8 => ?_)
  · skip
    refine Z_vret dX12_some_43 rfl ⟨by decide, by decide⟩ ?_
    exact h
  · skip
    exact absurd h8 (by decide)
theorem tst {x1 : Int32} (hC : PC α f τ N a) (hp : p ≤ N) (hc : f (187 + a) = nI c) (hcp : c ≤ p) (h : post none (PS α (zem f a c ((pTest τ N p).2.2.map mO)) (pTest τ N p).2.1 (b2i (!(pTest τ N p).1)) o)) : Z G mX12_factor (d + 6) 112 [some (.ref (G.1 + 34)), some (.int x1), none, none, none] [] (PS α f p 0 o) (0, 0) post := by
  have hm : ∀ {f : Nat → Int32} {p : Nat} {w : Int32} {o : Nat}, MW (PS α f p w o) := hC.1
  have hN := hC.2.2.2.1
  unfold pTest at h
  by_cases e1 : pIx τ N [115, 103, 108, 114, 100] p < 5
  · rw [if_pos e1] at h
    have l1 := pIx_lt (l := [115, 103, 108, 114, 100]) e1
    by_cases e2 : pIx τ N [60, 61, 62] (p + 1) < 3
    · rw [if_pos e2] at h
      have l2 := pIx_lt (l := [60, 61, 62]) e2
      have hn := pNum_ok (τ := τ) (N := N) (p := p + 2) (by omega)
      cases e3 : (pNum τ N (p + 2)).1 with
      | true =>
        rw [if_pos e3] at h
        have ex : nI (pIx τ N [115, 103, 108, 114, 100] p) + 8 * nI (pIx τ N [60, 61, 62] (p + 1)) + 32 * nI (pNum τ N (p + 2)).2.2 = mO (pIx τ N [115, 103, 108, 114, 100] p, pIx τ N [60, 61, 62] (p + 1), (pNum τ N (p + 2)).2.2) := by
          unfold mO
          rw [if_pos e1, show (8 : Int32) = nI 8 from rfl, show (32 : Int32) = nI 32 from rfl, pk_mul, nI_add, pk_mul, nI_add]
        refine Z_aload_n dX12_factor_112 rfl rfl ?_
        refine Z_ldcS (i := 7) dX12_factor_113 (by decide) ⟨rfl, rfl⟩ ?_
        refine Z_V1z (ci := 12) dX12_factor_115 to_X12_among lk_X12_121 iv_X12_among ⟨rfl, rfl⟩ (mw_i34 hm) (Nat.le_of_ble_eq_true rfl) ⟨rfl, rfl⟩ ⟨by decide, by decide⟩ ?_
        refine c_among (i := 7) (by decide) hC hp (fun _ => ?_) (fun z => absurd e1 z)
        rw [show pIx τ N (zCh 7) p = pIx τ N [115, 103, 108, 114, 100] p from rfl]
        refine Z_istore_n (L' := [_, _, _, _, _]) dX12_factor_118 rfl (by decide) rfl rfl ?_
        refine Z_aload_n dX12_factor_119 rfl rfl ?_
        refine Z_iload_n dX12_factor_120 rfl rfl ?_
        refine Z_iconst (v := -1) dX12_factor_121 (by decide) ?_
        refine Z_icmp_ne (tgt := 129) dX12_factor_122 (by decide) (fun h122 => ?_) (fun h122 => ?_)
        · skip
          refine Z_iconst (v := 0) dX12_factor_129 (by decide) ?_
          refine Z_putI dX12_factor_130 cl_12 fl_X12_83_12 (Or.inl fn_12_7) rfl (mw_i34 hm) rfl rfl ?_
          rw [PS_wr]
          refine Z_aload_n dX12_factor_133 rfl rfl ?_
          refine Z_getIv dX12_factor_134 cl_12 fl_X12_83_12 rfl (mw_i34 hm) PS_7 ?_
          refine Z_if_eq (tgt := 144) dX12_factor_137 (by decide) (fun h137 => ?_) (fun h137 => ?_)
          · skip
            refine Z_aload_n dX12_factor_144 rfl rfl ?_
            refine Z_ldcS (i := 8) dX12_factor_145 (by decide) ⟨rfl, rfl⟩ ?_
            refine Z_V1z (ci := 12) dX12_factor_147 to_X12_among lk_X12_121 iv_X12_among ⟨rfl, rfl⟩ (mw_i34 hm) (Nat.le_of_ble_eq_true rfl) ⟨rfl, rfl⟩ ⟨by decide, by decide⟩ ?_
            refine c_among (i := 8) (by decide) hC (by omega) (fun _ => ?_) (fun z => absurd e2 z)
            rw [show pIx τ N (zCh 8) (p + 1) = pIx τ N [60, 61, 62] (p + 1) from rfl]
            refine Z_istore_n (L' := [_, _, _, _, _]) dX12_factor_150 rfl (by decide) rfl rfl ?_
            refine Z_aload_n dX12_factor_151 rfl rfl ?_
            refine Z_aload_n dX12_factor_152 rfl rfl ?_
            refine Z_getIv dX12_factor_153 cl_12 fl_X12_83_12 rfl (mw_i34 hm) PS_7 ?_
            refine Z_if_ne (tgt := 164) dX12_factor_156 (by decide) (fun h156 => ?_) (fun h156 => ?_)
            · skip
              exact absurd rfl h156
            · skip
              refine Z_iload_n dX12_factor_159 rfl rfl ?_
              refine Z_iconst (v := -1) dX12_factor_160 (by decide) ?_
              refine Z_icmp_ne (tgt := 168) dX12_factor_161 (by decide) (fun h161 => ?_) (fun h161 => ?_)
              · skip
                refine Z_iconst (v := 0) dX12_factor_168 (by decide) ?_
                refine Z_putI dX12_factor_169 cl_12 fl_X12_83_12 (Or.inl fn_12_7) rfl (mw_i34 hm) rfl rfl ?_
                rw [PS_wr]
                refine Z_aload_n dX12_factor_172 rfl rfl ?_
                refine Z_V0z (ci := 12) dX12_factor_173 to_X12_figures lk_X12_127 iv_X12_figures ⟨rfl, rfl⟩ (mw_i34 hm) (Nat.le_of_ble_eq_true rfl) ⟨rfl, rfl⟩ ⟨by decide, by decide⟩ ?_
                refine c_figures hC (by omega) ?_
                rw [e3]
                refine Z_istore (L' := [_, _, _, _, _]) dX12_factor_176 (by decide) rfl rfl ?_
                refine Z_aload_n dX12_factor_178 rfl rfl ?_
                refine Z_iload_n dX12_factor_179 rfl rfl ?_
                refine Z_bipush (v := 8) dX12_factor_180 (by decide) ?_
                refine Z_iload_n dX12_factor_182 rfl rfl ?_
                refine Z_imul dX12_factor_183 ?_
                refine Z_iadd dX12_factor_184 ?_
                refine Z_bipush (v := 32) dX12_factor_185 (by decide) ?_
                refine Z_iload dX12_factor_187 rfl ?_
                refine Z_imul dX12_factor_189 ?_
                refine Z_iadd dX12_factor_190 ?_
                refine Z_V1z (ci := 12) dX12_factor_191 to_X12_emits lk_X12_113 iv_X12_emits ⟨rfl, rfl⟩ (mw_i34 hm) (Nat.le_of_ble_eq_true rfl) ⟨rfl, rfl⟩ ⟨by decide, by decide⟩ ?_
                rw [ex]
                refine c_emits hC hc (by omega) ?_
                refine Z_vret dX12_factor_194 rfl ⟨by decide, by decide⟩ ?_
                exact h
              · skip
                exact absurd h161 (nI_nm1 (by omega))
          · skip
            exact absurd rfl h137
        · skip
          exact absurd h122 (nI_nm1 (by omega))
      | false =>
        rw [if_neg (fun z => by rw [e3] at z; exact Bool.false_ne_true z)] at h
        have e4 : (pNum τ N (p + 2)).2.1 = p + 2 := by
          revert e3
          unfold pNum
          split
          · split
            · exact fun z => absurd z.symm Bool.false_ne_true
            · split <;> exact fun z => absurd z.symm Bool.false_ne_true
          · exact fun _ => rfl
        refine Z_aload_n dX12_factor_112 rfl rfl ?_
        refine Z_ldcS (i := 7) dX12_factor_113 (by decide) ⟨rfl, rfl⟩ ?_
        refine Z_V1z (ci := 12) dX12_factor_115 to_X12_among lk_X12_121 iv_X12_among ⟨rfl, rfl⟩ (mw_i34 hm) (Nat.le_of_ble_eq_true rfl) ⟨rfl, rfl⟩ ⟨by decide, by decide⟩ ?_
        refine c_among (i := 7) (by decide) hC hp (fun _ => ?_) (fun z => absurd e1 z)
        rw [show pIx τ N (zCh 7) p = pIx τ N [115, 103, 108, 114, 100] p from rfl]
        refine Z_istore_n (L' := [_, _, _, _, _]) dX12_factor_118 rfl (by decide) rfl rfl ?_
        refine Z_aload_n dX12_factor_119 rfl rfl ?_
        refine Z_iload_n dX12_factor_120 rfl rfl ?_
        refine Z_iconst (v := -1) dX12_factor_121 (by decide) ?_
        refine Z_icmp_ne (tgt := 129) dX12_factor_122 (by decide) (fun h122 => ?_) (fun h122 => ?_)
        · skip
          refine Z_iconst (v := 0) dX12_factor_129 (by decide) ?_
          refine Z_putI dX12_factor_130 cl_12 fl_X12_83_12 (Or.inl fn_12_7) rfl (mw_i34 hm) rfl rfl ?_
          rw [PS_wr]
          refine Z_aload_n dX12_factor_133 rfl rfl ?_
          refine Z_getIv dX12_factor_134 cl_12 fl_X12_83_12 rfl (mw_i34 hm) PS_7 ?_
          refine Z_if_eq (tgt := 144) dX12_factor_137 (by decide) (fun h137 => ?_) (fun h137 => ?_)
          · skip
            refine Z_aload_n dX12_factor_144 rfl rfl ?_
            refine Z_ldcS (i := 8) dX12_factor_145 (by decide) ⟨rfl, rfl⟩ ?_
            refine Z_V1z (ci := 12) dX12_factor_147 to_X12_among lk_X12_121 iv_X12_among ⟨rfl, rfl⟩ (mw_i34 hm) (Nat.le_of_ble_eq_true rfl) ⟨rfl, rfl⟩ ⟨by decide, by decide⟩ ?_
            refine c_among (i := 8) (by decide) hC (by omega) (fun _ => ?_) (fun z => absurd e2 z)
            rw [show pIx τ N (zCh 8) (p + 1) = pIx τ N [60, 61, 62] (p + 1) from rfl]
            refine Z_istore_n (L' := [_, _, _, _, _]) dX12_factor_150 rfl (by decide) rfl rfl ?_
            refine Z_aload_n dX12_factor_151 rfl rfl ?_
            refine Z_aload_n dX12_factor_152 rfl rfl ?_
            refine Z_getIv dX12_factor_153 cl_12 fl_X12_83_12 rfl (mw_i34 hm) PS_7 ?_
            refine Z_if_ne (tgt := 164) dX12_factor_156 (by decide) (fun h156 => ?_) (fun h156 => ?_)
            · skip
              exact absurd rfl h156
            · skip
              refine Z_iload_n dX12_factor_159 rfl rfl ?_
              refine Z_iconst (v := -1) dX12_factor_160 (by decide) ?_
              refine Z_icmp_ne (tgt := 168) dX12_factor_161 (by decide) (fun h161 => ?_) (fun h161 => ?_)
              · skip
                refine Z_iconst (v := 0) dX12_factor_168 (by decide) ?_
                refine Z_putI dX12_factor_169 cl_12 fl_X12_83_12 (Or.inl fn_12_7) rfl (mw_i34 hm) rfl rfl ?_
                rw [PS_wr]
                refine Z_aload_n dX12_factor_172 rfl rfl ?_
                refine Z_V0z (ci := 12) dX12_factor_173 to_X12_figures lk_X12_127 iv_X12_figures ⟨rfl, rfl⟩ (mw_i34 hm) (Nat.le_of_ble_eq_true rfl) ⟨rfl, rfl⟩ ⟨by decide, by decide⟩ ?_
                refine c_figures hC (by omega) ?_
                rw [e3, e4]
                refine Z_istore (L' := [_, _, _, _, _]) dX12_factor_176 (by decide) rfl rfl ?_
                refine Z_aload_n dX12_factor_178 rfl rfl ?_
                refine Z_iload_n dX12_factor_179 rfl rfl ?_
                refine Z_bipush (v := 8) dX12_factor_180 (by decide) ?_
                refine Z_iload_n dX12_factor_182 rfl rfl ?_
                refine Z_imul dX12_factor_183 ?_
                refine Z_iadd dX12_factor_184 ?_
                refine Z_bipush (v := 32) dX12_factor_185 (by decide) ?_
                refine Z_iload dX12_factor_187 rfl ?_
                refine Z_imul dX12_factor_189 ?_
                refine Z_iadd dX12_factor_190 ?_
                refine Z_V1z (ci := 12) dX12_factor_191 to_X12_emits lk_X12_113 iv_X12_emits ⟨rfl, rfl⟩ (mw_i34 hm) (Nat.le_of_ble_eq_true rfl) ⟨rfl, rfl⟩ ⟨by decide, by decide⟩ ?_
                refine c_emitsW hC ?_
                refine Z_vret dX12_factor_194 rfl ⟨by decide, by decide⟩ ?_
                exact h
              · skip
                exact absurd h161 (nI_nm1 (by omega))
          · skip
            exact absurd rfl h137
        · skip
          exact absurd h122 (nI_nm1 (by omega))
    · rw [if_neg e2] at h
      refine Z_aload_n dX12_factor_112 rfl rfl ?_
      refine Z_ldcS (i := 7) dX12_factor_113 (by decide) ⟨rfl, rfl⟩ ?_
      refine Z_V1z (ci := 12) dX12_factor_115 to_X12_among lk_X12_121 iv_X12_among ⟨rfl, rfl⟩ (mw_i34 hm) (Nat.le_of_ble_eq_true rfl) ⟨rfl, rfl⟩ ⟨by decide, by decide⟩ ?_
      refine c_among (i := 7) (by decide) hC hp (fun _ => ?_) (fun z => absurd e1 z)
      rw [show pIx τ N (zCh 7) p = pIx τ N [115, 103, 108, 114, 100] p from rfl]
      refine Z_istore_n (L' := [_, _, _, _, _]) dX12_factor_118 rfl (by decide) rfl rfl ?_
      refine Z_aload_n dX12_factor_119 rfl rfl ?_
      refine Z_iload_n dX12_factor_120 rfl rfl ?_
      refine Z_iconst (v := -1) dX12_factor_121 (by decide) ?_
      refine Z_icmp_ne (tgt := 129) dX12_factor_122 (by decide) (fun h122 => ?_) (fun h122 => ?_)
      · skip
        refine Z_iconst (v := 0) dX12_factor_129 (by decide) ?_
        refine Z_putI dX12_factor_130 cl_12 fl_X12_83_12 (Or.inl fn_12_7) rfl (mw_i34 hm) rfl rfl ?_
        rw [PS_wr]
        refine Z_aload_n dX12_factor_133 rfl rfl ?_
        refine Z_getIv dX12_factor_134 cl_12 fl_X12_83_12 rfl (mw_i34 hm) PS_7 ?_
        refine Z_if_eq (tgt := 144) dX12_factor_137 (by decide) (fun h137 => ?_) (fun h137 => ?_)
        · skip
          refine Z_aload_n dX12_factor_144 rfl rfl ?_
          refine Z_ldcS (i := 8) dX12_factor_145 (by decide) ⟨rfl, rfl⟩ ?_
          refine Z_V1z (ci := 12) dX12_factor_147 to_X12_among lk_X12_121 iv_X12_among ⟨rfl, rfl⟩ (mw_i34 hm) (Nat.le_of_ble_eq_true rfl) ⟨rfl, rfl⟩ ⟨by decide, by decide⟩ ?_
          refine c_among (i := 8) (by decide) hC (by omega) (fun z => absurd z e2) (fun _ => ?_)
          refine Z_istore_n (L' := [_, _, _, _, _]) dX12_factor_150 rfl (by decide) rfl rfl ?_
          refine Z_aload_n dX12_factor_151 rfl rfl ?_
          refine Z_aload_n dX12_factor_152 rfl rfl ?_
          refine Z_getIv dX12_factor_153 cl_12 fl_X12_83_12 rfl (mw_i34 hm) PS_7 ?_
          refine Z_if_ne (tgt := 164) dX12_factor_156 (by decide) (fun h156 => ?_) (fun h156 => ?_)
          · skip
            exact absurd rfl h156
          · skip
            refine Z_iload_n dX12_factor_159 rfl rfl ?_
            refine Z_iconst (v := -1) dX12_factor_160 (by decide) ?_
            refine Z_icmp_ne (tgt := 168) dX12_factor_161 (by decide) (fun h161 => ?_) (fun h161 => ?_)
            · skip
              exact absurd rfl h161
            · skip
              refine Z_iconst (v := 1) dX12_factor_164 (by decide) ?_
              refine Z_goto (tgt := 169) dX12_factor_165 (by decide) ?_
              refine Z_putI dX12_factor_169 cl_12 fl_X12_83_12 (Or.inl fn_12_7) rfl (mw_i34 hm) rfl rfl ?_
              rw [PS_wr]
              refine Z_aload_n dX12_factor_172 rfl rfl ?_
              refine Z_V0z (ci := 12) dX12_factor_173 to_X12_figures lk_X12_127 iv_X12_figures ⟨rfl, rfl⟩ (mw_i34 hm) (Nat.le_of_ble_eq_true rfl) ⟨rfl, rfl⟩ ⟨by decide, by decide⟩ ?_
              refine c_figuresW hC (by omega) ?_
              refine Z_istore (L' := [_, _, _, _, _]) dX12_factor_176 (by decide) rfl rfl ?_
              refine Z_aload_n dX12_factor_178 rfl rfl ?_
              refine Z_iload_n dX12_factor_179 rfl rfl ?_
              refine Z_bipush (v := 8) dX12_factor_180 (by decide) ?_
              refine Z_iload_n dX12_factor_182 rfl rfl ?_
              refine Z_imul dX12_factor_183 ?_
              refine Z_iadd dX12_factor_184 ?_
              refine Z_bipush (v := 32) dX12_factor_185 (by decide) ?_
              refine Z_iload dX12_factor_187 rfl ?_
              refine Z_imul dX12_factor_189 ?_
              refine Z_iadd dX12_factor_190 ?_
              refine Z_V1z (ci := 12) dX12_factor_191 to_X12_emits lk_X12_113 iv_X12_emits ⟨rfl, rfl⟩ (mw_i34 hm) (Nat.le_of_ble_eq_true rfl) ⟨rfl, rfl⟩ ⟨by decide, by decide⟩ ?_
              refine c_emitsW hC ?_
              refine Z_vret dX12_factor_194 rfl ⟨by decide, by decide⟩ ?_
              exact h
        · skip
          exact absurd rfl h137
      · skip
        exact absurd h122 (nI_nm1 (by omega))
  · rw [if_neg e1] at h
    refine Z_aload_n dX12_factor_112 rfl rfl ?_
    refine Z_ldcS (i := 7) dX12_factor_113 (by decide) ⟨rfl, rfl⟩ ?_
    refine Z_V1z (ci := 12) dX12_factor_115 to_X12_among lk_X12_121 iv_X12_among ⟨rfl, rfl⟩ (mw_i34 hm) (Nat.le_of_ble_eq_true rfl) ⟨rfl, rfl⟩ ⟨by decide, by decide⟩ ?_
    refine c_among (i := 7) (by decide) hC hp (fun z => absurd z e1) (fun _ => ?_)
    refine Z_istore_n (L' := [_, _, _, _, _]) dX12_factor_118 rfl (by decide) rfl rfl ?_
    refine Z_aload_n dX12_factor_119 rfl rfl ?_
    refine Z_iload_n dX12_factor_120 rfl rfl ?_
    refine Z_iconst (v := -1) dX12_factor_121 (by decide) ?_
    refine Z_icmp_ne (tgt := 129) dX12_factor_122 (by decide) (fun h122 => ?_) (fun h122 => ?_)
    · skip
      exact absurd rfl h122
    · skip
      refine Z_iconst (v := 1) dX12_factor_125 (by decide) ?_
      refine Z_goto (tgt := 130) dX12_factor_126 (by decide) ?_
      refine Z_putI dX12_factor_130 cl_12 fl_X12_83_12 (Or.inl fn_12_7) rfl (mw_i34 hm) rfl rfl ?_
      rw [PS_wr]
      refine Z_aload_n dX12_factor_133 rfl rfl ?_
      refine Z_getIv dX12_factor_134 cl_12 fl_X12_83_12 rfl (mw_i34 hm) PS_7 ?_
      refine Z_if_eq (tgt := 144) dX12_factor_137 (by decide) (fun h137 => ?_) (fun h137 => ?_)
      · skip
        exact absurd h137 (by decide)
      · skip
        refine Z_iconst (v := 0) dX12_factor_140 (by decide) ?_
        refine Z_goto (tgt := 150) dX12_factor_141 (by decide) ?_
        refine Z_istore_n (L' := [_, _, _, _, _]) dX12_factor_150 rfl (by decide) rfl rfl ?_
        refine Z_aload_n dX12_factor_151 rfl rfl ?_
        refine Z_aload_n dX12_factor_152 rfl rfl ?_
        refine Z_getIv dX12_factor_153 cl_12 fl_X12_83_12 rfl (mw_i34 hm) PS_7 ?_
        refine Z_if_ne (tgt := 164) dX12_factor_156 (by decide) (fun h156 => ?_) (fun h156 => ?_)
        · skip
          refine Z_iconst (v := 1) dX12_factor_164 (by decide) ?_
          refine Z_goto (tgt := 169) dX12_factor_165 (by decide) ?_
          refine Z_putI dX12_factor_169 cl_12 fl_X12_83_12 (Or.inl fn_12_7) rfl (mw_i34 hm) rfl rfl ?_
          rw [PS_wr]
          refine Z_aload_n dX12_factor_172 rfl rfl ?_
          refine Z_V0z (ci := 12) dX12_factor_173 to_X12_figures lk_X12_127 iv_X12_figures ⟨rfl, rfl⟩ (mw_i34 hm) (Nat.le_of_ble_eq_true rfl) ⟨rfl, rfl⟩ ⟨by decide, by decide⟩ ?_
          refine c_figuresW hC hp ?_
          refine Z_istore (L' := [_, _, _, _, _]) dX12_factor_176 (by decide) rfl rfl ?_
          refine Z_aload_n dX12_factor_178 rfl rfl ?_
          refine Z_iload_n dX12_factor_179 rfl rfl ?_
          refine Z_bipush (v := 8) dX12_factor_180 (by decide) ?_
          refine Z_iload_n dX12_factor_182 rfl rfl ?_
          refine Z_imul dX12_factor_183 ?_
          refine Z_iadd dX12_factor_184 ?_
          refine Z_bipush (v := 32) dX12_factor_185 (by decide) ?_
          refine Z_iload dX12_factor_187 rfl ?_
          refine Z_imul dX12_factor_189 ?_
          refine Z_iadd dX12_factor_190 ?_
          refine Z_V1z (ci := 12) dX12_factor_191 to_X12_emits lk_X12_113 iv_X12_emits ⟨rfl, rfl⟩ (mw_i34 hm) (Nat.le_of_ble_eq_true rfl) ⟨rfl, rfl⟩ ⟨by decide, by decide⟩ ?_
          refine c_emitsW hC ?_
          refine Z_vret dX12_factor_194 rfl ⟨by decide, by decide⟩ ?_
          exact h
        · skip
          exact absurd h156 (by decide)
end MP3
