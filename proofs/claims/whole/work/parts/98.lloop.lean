section LW3
variable {G : ZG} {d q : Nat} {A : ZA} {α : AH} {u : Nat × Nat} {post : Option Value → AH → Prop}
theorem la_step (hx : lX G q) (hh : lH A u) (hr : LI A α) (h : lG G d q A u post) : Z G mL_law (d + 101) 26 [some (.ref (G.2 50)), some (.ref (G.1 + 0)), some (.ref (G.1 + 34)), some (.int (nI q))] [] α u post := by
  refine Z_aload_n dL_law_26 rfl rfl ?_
  refine Z_iload_n dL_law_27 rfl rfl ?_
  refine Z_scr dL_law_28 hx.1 ?_
  refine Z_bipush (v := 63) dL_law_29 (by decide) ?_
  refine Z_iand dL_law_31 ?_
  refine Z_tab (tgt := 1188) dL_law_32 (fun i hx32 hh32 => ?_) (by decide) (fun hx32 => ?_)
  · skip
    have hi32 : i < 34 := by omega
    match i, hi32, hx32 with
    | 0, _, hx32 =>
      refine ⟨_, 184, rfl, by decide, ?_⟩
      exact la_bag hx hh hr h
    | 1, _, hx32 =>
      refine ⟨_, 217, rfl, by decide, ?_⟩
      exact la_feed hx hh hr h
    | 2, _, hx32 =>
      refine ⟨_, 240, rfl, by decide, ?_⟩
      exact la_valley hx hh hr h
    | 3, _, hx32 =>
      refine ⟨_, 253, rfl, by decide, ?_⟩
      exact la_told hx hh hr h
    | 4, _, hx32 =>
      refine ⟨_, 276, rfl, by decide, ?_⟩
      exact la_stage hx hh hr h
    | 5, _, hx32 =>
      refine ⟨_, 309, rfl, by decide, ?_⟩
      exact la_worker hx hh hr h
    | 6, _, hx32 =>
      refine ⟨_, 342, rfl, by decide, ?_⟩
      exact la_row hx hh hr h
    | 7, _, hx32 =>
      refine ⟨_, 385, rfl, by decide, ?_⟩
      exact la_of hx hh hr h
    | 8, _, hx32 =>
      refine ⟨_, 418, rfl, by decide, ?_⟩
      exact la_draw hx hh hr h
    | 9, _, hx32 =>
      refine ⟨_, 451, rfl, by decide, ?_⟩
      exact la_next hx hh hr h
    | 10, _, hx32 =>
      refine ⟨_, 485, rfl, by decide, ?_⟩
      exact la_run hx hh hr h
    | 11, _, hx32 =>
      refine ⟨_, 529, rfl, by decide, ?_⟩
      exact la_by hx hh hr h
    | 12, _, hx32 =>
      refine ⟨_, 583, rfl, by decide, ?_⟩
      exact la_first hx hh hr h
    | 13, _, hx32 =>
      refine ⟨_, 617, rfl, by decide, ?_⟩
      exact la_before hx hh hr h
    | 14, _, hx32 =>
      refine ⟨_, 661, rfl, by decide, ?_⟩
      exact la_orders hx hh hr h
    | 15, _, hx32 =>
      refine ⟨_, 675, rfl, by decide, ?_⟩
      exact la_mean hx hh hr h
    | 16, _, hx32 =>
      refine ⟨_, 719, rfl, by decide, ?_⟩
      exact la_today hx hh hr h
    | 17, _, hx32 =>
      refine ⟨_, 742, rfl, by decide, ?_⟩
      exact la_whatever hx hh hr h
    | 18, _, hx32 =>
      refine ⟨_, 755, rfl, by decide, ?_⟩
      exact la_most hx hh hr h
    | 19, _, hx32 =>
      refine ⟨_, 768, rfl, by decide, ?_⟩
      exact la_put hx hh hr h
    | 20, _, hx32 =>
      refine ⟨_, 802, rfl, by decide, ?_⟩
      exact la_pass hx hh hr h
    | 21, _, hx32 =>
      refine ⟨_, 836, rfl, by decide, ?_⟩
      exact la_cover hx hh hr h
    | 22, _, hx32 =>
      refine ⟨_, 880, rfl, by decide, ?_⟩
      exact la_right hx hh hr h
    | 23, _, hx32 =>
      refine ⟨_, 914, rfl, by decide, ?_⟩
      exact la_book hx hh hr h
    | 24, _, hx32 =>
      refine ⟨_, 937, rfl, by decide, ?_⟩
      exact la_likely hx hh hr h
    | 25, _, hx32 =>
      refine ⟨_, 961, rfl, by decide, ?_⟩
      exact la_judged hx hh hr h
    | 26, _, hx32 =>
      refine ⟨_, 994, rfl, by decide, ?_⟩
      exact la_other hx hh hr h
    | 27, _, hx32 =>
      refine ⟨_, 1027, rfl, by decide, ?_⟩
      exact la_same hx hh hr h
    | 28, _, hx32 =>
      refine ⟨_, 1040, rfl, by decide, ?_⟩
      exact la_act hx hh hr h
    | 29, _, hx32 =>
      refine ⟨_, 1083, rfl, by decide, ?_⟩
      exact la_trace hx hh hr h
    | 30, _, hx32 =>
      refine ⟨_, 1106, rfl, by decide, ?_⟩
      exact la_as hx hh hr h
    | 31, _, hx32 =>
      refine ⟨_, 1139, rfl, by decide, ?_⟩
      exact la_image hx hh hr h
    | 32, _, hx32 =>
      refine ⟨_, 1152, rfl, by decide, ?_⟩
      exact la_undo hx hh hr h
    | 33, _, hx32 =>
      refine ⟨_, 1165, rfl, by decide, ?_⟩
      exact la_count hx hh hr h
    | k + 34, h, _ => exact absurd h (by omega)
  · skip
    exact h _ _ _ hr (Nat.le_add_right _ _) ⟨Nat.le_add_right _ _, Nat.le_add_right _ _⟩
theorem la_cmp {j L : Nat} (hL : L ≤ 320) (hj : j ≤ 64) : nI L - 5 < nI (5 * j) ↔ ¬ 5 * j + 5 ≤ L := by
  have e : (nI L - 5 : Int32).toInt = (L : Int) - 5 := by
    rw [Int32.toInt_sub, nI_toInt (by omega), show (5 : Int32).toInt = 5 from by decide]
    exact Int.bmod_eq_of_le (by omega) (by omega)
  rw [Int32.lt_iff_toInt_lt, e, nI_toInt (by omega)]
  omega
theorem la_head {j : Nat} (hL : G.2 51 ≤ 320) (hj : j ≤ 64) (hu : u.1 ≤ 600000 ∧ u.2 ≤ 7302250) (hp : ∀ β, post (some (.int 1)) β) (h : 5 * j + 5 ≤ G.2 51 → Z G mL_law (d + 101) 26 [some (.ref (G.2 50)), some (.ref (G.1 + 0)), some (.ref (G.1 + 34)), some (.int (nI (5 * j)))] [] α u post) : Z G mL_law (d + 101) 18 [some (.ref (G.2 50)), some (.ref (G.1 + 0)), some (.ref (G.1 + 34)), some (.int (nI (5 * j)))] [] α u post := by
  refine Z_iload_n dL_law_18 rfl rfl ?_
  refine Z_aload_n dL_law_19 rfl rfl ?_
  refine Z_scl dL_law_20 ?_
  refine Z_iconst (v := 5) dL_law_21 (by decide) ?_
  refine Z_isub dL_law_22 ?_
  refine Z_icmp_gt (tgt := 1194) dL_law_23 (by decide) (fun h23 => ?_) (fun h23 => ?_)
  · skip
    refine Z_iconst (v := 1) dL_law_1194 (by decide) ?_
    refine Z_iret dL_law_1195 rfl rfl hu ?_
    exact hp _
  · skip
    exact h (Classical.byContradiction (fun k => h23 ((la_cmp hL hj).mpr k)))
theorem la_loop (hL : G.2 51 ≤ 320) (hp : ∀ β, post (some (.int 1)) β) : ∀ (n j : Nat) (A : ZA) (α : AH) (u : Nat × Nat), 64 ≤ j + n → j ≤ 64 → A.2.2.2 ≤ 2 * j → u.1 ≤ 100 + 5 * j → u.2 ≤ 200000 + 320 * j → LI A α → Z G mL_law (d + 101) 18 [some (.ref (G.2 50)), some (.ref (G.1 + 0)), some (.ref (G.1 + 34)), some (.int (nI (5 * j)))] [] α u post := by
  intro n
  induction n with
  | zero =>
    intro j A α u hn hj hs h1 h2 hr
    exact la_head hL hj ⟨by omega, by omega⟩ hp (fun h => absurd h (by omega))
  | succ n ih =>
    intro j A α u hn hj hs h1 h2 hr
    refine la_head hL hj ⟨by omega, by omega⟩ hp (fun h => ?_)
    refine la_step (lX_of h hL) ⟨⟨by omega, by omega⟩, by omega⟩ hr (fun B γ u1 hB hBs hu1 => ?_)
    refine Z_iinc (L' := [_, _, _, _]) dL_law_1188 rfl (show nI (5 * j) + Int32.ofInt 5 = nI (5 * (j + 1)) from nI_add (5 * j) 5) (by decide) rfl rfl ?_
    refine Z_goto (tgt := 18) dL_law_1191 (by decide) ?_
    exact ih (j + 1) B γ u1 (by omega) (by omega) (by omega) (by omega) (by omega) hB
/-- the law from its entry: both objects are made, then the loop -/
theorem la_law (hL : G.2 51 ≤ 320) (hp : ∀ β, post (some (.int 1)) β) (h0 : hN α = 0) : Z G mL_law (d + 101) 0 [some (.ref (G.2 50)), none, none, none] [] α (0, 0) post := by
  refine Z_new dL_law_0 cl_11 nc_L_7 cf_11 ⟨by decide, by decide⟩ ?_
  rw [h0]
  refine Z_dup dL_law_3 rfl ?_
  refine Z_I0 dL_law_4 to_X11_init lk_L_9 im_X11_init ⟨rfl, rfl⟩ (Nat.le_of_ble_eq_true rfl) ⟨by decide, by decide⟩ ?_
  refine k_cinit h0 (fun ω h34 hC => ?_)
  refine Z_astore_n (L' := [_, _, _, _]) dL_law_7 rfl (by decide) rfl rfl ?_
  refine Z_new dL_law_8 cl_12 nc_L_10 cf_12 ⟨by decide, by decide⟩ ?_
  rw [h34]
  refine Z_dup dL_law_11 rfl ?_
  refine Z_I0 dL_law_12 to_X12_init lk_L_12 im_X12_init ⟨rfl, rfl⟩ (Nat.le_of_ble_eq_true rfl) ⟨by decide, by decide⟩ ?_
  refine c_minit (by show ω.1 + 1 = 35; have : ω.1 = 34 := h34; omega) (by show u1 ω.2.1 ω.1 _ 34 = _; rw [show ω.1 = 34 from h34]; exact u1_s _ _ _) (by show u1 ω.2.2.1 ω.1 _ 34 = _; rw [show ω.1 = 34 from h34]; exact u1_s _ _ _) (fun β hM h52 hs => ?_)
  refine Z_astore_n (L' := [_, _, _, _]) dL_law_15 rfl (by decide) rfl rfl ?_
  refine Z_iconst (v := 0) dL_law_16 (by decide) ?_
  refine Z_istore_n (L' := [_, _, _, _]) dL_law_17 rfl (by decide) rfl rfl ?_
  have hC2 : CRel zΓ0 zA0 β := by
    refine hC.rel h34 (by omega) hM.2.1 (fun k hk => ?_)
    obtain ⟨a1, a2, a3, a4⟩ := hs k hk
    have hk' : k ≠ ω.1 := by have : ω.1 = 34 := h34; omega
    exact ⟨a1.trans (u1_n hk'), a2.trans (u1_n hk'), a3.trans (u1_n hk'), a4.trans (u1_n hk')⟩
  exact la_loop hL hp 64 0 zA0 β _ (by omega) (by omega) (by decide) (by decide) (by decide) ⟨hM, zΓ0, hC2⟩
end LW3
