section CI5
variable {G : ZG} {d : Nat} {α : AH} {post : Option Value → AH → Prop}
theorem k_cinit (h0 : hN α = 0) (h : ∀ ω, hN ω = 34 → CI0 ω → post none ω) : ZK G (d + 2) mX11_init [.ref (G.1 + 0)] (nw α (15, 7) (fun _ => 0)) post := by
  obtain ⟨n, s, i, j, p⟩ := α
  have h0 : n = 0 := h0
  subst h0
  refine ZK.of (n := 3) (by decide) (Nat.le_of_ble_eq_true rfl) rfl ?_
  refine Z_aload_n dX11_init_0 rfl rfl ?_
  refine Z_obj dX11_init_1 ob_X11_5 (Nat.le_of_ble_eq_true rfl) ?_
  refine Z_iconst (v := 0) dX11_init_4 (by decide) ?_
  refine Z_newa (t := 0) (N := 0) dX11_init_5 rfl (Or.inl ⟨rfl, rfl⟩) wd_55 (by decide) (by decide) (by decide) ⟨by decide, by decide⟩ ?_
  refine Z_astore_n (L' := [_, _, _, _]) dX11_init_7 rfl (by decide) rfl rfl ?_
  refine Z_new dX11_init_8 cl_8 nc_X11_11 cf_8 ⟨by decide, by decide⟩ ?_
  refine Z_dup dX11_init_11 rfl ?_
  refine Z_aload_n dX11_init_12 rfl rfl ?_
  refine Z_aload_n dX11_init_13 rfl rfl ?_
  refine Z_aload_n dX11_init_14 rfl rfl ?_
  refine Z_iconst (v := 3) dX11_init_15 (by decide) ?_
  refine Z_newa (t := 0) (N := 3) dX11_init_16 rfl (Or.inl ⟨rfl, rfl⟩) wd_55 (by decide) (by decide) (by decide) ⟨by decide, by decide⟩ ?_
  refine Z_dup dX11_init_18 rfl ?_
  refine Z_iconst (v := 0) dX11_init_19 (by decide) ?_
  refine Z_iconst (v := 1) dX11_init_20 (by decide) ?_
  refine Z_iast dX11_init_21 ⟨Nat.le_of_ble_eq_true rfl, rfl⟩ (zix_k (m := 0) (by decide)) ?_
  refine Z_dup dX11_init_22 rfl ?_
  refine Z_iconst (v := 1) dX11_init_23 (by decide) ?_
  refine Z_iconst (v := 1) dX11_init_24 (by decide) ?_
  refine Z_iast dX11_init_25 ⟨Nat.le_of_ble_eq_true rfl, rfl⟩ (zix_k (m := 1) (by decide)) ?_
  refine Z_dup dX11_init_26 rfl ?_
  refine Z_iconst (v := 2) dX11_init_27 (by decide) ?_
  refine Z_iconst (v := 1) dX11_init_28 (by decide) ?_
  refine Z_iast dX11_init_29 ⟨Nat.le_of_ble_eq_true rfl, rfl⟩ (zix_k (m := 2) (by decide)) ?_
  refine Z_iconst (v := 0) dX11_init_30 (by decide) ?_
  refine Z_I5z dX11_init_31 to_X8_init lk_X11_13 im_X8_init ⟨rfl, rfl⟩ (Nat.le_of_ble_eq_true rfl) ⟨rfl, rfl⟩ ⟨by decide, by decide⟩ ?_
  refine k_vinit ⟨Nat.le_of_ble_eq_true rfl, rfl⟩ ?_
  refine Z_astore_n (L' := [_, _, _, _]) dX11_init_34 rfl (by decide) rfl rfl ?_
  refine Z_sipush (v := 5832) dX11_init_35 (by decide) ?_
  refine Z_newa (t := 0) (N := 5832) dX11_init_38 rfl (Or.inl ⟨rfl, rfl⟩) wd_55 (by decide) (by decide) (by decide) ⟨by decide, by decide⟩ ?_
  refine Z_astore_n (L' := [_, _, _, _]) dX11_init_40 rfl (by decide) rfl rfl ?_
  refine cin_rest rfl ⟨Nat.le_of_ble_eq_true rfl, rfl⟩ ⟨Nat.le_of_ble_eq_true rfl, rfl⟩ ⟨Nat.le_of_ble_eq_true rfl, rfl⟩ ⟨Nat.le_of_ble_eq_true rfl, rfl⟩ ⟨Nat.le_of_ble_eq_true rfl, rfl⟩ ⟨rfl, rfl, rfl, rfl, rfl⟩ (fun k hk => ?_) rfl h
  have e : k = 0 ∨ k = 1 ∨ k = 2 := by omega
  rcases e with rfl | rfl | rfl <;> rfl
end CI5
