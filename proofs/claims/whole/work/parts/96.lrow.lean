abbrev mL_law : ZM := (yL_law, cL_law, 4, some .boolean, 600000, 7302250)
section LW1
variable {G : ZG} {M : ZM} {d pc q : Nat} {A : ZA} {L : List (Option Value)} {st : List Value} {α β γ : AH} {u : Nat × Nat} {post : Option Value → AH → Prop}
theorem Z_scl (hd : decode (mC M) pc = .ok (.arraylength, 1)) (kk : Z G M d (pc + 1) L (.int (nI (G.2 51)) :: st) α u post) : Z G M d pc L (.ref (G.2 50) :: st) α u post := by
  refine Z.goR (fun p l e R s m args below meth c' Q D dA H locs ls C hR hV hl kk => ?_) kk
  obtain ⟨hx, hb, -, hown, hts, hname, hK, hX, -⟩ := C
  exact va_tlen hx hb hX.2.2.2.2.1.2 hV rfl hd kk
/-- both sides hold the same state -/
def LI (A : ZA) (α : AH) : Prop := MRel A α ∧ ∃ Γ, CRel Γ A α
/-- the places of a call's row -/
def lX (G : ZG) (q : Nat) : Prop := zix (nI q) (G.2 51) q ∧ zix (nI q + 1) (G.2 51) (q + 1) ∧ zix (nI q + 2) (G.2 51) (q + 2) ∧ zix (nI q + 3) (G.2 51) (q + 3) ∧ zix (nI q + 4) (G.2 51) (q + 4)
def lG (G : ZG) (d q : Nat) (A : ZA) (u : Nat × Nat) (post : Option Value → AH → Prop) : Prop := ∀ (B : ZA) (γ : AH) (u1 : Nat × Nat), LI B γ → B.2.2.2 ≤ A.2.2.2 + 2 → (u1.1 ≤ u.1 + 5 ∧ u1.2 ≤ u.2 + 320) → Z G mL_law (d + 101) 1188 [some (.ref (G.2 50)), some (.ref (G.1 + 0)), some (.ref (G.1 + 34)), some (.int (nI q))] [] γ u1 post
def lH (A : ZA) (u : Nat × Nat) : Prop := (u.1 + 5 ≤ 600000 ∧ u.2 + 320 ≤ 7302250) ∧ A.2.2.2 + 4 < 1000
theorem lX_of (h : q + 5 ≤ G.2 51) (hL : G.2 51 ≤ 320) : lX G q := by
  have e : ∀ k, nI q + nI k = nI (q + k) := fun k => nI_add q k
  have z : ∀ k, k < 5 → zix (nI q + nI k) (G.2 51) (q + k) := fun k hk => by rw [e]; exact zix_nI (by omega) (by omega)
  exact ⟨zix_nI (by omega) (by omega), z 1 (by omega), z 2 (by omega), z 3 (by omega), z 4 (by omega)⟩
theorem lH.z {K S : Nat} (h : lH A u) (hK : K ≤ 5 ∧ S ≤ 320) : u.1 + K ≤ mK mL_law ∧ u.2 + S ≤ mS mL_law := ⟨Nat.le_trans (by omega) h.1.1, Nat.le_trans (by omega) h.1.2⟩
theorem lH.o (h : lH A u) : u.1 ≤ mK mL_law ∧ u.2 ≤ mS mL_law := ⟨Nat.le_trans (by omega) h.1.1, Nat.le_trans (by omega) h.1.2⟩
theorem lcmp_self {x : Int64} : lg_cmp x x = 0 := by
  unfold lg_cmp
  simp
theorem ls_chg {b : Nat} {hi x n : Int32} : (sp_chg A b hi x n).2.2.2.2 = A.2.2.2 := by unfold sp_chg; repeat' split
                                                                                        all_goals rfl
theorem ls_feed {x : Int32} : (sp_feed A x).2.2.2.2 = A.2.2.2 := by unfold sp_feed; repeat' split
                                                                    all_goals rfl
theorem ls_worker {k v : Int32} : (sp_worker A k v).2.2.2.2 = A.2.2.2 := by unfold sp_worker; repeat' split
                                                                            all_goals rfl
theorem ls_row {a x n : Int32} : (sp_row A a x n).2.2.2.2 = A.2.2.2 := by unfold sp_row; repeat' split
                                                                          all_goals rfl
theorem ls_draw {a x : Int32} : (sp_draw A a x).2.2.2.2 = A.2.2.2 := by
  have e : ∀ s k, (zdrawn A s k).2.2.2 = A.2.2.2 := fun s k => by unfold zdrawn; split <;> rfl
  unfold sp_draw
  repeat' split
  · rfl
  · exact e _ _
  · rfl
theorem ls_book {x : Int32} : (sp_book A x).2.2.2.2 = A.2.2.2 := by unfold sp_book; repeat' split
                                                                    all_goals rfl
theorem ls_act {a b x : Int32} : (sp_act A a b x).2.2.2.2 = A.2.2.2 := by unfold sp_act; split
                                                                          all_goals rfl
theorem ls_undo : (sp_undo A).2.2.2.2 = A.2.2.2 := by unfold sp_undo; split
                                                      all_goals rfl
end LW1
