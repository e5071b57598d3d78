section MV1
variable {G : ZG} {d : Nat} {α β : AH} {post : Option Value → AH → Prop} {A : ZA}
/-- f if a/b is more than c/e, -f if it is less -/
def zsg (f : Int32) (a b c e : Nat) : Int32 := if c * b < a * e then f else if a * e < c * b then -f else 0
theorem zsg_gt {f : Int32} {a b c e : Nat} (hb : 0 < b) (he : 0 < e) (h : c / e < a / b) : zsg f a b c e = f := by
  have h1 := Nat.div_add_mod a b
  have h2 := Nat.div_add_mod c e
  have h3 := Nat.mod_lt c he
  refine if_pos ?_
  have h4 : c < e * (c / e + 1) := by rw [Nat.mul_add]; omega
  have h5 : e * (c / e + 1) * b ≤ e * (a / b) * b := Nat.mul_le_mul_right b (Nat.mul_le_mul_left e h)
  have h6 : e * (a / b) * b ≤ a * e := by
    rw [Nat.mul_assoc, Nat.mul_comm e, Nat.mul_comm (a / b) b]
    exact Nat.mul_le_mul_right e (by omega)
  have h7 : c * b < e * (c / e + 1) * b := Nat.mul_lt_mul_of_pos_right h4 hb
  omega
theorem zsg_sw {f : Int32} {a b c e : Nat} : zsg f a b c e = zsg (-f) c e a b := by
  unfold zsg
  rw [Int32.neg_neg]
  by_cases h1 : c * b < a * e
  · rw [if_pos h1, if_neg (by omega), if_pos h1]
  · rw [if_neg h1]
    by_cases h2 : a * e < c * b
    · rw [if_pos h2, if_pos h2]
    · rw [if_neg h2, if_neg h2, if_neg h1]
theorem zsg_md {f : Int32} {a b c e : Nat} (h : a / b = c / e) : zsg f a b c e = zsg f (a % b) b (c % e) e := by
  have h1 : a * e = b * (a / b) * e + a % b * e := by rw [← Nat.add_mul, Nat.div_add_mod]
  have h2 : c * b = b * (a / b) * e + c % e * b := by
    have : b * (a / b) * e = e * (c / e) * b := by rw [h, Nat.mul_comm b, Nat.mul_comm e, Nat.mul_assoc, Nat.mul_assoc, Nat.mul_comm b e]
    rw [this, ← Nat.add_mul, Nat.div_add_mod]
  unfold zsg
  rw [h1, h2]
  by_cases g1 : c % e * b < a % b * e
  · rw [if_pos g1, if_pos (by omega)]
  · rw [if_neg g1, if_neg (by omega)]
    by_cases g2 : a % b * e < c % e * b
    · rw [if_pos g2, if_pos (by omega)]
    · rw [if_neg g2, if_neg (by omega)]
theorem zsg_fl {f : Int32} {a b c e : Nat} : zsg f a b c e = zsg (-f) b a e c := by
  rw [zsg_sw]
  unfold zsg
  rw [Nat.mul_comm a e, Nat.mul_comm c b]
theorem lp_against {a0 b0 c0 e0 : Int64} : ∀ (n a b c e : Nat), b ≤ n → 0 < b → 0 < e → a < 2 ^ 61 → b < 2 ^ 61 → c < 2 ^ 61 → e < 2 ^ 61 → ∀ (f : Int32) (x17 x19 x21 : Option Value), post (some (.int (zsg f a b c e))) α → Z G mX12_against (d + 1) 17 [some (.long a0), none, some (.long b0), none, some (.long c0), none, some (.long e0), none, some (.long (lN a)), none, some (.long (lN b)), none, some (.long (lN c)), none, some (.long (lN e)), none, some (.int f), x17, none, x19, none, x21, none] [] α (0, 0) post := by
  intro n
  induction n using Nat.strongRecOn with
  | ind n ih =>
    intro a b c e hn hb he la lb lc le f x17 x19 x21 h
    have nb : ¬ lN b = 0 := fun z => absurd ((pk_lEQ (b := 0) (by omega) (by omega)).mp z) (by omega)
    have ne : ¬ lN e = 0 := fun z => absurd ((pk_lEQ (b := 0) (by omega) (by omega)).mp z) (by omega)
    have d1 := Nat.div_le_self a b
    have d2 := Nat.div_le_self c e
    have m1 := Nat.mod_lt a hb
    have m2 := Nat.mod_lt c he
    have m3 := Nat.mod_le a b
    have m4 := Nat.mod_le c e
    refine Z_lload dX12_against_17 rfl ?_
    refine Z_lload dX12_against_19 rfl ?_
    refine Z_ldiv dX12_against_21 nb ?_
    rw [pk_lDiv (by omega) hb (by omega)]
    refine Z_lstore (L' := [_, _, _, _, _, _, _, _, _, _, _, _, _, _, _, _, _, _, _, _, _, _, _]) dX12_against_22 (by decide) rfl rfl ?_
    refine Z_lload dX12_against_24 rfl ?_
    refine Z_lload dX12_against_26 rfl ?_
    refine Z_ldiv dX12_against_28 ne ?_
    rw [pk_lDiv (by omega) he (by omega)]
    refine Z_lstore (L' := [_, _, _, _, _, _, _, _, _, _, _, _, _, _, _, _, _, _, _, _, _, _, _]) dX12_against_29 (by decide) rfl rfl ?_
    refine Z_lload dX12_against_31 rfl ?_
    refine Z_lload dX12_against_33 rfl ?_
    refine Z_lcmp dX12_against_35 ?_
    refine Z_if_eq (tgt := 56) dX12_against_36 (by decide) (fun h36 => ?_) (fun h36 => ?_)
    · skip
      have eq : a / b = c / e := (pk_lEQ (by omega) (by omega)).mp (lg_eq.mp h36)
      rw [zsg_md eq] at h
      refine Z_lload dX12_against_56 rfl ?_
      refine Z_lload dX12_against_58 rfl ?_
      refine Z_lrem dX12_against_60 nb ?_
      rw [pk_lRem (by omega) hb (by omega)]
      refine Z_lstore (L' := [_, _, _, _, _, _, _, _, _, _, _, _, _, _, _, _, _, _, _, _, _, _, _]) dX12_against_61 (by decide) rfl rfl ?_
      refine Z_lload dX12_against_63 rfl ?_
      refine Z_lload dX12_against_65 rfl ?_
      refine Z_lrem dX12_against_67 ne ?_
      rw [pk_lRem (by omega) he (by omega)]
      refine Z_lstore (L' := [_, _, _, _, _, _, _, _, _, _, _, _, _, _, _, _, _, _, _, _, _, _, _]) dX12_against_68 (by decide) rfl rfl ?_
      refine Z_lload dX12_against_70 rfl ?_
      refine Z_lconst (v := 0) dX12_against_72 (by decide) ?_
      refine Z_lcmp dX12_against_73 ?_
      refine Z_if_eq (tgt := 84) dX12_against_74 (by decide) (fun h74 => ?_) (fun h74 => ?_)
      · skip
        refine Z_lload dX12_against_84 rfl ?_
        refine Z_lload dX12_against_86 rfl ?_
        refine Z_lcmp dX12_against_88 ?_
        refine Z_if_ne (tgt := 96) dX12_against_89 (by decide) (fun h89 => ?_) (fun h89 => ?_)
        · skip
          refine Z_lload dX12_against_96 rfl ?_
          refine Z_lload dX12_against_98 rfl ?_
          refine Z_lcmp dX12_against_100 ?_
          refine Z_if_le (tgt := 109) dX12_against_101 (by decide) (fun h101 => ?_) (fun h101 => ?_)
          · skip
            refine Z_iload dX12_against_109 rfl ?_
            refine Z_ineg dX12_against_111 ?_
            refine Z_iret dX12_against_112 rfl rfl ⟨by decide, by decide⟩ ?_
            have hz : a % b = 0 ∨ c % e = 0 := by
              first
              | exact Or.inl ((pk_lEQ (b := 0) (by omega) (by omega)).mp (lg_eq.mp h74))
              | exact Or.inr ((pk_lEQ (b := 0) (by omega) (by omega)).mp (lg_eq.mp h81))
            generalize a % b = r at *
            generalize c % e = r2 at *
            have z1 : r * e = 0 ↔ r = 0 := ⟨fun z => (Nat.mul_eq_zero.mp z).resolve_right (by omega), fun z => by rw [z, Nat.zero_mul]⟩
            have z2 : r2 * b = 0 ↔ r2 = 0 := ⟨fun z => (Nat.mul_eq_zero.mp z).resolve_right (by omega), fun z => by rw [z, Nat.zero_mul]⟩
            unfold zsg at h
            first
              | (have h89 : r = r2 := (pk_lEQ (by omega) (by omega)).mp (lg_eq.mp h89)
                 rw [if_neg (by omega), if_neg (by omega)] at h
                 exact h)
              | (have h89 : ¬ r = r2 := fun z => h89 (lg_eq.mpr (by rw [z]))
                 have hle : r ≤ r2 := (pk_lLE (by omega) (by omega)).mp (lg_gt.mp h101)
                 rw [if_neg (by omega), if_pos (by omega)] at h
                 exact h)
              | (have h89 : ¬ r = r2 := fun z => h89 (lg_eq.mpr (by rw [z]))
                 have hle : ¬ r ≤ r2 := fun z => h101 (lg_gt.mpr ((pk_lLE (by omega) (by omega)).mpr z))
                 rw [if_pos (by omega)] at h
                 exact h)
          · skip
            refine Z_iload dX12_against_104 rfl ?_
            refine Z_goto (tgt := 112) dX12_against_106 (by decide) ?_
            refine Z_iret dX12_against_112 rfl rfl ⟨by decide, by decide⟩ ?_
            have hz : a % b = 0 ∨ c % e = 0 := by
              first
              | exact Or.inl ((pk_lEQ (b := 0) (by omega) (by omega)).mp (lg_eq.mp h74))
              | exact Or.inr ((pk_lEQ (b := 0) (by omega) (by omega)).mp (lg_eq.mp h81))
            generalize a % b = r at *
            generalize c % e = r2 at *
            have z1 : r * e = 0 ↔ r = 0 := ⟨fun z => (Nat.mul_eq_zero.mp z).resolve_right (by omega), fun z => by rw [z, Nat.zero_mul]⟩
            have z2 : r2 * b = 0 ↔ r2 = 0 := ⟨fun z => (Nat.mul_eq_zero.mp z).resolve_right (by omega), fun z => by rw [z, Nat.zero_mul]⟩
            unfold zsg at h
            first
              | (have h89 : r = r2 := (pk_lEQ (by omega) (by omega)).mp (lg_eq.mp h89)
                 rw [if_neg (by omega), if_neg (by omega)] at h
                 exact h)
              | (have h89 : ¬ r = r2 := fun z => h89 (lg_eq.mpr (by rw [z]))
                 have hle : r ≤ r2 := (pk_lLE (by omega) (by omega)).mp (lg_gt.mp h101)
                 rw [if_neg (by omega), if_pos (by omega)] at h
                 exact h)
              | (have h89 : ¬ r = r2 := fun z => h89 (lg_eq.mpr (by rw [z]))
                 have hle : ¬ r ≤ r2 := fun z => h101 (lg_gt.mpr ((pk_lLE (by omega) (by omega)).mpr z))
                 rw [if_pos (by omega)] at h
                 exact h)
        · skip
          refine Z_iconst (v := 0) dX12_against_92 (by decide) ?_
          refine Z_goto (tgt := 112) dX12_against_93 (by decide) ?_
          refine Z_iret dX12_against_112 rfl rfl ⟨by decide, by decide⟩ ?_
          have hz : a % b = 0 ∨ c % e = 0 := by
            first
            | exact Or.inl ((pk_lEQ (b := 0) (by omega) (by omega)).mp (lg_eq.mp h74))
            | exact Or.inr ((pk_lEQ (b := 0) (by omega) (by omega)).mp (lg_eq.mp h81))
          generalize a % b = r at *
          generalize c % e = r2 at *
          have z1 : r * e = 0 ↔ r = 0 := ⟨fun z => (Nat.mul_eq_zero.mp z).resolve_right (by omega), fun z => by rw [z, Nat.zero_mul]⟩
          have z2 : r2 * b = 0 ↔ r2 = 0 := ⟨fun z => (Nat.mul_eq_zero.mp z).resolve_right (by omega), fun z => by rw [z, Nat.zero_mul]⟩
          unfold zsg at h
          first
            | (have h89 : r = r2 := (pk_lEQ (by omega) (by omega)).mp (lg_eq.mp h89)
               rw [if_neg (by omega), if_neg (by omega)] at h
               exact h)
            | (have h89 : ¬ r = r2 := fun z => h89 (lg_eq.mpr (by rw [z]))
               have hle : r ≤ r2 := (pk_lLE (by omega) (by omega)).mp (lg_gt.mp h101)
               rw [if_neg (by omega), if_pos (by omega)] at h
               exact h)
            | (have h89 : ¬ r = r2 := fun z => h89 (lg_eq.mpr (by rw [z]))
               have hle : ¬ r ≤ r2 := fun z => h101 (lg_gt.mpr ((pk_lLE (by omega) (by omega)).mpr z))
               rw [if_pos (by omega)] at h
               exact h)
      · skip
        refine Z_lload dX12_against_77 rfl ?_
        refine Z_lconst (v := 0) dX12_against_79 (by decide) ?_
        refine Z_lcmp dX12_against_80 ?_
        refine Z_if_ne (tgt := 113) dX12_against_81 (by decide) (fun h81 => ?_) (fun h81 => ?_)
        · skip
          refine Z_lload dX12_against_113 rfl ?_
          refine Z_lstore (L' := [_, _, _, _, _, _, _, _, _, _, _, _, _, _, _, _, _, _, _, _, _, _, _]) dX12_against_115 (by decide) rfl rfl ?_
          refine Z_lload dX12_against_117 rfl ?_
          refine Z_lstore (L' := [_, _, _, _, _, _, _, _, _, _, _, _, _, _, _, _, _, _, _, _, _, _, _]) dX12_against_119 (by decide) rfl rfl ?_
          refine Z_lload dX12_against_121 rfl ?_
          refine Z_lstore (L' := [_, _, _, _, _, _, _, _, _, _, _, _, _, _, _, _, _, _, _, _, _, _, _]) dX12_against_123 (by decide) rfl rfl ?_
          refine Z_lload dX12_against_125 rfl ?_
          refine Z_lstore (L' := [_, _, _, _, _, _, _, _, _, _, _, _, _, _, _, _, _, _, _, _, _, _, _]) dX12_against_127 (by decide) rfl rfl ?_
          refine Z_lload dX12_against_129 rfl ?_
          refine Z_lstore (L' := [_, _, _, _, _, _, _, _, _, _, _, _, _, _, _, _, _, _, _, _, _, _, _]) dX12_against_131 (by decide) rfl rfl ?_
          refine Z_lload dX12_against_133 rfl ?_
          refine Z_lstore (L' := [_, _, _, _, _, _, _, _, _, _, _, _, _, _, _, _, _, _, _, _, _, _, _]) dX12_against_135 (by decide) rfl rfl ?_
          refine Z_iload dX12_against_137 rfl ?_
          refine Z_ineg dX12_against_139 ?_
          refine Z_istore (L' := [_, _, _, _, _, _, _, _, _, _, _, _, _, _, _, _, _, _, _, _, _, _, _]) dX12_against_140 (by decide) rfl rfl ?_
          refine Z_goto (tgt := 17) dX12_against_142 (by decide) ?_
          have p1 : 0 < a % b := Nat.pos_of_ne_zero (fun z => h74 (lg_eq.mpr (by rw [z]; rfl)))
          have p2 : 0 < c % e := Nat.pos_of_ne_zero (fun z => h81 (lg_eq.mpr (by rw [z]; rfl)))
          rw [zsg_fl] at h
          exact ih (a % b) (by omega) b (a % b) e (c % e) (Nat.le_refl _) p1 p2 (by omega) (by omega) (by omega) (by omega) (-f) _ _ _ h
        · skip
          refine Z_lload dX12_against_84 rfl ?_
          refine Z_lload dX12_against_86 rfl ?_
          refine Z_lcmp dX12_against_88 ?_
          refine Z_if_ne (tgt := 96) dX12_against_89 (by decide) (fun h89 => ?_) (fun h89 => ?_)
          · skip
            refine Z_lload dX12_against_96 rfl ?_
            refine Z_lload dX12_against_98 rfl ?_
            refine Z_lcmp dX12_against_100 ?_
            refine Z_if_le (tgt := 109) dX12_against_101 (by decide) (fun h101 => ?_) (fun h101 => ?_)
            · skip
              refine Z_iload dX12_against_109 rfl ?_
              refine Z_ineg dX12_against_111 ?_
              refine Z_iret dX12_against_112 rfl rfl ⟨by decide, by decide⟩ ?_
              have hz : a % b = 0 ∨ c % e = 0 := by
                first
                | exact Or.inl ((pk_lEQ (b := 0) (by omega) (by omega)).mp (lg_eq.mp h74))
                | exact Or.inr ((pk_lEQ (b := 0) (by omega) (by omega)).mp (lg_eq.mp h81))
              generalize a % b = r at *
              generalize c % e = r2 at *
              have z1 : r * e = 0 ↔ r = 0 := ⟨fun z => (Nat.mul_eq_zero.mp z).resolve_right (by omega), fun z => by rw [z, Nat.zero_mul]⟩
              have z2 : r2 * b = 0 ↔ r2 = 0 := ⟨fun z => (Nat.mul_eq_zero.mp z).resolve_right (by omega), fun z => by rw [z, Nat.zero_mul]⟩
              unfold zsg at h
              first
                | (have h89 : r = r2 := (pk_lEQ (by omega) (by omega)).mp (lg_eq.mp h89)
                   rw [if_neg (by omega), if_neg (by omega)] at h
                   exact h)
                | (have h89 : ¬ r = r2 := fun z => h89 (lg_eq.mpr (by rw [z]))
                   have hle : r ≤ r2 := (pk_lLE (by omega) (by omega)).mp (lg_gt.mp h101)
                   rw [if_neg (by omega), if_pos (by omega)] at h
                   exact h)
                | (have h89 : ¬ r = r2 := fun z => h89 (lg_eq.mpr (by rw [z]))
                   have hle : ¬ r ≤ r2 := fun z => h101 (lg_gt.mpr ((pk_lLE (by omega) (by omega)).mpr z))
                   rw [if_pos (by omega)] at h
                   exact h)
            · skip
              refine Z_iload dX12_against_104 rfl ?_
              refine Z_goto (tgt := 112) dX12_against_106 (by decide) ?_
              refine Z_iret dX12_against_112 rfl rfl ⟨by decide, by decide⟩ ?_
              have hz : a % b = 0 ∨ c % e = 0 := by
                first
                | exact Or.inl ((pk_lEQ (b := 0) (by omega) (by omega)).mp (lg_eq.mp h74))
                | exact Or.inr ((pk_lEQ (b := 0) (by omega) (by omega)).mp (lg_eq.mp h81))
              generalize a % b = r at *
              generalize c % e = r2 at *
              have z1 : r * e = 0 ↔ r = 0 := ⟨fun z => (Nat.mul_eq_zero.mp z).resolve_right (by omega), fun z => by rw [z, Nat.zero_mul]⟩
              have z2 : r2 * b = 0 ↔ r2 = 0 := ⟨fun z => (Nat.mul_eq_zero.mp z).resolve_right (by omega), fun z => by rw [z, Nat.zero_mul]⟩
              unfold zsg at h
              first
                | (have h89 : r = r2 := (pk_lEQ (by omega) (by omega)).mp (lg_eq.mp h89)
                   rw [if_neg (by omega), if_neg (by omega)] at h
                   exact h)
                | (have h89 : ¬ r = r2 := fun z => h89 (lg_eq.mpr (by rw [z]))
                   have hle : r ≤ r2 := (pk_lLE (by omega) (by omega)).mp (lg_gt.mp h101)
                   rw [if_neg (by omega), if_pos (by omega)] at h
                   exact h)
                | (have h89 : ¬ r = r2 := fun z => h89 (lg_eq.mpr (by rw [z]))
                   have hle : ¬ r ≤ r2 := fun z => h101 (lg_gt.mpr ((pk_lLE (by omega) (by omega)).mpr z))
                   rw [if_pos (by omega)] at h
                   exact h)
          · skip
            refine Z_iconst (v := 0) dX12_against_92 (by decide) ?_
            refine Z_goto (tgt := 112) dX12_against_93 (by decide) ?_
            refine Z_iret dX12_against_112 rfl rfl ⟨by decide, by decide⟩ ?_
            have hz : a % b = 0 ∨ c % e = 0 := by
              first
              | exact Or.inl ((pk_lEQ (b := 0) (by omega) (by omega)).mp (lg_eq.mp h74))
              | exact Or.inr ((pk_lEQ (b := 0) (by omega) (by omega)).mp (lg_eq.mp h81))
            generalize a % b = r at *
            generalize c % e = r2 at *
            have z1 : r * e = 0 ↔ r = 0 := ⟨fun z => (Nat.mul_eq_zero.mp z).resolve_right (by omega), fun z => by rw [z, Nat.zero_mul]⟩
            have z2 : r2 * b = 0 ↔ r2 = 0 := ⟨fun z => (Nat.mul_eq_zero.mp z).resolve_right (by omega), fun z => by rw [z, Nat.zero_mul]⟩
            unfold zsg at h
            first
              | (have h89 : r = r2 := (pk_lEQ (by omega) (by omega)).mp (lg_eq.mp h89)
                 rw [if_neg (by omega), if_neg (by omega)] at h
                 exact h)
              | (have h89 : ¬ r = r2 := fun z => h89 (lg_eq.mpr (by rw [z]))
                 have hle : r ≤ r2 := (pk_lLE (by omega) (by omega)).mp (lg_gt.mp h101)
                 rw [if_neg (by omega), if_pos (by omega)] at h
                 exact h)
              | (have h89 : ¬ r = r2 := fun z => h89 (lg_eq.mpr (by rw [z]))
                 have hle : ¬ r ≤ r2 := fun z => h101 (lg_gt.mpr ((pk_lLE (by omega) (by omega)).mpr z))
                 rw [if_pos (by omega)] at h
                 exact h)
    · skip
      refine Z_lload dX12_against_39 rfl ?_
      refine Z_lload dX12_against_41 rfl ?_
      refine Z_lcmp dX12_against_43 ?_
      refine Z_if_le (tgt := 52) dX12_against_44 (by decide) (fun h44 => ?_) (fun h44 => ?_)
      · skip
        refine Z_iload dX12_against_52 rfl ?_
        refine Z_ineg dX12_against_54 ?_
        refine Z_iret dX12_against_55 rfl rfl ⟨by decide, by decide⟩ ?_
        first
          | (have hle : a / b ≤ c / e := (pk_lLE (by omega) (by omega)).mp (lg_gt.mp h44)
             have hne : ¬ a / b = c / e := fun z => h36 (lg_eq.mpr (by rw [z]))
             rw [zsg_sw, zsg_gt he hb (by omega)] at h
             exact h)
          | (have hlt : ¬ a / b ≤ c / e := fun z => h44 (lg_gt.mpr ((pk_lLE (by omega) (by omega)).mpr z))
             rw [zsg_gt hb he (by omega)] at h
             exact h)
      · skip
        refine Z_iload dX12_against_47 rfl ?_
        refine Z_goto (tgt := 55) dX12_against_49 (by decide) ?_
        refine Z_iret dX12_against_55 rfl rfl ⟨by decide, by decide⟩ ?_
        first
          | (have hle : a / b ≤ c / e := (pk_lLE (by omega) (by omega)).mp (lg_gt.mp h44)
             have hne : ¬ a / b = c / e := fun z => h36 (lg_eq.mpr (by rw [z]))
             rw [zsg_sw, zsg_gt he hb (by omega)] at h
             exact h)
          | (have hlt : ¬ a / b ≤ c / e := fun z => h44 (lg_gt.mpr ((pk_lLE (by omega) (by omega)).mpr z))
             rw [zsg_gt hb he (by omega)] at h
             exact h)
theorem c_against {a b c e : Nat} (hb : 0 < b) (he : 0 < e) (la : a < 2 ^ 61) (lb : b < 2 ^ 61) (lc : c < 2 ^ 61) (le : e < 2 ^ 61) (h : post (some (.int (zsg 1 a b c e))) α) : ZK G (d + 1) mX12_against [.long (lN a), .long (lN b), .long (lN c), .long (lN e)] α post := by
  refine ZK.of (n := 15) (by decide) (Nat.le_of_ble_eq_true rfl) rfl ?_
  refine Z_lload_n dX12_against_0 rfl rfl ?_
  refine Z_lstore (L' := [_, _, _, _, _, _, _, _, _, _, _, _, _, _, _, _, _, _, _, _, _, _, _]) dX12_against_1 (by decide) rfl rfl ?_
  refine Z_lload_n dX12_against_3 rfl rfl ?_
  refine Z_lstore (L' := [_, _, _, _, _, _, _, _, _, _, _, _, _, _, _, _, _, _, _, _, _, _, _]) dX12_against_4 (by decide) rfl rfl ?_
  refine Z_lload dX12_against_6 rfl ?_
  refine Z_lstore (L' := [_, _, _, _, _, _, _, _, _, _, _, _, _, _, _, _, _, _, _, _, _, _, _]) dX12_against_8 (by decide) rfl rfl ?_
  refine Z_lload dX12_against_10 rfl ?_
  refine Z_lstore (L' := [_, _, _, _, _, _, _, _, _, _, _, _, _, _, _, _, _, _, _, _, _, _, _]) dX12_against_12 (by decide) rfl rfl ?_
  refine Z_iconst (v := 1) dX12_against_14 (by decide) ?_
  refine Z_istore (L' := [_, _, _, _, _, _, _, _, _, _, _, _, _, _, _, _, _, _, _, _, _, _, _]) dX12_against_15 (by decide) rfl rfl ?_
  exact lp_against b a b c e (Nat.le_refl b) hb he la lb lc le 1 none none none h
def sp_same (S : ZS) : Int32 := if (zodds S.1 164).1 * (zodds S.1 6).2 < (zodds S.1 6).1 * (zodds S.1 164).2 then 1 else if (zodds S.1 6).1 * (zodds S.1 164).2 < (zodds S.1 164).1 * (zodds S.1 6).2 then 2 else 0
theorem c_msame (hr : MRel A α) (h : ∀ β, MRel A β → frI mId α β → post (some (.int (sp_same A.1))) β) : ZK G (d + 3) mX12_same [.ref (G.1 + 34)] α post := by
  have hm := hr.mw
  refine ZK.of (n := 5) (by decide) (Nat.le_of_ble_eq_true rfl) rfl ?_
  refine Z_aload_n dX12_same_0 rfl rfl ?_
  refine Z_bipush (v := 6) dX12_same_1 (by decide) ?_
  refine Z_V1z (ci := 12) dX12_same_3 to_X12_oddsFrom lk_X12_297 iv_X12_oddsFrom ⟨rfl, rfl⟩ (mw_i34 hm) (Nat.le_of_ble_eq_true rfl) ⟨rfl, rfl⟩ ⟨by decide, by decide⟩ ?_
  refine c_oddsFrom (a := 6) (Or.inl rfl) hr (fun u l γ e hu hl0 hl hr1 hf1 _ g26 g27 => ?_)
  have hm := hr1.mw
  refine Z_aload_n dX12_same_6 rfl rfl ?_
  refine Z_getJv dX12_same_7 cl_12 fl_X12_287_12 rfl (mw_i34 hm) g26 ?_
  refine Z_lstore_n (L' := [_, _, _, _, _, _]) dX12_same_10 rfl (by decide) rfl rfl ?_
  refine Z_aload_n dX12_same_11 rfl rfl ?_
  refine Z_getJv dX12_same_12 cl_12 fl_X12_291_12 rfl (mw_i34 hm) g27 ?_
  refine Z_lstore_n (L' := [_, _, _, _, _, _]) dX12_same_15 rfl (by decide) rfl rfl ?_
  refine Z_aload_n dX12_same_16 rfl rfl ?_
  refine Z_sipush (v := 164) dX12_same_17 (by decide) ?_
  refine Z_V1z (ci := 12) dX12_same_20 to_X12_oddsFrom lk_X12_297 iv_X12_oddsFrom ⟨rfl, rfl⟩ (mw_i34 hm) (Nat.le_of_ble_eq_true rfl) ⟨rfl, rfl⟩ ⟨by decide, by decide⟩ ?_
  refine c_oddsFrom (a := 164) (Or.inr rfl) hr1 (fun u2 l2 δ e2 hu2 hl02 hl2 hr2 hf2 _ k26 k27 => ?_)
  have hm := hr2.mw
  have hp := h δ hr2 ((hf1.tr hf2).mono (fun k hk => by subst hk; exact mid34))
  unfold sp_same at hp
  rw [show zodds A.1.1 6 = (u, l) from e.symm, show zodds A.1.1 164 = (u2, l2) from e2.symm] at hp
  refine Z_lload_n dX12_same_23 rfl rfl ?_
  refine Z_lload_n dX12_same_24 rfl rfl ?_
  refine Z_aload_n dX12_same_25 rfl rfl ?_
  refine Z_getJv dX12_same_26 cl_12 fl_X12_287_12 rfl (mw_i34 hm) k26 ?_
  refine Z_aload_n dX12_same_29 rfl rfl ?_
  refine Z_getJv dX12_same_30 cl_12 fl_X12_291_12 rfl (mw_i34 hm) k27 ?_
  refine Z_S4z dX12_same_33 to_X12_against lk_X12_300 sc_X12_against (Nat.le_of_ble_eq_true rfl) ⟨rfl, rfl⟩ ⟨by decide, by decide⟩ ?_
  refine c_against hl0 hl02 hu hl hu2 hl2 ?_
  unfold zsg
  refine Z_istore (L' := [_, _, _, _, _, _]) dX12_same_36 (by decide) rfl rfl ?_
  refine Z_iload dX12_same_38 rfl ?_
  refine Z_if_le (tgt := 47) dX12_same_40 (by decide) (fun h40 => ?_) (fun h40 => ?_)
  · skip
    refine Z_iload dX12_same_47 rfl ?_
    refine Z_if_ge (tgt := 56) dX12_same_49 (by decide) (fun h49 => ?_) (fun h49 => ?_)
    · skip
      refine Z_iconst (v := 0) dX12_same_56 (by decide) ?_
      refine Z_iret dX12_same_57 rfl rfl ⟨by decide, by decide⟩ ?_
      dsimp only at hp
      by_cases g1 : u2 * l < u * l2
      · rw [if_pos g1] at hp
        first | exact hp | (rw [if_pos g1] at h40; exact absurd h40 (by decide))
      · rw [if_neg g1] at hp
        by_cases g2 : u * l2 < u2 * l
        · rw [if_pos g2] at hp
          first | exact hp | (rw [if_neg g1, if_pos g2] at h40; exact absurd (by decide) h40) | (rw [if_neg g1, if_pos g2] at h49; exact absurd h49 (by decide))
        · rw [if_neg g2] at hp
          first | exact hp | (rw [if_neg g1, if_neg g2] at h40; exact absurd (by decide) h40) | (rw [if_neg g1, if_neg g2] at h49; exact absurd (by decide) h49)
    · skip
      refine Z_iconst (v := 2) dX12_same_52 (by decide) ?_
      refine Z_goto (tgt := 57) dX12_same_53 (by decide) ?_
      refine Z_iret dX12_same_57 rfl rfl ⟨by decide, by decide⟩ ?_
      dsimp only at hp
      by_cases g1 : u2 * l < u * l2
      · rw [if_pos g1] at hp
        first | exact hp | (rw [if_pos g1] at h40; exact absurd h40 (by decide))
      · rw [if_neg g1] at hp
        by_cases g2 : u * l2 < u2 * l
        · rw [if_pos g2] at hp
          first | exact hp | (rw [if_neg g1, if_pos g2] at h40; exact absurd (by decide) h40) | (rw [if_neg g1, if_pos g2] at h49; exact absurd h49 (by decide))
        · rw [if_neg g2] at hp
          first | exact hp | (rw [if_neg g1, if_neg g2] at h40; exact absurd (by decide) h40) | (rw [if_neg g1, if_neg g2] at h49; exact absurd (by decide) h49)
  · skip
    refine Z_iconst (v := 1) dX12_same_43 (by decide) ?_
    refine Z_goto (tgt := 57) dX12_same_44 (by decide) ?_
    refine Z_iret dX12_same_57 rfl rfl ⟨by decide, by decide⟩ ?_
    dsimp only at hp
    by_cases g1 : u2 * l < u * l2
    · rw [if_pos g1] at hp
      first | exact hp | (rw [if_pos g1] at h40; exact absurd h40 (by decide))
    · rw [if_neg g1] at hp
      by_cases g2 : u * l2 < u2 * l
      · rw [if_pos g2] at hp
        first | exact hp | (rw [if_neg g1, if_pos g2] at h40; exact absurd (by decide) h40) | (rw [if_neg g1, if_pos g2] at h49; exact absurd h49 (by decide))
      · rw [if_neg g2] at hp
        first | exact hp | (rw [if_neg g1, if_neg g2] at h40; exact absurd (by decide) h40) | (rw [if_neg g1, if_neg g2] at h49; exact absurd (by decide) h49)
end MV1
