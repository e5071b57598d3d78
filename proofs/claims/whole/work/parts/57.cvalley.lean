section CV1
theorem nx_and (a b : Nat) : nI a &&& nI b = nI (a &&& b) := by
  apply Int32.toBitVec_inj.1
  show BitVec.ofNat 32 a &&& BitVec.ofNat 32 b = BitVec.ofNat 32 (a &&& b)
  apply BitVec.eq_of_getLsbD_eq
  intro i hi
  simp [hi]
theorem nx_xor (a b : Nat) : nI a ^^^ nI b = nI (a ^^^ b) := by
  apply Int32.toBitVec_inj.1
  show BitVec.ofNat 32 a ^^^ BitVec.ofNat 32 b = BitVec.ofNat 32 (a ^^^ b)
  apply BitVec.eq_of_getLsbD_eq
  intro i hi
  simp [hi]
theorem nx_or (a b : Nat) : nI a ||| nI b = nI (a ||| b) := by
  apply Int32.toBitVec_inj.1
  show BitVec.ofNat 32 a ||| BitVec.ofNat 32 b = BitVec.ofNat 32 (a ||| b)
  apply BitVec.eq_of_getLsbD_eq
  intro i hi
  simp [hi]
/-- a stack of bits in one number -/
def hbit (b : Bool) : Nat := if b then 1 else 0
theorem hbit_le (b : Bool) : hbit b ≤ 1 := by cases b <;> decide
def hst (dy : Nat → Nat) (n : Nat) (o : ZOp) : Nat := if o.1 = 5 then (if n % 2 = 1 then n - 1 else n + 1) else if o.1 = 6 then (if n % 2 = 1 then n / 2 else n / 2 - n / 2 % 2) else if o.1 = 7 then (if n % 2 = 1 then n / 2 - n / 2 % 2 + 1 else n / 2) else 2 * n + hbit (zcmp o.2.1 (dy o.1) o.2.2)
theorem w_top {n : Nat} (h : n < 2 ^ 20) : nI n &&& 1 = nI (n % 2) := pk_andN (by omega) (k := 1) rfl
theorem w_not {n : Nat} (h : n < 2 ^ 20) : nI n ^^^ 1 = nI (if n % 2 = 1 then n - 1 else n + 1) := by
  rw [show (1 : Int32) = nI 1 from rfl, nx_xor]
  congr 1
  have h1 : (n ^^^ 1) / 2 = n / 2 := by rw [Nat.xor_div_two]; simp
  have h2 : ((n ^^^ 1) % 2 = 1) ↔ ¬ (n % 2 = 1) := by
    have := Nat.testBit_xor n 1 0
    rw [Nat.testBit_zero, Nat.testBit_zero, Nat.testBit_zero] at this
    by_cases hp : n % 2 = 1 <;> simp [hp] at this ⊢ <;> omega
  split <;> omega
theorem w_and {n : Nat} (h : n < 2 ^ 20) : (nI n >>> ((1 : Int32) &&& 31)) &&& (nI (n % 2) - 2) = nI (if n % 2 = 1 then n / 2 else n / 2 - n / 2 % 2) := by
  rw [pk_shrN (by omega) _ 1 (by decide)]
  by_cases hp : n % 2 = 1
  · rw [hp, if_pos rfl, show nI 1 - 2 = nI 4294967295 from by decide, nx_and, show (4294967295 : Nat) = 2 ^ 32 - 1 from by decide, Nat.and_two_pow_sub_one_eq_mod, Nat.mod_eq_of_lt (by omega)]
  · rw [show n % 2 = 0 by omega, if_neg (by decide), show nI 0 - 2 = nI 4294967294 from by decide, nx_and]
    congr 1
    have h1 : (n / 2 ^ 1 &&& 4294967294) / 2 = n / 2 / 2 := by
      rw [Nat.and_div_two, show (4294967294 : Nat) / 2 = 2 ^ 31 - 1 from by decide, Nat.and_two_pow_sub_one_eq_mod, Nat.mod_eq_of_lt (by omega)]
    have h2 : (n / 2 ^ 1 &&& 4294967294) % 2 = 0 := by
      have := Nat.and_mod_two_pow (a := n / 2 ^ 1) (b := 4294967294) (n := 1)
      rw [show (4294967294 : Nat) % 2 ^ 1 = 0 from by decide, Nat.and_zero] at this
      exact this
    omega
theorem w_or {n : Nat} (h : n < 2 ^ 20) : (nI n >>> ((1 : Int32) &&& 31)) ||| nI (n % 2) = nI (if n % 2 = 1 then n / 2 - n / 2 % 2 + 1 else n / 2) := by
  rw [pk_shrN (by omega) _ 1 (by decide), nx_or]
  congr 1
  by_cases hp : n % 2 = 1
  · rw [hp, if_pos rfl]
    have h1 : (n / 2 ^ 1 ||| 1) / 2 = n / 2 / 2 := by rw [Nat.or_div_two]; simp
    have h2 : (n / 2 ^ 1 ||| 1) % 2 = 1 := by simp
    omega
  · rw [show n % 2 = 0 by omega, if_neg (by decide)]
    simp
theorem w_psh {n b : Nat} (h : n < 2 ^ 20) (hb : b < 2) : (nI n <<< ((1 : Int32) &&& 31)) ||| nI b = nI (2 * n + b) := by
  rw [pk_shlN _ 1 (by decide) (by omega), nx_or]
  congr 1
  rw [Nat.mul_comm n]
  exact (Nat.two_pow_add_eq_or_of_lt (i := 1) hb n).symm
/-- no number of the stack is too large -/
def hSafe (dy : Nat → Nat) : Nat → List ZOp → Prop
  | n, [] => n < 2 ^ 20
  | n, o :: l => n < 2 ^ 20 ∧ hSafe dy (hst dy n o) l
theorem hSafe.at {dy : Nat → Nat} {n : Nat} {l : List ZOp} (h : hSafe dy n l) : n < 2 ^ 20 := by
  cases l with
  | nil => exact h
  | cons o l => exact h.1
theorem hSafe.app {dy : Nat → Nat} : ∀ {l1 l2 : List ZOp} {n : Nat}, hSafe dy n l1 → hSafe dy (l1.foldl (hst dy) n) l2 → hSafe dy n (l1 ++ l2)
  | [], l2, n, _, h => h
  | o :: l1, l2, n, h, h2 => ⟨h.1, hSafe.app (l1 := l1) h.2 h2⟩
def opOk (o : ZOp) : Prop := (o.1 < 5 ∧ o.2.1 < 3 ∧ o.2.2 ≤ 99) ∨ o.1 = 5 ∨ o.1 = 6 ∨ o.1 = 7
theorem WO.bits {h : Nat} {o : List ZOp} (w : WO h o) (dy : Nat → Nat) : (∀ n, o.foldl (hst dy) n = 2 * n + hbit (zval1 dy o)) ∧ (∀ n k, n < 2 ^ k → k + h ≤ 20 → hSafe dy n o) ∧ ∀ x ∈ o, opOk x := by
  have key : 1 ≤ h ∧ ∃ v : Bool, (∀ ts : List Bool, o.foldl (zst1 dy) ts = v :: ts) ∧ (∀ n, o.foldl (hst dy) n = 2 * n + hbit v) ∧ (∀ n k, n < 2 ^ k → k + h ≤ 20 → hSafe dy n o) ∧ ∀ x ∈ o, opOk x := by
    refine w (fun h o => 1 ≤ h ∧ ∃ v : Bool, (∀ ts : List Bool, o.foldl (zst1 dy) ts = v :: ts) ∧ (∀ n, o.foldl (hst dy) n = 2 * n + hbit v) ∧ (∀ n k, n < 2 ^ k → k + h ≤ 20 → hSafe dy n o) ∧ ∀ x ∈ o, opOk x) ?_ ?_ ?_ ?_
    · intro v r n hv hr hn
      have e : ∀ m, hst dy m (v, r, n) = 2 * m + hbit (zcmp r (dy v) n) := fun m => by unfold hst; rw [if_neg (by show ¬ v = 5; omega), if_neg (by show ¬ v = 6; omega), if_neg (by show ¬ v = 7; omega)]
      refine ⟨Nat.le_refl 1, zcmp r (dy v) n, fun ts => ?_, fun m => e m, fun m k hm hk => ?_, fun x hx => ?_⟩
      · show zst1 dy ts (v, r, n) = _
        unfold zst1
        rw [if_pos hv]
      · have h1 : 2 ^ (k + 1) ≤ 2 ^ 20 := Nat.pow_le_pow_right (by decide) hk
        rw [Nat.pow_succ] at h1
        refine ⟨by omega, ?_⟩
        show hst dy m (v, r, n) < 2 ^ 20
        rw [e]
        have : hbit (zcmp r (dy v) n) ≤ 1 := by unfold hbit; split <;> omega
        omega
      · rw [List.mem_singleton] at hx
        rw [hx]; exact Or.inl ⟨hv, hr, hn⟩
    · rintro h o ⟨h0, v, hv, hb, hs, ho⟩
      refine ⟨h0, !v, fun ts => ?_, fun n => ?_, fun n k hn hk => ?_, fun x hx => ?_⟩
      · rw [List.foldl_append, hv ts]; rfl
      · rw [List.foldl_append, hb]
        show hst dy (2 * n + hbit v) (5, 0, 0) = _
        unfold hst
        rw [if_pos rfl]
        cases v <;> simp [hbit] <;> omega
      · refine (hs n k hn hk).app ?_
        rw [hb]
        have h1 : 2 ^ (k + 1) ≤ 2 ^ 20 := Nat.pow_le_pow_right (by decide) (by omega)
        rw [Nat.pow_succ] at h1
        have hbv : hbit v ≤ 1 := by unfold hbit; split <;> omega
        refine ⟨by omega, ?_⟩
        show hst dy (2 * n + hbit v) (5, 0, 0) < 2 ^ 20
        unfold hst
        rw [if_pos rfl]
        cases v <;> simp [hbit] at * <;> omega
      · rcases List.mem_append.mp hx with q | q
        · exact ho x q
        · rw [List.mem_singleton] at q; rw [q]; exact Or.inr (Or.inl rfl)
    · rintro h1 h2 o1 o2 x hx ⟨h10, v1, hv1, hb1, hs1, ho1⟩ ⟨h20, v2, hv2, hb2, hs2, ho2⟩
      have fin : ∀ n, hst dy (2 * (2 * n + hbit v1) + hbit v2) (x, 0, 0) = 2 * n + hbit (if x = 6 then v1 && v2 else v1 || v2) := by
        intro n
        unfold hst
        rcases hx with rfl | rfl
        · rw [if_neg (by decide), if_pos rfl]
          cases v1 <;> cases v2 <;> simp [hbit] <;> omega
        · rw [if_neg (by decide), if_neg (by decide), if_pos rfl]
          cases v1 <;> cases v2 <;> simp [hbit] <;> omega
      refine ⟨by omega, if x = 6 then v1 && v2 else v1 || v2, fun ts => ?_, fun n => ?_, fun n k hn hk => ?_, fun y hy => ?_⟩
      · rw [List.foldl_append, List.foldl_append, hv1 ts, hv2 (v1 :: ts)]
        rcases hx with rfl | rfl <;> rfl
      · rw [List.foldl_append, List.foldl_append, hb1, hb2]
        exact fin n
      · have b1 : hbit v1 ≤ 1 := by unfold hbit; split <;> omega
        have b2 : hbit v2 ≤ 1 := by unfold hbit; split <;> omega
        have hk1 : k + h1 ≤ 20 := by omega
        have hk2 : k + 1 + h2 ≤ 20 := by omega
        have p1 : 2 ^ (k + 1) = 2 ^ k * 2 := Nat.pow_succ ..
        have p2 : 2 ^ (k + 2) = 2 ^ k * 2 * 2 := by rw [Nat.pow_succ, Nat.pow_succ]
        have p3 : 2 ^ (k + 2) ≤ 2 ^ 20 := Nat.pow_le_pow_right (by decide) (by omega)
        refine ((hs1 n k hn hk1).app ?_).app ?_
        · rw [hb1]
          exact hs2 _ (k + 1) (by omega) hk2
        · rw [List.foldl_append, hb1, hb2]
          refine ⟨by omega, ?_⟩
          show hst dy (2 * (2 * n + hbit v1) + hbit v2) (x, 0, 0) < 2 ^ 20
          rw [fin]
          have := hbit_le (if x = 6 then v1 && v2 else v1 || v2)
          omega
      · rcases List.mem_append.mp hy with q | q
        · rcases List.mem_append.mp q with q | q
          · exact ho1 y q
          · exact ho2 y q
        · rw [List.mem_singleton] at q
          rw [q]
          rcases hx with rfl | rfl
          · exact Or.inr (Or.inr (Or.inl rfl))
          · exact Or.inr (Or.inr (Or.inr rfl))
    · rintro h h' o hh ⟨h0, v, a, b, c, e⟩
      exact ⟨by omega, v, a, b, fun n k hn hk => c n k hn (by omega), e⟩
  obtain ⟨-, v, hv, hb, hs, ho⟩ := key
  have ev : zval1 dy o = v := by unfold zval1; rw [hv]; rfl
  rw [ev]
  exact ⟨hb, hs, ho⟩
end CV1
section CV2
variable {G : ZG} {d : Nat} {α β : AH} {post : Option Value → AH → Prop} {v c w e p y : Nat} {q : VC} {dy : Nat → Nat}
theorem vE_n {v r n : Nat} (hv : v < 5) : vEnc (v, r, n) = nI ((v * 3 + r) * 100 + n) := by unfold vEnc; rw [if_neg (by show ¬ v = 5; omega), if_neg (by show ¬ v = 6; omega), if_neg (by show ¬ v = 7; omega)]
theorem nI_nm {a : Nat} {x : Int32} (h : a < 2 ^ 31) (hx : x.toInt < 0) : ¬ nI a = x := fun z => by
  have := congrArg Int32.toInt z
  rw [nI_toInt h] at this
  omega
theorem zc_lt {a n r : Nat} (hr : r < 3) (h : a < n) : hbit (zcmp r a n) = if r = 0 then 1 else 0 := by
  rcases s3 hr with rfl | rfl | rfl <;> simp [zcmp, hbit] <;> omega
theorem zc_eq {a n r : Nat} (hr : r < 3) (h : a = n) : hbit (zcmp r a n) = if r = 1 then 1 else 0 := by
  rcases s3 hr with rfl | rfl | rfl <;> simp [zcmp, hbit] <;> omega
theorem zc_gt {a n r : Nat} (hr : r < 3) (h : n < a) : hbit (zcmp r a n) = if r = 2 then 1 else 0 := by
  rcases s3 hr with rfl | rfl | rfl <;> simp [zcmp, hbit] <;> omega
theorem lp_holds (hv : vO α v c w e p q) (hy : zIs α y (0, 5)) (hd5 : ∀ i, i < 5 → hI α y i = nI (dy i)) (hdb : ∀ i, i < 5 → dy i < 1000) (hE : (vCode q.1).length ≤ 100) {F E : Nat} (hEE : E ≤ (vCode q.1).length) : ∀ (l : List ZOp) (n f : Nat) (x6 x7 x8 x9 x10 : Option Value), hSafe dy n l → (∀ o ∈ l, opOk o) → (∀ j, j < l.length → hI α c (f + j) = vEnc (l.getD j (0, 0, 0))) → f + l.length = E → post (some (.int (b2i (decide ((l.foldl (hst dy) n) % 2 = 1))))) α → Z G mX8_holds (d + 1) 6 [some (.ref (G.1 + v)), some (.int (nI F)), some (.int (nI E)), some (.ref (G.1 + y)), some (.int (nI n)), some (.int (nI f)), x6, x7, x8, x9, x10] [] α (0, 0) post := by
  intro l
  induction l with
  | nil =>
    intro n f x6 x7 x8 x9 x10 hs ho hc hf h
    have hn : n < 2 ^ 20 := hs
    have hf : f = E := by simpa using hf
    subst hf
    have h : post (some (.int (b2i (decide (n % 2 = 1))))) α := h
    have hw := w_top hn
    have hq : nI (n % 2) = 1 ↔ n % 2 = 1 := nI_eq (b := 1) (by omega) (by omega)
    refine Z_iload dX8_holds_6 rfl ?_
    refine Z_iload_n dX8_holds_8 rfl rfl ?_
    refine Z_icmp_ge (tgt := 154) dX8_holds_9 (by decide) (fun h9 => ?_) (fun h9 => ?_)
    · skip
      refine Z_iload dX8_holds_154 rfl ?_
      refine Z_iconst (v := 1) dX8_holds_156 (by decide) ?_
      refine Z_iand dX8_holds_157 ?_
      rw [hw]
      refine Z_iconst (v := 1) dX8_holds_158 (by decide) ?_
      refine Z_icmp_ne (tgt := 166) dX8_holds_159 (by decide) (fun h159 => ?_) (fun h159 => ?_)
      · skip
        refine Z_iconst (v := 0) dX8_holds_166 (by decide) ?_
        refine Z_iret dX8_holds_167 rfl rfl ⟨by decide, by decide⟩ ?_
        refine vi (P := fun z => post (some (.int z)) α) h ?_
        first
          | (rw [hq] at h159; rw [b2i_t h159])
          | (rw [hq] at h159; rw [b2i_f h159])
      · skip
        refine Z_iconst (v := 1) dX8_holds_162 (by decide) ?_
        refine Z_goto (tgt := 167) dX8_holds_163 (by decide) ?_
        refine Z_iret dX8_holds_167 rfl rfl ⟨by decide, by decide⟩ ?_
        refine vi (P := fun z => post (some (.int z)) α) h ?_
        first
          | (rw [hq] at h159; rw [b2i_t h159])
          | (rw [hq] at h159; rw [b2i_f h159])
    · skip
      exact absurd (nI_le (Nat.le_refl f) (by omega)) h9
  | cons o l ih =>
    intro n f x6 x7 x8 x9 x10 hs ho hc hf h
    have hn : n < 2 ^ 20 := hs.1
    have hf' : f + 1 + l.length = E := by rw [← hf]; simp; omega
    have hlt : f < E := by omega
    have hw := w_top hn
    have hc0 : hI α c f = vEnc o := hc 0 (by simp)
    have hc' : ∀ j, j < l.length → hI α c (f + 1 + j) = vEnc (l.getD j (0, 0, 0)) := fun j hj => by
      have := hc (j + 1) (by simp; omega)
      rw [show f + (j + 1) = f + 1 + j by omega] at this
      simpa using this
    have ho' : ∀ x ∈ l, opOk x := fun x hx => ho x (List.mem_cons_of_mem _ hx)
    have nx : ∀ (x6 x7 x8 x9 x10 : Option Value), Z G mX8_holds (d + 1) 6 [some (.ref (G.1 + v)), some (.int (nI F)), some (.int (nI E)), some (.ref (G.1 + y)), some (.int (nI (hst dy n o))), some (.int (nI (f + 1))), x6, x7, x8, x9, x10] [] α (0, 0) post := fun x6 x7 x8 x9 x10 => ih (hst dy n o) (f + 1) x6 x7 x8 x9 x10 hs.2 ho' hc' hf' h
    have d9 : ¬ nI E ≤ nI f := nI_ge (a := f) (b := E) hlt (by omega)
    rcases ho o List.mem_cons_self with ⟨o1, o2, o3⟩ | ho5 | ho6 | ho7
    · obtain ⟨a, r, m⟩ := o
      have o1 : a < 5 := o1
      have o2 : r < 3 := o2
      have o3 : m ≤ 99 := o3
      rw [vE_n o1] at hc0
      have hz : hst dy n (a, r, m) = 2 * n + hbit (zcmp r (dy a) m) := by unfold hst; rw [if_neg (by show ¬ a = 5; omega), if_neg (by show ¬ a = 6; omega), if_neg (by show ¬ a = 7; omega)]
      rw [hz] at nx
      have q1 : nI ((a * 3 + r) * 100 + m) / 300 = nI a := by rw [show (300 : Int32) = nI 300 from rfl, nI_div (by omega) (by omega) (by omega)]; congr 1; omega
      have q2 : nI ((a * 3 + r) * 100 + m) - nI ((a * 3 + r) * 100 + m) / 100 * 100 = nI m := by rw [show (100 : Int32) = nI 100 from rfl, pk_rem (by omega) (by omega) (by omega)]; congr 1; omega
      have q3 : nI ((a * 3 + r) * 100 + m) / 100 = nI (a * 3 + r) := by rw [show (100 : Int32) = nI 100 from rfl, nI_div (by omega) (by omega) (by omega)]; congr 1; omega
      have q4 : nI (a * 3 + r) - nI (a * 3 + r) / 3 * 3 = nI r := by rw [show (3 : Int32) = nI 3 from rfl, pk_rem (by omega) (by omega) (by omega)]; congr 1; omega
      have hb := hdb a o1
      have g0 := hd5 a o1
      have r0 : (0 : Int32) = nI r ↔ r = 0 := ⟨fun z => ((nI_eq (a := 0) (b := r) (by omega) (by omega)).mp z).symm, fun z => by rw [z]; rfl⟩
      have r1 : (1 : Int32) = nI r ↔ r = 1 := ⟨fun z => ((nI_eq (a := 1) (b := r) (by omega) (by omega)).mp z).symm, fun z => by rw [z]; rfl⟩
      have r2 : (2 : Int32) = nI r ↔ r = 2 := ⟨fun z => ((nI_eq (a := 2) (b := r) (by omega) (by omega)).mp z).symm, fun z => by rw [z]; rfl⟩
      have big : (a * 3 + r) * 100 + m < 2 ^ 31 := by omega
      refine Z_iload dX8_holds_6 rfl ?_
      refine Z_iload_n dX8_holds_8 rfl rfl ?_
      refine Z_icmp_ge (tgt := 154) dX8_holds_9 (by decide) (fun h9 => ?_) (fun h9 => ?_)
      · skip
        exact absurd h9 d9
      · skip
        refine Z_aload_n dX8_holds_12 rfl rfl ?_
        refine Z_getR dX8_holds_13 cl_8 fl_X8_9_8 rfl hv.2.1 hv.2.2.1.1 ?_
        refine Z_iload dX8_holds_16 rfl ?_
        refine Z_ialdv dX8_holds_18 hv.2.2.2.1.1 (zix_nI (m := f) (by omega) (by omega)) hc0 ?_
        refine Z_istore (L' := [_, _, _, _, _, _, _, _, _, _, _]) dX8_holds_19 (by decide) rfl rfl ?_
        refine Z_iload dX8_holds_21 rfl ?_
        refine Z_iconst (v := 1) dX8_holds_23 (by decide) ?_
        refine Z_iand dX8_holds_24 ?_
        refine Z_istore (L' := [_, _, _, _, _, _, _, _, _, _, _]) dX8_holds_25 (by decide) rfl rfl ?_
        refine Z_iload dX8_holds_27 rfl ?_
        refine Z_iconst (v := -1) dX8_holds_29 (by decide) ?_
        refine Z_icmp_ne (tgt := 42) dX8_holds_30 (by decide) (fun h30 => ?_) (fun h30 => ?_)
        · skip
          refine Z_iload dX8_holds_42 rfl ?_
          refine Z_bipush (v := -2) dX8_holds_44 (by decide) ?_
          refine Z_icmp_ne (tgt := 63) dX8_holds_46 (by decide) (fun h46 => ?_) (fun h46 => ?_)
          · skip
            refine Z_iload dX8_holds_63 rfl ?_
            refine Z_bipush (v := -3) dX8_holds_65 (by decide) ?_
            refine Z_icmp_ne (tgt := 82) dX8_holds_67 (by decide) (fun h67 => ?_) (fun h67 => ?_)
            · skip
              refine Z_aload_n dX8_holds_82 rfl rfl ?_
              refine Z_iload dX8_holds_83 rfl ?_
              refine Z_sipush (v := 300) dX8_holds_85 (by decide) ?_
              refine Z_idiv dX8_holds_88 (by decide) ?_
              rw [q1]
              refine Z_ialdv dX8_holds_89 hy (zix_nI (m := a) o1 (by decide)) g0 ?_
              refine Z_istore (L' := [_, _, _, _, _, _, _, _, _, _, _]) dX8_holds_90 (by decide) rfl rfl ?_
              refine Z_iload dX8_holds_92 rfl ?_
              refine Z_bipush (v := 100) dX8_holds_94 (by decide) ?_
              refine Z_irem dX8_holds_96 (by decide) ?_
              rw [q2]
              refine Z_istore (L' := [_, _, _, _, _, _, _, _, _, _, _]) dX8_holds_97 (by decide) rfl rfl ?_
              refine Z_iload dX8_holds_99 rfl ?_
              refine Z_iload dX8_holds_101 rfl ?_
              refine Z_icmp_ge (tgt := 110) dX8_holds_103 (by decide) (fun h103 => ?_) (fun h103 => ?_)
              · skip
                refine Z_iload dX8_holds_110 rfl ?_
                refine Z_iload dX8_holds_112 rfl ?_
                refine Z_icmp_ne (tgt := 121) dX8_holds_114 (by decide) (fun h114 => ?_) (fun h114 => ?_)
                · skip
                  have x1 : ¬ dy a = m := fun z => h114 (by rw [z])
                  have x2 := (nI_leI (a := m) (b := dy a) (by omega) (by omega)).mp h103
                  have zz := zc_gt (a := dy a) (n := m) o2 (by omega)
                  refine Z_iconst (v := 2) dX8_holds_121 (by decide) ?_
                  refine Z_istore (L' := [_, _, _, _, _, _, _, _, _, _, _]) dX8_holds_122 (by decide) rfl rfl ?_
                  refine Z_iload dX8_holds_124 rfl ?_
                  refine Z_iconst (v := 1) dX8_holds_126 (by decide) ?_
                  refine Z_ishl dX8_holds_127 ?_
                  refine Z_iload dX8_holds_128 rfl ?_
                  refine Z_iload dX8_holds_130 rfl ?_
                  refine Z_bipush (v := 100) dX8_holds_132 (by decide) ?_
                  refine Z_idiv dX8_holds_134 (by decide) ?_
                  rw [q3]
                  refine Z_iconst (v := 3) dX8_holds_135 (by decide) ?_
                  refine Z_irem dX8_holds_136 (by decide) ?_
                  rw [q4]
                  refine Z_icmp_ne (tgt := 144) dX8_holds_137 (by decide) (fun h137 => ?_) (fun h137 => ?_)
                  · skip
                    refine Z_iconst (v := 0) dX8_holds_144 (by decide) ?_
                    refine Z_ior dX8_holds_145 ?_
                    refine Z_istore (L' := [_, _, _, _, _, _, _, _, _, _, _]) dX8_holds_146 (by decide) rfl rfl ?_
                    refine Z_iinc (L' := [_, _, _, _, _, _, _, _, _, _, _]) dX8_holds_148 rfl (by rfl : _ + Int32.ofInt 1 = _ + 1) (by decide) rfl rfl ?_
                    refine Z_goto (tgt := 6) dX8_holds_151 (by decide) ?_
                    rw [nI_1]
                    first
                      | (rw [r0] at h137; rw [if_pos h137] at zz; rw [zz] at nx; rw [show (nI n <<< ((1 : Int32) &&& 31)) ||| 1 = nI (2 * n + 1) from w_psh (b := 1) hn (by omega)]; exact nx _ _ _ _ _)
                      | (rw [r0] at h137; rw [if_neg h137] at zz; rw [zz] at nx; rw [show (nI n <<< ((1 : Int32) &&& 31)) ||| 0 = nI (2 * n + 0) from w_psh (b := 0) hn (by omega)]; exact nx _ _ _ _ _)
                      | (rw [r1] at h137; rw [if_pos h137] at zz; rw [zz] at nx; rw [show (nI n <<< ((1 : Int32) &&& 31)) ||| 1 = nI (2 * n + 1) from w_psh (b := 1) hn (by omega)]; exact nx _ _ _ _ _)
                      | (rw [r1] at h137; rw [if_neg h137] at zz; rw [zz] at nx; rw [show (nI n <<< ((1 : Int32) &&& 31)) ||| 0 = nI (2 * n + 0) from w_psh (b := 0) hn (by omega)]; exact nx _ _ _ _ _)
                      | (rw [r2] at h137; rw [if_pos h137] at zz; rw [zz] at nx; rw [show (nI n <<< ((1 : Int32) &&& 31)) ||| 1 = nI (2 * n + 1) from w_psh (b := 1) hn (by omega)]; exact nx _ _ _ _ _)
                      | (rw [r2] at h137; rw [if_neg h137] at zz; rw [zz] at nx; rw [show (nI n <<< ((1 : Int32) &&& 31)) ||| 0 = nI (2 * n + 0) from w_psh (b := 0) hn (by omega)]; exact nx _ _ _ _ _)
                  · skip
                    refine Z_iconst (v := 1) dX8_holds_140 (by decide) ?_
                    refine Z_goto (tgt := 145) dX8_holds_141 (by decide) ?_
                    refine Z_ior dX8_holds_145 ?_
                    refine Z_istore (L' := [_, _, _, _, _, _, _, _, _, _, _]) dX8_holds_146 (by decide) rfl rfl ?_
                    refine Z_iinc (L' := [_, _, _, _, _, _, _, _, _, _, _]) dX8_holds_148 rfl (by rfl : _ + Int32.ofInt 1 = _ + 1) (by decide) rfl rfl ?_
                    refine Z_goto (tgt := 6) dX8_holds_151 (by decide) ?_
                    rw [nI_1]
                    first
                      | (rw [r0] at h137; rw [if_pos h137] at zz; rw [zz] at nx; rw [show (nI n <<< ((1 : Int32) &&& 31)) ||| 1 = nI (2 * n + 1) from w_psh (b := 1) hn (by omega)]; exact nx _ _ _ _ _)
                      | (rw [r0] at h137; rw [if_neg h137] at zz; rw [zz] at nx; rw [show (nI n <<< ((1 : Int32) &&& 31)) ||| 0 = nI (2 * n + 0) from w_psh (b := 0) hn (by omega)]; exact nx _ _ _ _ _)
                      | (rw [r1] at h137; rw [if_pos h137] at zz; rw [zz] at nx; rw [show (nI n <<< ((1 : Int32) &&& 31)) ||| 1 = nI (2 * n + 1) from w_psh (b := 1) hn (by omega)]; exact nx _ _ _ _ _)
                      | (rw [r1] at h137; rw [if_neg h137] at zz; rw [zz] at nx; rw [show (nI n <<< ((1 : Int32) &&& 31)) ||| 0 = nI (2 * n + 0) from w_psh (b := 0) hn (by omega)]; exact nx _ _ _ _ _)
                      | (rw [r2] at h137; rw [if_pos h137] at zz; rw [zz] at nx; rw [show (nI n <<< ((1 : Int32) &&& 31)) ||| 1 = nI (2 * n + 1) from w_psh (b := 1) hn (by omega)]; exact nx _ _ _ _ _)
                      | (rw [r2] at h137; rw [if_neg h137] at zz; rw [zz] at nx; rw [show (nI n <<< ((1 : Int32) &&& 31)) ||| 0 = nI (2 * n + 0) from w_psh (b := 0) hn (by omega)]; exact nx _ _ _ _ _)
                · skip
                  have zz := zc_eq o2 ((nI_eq (a := dy a) (b := m) (by omega) (by omega)).mp h114)
                  refine Z_iconst (v := 1) dX8_holds_117 (by decide) ?_
                  refine Z_goto (tgt := 122) dX8_holds_118 (by decide) ?_
                  refine Z_istore (L' := [_, _, _, _, _, _, _, _, _, _, _]) dX8_holds_122 (by decide) rfl rfl ?_
                  refine Z_iload dX8_holds_124 rfl ?_
                  refine Z_iconst (v := 1) dX8_holds_126 (by decide) ?_
                  refine Z_ishl dX8_holds_127 ?_
                  refine Z_iload dX8_holds_128 rfl ?_
                  refine Z_iload dX8_holds_130 rfl ?_
                  refine Z_bipush (v := 100) dX8_holds_132 (by decide) ?_
                  refine Z_idiv dX8_holds_134 (by decide) ?_
                  rw [q3]
                  refine Z_iconst (v := 3) dX8_holds_135 (by decide) ?_
                  refine Z_irem dX8_holds_136 (by decide) ?_
                  rw [q4]
                  refine Z_icmp_ne (tgt := 144) dX8_holds_137 (by decide) (fun h137 => ?_) (fun h137 => ?_)
                  · skip
                    refine Z_iconst (v := 0) dX8_holds_144 (by decide) ?_
                    refine Z_ior dX8_holds_145 ?_
                    refine Z_istore (L' := [_, _, _, _, _, _, _, _, _, _, _]) dX8_holds_146 (by decide) rfl rfl ?_
                    refine Z_iinc (L' := [_, _, _, _, _, _, _, _, _, _, _]) dX8_holds_148 rfl (by rfl : _ + Int32.ofInt 1 = _ + 1) (by decide) rfl rfl ?_
                    refine Z_goto (tgt := 6) dX8_holds_151 (by decide) ?_
                    rw [nI_1]
                    first
                      | (rw [r0] at h137; rw [if_pos h137] at zz; rw [zz] at nx; rw [show (nI n <<< ((1 : Int32) &&& 31)) ||| 1 = nI (2 * n + 1) from w_psh (b := 1) hn (by omega)]; exact nx _ _ _ _ _)
                      | (rw [r0] at h137; rw [if_neg h137] at zz; rw [zz] at nx; rw [show (nI n <<< ((1 : Int32) &&& 31)) ||| 0 = nI (2 * n + 0) from w_psh (b := 0) hn (by omega)]; exact nx _ _ _ _ _)
                      | (rw [r1] at h137; rw [if_pos h137] at zz; rw [zz] at nx; rw [show (nI n <<< ((1 : Int32) &&& 31)) ||| 1 = nI (2 * n + 1) from w_psh (b := 1) hn (by omega)]; exact nx _ _ _ _ _)
                      | (rw [r1] at h137; rw [if_neg h137] at zz; rw [zz] at nx; rw [show (nI n <<< ((1 : Int32) &&& 31)) ||| 0 = nI (2 * n + 0) from w_psh (b := 0) hn (by omega)]; exact nx _ _ _ _ _)
                      | (rw [r2] at h137; rw [if_pos h137] at zz; rw [zz] at nx; rw [show (nI n <<< ((1 : Int32) &&& 31)) ||| 1 = nI (2 * n + 1) from w_psh (b := 1) hn (by omega)]; exact nx _ _ _ _ _)
                      | (rw [r2] at h137; rw [if_neg h137] at zz; rw [zz] at nx; rw [show (nI n <<< ((1 : Int32) &&& 31)) ||| 0 = nI (2 * n + 0) from w_psh (b := 0) hn (by omega)]; exact nx _ _ _ _ _)
                  · skip
                    refine Z_iconst (v := 1) dX8_holds_140 (by decide) ?_
                    refine Z_goto (tgt := 145) dX8_holds_141 (by decide) ?_
                    refine Z_ior dX8_holds_145 ?_
                    refine Z_istore (L' := [_, _, _, _, _, _, _, _, _, _, _]) dX8_holds_146 (by decide) rfl rfl ?_
                    refine Z_iinc (L' := [_, _, _, _, _, _, _, _, _, _, _]) dX8_holds_148 rfl (by rfl : _ + Int32.ofInt 1 = _ + 1) (by decide) rfl rfl ?_
                    refine Z_goto (tgt := 6) dX8_holds_151 (by decide) ?_
                    rw [nI_1]
                    first
                      | (rw [r0] at h137; rw [if_pos h137] at zz; rw [zz] at nx; rw [show (nI n <<< ((1 : Int32) &&& 31)) ||| 1 = nI (2 * n + 1) from w_psh (b := 1) hn (by omega)]; exact nx _ _ _ _ _)
                      | (rw [r0] at h137; rw [if_neg h137] at zz; rw [zz] at nx; rw [show (nI n <<< ((1 : Int32) &&& 31)) ||| 0 = nI (2 * n + 0) from w_psh (b := 0) hn (by omega)]; exact nx _ _ _ _ _)
                      | (rw [r1] at h137; rw [if_pos h137] at zz; rw [zz] at nx; rw [show (nI n <<< ((1 : Int32) &&& 31)) ||| 1 = nI (2 * n + 1) from w_psh (b := 1) hn (by omega)]; exact nx _ _ _ _ _)
                      | (rw [r1] at h137; rw [if_neg h137] at zz; rw [zz] at nx; rw [show (nI n <<< ((1 : Int32) &&& 31)) ||| 0 = nI (2 * n + 0) from w_psh (b := 0) hn (by omega)]; exact nx _ _ _ _ _)
                      | (rw [r2] at h137; rw [if_pos h137] at zz; rw [zz] at nx; rw [show (nI n <<< ((1 : Int32) &&& 31)) ||| 1 = nI (2 * n + 1) from w_psh (b := 1) hn (by omega)]; exact nx _ _ _ _ _)
                      | (rw [r2] at h137; rw [if_neg h137] at zz; rw [zz] at nx; rw [show (nI n <<< ((1 : Int32) &&& 31)) ||| 0 = nI (2 * n + 0) from w_psh (b := 0) hn (by omega)]; exact nx _ _ _ _ _)
              · skip
                have zz := zc_lt o2 ((nI_ltI (a := dy a) (b := m) (by omega) (by omega)).mp (by simp only [Int32.lt_iff_toInt_lt, Int32.le_iff_toInt_le] at *; omega))
                refine Z_iconst (v := 0) dX8_holds_106 (by decide) ?_
                refine Z_goto (tgt := 122) dX8_holds_107 (by decide) ?_
                refine Z_istore (L' := [_, _, _, _, _, _, _, _, _, _, _]) dX8_holds_122 (by decide) rfl rfl ?_
                refine Z_iload dX8_holds_124 rfl ?_
                refine Z_iconst (v := 1) dX8_holds_126 (by decide) ?_
                refine Z_ishl dX8_holds_127 ?_
                refine Z_iload dX8_holds_128 rfl ?_
                refine Z_iload dX8_holds_130 rfl ?_
                refine Z_bipush (v := 100) dX8_holds_132 (by decide) ?_
                refine Z_idiv dX8_holds_134 (by decide) ?_
                rw [q3]
                refine Z_iconst (v := 3) dX8_holds_135 (by decide) ?_
                refine Z_irem dX8_holds_136 (by decide) ?_
                rw [q4]
                refine Z_icmp_ne (tgt := 144) dX8_holds_137 (by decide) (fun h137 => ?_) (fun h137 => ?_)
                · skip
                  refine Z_iconst (v := 0) dX8_holds_144 (by decide) ?_
                  refine Z_ior dX8_holds_145 ?_
                  refine Z_istore (L' := [_, _, _, _, _, _, _, _, _, _, _]) dX8_holds_146 (by decide) rfl rfl ?_
                  refine Z_iinc (L' := [_, _, _, _, _, _, _, _, _, _, _]) dX8_holds_148 rfl (by rfl : _ + Int32.ofInt 1 = _ + 1) (by decide) rfl rfl ?_
                  refine Z_goto (tgt := 6) dX8_holds_151 (by decide) ?_
                  rw [nI_1]
                  first
                    | (rw [r0] at h137; rw [if_pos h137] at zz; rw [zz] at nx; rw [show (nI n <<< ((1 : Int32) &&& 31)) ||| 1 = nI (2 * n + 1) from w_psh (b := 1) hn (by omega)]; exact nx _ _ _ _ _)
                    | (rw [r0] at h137; rw [if_neg h137] at zz; rw [zz] at nx; rw [show (nI n <<< ((1 : Int32) &&& 31)) ||| 0 = nI (2 * n + 0) from w_psh (b := 0) hn (by omega)]; exact nx _ _ _ _ _)
                    | (rw [r1] at h137; rw [if_pos h137] at zz; rw [zz] at nx; rw [show (nI n <<< ((1 : Int32) &&& 31)) ||| 1 = nI (2 * n + 1) from w_psh (b := 1) hn (by omega)]; exact nx _ _ _ _ _)
                    | (rw [r1] at h137; rw [if_neg h137] at zz; rw [zz] at nx; rw [show (nI n <<< ((1 : Int32) &&& 31)) ||| 0 = nI (2 * n + 0) from w_psh (b := 0) hn (by omega)]; exact nx _ _ _ _ _)
                    | (rw [r2] at h137; rw [if_pos h137] at zz; rw [zz] at nx; rw [show (nI n <<< ((1 : Int32) &&& 31)) ||| 1 = nI (2 * n + 1) from w_psh (b := 1) hn (by omega)]; exact nx _ _ _ _ _)
                    | (rw [r2] at h137; rw [if_neg h137] at zz; rw [zz] at nx; rw [show (nI n <<< ((1 : Int32) &&& 31)) ||| 0 = nI (2 * n + 0) from w_psh (b := 0) hn (by omega)]; exact nx _ _ _ _ _)
                · skip
                  refine Z_iconst (v := 1) dX8_holds_140 (by decide) ?_
                  refine Z_goto (tgt := 145) dX8_holds_141 (by decide) ?_
                  refine Z_ior dX8_holds_145 ?_
                  refine Z_istore (L' := [_, _, _, _, _, _, _, _, _, _, _]) dX8_holds_146 (by decide) rfl rfl ?_
                  refine Z_iinc (L' := [_, _, _, _, _, _, _, _, _, _, _]) dX8_holds_148 rfl (by rfl : _ + Int32.ofInt 1 = _ + 1) (by decide) rfl rfl ?_
                  refine Z_goto (tgt := 6) dX8_holds_151 (by decide) ?_
                  rw [nI_1]
                  first
                    | (rw [r0] at h137; rw [if_pos h137] at zz; rw [zz] at nx; rw [show (nI n <<< ((1 : Int32) &&& 31)) ||| 1 = nI (2 * n + 1) from w_psh (b := 1) hn (by omega)]; exact nx _ _ _ _ _)
                    | (rw [r0] at h137; rw [if_neg h137] at zz; rw [zz] at nx; rw [show (nI n <<< ((1 : Int32) &&& 31)) ||| 0 = nI (2 * n + 0) from w_psh (b := 0) hn (by omega)]; exact nx _ _ _ _ _)
                    | (rw [r1] at h137; rw [if_pos h137] at zz; rw [zz] at nx; rw [show (nI n <<< ((1 : Int32) &&& 31)) ||| 1 = nI (2 * n + 1) from w_psh (b := 1) hn (by omega)]; exact nx _ _ _ _ _)
                    | (rw [r1] at h137; rw [if_neg h137] at zz; rw [zz] at nx; rw [show (nI n <<< ((1 : Int32) &&& 31)) ||| 0 = nI (2 * n + 0) from w_psh (b := 0) hn (by omega)]; exact nx _ _ _ _ _)
                    | (rw [r2] at h137; rw [if_pos h137] at zz; rw [zz] at nx; rw [show (nI n <<< ((1 : Int32) &&& 31)) ||| 1 = nI (2 * n + 1) from w_psh (b := 1) hn (by omega)]; exact nx _ _ _ _ _)
                    | (rw [r2] at h137; rw [if_neg h137] at zz; rw [zz] at nx; rw [show (nI n <<< ((1 : Int32) &&& 31)) ||| 0 = nI (2 * n + 0) from w_psh (b := 0) hn (by omega)]; exact nx _ _ _ _ _)
            · skip
              exact absurd h67 (nI_nm big (by decide))
          · skip
            exact absurd h46 (nI_nm big (by decide))
        · skip
          exact absurd h30 (nI_nm big (by decide))
    · have hz : hst dy n o = (if n % 2 = 1 then n - 1 else n + 1) := if_pos ho5
      rw [hz] at nx
      have hc1 : hI α c f = -1 := hc0.trans (if_pos ho5)
      refine Z_iload dX8_holds_6 rfl ?_
      refine Z_iload_n dX8_holds_8 rfl rfl ?_
      refine Z_icmp_ge (tgt := 154) dX8_holds_9 (by decide) (fun h9 => ?_) (fun h9 => ?_)
      · skip
        exact absurd h9 d9
      · skip
        refine Z_aload_n dX8_holds_12 rfl rfl ?_
        refine Z_getR dX8_holds_13 cl_8 fl_X8_9_8 rfl hv.2.1 hv.2.2.1.1 ?_
        refine Z_iload dX8_holds_16 rfl ?_
        refine Z_ialdv dX8_holds_18 hv.2.2.2.1.1 (zix_nI (m := f) (by omega) (by omega)) hc1 ?_
        refine Z_istore (L' := [_, _, _, _, _, _, _, _, _, _, _]) dX8_holds_19 (by decide) rfl rfl ?_
        refine Z_iload dX8_holds_21 rfl ?_
        refine Z_iconst (v := 1) dX8_holds_23 (by decide) ?_
        refine Z_iand dX8_holds_24 ?_
        refine Z_istore (L' := [_, _, _, _, _, _, _, _, _, _, _]) dX8_holds_25 (by decide) rfl rfl ?_
        refine Z_iload dX8_holds_27 rfl ?_
        refine Z_iconst (v := -1) dX8_holds_29 (by decide) ?_
        refine Z_icmp_ne (tgt := 42) dX8_holds_30 (by decide) (fun h30 => ?_) (fun h30 => ?_)
        · skip
          exact absurd rfl h30
        · skip
          refine Z_iload dX8_holds_33 rfl ?_
          refine Z_iconst (v := 1) dX8_holds_35 (by decide) ?_
          refine Z_ixor dX8_holds_36 ?_
          refine Z_istore (L' := [_, _, _, _, _, _, _, _, _, _, _]) dX8_holds_37 (by decide) rfl rfl ?_
          refine Z_goto (tgt := 148) dX8_holds_39 (by decide) ?_
          refine Z_iinc (L' := [_, _, _, _, _, _, _, _, _, _, _]) dX8_holds_148 rfl (by rfl : _ + Int32.ofInt 1 = _ + 1) (by decide) rfl rfl ?_
          refine Z_goto (tgt := 6) dX8_holds_151 (by decide) ?_
          rw [nI_1, w_not hn]
          exact nx _ _ _ _ _
    · have hz : hst dy n o = (if n % 2 = 1 then n / 2 else n / 2 - n / 2 % 2) := (if_neg (by omega)).trans (if_pos ho6)
      rw [hz] at nx
      have hc1 : hI α c f = -2 := hc0.trans ((if_neg (by omega)).trans (if_pos ho6))
      refine Z_iload dX8_holds_6 rfl ?_
      refine Z_iload_n dX8_holds_8 rfl rfl ?_
      refine Z_icmp_ge (tgt := 154) dX8_holds_9 (by decide) (fun h9 => ?_) (fun h9 => ?_)
      · skip
        exact absurd h9 d9
      · skip
        refine Z_aload_n dX8_holds_12 rfl rfl ?_
        refine Z_getR dX8_holds_13 cl_8 fl_X8_9_8 rfl hv.2.1 hv.2.2.1.1 ?_
        refine Z_iload dX8_holds_16 rfl ?_
        refine Z_ialdv dX8_holds_18 hv.2.2.2.1.1 (zix_nI (m := f) (by omega) (by omega)) hc1 ?_
        refine Z_istore (L' := [_, _, _, _, _, _, _, _, _, _, _]) dX8_holds_19 (by decide) rfl rfl ?_
        refine Z_iload dX8_holds_21 rfl ?_
        refine Z_iconst (v := 1) dX8_holds_23 (by decide) ?_
        refine Z_iand dX8_holds_24 ?_
        rw [hw]
        refine Z_istore (L' := [_, _, _, _, _, _, _, _, _, _, _]) dX8_holds_25 (by decide) rfl rfl ?_
        refine Z_iload dX8_holds_27 rfl ?_
        refine Z_iconst (v := -1) dX8_holds_29 (by decide) ?_
        refine Z_icmp_ne (tgt := 42) dX8_holds_30 (by decide) (fun h30 => ?_) (fun h30 => ?_)
        · skip
          refine Z_iload dX8_holds_42 rfl ?_
          refine Z_bipush (v := -2) dX8_holds_44 (by decide) ?_
          refine Z_icmp_ne (tgt := 63) dX8_holds_46 (by decide) (fun h46 => ?_) (fun h46 => ?_)
          · skip
            exact absurd rfl h46
          · skip
            refine Z_iload dX8_holds_49 rfl ?_
            refine Z_iconst (v := 1) dX8_holds_51 (by decide) ?_
            refine Z_ishr dX8_holds_52 ?_
            refine Z_iload dX8_holds_53 rfl ?_
            refine Z_iconst (v := 2) dX8_holds_55 (by decide) ?_
            refine Z_isub dX8_holds_56 ?_
            refine Z_iand dX8_holds_57 ?_
            refine Z_istore (L' := [_, _, _, _, _, _, _, _, _, _, _]) dX8_holds_58 (by decide) rfl rfl ?_
            refine Z_goto (tgt := 148) dX8_holds_60 (by decide) ?_
            refine Z_iinc (L' := [_, _, _, _, _, _, _, _, _, _, _]) dX8_holds_148 rfl (by rfl : _ + Int32.ofInt 1 = _ + 1) (by decide) rfl rfl ?_
            refine Z_goto (tgt := 6) dX8_holds_151 (by decide) ?_
            rw [nI_1, w_and hn]
            exact nx _ _ _ _ _
        · skip
          exact absurd h30 (by decide)
    · have hz : hst dy n o = (if n % 2 = 1 then n / 2 - n / 2 % 2 + 1 else n / 2) := (if_neg (by omega)).trans ((if_neg (by omega)).trans (if_pos ho7))
      rw [hz] at nx
      have hc1 : hI α c f = -3 := hc0.trans ((if_neg (by omega)).trans ((if_neg (by omega)).trans (if_pos ho7)))
      refine Z_iload dX8_holds_6 rfl ?_
      refine Z_iload_n dX8_holds_8 rfl rfl ?_
      refine Z_icmp_ge (tgt := 154) dX8_holds_9 (by decide) (fun h9 => ?_) (fun h9 => ?_)
      · skip
        exact absurd h9 d9
      · skip
        refine Z_aload_n dX8_holds_12 rfl rfl ?_
        refine Z_getR dX8_holds_13 cl_8 fl_X8_9_8 rfl hv.2.1 hv.2.2.1.1 ?_
        refine Z_iload dX8_holds_16 rfl ?_
        refine Z_ialdv dX8_holds_18 hv.2.2.2.1.1 (zix_nI (m := f) (by omega) (by omega)) hc1 ?_
        refine Z_istore (L' := [_, _, _, _, _, _, _, _, _, _, _]) dX8_holds_19 (by decide) rfl rfl ?_
        refine Z_iload dX8_holds_21 rfl ?_
        refine Z_iconst (v := 1) dX8_holds_23 (by decide) ?_
        refine Z_iand dX8_holds_24 ?_
        rw [hw]
        refine Z_istore (L' := [_, _, _, _, _, _, _, _, _, _, _]) dX8_holds_25 (by decide) rfl rfl ?_
        refine Z_iload dX8_holds_27 rfl ?_
        refine Z_iconst (v := -1) dX8_holds_29 (by decide) ?_
        refine Z_icmp_ne (tgt := 42) dX8_holds_30 (by decide) (fun h30 => ?_) (fun h30 => ?_)
        · skip
          refine Z_iload dX8_holds_42 rfl ?_
          refine Z_bipush (v := -2) dX8_holds_44 (by decide) ?_
          refine Z_icmp_ne (tgt := 63) dX8_holds_46 (by decide) (fun h46 => ?_) (fun h46 => ?_)
          · skip
            refine Z_iload dX8_holds_63 rfl ?_
            refine Z_bipush (v := -3) dX8_holds_65 (by decide) ?_
            refine Z_icmp_ne (tgt := 82) dX8_holds_67 (by decide) (fun h67 => ?_) (fun h67 => ?_)
            · skip
              exact absurd rfl h67
            · skip
              refine Z_iload dX8_holds_70 rfl ?_
              refine Z_iconst (v := 1) dX8_holds_72 (by decide) ?_
              refine Z_ishr dX8_holds_73 ?_
              refine Z_iload dX8_holds_74 rfl ?_
              refine Z_ior dX8_holds_76 ?_
              refine Z_istore (L' := [_, _, _, _, _, _, _, _, _, _, _]) dX8_holds_77 (by decide) rfl rfl ?_
              refine Z_goto (tgt := 148) dX8_holds_79 (by decide) ?_
              refine Z_iinc (L' := [_, _, _, _, _, _, _, _, _, _, _]) dX8_holds_148 rfl (by rfl : _ + Int32.ofInt 1 = _ + 1) (by decide) rfl rfl ?_
              refine Z_goto (tgt := 6) dX8_holds_151 (by decide) ?_
              rw [nI_1, w_or hn]
              exact nx _ _ _ _ _
          · skip
            exact absurd h46 (by decide)
        · skip
          exact absurd h30 (by decide)
theorem k_holds {f : Nat} {l : List ZOp} (hv : vO α v c w e p q) (hy : zIs α y (0, 5)) (hd5 : ∀ i, i < 5 → hI α y i = nI (dy i)) (hdb : ∀ i, i < 5 → dy i < 1000) (hE : (vCode q.1).length ≤ 100) (hl : WO 13 l) (hc : ∀ j, j < l.length → hI α c (f + j) = vEnc (l.getD j (0, 0, 0))) (hf : f + l.length ≤ (vCode q.1).length) (h : post (some (.int (b2i (zval1 dy l)))) α) : ZK G (d + 1) mX8_holds [.ref (G.1 + v), .int (nI f), .int (nI (f + l.length)), .ref (G.1 + y)] α post := by
  obtain ⟨hb, hs, ho⟩ := hl.bits dy
  have e : decide ((l.foldl (hst dy) 0) % 2 = 1) = zval1 dy l := by rw [hb]; cases zval1 dy l <;> simp [hbit]
  rw [← e] at h
  refine ZK.of (n := 7) (by decide) (Nat.le_of_ble_eq_true rfl) rfl ?_
  refine Z_iconst (v := 0) dX8_holds_0 (by decide) ?_
  refine Z_istore (L' := [_, _, _, _, _, _, _, _, _, _, _]) dX8_holds_1 (by decide) rfl rfl ?_
  refine Z_iload_n dX8_holds_3 rfl rfl ?_
  refine Z_istore (L' := [_, _, _, _, _, _, _, _, _, _, _]) dX8_holds_4 (by decide) rfl rfl ?_
  exact lp_holds hv hy hd5 hdb hE hf l 0 f _ _ _ _ _ (hs 0 0 (by decide) (by decide)) ho hc rfl h
end CV2
