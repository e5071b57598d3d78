section LW4
/-- what the Statement gives of the start, in a row -/
def lF : List Cond := flatC (Jvm.Cond.and given_1 narrow_1)
theorem lf_e0 : ∀ j, j < 3 → lF[12 + j]? = some (Cond.eq (.elem (.static "DaysBag" "STEP" "[I") (.int (Int32.ofNat j))) (.int (zSTEP.getD j 0))) := by decide +kernel
theorem lf_a0 : (Cond.arrayOf (Term.static "DaysBag" (zArr 0).1 "[I") .int ∈ lF ∧ Cond.eq (.length (.static "DaysBag" (zArr 0).1 "[I")) (.int (Int32.ofNat (zArr 0).2.length)) ∈ lF) ∧ ∀ j, j < (zArr 0).2.length → Cond.eq (.elem (.static "DaysBag" (zArr 0).1 "[I") (.int (Int32.ofNat j))) (.int ((zArr 0).2.getD j 0)) ∈ lF := ⟨⟨List.mem_of_getElem? (i := 10) (by decide +kernel), List.mem_of_getElem? (i := 11) (by decide +kernel)⟩, fun j hj => List.mem_of_getElem? (lf_e0 j hj)⟩
theorem lf_e1 : ∀ j, j < 27 → lF[18 + j]? = some (Cond.eq (.elem (.static "DaysBag" "UNDONE" "[I") (.int (Int32.ofNat j))) (.int (zUND.getD j 0))) := by decide +kernel
theorem lf_a1 : (Cond.arrayOf (Term.static "DaysBag" (zArr 1).1 "[I") .int ∈ lF ∧ Cond.eq (.length (.static "DaysBag" (zArr 1).1 "[I")) (.int (Int32.ofNat (zArr 1).2.length)) ∈ lF) ∧ ∀ j, j < (zArr 1).2.length → Cond.eq (.elem (.static "DaysBag" (zArr 1).1 "[I") (.int (Int32.ofNat j))) (.int ((zArr 1).2.getD j 0)) ∈ lF := ⟨⟨List.mem_of_getElem? (i := 16) (by decide +kernel), List.mem_of_getElem? (i := 17) (by decide +kernel)⟩, fun j hj => List.mem_of_getElem? (lf_e1 j hj)⟩
theorem lf_e2 : ∀ j, j < 136 → lF[48 + j]? = some (Cond.eq (.elem (.static "DaysBag" "PASCAL" "[I") (.int (Int32.ofNat j))) (.int (zPAS.getD j 0))) := by decide +kernel
theorem lf_a2 : (Cond.arrayOf (Term.static "DaysBag" (zArr 2).1 "[I") .int ∈ lF ∧ Cond.eq (.length (.static "DaysBag" (zArr 2).1 "[I")) (.int (Int32.ofNat (zArr 2).2.length)) ∈ lF) ∧ ∀ j, j < (zArr 2).2.length → Cond.eq (.elem (.static "DaysBag" (zArr 2).1 "[I") (.int (Int32.ofNat j))) (.int ((zArr 2).2.getD j 0)) ∈ lF := ⟨⟨List.mem_of_getElem? (i := 46) (by decide +kernel), List.mem_of_getElem? (i := 47) (by decide +kernel)⟩, fun j hj => List.mem_of_getElem? (lf_e2 j hj)⟩
theorem lf_arr : ∀ i, i < 3 → (Cond.arrayOf (Term.static "DaysBag" (zArr i).1 "[I") .int ∈ lF ∧ Cond.eq (.length (.static "DaysBag" (zArr i).1 "[I")) (.int (Int32.ofNat (zArr i).2.length)) ∈ lF) ∧ ∀ j, j < (zArr i).2.length → Cond.eq (.elem (.static "DaysBag" (zArr i).1 "[I") (.int (Int32.ofNat j))) (.int ((zArr i).2.getD j 0)) ∈ lF
  | 0, _ => lf_a0
  | 1, _ => lf_a1
  | 2, _ => lf_a2
  | k + 3, h => absurd h (by omega)
theorem lf_t0 : ∀ j, j < (zStr 0).2.2.2.length → lF[293 + j]? = some (Cond.eq (.elem (.field (.string (zStr 0).1 (zStr 0).2.1) "java/lang/String" "value" "[B") (.int (Int32.ofNat j))) (.int ((zStr 0).2.2.2.getD j 0))) := by decide +kernel
theorem lf_s0 : (Cond.exactly (Term.string (zStr 0).1 (zStr 0).2.1) "java/lang/String" ∈ lF ∧ Cond.eq (.field (.string (zStr 0).1 (zStr 0).2.1) "java/lang/String" "coder" "B") (.int 0) ∈ lF) ∧ (Cond.arrayOf (.field (.string (zStr 0).1 (zStr 0).2.1) "java/lang/String" "value" "[B") .byte ∈ lF ∧ Cond.eq (.length (.field (.string (zStr 0).1 (zStr 0).2.1) "java/lang/String" "value" "[B")) (.int (Int32.ofNat (zStr 0).2.2.2.length)) ∈ lF) ∧ ∀ j, j < (zStr 0).2.2.2.length → Cond.eq (.elem (.field (.string (zStr 0).1 (zStr 0).2.1) "java/lang/String" "value" "[B") (.int (Int32.ofNat j))) (.int ((zStr 0).2.2.2.getD j 0)) ∈ lF := ⟨⟨List.mem_of_getElem? (i := 289) (by decide +kernel), List.mem_of_getElem? (i := 290) (by decide +kernel)⟩, ⟨List.mem_of_getElem? (i := 291) (by decide +kernel), List.mem_of_getElem? (i := 292) (by decide +kernel)⟩, fun j hj => List.mem_of_getElem? (lf_t0 j hj)⟩
theorem lf_t1 : ∀ j, j < (zStr 1).2.2.2.length → lF[301 + j]? = some (Cond.eq (.elem (.field (.string (zStr 1).1 (zStr 1).2.1) "java/lang/String" "value" "[B") (.int (Int32.ofNat j))) (.int ((zStr 1).2.2.2.getD j 0))) := by decide +kernel
theorem lf_s1 : (Cond.exactly (Term.string (zStr 1).1 (zStr 1).2.1) "java/lang/String" ∈ lF ∧ Cond.eq (.field (.string (zStr 1).1 (zStr 1).2.1) "java/lang/String" "coder" "B") (.int 0) ∈ lF) ∧ (Cond.arrayOf (.field (.string (zStr 1).1 (zStr 1).2.1) "java/lang/String" "value" "[B") .byte ∈ lF ∧ Cond.eq (.length (.field (.string (zStr 1).1 (zStr 1).2.1) "java/lang/String" "value" "[B")) (.int (Int32.ofNat (zStr 1).2.2.2.length)) ∈ lF) ∧ ∀ j, j < (zStr 1).2.2.2.length → Cond.eq (.elem (.field (.string (zStr 1).1 (zStr 1).2.1) "java/lang/String" "value" "[B") (.int (Int32.ofNat j))) (.int ((zStr 1).2.2.2.getD j 0)) ∈ lF := ⟨⟨List.mem_of_getElem? (i := 297) (by decide +kernel), List.mem_of_getElem? (i := 298) (by decide +kernel)⟩, ⟨List.mem_of_getElem? (i := 299) (by decide +kernel), List.mem_of_getElem? (i := 300) (by decide +kernel)⟩, fun j hj => List.mem_of_getElem? (lf_t1 j hj)⟩
theorem lf_t2 : ∀ j, j < (zStr 2).2.2.2.length → lF[341 + j]? = some (Cond.eq (.elem (.field (.string (zStr 2).1 (zStr 2).2.1) "java/lang/String" "value" "[B") (.int (Int32.ofNat j))) (.int ((zStr 2).2.2.2.getD j 0))) := by decide +kernel
theorem lf_s2 : (Cond.exactly (Term.string (zStr 2).1 (zStr 2).2.1) "java/lang/String" ∈ lF ∧ Cond.eq (.field (.string (zStr 2).1 (zStr 2).2.1) "java/lang/String" "coder" "B") (.int 0) ∈ lF) ∧ (Cond.arrayOf (.field (.string (zStr 2).1 (zStr 2).2.1) "java/lang/String" "value" "[B") .byte ∈ lF ∧ Cond.eq (.length (.field (.string (zStr 2).1 (zStr 2).2.1) "java/lang/String" "value" "[B")) (.int (Int32.ofNat (zStr 2).2.2.2.length)) ∈ lF) ∧ ∀ j, j < (zStr 2).2.2.2.length → Cond.eq (.elem (.field (.string (zStr 2).1 (zStr 2).2.1) "java/lang/String" "value" "[B") (.int (Int32.ofNat j))) (.int ((zStr 2).2.2.2.getD j 0)) ∈ lF := ⟨⟨List.mem_of_getElem? (i := 337) (by decide +kernel), List.mem_of_getElem? (i := 338) (by decide +kernel)⟩, ⟨List.mem_of_getElem? (i := 339) (by decide +kernel), List.mem_of_getElem? (i := 340) (by decide +kernel)⟩, fun j hj => List.mem_of_getElem? (lf_t2 j hj)⟩
theorem lf_t3 : ∀ j, j < (zStr 3).2.2.2.length → lF[309 + j]? = some (Cond.eq (.elem (.field (.string (zStr 3).1 (zStr 3).2.1) "java/lang/String" "value" "[B") (.int (Int32.ofNat j))) (.int ((zStr 3).2.2.2.getD j 0))) := by decide +kernel
theorem lf_s3 : (Cond.exactly (Term.string (zStr 3).1 (zStr 3).2.1) "java/lang/String" ∈ lF ∧ Cond.eq (.field (.string (zStr 3).1 (zStr 3).2.1) "java/lang/String" "coder" "B") (.int 0) ∈ lF) ∧ (Cond.arrayOf (.field (.string (zStr 3).1 (zStr 3).2.1) "java/lang/String" "value" "[B") .byte ∈ lF ∧ Cond.eq (.length (.field (.string (zStr 3).1 (zStr 3).2.1) "java/lang/String" "value" "[B")) (.int (Int32.ofNat (zStr 3).2.2.2.length)) ∈ lF) ∧ ∀ j, j < (zStr 3).2.2.2.length → Cond.eq (.elem (.field (.string (zStr 3).1 (zStr 3).2.1) "java/lang/String" "value" "[B") (.int (Int32.ofNat j))) (.int ((zStr 3).2.2.2.getD j 0)) ∈ lF := ⟨⟨List.mem_of_getElem? (i := 305) (by decide +kernel), List.mem_of_getElem? (i := 306) (by decide +kernel)⟩, ⟨List.mem_of_getElem? (i := 307) (by decide +kernel), List.mem_of_getElem? (i := 308) (by decide +kernel)⟩, fun j hj => List.mem_of_getElem? (lf_t3 j hj)⟩
theorem lf_t4 : ∀ j, j < (zStr 4).2.2.2.length → lF[318 + j]? = some (Cond.eq (.elem (.field (.string (zStr 4).1 (zStr 4).2.1) "java/lang/String" "value" "[B") (.int (Int32.ofNat j))) (.int ((zStr 4).2.2.2.getD j 0))) := by decide +kernel
theorem lf_s4 : (Cond.exactly (Term.string (zStr 4).1 (zStr 4).2.1) "java/lang/String" ∈ lF ∧ Cond.eq (.field (.string (zStr 4).1 (zStr 4).2.1) "java/lang/String" "coder" "B") (.int 0) ∈ lF) ∧ (Cond.arrayOf (.field (.string (zStr 4).1 (zStr 4).2.1) "java/lang/String" "value" "[B") .byte ∈ lF ∧ Cond.eq (.length (.field (.string (zStr 4).1 (zStr 4).2.1) "java/lang/String" "value" "[B")) (.int (Int32.ofNat (zStr 4).2.2.2.length)) ∈ lF) ∧ ∀ j, j < (zStr 4).2.2.2.length → Cond.eq (.elem (.field (.string (zStr 4).1 (zStr 4).2.1) "java/lang/String" "value" "[B") (.int (Int32.ofNat j))) (.int ((zStr 4).2.2.2.getD j 0)) ∈ lF := ⟨⟨List.mem_of_getElem? (i := 314) (by decide +kernel), List.mem_of_getElem? (i := 315) (by decide +kernel)⟩, ⟨List.mem_of_getElem? (i := 316) (by decide +kernel), List.mem_of_getElem? (i := 317) (by decide +kernel)⟩, fun j hj => List.mem_of_getElem? (lf_t4 j hj)⟩
theorem lf_t5 : ∀ j, j < (zStr 5).2.2.2.length → lF[330 + j]? = some (Cond.eq (.elem (.field (.string (zStr 5).1 (zStr 5).2.1) "java/lang/String" "value" "[B") (.int (Int32.ofNat j))) (.int ((zStr 5).2.2.2.getD j 0))) := by decide +kernel
theorem lf_s5 : (Cond.exactly (Term.string (zStr 5).1 (zStr 5).2.1) "java/lang/String" ∈ lF ∧ Cond.eq (.field (.string (zStr 5).1 (zStr 5).2.1) "java/lang/String" "coder" "B") (.int 0) ∈ lF) ∧ (Cond.arrayOf (.field (.string (zStr 5).1 (zStr 5).2.1) "java/lang/String" "value" "[B") .byte ∈ lF ∧ Cond.eq (.length (.field (.string (zStr 5).1 (zStr 5).2.1) "java/lang/String" "value" "[B")) (.int (Int32.ofNat (zStr 5).2.2.2.length)) ∈ lF) ∧ ∀ j, j < (zStr 5).2.2.2.length → Cond.eq (.elem (.field (.string (zStr 5).1 (zStr 5).2.1) "java/lang/String" "value" "[B") (.int (Int32.ofNat j))) (.int ((zStr 5).2.2.2.getD j 0)) ∈ lF := ⟨⟨List.mem_of_getElem? (i := 326) (by decide +kernel), List.mem_of_getElem? (i := 327) (by decide +kernel)⟩, ⟨List.mem_of_getElem? (i := 328) (by decide +kernel), List.mem_of_getElem? (i := 329) (by decide +kernel)⟩, fun j hj => List.mem_of_getElem? (lf_t5 j hj)⟩
theorem lf_t6 : ∀ j, j < (zStr 6).2.2.2.length → lF[330 + j]? = some (Cond.eq (.elem (.field (.string (zStr 6).1 (zStr 6).2.1) "java/lang/String" "value" "[B") (.int (Int32.ofNat j))) (.int ((zStr 6).2.2.2.getD j 0))) := by decide +kernel
theorem lf_s6 : (Cond.exactly (Term.string (zStr 6).1 (zStr 6).2.1) "java/lang/String" ∈ lF ∧ Cond.eq (.field (.string (zStr 6).1 (zStr 6).2.1) "java/lang/String" "coder" "B") (.int 0) ∈ lF) ∧ (Cond.arrayOf (.field (.string (zStr 6).1 (zStr 6).2.1) "java/lang/String" "value" "[B") .byte ∈ lF ∧ Cond.eq (.length (.field (.string (zStr 6).1 (zStr 6).2.1) "java/lang/String" "value" "[B")) (.int (Int32.ofNat (zStr 6).2.2.2.length)) ∈ lF) ∧ ∀ j, j < (zStr 6).2.2.2.length → Cond.eq (.elem (.field (.string (zStr 6).1 (zStr 6).2.1) "java/lang/String" "value" "[B") (.int (Int32.ofNat j))) (.int ((zStr 6).2.2.2.getD j 0)) ∈ lF := ⟨⟨List.mem_of_getElem? (i := 326) (by decide +kernel), List.mem_of_getElem? (i := 327) (by decide +kernel)⟩, ⟨List.mem_of_getElem? (i := 328) (by decide +kernel), List.mem_of_getElem? (i := 329) (by decide +kernel)⟩, fun j hj => List.mem_of_getElem? (lf_t6 j hj)⟩
theorem lf_t7 : ∀ j, j < (zStr 7).2.2.2.length → lF[384 + j]? = some (Cond.eq (.elem (.field (.string (zStr 7).1 (zStr 7).2.1) "java/lang/String" "value" "[B") (.int (Int32.ofNat j))) (.int ((zStr 7).2.2.2.getD j 0))) := by decide +kernel
theorem lf_s7 : (Cond.exactly (Term.string (zStr 7).1 (zStr 7).2.1) "java/lang/String" ∈ lF ∧ Cond.eq (.field (.string (zStr 7).1 (zStr 7).2.1) "java/lang/String" "coder" "B") (.int 0) ∈ lF) ∧ (Cond.arrayOf (.field (.string (zStr 7).1 (zStr 7).2.1) "java/lang/String" "value" "[B") .byte ∈ lF ∧ Cond.eq (.length (.field (.string (zStr 7).1 (zStr 7).2.1) "java/lang/String" "value" "[B")) (.int (Int32.ofNat (zStr 7).2.2.2.length)) ∈ lF) ∧ ∀ j, j < (zStr 7).2.2.2.length → Cond.eq (.elem (.field (.string (zStr 7).1 (zStr 7).2.1) "java/lang/String" "value" "[B") (.int (Int32.ofNat j))) (.int ((zStr 7).2.2.2.getD j 0)) ∈ lF := ⟨⟨List.mem_of_getElem? (i := 380) (by decide +kernel), List.mem_of_getElem? (i := 381) (by decide +kernel)⟩, ⟨List.mem_of_getElem? (i := 382) (by decide +kernel), List.mem_of_getElem? (i := 383) (by decide +kernel)⟩, fun j hj => List.mem_of_getElem? (lf_t7 j hj)⟩
theorem lf_t8 : ∀ j, j < (zStr 8).2.2.2.length → lF[401 + j]? = some (Cond.eq (.elem (.field (.string (zStr 8).1 (zStr 8).2.1) "java/lang/String" "value" "[B") (.int (Int32.ofNat j))) (.int ((zStr 8).2.2.2.getD j 0))) := by decide +kernel
theorem lf_s8 : (Cond.exactly (Term.string (zStr 8).1 (zStr 8).2.1) "java/lang/String" ∈ lF ∧ Cond.eq (.field (.string (zStr 8).1 (zStr 8).2.1) "java/lang/String" "coder" "B") (.int 0) ∈ lF) ∧ (Cond.arrayOf (.field (.string (zStr 8).1 (zStr 8).2.1) "java/lang/String" "value" "[B") .byte ∈ lF ∧ Cond.eq (.length (.field (.string (zStr 8).1 (zStr 8).2.1) "java/lang/String" "value" "[B")) (.int (Int32.ofNat (zStr 8).2.2.2.length)) ∈ lF) ∧ ∀ j, j < (zStr 8).2.2.2.length → Cond.eq (.elem (.field (.string (zStr 8).1 (zStr 8).2.1) "java/lang/String" "value" "[B") (.int (Int32.ofNat j))) (.int ((zStr 8).2.2.2.getD j 0)) ∈ lF := ⟨⟨List.mem_of_getElem? (i := 397) (by decide +kernel), List.mem_of_getElem? (i := 398) (by decide +kernel)⟩, ⟨List.mem_of_getElem? (i := 399) (by decide +kernel), List.mem_of_getElem? (i := 400) (by decide +kernel)⟩, fun j hj => List.mem_of_getElem? (lf_t8 j hj)⟩
theorem lf_t9 : ∀ j, j < (zStr 9).2.2.2.length → lF[355 + j]? = some (Cond.eq (.elem (.field (.string (zStr 9).1 (zStr 9).2.1) "java/lang/String" "value" "[B") (.int (Int32.ofNat j))) (.int ((zStr 9).2.2.2.getD j 0))) := by decide +kernel
theorem lf_s9 : (Cond.exactly (Term.string (zStr 9).1 (zStr 9).2.1) "java/lang/String" ∈ lF ∧ Cond.eq (.field (.string (zStr 9).1 (zStr 9).2.1) "java/lang/String" "coder" "B") (.int 0) ∈ lF) ∧ (Cond.arrayOf (.field (.string (zStr 9).1 (zStr 9).2.1) "java/lang/String" "value" "[B") .byte ∈ lF ∧ Cond.eq (.length (.field (.string (zStr 9).1 (zStr 9).2.1) "java/lang/String" "value" "[B")) (.int (Int32.ofNat (zStr 9).2.2.2.length)) ∈ lF) ∧ ∀ j, j < (zStr 9).2.2.2.length → Cond.eq (.elem (.field (.string (zStr 9).1 (zStr 9).2.1) "java/lang/String" "value" "[B") (.int (Int32.ofNat j))) (.int ((zStr 9).2.2.2.getD j 0)) ∈ lF := ⟨⟨List.mem_of_getElem? (i := 351) (by decide +kernel), List.mem_of_getElem? (i := 352) (by decide +kernel)⟩, ⟨List.mem_of_getElem? (i := 353) (by decide +kernel), List.mem_of_getElem? (i := 354) (by decide +kernel)⟩, fun j hj => List.mem_of_getElem? (lf_t9 j hj)⟩
theorem lf_t10 : ∀ j, j < (zStr 10).2.2.2.length → lF[370 + j]? = some (Cond.eq (.elem (.field (.string (zStr 10).1 (zStr 10).2.1) "java/lang/String" "value" "[B") (.int (Int32.ofNat j))) (.int ((zStr 10).2.2.2.getD j 0))) := by decide +kernel
theorem lf_s10 : (Cond.exactly (Term.string (zStr 10).1 (zStr 10).2.1) "java/lang/String" ∈ lF ∧ Cond.eq (.field (.string (zStr 10).1 (zStr 10).2.1) "java/lang/String" "coder" "B") (.int 0) ∈ lF) ∧ (Cond.arrayOf (.field (.string (zStr 10).1 (zStr 10).2.1) "java/lang/String" "value" "[B") .byte ∈ lF ∧ Cond.eq (.length (.field (.string (zStr 10).1 (zStr 10).2.1) "java/lang/String" "value" "[B")) (.int (Int32.ofNat (zStr 10).2.2.2.length)) ∈ lF) ∧ ∀ j, j < (zStr 10).2.2.2.length → Cond.eq (.elem (.field (.string (zStr 10).1 (zStr 10).2.1) "java/lang/String" "value" "[B") (.int (Int32.ofNat j))) (.int ((zStr 10).2.2.2.getD j 0)) ∈ lF := ⟨⟨List.mem_of_getElem? (i := 366) (by decide +kernel), List.mem_of_getElem? (i := 367) (by decide +kernel)⟩, ⟨List.mem_of_getElem? (i := 368) (by decide +kernel), List.mem_of_getElem? (i := 369) (by decide +kernel)⟩, fun j hj => List.mem_of_getElem? (lf_t10 j hj)⟩
theorem lf_t11 : ∀ j, j < (zStr 11).2.2.2.length → lF[417 + j]? = some (Cond.eq (.elem (.field (.string (zStr 11).1 (zStr 11).2.1) "java/lang/String" "value" "[B") (.int (Int32.ofNat j))) (.int ((zStr 11).2.2.2.getD j 0))) := by decide +kernel
theorem lf_s11 : (Cond.exactly (Term.string (zStr 11).1 (zStr 11).2.1) "java/lang/String" ∈ lF ∧ Cond.eq (.field (.string (zStr 11).1 (zStr 11).2.1) "java/lang/String" "coder" "B") (.int 0) ∈ lF) ∧ (Cond.arrayOf (.field (.string (zStr 11).1 (zStr 11).2.1) "java/lang/String" "value" "[B") .byte ∈ lF ∧ Cond.eq (.length (.field (.string (zStr 11).1 (zStr 11).2.1) "java/lang/String" "value" "[B")) (.int (Int32.ofNat (zStr 11).2.2.2.length)) ∈ lF) ∧ ∀ j, j < (zStr 11).2.2.2.length → Cond.eq (.elem (.field (.string (zStr 11).1 (zStr 11).2.1) "java/lang/String" "value" "[B") (.int (Int32.ofNat j))) (.int ((zStr 11).2.2.2.getD j 0)) ∈ lF := ⟨⟨List.mem_of_getElem? (i := 413) (by decide +kernel), List.mem_of_getElem? (i := 414) (by decide +kernel)⟩, ⟨List.mem_of_getElem? (i := 415) (by decide +kernel), List.mem_of_getElem? (i := 416) (by decide +kernel)⟩, fun j hj => List.mem_of_getElem? (lf_t11 j hj)⟩
theorem lf_str : ∀ i, i < 12 → (Cond.exactly (Term.string (zStr i).1 (zStr i).2.1) "java/lang/String" ∈ lF ∧ Cond.eq (.field (.string (zStr i).1 (zStr i).2.1) "java/lang/String" "coder" "B") (.int 0) ∈ lF) ∧ (Cond.arrayOf (.field (.string (zStr i).1 (zStr i).2.1) "java/lang/String" "value" "[B") .byte ∈ lF ∧ Cond.eq (.length (.field (.string (zStr i).1 (zStr i).2.1) "java/lang/String" "value" "[B")) (.int (Int32.ofNat (zStr i).2.2.2.length)) ∈ lF) ∧ ∀ j, j < (zStr i).2.2.2.length → Cond.eq (.elem (.field (.string (zStr i).1 (zStr i).2.1) "java/lang/String" "value" "[B") (.int (Int32.ofNat j))) (.int ((zStr i).2.2.2.getD j 0)) ∈ lF
  | 0, _ => lf_s0
  | 1, _ => lf_s1
  | 2, _ => lf_s2
  | 3, _ => lf_s3
  | 4, _ => lf_s4
  | 5, _ => lf_s5
  | 6, _ => lf_s6
  | 7, _ => lf_s7
  | 8, _ => lf_s8
  | 9, _ => lf_s9
  | 10, _ => lf_s10
  | 11, _ => lf_s11
  | k + 12, h => absurd h (by omega)
set_option maxRecDepth 100000 in
theorem lf_nc : ∀ q ∈ zNC, Cond.not (.castable q.1 q.2) ∈ lF := by decide +kernel
theorem lf_cs : Cond.eq (.static "java/lang/String" "COMPACT_STRINGS" "Z") (.int 1) ∈ lF := by decide +kernel
theorem lf_si : Cond.isRef (.static "jdk/internal/util/Preconditions" "SIOOBE_FORMATTER" "Ljava/util/function/BiFunction;") ∈ lF := by decide +kernel
theorem lt_a0 : (Jvm.Cond.laysStatic "DaysBag" "STEP" "[I") ∈ lw_tbl := List.mem_append_right _ (List.mem_of_getElem? (i := 448) (by decide +kernel))
theorem lt_a1 : (Jvm.Cond.laysStatic "DaysBag" "UNDONE" "[I") ∈ lw_tbl := List.mem_append_right _ (List.mem_of_getElem? (i := 609) (by decide +kernel))
theorem lt_a2 : (Jvm.Cond.laysStatic "DaysBag" "PASCAL" "[I") ∈ lw_tbl := List.mem_append_right _ (List.mem_of_getElem? (i := 654) (by decide +kernel))
theorem lt_cs : (Jvm.Cond.laysStatic "java/lang/String" "COMPACT_STRINGS" "Z") ∈ lw_tbl := List.mem_append_right _ (List.mem_of_getElem? (i := 264) (by decide +kernel))
theorem lt_si : (Jvm.Cond.laysStatic "jdk/internal/util/Preconditions" "SIOOBE_FORMATTER" "Ljava/util/function/BiFunction;") ∈ lw_tbl := List.mem_append_right _ (List.mem_of_getElem? (i := 280) (by decide +kernel))
theorem lt_i0 : (Jvm.Cond.initialized "DaysBag") ∈ lw_tbl := List.mem_append_right _ (List.mem_of_getElem? (i := 1) (by decide +kernel))
theorem lt_i1 : (Jvm.Cond.initialized "java/lang/String") ∈ lw_tbl := List.mem_append_right _ (List.mem_of_getElem? (i := 8) (by decide +kernel))
theorem lt_i2 : (Jvm.Cond.initialized "jdk/internal/util/Preconditions") ∈ lw_tbl := List.mem_append_right _ (List.mem_of_getElem? (i := 10) (by decide +kernel))
theorem lt_ao : (Jvm.Cond.arrayOver (Jvm.ClassFile.FieldType.object "DaysBag$Worker")) ∈ lw_tbl := List.mem_append_right _ (List.mem_of_getElem? (i := 63) (by decide +kernel))
theorem lt_ai : (Jvm.Cond.arrayClass Jvm.ClassFile.FieldType.int) ∈ lw_tbl := List.mem_append_right _ (List.mem_of_getElem? (i := 55) (by decide +kernel))
theorem lt_al : (Jvm.Cond.arrayClass Jvm.ClassFile.FieldType.long) ∈ lw_tbl := List.mem_append_right _ (List.mem_of_getElem? (i := 1057) (by decide +kernel))
theorem lt_az : (Jvm.Cond.arrayClass Jvm.ClassFile.FieldType.boolean) ∈ lw_tbl := List.mem_append_right _ (List.mem_of_getElem? (i := 1056) (by decide +kernel))
theorem lt_n0 : (Jvm.Cond.instantiable "DaysBag$Ahead" (10 : Nat)) ∈ lw_tbl := List.mem_append_right _ (List.mem_of_getElem? (i := 154) (by decide +kernel))
theorem lt_n1 : (Jvm.Cond.instantiable "DaysBag$Best" (3 : Nat)) ∈ lw_tbl := List.mem_append_right _ (List.mem_of_getElem? (i := 520) (by decide +kernel))
theorem lt_n2 : (Jvm.Cond.instantiable "DaysBag$Left" (3 : Nat)) ∈ lw_tbl := List.mem_append_right _ (List.mem_of_getElem? (i := 490) (by decide +kernel))
theorem lt_n3 : (Jvm.Cond.instantiable "DaysBag$Plain" (3 : Nat)) ∈ lw_tbl := List.mem_append_right _ (List.mem_of_getElem? (i := 461) (by decide +kernel))
theorem lt_n4 : (Jvm.Cond.instantiable "DaysBag$Reader" (10 : Nat)) ∈ lw_tbl := List.mem_append_right _ (List.mem_of_getElem? (i := 117) (by decide +kernel))
theorem lt_n5 : (Jvm.Cond.instantiable "DaysBag$Season" (12 : Nat)) ∈ lw_tbl := List.mem_append_right _ (List.mem_of_getElem? (i := 57) (by decide +kernel))
theorem lt_n6 : (Jvm.Cond.instantiable "DaysBag$Sure" (3 : Nat)) ∈ lw_tbl := List.mem_append_right _ (List.mem_of_getElem? (i := 510) (by decide +kernel))
theorem lt_n7 : (Jvm.Cond.instantiable "DaysBag$Told" (4 : Nat)) ∈ lw_tbl := List.mem_append_right _ (List.mem_of_getElem? (i := 530) (by decide +kernel))
theorem lt_n8 : (Jvm.Cond.instantiable "DaysBag$Valley" (5 : Nat)) ∈ lw_tbl := List.mem_append_right _ (List.mem_of_getElem? (i := 31) (by decide +kernel))
theorem lt_n9 : (Jvm.Cond.instantiable "DaysBag$Waiting" (3 : Nat)) ∈ lw_tbl := List.mem_append_right _ (List.mem_of_getElem? (i := 500) (by decide +kernel))
theorem lt_n10 : (Jvm.Cond.instantiable "DaysBag$Worker" (3 : Nat)) ∈ lw_tbl := List.mem_append_right _ (List.mem_of_getElem? (i := 543) (by decide +kernel))
theorem lt_n11 : (Jvm.Cond.instantiable "DaysBag" (7 : Nat)) ∈ lw_tbl := List.mem_append_right _ (List.mem_of_getElem? (i := 23) (by decide +kernel))
theorem lt_n12 : (Jvm.Cond.instantiable "DaysBagModel" (33 : Nat)) ∈ lw_tbl := List.mem_append_right _ (List.mem_of_getElem? (i := 952) (by decide +kernel))
theorem lt_s0 : (Jvm.Cond.stringRef "DaysBag$Reader" (99 : Nat) "pay ") ∈ lw_tbl := List.mem_append_right _ (List.mem_of_getElem? (i := 250) (by decide +kernel))
theorem lt_s1 : (Jvm.Cond.stringRef "DaysBag$Reader" (105 : Nat) "012") ∈ lw_tbl := List.mem_append_right _ (List.mem_of_getElem? (i := 307) (by decide +kernel))
theorem lt_s2 : (Jvm.Cond.stringRef "DaysBag$Reader" (114 : Nat) "over ") ∈ lw_tbl := List.mem_append_right _ (List.mem_of_getElem? (i := 413) (by decide +kernel))
theorem lt_s3 : (Jvm.Cond.stringRef "DaysBag$Reader" (116 : Nat) "an ") ∈ lw_tbl := List.mem_append_right _ (List.mem_of_getElem? (i := 383) (by decide +kernel))
theorem lt_s4 : (Jvm.Cond.stringRef "DaysBag$Reader" (135 : Nat) "sglrd") ∈ lw_tbl := List.mem_append_right _ (List.mem_of_getElem? (i := 400) (by decide +kernel))
theorem lt_s5 : (Jvm.Cond.stringRef "DaysBag$Reader" (137 : Nat) "<=>") ∈ lw_tbl := List.mem_append_right _ (List.mem_of_getElem? (i := 401) (by decide +kernel))
theorem lt_s6 : (Jvm.Cond.stringRef "DaysBag$Reader" (137 : Nat) "<=>") ∈ lw_tbl := List.mem_append_right _ (List.mem_of_getElem? (i := 401) (by decide +kernel))
theorem lt_s7 : (Jvm.Cond.stringRef "DaysBagModel" (119 : Nat) "sglrd") ∈ lw_tbl := List.mem_append_right _ (List.mem_of_getElem? (i := 1124) (by decide +kernel))
theorem lt_s8 : (Jvm.Cond.stringRef "DaysBagModel" (125 : Nat) "<=>") ∈ lw_tbl := List.mem_append_right _ (List.mem_of_getElem? (i := 1129) (by decide +kernel))
theorem lt_s9 : (Jvm.Cond.stringRef "DaysBagModel" (133 : Nat) "over ") ∈ lw_tbl := List.mem_append_right _ (List.mem_of_getElem? (i := 1092) (by decide +kernel))
theorem lt_s10 : (Jvm.Cond.stringRef "DaysBagModel" (139 : Nat) "an ") ∈ lw_tbl := List.mem_append_right _ (List.mem_of_getElem? (i := 1103) (by decide +kernel))
theorem lt_s11 : (Jvm.Cond.stringRef "DaysBagModel" (144 : Nat) "pay ") ∈ lw_tbl := List.mem_append_right _ (List.mem_of_getElem? (i := 1134) (by decide +kernel))
theorem lt_arr : ∀ i, i < 3 → Cond.laysStatic "DaysBag" (zArr i).1 "[I" ∈ lw_tbl
  | 0, _ => lt_a0
  | 1, _ => lt_a1
  | 2, _ => lt_a2
  | k + 3, h => absurd h (by omega)
theorem lt_str : ∀ i, i < 12 → Cond.stringRef (zStr i).1 (zStr i).2.1 (zStr i).2.2.1 ∈ lw_tbl
  | 0, _ => lt_s0
  | 1, _ => lt_s1
  | 2, _ => lt_s2
  | 3, _ => lt_s3
  | 4, _ => lt_s4
  | 5, _ => lt_s5
  | 6, _ => lt_s6
  | 7, _ => lt_s7
  | 8, _ => lt_s8
  | 9, _ => lt_s9
  | 10, _ => lt_s10
  | 11, _ => lt_s11
  | k + 12, h => absurd h (by omega)
theorem l_len3 : ∀ i, i < 3 → (zArr i).2.length < 2 ^ 31 := by decide +kernel
theorem l_len12 : ∀ i, i < 12 → (zStr i).2.2.2.length < 2 ^ 31 := by decide +kernel
theorem l_code (x : Int32) : Int32.ofNat x.toBitVec.toNat = x := Int32.toBitVec_inj.mp (by simp)
variable {s : State} {b L : Nat} {xs : Nat → Int32}
/-- the fixed cells at the start -/
theorem lw_zX (hts : ∀ w ∈ lw_tbl, w.before #[Value.ref b] s = true) (hf : ∀ w ∈ lF, w.before #[Value.ref b] s = true) (hX : va_X b L xs s s.heap) (hbl : b < s.heap.size) : ∃ G : ZG, G.1 = s.heap.size ∧ G.2 50 = b ∧ G.2 51 = L ∧ zX G s := by
  have hA : ∀ a : Nat, a < s.heap.size → ¬ zA s.heap.size a := fun a h z => Nat.lt_irrefl _ (Nat.lt_of_lt_of_le h z)
  have h1 : ∀ i : Nat, ∃ t : Nat, i < 3 → va_Z "DaysBag" (zArr i).1 "[I" (.ref t) (zA s.heap.size) s s.heap ∧ va_T .int t (zArr i).2.length (fun j => .int ((zArr i).2.getD j 0)) (zA s.heap.size) s s.heap := by
    intro i
    by_cases hi : i < 3
    · obtain ⟨⟨w1, w2⟩, w3⟩ := lf_arr i hi
      obtain ⟨t, ht, hT⟩ := va_Tof (f := fun j => .int ((zArr i).2.getD j 0)) (A := zA s.heap.size) (l_len3 i hi) (hf _ w1) (va_eqt (hf _ w2)) (fun j hj => va_eqt (hf _ (w3 j hj))) hA
      exact ⟨t, fun _ => ⟨va_Zref (hts _ (lt_arr i hi)) (hts _ lt_i0) ht hA, hT⟩⟩
    · exact ⟨0, fun h => absurd h hi⟩
  have h2 : ∀ i : Nat, ∃ q : Nat × Nat, i < 12 → vk_R (zStr i).1 (zStr i).2.1 (zStr i).2.2.1 q.1 s ∧ va_O "java/lang/String" q.1 (zA s.heap.size) s s.heap ∧ va_OF "java/lang/String" "coder" "B" (.int 0) q.1 (zA s.heap.size) s s.heap ∧ va_OF "java/lang/String" "value" "[B" (.ref q.2) q.1 (zA s.heap.size) s s.heap ∧ va_T .byte q.2 (zStr i).2.2.2.length (fun j => .int ((zStr i).2.2.2.getD j 0)) (zA s.heap.size) s s.heap := by
    intro i
    by_cases hi : i < 12
    · obtain ⟨⟨w1, w2⟩, ⟨w3, w4⟩, w5⟩ := lf_str i hi
      obtain ⟨a, c, cA, kA, q1, q2, q3, q4, q5, q6, -⟩ := Cond.exactly_spec (args := #[Value.ref b]) (first := s) (o := none) (s := s) (idx := []) (t := Term.string (zStr i).1 (zStr i).2.1) (cls := "java/lang/String") (hf _ w1)
      obtain ⟨t, ht, hT⟩ := va_Tof (f := fun j => .int ((zStr i).2.2.2.getD j 0)) (A := zA s.heap.size) (l_len12 i hi) (hf _ w3) (va_eqt (hf _ w4)) (fun j hj => va_eqt (hf _ (w5 j hj))) hA
      exact ⟨(a, t), fun _ => ⟨vk_R.of (hts _ (lt_str i hi)) q1, va_Oof (hf _ w1) q1 hA, vk_OFof q1 (va_eqt (hf _ w2)) hA, vk_OFof q1 ht hA, hT⟩⟩
    · exact ⟨(0, 0), fun h => absurd h hi⟩
  obtain ⟨ad, had⟩ := Classical.axiomOfChoice h1
  obtain ⟨as, has⟩ := Classical.axiomOfChoice h2
  have key : ∃ g : Nat → Nat, (∀ i, i < 3 → g i = ad i) ∧ (∀ i, i < 12 → g (10 + i) = (as i).1) ∧ (∀ i, i < 12 → g (30 + i) = (as i).2) ∧ g 50 = b ∧ g 51 = L ∧ ∀ j, g (100 + j) = (xs j).toBitVec.toNat := by
    refine ⟨fun i => if i < 3 then ad i else if i < 22 then (as (i - 10)).1 else if i < 42 then (as (i - 30)).2 else if i = 50 then b else if i = 51 then L else (xs (i - 100)).toBitVec.toNat, fun i hi => if_pos hi, fun i hi => ?_, fun i hi => ?_, rfl, rfl, fun j => ?_⟩
    · show (if 10 + i < 3 then _ else _) = _
      rw [if_neg (by omega), if_pos (by omega), show 10 + i - 10 = i by omega]
    · show (if 30 + i < 3 then _ else _) = _
      rw [if_neg (by omega), if_neg (by omega), if_pos (by omega), show 30 + i - 30 = i by omega]
    · show (if 100 + j < 3 then _ else _) = _
      rw [if_neg (by omega), if_neg (by omega), if_neg (by omega), if_neg (by omega), if_neg (by omega), show 100 + j - 100 = j by omega]
  obtain ⟨g, g1, g2, g3, g4, g5, g6⟩ := key
  obtain ⟨scr, x1, x2, x3, x4, x5⟩ := hX
  refine ⟨(s.heap.size, g), rfl, g4, g5, fun i hi => ?_, fun i hi => ?_, va_Zof (hts _ lt_cs) (hts _ lt_i1) (va_eqt (hf _ lf_cs)) hA, fun w hw => va_Nw.of (zkind_tab (List.mem_filter.mp hw).2) (hts w (List.mem_filter.mp hw).1), ⟨va_AO.of (hts _ lt_ao), ?_⟩, fun q hq => va_Nc.of (hf _ (lf_nc q hq)), va_Zqof (hts _ lt_si) (hts _ lt_i2) (hf _ lf_si) hA⟩
  · show va_Z _ _ _ (.ref (g i)) _ _ _ ∧ va_T _ (g i) _ _ _ _ _
    rw [g1 i hi]
    exact had i hi
  · show vk_R _ _ _ (g (10 + i)) _ ∧ va_O _ (g (10 + i)) _ _ _ ∧ va_OF _ _ _ _ (g (10 + i)) _ _ _ ∧ va_OF _ _ _ (.ref (g (30 + i))) (g (10 + i)) _ _ _ ∧ va_T _ (g (30 + i)) _ _ _ _ _
    rw [g2 i hi, g3 i hi]
    exact has i hi
  · show va_T _ (g 50) (g 51) (fun j => .int (Int32.ofNat (g (100 + j)))) _ _ _
    rw [g4, g5]
    refine ⟨scr, x1, x2, x3, Nat.le_of_eq x4.symm, by rw [x4] <;> rfl, fun j hj => ?_, hA b hbl⟩
    show _ = some (Value.int (Int32.ofNat (g (100 + j))))
    rw [g6, l_code]
    exact x5 j hj
theorem l_arrK {ty : FieldType} (h : (Cond.arrayClass ty).before #[Value.ref b] s = true) (ht : ∀ n, ty ≠ .object n) : ∃ cA, ArrOfT s cA ty ∧ va_RA s cA ty := by
  obtain ⟨cA, kA, comp, h1, h2, h3⟩ := Cond.arrayClass_spec h
  refine ⟨cA, fun n z => ⟨fun k h => (by cases h), kA, h2, comp, h3⟩, ?_⟩
  cases ty <;> first | exact h1 | exact absurd rfl (ht _)
/-- the classes' and arrays' knowledge at the start -/
theorem lw_vaK (hts : ∀ w ∈ lw_tbl, w.before #[Value.ref b] s = true) : ∃ (D : va_G) (dA : Nat → ClassId), va_K D vwCl (zTys dA) s := by
  have hz : ∀ w ∈ zT, w.before #[Value.ref b] s = true := fun w h => hts w (List.mem_filter.mp h).1
  obtain ⟨c0, i0, k0⟩ := u_known (C := RX0) (T := TX0) (N := 10) (n := 10) hz in_0 (hts _ lt_n0)
  obtain ⟨c1, i1, k1⟩ := u_known (C := RX1) (T := TX1) (N := 3) (n := 3) hz in_1 (hts _ lt_n1)
  obtain ⟨c2, i2, k2⟩ := u_known (C := RX2) (T := TX2) (N := 3) (n := 3) hz in_2 (hts _ lt_n2)
  obtain ⟨c3, i3, k3⟩ := u_known (C := RX3) (T := TX3) (N := 3) (n := 3) hz in_3 (hts _ lt_n3)
  obtain ⟨c4, i4, k4⟩ := u_known (C := RX4) (T := TX4) (N := 10) (n := 10) hz in_4 (hts _ lt_n4)
  obtain ⟨c5, i5, k5⟩ := u_known (C := RX5) (T := TX5) (N := 12) (n := 12) hz in_5 (hts _ lt_n5)
  obtain ⟨c6, i6, k6⟩ := u_known (C := RX6) (T := TX6) (N := 3) (n := 3) hz in_6 (hts _ lt_n6)
  obtain ⟨c7, i7, k7⟩ := u_known (C := RX7) (T := TX7) (N := 4) (n := 4) hz in_7 (hts _ lt_n7)
  obtain ⟨c8, i8, k8⟩ := u_known (C := RX8) (T := TX8) (N := 5) (n := 5) hz in_8 (hts _ lt_n8)
  obtain ⟨c9, i9, k9⟩ := u_known (C := RX9) (T := TX9) (N := 3) (n := 3) hz in_9 (hts _ lt_n9)
  obtain ⟨c10, i10, k10⟩ := u_known (C := RX10) (T := TX10) (N := 3) (n := 3) hz in_10 (hts _ lt_n10)
  obtain ⟨c11, i11, k11⟩ := u_known (C := RX11) (T := TX11) (N := 7) (n := 7) hz in_11 (hts _ lt_n11)
  obtain ⟨c12, i12, k12⟩ := u_known (C := RX12) (T := TX12) (N := 33) (n := 33) hz in_12 (hts _ lt_n12)
  obtain ⟨a0, ha0⟩ := l_arrK (hts _ lt_ai) (fun n h => by cases h)
  obtain ⟨a1, ha1⟩ := l_arrK (hts _ lt_al) (fun n h => by cases h)
  obtain ⟨a2, ha2⟩ := l_arrK (hts _ lt_az) (fun n h => by cases h)
  obtain ⟨comp, a3, kA, f1, f2, f3, f4, f5⟩ := Cond.arrayOver_spec (hts _ lt_ao)
  have ha3 : ArrOfT s a3 (.object "DaysBag$Worker") ∧ va_RA s a3 (.object "DaysBag$Worker") := ⟨fun N z => ⟨(fun k h => by cases h), kA, f3, comp, f4⟩, kA, comp, f3, f4, f1, f5⟩
  refine ⟨(fun k => match k with
    | 0 => c0
    | 1 => c1
    | 2 => c2
    | 3 => c3
    | 4 => c4
    | 5 => c5
    | 6 => c6
    | 7 => c7
    | 8 => c8
    | 9 => c9
    | 10 => c10
    | 11 => c11
    | _ => c12, fun k => match k with
    | 0 => i0
    | 1 => i1
    | 2 => i2
    | 3 => i3
    | 4 => i4
    | 5 => i5
    | 6 => i6
    | 7 => i7
    | 8 => i8
    | 9 => i9
    | 10 => i10
    | 11 => i11
    | _ => i12), fun k => match k with
    | 0 => a0
    | 1 => a1
    | 2 => a2
    | _ => a3, fun k q hq => ?_, fun k q hq => ?_⟩
  · match k, hq with
    | 0, hq => cases hq; exact k0
    | 1, hq => cases hq; exact k1
    | 2, hq => cases hq; exact k2
    | 3, hq => cases hq; exact k3
    | 4, hq => cases hq; exact k4
    | 5, hq => cases hq; exact k5
    | 6, hq => cases hq; exact k6
    | 7, hq => cases hq; exact k7
    | 8, hq => cases hq; exact k8
    | 9, hq => cases hq; exact k9
    | 10, hq => cases hq; exact k10
    | 11, hq => cases hq; exact k11
    | 12, hq => cases hq; exact k12
    | k + 13, hq => cases hq
  · match k, hq with
    | 0, hq => cases hq; exact ha0
    | 1, hq => cases hq; exact ha1
    | 2, hq => cases hq; exact ha2
    | 3, hq => cases hq; exact ha3
    | k + 4, hq => cases hq
end LW4
