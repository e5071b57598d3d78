section CK2
variable {G : ZG} {M : ZM} {d pc idx j c kd row : Nat} {L : List (Option Value)} {st : List Value} {α : AH} {u : Nat × Nat} {num v : Int32} {post : Option Value → AH → Prop}
theorem Z_wget (hd : decode (mC M) pc = .ok (.getfield idx, 3)) (hf : zFld (mY M).cls idx 10 j ∧ zFld (mY M).cls idx 3 j ∧ zFld (mY M).cls idx 2 j ∧ zFld (mY M).cls idx 9 j ∧ zFld (mY M).cls idx 6 j ∧ zFld (mY M).cls idx 1 j ∧ zFld (mY M).cls idx 7 j) (hj : j < 3) (ho : wObj α c kd num v row) (kk : Z G M d (pc + 3) L (.int (hI α c j) :: st) α u post) : Z G M d pc L (.ref (G.1 + c) :: st) α u post := by
  obtain ⟨-, hk6, hz, -⟩ := ho
  have hk : kd = 0 ∨ kd = 1 ∨ kd = 2 ∨ kd = 3 ∨ kd = 4 ∨ kd = 5 ∨ kd = 6 := by omega
  have hjj : j = 0 ∨ j = 1 ∨ j = 2 := by omega
  rcases hk with rfl | rfl | rfl | rfl | rfl | rfl | rfl
  · exact Z_getI hd cl_10 hf.1 (by rcases hjj with rfl | rfl | rfl <;> rfl) hz kk
  · exact Z_getI hd cl_3 hf.2.1 (by rcases hjj with rfl | rfl | rfl <;> rfl) hz kk
  · exact Z_getI hd cl_2 hf.2.2.1 (by rcases hjj with rfl | rfl | rfl <;> rfl) hz kk
  · exact Z_getI hd cl_9 hf.2.2.2.1 (by rcases hjj with rfl | rfl | rfl <;> rfl) hz kk
  · exact Z_getI hd cl_6 hf.2.2.2.2.1 (by rcases hjj with rfl | rfl | rfl <;> rfl) hz kk
  · exact Z_getI hd cl_1 hf.2.2.2.2.2.1 (by rcases hjj with rfl | rfl | rfl <;> rfl) hz kk
  · exact Z_getI hd cl_7 hf.2.2.2.2.2.2 (by rcases hjj with rfl | rfl | rfl <;> rfl) hz kk
theorem fw_X11_132 : zFld "DaysBag" 132 10 0 ∧ zFld "DaysBag" 132 3 0 ∧ zFld "DaysBag" 132 2 0 ∧ zFld "DaysBag" 132 9 0 ∧ zFld "DaysBag" 132 6 0 ∧ zFld "DaysBag" 132 1 0 ∧ zFld "DaysBag" 132 7 0 := ⟨fl_X11_132_10, fl_X11_132_3, fl_X11_132_2, fl_X11_132_9, fl_X11_132_6, fl_X11_132_1, fl_X11_132_7⟩
theorem fw_X11_137 : zFld "DaysBag" 137 10 2 ∧ zFld "DaysBag" 137 3 2 ∧ zFld "DaysBag" 137 2 2 ∧ zFld "DaysBag" 137 9 2 ∧ zFld "DaysBag" 137 6 2 ∧ zFld "DaysBag" 137 1 2 ∧ zFld "DaysBag" 137 7 2 := ⟨fl_X11_137_10, fl_X11_137_3, fl_X11_137_2, fl_X11_137_9, fl_X11_137_6, fl_X11_137_1, fl_X11_137_7⟩
end CK2
