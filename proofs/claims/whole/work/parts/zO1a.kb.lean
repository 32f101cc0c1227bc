/-! the words of one long method -/
set_option maxRecDepth 1000000 in
theorem kb68A : lw_tb2[1664]? = some (Cond.code f_68.1 f_68.2.1 f_68.2.2.1 f_68.2.2.2.1) := by
  rfl
set_option maxRecDepth 1000000 in
theorem kb68B : lw_tb2[102]? = some (Cond.initialized f_68.1.cls) := by rfl
set_option maxRecDepth 1000000 in
theorem kb68C : lw_tb2[1663]? = some (Cond.instanceMethod f_68.1) := by rfl
set_option maxRecDepth 1000000 in
theorem kb68D : lw_tb2[54]? = some (Cond.selects f_68.1.cls f_68.1 f_68.1) := by rfl
theorem kb_68 : okKb (1664, 102, 1663, 54) 1 f_68 = true := by
  show (((1 : Nat) == 3) || (decide (lw_tb2[1664]? = some (Cond.code f_68.1 f_68.2.1 f_68.2.2.1 f_68.2.2.2.1)) && decide (lw_tb2[102]? = some (Cond.initialized f_68.1.cls)) && (decide (lw_tb2[1663]? = some (Cond.instanceMethod f_68.1)) && decide (lw_tb2[54]? = some (Cond.selects f_68.1.cls f_68.1 f_68.1))))) = true
  rw [decide_eq_true kb68A, decide_eq_true kb68B, decide_eq_true kb68C, decide_eq_true kb68D]
  rfl
