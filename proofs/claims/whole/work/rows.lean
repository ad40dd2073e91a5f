section
/-! What the start's premise narrow_1 asks of the class table, against the printed start (REPORT.md, TRANSLATOR). Nothing here is needed for i_vc. -/
set_option maxRecDepth 100000 in
/-- whoever meets narrow_1 has the class of arrays of StackTraceElement in its table -/
theorem dg_needs (args : Array Value) (s : State) (h : (Jvm.Cond.and given_1 narrow_1).before args s = true) : (s.vm.findClass "[Ljava/lang/StackTraceElement;").isSome = true := by
  have h1 : (Cond.not (Cond.castable "[Ljava/lang/StackTraceElement;" "java/lang/Integer")).before args s = true := flat_of_before _ h _ (by decide +kernel)
  cases hc : s.vm.findClass "[Ljava/lang/StackTraceElement;" with
  | some c => rfl
  | none => simp [Cond.before, Cond.holds, Cond.value, hc] at h1
end
