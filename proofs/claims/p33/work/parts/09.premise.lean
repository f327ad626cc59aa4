/-- the premises ask for a class that the printed witness has not: from every start that meets narrow_1_1, the class of arrays of java/lang/StackTraceElement is there -/
theorem pr_array {args : Array Value} {s : State} (h : narrow_1_1.before args s = true) : (s.vm.findClass "[Ljava/lang/StackTraceElement;").isSome = true := by
  have h1 : (Cond.not (Cond.castable "[Ljava/lang/StackTraceElement;" "java/lang/String")).before args s = true := flat_of_before _ h _ (by decide +kernel)
  cases hf : s.vm.findClass "[Ljava/lang/StackTraceElement;" with
  | some c => rfl
  | none => simp [Cond.before, Cond.holds, Cond.value, hf] at h1
