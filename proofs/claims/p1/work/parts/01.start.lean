/-! Why the printed start can't meet the premises: a start whose tables have no class of the name of StackTraceElement's arrays meets none of them. -/
theorem ws_cast {args : Array Value} {s : State} {C T : String} (h : s.vm.findClass C = none) : (Cond.not (.castable C T)).before args s = false := by
  simp [Cond.before, Cond.holds, Cond.value, h]
theorem ws_start {args : Array Value} {s : State} (h : s.vm.findClass "[Ljava/lang/StackTraceElement;" = none) : (Cond.and given_1 narrow_1).before args s = false := by
  cases hb : (Cond.and given_1 narrow_1).before args s with
  | false => rfl
  | true =>
    have h1 := flat_of_before _ hb (Cond.not (.castable "[Ljava/lang/StackTraceElement;" "java/lang/Integer")) (by decide +kernel)
    rw [ws_cast h] at h1
    cases h1
