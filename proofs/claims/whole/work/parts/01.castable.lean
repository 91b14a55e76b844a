/-- a premise 'not castable C T' is no true word of a state that has no class C: its value is none, not true -/
theorem cw_not_castable {C T : String} {args : Array Value} {s : State} (h : s.vm.findClass C = none) : (Cond.not (.castable C T)).before args s = false := by
  simp [Cond.before, Cond.holds, Cond.value, h]
/-- so the premise of narrow_1_2 on the class of arrays of stack trace elements fails in a state without that class -/
theorem cw_steps {args : Array Value} {s : State} (h : s.vm.findClass "[Ljava/lang/StackTraceElement;" = none) : (Cond.not (.castable "[Ljava/lang/StackTraceElement;" "java/lang/String")).before args s = false := cw_not_castable h
