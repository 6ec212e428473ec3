section
/-! no start whose tables lack the array class of java.lang.StackTraceElement meets the premises -/
set_option maxRecDepth 100000 in
theorem wt_in : Cond.not (.castable "[Ljava/lang/StackTraceElement;" "java/lang/String") ∈ flatC (Jvm.Cond.and given_1 narrow_1) := by decide +kernel
theorem wt_false {args : Array Value} {s : State} (h : s.vm.findClass "[Ljava/lang/StackTraceElement;" = none) : (Jvm.Cond.and given_1 narrow_1).before args s = false := by
  cases hb : (Jvm.Cond.and given_1 narrow_1).before args s with
  | false => rfl
  | true =>
    have h1 := flat_of_before _ hb _ wt_in
    simp [Cond.before, Cond.holds, Cond.value, h] at h1
end
