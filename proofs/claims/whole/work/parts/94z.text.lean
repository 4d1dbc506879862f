theorem step_text {u v : St} (h : RR u v) : ∃ (r : Int32) (u' v' : St), pX6_text LF u = some (r, u') ∧ pX7_text LF v = some (r, v') ∧ RR u' v' := by
  sorry
