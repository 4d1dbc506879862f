def RR (u v : St) : Prop := u.1 0 = v.1 0
theorem RR_start : RR u0X u0M := by sorry
def LF : Nat := 2000
theorem step_feed {u v : St} (h : RR u v) (x0 : Int32) : ∃ (r : Int32) (u' v' : St), pX6_feed LF x0 u = some (r, u') ∧ pX7_feed LF x0 v = some (r, v') ∧ RR u' v' := by
  sorry
theorem step_end {u v : St} (h : RR u v) (x0 : Int32) : ∃ (r : Int32) (u' v' : St), pX6_end LF x0 u = some (r, u') ∧ pX7_end LF x0 v = some (r, v') ∧ RR u' v' := by
  sorry
theorem step_text {u v : St} (h : RR u v) : ∃ (r : Int32) (u' v' : St), pX6_text LF u = some (r, u') ∧ pX7_text LF v = some (r, v') ∧ RR u' v' := by
  sorry
theorem step_fault {u v : St} (h : RR u v) : ∃ (r : Int32) (u' v' : St), pX6_fault LF u = some (r, u') ∧ pX7_fault LF v = some (r, v') ∧ RR u' v' := by
  sorry
theorem step_rule {u v : St} (h : RR u v) (x0 : Int32) : ∃ (r : Int32) (u' v' : St), pX6_rule LF x0 u = some (r, u') ∧ pX7_rule LF x0 v = some (r, v') ∧ RR u' v' := by
  sorry
theorem step_flame {u v : St} (h : RR u v) (x0 x1 x2 : Int32) : ∃ (r : Int32) (u' v' : St), pX6_flame LF x0 x1 x2 u = some (r, u') ∧ pX7_flame LF x0 x1 x2 v = some (r, v') ∧ RR u' v' := by
  sorry
theorem step_suit {u v : St} (h : RR u v) (x0 x1 : Int32) : ∃ (r : Int32) (u' v' : St), pX6_suit LF x0 x1 u = some (r, u') ∧ pX7_suit LF x0 x1 v = some (r, v') ∧ RR u' v' := by
  sorry
theorem step_judge {u v : St} (h : RR u v) (x0 x1 : Int32) : ∃ (r : Int32) (u' v' : St), pX6_judge LF x0 x1 u = some (r, u') ∧ pX7_judge LF x0 x1 v = some (r, v') ∧ RR u' v' := by
  sorry
theorem step_draught {u v : St} (h : RR u v) (x0 x1 : Int32) : ∃ (r : Int32) (u' v' : St), pX6_draught LF x0 x1 u = some (r, u') ∧ pX7_draught LF x0 x1 v = some (r, v') ∧ RR u' v' := by
  sorry
theorem step_docket {u v : St} (h : RR u v) (x0 x1 : Int32) : ∃ (r : Int32) (u' v' : St), pX6_docket LF x0 x1 u = some (r, u') ∧ pX7_docket LF x0 x1 v = some (r, v') ∧ RR u' v' := by
  sorry
theorem step_trim {u v : St} (h : RR u v) (x0 x1 x2 x3 : Int32) : ∃ (r : Int32) (u' v' : St), pX6_trim LF x0 x1 x2 x3 u = some (r, u') ∧ pX7_trim LF x0 x1 x2 x3 v = some (r, v') ∧ RR u' v' := by
  sorry
theorem step_train {u v : St} (h : RR u v) (x0 x1 x2 : Int32) : ∃ (r : Int32) (u' v' : St), pX6_train LF x0 x1 x2 u = some (r, u') ∧ pX7_train LF x0 x1 x2 v = some (r, v') ∧ RR u' v' := by
  sorry
theorem step_blow {u v : St} (h : RR u v) (x0 x1 : Int32) : ∃ (r : Int32) (u' v' : St), pX6_blow LF x0 x1 u = some (r, u') ∧ pX7_blow LF x0 x1 v = some (r, v') ∧ RR u' v' := by
  sorry
theorem step_calm {u v : St} (h : RR u v) (x0 : Int32) : ∃ (r : Int32) (u' v' : St), pX6_calm LF x0 u = some (r, u') ∧ pX7_calm LF x0 v = some (r, v') ∧ RR u' v' := by
  sorry
theorem step_plan {u v : St} (h : RR u v) (x0 x1 : Int32) : ∃ (r : Int32) (u' v' : St), pX6_plan LF x0 x1 u = some (r, u') ∧ pX7_plan LF x0 x1 v = some (r, v') ∧ RR u' v' := by
  sorry
theorem step_cut {u v : St} (h : RR u v) (x0 : Int32) : ∃ (r : Int32) (u' v' : St), pX6_cut LF x0 u = some (r, u') ∧ pX7_cut LF x0 v = some (r, v') ∧ RR u' v' := by
  sorry
theorem step_hear {u v : St} (h : RR u v) (x0 x1 : Int32) : ∃ (r : Int32) (u' v' : St), pX6_hear LF x0 x1 u = some (r, u') ∧ pX7_hear LF x0 x1 v = some (r, v') ∧ RR u' v' := by
  sorry
theorem step_appeal {u v : St} (h : RR u v) (x0 : Int32) : ∃ (r : Int32) (u' v' : St), pX6_appeal LF x0 u = some (r, u') ∧ pX7_appeal LF x0 v = some (r, v') ∧ RR u' v' := by
  sorry
theorem step_foretell {u v : St} (h : RR u v) (x0 x1 x2 : Int32) : ∃ (r : Int32) (u' v' : St), pX6_foretell LF x0 x1 x2 u = some (r, u') ∧ pX7_foretell LF x0 x1 x2 v = some (r, v') ∧ RR u' v' := by
  sorry
theorem step_runs {u v : St} (h : RR u v) (x0 : Int32) : ∃ (r : Int32) (u' v' : St), pX6_runs LF x0 u = some (r, u') ∧ pX7_runs LF x0 v = some (r, v') ∧ RR u' v' := by
  sorry
theorem step_ahead {u v : St} (h : RR u v) (x0 : Int32) : ∃ (r : Int32) (u' v' : St), pX6_ahead LF x0 u = some (r, u') ∧ pX7_ahead LF x0 v = some (r, v') ∧ RR u' v' := by
  sorry
theorem step_friends {u v : St} (h : RR u v) (x0 x1 : Int32) : ∃ (r : Int32) (u' v' : St), pX6_friends LF x0 x1 u = some (r, u') ∧ pX7_friends LF x0 x1 v = some (r, v') ∧ RR u' v' := by
  sorry
theorem step_wax {u v : St} (h : RR u v) (x0 x1 x2 : Int32) : ∃ (r : Int32) (u' v' : St), pX6_wax LF x0 x1 x2 u = some (r, u') ∧ pX7_wax LF x0 x1 x2 v = some (r, v') ∧ RR u' v' := by
  sorry
theorem step_least {u v : St} (h : RR u v) (x0 x1 x2 : Int32) : ∃ (r : Int32) (u' v' : St), pX6_least LF x0 x1 x2 u = some (r, u') ∧ pX7_least LF x0 x1 x2 v = some (r, v') ∧ RR u' v' := by
  sorry
theorem step_hand {u v : St} (h : RR u v) (x0 x1 x2 : Int32) : ∃ (r : Int32) (u' v' : St), pX6_hand LF x0 x1 x2 u = some (r, u') ∧ pX7_hand LF x0 x1 x2 v = some (r, v') ∧ RR u' v' := by
  sorry
theorem step_turn {u v : St} (h : RR u v) (x0 x1 x2 : Int32) : ∃ (r : Int32) (u' v' : St), pX6_turn LF x0 x1 x2 u = some (r, u') ∧ pX7_turn LF x0 x1 x2 v = some (r, v') ∧ RR u' v' := by
  sorry
theorem step_sure {u v : St} (h : RR u v) (x0 x1 x2 : Int32) : ∃ (r : Int32) (u' v' : St), pX6_sure LF x0 x1 x2 u = some (r, u') ∧ pX7_sure LF x0 x1 x2 v = some (r, v') ∧ RR u' v' := by
  sorry
theorem step_rest {u v : St} (h : RR u v) (x0 x1 x2 : Int32) : ∃ (r : Int32) (u' v' : St), pX6_rest LF x0 x1 x2 u = some (r, u') ∧ pX7_rest LF x0 x1 x2 v = some (r, v') ∧ RR u' v' := by
  sorry
theorem step_share {u v : St} (h : RR u v) (x0 x1 : Int32) : ∃ (r : Int32) (u' v' : St), pX6_share LF x0 x1 u = some (r, u') ∧ pX7_share LF x0 x1 v = some (r, v') ∧ RR u' v' := by
  sorry
theorem step_swap {u v : St} (h : RR u v) (x0 x1 : Int32) : ∃ (r : Int32) (u' v' : St), pX6_swap LF x0 x1 u = some (r, u') ∧ pX7_swap LF x0 x1 v = some (r, v') ∧ RR u' v' := by
  sorry
theorem step_luck {u v : St} (h : RR u v) (x0 x1 x2 x3 x4 : Int32) : ∃ (r : Int64) (u' v' : St), pX6_luck LF x0 x1 x2 x3 x4 u = some (r, u') ∧ pX7_luck LF x0 x1 x2 x3 x4 v = some (r, v') ∧ RR u' v' := by
  sorry
theorem step_mean {u v : St} (h : RR u v) (x0 x1 x2 : Int32) : ∃ (r : Int64) (u' v' : St), pX6_mean LF x0 x1 x2 u = some (r, u') ∧ pX7_mean LF x0 x1 x2 v = some (r, v') ∧ RR u' v' := by
  sorry
theorem step_see {u v : St} (h : RR u v) (x0 x1 x2 : Int32) : ∃ (r : Int32) (u' v' : St), pX6_see LF x0 x1 x2 u = some (r, u') ∧ pX7_see LF x0 x1 x2 v = some (r, v') ∧ RR u' v' := by
  sorry
theorem step_forget {u v : St} (h : RR u v) (x0 : Int32) : ∃ (r : Int32) (u' v' : St), pX6_forget LF x0 u = some (r, u') ∧ pX7_forget LF x0 v = some (r, v') ∧ RR u' v' := by
  sorry
theorem step_habits {u v : St} (h : RR u v) (x0 : Int32) : ∃ (r : Int32) (u' v' : St), pX6_habits LF x0 u = some (r, u') ∧ pX7_habits LF x0 v = some (r, v') ∧ RR u' v' := by
  sorry
theorem step_slows {u v : St} (h : RR u v) (x0 : Int32) : ∃ (r : Int32) (u' v' : St), pX6_slows LF x0 u = some (r, u') ∧ pX7_slows LF x0 v = some (r, v') ∧ RR u' v' := by
  sorry
theorem step_ask {u v : St} (h : RR u v) (x0 x1 : Int32) : ∃ (r : Int32) (u' v' : St), pX6_ask LF x0 x1 u = some (r, u') ∧ pX7_ask LF x0 x1 v = some (r, v') ∧ RR u' v' := by
  sorry
theorem step_drift {u v : St} (h : RR u v) (x0 x1 x2 : Int32) : ∃ (r : Int32) (u' v' : St), pX6_drift LF x0 x1 x2 u = some (r, u') ∧ pX7_drift LF x0 x1 x2 v = some (r, v') ∧ RR u' v' := by
  sorry
theorem step_keep {u v : St} (h : RR u v) (x0 : Int32) : ∃ (r : Int32) (u' v' : St), pX6_keep LF x0 u = some (r, u') ∧ pX7_keep LF x0 v = some (r, v') ∧ RR u' v' := by
  sorry
theorem step_back {u v : St} (h : RR u v) (x0 : Int32) : ∃ (r : Int32) (u' v' : St), pX6_back LF x0 u = some (r, u') ∧ pX7_back LF x0 v = some (r, v') ∧ RR u' v' := by
  sorry
theorem step_sheet {u v : St} (h : RR u v) (x0 x1 x2 : Int32) : ∃ (r : Int32) (u' v' : St), pX6_sheet LF x0 x1 x2 u = some (r, u') ∧ pX7_sheet LF x0 x1 x2 v = some (r, v') ∧ RR u' v' := by
  sorry
theorem step_lay {u v : St} (h : RR u v) (x0 x1 x2 : Int32) : ∃ (r : Int32) (u' v' : St), pX6_lay LF x0 x1 x2 u = some (r, u') ∧ pX7_lay LF x0 x1 x2 v = some (r, v') ∧ RR u' v' := by
  sorry
theorem step_read {u v : St} (h : RR u v) (x0 x1 x2 x3 : Int32) : ∃ (r : Int32) (u' v' : St), pX6_read LF x0 x1 x2 x3 u = some (r, u') ∧ pX7_read LF x0 x1 x2 x3 v = some (r, v') ∧ RR u' v' := by
  sorry
theorem step_torn {u v : St} (h : RR u v) : ∃ (r : Int32) (u' v' : St), pX6_torn LF u = some (r, u') ∧ pX7_torn LF v = some (r, v') ∧ RR u' v' := by
  sorry
theorem step_count {u v : St} (h : RR u v) (x0 : Int32) : ∃ (r : Int32) (u' v' : St), pX6_count LF x0 u = some (r, u') ∧ pX7_count LF x0 v = some (r, v') ∧ RR u' v' := by
  sorry
