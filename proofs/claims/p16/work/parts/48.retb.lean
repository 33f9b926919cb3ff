/-! A boolean answer that isn't a constant. -/
theorem q_retb {mm : pm_M} {pc : Nat} {lv : pm_L} {g : qM} {u : qW} {Q : Option Value × qM × qW → Prop} {v : Int32} (hv : v = 0 ∨ v = 1) (hrt : pm_rt mm = some .boolean) (he : pm_at mm pc = some (.ireturn, 0, 0, 0)) (e : Q (some (.int v), g, u)) : q_EV mm pc lv [.int v] g u Q := by
  refine q_ret 1 (some (.int v), g, u) (fun big n => ?_) e
  show (match pm_at mm pc with
    | some e => qm_step pm_m big mm (qm_run pm_m big mm n) e pc lv [.int v] g u
    | none => none) = _
  rw [he]
  show qm_ret mm [.int v] g u = _
  unfold qm_ret
  rw [hrt]
  rcases hv with rfl | rfl <;> rfl
