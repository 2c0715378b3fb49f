/-! ===== one that is told: settings, laws, all ===== -/
theorem qSwt_d {J : Nat → Prop} {x v : Int32} {df : Nat} (h : J df) : qSwt J x v [] df := h
section
variable {l : Launch} {G : qG} {d : Nat} {I I0 : qMI} {L : qML} {R : qMR} {s c br th se : Nat}
theorem yPS_19 (h19 : (I0 292 19).toInt = s) {J : qMI} (hJ : yPS s I0 J c br th se) : (J 292 19).toInt = s := by rw [hJ.1.2.2.2.2.2 19 (by decide) (by decide) (by decide) (by decide) (by decide) (by decide) (by decide) (by decide) (by decide) (by decide)]; exact h19
end
