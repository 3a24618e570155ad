def RelXM (Sx Sm : St) : Prop := True
theorem the_steps : Steps RelXM := sorry
theorem the_start : RelXM SX0 SM0 := trivial
