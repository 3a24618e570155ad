def RelXM (Sx Sm : SZ) : Prop := True
theorem the_steps : Steps RelXM := sorry
theorem the_start : RelXM ZX0 ZM0 := trivial
