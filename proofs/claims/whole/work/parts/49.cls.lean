/-! an array's class is known by its name -/
theorem z_cAI {D : va_G} {cyI cyC cyZ cA : ClassId} {s : State} (h : va_K D vwCl (zY cyI cyC cyZ ++ [(cA, .int)]) s) : cyI = cA := by
  have a := (h.2 0 (cyI, .int) rfl).2
  have b := (h.2 3 (cA, .int) rfl).2
  exact Option.some.inj ((show s.vm.findClass _ = some cyI from a).symm.trans b)
theorem z_cAC {D : va_G} {cyI cyC cyZ cA : ClassId} {s : State} (h : va_K D vwCl (zY cyI cyC cyZ ++ [(cA, .char)]) s) : cyC = cA := by
  have a := (h.2 1 (cyC, .char) rfl).2
  have b := (h.2 3 (cA, .char) rfl).2
  exact Option.some.inj ((show s.vm.findClass _ = some cyC from a).symm.trans b)
theorem z_cAZ {D : va_G} {cyI cyC cyZ cA : ClassId} {s : State} (h : va_K D vwCl (zY cyI cyC cyZ ++ [(cA, .boolean)]) s) : cyZ = cA := by
  have a := (h.2 2 (cyZ, .boolean) rfl).2
  have b := (h.2 3 (cA, .boolean) rfl).2
  exact Option.some.inj ((show s.vm.findClass _ = some cyZ from a).symm.trans b)
