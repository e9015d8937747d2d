theorem zz_cI {D : va_G} {cl : List vw_C} {cI cB cA : ClassId} {s : State} (h : va_K D cl ([(cI, .int), (cB, .boolean)] ++ [(cA, .int)]) s) : cA = cI := by
  have h1 : s.vm.findClass ("[" ++ FieldType.int.toString) = some cI := (h.2 0 _ rfl).2
  have h2 : s.vm.findClass ("[" ++ FieldType.int.toString) = some cA := (h.2 2 _ rfl).2
  exact Option.some.inj (h2.symm.trans h1)
theorem zz_cB {D : va_G} {cl : List vw_C} {cI cB cA : ClassId} {s : State} (h : va_K D cl ([(cI, .int), (cB, .boolean)] ++ [(cA, .boolean)]) s) : cA = cB := by
  have h1 : s.vm.findClass ("[" ++ FieldType.boolean.toString) = some cB := (h.2 1 _ rfl).2
  have h2 : s.vm.findClass ("[" ++ FieldType.boolean.toString) = some cA := (h.2 2 _ rfl).2
  exact Option.some.inj (h2.symm.trans h1)
