set_option maxRecDepth 100000 in
theorem mtab_ok : (List.range mtab.length).all (fun i => decide (lw_tbl[(mP i).2.2.2.2]? = some (Cond.initialized (mN i).cls)) && decide ((mN i).cls = fR (mC i)) && decide (mC i < 12) && plainName (mN i).cls && decide ((mN i).cls ≠ "java/lang/invoke/MethodHandle") && decide ((mN i).cls ≠ "java/lang/invoke/VarHandle")
    && (match (mP i).1 with
      | 0 => decide (lw_tbl[(mP i).2.2.1]? = some (Cond.instanceMethod (mN i))) && decide (lw_tbl[(mP i).2.2.2.1]? = some (Cond.selects (mN i).cls (mN i) (mN i))) && decide ((parseMethodDescriptor (mN i).desc).map (fun d => d.parameters.length + 1) = some (mA i))
      | 1 => decide (lw_tbl[(mP i).2.2.1]? = some (Cond.instanceMethod (mN i))) && decide ((mN i).name = "<init>") && decide (mR i = none) && decide ((parseMethodDescriptor (mN i).desc).map (fun d => d.parameters.length + 1) = some (mA i))
      | _ => decide (lw_tbl[(mP i).2.2.1]? = some (Cond.static (mN i))) && decide ((parseMethodDescriptor (mN i).desc).map (fun d => d.parameters.length) = some (mA i)))) = true := by decide +kernel
