set_option maxRecDepth 100000 in
theorem ltab_ok : ltab.all (fun e => match e.2.2.1 with
    | 0 => decide (e.2.2.2.1 < mtab.length) && decide ((mP e.2.2.2.1).1 = 0) && decide (lw_tbl[e.2.2.2.2]? = some (Cond.methodLink (fR e.1) e.2.1 (mN e.2.2.2.1)))
    | 1 => decide (e.2.2.2.1 < mtab.length) && decide ((mP e.2.2.2.1).1 = 2) && decide (lw_tbl[e.2.2.2.2]? = some (Cond.methodLink (fR e.1) e.2.1 (mN e.2.2.2.1)))
    | 2 => decide (e.2.2.2.1 < mtab.length) && decide ((mP e.2.2.2.1).1 = 1) && decide (lw_tbl[e.2.2.2.2]? = some (Cond.methodLink (fR e.1) e.2.1 (mN e.2.2.2.1)))
    | 3 => decide (e.2.2.2.1 < mtab.length) && decide ((mP e.2.2.2.1).1 = 1) && decide (ntab[e.2.2.2.2]? = some (fR e.1, e.2.1, mN e.2.2.2.1, RX10))
    | 4 => decide (e.2.2.2.1 < mtab.length) && decide ((mP e.2.2.2.1).1 = 2) && decide (ntab[e.2.2.2.2]? = some (fR e.1, e.2.1, mN e.2.2.2.1, RX10))
    | 5 => decide (lw_tbl[e.2.2.2.2]? = some (Cond.methodLink (fR e.1) e.2.1 Lib.objectInit))
    | 6 => decide (lw_tbl[e.2.2.2.2]? = some (Cond.methodLink (fR e.1) e.2.1 Lib.Math.max.name))
    | 7 => decide (lw_tbl[e.2.2.2.2]? = some (Cond.methodLink (fR e.1) e.2.1 Lib.Math.min.name))
    | _ => decide (lw_tbl[e.2.2.2.2]? = some (Cond.methodLink (fR e.1) e.2.1 arraycopyName))) = true := by decide +kernel
