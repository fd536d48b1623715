/-! what the tables say, held against the claim's words -/
theorem lw_at {q : Nat} {w : Cond} (h : lw_tbl[q]? = some w) (g : goodWord w = true) : w ∈ gw := gw_in (List.mem_of_getElem? h) g
