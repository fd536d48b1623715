set_option maxRecDepth 100000 in
theorem codes_ok : (List.range 209).map (fun i => lw_tbl[(mP i).2.1]?) = (List.range 209).map (fun i => some (Cond.code (mN i) (mB i) (mL i) (mR i))) := rfl
theorem room_nat : nativeFrameWords "java/lang/System" "arraycopy" 5 + 11 + 8 ≤ 100 := by decide +kernel
