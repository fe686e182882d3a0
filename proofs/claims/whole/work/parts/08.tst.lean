theorem zt1 : lw_tbl.all goodWord = true := by decide +kernel
theorem zt2 : (vx_atS RX6 64 "java/lang/IllegalArgumentException" ["java/lang/RuntimeException", "java/lang/Exception"]).all goodWord = true := by decide +kernel
theorem zt3 : ((vx_atS RX6 64 "java/lang/IllegalArgumentException" ["java/lang/RuntimeException", "java/lang/Exception"]).filter (fun w => !goodWord w)).length = 0 := by decide +kernel
theorem zt4 : (lw_tbl.filter (fun w => !goodWord w)).length = 0 := by decide +kernel
theorem zt5 : lw_tbl.length = 0 := by decide +kernel
theorem zt6 : (lw_tbl.filter (fun w => !goodWord w)) = [] := by simp only [lw_tbl, tables_1]; rfl
