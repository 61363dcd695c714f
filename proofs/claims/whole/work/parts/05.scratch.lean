theorem tst_1 : ((vx_atS "BrackenGambit" 102 "java/lang/IllegalStateException" ["java/lang/RuntimeException", "java/lang/Exception"]).filter (fun w => !goodWord w)) = [] := by
  decide +kernel
theorem tst_2 : ((vx_atS "BrackenGambit" 102 "java/lang/IllegalStateException" ["java/lang/RuntimeException", "java/lang/Exception"]).filter (fun w => !decide (w ∈ lw_tbl))) = [] := by
  decide +kernel
theorem tst_3 : (lw_tbl.filter (fun w => !goodWord w)).length = 0 := by
  decide +kernel
theorem tst_4 (a b : Int32) (F : Nat → Int32) : zrun i_Pc_of 20 (0, [some (.int a), some (.int b), some (.int 0)], []) = some (7, [some (.int a), some (.int b), some (.int 0)], []) := by
  rfl
