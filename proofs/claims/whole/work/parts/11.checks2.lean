def tNA : List Nat := [0, 2, 6, 4, 0, 0, 1, 1, 0, 1, 1, 0, 0, 1, 0, 2, 1, 1, 1, 1, 1, 4, 0, 1, 0, 1, 2, 1, 2, 2, 0, 0, 1, 4, 4, 2, 1, 3, 1, 2, 2, 2, 3, 2, 2, 1, 2, 3, 2, 4, 1, 1, 2, 3, 1, 0, 1, 1, 0, 1, 1, 0, 0, 0, 0, 0, 0, 5, 1, 2, 2, 4, 1, 1, 4, 0, 1, 3, 0, 0, 0, 0, 0, 0, 1, 0, 1, 1, 0, 1, 2, 0, 0, 4, 3, 4, 2, 3, 1, 4, 2, 2, 2, 3, 2, 2, 2, 1, 1, 0, 4, 1, 4, 1, 2, 1, 0, 3, 1, 0, 1, 1, 1, 0, 1, 0, 0, 0, 0, 0, 1, 1, 1, 3, 2, 1, 1, 2, 1, 0, 0, 1, 1, 3, 1, 1, 1, 2, 2, 1, 2, 1, 1, 2, 1, 3, 2, 1, 3, 4, 3, 1, 1, 3, 4, 4, 1, 0, 4, 3, 3, 4, 1, 1, 1, 2, 2, 3, 2, 1, 4, 1, 2, 2, 2, 2, 3, 2, 2, 2, 2, 2, 1, 1, 1, 0, 1, 4, 1, 4, 1, 2, 1, 1, 1, 1, 0, 3, 1, 0, 1, 1, 1, 1, 0, 1, 0, 1, 0, 1, 2, 0, 0, 1, 0, 0, 2, 2, 3, 0, 0, 0, 0, 0, 1, 0, 0, 1, 0, 0, 2, 2, 3, 6, 5, 6, 4, 5, 3, 6, 4, 4, 4, 5, 4, 4, 4, 3, 3, 2, 6, 3, 6, 3, 4, 3, 2, 5, 3, 3, 3, 3, 2, 3, 2, 2, 2, 2, 1]
def parChk (j : Nat) : Bool := decide ((parseMethodDescriptor (mY j).desc).map (fun d => d.parameters.length) = some (tNA.getD j 0))
set_option maxRecDepth 100000 in
theorem par_ok0 : ((((List.range 278).drop (14 * 0)).take 14).all parChk) = true := by decide +kernel
set_option maxRecDepth 100000 in
theorem par_ok1 : ((((List.range 278).drop (14 * 1)).take 14).all parChk) = true := by decide +kernel
set_option maxRecDepth 100000 in
theorem par_ok2 : ((((List.range 278).drop (14 * 2)).take 14).all parChk) = true := by decide +kernel
set_option maxRecDepth 100000 in
theorem par_ok3 : ((((List.range 278).drop (14 * 3)).take 14).all parChk) = true := by decide +kernel
set_option maxRecDepth 100000 in
theorem par_ok4 : ((((List.range 278).drop (14 * 4)).take 14).all parChk) = true := by decide +kernel
set_option maxRecDepth 100000 in
theorem par_ok5 : ((((List.range 278).drop (14 * 5)).take 14).all parChk) = true := by decide +kernel
set_option maxRecDepth 100000 in
theorem par_ok6 : ((((List.range 278).drop (14 * 6)).take 14).all parChk) = true := by decide +kernel
set_option maxRecDepth 100000 in
theorem par_ok7 : ((((List.range 278).drop (14 * 7)).take 14).all parChk) = true := by decide +kernel
set_option maxRecDepth 100000 in
theorem par_ok8 : ((((List.range 278).drop (14 * 8)).take 14).all parChk) = true := by decide +kernel
set_option maxRecDepth 100000 in
theorem par_ok9 : ((((List.range 278).drop (14 * 9)).take 14).all parChk) = true := by decide +kernel
set_option maxRecDepth 100000 in
theorem par_ok10 : ((((List.range 278).drop (14 * 10)).take 14).all parChk) = true := by decide +kernel
set_option maxRecDepth 100000 in
theorem par_ok11 : ((((List.range 278).drop (14 * 11)).take 14).all parChk) = true := by decide +kernel
set_option maxRecDepth 100000 in
theorem par_ok12 : ((((List.range 278).drop (14 * 12)).take 14).all parChk) = true := by decide +kernel
set_option maxRecDepth 100000 in
theorem par_ok13 : ((((List.range 278).drop (14 * 13)).take 14).all parChk) = true := by decide +kernel
set_option maxRecDepth 100000 in
theorem par_ok14 : ((((List.range 278).drop (14 * 14)).take 14).all parChk) = true := by decide +kernel
set_option maxRecDepth 100000 in
theorem par_ok15 : ((((List.range 278).drop (14 * 15)).take 14).all parChk) = true := by decide +kernel
set_option maxRecDepth 100000 in
theorem par_ok16 : ((((List.range 278).drop (14 * 16)).take 14).all parChk) = true := by decide +kernel
set_option maxRecDepth 100000 in
theorem par_ok17 : ((((List.range 278).drop (14 * 17)).take 14).all parChk) = true := by decide +kernel
set_option maxRecDepth 100000 in
theorem par_ok18 : ((((List.range 278).drop (14 * 18)).take 14).all parChk) = true := by decide +kernel
set_option maxRecDepth 100000 in
theorem par_ok19 : ((((List.range 278).drop (14 * 19)).take 14).all parChk) = true := by decide +kernel
theorem par_ok : (List.range 278).all parChk = true := by
  refine all_pieces _ 14 _ 20 (by decide) (by decide +kernel) fun k hk => ?_
  rcases (show k = 0 ∨ k = 1 ∨ k = 2 ∨ k = 3 ∨ k = 4 ∨ k = 5 ∨ k = 6 ∨ k = 7 ∨ k = 8 ∨ k = 9 ∨ k = 10 ∨ k = 11 ∨ k = 12 ∨ k = 13 ∨ k = 14 ∨ k = 15 ∨ k = 16 ∨ k = 17 ∨ k = 18 ∨ k = 19 by omega) with rfl | rfl | rfl | rfl | rfl | rfl | rfl | rfl | rfl | rfl | rfl | rfl | rfl | rfl | rfl | rfl | rfl | rfl | rfl | rfl
  · exact par_ok0
  · exact par_ok1
  · exact par_ok2
  · exact par_ok3
  · exact par_ok4
  · exact par_ok5
  · exact par_ok6
  · exact par_ok7
  · exact par_ok8
  · exact par_ok9
  · exact par_ok10
  · exact par_ok11
  · exact par_ok12
  · exact par_ok13
  · exact par_ok14
  · exact par_ok15
  · exact par_ok16
  · exact par_ok17
  · exact par_ok18
  · exact par_ok19
def entChk (q : (Nat × Nat) × Nat × Nat × Nat) : Bool := decide (q.2.1 < 4 ∧ q.2.2.1 < 278 ∧ q.2.2.2 = tNA.getD q.2.2.1 0 ∧ (q.2.1 = 2 → mN q.2.2.1 = true) ∧ (¬ q.2.1 = 1 → lk1 tHnd q.2.2.1 = none) ∧ (q.2.1 = 0 ∨ q.2.1 = 2 → mC q.2.2.1 < 8 ∨ mC q.2.2.1 = 10))
set_option maxRecDepth 100000 in
theorem ent_ok : tCall.all entChk = true := by decide +kernel
theorem obj_in : Cond.instanceMethod Lib.objectInit ∈ lwX := inT_mem (i := 95) (by decide +kernel)
theorem objc_in : Cond.code Lib.objectInit ⟨#[0xb1]⟩ 1 none ∈ lwX := inT_mem (i := 96) (by decide +kernel)
def tPrimIx : List Nat := [94, 102, 109, 155, 245, 265, 298, 388, 395, 851, 1009, 1292]
def primN (k : Nat) : MethodName := if k = 0 then Lib.objectInit else if k = 1 then Lib.Math.max.name else if k = 2 then Lib.Math.min.name else arraycopyName
theorem prim_ok : ((tPrim.zip tPrimIx).all fun q => inT q.2 (.methodLink (cN q.1.1.1) q.1.1.2 (primN q.1.2)) && decide (q.1.2 < 4)) = true := by decide +kernel
theorem max_st : Cond.static Lib.Math.max.name ∈ lwX := inT_mem (i := 852) (by decide +kernel)
theorem max_in : Cond.initialized "java/lang/Math" ∈ lwX := inT_mem (i := 84) (by decide +kernel)
theorem max_co : Cond.code Lib.Math.max.name Lib.Math.max.code 2 (some .int) ∈ lwX := inT_mem (i := 853) (by decide +kernel)
theorem min_st : Cond.static Lib.Math.min.name ∈ lwX := inT_mem (i := 1010) (by decide +kernel)
theorem min_in : Cond.initialized "java/lang/Math" ∈ lwX := inT_mem (i := 84) (by decide +kernel)
theorem min_co : Cond.code Lib.Math.min.name Lib.Math.min.code 2 (some .int) ∈ lwX := inT_mem (i := 1011) (by decide +kernel)
theorem cpy_st : Cond.static arraycopyName ∈ lwX := inT_mem (i := 389) (by decide +kernel)
theorem cpy_in : Cond.initialized "java/lang/System" ∈ lwX := inT_mem (i := 77) (by decide +kernel)
theorem cpy_na : Cond.native arraycopyName ∈ lwX := inT_mem (i := 390) (by decide +kernel)
theorem new_ok : ((tNew.zip tNewIx).all fun q => inT q.2.1 (.classLink (cN q.1.1.1) q.1.1.2 (cN q.1.2)) && inT q.2.2.1 (.instantiable (cN q.1.2) (NW q.1.2)) && inT q.2.2.2 (.initialized (cN q.1.2)) && decide (q.1.2 < 8)) = true := by decide +kernel
def tANewIx : List Nat := [97, 103, 149, 246]
def arrN (k : Nat) : String := cN (elemC k)
theorem anew_ok : ((tANew.zip tANewIx).all fun q => inT q.2 (.classLink (cN q.1.1.1) q.1.1.2 (arrN q.1.2)) && decide (q.1.2 = 6 ∨ q.1.2 = 7 ∨ q.1.2 = 8)) = true := by decide +kernel
theorem over_6 : Cond.arrayOver (.object (arrN 6)) ∈ lw_tbl := List.mem_of_getElem? (i := 104) (by decide +kernel)
theorem over_7 : Cond.arrayOver (.object (arrN 7)) ∈ lw_tbl := List.mem_of_getElem? (i := 150) (by decide +kernel)
theorem over_8 : Cond.arrayOver (.object (arrN 8)) ∈ lw_tbl := List.mem_of_getElem? (i := 247) (by decide +kernel)
theorem arc_2 : Cond.arrayClass .int ∈ lwX := inT_mem (i := 239) (by decide +kernel)
theorem arc_3 : Cond.arrayClass .char ∈ lwX := inT_mem (i := 291) (by decide +kernel)
theorem arc_4 : Cond.arrayClass .long ∈ lwX := inT_mem (i := 148) (by decide +kernel)
theorem arc_5 : Cond.arrayClass .double ∈ lwX := inT_mem (i := 1786) (by decide +kernel)
theorem arc_10 : Cond.arrayClass .byte ∈ lwX := inT_mem (i := 292) (by decide +kernel)
theorem con_265 : Cond.constant "java/lang/Integer" 265 1431655765 ∈ lwX := inT_mem (i := 434) (by decide +kernel)
theorem con_266 : Cond.constant "java/lang/Integer" 266 858993459 ∈ lwX := inT_mem (i := 435) (by decide +kernel)
theorem con_267 : Cond.constant "java/lang/Integer" 267 252645135 ∈ lwX := inT_mem (i := 436) (by decide +kernel)
theorem stl_10_38 : Cond.fieldLink "java/lang/String" 38 "java/lang/String" "COMPACT_STRINGS" "Z" ∈ lwX := inT_mem (i := 1175) (by decide +kernel)
theorem stl_10_1053 : Cond.fieldLink "java/lang/String" 1053 "jdk/internal/util/Preconditions" "SIOOBE_FORMATTER" "Ljava/util/function/BiFunction;" ∈ lwX := inT_mem (i := 1191) (by decide +kernel)
theorem stl_7_94 : Cond.fieldLink "CommitteePlannerModel" 94 "CommitteePlannerModel" "NEEDED" "[I" ∈ lwX := inT_mem (i := 1559) (by decide +kernel)
theorem stl_7_146 : Cond.fieldLink "CommitteePlannerModel" 146 "CommitteePlannerModel" "AHEAD" "[I" ∈ lwX := inT_mem (i := 1647) (by decide +kernel)
theorem stl_5_66 : Cond.fieldLinkNest "CommitteePlanner$Thesis" 66 "CommitteePlanner" "QUORUMS" "[I" "CommitteePlanner" ∈ lwX := inT_mem (i := 441) (by decide +kernel)
theorem stl_5_73 : Cond.fieldLinkNest "CommitteePlanner$Thesis" 73 "CommitteePlanner" "DAYS_BEFORE" "[I" "CommitteePlanner" ∈ lwX := inT_mem (i := 451) (by decide +kernel)
def exNs : List String := ["java/lang/RuntimeException", "java/lang/Exception"]
theorem exk_0 : Cond.classLink (cN 6) 60 "java/lang/IllegalArgumentException" ∈ lwX := inT_mem (i := 497) (by decide +kernel)
theorem exi_0 : Cond.initialized "java/lang/IllegalArgumentException" ∈ lwX := inT_mem (i := 75) (by decide +kernel)
theorem exw_0 : (vx_atS (cN 6) 64 "java/lang/IllegalArgumentException" exNs).all xW = true := by decide +kernel
theorem exk_1 : Cond.classLink (cN 6) 67 "java/lang/IllegalStateException" ∈ lwX := inT_mem (i := 568) (by decide +kernel)
theorem exi_1 : Cond.initialized "java/lang/IllegalStateException" ∈ lwX := inT_mem (i := 76) (by decide +kernel)
theorem exw_1 : (vx_atS (cN 6) 71 "java/lang/IllegalStateException" exNs).all xW = true := by decide +kernel
theorem exk_2 : Cond.classLink (cN 6) 416 "java/lang/IndexOutOfBoundsException" ∈ lwX := inT_mem (i := 624) (by decide +kernel)
theorem exi_2 : Cond.initialized "java/lang/IndexOutOfBoundsException" ∈ lwX := inT_mem (i := 78) (by decide +kernel)
theorem exw_2 : (vx_atS (cN 6) 420 "java/lang/IndexOutOfBoundsException" exNs).all xW = true := by decide +kernel
theorem exk_3 : Cond.classLink (cN 6) 142 "java/util/NoSuchElementException" ∈ lwX := inT_mem (i := 708) (by decide +kernel)
theorem exi_3 : Cond.initialized "java/util/NoSuchElementException" ∈ lwX := inT_mem (i := 81) (by decide +kernel)
theorem exk_4 : Cond.classLink (cN 6) 440 "java/lang/UnsupportedOperationException" ∈ lwX := inT_mem (i := 782) (by decide +kernel)
theorem exi_4 : Cond.initialized "java/lang/UnsupportedOperationException" ∈ lwX := inT_mem (i := 83) (by decide +kernel)
theorem exw_4 : (vx_atS (cN 6) 444 "java/lang/UnsupportedOperationException" exNs).all xW = true := by decide +kernel
theorem exk_5 : Cond.classLink (cN 6) 351 "java/lang/ArithmeticException" ∈ lwX := inT_mem (i := 1113) (by decide +kernel)
theorem exi_5 : Cond.initialized "java/lang/ArithmeticException" ∈ lwX := inT_mem (i := 85) (by decide +kernel)
theorem exw_5 : (vx_atS (cN 6) 355 "java/lang/ArithmeticException" exNs).all xW = true := by decide +kernel
