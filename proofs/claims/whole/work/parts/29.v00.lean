/-! ROWS OF THE METHODS, 0 -/
theorem hB_0 : mB 0 = cX0_init := rfl
theorem v0_0 {d : Nat} {st : List MV} {h : Hp} {x : Option A3} : Ev d 0 0 [some (vO x)] st h = Ev d 0 1 [some (vO x)] (vO x :: st) h := Rnx (hB_0) (dX0_init_0) rfl
set_option maxRecDepth 100000 in
theorem v0_1 {d : Nat} {ls : LS3} {st : List MV} {h : Hp} {a : A3} (hc : catS st ≤ 8) : Ev d 0 1 ls (vR a :: st) h = Ev d 0 4 ls st h := Robj hB_0 dX0_init_1 rfl hc
theorem v0_4 {d : Nat} {st : List MV} {h : Hp} {x : Option A3} : Ev d 0 4 [some (vO x)] st h = Ev d 0 5 [some (vO x)] (vO x :: st) h := Rnx (hB_0) (dX0_init_4) rfl
theorem v0_5 {d : Nat} {ls : LS3} {st : List MV} {h : Hp} : Ev d 0 5 ls st h = Ev d 0 6 ls (vI 5 :: st) h := Rnx (hB_0) (dX0_init_5) rfl
theorem v0_6 {d : Nat} {ls : LS3} {st : List MV} {h : Hp} {n : Int32} (hn : 0 ≤ n ∧ n.toNatClampNeg ≤ 100000) (hF : Fresh h) : Ev d 0 6 ls (vI n :: st) h = Ev d 0 8 ls (vR (nm (cnt h)) :: st) (mk h (nm (cnt h)) (2, n.toNatClampNeg) n.toNatClampNeg) := Rnewa hB_0 dX0_init_6 rfl hn hF
set_option maxRecDepth 100000 in
theorem v0_8 {d : Nat} {ls : LS3} {st : List MV} {h : Hp} {a : A3} {o : Option A3} (hS : gS h a = (1, 0)) : Ev d 0 8 ls (vO o :: vR a :: st) h = Ev d 0 11 ls st (sR h a 0 o) := RputR hB_0 dX0_init_8 rfl rfl (by decide) hS
theorem v0_11 {d : Nat} {ls : LS3} {h : Hp} : Ev d 0 11 ls [] h = some (.inl none, h) := Rdn hB_0 dX0_init_11 rfl
theorem hB_1 : mB 1 = cX0_find := rfl
theorem v1_0 {d : Nat} {ls : LS3} {st : List MV} {h : Hp} : Ev d 1 0 ls st h = Ev d 1 1 ls (vI 0 :: st) h := Rnx (hB_1) (dX0_find_0) rfl
theorem v1_1 {d : Nat} {st : List MV} {h : Hp} {x : Int32} {a0 a1 a2 a3 a4 a5 a6 : Option MV} : Ev d 1 1 [a0, a1, a2, a3, a4, a5, a6] (vI x :: st) h = Ev d 1 2 [a0, a1, a2, some (vI x), a4, a5, a6] st h := Rnx (hB_1) (dX0_find_1) rfl
theorem v1_2 {d : Nat} {st : List MV} {h : Hp} {x : Int32} {a0 a1 a2 a4 a5 a6 : Option MV} : Ev d 1 2 [a0, a1, a2, some (vI x), a4, a5, a6] st h = Ev d 1 3 [a0, a1, a2, some (vI x), a4, a5, a6] (vI x :: st) h := Rnx (hB_1) (dX0_find_2) rfl
theorem v1_3 {d : Nat} {ls : LS3} {st : List MV} {h : Hp} : Ev d 1 3 ls st h = Ev d 1 4 ls (vI 5 :: st) h := Rnx (hB_1) (dX0_find_3) rfl
theorem v1_4 {d : Nat} {ls : LS3} {st : List MV} {h : Hp} {x y : Int32} : Ev d 1 4 ls (vI y :: vI x :: st) h = if y ≤ x then Ev d 1 25 ls st h else Ev d 1 7 ls st h := Rif hB_1 dX0_find_4 rfl
theorem v1_7 {d : Nat} {st : List MV} {h : Hp} {x : Option A3} {a1 a2 a3 a4 a5 a6 : Option MV} : Ev d 1 7 [some (vO x), a1, a2, a3, a4, a5, a6] st h = Ev d 1 8 [some (vO x), a1, a2, a3, a4, a5, a6] (vO x :: st) h := Rnx (hB_1) (dX0_find_7) rfl
set_option maxRecDepth 100000 in
theorem v1_8 {d : Nat} {ls : LS3} {st : List MV} {h : Hp} {a : A3} (hS : gS h a = (1, 0)) : Ev d 1 8 ls (vR a :: st) h = Ev d 1 11 ls (vO (gR h a 0) :: st) h := Rget hB_1 dX0_find_8 rfl (Or.inl hS)
theorem v1_11 {d : Nat} {st : List MV} {h : Hp} {x : Int32} {a0 a1 a2 a4 a5 a6 : Option MV} : Ev d 1 11 [a0, a1, a2, some (vI x), a4, a5, a6] st h = Ev d 1 12 [a0, a1, a2, some (vI x), a4, a5, a6] (vI x :: st) h := Rnx (hB_1) (dX0_find_11) rfl
theorem v1_12 {d : Nat} {st : List MV} {h : Hp} {x : Option A3} {a0 a2 a3 a4 a5 a6 : Option MV} : Ev d 1 12 [a0, some (vO x), a2, a3, a4, a5, a6] st h = Ev d 1 13 [a0, some (vO x), a2, a3, a4, a5, a6] (vO x :: st) h := Rnx (hB_1) (dX0_find_12) rfl
theorem v1_13 {d : Nat} {st : List MV} {h : Hp} {x : Option A3} {a0 a1 a3 a4 a5 a6 : Option MV} : Ev d 1 13 [a0, a1, some (vO x), a3, a4, a5, a6] st h = Ev d 1 14 [a0, a1, some (vO x), a3, a4, a5, a6] (vO x :: st) h := Rnx (hB_1) (dX0_find_13) rfl
theorem v1_14 {d : Nat} {st : List MV} {h : Hp} {x : Int32} {a0 a1 a2 a4 a5 a6 : Option MV} : Ev d 1 14 [a0, a1, a2, some (vI x), a4, a5, a6] st h = Ev d 1 15 [a0, a1, a2, some (vI x), a4, a5, a6] (vI x :: st) h := Rnx (hB_1) (dX0_find_14) rfl
set_option maxRecDepth 100000 in
theorem v1_15 {d : Nat} {ls : LS3} {st : List MV} {h : Hp} {a : A3} {o0 : Option A3} {x1 : Int32} (hS : gS h a = (1, 4)) (hc : catS st ≤ 8) : Ev (d + 1) 1 15 ls (vI x1 :: vO o0 :: vR a :: st) h = Evk 39 (d + 1) 1 15 ls st (Ev d 39 0 [some (vR a), some (vO o0), some (vI x1), none, none, none, none, none] [] h) := RcallO (idx := 15) (n := 2) (kd := 0) (As' := [vO o0, vI x1]) hB_1 dX0_find_15 rfl rfl (by decide) rfl rfl (Or.inl hS) rfl hc
theorem v1_18 {d : Nat} {ls : LS3} {st : List MV} {h : Hp} {a : A3} {j : Int32} {x : Int32} (hS : (gS h a).1 = 2) (hj : inB j (gS h a).2) : Ev d 1 18 ls (vI x :: vI j :: vR a :: st) h = Ev d 1 19 ls st (sI h a j.toNatClampNeg x) := RastI hB_1 dX0_find_18 hS hj
theorem v1_19 {d : Nat} {st : List MV} {h : Hp} {x : Int32} {a0 a1 a2 a4 a5 a6 : Option MV} : Ev d 1 19 [a0, a1, a2, some (vI x), a4, a5, a6] st h = Ev d 1 22 [a0, a1, a2, some (vI (x + 1)), a4, a5, a6] st h := Rnx (hB_1) (dX0_find_19) rfl
theorem v1_22 {d : Nat} {ls : LS3} {st : List MV} {h : Hp} : Ev d 1 22 ls st h = Ev d 1 2 ls st h := Rnx (hB_1) (dX0_find_22) rfl
theorem v1_25 {d : Nat} {st : List MV} {h : Hp} {x : Option A3} {a0 a2 a3 a4 a5 a6 : Option MV} : Ev d 1 25 [a0, some (vO x), a2, a3, a4, a5, a6] st h = Ev d 1 26 [a0, some (vO x), a2, a3, a4, a5, a6] (vO x :: st) h := Rnx (hB_1) (dX0_find_25) rfl
theorem v1_26 {d : Nat} {st : List MV} {h : Hp} {x : Option A3} {a0 a1 a3 a4 a5 a6 : Option MV} : Ev d 1 26 [a0, a1, some (vO x), a3, a4, a5, a6] st h = Ev d 1 27 [a0, a1, some (vO x), a3, a4, a5, a6] (vO x :: st) h := Rnx (hB_1) (dX0_find_26) rfl
theorem v1_27 {d : Nat} {st : List MV} {h : Hp} {x : Option A3} {a0 a1 a3 a4 a5 a6 : Option MV} : Ev d 1 27 [a0, a1, some (vO x), a3, a4, a5, a6] st h = Ev d 1 28 [a0, a1, some (vO x), a3, a4, a5, a6] (vO x :: st) h := Rnx (hB_1) (dX0_find_27) rfl
set_option maxRecDepth 100000 in
theorem v1_28 {d : Nat} {ls : LS3} {st : List MV} {h : Hp} {a : A3} (hS : gS h a = (1, 5)) : Ev d 1 28 ls (vR a :: st) h = Ev d 1 31 ls (vI (gI h a 6) :: st) h := Rget hB_1 dX0_find_28 rfl (Or.inl hS)
set_option maxRecDepth 100000 in
theorem v1_31 {d : Nat} {ls : LS3} {st : List MV} {h : Hp} {a : A3} {o0 : Option A3} {x1 : Int32} (hS : gS h a = (1, 4)) (hc : catS st ≤ 8) : Ev (d + 1) 1 31 ls (vI x1 :: vO o0 :: vR a :: st) h = Evk 43 (d + 1) 1 31 ls st (Ev d 43 0 [some (vR a), some (vO o0), some (vI x1), none, none] [] h) := RcallO (idx := 27) (n := 2) (kd := 0) (As' := [vO o0, vI x1]) hB_1 dX0_find_31 rfl rfl (by decide) rfl rfl (Or.inl hS) rfl hc
theorem v1_34 {d : Nat} {st : List MV} {h : Hp} {x : Int32} {a0 a1 a2 a3 a4 a5 a6 : Option MV} : Ev d 1 34 [a0, a1, a2, a3, a4, a5, a6] (vI x :: st) h = Ev d 1 35 [a0, a1, a2, some (vI x), a4, a5, a6] st h := Rnx (hB_1) (dX0_find_34) rfl
theorem v1_35 {d : Nat} {st : List MV} {h : Hp} {x : Option A3} {a0 a1 a3 a4 a5 a6 : Option MV} : Ev d 1 35 [a0, a1, some (vO x), a3, a4, a5, a6] st h = Ev d 1 36 [a0, a1, some (vO x), a3, a4, a5, a6] (vO x :: st) h := Rnx (hB_1) (dX0_find_35) rfl
set_option maxRecDepth 100000 in
theorem v1_36 {d : Nat} {ls : LS3} {st : List MV} {h : Hp} {a : A3}  (hS : gS h a = (1, 5)) (hc : catS st ≤ 8) : Ev (d + 1) 1 36 ls (vR a :: st) h = Evk 85 (d + 1) 1 36 ls st (Ev d 85 0 [some (vR a)] [] h) := RcallO (idx := 30) (n := 0) (kd := 0) (As' := []) hB_1 dX0_find_36 rfl rfl (by decide) rfl rfl (Or.inl hS) rfl hc
theorem v1_39 {d : Nat} {st : List MV} {h : Hp} {x : Option A3} {a0 a1 a3 a4 a5 a6 : Option MV} : Ev d 1 39 [a0, a1, some (vO x), a3, a4, a5, a6] st h = Ev d 1 40 [a0, a1, some (vO x), a3, a4, a5, a6] (vO x :: st) h := Rnx (hB_1) (dX0_find_39) rfl
set_option maxRecDepth 100000 in
theorem v1_40 {d : Nat} {ls : LS3} {st : List MV} {h : Hp} {a : A3}  (hS : gS h a = (1, 5)) (hc : catS st ≤ 8) : Ev (d + 1) 1 40 ls (vR a :: st) h = Evk 83 (d + 1) 1 40 ls st (Ev d 83 0 [some (vR a)] [] h) := RcallO (idx := 34) (n := 0) (kd := 0) (As' := []) hB_1 dX0_find_40 rfl rfl (by decide) rfl rfl (Or.inl hS) rfl hc
theorem v1_43 {d : Nat} {ls : LS3} {st : List MV} {h : Hp} {x y : Int32} : Ev d 1 43 ls (vI y :: vI x :: st) h = Ev d 1 44 ls (vI (x - y) :: st) h := Rnx (hB_1) (dX0_find_43) rfl
theorem v1_44 {d : Nat} {st : List MV} {h : Hp} {x : Int32} {a0 a1 a2 a3 a4 a5 a6 : Option MV} : Ev d 1 44 [a0, a1, a2, a3, a4, a5, a6] (vI x :: st) h = Ev d 1 46 [a0, a1, a2, a3, some (vI x), a5, a6] st h := Rnx (hB_1) (dX0_find_44) rfl
theorem v1_46 {d : Nat} {ls : LS3} {st : List MV} {h : Hp} : Ev d 1 46 ls st h = Ev d 1 47 ls (vI 0 :: st) h := Rnx (hB_1) (dX0_find_46) rfl
theorem v1_47 {d : Nat} {st : List MV} {h : Hp} {x : Int32} {a0 a1 a2 a3 a4 a5 a6 : Option MV} : Ev d 1 47 [a0, a1, a2, a3, a4, a5, a6] (vI x :: st) h = Ev d 1 49 [a0, a1, a2, a3, a4, some (vI x), a6] st h := Rnx (hB_1) (dX0_find_47) rfl
theorem v1_49 {d : Nat} {st : List MV} {h : Hp} {x : Int32} {a0 a1 a2 a3 a4 a6 : Option MV} : Ev d 1 49 [a0, a1, a2, a3, a4, some (vI x), a6] st h = Ev d 1 51 [a0, a1, a2, a3, a4, some (vI x), a6] (vI x :: st) h := Rnx (hB_1) (dX0_find_49) rfl
theorem v1_51 {d : Nat} {st : List MV} {h : Hp} {x : Int32} {a0 a1 a2 a3 a5 a6 : Option MV} : Ev d 1 51 [a0, a1, a2, a3, some (vI x), a5, a6] st h = Ev d 1 53 [a0, a1, a2, a3, some (vI x), a5, a6] (vI x :: st) h := Rnx (hB_1) (dX0_find_51) rfl
theorem v1_53 {d : Nat} {ls : LS3} {st : List MV} {h : Hp} {x y : Int32} : Ev d 1 53 ls (vI y :: vI x :: st) h = if y < x then Ev d 1 83 ls st h else Ev d 1 56 ls st h := Rif hB_1 dX0_find_53 rfl
theorem v1_56 {d : Nat} {st : List MV} {h : Hp} {x : Option A3} {a1 a2 a3 a4 a5 a6 : Option MV} : Ev d 1 56 [some (vO x), a1, a2, a3, a4, a5, a6] st h = Ev d 1 57 [some (vO x), a1, a2, a3, a4, a5, a6] (vO x :: st) h := Rnx (hB_1) (dX0_find_56) rfl
theorem v1_57 {d : Nat} {st : List MV} {h : Hp} {x : Option A3} {a0 a2 a3 a4 a5 a6 : Option MV} : Ev d 1 57 [a0, some (vO x), a2, a3, a4, a5, a6] st h = Ev d 1 58 [a0, some (vO x), a2, a3, a4, a5, a6] (vO x :: st) h := Rnx (hB_1) (dX0_find_57) rfl
theorem v1_58 {d : Nat} {st : List MV} {h : Hp} {x : Option A3} {a0 a1 a3 a4 a5 a6 : Option MV} : Ev d 1 58 [a0, a1, some (vO x), a3, a4, a5, a6] st h = Ev d 1 59 [a0, a1, some (vO x), a3, a4, a5, a6] (vO x :: st) h := Rnx (hB_1) (dX0_find_58) rfl
theorem v1_59 {d : Nat} {ls : LS3} {st : List MV} {h : Hp} : Ev d 1 59 ls st h = Ev d 1 60 ls (vI 0 :: st) h := Rnx (hB_1) (dX0_find_59) rfl
theorem v1_60 {d : Nat} {st : List MV} {h : Hp} {x : Int32} {a0 a1 a2 a4 a5 a6 : Option MV} : Ev d 1 60 [a0, a1, a2, some (vI x), a4, a5, a6] st h = Ev d 1 61 [a0, a1, a2, some (vI x), a4, a5, a6] (vI x :: st) h := Rnx (hB_1) (dX0_find_60) rfl
theorem v1_61 {d : Nat} {st : List MV} {h : Hp} {x : Int32} {a0 a1 a2 a3 a4 a6 : Option MV} : Ev d 1 61 [a0, a1, a2, a3, a4, some (vI x), a6] st h = Ev d 1 63 [a0, a1, a2, a3, a4, some (vI x), a6] (vI x :: st) h := Rnx (hB_1) (dX0_find_61) rfl
set_option maxRecDepth 100000 in
theorem v1_63 {d : Nat} {ls : LS3} {st : List MV} {h : Hp} {o0 : Option A3} {o1 : Option A3} {o2 : Option A3} {x3 : Int32} {x4 : Int32} {x5 : Int32} (hc : catS st ≤ 8) : Ev (d + 1) 1 63 ls (vI x5 :: vI x4 :: vI x3 :: vO o2 :: vO o1 :: vO o0 :: st) h = Evk 2 (d + 1) 1 63 ls st (Ev d 2 0 [some (vO o0), some (vO o1), some (vO o2), some (vI x3), some (vI x4), some (vI x5), none, none, none, none, none, none] [] h) := RcallS (idx := 37) (n := 6) (kd := 1) (As := [vO o0, vO o1, vO o2, vI x3, vI x4, vI x5]) hB_1 dX0_find_63 rfl rfl (by decide) rfl rfl rfl hc
theorem v1_66 {d : Nat} {st : List MV} {h : Hp} {x : Int32} {a0 a1 a2 a3 a4 a5 a6 : Option MV} : Ev d 1 66 [a0, a1, a2, a3, a4, a5, a6] (vI x :: st) h = Ev d 1 68 [a0, a1, a2, a3, a4, a5, some (vI x)] st h := Rnx (hB_1) (dX0_find_66) rfl
theorem v1_68 {d : Nat} {st : List MV} {h : Hp} {x : Int32} {a0 a1 a2 a3 a4 a5 : Option MV} : Ev d 1 68 [a0, a1, a2, a3, a4, a5, some (vI x)] st h = Ev d 1 70 [a0, a1, a2, a3, a4, a5, some (vI x)] (vI x :: st) h := Rnx (hB_1) (dX0_find_68) rfl
theorem v1_70 {d : Nat} {ls : LS3} {st : List MV} {h : Hp} : Ev d 1 70 ls st h = Ev d 1 71 ls (vI (-1) :: st) h := Rnx (hB_1) (dX0_find_70) rfl
theorem v1_71 {d : Nat} {ls : LS3} {st : List MV} {h : Hp} {x y : Int32} : Ev d 1 71 ls (vI y :: vI x :: st) h = if x = y then Ev d 1 77 ls st h else Ev d 1 74 ls st h := Rif hB_1 dX0_find_71 rfl
theorem v1_74 {d : Nat} {st : List MV} {h : Hp} {x : Int32} {a0 a1 a2 a3 a4 a5 : Option MV} : Ev d 1 74 [a0, a1, a2, a3, a4, a5, some (vI x)] st h = Ev d 1 76 [a0, a1, a2, a3, a4, a5, some (vI x)] (vI x :: st) h := Rnx (hB_1) (dX0_find_74) rfl
theorem v1_76 {d : Nat} {ls : LS3} {h : Hp} {x : Int32} : Ev d 1 76 ls [vI x] h = some (.inl (some (vI x)), h) := Rdn hB_1 dX0_find_76 rfl
theorem v1_77 {d : Nat} {st : List MV} {h : Hp} {x : Int32} {a0 a1 a2 a3 a4 a6 : Option MV} : Ev d 1 77 [a0, a1, a2, a3, a4, some (vI x), a6] st h = Ev d 1 80 [a0, a1, a2, a3, a4, some (vI (x + 1)), a6] st h := Rnx (hB_1) (dX0_find_77) rfl
theorem v1_80 {d : Nat} {ls : LS3} {st : List MV} {h : Hp} : Ev d 1 80 ls st h = Ev d 1 49 ls st h := Rnx (hB_1) (dX0_find_80) rfl
theorem v1_83 {d : Nat} {ls : LS3} {st : List MV} {h : Hp} : Ev d 1 83 ls st h = Ev d 1 84 ls (vI (-1) :: st) h := Rnx (hB_1) (dX0_find_83) rfl
theorem v1_84 {d : Nat} {ls : LS3} {h : Hp} {x : Int32} : Ev d 1 84 ls [vI x] h = some (.inl (some (vI x)), h) := Rdn hB_1 dX0_find_84 rfl
theorem hB_2 : mB 2 = cX0_choose := rfl
theorem v2_0 {d : Nat} {st : List MV} {h : Hp} {x : Option A3} {a1 a2 a3 a4 a5 a6 a7 a8 a9 a10 a11 : Option MV} : Ev d 2 0 [some (vO x), a1, a2, a3, a4, a5, a6, a7, a8, a9, a10, a11] st h = Ev d 2 1 [some (vO x), a1, a2, a3, a4, a5, a6, a7, a8, a9, a10, a11] (vO x :: st) h := Rnx (hB_2) (dX0_choose_0) rfl
theorem v2_1 {d : Nat} {st : List MV} {h : Hp} {x : Option A3} {a0 a1 a3 a4 a5 a6 a7 a8 a9 a10 a11 : Option MV} : Ev d 2 1 [a0, a1, some (vO x), a3, a4, a5, a6, a7, a8, a9, a10, a11] st h = Ev d 2 2 [a0, a1, some (vO x), a3, a4, a5, a6, a7, a8, a9, a10, a11] (vO x :: st) h := Rnx (hB_2) (dX0_choose_1) rfl
theorem v2_2 {d : Nat} {st : List MV} {h : Hp} {x : Option A3} {a0 a1 a3 a4 a5 a6 a7 a8 a9 a10 a11 : Option MV} : Ev d 2 2 [a0, a1, some (vO x), a3, a4, a5, a6, a7, a8, a9, a10, a11] st h = Ev d 2 3 [a0, a1, some (vO x), a3, a4, a5, a6, a7, a8, a9, a10, a11] (vO x :: st) h := Rnx (hB_2) (dX0_choose_2) rfl
set_option maxRecDepth 100000 in
theorem v2_3 {d : Nat} {ls : LS3} {st : List MV} {h : Hp} {a : A3} (hS : gS h a = (1, 5)) : Ev d 2 3 ls (vR a :: st) h = Ev d 2 6 ls (vI (gI h a 6) :: st) h := Rget hB_2 dX0_choose_3 rfl (Or.inl hS)
theorem v2_6 {d : Nat} {st : List MV} {h : Hp} {x : Int32} {a0 a1 a2 a4 a5 a6 a7 a8 a9 a10 a11 : Option MV} : Ev d 2 6 [a0, a1, a2, some (vI x), a4, a5, a6, a7, a8, a9, a10, a11] st h = Ev d 2 7 [a0, a1, a2, some (vI x), a4, a5, a6, a7, a8, a9, a10, a11] (vI x :: st) h := Rnx (hB_2) (dX0_choose_6) rfl
theorem v2_7 {d : Nat} {ls : LS3} {st : List MV} {h : Hp} {x y : Int32} : Ev d 2 7 ls (vI y :: vI x :: st) h = Ev d 2 8 ls (vI (x ||| y) :: st) h := Rnx (hB_2) (dX0_choose_7) rfl
theorem v2_8 {d : Nat} {st : List MV} {h : Hp} {x : Int32} {a0 a1 a2 a3 a5 a6 a7 a8 a9 a10 a11 : Option MV} : Ev d 2 8 [a0, a1, a2, a3, some (vI x), a5, a6, a7, a8, a9, a10, a11] st h = Ev d 2 10 [a0, a1, a2, a3, some (vI x), a5, a6, a7, a8, a9, a10, a11] (vI x :: st) h := Rnx (hB_2) (dX0_choose_8) rfl
theorem v2_10 {d : Nat} {st : List MV} {h : Hp} {x : Int32} {a0 a1 a2 a3 a4 a6 a7 a8 a9 a10 a11 : Option MV} : Ev d 2 10 [a0, a1, a2, a3, a4, some (vI x), a6, a7, a8, a9, a10, a11] st h = Ev d 2 12 [a0, a1, a2, a3, a4, some (vI x), a6, a7, a8, a9, a10, a11] (vI x :: st) h := Rnx (hB_2) (dX0_choose_10) rfl
set_option maxRecDepth 100000 in
theorem v2_12 {d : Nat} {ls : LS3} {st : List MV} {h : Hp} {a : A3} {o0 : Option A3} {x1 : Int32} {x2 : Int32} {x3 : Int32} (hS : gS h a = (1, 0)) (hc : catS st ≤ 8) : Ev (d + 1) 2 12 ls (vI x3 :: vI x2 :: vI x1 :: vO o0 :: vR a :: st) h = Evk 3 (d + 1) 2 12 ls st (Ev d 3 0 [some (vR a), some (vO o0), some (vI x1), some (vI x2), some (vI x3), none, none] [] h) := RcallO (idx := 41) (n := 4) (kd := 0) (As' := [vO o0, vI x1, vI x2, vI x3]) hB_2 dX0_choose_12 rfl rfl (by decide) rfl rfl (Or.inl hS) rfl hc
theorem v2_15 {d : Nat} {ls : LS3} {st : List MV} {h : Hp} {x : Int32} : Ev d 2 15 ls (vI x :: st) h = if x = 0 then Ev d 2 20 ls st h else Ev d 2 18 ls st h := Rif hB_2 dX0_choose_15 rfl
theorem v2_18 {d : Nat} {ls : LS3} {st : List MV} {h : Hp} : Ev d 2 18 ls st h = Ev d 2 19 ls (vI (-1) :: st) h := Rnx (hB_2) (dX0_choose_18) rfl
theorem v2_19 {d : Nat} {ls : LS3} {h : Hp} {x : Int32} : Ev d 2 19 ls [vI x] h = some (.inl (some (vI x)), h) := Rdn hB_2 dX0_choose_19 rfl
theorem v2_20 {d : Nat} {st : List MV} {h : Hp} {x : Int32} {a0 a1 a2 a3 a4 a6 a7 a8 a9 a10 a11 : Option MV} : Ev d 2 20 [a0, a1, a2, a3, a4, some (vI x), a6, a7, a8, a9, a10, a11] st h = Ev d 2 22 [a0, a1, a2, a3, a4, some (vI x), a6, a7, a8, a9, a10, a11] (vI x :: st) h := Rnx (hB_2) (dX0_choose_20) rfl
theorem v2_22 {d : Nat} {ls : LS3} {st : List MV} {h : Hp} {x : Int32} : Ev d 2 22 ls (vI x :: st) h = if 0 < x then Ev d 2 27 ls st h else Ev d 2 25 ls st h := Rif hB_2 dX0_choose_22 rfl
theorem v2_25 {d : Nat} {st : List MV} {h : Hp} {x : Int32} {a0 a1 a2 a4 a5 a6 a7 a8 a9 a10 a11 : Option MV} : Ev d 2 25 [a0, a1, a2, some (vI x), a4, a5, a6, a7, a8, a9, a10, a11] st h = Ev d 2 26 [a0, a1, a2, some (vI x), a4, a5, a6, a7, a8, a9, a10, a11] (vI x :: st) h := Rnx (hB_2) (dX0_choose_25) rfl
theorem v2_26 {d : Nat} {ls : LS3} {h : Hp} {x : Int32} : Ev d 2 26 ls [vI x] h = some (.inl (some (vI x)), h) := Rdn hB_2 dX0_choose_26 rfl
theorem v2_27 {d : Nat} {st : List MV} {h : Hp} {x : Int32} {a0 a1 a2 a3 a5 a6 a7 a8 a9 a10 a11 : Option MV} : Ev d 2 27 [a0, a1, a2, a3, some (vI x), a5, a6, a7, a8, a9, a10, a11] st h = Ev d 2 29 [a0, a1, a2, a3, some (vI x), a5, a6, a7, a8, a9, a10, a11] (vI x :: st) h := Rnx (hB_2) (dX0_choose_27) rfl
theorem v2_29 {d : Nat} {st : List MV} {h : Hp} {x : Int32} {a0 a1 a2 a3 a4 a5 a6 a7 a8 a9 a10 a11 : Option MV} : Ev d 2 29 [a0, a1, a2, a3, a4, a5, a6, a7, a8, a9, a10, a11] (vI x :: st) h = Ev d 2 31 [a0, a1, a2, a3, a4, a5, some (vI x), a7, a8, a9, a10, a11] st h := Rnx (hB_2) (dX0_choose_29) rfl
theorem v2_31 {d : Nat} {st : List MV} {h : Hp} {x : Option A3} {a0 a2 a3 a4 a5 a6 a7 a8 a9 a10 a11 : Option MV} : Ev d 2 31 [a0, some (vO x), a2, a3, a4, a5, a6, a7, a8, a9, a10, a11] st h = Ev d 2 32 [a0, some (vO x), a2, a3, a4, a5, a6, a7, a8, a9, a10, a11] (vO x :: st) h := Rnx (hB_2) (dX0_choose_31) rfl
set_option maxRecDepth 100000 in
theorem v2_32 {d : Nat} {ls : LS3} {st : List MV} {h : Hp} {a : A3} (hS : gS h a = (1, 4)) : Ev d 2 32 ls (vR a :: st) h = Ev d 2 35 ls (vO (gR h a 0) :: st) h := Rget hB_2 dX0_choose_32 rfl (Or.inl hS)
theorem v2_35 {d : Nat} {st : List MV} {h : Hp} {x : Option A3} {a0 a1 a2 a3 a4 a5 a6 a7 a8 a9 a10 a11 : Option MV} : Ev d 2 35 [a0, a1, a2, a3, a4, a5, a6, a7, a8, a9, a10, a11] (vO x :: st) h = Ev d 2 37 [a0, a1, a2, a3, a4, a5, a6, some (vO x), a8, a9, a10, a11] st h := Rnx (hB_2) (dX0_choose_35) rfl
theorem v2_37 {d : Nat} {st : List MV} {h : Hp} {x : Option A3} {a0 a1 a2 a3 a4 a5 a6 a8 a9 a10 a11 : Option MV} : Ev d 2 37 [a0, a1, a2, a3, a4, a5, a6, some (vO x), a8, a9, a10, a11] st h = Ev d 2 39 [a0, a1, a2, a3, a4, a5, a6, some (vO x), a8, a9, a10, a11] (vO x :: st) h := Rnx (hB_2) (dX0_choose_37) rfl
theorem v2_39 {d : Nat} {ls : LS3} {st : List MV} {h : Hp} {a : A3} (hS : 2 ≤ (gS h a).1 ∧ (gS h a).1 ≤ 10) : Ev d 2 39 ls (vR a :: st) h = Ev d 2 40 ls (vI (Int32.ofNat (gS h a).2) :: st) h := Rlen hB_2 dX0_choose_39 hS
theorem v2_40 {d : Nat} {st : List MV} {h : Hp} {x : Int32} {a0 a1 a2 a3 a4 a5 a6 a7 a8 a9 a10 a11 : Option MV} : Ev d 2 40 [a0, a1, a2, a3, a4, a5, a6, a7, a8, a9, a10, a11] (vI x :: st) h = Ev d 2 42 [a0, a1, a2, a3, a4, a5, a6, a7, some (vI x), a9, a10, a11] st h := Rnx (hB_2) (dX0_choose_40) rfl
theorem v2_42 {d : Nat} {ls : LS3} {st : List MV} {h : Hp} : Ev d 2 42 ls st h = Ev d 2 43 ls (vI 0 :: st) h := Rnx (hB_2) (dX0_choose_42) rfl
theorem v2_43 {d : Nat} {st : List MV} {h : Hp} {x : Int32} {a0 a1 a2 a3 a4 a5 a6 a7 a8 a9 a10 a11 : Option MV} : Ev d 2 43 [a0, a1, a2, a3, a4, a5, a6, a7, a8, a9, a10, a11] (vI x :: st) h = Ev d 2 45 [a0, a1, a2, a3, a4, a5, a6, a7, a8, some (vI x), a10, a11] st h := Rnx (hB_2) (dX0_choose_43) rfl
theorem v2_45 {d : Nat} {st : List MV} {h : Hp} {x : Int32} {a0 a1 a2 a3 a4 a5 a6 a7 a8 a10 a11 : Option MV} : Ev d 2 45 [a0, a1, a2, a3, a4, a5, a6, a7, a8, some (vI x), a10, a11] st h = Ev d 2 47 [a0, a1, a2, a3, a4, a5, a6, a7, a8, some (vI x), a10, a11] (vI x :: st) h := Rnx (hB_2) (dX0_choose_45) rfl
theorem v2_47 {d : Nat} {st : List MV} {h : Hp} {x : Int32} {a0 a1 a2 a3 a4 a5 a6 a7 a9 a10 a11 : Option MV} : Ev d 2 47 [a0, a1, a2, a3, a4, a5, a6, a7, some (vI x), a9, a10, a11] st h = Ev d 2 49 [a0, a1, a2, a3, a4, a5, a6, a7, some (vI x), a9, a10, a11] (vI x :: st) h := Rnx (hB_2) (dX0_choose_47) rfl
theorem v2_49 {d : Nat} {ls : LS3} {st : List MV} {h : Hp} {x y : Int32} : Ev d 2 49 ls (vI y :: vI x :: st) h = if y ≤ x then Ev d 2 125 ls st h else Ev d 2 52 ls st h := Rif hB_2 dX0_choose_49 rfl
theorem v2_52 {d : Nat} {st : List MV} {h : Hp} {x : Option A3} {a0 a1 a2 a3 a4 a5 a6 a8 a9 a10 a11 : Option MV} : Ev d 2 52 [a0, a1, a2, a3, a4, a5, a6, some (vO x), a8, a9, a10, a11] st h = Ev d 2 54 [a0, a1, a2, a3, a4, a5, a6, some (vO x), a8, a9, a10, a11] (vO x :: st) h := Rnx (hB_2) (dX0_choose_52) rfl
theorem v2_54 {d : Nat} {st : List MV} {h : Hp} {x : Int32} {a0 a1 a2 a3 a4 a5 a6 a7 a8 a10 a11 : Option MV} : Ev d 2 54 [a0, a1, a2, a3, a4, a5, a6, a7, a8, some (vI x), a10, a11] st h = Ev d 2 56 [a0, a1, a2, a3, a4, a5, a6, a7, a8, some (vI x), a10, a11] (vI x :: st) h := Rnx (hB_2) (dX0_choose_54) rfl
theorem v2_56 {d : Nat} {ls : LS3} {st : List MV} {h : Hp} {a : A3} {j : Int32} (hS : (gS h a).1 ∈ [6, 7, 8]) (hj : inB j (gS h a).2) : Ev d 2 56 ls (vI j :: vR a :: st) h = Ev d 2 57 ls (vO (gR h a j.toNatClampNeg) :: st) h := Rald (ks := [6, 7, 8]) (f := fun a j => vO (gR h a j)) hB_2 dX0_choose_56 rfl hS hj
theorem v2_57 {d : Nat} {st : List MV} {h : Hp} {x : Option A3} {a0 a1 a2 a3 a4 a5 a6 a7 a8 a9 a10 a11 : Option MV} : Ev d 2 57 [a0, a1, a2, a3, a4, a5, a6, a7, a8, a9, a10, a11] (vO x :: st) h = Ev d 2 59 [a0, a1, a2, a3, a4, a5, a6, a7, a8, a9, some (vO x), a11] st h := Rnx (hB_2) (dX0_choose_57) rfl
theorem v2_59 {d : Nat} {st : List MV} {h : Hp} {x : Option A3} {a0 a1 a2 a3 a4 a5 a6 a7 a8 a9 a11 : Option MV} : Ev d 2 59 [a0, a1, a2, a3, a4, a5, a6, a7, a8, a9, some (vO x), a11] st h = Ev d 2 61 [a0, a1, a2, a3, a4, a5, a6, a7, a8, a9, some (vO x), a11] (vO x :: st) h := Rnx (hB_2) (dX0_choose_59) rfl
theorem v2_61 {d : Nat} {st : List MV} {h : Hp} {x : Int32} {a0 a1 a2 a3 a4 a5 a7 a8 a9 a10 a11 : Option MV} : Ev d 2 61 [a0, a1, a2, a3, a4, a5, some (vI x), a7, a8, a9, a10, a11] st h = Ev d 2 63 [a0, a1, a2, a3, a4, a5, some (vI x), a7, a8, a9, a10, a11] (vI x :: st) h := Rnx (hB_2) (dX0_choose_61) rfl
set_option maxRecDepth 100000 in
theorem v2_63 {d : Nat} {ls : LS3} {st : List MV} {h : Hp} {a : A3} {x0 : Int32} (hS : gS h a = (1, 3)) (hc : catS st ≤ 8) : Ev (d + 1) 2 63 ls (vI x0 :: vR a :: st) h = Evk 25 (d + 1) 2 63 ls st (Ev d 25 0 [some (vR a), some (vI x0)] [] h) := RcallO (idx := 49) (n := 1) (kd := 0) (As' := [vI x0]) hB_2 dX0_choose_63 rfl rfl (by decide) rfl rfl (Or.inl hS) rfl hc
theorem v2_66 {d : Nat} {ls : LS3} {st : List MV} {h : Hp} {x : Int32} : Ev d 2 66 ls (vI x :: st) h = if x = 0 then Ev d 2 119 ls st h else Ev d 2 69 ls st h := Rif hB_2 dX0_choose_66 rfl
theorem v2_69 {d : Nat} {st : List MV} {h : Hp} {x : Int32} {a0 a1 a2 a3 a4 a5 a7 a8 a9 a10 a11 : Option MV} : Ev d 2 69 [a0, a1, a2, a3, a4, a5, some (vI x), a7, a8, a9, a10, a11] st h = Ev d 2 71 [a0, a1, a2, a3, a4, a5, some (vI x), a7, a8, a9, a10, a11] (vI x :: st) h := Rnx (hB_2) (dX0_choose_69) rfl
theorem v2_71 {d : Nat} {st : List MV} {h : Hp} {x : Option A3} {a0 a1 a2 a3 a4 a5 a6 a7 a8 a9 a11 : Option MV} : Ev d 2 71 [a0, a1, a2, a3, a4, a5, a6, a7, a8, a9, some (vO x), a11] st h = Ev d 2 73 [a0, a1, a2, a3, a4, a5, a6, a7, a8, a9, some (vO x), a11] (vO x :: st) h := Rnx (hB_2) (dX0_choose_71) rfl
set_option maxRecDepth 100000 in
theorem v2_73 {d : Nat} {ls : LS3} {st : List MV} {h : Hp} {a : A3}  (hS : gS h a = (1, 3)) (hc : catS st ≤ 8) : Ev (d + 1) 2 73 ls (vR a :: st) h = Evk 24 (d + 1) 2 73 ls st (Ev d 24 0 [some (vR a)] [] h) := RcallO (idx := 55) (n := 0) (kd := 0) (As' := []) hB_2 dX0_choose_73 rfl rfl (by decide) rfl rfl (Or.inl hS) rfl hc
theorem v2_76 {d : Nat} {ls : LS3} {st : List MV} {h : Hp} : Ev d 2 76 ls st h = Ev d 2 77 ls (vI (-1) :: st) h := Rnx (hB_2) (dX0_choose_76) rfl
theorem v2_77 {d : Nat} {ls : LS3} {st : List MV} {h : Hp} {x y : Int32} : Ev d 2 77 ls (vI y :: vI x :: st) h = Ev d 2 78 ls (vI (x ^^^ y) :: st) h := Rnx (hB_2) (dX0_choose_77) rfl
theorem v2_78 {d : Nat} {ls : LS3} {st : List MV} {h : Hp} {x y : Int32} : Ev d 2 78 ls (vI y :: vI x :: st) h = Ev d 2 79 ls (vI (x &&& y) :: st) h := Rnx (hB_2) (dX0_choose_78) rfl
theorem v2_79 {d : Nat} {st : List MV} {h : Hp} {x : Int32} {a0 a1 a2 a3 a4 a5 a6 a7 a8 a9 a10 a11 : Option MV} : Ev d 2 79 [a0, a1, a2, a3, a4, a5, a6, a7, a8, a9, a10, a11] (vI x :: st) h = Ev d 2 81 [a0, a1, a2, a3, a4, a5, some (vI x), a7, a8, a9, a10, a11] st h := Rnx (hB_2) (dX0_choose_79) rfl
theorem v2_81 {d : Nat} {st : List MV} {h : Hp} {x : Option A3} {a1 a2 a3 a4 a5 a6 a7 a8 a9 a10 a11 : Option MV} : Ev d 2 81 [some (vO x), a1, a2, a3, a4, a5, a6, a7, a8, a9, a10, a11] st h = Ev d 2 82 [some (vO x), a1, a2, a3, a4, a5, a6, a7, a8, a9, a10, a11] (vO x :: st) h := Rnx (hB_2) (dX0_choose_81) rfl
theorem v2_82 {d : Nat} {st : List MV} {h : Hp} {x : Option A3} {a0 a2 a3 a4 a5 a6 a7 a8 a9 a10 a11 : Option MV} : Ev d 2 82 [a0, some (vO x), a2, a3, a4, a5, a6, a7, a8, a9, a10, a11] st h = Ev d 2 83 [a0, some (vO x), a2, a3, a4, a5, a6, a7, a8, a9, a10, a11] (vO x :: st) h := Rnx (hB_2) (dX0_choose_82) rfl
theorem v2_83 {d : Nat} {st : List MV} {h : Hp} {x : Option A3} {a0 a1 a3 a4 a5 a6 a7 a8 a9 a10 a11 : Option MV} : Ev d 2 83 [a0, a1, some (vO x), a3, a4, a5, a6, a7, a8, a9, a10, a11] st h = Ev d 2 84 [a0, a1, some (vO x), a3, a4, a5, a6, a7, a8, a9, a10, a11] (vO x :: st) h := Rnx (hB_2) (dX0_choose_83) rfl
theorem v2_84 {d : Nat} {st : List MV} {h : Hp} {x : Int32} {a0 a1 a2 a4 a5 a6 a7 a8 a9 a10 a11 : Option MV} : Ev d 2 84 [a0, a1, a2, some (vI x), a4, a5, a6, a7, a8, a9, a10, a11] st h = Ev d 2 85 [a0, a1, a2, some (vI x), a4, a5, a6, a7, a8, a9, a10, a11] (vI x :: st) h := Rnx (hB_2) (dX0_choose_84) rfl
theorem v2_85 {d : Nat} {st : List MV} {h : Hp} {x : Option A3} {a0 a1 a2 a3 a4 a5 a6 a7 a8 a9 a11 : Option MV} : Ev d 2 85 [a0, a1, a2, a3, a4, a5, a6, a7, a8, a9, some (vO x), a11] st h = Ev d 2 87 [a0, a1, a2, a3, a4, a5, a6, a7, a8, a9, some (vO x), a11] (vO x :: st) h := Rnx (hB_2) (dX0_choose_85) rfl
set_option maxRecDepth 100000 in
theorem v2_87 {d : Nat} {ls : LS3} {st : List MV} {h : Hp} {a : A3}  (hS : gS h a = (1, 3)) (hc : catS st ≤ 8) : Ev (d + 1) 2 87 ls (vR a :: st) h = Evk 24 (d + 1) 2 87 ls st (Ev d 24 0 [some (vR a)] [] h) := RcallO (idx := 55) (n := 0) (kd := 0) (As' := []) hB_2 dX0_choose_87 rfl rfl (by decide) rfl rfl (Or.inl hS) rfl hc
theorem v2_90 {d : Nat} {ls : LS3} {st : List MV} {h : Hp} {x y : Int32} : Ev d 2 90 ls (vI y :: vI x :: st) h = Ev d 2 91 ls (vI (x ||| y) :: st) h := Rnx (hB_2) (dX0_choose_90) rfl
theorem v2_91 {d : Nat} {st : List MV} {h : Hp} {x : Int32} {a0 a1 a2 a3 a4 a5 a7 a8 a9 a10 a11 : Option MV} : Ev d 2 91 [a0, a1, a2, a3, a4, a5, some (vI x), a7, a8, a9, a10, a11] st h = Ev d 2 93 [a0, a1, a2, a3, a4, a5, some (vI x), a7, a8, a9, a10, a11] (vI x :: st) h := Rnx (hB_2) (dX0_choose_91) rfl
theorem v2_93 {d : Nat} {st : List MV} {h : Hp} {x : Option A3} {a0 a1 a2 a3 a4 a5 a6 a7 a8 a9 a11 : Option MV} : Ev d 2 93 [a0, a1, a2, a3, a4, a5, a6, a7, a8, a9, some (vO x), a11] st h = Ev d 2 95 [a0, a1, a2, a3, a4, a5, a6, a7, a8, a9, some (vO x), a11] (vO x :: st) h := Rnx (hB_2) (dX0_choose_93) rfl
set_option maxRecDepth 100000 in
theorem v2_95 {d : Nat} {ls : LS3} {st : List MV} {h : Hp} {a : A3} (hS : gS h a = (1, 3)) : Ev d 2 95 ls (vR a :: st) h = Ev d 2 98 ls (vI (gI h a 7) :: st) h := Rget hB_2 dX0_choose_95 rfl (Or.inl hS)
theorem v2_98 {d : Nat} {ls : LS3} {st : List MV} {h : Hp} : Ev d 2 98 ls st h = Ev d 2 99 ls (vI (-1) :: st) h := Rnx (hB_2) (dX0_choose_98) rfl
theorem v2_99 {d : Nat} {ls : LS3} {st : List MV} {h : Hp} {x y : Int32} : Ev d 2 99 ls (vI y :: vI x :: st) h = Ev d 2 100 ls (vI (x ^^^ y) :: st) h := Rnx (hB_2) (dX0_choose_99) rfl
theorem v2_100 {d : Nat} {ls : LS3} {st : List MV} {h : Hp} {x y : Int32} : Ev d 2 100 ls (vI y :: vI x :: st) h = Ev d 2 101 ls (vI (x &&& y) :: st) h := Rnx (hB_2) (dX0_choose_100) rfl
theorem v2_101 {d : Nat} {st : List MV} {h : Hp} {x : Int32} {a0 a1 a2 a3 a4 a6 a7 a8 a9 a10 a11 : Option MV} : Ev d 2 101 [a0, a1, a2, a3, a4, some (vI x), a6, a7, a8, a9, a10, a11] st h = Ev d 2 103 [a0, a1, a2, a3, a4, some (vI x), a6, a7, a8, a9, a10, a11] (vI x :: st) h := Rnx (hB_2) (dX0_choose_101) rfl
theorem v2_103 {d : Nat} {ls : LS3} {st : List MV} {h : Hp} : Ev d 2 103 ls st h = Ev d 2 104 ls (vI 1 :: st) h := Rnx (hB_2) (dX0_choose_103) rfl
theorem v2_104 {d : Nat} {ls : LS3} {st : List MV} {h : Hp} {x y : Int32} : Ev d 2 104 ls (vI y :: vI x :: st) h = Ev d 2 105 ls (vI (x - y) :: st) h := Rnx (hB_2) (dX0_choose_104) rfl
set_option maxRecDepth 100000 in
theorem v2_105 {d : Nat} {ls : LS3} {st : List MV} {h : Hp} {o0 : Option A3} {o1 : Option A3} {o2 : Option A3} {x3 : Int32} {x4 : Int32} {x5 : Int32} (hc : catS st ≤ 8) : Ev (d + 1) 2 105 ls (vI x5 :: vI x4 :: vI x3 :: vO o2 :: vO o1 :: vO o0 :: st) h = Evk 2 (d + 1) 2 105 ls st (Ev d 2 0 [some (vO o0), some (vO o1), some (vO o2), some (vI x3), some (vI x4), some (vI x5), none, none, none, none, none, none] [] h) := RcallS (idx := 37) (n := 6) (kd := 1) (As := [vO o0, vO o1, vO o2, vI x3, vI x4, vI x5]) hB_2 dX0_choose_105 rfl rfl (by decide) rfl rfl rfl hc
theorem v2_108 {d : Nat} {st : List MV} {h : Hp} {x : Int32} {a0 a1 a2 a3 a4 a5 a6 a7 a8 a9 a10 a11 : Option MV} : Ev d 2 108 [a0, a1, a2, a3, a4, a5, a6, a7, a8, a9, a10, a11] (vI x :: st) h = Ev d 2 110 [a0, a1, a2, a3, a4, a5, a6, a7, a8, a9, a10, some (vI x)] st h := Rnx (hB_2) (dX0_choose_108) rfl
theorem v2_110 {d : Nat} {st : List MV} {h : Hp} {x : Int32} {a0 a1 a2 a3 a4 a5 a6 a7 a8 a9 a10 : Option MV} : Ev d 2 110 [a0, a1, a2, a3, a4, a5, a6, a7, a8, a9, a10, some (vI x)] st h = Ev d 2 112 [a0, a1, a2, a3, a4, a5, a6, a7, a8, a9, a10, some (vI x)] (vI x :: st) h := Rnx (hB_2) (dX0_choose_110) rfl
theorem v2_112 {d : Nat} {ls : LS3} {st : List MV} {h : Hp} : Ev d 2 112 ls st h = Ev d 2 113 ls (vI (-1) :: st) h := Rnx (hB_2) (dX0_choose_112) rfl
theorem v2_113 {d : Nat} {ls : LS3} {st : List MV} {h : Hp} {x y : Int32} : Ev d 2 113 ls (vI y :: vI x :: st) h = if x = y then Ev d 2 119 ls st h else Ev d 2 116 ls st h := Rif hB_2 dX0_choose_113 rfl
theorem v2_116 {d : Nat} {st : List MV} {h : Hp} {x : Int32} {a0 a1 a2 a3 a4 a5 a6 a7 a8 a9 a10 : Option MV} : Ev d 2 116 [a0, a1, a2, a3, a4, a5, a6, a7, a8, a9, a10, some (vI x)] st h = Ev d 2 118 [a0, a1, a2, a3, a4, a5, a6, a7, a8, a9, a10, some (vI x)] (vI x :: st) h := Rnx (hB_2) (dX0_choose_116) rfl
theorem v2_118 {d : Nat} {ls : LS3} {h : Hp} {x : Int32} : Ev d 2 118 ls [vI x] h = some (.inl (some (vI x)), h) := Rdn hB_2 dX0_choose_118 rfl
theorem v2_119 {d : Nat} {st : List MV} {h : Hp} {x : Int32} {a0 a1 a2 a3 a4 a5 a6 a7 a8 a10 a11 : Option MV} : Ev d 2 119 [a0, a1, a2, a3, a4, a5, a6, a7, a8, some (vI x), a10, a11] st h = Ev d 2 122 [a0, a1, a2, a3, a4, a5, a6, a7, a8, some (vI (x + 1)), a10, a11] st h := Rnx (hB_2) (dX0_choose_119) rfl
theorem v2_122 {d : Nat} {ls : LS3} {st : List MV} {h : Hp} : Ev d 2 122 ls st h = Ev d 2 45 ls st h := Rnx (hB_2) (dX0_choose_122) rfl
theorem v2_125 {d : Nat} {ls : LS3} {st : List MV} {h : Hp} : Ev d 2 125 ls st h = Ev d 2 126 ls (vI (-1) :: st) h := Rnx (hB_2) (dX0_choose_125) rfl
theorem v2_126 {d : Nat} {ls : LS3} {h : Hp} {x : Int32} : Ev d 2 126 ls [vI x] h = some (.inl (some (vI x)), h) := Rdn hB_2 dX0_choose_126 rfl
theorem hB_3 : mB 3 = cX0_isHopeless := rfl
theorem v3_0 {d : Nat} {st : List MV} {h : Hp} {x : Int32} {a0 a1 a2 a4 a5 a6 : Option MV} : Ev d 3 0 [a0, a1, a2, some (vI x), a4, a5, a6] st h = Ev d 3 1 [a0, a1, a2, some (vI x), a4, a5, a6] (vI x :: st) h := Rnx (hB_3) (dX0_isHopeless_0) rfl
set_option maxRecDepth 100000 in
theorem v3_1 {d : Nat} {ls : LS3} {st : List MV} {h : Hp} {x0 : Int32} (hc : catS st ≤ 8) : Ev (d + 1) 3 1 ls (vI x0 :: st) h = Evk 234 (d + 1) 3 1 ls st (Ev d 234 0 [some (vI x0)] [] h) := RcallS (idx := 61) (n := 1) (kd := 1) (As := [vI x0]) hB_3 dX0_isHopeless_1 rfl rfl (by decide) rfl rfl rfl hc
theorem v3_4 {d : Nat} {st : List MV} {h : Hp} {x : Int32} {a0 a1 a2 a3 a5 a6 : Option MV} : Ev d 3 4 [a0, a1, a2, a3, some (vI x), a5, a6] st h = Ev d 3 6 [a0, a1, a2, a3, some (vI x), a5, a6] (vI x :: st) h := Rnx (hB_3) (dX0_isHopeless_4) rfl
theorem v3_6 {d : Nat} {ls : LS3} {st : List MV} {h : Hp} {x y : Int32} : Ev d 3 6 ls (vI y :: vI x :: st) h = if y ≤ x then Ev d 3 11 ls st h else Ev d 3 9 ls st h := Rif hB_3 dX0_isHopeless_6 rfl
theorem v3_9 {d : Nat} {ls : LS3} {st : List MV} {h : Hp} : Ev d 3 9 ls st h = Ev d 3 10 ls (vI 1 :: st) h := Rnx (hB_3) (dX0_isHopeless_9) rfl
theorem v3_10 {d : Nat} {ls : LS3} {h : Hp} {x : Int32} (hx : x = 0 ∨ x = 1) : Ev d 3 10 ls [vI x] h = some (.inl (some (vI x)), h) := RretB hB_3 dX0_isHopeless_10 rfl hx
theorem v3_11 {d : Nat} {ls : LS3} {st : List MV} {h : Hp} : Ev d 3 11 ls st h = Ev d 3 12 ls (vI 0 :: st) h := Rnx (hB_3) (dX0_isHopeless_11) rfl
theorem v3_12 {d : Nat} {st : List MV} {h : Hp} {x : Int32} {a0 a1 a2 a3 a4 a5 a6 : Option MV} : Ev d 3 12 [a0, a1, a2, a3, a4, a5, a6] (vI x :: st) h = Ev d 3 14 [a0, a1, a2, a3, a4, some (vI x), a6] st h := Rnx (hB_3) (dX0_isHopeless_12) rfl
theorem v3_14 {d : Nat} {st : List MV} {h : Hp} {x : Int32} {a0 a1 a2 a3 a4 a6 : Option MV} : Ev d 3 14 [a0, a1, a2, a3, a4, some (vI x), a6] st h = Ev d 3 16 [a0, a1, a2, a3, a4, some (vI x), a6] (vI x :: st) h := Rnx (hB_3) (dX0_isHopeless_14) rfl
theorem v3_16 {d : Nat} {ls : LS3} {st : List MV} {h : Hp} : Ev d 3 16 ls st h = Ev d 3 17 ls (vI 5 :: st) h := Rnx (hB_3) (dX0_isHopeless_16) rfl
theorem v3_17 {d : Nat} {ls : LS3} {st : List MV} {h : Hp} {x y : Int32} : Ev d 3 17 ls (vI y :: vI x :: st) h = if y ≤ x then Ev d 3 73 ls st h else Ev d 3 20 ls st h := Rif hB_3 dX0_isHopeless_17 rfl
theorem v3_20 {d : Nat} {st : List MV} {h : Hp} {x : Option A3} {a0 a2 a3 a4 a5 a6 : Option MV} : Ev d 3 20 [a0, some (vO x), a2, a3, a4, a5, a6] st h = Ev d 3 21 [a0, some (vO x), a2, a3, a4, a5, a6] (vO x :: st) h := Rnx (hB_3) (dX0_isHopeless_20) rfl
theorem v3_21 {d : Nat} {st : List MV} {h : Hp} {x : Int32} {a0 a1 a2 a3 a4 a6 : Option MV} : Ev d 3 21 [a0, a1, a2, a3, a4, some (vI x), a6] st h = Ev d 3 23 [a0, a1, a2, a3, a4, some (vI x), a6] (vI x :: st) h := Rnx (hB_3) (dX0_isHopeless_21) rfl
set_option maxRecDepth 100000 in
theorem v3_23 {d : Nat} {ls : LS3} {st : List MV} {h : Hp} {a : A3} {x0 : Int32} (hS : gS h a = (1, 5)) (hc : catS st ≤ 8) : Ev (d + 1) 3 23 ls (vI x0 :: vR a :: st) h = Evk 84 (d + 1) 3 23 ls st (Ev d 84 0 [some (vR a), some (vI x0), none] [] h) := RcallO (idx := 67) (n := 1) (kd := 0) (As' := [vI x0]) hB_3 dX0_isHopeless_23 rfl rfl (by decide) rfl rfl (Or.inl hS) rfl hc
theorem v3_26 {d : Nat} {st : List MV} {h : Hp} {x : Option A3} {a1 a2 a3 a4 a5 a6 : Option MV} : Ev d 3 26 [some (vO x), a1, a2, a3, a4, a5, a6] st h = Ev d 3 27 [some (vO x), a1, a2, a3, a4, a5, a6] (vO x :: st) h := Rnx (hB_3) (dX0_isHopeless_26) rfl
set_option maxRecDepth 100000 in
theorem v3_27 {d : Nat} {ls : LS3} {st : List MV} {h : Hp} {a : A3} (hS : gS h a = (1, 0)) : Ev d 3 27 ls (vR a :: st) h = Ev d 3 30 ls (vO (gR h a 0) :: st) h := Rget hB_3 dX0_isHopeless_27 rfl (Or.inl hS)
theorem v3_30 {d : Nat} {st : List MV} {h : Hp} {x : Int32} {a0 a1 a2 a3 a4 a6 : Option MV} : Ev d 3 30 [a0, a1, a2, a3, a4, some (vI x), a6] st h = Ev d 3 32 [a0, a1, a2, a3, a4, some (vI x), a6] (vI x :: st) h := Rnx (hB_3) (dX0_isHopeless_30) rfl
theorem v3_32 {d : Nat} {ls : LS3} {st : List MV} {h : Hp} {a : A3} {j : Int32} (hS : (gS h a).1 ∈ [2, 9]) (hj : inB j (gS h a).2) : Ev d 3 32 ls (vI j :: vR a :: st) h = Ev d 3 33 ls (vI (gI h a j.toNatClampNeg) :: st) h := Rald (ks := [2, 9]) (f := fun a j => vI (gI h a j)) hB_3 dX0_isHopeless_32 rfl hS hj
theorem v3_33 {d : Nat} {st : List MV} {h : Hp} {x : Int32} {a0 a1 a3 a4 a5 a6 : Option MV} : Ev d 3 33 [a0, a1, some (vI x), a3, a4, a5, a6] st h = Ev d 3 34 [a0, a1, some (vI x), a3, a4, a5, a6] (vI x :: st) h := Rnx (hB_3) (dX0_isHopeless_33) rfl
theorem v3_34 {d : Nat} {ls : LS3} {st : List MV} {h : Hp} {x y : Int32} : Ev d 3 34 ls (vI y :: vI x :: st) h = Ev d 3 35 ls (vI (x &&& y) :: st) h := Rnx (hB_3) (dX0_isHopeless_34) rfl
set_option maxRecDepth 100000 in
theorem v3_35 {d : Nat} {ls : LS3} {st : List MV} {h : Hp} {x0 : Int32} (hc : catS st ≤ 8) : Ev (d + 1) 3 35 ls (vI x0 :: st) h = Evk 234 (d + 1) 3 35 ls st (Ev d 234 0 [some (vI x0)] [] h) := RcallS (idx := 61) (n := 1) (kd := 1) (As := [vI x0]) hB_3 dX0_isHopeless_35 rfl rfl (by decide) rfl rfl rfl hc
theorem v3_38 {d : Nat} {ls : LS3} {st : List MV} {h : Hp} {x y : Int32} : Ev d 3 38 ls (vI y :: vI x :: st) h = Ev d 3 39 ls (vI (x - y) :: st) h := Rnx (hB_3) (dX0_isHopeless_38) rfl
theorem v3_39 {d : Nat} {st : List MV} {h : Hp} {x : Int32} {a0 a1 a2 a3 a4 a5 a6 : Option MV} : Ev d 3 39 [a0, a1, a2, a3, a4, a5, a6] (vI x :: st) h = Ev d 3 41 [a0, a1, a2, a3, a4, a5, some (vI x)] st h := Rnx (hB_3) (dX0_isHopeless_39) rfl
theorem v3_41 {d : Nat} {st : List MV} {h : Hp} {x : Int32} {a0 a1 a2 a3 a4 a5 : Option MV} : Ev d 3 41 [a0, a1, a2, a3, a4, a5, some (vI x)] st h = Ev d 3 43 [a0, a1, a2, a3, a4, a5, some (vI x)] (vI x :: st) h := Rnx (hB_3) (dX0_isHopeless_41) rfl
theorem v3_43 {d : Nat} {st : List MV} {h : Hp} {x : Int32} {a0 a1 a2 a3 a5 a6 : Option MV} : Ev d 3 43 [a0, a1, a2, a3, some (vI x), a5, a6] st h = Ev d 3 45 [a0, a1, a2, a3, some (vI x), a5, a6] (vI x :: st) h := Rnx (hB_3) (dX0_isHopeless_43) rfl
theorem v3_45 {d : Nat} {ls : LS3} {st : List MV} {h : Hp} {x y : Int32} : Ev d 3 45 ls (vI y :: vI x :: st) h = if y < x then Ev d 3 65 ls st h else Ev d 3 48 ls st h := Rif hB_3 dX0_isHopeless_45 rfl
theorem v3_48 {d : Nat} {st : List MV} {h : Hp} {x : Int32} {a0 a1 a2 a3 a4 a5 : Option MV} : Ev d 3 48 [a0, a1, a2, a3, a4, a5, some (vI x)] st h = Ev d 3 50 [a0, a1, a2, a3, a4, a5, some (vI x)] (vI x :: st) h := Rnx (hB_3) (dX0_isHopeless_48) rfl
theorem v3_50 {d : Nat} {st : List MV} {h : Hp} {x : Option A3} {a1 a2 a3 a4 a5 a6 : Option MV} : Ev d 3 50 [some (vO x), a1, a2, a3, a4, a5, a6] st h = Ev d 3 51 [some (vO x), a1, a2, a3, a4, a5, a6] (vO x :: st) h := Rnx (hB_3) (dX0_isHopeless_50) rfl
set_option maxRecDepth 100000 in
theorem v3_51 {d : Nat} {ls : LS3} {st : List MV} {h : Hp} {a : A3} (hS : gS h a = (1, 0)) : Ev d 3 51 ls (vR a :: st) h = Ev d 3 54 ls (vO (gR h a 0) :: st) h := Rget hB_3 dX0_isHopeless_51 rfl (Or.inl hS)
theorem v3_54 {d : Nat} {st : List MV} {h : Hp} {x : Int32} {a0 a1 a2 a3 a4 a6 : Option MV} : Ev d 3 54 [a0, a1, a2, a3, a4, some (vI x), a6] st h = Ev d 3 56 [a0, a1, a2, a3, a4, some (vI x), a6] (vI x :: st) h := Rnx (hB_3) (dX0_isHopeless_54) rfl
theorem v3_56 {d : Nat} {ls : LS3} {st : List MV} {h : Hp} {a : A3} {j : Int32} (hS : (gS h a).1 ∈ [2, 9]) (hj : inB j (gS h a).2) : Ev d 3 56 ls (vI j :: vR a :: st) h = Ev d 3 57 ls (vI (gI h a j.toNatClampNeg) :: st) h := Rald (ks := [2, 9]) (f := fun a j => vI (gI h a j)) hB_3 dX0_isHopeless_56 rfl hS hj
theorem v3_57 {d : Nat} {st : List MV} {h : Hp} {x : Int32} {a0 a1 a2 a4 a5 a6 : Option MV} : Ev d 3 57 [a0, a1, a2, some (vI x), a4, a5, a6] st h = Ev d 3 58 [a0, a1, a2, some (vI x), a4, a5, a6] (vI x :: st) h := Rnx (hB_3) (dX0_isHopeless_57) rfl
theorem v3_58 {d : Nat} {ls : LS3} {st : List MV} {h : Hp} {x y : Int32} : Ev d 3 58 ls (vI y :: vI x :: st) h = Ev d 3 59 ls (vI (x &&& y) :: st) h := Rnx (hB_3) (dX0_isHopeless_58) rfl
set_option maxRecDepth 100000 in
theorem v3_59 {d : Nat} {ls : LS3} {st : List MV} {h : Hp} {x0 : Int32} (hc : catS st ≤ 8) : Ev (d + 1) 3 59 ls (vI x0 :: st) h = Evk 234 (d + 1) 3 59 ls st (Ev d 234 0 [some (vI x0)] [] h) := RcallS (idx := 61) (n := 1) (kd := 1) (As := [vI x0]) hB_3 dX0_isHopeless_59 rfl rfl (by decide) rfl rfl rfl hc
theorem v3_62 {d : Nat} {ls : LS3} {st : List MV} {h : Hp} {x y : Int32} : Ev d 3 62 ls (vI y :: vI x :: st) h = if x ≤ y then Ev d 3 67 ls st h else Ev d 3 65 ls st h := Rif hB_3 dX0_isHopeless_62 rfl
theorem v3_65 {d : Nat} {ls : LS3} {st : List MV} {h : Hp} : Ev d 3 65 ls st h = Ev d 3 66 ls (vI 1 :: st) h := Rnx (hB_3) (dX0_isHopeless_65) rfl
theorem v3_66 {d : Nat} {ls : LS3} {h : Hp} {x : Int32} (hx : x = 0 ∨ x = 1) : Ev d 3 66 ls [vI x] h = some (.inl (some (vI x)), h) := RretB hB_3 dX0_isHopeless_66 rfl hx
theorem v3_67 {d : Nat} {st : List MV} {h : Hp} {x : Int32} {a0 a1 a2 a3 a4 a6 : Option MV} : Ev d 3 67 [a0, a1, a2, a3, a4, some (vI x), a6] st h = Ev d 3 70 [a0, a1, a2, a3, a4, some (vI (x + 1)), a6] st h := Rnx (hB_3) (dX0_isHopeless_67) rfl
theorem v3_70 {d : Nat} {ls : LS3} {st : List MV} {h : Hp} : Ev d 3 70 ls st h = Ev d 3 14 ls st h := Rnx (hB_3) (dX0_isHopeless_70) rfl
theorem v3_73 {d : Nat} {ls : LS3} {st : List MV} {h : Hp} : Ev d 3 73 ls st h = Ev d 3 74 ls (vI 0 :: st) h := Rnx (hB_3) (dX0_isHopeless_73) rfl
theorem v3_74 {d : Nat} {ls : LS3} {h : Hp} {x : Int32} (hx : x = 0 ∨ x = 1) : Ev d 3 74 ls [vI x] h = some (.inl (some (vI x)), h) := RretB hB_3 dX0_isHopeless_74 rfl hx
theorem hB_4 : mB 4 = cX1_init := rfl
theorem v4_0 {d : Nat} {st : List MV} {h : Hp} {x : Option A3} {a1 : Option MV} : Ev d 4 0 [some (vO x), a1] st h = Ev d 4 1 [some (vO x), a1] (vO x :: st) h := Rnx (hB_4) (dX1_init_0) rfl
set_option maxRecDepth 100000 in
theorem v4_1 {d : Nat} {ls : LS3} {st : List MV} {h : Hp} {a : A3} (hc : catS st ≤ 8) : Ev d 4 1 ls (vR a :: st) h = Ev d 4 4 ls st h := Robj hB_4 dX1_init_1 rfl hc
theorem v4_4 {d : Nat} {st : List MV} {h : Hp} {x : Option A3} {a1 : Option MV} : Ev d 4 4 [some (vO x), a1] st h = Ev d 4 5 [some (vO x), a1] (vO x :: st) h := Rnx (hB_4) (dX1_init_4) rfl
theorem v4_5 {d : Nat} {ls : LS3} {st : List MV} {h : Hp} : Ev d 4 5 ls st h = Ev d 4 7 ls (vI 7 :: st) h := Rnx (hB_4) (dX1_init_5) rfl
theorem v4_7 {d : Nat} {ls : LS3} {st : List MV} {h : Hp} {n : Int32} (hn : 0 ≤ n ∧ n.toNatClampNeg ≤ 100000) (hF : Fresh h) : Ev d 4 7 ls (vI n :: st) h = Ev d 4 10 ls (vR (nm (cnt h)) :: st) (mk h (nm (cnt h)) (8, n.toNatClampNeg) n.toNatClampNeg) := Rnewa hB_4 dX1_init_7 rfl hn hF
set_option maxRecDepth 100000 in
theorem v4_10 {d : Nat} {ls : LS3} {st : List MV} {h : Hp} {a : A3} {o : Option A3} (hS : gS h a = (1, 1)) : Ev d 4 10 ls (vO o :: vR a :: st) h = Ev d 4 13 ls st (sR h a 0 o) := RputR hB_4 dX1_init_10 rfl rfl (by decide) hS
theorem v4_13 {d : Nat} {ls : LS3} {st : List MV} {h : Hp} : Ev d 4 13 ls st h = Ev d 4 14 ls (vI 0 :: st) h := Rnx (hB_4) (dX1_init_13) rfl
theorem v4_14 {d : Nat} {st : List MV} {h : Hp} {x : Int32} {a0 a1 : Option MV} : Ev d 4 14 [a0, a1] (vI x :: st) h = Ev d 4 15 [a0, some (vI x)] st h := Rnx (hB_4) (dX1_init_14) rfl
theorem v4_15 {d : Nat} {st : List MV} {h : Hp} {x : Int32} {a0 : Option MV} : Ev d 4 15 [a0, some (vI x)] st h = Ev d 4 16 [a0, some (vI x)] (vI x :: st) h := Rnx (hB_4) (dX1_init_15) rfl
theorem v4_16 {d : Nat} {st : List MV} {h : Hp} {x : Option A3} {a1 : Option MV} : Ev d 4 16 [some (vO x), a1] st h = Ev d 4 17 [some (vO x), a1] (vO x :: st) h := Rnx (hB_4) (dX1_init_16) rfl
set_option maxRecDepth 100000 in
theorem v4_17 {d : Nat} {ls : LS3} {st : List MV} {h : Hp} {a : A3} (hS : gS h a = (1, 1)) : Ev d 4 17 ls (vR a :: st) h = Ev d 4 20 ls (vO (gR h a 0) :: st) h := Rget hB_4 dX1_init_17 rfl (Or.inl hS)
theorem v4_20 {d : Nat} {ls : LS3} {st : List MV} {h : Hp} {a : A3} (hS : 2 ≤ (gS h a).1 ∧ (gS h a).1 ≤ 10) : Ev d 4 20 ls (vR a :: st) h = Ev d 4 21 ls (vI (Int32.ofNat (gS h a).2) :: st) h := Rlen hB_4 dX1_init_20 hS
theorem v4_21 {d : Nat} {ls : LS3} {st : List MV} {h : Hp} {x y : Int32} : Ev d 4 21 ls (vI y :: vI x :: st) h = if y ≤ x then Ev d 4 43 ls st h else Ev d 4 24 ls st h := Rif hB_4 dX1_init_21 rfl
theorem v4_24 {d : Nat} {st : List MV} {h : Hp} {x : Option A3} {a1 : Option MV} : Ev d 4 24 [some (vO x), a1] st h = Ev d 4 25 [some (vO x), a1] (vO x :: st) h := Rnx (hB_4) (dX1_init_24) rfl
set_option maxRecDepth 100000 in
theorem v4_25 {d : Nat} {ls : LS3} {st : List MV} {h : Hp} {a : A3} (hS : gS h a = (1, 1)) : Ev d 4 25 ls (vR a :: st) h = Ev d 4 28 ls (vO (gR h a 0) :: st) h := Rget hB_4 dX1_init_25 rfl (Or.inl hS)
theorem v4_28 {d : Nat} {st : List MV} {h : Hp} {x : Int32} {a0 : Option MV} : Ev d 4 28 [a0, some (vI x)] st h = Ev d 4 29 [a0, some (vI x)] (vI x :: st) h := Rnx (hB_4) (dX1_init_28) rfl
theorem v4_29 {d : Nat} {ls : LS3} {st : List MV} {h : Hp} (hF : Fresh h) : Ev d 4 29 ls st h = Ev d 4 32 ls (vR (nm (cnt h)) :: st) (mk h (nm (cnt h)) (1, 4) 8) := Rnew hB_4 dX1_init_29 rfl hF
theorem v4_32 {d : Nat} {ls : LS3} {st : List MV} {h : Hp} {v : MV} (hv : cat1 v = true) : Ev d 4 32 ls (v :: st) h = Ev d 4 33 ls (v :: v :: st) h := Rdup hB_4 dX1_init_32 hv
set_option maxRecDepth 100000 in
theorem v4_33 {d : Nat} {ls : LS3} {st : List MV} {h : Hp} {a : A3}  (hS : gS h a = (1, 4)) (hc : catS st ≤ 8) : Ev (d + 1) 4 33 ls (vR a :: st) h = Evk 30 (d + 1) 4 33 ls st (Ev d 30 0 [some (vR a), none] [] h) := RcallO (idx := 17) (n := 0) (kd := 2) (As' := []) hB_4 dX1_init_33 rfl rfl (by decide) rfl rfl (Or.inl hS) rfl hc
theorem v4_36 {d : Nat} {ls : LS3} {st : List MV} {h : Hp} {a v : A3} {j : Int32} (hS : (gS h a).1 = 6 ∨ (gS h a).1 = 7 ∨ (gS h a).1 = 8) (hj : inB j (gS h a).2) (hv : gS h v = (1, elemC (gS h a).1)) : Ev d 4 36 ls (vR v :: vI j :: vR a :: st) h = Ev d 4 37 ls st (sR h a j.toNatClampNeg (some v)) := RastA hB_4 dX1_init_36 hS hj hv
theorem v4_37 {d : Nat} {st : List MV} {h : Hp} {x : Int32} {a0 : Option MV} : Ev d 4 37 [a0, some (vI x)] st h = Ev d 4 40 [a0, some (vI (x + 1))] st h := Rnx (hB_4) (dX1_init_37) rfl
theorem v4_40 {d : Nat} {ls : LS3} {st : List MV} {h : Hp} : Ev d 4 40 ls st h = Ev d 4 15 ls st h := Rnx (hB_4) (dX1_init_40) rfl
theorem v4_43 {d : Nat} {ls : LS3} {h : Hp} : Ev d 4 43 ls [] h = some (.inl none, h) := Rdn hB_4 dX1_init_43 rfl
theorem hB_5 : mB 5 = cX1_forget := rfl
theorem v5_0 {d : Nat} {st : List MV} {h : Hp} {x : Option A3} : Ev d 5 0 [some (vO x)] st h = Ev d 5 1 [some (vO x)] (vO x :: st) h := Rnx (hB_5) (dX1_forget_0) rfl
theorem v5_1 {d : Nat} {ls : LS3} {st : List MV} {h : Hp} : Ev d 5 1 ls st h = Ev d 5 2 ls (vI 0 :: st) h := Rnx (hB_5) (dX1_forget_1) rfl
set_option maxRecDepth 100000 in
theorem v5_2 {d : Nat} {ls : LS3} {st : List MV} {h : Hp} {a : A3} {x : Int32} (hS : gS h a = (1, 1)) : Ev d 5 2 ls (vI x :: vR a :: st) h = Ev d 5 5 ls st (sI h a 2 x) := RputI hB_5 dX1_forget_2 rfl rfl (by decide) hS (Or.inl rfl)
theorem v5_5 {d : Nat} {ls : LS3} {h : Hp} : Ev d 5 5 ls [] h = some (.inl none, h) := Rdn hB_5 dX1_forget_5 rfl
theorem hB_6 : mB 6 = cX1_remember := rfl
theorem v6_0 {d : Nat} {st : List MV} {h : Hp} {x : Option A3} {a1 : Option MV} : Ev d 6 0 [some (vO x), a1] st h = Ev d 6 1 [some (vO x), a1] (vO x :: st) h := Rnx (hB_6) (dX1_remember_0) rfl
theorem v6_1 {d : Nat} {st : List MV} {h : Hp} {x : Option A3} {a0 : Option MV} : Ev d 6 1 [a0, some (vO x)] st h = Ev d 6 2 [a0, some (vO x)] (vO x :: st) h := Rnx (hB_6) (dX1_remember_1) rfl
set_option maxRecDepth 100000 in
theorem v6_2 {d : Nat} {ls : LS3} {st : List MV} {h : Hp} {a : A3} {o0 : Option A3} (hS : gS h a = (1, 1)) (hc : catS st ≤ 8) : Ev (d + 1) 6 2 ls (vO o0 :: vR a :: st) h = Evk 7 (d + 1) 6 2 ls st (Ev d 7 0 [some (vR a), some (vO o0)] [] h) := RcallO (idx := 22) (n := 1) (kd := 0) (As' := [vO o0]) hB_6 dX1_remember_2 rfl rfl (by decide) rfl rfl (Or.inl hS) rfl hc
theorem v6_5 {d : Nat} {st : List MV} {h : Hp} {x : Option A3} {a1 : Option MV} : Ev d 6 5 [some (vO x), a1] st h = Ev d 6 6 [some (vO x), a1] (vO x :: st) h := Rnx (hB_6) (dX1_remember_5) rfl
set_option maxRecDepth 100000 in
theorem v6_6 {d : Nat} {ls : LS3} {st : List MV} {h : Hp} {a : A3}  (hS : gS h a = (1, 1)) (hc : catS st ≤ 8) : Ev (d + 1) 6 6 ls (vR a :: st) h = Evk 8 (d + 1) 6 6 ls st (Ev d 8 0 [some (vR a)] [] h) := RcallO (idx := 26) (n := 0) (kd := 0) (As' := []) hB_6 dX1_remember_6 rfl rfl (by decide) rfl rfl (Or.inl hS) rfl hc
theorem v6_9 {d : Nat} {ls : LS3} {h : Hp} : Ev d 6 9 ls [] h = some (.inl none, h) := Rdn hB_6 dX1_remember_9 rfl
theorem hB_7 : mB 7 = cX1_prepare := rfl
theorem v7_0 {d : Nat} {st : List MV} {h : Hp} {x : Option A3} {a1 : Option MV} : Ev d 7 0 [some (vO x), a1] st h = Ev d 7 1 [some (vO x), a1] (vO x :: st) h := Rnx (hB_7) (dX1_prepare_0) rfl
set_option maxRecDepth 100000 in
theorem v7_1 {d : Nat} {ls : LS3} {st : List MV} {h : Hp} {a : A3} (hS : gS h a = (1, 1)) : Ev d 7 1 ls (vR a :: st) h = Ev d 7 4 ls (vO (gR h a 0) :: st) h := Rget hB_7 dX1_prepare_1 rfl (Or.inl hS)
theorem v7_4 {d : Nat} {st : List MV} {h : Hp} {x : Option A3} {a1 : Option MV} : Ev d 7 4 [some (vO x), a1] st h = Ev d 7 5 [some (vO x), a1] (vO x :: st) h := Rnx (hB_7) (dX1_prepare_4) rfl
set_option maxRecDepth 100000 in
theorem v7_5 {d : Nat} {ls : LS3} {st : List MV} {h : Hp} {a : A3}  (hS : gS h a = (1, 1)) (hc : catS st ≤ 8) : Ev (d + 1) 7 5 ls (vR a :: st) h = Evk 11 (d + 1) 7 5 ls st (Ev d 11 0 [some (vR a)] [] h) := RcallO (idx := 29) (n := 0) (kd := 0) (As' := []) hB_7 dX1_prepare_5 rfl rfl (by decide) rfl rfl (Or.inl hS) rfl hc
theorem v7_8 {d : Nat} {ls : LS3} {st : List MV} {h : Hp} {a : A3} {j : Int32} (hS : (gS h a).1 ∈ [6, 7, 8]) (hj : inB j (gS h a).2) : Ev d 7 8 ls (vI j :: vR a :: st) h = Ev d 7 9 ls (vO (gR h a j.toNatClampNeg) :: st) h := Rald (ks := [6, 7, 8]) (f := fun a j => vO (gR h a j)) hB_7 dX1_prepare_8 rfl hS hj
theorem v7_9 {d : Nat} {st : List MV} {h : Hp} {x : Option A3} {a0 : Option MV} : Ev d 7 9 [a0, some (vO x)] st h = Ev d 7 10 [a0, some (vO x)] (vO x :: st) h := Rnx (hB_7) (dX1_prepare_9) rfl
set_option maxRecDepth 100000 in
theorem v7_10 {d : Nat} {ls : LS3} {st : List MV} {h : Hp} {a : A3} {o0 : Option A3} (hS : gS h a = (1, 4)) (hc : catS st ≤ 8) : Ev (d + 1) 7 10 ls (vO o0 :: vR a :: st) h = Evk 32 (d + 1) 7 10 ls st (Ev d 32 0 [some (vR a), some (vO o0), none] [] h) := RcallO (idx := 33) (n := 1) (kd := 0) (As' := [vO o0]) hB_7 dX1_prepare_10 rfl rfl (by decide) rfl rfl (Or.inl hS) rfl hc
theorem v7_13 {d : Nat} {ls : LS3} {h : Hp} : Ev d 7 13 ls [] h = some (.inl none, h) := Rdn hB_7 dX1_prepare_13 rfl
theorem hB_8 : mB 8 = cX1_keep := rfl
theorem v8_0 {d : Nat} {st : List MV} {h : Hp} {x : Option A3} : Ev d 8 0 [some (vO x)] st h = Ev d 8 1 [some (vO x)] (vO x :: st) h := Rnx (hB_8) (dX1_keep_0) rfl
set_option maxRecDepth 100000 in
theorem v8_1 {d : Nat} {ls : LS3} {st : List MV} {h : Hp} {a : A3} (hS : gS h a = (1, 1)) : Ev d 8 1 ls (vR a :: st) h = Ev d 8 4 ls (vI (gI h a 2) :: st) h := Rget hB_8 dX1_keep_1 rfl (Or.inl hS)
theorem v8_4 {d : Nat} {ls : LS3} {st : List MV} {h : Hp} : Ev d 8 4 ls st h = Ev d 8 6 ls (vI 6 :: st) h := Rnx (hB_8) (dX1_keep_4) rfl
theorem v8_6 {d : Nat} {ls : LS3} {st : List MV} {h : Hp} {x y : Int32} : Ev d 8 6 ls (vI y :: vI x :: st) h = if y ≤ x then Ev d 8 22 ls st h else Ev d 8 9 ls st h := Rif hB_8 dX1_keep_6 rfl
theorem v8_9 {d : Nat} {st : List MV} {h : Hp} {x : Option A3} : Ev d 8 9 [some (vO x)] st h = Ev d 8 10 [some (vO x)] (vO x :: st) h := Rnx (hB_8) (dX1_keep_9) rfl
theorem v8_10 {d : Nat} {ls : LS3} {st : List MV} {h : Hp} {v : MV} (hv : cat1 v = true) : Ev d 8 10 ls (v :: st) h = Ev d 8 11 ls (v :: v :: st) h := Rdup hB_8 dX1_keep_10 hv
set_option maxRecDepth 100000 in
theorem v8_11 {d : Nat} {ls : LS3} {st : List MV} {h : Hp} {a : A3} (hS : gS h a = (1, 1)) : Ev d 8 11 ls (vR a :: st) h = Ev d 8 14 ls (vI (gI h a 2) :: st) h := Rget hB_8 dX1_keep_11 rfl (Or.inl hS)
theorem v8_14 {d : Nat} {ls : LS3} {st : List MV} {h : Hp} : Ev d 8 14 ls st h = Ev d 8 15 ls (vI 1 :: st) h := Rnx (hB_8) (dX1_keep_14) rfl
theorem v8_15 {d : Nat} {ls : LS3} {st : List MV} {h : Hp} {x y : Int32} : Ev d 8 15 ls (vI y :: vI x :: st) h = Ev d 8 16 ls (vI (x + y) :: st) h := Rnx (hB_8) (dX1_keep_15) rfl
set_option maxRecDepth 100000 in
theorem v8_16 {d : Nat} {ls : LS3} {st : List MV} {h : Hp} {a : A3} {x : Int32} (hS : gS h a = (1, 1)) : Ev d 8 16 ls (vI x :: vR a :: st) h = Ev d 8 19 ls st (sI h a 2 x) := RputI hB_8 dX1_keep_16 rfl rfl (by decide) hS (Or.inl rfl)
theorem v8_19 {d : Nat} {ls : LS3} {st : List MV} {h : Hp} : Ev d 8 19 ls st h = Ev d 8 35 ls st h := Rnx (hB_8) (dX1_keep_19) rfl
theorem v8_22 {d : Nat} {st : List MV} {h : Hp} {x : Option A3} : Ev d 8 22 [some (vO x)] st h = Ev d 8 23 [some (vO x)] (vO x :: st) h := Rnx (hB_8) (dX1_keep_22) rfl
theorem v8_23 {d : Nat} {st : List MV} {h : Hp} {x : Option A3} : Ev d 8 23 [some (vO x)] st h = Ev d 8 24 [some (vO x)] (vO x :: st) h := Rnx (hB_8) (dX1_keep_23) rfl
set_option maxRecDepth 100000 in
theorem v8_24 {d : Nat} {ls : LS3} {st : List MV} {h : Hp} {a : A3} (hS : gS h a = (1, 1)) : Ev d 8 24 ls (vR a :: st) h = Ev d 8 27 ls (vI (gI h a 1) :: st) h := Rget hB_8 dX1_keep_24 rfl (Or.inl hS)
theorem v8_27 {d : Nat} {ls : LS3} {st : List MV} {h : Hp} : Ev d 8 27 ls st h = Ev d 8 28 ls (vI 1 :: st) h := Rnx (hB_8) (dX1_keep_27) rfl
theorem v8_28 {d : Nat} {ls : LS3} {st : List MV} {h : Hp} {x y : Int32} : Ev d 8 28 ls (vI y :: vI x :: st) h = Ev d 8 29 ls (vI (x + y) :: st) h := Rnx (hB_8) (dX1_keep_28) rfl
theorem v8_29 {d : Nat} {ls : LS3} {st : List MV} {h : Hp} : Ev d 8 29 ls st h = Ev d 8 31 ls (vI 7 :: st) h := Rnx (hB_8) (dX1_keep_29) rfl
theorem v8_31 {d : Nat} {ls : LS3} {st : List MV} {h : Hp} {x y : Int32} (hy : y ≠ 0) : Ev d 8 31 ls (vI y :: vI x :: st) h = Ev d 8 32 ls (vI (x - x / y * y) :: st) h := Rrem hB_8 dX1_keep_31 hy
set_option maxRecDepth 100000 in
theorem v8_32 {d : Nat} {ls : LS3} {st : List MV} {h : Hp} {a : A3} {x : Int32} (hS : gS h a = (1, 1)) : Ev d 8 32 ls (vI x :: vR a :: st) h = Ev d 8 35 ls st (sI h a 1 x) := RputI hB_8 dX1_keep_32 rfl rfl (by decide) hS (Or.inl rfl)
theorem v8_35 {d : Nat} {ls : LS3} {h : Hp} : Ev d 8 35 ls [] h = some (.inl none, h) := Rdn hB_8 dX1_keep_35 rfl
theorem hB_9 : mB 9 = cX1_giveBack := rfl
theorem v9_0 {d : Nat} {st : List MV} {h : Hp} {x : Option A3} {a0 : Option MV} : Ev d 9 0 [a0, some (vO x)] st h = Ev d 9 1 [a0, some (vO x)] (vO x :: st) h := Rnx (hB_9) (dX1_giveBack_0) rfl
theorem v9_1 {d : Nat} {st : List MV} {h : Hp} {x : Option A3} {a1 : Option MV} : Ev d 9 1 [some (vO x), a1] st h = Ev d 9 2 [some (vO x), a1] (vO x :: st) h := Rnx (hB_9) (dX1_giveBack_1) rfl
set_option maxRecDepth 100000 in
theorem v9_2 {d : Nat} {ls : LS3} {st : List MV} {h : Hp} {a : A3} (hS : gS h a = (1, 1)) : Ev d 9 2 ls (vR a :: st) h = Ev d 9 5 ls (vO (gR h a 0) :: st) h := Rget hB_9 dX1_giveBack_2 rfl (Or.inl hS)
theorem v9_5 {d : Nat} {st : List MV} {h : Hp} {x : Option A3} {a1 : Option MV} : Ev d 9 5 [some (vO x), a1] st h = Ev d 9 6 [some (vO x), a1] (vO x :: st) h := Rnx (hB_9) (dX1_giveBack_5) rfl
set_option maxRecDepth 100000 in
theorem v9_6 {d : Nat} {ls : LS3} {st : List MV} {h : Hp} {a : A3}  (hS : gS h a = (1, 1)) (hc : catS st ≤ 8) : Ev (d + 1) 9 6 ls (vR a :: st) h = Evk 11 (d + 1) 9 6 ls st (Ev d 11 0 [some (vR a)] [] h) := RcallO (idx := 29) (n := 0) (kd := 0) (As' := []) hB_9 dX1_giveBack_6 rfl rfl (by decide) rfl rfl (Or.inl hS) rfl hc
theorem v9_9 {d : Nat} {ls : LS3} {st : List MV} {h : Hp} {a : A3} {j : Int32} (hS : (gS h a).1 ∈ [6, 7, 8]) (hj : inB j (gS h a).2) : Ev d 9 9 ls (vI j :: vR a :: st) h = Ev d 9 10 ls (vO (gR h a j.toNatClampNeg) :: st) h := Rald (ks := [6, 7, 8]) (f := fun a j => vO (gR h a j)) hB_9 dX1_giveBack_9 rfl hS hj
set_option maxRecDepth 100000 in
theorem v9_10 {d : Nat} {ls : LS3} {st : List MV} {h : Hp} {a : A3} {o0 : Option A3} (hS : gS h a = (1, 4)) (hc : catS st ≤ 8) : Ev (d + 1) 9 10 ls (vO o0 :: vR a :: st) h = Evk 32 (d + 1) 9 10 ls st (Ev d 32 0 [some (vR a), some (vO o0), none] [] h) := RcallO (idx := 33) (n := 1) (kd := 0) (As' := [vO o0]) hB_9 dX1_giveBack_10 rfl rfl (by decide) rfl rfl (Or.inl hS) rfl hc
theorem v9_13 {d : Nat} {ls : LS3} {h : Hp} : Ev d 9 13 ls [] h = some (.inl none, h) := Rdn hB_9 dX1_giveBack_13 rfl
theorem hB_10 : mB 10 = cX1_takeBackLatest := rfl
theorem v10_0 {d : Nat} {st : List MV} {h : Hp} {x : Option A3} {a1 : Option MV} : Ev d 10 0 [some (vO x), a1] st h = Ev d 10 1 [some (vO x), a1] (vO x :: st) h := Rnx (hB_10) (dX1_takeBackLatest_0) rfl
set_option maxRecDepth 100000 in
theorem v10_1 {d : Nat} {ls : LS3} {st : List MV} {h : Hp} {a : A3} (hS : gS h a = (1, 1)) : Ev d 10 1 ls (vR a :: st) h = Ev d 10 4 ls (vI (gI h a 2) :: st) h := Rget hB_10 dX1_takeBackLatest_1 rfl (Or.inl hS)
theorem v10_4 {d : Nat} {ls : LS3} {st : List MV} {h : Hp} {x : Int32} : Ev d 10 4 ls (vI x :: st) h = if x ≤ 0 then Ev d 10 22 ls st h else Ev d 10 7 ls st h := Rif hB_10 dX1_takeBackLatest_4 rfl
theorem v10_7 {d : Nat} {st : List MV} {h : Hp} {x : Option A3} {a1 : Option MV} : Ev d 10 7 [some (vO x), a1] st h = Ev d 10 8 [some (vO x), a1] (vO x :: st) h := Rnx (hB_10) (dX1_takeBackLatest_7) rfl
theorem v10_8 {d : Nat} {ls : LS3} {st : List MV} {h : Hp} {v : MV} (hv : cat1 v = true) : Ev d 10 8 ls (v :: st) h = Ev d 10 9 ls (v :: v :: st) h := Rdup hB_10 dX1_takeBackLatest_8 hv
set_option maxRecDepth 100000 in
theorem v10_9 {d : Nat} {ls : LS3} {st : List MV} {h : Hp} {a : A3} (hS : gS h a = (1, 1)) : Ev d 10 9 ls (vR a :: st) h = Ev d 10 12 ls (vI (gI h a 2) :: st) h := Rget hB_10 dX1_takeBackLatest_9 rfl (Or.inl hS)
theorem v10_12 {d : Nat} {ls : LS3} {st : List MV} {h : Hp} : Ev d 10 12 ls st h = Ev d 10 13 ls (vI 1 :: st) h := Rnx (hB_10) (dX1_takeBackLatest_12) rfl
theorem v10_13 {d : Nat} {ls : LS3} {st : List MV} {h : Hp} {x y : Int32} : Ev d 10 13 ls (vI y :: vI x :: st) h = Ev d 10 14 ls (vI (x - y) :: st) h := Rnx (hB_10) (dX1_takeBackLatest_13) rfl
set_option maxRecDepth 100000 in
theorem v10_14 {d : Nat} {ls : LS3} {st : List MV} {h : Hp} {a : A3} {x : Int32} (hS : gS h a = (1, 1)) : Ev d 10 14 ls (vI x :: vR a :: st) h = Ev d 10 17 ls st (sI h a 2 x) := RputI hB_10 dX1_takeBackLatest_14 rfl rfl (by decide) hS (Or.inl rfl)
theorem v10_17 {d : Nat} {st : List MV} {h : Hp} {x : Option A3} {a1 : Option MV} : Ev d 10 17 [some (vO x), a1] st h = Ev d 10 18 [some (vO x), a1] (vO x :: st) h := Rnx (hB_10) (dX1_takeBackLatest_17) rfl
theorem v10_18 {d : Nat} {st : List MV} {h : Hp} {x : Option A3} {a0 : Option MV} : Ev d 10 18 [a0, some (vO x)] st h = Ev d 10 19 [a0, some (vO x)] (vO x :: st) h := Rnx (hB_10) (dX1_takeBackLatest_18) rfl
set_option maxRecDepth 100000 in
theorem v10_19 {d : Nat} {ls : LS3} {st : List MV} {h : Hp} {a : A3} {o0 : Option A3} (hS : gS h a = (1, 1)) (hc : catS st ≤ 8) : Ev (d + 1) 10 19 ls (vO o0 :: vR a :: st) h = Evk 9 (d + 1) 10 19 ls st (Ev d 9 0 [some (vR a), some (vO o0)] [] h) := RcallO (idx := 39) (n := 1) (kd := 0) (As' := [vO o0]) hB_10 dX1_takeBackLatest_19 rfl rfl (by decide) rfl rfl (Or.inl hS) rfl hc
theorem v10_22 {d : Nat} {ls : LS3} {h : Hp} : Ev d 10 22 ls [] h = some (.inl none, h) := Rdn hB_10 dX1_takeBackLatest_22 rfl
theorem hB_11 : mB 11 = cX1_indexBehind := rfl
theorem v11_0 {d : Nat} {st : List MV} {h : Hp} {x : Option A3} : Ev d 11 0 [some (vO x)] st h = Ev d 11 1 [some (vO x)] (vO x :: st) h := Rnx (hB_11) (dX1_indexBehind_0) rfl
set_option maxRecDepth 100000 in
theorem v11_1 {d : Nat} {ls : LS3} {st : List MV} {h : Hp} {a : A3} (hS : gS h a = (1, 1)) : Ev d 11 1 ls (vR a :: st) h = Ev d 11 4 ls (vI (gI h a 1) :: st) h := Rget hB_11 dX1_indexBehind_1 rfl (Or.inl hS)
theorem v11_4 {d : Nat} {st : List MV} {h : Hp} {x : Option A3} : Ev d 11 4 [some (vO x)] st h = Ev d 11 5 [some (vO x)] (vO x :: st) h := Rnx (hB_11) (dX1_indexBehind_4) rfl
set_option maxRecDepth 100000 in
theorem v11_5 {d : Nat} {ls : LS3} {st : List MV} {h : Hp} {a : A3} (hS : gS h a = (1, 1)) : Ev d 11 5 ls (vR a :: st) h = Ev d 11 8 ls (vI (gI h a 2) :: st) h := Rget hB_11 dX1_indexBehind_5 rfl (Or.inl hS)
theorem v11_8 {d : Nat} {ls : LS3} {st : List MV} {h : Hp} {x y : Int32} : Ev d 11 8 ls (vI y :: vI x :: st) h = Ev d 11 9 ls (vI (x + y) :: st) h := Rnx (hB_11) (dX1_indexBehind_8) rfl
theorem v11_9 {d : Nat} {ls : LS3} {st : List MV} {h : Hp} : Ev d 11 9 ls st h = Ev d 11 11 ls (vI 7 :: st) h := Rnx (hB_11) (dX1_indexBehind_9) rfl
theorem v11_11 {d : Nat} {ls : LS3} {st : List MV} {h : Hp} {x y : Int32} (hy : y ≠ 0) : Ev d 11 11 ls (vI y :: vI x :: st) h = Ev d 11 12 ls (vI (x - x / y * y) :: st) h := Rrem hB_11 dX1_indexBehind_11 hy
theorem v11_12 {d : Nat} {ls : LS3} {h : Hp} {x : Int32} : Ev d 11 12 ls [vI x] h = some (.inl (some (vI x)), h) := Rdn hB_11 dX1_indexBehind_12 rfl
theorem hB_12 : mB 12 = cX2_init := rfl
theorem v12_0 {d : Nat} {st : List MV} {h : Hp} {x : Option A3} : Ev d 12 0 [some (vO x)] st h = Ev d 12 1 [some (vO x)] (vO x :: st) h := Rnx (hB_12) (dX2_init_0) rfl
set_option maxRecDepth 100000 in
theorem v12_1 {d : Nat} {ls : LS3} {st : List MV} {h : Hp} {a : A3} (hc : catS st ≤ 8) : Ev d 12 1 ls (vR a :: st) h = Ev d 12 4 ls st h := Robj hB_12 dX2_init_1 rfl hc
theorem v12_4 {d : Nat} {st : List MV} {h : Hp} {x : Option A3} : Ev d 12 4 [some (vO x)] st h = Ev d 12 5 [some (vO x)] (vO x :: st) h := Rnx (hB_12) (dX2_init_4) rfl
theorem v12_5 {d : Nat} {ls : LS3} {st : List MV} {h : Hp} : Ev d 12 5 ls st h = Ev d 12 7 ls (vI 60 :: st) h := Rnx (hB_12) (dX2_init_5) rfl
theorem v12_7 {d : Nat} {ls : LS3} {st : List MV} {h : Hp} {n : Int32} (hn : 0 ≤ n ∧ n.toNatClampNeg ≤ 100000) (hF : Fresh h) : Ev d 12 7 ls (vI n :: st) h = Ev d 12 9 ls (vR (nm (cnt h)) :: st) (mk h (nm (cnt h)) (3, n.toNatClampNeg) n.toNatClampNeg) := Rnewa hB_12 dX2_init_7 rfl hn hF
set_option maxRecDepth 100000 in
theorem v12_9 {d : Nat} {ls : LS3} {st : List MV} {h : Hp} {a : A3} {o : Option A3} (hS : gS h a = (1, 2)) : Ev d 12 9 ls (vO o :: vR a :: st) h = Ev d 12 12 ls st (sR h a 0 o) := RputR hB_12 dX2_init_9 rfl rfl (by decide) hS
theorem v12_12 {d : Nat} {st : List MV} {h : Hp} {x : Option A3} : Ev d 12 12 [some (vO x)] st h = Ev d 12 13 [some (vO x)] (vO x :: st) h := Rnx (hB_12) (dX2_init_12) rfl
theorem v12_13 {d : Nat} {ls : LS3} {st : List MV} {h : Hp} : Ev d 12 13 ls st h = Ev d 12 15 ls (vI 100 :: st) h := Rnx (hB_12) (dX2_init_13) rfl
theorem v12_15 {d : Nat} {ls : LS3} {st : List MV} {h : Hp} {n : Int32} (hn : 0 ≤ n ∧ n.toNatClampNeg ≤ 100000) (hF : Fresh h) : Ev d 12 15 ls (vI n :: st) h = Ev d 12 17 ls (vR (nm (cnt h)) :: st) (mk h (nm (cnt h)) (2, n.toNatClampNeg) n.toNatClampNeg) := Rnewa hB_12 dX2_init_15 rfl hn hF
set_option maxRecDepth 100000 in
theorem v12_17 {d : Nat} {ls : LS3} {st : List MV} {h : Hp} {a : A3} {o : Option A3} (hS : gS h a = (1, 2)) : Ev d 12 17 ls (vO o :: vR a :: st) h = Ev d 12 20 ls st (sR h a 1 o) := RputR hB_12 dX2_init_17 rfl rfl (by decide) hS
theorem v12_20 {d : Nat} {st : List MV} {h : Hp} {x : Option A3} : Ev d 12 20 [some (vO x)] st h = Ev d 12 21 [some (vO x)] (vO x :: st) h := Rnx (hB_12) (dX2_init_20) rfl
theorem v12_21 {d : Nat} {ls : LS3} {st : List MV} {h : Hp} : Ev d 12 21 ls st h = Ev d 12 23 ls (vR (42, 0, 0) :: st) h := Rnx (hB_12) (dX2_init_21) rfl
set_option maxRecDepth 100000 in
theorem v12_23 {d : Nat} {ls : LS3} {st : List MV} {h : Hp} {a : A3} {o : Option A3} (hS : gS h a = (1, 2)) : Ev d 12 23 ls (vO o :: vR a :: st) h = Ev d 12 26 ls st (sR h a 4 o) := RputR hB_12 dX2_init_23 rfl rfl (by decide) hS
theorem v12_26 {d : Nat} {ls : LS3} {h : Hp} : Ev d 12 26 ls [] h = some (.inl none, h) := Rdn hB_12 dX2_init_26 rfl
theorem hB_13 : mB 13 = cX2_take := rfl
theorem v13_0 {d : Nat} {st : List MV} {h : Hp} {x : Option A3} {a1 : Option MV} : Ev d 13 0 [some (vO x), a1] st h = Ev d 13 1 [some (vO x), a1] (vO x :: st) h := Rnx (hB_13) (dX2_take_0) rfl
set_option maxRecDepth 100000 in
theorem v13_1 {d : Nat} {ls : LS3} {st : List MV} {h : Hp} {a : A3} (hS : gS h a = (1, 2)) : Ev d 13 1 ls (vR a :: st) h = Ev d 13 4 ls (vI (gI h a 2) :: st) h := Rget hB_13 dX2_take_1 rfl (Or.inl hS)
theorem v13_4 {d : Nat} {st : List MV} {h : Hp} {x : Option A3} {a1 : Option MV} : Ev d 13 4 [some (vO x), a1] st h = Ev d 13 5 [some (vO x), a1] (vO x :: st) h := Rnx (hB_13) (dX2_take_4) rfl
set_option maxRecDepth 100000 in
theorem v13_5 {d : Nat} {ls : LS3} {st : List MV} {h : Hp} {a : A3} (hS : gS h a = (1, 2)) : Ev d 13 5 ls (vR a :: st) h = Ev d 13 8 ls (vO (gR h a 0) :: st) h := Rget hB_13 dX2_take_5 rfl (Or.inl hS)
theorem v13_8 {d : Nat} {ls : LS3} {st : List MV} {h : Hp} {a : A3} (hS : 2 ≤ (gS h a).1 ∧ (gS h a).1 ≤ 10) : Ev d 13 8 ls (vR a :: st) h = Ev d 13 9 ls (vI (Int32.ofNat (gS h a).2) :: st) h := Rlen hB_13 dX2_take_8 hS
theorem v13_9 {d : Nat} {ls : LS3} {st : List MV} {h : Hp} {x y : Int32} : Ev d 13 9 ls (vI y :: vI x :: st) h = if x < y then Ev d 13 14 ls st h else Ev d 13 12 ls st h := Rif hB_13 dX2_take_9 rfl
theorem v13_12 {d : Nat} {ls : LS3} {st : List MV} {h : Hp} : Ev d 13 12 ls st h = Ev d 13 13 ls (vI 0 :: st) h := Rnx (hB_13) (dX2_take_12) rfl
theorem v13_13 {d : Nat} {ls : LS3} {h : Hp} {x : Int32} (hx : x = 0 ∨ x = 1) : Ev d 13 13 ls [vI x] h = some (.inl (some (vI x)), h) := RretB hB_13 dX2_take_13 rfl hx
theorem v13_14 {d : Nat} {st : List MV} {h : Hp} {x : Option A3} {a1 : Option MV} : Ev d 13 14 [some (vO x), a1] st h = Ev d 13 15 [some (vO x), a1] (vO x :: st) h := Rnx (hB_13) (dX2_take_14) rfl
set_option maxRecDepth 100000 in
theorem v13_15 {d : Nat} {ls : LS3} {st : List MV} {h : Hp} {a : A3} (hS : gS h a = (1, 2)) : Ev d 13 15 ls (vR a :: st) h = Ev d 13 18 ls (vO (gR h a 0) :: st) h := Rget hB_13 dX2_take_15 rfl (Or.inl hS)
theorem v13_18 {d : Nat} {st : List MV} {h : Hp} {x : Option A3} {a1 : Option MV} : Ev d 13 18 [some (vO x), a1] st h = Ev d 13 19 [some (vO x), a1] (vO x :: st) h := Rnx (hB_13) (dX2_take_18) rfl
set_option maxRecDepth 100000 in
theorem v13_19 {d : Nat} {ls : LS3} {st : List MV} {h : Hp} {a : A3} (hS : gS h a = (1, 2)) : Ev d 13 19 ls (vR a :: st) h = Ev d 13 22 ls (vI (gI h a 2) :: st) h := Rget hB_13 dX2_take_19 rfl (Or.inl hS)
theorem v13_22 {d : Nat} {st : List MV} {h : Hp} {x : Int32} {a0 : Option MV} : Ev d 13 22 [a0, some (vI x)] st h = Ev d 13 23 [a0, some (vI x)] (vI x :: st) h := Rnx (hB_13) (dX2_take_22) rfl
theorem v13_23 {d : Nat} {ls : LS3} {st : List MV} {h : Hp} {a : A3} {j : Int32} {x : Int32} (hS : (gS h a).1 = 3) (hj : inB j (gS h a).2) : Ev d 13 23 ls (vI x :: vI j :: vR a :: st) h = Ev d 13 24 ls st (sI h a j.toNatClampNeg (vp_nar .char x)) := RastC hB_13 dX2_take_23 hS hj
theorem v13_24 {d : Nat} {st : List MV} {h : Hp} {x : Option A3} {a1 : Option MV} : Ev d 13 24 [some (vO x), a1] st h = Ev d 13 25 [some (vO x), a1] (vO x :: st) h := Rnx (hB_13) (dX2_take_24) rfl
theorem v13_25 {d : Nat} {ls : LS3} {st : List MV} {h : Hp} {v : MV} (hv : cat1 v = true) : Ev d 13 25 ls (v :: st) h = Ev d 13 26 ls (v :: v :: st) h := Rdup hB_13 dX2_take_25 hv
set_option maxRecDepth 100000 in
theorem v13_26 {d : Nat} {ls : LS3} {st : List MV} {h : Hp} {a : A3} (hS : gS h a = (1, 2)) : Ev d 13 26 ls (vR a :: st) h = Ev d 13 29 ls (vI (gI h a 2) :: st) h := Rget hB_13 dX2_take_26 rfl (Or.inl hS)
theorem v13_29 {d : Nat} {ls : LS3} {st : List MV} {h : Hp} : Ev d 13 29 ls st h = Ev d 13 30 ls (vI 1 :: st) h := Rnx (hB_13) (dX2_take_29) rfl
theorem v13_30 {d : Nat} {ls : LS3} {st : List MV} {h : Hp} {x y : Int32} : Ev d 13 30 ls (vI y :: vI x :: st) h = Ev d 13 31 ls (vI (x + y) :: st) h := Rnx (hB_13) (dX2_take_30) rfl
set_option maxRecDepth 100000 in
theorem v13_31 {d : Nat} {ls : LS3} {st : List MV} {h : Hp} {a : A3} {x : Int32} (hS : gS h a = (1, 2)) : Ev d 13 31 ls (vI x :: vR a :: st) h = Ev d 13 34 ls st (sI h a 2 x) := RputI hB_13 dX2_take_31 rfl rfl (by decide) hS (Or.inl rfl)
theorem v13_34 {d : Nat} {ls : LS3} {st : List MV} {h : Hp} : Ev d 13 34 ls st h = Ev d 13 35 ls (vI 1 :: st) h := Rnx (hB_13) (dX2_take_34) rfl
theorem v13_35 {d : Nat} {ls : LS3} {h : Hp} {x : Int32} (hx : x = 0 ∨ x = 1) : Ev d 13 35 ls [vI x] h = some (.inl (some (vI x)), h) := RretB hB_13 dX2_take_35 rfl hx
theorem hB_14 : mB 14 = cX2_readOut := rfl
theorem v14_0 {d : Nat} {st : List MV} {h : Hp} {x : Option A3} {a1 a2 : Option MV} : Ev d 14 0 [some (vO x), a1, a2] st h = Ev d 14 1 [some (vO x), a1, a2] (vO x :: st) h := Rnx (hB_14) (dX2_readOut_0) rfl
set_option maxRecDepth 100000 in
theorem v14_1 {d : Nat} {ls : LS3} {st : List MV} {h : Hp} {a : A3} (hS : gS h a = (1, 2)) : Ev d 14 1 ls (vR a :: st) h = Ev d 14 4 ls (vI (gI h a 2) :: st) h := Rget hB_14 dX2_readOut_1 rfl (Or.inl hS)
theorem v14_4 {d : Nat} {st : List MV} {h : Hp} {x : Int32} {a0 a1 a2 : Option MV} : Ev d 14 4 [a0, a1, a2] (vI x :: st) h = Ev d 14 5 [a0, some (vI x), a2] st h := Rnx (hB_14) (dX2_readOut_4) rfl
theorem v14_5 {d : Nat} {st : List MV} {h : Hp} {x : Option A3} {a1 a2 : Option MV} : Ev d 14 5 [some (vO x), a1, a2] st h = Ev d 14 6 [some (vO x), a1, a2] (vO x :: st) h := Rnx (hB_14) (dX2_readOut_5) rfl
theorem v14_6 {d : Nat} {ls : LS3} {st : List MV} {h : Hp} : Ev d 14 6 ls st h = Ev d 14 7 ls (vI 0 :: st) h := Rnx (hB_14) (dX2_readOut_6) rfl
set_option maxRecDepth 100000 in
theorem v14_7 {d : Nat} {ls : LS3} {st : List MV} {h : Hp} {a : A3} {x : Int32} (hS : gS h a = (1, 2)) : Ev d 14 7 ls (vI x :: vR a :: st) h = Ev d 14 10 ls st (sI h a 2 x) := RputI hB_14 dX2_readOut_7 rfl rfl (by decide) hS (Or.inl rfl)
theorem v14_10 {d : Nat} {st : List MV} {h : Hp} {x : Option A3} {a1 a2 : Option MV} : Ev d 14 10 [some (vO x), a1, a2] st h = Ev d 14 11 [some (vO x), a1, a2] (vO x :: st) h := Rnx (hB_14) (dX2_readOut_10) rfl
theorem v14_11 {d : Nat} {ls : LS3} {st : List MV} {h : Hp} : Ev d 14 11 ls st h = Ev d 14 12 ls (vI 0 :: st) h := Rnx (hB_14) (dX2_readOut_11) rfl
set_option maxRecDepth 100000 in
theorem v14_12 {d : Nat} {ls : LS3} {st : List MV} {h : Hp} {a : A3} {x : Int32} (hS : gS h a = (1, 2)) : Ev d 14 12 ls (vI x :: vR a :: st) h = Ev d 14 15 ls st (sI h a 3 x) := RputI hB_14 dX2_readOut_12 rfl rfl (by decide) hS (Or.inl rfl)
theorem v14_15 {d : Nat} {st : List MV} {h : Hp} {x : Option A3} {a1 a2 : Option MV} : Ev d 14 15 [some (vO x), a1, a2] st h = Ev d 14 16 [some (vO x), a1, a2] (vO x :: st) h := Rnx (hB_14) (dX2_readOut_15) rfl
theorem v14_16 {d : Nat} {ls : LS3} {st : List MV} {h : Hp} : Ev d 14 16 ls st h = Ev d 14 18 ls (vR (42, 0, 0) :: st) h := Rnx (hB_14) (dX2_readOut_16) rfl
set_option maxRecDepth 100000 in
theorem v14_18 {d : Nat} {ls : LS3} {st : List MV} {h : Hp} {a : A3} {o : Option A3} (hS : gS h a = (1, 2)) : Ev d 14 18 ls (vO o :: vR a :: st) h = Ev d 14 21 ls st (sR h a 4 o) := RputR hB_14 dX2_readOut_18 rfl rfl (by decide) hS
theorem v14_21 {d : Nat} {ls : LS3} {st : List MV} {h : Hp} : Ev d 14 21 ls st h = Ev d 14 22 ls (vI 0 :: st) h := Rnx (hB_14) (dX2_readOut_21) rfl
theorem v14_22 {d : Nat} {st : List MV} {h : Hp} {x : Int32} {a0 a1 a2 : Option MV} : Ev d 14 22 [a0, a1, a2] (vI x :: st) h = Ev d 14 23 [a0, a1, some (vI x)] st h := Rnx (hB_14) (dX2_readOut_22) rfl
theorem v14_23 {d : Nat} {st : List MV} {h : Hp} {x : Int32} {a0 a1 : Option MV} : Ev d 14 23 [a0, a1, some (vI x)] st h = Ev d 14 24 [a0, a1, some (vI x)] (vI x :: st) h := Rnx (hB_14) (dX2_readOut_23) rfl
theorem v14_24 {d : Nat} {st : List MV} {h : Hp} {x : Int32} {a0 a2 : Option MV} : Ev d 14 24 [a0, some (vI x), a2] st h = Ev d 14 25 [a0, some (vI x), a2] (vI x :: st) h := Rnx (hB_14) (dX2_readOut_24) rfl
theorem v14_25 {d : Nat} {ls : LS3} {st : List MV} {h : Hp} {x y : Int32} : Ev d 14 25 ls (vI y :: vI x :: st) h = if y ≤ x then Ev d 14 49 ls st h else Ev d 14 28 ls st h := Rif hB_14 dX2_readOut_25 rfl
theorem v14_28 {d : Nat} {st : List MV} {h : Hp} {x : Option A3} {a1 a2 : Option MV} : Ev d 14 28 [some (vO x), a1, a2] st h = Ev d 14 29 [some (vO x), a1, a2] (vO x :: st) h := Rnx (hB_14) (dX2_readOut_28) rfl
theorem v14_29 {d : Nat} {st : List MV} {h : Hp} {x : Option A3} {a1 a2 : Option MV} : Ev d 14 29 [some (vO x), a1, a2] st h = Ev d 14 30 [some (vO x), a1, a2] (vO x :: st) h := Rnx (hB_14) (dX2_readOut_29) rfl
set_option maxRecDepth 100000 in
theorem v14_30 {d : Nat} {ls : LS3} {st : List MV} {h : Hp} {a : A3} (hS : gS h a = (1, 2)) : Ev d 14 30 ls (vR a :: st) h = Ev d 14 33 ls (vO (gR h a 0) :: st) h := Rget hB_14 dX2_readOut_30 rfl (Or.inl hS)
theorem v14_33 {d : Nat} {st : List MV} {h : Hp} {x : Int32} {a0 a1 : Option MV} : Ev d 14 33 [a0, a1, some (vI x)] st h = Ev d 14 34 [a0, a1, some (vI x)] (vI x :: st) h := Rnx (hB_14) (dX2_readOut_33) rfl
theorem v14_34 {d : Nat} {ls : LS3} {st : List MV} {h : Hp} {a : A3} {j : Int32} (hS : (gS h a).1 ∈ [3]) (hj : inB j (gS h a).2) : Ev d 14 34 ls (vI j :: vR a :: st) h = Ev d 14 35 ls (vI (gI h a j.toNatClampNeg) :: st) h := Rald (ks := [3]) (f := fun a j => vI (gI h a j)) hB_14 dX2_readOut_34 rfl hS hj
set_option maxRecDepth 100000 in
theorem v14_35 {d : Nat} {ls : LS3} {st : List MV} {h : Hp} {a : A3} {x0 : Int32} (hS : gS h a = (1, 2)) (hc : catS st ≤ 8) : Ev (d + 1) 14 35 ls (vI x0 :: vR a :: st) h = Evk 16 (d + 1) 14 35 ls st (Ev d 16 0 [some (vR a), some (vI x0)] [] h) := RcallO (idx := 32) (n := 1) (kd := 0) (As' := [vI x0]) hB_14 dX2_readOut_35 rfl rfl (by decide) rfl rfl (Or.inl hS) rfl hc
theorem v14_38 {d : Nat} {ls : LS3} {st : List MV} {h : Hp} {x : Int32} : Ev d 14 38 ls (vI x :: st) h = if x = 0 then Ev d 14 41 ls st h else Ev d 14 43 ls st h := Rifn hB_14 dX2_readOut_38 rfl
theorem v14_41 {d : Nat} {st : List MV} {h : Hp} {x : Int32} {a0 a1 : Option MV} : Ev d 14 41 [a0, a1, some (vI x)] st h = Ev d 14 42 [a0, a1, some (vI x)] (vI x :: st) h := Rnx (hB_14) (dX2_readOut_41) rfl
theorem v14_42 {d : Nat} {ls : LS3} {h : Hp} {x : Int32} : Ev d 14 42 ls [vI x] h = some (.inl (some (vI x)), h) := Rdn hB_14 dX2_readOut_42 rfl
theorem v14_43 {d : Nat} {st : List MV} {h : Hp} {x : Int32} {a0 a1 : Option MV} : Ev d 14 43 [a0, a1, some (vI x)] st h = Ev d 14 46 [a0, a1, some (vI (x + 1))] st h := Rnx (hB_14) (dX2_readOut_43) rfl
theorem v14_46 {d : Nat} {ls : LS3} {st : List MV} {h : Hp} : Ev d 14 46 ls st h = Ev d 14 23 ls st h := Rnx (hB_14) (dX2_readOut_46) rfl
theorem v14_49 {d : Nat} {st : List MV} {h : Hp} {x : Option A3} {a1 a2 : Option MV} : Ev d 14 49 [some (vO x), a1, a2] st h = Ev d 14 50 [some (vO x), a1, a2] (vO x :: st) h := Rnx (hB_14) (dX2_readOut_49) rfl
set_option maxRecDepth 100000 in
theorem v14_50 {d : Nat} {ls : LS3} {st : List MV} {h : Hp} {a : A3} (hS : gS h a = (1, 2)) : Ev d 14 50 ls (vR a :: st) h = Ev d 14 53 ls (vO (gR h a 4) :: st) h := Rget hB_14 dX2_readOut_50 rfl (Or.inl hS)
set_option maxRecDepth 100000 in
theorem v14_53 {d : Nat} {ls : LS3} {st : List MV} {h : Hp} {a : A3}  (hS : gS h a = (11, 10)) (hc : catS st ≤ 8) : Ev (d + 1) 14 53 ls (vR a :: st) h = Evk 236 (d + 1) 14 53 ls st (Ev d 236 0 [some (vR a)] [] h) := RcallO (idx := 36) (n := 0) (kd := 0) (As' := []) hB_14 dX2_readOut_53 rfl rfl (by decide) rfl rfl (Or.inr ⟨rfl, hS⟩) rfl hc
theorem v14_56 {d : Nat} {ls : LS3} {st : List MV} {h : Hp} {x : Int32} : Ev d 14 56 ls (vI x :: st) h = if x = 0 then Ev d 14 70 ls st h else Ev d 14 59 ls st h := Rif hB_14 dX2_readOut_56 rfl
theorem v14_59 {d : Nat} {st : List MV} {h : Hp} {x : Option A3} {a1 a2 : Option MV} : Ev d 14 59 [some (vO x), a1, a2] st h = Ev d 14 60 [some (vO x), a1, a2] (vO x :: st) h := Rnx (hB_14) (dX2_readOut_59) rfl
set_option maxRecDepth 100000 in
theorem v14_60 {d : Nat} {ls : LS3} {st : List MV} {h : Hp} {a : A3} (hS : gS h a = (1, 2)) : Ev d 14 60 ls (vR a :: st) h = Ev d 14 63 ls (vI (gI h a 3) :: st) h := Rget hB_14 dX2_readOut_60 rfl (Or.inl hS)
theorem v14_63 {d : Nat} {ls : LS3} {st : List MV} {h : Hp} {x : Int32} : Ev d 14 63 ls (vI x :: st) h = if x ≤ 0 then Ev d 14 70 ls st h else Ev d 14 66 ls st h := Rif hB_14 dX2_readOut_63 rfl
theorem v14_66 {d : Nat} {ls : LS3} {st : List MV} {h : Hp} : Ev d 14 66 ls st h = Ev d 14 67 ls (vI (-1) :: st) h := Rnx (hB_14) (dX2_readOut_66) rfl
theorem v14_67 {d : Nat} {ls : LS3} {st : List MV} {h : Hp} : Ev d 14 67 ls st h = Ev d 14 71 ls st h := Rnx (hB_14) (dX2_readOut_67) rfl
theorem v14_70 {d : Nat} {st : List MV} {h : Hp} {x : Int32} {a0 a2 : Option MV} : Ev d 14 70 [a0, some (vI x), a2] st h = Ev d 14 71 [a0, some (vI x), a2] (vI x :: st) h := Rnx (hB_14) (dX2_readOut_70) rfl
theorem v14_71 {d : Nat} {ls : LS3} {h : Hp} {x : Int32} : Ev d 14 71 ls [vI x] h = some (.inl (some (vI x)), h) := Rdn hB_14 dX2_readOut_71 rfl
theorem hB_15 : mB 15 = cX2_cell := rfl
theorem v15_0 {d : Nat} {st : List MV} {h : Hp} {x : Int32} {a0 a2 a3 : Option MV} : Ev d 15 0 [a0, some (vI x), a2, a3] st h = Ev d 15 1 [a0, some (vI x), a2, a3] (vI x :: st) h := Rnx (hB_15) (dX2_cell_0) rfl
theorem v15_1 {d : Nat} {ls : LS3} {st : List MV} {h : Hp} : Ev d 15 1 ls st h = Ev d 15 2 ls (vI 5 :: st) h := Rnx (hB_15) (dX2_cell_1) rfl
theorem v15_2 {d : Nat} {ls : LS3} {st : List MV} {h : Hp} {x y : Int32} : Ev d 15 2 ls (vI y :: vI x :: st) h = Ev d 15 3 ls (vI (x * y) :: st) h := Rnx (hB_15) (dX2_cell_2) rfl
theorem v15_3 {d : Nat} {st : List MV} {h : Hp} {x : Int32} {a0 a1 a3 : Option MV} : Ev d 15 3 [a0, a1, some (vI x), a3] st h = Ev d 15 4 [a0, a1, some (vI x), a3] (vI x :: st) h := Rnx (hB_15) (dX2_cell_3) rfl
theorem v15_4 {d : Nat} {ls : LS3} {st : List MV} {h : Hp} {x y : Int32} : Ev d 15 4 ls (vI y :: vI x :: st) h = Ev d 15 5 ls (vI (x + y) :: st) h := Rnx (hB_15) (dX2_cell_4) rfl
theorem v15_5 {d : Nat} {st : List MV} {h : Hp} {x : Int32} {a0 a1 a2 a3 : Option MV} : Ev d 15 5 [a0, a1, a2, a3] (vI x :: st) h = Ev d 15 6 [a0, a1, a2, some (vI x)] st h := Rnx (hB_15) (dX2_cell_5) rfl
theorem v15_6 {d : Nat} {st : List MV} {h : Hp} {x : Int32} {a0 a1 a2 : Option MV} : Ev d 15 6 [a0, a1, a2, some (vI x)] st h = Ev d 15 7 [a0, a1, a2, some (vI x)] (vI x :: st) h := Rnx (hB_15) (dX2_cell_6) rfl
theorem v15_7 {d : Nat} {ls : LS3} {st : List MV} {h : Hp} {x : Int32} : Ev d 15 7 ls (vI x :: st) h = if x < 0 then Ev d 15 28 ls st h else Ev d 15 10 ls st h := Rif hB_15 dX2_cell_7 rfl
theorem v15_10 {d : Nat} {st : List MV} {h : Hp} {x : Int32} {a0 a1 a2 : Option MV} : Ev d 15 10 [a0, a1, a2, some (vI x)] st h = Ev d 15 11 [a0, a1, a2, some (vI x)] (vI x :: st) h := Rnx (hB_15) (dX2_cell_10) rfl
theorem v15_11 {d : Nat} {st : List MV} {h : Hp} {x : Option A3} {a1 a2 a3 : Option MV} : Ev d 15 11 [some (vO x), a1, a2, a3] st h = Ev d 15 12 [some (vO x), a1, a2, a3] (vO x :: st) h := Rnx (hB_15) (dX2_cell_11) rfl
set_option maxRecDepth 100000 in
theorem v15_12 {d : Nat} {ls : LS3} {st : List MV} {h : Hp} {a : A3} (hS : gS h a = (1, 2)) : Ev d 15 12 ls (vR a :: st) h = Ev d 15 15 ls (vO (gR h a 1) :: st) h := Rget hB_15 dX2_cell_12 rfl (Or.inl hS)
theorem v15_15 {d : Nat} {ls : LS3} {st : List MV} {h : Hp} {a : A3} (hS : 2 ≤ (gS h a).1 ∧ (gS h a).1 ≤ 10) : Ev d 15 15 ls (vR a :: st) h = Ev d 15 16 ls (vI (Int32.ofNat (gS h a).2) :: st) h := Rlen hB_15 dX2_cell_15 hS
theorem v15_16 {d : Nat} {ls : LS3} {st : List MV} {h : Hp} {x y : Int32} : Ev d 15 16 ls (vI y :: vI x :: st) h = if y ≤ x then Ev d 15 28 ls st h else Ev d 15 19 ls st h := Rif hB_15 dX2_cell_16 rfl
theorem v15_19 {d : Nat} {st : List MV} {h : Hp} {x : Option A3} {a1 a2 a3 : Option MV} : Ev d 15 19 [some (vO x), a1, a2, a3] st h = Ev d 15 20 [some (vO x), a1, a2, a3] (vO x :: st) h := Rnx (hB_15) (dX2_cell_19) rfl
set_option maxRecDepth 100000 in
theorem v15_20 {d : Nat} {ls : LS3} {st : List MV} {h : Hp} {a : A3} (hS : gS h a = (1, 2)) : Ev d 15 20 ls (vR a :: st) h = Ev d 15 23 ls (vO (gR h a 1) :: st) h := Rget hB_15 dX2_cell_20 rfl (Or.inl hS)
theorem v15_23 {d : Nat} {st : List MV} {h : Hp} {x : Int32} {a0 a1 a2 : Option MV} : Ev d 15 23 [a0, a1, a2, some (vI x)] st h = Ev d 15 24 [a0, a1, a2, some (vI x)] (vI x :: st) h := Rnx (hB_15) (dX2_cell_23) rfl
theorem v15_24 {d : Nat} {ls : LS3} {st : List MV} {h : Hp} {a : A3} {j : Int32} (hS : (gS h a).1 ∈ [2, 9]) (hj : inB j (gS h a).2) : Ev d 15 24 ls (vI j :: vR a :: st) h = Ev d 15 25 ls (vI (gI h a j.toNatClampNeg) :: st) h := Rald (ks := [2, 9]) (f := fun a j => vI (gI h a j)) hB_15 dX2_cell_24 rfl hS hj
theorem v15_25 {d : Nat} {ls : LS3} {st : List MV} {h : Hp} : Ev d 15 25 ls st h = Ev d 15 29 ls st h := Rnx (hB_15) (dX2_cell_25) rfl
theorem v15_28 {d : Nat} {ls : LS3} {st : List MV} {h : Hp} : Ev d 15 28 ls st h = Ev d 15 29 ls (vI 0 :: st) h := Rnx (hB_15) (dX2_cell_28) rfl
theorem v15_29 {d : Nat} {ls : LS3} {h : Hp} {x : Int32} : Ev d 15 29 ls [vI x] h = some (.inl (some (vI x)), h) := Rdn hB_15 dX2_cell_29 rfl
theorem hB_16 : mB 16 = cX2_accept := rfl
theorem v16_0 {d : Nat} {st : List MV} {h : Hp} {x : Option A3} {a1 : Option MV} : Ev d 16 0 [some (vO x), a1] st h = Ev d 16 1 [some (vO x), a1] (vO x :: st) h := Rnx (hB_16) (dX2_accept_0) rfl
set_option maxRecDepth 100000 in
theorem v16_1 {d : Nat} {ls : LS3} {st : List MV} {h : Hp} {a : A3} (hS : gS h a = (1, 2)) : Ev d 16 1 ls (vR a :: st) h = Ev d 16 4 ls (vO (gR h a 4) :: st) h := Rget hB_16 dX2_accept_1 rfl (Or.inl hS)
set_option maxRecDepth 100000 in
theorem v16_4 {d : Nat} {ls : LS3} {st : List MV} {h : Hp} {a : A3}  (hS : gS h a = (11, 10)) (hc : catS st ≤ 8) : Ev (d + 1) 16 4 ls (vR a :: st) h = Evk 236 (d + 1) 16 4 ls st (Ev d 236 0 [some (vR a)] [] h) := RcallO (idx := 36) (n := 0) (kd := 0) (As' := []) hB_16 dX2_accept_4 rfl rfl (by decide) rfl rfl (Or.inr ⟨rfl, hS⟩) rfl hc
theorem v16_7 {d : Nat} {ls : LS3} {st : List MV} {h : Hp} {x : Int32} : Ev d 16 7 ls (vI x :: st) h = if x = 0 then Ev d 16 16 ls st h else Ev d 16 10 ls st h := Rif hB_16 dX2_accept_7 rfl
theorem v16_10 {d : Nat} {st : List MV} {h : Hp} {x : Option A3} {a1 : Option MV} : Ev d 16 10 [some (vO x), a1] st h = Ev d 16 11 [some (vO x), a1] (vO x :: st) h := Rnx (hB_16) (dX2_accept_10) rfl
theorem v16_11 {d : Nat} {st : List MV} {h : Hp} {x : Int32} {a0 : Option MV} : Ev d 16 11 [a0, some (vI x)] st h = Ev d 16 12 [a0, some (vI x)] (vI x :: st) h := Rnx (hB_16) (dX2_accept_11) rfl
set_option maxRecDepth 100000 in
theorem v16_12 {d : Nat} {ls : LS3} {st : List MV} {h : Hp} {a : A3} {x0 : Int32} (hS : gS h a = (1, 2)) (hc : catS st ≤ 8) : Ev (d + 1) 16 12 ls (vI x0 :: vR a :: st) h = Evk 17 (d + 1) 16 12 ls st (Ev d 17 0 [some (vR a), some (vI x0), none] [] h) := RcallO (idx := 42) (n := 1) (kd := 0) (As' := [vI x0]) hB_16 dX2_accept_12 rfl rfl (by decide) rfl rfl (Or.inl hS) rfl hc
theorem v16_15 {d : Nat} {ls : LS3} {h : Hp} {x : Int32} (hx : x = 0 ∨ x = 1) : Ev d 16 15 ls [vI x] h = some (.inl (some (vI x)), h) := RretB hB_16 dX2_accept_15 rfl hx
theorem v16_16 {d : Nat} {st : List MV} {h : Hp} {x : Int32} {a0 : Option MV} : Ev d 16 16 [a0, some (vI x)] st h = Ev d 16 17 [a0, some (vI x)] (vI x :: st) h := Rnx (hB_16) (dX2_accept_16) rfl
theorem v16_17 {d : Nat} {ls : LS3} {st : List MV} {h : Hp} : Ev d 16 17 ls st h = Ev d 16 19 ls (vI 48 :: st) h := Rnx (hB_16) (dX2_accept_17) rfl
theorem v16_19 {d : Nat} {ls : LS3} {st : List MV} {h : Hp} {x y : Int32} : Ev d 16 19 ls (vI y :: vI x :: st) h = if x < y then Ev d 16 37 ls st h else Ev d 16 22 ls st h := Rif hB_16 dX2_accept_19 rfl
theorem v16_22 {d : Nat} {st : List MV} {h : Hp} {x : Int32} {a0 : Option MV} : Ev d 16 22 [a0, some (vI x)] st h = Ev d 16 23 [a0, some (vI x)] (vI x :: st) h := Rnx (hB_16) (dX2_accept_22) rfl
theorem v16_23 {d : Nat} {ls : LS3} {st : List MV} {h : Hp} : Ev d 16 23 ls st h = Ev d 16 25 ls (vI 57 :: st) h := Rnx (hB_16) (dX2_accept_23) rfl
theorem v16_25 {d : Nat} {ls : LS3} {st : List MV} {h : Hp} {x y : Int32} : Ev d 16 25 ls (vI y :: vI x :: st) h = if y < x then Ev d 16 37 ls st h else Ev d 16 28 ls st h := Rif hB_16 dX2_accept_25 rfl
theorem v16_28 {d : Nat} {st : List MV} {h : Hp} {x : Option A3} {a1 : Option MV} : Ev d 16 28 [some (vO x), a1] st h = Ev d 16 29 [some (vO x), a1] (vO x :: st) h := Rnx (hB_16) (dX2_accept_28) rfl
theorem v16_29 {d : Nat} {st : List MV} {h : Hp} {x : Int32} {a0 : Option MV} : Ev d 16 29 [a0, some (vI x)] st h = Ev d 16 30 [a0, some (vI x)] (vI x :: st) h := Rnx (hB_16) (dX2_accept_29) rfl
theorem v16_30 {d : Nat} {ls : LS3} {st : List MV} {h : Hp} : Ev d 16 30 ls st h = Ev d 16 32 ls (vI 48 :: st) h := Rnx (hB_16) (dX2_accept_30) rfl
theorem v16_32 {d : Nat} {ls : LS3} {st : List MV} {h : Hp} {x y : Int32} : Ev d 16 32 ls (vI y :: vI x :: st) h = Ev d 16 33 ls (vI (x - y) :: st) h := Rnx (hB_16) (dX2_accept_32) rfl
set_option maxRecDepth 100000 in
theorem v16_33 {d : Nat} {ls : LS3} {st : List MV} {h : Hp} {a : A3} {x0 : Int32} (hS : gS h a = (1, 2)) (hc : catS st ≤ 8) : Ev (d + 1) 16 33 ls (vI x0 :: vR a :: st) h = Evk 19 (d + 1) 16 33 ls st (Ev d 19 0 [some (vR a), some (vI x0), none] [] h) := RcallO (idx := 45) (n := 1) (kd := 0) (As' := [vI x0]) hB_16 dX2_accept_33 rfl rfl (by decide) rfl rfl (Or.inl hS) rfl hc
theorem v16_36 {d : Nat} {ls : LS3} {h : Hp} {x : Int32} (hx : x = 0 ∨ x = 1) : Ev d 16 36 ls [vI x] h = some (.inl (some (vI x)), h) := RretB hB_16 dX2_accept_36 rfl hx
theorem v16_37 {d : Nat} {st : List MV} {h : Hp} {x : Option A3} {a1 : Option MV} : Ev d 16 37 [some (vO x), a1] st h = Ev d 16 38 [some (vO x), a1] (vO x :: st) h := Rnx (hB_16) (dX2_accept_37) rfl
set_option maxRecDepth 100000 in
theorem v16_38 {d : Nat} {ls : LS3} {st : List MV} {h : Hp} {a : A3} (hS : gS h a = (1, 2)) : Ev d 16 38 ls (vR a :: st) h = Ev d 16 41 ls (vI (gI h a 5) :: st) h := Rget hB_16 dX2_accept_38 rfl (Or.inl hS)
theorem v16_41 {d : Nat} {st : List MV} {h : Hp} {x : Option A3} {a1 : Option MV} : Ev d 16 41 [some (vO x), a1] st h = Ev d 16 42 [some (vO x), a1] (vO x :: st) h := Rnx (hB_16) (dX2_accept_41) rfl
set_option maxRecDepth 100000 in
theorem v16_42 {d : Nat} {ls : LS3} {st : List MV} {h : Hp} {a : A3} (hS : gS h a = (1, 2)) : Ev d 16 42 ls (vR a :: st) h = Ev d 16 45 ls (vO (gR h a 4) :: st) h := Rget hB_16 dX2_accept_42 rfl (Or.inl hS)
set_option maxRecDepth 100000 in
theorem v16_45 {d : Nat} {ls : LS3} {st : List MV} {h : Hp} {a : A3}  (hS : gS h a = (11, 10)) (hc : catS st ≤ 8) : Ev (d + 1) 16 45 ls (vR a :: st) h = Evk 235 (d + 1) 16 45 ls st (Ev d 235 0 [some (vR a)] [] h) := RcallO (idx := 52) (n := 0) (kd := 0) (As' := []) hB_16 dX2_accept_45 rfl rfl (by decide) rfl rfl (Or.inr ⟨rfl, hS⟩) rfl hc
theorem v16_48 {d : Nat} {ls : LS3} {st : List MV} {h : Hp} {x y : Int32} : Ev d 16 48 ls (vI y :: vI x :: st) h = if y ≤ x then Ev d 16 80 ls st h else Ev d 16 51 ls st h := Rif hB_16 dX2_accept_48 rfl
theorem v16_51 {d : Nat} {st : List MV} {h : Hp} {x : Option A3} {a1 : Option MV} : Ev d 16 51 [some (vO x), a1] st h = Ev d 16 52 [some (vO x), a1] (vO x :: st) h := Rnx (hB_16) (dX2_accept_51) rfl
set_option maxRecDepth 100000 in
theorem v16_52 {d : Nat} {ls : LS3} {st : List MV} {h : Hp} {a : A3} (hS : gS h a = (1, 2)) : Ev d 16 52 ls (vR a :: st) h = Ev d 16 55 ls (vO (gR h a 4) :: st) h := Rget hB_16 dX2_accept_52 rfl (Or.inl hS)
theorem v16_55 {d : Nat} {st : List MV} {h : Hp} {x : Option A3} {a1 : Option MV} : Ev d 16 55 [some (vO x), a1] st h = Ev d 16 56 [some (vO x), a1] (vO x :: st) h := Rnx (hB_16) (dX2_accept_55) rfl
set_option maxRecDepth 100000 in
theorem v16_56 {d : Nat} {ls : LS3} {st : List MV} {h : Hp} {a : A3} (hS : gS h a = (1, 2)) : Ev d 16 56 ls (vR a :: st) h = Ev d 16 59 ls (vI (gI h a 5) :: st) h := Rget hB_16 dX2_accept_56 rfl (Or.inl hS)
set_option maxRecDepth 100000 in
theorem v16_59 {d : Nat} {ls : LS3} {st : List MV} {h : Hp} {a : A3} {x0 : Int32} (hS : gS h a = (11, 10)) (hc : catS st ≤ 8) : Ev (d + 1) 16 59 ls (vI x0 :: vR a :: st) h = Evk 237 (d + 1) 16 59 ls st (Ev d 237 0 [some (vR a), some (vI x0)] [] h) := RcallO (idx := 55) (n := 1) (kd := 0) (As' := [vI x0]) hB_16 dX2_accept_59 rfl rfl (by decide) rfl rfl (Or.inr ⟨rfl, hS⟩) rfl hc
theorem v16_62 {d : Nat} {ls : LS3} {st : List MV} {h : Hp} : Ev d 16 62 ls st h = Ev d 16 64 ls (vI 57 :: st) h := Rnx (hB_16) (dX2_accept_62) rfl
theorem v16_64 {d : Nat} {ls : LS3} {st : List MV} {h : Hp} {x y : Int32} : Ev d 16 64 ls (vI y :: vI x :: st) h = if x = y then Ev d 16 67 ls st h else Ev d 16 80 ls st h := Rifn hB_16 dX2_accept_64 rfl
theorem v16_67 {d : Nat} {st : List MV} {h : Hp} {x : Option A3} {a1 : Option MV} : Ev d 16 67 [some (vO x), a1] st h = Ev d 16 68 [some (vO x), a1] (vO x :: st) h := Rnx (hB_16) (dX2_accept_67) rfl
theorem v16_68 {d : Nat} {ls : LS3} {st : List MV} {h : Hp} {v : MV} (hv : cat1 v = true) : Ev d 16 68 ls (v :: st) h = Ev d 16 69 ls (v :: v :: st) h := Rdup hB_16 dX2_accept_68 hv
set_option maxRecDepth 100000 in
theorem v16_69 {d : Nat} {ls : LS3} {st : List MV} {h : Hp} {a : A3} (hS : gS h a = (1, 2)) : Ev d 16 69 ls (vR a :: st) h = Ev d 16 72 ls (vI (gI h a 5) :: st) h := Rget hB_16 dX2_accept_69 rfl (Or.inl hS)
theorem v16_72 {d : Nat} {ls : LS3} {st : List MV} {h : Hp} : Ev d 16 72 ls st h = Ev d 16 73 ls (vI 1 :: st) h := Rnx (hB_16) (dX2_accept_72) rfl
theorem v16_73 {d : Nat} {ls : LS3} {st : List MV} {h : Hp} {x y : Int32} : Ev d 16 73 ls (vI y :: vI x :: st) h = Ev d 16 74 ls (vI (x + y) :: st) h := Rnx (hB_16) (dX2_accept_73) rfl
set_option maxRecDepth 100000 in
theorem v16_74 {d : Nat} {ls : LS3} {st : List MV} {h : Hp} {a : A3} {x : Int32} (hS : gS h a = (1, 2)) : Ev d 16 74 ls (vI x :: vR a :: st) h = Ev d 16 77 ls st (sI h a 5 x) := RputI hB_16 dX2_accept_74 rfl rfl (by decide) hS (Or.inl rfl)
theorem v16_77 {d : Nat} {ls : LS3} {st : List MV} {h : Hp} : Ev d 16 77 ls st h = Ev d 16 37 ls st h := Rnx (hB_16) (dX2_accept_77) rfl
theorem v16_80 {d : Nat} {st : List MV} {h : Hp} {x : Option A3} {a1 : Option MV} : Ev d 16 80 [some (vO x), a1] st h = Ev d 16 81 [some (vO x), a1] (vO x :: st) h := Rnx (hB_16) (dX2_accept_80) rfl
set_option maxRecDepth 100000 in
theorem v16_81 {d : Nat} {ls : LS3} {st : List MV} {h : Hp} {a : A3} (hS : gS h a = (1, 2)) : Ev d 16 81 ls (vR a :: st) h = Ev d 16 84 ls (vI (gI h a 5) :: st) h := Rget hB_16 dX2_accept_81 rfl (Or.inl hS)
theorem v16_84 {d : Nat} {st : List MV} {h : Hp} {x : Option A3} {a1 : Option MV} : Ev d 16 84 [some (vO x), a1] st h = Ev d 16 85 [some (vO x), a1] (vO x :: st) h := Rnx (hB_16) (dX2_accept_84) rfl
set_option maxRecDepth 100000 in
theorem v16_85 {d : Nat} {ls : LS3} {st : List MV} {h : Hp} {a : A3} (hS : gS h a = (1, 2)) : Ev d 16 85 ls (vR a :: st) h = Ev d 16 88 ls (vO (gR h a 4) :: st) h := Rget hB_16 dX2_accept_85 rfl (Or.inl hS)
set_option maxRecDepth 100000 in
theorem v16_88 {d : Nat} {ls : LS3} {st : List MV} {h : Hp} {a : A3}  (hS : gS h a = (11, 10)) (hc : catS st ≤ 8) : Ev (d + 1) 16 88 ls (vR a :: st) h = Evk 235 (d + 1) 16 88 ls st (Ev d 235 0 [some (vR a)] [] h) := RcallO (idx := 52) (n := 0) (kd := 0) (As' := []) hB_16 dX2_accept_88 rfl rfl (by decide) rfl rfl (Or.inr ⟨rfl, hS⟩) rfl hc
theorem v16_91 {d : Nat} {ls : LS3} {st : List MV} {h : Hp} {x y : Int32} : Ev d 16 91 ls (vI y :: vI x :: st) h = if y ≤ x then Ev d 16 109 ls st h else Ev d 16 94 ls st h := Rif hB_16 dX2_accept_91 rfl
theorem v16_94 {d : Nat} {st : List MV} {h : Hp} {x : Option A3} {a1 : Option MV} : Ev d 16 94 [some (vO x), a1] st h = Ev d 16 95 [some (vO x), a1] (vO x :: st) h := Rnx (hB_16) (dX2_accept_94) rfl
set_option maxRecDepth 100000 in
theorem v16_95 {d : Nat} {ls : LS3} {st : List MV} {h : Hp} {a : A3} (hS : gS h a = (1, 2)) : Ev d 16 95 ls (vR a :: st) h = Ev d 16 98 ls (vO (gR h a 4) :: st) h := Rget hB_16 dX2_accept_95 rfl (Or.inl hS)
theorem v16_98 {d : Nat} {st : List MV} {h : Hp} {x : Option A3} {a1 : Option MV} : Ev d 16 98 [some (vO x), a1] st h = Ev d 16 99 [some (vO x), a1] (vO x :: st) h := Rnx (hB_16) (dX2_accept_98) rfl
set_option maxRecDepth 100000 in
theorem v16_99 {d : Nat} {ls : LS3} {st : List MV} {h : Hp} {a : A3} (hS : gS h a = (1, 2)) : Ev d 16 99 ls (vR a :: st) h = Ev d 16 102 ls (vI (gI h a 5) :: st) h := Rget hB_16 dX2_accept_99 rfl (Or.inl hS)
set_option maxRecDepth 100000 in
theorem v16_102 {d : Nat} {ls : LS3} {st : List MV} {h : Hp} {a : A3} {x0 : Int32} (hS : gS h a = (11, 10)) (hc : catS st ≤ 8) : Ev (d + 1) 16 102 ls (vI x0 :: vR a :: st) h = Evk 237 (d + 1) 16 102 ls st (Ev d 237 0 [some (vR a), some (vI x0)] [] h) := RcallO (idx := 55) (n := 1) (kd := 0) (As' := [vI x0]) hB_16 dX2_accept_102 rfl rfl (by decide) rfl rfl (Or.inr ⟨rfl, hS⟩) rfl hc
theorem v16_105 {d : Nat} {st : List MV} {h : Hp} {x : Int32} {a0 : Option MV} : Ev d 16 105 [a0, some (vI x)] st h = Ev d 16 106 [a0, some (vI x)] (vI x :: st) h := Rnx (hB_16) (dX2_accept_105) rfl
theorem v16_106 {d : Nat} {ls : LS3} {st : List MV} {h : Hp} {x y : Int32} : Ev d 16 106 ls (vI y :: vI x :: st) h = if x = y then Ev d 16 111 ls st h else Ev d 16 109 ls st h := Rif hB_16 dX2_accept_106 rfl
theorem v16_109 {d : Nat} {ls : LS3} {st : List MV} {h : Hp} : Ev d 16 109 ls st h = Ev d 16 110 ls (vI 0 :: st) h := Rnx (hB_16) (dX2_accept_109) rfl
theorem v16_110 {d : Nat} {ls : LS3} {h : Hp} {x : Int32} (hx : x = 0 ∨ x = 1) : Ev d 16 110 ls [vI x] h = some (.inl (some (vI x)), h) := RretB hB_16 dX2_accept_110 rfl hx
theorem v16_111 {d : Nat} {st : List MV} {h : Hp} {x : Option A3} {a1 : Option MV} : Ev d 16 111 [some (vO x), a1] st h = Ev d 16 112 [some (vO x), a1] (vO x :: st) h := Rnx (hB_16) (dX2_accept_111) rfl
theorem v16_112 {d : Nat} {ls : LS3} {st : List MV} {h : Hp} {v : MV} (hv : cat1 v = true) : Ev d 16 112 ls (v :: st) h = Ev d 16 113 ls (v :: v :: st) h := Rdup hB_16 dX2_accept_112 hv
set_option maxRecDepth 100000 in
theorem v16_113 {d : Nat} {ls : LS3} {st : List MV} {h : Hp} {a : A3} (hS : gS h a = (1, 2)) : Ev d 16 113 ls (vR a :: st) h = Ev d 16 116 ls (vI (gI h a 5) :: st) h := Rget hB_16 dX2_accept_113 rfl (Or.inl hS)
theorem v16_116 {d : Nat} {ls : LS3} {st : List MV} {h : Hp} : Ev d 16 116 ls st h = Ev d 16 117 ls (vI 1 :: st) h := Rnx (hB_16) (dX2_accept_116) rfl
theorem v16_117 {d : Nat} {ls : LS3} {st : List MV} {h : Hp} {x y : Int32} : Ev d 16 117 ls (vI y :: vI x :: st) h = Ev d 16 118 ls (vI (x + y) :: st) h := Rnx (hB_16) (dX2_accept_117) rfl
set_option maxRecDepth 100000 in
theorem v16_118 {d : Nat} {ls : LS3} {st : List MV} {h : Hp} {a : A3} {x : Int32} (hS : gS h a = (1, 2)) : Ev d 16 118 ls (vI x :: vR a :: st) h = Ev d 16 121 ls st (sI h a 5 x) := RputI hB_16 dX2_accept_118 rfl rfl (by decide) hS (Or.inl rfl)
theorem v16_121 {d : Nat} {st : List MV} {h : Hp} {x : Option A3} {a1 : Option MV} : Ev d 16 121 [some (vO x), a1] st h = Ev d 16 122 [some (vO x), a1] (vO x :: st) h := Rnx (hB_16) (dX2_accept_121) rfl
theorem v16_122 {d : Nat} {ls : LS3} {st : List MV} {h : Hp} {v : MV} (hv : cat1 v = true) : Ev d 16 122 ls (v :: st) h = Ev d 16 123 ls (v :: v :: st) h := Rdup hB_16 dX2_accept_122 hv
set_option maxRecDepth 100000 in
theorem v16_123 {d : Nat} {ls : LS3} {st : List MV} {h : Hp} {a : A3} (hS : gS h a = (1, 2)) : Ev d 16 123 ls (vR a :: st) h = Ev d 16 126 ls (vI (gI h a 6) :: st) h := Rget hB_16 dX2_accept_123 rfl (Or.inl hS)
theorem v16_126 {d : Nat} {ls : LS3} {st : List MV} {h : Hp} : Ev d 16 126 ls st h = Ev d 16 127 ls (vI 1 :: st) h := Rnx (hB_16) (dX2_accept_126) rfl
theorem v16_127 {d : Nat} {ls : LS3} {st : List MV} {h : Hp} {x y : Int32} : Ev d 16 127 ls (vI y :: vI x :: st) h = Ev d 16 128 ls (vI (x + y) :: st) h := Rnx (hB_16) (dX2_accept_127) rfl
set_option maxRecDepth 100000 in
theorem v16_128 {d : Nat} {ls : LS3} {st : List MV} {h : Hp} {a : A3} {x : Int32} (hS : gS h a = (1, 2)) : Ev d 16 128 ls (vI x :: vR a :: st) h = Ev d 16 131 ls st (sI h a 6 x) := RputI hB_16 dX2_accept_128 rfl rfl (by decide) hS (Or.inl rfl)
theorem v16_131 {d : Nat} {st : List MV} {h : Hp} {x : Option A3} {a1 : Option MV} : Ev d 16 131 [some (vO x), a1] st h = Ev d 16 132 [some (vO x), a1] (vO x :: st) h := Rnx (hB_16) (dX2_accept_131) rfl
set_option maxRecDepth 100000 in
theorem v16_132 {d : Nat} {ls : LS3} {st : List MV} {h : Hp} {a : A3} (hS : gS h a = (1, 2)) : Ev d 16 132 ls (vR a :: st) h = Ev d 16 135 ls (vI (gI h a 5) :: st) h := Rget hB_16 dX2_accept_132 rfl (Or.inl hS)
theorem v16_135 {d : Nat} {st : List MV} {h : Hp} {x : Option A3} {a1 : Option MV} : Ev d 16 135 [some (vO x), a1] st h = Ev d 16 136 [some (vO x), a1] (vO x :: st) h := Rnx (hB_16) (dX2_accept_135) rfl
set_option maxRecDepth 100000 in
theorem v16_136 {d : Nat} {ls : LS3} {st : List MV} {h : Hp} {a : A3} (hS : gS h a = (1, 2)) : Ev d 16 136 ls (vR a :: st) h = Ev d 16 139 ls (vO (gR h a 4) :: st) h := Rget hB_16 dX2_accept_136 rfl (Or.inl hS)
set_option maxRecDepth 100000 in
theorem v16_139 {d : Nat} {ls : LS3} {st : List MV} {h : Hp} {a : A3}  (hS : gS h a = (11, 10)) (hc : catS st ≤ 8) : Ev (d + 1) 16 139 ls (vR a :: st) h = Evk 235 (d + 1) 16 139 ls st (Ev d 235 0 [some (vR a)] [] h) := RcallO (idx := 52) (n := 0) (kd := 0) (As' := []) hB_16 dX2_accept_139 rfl rfl (by decide) rfl rfl (Or.inr ⟨rfl, hS⟩) rfl hc
theorem v16_142 {d : Nat} {ls : LS3} {st : List MV} {h : Hp} {x y : Int32} : Ev d 16 142 ls (vI y :: vI x :: st) h = if x = y then Ev d 16 145 ls st h else Ev d 16 161 ls st h := Rifn hB_16 dX2_accept_142 rfl
theorem v16_145 {d : Nat} {st : List MV} {h : Hp} {x : Option A3} {a1 : Option MV} : Ev d 16 145 [some (vO x), a1] st h = Ev d 16 146 [some (vO x), a1] (vO x :: st) h := Rnx (hB_16) (dX2_accept_145) rfl
theorem v16_146 {d : Nat} {ls : LS3} {st : List MV} {h : Hp} : Ev d 16 146 ls st h = Ev d 16 148 ls (vR (42, 0, 0) :: st) h := Rnx (hB_16) (dX2_accept_146) rfl
set_option maxRecDepth 100000 in
theorem v16_148 {d : Nat} {ls : LS3} {st : List MV} {h : Hp} {a : A3} {o : Option A3} (hS : gS h a = (1, 2)) : Ev d 16 148 ls (vO o :: vR a :: st) h = Ev d 16 151 ls st (sR h a 4 o) := RputR hB_16 dX2_accept_148 rfl rfl (by decide) hS
theorem v16_151 {d : Nat} {st : List MV} {h : Hp} {x : Option A3} {a1 : Option MV} : Ev d 16 151 [some (vO x), a1] st h = Ev d 16 152 [some (vO x), a1] (vO x :: st) h := Rnx (hB_16) (dX2_accept_151) rfl
theorem v16_152 {d : Nat} {ls : LS3} {st : List MV} {h : Hp} {v : MV} (hv : cat1 v = true) : Ev d 16 152 ls (v :: st) h = Ev d 16 153 ls (v :: v :: st) h := Rdup hB_16 dX2_accept_152 hv
set_option maxRecDepth 100000 in
theorem v16_153 {d : Nat} {ls : LS3} {st : List MV} {h : Hp} {a : A3} (hS : gS h a = (1, 2)) : Ev d 16 153 ls (vR a :: st) h = Ev d 16 156 ls (vI (gI h a 3) :: st) h := Rget hB_16 dX2_accept_153 rfl (Or.inl hS)
theorem v16_156 {d : Nat} {ls : LS3} {st : List MV} {h : Hp} : Ev d 16 156 ls st h = Ev d 16 157 ls (vI 1 :: st) h := Rnx (hB_16) (dX2_accept_156) rfl
theorem v16_157 {d : Nat} {ls : LS3} {st : List MV} {h : Hp} {x y : Int32} : Ev d 16 157 ls (vI y :: vI x :: st) h = Ev d 16 158 ls (vI (x + y) :: st) h := Rnx (hB_16) (dX2_accept_157) rfl
set_option maxRecDepth 100000 in
theorem v16_158 {d : Nat} {ls : LS3} {st : List MV} {h : Hp} {a : A3} {x : Int32} (hS : gS h a = (1, 2)) : Ev d 16 158 ls (vI x :: vR a :: st) h = Ev d 16 161 ls st (sI h a 3 x) := RputI hB_16 dX2_accept_158 rfl rfl (by decide) hS (Or.inl rfl)
theorem v16_161 {d : Nat} {ls : LS3} {st : List MV} {h : Hp} : Ev d 16 161 ls st h = Ev d 16 162 ls (vI 1 :: st) h := Rnx (hB_16) (dX2_accept_161) rfl
theorem v16_162 {d : Nat} {ls : LS3} {h : Hp} {x : Int32} (hx : x = 0 ∨ x = 1) : Ev d 16 162 ls [vI x] h = some (.inl (some (vI x)), h) := RretB hB_16 dX2_accept_162 rfl hx
theorem hB_17 : mB 17 = cX2_open := rfl
theorem v17_0 {d : Nat} {st : List MV} {h : Hp} {x : Option A3} {a1 a2 : Option MV} : Ev d 17 0 [some (vO x), a1, a2] st h = Ev d 17 1 [some (vO x), a1, a2] (vO x :: st) h := Rnx (hB_17) (dX2_open_0) rfl
theorem v17_1 {d : Nat} {st : List MV} {h : Hp} {x : Int32} {a0 a2 : Option MV} : Ev d 17 1 [a0, some (vI x), a2] st h = Ev d 17 2 [a0, some (vI x), a2] (vI x :: st) h := Rnx (hB_17) (dX2_open_1) rfl
set_option maxRecDepth 100000 in
theorem v17_2 {d : Nat} {ls : LS3} {st : List MV} {h : Hp} {x0 : Int32} (hc : catS st ≤ 8) : Ev (d + 1) 17 2 ls (vI x0 :: st) h = Evk 18 (d + 1) 17 2 ls st (Ev d 18 0 [some (vI x0)] [] h) := RcallS (idx := 62) (n := 1) (kd := 1) (As := [vI x0]) hB_17 dX2_open_2 rfl rfl (by decide) rfl rfl rfl hc
set_option maxRecDepth 100000 in
theorem v17_5 {d : Nat} {ls : LS3} {st : List MV} {h : Hp} {a : A3} {o : Option A3} (hS : gS h a = (1, 2)) : Ev d 17 5 ls (vO o :: vR a :: st) h = Ev d 17 8 ls st (sR h a 4 o) := RputR hB_17 dX2_open_5 rfl rfl (by decide) hS
theorem v17_8 {d : Nat} {st : List MV} {h : Hp} {x : Option A3} {a1 a2 : Option MV} : Ev d 17 8 [some (vO x), a1, a2] st h = Ev d 17 9 [some (vO x), a1, a2] (vO x :: st) h := Rnx (hB_17) (dX2_open_8) rfl
set_option maxRecDepth 100000 in
theorem v17_9 {d : Nat} {ls : LS3} {st : List MV} {h : Hp} {a : A3} (hS : gS h a = (1, 2)) : Ev d 17 9 ls (vR a :: st) h = Ev d 17 12 ls (vO (gR h a 4) :: st) h := Rget hB_17 dX2_open_9 rfl (Or.inl hS)
set_option maxRecDepth 100000 in
theorem v17_12 {d : Nat} {ls : LS3} {st : List MV} {h : Hp} {a : A3}  (hS : gS h a = (11, 10)) (hc : catS st ≤ 8) : Ev (d + 1) 17 12 ls (vR a :: st) h = Evk 236 (d + 1) 17 12 ls st (Ev d 236 0 [some (vR a)] [] h) := RcallO (idx := 36) (n := 0) (kd := 0) (As' := []) hB_17 dX2_open_12 rfl rfl (by decide) rfl rfl (Or.inr ⟨rfl, hS⟩) rfl hc
theorem v17_15 {d : Nat} {ls : LS3} {st : List MV} {h : Hp} {x : Int32} : Ev d 17 15 ls (vI x :: st) h = if x = 0 then Ev d 17 18 ls st h else Ev d 17 27 ls st h := Rifn hB_17 dX2_open_15 rfl
theorem v17_18 {d : Nat} {st : List MV} {h : Hp} {x : Option A3} {a1 a2 : Option MV} : Ev d 17 18 [some (vO x), a1, a2] st h = Ev d 17 19 [some (vO x), a1, a2] (vO x :: st) h := Rnx (hB_17) (dX2_open_18) rfl
set_option maxRecDepth 100000 in
theorem v17_19 {d : Nat} {ls : LS3} {st : List MV} {h : Hp} {a : A3} (hS : gS h a = (1, 2)) : Ev d 17 19 ls (vR a :: st) h = Ev d 17 22 ls (vI (gI h a 3) :: st) h := Rget hB_17 dX2_open_19 rfl (Or.inl hS)
theorem v17_22 {d : Nat} {ls : LS3} {st : List MV} {h : Hp} : Ev d 17 22 ls st h = Ev d 17 24 ls (vI 20 :: st) h := Rnx (hB_17) (dX2_open_22) rfl
theorem v17_24 {d : Nat} {ls : LS3} {st : List MV} {h : Hp} {x y : Int32} : Ev d 17 24 ls (vI y :: vI x :: st) h = if x < y then Ev d 17 29 ls st h else Ev d 17 27 ls st h := Rif hB_17 dX2_open_24 rfl
theorem v17_27 {d : Nat} {ls : LS3} {st : List MV} {h : Hp} : Ev d 17 27 ls st h = Ev d 17 28 ls (vI 0 :: st) h := Rnx (hB_17) (dX2_open_27) rfl
theorem v17_28 {d : Nat} {ls : LS3} {h : Hp} {x : Int32} (hx : x = 0 ∨ x = 1) : Ev d 17 28 ls [vI x] h = some (.inl (some (vI x)), h) := RretB hB_17 dX2_open_28 rfl hx
theorem v17_29 {d : Nat} {ls : LS3} {st : List MV} {h : Hp} : Ev d 17 29 ls st h = Ev d 17 30 ls (vI 1 :: st) h := Rnx (hB_17) (dX2_open_29) rfl
theorem v17_30 {d : Nat} {st : List MV} {h : Hp} {x : Int32} {a0 a1 a2 : Option MV} : Ev d 17 30 [a0, a1, a2] (vI x :: st) h = Ev d 17 31 [a0, a1, some (vI x)] st h := Rnx (hB_17) (dX2_open_30) rfl
theorem v17_31 {d : Nat} {st : List MV} {h : Hp} {x : Int32} {a0 a1 : Option MV} : Ev d 17 31 [a0, a1, some (vI x)] st h = Ev d 17 32 [a0, a1, some (vI x)] (vI x :: st) h := Rnx (hB_17) (dX2_open_31) rfl
theorem v17_32 {d : Nat} {ls : LS3} {st : List MV} {h : Hp} : Ev d 17 32 ls st h = Ev d 17 33 ls (vI 5 :: st) h := Rnx (hB_17) (dX2_open_32) rfl
theorem v17_33 {d : Nat} {ls : LS3} {st : List MV} {h : Hp} {x y : Int32} : Ev d 17 33 ls (vI y :: vI x :: st) h = if y ≤ x then Ev d 17 56 ls st h else Ev d 17 36 ls st h := Rif hB_17 dX2_open_33 rfl
theorem v17_36 {d : Nat} {st : List MV} {h : Hp} {x : Option A3} {a1 a2 : Option MV} : Ev d 17 36 [some (vO x), a1, a2] st h = Ev d 17 37 [some (vO x), a1, a2] (vO x :: st) h := Rnx (hB_17) (dX2_open_36) rfl
set_option maxRecDepth 100000 in
theorem v17_37 {d : Nat} {ls : LS3} {st : List MV} {h : Hp} {a : A3} (hS : gS h a = (1, 2)) : Ev d 17 37 ls (vR a :: st) h = Ev d 17 40 ls (vO (gR h a 1) :: st) h := Rget hB_17 dX2_open_37 rfl (Or.inl hS)
theorem v17_40 {d : Nat} {st : List MV} {h : Hp} {x : Option A3} {a1 a2 : Option MV} : Ev d 17 40 [some (vO x), a1, a2] st h = Ev d 17 41 [some (vO x), a1, a2] (vO x :: st) h := Rnx (hB_17) (dX2_open_40) rfl
set_option maxRecDepth 100000 in
theorem v17_41 {d : Nat} {ls : LS3} {st : List MV} {h : Hp} {a : A3} (hS : gS h a = (1, 2)) : Ev d 17 41 ls (vR a :: st) h = Ev d 17 44 ls (vI (gI h a 3) :: st) h := Rget hB_17 dX2_open_41 rfl (Or.inl hS)
theorem v17_44 {d : Nat} {ls : LS3} {st : List MV} {h : Hp} : Ev d 17 44 ls st h = Ev d 17 45 ls (vI 5 :: st) h := Rnx (hB_17) (dX2_open_44) rfl
theorem v17_45 {d : Nat} {ls : LS3} {st : List MV} {h : Hp} {x y : Int32} : Ev d 17 45 ls (vI y :: vI x :: st) h = Ev d 17 46 ls (vI (x * y) :: st) h := Rnx (hB_17) (dX2_open_45) rfl
theorem v17_46 {d : Nat} {st : List MV} {h : Hp} {x : Int32} {a0 a1 : Option MV} : Ev d 17 46 [a0, a1, some (vI x)] st h = Ev d 17 47 [a0, a1, some (vI x)] (vI x :: st) h := Rnx (hB_17) (dX2_open_46) rfl
theorem v17_47 {d : Nat} {ls : LS3} {st : List MV} {h : Hp} {x y : Int32} : Ev d 17 47 ls (vI y :: vI x :: st) h = Ev d 17 48 ls (vI (x + y) :: st) h := Rnx (hB_17) (dX2_open_47) rfl
theorem v17_48 {d : Nat} {ls : LS3} {st : List MV} {h : Hp} : Ev d 17 48 ls st h = Ev d 17 49 ls (vI 0 :: st) h := Rnx (hB_17) (dX2_open_48) rfl
theorem v17_49 {d : Nat} {ls : LS3} {st : List MV} {h : Hp} {a : A3} {j : Int32} {x : Int32} (hS : (gS h a).1 = 2) (hj : inB j (gS h a).2) : Ev d 17 49 ls (vI x :: vI j :: vR a :: st) h = Ev d 17 50 ls st (sI h a j.toNatClampNeg x) := RastI hB_17 dX2_open_49 hS hj
theorem v17_50 {d : Nat} {st : List MV} {h : Hp} {x : Int32} {a0 a1 : Option MV} : Ev d 17 50 [a0, a1, some (vI x)] st h = Ev d 17 53 [a0, a1, some (vI (x + 1))] st h := Rnx (hB_17) (dX2_open_50) rfl
theorem v17_53 {d : Nat} {ls : LS3} {st : List MV} {h : Hp} : Ev d 17 53 ls st h = Ev d 17 31 ls st h := Rnx (hB_17) (dX2_open_53) rfl
theorem v17_56 {d : Nat} {st : List MV} {h : Hp} {x : Option A3} {a1 a2 : Option MV} : Ev d 17 56 [some (vO x), a1, a2] st h = Ev d 17 57 [some (vO x), a1, a2] (vO x :: st) h := Rnx (hB_17) (dX2_open_56) rfl
set_option maxRecDepth 100000 in
theorem v17_57 {d : Nat} {ls : LS3} {st : List MV} {h : Hp} {a : A3} (hS : gS h a = (1, 2)) : Ev d 17 57 ls (vR a :: st) h = Ev d 17 60 ls (vO (gR h a 1) :: st) h := Rget hB_17 dX2_open_57 rfl (Or.inl hS)
theorem v17_60 {d : Nat} {st : List MV} {h : Hp} {x : Option A3} {a1 a2 : Option MV} : Ev d 17 60 [some (vO x), a1, a2] st h = Ev d 17 61 [some (vO x), a1, a2] (vO x :: st) h := Rnx (hB_17) (dX2_open_60) rfl
set_option maxRecDepth 100000 in
theorem v17_61 {d : Nat} {ls : LS3} {st : List MV} {h : Hp} {a : A3} (hS : gS h a = (1, 2)) : Ev d 17 61 ls (vR a :: st) h = Ev d 17 64 ls (vI (gI h a 3) :: st) h := Rget hB_17 dX2_open_61 rfl (Or.inl hS)
theorem v17_64 {d : Nat} {ls : LS3} {st : List MV} {h : Hp} : Ev d 17 64 ls st h = Ev d 17 65 ls (vI 5 :: st) h := Rnx (hB_17) (dX2_open_64) rfl
theorem v17_65 {d : Nat} {ls : LS3} {st : List MV} {h : Hp} {x y : Int32} : Ev d 17 65 ls (vI y :: vI x :: st) h = Ev d 17 66 ls (vI (x * y) :: st) h := Rnx (hB_17) (dX2_open_65) rfl
theorem v17_66 {d : Nat} {st : List MV} {h : Hp} {x : Int32} {a0 a2 : Option MV} : Ev d 17 66 [a0, some (vI x), a2] st h = Ev d 17 67 [a0, some (vI x), a2] (vI x :: st) h := Rnx (hB_17) (dX2_open_66) rfl
theorem v17_67 {d : Nat} {ls : LS3} {st : List MV} {h : Hp} {a : A3} {j : Int32} {x : Int32} (hS : (gS h a).1 = 2) (hj : inB j (gS h a).2) : Ev d 17 67 ls (vI x :: vI j :: vR a :: st) h = Ev d 17 68 ls st (sI h a j.toNatClampNeg x) := RastI hB_17 dX2_open_67 hS hj
theorem v17_68 {d : Nat} {st : List MV} {h : Hp} {x : Option A3} {a1 a2 : Option MV} : Ev d 17 68 [some (vO x), a1, a2] st h = Ev d 17 69 [some (vO x), a1, a2] (vO x :: st) h := Rnx (hB_17) (dX2_open_68) rfl
theorem v17_69 {d : Nat} {ls : LS3} {st : List MV} {h : Hp} : Ev d 17 69 ls st h = Ev d 17 70 ls (vI 0 :: st) h := Rnx (hB_17) (dX2_open_69) rfl
set_option maxRecDepth 100000 in
theorem v17_70 {d : Nat} {ls : LS3} {st : List MV} {h : Hp} {a : A3} {x : Int32} (hS : gS h a = (1, 2)) : Ev d 17 70 ls (vI x :: vR a :: st) h = Ev d 17 73 ls st (sI h a 5 x) := RputI hB_17 dX2_open_70 rfl rfl (by decide) hS (Or.inl rfl)
theorem v17_73 {d : Nat} {st : List MV} {h : Hp} {x : Option A3} {a1 a2 : Option MV} : Ev d 17 73 [some (vO x), a1, a2] st h = Ev d 17 74 [some (vO x), a1, a2] (vO x :: st) h := Rnx (hB_17) (dX2_open_73) rfl
theorem v17_74 {d : Nat} {ls : LS3} {st : List MV} {h : Hp} : Ev d 17 74 ls st h = Ev d 17 75 ls (vI 1 :: st) h := Rnx (hB_17) (dX2_open_74) rfl
set_option maxRecDepth 100000 in
theorem v17_75 {d : Nat} {ls : LS3} {st : List MV} {h : Hp} {a : A3} {x : Int32} (hS : gS h a = (1, 2)) : Ev d 17 75 ls (vI x :: vR a :: st) h = Ev d 17 78 ls st (sI h a 6 x) := RputI hB_17 dX2_open_75 rfl rfl (by decide) hS (Or.inl rfl)
theorem v17_78 {d : Nat} {ls : LS3} {st : List MV} {h : Hp} : Ev d 17 78 ls st h = Ev d 17 79 ls (vI 1 :: st) h := Rnx (hB_17) (dX2_open_78) rfl
theorem v17_79 {d : Nat} {ls : LS3} {h : Hp} {x : Int32} (hx : x = 0 ∨ x = 1) : Ev d 17 79 ls [vI x] h = some (.inl (some (vI x)), h) := RretB hB_17 dX2_open_79 rfl hx
theorem hB_18 : mB 18 = cX2_formOf := rfl
theorem v18_0 {d : Nat} {st : List MV} {h : Hp} {x : Int32} : Ev d 18 0 [some (vI x)] st h = Ev d 18 1 [some (vI x)] (vI x :: st) h := Rnx (hB_18) (dX2_formOf_0) rfl
theorem v18_1 {d : Nat} {ls : LS3} {st : List MV} {h : Hp} {x : Int32} : Ev d 18 1 ls (vI x :: st) h = if x = 100 then Ev d 18 80 ls st h else if x = 106 then Ev d 18 68 ls st h else if x = 108 then Ev d 18 71 ls st h else if x = 110 then Ev d 18 77 ls st h else if x = 112 then Ev d 18 74 ls st h else Ev d 18 83 ls st h := by
  by_cases z : x.toInt < 100 ∨ 112 < x.toInt
  · rw [if_neg (fun y => by rw [y] at z; revert z; decide), if_neg (fun y => by rw [y] at z; revert z; decide), if_neg (fun y => by rw [y] at z; revert z; decide), if_neg (fun y => by rw [y] at z; revert z; decide), if_neg (fun y => by rw [y] at z; revert z; decide)]
    exact Rnx hB_18 dX2_formOf_1 (xTab_out z)
  · rcases (show x.toInt = 100 ∨ x.toInt = 101 ∨ x.toInt = 102 ∨ x.toInt = 103 ∨ x.toInt = 104 ∨ x.toInt = 105 ∨ x.toInt = 106 ∨ x.toInt = 107 ∨ x.toInt = 108 ∨ x.toInt = 109 ∨ x.toInt = 110 ∨ x.toInt = 111 ∨ x.toInt = 112 by omega) with y | y | y | y | y | y | y | y | y | y | y | y | y
    · have e : x = 100 := Int32.toInt_inj.mp (y.trans rfl)
      subst e
      rw [if_pos rfl]; exact Rnx hB_18 dX2_formOf_1 rfl
    · have e : x = 101 := Int32.toInt_inj.mp (y.trans rfl)
      subst e
      rw [if_neg (by decide)]; rw [if_neg (by decide)]; rw [if_neg (by decide)]; rw [if_neg (by decide)]; rw [if_neg (by decide)]; exact Rnx hB_18 dX2_formOf_1 rfl
    · have e : x = 102 := Int32.toInt_inj.mp (y.trans rfl)
      subst e
      rw [if_neg (by decide)]; rw [if_neg (by decide)]; rw [if_neg (by decide)]; rw [if_neg (by decide)]; rw [if_neg (by decide)]; exact Rnx hB_18 dX2_formOf_1 rfl
    · have e : x = 103 := Int32.toInt_inj.mp (y.trans rfl)
      subst e
      rw [if_neg (by decide)]; rw [if_neg (by decide)]; rw [if_neg (by decide)]; rw [if_neg (by decide)]; rw [if_neg (by decide)]; exact Rnx hB_18 dX2_formOf_1 rfl
    · have e : x = 104 := Int32.toInt_inj.mp (y.trans rfl)
      subst e
      rw [if_neg (by decide)]; rw [if_neg (by decide)]; rw [if_neg (by decide)]; rw [if_neg (by decide)]; rw [if_neg (by decide)]; exact Rnx hB_18 dX2_formOf_1 rfl
    · have e : x = 105 := Int32.toInt_inj.mp (y.trans rfl)
      subst e
      rw [if_neg (by decide)]; rw [if_neg (by decide)]; rw [if_neg (by decide)]; rw [if_neg (by decide)]; rw [if_neg (by decide)]; exact Rnx hB_18 dX2_formOf_1 rfl
    · have e : x = 106 := Int32.toInt_inj.mp (y.trans rfl)
      subst e
      rw [if_neg (by decide)]; rw [if_pos rfl]; exact Rnx hB_18 dX2_formOf_1 rfl
    · have e : x = 107 := Int32.toInt_inj.mp (y.trans rfl)
      subst e
      rw [if_neg (by decide)]; rw [if_neg (by decide)]; rw [if_neg (by decide)]; rw [if_neg (by decide)]; rw [if_neg (by decide)]; exact Rnx hB_18 dX2_formOf_1 rfl
    · have e : x = 108 := Int32.toInt_inj.mp (y.trans rfl)
      subst e
      rw [if_neg (by decide)]; rw [if_neg (by decide)]; rw [if_pos rfl]; exact Rnx hB_18 dX2_formOf_1 rfl
    · have e : x = 109 := Int32.toInt_inj.mp (y.trans rfl)
      subst e
      rw [if_neg (by decide)]; rw [if_neg (by decide)]; rw [if_neg (by decide)]; rw [if_neg (by decide)]; rw [if_neg (by decide)]; exact Rnx hB_18 dX2_formOf_1 rfl
    · have e : x = 110 := Int32.toInt_inj.mp (y.trans rfl)
      subst e
      rw [if_neg (by decide)]; rw [if_neg (by decide)]; rw [if_neg (by decide)]; rw [if_pos rfl]; exact Rnx hB_18 dX2_formOf_1 rfl
    · have e : x = 111 := Int32.toInt_inj.mp (y.trans rfl)
      subst e
      rw [if_neg (by decide)]; rw [if_neg (by decide)]; rw [if_neg (by decide)]; rw [if_neg (by decide)]; rw [if_neg (by decide)]; exact Rnx hB_18 dX2_formOf_1 rfl
    · have e : x = 112 := Int32.toInt_inj.mp (y.trans rfl)
      subst e
      rw [if_neg (by decide)]; rw [if_neg (by decide)]; rw [if_neg (by decide)]; rw [if_neg (by decide)]; rw [if_pos rfl]; exact Rnx hB_18 dX2_formOf_1 rfl
theorem v18_68 {d : Nat} {ls : LS3} {st : List MV} {h : Hp} : Ev d 18 68 ls st h = Ev d 18 70 ls (vR (42, 1, 0) :: st) h := Rnx (hB_18) (dX2_formOf_68) rfl
theorem v18_70 {d : Nat} {ls : LS3} {h : Hp} {o : Option A3} : Ev d 18 70 ls [vO o] h = some (.inl (some (vO o)), h) := Rdn hB_18 dX2_formOf_70 rfl
theorem v18_71 {d : Nat} {ls : LS3} {st : List MV} {h : Hp} : Ev d 18 71 ls st h = Ev d 18 73 ls (vR (42, 1, 0) :: st) h := Rnx (hB_18) (dX2_formOf_71) rfl
theorem v18_73 {d : Nat} {ls : LS3} {h : Hp} {o : Option A3} : Ev d 18 73 ls [vO o] h = some (.inl (some (vO o)), h) := Rdn hB_18 dX2_formOf_73 rfl
theorem v18_74 {d : Nat} {ls : LS3} {st : List MV} {h : Hp} : Ev d 18 74 ls st h = Ev d 18 76 ls (vR (42, 2, 0) :: st) h := Rnx (hB_18) (dX2_formOf_74) rfl
theorem v18_76 {d : Nat} {ls : LS3} {h : Hp} {o : Option A3} : Ev d 18 76 ls [vO o] h = some (.inl (some (vO o)), h) := Rdn hB_18 dX2_formOf_76 rfl
theorem v18_77 {d : Nat} {ls : LS3} {st : List MV} {h : Hp} : Ev d 18 77 ls st h = Ev d 18 79 ls (vR (42, 3, 0) :: st) h := Rnx (hB_18) (dX2_formOf_77) rfl
theorem v18_79 {d : Nat} {ls : LS3} {h : Hp} {o : Option A3} : Ev d 18 79 ls [vO o] h = some (.inl (some (vO o)), h) := Rdn hB_18 dX2_formOf_79 rfl
theorem v18_80 {d : Nat} {ls : LS3} {st : List MV} {h : Hp} : Ev d 18 80 ls st h = Ev d 18 82 ls (vR (42, 4, 0) :: st) h := Rnx (hB_18) (dX2_formOf_80) rfl
theorem v18_82 {d : Nat} {ls : LS3} {h : Hp} {o : Option A3} : Ev d 18 82 ls [vO o] h = some (.inl (some (vO o)), h) := Rdn hB_18 dX2_formOf_82 rfl
theorem v18_83 {d : Nat} {ls : LS3} {st : List MV} {h : Hp} : Ev d 18 83 ls st h = Ev d 18 85 ls (vR (42, 0, 0) :: st) h := Rnx (hB_18) (dX2_formOf_83) rfl
theorem v18_85 {d : Nat} {ls : LS3} {h : Hp} {o : Option A3} : Ev d 18 85 ls [vO o] h = some (.inl (some (vO o)), h) := Rdn hB_18 dX2_formOf_85 rfl
theorem hB_19 : mB 19 = cX2_acceptDigit := rfl
theorem v19_0 {d : Nat} {st : List MV} {h : Hp} {x : Option A3} {a1 a2 : Option MV} : Ev d 19 0 [some (vO x), a1, a2] st h = Ev d 19 1 [some (vO x), a1, a2] (vO x :: st) h := Rnx (hB_19) (dX2_acceptDigit_0) rfl
set_option maxRecDepth 100000 in
theorem v19_1 {d : Nat} {ls : LS3} {st : List MV} {h : Hp} {a : A3} (hS : gS h a = (1, 2)) : Ev d 19 1 ls (vR a :: st) h = Ev d 19 4 ls (vI (gI h a 5) :: st) h := Rget hB_19 dX2_acceptDigit_1 rfl (Or.inl hS)
theorem v19_4 {d : Nat} {st : List MV} {h : Hp} {x : Option A3} {a1 a2 : Option MV} : Ev d 19 4 [some (vO x), a1, a2] st h = Ev d 19 5 [some (vO x), a1, a2] (vO x :: st) h := Rnx (hB_19) (dX2_acceptDigit_4) rfl
set_option maxRecDepth 100000 in
theorem v19_5 {d : Nat} {ls : LS3} {st : List MV} {h : Hp} {a : A3} (hS : gS h a = (1, 2)) : Ev d 19 5 ls (vR a :: st) h = Ev d 19 8 ls (vO (gR h a 4) :: st) h := Rget hB_19 dX2_acceptDigit_5 rfl (Or.inl hS)
set_option maxRecDepth 100000 in
theorem v19_8 {d : Nat} {ls : LS3} {st : List MV} {h : Hp} {a : A3}  (hS : gS h a = (11, 10)) (hc : catS st ≤ 8) : Ev (d + 1) 19 8 ls (vR a :: st) h = Evk 235 (d + 1) 19 8 ls st (Ev d 235 0 [some (vR a)] [] h) := RcallO (idx := 52) (n := 0) (kd := 0) (As' := []) hB_19 dX2_acceptDigit_8 rfl rfl (by decide) rfl rfl (Or.inr ⟨rfl, hS⟩) rfl hc
theorem v19_11 {d : Nat} {ls : LS3} {st : List MV} {h : Hp} {x y : Int32} : Ev d 19 11 ls (vI y :: vI x :: st) h = if y ≤ x then Ev d 19 46 ls st h else Ev d 19 14 ls st h := Rif hB_19 dX2_acceptDigit_11 rfl
theorem v19_14 {d : Nat} {st : List MV} {h : Hp} {x : Option A3} {a1 a2 : Option MV} : Ev d 19 14 [some (vO x), a1, a2] st h = Ev d 19 15 [some (vO x), a1, a2] (vO x :: st) h := Rnx (hB_19) (dX2_acceptDigit_14) rfl
set_option maxRecDepth 100000 in
theorem v19_15 {d : Nat} {ls : LS3} {st : List MV} {h : Hp} {a : A3} (hS : gS h a = (1, 2)) : Ev d 19 15 ls (vR a :: st) h = Ev d 19 18 ls (vO (gR h a 4) :: st) h := Rget hB_19 dX2_acceptDigit_15 rfl (Or.inl hS)
theorem v19_18 {d : Nat} {st : List MV} {h : Hp} {x : Option A3} {a1 a2 : Option MV} : Ev d 19 18 [some (vO x), a1, a2] st h = Ev d 19 19 [some (vO x), a1, a2] (vO x :: st) h := Rnx (hB_19) (dX2_acceptDigit_18) rfl
set_option maxRecDepth 100000 in
theorem v19_19 {d : Nat} {ls : LS3} {st : List MV} {h : Hp} {a : A3} (hS : gS h a = (1, 2)) : Ev d 19 19 ls (vR a :: st) h = Ev d 19 22 ls (vI (gI h a 5) :: st) h := Rget hB_19 dX2_acceptDigit_19 rfl (Or.inl hS)
set_option maxRecDepth 100000 in
theorem v19_22 {d : Nat} {ls : LS3} {st : List MV} {h : Hp} {a : A3} {x0 : Int32} (hS : gS h a = (11, 10)) (hc : catS st ≤ 8) : Ev (d + 1) 19 22 ls (vI x0 :: vR a :: st) h = Evk 237 (d + 1) 19 22 ls st (Ev d 237 0 [some (vR a), some (vI x0)] [] h) := RcallO (idx := 55) (n := 1) (kd := 0) (As' := [vI x0]) hB_19 dX2_acceptDigit_22 rfl rfl (by decide) rfl rfl (Or.inr ⟨rfl, hS⟩) rfl hc
theorem v19_25 {d : Nat} {ls : LS3} {st : List MV} {h : Hp} : Ev d 19 25 ls st h = Ev d 19 27 ls (vI 48 :: st) h := Rnx (hB_19) (dX2_acceptDigit_25) rfl
theorem v19_27 {d : Nat} {ls : LS3} {st : List MV} {h : Hp} {x y : Int32} : Ev d 19 27 ls (vI y :: vI x :: st) h = if x = y then Ev d 19 48 ls st h else Ev d 19 30 ls st h := Rif hB_19 dX2_acceptDigit_27 rfl
theorem v19_30 {d : Nat} {st : List MV} {h : Hp} {x : Option A3} {a1 a2 : Option MV} : Ev d 19 30 [some (vO x), a1, a2] st h = Ev d 19 31 [some (vO x), a1, a2] (vO x :: st) h := Rnx (hB_19) (dX2_acceptDigit_30) rfl
set_option maxRecDepth 100000 in
theorem v19_31 {d : Nat} {ls : LS3} {st : List MV} {h : Hp} {a : A3} (hS : gS h a = (1, 2)) : Ev d 19 31 ls (vR a :: st) h = Ev d 19 34 ls (vO (gR h a 4) :: st) h := Rget hB_19 dX2_acceptDigit_31 rfl (Or.inl hS)
theorem v19_34 {d : Nat} {st : List MV} {h : Hp} {x : Option A3} {a1 a2 : Option MV} : Ev d 19 34 [some (vO x), a1, a2] st h = Ev d 19 35 [some (vO x), a1, a2] (vO x :: st) h := Rnx (hB_19) (dX2_acceptDigit_34) rfl
set_option maxRecDepth 100000 in
theorem v19_35 {d : Nat} {ls : LS3} {st : List MV} {h : Hp} {a : A3} (hS : gS h a = (1, 2)) : Ev d 19 35 ls (vR a :: st) h = Ev d 19 38 ls (vI (gI h a 5) :: st) h := Rget hB_19 dX2_acceptDigit_35 rfl (Or.inl hS)
set_option maxRecDepth 100000 in
theorem v19_38 {d : Nat} {ls : LS3} {st : List MV} {h : Hp} {a : A3} {x0 : Int32} (hS : gS h a = (11, 10)) (hc : catS st ≤ 8) : Ev (d + 1) 19 38 ls (vI x0 :: vR a :: st) h = Evk 237 (d + 1) 19 38 ls st (Ev d 237 0 [some (vR a), some (vI x0)] [] h) := RcallO (idx := 55) (n := 1) (kd := 0) (As' := [vI x0]) hB_19 dX2_acceptDigit_38 rfl rfl (by decide) rfl rfl (Or.inr ⟨rfl, hS⟩) rfl hc
theorem v19_41 {d : Nat} {ls : LS3} {st : List MV} {h : Hp} : Ev d 19 41 ls st h = Ev d 19 43 ls (vI 57 :: st) h := Rnx (hB_19) (dX2_acceptDigit_41) rfl
theorem v19_43 {d : Nat} {ls : LS3} {st : List MV} {h : Hp} {x y : Int32} : Ev d 19 43 ls (vI y :: vI x :: st) h = if x = y then Ev d 19 48 ls st h else Ev d 19 46 ls st h := Rif hB_19 dX2_acceptDigit_43 rfl
theorem v19_46 {d : Nat} {ls : LS3} {st : List MV} {h : Hp} : Ev d 19 46 ls st h = Ev d 19 47 ls (vI 0 :: st) h := Rnx (hB_19) (dX2_acceptDigit_46) rfl
theorem v19_47 {d : Nat} {ls : LS3} {h : Hp} {x : Int32} (hx : x = 0 ∨ x = 1) : Ev d 19 47 ls [vI x] h = some (.inl (some (vI x)), h) := RretB hB_19 dX2_acceptDigit_47 rfl hx
theorem v19_48 {d : Nat} {st : List MV} {h : Hp} {x : Option A3} {a1 a2 : Option MV} : Ev d 19 48 [some (vO x), a1, a2] st h = Ev d 19 49 [some (vO x), a1, a2] (vO x :: st) h := Rnx (hB_19) (dX2_acceptDigit_48) rfl
set_option maxRecDepth 100000 in
theorem v19_49 {d : Nat} {ls : LS3} {st : List MV} {h : Hp} {a : A3} (hS : gS h a = (1, 2)) : Ev d 19 49 ls (vR a :: st) h = Ev d 19 52 ls (vI (gI h a 3) :: st) h := Rget hB_19 dX2_acceptDigit_49 rfl (Or.inl hS)
theorem v19_52 {d : Nat} {ls : LS3} {st : List MV} {h : Hp} : Ev d 19 52 ls st h = Ev d 19 53 ls (vI 5 :: st) h := Rnx (hB_19) (dX2_acceptDigit_52) rfl
theorem v19_53 {d : Nat} {ls : LS3} {st : List MV} {h : Hp} {x y : Int32} : Ev d 19 53 ls (vI y :: vI x :: st) h = Ev d 19 54 ls (vI (x * y) :: st) h := Rnx (hB_19) (dX2_acceptDigit_53) rfl
theorem v19_54 {d : Nat} {st : List MV} {h : Hp} {x : Option A3} {a1 a2 : Option MV} : Ev d 19 54 [some (vO x), a1, a2] st h = Ev d 19 55 [some (vO x), a1, a2] (vO x :: st) h := Rnx (hB_19) (dX2_acceptDigit_54) rfl
set_option maxRecDepth 100000 in
theorem v19_55 {d : Nat} {ls : LS3} {st : List MV} {h : Hp} {a : A3} (hS : gS h a = (1, 2)) : Ev d 19 55 ls (vR a :: st) h = Ev d 19 58 ls (vI (gI h a 6) :: st) h := Rget hB_19 dX2_acceptDigit_55 rfl (Or.inl hS)
theorem v19_58 {d : Nat} {ls : LS3} {st : List MV} {h : Hp} {x y : Int32} : Ev d 19 58 ls (vI y :: vI x :: st) h = Ev d 19 59 ls (vI (x + y) :: st) h := Rnx (hB_19) (dX2_acceptDigit_58) rfl
theorem v19_59 {d : Nat} {st : List MV} {h : Hp} {x : Int32} {a0 a1 a2 : Option MV} : Ev d 19 59 [a0, a1, a2] (vI x :: st) h = Ev d 19 60 [a0, a1, some (vI x)] st h := Rnx (hB_19) (dX2_acceptDigit_59) rfl
theorem v19_60 {d : Nat} {st : List MV} {h : Hp} {x : Int32} {a0 a1 : Option MV} : Ev d 19 60 [a0, a1, some (vI x)] st h = Ev d 19 61 [a0, a1, some (vI x)] (vI x :: st) h := Rnx (hB_19) (dX2_acceptDigit_60) rfl
theorem v19_61 {d : Nat} {ls : LS3} {st : List MV} {h : Hp} {x : Int32} : Ev d 19 61 ls (vI x :: st) h = if x < 0 then Ev d 19 73 ls st h else Ev d 19 64 ls st h := Rif hB_19 dX2_acceptDigit_61 rfl
theorem v19_64 {d : Nat} {st : List MV} {h : Hp} {x : Int32} {a0 a1 : Option MV} : Ev d 19 64 [a0, a1, some (vI x)] st h = Ev d 19 65 [a0, a1, some (vI x)] (vI x :: st) h := Rnx (hB_19) (dX2_acceptDigit_64) rfl
theorem v19_65 {d : Nat} {st : List MV} {h : Hp} {x : Option A3} {a1 a2 : Option MV} : Ev d 19 65 [some (vO x), a1, a2] st h = Ev d 19 66 [some (vO x), a1, a2] (vO x :: st) h := Rnx (hB_19) (dX2_acceptDigit_65) rfl
set_option maxRecDepth 100000 in
theorem v19_66 {d : Nat} {ls : LS3} {st : List MV} {h : Hp} {a : A3} (hS : gS h a = (1, 2)) : Ev d 19 66 ls (vR a :: st) h = Ev d 19 69 ls (vO (gR h a 1) :: st) h := Rget hB_19 dX2_acceptDigit_66 rfl (Or.inl hS)
theorem v19_69 {d : Nat} {ls : LS3} {st : List MV} {h : Hp} {a : A3} (hS : 2 ≤ (gS h a).1 ∧ (gS h a).1 ≤ 10) : Ev d 19 69 ls (vR a :: st) h = Ev d 19 70 ls (vI (Int32.ofNat (gS h a).2) :: st) h := Rlen hB_19 dX2_acceptDigit_69 hS
theorem v19_70 {d : Nat} {ls : LS3} {st : List MV} {h : Hp} {x y : Int32} : Ev d 19 70 ls (vI y :: vI x :: st) h = if x < y then Ev d 19 75 ls st h else Ev d 19 73 ls st h := Rif hB_19 dX2_acceptDigit_70 rfl
theorem v19_73 {d : Nat} {ls : LS3} {st : List MV} {h : Hp} : Ev d 19 73 ls st h = Ev d 19 74 ls (vI 0 :: st) h := Rnx (hB_19) (dX2_acceptDigit_73) rfl
theorem v19_74 {d : Nat} {ls : LS3} {h : Hp} {x : Int32} (hx : x = 0 ∨ x = 1) : Ev d 19 74 ls [vI x] h = some (.inl (some (vI x)), h) := RretB hB_19 dX2_acceptDigit_74 rfl hx
theorem v19_75 {d : Nat} {st : List MV} {h : Hp} {x : Option A3} {a1 a2 : Option MV} : Ev d 19 75 [some (vO x), a1, a2] st h = Ev d 19 76 [some (vO x), a1, a2] (vO x :: st) h := Rnx (hB_19) (dX2_acceptDigit_75) rfl
set_option maxRecDepth 100000 in
theorem v19_76 {d : Nat} {ls : LS3} {st : List MV} {h : Hp} {a : A3} (hS : gS h a = (1, 2)) : Ev d 19 76 ls (vR a :: st) h = Ev d 19 79 ls (vO (gR h a 1) :: st) h := Rget hB_19 dX2_acceptDigit_76 rfl (Or.inl hS)
theorem v19_79 {d : Nat} {st : List MV} {h : Hp} {x : Int32} {a0 a1 : Option MV} : Ev d 19 79 [a0, a1, some (vI x)] st h = Ev d 19 80 [a0, a1, some (vI x)] (vI x :: st) h := Rnx (hB_19) (dX2_acceptDigit_79) rfl
theorem v19_80 {d : Nat} {st : List MV} {h : Hp} {x : Option A3} {a1 a2 : Option MV} : Ev d 19 80 [some (vO x), a1, a2] st h = Ev d 19 81 [some (vO x), a1, a2] (vO x :: st) h := Rnx (hB_19) (dX2_acceptDigit_80) rfl
set_option maxRecDepth 100000 in
theorem v19_81 {d : Nat} {ls : LS3} {st : List MV} {h : Hp} {a : A3} (hS : gS h a = (1, 2)) : Ev d 19 81 ls (vR a :: st) h = Ev d 19 84 ls (vO (gR h a 1) :: st) h := Rget hB_19 dX2_acceptDigit_81 rfl (Or.inl hS)
theorem v19_84 {d : Nat} {st : List MV} {h : Hp} {x : Int32} {a0 a1 : Option MV} : Ev d 19 84 [a0, a1, some (vI x)] st h = Ev d 19 85 [a0, a1, some (vI x)] (vI x :: st) h := Rnx (hB_19) (dX2_acceptDigit_84) rfl
theorem v19_85 {d : Nat} {ls : LS3} {st : List MV} {h : Hp} {a : A3} {j : Int32} (hS : (gS h a).1 ∈ [2, 9]) (hj : inB j (gS h a).2) : Ev d 19 85 ls (vI j :: vR a :: st) h = Ev d 19 86 ls (vI (gI h a j.toNatClampNeg) :: st) h := Rald (ks := [2, 9]) (f := fun a j => vI (gI h a j)) hB_19 dX2_acceptDigit_85 rfl hS hj
theorem v19_86 {d : Nat} {ls : LS3} {st : List MV} {h : Hp} : Ev d 19 86 ls st h = Ev d 19 88 ls (vI 10 :: st) h := Rnx (hB_19) (dX2_acceptDigit_86) rfl
theorem v19_88 {d : Nat} {ls : LS3} {st : List MV} {h : Hp} {x y : Int32} : Ev d 19 88 ls (vI y :: vI x :: st) h = Ev d 19 89 ls (vI (x * y) :: st) h := Rnx (hB_19) (dX2_acceptDigit_88) rfl
theorem v19_89 {d : Nat} {st : List MV} {h : Hp} {x : Int32} {a0 a2 : Option MV} : Ev d 19 89 [a0, some (vI x), a2] st h = Ev d 19 90 [a0, some (vI x), a2] (vI x :: st) h := Rnx (hB_19) (dX2_acceptDigit_89) rfl
theorem v19_90 {d : Nat} {ls : LS3} {st : List MV} {h : Hp} {x y : Int32} : Ev d 19 90 ls (vI y :: vI x :: st) h = Ev d 19 91 ls (vI (x + y) :: st) h := Rnx (hB_19) (dX2_acceptDigit_90) rfl
theorem v19_91 {d : Nat} {ls : LS3} {st : List MV} {h : Hp} {a : A3} {j : Int32} {x : Int32} (hS : (gS h a).1 = 2) (hj : inB j (gS h a).2) : Ev d 19 91 ls (vI x :: vI j :: vR a :: st) h = Ev d 19 92 ls st (sI h a j.toNatClampNeg x) := RastI hB_19 dX2_acceptDigit_91 hS hj
theorem v19_92 {d : Nat} {st : List MV} {h : Hp} {x : Option A3} {a1 a2 : Option MV} : Ev d 19 92 [some (vO x), a1, a2] st h = Ev d 19 93 [some (vO x), a1, a2] (vO x :: st) h := Rnx (hB_19) (dX2_acceptDigit_92) rfl
theorem v19_93 {d : Nat} {ls : LS3} {st : List MV} {h : Hp} {v : MV} (hv : cat1 v = true) : Ev d 19 93 ls (v :: st) h = Ev d 19 94 ls (v :: v :: st) h := Rdup hB_19 dX2_acceptDigit_93 hv
set_option maxRecDepth 100000 in
theorem v19_94 {d : Nat} {ls : LS3} {st : List MV} {h : Hp} {a : A3} (hS : gS h a = (1, 2)) : Ev d 19 94 ls (vR a :: st) h = Ev d 19 97 ls (vI (gI h a 5) :: st) h := Rget hB_19 dX2_acceptDigit_94 rfl (Or.inl hS)
theorem v19_97 {d : Nat} {ls : LS3} {st : List MV} {h : Hp} : Ev d 19 97 ls st h = Ev d 19 98 ls (vI 1 :: st) h := Rnx (hB_19) (dX2_acceptDigit_97) rfl
theorem v19_98 {d : Nat} {ls : LS3} {st : List MV} {h : Hp} {x y : Int32} : Ev d 19 98 ls (vI y :: vI x :: st) h = Ev d 19 99 ls (vI (x + y) :: st) h := Rnx (hB_19) (dX2_acceptDigit_98) rfl
set_option maxRecDepth 100000 in
theorem v19_99 {d : Nat} {ls : LS3} {st : List MV} {h : Hp} {a : A3} {x : Int32} (hS : gS h a = (1, 2)) : Ev d 19 99 ls (vI x :: vR a :: st) h = Ev d 19 102 ls st (sI h a 5 x) := RputI hB_19 dX2_acceptDigit_99 rfl rfl (by decide) hS (Or.inl rfl)
theorem v19_102 {d : Nat} {ls : LS3} {st : List MV} {h : Hp} : Ev d 19 102 ls st h = Ev d 19 103 ls (vI 1 :: st) h := Rnx (hB_19) (dX2_acceptDigit_102) rfl
theorem v19_103 {d : Nat} {ls : LS3} {h : Hp} {x : Int32} (hx : x = 0 ∨ x = 1) : Ev d 19 103 ls [vI x] h = some (.inl (some (vI x)), h) := RretB hB_19 dX2_acceptDigit_103 rfl hx
theorem hB_20 : mB 20 = cX3_init := rfl
theorem v20_0 {d : Nat} {st : List MV} {h : Hp} {x : Option A3} {a1 : Option MV} : Ev d 20 0 [some (vO x), a1] st h = Ev d 20 1 [some (vO x), a1] (vO x :: st) h := Rnx (hB_20) (dX3_init_0) rfl
set_option maxRecDepth 100000 in
theorem v20_1 {d : Nat} {ls : LS3} {st : List MV} {h : Hp} {a : A3} (hc : catS st ≤ 8) : Ev d 20 1 ls (vR a :: st) h = Ev d 20 4 ls st h := Robj hB_20 dX3_init_1 rfl hc
theorem v20_4 {d : Nat} {st : List MV} {h : Hp} {x : Option A3} {a1 : Option MV} : Ev d 20 4 [some (vO x), a1] st h = Ev d 20 5 [some (vO x), a1] (vO x :: st) h := Rnx (hB_20) (dX3_init_4) rfl
theorem v20_5 {d : Nat} {st : List MV} {h : Hp} {x : Int32} {a0 : Option MV} : Ev d 20 5 [a0, some (vI x)] st h = Ev d 20 6 [a0, some (vI x)] (vI x :: st) h := Rnx (hB_20) (dX3_init_5) rfl
set_option maxRecDepth 100000 in
theorem v20_6 {d : Nat} {ls : LS3} {st : List MV} {h : Hp} {a : A3} {x : Int32} (hS : gS h a = (1, 3)) : Ev d 20 6 ls (vI x :: vR a :: st) h = Ev d 20 9 ls st (sI h a 0 x) := RputI hB_20 dX3_init_6 rfl rfl (by decide) hS (Or.inl rfl)
theorem v20_9 {d : Nat} {st : List MV} {h : Hp} {x : Option A3} {a1 : Option MV} : Ev d 20 9 [some (vO x), a1] st h = Ev d 20 10 [some (vO x), a1] (vO x :: st) h := Rnx (hB_20) (dX3_init_9) rfl
theorem v20_10 {d : Nat} {ls : LS3} {st : List MV} {h : Hp} : Ev d 20 10 ls st h = Ev d 20 12 ls (vI 51 :: st) h := Rnx (hB_20) (dX3_init_10) rfl
theorem v20_12 {d : Nat} {ls : LS3} {st : List MV} {h : Hp} {n : Int32} (hn : 0 ≤ n ∧ n.toNatClampNeg ≤ 100000) (hF : Fresh h) : Ev d 20 12 ls (vI n :: st) h = Ev d 20 14 ls (vR (nm (cnt h)) :: st) (mk h (nm (cnt h)) (4, n.toNatClampNeg) n.toNatClampNeg) := Rnewa hB_20 dX3_init_12 rfl hn hF
set_option maxRecDepth 100000 in
theorem v20_14 {d : Nat} {ls : LS3} {st : List MV} {h : Hp} {a : A3} {o : Option A3} (hS : gS h a = (1, 3)) : Ev d 20 14 ls (vO o :: vR a :: st) h = Ev d 20 17 ls st (sR h a 1 o) := RputR hB_20 dX3_init_14 rfl rfl (by decide) hS
theorem v20_17 {d : Nat} {ls : LS3} {h : Hp} : Ev d 20 17 ls [] h = some (.inl none, h) := Rdn hB_20 dX3_init_17 rfl
theorem hB_21 : mB 21 = cX3_set := rfl
theorem v21_0 {d : Nat} {st : List MV} {h : Hp} {x : Option A3} {a1 a2 a3 a4 : Option MV} : Ev d 21 0 [some (vO x), a1, a2, a3, a4] st h = Ev d 21 1 [some (vO x), a1, a2, a3, a4] (vO x :: st) h := Rnx (hB_21) (dX3_set_0) rfl
theorem v21_1 {d : Nat} {st : List MV} {h : Hp} {x : Int32} {a0 a2 a3 a4 : Option MV} : Ev d 21 1 [a0, some (vI x), a2, a3, a4] st h = Ev d 21 2 [a0, some (vI x), a2, a3, a4] (vI x :: st) h := Rnx (hB_21) (dX3_set_1) rfl
set_option maxRecDepth 100000 in
theorem v21_2 {d : Nat} {ls : LS3} {st : List MV} {h : Hp} {a : A3} {x : Int32} (hS : gS h a = (1, 3)) : Ev d 21 2 ls (vI x :: vR a :: st) h = Ev d 21 5 ls st (sI h a 3 x) := RputI hB_21 dX3_set_2 rfl rfl (by decide) hS (Or.inl rfl)
theorem v21_5 {d : Nat} {st : List MV} {h : Hp} {x : Option A3} {a1 a2 a3 a4 : Option MV} : Ev d 21 5 [some (vO x), a1, a2, a3, a4] st h = Ev d 21 6 [some (vO x), a1, a2, a3, a4] (vO x :: st) h := Rnx (hB_21) (dX3_set_5) rfl
theorem v21_6 {d : Nat} {st : List MV} {h : Hp} {x : Int32} {a0 a1 a3 a4 : Option MV} : Ev d 21 6 [a0, a1, some (vI x), a3, a4] st h = Ev d 21 7 [a0, a1, some (vI x), a3, a4] (vI x :: st) h := Rnx (hB_21) (dX3_set_6) rfl
set_option maxRecDepth 100000 in
theorem v21_7 {d : Nat} {ls : LS3} {st : List MV} {h : Hp} {a : A3} {x : Int32} (hS : gS h a = (1, 3)) : Ev d 21 7 ls (vI x :: vR a :: st) h = Ev d 21 10 ls st (sI h a 4 x) := RputI hB_21 dX3_set_7 rfl rfl (by decide) hS (Or.inl rfl)
theorem v21_10 {d : Nat} {st : List MV} {h : Hp} {x : Option A3} {a1 a2 a3 a4 : Option MV} : Ev d 21 10 [some (vO x), a1, a2, a3, a4] st h = Ev d 21 11 [some (vO x), a1, a2, a3, a4] (vO x :: st) h := Rnx (hB_21) (dX3_set_10) rfl
theorem v21_11 {d : Nat} {st : List MV} {h : Hp} {x : Int32} {a0 a1 a2 a4 : Option MV} : Ev d 21 11 [a0, a1, a2, some (vI x), a4] st h = Ev d 21 12 [a0, a1, a2, some (vI x), a4] (vI x :: st) h := Rnx (hB_21) (dX3_set_11) rfl
set_option maxRecDepth 100000 in
theorem v21_12 {d : Nat} {ls : LS3} {st : List MV} {h : Hp} {a : A3} {x : Int32} (hS : gS h a = (1, 3)) : Ev d 21 12 ls (vI x :: vR a :: st) h = Ev d 21 15 ls st (sI h a 5 x) := RputI hB_21 dX3_set_12 rfl rfl (by decide) hS (Or.inl rfl)
theorem v21_15 {d : Nat} {st : List MV} {h : Hp} {x : Option A3} {a1 a2 a3 a4 : Option MV} : Ev d 21 15 [some (vO x), a1, a2, a3, a4] st h = Ev d 21 16 [some (vO x), a1, a2, a3, a4] (vO x :: st) h := Rnx (hB_21) (dX3_set_15) rfl
theorem v21_16 {d : Nat} {st : List MV} {h : Hp} {x : Int32} {a0 a1 a2 a3 : Option MV} : Ev d 21 16 [a0, a1, a2, a3, some (vI x)] st h = Ev d 21 18 [a0, a1, a2, a3, some (vI x)] (vI x :: st) h := Rnx (hB_21) (dX3_set_16) rfl
set_option maxRecDepth 100000 in
theorem v21_18 {d : Nat} {ls : LS3} {st : List MV} {h : Hp} {a : A3} {x : Int32} (hS : gS h a = (1, 3)) : Ev d 21 18 ls (vI x :: vR a :: st) h = Ev d 21 21 ls st (sI h a 6 x) := RputI hB_21 dX3_set_18 rfl rfl (by decide) hS (Or.inl rfl)
theorem v21_21 {d : Nat} {ls : LS3} {h : Hp} : Ev d 21 21 ls [] h = some (.inl none, h) := Rdn hB_21 dX3_set_21 rfl
theorem hB_22 : mB 22 = cX3_makeNew := rfl
theorem v22_0 {d : Nat} {st : List MV} {h : Hp} {x : Option A3} {a1 : Option MV} : Ev d 22 0 [some (vO x), a1] st h = Ev d 22 1 [some (vO x), a1] (vO x :: st) h := Rnx (hB_22) (dX3_makeNew_0) rfl
theorem v22_1 {d : Nat} {ls : LS3} {st : List MV} {h : Hp} : Ev d 22 1 ls st h = Ev d 22 2 ls (vI 0 :: st) h := Rnx (hB_22) (dX3_makeNew_1) rfl
theorem v22_2 {d : Nat} {ls : LS3} {st : List MV} {h : Hp} : Ev d 22 2 ls st h = Ev d 22 3 ls (vI 0 :: st) h := Rnx (hB_22) (dX3_makeNew_2) rfl
theorem v22_3 {d : Nat} {ls : LS3} {st : List MV} {h : Hp} : Ev d 22 3 ls st h = Ev d 22 4 ls (vI 0 :: st) h := Rnx (hB_22) (dX3_makeNew_3) rfl
theorem v22_4 {d : Nat} {ls : LS3} {st : List MV} {h : Hp} : Ev d 22 4 ls st h = Ev d 22 5 ls (vI 0 :: st) h := Rnx (hB_22) (dX3_makeNew_4) rfl
set_option maxRecDepth 100000 in
theorem v22_5 {d : Nat} {ls : LS3} {st : List MV} {h : Hp} {a : A3} {x0 : Int32} {x1 : Int32} {x2 : Int32} {x3 : Int32} (hS : gS h a = (1, 3)) (hc : catS st ≤ 8) : Ev (d + 1) 22 5 ls (vI x3 :: vI x2 :: vI x1 :: vI x0 :: vR a :: st) h = Evk 21 (d + 1) 22 5 ls st (Ev d 21 0 [some (vR a), some (vI x0), some (vI x1), some (vI x2), some (vI x3)] [] h) := RcallO (idx := 31) (n := 4) (kd := 0) (As' := [vI x0, vI x1, vI x2, vI x3]) hB_22 dX3_makeNew_5 rfl rfl (by decide) rfl rfl (Or.inl hS) rfl hc
theorem v22_8 {d : Nat} {st : List MV} {h : Hp} {x : Option A3} {a1 : Option MV} : Ev d 22 8 [some (vO x), a1] st h = Ev d 22 9 [some (vO x), a1] (vO x :: st) h := Rnx (hB_22) (dX3_makeNew_8) rfl
theorem v22_9 {d : Nat} {ls : LS3} {st : List MV} {h : Hp} : Ev d 22 9 ls st h = Ev d 22 10 ls (vI 0 :: st) h := Rnx (hB_22) (dX3_makeNew_9) rfl
set_option maxRecDepth 100000 in
theorem v22_10 {d : Nat} {ls : LS3} {st : List MV} {h : Hp} {a : A3} {x : Int32} (hS : gS h a = (1, 3)) : Ev d 22 10 ls (vI x :: vR a :: st) h = Ev d 22 13 ls st (sI h a 7 x) := RputI hB_22 dX3_makeNew_10 rfl rfl (by decide) hS (Or.inl rfl)
theorem v22_13 {d : Nat} {st : List MV} {h : Hp} {x : Option A3} {a1 : Option MV} : Ev d 22 13 [some (vO x), a1] st h = Ev d 22 14 [some (vO x), a1] (vO x :: st) h := Rnx (hB_22) (dX3_makeNew_13) rfl
theorem v22_14 {d : Nat} {ls : LS3} {st : List MV} {h : Hp} : Ev d 22 14 ls st h = Ev d 22 15 ls (vI 0 :: st) h := Rnx (hB_22) (dX3_makeNew_14) rfl
set_option maxRecDepth 100000 in
theorem v22_15 {d : Nat} {ls : LS3} {st : List MV} {h : Hp} {a : A3} {x : Int32} (hS : gS h a = (1, 3)) : Ev d 22 15 ls (vI x :: vR a :: st) h = Ev d 22 18 ls st (sI h a 2 x) := RputI hB_22 dX3_makeNew_15 rfl rfl (by decide) hS (Or.inl rfl)
theorem v22_18 {d : Nat} {ls : LS3} {st : List MV} {h : Hp} : Ev d 22 18 ls st h = Ev d 22 19 ls (vI 0 :: st) h := Rnx (hB_22) (dX3_makeNew_18) rfl
theorem v22_19 {d : Nat} {st : List MV} {h : Hp} {x : Int32} {a0 a1 : Option MV} : Ev d 22 19 [a0, a1] (vI x :: st) h = Ev d 22 20 [a0, some (vI x)] st h := Rnx (hB_22) (dX3_makeNew_19) rfl
theorem v22_20 {d : Nat} {st : List MV} {h : Hp} {x : Int32} {a0 : Option MV} : Ev d 22 20 [a0, some (vI x)] st h = Ev d 22 21 [a0, some (vI x)] (vI x :: st) h := Rnx (hB_22) (dX3_makeNew_20) rfl
theorem v22_21 {d : Nat} {st : List MV} {h : Hp} {x : Option A3} {a1 : Option MV} : Ev d 22 21 [some (vO x), a1] st h = Ev d 22 22 [some (vO x), a1] (vO x :: st) h := Rnx (hB_22) (dX3_makeNew_21) rfl
set_option maxRecDepth 100000 in
theorem v22_22 {d : Nat} {ls : LS3} {st : List MV} {h : Hp} {a : A3} (hS : gS h a = (1, 3)) : Ev d 22 22 ls (vR a :: st) h = Ev d 22 25 ls (vO (gR h a 1) :: st) h := Rget hB_22 dX3_makeNew_22 rfl (Or.inl hS)
theorem v22_25 {d : Nat} {ls : LS3} {st : List MV} {h : Hp} {a : A3} (hS : 2 ≤ (gS h a).1 ∧ (gS h a).1 ≤ 10) : Ev d 22 25 ls (vR a :: st) h = Ev d 22 26 ls (vI (Int32.ofNat (gS h a).2) :: st) h := Rlen hB_22 dX3_makeNew_25 hS
theorem v22_26 {d : Nat} {ls : LS3} {st : List MV} {h : Hp} {x y : Int32} : Ev d 22 26 ls (vI y :: vI x :: st) h = if y ≤ x then Ev d 22 42 ls st h else Ev d 22 29 ls st h := Rif hB_22 dX3_makeNew_26 rfl
theorem v22_29 {d : Nat} {st : List MV} {h : Hp} {x : Option A3} {a1 : Option MV} : Ev d 22 29 [some (vO x), a1] st h = Ev d 22 30 [some (vO x), a1] (vO x :: st) h := Rnx (hB_22) (dX3_makeNew_29) rfl
set_option maxRecDepth 100000 in
theorem v22_30 {d : Nat} {ls : LS3} {st : List MV} {h : Hp} {a : A3} (hS : gS h a = (1, 3)) : Ev d 22 30 ls (vR a :: st) h = Ev d 22 33 ls (vO (gR h a 1) :: st) h := Rget hB_22 dX3_makeNew_30 rfl (Or.inl hS)
theorem v22_33 {d : Nat} {st : List MV} {h : Hp} {x : Int32} {a0 : Option MV} : Ev d 22 33 [a0, some (vI x)] st h = Ev d 22 34 [a0, some (vI x)] (vI x :: st) h := Rnx (hB_22) (dX3_makeNew_33) rfl
theorem v22_34 {d : Nat} {ls : LS3} {st : List MV} {h : Hp} : Ev d 22 34 ls st h = Ev d 22 35 ls (vL 0 :: st) h := Rnx (hB_22) (dX3_makeNew_34) rfl
theorem v22_35 {d : Nat} {ls : LS3} {st : List MV} {h : Hp} {a : A3} {j : Int32} {x : Int64} (hS : (gS h a).1 = 4) (hj : inB j (gS h a).2) : Ev d 22 35 ls (vL x :: vI j :: vR a :: st) h = Ev d 22 36 ls st (sL h a j.toNatClampNeg x) := RastL hB_22 dX3_makeNew_35 hS hj
theorem v22_36 {d : Nat} {st : List MV} {h : Hp} {x : Int32} {a0 : Option MV} : Ev d 22 36 [a0, some (vI x)] st h = Ev d 22 39 [a0, some (vI (x + 1))] st h := Rnx (hB_22) (dX3_makeNew_36) rfl
theorem v22_39 {d : Nat} {ls : LS3} {st : List MV} {h : Hp} : Ev d 22 39 ls st h = Ev d 22 20 ls st h := Rnx (hB_22) (dX3_makeNew_39) rfl
theorem v22_42 {d : Nat} {ls : LS3} {h : Hp} : Ev d 22 42 ls [] h = some (.inl none, h) := Rdn hB_22 dX3_makeNew_42 rfl
theorem hB_23 : mB 23 = cX3_copyFrom := rfl
theorem v23_0 {d : Nat} {st : List MV} {h : Hp} {x : Option A3} {a1 : Option MV} : Ev d 23 0 [some (vO x), a1] st h = Ev d 23 1 [some (vO x), a1] (vO x :: st) h := Rnx (hB_23) (dX3_copyFrom_0) rfl
theorem v23_1 {d : Nat} {st : List MV} {h : Hp} {x : Option A3} {a0 : Option MV} : Ev d 23 1 [a0, some (vO x)] st h = Ev d 23 2 [a0, some (vO x)] (vO x :: st) h := Rnx (hB_23) (dX3_copyFrom_1) rfl
set_option maxRecDepth 100000 in
theorem v23_2 {d : Nat} {ls : LS3} {st : List MV} {h : Hp} {a : A3} (hS : gS h a = (1, 3)) : Ev d 23 2 ls (vR a :: st) h = Ev d 23 5 ls (vI (gI h a 3) :: st) h := Rget hB_23 dX3_copyFrom_2 rfl (Or.inl hS)
theorem v23_5 {d : Nat} {st : List MV} {h : Hp} {x : Option A3} {a0 : Option MV} : Ev d 23 5 [a0, some (vO x)] st h = Ev d 23 6 [a0, some (vO x)] (vO x :: st) h := Rnx (hB_23) (dX3_copyFrom_5) rfl
set_option maxRecDepth 100000 in
theorem v23_6 {d : Nat} {ls : LS3} {st : List MV} {h : Hp} {a : A3} (hS : gS h a = (1, 3)) : Ev d 23 6 ls (vR a :: st) h = Ev d 23 9 ls (vI (gI h a 4) :: st) h := Rget hB_23 dX3_copyFrom_6 rfl (Or.inl hS)
theorem v23_9 {d : Nat} {st : List MV} {h : Hp} {x : Option A3} {a0 : Option MV} : Ev d 23 9 [a0, some (vO x)] st h = Ev d 23 10 [a0, some (vO x)] (vO x :: st) h := Rnx (hB_23) (dX3_copyFrom_9) rfl
set_option maxRecDepth 100000 in
theorem v23_10 {d : Nat} {ls : LS3} {st : List MV} {h : Hp} {a : A3} (hS : gS h a = (1, 3)) : Ev d 23 10 ls (vR a :: st) h = Ev d 23 13 ls (vI (gI h a 5) :: st) h := Rget hB_23 dX3_copyFrom_10 rfl (Or.inl hS)
theorem v23_13 {d : Nat} {st : List MV} {h : Hp} {x : Option A3} {a0 : Option MV} : Ev d 23 13 [a0, some (vO x)] st h = Ev d 23 14 [a0, some (vO x)] (vO x :: st) h := Rnx (hB_23) (dX3_copyFrom_13) rfl
set_option maxRecDepth 100000 in
theorem v23_14 {d : Nat} {ls : LS3} {st : List MV} {h : Hp} {a : A3} (hS : gS h a = (1, 3)) : Ev d 23 14 ls (vR a :: st) h = Ev d 23 17 ls (vI (gI h a 6) :: st) h := Rget hB_23 dX3_copyFrom_14 rfl (Or.inl hS)
set_option maxRecDepth 100000 in
theorem v23_17 {d : Nat} {ls : LS3} {st : List MV} {h : Hp} {a : A3} {x0 : Int32} {x1 : Int32} {x2 : Int32} {x3 : Int32} (hS : gS h a = (1, 3)) (hc : catS st ≤ 8) : Ev (d + 1) 23 17 ls (vI x3 :: vI x2 :: vI x1 :: vI x0 :: vR a :: st) h = Evk 21 (d + 1) 23 17 ls st (Ev d 21 0 [some (vR a), some (vI x0), some (vI x1), some (vI x2), some (vI x3)] [] h) := RcallO (idx := 31) (n := 4) (kd := 0) (As' := [vI x0, vI x1, vI x2, vI x3]) hB_23 dX3_copyFrom_17 rfl rfl (by decide) rfl rfl (Or.inl hS) rfl hc
theorem v23_20 {d : Nat} {st : List MV} {h : Hp} {x : Option A3} {a1 : Option MV} : Ev d 23 20 [some (vO x), a1] st h = Ev d 23 21 [some (vO x), a1] (vO x :: st) h := Rnx (hB_23) (dX3_copyFrom_20) rfl
theorem v23_21 {d : Nat} {st : List MV} {h : Hp} {x : Option A3} {a0 : Option MV} : Ev d 23 21 [a0, some (vO x)] st h = Ev d 23 22 [a0, some (vO x)] (vO x :: st) h := Rnx (hB_23) (dX3_copyFrom_21) rfl
set_option maxRecDepth 100000 in
theorem v23_22 {d : Nat} {ls : LS3} {st : List MV} {h : Hp} {a : A3} (hS : gS h a = (1, 3)) : Ev d 23 22 ls (vR a :: st) h = Ev d 23 25 ls (vI (gI h a 7) :: st) h := Rget hB_23 dX3_copyFrom_22 rfl (Or.inl hS)
set_option maxRecDepth 100000 in
theorem v23_25 {d : Nat} {ls : LS3} {st : List MV} {h : Hp} {a : A3} {x : Int32} (hS : gS h a = (1, 3)) : Ev d 23 25 ls (vI x :: vR a :: st) h = Ev d 23 28 ls st (sI h a 7 x) := RputI hB_23 dX3_copyFrom_25 rfl rfl (by decide) hS (Or.inl rfl)
theorem v23_28 {d : Nat} {st : List MV} {h : Hp} {x : Option A3} {a1 : Option MV} : Ev d 23 28 [some (vO x), a1] st h = Ev d 23 29 [some (vO x), a1] (vO x :: st) h := Rnx (hB_23) (dX3_copyFrom_28) rfl
theorem v23_29 {d : Nat} {st : List MV} {h : Hp} {x : Option A3} {a0 : Option MV} : Ev d 23 29 [a0, some (vO x)] st h = Ev d 23 30 [a0, some (vO x)] (vO x :: st) h := Rnx (hB_23) (dX3_copyFrom_29) rfl
set_option maxRecDepth 100000 in
theorem v23_30 {d : Nat} {ls : LS3} {st : List MV} {h : Hp} {a : A3} (hS : gS h a = (1, 3)) : Ev d 23 30 ls (vR a :: st) h = Ev d 23 33 ls (vI (gI h a 2) :: st) h := Rget hB_23 dX3_copyFrom_30 rfl (Or.inl hS)
set_option maxRecDepth 100000 in
theorem v23_33 {d : Nat} {ls : LS3} {st : List MV} {h : Hp} {a : A3} {x : Int32} (hS : gS h a = (1, 3)) : Ev d 23 33 ls (vI x :: vR a :: st) h = Ev d 23 36 ls st (sI h a 2 x) := RputI hB_23 dX3_copyFrom_33 rfl rfl (by decide) hS (Or.inl rfl)
theorem v23_36 {d : Nat} {st : List MV} {h : Hp} {x : Option A3} {a0 : Option MV} : Ev d 23 36 [a0, some (vO x)] st h = Ev d 23 37 [a0, some (vO x)] (vO x :: st) h := Rnx (hB_23) (dX3_copyFrom_36) rfl
set_option maxRecDepth 100000 in
theorem v23_37 {d : Nat} {ls : LS3} {st : List MV} {h : Hp} {a : A3} (hS : gS h a = (1, 3)) : Ev d 23 37 ls (vR a :: st) h = Ev d 23 40 ls (vO (gR h a 1) :: st) h := Rget hB_23 dX3_copyFrom_37 rfl (Or.inl hS)
theorem v23_40 {d : Nat} {ls : LS3} {st : List MV} {h : Hp} : Ev d 23 40 ls st h = Ev d 23 41 ls (vI 0 :: st) h := Rnx (hB_23) (dX3_copyFrom_40) rfl
theorem v23_41 {d : Nat} {st : List MV} {h : Hp} {x : Option A3} {a1 : Option MV} : Ev d 23 41 [some (vO x), a1] st h = Ev d 23 42 [some (vO x), a1] (vO x :: st) h := Rnx (hB_23) (dX3_copyFrom_41) rfl
set_option maxRecDepth 100000 in
theorem v23_42 {d : Nat} {ls : LS3} {st : List MV} {h : Hp} {a : A3} (hS : gS h a = (1, 3)) : Ev d 23 42 ls (vR a :: st) h = Ev d 23 45 ls (vO (gR h a 1) :: st) h := Rget hB_23 dX3_copyFrom_42 rfl (Or.inl hS)
theorem v23_45 {d : Nat} {ls : LS3} {st : List MV} {h : Hp} : Ev d 23 45 ls st h = Ev d 23 46 ls (vI 0 :: st) h := Rnx (hB_23) (dX3_copyFrom_45) rfl
theorem v23_46 {d : Nat} {st : List MV} {h : Hp} {x : Option A3} {a1 : Option MV} : Ev d 23 46 [some (vO x), a1] st h = Ev d 23 47 [some (vO x), a1] (vO x :: st) h := Rnx (hB_23) (dX3_copyFrom_46) rfl
set_option maxRecDepth 100000 in
theorem v23_47 {d : Nat} {ls : LS3} {st : List MV} {h : Hp} {a : A3} (hS : gS h a = (1, 3)) : Ev d 23 47 ls (vR a :: st) h = Ev d 23 50 ls (vO (gR h a 1) :: st) h := Rget hB_23 dX3_copyFrom_47 rfl (Or.inl hS)
theorem v23_50 {d : Nat} {ls : LS3} {st : List MV} {h : Hp} {a : A3} (hS : 2 ≤ (gS h a).1 ∧ (gS h a).1 ≤ 10) : Ev d 23 50 ls (vR a :: st) h = Ev d 23 51 ls (vI (Int32.ofNat (gS h a).2) :: st) h := Rlen hB_23 dX3_copyFrom_50 hS
set_option maxRecDepth 100000 in
theorem v23_51 {d : Nat} {ls : LS3} {st : List MV} {h : Hp} {a b : A3} {sp dp n : Int32} (hc : catS st ≤ 8) (hab : a ≠ b) (hn : 0 ≤ n) (hdp : 0 ≤ dp) (hsp : 0 ≤ sp) (h1 : sp.toNatClampNeg + n.toNatClampNeg ≤ (gS h a).2) (h2 : dp.toNatClampNeg + n.toNatClampNeg ≤ (gS h b).2) (hk : ((gS h a).1 = 2 ∧ (gS h b).1 = 2) ∨ ((gS h a).1 = 4 ∧ (gS h b).1 = 4)) : Ev d 23 51 ls (vI n :: vI dp :: vR b :: vI sp :: vR a :: st) h = Ev d 23 54 ls st (if (gS h a).1 = 2 then cpI h a sp.toNatClampNeg b dp.toNatClampNeg n.toNatClampNeg else cpL h a sp.toNatClampNeg b dp.toNatClampNeg n.toNatClampNeg) := Rcpy hB_23 dX3_copyFrom_51 rfl hc hab hn hdp hsp h1 h2 hk
theorem v23_54 {d : Nat} {ls : LS3} {h : Hp} : Ev d 23 54 ls [] h = some (.inl none, h) := Rdn hB_23 dX3_copyFrom_54 rfl
theorem hB_24 : mB 24 = cX3_bit := rfl
theorem v24_0 {d : Nat} {ls : LS3} {st : List MV} {h : Hp} : Ev d 24 0 ls st h = Ev d 24 1 ls (vI 1 :: st) h := Rnx (hB_24) (dX3_bit_0) rfl
theorem v24_1 {d : Nat} {st : List MV} {h : Hp} {x : Option A3} : Ev d 24 1 [some (vO x)] st h = Ev d 24 2 [some (vO x)] (vO x :: st) h := Rnx (hB_24) (dX3_bit_1) rfl
set_option maxRecDepth 100000 in
theorem v24_2 {d : Nat} {ls : LS3} {st : List MV} {h : Hp} {a : A3} (hS : gS h a = (1, 3)) : Ev d 24 2 ls (vR a :: st) h = Ev d 24 5 ls (vI (gI h a 0) :: st) h := Rget hB_24 dX3_bit_2 rfl (Or.inl hS)
theorem v24_5 {d : Nat} {ls : LS3} {st : List MV} {h : Hp} {x y : Int32} : Ev d 24 5 ls (vI y :: vI x :: st) h = Ev d 24 6 ls (vI (x <<< (y &&& 31)) :: st) h := Rnx (hB_24) (dX3_bit_5) rfl
theorem v24_6 {d : Nat} {ls : LS3} {h : Hp} {x : Int32} : Ev d 24 6 ls [vI x] h = some (.inl (some (vI x)), h) := Rdn hB_24 dX3_bit_6 rfl
theorem hB_25 : mB 25 = cX3_isIn := rfl
theorem v25_0 {d : Nat} {st : List MV} {h : Hp} {x : Int32} {a0 : Option MV} : Ev d 25 0 [a0, some (vI x)] st h = Ev d 25 1 [a0, some (vI x)] (vI x :: st) h := Rnx (hB_25) (dX3_isIn_0) rfl
theorem v25_1 {d : Nat} {st : List MV} {h : Hp} {x : Option A3} {a1 : Option MV} : Ev d 25 1 [some (vO x), a1] st h = Ev d 25 2 [some (vO x), a1] (vO x :: st) h := Rnx (hB_25) (dX3_isIn_1) rfl
set_option maxRecDepth 100000 in
theorem v25_2 {d : Nat} {ls : LS3} {st : List MV} {h : Hp} {a : A3} (hS : gS h a = (1, 3)) : Ev d 25 2 ls (vR a :: st) h = Ev d 25 5 ls (vI (gI h a 0) :: st) h := Rget hB_25 dX3_isIn_2 rfl (Or.inl hS)
theorem v25_5 {d : Nat} {ls : LS3} {st : List MV} {h : Hp} {x y : Int32} : Ev d 25 5 ls (vI y :: vI x :: st) h = Ev d 25 6 ls (vI (x >>> (y &&& 31)) :: st) h := Rnx (hB_25) (dX3_isIn_5) rfl
theorem v25_6 {d : Nat} {ls : LS3} {st : List MV} {h : Hp} : Ev d 25 6 ls st h = Ev d 25 7 ls (vI 1 :: st) h := Rnx (hB_25) (dX3_isIn_6) rfl
theorem v25_7 {d : Nat} {ls : LS3} {st : List MV} {h : Hp} {x y : Int32} : Ev d 25 7 ls (vI y :: vI x :: st) h = Ev d 25 8 ls (vI (x &&& y) :: st) h := Rnx (hB_25) (dX3_isIn_7) rfl
theorem v25_8 {d : Nat} {ls : LS3} {st : List MV} {h : Hp} {x : Int32} : Ev d 25 8 ls (vI x :: st) h = if x = 0 then Ev d 25 15 ls st h else Ev d 25 11 ls st h := Rif hB_25 dX3_isIn_8 rfl
theorem v25_11 {d : Nat} {ls : LS3} {st : List MV} {h : Hp} : Ev d 25 11 ls st h = Ev d 25 12 ls (vI 1 :: st) h := Rnx (hB_25) (dX3_isIn_11) rfl
theorem v25_12 {d : Nat} {ls : LS3} {st : List MV} {h : Hp} : Ev d 25 12 ls st h = Ev d 25 16 ls st h := Rnx (hB_25) (dX3_isIn_12) rfl
theorem v25_15 {d : Nat} {ls : LS3} {st : List MV} {h : Hp} : Ev d 25 15 ls st h = Ev d 25 16 ls (vI 0 :: st) h := Rnx (hB_25) (dX3_isIn_15) rfl
theorem v25_16 {d : Nat} {ls : LS3} {h : Hp} {x : Int32} (hx : x = 0 ∨ x = 1) : Ev d 25 16 ls [vI x] h = some (.inl (some (vI x)), h) := RretB hB_25 dX3_isIn_16 rfl hx
theorem hB_26 : mB 26 = cX3_markConflict := rfl
theorem v26_0 {d : Nat} {st : List MV} {h : Hp} {x : Option A3} {a1 a2 : Option MV} : Ev d 26 0 [some (vO x), a1, a2] st h = Ev d 26 1 [some (vO x), a1, a2] (vO x :: st) h := Rnx (hB_26) (dX3_markConflict_0) rfl
theorem v26_1 {d : Nat} {st : List MV} {h : Hp} {x : Int32} {a0 a1 : Option MV} : Ev d 26 1 [a0, a1, some (vI x)] st h = Ev d 26 2 [a0, a1, some (vI x)] (vI x :: st) h := Rnx (hB_26) (dX3_markConflict_1) rfl
theorem v26_2 {d : Nat} {ls : LS3} {st : List MV} {h : Hp} {x : Int32} : Ev d 26 2 ls (vI x :: st) h = if x = 0 then Ev d 26 17 ls st h else Ev d 26 5 ls st h := Rif hB_26 dX3_markConflict_2 rfl
theorem v26_5 {d : Nat} {st : List MV} {h : Hp} {x : Option A3} {a1 a2 : Option MV} : Ev d 26 5 [some (vO x), a1, a2] st h = Ev d 26 6 [some (vO x), a1, a2] (vO x :: st) h := Rnx (hB_26) (dX3_markConflict_5) rfl
set_option maxRecDepth 100000 in
theorem v26_6 {d : Nat} {ls : LS3} {st : List MV} {h : Hp} {a : A3} (hS : gS h a = (1, 3)) : Ev d 26 6 ls (vR a :: st) h = Ev d 26 9 ls (vI (gI h a 7) :: st) h := Rget hB_26 dX3_markConflict_6 rfl (Or.inl hS)
theorem v26_9 {d : Nat} {st : List MV} {h : Hp} {x : Option A3} {a0 a2 : Option MV} : Ev d 26 9 [a0, some (vO x), a2] st h = Ev d 26 10 [a0, some (vO x), a2] (vO x :: st) h := Rnx (hB_26) (dX3_markConflict_9) rfl
set_option maxRecDepth 100000 in
theorem v26_10 {d : Nat} {ls : LS3} {st : List MV} {h : Hp} {a : A3}  (hS : gS h a = (1, 3)) (hc : catS st ≤ 8) : Ev (d + 1) 26 10 ls (vR a :: st) h = Evk 24 (d + 1) 26 10 ls st (Ev d 24 0 [some (vR a)] [] h) := RcallO (idx := 47) (n := 0) (kd := 0) (As' := []) hB_26 dX3_markConflict_10 rfl rfl (by decide) rfl rfl (Or.inl hS) rfl hc
theorem v26_13 {d : Nat} {ls : LS3} {st : List MV} {h : Hp} {x y : Int32} : Ev d 26 13 ls (vI y :: vI x :: st) h = Ev d 26 14 ls (vI (x ||| y) :: st) h := Rnx (hB_26) (dX3_markConflict_13) rfl
theorem v26_14 {d : Nat} {ls : LS3} {st : List MV} {h : Hp} : Ev d 26 14 ls st h = Ev d 26 28 ls st h := Rnx (hB_26) (dX3_markConflict_14) rfl
theorem v26_17 {d : Nat} {st : List MV} {h : Hp} {x : Option A3} {a1 a2 : Option MV} : Ev d 26 17 [some (vO x), a1, a2] st h = Ev d 26 18 [some (vO x), a1, a2] (vO x :: st) h := Rnx (hB_26) (dX3_markConflict_17) rfl
set_option maxRecDepth 100000 in
theorem v26_18 {d : Nat} {ls : LS3} {st : List MV} {h : Hp} {a : A3} (hS : gS h a = (1, 3)) : Ev d 26 18 ls (vR a :: st) h = Ev d 26 21 ls (vI (gI h a 7) :: st) h := Rget hB_26 dX3_markConflict_18 rfl (Or.inl hS)
theorem v26_21 {d : Nat} {st : List MV} {h : Hp} {x : Option A3} {a0 a2 : Option MV} : Ev d 26 21 [a0, some (vO x), a2] st h = Ev d 26 22 [a0, some (vO x), a2] (vO x :: st) h := Rnx (hB_26) (dX3_markConflict_21) rfl
set_option maxRecDepth 100000 in
theorem v26_22 {d : Nat} {ls : LS3} {st : List MV} {h : Hp} {a : A3}  (hS : gS h a = (1, 3)) (hc : catS st ≤ 8) : Ev (d + 1) 26 22 ls (vR a :: st) h = Evk 24 (d + 1) 26 22 ls st (Ev d 24 0 [some (vR a)] [] h) := RcallO (idx := 47) (n := 0) (kd := 0) (As' := []) hB_26 dX3_markConflict_22 rfl rfl (by decide) rfl rfl (Or.inl hS) rfl hc
theorem v26_25 {d : Nat} {ls : LS3} {st : List MV} {h : Hp} : Ev d 26 25 ls st h = Ev d 26 26 ls (vI (-1) :: st) h := Rnx (hB_26) (dX3_markConflict_25) rfl
theorem v26_26 {d : Nat} {ls : LS3} {st : List MV} {h : Hp} {x y : Int32} : Ev d 26 26 ls (vI y :: vI x :: st) h = Ev d 26 27 ls (vI (x ^^^ y) :: st) h := Rnx (hB_26) (dX3_markConflict_26) rfl
theorem v26_27 {d : Nat} {ls : LS3} {st : List MV} {h : Hp} {x y : Int32} : Ev d 26 27 ls (vI y :: vI x :: st) h = Ev d 26 28 ls (vI (x &&& y) :: st) h := Rnx (hB_26) (dX3_markConflict_27) rfl
set_option maxRecDepth 100000 in
theorem v26_28 {d : Nat} {ls : LS3} {st : List MV} {h : Hp} {a : A3} {x : Int32} (hS : gS h a = (1, 3)) : Ev d 26 28 ls (vI x :: vR a :: st) h = Ev d 26 31 ls st (sI h a 7 x) := RputI hB_26 dX3_markConflict_28 rfl rfl (by decide) hS (Or.inl rfl)
theorem v26_31 {d : Nat} {ls : LS3} {h : Hp} : Ev d 26 31 ls [] h = some (.inl none, h) := Rdn hB_26 dX3_markConflict_31 rfl
theorem hB_27 : mB 27 = cX3_busyOn := rfl
theorem v27_0 {d : Nat} {st : List MV} {h : Hp} {x : Int32} {a0 a2 : Option MV} : Ev d 27 0 [a0, some (vI x), a2] st h = Ev d 27 1 [a0, some (vI x), a2] (vI x :: st) h := Rnx (hB_27) (dX3_busyOn_0) rfl
theorem v27_1 {d : Nat} {ls : LS3} {st : List MV} {h : Hp} : Ev d 27 1 ls st h = Ev d 27 3 ls (vI 8 :: st) h := Rnx (hB_27) (dX3_busyOn_1) rfl
theorem v27_3 {d : Nat} {ls : LS3} {st : List MV} {h : Hp} {x y : Int32} (hy : y ≠ 0) : Ev d 27 3 ls (vI y :: vI x :: st) h = Ev d 27 4 ls (vI (x / y) :: st) h := Rdiv hB_27 dX3_busyOn_3 hy
theorem v27_4 {d : Nat} {st : List MV} {h : Hp} {x : Int32} {a0 a1 a2 : Option MV} : Ev d 27 4 [a0, a1, a2] (vI x :: st) h = Ev d 27 5 [a0, a1, some (vI x)] st h := Rnx (hB_27) (dX3_busyOn_4) rfl
theorem v27_5 {d : Nat} {st : List MV} {h : Hp} {x : Int32} {a0 a2 : Option MV} : Ev d 27 5 [a0, some (vI x), a2] st h = Ev d 27 6 [a0, some (vI x), a2] (vI x :: st) h := Rnx (hB_27) (dX3_busyOn_5) rfl
theorem v27_6 {d : Nat} {ls : LS3} {st : List MV} {h : Hp} {x : Int32} : Ev d 27 6 ls (vI x :: st) h = if x < 0 then Ev d 27 18 ls st h else Ev d 27 9 ls st h := Rif hB_27 dX3_busyOn_6 rfl
theorem v27_9 {d : Nat} {st : List MV} {h : Hp} {x : Int32} {a0 a1 : Option MV} : Ev d 27 9 [a0, a1, some (vI x)] st h = Ev d 27 10 [a0, a1, some (vI x)] (vI x :: st) h := Rnx (hB_27) (dX3_busyOn_9) rfl
theorem v27_10 {d : Nat} {st : List MV} {h : Hp} {x : Option A3} {a1 a2 : Option MV} : Ev d 27 10 [some (vO x), a1, a2] st h = Ev d 27 11 [some (vO x), a1, a2] (vO x :: st) h := Rnx (hB_27) (dX3_busyOn_10) rfl
set_option maxRecDepth 100000 in
theorem v27_11 {d : Nat} {ls : LS3} {st : List MV} {h : Hp} {a : A3} (hS : gS h a = (1, 3)) : Ev d 27 11 ls (vR a :: st) h = Ev d 27 14 ls (vO (gR h a 1) :: st) h := Rget hB_27 dX3_busyOn_11 rfl (Or.inl hS)
theorem v27_14 {d : Nat} {ls : LS3} {st : List MV} {h : Hp} {a : A3} (hS : 2 ≤ (gS h a).1 ∧ (gS h a).1 ≤ 10) : Ev d 27 14 ls (vR a :: st) h = Ev d 27 15 ls (vI (Int32.ofNat (gS h a).2) :: st) h := Rlen hB_27 dX3_busyOn_14 hS
theorem v27_15 {d : Nat} {ls : LS3} {st : List MV} {h : Hp} {x y : Int32} : Ev d 27 15 ls (vI y :: vI x :: st) h = if x < y then Ev d 27 20 ls st h else Ev d 27 18 ls st h := Rif hB_27 dX3_busyOn_15 rfl
theorem v27_18 {d : Nat} {ls : LS3} {st : List MV} {h : Hp} : Ev d 27 18 ls st h = Ev d 27 19 ls (vI 0 :: st) h := Rnx (hB_27) (dX3_busyOn_18) rfl
theorem v27_19 {d : Nat} {ls : LS3} {h : Hp} {x : Int32} : Ev d 27 19 ls [vI x] h = some (.inl (some (vI x)), h) := Rdn hB_27 dX3_busyOn_19 rfl
theorem v27_20 {d : Nat} {st : List MV} {h : Hp} {x : Option A3} {a1 a2 : Option MV} : Ev d 27 20 [some (vO x), a1, a2] st h = Ev d 27 21 [some (vO x), a1, a2] (vO x :: st) h := Rnx (hB_27) (dX3_busyOn_20) rfl
set_option maxRecDepth 100000 in
theorem v27_21 {d : Nat} {ls : LS3} {st : List MV} {h : Hp} {a : A3} (hS : gS h a = (1, 3)) : Ev d 27 21 ls (vR a :: st) h = Ev d 27 24 ls (vO (gR h a 1) :: st) h := Rget hB_27 dX3_busyOn_21 rfl (Or.inl hS)
theorem v27_24 {d : Nat} {st : List MV} {h : Hp} {x : Int32} {a0 a1 : Option MV} : Ev d 27 24 [a0, a1, some (vI x)] st h = Ev d 27 25 [a0, a1, some (vI x)] (vI x :: st) h := Rnx (hB_27) (dX3_busyOn_24) rfl
theorem v27_25 {d : Nat} {ls : LS3} {st : List MV} {h : Hp} {a : A3} {j : Int32} (hS : (gS h a).1 ∈ [4]) (hj : inB j (gS h a).2) : Ev d 27 25 ls (vI j :: vR a :: st) h = Ev d 27 26 ls (vL (gL h a j.toNatClampNeg) :: st) h := Rald (ks := [4]) (f := fun a j => vL (gL h a j)) hB_27 dX3_busyOn_25 rfl hS hj
theorem v27_26 {d : Nat} {st : List MV} {h : Hp} {x : Int32} {a0 a2 : Option MV} : Ev d 27 26 [a0, some (vI x), a2] st h = Ev d 27 27 [a0, some (vI x), a2] (vI x :: st) h := Rnx (hB_27) (dX3_busyOn_26) rfl
theorem v27_27 {d : Nat} {ls : LS3} {st : List MV} {h : Hp} : Ev d 27 27 ls st h = Ev d 27 29 ls (vI 8 :: st) h := Rnx (hB_27) (dX3_busyOn_27) rfl
theorem v27_29 {d : Nat} {ls : LS3} {st : List MV} {h : Hp} {x y : Int32} (hy : y ≠ 0) : Ev d 27 29 ls (vI y :: vI x :: st) h = Ev d 27 30 ls (vI (x - x / y * y) :: st) h := Rrem hB_27 dX3_busyOn_29 hy
theorem v27_30 {d : Nat} {ls : LS3} {st : List MV} {h : Hp} : Ev d 27 30 ls st h = Ev d 27 32 ls (vI 8 :: st) h := Rnx (hB_27) (dX3_busyOn_30) rfl
theorem v27_32 {d : Nat} {ls : LS3} {st : List MV} {h : Hp} {x y : Int32} : Ev d 27 32 ls (vI y :: vI x :: st) h = Ev d 27 33 ls (vI (x * y) :: st) h := Rnx (hB_27) (dX3_busyOn_32) rfl
theorem v27_33 {d : Nat} {ls : LS3} {st : List MV} {h : Hp} {x : Int64} {y : Int32} : Ev d 27 33 ls (vI y :: vL x :: st) h = Ev d 27 34 ls (vL (x.toUInt64 >>> (y.toInt64.toUInt64 &&& Int64.toUInt64 63)).toInt64 :: st) h := Rnx (hB_27) (dX3_busyOn_33) rfl
theorem v27_34 {d : Nat} {ls : LS3} {st : List MV} {h : Hp} {x : Int64} : Ev d 27 34 ls (vL x :: st) h = Ev d 27 35 ls (vI x.toInt32 :: st) h := Rnx (hB_27) (dX3_busyOn_34) rfl
theorem v27_35 {d : Nat} {ls : LS3} {st : List MV} {h : Hp} : Ev d 27 35 ls st h = Ev d 27 38 ls (vI 255 :: st) h := Rnx (hB_27) (dX3_busyOn_35) rfl
theorem v27_38 {d : Nat} {ls : LS3} {st : List MV} {h : Hp} {x y : Int32} : Ev d 27 38 ls (vI y :: vI x :: st) h = Ev d 27 39 ls (vI (x &&& y) :: st) h := Rnx (hB_27) (dX3_busyOn_38) rfl
theorem v27_39 {d : Nat} {ls : LS3} {h : Hp} {x : Int32} : Ev d 27 39 ls [vI x] h = some (.inl (some (vI x)), h) := Rdn hB_27 dX3_busyOn_39 rfl
theorem hB_28 : mB 28 = cX3_isBusy := rfl
theorem v28_0 {d : Nat} {st : List MV} {h : Hp} {x : Option A3} {a1 a2 : Option MV} : Ev d 28 0 [some (vO x), a1, a2] st h = Ev d 28 1 [some (vO x), a1, a2] (vO x :: st) h := Rnx (hB_28) (dX3_isBusy_0) rfl
theorem v28_1 {d : Nat} {st : List MV} {h : Hp} {x : Int32} {a0 a2 : Option MV} : Ev d 28 1 [a0, some (vI x), a2] st h = Ev d 28 2 [a0, some (vI x), a2] (vI x :: st) h := Rnx (hB_28) (dX3_isBusy_1) rfl
set_option maxRecDepth 100000 in
theorem v28_2 {d : Nat} {ls : LS3} {st : List MV} {h : Hp} {a : A3} {x0 : Int32} (hS : gS h a = (1, 3)) (hc : catS st ≤ 8) : Ev (d + 1) 28 2 ls (vI x0 :: vR a :: st) h = Evk 27 (d + 1) 28 2 ls st (Ev d 27 0 [some (vR a), some (vI x0), none] [] h) := RcallO (idx := 51) (n := 1) (kd := 0) (As' := [vI x0]) hB_28 dX3_isBusy_2 rfl rfl (by decide) rfl rfl (Or.inl hS) rfl hc
theorem v28_5 {d : Nat} {st : List MV} {h : Hp} {x : Int32} {a0 a1 : Option MV} : Ev d 28 5 [a0, a1, some (vI x)] st h = Ev d 28 6 [a0, a1, some (vI x)] (vI x :: st) h := Rnx (hB_28) (dX3_isBusy_5) rfl
theorem v28_6 {d : Nat} {ls : LS3} {st : List MV} {h : Hp} {x y : Int32} : Ev d 28 6 ls (vI y :: vI x :: st) h = Ev d 28 7 ls (vI (x >>> (y &&& 31)) :: st) h := Rnx (hB_28) (dX3_isBusy_6) rfl
theorem v28_7 {d : Nat} {ls : LS3} {st : List MV} {h : Hp} : Ev d 28 7 ls st h = Ev d 28 8 ls (vI 1 :: st) h := Rnx (hB_28) (dX3_isBusy_7) rfl
theorem v28_8 {d : Nat} {ls : LS3} {st : List MV} {h : Hp} {x y : Int32} : Ev d 28 8 ls (vI y :: vI x :: st) h = Ev d 28 9 ls (vI (x &&& y) :: st) h := Rnx (hB_28) (dX3_isBusy_8) rfl
theorem v28_9 {d : Nat} {ls : LS3} {st : List MV} {h : Hp} {x : Int32} : Ev d 28 9 ls (vI x :: st) h = if x = 0 then Ev d 28 16 ls st h else Ev d 28 12 ls st h := Rif hB_28 dX3_isBusy_9 rfl
theorem v28_12 {d : Nat} {ls : LS3} {st : List MV} {h : Hp} : Ev d 28 12 ls st h = Ev d 28 13 ls (vI 1 :: st) h := Rnx (hB_28) (dX3_isBusy_12) rfl
theorem v28_13 {d : Nat} {ls : LS3} {st : List MV} {h : Hp} : Ev d 28 13 ls st h = Ev d 28 17 ls st h := Rnx (hB_28) (dX3_isBusy_13) rfl
theorem v28_16 {d : Nat} {ls : LS3} {st : List MV} {h : Hp} : Ev d 28 16 ls st h = Ev d 28 17 ls (vI 0 :: st) h := Rnx (hB_28) (dX3_isBusy_16) rfl
theorem v28_17 {d : Nat} {ls : LS3} {h : Hp} {x : Int32} (hx : x = 0 ∨ x = 1) : Ev d 28 17 ls [vI x] h = some (.inl (some (vI x)), h) := RretB hB_28 dX3_isBusy_17 rfl hx
theorem hB_29 : mB 29 = cX3_flipBusy := rfl
theorem v29_0 {d : Nat} {st : List MV} {h : Hp} {x : Int32} {a0 a2 a3 : Option MV} : Ev d 29 0 [a0, some (vI x), a2, a3] st h = Ev d 29 1 [a0, some (vI x), a2, a3] (vI x :: st) h := Rnx (hB_29) (dX3_flipBusy_0) rfl
theorem v29_1 {d : Nat} {ls : LS3} {st : List MV} {h : Hp} : Ev d 29 1 ls st h = Ev d 29 3 ls (vI 8 :: st) h := Rnx (hB_29) (dX3_flipBusy_1) rfl
theorem v29_3 {d : Nat} {ls : LS3} {st : List MV} {h : Hp} {x y : Int32} (hy : y ≠ 0) : Ev d 29 3 ls (vI y :: vI x :: st) h = Ev d 29 4 ls (vI (x / y) :: st) h := Rdiv hB_29 dX3_flipBusy_3 hy
theorem v29_4 {d : Nat} {st : List MV} {h : Hp} {x : Int32} {a0 a1 a2 a3 : Option MV} : Ev d 29 4 [a0, a1, a2, a3] (vI x :: st) h = Ev d 29 5 [a0, a1, a2, some (vI x)] st h := Rnx (hB_29) (dX3_flipBusy_4) rfl
theorem v29_5 {d : Nat} {st : List MV} {h : Hp} {x : Int32} {a0 a2 a3 : Option MV} : Ev d 29 5 [a0, some (vI x), a2, a3] st h = Ev d 29 6 [a0, some (vI x), a2, a3] (vI x :: st) h := Rnx (hB_29) (dX3_flipBusy_5) rfl
theorem v29_6 {d : Nat} {ls : LS3} {st : List MV} {h : Hp} {x : Int32} : Ev d 29 6 ls (vI x :: st) h = if x < 0 then Ev d 29 61 ls st h else Ev d 29 9 ls st h := Rif hB_29 dX3_flipBusy_6 rfl
theorem v29_9 {d : Nat} {st : List MV} {h : Hp} {x : Int32} {a0 a1 a2 : Option MV} : Ev d 29 9 [a0, a1, a2, some (vI x)] st h = Ev d 29 10 [a0, a1, a2, some (vI x)] (vI x :: st) h := Rnx (hB_29) (dX3_flipBusy_9) rfl
theorem v29_10 {d : Nat} {st : List MV} {h : Hp} {x : Option A3} {a1 a2 a3 : Option MV} : Ev d 29 10 [some (vO x), a1, a2, a3] st h = Ev d 29 11 [some (vO x), a1, a2, a3] (vO x :: st) h := Rnx (hB_29) (dX3_flipBusy_10) rfl
set_option maxRecDepth 100000 in
theorem v29_11 {d : Nat} {ls : LS3} {st : List MV} {h : Hp} {a : A3} (hS : gS h a = (1, 3)) : Ev d 29 11 ls (vR a :: st) h = Ev d 29 14 ls (vO (gR h a 1) :: st) h := Rget hB_29 dX3_flipBusy_11 rfl (Or.inl hS)
theorem v29_14 {d : Nat} {ls : LS3} {st : List MV} {h : Hp} {a : A3} (hS : 2 ≤ (gS h a).1 ∧ (gS h a).1 ≤ 10) : Ev d 29 14 ls (vR a :: st) h = Ev d 29 15 ls (vI (Int32.ofNat (gS h a).2) :: st) h := Rlen hB_29 dX3_flipBusy_14 hS
theorem v29_15 {d : Nat} {ls : LS3} {st : List MV} {h : Hp} {x y : Int32} : Ev d 29 15 ls (vI y :: vI x :: st) h = if y ≤ x then Ev d 29 61 ls st h else Ev d 29 18 ls st h := Rif hB_29 dX3_flipBusy_15 rfl
theorem v29_18 {d : Nat} {st : List MV} {h : Hp} {x : Option A3} {a1 a2 a3 : Option MV} : Ev d 29 18 [some (vO x), a1, a2, a3] st h = Ev d 29 19 [some (vO x), a1, a2, a3] (vO x :: st) h := Rnx (hB_29) (dX3_flipBusy_18) rfl
theorem v29_19 {d : Nat} {ls : LS3} {st : List MV} {h : Hp} {v : MV} (hv : cat1 v = true) : Ev d 29 19 ls (v :: st) h = Ev d 29 20 ls (v :: v :: st) h := Rdup hB_29 dX3_flipBusy_19 hv
set_option maxRecDepth 100000 in
theorem v29_20 {d : Nat} {ls : LS3} {st : List MV} {h : Hp} {a : A3} (hS : gS h a = (1, 3)) : Ev d 29 20 ls (vR a :: st) h = Ev d 29 23 ls (vI (gI h a 2) :: st) h := Rget hB_29 dX3_flipBusy_20 rfl (Or.inl hS)
theorem v29_23 {d : Nat} {st : List MV} {h : Hp} {x : Option A3} {a1 a2 a3 : Option MV} : Ev d 29 23 [some (vO x), a1, a2, a3] st h = Ev d 29 24 [some (vO x), a1, a2, a3] (vO x :: st) h := Rnx (hB_29) (dX3_flipBusy_23) rfl
theorem v29_24 {d : Nat} {st : List MV} {h : Hp} {x : Int32} {a0 a2 a3 : Option MV} : Ev d 29 24 [a0, some (vI x), a2, a3] st h = Ev d 29 25 [a0, some (vI x), a2, a3] (vI x :: st) h := Rnx (hB_29) (dX3_flipBusy_24) rfl
theorem v29_25 {d : Nat} {st : List MV} {h : Hp} {x : Int32} {a0 a1 a3 : Option MV} : Ev d 29 25 [a0, a1, some (vI x), a3] st h = Ev d 29 26 [a0, a1, some (vI x), a3] (vI x :: st) h := Rnx (hB_29) (dX3_flipBusy_25) rfl
set_option maxRecDepth 100000 in
theorem v29_26 {d : Nat} {ls : LS3} {st : List MV} {h : Hp} {a : A3} {x0 : Int32} {x1 : Int32} (hS : gS h a = (1, 3)) (hc : catS st ≤ 8) : Ev (d + 1) 29 26 ls (vI x1 :: vI x0 :: vR a :: st) h = Evk 28 (d + 1) 29 26 ls st (Ev d 28 0 [some (vR a), some (vI x0), some (vI x1)] [] h) := RcallO (idx := 55) (n := 2) (kd := 0) (As' := [vI x0, vI x1]) hB_29 dX3_flipBusy_26 rfl rfl (by decide) rfl rfl (Or.inl hS) rfl hc
theorem v29_29 {d : Nat} {ls : LS3} {st : List MV} {h : Hp} {x : Int32} : Ev d 29 29 ls (vI x :: st) h = if x = 0 then Ev d 29 36 ls st h else Ev d 29 32 ls st h := Rif hB_29 dX3_flipBusy_29 rfl
theorem v29_32 {d : Nat} {ls : LS3} {st : List MV} {h : Hp} : Ev d 29 32 ls st h = Ev d 29 33 ls (vI (-1) :: st) h := Rnx (hB_29) (dX3_flipBusy_32) rfl
theorem v29_33 {d : Nat} {ls : LS3} {st : List MV} {h : Hp} : Ev d 29 33 ls st h = Ev d 29 37 ls st h := Rnx (hB_29) (dX3_flipBusy_33) rfl
theorem v29_36 {d : Nat} {ls : LS3} {st : List MV} {h : Hp} : Ev d 29 36 ls st h = Ev d 29 37 ls (vI 1 :: st) h := Rnx (hB_29) (dX3_flipBusy_36) rfl
theorem v29_37 {d : Nat} {ls : LS3} {st : List MV} {h : Hp} {x y : Int32} : Ev d 29 37 ls (vI y :: vI x :: st) h = Ev d 29 38 ls (vI (x + y) :: st) h := Rnx (hB_29) (dX3_flipBusy_37) rfl
set_option maxRecDepth 100000 in
theorem v29_38 {d : Nat} {ls : LS3} {st : List MV} {h : Hp} {a : A3} {x : Int32} (hS : gS h a = (1, 3)) : Ev d 29 38 ls (vI x :: vR a :: st) h = Ev d 29 41 ls st (sI h a 2 x) := RputI hB_29 dX3_flipBusy_38 rfl rfl (by decide) hS (Or.inl rfl)
theorem v29_41 {d : Nat} {st : List MV} {h : Hp} {x : Option A3} {a1 a2 a3 : Option MV} : Ev d 29 41 [some (vO x), a1, a2, a3] st h = Ev d 29 42 [some (vO x), a1, a2, a3] (vO x :: st) h := Rnx (hB_29) (dX3_flipBusy_41) rfl
set_option maxRecDepth 100000 in
theorem v29_42 {d : Nat} {ls : LS3} {st : List MV} {h : Hp} {a : A3} (hS : gS h a = (1, 3)) : Ev d 29 42 ls (vR a :: st) h = Ev d 29 45 ls (vO (gR h a 1) :: st) h := Rget hB_29 dX3_flipBusy_42 rfl (Or.inl hS)
theorem v29_45 {d : Nat} {st : List MV} {h : Hp} {x : Int32} {a0 a1 a2 : Option MV} : Ev d 29 45 [a0, a1, a2, some (vI x)] st h = Ev d 29 46 [a0, a1, a2, some (vI x)] (vI x :: st) h := Rnx (hB_29) (dX3_flipBusy_45) rfl
theorem v29_46 {d : Nat} {ls : LS3} {st : List MV} {h : Hp} {v w : MV} (hv : cat1 v = true) (hw : cat1 w = true) : Ev d 29 46 ls (v :: w :: st) h = Ev d 29 47 ls (v :: w :: v :: w :: st) h := Rdup2 hB_29 dX3_flipBusy_46 hv hw
theorem v29_47 {d : Nat} {ls : LS3} {st : List MV} {h : Hp} {a : A3} {j : Int32} (hS : (gS h a).1 ∈ [4]) (hj : inB j (gS h a).2) : Ev d 29 47 ls (vI j :: vR a :: st) h = Ev d 29 48 ls (vL (gL h a j.toNatClampNeg) :: st) h := Rald (ks := [4]) (f := fun a j => vL (gL h a j)) hB_29 dX3_flipBusy_47 rfl hS hj
theorem v29_48 {d : Nat} {ls : LS3} {st : List MV} {h : Hp} : Ev d 29 48 ls st h = Ev d 29 49 ls (vL 1 :: st) h := Rnx (hB_29) (dX3_flipBusy_48) rfl
theorem v29_49 {d : Nat} {st : List MV} {h : Hp} {x : Int32} {a0 a2 a3 : Option MV} : Ev d 29 49 [a0, some (vI x), a2, a3] st h = Ev d 29 50 [a0, some (vI x), a2, a3] (vI x :: st) h := Rnx (hB_29) (dX3_flipBusy_49) rfl
theorem v29_50 {d : Nat} {ls : LS3} {st : List MV} {h : Hp} : Ev d 29 50 ls st h = Ev d 29 52 ls (vI 8 :: st) h := Rnx (hB_29) (dX3_flipBusy_50) rfl
theorem v29_52 {d : Nat} {ls : LS3} {st : List MV} {h : Hp} {x y : Int32} (hy : y ≠ 0) : Ev d 29 52 ls (vI y :: vI x :: st) h = Ev d 29 53 ls (vI (x - x / y * y) :: st) h := Rrem hB_29 dX3_flipBusy_52 hy
theorem v29_53 {d : Nat} {ls : LS3} {st : List MV} {h : Hp} : Ev d 29 53 ls st h = Ev d 29 55 ls (vI 8 :: st) h := Rnx (hB_29) (dX3_flipBusy_53) rfl
theorem v29_55 {d : Nat} {ls : LS3} {st : List MV} {h : Hp} {x y : Int32} : Ev d 29 55 ls (vI y :: vI x :: st) h = Ev d 29 56 ls (vI (x * y) :: st) h := Rnx (hB_29) (dX3_flipBusy_55) rfl
theorem v29_56 {d : Nat} {st : List MV} {h : Hp} {x : Int32} {a0 a1 a3 : Option MV} : Ev d 29 56 [a0, a1, some (vI x), a3] st h = Ev d 29 57 [a0, a1, some (vI x), a3] (vI x :: st) h := Rnx (hB_29) (dX3_flipBusy_56) rfl
theorem v29_57 {d : Nat} {ls : LS3} {st : List MV} {h : Hp} {x y : Int32} : Ev d 29 57 ls (vI y :: vI x :: st) h = Ev d 29 58 ls (vI (x + y) :: st) h := Rnx (hB_29) (dX3_flipBusy_57) rfl
theorem v29_58 {d : Nat} {ls : LS3} {st : List MV} {h : Hp} {x : Int64} {y : Int32} : Ev d 29 58 ls (vI y :: vL x :: st) h = Ev d 29 59 ls (vL (x <<< (y.toInt64 &&& 63)) :: st) h := Rnx (hB_29) (dX3_flipBusy_58) rfl
theorem v29_59 {d : Nat} {ls : LS3} {st : List MV} {h : Hp} {x y : Int64} : Ev d 29 59 ls (vL y :: vL x :: st) h = Ev d 29 60 ls (vL (x ^^^ y) :: st) h := Rnx (hB_29) (dX3_flipBusy_59) rfl
theorem v29_60 {d : Nat} {ls : LS3} {st : List MV} {h : Hp} {a : A3} {j : Int32} {x : Int64} (hS : (gS h a).1 = 4) (hj : inB j (gS h a).2) : Ev d 29 60 ls (vL x :: vI j :: vR a :: st) h = Ev d 29 61 ls st (sL h a j.toNatClampNeg x) := RastL hB_29 dX3_flipBusy_60 hS hj
theorem v29_61 {d : Nat} {ls : LS3} {h : Hp} : Ev d 29 61 ls [] h = some (.inl none, h) := Rdn hB_29 dX3_flipBusy_61 rfl
theorem hB_30 : mB 30 = cX4_init := rfl
theorem v30_0 {d : Nat} {st : List MV} {h : Hp} {x : Option A3} {a1 : Option MV} : Ev d 30 0 [some (vO x), a1] st h = Ev d 30 1 [some (vO x), a1] (vO x :: st) h := Rnx (hB_30) (dX4_init_0) rfl
set_option maxRecDepth 100000 in
theorem v30_1 {d : Nat} {ls : LS3} {st : List MV} {h : Hp} {a : A3} (hc : catS st ≤ 8) : Ev d 30 1 ls (vR a :: st) h = Ev d 30 4 ls st h := Robj hB_30 dX4_init_1 rfl hc
theorem v30_4 {d : Nat} {st : List MV} {h : Hp} {x : Option A3} {a1 : Option MV} : Ev d 30 4 [some (vO x), a1] st h = Ev d 30 5 [some (vO x), a1] (vO x :: st) h := Rnx (hB_30) (dX4_init_4) rfl
theorem v30_5 {d : Nat} {ls : LS3} {st : List MV} {h : Hp} : Ev d 30 5 ls st h = Ev d 30 7 ls (vI 14 :: st) h := Rnx (hB_30) (dX4_init_5) rfl
theorem v30_7 {d : Nat} {ls : LS3} {st : List MV} {h : Hp} {n : Int32} (hn : 0 ≤ n ∧ n.toNatClampNeg ≤ 100000) (hF : Fresh h) : Ev d 30 7 ls (vI n :: st) h = Ev d 30 10 ls (vR (nm (cnt h)) :: st) (mk h (nm (cnt h)) (6, n.toNatClampNeg) n.toNatClampNeg) := Rnewa hB_30 dX4_init_7 rfl hn hF
set_option maxRecDepth 100000 in
theorem v30_10 {d : Nat} {ls : LS3} {st : List MV} {h : Hp} {a : A3} {o : Option A3} (hS : gS h a = (1, 4)) : Ev d 30 10 ls (vO o :: vR a :: st) h = Ev d 30 13 ls st (sR h a 0 o) := RputR hB_30 dX4_init_10 rfl rfl (by decide) hS
theorem v30_13 {d : Nat} {ls : LS3} {st : List MV} {h : Hp} : Ev d 30 13 ls st h = Ev d 30 14 ls (vI 0 :: st) h := Rnx (hB_30) (dX4_init_13) rfl
theorem v30_14 {d : Nat} {st : List MV} {h : Hp} {x : Int32} {a0 a1 : Option MV} : Ev d 30 14 [a0, a1] (vI x :: st) h = Ev d 30 15 [a0, some (vI x)] st h := Rnx (hB_30) (dX4_init_14) rfl
theorem v30_15 {d : Nat} {st : List MV} {h : Hp} {x : Int32} {a0 : Option MV} : Ev d 30 15 [a0, some (vI x)] st h = Ev d 30 16 [a0, some (vI x)] (vI x :: st) h := Rnx (hB_30) (dX4_init_15) rfl
theorem v30_16 {d : Nat} {st : List MV} {h : Hp} {x : Option A3} {a1 : Option MV} : Ev d 30 16 [some (vO x), a1] st h = Ev d 30 17 [some (vO x), a1] (vO x :: st) h := Rnx (hB_30) (dX4_init_16) rfl
set_option maxRecDepth 100000 in
theorem v30_17 {d : Nat} {ls : LS3} {st : List MV} {h : Hp} {a : A3} (hS : gS h a = (1, 4)) : Ev d 30 17 ls (vR a :: st) h = Ev d 30 20 ls (vO (gR h a 0) :: st) h := Rget hB_30 dX4_init_17 rfl (Or.inl hS)
theorem v30_20 {d : Nat} {ls : LS3} {st : List MV} {h : Hp} {a : A3} (hS : 2 ≤ (gS h a).1 ∧ (gS h a).1 ≤ 10) : Ev d 30 20 ls (vR a :: st) h = Ev d 30 21 ls (vI (Int32.ofNat (gS h a).2) :: st) h := Rlen hB_30 dX4_init_20 hS
theorem v30_21 {d : Nat} {ls : LS3} {st : List MV} {h : Hp} {x y : Int32} : Ev d 30 21 ls (vI y :: vI x :: st) h = if y ≤ x then Ev d 30 44 ls st h else Ev d 30 24 ls st h := Rif hB_30 dX4_init_21 rfl
theorem v30_24 {d : Nat} {st : List MV} {h : Hp} {x : Option A3} {a1 : Option MV} : Ev d 30 24 [some (vO x), a1] st h = Ev d 30 25 [some (vO x), a1] (vO x :: st) h := Rnx (hB_30) (dX4_init_24) rfl
set_option maxRecDepth 100000 in
theorem v30_25 {d : Nat} {ls : LS3} {st : List MV} {h : Hp} {a : A3} (hS : gS h a = (1, 4)) : Ev d 30 25 ls (vR a :: st) h = Ev d 30 28 ls (vO (gR h a 0) :: st) h := Rget hB_30 dX4_init_25 rfl (Or.inl hS)
theorem v30_28 {d : Nat} {st : List MV} {h : Hp} {x : Int32} {a0 : Option MV} : Ev d 30 28 [a0, some (vI x)] st h = Ev d 30 29 [a0, some (vI x)] (vI x :: st) h := Rnx (hB_30) (dX4_init_28) rfl
theorem v30_29 {d : Nat} {ls : LS3} {st : List MV} {h : Hp} (hF : Fresh h) : Ev d 30 29 ls st h = Ev d 30 32 ls (vR (nm (cnt h)) :: st) (mk h (nm (cnt h)) (1, 3) 8) := Rnew hB_30 dX4_init_29 rfl hF
theorem v30_32 {d : Nat} {ls : LS3} {st : List MV} {h : Hp} {v : MV} (hv : cat1 v = true) : Ev d 30 32 ls (v :: st) h = Ev d 30 33 ls (v :: v :: st) h := Rdup hB_30 dX4_init_32 hv
theorem v30_33 {d : Nat} {st : List MV} {h : Hp} {x : Int32} {a0 : Option MV} : Ev d 30 33 [a0, some (vI x)] st h = Ev d 30 34 [a0, some (vI x)] (vI x :: st) h := Rnx (hB_30) (dX4_init_33) rfl
set_option maxRecDepth 100000 in
theorem v30_34 {d : Nat} {ls : LS3} {st : List MV} {h : Hp} {a : A3} {x0 : Int32} (hS : gS h a = (1, 3)) (hc : catS st ≤ 8) : Ev (d + 1) 30 34 ls (vI x0 :: vR a :: st) h = Evk 20 (d + 1) 30 34 ls st (Ev d 20 0 [some (vR a), some (vI x0)] [] h) := RcallO (idx := 17) (n := 1) (kd := 2) (As' := [vI x0]) hB_30 dX4_init_34 rfl rfl (by decide) rfl rfl (Or.inl hS) rfl hc
theorem v30_37 {d : Nat} {ls : LS3} {st : List MV} {h : Hp} {a v : A3} {j : Int32} (hS : (gS h a).1 = 6 ∨ (gS h a).1 = 7 ∨ (gS h a).1 = 8) (hj : inB j (gS h a).2) (hv : gS h v = (1, elemC (gS h a).1)) : Ev d 30 37 ls (vR v :: vI j :: vR a :: st) h = Ev d 30 38 ls st (sR h a j.toNatClampNeg (some v)) := RastA hB_30 dX4_init_37 hS hj hv
theorem v30_38 {d : Nat} {st : List MV} {h : Hp} {x : Int32} {a0 : Option MV} : Ev d 30 38 [a0, some (vI x)] st h = Ev d 30 41 [a0, some (vI (x + 1))] st h := Rnx (hB_30) (dX4_init_38) rfl
theorem v30_41 {d : Nat} {ls : LS3} {st : List MV} {h : Hp} : Ev d 30 41 ls st h = Ev d 30 15 ls st h := Rnx (hB_30) (dX4_init_41) rfl
theorem v30_44 {d : Nat} {st : List MV} {h : Hp} {x : Option A3} {a1 : Option MV} : Ev d 30 44 [some (vO x), a1] st h = Ev d 30 45 [some (vO x), a1] (vO x :: st) h := Rnx (hB_30) (dX4_init_44) rfl
theorem v30_45 {d : Nat} {ls : LS3} {st : List MV} {h : Hp} : Ev d 30 45 ls st h = Ev d 30 47 ls (vI 8 :: st) h := Rnx (hB_30) (dX4_init_45) rfl
theorem v30_47 {d : Nat} {ls : LS3} {st : List MV} {h : Hp} {n : Int32} (hn : 0 ≤ n ∧ n.toNatClampNeg ≤ 100000) (hF : Fresh h) : Ev d 30 47 ls (vI n :: st) h = Ev d 30 50 ls (vR (nm (cnt h)) :: st) (mk h (nm (cnt h)) (7, n.toNatClampNeg) n.toNatClampNeg) := Rnewa hB_30 dX4_init_47 rfl hn hF
set_option maxRecDepth 100000 in
theorem v30_50 {d : Nat} {ls : LS3} {st : List MV} {h : Hp} {a : A3} {o : Option A3} (hS : gS h a = (1, 4)) : Ev d 30 50 ls (vO o :: vR a :: st) h = Ev d 30 53 ls st (sR h a 1 o) := RputR hB_30 dX4_init_50 rfl rfl (by decide) hS
theorem v30_53 {d : Nat} {ls : LS3} {st : List MV} {h : Hp} : Ev d 30 53 ls st h = Ev d 30 54 ls (vI 0 :: st) h := Rnx (hB_30) (dX4_init_53) rfl
theorem v30_54 {d : Nat} {st : List MV} {h : Hp} {x : Int32} {a0 a1 : Option MV} : Ev d 30 54 [a0, a1] (vI x :: st) h = Ev d 30 55 [a0, some (vI x)] st h := Rnx (hB_30) (dX4_init_54) rfl
theorem v30_55 {d : Nat} {st : List MV} {h : Hp} {x : Int32} {a0 : Option MV} : Ev d 30 55 [a0, some (vI x)] st h = Ev d 30 56 [a0, some (vI x)] (vI x :: st) h := Rnx (hB_30) (dX4_init_55) rfl
theorem v30_56 {d : Nat} {st : List MV} {h : Hp} {x : Option A3} {a1 : Option MV} : Ev d 30 56 [some (vO x), a1] st h = Ev d 30 57 [some (vO x), a1] (vO x :: st) h := Rnx (hB_30) (dX4_init_56) rfl
set_option maxRecDepth 100000 in
theorem v30_57 {d : Nat} {ls : LS3} {st : List MV} {h : Hp} {a : A3} (hS : gS h a = (1, 4)) : Ev d 30 57 ls (vR a :: st) h = Ev d 30 60 ls (vO (gR h a 1) :: st) h := Rget hB_30 dX4_init_57 rfl (Or.inl hS)
theorem v30_60 {d : Nat} {ls : LS3} {st : List MV} {h : Hp} {a : A3} (hS : 2 ≤ (gS h a).1 ∧ (gS h a).1 ≤ 10) : Ev d 30 60 ls (vR a :: st) h = Ev d 30 61 ls (vI (Int32.ofNat (gS h a).2) :: st) h := Rlen hB_30 dX4_init_60 hS
theorem v30_61 {d : Nat} {ls : LS3} {st : List MV} {h : Hp} {x y : Int32} : Ev d 30 61 ls (vI y :: vI x :: st) h = if y ≤ x then Ev d 30 84 ls st h else Ev d 30 64 ls st h := Rif hB_30 dX4_init_61 rfl
theorem v30_64 {d : Nat} {st : List MV} {h : Hp} {x : Option A3} {a1 : Option MV} : Ev d 30 64 [some (vO x), a1] st h = Ev d 30 65 [some (vO x), a1] (vO x :: st) h := Rnx (hB_30) (dX4_init_64) rfl
set_option maxRecDepth 100000 in
theorem v30_65 {d : Nat} {ls : LS3} {st : List MV} {h : Hp} {a : A3} (hS : gS h a = (1, 4)) : Ev d 30 65 ls (vR a :: st) h = Ev d 30 68 ls (vO (gR h a 1) :: st) h := Rget hB_30 dX4_init_65 rfl (Or.inl hS)
theorem v30_68 {d : Nat} {st : List MV} {h : Hp} {x : Int32} {a0 : Option MV} : Ev d 30 68 [a0, some (vI x)] st h = Ev d 30 69 [a0, some (vI x)] (vI x :: st) h := Rnx (hB_30) (dX4_init_68) rfl
theorem v30_69 {d : Nat} {ls : LS3} {st : List MV} {h : Hp} (hF : Fresh h) : Ev d 30 69 ls st h = Ev d 30 72 ls (vR (nm (cnt h)) :: st) (mk h (nm (cnt h)) (1, 5) 10) := Rnew hB_30 dX4_init_69 rfl hF
theorem v30_72 {d : Nat} {ls : LS3} {st : List MV} {h : Hp} {v : MV} (hv : cat1 v = true) : Ev d 30 72 ls (v :: st) h = Ev d 30 73 ls (v :: v :: st) h := Rdup hB_30 dX4_init_72 hv
theorem v30_73 {d : Nat} {st : List MV} {h : Hp} {x : Int32} {a0 : Option MV} : Ev d 30 73 [a0, some (vI x)] st h = Ev d 30 74 [a0, some (vI x)] (vI x :: st) h := Rnx (hB_30) (dX4_init_73) rfl
set_option maxRecDepth 100000 in
theorem v30_74 {d : Nat} {ls : LS3} {st : List MV} {h : Hp} {a : A3} {x0 : Int32} (hS : gS h a = (1, 5)) (hc : catS st ≤ 8) : Ev (d + 1) 30 74 ls (vI x0 :: vR a :: st) h = Evk 73 (d + 1) 30 74 ls st (Ev d 73 0 [some (vR a), some (vI x0)] [] h) := RcallO (idx := 26) (n := 1) (kd := 2) (As' := [vI x0]) hB_30 dX4_init_74 rfl rfl (by decide) rfl rfl (Or.inl hS) rfl hc
theorem v30_77 {d : Nat} {ls : LS3} {st : List MV} {h : Hp} {a v : A3} {j : Int32} (hS : (gS h a).1 = 6 ∨ (gS h a).1 = 7 ∨ (gS h a).1 = 8) (hj : inB j (gS h a).2) (hv : gS h v = (1, elemC (gS h a).1)) : Ev d 30 77 ls (vR v :: vI j :: vR a :: st) h = Ev d 30 78 ls st (sR h a j.toNatClampNeg (some v)) := RastA hB_30 dX4_init_77 hS hj hv
theorem v30_78 {d : Nat} {st : List MV} {h : Hp} {x : Int32} {a0 : Option MV} : Ev d 30 78 [a0, some (vI x)] st h = Ev d 30 81 [a0, some (vI (x + 1))] st h := Rnx (hB_30) (dX4_init_78) rfl
theorem v30_81 {d : Nat} {ls : LS3} {st : List MV} {h : Hp} : Ev d 30 81 ls st h = Ev d 30 55 ls st h := Rnx (hB_30) (dX4_init_81) rfl
theorem v30_84 {d : Nat} {st : List MV} {h : Hp} {x : Option A3} {a1 : Option MV} : Ev d 30 84 [some (vO x), a1] st h = Ev d 30 85 [some (vO x), a1] (vO x :: st) h := Rnx (hB_30) (dX4_init_84) rfl
theorem v30_85 {d : Nat} {ls : LS3} {st : List MV} {h : Hp} : Ev d 30 85 ls st h = Ev d 30 87 ls (vI 8 :: st) h := Rnx (hB_30) (dX4_init_85) rfl
theorem v30_87 {d : Nat} {ls : LS3} {st : List MV} {h : Hp} {n : Int32} (hn : 0 ≤ n ∧ n.toNatClampNeg ≤ 100000) (hF : Fresh h) : Ev d 30 87 ls (vI n :: st) h = Ev d 30 89 ls (vR (nm (cnt h)) :: st) (mk h (nm (cnt h)) (2, n.toNatClampNeg) n.toNatClampNeg) := Rnewa hB_30 dX4_init_87 rfl hn hF
set_option maxRecDepth 100000 in
theorem v30_89 {d : Nat} {ls : LS3} {st : List MV} {h : Hp} {a : A3} {o : Option A3} (hS : gS h a = (1, 4)) : Ev d 30 89 ls (vO o :: vR a :: st) h = Ev d 30 92 ls st (sR h a 2 o) := RputR hB_30 dX4_init_89 rfl rfl (by decide) hS
theorem v30_92 {d : Nat} {ls : LS3} {h : Hp} : Ev d 30 92 ls [] h = some (.inl none, h) := Rdn hB_30 dX4_init_92 rfl
theorem hB_31 : mB 31 = cX4_makeNew := rfl
theorem v31_0 {d : Nat} {st : List MV} {h : Hp} {x : Option A3} {a1 a2 a3 a4 : Option MV} : Ev d 31 0 [some (vO x), a1, a2, a3, a4] st h = Ev d 31 1 [some (vO x), a1, a2, a3, a4] (vO x :: st) h := Rnx (hB_31) (dX4_makeNew_0) rfl
set_option maxRecDepth 100000 in
theorem v31_1 {d : Nat} {ls : LS3} {st : List MV} {h : Hp} {a : A3} (hS : gS h a = (1, 4)) : Ev d 31 1 ls (vR a :: st) h = Ev d 31 4 ls (vO (gR h a 0) :: st) h := Rget hB_31 dX4_makeNew_1 rfl (Or.inl hS)
theorem v31_4 {d : Nat} {st : List MV} {h : Hp} {x : Option A3} {a0 a1 a2 a3 a4 : Option MV} : Ev d 31 4 [a0, a1, a2, a3, a4] (vO x :: st) h = Ev d 31 5 [a0, some (vO x), a2, a3, a4] st h := Rnx (hB_31) (dX4_makeNew_4) rfl
theorem v31_5 {d : Nat} {st : List MV} {h : Hp} {x : Option A3} {a0 a2 a3 a4 : Option MV} : Ev d 31 5 [a0, some (vO x), a2, a3, a4] st h = Ev d 31 6 [a0, some (vO x), a2, a3, a4] (vO x :: st) h := Rnx (hB_31) (dX4_makeNew_5) rfl
theorem v31_6 {d : Nat} {ls : LS3} {st : List MV} {h : Hp} {a : A3} (hS : 2 ≤ (gS h a).1 ∧ (gS h a).1 ≤ 10) : Ev d 31 6 ls (vR a :: st) h = Ev d 31 7 ls (vI (Int32.ofNat (gS h a).2) :: st) h := Rlen hB_31 dX4_makeNew_6 hS
theorem v31_7 {d : Nat} {st : List MV} {h : Hp} {x : Int32} {a0 a1 a2 a3 a4 : Option MV} : Ev d 31 7 [a0, a1, a2, a3, a4] (vI x :: st) h = Ev d 31 8 [a0, a1, some (vI x), a3, a4] st h := Rnx (hB_31) (dX4_makeNew_7) rfl
theorem v31_8 {d : Nat} {ls : LS3} {st : List MV} {h : Hp} : Ev d 31 8 ls st h = Ev d 31 9 ls (vI 0 :: st) h := Rnx (hB_31) (dX4_makeNew_8) rfl
theorem v31_9 {d : Nat} {st : List MV} {h : Hp} {x : Int32} {a0 a1 a2 a3 a4 : Option MV} : Ev d 31 9 [a0, a1, a2, a3, a4] (vI x :: st) h = Ev d 31 10 [a0, a1, a2, some (vI x), a4] st h := Rnx (hB_31) (dX4_makeNew_9) rfl
theorem v31_10 {d : Nat} {st : List MV} {h : Hp} {x : Int32} {a0 a1 a2 a4 : Option MV} : Ev d 31 10 [a0, a1, a2, some (vI x), a4] st h = Ev d 31 11 [a0, a1, a2, some (vI x), a4] (vI x :: st) h := Rnx (hB_31) (dX4_makeNew_10) rfl
theorem v31_11 {d : Nat} {st : List MV} {h : Hp} {x : Int32} {a0 a1 a3 a4 : Option MV} : Ev d 31 11 [a0, a1, some (vI x), a3, a4] st h = Ev d 31 12 [a0, a1, some (vI x), a3, a4] (vI x :: st) h := Rnx (hB_31) (dX4_makeNew_11) rfl
theorem v31_12 {d : Nat} {ls : LS3} {st : List MV} {h : Hp} {x y : Int32} : Ev d 31 12 ls (vI y :: vI x :: st) h = if y ≤ x then Ev d 31 31 ls st h else Ev d 31 15 ls st h := Rif hB_31 dX4_makeNew_12 rfl
theorem v31_15 {d : Nat} {st : List MV} {h : Hp} {x : Option A3} {a0 a2 a3 a4 : Option MV} : Ev d 31 15 [a0, some (vO x), a2, a3, a4] st h = Ev d 31 16 [a0, some (vO x), a2, a3, a4] (vO x :: st) h := Rnx (hB_31) (dX4_makeNew_15) rfl
theorem v31_16 {d : Nat} {st : List MV} {h : Hp} {x : Int32} {a0 a1 a2 a4 : Option MV} : Ev d 31 16 [a0, a1, a2, some (vI x), a4] st h = Ev d 31 17 [a0, a1, a2, some (vI x), a4] (vI x :: st) h := Rnx (hB_31) (dX4_makeNew_16) rfl
theorem v31_17 {d : Nat} {ls : LS3} {st : List MV} {h : Hp} {a : A3} {j : Int32} (hS : (gS h a).1 ∈ [6, 7, 8]) (hj : inB j (gS h a).2) : Ev d 31 17 ls (vI j :: vR a :: st) h = Ev d 31 18 ls (vO (gR h a j.toNatClampNeg) :: st) h := Rald (ks := [6, 7, 8]) (f := fun a j => vO (gR h a j)) hB_31 dX4_makeNew_17 rfl hS hj
theorem v31_18 {d : Nat} {st : List MV} {h : Hp} {x : Option A3} {a0 a1 a2 a3 a4 : Option MV} : Ev d 31 18 [a0, a1, a2, a3, a4] (vO x :: st) h = Ev d 31 20 [a0, a1, a2, a3, some (vO x)] st h := Rnx (hB_31) (dX4_makeNew_18) rfl
theorem v31_20 {d : Nat} {st : List MV} {h : Hp} {x : Option A3} {a0 a1 a2 a3 : Option MV} : Ev d 31 20 [a0, a1, a2, a3, some (vO x)] st h = Ev d 31 22 [a0, a1, a2, a3, some (vO x)] (vO x :: st) h := Rnx (hB_31) (dX4_makeNew_20) rfl
set_option maxRecDepth 100000 in
theorem v31_22 {d : Nat} {ls : LS3} {st : List MV} {h : Hp} {a : A3}  (hS : gS h a = (1, 3)) (hc : catS st ≤ 8) : Ev (d + 1) 31 22 ls (vR a :: st) h = Evk 22 (d + 1) 31 22 ls st (Ev d 22 0 [some (vR a), none] [] h) := RcallO (idx := 31) (n := 0) (kd := 0) (As' := []) hB_31 dX4_makeNew_22 rfl rfl (by decide) rfl rfl (Or.inl hS) rfl hc
theorem v31_25 {d : Nat} {st : List MV} {h : Hp} {x : Int32} {a0 a1 a2 a4 : Option MV} : Ev d 31 25 [a0, a1, a2, some (vI x), a4] st h = Ev d 31 28 [a0, a1, a2, some (vI (x + 1)), a4] st h := Rnx (hB_31) (dX4_makeNew_25) rfl
theorem v31_28 {d : Nat} {ls : LS3} {st : List MV} {h : Hp} : Ev d 31 28 ls st h = Ev d 31 10 ls st h := Rnx (hB_31) (dX4_makeNew_28) rfl
theorem v31_31 {d : Nat} {st : List MV} {h : Hp} {x : Option A3} {a1 a2 a3 a4 : Option MV} : Ev d 31 31 [some (vO x), a1, a2, a3, a4] st h = Ev d 31 32 [some (vO x), a1, a2, a3, a4] (vO x :: st) h := Rnx (hB_31) (dX4_makeNew_31) rfl
set_option maxRecDepth 100000 in
theorem v31_32 {d : Nat} {ls : LS3} {st : List MV} {h : Hp} {a : A3} (hS : gS h a = (1, 4)) : Ev d 31 32 ls (vR a :: st) h = Ev d 31 35 ls (vO (gR h a 1) :: st) h := Rget hB_31 dX4_makeNew_32 rfl (Or.inl hS)
theorem v31_35 {d : Nat} {st : List MV} {h : Hp} {x : Option A3} {a0 a1 a2 a3 a4 : Option MV} : Ev d 31 35 [a0, a1, a2, a3, a4] (vO x :: st) h = Ev d 31 36 [a0, some (vO x), a2, a3, a4] st h := Rnx (hB_31) (dX4_makeNew_35) rfl
theorem v31_36 {d : Nat} {st : List MV} {h : Hp} {x : Option A3} {a0 a2 a3 a4 : Option MV} : Ev d 31 36 [a0, some (vO x), a2, a3, a4] st h = Ev d 31 37 [a0, some (vO x), a2, a3, a4] (vO x :: st) h := Rnx (hB_31) (dX4_makeNew_36) rfl
theorem v31_37 {d : Nat} {ls : LS3} {st : List MV} {h : Hp} {a : A3} (hS : 2 ≤ (gS h a).1 ∧ (gS h a).1 ≤ 10) : Ev d 31 37 ls (vR a :: st) h = Ev d 31 38 ls (vI (Int32.ofNat (gS h a).2) :: st) h := Rlen hB_31 dX4_makeNew_37 hS
theorem v31_38 {d : Nat} {st : List MV} {h : Hp} {x : Int32} {a0 a1 a2 a3 a4 : Option MV} : Ev d 31 38 [a0, a1, a2, a3, a4] (vI x :: st) h = Ev d 31 39 [a0, a1, some (vI x), a3, a4] st h := Rnx (hB_31) (dX4_makeNew_38) rfl
theorem v31_39 {d : Nat} {ls : LS3} {st : List MV} {h : Hp} : Ev d 31 39 ls st h = Ev d 31 40 ls (vI 0 :: st) h := Rnx (hB_31) (dX4_makeNew_39) rfl
theorem v31_40 {d : Nat} {st : List MV} {h : Hp} {x : Int32} {a0 a1 a2 a3 a4 : Option MV} : Ev d 31 40 [a0, a1, a2, a3, a4] (vI x :: st) h = Ev d 31 41 [a0, a1, a2, some (vI x), a4] st h := Rnx (hB_31) (dX4_makeNew_40) rfl
theorem v31_41 {d : Nat} {st : List MV} {h : Hp} {x : Int32} {a0 a1 a2 a4 : Option MV} : Ev d 31 41 [a0, a1, a2, some (vI x), a4] st h = Ev d 31 42 [a0, a1, a2, some (vI x), a4] (vI x :: st) h := Rnx (hB_31) (dX4_makeNew_41) rfl
theorem v31_42 {d : Nat} {st : List MV} {h : Hp} {x : Int32} {a0 a1 a3 a4 : Option MV} : Ev d 31 42 [a0, a1, some (vI x), a3, a4] st h = Ev d 31 43 [a0, a1, some (vI x), a3, a4] (vI x :: st) h := Rnx (hB_31) (dX4_makeNew_42) rfl
theorem v31_43 {d : Nat} {ls : LS3} {st : List MV} {h : Hp} {x y : Int32} : Ev d 31 43 ls (vI y :: vI x :: st) h = if y ≤ x then Ev d 31 62 ls st h else Ev d 31 46 ls st h := Rif hB_31 dX4_makeNew_43 rfl
theorem v31_46 {d : Nat} {st : List MV} {h : Hp} {x : Option A3} {a0 a2 a3 a4 : Option MV} : Ev d 31 46 [a0, some (vO x), a2, a3, a4] st h = Ev d 31 47 [a0, some (vO x), a2, a3, a4] (vO x :: st) h := Rnx (hB_31) (dX4_makeNew_46) rfl
theorem v31_47 {d : Nat} {st : List MV} {h : Hp} {x : Int32} {a0 a1 a2 a4 : Option MV} : Ev d 31 47 [a0, a1, a2, some (vI x), a4] st h = Ev d 31 48 [a0, a1, a2, some (vI x), a4] (vI x :: st) h := Rnx (hB_31) (dX4_makeNew_47) rfl
theorem v31_48 {d : Nat} {ls : LS3} {st : List MV} {h : Hp} {a : A3} {j : Int32} (hS : (gS h a).1 ∈ [6, 7, 8]) (hj : inB j (gS h a).2) : Ev d 31 48 ls (vI j :: vR a :: st) h = Ev d 31 49 ls (vO (gR h a j.toNatClampNeg) :: st) h := Rald (ks := [6, 7, 8]) (f := fun a j => vO (gR h a j)) hB_31 dX4_makeNew_48 rfl hS hj
theorem v31_49 {d : Nat} {st : List MV} {h : Hp} {x : Option A3} {a0 a1 a2 a3 a4 : Option MV} : Ev d 31 49 [a0, a1, a2, a3, a4] (vO x :: st) h = Ev d 31 51 [a0, a1, a2, a3, some (vO x)] st h := Rnx (hB_31) (dX4_makeNew_49) rfl
theorem v31_51 {d : Nat} {st : List MV} {h : Hp} {x : Option A3} {a0 a1 a2 a3 : Option MV} : Ev d 31 51 [a0, a1, a2, a3, some (vO x)] st h = Ev d 31 53 [a0, a1, a2, a3, some (vO x)] (vO x :: st) h := Rnx (hB_31) (dX4_makeNew_51) rfl
set_option maxRecDepth 100000 in
theorem v31_53 {d : Nat} {ls : LS3} {st : List MV} {h : Hp} {a : A3}  (hS : gS h a = (1, 5)) (hc : catS st ≤ 8) : Ev (d + 1) 31 53 ls (vR a :: st) h = Evk 75 (d + 1) 31 53 ls st (Ev d 75 0 [some (vR a)] [] h) := RcallO (idx := 34) (n := 0) (kd := 0) (As' := []) hB_31 dX4_makeNew_53 rfl rfl (by decide) rfl rfl (Or.inl hS) rfl hc
theorem v31_56 {d : Nat} {st : List MV} {h : Hp} {x : Int32} {a0 a1 a2 a4 : Option MV} : Ev d 31 56 [a0, a1, a2, some (vI x), a4] st h = Ev d 31 59 [a0, a1, a2, some (vI (x + 1)), a4] st h := Rnx (hB_31) (dX4_makeNew_56) rfl
theorem v31_59 {d : Nat} {ls : LS3} {st : List MV} {h : Hp} : Ev d 31 59 ls st h = Ev d 31 41 ls st h := Rnx (hB_31) (dX4_makeNew_59) rfl
theorem v31_62 {d : Nat} {st : List MV} {h : Hp} {x : Option A3} {a1 a2 a3 a4 : Option MV} : Ev d 31 62 [some (vO x), a1, a2, a3, a4] st h = Ev d 31 63 [some (vO x), a1, a2, a3, a4] (vO x :: st) h := Rnx (hB_31) (dX4_makeNew_62) rfl
theorem v31_63 {d : Nat} {ls : LS3} {st : List MV} {h : Hp} : Ev d 31 63 ls st h = Ev d 31 64 ls (vI 0 :: st) h := Rnx (hB_31) (dX4_makeNew_63) rfl
set_option maxRecDepth 100000 in
theorem v31_64 {d : Nat} {ls : LS3} {st : List MV} {h : Hp} {a : A3} {x : Int32} (hS : gS h a = (1, 4)) : Ev d 31 64 ls (vI x :: vR a :: st) h = Ev d 31 67 ls st (sI h a 3 x) := RputI hB_31 dX4_makeNew_64 rfl rfl (by decide) hS (Or.inl rfl)
theorem v31_67 {d : Nat} {st : List MV} {h : Hp} {x : Option A3} {a1 a2 a3 a4 : Option MV} : Ev d 31 67 [some (vO x), a1, a2, a3, a4] st h = Ev d 31 68 [some (vO x), a1, a2, a3, a4] (vO x :: st) h := Rnx (hB_31) (dX4_makeNew_67) rfl
theorem v31_68 {d : Nat} {ls : LS3} {st : List MV} {h : Hp} : Ev d 31 68 ls st h = Ev d 31 69 ls (vI 0 :: st) h := Rnx (hB_31) (dX4_makeNew_68) rfl
set_option maxRecDepth 100000 in
theorem v31_69 {d : Nat} {ls : LS3} {st : List MV} {h : Hp} {a : A3} {x : Int32} (hS : gS h a = (1, 4)) : Ev d 31 69 ls (vI x :: vR a :: st) h = Ev d 31 72 ls st (sI h a 4 x) := RputI hB_31 dX4_makeNew_69 rfl rfl (by decide) hS (Or.inl rfl)
theorem v31_72 {d : Nat} {st : List MV} {h : Hp} {x : Option A3} {a1 a2 a3 a4 : Option MV} : Ev d 31 72 [some (vO x), a1, a2, a3, a4] st h = Ev d 31 73 [some (vO x), a1, a2, a3, a4] (vO x :: st) h := Rnx (hB_31) (dX4_makeNew_72) rfl
theorem v31_73 {d : Nat} {ls : LS3} {st : List MV} {h : Hp} : Ev d 31 73 ls st h = Ev d 31 74 ls (vI 0 :: st) h := Rnx (hB_31) (dX4_makeNew_73) rfl
set_option maxRecDepth 100000 in
theorem v31_74 {d : Nat} {ls : LS3} {st : List MV} {h : Hp} {a : A3} {x : Int32} (hS : gS h a = (1, 4)) : Ev d 31 74 ls (vI x :: vR a :: st) h = Ev d 31 77 ls st (sI h a 5 x) := RputI hB_31 dX4_makeNew_74 rfl rfl (by decide) hS (Or.inl rfl)
theorem v31_77 {d : Nat} {st : List MV} {h : Hp} {x : Option A3} {a1 a2 a3 a4 : Option MV} : Ev d 31 77 [some (vO x), a1, a2, a3, a4] st h = Ev d 31 78 [some (vO x), a1, a2, a3, a4] (vO x :: st) h := Rnx (hB_31) (dX4_makeNew_77) rfl
theorem v31_78 {d : Nat} {ls : LS3} {st : List MV} {h : Hp} : Ev d 31 78 ls st h = Ev d 31 79 ls (vI 0 :: st) h := Rnx (hB_31) (dX4_makeNew_78) rfl
set_option maxRecDepth 100000 in
theorem v31_79 {d : Nat} {ls : LS3} {st : List MV} {h : Hp} {a : A3} {x : Int32} (hS : gS h a = (1, 4)) : Ev d 31 79 ls (vI x :: vR a :: st) h = Ev d 31 82 ls st (sI h a 6 x) := RputI hB_31 dX4_makeNew_79 rfl rfl (by decide) hS (Or.inl rfl)
theorem v31_82 {d : Nat} {st : List MV} {h : Hp} {x : Option A3} {a1 a2 a3 a4 : Option MV} : Ev d 31 82 [some (vO x), a1, a2, a3, a4] st h = Ev d 31 83 [some (vO x), a1, a2, a3, a4] (vO x :: st) h := Rnx (hB_31) (dX4_makeNew_82) rfl
theorem v31_83 {d : Nat} {ls : LS3} {st : List MV} {h : Hp} : Ev d 31 83 ls st h = Ev d 31 84 ls (vI 0 :: st) h := Rnx (hB_31) (dX4_makeNew_83) rfl
set_option maxRecDepth 100000 in
theorem v31_84 {d : Nat} {ls : LS3} {st : List MV} {h : Hp} {a : A3} {x : Int32} (hS : gS h a = (1, 4)) : Ev d 31 84 ls (vI x :: vR a :: st) h = Ev d 31 87 ls st (sI h a 7 x) := RputI hB_31 dX4_makeNew_84 rfl rfl (by decide) hS (Or.inl rfl)
theorem v31_87 {d : Nat} {ls : LS3} {h : Hp} : Ev d 31 87 ls [] h = some (.inl none, h) := Rdn hB_31 dX4_makeNew_87 rfl
theorem hB_32 : mB 32 = cX4_copyFrom := rfl
theorem v32_0 {d : Nat} {ls : LS3} {st : List MV} {h : Hp} : Ev d 32 0 ls st h = Ev d 32 1 ls (vI 0 :: st) h := Rnx (hB_32) (dX4_copyFrom_0) rfl
theorem v32_1 {d : Nat} {st : List MV} {h : Hp} {x : Int32} {a0 a1 a2 : Option MV} : Ev d 32 1 [a0, a1, a2] (vI x :: st) h = Ev d 32 2 [a0, a1, some (vI x)] st h := Rnx (hB_32) (dX4_copyFrom_1) rfl
theorem v32_2 {d : Nat} {st : List MV} {h : Hp} {x : Int32} {a0 a1 : Option MV} : Ev d 32 2 [a0, a1, some (vI x)] st h = Ev d 32 3 [a0, a1, some (vI x)] (vI x :: st) h := Rnx (hB_32) (dX4_copyFrom_2) rfl
theorem v32_3 {d : Nat} {ls : LS3} {st : List MV} {h : Hp} : Ev d 32 3 ls st h = Ev d 32 5 ls (vI 14 :: st) h := Rnx (hB_32) (dX4_copyFrom_3) rfl
theorem v32_5 {d : Nat} {ls : LS3} {st : List MV} {h : Hp} {x y : Int32} : Ev d 32 5 ls (vI y :: vI x :: st) h = if y ≤ x then Ev d 32 29 ls st h else Ev d 32 8 ls st h := Rif hB_32 dX4_copyFrom_5 rfl
theorem v32_8 {d : Nat} {st : List MV} {h : Hp} {x : Option A3} {a1 a2 : Option MV} : Ev d 32 8 [some (vO x), a1, a2] st h = Ev d 32 9 [some (vO x), a1, a2] (vO x :: st) h := Rnx (hB_32) (dX4_copyFrom_8) rfl
set_option maxRecDepth 100000 in
theorem v32_9 {d : Nat} {ls : LS3} {st : List MV} {h : Hp} {a : A3} (hS : gS h a = (1, 4)) : Ev d 32 9 ls (vR a :: st) h = Ev d 32 12 ls (vO (gR h a 0) :: st) h := Rget hB_32 dX4_copyFrom_9 rfl (Or.inl hS)
theorem v32_12 {d : Nat} {st : List MV} {h : Hp} {x : Int32} {a0 a1 : Option MV} : Ev d 32 12 [a0, a1, some (vI x)] st h = Ev d 32 13 [a0, a1, some (vI x)] (vI x :: st) h := Rnx (hB_32) (dX4_copyFrom_12) rfl
theorem v32_13 {d : Nat} {ls : LS3} {st : List MV} {h : Hp} {a : A3} {j : Int32} (hS : (gS h a).1 ∈ [6, 7, 8]) (hj : inB j (gS h a).2) : Ev d 32 13 ls (vI j :: vR a :: st) h = Ev d 32 14 ls (vO (gR h a j.toNatClampNeg) :: st) h := Rald (ks := [6, 7, 8]) (f := fun a j => vO (gR h a j)) hB_32 dX4_copyFrom_13 rfl hS hj
theorem v32_14 {d : Nat} {st : List MV} {h : Hp} {x : Option A3} {a0 a2 : Option MV} : Ev d 32 14 [a0, some (vO x), a2] st h = Ev d 32 15 [a0, some (vO x), a2] (vO x :: st) h := Rnx (hB_32) (dX4_copyFrom_14) rfl
set_option maxRecDepth 100000 in
theorem v32_15 {d : Nat} {ls : LS3} {st : List MV} {h : Hp} {a : A3} (hS : gS h a = (1, 4)) : Ev d 32 15 ls (vR a :: st) h = Ev d 32 18 ls (vO (gR h a 0) :: st) h := Rget hB_32 dX4_copyFrom_15 rfl (Or.inl hS)
theorem v32_18 {d : Nat} {st : List MV} {h : Hp} {x : Int32} {a0 a1 : Option MV} : Ev d 32 18 [a0, a1, some (vI x)] st h = Ev d 32 19 [a0, a1, some (vI x)] (vI x :: st) h := Rnx (hB_32) (dX4_copyFrom_18) rfl
theorem v32_19 {d : Nat} {ls : LS3} {st : List MV} {h : Hp} {a : A3} {j : Int32} (hS : (gS h a).1 ∈ [6, 7, 8]) (hj : inB j (gS h a).2) : Ev d 32 19 ls (vI j :: vR a :: st) h = Ev d 32 20 ls (vO (gR h a j.toNatClampNeg) :: st) h := Rald (ks := [6, 7, 8]) (f := fun a j => vO (gR h a j)) hB_32 dX4_copyFrom_19 rfl hS hj
set_option maxRecDepth 100000 in
theorem v32_20 {d : Nat} {ls : LS3} {st : List MV} {h : Hp} {a : A3} {o0 : Option A3} (hS : gS h a = (1, 3)) (hc : catS st ≤ 8) : Ev (d + 1) 32 20 ls (vO o0 :: vR a :: st) h = Evk 23 (d + 1) 32 20 ls st (Ev d 23 0 [some (vR a), some (vO o0)] [] h) := RcallO (idx := 51) (n := 1) (kd := 0) (As' := [vO o0]) hB_32 dX4_copyFrom_20 rfl rfl (by decide) rfl rfl (Or.inl hS) rfl hc
theorem v32_23 {d : Nat} {st : List MV} {h : Hp} {x : Int32} {a0 a1 : Option MV} : Ev d 32 23 [a0, a1, some (vI x)] st h = Ev d 32 26 [a0, a1, some (vI (x + 1))] st h := Rnx (hB_32) (dX4_copyFrom_23) rfl
theorem v32_26 {d : Nat} {ls : LS3} {st : List MV} {h : Hp} : Ev d 32 26 ls st h = Ev d 32 2 ls st h := Rnx (hB_32) (dX4_copyFrom_26) rfl
theorem v32_29 {d : Nat} {ls : LS3} {st : List MV} {h : Hp} : Ev d 32 29 ls st h = Ev d 32 30 ls (vI 0 :: st) h := Rnx (hB_32) (dX4_copyFrom_29) rfl
theorem v32_30 {d : Nat} {st : List MV} {h : Hp} {x : Int32} {a0 a1 a2 : Option MV} : Ev d 32 30 [a0, a1, a2] (vI x :: st) h = Ev d 32 31 [a0, a1, some (vI x)] st h := Rnx (hB_32) (dX4_copyFrom_30) rfl
theorem v32_31 {d : Nat} {st : List MV} {h : Hp} {x : Int32} {a0 a1 : Option MV} : Ev d 32 31 [a0, a1, some (vI x)] st h = Ev d 32 32 [a0, a1, some (vI x)] (vI x :: st) h := Rnx (hB_32) (dX4_copyFrom_31) rfl
theorem v32_32 {d : Nat} {ls : LS3} {st : List MV} {h : Hp} : Ev d 32 32 ls st h = Ev d 32 34 ls (vI 8 :: st) h := Rnx (hB_32) (dX4_copyFrom_32) rfl
theorem v32_34 {d : Nat} {ls : LS3} {st : List MV} {h : Hp} {x y : Int32} : Ev d 32 34 ls (vI y :: vI x :: st) h = if y ≤ x then Ev d 32 58 ls st h else Ev d 32 37 ls st h := Rif hB_32 dX4_copyFrom_34 rfl
theorem v32_37 {d : Nat} {st : List MV} {h : Hp} {x : Option A3} {a1 a2 : Option MV} : Ev d 32 37 [some (vO x), a1, a2] st h = Ev d 32 38 [some (vO x), a1, a2] (vO x :: st) h := Rnx (hB_32) (dX4_copyFrom_37) rfl
set_option maxRecDepth 100000 in
theorem v32_38 {d : Nat} {ls : LS3} {st : List MV} {h : Hp} {a : A3} (hS : gS h a = (1, 4)) : Ev d 32 38 ls (vR a :: st) h = Ev d 32 41 ls (vO (gR h a 1) :: st) h := Rget hB_32 dX4_copyFrom_38 rfl (Or.inl hS)
theorem v32_41 {d : Nat} {st : List MV} {h : Hp} {x : Int32} {a0 a1 : Option MV} : Ev d 32 41 [a0, a1, some (vI x)] st h = Ev d 32 42 [a0, a1, some (vI x)] (vI x :: st) h := Rnx (hB_32) (dX4_copyFrom_41) rfl
theorem v32_42 {d : Nat} {ls : LS3} {st : List MV} {h : Hp} {a : A3} {j : Int32} (hS : (gS h a).1 ∈ [6, 7, 8]) (hj : inB j (gS h a).2) : Ev d 32 42 ls (vI j :: vR a :: st) h = Ev d 32 43 ls (vO (gR h a j.toNatClampNeg) :: st) h := Rald (ks := [6, 7, 8]) (f := fun a j => vO (gR h a j)) hB_32 dX4_copyFrom_42 rfl hS hj
theorem v32_43 {d : Nat} {st : List MV} {h : Hp} {x : Option A3} {a0 a2 : Option MV} : Ev d 32 43 [a0, some (vO x), a2] st h = Ev d 32 44 [a0, some (vO x), a2] (vO x :: st) h := Rnx (hB_32) (dX4_copyFrom_43) rfl
set_option maxRecDepth 100000 in
theorem v32_44 {d : Nat} {ls : LS3} {st : List MV} {h : Hp} {a : A3} (hS : gS h a = (1, 4)) : Ev d 32 44 ls (vR a :: st) h = Ev d 32 47 ls (vO (gR h a 1) :: st) h := Rget hB_32 dX4_copyFrom_44 rfl (Or.inl hS)
theorem v32_47 {d : Nat} {st : List MV} {h : Hp} {x : Int32} {a0 a1 : Option MV} : Ev d 32 47 [a0, a1, some (vI x)] st h = Ev d 32 48 [a0, a1, some (vI x)] (vI x :: st) h := Rnx (hB_32) (dX4_copyFrom_47) rfl
theorem v32_48 {d : Nat} {ls : LS3} {st : List MV} {h : Hp} {a : A3} {j : Int32} (hS : (gS h a).1 ∈ [6, 7, 8]) (hj : inB j (gS h a).2) : Ev d 32 48 ls (vI j :: vR a :: st) h = Ev d 32 49 ls (vO (gR h a j.toNatClampNeg) :: st) h := Rald (ks := [6, 7, 8]) (f := fun a j => vO (gR h a j)) hB_32 dX4_copyFrom_48 rfl hS hj
set_option maxRecDepth 100000 in
theorem v32_49 {d : Nat} {ls : LS3} {st : List MV} {h : Hp} {a : A3} {o0 : Option A3} (hS : gS h a = (1, 5)) (hc : catS st ≤ 8) : Ev (d + 1) 32 49 ls (vO o0 :: vR a :: st) h = Evk 76 (d + 1) 32 49 ls st (Ev d 76 0 [some (vR a), some (vO o0)] [] h) := RcallO (idx := 55) (n := 1) (kd := 0) (As' := [vO o0]) hB_32 dX4_copyFrom_49 rfl rfl (by decide) rfl rfl (Or.inl hS) rfl hc
theorem v32_52 {d : Nat} {st : List MV} {h : Hp} {x : Int32} {a0 a1 : Option MV} : Ev d 32 52 [a0, a1, some (vI x)] st h = Ev d 32 55 [a0, a1, some (vI (x + 1))] st h := Rnx (hB_32) (dX4_copyFrom_52) rfl
theorem v32_55 {d : Nat} {ls : LS3} {st : List MV} {h : Hp} : Ev d 32 55 ls st h = Ev d 32 31 ls st h := Rnx (hB_32) (dX4_copyFrom_55) rfl
theorem v32_58 {d : Nat} {st : List MV} {h : Hp} {x : Option A3} {a0 a2 : Option MV} : Ev d 32 58 [a0, some (vO x), a2] st h = Ev d 32 59 [a0, some (vO x), a2] (vO x :: st) h := Rnx (hB_32) (dX4_copyFrom_58) rfl
set_option maxRecDepth 100000 in
theorem v32_59 {d : Nat} {ls : LS3} {st : List MV} {h : Hp} {a : A3} (hS : gS h a = (1, 4)) : Ev d 32 59 ls (vR a :: st) h = Ev d 32 62 ls (vO (gR h a 2) :: st) h := Rget hB_32 dX4_copyFrom_59 rfl (Or.inl hS)
theorem v32_62 {d : Nat} {ls : LS3} {st : List MV} {h : Hp} : Ev d 32 62 ls st h = Ev d 32 63 ls (vI 0 :: st) h := Rnx (hB_32) (dX4_copyFrom_62) rfl
theorem v32_63 {d : Nat} {st : List MV} {h : Hp} {x : Option A3} {a1 a2 : Option MV} : Ev d 32 63 [some (vO x), a1, a2] st h = Ev d 32 64 [some (vO x), a1, a2] (vO x :: st) h := Rnx (hB_32) (dX4_copyFrom_63) rfl
set_option maxRecDepth 100000 in
theorem v32_64 {d : Nat} {ls : LS3} {st : List MV} {h : Hp} {a : A3} (hS : gS h a = (1, 4)) : Ev d 32 64 ls (vR a :: st) h = Ev d 32 67 ls (vO (gR h a 2) :: st) h := Rget hB_32 dX4_copyFrom_64 rfl (Or.inl hS)
theorem v32_67 {d : Nat} {ls : LS3} {st : List MV} {h : Hp} : Ev d 32 67 ls st h = Ev d 32 68 ls (vI 0 :: st) h := Rnx (hB_32) (dX4_copyFrom_67) rfl
theorem v32_68 {d : Nat} {ls : LS3} {st : List MV} {h : Hp} : Ev d 32 68 ls st h = Ev d 32 70 ls (vI 8 :: st) h := Rnx (hB_32) (dX4_copyFrom_68) rfl
set_option maxRecDepth 100000 in
theorem v32_70 {d : Nat} {ls : LS3} {st : List MV} {h : Hp} {a b : A3} {sp dp n : Int32} (hc : catS st ≤ 8) (hab : a ≠ b) (hn : 0 ≤ n) (hdp : 0 ≤ dp) (hsp : 0 ≤ sp) (h1 : sp.toNatClampNeg + n.toNatClampNeg ≤ (gS h a).2) (h2 : dp.toNatClampNeg + n.toNatClampNeg ≤ (gS h b).2) (hk : ((gS h a).1 = 2 ∧ (gS h b).1 = 2) ∨ ((gS h a).1 = 4 ∧ (gS h b).1 = 4)) : Ev d 32 70 ls (vI n :: vI dp :: vR b :: vI sp :: vR a :: st) h = Ev d 32 73 ls st (if (gS h a).1 = 2 then cpI h a sp.toNatClampNeg b dp.toNatClampNeg n.toNatClampNeg else cpL h a sp.toNatClampNeg b dp.toNatClampNeg n.toNatClampNeg) := Rcpy hB_32 dX4_copyFrom_70 rfl hc hab hn hdp hsp h1 h2 hk
theorem v32_73 {d : Nat} {st : List MV} {h : Hp} {x : Option A3} {a1 a2 : Option MV} : Ev d 32 73 [some (vO x), a1, a2] st h = Ev d 32 74 [some (vO x), a1, a2] (vO x :: st) h := Rnx (hB_32) (dX4_copyFrom_73) rfl
theorem v32_74 {d : Nat} {st : List MV} {h : Hp} {x : Option A3} {a0 a2 : Option MV} : Ev d 32 74 [a0, some (vO x), a2] st h = Ev d 32 75 [a0, some (vO x), a2] (vO x :: st) h := Rnx (hB_32) (dX4_copyFrom_74) rfl
set_option maxRecDepth 100000 in
theorem v32_75 {d : Nat} {ls : LS3} {st : List MV} {h : Hp} {a : A3} (hS : gS h a = (1, 4)) : Ev d 32 75 ls (vR a :: st) h = Ev d 32 78 ls (vI (gI h a 3) :: st) h := Rget hB_32 dX4_copyFrom_75 rfl (Or.inl hS)
set_option maxRecDepth 100000 in
theorem v32_78 {d : Nat} {ls : LS3} {st : List MV} {h : Hp} {a : A3} {x : Int32} (hS : gS h a = (1, 4)) : Ev d 32 78 ls (vI x :: vR a :: st) h = Ev d 32 81 ls st (sI h a 3 x) := RputI hB_32 dX4_copyFrom_78 rfl rfl (by decide) hS (Or.inl rfl)
theorem v32_81 {d : Nat} {st : List MV} {h : Hp} {x : Option A3} {a1 a2 : Option MV} : Ev d 32 81 [some (vO x), a1, a2] st h = Ev d 32 82 [some (vO x), a1, a2] (vO x :: st) h := Rnx (hB_32) (dX4_copyFrom_81) rfl
theorem v32_82 {d : Nat} {st : List MV} {h : Hp} {x : Option A3} {a0 a2 : Option MV} : Ev d 32 82 [a0, some (vO x), a2] st h = Ev d 32 83 [a0, some (vO x), a2] (vO x :: st) h := Rnx (hB_32) (dX4_copyFrom_82) rfl
set_option maxRecDepth 100000 in
theorem v32_83 {d : Nat} {ls : LS3} {st : List MV} {h : Hp} {a : A3} (hS : gS h a = (1, 4)) : Ev d 32 83 ls (vR a :: st) h = Ev d 32 86 ls (vI (gI h a 4) :: st) h := Rget hB_32 dX4_copyFrom_83 rfl (Or.inl hS)
set_option maxRecDepth 100000 in
theorem v32_86 {d : Nat} {ls : LS3} {st : List MV} {h : Hp} {a : A3} {x : Int32} (hS : gS h a = (1, 4)) : Ev d 32 86 ls (vI x :: vR a :: st) h = Ev d 32 89 ls st (sI h a 4 x) := RputI hB_32 dX4_copyFrom_86 rfl rfl (by decide) hS (Or.inl rfl)
theorem v32_89 {d : Nat} {st : List MV} {h : Hp} {x : Option A3} {a1 a2 : Option MV} : Ev d 32 89 [some (vO x), a1, a2] st h = Ev d 32 90 [some (vO x), a1, a2] (vO x :: st) h := Rnx (hB_32) (dX4_copyFrom_89) rfl
theorem v32_90 {d : Nat} {st : List MV} {h : Hp} {x : Option A3} {a0 a2 : Option MV} : Ev d 32 90 [a0, some (vO x), a2] st h = Ev d 32 91 [a0, some (vO x), a2] (vO x :: st) h := Rnx (hB_32) (dX4_copyFrom_90) rfl
set_option maxRecDepth 100000 in
theorem v32_91 {d : Nat} {ls : LS3} {st : List MV} {h : Hp} {a : A3} (hS : gS h a = (1, 4)) : Ev d 32 91 ls (vR a :: st) h = Ev d 32 94 ls (vI (gI h a 5) :: st) h := Rget hB_32 dX4_copyFrom_91 rfl (Or.inl hS)
set_option maxRecDepth 100000 in
theorem v32_94 {d : Nat} {ls : LS3} {st : List MV} {h : Hp} {a : A3} {x : Int32} (hS : gS h a = (1, 4)) : Ev d 32 94 ls (vI x :: vR a :: st) h = Ev d 32 97 ls st (sI h a 5 x) := RputI hB_32 dX4_copyFrom_94 rfl rfl (by decide) hS (Or.inl rfl)
theorem v32_97 {d : Nat} {st : List MV} {h : Hp} {x : Option A3} {a1 a2 : Option MV} : Ev d 32 97 [some (vO x), a1, a2] st h = Ev d 32 98 [some (vO x), a1, a2] (vO x :: st) h := Rnx (hB_32) (dX4_copyFrom_97) rfl
theorem v32_98 {d : Nat} {st : List MV} {h : Hp} {x : Option A3} {a0 a2 : Option MV} : Ev d 32 98 [a0, some (vO x), a2] st h = Ev d 32 99 [a0, some (vO x), a2] (vO x :: st) h := Rnx (hB_32) (dX4_copyFrom_98) rfl
set_option maxRecDepth 100000 in
theorem v32_99 {d : Nat} {ls : LS3} {st : List MV} {h : Hp} {a : A3} (hS : gS h a = (1, 4)) : Ev d 32 99 ls (vR a :: st) h = Ev d 32 102 ls (vI (gI h a 6) :: st) h := Rget hB_32 dX4_copyFrom_99 rfl (Or.inl hS)
set_option maxRecDepth 100000 in
theorem v32_102 {d : Nat} {ls : LS3} {st : List MV} {h : Hp} {a : A3} {x : Int32} (hS : gS h a = (1, 4)) : Ev d 32 102 ls (vI x :: vR a :: st) h = Ev d 32 105 ls st (sI h a 6 x) := RputI hB_32 dX4_copyFrom_102 rfl rfl (by decide) hS (Or.inl rfl)
theorem v32_105 {d : Nat} {st : List MV} {h : Hp} {x : Option A3} {a1 a2 : Option MV} : Ev d 32 105 [some (vO x), a1, a2] st h = Ev d 32 106 [some (vO x), a1, a2] (vO x :: st) h := Rnx (hB_32) (dX4_copyFrom_105) rfl
theorem v32_106 {d : Nat} {st : List MV} {h : Hp} {x : Option A3} {a0 a2 : Option MV} : Ev d 32 106 [a0, some (vO x), a2] st h = Ev d 32 107 [a0, some (vO x), a2] (vO x :: st) h := Rnx (hB_32) (dX4_copyFrom_106) rfl
set_option maxRecDepth 100000 in
theorem v32_107 {d : Nat} {ls : LS3} {st : List MV} {h : Hp} {a : A3} (hS : gS h a = (1, 4)) : Ev d 32 107 ls (vR a :: st) h = Ev d 32 110 ls (vI (gI h a 7) :: st) h := Rget hB_32 dX4_copyFrom_107 rfl (Or.inl hS)
set_option maxRecDepth 100000 in
theorem v32_110 {d : Nat} {ls : LS3} {st : List MV} {h : Hp} {a : A3} {x : Int32} (hS : gS h a = (1, 4)) : Ev d 32 110 ls (vI x :: vR a :: st) h = Ev d 32 113 ls st (sI h a 7 x) := RputI hB_32 dX4_copyFrom_110 rfl rfl (by decide) hS (Or.inl rfl)
theorem v32_113 {d : Nat} {ls : LS3} {h : Hp} : Ev d 32 113 ls [] h = some (.inl none, h) := Rdn hB_32 dX4_copyFrom_113 rfl
theorem hB_33 : mB 33 = cX4_enrol := rfl
theorem v33_0 {d : Nat} {st : List MV} {h : Hp} {x : Option A3} {a1 a2 a3 a4 : Option MV} : Ev d 33 0 [some (vO x), a1, a2, a3, a4] st h = Ev d 33 1 [some (vO x), a1, a2, a3, a4] (vO x :: st) h := Rnx (hB_33) (dX4_enrol_0) rfl
set_option maxRecDepth 100000 in
theorem v33_1 {d : Nat} {ls : LS3} {st : List MV} {h : Hp} {a : A3} (hS : gS h a = (1, 4)) : Ev d 33 1 ls (vR a :: st) h = Ev d 33 4 ls (vI (gI h a 3) :: st) h := Rget hB_33 dX4_enrol_1 rfl (Or.inl hS)
theorem v33_4 {d : Nat} {ls : LS3} {st : List MV} {h : Hp} : Ev d 33 4 ls st h = Ev d 33 6 ls (vI 14 :: st) h := Rnx (hB_33) (dX4_enrol_4) rfl
theorem v33_6 {d : Nat} {ls : LS3} {st : List MV} {h : Hp} {x y : Int32} : Ev d 33 6 ls (vI y :: vI x :: st) h = if x < y then Ev d 33 11 ls st h else Ev d 33 9 ls st h := Rif hB_33 dX4_enrol_6 rfl
theorem v33_9 {d : Nat} {ls : LS3} {st : List MV} {h : Hp} : Ev d 33 9 ls st h = Ev d 33 10 ls (vI (-1) :: st) h := Rnx (hB_33) (dX4_enrol_9) rfl
theorem v33_10 {d : Nat} {ls : LS3} {h : Hp} {x : Int32} : Ev d 33 10 ls [vI x] h = some (.inl (some (vI x)), h) := Rdn hB_33 dX4_enrol_10 rfl
theorem v33_11 {d : Nat} {st : List MV} {h : Hp} {x : Option A3} {a1 a2 a3 a4 : Option MV} : Ev d 33 11 [some (vO x), a1, a2, a3, a4] st h = Ev d 33 12 [some (vO x), a1, a2, a3, a4] (vO x :: st) h := Rnx (hB_33) (dX4_enrol_11) rfl
set_option maxRecDepth 100000 in
theorem v33_12 {d : Nat} {ls : LS3} {st : List MV} {h : Hp} {a : A3} (hS : gS h a = (1, 4)) : Ev d 33 12 ls (vR a :: st) h = Ev d 33 15 ls (vO (gR h a 0) :: st) h := Rget hB_33 dX4_enrol_12 rfl (Or.inl hS)
theorem v33_15 {d : Nat} {st : List MV} {h : Hp} {x : Option A3} {a1 a2 a3 a4 : Option MV} : Ev d 33 15 [some (vO x), a1, a2, a3, a4] st h = Ev d 33 16 [some (vO x), a1, a2, a3, a4] (vO x :: st) h := Rnx (hB_33) (dX4_enrol_15) rfl
set_option maxRecDepth 100000 in
theorem v33_16 {d : Nat} {ls : LS3} {st : List MV} {h : Hp} {a : A3} (hS : gS h a = (1, 4)) : Ev d 33 16 ls (vR a :: st) h = Ev d 33 19 ls (vI (gI h a 3) :: st) h := Rget hB_33 dX4_enrol_16 rfl (Or.inl hS)
theorem v33_19 {d : Nat} {ls : LS3} {st : List MV} {h : Hp} {a : A3} {j : Int32} (hS : (gS h a).1 ∈ [6, 7, 8]) (hj : inB j (gS h a).2) : Ev d 33 19 ls (vI j :: vR a :: st) h = Ev d 33 20 ls (vO (gR h a j.toNatClampNeg) :: st) h := Rald (ks := [6, 7, 8]) (f := fun a j => vO (gR h a j)) hB_33 dX4_enrol_19 rfl hS hj
theorem v33_20 {d : Nat} {st : List MV} {h : Hp} {x : Int32} {a0 a2 a3 a4 : Option MV} : Ev d 33 20 [a0, some (vI x), a2, a3, a4] st h = Ev d 33 21 [a0, some (vI x), a2, a3, a4] (vI x :: st) h := Rnx (hB_33) (dX4_enrol_20) rfl
theorem v33_21 {d : Nat} {st : List MV} {h : Hp} {x : Int32} {a0 a1 a3 a4 : Option MV} : Ev d 33 21 [a0, a1, some (vI x), a3, a4] st h = Ev d 33 22 [a0, a1, some (vI x), a3, a4] (vI x :: st) h := Rnx (hB_33) (dX4_enrol_21) rfl
theorem v33_22 {d : Nat} {st : List MV} {h : Hp} {x : Int32} {a0 a1 a2 a4 : Option MV} : Ev d 33 22 [a0, a1, a2, some (vI x), a4] st h = Ev d 33 23 [a0, a1, a2, some (vI x), a4] (vI x :: st) h := Rnx (hB_33) (dX4_enrol_22) rfl
theorem v33_23 {d : Nat} {st : List MV} {h : Hp} {x : Int32} {a0 a1 a2 a3 : Option MV} : Ev d 33 23 [a0, a1, a2, a3, some (vI x)] st h = Ev d 33 25 [a0, a1, a2, a3, some (vI x)] (vI x :: st) h := Rnx (hB_33) (dX4_enrol_23) rfl
set_option maxRecDepth 100000 in
theorem v33_25 {d : Nat} {ls : LS3} {st : List MV} {h : Hp} {a : A3} {x0 : Int32} {x1 : Int32} {x2 : Int32} {x3 : Int32} (hS : gS h a = (1, 3)) (hc : catS st ≤ 8) : Ev (d + 1) 33 25 ls (vI x3 :: vI x2 :: vI x1 :: vI x0 :: vR a :: st) h = Evk 21 (d + 1) 33 25 ls st (Ev d 21 0 [some (vR a), some (vI x0), some (vI x1), some (vI x2), some (vI x3)] [] h) := RcallO (idx := 64) (n := 4) (kd := 0) (As' := [vI x0, vI x1, vI x2, vI x3]) hB_33 dX4_enrol_25 rfl rfl (by decide) rfl rfl (Or.inl hS) rfl hc
theorem v33_28 {d : Nat} {st : List MV} {h : Hp} {x : Option A3} {a1 a2 a3 a4 : Option MV} : Ev d 33 28 [some (vO x), a1, a2, a3, a4] st h = Ev d 33 29 [some (vO x), a1, a2, a3, a4] (vO x :: st) h := Rnx (hB_33) (dX4_enrol_28) rfl
theorem v33_29 {d : Nat} {ls : LS3} {st : List MV} {h : Hp} {v : MV} (hv : cat1 v = true) : Ev d 33 29 ls (v :: st) h = Ev d 33 30 ls (v :: v :: st) h := Rdup hB_33 dX4_enrol_29 hv
set_option maxRecDepth 100000 in
theorem v33_30 {d : Nat} {ls : LS3} {st : List MV} {h : Hp} {a : A3} (hS : gS h a = (1, 4)) : Ev d 33 30 ls (vR a :: st) h = Ev d 33 33 ls (vI (gI h a 3) :: st) h := Rget hB_33 dX4_enrol_30 rfl (Or.inl hS)
theorem v33_33 {d : Nat} {ls : LS3} {st : List MV} {h : Hp} : Ev d 33 33 ls st h = Ev d 33 34 ls (vI 1 :: st) h := Rnx (hB_33) (dX4_enrol_33) rfl
theorem v33_34 {d : Nat} {ls : LS3} {st : List MV} {h : Hp} {x y : Int32} : Ev d 33 34 ls (vI y :: vI x :: st) h = Ev d 33 35 ls (vI (x + y) :: st) h := Rnx (hB_33) (dX4_enrol_34) rfl
set_option maxRecDepth 100000 in
theorem v33_35 {d : Nat} {ls : LS3} {st : List MV} {h : Hp} {a : A3} {x : Int32} (hS : gS h a = (1, 4)) : Ev d 33 35 ls (vI x :: vR a :: st) h = Ev d 33 38 ls st (sI h a 3 x) := RputI hB_33 dX4_enrol_35 rfl rfl (by decide) hS (Or.inl rfl)
theorem v33_38 {d : Nat} {st : List MV} {h : Hp} {x : Option A3} {a1 a2 a3 a4 : Option MV} : Ev d 33 38 [some (vO x), a1, a2, a3, a4] st h = Ev d 33 39 [some (vO x), a1, a2, a3, a4] (vO x :: st) h := Rnx (hB_33) (dX4_enrol_38) rfl
set_option maxRecDepth 100000 in
theorem v33_39 {d : Nat} {ls : LS3} {st : List MV} {h : Hp} {a : A3} (hS : gS h a = (1, 4)) : Ev d 33 39 ls (vR a :: st) h = Ev d 33 42 ls (vI (gI h a 3) :: st) h := Rget hB_33 dX4_enrol_39 rfl (Or.inl hS)
theorem v33_42 {d : Nat} {ls : LS3} {st : List MV} {h : Hp} : Ev d 33 42 ls st h = Ev d 33 43 ls (vI 1 :: st) h := Rnx (hB_33) (dX4_enrol_42) rfl
theorem v33_43 {d : Nat} {ls : LS3} {st : List MV} {h : Hp} {x y : Int32} : Ev d 33 43 ls (vI y :: vI x :: st) h = Ev d 33 44 ls (vI (x - y) :: st) h := Rnx (hB_33) (dX4_enrol_43) rfl
theorem v33_44 {d : Nat} {ls : LS3} {h : Hp} {x : Int32} : Ev d 33 44 ls [vI x] h = some (.inl (some (vI x)), h) := Rdn hB_33 dX4_enrol_44 rfl
theorem hB_34 : mB 34 = cX4_register := rfl
theorem v34_0 {d : Nat} {st : List MV} {h : Hp} {x : Option A3} {a1 a2 a3 a4 : Option MV} : Ev d 34 0 [some (vO x), a1, a2, a3, a4] st h = Ev d 34 1 [some (vO x), a1, a2, a3, a4] (vO x :: st) h := Rnx (hB_34) (dX4_register_0) rfl
set_option maxRecDepth 100000 in
theorem v34_1 {d : Nat} {ls : LS3} {st : List MV} {h : Hp} {a : A3} (hS : gS h a = (1, 4)) : Ev d 34 1 ls (vR a :: st) h = Ev d 34 4 ls (vI (gI h a 4) :: st) h := Rget hB_34 dX4_register_1 rfl (Or.inl hS)
theorem v34_4 {d : Nat} {ls : LS3} {st : List MV} {h : Hp} : Ev d 34 4 ls st h = Ev d 34 6 ls (vI 8 :: st) h := Rnx (hB_34) (dX4_register_4) rfl
theorem v34_6 {d : Nat} {ls : LS3} {st : List MV} {h : Hp} {x y : Int32} : Ev d 34 6 ls (vI y :: vI x :: st) h = if x < y then Ev d 34 11 ls st h else Ev d 34 9 ls st h := Rif hB_34 dX4_register_6 rfl
theorem v34_9 {d : Nat} {ls : LS3} {st : List MV} {h : Hp} : Ev d 34 9 ls st h = Ev d 34 10 ls (vI (-1) :: st) h := Rnx (hB_34) (dX4_register_9) rfl
theorem v34_10 {d : Nat} {ls : LS3} {h : Hp} {x : Int32} : Ev d 34 10 ls [vI x] h = some (.inl (some (vI x)), h) := Rdn hB_34 dX4_register_10 rfl
theorem v34_11 {d : Nat} {st : List MV} {h : Hp} {x : Option A3} {a1 a2 a3 a4 : Option MV} : Ev d 34 11 [some (vO x), a1, a2, a3, a4] st h = Ev d 34 12 [some (vO x), a1, a2, a3, a4] (vO x :: st) h := Rnx (hB_34) (dX4_register_11) rfl
set_option maxRecDepth 100000 in
theorem v34_12 {d : Nat} {ls : LS3} {st : List MV} {h : Hp} {a : A3} (hS : gS h a = (1, 4)) : Ev d 34 12 ls (vR a :: st) h = Ev d 34 15 ls (vO (gR h a 1) :: st) h := Rget hB_34 dX4_register_12 rfl (Or.inl hS)
theorem v34_15 {d : Nat} {st : List MV} {h : Hp} {x : Option A3} {a1 a2 a3 a4 : Option MV} : Ev d 34 15 [some (vO x), a1, a2, a3, a4] st h = Ev d 34 16 [some (vO x), a1, a2, a3, a4] (vO x :: st) h := Rnx (hB_34) (dX4_register_15) rfl
set_option maxRecDepth 100000 in
theorem v34_16 {d : Nat} {ls : LS3} {st : List MV} {h : Hp} {a : A3} (hS : gS h a = (1, 4)) : Ev d 34 16 ls (vR a :: st) h = Ev d 34 19 ls (vI (gI h a 4) :: st) h := Rget hB_34 dX4_register_16 rfl (Or.inl hS)
theorem v34_19 {d : Nat} {ls : LS3} {st : List MV} {h : Hp} {a : A3} {j : Int32} (hS : (gS h a).1 ∈ [6, 7, 8]) (hj : inB j (gS h a).2) : Ev d 34 19 ls (vI j :: vR a :: st) h = Ev d 34 20 ls (vO (gR h a j.toNatClampNeg) :: st) h := Rald (ks := [6, 7, 8]) (f := fun a j => vO (gR h a j)) hB_34 dX4_register_19 rfl hS hj
theorem v34_20 {d : Nat} {st : List MV} {h : Hp} {x : Int32} {a0 a2 a3 a4 : Option MV} : Ev d 34 20 [a0, some (vI x), a2, a3, a4] st h = Ev d 34 21 [a0, some (vI x), a2, a3, a4] (vI x :: st) h := Rnx (hB_34) (dX4_register_20) rfl
theorem v34_21 {d : Nat} {st : List MV} {h : Hp} {x : Int32} {a0 a1 a3 a4 : Option MV} : Ev d 34 21 [a0, a1, some (vI x), a3, a4] st h = Ev d 34 22 [a0, a1, some (vI x), a3, a4] (vI x :: st) h := Rnx (hB_34) (dX4_register_21) rfl
theorem v34_22 {d : Nat} {st : List MV} {h : Hp} {x : Int32} {a0 a1 a2 a4 : Option MV} : Ev d 34 22 [a0, a1, a2, some (vI x), a4] st h = Ev d 34 23 [a0, a1, a2, some (vI x), a4] (vI x :: st) h := Rnx (hB_34) (dX4_register_22) rfl
theorem v34_23 {d : Nat} {st : List MV} {h : Hp} {x : Int32} {a0 a1 a2 a3 : Option MV} : Ev d 34 23 [a0, a1, a2, a3, some (vI x)] st h = Ev d 34 25 [a0, a1, a2, a3, some (vI x)] (vI x :: st) h := Rnx (hB_34) (dX4_register_23) rfl
set_option maxRecDepth 100000 in
theorem v34_25 {d : Nat} {ls : LS3} {st : List MV} {h : Hp} {a : A3} {x0 : Int32} {x1 : Int32} {x2 : Int32} {x3 : Int32} (hS : gS h a = (1, 5)) (hc : catS st ≤ 8) : Ev (d + 1) 34 25 ls (vI x3 :: vI x2 :: vI x1 :: vI x0 :: vR a :: st) h = Evk 74 (d + 1) 34 25 ls st (Ev d 74 0 [some (vR a), some (vI x0), some (vI x1), some (vI x2), some (vI x3)] [] h) := RcallO (idx := 68) (n := 4) (kd := 0) (As' := [vI x0, vI x1, vI x2, vI x3]) hB_34 dX4_register_25 rfl rfl (by decide) rfl rfl (Or.inl hS) rfl hc
theorem v34_28 {d : Nat} {st : List MV} {h : Hp} {x : Option A3} {a1 a2 a3 a4 : Option MV} : Ev d 34 28 [some (vO x), a1, a2, a3, a4] st h = Ev d 34 29 [some (vO x), a1, a2, a3, a4] (vO x :: st) h := Rnx (hB_34) (dX4_register_28) rfl
theorem v34_29 {d : Nat} {ls : LS3} {st : List MV} {h : Hp} {v : MV} (hv : cat1 v = true) : Ev d 34 29 ls (v :: st) h = Ev d 34 30 ls (v :: v :: st) h := Rdup hB_34 dX4_register_29 hv
set_option maxRecDepth 100000 in
theorem v34_30 {d : Nat} {ls : LS3} {st : List MV} {h : Hp} {a : A3} (hS : gS h a = (1, 4)) : Ev d 34 30 ls (vR a :: st) h = Ev d 34 33 ls (vI (gI h a 4) :: st) h := Rget hB_34 dX4_register_30 rfl (Or.inl hS)
theorem v34_33 {d : Nat} {ls : LS3} {st : List MV} {h : Hp} : Ev d 34 33 ls st h = Ev d 34 34 ls (vI 1 :: st) h := Rnx (hB_34) (dX4_register_33) rfl
theorem v34_34 {d : Nat} {ls : LS3} {st : List MV} {h : Hp} {x y : Int32} : Ev d 34 34 ls (vI y :: vI x :: st) h = Ev d 34 35 ls (vI (x + y) :: st) h := Rnx (hB_34) (dX4_register_34) rfl
set_option maxRecDepth 100000 in
theorem v34_35 {d : Nat} {ls : LS3} {st : List MV} {h : Hp} {a : A3} {x : Int32} (hS : gS h a = (1, 4)) : Ev d 34 35 ls (vI x :: vR a :: st) h = Ev d 34 38 ls st (sI h a 4 x) := RputI hB_34 dX4_register_35 rfl rfl (by decide) hS (Or.inl rfl)
theorem v34_38 {d : Nat} {st : List MV} {h : Hp} {x : Option A3} {a1 a2 a3 a4 : Option MV} : Ev d 34 38 [some (vO x), a1, a2, a3, a4] st h = Ev d 34 39 [some (vO x), a1, a2, a3, a4] (vO x :: st) h := Rnx (hB_34) (dX4_register_38) rfl
set_option maxRecDepth 100000 in
theorem v34_39 {d : Nat} {ls : LS3} {st : List MV} {h : Hp} {a : A3} (hS : gS h a = (1, 4)) : Ev d 34 39 ls (vR a :: st) h = Ev d 34 42 ls (vI (gI h a 4) :: st) h := Rget hB_34 dX4_register_39 rfl (Or.inl hS)
theorem v34_42 {d : Nat} {ls : LS3} {st : List MV} {h : Hp} : Ev d 34 42 ls st h = Ev d 34 43 ls (vI 1 :: st) h := Rnx (hB_34) (dX4_register_42) rfl
theorem v34_43 {d : Nat} {ls : LS3} {st : List MV} {h : Hp} {x y : Int32} : Ev d 34 43 ls (vI y :: vI x :: st) h = Ev d 34 44 ls (vI (x - y) :: st) h := Rnx (hB_34) (dX4_register_43) rfl
theorem v34_44 {d : Nat} {ls : LS3} {h : Hp} {x : Int32} : Ev d 34 44 ls [vI x] h = some (.inl (some (vI x)), h) := Rdn hB_34 dX4_register_44 rfl
