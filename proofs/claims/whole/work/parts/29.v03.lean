/-! ROWS OF THE METHODS, 3 -/
theorem hB_111 : mB 111 = cX6_takeBack := rfl
theorem v111_0 {d : Nat} {st : List MV} {h : Hp} {x : Option A3} {a1 a2 a3 : Option MV} : Ev d 111 0 [some (vO x), a1, a2, a3] st h = Ev d 111 1 [some (vO x), a1, a2, a3] (vO x :: st) h := Rnx (hB_111) (dX6_takeBack_0) rfl
theorem v111_1 {d : Nat} {st : List MV} {h : Hp} {x : Int32} {a0 a2 a3 : Option MV} : Ev d 111 1 [a0, some (vI x), a2, a3] st h = Ev d 111 2 [a0, some (vI x), a2, a3] (vI x :: st) h := Rnx (hB_111) (dX6_takeBack_1) rfl
set_option maxRecDepth 100000 in
theorem v111_2 {d : Nat} {ls : LS3} {st : List MV} {h : Hp} {a : A3} {x0 : Int32} (hS : gS h a = (1, 6)) (hc : catS st ≤ 8) : Ev (d + 1) 111 2 ls (vI x0 :: vR a :: st) h = Evk 131 (d + 1) 111 2 ls st (Ev d 131 0 [some (vR a), some (vI x0)] [] h) := RcallO (idx := 157) (n := 1) (kd := 0) (As' := [vI x0]) hB_111 dX6_takeBack_2 rfl rfl (by decide) rfl rfl (Or.inl hS) rfl hc
theorem v111_5 {d : Nat} {st : List MV} {h : Hp} {x : Option A3} {a0 a1 a2 a3 : Option MV} : Ev d 111 5 [a0, a1, a2, a3] (vO x :: st) h = Ev d 111 6 [a0, a1, some (vO x), a3] st h := Rnx (hB_111) (dX6_takeBack_5) rfl
theorem v111_6 {d : Nat} {st : List MV} {h : Hp} {x : Option A3} {a0 a1 a3 : Option MV} : Ev d 111 6 [a0, a1, some (vO x), a3] st h = Ev d 111 7 [a0, a1, some (vO x), a3] (vO x :: st) h := Rnx (hB_111) (dX6_takeBack_6) rfl
set_option maxRecDepth 100000 in
theorem v111_7 {d : Nat} {ls : LS3} {st : List MV} {h : Hp} {a : A3}  (hS : gS h a = (1, 5)) (hc : catS st ≤ 8) : Ev (d + 1) 111 7 ls (vR a :: st) h = Evk 79 (d + 1) 111 7 ls st (Ev d 79 0 [some (vR a)] [] h) := RcallO (idx := 260) (n := 0) (kd := 0) (As' := []) hB_111 dX6_takeBack_7 rfl rfl (by decide) rfl rfl (Or.inl hS) rfl hc
theorem v111_10 {d : Nat} {ls : LS3} {st : List MV} {h : Hp} {x : Int32} : Ev d 111 10 ls (vI x :: st) h = if x = 0 then Ev d 111 20 ls st h else Ev d 111 13 ls st h := Rif hB_111 dX6_takeBack_10 rfl
theorem v111_13 {d : Nat} {st : List MV} {h : Hp} {x : Option A3} {a0 a1 a3 : Option MV} : Ev d 111 13 [a0, a1, some (vO x), a3] st h = Ev d 111 14 [a0, a1, some (vO x), a3] (vO x :: st) h := Rnx (hB_111) (dX6_takeBack_13) rfl
set_option maxRecDepth 100000 in
theorem v111_14 {d : Nat} {ls : LS3} {st : List MV} {h : Hp} {a : A3}  (hS : gS h a = (1, 5)) (hc : catS st ≤ 8) : Ev (d + 1) 111 14 ls (vR a :: st) h = Evk 80 (d + 1) 111 14 ls st (Ev d 80 0 [some (vR a)] [] h) := RcallO (idx := 264) (n := 0) (kd := 0) (As' := []) hB_111 dX6_takeBack_14 rfl rfl (by decide) rfl rfl (Or.inl hS) rfl hc
theorem v111_17 {d : Nat} {ls : LS3} {st : List MV} {h : Hp} {x : Int32} : Ev d 111 17 ls (vI x :: st) h = if x = 0 then Ev d 111 31 ls st h else Ev d 111 20 ls st h := Rif hB_111 dX6_takeBack_17 rfl
set_option maxRecDepth 100000 in
theorem v111_20 {d : Nat} {ls : LS3} {st : List MV} {h : Hp} (hc : catS st ≤ 8) : Ev d 111 20 ls st h = some (.inr 1, gb h) := Rthr hB_111 dX6_takeBack_20 rfl rfl rfl hc
theorem v111_23 {d : Nat} {ls : LS3} {st : List MV} {h : Hp} {v : MV} (hv : cat1 v = true) : Ev d 111 23 ls (v :: st) h = Ev d 111 24 ls (v :: v :: st) h := Rdup hB_111 dX6_takeBack_23 hv
theorem v111_31 {d : Nat} {st : List MV} {h : Hp} {x : Option A3} {a1 a2 a3 : Option MV} : Ev d 111 31 [some (vO x), a1, a2, a3] st h = Ev d 111 32 [some (vO x), a1, a2, a3] (vO x :: st) h := Rnx (hB_111) (dX6_takeBack_31) rfl
set_option maxRecDepth 100000 in
theorem v111_32 {d : Nat} {ls : LS3} {st : List MV} {h : Hp} {a : A3} (hS : gS h a = (1, 6)) : Ev d 111 32 ls (vR a :: st) h = Ev d 111 35 ls (vO (gR h a 2) :: st) h := Rget hB_111 dX6_takeBack_32 rfl (Or.inl hS)
theorem v111_35 {d : Nat} {st : List MV} {h : Hp} {x : Option A3} {a1 a2 a3 : Option MV} : Ev d 111 35 [some (vO x), a1, a2, a3] st h = Ev d 111 36 [some (vO x), a1, a2, a3] (vO x :: st) h := Rnx (hB_111) (dX6_takeBack_35) rfl
set_option maxRecDepth 100000 in
theorem v111_36 {d : Nat} {ls : LS3} {st : List MV} {h : Hp} {a : A3} (hS : gS h a = (1, 6)) : Ev d 111 36 ls (vR a :: st) h = Ev d 111 39 ls (vO (gR h a 0) :: st) h := Rget hB_111 dX6_takeBack_36 rfl (Or.inl hS)
set_option maxRecDepth 100000 in
theorem v111_39 {d : Nat} {ls : LS3} {st : List MV} {h : Hp} {a : A3} {o0 : Option A3} (hS : gS h a = (1, 1)) (hc : catS st ≤ 8) : Ev (d + 1) 111 39 ls (vO o0 :: vR a :: st) h = Evk 6 (d + 1) 111 39 ls st (Ev d 6 0 [some (vR a), some (vO o0)] [] h) := RcallO (idx := 72) (n := 1) (kd := 0) (As' := [vO o0]) hB_111 dX6_takeBack_39 rfl rfl (by decide) rfl rfl (Or.inl hS) rfl hc
theorem v111_42 {d : Nat} {st : List MV} {h : Hp} {x : Option A3} {a0 a1 a3 : Option MV} : Ev d 111 42 [a0, a1, some (vO x), a3] st h = Ev d 111 43 [a0, a1, some (vO x), a3] (vO x :: st) h := Rnx (hB_111) (dX6_takeBack_42) rfl
set_option maxRecDepth 100000 in
theorem v111_43 {d : Nat} {ls : LS3} {st : List MV} {h : Hp} {a : A3} (hS : gS h a = (1, 5)) : Ev d 111 43 ls (vR a :: st) h = Ev d 111 46 ls (vI (gI h a 8) :: st) h := Rget hB_111 dX6_takeBack_43 rfl (Or.inl hS)
theorem v111_46 {d : Nat} {st : List MV} {h : Hp} {x : Int32} {a0 a1 a2 a3 : Option MV} : Ev d 111 46 [a0, a1, a2, a3] (vI x :: st) h = Ev d 111 47 [a0, a1, a2, some (vI x)] st h := Rnx (hB_111) (dX6_takeBack_46) rfl
theorem v111_47 {d : Nat} {st : List MV} {h : Hp} {x : Option A3} {a0 a1 a3 : Option MV} : Ev d 111 47 [a0, a1, some (vO x), a3] st h = Ev d 111 48 [a0, a1, some (vO x), a3] (vO x :: st) h := Rnx (hB_111) (dX6_takeBack_47) rfl
set_option maxRecDepth 100000 in
theorem v111_48 {d : Nat} {ls : LS3} {st : List MV} {h : Hp} {a : A3}  (hS : gS h a = (1, 5)) (hc : catS st ≤ 8) : Ev (d + 1) 111 48 ls (vR a :: st) h = Evk 78 (d + 1) 111 48 ls st (Ev d 78 0 [some (vR a)] [] h) := RcallO (idx := 269) (n := 0) (kd := 0) (As' := []) hB_111 dX6_takeBack_48 rfl rfl (by decide) rfl rfl (Or.inl hS) rfl hc
theorem v111_51 {d : Nat} {st : List MV} {h : Hp} {x : Int32} {a0 a1 a2 : Option MV} : Ev d 111 51 [a0, a1, a2, some (vI x)] st h = Ev d 111 52 [a0, a1, a2, some (vI x)] (vI x :: st) h := Rnx (hB_111) (dX6_takeBack_51) rfl
theorem v111_52 {d : Nat} {ls : LS3} {h : Hp} {x : Int32} : Ev d 111 52 ls [vI x] h = some (.inl (some (vI x)), h) := Rdn hB_111 dX6_takeBack_52 rfl
theorem hB_112 : mB 112 = cX6_whyNotPlace := rfl
theorem v112_0 {d : Nat} {st : List MV} {h : Hp} {x : Option A3} {a1 a2 a3 a4 a5 : Option MV} : Ev d 112 0 [some (vO x), a1, a2, a3, a4, a5] st h = Ev d 112 1 [some (vO x), a1, a2, a3, a4, a5] (vO x :: st) h := Rnx (hB_112) (dX6_whyNotPlace_0) rfl
theorem v112_1 {d : Nat} {st : List MV} {h : Hp} {x : Int32} {a0 a2 a3 a4 a5 : Option MV} : Ev d 112 1 [a0, some (vI x), a2, a3, a4, a5] st h = Ev d 112 2 [a0, some (vI x), a2, a3, a4, a5] (vI x :: st) h := Rnx (hB_112) (dX6_whyNotPlace_1) rfl
set_option maxRecDepth 100000 in
theorem v112_2 {d : Nat} {ls : LS3} {st : List MV} {h : Hp} {a : A3} {x0 : Int32} (hS : gS h a = (1, 6)) (hc : catS st ≤ 8) : Ev (d + 1) 112 2 ls (vI x0 :: vR a :: st) h = Evk 131 (d + 1) 112 2 ls st (Ev d 131 0 [some (vR a), some (vI x0)] [] h) := RcallO (idx := 157) (n := 1) (kd := 0) (As' := [vI x0]) hB_112 dX6_whyNotPlace_2 rfl rfl (by decide) rfl rfl (Or.inl hS) rfl hc
theorem v112_5 {d : Nat} {st : List MV} {h : Hp} {x : Option A3} {a0 a1 a2 a3 a4 a5 : Option MV} : Ev d 112 5 [a0, a1, a2, a3, a4, a5] (vO x :: st) h = Ev d 112 7 [a0, a1, a2, a3, a4, some (vO x)] st h := Rnx (hB_112) (dX6_whyNotPlace_5) rfl
theorem v112_7 {d : Nat} {st : List MV} {h : Hp} {x : Int32} {a0 a1 a3 a4 a5 : Option MV} : Ev d 112 7 [a0, a1, some (vI x), a3, a4, a5] st h = Ev d 112 8 [a0, a1, some (vI x), a3, a4, a5] (vI x :: st) h := Rnx (hB_112) (dX6_whyNotPlace_7) rfl
set_option maxRecDepth 100000 in
theorem v112_8 {d : Nat} {ls : LS3} {st : List MV} {h : Hp} {x0 : Int32} (hc : catS st ≤ 8) : Ev (d + 1) 112 8 ls (vI x0 :: st) h = Evk 132 (d + 1) 112 8 ls st (Ev d 132 0 [some (vI x0)] [] h) := RcallS (idx := 247) (n := 1) (kd := 1) (As := [vI x0]) hB_112 dX6_whyNotPlace_8 rfl rfl (by decide) rfl rfl rfl hc
theorem v112_11 {d : Nat} {st : List MV} {h : Hp} {x : Int32} {a0 a1 a2 a4 a5 : Option MV} : Ev d 112 11 [a0, a1, a2, some (vI x), a4, a5] st h = Ev d 112 12 [a0, a1, a2, some (vI x), a4, a5] (vI x :: st) h := Rnx (hB_112) (dX6_whyNotPlace_11) rfl
theorem v112_12 {d : Nat} {st : List MV} {h : Hp} {x : Int32} {a0 a1 a2 a3 a5 : Option MV} : Ev d 112 12 [a0, a1, a2, a3, some (vI x), a5] st h = Ev d 112 14 [a0, a1, a2, a3, some (vI x), a5] (vI x :: st) h := Rnx (hB_112) (dX6_whyNotPlace_12) rfl
theorem v112_14 {d : Nat} {ls : LS3} {st : List MV} {h : Hp} : Ev d 112 14 ls st h = Ev d 112 16 ls (vI 6 :: st) h := Rnx (hB_112) (dX6_whyNotPlace_14) rfl
set_option maxRecDepth 100000 in
theorem v112_16 {d : Nat} {ls : LS3} {st : List MV} {h : Hp} {x0 : Int32} {x1 : Int32} {x2 : Int32} (hc : catS st ≤ 8) : Ev (d + 1) 112 16 ls (vI x2 :: vI x1 :: vI x0 :: st) h = Evk 133 (d + 1) 112 16 ls st (Ev d 133 0 [some (vI x0), some (vI x1), some (vI x2)] [] h) := RcallS (idx := 99) (n := 3) (kd := 1) (As := [vI x0, vI x1, vI x2]) hB_112 dX6_whyNotPlace_16 rfl rfl (by decide) rfl rfl rfl hc
theorem v112_19 {d : Nat} {st : List MV} {h : Hp} {x : Option A3} {a1 a2 a3 a4 a5 : Option MV} : Ev d 112 19 [some (vO x), a1, a2, a3, a4, a5] st h = Ev d 112 20 [some (vO x), a1, a2, a3, a4, a5] (vO x :: st) h := Rnx (hB_112) (dX6_whyNotPlace_19) rfl
set_option maxRecDepth 100000 in
theorem v112_20 {d : Nat} {ls : LS3} {st : List MV} {h : Hp} {a : A3} (hS : gS h a = (1, 6)) : Ev d 112 20 ls (vR a :: st) h = Ev d 112 23 ls (vO (gR h a 0) :: st) h := Rget hB_112 dX6_whyNotPlace_20 rfl (Or.inl hS)
theorem v112_23 {d : Nat} {st : List MV} {h : Hp} {x : Option A3} {a0 a1 a2 a3 a4 : Option MV} : Ev d 112 23 [a0, a1, a2, a3, a4, some (vO x)] st h = Ev d 112 25 [a0, a1, a2, a3, a4, some (vO x)] (vO x :: st) h := Rnx (hB_112) (dX6_whyNotPlace_23) rfl
theorem v112_25 {d : Nat} {st : List MV} {h : Hp} {x : Int32} {a0 a1 a3 a4 a5 : Option MV} : Ev d 112 25 [a0, a1, some (vI x), a3, a4, a5] st h = Ev d 112 26 [a0, a1, some (vI x), a3, a4, a5] (vI x :: st) h := Rnx (hB_112) (dX6_whyNotPlace_25) rfl
theorem v112_26 {d : Nat} {st : List MV} {h : Hp} {x : Int32} {a0 a1 a2 a4 a5 : Option MV} : Ev d 112 26 [a0, a1, a2, some (vI x), a4, a5] st h = Ev d 112 27 [a0, a1, a2, some (vI x), a4, a5] (vI x :: st) h := Rnx (hB_112) (dX6_whyNotPlace_26) rfl
theorem v112_27 {d : Nat} {st : List MV} {h : Hp} {x : Int32} {a0 a1 a2 a3 a5 : Option MV} : Ev d 112 27 [a0, a1, a2, a3, some (vI x), a5] st h = Ev d 112 29 [a0, a1, a2, a3, some (vI x), a5] (vI x :: st) h := Rnx (hB_112) (dX6_whyNotPlace_27) rfl
set_option maxRecDepth 100000 in
theorem v112_29 {d : Nat} {ls : LS3} {st : List MV} {h : Hp} {a : A3} {o0 : Option A3} {x1 : Int32} {x2 : Int32} {x3 : Int32} (hS : gS h a = (1, 4)) (hc : catS st ≤ 8) : Ev (d + 1) 112 29 ls (vI x3 :: vI x2 :: vI x1 :: vO o0 :: vR a :: st) h = Evk 49 (d + 1) 112 29 ls st (Ev d 49 0 [some (vR a), some (vO o0), some (vI x1), some (vI x2), some (vI x3)] [] h) := RcallO (idx := 250) (n := 4) (kd := 0) (As' := [vO o0, vI x1, vI x2, vI x3]) hB_112 dX6_whyNotPlace_29 rfl rfl (by decide) rfl rfl (Or.inl hS) rfl hc
theorem v112_32 {d : Nat} {ls : LS3} {h : Hp} {x : Int32} : Ev d 112 32 ls [vI x] h = some (.inl (some (vI x)), h) := Rdn hB_112 dX6_whyNotPlace_32 rfl
theorem hB_113 : mB 113 = cX6_earliest := rfl
theorem v113_0 {d : Nat} {st : List MV} {h : Hp} {x : Option A3} {a1 a2 : Option MV} : Ev d 113 0 [some (vO x), a1, a2] st h = Ev d 113 1 [some (vO x), a1, a2] (vO x :: st) h := Rnx (hB_113) (dX6_earliest_0) rfl
set_option maxRecDepth 100000 in
theorem v113_1 {d : Nat} {ls : LS3} {st : List MV} {h : Hp} {a : A3} (hS : gS h a = (1, 6)) : Ev d 113 1 ls (vR a :: st) h = Ev d 113 4 ls (vO (gR h a 0) :: st) h := Rget hB_113 dX6_earliest_1 rfl (Or.inl hS)
theorem v113_4 {d : Nat} {st : List MV} {h : Hp} {x : Option A3} {a1 a2 : Option MV} : Ev d 113 4 [some (vO x), a1, a2] st h = Ev d 113 5 [some (vO x), a1, a2] (vO x :: st) h := Rnx (hB_113) (dX6_earliest_4) rfl
theorem v113_5 {d : Nat} {st : List MV} {h : Hp} {x : Int32} {a0 a2 : Option MV} : Ev d 113 5 [a0, some (vI x), a2] st h = Ev d 113 6 [a0, some (vI x), a2] (vI x :: st) h := Rnx (hB_113) (dX6_earliest_5) rfl
set_option maxRecDepth 100000 in
theorem v113_6 {d : Nat} {ls : LS3} {st : List MV} {h : Hp} {a : A3} {x0 : Int32} (hS : gS h a = (1, 6)) (hc : catS st ≤ 8) : Ev (d + 1) 113 6 ls (vI x0 :: vR a :: st) h = Evk 131 (d + 1) 113 6 ls st (Ev d 131 0 [some (vR a), some (vI x0)] [] h) := RcallO (idx := 157) (n := 1) (kd := 0) (As' := [vI x0]) hB_113 dX6_earliest_6 rfl rfl (by decide) rfl rfl (Or.inl hS) rfl hc
set_option maxRecDepth 100000 in
theorem v113_9 {d : Nat} {ls : LS3} {st : List MV} {h : Hp} {a : A3} {o0 : Option A3} (hS : gS h a = (1, 4)) (hc : catS st ≤ 8) : Ev (d + 1) 113 9 ls (vO o0 :: vR a :: st) h = Evk 51 (d + 1) 113 9 ls st (Ev d 51 0 [some (vR a), some (vO o0), none, none] [] h) := RcallO (idx := 272) (n := 1) (kd := 0) (As' := [vO o0]) hB_113 dX6_earliest_9 rfl rfl (by decide) rfl rfl (Or.inl hS) rfl hc
theorem v113_12 {d : Nat} {st : List MV} {h : Hp} {x : Int32} {a0 a1 a2 : Option MV} : Ev d 113 12 [a0, a1, a2] (vI x :: st) h = Ev d 113 13 [a0, a1, some (vI x)] st h := Rnx (hB_113) (dX6_earliest_12) rfl
theorem v113_13 {d : Nat} {st : List MV} {h : Hp} {x : Int32} {a0 a1 : Option MV} : Ev d 113 13 [a0, a1, some (vI x)] st h = Ev d 113 14 [a0, a1, some (vI x)] (vI x :: st) h := Rnx (hB_113) (dX6_earliest_13) rfl
theorem v113_14 {d : Nat} {ls : LS3} {st : List MV} {h : Hp} : Ev d 113 14 ls st h = Ev d 113 15 ls (vI (-1) :: st) h := Rnx (hB_113) (dX6_earliest_14) rfl
theorem v113_15 {d : Nat} {ls : LS3} {st : List MV} {h : Hp} {x y : Int32} : Ev d 113 15 ls (vI y :: vI x :: st) h = if x = y then Ev d 113 18 ls st h else Ev d 113 29 ls st h := Rifn hB_113 dX6_earliest_15 rfl
set_option maxRecDepth 100000 in
theorem v113_18 {d : Nat} {ls : LS3} {st : List MV} {h : Hp} (hc : catS st ≤ 8) : Ev d 113 18 ls st h = some (.inr 3, gb h) := Rthr hB_113 dX6_earliest_18 rfl rfl rfl hc
theorem v113_21 {d : Nat} {ls : LS3} {st : List MV} {h : Hp} {v : MV} (hv : cat1 v = true) : Ev d 113 21 ls (v :: st) h = Ev d 113 22 ls (v :: v :: st) h := Rdup hB_113 dX6_earliest_21 hv
theorem v113_29 {d : Nat} {st : List MV} {h : Hp} {x : Int32} {a0 a1 : Option MV} : Ev d 113 29 [a0, a1, some (vI x)] st h = Ev d 113 30 [a0, a1, some (vI x)] (vI x :: st) h := Rnx (hB_113) (dX6_earliest_29) rfl
theorem v113_30 {d : Nat} {ls : LS3} {h : Hp} {x : Int32} : Ev d 113 30 ls [vI x] h = some (.inl (some (vI x)), h) := Rdn hB_113 dX6_earliest_30 rfl
theorem hB_114 : mB 114 = cX6_deadline := rfl
theorem v114_0 {d : Nat} {st : List MV} {h : Hp} {x : Option A3} {a1 a2 a3 : Option MV} : Ev d 114 0 [some (vO x), a1, a2, a3] st h = Ev d 114 1 [some (vO x), a1, a2, a3] (vO x :: st) h := Rnx (hB_114) (dX6_deadline_0) rfl
theorem v114_1 {d : Nat} {st : List MV} {h : Hp} {x : Int32} {a0 a2 a3 : Option MV} : Ev d 114 1 [a0, some (vI x), a2, a3] st h = Ev d 114 2 [a0, some (vI x), a2, a3] (vI x :: st) h := Rnx (hB_114) (dX6_deadline_1) rfl
set_option maxRecDepth 100000 in
theorem v114_2 {d : Nat} {ls : LS3} {st : List MV} {h : Hp} {a : A3} {x0 : Int32} (hS : gS h a = (1, 6)) (hc : catS st ≤ 8) : Ev (d + 1) 114 2 ls (vI x0 :: vR a :: st) h = Evk 131 (d + 1) 114 2 ls st (Ev d 131 0 [some (vR a), some (vI x0)] [] h) := RcallO (idx := 157) (n := 1) (kd := 0) (As' := [vI x0]) hB_114 dX6_deadline_2 rfl rfl (by decide) rfl rfl (Or.inl hS) rfl hc
theorem v114_5 {d : Nat} {st : List MV} {h : Hp} {x : Option A3} {a0 a1 a2 a3 : Option MV} : Ev d 114 5 [a0, a1, a2, a3] (vO x :: st) h = Ev d 114 6 [a0, a1, a2, some (vO x)] st h := Rnx (hB_114) (dX6_deadline_5) rfl
theorem v114_6 {d : Nat} {st : List MV} {h : Hp} {x : Int32} {a0 a1 a3 : Option MV} : Ev d 114 6 [a0, a1, some (vI x), a3] st h = Ev d 114 7 [a0, a1, some (vI x), a3] (vI x :: st) h := Rnx (hB_114) (dX6_deadline_6) rfl
theorem v114_7 {d : Nat} {ls : LS3} {st : List MV} {h : Hp} : Ev d 114 7 ls st h = Ev d 114 8 ls (vI 1 :: st) h := Rnx (hB_114) (dX6_deadline_7) rfl
theorem v114_8 {d : Nat} {ls : LS3} {st : List MV} {h : Hp} {x y : Int32} : Ev d 114 8 ls (vI y :: vI x :: st) h = if x < y then Ev d 114 16 ls st h else Ev d 114 11 ls st h := Rif hB_114 dX6_deadline_8 rfl
theorem v114_11 {d : Nat} {st : List MV} {h : Hp} {x : Int32} {a0 a1 a3 : Option MV} : Ev d 114 11 [a0, a1, some (vI x), a3] st h = Ev d 114 12 [a0, a1, some (vI x), a3] (vI x :: st) h := Rnx (hB_114) (dX6_deadline_11) rfl
theorem v114_12 {d : Nat} {ls : LS3} {st : List MV} {h : Hp} : Ev d 114 12 ls st h = Ev d 114 13 ls (vI 4 :: st) h := Rnx (hB_114) (dX6_deadline_12) rfl
theorem v114_13 {d : Nat} {ls : LS3} {st : List MV} {h : Hp} {x y : Int32} : Ev d 114 13 ls (vI y :: vI x :: st) h = if x ≤ y then Ev d 114 27 ls st h else Ev d 114 16 ls st h := Rif hB_114 dX6_deadline_13 rfl
set_option maxRecDepth 100000 in
theorem v114_16 {d : Nat} {ls : LS3} {st : List MV} {h : Hp} (hc : catS st ≤ 8) : Ev d 114 16 ls st h = some (.inr 0, gb h) := Rthr hB_114 dX6_deadline_16 rfl rfl rfl hc
theorem v114_19 {d : Nat} {ls : LS3} {st : List MV} {h : Hp} {v : MV} (hv : cat1 v = true) : Ev d 114 19 ls (v :: st) h = Ev d 114 20 ls (v :: v :: st) h := Rdup hB_114 dX6_deadline_19 hv
theorem v114_27 {d : Nat} {st : List MV} {h : Hp} {x : Option A3} {a0 a1 a2 : Option MV} : Ev d 114 27 [a0, a1, a2, some (vO x)] st h = Ev d 114 28 [a0, a1, a2, some (vO x)] (vO x :: st) h := Rnx (hB_114) (dX6_deadline_27) rfl
set_option maxRecDepth 100000 in
theorem v114_28 {d : Nat} {ls : LS3} {st : List MV} {h : Hp} {a : A3}  (hS : gS h a = (1, 5)) (hc : catS st ≤ 8) : Ev (d + 1) 114 28 ls (vR a :: st) h = Evk 79 (d + 1) 114 28 ls st (Ev d 79 0 [some (vR a)] [] h) := RcallO (idx := 260) (n := 0) (kd := 0) (As' := []) hB_114 dX6_deadline_28 rfl rfl (by decide) rfl rfl (Or.inl hS) rfl hc
theorem v114_31 {d : Nat} {ls : LS3} {st : List MV} {h : Hp} {x : Int32} : Ev d 114 31 ls (vI x :: st) h = if x = 0 then Ev d 114 34 ls st h else Ev d 114 45 ls st h := Rifn hB_114 dX6_deadline_31 rfl
set_option maxRecDepth 100000 in
theorem v114_34 {d : Nat} {ls : LS3} {st : List MV} {h : Hp} (hc : catS st ≤ 8) : Ev d 114 34 ls st h = some (.inr 1, gb h) := Rthr hB_114 dX6_deadline_34 rfl rfl rfl hc
theorem v114_37 {d : Nat} {ls : LS3} {st : List MV} {h : Hp} {v : MV} (hv : cat1 v = true) : Ev d 114 37 ls (v :: st) h = Ev d 114 38 ls (v :: v :: st) h := Rdup hB_114 dX6_deadline_37 hv
theorem v114_45 {d : Nat} {st : List MV} {h : Hp} {x : Option A3} {a0 a1 a2 : Option MV} : Ev d 114 45 [a0, a1, a2, some (vO x)] st h = Ev d 114 46 [a0, a1, a2, some (vO x)] (vO x :: st) h := Rnx (hB_114) (dX6_deadline_45) rfl
theorem v114_46 {d : Nat} {st : List MV} {h : Hp} {x : Int32} {a0 a1 a3 : Option MV} : Ev d 114 46 [a0, a1, some (vI x), a3] st h = Ev d 114 47 [a0, a1, some (vI x), a3] (vI x :: st) h := Rnx (hB_114) (dX6_deadline_46) rfl
set_option maxRecDepth 100000 in
theorem v114_47 {d : Nat} {ls : LS3} {st : List MV} {h : Hp} {a : A3} {x0 : Int32} (hS : gS h a = (1, 5)) (hc : catS st ≤ 8) : Ev (d + 1) 114 47 ls (vI x0 :: vR a :: st) h = Evk 87 (d + 1) 114 47 ls st (Ev d 87 0 [some (vR a), some (vI x0)] [] h) := RcallO (idx := 281) (n := 1) (kd := 0) (As' := [vI x0]) hB_114 dX6_deadline_47 rfl rfl (by decide) rfl rfl (Or.inl hS) rfl hc
theorem v114_50 {d : Nat} {ls : LS3} {h : Hp} {x : Int32} : Ev d 114 50 ls [vI x] h = some (.inl (some (vI x)), h) := Rdn hB_114 dX6_deadline_50 rfl
theorem hB_115 : mB 115 = cX6_goOn := rfl
theorem v115_0 {d : Nat} {st : List MV} {h : Hp} {x : Option A3} {a1 a2 : Option MV} : Ev d 115 0 [some (vO x), a1, a2] st h = Ev d 115 1 [some (vO x), a1, a2] (vO x :: st) h := Rnx (hB_115) (dX6_goOn_0) rfl
theorem v115_1 {d : Nat} {st : List MV} {h : Hp} {x : Int32} {a0 a2 : Option MV} : Ev d 115 1 [a0, some (vI x), a2] st h = Ev d 115 2 [a0, some (vI x), a2] (vI x :: st) h := Rnx (hB_115) (dX6_goOn_1) rfl
set_option maxRecDepth 100000 in
theorem v115_2 {d : Nat} {ls : LS3} {st : List MV} {h : Hp} {a : A3} {x0 : Int32} (hS : gS h a = (1, 6)) (hc : catS st ≤ 8) : Ev (d + 1) 115 2 ls (vI x0 :: vR a :: st) h = Evk 131 (d + 1) 115 2 ls st (Ev d 131 0 [some (vR a), some (vI x0)] [] h) := RcallO (idx := 157) (n := 1) (kd := 0) (As' := [vI x0]) hB_115 dX6_goOn_2 rfl rfl (by decide) rfl rfl (Or.inl hS) rfl hc
theorem v115_5 {d : Nat} {st : List MV} {h : Hp} {x : Option A3} {a0 a1 a2 : Option MV} : Ev d 115 5 [a0, a1, a2] (vO x :: st) h = Ev d 115 6 [a0, a1, some (vO x)] st h := Rnx (hB_115) (dX6_goOn_5) rfl
theorem v115_6 {d : Nat} {st : List MV} {h : Hp} {x : Option A3} {a1 a2 : Option MV} : Ev d 115 6 [some (vO x), a1, a2] st h = Ev d 115 7 [some (vO x), a1, a2] (vO x :: st) h := Rnx (hB_115) (dX6_goOn_6) rfl
set_option maxRecDepth 100000 in
theorem v115_7 {d : Nat} {ls : LS3} {st : List MV} {h : Hp} {a : A3} (hS : gS h a = (1, 6)) : Ev d 115 7 ls (vR a :: st) h = Ev d 115 10 ls (vO (gR h a 0) :: st) h := Rget hB_115 dX6_goOn_7 rfl (Or.inl hS)
theorem v115_10 {d : Nat} {st : List MV} {h : Hp} {x : Option A3} {a0 a1 : Option MV} : Ev d 115 10 [a0, a1, some (vO x)] st h = Ev d 115 11 [a0, a1, some (vO x)] (vO x :: st) h := Rnx (hB_115) (dX6_goOn_10) rfl
set_option maxRecDepth 100000 in
theorem v115_11 {d : Nat} {ls : LS3} {st : List MV} {h : Hp} {a : A3} {o0 : Option A3} (hS : gS h a = (1, 4)) (hc : catS st ≤ 8) : Ev (d + 1) 115 11 ls (vO o0 :: vR a :: st) h = Evk 54 (d + 1) 115 11 ls st (Ev d 54 0 [some (vR a), some (vO o0)] [] h) := RcallO (idx := 284) (n := 1) (kd := 0) (As' := [vO o0]) hB_115 dX6_goOn_11 rfl rfl (by decide) rfl rfl (Or.inl hS) rfl hc
theorem v115_14 {d : Nat} {ls : LS3} {st : List MV} {h : Hp} {x : Int32} : Ev d 115 14 ls (vI x :: st) h = if x = 0 then Ev d 115 17 ls st h else Ev d 115 28 ls st h := Rifn hB_115 dX6_goOn_14 rfl
set_option maxRecDepth 100000 in
theorem v115_17 {d : Nat} {ls : LS3} {st : List MV} {h : Hp} (hc : catS st ≤ 8) : Ev d 115 17 ls st h = some (.inr 1, gb h) := Rthr hB_115 dX6_goOn_17 rfl rfl rfl hc
theorem v115_20 {d : Nat} {ls : LS3} {st : List MV} {h : Hp} {v : MV} (hv : cat1 v = true) : Ev d 115 20 ls (v :: st) h = Ev d 115 21 ls (v :: v :: st) h := Rdup hB_115 dX6_goOn_20 hv
theorem v115_28 {d : Nat} {st : List MV} {h : Hp} {x : Option A3} {a1 a2 : Option MV} : Ev d 115 28 [some (vO x), a1, a2] st h = Ev d 115 29 [some (vO x), a1, a2] (vO x :: st) h := Rnx (hB_115) (dX6_goOn_28) rfl
set_option maxRecDepth 100000 in
theorem v115_29 {d : Nat} {ls : LS3} {st : List MV} {h : Hp} {a : A3} (hS : gS h a = (1, 6)) : Ev d 115 29 ls (vR a :: st) h = Ev d 115 32 ls (vO (gR h a 2) :: st) h := Rget hB_115 dX6_goOn_29 rfl (Or.inl hS)
theorem v115_32 {d : Nat} {st : List MV} {h : Hp} {x : Option A3} {a1 a2 : Option MV} : Ev d 115 32 [some (vO x), a1, a2] st h = Ev d 115 33 [some (vO x), a1, a2] (vO x :: st) h := Rnx (hB_115) (dX6_goOn_32) rfl
set_option maxRecDepth 100000 in
theorem v115_33 {d : Nat} {ls : LS3} {st : List MV} {h : Hp} {a : A3} (hS : gS h a = (1, 6)) : Ev d 115 33 ls (vR a :: st) h = Ev d 115 36 ls (vO (gR h a 0) :: st) h := Rget hB_115 dX6_goOn_33 rfl (Or.inl hS)
set_option maxRecDepth 100000 in
theorem v115_36 {d : Nat} {ls : LS3} {st : List MV} {h : Hp} {a : A3} {o0 : Option A3} (hS : gS h a = (1, 1)) (hc : catS st ≤ 8) : Ev (d + 1) 115 36 ls (vO o0 :: vR a :: st) h = Evk 6 (d + 1) 115 36 ls st (Ev d 6 0 [some (vR a), some (vO o0)] [] h) := RcallO (idx := 72) (n := 1) (kd := 0) (As' := [vO o0]) hB_115 dX6_goOn_36 rfl rfl (by decide) rfl rfl (Or.inl hS) rfl hc
theorem v115_39 {d : Nat} {st : List MV} {h : Hp} {x : Option A3} {a0 a1 : Option MV} : Ev d 115 39 [a0, a1, some (vO x)] st h = Ev d 115 40 [a0, a1, some (vO x)] (vO x :: st) h := Rnx (hB_115) (dX6_goOn_39) rfl
theorem v115_40 {d : Nat} {ls : LS3} {st : List MV} {h : Hp} {v : MV} (hv : cat1 v = true) : Ev d 115 40 ls (v :: st) h = Ev d 115 41 ls (v :: v :: st) h := Rdup hB_115 dX6_goOn_40 hv
set_option maxRecDepth 100000 in
theorem v115_41 {d : Nat} {ls : LS3} {st : List MV} {h : Hp} {a : A3} (hS : gS h a = (1, 5)) : Ev d 115 41 ls (vR a :: st) h = Ev d 115 44 ls (vI (gI h a 5) :: st) h := Rget hB_115 dX6_goOn_41 rfl (Or.inl hS)
theorem v115_44 {d : Nat} {ls : LS3} {st : List MV} {h : Hp} : Ev d 115 44 ls st h = Ev d 115 45 ls (vI 1 :: st) h := Rnx (hB_115) (dX6_goOn_44) rfl
theorem v115_45 {d : Nat} {ls : LS3} {st : List MV} {h : Hp} {x y : Int32} : Ev d 115 45 ls (vI y :: vI x :: st) h = Ev d 115 46 ls (vI (x + y) :: st) h := Rnx (hB_115) (dX6_goOn_45) rfl
set_option maxRecDepth 100000 in
theorem v115_46 {d : Nat} {ls : LS3} {st : List MV} {h : Hp} {a : A3} {x : Int32} (hS : gS h a = (1, 5)) : Ev d 115 46 ls (vI x :: vR a :: st) h = Ev d 115 49 ls st (sI h a 5 x) := RputI hB_115 dX6_goOn_46 rfl rfl (by decide) hS (Or.inl rfl)
theorem v115_49 {d : Nat} {st : List MV} {h : Hp} {x : Option A3} {a0 a1 : Option MV} : Ev d 115 49 [a0, a1, some (vO x)] st h = Ev d 115 50 [a0, a1, some (vO x)] (vO x :: st) h := Rnx (hB_115) (dX6_goOn_49) rfl
set_option maxRecDepth 100000 in
theorem v115_50 {d : Nat} {ls : LS3} {st : List MV} {h : Hp} {a : A3} (hS : gS h a = (1, 5)) : Ev d 115 50 ls (vR a :: st) h = Ev d 115 53 ls (vI (gI h a 5) :: st) h := Rget hB_115 dX6_goOn_50 rfl (Or.inl hS)
theorem v115_53 {d : Nat} {ls : LS3} {h : Hp} {x : Int32} : Ev d 115 53 ls [vI x] h = some (.inl (some (vI x)), h) := Rdn hB_115 dX6_goOn_53 rfl
theorem hB_116 : mB 116 = cX6_mostUrgent := rfl
theorem v116_0 {d : Nat} {st : List MV} {h : Hp} {x : Option A3} {a1 : Option MV} : Ev d 116 0 [some (vO x), a1] st h = Ev d 116 1 [some (vO x), a1] (vO x :: st) h := Rnx (hB_116) (dX6_mostUrgent_0) rfl
set_option maxRecDepth 100000 in
theorem v116_1 {d : Nat} {ls : LS3} {st : List MV} {h : Hp} {a : A3} (hS : gS h a = (1, 6)) : Ev d 116 1 ls (vR a :: st) h = Ev d 116 4 ls (vO (gR h a 0) :: st) h := Rget hB_116 dX6_mostUrgent_1 rfl (Or.inl hS)
set_option maxRecDepth 100000 in
theorem v116_4 {d : Nat} {ls : LS3} {st : List MV} {h : Hp} {a : A3}  (hS : gS h a = (1, 4)) (hc : catS st ≤ 8) : Ev (d + 1) 116 4 ls (vR a :: st) h = Evk 55 (d + 1) 116 4 ls st (Ev d 55 0 [some (vR a), none, none, none, none, none, none] [] h) := RcallO (idx := 289) (n := 0) (kd := 0) (As' := []) hB_116 dX6_mostUrgent_4 rfl rfl (by decide) rfl rfl (Or.inl hS) rfl hc
theorem v116_7 {d : Nat} {st : List MV} {h : Hp} {x : Int32} {a0 a1 : Option MV} : Ev d 116 7 [a0, a1] (vI x :: st) h = Ev d 116 8 [a0, some (vI x)] st h := Rnx (hB_116) (dX6_mostUrgent_7) rfl
theorem v116_8 {d : Nat} {st : List MV} {h : Hp} {x : Int32} {a0 : Option MV} : Ev d 116 8 [a0, some (vI x)] st h = Ev d 116 9 [a0, some (vI x)] (vI x :: st) h := Rnx (hB_116) (dX6_mostUrgent_8) rfl
theorem v116_9 {d : Nat} {ls : LS3} {st : List MV} {h : Hp} : Ev d 116 9 ls st h = Ev d 116 10 ls (vI (-1) :: st) h := Rnx (hB_116) (dX6_mostUrgent_9) rfl
theorem v116_10 {d : Nat} {ls : LS3} {st : List MV} {h : Hp} {x y : Int32} : Ev d 116 10 ls (vI y :: vI x :: st) h = if x = y then Ev d 116 13 ls st h else Ev d 116 24 ls st h := Rifn hB_116 dX6_mostUrgent_10 rfl
set_option maxRecDepth 100000 in
theorem v116_13 {d : Nat} {ls : LS3} {st : List MV} {h : Hp} (hc : catS st ≤ 8) : Ev d 116 13 ls st h = some (.inr 3, gb h) := Rthr hB_116 dX6_mostUrgent_13 rfl rfl rfl hc
theorem v116_16 {d : Nat} {ls : LS3} {st : List MV} {h : Hp} {v : MV} (hv : cat1 v = true) : Ev d 116 16 ls (v :: st) h = Ev d 116 17 ls (v :: v :: st) h := Rdup hB_116 dX6_mostUrgent_16 hv
theorem v116_24 {d : Nat} {st : List MV} {h : Hp} {x : Int32} {a0 : Option MV} : Ev d 116 24 [a0, some (vI x)] st h = Ev d 116 25 [a0, some (vI x)] (vI x :: st) h := Rnx (hB_116) (dX6_mostUrgent_24) rfl
theorem v116_25 {d : Nat} {ls : LS3} {h : Hp} {x : Int32} : Ev d 116 25 ls [vI x] h = some (.inl (some (vI x)), h) := Rdn hB_116 dX6_mostUrgent_25 rfl
theorem hB_117 : mB 117 = cX6_inRoom := rfl
theorem v117_0 {d : Nat} {st : List MV} {h : Hp} {x : Int32} {a0 a2 a3 a4 : Option MV} : Ev d 117 0 [a0, some (vI x), a2, a3, a4] st h = Ev d 117 1 [a0, some (vI x), a2, a3, a4] (vI x :: st) h := Rnx (hB_117) (dX6_inRoom_0) rfl
set_option maxRecDepth 100000 in
theorem v117_1 {d : Nat} {ls : LS3} {st : List MV} {h : Hp} {x0 : Int32} (hc : catS st ≤ 8) : Ev (d + 1) 117 1 ls (vI x0 :: st) h = Evk 132 (d + 1) 117 1 ls st (Ev d 132 0 [some (vI x0)] [] h) := RcallS (idx := 247) (n := 1) (kd := 1) (As := [vI x0]) hB_117 dX6_inRoom_1 rfl rfl (by decide) rfl rfl rfl hc
theorem v117_4 {d : Nat} {st : List MV} {h : Hp} {x : Int32} {a0 a1 a3 a4 : Option MV} : Ev d 117 4 [a0, a1, some (vI x), a3, a4] st h = Ev d 117 5 [a0, a1, some (vI x), a3, a4] (vI x :: st) h := Rnx (hB_117) (dX6_inRoom_4) rfl
theorem v117_5 {d : Nat} {st : List MV} {h : Hp} {x : Int32} {a0 a1 a2 a4 : Option MV} : Ev d 117 5 [a0, a1, a2, some (vI x), a4] st h = Ev d 117 6 [a0, a1, a2, some (vI x), a4] (vI x :: st) h := Rnx (hB_117) (dX6_inRoom_5) rfl
theorem v117_6 {d : Nat} {ls : LS3} {st : List MV} {h : Hp} : Ev d 117 6 ls st h = Ev d 117 8 ls (vI 7 :: st) h := Rnx (hB_117) (dX6_inRoom_6) rfl
set_option maxRecDepth 100000 in
theorem v117_8 {d : Nat} {ls : LS3} {st : List MV} {h : Hp} {x0 : Int32} {x1 : Int32} {x2 : Int32} (hc : catS st ≤ 8) : Ev (d + 1) 117 8 ls (vI x2 :: vI x1 :: vI x0 :: st) h = Evk 133 (d + 1) 117 8 ls st (Ev d 133 0 [some (vI x0), some (vI x1), some (vI x2)] [] h) := RcallS (idx := 99) (n := 3) (kd := 1) (As := [vI x0, vI x1, vI x2]) hB_117 dX6_inRoom_8 rfl rfl (by decide) rfl rfl rfl hc
theorem v117_11 {d : Nat} {st : List MV} {h : Hp} {x : Option A3} {a1 a2 a3 a4 : Option MV} : Ev d 117 11 [some (vO x), a1, a2, a3, a4] st h = Ev d 117 12 [some (vO x), a1, a2, a3, a4] (vO x :: st) h := Rnx (hB_117) (dX6_inRoom_11) rfl
set_option maxRecDepth 100000 in
theorem v117_12 {d : Nat} {ls : LS3} {st : List MV} {h : Hp} {a : A3} (hS : gS h a = (1, 6)) : Ev d 117 12 ls (vR a :: st) h = Ev d 117 15 ls (vO (gR h a 0) :: st) h := Rget hB_117 dX6_inRoom_12 rfl (Or.inl hS)
theorem v117_15 {d : Nat} {st : List MV} {h : Hp} {x : Int32} {a0 a2 a3 a4 : Option MV} : Ev d 117 15 [a0, some (vI x), a2, a3, a4] st h = Ev d 117 16 [a0, some (vI x), a2, a3, a4] (vI x :: st) h := Rnx (hB_117) (dX6_inRoom_15) rfl
theorem v117_16 {d : Nat} {st : List MV} {h : Hp} {x : Int32} {a0 a1 a3 a4 : Option MV} : Ev d 117 16 [a0, a1, some (vI x), a3, a4] st h = Ev d 117 17 [a0, a1, some (vI x), a3, a4] (vI x :: st) h := Rnx (hB_117) (dX6_inRoom_16) rfl
theorem v117_17 {d : Nat} {st : List MV} {h : Hp} {x : Int32} {a0 a1 a2 a4 : Option MV} : Ev d 117 17 [a0, a1, a2, some (vI x), a4] st h = Ev d 117 18 [a0, a1, a2, some (vI x), a4] (vI x :: st) h := Rnx (hB_117) (dX6_inRoom_17) rfl
set_option maxRecDepth 100000 in
theorem v117_18 {d : Nat} {ls : LS3} {st : List MV} {h : Hp} {a : A3} {x0 : Int32} {x1 : Int32} {x2 : Int32} (hS : gS h a = (1, 4)) (hc : catS st ≤ 8) : Ev (d + 1) 117 18 ls (vI x2 :: vI x1 :: vI x0 :: vR a :: st) h = Evk 53 (d + 1) 117 18 ls st (Ev d 53 0 [some (vR a), some (vI x0), some (vI x1), some (vI x2), none, none, none, none] [] h) := RcallO (idx := 294) (n := 3) (kd := 0) (As' := [vI x0, vI x1, vI x2]) hB_117 dX6_inRoom_18 rfl rfl (by decide) rfl rfl (Or.inl hS) rfl hc
theorem v117_21 {d : Nat} {st : List MV} {h : Hp} {x : Int32} {a0 a1 a2 a3 a4 : Option MV} : Ev d 117 21 [a0, a1, a2, a3, a4] (vI x :: st) h = Ev d 117 23 [a0, a1, a2, a3, some (vI x)] st h := Rnx (hB_117) (dX6_inRoom_21) rfl
theorem v117_23 {d : Nat} {st : List MV} {h : Hp} {x : Int32} {a0 a1 a2 a3 : Option MV} : Ev d 117 23 [a0, a1, a2, a3, some (vI x)] st h = Ev d 117 25 [a0, a1, a2, a3, some (vI x)] (vI x :: st) h := Rnx (hB_117) (dX6_inRoom_23) rfl
theorem v117_25 {d : Nat} {ls : LS3} {st : List MV} {h : Hp} : Ev d 117 25 ls st h = Ev d 117 26 ls (vI (-1) :: st) h := Rnx (hB_117) (dX6_inRoom_25) rfl
theorem v117_26 {d : Nat} {ls : LS3} {st : List MV} {h : Hp} {x y : Int32} : Ev d 117 26 ls (vI y :: vI x :: st) h = if x = y then Ev d 117 29 ls st h else Ev d 117 40 ls st h := Rifn hB_117 dX6_inRoom_26 rfl
set_option maxRecDepth 100000 in
theorem v117_29 {d : Nat} {ls : LS3} {st : List MV} {h : Hp} (hc : catS st ≤ 8) : Ev d 117 29 ls st h = some (.inr 3, gb h) := Rthr hB_117 dX6_inRoom_29 rfl rfl rfl hc
theorem v117_32 {d : Nat} {ls : LS3} {st : List MV} {h : Hp} {v : MV} (hv : cat1 v = true) : Ev d 117 32 ls (v :: st) h = Ev d 117 33 ls (v :: v :: st) h := Rdup hB_117 dX6_inRoom_32 hv
theorem v117_40 {d : Nat} {st : List MV} {h : Hp} {x : Int32} {a0 a1 a2 a3 : Option MV} : Ev d 117 40 [a0, a1, a2, a3, some (vI x)] st h = Ev d 117 42 [a0, a1, a2, a3, some (vI x)] (vI x :: st) h := Rnx (hB_117) (dX6_inRoom_40) rfl
theorem v117_42 {d : Nat} {ls : LS3} {h : Hp} {x : Int32} : Ev d 117 42 ls [vI x] h = some (.inl (some (vI x)), h) := Rdn hB_117 dX6_inRoom_42 rfl
theorem hB_118 : mB 118 = cX6_await := rfl
theorem v118_0 {d : Nat} {st : List MV} {h : Hp} {x : Option A3} {a1 a2 : Option MV} : Ev d 118 0 [some (vO x), a1, a2] st h = Ev d 118 1 [some (vO x), a1, a2] (vO x :: st) h := Rnx (hB_118) (dX6_await_0) rfl
theorem v118_1 {d : Nat} {st : List MV} {h : Hp} {x : Int32} {a0 a2 : Option MV} : Ev d 118 1 [a0, some (vI x), a2] st h = Ev d 118 2 [a0, some (vI x), a2] (vI x :: st) h := Rnx (hB_118) (dX6_await_1) rfl
set_option maxRecDepth 100000 in
theorem v118_2 {d : Nat} {ls : LS3} {st : List MV} {h : Hp} {a : A3} {x0 : Int32} (hS : gS h a = (1, 6)) (hc : catS st ≤ 8) : Ev (d + 1) 118 2 ls (vI x0 :: vR a :: st) h = Evk 131 (d + 1) 118 2 ls st (Ev d 131 0 [some (vR a), some (vI x0)] [] h) := RcallO (idx := 157) (n := 1) (kd := 0) (As' := [vI x0]) hB_118 dX6_await_2 rfl rfl (by decide) rfl rfl (Or.inl hS) rfl hc
theorem v118_5 {d : Nat} {st : List MV} {h : Hp} {x : Option A3} {a0 a1 a2 : Option MV} : Ev d 118 5 [a0, a1, a2] (vO x :: st) h = Ev d 118 6 [a0, a1, some (vO x)] st h := Rnx (hB_118) (dX6_await_5) rfl
theorem v118_6 {d : Nat} {st : List MV} {h : Hp} {x : Option A3} {a0 a1 : Option MV} : Ev d 118 6 [a0, a1, some (vO x)] st h = Ev d 118 7 [a0, a1, some (vO x)] (vO x :: st) h := Rnx (hB_118) (dX6_await_6) rfl
set_option maxRecDepth 100000 in
theorem v118_7 {d : Nat} {ls : LS3} {st : List MV} {h : Hp} {a : A3}  (hS : gS h a = (1, 5)) (hc : catS st ≤ 8) : Ev (d + 1) 118 7 ls (vR a :: st) h = Evk 80 (d + 1) 118 7 ls st (Ev d 80 0 [some (vR a)] [] h) := RcallO (idx := 264) (n := 0) (kd := 0) (As' := []) hB_118 dX6_await_7 rfl rfl (by decide) rfl rfl (Or.inl hS) rfl hc
theorem v118_10 {d : Nat} {ls : LS3} {st : List MV} {h : Hp} {x : Int32} : Ev d 118 10 ls (vI x :: st) h = if x = 0 then Ev d 118 13 ls st h else Ev d 118 20 ls st h := Rifn hB_118 dX6_await_10 rfl
theorem v118_13 {d : Nat} {st : List MV} {h : Hp} {x : Option A3} {a0 a1 : Option MV} : Ev d 118 13 [a0, a1, some (vO x)] st h = Ev d 118 14 [a0, a1, some (vO x)] (vO x :: st) h := Rnx (hB_118) (dX6_await_13) rfl
set_option maxRecDepth 100000 in
theorem v118_14 {d : Nat} {ls : LS3} {st : List MV} {h : Hp} {a : A3}  (hS : gS h a = (1, 5)) (hc : catS st ≤ 8) : Ev (d + 1) 118 14 ls (vR a :: st) h = Evk 79 (d + 1) 118 14 ls st (Ev d 79 0 [some (vR a)] [] h) := RcallO (idx := 260) (n := 0) (kd := 0) (As' := []) hB_118 dX6_await_14 rfl rfl (by decide) rfl rfl (Or.inl hS) rfl hc
theorem v118_17 {d : Nat} {ls : LS3} {st : List MV} {h : Hp} {x : Int32} : Ev d 118 17 ls (vI x :: st) h = if x = 0 then Ev d 118 31 ls st h else Ev d 118 20 ls st h := Rif hB_118 dX6_await_17 rfl
set_option maxRecDepth 100000 in
theorem v118_20 {d : Nat} {ls : LS3} {st : List MV} {h : Hp} (hc : catS st ≤ 8) : Ev d 118 20 ls st h = some (.inr 1, gb h) := Rthr hB_118 dX6_await_20 rfl rfl rfl hc
theorem v118_23 {d : Nat} {ls : LS3} {st : List MV} {h : Hp} {v : MV} (hv : cat1 v = true) : Ev d 118 23 ls (v :: st) h = Ev d 118 24 ls (v :: v :: st) h := Rdup hB_118 dX6_await_23 hv
theorem v118_31 {d : Nat} {st : List MV} {h : Hp} {x : Option A3} {a1 a2 : Option MV} : Ev d 118 31 [some (vO x), a1, a2] st h = Ev d 118 32 [some (vO x), a1, a2] (vO x :: st) h := Rnx (hB_118) (dX6_await_31) rfl
set_option maxRecDepth 100000 in
theorem v118_32 {d : Nat} {ls : LS3} {st : List MV} {h : Hp} {a : A3} (hS : gS h a = (1, 6)) : Ev d 118 32 ls (vR a :: st) h = Ev d 118 35 ls (vO (gR h a 2) :: st) h := Rget hB_118 dX6_await_32 rfl (Or.inl hS)
theorem v118_35 {d : Nat} {st : List MV} {h : Hp} {x : Option A3} {a1 a2 : Option MV} : Ev d 118 35 [some (vO x), a1, a2] st h = Ev d 118 36 [some (vO x), a1, a2] (vO x :: st) h := Rnx (hB_118) (dX6_await_35) rfl
set_option maxRecDepth 100000 in
theorem v118_36 {d : Nat} {ls : LS3} {st : List MV} {h : Hp} {a : A3} (hS : gS h a = (1, 6)) : Ev d 118 36 ls (vR a :: st) h = Ev d 118 39 ls (vO (gR h a 0) :: st) h := Rget hB_118 dX6_await_36 rfl (Or.inl hS)
set_option maxRecDepth 100000 in
theorem v118_39 {d : Nat} {ls : LS3} {st : List MV} {h : Hp} {a : A3} {o0 : Option A3} (hS : gS h a = (1, 1)) (hc : catS st ≤ 8) : Ev (d + 1) 118 39 ls (vO o0 :: vR a :: st) h = Evk 6 (d + 1) 118 39 ls st (Ev d 6 0 [some (vR a), some (vO o0)] [] h) := RcallO (idx := 72) (n := 1) (kd := 0) (As' := [vO o0]) hB_118 dX6_await_39 rfl rfl (by decide) rfl rfl (Or.inl hS) rfl hc
theorem v118_42 {d : Nat} {st : List MV} {h : Hp} {x : Option A3} {a1 a2 : Option MV} : Ev d 118 42 [some (vO x), a1, a2] st h = Ev d 118 43 [some (vO x), a1, a2] (vO x :: st) h := Rnx (hB_118) (dX6_await_42) rfl
set_option maxRecDepth 100000 in
theorem v118_43 {d : Nat} {ls : LS3} {st : List MV} {h : Hp} {a : A3} (hS : gS h a = (1, 6)) : Ev d 118 43 ls (vR a :: st) h = Ev d 118 46 ls (vO (gR h a 0) :: st) h := Rget hB_118 dX6_await_43 rfl (Or.inl hS)
theorem v118_46 {d : Nat} {st : List MV} {h : Hp} {x : Option A3} {a0 a1 : Option MV} : Ev d 118 46 [a0, a1, some (vO x)] st h = Ev d 118 47 [a0, a1, some (vO x)] (vO x :: st) h := Rnx (hB_118) (dX6_await_46) rfl
set_option maxRecDepth 100000 in
theorem v118_47 {d : Nat} {ls : LS3} {st : List MV} {h : Hp} {a : A3} {o0 : Option A3} (hS : gS h a = (1, 4)) (hc : catS st ≤ 8) : Ev (d + 1) 118 47 ls (vO o0 :: vR a :: st) h = Evk 57 (d + 1) 118 47 ls st (Ev d 57 0 [some (vR a), some (vO o0)] [] h) := RcallO (idx := 302) (n := 1) (kd := 0) (As' := [vO o0]) hB_118 dX6_await_47 rfl rfl (by decide) rfl rfl (Or.inl hS) rfl hc
theorem v118_50 {d : Nat} {st : List MV} {h : Hp} {x : Option A3} {a1 a2 : Option MV} : Ev d 118 50 [some (vO x), a1, a2] st h = Ev d 118 51 [some (vO x), a1, a2] (vO x :: st) h := Rnx (hB_118) (dX6_await_50) rfl
set_option maxRecDepth 100000 in
theorem v118_51 {d : Nat} {ls : LS3} {st : List MV} {h : Hp} {a : A3} (hS : gS h a = (1, 6)) : Ev d 118 51 ls (vR a :: st) h = Ev d 118 54 ls (vO (gR h a 0) :: st) h := Rget hB_118 dX6_await_51 rfl (Or.inl hS)
theorem v118_54 {d : Nat} {st : List MV} {h : Hp} {x : Option A3} {a0 a1 : Option MV} : Ev d 118 54 [a0, a1, some (vO x)] st h = Ev d 118 55 [a0, a1, some (vO x)] (vO x :: st) h := Rnx (hB_118) (dX6_await_54) rfl
set_option maxRecDepth 100000 in
theorem v118_55 {d : Nat} {ls : LS3} {st : List MV} {h : Hp} {a : A3} {o0 : Option A3} (hS : gS h a = (1, 4)) (hc : catS st ≤ 8) : Ev (d + 1) 118 55 ls (vO o0 :: vR a :: st) h = Evk 56 (d + 1) 118 55 ls st (Ev d 56 0 [some (vR a), some (vO o0), none] [] h) := RcallO (idx := 188) (n := 1) (kd := 0) (As' := [vO o0]) hB_118 dX6_await_55 rfl rfl (by decide) rfl rfl (Or.inl hS) rfl hc
theorem v118_58 {d : Nat} {ls : LS3} {h : Hp} {x : Int32} : Ev d 118 58 ls [vI x] h = some (.inl (some (vI x)), h) := Rdn hB_118 dX6_await_58 rfl
theorem hB_119 : mB 119 = cX6_serve := rfl
theorem v119_0 {d : Nat} {st : List MV} {h : Hp} {x : Option A3} : Ev d 119 0 [some (vO x)] st h = Ev d 119 1 [some (vO x)] (vO x :: st) h := Rnx (hB_119) (dX6_serve_0) rfl
set_option maxRecDepth 100000 in
theorem v119_1 {d : Nat} {ls : LS3} {st : List MV} {h : Hp} {a : A3} (hS : gS h a = (1, 6)) : Ev d 119 1 ls (vR a :: st) h = Ev d 119 4 ls (vO (gR h a 2) :: st) h := Rget hB_119 dX6_serve_1 rfl (Or.inl hS)
theorem v119_4 {d : Nat} {st : List MV} {h : Hp} {x : Option A3} : Ev d 119 4 [some (vO x)] st h = Ev d 119 5 [some (vO x)] (vO x :: st) h := Rnx (hB_119) (dX6_serve_4) rfl
set_option maxRecDepth 100000 in
theorem v119_5 {d : Nat} {ls : LS3} {st : List MV} {h : Hp} {a : A3} (hS : gS h a = (1, 6)) : Ev d 119 5 ls (vR a :: st) h = Ev d 119 8 ls (vO (gR h a 0) :: st) h := Rget hB_119 dX6_serve_5 rfl (Or.inl hS)
set_option maxRecDepth 100000 in
theorem v119_8 {d : Nat} {ls : LS3} {st : List MV} {h : Hp} {a : A3} {o0 : Option A3} (hS : gS h a = (1, 1)) (hc : catS st ≤ 8) : Ev (d + 1) 119 8 ls (vO o0 :: vR a :: st) h = Evk 6 (d + 1) 119 8 ls st (Ev d 6 0 [some (vR a), some (vO o0)] [] h) := RcallO (idx := 72) (n := 1) (kd := 0) (As' := [vO o0]) hB_119 dX6_serve_8 rfl rfl (by decide) rfl rfl (Or.inl hS) rfl hc
theorem v119_11 {d : Nat} {st : List MV} {h : Hp} {x : Option A3} : Ev d 119 11 [some (vO x)] st h = Ev d 119 12 [some (vO x)] (vO x :: st) h := Rnx (hB_119) (dX6_serve_11) rfl
set_option maxRecDepth 100000 in
theorem v119_12 {d : Nat} {ls : LS3} {st : List MV} {h : Hp} {a : A3} (hS : gS h a = (1, 6)) : Ev d 119 12 ls (vR a :: st) h = Ev d 119 15 ls (vO (gR h a 0) :: st) h := Rget hB_119 dX6_serve_12 rfl (Or.inl hS)
set_option maxRecDepth 100000 in
theorem v119_15 {d : Nat} {ls : LS3} {st : List MV} {h : Hp} {a : A3}  (hS : gS h a = (1, 4)) (hc : catS st ≤ 8) : Ev (d + 1) 119 15 ls (vR a :: st) h = Evk 58 (d + 1) 119 15 ls st (Ev d 58 0 [some (vR a), none, none, none, none] [] h) := RcallO (idx := 306) (n := 0) (kd := 0) (As' := []) hB_119 dX6_serve_15 rfl rfl (by decide) rfl rfl (Or.inl hS) rfl hc
theorem v119_18 {d : Nat} {ls : LS3} {h : Hp} {x : Int32} : Ev d 119 18 ls [vI x] h = some (.inl (some (vI x)), h) := Rdn hB_119 dX6_serve_18 rfl
theorem hB_120 : mB 120 = cX6_waiting := rfl
theorem v120_0 {d : Nat} {st : List MV} {h : Hp} {x : Int32} {a0 : Option MV} : Ev d 120 0 [a0, some (vI x)] st h = Ev d 120 1 [a0, some (vI x)] (vI x :: st) h := Rnx (hB_120) (dX6_waiting_0) rfl
theorem v120_1 {d : Nat} {st : List MV} {h : Hp} {x : Option A3} {a1 : Option MV} : Ev d 120 1 [some (vO x), a1] st h = Ev d 120 2 [some (vO x), a1] (vO x :: st) h := Rnx (hB_120) (dX6_waiting_1) rfl
set_option maxRecDepth 100000 in
theorem v120_2 {d : Nat} {ls : LS3} {st : List MV} {h : Hp} {a : A3} (hS : gS h a = (1, 6)) : Ev d 120 2 ls (vR a :: st) h = Ev d 120 5 ls (vO (gR h a 0) :: st) h := Rget hB_120 dX6_waiting_2 rfl (Or.inl hS)
set_option maxRecDepth 100000 in
theorem v120_5 {d : Nat} {ls : LS3} {st : List MV} {h : Hp} {a : A3} (hS : gS h a = (1, 4)) : Ev d 120 5 ls (vR a :: st) h = Ev d 120 8 ls (vI (gI h a 5) :: st) h := Rget hB_120 dX6_waiting_5 rfl (Or.inl hS)
set_option maxRecDepth 100000 in
theorem v120_8 {d : Nat} {ls : LS3} {st : List MV} {h : Hp} {x0 : Int32} {x1 : Int32} (hc : catS st ≤ 8) : Ev (d + 1) 120 8 ls (vI x1 :: vI x0 :: st) h = Evk 137 (d + 1) 120 8 ls st (Ev d 137 0 [some (vI x0), some (vI x1)] [] h) := RcallS (idx := 56) (n := 2) (kd := 1) (As := [vI x0, vI x1]) hB_120 dX6_waiting_8 rfl rfl (by decide) rfl rfl rfl hc
theorem v120_11 {d : Nat} {ls : LS3} {st : List MV} {h : Hp} {x : Int32} : Ev d 120 11 ls (vI x :: st) h = if x = 0 then Ev d 120 14 ls st h else Ev d 120 25 ls st h := Rifn hB_120 dX6_waiting_11 rfl
set_option maxRecDepth 100000 in
theorem v120_14 {d : Nat} {ls : LS3} {st : List MV} {h : Hp} (hc : catS st ≤ 8) : Ev d 120 14 ls st h = some (.inr 3, gb h) := Rthr hB_120 dX6_waiting_14 rfl rfl rfl hc
theorem v120_17 {d : Nat} {ls : LS3} {st : List MV} {h : Hp} {v : MV} (hv : cat1 v = true) : Ev d 120 17 ls (v :: st) h = Ev d 120 18 ls (v :: v :: st) h := Rdup hB_120 dX6_waiting_17 hv
theorem v120_25 {d : Nat} {st : List MV} {h : Hp} {x : Option A3} {a1 : Option MV} : Ev d 120 25 [some (vO x), a1] st h = Ev d 120 26 [some (vO x), a1] (vO x :: st) h := Rnx (hB_120) (dX6_waiting_25) rfl
set_option maxRecDepth 100000 in
theorem v120_26 {d : Nat} {ls : LS3} {st : List MV} {h : Hp} {a : A3} (hS : gS h a = (1, 6)) : Ev d 120 26 ls (vR a :: st) h = Ev d 120 29 ls (vO (gR h a 0) :: st) h := Rget hB_120 dX6_waiting_26 rfl (Or.inl hS)
set_option maxRecDepth 100000 in
theorem v120_29 {d : Nat} {ls : LS3} {st : List MV} {h : Hp} {a : A3} (hS : gS h a = (1, 4)) : Ev d 120 29 ls (vR a :: st) h = Ev d 120 32 ls (vO (gR h a 2) :: st) h := Rget hB_120 dX6_waiting_29 rfl (Or.inl hS)
theorem v120_32 {d : Nat} {st : List MV} {h : Hp} {x : Int32} {a0 : Option MV} : Ev d 120 32 [a0, some (vI x)] st h = Ev d 120 33 [a0, some (vI x)] (vI x :: st) h := Rnx (hB_120) (dX6_waiting_32) rfl
theorem v120_33 {d : Nat} {ls : LS3} {st : List MV} {h : Hp} {a : A3} {j : Int32} (hS : (gS h a).1 ∈ [2, 9]) (hj : inB j (gS h a).2) : Ev d 120 33 ls (vI j :: vR a :: st) h = Ev d 120 34 ls (vI (gI h a j.toNatClampNeg) :: st) h := Rald (ks := [2, 9]) (f := fun a j => vI (gI h a j)) hB_120 dX6_waiting_33 rfl hS hj
theorem v120_34 {d : Nat} {ls : LS3} {h : Hp} {x : Int32} : Ev d 120 34 ls [vI x] h = some (.inl (some (vI x)), h) := Rdn hB_120 dX6_waiting_34 rfl
theorem hB_121 : mB 121 = cX6_pass := rfl
theorem v121_0 {d : Nat} {st : List MV} {h : Hp} {x : Int32} {a0 : Option MV} : Ev d 121 0 [a0, some (vI x)] st h = Ev d 121 1 [a0, some (vI x)] (vI x :: st) h := Rnx (hB_121) (dX6_pass_0) rfl
theorem v121_1 {d : Nat} {ls : LS3} {st : List MV} {h : Hp} : Ev d 121 1 ls st h = Ev d 121 2 ls (vI 1 :: st) h := Rnx (hB_121) (dX6_pass_1) rfl
theorem v121_2 {d : Nat} {ls : LS3} {st : List MV} {h : Hp} {x y : Int32} : Ev d 121 2 ls (vI y :: vI x :: st) h = if x < y then Ev d 121 11 ls st h else Ev d 121 5 ls st h := Rif hB_121 dX6_pass_2 rfl
theorem v121_5 {d : Nat} {st : List MV} {h : Hp} {x : Int32} {a0 : Option MV} : Ev d 121 5 [a0, some (vI x)] st h = Ev d 121 6 [a0, some (vI x)] (vI x :: st) h := Rnx (hB_121) (dX6_pass_5) rfl
theorem v121_6 {d : Nat} {ls : LS3} {st : List MV} {h : Hp} : Ev d 121 6 ls st h = Ev d 121 8 ls (vI 99 :: st) h := Rnx (hB_121) (dX6_pass_6) rfl
theorem v121_8 {d : Nat} {ls : LS3} {st : List MV} {h : Hp} {x y : Int32} : Ev d 121 8 ls (vI y :: vI x :: st) h = if x ≤ y then Ev d 121 22 ls st h else Ev d 121 11 ls st h := Rif hB_121 dX6_pass_8 rfl
set_option maxRecDepth 100000 in
theorem v121_11 {d : Nat} {ls : LS3} {st : List MV} {h : Hp} (hc : catS st ≤ 8) : Ev d 121 11 ls st h = some (.inr 0, gb h) := Rthr hB_121 dX6_pass_11 rfl rfl rfl hc
theorem v121_14 {d : Nat} {ls : LS3} {st : List MV} {h : Hp} {v : MV} (hv : cat1 v = true) : Ev d 121 14 ls (v :: st) h = Ev d 121 15 ls (v :: v :: st) h := Rdup hB_121 dX6_pass_14 hv
theorem v121_22 {d : Nat} {st : List MV} {h : Hp} {x : Option A3} {a1 : Option MV} : Ev d 121 22 [some (vO x), a1] st h = Ev d 121 23 [some (vO x), a1] (vO x :: st) h := Rnx (hB_121) (dX6_pass_22) rfl
set_option maxRecDepth 100000 in
theorem v121_23 {d : Nat} {ls : LS3} {st : List MV} {h : Hp} {a : A3} (hS : gS h a = (1, 6)) : Ev d 121 23 ls (vR a :: st) h = Ev d 121 26 ls (vO (gR h a 0) :: st) h := Rget hB_121 dX6_pass_23 rfl (Or.inl hS)
theorem v121_26 {d : Nat} {st : List MV} {h : Hp} {x : Int32} {a0 : Option MV} : Ev d 121 26 [a0, some (vI x)] st h = Ev d 121 27 [a0, some (vI x)] (vI x :: st) h := Rnx (hB_121) (dX6_pass_26) rfl
set_option maxRecDepth 100000 in
theorem v121_27 {d : Nat} {ls : LS3} {st : List MV} {h : Hp} {a : A3} {x0 : Int32} (hS : gS h a = (1, 4)) (hc : catS st ≤ 8) : Ev (d + 1) 121 27 ls (vI x0 :: vR a :: st) h = Evk 59 (d + 1) 121 27 ls st (Ev d 59 0 [some (vR a), some (vI x0)] [] h) := RcallO (idx := 320) (n := 1) (kd := 0) (As' := [vI x0]) hB_121 dX6_pass_27 rfl rfl (by decide) rfl rfl (Or.inl hS) rfl hc
theorem v121_30 {d : Nat} {ls : LS3} {st : List MV} {h : Hp} {x : Int32} : Ev d 121 30 ls (vI x :: st) h = if x = 0 then Ev d 121 33 ls st h else Ev d 121 44 ls st h := Rifn hB_121 dX6_pass_30 rfl
set_option maxRecDepth 100000 in
theorem v121_33 {d : Nat} {ls : LS3} {st : List MV} {h : Hp} (hc : catS st ≤ 8) : Ev d 121 33 ls st h = some (.inr 1, gb h) := Rthr hB_121 dX6_pass_33 rfl rfl rfl hc
theorem v121_36 {d : Nat} {ls : LS3} {st : List MV} {h : Hp} {v : MV} (hv : cat1 v = true) : Ev d 121 36 ls (v :: st) h = Ev d 121 37 ls (v :: v :: st) h := Rdup hB_121 dX6_pass_36 hv
theorem v121_44 {d : Nat} {st : List MV} {h : Hp} {x : Option A3} {a1 : Option MV} : Ev d 121 44 [some (vO x), a1] st h = Ev d 121 45 [some (vO x), a1] (vO x :: st) h := Rnx (hB_121) (dX6_pass_44) rfl
set_option maxRecDepth 100000 in
theorem v121_45 {d : Nat} {ls : LS3} {st : List MV} {h : Hp} {a : A3} (hS : gS h a = (1, 6)) : Ev d 121 45 ls (vR a :: st) h = Ev d 121 48 ls (vO (gR h a 2) :: st) h := Rget hB_121 dX6_pass_45 rfl (Or.inl hS)
theorem v121_48 {d : Nat} {st : List MV} {h : Hp} {x : Option A3} {a1 : Option MV} : Ev d 121 48 [some (vO x), a1] st h = Ev d 121 49 [some (vO x), a1] (vO x :: st) h := Rnx (hB_121) (dX6_pass_48) rfl
set_option maxRecDepth 100000 in
theorem v121_49 {d : Nat} {ls : LS3} {st : List MV} {h : Hp} {a : A3} (hS : gS h a = (1, 6)) : Ev d 121 49 ls (vR a :: st) h = Ev d 121 52 ls (vO (gR h a 0) :: st) h := Rget hB_121 dX6_pass_49 rfl (Or.inl hS)
set_option maxRecDepth 100000 in
theorem v121_52 {d : Nat} {ls : LS3} {st : List MV} {h : Hp} {a : A3} {o0 : Option A3} (hS : gS h a = (1, 1)) (hc : catS st ≤ 8) : Ev (d + 1) 121 52 ls (vO o0 :: vR a :: st) h = Evk 6 (d + 1) 121 52 ls st (Ev d 6 0 [some (vR a), some (vO o0)] [] h) := RcallO (idx := 72) (n := 1) (kd := 0) (As' := [vO o0]) hB_121 dX6_pass_52 rfl rfl (by decide) rfl rfl (Or.inl hS) rfl hc
theorem v121_55 {d : Nat} {st : List MV} {h : Hp} {x : Option A3} {a1 : Option MV} : Ev d 121 55 [some (vO x), a1] st h = Ev d 121 56 [some (vO x), a1] (vO x :: st) h := Rnx (hB_121) (dX6_pass_55) rfl
set_option maxRecDepth 100000 in
theorem v121_56 {d : Nat} {ls : LS3} {st : List MV} {h : Hp} {a : A3} (hS : gS h a = (1, 6)) : Ev d 121 56 ls (vR a :: st) h = Ev d 121 59 ls (vO (gR h a 0) :: st) h := Rget hB_121 dX6_pass_56 rfl (Or.inl hS)
theorem v121_59 {d : Nat} {st : List MV} {h : Hp} {x : Int32} {a0 : Option MV} : Ev d 121 59 [a0, some (vI x)] st h = Ev d 121 60 [a0, some (vI x)] (vI x :: st) h := Rnx (hB_121) (dX6_pass_59) rfl
set_option maxRecDepth 100000 in
theorem v121_60 {d : Nat} {ls : LS3} {st : List MV} {h : Hp} {a : A3} {x0 : Int32} (hS : gS h a = (1, 4)) (hc : catS st ≤ 8) : Ev (d + 1) 121 60 ls (vI x0 :: vR a :: st) h = Evk 60 (d + 1) 121 60 ls st (Ev d 60 0 [some (vR a), some (vI x0), none, none, none, none, none] [] h) := RcallO (idx := 325) (n := 1) (kd := 0) (As' := [vI x0]) hB_121 dX6_pass_60 rfl rfl (by decide) rfl rfl (Or.inl hS) rfl hc
theorem v121_63 {d : Nat} {ls : LS3} {h : Hp} {x : Int32} : Ev d 121 63 ls [vI x] h = some (.inl (some (vI x)), h) := Rdn hB_121 dX6_pass_63 rfl
theorem hB_122 : mB 122 = cX6_account := rfl
theorem v122_0 {d : Nat} {st : List MV} {h : Hp} {x : Int32} {a0 : Option MV} : Ev d 122 0 [a0, some (vI x)] st h = Ev d 122 1 [a0, some (vI x)] (vI x :: st) h := Rnx (hB_122) (dX6_account_0) rfl
theorem v122_1 {d : Nat} {ls : LS3} {st : List MV} {h : Hp} {x : Int32} : Ev d 122 1 ls (vI x :: st) h = if x = 0 then Ev d 122 56 ls st h else if x = 1 then Ev d 122 64 ls st h else if x = 2 then Ev d 122 72 ls st h else if x = 3 then Ev d 122 80 ls st h else if x = 4 then Ev d 122 88 ls st h else if x = 5 then Ev d 122 96 ls st h else if x = 6 then Ev d 122 104 ls st h else if x = 7 then Ev d 122 112 ls st h else if x = 8 then Ev d 122 120 ls st h else if x = 9 then Ev d 122 128 ls st h else Ev d 122 136 ls st h := by
  by_cases z : x.toInt < 0 ∨ 9 < x.toInt
  · rw [if_neg (fun y => by rw [y] at z; revert z; decide), if_neg (fun y => by rw [y] at z; revert z; decide), if_neg (fun y => by rw [y] at z; revert z; decide), if_neg (fun y => by rw [y] at z; revert z; decide), if_neg (fun y => by rw [y] at z; revert z; decide), if_neg (fun y => by rw [y] at z; revert z; decide), if_neg (fun y => by rw [y] at z; revert z; decide), if_neg (fun y => by rw [y] at z; revert z; decide), if_neg (fun y => by rw [y] at z; revert z; decide), if_neg (fun y => by rw [y] at z; revert z; decide)]
    exact Rnx hB_122 dX6_account_1 (xTab_out z)
  · rcases (show x.toInt = 0 ∨ x.toInt = 1 ∨ x.toInt = 2 ∨ x.toInt = 3 ∨ x.toInt = 4 ∨ x.toInt = 5 ∨ x.toInt = 6 ∨ x.toInt = 7 ∨ x.toInt = 8 ∨ x.toInt = 9 by omega) with y | y | y | y | y | y | y | y | y | y
    · have e : x = 0 := Int32.toInt_inj.mp (y.trans rfl)
      subst e
      rw [if_pos rfl]; exact Rnx hB_122 dX6_account_1 rfl
    · have e : x = 1 := Int32.toInt_inj.mp (y.trans rfl)
      subst e
      rw [if_neg (by decide)]; rw [if_pos rfl]; exact Rnx hB_122 dX6_account_1 rfl
    · have e : x = 2 := Int32.toInt_inj.mp (y.trans rfl)
      subst e
      rw [if_neg (by decide)]; rw [if_neg (by decide)]; rw [if_pos rfl]; exact Rnx hB_122 dX6_account_1 rfl
    · have e : x = 3 := Int32.toInt_inj.mp (y.trans rfl)
      subst e
      rw [if_neg (by decide)]; rw [if_neg (by decide)]; rw [if_neg (by decide)]; rw [if_pos rfl]; exact Rnx hB_122 dX6_account_1 rfl
    · have e : x = 4 := Int32.toInt_inj.mp (y.trans rfl)
      subst e
      rw [if_neg (by decide)]; rw [if_neg (by decide)]; rw [if_neg (by decide)]; rw [if_neg (by decide)]; rw [if_pos rfl]; exact Rnx hB_122 dX6_account_1 rfl
    · have e : x = 5 := Int32.toInt_inj.mp (y.trans rfl)
      subst e
      rw [if_neg (by decide)]; rw [if_neg (by decide)]; rw [if_neg (by decide)]; rw [if_neg (by decide)]; rw [if_neg (by decide)]; rw [if_pos rfl]; exact Rnx hB_122 dX6_account_1 rfl
    · have e : x = 6 := Int32.toInt_inj.mp (y.trans rfl)
      subst e
      rw [if_neg (by decide)]; rw [if_neg (by decide)]; rw [if_neg (by decide)]; rw [if_neg (by decide)]; rw [if_neg (by decide)]; rw [if_neg (by decide)]; rw [if_pos rfl]; exact Rnx hB_122 dX6_account_1 rfl
    · have e : x = 7 := Int32.toInt_inj.mp (y.trans rfl)
      subst e
      rw [if_neg (by decide)]; rw [if_neg (by decide)]; rw [if_neg (by decide)]; rw [if_neg (by decide)]; rw [if_neg (by decide)]; rw [if_neg (by decide)]; rw [if_neg (by decide)]; rw [if_pos rfl]; exact Rnx hB_122 dX6_account_1 rfl
    · have e : x = 8 := Int32.toInt_inj.mp (y.trans rfl)
      subst e
      rw [if_neg (by decide)]; rw [if_neg (by decide)]; rw [if_neg (by decide)]; rw [if_neg (by decide)]; rw [if_neg (by decide)]; rw [if_neg (by decide)]; rw [if_neg (by decide)]; rw [if_neg (by decide)]; rw [if_pos rfl]; exact Rnx hB_122 dX6_account_1 rfl
    · have e : x = 9 := Int32.toInt_inj.mp (y.trans rfl)
      subst e
      rw [if_neg (by decide)]; rw [if_neg (by decide)]; rw [if_neg (by decide)]; rw [if_neg (by decide)]; rw [if_neg (by decide)]; rw [if_neg (by decide)]; rw [if_neg (by decide)]; rw [if_neg (by decide)]; rw [if_neg (by decide)]; rw [if_pos rfl]; exact Rnx hB_122 dX6_account_1 rfl
theorem v122_56 {d : Nat} {st : List MV} {h : Hp} {x : Option A3} {a1 : Option MV} : Ev d 122 56 [some (vO x), a1] st h = Ev d 122 57 [some (vO x), a1] (vO x :: st) h := Rnx (hB_122) (dX6_account_56) rfl
set_option maxRecDepth 100000 in
theorem v122_57 {d : Nat} {ls : LS3} {st : List MV} {h : Hp} {a : A3} (hS : gS h a = (1, 6)) : Ev d 122 57 ls (vR a :: st) h = Ev d 122 60 ls (vO (gR h a 0) :: st) h := Rget hB_122 dX6_account_57 rfl (Or.inl hS)
set_option maxRecDepth 100000 in
theorem v122_60 {d : Nat} {ls : LS3} {st : List MV} {h : Hp} {a : A3} (hS : gS h a = (1, 4)) : Ev d 122 60 ls (vR a :: st) h = Ev d 122 63 ls (vI (gI h a 3) :: st) h := Rget hB_122 dX6_account_60 rfl (Or.inl hS)
theorem v122_63 {d : Nat} {ls : LS3} {h : Hp} {x : Int32} : Ev d 122 63 ls [vI x] h = some (.inl (some (vI x)), h) := Rdn hB_122 dX6_account_63 rfl
theorem v122_64 {d : Nat} {st : List MV} {h : Hp} {x : Option A3} {a1 : Option MV} : Ev d 122 64 [some (vO x), a1] st h = Ev d 122 65 [some (vO x), a1] (vO x :: st) h := Rnx (hB_122) (dX6_account_64) rfl
set_option maxRecDepth 100000 in
theorem v122_65 {d : Nat} {ls : LS3} {st : List MV} {h : Hp} {a : A3} (hS : gS h a = (1, 6)) : Ev d 122 65 ls (vR a :: st) h = Ev d 122 68 ls (vO (gR h a 0) :: st) h := Rget hB_122 dX6_account_65 rfl (Or.inl hS)
set_option maxRecDepth 100000 in
theorem v122_68 {d : Nat} {ls : LS3} {st : List MV} {h : Hp} {a : A3} (hS : gS h a = (1, 4)) : Ev d 122 68 ls (vR a :: st) h = Ev d 122 71 ls (vI (gI h a 4) :: st) h := Rget hB_122 dX6_account_68 rfl (Or.inl hS)
theorem v122_71 {d : Nat} {ls : LS3} {h : Hp} {x : Int32} : Ev d 122 71 ls [vI x] h = some (.inl (some (vI x)), h) := Rdn hB_122 dX6_account_71 rfl
theorem v122_72 {d : Nat} {st : List MV} {h : Hp} {x : Option A3} {a1 : Option MV} : Ev d 122 72 [some (vO x), a1] st h = Ev d 122 73 [some (vO x), a1] (vO x :: st) h := Rnx (hB_122) (dX6_account_72) rfl
set_option maxRecDepth 100000 in
theorem v122_73 {d : Nat} {ls : LS3} {st : List MV} {h : Hp} {a : A3} (hS : gS h a = (1, 6)) : Ev d 122 73 ls (vR a :: st) h = Ev d 122 76 ls (vO (gR h a 0) :: st) h := Rget hB_122 dX6_account_73 rfl (Or.inl hS)
set_option maxRecDepth 100000 in
theorem v122_76 {d : Nat} {ls : LS3} {st : List MV} {h : Hp} {a : A3}  (hS : gS h a = (1, 4)) (hc : catS st ≤ 8) : Ev (d + 1) 122 76 ls (vR a :: st) h = Evk 61 (d + 1) 122 76 ls st (Ev d 61 0 [some (vR a), none, none, none, none, none] [] h) := RcallO (idx := 328) (n := 0) (kd := 0) (As' := []) hB_122 dX6_account_76 rfl rfl (by decide) rfl rfl (Or.inl hS) rfl hc
theorem v122_79 {d : Nat} {ls : LS3} {h : Hp} {x : Int32} : Ev d 122 79 ls [vI x] h = some (.inl (some (vI x)), h) := Rdn hB_122 dX6_account_79 rfl
theorem v122_80 {d : Nat} {st : List MV} {h : Hp} {x : Option A3} {a1 : Option MV} : Ev d 122 80 [some (vO x), a1] st h = Ev d 122 81 [some (vO x), a1] (vO x :: st) h := Rnx (hB_122) (dX6_account_80) rfl
set_option maxRecDepth 100000 in
theorem v122_81 {d : Nat} {ls : LS3} {st : List MV} {h : Hp} {a : A3} (hS : gS h a = (1, 6)) : Ev d 122 81 ls (vR a :: st) h = Ev d 122 84 ls (vO (gR h a 0) :: st) h := Rget hB_122 dX6_account_81 rfl (Or.inl hS)
set_option maxRecDepth 100000 in
theorem v122_84 {d : Nat} {ls : LS3} {st : List MV} {h : Hp} {a : A3}  (hS : gS h a = (1, 4)) (hc : catS st ≤ 8) : Ev (d + 1) 122 84 ls (vR a :: st) h = Evk 62 (d + 1) 122 84 ls st (Ev d 62 0 [some (vR a), none, none, none, none, none] [] h) := RcallO (idx := 331) (n := 0) (kd := 0) (As' := []) hB_122 dX6_account_84 rfl rfl (by decide) rfl rfl (Or.inl hS) rfl hc
theorem v122_87 {d : Nat} {ls : LS3} {h : Hp} {x : Int32} : Ev d 122 87 ls [vI x] h = some (.inl (some (vI x)), h) := Rdn hB_122 dX6_account_87 rfl
theorem v122_88 {d : Nat} {st : List MV} {h : Hp} {x : Option A3} {a1 : Option MV} : Ev d 122 88 [some (vO x), a1] st h = Ev d 122 89 [some (vO x), a1] (vO x :: st) h := Rnx (hB_122) (dX6_account_88) rfl
set_option maxRecDepth 100000 in
theorem v122_89 {d : Nat} {ls : LS3} {st : List MV} {h : Hp} {a : A3} (hS : gS h a = (1, 6)) : Ev d 122 89 ls (vR a :: st) h = Ev d 122 92 ls (vO (gR h a 0) :: st) h := Rget hB_122 dX6_account_89 rfl (Or.inl hS)
set_option maxRecDepth 100000 in
theorem v122_92 {d : Nat} {ls : LS3} {st : List MV} {h : Hp} {a : A3}  (hS : gS h a = (1, 4)) (hc : catS st ≤ 8) : Ev (d + 1) 122 92 ls (vR a :: st) h = Evk 63 (d + 1) 122 92 ls st (Ev d 63 0 [some (vR a), none, none, none, none, none] [] h) := RcallO (idx := 334) (n := 0) (kd := 0) (As' := []) hB_122 dX6_account_92 rfl rfl (by decide) rfl rfl (Or.inl hS) rfl hc
theorem v122_95 {d : Nat} {ls : LS3} {h : Hp} {x : Int32} : Ev d 122 95 ls [vI x] h = some (.inl (some (vI x)), h) := Rdn hB_122 dX6_account_95 rfl
theorem v122_96 {d : Nat} {st : List MV} {h : Hp} {x : Option A3} {a1 : Option MV} : Ev d 122 96 [some (vO x), a1] st h = Ev d 122 97 [some (vO x), a1] (vO x :: st) h := Rnx (hB_122) (dX6_account_96) rfl
set_option maxRecDepth 100000 in
theorem v122_97 {d : Nat} {ls : LS3} {st : List MV} {h : Hp} {a : A3} (hS : gS h a = (1, 6)) : Ev d 122 97 ls (vR a :: st) h = Ev d 122 100 ls (vO (gR h a 0) :: st) h := Rget hB_122 dX6_account_97 rfl (Or.inl hS)
set_option maxRecDepth 100000 in
theorem v122_100 {d : Nat} {ls : LS3} {st : List MV} {h : Hp} {a : A3}  (hS : gS h a = (1, 4)) (hc : catS st ≤ 8) : Ev (d + 1) 122 100 ls (vR a :: st) h = Evk 64 (d + 1) 122 100 ls st (Ev d 64 0 [some (vR a), none, none, none, none, none] [] h) := RcallO (idx := 337) (n := 0) (kd := 0) (As' := []) hB_122 dX6_account_100 rfl rfl (by decide) rfl rfl (Or.inl hS) rfl hc
theorem v122_103 {d : Nat} {ls : LS3} {h : Hp} {x : Int32} : Ev d 122 103 ls [vI x] h = some (.inl (some (vI x)), h) := Rdn hB_122 dX6_account_103 rfl
theorem v122_104 {d : Nat} {st : List MV} {h : Hp} {x : Option A3} {a1 : Option MV} : Ev d 122 104 [some (vO x), a1] st h = Ev d 122 105 [some (vO x), a1] (vO x :: st) h := Rnx (hB_122) (dX6_account_104) rfl
set_option maxRecDepth 100000 in
theorem v122_105 {d : Nat} {ls : LS3} {st : List MV} {h : Hp} {a : A3} (hS : gS h a = (1, 6)) : Ev d 122 105 ls (vR a :: st) h = Ev d 122 108 ls (vO (gR h a 0) :: st) h := Rget hB_122 dX6_account_105 rfl (Or.inl hS)
set_option maxRecDepth 100000 in
theorem v122_108 {d : Nat} {ls : LS3} {st : List MV} {h : Hp} {a : A3} (hS : gS h a = (1, 4)) : Ev d 122 108 ls (vR a :: st) h = Ev d 122 111 ls (vI (gI h a 5) :: st) h := Rget hB_122 dX6_account_108 rfl (Or.inl hS)
theorem v122_111 {d : Nat} {ls : LS3} {h : Hp} {x : Int32} : Ev d 122 111 ls [vI x] h = some (.inl (some (vI x)), h) := Rdn hB_122 dX6_account_111 rfl
theorem v122_112 {d : Nat} {st : List MV} {h : Hp} {x : Option A3} {a1 : Option MV} : Ev d 122 112 [some (vO x), a1] st h = Ev d 122 113 [some (vO x), a1] (vO x :: st) h := Rnx (hB_122) (dX6_account_112) rfl
set_option maxRecDepth 100000 in
theorem v122_113 {d : Nat} {ls : LS3} {st : List MV} {h : Hp} {a : A3} (hS : gS h a = (1, 6)) : Ev d 122 113 ls (vR a :: st) h = Ev d 122 116 ls (vO (gR h a 0) :: st) h := Rget hB_122 dX6_account_113 rfl (Or.inl hS)
set_option maxRecDepth 100000 in
theorem v122_116 {d : Nat} {ls : LS3} {st : List MV} {h : Hp} {a : A3} (hS : gS h a = (1, 4)) : Ev d 122 116 ls (vR a :: st) h = Ev d 122 119 ls (vI (gI h a 6) :: st) h := Rget hB_122 dX6_account_116 rfl (Or.inl hS)
theorem v122_119 {d : Nat} {ls : LS3} {h : Hp} {x : Int32} : Ev d 122 119 ls [vI x] h = some (.inl (some (vI x)), h) := Rdn hB_122 dX6_account_119 rfl
theorem v122_120 {d : Nat} {st : List MV} {h : Hp} {x : Option A3} {a1 : Option MV} : Ev d 122 120 [some (vO x), a1] st h = Ev d 122 121 [some (vO x), a1] (vO x :: st) h := Rnx (hB_122) (dX6_account_120) rfl
set_option maxRecDepth 100000 in
theorem v122_121 {d : Nat} {ls : LS3} {st : List MV} {h : Hp} {a : A3} (hS : gS h a = (1, 6)) : Ev d 122 121 ls (vR a :: st) h = Ev d 122 124 ls (vO (gR h a 0) :: st) h := Rget hB_122 dX6_account_121 rfl (Or.inl hS)
set_option maxRecDepth 100000 in
theorem v122_124 {d : Nat} {ls : LS3} {st : List MV} {h : Hp} {a : A3} (hS : gS h a = (1, 4)) : Ev d 122 124 ls (vR a :: st) h = Ev d 122 127 ls (vI (gI h a 7) :: st) h := Rget hB_122 dX6_account_124 rfl (Or.inl hS)
theorem v122_127 {d : Nat} {ls : LS3} {h : Hp} {x : Int32} : Ev d 122 127 ls [vI x] h = some (.inl (some (vI x)), h) := Rdn hB_122 dX6_account_127 rfl
theorem v122_128 {d : Nat} {st : List MV} {h : Hp} {x : Option A3} {a1 : Option MV} : Ev d 122 128 [some (vO x), a1] st h = Ev d 122 129 [some (vO x), a1] (vO x :: st) h := Rnx (hB_122) (dX6_account_128) rfl
set_option maxRecDepth 100000 in
theorem v122_129 {d : Nat} {ls : LS3} {st : List MV} {h : Hp} {a : A3} (hS : gS h a = (1, 6)) : Ev d 122 129 ls (vR a :: st) h = Ev d 122 132 ls (vO (gR h a 0) :: st) h := Rget hB_122 dX6_account_129 rfl (Or.inl hS)
set_option maxRecDepth 100000 in
theorem v122_132 {d : Nat} {ls : LS3} {st : List MV} {h : Hp} {a : A3}  (hS : gS h a = (1, 4)) (hc : catS st ≤ 8) : Ev (d + 1) 122 132 ls (vR a :: st) h = Evk 65 (d + 1) 122 132 ls st (Ev d 65 0 [some (vR a), none, none, none, none, none] [] h) := RcallO (idx := 346) (n := 0) (kd := 0) (As' := []) hB_122 dX6_account_132 rfl rfl (by decide) rfl rfl (Or.inl hS) rfl hc
theorem v122_135 {d : Nat} {ls : LS3} {h : Hp} {x : Int32} : Ev d 122 135 ls [vI x] h = some (.inl (some (vI x)), h) := Rdn hB_122 dX6_account_135 rfl
set_option maxRecDepth 100000 in
theorem v122_136 {d : Nat} {ls : LS3} {st : List MV} {h : Hp} (hc : catS st ≤ 8) : Ev d 122 136 ls st h = some (.inr 0, gb h) := Rthr hB_122 dX6_account_136 rfl rfl rfl hc
theorem v122_139 {d : Nat} {ls : LS3} {st : List MV} {h : Hp} {v : MV} (hv : cat1 v = true) : Ev d 122 139 ls (v :: st) h = Ev d 122 140 ls (v :: v :: st) h := Rdup hB_122 dX6_account_139 hv
theorem hB_123 : mB 123 = cX6_meanLoad := rfl
theorem v123_0 {d : Nat} {st : List MV} {h : Hp} {x : Option A3} : Ev d 123 0 [some (vO x)] st h = Ev d 123 1 [some (vO x)] (vO x :: st) h := Rnx (hB_123) (dX6_meanLoad_0) rfl
set_option maxRecDepth 100000 in
theorem v123_1 {d : Nat} {ls : LS3} {st : List MV} {h : Hp} {a : A3} (hS : gS h a = (1, 6)) : Ev d 123 1 ls (vR a :: st) h = Ev d 123 4 ls (vO (gR h a 0) :: st) h := Rget hB_123 dX6_meanLoad_1 rfl (Or.inl hS)
set_option maxRecDepth 100000 in
theorem v123_4 {d : Nat} {ls : LS3} {st : List MV} {h : Hp} {a : A3} (hS : gS h a = (1, 4)) : Ev d 123 4 ls (vR a :: st) h = Ev d 123 7 ls (vI (gI h a 3) :: st) h := Rget hB_123 dX6_meanLoad_4 rfl (Or.inl hS)
theorem v123_7 {d : Nat} {ls : LS3} {st : List MV} {h : Hp} {x : Int32} : Ev d 123 7 ls (vI x :: st) h = if x = 0 then Ev d 123 10 ls st h else Ev d 123 21 ls st h := Rifn hB_123 dX6_meanLoad_7 rfl
set_option maxRecDepth 100000 in
theorem v123_10 {d : Nat} {ls : LS3} {st : List MV} {h : Hp} (hc : catS st ≤ 8) : Ev d 123 10 ls st h = some (.inr 5, gb h) := Rthr hB_123 dX6_meanLoad_10 rfl rfl rfl hc
theorem v123_13 {d : Nat} {ls : LS3} {st : List MV} {h : Hp} {v : MV} (hv : cat1 v = true) : Ev d 123 13 ls (v :: st) h = Ev d 123 14 ls (v :: v :: st) h := Rdup hB_123 dX6_meanLoad_13 hv
theorem v123_21 {d : Nat} {st : List MV} {h : Hp} {x : Option A3} : Ev d 123 21 [some (vO x)] st h = Ev d 123 22 [some (vO x)] (vO x :: st) h := Rnx (hB_123) (dX6_meanLoad_21) rfl
set_option maxRecDepth 100000 in
theorem v123_22 {d : Nat} {ls : LS3} {st : List MV} {h : Hp} {a : A3} (hS : gS h a = (1, 6)) : Ev d 123 22 ls (vR a :: st) h = Ev d 123 25 ls (vO (gR h a 0) :: st) h := Rget hB_123 dX6_meanLoad_22 rfl (Or.inl hS)
set_option maxRecDepth 100000 in
theorem v123_25 {d : Nat} {ls : LS3} {st : List MV} {h : Hp} {a : A3}  (hS : gS h a = (1, 4)) (hc : catS st ≤ 8) : Ev (d + 1) 123 25 ls (vR a :: st) h = Evk 66 (d + 1) 123 25 ls st (Ev d 66 0 [some (vR a), none, none, none, none, none] [] h) := RcallO (idx := 356) (n := 0) (kd := 0) (As' := []) hB_123 dX6_meanLoad_25 rfl rfl (by decide) rfl rfl (Or.inl hS) rfl hc
theorem v123_28 {d : Nat} {ls : LS3} {st : List MV} {h : Hp} {x : Int32} : Ev d 123 28 ls (vI x :: st) h = Ev d 123 29 ls (vD (FP.i2d x) :: st) h := Rnx (hB_123) (dX6_meanLoad_28) rfl
theorem v123_29 {d : Nat} {st : List MV} {h : Hp} {x : Option A3} : Ev d 123 29 [some (vO x)] st h = Ev d 123 30 [some (vO x)] (vO x :: st) h := Rnx (hB_123) (dX6_meanLoad_29) rfl
set_option maxRecDepth 100000 in
theorem v123_30 {d : Nat} {ls : LS3} {st : List MV} {h : Hp} {a : A3} (hS : gS h a = (1, 6)) : Ev d 123 30 ls (vR a :: st) h = Ev d 123 33 ls (vO (gR h a 0) :: st) h := Rget hB_123 dX6_meanLoad_30 rfl (Or.inl hS)
set_option maxRecDepth 100000 in
theorem v123_33 {d : Nat} {ls : LS3} {st : List MV} {h : Hp} {a : A3} (hS : gS h a = (1, 4)) : Ev d 123 33 ls (vR a :: st) h = Ev d 123 36 ls (vI (gI h a 3) :: st) h := Rget hB_123 dX6_meanLoad_33 rfl (Or.inl hS)
theorem v123_36 {d : Nat} {ls : LS3} {st : List MV} {h : Hp} {x : Int32} : Ev d 123 36 ls (vI x :: st) h = Ev d 123 37 ls (vD (FP.i2d x) :: st) h := Rnx (hB_123) (dX6_meanLoad_36) rfl
theorem v123_38 {d : Nat} {ls : LS3} {h : Hp} {x : UInt64} : Ev d 123 38 ls [vD x] h = some (.inl (some (vD x)), h) := Rdn hB_123 dX6_meanLoad_38 rfl
theorem hB_124 : mB 124 = cX6_append := rfl
theorem v124_0 {d : Nat} {st : List MV} {h : Hp} {x : Int32} {a0 : Option MV} : Ev d 124 0 [a0, some (vI x)] st h = Ev d 124 1 [a0, some (vI x)] (vI x :: st) h := Rnx (hB_124) (dX6_append_0) rfl
theorem v124_1 {d : Nat} {ls : LS3} {st : List MV} {h : Hp} : Ev d 124 1 ls st h = Ev d 124 3 ls (vI 32 :: st) h := Rnx (hB_124) (dX6_append_1) rfl
theorem v124_3 {d : Nat} {ls : LS3} {st : List MV} {h : Hp} {x y : Int32} : Ev d 124 3 ls (vI y :: vI x :: st) h = if x < y then Ev d 124 12 ls st h else Ev d 124 6 ls st h := Rif hB_124 dX6_append_3 rfl
theorem v124_6 {d : Nat} {st : List MV} {h : Hp} {x : Int32} {a0 : Option MV} : Ev d 124 6 [a0, some (vI x)] st h = Ev d 124 7 [a0, some (vI x)] (vI x :: st) h := Rnx (hB_124) (dX6_append_6) rfl
theorem v124_7 {d : Nat} {ls : LS3} {st : List MV} {h : Hp} : Ev d 124 7 ls st h = Ev d 124 9 ls (vI 126 :: st) h := Rnx (hB_124) (dX6_append_7) rfl
theorem v124_9 {d : Nat} {ls : LS3} {st : List MV} {h : Hp} {x y : Int32} : Ev d 124 9 ls (vI y :: vI x :: st) h = if x ≤ y then Ev d 124 23 ls st h else Ev d 124 12 ls st h := Rif hB_124 dX6_append_9 rfl
set_option maxRecDepth 100000 in
theorem v124_12 {d : Nat} {ls : LS3} {st : List MV} {h : Hp} (hc : catS st ≤ 8) : Ev d 124 12 ls st h = some (.inr 0, gb h) := Rthr hB_124 dX6_append_12 rfl rfl rfl hc
theorem v124_15 {d : Nat} {ls : LS3} {st : List MV} {h : Hp} {v : MV} (hv : cat1 v = true) : Ev d 124 15 ls (v :: st) h = Ev d 124 16 ls (v :: v :: st) h := Rdup hB_124 dX6_append_15 hv
theorem v124_23 {d : Nat} {st : List MV} {h : Hp} {x : Option A3} {a1 : Option MV} : Ev d 124 23 [some (vO x), a1] st h = Ev d 124 24 [some (vO x), a1] (vO x :: st) h := Rnx (hB_124) (dX6_append_23) rfl
set_option maxRecDepth 100000 in
theorem v124_24 {d : Nat} {ls : LS3} {st : List MV} {h : Hp} {a : A3} (hS : gS h a = (1, 6)) : Ev d 124 24 ls (vR a :: st) h = Ev d 124 27 ls (vO (gR h a 3) :: st) h := Rget hB_124 dX6_append_24 rfl (Or.inl hS)
theorem v124_27 {d : Nat} {st : List MV} {h : Hp} {x : Int32} {a0 : Option MV} : Ev d 124 27 [a0, some (vI x)] st h = Ev d 124 28 [a0, some (vI x)] (vI x :: st) h := Rnx (hB_124) (dX6_append_27) rfl
set_option maxRecDepth 100000 in
theorem v124_28 {d : Nat} {ls : LS3} {st : List MV} {h : Hp} {a : A3} {x0 : Int32} (hS : gS h a = (1, 2)) (hc : catS st ≤ 8) : Ev (d + 1) 124 28 ls (vI x0 :: vR a :: st) h = Evk 13 (d + 1) 124 28 ls st (Ev d 13 0 [some (vR a), some (vI x0)] [] h) := RcallO (idx := 361) (n := 1) (kd := 0) (As' := [vI x0]) hB_124 dX6_append_28 rfl rfl (by decide) rfl rfl (Or.inl hS) rfl hc
theorem v124_31 {d : Nat} {ls : LS3} {st : List MV} {h : Hp} {x : Int32} : Ev d 124 31 ls (vI x :: st) h = if x = 0 then Ev d 124 34 ls st h else Ev d 124 45 ls st h := Rifn hB_124 dX6_append_31 rfl
set_option maxRecDepth 100000 in
theorem v124_34 {d : Nat} {ls : LS3} {st : List MV} {h : Hp} (hc : catS st ≤ 8) : Ev d 124 34 ls st h = some (.inr 1, gb h) := Rthr hB_124 dX6_append_34 rfl rfl rfl hc
theorem v124_37 {d : Nat} {ls : LS3} {st : List MV} {h : Hp} {v : MV} (hv : cat1 v = true) : Ev d 124 37 ls (v :: st) h = Ev d 124 38 ls (v :: v :: st) h := Rdup hB_124 dX6_append_37 hv
theorem v124_45 {d : Nat} {st : List MV} {h : Hp} {x : Option A3} {a1 : Option MV} : Ev d 124 45 [some (vO x), a1] st h = Ev d 124 46 [some (vO x), a1] (vO x :: st) h := Rnx (hB_124) (dX6_append_45) rfl
set_option maxRecDepth 100000 in
theorem v124_46 {d : Nat} {ls : LS3} {st : List MV} {h : Hp} {a : A3} (hS : gS h a = (1, 6)) : Ev d 124 46 ls (vR a :: st) h = Ev d 124 49 ls (vO (gR h a 3) :: st) h := Rget hB_124 dX6_append_46 rfl (Or.inl hS)
set_option maxRecDepth 100000 in
theorem v124_49 {d : Nat} {ls : LS3} {st : List MV} {h : Hp} {a : A3} (hS : gS h a = (1, 2)) : Ev d 124 49 ls (vR a :: st) h = Ev d 124 52 ls (vI (gI h a 2) :: st) h := Rget hB_124 dX6_append_49 rfl (Or.inl hS)
theorem v124_52 {d : Nat} {ls : LS3} {h : Hp} {x : Int32} : Ev d 124 52 ls [vI x] h = some (.inl (some (vI x)), h) := Rdn hB_124 dX6_append_52 rfl
theorem hB_125 : mB 125 = cX6_read := rfl
theorem v125_0 {d : Nat} {st : List MV} {h : Hp} {x : Option A3} {a1 a2 a3 : Option MV} : Ev d 125 0 [some (vO x), a1, a2, a3] st h = Ev d 125 1 [some (vO x), a1, a2, a3] (vO x :: st) h := Rnx (hB_125) (dX6_read_0) rfl
set_option maxRecDepth 100000 in
theorem v125_1 {d : Nat} {ls : LS3} {st : List MV} {h : Hp} {a : A3} (hS : gS h a = (1, 6)) : Ev d 125 1 ls (vR a :: st) h = Ev d 125 4 ls (vO (gR h a 3) :: st) h := Rget hB_125 dX6_read_1 rfl (Or.inl hS)
set_option maxRecDepth 100000 in
theorem v125_4 {d : Nat} {ls : LS3} {st : List MV} {h : Hp} {a : A3}  (hS : gS h a = (1, 2)) (hc : catS st ≤ 8) : Ev (d + 1) 125 4 ls (vR a :: st) h = Evk 14 (d + 1) 125 4 ls st (Ev d 14 0 [some (vR a), none, none] [] h) := RcallO (idx := 370) (n := 0) (kd := 0) (As' := []) hB_125 dX6_read_4 rfl rfl (by decide) rfl rfl (Or.inl hS) rfl hc
theorem v125_7 {d : Nat} {st : List MV} {h : Hp} {x : Int32} {a0 a1 a2 a3 : Option MV} : Ev d 125 7 [a0, a1, a2, a3] (vI x :: st) h = Ev d 125 8 [a0, some (vI x), a2, a3] st h := Rnx (hB_125) (dX6_read_7) rfl
theorem v125_8 {d : Nat} {st : List MV} {h : Hp} {x : Int32} {a0 a2 a3 : Option MV} : Ev d 125 8 [a0, some (vI x), a2, a3] st h = Ev d 125 9 [a0, some (vI x), a2, a3] (vI x :: st) h := Rnx (hB_125) (dX6_read_8) rfl
theorem v125_9 {d : Nat} {ls : LS3} {st : List MV} {h : Hp} : Ev d 125 9 ls st h = Ev d 125 10 ls (vI (-1) :: st) h := Rnx (hB_125) (dX6_read_9) rfl
theorem v125_10 {d : Nat} {ls : LS3} {st : List MV} {h : Hp} {x y : Int32} : Ev d 125 10 ls (vI y :: vI x :: st) h = if x = y then Ev d 125 29 ls st h else Ev d 125 13 ls st h := Rif hB_125 dX6_read_10 rfl
theorem v125_13 {d : Nat} {st : List MV} {h : Hp} {x : Option A3} {a1 a2 a3 : Option MV} : Ev d 125 13 [some (vO x), a1, a2, a3] st h = Ev d 125 14 [some (vO x), a1, a2, a3] (vO x :: st) h := Rnx (hB_125) (dX6_read_13) rfl
theorem v125_14 {d : Nat} {st : List MV} {h : Hp} {x : Int32} {a0 a2 a3 : Option MV} : Ev d 125 14 [a0, some (vI x), a2, a3] st h = Ev d 125 15 [a0, some (vI x), a2, a3] (vI x :: st) h := Rnx (hB_125) (dX6_read_14) rfl
set_option maxRecDepth 100000 in
theorem v125_15 {d : Nat} {ls : LS3} {st : List MV} {h : Hp} {a : A3} {x : Int32} (hS : gS h a = (1, 6)) : Ev d 125 15 ls (vI x :: vR a :: st) h = Ev d 125 18 ls st (sI h a 7 x) := RputI hB_125 dX6_read_15 rfl rfl (by decide) hS (Or.inl rfl)
set_option maxRecDepth 100000 in
theorem v125_18 {d : Nat} {ls : LS3} {st : List MV} {h : Hp} (hc : catS st ≤ 8) : Ev d 125 18 ls st h = some (.inr 0, gb h) := Rthr hB_125 dX6_read_18 rfl rfl rfl hc
theorem v125_21 {d : Nat} {ls : LS3} {st : List MV} {h : Hp} {v : MV} (hv : cat1 v = true) : Ev d 125 21 ls (v :: st) h = Ev d 125 22 ls (v :: v :: st) h := Rdup hB_125 dX6_read_21 hv
theorem v125_29 {d : Nat} {st : List MV} {h : Hp} {x : Option A3} {a1 a2 a3 : Option MV} : Ev d 125 29 [some (vO x), a1, a2, a3] st h = Ev d 125 30 [some (vO x), a1, a2, a3] (vO x :: st) h := Rnx (hB_125) (dX6_read_29) rfl
set_option maxRecDepth 100000 in
theorem v125_30 {d : Nat} {ls : LS3} {st : List MV} {h : Hp} {a : A3} (hS : gS h a = (1, 6)) : Ev d 125 30 ls (vR a :: st) h = Ev d 125 33 ls (vO (gR h a 2) :: st) h := Rget hB_125 dX6_read_30 rfl (Or.inl hS)
theorem v125_33 {d : Nat} {st : List MV} {h : Hp} {x : Option A3} {a1 a2 a3 : Option MV} : Ev d 125 33 [some (vO x), a1, a2, a3] st h = Ev d 125 34 [some (vO x), a1, a2, a3] (vO x :: st) h := Rnx (hB_125) (dX6_read_33) rfl
set_option maxRecDepth 100000 in
theorem v125_34 {d : Nat} {ls : LS3} {st : List MV} {h : Hp} {a : A3} (hS : gS h a = (1, 6)) : Ev d 125 34 ls (vR a :: st) h = Ev d 125 37 ls (vO (gR h a 0) :: st) h := Rget hB_125 dX6_read_34 rfl (Or.inl hS)
set_option maxRecDepth 100000 in
theorem v125_37 {d : Nat} {ls : LS3} {st : List MV} {h : Hp} {a : A3} {o0 : Option A3} (hS : gS h a = (1, 1)) (hc : catS st ≤ 8) : Ev (d + 1) 125 37 ls (vO o0 :: vR a :: st) h = Evk 7 (d + 1) 125 37 ls st (Ev d 7 0 [some (vR a), some (vO o0)] [] h) := RcallO (idx := 375) (n := 1) (kd := 0) (As' := [vO o0]) hB_125 dX6_read_37 rfl rfl (by decide) rfl rfl (Or.inl hS) rfl hc
theorem v125_40 {d : Nat} {ls : LS3} {st : List MV} {h : Hp} : Ev d 125 40 ls st h = Ev d 125 41 ls (vI 0 :: st) h := Rnx (hB_125) (dX6_read_40) rfl
theorem v125_41 {d : Nat} {st : List MV} {h : Hp} {x : Int32} {a0 a1 a2 a3 : Option MV} : Ev d 125 41 [a0, a1, a2, a3] (vI x :: st) h = Ev d 125 42 [a0, a1, some (vI x), a3] st h := Rnx (hB_125) (dX6_read_41) rfl
theorem v125_42 {d : Nat} {ls : LS3} {st : List MV} {h : Hp} : Ev d 125 42 ls st h = Ev d 125 43 ls (vI 0 :: st) h := Rnx (hB_125) (dX6_read_42) rfl
theorem v125_43 {d : Nat} {st : List MV} {h : Hp} {x : Int32} {a0 a1 a2 a3 : Option MV} : Ev d 125 43 [a0, a1, a2, a3] (vI x :: st) h = Ev d 125 44 [a0, a1, a2, some (vI x)] st h := Rnx (hB_125) (dX6_read_43) rfl
theorem v125_44 {d : Nat} {st : List MV} {h : Hp} {x : Int32} {a0 a1 a2 : Option MV} : Ev d 125 44 [a0, a1, a2, some (vI x)] st h = Ev d 125 45 [a0, a1, a2, some (vI x)] (vI x :: st) h := Rnx (hB_125) (dX6_read_44) rfl
theorem v125_45 {d : Nat} {st : List MV} {h : Hp} {x : Option A3} {a1 a2 a3 : Option MV} : Ev d 125 45 [some (vO x), a1, a2, a3] st h = Ev d 125 46 [some (vO x), a1, a2, a3] (vO x :: st) h := Rnx (hB_125) (dX6_read_45) rfl
set_option maxRecDepth 100000 in
theorem v125_46 {d : Nat} {ls : LS3} {st : List MV} {h : Hp} {a : A3} (hS : gS h a = (1, 6)) : Ev d 125 46 ls (vR a :: st) h = Ev d 125 49 ls (vO (gR h a 3) :: st) h := Rget hB_125 dX6_read_46 rfl (Or.inl hS)
set_option maxRecDepth 100000 in
theorem v125_49 {d : Nat} {ls : LS3} {st : List MV} {h : Hp} {a : A3} (hS : gS h a = (1, 2)) : Ev d 125 49 ls (vR a :: st) h = Ev d 125 52 ls (vI (gI h a 3) :: st) h := Rget hB_125 dX6_read_49 rfl (Or.inl hS)
theorem v125_52 {d : Nat} {ls : LS3} {st : List MV} {h : Hp} {x y : Int32} : Ev d 125 52 ls (vI y :: vI x :: st) h = if y ≤ x then Ev d 125 118 ls st h else Ev d 125 55 ls st h := Rif hB_125 dX6_read_52 rfl
theorem v125_55 {d : Nat} {st : List MV} {h : Hp} {x : Int32} {a0 a1 a3 : Option MV} : Ev d 125 55 [a0, a1, some (vI x), a3] st h = Ev d 125 56 [a0, a1, some (vI x), a3] (vI x :: st) h := Rnx (hB_125) (dX6_read_55) rfl
theorem v125_56 {d : Nat} {ls : LS3} {st : List MV} {h : Hp} {x : Int32} : Ev d 125 56 ls (vI x :: st) h = if x = 0 then Ev d 125 59 ls st h else Ev d 125 118 ls st h := Rifn hB_125 dX6_read_56 rfl
theorem v125_59 {d : Nat} {st : List MV} {h : Hp} {x : Option A3} {a1 a2 a3 : Option MV} : Ev d 125 59 [some (vO x), a1, a2, a3] st h = Ev d 125 60 [some (vO x), a1, a2, a3] (vO x :: st) h := Rnx (hB_125) (dX6_read_59) rfl
set_option maxRecDepth 100000 in
theorem v125_60 {d : Nat} {ls : LS3} {st : List MV} {h : Hp} {a : A3} (hS : gS h a = (1, 6)) : Ev d 125 60 ls (vR a :: st) h = Ev d 125 63 ls (vO (gR h a 0) :: st) h := Rget hB_125 dX6_read_60 rfl (Or.inl hS)
theorem v125_63 {d : Nat} {st : List MV} {h : Hp} {x : Option A3} {a1 a2 a3 : Option MV} : Ev d 125 63 [some (vO x), a1, a2, a3] st h = Ev d 125 64 [some (vO x), a1, a2, a3] (vO x :: st) h := Rnx (hB_125) (dX6_read_63) rfl
set_option maxRecDepth 100000 in
theorem v125_64 {d : Nat} {ls : LS3} {st : List MV} {h : Hp} {a : A3} (hS : gS h a = (1, 6)) : Ev d 125 64 ls (vR a :: st) h = Ev d 125 67 ls (vO (gR h a 3) :: st) h := Rget hB_125 dX6_read_64 rfl (Or.inl hS)
theorem v125_67 {d : Nat} {st : List MV} {h : Hp} {x : Int32} {a0 a1 a2 : Option MV} : Ev d 125 67 [a0, a1, a2, some (vI x)] st h = Ev d 125 68 [a0, a1, a2, some (vI x)] (vI x :: st) h := Rnx (hB_125) (dX6_read_67) rfl
theorem v125_68 {d : Nat} {ls : LS3} {st : List MV} {h : Hp} : Ev d 125 68 ls st h = Ev d 125 69 ls (vI 0 :: st) h := Rnx (hB_125) (dX6_read_68) rfl
set_option maxRecDepth 100000 in
theorem v125_69 {d : Nat} {ls : LS3} {st : List MV} {h : Hp} {a : A3} {x0 : Int32} {x1 : Int32} (hS : gS h a = (1, 2)) (hc : catS st ≤ 8) : Ev (d + 1) 125 69 ls (vI x1 :: vI x0 :: vR a :: st) h = Evk 15 (d + 1) 125 69 ls st (Ev d 15 0 [some (vR a), some (vI x0), some (vI x1), none] [] h) := RcallO (idx := 381) (n := 2) (kd := 0) (As' := [vI x0, vI x1]) hB_125 dX6_read_69 rfl rfl (by decide) rfl rfl (Or.inl hS) rfl hc
theorem v125_72 {d : Nat} {st : List MV} {h : Hp} {x : Option A3} {a1 a2 a3 : Option MV} : Ev d 125 72 [some (vO x), a1, a2, a3] st h = Ev d 125 73 [some (vO x), a1, a2, a3] (vO x :: st) h := Rnx (hB_125) (dX6_read_72) rfl
set_option maxRecDepth 100000 in
theorem v125_73 {d : Nat} {ls : LS3} {st : List MV} {h : Hp} {a : A3} (hS : gS h a = (1, 6)) : Ev d 125 73 ls (vR a :: st) h = Ev d 125 76 ls (vO (gR h a 3) :: st) h := Rget hB_125 dX6_read_73 rfl (Or.inl hS)
theorem v125_76 {d : Nat} {st : List MV} {h : Hp} {x : Int32} {a0 a1 a2 : Option MV} : Ev d 125 76 [a0, a1, a2, some (vI x)] st h = Ev d 125 77 [a0, a1, a2, some (vI x)] (vI x :: st) h := Rnx (hB_125) (dX6_read_76) rfl
theorem v125_77 {d : Nat} {ls : LS3} {st : List MV} {h : Hp} : Ev d 125 77 ls st h = Ev d 125 78 ls (vI 1 :: st) h := Rnx (hB_125) (dX6_read_77) rfl
set_option maxRecDepth 100000 in
theorem v125_78 {d : Nat} {ls : LS3} {st : List MV} {h : Hp} {a : A3} {x0 : Int32} {x1 : Int32} (hS : gS h a = (1, 2)) (hc : catS st ≤ 8) : Ev (d + 1) 125 78 ls (vI x1 :: vI x0 :: vR a :: st) h = Evk 15 (d + 1) 125 78 ls st (Ev d 15 0 [some (vR a), some (vI x0), some (vI x1), none] [] h) := RcallO (idx := 381) (n := 2) (kd := 0) (As' := [vI x0, vI x1]) hB_125 dX6_read_78 rfl rfl (by decide) rfl rfl (Or.inl hS) rfl hc
theorem v125_81 {d : Nat} {st : List MV} {h : Hp} {x : Option A3} {a1 a2 a3 : Option MV} : Ev d 125 81 [some (vO x), a1, a2, a3] st h = Ev d 125 82 [some (vO x), a1, a2, a3] (vO x :: st) h := Rnx (hB_125) (dX6_read_81) rfl
set_option maxRecDepth 100000 in
theorem v125_82 {d : Nat} {ls : LS3} {st : List MV} {h : Hp} {a : A3} (hS : gS h a = (1, 6)) : Ev d 125 82 ls (vR a :: st) h = Ev d 125 85 ls (vO (gR h a 3) :: st) h := Rget hB_125 dX6_read_82 rfl (Or.inl hS)
theorem v125_85 {d : Nat} {st : List MV} {h : Hp} {x : Int32} {a0 a1 a2 : Option MV} : Ev d 125 85 [a0, a1, a2, some (vI x)] st h = Ev d 125 86 [a0, a1, a2, some (vI x)] (vI x :: st) h := Rnx (hB_125) (dX6_read_85) rfl
theorem v125_86 {d : Nat} {ls : LS3} {st : List MV} {h : Hp} : Ev d 125 86 ls st h = Ev d 125 87 ls (vI 2 :: st) h := Rnx (hB_125) (dX6_read_86) rfl
set_option maxRecDepth 100000 in
theorem v125_87 {d : Nat} {ls : LS3} {st : List MV} {h : Hp} {a : A3} {x0 : Int32} {x1 : Int32} (hS : gS h a = (1, 2)) (hc : catS st ≤ 8) : Ev (d + 1) 125 87 ls (vI x1 :: vI x0 :: vR a :: st) h = Evk 15 (d + 1) 125 87 ls st (Ev d 15 0 [some (vR a), some (vI x0), some (vI x1), none] [] h) := RcallO (idx := 381) (n := 2) (kd := 0) (As' := [vI x0, vI x1]) hB_125 dX6_read_87 rfl rfl (by decide) rfl rfl (Or.inl hS) rfl hc
theorem v125_90 {d : Nat} {st : List MV} {h : Hp} {x : Option A3} {a1 a2 a3 : Option MV} : Ev d 125 90 [some (vO x), a1, a2, a3] st h = Ev d 125 91 [some (vO x), a1, a2, a3] (vO x :: st) h := Rnx (hB_125) (dX6_read_90) rfl
set_option maxRecDepth 100000 in
theorem v125_91 {d : Nat} {ls : LS3} {st : List MV} {h : Hp} {a : A3} (hS : gS h a = (1, 6)) : Ev d 125 91 ls (vR a :: st) h = Ev d 125 94 ls (vO (gR h a 3) :: st) h := Rget hB_125 dX6_read_91 rfl (Or.inl hS)
theorem v125_94 {d : Nat} {st : List MV} {h : Hp} {x : Int32} {a0 a1 a2 : Option MV} : Ev d 125 94 [a0, a1, a2, some (vI x)] st h = Ev d 125 95 [a0, a1, a2, some (vI x)] (vI x :: st) h := Rnx (hB_125) (dX6_read_94) rfl
theorem v125_95 {d : Nat} {ls : LS3} {st : List MV} {h : Hp} : Ev d 125 95 ls st h = Ev d 125 96 ls (vI 3 :: st) h := Rnx (hB_125) (dX6_read_95) rfl
set_option maxRecDepth 100000 in
theorem v125_96 {d : Nat} {ls : LS3} {st : List MV} {h : Hp} {a : A3} {x0 : Int32} {x1 : Int32} (hS : gS h a = (1, 2)) (hc : catS st ≤ 8) : Ev (d + 1) 125 96 ls (vI x1 :: vI x0 :: vR a :: st) h = Evk 15 (d + 1) 125 96 ls st (Ev d 15 0 [some (vR a), some (vI x0), some (vI x1), none] [] h) := RcallO (idx := 381) (n := 2) (kd := 0) (As' := [vI x0, vI x1]) hB_125 dX6_read_96 rfl rfl (by decide) rfl rfl (Or.inl hS) rfl hc
theorem v125_99 {d : Nat} {st : List MV} {h : Hp} {x : Option A3} {a1 a2 a3 : Option MV} : Ev d 125 99 [some (vO x), a1, a2, a3] st h = Ev d 125 100 [some (vO x), a1, a2, a3] (vO x :: st) h := Rnx (hB_125) (dX6_read_99) rfl
set_option maxRecDepth 100000 in
theorem v125_100 {d : Nat} {ls : LS3} {st : List MV} {h : Hp} {a : A3} (hS : gS h a = (1, 6)) : Ev d 125 100 ls (vR a :: st) h = Ev d 125 103 ls (vO (gR h a 3) :: st) h := Rget hB_125 dX6_read_100 rfl (Or.inl hS)
theorem v125_103 {d : Nat} {st : List MV} {h : Hp} {x : Int32} {a0 a1 a2 : Option MV} : Ev d 125 103 [a0, a1, a2, some (vI x)] st h = Ev d 125 104 [a0, a1, a2, some (vI x)] (vI x :: st) h := Rnx (hB_125) (dX6_read_103) rfl
theorem v125_104 {d : Nat} {ls : LS3} {st : List MV} {h : Hp} : Ev d 125 104 ls st h = Ev d 125 105 ls (vI 4 :: st) h := Rnx (hB_125) (dX6_read_104) rfl
set_option maxRecDepth 100000 in
theorem v125_105 {d : Nat} {ls : LS3} {st : List MV} {h : Hp} {a : A3} {x0 : Int32} {x1 : Int32} (hS : gS h a = (1, 2)) (hc : catS st ≤ 8) : Ev (d + 1) 125 105 ls (vI x1 :: vI x0 :: vR a :: st) h = Evk 15 (d + 1) 125 105 ls st (Ev d 15 0 [some (vR a), some (vI x0), some (vI x1), none] [] h) := RcallO (idx := 381) (n := 2) (kd := 0) (As' := [vI x0, vI x1]) hB_125 dX6_read_105 rfl rfl (by decide) rfl rfl (Or.inl hS) rfl hc
set_option maxRecDepth 100000 in
theorem v125_108 {d : Nat} {ls : LS3} {st : List MV} {h : Hp} {a : A3} {x0 : Int32} {x1 : Int32} {x2 : Int32} {x3 : Int32} {x4 : Int32} (hS : gS h a = (1, 4)) (hc : catS st ≤ 8) : Ev (d + 1) 125 108 ls (vI x4 :: vI x3 :: vI x2 :: vI x1 :: vI x0 :: vR a :: st) h = Evk 67 (d + 1) 125 108 ls st (Ev d 67 0 [some (vR a), some (vI x0), some (vI x1), some (vI x2), some (vI x3), some (vI x4), none] [] h) := RcallO (idx := 385) (n := 5) (kd := 0) (As' := [vI x0, vI x1, vI x2, vI x3, vI x4]) hB_125 dX6_read_108 rfl rfl (by decide) rfl rfl (Or.inl hS) rfl hc
theorem v125_111 {d : Nat} {st : List MV} {h : Hp} {x : Int32} {a0 a1 a2 a3 : Option MV} : Ev d 125 111 [a0, a1, a2, a3] (vI x :: st) h = Ev d 125 112 [a0, a1, some (vI x), a3] st h := Rnx (hB_125) (dX6_read_111) rfl
theorem v125_112 {d : Nat} {st : List MV} {h : Hp} {x : Int32} {a0 a1 a2 : Option MV} : Ev d 125 112 [a0, a1, a2, some (vI x)] st h = Ev d 125 115 [a0, a1, a2, some (vI (x + 1))] st h := Rnx (hB_125) (dX6_read_112) rfl
theorem v125_115 {d : Nat} {ls : LS3} {st : List MV} {h : Hp} : Ev d 125 115 ls st h = Ev d 125 44 ls st h := Rnx (hB_125) (dX6_read_115) rfl
theorem v125_118 {d : Nat} {st : List MV} {h : Hp} {x : Int32} {a0 a1 a3 : Option MV} : Ev d 125 118 [a0, a1, some (vI x), a3] st h = Ev d 125 119 [a0, a1, some (vI x), a3] (vI x :: st) h := Rnx (hB_125) (dX6_read_118) rfl
theorem v125_119 {d : Nat} {ls : LS3} {st : List MV} {h : Hp} {x : Int32} : Ev d 125 119 ls (vI x :: st) h = if x = 0 then Ev d 125 154 ls st h else Ev d 125 122 ls st h := Rif hB_125 dX6_read_119 rfl
theorem v125_122 {d : Nat} {st : List MV} {h : Hp} {x : Option A3} {a1 a2 a3 : Option MV} : Ev d 125 122 [some (vO x), a1, a2, a3] st h = Ev d 125 123 [some (vO x), a1, a2, a3] (vO x :: st) h := Rnx (hB_125) (dX6_read_122) rfl
set_option maxRecDepth 100000 in
theorem v125_123 {d : Nat} {ls : LS3} {st : List MV} {h : Hp} {a : A3} (hS : gS h a = (1, 6)) : Ev d 125 123 ls (vR a :: st) h = Ev d 125 126 ls (vO (gR h a 2) :: st) h := Rget hB_125 dX6_read_123 rfl (Or.inl hS)
theorem v125_126 {d : Nat} {st : List MV} {h : Hp} {x : Option A3} {a1 a2 a3 : Option MV} : Ev d 125 126 [some (vO x), a1, a2, a3] st h = Ev d 125 127 [some (vO x), a1, a2, a3] (vO x :: st) h := Rnx (hB_125) (dX6_read_126) rfl
set_option maxRecDepth 100000 in
theorem v125_127 {d : Nat} {ls : LS3} {st : List MV} {h : Hp} {a : A3} (hS : gS h a = (1, 6)) : Ev d 125 127 ls (vR a :: st) h = Ev d 125 130 ls (vO (gR h a 0) :: st) h := Rget hB_125 dX6_read_127 rfl (Or.inl hS)
set_option maxRecDepth 100000 in
theorem v125_130 {d : Nat} {ls : LS3} {st : List MV} {h : Hp} {a : A3} {o0 : Option A3} (hS : gS h a = (1, 1)) (hc : catS st ≤ 8) : Ev (d + 1) 125 130 ls (vO o0 :: vR a :: st) h = Evk 9 (d + 1) 125 130 ls st (Ev d 9 0 [some (vR a), some (vO o0)] [] h) := RcallO (idx := 389) (n := 1) (kd := 0) (As' := [vO o0]) hB_125 dX6_read_130 rfl rfl (by decide) rfl rfl (Or.inl hS) rfl hc
theorem v125_133 {d : Nat} {st : List MV} {h : Hp} {x : Int32} {a0 a1 a3 : Option MV} : Ev d 125 133 [a0, a1, some (vI x), a3] st h = Ev d 125 134 [a0, a1, some (vI x), a3] (vI x :: st) h := Rnx (hB_125) (dX6_read_133) rfl
theorem v125_134 {d : Nat} {ls : LS3} {st : List MV} {h : Hp} : Ev d 125 134 ls st h = Ev d 125 135 ls (vI (-1) :: st) h := Rnx (hB_125) (dX6_read_134) rfl
theorem v125_135 {d : Nat} {ls : LS3} {st : List MV} {h : Hp} {x y : Int32} : Ev d 125 135 ls (vI y :: vI x :: st) h = if x = y then Ev d 125 143 ls st h else Ev d 125 138 ls st h := Rif hB_125 dX6_read_135 rfl
theorem v125_138 {d : Nat} {st : List MV} {h : Hp} {x : Option A3} {a1 a2 a3 : Option MV} : Ev d 125 138 [some (vO x), a1, a2, a3] st h = Ev d 125 139 [some (vO x), a1, a2, a3] (vO x :: st) h := Rnx (hB_125) (dX6_read_138) rfl
theorem v125_139 {d : Nat} {st : List MV} {h : Hp} {x : Int32} {a0 a1 a3 : Option MV} : Ev d 125 139 [a0, a1, some (vI x), a3] st h = Ev d 125 140 [a0, a1, some (vI x), a3] (vI x :: st) h := Rnx (hB_125) (dX6_read_139) rfl
set_option maxRecDepth 100000 in
theorem v125_140 {d : Nat} {ls : LS3} {st : List MV} {h : Hp} {a : A3} {x : Int32} (hS : gS h a = (1, 6)) : Ev d 125 140 ls (vI x :: vR a :: st) h = Ev d 125 143 ls st (sI h a 6 x) := RputI hB_125 dX6_read_140 rfl rfl (by decide) hS (Or.inl rfl)
set_option maxRecDepth 100000 in
theorem v125_143 {d : Nat} {ls : LS3} {st : List MV} {h : Hp} (hc : catS st ≤ 8) : Ev d 125 143 ls st h = some (.inr 1, gb h) := Rthr hB_125 dX6_read_143 rfl rfl rfl hc
theorem v125_146 {d : Nat} {ls : LS3} {st : List MV} {h : Hp} {v : MV} (hv : cat1 v = true) : Ev d 125 146 ls (v :: st) h = Ev d 125 147 ls (v :: v :: st) h := Rdup hB_125 dX6_read_146 hv
theorem v125_154 {d : Nat} {st : List MV} {h : Hp} {x : Option A3} {a1 a2 a3 : Option MV} : Ev d 125 154 [some (vO x), a1, a2, a3] st h = Ev d 125 155 [some (vO x), a1, a2, a3] (vO x :: st) h := Rnx (hB_125) (dX6_read_154) rfl
set_option maxRecDepth 100000 in
theorem v125_155 {d : Nat} {ls : LS3} {st : List MV} {h : Hp} {a : A3} (hS : gS h a = (1, 6)) : Ev d 125 155 ls (vR a :: st) h = Ev d 125 158 ls (vO (gR h a 2) :: st) h := Rget hB_125 dX6_read_155 rfl (Or.inl hS)
set_option maxRecDepth 100000 in
theorem v125_158 {d : Nat} {ls : LS3} {st : List MV} {h : Hp} {a : A3}  (hS : gS h a = (1, 1)) (hc : catS st ≤ 8) : Ev (d + 1) 125 158 ls (vR a :: st) h = Evk 8 (d + 1) 125 158 ls st (Ev d 8 0 [some (vR a)] [] h) := RcallO (idx := 394) (n := 0) (kd := 0) (As' := []) hB_125 dX6_read_158 rfl rfl (by decide) rfl rfl (Or.inl hS) rfl hc
theorem v125_161 {d : Nat} {st : List MV} {h : Hp} {x : Option A3} {a1 a2 a3 : Option MV} : Ev d 125 161 [some (vO x), a1, a2, a3] st h = Ev d 125 162 [some (vO x), a1, a2, a3] (vO x :: st) h := Rnx (hB_125) (dX6_read_161) rfl
set_option maxRecDepth 100000 in
theorem v125_162 {d : Nat} {ls : LS3} {st : List MV} {h : Hp} {a : A3} (hS : gS h a = (1, 6)) : Ev d 125 162 ls (vR a :: st) h = Ev d 125 165 ls (vO (gR h a 3) :: st) h := Rget hB_125 dX6_read_162 rfl (Or.inl hS)
set_option maxRecDepth 100000 in
theorem v125_165 {d : Nat} {ls : LS3} {st : List MV} {h : Hp} {a : A3} (hS : gS h a = (1, 2)) : Ev d 125 165 ls (vR a :: st) h = Ev d 125 168 ls (vI (gI h a 3) :: st) h := Rget hB_125 dX6_read_165 rfl (Or.inl hS)
theorem v125_168 {d : Nat} {ls : LS3} {h : Hp} {x : Int32} : Ev d 125 168 ls [vI x] h = some (.inl (some (vI x)), h) := Rdn hB_125 dX6_read_168 rfl
theorem hB_126 : mB 126 = cX6_errorPosition := rfl
theorem v126_0 {d : Nat} {st : List MV} {h : Hp} {x : Option A3} : Ev d 126 0 [some (vO x)] st h = Ev d 126 1 [some (vO x)] (vO x :: st) h := Rnx (hB_126) (dX6_errorPosition_0) rfl
set_option maxRecDepth 100000 in
theorem v126_1 {d : Nat} {ls : LS3} {st : List MV} {h : Hp} {a : A3} (hS : gS h a = (1, 6)) : Ev d 126 1 ls (vR a :: st) h = Ev d 126 4 ls (vI (gI h a 7) :: st) h := Rget hB_126 dX6_errorPosition_1 rfl (Or.inl hS)
theorem v126_4 {d : Nat} {ls : LS3} {st : List MV} {h : Hp} : Ev d 126 4 ls st h = Ev d 126 5 ls (vI (-1) :: st) h := Rnx (hB_126) (dX6_errorPosition_4) rfl
theorem v126_5 {d : Nat} {ls : LS3} {st : List MV} {h : Hp} {x y : Int32} : Ev d 126 5 ls (vI y :: vI x :: st) h = if x = y then Ev d 126 8 ls st h else Ev d 126 19 ls st h := Rifn hB_126 dX6_errorPosition_5 rfl
set_option maxRecDepth 100000 in
theorem v126_8 {d : Nat} {ls : LS3} {st : List MV} {h : Hp} (hc : catS st ≤ 8) : Ev d 126 8 ls st h = some (.inr 3, gb h) := Rthr hB_126 dX6_errorPosition_8 rfl rfl rfl hc
theorem v126_11 {d : Nat} {ls : LS3} {st : List MV} {h : Hp} {v : MV} (hv : cat1 v = true) : Ev d 126 11 ls (v :: st) h = Ev d 126 12 ls (v :: v :: st) h := Rdup hB_126 dX6_errorPosition_11 hv
theorem v126_19 {d : Nat} {st : List MV} {h : Hp} {x : Option A3} : Ev d 126 19 [some (vO x)] st h = Ev d 126 20 [some (vO x)] (vO x :: st) h := Rnx (hB_126) (dX6_errorPosition_19) rfl
set_option maxRecDepth 100000 in
theorem v126_20 {d : Nat} {ls : LS3} {st : List MV} {h : Hp} {a : A3} (hS : gS h a = (1, 6)) : Ev d 126 20 ls (vR a :: st) h = Ev d 126 23 ls (vI (gI h a 7) :: st) h := Rget hB_126 dX6_errorPosition_20 rfl (Or.inl hS)
theorem v126_23 {d : Nat} {ls : LS3} {h : Hp} {x : Int32} : Ev d 126 23 ls [vI x] h = some (.inl (some (vI x)), h) := Rdn hB_126 dX6_errorPosition_23 rfl
theorem hB_127 : mB 127 = cX6_undo := rfl
theorem v127_0 {d : Nat} {st : List MV} {h : Hp} {x : Option A3} : Ev d 127 0 [some (vO x)] st h = Ev d 127 1 [some (vO x)] (vO x :: st) h := Rnx (hB_127) (dX6_undo_0) rfl
set_option maxRecDepth 100000 in
theorem v127_1 {d : Nat} {ls : LS3} {st : List MV} {h : Hp} {a : A3} (hS : gS h a = (1, 6)) : Ev d 127 1 ls (vR a :: st) h = Ev d 127 4 ls (vO (gR h a 2) :: st) h := Rget hB_127 dX6_undo_1 rfl (Or.inl hS)
set_option maxRecDepth 100000 in
theorem v127_4 {d : Nat} {ls : LS3} {st : List MV} {h : Hp} {a : A3} (hS : gS h a = (1, 1)) : Ev d 127 4 ls (vR a :: st) h = Ev d 127 7 ls (vI (gI h a 2) :: st) h := Rget hB_127 dX6_undo_4 rfl (Or.inl hS)
theorem v127_7 {d : Nat} {ls : LS3} {st : List MV} {h : Hp} {x : Int32} : Ev d 127 7 ls (vI x :: st) h = if x = 0 then Ev d 127 10 ls st h else Ev d 127 21 ls st h := Rifn hB_127 dX6_undo_7 rfl
set_option maxRecDepth 100000 in
theorem v127_10 {d : Nat} {ls : LS3} {st : List MV} {h : Hp} (hc : catS st ≤ 8) : Ev d 127 10 ls st h = some (.inr 3, gb h) := Rthr hB_127 dX6_undo_10 rfl rfl rfl hc
theorem v127_13 {d : Nat} {ls : LS3} {st : List MV} {h : Hp} {v : MV} (hv : cat1 v = true) : Ev d 127 13 ls (v :: st) h = Ev d 127 14 ls (v :: v :: st) h := Rdup hB_127 dX6_undo_13 hv
theorem v127_21 {d : Nat} {st : List MV} {h : Hp} {x : Option A3} : Ev d 127 21 [some (vO x)] st h = Ev d 127 22 [some (vO x)] (vO x :: st) h := Rnx (hB_127) (dX6_undo_21) rfl
set_option maxRecDepth 100000 in
theorem v127_22 {d : Nat} {ls : LS3} {st : List MV} {h : Hp} {a : A3} (hS : gS h a = (1, 6)) : Ev d 127 22 ls (vR a :: st) h = Ev d 127 25 ls (vO (gR h a 2) :: st) h := Rget hB_127 dX6_undo_22 rfl (Or.inl hS)
theorem v127_25 {d : Nat} {st : List MV} {h : Hp} {x : Option A3} : Ev d 127 25 [some (vO x)] st h = Ev d 127 26 [some (vO x)] (vO x :: st) h := Rnx (hB_127) (dX6_undo_25) rfl
set_option maxRecDepth 100000 in
theorem v127_26 {d : Nat} {ls : LS3} {st : List MV} {h : Hp} {a : A3} (hS : gS h a = (1, 6)) : Ev d 127 26 ls (vR a :: st) h = Ev d 127 29 ls (vO (gR h a 0) :: st) h := Rget hB_127 dX6_undo_26 rfl (Or.inl hS)
set_option maxRecDepth 100000 in
theorem v127_29 {d : Nat} {ls : LS3} {st : List MV} {h : Hp} {a : A3} {o0 : Option A3} (hS : gS h a = (1, 1)) (hc : catS st ≤ 8) : Ev (d + 1) 127 29 ls (vO o0 :: vR a :: st) h = Evk 10 (d + 1) 127 29 ls st (Ev d 10 0 [some (vR a), some (vO o0)] [] h) := RcallO (idx := 404) (n := 1) (kd := 0) (As' := [vO o0]) hB_127 dX6_undo_29 rfl rfl (by decide) rfl rfl (Or.inl hS) rfl hc
theorem v127_32 {d : Nat} {st : List MV} {h : Hp} {x : Option A3} : Ev d 127 32 [some (vO x)] st h = Ev d 127 33 [some (vO x)] (vO x :: st) h := Rnx (hB_127) (dX6_undo_32) rfl
set_option maxRecDepth 100000 in
theorem v127_33 {d : Nat} {ls : LS3} {st : List MV} {h : Hp} {a : A3} (hS : gS h a = (1, 6)) : Ev d 127 33 ls (vR a :: st) h = Ev d 127 36 ls (vO (gR h a 2) :: st) h := Rget hB_127 dX6_undo_33 rfl (Or.inl hS)
set_option maxRecDepth 100000 in
theorem v127_36 {d : Nat} {ls : LS3} {st : List MV} {h : Hp} {a : A3} (hS : gS h a = (1, 1)) : Ev d 127 36 ls (vR a :: st) h = Ev d 127 39 ls (vI (gI h a 2) :: st) h := Rget hB_127 dX6_undo_36 rfl (Or.inl hS)
theorem v127_39 {d : Nat} {ls : LS3} {h : Hp} {x : Int32} : Ev d 127 39 ls [vI x] h = some (.inl (some (vI x)), h) := Rdn hB_127 dX6_undo_39 rfl
theorem hB_128 : mB 128 = cX6_save := rfl
theorem v128_0 {d : Nat} {st : List MV} {h : Hp} {x : Option A3} : Ev d 128 0 [some (vO x)] st h = Ev d 128 1 [some (vO x)] (vO x :: st) h := Rnx (hB_128) (dX6_save_0) rfl
set_option maxRecDepth 100000 in
theorem v128_1 {d : Nat} {ls : LS3} {st : List MV} {h : Hp} {a : A3} (hS : gS h a = (1, 6)) : Ev d 128 1 ls (vR a :: st) h = Ev d 128 4 ls (vO (gR h a 1) :: st) h := Rget hB_128 dX6_save_1 rfl (Or.inl hS)
theorem v128_4 {d : Nat} {st : List MV} {h : Hp} {x : Option A3} : Ev d 128 4 [some (vO x)] st h = Ev d 128 5 [some (vO x)] (vO x :: st) h := Rnx (hB_128) (dX6_save_4) rfl
set_option maxRecDepth 100000 in
theorem v128_5 {d : Nat} {ls : LS3} {st : List MV} {h : Hp} {a : A3} (hS : gS h a = (1, 6)) : Ev d 128 5 ls (vR a :: st) h = Ev d 128 8 ls (vO (gR h a 0) :: st) h := Rget hB_128 dX6_save_5 rfl (Or.inl hS)
set_option maxRecDepth 100000 in
theorem v128_8 {d : Nat} {ls : LS3} {st : List MV} {h : Hp} {a : A3} {o0 : Option A3} (hS : gS h a = (1, 4)) (hc : catS st ≤ 8) : Ev (d + 1) 128 8 ls (vO o0 :: vR a :: st) h = Evk 32 (d + 1) 128 8 ls st (Ev d 32 0 [some (vR a), some (vO o0), none] [] h) := RcallO (idx := 407) (n := 1) (kd := 0) (As' := [vO o0]) hB_128 dX6_save_8 rfl rfl (by decide) rfl rfl (Or.inl hS) rfl hc
theorem v128_11 {d : Nat} {st : List MV} {h : Hp} {x : Option A3} : Ev d 128 11 [some (vO x)] st h = Ev d 128 12 [some (vO x)] (vO x :: st) h := Rnx (hB_128) (dX6_save_11) rfl
theorem v128_12 {d : Nat} {ls : LS3} {st : List MV} {h : Hp} : Ev d 128 12 ls st h = Ev d 128 13 ls (vI 1 :: st) h := Rnx (hB_128) (dX6_save_12) rfl
set_option maxRecDepth 100000 in
theorem v128_13 {d : Nat} {ls : LS3} {st : List MV} {h : Hp} {a : A3} {x : Int32} (hS : gS h a = (1, 6)) (hx : x = 0 ∨ x = 1) : Ev d 128 13 ls (vI x :: vR a :: st) h = Ev d 128 16 ls st (sI h a 5 x) := RputI hB_128 dX6_save_13 rfl rfl (by decide) hS (Or.inr ⟨rfl, hx⟩)
theorem v128_16 {d : Nat} {st : List MV} {h : Hp} {x : Option A3} : Ev d 128 16 [some (vO x)] st h = Ev d 128 17 [some (vO x)] (vO x :: st) h := Rnx (hB_128) (dX6_save_16) rfl
set_option maxRecDepth 100000 in
theorem v128_17 {d : Nat} {ls : LS3} {st : List MV} {h : Hp} {a : A3} (hS : gS h a = (1, 6)) : Ev d 128 17 ls (vR a :: st) h = Ev d 128 20 ls (vO (gR h a 0) :: st) h := Rget hB_128 dX6_save_17 rfl (Or.inl hS)
set_option maxRecDepth 100000 in
theorem v128_20 {d : Nat} {ls : LS3} {st : List MV} {h : Hp} {a : A3} (hS : gS h a = (1, 4)) : Ev d 128 20 ls (vR a :: st) h = Ev d 128 23 ls (vI (gI h a 4) :: st) h := Rget hB_128 dX6_save_20 rfl (Or.inl hS)
theorem v128_23 {d : Nat} {ls : LS3} {h : Hp} {x : Int32} : Ev d 128 23 ls [vI x] h = some (.inl (some (vI x)), h) := Rdn hB_128 dX6_save_23 rfl
theorem hB_129 : mB 129 = cX6_restore := rfl
theorem v129_0 {d : Nat} {st : List MV} {h : Hp} {x : Option A3} : Ev d 129 0 [some (vO x)] st h = Ev d 129 1 [some (vO x)] (vO x :: st) h := Rnx (hB_129) (dX6_restore_0) rfl
set_option maxRecDepth 100000 in
theorem v129_1 {d : Nat} {ls : LS3} {st : List MV} {h : Hp} {a : A3} (hS : gS h a = (1, 6)) : Ev d 129 1 ls (vR a :: st) h = Ev d 129 4 ls (vI (gI h a 5) :: st) h := Rget hB_129 dX6_restore_1 rfl (Or.inl hS)
theorem v129_4 {d : Nat} {ls : LS3} {st : List MV} {h : Hp} {x : Int32} : Ev d 129 4 ls (vI x :: st) h = if x = 0 then Ev d 129 7 ls st h else Ev d 129 18 ls st h := Rifn hB_129 dX6_restore_4 rfl
set_option maxRecDepth 100000 in
theorem v129_7 {d : Nat} {ls : LS3} {st : List MV} {h : Hp} (hc : catS st ≤ 8) : Ev d 129 7 ls st h = some (.inr 1, gb h) := Rthr hB_129 dX6_restore_7 rfl rfl rfl hc
theorem v129_10 {d : Nat} {ls : LS3} {st : List MV} {h : Hp} {v : MV} (hv : cat1 v = true) : Ev d 129 10 ls (v :: st) h = Ev d 129 11 ls (v :: v :: st) h := Rdup hB_129 dX6_restore_10 hv
theorem v129_18 {d : Nat} {st : List MV} {h : Hp} {x : Option A3} : Ev d 129 18 [some (vO x)] st h = Ev d 129 19 [some (vO x)] (vO x :: st) h := Rnx (hB_129) (dX6_restore_18) rfl
set_option maxRecDepth 100000 in
theorem v129_19 {d : Nat} {ls : LS3} {st : List MV} {h : Hp} {a : A3} (hS : gS h a = (1, 6)) : Ev d 129 19 ls (vR a :: st) h = Ev d 129 22 ls (vO (gR h a 0) :: st) h := Rget hB_129 dX6_restore_19 rfl (Or.inl hS)
theorem v129_22 {d : Nat} {st : List MV} {h : Hp} {x : Option A3} : Ev d 129 22 [some (vO x)] st h = Ev d 129 23 [some (vO x)] (vO x :: st) h := Rnx (hB_129) (dX6_restore_22) rfl
set_option maxRecDepth 100000 in
theorem v129_23 {d : Nat} {ls : LS3} {st : List MV} {h : Hp} {a : A3} (hS : gS h a = (1, 6)) : Ev d 129 23 ls (vR a :: st) h = Ev d 129 26 ls (vO (gR h a 1) :: st) h := Rget hB_129 dX6_restore_23 rfl (Or.inl hS)
set_option maxRecDepth 100000 in
theorem v129_26 {d : Nat} {ls : LS3} {st : List MV} {h : Hp} {a : A3} {o0 : Option A3} (hS : gS h a = (1, 4)) (hc : catS st ≤ 8) : Ev (d + 1) 129 26 ls (vO o0 :: vR a :: st) h = Evk 32 (d + 1) 129 26 ls st (Ev d 32 0 [some (vR a), some (vO o0), none] [] h) := RcallO (idx := 407) (n := 1) (kd := 0) (As' := [vO o0]) hB_129 dX6_restore_26 rfl rfl (by decide) rfl rfl (Or.inl hS) rfl hc
theorem v129_29 {d : Nat} {st : List MV} {h : Hp} {x : Option A3} : Ev d 129 29 [some (vO x)] st h = Ev d 129 30 [some (vO x)] (vO x :: st) h := Rnx (hB_129) (dX6_restore_29) rfl
set_option maxRecDepth 100000 in
theorem v129_30 {d : Nat} {ls : LS3} {st : List MV} {h : Hp} {a : A3} (hS : gS h a = (1, 6)) : Ev d 129 30 ls (vR a :: st) h = Ev d 129 33 ls (vO (gR h a 2) :: st) h := Rget hB_129 dX6_restore_30 rfl (Or.inl hS)
set_option maxRecDepth 100000 in
theorem v129_33 {d : Nat} {ls : LS3} {st : List MV} {h : Hp} {a : A3}  (hS : gS h a = (1, 1)) (hc : catS st ≤ 8) : Ev (d + 1) 129 33 ls (vR a :: st) h = Evk 5 (d + 1) 129 33 ls st (Ev d 5 0 [some (vR a)] [] h) := RcallO (idx := 53) (n := 0) (kd := 0) (As' := []) hB_129 dX6_restore_33 rfl rfl (by decide) rfl rfl (Or.inl hS) rfl hc
theorem v129_36 {d : Nat} {st : List MV} {h : Hp} {x : Option A3} : Ev d 129 36 [some (vO x)] st h = Ev d 129 37 [some (vO x)] (vO x :: st) h := Rnx (hB_129) (dX6_restore_36) rfl
set_option maxRecDepth 100000 in
theorem v129_37 {d : Nat} {ls : LS3} {st : List MV} {h : Hp} {a : A3} (hS : gS h a = (1, 6)) : Ev d 129 37 ls (vR a :: st) h = Ev d 129 40 ls (vO (gR h a 0) :: st) h := Rget hB_129 dX6_restore_37 rfl (Or.inl hS)
set_option maxRecDepth 100000 in
theorem v129_40 {d : Nat} {ls : LS3} {st : List MV} {h : Hp} {a : A3} (hS : gS h a = (1, 4)) : Ev d 129 40 ls (vR a :: st) h = Ev d 129 43 ls (vI (gI h a 4) :: st) h := Rget hB_129 dX6_restore_40 rfl (Or.inl hS)
theorem v129_43 {d : Nat} {ls : LS3} {h : Hp} {x : Int32} : Ev d 129 43 ls [vI x] h = some (.inl (some (vI x)), h) := Rdn hB_129 dX6_restore_43 rfl
theorem hB_130 : mB 130 = cX6_personOf := rfl
theorem v130_0 {d : Nat} {st : List MV} {h : Hp} {x : Int32} {a0 : Option MV} : Ev d 130 0 [a0, some (vI x)] st h = Ev d 130 1 [a0, some (vI x)] (vI x :: st) h := Rnx (hB_130) (dX6_personOf_0) rfl
theorem v130_1 {d : Nat} {st : List MV} {h : Hp} {x : Option A3} {a1 : Option MV} : Ev d 130 1 [some (vO x), a1] st h = Ev d 130 2 [some (vO x), a1] (vO x :: st) h := Rnx (hB_130) (dX6_personOf_1) rfl
set_option maxRecDepth 100000 in
theorem v130_2 {d : Nat} {ls : LS3} {st : List MV} {h : Hp} {a : A3} (hS : gS h a = (1, 6)) : Ev d 130 2 ls (vR a :: st) h = Ev d 130 5 ls (vO (gR h a 0) :: st) h := Rget hB_130 dX6_personOf_2 rfl (Or.inl hS)
set_option maxRecDepth 100000 in
theorem v130_5 {d : Nat} {ls : LS3} {st : List MV} {h : Hp} {a : A3} (hS : gS h a = (1, 4)) : Ev d 130 5 ls (vR a :: st) h = Ev d 130 8 ls (vI (gI h a 3) :: st) h := Rget hB_130 dX6_personOf_5 rfl (Or.inl hS)
set_option maxRecDepth 100000 in
theorem v130_8 {d : Nat} {ls : LS3} {st : List MV} {h : Hp} {x0 : Int32} {x1 : Int32} (hc : catS st ≤ 8) : Ev (d + 1) 130 8 ls (vI x1 :: vI x0 :: st) h = Evk 137 (d + 1) 130 8 ls st (Ev d 137 0 [some (vI x0), some (vI x1)] [] h) := RcallS (idx := 56) (n := 2) (kd := 1) (As := [vI x0, vI x1]) hB_130 dX6_personOf_8 rfl rfl (by decide) rfl rfl rfl hc
theorem v130_11 {d : Nat} {ls : LS3} {st : List MV} {h : Hp} {x : Int32} : Ev d 130 11 ls (vI x :: st) h = if x = 0 then Ev d 130 14 ls st h else Ev d 130 25 ls st h := Rifn hB_130 dX6_personOf_11 rfl
set_option maxRecDepth 100000 in
theorem v130_14 {d : Nat} {ls : LS3} {st : List MV} {h : Hp} (hc : catS st ≤ 8) : Ev d 130 14 ls st h = some (.inr 2, gb h) := Rthr hB_130 dX6_personOf_14 rfl rfl rfl hc
theorem v130_17 {d : Nat} {ls : LS3} {st : List MV} {h : Hp} {v : MV} (hv : cat1 v = true) : Ev d 130 17 ls (v :: st) h = Ev d 130 18 ls (v :: v :: st) h := Rdup hB_130 dX6_personOf_17 hv
theorem v130_25 {d : Nat} {st : List MV} {h : Hp} {x : Option A3} {a1 : Option MV} : Ev d 130 25 [some (vO x), a1] st h = Ev d 130 26 [some (vO x), a1] (vO x :: st) h := Rnx (hB_130) (dX6_personOf_25) rfl
set_option maxRecDepth 100000 in
theorem v130_26 {d : Nat} {ls : LS3} {st : List MV} {h : Hp} {a : A3} (hS : gS h a = (1, 6)) : Ev d 130 26 ls (vR a :: st) h = Ev d 130 29 ls (vO (gR h a 0) :: st) h := Rget hB_130 dX6_personOf_26 rfl (Or.inl hS)
set_option maxRecDepth 100000 in
theorem v130_29 {d : Nat} {ls : LS3} {st : List MV} {h : Hp} {a : A3} (hS : gS h a = (1, 4)) : Ev d 130 29 ls (vR a :: st) h = Ev d 130 32 ls (vO (gR h a 0) :: st) h := Rget hB_130 dX6_personOf_29 rfl (Or.inl hS)
theorem v130_32 {d : Nat} {st : List MV} {h : Hp} {x : Int32} {a0 : Option MV} : Ev d 130 32 [a0, some (vI x)] st h = Ev d 130 33 [a0, some (vI x)] (vI x :: st) h := Rnx (hB_130) (dX6_personOf_32) rfl
theorem v130_33 {d : Nat} {ls : LS3} {st : List MV} {h : Hp} {a : A3} {j : Int32} (hS : (gS h a).1 ∈ [6, 7, 8]) (hj : inB j (gS h a).2) : Ev d 130 33 ls (vI j :: vR a :: st) h = Ev d 130 34 ls (vO (gR h a j.toNatClampNeg) :: st) h := Rald (ks := [6, 7, 8]) (f := fun a j => vO (gR h a j)) hB_130 dX6_personOf_33 rfl hS hj
theorem v130_34 {d : Nat} {ls : LS3} {h : Hp} {o : Option A3} : Ev d 130 34 ls [vO o] h = some (.inl (some (vO o)), h) := Rdn hB_130 dX6_personOf_34 rfl
theorem hB_131 : mB 131 = cX6_thesisOf := rfl
theorem v131_0 {d : Nat} {st : List MV} {h : Hp} {x : Int32} {a0 : Option MV} : Ev d 131 0 [a0, some (vI x)] st h = Ev d 131 1 [a0, some (vI x)] (vI x :: st) h := Rnx (hB_131) (dX6_thesisOf_0) rfl
theorem v131_1 {d : Nat} {st : List MV} {h : Hp} {x : Option A3} {a1 : Option MV} : Ev d 131 1 [some (vO x), a1] st h = Ev d 131 2 [some (vO x), a1] (vO x :: st) h := Rnx (hB_131) (dX6_thesisOf_1) rfl
set_option maxRecDepth 100000 in
theorem v131_2 {d : Nat} {ls : LS3} {st : List MV} {h : Hp} {a : A3} (hS : gS h a = (1, 6)) : Ev d 131 2 ls (vR a :: st) h = Ev d 131 5 ls (vO (gR h a 0) :: st) h := Rget hB_131 dX6_thesisOf_2 rfl (Or.inl hS)
set_option maxRecDepth 100000 in
theorem v131_5 {d : Nat} {ls : LS3} {st : List MV} {h : Hp} {a : A3} (hS : gS h a = (1, 4)) : Ev d 131 5 ls (vR a :: st) h = Ev d 131 8 ls (vI (gI h a 4) :: st) h := Rget hB_131 dX6_thesisOf_5 rfl (Or.inl hS)
set_option maxRecDepth 100000 in
theorem v131_8 {d : Nat} {ls : LS3} {st : List MV} {h : Hp} {x0 : Int32} {x1 : Int32} (hc : catS st ≤ 8) : Ev (d + 1) 131 8 ls (vI x1 :: vI x0 :: st) h = Evk 137 (d + 1) 131 8 ls st (Ev d 137 0 [some (vI x0), some (vI x1)] [] h) := RcallS (idx := 56) (n := 2) (kd := 1) (As := [vI x0, vI x1]) hB_131 dX6_thesisOf_8 rfl rfl (by decide) rfl rfl rfl hc
theorem v131_11 {d : Nat} {ls : LS3} {st : List MV} {h : Hp} {x : Int32} : Ev d 131 11 ls (vI x :: st) h = if x = 0 then Ev d 131 14 ls st h else Ev d 131 25 ls st h := Rifn hB_131 dX6_thesisOf_11 rfl
set_option maxRecDepth 100000 in
theorem v131_14 {d : Nat} {ls : LS3} {st : List MV} {h : Hp} (hc : catS st ≤ 8) : Ev d 131 14 ls st h = some (.inr 2, gb h) := Rthr hB_131 dX6_thesisOf_14 rfl rfl rfl hc
theorem v131_17 {d : Nat} {ls : LS3} {st : List MV} {h : Hp} {v : MV} (hv : cat1 v = true) : Ev d 131 17 ls (v :: st) h = Ev d 131 18 ls (v :: v :: st) h := Rdup hB_131 dX6_thesisOf_17 hv
theorem v131_25 {d : Nat} {st : List MV} {h : Hp} {x : Option A3} {a1 : Option MV} : Ev d 131 25 [some (vO x), a1] st h = Ev d 131 26 [some (vO x), a1] (vO x :: st) h := Rnx (hB_131) (dX6_thesisOf_25) rfl
set_option maxRecDepth 100000 in
theorem v131_26 {d : Nat} {ls : LS3} {st : List MV} {h : Hp} {a : A3} (hS : gS h a = (1, 6)) : Ev d 131 26 ls (vR a :: st) h = Ev d 131 29 ls (vO (gR h a 0) :: st) h := Rget hB_131 dX6_thesisOf_26 rfl (Or.inl hS)
set_option maxRecDepth 100000 in
theorem v131_29 {d : Nat} {ls : LS3} {st : List MV} {h : Hp} {a : A3} (hS : gS h a = (1, 4)) : Ev d 131 29 ls (vR a :: st) h = Ev d 131 32 ls (vO (gR h a 1) :: st) h := Rget hB_131 dX6_thesisOf_29 rfl (Or.inl hS)
theorem v131_32 {d : Nat} {st : List MV} {h : Hp} {x : Int32} {a0 : Option MV} : Ev d 131 32 [a0, some (vI x)] st h = Ev d 131 33 [a0, some (vI x)] (vI x :: st) h := Rnx (hB_131) (dX6_thesisOf_32) rfl
theorem v131_33 {d : Nat} {ls : LS3} {st : List MV} {h : Hp} {a : A3} {j : Int32} (hS : (gS h a).1 ∈ [6, 7, 8]) (hj : inB j (gS h a).2) : Ev d 131 33 ls (vI j :: vR a :: st) h = Ev d 131 34 ls (vO (gR h a j.toNatClampNeg) :: st) h := Rald (ks := [6, 7, 8]) (f := fun a j => vO (gR h a j)) hB_131 dX6_thesisOf_33 rfl hS hj
theorem v131_34 {d : Nat} {ls : LS3} {h : Hp} {o : Option A3} : Ev d 131 34 ls [vO o] h = some (.inl (some (vO o)), h) := Rdn hB_131 dX6_thesisOf_34 rfl
theorem hB_132 : mB 132 = cX6_requireRoom := rfl
theorem v132_0 {d : Nat} {st : List MV} {h : Hp} {x : Int32} : Ev d 132 0 [some (vI x)] st h = Ev d 132 1 [some (vI x)] (vI x :: st) h := Rnx (hB_132) (dX6_requireRoom_0) rfl
theorem v132_1 {d : Nat} {ls : LS3} {st : List MV} {h : Hp} : Ev d 132 1 ls st h = Ev d 132 2 ls (vI 3 :: st) h := Rnx (hB_132) (dX6_requireRoom_1) rfl
set_option maxRecDepth 100000 in
theorem v132_2 {d : Nat} {ls : LS3} {st : List MV} {h : Hp} {x0 : Int32} {x1 : Int32} (hc : catS st ≤ 8) : Ev (d + 1) 132 2 ls (vI x1 :: vI x0 :: st) h = Evk 137 (d + 1) 132 2 ls st (Ev d 137 0 [some (vI x0), some (vI x1)] [] h) := RcallS (idx := 56) (n := 2) (kd := 1) (As := [vI x0, vI x1]) hB_132 dX6_requireRoom_2 rfl rfl (by decide) rfl rfl rfl hc
theorem v132_5 {d : Nat} {ls : LS3} {st : List MV} {h : Hp} {x : Int32} : Ev d 132 5 ls (vI x :: st) h = if x = 0 then Ev d 132 8 ls st h else Ev d 132 19 ls st h := Rifn hB_132 dX6_requireRoom_5 rfl
set_option maxRecDepth 100000 in
theorem v132_8 {d : Nat} {ls : LS3} {st : List MV} {h : Hp} (hc : catS st ≤ 8) : Ev d 132 8 ls st h = some (.inr 2, gb h) := Rthr hB_132 dX6_requireRoom_8 rfl rfl rfl hc
theorem v132_11 {d : Nat} {ls : LS3} {st : List MV} {h : Hp} {v : MV} (hv : cat1 v = true) : Ev d 132 11 ls (v :: st) h = Ev d 132 12 ls (v :: v :: st) h := Rdup hB_132 dX6_requireRoom_11 hv
theorem v132_19 {d : Nat} {ls : LS3} {h : Hp} : Ev d 132 19 ls [] h = some (.inl none, h) := Rdn hB_132 dX6_requireRoom_19 rfl
theorem hB_133 : mB 133 = cX6_requireDayAndHour := rfl
theorem v133_0 {d : Nat} {st : List MV} {h : Hp} {x : Int32} {a1 a2 : Option MV} : Ev d 133 0 [some (vI x), a1, a2] st h = Ev d 133 1 [some (vI x), a1, a2] (vI x :: st) h := Rnx (hB_133) (dX6_requireDayAndHour_0) rfl
set_option maxRecDepth 100000 in
theorem v133_1 {d : Nat} {ls : LS3} {st : List MV} {h : Hp} {x0 : Int32} (hc : catS st ≤ 8) : Ev (d + 1) 133 1 ls (vI x0 :: st) h = Evk 138 (d + 1) 133 1 ls st (Ev d 138 0 [some (vI x0)] [] h) := RcallS (idx := 433) (n := 1) (kd := 1) (As := [vI x0]) hB_133 dX6_requireDayAndHour_1 rfl rfl (by decide) rfl rfl rfl hc
theorem v133_4 {d : Nat} {ls : LS3} {st : List MV} {h : Hp} {x : Int32} : Ev d 133 4 ls (vI x :: st) h = if x = 0 then Ev d 133 16 ls st h else Ev d 133 7 ls st h := Rif hB_133 dX6_requireDayAndHour_4 rfl
theorem v133_7 {d : Nat} {st : List MV} {h : Hp} {x : Int32} {a0 a2 : Option MV} : Ev d 133 7 [a0, some (vI x), a2] st h = Ev d 133 8 [a0, some (vI x), a2] (vI x :: st) h := Rnx (hB_133) (dX6_requireDayAndHour_7) rfl
theorem v133_8 {d : Nat} {ls : LS3} {st : List MV} {h : Hp} {x : Int32} : Ev d 133 8 ls (vI x :: st) h = if x < 0 then Ev d 133 16 ls st h else Ev d 133 11 ls st h := Rif hB_133 dX6_requireDayAndHour_8 rfl
theorem v133_11 {d : Nat} {st : List MV} {h : Hp} {x : Int32} {a0 a2 : Option MV} : Ev d 133 11 [a0, some (vI x), a2] st h = Ev d 133 12 [a0, some (vI x), a2] (vI x :: st) h := Rnx (hB_133) (dX6_requireDayAndHour_11) rfl
theorem v133_12 {d : Nat} {st : List MV} {h : Hp} {x : Int32} {a0 a1 : Option MV} : Ev d 133 12 [a0, a1, some (vI x)] st h = Ev d 133 13 [a0, a1, some (vI x)] (vI x :: st) h := Rnx (hB_133) (dX6_requireDayAndHour_12) rfl
theorem v133_13 {d : Nat} {ls : LS3} {st : List MV} {h : Hp} {x y : Int32} : Ev d 133 13 ls (vI y :: vI x :: st) h = if x ≤ y then Ev d 133 27 ls st h else Ev d 133 16 ls st h := Rif hB_133 dX6_requireDayAndHour_13 rfl
set_option maxRecDepth 100000 in
theorem v133_16 {d : Nat} {ls : LS3} {st : List MV} {h : Hp} (hc : catS st ≤ 8) : Ev d 133 16 ls st h = some (.inr 0, gb h) := Rthr hB_133 dX6_requireDayAndHour_16 rfl rfl rfl hc
theorem v133_19 {d : Nat} {ls : LS3} {st : List MV} {h : Hp} {v : MV} (hv : cat1 v = true) : Ev d 133 19 ls (v :: st) h = Ev d 133 20 ls (v :: v :: st) h := Rdup hB_133 dX6_requireDayAndHour_19 hv
theorem v133_27 {d : Nat} {ls : LS3} {h : Hp} : Ev d 133 27 ls [] h = some (.inl none, h) := Rdn hB_133 dX6_requireDayAndHour_27 rfl
theorem hB_134 : mB 134 = cX6_requireMember := rfl
theorem v134_0 {d : Nat} {st : List MV} {h : Hp} {x : Option A3} {a1 : Option MV} : Ev d 134 0 [some (vO x), a1] st h = Ev d 134 1 [some (vO x), a1] (vO x :: st) h := Rnx (hB_134) (dX6_requireMember_0) rfl
theorem v134_1 {d : Nat} {st : List MV} {h : Hp} {x : Option A3} {a0 : Option MV} : Ev d 134 1 [a0, some (vO x)] st h = Ev d 134 2 [a0, some (vO x)] (vO x :: st) h := Rnx (hB_134) (dX6_requireMember_1) rfl
set_option maxRecDepth 100000 in
theorem v134_2 {d : Nat} {ls : LS3} {st : List MV} {h : Hp} {a : A3} (hS : gS h a = (1, 5)) : Ev d 134 2 ls (vR a :: st) h = Ev d 134 5 ls (vI (gI h a 6) :: st) h := Rget hB_134 dX6_requireMember_2 rfl (Or.inl hS)
set_option maxRecDepth 100000 in
theorem v134_5 {d : Nat} {ls : LS3} {st : List MV} {h : Hp} {a : A3} {x0 : Int32} (hS : gS h a = (1, 3)) (hc : catS st ≤ 8) : Ev (d + 1) 134 5 ls (vI x0 :: vR a :: st) h = Evk 25 (d + 1) 134 5 ls st (Ev d 25 0 [some (vR a), some (vI x0)] [] h) := RcallO (idx := 91) (n := 1) (kd := 0) (As' := [vI x0]) hB_134 dX6_requireMember_5 rfl rfl (by decide) rfl rfl (Or.inl hS) rfl hc
theorem v134_8 {d : Nat} {ls : LS3} {st : List MV} {h : Hp} {x : Int32} : Ev d 134 8 ls (vI x :: st) h = if x = 0 then Ev d 134 11 ls st h else Ev d 134 22 ls st h := Rifn hB_134 dX6_requireMember_8 rfl
set_option maxRecDepth 100000 in
theorem v134_11 {d : Nat} {ls : LS3} {st : List MV} {h : Hp} (hc : catS st ≤ 8) : Ev d 134 11 ls st h = some (.inr 1, gb h) := Rthr hB_134 dX6_requireMember_11 rfl rfl rfl hc
theorem v134_14 {d : Nat} {ls : LS3} {st : List MV} {h : Hp} {v : MV} (hv : cat1 v = true) : Ev d 134 14 ls (v :: st) h = Ev d 134 15 ls (v :: v :: st) h := Rdup hB_134 dX6_requireMember_14 hv
theorem v134_22 {d : Nat} {ls : LS3} {h : Hp} : Ev d 134 22 ls [] h = some (.inl none, h) := Rdn hB_134 dX6_requireMember_22 rfl
theorem hB_135 : mB 135 = cX6_refuseFor := rfl
theorem v135_0 {d : Nat} {st : List MV} {h : Hp} {x : Int32} {a0 : Option MV} : Ev d 135 0 [a0, some (vI x)] st h = Ev d 135 1 [a0, some (vI x)] (vI x :: st) h := Rnx (hB_135) (dX6_refuseFor_0) rfl
theorem v135_1 {d : Nat} {ls : LS3} {st : List MV} {h : Hp} {x : Int32} : Ev d 135 1 ls (vI x :: st) h = if x = 0 then Ev d 135 20 ls st h else Ev d 135 4 ls st h := Rif hB_135 dX6_refuseFor_1 rfl
theorem v135_4 {d : Nat} {st : List MV} {h : Hp} {x : Option A3} {a1 : Option MV} : Ev d 135 4 [some (vO x), a1] st h = Ev d 135 5 [some (vO x), a1] (vO x :: st) h := Rnx (hB_135) (dX6_refuseFor_4) rfl
theorem v135_5 {d : Nat} {st : List MV} {h : Hp} {x : Int32} {a0 : Option MV} : Ev d 135 5 [a0, some (vI x)] st h = Ev d 135 6 [a0, some (vI x)] (vI x :: st) h := Rnx (hB_135) (dX6_refuseFor_5) rfl
set_option maxRecDepth 100000 in
theorem v135_6 {d : Nat} {ls : LS3} {st : List MV} {h : Hp} {a : A3} {x : Int32} (hS : gS h a = (1, 6)) : Ev d 135 6 ls (vI x :: vR a :: st) h = Ev d 135 9 ls st (sI h a 6 x) := RputI hB_135 dX6_refuseFor_6 rfl rfl (by decide) hS (Or.inl rfl)
set_option maxRecDepth 100000 in
theorem v135_9 {d : Nat} {ls : LS3} {st : List MV} {h : Hp} (hc : catS st ≤ 8) : Ev d 135 9 ls st h = some (.inr 4, gb h) := Rthr hB_135 dX6_refuseFor_9 rfl rfl rfl hc
theorem v135_12 {d : Nat} {ls : LS3} {st : List MV} {h : Hp} {v : MV} (hv : cat1 v = true) : Ev d 135 12 ls (v :: st) h = Ev d 135 13 ls (v :: v :: st) h := Rdup hB_135 dX6_refuseFor_12 hv
theorem v135_20 {d : Nat} {ls : LS3} {h : Hp} : Ev d 135 20 ls [] h = some (.inl none, h) := Rdn hB_135 dX6_refuseFor_20 rfl
theorem hB_136 : mB 136 = cX6_completionOf := rfl
theorem v136_0 {d : Nat} {st : List MV} {h : Hp} {x : Option A3} {a1 a2 : Option MV} : Ev d 136 0 [some (vO x), a1, a2] st h = Ev d 136 1 [some (vO x), a1, a2] (vO x :: st) h := Rnx (hB_136) (dX6_completionOf_0) rfl
set_option maxRecDepth 100000 in
theorem v136_1 {d : Nat} {ls : LS3} {st : List MV} {h : Hp} {a : A3} (hS : gS h a = (1, 6)) : Ev d 136 1 ls (vR a :: st) h = Ev d 136 4 ls (vO (gR h a 4) :: st) h := Rget hB_136 dX6_completionOf_1 rfl (Or.inl hS)
theorem v136_4 {d : Nat} {st : List MV} {h : Hp} {x : Option A3} {a1 a2 : Option MV} : Ev d 136 4 [some (vO x), a1, a2] st h = Ev d 136 5 [some (vO x), a1, a2] (vO x :: st) h := Rnx (hB_136) (dX6_completionOf_4) rfl
set_option maxRecDepth 100000 in
theorem v136_5 {d : Nat} {ls : LS3} {st : List MV} {h : Hp} {a : A3} (hS : gS h a = (1, 6)) : Ev d 136 5 ls (vR a :: st) h = Ev d 136 8 ls (vO (gR h a 0) :: st) h := Rget hB_136 dX6_completionOf_5 rfl (Or.inl hS)
theorem v136_8 {d : Nat} {st : List MV} {h : Hp} {x : Option A3} {a0 a2 : Option MV} : Ev d 136 8 [a0, some (vO x), a2] st h = Ev d 136 9 [a0, some (vO x), a2] (vO x :: st) h := Rnx (hB_136) (dX6_completionOf_8) rfl
set_option maxRecDepth 100000 in
theorem v136_9 {d : Nat} {ls : LS3} {st : List MV} {h : Hp} {a : A3} {o0 : Option A3} {o1 : Option A3} (hS : gS h a = (1, 0)) (hc : catS st ≤ 8) : Ev (d + 1) 136 9 ls (vO o1 :: vO o0 :: vR a :: st) h = Evk 1 (d + 1) 136 9 ls st (Ev d 1 0 [some (vR a), some (vO o0), some (vO o1), none, none, none, none] [] h) := RcallO (idx := 445) (n := 2) (kd := 0) (As' := [vO o0, vO o1]) hB_136 dX6_completionOf_9 rfl rfl (by decide) rfl rfl (Or.inl hS) rfl hc
theorem v136_12 {d : Nat} {st : List MV} {h : Hp} {x : Int32} {a0 a1 a2 : Option MV} : Ev d 136 12 [a0, a1, a2] (vI x :: st) h = Ev d 136 13 [a0, a1, some (vI x)] st h := Rnx (hB_136) (dX6_completionOf_12) rfl
theorem v136_13 {d : Nat} {st : List MV} {h : Hp} {x : Int32} {a0 a1 : Option MV} : Ev d 136 13 [a0, a1, some (vI x)] st h = Ev d 136 14 [a0, a1, some (vI x)] (vI x :: st) h := Rnx (hB_136) (dX6_completionOf_13) rfl
theorem v136_14 {d : Nat} {ls : LS3} {st : List MV} {h : Hp} : Ev d 136 14 ls st h = Ev d 136 15 ls (vI (-1) :: st) h := Rnx (hB_136) (dX6_completionOf_14) rfl
theorem v136_15 {d : Nat} {ls : LS3} {st : List MV} {h : Hp} {x y : Int32} : Ev d 136 15 ls (vI y :: vI x :: st) h = if x = y then Ev d 136 18 ls st h else Ev d 136 29 ls st h := Rifn hB_136 dX6_completionOf_15 rfl
set_option maxRecDepth 100000 in
theorem v136_18 {d : Nat} {ls : LS3} {st : List MV} {h : Hp} (hc : catS st ≤ 8) : Ev d 136 18 ls st h = some (.inr 3, gb h) := Rthr hB_136 dX6_completionOf_18 rfl rfl rfl hc
theorem v136_21 {d : Nat} {ls : LS3} {st : List MV} {h : Hp} {v : MV} (hv : cat1 v = true) : Ev d 136 21 ls (v :: st) h = Ev d 136 22 ls (v :: v :: st) h := Rdup hB_136 dX6_completionOf_21 hv
theorem v136_29 {d : Nat} {st : List MV} {h : Hp} {x : Int32} {a0 a1 : Option MV} : Ev d 136 29 [a0, a1, some (vI x)] st h = Ev d 136 30 [a0, a1, some (vI x)] (vI x :: st) h := Rnx (hB_136) (dX6_completionOf_29) rfl
theorem v136_30 {d : Nat} {ls : LS3} {h : Hp} {x : Int32} : Ev d 136 30 ls [vI x] h = some (.inl (some (vI x)), h) := Rdn hB_136 dX6_completionOf_30 rfl
theorem hB_137 : mB 137 = cX6_isBelow := rfl
theorem v137_0 {d : Nat} {st : List MV} {h : Hp} {x : Int32} {a1 : Option MV} : Ev d 137 0 [some (vI x), a1] st h = Ev d 137 1 [some (vI x), a1] (vI x :: st) h := Rnx (hB_137) (dX6_isBelow_0) rfl
theorem v137_1 {d : Nat} {ls : LS3} {st : List MV} {h : Hp} {x : Int32} : Ev d 137 1 ls (vI x :: st) h = if x < 0 then Ev d 137 13 ls st h else Ev d 137 4 ls st h := Rif hB_137 dX6_isBelow_1 rfl
theorem v137_4 {d : Nat} {st : List MV} {h : Hp} {x : Int32} {a1 : Option MV} : Ev d 137 4 [some (vI x), a1] st h = Ev d 137 5 [some (vI x), a1] (vI x :: st) h := Rnx (hB_137) (dX6_isBelow_4) rfl
theorem v137_5 {d : Nat} {st : List MV} {h : Hp} {x : Int32} {a0 : Option MV} : Ev d 137 5 [a0, some (vI x)] st h = Ev d 137 6 [a0, some (vI x)] (vI x :: st) h := Rnx (hB_137) (dX6_isBelow_5) rfl
theorem v137_6 {d : Nat} {ls : LS3} {st : List MV} {h : Hp} {x y : Int32} : Ev d 137 6 ls (vI y :: vI x :: st) h = if y ≤ x then Ev d 137 13 ls st h else Ev d 137 9 ls st h := Rif hB_137 dX6_isBelow_6 rfl
theorem v137_9 {d : Nat} {ls : LS3} {st : List MV} {h : Hp} : Ev d 137 9 ls st h = Ev d 137 10 ls (vI 1 :: st) h := Rnx (hB_137) (dX6_isBelow_9) rfl
theorem v137_10 {d : Nat} {ls : LS3} {st : List MV} {h : Hp} : Ev d 137 10 ls st h = Ev d 137 14 ls st h := Rnx (hB_137) (dX6_isBelow_10) rfl
theorem v137_13 {d : Nat} {ls : LS3} {st : List MV} {h : Hp} : Ev d 137 13 ls st h = Ev d 137 14 ls (vI 0 :: st) h := Rnx (hB_137) (dX6_isBelow_13) rfl
theorem v137_14 {d : Nat} {ls : LS3} {h : Hp} {x : Int32} (hx : x = 0 ∨ x = 1) : Ev d 137 14 ls [vI x] h = some (.inl (some (vI x)), h) := RretB hB_137 dX6_isBelow_14 rfl hx
theorem hB_138 : mB 138 = cX6_isDay := rfl
theorem v138_0 {d : Nat} {st : List MV} {h : Hp} {x : Int32} : Ev d 138 0 [some (vI x)] st h = Ev d 138 1 [some (vI x)] (vI x :: st) h := Rnx (hB_138) (dX6_isDay_0) rfl
theorem v138_1 {d : Nat} {ls : LS3} {st : List MV} {h : Hp} {x : Int32} : Ev d 138 1 ls (vI x :: st) h = if x < 0 then Ev d 138 15 ls st h else Ev d 138 4 ls st h := Rif hB_138 dX6_isDay_1 rfl
theorem v138_4 {d : Nat} {st : List MV} {h : Hp} {x : Int32} : Ev d 138 4 [some (vI x)] st h = Ev d 138 5 [some (vI x)] (vI x :: st) h := Rnx (hB_138) (dX6_isDay_4) rfl
theorem v138_5 {d : Nat} {ls : LS3} {st : List MV} {h : Hp} : Ev d 138 5 ls st h = Ev d 138 8 ls (vI 400 :: st) h := Rnx (hB_138) (dX6_isDay_5) rfl
theorem v138_8 {d : Nat} {ls : LS3} {st : List MV} {h : Hp} {x y : Int32} : Ev d 138 8 ls (vI y :: vI x :: st) h = if y < x then Ev d 138 15 ls st h else Ev d 138 11 ls st h := Rif hB_138 dX6_isDay_8 rfl
theorem v138_11 {d : Nat} {ls : LS3} {st : List MV} {h : Hp} : Ev d 138 11 ls st h = Ev d 138 12 ls (vI 1 :: st) h := Rnx (hB_138) (dX6_isDay_11) rfl
theorem v138_12 {d : Nat} {ls : LS3} {st : List MV} {h : Hp} : Ev d 138 12 ls st h = Ev d 138 16 ls st h := Rnx (hB_138) (dX6_isDay_12) rfl
theorem v138_15 {d : Nat} {ls : LS3} {st : List MV} {h : Hp} : Ev d 138 15 ls st h = Ev d 138 16 ls (vI 0 :: st) h := Rnx (hB_138) (dX6_isDay_15) rfl
theorem v138_16 {d : Nat} {ls : LS3} {h : Hp} {x : Int32} (hx : x = 0 ∨ x = 1) : Ev d 138 16 ls [vI x] h = some (.inl (some (vI x)), h) := RretB hB_138 dX6_isDay_16 rfl hx
theorem hB_139 : mB 139 = cX7_init := rfl
theorem v139_0 {d : Nat} {st : List MV} {h : Hp} {x : Option A3} : Ev d 139 0 [some (vO x)] st h = Ev d 139 1 [some (vO x)] (vO x :: st) h := Rnx (hB_139) (dX7_init_0) rfl
set_option maxRecDepth 100000 in
theorem v139_1 {d : Nat} {ls : LS3} {st : List MV} {h : Hp} {a : A3} (hc : catS st ≤ 8) : Ev d 139 1 ls (vR a :: st) h = Ev d 139 4 ls st h := Robj hB_139 dX7_init_1 rfl hc
theorem v139_4 {d : Nat} {st : List MV} {h : Hp} {x : Option A3} : Ev d 139 4 [some (vO x)] st h = Ev d 139 5 [some (vO x)] (vO x :: st) h := Rnx (hB_139) (dX7_init_4) rfl
theorem v139_5 {d : Nat} {ls : LS3} {st : List MV} {h : Hp} : Ev d 139 5 ls st h = Ev d 139 7 ls (vI 14 :: st) h := Rnx (hB_139) (dX7_init_5) rfl
theorem v139_7 {d : Nat} {ls : LS3} {st : List MV} {h : Hp} {n : Int32} (hn : 0 ≤ n ∧ n.toNatClampNeg ≤ 100000) (hF : Fresh h) : Ev d 139 7 ls (vI n :: st) h = Ev d 139 9 ls (vR (nm (cnt h)) :: st) (mk h (nm (cnt h)) (2, n.toNatClampNeg) n.toNatClampNeg) := Rnewa hB_139 dX7_init_7 rfl hn hF
set_option maxRecDepth 100000 in
theorem v139_9 {d : Nat} {ls : LS3} {st : List MV} {h : Hp} {a : A3} {o : Option A3} (hS : gS h a = (1, 7)) : Ev d 139 9 ls (vO o :: vR a :: st) h = Ev d 139 12 ls st (sR h a 1 o) := RputR hB_139 dX7_init_9 rfl rfl (by decide) hS
theorem v139_12 {d : Nat} {st : List MV} {h : Hp} {x : Option A3} : Ev d 139 12 [some (vO x)] st h = Ev d 139 13 [some (vO x)] (vO x :: st) h := Rnx (hB_139) (dX7_init_12) rfl
theorem v139_13 {d : Nat} {ls : LS3} {st : List MV} {h : Hp} : Ev d 139 13 ls st h = Ev d 139 15 ls (vI 14 :: st) h := Rnx (hB_139) (dX7_init_13) rfl
theorem v139_15 {d : Nat} {ls : LS3} {st : List MV} {h : Hp} {n : Int32} (hn : 0 ≤ n ∧ n.toNatClampNeg ≤ 100000) (hF : Fresh h) : Ev d 139 15 ls (vI n :: st) h = Ev d 139 17 ls (vR (nm (cnt h)) :: st) (mk h (nm (cnt h)) (2, n.toNatClampNeg) n.toNatClampNeg) := Rnewa hB_139 dX7_init_15 rfl hn hF
set_option maxRecDepth 100000 in
theorem v139_17 {d : Nat} {ls : LS3} {st : List MV} {h : Hp} {a : A3} {o : Option A3} (hS : gS h a = (1, 7)) : Ev d 139 17 ls (vO o :: vR a :: st) h = Ev d 139 20 ls st (sR h a 2 o) := RputR hB_139 dX7_init_17 rfl rfl (by decide) hS
theorem v139_20 {d : Nat} {st : List MV} {h : Hp} {x : Option A3} : Ev d 139 20 [some (vO x)] st h = Ev d 139 21 [some (vO x)] (vO x :: st) h := Rnx (hB_139) (dX7_init_20) rfl
theorem v139_21 {d : Nat} {ls : LS3} {st : List MV} {h : Hp} : Ev d 139 21 ls st h = Ev d 139 23 ls (vI 14 :: st) h := Rnx (hB_139) (dX7_init_21) rfl
theorem v139_23 {d : Nat} {ls : LS3} {st : List MV} {h : Hp} {n : Int32} (hn : 0 ≤ n ∧ n.toNatClampNeg ≤ 100000) (hF : Fresh h) : Ev d 139 23 ls (vI n :: st) h = Ev d 139 25 ls (vR (nm (cnt h)) :: st) (mk h (nm (cnt h)) (2, n.toNatClampNeg) n.toNatClampNeg) := Rnewa hB_139 dX7_init_23 rfl hn hF
set_option maxRecDepth 100000 in
theorem v139_25 {d : Nat} {ls : LS3} {st : List MV} {h : Hp} {a : A3} {o : Option A3} (hS : gS h a = (1, 7)) : Ev d 139 25 ls (vO o :: vR a :: st) h = Ev d 139 28 ls st (sR h a 3 o) := RputR hB_139 dX7_init_25 rfl rfl (by decide) hS
theorem v139_28 {d : Nat} {st : List MV} {h : Hp} {x : Option A3} : Ev d 139 28 [some (vO x)] st h = Ev d 139 29 [some (vO x)] (vO x :: st) h := Rnx (hB_139) (dX7_init_28) rfl
theorem v139_29 {d : Nat} {ls : LS3} {st : List MV} {h : Hp} : Ev d 139 29 ls st h = Ev d 139 31 ls (vI 14 :: st) h := Rnx (hB_139) (dX7_init_29) rfl
theorem v139_31 {d : Nat} {ls : LS3} {st : List MV} {h : Hp} {n : Int32} (hn : 0 ≤ n ∧ n.toNatClampNeg ≤ 100000) (hF : Fresh h) : Ev d 139 31 ls (vI n :: st) h = Ev d 139 33 ls (vR (nm (cnt h)) :: st) (mk h (nm (cnt h)) (2, n.toNatClampNeg) n.toNatClampNeg) := Rnewa hB_139 dX7_init_31 rfl hn hF
set_option maxRecDepth 100000 in
theorem v139_33 {d : Nat} {ls : LS3} {st : List MV} {h : Hp} {a : A3} {o : Option A3} (hS : gS h a = (1, 7)) : Ev d 139 33 ls (vO o :: vR a :: st) h = Ev d 139 36 ls st (sR h a 4 o) := RputR hB_139 dX7_init_33 rfl rfl (by decide) hS
theorem v139_36 {d : Nat} {st : List MV} {h : Hp} {x : Option A3} : Ev d 139 36 [some (vO x)] st h = Ev d 139 37 [some (vO x)] (vO x :: st) h := Rnx (hB_139) (dX7_init_36) rfl
theorem v139_37 {d : Nat} {ls : LS3} {st : List MV} {h : Hp} : Ev d 139 37 ls st h = Ev d 139 39 ls (vI 14 :: st) h := Rnx (hB_139) (dX7_init_37) rfl
theorem v139_39 {d : Nat} {ls : LS3} {st : List MV} {h : Hp} {n : Int32} (hn : 0 ≤ n ∧ n.toNatClampNeg ≤ 100000) (hF : Fresh h) : Ev d 139 39 ls (vI n :: st) h = Ev d 139 41 ls (vR (nm (cnt h)) :: st) (mk h (nm (cnt h)) (2, n.toNatClampNeg) n.toNatClampNeg) := Rnewa hB_139 dX7_init_39 rfl hn hF
set_option maxRecDepth 100000 in
theorem v139_41 {d : Nat} {ls : LS3} {st : List MV} {h : Hp} {a : A3} {o : Option A3} (hS : gS h a = (1, 7)) : Ev d 139 41 ls (vO o :: vR a :: st) h = Ev d 139 44 ls st (sR h a 5 o) := RputR hB_139 dX7_init_41 rfl rfl (by decide) hS
theorem v139_44 {d : Nat} {st : List MV} {h : Hp} {x : Option A3} : Ev d 139 44 [some (vO x)] st h = Ev d 139 45 [some (vO x)] (vO x :: st) h := Rnx (hB_139) (dX7_init_44) rfl
theorem v139_45 {d : Nat} {ls : LS3} {st : List MV} {h : Hp} : Ev d 139 45 ls st h = Ev d 139 48 ls (vI 1414 :: st) h := Rnx (hB_139) (dX7_init_45) rfl
theorem v139_48 {d : Nat} {ls : LS3} {st : List MV} {h : Hp} {n : Int32} (hn : 0 ≤ n ∧ n.toNatClampNeg ≤ 100000) (hF : Fresh h) : Ev d 139 48 ls (vI n :: st) h = Ev d 139 50 ls (vR (nm (cnt h)) :: st) (mk h (nm (cnt h)) (2, n.toNatClampNeg) n.toNatClampNeg) := Rnewa hB_139 dX7_init_48 rfl hn hF
set_option maxRecDepth 100000 in
theorem v139_50 {d : Nat} {ls : LS3} {st : List MV} {h : Hp} {a : A3} {o : Option A3} (hS : gS h a = (1, 7)) : Ev d 139 50 ls (vO o :: vR a :: st) h = Ev d 139 53 ls st (sR h a 6 o) := RputR hB_139 dX7_init_50 rfl rfl (by decide) hS
theorem v139_53 {d : Nat} {st : List MV} {h : Hp} {x : Option A3} : Ev d 139 53 [some (vO x)] st h = Ev d 139 54 [some (vO x)] (vO x :: st) h := Rnx (hB_139) (dX7_init_53) rfl
theorem v139_54 {d : Nat} {ls : LS3} {st : List MV} {h : Hp} : Ev d 139 54 ls st h = Ev d 139 56 ls (vI 8 :: st) h := Rnx (hB_139) (dX7_init_54) rfl
theorem v139_56 {d : Nat} {ls : LS3} {st : List MV} {h : Hp} {n : Int32} (hn : 0 ≤ n ∧ n.toNatClampNeg ≤ 100000) (hF : Fresh h) : Ev d 139 56 ls (vI n :: st) h = Ev d 139 58 ls (vR (nm (cnt h)) :: st) (mk h (nm (cnt h)) (2, n.toNatClampNeg) n.toNatClampNeg) := Rnewa hB_139 dX7_init_56 rfl hn hF
set_option maxRecDepth 100000 in
theorem v139_58 {d : Nat} {ls : LS3} {st : List MV} {h : Hp} {a : A3} {o : Option A3} (hS : gS h a = (1, 7)) : Ev d 139 58 ls (vO o :: vR a :: st) h = Ev d 139 61 ls st (sR h a 9 o) := RputR hB_139 dX7_init_58 rfl rfl (by decide) hS
theorem v139_61 {d : Nat} {st : List MV} {h : Hp} {x : Option A3} : Ev d 139 61 [some (vO x)] st h = Ev d 139 62 [some (vO x)] (vO x :: st) h := Rnx (hB_139) (dX7_init_61) rfl
theorem v139_62 {d : Nat} {ls : LS3} {st : List MV} {h : Hp} : Ev d 139 62 ls st h = Ev d 139 64 ls (vI 8 :: st) h := Rnx (hB_139) (dX7_init_62) rfl
theorem v139_64 {d : Nat} {ls : LS3} {st : List MV} {h : Hp} {n : Int32} (hn : 0 ≤ n ∧ n.toNatClampNeg ≤ 100000) (hF : Fresh h) : Ev d 139 64 ls (vI n :: st) h = Ev d 139 66 ls (vR (nm (cnt h)) :: st) (mk h (nm (cnt h)) (2, n.toNatClampNeg) n.toNatClampNeg) := Rnewa hB_139 dX7_init_64 rfl hn hF
set_option maxRecDepth 100000 in
theorem v139_66 {d : Nat} {ls : LS3} {st : List MV} {h : Hp} {a : A3} {o : Option A3} (hS : gS h a = (1, 7)) : Ev d 139 66 ls (vO o :: vR a :: st) h = Ev d 139 69 ls st (sR h a 10 o) := RputR hB_139 dX7_init_66 rfl rfl (by decide) hS
theorem v139_69 {d : Nat} {st : List MV} {h : Hp} {x : Option A3} : Ev d 139 69 [some (vO x)] st h = Ev d 139 70 [some (vO x)] (vO x :: st) h := Rnx (hB_139) (dX7_init_69) rfl
theorem v139_70 {d : Nat} {ls : LS3} {st : List MV} {h : Hp} : Ev d 139 70 ls st h = Ev d 139 72 ls (vI 8 :: st) h := Rnx (hB_139) (dX7_init_70) rfl
theorem v139_72 {d : Nat} {ls : LS3} {st : List MV} {h : Hp} {n : Int32} (hn : 0 ≤ n ∧ n.toNatClampNeg ≤ 100000) (hF : Fresh h) : Ev d 139 72 ls (vI n :: st) h = Ev d 139 74 ls (vR (nm (cnt h)) :: st) (mk h (nm (cnt h)) (2, n.toNatClampNeg) n.toNatClampNeg) := Rnewa hB_139 dX7_init_72 rfl hn hF
set_option maxRecDepth 100000 in
theorem v139_74 {d : Nat} {ls : LS3} {st : List MV} {h : Hp} {a : A3} {o : Option A3} (hS : gS h a = (1, 7)) : Ev d 139 74 ls (vO o :: vR a :: st) h = Ev d 139 77 ls st (sR h a 11 o) := RputR hB_139 dX7_init_74 rfl rfl (by decide) hS
theorem v139_77 {d : Nat} {st : List MV} {h : Hp} {x : Option A3} : Ev d 139 77 [some (vO x)] st h = Ev d 139 78 [some (vO x)] (vO x :: st) h := Rnx (hB_139) (dX7_init_77) rfl
theorem v139_78 {d : Nat} {ls : LS3} {st : List MV} {h : Hp} : Ev d 139 78 ls st h = Ev d 139 80 ls (vI 8 :: st) h := Rnx (hB_139) (dX7_init_78) rfl
theorem v139_80 {d : Nat} {ls : LS3} {st : List MV} {h : Hp} {n : Int32} (hn : 0 ≤ n ∧ n.toNatClampNeg ≤ 100000) (hF : Fresh h) : Ev d 139 80 ls (vI n :: st) h = Ev d 139 82 ls (vR (nm (cnt h)) :: st) (mk h (nm (cnt h)) (2, n.toNatClampNeg) n.toNatClampNeg) := Rnewa hB_139 dX7_init_80 rfl hn hF
set_option maxRecDepth 100000 in
theorem v139_82 {d : Nat} {ls : LS3} {st : List MV} {h : Hp} {a : A3} {o : Option A3} (hS : gS h a = (1, 7)) : Ev d 139 82 ls (vO o :: vR a :: st) h = Ev d 139 85 ls st (sR h a 12 o) := RputR hB_139 dX7_init_82 rfl rfl (by decide) hS
theorem v139_85 {d : Nat} {st : List MV} {h : Hp} {x : Option A3} : Ev d 139 85 [some (vO x)] st h = Ev d 139 86 [some (vO x)] (vO x :: st) h := Rnx (hB_139) (dX7_init_85) rfl
theorem v139_86 {d : Nat} {ls : LS3} {st : List MV} {h : Hp} : Ev d 139 86 ls st h = Ev d 139 88 ls (vI 8 :: st) h := Rnx (hB_139) (dX7_init_86) rfl
theorem v139_88 {d : Nat} {ls : LS3} {st : List MV} {h : Hp} {n : Int32} (hn : 0 ≤ n ∧ n.toNatClampNeg ≤ 100000) (hF : Fresh h) : Ev d 139 88 ls (vI n :: st) h = Ev d 139 90 ls (vR (nm (cnt h)) :: st) (mk h (nm (cnt h)) (2, n.toNatClampNeg) n.toNatClampNeg) := Rnewa hB_139 dX7_init_88 rfl hn hF
set_option maxRecDepth 100000 in
theorem v139_90 {d : Nat} {ls : LS3} {st : List MV} {h : Hp} {a : A3} {o : Option A3} (hS : gS h a = (1, 7)) : Ev d 139 90 ls (vO o :: vR a :: st) h = Ev d 139 93 ls st (sR h a 13 o) := RputR hB_139 dX7_init_90 rfl rfl (by decide) hS
theorem v139_93 {d : Nat} {st : List MV} {h : Hp} {x : Option A3} : Ev d 139 93 [some (vO x)] st h = Ev d 139 94 [some (vO x)] (vO x :: st) h := Rnx (hB_139) (dX7_init_93) rfl
theorem v139_94 {d : Nat} {ls : LS3} {st : List MV} {h : Hp} : Ev d 139 94 ls st h = Ev d 139 96 ls (vI 8 :: st) h := Rnx (hB_139) (dX7_init_94) rfl
theorem v139_96 {d : Nat} {ls : LS3} {st : List MV} {h : Hp} {n : Int32} (hn : 0 ≤ n ∧ n.toNatClampNeg ≤ 100000) (hF : Fresh h) : Ev d 139 96 ls (vI n :: st) h = Ev d 139 98 ls (vR (nm (cnt h)) :: st) (mk h (nm (cnt h)) (2, n.toNatClampNeg) n.toNatClampNeg) := Rnewa hB_139 dX7_init_96 rfl hn hF
set_option maxRecDepth 100000 in
theorem v139_98 {d : Nat} {ls : LS3} {st : List MV} {h : Hp} {a : A3} {o : Option A3} (hS : gS h a = (1, 7)) : Ev d 139 98 ls (vO o :: vR a :: st) h = Ev d 139 101 ls st (sR h a 14 o) := RputR hB_139 dX7_init_98 rfl rfl (by decide) hS
theorem v139_101 {d : Nat} {st : List MV} {h : Hp} {x : Option A3} : Ev d 139 101 [some (vO x)] st h = Ev d 139 102 [some (vO x)] (vO x :: st) h := Rnx (hB_139) (dX7_init_101) rfl
theorem v139_102 {d : Nat} {ls : LS3} {st : List MV} {h : Hp} : Ev d 139 102 ls st h = Ev d 139 104 ls (vI 8 :: st) h := Rnx (hB_139) (dX7_init_102) rfl
theorem v139_104 {d : Nat} {ls : LS3} {st : List MV} {h : Hp} {n : Int32} (hn : 0 ≤ n ∧ n.toNatClampNeg ≤ 100000) (hF : Fresh h) : Ev d 139 104 ls (vI n :: st) h = Ev d 139 106 ls (vR (nm (cnt h)) :: st) (mk h (nm (cnt h)) (2, n.toNatClampNeg) n.toNatClampNeg) := Rnewa hB_139 dX7_init_104 rfl hn hF
set_option maxRecDepth 100000 in
theorem v139_106 {d : Nat} {ls : LS3} {st : List MV} {h : Hp} {a : A3} {o : Option A3} (hS : gS h a = (1, 7)) : Ev d 139 106 ls (vO o :: vR a :: st) h = Ev d 139 109 ls st (sR h a 15 o) := RputR hB_139 dX7_init_106 rfl rfl (by decide) hS
theorem v139_109 {d : Nat} {st : List MV} {h : Hp} {x : Option A3} : Ev d 139 109 [some (vO x)] st h = Ev d 139 110 [some (vO x)] (vO x :: st) h := Rnx (hB_139) (dX7_init_109) rfl
theorem v139_110 {d : Nat} {ls : LS3} {st : List MV} {h : Hp} : Ev d 139 110 ls st h = Ev d 139 112 ls (vI 8 :: st) h := Rnx (hB_139) (dX7_init_110) rfl
theorem v139_112 {d : Nat} {ls : LS3} {st : List MV} {h : Hp} {n : Int32} (hn : 0 ≤ n ∧ n.toNatClampNeg ≤ 100000) (hF : Fresh h) : Ev d 139 112 ls (vI n :: st) h = Ev d 139 114 ls (vR (nm (cnt h)) :: st) (mk h (nm (cnt h)) (2, n.toNatClampNeg) n.toNatClampNeg) := Rnewa hB_139 dX7_init_112 rfl hn hF
set_option maxRecDepth 100000 in
theorem v139_114 {d : Nat} {ls : LS3} {st : List MV} {h : Hp} {a : A3} {o : Option A3} (hS : gS h a = (1, 7)) : Ev d 139 114 ls (vO o :: vR a :: st) h = Ev d 139 117 ls st (sR h a 16 o) := RputR hB_139 dX7_init_114 rfl rfl (by decide) hS
theorem v139_117 {d : Nat} {st : List MV} {h : Hp} {x : Option A3} : Ev d 139 117 [some (vO x)] st h = Ev d 139 118 [some (vO x)] (vO x :: st) h := Rnx (hB_139) (dX7_init_117) rfl
theorem v139_118 {d : Nat} {ls : LS3} {st : List MV} {h : Hp} : Ev d 139 118 ls st h = Ev d 139 120 ls (vI 8 :: st) h := Rnx (hB_139) (dX7_init_118) rfl
theorem v139_120 {d : Nat} {ls : LS3} {st : List MV} {h : Hp} {n : Int32} (hn : 0 ≤ n ∧ n.toNatClampNeg ≤ 100000) (hF : Fresh h) : Ev d 139 120 ls (vI n :: st) h = Ev d 139 122 ls (vR (nm (cnt h)) :: st) (mk h (nm (cnt h)) (2, n.toNatClampNeg) n.toNatClampNeg) := Rnewa hB_139 dX7_init_120 rfl hn hF
set_option maxRecDepth 100000 in
theorem v139_122 {d : Nat} {ls : LS3} {st : List MV} {h : Hp} {a : A3} {o : Option A3} (hS : gS h a = (1, 7)) : Ev d 139 122 ls (vO o :: vR a :: st) h = Ev d 139 125 ls st (sR h a 17 o) := RputR hB_139 dX7_init_122 rfl rfl (by decide) hS
theorem v139_125 {d : Nat} {st : List MV} {h : Hp} {x : Option A3} : Ev d 139 125 [some (vO x)] st h = Ev d 139 126 [some (vO x)] (vO x :: st) h := Rnx (hB_139) (dX7_init_125) rfl
theorem v139_126 {d : Nat} {ls : LS3} {st : List MV} {h : Hp} : Ev d 139 126 ls st h = Ev d 139 128 ls (vI 8 :: st) h := Rnx (hB_139) (dX7_init_126) rfl
theorem v139_128 {d : Nat} {ls : LS3} {st : List MV} {h : Hp} {n : Int32} (hn : 0 ≤ n ∧ n.toNatClampNeg ≤ 100000) (hF : Fresh h) : Ev d 139 128 ls (vI n :: st) h = Ev d 139 130 ls (vR (nm (cnt h)) :: st) (mk h (nm (cnt h)) (2, n.toNatClampNeg) n.toNatClampNeg) := Rnewa hB_139 dX7_init_128 rfl hn hF
set_option maxRecDepth 100000 in
theorem v139_130 {d : Nat} {ls : LS3} {st : List MV} {h : Hp} {a : A3} {o : Option A3} (hS : gS h a = (1, 7)) : Ev d 139 130 ls (vO o :: vR a :: st) h = Ev d 139 133 ls st (sR h a 18 o) := RputR hB_139 dX7_init_130 rfl rfl (by decide) hS
theorem v139_133 {d : Nat} {st : List MV} {h : Hp} {x : Option A3} : Ev d 139 133 [some (vO x)] st h = Ev d 139 134 [some (vO x)] (vO x :: st) h := Rnx (hB_139) (dX7_init_133) rfl
theorem v139_134 {d : Nat} {ls : LS3} {st : List MV} {h : Hp} : Ev d 139 134 ls st h = Ev d 139 136 ls (vI 60 :: st) h := Rnx (hB_139) (dX7_init_134) rfl
theorem v139_136 {d : Nat} {ls : LS3} {st : List MV} {h : Hp} {n : Int32} (hn : 0 ≤ n ∧ n.toNatClampNeg ≤ 100000) (hF : Fresh h) : Ev d 139 136 ls (vI n :: st) h = Ev d 139 138 ls (vR (nm (cnt h)) :: st) (mk h (nm (cnt h)) (3, n.toNatClampNeg) n.toNatClampNeg) := Rnewa hB_139 dX7_init_136 rfl hn hF
set_option maxRecDepth 100000 in
theorem v139_138 {d : Nat} {ls : LS3} {st : List MV} {h : Hp} {a : A3} {o : Option A3} (hS : gS h a = (1, 7)) : Ev d 139 138 ls (vO o :: vR a :: st) h = Ev d 139 141 ls st (sR h a 23 o) := RputR hB_139 dX7_init_138 rfl rfl (by decide) hS
theorem v139_141 {d : Nat} {st : List MV} {h : Hp} {x : Option A3} : Ev d 139 141 [some (vO x)] st h = Ev d 139 142 [some (vO x)] (vO x :: st) h := Rnx (hB_139) (dX7_init_141) rfl
theorem v139_142 {d : Nat} {ls : LS3} {st : List MV} {h : Hp} : Ev d 139 142 ls st h = Ev d 139 144 ls (vI 20 :: st) h := Rnx (hB_139) (dX7_init_142) rfl
theorem v139_144 {d : Nat} {ls : LS3} {st : List MV} {h : Hp} {n : Int32} (hn : 0 ≤ n ∧ n.toNatClampNeg ≤ 100000) (hF : Fresh h) : Ev d 139 144 ls (vI n :: st) h = Ev d 139 146 ls (vR (nm (cnt h)) :: st) (mk h (nm (cnt h)) (3, n.toNatClampNeg) n.toNatClampNeg) := Rnewa hB_139 dX7_init_144 rfl hn hF
set_option maxRecDepth 100000 in
theorem v139_146 {d : Nat} {ls : LS3} {st : List MV} {h : Hp} {a : A3} {o : Option A3} (hS : gS h a = (1, 7)) : Ev d 139 146 ls (vO o :: vR a :: st) h = Ev d 139 149 ls st (sR h a 24 o) := RputR hB_139 dX7_init_146 rfl rfl (by decide) hS
theorem v139_149 {d : Nat} {st : List MV} {h : Hp} {x : Option A3} : Ev d 139 149 [some (vO x)] st h = Ev d 139 150 [some (vO x)] (vO x :: st) h := Rnx (hB_139) (dX7_init_149) rfl
theorem v139_150 {d : Nat} {ls : LS3} {st : List MV} {h : Hp} : Ev d 139 150 ls st h = Ev d 139 152 ls (vI 80 :: st) h := Rnx (hB_139) (dX7_init_150) rfl
theorem v139_152 {d : Nat} {ls : LS3} {st : List MV} {h : Hp} {n : Int32} (hn : 0 ≤ n ∧ n.toNatClampNeg ≤ 100000) (hF : Fresh h) : Ev d 139 152 ls (vI n :: st) h = Ev d 139 154 ls (vR (nm (cnt h)) :: st) (mk h (nm (cnt h)) (2, n.toNatClampNeg) n.toNatClampNeg) := Rnewa hB_139 dX7_init_152 rfl hn hF
set_option maxRecDepth 100000 in
theorem v139_154 {d : Nat} {ls : LS3} {st : List MV} {h : Hp} {a : A3} {o : Option A3} (hS : gS h a = (1, 7)) : Ev d 139 154 ls (vO o :: vR a :: st) h = Ev d 139 157 ls st (sR h a 25 o) := RputR hB_139 dX7_init_154 rfl rfl (by decide) hS
theorem v139_157 {d : Nat} {st : List MV} {h : Hp} {x : Option A3} : Ev d 139 157 [some (vO x)] st h = Ev d 139 158 [some (vO x)] (vO x :: st) h := Rnx (hB_139) (dX7_init_157) rfl
theorem v139_158 {d : Nat} {ls : LS3} {st : List MV} {h : Hp} : Ev d 139 158 ls st h = Ev d 139 159 ls (vI (-1) :: st) h := Rnx (hB_139) (dX7_init_158) rfl
set_option maxRecDepth 100000 in
theorem v139_159 {d : Nat} {ls : LS3} {st : List MV} {h : Hp} {a : A3} {x : Int32} (hS : gS h a = (1, 7)) : Ev d 139 159 ls (vI x :: vR a :: st) h = Ev d 139 162 ls st (sI h a 29 x) := RputI hB_139 dX7_init_159 rfl rfl (by decide) hS (Or.inl rfl)
theorem v139_162 {d : Nat} {st : List MV} {h : Hp} {x : Option A3} : Ev d 139 162 [some (vO x)] st h = Ev d 139 163 [some (vO x)] (vO x :: st) h := Rnx (hB_139) (dX7_init_162) rfl
theorem v139_163 {d : Nat} {ls : LS3} {st : List MV} {h : Hp} : Ev d 139 163 ls st h = Ev d 139 166 ls (vI 9414 :: st) h := Rnx (hB_139) (dX7_init_163) rfl
theorem v139_166 {d : Nat} {ls : LS3} {st : List MV} {h : Hp} {n : Int32} (hn : 0 ≤ n ∧ n.toNatClampNeg ≤ 100000) (hF : Fresh h) : Ev d 139 166 ls (vI n :: st) h = Ev d 139 168 ls (vR (nm (cnt h)) :: st) (mk h (nm (cnt h)) (2, n.toNatClampNeg) n.toNatClampNeg) := Rnewa hB_139 dX7_init_166 rfl hn hF
set_option maxRecDepth 100000 in
theorem v139_168 {d : Nat} {ls : LS3} {st : List MV} {h : Hp} {a : A3} {o : Option A3} (hS : gS h a = (1, 7)) : Ev d 139 168 ls (vO o :: vR a :: st) h = Ev d 139 171 ls st (sR h a 30 o) := RputR hB_139 dX7_init_168 rfl rfl (by decide) hS
theorem v139_171 {d : Nat} {st : List MV} {h : Hp} {x : Option A3} : Ev d 139 171 [some (vO x)] st h = Ev d 139 172 [some (vO x)] (vO x :: st) h := Rnx (hB_139) (dX7_init_171) rfl
theorem v139_172 {d : Nat} {ls : LS3} {st : List MV} {h : Hp} : Ev d 139 172 ls st h = Ev d 139 175 ls (vI 1569 :: st) h := Rnx (hB_139) (dX7_init_172) rfl
theorem v139_175 {d : Nat} {ls : LS3} {st : List MV} {h : Hp} {n : Int32} (hn : 0 ≤ n ∧ n.toNatClampNeg ≤ 100000) (hF : Fresh h) : Ev d 139 175 ls (vI n :: st) h = Ev d 139 177 ls (vR (nm (cnt h)) :: st) (mk h (nm (cnt h)) (2, n.toNatClampNeg) n.toNatClampNeg) := Rnewa hB_139 dX7_init_175 rfl hn hF
set_option maxRecDepth 100000 in
theorem v139_177 {d : Nat} {ls : LS3} {st : List MV} {h : Hp} {a : A3} {o : Option A3} (hS : gS h a = (1, 7)) : Ev d 139 177 ls (vO o :: vR a :: st) h = Ev d 139 180 ls st (sR h a 31 o) := RputR hB_139 dX7_init_177 rfl rfl (by decide) hS
theorem v139_180 {d : Nat} {st : List MV} {h : Hp} {x : Option A3} : Ev d 139 180 [some (vO x)] st h = Ev d 139 181 [some (vO x)] (vO x :: st) h := Rnx (hB_139) (dX7_init_180) rfl
theorem v139_181 {d : Nat} {ls : LS3} {st : List MV} {h : Hp} : Ev d 139 181 ls st h = Ev d 139 184 ls (vI 1569 :: st) h := Rnx (hB_139) (dX7_init_181) rfl
theorem v139_184 {d : Nat} {ls : LS3} {st : List MV} {h : Hp} {n : Int32} (hn : 0 ≤ n ∧ n.toNatClampNeg ≤ 100000) (hF : Fresh h) : Ev d 139 184 ls (vI n :: st) h = Ev d 139 186 ls (vR (nm (cnt h)) :: st) (mk h (nm (cnt h)) (2, n.toNatClampNeg) n.toNatClampNeg) := Rnewa hB_139 dX7_init_184 rfl hn hF
set_option maxRecDepth 100000 in
theorem v139_186 {d : Nat} {ls : LS3} {st : List MV} {h : Hp} {a : A3} {o : Option A3} (hS : gS h a = (1, 7)) : Ev d 139 186 ls (vO o :: vR a :: st) h = Ev d 139 189 ls st (sR h a 32 o) := RputR hB_139 dX7_init_186 rfl rfl (by decide) hS
theorem v139_189 {d : Nat} {ls : LS3} {h : Hp} : Ev d 139 189 ls [] h = some (.inl none, h) := Rdn hB_139 dX7_init_189 rfl
theorem hB_140 : mB 140 = cX7_thrown := rfl
theorem v140_0 {d : Nat} {st : List MV} {h : Hp} {x : Option A3} : Ev d 140 0 [some (vO x)] st h = Ev d 140 1 [some (vO x)] (vO x :: st) h := Rnx (hB_140) (dX7_thrown_0) rfl
set_option maxRecDepth 100000 in
theorem v140_1 {d : Nat} {ls : LS3} {st : List MV} {h : Hp} {a : A3} (hS : gS h a = (1, 7)) : Ev d 140 1 ls (vR a :: st) h = Ev d 140 4 ls (vI (gI h a 0) :: st) h := Rget hB_140 dX7_thrown_1 rfl (Or.inl hS)
theorem v140_4 {d : Nat} {ls : LS3} {h : Hp} {x : Int32} : Ev d 140 4 ls [vI x] h = some (.inl (some (vI x)), h) := Rdn hB_140 dX7_thrown_4 rfl
theorem hB_141 : mB 141 = cX7_fails := rfl
theorem v141_0 {d : Nat} {st : List MV} {h : Hp} {x : Option A3} {a1 : Option MV} : Ev d 141 0 [some (vO x), a1] st h = Ev d 141 1 [some (vO x), a1] (vO x :: st) h := Rnx (hB_141) (dX7_fails_0) rfl
theorem v141_1 {d : Nat} {st : List MV} {h : Hp} {x : Int32} {a0 : Option MV} : Ev d 141 1 [a0, some (vI x)] st h = Ev d 141 2 [a0, some (vI x)] (vI x :: st) h := Rnx (hB_141) (dX7_fails_1) rfl
set_option maxRecDepth 100000 in
theorem v141_2 {d : Nat} {ls : LS3} {st : List MV} {h : Hp} {a : A3} {x : Int32} (hS : gS h a = (1, 7)) : Ev d 141 2 ls (vI x :: vR a :: st) h = Ev d 141 5 ls st (sI h a 0 x) := RputI hB_141 dX7_fails_2 rfl rfl (by decide) hS (Or.inl rfl)
theorem v141_5 {d : Nat} {ls : LS3} {st : List MV} {h : Hp} : Ev d 141 5 ls st h = Ev d 141 6 ls (vI 0 :: st) h := Rnx (hB_141) (dX7_fails_5) rfl
theorem v141_6 {d : Nat} {ls : LS3} {h : Hp} {x : Int32} : Ev d 141 6 ls [vI x] h = some (.inl (some (vI x)), h) := Rdn hB_141 dX7_fails_6 rfl
theorem hB_142 : mB 142 = cX7_refuses := rfl
theorem v142_0 {d : Nat} {st : List MV} {h : Hp} {x : Option A3} {a1 : Option MV} : Ev d 142 0 [some (vO x), a1] st h = Ev d 142 1 [some (vO x), a1] (vO x :: st) h := Rnx (hB_142) (dX7_refuses_0) rfl
theorem v142_1 {d : Nat} {st : List MV} {h : Hp} {x : Int32} {a0 : Option MV} : Ev d 142 1 [a0, some (vI x)] st h = Ev d 142 2 [a0, some (vI x)] (vI x :: st) h := Rnx (hB_142) (dX7_refuses_1) rfl
set_option maxRecDepth 100000 in
theorem v142_2 {d : Nat} {ls : LS3} {st : List MV} {h : Hp} {a : A3} {x : Int32} (hS : gS h a = (1, 7)) : Ev d 142 2 ls (vI x :: vR a :: st) h = Ev d 142 5 ls st (sI h a 0 x) := RputI hB_142 dX7_refuses_2 rfl rfl (by decide) hS (Or.inl rfl)
theorem v142_5 {d : Nat} {ls : LS3} {st : List MV} {h : Hp} : Ev d 142 5 ls st h = Ev d 142 6 ls (vI 0 :: st) h := Rnx (hB_142) (dX7_refuses_5) rfl
theorem v142_6 {d : Nat} {ls : LS3} {h : Hp} {x : Int32} (hx : x = 0 ∨ x = 1) : Ev d 142 6 ls [vI x] h = some (.inl (some (vI x)), h) := RretB hB_142 dX7_refuses_6 rfl hx
theorem hB_143 : mB 143 = cX7_isBetween := rfl
theorem v143_0 {d : Nat} {st : List MV} {h : Hp} {x : Int32} {a1 a2 : Option MV} : Ev d 143 0 [some (vI x), a1, a2] st h = Ev d 143 1 [some (vI x), a1, a2] (vI x :: st) h := Rnx (hB_143) (dX7_isBetween_0) rfl
theorem v143_1 {d : Nat} {st : List MV} {h : Hp} {x : Int32} {a0 a2 : Option MV} : Ev d 143 1 [a0, some (vI x), a2] st h = Ev d 143 2 [a0, some (vI x), a2] (vI x :: st) h := Rnx (hB_143) (dX7_isBetween_1) rfl
theorem v143_2 {d : Nat} {ls : LS3} {st : List MV} {h : Hp} {x y : Int32} : Ev d 143 2 ls (vI y :: vI x :: st) h = if x < y then Ev d 143 14 ls st h else Ev d 143 5 ls st h := Rif hB_143 dX7_isBetween_2 rfl
theorem v143_5 {d : Nat} {st : List MV} {h : Hp} {x : Int32} {a1 a2 : Option MV} : Ev d 143 5 [some (vI x), a1, a2] st h = Ev d 143 6 [some (vI x), a1, a2] (vI x :: st) h := Rnx (hB_143) (dX7_isBetween_5) rfl
theorem v143_6 {d : Nat} {st : List MV} {h : Hp} {x : Int32} {a0 a1 : Option MV} : Ev d 143 6 [a0, a1, some (vI x)] st h = Ev d 143 7 [a0, a1, some (vI x)] (vI x :: st) h := Rnx (hB_143) (dX7_isBetween_6) rfl
theorem v143_7 {d : Nat} {ls : LS3} {st : List MV} {h : Hp} {x y : Int32} : Ev d 143 7 ls (vI y :: vI x :: st) h = if y < x then Ev d 143 14 ls st h else Ev d 143 10 ls st h := Rif hB_143 dX7_isBetween_7 rfl
theorem v143_10 {d : Nat} {ls : LS3} {st : List MV} {h : Hp} : Ev d 143 10 ls st h = Ev d 143 11 ls (vI 1 :: st) h := Rnx (hB_143) (dX7_isBetween_10) rfl
theorem v143_11 {d : Nat} {ls : LS3} {st : List MV} {h : Hp} : Ev d 143 11 ls st h = Ev d 143 15 ls st h := Rnx (hB_143) (dX7_isBetween_11) rfl
theorem v143_14 {d : Nat} {ls : LS3} {st : List MV} {h : Hp} : Ev d 143 14 ls st h = Ev d 143 15 ls (vI 0 :: st) h := Rnx (hB_143) (dX7_isBetween_14) rfl
theorem v143_15 {d : Nat} {ls : LS3} {h : Hp} {x : Int32} (hx : x = 0 ∨ x = 1) : Ev d 143 15 ls [vI x] h = some (.inl (some (vI x)), h) := RretB hB_143 dX7_isBetween_15 rfl hx
theorem hB_144 : mB 144 = cX7_bits := rfl
theorem v144_0 {d : Nat} {ls : LS3} {st : List MV} {h : Hp} : Ev d 144 0 ls st h = Ev d 144 1 ls (vI 0 :: st) h := Rnx (hB_144) (dX7_bits_0) rfl
theorem v144_1 {d : Nat} {st : List MV} {h : Hp} {x : Int32} {a0 a1 a2 : Option MV} : Ev d 144 1 [a0, a1, a2] (vI x :: st) h = Ev d 144 2 [a0, some (vI x), a2] st h := Rnx (hB_144) (dX7_bits_1) rfl
theorem v144_2 {d : Nat} {ls : LS3} {st : List MV} {h : Hp} : Ev d 144 2 ls st h = Ev d 144 3 ls (vI 0 :: st) h := Rnx (hB_144) (dX7_bits_2) rfl
theorem v144_3 {d : Nat} {st : List MV} {h : Hp} {x : Int32} {a0 a1 a2 : Option MV} : Ev d 144 3 [a0, a1, a2] (vI x :: st) h = Ev d 144 4 [a0, a1, some (vI x)] st h := Rnx (hB_144) (dX7_bits_3) rfl
theorem v144_4 {d : Nat} {st : List MV} {h : Hp} {x : Int32} {a0 a1 : Option MV} : Ev d 144 4 [a0, a1, some (vI x)] st h = Ev d 144 5 [a0, a1, some (vI x)] (vI x :: st) h := Rnx (hB_144) (dX7_bits_4) rfl
theorem v144_5 {d : Nat} {ls : LS3} {st : List MV} {h : Hp} : Ev d 144 5 ls st h = Ev d 144 7 ls (vI 20 :: st) h := Rnx (hB_144) (dX7_bits_5) rfl
theorem v144_7 {d : Nat} {ls : LS3} {st : List MV} {h : Hp} {x y : Int32} : Ev d 144 7 ls (vI y :: vI x :: st) h = if y ≤ x then Ev d 144 24 ls st h else Ev d 144 10 ls st h := Rif hB_144 dX7_bits_7 rfl
theorem v144_10 {d : Nat} {st : List MV} {h : Hp} {x : Int32} {a0 a2 : Option MV} : Ev d 144 10 [a0, some (vI x), a2] st h = Ev d 144 11 [a0, some (vI x), a2] (vI x :: st) h := Rnx (hB_144) (dX7_bits_10) rfl
theorem v144_11 {d : Nat} {st : List MV} {h : Hp} {x : Int32} {a1 a2 : Option MV} : Ev d 144 11 [some (vI x), a1, a2] st h = Ev d 144 12 [some (vI x), a1, a2] (vI x :: st) h := Rnx (hB_144) (dX7_bits_11) rfl
theorem v144_12 {d : Nat} {st : List MV} {h : Hp} {x : Int32} {a0 a1 : Option MV} : Ev d 144 12 [a0, a1, some (vI x)] st h = Ev d 144 13 [a0, a1, some (vI x)] (vI x :: st) h := Rnx (hB_144) (dX7_bits_12) rfl
theorem v144_13 {d : Nat} {ls : LS3} {st : List MV} {h : Hp} {x y : Int32} : Ev d 144 13 ls (vI y :: vI x :: st) h = Ev d 144 14 ls (vI (x >>> (y &&& 31)) :: st) h := Rnx (hB_144) (dX7_bits_13) rfl
theorem v144_14 {d : Nat} {ls : LS3} {st : List MV} {h : Hp} : Ev d 144 14 ls st h = Ev d 144 15 ls (vI 1 :: st) h := Rnx (hB_144) (dX7_bits_14) rfl
theorem v144_15 {d : Nat} {ls : LS3} {st : List MV} {h : Hp} {x y : Int32} : Ev d 144 15 ls (vI y :: vI x :: st) h = Ev d 144 16 ls (vI (x &&& y) :: st) h := Rnx (hB_144) (dX7_bits_15) rfl
theorem v144_16 {d : Nat} {ls : LS3} {st : List MV} {h : Hp} {x y : Int32} : Ev d 144 16 ls (vI y :: vI x :: st) h = Ev d 144 17 ls (vI (x + y) :: st) h := Rnx (hB_144) (dX7_bits_16) rfl
theorem v144_17 {d : Nat} {st : List MV} {h : Hp} {x : Int32} {a0 a1 a2 : Option MV} : Ev d 144 17 [a0, a1, a2] (vI x :: st) h = Ev d 144 18 [a0, some (vI x), a2] st h := Rnx (hB_144) (dX7_bits_17) rfl
theorem v144_18 {d : Nat} {st : List MV} {h : Hp} {x : Int32} {a0 a1 : Option MV} : Ev d 144 18 [a0, a1, some (vI x)] st h = Ev d 144 21 [a0, a1, some (vI (x + 1))] st h := Rnx (hB_144) (dX7_bits_18) rfl
theorem v144_21 {d : Nat} {ls : LS3} {st : List MV} {h : Hp} : Ev d 144 21 ls st h = Ev d 144 4 ls st h := Rnx (hB_144) (dX7_bits_21) rfl
theorem v144_24 {d : Nat} {st : List MV} {h : Hp} {x : Int32} {a0 a2 : Option MV} : Ev d 144 24 [a0, some (vI x), a2] st h = Ev d 144 25 [a0, some (vI x), a2] (vI x :: st) h := Rnx (hB_144) (dX7_bits_24) rfl
theorem v144_25 {d : Nat} {ls : LS3} {h : Hp} {x : Int32} : Ev d 144 25 ls [vI x] h = some (.inl (some (vI x)), h) := Rdn hB_144 dX7_bits_25 rfl
theorem hB_145 : mB 145 = cX7_isPerson := rfl
theorem v145_0 {d : Nat} {st : List MV} {h : Hp} {x : Int32} {a0 : Option MV} : Ev d 145 0 [a0, some (vI x)] st h = Ev d 145 1 [a0, some (vI x)] (vI x :: st) h := Rnx (hB_145) (dX7_isPerson_0) rfl
theorem v145_1 {d : Nat} {ls : LS3} {st : List MV} {h : Hp} {x : Int32} : Ev d 145 1 ls (vI x :: st) h = if x < 0 then Ev d 145 16 ls st h else Ev d 145 4 ls st h := Rif hB_145 dX7_isPerson_1 rfl
theorem v145_4 {d : Nat} {st : List MV} {h : Hp} {x : Int32} {a0 : Option MV} : Ev d 145 4 [a0, some (vI x)] st h = Ev d 145 5 [a0, some (vI x)] (vI x :: st) h := Rnx (hB_145) (dX7_isPerson_4) rfl
theorem v145_5 {d : Nat} {st : List MV} {h : Hp} {x : Option A3} {a1 : Option MV} : Ev d 145 5 [some (vO x), a1] st h = Ev d 145 6 [some (vO x), a1] (vO x :: st) h := Rnx (hB_145) (dX7_isPerson_5) rfl
set_option maxRecDepth 100000 in
theorem v145_6 {d : Nat} {ls : LS3} {st : List MV} {h : Hp} {a : A3} (hS : gS h a = (1, 7)) : Ev d 145 6 ls (vR a :: st) h = Ev d 145 9 ls (vI (gI h a 7) :: st) h := Rget hB_145 dX7_isPerson_6 rfl (Or.inl hS)
theorem v145_9 {d : Nat} {ls : LS3} {st : List MV} {h : Hp} {x y : Int32} : Ev d 145 9 ls (vI y :: vI x :: st) h = if y ≤ x then Ev d 145 16 ls st h else Ev d 145 12 ls st h := Rif hB_145 dX7_isPerson_9 rfl
theorem v145_12 {d : Nat} {ls : LS3} {st : List MV} {h : Hp} : Ev d 145 12 ls st h = Ev d 145 13 ls (vI 1 :: st) h := Rnx (hB_145) (dX7_isPerson_12) rfl
theorem v145_13 {d : Nat} {ls : LS3} {st : List MV} {h : Hp} : Ev d 145 13 ls st h = Ev d 145 17 ls st h := Rnx (hB_145) (dX7_isPerson_13) rfl
theorem v145_16 {d : Nat} {ls : LS3} {st : List MV} {h : Hp} : Ev d 145 16 ls st h = Ev d 145 17 ls (vI 0 :: st) h := Rnx (hB_145) (dX7_isPerson_16) rfl
theorem v145_17 {d : Nat} {ls : LS3} {h : Hp} {x : Int32} (hx : x = 0 ∨ x = 1) : Ev d 145 17 ls [vI x] h = some (.inl (some (vI x)), h) := RretB hB_145 dX7_isPerson_17 rfl hx
theorem hB_146 : mB 146 = cX7_isDay := rfl
theorem v146_0 {d : Nat} {st : List MV} {h : Hp} {x : Int32} : Ev d 146 0 [some (vI x)] st h = Ev d 146 1 [some (vI x)] (vI x :: st) h := Rnx (hB_146) (dX7_isDay_0) rfl
theorem v146_1 {d : Nat} {ls : LS3} {st : List MV} {h : Hp} : Ev d 146 1 ls st h = Ev d 146 2 ls (vI 0 :: st) h := Rnx (hB_146) (dX7_isDay_1) rfl
theorem v146_2 {d : Nat} {ls : LS3} {st : List MV} {h : Hp} : Ev d 146 2 ls st h = Ev d 146 5 ls (vI 400 :: st) h := Rnx (hB_146) (dX7_isDay_2) rfl
set_option maxRecDepth 100000 in
theorem v146_5 {d : Nat} {ls : LS3} {st : List MV} {h : Hp} {x0 : Int32} {x1 : Int32} {x2 : Int32} (hc : catS st ≤ 8) : Ev (d + 1) 146 5 ls (vI x2 :: vI x1 :: vI x0 :: st) h = Evk 143 (d + 1) 146 5 ls st (Ev d 143 0 [some (vI x0), some (vI x1), some (vI x2)] [] h) := RcallS (idx := 87) (n := 3) (kd := 1) (As := [vI x0, vI x1, vI x2]) hB_146 dX7_isDay_5 rfl rfl (by decide) rfl rfl rfl hc
theorem v146_8 {d : Nat} {ls : LS3} {h : Hp} {x : Int32} (hx : x = 0 ∨ x = 1) : Ev d 146 8 ls [vI x] h = some (.inl (some (vI x)), h) := RretB hB_146 dX7_isDay_8 rfl hx
theorem hB_147 : mB 147 = cX7_busyOn := rfl
theorem v147_0 {d : Nat} {st : List MV} {h : Hp} {x : Option A3} {a1 a2 : Option MV} : Ev d 147 0 [some (vO x), a1, a2] st h = Ev d 147 1 [some (vO x), a1, a2] (vO x :: st) h := Rnx (hB_147) (dX7_busyOn_0) rfl
set_option maxRecDepth 100000 in
theorem v147_1 {d : Nat} {ls : LS3} {st : List MV} {h : Hp} {a : A3} (hS : gS h a = (1, 7)) : Ev d 147 1 ls (vR a :: st) h = Ev d 147 4 ls (vO (gR h a 6) :: st) h := Rget hB_147 dX7_busyOn_1 rfl (Or.inl hS)
theorem v147_4 {d : Nat} {ls : LS3} {st : List MV} {h : Hp} : Ev d 147 4 ls st h = Ev d 147 6 ls (vI 101 :: st) h := Rnx (hB_147) (dX7_busyOn_4) rfl
theorem v147_6 {d : Nat} {st : List MV} {h : Hp} {x : Int32} {a0 a2 : Option MV} : Ev d 147 6 [a0, some (vI x), a2] st h = Ev d 147 7 [a0, some (vI x), a2] (vI x :: st) h := Rnx (hB_147) (dX7_busyOn_6) rfl
theorem v147_7 {d : Nat} {ls : LS3} {st : List MV} {h : Hp} {x y : Int32} : Ev d 147 7 ls (vI y :: vI x :: st) h = Ev d 147 8 ls (vI (x * y) :: st) h := Rnx (hB_147) (dX7_busyOn_7) rfl
theorem v147_8 {d : Nat} {st : List MV} {h : Hp} {x : Int32} {a0 a1 : Option MV} : Ev d 147 8 [a0, a1, some (vI x)] st h = Ev d 147 9 [a0, a1, some (vI x)] (vI x :: st) h := Rnx (hB_147) (dX7_busyOn_8) rfl
theorem v147_9 {d : Nat} {ls : LS3} {st : List MV} {h : Hp} : Ev d 147 9 ls st h = Ev d 147 10 ls (vI 4 :: st) h := Rnx (hB_147) (dX7_busyOn_9) rfl
theorem v147_10 {d : Nat} {ls : LS3} {st : List MV} {h : Hp} {x y : Int32} (hy : y ≠ 0) : Ev d 147 10 ls (vI y :: vI x :: st) h = Ev d 147 11 ls (vI (x / y) :: st) h := Rdiv hB_147 dX7_busyOn_10 hy
theorem v147_11 {d : Nat} {ls : LS3} {st : List MV} {h : Hp} {x y : Int32} : Ev d 147 11 ls (vI y :: vI x :: st) h = Ev d 147 12 ls (vI (x + y) :: st) h := Rnx (hB_147) (dX7_busyOn_11) rfl
theorem v147_12 {d : Nat} {ls : LS3} {st : List MV} {h : Hp} {a : A3} {j : Int32} (hS : (gS h a).1 ∈ [2, 9]) (hj : inB j (gS h a).2) : Ev d 147 12 ls (vI j :: vR a :: st) h = Ev d 147 13 ls (vI (gI h a j.toNatClampNeg) :: st) h := Rald (ks := [2, 9]) (f := fun a j => vI (gI h a j)) hB_147 dX7_busyOn_12 rfl hS hj
theorem v147_13 {d : Nat} {ls : LS3} {st : List MV} {h : Hp} : Ev d 147 13 ls st h = Ev d 147 15 ls (vI 8 :: st) h := Rnx (hB_147) (dX7_busyOn_13) rfl
theorem v147_15 {d : Nat} {st : List MV} {h : Hp} {x : Int32} {a0 a1 : Option MV} : Ev d 147 15 [a0, a1, some (vI x)] st h = Ev d 147 16 [a0, a1, some (vI x)] (vI x :: st) h := Rnx (hB_147) (dX7_busyOn_15) rfl
theorem v147_16 {d : Nat} {ls : LS3} {st : List MV} {h : Hp} : Ev d 147 16 ls st h = Ev d 147 17 ls (vI 4 :: st) h := Rnx (hB_147) (dX7_busyOn_16) rfl
theorem v147_17 {d : Nat} {ls : LS3} {st : List MV} {h : Hp} {x y : Int32} (hy : y ≠ 0) : Ev d 147 17 ls (vI y :: vI x :: st) h = Ev d 147 18 ls (vI (x - x / y * y) :: st) h := Rrem hB_147 dX7_busyOn_17 hy
theorem v147_18 {d : Nat} {ls : LS3} {st : List MV} {h : Hp} {x y : Int32} : Ev d 147 18 ls (vI y :: vI x :: st) h = Ev d 147 19 ls (vI (x * y) :: st) h := Rnx (hB_147) (dX7_busyOn_18) rfl
theorem v147_19 {d : Nat} {ls : LS3} {st : List MV} {h : Hp} {x y : Int32} : Ev d 147 19 ls (vI y :: vI x :: st) h = Ev d 147 20 ls (vI (x >>> (y &&& 31)) :: st) h := Rnx (hB_147) (dX7_busyOn_19) rfl
theorem v147_20 {d : Nat} {ls : LS3} {st : List MV} {h : Hp} : Ev d 147 20 ls st h = Ev d 147 23 ls (vI 255 :: st) h := Rnx (hB_147) (dX7_busyOn_20) rfl
theorem v147_23 {d : Nat} {ls : LS3} {st : List MV} {h : Hp} {x y : Int32} : Ev d 147 23 ls (vI y :: vI x :: st) h = Ev d 147 24 ls (vI (x &&& y) :: st) h := Rnx (hB_147) (dX7_busyOn_23) rfl
theorem v147_24 {d : Nat} {ls : LS3} {h : Hp} {x : Int32} : Ev d 147 24 ls [vI x] h = some (.inl (some (vI x)), h) := Rdn hB_147 dX7_busyOn_24 rfl
theorem hB_148 : mB 148 = cX7_areApart := rfl
theorem v148_0 {d : Nat} {st : List MV} {h : Hp} {x : Option A3} {a1 a2 : Option MV} : Ev d 148 0 [some (vO x), a1, a2] st h = Ev d 148 1 [some (vO x), a1, a2] (vO x :: st) h := Rnx (hB_148) (dX7_areApart_0) rfl
set_option maxRecDepth 100000 in
theorem v148_1 {d : Nat} {ls : LS3} {st : List MV} {h : Hp} {a : A3} (hS : gS h a = (1, 7)) : Ev d 148 1 ls (vR a :: st) h = Ev d 148 4 ls (vO (gR h a 5) :: st) h := Rget hB_148 dX7_areApart_1 rfl (Or.inl hS)
theorem v148_4 {d : Nat} {st : List MV} {h : Hp} {x : Int32} {a0 a2 : Option MV} : Ev d 148 4 [a0, some (vI x), a2] st h = Ev d 148 5 [a0, some (vI x), a2] (vI x :: st) h := Rnx (hB_148) (dX7_areApart_4) rfl
theorem v148_5 {d : Nat} {ls : LS3} {st : List MV} {h : Hp} {a : A3} {j : Int32} (hS : (gS h a).1 ∈ [2, 9]) (hj : inB j (gS h a).2) : Ev d 148 5 ls (vI j :: vR a :: st) h = Ev d 148 6 ls (vI (gI h a j.toNatClampNeg) :: st) h := Rald (ks := [2, 9]) (f := fun a j => vI (gI h a j)) hB_148 dX7_areApart_5 rfl hS hj
theorem v148_6 {d : Nat} {st : List MV} {h : Hp} {x : Int32} {a0 a1 : Option MV} : Ev d 148 6 [a0, a1, some (vI x)] st h = Ev d 148 7 [a0, a1, some (vI x)] (vI x :: st) h := Rnx (hB_148) (dX7_areApart_6) rfl
theorem v148_7 {d : Nat} {ls : LS3} {st : List MV} {h : Hp} {x y : Int32} : Ev d 148 7 ls (vI y :: vI x :: st) h = Ev d 148 8 ls (vI (x >>> (y &&& 31)) :: st) h := Rnx (hB_148) (dX7_areApart_7) rfl
theorem v148_8 {d : Nat} {ls : LS3} {st : List MV} {h : Hp} : Ev d 148 8 ls st h = Ev d 148 9 ls (vI 1 :: st) h := Rnx (hB_148) (dX7_areApart_8) rfl
theorem v148_9 {d : Nat} {ls : LS3} {st : List MV} {h : Hp} {x y : Int32} : Ev d 148 9 ls (vI y :: vI x :: st) h = Ev d 148 10 ls (vI (x &&& y) :: st) h := Rnx (hB_148) (dX7_areApart_9) rfl
theorem v148_10 {d : Nat} {ls : LS3} {st : List MV} {h : Hp} {x : Int32} : Ev d 148 10 ls (vI x :: st) h = if x = 0 then Ev d 148 13 ls st h else Ev d 148 17 ls st h := Rifn hB_148 dX7_areApart_10 rfl
theorem v148_13 {d : Nat} {ls : LS3} {st : List MV} {h : Hp} : Ev d 148 13 ls st h = Ev d 148 14 ls (vI 1 :: st) h := Rnx (hB_148) (dX7_areApart_13) rfl
theorem v148_14 {d : Nat} {ls : LS3} {st : List MV} {h : Hp} : Ev d 148 14 ls st h = Ev d 148 18 ls st h := Rnx (hB_148) (dX7_areApart_14) rfl
theorem v148_17 {d : Nat} {ls : LS3} {st : List MV} {h : Hp} : Ev d 148 17 ls st h = Ev d 148 18 ls (vI 0 :: st) h := Rnx (hB_148) (dX7_areApart_17) rfl
theorem v148_18 {d : Nat} {ls : LS3} {h : Hp} {x : Int32} (hx : x = 0 ∨ x = 1) : Ev d 148 18 ls [vI x] h = some (.inl (some (vI x)), h) := RretB hB_148 dX7_areApart_18 rfl hx
theorem hB_149 : mB 149 = cX7_isThesis := rfl
theorem v149_0 {d : Nat} {st : List MV} {h : Hp} {x : Int32} {a0 : Option MV} : Ev d 149 0 [a0, some (vI x)] st h = Ev d 149 1 [a0, some (vI x)] (vI x :: st) h := Rnx (hB_149) (dX7_isThesis_0) rfl
theorem v149_1 {d : Nat} {ls : LS3} {st : List MV} {h : Hp} {x : Int32} : Ev d 149 1 ls (vI x :: st) h = if x < 0 then Ev d 149 16 ls st h else Ev d 149 4 ls st h := Rif hB_149 dX7_isThesis_1 rfl
theorem v149_4 {d : Nat} {st : List MV} {h : Hp} {x : Int32} {a0 : Option MV} : Ev d 149 4 [a0, some (vI x)] st h = Ev d 149 5 [a0, some (vI x)] (vI x :: st) h := Rnx (hB_149) (dX7_isThesis_4) rfl
theorem v149_5 {d : Nat} {st : List MV} {h : Hp} {x : Option A3} {a1 : Option MV} : Ev d 149 5 [some (vO x), a1] st h = Ev d 149 6 [some (vO x), a1] (vO x :: st) h := Rnx (hB_149) (dX7_isThesis_5) rfl
set_option maxRecDepth 100000 in
theorem v149_6 {d : Nat} {ls : LS3} {st : List MV} {h : Hp} {a : A3} (hS : gS h a = (1, 7)) : Ev d 149 6 ls (vR a :: st) h = Ev d 149 9 ls (vI (gI h a 19) :: st) h := Rget hB_149 dX7_isThesis_6 rfl (Or.inl hS)
theorem v149_9 {d : Nat} {ls : LS3} {st : List MV} {h : Hp} {x y : Int32} : Ev d 149 9 ls (vI y :: vI x :: st) h = if y ≤ x then Ev d 149 16 ls st h else Ev d 149 12 ls st h := Rif hB_149 dX7_isThesis_9 rfl
theorem v149_12 {d : Nat} {ls : LS3} {st : List MV} {h : Hp} : Ev d 149 12 ls st h = Ev d 149 13 ls (vI 1 :: st) h := Rnx (hB_149) (dX7_isThesis_12) rfl
theorem v149_13 {d : Nat} {ls : LS3} {st : List MV} {h : Hp} : Ev d 149 13 ls st h = Ev d 149 17 ls st h := Rnx (hB_149) (dX7_isThesis_13) rfl
theorem v149_16 {d : Nat} {ls : LS3} {st : List MV} {h : Hp} : Ev d 149 16 ls st h = Ev d 149 17 ls (vI 0 :: st) h := Rnx (hB_149) (dX7_isThesis_16) rfl
theorem v149_17 {d : Nat} {ls : LS3} {h : Hp} {x : Int32} (hx : x = 0 ∨ x = 1) : Ev d 149 17 ls [vI x] h = some (.inl (some (vI x)), h) := RretB hB_149 dX7_isThesis_17 rfl hx
theorem hB_150 : mB 150 = cX7_isMember := rfl
theorem v150_0 {d : Nat} {st : List MV} {h : Hp} {x : Option A3} {a1 a2 : Option MV} : Ev d 150 0 [some (vO x), a1, a2] st h = Ev d 150 1 [some (vO x), a1, a2] (vO x :: st) h := Rnx (hB_150) (dX7_isMember_0) rfl
set_option maxRecDepth 100000 in
theorem v150_1 {d : Nat} {ls : LS3} {st : List MV} {h : Hp} {a : A3} (hS : gS h a = (1, 7)) : Ev d 150 1 ls (vR a :: st) h = Ev d 150 4 ls (vO (gR h a 14) :: st) h := Rget hB_150 dX7_isMember_1 rfl (Or.inl hS)
theorem v150_4 {d : Nat} {st : List MV} {h : Hp} {x : Int32} {a0 a2 : Option MV} : Ev d 150 4 [a0, some (vI x), a2] st h = Ev d 150 5 [a0, some (vI x), a2] (vI x :: st) h := Rnx (hB_150) (dX7_isMember_4) rfl
theorem v150_5 {d : Nat} {ls : LS3} {st : List MV} {h : Hp} {a : A3} {j : Int32} (hS : (gS h a).1 ∈ [2, 9]) (hj : inB j (gS h a).2) : Ev d 150 5 ls (vI j :: vR a :: st) h = Ev d 150 6 ls (vI (gI h a j.toNatClampNeg) :: st) h := Rald (ks := [2, 9]) (f := fun a j => vI (gI h a j)) hB_150 dX7_isMember_5 rfl hS hj
theorem v150_6 {d : Nat} {st : List MV} {h : Hp} {x : Int32} {a0 a1 : Option MV} : Ev d 150 6 [a0, a1, some (vI x)] st h = Ev d 150 7 [a0, a1, some (vI x)] (vI x :: st) h := Rnx (hB_150) (dX7_isMember_6) rfl
theorem v150_7 {d : Nat} {ls : LS3} {st : List MV} {h : Hp} {x y : Int32} : Ev d 150 7 ls (vI y :: vI x :: st) h = Ev d 150 8 ls (vI (x >>> (y &&& 31)) :: st) h := Rnx (hB_150) (dX7_isMember_7) rfl
theorem v150_8 {d : Nat} {ls : LS3} {st : List MV} {h : Hp} : Ev d 150 8 ls st h = Ev d 150 9 ls (vI 1 :: st) h := Rnx (hB_150) (dX7_isMember_8) rfl
theorem v150_9 {d : Nat} {ls : LS3} {st : List MV} {h : Hp} {x y : Int32} : Ev d 150 9 ls (vI y :: vI x :: st) h = Ev d 150 10 ls (vI (x &&& y) :: st) h := Rnx (hB_150) (dX7_isMember_9) rfl
theorem v150_10 {d : Nat} {ls : LS3} {st : List MV} {h : Hp} : Ev d 150 10 ls st h = Ev d 150 11 ls (vI 1 :: st) h := Rnx (hB_150) (dX7_isMember_10) rfl
theorem v150_11 {d : Nat} {ls : LS3} {st : List MV} {h : Hp} {x y : Int32} : Ev d 150 11 ls (vI y :: vI x :: st) h = if x = y then Ev d 150 14 ls st h else Ev d 150 18 ls st h := Rifn hB_150 dX7_isMember_11 rfl
theorem v150_14 {d : Nat} {ls : LS3} {st : List MV} {h : Hp} : Ev d 150 14 ls st h = Ev d 150 15 ls (vI 1 :: st) h := Rnx (hB_150) (dX7_isMember_14) rfl
theorem v150_15 {d : Nat} {ls : LS3} {st : List MV} {h : Hp} : Ev d 150 15 ls st h = Ev d 150 19 ls st h := Rnx (hB_150) (dX7_isMember_15) rfl
theorem v150_18 {d : Nat} {ls : LS3} {st : List MV} {h : Hp} : Ev d 150 18 ls st h = Ev d 150 19 ls (vI 0 :: st) h := Rnx (hB_150) (dX7_isMember_18) rfl
theorem v150_19 {d : Nat} {ls : LS3} {h : Hp} {x : Int32} (hx : x = 0 ∨ x = 1) : Ev d 150 19 ls [vI x] h = some (.inl (some (vI x)), h) := RretB hB_150 dX7_isMember_19 rfl hx
theorem hB_151 : mB 151 = cX7_isPlaced := rfl
theorem v151_0 {d : Nat} {st : List MV} {h : Hp} {x : Option A3} {a1 : Option MV} : Ev d 151 0 [some (vO x), a1] st h = Ev d 151 1 [some (vO x), a1] (vO x :: st) h := Rnx (hB_151) (dX7_isPlaced_0) rfl
set_option maxRecDepth 100000 in
theorem v151_1 {d : Nat} {ls : LS3} {st : List MV} {h : Hp} {a : A3} (hS : gS h a = (1, 7)) : Ev d 151 1 ls (vR a :: st) h = Ev d 151 4 ls (vO (gR h a 15) :: st) h := Rget hB_151 dX7_isPlaced_1 rfl (Or.inl hS)
theorem v151_4 {d : Nat} {st : List MV} {h : Hp} {x : Int32} {a0 : Option MV} : Ev d 151 4 [a0, some (vI x)] st h = Ev d 151 5 [a0, some (vI x)] (vI x :: st) h := Rnx (hB_151) (dX7_isPlaced_4) rfl
theorem v151_5 {d : Nat} {ls : LS3} {st : List MV} {h : Hp} {a : A3} {j : Int32} (hS : (gS h a).1 ∈ [2, 9]) (hj : inB j (gS h a).2) : Ev d 151 5 ls (vI j :: vR a :: st) h = Ev d 151 6 ls (vI (gI h a j.toNatClampNeg) :: st) h := Rald (ks := [2, 9]) (f := fun a j => vI (gI h a j)) hB_151 dX7_isPlaced_5 rfl hS hj
theorem v151_6 {d : Nat} {ls : LS3} {st : List MV} {h : Hp} {x : Int32} : Ev d 151 6 ls (vI x :: st) h = if x < 0 then Ev d 151 13 ls st h else Ev d 151 9 ls st h := Rif hB_151 dX7_isPlaced_6 rfl
theorem v151_9 {d : Nat} {ls : LS3} {st : List MV} {h : Hp} : Ev d 151 9 ls st h = Ev d 151 10 ls (vI 1 :: st) h := Rnx (hB_151) (dX7_isPlaced_9) rfl
theorem v151_10 {d : Nat} {ls : LS3} {st : List MV} {h : Hp} : Ev d 151 10 ls st h = Ev d 151 14 ls st h := Rnx (hB_151) (dX7_isPlaced_10) rfl
theorem v151_13 {d : Nat} {ls : LS3} {st : List MV} {h : Hp} : Ev d 151 13 ls st h = Ev d 151 14 ls (vI 0 :: st) h := Rnx (hB_151) (dX7_isPlaced_13) rfl
theorem v151_14 {d : Nat} {ls : LS3} {h : Hp} {x : Int32} (hx : x = 0 ∨ x = 1) : Ev d 151 14 ls [vI x] h = some (.inl (some (vI x)), h) := RretB hB_151 dX7_isPlaced_14 rfl hx
theorem hB_152 : mB 152 = cX7_isDefended := rfl
theorem v152_0 {d : Nat} {st : List MV} {h : Hp} {x : Option A3} {a1 : Option MV} : Ev d 152 0 [some (vO x), a1] st h = Ev d 152 1 [some (vO x), a1] (vO x :: st) h := Rnx (hB_152) (dX7_isDefended_0) rfl
set_option maxRecDepth 100000 in
theorem v152_1 {d : Nat} {ls : LS3} {st : List MV} {h : Hp} {a : A3} (hS : gS h a = (1, 7)) : Ev d 152 1 ls (vR a :: st) h = Ev d 152 4 ls (vO (gR h a 13) :: st) h := Rget hB_152 dX7_isDefended_1 rfl (Or.inl hS)
theorem v152_4 {d : Nat} {st : List MV} {h : Hp} {x : Int32} {a0 : Option MV} : Ev d 152 4 [a0, some (vI x)] st h = Ev d 152 5 [a0, some (vI x)] (vI x :: st) h := Rnx (hB_152) (dX7_isDefended_4) rfl
theorem v152_5 {d : Nat} {ls : LS3} {st : List MV} {h : Hp} {a : A3} {j : Int32} (hS : (gS h a).1 ∈ [2, 9]) (hj : inB j (gS h a).2) : Ev d 152 5 ls (vI j :: vR a :: st) h = Ev d 152 6 ls (vI (gI h a j.toNatClampNeg) :: st) h := Rald (ks := [2, 9]) (f := fun a j => vI (gI h a j)) hB_152 dX7_isDefended_5 rfl hS hj
theorem v152_6 {d : Nat} {ls : LS3} {st : List MV} {h : Hp} : Ev d 152 6 ls st h = Ev d 152 7 ls (vI 4 :: st) h := Rnx (hB_152) (dX7_isDefended_6) rfl
theorem v152_7 {d : Nat} {ls : LS3} {st : List MV} {h : Hp} {x y : Int32} : Ev d 152 7 ls (vI y :: vI x :: st) h = if x = y then Ev d 152 10 ls st h else Ev d 152 14 ls st h := Rifn hB_152 dX7_isDefended_7 rfl
theorem v152_10 {d : Nat} {ls : LS3} {st : List MV} {h : Hp} : Ev d 152 10 ls st h = Ev d 152 11 ls (vI 1 :: st) h := Rnx (hB_152) (dX7_isDefended_10) rfl
theorem v152_11 {d : Nat} {ls : LS3} {st : List MV} {h : Hp} : Ev d 152 11 ls st h = Ev d 152 15 ls st h := Rnx (hB_152) (dX7_isDefended_11) rfl
theorem v152_14 {d : Nat} {ls : LS3} {st : List MV} {h : Hp} : Ev d 152 14 ls st h = Ev d 152 15 ls (vI 0 :: st) h := Rnx (hB_152) (dX7_isDefended_14) rfl
theorem v152_15 {d : Nat} {ls : LS3} {h : Hp} {x : Int32} (hx : x = 0 ∨ x = 1) : Ev d 152 15 ls [vI x] h = some (.inl (some (vI x)), h) := RretB hB_152 dX7_isDefended_15 rfl hx
theorem hB_153 : mB 153 = cX7_needed := rfl
theorem v153_0 {d : Nat} {ls : LS3} {st : List MV} {h : Hp} : Ev d 153 0 ls st h = Ev d 153 3 ls (vO (gR h (51, 0, 0) 2) :: st) h := Rnx (hB_153) (dX7_needed_0) rfl
theorem v153_3 {d : Nat} {ls : LS3} {st : List MV} {h : Hp} : Ev d 153 3 ls st h = Ev d 153 4 ls (vI 5 :: st) h := Rnx (hB_153) (dX7_needed_3) rfl
theorem v153_4 {d : Nat} {st : List MV} {h : Hp} {x : Option A3} {a1 a2 : Option MV} : Ev d 153 4 [some (vO x), a1, a2] st h = Ev d 153 5 [some (vO x), a1, a2] (vO x :: st) h := Rnx (hB_153) (dX7_needed_4) rfl
set_option maxRecDepth 100000 in
theorem v153_5 {d : Nat} {ls : LS3} {st : List MV} {h : Hp} {a : A3} (hS : gS h a = (1, 7)) : Ev d 153 5 ls (vR a :: st) h = Ev d 153 8 ls (vO (gR h a 9) :: st) h := Rget hB_153 dX7_needed_5 rfl (Or.inl hS)
theorem v153_8 {d : Nat} {st : List MV} {h : Hp} {x : Int32} {a0 a2 : Option MV} : Ev d 153 8 [a0, some (vI x), a2] st h = Ev d 153 9 [a0, some (vI x), a2] (vI x :: st) h := Rnx (hB_153) (dX7_needed_8) rfl
theorem v153_9 {d : Nat} {ls : LS3} {st : List MV} {h : Hp} {a : A3} {j : Int32} (hS : (gS h a).1 ∈ [2, 9]) (hj : inB j (gS h a).2) : Ev d 153 9 ls (vI j :: vR a :: st) h = Ev d 153 10 ls (vI (gI h a j.toNatClampNeg) :: st) h := Rald (ks := [2, 9]) (f := fun a j => vI (gI h a j)) hB_153 dX7_needed_9 rfl hS hj
theorem v153_10 {d : Nat} {ls : LS3} {st : List MV} {h : Hp} {x y : Int32} : Ev d 153 10 ls (vI y :: vI x :: st) h = Ev d 153 11 ls (vI (x * y) :: st) h := Rnx (hB_153) (dX7_needed_10) rfl
theorem v153_11 {d : Nat} {st : List MV} {h : Hp} {x : Int32} {a0 a1 : Option MV} : Ev d 153 11 [a0, a1, some (vI x)] st h = Ev d 153 12 [a0, a1, some (vI x)] (vI x :: st) h := Rnx (hB_153) (dX7_needed_11) rfl
theorem v153_12 {d : Nat} {ls : LS3} {st : List MV} {h : Hp} {x y : Int32} : Ev d 153 12 ls (vI y :: vI x :: st) h = Ev d 153 13 ls (vI (x + y) :: st) h := Rnx (hB_153) (dX7_needed_12) rfl
theorem v153_13 {d : Nat} {ls : LS3} {st : List MV} {h : Hp} {a : A3} {j : Int32} (hS : (gS h a).1 ∈ [2, 9]) (hj : inB j (gS h a).2) : Ev d 153 13 ls (vI j :: vR a :: st) h = Ev d 153 14 ls (vI (gI h a j.toNatClampNeg) :: st) h := Rald (ks := [2, 9]) (f := fun a j => vI (gI h a j)) hB_153 dX7_needed_13 rfl hS hj
theorem v153_14 {d : Nat} {ls : LS3} {h : Hp} {x : Int32} : Ev d 153 14 ls [vI x] h = some (.inl (some (vI x)), h) := Rdn hB_153 dX7_needed_14 rfl
theorem hB_154 : mB 154 = cX7_most := rfl
theorem v154_0 {d : Nat} {st : List MV} {h : Hp} {x : Option A3} {a1 : Option MV} : Ev d 154 0 [some (vO x), a1] st h = Ev d 154 1 [some (vO x), a1] (vO x :: st) h := Rnx (hB_154) (dX7_most_0) rfl
theorem v154_1 {d : Nat} {st : List MV} {h : Hp} {x : Int32} {a0 : Option MV} : Ev d 154 1 [a0, some (vI x)] st h = Ev d 154 2 [a0, some (vI x)] (vI x :: st) h := Rnx (hB_154) (dX7_most_1) rfl
theorem v154_2 {d : Nat} {ls : LS3} {st : List MV} {h : Hp} : Ev d 154 2 ls st h = Ev d 154 3 ls (vI 0 :: st) h := Rnx (hB_154) (dX7_most_2) rfl
set_option maxRecDepth 100000 in
theorem v154_3 {d : Nat} {ls : LS3} {st : List MV} {h : Hp} {a : A3} {x0 : Int32} {x1 : Int32} (hS : gS h a = (1, 7)) (hc : catS st ≤ 8) : Ev (d + 1) 154 3 ls (vI x1 :: vI x0 :: vR a :: st) h = Evk 153 (d + 1) 154 3 ls st (Ev d 153 0 [some (vR a), some (vI x0), some (vI x1)] [] h) := RcallO (idx := 97) (n := 2) (kd := 0) (As' := [vI x0, vI x1]) hB_154 dX7_most_3 rfl rfl (by decide) rfl rfl (Or.inl hS) rfl hc
theorem v154_6 {d : Nat} {ls : LS3} {st : List MV} {h : Hp} : Ev d 154 6 ls st h = Ev d 154 7 ls (vI 2 :: st) h := Rnx (hB_154) (dX7_most_6) rfl
theorem v154_7 {d : Nat} {ls : LS3} {st : List MV} {h : Hp} {x y : Int32} : Ev d 154 7 ls (vI y :: vI x :: st) h = Ev d 154 8 ls (vI (x + y) :: st) h := Rnx (hB_154) (dX7_most_7) rfl
theorem v154_8 {d : Nat} {ls : LS3} {h : Hp} {x : Int32} : Ev d 154 8 ls [vI x] h = some (.inl (some (vI x)), h) := Rdn hB_154 dX7_most_8 rfl
theorem hB_155 : mB 155 = cX7_has := rfl
theorem v155_0 {d : Nat} {ls : LS3} {st : List MV} {h : Hp} : Ev d 155 0 ls st h = Ev d 155 1 ls (vI 0 :: st) h := Rnx (hB_155) (dX7_has_0) rfl
theorem v155_1 {d : Nat} {st : List MV} {h : Hp} {x : Int32} {a0 a1 a2 a3 a4 a5 a6 : Option MV} : Ev d 155 1 [a0, a1, a2, a3, a4, a5, a6] (vI x :: st) h = Ev d 155 3 [a0, a1, a2, a3, some (vI x), a5, a6] st h := Rnx (hB_155) (dX7_has_1) rfl
theorem v155_3 {d : Nat} {ls : LS3} {st : List MV} {h : Hp} : Ev d 155 3 ls st h = Ev d 155 4 ls (vI 0 :: st) h := Rnx (hB_155) (dX7_has_3) rfl
theorem v155_4 {d : Nat} {st : List MV} {h : Hp} {x : Int32} {a0 a1 a2 a3 a4 a5 a6 : Option MV} : Ev d 155 4 [a0, a1, a2, a3, a4, a5, a6] (vI x :: st) h = Ev d 155 6 [a0, a1, a2, a3, a4, some (vI x), a6] st h := Rnx (hB_155) (dX7_has_4) rfl
theorem v155_6 {d : Nat} {st : List MV} {h : Hp} {x : Int32} {a0 a1 a2 a3 a4 a6 : Option MV} : Ev d 155 6 [a0, a1, a2, a3, a4, some (vI x), a6] st h = Ev d 155 8 [a0, a1, a2, a3, a4, some (vI x), a6] (vI x :: st) h := Rnx (hB_155) (dX7_has_6) rfl
theorem v155_8 {d : Nat} {st : List MV} {h : Hp} {x : Option A3} {a1 a2 a3 a4 a5 a6 : Option MV} : Ev d 155 8 [some (vO x), a1, a2, a3, a4, a5, a6] st h = Ev d 155 9 [some (vO x), a1, a2, a3, a4, a5, a6] (vO x :: st) h := Rnx (hB_155) (dX7_has_8) rfl
set_option maxRecDepth 100000 in
theorem v155_9 {d : Nat} {ls : LS3} {st : List MV} {h : Hp} {a : A3} (hS : gS h a = (1, 7)) : Ev d 155 9 ls (vR a :: st) h = Ev d 155 12 ls (vI (gI h a 7) :: st) h := Rget hB_155 dX7_has_9 rfl (Or.inl hS)
theorem v155_12 {d : Nat} {ls : LS3} {st : List MV} {h : Hp} {x y : Int32} : Ev d 155 12 ls (vI y :: vI x :: st) h = if y ≤ x then Ev d 155 136 ls st h else Ev d 155 15 ls st h := Rif hB_155 dX7_has_12 rfl
theorem v155_15 {d : Nat} {st : List MV} {h : Hp} {x : Int32} {a0 a1 a3 a4 a5 a6 : Option MV} : Ev d 155 15 [a0, a1, some (vI x), a3, a4, a5, a6] st h = Ev d 155 16 [a0, a1, some (vI x), a3, a4, a5, a6] (vI x :: st) h := Rnx (hB_155) (dX7_has_15) rfl
theorem v155_16 {d : Nat} {st : List MV} {h : Hp} {x : Int32} {a0 a1 a2 a3 a4 a6 : Option MV} : Ev d 155 16 [a0, a1, a2, a3, a4, some (vI x), a6] st h = Ev d 155 18 [a0, a1, a2, a3, a4, some (vI x), a6] (vI x :: st) h := Rnx (hB_155) (dX7_has_16) rfl
theorem v155_18 {d : Nat} {ls : LS3} {st : List MV} {h : Hp} {x y : Int32} : Ev d 155 18 ls (vI y :: vI x :: st) h = Ev d 155 19 ls (vI (x >>> (y &&& 31)) :: st) h := Rnx (hB_155) (dX7_has_18) rfl
theorem v155_19 {d : Nat} {ls : LS3} {st : List MV} {h : Hp} : Ev d 155 19 ls st h = Ev d 155 20 ls (vI 1 :: st) h := Rnx (hB_155) (dX7_has_19) rfl
theorem v155_20 {d : Nat} {ls : LS3} {st : List MV} {h : Hp} {x y : Int32} : Ev d 155 20 ls (vI y :: vI x :: st) h = Ev d 155 21 ls (vI (x &&& y) :: st) h := Rnx (hB_155) (dX7_has_20) rfl
theorem v155_21 {d : Nat} {ls : LS3} {st : List MV} {h : Hp} {x : Int32} : Ev d 155 21 ls (vI x :: st) h = if x = 0 then Ev d 155 24 ls st h else Ev d 155 27 ls st h := Rifn hB_155 dX7_has_21 rfl
theorem v155_24 {d : Nat} {ls : LS3} {st : List MV} {h : Hp} : Ev d 155 24 ls st h = Ev d 155 130 ls st h := Rnx (hB_155) (dX7_has_24) rfl
theorem v155_27 {d : Nat} {st : List MV} {h : Hp} {x : Int32} {a0 a1 a2 a4 a5 a6 : Option MV} : Ev d 155 27 [a0, a1, a2, some (vI x), a4, a5, a6] st h = Ev d 155 28 [a0, a1, a2, some (vI x), a4, a5, a6] (vI x :: st) h := Rnx (hB_155) (dX7_has_27) rfl
theorem v155_28 {d : Nat} {ls : LS3} {st : List MV} {h : Hp} {x : Int32} : Ev d 155 28 ls (vI x :: st) h = if x = 0 then Ev d 155 108 ls st h else Ev d 155 31 ls st h := Rif hB_155 dX7_has_28 rfl
theorem v155_31 {d : Nat} {st : List MV} {h : Hp} {x : Int32} {a0 a1 a2 a4 a5 a6 : Option MV} : Ev d 155 31 [a0, a1, a2, some (vI x), a4, a5, a6] st h = Ev d 155 32 [a0, a1, a2, some (vI x), a4, a5, a6] (vI x :: st) h := Rnx (hB_155) (dX7_has_31) rfl
theorem v155_32 {d : Nat} {ls : LS3} {st : List MV} {h : Hp} : Ev d 155 32 ls st h = Ev d 155 33 ls (vI 1 :: st) h := Rnx (hB_155) (dX7_has_32) rfl
theorem v155_33 {d : Nat} {ls : LS3} {st : List MV} {h : Hp} {x y : Int32} : Ev d 155 33 ls (vI y :: vI x :: st) h = if x = y then Ev d 155 36 ls st h else Ev d 155 46 ls st h := Rifn hB_155 dX7_has_33 rfl
theorem v155_36 {d : Nat} {st : List MV} {h : Hp} {x : Option A3} {a1 a2 a3 a4 a5 a6 : Option MV} : Ev d 155 36 [some (vO x), a1, a2, a3, a4, a5, a6] st h = Ev d 155 37 [some (vO x), a1, a2, a3, a4, a5, a6] (vO x :: st) h := Rnx (hB_155) (dX7_has_36) rfl
set_option maxRecDepth 100000 in
theorem v155_37 {d : Nat} {ls : LS3} {st : List MV} {h : Hp} {a : A3} (hS : gS h a = (1, 7)) : Ev d 155 37 ls (vR a :: st) h = Ev d 155 40 ls (vO (gR h a 1) :: st) h := Rget hB_155 dX7_has_37 rfl (Or.inl hS)
theorem v155_40 {d : Nat} {st : List MV} {h : Hp} {x : Int32} {a0 a1 a2 a3 a4 a6 : Option MV} : Ev d 155 40 [a0, a1, a2, a3, a4, some (vI x), a6] st h = Ev d 155 42 [a0, a1, a2, a3, a4, some (vI x), a6] (vI x :: st) h := Rnx (hB_155) (dX7_has_40) rfl
theorem v155_42 {d : Nat} {ls : LS3} {st : List MV} {h : Hp} {a : A3} {j : Int32} (hS : (gS h a).1 ∈ [2, 9]) (hj : inB j (gS h a).2) : Ev d 155 42 ls (vI j :: vR a :: st) h = Ev d 155 43 ls (vI (gI h a j.toNatClampNeg) :: st) h := Rald (ks := [2, 9]) (f := fun a j => vI (gI h a j)) hB_155 dX7_has_42 rfl hS hj
theorem v155_43 {d : Nat} {ls : LS3} {st : List MV} {h : Hp} {x : Int32} : Ev d 155 43 ls (vI x :: st) h = if x = 0 then Ev d 155 108 ls st h else Ev d 155 46 ls st h := Rif hB_155 dX7_has_43 rfl
theorem v155_46 {d : Nat} {st : List MV} {h : Hp} {x : Int32} {a0 a1 a2 a4 a5 a6 : Option MV} : Ev d 155 46 [a0, a1, a2, some (vI x), a4, a5, a6] st h = Ev d 155 47 [a0, a1, a2, some (vI x), a4, a5, a6] (vI x :: st) h := Rnx (hB_155) (dX7_has_46) rfl
theorem v155_47 {d : Nat} {ls : LS3} {st : List MV} {h : Hp} : Ev d 155 47 ls st h = Ev d 155 48 ls (vI 2 :: st) h := Rnx (hB_155) (dX7_has_47) rfl
theorem v155_48 {d : Nat} {ls : LS3} {st : List MV} {h : Hp} {x y : Int32} : Ev d 155 48 ls (vI y :: vI x :: st) h = if x = y then Ev d 155 51 ls st h else Ev d 155 62 ls st h := Rifn hB_155 dX7_has_48 rfl
theorem v155_51 {d : Nat} {st : List MV} {h : Hp} {x : Option A3} {a1 a2 a3 a4 a5 a6 : Option MV} : Ev d 155 51 [some (vO x), a1, a2, a3, a4, a5, a6] st h = Ev d 155 52 [some (vO x), a1, a2, a3, a4, a5, a6] (vO x :: st) h := Rnx (hB_155) (dX7_has_51) rfl
set_option maxRecDepth 100000 in
theorem v155_52 {d : Nat} {ls : LS3} {st : List MV} {h : Hp} {a : A3} (hS : gS h a = (1, 7)) : Ev d 155 52 ls (vR a :: st) h = Ev d 155 55 ls (vO (gR h a 1) :: st) h := Rget hB_155 dX7_has_52 rfl (Or.inl hS)
theorem v155_55 {d : Nat} {st : List MV} {h : Hp} {x : Int32} {a0 a1 a2 a3 a4 a6 : Option MV} : Ev d 155 55 [a0, a1, a2, a3, a4, some (vI x), a6] st h = Ev d 155 57 [a0, a1, a2, a3, a4, some (vI x), a6] (vI x :: st) h := Rnx (hB_155) (dX7_has_55) rfl
theorem v155_57 {d : Nat} {ls : LS3} {st : List MV} {h : Hp} {a : A3} {j : Int32} (hS : (gS h a).1 ∈ [2, 9]) (hj : inB j (gS h a).2) : Ev d 155 57 ls (vI j :: vR a :: st) h = Ev d 155 58 ls (vI (gI h a j.toNatClampNeg) :: st) h := Rald (ks := [2, 9]) (f := fun a j => vI (gI h a j)) hB_155 dX7_has_57 rfl hS hj
theorem v155_58 {d : Nat} {ls : LS3} {st : List MV} {h : Hp} : Ev d 155 58 ls st h = Ev d 155 59 ls (vI 2 :: st) h := Rnx (hB_155) (dX7_has_58) rfl
theorem v155_59 {d : Nat} {ls : LS3} {st : List MV} {h : Hp} {x y : Int32} : Ev d 155 59 ls (vI y :: vI x :: st) h = if x = y then Ev d 155 108 ls st h else Ev d 155 62 ls st h := Rif hB_155 dX7_has_59 rfl
theorem v155_62 {d : Nat} {st : List MV} {h : Hp} {x : Int32} {a0 a1 a2 a4 a5 a6 : Option MV} : Ev d 155 62 [a0, a1, a2, some (vI x), a4, a5, a6] st h = Ev d 155 63 [a0, a1, a2, some (vI x), a4, a5, a6] (vI x :: st) h := Rnx (hB_155) (dX7_has_62) rfl
theorem v155_63 {d : Nat} {ls : LS3} {st : List MV} {h : Hp} : Ev d 155 63 ls st h = Ev d 155 64 ls (vI 3 :: st) h := Rnx (hB_155) (dX7_has_63) rfl
theorem v155_64 {d : Nat} {ls : LS3} {st : List MV} {h : Hp} {x y : Int32} : Ev d 155 64 ls (vI y :: vI x :: st) h = if x = y then Ev d 155 67 ls st h else Ev d 155 87 ls st h := Rifn hB_155 dX7_has_64 rfl
theorem v155_67 {d : Nat} {st : List MV} {h : Hp} {x : Option A3} {a1 a2 a3 a4 a5 a6 : Option MV} : Ev d 155 67 [some (vO x), a1, a2, a3, a4, a5, a6] st h = Ev d 155 68 [some (vO x), a1, a2, a3, a4, a5, a6] (vO x :: st) h := Rnx (hB_155) (dX7_has_67) rfl
set_option maxRecDepth 100000 in
theorem v155_68 {d : Nat} {ls : LS3} {st : List MV} {h : Hp} {a : A3} (hS : gS h a = (1, 7)) : Ev d 155 68 ls (vR a :: st) h = Ev d 155 71 ls (vO (gR h a 2) :: st) h := Rget hB_155 dX7_has_68 rfl (Or.inl hS)
theorem v155_71 {d : Nat} {st : List MV} {h : Hp} {x : Int32} {a0 a1 a2 a3 a4 a6 : Option MV} : Ev d 155 71 [a0, a1, a2, a3, a4, some (vI x), a6] st h = Ev d 155 73 [a0, a1, a2, a3, a4, some (vI x), a6] (vI x :: st) h := Rnx (hB_155) (dX7_has_71) rfl
theorem v155_73 {d : Nat} {ls : LS3} {st : List MV} {h : Hp} {a : A3} {j : Int32} (hS : (gS h a).1 ∈ [2, 9]) (hj : inB j (gS h a).2) : Ev d 155 73 ls (vI j :: vR a :: st) h = Ev d 155 74 ls (vI (gI h a j.toNatClampNeg) :: st) h := Rald (ks := [2, 9]) (f := fun a j => vI (gI h a j)) hB_155 dX7_has_73 rfl hS hj
theorem v155_74 {d : Nat} {st : List MV} {h : Hp} {x : Option A3} {a1 a2 a3 a4 a5 a6 : Option MV} : Ev d 155 74 [some (vO x), a1, a2, a3, a4, a5, a6] st h = Ev d 155 75 [some (vO x), a1, a2, a3, a4, a5, a6] (vO x :: st) h := Rnx (hB_155) (dX7_has_74) rfl
set_option maxRecDepth 100000 in
theorem v155_75 {d : Nat} {ls : LS3} {st : List MV} {h : Hp} {a : A3} (hS : gS h a = (1, 7)) : Ev d 155 75 ls (vR a :: st) h = Ev d 155 78 ls (vO (gR h a 10) :: st) h := Rget hB_155 dX7_has_75 rfl (Or.inl hS)
theorem v155_78 {d : Nat} {st : List MV} {h : Hp} {x : Int32} {a0 a2 a3 a4 a5 a6 : Option MV} : Ev d 155 78 [a0, some (vI x), a2, a3, a4, a5, a6] st h = Ev d 155 79 [a0, some (vI x), a2, a3, a4, a5, a6] (vI x :: st) h := Rnx (hB_155) (dX7_has_78) rfl
theorem v155_79 {d : Nat} {ls : LS3} {st : List MV} {h : Hp} {a : A3} {j : Int32} (hS : (gS h a).1 ∈ [2, 9]) (hj : inB j (gS h a).2) : Ev d 155 79 ls (vI j :: vR a :: st) h = Ev d 155 80 ls (vI (gI h a j.toNatClampNeg) :: st) h := Rald (ks := [2, 9]) (f := fun a j => vI (gI h a j)) hB_155 dX7_has_79 rfl hS hj
theorem v155_80 {d : Nat} {ls : LS3} {st : List MV} {h : Hp} {x y : Int32} : Ev d 155 80 ls (vI y :: vI x :: st) h = Ev d 155 81 ls (vI (x >>> (y &&& 31)) :: st) h := Rnx (hB_155) (dX7_has_80) rfl
theorem v155_81 {d : Nat} {ls : LS3} {st : List MV} {h : Hp} : Ev d 155 81 ls st h = Ev d 155 82 ls (vI 1 :: st) h := Rnx (hB_155) (dX7_has_81) rfl
theorem v155_82 {d : Nat} {ls : LS3} {st : List MV} {h : Hp} {x y : Int32} : Ev d 155 82 ls (vI y :: vI x :: st) h = Ev d 155 83 ls (vI (x &&& y) :: st) h := Rnx (hB_155) (dX7_has_82) rfl
theorem v155_83 {d : Nat} {ls : LS3} {st : List MV} {h : Hp} : Ev d 155 83 ls st h = Ev d 155 84 ls (vI 1 :: st) h := Rnx (hB_155) (dX7_has_83) rfl
theorem v155_84 {d : Nat} {ls : LS3} {st : List MV} {h : Hp} {x y : Int32} : Ev d 155 84 ls (vI y :: vI x :: st) h = if x = y then Ev d 155 108 ls st h else Ev d 155 87 ls st h := Rif hB_155 dX7_has_84 rfl
theorem v155_87 {d : Nat} {st : List MV} {h : Hp} {x : Int32} {a0 a1 a2 a4 a5 a6 : Option MV} : Ev d 155 87 [a0, a1, a2, some (vI x), a4, a5, a6] st h = Ev d 155 88 [a0, a1, a2, some (vI x), a4, a5, a6] (vI x :: st) h := Rnx (hB_155) (dX7_has_87) rfl
theorem v155_88 {d : Nat} {ls : LS3} {st : List MV} {h : Hp} : Ev d 155 88 ls st h = Ev d 155 89 ls (vI 4 :: st) h := Rnx (hB_155) (dX7_has_88) rfl
theorem v155_89 {d : Nat} {ls : LS3} {st : List MV} {h : Hp} {x y : Int32} : Ev d 155 89 ls (vI y :: vI x :: st) h = if x = y then Ev d 155 92 ls st h else Ev d 155 112 ls st h := Rifn hB_155 dX7_has_89 rfl
theorem v155_92 {d : Nat} {st : List MV} {h : Hp} {x : Option A3} {a1 a2 a3 a4 a5 a6 : Option MV} : Ev d 155 92 [some (vO x), a1, a2, a3, a4, a5, a6] st h = Ev d 155 93 [some (vO x), a1, a2, a3, a4, a5, a6] (vO x :: st) h := Rnx (hB_155) (dX7_has_92) rfl
set_option maxRecDepth 100000 in
theorem v155_93 {d : Nat} {ls : LS3} {st : List MV} {h : Hp} {a : A3} (hS : gS h a = (1, 7)) : Ev d 155 93 ls (vR a :: st) h = Ev d 155 96 ls (vO (gR h a 3) :: st) h := Rget hB_155 dX7_has_93 rfl (Or.inl hS)
theorem v155_96 {d : Nat} {st : List MV} {h : Hp} {x : Int32} {a0 a1 a2 a3 a4 a6 : Option MV} : Ev d 155 96 [a0, a1, a2, a3, a4, some (vI x), a6] st h = Ev d 155 98 [a0, a1, a2, a3, a4, some (vI x), a6] (vI x :: st) h := Rnx (hB_155) (dX7_has_96) rfl
theorem v155_98 {d : Nat} {ls : LS3} {st : List MV} {h : Hp} {a : A3} {j : Int32} (hS : (gS h a).1 ∈ [2, 9]) (hj : inB j (gS h a).2) : Ev d 155 98 ls (vI j :: vR a :: st) h = Ev d 155 99 ls (vI (gI h a j.toNatClampNeg) :: st) h := Rald (ks := [2, 9]) (f := fun a j => vI (gI h a j)) hB_155 dX7_has_98 rfl hS hj
theorem v155_99 {d : Nat} {st : List MV} {h : Hp} {x : Option A3} {a1 a2 a3 a4 a5 a6 : Option MV} : Ev d 155 99 [some (vO x), a1, a2, a3, a4, a5, a6] st h = Ev d 155 100 [some (vO x), a1, a2, a3, a4, a5, a6] (vO x :: st) h := Rnx (hB_155) (dX7_has_99) rfl
set_option maxRecDepth 100000 in
theorem v155_100 {d : Nat} {ls : LS3} {st : List MV} {h : Hp} {a : A3} (hS : gS h a = (1, 7)) : Ev d 155 100 ls (vR a :: st) h = Ev d 155 103 ls (vO (gR h a 11) :: st) h := Rget hB_155 dX7_has_100 rfl (Or.inl hS)
theorem v155_103 {d : Nat} {st : List MV} {h : Hp} {x : Int32} {a0 a2 a3 a4 a5 a6 : Option MV} : Ev d 155 103 [a0, some (vI x), a2, a3, a4, a5, a6] st h = Ev d 155 104 [a0, some (vI x), a2, a3, a4, a5, a6] (vI x :: st) h := Rnx (hB_155) (dX7_has_103) rfl
theorem v155_104 {d : Nat} {ls : LS3} {st : List MV} {h : Hp} {a : A3} {j : Int32} (hS : (gS h a).1 ∈ [2, 9]) (hj : inB j (gS h a).2) : Ev d 155 104 ls (vI j :: vR a :: st) h = Ev d 155 105 ls (vI (gI h a j.toNatClampNeg) :: st) h := Rald (ks := [2, 9]) (f := fun a j => vI (gI h a j)) hB_155 dX7_has_104 rfl hS hj
theorem v155_105 {d : Nat} {ls : LS3} {st : List MV} {h : Hp} {x y : Int32} : Ev d 155 105 ls (vI y :: vI x :: st) h = if x = y then Ev d 155 112 ls st h else Ev d 155 108 ls st h := Rif hB_155 dX7_has_105 rfl
theorem v155_108 {d : Nat} {ls : LS3} {st : List MV} {h : Hp} : Ev d 155 108 ls st h = Ev d 155 109 ls (vI 1 :: st) h := Rnx (hB_155) (dX7_has_108) rfl
theorem v155_109 {d : Nat} {ls : LS3} {st : List MV} {h : Hp} : Ev d 155 109 ls st h = Ev d 155 113 ls st h := Rnx (hB_155) (dX7_has_109) rfl
theorem v155_112 {d : Nat} {ls : LS3} {st : List MV} {h : Hp} : Ev d 155 112 ls st h = Ev d 155 113 ls (vI 0 :: st) h := Rnx (hB_155) (dX7_has_112) rfl
theorem v155_113 {d : Nat} {st : List MV} {h : Hp} {x : Int32} {a0 a1 a2 a3 a4 a5 a6 : Option MV} : Ev d 155 113 [a0, a1, a2, a3, a4, a5, a6] (vI x :: st) h = Ev d 155 115 [a0, a1, a2, a3, a4, a5, some (vI x)] st h := Rnx (hB_155) (dX7_has_113) rfl
theorem v155_115 {d : Nat} {st : List MV} {h : Hp} {x : Int32} {a0 a1 a2 a3 a5 a6 : Option MV} : Ev d 155 115 [a0, a1, a2, a3, some (vI x), a5, a6] st h = Ev d 155 117 [a0, a1, a2, a3, some (vI x), a5, a6] (vI x :: st) h := Rnx (hB_155) (dX7_has_115) rfl
theorem v155_117 {d : Nat} {st : List MV} {h : Hp} {x : Int32} {a0 a1 a2 a3 a4 a5 : Option MV} : Ev d 155 117 [a0, a1, a2, a3, a4, a5, some (vI x)] st h = Ev d 155 119 [a0, a1, a2, a3, a4, a5, some (vI x)] (vI x :: st) h := Rnx (hB_155) (dX7_has_117) rfl
theorem v155_119 {d : Nat} {ls : LS3} {st : List MV} {h : Hp} {x : Int32} : Ev d 155 119 ls (vI x :: st) h = if x = 0 then Ev d 155 126 ls st h else Ev d 155 122 ls st h := Rif hB_155 dX7_has_119 rfl
theorem v155_122 {d : Nat} {ls : LS3} {st : List MV} {h : Hp} : Ev d 155 122 ls st h = Ev d 155 123 ls (vI 1 :: st) h := Rnx (hB_155) (dX7_has_122) rfl
theorem v155_123 {d : Nat} {ls : LS3} {st : List MV} {h : Hp} : Ev d 155 123 ls st h = Ev d 155 127 ls st h := Rnx (hB_155) (dX7_has_123) rfl
theorem v155_126 {d : Nat} {ls : LS3} {st : List MV} {h : Hp} : Ev d 155 126 ls st h = Ev d 155 127 ls (vI 0 :: st) h := Rnx (hB_155) (dX7_has_126) rfl
theorem v155_127 {d : Nat} {ls : LS3} {st : List MV} {h : Hp} {x y : Int32} : Ev d 155 127 ls (vI y :: vI x :: st) h = Ev d 155 128 ls (vI (x + y) :: st) h := Rnx (hB_155) (dX7_has_127) rfl
theorem v155_128 {d : Nat} {st : List MV} {h : Hp} {x : Int32} {a0 a1 a2 a3 a4 a5 a6 : Option MV} : Ev d 155 128 [a0, a1, a2, a3, a4, a5, a6] (vI x :: st) h = Ev d 155 130 [a0, a1, a2, a3, some (vI x), a5, a6] st h := Rnx (hB_155) (dX7_has_128) rfl
theorem v155_130 {d : Nat} {st : List MV} {h : Hp} {x : Int32} {a0 a1 a2 a3 a4 a6 : Option MV} : Ev d 155 130 [a0, a1, a2, a3, a4, some (vI x), a6] st h = Ev d 155 133 [a0, a1, a2, a3, a4, some (vI (x + 1)), a6] st h := Rnx (hB_155) (dX7_has_130) rfl
theorem v155_133 {d : Nat} {ls : LS3} {st : List MV} {h : Hp} : Ev d 155 133 ls st h = Ev d 155 6 ls st h := Rnx (hB_155) (dX7_has_133) rfl
theorem v155_136 {d : Nat} {st : List MV} {h : Hp} {x : Int32} {a0 a1 a2 a3 a5 a6 : Option MV} : Ev d 155 136 [a0, a1, a2, a3, some (vI x), a5, a6] st h = Ev d 155 138 [a0, a1, a2, a3, some (vI x), a5, a6] (vI x :: st) h := Rnx (hB_155) (dX7_has_136) rfl
theorem v155_138 {d : Nat} {ls : LS3} {h : Hp} {x : Int32} : Ev d 155 138 ls [vI x] h = some (.inl (some (vI x)), h) := Rdn hB_155 dX7_has_138 rfl
theorem hB_156 : mB 156 = cX7_holds := rfl
theorem v156_0 {d : Nat} {ls : LS3} {st : List MV} {h : Hp} : Ev d 156 0 ls st h = Ev d 156 1 ls (vI 0 :: st) h := Rnx (hB_156) (dX7_holds_0) rfl
theorem v156_1 {d : Nat} {st : List MV} {h : Hp} {x : Int32} {a0 a1 a2 a3 : Option MV} : Ev d 156 1 [a0, a1, a2, a3] (vI x :: st) h = Ev d 156 2 [a0, a1, a2, some (vI x)] st h := Rnx (hB_156) (dX7_holds_1) rfl
theorem v156_2 {d : Nat} {st : List MV} {h : Hp} {x : Int32} {a0 a1 a2 : Option MV} : Ev d 156 2 [a0, a1, a2, some (vI x)] st h = Ev d 156 3 [a0, a1, a2, some (vI x)] (vI x :: st) h := Rnx (hB_156) (dX7_holds_2) rfl
theorem v156_3 {d : Nat} {ls : LS3} {st : List MV} {h : Hp} : Ev d 156 3 ls st h = Ev d 156 4 ls (vI 5 :: st) h := Rnx (hB_156) (dX7_holds_3) rfl
theorem v156_4 {d : Nat} {ls : LS3} {st : List MV} {h : Hp} {x y : Int32} : Ev d 156 4 ls (vI y :: vI x :: st) h = if y ≤ x then Ev d 156 31 ls st h else Ev d 156 7 ls st h := Rif hB_156 dX7_holds_4 rfl
theorem v156_7 {d : Nat} {st : List MV} {h : Hp} {x : Option A3} {a1 a2 a3 : Option MV} : Ev d 156 7 [some (vO x), a1, a2, a3] st h = Ev d 156 8 [some (vO x), a1, a2, a3] (vO x :: st) h := Rnx (hB_156) (dX7_holds_7) rfl
theorem v156_8 {d : Nat} {st : List MV} {h : Hp} {x : Int32} {a0 a2 a3 : Option MV} : Ev d 156 8 [a0, some (vI x), a2, a3] st h = Ev d 156 9 [a0, some (vI x), a2, a3] (vI x :: st) h := Rnx (hB_156) (dX7_holds_8) rfl
theorem v156_9 {d : Nat} {st : List MV} {h : Hp} {x : Int32} {a0 a1 a3 : Option MV} : Ev d 156 9 [a0, a1, some (vI x), a3] st h = Ev d 156 10 [a0, a1, some (vI x), a3] (vI x :: st) h := Rnx (hB_156) (dX7_holds_9) rfl
theorem v156_10 {d : Nat} {st : List MV} {h : Hp} {x : Int32} {a0 a1 a2 : Option MV} : Ev d 156 10 [a0, a1, a2, some (vI x)] st h = Ev d 156 11 [a0, a1, a2, some (vI x)] (vI x :: st) h := Rnx (hB_156) (dX7_holds_10) rfl
set_option maxRecDepth 100000 in
theorem v156_11 {d : Nat} {ls : LS3} {st : List MV} {h : Hp} {a : A3} {x0 : Int32} {x1 : Int32} {x2 : Int32} (hS : gS h a = (1, 7)) (hc : catS st ≤ 8) : Ev (d + 1) 156 11 ls (vI x2 :: vI x1 :: vI x0 :: vR a :: st) h = Evk 155 (d + 1) 156 11 ls st (Ev d 155 0 [some (vR a), some (vI x0), some (vI x1), some (vI x2), none, none, none] [] h) := RcallO (idx := 101) (n := 3) (kd := 0) (As' := [vI x0, vI x1, vI x2]) hB_156 dX7_holds_11 rfl rfl (by decide) rfl rfl (Or.inl hS) rfl hc
theorem v156_14 {d : Nat} {st : List MV} {h : Hp} {x : Option A3} {a1 a2 a3 : Option MV} : Ev d 156 14 [some (vO x), a1, a2, a3] st h = Ev d 156 15 [some (vO x), a1, a2, a3] (vO x :: st) h := Rnx (hB_156) (dX7_holds_14) rfl
theorem v156_15 {d : Nat} {st : List MV} {h : Hp} {x : Int32} {a0 a2 a3 : Option MV} : Ev d 156 15 [a0, some (vI x), a2, a3] st h = Ev d 156 16 [a0, some (vI x), a2, a3] (vI x :: st) h := Rnx (hB_156) (dX7_holds_15) rfl
theorem v156_16 {d : Nat} {st : List MV} {h : Hp} {x : Int32} {a0 a1 a2 : Option MV} : Ev d 156 16 [a0, a1, a2, some (vI x)] st h = Ev d 156 17 [a0, a1, a2, some (vI x)] (vI x :: st) h := Rnx (hB_156) (dX7_holds_16) rfl
set_option maxRecDepth 100000 in
theorem v156_17 {d : Nat} {ls : LS3} {st : List MV} {h : Hp} {a : A3} {x0 : Int32} {x1 : Int32} (hS : gS h a = (1, 7)) (hc : catS st ≤ 8) : Ev (d + 1) 156 17 ls (vI x1 :: vI x0 :: vR a :: st) h = Evk 153 (d + 1) 156 17 ls st (Ev d 153 0 [some (vR a), some (vI x0), some (vI x1)] [] h) := RcallO (idx := 97) (n := 2) (kd := 0) (As' := [vI x0, vI x1]) hB_156 dX7_holds_17 rfl rfl (by decide) rfl rfl (Or.inl hS) rfl hc
theorem v156_20 {d : Nat} {ls : LS3} {st : List MV} {h : Hp} {x y : Int32} : Ev d 156 20 ls (vI y :: vI x :: st) h = if y ≤ x then Ev d 156 25 ls st h else Ev d 156 23 ls st h := Rif hB_156 dX7_holds_20 rfl
theorem v156_23 {d : Nat} {ls : LS3} {st : List MV} {h : Hp} : Ev d 156 23 ls st h = Ev d 156 24 ls (vI 0 :: st) h := Rnx (hB_156) (dX7_holds_23) rfl
theorem v156_24 {d : Nat} {ls : LS3} {h : Hp} {x : Int32} (hx : x = 0 ∨ x = 1) : Ev d 156 24 ls [vI x] h = some (.inl (some (vI x)), h) := RretB hB_156 dX7_holds_24 rfl hx
theorem v156_25 {d : Nat} {st : List MV} {h : Hp} {x : Int32} {a0 a1 a2 : Option MV} : Ev d 156 25 [a0, a1, a2, some (vI x)] st h = Ev d 156 28 [a0, a1, a2, some (vI (x + 1))] st h := Rnx (hB_156) (dX7_holds_25) rfl
theorem v156_28 {d : Nat} {ls : LS3} {st : List MV} {h : Hp} : Ev d 156 28 ls st h = Ev d 156 2 ls st h := Rnx (hB_156) (dX7_holds_28) rfl
theorem v156_31 {d : Nat} {ls : LS3} {st : List MV} {h : Hp} : Ev d 156 31 ls st h = Ev d 156 32 ls (vI 1 :: st) h := Rnx (hB_156) (dX7_holds_31) rfl
theorem v156_32 {d : Nat} {ls : LS3} {h : Hp} {x : Int32} (hx : x = 0 ∨ x = 1) : Ev d 156 32 ls [vI x] h = some (.inl (some (vI x)), h) := RretB hB_156 dX7_holds_32 rfl hx
theorem hB_157 : mB 157 = cX7_load := rfl
theorem v157_0 {d : Nat} {ls : LS3} {st : List MV} {h : Hp} : Ev d 157 0 ls st h = Ev d 157 1 ls (vI 0 :: st) h := Rnx (hB_157) (dX7_load_0) rfl
theorem v157_1 {d : Nat} {st : List MV} {h : Hp} {x : Int32} {a0 a1 a2 a3 : Option MV} : Ev d 157 1 [a0, a1, a2, a3] (vI x :: st) h = Ev d 157 2 [a0, a1, some (vI x), a3] st h := Rnx (hB_157) (dX7_load_1) rfl
theorem v157_2 {d : Nat} {ls : LS3} {st : List MV} {h : Hp} : Ev d 157 2 ls st h = Ev d 157 3 ls (vI 0 :: st) h := Rnx (hB_157) (dX7_load_2) rfl
theorem v157_3 {d : Nat} {st : List MV} {h : Hp} {x : Int32} {a0 a1 a2 a3 : Option MV} : Ev d 157 3 [a0, a1, a2, a3] (vI x :: st) h = Ev d 157 4 [a0, a1, a2, some (vI x)] st h := Rnx (hB_157) (dX7_load_3) rfl
theorem v157_4 {d : Nat} {st : List MV} {h : Hp} {x : Int32} {a0 a1 a2 : Option MV} : Ev d 157 4 [a0, a1, a2, some (vI x)] st h = Ev d 157 5 [a0, a1, a2, some (vI x)] (vI x :: st) h := Rnx (hB_157) (dX7_load_4) rfl
theorem v157_5 {d : Nat} {st : List MV} {h : Hp} {x : Option A3} {a1 a2 a3 : Option MV} : Ev d 157 5 [some (vO x), a1, a2, a3] st h = Ev d 157 6 [some (vO x), a1, a2, a3] (vO x :: st) h := Rnx (hB_157) (dX7_load_5) rfl
set_option maxRecDepth 100000 in
theorem v157_6 {d : Nat} {ls : LS3} {st : List MV} {h : Hp} {a : A3} (hS : gS h a = (1, 7)) : Ev d 157 6 ls (vR a :: st) h = Ev d 157 9 ls (vI (gI h a 19) :: st) h := Rget hB_157 dX7_load_6 rfl (Or.inl hS)
theorem v157_9 {d : Nat} {ls : LS3} {st : List MV} {h : Hp} {x y : Int32} : Ev d 157 9 ls (vI y :: vI x :: st) h = if y ≤ x then Ev d 157 43 ls st h else Ev d 157 12 ls st h := Rif hB_157 dX7_load_9 rfl
theorem v157_12 {d : Nat} {st : List MV} {h : Hp} {x : Int32} {a0 a1 a3 : Option MV} : Ev d 157 12 [a0, a1, some (vI x), a3] st h = Ev d 157 13 [a0, a1, some (vI x), a3] (vI x :: st) h := Rnx (hB_157) (dX7_load_12) rfl
theorem v157_13 {d : Nat} {st : List MV} {h : Hp} {x : Option A3} {a1 a2 a3 : Option MV} : Ev d 157 13 [some (vO x), a1, a2, a3] st h = Ev d 157 14 [some (vO x), a1, a2, a3] (vO x :: st) h := Rnx (hB_157) (dX7_load_13) rfl
theorem v157_14 {d : Nat} {st : List MV} {h : Hp} {x : Int32} {a0 a1 a2 : Option MV} : Ev d 157 14 [a0, a1, a2, some (vI x)] st h = Ev d 157 15 [a0, a1, a2, some (vI x)] (vI x :: st) h := Rnx (hB_157) (dX7_load_14) rfl
theorem v157_15 {d : Nat} {st : List MV} {h : Hp} {x : Int32} {a0 a2 a3 : Option MV} : Ev d 157 15 [a0, some (vI x), a2, a3] st h = Ev d 157 16 [a0, some (vI x), a2, a3] (vI x :: st) h := Rnx (hB_157) (dX7_load_15) rfl
set_option maxRecDepth 100000 in
theorem v157_16 {d : Nat} {ls : LS3} {st : List MV} {h : Hp} {a : A3} {x0 : Int32} {x1 : Int32} (hS : gS h a = (1, 7)) (hc : catS st ≤ 8) : Ev (d + 1) 157 16 ls (vI x1 :: vI x0 :: vR a :: st) h = Evk 150 (d + 1) 157 16 ls st (Ev d 150 0 [some (vR a), some (vI x0), some (vI x1)] [] h) := RcallO (idx := 105) (n := 2) (kd := 0) (As' := [vI x0, vI x1]) hB_157 dX7_load_16 rfl rfl (by decide) rfl rfl (Or.inl hS) rfl hc
theorem v157_19 {d : Nat} {ls : LS3} {st : List MV} {h : Hp} {x : Int32} : Ev d 157 19 ls (vI x :: st) h = if x = 0 then Ev d 157 34 ls st h else Ev d 157 22 ls st h := Rif hB_157 dX7_load_19 rfl
theorem v157_22 {d : Nat} {st : List MV} {h : Hp} {x : Option A3} {a1 a2 a3 : Option MV} : Ev d 157 22 [some (vO x), a1, a2, a3] st h = Ev d 157 23 [some (vO x), a1, a2, a3] (vO x :: st) h := Rnx (hB_157) (dX7_load_22) rfl
theorem v157_23 {d : Nat} {st : List MV} {h : Hp} {x : Int32} {a0 a1 a2 : Option MV} : Ev d 157 23 [a0, a1, a2, some (vI x)] st h = Ev d 157 24 [a0, a1, a2, some (vI x)] (vI x :: st) h := Rnx (hB_157) (dX7_load_23) rfl
set_option maxRecDepth 100000 in
theorem v157_24 {d : Nat} {ls : LS3} {st : List MV} {h : Hp} {a : A3} {x0 : Int32} (hS : gS h a = (1, 7)) (hc : catS st ≤ 8) : Ev (d + 1) 157 24 ls (vI x0 :: vR a :: st) h = Evk 152 (d + 1) 157 24 ls st (Ev d 152 0 [some (vR a), some (vI x0)] [] h) := RcallO (idx := 109) (n := 1) (kd := 0) (As' := [vI x0]) hB_157 dX7_load_24 rfl rfl (by decide) rfl rfl (Or.inl hS) rfl hc
theorem v157_27 {d : Nat} {ls : LS3} {st : List MV} {h : Hp} {x : Int32} : Ev d 157 27 ls (vI x :: st) h = if x = 0 then Ev d 157 30 ls st h else Ev d 157 34 ls st h := Rifn hB_157 dX7_load_27 rfl
theorem v157_30 {d : Nat} {ls : LS3} {st : List MV} {h : Hp} : Ev d 157 30 ls st h = Ev d 157 31 ls (vI 1 :: st) h := Rnx (hB_157) (dX7_load_30) rfl
theorem v157_31 {d : Nat} {ls : LS3} {st : List MV} {h : Hp} : Ev d 157 31 ls st h = Ev d 157 35 ls st h := Rnx (hB_157) (dX7_load_31) rfl
theorem v157_34 {d : Nat} {ls : LS3} {st : List MV} {h : Hp} : Ev d 157 34 ls st h = Ev d 157 35 ls (vI 0 :: st) h := Rnx (hB_157) (dX7_load_34) rfl
theorem v157_35 {d : Nat} {ls : LS3} {st : List MV} {h : Hp} {x y : Int32} : Ev d 157 35 ls (vI y :: vI x :: st) h = Ev d 157 36 ls (vI (x + y) :: st) h := Rnx (hB_157) (dX7_load_35) rfl
theorem v157_36 {d : Nat} {st : List MV} {h : Hp} {x : Int32} {a0 a1 a2 a3 : Option MV} : Ev d 157 36 [a0, a1, a2, a3] (vI x :: st) h = Ev d 157 37 [a0, a1, some (vI x), a3] st h := Rnx (hB_157) (dX7_load_36) rfl
theorem v157_37 {d : Nat} {st : List MV} {h : Hp} {x : Int32} {a0 a1 a2 : Option MV} : Ev d 157 37 [a0, a1, a2, some (vI x)] st h = Ev d 157 40 [a0, a1, a2, some (vI (x + 1))] st h := Rnx (hB_157) (dX7_load_37) rfl
theorem v157_40 {d : Nat} {ls : LS3} {st : List MV} {h : Hp} : Ev d 157 40 ls st h = Ev d 157 4 ls st h := Rnx (hB_157) (dX7_load_40) rfl
theorem v157_43 {d : Nat} {st : List MV} {h : Hp} {x : Int32} {a0 a1 a3 : Option MV} : Ev d 157 43 [a0, a1, some (vI x), a3] st h = Ev d 157 44 [a0, a1, some (vI x), a3] (vI x :: st) h := Rnx (hB_157) (dX7_load_43) rfl
theorem v157_44 {d : Nat} {ls : LS3} {h : Hp} {x : Int32} : Ev d 157 44 ls [vI x] h = some (.inl (some (vI x)), h) := Rdn hB_157 dX7_load_44 rfl
theorem hB_158 : mB 158 = cX7_overlaps := rfl
theorem v158_0 {d : Nat} {st : List MV} {h : Hp} {x : Option A3} {a1 a2 a3 : Option MV} : Ev d 158 0 [some (vO x), a1, a2, a3] st h = Ev d 158 1 [some (vO x), a1, a2, a3] (vO x :: st) h := Rnx (hB_158) (dX7_overlaps_0) rfl
theorem v158_1 {d : Nat} {st : List MV} {h : Hp} {x : Int32} {a0 a2 a3 : Option MV} : Ev d 158 1 [a0, some (vI x), a2, a3] st h = Ev d 158 2 [a0, some (vI x), a2, a3] (vI x :: st) h := Rnx (hB_158) (dX7_overlaps_1) rfl
set_option maxRecDepth 100000 in
theorem v158_2 {d : Nat} {ls : LS3} {st : List MV} {h : Hp} {a : A3} {x0 : Int32} (hS : gS h a = (1, 7)) (hc : catS st ≤ 8) : Ev (d + 1) 158 2 ls (vI x0 :: vR a :: st) h = Evk 151 (d + 1) 158 2 ls st (Ev d 151 0 [some (vR a), some (vI x0)] [] h) := RcallO (idx := 113) (n := 1) (kd := 0) (As' := [vI x0]) hB_158 dX7_overlaps_2 rfl rfl (by decide) rfl rfl (Or.inl hS) rfl hc
theorem v158_5 {d : Nat} {ls : LS3} {st : List MV} {h : Hp} {x : Int32} : Ev d 158 5 ls (vI x :: st) h = if x = 0 then Ev d 158 46 ls st h else Ev d 158 8 ls st h := Rif hB_158 dX7_overlaps_5 rfl
theorem v158_8 {d : Nat} {st : List MV} {h : Hp} {x : Option A3} {a1 a2 a3 : Option MV} : Ev d 158 8 [some (vO x), a1, a2, a3] st h = Ev d 158 9 [some (vO x), a1, a2, a3] (vO x :: st) h := Rnx (hB_158) (dX7_overlaps_8) rfl
set_option maxRecDepth 100000 in
theorem v158_9 {d : Nat} {ls : LS3} {st : List MV} {h : Hp} {a : A3} (hS : gS h a = (1, 7)) : Ev d 158 9 ls (vR a :: st) h = Ev d 158 12 ls (vO (gR h a 16) :: st) h := Rget hB_158 dX7_overlaps_9 rfl (Or.inl hS)
theorem v158_12 {d : Nat} {st : List MV} {h : Hp} {x : Int32} {a0 a2 a3 : Option MV} : Ev d 158 12 [a0, some (vI x), a2, a3] st h = Ev d 158 13 [a0, some (vI x), a2, a3] (vI x :: st) h := Rnx (hB_158) (dX7_overlaps_12) rfl
theorem v158_13 {d : Nat} {ls : LS3} {st : List MV} {h : Hp} {a : A3} {j : Int32} (hS : (gS h a).1 ∈ [2, 9]) (hj : inB j (gS h a).2) : Ev d 158 13 ls (vI j :: vR a :: st) h = Ev d 158 14 ls (vI (gI h a j.toNatClampNeg) :: st) h := Rald (ks := [2, 9]) (f := fun a j => vI (gI h a j)) hB_158 dX7_overlaps_13 rfl hS hj
theorem v158_14 {d : Nat} {st : List MV} {h : Hp} {x : Int32} {a0 a1 a3 : Option MV} : Ev d 158 14 [a0, a1, some (vI x), a3] st h = Ev d 158 15 [a0, a1, some (vI x), a3] (vI x :: st) h := Rnx (hB_158) (dX7_overlaps_14) rfl
theorem v158_15 {d : Nat} {ls : LS3} {st : List MV} {h : Hp} {x y : Int32} : Ev d 158 15 ls (vI y :: vI x :: st) h = if x = y then Ev d 158 18 ls st h else Ev d 158 46 ls st h := Rifn hB_158 dX7_overlaps_15 rfl
theorem v158_18 {d : Nat} {st : List MV} {h : Hp} {x : Option A3} {a1 a2 a3 : Option MV} : Ev d 158 18 [some (vO x), a1, a2, a3] st h = Ev d 158 19 [some (vO x), a1, a2, a3] (vO x :: st) h := Rnx (hB_158) (dX7_overlaps_18) rfl
set_option maxRecDepth 100000 in
theorem v158_19 {d : Nat} {ls : LS3} {st : List MV} {h : Hp} {a : A3} (hS : gS h a = (1, 7)) : Ev d 158 19 ls (vR a :: st) h = Ev d 158 22 ls (vO (gR h a 17) :: st) h := Rget hB_158 dX7_overlaps_19 rfl (Or.inl hS)
theorem v158_22 {d : Nat} {st : List MV} {h : Hp} {x : Int32} {a0 a2 a3 : Option MV} : Ev d 158 22 [a0, some (vI x), a2, a3] st h = Ev d 158 23 [a0, some (vI x), a2, a3] (vI x :: st) h := Rnx (hB_158) (dX7_overlaps_22) rfl
theorem v158_23 {d : Nat} {ls : LS3} {st : List MV} {h : Hp} {a : A3} {j : Int32} (hS : (gS h a).1 ∈ [2, 9]) (hj : inB j (gS h a).2) : Ev d 158 23 ls (vI j :: vR a :: st) h = Ev d 158 24 ls (vI (gI h a j.toNatClampNeg) :: st) h := Rald (ks := [2, 9]) (f := fun a j => vI (gI h a j)) hB_158 dX7_overlaps_23 rfl hS hj
theorem v158_24 {d : Nat} {st : List MV} {h : Hp} {x : Int32} {a0 a1 a2 : Option MV} : Ev d 158 24 [a0, a1, a2, some (vI x)] st h = Ev d 158 25 [a0, a1, a2, some (vI x)] (vI x :: st) h := Rnx (hB_158) (dX7_overlaps_24) rfl
theorem v158_25 {d : Nat} {ls : LS3} {st : List MV} {h : Hp} {x y : Int32} : Ev d 158 25 ls (vI y :: vI x :: st) h = Ev d 158 26 ls (vI (x - y) :: st) h := Rnx (hB_158) (dX7_overlaps_25) rfl
theorem v158_26 {d : Nat} {ls : LS3} {st : List MV} {h : Hp} : Ev d 158 26 ls st h = Ev d 158 27 ls (vI 1 :: st) h := Rnx (hB_158) (dX7_overlaps_26) rfl
theorem v158_27 {d : Nat} {ls : LS3} {st : List MV} {h : Hp} {x y : Int32} : Ev d 158 27 ls (vI y :: vI x :: st) h = if y < x then Ev d 158 46 ls st h else Ev d 158 30 ls st h := Rif hB_158 dX7_overlaps_27 rfl
theorem v158_30 {d : Nat} {st : List MV} {h : Hp} {x : Int32} {a0 a1 a2 : Option MV} : Ev d 158 30 [a0, a1, a2, some (vI x)] st h = Ev d 158 31 [a0, a1, a2, some (vI x)] (vI x :: st) h := Rnx (hB_158) (dX7_overlaps_30) rfl
theorem v158_31 {d : Nat} {st : List MV} {h : Hp} {x : Option A3} {a1 a2 a3 : Option MV} : Ev d 158 31 [some (vO x), a1, a2, a3] st h = Ev d 158 32 [some (vO x), a1, a2, a3] (vO x :: st) h := Rnx (hB_158) (dX7_overlaps_31) rfl
set_option maxRecDepth 100000 in
theorem v158_32 {d : Nat} {ls : LS3} {st : List MV} {h : Hp} {a : A3} (hS : gS h a = (1, 7)) : Ev d 158 32 ls (vR a :: st) h = Ev d 158 35 ls (vO (gR h a 17) :: st) h := Rget hB_158 dX7_overlaps_32 rfl (Or.inl hS)
theorem v158_35 {d : Nat} {st : List MV} {h : Hp} {x : Int32} {a0 a2 a3 : Option MV} : Ev d 158 35 [a0, some (vI x), a2, a3] st h = Ev d 158 36 [a0, some (vI x), a2, a3] (vI x :: st) h := Rnx (hB_158) (dX7_overlaps_35) rfl
theorem v158_36 {d : Nat} {ls : LS3} {st : List MV} {h : Hp} {a : A3} {j : Int32} (hS : (gS h a).1 ∈ [2, 9]) (hj : inB j (gS h a).2) : Ev d 158 36 ls (vI j :: vR a :: st) h = Ev d 158 37 ls (vI (gI h a j.toNatClampNeg) :: st) h := Rald (ks := [2, 9]) (f := fun a j => vI (gI h a j)) hB_158 dX7_overlaps_36 rfl hS hj
theorem v158_37 {d : Nat} {ls : LS3} {st : List MV} {h : Hp} {x y : Int32} : Ev d 158 37 ls (vI y :: vI x :: st) h = Ev d 158 38 ls (vI (x - y) :: st) h := Rnx (hB_158) (dX7_overlaps_37) rfl
theorem v158_38 {d : Nat} {ls : LS3} {st : List MV} {h : Hp} : Ev d 158 38 ls st h = Ev d 158 39 ls (vI 1 :: st) h := Rnx (hB_158) (dX7_overlaps_38) rfl
theorem v158_39 {d : Nat} {ls : LS3} {st : List MV} {h : Hp} {x y : Int32} : Ev d 158 39 ls (vI y :: vI x :: st) h = if y < x then Ev d 158 46 ls st h else Ev d 158 42 ls st h := Rif hB_158 dX7_overlaps_39 rfl
theorem v158_42 {d : Nat} {ls : LS3} {st : List MV} {h : Hp} : Ev d 158 42 ls st h = Ev d 158 43 ls (vI 1 :: st) h := Rnx (hB_158) (dX7_overlaps_42) rfl
theorem v158_43 {d : Nat} {ls : LS3} {st : List MV} {h : Hp} : Ev d 158 43 ls st h = Ev d 158 47 ls st h := Rnx (hB_158) (dX7_overlaps_43) rfl
theorem v158_46 {d : Nat} {ls : LS3} {st : List MV} {h : Hp} : Ev d 158 46 ls st h = Ev d 158 47 ls (vI 0 :: st) h := Rnx (hB_158) (dX7_overlaps_46) rfl
theorem v158_47 {d : Nat} {ls : LS3} {h : Hp} {x : Int32} (hx : x = 0 ∨ x = 1) : Ev d 158 47 ls [vI x] h = some (.inl (some (vI x)), h) := RretB hB_158 dX7_overlaps_47 rfl hx
theorem hB_159 : mB 159 = cX7_isFreeBut := rfl
theorem v159_0 {d : Nat} {st : List MV} {h : Hp} {x : Option A3} {a1 a2 a3 a4 a5 : Option MV} : Ev d 159 0 [some (vO x), a1, a2, a3, a4, a5] st h = Ev d 159 1 [some (vO x), a1, a2, a3, a4, a5] (vO x :: st) h := Rnx (hB_159) (dX7_isFreeBut_0) rfl
theorem v159_1 {d : Nat} {st : List MV} {h : Hp} {x : Int32} {a0 a2 a3 a4 a5 : Option MV} : Ev d 159 1 [a0, some (vI x), a2, a3, a4, a5] st h = Ev d 159 2 [a0, some (vI x), a2, a3, a4, a5] (vI x :: st) h := Rnx (hB_159) (dX7_isFreeBut_1) rfl
theorem v159_2 {d : Nat} {st : List MV} {h : Hp} {x : Int32} {a0 a1 a3 a4 a5 : Option MV} : Ev d 159 2 [a0, a1, some (vI x), a3, a4, a5] st h = Ev d 159 3 [a0, a1, some (vI x), a3, a4, a5] (vI x :: st) h := Rnx (hB_159) (dX7_isFreeBut_2) rfl
set_option maxRecDepth 100000 in
theorem v159_3 {d : Nat} {ls : LS3} {st : List MV} {h : Hp} {a : A3} {x0 : Int32} {x1 : Int32} (hS : gS h a = (1, 7)) (hc : catS st ≤ 8) : Ev (d + 1) 159 3 ls (vI x1 :: vI x0 :: vR a :: st) h = Evk 147 (d + 1) 159 3 ls st (Ev d 147 0 [some (vR a), some (vI x0), some (vI x1)] [] h) := RcallO (idx := 116) (n := 2) (kd := 0) (As' := [vI x0, vI x1]) hB_159 dX7_isFreeBut_3 rfl rfl (by decide) rfl rfl (Or.inl hS) rfl hc
theorem v159_6 {d : Nat} {st : List MV} {h : Hp} {x : Int32} {a0 a1 a2 a4 a5 : Option MV} : Ev d 159 6 [a0, a1, a2, some (vI x), a4, a5] st h = Ev d 159 7 [a0, a1, a2, some (vI x), a4, a5] (vI x :: st) h := Rnx (hB_159) (dX7_isFreeBut_6) rfl
theorem v159_7 {d : Nat} {ls : LS3} {st : List MV} {h : Hp} {x y : Int32} : Ev d 159 7 ls (vI y :: vI x :: st) h = Ev d 159 8 ls (vI (x >>> (y &&& 31)) :: st) h := Rnx (hB_159) (dX7_isFreeBut_7) rfl
theorem v159_8 {d : Nat} {ls : LS3} {st : List MV} {h : Hp} : Ev d 159 8 ls st h = Ev d 159 9 ls (vI 3 :: st) h := Rnx (hB_159) (dX7_isFreeBut_8) rfl
theorem v159_9 {d : Nat} {ls : LS3} {st : List MV} {h : Hp} {x y : Int32} : Ev d 159 9 ls (vI y :: vI x :: st) h = Ev d 159 10 ls (vI (x &&& y) :: st) h := Rnx (hB_159) (dX7_isFreeBut_9) rfl
theorem v159_10 {d : Nat} {ls : LS3} {st : List MV} {h : Hp} {x : Int32} : Ev d 159 10 ls (vI x :: st) h = if x = 0 then Ev d 159 15 ls st h else Ev d 159 13 ls st h := Rif hB_159 dX7_isFreeBut_10 rfl
theorem v159_13 {d : Nat} {ls : LS3} {st : List MV} {h : Hp} : Ev d 159 13 ls st h = Ev d 159 14 ls (vI 0 :: st) h := Rnx (hB_159) (dX7_isFreeBut_13) rfl
theorem v159_14 {d : Nat} {ls : LS3} {h : Hp} {x : Int32} (hx : x = 0 ∨ x = 1) : Ev d 159 14 ls [vI x] h = some (.inl (some (vI x)), h) := RretB hB_159 dX7_isFreeBut_14 rfl hx
theorem v159_15 {d : Nat} {ls : LS3} {st : List MV} {h : Hp} : Ev d 159 15 ls st h = Ev d 159 16 ls (vI 0 :: st) h := Rnx (hB_159) (dX7_isFreeBut_15) rfl
theorem v159_16 {d : Nat} {st : List MV} {h : Hp} {x : Int32} {a0 a1 a2 a3 a4 a5 : Option MV} : Ev d 159 16 [a0, a1, a2, a3, a4, a5] (vI x :: st) h = Ev d 159 18 [a0, a1, a2, a3, a4, some (vI x)] st h := Rnx (hB_159) (dX7_isFreeBut_16) rfl
theorem v159_18 {d : Nat} {st : List MV} {h : Hp} {x : Int32} {a0 a1 a2 a3 a4 : Option MV} : Ev d 159 18 [a0, a1, a2, a3, a4, some (vI x)] st h = Ev d 159 20 [a0, a1, a2, a3, a4, some (vI x)] (vI x :: st) h := Rnx (hB_159) (dX7_isFreeBut_18) rfl
theorem v159_20 {d : Nat} {st : List MV} {h : Hp} {x : Option A3} {a1 a2 a3 a4 a5 : Option MV} : Ev d 159 20 [some (vO x), a1, a2, a3, a4, a5] st h = Ev d 159 21 [some (vO x), a1, a2, a3, a4, a5] (vO x :: st) h := Rnx (hB_159) (dX7_isFreeBut_20) rfl
set_option maxRecDepth 100000 in
theorem v159_21 {d : Nat} {ls : LS3} {st : List MV} {h : Hp} {a : A3} (hS : gS h a = (1, 7)) : Ev d 159 21 ls (vR a :: st) h = Ev d 159 24 ls (vI (gI h a 19) :: st) h := Rget hB_159 dX7_isFreeBut_21 rfl (Or.inl hS)
theorem v159_24 {d : Nat} {ls : LS3} {st : List MV} {h : Hp} {x y : Int32} : Ev d 159 24 ls (vI y :: vI x :: st) h = if y ≤ x then Ev d 159 63 ls st h else Ev d 159 27 ls st h := Rif hB_159 dX7_isFreeBut_24 rfl
theorem v159_27 {d : Nat} {st : List MV} {h : Hp} {x : Int32} {a0 a1 a2 a3 a4 : Option MV} : Ev d 159 27 [a0, a1, a2, a3, a4, some (vI x)] st h = Ev d 159 29 [a0, a1, a2, a3, a4, some (vI x)] (vI x :: st) h := Rnx (hB_159) (dX7_isFreeBut_27) rfl
theorem v159_29 {d : Nat} {st : List MV} {h : Hp} {x : Int32} {a0 a1 a2 a3 a5 : Option MV} : Ev d 159 29 [a0, a1, a2, a3, some (vI x), a5] st h = Ev d 159 31 [a0, a1, a2, a3, some (vI x), a5] (vI x :: st) h := Rnx (hB_159) (dX7_isFreeBut_29) rfl
theorem v159_31 {d : Nat} {ls : LS3} {st : List MV} {h : Hp} {x y : Int32} : Ev d 159 31 ls (vI y :: vI x :: st) h = if x = y then Ev d 159 57 ls st h else Ev d 159 34 ls st h := Rif hB_159 dX7_isFreeBut_31 rfl
theorem v159_34 {d : Nat} {st : List MV} {h : Hp} {x : Option A3} {a1 a2 a3 a4 a5 : Option MV} : Ev d 159 34 [some (vO x), a1, a2, a3, a4, a5] st h = Ev d 159 35 [some (vO x), a1, a2, a3, a4, a5] (vO x :: st) h := Rnx (hB_159) (dX7_isFreeBut_34) rfl
theorem v159_35 {d : Nat} {st : List MV} {h : Hp} {x : Int32} {a0 a1 a2 a3 a4 : Option MV} : Ev d 159 35 [a0, a1, a2, a3, a4, some (vI x)] st h = Ev d 159 37 [a0, a1, a2, a3, a4, some (vI x)] (vI x :: st) h := Rnx (hB_159) (dX7_isFreeBut_35) rfl
theorem v159_37 {d : Nat} {st : List MV} {h : Hp} {x : Int32} {a0 a2 a3 a4 a5 : Option MV} : Ev d 159 37 [a0, some (vI x), a2, a3, a4, a5] st h = Ev d 159 38 [a0, some (vI x), a2, a3, a4, a5] (vI x :: st) h := Rnx (hB_159) (dX7_isFreeBut_37) rfl
set_option maxRecDepth 100000 in
theorem v159_38 {d : Nat} {ls : LS3} {st : List MV} {h : Hp} {a : A3} {x0 : Int32} {x1 : Int32} (hS : gS h a = (1, 7)) (hc : catS st ≤ 8) : Ev (d + 1) 159 38 ls (vI x1 :: vI x0 :: vR a :: st) h = Evk 150 (d + 1) 159 38 ls st (Ev d 150 0 [some (vR a), some (vI x0), some (vI x1)] [] h) := RcallO (idx := 105) (n := 2) (kd := 0) (As' := [vI x0, vI x1]) hB_159 dX7_isFreeBut_38 rfl rfl (by decide) rfl rfl (Or.inl hS) rfl hc
theorem v159_41 {d : Nat} {ls : LS3} {st : List MV} {h : Hp} {x : Int32} : Ev d 159 41 ls (vI x :: st) h = if x = 0 then Ev d 159 57 ls st h else Ev d 159 44 ls st h := Rif hB_159 dX7_isFreeBut_41 rfl
theorem v159_44 {d : Nat} {st : List MV} {h : Hp} {x : Option A3} {a1 a2 a3 a4 a5 : Option MV} : Ev d 159 44 [some (vO x), a1, a2, a3, a4, a5] st h = Ev d 159 45 [some (vO x), a1, a2, a3, a4, a5] (vO x :: st) h := Rnx (hB_159) (dX7_isFreeBut_44) rfl
theorem v159_45 {d : Nat} {st : List MV} {h : Hp} {x : Int32} {a0 a1 a2 a3 a4 : Option MV} : Ev d 159 45 [a0, a1, a2, a3, a4, some (vI x)] st h = Ev d 159 47 [a0, a1, a2, a3, a4, some (vI x)] (vI x :: st) h := Rnx (hB_159) (dX7_isFreeBut_45) rfl
theorem v159_47 {d : Nat} {st : List MV} {h : Hp} {x : Int32} {a0 a1 a3 a4 a5 : Option MV} : Ev d 159 47 [a0, a1, some (vI x), a3, a4, a5] st h = Ev d 159 48 [a0, a1, some (vI x), a3, a4, a5] (vI x :: st) h := Rnx (hB_159) (dX7_isFreeBut_47) rfl
theorem v159_48 {d : Nat} {st : List MV} {h : Hp} {x : Int32} {a0 a1 a2 a4 a5 : Option MV} : Ev d 159 48 [a0, a1, a2, some (vI x), a4, a5] st h = Ev d 159 49 [a0, a1, a2, some (vI x), a4, a5] (vI x :: st) h := Rnx (hB_159) (dX7_isFreeBut_48) rfl
set_option maxRecDepth 100000 in
theorem v159_49 {d : Nat} {ls : LS3} {st : List MV} {h : Hp} {a : A3} {x0 : Int32} {x1 : Int32} {x2 : Int32} (hS : gS h a = (1, 7)) (hc : catS st ≤ 8) : Ev (d + 1) 159 49 ls (vI x2 :: vI x1 :: vI x0 :: vR a :: st) h = Evk 158 (d + 1) 159 49 ls st (Ev d 158 0 [some (vR a), some (vI x0), some (vI x1), some (vI x2)] [] h) := RcallO (idx := 119) (n := 3) (kd := 0) (As' := [vI x0, vI x1, vI x2]) hB_159 dX7_isFreeBut_49 rfl rfl (by decide) rfl rfl (Or.inl hS) rfl hc
theorem v159_52 {d : Nat} {ls : LS3} {st : List MV} {h : Hp} {x : Int32} : Ev d 159 52 ls (vI x :: st) h = if x = 0 then Ev d 159 57 ls st h else Ev d 159 55 ls st h := Rif hB_159 dX7_isFreeBut_52 rfl
theorem v159_55 {d : Nat} {ls : LS3} {st : List MV} {h : Hp} : Ev d 159 55 ls st h = Ev d 159 56 ls (vI 0 :: st) h := Rnx (hB_159) (dX7_isFreeBut_55) rfl
theorem v159_56 {d : Nat} {ls : LS3} {h : Hp} {x : Int32} (hx : x = 0 ∨ x = 1) : Ev d 159 56 ls [vI x] h = some (.inl (some (vI x)), h) := RretB hB_159 dX7_isFreeBut_56 rfl hx
theorem v159_57 {d : Nat} {st : List MV} {h : Hp} {x : Int32} {a0 a1 a2 a3 a4 : Option MV} : Ev d 159 57 [a0, a1, a2, a3, a4, some (vI x)] st h = Ev d 159 60 [a0, a1, a2, a3, a4, some (vI (x + 1))] st h := Rnx (hB_159) (dX7_isFreeBut_57) rfl
theorem v159_60 {d : Nat} {ls : LS3} {st : List MV} {h : Hp} : Ev d 159 60 ls st h = Ev d 159 18 ls st h := Rnx (hB_159) (dX7_isFreeBut_60) rfl
theorem v159_63 {d : Nat} {ls : LS3} {st : List MV} {h : Hp} : Ev d 159 63 ls st h = Ev d 159 64 ls (vI 1 :: st) h := Rnx (hB_159) (dX7_isFreeBut_63) rfl
theorem v159_64 {d : Nat} {ls : LS3} {h : Hp} {x : Int32} (hx : x = 0 ∨ x = 1) : Ev d 159 64 ls [vI x] h = some (.inl (some (vI x)), h) := RretB hB_159 dX7_isFreeBut_64 rfl hx
theorem hB_160 : mB 160 = cX7_whyNot := rfl
theorem v160_0 {d : Nat} {st : List MV} {h : Hp} {x : Int32} {a0 a1 a2 : Option MV} : Ev d 160 0 [a0, a1, a2, some (vI x)] st h = Ev d 160 1 [a0, a1, a2, some (vI x)] (vI x :: st) h := Rnx (hB_160) (dX7_whyNot_0) rfl
theorem v160_1 {d : Nat} {st : List MV} {h : Hp} {x : Int32} {a0 a1 a3 : Option MV} : Ev d 160 1 [a0, a1, some (vI x), a3] st h = Ev d 160 2 [a0, a1, some (vI x), a3] (vI x :: st) h := Rnx (hB_160) (dX7_whyNot_1) rfl
theorem v160_2 {d : Nat} {ls : LS3} {st : List MV} {h : Hp} {x y : Int32} : Ev d 160 2 ls (vI y :: vI x :: st) h = Ev d 160 3 ls (vI (x >>> (y &&& 31)) :: st) h := Rnx (hB_160) (dX7_whyNot_2) rfl
theorem v160_3 {d : Nat} {ls : LS3} {st : List MV} {h : Hp} : Ev d 160 3 ls st h = Ev d 160 4 ls (vI 1 :: st) h := Rnx (hB_160) (dX7_whyNot_3) rfl
theorem v160_4 {d : Nat} {ls : LS3} {st : List MV} {h : Hp} {x y : Int32} : Ev d 160 4 ls (vI y :: vI x :: st) h = Ev d 160 5 ls (vI (x &&& y) :: st) h := Rnx (hB_160) (dX7_whyNot_4) rfl
theorem v160_5 {d : Nat} {ls : LS3} {st : List MV} {h : Hp} : Ev d 160 5 ls st h = Ev d 160 6 ls (vI 1 :: st) h := Rnx (hB_160) (dX7_whyNot_5) rfl
theorem v160_6 {d : Nat} {ls : LS3} {st : List MV} {h : Hp} {x y : Int32} : Ev d 160 6 ls (vI y :: vI x :: st) h = if x = y then Ev d 160 9 ls st h else Ev d 160 11 ls st h := Rifn hB_160 dX7_whyNot_6 rfl
theorem v160_9 {d : Nat} {ls : LS3} {st : List MV} {h : Hp} : Ev d 160 9 ls st h = Ev d 160 10 ls (vI 1 :: st) h := Rnx (hB_160) (dX7_whyNot_9) rfl
theorem v160_10 {d : Nat} {ls : LS3} {h : Hp} {x : Int32} : Ev d 160 10 ls [vI x] h = some (.inl (some (vI x)), h) := Rdn hB_160 dX7_whyNot_10 rfl
theorem v160_11 {d : Nat} {st : List MV} {h : Hp} {x : Int32} {a0 a1 a3 : Option MV} : Ev d 160 11 [a0, a1, some (vI x), a3] st h = Ev d 160 12 [a0, a1, some (vI x), a3] (vI x :: st) h := Rnx (hB_160) (dX7_whyNot_11) rfl
theorem v160_12 {d : Nat} {st : List MV} {h : Hp} {x : Option A3} {a1 a2 a3 : Option MV} : Ev d 160 12 [some (vO x), a1, a2, a3] st h = Ev d 160 13 [some (vO x), a1, a2, a3] (vO x :: st) h := Rnx (hB_160) (dX7_whyNot_12) rfl
set_option maxRecDepth 100000 in
theorem v160_13 {d : Nat} {ls : LS3} {st : List MV} {h : Hp} {a : A3} (hS : gS h a = (1, 7)) : Ev d 160 13 ls (vR a :: st) h = Ev d 160 16 ls (vO (gR h a 12) :: st) h := Rget hB_160 dX7_whyNot_13 rfl (Or.inl hS)
theorem v160_16 {d : Nat} {st : List MV} {h : Hp} {x : Int32} {a0 a2 a3 : Option MV} : Ev d 160 16 [a0, some (vI x), a2, a3] st h = Ev d 160 17 [a0, some (vI x), a2, a3] (vI x :: st) h := Rnx (hB_160) (dX7_whyNot_16) rfl
theorem v160_17 {d : Nat} {ls : LS3} {st : List MV} {h : Hp} {a : A3} {j : Int32} (hS : (gS h a).1 ∈ [2, 9]) (hj : inB j (gS h a).2) : Ev d 160 17 ls (vI j :: vR a :: st) h = Ev d 160 18 ls (vI (gI h a j.toNatClampNeg) :: st) h := Rald (ks := [2, 9]) (f := fun a j => vI (gI h a j)) hB_160 dX7_whyNot_17 rfl hS hj
theorem v160_18 {d : Nat} {ls : LS3} {st : List MV} {h : Hp} {x y : Int32} : Ev d 160 18 ls (vI y :: vI x :: st) h = if x = y then Ev d 160 21 ls st h else Ev d 160 32 ls st h := Rifn hB_160 dX7_whyNot_18 rfl
theorem v160_21 {d : Nat} {st : List MV} {h : Hp} {x : Option A3} {a1 a2 a3 : Option MV} : Ev d 160 21 [some (vO x), a1, a2, a3] st h = Ev d 160 22 [some (vO x), a1, a2, a3] (vO x :: st) h := Rnx (hB_160) (dX7_whyNot_21) rfl
set_option maxRecDepth 100000 in
theorem v160_22 {d : Nat} {ls : LS3} {st : List MV} {h : Hp} {a : A3} (hS : gS h a = (1, 7)) : Ev d 160 22 ls (vR a :: st) h = Ev d 160 25 ls (vO (gR h a 9) :: st) h := Rget hB_160 dX7_whyNot_22 rfl (Or.inl hS)
theorem v160_25 {d : Nat} {st : List MV} {h : Hp} {x : Int32} {a0 a2 a3 : Option MV} : Ev d 160 25 [a0, some (vI x), a2, a3] st h = Ev d 160 26 [a0, some (vI x), a2, a3] (vI x :: st) h := Rnx (hB_160) (dX7_whyNot_25) rfl
theorem v160_26 {d : Nat} {ls : LS3} {st : List MV} {h : Hp} {a : A3} {j : Int32} (hS : (gS h a).1 ∈ [2, 9]) (hj : inB j (gS h a).2) : Ev d 160 26 ls (vI j :: vR a :: st) h = Ev d 160 27 ls (vI (gI h a j.toNatClampNeg) :: st) h := Rald (ks := [2, 9]) (f := fun a j => vI (gI h a j)) hB_160 dX7_whyNot_26 rfl hS hj
theorem v160_27 {d : Nat} {ls : LS3} {st : List MV} {h : Hp} {x : Int32} : Ev d 160 27 ls (vI x :: st) h = if x = 0 then Ev d 160 32 ls st h else Ev d 160 30 ls st h := Rif hB_160 dX7_whyNot_27 rfl
theorem v160_30 {d : Nat} {ls : LS3} {st : List MV} {h : Hp} : Ev d 160 30 ls st h = Ev d 160 31 ls (vI 2 :: st) h := Rnx (hB_160) (dX7_whyNot_30) rfl
theorem v160_31 {d : Nat} {ls : LS3} {h : Hp} {x : Int32} : Ev d 160 31 ls [vI x] h = some (.inl (some (vI x)), h) := Rdn hB_160 dX7_whyNot_31 rfl
theorem v160_32 {d : Nat} {st : List MV} {h : Hp} {x : Option A3} {a1 a2 a3 : Option MV} : Ev d 160 32 [some (vO x), a1, a2, a3] st h = Ev d 160 33 [some (vO x), a1, a2, a3] (vO x :: st) h := Rnx (hB_160) (dX7_whyNot_32) rfl
theorem v160_33 {d : Nat} {st : List MV} {h : Hp} {x : Int32} {a0 a1 a3 : Option MV} : Ev d 160 33 [a0, a1, some (vI x), a3] st h = Ev d 160 34 [a0, a1, some (vI x), a3] (vI x :: st) h := Rnx (hB_160) (dX7_whyNot_33) rfl
theorem v160_34 {d : Nat} {st : List MV} {h : Hp} {x : Option A3} {a1 a2 a3 : Option MV} : Ev d 160 34 [some (vO x), a1, a2, a3] st h = Ev d 160 35 [some (vO x), a1, a2, a3] (vO x :: st) h := Rnx (hB_160) (dX7_whyNot_34) rfl
set_option maxRecDepth 100000 in
theorem v160_35 {d : Nat} {ls : LS3} {st : List MV} {h : Hp} {a : A3} (hS : gS h a = (1, 7)) : Ev d 160 35 ls (vR a :: st) h = Ev d 160 38 ls (vO (gR h a 12) :: st) h := Rget hB_160 dX7_whyNot_35 rfl (Or.inl hS)
theorem v160_38 {d : Nat} {st : List MV} {h : Hp} {x : Int32} {a0 a2 a3 : Option MV} : Ev d 160 38 [a0, some (vI x), a2, a3] st h = Ev d 160 39 [a0, some (vI x), a2, a3] (vI x :: st) h := Rnx (hB_160) (dX7_whyNot_38) rfl
theorem v160_39 {d : Nat} {ls : LS3} {st : List MV} {h : Hp} {a : A3} {j : Int32} (hS : (gS h a).1 ∈ [2, 9]) (hj : inB j (gS h a).2) : Ev d 160 39 ls (vI j :: vR a :: st) h = Ev d 160 40 ls (vI (gI h a j.toNatClampNeg) :: st) h := Rald (ks := [2, 9]) (f := fun a j => vI (gI h a j)) hB_160 dX7_whyNot_39 rfl hS hj
set_option maxRecDepth 100000 in
theorem v160_40 {d : Nat} {ls : LS3} {st : List MV} {h : Hp} {a : A3} {x0 : Int32} {x1 : Int32} (hS : gS h a = (1, 7)) (hc : catS st ≤ 8) : Ev (d + 1) 160 40 ls (vI x1 :: vI x0 :: vR a :: st) h = Evk 148 (d + 1) 160 40 ls st (Ev d 148 0 [some (vR a), some (vI x0), some (vI x1)] [] h) := RcallO (idx := 122) (n := 2) (kd := 0) (As' := [vI x0, vI x1]) hB_160 dX7_whyNot_40 rfl rfl (by decide) rfl rfl (Or.inl hS) rfl hc
theorem v160_43 {d : Nat} {ls : LS3} {st : List MV} {h : Hp} {x : Int32} : Ev d 160 43 ls (vI x :: st) h = if x = 0 then Ev d 160 46 ls st h else Ev d 160 48 ls st h := Rifn hB_160 dX7_whyNot_43 rfl
theorem v160_46 {d : Nat} {ls : LS3} {st : List MV} {h : Hp} : Ev d 160 46 ls st h = Ev d 160 47 ls (vI 3 :: st) h := Rnx (hB_160) (dX7_whyNot_46) rfl
theorem v160_47 {d : Nat} {ls : LS3} {h : Hp} {x : Int32} : Ev d 160 47 ls [vI x] h = some (.inl (some (vI x)), h) := Rdn hB_160 dX7_whyNot_47 rfl
theorem v160_48 {d : Nat} {st : List MV} {h : Hp} {x : Option A3} {a1 a2 a3 : Option MV} : Ev d 160 48 [some (vO x), a1, a2, a3] st h = Ev d 160 49 [some (vO x), a1, a2, a3] (vO x :: st) h := Rnx (hB_160) (dX7_whyNot_48) rfl
set_option maxRecDepth 100000 in
theorem v160_49 {d : Nat} {ls : LS3} {st : List MV} {h : Hp} {a : A3} (hS : gS h a = (1, 7)) : Ev d 160 49 ls (vR a :: st) h = Ev d 160 52 ls (vO (gR h a 5) :: st) h := Rget hB_160 dX7_whyNot_49 rfl (Or.inl hS)
theorem v160_52 {d : Nat} {st : List MV} {h : Hp} {x : Int32} {a0 a1 a3 : Option MV} : Ev d 160 52 [a0, a1, some (vI x), a3] st h = Ev d 160 53 [a0, a1, some (vI x), a3] (vI x :: st) h := Rnx (hB_160) (dX7_whyNot_52) rfl
theorem v160_53 {d : Nat} {ls : LS3} {st : List MV} {h : Hp} {a : A3} {j : Int32} (hS : (gS h a).1 ∈ [2, 9]) (hj : inB j (gS h a).2) : Ev d 160 53 ls (vI j :: vR a :: st) h = Ev d 160 54 ls (vI (gI h a j.toNatClampNeg) :: st) h := Rald (ks := [2, 9]) (f := fun a j => vI (gI h a j)) hB_160 dX7_whyNot_53 rfl hS hj
theorem v160_54 {d : Nat} {st : List MV} {h : Hp} {x : Int32} {a0 a1 a2 : Option MV} : Ev d 160 54 [a0, a1, a2, some (vI x)] st h = Ev d 160 55 [a0, a1, a2, some (vI x)] (vI x :: st) h := Rnx (hB_160) (dX7_whyNot_54) rfl
theorem v160_55 {d : Nat} {ls : LS3} {st : List MV} {h : Hp} {x y : Int32} : Ev d 160 55 ls (vI y :: vI x :: st) h = Ev d 160 56 ls (vI (x &&& y) :: st) h := Rnx (hB_160) (dX7_whyNot_55) rfl
theorem v160_56 {d : Nat} {ls : LS3} {st : List MV} {h : Hp} {x : Int32} : Ev d 160 56 ls (vI x :: st) h = if x = 0 then Ev d 160 61 ls st h else Ev d 160 59 ls st h := Rif hB_160 dX7_whyNot_56 rfl
theorem v160_59 {d : Nat} {ls : LS3} {st : List MV} {h : Hp} : Ev d 160 59 ls st h = Ev d 160 60 ls (vI 4 :: st) h := Rnx (hB_160) (dX7_whyNot_59) rfl
theorem v160_60 {d : Nat} {ls : LS3} {h : Hp} {x : Int32} : Ev d 160 60 ls [vI x] h = some (.inl (some (vI x)), h) := Rdn hB_160 dX7_whyNot_60 rfl
theorem v160_61 {d : Nat} {st : List MV} {h : Hp} {x : Option A3} {a1 a2 a3 : Option MV} : Ev d 160 61 [some (vO x), a1, a2, a3] st h = Ev d 160 62 [some (vO x), a1, a2, a3] (vO x :: st) h := Rnx (hB_160) (dX7_whyNot_61) rfl
theorem v160_62 {d : Nat} {st : List MV} {h : Hp} {x : Int32} {a0 a1 a3 : Option MV} : Ev d 160 62 [a0, a1, some (vI x), a3] st h = Ev d 160 63 [a0, a1, some (vI x), a3] (vI x :: st) h := Rnx (hB_160) (dX7_whyNot_62) rfl
set_option maxRecDepth 100000 in
theorem v160_63 {d : Nat} {ls : LS3} {st : List MV} {h : Hp} {a : A3} {x0 : Int32} (hS : gS h a = (1, 7)) (hc : catS st ≤ 8) : Ev (d + 1) 160 63 ls (vI x0 :: vR a :: st) h = Evk 157 (d + 1) 160 63 ls st (Ev d 157 0 [some (vR a), some (vI x0), none, none] [] h) := RcallO (idx := 125) (n := 1) (kd := 0) (As' := [vI x0]) hB_160 dX7_whyNot_63 rfl rfl (by decide) rfl rfl (Or.inl hS) rfl hc
theorem v160_66 {d : Nat} {st : List MV} {h : Hp} {x : Option A3} {a1 a2 a3 : Option MV} : Ev d 160 66 [some (vO x), a1, a2, a3] st h = Ev d 160 67 [some (vO x), a1, a2, a3] (vO x :: st) h := Rnx (hB_160) (dX7_whyNot_66) rfl
theorem v160_67 {d : Nat} {st : List MV} {h : Hp} {x : Int32} {a0 a2 a3 : Option MV} : Ev d 160 67 [a0, some (vI x), a2, a3] st h = Ev d 160 68 [a0, some (vI x), a2, a3] (vI x :: st) h := Rnx (hB_160) (dX7_whyNot_67) rfl
theorem v160_68 {d : Nat} {st : List MV} {h : Hp} {x : Int32} {a0 a1 a3 : Option MV} : Ev d 160 68 [a0, a1, some (vI x), a3] st h = Ev d 160 69 [a0, a1, some (vI x), a3] (vI x :: st) h := Rnx (hB_160) (dX7_whyNot_68) rfl
set_option maxRecDepth 100000 in
theorem v160_69 {d : Nat} {ls : LS3} {st : List MV} {h : Hp} {a : A3} {x0 : Int32} {x1 : Int32} (hS : gS h a = (1, 7)) (hc : catS st ≤ 8) : Ev (d + 1) 160 69 ls (vI x1 :: vI x0 :: vR a :: st) h = Evk 150 (d + 1) 160 69 ls st (Ev d 150 0 [some (vR a), some (vI x0), some (vI x1)] [] h) := RcallO (idx := 105) (n := 2) (kd := 0) (As' := [vI x0, vI x1]) hB_160 dX7_whyNot_69 rfl rfl (by decide) rfl rfl (Or.inl hS) rfl hc
theorem v160_72 {d : Nat} {ls : LS3} {st : List MV} {h : Hp} {x : Int32} : Ev d 160 72 ls (vI x :: st) h = if x = 0 then Ev d 160 87 ls st h else Ev d 160 75 ls st h := Rif hB_160 dX7_whyNot_72 rfl
theorem v160_75 {d : Nat} {st : List MV} {h : Hp} {x : Option A3} {a1 a2 a3 : Option MV} : Ev d 160 75 [some (vO x), a1, a2, a3] st h = Ev d 160 76 [some (vO x), a1, a2, a3] (vO x :: st) h := Rnx (hB_160) (dX7_whyNot_75) rfl
theorem v160_76 {d : Nat} {st : List MV} {h : Hp} {x : Int32} {a0 a2 a3 : Option MV} : Ev d 160 76 [a0, some (vI x), a2, a3] st h = Ev d 160 77 [a0, some (vI x), a2, a3] (vI x :: st) h := Rnx (hB_160) (dX7_whyNot_76) rfl
set_option maxRecDepth 100000 in
theorem v160_77 {d : Nat} {ls : LS3} {st : List MV} {h : Hp} {a : A3} {x0 : Int32} (hS : gS h a = (1, 7)) (hc : catS st ≤ 8) : Ev (d + 1) 160 77 ls (vI x0 :: vR a :: st) h = Evk 152 (d + 1) 160 77 ls st (Ev d 152 0 [some (vR a), some (vI x0)] [] h) := RcallO (idx := 109) (n := 1) (kd := 0) (As' := [vI x0]) hB_160 dX7_whyNot_77 rfl rfl (by decide) rfl rfl (Or.inl hS) rfl hc
theorem v160_80 {d : Nat} {ls : LS3} {st : List MV} {h : Hp} {x : Int32} : Ev d 160 80 ls (vI x :: st) h = if x = 0 then Ev d 160 83 ls st h else Ev d 160 87 ls st h := Rifn hB_160 dX7_whyNot_80 rfl
theorem v160_83 {d : Nat} {ls : LS3} {st : List MV} {h : Hp} : Ev d 160 83 ls st h = Ev d 160 84 ls (vI 1 :: st) h := Rnx (hB_160) (dX7_whyNot_83) rfl
theorem v160_84 {d : Nat} {ls : LS3} {st : List MV} {h : Hp} : Ev d 160 84 ls st h = Ev d 160 88 ls st h := Rnx (hB_160) (dX7_whyNot_84) rfl
theorem v160_87 {d : Nat} {ls : LS3} {st : List MV} {h : Hp} : Ev d 160 87 ls st h = Ev d 160 88 ls (vI 0 :: st) h := Rnx (hB_160) (dX7_whyNot_87) rfl
theorem v160_88 {d : Nat} {ls : LS3} {st : List MV} {h : Hp} {x y : Int32} : Ev d 160 88 ls (vI y :: vI x :: st) h = Ev d 160 89 ls (vI (x - y) :: st) h := Rnx (hB_160) (dX7_whyNot_88) rfl
theorem v160_89 {d : Nat} {st : List MV} {h : Hp} {x : Option A3} {a1 a2 a3 : Option MV} : Ev d 160 89 [some (vO x), a1, a2, a3] st h = Ev d 160 90 [some (vO x), a1, a2, a3] (vO x :: st) h := Rnx (hB_160) (dX7_whyNot_89) rfl
set_option maxRecDepth 100000 in
theorem v160_90 {d : Nat} {ls : LS3} {st : List MV} {h : Hp} {a : A3} (hS : gS h a = (1, 7)) : Ev d 160 90 ls (vR a :: st) h = Ev d 160 93 ls (vO (gR h a 4) :: st) h := Rget hB_160 dX7_whyNot_90 rfl (Or.inl hS)
theorem v160_93 {d : Nat} {st : List MV} {h : Hp} {x : Int32} {a0 a1 a3 : Option MV} : Ev d 160 93 [a0, a1, some (vI x), a3] st h = Ev d 160 94 [a0, a1, some (vI x), a3] (vI x :: st) h := Rnx (hB_160) (dX7_whyNot_93) rfl
theorem v160_94 {d : Nat} {ls : LS3} {st : List MV} {h : Hp} {a : A3} {j : Int32} (hS : (gS h a).1 ∈ [2, 9]) (hj : inB j (gS h a).2) : Ev d 160 94 ls (vI j :: vR a :: st) h = Ev d 160 95 ls (vI (gI h a j.toNatClampNeg) :: st) h := Rald (ks := [2, 9]) (f := fun a j => vI (gI h a j)) hB_160 dX7_whyNot_94 rfl hS hj
theorem v160_95 {d : Nat} {ls : LS3} {st : List MV} {h : Hp} {x y : Int32} : Ev d 160 95 ls (vI y :: vI x :: st) h = if x < y then Ev d 160 100 ls st h else Ev d 160 98 ls st h := Rif hB_160 dX7_whyNot_95 rfl
theorem v160_98 {d : Nat} {ls : LS3} {st : List MV} {h : Hp} : Ev d 160 98 ls st h = Ev d 160 99 ls (vI 5 :: st) h := Rnx (hB_160) (dX7_whyNot_98) rfl
theorem v160_99 {d : Nat} {ls : LS3} {h : Hp} {x : Int32} : Ev d 160 99 ls [vI x] h = some (.inl (some (vI x)), h) := Rdn hB_160 dX7_whyNot_99 rfl
theorem v160_100 {d : Nat} {st : List MV} {h : Hp} {x : Int32} {a0 a1 a2 : Option MV} : Ev d 160 100 [a0, a1, a2, some (vI x)] st h = Ev d 160 101 [a0, a1, a2, some (vI x)] (vI x :: st) h := Rnx (hB_160) (dX7_whyNot_100) rfl
set_option maxRecDepth 100000 in
theorem v160_101 {d : Nat} {ls : LS3} {st : List MV} {h : Hp} {x0 : Int32} (hc : catS st ≤ 8) : Ev (d + 1) 160 101 ls (vI x0 :: st) h = Evk 144 (d + 1) 160 101 ls st (Ev d 144 0 [some (vI x0), none, none] [] h) := RcallS (idx := 129) (n := 1) (kd := 1) (As := [vI x0]) hB_160 dX7_whyNot_101 rfl rfl (by decide) rfl rfl rfl hc
theorem v160_104 {d : Nat} {st : List MV} {h : Hp} {x : Option A3} {a1 a2 a3 : Option MV} : Ev d 160 104 [some (vO x), a1, a2, a3] st h = Ev d 160 105 [some (vO x), a1, a2, a3] (vO x :: st) h := Rnx (hB_160) (dX7_whyNot_104) rfl
theorem v160_105 {d : Nat} {st : List MV} {h : Hp} {x : Int32} {a0 a2 a3 : Option MV} : Ev d 160 105 [a0, some (vI x), a2, a3] st h = Ev d 160 106 [a0, some (vI x), a2, a3] (vI x :: st) h := Rnx (hB_160) (dX7_whyNot_105) rfl
set_option maxRecDepth 100000 in
theorem v160_106 {d : Nat} {ls : LS3} {st : List MV} {h : Hp} {a : A3} {x0 : Int32} (hS : gS h a = (1, 7)) (hc : catS st ≤ 8) : Ev (d + 1) 160 106 ls (vI x0 :: vR a :: st) h = Evk 154 (d + 1) 160 106 ls st (Ev d 154 0 [some (vR a), some (vI x0)] [] h) := RcallO (idx := 132) (n := 1) (kd := 0) (As' := [vI x0]) hB_160 dX7_whyNot_106 rfl rfl (by decide) rfl rfl (Or.inl hS) rfl hc
theorem v160_109 {d : Nat} {ls : LS3} {st : List MV} {h : Hp} {x y : Int32} : Ev d 160 109 ls (vI y :: vI x :: st) h = if x < y then Ev d 160 115 ls st h else Ev d 160 112 ls st h := Rif hB_160 dX7_whyNot_109 rfl
theorem v160_112 {d : Nat} {ls : LS3} {st : List MV} {h : Hp} : Ev d 160 112 ls st h = Ev d 160 114 ls (vI 6 :: st) h := Rnx (hB_160) (dX7_whyNot_112) rfl
theorem v160_114 {d : Nat} {ls : LS3} {h : Hp} {x : Int32} : Ev d 160 114 ls [vI x] h = some (.inl (some (vI x)), h) := Rdn hB_160 dX7_whyNot_114 rfl
theorem v160_115 {d : Nat} {st : List MV} {h : Hp} {x : Option A3} {a1 a2 a3 : Option MV} : Ev d 160 115 [some (vO x), a1, a2, a3] st h = Ev d 160 116 [some (vO x), a1, a2, a3] (vO x :: st) h := Rnx (hB_160) (dX7_whyNot_115) rfl
theorem v160_116 {d : Nat} {st : List MV} {h : Hp} {x : Int32} {a0 a2 a3 : Option MV} : Ev d 160 116 [a0, some (vI x), a2, a3] st h = Ev d 160 117 [a0, some (vI x), a2, a3] (vI x :: st) h := Rnx (hB_160) (dX7_whyNot_116) rfl
set_option maxRecDepth 100000 in
theorem v160_117 {d : Nat} {ls : LS3} {st : List MV} {h : Hp} {a : A3} {x0 : Int32} (hS : gS h a = (1, 7)) (hc : catS st ≤ 8) : Ev (d + 1) 160 117 ls (vI x0 :: vR a :: st) h = Evk 151 (d + 1) 160 117 ls st (Ev d 151 0 [some (vR a), some (vI x0)] [] h) := RcallO (idx := 113) (n := 1) (kd := 0) (As' := [vI x0]) hB_160 dX7_whyNot_117 rfl rfl (by decide) rfl rfl (Or.inl hS) rfl hc
theorem v160_120 {d : Nat} {ls : LS3} {st : List MV} {h : Hp} {x : Int32} : Ev d 160 120 ls (vI x :: st) h = if x = 0 then Ev d 160 147 ls st h else Ev d 160 123 ls st h := Rif hB_160 dX7_whyNot_120 rfl
theorem v160_123 {d : Nat} {st : List MV} {h : Hp} {x : Option A3} {a1 a2 a3 : Option MV} : Ev d 160 123 [some (vO x), a1, a2, a3] st h = Ev d 160 124 [some (vO x), a1, a2, a3] (vO x :: st) h := Rnx (hB_160) (dX7_whyNot_123) rfl
theorem v160_124 {d : Nat} {st : List MV} {h : Hp} {x : Int32} {a0 a1 a3 : Option MV} : Ev d 160 124 [a0, a1, some (vI x), a3] st h = Ev d 160 125 [a0, a1, some (vI x), a3] (vI x :: st) h := Rnx (hB_160) (dX7_whyNot_124) rfl
theorem v160_125 {d : Nat} {st : List MV} {h : Hp} {x : Option A3} {a1 a2 a3 : Option MV} : Ev d 160 125 [some (vO x), a1, a2, a3] st h = Ev d 160 126 [some (vO x), a1, a2, a3] (vO x :: st) h := Rnx (hB_160) (dX7_whyNot_125) rfl
set_option maxRecDepth 100000 in
theorem v160_126 {d : Nat} {ls : LS3} {st : List MV} {h : Hp} {a : A3} (hS : gS h a = (1, 7)) : Ev d 160 126 ls (vR a :: st) h = Ev d 160 129 ls (vO (gR h a 16) :: st) h := Rget hB_160 dX7_whyNot_126 rfl (Or.inl hS)
theorem v160_129 {d : Nat} {st : List MV} {h : Hp} {x : Int32} {a0 a2 a3 : Option MV} : Ev d 160 129 [a0, some (vI x), a2, a3] st h = Ev d 160 130 [a0, some (vI x), a2, a3] (vI x :: st) h := Rnx (hB_160) (dX7_whyNot_129) rfl
theorem v160_130 {d : Nat} {ls : LS3} {st : List MV} {h : Hp} {a : A3} {j : Int32} (hS : (gS h a).1 ∈ [2, 9]) (hj : inB j (gS h a).2) : Ev d 160 130 ls (vI j :: vR a :: st) h = Ev d 160 131 ls (vI (gI h a j.toNatClampNeg) :: st) h := Rald (ks := [2, 9]) (f := fun a j => vI (gI h a j)) hB_160 dX7_whyNot_130 rfl hS hj
theorem v160_131 {d : Nat} {st : List MV} {h : Hp} {x : Option A3} {a1 a2 a3 : Option MV} : Ev d 160 131 [some (vO x), a1, a2, a3] st h = Ev d 160 132 [some (vO x), a1, a2, a3] (vO x :: st) h := Rnx (hB_160) (dX7_whyNot_131) rfl
set_option maxRecDepth 100000 in
theorem v160_132 {d : Nat} {ls : LS3} {st : List MV} {h : Hp} {a : A3} (hS : gS h a = (1, 7)) : Ev d 160 132 ls (vR a :: st) h = Ev d 160 135 ls (vO (gR h a 17) :: st) h := Rget hB_160 dX7_whyNot_132 rfl (Or.inl hS)
theorem v160_135 {d : Nat} {st : List MV} {h : Hp} {x : Int32} {a0 a2 a3 : Option MV} : Ev d 160 135 [a0, some (vI x), a2, a3] st h = Ev d 160 136 [a0, some (vI x), a2, a3] (vI x :: st) h := Rnx (hB_160) (dX7_whyNot_135) rfl
theorem v160_136 {d : Nat} {ls : LS3} {st : List MV} {h : Hp} {a : A3} {j : Int32} (hS : (gS h a).1 ∈ [2, 9]) (hj : inB j (gS h a).2) : Ev d 160 136 ls (vI j :: vR a :: st) h = Ev d 160 137 ls (vI (gI h a j.toNatClampNeg) :: st) h := Rald (ks := [2, 9]) (f := fun a j => vI (gI h a j)) hB_160 dX7_whyNot_136 rfl hS hj
theorem v160_137 {d : Nat} {st : List MV} {h : Hp} {x : Int32} {a0 a2 a3 : Option MV} : Ev d 160 137 [a0, some (vI x), a2, a3] st h = Ev d 160 138 [a0, some (vI x), a2, a3] (vI x :: st) h := Rnx (hB_160) (dX7_whyNot_137) rfl
set_option maxRecDepth 100000 in
theorem v160_138 {d : Nat} {ls : LS3} {st : List MV} {h : Hp} {a : A3} {x0 : Int32} {x1 : Int32} {x2 : Int32} {x3 : Int32} (hS : gS h a = (1, 7)) (hc : catS st ≤ 8) : Ev (d + 1) 160 138 ls (vI x3 :: vI x2 :: vI x1 :: vI x0 :: vR a :: st) h = Evk 159 (d + 1) 160 138 ls st (Ev d 159 0 [some (vR a), some (vI x0), some (vI x1), some (vI x2), some (vI x3), none] [] h) := RcallO (idx := 135) (n := 4) (kd := 0) (As' := [vI x0, vI x1, vI x2, vI x3]) hB_160 dX7_whyNot_138 rfl rfl (by decide) rfl rfl (Or.inl hS) rfl hc
theorem v160_141 {d : Nat} {ls : LS3} {st : List MV} {h : Hp} {x : Int32} : Ev d 160 141 ls (vI x :: st) h = if x = 0 then Ev d 160 144 ls st h else Ev d 160 147 ls st h := Rifn hB_160 dX7_whyNot_141 rfl
theorem v160_144 {d : Nat} {ls : LS3} {st : List MV} {h : Hp} : Ev d 160 144 ls st h = Ev d 160 146 ls (vI 7 :: st) h := Rnx (hB_160) (dX7_whyNot_144) rfl
theorem v160_146 {d : Nat} {ls : LS3} {h : Hp} {x : Int32} : Ev d 160 146 ls [vI x] h = some (.inl (some (vI x)), h) := Rdn hB_160 dX7_whyNot_146 rfl
theorem v160_147 {d : Nat} {st : List MV} {h : Hp} {x : Option A3} {a1 a2 a3 : Option MV} : Ev d 160 147 [some (vO x), a1, a2, a3] st h = Ev d 160 148 [some (vO x), a1, a2, a3] (vO x :: st) h := Rnx (hB_160) (dX7_whyNot_147) rfl
theorem v160_148 {d : Nat} {st : List MV} {h : Hp} {x : Int32} {a0 a2 a3 : Option MV} : Ev d 160 148 [a0, some (vI x), a2, a3] st h = Ev d 160 149 [a0, some (vI x), a2, a3] (vI x :: st) h := Rnx (hB_160) (dX7_whyNot_148) rfl
set_option maxRecDepth 100000 in
theorem v160_149 {d : Nat} {ls : LS3} {st : List MV} {h : Hp} {a : A3} {x0 : Int32} (hS : gS h a = (1, 7)) (hc : catS st ≤ 8) : Ev (d + 1) 160 149 ls (vI x0 :: vR a :: st) h = Evk 152 (d + 1) 160 149 ls st (Ev d 152 0 [some (vR a), some (vI x0)] [] h) := RcallO (idx := 109) (n := 1) (kd := 0) (As' := [vI x0]) hB_160 dX7_whyNot_149 rfl rfl (by decide) rfl rfl (Or.inl hS) rfl hc
theorem v160_152 {d : Nat} {ls : LS3} {st : List MV} {h : Hp} {x : Int32} : Ev d 160 152 ls (vI x :: st) h = if x = 0 then Ev d 160 160 ls st h else Ev d 160 155 ls st h := Rif hB_160 dX7_whyNot_152 rfl
theorem v160_155 {d : Nat} {ls : LS3} {st : List MV} {h : Hp} : Ev d 160 155 ls st h = Ev d 160 157 ls (vI 8 :: st) h := Rnx (hB_160) (dX7_whyNot_155) rfl
theorem v160_157 {d : Nat} {ls : LS3} {st : List MV} {h : Hp} : Ev d 160 157 ls st h = Ev d 160 161 ls st h := Rnx (hB_160) (dX7_whyNot_157) rfl
theorem v160_160 {d : Nat} {ls : LS3} {st : List MV} {h : Hp} : Ev d 160 160 ls st h = Ev d 160 161 ls (vI 0 :: st) h := Rnx (hB_160) (dX7_whyNot_160) rfl
theorem v160_161 {d : Nat} {ls : LS3} {h : Hp} {x : Int32} : Ev d 160 161 ls [vI x] h = some (.inl (some (vI x)), h) := Rdn hB_160 dX7_whyNot_161 rfl
