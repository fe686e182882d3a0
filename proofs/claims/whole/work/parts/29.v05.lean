/-! ROWS OF THE METHODS, 5 -/
theorem hB_186 : mB 186 = cX7_replace := rfl
theorem v186_0 {d : Nat} {st : List MV} {h : Hp} {x : Option A3} {a1 a2 a3 a4 a5 a6 : Option MV} : Ev d 186 0 [some (vO x), a1, a2, a3, a4, a5, a6] st h = Ev d 186 1 [some (vO x), a1, a2, a3, a4, a5, a6] (vO x :: st) h := Rnx (hB_186) (dX7_replace_0) rfl
theorem v186_1 {d : Nat} {st : List MV} {h : Hp} {x : Int32} {a0 a2 a3 a4 a5 a6 : Option MV} : Ev d 186 1 [a0, some (vI x), a2, a3, a4, a5, a6] st h = Ev d 186 2 [a0, some (vI x), a2, a3, a4, a5, a6] (vI x :: st) h := Rnx (hB_186) (dX7_replace_1) rfl
set_option maxRecDepth 100000 in
theorem v186_2 {d : Nat} {ls : LS3} {st : List MV} {h : Hp} {a : A3} {x0 : Int32} (hS : gS h a = (1, 7)) (hc : catS st ≤ 8) : Ev (d + 1) 186 2 ls (vI x0 :: vR a :: st) h = Evk 149 (d + 1) 186 2 ls st (Ev d 149 0 [some (vR a), some (vI x0)] [] h) := RcallO (idx := 202) (n := 1) (kd := 0) (As' := [vI x0]) hB_186 dX7_replace_2 rfl rfl (by decide) rfl rfl (Or.inl hS) rfl hc
theorem v186_5 {d : Nat} {ls : LS3} {st : List MV} {h : Hp} {x : Int32} : Ev d 186 5 ls (vI x :: st) h = if x = 0 then Ev d 186 24 ls st h else Ev d 186 8 ls st h := Rif hB_186 dX7_replace_5 rfl
theorem v186_8 {d : Nat} {st : List MV} {h : Hp} {x : Option A3} {a1 a2 a3 a4 a5 a6 : Option MV} : Ev d 186 8 [some (vO x), a1, a2, a3, a4, a5, a6] st h = Ev d 186 9 [some (vO x), a1, a2, a3, a4, a5, a6] (vO x :: st) h := Rnx (hB_186) (dX7_replace_8) rfl
theorem v186_9 {d : Nat} {st : List MV} {h : Hp} {x : Int32} {a0 a1 a3 a4 a5 a6 : Option MV} : Ev d 186 9 [a0, a1, some (vI x), a3, a4, a5, a6] st h = Ev d 186 10 [a0, a1, some (vI x), a3, a4, a5, a6] (vI x :: st) h := Rnx (hB_186) (dX7_replace_9) rfl
set_option maxRecDepth 100000 in
theorem v186_10 {d : Nat} {ls : LS3} {st : List MV} {h : Hp} {a : A3} {x0 : Int32} (hS : gS h a = (1, 7)) (hc : catS st ≤ 8) : Ev (d + 1) 186 10 ls (vI x0 :: vR a :: st) h = Evk 145 (d + 1) 186 10 ls st (Ev d 145 0 [some (vR a), some (vI x0)] [] h) := RcallO (idx := 174) (n := 1) (kd := 0) (As' := [vI x0]) hB_186 dX7_replace_10 rfl rfl (by decide) rfl rfl (Or.inl hS) rfl hc
theorem v186_13 {d : Nat} {ls : LS3} {st : List MV} {h : Hp} {x : Int32} : Ev d 186 13 ls (vI x :: st) h = if x = 0 then Ev d 186 24 ls st h else Ev d 186 16 ls st h := Rif hB_186 dX7_replace_13 rfl
theorem v186_16 {d : Nat} {st : List MV} {h : Hp} {x : Option A3} {a1 a2 a3 a4 a5 a6 : Option MV} : Ev d 186 16 [some (vO x), a1, a2, a3, a4, a5, a6] st h = Ev d 186 17 [some (vO x), a1, a2, a3, a4, a5, a6] (vO x :: st) h := Rnx (hB_186) (dX7_replace_16) rfl
theorem v186_17 {d : Nat} {st : List MV} {h : Hp} {x : Int32} {a0 a1 a2 a4 a5 a6 : Option MV} : Ev d 186 17 [a0, a1, a2, some (vI x), a4, a5, a6] st h = Ev d 186 18 [a0, a1, a2, some (vI x), a4, a5, a6] (vI x :: st) h := Rnx (hB_186) (dX7_replace_17) rfl
set_option maxRecDepth 100000 in
theorem v186_18 {d : Nat} {ls : LS3} {st : List MV} {h : Hp} {a : A3} {x0 : Int32} (hS : gS h a = (1, 7)) (hc : catS st ≤ 8) : Ev (d + 1) 186 18 ls (vI x0 :: vR a :: st) h = Evk 145 (d + 1) 186 18 ls st (Ev d 145 0 [some (vR a), some (vI x0)] [] h) := RcallO (idx := 174) (n := 1) (kd := 0) (As' := [vI x0]) hB_186 dX7_replace_18 rfl rfl (by decide) rfl rfl (Or.inl hS) rfl hc
theorem v186_21 {d : Nat} {ls : LS3} {st : List MV} {h : Hp} {x : Int32} : Ev d 186 21 ls (vI x :: st) h = if x = 0 then Ev d 186 24 ls st h else Ev d 186 30 ls st h := Rifn hB_186 dX7_replace_21 rfl
theorem v186_24 {d : Nat} {st : List MV} {h : Hp} {x : Option A3} {a1 a2 a3 a4 a5 a6 : Option MV} : Ev d 186 24 [some (vO x), a1, a2, a3, a4, a5, a6] st h = Ev d 186 25 [some (vO x), a1, a2, a3, a4, a5, a6] (vO x :: st) h := Rnx (hB_186) (dX7_replace_24) rfl
theorem v186_25 {d : Nat} {ls : LS3} {st : List MV} {h : Hp} : Ev d 186 25 ls st h = Ev d 186 26 ls (vI 1 :: st) h := Rnx (hB_186) (dX7_replace_25) rfl
set_option maxRecDepth 100000 in
theorem v186_26 {d : Nat} {ls : LS3} {st : List MV} {h : Hp} {a : A3} {x0 : Int32} (hS : gS h a = (1, 7)) (hc : catS st ≤ 8) : Ev (d + 1) 186 26 ls (vI x0 :: vR a :: st) h = Evk 141 (d + 1) 186 26 ls st (Ev d 141 0 [some (vR a), some (vI x0)] [] h) := RcallO (idx := 168) (n := 1) (kd := 0) (As' := [vI x0]) hB_186 dX7_replace_26 rfl rfl (by decide) rfl rfl (Or.inl hS) rfl hc
theorem v186_29 {d : Nat} {ls : LS3} {h : Hp} {x : Int32} : Ev d 186 29 ls [vI x] h = some (.inl (some (vI x)), h) := Rdn hB_186 dX7_replace_29 rfl
theorem v186_30 {d : Nat} {st : List MV} {h : Hp} {x : Option A3} {a1 a2 a3 a4 a5 a6 : Option MV} : Ev d 186 30 [some (vO x), a1, a2, a3, a4, a5, a6] st h = Ev d 186 31 [some (vO x), a1, a2, a3, a4, a5, a6] (vO x :: st) h := Rnx (hB_186) (dX7_replace_30) rfl
theorem v186_31 {d : Nat} {st : List MV} {h : Hp} {x : Int32} {a0 a2 a3 a4 a5 a6 : Option MV} : Ev d 186 31 [a0, some (vI x), a2, a3, a4, a5, a6] st h = Ev d 186 32 [a0, some (vI x), a2, a3, a4, a5, a6] (vI x :: st) h := Rnx (hB_186) (dX7_replace_31) rfl
theorem v186_32 {d : Nat} {st : List MV} {h : Hp} {x : Int32} {a0 a1 a3 a4 a5 a6 : Option MV} : Ev d 186 32 [a0, a1, some (vI x), a3, a4, a5, a6] st h = Ev d 186 33 [a0, a1, some (vI x), a3, a4, a5, a6] (vI x :: st) h := Rnx (hB_186) (dX7_replace_32) rfl
set_option maxRecDepth 100000 in
theorem v186_33 {d : Nat} {ls : LS3} {st : List MV} {h : Hp} {a : A3} {x0 : Int32} {x1 : Int32} (hS : gS h a = (1, 7)) (hc : catS st ≤ 8) : Ev (d + 1) 186 33 ls (vI x1 :: vI x0 :: vR a :: st) h = Evk 150 (d + 1) 186 33 ls st (Ev d 150 0 [some (vR a), some (vI x0), some (vI x1)] [] h) := RcallO (idx := 105) (n := 2) (kd := 0) (As' := [vI x0, vI x1]) hB_186 dX7_replace_33 rfl rfl (by decide) rfl rfl (Or.inl hS) rfl hc
theorem v186_36 {d : Nat} {ls : LS3} {st : List MV} {h : Hp} {x : Int32} : Ev d 186 36 ls (vI x :: st) h = if x = 0 then Ev d 186 39 ls st h else Ev d 186 45 ls st h := Rifn hB_186 dX7_replace_36 rfl
theorem v186_39 {d : Nat} {st : List MV} {h : Hp} {x : Option A3} {a1 a2 a3 a4 a5 a6 : Option MV} : Ev d 186 39 [some (vO x), a1, a2, a3, a4, a5, a6] st h = Ev d 186 40 [some (vO x), a1, a2, a3, a4, a5, a6] (vO x :: st) h := Rnx (hB_186) (dX7_replace_39) rfl
theorem v186_40 {d : Nat} {ls : LS3} {st : List MV} {h : Hp} : Ev d 186 40 ls st h = Ev d 186 41 ls (vI 2 :: st) h := Rnx (hB_186) (dX7_replace_40) rfl
set_option maxRecDepth 100000 in
theorem v186_41 {d : Nat} {ls : LS3} {st : List MV} {h : Hp} {a : A3} {x0 : Int32} (hS : gS h a = (1, 7)) (hc : catS st ≤ 8) : Ev (d + 1) 186 41 ls (vI x0 :: vR a :: st) h = Evk 141 (d + 1) 186 41 ls st (Ev d 141 0 [some (vR a), some (vI x0)] [] h) := RcallO (idx := 168) (n := 1) (kd := 0) (As' := [vI x0]) hB_186 dX7_replace_41 rfl rfl (by decide) rfl rfl (Or.inl hS) rfl hc
theorem v186_44 {d : Nat} {ls : LS3} {h : Hp} {x : Int32} : Ev d 186 44 ls [vI x] h = some (.inl (some (vI x)), h) := Rdn hB_186 dX7_replace_44 rfl
theorem v186_45 {d : Nat} {st : List MV} {h : Hp} {x : Option A3} {a1 a2 a3 a4 a5 a6 : Option MV} : Ev d 186 45 [some (vO x), a1, a2, a3, a4, a5, a6] st h = Ev d 186 46 [some (vO x), a1, a2, a3, a4, a5, a6] (vO x :: st) h := Rnx (hB_186) (dX7_replace_45) rfl
set_option maxRecDepth 100000 in
theorem v186_46 {d : Nat} {ls : LS3} {st : List MV} {h : Hp} {a : A3} (hS : gS h a = (1, 7)) : Ev d 186 46 ls (vR a :: st) h = Ev d 186 49 ls (vO (gR h a 14) :: st) h := Rget hB_186 dX7_replace_46 rfl (Or.inl hS)
theorem v186_49 {d : Nat} {st : List MV} {h : Hp} {x : Int32} {a0 a2 a3 a4 a5 a6 : Option MV} : Ev d 186 49 [a0, some (vI x), a2, a3, a4, a5, a6] st h = Ev d 186 50 [a0, some (vI x), a2, a3, a4, a5, a6] (vI x :: st) h := Rnx (hB_186) (dX7_replace_49) rfl
theorem v186_50 {d : Nat} {ls : LS3} {st : List MV} {h : Hp} {a : A3} {j : Int32} (hS : (gS h a).1 ∈ [2, 9]) (hj : inB j (gS h a).2) : Ev d 186 50 ls (vI j :: vR a :: st) h = Ev d 186 51 ls (vI (gI h a j.toNatClampNeg) :: st) h := Rald (ks := [2, 9]) (f := fun a j => vI (gI h a j)) hB_186 dX7_replace_50 rfl hS hj
theorem v186_51 {d : Nat} {ls : LS3} {st : List MV} {h : Hp} : Ev d 186 51 ls st h = Ev d 186 52 ls (vI 1 :: st) h := Rnx (hB_186) (dX7_replace_51) rfl
theorem v186_52 {d : Nat} {st : List MV} {h : Hp} {x : Int32} {a0 a1 a3 a4 a5 a6 : Option MV} : Ev d 186 52 [a0, a1, some (vI x), a3, a4, a5, a6] st h = Ev d 186 53 [a0, a1, some (vI x), a3, a4, a5, a6] (vI x :: st) h := Rnx (hB_186) (dX7_replace_52) rfl
theorem v186_53 {d : Nat} {ls : LS3} {st : List MV} {h : Hp} {x y : Int32} : Ev d 186 53 ls (vI y :: vI x :: st) h = Ev d 186 54 ls (vI (x <<< (y &&& 31)) :: st) h := Rnx (hB_186) (dX7_replace_53) rfl
theorem v186_54 {d : Nat} {ls : LS3} {st : List MV} {h : Hp} : Ev d 186 54 ls st h = Ev d 186 55 ls (vI (-1) :: st) h := Rnx (hB_186) (dX7_replace_54) rfl
theorem v186_55 {d : Nat} {ls : LS3} {st : List MV} {h : Hp} {x y : Int32} : Ev d 186 55 ls (vI y :: vI x :: st) h = Ev d 186 56 ls (vI (x ^^^ y) :: st) h := Rnx (hB_186) (dX7_replace_55) rfl
theorem v186_56 {d : Nat} {ls : LS3} {st : List MV} {h : Hp} {x y : Int32} : Ev d 186 56 ls (vI y :: vI x :: st) h = Ev d 186 57 ls (vI (x &&& y) :: st) h := Rnx (hB_186) (dX7_replace_56) rfl
theorem v186_57 {d : Nat} {st : List MV} {h : Hp} {x : Int32} {a0 a1 a2 a3 a4 a5 a6 : Option MV} : Ev d 186 57 [a0, a1, a2, a3, a4, a5, a6] (vI x :: st) h = Ev d 186 59 [a0, a1, a2, a3, some (vI x), a5, a6] st h := Rnx (hB_186) (dX7_replace_57) rfl
theorem v186_59 {d : Nat} {st : List MV} {h : Hp} {x : Option A3} {a1 a2 a3 a4 a5 a6 : Option MV} : Ev d 186 59 [some (vO x), a1, a2, a3, a4, a5, a6] st h = Ev d 186 60 [some (vO x), a1, a2, a3, a4, a5, a6] (vO x :: st) h := Rnx (hB_186) (dX7_replace_59) rfl
theorem v186_60 {d : Nat} {st : List MV} {h : Hp} {x : Int32} {a0 a2 a3 a4 a5 a6 : Option MV} : Ev d 186 60 [a0, some (vI x), a2, a3, a4, a5, a6] st h = Ev d 186 61 [a0, some (vI x), a2, a3, a4, a5, a6] (vI x :: st) h := Rnx (hB_186) (dX7_replace_60) rfl
theorem v186_61 {d : Nat} {st : List MV} {h : Hp} {x : Int32} {a0 a1 a2 a4 a5 a6 : Option MV} : Ev d 186 61 [a0, a1, a2, some (vI x), a4, a5, a6] st h = Ev d 186 62 [a0, a1, a2, some (vI x), a4, a5, a6] (vI x :: st) h := Rnx (hB_186) (dX7_replace_61) rfl
theorem v186_62 {d : Nat} {st : List MV} {h : Hp} {x : Int32} {a0 a1 a2 a3 a5 a6 : Option MV} : Ev d 186 62 [a0, a1, a2, a3, some (vI x), a5, a6] st h = Ev d 186 64 [a0, a1, a2, a3, some (vI x), a5, a6] (vI x :: st) h := Rnx (hB_186) (dX7_replace_62) rfl
set_option maxRecDepth 100000 in
theorem v186_64 {d : Nat} {ls : LS3} {st : List MV} {h : Hp} {a : A3} {x0 : Int32} {x1 : Int32} {x2 : Int32} (hS : gS h a = (1, 7)) (hc : catS st ≤ 8) : Ev (d + 1) 186 64 ls (vI x2 :: vI x1 :: vI x0 :: vR a :: st) h = Evk 160 (d + 1) 186 64 ls st (Ev d 160 0 [some (vR a), some (vI x0), some (vI x1), some (vI x2)] [] h) := RcallO (idx := 211) (n := 3) (kd := 0) (As' := [vI x0, vI x1, vI x2]) hB_186 dX7_replace_64 rfl rfl (by decide) rfl rfl (Or.inl hS) rfl hc
theorem v186_67 {d : Nat} {st : List MV} {h : Hp} {x : Int32} {a0 a1 a2 a3 a4 a5 a6 : Option MV} : Ev d 186 67 [a0, a1, a2, a3, a4, a5, a6] (vI x :: st) h = Ev d 186 69 [a0, a1, a2, a3, a4, some (vI x), a6] st h := Rnx (hB_186) (dX7_replace_67) rfl
theorem v186_69 {d : Nat} {st : List MV} {h : Hp} {x : Int32} {a0 a1 a2 a3 a4 a6 : Option MV} : Ev d 186 69 [a0, a1, a2, a3, a4, some (vI x), a6] st h = Ev d 186 71 [a0, a1, a2, a3, a4, some (vI x), a6] (vI x :: st) h := Rnx (hB_186) (dX7_replace_69) rfl
theorem v186_71 {d : Nat} {ls : LS3} {st : List MV} {h : Hp} {x : Int32} : Ev d 186 71 ls (vI x :: st) h = if x ≤ 0 then Ev d 186 82 ls st h else Ev d 186 74 ls st h := Rif hB_186 dX7_replace_71 rfl
theorem v186_74 {d : Nat} {st : List MV} {h : Hp} {x : Option A3} {a1 a2 a3 a4 a5 a6 : Option MV} : Ev d 186 74 [some (vO x), a1, a2, a3, a4, a5, a6] st h = Ev d 186 75 [some (vO x), a1, a2, a3, a4, a5, a6] (vO x :: st) h := Rnx (hB_186) (dX7_replace_74) rfl
theorem v186_75 {d : Nat} {st : List MV} {h : Hp} {x : Int32} {a0 a1 a2 a3 a4 a6 : Option MV} : Ev d 186 75 [a0, a1, a2, a3, a4, some (vI x), a6] st h = Ev d 186 77 [a0, a1, a2, a3, a4, some (vI x), a6] (vI x :: st) h := Rnx (hB_186) (dX7_replace_75) rfl
theorem v186_77 {d : Nat} {ls : LS3} {st : List MV} {h : Hp} : Ev d 186 77 ls st h = Ev d 186 78 ls (vI 3 :: st) h := Rnx (hB_186) (dX7_replace_77) rfl
set_option maxRecDepth 100000 in
theorem v186_78 {d : Nat} {ls : LS3} {st : List MV} {h : Hp} {a : A3} {x0 : Int32} {x1 : Int32} (hS : gS h a = (1, 7)) (hc : catS st ≤ 8) : Ev (d + 1) 186 78 ls (vI x1 :: vI x0 :: vR a :: st) h = Evk 183 (d + 1) 186 78 ls st (Ev d 183 0 [some (vR a), some (vI x0), some (vI x1)] [] h) := RcallO (idx := 214) (n := 2) (kd := 0) (As' := [vI x0, vI x1]) hB_186 dX7_replace_78 rfl rfl (by decide) rfl rfl (Or.inl hS) rfl hc
theorem v186_81 {d : Nat} {ls : LS3} {h : Hp} {x : Int32} : Ev d 186 81 ls [vI x] h = some (.inl (some (vI x)), h) := Rdn hB_186 dX7_replace_81 rfl
theorem v186_82 {d : Nat} {st : List MV} {h : Hp} {x : Option A3} {a1 a2 a3 a4 a5 a6 : Option MV} : Ev d 186 82 [some (vO x), a1, a2, a3, a4, a5, a6] st h = Ev d 186 83 [some (vO x), a1, a2, a3, a4, a5, a6] (vO x :: st) h := Rnx (hB_186) (dX7_replace_82) rfl
theorem v186_83 {d : Nat} {ls : LS3} {st : List MV} {h : Hp} : Ev d 186 83 ls st h = Ev d 186 84 ls (vI 0 :: st) h := Rnx (hB_186) (dX7_replace_83) rfl
set_option maxRecDepth 100000 in
theorem v186_84 {d : Nat} {ls : LS3} {st : List MV} {h : Hp} {a : A3} {x : Int32} (hS : gS h a = (1, 7)) : Ev d 186 84 ls (vI x :: vR a :: st) h = Ev d 186 87 ls st (sI h a 0 x) := RputI hB_186 dX7_replace_84 rfl rfl (by decide) hS (Or.inl rfl)
theorem v186_87 {d : Nat} {st : List MV} {h : Hp} {x : Option A3} {a1 a2 a3 a4 a5 a6 : Option MV} : Ev d 186 87 [some (vO x), a1, a2, a3, a4, a5, a6] st h = Ev d 186 88 [some (vO x), a1, a2, a3, a4, a5, a6] (vO x :: st) h := Rnx (hB_186) (dX7_replace_87) rfl
set_option maxRecDepth 100000 in
theorem v186_88 {d : Nat} {ls : LS3} {st : List MV} {h : Hp} {a : A3}  (hS : gS h a = (1, 7)) (hc : catS st ≤ 8) : Ev (d + 1) 186 88 ls (vR a :: st) h = Evk 230 (d + 1) 186 88 ls st (Ev d 230 0 [some (vR a)] [] h) := RcallO (idx := 171) (n := 0) (kd := 0) (As' := []) hB_186 dX7_replace_88 rfl rfl (by decide) rfl rfl (Or.inl hS) rfl hc
theorem v186_91 {d : Nat} {st : List MV} {h : Hp} {x : Option A3} {a1 a2 a3 a4 a5 a6 : Option MV} : Ev d 186 91 [some (vO x), a1, a2, a3, a4, a5, a6] st h = Ev d 186 92 [some (vO x), a1, a2, a3, a4, a5, a6] (vO x :: st) h := Rnx (hB_186) (dX7_replace_91) rfl
set_option maxRecDepth 100000 in
theorem v186_92 {d : Nat} {ls : LS3} {st : List MV} {h : Hp} {a : A3} (hS : gS h a = (1, 7)) : Ev d 186 92 ls (vR a :: st) h = Ev d 186 95 ls (vO (gR h a 14) :: st) h := Rget hB_186 dX7_replace_92 rfl (Or.inl hS)
theorem v186_95 {d : Nat} {st : List MV} {h : Hp} {x : Int32} {a0 a2 a3 a4 a5 a6 : Option MV} : Ev d 186 95 [a0, some (vI x), a2, a3, a4, a5, a6] st h = Ev d 186 96 [a0, some (vI x), a2, a3, a4, a5, a6] (vI x :: st) h := Rnx (hB_186) (dX7_replace_95) rfl
theorem v186_96 {d : Nat} {st : List MV} {h : Hp} {x : Int32} {a0 a1 a2 a3 a5 a6 : Option MV} : Ev d 186 96 [a0, a1, a2, a3, some (vI x), a5, a6] st h = Ev d 186 98 [a0, a1, a2, a3, some (vI x), a5, a6] (vI x :: st) h := Rnx (hB_186) (dX7_replace_96) rfl
theorem v186_98 {d : Nat} {ls : LS3} {st : List MV} {h : Hp} : Ev d 186 98 ls st h = Ev d 186 99 ls (vI 1 :: st) h := Rnx (hB_186) (dX7_replace_98) rfl
theorem v186_99 {d : Nat} {st : List MV} {h : Hp} {x : Int32} {a0 a1 a2 a4 a5 a6 : Option MV} : Ev d 186 99 [a0, a1, a2, some (vI x), a4, a5, a6] st h = Ev d 186 100 [a0, a1, a2, some (vI x), a4, a5, a6] (vI x :: st) h := Rnx (hB_186) (dX7_replace_99) rfl
theorem v186_100 {d : Nat} {ls : LS3} {st : List MV} {h : Hp} {x y : Int32} : Ev d 186 100 ls (vI y :: vI x :: st) h = Ev d 186 101 ls (vI (x <<< (y &&& 31)) :: st) h := Rnx (hB_186) (dX7_replace_100) rfl
theorem v186_101 {d : Nat} {ls : LS3} {st : List MV} {h : Hp} {x y : Int32} : Ev d 186 101 ls (vI y :: vI x :: st) h = Ev d 186 102 ls (vI (x ||| y) :: st) h := Rnx (hB_186) (dX7_replace_101) rfl
theorem v186_102 {d : Nat} {ls : LS3} {st : List MV} {h : Hp} {a : A3} {j : Int32} {x : Int32} (hS : (gS h a).1 = 2) (hj : inB j (gS h a).2) : Ev d 186 102 ls (vI x :: vI j :: vR a :: st) h = Ev d 186 103 ls st (sI h a j.toNatClampNeg x) := RastI hB_186 dX7_replace_102 hS hj
theorem v186_103 {d : Nat} {st : List MV} {h : Hp} {x : Option A3} {a1 a2 a3 a4 a5 a6 : Option MV} : Ev d 186 103 [some (vO x), a1, a2, a3, a4, a5, a6] st h = Ev d 186 104 [some (vO x), a1, a2, a3, a4, a5, a6] (vO x :: st) h := Rnx (hB_186) (dX7_replace_103) rfl
theorem v186_104 {d : Nat} {st : List MV} {h : Hp} {x : Int32} {a0 a2 a3 a4 a5 a6 : Option MV} : Ev d 186 104 [a0, some (vI x), a2, a3, a4, a5, a6] st h = Ev d 186 105 [a0, some (vI x), a2, a3, a4, a5, a6] (vI x :: st) h := Rnx (hB_186) (dX7_replace_104) rfl
theorem v186_105 {d : Nat} {st : List MV} {h : Hp} {x : Option A3} {a1 a2 a3 a4 a5 a6 : Option MV} : Ev d 186 105 [some (vO x), a1, a2, a3, a4, a5, a6] st h = Ev d 186 106 [some (vO x), a1, a2, a3, a4, a5, a6] (vO x :: st) h := Rnx (hB_186) (dX7_replace_105) rfl
set_option maxRecDepth 100000 in
theorem v186_106 {d : Nat} {ls : LS3} {st : List MV} {h : Hp} {a : A3} (hS : gS h a = (1, 7)) : Ev d 186 106 ls (vR a :: st) h = Ev d 186 109 ls (vO (gR h a 14) :: st) h := Rget hB_186 dX7_replace_106 rfl (Or.inl hS)
theorem v186_109 {d : Nat} {st : List MV} {h : Hp} {x : Int32} {a0 a2 a3 a4 a5 a6 : Option MV} : Ev d 186 109 [a0, some (vI x), a2, a3, a4, a5, a6] st h = Ev d 186 110 [a0, some (vI x), a2, a3, a4, a5, a6] (vI x :: st) h := Rnx (hB_186) (dX7_replace_109) rfl
theorem v186_110 {d : Nat} {ls : LS3} {st : List MV} {h : Hp} {a : A3} {j : Int32} (hS : (gS h a).1 ∈ [2, 9]) (hj : inB j (gS h a).2) : Ev d 186 110 ls (vI j :: vR a :: st) h = Ev d 186 111 ls (vI (gI h a j.toNatClampNeg) :: st) h := Rald (ks := [2, 9]) (f := fun a j => vI (gI h a j)) hB_186 dX7_replace_110 rfl hS hj
set_option maxRecDepth 100000 in
theorem v186_111 {d : Nat} {ls : LS3} {st : List MV} {h : Hp} {a : A3} {x0 : Int32} {x1 : Int32} (hS : gS h a = (1, 7)) (hc : catS st ≤ 8) : Ev (d + 1) 186 111 ls (vI x1 :: vI x0 :: vR a :: st) h = Evk 156 (d + 1) 186 111 ls st (Ev d 156 0 [some (vR a), some (vI x0), some (vI x1), none] [] h) := RcallO (idx := 139) (n := 2) (kd := 0) (As' := [vI x0, vI x1]) hB_186 dX7_replace_111 rfl rfl (by decide) rfl rfl (Or.inl hS) rfl hc
theorem v186_114 {d : Nat} {ls : LS3} {st : List MV} {h : Hp} {x : Int32} : Ev d 186 114 ls (vI x :: st) h = if x = 0 then Ev d 186 121 ls st h else Ev d 186 117 ls st h := Rif hB_186 dX7_replace_114 rfl
theorem v186_117 {d : Nat} {ls : LS3} {st : List MV} {h : Hp} : Ev d 186 117 ls st h = Ev d 186 118 ls (vI 1 :: st) h := Rnx (hB_186) (dX7_replace_117) rfl
theorem v186_118 {d : Nat} {ls : LS3} {st : List MV} {h : Hp} : Ev d 186 118 ls st h = Ev d 186 122 ls st h := Rnx (hB_186) (dX7_replace_118) rfl
theorem v186_121 {d : Nat} {ls : LS3} {st : List MV} {h : Hp} : Ev d 186 121 ls st h = Ev d 186 122 ls (vI 0 :: st) h := Rnx (hB_186) (dX7_replace_121) rfl
theorem v186_122 {d : Nat} {st : List MV} {h : Hp} {x : Int32} {a0 a1 a2 a3 a4 a5 a6 : Option MV} : Ev d 186 122 [a0, a1, a2, a3, a4, a5, a6] (vI x :: st) h = Ev d 186 124 [a0, a1, a2, a3, a4, a5, some (vI x)] st h := Rnx (hB_186) (dX7_replace_122) rfl
theorem v186_124 {d : Nat} {st : List MV} {h : Hp} {x : Option A3} {a1 a2 a3 a4 a5 a6 : Option MV} : Ev d 186 124 [some (vO x), a1, a2, a3, a4, a5, a6] st h = Ev d 186 125 [some (vO x), a1, a2, a3, a4, a5, a6] (vO x :: st) h := Rnx (hB_186) (dX7_replace_124) rfl
theorem v186_125 {d : Nat} {st : List MV} {h : Hp} {x : Int32} {a0 a2 a3 a4 a5 a6 : Option MV} : Ev d 186 125 [a0, some (vI x), a2, a3, a4, a5, a6] st h = Ev d 186 126 [a0, some (vI x), a2, a3, a4, a5, a6] (vI x :: st) h := Rnx (hB_186) (dX7_replace_125) rfl
set_option maxRecDepth 100000 in
theorem v186_126 {d : Nat} {ls : LS3} {st : List MV} {h : Hp} {a : A3} {x0 : Int32} (hS : gS h a = (1, 7)) (hc : catS st ≤ 8) : Ev (d + 1) 186 126 ls (vI x0 :: vR a :: st) h = Evk 162 (d + 1) 186 126 ls st (Ev d 162 0 [some (vR a), some (vI x0)] [] h) := RcallO (idx := 217) (n := 1) (kd := 0) (As' := [vI x0]) hB_186 dX7_replace_126 rfl rfl (by decide) rfl rfl (Or.inl hS) rfl hc
theorem v186_129 {d : Nat} {st : List MV} {h : Hp} {x : Int32} {a0 a1 a2 a3 a4 a5 : Option MV} : Ev d 186 129 [a0, a1, a2, a3, a4, a5, some (vI x)] st h = Ev d 186 131 [a0, a1, a2, a3, a4, a5, some (vI x)] (vI x :: st) h := Rnx (hB_186) (dX7_replace_129) rfl
theorem v186_131 {d : Nat} {ls : LS3} {h : Hp} {x : Int32} : Ev d 186 131 ls [vI x] h = some (.inl (some (vI x)), h) := Rdn hB_186 dX7_replace_131 rfl
theorem hB_187 : mB 187 = cX7_whyNotJoin := rfl
theorem v187_0 {d : Nat} {st : List MV} {h : Hp} {x : Option A3} {a1 a2 : Option MV} : Ev d 187 0 [some (vO x), a1, a2] st h = Ev d 187 1 [some (vO x), a1, a2] (vO x :: st) h := Rnx (hB_187) (dX7_whyNotJoin_0) rfl
theorem v187_1 {d : Nat} {st : List MV} {h : Hp} {x : Int32} {a0 a2 : Option MV} : Ev d 187 1 [a0, some (vI x), a2] st h = Ev d 187 2 [a0, some (vI x), a2] (vI x :: st) h := Rnx (hB_187) (dX7_whyNotJoin_1) rfl
set_option maxRecDepth 100000 in
theorem v187_2 {d : Nat} {ls : LS3} {st : List MV} {h : Hp} {a : A3} {x0 : Int32} (hS : gS h a = (1, 7)) (hc : catS st ≤ 8) : Ev (d + 1) 187 2 ls (vI x0 :: vR a :: st) h = Evk 149 (d + 1) 187 2 ls st (Ev d 149 0 [some (vR a), some (vI x0)] [] h) := RcallO (idx := 202) (n := 1) (kd := 0) (As' := [vI x0]) hB_187 dX7_whyNotJoin_2 rfl rfl (by decide) rfl rfl (Or.inl hS) rfl hc
theorem v187_5 {d : Nat} {ls : LS3} {st : List MV} {h : Hp} {x : Int32} : Ev d 187 5 ls (vI x :: st) h = if x = 0 then Ev d 187 16 ls st h else Ev d 187 8 ls st h := Rif hB_187 dX7_whyNotJoin_5 rfl
theorem v187_8 {d : Nat} {st : List MV} {h : Hp} {x : Option A3} {a1 a2 : Option MV} : Ev d 187 8 [some (vO x), a1, a2] st h = Ev d 187 9 [some (vO x), a1, a2] (vO x :: st) h := Rnx (hB_187) (dX7_whyNotJoin_8) rfl
theorem v187_9 {d : Nat} {st : List MV} {h : Hp} {x : Int32} {a0 a1 : Option MV} : Ev d 187 9 [a0, a1, some (vI x)] st h = Ev d 187 10 [a0, a1, some (vI x)] (vI x :: st) h := Rnx (hB_187) (dX7_whyNotJoin_9) rfl
set_option maxRecDepth 100000 in
theorem v187_10 {d : Nat} {ls : LS3} {st : List MV} {h : Hp} {a : A3} {x0 : Int32} (hS : gS h a = (1, 7)) (hc : catS st ≤ 8) : Ev (d + 1) 187 10 ls (vI x0 :: vR a :: st) h = Evk 145 (d + 1) 187 10 ls st (Ev d 145 0 [some (vR a), some (vI x0)] [] h) := RcallO (idx := 174) (n := 1) (kd := 0) (As' := [vI x0]) hB_187 dX7_whyNotJoin_10 rfl rfl (by decide) rfl rfl (Or.inl hS) rfl hc
theorem v187_13 {d : Nat} {ls : LS3} {st : List MV} {h : Hp} {x : Int32} : Ev d 187 13 ls (vI x :: st) h = if x = 0 then Ev d 187 16 ls st h else Ev d 187 22 ls st h := Rifn hB_187 dX7_whyNotJoin_13 rfl
theorem v187_16 {d : Nat} {st : List MV} {h : Hp} {x : Option A3} {a1 a2 : Option MV} : Ev d 187 16 [some (vO x), a1, a2] st h = Ev d 187 17 [some (vO x), a1, a2] (vO x :: st) h := Rnx (hB_187) (dX7_whyNotJoin_16) rfl
theorem v187_17 {d : Nat} {ls : LS3} {st : List MV} {h : Hp} : Ev d 187 17 ls st h = Ev d 187 18 ls (vI 1 :: st) h := Rnx (hB_187) (dX7_whyNotJoin_17) rfl
set_option maxRecDepth 100000 in
theorem v187_18 {d : Nat} {ls : LS3} {st : List MV} {h : Hp} {a : A3} {x0 : Int32} (hS : gS h a = (1, 7)) (hc : catS st ≤ 8) : Ev (d + 1) 187 18 ls (vI x0 :: vR a :: st) h = Evk 141 (d + 1) 187 18 ls st (Ev d 141 0 [some (vR a), some (vI x0)] [] h) := RcallO (idx := 168) (n := 1) (kd := 0) (As' := [vI x0]) hB_187 dX7_whyNotJoin_18 rfl rfl (by decide) rfl rfl (Or.inl hS) rfl hc
theorem v187_21 {d : Nat} {ls : LS3} {h : Hp} {x : Int32} : Ev d 187 21 ls [vI x] h = some (.inl (some (vI x)), h) := Rdn hB_187 dX7_whyNotJoin_21 rfl
theorem v187_22 {d : Nat} {st : List MV} {h : Hp} {x : Option A3} {a1 a2 : Option MV} : Ev d 187 22 [some (vO x), a1, a2] st h = Ev d 187 23 [some (vO x), a1, a2] (vO x :: st) h := Rnx (hB_187) (dX7_whyNotJoin_22) rfl
theorem v187_23 {d : Nat} {ls : LS3} {st : List MV} {h : Hp} : Ev d 187 23 ls st h = Ev d 187 24 ls (vI 0 :: st) h := Rnx (hB_187) (dX7_whyNotJoin_23) rfl
set_option maxRecDepth 100000 in
theorem v187_24 {d : Nat} {ls : LS3} {st : List MV} {h : Hp} {a : A3} {x : Int32} (hS : gS h a = (1, 7)) : Ev d 187 24 ls (vI x :: vR a :: st) h = Ev d 187 27 ls st (sI h a 0 x) := RputI hB_187 dX7_whyNotJoin_24 rfl rfl (by decide) hS (Or.inl rfl)
theorem v187_27 {d : Nat} {st : List MV} {h : Hp} {x : Option A3} {a1 a2 : Option MV} : Ev d 187 27 [some (vO x), a1, a2] st h = Ev d 187 28 [some (vO x), a1, a2] (vO x :: st) h := Rnx (hB_187) (dX7_whyNotJoin_27) rfl
theorem v187_28 {d : Nat} {st : List MV} {h : Hp} {x : Int32} {a0 a2 : Option MV} : Ev d 187 28 [a0, some (vI x), a2] st h = Ev d 187 29 [a0, some (vI x), a2] (vI x :: st) h := Rnx (hB_187) (dX7_whyNotJoin_28) rfl
theorem v187_29 {d : Nat} {st : List MV} {h : Hp} {x : Int32} {a0 a1 : Option MV} : Ev d 187 29 [a0, a1, some (vI x)] st h = Ev d 187 30 [a0, a1, some (vI x)] (vI x :: st) h := Rnx (hB_187) (dX7_whyNotJoin_29) rfl
theorem v187_30 {d : Nat} {st : List MV} {h : Hp} {x : Option A3} {a1 a2 : Option MV} : Ev d 187 30 [some (vO x), a1, a2] st h = Ev d 187 31 [some (vO x), a1, a2] (vO x :: st) h := Rnx (hB_187) (dX7_whyNotJoin_30) rfl
set_option maxRecDepth 100000 in
theorem v187_31 {d : Nat} {ls : LS3} {st : List MV} {h : Hp} {a : A3} (hS : gS h a = (1, 7)) : Ev d 187 31 ls (vR a :: st) h = Ev d 187 34 ls (vO (gR h a 14) :: st) h := Rget hB_187 dX7_whyNotJoin_31 rfl (Or.inl hS)
theorem v187_34 {d : Nat} {st : List MV} {h : Hp} {x : Int32} {a0 a2 : Option MV} : Ev d 187 34 [a0, some (vI x), a2] st h = Ev d 187 35 [a0, some (vI x), a2] (vI x :: st) h := Rnx (hB_187) (dX7_whyNotJoin_34) rfl
theorem v187_35 {d : Nat} {ls : LS3} {st : List MV} {h : Hp} {a : A3} {j : Int32} (hS : (gS h a).1 ∈ [2, 9]) (hj : inB j (gS h a).2) : Ev d 187 35 ls (vI j :: vR a :: st) h = Ev d 187 36 ls (vI (gI h a j.toNatClampNeg) :: st) h := Rald (ks := [2, 9]) (f := fun a j => vI (gI h a j)) hB_187 dX7_whyNotJoin_35 rfl hS hj
set_option maxRecDepth 100000 in
theorem v187_36 {d : Nat} {ls : LS3} {st : List MV} {h : Hp} {a : A3} {x0 : Int32} {x1 : Int32} {x2 : Int32} (hS : gS h a = (1, 7)) (hc : catS st ≤ 8) : Ev (d + 1) 187 36 ls (vI x2 :: vI x1 :: vI x0 :: vR a :: st) h = Evk 160 (d + 1) 187 36 ls st (Ev d 160 0 [some (vR a), some (vI x0), some (vI x1), some (vI x2)] [] h) := RcallO (idx := 211) (n := 3) (kd := 0) (As' := [vI x0, vI x1, vI x2]) hB_187 dX7_whyNotJoin_36 rfl rfl (by decide) rfl rfl (Or.inl hS) rfl hc
theorem v187_39 {d : Nat} {ls : LS3} {h : Hp} {x : Int32} : Ev d 187 39 ls [vI x] h = some (.inl (some (vI x)), h) := Rdn hB_187 dX7_whyNotJoin_39 rfl
theorem hB_188 : mB 188 = cX7_lacks := rfl
theorem v188_0 {d : Nat} {st : List MV} {h : Hp} {x : Option A3} {a1 a2 a3 : Option MV} : Ev d 188 0 [some (vO x), a1, a2, a3] st h = Ev d 188 1 [some (vO x), a1, a2, a3] (vO x :: st) h := Rnx (hB_188) (dX7_lacks_0) rfl
theorem v188_1 {d : Nat} {st : List MV} {h : Hp} {x : Int32} {a0 a2 a3 : Option MV} : Ev d 188 1 [a0, some (vI x), a2, a3] st h = Ev d 188 2 [a0, some (vI x), a2, a3] (vI x :: st) h := Rnx (hB_188) (dX7_lacks_1) rfl
set_option maxRecDepth 100000 in
theorem v188_2 {d : Nat} {ls : LS3} {st : List MV} {h : Hp} {a : A3} {x0 : Int32} (hS : gS h a = (1, 7)) (hc : catS st ≤ 8) : Ev (d + 1) 188 2 ls (vI x0 :: vR a :: st) h = Evk 149 (d + 1) 188 2 ls st (Ev d 149 0 [some (vR a), some (vI x0)] [] h) := RcallO (idx := 202) (n := 1) (kd := 0) (As' := [vI x0]) hB_188 dX7_lacks_2 rfl rfl (by decide) rfl rfl (Or.inl hS) rfl hc
theorem v188_5 {d : Nat} {ls : LS3} {st : List MV} {h : Hp} {x : Int32} : Ev d 188 5 ls (vI x :: st) h = if x = 0 then Ev d 188 8 ls st h else Ev d 188 14 ls st h := Rifn hB_188 dX7_lacks_5 rfl
theorem v188_8 {d : Nat} {st : List MV} {h : Hp} {x : Option A3} {a1 a2 a3 : Option MV} : Ev d 188 8 [some (vO x), a1, a2, a3] st h = Ev d 188 9 [some (vO x), a1, a2, a3] (vO x :: st) h := Rnx (hB_188) (dX7_lacks_8) rfl
theorem v188_9 {d : Nat} {ls : LS3} {st : List MV} {h : Hp} : Ev d 188 9 ls st h = Ev d 188 10 ls (vI 1 :: st) h := Rnx (hB_188) (dX7_lacks_9) rfl
set_option maxRecDepth 100000 in
theorem v188_10 {d : Nat} {ls : LS3} {st : List MV} {h : Hp} {a : A3} {x0 : Int32} (hS : gS h a = (1, 7)) (hc : catS st ≤ 8) : Ev (d + 1) 188 10 ls (vI x0 :: vR a :: st) h = Evk 141 (d + 1) 188 10 ls st (Ev d 141 0 [some (vR a), some (vI x0)] [] h) := RcallO (idx := 168) (n := 1) (kd := 0) (As' := [vI x0]) hB_188 dX7_lacks_10 rfl rfl (by decide) rfl rfl (Or.inl hS) rfl hc
theorem v188_13 {d : Nat} {ls : LS3} {h : Hp} {x : Int32} : Ev d 188 13 ls [vI x] h = some (.inl (some (vI x)), h) := Rdn hB_188 dX7_lacks_13 rfl
theorem v188_14 {d : Nat} {st : List MV} {h : Hp} {x : Int32} {a0 a1 a3 : Option MV} : Ev d 188 14 [a0, a1, some (vI x), a3] st h = Ev d 188 15 [a0, a1, some (vI x), a3] (vI x :: st) h := Rnx (hB_188) (dX7_lacks_14) rfl
theorem v188_15 {d : Nat} {ls : LS3} {st : List MV} {h : Hp} : Ev d 188 15 ls st h = Ev d 188 16 ls (vI 0 :: st) h := Rnx (hB_188) (dX7_lacks_15) rfl
theorem v188_16 {d : Nat} {ls : LS3} {st : List MV} {h : Hp} : Ev d 188 16 ls st h = Ev d 188 17 ls (vI 4 :: st) h := Rnx (hB_188) (dX7_lacks_16) rfl
set_option maxRecDepth 100000 in
theorem v188_17 {d : Nat} {ls : LS3} {st : List MV} {h : Hp} {x0 : Int32} {x1 : Int32} {x2 : Int32} (hc : catS st ≤ 8) : Ev (d + 1) 188 17 ls (vI x2 :: vI x1 :: vI x0 :: st) h = Evk 143 (d + 1) 188 17 ls st (Ev d 143 0 [some (vI x0), some (vI x1), some (vI x2)] [] h) := RcallS (idx := 87) (n := 3) (kd := 1) (As := [vI x0, vI x1, vI x2]) hB_188 dX7_lacks_17 rfl rfl (by decide) rfl rfl rfl hc
theorem v188_20 {d : Nat} {ls : LS3} {st : List MV} {h : Hp} {x : Int32} : Ev d 188 20 ls (vI x :: st) h = if x = 0 then Ev d 188 23 ls st h else Ev d 188 29 ls st h := Rifn hB_188 dX7_lacks_20 rfl
theorem v188_23 {d : Nat} {st : List MV} {h : Hp} {x : Option A3} {a1 a2 a3 : Option MV} : Ev d 188 23 [some (vO x), a1, a2, a3] st h = Ev d 188 24 [some (vO x), a1, a2, a3] (vO x :: st) h := Rnx (hB_188) (dX7_lacks_23) rfl
theorem v188_24 {d : Nat} {ls : LS3} {st : List MV} {h : Hp} : Ev d 188 24 ls st h = Ev d 188 25 ls (vI 2 :: st) h := Rnx (hB_188) (dX7_lacks_24) rfl
set_option maxRecDepth 100000 in
theorem v188_25 {d : Nat} {ls : LS3} {st : List MV} {h : Hp} {a : A3} {x0 : Int32} (hS : gS h a = (1, 7)) (hc : catS st ≤ 8) : Ev (d + 1) 188 25 ls (vI x0 :: vR a :: st) h = Evk 141 (d + 1) 188 25 ls st (Ev d 141 0 [some (vR a), some (vI x0)] [] h) := RcallO (idx := 168) (n := 1) (kd := 0) (As' := [vI x0]) hB_188 dX7_lacks_25 rfl rfl (by decide) rfl rfl (Or.inl hS) rfl hc
theorem v188_28 {d : Nat} {ls : LS3} {h : Hp} {x : Int32} : Ev d 188 28 ls [vI x] h = some (.inl (some (vI x)), h) := Rdn hB_188 dX7_lacks_28 rfl
theorem v188_29 {d : Nat} {st : List MV} {h : Hp} {x : Option A3} {a1 a2 a3 : Option MV} : Ev d 188 29 [some (vO x), a1, a2, a3] st h = Ev d 188 30 [some (vO x), a1, a2, a3] (vO x :: st) h := Rnx (hB_188) (dX7_lacks_29) rfl
theorem v188_30 {d : Nat} {ls : LS3} {st : List MV} {h : Hp} : Ev d 188 30 ls st h = Ev d 188 31 ls (vI 0 :: st) h := Rnx (hB_188) (dX7_lacks_30) rfl
set_option maxRecDepth 100000 in
theorem v188_31 {d : Nat} {ls : LS3} {st : List MV} {h : Hp} {a : A3} {x : Int32} (hS : gS h a = (1, 7)) : Ev d 188 31 ls (vI x :: vR a :: st) h = Ev d 188 34 ls st (sI h a 0 x) := RputI hB_188 dX7_lacks_31 rfl rfl (by decide) hS (Or.inl rfl)
theorem v188_34 {d : Nat} {st : List MV} {h : Hp} {x : Option A3} {a1 a2 a3 : Option MV} : Ev d 188 34 [some (vO x), a1, a2, a3] st h = Ev d 188 35 [some (vO x), a1, a2, a3] (vO x :: st) h := Rnx (hB_188) (dX7_lacks_34) rfl
theorem v188_35 {d : Nat} {st : List MV} {h : Hp} {x : Int32} {a0 a2 a3 : Option MV} : Ev d 188 35 [a0, some (vI x), a2, a3] st h = Ev d 188 36 [a0, some (vI x), a2, a3] (vI x :: st) h := Rnx (hB_188) (dX7_lacks_35) rfl
theorem v188_36 {d : Nat} {st : List MV} {h : Hp} {x : Int32} {a0 a1 a3 : Option MV} : Ev d 188 36 [a0, a1, some (vI x), a3] st h = Ev d 188 37 [a0, a1, some (vI x), a3] (vI x :: st) h := Rnx (hB_188) (dX7_lacks_36) rfl
set_option maxRecDepth 100000 in
theorem v188_37 {d : Nat} {ls : LS3} {st : List MV} {h : Hp} {a : A3} {x0 : Int32} {x1 : Int32} (hS : gS h a = (1, 7)) (hc : catS st ≤ 8) : Ev (d + 1) 188 37 ls (vI x1 :: vI x0 :: vR a :: st) h = Evk 153 (d + 1) 188 37 ls st (Ev d 153 0 [some (vR a), some (vI x0), some (vI x1)] [] h) := RcallO (idx := 97) (n := 2) (kd := 0) (As' := [vI x0, vI x1]) hB_188 dX7_lacks_37 rfl rfl (by decide) rfl rfl (Or.inl hS) rfl hc
theorem v188_40 {d : Nat} {st : List MV} {h : Hp} {x : Option A3} {a1 a2 a3 : Option MV} : Ev d 188 40 [some (vO x), a1, a2, a3] st h = Ev d 188 41 [some (vO x), a1, a2, a3] (vO x :: st) h := Rnx (hB_188) (dX7_lacks_40) rfl
theorem v188_41 {d : Nat} {st : List MV} {h : Hp} {x : Int32} {a0 a2 a3 : Option MV} : Ev d 188 41 [a0, some (vI x), a2, a3] st h = Ev d 188 42 [a0, some (vI x), a2, a3] (vI x :: st) h := Rnx (hB_188) (dX7_lacks_41) rfl
theorem v188_42 {d : Nat} {st : List MV} {h : Hp} {x : Option A3} {a1 a2 a3 : Option MV} : Ev d 188 42 [some (vO x), a1, a2, a3] st h = Ev d 188 43 [some (vO x), a1, a2, a3] (vO x :: st) h := Rnx (hB_188) (dX7_lacks_42) rfl
set_option maxRecDepth 100000 in
theorem v188_43 {d : Nat} {ls : LS3} {st : List MV} {h : Hp} {a : A3} (hS : gS h a = (1, 7)) : Ev d 188 43 ls (vR a :: st) h = Ev d 188 46 ls (vO (gR h a 14) :: st) h := Rget hB_188 dX7_lacks_43 rfl (Or.inl hS)
theorem v188_46 {d : Nat} {st : List MV} {h : Hp} {x : Int32} {a0 a2 a3 : Option MV} : Ev d 188 46 [a0, some (vI x), a2, a3] st h = Ev d 188 47 [a0, some (vI x), a2, a3] (vI x :: st) h := Rnx (hB_188) (dX7_lacks_46) rfl
theorem v188_47 {d : Nat} {ls : LS3} {st : List MV} {h : Hp} {a : A3} {j : Int32} (hS : (gS h a).1 ∈ [2, 9]) (hj : inB j (gS h a).2) : Ev d 188 47 ls (vI j :: vR a :: st) h = Ev d 188 48 ls (vI (gI h a j.toNatClampNeg) :: st) h := Rald (ks := [2, 9]) (f := fun a j => vI (gI h a j)) hB_188 dX7_lacks_47 rfl hS hj
theorem v188_48 {d : Nat} {st : List MV} {h : Hp} {x : Int32} {a0 a1 a3 : Option MV} : Ev d 188 48 [a0, a1, some (vI x), a3] st h = Ev d 188 49 [a0, a1, some (vI x), a3] (vI x :: st) h := Rnx (hB_188) (dX7_lacks_48) rfl
set_option maxRecDepth 100000 in
theorem v188_49 {d : Nat} {ls : LS3} {st : List MV} {h : Hp} {a : A3} {x0 : Int32} {x1 : Int32} {x2 : Int32} (hS : gS h a = (1, 7)) (hc : catS st ≤ 8) : Ev (d + 1) 188 49 ls (vI x2 :: vI x1 :: vI x0 :: vR a :: st) h = Evk 155 (d + 1) 188 49 ls st (Ev d 155 0 [some (vR a), some (vI x0), some (vI x1), some (vI x2), none, none, none] [] h) := RcallO (idx := 101) (n := 3) (kd := 0) (As' := [vI x0, vI x1, vI x2]) hB_188 dX7_lacks_49 rfl rfl (by decide) rfl rfl (Or.inl hS) rfl hc
theorem v188_52 {d : Nat} {ls : LS3} {st : List MV} {h : Hp} {x y : Int32} : Ev d 188 52 ls (vI y :: vI x :: st) h = Ev d 188 53 ls (vI (x - y) :: st) h := Rnx (hB_188) (dX7_lacks_52) rfl
theorem v188_53 {d : Nat} {st : List MV} {h : Hp} {x : Int32} {a0 a1 a2 a3 : Option MV} : Ev d 188 53 [a0, a1, a2, a3] (vI x :: st) h = Ev d 188 54 [a0, a1, a2, some (vI x)] st h := Rnx (hB_188) (dX7_lacks_53) rfl
theorem v188_54 {d : Nat} {st : List MV} {h : Hp} {x : Int32} {a0 a1 a2 : Option MV} : Ev d 188 54 [a0, a1, a2, some (vI x)] st h = Ev d 188 55 [a0, a1, a2, some (vI x)] (vI x :: st) h := Rnx (hB_188) (dX7_lacks_54) rfl
theorem v188_55 {d : Nat} {ls : LS3} {st : List MV} {h : Hp} {x : Int32} : Ev d 188 55 ls (vI x :: st) h = if x ≤ 0 then Ev d 188 62 ls st h else Ev d 188 58 ls st h := Rif hB_188 dX7_lacks_55 rfl
theorem v188_58 {d : Nat} {st : List MV} {h : Hp} {x : Int32} {a0 a1 a2 : Option MV} : Ev d 188 58 [a0, a1, a2, some (vI x)] st h = Ev d 188 59 [a0, a1, a2, some (vI x)] (vI x :: st) h := Rnx (hB_188) (dX7_lacks_58) rfl
theorem v188_59 {d : Nat} {ls : LS3} {st : List MV} {h : Hp} : Ev d 188 59 ls st h = Ev d 188 63 ls st h := Rnx (hB_188) (dX7_lacks_59) rfl
theorem v188_62 {d : Nat} {ls : LS3} {st : List MV} {h : Hp} : Ev d 188 62 ls st h = Ev d 188 63 ls (vI 0 :: st) h := Rnx (hB_188) (dX7_lacks_62) rfl
theorem v188_63 {d : Nat} {ls : LS3} {h : Hp} {x : Int32} : Ev d 188 63 ls [vI x] h = some (.inl (some (vI x)), h) := Rdn hB_188 dX7_lacks_63 rfl
theorem hB_189 : mB 189 = cX7_replacements := rfl
theorem v189_0 {d : Nat} {st : List MV} {h : Hp} {x : Option A3} {a1 a2 a3 a4 a5 : Option MV} : Ev d 189 0 [some (vO x), a1, a2, a3, a4, a5] st h = Ev d 189 1 [some (vO x), a1, a2, a3, a4, a5] (vO x :: st) h := Rnx (hB_189) (dX7_replacements_0) rfl
theorem v189_1 {d : Nat} {st : List MV} {h : Hp} {x : Int32} {a0 a2 a3 a4 a5 : Option MV} : Ev d 189 1 [a0, some (vI x), a2, a3, a4, a5] st h = Ev d 189 2 [a0, some (vI x), a2, a3, a4, a5] (vI x :: st) h := Rnx (hB_189) (dX7_replacements_1) rfl
set_option maxRecDepth 100000 in
theorem v189_2 {d : Nat} {ls : LS3} {st : List MV} {h : Hp} {a : A3} {x0 : Int32} (hS : gS h a = (1, 7)) (hc : catS st ≤ 8) : Ev (d + 1) 189 2 ls (vI x0 :: vR a :: st) h = Evk 149 (d + 1) 189 2 ls st (Ev d 149 0 [some (vR a), some (vI x0)] [] h) := RcallO (idx := 202) (n := 1) (kd := 0) (As' := [vI x0]) hB_189 dX7_replacements_2 rfl rfl (by decide) rfl rfl (Or.inl hS) rfl hc
theorem v189_5 {d : Nat} {ls : LS3} {st : List MV} {h : Hp} {x : Int32} : Ev d 189 5 ls (vI x :: st) h = if x = 0 then Ev d 189 16 ls st h else Ev d 189 8 ls st h := Rif hB_189 dX7_replacements_5 rfl
theorem v189_8 {d : Nat} {st : List MV} {h : Hp} {x : Option A3} {a1 a2 a3 a4 a5 : Option MV} : Ev d 189 8 [some (vO x), a1, a2, a3, a4, a5] st h = Ev d 189 9 [some (vO x), a1, a2, a3, a4, a5] (vO x :: st) h := Rnx (hB_189) (dX7_replacements_8) rfl
theorem v189_9 {d : Nat} {st : List MV} {h : Hp} {x : Int32} {a0 a1 a3 a4 a5 : Option MV} : Ev d 189 9 [a0, a1, some (vI x), a3, a4, a5] st h = Ev d 189 10 [a0, a1, some (vI x), a3, a4, a5] (vI x :: st) h := Rnx (hB_189) (dX7_replacements_9) rfl
set_option maxRecDepth 100000 in
theorem v189_10 {d : Nat} {ls : LS3} {st : List MV} {h : Hp} {a : A3} {x0 : Int32} (hS : gS h a = (1, 7)) (hc : catS st ≤ 8) : Ev (d + 1) 189 10 ls (vI x0 :: vR a :: st) h = Evk 145 (d + 1) 189 10 ls st (Ev d 145 0 [some (vR a), some (vI x0)] [] h) := RcallO (idx := 174) (n := 1) (kd := 0) (As' := [vI x0]) hB_189 dX7_replacements_10 rfl rfl (by decide) rfl rfl (Or.inl hS) rfl hc
theorem v189_13 {d : Nat} {ls : LS3} {st : List MV} {h : Hp} {x : Int32} : Ev d 189 13 ls (vI x :: st) h = if x = 0 then Ev d 189 16 ls st h else Ev d 189 22 ls st h := Rifn hB_189 dX7_replacements_13 rfl
theorem v189_16 {d : Nat} {st : List MV} {h : Hp} {x : Option A3} {a1 a2 a3 a4 a5 : Option MV} : Ev d 189 16 [some (vO x), a1, a2, a3, a4, a5] st h = Ev d 189 17 [some (vO x), a1, a2, a3, a4, a5] (vO x :: st) h := Rnx (hB_189) (dX7_replacements_16) rfl
theorem v189_17 {d : Nat} {ls : LS3} {st : List MV} {h : Hp} : Ev d 189 17 ls st h = Ev d 189 18 ls (vI 1 :: st) h := Rnx (hB_189) (dX7_replacements_17) rfl
set_option maxRecDepth 100000 in
theorem v189_18 {d : Nat} {ls : LS3} {st : List MV} {h : Hp} {a : A3} {x0 : Int32} (hS : gS h a = (1, 7)) (hc : catS st ≤ 8) : Ev (d + 1) 189 18 ls (vI x0 :: vR a :: st) h = Evk 141 (d + 1) 189 18 ls st (Ev d 141 0 [some (vR a), some (vI x0)] [] h) := RcallO (idx := 168) (n := 1) (kd := 0) (As' := [vI x0]) hB_189 dX7_replacements_18 rfl rfl (by decide) rfl rfl (Or.inl hS) rfl hc
theorem v189_21 {d : Nat} {ls : LS3} {h : Hp} {x : Int32} : Ev d 189 21 ls [vI x] h = some (.inl (some (vI x)), h) := Rdn hB_189 dX7_replacements_21 rfl
theorem v189_22 {d : Nat} {st : List MV} {h : Hp} {x : Option A3} {a1 a2 a3 a4 a5 : Option MV} : Ev d 189 22 [some (vO x), a1, a2, a3, a4, a5] st h = Ev d 189 23 [some (vO x), a1, a2, a3, a4, a5] (vO x :: st) h := Rnx (hB_189) (dX7_replacements_22) rfl
theorem v189_23 {d : Nat} {st : List MV} {h : Hp} {x : Int32} {a0 a2 a3 a4 a5 : Option MV} : Ev d 189 23 [a0, some (vI x), a2, a3, a4, a5] st h = Ev d 189 24 [a0, some (vI x), a2, a3, a4, a5] (vI x :: st) h := Rnx (hB_189) (dX7_replacements_23) rfl
theorem v189_24 {d : Nat} {st : List MV} {h : Hp} {x : Int32} {a0 a1 a3 a4 a5 : Option MV} : Ev d 189 24 [a0, a1, some (vI x), a3, a4, a5] st h = Ev d 189 25 [a0, a1, some (vI x), a3, a4, a5] (vI x :: st) h := Rnx (hB_189) (dX7_replacements_24) rfl
set_option maxRecDepth 100000 in
theorem v189_25 {d : Nat} {ls : LS3} {st : List MV} {h : Hp} {a : A3} {x0 : Int32} {x1 : Int32} (hS : gS h a = (1, 7)) (hc : catS st ≤ 8) : Ev (d + 1) 189 25 ls (vI x1 :: vI x0 :: vR a :: st) h = Evk 150 (d + 1) 189 25 ls st (Ev d 150 0 [some (vR a), some (vI x0), some (vI x1)] [] h) := RcallO (idx := 105) (n := 2) (kd := 0) (As' := [vI x0, vI x1]) hB_189 dX7_replacements_25 rfl rfl (by decide) rfl rfl (Or.inl hS) rfl hc
theorem v189_28 {d : Nat} {ls : LS3} {st : List MV} {h : Hp} {x : Int32} : Ev d 189 28 ls (vI x :: st) h = if x = 0 then Ev d 189 31 ls st h else Ev d 189 37 ls st h := Rifn hB_189 dX7_replacements_28 rfl
theorem v189_31 {d : Nat} {st : List MV} {h : Hp} {x : Option A3} {a1 a2 a3 a4 a5 : Option MV} : Ev d 189 31 [some (vO x), a1, a2, a3, a4, a5] st h = Ev d 189 32 [some (vO x), a1, a2, a3, a4, a5] (vO x :: st) h := Rnx (hB_189) (dX7_replacements_31) rfl
theorem v189_32 {d : Nat} {ls : LS3} {st : List MV} {h : Hp} : Ev d 189 32 ls st h = Ev d 189 33 ls (vI 2 :: st) h := Rnx (hB_189) (dX7_replacements_32) rfl
set_option maxRecDepth 100000 in
theorem v189_33 {d : Nat} {ls : LS3} {st : List MV} {h : Hp} {a : A3} {x0 : Int32} (hS : gS h a = (1, 7)) (hc : catS st ≤ 8) : Ev (d + 1) 189 33 ls (vI x0 :: vR a :: st) h = Evk 141 (d + 1) 189 33 ls st (Ev d 141 0 [some (vR a), some (vI x0)] [] h) := RcallO (idx := 168) (n := 1) (kd := 0) (As' := [vI x0]) hB_189 dX7_replacements_33 rfl rfl (by decide) rfl rfl (Or.inl hS) rfl hc
theorem v189_36 {d : Nat} {ls : LS3} {h : Hp} {x : Int32} : Ev d 189 36 ls [vI x] h = some (.inl (some (vI x)), h) := Rdn hB_189 dX7_replacements_36 rfl
theorem v189_37 {d : Nat} {st : List MV} {h : Hp} {x : Option A3} {a1 a2 a3 a4 a5 : Option MV} : Ev d 189 37 [some (vO x), a1, a2, a3, a4, a5] st h = Ev d 189 38 [some (vO x), a1, a2, a3, a4, a5] (vO x :: st) h := Rnx (hB_189) (dX7_replacements_37) rfl
theorem v189_38 {d : Nat} {ls : LS3} {st : List MV} {h : Hp} : Ev d 189 38 ls st h = Ev d 189 39 ls (vI 0 :: st) h := Rnx (hB_189) (dX7_replacements_38) rfl
set_option maxRecDepth 100000 in
theorem v189_39 {d : Nat} {ls : LS3} {st : List MV} {h : Hp} {a : A3} {x : Int32} (hS : gS h a = (1, 7)) : Ev d 189 39 ls (vI x :: vR a :: st) h = Ev d 189 42 ls st (sI h a 0 x) := RputI hB_189 dX7_replacements_39 rfl rfl (by decide) hS (Or.inl rfl)
theorem v189_42 {d : Nat} {st : List MV} {h : Hp} {x : Option A3} {a1 a2 a3 a4 a5 : Option MV} : Ev d 189 42 [some (vO x), a1, a2, a3, a4, a5] st h = Ev d 189 43 [some (vO x), a1, a2, a3, a4, a5] (vO x :: st) h := Rnx (hB_189) (dX7_replacements_42) rfl
set_option maxRecDepth 100000 in
theorem v189_43 {d : Nat} {ls : LS3} {st : List MV} {h : Hp} {a : A3} (hS : gS h a = (1, 7)) : Ev d 189 43 ls (vR a :: st) h = Ev d 189 46 ls (vO (gR h a 14) :: st) h := Rget hB_189 dX7_replacements_43 rfl (Or.inl hS)
theorem v189_46 {d : Nat} {st : List MV} {h : Hp} {x : Int32} {a0 a2 a3 a4 a5 : Option MV} : Ev d 189 46 [a0, some (vI x), a2, a3, a4, a5] st h = Ev d 189 47 [a0, some (vI x), a2, a3, a4, a5] (vI x :: st) h := Rnx (hB_189) (dX7_replacements_46) rfl
theorem v189_47 {d : Nat} {ls : LS3} {st : List MV} {h : Hp} {a : A3} {j : Int32} (hS : (gS h a).1 ∈ [2, 9]) (hj : inB j (gS h a).2) : Ev d 189 47 ls (vI j :: vR a :: st) h = Ev d 189 48 ls (vI (gI h a j.toNatClampNeg) :: st) h := Rald (ks := [2, 9]) (f := fun a j => vI (gI h a j)) hB_189 dX7_replacements_47 rfl hS hj
theorem v189_48 {d : Nat} {ls : LS3} {st : List MV} {h : Hp} : Ev d 189 48 ls st h = Ev d 189 49 ls (vI 1 :: st) h := Rnx (hB_189) (dX7_replacements_48) rfl
theorem v189_49 {d : Nat} {st : List MV} {h : Hp} {x : Int32} {a0 a1 a3 a4 a5 : Option MV} : Ev d 189 49 [a0, a1, some (vI x), a3, a4, a5] st h = Ev d 189 50 [a0, a1, some (vI x), a3, a4, a5] (vI x :: st) h := Rnx (hB_189) (dX7_replacements_49) rfl
theorem v189_50 {d : Nat} {ls : LS3} {st : List MV} {h : Hp} {x y : Int32} : Ev d 189 50 ls (vI y :: vI x :: st) h = Ev d 189 51 ls (vI (x <<< (y &&& 31)) :: st) h := Rnx (hB_189) (dX7_replacements_50) rfl
theorem v189_51 {d : Nat} {ls : LS3} {st : List MV} {h : Hp} : Ev d 189 51 ls st h = Ev d 189 52 ls (vI (-1) :: st) h := Rnx (hB_189) (dX7_replacements_51) rfl
theorem v189_52 {d : Nat} {ls : LS3} {st : List MV} {h : Hp} {x y : Int32} : Ev d 189 52 ls (vI y :: vI x :: st) h = Ev d 189 53 ls (vI (x ^^^ y) :: st) h := Rnx (hB_189) (dX7_replacements_52) rfl
theorem v189_53 {d : Nat} {ls : LS3} {st : List MV} {h : Hp} {x y : Int32} : Ev d 189 53 ls (vI y :: vI x :: st) h = Ev d 189 54 ls (vI (x &&& y) :: st) h := Rnx (hB_189) (dX7_replacements_53) rfl
theorem v189_54 {d : Nat} {st : List MV} {h : Hp} {x : Int32} {a0 a1 a2 a3 a4 a5 : Option MV} : Ev d 189 54 [a0, a1, a2, a3, a4, a5] (vI x :: st) h = Ev d 189 55 [a0, a1, a2, some (vI x), a4, a5] st h := Rnx (hB_189) (dX7_replacements_54) rfl
theorem v189_55 {d : Nat} {ls : LS3} {st : List MV} {h : Hp} : Ev d 189 55 ls st h = Ev d 189 56 ls (vI 0 :: st) h := Rnx (hB_189) (dX7_replacements_55) rfl
theorem v189_56 {d : Nat} {st : List MV} {h : Hp} {x : Int32} {a0 a1 a2 a3 a4 a5 : Option MV} : Ev d 189 56 [a0, a1, a2, a3, a4, a5] (vI x :: st) h = Ev d 189 58 [a0, a1, a2, a3, some (vI x), a5] st h := Rnx (hB_189) (dX7_replacements_56) rfl
theorem v189_58 {d : Nat} {ls : LS3} {st : List MV} {h : Hp} : Ev d 189 58 ls st h = Ev d 189 59 ls (vI 0 :: st) h := Rnx (hB_189) (dX7_replacements_58) rfl
theorem v189_59 {d : Nat} {st : List MV} {h : Hp} {x : Int32} {a0 a1 a2 a3 a4 a5 : Option MV} : Ev d 189 59 [a0, a1, a2, a3, a4, a5] (vI x :: st) h = Ev d 189 61 [a0, a1, a2, a3, a4, some (vI x)] st h := Rnx (hB_189) (dX7_replacements_59) rfl
theorem v189_61 {d : Nat} {st : List MV} {h : Hp} {x : Int32} {a0 a1 a2 a3 a4 : Option MV} : Ev d 189 61 [a0, a1, a2, a3, a4, some (vI x)] st h = Ev d 189 63 [a0, a1, a2, a3, a4, some (vI x)] (vI x :: st) h := Rnx (hB_189) (dX7_replacements_61) rfl
theorem v189_63 {d : Nat} {st : List MV} {h : Hp} {x : Option A3} {a1 a2 a3 a4 a5 : Option MV} : Ev d 189 63 [some (vO x), a1, a2, a3, a4, a5] st h = Ev d 189 64 [some (vO x), a1, a2, a3, a4, a5] (vO x :: st) h := Rnx (hB_189) (dX7_replacements_63) rfl
set_option maxRecDepth 100000 in
theorem v189_64 {d : Nat} {ls : LS3} {st : List MV} {h : Hp} {a : A3} (hS : gS h a = (1, 7)) : Ev d 189 64 ls (vR a :: st) h = Ev d 189 67 ls (vI (gI h a 7) :: st) h := Rget hB_189 dX7_replacements_64 rfl (Or.inl hS)
theorem v189_67 {d : Nat} {ls : LS3} {st : List MV} {h : Hp} {x y : Int32} : Ev d 189 67 ls (vI y :: vI x :: st) h = if y ≤ x then Ev d 189 116 ls st h else Ev d 189 70 ls st h := Rif hB_189 dX7_replacements_67 rfl
theorem v189_70 {d : Nat} {st : List MV} {h : Hp} {x : Int32} {a0 a1 a2 a3 a4 : Option MV} : Ev d 189 70 [a0, a1, a2, a3, a4, some (vI x)] st h = Ev d 189 72 [a0, a1, a2, a3, a4, some (vI x)] (vI x :: st) h := Rnx (hB_189) (dX7_replacements_70) rfl
theorem v189_72 {d : Nat} {st : List MV} {h : Hp} {x : Int32} {a0 a1 a3 a4 a5 : Option MV} : Ev d 189 72 [a0, a1, some (vI x), a3, a4, a5] st h = Ev d 189 73 [a0, a1, some (vI x), a3, a4, a5] (vI x :: st) h := Rnx (hB_189) (dX7_replacements_72) rfl
theorem v189_73 {d : Nat} {ls : LS3} {st : List MV} {h : Hp} {x y : Int32} : Ev d 189 73 ls (vI y :: vI x :: st) h = if x = y then Ev d 189 110 ls st h else Ev d 189 76 ls st h := Rif hB_189 dX7_replacements_73 rfl
theorem v189_76 {d : Nat} {st : List MV} {h : Hp} {x : Option A3} {a1 a2 a3 a4 a5 : Option MV} : Ev d 189 76 [some (vO x), a1, a2, a3, a4, a5] st h = Ev d 189 77 [some (vO x), a1, a2, a3, a4, a5] (vO x :: st) h := Rnx (hB_189) (dX7_replacements_76) rfl
theorem v189_77 {d : Nat} {st : List MV} {h : Hp} {x : Int32} {a0 a2 a3 a4 a5 : Option MV} : Ev d 189 77 [a0, some (vI x), a2, a3, a4, a5] st h = Ev d 189 78 [a0, some (vI x), a2, a3, a4, a5] (vI x :: st) h := Rnx (hB_189) (dX7_replacements_77) rfl
theorem v189_78 {d : Nat} {st : List MV} {h : Hp} {x : Int32} {a0 a1 a2 a3 a4 : Option MV} : Ev d 189 78 [a0, a1, a2, a3, a4, some (vI x)] st h = Ev d 189 80 [a0, a1, a2, a3, a4, some (vI x)] (vI x :: st) h := Rnx (hB_189) (dX7_replacements_78) rfl
theorem v189_80 {d : Nat} {st : List MV} {h : Hp} {x : Int32} {a0 a1 a2 a4 a5 : Option MV} : Ev d 189 80 [a0, a1, a2, some (vI x), a4, a5] st h = Ev d 189 81 [a0, a1, a2, some (vI x), a4, a5] (vI x :: st) h := Rnx (hB_189) (dX7_replacements_80) rfl
set_option maxRecDepth 100000 in
theorem v189_81 {d : Nat} {ls : LS3} {st : List MV} {h : Hp} {a : A3} {x0 : Int32} {x1 : Int32} {x2 : Int32} (hS : gS h a = (1, 7)) (hc : catS st ≤ 8) : Ev (d + 1) 189 81 ls (vI x2 :: vI x1 :: vI x0 :: vR a :: st) h = Evk 160 (d + 1) 189 81 ls st (Ev d 160 0 [some (vR a), some (vI x0), some (vI x1), some (vI x2)] [] h) := RcallO (idx := 211) (n := 3) (kd := 0) (As' := [vI x0, vI x1, vI x2]) hB_189 dX7_replacements_81 rfl rfl (by decide) rfl rfl (Or.inl hS) rfl hc
theorem v189_84 {d : Nat} {ls : LS3} {st : List MV} {h : Hp} {x : Int32} : Ev d 189 84 ls (vI x :: st) h = if x = 0 then Ev d 189 87 ls st h else Ev d 189 110 ls st h := Rifn hB_189 dX7_replacements_84 rfl
theorem v189_87 {d : Nat} {st : List MV} {h : Hp} {x : Option A3} {a1 a2 a3 a4 a5 : Option MV} : Ev d 189 87 [some (vO x), a1, a2, a3, a4, a5] st h = Ev d 189 88 [some (vO x), a1, a2, a3, a4, a5] (vO x :: st) h := Rnx (hB_189) (dX7_replacements_87) rfl
theorem v189_88 {d : Nat} {st : List MV} {h : Hp} {x : Int32} {a0 a2 a3 a4 a5 : Option MV} : Ev d 189 88 [a0, some (vI x), a2, a3, a4, a5] st h = Ev d 189 89 [a0, some (vI x), a2, a3, a4, a5] (vI x :: st) h := Rnx (hB_189) (dX7_replacements_88) rfl
theorem v189_89 {d : Nat} {st : List MV} {h : Hp} {x : Int32} {a0 a1 a2 a4 a5 : Option MV} : Ev d 189 89 [a0, a1, a2, some (vI x), a4, a5] st h = Ev d 189 90 [a0, a1, a2, some (vI x), a4, a5] (vI x :: st) h := Rnx (hB_189) (dX7_replacements_89) rfl
theorem v189_90 {d : Nat} {ls : LS3} {st : List MV} {h : Hp} : Ev d 189 90 ls st h = Ev d 189 91 ls (vI 1 :: st) h := Rnx (hB_189) (dX7_replacements_90) rfl
theorem v189_91 {d : Nat} {st : List MV} {h : Hp} {x : Int32} {a0 a1 a2 a3 a4 : Option MV} : Ev d 189 91 [a0, a1, a2, a3, a4, some (vI x)] st h = Ev d 189 93 [a0, a1, a2, a3, a4, some (vI x)] (vI x :: st) h := Rnx (hB_189) (dX7_replacements_91) rfl
theorem v189_93 {d : Nat} {ls : LS3} {st : List MV} {h : Hp} {x y : Int32} : Ev d 189 93 ls (vI y :: vI x :: st) h = Ev d 189 94 ls (vI (x <<< (y &&& 31)) :: st) h := Rnx (hB_189) (dX7_replacements_93) rfl
theorem v189_94 {d : Nat} {ls : LS3} {st : List MV} {h : Hp} {x y : Int32} : Ev d 189 94 ls (vI y :: vI x :: st) h = Ev d 189 95 ls (vI (x ||| y) :: st) h := Rnx (hB_189) (dX7_replacements_94) rfl
set_option maxRecDepth 100000 in
theorem v189_95 {d : Nat} {ls : LS3} {st : List MV} {h : Hp} {a : A3} {x0 : Int32} {x1 : Int32} (hS : gS h a = (1, 7)) (hc : catS st ≤ 8) : Ev (d + 1) 189 95 ls (vI x1 :: vI x0 :: vR a :: st) h = Evk 156 (d + 1) 189 95 ls st (Ev d 156 0 [some (vR a), some (vI x0), some (vI x1), none] [] h) := RcallO (idx := 139) (n := 2) (kd := 0) (As' := [vI x0, vI x1]) hB_189 dX7_replacements_95 rfl rfl (by decide) rfl rfl (Or.inl hS) rfl hc
theorem v189_98 {d : Nat} {ls : LS3} {st : List MV} {h : Hp} {x : Int32} : Ev d 189 98 ls (vI x :: st) h = if x = 0 then Ev d 189 110 ls st h else Ev d 189 101 ls st h := Rif hB_189 dX7_replacements_98 rfl
theorem v189_101 {d : Nat} {st : List MV} {h : Hp} {x : Int32} {a0 a1 a2 a3 a5 : Option MV} : Ev d 189 101 [a0, a1, a2, a3, some (vI x), a5] st h = Ev d 189 103 [a0, a1, a2, a3, some (vI x), a5] (vI x :: st) h := Rnx (hB_189) (dX7_replacements_101) rfl
theorem v189_103 {d : Nat} {ls : LS3} {st : List MV} {h : Hp} : Ev d 189 103 ls st h = Ev d 189 104 ls (vI 1 :: st) h := Rnx (hB_189) (dX7_replacements_103) rfl
theorem v189_104 {d : Nat} {st : List MV} {h : Hp} {x : Int32} {a0 a1 a2 a3 a4 : Option MV} : Ev d 189 104 [a0, a1, a2, a3, a4, some (vI x)] st h = Ev d 189 106 [a0, a1, a2, a3, a4, some (vI x)] (vI x :: st) h := Rnx (hB_189) (dX7_replacements_104) rfl
theorem v189_106 {d : Nat} {ls : LS3} {st : List MV} {h : Hp} {x y : Int32} : Ev d 189 106 ls (vI y :: vI x :: st) h = Ev d 189 107 ls (vI (x <<< (y &&& 31)) :: st) h := Rnx (hB_189) (dX7_replacements_106) rfl
theorem v189_107 {d : Nat} {ls : LS3} {st : List MV} {h : Hp} {x y : Int32} : Ev d 189 107 ls (vI y :: vI x :: st) h = Ev d 189 108 ls (vI (x ||| y) :: st) h := Rnx (hB_189) (dX7_replacements_107) rfl
theorem v189_108 {d : Nat} {st : List MV} {h : Hp} {x : Int32} {a0 a1 a2 a3 a4 a5 : Option MV} : Ev d 189 108 [a0, a1, a2, a3, a4, a5] (vI x :: st) h = Ev d 189 110 [a0, a1, a2, a3, some (vI x), a5] st h := Rnx (hB_189) (dX7_replacements_108) rfl
theorem v189_110 {d : Nat} {st : List MV} {h : Hp} {x : Int32} {a0 a1 a2 a3 a4 : Option MV} : Ev d 189 110 [a0, a1, a2, a3, a4, some (vI x)] st h = Ev d 189 113 [a0, a1, a2, a3, a4, some (vI (x + 1))] st h := Rnx (hB_189) (dX7_replacements_110) rfl
theorem v189_113 {d : Nat} {ls : LS3} {st : List MV} {h : Hp} : Ev d 189 113 ls st h = Ev d 189 61 ls st h := Rnx (hB_189) (dX7_replacements_113) rfl
theorem v189_116 {d : Nat} {st : List MV} {h : Hp} {x : Int32} {a0 a1 a2 a3 a5 : Option MV} : Ev d 189 116 [a0, a1, a2, a3, some (vI x), a5] st h = Ev d 189 118 [a0, a1, a2, a3, some (vI x), a5] (vI x :: st) h := Rnx (hB_189) (dX7_replacements_116) rfl
theorem v189_118 {d : Nat} {ls : LS3} {h : Hp} {x : Int32} : Ev d 189 118 ls [vI x] h = some (.inl (some (vI x)), h) := Rdn hB_189 dX7_replacements_118 rfl
theorem hB_190 : mB 190 = cX7_doesComplete := rfl
theorem v190_0 {d : Nat} {st : List MV} {h : Hp} {x : Option A3} {a1 a2 a3 a4 : Option MV} : Ev d 190 0 [some (vO x), a1, a2, a3, a4] st h = Ev d 190 1 [some (vO x), a1, a2, a3, a4] (vO x :: st) h := Rnx (hB_190) (dX7_doesComplete_0) rfl
set_option maxRecDepth 100000 in
theorem v190_1 {d : Nat} {ls : LS3} {st : List MV} {h : Hp} {a : A3} (hS : gS h a = (1, 7)) : Ev d 190 1 ls (vR a :: st) h = Ev d 190 4 ls (vO (gR h a 14) :: st) h := Rget hB_190 dX7_doesComplete_1 rfl (Or.inl hS)
theorem v190_4 {d : Nat} {st : List MV} {h : Hp} {x : Int32} {a0 a2 a3 a4 : Option MV} : Ev d 190 4 [a0, some (vI x), a2, a3, a4] st h = Ev d 190 5 [a0, some (vI x), a2, a3, a4] (vI x :: st) h := Rnx (hB_190) (dX7_doesComplete_4) rfl
theorem v190_5 {d : Nat} {ls : LS3} {st : List MV} {h : Hp} {a : A3} {j : Int32} (hS : (gS h a).1 ∈ [2, 9]) (hj : inB j (gS h a).2) : Ev d 190 5 ls (vI j :: vR a :: st) h = Ev d 190 6 ls (vI (gI h a j.toNatClampNeg) :: st) h := Rald (ks := [2, 9]) (f := fun a j => vI (gI h a j)) hB_190 dX7_doesComplete_5 rfl hS hj
theorem v190_6 {d : Nat} {st : List MV} {h : Hp} {x : Int32} {a0 a1 a2 a3 a4 : Option MV} : Ev d 190 6 [a0, a1, a2, a3, a4] (vI x :: st) h = Ev d 190 7 [a0, a1, a2, some (vI x), a4] st h := Rnx (hB_190) (dX7_doesComplete_6) rfl
theorem v190_7 {d : Nat} {ls : LS3} {st : List MV} {h : Hp} : Ev d 190 7 ls st h = Ev d 190 8 ls (vI 0 :: st) h := Rnx (hB_190) (dX7_doesComplete_7) rfl
theorem v190_8 {d : Nat} {st : List MV} {h : Hp} {x : Int32} {a0 a1 a2 a3 a4 : Option MV} : Ev d 190 8 [a0, a1, a2, a3, a4] (vI x :: st) h = Ev d 190 10 [a0, a1, a2, a3, some (vI x)] st h := Rnx (hB_190) (dX7_doesComplete_8) rfl
theorem v190_10 {d : Nat} {st : List MV} {h : Hp} {x : Int32} {a0 a1 a2 a3 : Option MV} : Ev d 190 10 [a0, a1, a2, a3, some (vI x)] st h = Ev d 190 12 [a0, a1, a2, a3, some (vI x)] (vI x :: st) h := Rnx (hB_190) (dX7_doesComplete_10) rfl
theorem v190_12 {d : Nat} {st : List MV} {h : Hp} {x : Option A3} {a1 a2 a3 a4 : Option MV} : Ev d 190 12 [some (vO x), a1, a2, a3, a4] st h = Ev d 190 13 [some (vO x), a1, a2, a3, a4] (vO x :: st) h := Rnx (hB_190) (dX7_doesComplete_12) rfl
set_option maxRecDepth 100000 in
theorem v190_13 {d : Nat} {ls : LS3} {st : List MV} {h : Hp} {a : A3} (hS : gS h a = (1, 7)) : Ev d 190 13 ls (vR a :: st) h = Ev d 190 16 ls (vI (gI h a 7) :: st) h := Rget hB_190 dX7_doesComplete_13 rfl (Or.inl hS)
theorem v190_16 {d : Nat} {ls : LS3} {st : List MV} {h : Hp} {x y : Int32} : Ev d 190 16 ls (vI y :: vI x :: st) h = if y ≤ x then Ev d 190 57 ls st h else Ev d 190 19 ls st h := Rif hB_190 dX7_doesComplete_16 rfl
theorem v190_19 {d : Nat} {st : List MV} {h : Hp} {x : Int32} {a0 a1 a3 a4 : Option MV} : Ev d 190 19 [a0, a1, some (vI x), a3, a4] st h = Ev d 190 20 [a0, a1, some (vI x), a3, a4] (vI x :: st) h := Rnx (hB_190) (dX7_doesComplete_19) rfl
theorem v190_20 {d : Nat} {st : List MV} {h : Hp} {x : Int32} {a0 a1 a2 a3 : Option MV} : Ev d 190 20 [a0, a1, a2, a3, some (vI x)] st h = Ev d 190 22 [a0, a1, a2, a3, some (vI x)] (vI x :: st) h := Rnx (hB_190) (dX7_doesComplete_20) rfl
theorem v190_22 {d : Nat} {ls : LS3} {st : List MV} {h : Hp} {x y : Int32} : Ev d 190 22 ls (vI y :: vI x :: st) h = Ev d 190 23 ls (vI (x >>> (y &&& 31)) :: st) h := Rnx (hB_190) (dX7_doesComplete_22) rfl
theorem v190_23 {d : Nat} {ls : LS3} {st : List MV} {h : Hp} : Ev d 190 23 ls st h = Ev d 190 24 ls (vI 1 :: st) h := Rnx (hB_190) (dX7_doesComplete_23) rfl
theorem v190_24 {d : Nat} {ls : LS3} {st : List MV} {h : Hp} {x y : Int32} : Ev d 190 24 ls (vI y :: vI x :: st) h = Ev d 190 25 ls (vI (x &&& y) :: st) h := Rnx (hB_190) (dX7_doesComplete_24) rfl
theorem v190_25 {d : Nat} {ls : LS3} {st : List MV} {h : Hp} {x : Int32} : Ev d 190 25 ls (vI x :: st) h = if x = 0 then Ev d 190 28 ls st h else Ev d 190 31 ls st h := Rifn hB_190 dX7_doesComplete_25 rfl
theorem v190_28 {d : Nat} {ls : LS3} {st : List MV} {h : Hp} : Ev d 190 28 ls st h = Ev d 190 51 ls st h := Rnx (hB_190) (dX7_doesComplete_28) rfl
theorem v190_31 {d : Nat} {st : List MV} {h : Hp} {x : Option A3} {a1 a2 a3 a4 : Option MV} : Ev d 190 31 [some (vO x), a1, a2, a3, a4] st h = Ev d 190 32 [some (vO x), a1, a2, a3, a4] (vO x :: st) h := Rnx (hB_190) (dX7_doesComplete_31) rfl
theorem v190_32 {d : Nat} {st : List MV} {h : Hp} {x : Int32} {a0 a2 a3 a4 : Option MV} : Ev d 190 32 [a0, some (vI x), a2, a3, a4] st h = Ev d 190 33 [a0, some (vI x), a2, a3, a4] (vI x :: st) h := Rnx (hB_190) (dX7_doesComplete_32) rfl
theorem v190_33 {d : Nat} {st : List MV} {h : Hp} {x : Int32} {a0 a1 a2 a3 : Option MV} : Ev d 190 33 [a0, a1, a2, a3, some (vI x)] st h = Ev d 190 35 [a0, a1, a2, a3, some (vI x)] (vI x :: st) h := Rnx (hB_190) (dX7_doesComplete_33) rfl
theorem v190_35 {d : Nat} {st : List MV} {h : Hp} {x : Int32} {a0 a1 a2 a4 : Option MV} : Ev d 190 35 [a0, a1, a2, some (vI x), a4] st h = Ev d 190 36 [a0, a1, a2, some (vI x), a4] (vI x :: st) h := Rnx (hB_190) (dX7_doesComplete_35) rfl
set_option maxRecDepth 100000 in
theorem v190_36 {d : Nat} {ls : LS3} {st : List MV} {h : Hp} {a : A3} {x0 : Int32} {x1 : Int32} {x2 : Int32} (hS : gS h a = (1, 7)) (hc : catS st ≤ 8) : Ev (d + 1) 190 36 ls (vI x2 :: vI x1 :: vI x0 :: vR a :: st) h = Evk 160 (d + 1) 190 36 ls st (Ev d 160 0 [some (vR a), some (vI x0), some (vI x1), some (vI x2)] [] h) := RcallO (idx := 211) (n := 3) (kd := 0) (As' := [vI x0, vI x1, vI x2]) hB_190 dX7_doesComplete_36 rfl rfl (by decide) rfl rfl (Or.inl hS) rfl hc
theorem v190_39 {d : Nat} {ls : LS3} {st : List MV} {h : Hp} {x : Int32} : Ev d 190 39 ls (vI x :: st) h = if x = 0 then Ev d 190 44 ls st h else Ev d 190 42 ls st h := Rif hB_190 dX7_doesComplete_39 rfl
theorem v190_42 {d : Nat} {ls : LS3} {st : List MV} {h : Hp} : Ev d 190 42 ls st h = Ev d 190 43 ls (vI 0 :: st) h := Rnx (hB_190) (dX7_doesComplete_42) rfl
theorem v190_43 {d : Nat} {ls : LS3} {h : Hp} {x : Int32} (hx : x = 0 ∨ x = 1) : Ev d 190 43 ls [vI x] h = some (.inl (some (vI x)), h) := RretB hB_190 dX7_doesComplete_43 rfl hx
theorem v190_44 {d : Nat} {st : List MV} {h : Hp} {x : Int32} {a0 a1 a2 a4 : Option MV} : Ev d 190 44 [a0, a1, a2, some (vI x), a4] st h = Ev d 190 45 [a0, a1, a2, some (vI x), a4] (vI x :: st) h := Rnx (hB_190) (dX7_doesComplete_44) rfl
theorem v190_45 {d : Nat} {ls : LS3} {st : List MV} {h : Hp} : Ev d 190 45 ls st h = Ev d 190 46 ls (vI 1 :: st) h := Rnx (hB_190) (dX7_doesComplete_45) rfl
theorem v190_46 {d : Nat} {st : List MV} {h : Hp} {x : Int32} {a0 a1 a2 a3 : Option MV} : Ev d 190 46 [a0, a1, a2, a3, some (vI x)] st h = Ev d 190 48 [a0, a1, a2, a3, some (vI x)] (vI x :: st) h := Rnx (hB_190) (dX7_doesComplete_46) rfl
theorem v190_48 {d : Nat} {ls : LS3} {st : List MV} {h : Hp} {x y : Int32} : Ev d 190 48 ls (vI y :: vI x :: st) h = Ev d 190 49 ls (vI (x <<< (y &&& 31)) :: st) h := Rnx (hB_190) (dX7_doesComplete_48) rfl
theorem v190_49 {d : Nat} {ls : LS3} {st : List MV} {h : Hp} {x y : Int32} : Ev d 190 49 ls (vI y :: vI x :: st) h = Ev d 190 50 ls (vI (x ||| y) :: st) h := Rnx (hB_190) (dX7_doesComplete_49) rfl
theorem v190_50 {d : Nat} {st : List MV} {h : Hp} {x : Int32} {a0 a1 a2 a3 a4 : Option MV} : Ev d 190 50 [a0, a1, a2, a3, a4] (vI x :: st) h = Ev d 190 51 [a0, a1, a2, some (vI x), a4] st h := Rnx (hB_190) (dX7_doesComplete_50) rfl
theorem v190_51 {d : Nat} {st : List MV} {h : Hp} {x : Int32} {a0 a1 a2 a3 : Option MV} : Ev d 190 51 [a0, a1, a2, a3, some (vI x)] st h = Ev d 190 54 [a0, a1, a2, a3, some (vI (x + 1))] st h := Rnx (hB_190) (dX7_doesComplete_51) rfl
theorem v190_54 {d : Nat} {ls : LS3} {st : List MV} {h : Hp} : Ev d 190 54 ls st h = Ev d 190 10 ls st h := Rnx (hB_190) (dX7_doesComplete_54) rfl
theorem v190_57 {d : Nat} {st : List MV} {h : Hp} {x : Option A3} {a1 a2 a3 a4 : Option MV} : Ev d 190 57 [some (vO x), a1, a2, a3, a4] st h = Ev d 190 58 [some (vO x), a1, a2, a3, a4] (vO x :: st) h := Rnx (hB_190) (dX7_doesComplete_57) rfl
theorem v190_58 {d : Nat} {st : List MV} {h : Hp} {x : Int32} {a0 a2 a3 a4 : Option MV} : Ev d 190 58 [a0, some (vI x), a2, a3, a4] st h = Ev d 190 59 [a0, some (vI x), a2, a3, a4] (vI x :: st) h := Rnx (hB_190) (dX7_doesComplete_58) rfl
theorem v190_59 {d : Nat} {st : List MV} {h : Hp} {x : Int32} {a0 a1 a2 a4 : Option MV} : Ev d 190 59 [a0, a1, a2, some (vI x), a4] st h = Ev d 190 60 [a0, a1, a2, some (vI x), a4] (vI x :: st) h := Rnx (hB_190) (dX7_doesComplete_59) rfl
set_option maxRecDepth 100000 in
theorem v190_60 {d : Nat} {ls : LS3} {st : List MV} {h : Hp} {a : A3} {x0 : Int32} {x1 : Int32} (hS : gS h a = (1, 7)) (hc : catS st ≤ 8) : Ev (d + 1) 190 60 ls (vI x1 :: vI x0 :: vR a :: st) h = Evk 156 (d + 1) 190 60 ls st (Ev d 156 0 [some (vR a), some (vI x0), some (vI x1), none] [] h) := RcallO (idx := 139) (n := 2) (kd := 0) (As' := [vI x0, vI x1]) hB_190 dX7_doesComplete_60 rfl rfl (by decide) rfl rfl (Or.inl hS) rfl hc
theorem v190_63 {d : Nat} {ls : LS3} {h : Hp} {x : Int32} (hx : x = 0 ∨ x = 1) : Ev d 190 63 ls [vI x] h = some (.inl (some (vI x)), h) := RretB hB_190 dX7_doesComplete_63 rfl hx
theorem hB_191 : mB 191 = cX7_isFirst := rfl
theorem v191_0 {d : Nat} {ls : LS3} {st : List MV} {h : Hp} : Ev d 191 0 ls st h = Ev d 191 1 ls (vI 0 :: st) h := Rnx (hB_191) (dX7_isFirst_0) rfl
theorem v191_1 {d : Nat} {st : List MV} {h : Hp} {x : Int32} {a0 a1 a2 : Option MV} : Ev d 191 1 [a0, a1, a2] (vI x :: st) h = Ev d 191 2 [a0, a1, some (vI x)] st h := Rnx (hB_191) (dX7_isFirst_1) rfl
theorem v191_2 {d : Nat} {st : List MV} {h : Hp} {x : Int32} {a1 a2 : Option MV} : Ev d 191 2 [some (vI x), a1, a2] st h = Ev d 191 3 [some (vI x), a1, a2] (vI x :: st) h := Rnx (hB_191) (dX7_isFirst_2) rfl
theorem v191_3 {d : Nat} {st : List MV} {h : Hp} {x : Int32} {a0 a1 : Option MV} : Ev d 191 3 [a0, a1, some (vI x)] st h = Ev d 191 4 [a0, a1, some (vI x)] (vI x :: st) h := Rnx (hB_191) (dX7_isFirst_3) rfl
theorem v191_4 {d : Nat} {ls : LS3} {st : List MV} {h : Hp} {x y : Int32} : Ev d 191 4 ls (vI y :: vI x :: st) h = Ev d 191 5 ls (vI (x >>> (y &&& 31)) :: st) h := Rnx (hB_191) (dX7_isFirst_4) rfl
theorem v191_5 {d : Nat} {ls : LS3} {st : List MV} {h : Hp} : Ev d 191 5 ls st h = Ev d 191 6 ls (vI 1 :: st) h := Rnx (hB_191) (dX7_isFirst_5) rfl
theorem v191_6 {d : Nat} {ls : LS3} {st : List MV} {h : Hp} {x y : Int32} : Ev d 191 6 ls (vI y :: vI x :: st) h = Ev d 191 7 ls (vI (x &&& y) :: st) h := Rnx (hB_191) (dX7_isFirst_6) rfl
theorem v191_7 {d : Nat} {st : List MV} {h : Hp} {x : Int32} {a0 a2 : Option MV} : Ev d 191 7 [a0, some (vI x), a2] st h = Ev d 191 8 [a0, some (vI x), a2] (vI x :: st) h := Rnx (hB_191) (dX7_isFirst_7) rfl
theorem v191_8 {d : Nat} {st : List MV} {h : Hp} {x : Int32} {a0 a1 : Option MV} : Ev d 191 8 [a0, a1, some (vI x)] st h = Ev d 191 9 [a0, a1, some (vI x)] (vI x :: st) h := Rnx (hB_191) (dX7_isFirst_8) rfl
theorem v191_9 {d : Nat} {ls : LS3} {st : List MV} {h : Hp} {x y : Int32} : Ev d 191 9 ls (vI y :: vI x :: st) h = Ev d 191 10 ls (vI (x >>> (y &&& 31)) :: st) h := Rnx (hB_191) (dX7_isFirst_9) rfl
theorem v191_10 {d : Nat} {ls : LS3} {st : List MV} {h : Hp} : Ev d 191 10 ls st h = Ev d 191 11 ls (vI 1 :: st) h := Rnx (hB_191) (dX7_isFirst_10) rfl
theorem v191_11 {d : Nat} {ls : LS3} {st : List MV} {h : Hp} {x y : Int32} : Ev d 191 11 ls (vI y :: vI x :: st) h = Ev d 191 12 ls (vI (x &&& y) :: st) h := Rnx (hB_191) (dX7_isFirst_11) rfl
theorem v191_12 {d : Nat} {ls : LS3} {st : List MV} {h : Hp} {x y : Int32} : Ev d 191 12 ls (vI y :: vI x :: st) h = if x = y then Ev d 191 15 ls st h else Ev d 191 21 ls st h := Rifn hB_191 dX7_isFirst_12 rfl
theorem v191_15 {d : Nat} {st : List MV} {h : Hp} {x : Int32} {a0 a1 : Option MV} : Ev d 191 15 [a0, a1, some (vI x)] st h = Ev d 191 18 [a0, a1, some (vI (x + 1))] st h := Rnx (hB_191) (dX7_isFirst_15) rfl
theorem v191_18 {d : Nat} {ls : LS3} {st : List MV} {h : Hp} : Ev d 191 18 ls st h = Ev d 191 2 ls st h := Rnx (hB_191) (dX7_isFirst_18) rfl
theorem v191_21 {d : Nat} {st : List MV} {h : Hp} {x : Int32} {a1 a2 : Option MV} : Ev d 191 21 [some (vI x), a1, a2] st h = Ev d 191 22 [some (vI x), a1, a2] (vI x :: st) h := Rnx (hB_191) (dX7_isFirst_21) rfl
theorem v191_22 {d : Nat} {st : List MV} {h : Hp} {x : Int32} {a0 a1 : Option MV} : Ev d 191 22 [a0, a1, some (vI x)] st h = Ev d 191 23 [a0, a1, some (vI x)] (vI x :: st) h := Rnx (hB_191) (dX7_isFirst_22) rfl
theorem v191_23 {d : Nat} {ls : LS3} {st : List MV} {h : Hp} {x y : Int32} : Ev d 191 23 ls (vI y :: vI x :: st) h = Ev d 191 24 ls (vI (x >>> (y &&& 31)) :: st) h := Rnx (hB_191) (dX7_isFirst_23) rfl
theorem v191_24 {d : Nat} {ls : LS3} {st : List MV} {h : Hp} : Ev d 191 24 ls st h = Ev d 191 25 ls (vI 1 :: st) h := Rnx (hB_191) (dX7_isFirst_24) rfl
theorem v191_25 {d : Nat} {ls : LS3} {st : List MV} {h : Hp} {x y : Int32} : Ev d 191 25 ls (vI y :: vI x :: st) h = Ev d 191 26 ls (vI (x &&& y) :: st) h := Rnx (hB_191) (dX7_isFirst_25) rfl
theorem v191_26 {d : Nat} {ls : LS3} {st : List MV} {h : Hp} : Ev d 191 26 ls st h = Ev d 191 27 ls (vI 1 :: st) h := Rnx (hB_191) (dX7_isFirst_26) rfl
theorem v191_27 {d : Nat} {ls : LS3} {st : List MV} {h : Hp} {x y : Int32} : Ev d 191 27 ls (vI y :: vI x :: st) h = if x = y then Ev d 191 30 ls st h else Ev d 191 34 ls st h := Rifn hB_191 dX7_isFirst_27 rfl
theorem v191_30 {d : Nat} {ls : LS3} {st : List MV} {h : Hp} : Ev d 191 30 ls st h = Ev d 191 31 ls (vI 1 :: st) h := Rnx (hB_191) (dX7_isFirst_30) rfl
theorem v191_31 {d : Nat} {ls : LS3} {st : List MV} {h : Hp} : Ev d 191 31 ls st h = Ev d 191 35 ls st h := Rnx (hB_191) (dX7_isFirst_31) rfl
theorem v191_34 {d : Nat} {ls : LS3} {st : List MV} {h : Hp} : Ev d 191 34 ls st h = Ev d 191 35 ls (vI 0 :: st) h := Rnx (hB_191) (dX7_isFirst_34) rfl
theorem v191_35 {d : Nat} {ls : LS3} {h : Hp} {x : Int32} (hx : x = 0 ∨ x = 1) : Ev d 191 35 ls [vI x] h = some (.inl (some (vI x)), h) := RretB hB_191 dX7_isFirst_35 rfl hx
theorem hB_192 : mB 192 = cX7_completionOf := rfl
theorem v192_0 {d : Nat} {ls : LS3} {st : List MV} {h : Hp} : Ev d 192 0 ls st h = Ev d 192 1 ls (vI (-1) :: st) h := Rnx (hB_192) (dX7_completionOf_0) rfl
theorem v192_1 {d : Nat} {st : List MV} {h : Hp} {x : Int32} {a0 a1 a2 a3 : Option MV} : Ev d 192 1 [a0, a1, a2, a3] (vI x :: st) h = Ev d 192 2 [a0, a1, some (vI x), a3] st h := Rnx (hB_192) (dX7_completionOf_1) rfl
theorem v192_2 {d : Nat} {ls : LS3} {st : List MV} {h : Hp} : Ev d 192 2 ls st h = Ev d 192 3 ls (vI 0 :: st) h := Rnx (hB_192) (dX7_completionOf_2) rfl
theorem v192_3 {d : Nat} {st : List MV} {h : Hp} {x : Int32} {a0 a1 a2 a3 : Option MV} : Ev d 192 3 [a0, a1, a2, a3] (vI x :: st) h = Ev d 192 4 [a0, a1, a2, some (vI x)] st h := Rnx (hB_192) (dX7_completionOf_3) rfl
theorem v192_4 {d : Nat} {st : List MV} {h : Hp} {x : Int32} {a0 a1 a2 : Option MV} : Ev d 192 4 [a0, a1, a2, some (vI x)] st h = Ev d 192 5 [a0, a1, a2, some (vI x)] (vI x :: st) h := Rnx (hB_192) (dX7_completionOf_4) rfl
theorem v192_5 {d : Nat} {ls : LS3} {st : List MV} {h : Hp} : Ev d 192 5 ls st h = Ev d 192 6 ls (vI 1 :: st) h := Rnx (hB_192) (dX7_completionOf_5) rfl
theorem v192_6 {d : Nat} {st : List MV} {h : Hp} {x : Option A3} {a1 a2 a3 : Option MV} : Ev d 192 6 [some (vO x), a1, a2, a3] st h = Ev d 192 7 [some (vO x), a1, a2, a3] (vO x :: st) h := Rnx (hB_192) (dX7_completionOf_6) rfl
set_option maxRecDepth 100000 in
theorem v192_7 {d : Nat} {ls : LS3} {st : List MV} {h : Hp} {a : A3} (hS : gS h a = (1, 7)) : Ev d 192 7 ls (vR a :: st) h = Ev d 192 10 ls (vI (gI h a 7) :: st) h := Rget hB_192 dX7_completionOf_7 rfl (Or.inl hS)
theorem v192_10 {d : Nat} {ls : LS3} {st : List MV} {h : Hp} {x y : Int32} : Ev d 192 10 ls (vI y :: vI x :: st) h = Ev d 192 11 ls (vI (x <<< (y &&& 31)) :: st) h := Rnx (hB_192) (dX7_completionOf_10) rfl
theorem v192_11 {d : Nat} {ls : LS3} {st : List MV} {h : Hp} {x y : Int32} : Ev d 192 11 ls (vI y :: vI x :: st) h = if y ≤ x then Ev d 192 108 ls st h else Ev d 192 14 ls st h := Rif hB_192 dX7_completionOf_11 rfl
theorem v192_14 {d : Nat} {st : List MV} {h : Hp} {x : Int32} {a0 a1 a2 : Option MV} : Ev d 192 14 [a0, a1, a2, some (vI x)] st h = Ev d 192 15 [a0, a1, a2, some (vI x)] (vI x :: st) h := Rnx (hB_192) (dX7_completionOf_14) rfl
theorem v192_15 {d : Nat} {st : List MV} {h : Hp} {x : Option A3} {a1 a2 a3 : Option MV} : Ev d 192 15 [some (vO x), a1, a2, a3] st h = Ev d 192 16 [some (vO x), a1, a2, a3] (vO x :: st) h := Rnx (hB_192) (dX7_completionOf_15) rfl
set_option maxRecDepth 100000 in
theorem v192_16 {d : Nat} {ls : LS3} {st : List MV} {h : Hp} {a : A3} (hS : gS h a = (1, 7)) : Ev d 192 16 ls (vR a :: st) h = Ev d 192 19 ls (vO (gR h a 14) :: st) h := Rget hB_192 dX7_completionOf_16 rfl (Or.inl hS)
theorem v192_19 {d : Nat} {st : List MV} {h : Hp} {x : Int32} {a0 a2 a3 : Option MV} : Ev d 192 19 [a0, some (vI x), a2, a3] st h = Ev d 192 20 [a0, some (vI x), a2, a3] (vI x :: st) h := Rnx (hB_192) (dX7_completionOf_19) rfl
theorem v192_20 {d : Nat} {ls : LS3} {st : List MV} {h : Hp} {a : A3} {j : Int32} (hS : (gS h a).1 ∈ [2, 9]) (hj : inB j (gS h a).2) : Ev d 192 20 ls (vI j :: vR a :: st) h = Ev d 192 21 ls (vI (gI h a j.toNatClampNeg) :: st) h := Rald (ks := [2, 9]) (f := fun a j => vI (gI h a j)) hB_192 dX7_completionOf_20 rfl hS hj
theorem v192_21 {d : Nat} {ls : LS3} {st : List MV} {h : Hp} {x y : Int32} : Ev d 192 21 ls (vI y :: vI x :: st) h = Ev d 192 22 ls (vI (x &&& y) :: st) h := Rnx (hB_192) (dX7_completionOf_21) rfl
theorem v192_22 {d : Nat} {ls : LS3} {st : List MV} {h : Hp} {x : Int32} : Ev d 192 22 ls (vI x :: st) h = if x = 0 then Ev d 192 25 ls st h else Ev d 192 102 ls st h := Rifn hB_192 dX7_completionOf_22 rfl
theorem v192_25 {d : Nat} {st : List MV} {h : Hp} {x : Int32} {a0 a1 a2 : Option MV} : Ev d 192 25 [a0, a1, a2, some (vI x)] st h = Ev d 192 26 [a0, a1, a2, some (vI x)] (vI x :: st) h := Rnx (hB_192) (dX7_completionOf_25) rfl
set_option maxRecDepth 100000 in
theorem v192_26 {d : Nat} {ls : LS3} {st : List MV} {h : Hp} {x0 : Int32} (hc : catS st ≤ 8) : Ev (d + 1) 192 26 ls (vI x0 :: st) h = Evk 144 (d + 1) 192 26 ls st (Ev d 144 0 [some (vI x0), none, none] [] h) := RcallS (idx := 129) (n := 1) (kd := 1) (As := [vI x0]) hB_192 dX7_completionOf_26 rfl rfl (by decide) rfl rfl rfl hc
theorem v192_29 {d : Nat} {st : List MV} {h : Hp} {x : Option A3} {a1 a2 a3 : Option MV} : Ev d 192 29 [some (vO x), a1, a2, a3] st h = Ev d 192 30 [some (vO x), a1, a2, a3] (vO x :: st) h := Rnx (hB_192) (dX7_completionOf_29) rfl
set_option maxRecDepth 100000 in
theorem v192_30 {d : Nat} {ls : LS3} {st : List MV} {h : Hp} {a : A3} (hS : gS h a = (1, 7)) : Ev d 192 30 ls (vR a :: st) h = Ev d 192 33 ls (vO (gR h a 14) :: st) h := Rget hB_192 dX7_completionOf_30 rfl (Or.inl hS)
theorem v192_33 {d : Nat} {st : List MV} {h : Hp} {x : Int32} {a0 a2 a3 : Option MV} : Ev d 192 33 [a0, some (vI x), a2, a3] st h = Ev d 192 34 [a0, some (vI x), a2, a3] (vI x :: st) h := Rnx (hB_192) (dX7_completionOf_33) rfl
theorem v192_34 {d : Nat} {ls : LS3} {st : List MV} {h : Hp} {a : A3} {j : Int32} (hS : (gS h a).1 ∈ [2, 9]) (hj : inB j (gS h a).2) : Ev d 192 34 ls (vI j :: vR a :: st) h = Ev d 192 35 ls (vI (gI h a j.toNatClampNeg) :: st) h := Rald (ks := [2, 9]) (f := fun a j => vI (gI h a j)) hB_192 dX7_completionOf_34 rfl hS hj
set_option maxRecDepth 100000 in
theorem v192_35 {d : Nat} {ls : LS3} {st : List MV} {h : Hp} {x0 : Int32} (hc : catS st ≤ 8) : Ev (d + 1) 192 35 ls (vI x0 :: st) h = Evk 144 (d + 1) 192 35 ls st (Ev d 144 0 [some (vI x0), none, none] [] h) := RcallS (idx := 129) (n := 1) (kd := 1) (As := [vI x0]) hB_192 dX7_completionOf_35 rfl rfl (by decide) rfl rfl rfl hc
theorem v192_38 {d : Nat} {ls : LS3} {st : List MV} {h : Hp} {x y : Int32} : Ev d 192 38 ls (vI y :: vI x :: st) h = Ev d 192 39 ls (vI (x + y) :: st) h := Rnx (hB_192) (dX7_completionOf_38) rfl
theorem v192_39 {d : Nat} {st : List MV} {h : Hp} {x : Option A3} {a1 a2 a3 : Option MV} : Ev d 192 39 [some (vO x), a1, a2, a3] st h = Ev d 192 40 [some (vO x), a1, a2, a3] (vO x :: st) h := Rnx (hB_192) (dX7_completionOf_39) rfl
theorem v192_40 {d : Nat} {st : List MV} {h : Hp} {x : Int32} {a0 a2 a3 : Option MV} : Ev d 192 40 [a0, some (vI x), a2, a3] st h = Ev d 192 41 [a0, some (vI x), a2, a3] (vI x :: st) h := Rnx (hB_192) (dX7_completionOf_40) rfl
set_option maxRecDepth 100000 in
theorem v192_41 {d : Nat} {ls : LS3} {st : List MV} {h : Hp} {a : A3} {x0 : Int32} (hS : gS h a = (1, 7)) (hc : catS st ≤ 8) : Ev (d + 1) 192 41 ls (vI x0 :: vR a :: st) h = Evk 154 (d + 1) 192 41 ls st (Ev d 154 0 [some (vR a), some (vI x0)] [] h) := RcallO (idx := 132) (n := 1) (kd := 0) (As' := [vI x0]) hB_192 dX7_completionOf_41 rfl rfl (by decide) rfl rfl (Or.inl hS) rfl hc
theorem v192_44 {d : Nat} {ls : LS3} {st : List MV} {h : Hp} {x y : Int32} : Ev d 192 44 ls (vI y :: vI x :: st) h = if x ≤ y then Ev d 192 54 ls st h else Ev d 192 47 ls st h := Rif hB_192 dX7_completionOf_44 rfl
theorem v192_47 {d : Nat} {st : List MV} {h : Hp} {x : Int32} {a0 a1 a2 : Option MV} : Ev d 192 47 [a0, a1, a2, some (vI x)] st h = Ev d 192 48 [a0, a1, a2, some (vI x)] (vI x :: st) h := Rnx (hB_192) (dX7_completionOf_47) rfl
theorem v192_48 {d : Nat} {ls : LS3} {st : List MV} {h : Hp} {x : Int32} : Ev d 192 48 ls (vI x :: st) h = if x = 0 then Ev d 192 54 ls st h else Ev d 192 51 ls st h := Rif hB_192 dX7_completionOf_48 rfl
theorem v192_51 {d : Nat} {ls : LS3} {st : List MV} {h : Hp} : Ev d 192 51 ls st h = Ev d 192 102 ls st h := Rnx (hB_192) (dX7_completionOf_51) rfl
theorem v192_54 {d : Nat} {st : List MV} {h : Hp} {x : Int32} {a0 a1 a3 : Option MV} : Ev d 192 54 [a0, a1, some (vI x), a3] st h = Ev d 192 55 [a0, a1, some (vI x), a3] (vI x :: st) h := Rnx (hB_192) (dX7_completionOf_54) rfl
theorem v192_55 {d : Nat} {ls : LS3} {st : List MV} {h : Hp} {x : Int32} : Ev d 192 55 ls (vI x :: st) h = if x < 0 then Ev d 192 91 ls st h else Ev d 192 58 ls st h := Rif hB_192 dX7_completionOf_55 rfl
theorem v192_58 {d : Nat} {st : List MV} {h : Hp} {x : Int32} {a0 a1 a2 : Option MV} : Ev d 192 58 [a0, a1, a2, some (vI x)] st h = Ev d 192 59 [a0, a1, a2, some (vI x)] (vI x :: st) h := Rnx (hB_192) (dX7_completionOf_58) rfl
set_option maxRecDepth 100000 in
theorem v192_59 {d : Nat} {ls : LS3} {st : List MV} {h : Hp} {x0 : Int32} (hc : catS st ≤ 8) : Ev (d + 1) 192 59 ls (vI x0 :: st) h = Evk 144 (d + 1) 192 59 ls st (Ev d 144 0 [some (vI x0), none, none] [] h) := RcallS (idx := 129) (n := 1) (kd := 1) (As := [vI x0]) hB_192 dX7_completionOf_59 rfl rfl (by decide) rfl rfl rfl hc
theorem v192_62 {d : Nat} {st : List MV} {h : Hp} {x : Int32} {a0 a1 a3 : Option MV} : Ev d 192 62 [a0, a1, some (vI x), a3] st h = Ev d 192 63 [a0, a1, some (vI x), a3] (vI x :: st) h := Rnx (hB_192) (dX7_completionOf_62) rfl
set_option maxRecDepth 100000 in
theorem v192_63 {d : Nat} {ls : LS3} {st : List MV} {h : Hp} {x0 : Int32} (hc : catS st ≤ 8) : Ev (d + 1) 192 63 ls (vI x0 :: st) h = Evk 144 (d + 1) 192 63 ls st (Ev d 144 0 [some (vI x0), none, none] [] h) := RcallS (idx := 129) (n := 1) (kd := 1) (As := [vI x0]) hB_192 dX7_completionOf_63 rfl rfl (by decide) rfl rfl rfl hc
theorem v192_66 {d : Nat} {ls : LS3} {st : List MV} {h : Hp} {x y : Int32} : Ev d 192 66 ls (vI y :: vI x :: st) h = if y < x then Ev d 192 102 ls st h else Ev d 192 69 ls st h := Rif hB_192 dX7_completionOf_66 rfl
theorem v192_69 {d : Nat} {st : List MV} {h : Hp} {x : Int32} {a0 a1 a2 : Option MV} : Ev d 192 69 [a0, a1, a2, some (vI x)] st h = Ev d 192 70 [a0, a1, a2, some (vI x)] (vI x :: st) h := Rnx (hB_192) (dX7_completionOf_69) rfl
set_option maxRecDepth 100000 in
theorem v192_70 {d : Nat} {ls : LS3} {st : List MV} {h : Hp} {x0 : Int32} (hc : catS st ≤ 8) : Ev (d + 1) 192 70 ls (vI x0 :: st) h = Evk 144 (d + 1) 192 70 ls st (Ev d 144 0 [some (vI x0), none, none] [] h) := RcallS (idx := 129) (n := 1) (kd := 1) (As := [vI x0]) hB_192 dX7_completionOf_70 rfl rfl (by decide) rfl rfl rfl hc
theorem v192_73 {d : Nat} {st : List MV} {h : Hp} {x : Int32} {a0 a1 a3 : Option MV} : Ev d 192 73 [a0, a1, some (vI x), a3] st h = Ev d 192 74 [a0, a1, some (vI x), a3] (vI x :: st) h := Rnx (hB_192) (dX7_completionOf_73) rfl
set_option maxRecDepth 100000 in
theorem v192_74 {d : Nat} {ls : LS3} {st : List MV} {h : Hp} {x0 : Int32} (hc : catS st ≤ 8) : Ev (d + 1) 192 74 ls (vI x0 :: st) h = Evk 144 (d + 1) 192 74 ls st (Ev d 144 0 [some (vI x0), none, none] [] h) := RcallS (idx := 129) (n := 1) (kd := 1) (As := [vI x0]) hB_192 dX7_completionOf_74 rfl rfl (by decide) rfl rfl rfl hc
theorem v192_77 {d : Nat} {ls : LS3} {st : List MV} {h : Hp} {x y : Int32} : Ev d 192 77 ls (vI y :: vI x :: st) h = if x = y then Ev d 192 80 ls st h else Ev d 192 91 ls st h := Rifn hB_192 dX7_completionOf_77 rfl
theorem v192_80 {d : Nat} {st : List MV} {h : Hp} {x : Int32} {a0 a1 a2 : Option MV} : Ev d 192 80 [a0, a1, a2, some (vI x)] st h = Ev d 192 81 [a0, a1, a2, some (vI x)] (vI x :: st) h := Rnx (hB_192) (dX7_completionOf_80) rfl
theorem v192_81 {d : Nat} {st : List MV} {h : Hp} {x : Int32} {a0 a1 a3 : Option MV} : Ev d 192 81 [a0, a1, some (vI x), a3] st h = Ev d 192 82 [a0, a1, some (vI x), a3] (vI x :: st) h := Rnx (hB_192) (dX7_completionOf_81) rfl
set_option maxRecDepth 100000 in
theorem v192_82 {d : Nat} {ls : LS3} {st : List MV} {h : Hp} {x0 : Int32} {x1 : Int32} (hc : catS st ≤ 8) : Ev (d + 1) 192 82 ls (vI x1 :: vI x0 :: st) h = Evk 191 (d + 1) 192 82 ls st (Ev d 191 0 [some (vI x0), some (vI x1), none] [] h) := RcallS (idx := 220) (n := 2) (kd := 1) (As := [vI x0, vI x1]) hB_192 dX7_completionOf_82 rfl rfl (by decide) rfl rfl rfl hc
theorem v192_85 {d : Nat} {ls : LS3} {st : List MV} {h : Hp} {x : Int32} : Ev d 192 85 ls (vI x :: st) h = if x = 0 then Ev d 192 88 ls st h else Ev d 192 91 ls st h := Rifn hB_192 dX7_completionOf_85 rfl
theorem v192_88 {d : Nat} {ls : LS3} {st : List MV} {h : Hp} : Ev d 192 88 ls st h = Ev d 192 102 ls st h := Rnx (hB_192) (dX7_completionOf_88) rfl
theorem v192_91 {d : Nat} {st : List MV} {h : Hp} {x : Option A3} {a1 a2 a3 : Option MV} : Ev d 192 91 [some (vO x), a1, a2, a3] st h = Ev d 192 92 [some (vO x), a1, a2, a3] (vO x :: st) h := Rnx (hB_192) (dX7_completionOf_91) rfl
theorem v192_92 {d : Nat} {st : List MV} {h : Hp} {x : Int32} {a0 a2 a3 : Option MV} : Ev d 192 92 [a0, some (vI x), a2, a3] st h = Ev d 192 93 [a0, some (vI x), a2, a3] (vI x :: st) h := Rnx (hB_192) (dX7_completionOf_92) rfl
theorem v192_93 {d : Nat} {st : List MV} {h : Hp} {x : Int32} {a0 a1 a2 : Option MV} : Ev d 192 93 [a0, a1, a2, some (vI x)] st h = Ev d 192 94 [a0, a1, a2, some (vI x)] (vI x :: st) h := Rnx (hB_192) (dX7_completionOf_93) rfl
set_option maxRecDepth 100000 in
theorem v192_94 {d : Nat} {ls : LS3} {st : List MV} {h : Hp} {a : A3} {x0 : Int32} {x1 : Int32} (hS : gS h a = (1, 7)) (hc : catS st ≤ 8) : Ev (d + 1) 192 94 ls (vI x1 :: vI x0 :: vR a :: st) h = Evk 190 (d + 1) 192 94 ls st (Ev d 190 0 [some (vR a), some (vI x0), some (vI x1), none, none] [] h) := RcallO (idx := 223) (n := 2) (kd := 0) (As' := [vI x0, vI x1]) hB_192 dX7_completionOf_94 rfl rfl (by decide) rfl rfl (Or.inl hS) rfl hc
theorem v192_97 {d : Nat} {ls : LS3} {st : List MV} {h : Hp} {x : Int32} : Ev d 192 97 ls (vI x :: st) h = if x = 0 then Ev d 192 102 ls st h else Ev d 192 100 ls st h := Rif hB_192 dX7_completionOf_97 rfl
theorem v192_100 {d : Nat} {st : List MV} {h : Hp} {x : Int32} {a0 a1 a2 : Option MV} : Ev d 192 100 [a0, a1, a2, some (vI x)] st h = Ev d 192 101 [a0, a1, a2, some (vI x)] (vI x :: st) h := Rnx (hB_192) (dX7_completionOf_100) rfl
theorem v192_101 {d : Nat} {st : List MV} {h : Hp} {x : Int32} {a0 a1 a2 a3 : Option MV} : Ev d 192 101 [a0, a1, a2, a3] (vI x :: st) h = Ev d 192 102 [a0, a1, some (vI x), a3] st h := Rnx (hB_192) (dX7_completionOf_101) rfl
theorem v192_102 {d : Nat} {st : List MV} {h : Hp} {x : Int32} {a0 a1 a2 : Option MV} : Ev d 192 102 [a0, a1, a2, some (vI x)] st h = Ev d 192 105 [a0, a1, a2, some (vI (x + 1))] st h := Rnx (hB_192) (dX7_completionOf_102) rfl
theorem v192_105 {d : Nat} {ls : LS3} {st : List MV} {h : Hp} : Ev d 192 105 ls st h = Ev d 192 4 ls st h := Rnx (hB_192) (dX7_completionOf_105) rfl
theorem v192_108 {d : Nat} {st : List MV} {h : Hp} {x : Int32} {a0 a1 a3 : Option MV} : Ev d 192 108 [a0, a1, some (vI x), a3] st h = Ev d 192 109 [a0, a1, some (vI x), a3] (vI x :: st) h := Rnx (hB_192) (dX7_completionOf_108) rfl
theorem v192_109 {d : Nat} {ls : LS3} {h : Hp} {x : Int32} : Ev d 192 109 ls [vI x] h = some (.inl (some (vI x)), h) := Rdn hB_192 dX7_completionOf_109 rfl
theorem hB_193 : mB 193 = cX7_completion := rfl
theorem v193_0 {d : Nat} {st : List MV} {h : Hp} {x : Option A3} {a1 a2 : Option MV} : Ev d 193 0 [some (vO x), a1, a2] st h = Ev d 193 1 [some (vO x), a1, a2] (vO x :: st) h := Rnx (hB_193) (dX7_completion_0) rfl
theorem v193_1 {d : Nat} {st : List MV} {h : Hp} {x : Int32} {a0 a2 : Option MV} : Ev d 193 1 [a0, some (vI x), a2] st h = Ev d 193 2 [a0, some (vI x), a2] (vI x :: st) h := Rnx (hB_193) (dX7_completion_1) rfl
set_option maxRecDepth 100000 in
theorem v193_2 {d : Nat} {ls : LS3} {st : List MV} {h : Hp} {a : A3} {x0 : Int32} (hS : gS h a = (1, 7)) (hc : catS st ≤ 8) : Ev (d + 1) 193 2 ls (vI x0 :: vR a :: st) h = Evk 149 (d + 1) 193 2 ls st (Ev d 149 0 [some (vR a), some (vI x0)] [] h) := RcallO (idx := 202) (n := 1) (kd := 0) (As' := [vI x0]) hB_193 dX7_completion_2 rfl rfl (by decide) rfl rfl (Or.inl hS) rfl hc
theorem v193_5 {d : Nat} {ls : LS3} {st : List MV} {h : Hp} {x : Int32} : Ev d 193 5 ls (vI x :: st) h = if x = 0 then Ev d 193 8 ls st h else Ev d 193 14 ls st h := Rifn hB_193 dX7_completion_5 rfl
theorem v193_8 {d : Nat} {st : List MV} {h : Hp} {x : Option A3} {a1 a2 : Option MV} : Ev d 193 8 [some (vO x), a1, a2] st h = Ev d 193 9 [some (vO x), a1, a2] (vO x :: st) h := Rnx (hB_193) (dX7_completion_8) rfl
theorem v193_9 {d : Nat} {ls : LS3} {st : List MV} {h : Hp} : Ev d 193 9 ls st h = Ev d 193 10 ls (vI 1 :: st) h := Rnx (hB_193) (dX7_completion_9) rfl
set_option maxRecDepth 100000 in
theorem v193_10 {d : Nat} {ls : LS3} {st : List MV} {h : Hp} {a : A3} {x0 : Int32} (hS : gS h a = (1, 7)) (hc : catS st ≤ 8) : Ev (d + 1) 193 10 ls (vI x0 :: vR a :: st) h = Evk 141 (d + 1) 193 10 ls st (Ev d 141 0 [some (vR a), some (vI x0)] [] h) := RcallO (idx := 168) (n := 1) (kd := 0) (As' := [vI x0]) hB_193 dX7_completion_10 rfl rfl (by decide) rfl rfl (Or.inl hS) rfl hc
theorem v193_13 {d : Nat} {ls : LS3} {h : Hp} {x : Int32} : Ev d 193 13 ls [vI x] h = some (.inl (some (vI x)), h) := Rdn hB_193 dX7_completion_13 rfl
theorem v193_14 {d : Nat} {st : List MV} {h : Hp} {x : Option A3} {a1 a2 : Option MV} : Ev d 193 14 [some (vO x), a1, a2] st h = Ev d 193 15 [some (vO x), a1, a2] (vO x :: st) h := Rnx (hB_193) (dX7_completion_14) rfl
theorem v193_15 {d : Nat} {st : List MV} {h : Hp} {x : Int32} {a0 a2 : Option MV} : Ev d 193 15 [a0, some (vI x), a2] st h = Ev d 193 16 [a0, some (vI x), a2] (vI x :: st) h := Rnx (hB_193) (dX7_completion_15) rfl
set_option maxRecDepth 100000 in
theorem v193_16 {d : Nat} {ls : LS3} {st : List MV} {h : Hp} {a : A3} {x0 : Int32} (hS : gS h a = (1, 7)) (hc : catS st ≤ 8) : Ev (d + 1) 193 16 ls (vI x0 :: vR a :: st) h = Evk 192 (d + 1) 193 16 ls st (Ev d 192 0 [some (vR a), some (vI x0), none, none] [] h) := RcallO (idx := 226) (n := 1) (kd := 0) (As' := [vI x0]) hB_193 dX7_completion_16 rfl rfl (by decide) rfl rfl (Or.inl hS) rfl hc
theorem v193_19 {d : Nat} {st : List MV} {h : Hp} {x : Int32} {a0 a1 a2 : Option MV} : Ev d 193 19 [a0, a1, a2] (vI x :: st) h = Ev d 193 20 [a0, a1, some (vI x)] st h := Rnx (hB_193) (dX7_completion_19) rfl
theorem v193_20 {d : Nat} {st : List MV} {h : Hp} {x : Int32} {a0 a1 : Option MV} : Ev d 193 20 [a0, a1, some (vI x)] st h = Ev d 193 21 [a0, a1, some (vI x)] (vI x :: st) h := Rnx (hB_193) (dX7_completion_20) rfl
theorem v193_21 {d : Nat} {ls : LS3} {st : List MV} {h : Hp} {x : Int32} : Ev d 193 21 ls (vI x :: st) h = if 0 ≤ x then Ev d 193 30 ls st h else Ev d 193 24 ls st h := Rif hB_193 dX7_completion_21 rfl
theorem v193_24 {d : Nat} {st : List MV} {h : Hp} {x : Option A3} {a1 a2 : Option MV} : Ev d 193 24 [some (vO x), a1, a2] st h = Ev d 193 25 [some (vO x), a1, a2] (vO x :: st) h := Rnx (hB_193) (dX7_completion_24) rfl
theorem v193_25 {d : Nat} {ls : LS3} {st : List MV} {h : Hp} : Ev d 193 25 ls st h = Ev d 193 26 ls (vI 2 :: st) h := Rnx (hB_193) (dX7_completion_25) rfl
set_option maxRecDepth 100000 in
theorem v193_26 {d : Nat} {ls : LS3} {st : List MV} {h : Hp} {a : A3} {x0 : Int32} (hS : gS h a = (1, 7)) (hc : catS st ≤ 8) : Ev (d + 1) 193 26 ls (vI x0 :: vR a :: st) h = Evk 141 (d + 1) 193 26 ls st (Ev d 141 0 [some (vR a), some (vI x0)] [] h) := RcallO (idx := 168) (n := 1) (kd := 0) (As' := [vI x0]) hB_193 dX7_completion_26 rfl rfl (by decide) rfl rfl (Or.inl hS) rfl hc
theorem v193_29 {d : Nat} {ls : LS3} {h : Hp} {x : Int32} : Ev d 193 29 ls [vI x] h = some (.inl (some (vI x)), h) := Rdn hB_193 dX7_completion_29 rfl
theorem v193_30 {d : Nat} {st : List MV} {h : Hp} {x : Option A3} {a1 a2 : Option MV} : Ev d 193 30 [some (vO x), a1, a2] st h = Ev d 193 31 [some (vO x), a1, a2] (vO x :: st) h := Rnx (hB_193) (dX7_completion_30) rfl
theorem v193_31 {d : Nat} {ls : LS3} {st : List MV} {h : Hp} : Ev d 193 31 ls st h = Ev d 193 32 ls (vI 0 :: st) h := Rnx (hB_193) (dX7_completion_31) rfl
set_option maxRecDepth 100000 in
theorem v193_32 {d : Nat} {ls : LS3} {st : List MV} {h : Hp} {a : A3} {x : Int32} (hS : gS h a = (1, 7)) : Ev d 193 32 ls (vI x :: vR a :: st) h = Ev d 193 35 ls st (sI h a 0 x) := RputI hB_193 dX7_completion_32 rfl rfl (by decide) hS (Or.inl rfl)
theorem v193_35 {d : Nat} {st : List MV} {h : Hp} {x : Int32} {a0 a1 : Option MV} : Ev d 193 35 [a0, a1, some (vI x)] st h = Ev d 193 36 [a0, a1, some (vI x)] (vI x :: st) h := Rnx (hB_193) (dX7_completion_35) rfl
theorem v193_36 {d : Nat} {ls : LS3} {h : Hp} {x : Int32} : Ev d 193 36 ls [vI x] h = some (.inl (some (vI x)), h) := Rdn hB_193 dX7_completion_36 rfl
theorem hB_194 : mB 194 = cX7_complete := rfl
theorem v194_0 {d : Nat} {st : List MV} {h : Hp} {x : Option A3} {a1 a2 : Option MV} : Ev d 194 0 [some (vO x), a1, a2] st h = Ev d 194 1 [some (vO x), a1, a2] (vO x :: st) h := Rnx (hB_194) (dX7_complete_0) rfl
theorem v194_1 {d : Nat} {st : List MV} {h : Hp} {x : Int32} {a0 a2 : Option MV} : Ev d 194 1 [a0, some (vI x), a2] st h = Ev d 194 2 [a0, some (vI x), a2] (vI x :: st) h := Rnx (hB_194) (dX7_complete_1) rfl
set_option maxRecDepth 100000 in
theorem v194_2 {d : Nat} {ls : LS3} {st : List MV} {h : Hp} {a : A3} {x0 : Int32} (hS : gS h a = (1, 7)) (hc : catS st ≤ 8) : Ev (d + 1) 194 2 ls (vI x0 :: vR a :: st) h = Evk 149 (d + 1) 194 2 ls st (Ev d 149 0 [some (vR a), some (vI x0)] [] h) := RcallO (idx := 202) (n := 1) (kd := 0) (As' := [vI x0]) hB_194 dX7_complete_2 rfl rfl (by decide) rfl rfl (Or.inl hS) rfl hc
theorem v194_5 {d : Nat} {ls : LS3} {st : List MV} {h : Hp} {x : Int32} : Ev d 194 5 ls (vI x :: st) h = if x = 0 then Ev d 194 8 ls st h else Ev d 194 14 ls st h := Rifn hB_194 dX7_complete_5 rfl
theorem v194_8 {d : Nat} {st : List MV} {h : Hp} {x : Option A3} {a1 a2 : Option MV} : Ev d 194 8 [some (vO x), a1, a2] st h = Ev d 194 9 [some (vO x), a1, a2] (vO x :: st) h := Rnx (hB_194) (dX7_complete_8) rfl
theorem v194_9 {d : Nat} {ls : LS3} {st : List MV} {h : Hp} : Ev d 194 9 ls st h = Ev d 194 10 ls (vI 1 :: st) h := Rnx (hB_194) (dX7_complete_9) rfl
set_option maxRecDepth 100000 in
theorem v194_10 {d : Nat} {ls : LS3} {st : List MV} {h : Hp} {a : A3} {x0 : Int32} (hS : gS h a = (1, 7)) (hc : catS st ≤ 8) : Ev (d + 1) 194 10 ls (vI x0 :: vR a :: st) h = Evk 141 (d + 1) 194 10 ls st (Ev d 141 0 [some (vR a), some (vI x0)] [] h) := RcallO (idx := 168) (n := 1) (kd := 0) (As' := [vI x0]) hB_194 dX7_complete_10 rfl rfl (by decide) rfl rfl (Or.inl hS) rfl hc
theorem v194_13 {d : Nat} {ls : LS3} {h : Hp} {x : Int32} : Ev d 194 13 ls [vI x] h = some (.inl (some (vI x)), h) := Rdn hB_194 dX7_complete_13 rfl
theorem v194_14 {d : Nat} {st : List MV} {h : Hp} {x : Option A3} {a1 a2 : Option MV} : Ev d 194 14 [some (vO x), a1, a2] st h = Ev d 194 15 [some (vO x), a1, a2] (vO x :: st) h := Rnx (hB_194) (dX7_complete_14) rfl
theorem v194_15 {d : Nat} {st : List MV} {h : Hp} {x : Int32} {a0 a2 : Option MV} : Ev d 194 15 [a0, some (vI x), a2] st h = Ev d 194 16 [a0, some (vI x), a2] (vI x :: st) h := Rnx (hB_194) (dX7_complete_15) rfl
set_option maxRecDepth 100000 in
theorem v194_16 {d : Nat} {ls : LS3} {st : List MV} {h : Hp} {a : A3} {x0 : Int32} (hS : gS h a = (1, 7)) (hc : catS st ≤ 8) : Ev (d + 1) 194 16 ls (vI x0 :: vR a :: st) h = Evk 192 (d + 1) 194 16 ls st (Ev d 192 0 [some (vR a), some (vI x0), none, none] [] h) := RcallO (idx := 226) (n := 1) (kd := 0) (As' := [vI x0]) hB_194 dX7_complete_16 rfl rfl (by decide) rfl rfl (Or.inl hS) rfl hc
theorem v194_19 {d : Nat} {st : List MV} {h : Hp} {x : Int32} {a0 a1 a2 : Option MV} : Ev d 194 19 [a0, a1, a2] (vI x :: st) h = Ev d 194 20 [a0, a1, some (vI x)] st h := Rnx (hB_194) (dX7_complete_19) rfl
theorem v194_20 {d : Nat} {st : List MV} {h : Hp} {x : Int32} {a0 a1 : Option MV} : Ev d 194 20 [a0, a1, some (vI x)] st h = Ev d 194 21 [a0, a1, some (vI x)] (vI x :: st) h := Rnx (hB_194) (dX7_complete_20) rfl
theorem v194_21 {d : Nat} {ls : LS3} {st : List MV} {h : Hp} {x : Int32} : Ev d 194 21 ls (vI x :: st) h = if 0 ≤ x then Ev d 194 30 ls st h else Ev d 194 24 ls st h := Rif hB_194 dX7_complete_21 rfl
theorem v194_24 {d : Nat} {st : List MV} {h : Hp} {x : Option A3} {a1 a2 : Option MV} : Ev d 194 24 [some (vO x), a1, a2] st h = Ev d 194 25 [some (vO x), a1, a2] (vO x :: st) h := Rnx (hB_194) (dX7_complete_24) rfl
theorem v194_25 {d : Nat} {ls : LS3} {st : List MV} {h : Hp} : Ev d 194 25 ls st h = Ev d 194 26 ls (vI 2 :: st) h := Rnx (hB_194) (dX7_complete_25) rfl
set_option maxRecDepth 100000 in
theorem v194_26 {d : Nat} {ls : LS3} {st : List MV} {h : Hp} {a : A3} {x0 : Int32} (hS : gS h a = (1, 7)) (hc : catS st ≤ 8) : Ev (d + 1) 194 26 ls (vI x0 :: vR a :: st) h = Evk 141 (d + 1) 194 26 ls st (Ev d 141 0 [some (vR a), some (vI x0)] [] h) := RcallO (idx := 168) (n := 1) (kd := 0) (As' := [vI x0]) hB_194 dX7_complete_26 rfl rfl (by decide) rfl rfl (Or.inl hS) rfl hc
theorem v194_29 {d : Nat} {ls : LS3} {h : Hp} {x : Int32} : Ev d 194 29 ls [vI x] h = some (.inl (some (vI x)), h) := Rdn hB_194 dX7_complete_29 rfl
theorem v194_30 {d : Nat} {st : List MV} {h : Hp} {x : Option A3} {a1 a2 : Option MV} : Ev d 194 30 [some (vO x), a1, a2] st h = Ev d 194 31 [some (vO x), a1, a2] (vO x :: st) h := Rnx (hB_194) (dX7_complete_30) rfl
theorem v194_31 {d : Nat} {ls : LS3} {st : List MV} {h : Hp} : Ev d 194 31 ls st h = Ev d 194 32 ls (vI 0 :: st) h := Rnx (hB_194) (dX7_complete_31) rfl
set_option maxRecDepth 100000 in
theorem v194_32 {d : Nat} {ls : LS3} {st : List MV} {h : Hp} {a : A3} {x : Int32} (hS : gS h a = (1, 7)) : Ev d 194 32 ls (vI x :: vR a :: st) h = Ev d 194 35 ls st (sI h a 0 x) := RputI hB_194 dX7_complete_32 rfl rfl (by decide) hS (Or.inl rfl)
theorem v194_35 {d : Nat} {st : List MV} {h : Hp} {x : Option A3} {a1 a2 : Option MV} : Ev d 194 35 [some (vO x), a1, a2] st h = Ev d 194 36 [some (vO x), a1, a2] (vO x :: st) h := Rnx (hB_194) (dX7_complete_35) rfl
set_option maxRecDepth 100000 in
theorem v194_36 {d : Nat} {ls : LS3} {st : List MV} {h : Hp} {a : A3}  (hS : gS h a = (1, 7)) (hc : catS st ≤ 8) : Ev (d + 1) 194 36 ls (vR a :: st) h = Evk 230 (d + 1) 194 36 ls st (Ev d 230 0 [some (vR a)] [] h) := RcallO (idx := 171) (n := 0) (kd := 0) (As' := []) hB_194 dX7_complete_36 rfl rfl (by decide) rfl rfl (Or.inl hS) rfl hc
theorem v194_39 {d : Nat} {st : List MV} {h : Hp} {x : Option A3} {a1 a2 : Option MV} : Ev d 194 39 [some (vO x), a1, a2] st h = Ev d 194 40 [some (vO x), a1, a2] (vO x :: st) h := Rnx (hB_194) (dX7_complete_39) rfl
set_option maxRecDepth 100000 in
theorem v194_40 {d : Nat} {ls : LS3} {st : List MV} {h : Hp} {a : A3} (hS : gS h a = (1, 7)) : Ev d 194 40 ls (vR a :: st) h = Ev d 194 43 ls (vO (gR h a 14) :: st) h := Rget hB_194 dX7_complete_40 rfl (Or.inl hS)
theorem v194_43 {d : Nat} {st : List MV} {h : Hp} {x : Int32} {a0 a2 : Option MV} : Ev d 194 43 [a0, some (vI x), a2] st h = Ev d 194 44 [a0, some (vI x), a2] (vI x :: st) h := Rnx (hB_194) (dX7_complete_43) rfl
theorem v194_44 {d : Nat} {ls : LS3} {st : List MV} {h : Hp} {v w : MV} (hv : cat1 v = true) (hw : cat1 w = true) : Ev d 194 44 ls (v :: w :: st) h = Ev d 194 45 ls (v :: w :: v :: w :: st) h := Rdup2 hB_194 dX7_complete_44 hv hw
theorem v194_45 {d : Nat} {ls : LS3} {st : List MV} {h : Hp} {a : A3} {j : Int32} (hS : (gS h a).1 ∈ [2, 9]) (hj : inB j (gS h a).2) : Ev d 194 45 ls (vI j :: vR a :: st) h = Ev d 194 46 ls (vI (gI h a j.toNatClampNeg) :: st) h := Rald (ks := [2, 9]) (f := fun a j => vI (gI h a j)) hB_194 dX7_complete_45 rfl hS hj
theorem v194_46 {d : Nat} {st : List MV} {h : Hp} {x : Int32} {a0 a1 : Option MV} : Ev d 194 46 [a0, a1, some (vI x)] st h = Ev d 194 47 [a0, a1, some (vI x)] (vI x :: st) h := Rnx (hB_194) (dX7_complete_46) rfl
theorem v194_47 {d : Nat} {ls : LS3} {st : List MV} {h : Hp} {x y : Int32} : Ev d 194 47 ls (vI y :: vI x :: st) h = Ev d 194 48 ls (vI (x ||| y) :: st) h := Rnx (hB_194) (dX7_complete_47) rfl
theorem v194_48 {d : Nat} {ls : LS3} {st : List MV} {h : Hp} {a : A3} {j : Int32} {x : Int32} (hS : (gS h a).1 = 2) (hj : inB j (gS h a).2) : Ev d 194 48 ls (vI x :: vI j :: vR a :: st) h = Ev d 194 49 ls st (sI h a j.toNatClampNeg x) := RastI hB_194 dX7_complete_48 hS hj
theorem v194_49 {d : Nat} {st : List MV} {h : Hp} {x : Int32} {a0 a1 : Option MV} : Ev d 194 49 [a0, a1, some (vI x)] st h = Ev d 194 50 [a0, a1, some (vI x)] (vI x :: st) h := Rnx (hB_194) (dX7_complete_49) rfl
set_option maxRecDepth 100000 in
theorem v194_50 {d : Nat} {ls : LS3} {st : List MV} {h : Hp} {x0 : Int32} (hc : catS st ≤ 8) : Ev (d + 1) 194 50 ls (vI x0 :: st) h = Evk 144 (d + 1) 194 50 ls st (Ev d 144 0 [some (vI x0), none, none] [] h) := RcallS (idx := 129) (n := 1) (kd := 1) (As := [vI x0]) hB_194 dX7_complete_50 rfl rfl (by decide) rfl rfl rfl hc
theorem v194_53 {d : Nat} {ls : LS3} {h : Hp} {x : Int32} : Ev d 194 53 ls [vI x] h = some (.inl (some (vI x)), h) := Rdn hB_194 dX7_complete_53 rfl
theorem hB_195 : mB 195 = cX7_reason := rfl
theorem v195_0 {d : Nat} {st : List MV} {h : Hp} {x : Option A3} : Ev d 195 0 [some (vO x)] st h = Ev d 195 1 [some (vO x)] (vO x :: st) h := Rnx (hB_195) (dX7_reason_0) rfl
set_option maxRecDepth 100000 in
theorem v195_1 {d : Nat} {ls : LS3} {st : List MV} {h : Hp} {a : A3} (hS : gS h a = (1, 7)) : Ev d 195 1 ls (vR a :: st) h = Ev d 195 4 ls (vI (gI h a 22) :: st) h := Rget hB_195 dX7_reason_1 rfl (Or.inl hS)
theorem v195_4 {d : Nat} {ls : LS3} {st : List MV} {h : Hp} {x : Int32} : Ev d 195 4 ls (vI x :: st) h = if x = 0 then Ev d 195 7 ls st h else Ev d 195 13 ls st h := Rifn hB_195 dX7_reason_4 rfl
theorem v195_7 {d : Nat} {st : List MV} {h : Hp} {x : Option A3} : Ev d 195 7 [some (vO x)] st h = Ev d 195 8 [some (vO x)] (vO x :: st) h := Rnx (hB_195) (dX7_reason_7) rfl
theorem v195_8 {d : Nat} {ls : LS3} {st : List MV} {h : Hp} : Ev d 195 8 ls st h = Ev d 195 9 ls (vI 1 :: st) h := Rnx (hB_195) (dX7_reason_8) rfl
set_option maxRecDepth 100000 in
theorem v195_9 {d : Nat} {ls : LS3} {st : List MV} {h : Hp} {a : A3} {x0 : Int32} (hS : gS h a = (1, 7)) (hc : catS st ≤ 8) : Ev (d + 1) 195 9 ls (vI x0 :: vR a :: st) h = Evk 141 (d + 1) 195 9 ls st (Ev d 141 0 [some (vR a), some (vI x0)] [] h) := RcallO (idx := 168) (n := 1) (kd := 0) (As' := [vI x0]) hB_195 dX7_reason_9 rfl rfl (by decide) rfl rfl (Or.inl hS) rfl hc
theorem v195_12 {d : Nat} {ls : LS3} {h : Hp} {x : Int32} : Ev d 195 12 ls [vI x] h = some (.inl (some (vI x)), h) := Rdn hB_195 dX7_reason_12 rfl
theorem v195_13 {d : Nat} {st : List MV} {h : Hp} {x : Option A3} : Ev d 195 13 [some (vO x)] st h = Ev d 195 14 [some (vO x)] (vO x :: st) h := Rnx (hB_195) (dX7_reason_13) rfl
theorem v195_14 {d : Nat} {ls : LS3} {st : List MV} {h : Hp} : Ev d 195 14 ls st h = Ev d 195 15 ls (vI 0 :: st) h := Rnx (hB_195) (dX7_reason_14) rfl
set_option maxRecDepth 100000 in
theorem v195_15 {d : Nat} {ls : LS3} {st : List MV} {h : Hp} {a : A3} {x : Int32} (hS : gS h a = (1, 7)) : Ev d 195 15 ls (vI x :: vR a :: st) h = Ev d 195 18 ls st (sI h a 0 x) := RputI hB_195 dX7_reason_15 rfl rfl (by decide) hS (Or.inl rfl)
theorem v195_18 {d : Nat} {st : List MV} {h : Hp} {x : Option A3} : Ev d 195 18 [some (vO x)] st h = Ev d 195 19 [some (vO x)] (vO x :: st) h := Rnx (hB_195) (dX7_reason_18) rfl
set_option maxRecDepth 100000 in
theorem v195_19 {d : Nat} {ls : LS3} {st : List MV} {h : Hp} {a : A3} (hS : gS h a = (1, 7)) : Ev d 195 19 ls (vR a :: st) h = Ev d 195 22 ls (vI (gI h a 22) :: st) h := Rget hB_195 dX7_reason_19 rfl (Or.inl hS)
theorem v195_22 {d : Nat} {ls : LS3} {h : Hp} {x : Int32} : Ev d 195 22 ls [vI x] h = some (.inl (some (vI x)), h) := Rdn hB_195 dX7_reason_22 rfl
theorem hB_196 : mB 196 = cX7_isRoom := rfl
theorem v196_0 {d : Nat} {st : List MV} {h : Hp} {x : Int32} : Ev d 196 0 [some (vI x)] st h = Ev d 196 1 [some (vI x)] (vI x :: st) h := Rnx (hB_196) (dX7_isRoom_0) rfl
theorem v196_1 {d : Nat} {ls : LS3} {st : List MV} {h : Hp} : Ev d 196 1 ls st h = Ev d 196 2 ls (vI 0 :: st) h := Rnx (hB_196) (dX7_isRoom_1) rfl
theorem v196_2 {d : Nat} {ls : LS3} {st : List MV} {h : Hp} : Ev d 196 2 ls st h = Ev d 196 3 ls (vI 2 :: st) h := Rnx (hB_196) (dX7_isRoom_2) rfl
set_option maxRecDepth 100000 in
theorem v196_3 {d : Nat} {ls : LS3} {st : List MV} {h : Hp} {x0 : Int32} {x1 : Int32} {x2 : Int32} (hc : catS st ≤ 8) : Ev (d + 1) 196 3 ls (vI x2 :: vI x1 :: vI x0 :: st) h = Evk 143 (d + 1) 196 3 ls st (Ev d 143 0 [some (vI x0), some (vI x1), some (vI x2)] [] h) := RcallS (idx := 87) (n := 3) (kd := 1) (As := [vI x0, vI x1, vI x2]) hB_196 dX7_isRoom_3 rfl rfl (by decide) rfl rfl rfl hc
theorem v196_6 {d : Nat} {ls : LS3} {h : Hp} {x : Int32} (hx : x = 0 ∨ x = 1) : Ev d 196 6 ls [vI x] h = some (.inl (some (vI x)), h) := RretB hB_196 dX7_isRoom_6 rfl hx
theorem hB_197 : mB 197 = cX7_place := rfl
theorem v197_0 {d : Nat} {st : List MV} {h : Hp} {x : Option A3} {a1 a2 a3 a4 a5 : Option MV} : Ev d 197 0 [some (vO x), a1, a2, a3, a4, a5] st h = Ev d 197 1 [some (vO x), a1, a2, a3, a4, a5] (vO x :: st) h := Rnx (hB_197) (dX7_place_0) rfl
theorem v197_1 {d : Nat} {st : List MV} {h : Hp} {x : Int32} {a0 a2 a3 a4 a5 : Option MV} : Ev d 197 1 [a0, some (vI x), a2, a3, a4, a5] st h = Ev d 197 2 [a0, some (vI x), a2, a3, a4, a5] (vI x :: st) h := Rnx (hB_197) (dX7_place_1) rfl
set_option maxRecDepth 100000 in
theorem v197_2 {d : Nat} {ls : LS3} {st : List MV} {h : Hp} {a : A3} {x0 : Int32} (hS : gS h a = (1, 7)) (hc : catS st ≤ 8) : Ev (d + 1) 197 2 ls (vI x0 :: vR a :: st) h = Evk 149 (d + 1) 197 2 ls st (Ev d 149 0 [some (vR a), some (vI x0)] [] h) := RcallO (idx := 202) (n := 1) (kd := 0) (As' := [vI x0]) hB_197 dX7_place_2 rfl rfl (by decide) rfl rfl (Or.inl hS) rfl hc
theorem v197_5 {d : Nat} {ls : LS3} {st : List MV} {h : Hp} {x : Int32} : Ev d 197 5 ls (vI x :: st) h = if x = 0 then Ev d 197 15 ls st h else Ev d 197 8 ls st h := Rif hB_197 dX7_place_5 rfl
theorem v197_8 {d : Nat} {st : List MV} {h : Hp} {x : Int32} {a0 a1 a3 a4 a5 : Option MV} : Ev d 197 8 [a0, a1, some (vI x), a3, a4, a5] st h = Ev d 197 9 [a0, a1, some (vI x), a3, a4, a5] (vI x :: st) h := Rnx (hB_197) (dX7_place_8) rfl
set_option maxRecDepth 100000 in
theorem v197_9 {d : Nat} {ls : LS3} {st : List MV} {h : Hp} {x0 : Int32} (hc : catS st ≤ 8) : Ev (d + 1) 197 9 ls (vI x0 :: st) h = Evk 196 (d + 1) 197 9 ls st (Ev d 196 0 [some (vI x0)] [] h) := RcallS (idx := 229) (n := 1) (kd := 1) (As := [vI x0]) hB_197 dX7_place_9 rfl rfl (by decide) rfl rfl rfl hc
theorem v197_12 {d : Nat} {ls : LS3} {st : List MV} {h : Hp} {x : Int32} : Ev d 197 12 ls (vI x :: st) h = if x = 0 then Ev d 197 15 ls st h else Ev d 197 21 ls st h := Rifn hB_197 dX7_place_12 rfl
theorem v197_15 {d : Nat} {st : List MV} {h : Hp} {x : Option A3} {a1 a2 a3 a4 a5 : Option MV} : Ev d 197 15 [some (vO x), a1, a2, a3, a4, a5] st h = Ev d 197 16 [some (vO x), a1, a2, a3, a4, a5] (vO x :: st) h := Rnx (hB_197) (dX7_place_15) rfl
theorem v197_16 {d : Nat} {ls : LS3} {st : List MV} {h : Hp} : Ev d 197 16 ls st h = Ev d 197 17 ls (vI 1 :: st) h := Rnx (hB_197) (dX7_place_16) rfl
set_option maxRecDepth 100000 in
theorem v197_17 {d : Nat} {ls : LS3} {st : List MV} {h : Hp} {a : A3} {x0 : Int32} (hS : gS h a = (1, 7)) (hc : catS st ≤ 8) : Ev (d + 1) 197 17 ls (vI x0 :: vR a :: st) h = Evk 141 (d + 1) 197 17 ls st (Ev d 141 0 [some (vR a), some (vI x0)] [] h) := RcallO (idx := 168) (n := 1) (kd := 0) (As' := [vI x0]) hB_197 dX7_place_17 rfl rfl (by decide) rfl rfl (Or.inl hS) rfl hc
theorem v197_20 {d : Nat} {ls : LS3} {h : Hp} {x : Int32} : Ev d 197 20 ls [vI x] h = some (.inl (some (vI x)), h) := Rdn hB_197 dX7_place_20 rfl
theorem v197_21 {d : Nat} {st : List MV} {h : Hp} {x : Int32} {a0 a1 a2 a4 a5 : Option MV} : Ev d 197 21 [a0, a1, a2, some (vI x), a4, a5] st h = Ev d 197 22 [a0, a1, a2, some (vI x), a4, a5] (vI x :: st) h := Rnx (hB_197) (dX7_place_21) rfl
theorem v197_22 {d : Nat} {st : List MV} {h : Hp} {x : Int32} {a0 a1 a2 a3 a5 : Option MV} : Ev d 197 22 [a0, a1, a2, a3, some (vI x), a5] st h = Ev d 197 24 [a0, a1, a2, a3, some (vI x), a5] (vI x :: st) h := Rnx (hB_197) (dX7_place_22) rfl
set_option maxRecDepth 100000 in
theorem v197_24 {d : Nat} {ls : LS3} {st : List MV} {h : Hp} {x0 : Int32} {x1 : Int32} (hc : catS st ≤ 8) : Ev (d + 1) 197 24 ls (vI x1 :: vI x0 :: st) h = Evk 176 (d + 1) 197 24 ls st (Ev d 176 0 [some (vI x0), some (vI x1)] [] h) := RcallS (idx := 196) (n := 2) (kd := 1) (As := [vI x0, vI x1]) hB_197 dX7_place_24 rfl rfl (by decide) rfl rfl rfl hc
theorem v197_27 {d : Nat} {ls : LS3} {st : List MV} {h : Hp} {x : Int32} : Ev d 197 27 ls (vI x :: st) h = if x = 0 then Ev d 197 30 ls st h else Ev d 197 36 ls st h := Rifn hB_197 dX7_place_27 rfl
theorem v197_30 {d : Nat} {st : List MV} {h : Hp} {x : Option A3} {a1 a2 a3 a4 a5 : Option MV} : Ev d 197 30 [some (vO x), a1, a2, a3, a4, a5] st h = Ev d 197 31 [some (vO x), a1, a2, a3, a4, a5] (vO x :: st) h := Rnx (hB_197) (dX7_place_30) rfl
theorem v197_31 {d : Nat} {ls : LS3} {st : List MV} {h : Hp} : Ev d 197 31 ls st h = Ev d 197 32 ls (vI 2 :: st) h := Rnx (hB_197) (dX7_place_31) rfl
set_option maxRecDepth 100000 in
theorem v197_32 {d : Nat} {ls : LS3} {st : List MV} {h : Hp} {a : A3} {x0 : Int32} (hS : gS h a = (1, 7)) (hc : catS st ≤ 8) : Ev (d + 1) 197 32 ls (vI x0 :: vR a :: st) h = Evk 141 (d + 1) 197 32 ls st (Ev d 141 0 [some (vR a), some (vI x0)] [] h) := RcallO (idx := 168) (n := 1) (kd := 0) (As' := [vI x0]) hB_197 dX7_place_32 rfl rfl (by decide) rfl rfl (Or.inl hS) rfl hc
theorem v197_35 {d : Nat} {ls : LS3} {h : Hp} {x : Int32} : Ev d 197 35 ls [vI x] h = some (.inl (some (vI x)), h) := Rdn hB_197 dX7_place_35 rfl
theorem v197_36 {d : Nat} {st : List MV} {h : Hp} {x : Option A3} {a1 a2 a3 a4 a5 : Option MV} : Ev d 197 36 [some (vO x), a1, a2, a3, a4, a5] st h = Ev d 197 37 [some (vO x), a1, a2, a3, a4, a5] (vO x :: st) h := Rnx (hB_197) (dX7_place_36) rfl
theorem v197_37 {d : Nat} {st : List MV} {h : Hp} {x : Int32} {a0 a2 a3 a4 a5 : Option MV} : Ev d 197 37 [a0, some (vI x), a2, a3, a4, a5] st h = Ev d 197 38 [a0, some (vI x), a2, a3, a4, a5] (vI x :: st) h := Rnx (hB_197) (dX7_place_37) rfl
theorem v197_38 {d : Nat} {st : List MV} {h : Hp} {x : Int32} {a0 a1 a3 a4 a5 : Option MV} : Ev d 197 38 [a0, a1, some (vI x), a3, a4, a5] st h = Ev d 197 39 [a0, a1, some (vI x), a3, a4, a5] (vI x :: st) h := Rnx (hB_197) (dX7_place_38) rfl
theorem v197_39 {d : Nat} {st : List MV} {h : Hp} {x : Int32} {a0 a1 a2 a4 a5 : Option MV} : Ev d 197 39 [a0, a1, a2, some (vI x), a4, a5] st h = Ev d 197 40 [a0, a1, a2, some (vI x), a4, a5] (vI x :: st) h := Rnx (hB_197) (dX7_place_39) rfl
theorem v197_40 {d : Nat} {st : List MV} {h : Hp} {x : Int32} {a0 a1 a2 a3 a5 : Option MV} : Ev d 197 40 [a0, a1, a2, a3, some (vI x), a5] st h = Ev d 197 42 [a0, a1, a2, a3, some (vI x), a5] (vI x :: st) h := Rnx (hB_197) (dX7_place_40) rfl
set_option maxRecDepth 100000 in
theorem v197_42 {d : Nat} {ls : LS3} {st : List MV} {h : Hp} {a : A3} {x0 : Int32} {x1 : Int32} {x2 : Int32} {x3 : Int32} (hS : gS h a = (1, 7)) (hc : catS st ≤ 8) : Ev (d + 1) 197 42 ls (vI x3 :: vI x2 :: vI x1 :: vI x0 :: vR a :: st) h = Evk 164 (d + 1) 197 42 ls st (Ev d 164 0 [some (vR a), some (vI x0), some (vI x1), some (vI x2), some (vI x3), none] [] h) := RcallO (idx := 155) (n := 4) (kd := 0) (As' := [vI x0, vI x1, vI x2, vI x3]) hB_197 dX7_place_42 rfl rfl (by decide) rfl rfl (Or.inl hS) rfl hc
theorem v197_45 {d : Nat} {st : List MV} {h : Hp} {x : Int32} {a0 a1 a2 a3 a4 a5 : Option MV} : Ev d 197 45 [a0, a1, a2, a3, a4, a5] (vI x :: st) h = Ev d 197 47 [a0, a1, a2, a3, a4, some (vI x)] st h := Rnx (hB_197) (dX7_place_45) rfl
theorem v197_47 {d : Nat} {st : List MV} {h : Hp} {x : Int32} {a0 a1 a2 a3 a4 : Option MV} : Ev d 197 47 [a0, a1, a2, a3, a4, some (vI x)] st h = Ev d 197 49 [a0, a1, a2, a3, a4, some (vI x)] (vI x :: st) h := Rnx (hB_197) (dX7_place_47) rfl
theorem v197_49 {d : Nat} {ls : LS3} {st : List MV} {h : Hp} {x : Int32} : Ev d 197 49 ls (vI x :: st) h = if x ≤ 0 then Ev d 197 60 ls st h else Ev d 197 52 ls st h := Rif hB_197 dX7_place_49 rfl
theorem v197_52 {d : Nat} {st : List MV} {h : Hp} {x : Option A3} {a1 a2 a3 a4 a5 : Option MV} : Ev d 197 52 [some (vO x), a1, a2, a3, a4, a5] st h = Ev d 197 53 [some (vO x), a1, a2, a3, a4, a5] (vO x :: st) h := Rnx (hB_197) (dX7_place_52) rfl
theorem v197_53 {d : Nat} {st : List MV} {h : Hp} {x : Int32} {a0 a1 a2 a3 a4 : Option MV} : Ev d 197 53 [a0, a1, a2, a3, a4, some (vI x)] st h = Ev d 197 55 [a0, a1, a2, a3, a4, some (vI x)] (vI x :: st) h := Rnx (hB_197) (dX7_place_53) rfl
theorem v197_55 {d : Nat} {ls : LS3} {st : List MV} {h : Hp} : Ev d 197 55 ls st h = Ev d 197 56 ls (vI 3 :: st) h := Rnx (hB_197) (dX7_place_55) rfl
set_option maxRecDepth 100000 in
theorem v197_56 {d : Nat} {ls : LS3} {st : List MV} {h : Hp} {a : A3} {x0 : Int32} {x1 : Int32} (hS : gS h a = (1, 7)) (hc : catS st ≤ 8) : Ev (d + 1) 197 56 ls (vI x1 :: vI x0 :: vR a :: st) h = Evk 183 (d + 1) 197 56 ls st (Ev d 183 0 [some (vR a), some (vI x0), some (vI x1)] [] h) := RcallO (idx := 214) (n := 2) (kd := 0) (As' := [vI x0, vI x1]) hB_197 dX7_place_56 rfl rfl (by decide) rfl rfl (Or.inl hS) rfl hc
theorem v197_59 {d : Nat} {ls : LS3} {h : Hp} {x : Int32} : Ev d 197 59 ls [vI x] h = some (.inl (some (vI x)), h) := Rdn hB_197 dX7_place_59 rfl
theorem v197_60 {d : Nat} {st : List MV} {h : Hp} {x : Option A3} {a1 a2 a3 a4 a5 : Option MV} : Ev d 197 60 [some (vO x), a1, a2, a3, a4, a5] st h = Ev d 197 61 [some (vO x), a1, a2, a3, a4, a5] (vO x :: st) h := Rnx (hB_197) (dX7_place_60) rfl
theorem v197_61 {d : Nat} {ls : LS3} {st : List MV} {h : Hp} : Ev d 197 61 ls st h = Ev d 197 62 ls (vI 0 :: st) h := Rnx (hB_197) (dX7_place_61) rfl
set_option maxRecDepth 100000 in
theorem v197_62 {d : Nat} {ls : LS3} {st : List MV} {h : Hp} {a : A3} {x : Int32} (hS : gS h a = (1, 7)) : Ev d 197 62 ls (vI x :: vR a :: st) h = Ev d 197 65 ls st (sI h a 0 x) := RputI hB_197 dX7_place_62 rfl rfl (by decide) hS (Or.inl rfl)
theorem v197_65 {d : Nat} {st : List MV} {h : Hp} {x : Option A3} {a1 a2 a3 a4 a5 : Option MV} : Ev d 197 65 [some (vO x), a1, a2, a3, a4, a5] st h = Ev d 197 66 [some (vO x), a1, a2, a3, a4, a5] (vO x :: st) h := Rnx (hB_197) (dX7_place_65) rfl
set_option maxRecDepth 100000 in
theorem v197_66 {d : Nat} {ls : LS3} {st : List MV} {h : Hp} {a : A3}  (hS : gS h a = (1, 7)) (hc : catS st ≤ 8) : Ev (d + 1) 197 66 ls (vR a :: st) h = Evk 230 (d + 1) 197 66 ls st (Ev d 230 0 [some (vR a)] [] h) := RcallO (idx := 171) (n := 0) (kd := 0) (As' := []) hB_197 dX7_place_66 rfl rfl (by decide) rfl rfl (Or.inl hS) rfl hc
theorem v197_69 {d : Nat} {st : List MV} {h : Hp} {x : Option A3} {a1 a2 a3 a4 a5 : Option MV} : Ev d 197 69 [some (vO x), a1, a2, a3, a4, a5] st h = Ev d 197 70 [some (vO x), a1, a2, a3, a4, a5] (vO x :: st) h := Rnx (hB_197) (dX7_place_69) rfl
theorem v197_70 {d : Nat} {st : List MV} {h : Hp} {x : Int32} {a0 a2 a3 a4 a5 : Option MV} : Ev d 197 70 [a0, some (vI x), a2, a3, a4, a5] st h = Ev d 197 71 [a0, some (vI x), a2, a3, a4, a5] (vI x :: st) h := Rnx (hB_197) (dX7_place_70) rfl
theorem v197_71 {d : Nat} {st : List MV} {h : Hp} {x : Int32} {a0 a1 a3 a4 a5 : Option MV} : Ev d 197 71 [a0, a1, some (vI x), a3, a4, a5] st h = Ev d 197 72 [a0, a1, some (vI x), a3, a4, a5] (vI x :: st) h := Rnx (hB_197) (dX7_place_71) rfl
theorem v197_72 {d : Nat} {st : List MV} {h : Hp} {x : Int32} {a0 a1 a2 a4 a5 : Option MV} : Ev d 197 72 [a0, a1, a2, some (vI x), a4, a5] st h = Ev d 197 73 [a0, a1, a2, some (vI x), a4, a5] (vI x :: st) h := Rnx (hB_197) (dX7_place_72) rfl
theorem v197_73 {d : Nat} {st : List MV} {h : Hp} {x : Int32} {a0 a1 a2 a3 a5 : Option MV} : Ev d 197 73 [a0, a1, a2, a3, some (vI x), a5] st h = Ev d 197 75 [a0, a1, a2, a3, some (vI x), a5] (vI x :: st) h := Rnx (hB_197) (dX7_place_73) rfl
set_option maxRecDepth 100000 in
theorem v197_75 {d : Nat} {ls : LS3} {st : List MV} {h : Hp} {a : A3} {x0 : Int32} {x1 : Int32} {x2 : Int32} {x3 : Int32} (hS : gS h a = (1, 7)) (hc : catS st ≤ 8) : Ev (d + 1) 197 75 ls (vI x3 :: vI x2 :: vI x1 :: vI x0 :: vR a :: st) h = Evk 165 (d + 1) 197 75 ls st (Ev d 165 0 [some (vR a), some (vI x0), some (vI x1), some (vI x2), some (vI x3)] [] h) := RcallO (idx := 232) (n := 4) (kd := 0) (As' := [vI x0, vI x1, vI x2, vI x3]) hB_197 dX7_place_75 rfl rfl (by decide) rfl rfl (Or.inl hS) rfl hc
theorem v197_78 {d : Nat} {st : List MV} {h : Hp} {x : Option A3} {a1 a2 a3 a4 a5 : Option MV} : Ev d 197 78 [some (vO x), a1, a2, a3, a4, a5] st h = Ev d 197 79 [some (vO x), a1, a2, a3, a4, a5] (vO x :: st) h := Rnx (hB_197) (dX7_place_78) rfl
theorem v197_79 {d : Nat} {st : List MV} {h : Hp} {x : Int32} {a0 a2 a3 a4 a5 : Option MV} : Ev d 197 79 [a0, some (vI x), a2, a3, a4, a5] st h = Ev d 197 80 [a0, some (vI x), a2, a3, a4, a5] (vI x :: st) h := Rnx (hB_197) (dX7_place_79) rfl
theorem v197_80 {d : Nat} {st : List MV} {h : Hp} {x : Int32} {a0 a1 a2 a4 a5 : Option MV} : Ev d 197 80 [a0, a1, a2, some (vI x), a4, a5] st h = Ev d 197 81 [a0, a1, a2, some (vI x), a4, a5] (vI x :: st) h := Rnx (hB_197) (dX7_place_80) rfl
theorem v197_81 {d : Nat} {st : List MV} {h : Hp} {x : Option A3} {a1 a2 a3 a4 a5 : Option MV} : Ev d 197 81 [some (vO x), a1, a2, a3, a4, a5] st h = Ev d 197 82 [some (vO x), a1, a2, a3, a4, a5] (vO x :: st) h := Rnx (hB_197) (dX7_place_81) rfl
set_option maxRecDepth 100000 in
theorem v197_82 {d : Nat} {ls : LS3} {st : List MV} {h : Hp} {a : A3} (hS : gS h a = (1, 7)) : Ev d 197 82 ls (vR a :: st) h = Ev d 197 85 ls (vO (gR h a 13) :: st) h := Rget hB_197 dX7_place_82 rfl (Or.inl hS)
theorem v197_85 {d : Nat} {st : List MV} {h : Hp} {x : Int32} {a0 a2 a3 a4 a5 : Option MV} : Ev d 197 85 [a0, some (vI x), a2, a3, a4, a5] st h = Ev d 197 86 [a0, some (vI x), a2, a3, a4, a5] (vI x :: st) h := Rnx (hB_197) (dX7_place_85) rfl
theorem v197_86 {d : Nat} {ls : LS3} {st : List MV} {h : Hp} {a : A3} {j : Int32} (hS : (gS h a).1 ∈ [2, 9]) (hj : inB j (gS h a).2) : Ev d 197 86 ls (vI j :: vR a :: st) h = Ev d 197 87 ls (vI (gI h a j.toNatClampNeg) :: st) h := Rald (ks := [2, 9]) (f := fun a j => vI (gI h a j)) hB_197 dX7_place_86 rfl hS hj
theorem v197_87 {d : Nat} {ls : LS3} {st : List MV} {h : Hp} : Ev d 197 87 ls st h = Ev d 197 88 ls (vI 1 :: st) h := Rnx (hB_197) (dX7_place_87) rfl
theorem v197_88 {d : Nat} {ls : LS3} {st : List MV} {h : Hp} {x y : Int32} : Ev d 197 88 ls (vI y :: vI x :: st) h = Ev d 197 89 ls (vI (x + y) :: st) h := Rnx (hB_197) (dX7_place_88) rfl
set_option maxRecDepth 100000 in
theorem v197_89 {d : Nat} {ls : LS3} {st : List MV} {h : Hp} {a : A3} {x0 : Int32} {x1 : Int32} {x2 : Int32} (hS : gS h a = (1, 7)) (hc : catS st ≤ 8) : Ev (d + 1) 197 89 ls (vI x2 :: vI x1 :: vI x0 :: vR a :: st) h = Evk 163 (d + 1) 197 89 ls st (Ev d 163 0 [some (vR a), some (vI x0), some (vI x1), some (vI x2)] [] h) := RcallO (idx := 149) (n := 3) (kd := 0) (As' := [vI x0, vI x1, vI x2]) hB_197 dX7_place_89 rfl rfl (by decide) rfl rfl (Or.inl hS) rfl hc
theorem v197_92 {d : Nat} {ls : LS3} {h : Hp} {x : Int32} : Ev d 197 92 ls [vI x] h = some (.inl (some (vI x)), h) := Rdn hB_197 dX7_place_92 rfl
theorem hB_198 : mB 198 = cX7_takeBack := rfl
theorem v198_0 {d : Nat} {st : List MV} {h : Hp} {x : Option A3} {a1 a2 : Option MV} : Ev d 198 0 [some (vO x), a1, a2] st h = Ev d 198 1 [some (vO x), a1, a2] (vO x :: st) h := Rnx (hB_198) (dX7_takeBack_0) rfl
theorem v198_1 {d : Nat} {st : List MV} {h : Hp} {x : Int32} {a0 a2 : Option MV} : Ev d 198 1 [a0, some (vI x), a2] st h = Ev d 198 2 [a0, some (vI x), a2] (vI x :: st) h := Rnx (hB_198) (dX7_takeBack_1) rfl
set_option maxRecDepth 100000 in
theorem v198_2 {d : Nat} {ls : LS3} {st : List MV} {h : Hp} {a : A3} {x0 : Int32} (hS : gS h a = (1, 7)) (hc : catS st ≤ 8) : Ev (d + 1) 198 2 ls (vI x0 :: vR a :: st) h = Evk 149 (d + 1) 198 2 ls st (Ev d 149 0 [some (vR a), some (vI x0)] [] h) := RcallO (idx := 202) (n := 1) (kd := 0) (As' := [vI x0]) hB_198 dX7_takeBack_2 rfl rfl (by decide) rfl rfl (Or.inl hS) rfl hc
theorem v198_5 {d : Nat} {ls : LS3} {st : List MV} {h : Hp} {x : Int32} : Ev d 198 5 ls (vI x :: st) h = if x = 0 then Ev d 198 8 ls st h else Ev d 198 14 ls st h := Rifn hB_198 dX7_takeBack_5 rfl
theorem v198_8 {d : Nat} {st : List MV} {h : Hp} {x : Option A3} {a1 a2 : Option MV} : Ev d 198 8 [some (vO x), a1, a2] st h = Ev d 198 9 [some (vO x), a1, a2] (vO x :: st) h := Rnx (hB_198) (dX7_takeBack_8) rfl
theorem v198_9 {d : Nat} {ls : LS3} {st : List MV} {h : Hp} : Ev d 198 9 ls st h = Ev d 198 10 ls (vI 1 :: st) h := Rnx (hB_198) (dX7_takeBack_9) rfl
set_option maxRecDepth 100000 in
theorem v198_10 {d : Nat} {ls : LS3} {st : List MV} {h : Hp} {a : A3} {x0 : Int32} (hS : gS h a = (1, 7)) (hc : catS st ≤ 8) : Ev (d + 1) 198 10 ls (vI x0 :: vR a :: st) h = Evk 141 (d + 1) 198 10 ls st (Ev d 141 0 [some (vR a), some (vI x0)] [] h) := RcallO (idx := 168) (n := 1) (kd := 0) (As' := [vI x0]) hB_198 dX7_takeBack_10 rfl rfl (by decide) rfl rfl (Or.inl hS) rfl hc
theorem v198_13 {d : Nat} {ls : LS3} {h : Hp} {x : Int32} : Ev d 198 13 ls [vI x] h = some (.inl (some (vI x)), h) := Rdn hB_198 dX7_takeBack_13 rfl
theorem v198_14 {d : Nat} {st : List MV} {h : Hp} {x : Option A3} {a1 a2 : Option MV} : Ev d 198 14 [some (vO x), a1, a2] st h = Ev d 198 15 [some (vO x), a1, a2] (vO x :: st) h := Rnx (hB_198) (dX7_takeBack_14) rfl
theorem v198_15 {d : Nat} {st : List MV} {h : Hp} {x : Int32} {a0 a2 : Option MV} : Ev d 198 15 [a0, some (vI x), a2] st h = Ev d 198 16 [a0, some (vI x), a2] (vI x :: st) h := Rnx (hB_198) (dX7_takeBack_15) rfl
set_option maxRecDepth 100000 in
theorem v198_16 {d : Nat} {ls : LS3} {st : List MV} {h : Hp} {a : A3} {x0 : Int32} (hS : gS h a = (1, 7)) (hc : catS st ≤ 8) : Ev (d + 1) 198 16 ls (vI x0 :: vR a :: st) h = Evk 151 (d + 1) 198 16 ls st (Ev d 151 0 [some (vR a), some (vI x0)] [] h) := RcallO (idx := 113) (n := 1) (kd := 0) (As' := [vI x0]) hB_198 dX7_takeBack_16 rfl rfl (by decide) rfl rfl (Or.inl hS) rfl hc
theorem v198_19 {d : Nat} {ls : LS3} {st : List MV} {h : Hp} {x : Int32} : Ev d 198 19 ls (vI x :: st) h = if x = 0 then Ev d 198 30 ls st h else Ev d 198 22 ls st h := Rif hB_198 dX7_takeBack_19 rfl
theorem v198_22 {d : Nat} {st : List MV} {h : Hp} {x : Option A3} {a1 a2 : Option MV} : Ev d 198 22 [some (vO x), a1, a2] st h = Ev d 198 23 [some (vO x), a1, a2] (vO x :: st) h := Rnx (hB_198) (dX7_takeBack_22) rfl
theorem v198_23 {d : Nat} {st : List MV} {h : Hp} {x : Int32} {a0 a2 : Option MV} : Ev d 198 23 [a0, some (vI x), a2] st h = Ev d 198 24 [a0, some (vI x), a2] (vI x :: st) h := Rnx (hB_198) (dX7_takeBack_23) rfl
set_option maxRecDepth 100000 in
theorem v198_24 {d : Nat} {ls : LS3} {st : List MV} {h : Hp} {a : A3} {x0 : Int32} (hS : gS h a = (1, 7)) (hc : catS st ≤ 8) : Ev (d + 1) 198 24 ls (vI x0 :: vR a :: st) h = Evk 152 (d + 1) 198 24 ls st (Ev d 152 0 [some (vR a), some (vI x0)] [] h) := RcallO (idx := 109) (n := 1) (kd := 0) (As' := [vI x0]) hB_198 dX7_takeBack_24 rfl rfl (by decide) rfl rfl (Or.inl hS) rfl hc
theorem v198_27 {d : Nat} {ls : LS3} {st : List MV} {h : Hp} {x : Int32} : Ev d 198 27 ls (vI x :: st) h = if x = 0 then Ev d 198 36 ls st h else Ev d 198 30 ls st h := Rif hB_198 dX7_takeBack_27 rfl
theorem v198_30 {d : Nat} {st : List MV} {h : Hp} {x : Option A3} {a1 a2 : Option MV} : Ev d 198 30 [some (vO x), a1, a2] st h = Ev d 198 31 [some (vO x), a1, a2] (vO x :: st) h := Rnx (hB_198) (dX7_takeBack_30) rfl
theorem v198_31 {d : Nat} {ls : LS3} {st : List MV} {h : Hp} : Ev d 198 31 ls st h = Ev d 198 32 ls (vI 2 :: st) h := Rnx (hB_198) (dX7_takeBack_31) rfl
set_option maxRecDepth 100000 in
theorem v198_32 {d : Nat} {ls : LS3} {st : List MV} {h : Hp} {a : A3} {x0 : Int32} (hS : gS h a = (1, 7)) (hc : catS st ≤ 8) : Ev (d + 1) 198 32 ls (vI x0 :: vR a :: st) h = Evk 141 (d + 1) 198 32 ls st (Ev d 141 0 [some (vR a), some (vI x0)] [] h) := RcallO (idx := 168) (n := 1) (kd := 0) (As' := [vI x0]) hB_198 dX7_takeBack_32 rfl rfl (by decide) rfl rfl (Or.inl hS) rfl hc
theorem v198_35 {d : Nat} {ls : LS3} {h : Hp} {x : Int32} : Ev d 198 35 ls [vI x] h = some (.inl (some (vI x)), h) := Rdn hB_198 dX7_takeBack_35 rfl
theorem v198_36 {d : Nat} {st : List MV} {h : Hp} {x : Option A3} {a1 a2 : Option MV} : Ev d 198 36 [some (vO x), a1, a2] st h = Ev d 198 37 [some (vO x), a1, a2] (vO x :: st) h := Rnx (hB_198) (dX7_takeBack_36) rfl
theorem v198_37 {d : Nat} {ls : LS3} {st : List MV} {h : Hp} : Ev d 198 37 ls st h = Ev d 198 38 ls (vI 0 :: st) h := Rnx (hB_198) (dX7_takeBack_37) rfl
set_option maxRecDepth 100000 in
theorem v198_38 {d : Nat} {ls : LS3} {st : List MV} {h : Hp} {a : A3} {x : Int32} (hS : gS h a = (1, 7)) : Ev d 198 38 ls (vI x :: vR a :: st) h = Ev d 198 41 ls st (sI h a 0 x) := RputI hB_198 dX7_takeBack_38 rfl rfl (by decide) hS (Or.inl rfl)
theorem v198_41 {d : Nat} {st : List MV} {h : Hp} {x : Option A3} {a1 a2 : Option MV} : Ev d 198 41 [some (vO x), a1, a2] st h = Ev d 198 42 [some (vO x), a1, a2] (vO x :: st) h := Rnx (hB_198) (dX7_takeBack_41) rfl
set_option maxRecDepth 100000 in
theorem v198_42 {d : Nat} {ls : LS3} {st : List MV} {h : Hp} {a : A3}  (hS : gS h a = (1, 7)) (hc : catS st ≤ 8) : Ev (d + 1) 198 42 ls (vR a :: st) h = Evk 230 (d + 1) 198 42 ls st (Ev d 230 0 [some (vR a)] [] h) := RcallO (idx := 171) (n := 0) (kd := 0) (As' := []) hB_198 dX7_takeBack_42 rfl rfl (by decide) rfl rfl (Or.inl hS) rfl hc
theorem v198_45 {d : Nat} {st : List MV} {h : Hp} {x : Option A3} {a1 a2 : Option MV} : Ev d 198 45 [some (vO x), a1, a2] st h = Ev d 198 46 [some (vO x), a1, a2] (vO x :: st) h := Rnx (hB_198) (dX7_takeBack_45) rfl
set_option maxRecDepth 100000 in
theorem v198_46 {d : Nat} {ls : LS3} {st : List MV} {h : Hp} {a : A3} (hS : gS h a = (1, 7)) : Ev d 198 46 ls (vR a :: st) h = Ev d 198 49 ls (vO (gR h a 16) :: st) h := Rget hB_198 dX7_takeBack_46 rfl (Or.inl hS)
theorem v198_49 {d : Nat} {st : List MV} {h : Hp} {x : Int32} {a0 a2 : Option MV} : Ev d 198 49 [a0, some (vI x), a2] st h = Ev d 198 50 [a0, some (vI x), a2] (vI x :: st) h := Rnx (hB_198) (dX7_takeBack_49) rfl
theorem v198_50 {d : Nat} {ls : LS3} {st : List MV} {h : Hp} {a : A3} {j : Int32} (hS : (gS h a).1 ∈ [2, 9]) (hj : inB j (gS h a).2) : Ev d 198 50 ls (vI j :: vR a :: st) h = Ev d 198 51 ls (vI (gI h a j.toNatClampNeg) :: st) h := Rald (ks := [2, 9]) (f := fun a j => vI (gI h a j)) hB_198 dX7_takeBack_50 rfl hS hj
theorem v198_51 {d : Nat} {st : List MV} {h : Hp} {x : Int32} {a0 a1 a2 : Option MV} : Ev d 198 51 [a0, a1, a2] (vI x :: st) h = Ev d 198 52 [a0, a1, some (vI x)] st h := Rnx (hB_198) (dX7_takeBack_51) rfl
theorem v198_52 {d : Nat} {st : List MV} {h : Hp} {x : Option A3} {a1 a2 : Option MV} : Ev d 198 52 [some (vO x), a1, a2] st h = Ev d 198 53 [some (vO x), a1, a2] (vO x :: st) h := Rnx (hB_198) (dX7_takeBack_52) rfl
theorem v198_53 {d : Nat} {st : List MV} {h : Hp} {x : Int32} {a0 a2 : Option MV} : Ev d 198 53 [a0, some (vI x), a2] st h = Ev d 198 54 [a0, some (vI x), a2] (vI x :: st) h := Rnx (hB_198) (dX7_takeBack_53) rfl
set_option maxRecDepth 100000 in
theorem v198_54 {d : Nat} {ls : LS3} {st : List MV} {h : Hp} {a : A3} {x0 : Int32} (hS : gS h a = (1, 7)) (hc : catS st ≤ 8) : Ev (d + 1) 198 54 ls (vI x0 :: vR a :: st) h = Evk 161 (d + 1) 198 54 ls st (Ev d 161 0 [some (vR a), some (vI x0)] [] h) := RcallO (idx := 142) (n := 1) (kd := 0) (As' := [vI x0]) hB_198 dX7_takeBack_54 rfl rfl (by decide) rfl rfl (Or.inl hS) rfl hc
theorem v198_57 {d : Nat} {st : List MV} {h : Hp} {x : Int32} {a0 a1 : Option MV} : Ev d 198 57 [a0, a1, some (vI x)] st h = Ev d 198 58 [a0, a1, some (vI x)] (vI x :: st) h := Rnx (hB_198) (dX7_takeBack_57) rfl
theorem v198_58 {d : Nat} {ls : LS3} {h : Hp} {x : Int32} : Ev d 198 58 ls [vI x] h = some (.inl (some (vI x)), h) := Rdn hB_198 dX7_takeBack_58 rfl
theorem hB_199 : mB 199 = cX7_whyNotPlace := rfl
theorem v199_0 {d : Nat} {st : List MV} {h : Hp} {x : Option A3} {a1 a2 a3 a4 : Option MV} : Ev d 199 0 [some (vO x), a1, a2, a3, a4] st h = Ev d 199 1 [some (vO x), a1, a2, a3, a4] (vO x :: st) h := Rnx (hB_199) (dX7_whyNotPlace_0) rfl
theorem v199_1 {d : Nat} {st : List MV} {h : Hp} {x : Int32} {a0 a2 a3 a4 : Option MV} : Ev d 199 1 [a0, some (vI x), a2, a3, a4] st h = Ev d 199 2 [a0, some (vI x), a2, a3, a4] (vI x :: st) h := Rnx (hB_199) (dX7_whyNotPlace_1) rfl
set_option maxRecDepth 100000 in
theorem v199_2 {d : Nat} {ls : LS3} {st : List MV} {h : Hp} {a : A3} {x0 : Int32} (hS : gS h a = (1, 7)) (hc : catS st ≤ 8) : Ev (d + 1) 199 2 ls (vI x0 :: vR a :: st) h = Evk 149 (d + 1) 199 2 ls st (Ev d 149 0 [some (vR a), some (vI x0)] [] h) := RcallO (idx := 202) (n := 1) (kd := 0) (As' := [vI x0]) hB_199 dX7_whyNotPlace_2 rfl rfl (by decide) rfl rfl (Or.inl hS) rfl hc
theorem v199_5 {d : Nat} {ls : LS3} {st : List MV} {h : Hp} {x : Int32} : Ev d 199 5 ls (vI x :: st) h = if x = 0 then Ev d 199 15 ls st h else Ev d 199 8 ls st h := Rif hB_199 dX7_whyNotPlace_5 rfl
theorem v199_8 {d : Nat} {st : List MV} {h : Hp} {x : Int32} {a0 a1 a3 a4 : Option MV} : Ev d 199 8 [a0, a1, some (vI x), a3, a4] st h = Ev d 199 9 [a0, a1, some (vI x), a3, a4] (vI x :: st) h := Rnx (hB_199) (dX7_whyNotPlace_8) rfl
set_option maxRecDepth 100000 in
theorem v199_9 {d : Nat} {ls : LS3} {st : List MV} {h : Hp} {x0 : Int32} (hc : catS st ≤ 8) : Ev (d + 1) 199 9 ls (vI x0 :: st) h = Evk 196 (d + 1) 199 9 ls st (Ev d 196 0 [some (vI x0)] [] h) := RcallS (idx := 229) (n := 1) (kd := 1) (As := [vI x0]) hB_199 dX7_whyNotPlace_9 rfl rfl (by decide) rfl rfl rfl hc
theorem v199_12 {d : Nat} {ls : LS3} {st : List MV} {h : Hp} {x : Int32} : Ev d 199 12 ls (vI x :: st) h = if x = 0 then Ev d 199 15 ls st h else Ev d 199 21 ls st h := Rifn hB_199 dX7_whyNotPlace_12 rfl
theorem v199_15 {d : Nat} {st : List MV} {h : Hp} {x : Option A3} {a1 a2 a3 a4 : Option MV} : Ev d 199 15 [some (vO x), a1, a2, a3, a4] st h = Ev d 199 16 [some (vO x), a1, a2, a3, a4] (vO x :: st) h := Rnx (hB_199) (dX7_whyNotPlace_15) rfl
theorem v199_16 {d : Nat} {ls : LS3} {st : List MV} {h : Hp} : Ev d 199 16 ls st h = Ev d 199 17 ls (vI 1 :: st) h := Rnx (hB_199) (dX7_whyNotPlace_16) rfl
set_option maxRecDepth 100000 in
theorem v199_17 {d : Nat} {ls : LS3} {st : List MV} {h : Hp} {a : A3} {x0 : Int32} (hS : gS h a = (1, 7)) (hc : catS st ≤ 8) : Ev (d + 1) 199 17 ls (vI x0 :: vR a :: st) h = Evk 141 (d + 1) 199 17 ls st (Ev d 141 0 [some (vR a), some (vI x0)] [] h) := RcallO (idx := 168) (n := 1) (kd := 0) (As' := [vI x0]) hB_199 dX7_whyNotPlace_17 rfl rfl (by decide) rfl rfl (Or.inl hS) rfl hc
theorem v199_20 {d : Nat} {ls : LS3} {h : Hp} {x : Int32} : Ev d 199 20 ls [vI x] h = some (.inl (some (vI x)), h) := Rdn hB_199 dX7_whyNotPlace_20 rfl
theorem v199_21 {d : Nat} {st : List MV} {h : Hp} {x : Int32} {a0 a1 a2 a4 : Option MV} : Ev d 199 21 [a0, a1, a2, some (vI x), a4] st h = Ev d 199 22 [a0, a1, a2, some (vI x), a4] (vI x :: st) h := Rnx (hB_199) (dX7_whyNotPlace_21) rfl
theorem v199_22 {d : Nat} {st : List MV} {h : Hp} {x : Int32} {a0 a1 a2 a3 : Option MV} : Ev d 199 22 [a0, a1, a2, a3, some (vI x)] st h = Ev d 199 24 [a0, a1, a2, a3, some (vI x)] (vI x :: st) h := Rnx (hB_199) (dX7_whyNotPlace_22) rfl
set_option maxRecDepth 100000 in
theorem v199_24 {d : Nat} {ls : LS3} {st : List MV} {h : Hp} {x0 : Int32} {x1 : Int32} (hc : catS st ≤ 8) : Ev (d + 1) 199 24 ls (vI x1 :: vI x0 :: st) h = Evk 176 (d + 1) 199 24 ls st (Ev d 176 0 [some (vI x0), some (vI x1)] [] h) := RcallS (idx := 196) (n := 2) (kd := 1) (As := [vI x0, vI x1]) hB_199 dX7_whyNotPlace_24 rfl rfl (by decide) rfl rfl rfl hc
theorem v199_27 {d : Nat} {ls : LS3} {st : List MV} {h : Hp} {x : Int32} : Ev d 199 27 ls (vI x :: st) h = if x = 0 then Ev d 199 30 ls st h else Ev d 199 36 ls st h := Rifn hB_199 dX7_whyNotPlace_27 rfl
theorem v199_30 {d : Nat} {st : List MV} {h : Hp} {x : Option A3} {a1 a2 a3 a4 : Option MV} : Ev d 199 30 [some (vO x), a1, a2, a3, a4] st h = Ev d 199 31 [some (vO x), a1, a2, a3, a4] (vO x :: st) h := Rnx (hB_199) (dX7_whyNotPlace_30) rfl
theorem v199_31 {d : Nat} {ls : LS3} {st : List MV} {h : Hp} : Ev d 199 31 ls st h = Ev d 199 32 ls (vI 2 :: st) h := Rnx (hB_199) (dX7_whyNotPlace_31) rfl
set_option maxRecDepth 100000 in
theorem v199_32 {d : Nat} {ls : LS3} {st : List MV} {h : Hp} {a : A3} {x0 : Int32} (hS : gS h a = (1, 7)) (hc : catS st ≤ 8) : Ev (d + 1) 199 32 ls (vI x0 :: vR a :: st) h = Evk 141 (d + 1) 199 32 ls st (Ev d 141 0 [some (vR a), some (vI x0)] [] h) := RcallO (idx := 168) (n := 1) (kd := 0) (As' := [vI x0]) hB_199 dX7_whyNotPlace_32 rfl rfl (by decide) rfl rfl (Or.inl hS) rfl hc
theorem v199_35 {d : Nat} {ls : LS3} {h : Hp} {x : Int32} : Ev d 199 35 ls [vI x] h = some (.inl (some (vI x)), h) := Rdn hB_199 dX7_whyNotPlace_35 rfl
theorem v199_36 {d : Nat} {st : List MV} {h : Hp} {x : Option A3} {a1 a2 a3 a4 : Option MV} : Ev d 199 36 [some (vO x), a1, a2, a3, a4] st h = Ev d 199 37 [some (vO x), a1, a2, a3, a4] (vO x :: st) h := Rnx (hB_199) (dX7_whyNotPlace_36) rfl
theorem v199_37 {d : Nat} {ls : LS3} {st : List MV} {h : Hp} : Ev d 199 37 ls st h = Ev d 199 38 ls (vI 0 :: st) h := Rnx (hB_199) (dX7_whyNotPlace_37) rfl
set_option maxRecDepth 100000 in
theorem v199_38 {d : Nat} {ls : LS3} {st : List MV} {h : Hp} {a : A3} {x : Int32} (hS : gS h a = (1, 7)) : Ev d 199 38 ls (vI x :: vR a :: st) h = Ev d 199 41 ls st (sI h a 0 x) := RputI hB_199 dX7_whyNotPlace_38 rfl rfl (by decide) hS (Or.inl rfl)
theorem v199_41 {d : Nat} {st : List MV} {h : Hp} {x : Option A3} {a1 a2 a3 a4 : Option MV} : Ev d 199 41 [some (vO x), a1, a2, a3, a4] st h = Ev d 199 42 [some (vO x), a1, a2, a3, a4] (vO x :: st) h := Rnx (hB_199) (dX7_whyNotPlace_41) rfl
theorem v199_42 {d : Nat} {st : List MV} {h : Hp} {x : Int32} {a0 a2 a3 a4 : Option MV} : Ev d 199 42 [a0, some (vI x), a2, a3, a4] st h = Ev d 199 43 [a0, some (vI x), a2, a3, a4] (vI x :: st) h := Rnx (hB_199) (dX7_whyNotPlace_42) rfl
theorem v199_43 {d : Nat} {st : List MV} {h : Hp} {x : Int32} {a0 a1 a3 a4 : Option MV} : Ev d 199 43 [a0, a1, some (vI x), a3, a4] st h = Ev d 199 44 [a0, a1, some (vI x), a3, a4] (vI x :: st) h := Rnx (hB_199) (dX7_whyNotPlace_43) rfl
theorem v199_44 {d : Nat} {st : List MV} {h : Hp} {x : Int32} {a0 a1 a2 a4 : Option MV} : Ev d 199 44 [a0, a1, a2, some (vI x), a4] st h = Ev d 199 45 [a0, a1, a2, some (vI x), a4] (vI x :: st) h := Rnx (hB_199) (dX7_whyNotPlace_44) rfl
theorem v199_45 {d : Nat} {st : List MV} {h : Hp} {x : Int32} {a0 a1 a2 a3 : Option MV} : Ev d 199 45 [a0, a1, a2, a3, some (vI x)] st h = Ev d 199 47 [a0, a1, a2, a3, some (vI x)] (vI x :: st) h := Rnx (hB_199) (dX7_whyNotPlace_45) rfl
set_option maxRecDepth 100000 in
theorem v199_47 {d : Nat} {ls : LS3} {st : List MV} {h : Hp} {a : A3} {x0 : Int32} {x1 : Int32} {x2 : Int32} {x3 : Int32} (hS : gS h a = (1, 7)) (hc : catS st ≤ 8) : Ev (d + 1) 199 47 ls (vI x3 :: vI x2 :: vI x1 :: vI x0 :: vR a :: st) h = Evk 164 (d + 1) 199 47 ls st (Ev d 164 0 [some (vR a), some (vI x0), some (vI x1), some (vI x2), some (vI x3), none] [] h) := RcallO (idx := 155) (n := 4) (kd := 0) (As' := [vI x0, vI x1, vI x2, vI x3]) hB_199 dX7_whyNotPlace_47 rfl rfl (by decide) rfl rfl (Or.inl hS) rfl hc
theorem v199_50 {d : Nat} {ls : LS3} {h : Hp} {x : Int32} : Ev d 199 50 ls [vI x] h = some (.inl (some (vI x)), h) := Rdn hB_199 dX7_whyNotPlace_50 rfl
theorem hB_200 : mB 200 = cX7_earliest := rfl
theorem v200_0 {d : Nat} {st : List MV} {h : Hp} {x : Option A3} {a1 a2 : Option MV} : Ev d 200 0 [some (vO x), a1, a2] st h = Ev d 200 1 [some (vO x), a1, a2] (vO x :: st) h := Rnx (hB_200) (dX7_earliest_0) rfl
theorem v200_1 {d : Nat} {st : List MV} {h : Hp} {x : Int32} {a0 a2 : Option MV} : Ev d 200 1 [a0, some (vI x), a2] st h = Ev d 200 2 [a0, some (vI x), a2] (vI x :: st) h := Rnx (hB_200) (dX7_earliest_1) rfl
set_option maxRecDepth 100000 in
theorem v200_2 {d : Nat} {ls : LS3} {st : List MV} {h : Hp} {a : A3} {x0 : Int32} (hS : gS h a = (1, 7)) (hc : catS st ≤ 8) : Ev (d + 1) 200 2 ls (vI x0 :: vR a :: st) h = Evk 149 (d + 1) 200 2 ls st (Ev d 149 0 [some (vR a), some (vI x0)] [] h) := RcallO (idx := 202) (n := 1) (kd := 0) (As' := [vI x0]) hB_200 dX7_earliest_2 rfl rfl (by decide) rfl rfl (Or.inl hS) rfl hc
theorem v200_5 {d : Nat} {ls : LS3} {st : List MV} {h : Hp} {x : Int32} : Ev d 200 5 ls (vI x :: st) h = if x = 0 then Ev d 200 8 ls st h else Ev d 200 14 ls st h := Rifn hB_200 dX7_earliest_5 rfl
theorem v200_8 {d : Nat} {st : List MV} {h : Hp} {x : Option A3} {a1 a2 : Option MV} : Ev d 200 8 [some (vO x), a1, a2] st h = Ev d 200 9 [some (vO x), a1, a2] (vO x :: st) h := Rnx (hB_200) (dX7_earliest_8) rfl
theorem v200_9 {d : Nat} {ls : LS3} {st : List MV} {h : Hp} : Ev d 200 9 ls st h = Ev d 200 10 ls (vI 1 :: st) h := Rnx (hB_200) (dX7_earliest_9) rfl
set_option maxRecDepth 100000 in
theorem v200_10 {d : Nat} {ls : LS3} {st : List MV} {h : Hp} {a : A3} {x0 : Int32} (hS : gS h a = (1, 7)) (hc : catS st ≤ 8) : Ev (d + 1) 200 10 ls (vI x0 :: vR a :: st) h = Evk 141 (d + 1) 200 10 ls st (Ev d 141 0 [some (vR a), some (vI x0)] [] h) := RcallO (idx := 168) (n := 1) (kd := 0) (As' := [vI x0]) hB_200 dX7_earliest_10 rfl rfl (by decide) rfl rfl (Or.inl hS) rfl hc
theorem v200_13 {d : Nat} {ls : LS3} {h : Hp} {x : Int32} : Ev d 200 13 ls [vI x] h = some (.inl (some (vI x)), h) := Rdn hB_200 dX7_earliest_13 rfl
theorem v200_14 {d : Nat} {st : List MV} {h : Hp} {x : Option A3} {a1 a2 : Option MV} : Ev d 200 14 [some (vO x), a1, a2] st h = Ev d 200 15 [some (vO x), a1, a2] (vO x :: st) h := Rnx (hB_200) (dX7_earliest_14) rfl
theorem v200_15 {d : Nat} {st : List MV} {h : Hp} {x : Int32} {a0 a2 : Option MV} : Ev d 200 15 [a0, some (vI x), a2] st h = Ev d 200 16 [a0, some (vI x), a2] (vI x :: st) h := Rnx (hB_200) (dX7_earliest_15) rfl
set_option maxRecDepth 100000 in
theorem v200_16 {d : Nat} {ls : LS3} {st : List MV} {h : Hp} {a : A3} {x0 : Int32} (hS : gS h a = (1, 7)) (hc : catS st ≤ 8) : Ev (d + 1) 200 16 ls (vI x0 :: vR a :: st) h = Evk 166 (d + 1) 200 16 ls st (Ev d 166 0 [some (vR a), some (vI x0), none, none] [] h) := RcallO (idx := 236) (n := 1) (kd := 0) (As' := [vI x0]) hB_200 dX7_earliest_16 rfl rfl (by decide) rfl rfl (Or.inl hS) rfl hc
theorem v200_19 {d : Nat} {st : List MV} {h : Hp} {x : Int32} {a0 a1 a2 : Option MV} : Ev d 200 19 [a0, a1, a2] (vI x :: st) h = Ev d 200 20 [a0, a1, some (vI x)] st h := Rnx (hB_200) (dX7_earliest_19) rfl
theorem v200_20 {d : Nat} {st : List MV} {h : Hp} {x : Int32} {a0 a1 : Option MV} : Ev d 200 20 [a0, a1, some (vI x)] st h = Ev d 200 21 [a0, a1, some (vI x)] (vI x :: st) h := Rnx (hB_200) (dX7_earliest_20) rfl
theorem v200_21 {d : Nat} {ls : LS3} {st : List MV} {h : Hp} {x : Int32} : Ev d 200 21 ls (vI x :: st) h = if 0 ≤ x then Ev d 200 30 ls st h else Ev d 200 24 ls st h := Rif hB_200 dX7_earliest_21 rfl
theorem v200_24 {d : Nat} {st : List MV} {h : Hp} {x : Option A3} {a1 a2 : Option MV} : Ev d 200 24 [some (vO x), a1, a2] st h = Ev d 200 25 [some (vO x), a1, a2] (vO x :: st) h := Rnx (hB_200) (dX7_earliest_24) rfl
theorem v200_25 {d : Nat} {ls : LS3} {st : List MV} {h : Hp} : Ev d 200 25 ls st h = Ev d 200 26 ls (vI 2 :: st) h := Rnx (hB_200) (dX7_earliest_25) rfl
set_option maxRecDepth 100000 in
theorem v200_26 {d : Nat} {ls : LS3} {st : List MV} {h : Hp} {a : A3} {x0 : Int32} (hS : gS h a = (1, 7)) (hc : catS st ≤ 8) : Ev (d + 1) 200 26 ls (vI x0 :: vR a :: st) h = Evk 141 (d + 1) 200 26 ls st (Ev d 141 0 [some (vR a), some (vI x0)] [] h) := RcallO (idx := 168) (n := 1) (kd := 0) (As' := [vI x0]) hB_200 dX7_earliest_26 rfl rfl (by decide) rfl rfl (Or.inl hS) rfl hc
theorem v200_29 {d : Nat} {ls : LS3} {h : Hp} {x : Int32} : Ev d 200 29 ls [vI x] h = some (.inl (some (vI x)), h) := Rdn hB_200 dX7_earliest_29 rfl
theorem v200_30 {d : Nat} {st : List MV} {h : Hp} {x : Option A3} {a1 a2 : Option MV} : Ev d 200 30 [some (vO x), a1, a2] st h = Ev d 200 31 [some (vO x), a1, a2] (vO x :: st) h := Rnx (hB_200) (dX7_earliest_30) rfl
theorem v200_31 {d : Nat} {ls : LS3} {st : List MV} {h : Hp} : Ev d 200 31 ls st h = Ev d 200 32 ls (vI 0 :: st) h := Rnx (hB_200) (dX7_earliest_31) rfl
set_option maxRecDepth 100000 in
theorem v200_32 {d : Nat} {ls : LS3} {st : List MV} {h : Hp} {a : A3} {x : Int32} (hS : gS h a = (1, 7)) : Ev d 200 32 ls (vI x :: vR a :: st) h = Ev d 200 35 ls st (sI h a 0 x) := RputI hB_200 dX7_earliest_32 rfl rfl (by decide) hS (Or.inl rfl)
theorem v200_35 {d : Nat} {st : List MV} {h : Hp} {x : Int32} {a0 a1 : Option MV} : Ev d 200 35 [a0, a1, some (vI x)] st h = Ev d 200 36 [a0, a1, some (vI x)] (vI x :: st) h := Rnx (hB_200) (dX7_earliest_35) rfl
theorem v200_36 {d : Nat} {ls : LS3} {h : Hp} {x : Int32} : Ev d 200 36 ls [vI x] h = some (.inl (some (vI x)), h) := Rdn hB_200 dX7_earliest_36 rfl
theorem hB_201 : mB 201 = cX7_deadline := rfl
theorem v201_0 {d : Nat} {st : List MV} {h : Hp} {x : Option A3} {a1 a2 : Option MV} : Ev d 201 0 [some (vO x), a1, a2] st h = Ev d 201 1 [some (vO x), a1, a2] (vO x :: st) h := Rnx (hB_201) (dX7_deadline_0) rfl
theorem v201_1 {d : Nat} {st : List MV} {h : Hp} {x : Int32} {a0 a2 : Option MV} : Ev d 201 1 [a0, some (vI x), a2] st h = Ev d 201 2 [a0, some (vI x), a2] (vI x :: st) h := Rnx (hB_201) (dX7_deadline_1) rfl
set_option maxRecDepth 100000 in
theorem v201_2 {d : Nat} {ls : LS3} {st : List MV} {h : Hp} {a : A3} {x0 : Int32} (hS : gS h a = (1, 7)) (hc : catS st ≤ 8) : Ev (d + 1) 201 2 ls (vI x0 :: vR a :: st) h = Evk 149 (d + 1) 201 2 ls st (Ev d 149 0 [some (vR a), some (vI x0)] [] h) := RcallO (idx := 202) (n := 1) (kd := 0) (As' := [vI x0]) hB_201 dX7_deadline_2 rfl rfl (by decide) rfl rfl (Or.inl hS) rfl hc
theorem v201_5 {d : Nat} {ls : LS3} {st : List MV} {h : Hp} {x : Int32} : Ev d 201 5 ls (vI x :: st) h = if x = 0 then Ev d 201 8 ls st h else Ev d 201 14 ls st h := Rifn hB_201 dX7_deadline_5 rfl
theorem v201_8 {d : Nat} {st : List MV} {h : Hp} {x : Option A3} {a1 a2 : Option MV} : Ev d 201 8 [some (vO x), a1, a2] st h = Ev d 201 9 [some (vO x), a1, a2] (vO x :: st) h := Rnx (hB_201) (dX7_deadline_8) rfl
theorem v201_9 {d : Nat} {ls : LS3} {st : List MV} {h : Hp} : Ev d 201 9 ls st h = Ev d 201 10 ls (vI 1 :: st) h := Rnx (hB_201) (dX7_deadline_9) rfl
set_option maxRecDepth 100000 in
theorem v201_10 {d : Nat} {ls : LS3} {st : List MV} {h : Hp} {a : A3} {x0 : Int32} (hS : gS h a = (1, 7)) (hc : catS st ≤ 8) : Ev (d + 1) 201 10 ls (vI x0 :: vR a :: st) h = Evk 141 (d + 1) 201 10 ls st (Ev d 141 0 [some (vR a), some (vI x0)] [] h) := RcallO (idx := 168) (n := 1) (kd := 0) (As' := [vI x0]) hB_201 dX7_deadline_10 rfl rfl (by decide) rfl rfl (Or.inl hS) rfl hc
theorem v201_13 {d : Nat} {ls : LS3} {h : Hp} {x : Int32} : Ev d 201 13 ls [vI x] h = some (.inl (some (vI x)), h) := Rdn hB_201 dX7_deadline_13 rfl
theorem v201_14 {d : Nat} {st : List MV} {h : Hp} {x : Int32} {a0 a1 : Option MV} : Ev d 201 14 [a0, a1, some (vI x)] st h = Ev d 201 15 [a0, a1, some (vI x)] (vI x :: st) h := Rnx (hB_201) (dX7_deadline_14) rfl
theorem v201_15 {d : Nat} {ls : LS3} {st : List MV} {h : Hp} : Ev d 201 15 ls st h = Ev d 201 16 ls (vI 1 :: st) h := Rnx (hB_201) (dX7_deadline_15) rfl
theorem v201_16 {d : Nat} {ls : LS3} {st : List MV} {h : Hp} : Ev d 201 16 ls st h = Ev d 201 17 ls (vI 4 :: st) h := Rnx (hB_201) (dX7_deadline_16) rfl
set_option maxRecDepth 100000 in
theorem v201_17 {d : Nat} {ls : LS3} {st : List MV} {h : Hp} {x0 : Int32} {x1 : Int32} {x2 : Int32} (hc : catS st ≤ 8) : Ev (d + 1) 201 17 ls (vI x2 :: vI x1 :: vI x0 :: st) h = Evk 143 (d + 1) 201 17 ls st (Ev d 143 0 [some (vI x0), some (vI x1), some (vI x2)] [] h) := RcallS (idx := 87) (n := 3) (kd := 1) (As := [vI x0, vI x1, vI x2]) hB_201 dX7_deadline_17 rfl rfl (by decide) rfl rfl rfl hc
theorem v201_20 {d : Nat} {ls : LS3} {st : List MV} {h : Hp} {x : Int32} : Ev d 201 20 ls (vI x :: st) h = if x = 0 then Ev d 201 23 ls st h else Ev d 201 29 ls st h := Rifn hB_201 dX7_deadline_20 rfl
theorem v201_23 {d : Nat} {st : List MV} {h : Hp} {x : Option A3} {a1 a2 : Option MV} : Ev d 201 23 [some (vO x), a1, a2] st h = Ev d 201 24 [some (vO x), a1, a2] (vO x :: st) h := Rnx (hB_201) (dX7_deadline_23) rfl
theorem v201_24 {d : Nat} {ls : LS3} {st : List MV} {h : Hp} : Ev d 201 24 ls st h = Ev d 201 25 ls (vI 2 :: st) h := Rnx (hB_201) (dX7_deadline_24) rfl
set_option maxRecDepth 100000 in
theorem v201_25 {d : Nat} {ls : LS3} {st : List MV} {h : Hp} {a : A3} {x0 : Int32} (hS : gS h a = (1, 7)) (hc : catS st ≤ 8) : Ev (d + 1) 201 25 ls (vI x0 :: vR a :: st) h = Evk 141 (d + 1) 201 25 ls st (Ev d 141 0 [some (vR a), some (vI x0)] [] h) := RcallO (idx := 168) (n := 1) (kd := 0) (As' := [vI x0]) hB_201 dX7_deadline_25 rfl rfl (by decide) rfl rfl (Or.inl hS) rfl hc
theorem v201_28 {d : Nat} {ls : LS3} {h : Hp} {x : Int32} : Ev d 201 28 ls [vI x] h = some (.inl (some (vI x)), h) := Rdn hB_201 dX7_deadline_28 rfl
theorem v201_29 {d : Nat} {st : List MV} {h : Hp} {x : Option A3} {a1 a2 : Option MV} : Ev d 201 29 [some (vO x), a1, a2] st h = Ev d 201 30 [some (vO x), a1, a2] (vO x :: st) h := Rnx (hB_201) (dX7_deadline_29) rfl
theorem v201_30 {d : Nat} {st : List MV} {h : Hp} {x : Int32} {a0 a2 : Option MV} : Ev d 201 30 [a0, some (vI x), a2] st h = Ev d 201 31 [a0, some (vI x), a2] (vI x :: st) h := Rnx (hB_201) (dX7_deadline_30) rfl
set_option maxRecDepth 100000 in
theorem v201_31 {d : Nat} {ls : LS3} {st : List MV} {h : Hp} {a : A3} {x0 : Int32} (hS : gS h a = (1, 7)) (hc : catS st ≤ 8) : Ev (d + 1) 201 31 ls (vI x0 :: vR a :: st) h = Evk 151 (d + 1) 201 31 ls st (Ev d 151 0 [some (vR a), some (vI x0)] [] h) := RcallO (idx := 113) (n := 1) (kd := 0) (As' := [vI x0]) hB_201 dX7_deadline_31 rfl rfl (by decide) rfl rfl (Or.inl hS) rfl hc
theorem v201_34 {d : Nat} {ls : LS3} {st : List MV} {h : Hp} {x : Int32} : Ev d 201 34 ls (vI x :: st) h = if x = 0 then Ev d 201 37 ls st h else Ev d 201 43 ls st h := Rifn hB_201 dX7_deadline_34 rfl
theorem v201_37 {d : Nat} {st : List MV} {h : Hp} {x : Option A3} {a1 a2 : Option MV} : Ev d 201 37 [some (vO x), a1, a2] st h = Ev d 201 38 [some (vO x), a1, a2] (vO x :: st) h := Rnx (hB_201) (dX7_deadline_37) rfl
theorem v201_38 {d : Nat} {ls : LS3} {st : List MV} {h : Hp} : Ev d 201 38 ls st h = Ev d 201 39 ls (vI 3 :: st) h := Rnx (hB_201) (dX7_deadline_38) rfl
set_option maxRecDepth 100000 in
theorem v201_39 {d : Nat} {ls : LS3} {st : List MV} {h : Hp} {a : A3} {x0 : Int32} (hS : gS h a = (1, 7)) (hc : catS st ≤ 8) : Ev (d + 1) 201 39 ls (vI x0 :: vR a :: st) h = Evk 141 (d + 1) 201 39 ls st (Ev d 141 0 [some (vR a), some (vI x0)] [] h) := RcallO (idx := 168) (n := 1) (kd := 0) (As' := [vI x0]) hB_201 dX7_deadline_39 rfl rfl (by decide) rfl rfl (Or.inl hS) rfl hc
theorem v201_42 {d : Nat} {ls : LS3} {h : Hp} {x : Int32} : Ev d 201 42 ls [vI x] h = some (.inl (some (vI x)), h) := Rdn hB_201 dX7_deadline_42 rfl
theorem v201_43 {d : Nat} {st : List MV} {h : Hp} {x : Option A3} {a1 a2 : Option MV} : Ev d 201 43 [some (vO x), a1, a2] st h = Ev d 201 44 [some (vO x), a1, a2] (vO x :: st) h := Rnx (hB_201) (dX7_deadline_43) rfl
theorem v201_44 {d : Nat} {ls : LS3} {st : List MV} {h : Hp} : Ev d 201 44 ls st h = Ev d 201 45 ls (vI 0 :: st) h := Rnx (hB_201) (dX7_deadline_44) rfl
set_option maxRecDepth 100000 in
theorem v201_45 {d : Nat} {ls : LS3} {st : List MV} {h : Hp} {a : A3} {x : Int32} (hS : gS h a = (1, 7)) : Ev d 201 45 ls (vI x :: vR a :: st) h = Ev d 201 48 ls st (sI h a 0 x) := RputI hB_201 dX7_deadline_45 rfl rfl (by decide) hS (Or.inl rfl)
theorem v201_48 {d : Nat} {st : List MV} {h : Hp} {x : Option A3} {a1 a2 : Option MV} : Ev d 201 48 [some (vO x), a1, a2] st h = Ev d 201 49 [some (vO x), a1, a2] (vO x :: st) h := Rnx (hB_201) (dX7_deadline_48) rfl
theorem v201_49 {d : Nat} {st : List MV} {h : Hp} {x : Int32} {a0 a2 : Option MV} : Ev d 201 49 [a0, some (vI x), a2] st h = Ev d 201 50 [a0, some (vI x), a2] (vI x :: st) h := Rnx (hB_201) (dX7_deadline_49) rfl
theorem v201_50 {d : Nat} {st : List MV} {h : Hp} {x : Option A3} {a1 a2 : Option MV} : Ev d 201 50 [some (vO x), a1, a2] st h = Ev d 201 51 [some (vO x), a1, a2] (vO x :: st) h := Rnx (hB_201) (dX7_deadline_50) rfl
set_option maxRecDepth 100000 in
theorem v201_51 {d : Nat} {ls : LS3} {st : List MV} {h : Hp} {a : A3} (hS : gS h a = (1, 7)) : Ev d 201 51 ls (vR a :: st) h = Ev d 201 54 ls (vO (gR h a 16) :: st) h := Rget hB_201 dX7_deadline_51 rfl (Or.inl hS)
theorem v201_54 {d : Nat} {st : List MV} {h : Hp} {x : Int32} {a0 a2 : Option MV} : Ev d 201 54 [a0, some (vI x), a2] st h = Ev d 201 55 [a0, some (vI x), a2] (vI x :: st) h := Rnx (hB_201) (dX7_deadline_54) rfl
theorem v201_55 {d : Nat} {ls : LS3} {st : List MV} {h : Hp} {a : A3} {j : Int32} (hS : (gS h a).1 ∈ [2, 9]) (hj : inB j (gS h a).2) : Ev d 201 55 ls (vI j :: vR a :: st) h = Ev d 201 56 ls (vI (gI h a j.toNatClampNeg) :: st) h := Rald (ks := [2, 9]) (f := fun a j => vI (gI h a j)) hB_201 dX7_deadline_55 rfl hS hj
theorem v201_56 {d : Nat} {st : List MV} {h : Hp} {x : Int32} {a0 a1 : Option MV} : Ev d 201 56 [a0, a1, some (vI x)] st h = Ev d 201 57 [a0, a1, some (vI x)] (vI x :: st) h := Rnx (hB_201) (dX7_deadline_56) rfl
set_option maxRecDepth 100000 in
theorem v201_57 {d : Nat} {ls : LS3} {st : List MV} {h : Hp} {a : A3} {x0 : Int32} {x1 : Int32} {x2 : Int32} (hS : gS h a = (1, 7)) (hc : catS st ≤ 8) : Ev (d + 1) 201 57 ls (vI x2 :: vI x1 :: vI x0 :: vR a :: st) h = Evk 163 (d + 1) 201 57 ls st (Ev d 163 0 [some (vR a), some (vI x0), some (vI x1), some (vI x2)] [] h) := RcallO (idx := 149) (n := 3) (kd := 0) (As' := [vI x0, vI x1, vI x2]) hB_201 dX7_deadline_57 rfl rfl (by decide) rfl rfl (Or.inl hS) rfl hc
theorem v201_60 {d : Nat} {ls : LS3} {h : Hp} {x : Int32} : Ev d 201 60 ls [vI x] h = some (.inl (some (vI x)), h) := Rdn hB_201 dX7_deadline_60 rfl
theorem hB_202 : mB 202 = cX7_canGoOn := rfl
theorem v202_0 {d : Nat} {st : List MV} {h : Hp} {x : Option A3} {a1 : Option MV} : Ev d 202 0 [some (vO x), a1] st h = Ev d 202 1 [some (vO x), a1] (vO x :: st) h := Rnx (hB_202) (dX7_canGoOn_0) rfl
theorem v202_1 {d : Nat} {st : List MV} {h : Hp} {x : Int32} {a0 : Option MV} : Ev d 202 1 [a0, some (vI x)] st h = Ev d 202 2 [a0, some (vI x)] (vI x :: st) h := Rnx (hB_202) (dX7_canGoOn_1) rfl
set_option maxRecDepth 100000 in
theorem v202_2 {d : Nat} {ls : LS3} {st : List MV} {h : Hp} {a : A3} {x0 : Int32} (hS : gS h a = (1, 7)) (hc : catS st ≤ 8) : Ev (d + 1) 202 2 ls (vI x0 :: vR a :: st) h = Evk 152 (d + 1) 202 2 ls st (Ev d 152 0 [some (vR a), some (vI x0)] [] h) := RcallO (idx := 109) (n := 1) (kd := 0) (As' := [vI x0]) hB_202 dX7_canGoOn_2 rfl rfl (by decide) rfl rfl (Or.inl hS) rfl hc
theorem v202_5 {d : Nat} {ls : LS3} {st : List MV} {h : Hp} {x : Int32} : Ev d 202 5 ls (vI x :: st) h = if x = 0 then Ev d 202 8 ls st h else Ev d 202 43 ls st h := Rifn hB_202 dX7_canGoOn_5 rfl
theorem v202_8 {d : Nat} {st : List MV} {h : Hp} {x : Option A3} {a1 : Option MV} : Ev d 202 8 [some (vO x), a1] st h = Ev d 202 9 [some (vO x), a1] (vO x :: st) h := Rnx (hB_202) (dX7_canGoOn_8) rfl
theorem v202_9 {d : Nat} {st : List MV} {h : Hp} {x : Int32} {a0 : Option MV} : Ev d 202 9 [a0, some (vI x)] st h = Ev d 202 10 [a0, some (vI x)] (vI x :: st) h := Rnx (hB_202) (dX7_canGoOn_9) rfl
set_option maxRecDepth 100000 in
theorem v202_10 {d : Nat} {ls : LS3} {st : List MV} {h : Hp} {a : A3} {x0 : Int32} (hS : gS h a = (1, 7)) (hc : catS st ≤ 8) : Ev (d + 1) 202 10 ls (vI x0 :: vR a :: st) h = Evk 151 (d + 1) 202 10 ls st (Ev d 151 0 [some (vR a), some (vI x0)] [] h) := RcallO (idx := 113) (n := 1) (kd := 0) (As' := [vI x0]) hB_202 dX7_canGoOn_10 rfl rfl (by decide) rfl rfl (Or.inl hS) rfl hc
theorem v202_13 {d : Nat} {ls : LS3} {st : List MV} {h : Hp} {x : Int32} : Ev d 202 13 ls (vI x :: st) h = if x = 0 then Ev d 202 43 ls st h else Ev d 202 16 ls st h := Rif hB_202 dX7_canGoOn_13 rfl
theorem v202_16 {d : Nat} {st : List MV} {h : Hp} {x : Option A3} {a1 : Option MV} : Ev d 202 16 [some (vO x), a1] st h = Ev d 202 17 [some (vO x), a1] (vO x :: st) h := Rnx (hB_202) (dX7_canGoOn_16) rfl
set_option maxRecDepth 100000 in
theorem v202_17 {d : Nat} {ls : LS3} {st : List MV} {h : Hp} {a : A3} (hS : gS h a = (1, 7)) : Ev d 202 17 ls (vR a :: st) h = Ev d 202 20 ls (vO (gR h a 13) :: st) h := Rget hB_202 dX7_canGoOn_17 rfl (Or.inl hS)
theorem v202_20 {d : Nat} {st : List MV} {h : Hp} {x : Int32} {a0 : Option MV} : Ev d 202 20 [a0, some (vI x)] st h = Ev d 202 21 [a0, some (vI x)] (vI x :: st) h := Rnx (hB_202) (dX7_canGoOn_20) rfl
theorem v202_21 {d : Nat} {ls : LS3} {st : List MV} {h : Hp} {a : A3} {j : Int32} (hS : (gS h a).1 ∈ [2, 9]) (hj : inB j (gS h a).2) : Ev d 202 21 ls (vI j :: vR a :: st) h = Ev d 202 22 ls (vI (gI h a j.toNatClampNeg) :: st) h := Rald (ks := [2, 9]) (f := fun a j => vI (gI h a j)) hB_202 dX7_canGoOn_21 rfl hS hj
theorem v202_22 {d : Nat} {ls : LS3} {st : List MV} {h : Hp} : Ev d 202 22 ls st h = Ev d 202 23 ls (vI 3 :: st) h := Rnx (hB_202) (dX7_canGoOn_22) rfl
theorem v202_23 {d : Nat} {ls : LS3} {st : List MV} {h : Hp} {x y : Int32} : Ev d 202 23 ls (vI y :: vI x :: st) h = if x < y then Ev d 202 39 ls st h else Ev d 202 26 ls st h := Rif hB_202 dX7_canGoOn_23 rfl
theorem v202_26 {d : Nat} {st : List MV} {h : Hp} {x : Option A3} {a1 : Option MV} : Ev d 202 26 [some (vO x), a1] st h = Ev d 202 27 [some (vO x), a1] (vO x :: st) h := Rnx (hB_202) (dX7_canGoOn_26) rfl
set_option maxRecDepth 100000 in
theorem v202_27 {d : Nat} {ls : LS3} {st : List MV} {h : Hp} {a : A3} (hS : gS h a = (1, 7)) : Ev d 202 27 ls (vR a :: st) h = Ev d 202 30 ls (vO (gR h a 16) :: st) h := Rget hB_202 dX7_canGoOn_27 rfl (Or.inl hS)
theorem v202_30 {d : Nat} {st : List MV} {h : Hp} {x : Int32} {a0 : Option MV} : Ev d 202 30 [a0, some (vI x)] st h = Ev d 202 31 [a0, some (vI x)] (vI x :: st) h := Rnx (hB_202) (dX7_canGoOn_30) rfl
theorem v202_31 {d : Nat} {ls : LS3} {st : List MV} {h : Hp} {a : A3} {j : Int32} (hS : (gS h a).1 ∈ [2, 9]) (hj : inB j (gS h a).2) : Ev d 202 31 ls (vI j :: vR a :: st) h = Ev d 202 32 ls (vI (gI h a j.toNatClampNeg) :: st) h := Rald (ks := [2, 9]) (f := fun a j => vI (gI h a j)) hB_202 dX7_canGoOn_31 rfl hS hj
theorem v202_32 {d : Nat} {st : List MV} {h : Hp} {x : Option A3} {a1 : Option MV} : Ev d 202 32 [some (vO x), a1] st h = Ev d 202 33 [some (vO x), a1] (vO x :: st) h := Rnx (hB_202) (dX7_canGoOn_32) rfl
set_option maxRecDepth 100000 in
theorem v202_33 {d : Nat} {ls : LS3} {st : List MV} {h : Hp} {a : A3} (hS : gS h a = (1, 7)) : Ev d 202 33 ls (vR a :: st) h = Ev d 202 36 ls (vI (gI h a 8) :: st) h := Rget hB_202 dX7_canGoOn_33 rfl (Or.inl hS)
theorem v202_36 {d : Nat} {ls : LS3} {st : List MV} {h : Hp} {x y : Int32} : Ev d 202 36 ls (vI y :: vI x :: st) h = if x = y then Ev d 202 39 ls st h else Ev d 202 43 ls st h := Rifn hB_202 dX7_canGoOn_36 rfl
theorem v202_39 {d : Nat} {ls : LS3} {st : List MV} {h : Hp} : Ev d 202 39 ls st h = Ev d 202 40 ls (vI 1 :: st) h := Rnx (hB_202) (dX7_canGoOn_39) rfl
theorem v202_40 {d : Nat} {ls : LS3} {st : List MV} {h : Hp} : Ev d 202 40 ls st h = Ev d 202 44 ls st h := Rnx (hB_202) (dX7_canGoOn_40) rfl
theorem v202_43 {d : Nat} {ls : LS3} {st : List MV} {h : Hp} : Ev d 202 43 ls st h = Ev d 202 44 ls (vI 0 :: st) h := Rnx (hB_202) (dX7_canGoOn_43) rfl
theorem v202_44 {d : Nat} {ls : LS3} {h : Hp} {x : Int32} (hx : x = 0 ∨ x = 1) : Ev d 202 44 ls [vI x] h = some (.inl (some (vI x)), h) := RretB hB_202 dX7_canGoOn_44 rfl hx
theorem hB_203 : mB 203 = cX7_goOn := rfl
theorem v203_0 {d : Nat} {st : List MV} {h : Hp} {x : Option A3} {a1 : Option MV} : Ev d 203 0 [some (vO x), a1] st h = Ev d 203 1 [some (vO x), a1] (vO x :: st) h := Rnx (hB_203) (dX7_goOn_0) rfl
theorem v203_1 {d : Nat} {st : List MV} {h : Hp} {x : Int32} {a0 : Option MV} : Ev d 203 1 [a0, some (vI x)] st h = Ev d 203 2 [a0, some (vI x)] (vI x :: st) h := Rnx (hB_203) (dX7_goOn_1) rfl
set_option maxRecDepth 100000 in
theorem v203_2 {d : Nat} {ls : LS3} {st : List MV} {h : Hp} {a : A3} {x0 : Int32} (hS : gS h a = (1, 7)) (hc : catS st ≤ 8) : Ev (d + 1) 203 2 ls (vI x0 :: vR a :: st) h = Evk 149 (d + 1) 203 2 ls st (Ev d 149 0 [some (vR a), some (vI x0)] [] h) := RcallO (idx := 202) (n := 1) (kd := 0) (As' := [vI x0]) hB_203 dX7_goOn_2 rfl rfl (by decide) rfl rfl (Or.inl hS) rfl hc
theorem v203_5 {d : Nat} {ls : LS3} {st : List MV} {h : Hp} {x : Int32} : Ev d 203 5 ls (vI x :: st) h = if x = 0 then Ev d 203 8 ls st h else Ev d 203 14 ls st h := Rifn hB_203 dX7_goOn_5 rfl
theorem v203_8 {d : Nat} {st : List MV} {h : Hp} {x : Option A3} {a1 : Option MV} : Ev d 203 8 [some (vO x), a1] st h = Ev d 203 9 [some (vO x), a1] (vO x :: st) h := Rnx (hB_203) (dX7_goOn_8) rfl
theorem v203_9 {d : Nat} {ls : LS3} {st : List MV} {h : Hp} : Ev d 203 9 ls st h = Ev d 203 10 ls (vI 1 :: st) h := Rnx (hB_203) (dX7_goOn_9) rfl
set_option maxRecDepth 100000 in
theorem v203_10 {d : Nat} {ls : LS3} {st : List MV} {h : Hp} {a : A3} {x0 : Int32} (hS : gS h a = (1, 7)) (hc : catS st ≤ 8) : Ev (d + 1) 203 10 ls (vI x0 :: vR a :: st) h = Evk 141 (d + 1) 203 10 ls st (Ev d 141 0 [some (vR a), some (vI x0)] [] h) := RcallO (idx := 168) (n := 1) (kd := 0) (As' := [vI x0]) hB_203 dX7_goOn_10 rfl rfl (by decide) rfl rfl (Or.inl hS) rfl hc
theorem v203_13 {d : Nat} {ls : LS3} {h : Hp} {x : Int32} : Ev d 203 13 ls [vI x] h = some (.inl (some (vI x)), h) := Rdn hB_203 dX7_goOn_13 rfl
theorem v203_14 {d : Nat} {st : List MV} {h : Hp} {x : Option A3} {a1 : Option MV} : Ev d 203 14 [some (vO x), a1] st h = Ev d 203 15 [some (vO x), a1] (vO x :: st) h := Rnx (hB_203) (dX7_goOn_14) rfl
theorem v203_15 {d : Nat} {st : List MV} {h : Hp} {x : Int32} {a0 : Option MV} : Ev d 203 15 [a0, some (vI x)] st h = Ev d 203 16 [a0, some (vI x)] (vI x :: st) h := Rnx (hB_203) (dX7_goOn_15) rfl
set_option maxRecDepth 100000 in
theorem v203_16 {d : Nat} {ls : LS3} {st : List MV} {h : Hp} {a : A3} {x0 : Int32} (hS : gS h a = (1, 7)) (hc : catS st ≤ 8) : Ev (d + 1) 203 16 ls (vI x0 :: vR a :: st) h = Evk 202 (d + 1) 203 16 ls st (Ev d 202 0 [some (vR a), some (vI x0)] [] h) := RcallO (idx := 239) (n := 1) (kd := 0) (As' := [vI x0]) hB_203 dX7_goOn_16 rfl rfl (by decide) rfl rfl (Or.inl hS) rfl hc
theorem v203_19 {d : Nat} {ls : LS3} {st : List MV} {h : Hp} {x : Int32} : Ev d 203 19 ls (vI x :: st) h = if x = 0 then Ev d 203 22 ls st h else Ev d 203 28 ls st h := Rifn hB_203 dX7_goOn_19 rfl
theorem v203_22 {d : Nat} {st : List MV} {h : Hp} {x : Option A3} {a1 : Option MV} : Ev d 203 22 [some (vO x), a1] st h = Ev d 203 23 [some (vO x), a1] (vO x :: st) h := Rnx (hB_203) (dX7_goOn_22) rfl
theorem v203_23 {d : Nat} {ls : LS3} {st : List MV} {h : Hp} : Ev d 203 23 ls st h = Ev d 203 24 ls (vI 2 :: st) h := Rnx (hB_203) (dX7_goOn_23) rfl
set_option maxRecDepth 100000 in
theorem v203_24 {d : Nat} {ls : LS3} {st : List MV} {h : Hp} {a : A3} {x0 : Int32} (hS : gS h a = (1, 7)) (hc : catS st ≤ 8) : Ev (d + 1) 203 24 ls (vI x0 :: vR a :: st) h = Evk 141 (d + 1) 203 24 ls st (Ev d 141 0 [some (vR a), some (vI x0)] [] h) := RcallO (idx := 168) (n := 1) (kd := 0) (As' := [vI x0]) hB_203 dX7_goOn_24 rfl rfl (by decide) rfl rfl (Or.inl hS) rfl hc
theorem v203_27 {d : Nat} {ls : LS3} {h : Hp} {x : Int32} : Ev d 203 27 ls [vI x] h = some (.inl (some (vI x)), h) := Rdn hB_203 dX7_goOn_27 rfl
theorem v203_28 {d : Nat} {st : List MV} {h : Hp} {x : Option A3} {a1 : Option MV} : Ev d 203 28 [some (vO x), a1] st h = Ev d 203 29 [some (vO x), a1] (vO x :: st) h := Rnx (hB_203) (dX7_goOn_28) rfl
theorem v203_29 {d : Nat} {ls : LS3} {st : List MV} {h : Hp} : Ev d 203 29 ls st h = Ev d 203 30 ls (vI 0 :: st) h := Rnx (hB_203) (dX7_goOn_29) rfl
set_option maxRecDepth 100000 in
theorem v203_30 {d : Nat} {ls : LS3} {st : List MV} {h : Hp} {a : A3} {x : Int32} (hS : gS h a = (1, 7)) : Ev d 203 30 ls (vI x :: vR a :: st) h = Ev d 203 33 ls st (sI h a 0 x) := RputI hB_203 dX7_goOn_30 rfl rfl (by decide) hS (Or.inl rfl)
theorem v203_33 {d : Nat} {st : List MV} {h : Hp} {x : Option A3} {a1 : Option MV} : Ev d 203 33 [some (vO x), a1] st h = Ev d 203 34 [some (vO x), a1] (vO x :: st) h := Rnx (hB_203) (dX7_goOn_33) rfl
set_option maxRecDepth 100000 in
theorem v203_34 {d : Nat} {ls : LS3} {st : List MV} {h : Hp} {a : A3}  (hS : gS h a = (1, 7)) (hc : catS st ≤ 8) : Ev (d + 1) 203 34 ls (vR a :: st) h = Evk 230 (d + 1) 203 34 ls st (Ev d 230 0 [some (vR a)] [] h) := RcallO (idx := 171) (n := 0) (kd := 0) (As' := []) hB_203 dX7_goOn_34 rfl rfl (by decide) rfl rfl (Or.inl hS) rfl hc
theorem v203_37 {d : Nat} {st : List MV} {h : Hp} {x : Option A3} {a1 : Option MV} : Ev d 203 37 [some (vO x), a1] st h = Ev d 203 38 [some (vO x), a1] (vO x :: st) h := Rnx (hB_203) (dX7_goOn_37) rfl
set_option maxRecDepth 100000 in
theorem v203_38 {d : Nat} {ls : LS3} {st : List MV} {h : Hp} {a : A3} (hS : gS h a = (1, 7)) : Ev d 203 38 ls (vR a :: st) h = Ev d 203 41 ls (vO (gR h a 13) :: st) h := Rget hB_203 dX7_goOn_38 rfl (Or.inl hS)
theorem v203_41 {d : Nat} {st : List MV} {h : Hp} {x : Int32} {a0 : Option MV} : Ev d 203 41 [a0, some (vI x)] st h = Ev d 203 42 [a0, some (vI x)] (vI x :: st) h := Rnx (hB_203) (dX7_goOn_41) rfl
theorem v203_42 {d : Nat} {ls : LS3} {st : List MV} {h : Hp} {v w : MV} (hv : cat1 v = true) (hw : cat1 w = true) : Ev d 203 42 ls (v :: w :: st) h = Ev d 203 43 ls (v :: w :: v :: w :: st) h := Rdup2 hB_203 dX7_goOn_42 hv hw
theorem v203_43 {d : Nat} {ls : LS3} {st : List MV} {h : Hp} {a : A3} {j : Int32} (hS : (gS h a).1 ∈ [2, 9]) (hj : inB j (gS h a).2) : Ev d 203 43 ls (vI j :: vR a :: st) h = Ev d 203 44 ls (vI (gI h a j.toNatClampNeg) :: st) h := Rald (ks := [2, 9]) (f := fun a j => vI (gI h a j)) hB_203 dX7_goOn_43 rfl hS hj
theorem v203_44 {d : Nat} {ls : LS3} {st : List MV} {h : Hp} : Ev d 203 44 ls st h = Ev d 203 45 ls (vI 1 :: st) h := Rnx (hB_203) (dX7_goOn_44) rfl
theorem v203_45 {d : Nat} {ls : LS3} {st : List MV} {h : Hp} {x y : Int32} : Ev d 203 45 ls (vI y :: vI x :: st) h = Ev d 203 46 ls (vI (x + y) :: st) h := Rnx (hB_203) (dX7_goOn_45) rfl
theorem v203_46 {d : Nat} {ls : LS3} {st : List MV} {h : Hp} {a : A3} {j : Int32} {x : Int32} (hS : (gS h a).1 = 2) (hj : inB j (gS h a).2) : Ev d 203 46 ls (vI x :: vI j :: vR a :: st) h = Ev d 203 47 ls st (sI h a j.toNatClampNeg x) := RastI hB_203 dX7_goOn_46 hS hj
theorem v203_47 {d : Nat} {st : List MV} {h : Hp} {x : Option A3} {a1 : Option MV} : Ev d 203 47 [some (vO x), a1] st h = Ev d 203 48 [some (vO x), a1] (vO x :: st) h := Rnx (hB_203) (dX7_goOn_47) rfl
set_option maxRecDepth 100000 in
theorem v203_48 {d : Nat} {ls : LS3} {st : List MV} {h : Hp} {a : A3} (hS : gS h a = (1, 7)) : Ev d 203 48 ls (vR a :: st) h = Ev d 203 51 ls (vO (gR h a 13) :: st) h := Rget hB_203 dX7_goOn_48 rfl (Or.inl hS)
theorem v203_51 {d : Nat} {st : List MV} {h : Hp} {x : Int32} {a0 : Option MV} : Ev d 203 51 [a0, some (vI x)] st h = Ev d 203 52 [a0, some (vI x)] (vI x :: st) h := Rnx (hB_203) (dX7_goOn_51) rfl
theorem v203_52 {d : Nat} {ls : LS3} {st : List MV} {h : Hp} {a : A3} {j : Int32} (hS : (gS h a).1 ∈ [2, 9]) (hj : inB j (gS h a).2) : Ev d 203 52 ls (vI j :: vR a :: st) h = Ev d 203 53 ls (vI (gI h a j.toNatClampNeg) :: st) h := Rald (ks := [2, 9]) (f := fun a j => vI (gI h a j)) hB_203 dX7_goOn_52 rfl hS hj
theorem v203_53 {d : Nat} {ls : LS3} {h : Hp} {x : Int32} : Ev d 203 53 ls [vI x] h = some (.inl (some (vI x)), h) := Rdn hB_203 dX7_goOn_53 rfl
theorem hB_204 : mB 204 = cX7_isAhead := rfl
theorem v204_0 {d : Nat} {st : List MV} {h : Hp} {x : Option A3} {a1 : Option MV} : Ev d 204 0 [some (vO x), a1] st h = Ev d 204 1 [some (vO x), a1] (vO x :: st) h := Rnx (hB_204) (dX7_isAhead_0) rfl
theorem v204_1 {d : Nat} {st : List MV} {h : Hp} {x : Int32} {a0 : Option MV} : Ev d 204 1 [a0, some (vI x)] st h = Ev d 204 2 [a0, some (vI x)] (vI x :: st) h := Rnx (hB_204) (dX7_isAhead_1) rfl
set_option maxRecDepth 100000 in
theorem v204_2 {d : Nat} {ls : LS3} {st : List MV} {h : Hp} {a : A3} {x0 : Int32} (hS : gS h a = (1, 7)) (hc : catS st ≤ 8) : Ev (d + 1) 204 2 ls (vI x0 :: vR a :: st) h = Evk 151 (d + 1) 204 2 ls st (Ev d 151 0 [some (vR a), some (vI x0)] [] h) := RcallO (idx := 113) (n := 1) (kd := 0) (As' := [vI x0]) hB_204 dX7_isAhead_2 rfl rfl (by decide) rfl rfl (Or.inl hS) rfl hc
theorem v204_5 {d : Nat} {ls : LS3} {st : List MV} {h : Hp} {x : Int32} : Ev d 204 5 ls (vI x :: st) h = if x = 0 then Ev d 204 20 ls st h else Ev d 204 8 ls st h := Rif hB_204 dX7_isAhead_5 rfl
theorem v204_8 {d : Nat} {st : List MV} {h : Hp} {x : Option A3} {a1 : Option MV} : Ev d 204 8 [some (vO x), a1] st h = Ev d 204 9 [some (vO x), a1] (vO x :: st) h := Rnx (hB_204) (dX7_isAhead_8) rfl
theorem v204_9 {d : Nat} {st : List MV} {h : Hp} {x : Int32} {a0 : Option MV} : Ev d 204 9 [a0, some (vI x)] st h = Ev d 204 10 [a0, some (vI x)] (vI x :: st) h := Rnx (hB_204) (dX7_isAhead_9) rfl
set_option maxRecDepth 100000 in
theorem v204_10 {d : Nat} {ls : LS3} {st : List MV} {h : Hp} {a : A3} {x0 : Int32} (hS : gS h a = (1, 7)) (hc : catS st ≤ 8) : Ev (d + 1) 204 10 ls (vI x0 :: vR a :: st) h = Evk 152 (d + 1) 204 10 ls st (Ev d 152 0 [some (vR a), some (vI x0)] [] h) := RcallO (idx := 109) (n := 1) (kd := 0) (As' := [vI x0]) hB_204 dX7_isAhead_10 rfl rfl (by decide) rfl rfl (Or.inl hS) rfl hc
theorem v204_13 {d : Nat} {ls : LS3} {st : List MV} {h : Hp} {x : Int32} : Ev d 204 13 ls (vI x :: st) h = if x = 0 then Ev d 204 16 ls st h else Ev d 204 20 ls st h := Rifn hB_204 dX7_isAhead_13 rfl
theorem v204_16 {d : Nat} {ls : LS3} {st : List MV} {h : Hp} : Ev d 204 16 ls st h = Ev d 204 17 ls (vI 1 :: st) h := Rnx (hB_204) (dX7_isAhead_16) rfl
theorem v204_17 {d : Nat} {ls : LS3} {st : List MV} {h : Hp} : Ev d 204 17 ls st h = Ev d 204 21 ls st h := Rnx (hB_204) (dX7_isAhead_17) rfl
theorem v204_20 {d : Nat} {ls : LS3} {st : List MV} {h : Hp} : Ev d 204 20 ls st h = Ev d 204 21 ls (vI 0 :: st) h := Rnx (hB_204) (dX7_isAhead_20) rfl
theorem v204_21 {d : Nat} {ls : LS3} {h : Hp} {x : Int32} (hx : x = 0 ∨ x = 1) : Ev d 204 21 ls [vI x] h = some (.inl (some (vI x)), h) := RretB hB_204 dX7_isAhead_21 rfl hx
theorem hB_205 : mB 205 = cX7_nextDeadline := rfl
theorem v205_0 {d : Nat} {st : List MV} {h : Hp} {x : Option A3} {a1 : Option MV} : Ev d 205 0 [some (vO x), a1] st h = Ev d 205 1 [some (vO x), a1] (vO x :: st) h := Rnx (hB_205) (dX7_nextDeadline_0) rfl
theorem v205_1 {d : Nat} {st : List MV} {h : Hp} {x : Int32} {a0 : Option MV} : Ev d 205 1 [a0, some (vI x)] st h = Ev d 205 2 [a0, some (vI x)] (vI x :: st) h := Rnx (hB_205) (dX7_nextDeadline_1) rfl
theorem v205_2 {d : Nat} {st : List MV} {h : Hp} {x : Option A3} {a1 : Option MV} : Ev d 205 2 [some (vO x), a1] st h = Ev d 205 3 [some (vO x), a1] (vO x :: st) h := Rnx (hB_205) (dX7_nextDeadline_2) rfl
set_option maxRecDepth 100000 in
theorem v205_3 {d : Nat} {ls : LS3} {st : List MV} {h : Hp} {a : A3} (hS : gS h a = (1, 7)) : Ev d 205 3 ls (vR a :: st) h = Ev d 205 6 ls (vO (gR h a 16) :: st) h := Rget hB_205 dX7_nextDeadline_3 rfl (Or.inl hS)
theorem v205_6 {d : Nat} {st : List MV} {h : Hp} {x : Int32} {a0 : Option MV} : Ev d 205 6 [a0, some (vI x)] st h = Ev d 205 7 [a0, some (vI x)] (vI x :: st) h := Rnx (hB_205) (dX7_nextDeadline_6) rfl
theorem v205_7 {d : Nat} {ls : LS3} {st : List MV} {h : Hp} {a : A3} {j : Int32} (hS : (gS h a).1 ∈ [2, 9]) (hj : inB j (gS h a).2) : Ev d 205 7 ls (vI j :: vR a :: st) h = Ev d 205 8 ls (vI (gI h a j.toNatClampNeg) :: st) h := Rald (ks := [2, 9]) (f := fun a j => vI (gI h a j)) hB_205 dX7_nextDeadline_7 rfl hS hj
theorem v205_8 {d : Nat} {st : List MV} {h : Hp} {x : Option A3} {a1 : Option MV} : Ev d 205 8 [some (vO x), a1] st h = Ev d 205 9 [some (vO x), a1] (vO x :: st) h := Rnx (hB_205) (dX7_nextDeadline_8) rfl
set_option maxRecDepth 100000 in
theorem v205_9 {d : Nat} {ls : LS3} {st : List MV} {h : Hp} {a : A3} (hS : gS h a = (1, 7)) : Ev d 205 9 ls (vR a :: st) h = Ev d 205 12 ls (vO (gR h a 13) :: st) h := Rget hB_205 dX7_nextDeadline_9 rfl (Or.inl hS)
theorem v205_12 {d : Nat} {st : List MV} {h : Hp} {x : Int32} {a0 : Option MV} : Ev d 205 12 [a0, some (vI x)] st h = Ev d 205 13 [a0, some (vI x)] (vI x :: st) h := Rnx (hB_205) (dX7_nextDeadline_12) rfl
theorem v205_13 {d : Nat} {ls : LS3} {st : List MV} {h : Hp} {a : A3} {j : Int32} (hS : (gS h a).1 ∈ [2, 9]) (hj : inB j (gS h a).2) : Ev d 205 13 ls (vI j :: vR a :: st) h = Ev d 205 14 ls (vI (gI h a j.toNatClampNeg) :: st) h := Rald (ks := [2, 9]) (f := fun a j => vI (gI h a j)) hB_205 dX7_nextDeadline_13 rfl hS hj
theorem v205_14 {d : Nat} {ls : LS3} {st : List MV} {h : Hp} : Ev d 205 14 ls st h = Ev d 205 15 ls (vI 1 :: st) h := Rnx (hB_205) (dX7_nextDeadline_14) rfl
theorem v205_15 {d : Nat} {ls : LS3} {st : List MV} {h : Hp} {x y : Int32} : Ev d 205 15 ls (vI y :: vI x :: st) h = Ev d 205 16 ls (vI (x + y) :: st) h := Rnx (hB_205) (dX7_nextDeadline_15) rfl
set_option maxRecDepth 100000 in
theorem v205_16 {d : Nat} {ls : LS3} {st : List MV} {h : Hp} {a : A3} {x0 : Int32} {x1 : Int32} {x2 : Int32} (hS : gS h a = (1, 7)) (hc : catS st ≤ 8) : Ev (d + 1) 205 16 ls (vI x2 :: vI x1 :: vI x0 :: vR a :: st) h = Evk 163 (d + 1) 205 16 ls st (Ev d 163 0 [some (vR a), some (vI x0), some (vI x1), some (vI x2)] [] h) := RcallO (idx := 149) (n := 3) (kd := 0) (As' := [vI x0, vI x1, vI x2]) hB_205 dX7_nextDeadline_16 rfl rfl (by decide) rfl rfl (Or.inl hS) rfl hc
theorem v205_19 {d : Nat} {ls : LS3} {h : Hp} {x : Int32} : Ev d 205 19 ls [vI x] h = some (.inl (some (vI x)), h) := Rdn hB_205 dX7_nextDeadline_19 rfl
theorem hB_206 : mB 206 = cX7_mostUrgent := rfl
theorem v206_0 {d : Nat} {ls : LS3} {st : List MV} {h : Hp} : Ev d 206 0 ls st h = Ev d 206 1 ls (vI (-1) :: st) h := Rnx (hB_206) (dX7_mostUrgent_0) rfl
theorem v206_1 {d : Nat} {st : List MV} {h : Hp} {x : Int32} {a0 a1 a2 : Option MV} : Ev d 206 1 [a0, a1, a2] (vI x :: st) h = Ev d 206 2 [a0, some (vI x), a2] st h := Rnx (hB_206) (dX7_mostUrgent_1) rfl
theorem v206_2 {d : Nat} {ls : LS3} {st : List MV} {h : Hp} : Ev d 206 2 ls st h = Ev d 206 3 ls (vI 0 :: st) h := Rnx (hB_206) (dX7_mostUrgent_2) rfl
theorem v206_3 {d : Nat} {st : List MV} {h : Hp} {x : Int32} {a0 a1 a2 : Option MV} : Ev d 206 3 [a0, a1, a2] (vI x :: st) h = Ev d 206 4 [a0, a1, some (vI x)] st h := Rnx (hB_206) (dX7_mostUrgent_3) rfl
theorem v206_4 {d : Nat} {st : List MV} {h : Hp} {x : Int32} {a0 a1 : Option MV} : Ev d 206 4 [a0, a1, some (vI x)] st h = Ev d 206 5 [a0, a1, some (vI x)] (vI x :: st) h := Rnx (hB_206) (dX7_mostUrgent_4) rfl
theorem v206_5 {d : Nat} {st : List MV} {h : Hp} {x : Option A3} {a1 a2 : Option MV} : Ev d 206 5 [some (vO x), a1, a2] st h = Ev d 206 6 [some (vO x), a1, a2] (vO x :: st) h := Rnx (hB_206) (dX7_mostUrgent_5) rfl
set_option maxRecDepth 100000 in
theorem v206_6 {d : Nat} {ls : LS3} {st : List MV} {h : Hp} {a : A3} (hS : gS h a = (1, 7)) : Ev d 206 6 ls (vR a :: st) h = Ev d 206 9 ls (vI (gI h a 19) :: st) h := Rget hB_206 dX7_mostUrgent_6 rfl (Or.inl hS)
theorem v206_9 {d : Nat} {ls : LS3} {st : List MV} {h : Hp} {x y : Int32} : Ev d 206 9 ls (vI y :: vI x :: st) h = if y ≤ x then Ev d 206 45 ls st h else Ev d 206 12 ls st h := Rif hB_206 dX7_mostUrgent_9 rfl
theorem v206_12 {d : Nat} {st : List MV} {h : Hp} {x : Option A3} {a1 a2 : Option MV} : Ev d 206 12 [some (vO x), a1, a2] st h = Ev d 206 13 [some (vO x), a1, a2] (vO x :: st) h := Rnx (hB_206) (dX7_mostUrgent_12) rfl
theorem v206_13 {d : Nat} {st : List MV} {h : Hp} {x : Int32} {a0 a1 : Option MV} : Ev d 206 13 [a0, a1, some (vI x)] st h = Ev d 206 14 [a0, a1, some (vI x)] (vI x :: st) h := Rnx (hB_206) (dX7_mostUrgent_13) rfl
set_option maxRecDepth 100000 in
theorem v206_14 {d : Nat} {ls : LS3} {st : List MV} {h : Hp} {a : A3} {x0 : Int32} (hS : gS h a = (1, 7)) (hc : catS st ≤ 8) : Ev (d + 1) 206 14 ls (vI x0 :: vR a :: st) h = Evk 204 (d + 1) 206 14 ls st (Ev d 204 0 [some (vR a), some (vI x0)] [] h) := RcallO (idx := 242) (n := 1) (kd := 0) (As' := [vI x0]) hB_206 dX7_mostUrgent_14 rfl rfl (by decide) rfl rfl (Or.inl hS) rfl hc
theorem v206_17 {d : Nat} {ls : LS3} {st : List MV} {h : Hp} {x : Int32} : Ev d 206 17 ls (vI x :: st) h = if x = 0 then Ev d 206 39 ls st h else Ev d 206 20 ls st h := Rif hB_206 dX7_mostUrgent_17 rfl
theorem v206_20 {d : Nat} {st : List MV} {h : Hp} {x : Int32} {a0 a2 : Option MV} : Ev d 206 20 [a0, some (vI x), a2] st h = Ev d 206 21 [a0, some (vI x), a2] (vI x :: st) h := Rnx (hB_206) (dX7_mostUrgent_20) rfl
theorem v206_21 {d : Nat} {ls : LS3} {st : List MV} {h : Hp} {x : Int32} : Ev d 206 21 ls (vI x :: st) h = if x < 0 then Ev d 206 37 ls st h else Ev d 206 24 ls st h := Rif hB_206 dX7_mostUrgent_21 rfl
theorem v206_24 {d : Nat} {st : List MV} {h : Hp} {x : Option A3} {a1 a2 : Option MV} : Ev d 206 24 [some (vO x), a1, a2] st h = Ev d 206 25 [some (vO x), a1, a2] (vO x :: st) h := Rnx (hB_206) (dX7_mostUrgent_24) rfl
theorem v206_25 {d : Nat} {st : List MV} {h : Hp} {x : Int32} {a0 a1 : Option MV} : Ev d 206 25 [a0, a1, some (vI x)] st h = Ev d 206 26 [a0, a1, some (vI x)] (vI x :: st) h := Rnx (hB_206) (dX7_mostUrgent_25) rfl
set_option maxRecDepth 100000 in
theorem v206_26 {d : Nat} {ls : LS3} {st : List MV} {h : Hp} {a : A3} {x0 : Int32} (hS : gS h a = (1, 7)) (hc : catS st ≤ 8) : Ev (d + 1) 206 26 ls (vI x0 :: vR a :: st) h = Evk 205 (d + 1) 206 26 ls st (Ev d 205 0 [some (vR a), some (vI x0)] [] h) := RcallO (idx := 245) (n := 1) (kd := 0) (As' := [vI x0]) hB_206 dX7_mostUrgent_26 rfl rfl (by decide) rfl rfl (Or.inl hS) rfl hc
theorem v206_29 {d : Nat} {st : List MV} {h : Hp} {x : Option A3} {a1 a2 : Option MV} : Ev d 206 29 [some (vO x), a1, a2] st h = Ev d 206 30 [some (vO x), a1, a2] (vO x :: st) h := Rnx (hB_206) (dX7_mostUrgent_29) rfl
theorem v206_30 {d : Nat} {st : List MV} {h : Hp} {x : Int32} {a0 a2 : Option MV} : Ev d 206 30 [a0, some (vI x), a2] st h = Ev d 206 31 [a0, some (vI x), a2] (vI x :: st) h := Rnx (hB_206) (dX7_mostUrgent_30) rfl
set_option maxRecDepth 100000 in
theorem v206_31 {d : Nat} {ls : LS3} {st : List MV} {h : Hp} {a : A3} {x0 : Int32} (hS : gS h a = (1, 7)) (hc : catS st ≤ 8) : Ev (d + 1) 206 31 ls (vI x0 :: vR a :: st) h = Evk 205 (d + 1) 206 31 ls st (Ev d 205 0 [some (vR a), some (vI x0)] [] h) := RcallO (idx := 245) (n := 1) (kd := 0) (As' := [vI x0]) hB_206 dX7_mostUrgent_31 rfl rfl (by decide) rfl rfl (Or.inl hS) rfl hc
theorem v206_34 {d : Nat} {ls : LS3} {st : List MV} {h : Hp} {x y : Int32} : Ev d 206 34 ls (vI y :: vI x :: st) h = if y ≤ x then Ev d 206 39 ls st h else Ev d 206 37 ls st h := Rif hB_206 dX7_mostUrgent_34 rfl
theorem v206_37 {d : Nat} {st : List MV} {h : Hp} {x : Int32} {a0 a1 : Option MV} : Ev d 206 37 [a0, a1, some (vI x)] st h = Ev d 206 38 [a0, a1, some (vI x)] (vI x :: st) h := Rnx (hB_206) (dX7_mostUrgent_37) rfl
theorem v206_38 {d : Nat} {st : List MV} {h : Hp} {x : Int32} {a0 a1 a2 : Option MV} : Ev d 206 38 [a0, a1, a2] (vI x :: st) h = Ev d 206 39 [a0, some (vI x), a2] st h := Rnx (hB_206) (dX7_mostUrgent_38) rfl
theorem v206_39 {d : Nat} {st : List MV} {h : Hp} {x : Int32} {a0 a1 : Option MV} : Ev d 206 39 [a0, a1, some (vI x)] st h = Ev d 206 42 [a0, a1, some (vI (x + 1))] st h := Rnx (hB_206) (dX7_mostUrgent_39) rfl
theorem v206_42 {d : Nat} {ls : LS3} {st : List MV} {h : Hp} : Ev d 206 42 ls st h = Ev d 206 4 ls st h := Rnx (hB_206) (dX7_mostUrgent_42) rfl
theorem v206_45 {d : Nat} {st : List MV} {h : Hp} {x : Int32} {a0 a2 : Option MV} : Ev d 206 45 [a0, some (vI x), a2] st h = Ev d 206 46 [a0, some (vI x), a2] (vI x :: st) h := Rnx (hB_206) (dX7_mostUrgent_45) rfl
theorem v206_46 {d : Nat} {ls : LS3} {st : List MV} {h : Hp} {x : Int32} : Ev d 206 46 ls (vI x :: st) h = if 0 ≤ x then Ev d 206 55 ls st h else Ev d 206 49 ls st h := Rif hB_206 dX7_mostUrgent_46 rfl
theorem v206_49 {d : Nat} {st : List MV} {h : Hp} {x : Option A3} {a1 a2 : Option MV} : Ev d 206 49 [some (vO x), a1, a2] st h = Ev d 206 50 [some (vO x), a1, a2] (vO x :: st) h := Rnx (hB_206) (dX7_mostUrgent_49) rfl
theorem v206_50 {d : Nat} {ls : LS3} {st : List MV} {h : Hp} : Ev d 206 50 ls st h = Ev d 206 51 ls (vI 1 :: st) h := Rnx (hB_206) (dX7_mostUrgent_50) rfl
set_option maxRecDepth 100000 in
theorem v206_51 {d : Nat} {ls : LS3} {st : List MV} {h : Hp} {a : A3} {x0 : Int32} (hS : gS h a = (1, 7)) (hc : catS st ≤ 8) : Ev (d + 1) 206 51 ls (vI x0 :: vR a :: st) h = Evk 141 (d + 1) 206 51 ls st (Ev d 141 0 [some (vR a), some (vI x0)] [] h) := RcallO (idx := 168) (n := 1) (kd := 0) (As' := [vI x0]) hB_206 dX7_mostUrgent_51 rfl rfl (by decide) rfl rfl (Or.inl hS) rfl hc
theorem v206_54 {d : Nat} {ls : LS3} {h : Hp} {x : Int32} : Ev d 206 54 ls [vI x] h = some (.inl (some (vI x)), h) := Rdn hB_206 dX7_mostUrgent_54 rfl
theorem v206_55 {d : Nat} {st : List MV} {h : Hp} {x : Option A3} {a1 a2 : Option MV} : Ev d 206 55 [some (vO x), a1, a2] st h = Ev d 206 56 [some (vO x), a1, a2] (vO x :: st) h := Rnx (hB_206) (dX7_mostUrgent_55) rfl
theorem v206_56 {d : Nat} {ls : LS3} {st : List MV} {h : Hp} : Ev d 206 56 ls st h = Ev d 206 57 ls (vI 0 :: st) h := Rnx (hB_206) (dX7_mostUrgent_56) rfl
set_option maxRecDepth 100000 in
theorem v206_57 {d : Nat} {ls : LS3} {st : List MV} {h : Hp} {a : A3} {x : Int32} (hS : gS h a = (1, 7)) : Ev d 206 57 ls (vI x :: vR a :: st) h = Ev d 206 60 ls st (sI h a 0 x) := RputI hB_206 dX7_mostUrgent_57 rfl rfl (by decide) hS (Or.inl rfl)
theorem v206_60 {d : Nat} {st : List MV} {h : Hp} {x : Option A3} {a1 a2 : Option MV} : Ev d 206 60 [some (vO x), a1, a2] st h = Ev d 206 61 [some (vO x), a1, a2] (vO x :: st) h := Rnx (hB_206) (dX7_mostUrgent_60) rfl
theorem v206_61 {d : Nat} {st : List MV} {h : Hp} {x : Int32} {a0 a2 : Option MV} : Ev d 206 61 [a0, some (vI x), a2] st h = Ev d 206 62 [a0, some (vI x), a2] (vI x :: st) h := Rnx (hB_206) (dX7_mostUrgent_61) rfl
set_option maxRecDepth 100000 in
theorem v206_62 {d : Nat} {ls : LS3} {st : List MV} {h : Hp} {a : A3} {x0 : Int32} (hS : gS h a = (1, 7)) (hc : catS st ≤ 8) : Ev (d + 1) 206 62 ls (vI x0 :: vR a :: st) h = Evk 205 (d + 1) 206 62 ls st (Ev d 205 0 [some (vR a), some (vI x0)] [] h) := RcallO (idx := 245) (n := 1) (kd := 0) (As' := [vI x0]) hB_206 dX7_mostUrgent_62 rfl rfl (by decide) rfl rfl (Or.inl hS) rfl hc
theorem v206_65 {d : Nat} {st : List MV} {h : Hp} {x : Option A3} {a1 a2 : Option MV} : Ev d 206 65 [some (vO x), a1, a2] st h = Ev d 206 66 [some (vO x), a1, a2] (vO x :: st) h := Rnx (hB_206) (dX7_mostUrgent_65) rfl
set_option maxRecDepth 100000 in
theorem v206_66 {d : Nat} {ls : LS3} {st : List MV} {h : Hp} {a : A3} (hS : gS h a = (1, 7)) : Ev d 206 66 ls (vR a :: st) h = Ev d 206 69 ls (vI (gI h a 8) :: st) h := Rget hB_206 dX7_mostUrgent_66 rfl (Or.inl hS)
theorem v206_69 {d : Nat} {ls : LS3} {st : List MV} {h : Hp} {x y : Int32} : Ev d 206 69 ls (vI y :: vI x :: st) h = Ev d 206 70 ls (vI (x - y) :: st) h := Rnx (hB_206) (dX7_mostUrgent_69) rfl
theorem v206_70 {d : Nat} {ls : LS3} {h : Hp} {x : Int32} : Ev d 206 70 ls [vI x] h = some (.inl (some (vI x)), h) := Rdn hB_206 dX7_mostUrgent_70 rfl
theorem hB_207 : mB 207 = cX7_inRoom := rfl
theorem v207_0 {d : Nat} {st : List MV} {h : Hp} {x : Int32} {a0 a2 a3 a4 : Option MV} : Ev d 207 0 [a0, some (vI x), a2, a3, a4] st h = Ev d 207 1 [a0, some (vI x), a2, a3, a4] (vI x :: st) h := Rnx (hB_207) (dX7_inRoom_0) rfl
set_option maxRecDepth 100000 in
theorem v207_1 {d : Nat} {ls : LS3} {st : List MV} {h : Hp} {x0 : Int32} (hc : catS st ≤ 8) : Ev (d + 1) 207 1 ls (vI x0 :: st) h = Evk 196 (d + 1) 207 1 ls st (Ev d 196 0 [some (vI x0)] [] h) := RcallS (idx := 229) (n := 1) (kd := 1) (As := [vI x0]) hB_207 dX7_inRoom_1 rfl rfl (by decide) rfl rfl rfl hc
theorem v207_4 {d : Nat} {ls : LS3} {st : List MV} {h : Hp} {x : Int32} : Ev d 207 4 ls (vI x :: st) h = if x = 0 then Ev d 207 7 ls st h else Ev d 207 13 ls st h := Rifn hB_207 dX7_inRoom_4 rfl
theorem v207_7 {d : Nat} {st : List MV} {h : Hp} {x : Option A3} {a1 a2 a3 a4 : Option MV} : Ev d 207 7 [some (vO x), a1, a2, a3, a4] st h = Ev d 207 8 [some (vO x), a1, a2, a3, a4] (vO x :: st) h := Rnx (hB_207) (dX7_inRoom_7) rfl
theorem v207_8 {d : Nat} {ls : LS3} {st : List MV} {h : Hp} : Ev d 207 8 ls st h = Ev d 207 9 ls (vI 1 :: st) h := Rnx (hB_207) (dX7_inRoom_8) rfl
set_option maxRecDepth 100000 in
theorem v207_9 {d : Nat} {ls : LS3} {st : List MV} {h : Hp} {a : A3} {x0 : Int32} (hS : gS h a = (1, 7)) (hc : catS st ≤ 8) : Ev (d + 1) 207 9 ls (vI x0 :: vR a :: st) h = Evk 141 (d + 1) 207 9 ls st (Ev d 141 0 [some (vR a), some (vI x0)] [] h) := RcallO (idx := 168) (n := 1) (kd := 0) (As' := [vI x0]) hB_207 dX7_inRoom_9 rfl rfl (by decide) rfl rfl (Or.inl hS) rfl hc
theorem v207_12 {d : Nat} {ls : LS3} {h : Hp} {x : Int32} : Ev d 207 12 ls [vI x] h = some (.inl (some (vI x)), h) := Rdn hB_207 dX7_inRoom_12 rfl
theorem v207_13 {d : Nat} {st : List MV} {h : Hp} {x : Int32} {a0 a1 a3 a4 : Option MV} : Ev d 207 13 [a0, a1, some (vI x), a3, a4] st h = Ev d 207 14 [a0, a1, some (vI x), a3, a4] (vI x :: st) h := Rnx (hB_207) (dX7_inRoom_13) rfl
set_option maxRecDepth 100000 in
theorem v207_14 {d : Nat} {ls : LS3} {st : List MV} {h : Hp} {x0 : Int32} (hc : catS st ≤ 8) : Ev (d + 1) 207 14 ls (vI x0 :: st) h = Evk 146 (d + 1) 207 14 ls st (Ev d 146 0 [some (vI x0)] [] h) := RcallS (idx := 184) (n := 1) (kd := 1) (As := [vI x0]) hB_207 dX7_inRoom_14 rfl rfl (by decide) rfl rfl rfl hc
theorem v207_17 {d : Nat} {ls : LS3} {st : List MV} {h : Hp} {x : Int32} : Ev d 207 17 ls (vI x :: st) h = if x = 0 then Ev d 207 30 ls st h else Ev d 207 20 ls st h := Rif hB_207 dX7_inRoom_17 rfl
theorem v207_20 {d : Nat} {st : List MV} {h : Hp} {x : Int32} {a0 a1 a2 a4 : Option MV} : Ev d 207 20 [a0, a1, a2, some (vI x), a4] st h = Ev d 207 21 [a0, a1, a2, some (vI x), a4] (vI x :: st) h := Rnx (hB_207) (dX7_inRoom_20) rfl
theorem v207_21 {d : Nat} {ls : LS3} {st : List MV} {h : Hp} : Ev d 207 21 ls st h = Ev d 207 22 ls (vI 0 :: st) h := Rnx (hB_207) (dX7_inRoom_21) rfl
theorem v207_22 {d : Nat} {ls : LS3} {st : List MV} {h : Hp} : Ev d 207 22 ls st h = Ev d 207 24 ls (vI 7 :: st) h := Rnx (hB_207) (dX7_inRoom_22) rfl
set_option maxRecDepth 100000 in
theorem v207_24 {d : Nat} {ls : LS3} {st : List MV} {h : Hp} {x0 : Int32} {x1 : Int32} {x2 : Int32} (hc : catS st ≤ 8) : Ev (d + 1) 207 24 ls (vI x2 :: vI x1 :: vI x0 :: st) h = Evk 143 (d + 1) 207 24 ls st (Ev d 143 0 [some (vI x0), some (vI x1), some (vI x2)] [] h) := RcallS (idx := 87) (n := 3) (kd := 1) (As := [vI x0, vI x1, vI x2]) hB_207 dX7_inRoom_24 rfl rfl (by decide) rfl rfl rfl hc
theorem v207_27 {d : Nat} {ls : LS3} {st : List MV} {h : Hp} {x : Int32} : Ev d 207 27 ls (vI x :: st) h = if x = 0 then Ev d 207 30 ls st h else Ev d 207 36 ls st h := Rifn hB_207 dX7_inRoom_27 rfl
theorem v207_30 {d : Nat} {st : List MV} {h : Hp} {x : Option A3} {a1 a2 a3 a4 : Option MV} : Ev d 207 30 [some (vO x), a1, a2, a3, a4] st h = Ev d 207 31 [some (vO x), a1, a2, a3, a4] (vO x :: st) h := Rnx (hB_207) (dX7_inRoom_30) rfl
theorem v207_31 {d : Nat} {ls : LS3} {st : List MV} {h : Hp} : Ev d 207 31 ls st h = Ev d 207 32 ls (vI 2 :: st) h := Rnx (hB_207) (dX7_inRoom_31) rfl
set_option maxRecDepth 100000 in
theorem v207_32 {d : Nat} {ls : LS3} {st : List MV} {h : Hp} {a : A3} {x0 : Int32} (hS : gS h a = (1, 7)) (hc : catS st ≤ 8) : Ev (d + 1) 207 32 ls (vI x0 :: vR a :: st) h = Evk 141 (d + 1) 207 32 ls st (Ev d 141 0 [some (vR a), some (vI x0)] [] h) := RcallO (idx := 168) (n := 1) (kd := 0) (As' := [vI x0]) hB_207 dX7_inRoom_32 rfl rfl (by decide) rfl rfl (Or.inl hS) rfl hc
theorem v207_35 {d : Nat} {ls : LS3} {h : Hp} {x : Int32} : Ev d 207 35 ls [vI x] h = some (.inl (some (vI x)), h) := Rdn hB_207 dX7_inRoom_35 rfl
theorem v207_36 {d : Nat} {ls : LS3} {st : List MV} {h : Hp} : Ev d 207 36 ls st h = Ev d 207 37 ls (vI 0 :: st) h := Rnx (hB_207) (dX7_inRoom_36) rfl
theorem v207_37 {d : Nat} {st : List MV} {h : Hp} {x : Int32} {a0 a1 a2 a3 a4 : Option MV} : Ev d 207 37 [a0, a1, a2, a3, a4] (vI x :: st) h = Ev d 207 39 [a0, a1, a2, a3, some (vI x)] st h := Rnx (hB_207) (dX7_inRoom_37) rfl
theorem v207_39 {d : Nat} {st : List MV} {h : Hp} {x : Int32} {a0 a1 a2 a3 : Option MV} : Ev d 207 39 [a0, a1, a2, a3, some (vI x)] st h = Ev d 207 41 [a0, a1, a2, a3, some (vI x)] (vI x :: st) h := Rnx (hB_207) (dX7_inRoom_39) rfl
theorem v207_41 {d : Nat} {st : List MV} {h : Hp} {x : Option A3} {a1 a2 a3 a4 : Option MV} : Ev d 207 41 [some (vO x), a1, a2, a3, a4] st h = Ev d 207 42 [some (vO x), a1, a2, a3, a4] (vO x :: st) h := Rnx (hB_207) (dX7_inRoom_41) rfl
set_option maxRecDepth 100000 in
theorem v207_42 {d : Nat} {ls : LS3} {st : List MV} {h : Hp} {a : A3} (hS : gS h a = (1, 7)) : Ev d 207 42 ls (vR a :: st) h = Ev d 207 45 ls (vI (gI h a 19) :: st) h := Rget hB_207 dX7_inRoom_42 rfl (Or.inl hS)
theorem v207_45 {d : Nat} {ls : LS3} {st : List MV} {h : Hp} {x y : Int32} : Ev d 207 45 ls (vI y :: vI x :: st) h = if y ≤ x then Ev d 207 101 ls st h else Ev d 207 48 ls st h := Rif hB_207 dX7_inRoom_45 rfl
theorem v207_48 {d : Nat} {st : List MV} {h : Hp} {x : Option A3} {a1 a2 a3 a4 : Option MV} : Ev d 207 48 [some (vO x), a1, a2, a3, a4] st h = Ev d 207 49 [some (vO x), a1, a2, a3, a4] (vO x :: st) h := Rnx (hB_207) (dX7_inRoom_48) rfl
set_option maxRecDepth 100000 in
theorem v207_49 {d : Nat} {ls : LS3} {st : List MV} {h : Hp} {a : A3} (hS : gS h a = (1, 7)) : Ev d 207 49 ls (vR a :: st) h = Ev d 207 52 ls (vO (gR h a 15) :: st) h := Rget hB_207 dX7_inRoom_49 rfl (Or.inl hS)
theorem v207_52 {d : Nat} {st : List MV} {h : Hp} {x : Int32} {a0 a1 a2 a3 : Option MV} : Ev d 207 52 [a0, a1, a2, a3, some (vI x)] st h = Ev d 207 54 [a0, a1, a2, a3, some (vI x)] (vI x :: st) h := Rnx (hB_207) (dX7_inRoom_52) rfl
theorem v207_54 {d : Nat} {ls : LS3} {st : List MV} {h : Hp} {a : A3} {j : Int32} (hS : (gS h a).1 ∈ [2, 9]) (hj : inB j (gS h a).2) : Ev d 207 54 ls (vI j :: vR a :: st) h = Ev d 207 55 ls (vI (gI h a j.toNatClampNeg) :: st) h := Rald (ks := [2, 9]) (f := fun a j => vI (gI h a j)) hB_207 dX7_inRoom_54 rfl hS hj
theorem v207_55 {d : Nat} {st : List MV} {h : Hp} {x : Int32} {a0 a2 a3 a4 : Option MV} : Ev d 207 55 [a0, some (vI x), a2, a3, a4] st h = Ev d 207 56 [a0, some (vI x), a2, a3, a4] (vI x :: st) h := Rnx (hB_207) (dX7_inRoom_55) rfl
theorem v207_56 {d : Nat} {ls : LS3} {st : List MV} {h : Hp} {x y : Int32} : Ev d 207 56 ls (vI y :: vI x :: st) h = if x = y then Ev d 207 59 ls st h else Ev d 207 95 ls st h := Rifn hB_207 dX7_inRoom_56 rfl
theorem v207_59 {d : Nat} {st : List MV} {h : Hp} {x : Option A3} {a1 a2 a3 a4 : Option MV} : Ev d 207 59 [some (vO x), a1, a2, a3, a4] st h = Ev d 207 60 [some (vO x), a1, a2, a3, a4] (vO x :: st) h := Rnx (hB_207) (dX7_inRoom_59) rfl
set_option maxRecDepth 100000 in
theorem v207_60 {d : Nat} {ls : LS3} {st : List MV} {h : Hp} {a : A3} (hS : gS h a = (1, 7)) : Ev d 207 60 ls (vR a :: st) h = Ev d 207 63 ls (vO (gR h a 16) :: st) h := Rget hB_207 dX7_inRoom_60 rfl (Or.inl hS)
theorem v207_63 {d : Nat} {st : List MV} {h : Hp} {x : Int32} {a0 a1 a2 a3 : Option MV} : Ev d 207 63 [a0, a1, a2, a3, some (vI x)] st h = Ev d 207 65 [a0, a1, a2, a3, some (vI x)] (vI x :: st) h := Rnx (hB_207) (dX7_inRoom_63) rfl
theorem v207_65 {d : Nat} {ls : LS3} {st : List MV} {h : Hp} {a : A3} {j : Int32} (hS : (gS h a).1 ∈ [2, 9]) (hj : inB j (gS h a).2) : Ev d 207 65 ls (vI j :: vR a :: st) h = Ev d 207 66 ls (vI (gI h a j.toNatClampNeg) :: st) h := Rald (ks := [2, 9]) (f := fun a j => vI (gI h a j)) hB_207 dX7_inRoom_65 rfl hS hj
theorem v207_66 {d : Nat} {st : List MV} {h : Hp} {x : Int32} {a0 a1 a3 a4 : Option MV} : Ev d 207 66 [a0, a1, some (vI x), a3, a4] st h = Ev d 207 67 [a0, a1, some (vI x), a3, a4] (vI x :: st) h := Rnx (hB_207) (dX7_inRoom_66) rfl
theorem v207_67 {d : Nat} {ls : LS3} {st : List MV} {h : Hp} {x y : Int32} : Ev d 207 67 ls (vI y :: vI x :: st) h = if x = y then Ev d 207 70 ls st h else Ev d 207 95 ls st h := Rifn hB_207 dX7_inRoom_67 rfl
theorem v207_70 {d : Nat} {st : List MV} {h : Hp} {x : Int32} {a0 a1 a2 a4 : Option MV} : Ev d 207 70 [a0, a1, a2, some (vI x), a4] st h = Ev d 207 71 [a0, a1, a2, some (vI x), a4] (vI x :: st) h := Rnx (hB_207) (dX7_inRoom_70) rfl
theorem v207_71 {d : Nat} {st : List MV} {h : Hp} {x : Option A3} {a1 a2 a3 a4 : Option MV} : Ev d 207 71 [some (vO x), a1, a2, a3, a4] st h = Ev d 207 72 [some (vO x), a1, a2, a3, a4] (vO x :: st) h := Rnx (hB_207) (dX7_inRoom_71) rfl
set_option maxRecDepth 100000 in
theorem v207_72 {d : Nat} {ls : LS3} {st : List MV} {h : Hp} {a : A3} (hS : gS h a = (1, 7)) : Ev d 207 72 ls (vR a :: st) h = Ev d 207 75 ls (vO (gR h a 17) :: st) h := Rget hB_207 dX7_inRoom_72 rfl (Or.inl hS)
theorem v207_75 {d : Nat} {st : List MV} {h : Hp} {x : Int32} {a0 a1 a2 a3 : Option MV} : Ev d 207 75 [a0, a1, a2, a3, some (vI x)] st h = Ev d 207 77 [a0, a1, a2, a3, some (vI x)] (vI x :: st) h := Rnx (hB_207) (dX7_inRoom_75) rfl
theorem v207_77 {d : Nat} {ls : LS3} {st : List MV} {h : Hp} {a : A3} {j : Int32} (hS : (gS h a).1 ∈ [2, 9]) (hj : inB j (gS h a).2) : Ev d 207 77 ls (vI j :: vR a :: st) h = Ev d 207 78 ls (vI (gI h a j.toNatClampNeg) :: st) h := Rald (ks := [2, 9]) (f := fun a j => vI (gI h a j)) hB_207 dX7_inRoom_77 rfl hS hj
theorem v207_78 {d : Nat} {ls : LS3} {st : List MV} {h : Hp} {x y : Int32} : Ev d 207 78 ls (vI y :: vI x :: st) h = Ev d 207 79 ls (vI (x - y) :: st) h := Rnx (hB_207) (dX7_inRoom_78) rfl
theorem v207_79 {d : Nat} {ls : LS3} {st : List MV} {h : Hp} : Ev d 207 79 ls st h = Ev d 207 80 ls (vI 0 :: st) h := Rnx (hB_207) (dX7_inRoom_79) rfl
theorem v207_80 {d : Nat} {ls : LS3} {st : List MV} {h : Hp} : Ev d 207 80 ls st h = Ev d 207 81 ls (vI 1 :: st) h := Rnx (hB_207) (dX7_inRoom_80) rfl
set_option maxRecDepth 100000 in
theorem v207_81 {d : Nat} {ls : LS3} {st : List MV} {h : Hp} {x0 : Int32} {x1 : Int32} {x2 : Int32} (hc : catS st ≤ 8) : Ev (d + 1) 207 81 ls (vI x2 :: vI x1 :: vI x0 :: st) h = Evk 143 (d + 1) 207 81 ls st (Ev d 143 0 [some (vI x0), some (vI x1), some (vI x2)] [] h) := RcallS (idx := 87) (n := 3) (kd := 1) (As := [vI x0, vI x1, vI x2]) hB_207 dX7_inRoom_81 rfl rfl (by decide) rfl rfl rfl hc
theorem v207_84 {d : Nat} {ls : LS3} {st : List MV} {h : Hp} {x : Int32} : Ev d 207 84 ls (vI x :: st) h = if x = 0 then Ev d 207 95 ls st h else Ev d 207 87 ls st h := Rif hB_207 dX7_inRoom_84 rfl
theorem v207_87 {d : Nat} {st : List MV} {h : Hp} {x : Option A3} {a1 a2 a3 a4 : Option MV} : Ev d 207 87 [some (vO x), a1, a2, a3, a4] st h = Ev d 207 88 [some (vO x), a1, a2, a3, a4] (vO x :: st) h := Rnx (hB_207) (dX7_inRoom_87) rfl
theorem v207_88 {d : Nat} {ls : LS3} {st : List MV} {h : Hp} : Ev d 207 88 ls st h = Ev d 207 89 ls (vI 0 :: st) h := Rnx (hB_207) (dX7_inRoom_88) rfl
set_option maxRecDepth 100000 in
theorem v207_89 {d : Nat} {ls : LS3} {st : List MV} {h : Hp} {a : A3} {x : Int32} (hS : gS h a = (1, 7)) : Ev d 207 89 ls (vI x :: vR a :: st) h = Ev d 207 92 ls st (sI h a 0 x) := RputI hB_207 dX7_inRoom_89 rfl rfl (by decide) hS (Or.inl rfl)
theorem v207_92 {d : Nat} {st : List MV} {h : Hp} {x : Int32} {a0 a1 a2 a3 : Option MV} : Ev d 207 92 [a0, a1, a2, a3, some (vI x)] st h = Ev d 207 94 [a0, a1, a2, a3, some (vI x)] (vI x :: st) h := Rnx (hB_207) (dX7_inRoom_92) rfl
theorem v207_94 {d : Nat} {ls : LS3} {h : Hp} {x : Int32} : Ev d 207 94 ls [vI x] h = some (.inl (some (vI x)), h) := Rdn hB_207 dX7_inRoom_94 rfl
theorem v207_95 {d : Nat} {st : List MV} {h : Hp} {x : Int32} {a0 a1 a2 a3 : Option MV} : Ev d 207 95 [a0, a1, a2, a3, some (vI x)] st h = Ev d 207 98 [a0, a1, a2, a3, some (vI (x + 1))] st h := Rnx (hB_207) (dX7_inRoom_95) rfl
theorem v207_98 {d : Nat} {ls : LS3} {st : List MV} {h : Hp} : Ev d 207 98 ls st h = Ev d 207 39 ls st h := Rnx (hB_207) (dX7_inRoom_98) rfl
theorem v207_101 {d : Nat} {st : List MV} {h : Hp} {x : Option A3} {a1 a2 a3 a4 : Option MV} : Ev d 207 101 [some (vO x), a1, a2, a3, a4] st h = Ev d 207 102 [some (vO x), a1, a2, a3, a4] (vO x :: st) h := Rnx (hB_207) (dX7_inRoom_101) rfl
theorem v207_102 {d : Nat} {ls : LS3} {st : List MV} {h : Hp} : Ev d 207 102 ls st h = Ev d 207 103 ls (vI 3 :: st) h := Rnx (hB_207) (dX7_inRoom_102) rfl
set_option maxRecDepth 100000 in
theorem v207_103 {d : Nat} {ls : LS3} {st : List MV} {h : Hp} {a : A3} {x0 : Int32} (hS : gS h a = (1, 7)) (hc : catS st ≤ 8) : Ev (d + 1) 207 103 ls (vI x0 :: vR a :: st) h = Evk 141 (d + 1) 207 103 ls st (Ev d 141 0 [some (vR a), some (vI x0)] [] h) := RcallO (idx := 168) (n := 1) (kd := 0) (As' := [vI x0]) hB_207 dX7_inRoom_103 rfl rfl (by decide) rfl rfl (Or.inl hS) rfl hc
theorem v207_106 {d : Nat} {ls : LS3} {h : Hp} {x : Int32} : Ev d 207 106 ls [vI x] h = some (.inl (some (vI x)), h) := Rdn hB_207 dX7_inRoom_106 rfl
theorem hB_208 : mB 208 = cX7_await := rfl
theorem v208_0 {d : Nat} {st : List MV} {h : Hp} {x : Option A3} {a1 : Option MV} : Ev d 208 0 [some (vO x), a1] st h = Ev d 208 1 [some (vO x), a1] (vO x :: st) h := Rnx (hB_208) (dX7_await_0) rfl
theorem v208_1 {d : Nat} {st : List MV} {h : Hp} {x : Int32} {a0 : Option MV} : Ev d 208 1 [a0, some (vI x)] st h = Ev d 208 2 [a0, some (vI x)] (vI x :: st) h := Rnx (hB_208) (dX7_await_1) rfl
set_option maxRecDepth 100000 in
theorem v208_2 {d : Nat} {ls : LS3} {st : List MV} {h : Hp} {a : A3} {x0 : Int32} (hS : gS h a = (1, 7)) (hc : catS st ≤ 8) : Ev (d + 1) 208 2 ls (vI x0 :: vR a :: st) h = Evk 149 (d + 1) 208 2 ls st (Ev d 149 0 [some (vR a), some (vI x0)] [] h) := RcallO (idx := 202) (n := 1) (kd := 0) (As' := [vI x0]) hB_208 dX7_await_2 rfl rfl (by decide) rfl rfl (Or.inl hS) rfl hc
theorem v208_5 {d : Nat} {ls : LS3} {st : List MV} {h : Hp} {x : Int32} : Ev d 208 5 ls (vI x :: st) h = if x = 0 then Ev d 208 8 ls st h else Ev d 208 14 ls st h := Rifn hB_208 dX7_await_5 rfl
theorem v208_8 {d : Nat} {st : List MV} {h : Hp} {x : Option A3} {a1 : Option MV} : Ev d 208 8 [some (vO x), a1] st h = Ev d 208 9 [some (vO x), a1] (vO x :: st) h := Rnx (hB_208) (dX7_await_8) rfl
theorem v208_9 {d : Nat} {ls : LS3} {st : List MV} {h : Hp} : Ev d 208 9 ls st h = Ev d 208 10 ls (vI 1 :: st) h := Rnx (hB_208) (dX7_await_9) rfl
set_option maxRecDepth 100000 in
theorem v208_10 {d : Nat} {ls : LS3} {st : List MV} {h : Hp} {a : A3} {x0 : Int32} (hS : gS h a = (1, 7)) (hc : catS st ≤ 8) : Ev (d + 1) 208 10 ls (vI x0 :: vR a :: st) h = Evk 141 (d + 1) 208 10 ls st (Ev d 141 0 [some (vR a), some (vI x0)] [] h) := RcallO (idx := 168) (n := 1) (kd := 0) (As' := [vI x0]) hB_208 dX7_await_10 rfl rfl (by decide) rfl rfl (Or.inl hS) rfl hc
theorem v208_13 {d : Nat} {ls : LS3} {h : Hp} {x : Int32} : Ev d 208 13 ls [vI x] h = some (.inl (some (vI x)), h) := Rdn hB_208 dX7_await_13 rfl
theorem v208_14 {d : Nat} {st : List MV} {h : Hp} {x : Option A3} {a1 : Option MV} : Ev d 208 14 [some (vO x), a1] st h = Ev d 208 15 [some (vO x), a1] (vO x :: st) h := Rnx (hB_208) (dX7_await_14) rfl
theorem v208_15 {d : Nat} {st : List MV} {h : Hp} {x : Int32} {a0 : Option MV} : Ev d 208 15 [a0, some (vI x)] st h = Ev d 208 16 [a0, some (vI x)] (vI x :: st) h := Rnx (hB_208) (dX7_await_15) rfl
set_option maxRecDepth 100000 in
theorem v208_16 {d : Nat} {ls : LS3} {st : List MV} {h : Hp} {a : A3} {x0 : Int32} (hS : gS h a = (1, 7)) (hc : catS st ≤ 8) : Ev (d + 1) 208 16 ls (vI x0 :: vR a :: st) h = Evk 152 (d + 1) 208 16 ls st (Ev d 152 0 [some (vR a), some (vI x0)] [] h) := RcallO (idx := 109) (n := 1) (kd := 0) (As' := [vI x0]) hB_208 dX7_await_16 rfl rfl (by decide) rfl rfl (Or.inl hS) rfl hc
theorem v208_19 {d : Nat} {ls : LS3} {st : List MV} {h : Hp} {x : Int32} : Ev d 208 19 ls (vI x :: st) h = if x = 0 then Ev d 208 22 ls st h else Ev d 208 30 ls st h := Rifn hB_208 dX7_await_19 rfl
theorem v208_22 {d : Nat} {st : List MV} {h : Hp} {x : Option A3} {a1 : Option MV} : Ev d 208 22 [some (vO x), a1] st h = Ev d 208 23 [some (vO x), a1] (vO x :: st) h := Rnx (hB_208) (dX7_await_22) rfl
theorem v208_23 {d : Nat} {st : List MV} {h : Hp} {x : Int32} {a0 : Option MV} : Ev d 208 23 [a0, some (vI x)] st h = Ev d 208 24 [a0, some (vI x)] (vI x :: st) h := Rnx (hB_208) (dX7_await_23) rfl
set_option maxRecDepth 100000 in
theorem v208_24 {d : Nat} {ls : LS3} {st : List MV} {h : Hp} {a : A3} {x0 : Int32} (hS : gS h a = (1, 7)) (hc : catS st ≤ 8) : Ev (d + 1) 208 24 ls (vI x0 :: vR a :: st) h = Evk 151 (d + 1) 208 24 ls st (Ev d 151 0 [some (vR a), some (vI x0)] [] h) := RcallO (idx := 113) (n := 1) (kd := 0) (As' := [vI x0]) hB_208 dX7_await_24 rfl rfl (by decide) rfl rfl (Or.inl hS) rfl hc
theorem v208_27 {d : Nat} {ls : LS3} {st : List MV} {h : Hp} {x : Int32} : Ev d 208 27 ls (vI x :: st) h = if x = 0 then Ev d 208 36 ls st h else Ev d 208 30 ls st h := Rif hB_208 dX7_await_27 rfl
theorem v208_30 {d : Nat} {st : List MV} {h : Hp} {x : Option A3} {a1 : Option MV} : Ev d 208 30 [some (vO x), a1] st h = Ev d 208 31 [some (vO x), a1] (vO x :: st) h := Rnx (hB_208) (dX7_await_30) rfl
theorem v208_31 {d : Nat} {ls : LS3} {st : List MV} {h : Hp} : Ev d 208 31 ls st h = Ev d 208 32 ls (vI 2 :: st) h := Rnx (hB_208) (dX7_await_31) rfl
set_option maxRecDepth 100000 in
theorem v208_32 {d : Nat} {ls : LS3} {st : List MV} {h : Hp} {a : A3} {x0 : Int32} (hS : gS h a = (1, 7)) (hc : catS st ≤ 8) : Ev (d + 1) 208 32 ls (vI x0 :: vR a :: st) h = Evk 141 (d + 1) 208 32 ls st (Ev d 141 0 [some (vR a), some (vI x0)] [] h) := RcallO (idx := 168) (n := 1) (kd := 0) (As' := [vI x0]) hB_208 dX7_await_32 rfl rfl (by decide) rfl rfl (Or.inl hS) rfl hc
theorem v208_35 {d : Nat} {ls : LS3} {h : Hp} {x : Int32} : Ev d 208 35 ls [vI x] h = some (.inl (some (vI x)), h) := Rdn hB_208 dX7_await_35 rfl
theorem v208_36 {d : Nat} {st : List MV} {h : Hp} {x : Option A3} {a1 : Option MV} : Ev d 208 36 [some (vO x), a1] st h = Ev d 208 37 [some (vO x), a1] (vO x :: st) h := Rnx (hB_208) (dX7_await_36) rfl
theorem v208_37 {d : Nat} {ls : LS3} {st : List MV} {h : Hp} : Ev d 208 37 ls st h = Ev d 208 38 ls (vI 0 :: st) h := Rnx (hB_208) (dX7_await_37) rfl
set_option maxRecDepth 100000 in
theorem v208_38 {d : Nat} {ls : LS3} {st : List MV} {h : Hp} {a : A3} {x : Int32} (hS : gS h a = (1, 7)) : Ev d 208 38 ls (vI x :: vR a :: st) h = Ev d 208 41 ls st (sI h a 0 x) := RputI hB_208 dX7_await_38 rfl rfl (by decide) hS (Or.inl rfl)
theorem v208_41 {d : Nat} {st : List MV} {h : Hp} {x : Option A3} {a1 : Option MV} : Ev d 208 41 [some (vO x), a1] st h = Ev d 208 42 [some (vO x), a1] (vO x :: st) h := Rnx (hB_208) (dX7_await_41) rfl
set_option maxRecDepth 100000 in
theorem v208_42 {d : Nat} {ls : LS3} {st : List MV} {h : Hp} {a : A3}  (hS : gS h a = (1, 7)) (hc : catS st ≤ 8) : Ev (d + 1) 208 42 ls (vR a :: st) h = Evk 230 (d + 1) 208 42 ls st (Ev d 230 0 [some (vR a)] [] h) := RcallO (idx := 171) (n := 0) (kd := 0) (As' := []) hB_208 dX7_await_42 rfl rfl (by decide) rfl rfl (Or.inl hS) rfl hc
theorem v208_45 {d : Nat} {st : List MV} {h : Hp} {x : Option A3} {a1 : Option MV} : Ev d 208 45 [some (vO x), a1] st h = Ev d 208 46 [some (vO x), a1] (vO x :: st) h := Rnx (hB_208) (dX7_await_45) rfl
theorem v208_46 {d : Nat} {st : List MV} {h : Hp} {x : Int32} {a0 : Option MV} : Ev d 208 46 [a0, some (vI x)] st h = Ev d 208 47 [a0, some (vI x)] (vI x :: st) h := Rnx (hB_208) (dX7_await_46) rfl
set_option maxRecDepth 100000 in
theorem v208_47 {d : Nat} {ls : LS3} {st : List MV} {h : Hp} {a : A3} {x0 : Int32} (hS : gS h a = (1, 7)) (hc : catS st ≤ 8) : Ev (d + 1) 208 47 ls (vI x0 :: vR a :: st) h = Evk 181 (d + 1) 208 47 ls st (Ev d 181 0 [some (vR a), some (vI x0), none] [] h) := RcallO (idx := 205) (n := 1) (kd := 0) (As' := [vI x0]) hB_208 dX7_await_47 rfl rfl (by decide) rfl rfl (Or.inl hS) rfl hc
theorem v208_50 {d : Nat} {ls : LS3} {st : List MV} {h : Hp} {x : Int32} : Ev d 208 50 ls (vI x :: st) h = if 0 ≤ x then Ev d 208 73 ls st h else Ev d 208 53 ls st h := Rif hB_208 dX7_await_50 rfl
theorem v208_53 {d : Nat} {st : List MV} {h : Hp} {x : Option A3} {a1 : Option MV} : Ev d 208 53 [some (vO x), a1] st h = Ev d 208 54 [some (vO x), a1] (vO x :: st) h := Rnx (hB_208) (dX7_await_53) rfl
set_option maxRecDepth 100000 in
theorem v208_54 {d : Nat} {ls : LS3} {st : List MV} {h : Hp} {a : A3} (hS : gS h a = (1, 7)) : Ev d 208 54 ls (vR a :: st) h = Ev d 208 57 ls (vO (gR h a 18) :: st) h := Rget hB_208 dX7_await_54 rfl (Or.inl hS)
theorem v208_57 {d : Nat} {st : List MV} {h : Hp} {x : Option A3} {a1 : Option MV} : Ev d 208 57 [some (vO x), a1] st h = Ev d 208 58 [some (vO x), a1] (vO x :: st) h := Rnx (hB_208) (dX7_await_57) rfl
set_option maxRecDepth 100000 in
theorem v208_58 {d : Nat} {ls : LS3} {st : List MV} {h : Hp} {a : A3} (hS : gS h a = (1, 7)) : Ev d 208 58 ls (vR a :: st) h = Ev d 208 61 ls (vI (gI h a 20) :: st) h := Rget hB_208 dX7_await_58 rfl (Or.inl hS)
theorem v208_61 {d : Nat} {st : List MV} {h : Hp} {x : Int32} {a0 : Option MV} : Ev d 208 61 [a0, some (vI x)] st h = Ev d 208 62 [a0, some (vI x)] (vI x :: st) h := Rnx (hB_208) (dX7_await_61) rfl
theorem v208_62 {d : Nat} {ls : LS3} {st : List MV} {h : Hp} {a : A3} {j : Int32} {x : Int32} (hS : (gS h a).1 = 2) (hj : inB j (gS h a).2) : Ev d 208 62 ls (vI x :: vI j :: vR a :: st) h = Ev d 208 63 ls st (sI h a j.toNatClampNeg x) := RastI hB_208 dX7_await_62 hS hj
theorem v208_63 {d : Nat} {st : List MV} {h : Hp} {x : Option A3} {a1 : Option MV} : Ev d 208 63 [some (vO x), a1] st h = Ev d 208 64 [some (vO x), a1] (vO x :: st) h := Rnx (hB_208) (dX7_await_63) rfl
theorem v208_64 {d : Nat} {ls : LS3} {st : List MV} {h : Hp} {v : MV} (hv : cat1 v = true) : Ev d 208 64 ls (v :: st) h = Ev d 208 65 ls (v :: v :: st) h := Rdup hB_208 dX7_await_64 hv
set_option maxRecDepth 100000 in
theorem v208_65 {d : Nat} {ls : LS3} {st : List MV} {h : Hp} {a : A3} (hS : gS h a = (1, 7)) : Ev d 208 65 ls (vR a :: st) h = Ev d 208 68 ls (vI (gI h a 20) :: st) h := Rget hB_208 dX7_await_65 rfl (Or.inl hS)
theorem v208_68 {d : Nat} {ls : LS3} {st : List MV} {h : Hp} : Ev d 208 68 ls st h = Ev d 208 69 ls (vI 1 :: st) h := Rnx (hB_208) (dX7_await_68) rfl
theorem v208_69 {d : Nat} {ls : LS3} {st : List MV} {h : Hp} {x y : Int32} : Ev d 208 69 ls (vI y :: vI x :: st) h = Ev d 208 70 ls (vI (x + y) :: st) h := Rnx (hB_208) (dX7_await_69) rfl
set_option maxRecDepth 100000 in
theorem v208_70 {d : Nat} {ls : LS3} {st : List MV} {h : Hp} {a : A3} {x : Int32} (hS : gS h a = (1, 7)) : Ev d 208 70 ls (vI x :: vR a :: st) h = Ev d 208 73 ls st (sI h a 20 x) := RputI hB_208 dX7_await_70 rfl rfl (by decide) hS (Or.inl rfl)
theorem v208_73 {d : Nat} {st : List MV} {h : Hp} {x : Option A3} {a1 : Option MV} : Ev d 208 73 [some (vO x), a1] st h = Ev d 208 74 [some (vO x), a1] (vO x :: st) h := Rnx (hB_208) (dX7_await_73) rfl
theorem v208_74 {d : Nat} {st : List MV} {h : Hp} {x : Int32} {a0 : Option MV} : Ev d 208 74 [a0, some (vI x)] st h = Ev d 208 75 [a0, some (vI x)] (vI x :: st) h := Rnx (hB_208) (dX7_await_74) rfl
set_option maxRecDepth 100000 in
theorem v208_75 {d : Nat} {ls : LS3} {st : List MV} {h : Hp} {a : A3} {x0 : Int32} (hS : gS h a = (1, 7)) (hc : catS st ≤ 8) : Ev (d + 1) 208 75 ls (vI x0 :: vR a :: st) h = Evk 181 (d + 1) 208 75 ls st (Ev d 181 0 [some (vR a), some (vI x0), none] [] h) := RcallO (idx := 205) (n := 1) (kd := 0) (As' := [vI x0]) hB_208 dX7_await_75 rfl rfl (by decide) rfl rfl (Or.inl hS) rfl hc
theorem v208_78 {d : Nat} {ls : LS3} {h : Hp} {x : Int32} : Ev d 208 78 ls [vI x] h = some (.inl (some (vI x)), h) := Rdn hB_208 dX7_await_78 rfl
theorem hB_209 : mB 209 = cX7_serve := rfl
theorem v209_0 {d : Nat} {st : List MV} {h : Hp} {x : Option A3} {a1 a2 a3 a4 a5 a6 : Option MV} : Ev d 209 0 [some (vO x), a1, a2, a3, a4, a5, a6] st h = Ev d 209 1 [some (vO x), a1, a2, a3, a4, a5, a6] (vO x :: st) h := Rnx (hB_209) (dX7_serve_0) rfl
theorem v209_1 {d : Nat} {ls : LS3} {st : List MV} {h : Hp} : Ev d 209 1 ls st h = Ev d 209 2 ls (vI 0 :: st) h := Rnx (hB_209) (dX7_serve_1) rfl
set_option maxRecDepth 100000 in
theorem v209_2 {d : Nat} {ls : LS3} {st : List MV} {h : Hp} {a : A3} {x : Int32} (hS : gS h a = (1, 7)) : Ev d 209 2 ls (vI x :: vR a :: st) h = Ev d 209 5 ls st (sI h a 0 x) := RputI hB_209 dX7_serve_2 rfl rfl (by decide) hS (Or.inl rfl)
theorem v209_5 {d : Nat} {st : List MV} {h : Hp} {x : Option A3} {a1 a2 a3 a4 a5 a6 : Option MV} : Ev d 209 5 [some (vO x), a1, a2, a3, a4, a5, a6] st h = Ev d 209 6 [some (vO x), a1, a2, a3, a4, a5, a6] (vO x :: st) h := Rnx (hB_209) (dX7_serve_5) rfl
set_option maxRecDepth 100000 in
theorem v209_6 {d : Nat} {ls : LS3} {st : List MV} {h : Hp} {a : A3}  (hS : gS h a = (1, 7)) (hc : catS st ≤ 8) : Ev (d + 1) 209 6 ls (vR a :: st) h = Evk 230 (d + 1) 209 6 ls st (Ev d 230 0 [some (vR a)] [] h) := RcallO (idx := 171) (n := 0) (kd := 0) (As' := []) hB_209 dX7_serve_6 rfl rfl (by decide) rfl rfl (Or.inl hS) rfl hc
theorem v209_9 {d : Nat} {ls : LS3} {st : List MV} {h : Hp} : Ev d 209 9 ls st h = Ev d 209 10 ls (vI 0 :: st) h := Rnx (hB_209) (dX7_serve_9) rfl
theorem v209_10 {d : Nat} {st : List MV} {h : Hp} {x : Int32} {a0 a1 a2 a3 a4 a5 a6 : Option MV} : Ev d 209 10 [a0, a1, a2, a3, a4, a5, a6] (vI x :: st) h = Ev d 209 11 [a0, some (vI x), a2, a3, a4, a5, a6] st h := Rnx (hB_209) (dX7_serve_10) rfl
theorem v209_11 {d : Nat} {ls : LS3} {st : List MV} {h : Hp} : Ev d 209 11 ls st h = Ev d 209 12 ls (vI 0 :: st) h := Rnx (hB_209) (dX7_serve_11) rfl
theorem v209_12 {d : Nat} {st : List MV} {h : Hp} {x : Int32} {a0 a1 a2 a3 a4 a5 a6 : Option MV} : Ev d 209 12 [a0, a1, a2, a3, a4, a5, a6] (vI x :: st) h = Ev d 209 13 [a0, a1, some (vI x), a3, a4, a5, a6] st h := Rnx (hB_209) (dX7_serve_12) rfl
theorem v209_13 {d : Nat} {st : List MV} {h : Hp} {x : Option A3} {a1 a2 a3 a4 a5 a6 : Option MV} : Ev d 209 13 [some (vO x), a1, a2, a3, a4, a5, a6] st h = Ev d 209 14 [some (vO x), a1, a2, a3, a4, a5, a6] (vO x :: st) h := Rnx (hB_209) (dX7_serve_13) rfl
set_option maxRecDepth 100000 in
theorem v209_14 {d : Nat} {ls : LS3} {st : List MV} {h : Hp} {a : A3} (hS : gS h a = (1, 7)) : Ev d 209 14 ls (vR a :: st) h = Ev d 209 17 ls (vI (gI h a 20) :: st) h := Rget hB_209 dX7_serve_14 rfl (Or.inl hS)
theorem v209_17 {d : Nat} {st : List MV} {h : Hp} {x : Int32} {a0 a1 a2 a3 a4 a5 a6 : Option MV} : Ev d 209 17 [a0, a1, a2, a3, a4, a5, a6] (vI x :: st) h = Ev d 209 18 [a0, a1, a2, some (vI x), a4, a5, a6] st h := Rnx (hB_209) (dX7_serve_17) rfl
theorem v209_18 {d : Nat} {ls : LS3} {st : List MV} {h : Hp} : Ev d 209 18 ls st h = Ev d 209 19 ls (vI 0 :: st) h := Rnx (hB_209) (dX7_serve_18) rfl
theorem v209_19 {d : Nat} {st : List MV} {h : Hp} {x : Int32} {a0 a1 a2 a3 a4 a5 a6 : Option MV} : Ev d 209 19 [a0, a1, a2, a3, a4, a5, a6] (vI x :: st) h = Ev d 209 21 [a0, a1, a2, a3, some (vI x), a5, a6] st h := Rnx (hB_209) (dX7_serve_19) rfl
theorem v209_21 {d : Nat} {st : List MV} {h : Hp} {x : Int32} {a0 a1 a2 a3 a5 a6 : Option MV} : Ev d 209 21 [a0, a1, a2, a3, some (vI x), a5, a6] st h = Ev d 209 23 [a0, a1, a2, a3, some (vI x), a5, a6] (vI x :: st) h := Rnx (hB_209) (dX7_serve_21) rfl
theorem v209_23 {d : Nat} {st : List MV} {h : Hp} {x : Int32} {a0 a1 a2 a4 a5 a6 : Option MV} : Ev d 209 23 [a0, a1, a2, some (vI x), a4, a5, a6] st h = Ev d 209 24 [a0, a1, a2, some (vI x), a4, a5, a6] (vI x :: st) h := Rnx (hB_209) (dX7_serve_23) rfl
theorem v209_24 {d : Nat} {ls : LS3} {st : List MV} {h : Hp} {x y : Int32} : Ev d 209 24 ls (vI y :: vI x :: st) h = if y ≤ x then Ev d 209 96 ls st h else Ev d 209 27 ls st h := Rif hB_209 dX7_serve_24 rfl
theorem v209_27 {d : Nat} {st : List MV} {h : Hp} {x : Option A3} {a1 a2 a3 a4 a5 a6 : Option MV} : Ev d 209 27 [some (vO x), a1, a2, a3, a4, a5, a6] st h = Ev d 209 28 [some (vO x), a1, a2, a3, a4, a5, a6] (vO x :: st) h := Rnx (hB_209) (dX7_serve_27) rfl
set_option maxRecDepth 100000 in
theorem v209_28 {d : Nat} {ls : LS3} {st : List MV} {h : Hp} {a : A3} (hS : gS h a = (1, 7)) : Ev d 209 28 ls (vR a :: st) h = Ev d 209 31 ls (vO (gR h a 18) :: st) h := Rget hB_209 dX7_serve_28 rfl (Or.inl hS)
theorem v209_31 {d : Nat} {st : List MV} {h : Hp} {x : Int32} {a0 a1 a2 a3 a5 a6 : Option MV} : Ev d 209 31 [a0, a1, a2, a3, some (vI x), a5, a6] st h = Ev d 209 33 [a0, a1, a2, a3, some (vI x), a5, a6] (vI x :: st) h := Rnx (hB_209) (dX7_serve_31) rfl
theorem v209_33 {d : Nat} {ls : LS3} {st : List MV} {h : Hp} {a : A3} {j : Int32} (hS : (gS h a).1 ∈ [2, 9]) (hj : inB j (gS h a).2) : Ev d 209 33 ls (vI j :: vR a :: st) h = Ev d 209 34 ls (vI (gI h a j.toNatClampNeg) :: st) h := Rald (ks := [2, 9]) (f := fun a j => vI (gI h a j)) hB_209 dX7_serve_33 rfl hS hj
theorem v209_34 {d : Nat} {st : List MV} {h : Hp} {x : Int32} {a0 a1 a2 a3 a4 a5 a6 : Option MV} : Ev d 209 34 [a0, a1, a2, a3, a4, a5, a6] (vI x :: st) h = Ev d 209 36 [a0, a1, a2, a3, a4, some (vI x), a6] st h := Rnx (hB_209) (dX7_serve_34) rfl
theorem v209_36 {d : Nat} {st : List MV} {h : Hp} {x : Option A3} {a1 a2 a3 a4 a5 a6 : Option MV} : Ev d 209 36 [some (vO x), a1, a2, a3, a4, a5, a6] st h = Ev d 209 37 [some (vO x), a1, a2, a3, a4, a5, a6] (vO x :: st) h := Rnx (hB_209) (dX7_serve_36) rfl
theorem v209_37 {d : Nat} {st : List MV} {h : Hp} {x : Int32} {a0 a1 a2 a3 a4 a6 : Option MV} : Ev d 209 37 [a0, a1, a2, a3, a4, some (vI x), a6] st h = Ev d 209 39 [a0, a1, a2, a3, a4, some (vI x), a6] (vI x :: st) h := Rnx (hB_209) (dX7_serve_37) rfl
set_option maxRecDepth 100000 in
theorem v209_39 {d : Nat} {ls : LS3} {st : List MV} {h : Hp} {a : A3} {x0 : Int32} (hS : gS h a = (1, 7)) (hc : catS st ≤ 8) : Ev (d + 1) 209 39 ls (vI x0 :: vR a :: st) h = Evk 166 (d + 1) 209 39 ls st (Ev d 166 0 [some (vR a), some (vI x0), none, none] [] h) := RcallO (idx := 236) (n := 1) (kd := 0) (As' := [vI x0]) hB_209 dX7_serve_39 rfl rfl (by decide) rfl rfl (Or.inl hS) rfl hc
theorem v209_42 {d : Nat} {st : List MV} {h : Hp} {x : Int32} {a0 a1 a2 a3 a4 a5 a6 : Option MV} : Ev d 209 42 [a0, a1, a2, a3, a4, a5, a6] (vI x :: st) h = Ev d 209 44 [a0, a1, a2, a3, a4, a5, some (vI x)] st h := Rnx (hB_209) (dX7_serve_42) rfl
theorem v209_44 {d : Nat} {st : List MV} {h : Hp} {x : Int32} {a0 a1 a2 a3 a4 a5 : Option MV} : Ev d 209 44 [a0, a1, a2, a3, a4, a5, some (vI x)] st h = Ev d 209 46 [a0, a1, a2, a3, a4, a5, some (vI x)] (vI x :: st) h := Rnx (hB_209) (dX7_serve_44) rfl
theorem v209_46 {d : Nat} {ls : LS3} {st : List MV} {h : Hp} {x : Int32} : Ev d 209 46 ls (vI x :: st) h = if x < 0 then Ev d 209 79 ls st h else Ev d 209 49 ls st h := Rif hB_209 dX7_serve_46 rfl
theorem v209_49 {d : Nat} {st : List MV} {h : Hp} {x : Option A3} {a1 a2 a3 a4 a5 a6 : Option MV} : Ev d 209 49 [some (vO x), a1, a2, a3, a4, a5, a6] st h = Ev d 209 50 [some (vO x), a1, a2, a3, a4, a5, a6] (vO x :: st) h := Rnx (hB_209) (dX7_serve_49) rfl
theorem v209_50 {d : Nat} {st : List MV} {h : Hp} {x : Int32} {a0 a1 a2 a3 a4 a6 : Option MV} : Ev d 209 50 [a0, a1, a2, a3, a4, some (vI x), a6] st h = Ev d 209 52 [a0, a1, a2, a3, a4, some (vI x), a6] (vI x :: st) h := Rnx (hB_209) (dX7_serve_50) rfl
theorem v209_52 {d : Nat} {st : List MV} {h : Hp} {x : Int32} {a0 a1 a2 a3 a4 a5 : Option MV} : Ev d 209 52 [a0, a1, a2, a3, a4, a5, some (vI x)] st h = Ev d 209 54 [a0, a1, a2, a3, a4, a5, some (vI x)] (vI x :: st) h := Rnx (hB_209) (dX7_serve_52) rfl
theorem v209_54 {d : Nat} {ls : LS3} {st : List MV} {h : Hp} : Ev d 209 54 ls st h = Ev d 209 56 ls (vI 10 :: st) h := Rnx (hB_209) (dX7_serve_54) rfl
theorem v209_56 {d : Nat} {ls : LS3} {st : List MV} {h : Hp} {x y : Int32} (hy : y ≠ 0) : Ev d 209 56 ls (vI y :: vI x :: st) h = Ev d 209 57 ls (vI (x - x / y * y) :: st) h := Rrem hB_209 dX7_serve_56 hy
theorem v209_57 {d : Nat} {st : List MV} {h : Hp} {x : Int32} {a0 a1 a2 a3 a4 a5 : Option MV} : Ev d 209 57 [a0, a1, a2, a3, a4, a5, some (vI x)] st h = Ev d 209 59 [a0, a1, a2, a3, a4, a5, some (vI x)] (vI x :: st) h := Rnx (hB_209) (dX7_serve_57) rfl
theorem v209_59 {d : Nat} {ls : LS3} {st : List MV} {h : Hp} : Ev d 209 59 ls st h = Ev d 209 61 ls (vI 100 :: st) h := Rnx (hB_209) (dX7_serve_59) rfl
theorem v209_61 {d : Nat} {ls : LS3} {st : List MV} {h : Hp} {x y : Int32} (hy : y ≠ 0) : Ev d 209 61 ls (vI y :: vI x :: st) h = Ev d 209 62 ls (vI (x / y) :: st) h := Rdiv hB_209 dX7_serve_61 hy
theorem v209_62 {d : Nat} {st : List MV} {h : Hp} {x : Int32} {a0 a1 a2 a3 a4 a5 : Option MV} : Ev d 209 62 [a0, a1, a2, a3, a4, a5, some (vI x)] st h = Ev d 209 64 [a0, a1, a2, a3, a4, a5, some (vI x)] (vI x :: st) h := Rnx (hB_209) (dX7_serve_62) rfl
theorem v209_64 {d : Nat} {ls : LS3} {st : List MV} {h : Hp} : Ev d 209 64 ls st h = Ev d 209 66 ls (vI 10 :: st) h := Rnx (hB_209) (dX7_serve_64) rfl
theorem v209_66 {d : Nat} {ls : LS3} {st : List MV} {h : Hp} {x y : Int32} (hy : y ≠ 0) : Ev d 209 66 ls (vI y :: vI x :: st) h = Ev d 209 67 ls (vI (x / y) :: st) h := Rdiv hB_209 dX7_serve_66 hy
theorem v209_67 {d : Nat} {ls : LS3} {st : List MV} {h : Hp} : Ev d 209 67 ls st h = Ev d 209 69 ls (vI 10 :: st) h := Rnx (hB_209) (dX7_serve_67) rfl
theorem v209_69 {d : Nat} {ls : LS3} {st : List MV} {h : Hp} {x y : Int32} (hy : y ≠ 0) : Ev d 209 69 ls (vI y :: vI x :: st) h = Ev d 209 70 ls (vI (x - x / y * y) :: st) h := Rrem hB_209 dX7_serve_69 hy
set_option maxRecDepth 100000 in
theorem v209_70 {d : Nat} {ls : LS3} {st : List MV} {h : Hp} {a : A3} {x0 : Int32} {x1 : Int32} {x2 : Int32} {x3 : Int32} (hS : gS h a = (1, 7)) (hc : catS st ≤ 8) : Ev (d + 1) 209 70 ls (vI x3 :: vI x2 :: vI x1 :: vI x0 :: vR a :: st) h = Evk 165 (d + 1) 209 70 ls st (Ev d 165 0 [some (vR a), some (vI x0), some (vI x1), some (vI x2), some (vI x3)] [] h) := RcallO (idx := 232) (n := 4) (kd := 0) (As' := [vI x0, vI x1, vI x2, vI x3]) hB_209 dX7_serve_70 rfl rfl (by decide) rfl rfl (Or.inl hS) rfl hc
theorem v209_73 {d : Nat} {st : List MV} {h : Hp} {x : Int32} {a0 a2 a3 a4 a5 a6 : Option MV} : Ev d 209 73 [a0, some (vI x), a2, a3, a4, a5, a6] st h = Ev d 209 76 [a0, some (vI (x + 1)), a2, a3, a4, a5, a6] st h := Rnx (hB_209) (dX7_serve_73) rfl
theorem v209_76 {d : Nat} {ls : LS3} {st : List MV} {h : Hp} : Ev d 209 76 ls st h = Ev d 209 90 ls st h := Rnx (hB_209) (dX7_serve_76) rfl
theorem v209_79 {d : Nat} {st : List MV} {h : Hp} {x : Option A3} {a1 a2 a3 a4 a5 a6 : Option MV} : Ev d 209 79 [some (vO x), a1, a2, a3, a4, a5, a6] st h = Ev d 209 80 [some (vO x), a1, a2, a3, a4, a5, a6] (vO x :: st) h := Rnx (hB_209) (dX7_serve_79) rfl
set_option maxRecDepth 100000 in
theorem v209_80 {d : Nat} {ls : LS3} {st : List MV} {h : Hp} {a : A3} (hS : gS h a = (1, 7)) : Ev d 209 80 ls (vR a :: st) h = Ev d 209 83 ls (vO (gR h a 18) :: st) h := Rget hB_209 dX7_serve_80 rfl (Or.inl hS)
theorem v209_83 {d : Nat} {st : List MV} {h : Hp} {x : Int32} {a0 a1 a3 a4 a5 a6 : Option MV} : Ev d 209 83 [a0, a1, some (vI x), a3, a4, a5, a6] st h = Ev d 209 84 [a0, a1, some (vI x), a3, a4, a5, a6] (vI x :: st) h := Rnx (hB_209) (dX7_serve_83) rfl
theorem v209_84 {d : Nat} {st : List MV} {h : Hp} {x : Int32} {a0 a1 a2 a3 a4 a6 : Option MV} : Ev d 209 84 [a0, a1, a2, a3, a4, some (vI x), a6] st h = Ev d 209 86 [a0, a1, a2, a3, a4, some (vI x), a6] (vI x :: st) h := Rnx (hB_209) (dX7_serve_84) rfl
theorem v209_86 {d : Nat} {ls : LS3} {st : List MV} {h : Hp} {a : A3} {j : Int32} {x : Int32} (hS : (gS h a).1 = 2) (hj : inB j (gS h a).2) : Ev d 209 86 ls (vI x :: vI j :: vR a :: st) h = Ev d 209 87 ls st (sI h a j.toNatClampNeg x) := RastI hB_209 dX7_serve_86 hS hj
theorem v209_87 {d : Nat} {st : List MV} {h : Hp} {x : Int32} {a0 a1 a3 a4 a5 a6 : Option MV} : Ev d 209 87 [a0, a1, some (vI x), a3, a4, a5, a6] st h = Ev d 209 90 [a0, a1, some (vI (x + 1)), a3, a4, a5, a6] st h := Rnx (hB_209) (dX7_serve_87) rfl
theorem v209_90 {d : Nat} {st : List MV} {h : Hp} {x : Int32} {a0 a1 a2 a3 a5 a6 : Option MV} : Ev d 209 90 [a0, a1, a2, a3, some (vI x), a5, a6] st h = Ev d 209 93 [a0, a1, a2, a3, some (vI (x + 1)), a5, a6] st h := Rnx (hB_209) (dX7_serve_90) rfl
theorem v209_93 {d : Nat} {ls : LS3} {st : List MV} {h : Hp} : Ev d 209 93 ls st h = Ev d 209 21 ls st h := Rnx (hB_209) (dX7_serve_93) rfl
theorem v209_96 {d : Nat} {st : List MV} {h : Hp} {x : Option A3} {a1 a2 a3 a4 a5 a6 : Option MV} : Ev d 209 96 [some (vO x), a1, a2, a3, a4, a5, a6] st h = Ev d 209 97 [some (vO x), a1, a2, a3, a4, a5, a6] (vO x :: st) h := Rnx (hB_209) (dX7_serve_96) rfl
theorem v209_97 {d : Nat} {st : List MV} {h : Hp} {x : Int32} {a0 a1 a3 a4 a5 a6 : Option MV} : Ev d 209 97 [a0, a1, some (vI x), a3, a4, a5, a6] st h = Ev d 209 98 [a0, a1, some (vI x), a3, a4, a5, a6] (vI x :: st) h := Rnx (hB_209) (dX7_serve_97) rfl
set_option maxRecDepth 100000 in
theorem v209_98 {d : Nat} {ls : LS3} {st : List MV} {h : Hp} {a : A3} {x : Int32} (hS : gS h a = (1, 7)) : Ev d 209 98 ls (vI x :: vR a :: st) h = Ev d 209 101 ls st (sI h a 20 x) := RputI hB_209 dX7_serve_98 rfl rfl (by decide) hS (Or.inl rfl)
theorem v209_101 {d : Nat} {st : List MV} {h : Hp} {x : Int32} {a0 a2 a3 a4 a5 a6 : Option MV} : Ev d 209 101 [a0, some (vI x), a2, a3, a4, a5, a6] st h = Ev d 209 102 [a0, some (vI x), a2, a3, a4, a5, a6] (vI x :: st) h := Rnx (hB_209) (dX7_serve_101) rfl
theorem v209_102 {d : Nat} {ls : LS3} {h : Hp} {x : Int32} : Ev d 209 102 ls [vI x] h = some (.inl (some (vI x)), h) := Rdn hB_209 dX7_serve_102 rfl
theorem hB_210 : mB 210 = cX7_waiting := rfl
theorem v210_0 {d : Nat} {st : List MV} {h : Hp} {x : Int32} {a0 : Option MV} : Ev d 210 0 [a0, some (vI x)] st h = Ev d 210 1 [a0, some (vI x)] (vI x :: st) h := Rnx (hB_210) (dX7_waiting_0) rfl
theorem v210_1 {d : Nat} {ls : LS3} {st : List MV} {h : Hp} : Ev d 210 1 ls st h = Ev d 210 2 ls (vI 0 :: st) h := Rnx (hB_210) (dX7_waiting_1) rfl
theorem v210_2 {d : Nat} {st : List MV} {h : Hp} {x : Option A3} {a1 : Option MV} : Ev d 210 2 [some (vO x), a1] st h = Ev d 210 3 [some (vO x), a1] (vO x :: st) h := Rnx (hB_210) (dX7_waiting_2) rfl
set_option maxRecDepth 100000 in
theorem v210_3 {d : Nat} {ls : LS3} {st : List MV} {h : Hp} {a : A3} (hS : gS h a = (1, 7)) : Ev d 210 3 ls (vR a :: st) h = Ev d 210 6 ls (vI (gI h a 20) :: st) h := Rget hB_210 dX7_waiting_3 rfl (Or.inl hS)
theorem v210_6 {d : Nat} {ls : LS3} {st : List MV} {h : Hp} : Ev d 210 6 ls st h = Ev d 210 7 ls (vI 1 :: st) h := Rnx (hB_210) (dX7_waiting_6) rfl
theorem v210_7 {d : Nat} {ls : LS3} {st : List MV} {h : Hp} {x y : Int32} : Ev d 210 7 ls (vI y :: vI x :: st) h = Ev d 210 8 ls (vI (x - y) :: st) h := Rnx (hB_210) (dX7_waiting_7) rfl
set_option maxRecDepth 100000 in
theorem v210_8 {d : Nat} {ls : LS3} {st : List MV} {h : Hp} {x0 : Int32} {x1 : Int32} {x2 : Int32} (hc : catS st ≤ 8) : Ev (d + 1) 210 8 ls (vI x2 :: vI x1 :: vI x0 :: st) h = Evk 143 (d + 1) 210 8 ls st (Ev d 143 0 [some (vI x0), some (vI x1), some (vI x2)] [] h) := RcallS (idx := 87) (n := 3) (kd := 1) (As := [vI x0, vI x1, vI x2]) hB_210 dX7_waiting_8 rfl rfl (by decide) rfl rfl rfl hc
theorem v210_11 {d : Nat} {ls : LS3} {st : List MV} {h : Hp} {x : Int32} : Ev d 210 11 ls (vI x :: st) h = if x = 0 then Ev d 210 14 ls st h else Ev d 210 20 ls st h := Rifn hB_210 dX7_waiting_11 rfl
theorem v210_14 {d : Nat} {st : List MV} {h : Hp} {x : Option A3} {a1 : Option MV} : Ev d 210 14 [some (vO x), a1] st h = Ev d 210 15 [some (vO x), a1] (vO x :: st) h := Rnx (hB_210) (dX7_waiting_14) rfl
theorem v210_15 {d : Nat} {ls : LS3} {st : List MV} {h : Hp} : Ev d 210 15 ls st h = Ev d 210 16 ls (vI 1 :: st) h := Rnx (hB_210) (dX7_waiting_15) rfl
set_option maxRecDepth 100000 in
theorem v210_16 {d : Nat} {ls : LS3} {st : List MV} {h : Hp} {a : A3} {x0 : Int32} (hS : gS h a = (1, 7)) (hc : catS st ≤ 8) : Ev (d + 1) 210 16 ls (vI x0 :: vR a :: st) h = Evk 141 (d + 1) 210 16 ls st (Ev d 141 0 [some (vR a), some (vI x0)] [] h) := RcallO (idx := 168) (n := 1) (kd := 0) (As' := [vI x0]) hB_210 dX7_waiting_16 rfl rfl (by decide) rfl rfl (Or.inl hS) rfl hc
theorem v210_19 {d : Nat} {ls : LS3} {h : Hp} {x : Int32} : Ev d 210 19 ls [vI x] h = some (.inl (some (vI x)), h) := Rdn hB_210 dX7_waiting_19 rfl
theorem v210_20 {d : Nat} {st : List MV} {h : Hp} {x : Option A3} {a1 : Option MV} : Ev d 210 20 [some (vO x), a1] st h = Ev d 210 21 [some (vO x), a1] (vO x :: st) h := Rnx (hB_210) (dX7_waiting_20) rfl
theorem v210_21 {d : Nat} {ls : LS3} {st : List MV} {h : Hp} : Ev d 210 21 ls st h = Ev d 210 22 ls (vI 0 :: st) h := Rnx (hB_210) (dX7_waiting_21) rfl
set_option maxRecDepth 100000 in
theorem v210_22 {d : Nat} {ls : LS3} {st : List MV} {h : Hp} {a : A3} {x : Int32} (hS : gS h a = (1, 7)) : Ev d 210 22 ls (vI x :: vR a :: st) h = Ev d 210 25 ls st (sI h a 0 x) := RputI hB_210 dX7_waiting_22 rfl rfl (by decide) hS (Or.inl rfl)
theorem v210_25 {d : Nat} {st : List MV} {h : Hp} {x : Option A3} {a1 : Option MV} : Ev d 210 25 [some (vO x), a1] st h = Ev d 210 26 [some (vO x), a1] (vO x :: st) h := Rnx (hB_210) (dX7_waiting_25) rfl
set_option maxRecDepth 100000 in
theorem v210_26 {d : Nat} {ls : LS3} {st : List MV} {h : Hp} {a : A3} (hS : gS h a = (1, 7)) : Ev d 210 26 ls (vR a :: st) h = Ev d 210 29 ls (vO (gR h a 18) :: st) h := Rget hB_210 dX7_waiting_26 rfl (Or.inl hS)
theorem v210_29 {d : Nat} {st : List MV} {h : Hp} {x : Int32} {a0 : Option MV} : Ev d 210 29 [a0, some (vI x)] st h = Ev d 210 30 [a0, some (vI x)] (vI x :: st) h := Rnx (hB_210) (dX7_waiting_29) rfl
theorem v210_30 {d : Nat} {ls : LS3} {st : List MV} {h : Hp} {a : A3} {j : Int32} (hS : (gS h a).1 ∈ [2, 9]) (hj : inB j (gS h a).2) : Ev d 210 30 ls (vI j :: vR a :: st) h = Ev d 210 31 ls (vI (gI h a j.toNatClampNeg) :: st) h := Rald (ks := [2, 9]) (f := fun a j => vI (gI h a j)) hB_210 dX7_waiting_30 rfl hS hj
theorem v210_31 {d : Nat} {ls : LS3} {h : Hp} {x : Int32} : Ev d 210 31 ls [vI x] h = some (.inl (some (vI x)), h) := Rdn hB_210 dX7_waiting_31 rfl
theorem hB_211 : mB 211 = cX7_passes := rfl
theorem v211_0 {d : Nat} {ls : LS3} {st : List MV} {h : Hp} : Ev d 211 0 ls st h = Ev d 211 1 ls (vI 0 :: st) h := Rnx (hB_211) (dX7_passes_0) rfl
theorem v211_1 {d : Nat} {st : List MV} {h : Hp} {x : Int32} {a0 a1 a2 a3 a4 : Option MV} : Ev d 211 1 [a0, a1, a2, a3, a4] (vI x :: st) h = Ev d 211 2 [a0, a1, some (vI x), a3, a4] st h := Rnx (hB_211) (dX7_passes_1) rfl
theorem v211_2 {d : Nat} {ls : LS3} {st : List MV} {h : Hp} : Ev d 211 2 ls st h = Ev d 211 3 ls (vI 0 :: st) h := Rnx (hB_211) (dX7_passes_2) rfl
theorem v211_3 {d : Nat} {st : List MV} {h : Hp} {x : Int32} {a0 a1 a2 a3 a4 : Option MV} : Ev d 211 3 [a0, a1, a2, a3, a4] (vI x :: st) h = Ev d 211 4 [a0, a1, a2, some (vI x), a4] st h := Rnx (hB_211) (dX7_passes_3) rfl
theorem v211_4 {d : Nat} {st : List MV} {h : Hp} {x : Int32} {a0 a1 a2 a4 : Option MV} : Ev d 211 4 [a0, a1, a2, some (vI x), a4] st h = Ev d 211 5 [a0, a1, a2, some (vI x), a4] (vI x :: st) h := Rnx (hB_211) (dX7_passes_4) rfl
theorem v211_5 {d : Nat} {st : List MV} {h : Hp} {x : Int32} {a0 a2 a3 a4 : Option MV} : Ev d 211 5 [a0, some (vI x), a2, a3, a4] st h = Ev d 211 6 [a0, some (vI x), a2, a3, a4] (vI x :: st) h := Rnx (hB_211) (dX7_passes_5) rfl
theorem v211_6 {d : Nat} {ls : LS3} {st : List MV} {h : Hp} {x y : Int32} : Ev d 211 6 ls (vI y :: vI x :: st) h = if y ≤ x then Ev d 211 77 ls st h else Ev d 211 9 ls st h := Rif hB_211 dX7_passes_6 rfl
theorem v211_9 {d : Nat} {st : List MV} {h : Hp} {x : Option A3} {a1 a2 a3 a4 : Option MV} : Ev d 211 9 [some (vO x), a1, a2, a3, a4] st h = Ev d 211 10 [some (vO x), a1, a2, a3, a4] (vO x :: st) h := Rnx (hB_211) (dX7_passes_9) rfl
theorem v211_10 {d : Nat} {ls : LS3} {st : List MV} {h : Hp} {v : MV} (hv : cat1 v = true) : Ev d 211 10 ls (v :: st) h = Ev d 211 11 ls (v :: v :: st) h := Rdup hB_211 dX7_passes_10 hv
set_option maxRecDepth 100000 in
theorem v211_11 {d : Nat} {ls : LS3} {st : List MV} {h : Hp} {a : A3} (hS : gS h a = (1, 7)) : Ev d 211 11 ls (vR a :: st) h = Ev d 211 14 ls (vI (gI h a 8) :: st) h := Rget hB_211 dX7_passes_11 rfl (Or.inl hS)
theorem v211_14 {d : Nat} {ls : LS3} {st : List MV} {h : Hp} : Ev d 211 14 ls st h = Ev d 211 15 ls (vI 1 :: st) h := Rnx (hB_211) (dX7_passes_14) rfl
theorem v211_15 {d : Nat} {ls : LS3} {st : List MV} {h : Hp} {x y : Int32} : Ev d 211 15 ls (vI y :: vI x :: st) h = Ev d 211 16 ls (vI (x + y) :: st) h := Rnx (hB_211) (dX7_passes_15) rfl
set_option maxRecDepth 100000 in
theorem v211_16 {d : Nat} {ls : LS3} {st : List MV} {h : Hp} {a : A3} {x : Int32} (hS : gS h a = (1, 7)) : Ev d 211 16 ls (vI x :: vR a :: st) h = Ev d 211 19 ls st (sI h a 8 x) := RputI hB_211 dX7_passes_16 rfl rfl (by decide) hS (Or.inl rfl)
theorem v211_19 {d : Nat} {ls : LS3} {st : List MV} {h : Hp} : Ev d 211 19 ls st h = Ev d 211 20 ls (vI 0 :: st) h := Rnx (hB_211) (dX7_passes_19) rfl
theorem v211_20 {d : Nat} {st : List MV} {h : Hp} {x : Int32} {a0 a1 a2 a3 a4 : Option MV} : Ev d 211 20 [a0, a1, a2, a3, a4] (vI x :: st) h = Ev d 211 22 [a0, a1, a2, a3, some (vI x)] st h := Rnx (hB_211) (dX7_passes_20) rfl
theorem v211_22 {d : Nat} {st : List MV} {h : Hp} {x : Int32} {a0 a1 a2 a3 : Option MV} : Ev d 211 22 [a0, a1, a2, a3, some (vI x)] st h = Ev d 211 24 [a0, a1, a2, a3, some (vI x)] (vI x :: st) h := Rnx (hB_211) (dX7_passes_22) rfl
theorem v211_24 {d : Nat} {st : List MV} {h : Hp} {x : Option A3} {a1 a2 a3 a4 : Option MV} : Ev d 211 24 [some (vO x), a1, a2, a3, a4] st h = Ev d 211 25 [some (vO x), a1, a2, a3, a4] (vO x :: st) h := Rnx (hB_211) (dX7_passes_24) rfl
set_option maxRecDepth 100000 in
theorem v211_25 {d : Nat} {ls : LS3} {st : List MV} {h : Hp} {a : A3} (hS : gS h a = (1, 7)) : Ev d 211 25 ls (vR a :: st) h = Ev d 211 28 ls (vI (gI h a 19) :: st) h := Rget hB_211 dX7_passes_25 rfl (Or.inl hS)
theorem v211_28 {d : Nat} {ls : LS3} {st : List MV} {h : Hp} {x y : Int32} : Ev d 211 28 ls (vI y :: vI x :: st) h = if y ≤ x then Ev d 211 71 ls st h else Ev d 211 31 ls st h := Rif hB_211 dX7_passes_28 rfl
theorem v211_31 {d : Nat} {st : List MV} {h : Hp} {x : Option A3} {a1 a2 a3 a4 : Option MV} : Ev d 211 31 [some (vO x), a1, a2, a3, a4] st h = Ev d 211 32 [some (vO x), a1, a2, a3, a4] (vO x :: st) h := Rnx (hB_211) (dX7_passes_31) rfl
theorem v211_32 {d : Nat} {st : List MV} {h : Hp} {x : Int32} {a0 a1 a2 a3 : Option MV} : Ev d 211 32 [a0, a1, a2, a3, some (vI x)] st h = Ev d 211 34 [a0, a1, a2, a3, some (vI x)] (vI x :: st) h := Rnx (hB_211) (dX7_passes_32) rfl
set_option maxRecDepth 100000 in
theorem v211_34 {d : Nat} {ls : LS3} {st : List MV} {h : Hp} {a : A3} {x0 : Int32} (hS : gS h a = (1, 7)) (hc : catS st ≤ 8) : Ev (d + 1) 211 34 ls (vI x0 :: vR a :: st) h = Evk 204 (d + 1) 211 34 ls st (Ev d 204 0 [some (vR a), some (vI x0)] [] h) := RcallO (idx := 242) (n := 1) (kd := 0) (As' := [vI x0]) hB_211 dX7_passes_34 rfl rfl (by decide) rfl rfl (Or.inl hS) rfl hc
theorem v211_37 {d : Nat} {ls : LS3} {st : List MV} {h : Hp} {x : Int32} : Ev d 211 37 ls (vI x :: st) h = if x = 0 then Ev d 211 65 ls st h else Ev d 211 40 ls st h := Rif hB_211 dX7_passes_37 rfl
theorem v211_40 {d : Nat} {st : List MV} {h : Hp} {x : Option A3} {a1 a2 a3 a4 : Option MV} : Ev d 211 40 [some (vO x), a1, a2, a3, a4] st h = Ev d 211 41 [some (vO x), a1, a2, a3, a4] (vO x :: st) h := Rnx (hB_211) (dX7_passes_40) rfl
theorem v211_41 {d : Nat} {st : List MV} {h : Hp} {x : Int32} {a0 a1 a2 a3 : Option MV} : Ev d 211 41 [a0, a1, a2, a3, some (vI x)] st h = Ev d 211 43 [a0, a1, a2, a3, some (vI x)] (vI x :: st) h := Rnx (hB_211) (dX7_passes_41) rfl
set_option maxRecDepth 100000 in
theorem v211_43 {d : Nat} {ls : LS3} {st : List MV} {h : Hp} {a : A3} {x0 : Int32} (hS : gS h a = (1, 7)) (hc : catS st ≤ 8) : Ev (d + 1) 211 43 ls (vI x0 :: vR a :: st) h = Evk 205 (d + 1) 211 43 ls st (Ev d 205 0 [some (vR a), some (vI x0)] [] h) := RcallO (idx := 245) (n := 1) (kd := 0) (As' := [vI x0]) hB_211 dX7_passes_43 rfl rfl (by decide) rfl rfl (Or.inl hS) rfl hc
theorem v211_46 {d : Nat} {st : List MV} {h : Hp} {x : Option A3} {a1 a2 a3 a4 : Option MV} : Ev d 211 46 [some (vO x), a1, a2, a3, a4] st h = Ev d 211 47 [some (vO x), a1, a2, a3, a4] (vO x :: st) h := Rnx (hB_211) (dX7_passes_46) rfl
set_option maxRecDepth 100000 in
theorem v211_47 {d : Nat} {ls : LS3} {st : List MV} {h : Hp} {a : A3} (hS : gS h a = (1, 7)) : Ev d 211 47 ls (vR a :: st) h = Ev d 211 50 ls (vI (gI h a 8) :: st) h := Rget hB_211 dX7_passes_47 rfl (Or.inl hS)
theorem v211_50 {d : Nat} {ls : LS3} {st : List MV} {h : Hp} {x y : Int32} : Ev d 211 50 ls (vI y :: vI x :: st) h = if x < y then Ev d 211 56 ls st h else Ev d 211 53 ls st h := Rif hB_211 dX7_passes_50 rfl
theorem v211_53 {d : Nat} {ls : LS3} {st : List MV} {h : Hp} : Ev d 211 53 ls st h = Ev d 211 65 ls st h := Rnx (hB_211) (dX7_passes_53) rfl
theorem v211_56 {d : Nat} {st : List MV} {h : Hp} {x : Option A3} {a1 a2 a3 a4 : Option MV} : Ev d 211 56 [some (vO x), a1, a2, a3, a4] st h = Ev d 211 57 [some (vO x), a1, a2, a3, a4] (vO x :: st) h := Rnx (hB_211) (dX7_passes_56) rfl
theorem v211_57 {d : Nat} {st : List MV} {h : Hp} {x : Int32} {a0 a1 a2 a3 : Option MV} : Ev d 211 57 [a0, a1, a2, a3, some (vI x)] st h = Ev d 211 59 [a0, a1, a2, a3, some (vI x)] (vI x :: st) h := Rnx (hB_211) (dX7_passes_57) rfl
set_option maxRecDepth 100000 in
theorem v211_59 {d : Nat} {ls : LS3} {st : List MV} {h : Hp} {a : A3} {x0 : Int32} (hS : gS h a = (1, 7)) (hc : catS st ≤ 8) : Ev (d + 1) 211 59 ls (vI x0 :: vR a :: st) h = Evk 161 (d + 1) 211 59 ls st (Ev d 161 0 [some (vR a), some (vI x0)] [] h) := RcallO (idx := 142) (n := 1) (kd := 0) (As' := [vI x0]) hB_211 dX7_passes_59 rfl rfl (by decide) rfl rfl (Or.inl hS) rfl hc
theorem v211_62 {d : Nat} {st : List MV} {h : Hp} {x : Int32} {a0 a1 a3 a4 : Option MV} : Ev d 211 62 [a0, a1, some (vI x), a3, a4] st h = Ev d 211 65 [a0, a1, some (vI (x + 1)), a3, a4] st h := Rnx (hB_211) (dX7_passes_62) rfl
theorem v211_65 {d : Nat} {st : List MV} {h : Hp} {x : Int32} {a0 a1 a2 a3 : Option MV} : Ev d 211 65 [a0, a1, a2, a3, some (vI x)] st h = Ev d 211 68 [a0, a1, a2, a3, some (vI (x + 1))] st h := Rnx (hB_211) (dX7_passes_65) rfl
theorem v211_68 {d : Nat} {ls : LS3} {st : List MV} {h : Hp} : Ev d 211 68 ls st h = Ev d 211 22 ls st h := Rnx (hB_211) (dX7_passes_68) rfl
theorem v211_71 {d : Nat} {st : List MV} {h : Hp} {x : Int32} {a0 a1 a2 a4 : Option MV} : Ev d 211 71 [a0, a1, a2, some (vI x), a4] st h = Ev d 211 74 [a0, a1, a2, some (vI (x + 1)), a4] st h := Rnx (hB_211) (dX7_passes_71) rfl
theorem v211_74 {d : Nat} {ls : LS3} {st : List MV} {h : Hp} : Ev d 211 74 ls st h = Ev d 211 4 ls st h := Rnx (hB_211) (dX7_passes_74) rfl
theorem v211_77 {d : Nat} {st : List MV} {h : Hp} {x : Option A3} {a1 a2 a3 a4 : Option MV} : Ev d 211 77 [some (vO x), a1, a2, a3, a4] st h = Ev d 211 78 [some (vO x), a1, a2, a3, a4] (vO x :: st) h := Rnx (hB_211) (dX7_passes_77) rfl
theorem v211_78 {d : Nat} {ls : LS3} {st : List MV} {h : Hp} {v : MV} (hv : cat1 v = true) : Ev d 211 78 ls (v :: st) h = Ev d 211 79 ls (v :: v :: st) h := Rdup hB_211 dX7_passes_78 hv
set_option maxRecDepth 100000 in
theorem v211_79 {d : Nat} {ls : LS3} {st : List MV} {h : Hp} {a : A3} (hS : gS h a = (1, 7)) : Ev d 211 79 ls (vR a :: st) h = Ev d 211 82 ls (vI (gI h a 21) :: st) h := Rget hB_211 dX7_passes_79 rfl (Or.inl hS)
theorem v211_82 {d : Nat} {st : List MV} {h : Hp} {x : Int32} {a0 a1 a3 a4 : Option MV} : Ev d 211 82 [a0, a1, some (vI x), a3, a4] st h = Ev d 211 83 [a0, a1, some (vI x), a3, a4] (vI x :: st) h := Rnx (hB_211) (dX7_passes_82) rfl
theorem v211_83 {d : Nat} {ls : LS3} {st : List MV} {h : Hp} {x y : Int32} : Ev d 211 83 ls (vI y :: vI x :: st) h = Ev d 211 84 ls (vI (x + y) :: st) h := Rnx (hB_211) (dX7_passes_83) rfl
set_option maxRecDepth 100000 in
theorem v211_84 {d : Nat} {ls : LS3} {st : List MV} {h : Hp} {a : A3} {x : Int32} (hS : gS h a = (1, 7)) : Ev d 211 84 ls (vI x :: vR a :: st) h = Ev d 211 87 ls st (sI h a 21 x) := RputI hB_211 dX7_passes_84 rfl rfl (by decide) hS (Or.inl rfl)
theorem v211_87 {d : Nat} {st : List MV} {h : Hp} {x : Int32} {a0 a1 a3 a4 : Option MV} : Ev d 211 87 [a0, a1, some (vI x), a3, a4] st h = Ev d 211 88 [a0, a1, some (vI x), a3, a4] (vI x :: st) h := Rnx (hB_211) (dX7_passes_87) rfl
theorem v211_88 {d : Nat} {ls : LS3} {h : Hp} {x : Int32} : Ev d 211 88 ls [vI x] h = some (.inl (some (vI x)), h) := Rdn hB_211 dX7_passes_88 rfl
theorem hB_212 : mB 212 = cX7_pass := rfl
theorem v212_0 {d : Nat} {st : List MV} {h : Hp} {x : Int32} {a0 : Option MV} : Ev d 212 0 [a0, some (vI x)] st h = Ev d 212 1 [a0, some (vI x)] (vI x :: st) h := Rnx (hB_212) (dX7_pass_0) rfl
theorem v212_1 {d : Nat} {ls : LS3} {st : List MV} {h : Hp} : Ev d 212 1 ls st h = Ev d 212 2 ls (vI 1 :: st) h := Rnx (hB_212) (dX7_pass_1) rfl
theorem v212_2 {d : Nat} {ls : LS3} {st : List MV} {h : Hp} : Ev d 212 2 ls st h = Ev d 212 4 ls (vI 99 :: st) h := Rnx (hB_212) (dX7_pass_2) rfl
set_option maxRecDepth 100000 in
theorem v212_4 {d : Nat} {ls : LS3} {st : List MV} {h : Hp} {x0 : Int32} {x1 : Int32} {x2 : Int32} (hc : catS st ≤ 8) : Ev (d + 1) 212 4 ls (vI x2 :: vI x1 :: vI x0 :: st) h = Evk 143 (d + 1) 212 4 ls st (Ev d 143 0 [some (vI x0), some (vI x1), some (vI x2)] [] h) := RcallS (idx := 87) (n := 3) (kd := 1) (As := [vI x0, vI x1, vI x2]) hB_212 dX7_pass_4 rfl rfl (by decide) rfl rfl rfl hc
theorem v212_7 {d : Nat} {ls : LS3} {st : List MV} {h : Hp} {x : Int32} : Ev d 212 7 ls (vI x :: st) h = if x = 0 then Ev d 212 10 ls st h else Ev d 212 16 ls st h := Rifn hB_212 dX7_pass_7 rfl
theorem v212_10 {d : Nat} {st : List MV} {h : Hp} {x : Option A3} {a1 : Option MV} : Ev d 212 10 [some (vO x), a1] st h = Ev d 212 11 [some (vO x), a1] (vO x :: st) h := Rnx (hB_212) (dX7_pass_10) rfl
theorem v212_11 {d : Nat} {ls : LS3} {st : List MV} {h : Hp} : Ev d 212 11 ls st h = Ev d 212 12 ls (vI 1 :: st) h := Rnx (hB_212) (dX7_pass_11) rfl
set_option maxRecDepth 100000 in
theorem v212_12 {d : Nat} {ls : LS3} {st : List MV} {h : Hp} {a : A3} {x0 : Int32} (hS : gS h a = (1, 7)) (hc : catS st ≤ 8) : Ev (d + 1) 212 12 ls (vI x0 :: vR a :: st) h = Evk 141 (d + 1) 212 12 ls st (Ev d 141 0 [some (vR a), some (vI x0)] [] h) := RcallO (idx := 168) (n := 1) (kd := 0) (As' := [vI x0]) hB_212 dX7_pass_12 rfl rfl (by decide) rfl rfl (Or.inl hS) rfl hc
theorem v212_15 {d : Nat} {ls : LS3} {h : Hp} {x : Int32} : Ev d 212 15 ls [vI x] h = some (.inl (some (vI x)), h) := Rdn hB_212 dX7_pass_15 rfl
theorem v212_16 {d : Nat} {st : List MV} {h : Hp} {x : Option A3} {a1 : Option MV} : Ev d 212 16 [some (vO x), a1] st h = Ev d 212 17 [some (vO x), a1] (vO x :: st) h := Rnx (hB_212) (dX7_pass_16) rfl
set_option maxRecDepth 100000 in
theorem v212_17 {d : Nat} {ls : LS3} {st : List MV} {h : Hp} {a : A3} (hS : gS h a = (1, 7)) : Ev d 212 17 ls (vR a :: st) h = Ev d 212 20 ls (vI (gI h a 8) :: st) h := Rget hB_212 dX7_pass_17 rfl (Or.inl hS)
theorem v212_20 {d : Nat} {st : List MV} {h : Hp} {x : Int32} {a0 : Option MV} : Ev d 212 20 [a0, some (vI x)] st h = Ev d 212 21 [a0, some (vI x)] (vI x :: st) h := Rnx (hB_212) (dX7_pass_20) rfl
theorem v212_21 {d : Nat} {ls : LS3} {st : List MV} {h : Hp} {x y : Int32} : Ev d 212 21 ls (vI y :: vI x :: st) h = Ev d 212 22 ls (vI (x + y) :: st) h := Rnx (hB_212) (dX7_pass_21) rfl
theorem v212_22 {d : Nat} {ls : LS3} {st : List MV} {h : Hp} : Ev d 212 22 ls st h = Ev d 212 25 ls (vI 400 :: st) h := Rnx (hB_212) (dX7_pass_22) rfl
theorem v212_25 {d : Nat} {ls : LS3} {st : List MV} {h : Hp} {x y : Int32} : Ev d 212 25 ls (vI y :: vI x :: st) h = if x ≤ y then Ev d 212 34 ls st h else Ev d 212 28 ls st h := Rif hB_212 dX7_pass_25 rfl
theorem v212_28 {d : Nat} {st : List MV} {h : Hp} {x : Option A3} {a1 : Option MV} : Ev d 212 28 [some (vO x), a1] st h = Ev d 212 29 [some (vO x), a1] (vO x :: st) h := Rnx (hB_212) (dX7_pass_28) rfl
theorem v212_29 {d : Nat} {ls : LS3} {st : List MV} {h : Hp} : Ev d 212 29 ls st h = Ev d 212 30 ls (vI 2 :: st) h := Rnx (hB_212) (dX7_pass_29) rfl
set_option maxRecDepth 100000 in
theorem v212_30 {d : Nat} {ls : LS3} {st : List MV} {h : Hp} {a : A3} {x0 : Int32} (hS : gS h a = (1, 7)) (hc : catS st ≤ 8) : Ev (d + 1) 212 30 ls (vI x0 :: vR a :: st) h = Evk 141 (d + 1) 212 30 ls st (Ev d 141 0 [some (vR a), some (vI x0)] [] h) := RcallO (idx := 168) (n := 1) (kd := 0) (As' := [vI x0]) hB_212 dX7_pass_30 rfl rfl (by decide) rfl rfl (Or.inl hS) rfl hc
theorem v212_33 {d : Nat} {ls : LS3} {h : Hp} {x : Int32} : Ev d 212 33 ls [vI x] h = some (.inl (some (vI x)), h) := Rdn hB_212 dX7_pass_33 rfl
theorem v212_34 {d : Nat} {st : List MV} {h : Hp} {x : Option A3} {a1 : Option MV} : Ev d 212 34 [some (vO x), a1] st h = Ev d 212 35 [some (vO x), a1] (vO x :: st) h := Rnx (hB_212) (dX7_pass_34) rfl
theorem v212_35 {d : Nat} {ls : LS3} {st : List MV} {h : Hp} : Ev d 212 35 ls st h = Ev d 212 36 ls (vI 0 :: st) h := Rnx (hB_212) (dX7_pass_35) rfl
set_option maxRecDepth 100000 in
theorem v212_36 {d : Nat} {ls : LS3} {st : List MV} {h : Hp} {a : A3} {x : Int32} (hS : gS h a = (1, 7)) : Ev d 212 36 ls (vI x :: vR a :: st) h = Ev d 212 39 ls st (sI h a 0 x) := RputI hB_212 dX7_pass_36 rfl rfl (by decide) hS (Or.inl rfl)
theorem v212_39 {d : Nat} {st : List MV} {h : Hp} {x : Option A3} {a1 : Option MV} : Ev d 212 39 [some (vO x), a1] st h = Ev d 212 40 [some (vO x), a1] (vO x :: st) h := Rnx (hB_212) (dX7_pass_39) rfl
set_option maxRecDepth 100000 in
theorem v212_40 {d : Nat} {ls : LS3} {st : List MV} {h : Hp} {a : A3}  (hS : gS h a = (1, 7)) (hc : catS st ≤ 8) : Ev (d + 1) 212 40 ls (vR a :: st) h = Evk 230 (d + 1) 212 40 ls st (Ev d 230 0 [some (vR a)] [] h) := RcallO (idx := 171) (n := 0) (kd := 0) (As' := []) hB_212 dX7_pass_40 rfl rfl (by decide) rfl rfl (Or.inl hS) rfl hc
theorem v212_43 {d : Nat} {st : List MV} {h : Hp} {x : Option A3} {a1 : Option MV} : Ev d 212 43 [some (vO x), a1] st h = Ev d 212 44 [some (vO x), a1] (vO x :: st) h := Rnx (hB_212) (dX7_pass_43) rfl
theorem v212_44 {d : Nat} {st : List MV} {h : Hp} {x : Int32} {a0 : Option MV} : Ev d 212 44 [a0, some (vI x)] st h = Ev d 212 45 [a0, some (vI x)] (vI x :: st) h := Rnx (hB_212) (dX7_pass_44) rfl
set_option maxRecDepth 100000 in
theorem v212_45 {d : Nat} {ls : LS3} {st : List MV} {h : Hp} {a : A3} {x0 : Int32} (hS : gS h a = (1, 7)) (hc : catS st ≤ 8) : Ev (d + 1) 212 45 ls (vI x0 :: vR a :: st) h = Evk 211 (d + 1) 212 45 ls st (Ev d 211 0 [some (vR a), some (vI x0), none, none, none] [] h) := RcallO (idx := 248) (n := 1) (kd := 0) (As' := [vI x0]) hB_212 dX7_pass_45 rfl rfl (by decide) rfl rfl (Or.inl hS) rfl hc
theorem v212_48 {d : Nat} {ls : LS3} {h : Hp} {x : Int32} : Ev d 212 48 ls [vI x] h = some (.inl (some (vI x)), h) := Rdn hB_212 dX7_pass_48 rfl
