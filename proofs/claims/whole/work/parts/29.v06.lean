/-! ROWS OF THE METHODS, 6 -/
theorem hB_213 : mB 213 = cX7_counted := rfl
theorem v213_0 {d : Nat} {ls : LS3} {st : List MV} {h : Hp} : Ev d 213 0 ls st h = Ev d 213 1 ls (vI 0 :: st) h := Rnx (hB_213) (dX7_counted_0) rfl
theorem v213_1 {d : Nat} {st : List MV} {h : Hp} {x : Int32} {a0 a1 a2 a3 : Option MV} : Ev d 213 1 [a0, a1, a2, a3] (vI x :: st) h = Ev d 213 2 [a0, a1, some (vI x), a3] st h := Rnx (hB_213) (dX7_counted_1) rfl
theorem v213_2 {d : Nat} {ls : LS3} {st : List MV} {h : Hp} : Ev d 213 2 ls st h = Ev d 213 3 ls (vI 0 :: st) h := Rnx (hB_213) (dX7_counted_2) rfl
theorem v213_3 {d : Nat} {st : List MV} {h : Hp} {x : Int32} {a0 a1 a2 a3 : Option MV} : Ev d 213 3 [a0, a1, a2, a3] (vI x :: st) h = Ev d 213 4 [a0, a1, a2, some (vI x)] st h := Rnx (hB_213) (dX7_counted_3) rfl
theorem v213_4 {d : Nat} {st : List MV} {h : Hp} {x : Int32} {a0 a1 a2 : Option MV} : Ev d 213 4 [a0, a1, a2, some (vI x)] st h = Ev d 213 5 [a0, a1, a2, some (vI x)] (vI x :: st) h := Rnx (hB_213) (dX7_counted_4) rfl
theorem v213_5 {d : Nat} {st : List MV} {h : Hp} {x : Option A3} {a1 a2 a3 : Option MV} : Ev d 213 5 [some (vO x), a1, a2, a3] st h = Ev d 213 6 [some (vO x), a1, a2, a3] (vO x :: st) h := Rnx (hB_213) (dX7_counted_5) rfl
set_option maxRecDepth 100000 in
theorem v213_6 {d : Nat} {ls : LS3} {st : List MV} {h : Hp} {a : A3} (hS : gS h a = (1, 7)) : Ev d 213 6 ls (vR a :: st) h = Ev d 213 9 ls (vI (gI h a 19) :: st) h := Rget hB_213 dX7_counted_6 rfl (Or.inl hS)
theorem v213_9 {d : Nat} {ls : LS3} {st : List MV} {h : Hp} {x y : Int32} : Ev d 213 9 ls (vI y :: vI x :: st) h = if y ≤ x then Ev d 213 104 ls st h else Ev d 213 12 ls st h := Rif hB_213 dX7_counted_9 rfl
theorem v213_12 {d : Nat} {st : List MV} {h : Hp} {x : Int32} {a0 a2 a3 : Option MV} : Ev d 213 12 [a0, some (vI x), a2, a3] st h = Ev d 213 13 [a0, some (vI x), a2, a3] (vI x :: st) h := Rnx (hB_213) (dX7_counted_12) rfl
theorem v213_13 {d : Nat} {ls : LS3} {st : List MV} {h : Hp} : Ev d 213 13 ls st h = Ev d 213 14 ls (vI 2 :: st) h := Rnx (hB_213) (dX7_counted_13) rfl
theorem v213_14 {d : Nat} {ls : LS3} {st : List MV} {h : Hp} {x y : Int32} : Ev d 213 14 ls (vI y :: vI x :: st) h = if x = y then Ev d 213 17 ls st h else Ev d 213 33 ls st h := Rifn hB_213 dX7_counted_14 rfl
theorem v213_17 {d : Nat} {st : List MV} {h : Hp} {x : Int32} {a0 a1 a3 : Option MV} : Ev d 213 17 [a0, a1, some (vI x), a3] st h = Ev d 213 18 [a0, a1, some (vI x), a3] (vI x :: st) h := Rnx (hB_213) (dX7_counted_17) rfl
theorem v213_18 {d : Nat} {st : List MV} {h : Hp} {x : Option A3} {a1 a2 a3 : Option MV} : Ev d 213 18 [some (vO x), a1, a2, a3] st h = Ev d 213 19 [some (vO x), a1, a2, a3] (vO x :: st) h := Rnx (hB_213) (dX7_counted_18) rfl
theorem v213_19 {d : Nat} {st : List MV} {h : Hp} {x : Int32} {a0 a1 a2 : Option MV} : Ev d 213 19 [a0, a1, a2, some (vI x)] st h = Ev d 213 20 [a0, a1, a2, some (vI x)] (vI x :: st) h := Rnx (hB_213) (dX7_counted_19) rfl
set_option maxRecDepth 100000 in
theorem v213_20 {d : Nat} {ls : LS3} {st : List MV} {h : Hp} {a : A3} {x0 : Int32} (hS : gS h a = (1, 7)) (hc : catS st ≤ 8) : Ev (d + 1) 213 20 ls (vI x0 :: vR a :: st) h = Evk 204 (d + 1) 213 20 ls st (Ev d 204 0 [some (vR a), some (vI x0)] [] h) := RcallO (idx := 242) (n := 1) (kd := 0) (As' := [vI x0]) hB_213 dX7_counted_20 rfl rfl (by decide) rfl rfl (Or.inl hS) rfl hc
theorem v213_23 {d : Nat} {ls : LS3} {st : List MV} {h : Hp} {x : Int32} : Ev d 213 23 ls (vI x :: st) h = if x = 0 then Ev d 213 30 ls st h else Ev d 213 26 ls st h := Rif hB_213 dX7_counted_23 rfl
theorem v213_26 {d : Nat} {ls : LS3} {st : List MV} {h : Hp} : Ev d 213 26 ls st h = Ev d 213 27 ls (vI 1 :: st) h := Rnx (hB_213) (dX7_counted_26) rfl
theorem v213_27 {d : Nat} {ls : LS3} {st : List MV} {h : Hp} : Ev d 213 27 ls st h = Ev d 213 31 ls st h := Rnx (hB_213) (dX7_counted_27) rfl
theorem v213_30 {d : Nat} {ls : LS3} {st : List MV} {h : Hp} : Ev d 213 30 ls st h = Ev d 213 31 ls (vI 0 :: st) h := Rnx (hB_213) (dX7_counted_30) rfl
theorem v213_31 {d : Nat} {ls : LS3} {st : List MV} {h : Hp} {x y : Int32} : Ev d 213 31 ls (vI y :: vI x :: st) h = Ev d 213 32 ls (vI (x + y) :: st) h := Rnx (hB_213) (dX7_counted_31) rfl
theorem v213_32 {d : Nat} {st : List MV} {h : Hp} {x : Int32} {a0 a1 a2 a3 : Option MV} : Ev d 213 32 [a0, a1, a2, a3] (vI x :: st) h = Ev d 213 33 [a0, a1, some (vI x), a3] st h := Rnx (hB_213) (dX7_counted_32) rfl
theorem v213_33 {d : Nat} {st : List MV} {h : Hp} {x : Int32} {a0 a2 a3 : Option MV} : Ev d 213 33 [a0, some (vI x), a2, a3] st h = Ev d 213 34 [a0, some (vI x), a2, a3] (vI x :: st) h := Rnx (hB_213) (dX7_counted_33) rfl
theorem v213_34 {d : Nat} {ls : LS3} {st : List MV} {h : Hp} : Ev d 213 34 ls st h = Ev d 213 35 ls (vI 3 :: st) h := Rnx (hB_213) (dX7_counted_34) rfl
theorem v213_35 {d : Nat} {ls : LS3} {st : List MV} {h : Hp} {x y : Int32} : Ev d 213 35 ls (vI y :: vI x :: st) h = if x = y then Ev d 213 38 ls st h else Ev d 213 54 ls st h := Rifn hB_213 dX7_counted_35 rfl
theorem v213_38 {d : Nat} {st : List MV} {h : Hp} {x : Int32} {a0 a1 a3 : Option MV} : Ev d 213 38 [a0, a1, some (vI x), a3] st h = Ev d 213 39 [a0, a1, some (vI x), a3] (vI x :: st) h := Rnx (hB_213) (dX7_counted_38) rfl
theorem v213_39 {d : Nat} {st : List MV} {h : Hp} {x : Option A3} {a1 a2 a3 : Option MV} : Ev d 213 39 [some (vO x), a1, a2, a3] st h = Ev d 213 40 [some (vO x), a1, a2, a3] (vO x :: st) h := Rnx (hB_213) (dX7_counted_39) rfl
theorem v213_40 {d : Nat} {st : List MV} {h : Hp} {x : Int32} {a0 a1 a2 : Option MV} : Ev d 213 40 [a0, a1, a2, some (vI x)] st h = Ev d 213 41 [a0, a1, a2, some (vI x)] (vI x :: st) h := Rnx (hB_213) (dX7_counted_40) rfl
set_option maxRecDepth 100000 in
theorem v213_41 {d : Nat} {ls : LS3} {st : List MV} {h : Hp} {a : A3} {x0 : Int32} (hS : gS h a = (1, 7)) (hc : catS st ≤ 8) : Ev (d + 1) 213 41 ls (vI x0 :: vR a :: st) h = Evk 152 (d + 1) 213 41 ls st (Ev d 152 0 [some (vR a), some (vI x0)] [] h) := RcallO (idx := 109) (n := 1) (kd := 0) (As' := [vI x0]) hB_213 dX7_counted_41 rfl rfl (by decide) rfl rfl (Or.inl hS) rfl hc
theorem v213_44 {d : Nat} {ls : LS3} {st : List MV} {h : Hp} {x : Int32} : Ev d 213 44 ls (vI x :: st) h = if x = 0 then Ev d 213 51 ls st h else Ev d 213 47 ls st h := Rif hB_213 dX7_counted_44 rfl
theorem v213_47 {d : Nat} {ls : LS3} {st : List MV} {h : Hp} : Ev d 213 47 ls st h = Ev d 213 48 ls (vI 1 :: st) h := Rnx (hB_213) (dX7_counted_47) rfl
theorem v213_48 {d : Nat} {ls : LS3} {st : List MV} {h : Hp} : Ev d 213 48 ls st h = Ev d 213 52 ls st h := Rnx (hB_213) (dX7_counted_48) rfl
theorem v213_51 {d : Nat} {ls : LS3} {st : List MV} {h : Hp} : Ev d 213 51 ls st h = Ev d 213 52 ls (vI 0 :: st) h := Rnx (hB_213) (dX7_counted_51) rfl
theorem v213_52 {d : Nat} {ls : LS3} {st : List MV} {h : Hp} {x y : Int32} : Ev d 213 52 ls (vI y :: vI x :: st) h = Ev d 213 53 ls (vI (x + y) :: st) h := Rnx (hB_213) (dX7_counted_52) rfl
theorem v213_53 {d : Nat} {st : List MV} {h : Hp} {x : Int32} {a0 a1 a2 a3 : Option MV} : Ev d 213 53 [a0, a1, a2, a3] (vI x :: st) h = Ev d 213 54 [a0, a1, some (vI x), a3] st h := Rnx (hB_213) (dX7_counted_53) rfl
theorem v213_54 {d : Nat} {st : List MV} {h : Hp} {x : Int32} {a0 a2 a3 : Option MV} : Ev d 213 54 [a0, some (vI x), a2, a3] st h = Ev d 213 55 [a0, some (vI x), a2, a3] (vI x :: st) h := Rnx (hB_213) (dX7_counted_54) rfl
theorem v213_55 {d : Nat} {ls : LS3} {st : List MV} {h : Hp} : Ev d 213 55 ls st h = Ev d 213 56 ls (vI 4 :: st) h := Rnx (hB_213) (dX7_counted_55) rfl
theorem v213_56 {d : Nat} {ls : LS3} {st : List MV} {h : Hp} {x y : Int32} : Ev d 213 56 ls (vI y :: vI x :: st) h = if x = y then Ev d 213 59 ls st h else Ev d 213 71 ls st h := Rifn hB_213 dX7_counted_56 rfl
theorem v213_59 {d : Nat} {st : List MV} {h : Hp} {x : Int32} {a0 a1 a3 : Option MV} : Ev d 213 59 [a0, a1, some (vI x), a3] st h = Ev d 213 60 [a0, a1, some (vI x), a3] (vI x :: st) h := Rnx (hB_213) (dX7_counted_59) rfl
theorem v213_60 {d : Nat} {st : List MV} {h : Hp} {x : Option A3} {a1 a2 a3 : Option MV} : Ev d 213 60 [some (vO x), a1, a2, a3] st h = Ev d 213 61 [some (vO x), a1, a2, a3] (vO x :: st) h := Rnx (hB_213) (dX7_counted_60) rfl
set_option maxRecDepth 100000 in
theorem v213_61 {d : Nat} {ls : LS3} {st : List MV} {h : Hp} {a : A3} (hS : gS h a = (1, 7)) : Ev d 213 61 ls (vR a :: st) h = Ev d 213 64 ls (vO (gR h a 14) :: st) h := Rget hB_213 dX7_counted_61 rfl (Or.inl hS)
theorem v213_64 {d : Nat} {st : List MV} {h : Hp} {x : Int32} {a0 a1 a2 : Option MV} : Ev d 213 64 [a0, a1, a2, some (vI x)] st h = Ev d 213 65 [a0, a1, a2, some (vI x)] (vI x :: st) h := Rnx (hB_213) (dX7_counted_64) rfl
theorem v213_65 {d : Nat} {ls : LS3} {st : List MV} {h : Hp} {a : A3} {j : Int32} (hS : (gS h a).1 ∈ [2, 9]) (hj : inB j (gS h a).2) : Ev d 213 65 ls (vI j :: vR a :: st) h = Ev d 213 66 ls (vI (gI h a j.toNatClampNeg) :: st) h := Rald (ks := [2, 9]) (f := fun a j => vI (gI h a j)) hB_213 dX7_counted_65 rfl hS hj
set_option maxRecDepth 100000 in
theorem v213_66 {d : Nat} {ls : LS3} {st : List MV} {h : Hp} {x0 : Int32} (hc : catS st ≤ 8) : Ev (d + 1) 213 66 ls (vI x0 :: st) h = Evk 144 (d + 1) 213 66 ls st (Ev d 144 0 [some (vI x0), none, none] [] h) := RcallS (idx := 129) (n := 1) (kd := 1) (As := [vI x0]) hB_213 dX7_counted_66 rfl rfl (by decide) rfl rfl rfl hc
theorem v213_69 {d : Nat} {ls : LS3} {st : List MV} {h : Hp} {x y : Int32} : Ev d 213 69 ls (vI y :: vI x :: st) h = Ev d 213 70 ls (vI (x + y) :: st) h := Rnx (hB_213) (dX7_counted_69) rfl
theorem v213_70 {d : Nat} {st : List MV} {h : Hp} {x : Int32} {a0 a1 a2 a3 : Option MV} : Ev d 213 70 [a0, a1, a2, a3] (vI x :: st) h = Ev d 213 71 [a0, a1, some (vI x), a3] st h := Rnx (hB_213) (dX7_counted_70) rfl
theorem v213_71 {d : Nat} {st : List MV} {h : Hp} {x : Int32} {a0 a2 a3 : Option MV} : Ev d 213 71 [a0, some (vI x), a2, a3] st h = Ev d 213 72 [a0, some (vI x), a2, a3] (vI x :: st) h := Rnx (hB_213) (dX7_counted_71) rfl
theorem v213_72 {d : Nat} {ls : LS3} {st : List MV} {h : Hp} : Ev d 213 72 ls st h = Ev d 213 73 ls (vI 5 :: st) h := Rnx (hB_213) (dX7_counted_72) rfl
theorem v213_73 {d : Nat} {ls : LS3} {st : List MV} {h : Hp} {x y : Int32} : Ev d 213 73 ls (vI y :: vI x :: st) h = if x = y then Ev d 213 76 ls st h else Ev d 213 98 ls st h := Rifn hB_213 dX7_counted_73 rfl
theorem v213_76 {d : Nat} {st : List MV} {h : Hp} {x : Int32} {a0 a1 a3 : Option MV} : Ev d 213 76 [a0, a1, some (vI x), a3] st h = Ev d 213 77 [a0, a1, some (vI x), a3] (vI x :: st) h := Rnx (hB_213) (dX7_counted_76) rfl
theorem v213_77 {d : Nat} {st : List MV} {h : Hp} {x : Option A3} {a1 a2 a3 : Option MV} : Ev d 213 77 [some (vO x), a1, a2, a3] st h = Ev d 213 78 [some (vO x), a1, a2, a3] (vO x :: st) h := Rnx (hB_213) (dX7_counted_77) rfl
theorem v213_78 {d : Nat} {st : List MV} {h : Hp} {x : Int32} {a0 a1 a2 : Option MV} : Ev d 213 78 [a0, a1, a2, some (vI x)] st h = Ev d 213 79 [a0, a1, a2, some (vI x)] (vI x :: st) h := Rnx (hB_213) (dX7_counted_78) rfl
theorem v213_79 {d : Nat} {st : List MV} {h : Hp} {x : Option A3} {a1 a2 a3 : Option MV} : Ev d 213 79 [some (vO x), a1, a2, a3] st h = Ev d 213 80 [some (vO x), a1, a2, a3] (vO x :: st) h := Rnx (hB_213) (dX7_counted_79) rfl
set_option maxRecDepth 100000 in
theorem v213_80 {d : Nat} {ls : LS3} {st : List MV} {h : Hp} {a : A3} (hS : gS h a = (1, 7)) : Ev d 213 80 ls (vR a :: st) h = Ev d 213 83 ls (vO (gR h a 14) :: st) h := Rget hB_213 dX7_counted_80 rfl (Or.inl hS)
theorem v213_83 {d : Nat} {st : List MV} {h : Hp} {x : Int32} {a0 a1 a2 : Option MV} : Ev d 213 83 [a0, a1, a2, some (vI x)] st h = Ev d 213 84 [a0, a1, a2, some (vI x)] (vI x :: st) h := Rnx (hB_213) (dX7_counted_83) rfl
theorem v213_84 {d : Nat} {ls : LS3} {st : List MV} {h : Hp} {a : A3} {j : Int32} (hS : (gS h a).1 ∈ [2, 9]) (hj : inB j (gS h a).2) : Ev d 213 84 ls (vI j :: vR a :: st) h = Ev d 213 85 ls (vI (gI h a j.toNatClampNeg) :: st) h := Rald (ks := [2, 9]) (f := fun a j => vI (gI h a j)) hB_213 dX7_counted_84 rfl hS hj
set_option maxRecDepth 100000 in
theorem v213_85 {d : Nat} {ls : LS3} {st : List MV} {h : Hp} {a : A3} {x0 : Int32} {x1 : Int32} (hS : gS h a = (1, 7)) (hc : catS st ≤ 8) : Ev (d + 1) 213 85 ls (vI x1 :: vI x0 :: vR a :: st) h = Evk 156 (d + 1) 213 85 ls st (Ev d 156 0 [some (vR a), some (vI x0), some (vI x1), none] [] h) := RcallO (idx := 139) (n := 2) (kd := 0) (As' := [vI x0, vI x1]) hB_213 dX7_counted_85 rfl rfl (by decide) rfl rfl (Or.inl hS) rfl hc
theorem v213_88 {d : Nat} {ls : LS3} {st : List MV} {h : Hp} {x : Int32} : Ev d 213 88 ls (vI x :: st) h = if x = 0 then Ev d 213 95 ls st h else Ev d 213 91 ls st h := Rif hB_213 dX7_counted_88 rfl
theorem v213_91 {d : Nat} {ls : LS3} {st : List MV} {h : Hp} : Ev d 213 91 ls st h = Ev d 213 92 ls (vI 1 :: st) h := Rnx (hB_213) (dX7_counted_91) rfl
theorem v213_92 {d : Nat} {ls : LS3} {st : List MV} {h : Hp} : Ev d 213 92 ls st h = Ev d 213 96 ls st h := Rnx (hB_213) (dX7_counted_92) rfl
theorem v213_95 {d : Nat} {ls : LS3} {st : List MV} {h : Hp} : Ev d 213 95 ls st h = Ev d 213 96 ls (vI 0 :: st) h := Rnx (hB_213) (dX7_counted_95) rfl
theorem v213_96 {d : Nat} {ls : LS3} {st : List MV} {h : Hp} {x y : Int32} : Ev d 213 96 ls (vI y :: vI x :: st) h = Ev d 213 97 ls (vI (x + y) :: st) h := Rnx (hB_213) (dX7_counted_96) rfl
theorem v213_97 {d : Nat} {st : List MV} {h : Hp} {x : Int32} {a0 a1 a2 a3 : Option MV} : Ev d 213 97 [a0, a1, a2, a3] (vI x :: st) h = Ev d 213 98 [a0, a1, some (vI x), a3] st h := Rnx (hB_213) (dX7_counted_97) rfl
theorem v213_98 {d : Nat} {st : List MV} {h : Hp} {x : Int32} {a0 a1 a2 : Option MV} : Ev d 213 98 [a0, a1, a2, some (vI x)] st h = Ev d 213 101 [a0, a1, a2, some (vI (x + 1))] st h := Rnx (hB_213) (dX7_counted_98) rfl
theorem v213_101 {d : Nat} {ls : LS3} {st : List MV} {h : Hp} : Ev d 213 101 ls st h = Ev d 213 4 ls st h := Rnx (hB_213) (dX7_counted_101) rfl
theorem v213_104 {d : Nat} {st : List MV} {h : Hp} {x : Int32} {a0 a1 a3 : Option MV} : Ev d 213 104 [a0, a1, some (vI x), a3] st h = Ev d 213 105 [a0, a1, some (vI x), a3] (vI x :: st) h := Rnx (hB_213) (dX7_counted_104) rfl
theorem v213_105 {d : Nat} {ls : LS3} {h : Hp} {x : Int32} : Ev d 213 105 ls [vI x] h = some (.inl (some (vI x)), h) := Rdn hB_213 dX7_counted_105 rfl
theorem hB_214 : mB 214 = cX7_pairs := rfl
theorem v214_0 {d : Nat} {ls : LS3} {st : List MV} {h : Hp} : Ev d 214 0 ls st h = Ev d 214 1 ls (vI 0 :: st) h := Rnx (hB_214) (dX7_pairs_0) rfl
theorem v214_1 {d : Nat} {st : List MV} {h : Hp} {x : Int32} {a0 a1 a2 : Option MV} : Ev d 214 1 [a0, a1, a2] (vI x :: st) h = Ev d 214 2 [a0, some (vI x), a2] st h := Rnx (hB_214) (dX7_pairs_1) rfl
theorem v214_2 {d : Nat} {ls : LS3} {st : List MV} {h : Hp} : Ev d 214 2 ls st h = Ev d 214 3 ls (vI 0 :: st) h := Rnx (hB_214) (dX7_pairs_2) rfl
theorem v214_3 {d : Nat} {st : List MV} {h : Hp} {x : Int32} {a0 a1 a2 : Option MV} : Ev d 214 3 [a0, a1, a2] (vI x :: st) h = Ev d 214 4 [a0, a1, some (vI x)] st h := Rnx (hB_214) (dX7_pairs_3) rfl
theorem v214_4 {d : Nat} {st : List MV} {h : Hp} {x : Int32} {a0 a1 : Option MV} : Ev d 214 4 [a0, a1, some (vI x)] st h = Ev d 214 5 [a0, a1, some (vI x)] (vI x :: st) h := Rnx (hB_214) (dX7_pairs_4) rfl
theorem v214_5 {d : Nat} {st : List MV} {h : Hp} {x : Option A3} {a1 a2 : Option MV} : Ev d 214 5 [some (vO x), a1, a2] st h = Ev d 214 6 [some (vO x), a1, a2] (vO x :: st) h := Rnx (hB_214) (dX7_pairs_5) rfl
set_option maxRecDepth 100000 in
theorem v214_6 {d : Nat} {ls : LS3} {st : List MV} {h : Hp} {a : A3} (hS : gS h a = (1, 7)) : Ev d 214 6 ls (vR a :: st) h = Ev d 214 9 ls (vI (gI h a 7) :: st) h := Rget hB_214 dX7_pairs_6 rfl (Or.inl hS)
theorem v214_9 {d : Nat} {ls : LS3} {st : List MV} {h : Hp} {x y : Int32} : Ev d 214 9 ls (vI y :: vI x :: st) h = if y ≤ x then Ev d 214 30 ls st h else Ev d 214 12 ls st h := Rif hB_214 dX7_pairs_9 rfl
theorem v214_12 {d : Nat} {st : List MV} {h : Hp} {x : Int32} {a0 a2 : Option MV} : Ev d 214 12 [a0, some (vI x), a2] st h = Ev d 214 13 [a0, some (vI x), a2] (vI x :: st) h := Rnx (hB_214) (dX7_pairs_12) rfl
theorem v214_13 {d : Nat} {st : List MV} {h : Hp} {x : Option A3} {a1 a2 : Option MV} : Ev d 214 13 [some (vO x), a1, a2] st h = Ev d 214 14 [some (vO x), a1, a2] (vO x :: st) h := Rnx (hB_214) (dX7_pairs_13) rfl
set_option maxRecDepth 100000 in
theorem v214_14 {d : Nat} {ls : LS3} {st : List MV} {h : Hp} {a : A3} (hS : gS h a = (1, 7)) : Ev d 214 14 ls (vR a :: st) h = Ev d 214 17 ls (vO (gR h a 5) :: st) h := Rget hB_214 dX7_pairs_14 rfl (Or.inl hS)
theorem v214_17 {d : Nat} {st : List MV} {h : Hp} {x : Int32} {a0 a1 : Option MV} : Ev d 214 17 [a0, a1, some (vI x)] st h = Ev d 214 18 [a0, a1, some (vI x)] (vI x :: st) h := Rnx (hB_214) (dX7_pairs_17) rfl
theorem v214_18 {d : Nat} {ls : LS3} {st : List MV} {h : Hp} {a : A3} {j : Int32} (hS : (gS h a).1 ∈ [2, 9]) (hj : inB j (gS h a).2) : Ev d 214 18 ls (vI j :: vR a :: st) h = Ev d 214 19 ls (vI (gI h a j.toNatClampNeg) :: st) h := Rald (ks := [2, 9]) (f := fun a j => vI (gI h a j)) hB_214 dX7_pairs_18 rfl hS hj
set_option maxRecDepth 100000 in
theorem v214_19 {d : Nat} {ls : LS3} {st : List MV} {h : Hp} {x0 : Int32} (hc : catS st ≤ 8) : Ev (d + 1) 214 19 ls (vI x0 :: st) h = Evk 144 (d + 1) 214 19 ls st (Ev d 144 0 [some (vI x0), none, none] [] h) := RcallS (idx := 129) (n := 1) (kd := 1) (As := [vI x0]) hB_214 dX7_pairs_19 rfl rfl (by decide) rfl rfl rfl hc
theorem v214_22 {d : Nat} {ls : LS3} {st : List MV} {h : Hp} {x y : Int32} : Ev d 214 22 ls (vI y :: vI x :: st) h = Ev d 214 23 ls (vI (x + y) :: st) h := Rnx (hB_214) (dX7_pairs_22) rfl
theorem v214_23 {d : Nat} {st : List MV} {h : Hp} {x : Int32} {a0 a1 a2 : Option MV} : Ev d 214 23 [a0, a1, a2] (vI x :: st) h = Ev d 214 24 [a0, some (vI x), a2] st h := Rnx (hB_214) (dX7_pairs_23) rfl
theorem v214_24 {d : Nat} {st : List MV} {h : Hp} {x : Int32} {a0 a1 : Option MV} : Ev d 214 24 [a0, a1, some (vI x)] st h = Ev d 214 27 [a0, a1, some (vI (x + 1))] st h := Rnx (hB_214) (dX7_pairs_24) rfl
theorem v214_27 {d : Nat} {ls : LS3} {st : List MV} {h : Hp} : Ev d 214 27 ls st h = Ev d 214 4 ls st h := Rnx (hB_214) (dX7_pairs_27) rfl
theorem v214_30 {d : Nat} {st : List MV} {h : Hp} {x : Int32} {a0 a2 : Option MV} : Ev d 214 30 [a0, some (vI x), a2] st h = Ev d 214 31 [a0, some (vI x), a2] (vI x :: st) h := Rnx (hB_214) (dX7_pairs_30) rfl
theorem v214_31 {d : Nat} {ls : LS3} {st : List MV} {h : Hp} : Ev d 214 31 ls st h = Ev d 214 32 ls (vI 2 :: st) h := Rnx (hB_214) (dX7_pairs_31) rfl
theorem v214_32 {d : Nat} {ls : LS3} {st : List MV} {h : Hp} {x y : Int32} (hy : y ≠ 0) : Ev d 214 32 ls (vI y :: vI x :: st) h = Ev d 214 33 ls (vI (x / y) :: st) h := Rdiv hB_214 dX7_pairs_32 hy
theorem v214_33 {d : Nat} {ls : LS3} {h : Hp} {x : Int32} : Ev d 214 33 ls [vI x] h = some (.inl (some (vI x)), h) := Rdn hB_214 dX7_pairs_33 rfl
theorem hB_215 : mB 215 = cX7_account := rfl
theorem v215_0 {d : Nat} {st : List MV} {h : Hp} {x : Int32} {a0 : Option MV} : Ev d 215 0 [a0, some (vI x)] st h = Ev d 215 1 [a0, some (vI x)] (vI x :: st) h := Rnx (hB_215) (dX7_account_0) rfl
theorem v215_1 {d : Nat} {ls : LS3} {st : List MV} {h : Hp} : Ev d 215 1 ls st h = Ev d 215 2 ls (vI 0 :: st) h := Rnx (hB_215) (dX7_account_1) rfl
theorem v215_2 {d : Nat} {ls : LS3} {st : List MV} {h : Hp} : Ev d 215 2 ls st h = Ev d 215 4 ls (vI 9 :: st) h := Rnx (hB_215) (dX7_account_2) rfl
set_option maxRecDepth 100000 in
theorem v215_4 {d : Nat} {ls : LS3} {st : List MV} {h : Hp} {x0 : Int32} {x1 : Int32} {x2 : Int32} (hc : catS st ≤ 8) : Ev (d + 1) 215 4 ls (vI x2 :: vI x1 :: vI x0 :: st) h = Evk 143 (d + 1) 215 4 ls st (Ev d 143 0 [some (vI x0), some (vI x1), some (vI x2)] [] h) := RcallS (idx := 87) (n := 3) (kd := 1) (As := [vI x0, vI x1, vI x2]) hB_215 dX7_account_4 rfl rfl (by decide) rfl rfl rfl hc
theorem v215_7 {d : Nat} {ls : LS3} {st : List MV} {h : Hp} {x : Int32} : Ev d 215 7 ls (vI x :: st) h = if x = 0 then Ev d 215 10 ls st h else Ev d 215 16 ls st h := Rifn hB_215 dX7_account_7 rfl
theorem v215_10 {d : Nat} {st : List MV} {h : Hp} {x : Option A3} {a1 : Option MV} : Ev d 215 10 [some (vO x), a1] st h = Ev d 215 11 [some (vO x), a1] (vO x :: st) h := Rnx (hB_215) (dX7_account_10) rfl
theorem v215_11 {d : Nat} {ls : LS3} {st : List MV} {h : Hp} : Ev d 215 11 ls st h = Ev d 215 12 ls (vI 1 :: st) h := Rnx (hB_215) (dX7_account_11) rfl
set_option maxRecDepth 100000 in
theorem v215_12 {d : Nat} {ls : LS3} {st : List MV} {h : Hp} {a : A3} {x0 : Int32} (hS : gS h a = (1, 7)) (hc : catS st ≤ 8) : Ev (d + 1) 215 12 ls (vI x0 :: vR a :: st) h = Evk 141 (d + 1) 215 12 ls st (Ev d 141 0 [some (vR a), some (vI x0)] [] h) := RcallO (idx := 168) (n := 1) (kd := 0) (As' := [vI x0]) hB_215 dX7_account_12 rfl rfl (by decide) rfl rfl (Or.inl hS) rfl hc
theorem v215_15 {d : Nat} {ls : LS3} {h : Hp} {x : Int32} : Ev d 215 15 ls [vI x] h = some (.inl (some (vI x)), h) := Rdn hB_215 dX7_account_15 rfl
theorem v215_16 {d : Nat} {st : List MV} {h : Hp} {x : Option A3} {a1 : Option MV} : Ev d 215 16 [some (vO x), a1] st h = Ev d 215 17 [some (vO x), a1] (vO x :: st) h := Rnx (hB_215) (dX7_account_16) rfl
theorem v215_17 {d : Nat} {ls : LS3} {st : List MV} {h : Hp} : Ev d 215 17 ls st h = Ev d 215 18 ls (vI 0 :: st) h := Rnx (hB_215) (dX7_account_17) rfl
set_option maxRecDepth 100000 in
theorem v215_18 {d : Nat} {ls : LS3} {st : List MV} {h : Hp} {a : A3} {x : Int32} (hS : gS h a = (1, 7)) : Ev d 215 18 ls (vI x :: vR a :: st) h = Ev d 215 21 ls st (sI h a 0 x) := RputI hB_215 dX7_account_18 rfl rfl (by decide) hS (Or.inl rfl)
theorem v215_21 {d : Nat} {st : List MV} {h : Hp} {x : Int32} {a0 : Option MV} : Ev d 215 21 [a0, some (vI x)] st h = Ev d 215 22 [a0, some (vI x)] (vI x :: st) h := Rnx (hB_215) (dX7_account_21) rfl
theorem v215_22 {d : Nat} {ls : LS3} {st : List MV} {h : Hp} {x : Int32} : Ev d 215 22 ls (vI x :: st) h = if x = 0 then Ev d 215 76 ls st h else if x = 1 then Ev d 215 81 ls st h else if x = 6 then Ev d 215 86 ls st h else if x = 7 then Ev d 215 91 ls st h else if x = 8 then Ev d 215 96 ls st h else if x = 9 then Ev d 215 101 ls st h else Ev d 215 106 ls st h := by
  by_cases z : x.toInt < 0 ∨ 9 < x.toInt
  · rw [if_neg (fun y => by rw [y] at z; revert z; decide), if_neg (fun y => by rw [y] at z; revert z; decide), if_neg (fun y => by rw [y] at z; revert z; decide), if_neg (fun y => by rw [y] at z; revert z; decide), if_neg (fun y => by rw [y] at z; revert z; decide), if_neg (fun y => by rw [y] at z; revert z; decide)]
    exact Rnx hB_215 dX7_account_22 (xTab_out z)
  · rcases (show x.toInt = 0 ∨ x.toInt = 1 ∨ x.toInt = 2 ∨ x.toInt = 3 ∨ x.toInt = 4 ∨ x.toInt = 5 ∨ x.toInt = 6 ∨ x.toInt = 7 ∨ x.toInt = 8 ∨ x.toInt = 9 by omega) with y | y | y | y | y | y | y | y | y | y
    · have e : x = 0 := Int32.toInt_inj.mp (y.trans rfl)
      subst e
      rw [if_pos rfl]; exact Rnx hB_215 dX7_account_22 rfl
    · have e : x = 1 := Int32.toInt_inj.mp (y.trans rfl)
      subst e
      rw [if_neg (by decide)]; rw [if_pos rfl]; exact Rnx hB_215 dX7_account_22 rfl
    · have e : x = 2 := Int32.toInt_inj.mp (y.trans rfl)
      subst e
      rw [if_neg (by decide)]; rw [if_neg (by decide)]; rw [if_neg (by decide)]; rw [if_neg (by decide)]; rw [if_neg (by decide)]; rw [if_neg (by decide)]; exact Rnx hB_215 dX7_account_22 rfl
    · have e : x = 3 := Int32.toInt_inj.mp (y.trans rfl)
      subst e
      rw [if_neg (by decide)]; rw [if_neg (by decide)]; rw [if_neg (by decide)]; rw [if_neg (by decide)]; rw [if_neg (by decide)]; rw [if_neg (by decide)]; exact Rnx hB_215 dX7_account_22 rfl
    · have e : x = 4 := Int32.toInt_inj.mp (y.trans rfl)
      subst e
      rw [if_neg (by decide)]; rw [if_neg (by decide)]; rw [if_neg (by decide)]; rw [if_neg (by decide)]; rw [if_neg (by decide)]; rw [if_neg (by decide)]; exact Rnx hB_215 dX7_account_22 rfl
    · have e : x = 5 := Int32.toInt_inj.mp (y.trans rfl)
      subst e
      rw [if_neg (by decide)]; rw [if_neg (by decide)]; rw [if_neg (by decide)]; rw [if_neg (by decide)]; rw [if_neg (by decide)]; rw [if_neg (by decide)]; exact Rnx hB_215 dX7_account_22 rfl
    · have e : x = 6 := Int32.toInt_inj.mp (y.trans rfl)
      subst e
      rw [if_neg (by decide)]; rw [if_neg (by decide)]; rw [if_pos rfl]; exact Rnx hB_215 dX7_account_22 rfl
    · have e : x = 7 := Int32.toInt_inj.mp (y.trans rfl)
      subst e
      rw [if_neg (by decide)]; rw [if_neg (by decide)]; rw [if_neg (by decide)]; rw [if_pos rfl]; exact Rnx hB_215 dX7_account_22 rfl
    · have e : x = 8 := Int32.toInt_inj.mp (y.trans rfl)
      subst e
      rw [if_neg (by decide)]; rw [if_neg (by decide)]; rw [if_neg (by decide)]; rw [if_neg (by decide)]; rw [if_pos rfl]; exact Rnx hB_215 dX7_account_22 rfl
    · have e : x = 9 := Int32.toInt_inj.mp (y.trans rfl)
      subst e
      rw [if_neg (by decide)]; rw [if_neg (by decide)]; rw [if_neg (by decide)]; rw [if_neg (by decide)]; rw [if_neg (by decide)]; rw [if_pos rfl]; exact Rnx hB_215 dX7_account_22 rfl
theorem v215_76 {d : Nat} {st : List MV} {h : Hp} {x : Option A3} {a1 : Option MV} : Ev d 215 76 [some (vO x), a1] st h = Ev d 215 77 [some (vO x), a1] (vO x :: st) h := Rnx (hB_215) (dX7_account_76) rfl
set_option maxRecDepth 100000 in
theorem v215_77 {d : Nat} {ls : LS3} {st : List MV} {h : Hp} {a : A3} (hS : gS h a = (1, 7)) : Ev d 215 77 ls (vR a :: st) h = Ev d 215 80 ls (vI (gI h a 7) :: st) h := Rget hB_215 dX7_account_77 rfl (Or.inl hS)
theorem v215_80 {d : Nat} {ls : LS3} {h : Hp} {x : Int32} : Ev d 215 80 ls [vI x] h = some (.inl (some (vI x)), h) := Rdn hB_215 dX7_account_80 rfl
theorem v215_81 {d : Nat} {st : List MV} {h : Hp} {x : Option A3} {a1 : Option MV} : Ev d 215 81 [some (vO x), a1] st h = Ev d 215 82 [some (vO x), a1] (vO x :: st) h := Rnx (hB_215) (dX7_account_81) rfl
set_option maxRecDepth 100000 in
theorem v215_82 {d : Nat} {ls : LS3} {st : List MV} {h : Hp} {a : A3} (hS : gS h a = (1, 7)) : Ev d 215 82 ls (vR a :: st) h = Ev d 215 85 ls (vI (gI h a 19) :: st) h := Rget hB_215 dX7_account_82 rfl (Or.inl hS)
theorem v215_85 {d : Nat} {ls : LS3} {h : Hp} {x : Int32} : Ev d 215 85 ls [vI x] h = some (.inl (some (vI x)), h) := Rdn hB_215 dX7_account_85 rfl
theorem v215_86 {d : Nat} {st : List MV} {h : Hp} {x : Option A3} {a1 : Option MV} : Ev d 215 86 [some (vO x), a1] st h = Ev d 215 87 [some (vO x), a1] (vO x :: st) h := Rnx (hB_215) (dX7_account_86) rfl
set_option maxRecDepth 100000 in
theorem v215_87 {d : Nat} {ls : LS3} {st : List MV} {h : Hp} {a : A3} (hS : gS h a = (1, 7)) : Ev d 215 87 ls (vR a :: st) h = Ev d 215 90 ls (vI (gI h a 20) :: st) h := Rget hB_215 dX7_account_87 rfl (Or.inl hS)
theorem v215_90 {d : Nat} {ls : LS3} {h : Hp} {x : Int32} : Ev d 215 90 ls [vI x] h = some (.inl (some (vI x)), h) := Rdn hB_215 dX7_account_90 rfl
theorem v215_91 {d : Nat} {st : List MV} {h : Hp} {x : Option A3} {a1 : Option MV} : Ev d 215 91 [some (vO x), a1] st h = Ev d 215 92 [some (vO x), a1] (vO x :: st) h := Rnx (hB_215) (dX7_account_91) rfl
set_option maxRecDepth 100000 in
theorem v215_92 {d : Nat} {ls : LS3} {st : List MV} {h : Hp} {a : A3} (hS : gS h a = (1, 7)) : Ev d 215 92 ls (vR a :: st) h = Ev d 215 95 ls (vI (gI h a 8) :: st) h := Rget hB_215 dX7_account_92 rfl (Or.inl hS)
theorem v215_95 {d : Nat} {ls : LS3} {h : Hp} {x : Int32} : Ev d 215 95 ls [vI x] h = some (.inl (some (vI x)), h) := Rdn hB_215 dX7_account_95 rfl
theorem v215_96 {d : Nat} {st : List MV} {h : Hp} {x : Option A3} {a1 : Option MV} : Ev d 215 96 [some (vO x), a1] st h = Ev d 215 97 [some (vO x), a1] (vO x :: st) h := Rnx (hB_215) (dX7_account_96) rfl
set_option maxRecDepth 100000 in
theorem v215_97 {d : Nat} {ls : LS3} {st : List MV} {h : Hp} {a : A3} (hS : gS h a = (1, 7)) : Ev d 215 97 ls (vR a :: st) h = Ev d 215 100 ls (vI (gI h a 21) :: st) h := Rget hB_215 dX7_account_97 rfl (Or.inl hS)
theorem v215_100 {d : Nat} {ls : LS3} {h : Hp} {x : Int32} : Ev d 215 100 ls [vI x] h = some (.inl (some (vI x)), h) := Rdn hB_215 dX7_account_100 rfl
theorem v215_101 {d : Nat} {st : List MV} {h : Hp} {x : Option A3} {a1 : Option MV} : Ev d 215 101 [some (vO x), a1] st h = Ev d 215 102 [some (vO x), a1] (vO x :: st) h := Rnx (hB_215) (dX7_account_101) rfl
set_option maxRecDepth 100000 in
theorem v215_102 {d : Nat} {ls : LS3} {st : List MV} {h : Hp} {a : A3}  (hS : gS h a = (1, 7)) (hc : catS st ≤ 8) : Ev (d + 1) 215 102 ls (vR a :: st) h = Evk 214 (d + 1) 215 102 ls st (Ev d 214 0 [some (vR a), none, none] [] h) := RcallO (idx := 251) (n := 0) (kd := 0) (As' := []) hB_215 dX7_account_102 rfl rfl (by decide) rfl rfl (Or.inl hS) rfl hc
theorem v215_105 {d : Nat} {ls : LS3} {h : Hp} {x : Int32} : Ev d 215 105 ls [vI x] h = some (.inl (some (vI x)), h) := Rdn hB_215 dX7_account_105 rfl
theorem v215_106 {d : Nat} {st : List MV} {h : Hp} {x : Option A3} {a1 : Option MV} : Ev d 215 106 [some (vO x), a1] st h = Ev d 215 107 [some (vO x), a1] (vO x :: st) h := Rnx (hB_215) (dX7_account_106) rfl
theorem v215_107 {d : Nat} {st : List MV} {h : Hp} {x : Int32} {a0 : Option MV} : Ev d 215 107 [a0, some (vI x)] st h = Ev d 215 108 [a0, some (vI x)] (vI x :: st) h := Rnx (hB_215) (dX7_account_107) rfl
set_option maxRecDepth 100000 in
theorem v215_108 {d : Nat} {ls : LS3} {st : List MV} {h : Hp} {a : A3} {x0 : Int32} (hS : gS h a = (1, 7)) (hc : catS st ≤ 8) : Ev (d + 1) 215 108 ls (vI x0 :: vR a :: st) h = Evk 213 (d + 1) 215 108 ls st (Ev d 213 0 [some (vR a), some (vI x0), none, none] [] h) := RcallO (idx := 255) (n := 1) (kd := 0) (As' := [vI x0]) hB_215 dX7_account_108 rfl rfl (by decide) rfl rfl (Or.inl hS) rfl hc
theorem v215_111 {d : Nat} {ls : LS3} {h : Hp} {x : Int32} : Ev d 215 111 ls [vI x] h = some (.inl (some (vI x)), h) := Rdn hB_215 dX7_account_111 rfl
theorem hB_216 : mB 216 = cX7_meanLoad := rfl
theorem v216_0 {d : Nat} {st : List MV} {h : Hp} {x : Option A3} {a1 a2 : Option MV} : Ev d 216 0 [some (vO x), a1, a2] st h = Ev d 216 1 [some (vO x), a1, a2] (vO x :: st) h := Rnx (hB_216) (dX7_meanLoad_0) rfl
theorem v216_1 {d : Nat} {st : List MV} {h : Hp} {x : Option A3} {a1 a2 : Option MV} : Ev d 216 1 [some (vO x), a1, a2] st h = Ev d 216 2 [some (vO x), a1, a2] (vO x :: st) h := Rnx (hB_216) (dX7_meanLoad_1) rfl
set_option maxRecDepth 100000 in
theorem v216_2 {d : Nat} {ls : LS3} {st : List MV} {h : Hp} {a : A3} (hS : gS h a = (1, 7)) : Ev d 216 2 ls (vR a :: st) h = Ev d 216 5 ls (vI (gI h a 7) :: st) h := Rget hB_216 dX7_meanLoad_2 rfl (Or.inl hS)
theorem v216_5 {d : Nat} {ls : LS3} {st : List MV} {h : Hp} {x : Int32} : Ev d 216 5 ls (vI x :: st) h = if x = 0 then Ev d 216 8 ls st h else Ev d 216 12 ls st h := Rifn hB_216 dX7_meanLoad_5 rfl
theorem v216_8 {d : Nat} {ls : LS3} {st : List MV} {h : Hp} : Ev d 216 8 ls st h = Ev d 216 9 ls (vI 1 :: st) h := Rnx (hB_216) (dX7_meanLoad_8) rfl
theorem v216_9 {d : Nat} {ls : LS3} {st : List MV} {h : Hp} : Ev d 216 9 ls st h = Ev d 216 13 ls st h := Rnx (hB_216) (dX7_meanLoad_9) rfl
theorem v216_12 {d : Nat} {ls : LS3} {st : List MV} {h : Hp} : Ev d 216 12 ls st h = Ev d 216 13 ls (vI 0 :: st) h := Rnx (hB_216) (dX7_meanLoad_12) rfl
set_option maxRecDepth 100000 in
theorem v216_13 {d : Nat} {ls : LS3} {st : List MV} {h : Hp} {a : A3} {x : Int32} (hS : gS h a = (1, 7)) : Ev d 216 13 ls (vI x :: vR a :: st) h = Ev d 216 16 ls st (sI h a 0 x) := RputI hB_216 dX7_meanLoad_13 rfl rfl (by decide) hS (Or.inl rfl)
theorem v216_16 {d : Nat} {ls : LS3} {st : List MV} {h : Hp} : Ev d 216 16 ls st h = Ev d 216 17 ls (vI 0 :: st) h := Rnx (hB_216) (dX7_meanLoad_16) rfl
theorem v216_17 {d : Nat} {st : List MV} {h : Hp} {x : Int32} {a0 a1 a2 : Option MV} : Ev d 216 17 [a0, a1, a2] (vI x :: st) h = Ev d 216 18 [a0, some (vI x), a2] st h := Rnx (hB_216) (dX7_meanLoad_17) rfl
theorem v216_18 {d : Nat} {ls : LS3} {st : List MV} {h : Hp} : Ev d 216 18 ls st h = Ev d 216 19 ls (vI 0 :: st) h := Rnx (hB_216) (dX7_meanLoad_18) rfl
theorem v216_19 {d : Nat} {st : List MV} {h : Hp} {x : Int32} {a0 a1 a2 : Option MV} : Ev d 216 19 [a0, a1, a2] (vI x :: st) h = Ev d 216 20 [a0, a1, some (vI x)] st h := Rnx (hB_216) (dX7_meanLoad_19) rfl
theorem v216_20 {d : Nat} {st : List MV} {h : Hp} {x : Int32} {a0 a1 : Option MV} : Ev d 216 20 [a0, a1, some (vI x)] st h = Ev d 216 21 [a0, a1, some (vI x)] (vI x :: st) h := Rnx (hB_216) (dX7_meanLoad_20) rfl
theorem v216_21 {d : Nat} {st : List MV} {h : Hp} {x : Option A3} {a1 a2 : Option MV} : Ev d 216 21 [some (vO x), a1, a2] st h = Ev d 216 22 [some (vO x), a1, a2] (vO x :: st) h := Rnx (hB_216) (dX7_meanLoad_21) rfl
set_option maxRecDepth 100000 in
theorem v216_22 {d : Nat} {ls : LS3} {st : List MV} {h : Hp} {a : A3} (hS : gS h a = (1, 7)) : Ev d 216 22 ls (vR a :: st) h = Ev d 216 25 ls (vI (gI h a 7) :: st) h := Rget hB_216 dX7_meanLoad_22 rfl (Or.inl hS)
theorem v216_25 {d : Nat} {ls : LS3} {st : List MV} {h : Hp} {x y : Int32} : Ev d 216 25 ls (vI y :: vI x :: st) h = if y ≤ x then Ev d 216 42 ls st h else Ev d 216 28 ls st h := Rif hB_216 dX7_meanLoad_25 rfl
theorem v216_28 {d : Nat} {st : List MV} {h : Hp} {x : Int32} {a0 a2 : Option MV} : Ev d 216 28 [a0, some (vI x), a2] st h = Ev d 216 29 [a0, some (vI x), a2] (vI x :: st) h := Rnx (hB_216) (dX7_meanLoad_28) rfl
theorem v216_29 {d : Nat} {st : List MV} {h : Hp} {x : Option A3} {a1 a2 : Option MV} : Ev d 216 29 [some (vO x), a1, a2] st h = Ev d 216 30 [some (vO x), a1, a2] (vO x :: st) h := Rnx (hB_216) (dX7_meanLoad_29) rfl
theorem v216_30 {d : Nat} {st : List MV} {h : Hp} {x : Int32} {a0 a1 : Option MV} : Ev d 216 30 [a0, a1, some (vI x)] st h = Ev d 216 31 [a0, a1, some (vI x)] (vI x :: st) h := Rnx (hB_216) (dX7_meanLoad_30) rfl
set_option maxRecDepth 100000 in
theorem v216_31 {d : Nat} {ls : LS3} {st : List MV} {h : Hp} {a : A3} {x0 : Int32} (hS : gS h a = (1, 7)) (hc : catS st ≤ 8) : Ev (d + 1) 216 31 ls (vI x0 :: vR a :: st) h = Evk 157 (d + 1) 216 31 ls st (Ev d 157 0 [some (vR a), some (vI x0), none, none] [] h) := RcallO (idx := 125) (n := 1) (kd := 0) (As' := [vI x0]) hB_216 dX7_meanLoad_31 rfl rfl (by decide) rfl rfl (Or.inl hS) rfl hc
theorem v216_34 {d : Nat} {ls : LS3} {st : List MV} {h : Hp} {x y : Int32} : Ev d 216 34 ls (vI y :: vI x :: st) h = Ev d 216 35 ls (vI (x + y) :: st) h := Rnx (hB_216) (dX7_meanLoad_34) rfl
theorem v216_35 {d : Nat} {st : List MV} {h : Hp} {x : Int32} {a0 a1 a2 : Option MV} : Ev d 216 35 [a0, a1, a2] (vI x :: st) h = Ev d 216 36 [a0, some (vI x), a2] st h := Rnx (hB_216) (dX7_meanLoad_35) rfl
theorem v216_36 {d : Nat} {st : List MV} {h : Hp} {x : Int32} {a0 a1 : Option MV} : Ev d 216 36 [a0, a1, some (vI x)] st h = Ev d 216 39 [a0, a1, some (vI (x + 1))] st h := Rnx (hB_216) (dX7_meanLoad_36) rfl
theorem v216_39 {d : Nat} {ls : LS3} {st : List MV} {h : Hp} : Ev d 216 39 ls st h = Ev d 216 20 ls st h := Rnx (hB_216) (dX7_meanLoad_39) rfl
theorem v216_42 {d : Nat} {st : List MV} {h : Hp} {x : Option A3} {a1 a2 : Option MV} : Ev d 216 42 [some (vO x), a1, a2] st h = Ev d 216 43 [some (vO x), a1, a2] (vO x :: st) h := Rnx (hB_216) (dX7_meanLoad_42) rfl
set_option maxRecDepth 100000 in
theorem v216_43 {d : Nat} {ls : LS3} {st : List MV} {h : Hp} {a : A3} (hS : gS h a = (1, 7)) : Ev d 216 43 ls (vR a :: st) h = Ev d 216 46 ls (vI (gI h a 7) :: st) h := Rget hB_216 dX7_meanLoad_43 rfl (Or.inl hS)
theorem v216_46 {d : Nat} {ls : LS3} {st : List MV} {h : Hp} {x : Int32} : Ev d 216 46 ls (vI x :: st) h = if x = 0 then Ev d 216 49 ls st h else Ev d 216 53 ls st h := Rifn hB_216 dX7_meanLoad_46 rfl
theorem v216_49 {d : Nat} {ls : LS3} {st : List MV} {h : Hp} : Ev d 216 49 ls st h = Ev d 216 50 ls (vD FP.dconst0 :: st) h := Rnx (hB_216) (dX7_meanLoad_49) rfl
theorem v216_50 {d : Nat} {ls : LS3} {st : List MV} {h : Hp} : Ev d 216 50 ls st h = Ev d 216 61 ls st h := Rnx (hB_216) (dX7_meanLoad_50) rfl
theorem v216_53 {d : Nat} {st : List MV} {h : Hp} {x : Int32} {a0 a2 : Option MV} : Ev d 216 53 [a0, some (vI x), a2] st h = Ev d 216 54 [a0, some (vI x), a2] (vI x :: st) h := Rnx (hB_216) (dX7_meanLoad_53) rfl
theorem v216_54 {d : Nat} {ls : LS3} {st : List MV} {h : Hp} {x : Int32} : Ev d 216 54 ls (vI x :: st) h = Ev d 216 55 ls (vD (FP.i2d x) :: st) h := Rnx (hB_216) (dX7_meanLoad_54) rfl
theorem v216_55 {d : Nat} {st : List MV} {h : Hp} {x : Option A3} {a1 a2 : Option MV} : Ev d 216 55 [some (vO x), a1, a2] st h = Ev d 216 56 [some (vO x), a1, a2] (vO x :: st) h := Rnx (hB_216) (dX7_meanLoad_55) rfl
set_option maxRecDepth 100000 in
theorem v216_56 {d : Nat} {ls : LS3} {st : List MV} {h : Hp} {a : A3} (hS : gS h a = (1, 7)) : Ev d 216 56 ls (vR a :: st) h = Ev d 216 59 ls (vI (gI h a 7) :: st) h := Rget hB_216 dX7_meanLoad_56 rfl (Or.inl hS)
theorem v216_59 {d : Nat} {ls : LS3} {st : List MV} {h : Hp} {x : Int32} : Ev d 216 59 ls (vI x :: st) h = Ev d 216 60 ls (vD (FP.i2d x) :: st) h := Rnx (hB_216) (dX7_meanLoad_59) rfl
theorem v216_61 {d : Nat} {ls : LS3} {h : Hp} {x : UInt64} : Ev d 216 61 ls [vD x] h = some (.inl (some (vD x)), h) := Rdn hB_216 dX7_meanLoad_61 rfl
theorem hB_217 : mB 217 = cX7_append := rfl
theorem v217_0 {d : Nat} {st : List MV} {h : Hp} {x : Int32} {a0 : Option MV} : Ev d 217 0 [a0, some (vI x)] st h = Ev d 217 1 [a0, some (vI x)] (vI x :: st) h := Rnx (hB_217) (dX7_append_0) rfl
theorem v217_1 {d : Nat} {ls : LS3} {st : List MV} {h : Hp} : Ev d 217 1 ls st h = Ev d 217 3 ls (vI 32 :: st) h := Rnx (hB_217) (dX7_append_1) rfl
theorem v217_3 {d : Nat} {ls : LS3} {st : List MV} {h : Hp} : Ev d 217 3 ls st h = Ev d 217 5 ls (vI 126 :: st) h := Rnx (hB_217) (dX7_append_3) rfl
set_option maxRecDepth 100000 in
theorem v217_5 {d : Nat} {ls : LS3} {st : List MV} {h : Hp} {x0 : Int32} {x1 : Int32} {x2 : Int32} (hc : catS st ≤ 8) : Ev (d + 1) 217 5 ls (vI x2 :: vI x1 :: vI x0 :: st) h = Evk 143 (d + 1) 217 5 ls st (Ev d 143 0 [some (vI x0), some (vI x1), some (vI x2)] [] h) := RcallS (idx := 87) (n := 3) (kd := 1) (As := [vI x0, vI x1, vI x2]) hB_217 dX7_append_5 rfl rfl (by decide) rfl rfl rfl hc
theorem v217_8 {d : Nat} {ls : LS3} {st : List MV} {h : Hp} {x : Int32} : Ev d 217 8 ls (vI x :: st) h = if x = 0 then Ev d 217 11 ls st h else Ev d 217 17 ls st h := Rifn hB_217 dX7_append_8 rfl
theorem v217_11 {d : Nat} {st : List MV} {h : Hp} {x : Option A3} {a1 : Option MV} : Ev d 217 11 [some (vO x), a1] st h = Ev d 217 12 [some (vO x), a1] (vO x :: st) h := Rnx (hB_217) (dX7_append_11) rfl
theorem v217_12 {d : Nat} {ls : LS3} {st : List MV} {h : Hp} : Ev d 217 12 ls st h = Ev d 217 13 ls (vI 1 :: st) h := Rnx (hB_217) (dX7_append_12) rfl
set_option maxRecDepth 100000 in
theorem v217_13 {d : Nat} {ls : LS3} {st : List MV} {h : Hp} {a : A3} {x0 : Int32} (hS : gS h a = (1, 7)) (hc : catS st ≤ 8) : Ev (d + 1) 217 13 ls (vI x0 :: vR a :: st) h = Evk 141 (d + 1) 217 13 ls st (Ev d 141 0 [some (vR a), some (vI x0)] [] h) := RcallO (idx := 168) (n := 1) (kd := 0) (As' := [vI x0]) hB_217 dX7_append_13 rfl rfl (by decide) rfl rfl (Or.inl hS) rfl hc
theorem v217_16 {d : Nat} {ls : LS3} {h : Hp} {x : Int32} : Ev d 217 16 ls [vI x] h = some (.inl (some (vI x)), h) := Rdn hB_217 dX7_append_16 rfl
theorem v217_17 {d : Nat} {st : List MV} {h : Hp} {x : Option A3} {a1 : Option MV} : Ev d 217 17 [some (vO x), a1] st h = Ev d 217 18 [some (vO x), a1] (vO x :: st) h := Rnx (hB_217) (dX7_append_17) rfl
set_option maxRecDepth 100000 in
theorem v217_18 {d : Nat} {ls : LS3} {st : List MV} {h : Hp} {a : A3} (hS : gS h a = (1, 7)) : Ev d 217 18 ls (vR a :: st) h = Ev d 217 21 ls (vI (gI h a 26) :: st) h := Rget hB_217 dX7_append_18 rfl (Or.inl hS)
theorem v217_21 {d : Nat} {ls : LS3} {st : List MV} {h : Hp} : Ev d 217 21 ls st h = Ev d 217 23 ls (vI 60 :: st) h := Rnx (hB_217) (dX7_append_21) rfl
theorem v217_23 {d : Nat} {ls : LS3} {st : List MV} {h : Hp} {x y : Int32} : Ev d 217 23 ls (vI y :: vI x :: st) h = if x = y then Ev d 217 26 ls st h else Ev d 217 32 ls st h := Rifn hB_217 dX7_append_23 rfl
theorem v217_26 {d : Nat} {st : List MV} {h : Hp} {x : Option A3} {a1 : Option MV} : Ev d 217 26 [some (vO x), a1] st h = Ev d 217 27 [some (vO x), a1] (vO x :: st) h := Rnx (hB_217) (dX7_append_26) rfl
theorem v217_27 {d : Nat} {ls : LS3} {st : List MV} {h : Hp} : Ev d 217 27 ls st h = Ev d 217 28 ls (vI 2 :: st) h := Rnx (hB_217) (dX7_append_27) rfl
set_option maxRecDepth 100000 in
theorem v217_28 {d : Nat} {ls : LS3} {st : List MV} {h : Hp} {a : A3} {x0 : Int32} (hS : gS h a = (1, 7)) (hc : catS st ≤ 8) : Ev (d + 1) 217 28 ls (vI x0 :: vR a :: st) h = Evk 141 (d + 1) 217 28 ls st (Ev d 141 0 [some (vR a), some (vI x0)] [] h) := RcallO (idx := 168) (n := 1) (kd := 0) (As' := [vI x0]) hB_217 dX7_append_28 rfl rfl (by decide) rfl rfl (Or.inl hS) rfl hc
theorem v217_31 {d : Nat} {ls : LS3} {h : Hp} {x : Int32} : Ev d 217 31 ls [vI x] h = some (.inl (some (vI x)), h) := Rdn hB_217 dX7_append_31 rfl
theorem v217_32 {d : Nat} {st : List MV} {h : Hp} {x : Option A3} {a1 : Option MV} : Ev d 217 32 [some (vO x), a1] st h = Ev d 217 33 [some (vO x), a1] (vO x :: st) h := Rnx (hB_217) (dX7_append_32) rfl
theorem v217_33 {d : Nat} {ls : LS3} {st : List MV} {h : Hp} : Ev d 217 33 ls st h = Ev d 217 34 ls (vI 0 :: st) h := Rnx (hB_217) (dX7_append_33) rfl
set_option maxRecDepth 100000 in
theorem v217_34 {d : Nat} {ls : LS3} {st : List MV} {h : Hp} {a : A3} {x : Int32} (hS : gS h a = (1, 7)) : Ev d 217 34 ls (vI x :: vR a :: st) h = Ev d 217 37 ls st (sI h a 0 x) := RputI hB_217 dX7_append_34 rfl rfl (by decide) hS (Or.inl rfl)
theorem v217_37 {d : Nat} {st : List MV} {h : Hp} {x : Option A3} {a1 : Option MV} : Ev d 217 37 [some (vO x), a1] st h = Ev d 217 38 [some (vO x), a1] (vO x :: st) h := Rnx (hB_217) (dX7_append_37) rfl
set_option maxRecDepth 100000 in
theorem v217_38 {d : Nat} {ls : LS3} {st : List MV} {h : Hp} {a : A3} (hS : gS h a = (1, 7)) : Ev d 217 38 ls (vR a :: st) h = Ev d 217 41 ls (vO (gR h a 23) :: st) h := Rget hB_217 dX7_append_38 rfl (Or.inl hS)
theorem v217_41 {d : Nat} {st : List MV} {h : Hp} {x : Option A3} {a1 : Option MV} : Ev d 217 41 [some (vO x), a1] st h = Ev d 217 42 [some (vO x), a1] (vO x :: st) h := Rnx (hB_217) (dX7_append_41) rfl
set_option maxRecDepth 100000 in
theorem v217_42 {d : Nat} {ls : LS3} {st : List MV} {h : Hp} {a : A3} (hS : gS h a = (1, 7)) : Ev d 217 42 ls (vR a :: st) h = Ev d 217 45 ls (vI (gI h a 26) :: st) h := Rget hB_217 dX7_append_42 rfl (Or.inl hS)
theorem v217_45 {d : Nat} {st : List MV} {h : Hp} {x : Int32} {a0 : Option MV} : Ev d 217 45 [a0, some (vI x)] st h = Ev d 217 46 [a0, some (vI x)] (vI x :: st) h := Rnx (hB_217) (dX7_append_45) rfl
theorem v217_46 {d : Nat} {ls : LS3} {st : List MV} {h : Hp} {a : A3} {j : Int32} {x : Int32} (hS : (gS h a).1 = 3) (hj : inB j (gS h a).2) : Ev d 217 46 ls (vI x :: vI j :: vR a :: st) h = Ev d 217 47 ls st (sI h a j.toNatClampNeg (vp_nar .char x)) := RastC hB_217 dX7_append_46 hS hj
theorem v217_47 {d : Nat} {st : List MV} {h : Hp} {x : Option A3} {a1 : Option MV} : Ev d 217 47 [some (vO x), a1] st h = Ev d 217 48 [some (vO x), a1] (vO x :: st) h := Rnx (hB_217) (dX7_append_47) rfl
theorem v217_48 {d : Nat} {ls : LS3} {st : List MV} {h : Hp} {v : MV} (hv : cat1 v = true) : Ev d 217 48 ls (v :: st) h = Ev d 217 49 ls (v :: v :: st) h := Rdup hB_217 dX7_append_48 hv
set_option maxRecDepth 100000 in
theorem v217_49 {d : Nat} {ls : LS3} {st : List MV} {h : Hp} {a : A3} (hS : gS h a = (1, 7)) : Ev d 217 49 ls (vR a :: st) h = Ev d 217 52 ls (vI (gI h a 26) :: st) h := Rget hB_217 dX7_append_49 rfl (Or.inl hS)
theorem v217_52 {d : Nat} {ls : LS3} {st : List MV} {h : Hp} : Ev d 217 52 ls st h = Ev d 217 53 ls (vI 1 :: st) h := Rnx (hB_217) (dX7_append_52) rfl
theorem v217_53 {d : Nat} {ls : LS3} {st : List MV} {h : Hp} {x y : Int32} : Ev d 217 53 ls (vI y :: vI x :: st) h = Ev d 217 54 ls (vI (x + y) :: st) h := Rnx (hB_217) (dX7_append_53) rfl
set_option maxRecDepth 100000 in
theorem v217_54 {d : Nat} {ls : LS3} {st : List MV} {h : Hp} {a : A3} {x : Int32} (hS : gS h a = (1, 7)) : Ev d 217 54 ls (vI x :: vR a :: st) h = Ev d 217 57 ls st (sI h a 26 x) := RputI hB_217 dX7_append_54 rfl rfl (by decide) hS (Or.inl rfl)
theorem v217_57 {d : Nat} {st : List MV} {h : Hp} {x : Option A3} {a1 : Option MV} : Ev d 217 57 [some (vO x), a1] st h = Ev d 217 58 [some (vO x), a1] (vO x :: st) h := Rnx (hB_217) (dX7_append_57) rfl
set_option maxRecDepth 100000 in
theorem v217_58 {d : Nat} {ls : LS3} {st : List MV} {h : Hp} {a : A3} (hS : gS h a = (1, 7)) : Ev d 217 58 ls (vR a :: st) h = Ev d 217 61 ls (vI (gI h a 26) :: st) h := Rget hB_217 dX7_append_58 rfl (Or.inl hS)
theorem v217_61 {d : Nat} {ls : LS3} {h : Hp} {x : Int32} : Ev d 217 61 ls [vI x] h = some (.inl (some (vI x)), h) := Rdn hB_217 dX7_append_61 rfl
theorem hB_218 : mB 218 = cX7_sign := rfl
theorem v218_0 {d : Nat} {st : List MV} {h : Hp} {x : Option A3} : Ev d 218 0 [some (vO x)] st h = Ev d 218 1 [some (vO x)] (vO x :: st) h := Rnx (hB_218) (dX7_sign_0) rfl
set_option maxRecDepth 100000 in
theorem v218_1 {d : Nat} {ls : LS3} {st : List MV} {h : Hp} {a : A3} (hS : gS h a = (1, 7)) : Ev d 218 1 ls (vR a :: st) h = Ev d 218 4 ls (vI (gI h a 27) :: st) h := Rget hB_218 dX7_sign_1 rfl (Or.inl hS)
theorem v218_4 {d : Nat} {st : List MV} {h : Hp} {x : Option A3} : Ev d 218 4 [some (vO x)] st h = Ev d 218 5 [some (vO x)] (vO x :: st) h := Rnx (hB_218) (dX7_sign_4) rfl
set_option maxRecDepth 100000 in
theorem v218_5 {d : Nat} {ls : LS3} {st : List MV} {h : Hp} {a : A3} (hS : gS h a = (1, 7)) : Ev d 218 5 ls (vR a :: st) h = Ev d 218 8 ls (vI (gI h a 26) :: st) h := Rget hB_218 dX7_sign_5 rfl (Or.inl hS)
theorem v218_8 {d : Nat} {ls : LS3} {st : List MV} {h : Hp} {x y : Int32} : Ev d 218 8 ls (vI y :: vI x :: st) h = if y ≤ x then Ev d 218 23 ls st h else Ev d 218 11 ls st h := Rif hB_218 dX7_sign_8 rfl
theorem v218_11 {d : Nat} {st : List MV} {h : Hp} {x : Option A3} : Ev d 218 11 [some (vO x)] st h = Ev d 218 12 [some (vO x)] (vO x :: st) h := Rnx (hB_218) (dX7_sign_11) rfl
set_option maxRecDepth 100000 in
theorem v218_12 {d : Nat} {ls : LS3} {st : List MV} {h : Hp} {a : A3} (hS : gS h a = (1, 7)) : Ev d 218 12 ls (vR a :: st) h = Ev d 218 15 ls (vO (gR h a 23) :: st) h := Rget hB_218 dX7_sign_12 rfl (Or.inl hS)
theorem v218_15 {d : Nat} {st : List MV} {h : Hp} {x : Option A3} : Ev d 218 15 [some (vO x)] st h = Ev d 218 16 [some (vO x)] (vO x :: st) h := Rnx (hB_218) (dX7_sign_15) rfl
set_option maxRecDepth 100000 in
theorem v218_16 {d : Nat} {ls : LS3} {st : List MV} {h : Hp} {a : A3} (hS : gS h a = (1, 7)) : Ev d 218 16 ls (vR a :: st) h = Ev d 218 19 ls (vI (gI h a 27) :: st) h := Rget hB_218 dX7_sign_16 rfl (Or.inl hS)
theorem v218_19 {d : Nat} {ls : LS3} {st : List MV} {h : Hp} {a : A3} {j : Int32} (hS : (gS h a).1 ∈ [3]) (hj : inB j (gS h a).2) : Ev d 218 19 ls (vI j :: vR a :: st) h = Ev d 218 20 ls (vI (gI h a j.toNatClampNeg) :: st) h := Rald (ks := [3]) (f := fun a j => vI (gI h a j)) hB_218 dX7_sign_19 rfl hS hj
theorem v218_20 {d : Nat} {ls : LS3} {st : List MV} {h : Hp} : Ev d 218 20 ls st h = Ev d 218 24 ls st h := Rnx (hB_218) (dX7_sign_20) rfl
theorem v218_23 {d : Nat} {ls : LS3} {st : List MV} {h : Hp} : Ev d 218 23 ls st h = Ev d 218 24 ls (vI (-1) :: st) h := Rnx (hB_218) (dX7_sign_23) rfl
theorem v218_24 {d : Nat} {ls : LS3} {h : Hp} {x : Int32} : Ev d 218 24 ls [vI x] h = some (.inl (some (vI x)), h) := Rdn hB_218 dX7_sign_24 rfl
theorem hB_219 : mB 219 = cX7_skips := rfl
theorem v219_0 {d : Nat} {st : List MV} {h : Hp} {x : Option A3} {a1 : Option MV} : Ev d 219 0 [some (vO x), a1] st h = Ev d 219 1 [some (vO x), a1] (vO x :: st) h := Rnx (hB_219) (dX7_skips_0) rfl
set_option maxRecDepth 100000 in
theorem v219_1 {d : Nat} {ls : LS3} {st : List MV} {h : Hp} {a : A3}  (hS : gS h a = (1, 7)) (hc : catS st ≤ 8) : Ev (d + 1) 219 1 ls (vR a :: st) h = Evk 218 (d + 1) 219 1 ls st (Ev d 218 0 [some (vR a)] [] h) := RcallO (idx := 264) (n := 0) (kd := 0) (As' := []) hB_219 dX7_skips_1 rfl rfl (by decide) rfl rfl (Or.inl hS) rfl hc
theorem v219_4 {d : Nat} {st : List MV} {h : Hp} {x : Int32} {a0 : Option MV} : Ev d 219 4 [a0, some (vI x)] st h = Ev d 219 5 [a0, some (vI x)] (vI x :: st) h := Rnx (hB_219) (dX7_skips_4) rfl
theorem v219_5 {d : Nat} {ls : LS3} {st : List MV} {h : Hp} {x y : Int32} : Ev d 219 5 ls (vI y :: vI x :: st) h = if x = y then Ev d 219 10 ls st h else Ev d 219 8 ls st h := Rif hB_219 dX7_skips_5 rfl
theorem v219_8 {d : Nat} {ls : LS3} {st : List MV} {h : Hp} : Ev d 219 8 ls st h = Ev d 219 9 ls (vI 0 :: st) h := Rnx (hB_219) (dX7_skips_8) rfl
theorem v219_9 {d : Nat} {ls : LS3} {h : Hp} {x : Int32} (hx : x = 0 ∨ x = 1) : Ev d 219 9 ls [vI x] h = some (.inl (some (vI x)), h) := RretB hB_219 dX7_skips_9 rfl hx
theorem v219_10 {d : Nat} {st : List MV} {h : Hp} {x : Option A3} {a1 : Option MV} : Ev d 219 10 [some (vO x), a1] st h = Ev d 219 11 [some (vO x), a1] (vO x :: st) h := Rnx (hB_219) (dX7_skips_10) rfl
theorem v219_11 {d : Nat} {ls : LS3} {st : List MV} {h : Hp} {v : MV} (hv : cat1 v = true) : Ev d 219 11 ls (v :: st) h = Ev d 219 12 ls (v :: v :: st) h := Rdup hB_219 dX7_skips_11 hv
set_option maxRecDepth 100000 in
theorem v219_12 {d : Nat} {ls : LS3} {st : List MV} {h : Hp} {a : A3} (hS : gS h a = (1, 7)) : Ev d 219 12 ls (vR a :: st) h = Ev d 219 15 ls (vI (gI h a 27) :: st) h := Rget hB_219 dX7_skips_12 rfl (Or.inl hS)
theorem v219_15 {d : Nat} {ls : LS3} {st : List MV} {h : Hp} : Ev d 219 15 ls st h = Ev d 219 16 ls (vI 1 :: st) h := Rnx (hB_219) (dX7_skips_15) rfl
theorem v219_16 {d : Nat} {ls : LS3} {st : List MV} {h : Hp} {x y : Int32} : Ev d 219 16 ls (vI y :: vI x :: st) h = Ev d 219 17 ls (vI (x + y) :: st) h := Rnx (hB_219) (dX7_skips_16) rfl
set_option maxRecDepth 100000 in
theorem v219_17 {d : Nat} {ls : LS3} {st : List MV} {h : Hp} {a : A3} {x : Int32} (hS : gS h a = (1, 7)) : Ev d 219 17 ls (vI x :: vR a :: st) h = Ev d 219 20 ls st (sI h a 27 x) := RputI hB_219 dX7_skips_17 rfl rfl (by decide) hS (Or.inl rfl)
theorem v219_20 {d : Nat} {ls : LS3} {st : List MV} {h : Hp} : Ev d 219 20 ls st h = Ev d 219 21 ls (vI 1 :: st) h := Rnx (hB_219) (dX7_skips_20) rfl
theorem v219_21 {d : Nat} {ls : LS3} {h : Hp} {x : Int32} (hx : x = 0 ∨ x = 1) : Ev d 219 21 ls [vI x] h = some (.inl (some (vI x)), h) := RretB hB_219 dX7_skips_21 rfl hx
theorem hB_220 : mB 220 = cX7_takesDigits := rfl
theorem v220_0 {d : Nat} {st : List MV} {h : Hp} {x : Option A3} {a1 a2 a3 a4 : Option MV} : Ev d 220 0 [some (vO x), a1, a2, a3, a4] st h = Ev d 220 1 [some (vO x), a1, a2, a3, a4] (vO x :: st) h := Rnx (hB_220) (dX7_takesDigits_0) rfl
set_option maxRecDepth 100000 in
theorem v220_1 {d : Nat} {ls : LS3} {st : List MV} {h : Hp} {a : A3}  (hS : gS h a = (1, 7)) (hc : catS st ≤ 8) : Ev (d + 1) 220 1 ls (vR a :: st) h = Evk 218 (d + 1) 220 1 ls st (Ev d 218 0 [some (vR a)] [] h) := RcallO (idx := 264) (n := 0) (kd := 0) (As' := []) hB_220 dX7_takesDigits_1 rfl rfl (by decide) rfl rfl (Or.inl hS) rfl hc
theorem v220_4 {d : Nat} {ls : LS3} {st : List MV} {h : Hp} : Ev d 220 4 ls st h = Ev d 220 6 ls (vI 48 :: st) h := Rnx (hB_220) (dX7_takesDigits_4) rfl
theorem v220_6 {d : Nat} {ls : LS3} {st : List MV} {h : Hp} : Ev d 220 6 ls st h = Ev d 220 8 ls (vI 57 :: st) h := Rnx (hB_220) (dX7_takesDigits_6) rfl
set_option maxRecDepth 100000 in
theorem v220_8 {d : Nat} {ls : LS3} {st : List MV} {h : Hp} {x0 : Int32} {x1 : Int32} {x2 : Int32} (hc : catS st ≤ 8) : Ev (d + 1) 220 8 ls (vI x2 :: vI x1 :: vI x0 :: st) h = Evk 143 (d + 1) 220 8 ls st (Ev d 143 0 [some (vI x0), some (vI x1), some (vI x2)] [] h) := RcallS (idx := 87) (n := 3) (kd := 1) (As := [vI x0, vI x1, vI x2]) hB_220 dX7_takesDigits_8 rfl rfl (by decide) rfl rfl rfl hc
theorem v220_11 {d : Nat} {ls : LS3} {st : List MV} {h : Hp} {x : Int32} : Ev d 220 11 ls (vI x :: st) h = if x = 0 then Ev d 220 14 ls st h else Ev d 220 16 ls st h := Rifn hB_220 dX7_takesDigits_11 rfl
theorem v220_14 {d : Nat} {ls : LS3} {st : List MV} {h : Hp} : Ev d 220 14 ls st h = Ev d 220 15 ls (vI 0 :: st) h := Rnx (hB_220) (dX7_takesDigits_14) rfl
theorem v220_15 {d : Nat} {ls : LS3} {h : Hp} {x : Int32} (hx : x = 0 ∨ x = 1) : Ev d 220 15 ls [vI x] h = some (.inl (some (vI x)), h) := RretB hB_220 dX7_takesDigits_15 rfl hx
theorem v220_16 {d : Nat} {ls : LS3} {st : List MV} {h : Hp} : Ev d 220 16 ls st h = Ev d 220 17 ls (vI 0 :: st) h := Rnx (hB_220) (dX7_takesDigits_16) rfl
theorem v220_17 {d : Nat} {st : List MV} {h : Hp} {x : Int32} {a0 a1 a2 a3 a4 : Option MV} : Ev d 220 17 [a0, a1, a2, a3, a4] (vI x :: st) h = Ev d 220 18 [a0, a1, a2, some (vI x), a4] st h := Rnx (hB_220) (dX7_takesDigits_17) rfl
theorem v220_18 {d : Nat} {ls : LS3} {st : List MV} {h : Hp} : Ev d 220 18 ls st h = Ev d 220 19 ls (vI 0 :: st) h := Rnx (hB_220) (dX7_takesDigits_18) rfl
theorem v220_19 {d : Nat} {st : List MV} {h : Hp} {x : Int32} {a0 a1 a2 a3 a4 : Option MV} : Ev d 220 19 [a0, a1, a2, a3, a4] (vI x :: st) h = Ev d 220 21 [a0, a1, a2, a3, some (vI x)] st h := Rnx (hB_220) (dX7_takesDigits_19) rfl
theorem v220_21 {d : Nat} {st : List MV} {h : Hp} {x : Int32} {a0 a1 a2 a3 : Option MV} : Ev d 220 21 [a0, a1, a2, a3, some (vI x)] st h = Ev d 220 23 [a0, a1, a2, a3, some (vI x)] (vI x :: st) h := Rnx (hB_220) (dX7_takesDigits_21) rfl
theorem v220_23 {d : Nat} {st : List MV} {h : Hp} {x : Int32} {a0 a1 a3 a4 : Option MV} : Ev d 220 23 [a0, a1, some (vI x), a3, a4] st h = Ev d 220 24 [a0, a1, some (vI x), a3, a4] (vI x :: st) h := Rnx (hB_220) (dX7_takesDigits_23) rfl
theorem v220_24 {d : Nat} {ls : LS3} {st : List MV} {h : Hp} {x y : Int32} : Ev d 220 24 ls (vI y :: vI x :: st) h = if y ≤ x then Ev d 220 70 ls st h else Ev d 220 27 ls st h := Rif hB_220 dX7_takesDigits_24 rfl
theorem v220_27 {d : Nat} {st : List MV} {h : Hp} {x : Option A3} {a1 a2 a3 a4 : Option MV} : Ev d 220 27 [some (vO x), a1, a2, a3, a4] st h = Ev d 220 28 [some (vO x), a1, a2, a3, a4] (vO x :: st) h := Rnx (hB_220) (dX7_takesDigits_27) rfl
set_option maxRecDepth 100000 in
theorem v220_28 {d : Nat} {ls : LS3} {st : List MV} {h : Hp} {a : A3}  (hS : gS h a = (1, 7)) (hc : catS st ≤ 8) : Ev (d + 1) 220 28 ls (vR a :: st) h = Evk 218 (d + 1) 220 28 ls st (Ev d 218 0 [some (vR a)] [] h) := RcallO (idx := 264) (n := 0) (kd := 0) (As' := []) hB_220 dX7_takesDigits_28 rfl rfl (by decide) rfl rfl (Or.inl hS) rfl hc
theorem v220_31 {d : Nat} {ls : LS3} {st : List MV} {h : Hp} : Ev d 220 31 ls st h = Ev d 220 33 ls (vI 48 :: st) h := Rnx (hB_220) (dX7_takesDigits_31) rfl
theorem v220_33 {d : Nat} {ls : LS3} {st : List MV} {h : Hp} : Ev d 220 33 ls st h = Ev d 220 35 ls (vI 57 :: st) h := Rnx (hB_220) (dX7_takesDigits_33) rfl
set_option maxRecDepth 100000 in
theorem v220_35 {d : Nat} {ls : LS3} {st : List MV} {h : Hp} {x0 : Int32} {x1 : Int32} {x2 : Int32} (hc : catS st ≤ 8) : Ev (d + 1) 220 35 ls (vI x2 :: vI x1 :: vI x0 :: st) h = Evk 143 (d + 1) 220 35 ls st (Ev d 143 0 [some (vI x0), some (vI x1), some (vI x2)] [] h) := RcallS (idx := 87) (n := 3) (kd := 1) (As := [vI x0, vI x1, vI x2]) hB_220 dX7_takesDigits_35 rfl rfl (by decide) rfl rfl rfl hc
theorem v220_38 {d : Nat} {ls : LS3} {st : List MV} {h : Hp} {x : Int32} : Ev d 220 38 ls (vI x :: st) h = if x = 0 then Ev d 220 70 ls st h else Ev d 220 41 ls st h := Rif hB_220 dX7_takesDigits_38 rfl
theorem v220_41 {d : Nat} {ls : LS3} {st : List MV} {h : Hp} : Ev d 220 41 ls st h = Ev d 220 43 ls (vI 10 :: st) h := Rnx (hB_220) (dX7_takesDigits_41) rfl
theorem v220_43 {d : Nat} {st : List MV} {h : Hp} {x : Int32} {a0 a1 a2 a4 : Option MV} : Ev d 220 43 [a0, a1, a2, some (vI x), a4] st h = Ev d 220 44 [a0, a1, a2, some (vI x), a4] (vI x :: st) h := Rnx (hB_220) (dX7_takesDigits_43) rfl
theorem v220_44 {d : Nat} {ls : LS3} {st : List MV} {h : Hp} {x y : Int32} : Ev d 220 44 ls (vI y :: vI x :: st) h = Ev d 220 45 ls (vI (x * y) :: st) h := Rnx (hB_220) (dX7_takesDigits_44) rfl
theorem v220_45 {d : Nat} {st : List MV} {h : Hp} {x : Option A3} {a1 a2 a3 a4 : Option MV} : Ev d 220 45 [some (vO x), a1, a2, a3, a4] st h = Ev d 220 46 [some (vO x), a1, a2, a3, a4] (vO x :: st) h := Rnx (hB_220) (dX7_takesDigits_45) rfl
set_option maxRecDepth 100000 in
theorem v220_46 {d : Nat} {ls : LS3} {st : List MV} {h : Hp} {a : A3}  (hS : gS h a = (1, 7)) (hc : catS st ≤ 8) : Ev (d + 1) 220 46 ls (vR a :: st) h = Evk 218 (d + 1) 220 46 ls st (Ev d 218 0 [some (vR a)] [] h) := RcallO (idx := 264) (n := 0) (kd := 0) (As' := []) hB_220 dX7_takesDigits_46 rfl rfl (by decide) rfl rfl (Or.inl hS) rfl hc
theorem v220_49 {d : Nat} {ls : LS3} {st : List MV} {h : Hp} {x y : Int32} : Ev d 220 49 ls (vI y :: vI x :: st) h = Ev d 220 50 ls (vI (x + y) :: st) h := Rnx (hB_220) (dX7_takesDigits_49) rfl
theorem v220_50 {d : Nat} {ls : LS3} {st : List MV} {h : Hp} : Ev d 220 50 ls st h = Ev d 220 52 ls (vI 48 :: st) h := Rnx (hB_220) (dX7_takesDigits_50) rfl
theorem v220_52 {d : Nat} {ls : LS3} {st : List MV} {h : Hp} {x y : Int32} : Ev d 220 52 ls (vI y :: vI x :: st) h = Ev d 220 53 ls (vI (x - y) :: st) h := Rnx (hB_220) (dX7_takesDigits_52) rfl
theorem v220_53 {d : Nat} {st : List MV} {h : Hp} {x : Int32} {a0 a1 a2 a3 a4 : Option MV} : Ev d 220 53 [a0, a1, a2, a3, a4] (vI x :: st) h = Ev d 220 54 [a0, a1, a2, some (vI x), a4] st h := Rnx (hB_220) (dX7_takesDigits_53) rfl
theorem v220_54 {d : Nat} {st : List MV} {h : Hp} {x : Option A3} {a1 a2 a3 a4 : Option MV} : Ev d 220 54 [some (vO x), a1, a2, a3, a4] st h = Ev d 220 55 [some (vO x), a1, a2, a3, a4] (vO x :: st) h := Rnx (hB_220) (dX7_takesDigits_54) rfl
theorem v220_55 {d : Nat} {ls : LS3} {st : List MV} {h : Hp} {v : MV} (hv : cat1 v = true) : Ev d 220 55 ls (v :: st) h = Ev d 220 56 ls (v :: v :: st) h := Rdup hB_220 dX7_takesDigits_55 hv
set_option maxRecDepth 100000 in
theorem v220_56 {d : Nat} {ls : LS3} {st : List MV} {h : Hp} {a : A3} (hS : gS h a = (1, 7)) : Ev d 220 56 ls (vR a :: st) h = Ev d 220 59 ls (vI (gI h a 27) :: st) h := Rget hB_220 dX7_takesDigits_56 rfl (Or.inl hS)
theorem v220_59 {d : Nat} {ls : LS3} {st : List MV} {h : Hp} : Ev d 220 59 ls st h = Ev d 220 60 ls (vI 1 :: st) h := Rnx (hB_220) (dX7_takesDigits_59) rfl
theorem v220_60 {d : Nat} {ls : LS3} {st : List MV} {h : Hp} {x y : Int32} : Ev d 220 60 ls (vI y :: vI x :: st) h = Ev d 220 61 ls (vI (x + y) :: st) h := Rnx (hB_220) (dX7_takesDigits_60) rfl
set_option maxRecDepth 100000 in
theorem v220_61 {d : Nat} {ls : LS3} {st : List MV} {h : Hp} {a : A3} {x : Int32} (hS : gS h a = (1, 7)) : Ev d 220 61 ls (vI x :: vR a :: st) h = Ev d 220 64 ls st (sI h a 27 x) := RputI hB_220 dX7_takesDigits_61 rfl rfl (by decide) hS (Or.inl rfl)
theorem v220_64 {d : Nat} {st : List MV} {h : Hp} {x : Int32} {a0 a1 a2 a3 : Option MV} : Ev d 220 64 [a0, a1, a2, a3, some (vI x)] st h = Ev d 220 67 [a0, a1, a2, a3, some (vI (x + 1))] st h := Rnx (hB_220) (dX7_takesDigits_64) rfl
theorem v220_67 {d : Nat} {ls : LS3} {st : List MV} {h : Hp} : Ev d 220 67 ls st h = Ev d 220 21 ls st h := Rnx (hB_220) (dX7_takesDigits_67) rfl
theorem v220_70 {d : Nat} {st : List MV} {h : Hp} {x : Option A3} {a1 a2 a3 a4 : Option MV} : Ev d 220 70 [some (vO x), a1, a2, a3, a4] st h = Ev d 220 71 [some (vO x), a1, a2, a3, a4] (vO x :: st) h := Rnx (hB_220) (dX7_takesDigits_70) rfl
set_option maxRecDepth 100000 in
theorem v220_71 {d : Nat} {ls : LS3} {st : List MV} {h : Hp} {a : A3} (hS : gS h a = (1, 7)) : Ev d 220 71 ls (vR a :: st) h = Ev d 220 74 ls (vO (gR h a 25) :: st) h := Rget hB_220 dX7_takesDigits_71 rfl (Or.inl hS)
theorem v220_74 {d : Nat} {ls : LS3} {st : List MV} {h : Hp} : Ev d 220 74 ls st h = Ev d 220 75 ls (vI 4 :: st) h := Rnx (hB_220) (dX7_takesDigits_74) rfl
theorem v220_75 {d : Nat} {st : List MV} {h : Hp} {x : Option A3} {a1 a2 a3 a4 : Option MV} : Ev d 220 75 [some (vO x), a1, a2, a3, a4] st h = Ev d 220 76 [some (vO x), a1, a2, a3, a4] (vO x :: st) h := Rnx (hB_220) (dX7_takesDigits_75) rfl
set_option maxRecDepth 100000 in
theorem v220_76 {d : Nat} {ls : LS3} {st : List MV} {h : Hp} {a : A3} (hS : gS h a = (1, 7)) : Ev d 220 76 ls (vR a :: st) h = Ev d 220 79 ls (vI (gI h a 28) :: st) h := Rget hB_220 dX7_takesDigits_76 rfl (Or.inl hS)
theorem v220_79 {d : Nat} {ls : LS3} {st : List MV} {h : Hp} {x y : Int32} : Ev d 220 79 ls (vI y :: vI x :: st) h = Ev d 220 80 ls (vI (x * y) :: st) h := Rnx (hB_220) (dX7_takesDigits_79) rfl
theorem v220_80 {d : Nat} {st : List MV} {h : Hp} {x : Int32} {a0 a2 a3 a4 : Option MV} : Ev d 220 80 [a0, some (vI x), a2, a3, a4] st h = Ev d 220 81 [a0, some (vI x), a2, a3, a4] (vI x :: st) h := Rnx (hB_220) (dX7_takesDigits_80) rfl
theorem v220_81 {d : Nat} {ls : LS3} {st : List MV} {h : Hp} {x y : Int32} : Ev d 220 81 ls (vI y :: vI x :: st) h = Ev d 220 82 ls (vI (x + y) :: st) h := Rnx (hB_220) (dX7_takesDigits_81) rfl
theorem v220_82 {d : Nat} {st : List MV} {h : Hp} {x : Int32} {a0 a1 a2 a4 : Option MV} : Ev d 220 82 [a0, a1, a2, some (vI x), a4] st h = Ev d 220 83 [a0, a1, a2, some (vI x), a4] (vI x :: st) h := Rnx (hB_220) (dX7_takesDigits_82) rfl
theorem v220_83 {d : Nat} {ls : LS3} {st : List MV} {h : Hp} {a : A3} {j : Int32} {x : Int32} (hS : (gS h a).1 = 2) (hj : inB j (gS h a).2) : Ev d 220 83 ls (vI x :: vI j :: vR a :: st) h = Ev d 220 84 ls st (sI h a j.toNatClampNeg x) := RastI hB_220 dX7_takesDigits_83 hS hj
theorem v220_84 {d : Nat} {ls : LS3} {st : List MV} {h : Hp} : Ev d 220 84 ls st h = Ev d 220 85 ls (vI 1 :: st) h := Rnx (hB_220) (dX7_takesDigits_84) rfl
theorem v220_85 {d : Nat} {ls : LS3} {h : Hp} {x : Int32} (hx : x = 0 ∨ x = 1) : Ev d 220 85 ls [vI x] h = some (.inl (some (vI x)), h) := RretB hB_220 dX7_takesDigits_85 rfl hx
theorem hB_221 : mB 221 = cX7_takesEntry := rfl
theorem v221_0 {d : Nat} {st : List MV} {h : Hp} {x : Option A3} {a1 : Option MV} : Ev d 221 0 [some (vO x), a1] st h = Ev d 221 1 [some (vO x), a1] (vO x :: st) h := Rnx (hB_221) (dX7_takesEntry_0) rfl
set_option maxRecDepth 100000 in
theorem v221_1 {d : Nat} {ls : LS3} {st : List MV} {h : Hp} {a : A3}  (hS : gS h a = (1, 7)) (hc : catS st ≤ 8) : Ev (d + 1) 221 1 ls (vR a :: st) h = Evk 218 (d + 1) 221 1 ls st (Ev d 218 0 [some (vR a)] [] h) := RcallO (idx := 264) (n := 0) (kd := 0) (As' := []) hB_221 dX7_takesEntry_1 rfl rfl (by decide) rfl rfl (Or.inl hS) rfl hc
theorem v221_4 {d : Nat} {st : List MV} {h : Hp} {x : Int32} {a0 a1 : Option MV} : Ev d 221 4 [a0, a1] (vI x :: st) h = Ev d 221 5 [a0, some (vI x)] st h := Rnx (hB_221) (dX7_takesEntry_4) rfl
theorem v221_5 {d : Nat} {st : List MV} {h : Hp} {x : Int32} {a0 : Option MV} : Ev d 221 5 [a0, some (vI x)] st h = Ev d 221 6 [a0, some (vI x)] (vI x :: st) h := Rnx (hB_221) (dX7_takesEntry_5) rfl
theorem v221_6 {d : Nat} {ls : LS3} {st : List MV} {h : Hp} : Ev d 221 6 ls st h = Ev d 221 8 ls (vI 106 :: st) h := Rnx (hB_221) (dX7_takesEntry_6) rfl
theorem v221_8 {d : Nat} {ls : LS3} {st : List MV} {h : Hp} {x y : Int32} : Ev d 221 8 ls (vI y :: vI x :: st) h = if x = y then Ev d 221 37 ls st h else Ev d 221 11 ls st h := Rif hB_221 dX7_takesEntry_8 rfl
theorem v221_11 {d : Nat} {st : List MV} {h : Hp} {x : Int32} {a0 : Option MV} : Ev d 221 11 [a0, some (vI x)] st h = Ev d 221 12 [a0, some (vI x)] (vI x :: st) h := Rnx (hB_221) (dX7_takesEntry_11) rfl
theorem v221_12 {d : Nat} {ls : LS3} {st : List MV} {h : Hp} : Ev d 221 12 ls st h = Ev d 221 14 ls (vI 108 :: st) h := Rnx (hB_221) (dX7_takesEntry_12) rfl
theorem v221_14 {d : Nat} {ls : LS3} {st : List MV} {h : Hp} {x y : Int32} : Ev d 221 14 ls (vI y :: vI x :: st) h = if x = y then Ev d 221 37 ls st h else Ev d 221 17 ls st h := Rif hB_221 dX7_takesEntry_14 rfl
theorem v221_17 {d : Nat} {st : List MV} {h : Hp} {x : Int32} {a0 : Option MV} : Ev d 221 17 [a0, some (vI x)] st h = Ev d 221 18 [a0, some (vI x)] (vI x :: st) h := Rnx (hB_221) (dX7_takesEntry_17) rfl
theorem v221_18 {d : Nat} {ls : LS3} {st : List MV} {h : Hp} : Ev d 221 18 ls st h = Ev d 221 20 ls (vI 112 :: st) h := Rnx (hB_221) (dX7_takesEntry_18) rfl
theorem v221_20 {d : Nat} {ls : LS3} {st : List MV} {h : Hp} {x y : Int32} : Ev d 221 20 ls (vI y :: vI x :: st) h = if x = y then Ev d 221 37 ls st h else Ev d 221 23 ls st h := Rif hB_221 dX7_takesEntry_20 rfl
theorem v221_23 {d : Nat} {st : List MV} {h : Hp} {x : Int32} {a0 : Option MV} : Ev d 221 23 [a0, some (vI x)] st h = Ev d 221 24 [a0, some (vI x)] (vI x :: st) h := Rnx (hB_221) (dX7_takesEntry_23) rfl
theorem v221_24 {d : Nat} {ls : LS3} {st : List MV} {h : Hp} : Ev d 221 24 ls st h = Ev d 221 26 ls (vI 110 :: st) h := Rnx (hB_221) (dX7_takesEntry_24) rfl
theorem v221_26 {d : Nat} {ls : LS3} {st : List MV} {h : Hp} {x y : Int32} : Ev d 221 26 ls (vI y :: vI x :: st) h = if x = y then Ev d 221 37 ls st h else Ev d 221 29 ls st h := Rif hB_221 dX7_takesEntry_26 rfl
theorem v221_29 {d : Nat} {st : List MV} {h : Hp} {x : Int32} {a0 : Option MV} : Ev d 221 29 [a0, some (vI x)] st h = Ev d 221 30 [a0, some (vI x)] (vI x :: st) h := Rnx (hB_221) (dX7_takesEntry_29) rfl
theorem v221_30 {d : Nat} {ls : LS3} {st : List MV} {h : Hp} : Ev d 221 30 ls st h = Ev d 221 32 ls (vI 100 :: st) h := Rnx (hB_221) (dX7_takesEntry_30) rfl
theorem v221_32 {d : Nat} {ls : LS3} {st : List MV} {h : Hp} {x y : Int32} : Ev d 221 32 ls (vI y :: vI x :: st) h = if x = y then Ev d 221 37 ls st h else Ev d 221 35 ls st h := Rif hB_221 dX7_takesEntry_32 rfl
theorem v221_35 {d : Nat} {ls : LS3} {st : List MV} {h : Hp} : Ev d 221 35 ls st h = Ev d 221 36 ls (vI 0 :: st) h := Rnx (hB_221) (dX7_takesEntry_35) rfl
theorem v221_36 {d : Nat} {ls : LS3} {h : Hp} {x : Int32} (hx : x = 0 ∨ x = 1) : Ev d 221 36 ls [vI x] h = some (.inl (some (vI x)), h) := RretB hB_221 dX7_takesEntry_36 rfl hx
theorem v221_37 {d : Nat} {st : List MV} {h : Hp} {x : Option A3} {a1 : Option MV} : Ev d 221 37 [some (vO x), a1] st h = Ev d 221 38 [some (vO x), a1] (vO x :: st) h := Rnx (hB_221) (dX7_takesEntry_37) rfl
set_option maxRecDepth 100000 in
theorem v221_38 {d : Nat} {ls : LS3} {st : List MV} {h : Hp} {a : A3} (hS : gS h a = (1, 7)) : Ev d 221 38 ls (vR a :: st) h = Ev d 221 41 ls (vO (gR h a 24) :: st) h := Rget hB_221 dX7_takesEntry_38 rfl (Or.inl hS)
theorem v221_41 {d : Nat} {st : List MV} {h : Hp} {x : Option A3} {a1 : Option MV} : Ev d 221 41 [some (vO x), a1] st h = Ev d 221 42 [some (vO x), a1] (vO x :: st) h := Rnx (hB_221) (dX7_takesEntry_41) rfl
set_option maxRecDepth 100000 in
theorem v221_42 {d : Nat} {ls : LS3} {st : List MV} {h : Hp} {a : A3} (hS : gS h a = (1, 7)) : Ev d 221 42 ls (vR a :: st) h = Ev d 221 45 ls (vI (gI h a 28) :: st) h := Rget hB_221 dX7_takesEntry_42 rfl (Or.inl hS)
theorem v221_45 {d : Nat} {st : List MV} {h : Hp} {x : Option A3} {a1 : Option MV} : Ev d 221 45 [some (vO x), a1] st h = Ev d 221 46 [some (vO x), a1] (vO x :: st) h := Rnx (hB_221) (dX7_takesEntry_45) rfl
set_option maxRecDepth 100000 in
theorem v221_46 {d : Nat} {ls : LS3} {st : List MV} {h : Hp} {a : A3} (hS : gS h a = (1, 7)) : Ev d 221 46 ls (vR a :: st) h = Ev d 221 49 ls (vO (gR h a 23) :: st) h := Rget hB_221 dX7_takesEntry_46 rfl (Or.inl hS)
theorem v221_49 {d : Nat} {st : List MV} {h : Hp} {x : Option A3} {a1 : Option MV} : Ev d 221 49 [some (vO x), a1] st h = Ev d 221 50 [some (vO x), a1] (vO x :: st) h := Rnx (hB_221) (dX7_takesEntry_49) rfl
set_option maxRecDepth 100000 in
theorem v221_50 {d : Nat} {ls : LS3} {st : List MV} {h : Hp} {a : A3} (hS : gS h a = (1, 7)) : Ev d 221 50 ls (vR a :: st) h = Ev d 221 53 ls (vI (gI h a 27) :: st) h := Rget hB_221 dX7_takesEntry_50 rfl (Or.inl hS)
theorem v221_53 {d : Nat} {ls : LS3} {st : List MV} {h : Hp} {a : A3} {j : Int32} (hS : (gS h a).1 ∈ [3]) (hj : inB j (gS h a).2) : Ev d 221 53 ls (vI j :: vR a :: st) h = Ev d 221 54 ls (vI (gI h a j.toNatClampNeg) :: st) h := Rald (ks := [3]) (f := fun a j => vI (gI h a j)) hB_221 dX7_takesEntry_53 rfl hS hj
theorem v221_54 {d : Nat} {ls : LS3} {st : List MV} {h : Hp} {a : A3} {j : Int32} {x : Int32} (hS : (gS h a).1 = 3) (hj : inB j (gS h a).2) : Ev d 221 54 ls (vI x :: vI j :: vR a :: st) h = Ev d 221 55 ls st (sI h a j.toNatClampNeg (vp_nar .char x)) := RastC hB_221 dX7_takesEntry_54 hS hj
theorem v221_55 {d : Nat} {st : List MV} {h : Hp} {x : Option A3} {a1 : Option MV} : Ev d 221 55 [some (vO x), a1] st h = Ev d 221 56 [some (vO x), a1] (vO x :: st) h := Rnx (hB_221) (dX7_takesEntry_55) rfl
theorem v221_56 {d : Nat} {ls : LS3} {st : List MV} {h : Hp} {v : MV} (hv : cat1 v = true) : Ev d 221 56 ls (v :: st) h = Ev d 221 57 ls (v :: v :: st) h := Rdup hB_221 dX7_takesEntry_56 hv
set_option maxRecDepth 100000 in
theorem v221_57 {d : Nat} {ls : LS3} {st : List MV} {h : Hp} {a : A3} (hS : gS h a = (1, 7)) : Ev d 221 57 ls (vR a :: st) h = Ev d 221 60 ls (vI (gI h a 27) :: st) h := Rget hB_221 dX7_takesEntry_57 rfl (Or.inl hS)
theorem v221_60 {d : Nat} {ls : LS3} {st : List MV} {h : Hp} : Ev d 221 60 ls st h = Ev d 221 61 ls (vI 1 :: st) h := Rnx (hB_221) (dX7_takesEntry_60) rfl
theorem v221_61 {d : Nat} {ls : LS3} {st : List MV} {h : Hp} {x y : Int32} : Ev d 221 61 ls (vI y :: vI x :: st) h = Ev d 221 62 ls (vI (x + y) :: st) h := Rnx (hB_221) (dX7_takesEntry_61) rfl
set_option maxRecDepth 100000 in
theorem v221_62 {d : Nat} {ls : LS3} {st : List MV} {h : Hp} {a : A3} {x : Int32} (hS : gS h a = (1, 7)) : Ev d 221 62 ls (vI x :: vR a :: st) h = Ev d 221 65 ls st (sI h a 27 x) := RputI hB_221 dX7_takesEntry_62 rfl rfl (by decide) hS (Or.inl rfl)
theorem v221_65 {d : Nat} {st : List MV} {h : Hp} {x : Option A3} {a1 : Option MV} : Ev d 221 65 [some (vO x), a1] st h = Ev d 221 66 [some (vO x), a1] (vO x :: st) h := Rnx (hB_221) (dX7_takesEntry_65) rfl
theorem v221_66 {d : Nat} {ls : LS3} {st : List MV} {h : Hp} : Ev d 221 66 ls st h = Ev d 221 67 ls (vI 0 :: st) h := Rnx (hB_221) (dX7_takesEntry_66) rfl
theorem v221_67 {d : Nat} {st : List MV} {h : Hp} {x : Int32} {a0 : Option MV} : Ev d 221 67 [a0, some (vI x)] st h = Ev d 221 68 [a0, some (vI x)] (vI x :: st) h := Rnx (hB_221) (dX7_takesEntry_67) rfl
theorem v221_68 {d : Nat} {ls : LS3} {st : List MV} {h : Hp} : Ev d 221 68 ls st h = Ev d 221 70 ls (vI 100 :: st) h := Rnx (hB_221) (dX7_takesEntry_68) rfl
theorem v221_70 {d : Nat} {ls : LS3} {st : List MV} {h : Hp} {x y : Int32} : Ev d 221 70 ls (vI y :: vI x :: st) h = if x = y then Ev d 221 73 ls st h else Ev d 221 77 ls st h := Rifn hB_221 dX7_takesEntry_70 rfl
theorem v221_73 {d : Nat} {ls : LS3} {st : List MV} {h : Hp} : Ev d 221 73 ls st h = Ev d 221 74 ls (vI 3 :: st) h := Rnx (hB_221) (dX7_takesEntry_73) rfl
theorem v221_74 {d : Nat} {ls : LS3} {st : List MV} {h : Hp} : Ev d 221 74 ls st h = Ev d 221 78 ls st h := Rnx (hB_221) (dX7_takesEntry_74) rfl
theorem v221_77 {d : Nat} {ls : LS3} {st : List MV} {h : Hp} : Ev d 221 77 ls st h = Ev d 221 78 ls (vI 1 :: st) h := Rnx (hB_221) (dX7_takesEntry_77) rfl
set_option maxRecDepth 100000 in
theorem v221_78 {d : Nat} {ls : LS3} {st : List MV} {h : Hp} {a : A3} {x0 : Int32} {x1 : Int32} (hS : gS h a = (1, 7)) (hc : catS st ≤ 8) : Ev (d + 1) 221 78 ls (vI x1 :: vI x0 :: vR a :: st) h = Evk 220 (d + 1) 221 78 ls st (Ev d 220 0 [some (vR a), some (vI x0), some (vI x1), none, none] [] h) := RcallO (idx := 270) (n := 2) (kd := 0) (As' := [vI x0, vI x1]) hB_221 dX7_takesEntry_78 rfl rfl (by decide) rfl rfl (Or.inl hS) rfl hc
theorem v221_81 {d : Nat} {ls : LS3} {st : List MV} {h : Hp} {x : Int32} : Ev d 221 81 ls (vI x :: st) h = if x = 0 then Ev d 221 84 ls st h else Ev d 221 86 ls st h := Rifn hB_221 dX7_takesEntry_81 rfl
theorem v221_84 {d : Nat} {ls : LS3} {st : List MV} {h : Hp} : Ev d 221 84 ls st h = Ev d 221 85 ls (vI 0 :: st) h := Rnx (hB_221) (dX7_takesEntry_84) rfl
theorem v221_85 {d : Nat} {ls : LS3} {h : Hp} {x : Int32} (hx : x = 0 ∨ x = 1) : Ev d 221 85 ls [vI x] h = some (.inl (some (vI x)), h) := RretB hB_221 dX7_takesEntry_85 rfl hx
theorem v221_86 {d : Nat} {st : List MV} {h : Hp} {x : Int32} {a0 : Option MV} : Ev d 221 86 [a0, some (vI x)] st h = Ev d 221 87 [a0, some (vI x)] (vI x :: st) h := Rnx (hB_221) (dX7_takesEntry_86) rfl
theorem v221_87 {d : Nat} {ls : LS3} {st : List MV} {h : Hp} : Ev d 221 87 ls st h = Ev d 221 89 ls (vI 106 :: st) h := Rnx (hB_221) (dX7_takesEntry_87) rfl
theorem v221_89 {d : Nat} {ls : LS3} {st : List MV} {h : Hp} {x y : Int32} : Ev d 221 89 ls (vI y :: vI x :: st) h = if x = y then Ev d 221 98 ls st h else Ev d 221 92 ls st h := Rif hB_221 dX7_takesEntry_89 rfl
theorem v221_92 {d : Nat} {st : List MV} {h : Hp} {x : Int32} {a0 : Option MV} : Ev d 221 92 [a0, some (vI x)] st h = Ev d 221 93 [a0, some (vI x)] (vI x :: st) h := Rnx (hB_221) (dX7_takesEntry_92) rfl
theorem v221_93 {d : Nat} {ls : LS3} {st : List MV} {h : Hp} : Ev d 221 93 ls st h = Ev d 221 95 ls (vI 108 :: st) h := Rnx (hB_221) (dX7_takesEntry_93) rfl
theorem v221_95 {d : Nat} {ls : LS3} {st : List MV} {h : Hp} {x y : Int32} : Ev d 221 95 ls (vI y :: vI x :: st) h = if x = y then Ev d 221 98 ls st h else Ev d 221 118 ls st h := Rifn hB_221 dX7_takesEntry_95 rfl
theorem v221_98 {d : Nat} {st : List MV} {h : Hp} {x : Option A3} {a1 : Option MV} : Ev d 221 98 [some (vO x), a1] st h = Ev d 221 99 [some (vO x), a1] (vO x :: st) h := Rnx (hB_221) (dX7_takesEntry_98) rfl
theorem v221_99 {d : Nat} {ls : LS3} {st : List MV} {h : Hp} : Ev d 221 99 ls st h = Ev d 221 101 ls (vI 44 :: st) h := Rnx (hB_221) (dX7_takesEntry_99) rfl
set_option maxRecDepth 100000 in
theorem v221_101 {d : Nat} {ls : LS3} {st : List MV} {h : Hp} {a : A3} {x0 : Int32} (hS : gS h a = (1, 7)) (hc : catS st ≤ 8) : Ev (d + 1) 221 101 ls (vI x0 :: vR a :: st) h = Evk 219 (d + 1) 221 101 ls st (Ev d 219 0 [some (vR a), some (vI x0)] [] h) := RcallO (idx := 273) (n := 1) (kd := 0) (As' := [vI x0]) hB_221 dX7_takesEntry_101 rfl rfl (by decide) rfl rfl (Or.inl hS) rfl hc
theorem v221_104 {d : Nat} {ls : LS3} {st : List MV} {h : Hp} {x : Int32} : Ev d 221 104 ls (vI x :: st) h = if x = 0 then Ev d 221 116 ls st h else Ev d 221 107 ls st h := Rif hB_221 dX7_takesEntry_104 rfl
theorem v221_107 {d : Nat} {st : List MV} {h : Hp} {x : Option A3} {a1 : Option MV} : Ev d 221 107 [some (vO x), a1] st h = Ev d 221 108 [some (vO x), a1] (vO x :: st) h := Rnx (hB_221) (dX7_takesEntry_107) rfl
theorem v221_108 {d : Nat} {ls : LS3} {st : List MV} {h : Hp} : Ev d 221 108 ls st h = Ev d 221 109 ls (vI 1 :: st) h := Rnx (hB_221) (dX7_takesEntry_108) rfl
theorem v221_109 {d : Nat} {ls : LS3} {st : List MV} {h : Hp} : Ev d 221 109 ls st h = Ev d 221 110 ls (vI 3 :: st) h := Rnx (hB_221) (dX7_takesEntry_109) rfl
set_option maxRecDepth 100000 in
theorem v221_110 {d : Nat} {ls : LS3} {st : List MV} {h : Hp} {a : A3} {x0 : Int32} {x1 : Int32} (hS : gS h a = (1, 7)) (hc : catS st ≤ 8) : Ev (d + 1) 221 110 ls (vI x1 :: vI x0 :: vR a :: st) h = Evk 220 (d + 1) 221 110 ls st (Ev d 220 0 [some (vR a), some (vI x0), some (vI x1), none, none] [] h) := RcallO (idx := 270) (n := 2) (kd := 0) (As' := [vI x0, vI x1]) hB_221 dX7_takesEntry_110 rfl rfl (by decide) rfl rfl (Or.inl hS) rfl hc
theorem v221_113 {d : Nat} {ls : LS3} {st : List MV} {h : Hp} {x : Int32} : Ev d 221 113 ls (vI x :: st) h = if x = 0 then Ev d 221 116 ls st h else Ev d 221 118 ls st h := Rifn hB_221 dX7_takesEntry_113 rfl
theorem v221_116 {d : Nat} {ls : LS3} {st : List MV} {h : Hp} : Ev d 221 116 ls st h = Ev d 221 117 ls (vI 0 :: st) h := Rnx (hB_221) (dX7_takesEntry_116) rfl
theorem v221_117 {d : Nat} {ls : LS3} {h : Hp} {x : Int32} (hx : x = 0 ∨ x = 1) : Ev d 221 117 ls [vI x] h = some (.inl (some (vI x)), h) := RretB hB_221 dX7_takesEntry_117 rfl hx
theorem v221_118 {d : Nat} {st : List MV} {h : Hp} {x : Int32} {a0 : Option MV} : Ev d 221 118 [a0, some (vI x)] st h = Ev d 221 119 [a0, some (vI x)] (vI x :: st) h := Rnx (hB_221) (dX7_takesEntry_118) rfl
theorem v221_119 {d : Nat} {ls : LS3} {st : List MV} {h : Hp} : Ev d 221 119 ls st h = Ev d 221 121 ls (vI 112 :: st) h := Rnx (hB_221) (dX7_takesEntry_119) rfl
theorem v221_121 {d : Nat} {ls : LS3} {st : List MV} {h : Hp} {x y : Int32} : Ev d 221 121 ls (vI y :: vI x :: st) h = if x = y then Ev d 221 124 ls st h else Ev d 221 180 ls st h := Rifn hB_221 dX7_takesEntry_121 rfl
theorem v221_124 {d : Nat} {st : List MV} {h : Hp} {x : Option A3} {a1 : Option MV} : Ev d 221 124 [some (vO x), a1] st h = Ev d 221 125 [some (vO x), a1] (vO x :: st) h := Rnx (hB_221) (dX7_takesEntry_124) rfl
theorem v221_125 {d : Nat} {ls : LS3} {st : List MV} {h : Hp} : Ev d 221 125 ls st h = Ev d 221 127 ls (vI 64 :: st) h := Rnx (hB_221) (dX7_takesEntry_125) rfl
set_option maxRecDepth 100000 in
theorem v221_127 {d : Nat} {ls : LS3} {st : List MV} {h : Hp} {a : A3} {x0 : Int32} (hS : gS h a = (1, 7)) (hc : catS st ≤ 8) : Ev (d + 1) 221 127 ls (vI x0 :: vR a :: st) h = Evk 219 (d + 1) 221 127 ls st (Ev d 219 0 [some (vR a), some (vI x0)] [] h) := RcallO (idx := 273) (n := 1) (kd := 0) (As' := [vI x0]) hB_221 dX7_takesEntry_127 rfl rfl (by decide) rfl rfl (Or.inl hS) rfl hc
theorem v221_130 {d : Nat} {ls : LS3} {st : List MV} {h : Hp} {x : Int32} : Ev d 221 130 ls (vI x :: st) h = if x = 0 then Ev d 221 178 ls st h else Ev d 221 133 ls st h := Rif hB_221 dX7_takesEntry_130 rfl
theorem v221_133 {d : Nat} {st : List MV} {h : Hp} {x : Option A3} {a1 : Option MV} : Ev d 221 133 [some (vO x), a1] st h = Ev d 221 134 [some (vO x), a1] (vO x :: st) h := Rnx (hB_221) (dX7_takesEntry_133) rfl
theorem v221_134 {d : Nat} {ls : LS3} {st : List MV} {h : Hp} : Ev d 221 134 ls st h = Ev d 221 135 ls (vI 1 :: st) h := Rnx (hB_221) (dX7_takesEntry_134) rfl
theorem v221_135 {d : Nat} {ls : LS3} {st : List MV} {h : Hp} : Ev d 221 135 ls st h = Ev d 221 136 ls (vI 1 :: st) h := Rnx (hB_221) (dX7_takesEntry_135) rfl
set_option maxRecDepth 100000 in
theorem v221_136 {d : Nat} {ls : LS3} {st : List MV} {h : Hp} {a : A3} {x0 : Int32} {x1 : Int32} (hS : gS h a = (1, 7)) (hc : catS st ≤ 8) : Ev (d + 1) 221 136 ls (vI x1 :: vI x0 :: vR a :: st) h = Evk 220 (d + 1) 221 136 ls st (Ev d 220 0 [some (vR a), some (vI x0), some (vI x1), none, none] [] h) := RcallO (idx := 270) (n := 2) (kd := 0) (As' := [vI x0, vI x1]) hB_221 dX7_takesEntry_136 rfl rfl (by decide) rfl rfl (Or.inl hS) rfl hc
theorem v221_139 {d : Nat} {ls : LS3} {st : List MV} {h : Hp} {x : Int32} : Ev d 221 139 ls (vI x :: st) h = if x = 0 then Ev d 221 178 ls st h else Ev d 221 142 ls st h := Rif hB_221 dX7_takesEntry_139 rfl
theorem v221_142 {d : Nat} {st : List MV} {h : Hp} {x : Option A3} {a1 : Option MV} : Ev d 221 142 [some (vO x), a1] st h = Ev d 221 143 [some (vO x), a1] (vO x :: st) h := Rnx (hB_221) (dX7_takesEntry_142) rfl
theorem v221_143 {d : Nat} {ls : LS3} {st : List MV} {h : Hp} : Ev d 221 143 ls st h = Ev d 221 145 ls (vI 44 :: st) h := Rnx (hB_221) (dX7_takesEntry_143) rfl
set_option maxRecDepth 100000 in
theorem v221_145 {d : Nat} {ls : LS3} {st : List MV} {h : Hp} {a : A3} {x0 : Int32} (hS : gS h a = (1, 7)) (hc : catS st ≤ 8) : Ev (d + 1) 221 145 ls (vI x0 :: vR a :: st) h = Evk 219 (d + 1) 221 145 ls st (Ev d 219 0 [some (vR a), some (vI x0)] [] h) := RcallO (idx := 273) (n := 1) (kd := 0) (As' := [vI x0]) hB_221 dX7_takesEntry_145 rfl rfl (by decide) rfl rfl (Or.inl hS) rfl hc
theorem v221_148 {d : Nat} {ls : LS3} {st : List MV} {h : Hp} {x : Int32} : Ev d 221 148 ls (vI x :: st) h = if x = 0 then Ev d 221 178 ls st h else Ev d 221 151 ls st h := Rif hB_221 dX7_takesEntry_148 rfl
theorem v221_151 {d : Nat} {st : List MV} {h : Hp} {x : Option A3} {a1 : Option MV} : Ev d 221 151 [some (vO x), a1] st h = Ev d 221 152 [some (vO x), a1] (vO x :: st) h := Rnx (hB_221) (dX7_takesEntry_151) rfl
theorem v221_152 {d : Nat} {ls : LS3} {st : List MV} {h : Hp} : Ev d 221 152 ls st h = Ev d 221 153 ls (vI 2 :: st) h := Rnx (hB_221) (dX7_takesEntry_152) rfl
theorem v221_153 {d : Nat} {ls : LS3} {st : List MV} {h : Hp} : Ev d 221 153 ls st h = Ev d 221 154 ls (vI 3 :: st) h := Rnx (hB_221) (dX7_takesEntry_153) rfl
set_option maxRecDepth 100000 in
theorem v221_154 {d : Nat} {ls : LS3} {st : List MV} {h : Hp} {a : A3} {x0 : Int32} {x1 : Int32} (hS : gS h a = (1, 7)) (hc : catS st ≤ 8) : Ev (d + 1) 221 154 ls (vI x1 :: vI x0 :: vR a :: st) h = Evk 220 (d + 1) 221 154 ls st (Ev d 220 0 [some (vR a), some (vI x0), some (vI x1), none, none] [] h) := RcallO (idx := 270) (n := 2) (kd := 0) (As' := [vI x0, vI x1]) hB_221 dX7_takesEntry_154 rfl rfl (by decide) rfl rfl (Or.inl hS) rfl hc
theorem v221_157 {d : Nat} {ls : LS3} {st : List MV} {h : Hp} {x : Int32} : Ev d 221 157 ls (vI x :: st) h = if x = 0 then Ev d 221 178 ls st h else Ev d 221 160 ls st h := Rif hB_221 dX7_takesEntry_157 rfl
theorem v221_160 {d : Nat} {st : List MV} {h : Hp} {x : Option A3} {a1 : Option MV} : Ev d 221 160 [some (vO x), a1] st h = Ev d 221 161 [some (vO x), a1] (vO x :: st) h := Rnx (hB_221) (dX7_takesEntry_160) rfl
theorem v221_161 {d : Nat} {ls : LS3} {st : List MV} {h : Hp} : Ev d 221 161 ls st h = Ev d 221 163 ls (vI 44 :: st) h := Rnx (hB_221) (dX7_takesEntry_161) rfl
set_option maxRecDepth 100000 in
theorem v221_163 {d : Nat} {ls : LS3} {st : List MV} {h : Hp} {a : A3} {x0 : Int32} (hS : gS h a = (1, 7)) (hc : catS st ≤ 8) : Ev (d + 1) 221 163 ls (vI x0 :: vR a :: st) h = Evk 219 (d + 1) 221 163 ls st (Ev d 219 0 [some (vR a), some (vI x0)] [] h) := RcallO (idx := 273) (n := 1) (kd := 0) (As' := [vI x0]) hB_221 dX7_takesEntry_163 rfl rfl (by decide) rfl rfl (Or.inl hS) rfl hc
theorem v221_166 {d : Nat} {ls : LS3} {st : List MV} {h : Hp} {x : Int32} : Ev d 221 166 ls (vI x :: st) h = if x = 0 then Ev d 221 178 ls st h else Ev d 221 169 ls st h := Rif hB_221 dX7_takesEntry_166 rfl
theorem v221_169 {d : Nat} {st : List MV} {h : Hp} {x : Option A3} {a1 : Option MV} : Ev d 221 169 [some (vO x), a1] st h = Ev d 221 170 [some (vO x), a1] (vO x :: st) h := Rnx (hB_221) (dX7_takesEntry_169) rfl
theorem v221_170 {d : Nat} {ls : LS3} {st : List MV} {h : Hp} : Ev d 221 170 ls st h = Ev d 221 171 ls (vI 3 :: st) h := Rnx (hB_221) (dX7_takesEntry_170) rfl
theorem v221_171 {d : Nat} {ls : LS3} {st : List MV} {h : Hp} : Ev d 221 171 ls st h = Ev d 221 172 ls (vI 1 :: st) h := Rnx (hB_221) (dX7_takesEntry_171) rfl
set_option maxRecDepth 100000 in
theorem v221_172 {d : Nat} {ls : LS3} {st : List MV} {h : Hp} {a : A3} {x0 : Int32} {x1 : Int32} (hS : gS h a = (1, 7)) (hc : catS st ≤ 8) : Ev (d + 1) 221 172 ls (vI x1 :: vI x0 :: vR a :: st) h = Evk 220 (d + 1) 221 172 ls st (Ev d 220 0 [some (vR a), some (vI x0), some (vI x1), none, none] [] h) := RcallO (idx := 270) (n := 2) (kd := 0) (As' := [vI x0, vI x1]) hB_221 dX7_takesEntry_172 rfl rfl (by decide) rfl rfl (Or.inl hS) rfl hc
theorem v221_175 {d : Nat} {ls : LS3} {st : List MV} {h : Hp} {x : Int32} : Ev d 221 175 ls (vI x :: st) h = if x = 0 then Ev d 221 178 ls st h else Ev d 221 180 ls st h := Rifn hB_221 dX7_takesEntry_175 rfl
theorem v221_178 {d : Nat} {ls : LS3} {st : List MV} {h : Hp} : Ev d 221 178 ls st h = Ev d 221 179 ls (vI 0 :: st) h := Rnx (hB_221) (dX7_takesEntry_178) rfl
theorem v221_179 {d : Nat} {ls : LS3} {h : Hp} {x : Int32} (hx : x = 0 ∨ x = 1) : Ev d 221 179 ls [vI x] h = some (.inl (some (vI x)), h) := RretB hB_221 dX7_takesEntry_179 rfl hx
theorem v221_180 {d : Nat} {st : List MV} {h : Hp} {x : Option A3} {a1 : Option MV} : Ev d 221 180 [some (vO x), a1] st h = Ev d 221 181 [some (vO x), a1] (vO x :: st) h := Rnx (hB_221) (dX7_takesEntry_180) rfl
theorem v221_181 {d : Nat} {ls : LS3} {st : List MV} {h : Hp} : Ev d 221 181 ls st h = Ev d 221 183 ls (vI 59 :: st) h := Rnx (hB_221) (dX7_takesEntry_181) rfl
set_option maxRecDepth 100000 in
theorem v221_183 {d : Nat} {ls : LS3} {st : List MV} {h : Hp} {a : A3} {x0 : Int32} (hS : gS h a = (1, 7)) (hc : catS st ≤ 8) : Ev (d + 1) 221 183 ls (vI x0 :: vR a :: st) h = Evk 219 (d + 1) 221 183 ls st (Ev d 219 0 [some (vR a), some (vI x0)] [] h) := RcallO (idx := 273) (n := 1) (kd := 0) (As' := [vI x0]) hB_221 dX7_takesEntry_183 rfl rfl (by decide) rfl rfl (Or.inl hS) rfl hc
theorem v221_186 {d : Nat} {ls : LS3} {st : List MV} {h : Hp} {x : Int32} : Ev d 221 186 ls (vI x :: st) h = if x = 0 then Ev d 221 189 ls st h else Ev d 221 191 ls st h := Rifn hB_221 dX7_takesEntry_186 rfl
theorem v221_189 {d : Nat} {ls : LS3} {st : List MV} {h : Hp} : Ev d 221 189 ls st h = Ev d 221 190 ls (vI 0 :: st) h := Rnx (hB_221) (dX7_takesEntry_189) rfl
theorem v221_190 {d : Nat} {ls : LS3} {h : Hp} {x : Int32} (hx : x = 0 ∨ x = 1) : Ev d 221 190 ls [vI x] h = some (.inl (some (vI x)), h) := RretB hB_221 dX7_takesEntry_190 rfl hx
theorem v221_191 {d : Nat} {st : List MV} {h : Hp} {x : Option A3} {a1 : Option MV} : Ev d 221 191 [some (vO x), a1] st h = Ev d 221 192 [some (vO x), a1] (vO x :: st) h := Rnx (hB_221) (dX7_takesEntry_191) rfl
theorem v221_192 {d : Nat} {ls : LS3} {st : List MV} {h : Hp} {v : MV} (hv : cat1 v = true) : Ev d 221 192 ls (v :: st) h = Ev d 221 193 ls (v :: v :: st) h := Rdup hB_221 dX7_takesEntry_192 hv
set_option maxRecDepth 100000 in
theorem v221_193 {d : Nat} {ls : LS3} {st : List MV} {h : Hp} {a : A3} (hS : gS h a = (1, 7)) : Ev d 221 193 ls (vR a :: st) h = Ev d 221 196 ls (vI (gI h a 28) :: st) h := Rget hB_221 dX7_takesEntry_193 rfl (Or.inl hS)
theorem v221_196 {d : Nat} {ls : LS3} {st : List MV} {h : Hp} : Ev d 221 196 ls st h = Ev d 221 197 ls (vI 1 :: st) h := Rnx (hB_221) (dX7_takesEntry_196) rfl
theorem v221_197 {d : Nat} {ls : LS3} {st : List MV} {h : Hp} {x y : Int32} : Ev d 221 197 ls (vI y :: vI x :: st) h = Ev d 221 198 ls (vI (x + y) :: st) h := Rnx (hB_221) (dX7_takesEntry_197) rfl
set_option maxRecDepth 100000 in
theorem v221_198 {d : Nat} {ls : LS3} {st : List MV} {h : Hp} {a : A3} {x : Int32} (hS : gS h a = (1, 7)) : Ev d 221 198 ls (vI x :: vR a :: st) h = Ev d 221 201 ls st (sI h a 28 x) := RputI hB_221 dX7_takesEntry_198 rfl rfl (by decide) hS (Or.inl rfl)
theorem v221_201 {d : Nat} {ls : LS3} {st : List MV} {h : Hp} : Ev d 221 201 ls st h = Ev d 221 202 ls (vI 1 :: st) h := Rnx (hB_221) (dX7_takesEntry_201) rfl
theorem v221_202 {d : Nat} {ls : LS3} {h : Hp} {x : Int32} (hx : x = 0 ∨ x = 1) : Ev d 221 202 ls [vI x] h = some (.inl (some (vI x)), h) := RretB hB_221 dX7_takesEntry_202 rfl hx
theorem hB_222 : mB 222 = cX7_takesText := rfl
theorem v222_0 {d : Nat} {st : List MV} {h : Hp} {x : Option A3} : Ev d 222 0 [some (vO x)] st h = Ev d 222 1 [some (vO x)] (vO x :: st) h := Rnx (hB_222) (dX7_takesText_0) rfl
theorem v222_1 {d : Nat} {ls : LS3} {st : List MV} {h : Hp} : Ev d 222 1 ls st h = Ev d 222 2 ls (vI 0 :: st) h := Rnx (hB_222) (dX7_takesText_1) rfl
set_option maxRecDepth 100000 in
theorem v222_2 {d : Nat} {ls : LS3} {st : List MV} {h : Hp} {a : A3} {x : Int32} (hS : gS h a = (1, 7)) : Ev d 222 2 ls (vI x :: vR a :: st) h = Ev d 222 5 ls st (sI h a 27 x) := RputI hB_222 dX7_takesText_2 rfl rfl (by decide) hS (Or.inl rfl)
theorem v222_5 {d : Nat} {st : List MV} {h : Hp} {x : Option A3} : Ev d 222 5 [some (vO x)] st h = Ev d 222 6 [some (vO x)] (vO x :: st) h := Rnx (hB_222) (dX7_takesText_5) rfl
theorem v222_6 {d : Nat} {ls : LS3} {st : List MV} {h : Hp} : Ev d 222 6 ls st h = Ev d 222 7 ls (vI 0 :: st) h := Rnx (hB_222) (dX7_takesText_6) rfl
set_option maxRecDepth 100000 in
theorem v222_7 {d : Nat} {ls : LS3} {st : List MV} {h : Hp} {a : A3} {x : Int32} (hS : gS h a = (1, 7)) : Ev d 222 7 ls (vI x :: vR a :: st) h = Ev d 222 10 ls st (sI h a 28 x) := RputI hB_222 dX7_takesText_7 rfl rfl (by decide) hS (Or.inl rfl)
theorem v222_10 {d : Nat} {st : List MV} {h : Hp} {x : Option A3} : Ev d 222 10 [some (vO x)] st h = Ev d 222 11 [some (vO x)] (vO x :: st) h := Rnx (hB_222) (dX7_takesText_10) rfl
set_option maxRecDepth 100000 in
theorem v222_11 {d : Nat} {ls : LS3} {st : List MV} {h : Hp} {a : A3}  (hS : gS h a = (1, 7)) (hc : catS st ≤ 8) : Ev (d + 1) 222 11 ls (vR a :: st) h = Evk 221 (d + 1) 222 11 ls st (Ev d 221 0 [some (vR a), none] [] h) := RcallO (idx := 276) (n := 0) (kd := 0) (As' := []) hB_222 dX7_takesText_11 rfl rfl (by decide) rfl rfl (Or.inl hS) rfl hc
theorem v222_14 {d : Nat} {ls : LS3} {st : List MV} {h : Hp} {x : Int32} : Ev d 222 14 ls (vI x :: st) h = if x = 0 then Ev d 222 17 ls st h else Ev d 222 19 ls st h := Rifn hB_222 dX7_takesText_14 rfl
theorem v222_17 {d : Nat} {ls : LS3} {st : List MV} {h : Hp} : Ev d 222 17 ls st h = Ev d 222 18 ls (vI 0 :: st) h := Rnx (hB_222) (dX7_takesText_17) rfl
theorem v222_18 {d : Nat} {ls : LS3} {h : Hp} {x : Int32} (hx : x = 0 ∨ x = 1) : Ev d 222 18 ls [vI x] h = some (.inl (some (vI x)), h) := RretB hB_222 dX7_takesText_18 rfl hx
theorem v222_19 {d : Nat} {st : List MV} {h : Hp} {x : Option A3} : Ev d 222 19 [some (vO x)] st h = Ev d 222 20 [some (vO x)] (vO x :: st) h := Rnx (hB_222) (dX7_takesText_19) rfl
set_option maxRecDepth 100000 in
theorem v222_20 {d : Nat} {ls : LS3} {st : List MV} {h : Hp} {a : A3} (hS : gS h a = (1, 7)) : Ev d 222 20 ls (vR a :: st) h = Ev d 222 23 ls (vI (gI h a 27) :: st) h := Rget hB_222 dX7_takesText_20 rfl (Or.inl hS)
theorem v222_23 {d : Nat} {st : List MV} {h : Hp} {x : Option A3} : Ev d 222 23 [some (vO x)] st h = Ev d 222 24 [some (vO x)] (vO x :: st) h := Rnx (hB_222) (dX7_takesText_23) rfl
set_option maxRecDepth 100000 in
theorem v222_24 {d : Nat} {ls : LS3} {st : List MV} {h : Hp} {a : A3} (hS : gS h a = (1, 7)) : Ev d 222 24 ls (vR a :: st) h = Ev d 222 27 ls (vI (gI h a 26) :: st) h := Rget hB_222 dX7_takesText_24 rfl (Or.inl hS)
theorem v222_27 {d : Nat} {ls : LS3} {st : List MV} {h : Hp} {x y : Int32} : Ev d 222 27 ls (vI y :: vI x :: st) h = if x < y then Ev d 222 10 ls st h else Ev d 222 30 ls st h := Rif hB_222 dX7_takesText_27 rfl
theorem v222_30 {d : Nat} {ls : LS3} {st : List MV} {h : Hp} : Ev d 222 30 ls st h = Ev d 222 31 ls (vI 1 :: st) h := Rnx (hB_222) (dX7_takesText_30) rfl
theorem v222_31 {d : Nat} {ls : LS3} {h : Hp} {x : Int32} (hx : x = 0 ∨ x = 1) : Ev d 222 31 ls [vI x] h = some (.inl (some (vI x)), h) := RretB hB_222 dX7_takesText_31 rfl hx
theorem hB_223 : mB 223 = cX7_does := rfl
theorem v223_0 {d : Nat} {st : List MV} {h : Hp} {x : Option A3} {a1 a2 a3 a4 a5 a6 : Option MV} : Ev d 223 0 [some (vO x), a1, a2, a3, a4, a5, a6] st h = Ev d 223 1 [some (vO x), a1, a2, a3, a4, a5, a6] (vO x :: st) h := Rnx (hB_223) (dX7_does_0) rfl
set_option maxRecDepth 100000 in
theorem v223_1 {d : Nat} {ls : LS3} {st : List MV} {h : Hp} {a : A3} (hS : gS h a = (1, 7)) : Ev d 223 1 ls (vR a :: st) h = Ev d 223 4 ls (vO (gR h a 25) :: st) h := Rget hB_223 dX7_does_1 rfl (Or.inl hS)
theorem v223_4 {d : Nat} {ls : LS3} {st : List MV} {h : Hp} : Ev d 223 4 ls st h = Ev d 223 5 ls (vI 4 :: st) h := Rnx (hB_223) (dX7_does_4) rfl
theorem v223_5 {d : Nat} {st : List MV} {h : Hp} {x : Int32} {a0 a2 a3 a4 a5 a6 : Option MV} : Ev d 223 5 [a0, some (vI x), a2, a3, a4, a5, a6] st h = Ev d 223 6 [a0, some (vI x), a2, a3, a4, a5, a6] (vI x :: st) h := Rnx (hB_223) (dX7_does_5) rfl
theorem v223_6 {d : Nat} {ls : LS3} {st : List MV} {h : Hp} {x y : Int32} : Ev d 223 6 ls (vI y :: vI x :: st) h = Ev d 223 7 ls (vI (x * y) :: st) h := Rnx (hB_223) (dX7_does_6) rfl
theorem v223_7 {d : Nat} {ls : LS3} {st : List MV} {h : Hp} {a : A3} {j : Int32} (hS : (gS h a).1 ∈ [2, 9]) (hj : inB j (gS h a).2) : Ev d 223 7 ls (vI j :: vR a :: st) h = Ev d 223 8 ls (vI (gI h a j.toNatClampNeg) :: st) h := Rald (ks := [2, 9]) (f := fun a j => vI (gI h a j)) hB_223 dX7_does_7 rfl hS hj
theorem v223_8 {d : Nat} {st : List MV} {h : Hp} {x : Int32} {a0 a1 a2 a3 a4 a5 a6 : Option MV} : Ev d 223 8 [a0, a1, a2, a3, a4, a5, a6] (vI x :: st) h = Ev d 223 9 [a0, a1, some (vI x), a3, a4, a5, a6] st h := Rnx (hB_223) (dX7_does_8) rfl
theorem v223_9 {d : Nat} {st : List MV} {h : Hp} {x : Option A3} {a1 a2 a3 a4 a5 a6 : Option MV} : Ev d 223 9 [some (vO x), a1, a2, a3, a4, a5, a6] st h = Ev d 223 10 [some (vO x), a1, a2, a3, a4, a5, a6] (vO x :: st) h := Rnx (hB_223) (dX7_does_9) rfl
set_option maxRecDepth 100000 in
theorem v223_10 {d : Nat} {ls : LS3} {st : List MV} {h : Hp} {a : A3} (hS : gS h a = (1, 7)) : Ev d 223 10 ls (vR a :: st) h = Ev d 223 13 ls (vO (gR h a 25) :: st) h := Rget hB_223 dX7_does_10 rfl (Or.inl hS)
theorem v223_13 {d : Nat} {ls : LS3} {st : List MV} {h : Hp} : Ev d 223 13 ls st h = Ev d 223 14 ls (vI 4 :: st) h := Rnx (hB_223) (dX7_does_13) rfl
theorem v223_14 {d : Nat} {st : List MV} {h : Hp} {x : Int32} {a0 a2 a3 a4 a5 a6 : Option MV} : Ev d 223 14 [a0, some (vI x), a2, a3, a4, a5, a6] st h = Ev d 223 15 [a0, some (vI x), a2, a3, a4, a5, a6] (vI x :: st) h := Rnx (hB_223) (dX7_does_14) rfl
theorem v223_15 {d : Nat} {ls : LS3} {st : List MV} {h : Hp} {x y : Int32} : Ev d 223 15 ls (vI y :: vI x :: st) h = Ev d 223 16 ls (vI (x * y) :: st) h := Rnx (hB_223) (dX7_does_15) rfl
theorem v223_16 {d : Nat} {ls : LS3} {st : List MV} {h : Hp} : Ev d 223 16 ls st h = Ev d 223 17 ls (vI 1 :: st) h := Rnx (hB_223) (dX7_does_16) rfl
theorem v223_17 {d : Nat} {ls : LS3} {st : List MV} {h : Hp} {x y : Int32} : Ev d 223 17 ls (vI y :: vI x :: st) h = Ev d 223 18 ls (vI (x + y) :: st) h := Rnx (hB_223) (dX7_does_17) rfl
theorem v223_18 {d : Nat} {ls : LS3} {st : List MV} {h : Hp} {a : A3} {j : Int32} (hS : (gS h a).1 ∈ [2, 9]) (hj : inB j (gS h a).2) : Ev d 223 18 ls (vI j :: vR a :: st) h = Ev d 223 19 ls (vI (gI h a j.toNatClampNeg) :: st) h := Rald (ks := [2, 9]) (f := fun a j => vI (gI h a j)) hB_223 dX7_does_18 rfl hS hj
theorem v223_19 {d : Nat} {st : List MV} {h : Hp} {x : Int32} {a0 a1 a2 a3 a4 a5 a6 : Option MV} : Ev d 223 19 [a0, a1, a2, a3, a4, a5, a6] (vI x :: st) h = Ev d 223 20 [a0, a1, a2, some (vI x), a4, a5, a6] st h := Rnx (hB_223) (dX7_does_19) rfl
theorem v223_20 {d : Nat} {st : List MV} {h : Hp} {x : Option A3} {a1 a2 a3 a4 a5 a6 : Option MV} : Ev d 223 20 [some (vO x), a1, a2, a3, a4, a5, a6] st h = Ev d 223 21 [some (vO x), a1, a2, a3, a4, a5, a6] (vO x :: st) h := Rnx (hB_223) (dX7_does_20) rfl
set_option maxRecDepth 100000 in
theorem v223_21 {d : Nat} {ls : LS3} {st : List MV} {h : Hp} {a : A3} (hS : gS h a = (1, 7)) : Ev d 223 21 ls (vR a :: st) h = Ev d 223 24 ls (vO (gR h a 25) :: st) h := Rget hB_223 dX7_does_21 rfl (Or.inl hS)
theorem v223_24 {d : Nat} {ls : LS3} {st : List MV} {h : Hp} : Ev d 223 24 ls st h = Ev d 223 25 ls (vI 4 :: st) h := Rnx (hB_223) (dX7_does_24) rfl
theorem v223_25 {d : Nat} {st : List MV} {h : Hp} {x : Int32} {a0 a2 a3 a4 a5 a6 : Option MV} : Ev d 223 25 [a0, some (vI x), a2, a3, a4, a5, a6] st h = Ev d 223 26 [a0, some (vI x), a2, a3, a4, a5, a6] (vI x :: st) h := Rnx (hB_223) (dX7_does_25) rfl
theorem v223_26 {d : Nat} {ls : LS3} {st : List MV} {h : Hp} {x y : Int32} : Ev d 223 26 ls (vI y :: vI x :: st) h = Ev d 223 27 ls (vI (x * y) :: st) h := Rnx (hB_223) (dX7_does_26) rfl
theorem v223_27 {d : Nat} {ls : LS3} {st : List MV} {h : Hp} : Ev d 223 27 ls st h = Ev d 223 28 ls (vI 2 :: st) h := Rnx (hB_223) (dX7_does_27) rfl
theorem v223_28 {d : Nat} {ls : LS3} {st : List MV} {h : Hp} {x y : Int32} : Ev d 223 28 ls (vI y :: vI x :: st) h = Ev d 223 29 ls (vI (x + y) :: st) h := Rnx (hB_223) (dX7_does_28) rfl
theorem v223_29 {d : Nat} {ls : LS3} {st : List MV} {h : Hp} {a : A3} {j : Int32} (hS : (gS h a).1 ∈ [2, 9]) (hj : inB j (gS h a).2) : Ev d 223 29 ls (vI j :: vR a :: st) h = Ev d 223 30 ls (vI (gI h a j.toNatClampNeg) :: st) h := Rald (ks := [2, 9]) (f := fun a j => vI (gI h a j)) hB_223 dX7_does_29 rfl hS hj
theorem v223_30 {d : Nat} {st : List MV} {h : Hp} {x : Int32} {a0 a1 a2 a3 a4 a5 a6 : Option MV} : Ev d 223 30 [a0, a1, a2, a3, a4, a5, a6] (vI x :: st) h = Ev d 223 32 [a0, a1, a2, a3, some (vI x), a5, a6] st h := Rnx (hB_223) (dX7_does_30) rfl
theorem v223_32 {d : Nat} {st : List MV} {h : Hp} {x : Option A3} {a1 a2 a3 a4 a5 a6 : Option MV} : Ev d 223 32 [some (vO x), a1, a2, a3, a4, a5, a6] st h = Ev d 223 33 [some (vO x), a1, a2, a3, a4, a5, a6] (vO x :: st) h := Rnx (hB_223) (dX7_does_32) rfl
set_option maxRecDepth 100000 in
theorem v223_33 {d : Nat} {ls : LS3} {st : List MV} {h : Hp} {a : A3} (hS : gS h a = (1, 7)) : Ev d 223 33 ls (vR a :: st) h = Ev d 223 36 ls (vO (gR h a 25) :: st) h := Rget hB_223 dX7_does_33 rfl (Or.inl hS)
theorem v223_36 {d : Nat} {ls : LS3} {st : List MV} {h : Hp} : Ev d 223 36 ls st h = Ev d 223 37 ls (vI 4 :: st) h := Rnx (hB_223) (dX7_does_36) rfl
theorem v223_37 {d : Nat} {st : List MV} {h : Hp} {x : Int32} {a0 a2 a3 a4 a5 a6 : Option MV} : Ev d 223 37 [a0, some (vI x), a2, a3, a4, a5, a6] st h = Ev d 223 38 [a0, some (vI x), a2, a3, a4, a5, a6] (vI x :: st) h := Rnx (hB_223) (dX7_does_37) rfl
theorem v223_38 {d : Nat} {ls : LS3} {st : List MV} {h : Hp} {x y : Int32} : Ev d 223 38 ls (vI y :: vI x :: st) h = Ev d 223 39 ls (vI (x * y) :: st) h := Rnx (hB_223) (dX7_does_38) rfl
theorem v223_39 {d : Nat} {ls : LS3} {st : List MV} {h : Hp} : Ev d 223 39 ls st h = Ev d 223 40 ls (vI 3 :: st) h := Rnx (hB_223) (dX7_does_39) rfl
theorem v223_40 {d : Nat} {ls : LS3} {st : List MV} {h : Hp} {x y : Int32} : Ev d 223 40 ls (vI y :: vI x :: st) h = Ev d 223 41 ls (vI (x + y) :: st) h := Rnx (hB_223) (dX7_does_40) rfl
theorem v223_41 {d : Nat} {ls : LS3} {st : List MV} {h : Hp} {a : A3} {j : Int32} (hS : (gS h a).1 ∈ [2, 9]) (hj : inB j (gS h a).2) : Ev d 223 41 ls (vI j :: vR a :: st) h = Ev d 223 42 ls (vI (gI h a j.toNatClampNeg) :: st) h := Rald (ks := [2, 9]) (f := fun a j => vI (gI h a j)) hB_223 dX7_does_41 rfl hS hj
theorem v223_42 {d : Nat} {st : List MV} {h : Hp} {x : Int32} {a0 a1 a2 a3 a4 a5 a6 : Option MV} : Ev d 223 42 [a0, a1, a2, a3, a4, a5, a6] (vI x :: st) h = Ev d 223 44 [a0, a1, a2, a3, a4, some (vI x), a6] st h := Rnx (hB_223) (dX7_does_42) rfl
theorem v223_44 {d : Nat} {st : List MV} {h : Hp} {x : Option A3} {a1 a2 a3 a4 a5 a6 : Option MV} : Ev d 223 44 [some (vO x), a1, a2, a3, a4, a5, a6] st h = Ev d 223 45 [some (vO x), a1, a2, a3, a4, a5, a6] (vO x :: st) h := Rnx (hB_223) (dX7_does_44) rfl
set_option maxRecDepth 100000 in
theorem v223_45 {d : Nat} {ls : LS3} {st : List MV} {h : Hp} {a : A3} (hS : gS h a = (1, 7)) : Ev d 223 45 ls (vR a :: st) h = Ev d 223 48 ls (vO (gR h a 24) :: st) h := Rget hB_223 dX7_does_45 rfl (Or.inl hS)
theorem v223_48 {d : Nat} {st : List MV} {h : Hp} {x : Int32} {a0 a2 a3 a4 a5 a6 : Option MV} : Ev d 223 48 [a0, some (vI x), a2, a3, a4, a5, a6] st h = Ev d 223 49 [a0, some (vI x), a2, a3, a4, a5, a6] (vI x :: st) h := Rnx (hB_223) (dX7_does_48) rfl
theorem v223_49 {d : Nat} {ls : LS3} {st : List MV} {h : Hp} {a : A3} {j : Int32} (hS : (gS h a).1 ∈ [3]) (hj : inB j (gS h a).2) : Ev d 223 49 ls (vI j :: vR a :: st) h = Ev d 223 50 ls (vI (gI h a j.toNatClampNeg) :: st) h := Rald (ks := [3]) (f := fun a j => vI (gI h a j)) hB_223 dX7_does_49 rfl hS hj
theorem v223_50 {d : Nat} {ls : LS3} {st : List MV} {h : Hp} : Ev d 223 50 ls st h = Ev d 223 52 ls (vI 106 :: st) h := Rnx (hB_223) (dX7_does_50) rfl
theorem v223_52 {d : Nat} {ls : LS3} {st : List MV} {h : Hp} {x y : Int32} : Ev d 223 52 ls (vI y :: vI x :: st) h = if x = y then Ev d 223 55 ls st h else Ev d 223 64 ls st h := Rifn hB_223 dX7_does_52 rfl
theorem v223_55 {d : Nat} {st : List MV} {h : Hp} {x : Option A3} {a1 a2 a3 a4 a5 a6 : Option MV} : Ev d 223 55 [some (vO x), a1, a2, a3, a4, a5, a6] st h = Ev d 223 56 [some (vO x), a1, a2, a3, a4, a5, a6] (vO x :: st) h := Rnx (hB_223) (dX7_does_55) rfl
theorem v223_56 {d : Nat} {st : List MV} {h : Hp} {x : Int32} {a0 a1 a3 a4 a5 a6 : Option MV} : Ev d 223 56 [a0, a1, some (vI x), a3, a4, a5, a6] st h = Ev d 223 57 [a0, a1, some (vI x), a3, a4, a5, a6] (vI x :: st) h := Rnx (hB_223) (dX7_does_56) rfl
theorem v223_57 {d : Nat} {st : List MV} {h : Hp} {x : Int32} {a0 a1 a2 a4 a5 a6 : Option MV} : Ev d 223 57 [a0, a1, a2, some (vI x), a4, a5, a6] st h = Ev d 223 58 [a0, a1, a2, some (vI x), a4, a5, a6] (vI x :: st) h := Rnx (hB_223) (dX7_does_57) rfl
set_option maxRecDepth 100000 in
theorem v223_58 {d : Nat} {ls : LS3} {st : List MV} {h : Hp} {a : A3} {x0 : Int32} {x1 : Int32} (hS : gS h a = (1, 7)) (hc : catS st ≤ 8) : Ev (d + 1) 223 58 ls (vI x1 :: vI x0 :: vR a :: st) h = Evk 184 (d + 1) 223 58 ls st (Ev d 184 0 [some (vR a), some (vI x0), some (vI x1), none] [] h) := RcallO (idx := 280) (n := 2) (kd := 0) (As' := [vI x0, vI x1]) hB_223 dX7_does_58 rfl rfl (by decide) rfl rfl (Or.inl hS) rfl hc
theorem v223_61 {d : Nat} {ls : LS3} {st : List MV} {h : Hp} : Ev d 223 61 ls st h = Ev d 223 132 ls st h := Rnx (hB_223) (dX7_does_61) rfl
theorem v223_64 {d : Nat} {st : List MV} {h : Hp} {x : Option A3} {a1 a2 a3 a4 a5 a6 : Option MV} : Ev d 223 64 [some (vO x), a1, a2, a3, a4, a5, a6] st h = Ev d 223 65 [some (vO x), a1, a2, a3, a4, a5, a6] (vO x :: st) h := Rnx (hB_223) (dX7_does_64) rfl
set_option maxRecDepth 100000 in
theorem v223_65 {d : Nat} {ls : LS3} {st : List MV} {h : Hp} {a : A3} (hS : gS h a = (1, 7)) : Ev d 223 65 ls (vR a :: st) h = Ev d 223 68 ls (vO (gR h a 24) :: st) h := Rget hB_223 dX7_does_65 rfl (Or.inl hS)
theorem v223_68 {d : Nat} {st : List MV} {h : Hp} {x : Int32} {a0 a2 a3 a4 a5 a6 : Option MV} : Ev d 223 68 [a0, some (vI x), a2, a3, a4, a5, a6] st h = Ev d 223 69 [a0, some (vI x), a2, a3, a4, a5, a6] (vI x :: st) h := Rnx (hB_223) (dX7_does_68) rfl
theorem v223_69 {d : Nat} {ls : LS3} {st : List MV} {h : Hp} {a : A3} {j : Int32} (hS : (gS h a).1 ∈ [3]) (hj : inB j (gS h a).2) : Ev d 223 69 ls (vI j :: vR a :: st) h = Ev d 223 70 ls (vI (gI h a j.toNatClampNeg) :: st) h := Rald (ks := [3]) (f := fun a j => vI (gI h a j)) hB_223 dX7_does_69 rfl hS hj
theorem v223_70 {d : Nat} {ls : LS3} {st : List MV} {h : Hp} : Ev d 223 70 ls st h = Ev d 223 72 ls (vI 108 :: st) h := Rnx (hB_223) (dX7_does_70) rfl
theorem v223_72 {d : Nat} {ls : LS3} {st : List MV} {h : Hp} {x y : Int32} : Ev d 223 72 ls (vI y :: vI x :: st) h = if x = y then Ev d 223 75 ls st h else Ev d 223 84 ls st h := Rifn hB_223 dX7_does_72 rfl
theorem v223_75 {d : Nat} {st : List MV} {h : Hp} {x : Option A3} {a1 a2 a3 a4 a5 a6 : Option MV} : Ev d 223 75 [some (vO x), a1, a2, a3, a4, a5, a6] st h = Ev d 223 76 [some (vO x), a1, a2, a3, a4, a5, a6] (vO x :: st) h := Rnx (hB_223) (dX7_does_75) rfl
theorem v223_76 {d : Nat} {st : List MV} {h : Hp} {x : Int32} {a0 a1 a3 a4 a5 a6 : Option MV} : Ev d 223 76 [a0, a1, some (vI x), a3, a4, a5, a6] st h = Ev d 223 77 [a0, a1, some (vI x), a3, a4, a5, a6] (vI x :: st) h := Rnx (hB_223) (dX7_does_76) rfl
theorem v223_77 {d : Nat} {st : List MV} {h : Hp} {x : Int32} {a0 a1 a2 a4 a5 a6 : Option MV} : Ev d 223 77 [a0, a1, a2, some (vI x), a4, a5, a6] st h = Ev d 223 78 [a0, a1, a2, some (vI x), a4, a5, a6] (vI x :: st) h := Rnx (hB_223) (dX7_does_77) rfl
set_option maxRecDepth 100000 in
theorem v223_78 {d : Nat} {ls : LS3} {st : List MV} {h : Hp} {a : A3} {x0 : Int32} {x1 : Int32} (hS : gS h a = (1, 7)) (hc : catS st ≤ 8) : Ev (d + 1) 223 78 ls (vI x1 :: vI x0 :: vR a :: st) h = Evk 185 (d + 1) 223 78 ls st (Ev d 185 0 [some (vR a), some (vI x0), some (vI x1)] [] h) := RcallO (idx := 283) (n := 2) (kd := 0) (As' := [vI x0, vI x1]) hB_223 dX7_does_78 rfl rfl (by decide) rfl rfl (Or.inl hS) rfl hc
theorem v223_81 {d : Nat} {ls : LS3} {st : List MV} {h : Hp} : Ev d 223 81 ls st h = Ev d 223 132 ls st h := Rnx (hB_223) (dX7_does_81) rfl
theorem v223_84 {d : Nat} {st : List MV} {h : Hp} {x : Option A3} {a1 a2 a3 a4 a5 a6 : Option MV} : Ev d 223 84 [some (vO x), a1, a2, a3, a4, a5, a6] st h = Ev d 223 85 [some (vO x), a1, a2, a3, a4, a5, a6] (vO x :: st) h := Rnx (hB_223) (dX7_does_84) rfl
set_option maxRecDepth 100000 in
theorem v223_85 {d : Nat} {ls : LS3} {st : List MV} {h : Hp} {a : A3} (hS : gS h a = (1, 7)) : Ev d 223 85 ls (vR a :: st) h = Ev d 223 88 ls (vO (gR h a 24) :: st) h := Rget hB_223 dX7_does_85 rfl (Or.inl hS)
theorem v223_88 {d : Nat} {st : List MV} {h : Hp} {x : Int32} {a0 a2 a3 a4 a5 a6 : Option MV} : Ev d 223 88 [a0, some (vI x), a2, a3, a4, a5, a6] st h = Ev d 223 89 [a0, some (vI x), a2, a3, a4, a5, a6] (vI x :: st) h := Rnx (hB_223) (dX7_does_88) rfl
theorem v223_89 {d : Nat} {ls : LS3} {st : List MV} {h : Hp} {a : A3} {j : Int32} (hS : (gS h a).1 ∈ [3]) (hj : inB j (gS h a).2) : Ev d 223 89 ls (vI j :: vR a :: st) h = Ev d 223 90 ls (vI (gI h a j.toNatClampNeg) :: st) h := Rald (ks := [3]) (f := fun a j => vI (gI h a j)) hB_223 dX7_does_89 rfl hS hj
theorem v223_90 {d : Nat} {ls : LS3} {st : List MV} {h : Hp} : Ev d 223 90 ls st h = Ev d 223 92 ls (vI 112 :: st) h := Rnx (hB_223) (dX7_does_90) rfl
theorem v223_92 {d : Nat} {ls : LS3} {st : List MV} {h : Hp} {x y : Int32} : Ev d 223 92 ls (vI y :: vI x :: st) h = if x = y then Ev d 223 95 ls st h else Ev d 223 108 ls st h := Rifn hB_223 dX7_does_92 rfl
theorem v223_95 {d : Nat} {st : List MV} {h : Hp} {x : Option A3} {a1 a2 a3 a4 a5 a6 : Option MV} : Ev d 223 95 [some (vO x), a1, a2, a3, a4, a5, a6] st h = Ev d 223 96 [some (vO x), a1, a2, a3, a4, a5, a6] (vO x :: st) h := Rnx (hB_223) (dX7_does_95) rfl
theorem v223_96 {d : Nat} {st : List MV} {h : Hp} {x : Int32} {a0 a1 a3 a4 a5 a6 : Option MV} : Ev d 223 96 [a0, a1, some (vI x), a3, a4, a5, a6] st h = Ev d 223 97 [a0, a1, some (vI x), a3, a4, a5, a6] (vI x :: st) h := Rnx (hB_223) (dX7_does_96) rfl
theorem v223_97 {d : Nat} {st : List MV} {h : Hp} {x : Int32} {a0 a1 a2 a4 a5 a6 : Option MV} : Ev d 223 97 [a0, a1, a2, some (vI x), a4, a5, a6] st h = Ev d 223 98 [a0, a1, a2, some (vI x), a4, a5, a6] (vI x :: st) h := Rnx (hB_223) (dX7_does_97) rfl
theorem v223_98 {d : Nat} {st : List MV} {h : Hp} {x : Int32} {a0 a1 a2 a3 a5 a6 : Option MV} : Ev d 223 98 [a0, a1, a2, a3, some (vI x), a5, a6] st h = Ev d 223 100 [a0, a1, a2, a3, some (vI x), a5, a6] (vI x :: st) h := Rnx (hB_223) (dX7_does_98) rfl
theorem v223_100 {d : Nat} {st : List MV} {h : Hp} {x : Int32} {a0 a1 a2 a3 a4 a6 : Option MV} : Ev d 223 100 [a0, a1, a2, a3, a4, some (vI x), a6] st h = Ev d 223 102 [a0, a1, a2, a3, a4, some (vI x), a6] (vI x :: st) h := Rnx (hB_223) (dX7_does_100) rfl
set_option maxRecDepth 100000 in
theorem v223_102 {d : Nat} {ls : LS3} {st : List MV} {h : Hp} {a : A3} {x0 : Int32} {x1 : Int32} {x2 : Int32} {x3 : Int32} (hS : gS h a = (1, 7)) (hc : catS st ≤ 8) : Ev (d + 1) 223 102 ls (vI x3 :: vI x2 :: vI x1 :: vI x0 :: vR a :: st) h = Evk 197 (d + 1) 223 102 ls st (Ev d 197 0 [some (vR a), some (vI x0), some (vI x1), some (vI x2), some (vI x3), none] [] h) := RcallO (idx := 286) (n := 4) (kd := 0) (As' := [vI x0, vI x1, vI x2, vI x3]) hB_223 dX7_does_102 rfl rfl (by decide) rfl rfl (Or.inl hS) rfl hc
theorem v223_105 {d : Nat} {ls : LS3} {st : List MV} {h : Hp} : Ev d 223 105 ls st h = Ev d 223 132 ls st h := Rnx (hB_223) (dX7_does_105) rfl
theorem v223_108 {d : Nat} {st : List MV} {h : Hp} {x : Option A3} {a1 a2 a3 a4 a5 a6 : Option MV} : Ev d 223 108 [some (vO x), a1, a2, a3, a4, a5, a6] st h = Ev d 223 109 [some (vO x), a1, a2, a3, a4, a5, a6] (vO x :: st) h := Rnx (hB_223) (dX7_does_108) rfl
set_option maxRecDepth 100000 in
theorem v223_109 {d : Nat} {ls : LS3} {st : List MV} {h : Hp} {a : A3} (hS : gS h a = (1, 7)) : Ev d 223 109 ls (vR a :: st) h = Ev d 223 112 ls (vO (gR h a 24) :: st) h := Rget hB_223 dX7_does_109 rfl (Or.inl hS)
theorem v223_112 {d : Nat} {st : List MV} {h : Hp} {x : Int32} {a0 a2 a3 a4 a5 a6 : Option MV} : Ev d 223 112 [a0, some (vI x), a2, a3, a4, a5, a6] st h = Ev d 223 113 [a0, some (vI x), a2, a3, a4, a5, a6] (vI x :: st) h := Rnx (hB_223) (dX7_does_112) rfl
theorem v223_113 {d : Nat} {ls : LS3} {st : List MV} {h : Hp} {a : A3} {j : Int32} (hS : (gS h a).1 ∈ [3]) (hj : inB j (gS h a).2) : Ev d 223 113 ls (vI j :: vR a :: st) h = Ev d 223 114 ls (vI (gI h a j.toNatClampNeg) :: st) h := Rald (ks := [3]) (f := fun a j => vI (gI h a j)) hB_223 dX7_does_113 rfl hS hj
theorem v223_114 {d : Nat} {ls : LS3} {st : List MV} {h : Hp} : Ev d 223 114 ls st h = Ev d 223 116 ls (vI 110 :: st) h := Rnx (hB_223) (dX7_does_114) rfl
theorem v223_116 {d : Nat} {ls : LS3} {st : List MV} {h : Hp} {x y : Int32} : Ev d 223 116 ls (vI y :: vI x :: st) h = if x = y then Ev d 223 119 ls st h else Ev d 223 127 ls st h := Rifn hB_223 dX7_does_116 rfl
theorem v223_119 {d : Nat} {st : List MV} {h : Hp} {x : Option A3} {a1 a2 a3 a4 a5 a6 : Option MV} : Ev d 223 119 [some (vO x), a1, a2, a3, a4, a5, a6] st h = Ev d 223 120 [some (vO x), a1, a2, a3, a4, a5, a6] (vO x :: st) h := Rnx (hB_223) (dX7_does_119) rfl
theorem v223_120 {d : Nat} {st : List MV} {h : Hp} {x : Int32} {a0 a1 a3 a4 a5 a6 : Option MV} : Ev d 223 120 [a0, a1, some (vI x), a3, a4, a5, a6] st h = Ev d 223 121 [a0, a1, some (vI x), a3, a4, a5, a6] (vI x :: st) h := Rnx (hB_223) (dX7_does_120) rfl
set_option maxRecDepth 100000 in
theorem v223_121 {d : Nat} {ls : LS3} {st : List MV} {h : Hp} {a : A3} {x0 : Int32} (hS : gS h a = (1, 7)) (hc : catS st ≤ 8) : Ev (d + 1) 223 121 ls (vI x0 :: vR a :: st) h = Evk 203 (d + 1) 223 121 ls st (Ev d 203 0 [some (vR a), some (vI x0)] [] h) := RcallO (idx := 289) (n := 1) (kd := 0) (As' := [vI x0]) hB_223 dX7_does_121 rfl rfl (by decide) rfl rfl (Or.inl hS) rfl hc
theorem v223_124 {d : Nat} {ls : LS3} {st : List MV} {h : Hp} : Ev d 223 124 ls st h = Ev d 223 132 ls st h := Rnx (hB_223) (dX7_does_124) rfl
theorem v223_127 {d : Nat} {st : List MV} {h : Hp} {x : Option A3} {a1 a2 a3 a4 a5 a6 : Option MV} : Ev d 223 127 [some (vO x), a1, a2, a3, a4, a5, a6] st h = Ev d 223 128 [some (vO x), a1, a2, a3, a4, a5, a6] (vO x :: st) h := Rnx (hB_223) (dX7_does_127) rfl
theorem v223_128 {d : Nat} {st : List MV} {h : Hp} {x : Int32} {a0 a1 a3 a4 a5 a6 : Option MV} : Ev d 223 128 [a0, a1, some (vI x), a3, a4, a5, a6] st h = Ev d 223 129 [a0, a1, some (vI x), a3, a4, a5, a6] (vI x :: st) h := Rnx (hB_223) (dX7_does_128) rfl
set_option maxRecDepth 100000 in
theorem v223_129 {d : Nat} {ls : LS3} {st : List MV} {h : Hp} {a : A3} {x0 : Int32} (hS : gS h a = (1, 7)) (hc : catS st ≤ 8) : Ev (d + 1) 223 129 ls (vI x0 :: vR a :: st) h = Evk 212 (d + 1) 223 129 ls st (Ev d 212 0 [some (vR a), some (vI x0)] [] h) := RcallO (idx := 292) (n := 1) (kd := 0) (As' := [vI x0]) hB_223 dX7_does_129 rfl rfl (by decide) rfl rfl (Or.inl hS) rfl hc
theorem v223_132 {d : Nat} {st : List MV} {h : Hp} {x : Int32} {a0 a1 a2 a3 a4 a5 a6 : Option MV} : Ev d 223 132 [a0, a1, a2, a3, a4, a5, a6] (vI x :: st) h = Ev d 223 134 [a0, a1, a2, a3, a4, a5, some (vI x)] st h := Rnx (hB_223) (dX7_does_132) rfl
theorem v223_134 {d : Nat} {st : List MV} {h : Hp} {x : Int32} {a0 a1 a2 a3 a4 a5 : Option MV} : Ev d 223 134 [a0, a1, a2, a3, a4, a5, some (vI x)] st h = Ev d 223 136 [a0, a1, a2, a3, a4, a5, some (vI x)] (vI x :: st) h := Rnx (hB_223) (dX7_does_134) rfl
theorem v223_136 {d : Nat} {ls : LS3} {st : List MV} {h : Hp} : Ev d 223 136 ls st h = Ev d 223 139 ls (vI (-400) :: st) h := Rnx (hB_223) (dX7_does_136) rfl
theorem v223_139 {d : Nat} {ls : LS3} {st : List MV} {h : Hp} {x y : Int32} : Ev d 223 139 ls (vI y :: vI x :: st) h = if y ≤ x then Ev d 223 146 ls st h else Ev d 223 142 ls st h := Rif hB_223 dX7_does_139 rfl
theorem v223_142 {d : Nat} {ls : LS3} {st : List MV} {h : Hp} : Ev d 223 142 ls st h = Ev d 223 143 ls (vI 0 :: st) h := Rnx (hB_223) (dX7_does_142) rfl
theorem v223_143 {d : Nat} {ls : LS3} {st : List MV} {h : Hp} : Ev d 223 143 ls st h = Ev d 223 150 ls st h := Rnx (hB_223) (dX7_does_143) rfl
theorem v223_146 {d : Nat} {st : List MV} {h : Hp} {x : Option A3} {a1 a2 a3 a4 a5 a6 : Option MV} : Ev d 223 146 [some (vO x), a1, a2, a3, a4, a5, a6] st h = Ev d 223 147 [some (vO x), a1, a2, a3, a4, a5, a6] (vO x :: st) h := Rnx (hB_223) (dX7_does_146) rfl
set_option maxRecDepth 100000 in
theorem v223_147 {d : Nat} {ls : LS3} {st : List MV} {h : Hp} {a : A3} (hS : gS h a = (1, 7)) : Ev d 223 147 ls (vR a :: st) h = Ev d 223 150 ls (vI (gI h a 0) :: st) h := Rget hB_223 dX7_does_147 rfl (Or.inl hS)
theorem v223_150 {d : Nat} {ls : LS3} {h : Hp} {x : Int32} : Ev d 223 150 ls [vI x] h = some (.inl (some (vI x)), h) := Rdn hB_223 dX7_does_150 rfl
theorem hB_224 : mB 224 = cX7_read := rfl
theorem v224_0 {d : Nat} {st : List MV} {h : Hp} {x : Option A3} {a1 a2 a3 : Option MV} : Ev d 224 0 [some (vO x), a1, a2, a3] st h = Ev d 224 1 [some (vO x), a1, a2, a3] (vO x :: st) h := Rnx (hB_224) (dX7_read_0) rfl
set_option maxRecDepth 100000 in
theorem v224_1 {d : Nat} {ls : LS3} {st : List MV} {h : Hp} {a : A3}  (hS : gS h a = (1, 7)) (hc : catS st ≤ 8) : Ev (d + 1) 224 1 ls (vR a :: st) h = Evk 222 (d + 1) 224 1 ls st (Ev d 222 0 [some (vR a)] [] h) := RcallO (idx := 295) (n := 0) (kd := 0) (As' := []) hB_224 dX7_read_1 rfl rfl (by decide) rfl rfl (Or.inl hS) rfl hc
theorem v224_4 {d : Nat} {st : List MV} {h : Hp} {x : Int32} {a0 a1 a2 a3 : Option MV} : Ev d 224 4 [a0, a1, a2, a3] (vI x :: st) h = Ev d 224 5 [a0, some (vI x), a2, a3] st h := Rnx (hB_224) (dX7_read_4) rfl
theorem v224_5 {d : Nat} {st : List MV} {h : Hp} {x : Option A3} {a1 a2 a3 : Option MV} : Ev d 224 5 [some (vO x), a1, a2, a3] st h = Ev d 224 6 [some (vO x), a1, a2, a3] (vO x :: st) h := Rnx (hB_224) (dX7_read_5) rfl
theorem v224_6 {d : Nat} {ls : LS3} {st : List MV} {h : Hp} : Ev d 224 6 ls st h = Ev d 224 7 ls (vI 0 :: st) h := Rnx (hB_224) (dX7_read_6) rfl
set_option maxRecDepth 100000 in
theorem v224_7 {d : Nat} {ls : LS3} {st : List MV} {h : Hp} {a : A3} {x : Int32} (hS : gS h a = (1, 7)) : Ev d 224 7 ls (vI x :: vR a :: st) h = Ev d 224 10 ls st (sI h a 26 x) := RputI hB_224 dX7_read_7 rfl rfl (by decide) hS (Or.inl rfl)
theorem v224_10 {d : Nat} {st : List MV} {h : Hp} {x : Int32} {a0 a2 a3 : Option MV} : Ev d 224 10 [a0, some (vI x), a2, a3] st h = Ev d 224 11 [a0, some (vI x), a2, a3] (vI x :: st) h := Rnx (hB_224) (dX7_read_10) rfl
theorem v224_11 {d : Nat} {ls : LS3} {st : List MV} {h : Hp} {x : Int32} : Ev d 224 11 ls (vI x :: st) h = if x = 0 then Ev d 224 14 ls st h else Ev d 224 28 ls st h := Rifn hB_224 dX7_read_11 rfl
theorem v224_14 {d : Nat} {st : List MV} {h : Hp} {x : Option A3} {a1 a2 a3 : Option MV} : Ev d 224 14 [some (vO x), a1, a2, a3] st h = Ev d 224 15 [some (vO x), a1, a2, a3] (vO x :: st) h := Rnx (hB_224) (dX7_read_14) rfl
theorem v224_15 {d : Nat} {st : List MV} {h : Hp} {x : Option A3} {a1 a2 a3 : Option MV} : Ev d 224 15 [some (vO x), a1, a2, a3] st h = Ev d 224 16 [some (vO x), a1, a2, a3] (vO x :: st) h := Rnx (hB_224) (dX7_read_15) rfl
set_option maxRecDepth 100000 in
theorem v224_16 {d : Nat} {ls : LS3} {st : List MV} {h : Hp} {a : A3} (hS : gS h a = (1, 7)) : Ev d 224 16 ls (vR a :: st) h = Ev d 224 19 ls (vI (gI h a 27) :: st) h := Rget hB_224 dX7_read_16 rfl (Or.inl hS)
set_option maxRecDepth 100000 in
theorem v224_19 {d : Nat} {ls : LS3} {st : List MV} {h : Hp} {a : A3} {x : Int32} (hS : gS h a = (1, 7)) : Ev d 224 19 ls (vI x :: vR a :: st) h = Ev d 224 22 ls st (sI h a 29 x) := RputI hB_224 dX7_read_19 rfl rfl (by decide) hS (Or.inl rfl)
theorem v224_22 {d : Nat} {st : List MV} {h : Hp} {x : Option A3} {a1 a2 a3 : Option MV} : Ev d 224 22 [some (vO x), a1, a2, a3] st h = Ev d 224 23 [some (vO x), a1, a2, a3] (vO x :: st) h := Rnx (hB_224) (dX7_read_22) rfl
theorem v224_23 {d : Nat} {ls : LS3} {st : List MV} {h : Hp} : Ev d 224 23 ls st h = Ev d 224 24 ls (vI 1 :: st) h := Rnx (hB_224) (dX7_read_23) rfl
set_option maxRecDepth 100000 in
theorem v224_24 {d : Nat} {ls : LS3} {st : List MV} {h : Hp} {a : A3} {x0 : Int32} (hS : gS h a = (1, 7)) (hc : catS st ≤ 8) : Ev (d + 1) 224 24 ls (vI x0 :: vR a :: st) h = Evk 141 (d + 1) 224 24 ls st (Ev d 141 0 [some (vR a), some (vI x0)] [] h) := RcallO (idx := 168) (n := 1) (kd := 0) (As' := [vI x0]) hB_224 dX7_read_24 rfl rfl (by decide) rfl rfl (Or.inl hS) rfl hc
theorem v224_27 {d : Nat} {ls : LS3} {h : Hp} {x : Int32} : Ev d 224 27 ls [vI x] h = some (.inl (some (vI x)), h) := Rdn hB_224 dX7_read_27 rfl
theorem v224_28 {d : Nat} {st : List MV} {h : Hp} {x : Option A3} {a1 a2 a3 : Option MV} : Ev d 224 28 [some (vO x), a1, a2, a3] st h = Ev d 224 29 [some (vO x), a1, a2, a3] (vO x :: st) h := Rnx (hB_224) (dX7_read_28) rfl
theorem v224_29 {d : Nat} {st : List MV} {h : Hp} {x : Option A3} {a1 a2 a3 : Option MV} : Ev d 224 29 [some (vO x), a1, a2, a3] st h = Ev d 224 30 [some (vO x), a1, a2, a3] (vO x :: st) h := Rnx (hB_224) (dX7_read_29) rfl
set_option maxRecDepth 100000 in
theorem v224_30 {d : Nat} {ls : LS3} {st : List MV} {h : Hp} {a : A3} (hS : gS h a = (1, 7)) : Ev d 224 30 ls (vR a :: st) h = Ev d 224 33 ls (vO (gR h a 32) :: st) h := Rget hB_224 dX7_read_30 rfl (Or.inl hS)
theorem v224_33 {d : Nat} {ls : LS3} {st : List MV} {h : Hp} : Ev d 224 33 ls st h = Ev d 224 34 ls (vI 0 :: st) h := Rnx (hB_224) (dX7_read_33) rfl
theorem v224_34 {d : Nat} {ls : LS3} {st : List MV} {h : Hp} : Ev d 224 34 ls st h = Ev d 224 35 ls (vI 1 :: st) h := Rnx (hB_224) (dX7_read_34) rfl
set_option maxRecDepth 100000 in
theorem v224_35 {d : Nat} {ls : LS3} {st : List MV} {h : Hp} {a : A3} {o0 : Option A3} {x1 : Int32} {x2 : Int32} (hS : gS h a = (1, 7)) (hc : catS st ≤ 8) : Ev (d + 1) 224 35 ls (vI x2 :: vI x1 :: vO o0 :: vR a :: st) h = Evk 228 (d + 1) 224 35 ls st (Ev d 228 0 [some (vR a), some (vO o0), some (vI x1), some (vI x2)] [] h) := RcallO (idx := 298) (n := 3) (kd := 0) (As' := [vO o0, vI x1, vI x2]) hB_224 dX7_read_35 rfl rfl (by decide) rfl rfl (Or.inl hS) rfl hc
theorem v224_38 {d : Nat} {st : List MV} {h : Hp} {x : Option A3} {a1 a2 a3 : Option MV} : Ev d 224 38 [some (vO x), a1, a2, a3] st h = Ev d 224 39 [some (vO x), a1, a2, a3] (vO x :: st) h := Rnx (hB_224) (dX7_read_38) rfl
theorem v224_39 {d : Nat} {ls : LS3} {st : List MV} {h : Hp} : Ev d 224 39 ls st h = Ev d 224 40 ls (vI 1 :: st) h := Rnx (hB_224) (dX7_read_39) rfl
set_option maxRecDepth 100000 in
theorem v224_40 {d : Nat} {ls : LS3} {st : List MV} {h : Hp} {a : A3} {x : Int32} (hS : gS h a = (1, 7)) (hx : x = 0 ∨ x = 1) : Ev d 224 40 ls (vI x :: vR a :: st) h = Ev d 224 43 ls st (sI h a 37 x) := RputI hB_224 dX7_read_40 rfl rfl (by decide) hS (Or.inr ⟨rfl, hx⟩)
theorem v224_43 {d : Nat} {ls : LS3} {st : List MV} {h : Hp} : Ev d 224 43 ls st h = Ev d 224 44 ls (vI 0 :: st) h := Rnx (hB_224) (dX7_read_43) rfl
theorem v224_44 {d : Nat} {st : List MV} {h : Hp} {x : Int32} {a0 a1 a2 a3 : Option MV} : Ev d 224 44 [a0, a1, a2, a3] (vI x :: st) h = Ev d 224 45 [a0, a1, some (vI x), a3] st h := Rnx (hB_224) (dX7_read_44) rfl
theorem v224_45 {d : Nat} {st : List MV} {h : Hp} {x : Int32} {a0 a1 a3 : Option MV} : Ev d 224 45 [a0, a1, some (vI x), a3] st h = Ev d 224 46 [a0, a1, some (vI x), a3] (vI x :: st) h := Rnx (hB_224) (dX7_read_45) rfl
theorem v224_46 {d : Nat} {st : List MV} {h : Hp} {x : Option A3} {a1 a2 a3 : Option MV} : Ev d 224 46 [some (vO x), a1, a2, a3] st h = Ev d 224 47 [some (vO x), a1, a2, a3] (vO x :: st) h := Rnx (hB_224) (dX7_read_46) rfl
set_option maxRecDepth 100000 in
theorem v224_47 {d : Nat} {ls : LS3} {st : List MV} {h : Hp} {a : A3} (hS : gS h a = (1, 7)) : Ev d 224 47 ls (vR a :: st) h = Ev d 224 50 ls (vI (gI h a 28) :: st) h := Rget hB_224 dX7_read_47 rfl (Or.inl hS)
theorem v224_50 {d : Nat} {ls : LS3} {st : List MV} {h : Hp} {x y : Int32} : Ev d 224 50 ls (vI y :: vI x :: st) h = if y ≤ x then Ev d 224 67 ls st h else Ev d 224 53 ls st h := Rif hB_224 dX7_read_50 rfl
theorem v224_53 {d : Nat} {st : List MV} {h : Hp} {x : Option A3} {a1 a2 a3 : Option MV} : Ev d 224 53 [some (vO x), a1, a2, a3] st h = Ev d 224 54 [some (vO x), a1, a2, a3] (vO x :: st) h := Rnx (hB_224) (dX7_read_53) rfl
theorem v224_54 {d : Nat} {st : List MV} {h : Hp} {x : Int32} {a0 a1 a3 : Option MV} : Ev d 224 54 [a0, a1, some (vI x), a3] st h = Ev d 224 55 [a0, a1, some (vI x), a3] (vI x :: st) h := Rnx (hB_224) (dX7_read_54) rfl
set_option maxRecDepth 100000 in
theorem v224_55 {d : Nat} {ls : LS3} {st : List MV} {h : Hp} {a : A3} {x0 : Int32} (hS : gS h a = (1, 7)) (hc : catS st ≤ 8) : Ev (d + 1) 224 55 ls (vI x0 :: vR a :: st) h = Evk 223 (d + 1) 224 55 ls st (Ev d 223 0 [some (vR a), some (vI x0), none, none, none, none, none] [] h) := RcallO (idx := 306) (n := 1) (kd := 0) (As' := [vI x0]) hB_224 dX7_read_55 rfl rfl (by decide) rfl rfl (Or.inl hS) rfl hc
theorem v224_58 {d : Nat} {ls : LS3} {st : List MV} {h : Hp} {x : Int32} : Ev d 224 58 ls (vI x :: st) h = if x = 0 then Ev d 224 61 ls st h else Ev d 224 67 ls st h := Rifn hB_224 dX7_read_58 rfl
theorem v224_61 {d : Nat} {st : List MV} {h : Hp} {x : Int32} {a0 a1 a3 : Option MV} : Ev d 224 61 [a0, a1, some (vI x), a3] st h = Ev d 224 64 [a0, a1, some (vI (x + 1)), a3] st h := Rnx (hB_224) (dX7_read_61) rfl
theorem v224_64 {d : Nat} {ls : LS3} {st : List MV} {h : Hp} : Ev d 224 64 ls st h = Ev d 224 45 ls st h := Rnx (hB_224) (dX7_read_64) rfl
theorem v224_67 {d : Nat} {st : List MV} {h : Hp} {x : Option A3} {a1 a2 a3 : Option MV} : Ev d 224 67 [some (vO x), a1, a2, a3] st h = Ev d 224 68 [some (vO x), a1, a2, a3] (vO x :: st) h := Rnx (hB_224) (dX7_read_67) rfl
theorem v224_68 {d : Nat} {ls : LS3} {st : List MV} {h : Hp} : Ev d 224 68 ls st h = Ev d 224 69 ls (vI 0 :: st) h := Rnx (hB_224) (dX7_read_68) rfl
set_option maxRecDepth 100000 in
theorem v224_69 {d : Nat} {ls : LS3} {st : List MV} {h : Hp} {a : A3} {x : Int32} (hS : gS h a = (1, 7)) (hx : x = 0 ∨ x = 1) : Ev d 224 69 ls (vI x :: vR a :: st) h = Ev d 224 72 ls st (sI h a 37 x) := RputI hB_224 dX7_read_69 rfl rfl (by decide) hS (Or.inr ⟨rfl, hx⟩)
theorem v224_72 {d : Nat} {st : List MV} {h : Hp} {x : Int32} {a0 a1 a3 : Option MV} : Ev d 224 72 [a0, a1, some (vI x), a3] st h = Ev d 224 73 [a0, a1, some (vI x), a3] (vI x :: st) h := Rnx (hB_224) (dX7_read_72) rfl
theorem v224_73 {d : Nat} {st : List MV} {h : Hp} {x : Option A3} {a1 a2 a3 : Option MV} : Ev d 224 73 [some (vO x), a1, a2, a3] st h = Ev d 224 74 [some (vO x), a1, a2, a3] (vO x :: st) h := Rnx (hB_224) (dX7_read_73) rfl
set_option maxRecDepth 100000 in
theorem v224_74 {d : Nat} {ls : LS3} {st : List MV} {h : Hp} {a : A3} (hS : gS h a = (1, 7)) : Ev d 224 74 ls (vR a :: st) h = Ev d 224 77 ls (vI (gI h a 28) :: st) h := Rget hB_224 dX7_read_74 rfl (Or.inl hS)
theorem v224_77 {d : Nat} {ls : LS3} {st : List MV} {h : Hp} {x y : Int32} : Ev d 224 77 ls (vI y :: vI x :: st) h = if y ≤ x then Ev d 224 96 ls st h else Ev d 224 80 ls st h := Rif hB_224 dX7_read_77 rfl
theorem v224_80 {d : Nat} {st : List MV} {h : Hp} {x : Option A3} {a1 a2 a3 : Option MV} : Ev d 224 80 [some (vO x), a1, a2, a3] st h = Ev d 224 81 [some (vO x), a1, a2, a3] (vO x :: st) h := Rnx (hB_224) (dX7_read_80) rfl
theorem v224_81 {d : Nat} {st : List MV} {h : Hp} {x : Option A3} {a1 a2 a3 : Option MV} : Ev d 224 81 [some (vO x), a1, a2, a3] st h = Ev d 224 82 [some (vO x), a1, a2, a3] (vO x :: st) h := Rnx (hB_224) (dX7_read_81) rfl
set_option maxRecDepth 100000 in
theorem v224_82 {d : Nat} {ls : LS3} {st : List MV} {h : Hp} {a : A3} (hS : gS h a = (1, 7)) : Ev d 224 82 ls (vR a :: st) h = Ev d 224 85 ls (vO (gR h a 32) :: st) h := Rget hB_224 dX7_read_82 rfl (Or.inl hS)
theorem v224_85 {d : Nat} {ls : LS3} {st : List MV} {h : Hp} : Ev d 224 85 ls st h = Ev d 224 86 ls (vI 0 :: st) h := Rnx (hB_224) (dX7_read_85) rfl
theorem v224_86 {d : Nat} {ls : LS3} {st : List MV} {h : Hp} : Ev d 224 86 ls st h = Ev d 224 87 ls (vI 0 :: st) h := Rnx (hB_224) (dX7_read_86) rfl
set_option maxRecDepth 100000 in
theorem v224_87 {d : Nat} {ls : LS3} {st : List MV} {h : Hp} {a : A3} {o0 : Option A3} {x1 : Int32} {x2 : Int32} (hS : gS h a = (1, 7)) (hc : catS st ≤ 8) : Ev (d + 1) 224 87 ls (vI x2 :: vI x1 :: vO o0 :: vR a :: st) h = Evk 228 (d + 1) 224 87 ls st (Ev d 228 0 [some (vR a), some (vO o0), some (vI x1), some (vI x2)] [] h) := RcallO (idx := 298) (n := 3) (kd := 0) (As' := [vO o0, vI x1, vI x2]) hB_224 dX7_read_87 rfl rfl (by decide) rfl rfl (Or.inl hS) rfl hc
theorem v224_90 {d : Nat} {st : List MV} {h : Hp} {x : Option A3} {a1 a2 a3 : Option MV} : Ev d 224 90 [some (vO x), a1, a2, a3] st h = Ev d 224 91 [some (vO x), a1, a2, a3] (vO x :: st) h := Rnx (hB_224) (dX7_read_90) rfl
theorem v224_91 {d : Nat} {ls : LS3} {st : List MV} {h : Hp} : Ev d 224 91 ls st h = Ev d 224 92 ls (vI 2 :: st) h := Rnx (hB_224) (dX7_read_91) rfl
set_option maxRecDepth 100000 in
theorem v224_92 {d : Nat} {ls : LS3} {st : List MV} {h : Hp} {a : A3} {x0 : Int32} (hS : gS h a = (1, 7)) (hc : catS st ≤ 8) : Ev (d + 1) 224 92 ls (vI x0 :: vR a :: st) h = Evk 141 (d + 1) 224 92 ls st (Ev d 141 0 [some (vR a), some (vI x0)] [] h) := RcallO (idx := 168) (n := 1) (kd := 0) (As' := [vI x0]) hB_224 dX7_read_92 rfl rfl (by decide) rfl rfl (Or.inl hS) rfl hc
theorem v224_95 {d : Nat} {ls : LS3} {h : Hp} {x : Int32} : Ev d 224 95 ls [vI x] h = some (.inl (some (vI x)), h) := Rdn hB_224 dX7_read_95 rfl
theorem v224_96 {d : Nat} {st : List MV} {h : Hp} {x : Option A3} {a1 a2 a3 : Option MV} : Ev d 224 96 [some (vO x), a1, a2, a3] st h = Ev d 224 97 [some (vO x), a1, a2, a3] (vO x :: st) h := Rnx (hB_224) (dX7_read_96) rfl
theorem v224_97 {d : Nat} {ls : LS3} {st : List MV} {h : Hp} : Ev d 224 97 ls st h = Ev d 224 98 ls (vI 0 :: st) h := Rnx (hB_224) (dX7_read_97) rfl
set_option maxRecDepth 100000 in
theorem v224_98 {d : Nat} {ls : LS3} {st : List MV} {h : Hp} {a : A3} {x : Int32} (hS : gS h a = (1, 7)) : Ev d 224 98 ls (vI x :: vR a :: st) h = Ev d 224 101 ls st (sI h a 0 x) := RputI hB_224 dX7_read_98 rfl rfl (by decide) hS (Or.inl rfl)
theorem v224_101 {d : Nat} {st : List MV} {h : Hp} {x : Option A3} {a1 a2 a3 : Option MV} : Ev d 224 101 [some (vO x), a1, a2, a3] st h = Ev d 224 102 [some (vO x), a1, a2, a3] (vO x :: st) h := Rnx (hB_224) (dX7_read_101) rfl
set_option maxRecDepth 100000 in
theorem v224_102 {d : Nat} {ls : LS3} {st : List MV} {h : Hp} {a : A3}  (hS : gS h a = (1, 7)) (hc : catS st ≤ 8) : Ev (d + 1) 224 102 ls (vR a :: st) h = Evk 229 (d + 1) 224 102 ls st (Ev d 229 0 [some (vR a), none] [] h) := RcallO (idx := 309) (n := 0) (kd := 0) (As' := []) hB_224 dX7_read_102 rfl rfl (by decide) rfl rfl (Or.inl hS) rfl hc
theorem v224_105 {d : Nat} {ls : LS3} {st : List MV} {h : Hp} : Ev d 224 105 ls st h = Ev d 224 106 ls (vI 0 :: st) h := Rnx (hB_224) (dX7_read_105) rfl
theorem v224_106 {d : Nat} {st : List MV} {h : Hp} {x : Int32} {a0 a1 a2 a3 : Option MV} : Ev d 224 106 [a0, a1, a2, a3] (vI x :: st) h = Ev d 224 107 [a0, a1, a2, some (vI x)] st h := Rnx (hB_224) (dX7_read_106) rfl
theorem v224_107 {d : Nat} {st : List MV} {h : Hp} {x : Int32} {a0 a1 a2 : Option MV} : Ev d 224 107 [a0, a1, a2, some (vI x)] st h = Ev d 224 108 [a0, a1, a2, some (vI x)] (vI x :: st) h := Rnx (hB_224) (dX7_read_107) rfl
theorem v224_108 {d : Nat} {ls : LS3} {st : List MV} {h : Hp} : Ev d 224 108 ls st h = Ev d 224 111 ls (vI 1569 :: st) h := Rnx (hB_224) (dX7_read_108) rfl
theorem v224_111 {d : Nat} {ls : LS3} {st : List MV} {h : Hp} {x y : Int32} : Ev d 224 111 ls (vI y :: vI x :: st) h = if y ≤ x then Ev d 224 141 ls st h else Ev d 224 114 ls st h := Rif hB_224 dX7_read_111 rfl
theorem v224_114 {d : Nat} {st : List MV} {h : Hp} {x : Option A3} {a1 a2 a3 : Option MV} : Ev d 224 114 [some (vO x), a1, a2, a3] st h = Ev d 224 115 [some (vO x), a1, a2, a3] (vO x :: st) h := Rnx (hB_224) (dX7_read_114) rfl
set_option maxRecDepth 100000 in
theorem v224_115 {d : Nat} {ls : LS3} {st : List MV} {h : Hp} {a : A3} (hS : gS h a = (1, 7)) : Ev d 224 115 ls (vR a :: st) h = Ev d 224 118 ls (vO (gR h a 30) :: st) h := Rget hB_224 dX7_read_115 rfl (Or.inl hS)
theorem v224_118 {d : Nat} {ls : LS3} {st : List MV} {h : Hp} : Ev d 224 118 ls st h = Ev d 224 121 ls (vI 1569 :: st) h := Rnx (hB_224) (dX7_read_118) rfl
theorem v224_121 {d : Nat} {st : List MV} {h : Hp} {x : Option A3} {a1 a2 a3 : Option MV} : Ev d 224 121 [some (vO x), a1, a2, a3] st h = Ev d 224 122 [some (vO x), a1, a2, a3] (vO x :: st) h := Rnx (hB_224) (dX7_read_121) rfl
set_option maxRecDepth 100000 in
theorem v224_122 {d : Nat} {ls : LS3} {st : List MV} {h : Hp} {a : A3} (hS : gS h a = (1, 7)) : Ev d 224 122 ls (vR a :: st) h = Ev d 224 125 ls (vI (gI h a 33) :: st) h := Rget hB_224 dX7_read_122 rfl (Or.inl hS)
theorem v224_125 {d : Nat} {ls : LS3} {st : List MV} {h : Hp} {x y : Int32} : Ev d 224 125 ls (vI y :: vI x :: st) h = Ev d 224 126 ls (vI (x * y) :: st) h := Rnx (hB_224) (dX7_read_125) rfl
theorem v224_126 {d : Nat} {st : List MV} {h : Hp} {x : Int32} {a0 a1 a2 : Option MV} : Ev d 224 126 [a0, a1, a2, some (vI x)] st h = Ev d 224 127 [a0, a1, a2, some (vI x)] (vI x :: st) h := Rnx (hB_224) (dX7_read_126) rfl
theorem v224_127 {d : Nat} {ls : LS3} {st : List MV} {h : Hp} {x y : Int32} : Ev d 224 127 ls (vI y :: vI x :: st) h = Ev d 224 128 ls (vI (x + y) :: st) h := Rnx (hB_224) (dX7_read_127) rfl
theorem v224_128 {d : Nat} {st : List MV} {h : Hp} {x : Option A3} {a1 a2 a3 : Option MV} : Ev d 224 128 [some (vO x), a1, a2, a3] st h = Ev d 224 129 [some (vO x), a1, a2, a3] (vO x :: st) h := Rnx (hB_224) (dX7_read_128) rfl
set_option maxRecDepth 100000 in
theorem v224_129 {d : Nat} {ls : LS3} {st : List MV} {h : Hp} {a : A3} (hS : gS h a = (1, 7)) : Ev d 224 129 ls (vR a :: st) h = Ev d 224 132 ls (vO (gR h a 32) :: st) h := Rget hB_224 dX7_read_129 rfl (Or.inl hS)
theorem v224_132 {d : Nat} {st : List MV} {h : Hp} {x : Int32} {a0 a1 a2 : Option MV} : Ev d 224 132 [a0, a1, a2, some (vI x)] st h = Ev d 224 133 [a0, a1, a2, some (vI x)] (vI x :: st) h := Rnx (hB_224) (dX7_read_132) rfl
theorem v224_133 {d : Nat} {ls : LS3} {st : List MV} {h : Hp} {a : A3} {j : Int32} (hS : (gS h a).1 ∈ [2, 9]) (hj : inB j (gS h a).2) : Ev d 224 133 ls (vI j :: vR a :: st) h = Ev d 224 134 ls (vI (gI h a j.toNatClampNeg) :: st) h := Rald (ks := [2, 9]) (f := fun a j => vI (gI h a j)) hB_224 dX7_read_133 rfl hS hj
theorem v224_134 {d : Nat} {ls : LS3} {st : List MV} {h : Hp} {a : A3} {j : Int32} {x : Int32} (hS : (gS h a).1 = 2) (hj : inB j (gS h a).2) : Ev d 224 134 ls (vI x :: vI j :: vR a :: st) h = Ev d 224 135 ls st (sI h a j.toNatClampNeg x) := RastI hB_224 dX7_read_134 hS hj
theorem v224_135 {d : Nat} {st : List MV} {h : Hp} {x : Int32} {a0 a1 a2 : Option MV} : Ev d 224 135 [a0, a1, a2, some (vI x)] st h = Ev d 224 138 [a0, a1, a2, some (vI (x + 1))] st h := Rnx (hB_224) (dX7_read_135) rfl
theorem v224_138 {d : Nat} {ls : LS3} {st : List MV} {h : Hp} : Ev d 224 138 ls st h = Ev d 224 107 ls st h := Rnx (hB_224) (dX7_read_138) rfl
theorem v224_141 {d : Nat} {st : List MV} {h : Hp} {x : Option A3} {a1 a2 a3 : Option MV} : Ev d 224 141 [some (vO x), a1, a2, a3] st h = Ev d 224 142 [some (vO x), a1, a2, a3] (vO x :: st) h := Rnx (hB_224) (dX7_read_141) rfl
theorem v224_142 {d : Nat} {ls : LS3} {st : List MV} {h : Hp} {v : MV} (hv : cat1 v = true) : Ev d 224 142 ls (v :: st) h = Ev d 224 143 ls (v :: v :: st) h := Rdup hB_224 dX7_read_142 hv
set_option maxRecDepth 100000 in
theorem v224_143 {d : Nat} {ls : LS3} {st : List MV} {h : Hp} {a : A3} (hS : gS h a = (1, 7)) : Ev d 224 143 ls (vR a :: st) h = Ev d 224 146 ls (vI (gI h a 33) :: st) h := Rget hB_224 dX7_read_143 rfl (Or.inl hS)
theorem v224_146 {d : Nat} {ls : LS3} {st : List MV} {h : Hp} : Ev d 224 146 ls st h = Ev d 224 147 ls (vI 1 :: st) h := Rnx (hB_224) (dX7_read_146) rfl
theorem v224_147 {d : Nat} {ls : LS3} {st : List MV} {h : Hp} {x y : Int32} : Ev d 224 147 ls (vI y :: vI x :: st) h = Ev d 224 148 ls (vI (x + y) :: st) h := Rnx (hB_224) (dX7_read_147) rfl
set_option maxRecDepth 100000 in
theorem v224_148 {d : Nat} {ls : LS3} {st : List MV} {h : Hp} {a : A3} {x : Int32} (hS : gS h a = (1, 7)) : Ev d 224 148 ls (vI x :: vR a :: st) h = Ev d 224 151 ls st (sI h a 33 x) := RputI hB_224 dX7_read_148 rfl rfl (by decide) hS (Or.inl rfl)
theorem v224_151 {d : Nat} {st : List MV} {h : Hp} {x : Option A3} {a1 a2 a3 : Option MV} : Ev d 224 151 [some (vO x), a1, a2, a3] st h = Ev d 224 152 [some (vO x), a1, a2, a3] (vO x :: st) h := Rnx (hB_224) (dX7_read_151) rfl
set_option maxRecDepth 100000 in
theorem v224_152 {d : Nat} {ls : LS3} {st : List MV} {h : Hp} {a : A3} (hS : gS h a = (1, 7)) : Ev d 224 152 ls (vR a :: st) h = Ev d 224 155 ls (vI (gI h a 28) :: st) h := Rget hB_224 dX7_read_152 rfl (Or.inl hS)
theorem v224_155 {d : Nat} {ls : LS3} {h : Hp} {x : Int32} : Ev d 224 155 ls [vI x] h = some (.inl (some (vI x)), h) := Rdn hB_224 dX7_read_155 rfl
theorem hB_225 : mB 225 = cX7_errorPosition := rfl
theorem v225_0 {d : Nat} {st : List MV} {h : Hp} {x : Option A3} : Ev d 225 0 [some (vO x)] st h = Ev d 225 1 [some (vO x)] (vO x :: st) h := Rnx (hB_225) (dX7_errorPosition_0) rfl
set_option maxRecDepth 100000 in
theorem v225_1 {d : Nat} {ls : LS3} {st : List MV} {h : Hp} {a : A3} (hS : gS h a = (1, 7)) : Ev d 225 1 ls (vR a :: st) h = Ev d 225 4 ls (vI (gI h a 29) :: st) h := Rget hB_225 dX7_errorPosition_1 rfl (Or.inl hS)
theorem v225_4 {d : Nat} {ls : LS3} {st : List MV} {h : Hp} {x : Int32} : Ev d 225 4 ls (vI x :: st) h = if 0 ≤ x then Ev d 225 13 ls st h else Ev d 225 7 ls st h := Rif hB_225 dX7_errorPosition_4 rfl
theorem v225_7 {d : Nat} {st : List MV} {h : Hp} {x : Option A3} : Ev d 225 7 [some (vO x)] st h = Ev d 225 8 [some (vO x)] (vO x :: st) h := Rnx (hB_225) (dX7_errorPosition_7) rfl
theorem v225_8 {d : Nat} {ls : LS3} {st : List MV} {h : Hp} : Ev d 225 8 ls st h = Ev d 225 9 ls (vI 1 :: st) h := Rnx (hB_225) (dX7_errorPosition_8) rfl
set_option maxRecDepth 100000 in
theorem v225_9 {d : Nat} {ls : LS3} {st : List MV} {h : Hp} {a : A3} {x0 : Int32} (hS : gS h a = (1, 7)) (hc : catS st ≤ 8) : Ev (d + 1) 225 9 ls (vI x0 :: vR a :: st) h = Evk 141 (d + 1) 225 9 ls st (Ev d 141 0 [some (vR a), some (vI x0)] [] h) := RcallO (idx := 168) (n := 1) (kd := 0) (As' := [vI x0]) hB_225 dX7_errorPosition_9 rfl rfl (by decide) rfl rfl (Or.inl hS) rfl hc
theorem v225_12 {d : Nat} {ls : LS3} {h : Hp} {x : Int32} : Ev d 225 12 ls [vI x] h = some (.inl (some (vI x)), h) := Rdn hB_225 dX7_errorPosition_12 rfl
theorem v225_13 {d : Nat} {st : List MV} {h : Hp} {x : Option A3} : Ev d 225 13 [some (vO x)] st h = Ev d 225 14 [some (vO x)] (vO x :: st) h := Rnx (hB_225) (dX7_errorPosition_13) rfl
theorem v225_14 {d : Nat} {ls : LS3} {st : List MV} {h : Hp} : Ev d 225 14 ls st h = Ev d 225 15 ls (vI 0 :: st) h := Rnx (hB_225) (dX7_errorPosition_14) rfl
set_option maxRecDepth 100000 in
theorem v225_15 {d : Nat} {ls : LS3} {st : List MV} {h : Hp} {a : A3} {x : Int32} (hS : gS h a = (1, 7)) : Ev d 225 15 ls (vI x :: vR a :: st) h = Ev d 225 18 ls st (sI h a 0 x) := RputI hB_225 dX7_errorPosition_15 rfl rfl (by decide) hS (Or.inl rfl)
theorem v225_18 {d : Nat} {st : List MV} {h : Hp} {x : Option A3} : Ev d 225 18 [some (vO x)] st h = Ev d 225 19 [some (vO x)] (vO x :: st) h := Rnx (hB_225) (dX7_errorPosition_18) rfl
set_option maxRecDepth 100000 in
theorem v225_19 {d : Nat} {ls : LS3} {st : List MV} {h : Hp} {a : A3} (hS : gS h a = (1, 7)) : Ev d 225 19 ls (vR a :: st) h = Ev d 225 22 ls (vI (gI h a 29) :: st) h := Rget hB_225 dX7_errorPosition_19 rfl (Or.inl hS)
theorem v225_22 {d : Nat} {ls : LS3} {h : Hp} {x : Int32} : Ev d 225 22 ls [vI x] h = some (.inl (some (vI x)), h) := Rdn hB_225 dX7_errorPosition_22 rfl
theorem hB_226 : mB 226 = cX7_moves := rfl
theorem v226_0 {d : Nat} {ls : LS3} {st : List MV} {h : Hp} : Ev d 226 0 ls st h = Ev d 226 1 ls (vI 0 :: st) h := Rnx (hB_226) (dX7_moves_0) rfl
theorem v226_1 {d : Nat} {st : List MV} {h : Hp} {x : Int32} {a0 a1 a2 a3 : Option MV} : Ev d 226 1 [a0, a1, a2, a3] (vI x :: st) h = Ev d 226 2 [a0, a1, a2, some (vI x)] st h := Rnx (hB_226) (dX7_moves_1) rfl
theorem v226_2 {d : Nat} {st : List MV} {h : Hp} {x : Int32} {a0 a1 a2 : Option MV} : Ev d 226 2 [a0, a1, a2, some (vI x)] st h = Ev d 226 3 [a0, a1, a2, some (vI x)] (vI x :: st) h := Rnx (hB_226) (dX7_moves_2) rfl
theorem v226_3 {d : Nat} {st : List MV} {h : Hp} {x : Option A3} {a0 a2 a3 : Option MV} : Ev d 226 3 [a0, some (vO x), a2, a3] st h = Ev d 226 4 [a0, some (vO x), a2, a3] (vO x :: st) h := Rnx (hB_226) (dX7_moves_3) rfl
theorem v226_4 {d : Nat} {ls : LS3} {st : List MV} {h : Hp} {a : A3} (hS : 2 ≤ (gS h a).1 ∧ (gS h a).1 ≤ 10) : Ev d 226 4 ls (vR a :: st) h = Ev d 226 5 ls (vI (Int32.ofNat (gS h a).2) :: st) h := Rlen hB_226 dX7_moves_4 hS
theorem v226_5 {d : Nat} {ls : LS3} {st : List MV} {h : Hp} {x y : Int32} : Ev d 226 5 ls (vI y :: vI x :: st) h = if y ≤ x then Ev d 226 52 ls st h else Ev d 226 8 ls st h := Rif hB_226 dX7_moves_5 rfl
theorem v226_8 {d : Nat} {st : List MV} {h : Hp} {x : Option A3} {a1 a2 a3 : Option MV} : Ev d 226 8 [some (vO x), a1, a2, a3] st h = Ev d 226 9 [some (vO x), a1, a2, a3] (vO x :: st) h := Rnx (hB_226) (dX7_moves_8) rfl
set_option maxRecDepth 100000 in
theorem v226_9 {d : Nat} {ls : LS3} {st : List MV} {h : Hp} {a : A3} (hS : gS h a = (1, 7)) : Ev d 226 9 ls (vR a :: st) h = Ev d 226 12 ls (vI (gI h a 36) :: st) h := Rget hB_226 dX7_moves_9 rfl (Or.inl hS)
theorem v226_12 {d : Nat} {ls : LS3} {st : List MV} {h : Hp} {x : Int32} : Ev d 226 12 ls (vI x :: st) h = if x = 0 then Ev d 226 27 ls st h else Ev d 226 15 ls st h := Rif hB_226 dX7_moves_12 rfl
theorem v226_15 {d : Nat} {st : List MV} {h : Hp} {x : Option A3} {a0 a1 a3 : Option MV} : Ev d 226 15 [a0, a1, some (vO x), a3] st h = Ev d 226 16 [a0, a1, some (vO x), a3] (vO x :: st) h := Rnx (hB_226) (dX7_moves_15) rfl
theorem v226_16 {d : Nat} {st : List MV} {h : Hp} {x : Option A3} {a1 a2 a3 : Option MV} : Ev d 226 16 [some (vO x), a1, a2, a3] st h = Ev d 226 17 [some (vO x), a1, a2, a3] (vO x :: st) h := Rnx (hB_226) (dX7_moves_16) rfl
set_option maxRecDepth 100000 in
theorem v226_17 {d : Nat} {ls : LS3} {st : List MV} {h : Hp} {a : A3} (hS : gS h a = (1, 7)) : Ev d 226 17 ls (vR a :: st) h = Ev d 226 20 ls (vI (gI h a 34) :: st) h := Rget hB_226 dX7_moves_17 rfl (Or.inl hS)
theorem v226_20 {d : Nat} {st : List MV} {h : Hp} {x : Option A3} {a0 a2 a3 : Option MV} : Ev d 226 20 [a0, some (vO x), a2, a3] st h = Ev d 226 21 [a0, some (vO x), a2, a3] (vO x :: st) h := Rnx (hB_226) (dX7_moves_20) rfl
theorem v226_21 {d : Nat} {st : List MV} {h : Hp} {x : Int32} {a0 a1 a2 : Option MV} : Ev d 226 21 [a0, a1, a2, some (vI x)] st h = Ev d 226 22 [a0, a1, a2, some (vI x)] (vI x :: st) h := Rnx (hB_226) (dX7_moves_21) rfl
theorem v226_22 {d : Nat} {ls : LS3} {st : List MV} {h : Hp} {a : A3} {j : Int32} (hS : (gS h a).1 ∈ [2, 9]) (hj : inB j (gS h a).2) : Ev d 226 22 ls (vI j :: vR a :: st) h = Ev d 226 23 ls (vI (gI h a j.toNatClampNeg) :: st) h := Rald (ks := [2, 9]) (f := fun a j => vI (gI h a j)) hB_226 dX7_moves_22 rfl hS hj
theorem v226_23 {d : Nat} {ls : LS3} {st : List MV} {h : Hp} {a : A3} {j : Int32} {x : Int32} (hS : (gS h a).1 = 2) (hj : inB j (gS h a).2) : Ev d 226 23 ls (vI x :: vI j :: vR a :: st) h = Ev d 226 24 ls st (sI h a j.toNatClampNeg x) := RastI hB_226 dX7_moves_23 hS hj
theorem v226_24 {d : Nat} {ls : LS3} {st : List MV} {h : Hp} : Ev d 226 24 ls st h = Ev d 226 36 ls st h := Rnx (hB_226) (dX7_moves_24) rfl
theorem v226_27 {d : Nat} {st : List MV} {h : Hp} {x : Option A3} {a0 a2 a3 : Option MV} : Ev d 226 27 [a0, some (vO x), a2, a3] st h = Ev d 226 28 [a0, some (vO x), a2, a3] (vO x :: st) h := Rnx (hB_226) (dX7_moves_27) rfl
theorem v226_28 {d : Nat} {st : List MV} {h : Hp} {x : Int32} {a0 a1 a2 : Option MV} : Ev d 226 28 [a0, a1, a2, some (vI x)] st h = Ev d 226 29 [a0, a1, a2, some (vI x)] (vI x :: st) h := Rnx (hB_226) (dX7_moves_28) rfl
theorem v226_29 {d : Nat} {st : List MV} {h : Hp} {x : Option A3} {a0 a1 a3 : Option MV} : Ev d 226 29 [a0, a1, some (vO x), a3] st h = Ev d 226 30 [a0, a1, some (vO x), a3] (vO x :: st) h := Rnx (hB_226) (dX7_moves_29) rfl
theorem v226_30 {d : Nat} {st : List MV} {h : Hp} {x : Option A3} {a1 a2 a3 : Option MV} : Ev d 226 30 [some (vO x), a1, a2, a3] st h = Ev d 226 31 [some (vO x), a1, a2, a3] (vO x :: st) h := Rnx (hB_226) (dX7_moves_30) rfl
set_option maxRecDepth 100000 in
theorem v226_31 {d : Nat} {ls : LS3} {st : List MV} {h : Hp} {a : A3} (hS : gS h a = (1, 7)) : Ev d 226 31 ls (vR a :: st) h = Ev d 226 34 ls (vI (gI h a 34) :: st) h := Rget hB_226 dX7_moves_31 rfl (Or.inl hS)
theorem v226_34 {d : Nat} {ls : LS3} {st : List MV} {h : Hp} {a : A3} {j : Int32} (hS : (gS h a).1 ∈ [2, 9]) (hj : inB j (gS h a).2) : Ev d 226 34 ls (vI j :: vR a :: st) h = Ev d 226 35 ls (vI (gI h a j.toNatClampNeg) :: st) h := Rald (ks := [2, 9]) (f := fun a j => vI (gI h a j)) hB_226 dX7_moves_34 rfl hS hj
theorem v226_35 {d : Nat} {ls : LS3} {st : List MV} {h : Hp} {a : A3} {j : Int32} {x : Int32} (hS : (gS h a).1 = 2) (hj : inB j (gS h a).2) : Ev d 226 35 ls (vI x :: vI j :: vR a :: st) h = Ev d 226 36 ls st (sI h a j.toNatClampNeg x) := RastI hB_226 dX7_moves_35 hS hj
theorem v226_36 {d : Nat} {st : List MV} {h : Hp} {x : Option A3} {a1 a2 a3 : Option MV} : Ev d 226 36 [some (vO x), a1, a2, a3] st h = Ev d 226 37 [some (vO x), a1, a2, a3] (vO x :: st) h := Rnx (hB_226) (dX7_moves_36) rfl
theorem v226_37 {d : Nat} {ls : LS3} {st : List MV} {h : Hp} {v : MV} (hv : cat1 v = true) : Ev d 226 37 ls (v :: st) h = Ev d 226 38 ls (v :: v :: st) h := Rdup hB_226 dX7_moves_37 hv
set_option maxRecDepth 100000 in
theorem v226_38 {d : Nat} {ls : LS3} {st : List MV} {h : Hp} {a : A3} (hS : gS h a = (1, 7)) : Ev d 226 38 ls (vR a :: st) h = Ev d 226 41 ls (vI (gI h a 34) :: st) h := Rget hB_226 dX7_moves_38 rfl (Or.inl hS)
theorem v226_41 {d : Nat} {ls : LS3} {st : List MV} {h : Hp} : Ev d 226 41 ls st h = Ev d 226 42 ls (vI 1 :: st) h := Rnx (hB_226) (dX7_moves_41) rfl
theorem v226_42 {d : Nat} {ls : LS3} {st : List MV} {h : Hp} {x y : Int32} : Ev d 226 42 ls (vI y :: vI x :: st) h = Ev d 226 43 ls (vI (x + y) :: st) h := Rnx (hB_226) (dX7_moves_42) rfl
set_option maxRecDepth 100000 in
theorem v226_43 {d : Nat} {ls : LS3} {st : List MV} {h : Hp} {a : A3} {x : Int32} (hS : gS h a = (1, 7)) : Ev d 226 43 ls (vI x :: vR a :: st) h = Ev d 226 46 ls st (sI h a 34 x) := RputI hB_226 dX7_moves_43 rfl rfl (by decide) hS (Or.inl rfl)
theorem v226_46 {d : Nat} {st : List MV} {h : Hp} {x : Int32} {a0 a1 a2 : Option MV} : Ev d 226 46 [a0, a1, a2, some (vI x)] st h = Ev d 226 49 [a0, a1, a2, some (vI (x + 1))] st h := Rnx (hB_226) (dX7_moves_46) rfl
theorem v226_49 {d : Nat} {ls : LS3} {st : List MV} {h : Hp} : Ev d 226 49 ls st h = Ev d 226 2 ls st h := Rnx (hB_226) (dX7_moves_49) rfl
theorem v226_52 {d : Nat} {ls : LS3} {h : Hp} : Ev d 226 52 ls [] h = some (.inl none, h) := Rdn hB_226 dX7_moves_52 rfl
theorem hB_227 : mB 227 = cX7_move := rfl
theorem v227_0 {d : Nat} {st : List MV} {h : Hp} {x : Option A3} {a1 a2 a3 : Option MV} : Ev d 227 0 [some (vO x), a1, a2, a3] st h = Ev d 227 1 [some (vO x), a1, a2, a3] (vO x :: st) h := Rnx (hB_227) (dX7_move_0) rfl
set_option maxRecDepth 100000 in
theorem v227_1 {d : Nat} {ls : LS3} {st : List MV} {h : Hp} {a : A3} (hS : gS h a = (1, 7)) : Ev d 227 1 ls (vR a :: st) h = Ev d 227 4 ls (vI (gI h a 36) :: st) h := Rget hB_227 dX7_move_1 rfl (Or.inl hS)
theorem v227_4 {d : Nat} {ls : LS3} {st : List MV} {h : Hp} {x : Int32} : Ev d 227 4 ls (vI x :: st) h = if x = 0 then Ev d 227 11 ls st h else Ev d 227 7 ls st h := Rif hB_227 dX7_move_4 rfl
theorem v227_7 {d : Nat} {st : List MV} {h : Hp} {x : Int32} {a0 a2 a3 : Option MV} : Ev d 227 7 [a0, some (vI x), a2, a3] st h = Ev d 227 8 [a0, some (vI x), a2, a3] (vI x :: st) h := Rnx (hB_227) (dX7_move_7) rfl
theorem v227_8 {d : Nat} {ls : LS3} {st : List MV} {h : Hp} : Ev d 227 8 ls st h = Ev d 227 17 ls st h := Rnx (hB_227) (dX7_move_8) rfl
theorem v227_11 {d : Nat} {st : List MV} {h : Hp} {x : Option A3} {a0 a1 a3 : Option MV} : Ev d 227 11 [a0, a1, some (vO x), a3] st h = Ev d 227 12 [a0, a1, some (vO x), a3] (vO x :: st) h := Rnx (hB_227) (dX7_move_11) rfl
theorem v227_12 {d : Nat} {st : List MV} {h : Hp} {x : Option A3} {a1 a2 a3 : Option MV} : Ev d 227 12 [some (vO x), a1, a2, a3] st h = Ev d 227 13 [some (vO x), a1, a2, a3] (vO x :: st) h := Rnx (hB_227) (dX7_move_12) rfl
set_option maxRecDepth 100000 in
theorem v227_13 {d : Nat} {ls : LS3} {st : List MV} {h : Hp} {a : A3} (hS : gS h a = (1, 7)) : Ev d 227 13 ls (vR a :: st) h = Ev d 227 16 ls (vI (gI h a 34) :: st) h := Rget hB_227 dX7_move_13 rfl (Or.inl hS)
theorem v227_16 {d : Nat} {ls : LS3} {st : List MV} {h : Hp} {a : A3} {j : Int32} (hS : (gS h a).1 ∈ [2, 9]) (hj : inB j (gS h a).2) : Ev d 227 16 ls (vI j :: vR a :: st) h = Ev d 227 17 ls (vI (gI h a j.toNatClampNeg) :: st) h := Rald (ks := [2, 9]) (f := fun a j => vI (gI h a j)) hB_227 dX7_move_16 rfl hS hj
theorem v227_17 {d : Nat} {st : List MV} {h : Hp} {x : Int32} {a0 a1 a2 a3 : Option MV} : Ev d 227 17 [a0, a1, a2, a3] (vI x :: st) h = Ev d 227 18 [a0, a1, a2, some (vI x)] st h := Rnx (hB_227) (dX7_move_17) rfl
theorem v227_18 {d : Nat} {st : List MV} {h : Hp} {x : Option A3} {a0 a1 a3 : Option MV} : Ev d 227 18 [a0, a1, some (vO x), a3] st h = Ev d 227 19 [a0, a1, some (vO x), a3] (vO x :: st) h := Rnx (hB_227) (dX7_move_18) rfl
theorem v227_19 {d : Nat} {st : List MV} {h : Hp} {x : Option A3} {a1 a2 a3 : Option MV} : Ev d 227 19 [some (vO x), a1, a2, a3] st h = Ev d 227 20 [some (vO x), a1, a2, a3] (vO x :: st) h := Rnx (hB_227) (dX7_move_19) rfl
set_option maxRecDepth 100000 in
theorem v227_20 {d : Nat} {ls : LS3} {st : List MV} {h : Hp} {a : A3} (hS : gS h a = (1, 7)) : Ev d 227 20 ls (vR a :: st) h = Ev d 227 23 ls (vI (gI h a 34) :: st) h := Rget hB_227 dX7_move_20 rfl (Or.inl hS)
theorem v227_23 {d : Nat} {st : List MV} {h : Hp} {x : Int32} {a0 a1 a2 : Option MV} : Ev d 227 23 [a0, a1, a2, some (vI x)] st h = Ev d 227 24 [a0, a1, a2, some (vI x)] (vI x :: st) h := Rnx (hB_227) (dX7_move_23) rfl
theorem v227_24 {d : Nat} {ls : LS3} {st : List MV} {h : Hp} {a : A3} {j : Int32} {x : Int32} (hS : (gS h a).1 = 2) (hj : inB j (gS h a).2) : Ev d 227 24 ls (vI x :: vI j :: vR a :: st) h = Ev d 227 25 ls st (sI h a j.toNatClampNeg x) := RastI hB_227 dX7_move_24 hS hj
theorem v227_25 {d : Nat} {st : List MV} {h : Hp} {x : Option A3} {a1 a2 a3 : Option MV} : Ev d 227 25 [some (vO x), a1, a2, a3] st h = Ev d 227 26 [some (vO x), a1, a2, a3] (vO x :: st) h := Rnx (hB_227) (dX7_move_25) rfl
theorem v227_26 {d : Nat} {ls : LS3} {st : List MV} {h : Hp} {v : MV} (hv : cat1 v = true) : Ev d 227 26 ls (v :: st) h = Ev d 227 27 ls (v :: v :: st) h := Rdup hB_227 dX7_move_26 hv
set_option maxRecDepth 100000 in
theorem v227_27 {d : Nat} {ls : LS3} {st : List MV} {h : Hp} {a : A3} (hS : gS h a = (1, 7)) : Ev d 227 27 ls (vR a :: st) h = Ev d 227 30 ls (vI (gI h a 34) :: st) h := Rget hB_227 dX7_move_27 rfl (Or.inl hS)
theorem v227_30 {d : Nat} {ls : LS3} {st : List MV} {h : Hp} : Ev d 227 30 ls st h = Ev d 227 31 ls (vI 1 :: st) h := Rnx (hB_227) (dX7_move_30) rfl
theorem v227_31 {d : Nat} {ls : LS3} {st : List MV} {h : Hp} {x y : Int32} : Ev d 227 31 ls (vI y :: vI x :: st) h = Ev d 227 32 ls (vI (x + y) :: st) h := Rnx (hB_227) (dX7_move_31) rfl
set_option maxRecDepth 100000 in
theorem v227_32 {d : Nat} {ls : LS3} {st : List MV} {h : Hp} {a : A3} {x : Int32} (hS : gS h a = (1, 7)) : Ev d 227 32 ls (vI x :: vR a :: st) h = Ev d 227 35 ls st (sI h a 34 x) := RputI hB_227 dX7_move_32 rfl rfl (by decide) hS (Or.inl rfl)
theorem v227_35 {d : Nat} {st : List MV} {h : Hp} {x : Int32} {a0 a1 a2 : Option MV} : Ev d 227 35 [a0, a1, a2, some (vI x)] st h = Ev d 227 36 [a0, a1, a2, some (vI x)] (vI x :: st) h := Rnx (hB_227) (dX7_move_35) rfl
theorem v227_36 {d : Nat} {ls : LS3} {h : Hp} {x : Int32} : Ev d 227 36 ls [vI x] h = some (.inl (some (vI x)), h) := Rdn hB_227 dX7_move_36 rfl
theorem hB_228 : mB 228 = cX7_passAll := rfl
theorem v228_0 {d : Nat} {st : List MV} {h : Hp} {x : Option A3} {a1 a2 a3 : Option MV} : Ev d 228 0 [some (vO x), a1, a2, a3] st h = Ev d 228 1 [some (vO x), a1, a2, a3] (vO x :: st) h := Rnx (hB_228) (dX7_passAll_0) rfl
theorem v228_1 {d : Nat} {st : List MV} {h : Hp} {x : Int32} {a0 a1 a2 : Option MV} : Ev d 228 1 [a0, a1, a2, some (vI x)] st h = Ev d 228 2 [a0, a1, a2, some (vI x)] (vI x :: st) h := Rnx (hB_228) (dX7_passAll_1) rfl
set_option maxRecDepth 100000 in
theorem v228_2 {d : Nat} {ls : LS3} {st : List MV} {h : Hp} {a : A3} {x : Int32} (hS : gS h a = (1, 7)) (hx : x = 0 ∨ x = 1) : Ev d 228 2 ls (vI x :: vR a :: st) h = Ev d 228 5 ls st (sI h a 36 x) := RputI hB_228 dX7_passAll_2 rfl rfl (by decide) hS (Or.inr ⟨rfl, hx⟩)
theorem v228_5 {d : Nat} {st : List MV} {h : Hp} {x : Option A3} {a1 a2 a3 : Option MV} : Ev d 228 5 [some (vO x), a1, a2, a3] st h = Ev d 228 6 [some (vO x), a1, a2, a3] (vO x :: st) h := Rnx (hB_228) (dX7_passAll_5) rfl
theorem v228_6 {d : Nat} {st : List MV} {h : Hp} {x : Int32} {a0 a1 a3 : Option MV} : Ev d 228 6 [a0, a1, some (vI x), a3] st h = Ev d 228 7 [a0, a1, some (vI x), a3] (vI x :: st) h := Rnx (hB_228) (dX7_passAll_6) rfl
set_option maxRecDepth 100000 in
theorem v228_7 {d : Nat} {ls : LS3} {st : List MV} {h : Hp} {a : A3} {x : Int32} (hS : gS h a = (1, 7)) : Ev d 228 7 ls (vI x :: vR a :: st) h = Ev d 228 10 ls st (sI h a 34 x) := RputI hB_228 dX7_passAll_7 rfl rfl (by decide) hS (Or.inl rfl)
theorem v228_10 {d : Nat} {st : List MV} {h : Hp} {x : Option A3} {a1 a2 a3 : Option MV} : Ev d 228 10 [some (vO x), a1, a2, a3] st h = Ev d 228 11 [some (vO x), a1, a2, a3] (vO x :: st) h := Rnx (hB_228) (dX7_passAll_10) rfl
theorem v228_11 {d : Nat} {st : List MV} {h : Hp} {x : Option A3} {a1 a2 a3 : Option MV} : Ev d 228 11 [some (vO x), a1, a2, a3] st h = Ev d 228 12 [some (vO x), a1, a2, a3] (vO x :: st) h := Rnx (hB_228) (dX7_passAll_11) rfl
set_option maxRecDepth 100000 in
theorem v228_12 {d : Nat} {ls : LS3} {st : List MV} {h : Hp} {a : A3} (hS : gS h a = (1, 7)) : Ev d 228 12 ls (vR a :: st) h = Ev d 228 15 ls (vO (gR h a 1) :: st) h := Rget hB_228 dX7_passAll_12 rfl (Or.inl hS)
theorem v228_15 {d : Nat} {st : List MV} {h : Hp} {x : Option A3} {a0 a2 a3 : Option MV} : Ev d 228 15 [a0, some (vO x), a2, a3] st h = Ev d 228 16 [a0, some (vO x), a2, a3] (vO x :: st) h := Rnx (hB_228) (dX7_passAll_15) rfl
set_option maxRecDepth 100000 in
theorem v228_16 {d : Nat} {ls : LS3} {st : List MV} {h : Hp} {a : A3} {o0 : Option A3} {o1 : Option A3} (hS : gS h a = (1, 7)) (hc : catS st ≤ 8) : Ev (d + 1) 228 16 ls (vO o1 :: vO o0 :: vR a :: st) h = Evk 226 (d + 1) 228 16 ls st (Ev d 226 0 [some (vR a), some (vO o0), some (vO o1), none] [] h) := RcallO (idx := 318) (n := 2) (kd := 0) (As' := [vO o0, vO o1]) hB_228 dX7_passAll_16 rfl rfl (by decide) rfl rfl (Or.inl hS) rfl hc
theorem v228_19 {d : Nat} {st : List MV} {h : Hp} {x : Option A3} {a1 a2 a3 : Option MV} : Ev d 228 19 [some (vO x), a1, a2, a3] st h = Ev d 228 20 [some (vO x), a1, a2, a3] (vO x :: st) h := Rnx (hB_228) (dX7_passAll_19) rfl
theorem v228_20 {d : Nat} {st : List MV} {h : Hp} {x : Option A3} {a1 a2 a3 : Option MV} : Ev d 228 20 [some (vO x), a1, a2, a3] st h = Ev d 228 21 [some (vO x), a1, a2, a3] (vO x :: st) h := Rnx (hB_228) (dX7_passAll_20) rfl
set_option maxRecDepth 100000 in
theorem v228_21 {d : Nat} {ls : LS3} {st : List MV} {h : Hp} {a : A3} (hS : gS h a = (1, 7)) : Ev d 228 21 ls (vR a :: st) h = Ev d 228 24 ls (vO (gR h a 2) :: st) h := Rget hB_228 dX7_passAll_21 rfl (Or.inl hS)
theorem v228_24 {d : Nat} {st : List MV} {h : Hp} {x : Option A3} {a0 a2 a3 : Option MV} : Ev d 228 24 [a0, some (vO x), a2, a3] st h = Ev d 228 25 [a0, some (vO x), a2, a3] (vO x :: st) h := Rnx (hB_228) (dX7_passAll_24) rfl
set_option maxRecDepth 100000 in
theorem v228_25 {d : Nat} {ls : LS3} {st : List MV} {h : Hp} {a : A3} {o0 : Option A3} {o1 : Option A3} (hS : gS h a = (1, 7)) (hc : catS st ≤ 8) : Ev (d + 1) 228 25 ls (vO o1 :: vO o0 :: vR a :: st) h = Evk 226 (d + 1) 228 25 ls st (Ev d 226 0 [some (vR a), some (vO o0), some (vO o1), none] [] h) := RcallO (idx := 318) (n := 2) (kd := 0) (As' := [vO o0, vO o1]) hB_228 dX7_passAll_25 rfl rfl (by decide) rfl rfl (Or.inl hS) rfl hc
theorem v228_28 {d : Nat} {st : List MV} {h : Hp} {x : Option A3} {a1 a2 a3 : Option MV} : Ev d 228 28 [some (vO x), a1, a2, a3] st h = Ev d 228 29 [some (vO x), a1, a2, a3] (vO x :: st) h := Rnx (hB_228) (dX7_passAll_28) rfl
theorem v228_29 {d : Nat} {st : List MV} {h : Hp} {x : Option A3} {a1 a2 a3 : Option MV} : Ev d 228 29 [some (vO x), a1, a2, a3] st h = Ev d 228 30 [some (vO x), a1, a2, a3] (vO x :: st) h := Rnx (hB_228) (dX7_passAll_29) rfl
set_option maxRecDepth 100000 in
theorem v228_30 {d : Nat} {ls : LS3} {st : List MV} {h : Hp} {a : A3} (hS : gS h a = (1, 7)) : Ev d 228 30 ls (vR a :: st) h = Ev d 228 33 ls (vO (gR h a 3) :: st) h := Rget hB_228 dX7_passAll_30 rfl (Or.inl hS)
theorem v228_33 {d : Nat} {st : List MV} {h : Hp} {x : Option A3} {a0 a2 a3 : Option MV} : Ev d 228 33 [a0, some (vO x), a2, a3] st h = Ev d 228 34 [a0, some (vO x), a2, a3] (vO x :: st) h := Rnx (hB_228) (dX7_passAll_33) rfl
set_option maxRecDepth 100000 in
theorem v228_34 {d : Nat} {ls : LS3} {st : List MV} {h : Hp} {a : A3} {o0 : Option A3} {o1 : Option A3} (hS : gS h a = (1, 7)) (hc : catS st ≤ 8) : Ev (d + 1) 228 34 ls (vO o1 :: vO o0 :: vR a :: st) h = Evk 226 (d + 1) 228 34 ls st (Ev d 226 0 [some (vR a), some (vO o0), some (vO o1), none] [] h) := RcallO (idx := 318) (n := 2) (kd := 0) (As' := [vO o0, vO o1]) hB_228 dX7_passAll_34 rfl rfl (by decide) rfl rfl (Or.inl hS) rfl hc
theorem v228_37 {d : Nat} {st : List MV} {h : Hp} {x : Option A3} {a1 a2 a3 : Option MV} : Ev d 228 37 [some (vO x), a1, a2, a3] st h = Ev d 228 38 [some (vO x), a1, a2, a3] (vO x :: st) h := Rnx (hB_228) (dX7_passAll_37) rfl
theorem v228_38 {d : Nat} {st : List MV} {h : Hp} {x : Option A3} {a1 a2 a3 : Option MV} : Ev d 228 38 [some (vO x), a1, a2, a3] st h = Ev d 228 39 [some (vO x), a1, a2, a3] (vO x :: st) h := Rnx (hB_228) (dX7_passAll_38) rfl
set_option maxRecDepth 100000 in
theorem v228_39 {d : Nat} {ls : LS3} {st : List MV} {h : Hp} {a : A3} (hS : gS h a = (1, 7)) : Ev d 228 39 ls (vR a :: st) h = Ev d 228 42 ls (vO (gR h a 4) :: st) h := Rget hB_228 dX7_passAll_39 rfl (Or.inl hS)
theorem v228_42 {d : Nat} {st : List MV} {h : Hp} {x : Option A3} {a0 a2 a3 : Option MV} : Ev d 228 42 [a0, some (vO x), a2, a3] st h = Ev d 228 43 [a0, some (vO x), a2, a3] (vO x :: st) h := Rnx (hB_228) (dX7_passAll_42) rfl
set_option maxRecDepth 100000 in
theorem v228_43 {d : Nat} {ls : LS3} {st : List MV} {h : Hp} {a : A3} {o0 : Option A3} {o1 : Option A3} (hS : gS h a = (1, 7)) (hc : catS st ≤ 8) : Ev (d + 1) 228 43 ls (vO o1 :: vO o0 :: vR a :: st) h = Evk 226 (d + 1) 228 43 ls st (Ev d 226 0 [some (vR a), some (vO o0), some (vO o1), none] [] h) := RcallO (idx := 318) (n := 2) (kd := 0) (As' := [vO o0, vO o1]) hB_228 dX7_passAll_43 rfl rfl (by decide) rfl rfl (Or.inl hS) rfl hc
theorem v228_46 {d : Nat} {st : List MV} {h : Hp} {x : Option A3} {a1 a2 a3 : Option MV} : Ev d 228 46 [some (vO x), a1, a2, a3] st h = Ev d 228 47 [some (vO x), a1, a2, a3] (vO x :: st) h := Rnx (hB_228) (dX7_passAll_46) rfl
theorem v228_47 {d : Nat} {st : List MV} {h : Hp} {x : Option A3} {a1 a2 a3 : Option MV} : Ev d 228 47 [some (vO x), a1, a2, a3] st h = Ev d 228 48 [some (vO x), a1, a2, a3] (vO x :: st) h := Rnx (hB_228) (dX7_passAll_47) rfl
set_option maxRecDepth 100000 in
theorem v228_48 {d : Nat} {ls : LS3} {st : List MV} {h : Hp} {a : A3} (hS : gS h a = (1, 7)) : Ev d 228 48 ls (vR a :: st) h = Ev d 228 51 ls (vO (gR h a 5) :: st) h := Rget hB_228 dX7_passAll_48 rfl (Or.inl hS)
theorem v228_51 {d : Nat} {st : List MV} {h : Hp} {x : Option A3} {a0 a2 a3 : Option MV} : Ev d 228 51 [a0, some (vO x), a2, a3] st h = Ev d 228 52 [a0, some (vO x), a2, a3] (vO x :: st) h := Rnx (hB_228) (dX7_passAll_51) rfl
set_option maxRecDepth 100000 in
theorem v228_52 {d : Nat} {ls : LS3} {st : List MV} {h : Hp} {a : A3} {o0 : Option A3} {o1 : Option A3} (hS : gS h a = (1, 7)) (hc : catS st ≤ 8) : Ev (d + 1) 228 52 ls (vO o1 :: vO o0 :: vR a :: st) h = Evk 226 (d + 1) 228 52 ls st (Ev d 226 0 [some (vR a), some (vO o0), some (vO o1), none] [] h) := RcallO (idx := 318) (n := 2) (kd := 0) (As' := [vO o0, vO o1]) hB_228 dX7_passAll_52 rfl rfl (by decide) rfl rfl (Or.inl hS) rfl hc
theorem v228_55 {d : Nat} {st : List MV} {h : Hp} {x : Option A3} {a1 a2 a3 : Option MV} : Ev d 228 55 [some (vO x), a1, a2, a3] st h = Ev d 228 56 [some (vO x), a1, a2, a3] (vO x :: st) h := Rnx (hB_228) (dX7_passAll_55) rfl
theorem v228_56 {d : Nat} {st : List MV} {h : Hp} {x : Option A3} {a1 a2 a3 : Option MV} : Ev d 228 56 [some (vO x), a1, a2, a3] st h = Ev d 228 57 [some (vO x), a1, a2, a3] (vO x :: st) h := Rnx (hB_228) (dX7_passAll_56) rfl
set_option maxRecDepth 100000 in
theorem v228_57 {d : Nat} {ls : LS3} {st : List MV} {h : Hp} {a : A3} (hS : gS h a = (1, 7)) : Ev d 228 57 ls (vR a :: st) h = Ev d 228 60 ls (vO (gR h a 6) :: st) h := Rget hB_228 dX7_passAll_57 rfl (Or.inl hS)
theorem v228_60 {d : Nat} {st : List MV} {h : Hp} {x : Option A3} {a0 a2 a3 : Option MV} : Ev d 228 60 [a0, some (vO x), a2, a3] st h = Ev d 228 61 [a0, some (vO x), a2, a3] (vO x :: st) h := Rnx (hB_228) (dX7_passAll_60) rfl
set_option maxRecDepth 100000 in
theorem v228_61 {d : Nat} {ls : LS3} {st : List MV} {h : Hp} {a : A3} {o0 : Option A3} {o1 : Option A3} (hS : gS h a = (1, 7)) (hc : catS st ≤ 8) : Ev (d + 1) 228 61 ls (vO o1 :: vO o0 :: vR a :: st) h = Evk 226 (d + 1) 228 61 ls st (Ev d 226 0 [some (vR a), some (vO o0), some (vO o1), none] [] h) := RcallO (idx := 318) (n := 2) (kd := 0) (As' := [vO o0, vO o1]) hB_228 dX7_passAll_61 rfl rfl (by decide) rfl rfl (Or.inl hS) rfl hc
theorem v228_64 {d : Nat} {st : List MV} {h : Hp} {x : Option A3} {a1 a2 a3 : Option MV} : Ev d 228 64 [some (vO x), a1, a2, a3] st h = Ev d 228 65 [some (vO x), a1, a2, a3] (vO x :: st) h := Rnx (hB_228) (dX7_passAll_64) rfl
theorem v228_65 {d : Nat} {st : List MV} {h : Hp} {x : Option A3} {a1 a2 a3 : Option MV} : Ev d 228 65 [some (vO x), a1, a2, a3] st h = Ev d 228 66 [some (vO x), a1, a2, a3] (vO x :: st) h := Rnx (hB_228) (dX7_passAll_65) rfl
set_option maxRecDepth 100000 in
theorem v228_66 {d : Nat} {ls : LS3} {st : List MV} {h : Hp} {a : A3} (hS : gS h a = (1, 7)) : Ev d 228 66 ls (vR a :: st) h = Ev d 228 69 ls (vO (gR h a 9) :: st) h := Rget hB_228 dX7_passAll_66 rfl (Or.inl hS)
theorem v228_69 {d : Nat} {st : List MV} {h : Hp} {x : Option A3} {a0 a2 a3 : Option MV} : Ev d 228 69 [a0, some (vO x), a2, a3] st h = Ev d 228 70 [a0, some (vO x), a2, a3] (vO x :: st) h := Rnx (hB_228) (dX7_passAll_69) rfl
set_option maxRecDepth 100000 in
theorem v228_70 {d : Nat} {ls : LS3} {st : List MV} {h : Hp} {a : A3} {o0 : Option A3} {o1 : Option A3} (hS : gS h a = (1, 7)) (hc : catS st ≤ 8) : Ev (d + 1) 228 70 ls (vO o1 :: vO o0 :: vR a :: st) h = Evk 226 (d + 1) 228 70 ls st (Ev d 226 0 [some (vR a), some (vO o0), some (vO o1), none] [] h) := RcallO (idx := 318) (n := 2) (kd := 0) (As' := [vO o0, vO o1]) hB_228 dX7_passAll_70 rfl rfl (by decide) rfl rfl (Or.inl hS) rfl hc
theorem v228_73 {d : Nat} {st : List MV} {h : Hp} {x : Option A3} {a1 a2 a3 : Option MV} : Ev d 228 73 [some (vO x), a1, a2, a3] st h = Ev d 228 74 [some (vO x), a1, a2, a3] (vO x :: st) h := Rnx (hB_228) (dX7_passAll_73) rfl
theorem v228_74 {d : Nat} {st : List MV} {h : Hp} {x : Option A3} {a1 a2 a3 : Option MV} : Ev d 228 74 [some (vO x), a1, a2, a3] st h = Ev d 228 75 [some (vO x), a1, a2, a3] (vO x :: st) h := Rnx (hB_228) (dX7_passAll_74) rfl
set_option maxRecDepth 100000 in
theorem v228_75 {d : Nat} {ls : LS3} {st : List MV} {h : Hp} {a : A3} (hS : gS h a = (1, 7)) : Ev d 228 75 ls (vR a :: st) h = Ev d 228 78 ls (vO (gR h a 10) :: st) h := Rget hB_228 dX7_passAll_75 rfl (Or.inl hS)
theorem v228_78 {d : Nat} {st : List MV} {h : Hp} {x : Option A3} {a0 a2 a3 : Option MV} : Ev d 228 78 [a0, some (vO x), a2, a3] st h = Ev d 228 79 [a0, some (vO x), a2, a3] (vO x :: st) h := Rnx (hB_228) (dX7_passAll_78) rfl
set_option maxRecDepth 100000 in
theorem v228_79 {d : Nat} {ls : LS3} {st : List MV} {h : Hp} {a : A3} {o0 : Option A3} {o1 : Option A3} (hS : gS h a = (1, 7)) (hc : catS st ≤ 8) : Ev (d + 1) 228 79 ls (vO o1 :: vO o0 :: vR a :: st) h = Evk 226 (d + 1) 228 79 ls st (Ev d 226 0 [some (vR a), some (vO o0), some (vO o1), none] [] h) := RcallO (idx := 318) (n := 2) (kd := 0) (As' := [vO o0, vO o1]) hB_228 dX7_passAll_79 rfl rfl (by decide) rfl rfl (Or.inl hS) rfl hc
theorem v228_82 {d : Nat} {st : List MV} {h : Hp} {x : Option A3} {a1 a2 a3 : Option MV} : Ev d 228 82 [some (vO x), a1, a2, a3] st h = Ev d 228 83 [some (vO x), a1, a2, a3] (vO x :: st) h := Rnx (hB_228) (dX7_passAll_82) rfl
theorem v228_83 {d : Nat} {st : List MV} {h : Hp} {x : Option A3} {a1 a2 a3 : Option MV} : Ev d 228 83 [some (vO x), a1, a2, a3] st h = Ev d 228 84 [some (vO x), a1, a2, a3] (vO x :: st) h := Rnx (hB_228) (dX7_passAll_83) rfl
set_option maxRecDepth 100000 in
theorem v228_84 {d : Nat} {ls : LS3} {st : List MV} {h : Hp} {a : A3} (hS : gS h a = (1, 7)) : Ev d 228 84 ls (vR a :: st) h = Ev d 228 87 ls (vO (gR h a 11) :: st) h := Rget hB_228 dX7_passAll_84 rfl (Or.inl hS)
theorem v228_87 {d : Nat} {st : List MV} {h : Hp} {x : Option A3} {a0 a2 a3 : Option MV} : Ev d 228 87 [a0, some (vO x), a2, a3] st h = Ev d 228 88 [a0, some (vO x), a2, a3] (vO x :: st) h := Rnx (hB_228) (dX7_passAll_87) rfl
set_option maxRecDepth 100000 in
theorem v228_88 {d : Nat} {ls : LS3} {st : List MV} {h : Hp} {a : A3} {o0 : Option A3} {o1 : Option A3} (hS : gS h a = (1, 7)) (hc : catS st ≤ 8) : Ev (d + 1) 228 88 ls (vO o1 :: vO o0 :: vR a :: st) h = Evk 226 (d + 1) 228 88 ls st (Ev d 226 0 [some (vR a), some (vO o0), some (vO o1), none] [] h) := RcallO (idx := 318) (n := 2) (kd := 0) (As' := [vO o0, vO o1]) hB_228 dX7_passAll_88 rfl rfl (by decide) rfl rfl (Or.inl hS) rfl hc
theorem v228_91 {d : Nat} {st : List MV} {h : Hp} {x : Option A3} {a1 a2 a3 : Option MV} : Ev d 228 91 [some (vO x), a1, a2, a3] st h = Ev d 228 92 [some (vO x), a1, a2, a3] (vO x :: st) h := Rnx (hB_228) (dX7_passAll_91) rfl
theorem v228_92 {d : Nat} {st : List MV} {h : Hp} {x : Option A3} {a1 a2 a3 : Option MV} : Ev d 228 92 [some (vO x), a1, a2, a3] st h = Ev d 228 93 [some (vO x), a1, a2, a3] (vO x :: st) h := Rnx (hB_228) (dX7_passAll_92) rfl
set_option maxRecDepth 100000 in
theorem v228_93 {d : Nat} {ls : LS3} {st : List MV} {h : Hp} {a : A3} (hS : gS h a = (1, 7)) : Ev d 228 93 ls (vR a :: st) h = Ev d 228 96 ls (vO (gR h a 12) :: st) h := Rget hB_228 dX7_passAll_93 rfl (Or.inl hS)
theorem v228_96 {d : Nat} {st : List MV} {h : Hp} {x : Option A3} {a0 a2 a3 : Option MV} : Ev d 228 96 [a0, some (vO x), a2, a3] st h = Ev d 228 97 [a0, some (vO x), a2, a3] (vO x :: st) h := Rnx (hB_228) (dX7_passAll_96) rfl
set_option maxRecDepth 100000 in
theorem v228_97 {d : Nat} {ls : LS3} {st : List MV} {h : Hp} {a : A3} {o0 : Option A3} {o1 : Option A3} (hS : gS h a = (1, 7)) (hc : catS st ≤ 8) : Ev (d + 1) 228 97 ls (vO o1 :: vO o0 :: vR a :: st) h = Evk 226 (d + 1) 228 97 ls st (Ev d 226 0 [some (vR a), some (vO o0), some (vO o1), none] [] h) := RcallO (idx := 318) (n := 2) (kd := 0) (As' := [vO o0, vO o1]) hB_228 dX7_passAll_97 rfl rfl (by decide) rfl rfl (Or.inl hS) rfl hc
theorem v228_100 {d : Nat} {st : List MV} {h : Hp} {x : Option A3} {a1 a2 a3 : Option MV} : Ev d 228 100 [some (vO x), a1, a2, a3] st h = Ev d 228 101 [some (vO x), a1, a2, a3] (vO x :: st) h := Rnx (hB_228) (dX7_passAll_100) rfl
theorem v228_101 {d : Nat} {st : List MV} {h : Hp} {x : Option A3} {a1 a2 a3 : Option MV} : Ev d 228 101 [some (vO x), a1, a2, a3] st h = Ev d 228 102 [some (vO x), a1, a2, a3] (vO x :: st) h := Rnx (hB_228) (dX7_passAll_101) rfl
set_option maxRecDepth 100000 in
theorem v228_102 {d : Nat} {ls : LS3} {st : List MV} {h : Hp} {a : A3} (hS : gS h a = (1, 7)) : Ev d 228 102 ls (vR a :: st) h = Ev d 228 105 ls (vO (gR h a 13) :: st) h := Rget hB_228 dX7_passAll_102 rfl (Or.inl hS)
theorem v228_105 {d : Nat} {st : List MV} {h : Hp} {x : Option A3} {a0 a2 a3 : Option MV} : Ev d 228 105 [a0, some (vO x), a2, a3] st h = Ev d 228 106 [a0, some (vO x), a2, a3] (vO x :: st) h := Rnx (hB_228) (dX7_passAll_105) rfl
set_option maxRecDepth 100000 in
theorem v228_106 {d : Nat} {ls : LS3} {st : List MV} {h : Hp} {a : A3} {o0 : Option A3} {o1 : Option A3} (hS : gS h a = (1, 7)) (hc : catS st ≤ 8) : Ev (d + 1) 228 106 ls (vO o1 :: vO o0 :: vR a :: st) h = Evk 226 (d + 1) 228 106 ls st (Ev d 226 0 [some (vR a), some (vO o0), some (vO o1), none] [] h) := RcallO (idx := 318) (n := 2) (kd := 0) (As' := [vO o0, vO o1]) hB_228 dX7_passAll_106 rfl rfl (by decide) rfl rfl (Or.inl hS) rfl hc
theorem v228_109 {d : Nat} {st : List MV} {h : Hp} {x : Option A3} {a1 a2 a3 : Option MV} : Ev d 228 109 [some (vO x), a1, a2, a3] st h = Ev d 228 110 [some (vO x), a1, a2, a3] (vO x :: st) h := Rnx (hB_228) (dX7_passAll_109) rfl
theorem v228_110 {d : Nat} {st : List MV} {h : Hp} {x : Option A3} {a1 a2 a3 : Option MV} : Ev d 228 110 [some (vO x), a1, a2, a3] st h = Ev d 228 111 [some (vO x), a1, a2, a3] (vO x :: st) h := Rnx (hB_228) (dX7_passAll_110) rfl
set_option maxRecDepth 100000 in
theorem v228_111 {d : Nat} {ls : LS3} {st : List MV} {h : Hp} {a : A3} (hS : gS h a = (1, 7)) : Ev d 228 111 ls (vR a :: st) h = Ev d 228 114 ls (vO (gR h a 14) :: st) h := Rget hB_228 dX7_passAll_111 rfl (Or.inl hS)
theorem v228_114 {d : Nat} {st : List MV} {h : Hp} {x : Option A3} {a0 a2 a3 : Option MV} : Ev d 228 114 [a0, some (vO x), a2, a3] st h = Ev d 228 115 [a0, some (vO x), a2, a3] (vO x :: st) h := Rnx (hB_228) (dX7_passAll_114) rfl
set_option maxRecDepth 100000 in
theorem v228_115 {d : Nat} {ls : LS3} {st : List MV} {h : Hp} {a : A3} {o0 : Option A3} {o1 : Option A3} (hS : gS h a = (1, 7)) (hc : catS st ≤ 8) : Ev (d + 1) 228 115 ls (vO o1 :: vO o0 :: vR a :: st) h = Evk 226 (d + 1) 228 115 ls st (Ev d 226 0 [some (vR a), some (vO o0), some (vO o1), none] [] h) := RcallO (idx := 318) (n := 2) (kd := 0) (As' := [vO o0, vO o1]) hB_228 dX7_passAll_115 rfl rfl (by decide) rfl rfl (Or.inl hS) rfl hc
theorem v228_118 {d : Nat} {st : List MV} {h : Hp} {x : Option A3} {a1 a2 a3 : Option MV} : Ev d 228 118 [some (vO x), a1, a2, a3] st h = Ev d 228 119 [some (vO x), a1, a2, a3] (vO x :: st) h := Rnx (hB_228) (dX7_passAll_118) rfl
theorem v228_119 {d : Nat} {st : List MV} {h : Hp} {x : Option A3} {a1 a2 a3 : Option MV} : Ev d 228 119 [some (vO x), a1, a2, a3] st h = Ev d 228 120 [some (vO x), a1, a2, a3] (vO x :: st) h := Rnx (hB_228) (dX7_passAll_119) rfl
set_option maxRecDepth 100000 in
theorem v228_120 {d : Nat} {ls : LS3} {st : List MV} {h : Hp} {a : A3} (hS : gS h a = (1, 7)) : Ev d 228 120 ls (vR a :: st) h = Ev d 228 123 ls (vO (gR h a 15) :: st) h := Rget hB_228 dX7_passAll_120 rfl (Or.inl hS)
theorem v228_123 {d : Nat} {st : List MV} {h : Hp} {x : Option A3} {a0 a2 a3 : Option MV} : Ev d 228 123 [a0, some (vO x), a2, a3] st h = Ev d 228 124 [a0, some (vO x), a2, a3] (vO x :: st) h := Rnx (hB_228) (dX7_passAll_123) rfl
set_option maxRecDepth 100000 in
theorem v228_124 {d : Nat} {ls : LS3} {st : List MV} {h : Hp} {a : A3} {o0 : Option A3} {o1 : Option A3} (hS : gS h a = (1, 7)) (hc : catS st ≤ 8) : Ev (d + 1) 228 124 ls (vO o1 :: vO o0 :: vR a :: st) h = Evk 226 (d + 1) 228 124 ls st (Ev d 226 0 [some (vR a), some (vO o0), some (vO o1), none] [] h) := RcallO (idx := 318) (n := 2) (kd := 0) (As' := [vO o0, vO o1]) hB_228 dX7_passAll_124 rfl rfl (by decide) rfl rfl (Or.inl hS) rfl hc
theorem v228_127 {d : Nat} {st : List MV} {h : Hp} {x : Option A3} {a1 a2 a3 : Option MV} : Ev d 228 127 [some (vO x), a1, a2, a3] st h = Ev d 228 128 [some (vO x), a1, a2, a3] (vO x :: st) h := Rnx (hB_228) (dX7_passAll_127) rfl
theorem v228_128 {d : Nat} {st : List MV} {h : Hp} {x : Option A3} {a1 a2 a3 : Option MV} : Ev d 228 128 [some (vO x), a1, a2, a3] st h = Ev d 228 129 [some (vO x), a1, a2, a3] (vO x :: st) h := Rnx (hB_228) (dX7_passAll_128) rfl
set_option maxRecDepth 100000 in
theorem v228_129 {d : Nat} {ls : LS3} {st : List MV} {h : Hp} {a : A3} (hS : gS h a = (1, 7)) : Ev d 228 129 ls (vR a :: st) h = Ev d 228 132 ls (vO (gR h a 16) :: st) h := Rget hB_228 dX7_passAll_129 rfl (Or.inl hS)
theorem v228_132 {d : Nat} {st : List MV} {h : Hp} {x : Option A3} {a0 a2 a3 : Option MV} : Ev d 228 132 [a0, some (vO x), a2, a3] st h = Ev d 228 133 [a0, some (vO x), a2, a3] (vO x :: st) h := Rnx (hB_228) (dX7_passAll_132) rfl
set_option maxRecDepth 100000 in
theorem v228_133 {d : Nat} {ls : LS3} {st : List MV} {h : Hp} {a : A3} {o0 : Option A3} {o1 : Option A3} (hS : gS h a = (1, 7)) (hc : catS st ≤ 8) : Ev (d + 1) 228 133 ls (vO o1 :: vO o0 :: vR a :: st) h = Evk 226 (d + 1) 228 133 ls st (Ev d 226 0 [some (vR a), some (vO o0), some (vO o1), none] [] h) := RcallO (idx := 318) (n := 2) (kd := 0) (As' := [vO o0, vO o1]) hB_228 dX7_passAll_133 rfl rfl (by decide) rfl rfl (Or.inl hS) rfl hc
theorem v228_136 {d : Nat} {st : List MV} {h : Hp} {x : Option A3} {a1 a2 a3 : Option MV} : Ev d 228 136 [some (vO x), a1, a2, a3] st h = Ev d 228 137 [some (vO x), a1, a2, a3] (vO x :: st) h := Rnx (hB_228) (dX7_passAll_136) rfl
theorem v228_137 {d : Nat} {st : List MV} {h : Hp} {x : Option A3} {a1 a2 a3 : Option MV} : Ev d 228 137 [some (vO x), a1, a2, a3] st h = Ev d 228 138 [some (vO x), a1, a2, a3] (vO x :: st) h := Rnx (hB_228) (dX7_passAll_137) rfl
set_option maxRecDepth 100000 in
theorem v228_138 {d : Nat} {ls : LS3} {st : List MV} {h : Hp} {a : A3} (hS : gS h a = (1, 7)) : Ev d 228 138 ls (vR a :: st) h = Ev d 228 141 ls (vO (gR h a 17) :: st) h := Rget hB_228 dX7_passAll_138 rfl (Or.inl hS)
theorem v228_141 {d : Nat} {st : List MV} {h : Hp} {x : Option A3} {a0 a2 a3 : Option MV} : Ev d 228 141 [a0, some (vO x), a2, a3] st h = Ev d 228 142 [a0, some (vO x), a2, a3] (vO x :: st) h := Rnx (hB_228) (dX7_passAll_141) rfl
set_option maxRecDepth 100000 in
theorem v228_142 {d : Nat} {ls : LS3} {st : List MV} {h : Hp} {a : A3} {o0 : Option A3} {o1 : Option A3} (hS : gS h a = (1, 7)) (hc : catS st ≤ 8) : Ev (d + 1) 228 142 ls (vO o1 :: vO o0 :: vR a :: st) h = Evk 226 (d + 1) 228 142 ls st (Ev d 226 0 [some (vR a), some (vO o0), some (vO o1), none] [] h) := RcallO (idx := 318) (n := 2) (kd := 0) (As' := [vO o0, vO o1]) hB_228 dX7_passAll_142 rfl rfl (by decide) rfl rfl (Or.inl hS) rfl hc
theorem v228_145 {d : Nat} {st : List MV} {h : Hp} {x : Option A3} {a1 a2 a3 : Option MV} : Ev d 228 145 [some (vO x), a1, a2, a3] st h = Ev d 228 146 [some (vO x), a1, a2, a3] (vO x :: st) h := Rnx (hB_228) (dX7_passAll_145) rfl
theorem v228_146 {d : Nat} {st : List MV} {h : Hp} {x : Option A3} {a1 a2 a3 : Option MV} : Ev d 228 146 [some (vO x), a1, a2, a3] st h = Ev d 228 147 [some (vO x), a1, a2, a3] (vO x :: st) h := Rnx (hB_228) (dX7_passAll_146) rfl
set_option maxRecDepth 100000 in
theorem v228_147 {d : Nat} {ls : LS3} {st : List MV} {h : Hp} {a : A3} (hS : gS h a = (1, 7)) : Ev d 228 147 ls (vR a :: st) h = Ev d 228 150 ls (vO (gR h a 18) :: st) h := Rget hB_228 dX7_passAll_147 rfl (Or.inl hS)
theorem v228_150 {d : Nat} {st : List MV} {h : Hp} {x : Option A3} {a0 a2 a3 : Option MV} : Ev d 228 150 [a0, some (vO x), a2, a3] st h = Ev d 228 151 [a0, some (vO x), a2, a3] (vO x :: st) h := Rnx (hB_228) (dX7_passAll_150) rfl
set_option maxRecDepth 100000 in
theorem v228_151 {d : Nat} {ls : LS3} {st : List MV} {h : Hp} {a : A3} {o0 : Option A3} {o1 : Option A3} (hS : gS h a = (1, 7)) (hc : catS st ≤ 8) : Ev (d + 1) 228 151 ls (vO o1 :: vO o0 :: vR a :: st) h = Evk 226 (d + 1) 228 151 ls st (Ev d 226 0 [some (vR a), some (vO o0), some (vO o1), none] [] h) := RcallO (idx := 318) (n := 2) (kd := 0) (As' := [vO o0, vO o1]) hB_228 dX7_passAll_151 rfl rfl (by decide) rfl rfl (Or.inl hS) rfl hc
theorem v228_154 {d : Nat} {st : List MV} {h : Hp} {x : Option A3} {a1 a2 a3 : Option MV} : Ev d 228 154 [some (vO x), a1, a2, a3] st h = Ev d 228 155 [some (vO x), a1, a2, a3] (vO x :: st) h := Rnx (hB_228) (dX7_passAll_154) rfl
theorem v228_155 {d : Nat} {st : List MV} {h : Hp} {x : Option A3} {a1 a2 a3 : Option MV} : Ev d 228 155 [some (vO x), a1, a2, a3] st h = Ev d 228 156 [some (vO x), a1, a2, a3] (vO x :: st) h := Rnx (hB_228) (dX7_passAll_155) rfl
theorem v228_156 {d : Nat} {st : List MV} {h : Hp} {x : Option A3} {a1 a2 a3 : Option MV} : Ev d 228 156 [some (vO x), a1, a2, a3] st h = Ev d 228 157 [some (vO x), a1, a2, a3] (vO x :: st) h := Rnx (hB_228) (dX7_passAll_156) rfl
set_option maxRecDepth 100000 in
theorem v228_157 {d : Nat} {ls : LS3} {st : List MV} {h : Hp} {a : A3} (hS : gS h a = (1, 7)) : Ev d 228 157 ls (vR a :: st) h = Ev d 228 160 ls (vI (gI h a 7) :: st) h := Rget hB_228 dX7_passAll_157 rfl (Or.inl hS)
theorem v228_160 {d : Nat} {st : List MV} {h : Hp} {x : Option A3} {a0 a2 a3 : Option MV} : Ev d 228 160 [a0, some (vO x), a2, a3] st h = Ev d 228 161 [a0, some (vO x), a2, a3] (vO x :: st) h := Rnx (hB_228) (dX7_passAll_160) rfl
set_option maxRecDepth 100000 in
theorem v228_161 {d : Nat} {ls : LS3} {st : List MV} {h : Hp} {a : A3} {x0 : Int32} {o1 : Option A3} (hS : gS h a = (1, 7)) (hc : catS st ≤ 8) : Ev (d + 1) 228 161 ls (vO o1 :: vI x0 :: vR a :: st) h = Evk 227 (d + 1) 228 161 ls st (Ev d 227 0 [some (vR a), some (vI x0), some (vO o1), none] [] h) := RcallO (idx := 322) (n := 2) (kd := 0) (As' := [vI x0, vO o1]) hB_228 dX7_passAll_161 rfl rfl (by decide) rfl rfl (Or.inl hS) rfl hc
set_option maxRecDepth 100000 in
theorem v228_164 {d : Nat} {ls : LS3} {st : List MV} {h : Hp} {a : A3} {x : Int32} (hS : gS h a = (1, 7)) : Ev d 228 164 ls (vI x :: vR a :: st) h = Ev d 228 167 ls st (sI h a 7 x) := RputI hB_228 dX7_passAll_164 rfl rfl (by decide) hS (Or.inl rfl)
theorem v228_167 {d : Nat} {st : List MV} {h : Hp} {x : Option A3} {a1 a2 a3 : Option MV} : Ev d 228 167 [some (vO x), a1, a2, a3] st h = Ev d 228 168 [some (vO x), a1, a2, a3] (vO x :: st) h := Rnx (hB_228) (dX7_passAll_167) rfl
theorem v228_168 {d : Nat} {st : List MV} {h : Hp} {x : Option A3} {a1 a2 a3 : Option MV} : Ev d 228 168 [some (vO x), a1, a2, a3] st h = Ev d 228 169 [some (vO x), a1, a2, a3] (vO x :: st) h := Rnx (hB_228) (dX7_passAll_168) rfl
theorem v228_169 {d : Nat} {st : List MV} {h : Hp} {x : Option A3} {a1 a2 a3 : Option MV} : Ev d 228 169 [some (vO x), a1, a2, a3] st h = Ev d 228 170 [some (vO x), a1, a2, a3] (vO x :: st) h := Rnx (hB_228) (dX7_passAll_169) rfl
set_option maxRecDepth 100000 in
theorem v228_170 {d : Nat} {ls : LS3} {st : List MV} {h : Hp} {a : A3} (hS : gS h a = (1, 7)) : Ev d 228 170 ls (vR a :: st) h = Ev d 228 173 ls (vI (gI h a 8) :: st) h := Rget hB_228 dX7_passAll_170 rfl (Or.inl hS)
theorem v228_173 {d : Nat} {st : List MV} {h : Hp} {x : Option A3} {a0 a2 a3 : Option MV} : Ev d 228 173 [a0, some (vO x), a2, a3] st h = Ev d 228 174 [a0, some (vO x), a2, a3] (vO x :: st) h := Rnx (hB_228) (dX7_passAll_173) rfl
set_option maxRecDepth 100000 in
theorem v228_174 {d : Nat} {ls : LS3} {st : List MV} {h : Hp} {a : A3} {x0 : Int32} {o1 : Option A3} (hS : gS h a = (1, 7)) (hc : catS st ≤ 8) : Ev (d + 1) 228 174 ls (vO o1 :: vI x0 :: vR a :: st) h = Evk 227 (d + 1) 228 174 ls st (Ev d 227 0 [some (vR a), some (vI x0), some (vO o1), none] [] h) := RcallO (idx := 322) (n := 2) (kd := 0) (As' := [vI x0, vO o1]) hB_228 dX7_passAll_174 rfl rfl (by decide) rfl rfl (Or.inl hS) rfl hc
set_option maxRecDepth 100000 in
theorem v228_177 {d : Nat} {ls : LS3} {st : List MV} {h : Hp} {a : A3} {x : Int32} (hS : gS h a = (1, 7)) : Ev d 228 177 ls (vI x :: vR a :: st) h = Ev d 228 180 ls st (sI h a 8 x) := RputI hB_228 dX7_passAll_177 rfl rfl (by decide) hS (Or.inl rfl)
theorem v228_180 {d : Nat} {st : List MV} {h : Hp} {x : Option A3} {a1 a2 a3 : Option MV} : Ev d 228 180 [some (vO x), a1, a2, a3] st h = Ev d 228 181 [some (vO x), a1, a2, a3] (vO x :: st) h := Rnx (hB_228) (dX7_passAll_180) rfl
theorem v228_181 {d : Nat} {st : List MV} {h : Hp} {x : Option A3} {a1 a2 a3 : Option MV} : Ev d 228 181 [some (vO x), a1, a2, a3] st h = Ev d 228 182 [some (vO x), a1, a2, a3] (vO x :: st) h := Rnx (hB_228) (dX7_passAll_181) rfl
theorem v228_182 {d : Nat} {st : List MV} {h : Hp} {x : Option A3} {a1 a2 a3 : Option MV} : Ev d 228 182 [some (vO x), a1, a2, a3] st h = Ev d 228 183 [some (vO x), a1, a2, a3] (vO x :: st) h := Rnx (hB_228) (dX7_passAll_182) rfl
set_option maxRecDepth 100000 in
theorem v228_183 {d : Nat} {ls : LS3} {st : List MV} {h : Hp} {a : A3} (hS : gS h a = (1, 7)) : Ev d 228 183 ls (vR a :: st) h = Ev d 228 186 ls (vI (gI h a 19) :: st) h := Rget hB_228 dX7_passAll_183 rfl (Or.inl hS)
theorem v228_186 {d : Nat} {st : List MV} {h : Hp} {x : Option A3} {a0 a2 a3 : Option MV} : Ev d 228 186 [a0, some (vO x), a2, a3] st h = Ev d 228 187 [a0, some (vO x), a2, a3] (vO x :: st) h := Rnx (hB_228) (dX7_passAll_186) rfl
set_option maxRecDepth 100000 in
theorem v228_187 {d : Nat} {ls : LS3} {st : List MV} {h : Hp} {a : A3} {x0 : Int32} {o1 : Option A3} (hS : gS h a = (1, 7)) (hc : catS st ≤ 8) : Ev (d + 1) 228 187 ls (vO o1 :: vI x0 :: vR a :: st) h = Evk 227 (d + 1) 228 187 ls st (Ev d 227 0 [some (vR a), some (vI x0), some (vO o1), none] [] h) := RcallO (idx := 322) (n := 2) (kd := 0) (As' := [vI x0, vO o1]) hB_228 dX7_passAll_187 rfl rfl (by decide) rfl rfl (Or.inl hS) rfl hc
set_option maxRecDepth 100000 in
theorem v228_190 {d : Nat} {ls : LS3} {st : List MV} {h : Hp} {a : A3} {x : Int32} (hS : gS h a = (1, 7)) : Ev d 228 190 ls (vI x :: vR a :: st) h = Ev d 228 193 ls st (sI h a 19 x) := RputI hB_228 dX7_passAll_190 rfl rfl (by decide) hS (Or.inl rfl)
theorem v228_193 {d : Nat} {st : List MV} {h : Hp} {x : Option A3} {a1 a2 a3 : Option MV} : Ev d 228 193 [some (vO x), a1, a2, a3] st h = Ev d 228 194 [some (vO x), a1, a2, a3] (vO x :: st) h := Rnx (hB_228) (dX7_passAll_193) rfl
theorem v228_194 {d : Nat} {st : List MV} {h : Hp} {x : Option A3} {a1 a2 a3 : Option MV} : Ev d 228 194 [some (vO x), a1, a2, a3] st h = Ev d 228 195 [some (vO x), a1, a2, a3] (vO x :: st) h := Rnx (hB_228) (dX7_passAll_194) rfl
theorem v228_195 {d : Nat} {st : List MV} {h : Hp} {x : Option A3} {a1 a2 a3 : Option MV} : Ev d 228 195 [some (vO x), a1, a2, a3] st h = Ev d 228 196 [some (vO x), a1, a2, a3] (vO x :: st) h := Rnx (hB_228) (dX7_passAll_195) rfl
set_option maxRecDepth 100000 in
theorem v228_196 {d : Nat} {ls : LS3} {st : List MV} {h : Hp} {a : A3} (hS : gS h a = (1, 7)) : Ev d 228 196 ls (vR a :: st) h = Ev d 228 199 ls (vI (gI h a 20) :: st) h := Rget hB_228 dX7_passAll_196 rfl (Or.inl hS)
theorem v228_199 {d : Nat} {st : List MV} {h : Hp} {x : Option A3} {a0 a2 a3 : Option MV} : Ev d 228 199 [a0, some (vO x), a2, a3] st h = Ev d 228 200 [a0, some (vO x), a2, a3] (vO x :: st) h := Rnx (hB_228) (dX7_passAll_199) rfl
set_option maxRecDepth 100000 in
theorem v228_200 {d : Nat} {ls : LS3} {st : List MV} {h : Hp} {a : A3} {x0 : Int32} {o1 : Option A3} (hS : gS h a = (1, 7)) (hc : catS st ≤ 8) : Ev (d + 1) 228 200 ls (vO o1 :: vI x0 :: vR a :: st) h = Evk 227 (d + 1) 228 200 ls st (Ev d 227 0 [some (vR a), some (vI x0), some (vO o1), none] [] h) := RcallO (idx := 322) (n := 2) (kd := 0) (As' := [vI x0, vO o1]) hB_228 dX7_passAll_200 rfl rfl (by decide) rfl rfl (Or.inl hS) rfl hc
set_option maxRecDepth 100000 in
theorem v228_203 {d : Nat} {ls : LS3} {st : List MV} {h : Hp} {a : A3} {x : Int32} (hS : gS h a = (1, 7)) : Ev d 228 203 ls (vI x :: vR a :: st) h = Ev d 228 206 ls st (sI h a 20 x) := RputI hB_228 dX7_passAll_203 rfl rfl (by decide) hS (Or.inl rfl)
theorem v228_206 {d : Nat} {st : List MV} {h : Hp} {x : Option A3} {a1 a2 a3 : Option MV} : Ev d 228 206 [some (vO x), a1, a2, a3] st h = Ev d 228 207 [some (vO x), a1, a2, a3] (vO x :: st) h := Rnx (hB_228) (dX7_passAll_206) rfl
theorem v228_207 {d : Nat} {st : List MV} {h : Hp} {x : Option A3} {a1 a2 a3 : Option MV} : Ev d 228 207 [some (vO x), a1, a2, a3] st h = Ev d 228 208 [some (vO x), a1, a2, a3] (vO x :: st) h := Rnx (hB_228) (dX7_passAll_207) rfl
theorem v228_208 {d : Nat} {st : List MV} {h : Hp} {x : Option A3} {a1 a2 a3 : Option MV} : Ev d 228 208 [some (vO x), a1, a2, a3] st h = Ev d 228 209 [some (vO x), a1, a2, a3] (vO x :: st) h := Rnx (hB_228) (dX7_passAll_208) rfl
set_option maxRecDepth 100000 in
theorem v228_209 {d : Nat} {ls : LS3} {st : List MV} {h : Hp} {a : A3} (hS : gS h a = (1, 7)) : Ev d 228 209 ls (vR a :: st) h = Ev d 228 212 ls (vI (gI h a 21) :: st) h := Rget hB_228 dX7_passAll_209 rfl (Or.inl hS)
theorem v228_212 {d : Nat} {st : List MV} {h : Hp} {x : Option A3} {a0 a2 a3 : Option MV} : Ev d 228 212 [a0, some (vO x), a2, a3] st h = Ev d 228 213 [a0, some (vO x), a2, a3] (vO x :: st) h := Rnx (hB_228) (dX7_passAll_212) rfl
set_option maxRecDepth 100000 in
theorem v228_213 {d : Nat} {ls : LS3} {st : List MV} {h : Hp} {a : A3} {x0 : Int32} {o1 : Option A3} (hS : gS h a = (1, 7)) (hc : catS st ≤ 8) : Ev (d + 1) 228 213 ls (vO o1 :: vI x0 :: vR a :: st) h = Evk 227 (d + 1) 228 213 ls st (Ev d 227 0 [some (vR a), some (vI x0), some (vO o1), none] [] h) := RcallO (idx := 322) (n := 2) (kd := 0) (As' := [vI x0, vO o1]) hB_228 dX7_passAll_213 rfl rfl (by decide) rfl rfl (Or.inl hS) rfl hc
set_option maxRecDepth 100000 in
theorem v228_216 {d : Nat} {ls : LS3} {st : List MV} {h : Hp} {a : A3} {x : Int32} (hS : gS h a = (1, 7)) : Ev d 228 216 ls (vI x :: vR a :: st) h = Ev d 228 219 ls st (sI h a 21 x) := RputI hB_228 dX7_passAll_216 rfl rfl (by decide) hS (Or.inl rfl)
theorem v228_219 {d : Nat} {ls : LS3} {h : Hp} : Ev d 228 219 ls [] h = some (.inl none, h) := Rdn hB_228 dX7_passAll_219 rfl
theorem hB_229 : mB 229 = cX7_makesRoom := rfl
theorem v229_0 {d : Nat} {st : List MV} {h : Hp} {x : Option A3} {a1 : Option MV} : Ev d 229 0 [some (vO x), a1] st h = Ev d 229 1 [some (vO x), a1] (vO x :: st) h := Rnx (hB_229) (dX7_makesRoom_0) rfl
set_option maxRecDepth 100000 in
theorem v229_1 {d : Nat} {ls : LS3} {st : List MV} {h : Hp} {a : A3} (hS : gS h a = (1, 7)) : Ev d 229 1 ls (vR a :: st) h = Ev d 229 4 ls (vI (gI h a 33) :: st) h := Rget hB_229 dX7_makesRoom_1 rfl (Or.inl hS)
theorem v229_4 {d : Nat} {ls : LS3} {st : List MV} {h : Hp} : Ev d 229 4 ls st h = Ev d 229 6 ls (vI 6 :: st) h := Rnx (hB_229) (dX7_makesRoom_4) rfl
theorem v229_6 {d : Nat} {ls : LS3} {st : List MV} {h : Hp} {x y : Int32} : Ev d 229 6 ls (vI y :: vI x :: st) h = if y ≤ x then Ev d 229 10 ls st h else Ev d 229 9 ls st h := Rif hB_229 dX7_makesRoom_6 rfl
theorem v229_9 {d : Nat} {ls : LS3} {h : Hp} : Ev d 229 9 ls [] h = some (.inl none, h) := Rdn hB_229 dX7_makesRoom_9 rfl
theorem v229_10 {d : Nat} {ls : LS3} {st : List MV} {h : Hp} : Ev d 229 10 ls st h = Ev d 229 11 ls (vI 0 :: st) h := Rnx (hB_229) (dX7_makesRoom_10) rfl
theorem v229_11 {d : Nat} {st : List MV} {h : Hp} {x : Int32} {a0 a1 : Option MV} : Ev d 229 11 [a0, a1] (vI x :: st) h = Ev d 229 12 [a0, some (vI x)] st h := Rnx (hB_229) (dX7_makesRoom_11) rfl
theorem v229_12 {d : Nat} {st : List MV} {h : Hp} {x : Int32} {a0 : Option MV} : Ev d 229 12 [a0, some (vI x)] st h = Ev d 229 13 [a0, some (vI x)] (vI x :: st) h := Rnx (hB_229) (dX7_makesRoom_12) rfl
theorem v229_13 {d : Nat} {ls : LS3} {st : List MV} {h : Hp} : Ev d 229 13 ls st h = Ev d 229 16 ls (vI 7845 :: st) h := Rnx (hB_229) (dX7_makesRoom_13) rfl
theorem v229_16 {d : Nat} {ls : LS3} {st : List MV} {h : Hp} {x y : Int32} : Ev d 229 16 ls (vI y :: vI x :: st) h = if y ≤ x then Ev d 229 41 ls st h else Ev d 229 19 ls st h := Rif hB_229 dX7_makesRoom_16 rfl
theorem v229_19 {d : Nat} {st : List MV} {h : Hp} {x : Option A3} {a1 : Option MV} : Ev d 229 19 [some (vO x), a1] st h = Ev d 229 20 [some (vO x), a1] (vO x :: st) h := Rnx (hB_229) (dX7_makesRoom_19) rfl
set_option maxRecDepth 100000 in
theorem v229_20 {d : Nat} {ls : LS3} {st : List MV} {h : Hp} {a : A3} (hS : gS h a = (1, 7)) : Ev d 229 20 ls (vR a :: st) h = Ev d 229 23 ls (vO (gR h a 30) :: st) h := Rget hB_229 dX7_makesRoom_20 rfl (Or.inl hS)
theorem v229_23 {d : Nat} {st : List MV} {h : Hp} {x : Int32} {a0 : Option MV} : Ev d 229 23 [a0, some (vI x)] st h = Ev d 229 24 [a0, some (vI x)] (vI x :: st) h := Rnx (hB_229) (dX7_makesRoom_23) rfl
theorem v229_24 {d : Nat} {st : List MV} {h : Hp} {x : Option A3} {a1 : Option MV} : Ev d 229 24 [some (vO x), a1] st h = Ev d 229 25 [some (vO x), a1] (vO x :: st) h := Rnx (hB_229) (dX7_makesRoom_24) rfl
set_option maxRecDepth 100000 in
theorem v229_25 {d : Nat} {ls : LS3} {st : List MV} {h : Hp} {a : A3} (hS : gS h a = (1, 7)) : Ev d 229 25 ls (vR a :: st) h = Ev d 229 28 ls (vO (gR h a 30) :: st) h := Rget hB_229 dX7_makesRoom_25 rfl (Or.inl hS)
theorem v229_28 {d : Nat} {st : List MV} {h : Hp} {x : Int32} {a0 : Option MV} : Ev d 229 28 [a0, some (vI x)] st h = Ev d 229 29 [a0, some (vI x)] (vI x :: st) h := Rnx (hB_229) (dX7_makesRoom_28) rfl
theorem v229_29 {d : Nat} {ls : LS3} {st : List MV} {h : Hp} : Ev d 229 29 ls st h = Ev d 229 32 ls (vI 1569 :: st) h := Rnx (hB_229) (dX7_makesRoom_29) rfl
theorem v229_32 {d : Nat} {ls : LS3} {st : List MV} {h : Hp} {x y : Int32} : Ev d 229 32 ls (vI y :: vI x :: st) h = Ev d 229 33 ls (vI (x + y) :: st) h := Rnx (hB_229) (dX7_makesRoom_32) rfl
theorem v229_33 {d : Nat} {ls : LS3} {st : List MV} {h : Hp} {a : A3} {j : Int32} (hS : (gS h a).1 ∈ [2, 9]) (hj : inB j (gS h a).2) : Ev d 229 33 ls (vI j :: vR a :: st) h = Ev d 229 34 ls (vI (gI h a j.toNatClampNeg) :: st) h := Rald (ks := [2, 9]) (f := fun a j => vI (gI h a j)) hB_229 dX7_makesRoom_33 rfl hS hj
theorem v229_34 {d : Nat} {ls : LS3} {st : List MV} {h : Hp} {a : A3} {j : Int32} {x : Int32} (hS : (gS h a).1 = 2) (hj : inB j (gS h a).2) : Ev d 229 34 ls (vI x :: vI j :: vR a :: st) h = Ev d 229 35 ls st (sI h a j.toNatClampNeg x) := RastI hB_229 dX7_makesRoom_34 hS hj
theorem v229_35 {d : Nat} {st : List MV} {h : Hp} {x : Int32} {a0 : Option MV} : Ev d 229 35 [a0, some (vI x)] st h = Ev d 229 38 [a0, some (vI (x + 1))] st h := Rnx (hB_229) (dX7_makesRoom_35) rfl
theorem v229_38 {d : Nat} {ls : LS3} {st : List MV} {h : Hp} : Ev d 229 38 ls st h = Ev d 229 12 ls st h := Rnx (hB_229) (dX7_makesRoom_38) rfl
theorem v229_41 {d : Nat} {st : List MV} {h : Hp} {x : Option A3} {a1 : Option MV} : Ev d 229 41 [some (vO x), a1] st h = Ev d 229 42 [some (vO x), a1] (vO x :: st) h := Rnx (hB_229) (dX7_makesRoom_41) rfl
theorem v229_42 {d : Nat} {ls : LS3} {st : List MV} {h : Hp} {v : MV} (hv : cat1 v = true) : Ev d 229 42 ls (v :: st) h = Ev d 229 43 ls (v :: v :: st) h := Rdup hB_229 dX7_makesRoom_42 hv
set_option maxRecDepth 100000 in
theorem v229_43 {d : Nat} {ls : LS3} {st : List MV} {h : Hp} {a : A3} (hS : gS h a = (1, 7)) : Ev d 229 43 ls (vR a :: st) h = Ev d 229 46 ls (vI (gI h a 33) :: st) h := Rget hB_229 dX7_makesRoom_43 rfl (Or.inl hS)
theorem v229_46 {d : Nat} {ls : LS3} {st : List MV} {h : Hp} : Ev d 229 46 ls st h = Ev d 229 47 ls (vI 1 :: st) h := Rnx (hB_229) (dX7_makesRoom_46) rfl
theorem v229_47 {d : Nat} {ls : LS3} {st : List MV} {h : Hp} {x y : Int32} : Ev d 229 47 ls (vI y :: vI x :: st) h = Ev d 229 48 ls (vI (x - y) :: st) h := Rnx (hB_229) (dX7_makesRoom_47) rfl
set_option maxRecDepth 100000 in
theorem v229_48 {d : Nat} {ls : LS3} {st : List MV} {h : Hp} {a : A3} {x : Int32} (hS : gS h a = (1, 7)) : Ev d 229 48 ls (vI x :: vR a :: st) h = Ev d 229 51 ls st (sI h a 33 x) := RputI hB_229 dX7_makesRoom_48 rfl rfl (by decide) hS (Or.inl rfl)
theorem v229_51 {d : Nat} {ls : LS3} {h : Hp} : Ev d 229 51 ls [] h = some (.inl none, h) := Rdn hB_229 dX7_makesRoom_51 rfl
theorem hB_230 : mB 230 = cX7_remembers := rfl
theorem v230_0 {d : Nat} {st : List MV} {h : Hp} {x : Option A3} : Ev d 230 0 [some (vO x)] st h = Ev d 230 1 [some (vO x)] (vO x :: st) h := Rnx (hB_230) (dX7_remembers_0) rfl
set_option maxRecDepth 100000 in
theorem v230_1 {d : Nat} {ls : LS3} {st : List MV} {h : Hp} {a : A3} (hS : gS h a = (1, 7)) : Ev d 230 1 ls (vR a :: st) h = Ev d 230 4 ls (vI (gI h a 37) :: st) h := Rget hB_230 dX7_remembers_1 rfl (Or.inl hS)
theorem v230_4 {d : Nat} {ls : LS3} {st : List MV} {h : Hp} {x : Int32} : Ev d 230 4 ls (vI x :: st) h = if x = 0 then Ev d 230 8 ls st h else Ev d 230 7 ls st h := Rif hB_230 dX7_remembers_4 rfl
theorem v230_7 {d : Nat} {ls : LS3} {h : Hp} : Ev d 230 7 ls [] h = some (.inl none, h) := Rdn hB_230 dX7_remembers_7 rfl
theorem v230_8 {d : Nat} {st : List MV} {h : Hp} {x : Option A3} : Ev d 230 8 [some (vO x)] st h = Ev d 230 9 [some (vO x)] (vO x :: st) h := Rnx (hB_230) (dX7_remembers_8) rfl
set_option maxRecDepth 100000 in
theorem v230_9 {d : Nat} {ls : LS3} {st : List MV} {h : Hp} {a : A3}  (hS : gS h a = (1, 7)) (hc : catS st ≤ 8) : Ev (d + 1) 230 9 ls (vR a :: st) h = Evk 229 (d + 1) 230 9 ls st (Ev d 229 0 [some (vR a), none] [] h) := RcallO (idx := 309) (n := 0) (kd := 0) (As' := []) hB_230 dX7_remembers_9 rfl rfl (by decide) rfl rfl (Or.inl hS) rfl hc
theorem v230_12 {d : Nat} {st : List MV} {h : Hp} {x : Option A3} : Ev d 230 12 [some (vO x)] st h = Ev d 230 13 [some (vO x)] (vO x :: st) h := Rnx (hB_230) (dX7_remembers_12) rfl
theorem v230_13 {d : Nat} {st : List MV} {h : Hp} {x : Option A3} : Ev d 230 13 [some (vO x)] st h = Ev d 230 14 [some (vO x)] (vO x :: st) h := Rnx (hB_230) (dX7_remembers_13) rfl
set_option maxRecDepth 100000 in
theorem v230_14 {d : Nat} {ls : LS3} {st : List MV} {h : Hp} {a : A3} (hS : gS h a = (1, 7)) : Ev d 230 14 ls (vR a :: st) h = Ev d 230 17 ls (vO (gR h a 30) :: st) h := Rget hB_230 dX7_remembers_14 rfl (Or.inl hS)
theorem v230_17 {d : Nat} {ls : LS3} {st : List MV} {h : Hp} : Ev d 230 17 ls st h = Ev d 230 20 ls (vI 1569 :: st) h := Rnx (hB_230) (dX7_remembers_17) rfl
theorem v230_20 {d : Nat} {st : List MV} {h : Hp} {x : Option A3} : Ev d 230 20 [some (vO x)] st h = Ev d 230 21 [some (vO x)] (vO x :: st) h := Rnx (hB_230) (dX7_remembers_20) rfl
set_option maxRecDepth 100000 in
theorem v230_21 {d : Nat} {ls : LS3} {st : List MV} {h : Hp} {a : A3} (hS : gS h a = (1, 7)) : Ev d 230 21 ls (vR a :: st) h = Ev d 230 24 ls (vI (gI h a 33) :: st) h := Rget hB_230 dX7_remembers_21 rfl (Or.inl hS)
theorem v230_24 {d : Nat} {ls : LS3} {st : List MV} {h : Hp} {x y : Int32} : Ev d 230 24 ls (vI y :: vI x :: st) h = Ev d 230 25 ls (vI (x * y) :: st) h := Rnx (hB_230) (dX7_remembers_24) rfl
theorem v230_25 {d : Nat} {ls : LS3} {st : List MV} {h : Hp} : Ev d 230 25 ls st h = Ev d 230 26 ls (vI 1 :: st) h := Rnx (hB_230) (dX7_remembers_25) rfl
set_option maxRecDepth 100000 in
theorem v230_26 {d : Nat} {ls : LS3} {st : List MV} {h : Hp} {a : A3} {o0 : Option A3} {x1 : Int32} {x2 : Int32} (hS : gS h a = (1, 7)) (hc : catS st ≤ 8) : Ev (d + 1) 230 26 ls (vI x2 :: vI x1 :: vO o0 :: vR a :: st) h = Evk 228 (d + 1) 230 26 ls st (Ev d 228 0 [some (vR a), some (vO o0), some (vI x1), some (vI x2)] [] h) := RcallO (idx := 298) (n := 3) (kd := 0) (As' := [vO o0, vI x1, vI x2]) hB_230 dX7_remembers_26 rfl rfl (by decide) rfl rfl (Or.inl hS) rfl hc
theorem v230_29 {d : Nat} {st : List MV} {h : Hp} {x : Option A3} : Ev d 230 29 [some (vO x)] st h = Ev d 230 30 [some (vO x)] (vO x :: st) h := Rnx (hB_230) (dX7_remembers_29) rfl
theorem v230_30 {d : Nat} {ls : LS3} {st : List MV} {h : Hp} {v : MV} (hv : cat1 v = true) : Ev d 230 30 ls (v :: st) h = Ev d 230 31 ls (v :: v :: st) h := Rdup hB_230 dX7_remembers_30 hv
set_option maxRecDepth 100000 in
theorem v230_31 {d : Nat} {ls : LS3} {st : List MV} {h : Hp} {a : A3} (hS : gS h a = (1, 7)) : Ev d 230 31 ls (vR a :: st) h = Ev d 230 34 ls (vI (gI h a 33) :: st) h := Rget hB_230 dX7_remembers_31 rfl (Or.inl hS)
theorem v230_34 {d : Nat} {ls : LS3} {st : List MV} {h : Hp} : Ev d 230 34 ls st h = Ev d 230 35 ls (vI 1 :: st) h := Rnx (hB_230) (dX7_remembers_34) rfl
theorem v230_35 {d : Nat} {ls : LS3} {st : List MV} {h : Hp} {x y : Int32} : Ev d 230 35 ls (vI y :: vI x :: st) h = Ev d 230 36 ls (vI (x + y) :: st) h := Rnx (hB_230) (dX7_remembers_35) rfl
set_option maxRecDepth 100000 in
theorem v230_36 {d : Nat} {ls : LS3} {st : List MV} {h : Hp} {a : A3} {x : Int32} (hS : gS h a = (1, 7)) : Ev d 230 36 ls (vI x :: vR a :: st) h = Ev d 230 39 ls st (sI h a 33 x) := RputI hB_230 dX7_remembers_36 rfl rfl (by decide) hS (Or.inl rfl)
theorem v230_39 {d : Nat} {ls : LS3} {h : Hp} : Ev d 230 39 ls [] h = some (.inl none, h) := Rdn hB_230 dX7_remembers_39 rfl
theorem hB_231 : mB 231 = cX7_undo := rfl
theorem v231_0 {d : Nat} {st : List MV} {h : Hp} {x : Option A3} : Ev d 231 0 [some (vO x)] st h = Ev d 231 1 [some (vO x)] (vO x :: st) h := Rnx (hB_231) (dX7_undo_0) rfl
set_option maxRecDepth 100000 in
theorem v231_1 {d : Nat} {ls : LS3} {st : List MV} {h : Hp} {a : A3} (hS : gS h a = (1, 7)) : Ev d 231 1 ls (vR a :: st) h = Ev d 231 4 ls (vI (gI h a 33) :: st) h := Rget hB_231 dX7_undo_1 rfl (Or.inl hS)
theorem v231_4 {d : Nat} {ls : LS3} {st : List MV} {h : Hp} {x : Int32} : Ev d 231 4 ls (vI x :: st) h = if x = 0 then Ev d 231 7 ls st h else Ev d 231 13 ls st h := Rifn hB_231 dX7_undo_4 rfl
theorem v231_7 {d : Nat} {st : List MV} {h : Hp} {x : Option A3} : Ev d 231 7 [some (vO x)] st h = Ev d 231 8 [some (vO x)] (vO x :: st) h := Rnx (hB_231) (dX7_undo_7) rfl
theorem v231_8 {d : Nat} {ls : LS3} {st : List MV} {h : Hp} : Ev d 231 8 ls st h = Ev d 231 9 ls (vI 1 :: st) h := Rnx (hB_231) (dX7_undo_8) rfl
set_option maxRecDepth 100000 in
theorem v231_9 {d : Nat} {ls : LS3} {st : List MV} {h : Hp} {a : A3} {x0 : Int32} (hS : gS h a = (1, 7)) (hc : catS st ≤ 8) : Ev (d + 1) 231 9 ls (vI x0 :: vR a :: st) h = Evk 141 (d + 1) 231 9 ls st (Ev d 141 0 [some (vR a), some (vI x0)] [] h) := RcallO (idx := 168) (n := 1) (kd := 0) (As' := [vI x0]) hB_231 dX7_undo_9 rfl rfl (by decide) rfl rfl (Or.inl hS) rfl hc
theorem v231_12 {d : Nat} {ls : LS3} {h : Hp} {x : Int32} : Ev d 231 12 ls [vI x] h = some (.inl (some (vI x)), h) := Rdn hB_231 dX7_undo_12 rfl
theorem v231_13 {d : Nat} {st : List MV} {h : Hp} {x : Option A3} : Ev d 231 13 [some (vO x)] st h = Ev d 231 14 [some (vO x)] (vO x :: st) h := Rnx (hB_231) (dX7_undo_13) rfl
theorem v231_14 {d : Nat} {ls : LS3} {st : List MV} {h : Hp} : Ev d 231 14 ls st h = Ev d 231 15 ls (vI 0 :: st) h := Rnx (hB_231) (dX7_undo_14) rfl
set_option maxRecDepth 100000 in
theorem v231_15 {d : Nat} {ls : LS3} {st : List MV} {h : Hp} {a : A3} {x : Int32} (hS : gS h a = (1, 7)) : Ev d 231 15 ls (vI x :: vR a :: st) h = Ev d 231 18 ls st (sI h a 0 x) := RputI hB_231 dX7_undo_15 rfl rfl (by decide) hS (Or.inl rfl)
theorem v231_18 {d : Nat} {st : List MV} {h : Hp} {x : Option A3} : Ev d 231 18 [some (vO x)] st h = Ev d 231 19 [some (vO x)] (vO x :: st) h := Rnx (hB_231) (dX7_undo_18) rfl
theorem v231_19 {d : Nat} {ls : LS3} {st : List MV} {h : Hp} {v : MV} (hv : cat1 v = true) : Ev d 231 19 ls (v :: st) h = Ev d 231 20 ls (v :: v :: st) h := Rdup hB_231 dX7_undo_19 hv
set_option maxRecDepth 100000 in
theorem v231_20 {d : Nat} {ls : LS3} {st : List MV} {h : Hp} {a : A3} (hS : gS h a = (1, 7)) : Ev d 231 20 ls (vR a :: st) h = Ev d 231 23 ls (vI (gI h a 33) :: st) h := Rget hB_231 dX7_undo_20 rfl (Or.inl hS)
theorem v231_23 {d : Nat} {ls : LS3} {st : List MV} {h : Hp} : Ev d 231 23 ls st h = Ev d 231 24 ls (vI 1 :: st) h := Rnx (hB_231) (dX7_undo_23) rfl
theorem v231_24 {d : Nat} {ls : LS3} {st : List MV} {h : Hp} {x y : Int32} : Ev d 231 24 ls (vI y :: vI x :: st) h = Ev d 231 25 ls (vI (x - y) :: st) h := Rnx (hB_231) (dX7_undo_24) rfl
set_option maxRecDepth 100000 in
theorem v231_25 {d : Nat} {ls : LS3} {st : List MV} {h : Hp} {a : A3} {x : Int32} (hS : gS h a = (1, 7)) : Ev d 231 25 ls (vI x :: vR a :: st) h = Ev d 231 28 ls st (sI h a 33 x) := RputI hB_231 dX7_undo_25 rfl rfl (by decide) hS (Or.inl rfl)
theorem v231_28 {d : Nat} {st : List MV} {h : Hp} {x : Option A3} : Ev d 231 28 [some (vO x)] st h = Ev d 231 29 [some (vO x)] (vO x :: st) h := Rnx (hB_231) (dX7_undo_28) rfl
theorem v231_29 {d : Nat} {st : List MV} {h : Hp} {x : Option A3} : Ev d 231 29 [some (vO x)] st h = Ev d 231 30 [some (vO x)] (vO x :: st) h := Rnx (hB_231) (dX7_undo_29) rfl
set_option maxRecDepth 100000 in
theorem v231_30 {d : Nat} {ls : LS3} {st : List MV} {h : Hp} {a : A3} (hS : gS h a = (1, 7)) : Ev d 231 30 ls (vR a :: st) h = Ev d 231 33 ls (vO (gR h a 30) :: st) h := Rget hB_231 dX7_undo_30 rfl (Or.inl hS)
theorem v231_33 {d : Nat} {ls : LS3} {st : List MV} {h : Hp} : Ev d 231 33 ls st h = Ev d 231 36 ls (vI 1569 :: st) h := Rnx (hB_231) (dX7_undo_33) rfl
theorem v231_36 {d : Nat} {st : List MV} {h : Hp} {x : Option A3} : Ev d 231 36 [some (vO x)] st h = Ev d 231 37 [some (vO x)] (vO x :: st) h := Rnx (hB_231) (dX7_undo_36) rfl
set_option maxRecDepth 100000 in
theorem v231_37 {d : Nat} {ls : LS3} {st : List MV} {h : Hp} {a : A3} (hS : gS h a = (1, 7)) : Ev d 231 37 ls (vR a :: st) h = Ev d 231 40 ls (vI (gI h a 33) :: st) h := Rget hB_231 dX7_undo_37 rfl (Or.inl hS)
theorem v231_40 {d : Nat} {ls : LS3} {st : List MV} {h : Hp} {x y : Int32} : Ev d 231 40 ls (vI y :: vI x :: st) h = Ev d 231 41 ls (vI (x * y) :: st) h := Rnx (hB_231) (dX7_undo_40) rfl
theorem v231_41 {d : Nat} {ls : LS3} {st : List MV} {h : Hp} : Ev d 231 41 ls st h = Ev d 231 42 ls (vI 0 :: st) h := Rnx (hB_231) (dX7_undo_41) rfl
set_option maxRecDepth 100000 in
theorem v231_42 {d : Nat} {ls : LS3} {st : List MV} {h : Hp} {a : A3} {o0 : Option A3} {x1 : Int32} {x2 : Int32} (hS : gS h a = (1, 7)) (hc : catS st ≤ 8) : Ev (d + 1) 231 42 ls (vI x2 :: vI x1 :: vO o0 :: vR a :: st) h = Evk 228 (d + 1) 231 42 ls st (Ev d 228 0 [some (vR a), some (vO o0), some (vI x1), some (vI x2)] [] h) := RcallO (idx := 298) (n := 3) (kd := 0) (As' := [vO o0, vI x1, vI x2]) hB_231 dX7_undo_42 rfl rfl (by decide) rfl rfl (Or.inl hS) rfl hc
theorem v231_45 {d : Nat} {st : List MV} {h : Hp} {x : Option A3} : Ev d 231 45 [some (vO x)] st h = Ev d 231 46 [some (vO x)] (vO x :: st) h := Rnx (hB_231) (dX7_undo_45) rfl
set_option maxRecDepth 100000 in
theorem v231_46 {d : Nat} {ls : LS3} {st : List MV} {h : Hp} {a : A3} (hS : gS h a = (1, 7)) : Ev d 231 46 ls (vR a :: st) h = Ev d 231 49 ls (vI (gI h a 33) :: st) h := Rget hB_231 dX7_undo_46 rfl (Or.inl hS)
theorem v231_49 {d : Nat} {ls : LS3} {h : Hp} {x : Int32} : Ev d 231 49 ls [vI x] h = some (.inl (some (vI x)), h) := Rdn hB_231 dX7_undo_49 rfl
theorem hB_232 : mB 232 = cX7_save := rfl
theorem v232_0 {d : Nat} {st : List MV} {h : Hp} {x : Option A3} : Ev d 232 0 [some (vO x)] st h = Ev d 232 1 [some (vO x)] (vO x :: st) h := Rnx (hB_232) (dX7_save_0) rfl
theorem v232_1 {d : Nat} {ls : LS3} {st : List MV} {h : Hp} : Ev d 232 1 ls st h = Ev d 232 2 ls (vI 0 :: st) h := Rnx (hB_232) (dX7_save_1) rfl
set_option maxRecDepth 100000 in
theorem v232_2 {d : Nat} {ls : LS3} {st : List MV} {h : Hp} {a : A3} {x : Int32} (hS : gS h a = (1, 7)) : Ev d 232 2 ls (vI x :: vR a :: st) h = Ev d 232 5 ls st (sI h a 0 x) := RputI hB_232 dX7_save_2 rfl rfl (by decide) hS (Or.inl rfl)
theorem v232_5 {d : Nat} {st : List MV} {h : Hp} {x : Option A3} : Ev d 232 5 [some (vO x)] st h = Ev d 232 6 [some (vO x)] (vO x :: st) h := Rnx (hB_232) (dX7_save_5) rfl
theorem v232_6 {d : Nat} {ls : LS3} {st : List MV} {h : Hp} : Ev d 232 6 ls st h = Ev d 232 7 ls (vI 1 :: st) h := Rnx (hB_232) (dX7_save_6) rfl
set_option maxRecDepth 100000 in
theorem v232_7 {d : Nat} {ls : LS3} {st : List MV} {h : Hp} {a : A3} {x : Int32} (hS : gS h a = (1, 7)) (hx : x = 0 ∨ x = 1) : Ev d 232 7 ls (vI x :: vR a :: st) h = Ev d 232 10 ls st (sI h a 35 x) := RputI hB_232 dX7_save_7 rfl rfl (by decide) hS (Or.inr ⟨rfl, hx⟩)
theorem v232_10 {d : Nat} {st : List MV} {h : Hp} {x : Option A3} : Ev d 232 10 [some (vO x)] st h = Ev d 232 11 [some (vO x)] (vO x :: st) h := Rnx (hB_232) (dX7_save_10) rfl
theorem v232_11 {d : Nat} {st : List MV} {h : Hp} {x : Option A3} : Ev d 232 11 [some (vO x)] st h = Ev d 232 12 [some (vO x)] (vO x :: st) h := Rnx (hB_232) (dX7_save_11) rfl
set_option maxRecDepth 100000 in
theorem v232_12 {d : Nat} {ls : LS3} {st : List MV} {h : Hp} {a : A3} (hS : gS h a = (1, 7)) : Ev d 232 12 ls (vR a :: st) h = Ev d 232 15 ls (vO (gR h a 31) :: st) h := Rget hB_232 dX7_save_12 rfl (Or.inl hS)
theorem v232_15 {d : Nat} {ls : LS3} {st : List MV} {h : Hp} : Ev d 232 15 ls st h = Ev d 232 16 ls (vI 0 :: st) h := Rnx (hB_232) (dX7_save_15) rfl
theorem v232_16 {d : Nat} {ls : LS3} {st : List MV} {h : Hp} : Ev d 232 16 ls st h = Ev d 232 17 ls (vI 1 :: st) h := Rnx (hB_232) (dX7_save_16) rfl
set_option maxRecDepth 100000 in
theorem v232_17 {d : Nat} {ls : LS3} {st : List MV} {h : Hp} {a : A3} {o0 : Option A3} {x1 : Int32} {x2 : Int32} (hS : gS h a = (1, 7)) (hc : catS st ≤ 8) : Ev (d + 1) 232 17 ls (vI x2 :: vI x1 :: vO o0 :: vR a :: st) h = Evk 228 (d + 1) 232 17 ls st (Ev d 228 0 [some (vR a), some (vO o0), some (vI x1), some (vI x2)] [] h) := RcallO (idx := 298) (n := 3) (kd := 0) (As' := [vO o0, vI x1, vI x2]) hB_232 dX7_save_17 rfl rfl (by decide) rfl rfl (Or.inl hS) rfl hc
theorem v232_20 {d : Nat} {st : List MV} {h : Hp} {x : Option A3} : Ev d 232 20 [some (vO x)] st h = Ev d 232 21 [some (vO x)] (vO x :: st) h := Rnx (hB_232) (dX7_save_20) rfl
set_option maxRecDepth 100000 in
theorem v232_21 {d : Nat} {ls : LS3} {st : List MV} {h : Hp} {a : A3} (hS : gS h a = (1, 7)) : Ev d 232 21 ls (vR a :: st) h = Ev d 232 24 ls (vI (gI h a 19) :: st) h := Rget hB_232 dX7_save_21 rfl (Or.inl hS)
theorem v232_24 {d : Nat} {ls : LS3} {h : Hp} {x : Int32} : Ev d 232 24 ls [vI x] h = some (.inl (some (vI x)), h) := Rdn hB_232 dX7_save_24 rfl
theorem hB_233 : mB 233 = cX7_restore := rfl
theorem v233_0 {d : Nat} {st : List MV} {h : Hp} {x : Option A3} : Ev d 233 0 [some (vO x)] st h = Ev d 233 1 [some (vO x)] (vO x :: st) h := Rnx (hB_233) (dX7_restore_0) rfl
set_option maxRecDepth 100000 in
theorem v233_1 {d : Nat} {ls : LS3} {st : List MV} {h : Hp} {a : A3} (hS : gS h a = (1, 7)) : Ev d 233 1 ls (vR a :: st) h = Ev d 233 4 ls (vI (gI h a 35) :: st) h := Rget hB_233 dX7_restore_1 rfl (Or.inl hS)
theorem v233_4 {d : Nat} {ls : LS3} {st : List MV} {h : Hp} {x : Int32} : Ev d 233 4 ls (vI x :: st) h = if x = 0 then Ev d 233 7 ls st h else Ev d 233 13 ls st h := Rifn hB_233 dX7_restore_4 rfl
theorem v233_7 {d : Nat} {st : List MV} {h : Hp} {x : Option A3} : Ev d 233 7 [some (vO x)] st h = Ev d 233 8 [some (vO x)] (vO x :: st) h := Rnx (hB_233) (dX7_restore_7) rfl
theorem v233_8 {d : Nat} {ls : LS3} {st : List MV} {h : Hp} : Ev d 233 8 ls st h = Ev d 233 9 ls (vI 1 :: st) h := Rnx (hB_233) (dX7_restore_8) rfl
set_option maxRecDepth 100000 in
theorem v233_9 {d : Nat} {ls : LS3} {st : List MV} {h : Hp} {a : A3} {x0 : Int32} (hS : gS h a = (1, 7)) (hc : catS st ≤ 8) : Ev (d + 1) 233 9 ls (vI x0 :: vR a :: st) h = Evk 141 (d + 1) 233 9 ls st (Ev d 141 0 [some (vR a), some (vI x0)] [] h) := RcallO (idx := 168) (n := 1) (kd := 0) (As' := [vI x0]) hB_233 dX7_restore_9 rfl rfl (by decide) rfl rfl (Or.inl hS) rfl hc
theorem v233_12 {d : Nat} {ls : LS3} {h : Hp} {x : Int32} : Ev d 233 12 ls [vI x] h = some (.inl (some (vI x)), h) := Rdn hB_233 dX7_restore_12 rfl
theorem v233_13 {d : Nat} {st : List MV} {h : Hp} {x : Option A3} : Ev d 233 13 [some (vO x)] st h = Ev d 233 14 [some (vO x)] (vO x :: st) h := Rnx (hB_233) (dX7_restore_13) rfl
theorem v233_14 {d : Nat} {ls : LS3} {st : List MV} {h : Hp} : Ev d 233 14 ls st h = Ev d 233 15 ls (vI 0 :: st) h := Rnx (hB_233) (dX7_restore_14) rfl
set_option maxRecDepth 100000 in
theorem v233_15 {d : Nat} {ls : LS3} {st : List MV} {h : Hp} {a : A3} {x : Int32} (hS : gS h a = (1, 7)) : Ev d 233 15 ls (vI x :: vR a :: st) h = Ev d 233 18 ls st (sI h a 0 x) := RputI hB_233 dX7_restore_15 rfl rfl (by decide) hS (Or.inl rfl)
theorem v233_18 {d : Nat} {st : List MV} {h : Hp} {x : Option A3} : Ev d 233 18 [some (vO x)] st h = Ev d 233 19 [some (vO x)] (vO x :: st) h := Rnx (hB_233) (dX7_restore_18) rfl
theorem v233_19 {d : Nat} {st : List MV} {h : Hp} {x : Option A3} : Ev d 233 19 [some (vO x)] st h = Ev d 233 20 [some (vO x)] (vO x :: st) h := Rnx (hB_233) (dX7_restore_19) rfl
set_option maxRecDepth 100000 in
theorem v233_20 {d : Nat} {ls : LS3} {st : List MV} {h : Hp} {a : A3} (hS : gS h a = (1, 7)) : Ev d 233 20 ls (vR a :: st) h = Ev d 233 23 ls (vO (gR h a 31) :: st) h := Rget hB_233 dX7_restore_20 rfl (Or.inl hS)
theorem v233_23 {d : Nat} {ls : LS3} {st : List MV} {h : Hp} : Ev d 233 23 ls st h = Ev d 233 24 ls (vI 0 :: st) h := Rnx (hB_233) (dX7_restore_23) rfl
theorem v233_24 {d : Nat} {ls : LS3} {st : List MV} {h : Hp} : Ev d 233 24 ls st h = Ev d 233 25 ls (vI 0 :: st) h := Rnx (hB_233) (dX7_restore_24) rfl
set_option maxRecDepth 100000 in
theorem v233_25 {d : Nat} {ls : LS3} {st : List MV} {h : Hp} {a : A3} {o0 : Option A3} {x1 : Int32} {x2 : Int32} (hS : gS h a = (1, 7)) (hc : catS st ≤ 8) : Ev (d + 1) 233 25 ls (vI x2 :: vI x1 :: vO o0 :: vR a :: st) h = Evk 228 (d + 1) 233 25 ls st (Ev d 228 0 [some (vR a), some (vO o0), some (vI x1), some (vI x2)] [] h) := RcallO (idx := 298) (n := 3) (kd := 0) (As' := [vO o0, vI x1, vI x2]) hB_233 dX7_restore_25 rfl rfl (by decide) rfl rfl (Or.inl hS) rfl hc
theorem v233_28 {d : Nat} {st : List MV} {h : Hp} {x : Option A3} : Ev d 233 28 [some (vO x)] st h = Ev d 233 29 [some (vO x)] (vO x :: st) h := Rnx (hB_233) (dX7_restore_28) rfl
theorem v233_29 {d : Nat} {ls : LS3} {st : List MV} {h : Hp} : Ev d 233 29 ls st h = Ev d 233 30 ls (vI 0 :: st) h := Rnx (hB_233) (dX7_restore_29) rfl
set_option maxRecDepth 100000 in
theorem v233_30 {d : Nat} {ls : LS3} {st : List MV} {h : Hp} {a : A3} {x : Int32} (hS : gS h a = (1, 7)) : Ev d 233 30 ls (vI x :: vR a :: st) h = Ev d 233 33 ls st (sI h a 33 x) := RputI hB_233 dX7_restore_30 rfl rfl (by decide) hS (Or.inl rfl)
theorem v233_33 {d : Nat} {st : List MV} {h : Hp} {x : Option A3} : Ev d 233 33 [some (vO x)] st h = Ev d 233 34 [some (vO x)] (vO x :: st) h := Rnx (hB_233) (dX7_restore_33) rfl
set_option maxRecDepth 100000 in
theorem v233_34 {d : Nat} {ls : LS3} {st : List MV} {h : Hp} {a : A3} (hS : gS h a = (1, 7)) : Ev d 233 34 ls (vR a :: st) h = Ev d 233 37 ls (vI (gI h a 19) :: st) h := Rget hB_233 dX7_restore_34 rfl (Or.inl hS)
theorem v233_37 {d : Nat} {ls : LS3} {h : Hp} {x : Int32} : Ev d 233 37 ls [vI x] h = some (.inl (some (vI x)), h) := Rdn hB_233 dX7_restore_37 rfl
theorem hB_234 : mB 234 = cJ6_bitCount_0f7a4 := rfl
theorem v234_0 {d : Nat} {st : List MV} {h : Hp} {x : Int32} : Ev d 234 0 [some (vI x)] st h = Ev d 234 1 [some (vI x)] (vI x :: st) h := Rnx (hB_234) (dJ6_bitCount_0f7a4_0) rfl
theorem v234_1 {d : Nat} {st : List MV} {h : Hp} {x : Int32} : Ev d 234 1 [some (vI x)] st h = Ev d 234 2 [some (vI x)] (vI x :: st) h := Rnx (hB_234) (dJ6_bitCount_0f7a4_1) rfl
theorem v234_2 {d : Nat} {ls : LS3} {st : List MV} {h : Hp} : Ev d 234 2 ls st h = Ev d 234 3 ls (vI 1 :: st) h := Rnx (hB_234) (dJ6_bitCount_0f7a4_2) rfl
theorem v234_3 {d : Nat} {ls : LS3} {st : List MV} {h : Hp} {x y : Int32} : Ev d 234 3 ls (vI y :: vI x :: st) h = Ev d 234 4 ls (vI (x.toUInt32 >>> (y.toUInt32 &&& Int32.toUInt32 31)).toInt32 :: st) h := Rnx (hB_234) (dJ6_bitCount_0f7a4_3) rfl
theorem v234_4 {d : Nat} {ls : LS3} {st : List MV} {h : Hp} : Ev d 234 4 ls st h = Ev d 234 7 ls (vI 1431655765 :: st) h := Rnx (hB_234) (dJ6_bitCount_0f7a4_4) rfl
theorem v234_7 {d : Nat} {ls : LS3} {st : List MV} {h : Hp} {x y : Int32} : Ev d 234 7 ls (vI y :: vI x :: st) h = Ev d 234 8 ls (vI (x &&& y) :: st) h := Rnx (hB_234) (dJ6_bitCount_0f7a4_7) rfl
theorem v234_8 {d : Nat} {ls : LS3} {st : List MV} {h : Hp} {x y : Int32} : Ev d 234 8 ls (vI y :: vI x :: st) h = Ev d 234 9 ls (vI (x - y) :: st) h := Rnx (hB_234) (dJ6_bitCount_0f7a4_8) rfl
theorem v234_9 {d : Nat} {st : List MV} {h : Hp} {x : Int32} {a0 : Option MV} : Ev d 234 9 [a0] (vI x :: st) h = Ev d 234 10 [some (vI x)] st h := Rnx (hB_234) (dJ6_bitCount_0f7a4_9) rfl
theorem v234_10 {d : Nat} {st : List MV} {h : Hp} {x : Int32} : Ev d 234 10 [some (vI x)] st h = Ev d 234 11 [some (vI x)] (vI x :: st) h := Rnx (hB_234) (dJ6_bitCount_0f7a4_10) rfl
theorem v234_11 {d : Nat} {ls : LS3} {st : List MV} {h : Hp} : Ev d 234 11 ls st h = Ev d 234 14 ls (vI 858993459 :: st) h := Rnx (hB_234) (dJ6_bitCount_0f7a4_11) rfl
theorem v234_14 {d : Nat} {ls : LS3} {st : List MV} {h : Hp} {x y : Int32} : Ev d 234 14 ls (vI y :: vI x :: st) h = Ev d 234 15 ls (vI (x &&& y) :: st) h := Rnx (hB_234) (dJ6_bitCount_0f7a4_14) rfl
theorem v234_15 {d : Nat} {st : List MV} {h : Hp} {x : Int32} : Ev d 234 15 [some (vI x)] st h = Ev d 234 16 [some (vI x)] (vI x :: st) h := Rnx (hB_234) (dJ6_bitCount_0f7a4_15) rfl
theorem v234_16 {d : Nat} {ls : LS3} {st : List MV} {h : Hp} : Ev d 234 16 ls st h = Ev d 234 17 ls (vI 2 :: st) h := Rnx (hB_234) (dJ6_bitCount_0f7a4_16) rfl
theorem v234_17 {d : Nat} {ls : LS3} {st : List MV} {h : Hp} {x y : Int32} : Ev d 234 17 ls (vI y :: vI x :: st) h = Ev d 234 18 ls (vI (x.toUInt32 >>> (y.toUInt32 &&& Int32.toUInt32 31)).toInt32 :: st) h := Rnx (hB_234) (dJ6_bitCount_0f7a4_17) rfl
theorem v234_18 {d : Nat} {ls : LS3} {st : List MV} {h : Hp} : Ev d 234 18 ls st h = Ev d 234 21 ls (vI 858993459 :: st) h := Rnx (hB_234) (dJ6_bitCount_0f7a4_18) rfl
theorem v234_21 {d : Nat} {ls : LS3} {st : List MV} {h : Hp} {x y : Int32} : Ev d 234 21 ls (vI y :: vI x :: st) h = Ev d 234 22 ls (vI (x &&& y) :: st) h := Rnx (hB_234) (dJ6_bitCount_0f7a4_21) rfl
theorem v234_22 {d : Nat} {ls : LS3} {st : List MV} {h : Hp} {x y : Int32} : Ev d 234 22 ls (vI y :: vI x :: st) h = Ev d 234 23 ls (vI (x + y) :: st) h := Rnx (hB_234) (dJ6_bitCount_0f7a4_22) rfl
theorem v234_23 {d : Nat} {st : List MV} {h : Hp} {x : Int32} {a0 : Option MV} : Ev d 234 23 [a0] (vI x :: st) h = Ev d 234 24 [some (vI x)] st h := Rnx (hB_234) (dJ6_bitCount_0f7a4_23) rfl
theorem v234_24 {d : Nat} {st : List MV} {h : Hp} {x : Int32} : Ev d 234 24 [some (vI x)] st h = Ev d 234 25 [some (vI x)] (vI x :: st) h := Rnx (hB_234) (dJ6_bitCount_0f7a4_24) rfl
theorem v234_25 {d : Nat} {st : List MV} {h : Hp} {x : Int32} : Ev d 234 25 [some (vI x)] st h = Ev d 234 26 [some (vI x)] (vI x :: st) h := Rnx (hB_234) (dJ6_bitCount_0f7a4_25) rfl
theorem v234_26 {d : Nat} {ls : LS3} {st : List MV} {h : Hp} : Ev d 234 26 ls st h = Ev d 234 27 ls (vI 4 :: st) h := Rnx (hB_234) (dJ6_bitCount_0f7a4_26) rfl
theorem v234_27 {d : Nat} {ls : LS3} {st : List MV} {h : Hp} {x y : Int32} : Ev d 234 27 ls (vI y :: vI x :: st) h = Ev d 234 28 ls (vI (x.toUInt32 >>> (y.toUInt32 &&& Int32.toUInt32 31)).toInt32 :: st) h := Rnx (hB_234) (dJ6_bitCount_0f7a4_27) rfl
theorem v234_28 {d : Nat} {ls : LS3} {st : List MV} {h : Hp} {x y : Int32} : Ev d 234 28 ls (vI y :: vI x :: st) h = Ev d 234 29 ls (vI (x + y) :: st) h := Rnx (hB_234) (dJ6_bitCount_0f7a4_28) rfl
theorem v234_29 {d : Nat} {ls : LS3} {st : List MV} {h : Hp} : Ev d 234 29 ls st h = Ev d 234 32 ls (vI 252645135 :: st) h := Rnx (hB_234) (dJ6_bitCount_0f7a4_29) rfl
theorem v234_32 {d : Nat} {ls : LS3} {st : List MV} {h : Hp} {x y : Int32} : Ev d 234 32 ls (vI y :: vI x :: st) h = Ev d 234 33 ls (vI (x &&& y) :: st) h := Rnx (hB_234) (dJ6_bitCount_0f7a4_32) rfl
theorem v234_33 {d : Nat} {st : List MV} {h : Hp} {x : Int32} {a0 : Option MV} : Ev d 234 33 [a0] (vI x :: st) h = Ev d 234 34 [some (vI x)] st h := Rnx (hB_234) (dJ6_bitCount_0f7a4_33) rfl
theorem v234_34 {d : Nat} {st : List MV} {h : Hp} {x : Int32} : Ev d 234 34 [some (vI x)] st h = Ev d 234 35 [some (vI x)] (vI x :: st) h := Rnx (hB_234) (dJ6_bitCount_0f7a4_34) rfl
theorem v234_35 {d : Nat} {st : List MV} {h : Hp} {x : Int32} : Ev d 234 35 [some (vI x)] st h = Ev d 234 36 [some (vI x)] (vI x :: st) h := Rnx (hB_234) (dJ6_bitCount_0f7a4_35) rfl
theorem v234_36 {d : Nat} {ls : LS3} {st : List MV} {h : Hp} : Ev d 234 36 ls st h = Ev d 234 38 ls (vI 8 :: st) h := Rnx (hB_234) (dJ6_bitCount_0f7a4_36) rfl
theorem v234_38 {d : Nat} {ls : LS3} {st : List MV} {h : Hp} {x y : Int32} : Ev d 234 38 ls (vI y :: vI x :: st) h = Ev d 234 39 ls (vI (x.toUInt32 >>> (y.toUInt32 &&& Int32.toUInt32 31)).toInt32 :: st) h := Rnx (hB_234) (dJ6_bitCount_0f7a4_38) rfl
theorem v234_39 {d : Nat} {ls : LS3} {st : List MV} {h : Hp} {x y : Int32} : Ev d 234 39 ls (vI y :: vI x :: st) h = Ev d 234 40 ls (vI (x + y) :: st) h := Rnx (hB_234) (dJ6_bitCount_0f7a4_39) rfl
theorem v234_40 {d : Nat} {st : List MV} {h : Hp} {x : Int32} {a0 : Option MV} : Ev d 234 40 [a0] (vI x :: st) h = Ev d 234 41 [some (vI x)] st h := Rnx (hB_234) (dJ6_bitCount_0f7a4_40) rfl
theorem v234_41 {d : Nat} {st : List MV} {h : Hp} {x : Int32} : Ev d 234 41 [some (vI x)] st h = Ev d 234 42 [some (vI x)] (vI x :: st) h := Rnx (hB_234) (dJ6_bitCount_0f7a4_41) rfl
theorem v234_42 {d : Nat} {st : List MV} {h : Hp} {x : Int32} : Ev d 234 42 [some (vI x)] st h = Ev d 234 43 [some (vI x)] (vI x :: st) h := Rnx (hB_234) (dJ6_bitCount_0f7a4_42) rfl
theorem v234_43 {d : Nat} {ls : LS3} {st : List MV} {h : Hp} : Ev d 234 43 ls st h = Ev d 234 45 ls (vI 16 :: st) h := Rnx (hB_234) (dJ6_bitCount_0f7a4_43) rfl
theorem v234_45 {d : Nat} {ls : LS3} {st : List MV} {h : Hp} {x y : Int32} : Ev d 234 45 ls (vI y :: vI x :: st) h = Ev d 234 46 ls (vI (x.toUInt32 >>> (y.toUInt32 &&& Int32.toUInt32 31)).toInt32 :: st) h := Rnx (hB_234) (dJ6_bitCount_0f7a4_45) rfl
theorem v234_46 {d : Nat} {ls : LS3} {st : List MV} {h : Hp} {x y : Int32} : Ev d 234 46 ls (vI y :: vI x :: st) h = Ev d 234 47 ls (vI (x + y) :: st) h := Rnx (hB_234) (dJ6_bitCount_0f7a4_46) rfl
theorem v234_47 {d : Nat} {st : List MV} {h : Hp} {x : Int32} {a0 : Option MV} : Ev d 234 47 [a0] (vI x :: st) h = Ev d 234 48 [some (vI x)] st h := Rnx (hB_234) (dJ6_bitCount_0f7a4_47) rfl
theorem v234_48 {d : Nat} {st : List MV} {h : Hp} {x : Int32} : Ev d 234 48 [some (vI x)] st h = Ev d 234 49 [some (vI x)] (vI x :: st) h := Rnx (hB_234) (dJ6_bitCount_0f7a4_48) rfl
theorem v234_49 {d : Nat} {ls : LS3} {st : List MV} {h : Hp} : Ev d 234 49 ls st h = Ev d 234 51 ls (vI 63 :: st) h := Rnx (hB_234) (dJ6_bitCount_0f7a4_49) rfl
theorem v234_51 {d : Nat} {ls : LS3} {st : List MV} {h : Hp} {x y : Int32} : Ev d 234 51 ls (vI y :: vI x :: st) h = Ev d 234 52 ls (vI (x &&& y) :: st) h := Rnx (hB_234) (dJ6_bitCount_0f7a4_51) rfl
theorem v234_52 {d : Nat} {ls : LS3} {h : Hp} {x : Int32} : Ev d 234 52 ls [vI x] h = some (.inl (some (vI x)), h) := Rdn hB_234 dJ6_bitCount_0f7a4_52 rfl
theorem hB_235 : mB 235 = cJ0_length_8abf5 := rfl
theorem v235_0 {d : Nat} {st : List MV} {h : Hp} {x : Option A3} : Ev d 235 0 [some (vO x)] st h = Ev d 235 1 [some (vO x)] (vO x :: st) h := Rnx (hB_235) (dJ0_length_8abf5_0) rfl
set_option maxRecDepth 100000 in
theorem v235_1 {d : Nat} {ls : LS3} {st : List MV} {h : Hp} {a : A3} (hS : gS h a = (11, 10)) : Ev d 235 1 ls (vR a :: st) h = Ev d 235 4 ls (vO (gR h a 0) :: st) h := Rget hB_235 dJ0_length_8abf5_1 rfl (Or.inr hS)
theorem v235_4 {d : Nat} {ls : LS3} {st : List MV} {h : Hp} {a : A3} (hS : 2 ≤ (gS h a).1 ∧ (gS h a).1 ≤ 10) : Ev d 235 4 ls (vR a :: st) h = Ev d 235 5 ls (vI (Int32.ofNat (gS h a).2) :: st) h := Rlen hB_235 dJ0_length_8abf5_4 hS
theorem v235_5 {d : Nat} {st : List MV} {h : Hp} {x : Option A3} : Ev d 235 5 [some (vO x)] st h = Ev d 235 6 [some (vO x)] (vO x :: st) h := Rnx (hB_235) (dJ0_length_8abf5_5) rfl
set_option maxRecDepth 100000 in
theorem v235_6 {d : Nat} {ls : LS3} {st : List MV} {h : Hp} {a : A3}  (hS : gS h a = (11, 10)) (hc : catS st ≤ 8) : Ev (d + 1) 235 6 ls (vR a :: st) h = Evk 238 (d + 1) 235 6 ls st (Ev d 238 0 [some (vR a)] [] h) := RcallO (idx := 335) (n := 0) (kd := 0) (As' := []) hB_235 dJ0_length_8abf5_6 rfl rfl (by decide) rfl rfl (Or.inr ⟨rfl, hS⟩) rfl hc
theorem v235_9 {d : Nat} {ls : LS3} {st : List MV} {h : Hp} {x y : Int32} : Ev d 235 9 ls (vI y :: vI x :: st) h = Ev d 235 10 ls (vI (x >>> (y &&& 31)) :: st) h := Rnx (hB_235) (dJ0_length_8abf5_9) rfl
theorem v235_10 {d : Nat} {ls : LS3} {h : Hp} {x : Int32} : Ev d 235 10 ls [vI x] h = some (.inl (some (vI x)), h) := Rdn hB_235 dJ0_length_8abf5_10 rfl
theorem hB_236 : mB 236 = cJ0_isEmpty_aae02 := rfl
theorem v236_0 {d : Nat} {st : List MV} {h : Hp} {x : Option A3} : Ev d 236 0 [some (vO x)] st h = Ev d 236 1 [some (vO x)] (vO x :: st) h := Rnx (hB_236) (dJ0_isEmpty_aae02_0) rfl
set_option maxRecDepth 100000 in
theorem v236_1 {d : Nat} {ls : LS3} {st : List MV} {h : Hp} {a : A3} (hS : gS h a = (11, 10)) : Ev d 236 1 ls (vR a :: st) h = Ev d 236 4 ls (vO (gR h a 0) :: st) h := Rget hB_236 dJ0_isEmpty_aae02_1 rfl (Or.inr hS)
theorem v236_4 {d : Nat} {ls : LS3} {st : List MV} {h : Hp} {a : A3} (hS : 2 ≤ (gS h a).1 ∧ (gS h a).1 ≤ 10) : Ev d 236 4 ls (vR a :: st) h = Ev d 236 5 ls (vI (Int32.ofNat (gS h a).2) :: st) h := Rlen hB_236 dJ0_isEmpty_aae02_4 hS
theorem v236_5 {d : Nat} {ls : LS3} {st : List MV} {h : Hp} {x : Int32} : Ev d 236 5 ls (vI x :: st) h = if x = 0 then Ev d 236 8 ls st h else Ev d 236 12 ls st h := Rifn hB_236 dJ0_isEmpty_aae02_5 rfl
theorem v236_8 {d : Nat} {ls : LS3} {st : List MV} {h : Hp} : Ev d 236 8 ls st h = Ev d 236 9 ls (vI 1 :: st) h := Rnx (hB_236) (dJ0_isEmpty_aae02_8) rfl
theorem v236_9 {d : Nat} {ls : LS3} {st : List MV} {h : Hp} : Ev d 236 9 ls st h = Ev d 236 13 ls st h := Rnx (hB_236) (dJ0_isEmpty_aae02_9) rfl
theorem v236_12 {d : Nat} {ls : LS3} {st : List MV} {h : Hp} : Ev d 236 12 ls st h = Ev d 236 13 ls (vI 0 :: st) h := Rnx (hB_236) (dJ0_isEmpty_aae02_12) rfl
theorem v236_13 {d : Nat} {ls : LS3} {h : Hp} {x : Int32} (hx : x = 0 ∨ x = 1) : Ev d 236 13 ls [vI x] h = some (.inl (some (vI x)), h) := RretB hB_236 dJ0_isEmpty_aae02_13 rfl hx
theorem hB_237 : mB 237 = cJ0_charAt_5068e := rfl
theorem v237_0 {d : Nat} {st : List MV} {h : Hp} {x : Option A3} {a1 : Option MV} : Ev d 237 0 [some (vO x), a1] st h = Ev d 237 1 [some (vO x), a1] (vO x :: st) h := Rnx (hB_237) (dJ0_charAt_5068e_0) rfl
set_option maxRecDepth 100000 in
theorem v237_1 {d : Nat} {ls : LS3} {st : List MV} {h : Hp} {a : A3}  (hS : gS h a = (11, 10)) (hc : catS st ≤ 8) : Ev (d + 1) 237 1 ls (vR a :: st) h = Evk 239 (d + 1) 237 1 ls st (Ev d 239 0 [some (vR a)] [] h) := RcallO (idx := 492) (n := 0) (kd := 0) (As' := []) hB_237 dJ0_charAt_5068e_1 rfl rfl (by decide) rfl rfl (Or.inr ⟨rfl, hS⟩) rfl hc
theorem v237_4 {d : Nat} {ls : LS3} {st : List MV} {h : Hp} {x : Int32} : Ev d 237 4 ls (vI x :: st) h = if x = 0 then Ev d 237 16 ls st h else Ev d 237 7 ls st h := Rif hB_237 dJ0_charAt_5068e_4 rfl
theorem v237_7 {d : Nat} {st : List MV} {h : Hp} {x : Option A3} {a1 : Option MV} : Ev d 237 7 [some (vO x), a1] st h = Ev d 237 8 [some (vO x), a1] (vO x :: st) h := Rnx (hB_237) (dJ0_charAt_5068e_7) rfl
set_option maxRecDepth 100000 in
theorem v237_8 {d : Nat} {ls : LS3} {st : List MV} {h : Hp} {a : A3} (hS : gS h a = (11, 10)) : Ev d 237 8 ls (vR a :: st) h = Ev d 237 11 ls (vO (gR h a 0) :: st) h := Rget hB_237 dJ0_charAt_5068e_8 rfl (Or.inr hS)
theorem v237_11 {d : Nat} {st : List MV} {h : Hp} {x : Int32} {a0 : Option MV} : Ev d 237 11 [a0, some (vI x)] st h = Ev d 237 12 [a0, some (vI x)] (vI x :: st) h := Rnx (hB_237) (dJ0_charAt_5068e_11) rfl
set_option maxRecDepth 100000 in
theorem v237_12 {d : Nat} {ls : LS3} {st : List MV} {h : Hp} {o0 : Option A3} {x1 : Int32} (hc : catS st ≤ 8) : Ev (d + 1) 237 12 ls (vI x1 :: vO o0 :: st) h = Evk 241 (d + 1) 237 12 ls st (Ev d 241 0 [some (vO o0), some (vI x1)] [] h) := RcallS (idx := 495) (n := 2) (kd := 1) (As := [vO o0, vI x1]) hB_237 dJ0_charAt_5068e_12 rfl rfl (by decide) rfl rfl rfl hc
theorem v237_15 {d : Nat} {ls : LS3} {h : Hp} {x : Int32} (hx : vp_nar .char x = x) : Ev d 237 15 ls [vI x] h = some (.inl (some (vI x)), h) := RretC hB_237 dJ0_charAt_5068e_15 rfl hx
theorem v237_16 {d : Nat} {st : List MV} {h : Hp} {x : Option A3} {a1 : Option MV} : Ev d 237 16 [some (vO x), a1] st h = Ev d 237 17 [some (vO x), a1] (vO x :: st) h := Rnx (hB_237) (dJ0_charAt_5068e_16) rfl
set_option maxRecDepth 100000 in
theorem v237_17 {d : Nat} {ls : LS3} {st : List MV} {h : Hp} {a : A3} (hS : gS h a = (11, 10)) : Ev d 237 17 ls (vR a :: st) h = Ev d 237 20 ls (vO (gR h a 0) :: st) h := Rget hB_237 dJ0_charAt_5068e_17 rfl (Or.inr hS)
theorem v237_20 {d : Nat} {st : List MV} {h : Hp} {x : Int32} {a0 : Option MV} : Ev d 237 20 [a0, some (vI x)] st h = Ev d 237 21 [a0, some (vI x)] (vI x :: st) h := Rnx (hB_237) (dJ0_charAt_5068e_20) rfl
theorem v237_24 {d : Nat} {ls : LS3} {h : Hp} {x : Int32} (hx : vp_nar .char x = x) : Ev d 237 24 ls [vI x] h = some (.inl (some (vI x)), h) := RretC hB_237 dJ0_charAt_5068e_24 rfl hx
theorem hB_238 : mB 238 = cJ0_coder_7d493 := rfl
theorem v238_0 {d : Nat} {ls : LS3} {st : List MV} {h : Hp} : Ev d 238 0 ls st h = Ev d 238 3 ls (vI 1 :: st) h := Rnx (hB_238) (dJ0_coder_7d493_0) rfl
theorem v238_3 {d : Nat} {ls : LS3} {st : List MV} {h : Hp} {x : Int32} : Ev d 238 3 ls (vI x :: st) h = if x = 0 then Ev d 238 13 ls st h else Ev d 238 6 ls st h := Rif hB_238 dJ0_coder_7d493_3 rfl
theorem v238_6 {d : Nat} {st : List MV} {h : Hp} {x : Option A3} : Ev d 238 6 [some (vO x)] st h = Ev d 238 7 [some (vO x)] (vO x :: st) h := Rnx (hB_238) (dJ0_coder_7d493_6) rfl
set_option maxRecDepth 100000 in
theorem v238_7 {d : Nat} {ls : LS3} {st : List MV} {h : Hp} {a : A3} (hS : gS h a = (11, 10)) : Ev d 238 7 ls (vR a :: st) h = Ev d 238 10 ls (vI (gI h a 1) :: st) h := Rget hB_238 dJ0_coder_7d493_7 rfl (Or.inr hS)
theorem v238_10 {d : Nat} {ls : LS3} {st : List MV} {h : Hp} : Ev d 238 10 ls st h = Ev d 238 14 ls st h := Rnx (hB_238) (dJ0_coder_7d493_10) rfl
theorem v238_13 {d : Nat} {ls : LS3} {st : List MV} {h : Hp} : Ev d 238 13 ls st h = Ev d 238 14 ls (vI 1 :: st) h := Rnx (hB_238) (dJ0_coder_7d493_13) rfl
theorem v238_14 {d : Nat} {ls : LS3} {h : Hp} {x : Int32} (hx : x = 0) : Ev d 238 14 ls [vI x] h = some (.inl (some (vI x)), h) := RretY hB_238 dJ0_coder_7d493_14 rfl hx
theorem hB_239 : mB 239 = cJ0_isLatin1_aae02 := rfl
theorem v239_0 {d : Nat} {ls : LS3} {st : List MV} {h : Hp} : Ev d 239 0 ls st h = Ev d 239 3 ls (vI 1 :: st) h := Rnx (hB_239) (dJ0_isLatin1_aae02_0) rfl
theorem v239_3 {d : Nat} {ls : LS3} {st : List MV} {h : Hp} {x : Int32} : Ev d 239 3 ls (vI x :: st) h = if x = 0 then Ev d 239 17 ls st h else Ev d 239 6 ls st h := Rif hB_239 dJ0_isLatin1_aae02_3 rfl
theorem v239_6 {d : Nat} {st : List MV} {h : Hp} {x : Option A3} : Ev d 239 6 [some (vO x)] st h = Ev d 239 7 [some (vO x)] (vO x :: st) h := Rnx (hB_239) (dJ0_isLatin1_aae02_6) rfl
set_option maxRecDepth 100000 in
theorem v239_7 {d : Nat} {ls : LS3} {st : List MV} {h : Hp} {a : A3} (hS : gS h a = (11, 10)) : Ev d 239 7 ls (vR a :: st) h = Ev d 239 10 ls (vI (gI h a 1) :: st) h := Rget hB_239 dJ0_isLatin1_aae02_7 rfl (Or.inr hS)
theorem v239_10 {d : Nat} {ls : LS3} {st : List MV} {h : Hp} {x : Int32} : Ev d 239 10 ls (vI x :: st) h = if x = 0 then Ev d 239 13 ls st h else Ev d 239 17 ls st h := Rifn hB_239 dJ0_isLatin1_aae02_10 rfl
theorem v239_13 {d : Nat} {ls : LS3} {st : List MV} {h : Hp} : Ev d 239 13 ls st h = Ev d 239 14 ls (vI 1 :: st) h := Rnx (hB_239) (dJ0_isLatin1_aae02_13) rfl
theorem v239_14 {d : Nat} {ls : LS3} {st : List MV} {h : Hp} : Ev d 239 14 ls st h = Ev d 239 18 ls st h := Rnx (hB_239) (dJ0_isLatin1_aae02_14) rfl
theorem v239_17 {d : Nat} {ls : LS3} {st : List MV} {h : Hp} : Ev d 239 17 ls st h = Ev d 239 18 ls (vI 0 :: st) h := Rnx (hB_239) (dJ0_isLatin1_aae02_17) rfl
theorem v239_18 {d : Nat} {ls : LS3} {h : Hp} {x : Int32} (hx : x = 0 ∨ x = 1) : Ev d 239 18 ls [vI x] h = some (.inl (some (vI x)), h) := RretB hB_239 dJ0_isLatin1_aae02_18 rfl hx
theorem hB_240 : mB 240 = cJ0_checkIndex_df160 := rfl
theorem v240_0 {d : Nat} {st : List MV} {h : Hp} {x : Int32} {a1 : Option MV} : Ev d 240 0 [some (vI x), a1] st h = Ev d 240 1 [some (vI x), a1] (vI x :: st) h := Rnx (hB_240) (dJ0_checkIndex_df160_0) rfl
theorem v240_1 {d : Nat} {st : List MV} {h : Hp} {x : Int32} {a0 : Option MV} : Ev d 240 1 [a0, some (vI x)] st h = Ev d 240 2 [a0, some (vI x)] (vI x :: st) h := Rnx (hB_240) (dJ0_checkIndex_df160_1) rfl
theorem v240_2 {d : Nat} {ls : LS3} {st : List MV} {h : Hp} : Ev d 240 2 ls st h = Ev d 240 5 ls (vO (gR h (51, 0, 0) 4) :: st) h := Rnx (hB_240) (dJ0_checkIndex_df160_2) rfl
set_option maxRecDepth 100000 in
theorem v240_5 {d : Nat} {ls : LS3} {st : List MV} {h : Hp} {x0 : Int32} {x1 : Int32} {o2 : Option A3} (hc : catS st ≤ 8) : Ev (d + 1) 240 5 ls (vO o2 :: vI x1 :: vI x0 :: st) h = Evk 242 (d + 1) 240 5 ls st (Ev d 242 0 [some (vI x0), some (vI x1), some (vO o2)] [] h) := RcallS (idx := 1059) (n := 3) (kd := 1) (As := [vI x0, vI x1, vO o2]) hB_240 dJ0_checkIndex_df160_5 rfl rfl (by decide) rfl rfl rfl hc
theorem v240_8 {d : Nat} {ls : LS3} {st : List MV} {h : Hp} {v : MV} (hv : cat1 v = true) : Ev d 240 8 ls (v :: st) h = Ev d 240 9 ls st h := Rpop hB_240 dJ0_checkIndex_df160_8 hv
theorem v240_9 {d : Nat} {ls : LS3} {h : Hp} : Ev d 240 9 ls [] h = some (.inl none, h) := Rdn hB_240 dJ0_checkIndex_df160_9 rfl
