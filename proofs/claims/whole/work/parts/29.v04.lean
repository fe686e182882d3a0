/-! ROWS OF THE METHODS, 4 -/
theorem hB_161 : mB 161 = cX7_loses := rfl
theorem v161_0 {d : Nat} {st : List MV} {h : Hp} {x : Option A3} {a1 : Option MV} : Ev d 161 0 [some (vO x), a1] st h = Ev d 161 1 [some (vO x), a1] (vO x :: st) h := Rnx (hB_161) (dX7_loses_0) rfl
set_option maxRecDepth 100000 in
theorem v161_1 {d : Nat} {ls : LS3} {st : List MV} {h : Hp} {a : A3} (hS : gS h a = (1, 7)) : Ev d 161 1 ls (vR a :: st) h = Ev d 161 4 ls (vO (gR h a 15) :: st) h := Rget hB_161 dX7_loses_1 rfl (Or.inl hS)
theorem v161_4 {d : Nat} {st : List MV} {h : Hp} {x : Int32} {a0 : Option MV} : Ev d 161 4 [a0, some (vI x)] st h = Ev d 161 5 [a0, some (vI x)] (vI x :: st) h := Rnx (hB_161) (dX7_loses_4) rfl
theorem v161_5 {d : Nat} {ls : LS3} {st : List MV} {h : Hp} : Ev d 161 5 ls st h = Ev d 161 6 ls (vI (-1) :: st) h := Rnx (hB_161) (dX7_loses_5) rfl
theorem v161_6 {d : Nat} {ls : LS3} {st : List MV} {h : Hp} {a : A3} {j : Int32} {x : Int32} (hS : (gS h a).1 = 2) (hj : inB j (gS h a).2) : Ev d 161 6 ls (vI x :: vI j :: vR a :: st) h = Ev d 161 7 ls st (sI h a j.toNatClampNeg x) := RastI hB_161 dX7_loses_6 hS hj
theorem v161_7 {d : Nat} {st : List MV} {h : Hp} {x : Option A3} {a1 : Option MV} : Ev d 161 7 [some (vO x), a1] st h = Ev d 161 8 [some (vO x), a1] (vO x :: st) h := Rnx (hB_161) (dX7_loses_7) rfl
set_option maxRecDepth 100000 in
theorem v161_8 {d : Nat} {ls : LS3} {st : List MV} {h : Hp} {a : A3} (hS : gS h a = (1, 7)) : Ev d 161 8 ls (vR a :: st) h = Ev d 161 11 ls (vO (gR h a 16) :: st) h := Rget hB_161 dX7_loses_8 rfl (Or.inl hS)
theorem v161_11 {d : Nat} {st : List MV} {h : Hp} {x : Int32} {a0 : Option MV} : Ev d 161 11 [a0, some (vI x)] st h = Ev d 161 12 [a0, some (vI x)] (vI x :: st) h := Rnx (hB_161) (dX7_loses_11) rfl
theorem v161_12 {d : Nat} {ls : LS3} {st : List MV} {h : Hp} : Ev d 161 12 ls st h = Ev d 161 13 ls (vI (-1) :: st) h := Rnx (hB_161) (dX7_loses_12) rfl
theorem v161_13 {d : Nat} {ls : LS3} {st : List MV} {h : Hp} {a : A3} {j : Int32} {x : Int32} (hS : (gS h a).1 = 2) (hj : inB j (gS h a).2) : Ev d 161 13 ls (vI x :: vI j :: vR a :: st) h = Ev d 161 14 ls st (sI h a j.toNatClampNeg x) := RastI hB_161 dX7_loses_13 hS hj
theorem v161_14 {d : Nat} {st : List MV} {h : Hp} {x : Option A3} {a1 : Option MV} : Ev d 161 14 [some (vO x), a1] st h = Ev d 161 15 [some (vO x), a1] (vO x :: st) h := Rnx (hB_161) (dX7_loses_14) rfl
set_option maxRecDepth 100000 in
theorem v161_15 {d : Nat} {ls : LS3} {st : List MV} {h : Hp} {a : A3} (hS : gS h a = (1, 7)) : Ev d 161 15 ls (vR a :: st) h = Ev d 161 18 ls (vO (gR h a 17) :: st) h := Rget hB_161 dX7_loses_15 rfl (Or.inl hS)
theorem v161_18 {d : Nat} {st : List MV} {h : Hp} {x : Int32} {a0 : Option MV} : Ev d 161 18 [a0, some (vI x)] st h = Ev d 161 19 [a0, some (vI x)] (vI x :: st) h := Rnx (hB_161) (dX7_loses_18) rfl
theorem v161_19 {d : Nat} {ls : LS3} {st : List MV} {h : Hp} : Ev d 161 19 ls st h = Ev d 161 20 ls (vI (-1) :: st) h := Rnx (hB_161) (dX7_loses_19) rfl
theorem v161_20 {d : Nat} {ls : LS3} {st : List MV} {h : Hp} {a : A3} {j : Int32} {x : Int32} (hS : (gS h a).1 = 2) (hj : inB j (gS h a).2) : Ev d 161 20 ls (vI x :: vI j :: vR a :: st) h = Ev d 161 21 ls st (sI h a j.toNatClampNeg x) := RastI hB_161 dX7_loses_20 hS hj
theorem v161_21 {d : Nat} {ls : LS3} {h : Hp} : Ev d 161 21 ls [] h = some (.inl none, h) := Rdn hB_161 dX7_loses_21 rfl
theorem hB_162 : mB 162 = cX7_keepsQuorum := rfl
theorem v162_0 {d : Nat} {st : List MV} {h : Hp} {x : Option A3} {a1 : Option MV} : Ev d 162 0 [some (vO x), a1] st h = Ev d 162 1 [some (vO x), a1] (vO x :: st) h := Rnx (hB_162) (dX7_keepsQuorum_0) rfl
theorem v162_1 {d : Nat} {st : List MV} {h : Hp} {x : Int32} {a0 : Option MV} : Ev d 162 1 [a0, some (vI x)] st h = Ev d 162 2 [a0, some (vI x)] (vI x :: st) h := Rnx (hB_162) (dX7_keepsQuorum_1) rfl
set_option maxRecDepth 100000 in
theorem v162_2 {d : Nat} {ls : LS3} {st : List MV} {h : Hp} {a : A3} {x0 : Int32} (hS : gS h a = (1, 7)) (hc : catS st ≤ 8) : Ev (d + 1) 162 2 ls (vI x0 :: vR a :: st) h = Evk 151 (d + 1) 162 2 ls st (Ev d 151 0 [some (vR a), some (vI x0)] [] h) := RcallO (idx := 113) (n := 1) (kd := 0) (As' := [vI x0]) hB_162 dX7_keepsQuorum_2 rfl rfl (by decide) rfl rfl (Or.inl hS) rfl hc
theorem v162_5 {d : Nat} {ls : LS3} {st : List MV} {h : Hp} {x : Int32} : Ev d 162 5 ls (vI x :: st) h = if x = 0 then Ev d 162 27 ls st h else Ev d 162 8 ls st h := Rif hB_162 dX7_keepsQuorum_5 rfl
theorem v162_8 {d : Nat} {st : List MV} {h : Hp} {x : Option A3} {a1 : Option MV} : Ev d 162 8 [some (vO x), a1] st h = Ev d 162 9 [some (vO x), a1] (vO x :: st) h := Rnx (hB_162) (dX7_keepsQuorum_8) rfl
theorem v162_9 {d : Nat} {st : List MV} {h : Hp} {x : Int32} {a0 : Option MV} : Ev d 162 9 [a0, some (vI x)] st h = Ev d 162 10 [a0, some (vI x)] (vI x :: st) h := Rnx (hB_162) (dX7_keepsQuorum_9) rfl
theorem v162_10 {d : Nat} {st : List MV} {h : Hp} {x : Option A3} {a1 : Option MV} : Ev d 162 10 [some (vO x), a1] st h = Ev d 162 11 [some (vO x), a1] (vO x :: st) h := Rnx (hB_162) (dX7_keepsQuorum_10) rfl
set_option maxRecDepth 100000 in
theorem v162_11 {d : Nat} {ls : LS3} {st : List MV} {h : Hp} {a : A3} (hS : gS h a = (1, 7)) : Ev d 162 11 ls (vR a :: st) h = Ev d 162 14 ls (vO (gR h a 14) :: st) h := Rget hB_162 dX7_keepsQuorum_11 rfl (Or.inl hS)
theorem v162_14 {d : Nat} {st : List MV} {h : Hp} {x : Int32} {a0 : Option MV} : Ev d 162 14 [a0, some (vI x)] st h = Ev d 162 15 [a0, some (vI x)] (vI x :: st) h := Rnx (hB_162) (dX7_keepsQuorum_14) rfl
theorem v162_15 {d : Nat} {ls : LS3} {st : List MV} {h : Hp} {a : A3} {j : Int32} (hS : (gS h a).1 ∈ [2, 9]) (hj : inB j (gS h a).2) : Ev d 162 15 ls (vI j :: vR a :: st) h = Ev d 162 16 ls (vI (gI h a j.toNatClampNeg) :: st) h := Rald (ks := [2, 9]) (f := fun a j => vI (gI h a j)) hB_162 dX7_keepsQuorum_15 rfl hS hj
set_option maxRecDepth 100000 in
theorem v162_16 {d : Nat} {ls : LS3} {st : List MV} {h : Hp} {a : A3} {x0 : Int32} {x1 : Int32} (hS : gS h a = (1, 7)) (hc : catS st ≤ 8) : Ev (d + 1) 162 16 ls (vI x1 :: vI x0 :: vR a :: st) h = Evk 156 (d + 1) 162 16 ls st (Ev d 156 0 [some (vR a), some (vI x0), some (vI x1), none] [] h) := RcallO (idx := 139) (n := 2) (kd := 0) (As' := [vI x0, vI x1]) hB_162 dX7_keepsQuorum_16 rfl rfl (by decide) rfl rfl (Or.inl hS) rfl hc
theorem v162_19 {d : Nat} {ls : LS3} {st : List MV} {h : Hp} {x : Int32} : Ev d 162 19 ls (vI x :: st) h = if x = 0 then Ev d 162 22 ls st h else Ev d 162 27 ls st h := Rifn hB_162 dX7_keepsQuorum_19 rfl
theorem v162_22 {d : Nat} {st : List MV} {h : Hp} {x : Option A3} {a1 : Option MV} : Ev d 162 22 [some (vO x), a1] st h = Ev d 162 23 [some (vO x), a1] (vO x :: st) h := Rnx (hB_162) (dX7_keepsQuorum_22) rfl
theorem v162_23 {d : Nat} {st : List MV} {h : Hp} {x : Int32} {a0 : Option MV} : Ev d 162 23 [a0, some (vI x)] st h = Ev d 162 24 [a0, some (vI x)] (vI x :: st) h := Rnx (hB_162) (dX7_keepsQuorum_23) rfl
set_option maxRecDepth 100000 in
theorem v162_24 {d : Nat} {ls : LS3} {st : List MV} {h : Hp} {a : A3} {x0 : Int32} (hS : gS h a = (1, 7)) (hc : catS st ≤ 8) : Ev (d + 1) 162 24 ls (vI x0 :: vR a :: st) h = Evk 161 (d + 1) 162 24 ls st (Ev d 161 0 [some (vR a), some (vI x0)] [] h) := RcallO (idx := 142) (n := 1) (kd := 0) (As' := [vI x0]) hB_162 dX7_keepsQuorum_24 rfl rfl (by decide) rfl rfl (Or.inl hS) rfl hc
theorem v162_27 {d : Nat} {ls : LS3} {h : Hp} : Ev d 162 27 ls [] h = some (.inl none, h) := Rdn hB_162 dX7_keepsQuorum_27 rfl
theorem hB_163 : mB 163 = cX7_deadlineFor := rfl
theorem v163_0 {d : Nat} {st : List MV} {h : Hp} {x : Int32} {a0 a1 a2 : Option MV} : Ev d 163 0 [a0, a1, a2, some (vI x)] st h = Ev d 163 1 [a0, a1, a2, some (vI x)] (vI x :: st) h := Rnx (hB_163) (dX7_deadlineFor_0) rfl
theorem v163_1 {d : Nat} {ls : LS3} {st : List MV} {h : Hp} : Ev d 163 1 ls st h = Ev d 163 2 ls (vI 4 :: st) h := Rnx (hB_163) (dX7_deadlineFor_1) rfl
theorem v163_2 {d : Nat} {ls : LS3} {st : List MV} {h : Hp} {x y : Int32} : Ev d 163 2 ls (vI y :: vI x :: st) h = if x = y then Ev d 163 5 ls st h else Ev d 163 9 ls st h := Rifn hB_163 dX7_deadlineFor_2 rfl
theorem v163_5 {d : Nat} {st : List MV} {h : Hp} {x : Int32} {a0 a1 a3 : Option MV} : Ev d 163 5 [a0, a1, some (vI x), a3] st h = Ev d 163 6 [a0, a1, some (vI x), a3] (vI x :: st) h := Rnx (hB_163) (dX7_deadlineFor_5) rfl
theorem v163_6 {d : Nat} {ls : LS3} {st : List MV} {h : Hp} : Ev d 163 6 ls st h = Ev d 163 27 ls st h := Rnx (hB_163) (dX7_deadlineFor_6) rfl
theorem v163_9 {d : Nat} {st : List MV} {h : Hp} {x : Int32} {a0 a1 a3 : Option MV} : Ev d 163 9 [a0, a1, some (vI x), a3] st h = Ev d 163 10 [a0, a1, some (vI x), a3] (vI x :: st) h := Rnx (hB_163) (dX7_deadlineFor_9) rfl
theorem v163_10 {d : Nat} {ls : LS3} {st : List MV} {h : Hp} : Ev d 163 10 ls st h = Ev d 163 13 ls (vO (gR h (51, 0, 0) 3) :: st) h := Rnx (hB_163) (dX7_deadlineFor_10) rfl
theorem v163_13 {d : Nat} {ls : LS3} {st : List MV} {h : Hp} : Ev d 163 13 ls st h = Ev d 163 14 ls (vI 3 :: st) h := Rnx (hB_163) (dX7_deadlineFor_13) rfl
theorem v163_14 {d : Nat} {st : List MV} {h : Hp} {x : Option A3} {a1 a2 a3 : Option MV} : Ev d 163 14 [some (vO x), a1, a2, a3] st h = Ev d 163 15 [some (vO x), a1, a2, a3] (vO x :: st) h := Rnx (hB_163) (dX7_deadlineFor_14) rfl
set_option maxRecDepth 100000 in
theorem v163_15 {d : Nat} {ls : LS3} {st : List MV} {h : Hp} {a : A3} (hS : gS h a = (1, 7)) : Ev d 163 15 ls (vR a :: st) h = Ev d 163 18 ls (vO (gR h a 9) :: st) h := Rget hB_163 dX7_deadlineFor_15 rfl (Or.inl hS)
theorem v163_18 {d : Nat} {st : List MV} {h : Hp} {x : Int32} {a0 a2 a3 : Option MV} : Ev d 163 18 [a0, some (vI x), a2, a3] st h = Ev d 163 19 [a0, some (vI x), a2, a3] (vI x :: st) h := Rnx (hB_163) (dX7_deadlineFor_18) rfl
theorem v163_19 {d : Nat} {ls : LS3} {st : List MV} {h : Hp} {a : A3} {j : Int32} (hS : (gS h a).1 ∈ [2, 9]) (hj : inB j (gS h a).2) : Ev d 163 19 ls (vI j :: vR a :: st) h = Ev d 163 20 ls (vI (gI h a j.toNatClampNeg) :: st) h := Rald (ks := [2, 9]) (f := fun a j => vI (gI h a j)) hB_163 dX7_deadlineFor_19 rfl hS hj
theorem v163_20 {d : Nat} {ls : LS3} {st : List MV} {h : Hp} {x y : Int32} : Ev d 163 20 ls (vI y :: vI x :: st) h = Ev d 163 21 ls (vI (x * y) :: st) h := Rnx (hB_163) (dX7_deadlineFor_20) rfl
theorem v163_21 {d : Nat} {st : List MV} {h : Hp} {x : Int32} {a0 a1 a2 : Option MV} : Ev d 163 21 [a0, a1, a2, some (vI x)] st h = Ev d 163 22 [a0, a1, a2, some (vI x)] (vI x :: st) h := Rnx (hB_163) (dX7_deadlineFor_21) rfl
theorem v163_22 {d : Nat} {ls : LS3} {st : List MV} {h : Hp} {x y : Int32} : Ev d 163 22 ls (vI y :: vI x :: st) h = Ev d 163 23 ls (vI (x + y) :: st) h := Rnx (hB_163) (dX7_deadlineFor_22) rfl
theorem v163_23 {d : Nat} {ls : LS3} {st : List MV} {h : Hp} : Ev d 163 23 ls st h = Ev d 163 24 ls (vI 1 :: st) h := Rnx (hB_163) (dX7_deadlineFor_23) rfl
theorem v163_24 {d : Nat} {ls : LS3} {st : List MV} {h : Hp} {x y : Int32} : Ev d 163 24 ls (vI y :: vI x :: st) h = Ev d 163 25 ls (vI (x - y) :: st) h := Rnx (hB_163) (dX7_deadlineFor_24) rfl
theorem v163_25 {d : Nat} {ls : LS3} {st : List MV} {h : Hp} {a : A3} {j : Int32} (hS : (gS h a).1 ∈ [2, 9]) (hj : inB j (gS h a).2) : Ev d 163 25 ls (vI j :: vR a :: st) h = Ev d 163 26 ls (vI (gI h a j.toNatClampNeg) :: st) h := Rald (ks := [2, 9]) (f := fun a j => vI (gI h a j)) hB_163 dX7_deadlineFor_25 rfl hS hj
theorem v163_26 {d : Nat} {ls : LS3} {st : List MV} {h : Hp} {x y : Int32} : Ev d 163 26 ls (vI y :: vI x :: st) h = Ev d 163 27 ls (vI (x - y) :: st) h := Rnx (hB_163) (dX7_deadlineFor_26) rfl
theorem v163_27 {d : Nat} {ls : LS3} {h : Hp} {x : Int32} : Ev d 163 27 ls [vI x] h = some (.inl (some (vI x)), h) := Rdn hB_163 dX7_deadlineFor_27 rfl
theorem hB_164 : mB 164 = cX7_whyNotAt := rfl
theorem v164_0 {d : Nat} {st : List MV} {h : Hp} {x : Option A3} {a1 a2 a3 a4 a5 : Option MV} : Ev d 164 0 [some (vO x), a1, a2, a3, a4, a5] st h = Ev d 164 1 [some (vO x), a1, a2, a3, a4, a5] (vO x :: st) h := Rnx (hB_164) (dX7_whyNotAt_0) rfl
theorem v164_1 {d : Nat} {st : List MV} {h : Hp} {x : Int32} {a0 a2 a3 a4 a5 : Option MV} : Ev d 164 1 [a0, some (vI x), a2, a3, a4, a5] st h = Ev d 164 2 [a0, some (vI x), a2, a3, a4, a5] (vI x :: st) h := Rnx (hB_164) (dX7_whyNotAt_1) rfl
set_option maxRecDepth 100000 in
theorem v164_2 {d : Nat} {ls : LS3} {st : List MV} {h : Hp} {a : A3} {x0 : Int32} (hS : gS h a = (1, 7)) (hc : catS st ≤ 8) : Ev (d + 1) 164 2 ls (vI x0 :: vR a :: st) h = Evk 152 (d + 1) 164 2 ls st (Ev d 152 0 [some (vR a), some (vI x0)] [] h) := RcallO (idx := 109) (n := 1) (kd := 0) (As' := [vI x0]) hB_164 dX7_whyNotAt_2 rfl rfl (by decide) rfl rfl (Or.inl hS) rfl hc
theorem v164_5 {d : Nat} {ls : LS3} {st : List MV} {h : Hp} {x : Int32} : Ev d 164 5 ls (vI x :: st) h = if x = 0 then Ev d 164 11 ls st h else Ev d 164 8 ls st h := Rif hB_164 dX7_whyNotAt_5 rfl
theorem v164_8 {d : Nat} {ls : LS3} {st : List MV} {h : Hp} : Ev d 164 8 ls st h = Ev d 164 10 ls (vI 8 :: st) h := Rnx (hB_164) (dX7_whyNotAt_8) rfl
theorem v164_10 {d : Nat} {ls : LS3} {h : Hp} {x : Int32} : Ev d 164 10 ls [vI x] h = some (.inl (some (vI x)), h) := Rdn hB_164 dX7_whyNotAt_10 rfl
theorem v164_11 {d : Nat} {st : List MV} {h : Hp} {x : Option A3} {a1 a2 a3 a4 a5 : Option MV} : Ev d 164 11 [some (vO x), a1, a2, a3, a4, a5] st h = Ev d 164 12 [some (vO x), a1, a2, a3, a4, a5] (vO x :: st) h := Rnx (hB_164) (dX7_whyNotAt_11) rfl
theorem v164_12 {d : Nat} {st : List MV} {h : Hp} {x : Int32} {a0 a2 a3 a4 a5 : Option MV} : Ev d 164 12 [a0, some (vI x), a2, a3, a4, a5] st h = Ev d 164 13 [a0, some (vI x), a2, a3, a4, a5] (vI x :: st) h := Rnx (hB_164) (dX7_whyNotAt_12) rfl
theorem v164_13 {d : Nat} {st : List MV} {h : Hp} {x : Option A3} {a1 a2 a3 a4 a5 : Option MV} : Ev d 164 13 [some (vO x), a1, a2, a3, a4, a5] st h = Ev d 164 14 [some (vO x), a1, a2, a3, a4, a5] (vO x :: st) h := Rnx (hB_164) (dX7_whyNotAt_13) rfl
set_option maxRecDepth 100000 in
theorem v164_14 {d : Nat} {ls : LS3} {st : List MV} {h : Hp} {a : A3} (hS : gS h a = (1, 7)) : Ev d 164 14 ls (vR a :: st) h = Ev d 164 17 ls (vO (gR h a 14) :: st) h := Rget hB_164 dX7_whyNotAt_14 rfl (Or.inl hS)
theorem v164_17 {d : Nat} {st : List MV} {h : Hp} {x : Int32} {a0 a2 a3 a4 a5 : Option MV} : Ev d 164 17 [a0, some (vI x), a2, a3, a4, a5] st h = Ev d 164 18 [a0, some (vI x), a2, a3, a4, a5] (vI x :: st) h := Rnx (hB_164) (dX7_whyNotAt_17) rfl
theorem v164_18 {d : Nat} {ls : LS3} {st : List MV} {h : Hp} {a : A3} {j : Int32} (hS : (gS h a).1 ∈ [2, 9]) (hj : inB j (gS h a).2) : Ev d 164 18 ls (vI j :: vR a :: st) h = Ev d 164 19 ls (vI (gI h a j.toNatClampNeg) :: st) h := Rald (ks := [2, 9]) (f := fun a j => vI (gI h a j)) hB_164 dX7_whyNotAt_18 rfl hS hj
set_option maxRecDepth 100000 in
theorem v164_19 {d : Nat} {ls : LS3} {st : List MV} {h : Hp} {a : A3} {x0 : Int32} {x1 : Int32} (hS : gS h a = (1, 7)) (hc : catS st ≤ 8) : Ev (d + 1) 164 19 ls (vI x1 :: vI x0 :: vR a :: st) h = Evk 156 (d + 1) 164 19 ls st (Ev d 156 0 [some (vR a), some (vI x0), some (vI x1), none] [] h) := RcallO (idx := 139) (n := 2) (kd := 0) (As' := [vI x0, vI x1]) hB_164 dX7_whyNotAt_19 rfl rfl (by decide) rfl rfl (Or.inl hS) rfl hc
theorem v164_22 {d : Nat} {ls : LS3} {st : List MV} {h : Hp} {x : Int32} : Ev d 164 22 ls (vI x :: st) h = if x = 0 then Ev d 164 25 ls st h else Ev d 164 28 ls st h := Rifn hB_164 dX7_whyNotAt_22 rfl
theorem v164_25 {d : Nat} {ls : LS3} {st : List MV} {h : Hp} : Ev d 164 25 ls st h = Ev d 164 27 ls (vI 9 :: st) h := Rnx (hB_164) (dX7_whyNotAt_25) rfl
theorem v164_27 {d : Nat} {ls : LS3} {h : Hp} {x : Int32} : Ev d 164 27 ls [vI x] h = some (.inl (some (vI x)), h) := Rdn hB_164 dX7_whyNotAt_27 rfl
theorem v164_28 {d : Nat} {ls : LS3} {st : List MV} {h : Hp} : Ev d 164 28 ls st h = Ev d 164 29 ls (vI 0 :: st) h := Rnx (hB_164) (dX7_whyNotAt_28) rfl
theorem v164_29 {d : Nat} {st : List MV} {h : Hp} {x : Int32} {a0 a1 a2 a3 a4 a5 : Option MV} : Ev d 164 29 [a0, a1, a2, a3, a4, a5] (vI x :: st) h = Ev d 164 31 [a0, a1, a2, a3, a4, some (vI x)] st h := Rnx (hB_164) (dX7_whyNotAt_29) rfl
theorem v164_31 {d : Nat} {st : List MV} {h : Hp} {x : Int32} {a0 a1 a2 a3 a4 : Option MV} : Ev d 164 31 [a0, a1, a2, a3, a4, some (vI x)] st h = Ev d 164 33 [a0, a1, a2, a3, a4, some (vI x)] (vI x :: st) h := Rnx (hB_164) (dX7_whyNotAt_31) rfl
theorem v164_33 {d : Nat} {st : List MV} {h : Hp} {x : Option A3} {a1 a2 a3 a4 a5 : Option MV} : Ev d 164 33 [some (vO x), a1, a2, a3, a4, a5] st h = Ev d 164 34 [some (vO x), a1, a2, a3, a4, a5] (vO x :: st) h := Rnx (hB_164) (dX7_whyNotAt_33) rfl
set_option maxRecDepth 100000 in
theorem v164_34 {d : Nat} {ls : LS3} {st : List MV} {h : Hp} {a : A3} (hS : gS h a = (1, 7)) : Ev d 164 34 ls (vR a :: st) h = Ev d 164 37 ls (vI (gI h a 19) :: st) h := Rget hB_164 dX7_whyNotAt_34 rfl (Or.inl hS)
theorem v164_37 {d : Nat} {ls : LS3} {st : List MV} {h : Hp} {x y : Int32} : Ev d 164 37 ls (vI y :: vI x :: st) h = if y ≤ x then Ev d 164 78 ls st h else Ev d 164 40 ls st h := Rif hB_164 dX7_whyNotAt_37 rfl
theorem v164_40 {d : Nat} {st : List MV} {h : Hp} {x : Int32} {a0 a1 a2 a3 a4 : Option MV} : Ev d 164 40 [a0, a1, a2, a3, a4, some (vI x)] st h = Ev d 164 42 [a0, a1, a2, a3, a4, some (vI x)] (vI x :: st) h := Rnx (hB_164) (dX7_whyNotAt_40) rfl
theorem v164_42 {d : Nat} {st : List MV} {h : Hp} {x : Int32} {a0 a2 a3 a4 a5 : Option MV} : Ev d 164 42 [a0, some (vI x), a2, a3, a4, a5] st h = Ev d 164 43 [a0, some (vI x), a2, a3, a4, a5] (vI x :: st) h := Rnx (hB_164) (dX7_whyNotAt_42) rfl
theorem v164_43 {d : Nat} {ls : LS3} {st : List MV} {h : Hp} {x y : Int32} : Ev d 164 43 ls (vI y :: vI x :: st) h = if x = y then Ev d 164 72 ls st h else Ev d 164 46 ls st h := Rif hB_164 dX7_whyNotAt_43 rfl
theorem v164_46 {d : Nat} {st : List MV} {h : Hp} {x : Option A3} {a1 a2 a3 a4 a5 : Option MV} : Ev d 164 46 [some (vO x), a1, a2, a3, a4, a5] st h = Ev d 164 47 [some (vO x), a1, a2, a3, a4, a5] (vO x :: st) h := Rnx (hB_164) (dX7_whyNotAt_46) rfl
set_option maxRecDepth 100000 in
theorem v164_47 {d : Nat} {ls : LS3} {st : List MV} {h : Hp} {a : A3} (hS : gS h a = (1, 7)) : Ev d 164 47 ls (vR a :: st) h = Ev d 164 50 ls (vO (gR h a 15) :: st) h := Rget hB_164 dX7_whyNotAt_47 rfl (Or.inl hS)
theorem v164_50 {d : Nat} {st : List MV} {h : Hp} {x : Int32} {a0 a1 a2 a3 a4 : Option MV} : Ev d 164 50 [a0, a1, a2, a3, a4, some (vI x)] st h = Ev d 164 52 [a0, a1, a2, a3, a4, some (vI x)] (vI x :: st) h := Rnx (hB_164) (dX7_whyNotAt_50) rfl
theorem v164_52 {d : Nat} {ls : LS3} {st : List MV} {h : Hp} {a : A3} {j : Int32} (hS : (gS h a).1 ∈ [2, 9]) (hj : inB j (gS h a).2) : Ev d 164 52 ls (vI j :: vR a :: st) h = Ev d 164 53 ls (vI (gI h a j.toNatClampNeg) :: st) h := Rald (ks := [2, 9]) (f := fun a j => vI (gI h a j)) hB_164 dX7_whyNotAt_52 rfl hS hj
theorem v164_53 {d : Nat} {st : List MV} {h : Hp} {x : Int32} {a0 a1 a3 a4 a5 : Option MV} : Ev d 164 53 [a0, a1, some (vI x), a3, a4, a5] st h = Ev d 164 54 [a0, a1, some (vI x), a3, a4, a5] (vI x :: st) h := Rnx (hB_164) (dX7_whyNotAt_53) rfl
theorem v164_54 {d : Nat} {ls : LS3} {st : List MV} {h : Hp} {x y : Int32} : Ev d 164 54 ls (vI y :: vI x :: st) h = if x = y then Ev d 164 57 ls st h else Ev d 164 72 ls st h := Rifn hB_164 dX7_whyNotAt_54 rfl
theorem v164_57 {d : Nat} {st : List MV} {h : Hp} {x : Option A3} {a1 a2 a3 a4 a5 : Option MV} : Ev d 164 57 [some (vO x), a1, a2, a3, a4, a5] st h = Ev d 164 58 [some (vO x), a1, a2, a3, a4, a5] (vO x :: st) h := Rnx (hB_164) (dX7_whyNotAt_57) rfl
theorem v164_58 {d : Nat} {st : List MV} {h : Hp} {x : Int32} {a0 a1 a2 a3 a4 : Option MV} : Ev d 164 58 [a0, a1, a2, a3, a4, some (vI x)] st h = Ev d 164 60 [a0, a1, a2, a3, a4, some (vI x)] (vI x :: st) h := Rnx (hB_164) (dX7_whyNotAt_58) rfl
theorem v164_60 {d : Nat} {st : List MV} {h : Hp} {x : Int32} {a0 a1 a2 a4 a5 : Option MV} : Ev d 164 60 [a0, a1, a2, some (vI x), a4, a5] st h = Ev d 164 61 [a0, a1, a2, some (vI x), a4, a5] (vI x :: st) h := Rnx (hB_164) (dX7_whyNotAt_60) rfl
theorem v164_61 {d : Nat} {st : List MV} {h : Hp} {x : Int32} {a0 a1 a2 a3 a5 : Option MV} : Ev d 164 61 [a0, a1, a2, a3, some (vI x), a5] st h = Ev d 164 63 [a0, a1, a2, a3, some (vI x), a5] (vI x :: st) h := Rnx (hB_164) (dX7_whyNotAt_61) rfl
set_option maxRecDepth 100000 in
theorem v164_63 {d : Nat} {ls : LS3} {st : List MV} {h : Hp} {a : A3} {x0 : Int32} {x1 : Int32} {x2 : Int32} (hS : gS h a = (1, 7)) (hc : catS st ≤ 8) : Ev (d + 1) 164 63 ls (vI x2 :: vI x1 :: vI x0 :: vR a :: st) h = Evk 158 (d + 1) 164 63 ls st (Ev d 158 0 [some (vR a), some (vI x0), some (vI x1), some (vI x2)] [] h) := RcallO (idx := 119) (n := 3) (kd := 0) (As' := [vI x0, vI x1, vI x2]) hB_164 dX7_whyNotAt_63 rfl rfl (by decide) rfl rfl (Or.inl hS) rfl hc
theorem v164_66 {d : Nat} {ls : LS3} {st : List MV} {h : Hp} {x : Int32} : Ev d 164 66 ls (vI x :: st) h = if x = 0 then Ev d 164 72 ls st h else Ev d 164 69 ls st h := Rif hB_164 dX7_whyNotAt_66 rfl
theorem v164_69 {d : Nat} {ls : LS3} {st : List MV} {h : Hp} : Ev d 164 69 ls st h = Ev d 164 71 ls (vI 10 :: st) h := Rnx (hB_164) (dX7_whyNotAt_69) rfl
theorem v164_71 {d : Nat} {ls : LS3} {h : Hp} {x : Int32} : Ev d 164 71 ls [vI x] h = some (.inl (some (vI x)), h) := Rdn hB_164 dX7_whyNotAt_71 rfl
theorem v164_72 {d : Nat} {st : List MV} {h : Hp} {x : Int32} {a0 a1 a2 a3 a4 : Option MV} : Ev d 164 72 [a0, a1, a2, a3, a4, some (vI x)] st h = Ev d 164 75 [a0, a1, a2, a3, a4, some (vI (x + 1))] st h := Rnx (hB_164) (dX7_whyNotAt_72) rfl
theorem v164_75 {d : Nat} {ls : LS3} {st : List MV} {h : Hp} : Ev d 164 75 ls st h = Ev d 164 31 ls st h := Rnx (hB_164) (dX7_whyNotAt_75) rfl
theorem v164_78 {d : Nat} {ls : LS3} {st : List MV} {h : Hp} : Ev d 164 78 ls st h = Ev d 164 79 ls (vI 0 :: st) h := Rnx (hB_164) (dX7_whyNotAt_78) rfl
theorem v164_79 {d : Nat} {st : List MV} {h : Hp} {x : Int32} {a0 a1 a2 a3 a4 a5 : Option MV} : Ev d 164 79 [a0, a1, a2, a3, a4, a5] (vI x :: st) h = Ev d 164 81 [a0, a1, a2, a3, a4, some (vI x)] st h := Rnx (hB_164) (dX7_whyNotAt_79) rfl
theorem v164_81 {d : Nat} {st : List MV} {h : Hp} {x : Int32} {a0 a1 a2 a3 a4 : Option MV} : Ev d 164 81 [a0, a1, a2, a3, a4, some (vI x)] st h = Ev d 164 83 [a0, a1, a2, a3, a4, some (vI x)] (vI x :: st) h := Rnx (hB_164) (dX7_whyNotAt_81) rfl
theorem v164_83 {d : Nat} {st : List MV} {h : Hp} {x : Option A3} {a1 a2 a3 a4 a5 : Option MV} : Ev d 164 83 [some (vO x), a1, a2, a3, a4, a5] st h = Ev d 164 84 [some (vO x), a1, a2, a3, a4, a5] (vO x :: st) h := Rnx (hB_164) (dX7_whyNotAt_83) rfl
set_option maxRecDepth 100000 in
theorem v164_84 {d : Nat} {ls : LS3} {st : List MV} {h : Hp} {a : A3} (hS : gS h a = (1, 7)) : Ev d 164 84 ls (vR a :: st) h = Ev d 164 87 ls (vI (gI h a 7) :: st) h := Rget hB_164 dX7_whyNotAt_84 rfl (Or.inl hS)
theorem v164_87 {d : Nat} {ls : LS3} {st : List MV} {h : Hp} {x y : Int32} : Ev d 164 87 ls (vI y :: vI x :: st) h = if y ≤ x then Ev d 164 122 ls st h else Ev d 164 90 ls st h := Rif hB_164 dX7_whyNotAt_87 rfl
theorem v164_90 {d : Nat} {st : List MV} {h : Hp} {x : Option A3} {a1 a2 a3 a4 a5 : Option MV} : Ev d 164 90 [some (vO x), a1, a2, a3, a4, a5] st h = Ev d 164 91 [some (vO x), a1, a2, a3, a4, a5] (vO x :: st) h := Rnx (hB_164) (dX7_whyNotAt_90) rfl
theorem v164_91 {d : Nat} {st : List MV} {h : Hp} {x : Int32} {a0 a2 a3 a4 a5 : Option MV} : Ev d 164 91 [a0, some (vI x), a2, a3, a4, a5] st h = Ev d 164 92 [a0, some (vI x), a2, a3, a4, a5] (vI x :: st) h := Rnx (hB_164) (dX7_whyNotAt_91) rfl
theorem v164_92 {d : Nat} {st : List MV} {h : Hp} {x : Int32} {a0 a1 a2 a3 a4 : Option MV} : Ev d 164 92 [a0, a1, a2, a3, a4, some (vI x)] st h = Ev d 164 94 [a0, a1, a2, a3, a4, some (vI x)] (vI x :: st) h := Rnx (hB_164) (dX7_whyNotAt_92) rfl
set_option maxRecDepth 100000 in
theorem v164_94 {d : Nat} {ls : LS3} {st : List MV} {h : Hp} {a : A3} {x0 : Int32} {x1 : Int32} (hS : gS h a = (1, 7)) (hc : catS st ≤ 8) : Ev (d + 1) 164 94 ls (vI x1 :: vI x0 :: vR a :: st) h = Evk 150 (d + 1) 164 94 ls st (Ev d 150 0 [some (vR a), some (vI x0), some (vI x1)] [] h) := RcallO (idx := 105) (n := 2) (kd := 0) (As' := [vI x0, vI x1]) hB_164 dX7_whyNotAt_94 rfl rfl (by decide) rfl rfl (Or.inl hS) rfl hc
theorem v164_97 {d : Nat} {ls : LS3} {st : List MV} {h : Hp} {x : Int32} : Ev d 164 97 ls (vI x :: st) h = if x = 0 then Ev d 164 116 ls st h else Ev d 164 100 ls st h := Rif hB_164 dX7_whyNotAt_97 rfl
theorem v164_100 {d : Nat} {st : List MV} {h : Hp} {x : Option A3} {a1 a2 a3 a4 a5 : Option MV} : Ev d 164 100 [some (vO x), a1, a2, a3, a4, a5] st h = Ev d 164 101 [some (vO x), a1, a2, a3, a4, a5] (vO x :: st) h := Rnx (hB_164) (dX7_whyNotAt_100) rfl
theorem v164_101 {d : Nat} {st : List MV} {h : Hp} {x : Int32} {a0 a1 a2 a3 a4 : Option MV} : Ev d 164 101 [a0, a1, a2, a3, a4, some (vI x)] st h = Ev d 164 103 [a0, a1, a2, a3, a4, some (vI x)] (vI x :: st) h := Rnx (hB_164) (dX7_whyNotAt_101) rfl
theorem v164_103 {d : Nat} {st : List MV} {h : Hp} {x : Int32} {a0 a1 a2 a4 a5 : Option MV} : Ev d 164 103 [a0, a1, a2, some (vI x), a4, a5] st h = Ev d 164 104 [a0, a1, a2, some (vI x), a4, a5] (vI x :: st) h := Rnx (hB_164) (dX7_whyNotAt_103) rfl
theorem v164_104 {d : Nat} {st : List MV} {h : Hp} {x : Int32} {a0 a1 a2 a3 a5 : Option MV} : Ev d 164 104 [a0, a1, a2, a3, some (vI x), a5] st h = Ev d 164 106 [a0, a1, a2, a3, some (vI x), a5] (vI x :: st) h := Rnx (hB_164) (dX7_whyNotAt_104) rfl
theorem v164_106 {d : Nat} {st : List MV} {h : Hp} {x : Int32} {a0 a2 a3 a4 a5 : Option MV} : Ev d 164 106 [a0, some (vI x), a2, a3, a4, a5] st h = Ev d 164 107 [a0, some (vI x), a2, a3, a4, a5] (vI x :: st) h := Rnx (hB_164) (dX7_whyNotAt_106) rfl
set_option maxRecDepth 100000 in
theorem v164_107 {d : Nat} {ls : LS3} {st : List MV} {h : Hp} {a : A3} {x0 : Int32} {x1 : Int32} {x2 : Int32} {x3 : Int32} (hS : gS h a = (1, 7)) (hc : catS st ≤ 8) : Ev (d + 1) 164 107 ls (vI x3 :: vI x2 :: vI x1 :: vI x0 :: vR a :: st) h = Evk 159 (d + 1) 164 107 ls st (Ev d 159 0 [some (vR a), some (vI x0), some (vI x1), some (vI x2), some (vI x3), none] [] h) := RcallO (idx := 135) (n := 4) (kd := 0) (As' := [vI x0, vI x1, vI x2, vI x3]) hB_164 dX7_whyNotAt_107 rfl rfl (by decide) rfl rfl (Or.inl hS) rfl hc
theorem v164_110 {d : Nat} {ls : LS3} {st : List MV} {h : Hp} {x : Int32} : Ev d 164 110 ls (vI x :: st) h = if x = 0 then Ev d 164 113 ls st h else Ev d 164 116 ls st h := Rifn hB_164 dX7_whyNotAt_110 rfl
theorem v164_113 {d : Nat} {ls : LS3} {st : List MV} {h : Hp} : Ev d 164 113 ls st h = Ev d 164 115 ls (vI 11 :: st) h := Rnx (hB_164) (dX7_whyNotAt_113) rfl
theorem v164_115 {d : Nat} {ls : LS3} {h : Hp} {x : Int32} : Ev d 164 115 ls [vI x] h = some (.inl (some (vI x)), h) := Rdn hB_164 dX7_whyNotAt_115 rfl
theorem v164_116 {d : Nat} {st : List MV} {h : Hp} {x : Int32} {a0 a1 a2 a3 a4 : Option MV} : Ev d 164 116 [a0, a1, a2, a3, a4, some (vI x)] st h = Ev d 164 119 [a0, a1, a2, a3, a4, some (vI (x + 1))] st h := Rnx (hB_164) (dX7_whyNotAt_116) rfl
theorem v164_119 {d : Nat} {ls : LS3} {st : List MV} {h : Hp} : Ev d 164 119 ls st h = Ev d 164 81 ls st h := Rnx (hB_164) (dX7_whyNotAt_119) rfl
theorem v164_122 {d : Nat} {st : List MV} {h : Hp} {x : Option A3} {a1 a2 a3 a4 a5 : Option MV} : Ev d 164 122 [some (vO x), a1, a2, a3, a4, a5] st h = Ev d 164 123 [some (vO x), a1, a2, a3, a4, a5] (vO x :: st) h := Rnx (hB_164) (dX7_whyNotAt_122) rfl
theorem v164_123 {d : Nat} {st : List MV} {h : Hp} {x : Int32} {a0 a2 a3 a4 a5 : Option MV} : Ev d 164 123 [a0, some (vI x), a2, a3, a4, a5] st h = Ev d 164 124 [a0, some (vI x), a2, a3, a4, a5] (vI x :: st) h := Rnx (hB_164) (dX7_whyNotAt_123) rfl
theorem v164_124 {d : Nat} {st : List MV} {h : Hp} {x : Int32} {a0 a1 a2 a4 a5 : Option MV} : Ev d 164 124 [a0, a1, a2, some (vI x), a4, a5] st h = Ev d 164 125 [a0, a1, a2, some (vI x), a4, a5] (vI x :: st) h := Rnx (hB_164) (dX7_whyNotAt_124) rfl
theorem v164_125 {d : Nat} {st : List MV} {h : Hp} {x : Option A3} {a1 a2 a3 a4 a5 : Option MV} : Ev d 164 125 [some (vO x), a1, a2, a3, a4, a5] st h = Ev d 164 126 [some (vO x), a1, a2, a3, a4, a5] (vO x :: st) h := Rnx (hB_164) (dX7_whyNotAt_125) rfl
set_option maxRecDepth 100000 in
theorem v164_126 {d : Nat} {ls : LS3} {st : List MV} {h : Hp} {a : A3} (hS : gS h a = (1, 7)) : Ev d 164 126 ls (vR a :: st) h = Ev d 164 129 ls (vO (gR h a 13) :: st) h := Rget hB_164 dX7_whyNotAt_126 rfl (Or.inl hS)
theorem v164_129 {d : Nat} {st : List MV} {h : Hp} {x : Int32} {a0 a2 a3 a4 a5 : Option MV} : Ev d 164 129 [a0, some (vI x), a2, a3, a4, a5] st h = Ev d 164 130 [a0, some (vI x), a2, a3, a4, a5] (vI x :: st) h := Rnx (hB_164) (dX7_whyNotAt_129) rfl
theorem v164_130 {d : Nat} {ls : LS3} {st : List MV} {h : Hp} {a : A3} {j : Int32} (hS : (gS h a).1 ∈ [2, 9]) (hj : inB j (gS h a).2) : Ev d 164 130 ls (vI j :: vR a :: st) h = Ev d 164 131 ls (vI (gI h a j.toNatClampNeg) :: st) h := Rald (ks := [2, 9]) (f := fun a j => vI (gI h a j)) hB_164 dX7_whyNotAt_130 rfl hS hj
theorem v164_131 {d : Nat} {ls : LS3} {st : List MV} {h : Hp} : Ev d 164 131 ls st h = Ev d 164 132 ls (vI 1 :: st) h := Rnx (hB_164) (dX7_whyNotAt_131) rfl
theorem v164_132 {d : Nat} {ls : LS3} {st : List MV} {h : Hp} {x y : Int32} : Ev d 164 132 ls (vI y :: vI x :: st) h = Ev d 164 133 ls (vI (x + y) :: st) h := Rnx (hB_164) (dX7_whyNotAt_132) rfl
set_option maxRecDepth 100000 in
theorem v164_133 {d : Nat} {ls : LS3} {st : List MV} {h : Hp} {a : A3} {x0 : Int32} {x1 : Int32} {x2 : Int32} (hS : gS h a = (1, 7)) (hc : catS st ≤ 8) : Ev (d + 1) 164 133 ls (vI x2 :: vI x1 :: vI x0 :: vR a :: st) h = Evk 163 (d + 1) 164 133 ls st (Ev d 163 0 [some (vR a), some (vI x0), some (vI x1), some (vI x2)] [] h) := RcallO (idx := 149) (n := 3) (kd := 0) (As' := [vI x0, vI x1, vI x2]) hB_164 dX7_whyNotAt_133 rfl rfl (by decide) rfl rfl (Or.inl hS) rfl hc
theorem v164_136 {d : Nat} {st : List MV} {h : Hp} {x : Option A3} {a1 a2 a3 a4 a5 : Option MV} : Ev d 164 136 [some (vO x), a1, a2, a3, a4, a5] st h = Ev d 164 137 [some (vO x), a1, a2, a3, a4, a5] (vO x :: st) h := Rnx (hB_164) (dX7_whyNotAt_136) rfl
set_option maxRecDepth 100000 in
theorem v164_137 {d : Nat} {ls : LS3} {st : List MV} {h : Hp} {a : A3} (hS : gS h a = (1, 7)) : Ev d 164 137 ls (vR a :: st) h = Ev d 164 140 ls (vI (gI h a 8) :: st) h := Rget hB_164 dX7_whyNotAt_137 rfl (Or.inl hS)
theorem v164_140 {d : Nat} {ls : LS3} {st : List MV} {h : Hp} {x y : Int32} : Ev d 164 140 ls (vI y :: vI x :: st) h = if y ≤ x then Ev d 164 148 ls st h else Ev d 164 143 ls st h := Rif hB_164 dX7_whyNotAt_140 rfl
theorem v164_143 {d : Nat} {ls : LS3} {st : List MV} {h : Hp} : Ev d 164 143 ls st h = Ev d 164 145 ls (vI 12 :: st) h := Rnx (hB_164) (dX7_whyNotAt_143) rfl
theorem v164_145 {d : Nat} {ls : LS3} {st : List MV} {h : Hp} : Ev d 164 145 ls st h = Ev d 164 149 ls st h := Rnx (hB_164) (dX7_whyNotAt_145) rfl
theorem v164_148 {d : Nat} {ls : LS3} {st : List MV} {h : Hp} : Ev d 164 148 ls st h = Ev d 164 149 ls (vI 0 :: st) h := Rnx (hB_164) (dX7_whyNotAt_148) rfl
theorem v164_149 {d : Nat} {ls : LS3} {h : Hp} {x : Int32} : Ev d 164 149 ls [vI x] h = some (.inl (some (vI x)), h) := Rdn hB_164 dX7_whyNotAt_149 rfl
theorem hB_165 : mB 165 = cX7_puts := rfl
theorem v165_0 {d : Nat} {st : List MV} {h : Hp} {x : Option A3} {a1 a2 a3 a4 : Option MV} : Ev d 165 0 [some (vO x), a1, a2, a3, a4] st h = Ev d 165 1 [some (vO x), a1, a2, a3, a4] (vO x :: st) h := Rnx (hB_165) (dX7_puts_0) rfl
set_option maxRecDepth 100000 in
theorem v165_1 {d : Nat} {ls : LS3} {st : List MV} {h : Hp} {a : A3} (hS : gS h a = (1, 7)) : Ev d 165 1 ls (vR a :: st) h = Ev d 165 4 ls (vO (gR h a 15) :: st) h := Rget hB_165 dX7_puts_1 rfl (Or.inl hS)
theorem v165_4 {d : Nat} {st : List MV} {h : Hp} {x : Int32} {a0 a2 a3 a4 : Option MV} : Ev d 165 4 [a0, some (vI x), a2, a3, a4] st h = Ev d 165 5 [a0, some (vI x), a2, a3, a4] (vI x :: st) h := Rnx (hB_165) (dX7_puts_4) rfl
theorem v165_5 {d : Nat} {st : List MV} {h : Hp} {x : Int32} {a0 a1 a3 a4 : Option MV} : Ev d 165 5 [a0, a1, some (vI x), a3, a4] st h = Ev d 165 6 [a0, a1, some (vI x), a3, a4] (vI x :: st) h := Rnx (hB_165) (dX7_puts_5) rfl
theorem v165_6 {d : Nat} {ls : LS3} {st : List MV} {h : Hp} {a : A3} {j : Int32} {x : Int32} (hS : (gS h a).1 = 2) (hj : inB j (gS h a).2) : Ev d 165 6 ls (vI x :: vI j :: vR a :: st) h = Ev d 165 7 ls st (sI h a j.toNatClampNeg x) := RastI hB_165 dX7_puts_6 hS hj
theorem v165_7 {d : Nat} {st : List MV} {h : Hp} {x : Option A3} {a1 a2 a3 a4 : Option MV} : Ev d 165 7 [some (vO x), a1, a2, a3, a4] st h = Ev d 165 8 [some (vO x), a1, a2, a3, a4] (vO x :: st) h := Rnx (hB_165) (dX7_puts_7) rfl
set_option maxRecDepth 100000 in
theorem v165_8 {d : Nat} {ls : LS3} {st : List MV} {h : Hp} {a : A3} (hS : gS h a = (1, 7)) : Ev d 165 8 ls (vR a :: st) h = Ev d 165 11 ls (vO (gR h a 16) :: st) h := Rget hB_165 dX7_puts_8 rfl (Or.inl hS)
theorem v165_11 {d : Nat} {st : List MV} {h : Hp} {x : Int32} {a0 a2 a3 a4 : Option MV} : Ev d 165 11 [a0, some (vI x), a2, a3, a4] st h = Ev d 165 12 [a0, some (vI x), a2, a3, a4] (vI x :: st) h := Rnx (hB_165) (dX7_puts_11) rfl
theorem v165_12 {d : Nat} {st : List MV} {h : Hp} {x : Int32} {a0 a1 a2 a4 : Option MV} : Ev d 165 12 [a0, a1, a2, some (vI x), a4] st h = Ev d 165 13 [a0, a1, a2, some (vI x), a4] (vI x :: st) h := Rnx (hB_165) (dX7_puts_12) rfl
theorem v165_13 {d : Nat} {ls : LS3} {st : List MV} {h : Hp} {a : A3} {j : Int32} {x : Int32} (hS : (gS h a).1 = 2) (hj : inB j (gS h a).2) : Ev d 165 13 ls (vI x :: vI j :: vR a :: st) h = Ev d 165 14 ls st (sI h a j.toNatClampNeg x) := RastI hB_165 dX7_puts_13 hS hj
theorem v165_14 {d : Nat} {st : List MV} {h : Hp} {x : Option A3} {a1 a2 a3 a4 : Option MV} : Ev d 165 14 [some (vO x), a1, a2, a3, a4] st h = Ev d 165 15 [some (vO x), a1, a2, a3, a4] (vO x :: st) h := Rnx (hB_165) (dX7_puts_14) rfl
set_option maxRecDepth 100000 in
theorem v165_15 {d : Nat} {ls : LS3} {st : List MV} {h : Hp} {a : A3} (hS : gS h a = (1, 7)) : Ev d 165 15 ls (vR a :: st) h = Ev d 165 18 ls (vO (gR h a 17) :: st) h := Rget hB_165 dX7_puts_15 rfl (Or.inl hS)
theorem v165_18 {d : Nat} {st : List MV} {h : Hp} {x : Int32} {a0 a2 a3 a4 : Option MV} : Ev d 165 18 [a0, some (vI x), a2, a3, a4] st h = Ev d 165 19 [a0, some (vI x), a2, a3, a4] (vI x :: st) h := Rnx (hB_165) (dX7_puts_18) rfl
theorem v165_19 {d : Nat} {st : List MV} {h : Hp} {x : Int32} {a0 a1 a2 a3 : Option MV} : Ev d 165 19 [a0, a1, a2, a3, some (vI x)] st h = Ev d 165 21 [a0, a1, a2, a3, some (vI x)] (vI x :: st) h := Rnx (hB_165) (dX7_puts_19) rfl
theorem v165_21 {d : Nat} {ls : LS3} {st : List MV} {h : Hp} {a : A3} {j : Int32} {x : Int32} (hS : (gS h a).1 = 2) (hj : inB j (gS h a).2) : Ev d 165 21 ls (vI x :: vI j :: vR a :: st) h = Ev d 165 22 ls st (sI h a j.toNatClampNeg x) := RastI hB_165 dX7_puts_21 hS hj
theorem v165_22 {d : Nat} {ls : LS3} {h : Hp} : Ev d 165 22 ls [] h = some (.inl none, h) := Rdn hB_165 dX7_puts_22 rfl
theorem hB_166 : mB 166 = cX7_earliestOf := rfl
theorem v166_0 {d : Nat} {st : List MV} {h : Hp} {x : Option A3} {a1 a2 a3 : Option MV} : Ev d 166 0 [some (vO x), a1, a2, a3] st h = Ev d 166 1 [some (vO x), a1, a2, a3] (vO x :: st) h := Rnx (hB_166) (dX7_earliestOf_0) rfl
theorem v166_1 {d : Nat} {st : List MV} {h : Hp} {x : Int32} {a0 a2 a3 : Option MV} : Ev d 166 1 [a0, some (vI x), a2, a3] st h = Ev d 166 2 [a0, some (vI x), a2, a3] (vI x :: st) h := Rnx (hB_166) (dX7_earliestOf_1) rfl
set_option maxRecDepth 100000 in
theorem v166_2 {d : Nat} {ls : LS3} {st : List MV} {h : Hp} {a : A3} {x0 : Int32} (hS : gS h a = (1, 7)) (hc : catS st ≤ 8) : Ev (d + 1) 166 2 ls (vI x0 :: vR a :: st) h = Evk 152 (d + 1) 166 2 ls st (Ev d 152 0 [some (vR a), some (vI x0)] [] h) := RcallO (idx := 109) (n := 1) (kd := 0) (As' := [vI x0]) hB_166 dX7_earliestOf_2 rfl rfl (by decide) rfl rfl (Or.inl hS) rfl hc
theorem v166_5 {d : Nat} {ls : LS3} {st : List MV} {h : Hp} {x : Int32} : Ev d 166 5 ls (vI x :: st) h = if x = 0 then Ev d 166 8 ls st h else Ev d 166 22 ls st h := Rifn hB_166 dX7_earliestOf_5 rfl
theorem v166_8 {d : Nat} {st : List MV} {h : Hp} {x : Option A3} {a1 a2 a3 : Option MV} : Ev d 166 8 [some (vO x), a1, a2, a3] st h = Ev d 166 9 [some (vO x), a1, a2, a3] (vO x :: st) h := Rnx (hB_166) (dX7_earliestOf_8) rfl
theorem v166_9 {d : Nat} {st : List MV} {h : Hp} {x : Int32} {a0 a2 a3 : Option MV} : Ev d 166 9 [a0, some (vI x), a2, a3] st h = Ev d 166 10 [a0, some (vI x), a2, a3] (vI x :: st) h := Rnx (hB_166) (dX7_earliestOf_9) rfl
theorem v166_10 {d : Nat} {st : List MV} {h : Hp} {x : Option A3} {a1 a2 a3 : Option MV} : Ev d 166 10 [some (vO x), a1, a2, a3] st h = Ev d 166 11 [some (vO x), a1, a2, a3] (vO x :: st) h := Rnx (hB_166) (dX7_earliestOf_10) rfl
set_option maxRecDepth 100000 in
theorem v166_11 {d : Nat} {ls : LS3} {st : List MV} {h : Hp} {a : A3} (hS : gS h a = (1, 7)) : Ev d 166 11 ls (vR a :: st) h = Ev d 166 14 ls (vO (gR h a 14) :: st) h := Rget hB_166 dX7_earliestOf_11 rfl (Or.inl hS)
theorem v166_14 {d : Nat} {st : List MV} {h : Hp} {x : Int32} {a0 a2 a3 : Option MV} : Ev d 166 14 [a0, some (vI x), a2, a3] st h = Ev d 166 15 [a0, some (vI x), a2, a3] (vI x :: st) h := Rnx (hB_166) (dX7_earliestOf_14) rfl
theorem v166_15 {d : Nat} {ls : LS3} {st : List MV} {h : Hp} {a : A3} {j : Int32} (hS : (gS h a).1 ∈ [2, 9]) (hj : inB j (gS h a).2) : Ev d 166 15 ls (vI j :: vR a :: st) h = Ev d 166 16 ls (vI (gI h a j.toNatClampNeg) :: st) h := Rald (ks := [2, 9]) (f := fun a j => vI (gI h a j)) hB_166 dX7_earliestOf_15 rfl hS hj
set_option maxRecDepth 100000 in
theorem v166_16 {d : Nat} {ls : LS3} {st : List MV} {h : Hp} {a : A3} {x0 : Int32} {x1 : Int32} (hS : gS h a = (1, 7)) (hc : catS st ≤ 8) : Ev (d + 1) 166 16 ls (vI x1 :: vI x0 :: vR a :: st) h = Evk 156 (d + 1) 166 16 ls st (Ev d 156 0 [some (vR a), some (vI x0), some (vI x1), none] [] h) := RcallO (idx := 139) (n := 2) (kd := 0) (As' := [vI x0, vI x1]) hB_166 dX7_earliestOf_16 rfl rfl (by decide) rfl rfl (Or.inl hS) rfl hc
theorem v166_19 {d : Nat} {ls : LS3} {st : List MV} {h : Hp} {x : Int32} : Ev d 166 19 ls (vI x :: st) h = if x = 0 then Ev d 166 22 ls st h else Ev d 166 24 ls st h := Rifn hB_166 dX7_earliestOf_19 rfl
theorem v166_22 {d : Nat} {ls : LS3} {st : List MV} {h : Hp} : Ev d 166 22 ls st h = Ev d 166 23 ls (vI (-1) :: st) h := Rnx (hB_166) (dX7_earliestOf_22) rfl
theorem v166_23 {d : Nat} {ls : LS3} {h : Hp} {x : Int32} : Ev d 166 23 ls [vI x] h = some (.inl (some (vI x)), h) := Rdn hB_166 dX7_earliestOf_23 rfl
theorem v166_24 {d : Nat} {st : List MV} {h : Hp} {x : Option A3} {a1 a2 a3 : Option MV} : Ev d 166 24 [some (vO x), a1, a2, a3] st h = Ev d 166 25 [some (vO x), a1, a2, a3] (vO x :: st) h := Rnx (hB_166) (dX7_earliestOf_24) rfl
set_option maxRecDepth 100000 in
theorem v166_25 {d : Nat} {ls : LS3} {st : List MV} {h : Hp} {a : A3} (hS : gS h a = (1, 7)) : Ev d 166 25 ls (vR a :: st) h = Ev d 166 28 ls (vI (gI h a 8) :: st) h := Rget hB_166 dX7_earliestOf_25 rfl (Or.inl hS)
theorem v166_28 {d : Nat} {st : List MV} {h : Hp} {x : Int32} {a0 a1 a2 a3 : Option MV} : Ev d 166 28 [a0, a1, a2, a3] (vI x :: st) h = Ev d 166 29 [a0, a1, some (vI x), a3] st h := Rnx (hB_166) (dX7_earliestOf_28) rfl
theorem v166_29 {d : Nat} {st : List MV} {h : Hp} {x : Int32} {a0 a1 a3 : Option MV} : Ev d 166 29 [a0, a1, some (vI x), a3] st h = Ev d 166 30 [a0, a1, some (vI x), a3] (vI x :: st) h := Rnx (hB_166) (dX7_earliestOf_29) rfl
theorem v166_30 {d : Nat} {ls : LS3} {st : List MV} {h : Hp} : Ev d 166 30 ls st h = Ev d 166 33 ls (vI 400 :: st) h := Rnx (hB_166) (dX7_earliestOf_30) rfl
theorem v166_33 {d : Nat} {ls : LS3} {st : List MV} {h : Hp} {x y : Int32} : Ev d 166 33 ls (vI y :: vI x :: st) h = if y < x then Ev d 166 111 ls st h else Ev d 166 36 ls st h := Rif hB_166 dX7_earliestOf_33 rfl
theorem v166_36 {d : Nat} {st : List MV} {h : Hp} {x : Option A3} {a1 a2 a3 : Option MV} : Ev d 166 36 [some (vO x), a1, a2, a3] st h = Ev d 166 37 [some (vO x), a1, a2, a3] (vO x :: st) h := Rnx (hB_166) (dX7_earliestOf_36) rfl
theorem v166_37 {d : Nat} {st : List MV} {h : Hp} {x : Int32} {a0 a2 a3 : Option MV} : Ev d 166 37 [a0, some (vI x), a2, a3] st h = Ev d 166 38 [a0, some (vI x), a2, a3] (vI x :: st) h := Rnx (hB_166) (dX7_earliestOf_37) rfl
theorem v166_38 {d : Nat} {st : List MV} {h : Hp} {x : Int32} {a0 a1 a3 : Option MV} : Ev d 166 38 [a0, a1, some (vI x), a3] st h = Ev d 166 39 [a0, a1, some (vI x), a3] (vI x :: st) h := Rnx (hB_166) (dX7_earliestOf_38) rfl
theorem v166_39 {d : Nat} {st : List MV} {h : Hp} {x : Option A3} {a1 a2 a3 : Option MV} : Ev d 166 39 [some (vO x), a1, a2, a3] st h = Ev d 166 40 [some (vO x), a1, a2, a3] (vO x :: st) h := Rnx (hB_166) (dX7_earliestOf_39) rfl
set_option maxRecDepth 100000 in
theorem v166_40 {d : Nat} {ls : LS3} {st : List MV} {h : Hp} {a : A3} (hS : gS h a = (1, 7)) : Ev d 166 40 ls (vR a :: st) h = Ev d 166 43 ls (vO (gR h a 13) :: st) h := Rget hB_166 dX7_earliestOf_40 rfl (Or.inl hS)
theorem v166_43 {d : Nat} {st : List MV} {h : Hp} {x : Int32} {a0 a2 a3 : Option MV} : Ev d 166 43 [a0, some (vI x), a2, a3] st h = Ev d 166 44 [a0, some (vI x), a2, a3] (vI x :: st) h := Rnx (hB_166) (dX7_earliestOf_43) rfl
theorem v166_44 {d : Nat} {ls : LS3} {st : List MV} {h : Hp} {a : A3} {j : Int32} (hS : (gS h a).1 ∈ [2, 9]) (hj : inB j (gS h a).2) : Ev d 166 44 ls (vI j :: vR a :: st) h = Ev d 166 45 ls (vI (gI h a j.toNatClampNeg) :: st) h := Rald (ks := [2, 9]) (f := fun a j => vI (gI h a j)) hB_166 dX7_earliestOf_44 rfl hS hj
theorem v166_45 {d : Nat} {ls : LS3} {st : List MV} {h : Hp} : Ev d 166 45 ls st h = Ev d 166 46 ls (vI 1 :: st) h := Rnx (hB_166) (dX7_earliestOf_45) rfl
theorem v166_46 {d : Nat} {ls : LS3} {st : List MV} {h : Hp} {x y : Int32} : Ev d 166 46 ls (vI y :: vI x :: st) h = Ev d 166 47 ls (vI (x + y) :: st) h := Rnx (hB_166) (dX7_earliestOf_46) rfl
set_option maxRecDepth 100000 in
theorem v166_47 {d : Nat} {ls : LS3} {st : List MV} {h : Hp} {a : A3} {x0 : Int32} {x1 : Int32} {x2 : Int32} (hS : gS h a = (1, 7)) (hc : catS st ≤ 8) : Ev (d + 1) 166 47 ls (vI x2 :: vI x1 :: vI x0 :: vR a :: st) h = Evk 163 (d + 1) 166 47 ls st (Ev d 163 0 [some (vR a), some (vI x0), some (vI x1), some (vI x2)] [] h) := RcallO (idx := 149) (n := 3) (kd := 0) (As' := [vI x0, vI x1, vI x2]) hB_166 dX7_earliestOf_47 rfl rfl (by decide) rfl rfl (Or.inl hS) rfl hc
theorem v166_50 {d : Nat} {st : List MV} {h : Hp} {x : Option A3} {a1 a2 a3 : Option MV} : Ev d 166 50 [some (vO x), a1, a2, a3] st h = Ev d 166 51 [some (vO x), a1, a2, a3] (vO x :: st) h := Rnx (hB_166) (dX7_earliestOf_50) rfl
set_option maxRecDepth 100000 in
theorem v166_51 {d : Nat} {ls : LS3} {st : List MV} {h : Hp} {a : A3} (hS : gS h a = (1, 7)) : Ev d 166 51 ls (vR a :: st) h = Ev d 166 54 ls (vI (gI h a 8) :: st) h := Rget hB_166 dX7_earliestOf_51 rfl (Or.inl hS)
theorem v166_54 {d : Nat} {ls : LS3} {st : List MV} {h : Hp} {x y : Int32} : Ev d 166 54 ls (vI y :: vI x :: st) h = if y ≤ x then Ev d 166 60 ls st h else Ev d 166 57 ls st h := Rif hB_166 dX7_earliestOf_54 rfl
theorem v166_57 {d : Nat} {ls : LS3} {st : List MV} {h : Hp} : Ev d 166 57 ls st h = Ev d 166 105 ls st h := Rnx (hB_166) (dX7_earliestOf_57) rfl
theorem v166_60 {d : Nat} {ls : LS3} {st : List MV} {h : Hp} : Ev d 166 60 ls st h = Ev d 166 61 ls (vI 0 :: st) h := Rnx (hB_166) (dX7_earliestOf_60) rfl
theorem v166_61 {d : Nat} {st : List MV} {h : Hp} {x : Int32} {a0 a1 a2 a3 : Option MV} : Ev d 166 61 [a0, a1, a2, a3] (vI x :: st) h = Ev d 166 62 [a0, a1, a2, some (vI x)] st h := Rnx (hB_166) (dX7_earliestOf_61) rfl
theorem v166_62 {d : Nat} {st : List MV} {h : Hp} {x : Int32} {a0 a1 a2 : Option MV} : Ev d 166 62 [a0, a1, a2, some (vI x)] st h = Ev d 166 63 [a0, a1, a2, some (vI x)] (vI x :: st) h := Rnx (hB_166) (dX7_earliestOf_62) rfl
theorem v166_63 {d : Nat} {ls : LS3} {st : List MV} {h : Hp} : Ev d 166 63 ls st h = Ev d 166 65 ls (vI 21 :: st) h := Rnx (hB_166) (dX7_earliestOf_63) rfl
theorem v166_65 {d : Nat} {ls : LS3} {st : List MV} {h : Hp} {x y : Int32} : Ev d 166 65 ls (vI y :: vI x :: st) h = if y ≤ x then Ev d 166 105 ls st h else Ev d 166 68 ls st h := Rif hB_166 dX7_earliestOf_65 rfl
theorem v166_68 {d : Nat} {st : List MV} {h : Hp} {x : Option A3} {a1 a2 a3 : Option MV} : Ev d 166 68 [some (vO x), a1, a2, a3] st h = Ev d 166 69 [some (vO x), a1, a2, a3] (vO x :: st) h := Rnx (hB_166) (dX7_earliestOf_68) rfl
theorem v166_69 {d : Nat} {st : List MV} {h : Hp} {x : Int32} {a0 a2 a3 : Option MV} : Ev d 166 69 [a0, some (vI x), a2, a3] st h = Ev d 166 70 [a0, some (vI x), a2, a3] (vI x :: st) h := Rnx (hB_166) (dX7_earliestOf_69) rfl
theorem v166_70 {d : Nat} {st : List MV} {h : Hp} {x : Int32} {a0 a1 a2 : Option MV} : Ev d 166 70 [a0, a1, a2, some (vI x)] st h = Ev d 166 71 [a0, a1, a2, some (vI x)] (vI x :: st) h := Rnx (hB_166) (dX7_earliestOf_70) rfl
theorem v166_71 {d : Nat} {ls : LS3} {st : List MV} {h : Hp} : Ev d 166 71 ls st h = Ev d 166 72 ls (vI 3 :: st) h := Rnx (hB_166) (dX7_earliestOf_71) rfl
theorem v166_72 {d : Nat} {ls : LS3} {st : List MV} {h : Hp} {x y : Int32} (hy : y ≠ 0) : Ev d 166 72 ls (vI y :: vI x :: st) h = Ev d 166 73 ls (vI (x - x / y * y) :: st) h := Rrem hB_166 dX7_earliestOf_72 hy
theorem v166_73 {d : Nat} {st : List MV} {h : Hp} {x : Int32} {a0 a1 a3 : Option MV} : Ev d 166 73 [a0, a1, some (vI x), a3] st h = Ev d 166 74 [a0, a1, some (vI x), a3] (vI x :: st) h := Rnx (hB_166) (dX7_earliestOf_73) rfl
theorem v166_74 {d : Nat} {st : List MV} {h : Hp} {x : Int32} {a0 a1 a2 : Option MV} : Ev d 166 74 [a0, a1, a2, some (vI x)] st h = Ev d 166 75 [a0, a1, a2, some (vI x)] (vI x :: st) h := Rnx (hB_166) (dX7_earliestOf_74) rfl
theorem v166_75 {d : Nat} {ls : LS3} {st : List MV} {h : Hp} : Ev d 166 75 ls st h = Ev d 166 76 ls (vI 3 :: st) h := Rnx (hB_166) (dX7_earliestOf_75) rfl
theorem v166_76 {d : Nat} {ls : LS3} {st : List MV} {h : Hp} {x y : Int32} (hy : y ≠ 0) : Ev d 166 76 ls (vI y :: vI x :: st) h = Ev d 166 77 ls (vI (x / y) :: st) h := Rdiv hB_166 dX7_earliestOf_76 hy
set_option maxRecDepth 100000 in
theorem v166_77 {d : Nat} {ls : LS3} {st : List MV} {h : Hp} {a : A3} {x0 : Int32} {x1 : Int32} {x2 : Int32} {x3 : Int32} (hS : gS h a = (1, 7)) (hc : catS st ≤ 8) : Ev (d + 1) 166 77 ls (vI x3 :: vI x2 :: vI x1 :: vI x0 :: vR a :: st) h = Evk 164 (d + 1) 166 77 ls st (Ev d 164 0 [some (vR a), some (vI x0), some (vI x1), some (vI x2), some (vI x3), none] [] h) := RcallO (idx := 155) (n := 4) (kd := 0) (As' := [vI x0, vI x1, vI x2, vI x3]) hB_166 dX7_earliestOf_77 rfl rfl (by decide) rfl rfl (Or.inl hS) rfl hc
theorem v166_80 {d : Nat} {ls : LS3} {st : List MV} {h : Hp} {x : Int32} : Ev d 166 80 ls (vI x :: st) h = if x = 0 then Ev d 166 83 ls st h else Ev d 166 99 ls st h := Rifn hB_166 dX7_earliestOf_80 rfl
theorem v166_83 {d : Nat} {ls : LS3} {st : List MV} {h : Hp} : Ev d 166 83 ls st h = Ev d 166 85 ls (vI 100 :: st) h := Rnx (hB_166) (dX7_earliestOf_83) rfl
theorem v166_85 {d : Nat} {st : List MV} {h : Hp} {x : Int32} {a0 a1 a3 : Option MV} : Ev d 166 85 [a0, a1, some (vI x), a3] st h = Ev d 166 86 [a0, a1, some (vI x), a3] (vI x :: st) h := Rnx (hB_166) (dX7_earliestOf_85) rfl
theorem v166_86 {d : Nat} {ls : LS3} {st : List MV} {h : Hp} {x y : Int32} : Ev d 166 86 ls (vI y :: vI x :: st) h = Ev d 166 87 ls (vI (x * y) :: st) h := Rnx (hB_166) (dX7_earliestOf_86) rfl
theorem v166_87 {d : Nat} {ls : LS3} {st : List MV} {h : Hp} : Ev d 166 87 ls st h = Ev d 166 89 ls (vI 10 :: st) h := Rnx (hB_166) (dX7_earliestOf_87) rfl
theorem v166_89 {d : Nat} {st : List MV} {h : Hp} {x : Int32} {a0 a1 a2 : Option MV} : Ev d 166 89 [a0, a1, a2, some (vI x)] st h = Ev d 166 90 [a0, a1, a2, some (vI x)] (vI x :: st) h := Rnx (hB_166) (dX7_earliestOf_89) rfl
theorem v166_90 {d : Nat} {ls : LS3} {st : List MV} {h : Hp} : Ev d 166 90 ls st h = Ev d 166 91 ls (vI 3 :: st) h := Rnx (hB_166) (dX7_earliestOf_90) rfl
theorem v166_91 {d : Nat} {ls : LS3} {st : List MV} {h : Hp} {x y : Int32} (hy : y ≠ 0) : Ev d 166 91 ls (vI y :: vI x :: st) h = Ev d 166 92 ls (vI (x / y) :: st) h := Rdiv hB_166 dX7_earliestOf_91 hy
theorem v166_92 {d : Nat} {ls : LS3} {st : List MV} {h : Hp} {x y : Int32} : Ev d 166 92 ls (vI y :: vI x :: st) h = Ev d 166 93 ls (vI (x * y) :: st) h := Rnx (hB_166) (dX7_earliestOf_92) rfl
theorem v166_93 {d : Nat} {ls : LS3} {st : List MV} {h : Hp} {x y : Int32} : Ev d 166 93 ls (vI y :: vI x :: st) h = Ev d 166 94 ls (vI (x + y) :: st) h := Rnx (hB_166) (dX7_earliestOf_93) rfl
theorem v166_94 {d : Nat} {st : List MV} {h : Hp} {x : Int32} {a0 a1 a2 : Option MV} : Ev d 166 94 [a0, a1, a2, some (vI x)] st h = Ev d 166 95 [a0, a1, a2, some (vI x)] (vI x :: st) h := Rnx (hB_166) (dX7_earliestOf_94) rfl
theorem v166_95 {d : Nat} {ls : LS3} {st : List MV} {h : Hp} : Ev d 166 95 ls st h = Ev d 166 96 ls (vI 3 :: st) h := Rnx (hB_166) (dX7_earliestOf_95) rfl
theorem v166_96 {d : Nat} {ls : LS3} {st : List MV} {h : Hp} {x y : Int32} (hy : y ≠ 0) : Ev d 166 96 ls (vI y :: vI x :: st) h = Ev d 166 97 ls (vI (x - x / y * y) :: st) h := Rrem hB_166 dX7_earliestOf_96 hy
theorem v166_97 {d : Nat} {ls : LS3} {st : List MV} {h : Hp} {x y : Int32} : Ev d 166 97 ls (vI y :: vI x :: st) h = Ev d 166 98 ls (vI (x + y) :: st) h := Rnx (hB_166) (dX7_earliestOf_97) rfl
theorem v166_98 {d : Nat} {ls : LS3} {h : Hp} {x : Int32} : Ev d 166 98 ls [vI x] h = some (.inl (some (vI x)), h) := Rdn hB_166 dX7_earliestOf_98 rfl
theorem v166_99 {d : Nat} {st : List MV} {h : Hp} {x : Int32} {a0 a1 a2 : Option MV} : Ev d 166 99 [a0, a1, a2, some (vI x)] st h = Ev d 166 102 [a0, a1, a2, some (vI (x + 1))] st h := Rnx (hB_166) (dX7_earliestOf_99) rfl
theorem v166_102 {d : Nat} {ls : LS3} {st : List MV} {h : Hp} : Ev d 166 102 ls st h = Ev d 166 62 ls st h := Rnx (hB_166) (dX7_earliestOf_102) rfl
theorem v166_105 {d : Nat} {st : List MV} {h : Hp} {x : Int32} {a0 a1 a3 : Option MV} : Ev d 166 105 [a0, a1, some (vI x), a3] st h = Ev d 166 108 [a0, a1, some (vI (x + 1)), a3] st h := Rnx (hB_166) (dX7_earliestOf_105) rfl
theorem v166_108 {d : Nat} {ls : LS3} {st : List MV} {h : Hp} : Ev d 166 108 ls st h = Ev d 166 29 ls st h := Rnx (hB_166) (dX7_earliestOf_108) rfl
theorem v166_111 {d : Nat} {ls : LS3} {st : List MV} {h : Hp} : Ev d 166 111 ls st h = Ev d 166 112 ls (vI (-1) :: st) h := Rnx (hB_166) (dX7_earliestOf_111) rfl
theorem v166_112 {d : Nat} {ls : LS3} {h : Hp} {x : Int32} : Ev d 166 112 ls [vI x] h = some (.inl (some (vI x)), h) := Rdn hB_166 dX7_earliestOf_112 rfl
theorem hB_167 : mB 167 = cX7_clear := rfl
theorem v167_0 {d : Nat} {st : List MV} {h : Hp} {x : Option A3} {a1 : Option MV} : Ev d 167 0 [some (vO x), a1] st h = Ev d 167 1 [some (vO x), a1] (vO x :: st) h := Rnx (hB_167) (dX7_clear_0) rfl
theorem v167_1 {d : Nat} {ls : LS3} {st : List MV} {h : Hp} : Ev d 167 1 ls st h = Ev d 167 2 ls (vI 0 :: st) h := Rnx (hB_167) (dX7_clear_1) rfl
set_option maxRecDepth 100000 in
theorem v167_2 {d : Nat} {ls : LS3} {st : List MV} {h : Hp} {a : A3} {x : Int32} (hS : gS h a = (1, 7)) : Ev d 167 2 ls (vI x :: vR a :: st) h = Ev d 167 5 ls st (sI h a 0 x) := RputI hB_167 dX7_clear_2 rfl rfl (by decide) hS (Or.inl rfl)
theorem v167_5 {d : Nat} {st : List MV} {h : Hp} {x : Option A3} {a1 : Option MV} : Ev d 167 5 [some (vO x), a1] st h = Ev d 167 6 [some (vO x), a1] (vO x :: st) h := Rnx (hB_167) (dX7_clear_5) rfl
set_option maxRecDepth 100000 in
theorem v167_6 {d : Nat} {ls : LS3} {st : List MV} {h : Hp} {a : A3} (hS : gS h a = (1, 7)) : Ev d 167 6 ls (vR a :: st) h = Ev d 167 9 ls (vI (gI h a 7) :: st) h := Rget hB_167 dX7_clear_6 rfl (Or.inl hS)
theorem v167_9 {d : Nat} {st : List MV} {h : Hp} {x : Int32} {a0 a1 : Option MV} : Ev d 167 9 [a0, a1] (vI x :: st) h = Ev d 167 10 [a0, some (vI x)] st h := Rnx (hB_167) (dX7_clear_9) rfl
theorem v167_10 {d : Nat} {st : List MV} {h : Hp} {x : Option A3} {a1 : Option MV} : Ev d 167 10 [some (vO x), a1] st h = Ev d 167 11 [some (vO x), a1] (vO x :: st) h := Rnx (hB_167) (dX7_clear_10) rfl
theorem v167_11 {d : Nat} {ls : LS3} {st : List MV} {h : Hp} : Ev d 167 11 ls st h = Ev d 167 12 ls (vI 0 :: st) h := Rnx (hB_167) (dX7_clear_11) rfl
set_option maxRecDepth 100000 in
theorem v167_12 {d : Nat} {ls : LS3} {st : List MV} {h : Hp} {a : A3} {x : Int32} (hS : gS h a = (1, 7)) : Ev d 167 12 ls (vI x :: vR a :: st) h = Ev d 167 15 ls st (sI h a 7 x) := RputI hB_167 dX7_clear_12 rfl rfl (by decide) hS (Or.inl rfl)
theorem v167_15 {d : Nat} {st : List MV} {h : Hp} {x : Option A3} {a1 : Option MV} : Ev d 167 15 [some (vO x), a1] st h = Ev d 167 16 [some (vO x), a1] (vO x :: st) h := Rnx (hB_167) (dX7_clear_15) rfl
theorem v167_16 {d : Nat} {ls : LS3} {st : List MV} {h : Hp} : Ev d 167 16 ls st h = Ev d 167 17 ls (vI 0 :: st) h := Rnx (hB_167) (dX7_clear_16) rfl
set_option maxRecDepth 100000 in
theorem v167_17 {d : Nat} {ls : LS3} {st : List MV} {h : Hp} {a : A3} {x : Int32} (hS : gS h a = (1, 7)) : Ev d 167 17 ls (vI x :: vR a :: st) h = Ev d 167 20 ls st (sI h a 19 x) := RputI hB_167 dX7_clear_17 rfl rfl (by decide) hS (Or.inl rfl)
theorem v167_20 {d : Nat} {st : List MV} {h : Hp} {x : Option A3} {a1 : Option MV} : Ev d 167 20 [some (vO x), a1] st h = Ev d 167 21 [some (vO x), a1] (vO x :: st) h := Rnx (hB_167) (dX7_clear_20) rfl
theorem v167_21 {d : Nat} {ls : LS3} {st : List MV} {h : Hp} : Ev d 167 21 ls st h = Ev d 167 22 ls (vI 0 :: st) h := Rnx (hB_167) (dX7_clear_21) rfl
set_option maxRecDepth 100000 in
theorem v167_22 {d : Nat} {ls : LS3} {st : List MV} {h : Hp} {a : A3} {x : Int32} (hS : gS h a = (1, 7)) : Ev d 167 22 ls (vI x :: vR a :: st) h = Ev d 167 25 ls st (sI h a 20 x) := RputI hB_167 dX7_clear_22 rfl rfl (by decide) hS (Or.inl rfl)
theorem v167_25 {d : Nat} {st : List MV} {h : Hp} {x : Option A3} {a1 : Option MV} : Ev d 167 25 [some (vO x), a1] st h = Ev d 167 26 [some (vO x), a1] (vO x :: st) h := Rnx (hB_167) (dX7_clear_25) rfl
theorem v167_26 {d : Nat} {ls : LS3} {st : List MV} {h : Hp} : Ev d 167 26 ls st h = Ev d 167 27 ls (vI 0 :: st) h := Rnx (hB_167) (dX7_clear_26) rfl
set_option maxRecDepth 100000 in
theorem v167_27 {d : Nat} {ls : LS3} {st : List MV} {h : Hp} {a : A3} {x : Int32} (hS : gS h a = (1, 7)) : Ev d 167 27 ls (vI x :: vR a :: st) h = Ev d 167 30 ls st (sI h a 21 x) := RputI hB_167 dX7_clear_27 rfl rfl (by decide) hS (Or.inl rfl)
theorem v167_30 {d : Nat} {st : List MV} {h : Hp} {x : Option A3} {a1 : Option MV} : Ev d 167 30 [some (vO x), a1] st h = Ev d 167 31 [some (vO x), a1] (vO x :: st) h := Rnx (hB_167) (dX7_clear_30) rfl
theorem v167_31 {d : Nat} {ls : LS3} {st : List MV} {h : Hp} : Ev d 167 31 ls st h = Ev d 167 32 ls (vI 0 :: st) h := Rnx (hB_167) (dX7_clear_31) rfl
set_option maxRecDepth 100000 in
theorem v167_32 {d : Nat} {ls : LS3} {st : List MV} {h : Hp} {a : A3} {x : Int32} (hS : gS h a = (1, 7)) : Ev d 167 32 ls (vI x :: vR a :: st) h = Ev d 167 35 ls st (sI h a 8 x) := RputI hB_167 dX7_clear_32 rfl rfl (by decide) hS (Or.inl rfl)
theorem v167_35 {d : Nat} {st : List MV} {h : Hp} {x : Option A3} {a1 : Option MV} : Ev d 167 35 [some (vO x), a1] st h = Ev d 167 36 [some (vO x), a1] (vO x :: st) h := Rnx (hB_167) (dX7_clear_35) rfl
theorem v167_36 {d : Nat} {ls : LS3} {st : List MV} {h : Hp} : Ev d 167 36 ls st h = Ev d 167 37 ls (vI 0 :: st) h := Rnx (hB_167) (dX7_clear_36) rfl
set_option maxRecDepth 100000 in
theorem v167_37 {d : Nat} {ls : LS3} {st : List MV} {h : Hp} {a : A3} {x : Int32} (hS : gS h a = (1, 7)) : Ev d 167 37 ls (vI x :: vR a :: st) h = Ev d 167 40 ls st (sI h a 33 x) := RputI hB_167 dX7_clear_37 rfl rfl (by decide) hS (Or.inl rfl)
theorem v167_40 {d : Nat} {st : List MV} {h : Hp} {x : Int32} {a0 : Option MV} : Ev d 167 40 [a0, some (vI x)] st h = Ev d 167 41 [a0, some (vI x)] (vI x :: st) h := Rnx (hB_167) (dX7_clear_40) rfl
theorem v167_41 {d : Nat} {ls : LS3} {h : Hp} {x : Int32} : Ev d 167 41 ls [vI x] h = some (.inl (some (vI x)), h) := Rdn hB_167 dX7_clear_41 rfl
theorem hB_168 : mB 168 = cX7_addPerson := rfl
theorem v168_0 {d : Nat} {st : List MV} {h : Hp} {x : Int32} {a0 a2 a3 a4 a5 a6 : Option MV} : Ev d 168 0 [a0, some (vI x), a2, a3, a4, a5, a6] st h = Ev d 168 1 [a0, some (vI x), a2, a3, a4, a5, a6] (vI x :: st) h := Rnx (hB_168) (dX7_addPerson_0) rfl
theorem v168_1 {d : Nat} {ls : LS3} {st : List MV} {h : Hp} : Ev d 168 1 ls st h = Ev d 168 2 ls (vI 0 :: st) h := Rnx (hB_168) (dX7_addPerson_1) rfl
theorem v168_2 {d : Nat} {ls : LS3} {st : List MV} {h : Hp} : Ev d 168 2 ls st h = Ev d 168 3 ls (vI 2 :: st) h := Rnx (hB_168) (dX7_addPerson_2) rfl
set_option maxRecDepth 100000 in
theorem v168_3 {d : Nat} {ls : LS3} {st : List MV} {h : Hp} {x0 : Int32} {x1 : Int32} {x2 : Int32} (hc : catS st ≤ 8) : Ev (d + 1) 168 3 ls (vI x2 :: vI x1 :: vI x0 :: st) h = Evk 143 (d + 1) 168 3 ls st (Ev d 143 0 [some (vI x0), some (vI x1), some (vI x2)] [] h) := RcallS (idx := 87) (n := 3) (kd := 1) (As := [vI x0, vI x1, vI x2]) hB_168 dX7_addPerson_3 rfl rfl (by decide) rfl rfl rfl hc
theorem v168_6 {d : Nat} {ls : LS3} {st : List MV} {h : Hp} {x : Int32} : Ev d 168 6 ls (vI x :: st) h = if x = 0 then Ev d 168 39 ls st h else Ev d 168 9 ls st h := Rif hB_168 dX7_addPerson_6 rfl
theorem v168_9 {d : Nat} {st : List MV} {h : Hp} {x : Int32} {a0 a1 a3 a4 a5 a6 : Option MV} : Ev d 168 9 [a0, a1, some (vI x), a3, a4, a5, a6] st h = Ev d 168 10 [a0, a1, some (vI x), a3, a4, a5, a6] (vI x :: st) h := Rnx (hB_168) (dX7_addPerson_9) rfl
theorem v168_10 {d : Nat} {ls : LS3} {st : List MV} {h : Hp} : Ev d 168 10 ls st h = Ev d 168 11 ls (vI 0 :: st) h := Rnx (hB_168) (dX7_addPerson_10) rfl
theorem v168_11 {d : Nat} {ls : LS3} {st : List MV} {h : Hp} : Ev d 168 11 ls st h = Ev d 168 13 ls (vI 63 :: st) h := Rnx (hB_168) (dX7_addPerson_11) rfl
set_option maxRecDepth 100000 in
theorem v168_13 {d : Nat} {ls : LS3} {st : List MV} {h : Hp} {x0 : Int32} {x1 : Int32} {x2 : Int32} (hc : catS st ≤ 8) : Ev (d + 1) 168 13 ls (vI x2 :: vI x1 :: vI x0 :: st) h = Evk 143 (d + 1) 168 13 ls st (Ev d 143 0 [some (vI x0), some (vI x1), some (vI x2)] [] h) := RcallS (idx := 87) (n := 3) (kd := 1) (As := [vI x0, vI x1, vI x2]) hB_168 dX7_addPerson_13 rfl rfl (by decide) rfl rfl rfl hc
theorem v168_16 {d : Nat} {ls : LS3} {st : List MV} {h : Hp} {x : Int32} : Ev d 168 16 ls (vI x :: st) h = if x = 0 then Ev d 168 39 ls st h else Ev d 168 19 ls st h := Rif hB_168 dX7_addPerson_16 rfl
theorem v168_19 {d : Nat} {st : List MV} {h : Hp} {x : Int32} {a0 a1 a2 a4 a5 a6 : Option MV} : Ev d 168 19 [a0, a1, a2, some (vI x), a4, a5, a6] st h = Ev d 168 20 [a0, a1, a2, some (vI x), a4, a5, a6] (vI x :: st) h := Rnx (hB_168) (dX7_addPerson_19) rfl
theorem v168_20 {d : Nat} {ls : LS3} {st : List MV} {h : Hp} : Ev d 168 20 ls st h = Ev d 168 21 ls (vI 0 :: st) h := Rnx (hB_168) (dX7_addPerson_20) rfl
theorem v168_21 {d : Nat} {ls : LS3} {st : List MV} {h : Hp} : Ev d 168 21 ls st h = Ev d 168 22 ls (vI 3 :: st) h := Rnx (hB_168) (dX7_addPerson_21) rfl
set_option maxRecDepth 100000 in
theorem v168_22 {d : Nat} {ls : LS3} {st : List MV} {h : Hp} {x0 : Int32} {x1 : Int32} {x2 : Int32} (hc : catS st ≤ 8) : Ev (d + 1) 168 22 ls (vI x2 :: vI x1 :: vI x0 :: st) h = Evk 143 (d + 1) 168 22 ls st (Ev d 143 0 [some (vI x0), some (vI x1), some (vI x2)] [] h) := RcallS (idx := 87) (n := 3) (kd := 1) (As := [vI x0, vI x1, vI x2]) hB_168 dX7_addPerson_22 rfl rfl (by decide) rfl rfl rfl hc
theorem v168_25 {d : Nat} {ls : LS3} {st : List MV} {h : Hp} {x : Int32} : Ev d 168 25 ls (vI x :: st) h = if x = 0 then Ev d 168 39 ls st h else Ev d 168 28 ls st h := Rif hB_168 dX7_addPerson_25 rfl
theorem v168_28 {d : Nat} {st : List MV} {h : Hp} {x : Int32} {a0 a1 a2 a3 a5 a6 : Option MV} : Ev d 168 28 [a0, a1, a2, a3, some (vI x), a5, a6] st h = Ev d 168 30 [a0, a1, a2, a3, some (vI x), a5, a6] (vI x :: st) h := Rnx (hB_168) (dX7_addPerson_28) rfl
theorem v168_30 {d : Nat} {ls : LS3} {st : List MV} {h : Hp} : Ev d 168 30 ls st h = Ev d 168 31 ls (vI 1 :: st) h := Rnx (hB_168) (dX7_addPerson_30) rfl
theorem v168_31 {d : Nat} {ls : LS3} {st : List MV} {h : Hp} : Ev d 168 31 ls st h = Ev d 168 33 ls (vI 6 :: st) h := Rnx (hB_168) (dX7_addPerson_31) rfl
set_option maxRecDepth 100000 in
theorem v168_33 {d : Nat} {ls : LS3} {st : List MV} {h : Hp} {x0 : Int32} {x1 : Int32} {x2 : Int32} (hc : catS st ≤ 8) : Ev (d + 1) 168 33 ls (vI x2 :: vI x1 :: vI x0 :: st) h = Evk 143 (d + 1) 168 33 ls st (Ev d 143 0 [some (vI x0), some (vI x1), some (vI x2)] [] h) := RcallS (idx := 87) (n := 3) (kd := 1) (As := [vI x0, vI x1, vI x2]) hB_168 dX7_addPerson_33 rfl rfl (by decide) rfl rfl rfl hc
theorem v168_36 {d : Nat} {ls : LS3} {st : List MV} {h : Hp} {x : Int32} : Ev d 168 36 ls (vI x :: st) h = if x = 0 then Ev d 168 39 ls st h else Ev d 168 45 ls st h := Rifn hB_168 dX7_addPerson_36 rfl
theorem v168_39 {d : Nat} {st : List MV} {h : Hp} {x : Option A3} {a1 a2 a3 a4 a5 a6 : Option MV} : Ev d 168 39 [some (vO x), a1, a2, a3, a4, a5, a6] st h = Ev d 168 40 [some (vO x), a1, a2, a3, a4, a5, a6] (vO x :: st) h := Rnx (hB_168) (dX7_addPerson_39) rfl
theorem v168_40 {d : Nat} {ls : LS3} {st : List MV} {h : Hp} : Ev d 168 40 ls st h = Ev d 168 41 ls (vI 1 :: st) h := Rnx (hB_168) (dX7_addPerson_40) rfl
set_option maxRecDepth 100000 in
theorem v168_41 {d : Nat} {ls : LS3} {st : List MV} {h : Hp} {a : A3} {x0 : Int32} (hS : gS h a = (1, 7)) (hc : catS st ≤ 8) : Ev (d + 1) 168 41 ls (vI x0 :: vR a :: st) h = Evk 141 (d + 1) 168 41 ls st (Ev d 141 0 [some (vR a), some (vI x0)] [] h) := RcallO (idx := 168) (n := 1) (kd := 0) (As' := [vI x0]) hB_168 dX7_addPerson_41 rfl rfl (by decide) rfl rfl (Or.inl hS) rfl hc
theorem v168_44 {d : Nat} {ls : LS3} {h : Hp} {x : Int32} : Ev d 168 44 ls [vI x] h = some (.inl (some (vI x)), h) := Rdn hB_168 dX7_addPerson_44 rfl
theorem v168_45 {d : Nat} {st : List MV} {h : Hp} {x : Option A3} {a1 a2 a3 a4 a5 a6 : Option MV} : Ev d 168 45 [some (vO x), a1, a2, a3, a4, a5, a6] st h = Ev d 168 46 [some (vO x), a1, a2, a3, a4, a5, a6] (vO x :: st) h := Rnx (hB_168) (dX7_addPerson_45) rfl
set_option maxRecDepth 100000 in
theorem v168_46 {d : Nat} {ls : LS3} {st : List MV} {h : Hp} {a : A3} (hS : gS h a = (1, 7)) : Ev d 168 46 ls (vR a :: st) h = Ev d 168 49 ls (vI (gI h a 7) :: st) h := Rget hB_168 dX7_addPerson_46 rfl (Or.inl hS)
theorem v168_49 {d : Nat} {ls : LS3} {st : List MV} {h : Hp} : Ev d 168 49 ls st h = Ev d 168 51 ls (vI 14 :: st) h := Rnx (hB_168) (dX7_addPerson_49) rfl
theorem v168_51 {d : Nat} {ls : LS3} {st : List MV} {h : Hp} {x y : Int32} : Ev d 168 51 ls (vI y :: vI x :: st) h = if x = y then Ev d 168 54 ls st h else Ev d 168 60 ls st h := Rifn hB_168 dX7_addPerson_51 rfl
theorem v168_54 {d : Nat} {st : List MV} {h : Hp} {x : Option A3} {a1 a2 a3 a4 a5 a6 : Option MV} : Ev d 168 54 [some (vO x), a1, a2, a3, a4, a5, a6] st h = Ev d 168 55 [some (vO x), a1, a2, a3, a4, a5, a6] (vO x :: st) h := Rnx (hB_168) (dX7_addPerson_54) rfl
theorem v168_55 {d : Nat} {ls : LS3} {st : List MV} {h : Hp} : Ev d 168 55 ls st h = Ev d 168 56 ls (vI 2 :: st) h := Rnx (hB_168) (dX7_addPerson_55) rfl
set_option maxRecDepth 100000 in
theorem v168_56 {d : Nat} {ls : LS3} {st : List MV} {h : Hp} {a : A3} {x0 : Int32} (hS : gS h a = (1, 7)) (hc : catS st ≤ 8) : Ev (d + 1) 168 56 ls (vI x0 :: vR a :: st) h = Evk 141 (d + 1) 168 56 ls st (Ev d 141 0 [some (vR a), some (vI x0)] [] h) := RcallO (idx := 168) (n := 1) (kd := 0) (As' := [vI x0]) hB_168 dX7_addPerson_56 rfl rfl (by decide) rfl rfl (Or.inl hS) rfl hc
theorem v168_59 {d : Nat} {ls : LS3} {h : Hp} {x : Int32} : Ev d 168 59 ls [vI x] h = some (.inl (some (vI x)), h) := Rdn hB_168 dX7_addPerson_59 rfl
theorem v168_60 {d : Nat} {st : List MV} {h : Hp} {x : Option A3} {a1 a2 a3 a4 a5 a6 : Option MV} : Ev d 168 60 [some (vO x), a1, a2, a3, a4, a5, a6] st h = Ev d 168 61 [some (vO x), a1, a2, a3, a4, a5, a6] (vO x :: st) h := Rnx (hB_168) (dX7_addPerson_60) rfl
theorem v168_61 {d : Nat} {ls : LS3} {st : List MV} {h : Hp} : Ev d 168 61 ls st h = Ev d 168 62 ls (vI 0 :: st) h := Rnx (hB_168) (dX7_addPerson_61) rfl
set_option maxRecDepth 100000 in
theorem v168_62 {d : Nat} {ls : LS3} {st : List MV} {h : Hp} {a : A3} {x : Int32} (hS : gS h a = (1, 7)) : Ev d 168 62 ls (vI x :: vR a :: st) h = Ev d 168 65 ls st (sI h a 0 x) := RputI hB_168 dX7_addPerson_62 rfl rfl (by decide) hS (Or.inl rfl)
theorem v168_65 {d : Nat} {st : List MV} {h : Hp} {x : Option A3} {a1 a2 a3 a4 a5 a6 : Option MV} : Ev d 168 65 [some (vO x), a1, a2, a3, a4, a5, a6] st h = Ev d 168 66 [some (vO x), a1, a2, a3, a4, a5, a6] (vO x :: st) h := Rnx (hB_168) (dX7_addPerson_65) rfl
set_option maxRecDepth 100000 in
theorem v168_66 {d : Nat} {ls : LS3} {st : List MV} {h : Hp} {a : A3}  (hS : gS h a = (1, 7)) (hc : catS st ≤ 8) : Ev (d + 1) 168 66 ls (vR a :: st) h = Evk 230 (d + 1) 168 66 ls st (Ev d 230 0 [some (vR a)] [] h) := RcallO (idx := 171) (n := 0) (kd := 0) (As' := []) hB_168 dX7_addPerson_66 rfl rfl (by decide) rfl rfl (Or.inl hS) rfl hc
theorem v168_69 {d : Nat} {st : List MV} {h : Hp} {x : Option A3} {a1 a2 a3 a4 a5 a6 : Option MV} : Ev d 168 69 [some (vO x), a1, a2, a3, a4, a5, a6] st h = Ev d 168 70 [some (vO x), a1, a2, a3, a4, a5, a6] (vO x :: st) h := Rnx (hB_168) (dX7_addPerson_69) rfl
set_option maxRecDepth 100000 in
theorem v168_70 {d : Nat} {ls : LS3} {st : List MV} {h : Hp} {a : A3} (hS : gS h a = (1, 7)) : Ev d 168 70 ls (vR a :: st) h = Ev d 168 73 ls (vI (gI h a 7) :: st) h := Rget hB_168 dX7_addPerson_70 rfl (Or.inl hS)
theorem v168_73 {d : Nat} {st : List MV} {h : Hp} {x : Int32} {a0 a1 a2 a3 a4 a5 a6 : Option MV} : Ev d 168 73 [a0, a1, a2, a3, a4, a5, a6] (vI x :: st) h = Ev d 168 75 [a0, a1, a2, a3, a4, some (vI x), a6] st h := Rnx (hB_168) (dX7_addPerson_73) rfl
theorem v168_75 {d : Nat} {st : List MV} {h : Hp} {x : Option A3} {a1 a2 a3 a4 a5 a6 : Option MV} : Ev d 168 75 [some (vO x), a1, a2, a3, a4, a5, a6] st h = Ev d 168 76 [some (vO x), a1, a2, a3, a4, a5, a6] (vO x :: st) h := Rnx (hB_168) (dX7_addPerson_75) rfl
set_option maxRecDepth 100000 in
theorem v168_76 {d : Nat} {ls : LS3} {st : List MV} {h : Hp} {a : A3} (hS : gS h a = (1, 7)) : Ev d 168 76 ls (vR a :: st) h = Ev d 168 79 ls (vO (gR h a 1) :: st) h := Rget hB_168 dX7_addPerson_76 rfl (Or.inl hS)
theorem v168_79 {d : Nat} {st : List MV} {h : Hp} {x : Int32} {a0 a1 a2 a3 a4 a6 : Option MV} : Ev d 168 79 [a0, a1, a2, a3, a4, some (vI x), a6] st h = Ev d 168 81 [a0, a1, a2, a3, a4, some (vI x), a6] (vI x :: st) h := Rnx (hB_168) (dX7_addPerson_79) rfl
theorem v168_81 {d : Nat} {st : List MV} {h : Hp} {x : Int32} {a0 a2 a3 a4 a5 a6 : Option MV} : Ev d 168 81 [a0, some (vI x), a2, a3, a4, a5, a6] st h = Ev d 168 82 [a0, some (vI x), a2, a3, a4, a5, a6] (vI x :: st) h := Rnx (hB_168) (dX7_addPerson_81) rfl
theorem v168_82 {d : Nat} {ls : LS3} {st : List MV} {h : Hp} {a : A3} {j : Int32} {x : Int32} (hS : (gS h a).1 = 2) (hj : inB j (gS h a).2) : Ev d 168 82 ls (vI x :: vI j :: vR a :: st) h = Ev d 168 83 ls st (sI h a j.toNatClampNeg x) := RastI hB_168 dX7_addPerson_82 hS hj
theorem v168_83 {d : Nat} {st : List MV} {h : Hp} {x : Option A3} {a1 a2 a3 a4 a5 a6 : Option MV} : Ev d 168 83 [some (vO x), a1, a2, a3, a4, a5, a6] st h = Ev d 168 84 [some (vO x), a1, a2, a3, a4, a5, a6] (vO x :: st) h := Rnx (hB_168) (dX7_addPerson_83) rfl
set_option maxRecDepth 100000 in
theorem v168_84 {d : Nat} {ls : LS3} {st : List MV} {h : Hp} {a : A3} (hS : gS h a = (1, 7)) : Ev d 168 84 ls (vR a :: st) h = Ev d 168 87 ls (vO (gR h a 2) :: st) h := Rget hB_168 dX7_addPerson_84 rfl (Or.inl hS)
theorem v168_87 {d : Nat} {st : List MV} {h : Hp} {x : Int32} {a0 a1 a2 a3 a4 a6 : Option MV} : Ev d 168 87 [a0, a1, a2, a3, a4, some (vI x), a6] st h = Ev d 168 89 [a0, a1, a2, a3, a4, some (vI x), a6] (vI x :: st) h := Rnx (hB_168) (dX7_addPerson_87) rfl
theorem v168_89 {d : Nat} {st : List MV} {h : Hp} {x : Int32} {a0 a1 a3 a4 a5 a6 : Option MV} : Ev d 168 89 [a0, a1, some (vI x), a3, a4, a5, a6] st h = Ev d 168 90 [a0, a1, some (vI x), a3, a4, a5, a6] (vI x :: st) h := Rnx (hB_168) (dX7_addPerson_89) rfl
theorem v168_90 {d : Nat} {ls : LS3} {st : List MV} {h : Hp} {a : A3} {j : Int32} {x : Int32} (hS : (gS h a).1 = 2) (hj : inB j (gS h a).2) : Ev d 168 90 ls (vI x :: vI j :: vR a :: st) h = Ev d 168 91 ls st (sI h a j.toNatClampNeg x) := RastI hB_168 dX7_addPerson_90 hS hj
theorem v168_91 {d : Nat} {st : List MV} {h : Hp} {x : Option A3} {a1 a2 a3 a4 a5 a6 : Option MV} : Ev d 168 91 [some (vO x), a1, a2, a3, a4, a5, a6] st h = Ev d 168 92 [some (vO x), a1, a2, a3, a4, a5, a6] (vO x :: st) h := Rnx (hB_168) (dX7_addPerson_91) rfl
set_option maxRecDepth 100000 in
theorem v168_92 {d : Nat} {ls : LS3} {st : List MV} {h : Hp} {a : A3} (hS : gS h a = (1, 7)) : Ev d 168 92 ls (vR a :: st) h = Ev d 168 95 ls (vO (gR h a 3) :: st) h := Rget hB_168 dX7_addPerson_92 rfl (Or.inl hS)
theorem v168_95 {d : Nat} {st : List MV} {h : Hp} {x : Int32} {a0 a1 a2 a3 a4 a6 : Option MV} : Ev d 168 95 [a0, a1, a2, a3, a4, some (vI x), a6] st h = Ev d 168 97 [a0, a1, a2, a3, a4, some (vI x), a6] (vI x :: st) h := Rnx (hB_168) (dX7_addPerson_95) rfl
theorem v168_97 {d : Nat} {st : List MV} {h : Hp} {x : Int32} {a0 a1 a2 a4 a5 a6 : Option MV} : Ev d 168 97 [a0, a1, a2, some (vI x), a4, a5, a6] st h = Ev d 168 98 [a0, a1, a2, some (vI x), a4, a5, a6] (vI x :: st) h := Rnx (hB_168) (dX7_addPerson_97) rfl
theorem v168_98 {d : Nat} {ls : LS3} {st : List MV} {h : Hp} {a : A3} {j : Int32} {x : Int32} (hS : (gS h a).1 = 2) (hj : inB j (gS h a).2) : Ev d 168 98 ls (vI x :: vI j :: vR a :: st) h = Ev d 168 99 ls st (sI h a j.toNatClampNeg x) := RastI hB_168 dX7_addPerson_98 hS hj
theorem v168_99 {d : Nat} {st : List MV} {h : Hp} {x : Option A3} {a1 a2 a3 a4 a5 a6 : Option MV} : Ev d 168 99 [some (vO x), a1, a2, a3, a4, a5, a6] st h = Ev d 168 100 [some (vO x), a1, a2, a3, a4, a5, a6] (vO x :: st) h := Rnx (hB_168) (dX7_addPerson_99) rfl
set_option maxRecDepth 100000 in
theorem v168_100 {d : Nat} {ls : LS3} {st : List MV} {h : Hp} {a : A3} (hS : gS h a = (1, 7)) : Ev d 168 100 ls (vR a :: st) h = Ev d 168 103 ls (vO (gR h a 4) :: st) h := Rget hB_168 dX7_addPerson_100 rfl (Or.inl hS)
theorem v168_103 {d : Nat} {st : List MV} {h : Hp} {x : Int32} {a0 a1 a2 a3 a4 a6 : Option MV} : Ev d 168 103 [a0, a1, a2, a3, a4, some (vI x), a6] st h = Ev d 168 105 [a0, a1, a2, a3, a4, some (vI x), a6] (vI x :: st) h := Rnx (hB_168) (dX7_addPerson_103) rfl
theorem v168_105 {d : Nat} {st : List MV} {h : Hp} {x : Int32} {a0 a1 a2 a3 a5 a6 : Option MV} : Ev d 168 105 [a0, a1, a2, a3, some (vI x), a5, a6] st h = Ev d 168 107 [a0, a1, a2, a3, some (vI x), a5, a6] (vI x :: st) h := Rnx (hB_168) (dX7_addPerson_105) rfl
theorem v168_107 {d : Nat} {ls : LS3} {st : List MV} {h : Hp} {a : A3} {j : Int32} {x : Int32} (hS : (gS h a).1 = 2) (hj : inB j (gS h a).2) : Ev d 168 107 ls (vI x :: vI j :: vR a :: st) h = Ev d 168 108 ls st (sI h a j.toNatClampNeg x) := RastI hB_168 dX7_addPerson_107 hS hj
theorem v168_108 {d : Nat} {st : List MV} {h : Hp} {x : Option A3} {a1 a2 a3 a4 a5 a6 : Option MV} : Ev d 168 108 [some (vO x), a1, a2, a3, a4, a5, a6] st h = Ev d 168 109 [some (vO x), a1, a2, a3, a4, a5, a6] (vO x :: st) h := Rnx (hB_168) (dX7_addPerson_108) rfl
set_option maxRecDepth 100000 in
theorem v168_109 {d : Nat} {ls : LS3} {st : List MV} {h : Hp} {a : A3} (hS : gS h a = (1, 7)) : Ev d 168 109 ls (vR a :: st) h = Ev d 168 112 ls (vO (gR h a 5) :: st) h := Rget hB_168 dX7_addPerson_109 rfl (Or.inl hS)
theorem v168_112 {d : Nat} {st : List MV} {h : Hp} {x : Int32} {a0 a1 a2 a3 a4 a6 : Option MV} : Ev d 168 112 [a0, a1, a2, a3, a4, some (vI x), a6] st h = Ev d 168 114 [a0, a1, a2, a3, a4, some (vI x), a6] (vI x :: st) h := Rnx (hB_168) (dX7_addPerson_112) rfl
theorem v168_114 {d : Nat} {ls : LS3} {st : List MV} {h : Hp} : Ev d 168 114 ls st h = Ev d 168 115 ls (vI 0 :: st) h := Rnx (hB_168) (dX7_addPerson_114) rfl
theorem v168_115 {d : Nat} {ls : LS3} {st : List MV} {h : Hp} {a : A3} {j : Int32} {x : Int32} (hS : (gS h a).1 = 2) (hj : inB j (gS h a).2) : Ev d 168 115 ls (vI x :: vI j :: vR a :: st) h = Ev d 168 116 ls st (sI h a j.toNatClampNeg x) := RastI hB_168 dX7_addPerson_115 hS hj
theorem v168_116 {d : Nat} {ls : LS3} {st : List MV} {h : Hp} : Ev d 168 116 ls st h = Ev d 168 117 ls (vI 0 :: st) h := Rnx (hB_168) (dX7_addPerson_116) rfl
theorem v168_117 {d : Nat} {st : List MV} {h : Hp} {x : Int32} {a0 a1 a2 a3 a4 a5 a6 : Option MV} : Ev d 168 117 [a0, a1, a2, a3, a4, a5, a6] (vI x :: st) h = Ev d 168 119 [a0, a1, a2, a3, a4, a5, some (vI x)] st h := Rnx (hB_168) (dX7_addPerson_117) rfl
theorem v168_119 {d : Nat} {st : List MV} {h : Hp} {x : Int32} {a0 a1 a2 a3 a4 a5 : Option MV} : Ev d 168 119 [a0, a1, a2, a3, a4, a5, some (vI x)] st h = Ev d 168 121 [a0, a1, a2, a3, a4, a5, some (vI x)] (vI x :: st) h := Rnx (hB_168) (dX7_addPerson_119) rfl
theorem v168_121 {d : Nat} {ls : LS3} {st : List MV} {h : Hp} : Ev d 168 121 ls st h = Ev d 168 123 ls (vI 101 :: st) h := Rnx (hB_168) (dX7_addPerson_121) rfl
theorem v168_123 {d : Nat} {ls : LS3} {st : List MV} {h : Hp} {x y : Int32} : Ev d 168 123 ls (vI y :: vI x :: st) h = if y ≤ x then Ev d 168 146 ls st h else Ev d 168 126 ls st h := Rif hB_168 dX7_addPerson_123 rfl
theorem v168_126 {d : Nat} {st : List MV} {h : Hp} {x : Option A3} {a1 a2 a3 a4 a5 a6 : Option MV} : Ev d 168 126 [some (vO x), a1, a2, a3, a4, a5, a6] st h = Ev d 168 127 [some (vO x), a1, a2, a3, a4, a5, a6] (vO x :: st) h := Rnx (hB_168) (dX7_addPerson_126) rfl
set_option maxRecDepth 100000 in
theorem v168_127 {d : Nat} {ls : LS3} {st : List MV} {h : Hp} {a : A3} (hS : gS h a = (1, 7)) : Ev d 168 127 ls (vR a :: st) h = Ev d 168 130 ls (vO (gR h a 6) :: st) h := Rget hB_168 dX7_addPerson_127 rfl (Or.inl hS)
theorem v168_130 {d : Nat} {ls : LS3} {st : List MV} {h : Hp} : Ev d 168 130 ls st h = Ev d 168 132 ls (vI 101 :: st) h := Rnx (hB_168) (dX7_addPerson_130) rfl
theorem v168_132 {d : Nat} {st : List MV} {h : Hp} {x : Int32} {a0 a1 a2 a3 a4 a6 : Option MV} : Ev d 168 132 [a0, a1, a2, a3, a4, some (vI x), a6] st h = Ev d 168 134 [a0, a1, a2, a3, a4, some (vI x), a6] (vI x :: st) h := Rnx (hB_168) (dX7_addPerson_132) rfl
theorem v168_134 {d : Nat} {ls : LS3} {st : List MV} {h : Hp} {x y : Int32} : Ev d 168 134 ls (vI y :: vI x :: st) h = Ev d 168 135 ls (vI (x * y) :: st) h := Rnx (hB_168) (dX7_addPerson_134) rfl
theorem v168_135 {d : Nat} {st : List MV} {h : Hp} {x : Int32} {a0 a1 a2 a3 a4 a5 : Option MV} : Ev d 168 135 [a0, a1, a2, a3, a4, a5, some (vI x)] st h = Ev d 168 137 [a0, a1, a2, a3, a4, a5, some (vI x)] (vI x :: st) h := Rnx (hB_168) (dX7_addPerson_135) rfl
theorem v168_137 {d : Nat} {ls : LS3} {st : List MV} {h : Hp} {x y : Int32} : Ev d 168 137 ls (vI y :: vI x :: st) h = Ev d 168 138 ls (vI (x + y) :: st) h := Rnx (hB_168) (dX7_addPerson_137) rfl
theorem v168_138 {d : Nat} {ls : LS3} {st : List MV} {h : Hp} : Ev d 168 138 ls st h = Ev d 168 139 ls (vI 0 :: st) h := Rnx (hB_168) (dX7_addPerson_138) rfl
theorem v168_139 {d : Nat} {ls : LS3} {st : List MV} {h : Hp} {a : A3} {j : Int32} {x : Int32} (hS : (gS h a).1 = 2) (hj : inB j (gS h a).2) : Ev d 168 139 ls (vI x :: vI j :: vR a :: st) h = Ev d 168 140 ls st (sI h a j.toNatClampNeg x) := RastI hB_168 dX7_addPerson_139 hS hj
theorem v168_140 {d : Nat} {st : List MV} {h : Hp} {x : Int32} {a0 a1 a2 a3 a4 a5 : Option MV} : Ev d 168 140 [a0, a1, a2, a3, a4, a5, some (vI x)] st h = Ev d 168 143 [a0, a1, a2, a3, a4, a5, some (vI (x + 1))] st h := Rnx (hB_168) (dX7_addPerson_140) rfl
theorem v168_143 {d : Nat} {ls : LS3} {st : List MV} {h : Hp} : Ev d 168 143 ls st h = Ev d 168 119 ls st h := Rnx (hB_168) (dX7_addPerson_143) rfl
theorem v168_146 {d : Nat} {st : List MV} {h : Hp} {x : Option A3} {a1 a2 a3 a4 a5 a6 : Option MV} : Ev d 168 146 [some (vO x), a1, a2, a3, a4, a5, a6] st h = Ev d 168 147 [some (vO x), a1, a2, a3, a4, a5, a6] (vO x :: st) h := Rnx (hB_168) (dX7_addPerson_146) rfl
theorem v168_147 {d : Nat} {ls : LS3} {st : List MV} {h : Hp} {v : MV} (hv : cat1 v = true) : Ev d 168 147 ls (v :: st) h = Ev d 168 148 ls (v :: v :: st) h := Rdup hB_168 dX7_addPerson_147 hv
set_option maxRecDepth 100000 in
theorem v168_148 {d : Nat} {ls : LS3} {st : List MV} {h : Hp} {a : A3} (hS : gS h a = (1, 7)) : Ev d 168 148 ls (vR a :: st) h = Ev d 168 151 ls (vI (gI h a 7) :: st) h := Rget hB_168 dX7_addPerson_148 rfl (Or.inl hS)
theorem v168_151 {d : Nat} {ls : LS3} {st : List MV} {h : Hp} : Ev d 168 151 ls st h = Ev d 168 152 ls (vI 1 :: st) h := Rnx (hB_168) (dX7_addPerson_151) rfl
theorem v168_152 {d : Nat} {ls : LS3} {st : List MV} {h : Hp} {x y : Int32} : Ev d 168 152 ls (vI y :: vI x :: st) h = Ev d 168 153 ls (vI (x + y) :: st) h := Rnx (hB_168) (dX7_addPerson_152) rfl
set_option maxRecDepth 100000 in
theorem v168_153 {d : Nat} {ls : LS3} {st : List MV} {h : Hp} {a : A3} {x : Int32} (hS : gS h a = (1, 7)) : Ev d 168 153 ls (vI x :: vR a :: st) h = Ev d 168 156 ls st (sI h a 7 x) := RputI hB_168 dX7_addPerson_153 rfl rfl (by decide) hS (Or.inl rfl)
theorem v168_156 {d : Nat} {st : List MV} {h : Hp} {x : Int32} {a0 a1 a2 a3 a4 a6 : Option MV} : Ev d 168 156 [a0, a1, a2, a3, a4, some (vI x), a6] st h = Ev d 168 158 [a0, a1, a2, a3, a4, some (vI x), a6] (vI x :: st) h := Rnx (hB_168) (dX7_addPerson_156) rfl
theorem v168_158 {d : Nat} {ls : LS3} {h : Hp} {x : Int32} : Ev d 168 158 ls [vI x] h = some (.inl (some (vI x)), h) := Rdn hB_168 dX7_addPerson_158 rfl
theorem hB_169 : mB 169 = cX7_with := rfl
theorem v169_0 {d : Nat} {st : List MV} {h : Hp} {x : Int32} {a0 a1 : Option MV} : Ev d 169 0 [a0, a1, some (vI x)] st h = Ev d 169 1 [a0, a1, some (vI x)] (vI x :: st) h := Rnx (hB_169) (dX7_with_0) rfl
theorem v169_1 {d : Nat} {ls : LS3} {st : List MV} {h : Hp} {x : Int32} : Ev d 169 1 ls (vI x :: st) h = if x = 0 then Ev d 169 12 ls st h else Ev d 169 4 ls st h := Rif hB_169 dX7_with_1 rfl
theorem v169_4 {d : Nat} {st : List MV} {h : Hp} {x : Int32} {a1 a2 : Option MV} : Ev d 169 4 [some (vI x), a1, a2] st h = Ev d 169 5 [some (vI x), a1, a2] (vI x :: st) h := Rnx (hB_169) (dX7_with_4) rfl
theorem v169_5 {d : Nat} {ls : LS3} {st : List MV} {h : Hp} : Ev d 169 5 ls st h = Ev d 169 6 ls (vI 1 :: st) h := Rnx (hB_169) (dX7_with_5) rfl
theorem v169_6 {d : Nat} {st : List MV} {h : Hp} {x : Int32} {a0 a2 : Option MV} : Ev d 169 6 [a0, some (vI x), a2] st h = Ev d 169 7 [a0, some (vI x), a2] (vI x :: st) h := Rnx (hB_169) (dX7_with_6) rfl
theorem v169_7 {d : Nat} {ls : LS3} {st : List MV} {h : Hp} {x y : Int32} : Ev d 169 7 ls (vI y :: vI x :: st) h = Ev d 169 8 ls (vI (x <<< (y &&& 31)) :: st) h := Rnx (hB_169) (dX7_with_7) rfl
theorem v169_8 {d : Nat} {ls : LS3} {st : List MV} {h : Hp} {x y : Int32} : Ev d 169 8 ls (vI y :: vI x :: st) h = Ev d 169 9 ls (vI (x ||| y) :: st) h := Rnx (hB_169) (dX7_with_8) rfl
theorem v169_9 {d : Nat} {ls : LS3} {st : List MV} {h : Hp} : Ev d 169 9 ls st h = Ev d 169 19 ls st h := Rnx (hB_169) (dX7_with_9) rfl
theorem v169_12 {d : Nat} {st : List MV} {h : Hp} {x : Int32} {a1 a2 : Option MV} : Ev d 169 12 [some (vI x), a1, a2] st h = Ev d 169 13 [some (vI x), a1, a2] (vI x :: st) h := Rnx (hB_169) (dX7_with_12) rfl
theorem v169_13 {d : Nat} {ls : LS3} {st : List MV} {h : Hp} : Ev d 169 13 ls st h = Ev d 169 14 ls (vI 1 :: st) h := Rnx (hB_169) (dX7_with_13) rfl
theorem v169_14 {d : Nat} {st : List MV} {h : Hp} {x : Int32} {a0 a2 : Option MV} : Ev d 169 14 [a0, some (vI x), a2] st h = Ev d 169 15 [a0, some (vI x), a2] (vI x :: st) h := Rnx (hB_169) (dX7_with_14) rfl
theorem v169_15 {d : Nat} {ls : LS3} {st : List MV} {h : Hp} {x y : Int32} : Ev d 169 15 ls (vI y :: vI x :: st) h = Ev d 169 16 ls (vI (x <<< (y &&& 31)) :: st) h := Rnx (hB_169) (dX7_with_15) rfl
theorem v169_16 {d : Nat} {ls : LS3} {st : List MV} {h : Hp} : Ev d 169 16 ls st h = Ev d 169 17 ls (vI (-1) :: st) h := Rnx (hB_169) (dX7_with_16) rfl
theorem v169_17 {d : Nat} {ls : LS3} {st : List MV} {h : Hp} {x y : Int32} : Ev d 169 17 ls (vI y :: vI x :: st) h = Ev d 169 18 ls (vI (x ^^^ y) :: st) h := Rnx (hB_169) (dX7_with_17) rfl
theorem v169_18 {d : Nat} {ls : LS3} {st : List MV} {h : Hp} {x y : Int32} : Ev d 169 18 ls (vI y :: vI x :: st) h = Ev d 169 19 ls (vI (x &&& y) :: st) h := Rnx (hB_169) (dX7_with_18) rfl
theorem v169_19 {d : Nat} {ls : LS3} {h : Hp} {x : Int32} : Ev d 169 19 ls [vI x] h = some (.inl (some (vI x)), h) := Rdn hB_169 dX7_with_19 rfl
theorem hB_170 : mB 170 = cX7_setConflict := rfl
theorem v170_0 {d : Nat} {st : List MV} {h : Hp} {x : Option A3} {a1 a2 a3 a4 : Option MV} : Ev d 170 0 [some (vO x), a1, a2, a3, a4] st h = Ev d 170 1 [some (vO x), a1, a2, a3, a4] (vO x :: st) h := Rnx (hB_170) (dX7_setConflict_0) rfl
theorem v170_1 {d : Nat} {st : List MV} {h : Hp} {x : Int32} {a0 a2 a3 a4 : Option MV} : Ev d 170 1 [a0, some (vI x), a2, a3, a4] st h = Ev d 170 2 [a0, some (vI x), a2, a3, a4] (vI x :: st) h := Rnx (hB_170) (dX7_setConflict_1) rfl
set_option maxRecDepth 100000 in
theorem v170_2 {d : Nat} {ls : LS3} {st : List MV} {h : Hp} {a : A3} {x0 : Int32} (hS : gS h a = (1, 7)) (hc : catS st ≤ 8) : Ev (d + 1) 170 2 ls (vI x0 :: vR a :: st) h = Evk 145 (d + 1) 170 2 ls st (Ev d 145 0 [some (vR a), some (vI x0)] [] h) := RcallO (idx := 174) (n := 1) (kd := 0) (As' := [vI x0]) hB_170 dX7_setConflict_2 rfl rfl (by decide) rfl rfl (Or.inl hS) rfl hc
theorem v170_5 {d : Nat} {ls : LS3} {st : List MV} {h : Hp} {x : Int32} : Ev d 170 5 ls (vI x :: st) h = if x = 0 then Ev d 170 16 ls st h else Ev d 170 8 ls st h := Rif hB_170 dX7_setConflict_5 rfl
theorem v170_8 {d : Nat} {st : List MV} {h : Hp} {x : Option A3} {a1 a2 a3 a4 : Option MV} : Ev d 170 8 [some (vO x), a1, a2, a3, a4] st h = Ev d 170 9 [some (vO x), a1, a2, a3, a4] (vO x :: st) h := Rnx (hB_170) (dX7_setConflict_8) rfl
theorem v170_9 {d : Nat} {st : List MV} {h : Hp} {x : Int32} {a0 a1 a3 a4 : Option MV} : Ev d 170 9 [a0, a1, some (vI x), a3, a4] st h = Ev d 170 10 [a0, a1, some (vI x), a3, a4] (vI x :: st) h := Rnx (hB_170) (dX7_setConflict_9) rfl
set_option maxRecDepth 100000 in
theorem v170_10 {d : Nat} {ls : LS3} {st : List MV} {h : Hp} {a : A3} {x0 : Int32} (hS : gS h a = (1, 7)) (hc : catS st ≤ 8) : Ev (d + 1) 170 10 ls (vI x0 :: vR a :: st) h = Evk 145 (d + 1) 170 10 ls st (Ev d 145 0 [some (vR a), some (vI x0)] [] h) := RcallO (idx := 174) (n := 1) (kd := 0) (As' := [vI x0]) hB_170 dX7_setConflict_10 rfl rfl (by decide) rfl rfl (Or.inl hS) rfl hc
theorem v170_13 {d : Nat} {ls : LS3} {st : List MV} {h : Hp} {x : Int32} : Ev d 170 13 ls (vI x :: st) h = if x = 0 then Ev d 170 16 ls st h else Ev d 170 22 ls st h := Rifn hB_170 dX7_setConflict_13 rfl
theorem v170_16 {d : Nat} {st : List MV} {h : Hp} {x : Option A3} {a1 a2 a3 a4 : Option MV} : Ev d 170 16 [some (vO x), a1, a2, a3, a4] st h = Ev d 170 17 [some (vO x), a1, a2, a3, a4] (vO x :: st) h := Rnx (hB_170) (dX7_setConflict_16) rfl
theorem v170_17 {d : Nat} {ls : LS3} {st : List MV} {h : Hp} : Ev d 170 17 ls st h = Ev d 170 18 ls (vI 1 :: st) h := Rnx (hB_170) (dX7_setConflict_17) rfl
set_option maxRecDepth 100000 in
theorem v170_18 {d : Nat} {ls : LS3} {st : List MV} {h : Hp} {a : A3} {x0 : Int32} (hS : gS h a = (1, 7)) (hc : catS st ≤ 8) : Ev (d + 1) 170 18 ls (vI x0 :: vR a :: st) h = Evk 142 (d + 1) 170 18 ls st (Ev d 142 0 [some (vR a), some (vI x0)] [] h) := RcallO (idx := 177) (n := 1) (kd := 0) (As' := [vI x0]) hB_170 dX7_setConflict_18 rfl rfl (by decide) rfl rfl (Or.inl hS) rfl hc
theorem v170_21 {d : Nat} {ls : LS3} {h : Hp} {x : Int32} (hx : x = 0 ∨ x = 1) : Ev d 170 21 ls [vI x] h = some (.inl (some (vI x)), h) := RretB hB_170 dX7_setConflict_21 rfl hx
theorem v170_22 {d : Nat} {st : List MV} {h : Hp} {x : Int32} {a0 a2 a3 a4 : Option MV} : Ev d 170 22 [a0, some (vI x), a2, a3, a4] st h = Ev d 170 23 [a0, some (vI x), a2, a3, a4] (vI x :: st) h := Rnx (hB_170) (dX7_setConflict_22) rfl
theorem v170_23 {d : Nat} {st : List MV} {h : Hp} {x : Int32} {a0 a1 a3 a4 : Option MV} : Ev d 170 23 [a0, a1, some (vI x), a3, a4] st h = Ev d 170 24 [a0, a1, some (vI x), a3, a4] (vI x :: st) h := Rnx (hB_170) (dX7_setConflict_23) rfl
theorem v170_24 {d : Nat} {ls : LS3} {st : List MV} {h : Hp} {x y : Int32} : Ev d 170 24 ls (vI y :: vI x :: st) h = if x = y then Ev d 170 27 ls st h else Ev d 170 33 ls st h := Rifn hB_170 dX7_setConflict_24 rfl
theorem v170_27 {d : Nat} {st : List MV} {h : Hp} {x : Option A3} {a1 a2 a3 a4 : Option MV} : Ev d 170 27 [some (vO x), a1, a2, a3, a4] st h = Ev d 170 28 [some (vO x), a1, a2, a3, a4] (vO x :: st) h := Rnx (hB_170) (dX7_setConflict_27) rfl
theorem v170_28 {d : Nat} {ls : LS3} {st : List MV} {h : Hp} : Ev d 170 28 ls st h = Ev d 170 29 ls (vI 2 :: st) h := Rnx (hB_170) (dX7_setConflict_28) rfl
set_option maxRecDepth 100000 in
theorem v170_29 {d : Nat} {ls : LS3} {st : List MV} {h : Hp} {a : A3} {x0 : Int32} (hS : gS h a = (1, 7)) (hc : catS st ≤ 8) : Ev (d + 1) 170 29 ls (vI x0 :: vR a :: st) h = Evk 142 (d + 1) 170 29 ls st (Ev d 142 0 [some (vR a), some (vI x0)] [] h) := RcallO (idx := 177) (n := 1) (kd := 0) (As' := [vI x0]) hB_170 dX7_setConflict_29 rfl rfl (by decide) rfl rfl (Or.inl hS) rfl hc
theorem v170_32 {d : Nat} {ls : LS3} {h : Hp} {x : Int32} (hx : x = 0 ∨ x = 1) : Ev d 170 32 ls [vI x] h = some (.inl (some (vI x)), h) := RretB hB_170 dX7_setConflict_32 rfl hx
theorem v170_33 {d : Nat} {st : List MV} {h : Hp} {x : Option A3} {a1 a2 a3 a4 : Option MV} : Ev d 170 33 [some (vO x), a1, a2, a3, a4] st h = Ev d 170 34 [some (vO x), a1, a2, a3, a4] (vO x :: st) h := Rnx (hB_170) (dX7_setConflict_33) rfl
theorem v170_34 {d : Nat} {ls : LS3} {st : List MV} {h : Hp} : Ev d 170 34 ls st h = Ev d 170 35 ls (vI 0 :: st) h := Rnx (hB_170) (dX7_setConflict_34) rfl
set_option maxRecDepth 100000 in
theorem v170_35 {d : Nat} {ls : LS3} {st : List MV} {h : Hp} {a : A3} {x : Int32} (hS : gS h a = (1, 7)) : Ev d 170 35 ls (vI x :: vR a :: st) h = Ev d 170 38 ls st (sI h a 0 x) := RputI hB_170 dX7_setConflict_35 rfl rfl (by decide) hS (Or.inl rfl)
theorem v170_38 {d : Nat} {st : List MV} {h : Hp} {x : Option A3} {a1 a2 a3 a4 : Option MV} : Ev d 170 38 [some (vO x), a1, a2, a3, a4] st h = Ev d 170 39 [some (vO x), a1, a2, a3, a4] (vO x :: st) h := Rnx (hB_170) (dX7_setConflict_38) rfl
set_option maxRecDepth 100000 in
theorem v170_39 {d : Nat} {ls : LS3} {st : List MV} {h : Hp} {a : A3}  (hS : gS h a = (1, 7)) (hc : catS st ≤ 8) : Ev (d + 1) 170 39 ls (vR a :: st) h = Evk 230 (d + 1) 170 39 ls st (Ev d 230 0 [some (vR a)] [] h) := RcallO (idx := 171) (n := 0) (kd := 0) (As' := []) hB_170 dX7_setConflict_39 rfl rfl (by decide) rfl rfl (Or.inl hS) rfl hc
theorem v170_42 {d : Nat} {st : List MV} {h : Hp} {x : Option A3} {a1 a2 a3 a4 : Option MV} : Ev d 170 42 [some (vO x), a1, a2, a3, a4] st h = Ev d 170 43 [some (vO x), a1, a2, a3, a4] (vO x :: st) h := Rnx (hB_170) (dX7_setConflict_42) rfl
theorem v170_43 {d : Nat} {st : List MV} {h : Hp} {x : Int32} {a0 a2 a3 a4 : Option MV} : Ev d 170 43 [a0, some (vI x), a2, a3, a4] st h = Ev d 170 44 [a0, some (vI x), a2, a3, a4] (vI x :: st) h := Rnx (hB_170) (dX7_setConflict_43) rfl
theorem v170_44 {d : Nat} {st : List MV} {h : Hp} {x : Int32} {a0 a1 a3 a4 : Option MV} : Ev d 170 44 [a0, a1, some (vI x), a3, a4] st h = Ev d 170 45 [a0, a1, some (vI x), a3, a4] (vI x :: st) h := Rnx (hB_170) (dX7_setConflict_44) rfl
set_option maxRecDepth 100000 in
theorem v170_45 {d : Nat} {ls : LS3} {st : List MV} {h : Hp} {a : A3} {x0 : Int32} {x1 : Int32} (hS : gS h a = (1, 7)) (hc : catS st ≤ 8) : Ev (d + 1) 170 45 ls (vI x1 :: vI x0 :: vR a :: st) h = Evk 148 (d + 1) 170 45 ls st (Ev d 148 0 [some (vR a), some (vI x0), some (vI x1)] [] h) := RcallO (idx := 122) (n := 2) (kd := 0) (As' := [vI x0, vI x1]) hB_170 dX7_setConflict_45 rfl rfl (by decide) rfl rfl (Or.inl hS) rfl hc
theorem v170_48 {d : Nat} {ls : LS3} {st : List MV} {h : Hp} {x : Int32} : Ev d 170 48 ls (vI x :: st) h = if x = 0 then Ev d 170 51 ls st h else Ev d 170 55 ls st h := Rifn hB_170 dX7_setConflict_48 rfl
theorem v170_51 {d : Nat} {ls : LS3} {st : List MV} {h : Hp} : Ev d 170 51 ls st h = Ev d 170 52 ls (vI 1 :: st) h := Rnx (hB_170) (dX7_setConflict_51) rfl
theorem v170_52 {d : Nat} {ls : LS3} {st : List MV} {h : Hp} : Ev d 170 52 ls st h = Ev d 170 56 ls st h := Rnx (hB_170) (dX7_setConflict_52) rfl
theorem v170_55 {d : Nat} {ls : LS3} {st : List MV} {h : Hp} : Ev d 170 55 ls st h = Ev d 170 56 ls (vI 0 :: st) h := Rnx (hB_170) (dX7_setConflict_55) rfl
theorem v170_56 {d : Nat} {st : List MV} {h : Hp} {x : Int32} {a0 a1 a2 a3 a4 : Option MV} : Ev d 170 56 [a0, a1, a2, a3, a4] (vI x :: st) h = Ev d 170 58 [a0, a1, a2, a3, some (vI x)] st h := Rnx (hB_170) (dX7_setConflict_56) rfl
theorem v170_58 {d : Nat} {st : List MV} {h : Hp} {x : Option A3} {a1 a2 a3 a4 : Option MV} : Ev d 170 58 [some (vO x), a1, a2, a3, a4] st h = Ev d 170 59 [some (vO x), a1, a2, a3, a4] (vO x :: st) h := Rnx (hB_170) (dX7_setConflict_58) rfl
set_option maxRecDepth 100000 in
theorem v170_59 {d : Nat} {ls : LS3} {st : List MV} {h : Hp} {a : A3} (hS : gS h a = (1, 7)) : Ev d 170 59 ls (vR a :: st) h = Ev d 170 62 ls (vO (gR h a 5) :: st) h := Rget hB_170 dX7_setConflict_59 rfl (Or.inl hS)
theorem v170_62 {d : Nat} {st : List MV} {h : Hp} {x : Int32} {a0 a2 a3 a4 : Option MV} : Ev d 170 62 [a0, some (vI x), a2, a3, a4] st h = Ev d 170 63 [a0, some (vI x), a2, a3, a4] (vI x :: st) h := Rnx (hB_170) (dX7_setConflict_62) rfl
theorem v170_63 {d : Nat} {st : List MV} {h : Hp} {x : Option A3} {a1 a2 a3 a4 : Option MV} : Ev d 170 63 [some (vO x), a1, a2, a3, a4] st h = Ev d 170 64 [some (vO x), a1, a2, a3, a4] (vO x :: st) h := Rnx (hB_170) (dX7_setConflict_63) rfl
set_option maxRecDepth 100000 in
theorem v170_64 {d : Nat} {ls : LS3} {st : List MV} {h : Hp} {a : A3} (hS : gS h a = (1, 7)) : Ev d 170 64 ls (vR a :: st) h = Ev d 170 67 ls (vO (gR h a 5) :: st) h := Rget hB_170 dX7_setConflict_64 rfl (Or.inl hS)
theorem v170_67 {d : Nat} {st : List MV} {h : Hp} {x : Int32} {a0 a2 a3 a4 : Option MV} : Ev d 170 67 [a0, some (vI x), a2, a3, a4] st h = Ev d 170 68 [a0, some (vI x), a2, a3, a4] (vI x :: st) h := Rnx (hB_170) (dX7_setConflict_67) rfl
theorem v170_68 {d : Nat} {ls : LS3} {st : List MV} {h : Hp} {a : A3} {j : Int32} (hS : (gS h a).1 ∈ [2, 9]) (hj : inB j (gS h a).2) : Ev d 170 68 ls (vI j :: vR a :: st) h = Ev d 170 69 ls (vI (gI h a j.toNatClampNeg) :: st) h := Rald (ks := [2, 9]) (f := fun a j => vI (gI h a j)) hB_170 dX7_setConflict_68 rfl hS hj
theorem v170_69 {d : Nat} {st : List MV} {h : Hp} {x : Int32} {a0 a1 a3 a4 : Option MV} : Ev d 170 69 [a0, a1, some (vI x), a3, a4] st h = Ev d 170 70 [a0, a1, some (vI x), a3, a4] (vI x :: st) h := Rnx (hB_170) (dX7_setConflict_69) rfl
theorem v170_70 {d : Nat} {st : List MV} {h : Hp} {x : Int32} {a0 a1 a2 a4 : Option MV} : Ev d 170 70 [a0, a1, a2, some (vI x), a4] st h = Ev d 170 71 [a0, a1, a2, some (vI x), a4] (vI x :: st) h := Rnx (hB_170) (dX7_setConflict_70) rfl
set_option maxRecDepth 100000 in
theorem v170_71 {d : Nat} {ls : LS3} {st : List MV} {h : Hp} {x0 : Int32} {x1 : Int32} {x2 : Int32} (hc : catS st ≤ 8) : Ev (d + 1) 170 71 ls (vI x2 :: vI x1 :: vI x0 :: st) h = Evk 169 (d + 1) 170 71 ls st (Ev d 169 0 [some (vI x0), some (vI x1), some (vI x2)] [] h) := RcallS (idx := 180) (n := 3) (kd := 1) (As := [vI x0, vI x1, vI x2]) hB_170 dX7_setConflict_71 rfl rfl (by decide) rfl rfl rfl hc
theorem v170_74 {d : Nat} {ls : LS3} {st : List MV} {h : Hp} {a : A3} {j : Int32} {x : Int32} (hS : (gS h a).1 = 2) (hj : inB j (gS h a).2) : Ev d 170 74 ls (vI x :: vI j :: vR a :: st) h = Ev d 170 75 ls st (sI h a j.toNatClampNeg x) := RastI hB_170 dX7_setConflict_74 hS hj
theorem v170_75 {d : Nat} {st : List MV} {h : Hp} {x : Option A3} {a1 a2 a3 a4 : Option MV} : Ev d 170 75 [some (vO x), a1, a2, a3, a4] st h = Ev d 170 76 [some (vO x), a1, a2, a3, a4] (vO x :: st) h := Rnx (hB_170) (dX7_setConflict_75) rfl
set_option maxRecDepth 100000 in
theorem v170_76 {d : Nat} {ls : LS3} {st : List MV} {h : Hp} {a : A3} (hS : gS h a = (1, 7)) : Ev d 170 76 ls (vR a :: st) h = Ev d 170 79 ls (vO (gR h a 5) :: st) h := Rget hB_170 dX7_setConflict_76 rfl (Or.inl hS)
theorem v170_79 {d : Nat} {st : List MV} {h : Hp} {x : Int32} {a0 a1 a3 a4 : Option MV} : Ev d 170 79 [a0, a1, some (vI x), a3, a4] st h = Ev d 170 80 [a0, a1, some (vI x), a3, a4] (vI x :: st) h := Rnx (hB_170) (dX7_setConflict_79) rfl
theorem v170_80 {d : Nat} {st : List MV} {h : Hp} {x : Option A3} {a1 a2 a3 a4 : Option MV} : Ev d 170 80 [some (vO x), a1, a2, a3, a4] st h = Ev d 170 81 [some (vO x), a1, a2, a3, a4] (vO x :: st) h := Rnx (hB_170) (dX7_setConflict_80) rfl
set_option maxRecDepth 100000 in
theorem v170_81 {d : Nat} {ls : LS3} {st : List MV} {h : Hp} {a : A3} (hS : gS h a = (1, 7)) : Ev d 170 81 ls (vR a :: st) h = Ev d 170 84 ls (vO (gR h a 5) :: st) h := Rget hB_170 dX7_setConflict_81 rfl (Or.inl hS)
theorem v170_84 {d : Nat} {st : List MV} {h : Hp} {x : Int32} {a0 a1 a3 a4 : Option MV} : Ev d 170 84 [a0, a1, some (vI x), a3, a4] st h = Ev d 170 85 [a0, a1, some (vI x), a3, a4] (vI x :: st) h := Rnx (hB_170) (dX7_setConflict_84) rfl
theorem v170_85 {d : Nat} {ls : LS3} {st : List MV} {h : Hp} {a : A3} {j : Int32} (hS : (gS h a).1 ∈ [2, 9]) (hj : inB j (gS h a).2) : Ev d 170 85 ls (vI j :: vR a :: st) h = Ev d 170 86 ls (vI (gI h a j.toNatClampNeg) :: st) h := Rald (ks := [2, 9]) (f := fun a j => vI (gI h a j)) hB_170 dX7_setConflict_85 rfl hS hj
theorem v170_86 {d : Nat} {st : List MV} {h : Hp} {x : Int32} {a0 a2 a3 a4 : Option MV} : Ev d 170 86 [a0, some (vI x), a2, a3, a4] st h = Ev d 170 87 [a0, some (vI x), a2, a3, a4] (vI x :: st) h := Rnx (hB_170) (dX7_setConflict_86) rfl
theorem v170_87 {d : Nat} {st : List MV} {h : Hp} {x : Int32} {a0 a1 a2 a4 : Option MV} : Ev d 170 87 [a0, a1, a2, some (vI x), a4] st h = Ev d 170 88 [a0, a1, a2, some (vI x), a4] (vI x :: st) h := Rnx (hB_170) (dX7_setConflict_87) rfl
set_option maxRecDepth 100000 in
theorem v170_88 {d : Nat} {ls : LS3} {st : List MV} {h : Hp} {x0 : Int32} {x1 : Int32} {x2 : Int32} (hc : catS st ≤ 8) : Ev (d + 1) 170 88 ls (vI x2 :: vI x1 :: vI x0 :: st) h = Evk 169 (d + 1) 170 88 ls st (Ev d 169 0 [some (vI x0), some (vI x1), some (vI x2)] [] h) := RcallS (idx := 180) (n := 3) (kd := 1) (As := [vI x0, vI x1, vI x2]) hB_170 dX7_setConflict_88 rfl rfl (by decide) rfl rfl rfl hc
theorem v170_91 {d : Nat} {ls : LS3} {st : List MV} {h : Hp} {a : A3} {j : Int32} {x : Int32} (hS : (gS h a).1 = 2) (hj : inB j (gS h a).2) : Ev d 170 91 ls (vI x :: vI j :: vR a :: st) h = Ev d 170 92 ls st (sI h a j.toNatClampNeg x) := RastI hB_170 dX7_setConflict_91 hS hj
theorem v170_92 {d : Nat} {st : List MV} {h : Hp} {x : Int32} {a0 a1 a2 a3 : Option MV} : Ev d 170 92 [a0, a1, a2, a3, some (vI x)] st h = Ev d 170 94 [a0, a1, a2, a3, some (vI x)] (vI x :: st) h := Rnx (hB_170) (dX7_setConflict_92) rfl
theorem v170_94 {d : Nat} {ls : LS3} {h : Hp} {x : Int32} (hx : x = 0 ∨ x = 1) : Ev d 170 94 ls [vI x] h = some (.inl (some (vI x)), h) := RretB hB_170 dX7_setConflict_94 rfl hx
theorem hB_171 : mB 171 = cX7_setBusy := rfl
theorem v171_0 {d : Nat} {st : List MV} {h : Hp} {x : Option A3} {a1 a2 a3 a4 a5 : Option MV} : Ev d 171 0 [some (vO x), a1, a2, a3, a4, a5] st h = Ev d 171 1 [some (vO x), a1, a2, a3, a4, a5] (vO x :: st) h := Rnx (hB_171) (dX7_setBusy_0) rfl
theorem v171_1 {d : Nat} {st : List MV} {h : Hp} {x : Int32} {a0 a2 a3 a4 a5 : Option MV} : Ev d 171 1 [a0, some (vI x), a2, a3, a4, a5] st h = Ev d 171 2 [a0, some (vI x), a2, a3, a4, a5] (vI x :: st) h := Rnx (hB_171) (dX7_setBusy_1) rfl
set_option maxRecDepth 100000 in
theorem v171_2 {d : Nat} {ls : LS3} {st : List MV} {h : Hp} {a : A3} {x0 : Int32} (hS : gS h a = (1, 7)) (hc : catS st ≤ 8) : Ev (d + 1) 171 2 ls (vI x0 :: vR a :: st) h = Evk 145 (d + 1) 171 2 ls st (Ev d 145 0 [some (vR a), some (vI x0)] [] h) := RcallO (idx := 174) (n := 1) (kd := 0) (As' := [vI x0]) hB_171 dX7_setBusy_2 rfl rfl (by decide) rfl rfl (Or.inl hS) rfl hc
theorem v171_5 {d : Nat} {ls : LS3} {st : List MV} {h : Hp} {x : Int32} : Ev d 171 5 ls (vI x :: st) h = if x = 0 then Ev d 171 8 ls st h else Ev d 171 14 ls st h := Rifn hB_171 dX7_setBusy_5 rfl
theorem v171_8 {d : Nat} {st : List MV} {h : Hp} {x : Option A3} {a1 a2 a3 a4 a5 : Option MV} : Ev d 171 8 [some (vO x), a1, a2, a3, a4, a5] st h = Ev d 171 9 [some (vO x), a1, a2, a3, a4, a5] (vO x :: st) h := Rnx (hB_171) (dX7_setBusy_8) rfl
theorem v171_9 {d : Nat} {ls : LS3} {st : List MV} {h : Hp} : Ev d 171 9 ls st h = Ev d 171 10 ls (vI 1 :: st) h := Rnx (hB_171) (dX7_setBusy_9) rfl
set_option maxRecDepth 100000 in
theorem v171_10 {d : Nat} {ls : LS3} {st : List MV} {h : Hp} {a : A3} {x0 : Int32} (hS : gS h a = (1, 7)) (hc : catS st ≤ 8) : Ev (d + 1) 171 10 ls (vI x0 :: vR a :: st) h = Evk 142 (d + 1) 171 10 ls st (Ev d 142 0 [some (vR a), some (vI x0)] [] h) := RcallO (idx := 177) (n := 1) (kd := 0) (As' := [vI x0]) hB_171 dX7_setBusy_10 rfl rfl (by decide) rfl rfl (Or.inl hS) rfl hc
theorem v171_13 {d : Nat} {ls : LS3} {h : Hp} {x : Int32} (hx : x = 0 ∨ x = 1) : Ev d 171 13 ls [vI x] h = some (.inl (some (vI x)), h) := RretB hB_171 dX7_setBusy_13 rfl hx
theorem v171_14 {d : Nat} {st : List MV} {h : Hp} {x : Int32} {a0 a1 a3 a4 a5 : Option MV} : Ev d 171 14 [a0, a1, some (vI x), a3, a4, a5] st h = Ev d 171 15 [a0, a1, some (vI x), a3, a4, a5] (vI x :: st) h := Rnx (hB_171) (dX7_setBusy_14) rfl
set_option maxRecDepth 100000 in
theorem v171_15 {d : Nat} {ls : LS3} {st : List MV} {h : Hp} {x0 : Int32} (hc : catS st ≤ 8) : Ev (d + 1) 171 15 ls (vI x0 :: st) h = Evk 146 (d + 1) 171 15 ls st (Ev d 146 0 [some (vI x0)] [] h) := RcallS (idx := 184) (n := 1) (kd := 1) (As := [vI x0]) hB_171 dX7_setBusy_15 rfl rfl (by decide) rfl rfl rfl hc
theorem v171_18 {d : Nat} {ls : LS3} {st : List MV} {h : Hp} {x : Int32} : Ev d 171 18 ls (vI x :: st) h = if x = 0 then Ev d 171 31 ls st h else Ev d 171 21 ls st h := Rif hB_171 dX7_setBusy_18 rfl
theorem v171_21 {d : Nat} {st : List MV} {h : Hp} {x : Int32} {a0 a1 a2 a4 a5 : Option MV} : Ev d 171 21 [a0, a1, a2, some (vI x), a4, a5] st h = Ev d 171 22 [a0, a1, a2, some (vI x), a4, a5] (vI x :: st) h := Rnx (hB_171) (dX7_setBusy_21) rfl
theorem v171_22 {d : Nat} {ls : LS3} {st : List MV} {h : Hp} : Ev d 171 22 ls st h = Ev d 171 23 ls (vI 0 :: st) h := Rnx (hB_171) (dX7_setBusy_22) rfl
theorem v171_23 {d : Nat} {ls : LS3} {st : List MV} {h : Hp} : Ev d 171 23 ls st h = Ev d 171 25 ls (vI 7 :: st) h := Rnx (hB_171) (dX7_setBusy_23) rfl
set_option maxRecDepth 100000 in
theorem v171_25 {d : Nat} {ls : LS3} {st : List MV} {h : Hp} {x0 : Int32} {x1 : Int32} {x2 : Int32} (hc : catS st ≤ 8) : Ev (d + 1) 171 25 ls (vI x2 :: vI x1 :: vI x0 :: st) h = Evk 143 (d + 1) 171 25 ls st (Ev d 143 0 [some (vI x0), some (vI x1), some (vI x2)] [] h) := RcallS (idx := 87) (n := 3) (kd := 1) (As := [vI x0, vI x1, vI x2]) hB_171 dX7_setBusy_25 rfl rfl (by decide) rfl rfl rfl hc
theorem v171_28 {d : Nat} {ls : LS3} {st : List MV} {h : Hp} {x : Int32} : Ev d 171 28 ls (vI x :: st) h = if x = 0 then Ev d 171 31 ls st h else Ev d 171 37 ls st h := Rifn hB_171 dX7_setBusy_28 rfl
theorem v171_31 {d : Nat} {st : List MV} {h : Hp} {x : Option A3} {a1 a2 a3 a4 a5 : Option MV} : Ev d 171 31 [some (vO x), a1, a2, a3, a4, a5] st h = Ev d 171 32 [some (vO x), a1, a2, a3, a4, a5] (vO x :: st) h := Rnx (hB_171) (dX7_setBusy_31) rfl
theorem v171_32 {d : Nat} {ls : LS3} {st : List MV} {h : Hp} : Ev d 171 32 ls st h = Ev d 171 33 ls (vI 2 :: st) h := Rnx (hB_171) (dX7_setBusy_32) rfl
set_option maxRecDepth 100000 in
theorem v171_33 {d : Nat} {ls : LS3} {st : List MV} {h : Hp} {a : A3} {x0 : Int32} (hS : gS h a = (1, 7)) (hc : catS st ≤ 8) : Ev (d + 1) 171 33 ls (vI x0 :: vR a :: st) h = Evk 142 (d + 1) 171 33 ls st (Ev d 142 0 [some (vR a), some (vI x0)] [] h) := RcallO (idx := 177) (n := 1) (kd := 0) (As' := [vI x0]) hB_171 dX7_setBusy_33 rfl rfl (by decide) rfl rfl (Or.inl hS) rfl hc
theorem v171_36 {d : Nat} {ls : LS3} {h : Hp} {x : Int32} (hx : x = 0 ∨ x = 1) : Ev d 171 36 ls [vI x] h = some (.inl (some (vI x)), h) := RretB hB_171 dX7_setBusy_36 rfl hx
theorem v171_37 {d : Nat} {st : List MV} {h : Hp} {x : Option A3} {a1 a2 a3 a4 a5 : Option MV} : Ev d 171 37 [some (vO x), a1, a2, a3, a4, a5] st h = Ev d 171 38 [some (vO x), a1, a2, a3, a4, a5] (vO x :: st) h := Rnx (hB_171) (dX7_setBusy_37) rfl
theorem v171_38 {d : Nat} {ls : LS3} {st : List MV} {h : Hp} : Ev d 171 38 ls st h = Ev d 171 39 ls (vI 0 :: st) h := Rnx (hB_171) (dX7_setBusy_38) rfl
set_option maxRecDepth 100000 in
theorem v171_39 {d : Nat} {ls : LS3} {st : List MV} {h : Hp} {a : A3} {x : Int32} (hS : gS h a = (1, 7)) : Ev d 171 39 ls (vI x :: vR a :: st) h = Ev d 171 42 ls st (sI h a 0 x) := RputI hB_171 dX7_setBusy_39 rfl rfl (by decide) hS (Or.inl rfl)
theorem v171_42 {d : Nat} {st : List MV} {h : Hp} {x : Option A3} {a1 a2 a3 a4 a5 : Option MV} : Ev d 171 42 [some (vO x), a1, a2, a3, a4, a5] st h = Ev d 171 43 [some (vO x), a1, a2, a3, a4, a5] (vO x :: st) h := Rnx (hB_171) (dX7_setBusy_42) rfl
set_option maxRecDepth 100000 in
theorem v171_43 {d : Nat} {ls : LS3} {st : List MV} {h : Hp} {a : A3}  (hS : gS h a = (1, 7)) (hc : catS st ≤ 8) : Ev (d + 1) 171 43 ls (vR a :: st) h = Evk 230 (d + 1) 171 43 ls st (Ev d 230 0 [some (vR a)] [] h) := RcallO (idx := 171) (n := 0) (kd := 0) (As' := []) hB_171 dX7_setBusy_43 rfl rfl (by decide) rfl rfl (Or.inl hS) rfl hc
theorem v171_46 {d : Nat} {st : List MV} {h : Hp} {x : Option A3} {a1 a2 a3 a4 a5 : Option MV} : Ev d 171 46 [some (vO x), a1, a2, a3, a4, a5] st h = Ev d 171 47 [some (vO x), a1, a2, a3, a4, a5] (vO x :: st) h := Rnx (hB_171) (dX7_setBusy_46) rfl
theorem v171_47 {d : Nat} {st : List MV} {h : Hp} {x : Int32} {a0 a2 a3 a4 a5 : Option MV} : Ev d 171 47 [a0, some (vI x), a2, a3, a4, a5] st h = Ev d 171 48 [a0, some (vI x), a2, a3, a4, a5] (vI x :: st) h := Rnx (hB_171) (dX7_setBusy_47) rfl
theorem v171_48 {d : Nat} {st : List MV} {h : Hp} {x : Int32} {a0 a1 a3 a4 a5 : Option MV} : Ev d 171 48 [a0, a1, some (vI x), a3, a4, a5] st h = Ev d 171 49 [a0, a1, some (vI x), a3, a4, a5] (vI x :: st) h := Rnx (hB_171) (dX7_setBusy_48) rfl
set_option maxRecDepth 100000 in
theorem v171_49 {d : Nat} {ls : LS3} {st : List MV} {h : Hp} {a : A3} {x0 : Int32} {x1 : Int32} (hS : gS h a = (1, 7)) (hc : catS st ≤ 8) : Ev (d + 1) 171 49 ls (vI x1 :: vI x0 :: vR a :: st) h = Evk 147 (d + 1) 171 49 ls st (Ev d 147 0 [some (vR a), some (vI x0), some (vI x1)] [] h) := RcallO (idx := 116) (n := 2) (kd := 0) (As' := [vI x0, vI x1]) hB_171 dX7_setBusy_49 rfl rfl (by decide) rfl rfl (Or.inl hS) rfl hc
theorem v171_52 {d : Nat} {st : List MV} {h : Hp} {x : Int32} {a0 a1 a2 a4 a5 : Option MV} : Ev d 171 52 [a0, a1, a2, some (vI x), a4, a5] st h = Ev d 171 53 [a0, a1, a2, some (vI x), a4, a5] (vI x :: st) h := Rnx (hB_171) (dX7_setBusy_52) rfl
theorem v171_53 {d : Nat} {ls : LS3} {st : List MV} {h : Hp} {x y : Int32} : Ev d 171 53 ls (vI y :: vI x :: st) h = Ev d 171 54 ls (vI (x >>> (y &&& 31)) :: st) h := Rnx (hB_171) (dX7_setBusy_53) rfl
theorem v171_54 {d : Nat} {ls : LS3} {st : List MV} {h : Hp} : Ev d 171 54 ls st h = Ev d 171 55 ls (vI 1 :: st) h := Rnx (hB_171) (dX7_setBusy_54) rfl
theorem v171_55 {d : Nat} {ls : LS3} {st : List MV} {h : Hp} {x y : Int32} : Ev d 171 55 ls (vI y :: vI x :: st) h = Ev d 171 56 ls (vI (x &&& y) :: st) h := Rnx (hB_171) (dX7_setBusy_55) rfl
theorem v171_56 {d : Nat} {ls : LS3} {st : List MV} {h : Hp} : Ev d 171 56 ls st h = Ev d 171 57 ls (vI 1 :: st) h := Rnx (hB_171) (dX7_setBusy_56) rfl
theorem v171_57 {d : Nat} {ls : LS3} {st : List MV} {h : Hp} {x y : Int32} : Ev d 171 57 ls (vI y :: vI x :: st) h = if x = y then Ev d 171 60 ls st h else Ev d 171 64 ls st h := Rifn hB_171 dX7_setBusy_57 rfl
theorem v171_60 {d : Nat} {ls : LS3} {st : List MV} {h : Hp} : Ev d 171 60 ls st h = Ev d 171 61 ls (vI 1 :: st) h := Rnx (hB_171) (dX7_setBusy_60) rfl
theorem v171_61 {d : Nat} {ls : LS3} {st : List MV} {h : Hp} : Ev d 171 61 ls st h = Ev d 171 65 ls st h := Rnx (hB_171) (dX7_setBusy_61) rfl
theorem v171_64 {d : Nat} {ls : LS3} {st : List MV} {h : Hp} : Ev d 171 64 ls st h = Ev d 171 65 ls (vI 0 :: st) h := Rnx (hB_171) (dX7_setBusy_64) rfl
theorem v171_65 {d : Nat} {st : List MV} {h : Hp} {x : Int32} {a0 a1 a2 a3 a4 a5 : Option MV} : Ev d 171 65 [a0, a1, a2, a3, a4, a5] (vI x :: st) h = Ev d 171 67 [a0, a1, a2, a3, a4, some (vI x)] st h := Rnx (hB_171) (dX7_setBusy_65) rfl
theorem v171_67 {d : Nat} {st : List MV} {h : Hp} {x : Option A3} {a1 a2 a3 a4 a5 : Option MV} : Ev d 171 67 [some (vO x), a1, a2, a3, a4, a5] st h = Ev d 171 68 [some (vO x), a1, a2, a3, a4, a5] (vO x :: st) h := Rnx (hB_171) (dX7_setBusy_67) rfl
set_option maxRecDepth 100000 in
theorem v171_68 {d : Nat} {ls : LS3} {st : List MV} {h : Hp} {a : A3} (hS : gS h a = (1, 7)) : Ev d 171 68 ls (vR a :: st) h = Ev d 171 71 ls (vO (gR h a 6) :: st) h := Rget hB_171 dX7_setBusy_68 rfl (Or.inl hS)
theorem v171_71 {d : Nat} {ls : LS3} {st : List MV} {h : Hp} : Ev d 171 71 ls st h = Ev d 171 73 ls (vI 101 :: st) h := Rnx (hB_171) (dX7_setBusy_71) rfl
theorem v171_73 {d : Nat} {st : List MV} {h : Hp} {x : Int32} {a0 a2 a3 a4 a5 : Option MV} : Ev d 171 73 [a0, some (vI x), a2, a3, a4, a5] st h = Ev d 171 74 [a0, some (vI x), a2, a3, a4, a5] (vI x :: st) h := Rnx (hB_171) (dX7_setBusy_73) rfl
theorem v171_74 {d : Nat} {ls : LS3} {st : List MV} {h : Hp} {x y : Int32} : Ev d 171 74 ls (vI y :: vI x :: st) h = Ev d 171 75 ls (vI (x * y) :: st) h := Rnx (hB_171) (dX7_setBusy_74) rfl
theorem v171_75 {d : Nat} {st : List MV} {h : Hp} {x : Int32} {a0 a1 a3 a4 a5 : Option MV} : Ev d 171 75 [a0, a1, some (vI x), a3, a4, a5] st h = Ev d 171 76 [a0, a1, some (vI x), a3, a4, a5] (vI x :: st) h := Rnx (hB_171) (dX7_setBusy_75) rfl
theorem v171_76 {d : Nat} {ls : LS3} {st : List MV} {h : Hp} : Ev d 171 76 ls st h = Ev d 171 77 ls (vI 4 :: st) h := Rnx (hB_171) (dX7_setBusy_76) rfl
theorem v171_77 {d : Nat} {ls : LS3} {st : List MV} {h : Hp} {x y : Int32} (hy : y ≠ 0) : Ev d 171 77 ls (vI y :: vI x :: st) h = Ev d 171 78 ls (vI (x / y) :: st) h := Rdiv hB_171 dX7_setBusy_77 hy
theorem v171_78 {d : Nat} {ls : LS3} {st : List MV} {h : Hp} {x y : Int32} : Ev d 171 78 ls (vI y :: vI x :: st) h = Ev d 171 79 ls (vI (x + y) :: st) h := Rnx (hB_171) (dX7_setBusy_78) rfl
theorem v171_79 {d : Nat} {st : List MV} {h : Hp} {x : Option A3} {a1 a2 a3 a4 a5 : Option MV} : Ev d 171 79 [some (vO x), a1, a2, a3, a4, a5] st h = Ev d 171 80 [some (vO x), a1, a2, a3, a4, a5] (vO x :: st) h := Rnx (hB_171) (dX7_setBusy_79) rfl
set_option maxRecDepth 100000 in
theorem v171_80 {d : Nat} {ls : LS3} {st : List MV} {h : Hp} {a : A3} (hS : gS h a = (1, 7)) : Ev d 171 80 ls (vR a :: st) h = Ev d 171 83 ls (vO (gR h a 6) :: st) h := Rget hB_171 dX7_setBusy_80 rfl (Or.inl hS)
theorem v171_83 {d : Nat} {ls : LS3} {st : List MV} {h : Hp} : Ev d 171 83 ls st h = Ev d 171 85 ls (vI 101 :: st) h := Rnx (hB_171) (dX7_setBusy_83) rfl
theorem v171_85 {d : Nat} {st : List MV} {h : Hp} {x : Int32} {a0 a2 a3 a4 a5 : Option MV} : Ev d 171 85 [a0, some (vI x), a2, a3, a4, a5] st h = Ev d 171 86 [a0, some (vI x), a2, a3, a4, a5] (vI x :: st) h := Rnx (hB_171) (dX7_setBusy_85) rfl
theorem v171_86 {d : Nat} {ls : LS3} {st : List MV} {h : Hp} {x y : Int32} : Ev d 171 86 ls (vI y :: vI x :: st) h = Ev d 171 87 ls (vI (x * y) :: st) h := Rnx (hB_171) (dX7_setBusy_86) rfl
theorem v171_87 {d : Nat} {st : List MV} {h : Hp} {x : Int32} {a0 a1 a3 a4 a5 : Option MV} : Ev d 171 87 [a0, a1, some (vI x), a3, a4, a5] st h = Ev d 171 88 [a0, a1, some (vI x), a3, a4, a5] (vI x :: st) h := Rnx (hB_171) (dX7_setBusy_87) rfl
theorem v171_88 {d : Nat} {ls : LS3} {st : List MV} {h : Hp} : Ev d 171 88 ls st h = Ev d 171 89 ls (vI 4 :: st) h := Rnx (hB_171) (dX7_setBusy_88) rfl
theorem v171_89 {d : Nat} {ls : LS3} {st : List MV} {h : Hp} {x y : Int32} (hy : y ≠ 0) : Ev d 171 89 ls (vI y :: vI x :: st) h = Ev d 171 90 ls (vI (x / y) :: st) h := Rdiv hB_171 dX7_setBusy_89 hy
theorem v171_90 {d : Nat} {ls : LS3} {st : List MV} {h : Hp} {x y : Int32} : Ev d 171 90 ls (vI y :: vI x :: st) h = Ev d 171 91 ls (vI (x + y) :: st) h := Rnx (hB_171) (dX7_setBusy_90) rfl
theorem v171_91 {d : Nat} {ls : LS3} {st : List MV} {h : Hp} {a : A3} {j : Int32} (hS : (gS h a).1 ∈ [2, 9]) (hj : inB j (gS h a).2) : Ev d 171 91 ls (vI j :: vR a :: st) h = Ev d 171 92 ls (vI (gI h a j.toNatClampNeg) :: st) h := Rald (ks := [2, 9]) (f := fun a j => vI (gI h a j)) hB_171 dX7_setBusy_91 rfl hS hj
theorem v171_92 {d : Nat} {ls : LS3} {st : List MV} {h : Hp} : Ev d 171 92 ls st h = Ev d 171 94 ls (vI 8 :: st) h := Rnx (hB_171) (dX7_setBusy_92) rfl
theorem v171_94 {d : Nat} {st : List MV} {h : Hp} {x : Int32} {a0 a1 a3 a4 a5 : Option MV} : Ev d 171 94 [a0, a1, some (vI x), a3, a4, a5] st h = Ev d 171 95 [a0, a1, some (vI x), a3, a4, a5] (vI x :: st) h := Rnx (hB_171) (dX7_setBusy_94) rfl
theorem v171_95 {d : Nat} {ls : LS3} {st : List MV} {h : Hp} : Ev d 171 95 ls st h = Ev d 171 96 ls (vI 4 :: st) h := Rnx (hB_171) (dX7_setBusy_95) rfl
theorem v171_96 {d : Nat} {ls : LS3} {st : List MV} {h : Hp} {x y : Int32} (hy : y ≠ 0) : Ev d 171 96 ls (vI y :: vI x :: st) h = Ev d 171 97 ls (vI (x - x / y * y) :: st) h := Rrem hB_171 dX7_setBusy_96 hy
theorem v171_97 {d : Nat} {ls : LS3} {st : List MV} {h : Hp} {x y : Int32} : Ev d 171 97 ls (vI y :: vI x :: st) h = Ev d 171 98 ls (vI (x * y) :: st) h := Rnx (hB_171) (dX7_setBusy_97) rfl
theorem v171_98 {d : Nat} {st : List MV} {h : Hp} {x : Int32} {a0 a1 a2 a4 a5 : Option MV} : Ev d 171 98 [a0, a1, a2, some (vI x), a4, a5] st h = Ev d 171 99 [a0, a1, a2, some (vI x), a4, a5] (vI x :: st) h := Rnx (hB_171) (dX7_setBusy_98) rfl
theorem v171_99 {d : Nat} {ls : LS3} {st : List MV} {h : Hp} {x y : Int32} : Ev d 171 99 ls (vI y :: vI x :: st) h = Ev d 171 100 ls (vI (x + y) :: st) h := Rnx (hB_171) (dX7_setBusy_99) rfl
theorem v171_100 {d : Nat} {st : List MV} {h : Hp} {x : Int32} {a0 a1 a2 a3 a5 : Option MV} : Ev d 171 100 [a0, a1, a2, a3, some (vI x), a5] st h = Ev d 171 102 [a0, a1, a2, a3, some (vI x), a5] (vI x :: st) h := Rnx (hB_171) (dX7_setBusy_100) rfl
set_option maxRecDepth 100000 in
theorem v171_102 {d : Nat} {ls : LS3} {st : List MV} {h : Hp} {x0 : Int32} {x1 : Int32} {x2 : Int32} (hc : catS st ≤ 8) : Ev (d + 1) 171 102 ls (vI x2 :: vI x1 :: vI x0 :: st) h = Evk 169 (d + 1) 171 102 ls st (Ev d 169 0 [some (vI x0), some (vI x1), some (vI x2)] [] h) := RcallS (idx := 180) (n := 3) (kd := 1) (As := [vI x0, vI x1, vI x2]) hB_171 dX7_setBusy_102 rfl rfl (by decide) rfl rfl rfl hc
theorem v171_105 {d : Nat} {ls : LS3} {st : List MV} {h : Hp} {a : A3} {j : Int32} {x : Int32} (hS : (gS h a).1 = 2) (hj : inB j (gS h a).2) : Ev d 171 105 ls (vI x :: vI j :: vR a :: st) h = Ev d 171 106 ls st (sI h a j.toNatClampNeg x) := RastI hB_171 dX7_setBusy_105 hS hj
theorem v171_106 {d : Nat} {st : List MV} {h : Hp} {x : Int32} {a0 a1 a2 a3 a4 : Option MV} : Ev d 171 106 [a0, a1, a2, a3, a4, some (vI x)] st h = Ev d 171 108 [a0, a1, a2, a3, a4, some (vI x)] (vI x :: st) h := Rnx (hB_171) (dX7_setBusy_106) rfl
theorem v171_108 {d : Nat} {ls : LS3} {h : Hp} {x : Int32} (hx : x = 0 ∨ x = 1) : Ev d 171 108 ls [vI x] h = some (.inl (some (vI x)), h) := RretB hB_171 dX7_setBusy_108 rfl hx
theorem hB_172 : mB 172 = cX7_committees := rfl
theorem v172_0 {d : Nat} {ls : LS3} {st : List MV} {h : Hp} : Ev d 172 0 ls st h = Ev d 172 1 ls (vI 0 :: st) h := Rnx (hB_172) (dX7_committees_0) rfl
theorem v172_1 {d : Nat} {st : List MV} {h : Hp} {x : Int32} {a0 a1 a2 a3 : Option MV} : Ev d 172 1 [a0, a1, a2, a3] (vI x :: st) h = Ev d 172 2 [a0, a1, some (vI x), a3] st h := Rnx (hB_172) (dX7_committees_1) rfl
theorem v172_2 {d : Nat} {ls : LS3} {st : List MV} {h : Hp} : Ev d 172 2 ls st h = Ev d 172 3 ls (vI 0 :: st) h := Rnx (hB_172) (dX7_committees_2) rfl
theorem v172_3 {d : Nat} {st : List MV} {h : Hp} {x : Int32} {a0 a1 a2 a3 : Option MV} : Ev d 172 3 [a0, a1, a2, a3] (vI x :: st) h = Ev d 172 4 [a0, a1, a2, some (vI x)] st h := Rnx (hB_172) (dX7_committees_3) rfl
theorem v172_4 {d : Nat} {st : List MV} {h : Hp} {x : Int32} {a0 a1 a2 : Option MV} : Ev d 172 4 [a0, a1, a2, some (vI x)] st h = Ev d 172 5 [a0, a1, a2, some (vI x)] (vI x :: st) h := Rnx (hB_172) (dX7_committees_4) rfl
theorem v172_5 {d : Nat} {st : List MV} {h : Hp} {x : Option A3} {a1 a2 a3 : Option MV} : Ev d 172 5 [some (vO x), a1, a2, a3] st h = Ev d 172 6 [some (vO x), a1, a2, a3] (vO x :: st) h := Rnx (hB_172) (dX7_committees_5) rfl
set_option maxRecDepth 100000 in
theorem v172_6 {d : Nat} {ls : LS3} {st : List MV} {h : Hp} {a : A3} (hS : gS h a = (1, 7)) : Ev d 172 6 ls (vR a :: st) h = Ev d 172 9 ls (vI (gI h a 19) :: st) h := Rget hB_172 dX7_committees_6 rfl (Or.inl hS)
theorem v172_9 {d : Nat} {ls : LS3} {st : List MV} {h : Hp} {x y : Int32} : Ev d 172 9 ls (vI y :: vI x :: st) h = if y ≤ x then Ev d 172 45 ls st h else Ev d 172 12 ls st h := Rif hB_172 dX7_committees_9 rfl
theorem v172_12 {d : Nat} {st : List MV} {h : Hp} {x : Int32} {a0 a1 a3 : Option MV} : Ev d 172 12 [a0, a1, some (vI x), a3] st h = Ev d 172 13 [a0, a1, some (vI x), a3] (vI x :: st) h := Rnx (hB_172) (dX7_committees_12) rfl
theorem v172_13 {d : Nat} {st : List MV} {h : Hp} {x : Option A3} {a1 a2 a3 : Option MV} : Ev d 172 13 [some (vO x), a1, a2, a3] st h = Ev d 172 14 [some (vO x), a1, a2, a3] (vO x :: st) h := Rnx (hB_172) (dX7_committees_13) rfl
theorem v172_14 {d : Nat} {st : List MV} {h : Hp} {x : Int32} {a0 a1 a2 : Option MV} : Ev d 172 14 [a0, a1, a2, some (vI x)] st h = Ev d 172 15 [a0, a1, a2, some (vI x)] (vI x :: st) h := Rnx (hB_172) (dX7_committees_14) rfl
theorem v172_15 {d : Nat} {st : List MV} {h : Hp} {x : Int32} {a0 a2 a3 : Option MV} : Ev d 172 15 [a0, some (vI x), a2, a3] st h = Ev d 172 16 [a0, some (vI x), a2, a3] (vI x :: st) h := Rnx (hB_172) (dX7_committees_15) rfl
set_option maxRecDepth 100000 in
theorem v172_16 {d : Nat} {ls : LS3} {st : List MV} {h : Hp} {a : A3} {x0 : Int32} {x1 : Int32} (hS : gS h a = (1, 7)) (hc : catS st ≤ 8) : Ev (d + 1) 172 16 ls (vI x1 :: vI x0 :: vR a :: st) h = Evk 150 (d + 1) 172 16 ls st (Ev d 150 0 [some (vR a), some (vI x0), some (vI x1)] [] h) := RcallO (idx := 105) (n := 2) (kd := 0) (As' := [vI x0, vI x1]) hB_172 dX7_committees_16 rfl rfl (by decide) rfl rfl (Or.inl hS) rfl hc
theorem v172_19 {d : Nat} {ls : LS3} {st : List MV} {h : Hp} {x : Int32} : Ev d 172 19 ls (vI x :: st) h = if x = 0 then Ev d 172 36 ls st h else Ev d 172 22 ls st h := Rif hB_172 dX7_committees_19 rfl
theorem v172_22 {d : Nat} {st : List MV} {h : Hp} {x : Option A3} {a1 a2 a3 : Option MV} : Ev d 172 22 [some (vO x), a1, a2, a3] st h = Ev d 172 23 [some (vO x), a1, a2, a3] (vO x :: st) h := Rnx (hB_172) (dX7_committees_22) rfl
theorem v172_23 {d : Nat} {st : List MV} {h : Hp} {x : Int32} {a0 a1 a2 : Option MV} : Ev d 172 23 [a0, a1, a2, some (vI x)] st h = Ev d 172 24 [a0, a1, a2, some (vI x)] (vI x :: st) h := Rnx (hB_172) (dX7_committees_23) rfl
set_option maxRecDepth 100000 in
theorem v172_24 {d : Nat} {ls : LS3} {st : List MV} {h : Hp} {a : A3} {x0 : Int32} (hS : gS h a = (1, 7)) (hc : catS st ≤ 8) : Ev (d + 1) 172 24 ls (vI x0 :: vR a :: st) h = Evk 152 (d + 1) 172 24 ls st (Ev d 152 0 [some (vR a), some (vI x0)] [] h) := RcallO (idx := 109) (n := 1) (kd := 0) (As' := [vI x0]) hB_172 dX7_committees_24 rfl rfl (by decide) rfl rfl (Or.inl hS) rfl hc
theorem v172_27 {d : Nat} {ls : LS3} {st : List MV} {h : Hp} {x : Int32} : Ev d 172 27 ls (vI x :: st) h = if x = 0 then Ev d 172 30 ls st h else Ev d 172 36 ls st h := Rifn hB_172 dX7_committees_27 rfl
theorem v172_30 {d : Nat} {ls : LS3} {st : List MV} {h : Hp} : Ev d 172 30 ls st h = Ev d 172 31 ls (vI 1 :: st) h := Rnx (hB_172) (dX7_committees_30) rfl
theorem v172_31 {d : Nat} {st : List MV} {h : Hp} {x : Int32} {a0 a1 a2 : Option MV} : Ev d 172 31 [a0, a1, a2, some (vI x)] st h = Ev d 172 32 [a0, a1, a2, some (vI x)] (vI x :: st) h := Rnx (hB_172) (dX7_committees_31) rfl
theorem v172_32 {d : Nat} {ls : LS3} {st : List MV} {h : Hp} {x y : Int32} : Ev d 172 32 ls (vI y :: vI x :: st) h = Ev d 172 33 ls (vI (x <<< (y &&& 31)) :: st) h := Rnx (hB_172) (dX7_committees_32) rfl
theorem v172_33 {d : Nat} {ls : LS3} {st : List MV} {h : Hp} : Ev d 172 33 ls st h = Ev d 172 37 ls st h := Rnx (hB_172) (dX7_committees_33) rfl
theorem v172_36 {d : Nat} {ls : LS3} {st : List MV} {h : Hp} : Ev d 172 36 ls st h = Ev d 172 37 ls (vI 0 :: st) h := Rnx (hB_172) (dX7_committees_36) rfl
theorem v172_37 {d : Nat} {ls : LS3} {st : List MV} {h : Hp} {x y : Int32} : Ev d 172 37 ls (vI y :: vI x :: st) h = Ev d 172 38 ls (vI (x ||| y) :: st) h := Rnx (hB_172) (dX7_committees_37) rfl
theorem v172_38 {d : Nat} {st : List MV} {h : Hp} {x : Int32} {a0 a1 a2 a3 : Option MV} : Ev d 172 38 [a0, a1, a2, a3] (vI x :: st) h = Ev d 172 39 [a0, a1, some (vI x), a3] st h := Rnx (hB_172) (dX7_committees_38) rfl
theorem v172_39 {d : Nat} {st : List MV} {h : Hp} {x : Int32} {a0 a1 a2 : Option MV} : Ev d 172 39 [a0, a1, a2, some (vI x)] st h = Ev d 172 42 [a0, a1, a2, some (vI (x + 1))] st h := Rnx (hB_172) (dX7_committees_39) rfl
theorem v172_42 {d : Nat} {ls : LS3} {st : List MV} {h : Hp} : Ev d 172 42 ls st h = Ev d 172 4 ls st h := Rnx (hB_172) (dX7_committees_42) rfl
theorem v172_45 {d : Nat} {st : List MV} {h : Hp} {x : Int32} {a0 a1 a3 : Option MV} : Ev d 172 45 [a0, a1, some (vI x), a3] st h = Ev d 172 46 [a0, a1, some (vI x), a3] (vI x :: st) h := Rnx (hB_172) (dX7_committees_45) rfl
theorem v172_46 {d : Nat} {ls : LS3} {h : Hp} {x : Int32} : Ev d 172 46 ls [vI x] h = some (.inl (some (vI x)), h) := Rdn hB_172 dX7_committees_46 rfl
theorem hB_173 : mB 173 = cX7_supervised := rfl
theorem v173_0 {d : Nat} {ls : LS3} {st : List MV} {h : Hp} : Ev d 173 0 ls st h = Ev d 173 1 ls (vI 0 :: st) h := Rnx (hB_173) (dX7_supervised_0) rfl
theorem v173_1 {d : Nat} {st : List MV} {h : Hp} {x : Int32} {a0 a1 a2 a3 : Option MV} : Ev d 173 1 [a0, a1, a2, a3] (vI x :: st) h = Ev d 173 2 [a0, a1, some (vI x), a3] st h := Rnx (hB_173) (dX7_supervised_1) rfl
theorem v173_2 {d : Nat} {ls : LS3} {st : List MV} {h : Hp} : Ev d 173 2 ls st h = Ev d 173 3 ls (vI 0 :: st) h := Rnx (hB_173) (dX7_supervised_2) rfl
theorem v173_3 {d : Nat} {st : List MV} {h : Hp} {x : Int32} {a0 a1 a2 a3 : Option MV} : Ev d 173 3 [a0, a1, a2, a3] (vI x :: st) h = Ev d 173 4 [a0, a1, a2, some (vI x)] st h := Rnx (hB_173) (dX7_supervised_3) rfl
theorem v173_4 {d : Nat} {st : List MV} {h : Hp} {x : Int32} {a0 a1 a2 : Option MV} : Ev d 173 4 [a0, a1, a2, some (vI x)] st h = Ev d 173 5 [a0, a1, a2, some (vI x)] (vI x :: st) h := Rnx (hB_173) (dX7_supervised_4) rfl
theorem v173_5 {d : Nat} {st : List MV} {h : Hp} {x : Option A3} {a1 a2 a3 : Option MV} : Ev d 173 5 [some (vO x), a1, a2, a3] st h = Ev d 173 6 [some (vO x), a1, a2, a3] (vO x :: st) h := Rnx (hB_173) (dX7_supervised_5) rfl
set_option maxRecDepth 100000 in
theorem v173_6 {d : Nat} {ls : LS3} {st : List MV} {h : Hp} {a : A3} (hS : gS h a = (1, 7)) : Ev d 173 6 ls (vR a :: st) h = Ev d 173 9 ls (vI (gI h a 19) :: st) h := Rget hB_173 dX7_supervised_6 rfl (Or.inl hS)
theorem v173_9 {d : Nat} {ls : LS3} {st : List MV} {h : Hp} {x y : Int32} : Ev d 173 9 ls (vI y :: vI x :: st) h = if y ≤ x then Ev d 173 38 ls st h else Ev d 173 12 ls st h := Rif hB_173 dX7_supervised_9 rfl
theorem v173_12 {d : Nat} {st : List MV} {h : Hp} {x : Int32} {a0 a1 a3 : Option MV} : Ev d 173 12 [a0, a1, some (vI x), a3] st h = Ev d 173 13 [a0, a1, some (vI x), a3] (vI x :: st) h := Rnx (hB_173) (dX7_supervised_12) rfl
theorem v173_13 {d : Nat} {st : List MV} {h : Hp} {x : Option A3} {a1 a2 a3 : Option MV} : Ev d 173 13 [some (vO x), a1, a2, a3] st h = Ev d 173 14 [some (vO x), a1, a2, a3] (vO x :: st) h := Rnx (hB_173) (dX7_supervised_13) rfl
set_option maxRecDepth 100000 in
theorem v173_14 {d : Nat} {ls : LS3} {st : List MV} {h : Hp} {a : A3} (hS : gS h a = (1, 7)) : Ev d 173 14 ls (vR a :: st) h = Ev d 173 17 ls (vO (gR h a 12) :: st) h := Rget hB_173 dX7_supervised_14 rfl (Or.inl hS)
theorem v173_17 {d : Nat} {st : List MV} {h : Hp} {x : Int32} {a0 a1 a2 : Option MV} : Ev d 173 17 [a0, a1, a2, some (vI x)] st h = Ev d 173 18 [a0, a1, a2, some (vI x)] (vI x :: st) h := Rnx (hB_173) (dX7_supervised_17) rfl
theorem v173_18 {d : Nat} {ls : LS3} {st : List MV} {h : Hp} {a : A3} {j : Int32} (hS : (gS h a).1 ∈ [2, 9]) (hj : inB j (gS h a).2) : Ev d 173 18 ls (vI j :: vR a :: st) h = Ev d 173 19 ls (vI (gI h a j.toNatClampNeg) :: st) h := Rald (ks := [2, 9]) (f := fun a j => vI (gI h a j)) hB_173 dX7_supervised_18 rfl hS hj
theorem v173_19 {d : Nat} {st : List MV} {h : Hp} {x : Int32} {a0 a2 a3 : Option MV} : Ev d 173 19 [a0, some (vI x), a2, a3] st h = Ev d 173 20 [a0, some (vI x), a2, a3] (vI x :: st) h := Rnx (hB_173) (dX7_supervised_19) rfl
theorem v173_20 {d : Nat} {ls : LS3} {st : List MV} {h : Hp} {x y : Int32} : Ev d 173 20 ls (vI y :: vI x :: st) h = if x = y then Ev d 173 23 ls st h else Ev d 173 29 ls st h := Rifn hB_173 dX7_supervised_20 rfl
theorem v173_23 {d : Nat} {ls : LS3} {st : List MV} {h : Hp} : Ev d 173 23 ls st h = Ev d 173 24 ls (vI 1 :: st) h := Rnx (hB_173) (dX7_supervised_23) rfl
theorem v173_24 {d : Nat} {st : List MV} {h : Hp} {x : Int32} {a0 a1 a2 : Option MV} : Ev d 173 24 [a0, a1, a2, some (vI x)] st h = Ev d 173 25 [a0, a1, a2, some (vI x)] (vI x :: st) h := Rnx (hB_173) (dX7_supervised_24) rfl
theorem v173_25 {d : Nat} {ls : LS3} {st : List MV} {h : Hp} {x y : Int32} : Ev d 173 25 ls (vI y :: vI x :: st) h = Ev d 173 26 ls (vI (x <<< (y &&& 31)) :: st) h := Rnx (hB_173) (dX7_supervised_25) rfl
theorem v173_26 {d : Nat} {ls : LS3} {st : List MV} {h : Hp} : Ev d 173 26 ls st h = Ev d 173 30 ls st h := Rnx (hB_173) (dX7_supervised_26) rfl
theorem v173_29 {d : Nat} {ls : LS3} {st : List MV} {h : Hp} : Ev d 173 29 ls st h = Ev d 173 30 ls (vI 0 :: st) h := Rnx (hB_173) (dX7_supervised_29) rfl
theorem v173_30 {d : Nat} {ls : LS3} {st : List MV} {h : Hp} {x y : Int32} : Ev d 173 30 ls (vI y :: vI x :: st) h = Ev d 173 31 ls (vI (x ||| y) :: st) h := Rnx (hB_173) (dX7_supervised_30) rfl
theorem v173_31 {d : Nat} {st : List MV} {h : Hp} {x : Int32} {a0 a1 a2 a3 : Option MV} : Ev d 173 31 [a0, a1, a2, a3] (vI x :: st) h = Ev d 173 32 [a0, a1, some (vI x), a3] st h := Rnx (hB_173) (dX7_supervised_31) rfl
theorem v173_32 {d : Nat} {st : List MV} {h : Hp} {x : Int32} {a0 a1 a2 : Option MV} : Ev d 173 32 [a0, a1, a2, some (vI x)] st h = Ev d 173 35 [a0, a1, a2, some (vI (x + 1))] st h := Rnx (hB_173) (dX7_supervised_32) rfl
theorem v173_35 {d : Nat} {ls : LS3} {st : List MV} {h : Hp} : Ev d 173 35 ls st h = Ev d 173 4 ls st h := Rnx (hB_173) (dX7_supervised_35) rfl
theorem v173_38 {d : Nat} {st : List MV} {h : Hp} {x : Int32} {a0 a1 a3 : Option MV} : Ev d 173 38 [a0, a1, some (vI x), a3] st h = Ev d 173 39 [a0, a1, some (vI x), a3] (vI x :: st) h := Rnx (hB_173) (dX7_supervised_38) rfl
theorem v173_39 {d : Nat} {ls : LS3} {h : Hp} {x : Int32} : Ev d 173 39 ls [vI x] h = some (.inl (some (vI x)), h) := Rdn hB_173 dX7_supervised_39 rfl
theorem hB_174 : mB 174 = cX7_busyHours := rfl
theorem v174_0 {d : Nat} {ls : LS3} {st : List MV} {h : Hp} : Ev d 174 0 ls st h = Ev d 174 1 ls (vI 0 :: st) h := Rnx (hB_174) (dX7_busyHours_0) rfl
theorem v174_1 {d : Nat} {st : List MV} {h : Hp} {x : Int32} {a0 a1 a2 a3 : Option MV} : Ev d 174 1 [a0, a1, a2, a3] (vI x :: st) h = Ev d 174 2 [a0, a1, some (vI x), a3] st h := Rnx (hB_174) (dX7_busyHours_1) rfl
theorem v174_2 {d : Nat} {ls : LS3} {st : List MV} {h : Hp} : Ev d 174 2 ls st h = Ev d 174 3 ls (vI 0 :: st) h := Rnx (hB_174) (dX7_busyHours_2) rfl
theorem v174_3 {d : Nat} {st : List MV} {h : Hp} {x : Int32} {a0 a1 a2 a3 : Option MV} : Ev d 174 3 [a0, a1, a2, a3] (vI x :: st) h = Ev d 174 4 [a0, a1, a2, some (vI x)] st h := Rnx (hB_174) (dX7_busyHours_3) rfl
theorem v174_4 {d : Nat} {st : List MV} {h : Hp} {x : Int32} {a0 a1 a2 : Option MV} : Ev d 174 4 [a0, a1, a2, some (vI x)] st h = Ev d 174 5 [a0, a1, a2, some (vI x)] (vI x :: st) h := Rnx (hB_174) (dX7_busyHours_4) rfl
theorem v174_5 {d : Nat} {ls : LS3} {st : List MV} {h : Hp} : Ev d 174 5 ls st h = Ev d 174 8 ls (vI 400 :: st) h := Rnx (hB_174) (dX7_busyHours_5) rfl
theorem v174_8 {d : Nat} {ls : LS3} {st : List MV} {h : Hp} {x y : Int32} : Ev d 174 8 ls (vI y :: vI x :: st) h = if y < x then Ev d 174 29 ls st h else Ev d 174 11 ls st h := Rif hB_174 dX7_busyHours_8 rfl
theorem v174_11 {d : Nat} {st : List MV} {h : Hp} {x : Int32} {a0 a1 a3 : Option MV} : Ev d 174 11 [a0, a1, some (vI x), a3] st h = Ev d 174 12 [a0, a1, some (vI x), a3] (vI x :: st) h := Rnx (hB_174) (dX7_busyHours_11) rfl
theorem v174_12 {d : Nat} {st : List MV} {h : Hp} {x : Option A3} {a1 a2 a3 : Option MV} : Ev d 174 12 [some (vO x), a1, a2, a3] st h = Ev d 174 13 [some (vO x), a1, a2, a3] (vO x :: st) h := Rnx (hB_174) (dX7_busyHours_12) rfl
theorem v174_13 {d : Nat} {st : List MV} {h : Hp} {x : Int32} {a0 a2 a3 : Option MV} : Ev d 174 13 [a0, some (vI x), a2, a3] st h = Ev d 174 14 [a0, some (vI x), a2, a3] (vI x :: st) h := Rnx (hB_174) (dX7_busyHours_13) rfl
theorem v174_14 {d : Nat} {st : List MV} {h : Hp} {x : Int32} {a0 a1 a2 : Option MV} : Ev d 174 14 [a0, a1, a2, some (vI x)] st h = Ev d 174 15 [a0, a1, a2, some (vI x)] (vI x :: st) h := Rnx (hB_174) (dX7_busyHours_14) rfl
set_option maxRecDepth 100000 in
theorem v174_15 {d : Nat} {ls : LS3} {st : List MV} {h : Hp} {a : A3} {x0 : Int32} {x1 : Int32} (hS : gS h a = (1, 7)) (hc : catS st ≤ 8) : Ev (d + 1) 174 15 ls (vI x1 :: vI x0 :: vR a :: st) h = Evk 147 (d + 1) 174 15 ls st (Ev d 147 0 [some (vR a), some (vI x0), some (vI x1)] [] h) := RcallO (idx := 116) (n := 2) (kd := 0) (As' := [vI x0, vI x1]) hB_174 dX7_busyHours_15 rfl rfl (by decide) rfl rfl (Or.inl hS) rfl hc
set_option maxRecDepth 100000 in
theorem v174_18 {d : Nat} {ls : LS3} {st : List MV} {h : Hp} {x0 : Int32} (hc : catS st ≤ 8) : Ev (d + 1) 174 18 ls (vI x0 :: st) h = Evk 144 (d + 1) 174 18 ls st (Ev d 144 0 [some (vI x0), none, none] [] h) := RcallS (idx := 129) (n := 1) (kd := 1) (As := [vI x0]) hB_174 dX7_busyHours_18 rfl rfl (by decide) rfl rfl rfl hc
theorem v174_21 {d : Nat} {ls : LS3} {st : List MV} {h : Hp} {x y : Int32} : Ev d 174 21 ls (vI y :: vI x :: st) h = Ev d 174 22 ls (vI (x + y) :: st) h := Rnx (hB_174) (dX7_busyHours_21) rfl
theorem v174_22 {d : Nat} {st : List MV} {h : Hp} {x : Int32} {a0 a1 a2 a3 : Option MV} : Ev d 174 22 [a0, a1, a2, a3] (vI x :: st) h = Ev d 174 23 [a0, a1, some (vI x), a3] st h := Rnx (hB_174) (dX7_busyHours_22) rfl
theorem v174_23 {d : Nat} {st : List MV} {h : Hp} {x : Int32} {a0 a1 a2 : Option MV} : Ev d 174 23 [a0, a1, a2, some (vI x)] st h = Ev d 174 26 [a0, a1, a2, some (vI (x + 1))] st h := Rnx (hB_174) (dX7_busyHours_23) rfl
theorem v174_26 {d : Nat} {ls : LS3} {st : List MV} {h : Hp} : Ev d 174 26 ls st h = Ev d 174 4 ls st h := Rnx (hB_174) (dX7_busyHours_26) rfl
theorem v174_29 {d : Nat} {st : List MV} {h : Hp} {x : Int32} {a0 a1 a3 : Option MV} : Ev d 174 29 [a0, a1, some (vI x), a3] st h = Ev d 174 30 [a0, a1, some (vI x), a3] (vI x :: st) h := Rnx (hB_174) (dX7_busyHours_29) rfl
theorem v174_30 {d : Nat} {ls : LS3} {h : Hp} {x : Int32} : Ev d 174 30 ls [vI x] h = some (.inl (some (vI x)), h) := Rdn hB_174 dX7_busyHours_30 rfl
theorem hB_175 : mB 175 = cX7_person := rfl
theorem v175_0 {d : Nat} {st : List MV} {h : Hp} {x : Option A3} {a1 a2 : Option MV} : Ev d 175 0 [some (vO x), a1, a2] st h = Ev d 175 1 [some (vO x), a1, a2] (vO x :: st) h := Rnx (hB_175) (dX7_person_0) rfl
theorem v175_1 {d : Nat} {st : List MV} {h : Hp} {x : Int32} {a0 a2 : Option MV} : Ev d 175 1 [a0, some (vI x), a2] st h = Ev d 175 2 [a0, some (vI x), a2] (vI x :: st) h := Rnx (hB_175) (dX7_person_1) rfl
set_option maxRecDepth 100000 in
theorem v175_2 {d : Nat} {ls : LS3} {st : List MV} {h : Hp} {a : A3} {x0 : Int32} (hS : gS h a = (1, 7)) (hc : catS st ≤ 8) : Ev (d + 1) 175 2 ls (vI x0 :: vR a :: st) h = Evk 145 (d + 1) 175 2 ls st (Ev d 145 0 [some (vR a), some (vI x0)] [] h) := RcallO (idx := 174) (n := 1) (kd := 0) (As' := [vI x0]) hB_175 dX7_person_2 rfl rfl (by decide) rfl rfl (Or.inl hS) rfl hc
theorem v175_5 {d : Nat} {ls : LS3} {st : List MV} {h : Hp} {x : Int32} : Ev d 175 5 ls (vI x :: st) h = if x = 0 then Ev d 175 8 ls st h else Ev d 175 14 ls st h := Rifn hB_175 dX7_person_5 rfl
theorem v175_8 {d : Nat} {st : List MV} {h : Hp} {x : Option A3} {a1 a2 : Option MV} : Ev d 175 8 [some (vO x), a1, a2] st h = Ev d 175 9 [some (vO x), a1, a2] (vO x :: st) h := Rnx (hB_175) (dX7_person_8) rfl
theorem v175_9 {d : Nat} {ls : LS3} {st : List MV} {h : Hp} : Ev d 175 9 ls st h = Ev d 175 10 ls (vI 1 :: st) h := Rnx (hB_175) (dX7_person_9) rfl
set_option maxRecDepth 100000 in
theorem v175_10 {d : Nat} {ls : LS3} {st : List MV} {h : Hp} {a : A3} {x0 : Int32} (hS : gS h a = (1, 7)) (hc : catS st ≤ 8) : Ev (d + 1) 175 10 ls (vI x0 :: vR a :: st) h = Evk 141 (d + 1) 175 10 ls st (Ev d 141 0 [some (vR a), some (vI x0)] [] h) := RcallO (idx := 168) (n := 1) (kd := 0) (As' := [vI x0]) hB_175 dX7_person_10 rfl rfl (by decide) rfl rfl (Or.inl hS) rfl hc
theorem v175_13 {d : Nat} {ls : LS3} {h : Hp} {x : Int32} : Ev d 175 13 ls [vI x] h = some (.inl (some (vI x)), h) := Rdn hB_175 dX7_person_13 rfl
theorem v175_14 {d : Nat} {st : List MV} {h : Hp} {x : Int32} {a0 a1 : Option MV} : Ev d 175 14 [a0, a1, some (vI x)] st h = Ev d 175 15 [a0, a1, some (vI x)] (vI x :: st) h := Rnx (hB_175) (dX7_person_14) rfl
theorem v175_15 {d : Nat} {ls : LS3} {st : List MV} {h : Hp} : Ev d 175 15 ls st h = Ev d 175 16 ls (vI 0 :: st) h := Rnx (hB_175) (dX7_person_15) rfl
theorem v175_16 {d : Nat} {ls : LS3} {st : List MV} {h : Hp} : Ev d 175 16 ls st h = Ev d 175 18 ls (vI 7 :: st) h := Rnx (hB_175) (dX7_person_16) rfl
set_option maxRecDepth 100000 in
theorem v175_18 {d : Nat} {ls : LS3} {st : List MV} {h : Hp} {x0 : Int32} {x1 : Int32} {x2 : Int32} (hc : catS st ≤ 8) : Ev (d + 1) 175 18 ls (vI x2 :: vI x1 :: vI x0 :: st) h = Evk 143 (d + 1) 175 18 ls st (Ev d 143 0 [some (vI x0), some (vI x1), some (vI x2)] [] h) := RcallS (idx := 87) (n := 3) (kd := 1) (As := [vI x0, vI x1, vI x2]) hB_175 dX7_person_18 rfl rfl (by decide) rfl rfl rfl hc
theorem v175_21 {d : Nat} {ls : LS3} {st : List MV} {h : Hp} {x : Int32} : Ev d 175 21 ls (vI x :: st) h = if x = 0 then Ev d 175 24 ls st h else Ev d 175 30 ls st h := Rifn hB_175 dX7_person_21 rfl
theorem v175_24 {d : Nat} {st : List MV} {h : Hp} {x : Option A3} {a1 a2 : Option MV} : Ev d 175 24 [some (vO x), a1, a2] st h = Ev d 175 25 [some (vO x), a1, a2] (vO x :: st) h := Rnx (hB_175) (dX7_person_24) rfl
theorem v175_25 {d : Nat} {ls : LS3} {st : List MV} {h : Hp} : Ev d 175 25 ls st h = Ev d 175 26 ls (vI 2 :: st) h := Rnx (hB_175) (dX7_person_25) rfl
set_option maxRecDepth 100000 in
theorem v175_26 {d : Nat} {ls : LS3} {st : List MV} {h : Hp} {a : A3} {x0 : Int32} (hS : gS h a = (1, 7)) (hc : catS st ≤ 8) : Ev (d + 1) 175 26 ls (vI x0 :: vR a :: st) h = Evk 141 (d + 1) 175 26 ls st (Ev d 141 0 [some (vR a), some (vI x0)] [] h) := RcallO (idx := 168) (n := 1) (kd := 0) (As' := [vI x0]) hB_175 dX7_person_26 rfl rfl (by decide) rfl rfl (Or.inl hS) rfl hc
theorem v175_29 {d : Nat} {ls : LS3} {h : Hp} {x : Int32} : Ev d 175 29 ls [vI x] h = some (.inl (some (vI x)), h) := Rdn hB_175 dX7_person_29 rfl
theorem v175_30 {d : Nat} {st : List MV} {h : Hp} {x : Option A3} {a1 a2 : Option MV} : Ev d 175 30 [some (vO x), a1, a2] st h = Ev d 175 31 [some (vO x), a1, a2] (vO x :: st) h := Rnx (hB_175) (dX7_person_30) rfl
theorem v175_31 {d : Nat} {ls : LS3} {st : List MV} {h : Hp} : Ev d 175 31 ls st h = Ev d 175 32 ls (vI 0 :: st) h := Rnx (hB_175) (dX7_person_31) rfl
set_option maxRecDepth 100000 in
theorem v175_32 {d : Nat} {ls : LS3} {st : List MV} {h : Hp} {a : A3} {x : Int32} (hS : gS h a = (1, 7)) : Ev d 175 32 ls (vI x :: vR a :: st) h = Ev d 175 35 ls st (sI h a 0 x) := RputI hB_175 dX7_person_32 rfl rfl (by decide) hS (Or.inl rfl)
theorem v175_35 {d : Nat} {st : List MV} {h : Hp} {x : Int32} {a0 a1 : Option MV} : Ev d 175 35 [a0, a1, some (vI x)] st h = Ev d 175 36 [a0, a1, some (vI x)] (vI x :: st) h := Rnx (hB_175) (dX7_person_35) rfl
theorem v175_36 {d : Nat} {ls : LS3} {st : List MV} {h : Hp} {x : Int32} : Ev d 175 36 ls (vI x :: st) h = if x = 0 then Ev d 175 80 ls st h else if x = 1 then Ev d 175 87 ls st h else if x = 2 then Ev d 175 94 ls st h else if x = 3 then Ev d 175 101 ls st h else if x = 4 then Ev d 175 108 ls st h else if x = 5 then Ev d 175 115 ls st h else if x = 6 then Ev d 175 121 ls st h else Ev d 175 127 ls st h := by
  by_cases z : x.toInt < 0 ∨ 6 < x.toInt
  · rw [if_neg (fun y => by rw [y] at z; revert z; decide), if_neg (fun y => by rw [y] at z; revert z; decide), if_neg (fun y => by rw [y] at z; revert z; decide), if_neg (fun y => by rw [y] at z; revert z; decide), if_neg (fun y => by rw [y] at z; revert z; decide), if_neg (fun y => by rw [y] at z; revert z; decide), if_neg (fun y => by rw [y] at z; revert z; decide)]
    exact Rnx hB_175 dX7_person_36 (xTab_out z)
  · rcases (show x.toInt = 0 ∨ x.toInt = 1 ∨ x.toInt = 2 ∨ x.toInt = 3 ∨ x.toInt = 4 ∨ x.toInt = 5 ∨ x.toInt = 6 by omega) with y | y | y | y | y | y | y
    · have e : x = 0 := Int32.toInt_inj.mp (y.trans rfl)
      subst e
      rw [if_pos rfl]; exact Rnx hB_175 dX7_person_36 rfl
    · have e : x = 1 := Int32.toInt_inj.mp (y.trans rfl)
      subst e
      rw [if_neg (by decide)]; rw [if_pos rfl]; exact Rnx hB_175 dX7_person_36 rfl
    · have e : x = 2 := Int32.toInt_inj.mp (y.trans rfl)
      subst e
      rw [if_neg (by decide)]; rw [if_neg (by decide)]; rw [if_pos rfl]; exact Rnx hB_175 dX7_person_36 rfl
    · have e : x = 3 := Int32.toInt_inj.mp (y.trans rfl)
      subst e
      rw [if_neg (by decide)]; rw [if_neg (by decide)]; rw [if_neg (by decide)]; rw [if_pos rfl]; exact Rnx hB_175 dX7_person_36 rfl
    · have e : x = 4 := Int32.toInt_inj.mp (y.trans rfl)
      subst e
      rw [if_neg (by decide)]; rw [if_neg (by decide)]; rw [if_neg (by decide)]; rw [if_neg (by decide)]; rw [if_pos rfl]; exact Rnx hB_175 dX7_person_36 rfl
    · have e : x = 5 := Int32.toInt_inj.mp (y.trans rfl)
      subst e
      rw [if_neg (by decide)]; rw [if_neg (by decide)]; rw [if_neg (by decide)]; rw [if_neg (by decide)]; rw [if_neg (by decide)]; rw [if_pos rfl]; exact Rnx hB_175 dX7_person_36 rfl
    · have e : x = 6 := Int32.toInt_inj.mp (y.trans rfl)
      subst e
      rw [if_neg (by decide)]; rw [if_neg (by decide)]; rw [if_neg (by decide)]; rw [if_neg (by decide)]; rw [if_neg (by decide)]; rw [if_neg (by decide)]; rw [if_pos rfl]; exact Rnx hB_175 dX7_person_36 rfl
theorem v175_80 {d : Nat} {st : List MV} {h : Hp} {x : Option A3} {a1 a2 : Option MV} : Ev d 175 80 [some (vO x), a1, a2] st h = Ev d 175 81 [some (vO x), a1, a2] (vO x :: st) h := Rnx (hB_175) (dX7_person_80) rfl
set_option maxRecDepth 100000 in
theorem v175_81 {d : Nat} {ls : LS3} {st : List MV} {h : Hp} {a : A3} (hS : gS h a = (1, 7)) : Ev d 175 81 ls (vR a :: st) h = Ev d 175 84 ls (vO (gR h a 1) :: st) h := Rget hB_175 dX7_person_81 rfl (Or.inl hS)
theorem v175_84 {d : Nat} {st : List MV} {h : Hp} {x : Int32} {a0 a2 : Option MV} : Ev d 175 84 [a0, some (vI x), a2] st h = Ev d 175 85 [a0, some (vI x), a2] (vI x :: st) h := Rnx (hB_175) (dX7_person_84) rfl
theorem v175_85 {d : Nat} {ls : LS3} {st : List MV} {h : Hp} {a : A3} {j : Int32} (hS : (gS h a).1 ∈ [2, 9]) (hj : inB j (gS h a).2) : Ev d 175 85 ls (vI j :: vR a :: st) h = Ev d 175 86 ls (vI (gI h a j.toNatClampNeg) :: st) h := Rald (ks := [2, 9]) (f := fun a j => vI (gI h a j)) hB_175 dX7_person_85 rfl hS hj
theorem v175_86 {d : Nat} {ls : LS3} {h : Hp} {x : Int32} : Ev d 175 86 ls [vI x] h = some (.inl (some (vI x)), h) := Rdn hB_175 dX7_person_86 rfl
theorem v175_87 {d : Nat} {st : List MV} {h : Hp} {x : Option A3} {a1 a2 : Option MV} : Ev d 175 87 [some (vO x), a1, a2] st h = Ev d 175 88 [some (vO x), a1, a2] (vO x :: st) h := Rnx (hB_175) (dX7_person_87) rfl
set_option maxRecDepth 100000 in
theorem v175_88 {d : Nat} {ls : LS3} {st : List MV} {h : Hp} {a : A3} (hS : gS h a = (1, 7)) : Ev d 175 88 ls (vR a :: st) h = Ev d 175 91 ls (vO (gR h a 2) :: st) h := Rget hB_175 dX7_person_88 rfl (Or.inl hS)
theorem v175_91 {d : Nat} {st : List MV} {h : Hp} {x : Int32} {a0 a2 : Option MV} : Ev d 175 91 [a0, some (vI x), a2] st h = Ev d 175 92 [a0, some (vI x), a2] (vI x :: st) h := Rnx (hB_175) (dX7_person_91) rfl
theorem v175_92 {d : Nat} {ls : LS3} {st : List MV} {h : Hp} {a : A3} {j : Int32} (hS : (gS h a).1 ∈ [2, 9]) (hj : inB j (gS h a).2) : Ev d 175 92 ls (vI j :: vR a :: st) h = Ev d 175 93 ls (vI (gI h a j.toNatClampNeg) :: st) h := Rald (ks := [2, 9]) (f := fun a j => vI (gI h a j)) hB_175 dX7_person_92 rfl hS hj
theorem v175_93 {d : Nat} {ls : LS3} {h : Hp} {x : Int32} : Ev d 175 93 ls [vI x] h = some (.inl (some (vI x)), h) := Rdn hB_175 dX7_person_93 rfl
theorem v175_94 {d : Nat} {st : List MV} {h : Hp} {x : Option A3} {a1 a2 : Option MV} : Ev d 175 94 [some (vO x), a1, a2] st h = Ev d 175 95 [some (vO x), a1, a2] (vO x :: st) h := Rnx (hB_175) (dX7_person_94) rfl
set_option maxRecDepth 100000 in
theorem v175_95 {d : Nat} {ls : LS3} {st : List MV} {h : Hp} {a : A3} (hS : gS h a = (1, 7)) : Ev d 175 95 ls (vR a :: st) h = Ev d 175 98 ls (vO (gR h a 3) :: st) h := Rget hB_175 dX7_person_95 rfl (Or.inl hS)
theorem v175_98 {d : Nat} {st : List MV} {h : Hp} {x : Int32} {a0 a2 : Option MV} : Ev d 175 98 [a0, some (vI x), a2] st h = Ev d 175 99 [a0, some (vI x), a2] (vI x :: st) h := Rnx (hB_175) (dX7_person_98) rfl
theorem v175_99 {d : Nat} {ls : LS3} {st : List MV} {h : Hp} {a : A3} {j : Int32} (hS : (gS h a).1 ∈ [2, 9]) (hj : inB j (gS h a).2) : Ev d 175 99 ls (vI j :: vR a :: st) h = Ev d 175 100 ls (vI (gI h a j.toNatClampNeg) :: st) h := Rald (ks := [2, 9]) (f := fun a j => vI (gI h a j)) hB_175 dX7_person_99 rfl hS hj
theorem v175_100 {d : Nat} {ls : LS3} {h : Hp} {x : Int32} : Ev d 175 100 ls [vI x] h = some (.inl (some (vI x)), h) := Rdn hB_175 dX7_person_100 rfl
theorem v175_101 {d : Nat} {st : List MV} {h : Hp} {x : Option A3} {a1 a2 : Option MV} : Ev d 175 101 [some (vO x), a1, a2] st h = Ev d 175 102 [some (vO x), a1, a2] (vO x :: st) h := Rnx (hB_175) (dX7_person_101) rfl
set_option maxRecDepth 100000 in
theorem v175_102 {d : Nat} {ls : LS3} {st : List MV} {h : Hp} {a : A3} (hS : gS h a = (1, 7)) : Ev d 175 102 ls (vR a :: st) h = Ev d 175 105 ls (vO (gR h a 4) :: st) h := Rget hB_175 dX7_person_102 rfl (Or.inl hS)
theorem v175_105 {d : Nat} {st : List MV} {h : Hp} {x : Int32} {a0 a2 : Option MV} : Ev d 175 105 [a0, some (vI x), a2] st h = Ev d 175 106 [a0, some (vI x), a2] (vI x :: st) h := Rnx (hB_175) (dX7_person_105) rfl
theorem v175_106 {d : Nat} {ls : LS3} {st : List MV} {h : Hp} {a : A3} {j : Int32} (hS : (gS h a).1 ∈ [2, 9]) (hj : inB j (gS h a).2) : Ev d 175 106 ls (vI j :: vR a :: st) h = Ev d 175 107 ls (vI (gI h a j.toNatClampNeg) :: st) h := Rald (ks := [2, 9]) (f := fun a j => vI (gI h a j)) hB_175 dX7_person_106 rfl hS hj
theorem v175_107 {d : Nat} {ls : LS3} {h : Hp} {x : Int32} : Ev d 175 107 ls [vI x] h = some (.inl (some (vI x)), h) := Rdn hB_175 dX7_person_107 rfl
theorem v175_108 {d : Nat} {st : List MV} {h : Hp} {x : Option A3} {a1 a2 : Option MV} : Ev d 175 108 [some (vO x), a1, a2] st h = Ev d 175 109 [some (vO x), a1, a2] (vO x :: st) h := Rnx (hB_175) (dX7_person_108) rfl
set_option maxRecDepth 100000 in
theorem v175_109 {d : Nat} {ls : LS3} {st : List MV} {h : Hp} {a : A3} (hS : gS h a = (1, 7)) : Ev d 175 109 ls (vR a :: st) h = Ev d 175 112 ls (vO (gR h a 5) :: st) h := Rget hB_175 dX7_person_109 rfl (Or.inl hS)
theorem v175_112 {d : Nat} {st : List MV} {h : Hp} {x : Int32} {a0 a2 : Option MV} : Ev d 175 112 [a0, some (vI x), a2] st h = Ev d 175 113 [a0, some (vI x), a2] (vI x :: st) h := Rnx (hB_175) (dX7_person_112) rfl
theorem v175_113 {d : Nat} {ls : LS3} {st : List MV} {h : Hp} {a : A3} {j : Int32} (hS : (gS h a).1 ∈ [2, 9]) (hj : inB j (gS h a).2) : Ev d 175 113 ls (vI j :: vR a :: st) h = Ev d 175 114 ls (vI (gI h a j.toNatClampNeg) :: st) h := Rald (ks := [2, 9]) (f := fun a j => vI (gI h a j)) hB_175 dX7_person_113 rfl hS hj
theorem v175_114 {d : Nat} {ls : LS3} {h : Hp} {x : Int32} : Ev d 175 114 ls [vI x] h = some (.inl (some (vI x)), h) := Rdn hB_175 dX7_person_114 rfl
theorem v175_115 {d : Nat} {st : List MV} {h : Hp} {x : Option A3} {a1 a2 : Option MV} : Ev d 175 115 [some (vO x), a1, a2] st h = Ev d 175 116 [some (vO x), a1, a2] (vO x :: st) h := Rnx (hB_175) (dX7_person_115) rfl
theorem v175_116 {d : Nat} {st : List MV} {h : Hp} {x : Int32} {a0 a2 : Option MV} : Ev d 175 116 [a0, some (vI x), a2] st h = Ev d 175 117 [a0, some (vI x), a2] (vI x :: st) h := Rnx (hB_175) (dX7_person_116) rfl
set_option maxRecDepth 100000 in
theorem v175_117 {d : Nat} {ls : LS3} {st : List MV} {h : Hp} {a : A3} {x0 : Int32} (hS : gS h a = (1, 7)) (hc : catS st ≤ 8) : Ev (d + 1) 175 117 ls (vI x0 :: vR a :: st) h = Evk 172 (d + 1) 175 117 ls st (Ev d 172 0 [some (vR a), some (vI x0), none, none] [] h) := RcallO (idx := 187) (n := 1) (kd := 0) (As' := [vI x0]) hB_175 dX7_person_117 rfl rfl (by decide) rfl rfl (Or.inl hS) rfl hc
theorem v175_120 {d : Nat} {ls : LS3} {h : Hp} {x : Int32} : Ev d 175 120 ls [vI x] h = some (.inl (some (vI x)), h) := Rdn hB_175 dX7_person_120 rfl
theorem v175_121 {d : Nat} {st : List MV} {h : Hp} {x : Option A3} {a1 a2 : Option MV} : Ev d 175 121 [some (vO x), a1, a2] st h = Ev d 175 122 [some (vO x), a1, a2] (vO x :: st) h := Rnx (hB_175) (dX7_person_121) rfl
theorem v175_122 {d : Nat} {st : List MV} {h : Hp} {x : Int32} {a0 a2 : Option MV} : Ev d 175 122 [a0, some (vI x), a2] st h = Ev d 175 123 [a0, some (vI x), a2] (vI x :: st) h := Rnx (hB_175) (dX7_person_122) rfl
set_option maxRecDepth 100000 in
theorem v175_123 {d : Nat} {ls : LS3} {st : List MV} {h : Hp} {a : A3} {x0 : Int32} (hS : gS h a = (1, 7)) (hc : catS st ≤ 8) : Ev (d + 1) 175 123 ls (vI x0 :: vR a :: st) h = Evk 173 (d + 1) 175 123 ls st (Ev d 173 0 [some (vR a), some (vI x0), none, none] [] h) := RcallO (idx := 190) (n := 1) (kd := 0) (As' := [vI x0]) hB_175 dX7_person_123 rfl rfl (by decide) rfl rfl (Or.inl hS) rfl hc
theorem v175_126 {d : Nat} {ls : LS3} {h : Hp} {x : Int32} : Ev d 175 126 ls [vI x] h = some (.inl (some (vI x)), h) := Rdn hB_175 dX7_person_126 rfl
theorem v175_127 {d : Nat} {st : List MV} {h : Hp} {x : Option A3} {a1 a2 : Option MV} : Ev d 175 127 [some (vO x), a1, a2] st h = Ev d 175 128 [some (vO x), a1, a2] (vO x :: st) h := Rnx (hB_175) (dX7_person_127) rfl
theorem v175_128 {d : Nat} {st : List MV} {h : Hp} {x : Int32} {a0 a2 : Option MV} : Ev d 175 128 [a0, some (vI x), a2] st h = Ev d 175 129 [a0, some (vI x), a2] (vI x :: st) h := Rnx (hB_175) (dX7_person_128) rfl
set_option maxRecDepth 100000 in
theorem v175_129 {d : Nat} {ls : LS3} {st : List MV} {h : Hp} {a : A3} {x0 : Int32} (hS : gS h a = (1, 7)) (hc : catS st ≤ 8) : Ev (d + 1) 175 129 ls (vI x0 :: vR a :: st) h = Evk 174 (d + 1) 175 129 ls st (Ev d 174 0 [some (vR a), some (vI x0), none, none] [] h) := RcallO (idx := 193) (n := 1) (kd := 0) (As' := [vI x0]) hB_175 dX7_person_129 rfl rfl (by decide) rfl rfl (Or.inl hS) rfl hc
theorem v175_132 {d : Nat} {ls : LS3} {h : Hp} {x : Int32} : Ev d 175 132 ls [vI x] h = some (.inl (some (vI x)), h) := Rdn hB_175 dX7_person_132 rfl
theorem hB_176 : mB 176 = cX7_isTime := rfl
theorem v176_0 {d : Nat} {st : List MV} {h : Hp} {x : Int32} {a1 : Option MV} : Ev d 176 0 [some (vI x), a1] st h = Ev d 176 1 [some (vI x), a1] (vI x :: st) h := Rnx (hB_176) (dX7_isTime_0) rfl
set_option maxRecDepth 100000 in
theorem v176_1 {d : Nat} {ls : LS3} {st : List MV} {h : Hp} {x0 : Int32} (hc : catS st ≤ 8) : Ev (d + 1) 176 1 ls (vI x0 :: st) h = Evk 146 (d + 1) 176 1 ls st (Ev d 146 0 [some (vI x0)] [] h) := RcallS (idx := 184) (n := 1) (kd := 1) (As := [vI x0]) hB_176 dX7_isTime_1 rfl rfl (by decide) rfl rfl rfl hc
theorem v176_4 {d : Nat} {ls : LS3} {st : List MV} {h : Hp} {x : Int32} : Ev d 176 4 ls (vI x :: st) h = if x = 0 then Ev d 176 21 ls st h else Ev d 176 7 ls st h := Rif hB_176 dX7_isTime_4 rfl
theorem v176_7 {d : Nat} {st : List MV} {h : Hp} {x : Int32} {a0 : Option MV} : Ev d 176 7 [a0, some (vI x)] st h = Ev d 176 8 [a0, some (vI x)] (vI x :: st) h := Rnx (hB_176) (dX7_isTime_7) rfl
theorem v176_8 {d : Nat} {ls : LS3} {st : List MV} {h : Hp} : Ev d 176 8 ls st h = Ev d 176 9 ls (vI 0 :: st) h := Rnx (hB_176) (dX7_isTime_8) rfl
theorem v176_9 {d : Nat} {ls : LS3} {st : List MV} {h : Hp} : Ev d 176 9 ls st h = Ev d 176 11 ls (vI 6 :: st) h := Rnx (hB_176) (dX7_isTime_9) rfl
set_option maxRecDepth 100000 in
theorem v176_11 {d : Nat} {ls : LS3} {st : List MV} {h : Hp} {x0 : Int32} {x1 : Int32} {x2 : Int32} (hc : catS st ≤ 8) : Ev (d + 1) 176 11 ls (vI x2 :: vI x1 :: vI x0 :: st) h = Evk 143 (d + 1) 176 11 ls st (Ev d 143 0 [some (vI x0), some (vI x1), some (vI x2)] [] h) := RcallS (idx := 87) (n := 3) (kd := 1) (As := [vI x0, vI x1, vI x2]) hB_176 dX7_isTime_11 rfl rfl (by decide) rfl rfl rfl hc
theorem v176_14 {d : Nat} {ls : LS3} {st : List MV} {h : Hp} {x : Int32} : Ev d 176 14 ls (vI x :: st) h = if x = 0 then Ev d 176 21 ls st h else Ev d 176 17 ls st h := Rif hB_176 dX7_isTime_14 rfl
theorem v176_17 {d : Nat} {ls : LS3} {st : List MV} {h : Hp} : Ev d 176 17 ls st h = Ev d 176 18 ls (vI 1 :: st) h := Rnx (hB_176) (dX7_isTime_17) rfl
theorem v176_18 {d : Nat} {ls : LS3} {st : List MV} {h : Hp} : Ev d 176 18 ls st h = Ev d 176 22 ls st h := Rnx (hB_176) (dX7_isTime_18) rfl
theorem v176_21 {d : Nat} {ls : LS3} {st : List MV} {h : Hp} : Ev d 176 21 ls st h = Ev d 176 22 ls (vI 0 :: st) h := Rnx (hB_176) (dX7_isTime_21) rfl
theorem v176_22 {d : Nat} {ls : LS3} {h : Hp} {x : Int32} (hx : x = 0 ∨ x = 1) : Ev d 176 22 ls [vI x] h = some (.inl (some (vI x)), h) := RretB hB_176 dX7_isTime_22 rfl hx
theorem hB_177 : mB 177 = cX7_isFree := rfl
theorem v177_0 {d : Nat} {st : List MV} {h : Hp} {x : Option A3} {a1 a2 a3 : Option MV} : Ev d 177 0 [some (vO x), a1, a2, a3] st h = Ev d 177 1 [some (vO x), a1, a2, a3] (vO x :: st) h := Rnx (hB_177) (dX7_isFree_0) rfl
theorem v177_1 {d : Nat} {st : List MV} {h : Hp} {x : Int32} {a0 a2 a3 : Option MV} : Ev d 177 1 [a0, some (vI x), a2, a3] st h = Ev d 177 2 [a0, some (vI x), a2, a3] (vI x :: st) h := Rnx (hB_177) (dX7_isFree_1) rfl
set_option maxRecDepth 100000 in
theorem v177_2 {d : Nat} {ls : LS3} {st : List MV} {h : Hp} {a : A3} {x0 : Int32} (hS : gS h a = (1, 7)) (hc : catS st ≤ 8) : Ev (d + 1) 177 2 ls (vI x0 :: vR a :: st) h = Evk 145 (d + 1) 177 2 ls st (Ev d 145 0 [some (vR a), some (vI x0)] [] h) := RcallO (idx := 174) (n := 1) (kd := 0) (As' := [vI x0]) hB_177 dX7_isFree_2 rfl rfl (by decide) rfl rfl (Or.inl hS) rfl hc
theorem v177_5 {d : Nat} {ls : LS3} {st : List MV} {h : Hp} {x : Int32} : Ev d 177 5 ls (vI x :: st) h = if x = 0 then Ev d 177 8 ls st h else Ev d 177 14 ls st h := Rifn hB_177 dX7_isFree_5 rfl
theorem v177_8 {d : Nat} {st : List MV} {h : Hp} {x : Option A3} {a1 a2 a3 : Option MV} : Ev d 177 8 [some (vO x), a1, a2, a3] st h = Ev d 177 9 [some (vO x), a1, a2, a3] (vO x :: st) h := Rnx (hB_177) (dX7_isFree_8) rfl
theorem v177_9 {d : Nat} {ls : LS3} {st : List MV} {h : Hp} : Ev d 177 9 ls st h = Ev d 177 10 ls (vI 1 :: st) h := Rnx (hB_177) (dX7_isFree_9) rfl
set_option maxRecDepth 100000 in
theorem v177_10 {d : Nat} {ls : LS3} {st : List MV} {h : Hp} {a : A3} {x0 : Int32} (hS : gS h a = (1, 7)) (hc : catS st ≤ 8) : Ev (d + 1) 177 10 ls (vI x0 :: vR a :: st) h = Evk 142 (d + 1) 177 10 ls st (Ev d 142 0 [some (vR a), some (vI x0)] [] h) := RcallO (idx := 177) (n := 1) (kd := 0) (As' := [vI x0]) hB_177 dX7_isFree_10 rfl rfl (by decide) rfl rfl (Or.inl hS) rfl hc
theorem v177_13 {d : Nat} {ls : LS3} {h : Hp} {x : Int32} (hx : x = 0 ∨ x = 1) : Ev d 177 13 ls [vI x] h = some (.inl (some (vI x)), h) := RretB hB_177 dX7_isFree_13 rfl hx
theorem v177_14 {d : Nat} {st : List MV} {h : Hp} {x : Int32} {a0 a1 a3 : Option MV} : Ev d 177 14 [a0, a1, some (vI x), a3] st h = Ev d 177 15 [a0, a1, some (vI x), a3] (vI x :: st) h := Rnx (hB_177) (dX7_isFree_14) rfl
theorem v177_15 {d : Nat} {st : List MV} {h : Hp} {x : Int32} {a0 a1 a2 : Option MV} : Ev d 177 15 [a0, a1, a2, some (vI x)] st h = Ev d 177 16 [a0, a1, a2, some (vI x)] (vI x :: st) h := Rnx (hB_177) (dX7_isFree_15) rfl
set_option maxRecDepth 100000 in
theorem v177_16 {d : Nat} {ls : LS3} {st : List MV} {h : Hp} {x0 : Int32} {x1 : Int32} (hc : catS st ≤ 8) : Ev (d + 1) 177 16 ls (vI x1 :: vI x0 :: st) h = Evk 176 (d + 1) 177 16 ls st (Ev d 176 0 [some (vI x0), some (vI x1)] [] h) := RcallS (idx := 196) (n := 2) (kd := 1) (As := [vI x0, vI x1]) hB_177 dX7_isFree_16 rfl rfl (by decide) rfl rfl rfl hc
theorem v177_19 {d : Nat} {ls : LS3} {st : List MV} {h : Hp} {x : Int32} : Ev d 177 19 ls (vI x :: st) h = if x = 0 then Ev d 177 22 ls st h else Ev d 177 28 ls st h := Rifn hB_177 dX7_isFree_19 rfl
theorem v177_22 {d : Nat} {st : List MV} {h : Hp} {x : Option A3} {a1 a2 a3 : Option MV} : Ev d 177 22 [some (vO x), a1, a2, a3] st h = Ev d 177 23 [some (vO x), a1, a2, a3] (vO x :: st) h := Rnx (hB_177) (dX7_isFree_22) rfl
theorem v177_23 {d : Nat} {ls : LS3} {st : List MV} {h : Hp} : Ev d 177 23 ls st h = Ev d 177 24 ls (vI 2 :: st) h := Rnx (hB_177) (dX7_isFree_23) rfl
set_option maxRecDepth 100000 in
theorem v177_24 {d : Nat} {ls : LS3} {st : List MV} {h : Hp} {a : A3} {x0 : Int32} (hS : gS h a = (1, 7)) (hc : catS st ≤ 8) : Ev (d + 1) 177 24 ls (vI x0 :: vR a :: st) h = Evk 142 (d + 1) 177 24 ls st (Ev d 142 0 [some (vR a), some (vI x0)] [] h) := RcallO (idx := 177) (n := 1) (kd := 0) (As' := [vI x0]) hB_177 dX7_isFree_24 rfl rfl (by decide) rfl rfl (Or.inl hS) rfl hc
theorem v177_27 {d : Nat} {ls : LS3} {h : Hp} {x : Int32} (hx : x = 0 ∨ x = 1) : Ev d 177 27 ls [vI x] h = some (.inl (some (vI x)), h) := RretB hB_177 dX7_isFree_27 rfl hx
theorem v177_28 {d : Nat} {st : List MV} {h : Hp} {x : Option A3} {a1 a2 a3 : Option MV} : Ev d 177 28 [some (vO x), a1, a2, a3] st h = Ev d 177 29 [some (vO x), a1, a2, a3] (vO x :: st) h := Rnx (hB_177) (dX7_isFree_28) rfl
theorem v177_29 {d : Nat} {ls : LS3} {st : List MV} {h : Hp} : Ev d 177 29 ls st h = Ev d 177 30 ls (vI 0 :: st) h := Rnx (hB_177) (dX7_isFree_29) rfl
set_option maxRecDepth 100000 in
theorem v177_30 {d : Nat} {ls : LS3} {st : List MV} {h : Hp} {a : A3} {x : Int32} (hS : gS h a = (1, 7)) : Ev d 177 30 ls (vI x :: vR a :: st) h = Ev d 177 33 ls st (sI h a 0 x) := RputI hB_177 dX7_isFree_30 rfl rfl (by decide) hS (Or.inl rfl)
theorem v177_33 {d : Nat} {st : List MV} {h : Hp} {x : Option A3} {a1 a2 a3 : Option MV} : Ev d 177 33 [some (vO x), a1, a2, a3] st h = Ev d 177 34 [some (vO x), a1, a2, a3] (vO x :: st) h := Rnx (hB_177) (dX7_isFree_33) rfl
theorem v177_34 {d : Nat} {st : List MV} {h : Hp} {x : Int32} {a0 a2 a3 : Option MV} : Ev d 177 34 [a0, some (vI x), a2, a3] st h = Ev d 177 35 [a0, some (vI x), a2, a3] (vI x :: st) h := Rnx (hB_177) (dX7_isFree_34) rfl
theorem v177_35 {d : Nat} {st : List MV} {h : Hp} {x : Int32} {a0 a1 a3 : Option MV} : Ev d 177 35 [a0, a1, some (vI x), a3] st h = Ev d 177 36 [a0, a1, some (vI x), a3] (vI x :: st) h := Rnx (hB_177) (dX7_isFree_35) rfl
theorem v177_36 {d : Nat} {st : List MV} {h : Hp} {x : Int32} {a0 a1 a2 : Option MV} : Ev d 177 36 [a0, a1, a2, some (vI x)] st h = Ev d 177 37 [a0, a1, a2, some (vI x)] (vI x :: st) h := Rnx (hB_177) (dX7_isFree_36) rfl
theorem v177_37 {d : Nat} {ls : LS3} {st : List MV} {h : Hp} : Ev d 177 37 ls st h = Ev d 177 38 ls (vI (-1) :: st) h := Rnx (hB_177) (dX7_isFree_37) rfl
set_option maxRecDepth 100000 in
theorem v177_38 {d : Nat} {ls : LS3} {st : List MV} {h : Hp} {a : A3} {x0 : Int32} {x1 : Int32} {x2 : Int32} {x3 : Int32} (hS : gS h a = (1, 7)) (hc : catS st ≤ 8) : Ev (d + 1) 177 38 ls (vI x3 :: vI x2 :: vI x1 :: vI x0 :: vR a :: st) h = Evk 159 (d + 1) 177 38 ls st (Ev d 159 0 [some (vR a), some (vI x0), some (vI x1), some (vI x2), some (vI x3), none] [] h) := RcallO (idx := 135) (n := 4) (kd := 0) (As' := [vI x0, vI x1, vI x2, vI x3]) hB_177 dX7_isFree_38 rfl rfl (by decide) rfl rfl (Or.inl hS) rfl hc
theorem v177_41 {d : Nat} {ls : LS3} {h : Hp} {x : Int32} (hx : x = 0 ∨ x = 1) : Ev d 177 41 ls [vI x] h = some (.inl (some (vI x)), h) := RretB hB_177 dX7_isFree_41 rfl hx
theorem hB_178 : mB 178 = cX7_hasDefence := rfl
theorem v178_0 {d : Nat} {ls : LS3} {st : List MV} {h : Hp} : Ev d 178 0 ls st h = Ev d 178 1 ls (vI 0 :: st) h := Rnx (hB_178) (dX7_hasDefence_0) rfl
theorem v178_1 {d : Nat} {st : List MV} {h : Hp} {x : Int32} {a0 a1 a2 a3 : Option MV} : Ev d 178 1 [a0, a1, a2, a3] (vI x :: st) h = Ev d 178 2 [a0, a1, a2, some (vI x)] st h := Rnx (hB_178) (dX7_hasDefence_1) rfl
theorem v178_2 {d : Nat} {st : List MV} {h : Hp} {x : Int32} {a0 a1 a2 : Option MV} : Ev d 178 2 [a0, a1, a2, some (vI x)] st h = Ev d 178 3 [a0, a1, a2, some (vI x)] (vI x :: st) h := Rnx (hB_178) (dX7_hasDefence_2) rfl
theorem v178_3 {d : Nat} {st : List MV} {h : Hp} {x : Option A3} {a1 a2 a3 : Option MV} : Ev d 178 3 [some (vO x), a1, a2, a3] st h = Ev d 178 4 [some (vO x), a1, a2, a3] (vO x :: st) h := Rnx (hB_178) (dX7_hasDefence_3) rfl
set_option maxRecDepth 100000 in
theorem v178_4 {d : Nat} {ls : LS3} {st : List MV} {h : Hp} {a : A3} (hS : gS h a = (1, 7)) : Ev d 178 4 ls (vR a :: st) h = Ev d 178 7 ls (vI (gI h a 19) :: st) h := Rget hB_178 dX7_hasDefence_4 rfl (Or.inl hS)
theorem v178_7 {d : Nat} {ls : LS3} {st : List MV} {h : Hp} {x y : Int32} : Ev d 178 7 ls (vI y :: vI x :: st) h = if y ≤ x then Ev d 178 45 ls st h else Ev d 178 10 ls st h := Rif hB_178 dX7_hasDefence_7 rfl
theorem v178_10 {d : Nat} {st : List MV} {h : Hp} {x : Option A3} {a1 a2 a3 : Option MV} : Ev d 178 10 [some (vO x), a1, a2, a3] st h = Ev d 178 11 [some (vO x), a1, a2, a3] (vO x :: st) h := Rnx (hB_178) (dX7_hasDefence_10) rfl
theorem v178_11 {d : Nat} {st : List MV} {h : Hp} {x : Int32} {a0 a1 a2 : Option MV} : Ev d 178 11 [a0, a1, a2, some (vI x)] st h = Ev d 178 12 [a0, a1, a2, some (vI x)] (vI x :: st) h := Rnx (hB_178) (dX7_hasDefence_11) rfl
theorem v178_12 {d : Nat} {st : List MV} {h : Hp} {x : Int32} {a0 a2 a3 : Option MV} : Ev d 178 12 [a0, some (vI x), a2, a3] st h = Ev d 178 13 [a0, some (vI x), a2, a3] (vI x :: st) h := Rnx (hB_178) (dX7_hasDefence_12) rfl
set_option maxRecDepth 100000 in
theorem v178_13 {d : Nat} {ls : LS3} {st : List MV} {h : Hp} {a : A3} {x0 : Int32} {x1 : Int32} (hS : gS h a = (1, 7)) (hc : catS st ≤ 8) : Ev (d + 1) 178 13 ls (vI x1 :: vI x0 :: vR a :: st) h = Evk 150 (d + 1) 178 13 ls st (Ev d 150 0 [some (vR a), some (vI x0), some (vI x1)] [] h) := RcallO (idx := 105) (n := 2) (kd := 0) (As' := [vI x0, vI x1]) hB_178 dX7_hasDefence_13 rfl rfl (by decide) rfl rfl (Or.inl hS) rfl hc
theorem v178_16 {d : Nat} {ls : LS3} {st : List MV} {h : Hp} {x : Int32} : Ev d 178 16 ls (vI x :: st) h = if x = 0 then Ev d 178 39 ls st h else Ev d 178 19 ls st h := Rif hB_178 dX7_hasDefence_16 rfl
theorem v178_19 {d : Nat} {st : List MV} {h : Hp} {x : Option A3} {a1 a2 a3 : Option MV} : Ev d 178 19 [some (vO x), a1, a2, a3] st h = Ev d 178 20 [some (vO x), a1, a2, a3] (vO x :: st) h := Rnx (hB_178) (dX7_hasDefence_19) rfl
theorem v178_20 {d : Nat} {st : List MV} {h : Hp} {x : Int32} {a0 a1 a2 : Option MV} : Ev d 178 20 [a0, a1, a2, some (vI x)] st h = Ev d 178 21 [a0, a1, a2, some (vI x)] (vI x :: st) h := Rnx (hB_178) (dX7_hasDefence_20) rfl
set_option maxRecDepth 100000 in
theorem v178_21 {d : Nat} {ls : LS3} {st : List MV} {h : Hp} {a : A3} {x0 : Int32} (hS : gS h a = (1, 7)) (hc : catS st ≤ 8) : Ev (d + 1) 178 21 ls (vI x0 :: vR a :: st) h = Evk 151 (d + 1) 178 21 ls st (Ev d 151 0 [some (vR a), some (vI x0)] [] h) := RcallO (idx := 113) (n := 1) (kd := 0) (As' := [vI x0]) hB_178 dX7_hasDefence_21 rfl rfl (by decide) rfl rfl (Or.inl hS) rfl hc
theorem v178_24 {d : Nat} {ls : LS3} {st : List MV} {h : Hp} {x : Int32} : Ev d 178 24 ls (vI x :: st) h = if x = 0 then Ev d 178 39 ls st h else Ev d 178 27 ls st h := Rif hB_178 dX7_hasDefence_24 rfl
theorem v178_27 {d : Nat} {st : List MV} {h : Hp} {x : Option A3} {a1 a2 a3 : Option MV} : Ev d 178 27 [some (vO x), a1, a2, a3] st h = Ev d 178 28 [some (vO x), a1, a2, a3] (vO x :: st) h := Rnx (hB_178) (dX7_hasDefence_27) rfl
set_option maxRecDepth 100000 in
theorem v178_28 {d : Nat} {ls : LS3} {st : List MV} {h : Hp} {a : A3} (hS : gS h a = (1, 7)) : Ev d 178 28 ls (vR a :: st) h = Ev d 178 31 ls (vO (gR h a 16) :: st) h := Rget hB_178 dX7_hasDefence_28 rfl (Or.inl hS)
theorem v178_31 {d : Nat} {st : List MV} {h : Hp} {x : Int32} {a0 a1 a2 : Option MV} : Ev d 178 31 [a0, a1, a2, some (vI x)] st h = Ev d 178 32 [a0, a1, a2, some (vI x)] (vI x :: st) h := Rnx (hB_178) (dX7_hasDefence_31) rfl
theorem v178_32 {d : Nat} {ls : LS3} {st : List MV} {h : Hp} {a : A3} {j : Int32} (hS : (gS h a).1 ∈ [2, 9]) (hj : inB j (gS h a).2) : Ev d 178 32 ls (vI j :: vR a :: st) h = Ev d 178 33 ls (vI (gI h a j.toNatClampNeg) :: st) h := Rald (ks := [2, 9]) (f := fun a j => vI (gI h a j)) hB_178 dX7_hasDefence_32 rfl hS hj
theorem v178_33 {d : Nat} {st : List MV} {h : Hp} {x : Int32} {a0 a1 a3 : Option MV} : Ev d 178 33 [a0, a1, some (vI x), a3] st h = Ev d 178 34 [a0, a1, some (vI x), a3] (vI x :: st) h := Rnx (hB_178) (dX7_hasDefence_33) rfl
theorem v178_34 {d : Nat} {ls : LS3} {st : List MV} {h : Hp} {x y : Int32} : Ev d 178 34 ls (vI y :: vI x :: st) h = if x = y then Ev d 178 37 ls st h else Ev d 178 39 ls st h := Rifn hB_178 dX7_hasDefence_34 rfl
theorem v178_37 {d : Nat} {ls : LS3} {st : List MV} {h : Hp} : Ev d 178 37 ls st h = Ev d 178 38 ls (vI 1 :: st) h := Rnx (hB_178) (dX7_hasDefence_37) rfl
theorem v178_38 {d : Nat} {ls : LS3} {h : Hp} {x : Int32} (hx : x = 0 ∨ x = 1) : Ev d 178 38 ls [vI x] h = some (.inl (some (vI x)), h) := RretB hB_178 dX7_hasDefence_38 rfl hx
theorem v178_39 {d : Nat} {st : List MV} {h : Hp} {x : Int32} {a0 a1 a2 : Option MV} : Ev d 178 39 [a0, a1, a2, some (vI x)] st h = Ev d 178 42 [a0, a1, a2, some (vI (x + 1))] st h := Rnx (hB_178) (dX7_hasDefence_39) rfl
theorem v178_42 {d : Nat} {ls : LS3} {st : List MV} {h : Hp} : Ev d 178 42 ls st h = Ev d 178 2 ls st h := Rnx (hB_178) (dX7_hasDefence_42) rfl
theorem v178_45 {d : Nat} {ls : LS3} {st : List MV} {h : Hp} : Ev d 178 45 ls st h = Ev d 178 46 ls (vI 0 :: st) h := Rnx (hB_178) (dX7_hasDefence_45) rfl
theorem v178_46 {d : Nat} {ls : LS3} {h : Hp} {x : Int32} (hx : x = 0 ∨ x = 1) : Ev d 178 46 ls [vI x] h = some (.inl (some (vI x)), h) := RretB hB_178 dX7_hasDefence_46 rfl hx
theorem hB_179 : mB 179 = cX7_freeDay := rfl
theorem v179_0 {d : Nat} {st : List MV} {h : Hp} {x : Option A3} {a1 a2 : Option MV} : Ev d 179 0 [some (vO x), a1, a2] st h = Ev d 179 1 [some (vO x), a1, a2] (vO x :: st) h := Rnx (hB_179) (dX7_freeDay_0) rfl
theorem v179_1 {d : Nat} {st : List MV} {h : Hp} {x : Int32} {a0 a2 : Option MV} : Ev d 179 1 [a0, some (vI x), a2] st h = Ev d 179 2 [a0, some (vI x), a2] (vI x :: st) h := Rnx (hB_179) (dX7_freeDay_1) rfl
set_option maxRecDepth 100000 in
theorem v179_2 {d : Nat} {ls : LS3} {st : List MV} {h : Hp} {a : A3} {x0 : Int32} (hS : gS h a = (1, 7)) (hc : catS st ≤ 8) : Ev (d + 1) 179 2 ls (vI x0 :: vR a :: st) h = Evk 145 (d + 1) 179 2 ls st (Ev d 145 0 [some (vR a), some (vI x0)] [] h) := RcallO (idx := 174) (n := 1) (kd := 0) (As' := [vI x0]) hB_179 dX7_freeDay_2 rfl rfl (by decide) rfl rfl (Or.inl hS) rfl hc
theorem v179_5 {d : Nat} {ls : LS3} {st : List MV} {h : Hp} {x : Int32} : Ev d 179 5 ls (vI x :: st) h = if x = 0 then Ev d 179 8 ls st h else Ev d 179 14 ls st h := Rifn hB_179 dX7_freeDay_5 rfl
theorem v179_8 {d : Nat} {st : List MV} {h : Hp} {x : Option A3} {a1 a2 : Option MV} : Ev d 179 8 [some (vO x), a1, a2] st h = Ev d 179 9 [some (vO x), a1, a2] (vO x :: st) h := Rnx (hB_179) (dX7_freeDay_8) rfl
theorem v179_9 {d : Nat} {ls : LS3} {st : List MV} {h : Hp} : Ev d 179 9 ls st h = Ev d 179 10 ls (vI 1 :: st) h := Rnx (hB_179) (dX7_freeDay_9) rfl
set_option maxRecDepth 100000 in
theorem v179_10 {d : Nat} {ls : LS3} {st : List MV} {h : Hp} {a : A3} {x0 : Int32} (hS : gS h a = (1, 7)) (hc : catS st ≤ 8) : Ev (d + 1) 179 10 ls (vI x0 :: vR a :: st) h = Evk 141 (d + 1) 179 10 ls st (Ev d 141 0 [some (vR a), some (vI x0)] [] h) := RcallO (idx := 168) (n := 1) (kd := 0) (As' := [vI x0]) hB_179 dX7_freeDay_10 rfl rfl (by decide) rfl rfl (Or.inl hS) rfl hc
theorem v179_13 {d : Nat} {ls : LS3} {h : Hp} {x : Int32} : Ev d 179 13 ls [vI x] h = some (.inl (some (vI x)), h) := Rdn hB_179 dX7_freeDay_13 rfl
theorem v179_14 {d : Nat} {st : List MV} {h : Hp} {x : Option A3} {a1 a2 : Option MV} : Ev d 179 14 [some (vO x), a1, a2] st h = Ev d 179 15 [some (vO x), a1, a2] (vO x :: st) h := Rnx (hB_179) (dX7_freeDay_14) rfl
set_option maxRecDepth 100000 in
theorem v179_15 {d : Nat} {ls : LS3} {st : List MV} {h : Hp} {a : A3} (hS : gS h a = (1, 7)) : Ev d 179 15 ls (vR a :: st) h = Ev d 179 18 ls (vI (gI h a 8) :: st) h := Rget hB_179 dX7_freeDay_15 rfl (Or.inl hS)
theorem v179_18 {d : Nat} {st : List MV} {h : Hp} {x : Int32} {a0 a1 a2 : Option MV} : Ev d 179 18 [a0, a1, a2] (vI x :: st) h = Ev d 179 19 [a0, a1, some (vI x)] st h := Rnx (hB_179) (dX7_freeDay_18) rfl
theorem v179_19 {d : Nat} {st : List MV} {h : Hp} {x : Int32} {a0 a1 : Option MV} : Ev d 179 19 [a0, a1, some (vI x)] st h = Ev d 179 20 [a0, a1, some (vI x)] (vI x :: st) h := Rnx (hB_179) (dX7_freeDay_19) rfl
theorem v179_20 {d : Nat} {ls : LS3} {st : List MV} {h : Hp} : Ev d 179 20 ls st h = Ev d 179 23 ls (vI 400 :: st) h := Rnx (hB_179) (dX7_freeDay_20) rfl
theorem v179_23 {d : Nat} {ls : LS3} {st : List MV} {h : Hp} {x y : Int32} : Ev d 179 23 ls (vI y :: vI x :: st) h = if y < x then Ev d 179 50 ls st h else Ev d 179 26 ls st h := Rif hB_179 dX7_freeDay_23 rfl
theorem v179_26 {d : Nat} {st : List MV} {h : Hp} {x : Option A3} {a1 a2 : Option MV} : Ev d 179 26 [some (vO x), a1, a2] st h = Ev d 179 27 [some (vO x), a1, a2] (vO x :: st) h := Rnx (hB_179) (dX7_freeDay_26) rfl
theorem v179_27 {d : Nat} {st : List MV} {h : Hp} {x : Int32} {a0 a2 : Option MV} : Ev d 179 27 [a0, some (vI x), a2] st h = Ev d 179 28 [a0, some (vI x), a2] (vI x :: st) h := Rnx (hB_179) (dX7_freeDay_27) rfl
theorem v179_28 {d : Nat} {st : List MV} {h : Hp} {x : Int32} {a0 a1 : Option MV} : Ev d 179 28 [a0, a1, some (vI x)] st h = Ev d 179 29 [a0, a1, some (vI x)] (vI x :: st) h := Rnx (hB_179) (dX7_freeDay_28) rfl
set_option maxRecDepth 100000 in
theorem v179_29 {d : Nat} {ls : LS3} {st : List MV} {h : Hp} {a : A3} {x0 : Int32} {x1 : Int32} (hS : gS h a = (1, 7)) (hc : catS st ≤ 8) : Ev (d + 1) 179 29 ls (vI x1 :: vI x0 :: vR a :: st) h = Evk 147 (d + 1) 179 29 ls st (Ev d 147 0 [some (vR a), some (vI x0), some (vI x1)] [] h) := RcallO (idx := 116) (n := 2) (kd := 0) (As' := [vI x0, vI x1]) hB_179 dX7_freeDay_29 rfl rfl (by decide) rfl rfl (Or.inl hS) rfl hc
theorem v179_32 {d : Nat} {ls : LS3} {st : List MV} {h : Hp} {x : Int32} : Ev d 179 32 ls (vI x :: st) h = if x = 0 then Ev d 179 35 ls st h else Ev d 179 44 ls st h := Rifn hB_179 dX7_freeDay_32 rfl
theorem v179_35 {d : Nat} {st : List MV} {h : Hp} {x : Option A3} {a1 a2 : Option MV} : Ev d 179 35 [some (vO x), a1, a2] st h = Ev d 179 36 [some (vO x), a1, a2] (vO x :: st) h := Rnx (hB_179) (dX7_freeDay_35) rfl
theorem v179_36 {d : Nat} {st : List MV} {h : Hp} {x : Int32} {a0 a2 : Option MV} : Ev d 179 36 [a0, some (vI x), a2] st h = Ev d 179 37 [a0, some (vI x), a2] (vI x :: st) h := Rnx (hB_179) (dX7_freeDay_36) rfl
theorem v179_37 {d : Nat} {st : List MV} {h : Hp} {x : Int32} {a0 a1 : Option MV} : Ev d 179 37 [a0, a1, some (vI x)] st h = Ev d 179 38 [a0, a1, some (vI x)] (vI x :: st) h := Rnx (hB_179) (dX7_freeDay_37) rfl
set_option maxRecDepth 100000 in
theorem v179_38 {d : Nat} {ls : LS3} {st : List MV} {h : Hp} {a : A3} {x0 : Int32} {x1 : Int32} (hS : gS h a = (1, 7)) (hc : catS st ≤ 8) : Ev (d + 1) 179 38 ls (vI x1 :: vI x0 :: vR a :: st) h = Evk 178 (d + 1) 179 38 ls st (Ev d 178 0 [some (vR a), some (vI x0), some (vI x1), none] [] h) := RcallO (idx := 199) (n := 2) (kd := 0) (As' := [vI x0, vI x1]) hB_179 dX7_freeDay_38 rfl rfl (by decide) rfl rfl (Or.inl hS) rfl hc
theorem v179_41 {d : Nat} {ls : LS3} {st : List MV} {h : Hp} {x : Int32} : Ev d 179 41 ls (vI x :: st) h = if x = 0 then Ev d 179 50 ls st h else Ev d 179 44 ls st h := Rif hB_179 dX7_freeDay_41 rfl
theorem v179_44 {d : Nat} {st : List MV} {h : Hp} {x : Int32} {a0 a1 : Option MV} : Ev d 179 44 [a0, a1, some (vI x)] st h = Ev d 179 47 [a0, a1, some (vI (x + 1))] st h := Rnx (hB_179) (dX7_freeDay_44) rfl
theorem v179_47 {d : Nat} {ls : LS3} {st : List MV} {h : Hp} : Ev d 179 47 ls st h = Ev d 179 19 ls st h := Rnx (hB_179) (dX7_freeDay_47) rfl
theorem v179_50 {d : Nat} {st : List MV} {h : Hp} {x : Int32} {a0 a1 : Option MV} : Ev d 179 50 [a0, a1, some (vI x)] st h = Ev d 179 51 [a0, a1, some (vI x)] (vI x :: st) h := Rnx (hB_179) (dX7_freeDay_50) rfl
theorem v179_51 {d : Nat} {ls : LS3} {st : List MV} {h : Hp} : Ev d 179 51 ls st h = Ev d 179 54 ls (vI 400 :: st) h := Rnx (hB_179) (dX7_freeDay_51) rfl
theorem v179_54 {d : Nat} {ls : LS3} {st : List MV} {h : Hp} {x y : Int32} : Ev d 179 54 ls (vI y :: vI x :: st) h = if x ≤ y then Ev d 179 63 ls st h else Ev d 179 57 ls st h := Rif hB_179 dX7_freeDay_54 rfl
theorem v179_57 {d : Nat} {st : List MV} {h : Hp} {x : Option A3} {a1 a2 : Option MV} : Ev d 179 57 [some (vO x), a1, a2] st h = Ev d 179 58 [some (vO x), a1, a2] (vO x :: st) h := Rnx (hB_179) (dX7_freeDay_57) rfl
theorem v179_58 {d : Nat} {ls : LS3} {st : List MV} {h : Hp} : Ev d 179 58 ls st h = Ev d 179 59 ls (vI 2 :: st) h := Rnx (hB_179) (dX7_freeDay_58) rfl
set_option maxRecDepth 100000 in
theorem v179_59 {d : Nat} {ls : LS3} {st : List MV} {h : Hp} {a : A3} {x0 : Int32} (hS : gS h a = (1, 7)) (hc : catS st ≤ 8) : Ev (d + 1) 179 59 ls (vI x0 :: vR a :: st) h = Evk 141 (d + 1) 179 59 ls st (Ev d 141 0 [some (vR a), some (vI x0)] [] h) := RcallO (idx := 168) (n := 1) (kd := 0) (As' := [vI x0]) hB_179 dX7_freeDay_59 rfl rfl (by decide) rfl rfl (Or.inl hS) rfl hc
theorem v179_62 {d : Nat} {ls : LS3} {h : Hp} {x : Int32} : Ev d 179 62 ls [vI x] h = some (.inl (some (vI x)), h) := Rdn hB_179 dX7_freeDay_62 rfl
theorem v179_63 {d : Nat} {st : List MV} {h : Hp} {x : Option A3} {a1 a2 : Option MV} : Ev d 179 63 [some (vO x), a1, a2] st h = Ev d 179 64 [some (vO x), a1, a2] (vO x :: st) h := Rnx (hB_179) (dX7_freeDay_63) rfl
theorem v179_64 {d : Nat} {ls : LS3} {st : List MV} {h : Hp} : Ev d 179 64 ls st h = Ev d 179 65 ls (vI 0 :: st) h := Rnx (hB_179) (dX7_freeDay_64) rfl
set_option maxRecDepth 100000 in
theorem v179_65 {d : Nat} {ls : LS3} {st : List MV} {h : Hp} {a : A3} {x : Int32} (hS : gS h a = (1, 7)) : Ev d 179 65 ls (vI x :: vR a :: st) h = Ev d 179 68 ls st (sI h a 0 x) := RputI hB_179 dX7_freeDay_65 rfl rfl (by decide) hS (Or.inl rfl)
theorem v179_68 {d : Nat} {st : List MV} {h : Hp} {x : Int32} {a0 a1 : Option MV} : Ev d 179 68 [a0, a1, some (vI x)] st h = Ev d 179 69 [a0, a1, some (vI x)] (vI x :: st) h := Rnx (hB_179) (dX7_freeDay_68) rfl
theorem v179_69 {d : Nat} {ls : LS3} {h : Hp} {x : Int32} : Ev d 179 69 ls [vI x] h = some (.inl (some (vI x)), h) := Rdn hB_179 dX7_freeDay_69 rfl
theorem hB_180 : mB 180 = cX7_addThesis := rfl
theorem v180_0 {d : Nat} {st : List MV} {h : Hp} {x : Option A3} {a1 a2 a3 a4 a5 : Option MV} : Ev d 180 0 [some (vO x), a1, a2, a3, a4, a5] st h = Ev d 180 1 [some (vO x), a1, a2, a3, a4, a5] (vO x :: st) h := Rnx (hB_180) (dX7_addThesis_0) rfl
theorem v180_1 {d : Nat} {st : List MV} {h : Hp} {x : Int32} {a0 a1 a2 a3 a5 : Option MV} : Ev d 180 1 [a0, a1, a2, a3, some (vI x), a5] st h = Ev d 180 3 [a0, a1, a2, a3, some (vI x), a5] (vI x :: st) h := Rnx (hB_180) (dX7_addThesis_1) rfl
set_option maxRecDepth 100000 in
theorem v180_3 {d : Nat} {ls : LS3} {st : List MV} {h : Hp} {a : A3} {x0 : Int32} (hS : gS h a = (1, 7)) (hc : catS st ≤ 8) : Ev (d + 1) 180 3 ls (vI x0 :: vR a :: st) h = Evk 145 (d + 1) 180 3 ls st (Ev d 145 0 [some (vR a), some (vI x0)] [] h) := RcallO (idx := 174) (n := 1) (kd := 0) (As' := [vI x0]) hB_180 dX7_addThesis_3 rfl rfl (by decide) rfl rfl (Or.inl hS) rfl hc
theorem v180_6 {d : Nat} {ls : LS3} {st : List MV} {h : Hp} {x : Int32} : Ev d 180 6 ls (vI x :: st) h = if x = 0 then Ev d 180 9 ls st h else Ev d 180 15 ls st h := Rifn hB_180 dX7_addThesis_6 rfl
theorem v180_9 {d : Nat} {st : List MV} {h : Hp} {x : Option A3} {a1 a2 a3 a4 a5 : Option MV} : Ev d 180 9 [some (vO x), a1, a2, a3, a4, a5] st h = Ev d 180 10 [some (vO x), a1, a2, a3, a4, a5] (vO x :: st) h := Rnx (hB_180) (dX7_addThesis_9) rfl
theorem v180_10 {d : Nat} {ls : LS3} {st : List MV} {h : Hp} : Ev d 180 10 ls st h = Ev d 180 11 ls (vI 1 :: st) h := Rnx (hB_180) (dX7_addThesis_10) rfl
set_option maxRecDepth 100000 in
theorem v180_11 {d : Nat} {ls : LS3} {st : List MV} {h : Hp} {a : A3} {x0 : Int32} (hS : gS h a = (1, 7)) (hc : catS st ≤ 8) : Ev (d + 1) 180 11 ls (vI x0 :: vR a :: st) h = Evk 141 (d + 1) 180 11 ls st (Ev d 141 0 [some (vR a), some (vI x0)] [] h) := RcallO (idx := 168) (n := 1) (kd := 0) (As' := [vI x0]) hB_180 dX7_addThesis_11 rfl rfl (by decide) rfl rfl (Or.inl hS) rfl hc
theorem v180_14 {d : Nat} {ls : LS3} {h : Hp} {x : Int32} : Ev d 180 14 ls [vI x] h = some (.inl (some (vI x)), h) := Rdn hB_180 dX7_addThesis_14 rfl
theorem v180_15 {d : Nat} {st : List MV} {h : Hp} {x : Int32} {a0 a2 a3 a4 a5 : Option MV} : Ev d 180 15 [a0, some (vI x), a2, a3, a4, a5] st h = Ev d 180 16 [a0, some (vI x), a2, a3, a4, a5] (vI x :: st) h := Rnx (hB_180) (dX7_addThesis_15) rfl
theorem v180_16 {d : Nat} {ls : LS3} {st : List MV} {h : Hp} : Ev d 180 16 ls st h = Ev d 180 17 ls (vI 0 :: st) h := Rnx (hB_180) (dX7_addThesis_16) rfl
theorem v180_17 {d : Nat} {ls : LS3} {st : List MV} {h : Hp} : Ev d 180 17 ls st h = Ev d 180 18 ls (vI 2 :: st) h := Rnx (hB_180) (dX7_addThesis_17) rfl
set_option maxRecDepth 100000 in
theorem v180_18 {d : Nat} {ls : LS3} {st : List MV} {h : Hp} {x0 : Int32} {x1 : Int32} {x2 : Int32} (hc : catS st ≤ 8) : Ev (d + 1) 180 18 ls (vI x2 :: vI x1 :: vI x0 :: st) h = Evk 143 (d + 1) 180 18 ls st (Ev d 143 0 [some (vI x0), some (vI x1), some (vI x2)] [] h) := RcallS (idx := 87) (n := 3) (kd := 1) (As := [vI x0, vI x1, vI x2]) hB_180 dX7_addThesis_18 rfl rfl (by decide) rfl rfl rfl hc
theorem v180_21 {d : Nat} {ls : LS3} {st : List MV} {h : Hp} {x : Int32} : Ev d 180 21 ls (vI x :: st) h = if x = 0 then Ev d 180 42 ls st h else Ev d 180 24 ls st h := Rif hB_180 dX7_addThesis_21 rfl
theorem v180_24 {d : Nat} {st : List MV} {h : Hp} {x : Int32} {a0 a1 a3 a4 a5 : Option MV} : Ev d 180 24 [a0, a1, some (vI x), a3, a4, a5] st h = Ev d 180 25 [a0, a1, some (vI x), a3, a4, a5] (vI x :: st) h := Rnx (hB_180) (dX7_addThesis_24) rfl
theorem v180_25 {d : Nat} {ls : LS3} {st : List MV} {h : Hp} : Ev d 180 25 ls st h = Ev d 180 26 ls (vI 0 :: st) h := Rnx (hB_180) (dX7_addThesis_25) rfl
theorem v180_26 {d : Nat} {ls : LS3} {st : List MV} {h : Hp} : Ev d 180 26 ls st h = Ev d 180 27 ls (vI 5 :: st) h := Rnx (hB_180) (dX7_addThesis_26) rfl
set_option maxRecDepth 100000 in
theorem v180_27 {d : Nat} {ls : LS3} {st : List MV} {h : Hp} {x0 : Int32} {x1 : Int32} {x2 : Int32} (hc : catS st ≤ 8) : Ev (d + 1) 180 27 ls (vI x2 :: vI x1 :: vI x0 :: st) h = Evk 143 (d + 1) 180 27 ls st (Ev d 143 0 [some (vI x0), some (vI x1), some (vI x2)] [] h) := RcallS (idx := 87) (n := 3) (kd := 1) (As := [vI x0, vI x1, vI x2]) hB_180 dX7_addThesis_27 rfl rfl (by decide) rfl rfl rfl hc
theorem v180_30 {d : Nat} {ls : LS3} {st : List MV} {h : Hp} {x : Int32} : Ev d 180 30 ls (vI x :: st) h = if x = 0 then Ev d 180 42 ls st h else Ev d 180 33 ls st h := Rif hB_180 dX7_addThesis_30 rfl
theorem v180_33 {d : Nat} {st : List MV} {h : Hp} {x : Int32} {a0 a1 a2 a4 a5 : Option MV} : Ev d 180 33 [a0, a1, a2, some (vI x), a4, a5] st h = Ev d 180 34 [a0, a1, a2, some (vI x), a4, a5] (vI x :: st) h := Rnx (hB_180) (dX7_addThesis_33) rfl
theorem v180_34 {d : Nat} {ls : LS3} {st : List MV} {h : Hp} : Ev d 180 34 ls st h = Ev d 180 35 ls (vI 0 :: st) h := Rnx (hB_180) (dX7_addThesis_34) rfl
theorem v180_35 {d : Nat} {ls : LS3} {st : List MV} {h : Hp} : Ev d 180 35 ls st h = Ev d 180 36 ls (vI 3 :: st) h := Rnx (hB_180) (dX7_addThesis_35) rfl
set_option maxRecDepth 100000 in
theorem v180_36 {d : Nat} {ls : LS3} {st : List MV} {h : Hp} {x0 : Int32} {x1 : Int32} {x2 : Int32} (hc : catS st ≤ 8) : Ev (d + 1) 180 36 ls (vI x2 :: vI x1 :: vI x0 :: st) h = Evk 143 (d + 1) 180 36 ls st (Ev d 143 0 [some (vI x0), some (vI x1), some (vI x2)] [] h) := RcallS (idx := 87) (n := 3) (kd := 1) (As := [vI x0, vI x1, vI x2]) hB_180 dX7_addThesis_36 rfl rfl (by decide) rfl rfl rfl hc
theorem v180_39 {d : Nat} {ls : LS3} {st : List MV} {h : Hp} {x : Int32} : Ev d 180 39 ls (vI x :: st) h = if x = 0 then Ev d 180 42 ls st h else Ev d 180 48 ls st h := Rifn hB_180 dX7_addThesis_39 rfl
theorem v180_42 {d : Nat} {st : List MV} {h : Hp} {x : Option A3} {a1 a2 a3 a4 a5 : Option MV} : Ev d 180 42 [some (vO x), a1, a2, a3, a4, a5] st h = Ev d 180 43 [some (vO x), a1, a2, a3, a4, a5] (vO x :: st) h := Rnx (hB_180) (dX7_addThesis_42) rfl
theorem v180_43 {d : Nat} {ls : LS3} {st : List MV} {h : Hp} : Ev d 180 43 ls st h = Ev d 180 44 ls (vI 2 :: st) h := Rnx (hB_180) (dX7_addThesis_43) rfl
set_option maxRecDepth 100000 in
theorem v180_44 {d : Nat} {ls : LS3} {st : List MV} {h : Hp} {a : A3} {x0 : Int32} (hS : gS h a = (1, 7)) (hc : catS st ≤ 8) : Ev (d + 1) 180 44 ls (vI x0 :: vR a :: st) h = Evk 141 (d + 1) 180 44 ls st (Ev d 141 0 [some (vR a), some (vI x0)] [] h) := RcallO (idx := 168) (n := 1) (kd := 0) (As' := [vI x0]) hB_180 dX7_addThesis_44 rfl rfl (by decide) rfl rfl (Or.inl hS) rfl hc
theorem v180_47 {d : Nat} {ls : LS3} {h : Hp} {x : Int32} : Ev d 180 47 ls [vI x] h = some (.inl (some (vI x)), h) := Rdn hB_180 dX7_addThesis_47 rfl
theorem v180_48 {d : Nat} {st : List MV} {h : Hp} {x : Option A3} {a1 a2 a3 a4 a5 : Option MV} : Ev d 180 48 [some (vO x), a1, a2, a3, a4, a5] st h = Ev d 180 49 [some (vO x), a1, a2, a3, a4, a5] (vO x :: st) h := Rnx (hB_180) (dX7_addThesis_48) rfl
set_option maxRecDepth 100000 in
theorem v180_49 {d : Nat} {ls : LS3} {st : List MV} {h : Hp} {a : A3} (hS : gS h a = (1, 7)) : Ev d 180 49 ls (vR a :: st) h = Ev d 180 52 ls (vI (gI h a 19) :: st) h := Rget hB_180 dX7_addThesis_49 rfl (Or.inl hS)
theorem v180_52 {d : Nat} {ls : LS3} {st : List MV} {h : Hp} : Ev d 180 52 ls st h = Ev d 180 54 ls (vI 8 :: st) h := Rnx (hB_180) (dX7_addThesis_52) rfl
theorem v180_54 {d : Nat} {ls : LS3} {st : List MV} {h : Hp} {x y : Int32} : Ev d 180 54 ls (vI y :: vI x :: st) h = if x = y then Ev d 180 57 ls st h else Ev d 180 63 ls st h := Rifn hB_180 dX7_addThesis_54 rfl
theorem v180_57 {d : Nat} {st : List MV} {h : Hp} {x : Option A3} {a1 a2 a3 a4 a5 : Option MV} : Ev d 180 57 [some (vO x), a1, a2, a3, a4, a5] st h = Ev d 180 58 [some (vO x), a1, a2, a3, a4, a5] (vO x :: st) h := Rnx (hB_180) (dX7_addThesis_57) rfl
theorem v180_58 {d : Nat} {ls : LS3} {st : List MV} {h : Hp} : Ev d 180 58 ls st h = Ev d 180 59 ls (vI 3 :: st) h := Rnx (hB_180) (dX7_addThesis_58) rfl
set_option maxRecDepth 100000 in
theorem v180_59 {d : Nat} {ls : LS3} {st : List MV} {h : Hp} {a : A3} {x0 : Int32} (hS : gS h a = (1, 7)) (hc : catS st ≤ 8) : Ev (d + 1) 180 59 ls (vI x0 :: vR a :: st) h = Evk 141 (d + 1) 180 59 ls st (Ev d 141 0 [some (vR a), some (vI x0)] [] h) := RcallO (idx := 168) (n := 1) (kd := 0) (As' := [vI x0]) hB_180 dX7_addThesis_59 rfl rfl (by decide) rfl rfl (Or.inl hS) rfl hc
theorem v180_62 {d : Nat} {ls : LS3} {h : Hp} {x : Int32} : Ev d 180 62 ls [vI x] h = some (.inl (some (vI x)), h) := Rdn hB_180 dX7_addThesis_62 rfl
theorem v180_63 {d : Nat} {st : List MV} {h : Hp} {x : Option A3} {a1 a2 a3 a4 a5 : Option MV} : Ev d 180 63 [some (vO x), a1, a2, a3, a4, a5] st h = Ev d 180 64 [some (vO x), a1, a2, a3, a4, a5] (vO x :: st) h := Rnx (hB_180) (dX7_addThesis_63) rfl
theorem v180_64 {d : Nat} {ls : LS3} {st : List MV} {h : Hp} : Ev d 180 64 ls st h = Ev d 180 65 ls (vI 0 :: st) h := Rnx (hB_180) (dX7_addThesis_64) rfl
set_option maxRecDepth 100000 in
theorem v180_65 {d : Nat} {ls : LS3} {st : List MV} {h : Hp} {a : A3} {x : Int32} (hS : gS h a = (1, 7)) : Ev d 180 65 ls (vI x :: vR a :: st) h = Ev d 180 68 ls st (sI h a 0 x) := RputI hB_180 dX7_addThesis_65 rfl rfl (by decide) hS (Or.inl rfl)
theorem v180_68 {d : Nat} {st : List MV} {h : Hp} {x : Option A3} {a1 a2 a3 a4 a5 : Option MV} : Ev d 180 68 [some (vO x), a1, a2, a3, a4, a5] st h = Ev d 180 69 [some (vO x), a1, a2, a3, a4, a5] (vO x :: st) h := Rnx (hB_180) (dX7_addThesis_68) rfl
set_option maxRecDepth 100000 in
theorem v180_69 {d : Nat} {ls : LS3} {st : List MV} {h : Hp} {a : A3}  (hS : gS h a = (1, 7)) (hc : catS st ≤ 8) : Ev (d + 1) 180 69 ls (vR a :: st) h = Evk 230 (d + 1) 180 69 ls st (Ev d 230 0 [some (vR a)] [] h) := RcallO (idx := 171) (n := 0) (kd := 0) (As' := []) hB_180 dX7_addThesis_69 rfl rfl (by decide) rfl rfl (Or.inl hS) rfl hc
theorem v180_72 {d : Nat} {st : List MV} {h : Hp} {x : Option A3} {a1 a2 a3 a4 a5 : Option MV} : Ev d 180 72 [some (vO x), a1, a2, a3, a4, a5] st h = Ev d 180 73 [some (vO x), a1, a2, a3, a4, a5] (vO x :: st) h := Rnx (hB_180) (dX7_addThesis_72) rfl
set_option maxRecDepth 100000 in
theorem v180_73 {d : Nat} {ls : LS3} {st : List MV} {h : Hp} {a : A3} (hS : gS h a = (1, 7)) : Ev d 180 73 ls (vR a :: st) h = Ev d 180 76 ls (vI (gI h a 19) :: st) h := Rget hB_180 dX7_addThesis_73 rfl (Or.inl hS)
theorem v180_76 {d : Nat} {st : List MV} {h : Hp} {x : Int32} {a0 a1 a2 a3 a4 a5 : Option MV} : Ev d 180 76 [a0, a1, a2, a3, a4, a5] (vI x :: st) h = Ev d 180 78 [a0, a1, a2, a3, a4, some (vI x)] st h := Rnx (hB_180) (dX7_addThesis_76) rfl
theorem v180_78 {d : Nat} {st : List MV} {h : Hp} {x : Option A3} {a1 a2 a3 a4 a5 : Option MV} : Ev d 180 78 [some (vO x), a1, a2, a3, a4, a5] st h = Ev d 180 79 [some (vO x), a1, a2, a3, a4, a5] (vO x :: st) h := Rnx (hB_180) (dX7_addThesis_78) rfl
set_option maxRecDepth 100000 in
theorem v180_79 {d : Nat} {ls : LS3} {st : List MV} {h : Hp} {a : A3} (hS : gS h a = (1, 7)) : Ev d 180 79 ls (vR a :: st) h = Ev d 180 82 ls (vO (gR h a 9) :: st) h := Rget hB_180 dX7_addThesis_79 rfl (Or.inl hS)
theorem v180_82 {d : Nat} {st : List MV} {h : Hp} {x : Int32} {a0 a1 a2 a3 a4 : Option MV} : Ev d 180 82 [a0, a1, a2, a3, a4, some (vI x)] st h = Ev d 180 84 [a0, a1, a2, a3, a4, some (vI x)] (vI x :: st) h := Rnx (hB_180) (dX7_addThesis_82) rfl
theorem v180_84 {d : Nat} {st : List MV} {h : Hp} {x : Int32} {a0 a2 a3 a4 a5 : Option MV} : Ev d 180 84 [a0, some (vI x), a2, a3, a4, a5] st h = Ev d 180 85 [a0, some (vI x), a2, a3, a4, a5] (vI x :: st) h := Rnx (hB_180) (dX7_addThesis_84) rfl
theorem v180_85 {d : Nat} {ls : LS3} {st : List MV} {h : Hp} {a : A3} {j : Int32} {x : Int32} (hS : (gS h a).1 = 2) (hj : inB j (gS h a).2) : Ev d 180 85 ls (vI x :: vI j :: vR a :: st) h = Ev d 180 86 ls st (sI h a j.toNatClampNeg x) := RastI hB_180 dX7_addThesis_85 hS hj
theorem v180_86 {d : Nat} {st : List MV} {h : Hp} {x : Option A3} {a1 a2 a3 a4 a5 : Option MV} : Ev d 180 86 [some (vO x), a1, a2, a3, a4, a5] st h = Ev d 180 87 [some (vO x), a1, a2, a3, a4, a5] (vO x :: st) h := Rnx (hB_180) (dX7_addThesis_86) rfl
set_option maxRecDepth 100000 in
theorem v180_87 {d : Nat} {ls : LS3} {st : List MV} {h : Hp} {a : A3} (hS : gS h a = (1, 7)) : Ev d 180 87 ls (vR a :: st) h = Ev d 180 90 ls (vO (gR h a 10) :: st) h := Rget hB_180 dX7_addThesis_87 rfl (Or.inl hS)
theorem v180_90 {d : Nat} {st : List MV} {h : Hp} {x : Int32} {a0 a1 a2 a3 a4 : Option MV} : Ev d 180 90 [a0, a1, a2, a3, a4, some (vI x)] st h = Ev d 180 92 [a0, a1, a2, a3, a4, some (vI x)] (vI x :: st) h := Rnx (hB_180) (dX7_addThesis_90) rfl
theorem v180_92 {d : Nat} {st : List MV} {h : Hp} {x : Int32} {a0 a1 a3 a4 a5 : Option MV} : Ev d 180 92 [a0, a1, some (vI x), a3, a4, a5] st h = Ev d 180 93 [a0, a1, some (vI x), a3, a4, a5] (vI x :: st) h := Rnx (hB_180) (dX7_addThesis_92) rfl
theorem v180_93 {d : Nat} {ls : LS3} {st : List MV} {h : Hp} {a : A3} {j : Int32} {x : Int32} (hS : (gS h a).1 = 2) (hj : inB j (gS h a).2) : Ev d 180 93 ls (vI x :: vI j :: vR a :: st) h = Ev d 180 94 ls st (sI h a j.toNatClampNeg x) := RastI hB_180 dX7_addThesis_93 hS hj
theorem v180_94 {d : Nat} {st : List MV} {h : Hp} {x : Option A3} {a1 a2 a3 a4 a5 : Option MV} : Ev d 180 94 [some (vO x), a1, a2, a3, a4, a5] st h = Ev d 180 95 [some (vO x), a1, a2, a3, a4, a5] (vO x :: st) h := Rnx (hB_180) (dX7_addThesis_94) rfl
set_option maxRecDepth 100000 in
theorem v180_95 {d : Nat} {ls : LS3} {st : List MV} {h : Hp} {a : A3} (hS : gS h a = (1, 7)) : Ev d 180 95 ls (vR a :: st) h = Ev d 180 98 ls (vO (gR h a 11) :: st) h := Rget hB_180 dX7_addThesis_95 rfl (Or.inl hS)
theorem v180_98 {d : Nat} {st : List MV} {h : Hp} {x : Int32} {a0 a1 a2 a3 a4 : Option MV} : Ev d 180 98 [a0, a1, a2, a3, a4, some (vI x)] st h = Ev d 180 100 [a0, a1, a2, a3, a4, some (vI x)] (vI x :: st) h := Rnx (hB_180) (dX7_addThesis_98) rfl
theorem v180_100 {d : Nat} {st : List MV} {h : Hp} {x : Int32} {a0 a1 a2 a4 a5 : Option MV} : Ev d 180 100 [a0, a1, a2, some (vI x), a4, a5] st h = Ev d 180 101 [a0, a1, a2, some (vI x), a4, a5] (vI x :: st) h := Rnx (hB_180) (dX7_addThesis_100) rfl
theorem v180_101 {d : Nat} {ls : LS3} {st : List MV} {h : Hp} {a : A3} {j : Int32} {x : Int32} (hS : (gS h a).1 = 2) (hj : inB j (gS h a).2) : Ev d 180 101 ls (vI x :: vI j :: vR a :: st) h = Ev d 180 102 ls st (sI h a j.toNatClampNeg x) := RastI hB_180 dX7_addThesis_101 hS hj
theorem v180_102 {d : Nat} {st : List MV} {h : Hp} {x : Option A3} {a1 a2 a3 a4 a5 : Option MV} : Ev d 180 102 [some (vO x), a1, a2, a3, a4, a5] st h = Ev d 180 103 [some (vO x), a1, a2, a3, a4, a5] (vO x :: st) h := Rnx (hB_180) (dX7_addThesis_102) rfl
set_option maxRecDepth 100000 in
theorem v180_103 {d : Nat} {ls : LS3} {st : List MV} {h : Hp} {a : A3} (hS : gS h a = (1, 7)) : Ev d 180 103 ls (vR a :: st) h = Ev d 180 106 ls (vO (gR h a 12) :: st) h := Rget hB_180 dX7_addThesis_103 rfl (Or.inl hS)
theorem v180_106 {d : Nat} {st : List MV} {h : Hp} {x : Int32} {a0 a1 a2 a3 a4 : Option MV} : Ev d 180 106 [a0, a1, a2, a3, a4, some (vI x)] st h = Ev d 180 108 [a0, a1, a2, a3, a4, some (vI x)] (vI x :: st) h := Rnx (hB_180) (dX7_addThesis_106) rfl
theorem v180_108 {d : Nat} {st : List MV} {h : Hp} {x : Int32} {a0 a1 a2 a3 a5 : Option MV} : Ev d 180 108 [a0, a1, a2, a3, some (vI x), a5] st h = Ev d 180 110 [a0, a1, a2, a3, some (vI x), a5] (vI x :: st) h := Rnx (hB_180) (dX7_addThesis_108) rfl
theorem v180_110 {d : Nat} {ls : LS3} {st : List MV} {h : Hp} {a : A3} {j : Int32} {x : Int32} (hS : (gS h a).1 = 2) (hj : inB j (gS h a).2) : Ev d 180 110 ls (vI x :: vI j :: vR a :: st) h = Ev d 180 111 ls st (sI h a j.toNatClampNeg x) := RastI hB_180 dX7_addThesis_110 hS hj
theorem v180_111 {d : Nat} {st : List MV} {h : Hp} {x : Option A3} {a1 a2 a3 a4 a5 : Option MV} : Ev d 180 111 [some (vO x), a1, a2, a3, a4, a5] st h = Ev d 180 112 [some (vO x), a1, a2, a3, a4, a5] (vO x :: st) h := Rnx (hB_180) (dX7_addThesis_111) rfl
set_option maxRecDepth 100000 in
theorem v180_112 {d : Nat} {ls : LS3} {st : List MV} {h : Hp} {a : A3} (hS : gS h a = (1, 7)) : Ev d 180 112 ls (vR a :: st) h = Ev d 180 115 ls (vO (gR h a 13) :: st) h := Rget hB_180 dX7_addThesis_112 rfl (Or.inl hS)
theorem v180_115 {d : Nat} {st : List MV} {h : Hp} {x : Int32} {a0 a1 a2 a3 a4 : Option MV} : Ev d 180 115 [a0, a1, a2, a3, a4, some (vI x)] st h = Ev d 180 117 [a0, a1, a2, a3, a4, some (vI x)] (vI x :: st) h := Rnx (hB_180) (dX7_addThesis_115) rfl
theorem v180_117 {d : Nat} {ls : LS3} {st : List MV} {h : Hp} : Ev d 180 117 ls st h = Ev d 180 118 ls (vI 0 :: st) h := Rnx (hB_180) (dX7_addThesis_117) rfl
theorem v180_118 {d : Nat} {ls : LS3} {st : List MV} {h : Hp} {a : A3} {j : Int32} {x : Int32} (hS : (gS h a).1 = 2) (hj : inB j (gS h a).2) : Ev d 180 118 ls (vI x :: vI j :: vR a :: st) h = Ev d 180 119 ls st (sI h a j.toNatClampNeg x) := RastI hB_180 dX7_addThesis_118 hS hj
theorem v180_119 {d : Nat} {st : List MV} {h : Hp} {x : Option A3} {a1 a2 a3 a4 a5 : Option MV} : Ev d 180 119 [some (vO x), a1, a2, a3, a4, a5] st h = Ev d 180 120 [some (vO x), a1, a2, a3, a4, a5] (vO x :: st) h := Rnx (hB_180) (dX7_addThesis_119) rfl
set_option maxRecDepth 100000 in
theorem v180_120 {d : Nat} {ls : LS3} {st : List MV} {h : Hp} {a : A3} (hS : gS h a = (1, 7)) : Ev d 180 120 ls (vR a :: st) h = Ev d 180 123 ls (vO (gR h a 14) :: st) h := Rget hB_180 dX7_addThesis_120 rfl (Or.inl hS)
theorem v180_123 {d : Nat} {st : List MV} {h : Hp} {x : Int32} {a0 a1 a2 a3 a4 : Option MV} : Ev d 180 123 [a0, a1, a2, a3, a4, some (vI x)] st h = Ev d 180 125 [a0, a1, a2, a3, a4, some (vI x)] (vI x :: st) h := Rnx (hB_180) (dX7_addThesis_123) rfl
theorem v180_125 {d : Nat} {ls : LS3} {st : List MV} {h : Hp} : Ev d 180 125 ls st h = Ev d 180 126 ls (vI 0 :: st) h := Rnx (hB_180) (dX7_addThesis_125) rfl
theorem v180_126 {d : Nat} {ls : LS3} {st : List MV} {h : Hp} {a : A3} {j : Int32} {x : Int32} (hS : (gS h a).1 = 2) (hj : inB j (gS h a).2) : Ev d 180 126 ls (vI x :: vI j :: vR a :: st) h = Ev d 180 127 ls st (sI h a j.toNatClampNeg x) := RastI hB_180 dX7_addThesis_126 hS hj
theorem v180_127 {d : Nat} {st : List MV} {h : Hp} {x : Option A3} {a1 a2 a3 a4 a5 : Option MV} : Ev d 180 127 [some (vO x), a1, a2, a3, a4, a5] st h = Ev d 180 128 [some (vO x), a1, a2, a3, a4, a5] (vO x :: st) h := Rnx (hB_180) (dX7_addThesis_127) rfl
theorem v180_128 {d : Nat} {st : List MV} {h : Hp} {x : Int32} {a0 a1 a2 a3 a4 : Option MV} : Ev d 180 128 [a0, a1, a2, a3, a4, some (vI x)] st h = Ev d 180 130 [a0, a1, a2, a3, a4, some (vI x)] (vI x :: st) h := Rnx (hB_180) (dX7_addThesis_128) rfl
set_option maxRecDepth 100000 in
theorem v180_130 {d : Nat} {ls : LS3} {st : List MV} {h : Hp} {a : A3} {x0 : Int32} (hS : gS h a = (1, 7)) (hc : catS st ≤ 8) : Ev (d + 1) 180 130 ls (vI x0 :: vR a :: st) h = Evk 161 (d + 1) 180 130 ls st (Ev d 161 0 [some (vR a), some (vI x0)] [] h) := RcallO (idx := 142) (n := 1) (kd := 0) (As' := [vI x0]) hB_180 dX7_addThesis_130 rfl rfl (by decide) rfl rfl (Or.inl hS) rfl hc
theorem v180_133 {d : Nat} {st : List MV} {h : Hp} {x : Option A3} {a1 a2 a3 a4 a5 : Option MV} : Ev d 180 133 [some (vO x), a1, a2, a3, a4, a5] st h = Ev d 180 134 [some (vO x), a1, a2, a3, a4, a5] (vO x :: st) h := Rnx (hB_180) (dX7_addThesis_133) rfl
theorem v180_134 {d : Nat} {ls : LS3} {st : List MV} {h : Hp} {v : MV} (hv : cat1 v = true) : Ev d 180 134 ls (v :: st) h = Ev d 180 135 ls (v :: v :: st) h := Rdup hB_180 dX7_addThesis_134 hv
set_option maxRecDepth 100000 in
theorem v180_135 {d : Nat} {ls : LS3} {st : List MV} {h : Hp} {a : A3} (hS : gS h a = (1, 7)) : Ev d 180 135 ls (vR a :: st) h = Ev d 180 138 ls (vI (gI h a 19) :: st) h := Rget hB_180 dX7_addThesis_135 rfl (Or.inl hS)
theorem v180_138 {d : Nat} {ls : LS3} {st : List MV} {h : Hp} : Ev d 180 138 ls st h = Ev d 180 139 ls (vI 1 :: st) h := Rnx (hB_180) (dX7_addThesis_138) rfl
theorem v180_139 {d : Nat} {ls : LS3} {st : List MV} {h : Hp} {x y : Int32} : Ev d 180 139 ls (vI y :: vI x :: st) h = Ev d 180 140 ls (vI (x + y) :: st) h := Rnx (hB_180) (dX7_addThesis_139) rfl
set_option maxRecDepth 100000 in
theorem v180_140 {d : Nat} {ls : LS3} {st : List MV} {h : Hp} {a : A3} {x : Int32} (hS : gS h a = (1, 7)) : Ev d 180 140 ls (vI x :: vR a :: st) h = Ev d 180 143 ls st (sI h a 19 x) := RputI hB_180 dX7_addThesis_140 rfl rfl (by decide) hS (Or.inl rfl)
theorem v180_143 {d : Nat} {st : List MV} {h : Hp} {x : Int32} {a0 a1 a2 a3 a4 : Option MV} : Ev d 180 143 [a0, a1, a2, a3, a4, some (vI x)] st h = Ev d 180 145 [a0, a1, a2, a3, a4, some (vI x)] (vI x :: st) h := Rnx (hB_180) (dX7_addThesis_143) rfl
theorem v180_145 {d : Nat} {ls : LS3} {h : Hp} {x : Int32} : Ev d 180 145 ls [vI x] h = some (.inl (some (vI x)), h) := Rdn hB_180 dX7_addThesis_145 rfl
theorem hB_181 : mB 181 = cX7_placeInLine := rfl
theorem v181_0 {d : Nat} {ls : LS3} {st : List MV} {h : Hp} : Ev d 181 0 ls st h = Ev d 181 1 ls (vI 0 :: st) h := Rnx (hB_181) (dX7_placeInLine_0) rfl
theorem v181_1 {d : Nat} {st : List MV} {h : Hp} {x : Int32} {a0 a1 a2 : Option MV} : Ev d 181 1 [a0, a1, a2] (vI x :: st) h = Ev d 181 2 [a0, a1, some (vI x)] st h := Rnx (hB_181) (dX7_placeInLine_1) rfl
theorem v181_2 {d : Nat} {st : List MV} {h : Hp} {x : Int32} {a0 a1 : Option MV} : Ev d 181 2 [a0, a1, some (vI x)] st h = Ev d 181 3 [a0, a1, some (vI x)] (vI x :: st) h := Rnx (hB_181) (dX7_placeInLine_2) rfl
theorem v181_3 {d : Nat} {st : List MV} {h : Hp} {x : Option A3} {a1 a2 : Option MV} : Ev d 181 3 [some (vO x), a1, a2] st h = Ev d 181 4 [some (vO x), a1, a2] (vO x :: st) h := Rnx (hB_181) (dX7_placeInLine_3) rfl
set_option maxRecDepth 100000 in
theorem v181_4 {d : Nat} {ls : LS3} {st : List MV} {h : Hp} {a : A3} (hS : gS h a = (1, 7)) : Ev d 181 4 ls (vR a :: st) h = Ev d 181 7 ls (vI (gI h a 20) :: st) h := Rget hB_181 dX7_placeInLine_4 rfl (Or.inl hS)
theorem v181_7 {d : Nat} {ls : LS3} {st : List MV} {h : Hp} {x y : Int32} : Ev d 181 7 ls (vI y :: vI x :: st) h = if y ≤ x then Ev d 181 28 ls st h else Ev d 181 10 ls st h := Rif hB_181 dX7_placeInLine_7 rfl
theorem v181_10 {d : Nat} {st : List MV} {h : Hp} {x : Option A3} {a1 a2 : Option MV} : Ev d 181 10 [some (vO x), a1, a2] st h = Ev d 181 11 [some (vO x), a1, a2] (vO x :: st) h := Rnx (hB_181) (dX7_placeInLine_10) rfl
set_option maxRecDepth 100000 in
theorem v181_11 {d : Nat} {ls : LS3} {st : List MV} {h : Hp} {a : A3} (hS : gS h a = (1, 7)) : Ev d 181 11 ls (vR a :: st) h = Ev d 181 14 ls (vO (gR h a 18) :: st) h := Rget hB_181 dX7_placeInLine_11 rfl (Or.inl hS)
theorem v181_14 {d : Nat} {st : List MV} {h : Hp} {x : Int32} {a0 a1 : Option MV} : Ev d 181 14 [a0, a1, some (vI x)] st h = Ev d 181 15 [a0, a1, some (vI x)] (vI x :: st) h := Rnx (hB_181) (dX7_placeInLine_14) rfl
theorem v181_15 {d : Nat} {ls : LS3} {st : List MV} {h : Hp} {a : A3} {j : Int32} (hS : (gS h a).1 ∈ [2, 9]) (hj : inB j (gS h a).2) : Ev d 181 15 ls (vI j :: vR a :: st) h = Ev d 181 16 ls (vI (gI h a j.toNatClampNeg) :: st) h := Rald (ks := [2, 9]) (f := fun a j => vI (gI h a j)) hB_181 dX7_placeInLine_15 rfl hS hj
theorem v181_16 {d : Nat} {st : List MV} {h : Hp} {x : Int32} {a0 a2 : Option MV} : Ev d 181 16 [a0, some (vI x), a2] st h = Ev d 181 17 [a0, some (vI x), a2] (vI x :: st) h := Rnx (hB_181) (dX7_placeInLine_16) rfl
theorem v181_17 {d : Nat} {ls : LS3} {st : List MV} {h : Hp} {x y : Int32} : Ev d 181 17 ls (vI y :: vI x :: st) h = if x = y then Ev d 181 20 ls st h else Ev d 181 22 ls st h := Rifn hB_181 dX7_placeInLine_17 rfl
theorem v181_20 {d : Nat} {st : List MV} {h : Hp} {x : Int32} {a0 a1 : Option MV} : Ev d 181 20 [a0, a1, some (vI x)] st h = Ev d 181 21 [a0, a1, some (vI x)] (vI x :: st) h := Rnx (hB_181) (dX7_placeInLine_20) rfl
theorem v181_21 {d : Nat} {ls : LS3} {h : Hp} {x : Int32} : Ev d 181 21 ls [vI x] h = some (.inl (some (vI x)), h) := Rdn hB_181 dX7_placeInLine_21 rfl
theorem v181_22 {d : Nat} {st : List MV} {h : Hp} {x : Int32} {a0 a1 : Option MV} : Ev d 181 22 [a0, a1, some (vI x)] st h = Ev d 181 25 [a0, a1, some (vI (x + 1))] st h := Rnx (hB_181) (dX7_placeInLine_22) rfl
theorem v181_25 {d : Nat} {ls : LS3} {st : List MV} {h : Hp} : Ev d 181 25 ls st h = Ev d 181 2 ls st h := Rnx (hB_181) (dX7_placeInLine_25) rfl
theorem v181_28 {d : Nat} {ls : LS3} {st : List MV} {h : Hp} : Ev d 181 28 ls st h = Ev d 181 29 ls (vI (-1) :: st) h := Rnx (hB_181) (dX7_placeInLine_28) rfl
theorem v181_29 {d : Nat} {ls : LS3} {h : Hp} {x : Int32} : Ev d 181 29 ls [vI x] h = some (.inl (some (vI x)), h) := Rdn hB_181 dX7_placeInLine_29 rfl
theorem hB_182 : mB 182 = cX7_thesis := rfl
theorem v182_0 {d : Nat} {st : List MV} {h : Hp} {x : Option A3} {a1 a2 : Option MV} : Ev d 182 0 [some (vO x), a1, a2] st h = Ev d 182 1 [some (vO x), a1, a2] (vO x :: st) h := Rnx (hB_182) (dX7_thesis_0) rfl
theorem v182_1 {d : Nat} {st : List MV} {h : Hp} {x : Int32} {a0 a2 : Option MV} : Ev d 182 1 [a0, some (vI x), a2] st h = Ev d 182 2 [a0, some (vI x), a2] (vI x :: st) h := Rnx (hB_182) (dX7_thesis_1) rfl
set_option maxRecDepth 100000 in
theorem v182_2 {d : Nat} {ls : LS3} {st : List MV} {h : Hp} {a : A3} {x0 : Int32} (hS : gS h a = (1, 7)) (hc : catS st ≤ 8) : Ev (d + 1) 182 2 ls (vI x0 :: vR a :: st) h = Evk 149 (d + 1) 182 2 ls st (Ev d 149 0 [some (vR a), some (vI x0)] [] h) := RcallO (idx := 202) (n := 1) (kd := 0) (As' := [vI x0]) hB_182 dX7_thesis_2 rfl rfl (by decide) rfl rfl (Or.inl hS) rfl hc
theorem v182_5 {d : Nat} {ls : LS3} {st : List MV} {h : Hp} {x : Int32} : Ev d 182 5 ls (vI x :: st) h = if x = 0 then Ev d 182 8 ls st h else Ev d 182 14 ls st h := Rifn hB_182 dX7_thesis_5 rfl
theorem v182_8 {d : Nat} {st : List MV} {h : Hp} {x : Option A3} {a1 a2 : Option MV} : Ev d 182 8 [some (vO x), a1, a2] st h = Ev d 182 9 [some (vO x), a1, a2] (vO x :: st) h := Rnx (hB_182) (dX7_thesis_8) rfl
theorem v182_9 {d : Nat} {ls : LS3} {st : List MV} {h : Hp} : Ev d 182 9 ls st h = Ev d 182 10 ls (vI 1 :: st) h := Rnx (hB_182) (dX7_thesis_9) rfl
set_option maxRecDepth 100000 in
theorem v182_10 {d : Nat} {ls : LS3} {st : List MV} {h : Hp} {a : A3} {x0 : Int32} (hS : gS h a = (1, 7)) (hc : catS st ≤ 8) : Ev (d + 1) 182 10 ls (vI x0 :: vR a :: st) h = Evk 141 (d + 1) 182 10 ls st (Ev d 141 0 [some (vR a), some (vI x0)] [] h) := RcallO (idx := 168) (n := 1) (kd := 0) (As' := [vI x0]) hB_182 dX7_thesis_10 rfl rfl (by decide) rfl rfl (Or.inl hS) rfl hc
theorem v182_13 {d : Nat} {ls : LS3} {h : Hp} {x : Int32} : Ev d 182 13 ls [vI x] h = some (.inl (some (vI x)), h) := Rdn hB_182 dX7_thesis_13 rfl
theorem v182_14 {d : Nat} {st : List MV} {h : Hp} {x : Int32} {a0 a1 : Option MV} : Ev d 182 14 [a0, a1, some (vI x)] st h = Ev d 182 15 [a0, a1, some (vI x)] (vI x :: st) h := Rnx (hB_182) (dX7_thesis_14) rfl
theorem v182_15 {d : Nat} {ls : LS3} {st : List MV} {h : Hp} : Ev d 182 15 ls st h = Ev d 182 16 ls (vI 0 :: st) h := Rnx (hB_182) (dX7_thesis_15) rfl
theorem v182_16 {d : Nat} {ls : LS3} {st : List MV} {h : Hp} : Ev d 182 16 ls st h = Ev d 182 18 ls (vI 10 :: st) h := Rnx (hB_182) (dX7_thesis_16) rfl
set_option maxRecDepth 100000 in
theorem v182_18 {d : Nat} {ls : LS3} {st : List MV} {h : Hp} {x0 : Int32} {x1 : Int32} {x2 : Int32} (hc : catS st ≤ 8) : Ev (d + 1) 182 18 ls (vI x2 :: vI x1 :: vI x0 :: st) h = Evk 143 (d + 1) 182 18 ls st (Ev d 143 0 [some (vI x0), some (vI x1), some (vI x2)] [] h) := RcallS (idx := 87) (n := 3) (kd := 1) (As := [vI x0, vI x1, vI x2]) hB_182 dX7_thesis_18 rfl rfl (by decide) rfl rfl rfl hc
theorem v182_21 {d : Nat} {ls : LS3} {st : List MV} {h : Hp} {x : Int32} : Ev d 182 21 ls (vI x :: st) h = if x = 0 then Ev d 182 24 ls st h else Ev d 182 30 ls st h := Rifn hB_182 dX7_thesis_21 rfl
theorem v182_24 {d : Nat} {st : List MV} {h : Hp} {x : Option A3} {a1 a2 : Option MV} : Ev d 182 24 [some (vO x), a1, a2] st h = Ev d 182 25 [some (vO x), a1, a2] (vO x :: st) h := Rnx (hB_182) (dX7_thesis_24) rfl
theorem v182_25 {d : Nat} {ls : LS3} {st : List MV} {h : Hp} : Ev d 182 25 ls st h = Ev d 182 26 ls (vI 2 :: st) h := Rnx (hB_182) (dX7_thesis_25) rfl
set_option maxRecDepth 100000 in
theorem v182_26 {d : Nat} {ls : LS3} {st : List MV} {h : Hp} {a : A3} {x0 : Int32} (hS : gS h a = (1, 7)) (hc : catS st ≤ 8) : Ev (d + 1) 182 26 ls (vI x0 :: vR a :: st) h = Evk 141 (d + 1) 182 26 ls st (Ev d 141 0 [some (vR a), some (vI x0)] [] h) := RcallO (idx := 168) (n := 1) (kd := 0) (As' := [vI x0]) hB_182 dX7_thesis_26 rfl rfl (by decide) rfl rfl (Or.inl hS) rfl hc
theorem v182_29 {d : Nat} {ls : LS3} {h : Hp} {x : Int32} : Ev d 182 29 ls [vI x] h = some (.inl (some (vI x)), h) := Rdn hB_182 dX7_thesis_29 rfl
theorem v182_30 {d : Nat} {st : List MV} {h : Hp} {x : Option A3} {a1 a2 : Option MV} : Ev d 182 30 [some (vO x), a1, a2] st h = Ev d 182 31 [some (vO x), a1, a2] (vO x :: st) h := Rnx (hB_182) (dX7_thesis_30) rfl
theorem v182_31 {d : Nat} {ls : LS3} {st : List MV} {h : Hp} : Ev d 182 31 ls st h = Ev d 182 32 ls (vI 0 :: st) h := Rnx (hB_182) (dX7_thesis_31) rfl
set_option maxRecDepth 100000 in
theorem v182_32 {d : Nat} {ls : LS3} {st : List MV} {h : Hp} {a : A3} {x : Int32} (hS : gS h a = (1, 7)) : Ev d 182 32 ls (vI x :: vR a :: st) h = Ev d 182 35 ls st (sI h a 0 x) := RputI hB_182 dX7_thesis_32 rfl rfl (by decide) hS (Or.inl rfl)
theorem v182_35 {d : Nat} {st : List MV} {h : Hp} {x : Int32} {a0 a1 : Option MV} : Ev d 182 35 [a0, a1, some (vI x)] st h = Ev d 182 36 [a0, a1, some (vI x)] (vI x :: st) h := Rnx (hB_182) (dX7_thesis_35) rfl
theorem v182_36 {d : Nat} {ls : LS3} {st : List MV} {h : Hp} {x : Int32} : Ev d 182 36 ls (vI x :: st) h = if x = 0 then Ev d 182 92 ls st h else if x = 1 then Ev d 182 99 ls st h else if x = 2 then Ev d 182 106 ls st h else if x = 3 then Ev d 182 113 ls st h else if x = 4 then Ev d 182 120 ls st h else if x = 5 then Ev d 182 127 ls st h else if x = 6 then Ev d 182 134 ls st h else if x = 7 then Ev d 182 141 ls st h else if x = 8 then Ev d 182 148 ls st h else if x = 9 then Ev d 182 155 ls st h else Ev d 182 169 ls st h := by
  by_cases z : x.toInt < 0 ∨ 9 < x.toInt
  · rw [if_neg (fun y => by rw [y] at z; revert z; decide), if_neg (fun y => by rw [y] at z; revert z; decide), if_neg (fun y => by rw [y] at z; revert z; decide), if_neg (fun y => by rw [y] at z; revert z; decide), if_neg (fun y => by rw [y] at z; revert z; decide), if_neg (fun y => by rw [y] at z; revert z; decide), if_neg (fun y => by rw [y] at z; revert z; decide), if_neg (fun y => by rw [y] at z; revert z; decide), if_neg (fun y => by rw [y] at z; revert z; decide), if_neg (fun y => by rw [y] at z; revert z; decide)]
    exact Rnx hB_182 dX7_thesis_36 (xTab_out z)
  · rcases (show x.toInt = 0 ∨ x.toInt = 1 ∨ x.toInt = 2 ∨ x.toInt = 3 ∨ x.toInt = 4 ∨ x.toInt = 5 ∨ x.toInt = 6 ∨ x.toInt = 7 ∨ x.toInt = 8 ∨ x.toInt = 9 by omega) with y | y | y | y | y | y | y | y | y | y
    · have e : x = 0 := Int32.toInt_inj.mp (y.trans rfl)
      subst e
      rw [if_pos rfl]; exact Rnx hB_182 dX7_thesis_36 rfl
    · have e : x = 1 := Int32.toInt_inj.mp (y.trans rfl)
      subst e
      rw [if_neg (by decide)]; rw [if_pos rfl]; exact Rnx hB_182 dX7_thesis_36 rfl
    · have e : x = 2 := Int32.toInt_inj.mp (y.trans rfl)
      subst e
      rw [if_neg (by decide)]; rw [if_neg (by decide)]; rw [if_pos rfl]; exact Rnx hB_182 dX7_thesis_36 rfl
    · have e : x = 3 := Int32.toInt_inj.mp (y.trans rfl)
      subst e
      rw [if_neg (by decide)]; rw [if_neg (by decide)]; rw [if_neg (by decide)]; rw [if_pos rfl]; exact Rnx hB_182 dX7_thesis_36 rfl
    · have e : x = 4 := Int32.toInt_inj.mp (y.trans rfl)
      subst e
      rw [if_neg (by decide)]; rw [if_neg (by decide)]; rw [if_neg (by decide)]; rw [if_neg (by decide)]; rw [if_pos rfl]; exact Rnx hB_182 dX7_thesis_36 rfl
    · have e : x = 5 := Int32.toInt_inj.mp (y.trans rfl)
      subst e
      rw [if_neg (by decide)]; rw [if_neg (by decide)]; rw [if_neg (by decide)]; rw [if_neg (by decide)]; rw [if_neg (by decide)]; rw [if_pos rfl]; exact Rnx hB_182 dX7_thesis_36 rfl
    · have e : x = 6 := Int32.toInt_inj.mp (y.trans rfl)
      subst e
      rw [if_neg (by decide)]; rw [if_neg (by decide)]; rw [if_neg (by decide)]; rw [if_neg (by decide)]; rw [if_neg (by decide)]; rw [if_neg (by decide)]; rw [if_pos rfl]; exact Rnx hB_182 dX7_thesis_36 rfl
    · have e : x = 7 := Int32.toInt_inj.mp (y.trans rfl)
      subst e
      rw [if_neg (by decide)]; rw [if_neg (by decide)]; rw [if_neg (by decide)]; rw [if_neg (by decide)]; rw [if_neg (by decide)]; rw [if_neg (by decide)]; rw [if_neg (by decide)]; rw [if_pos rfl]; exact Rnx hB_182 dX7_thesis_36 rfl
    · have e : x = 8 := Int32.toInt_inj.mp (y.trans rfl)
      subst e
      rw [if_neg (by decide)]; rw [if_neg (by decide)]; rw [if_neg (by decide)]; rw [if_neg (by decide)]; rw [if_neg (by decide)]; rw [if_neg (by decide)]; rw [if_neg (by decide)]; rw [if_neg (by decide)]; rw [if_pos rfl]; exact Rnx hB_182 dX7_thesis_36 rfl
    · have e : x = 9 := Int32.toInt_inj.mp (y.trans rfl)
      subst e
      rw [if_neg (by decide)]; rw [if_neg (by decide)]; rw [if_neg (by decide)]; rw [if_neg (by decide)]; rw [if_neg (by decide)]; rw [if_neg (by decide)]; rw [if_neg (by decide)]; rw [if_neg (by decide)]; rw [if_neg (by decide)]; rw [if_pos rfl]; exact Rnx hB_182 dX7_thesis_36 rfl
theorem v182_92 {d : Nat} {st : List MV} {h : Hp} {x : Option A3} {a1 a2 : Option MV} : Ev d 182 92 [some (vO x), a1, a2] st h = Ev d 182 93 [some (vO x), a1, a2] (vO x :: st) h := Rnx (hB_182) (dX7_thesis_92) rfl
set_option maxRecDepth 100000 in
theorem v182_93 {d : Nat} {ls : LS3} {st : List MV} {h : Hp} {a : A3} (hS : gS h a = (1, 7)) : Ev d 182 93 ls (vR a :: st) h = Ev d 182 96 ls (vO (gR h a 9) :: st) h := Rget hB_182 dX7_thesis_93 rfl (Or.inl hS)
theorem v182_96 {d : Nat} {st : List MV} {h : Hp} {x : Int32} {a0 a2 : Option MV} : Ev d 182 96 [a0, some (vI x), a2] st h = Ev d 182 97 [a0, some (vI x), a2] (vI x :: st) h := Rnx (hB_182) (dX7_thesis_96) rfl
theorem v182_97 {d : Nat} {ls : LS3} {st : List MV} {h : Hp} {a : A3} {j : Int32} (hS : (gS h a).1 ∈ [2, 9]) (hj : inB j (gS h a).2) : Ev d 182 97 ls (vI j :: vR a :: st) h = Ev d 182 98 ls (vI (gI h a j.toNatClampNeg) :: st) h := Rald (ks := [2, 9]) (f := fun a j => vI (gI h a j)) hB_182 dX7_thesis_97 rfl hS hj
theorem v182_98 {d : Nat} {ls : LS3} {h : Hp} {x : Int32} : Ev d 182 98 ls [vI x] h = some (.inl (some (vI x)), h) := Rdn hB_182 dX7_thesis_98 rfl
theorem v182_99 {d : Nat} {st : List MV} {h : Hp} {x : Option A3} {a1 a2 : Option MV} : Ev d 182 99 [some (vO x), a1, a2] st h = Ev d 182 100 [some (vO x), a1, a2] (vO x :: st) h := Rnx (hB_182) (dX7_thesis_99) rfl
set_option maxRecDepth 100000 in
theorem v182_100 {d : Nat} {ls : LS3} {st : List MV} {h : Hp} {a : A3} (hS : gS h a = (1, 7)) : Ev d 182 100 ls (vR a :: st) h = Ev d 182 103 ls (vO (gR h a 10) :: st) h := Rget hB_182 dX7_thesis_100 rfl (Or.inl hS)
theorem v182_103 {d : Nat} {st : List MV} {h : Hp} {x : Int32} {a0 a2 : Option MV} : Ev d 182 103 [a0, some (vI x), a2] st h = Ev d 182 104 [a0, some (vI x), a2] (vI x :: st) h := Rnx (hB_182) (dX7_thesis_103) rfl
theorem v182_104 {d : Nat} {ls : LS3} {st : List MV} {h : Hp} {a : A3} {j : Int32} (hS : (gS h a).1 ∈ [2, 9]) (hj : inB j (gS h a).2) : Ev d 182 104 ls (vI j :: vR a :: st) h = Ev d 182 105 ls (vI (gI h a j.toNatClampNeg) :: st) h := Rald (ks := [2, 9]) (f := fun a j => vI (gI h a j)) hB_182 dX7_thesis_104 rfl hS hj
theorem v182_105 {d : Nat} {ls : LS3} {h : Hp} {x : Int32} : Ev d 182 105 ls [vI x] h = some (.inl (some (vI x)), h) := Rdn hB_182 dX7_thesis_105 rfl
theorem v182_106 {d : Nat} {st : List MV} {h : Hp} {x : Option A3} {a1 a2 : Option MV} : Ev d 182 106 [some (vO x), a1, a2] st h = Ev d 182 107 [some (vO x), a1, a2] (vO x :: st) h := Rnx (hB_182) (dX7_thesis_106) rfl
set_option maxRecDepth 100000 in
theorem v182_107 {d : Nat} {ls : LS3} {st : List MV} {h : Hp} {a : A3} (hS : gS h a = (1, 7)) : Ev d 182 107 ls (vR a :: st) h = Ev d 182 110 ls (vO (gR h a 11) :: st) h := Rget hB_182 dX7_thesis_107 rfl (Or.inl hS)
theorem v182_110 {d : Nat} {st : List MV} {h : Hp} {x : Int32} {a0 a2 : Option MV} : Ev d 182 110 [a0, some (vI x), a2] st h = Ev d 182 111 [a0, some (vI x), a2] (vI x :: st) h := Rnx (hB_182) (dX7_thesis_110) rfl
theorem v182_111 {d : Nat} {ls : LS3} {st : List MV} {h : Hp} {a : A3} {j : Int32} (hS : (gS h a).1 ∈ [2, 9]) (hj : inB j (gS h a).2) : Ev d 182 111 ls (vI j :: vR a :: st) h = Ev d 182 112 ls (vI (gI h a j.toNatClampNeg) :: st) h := Rald (ks := [2, 9]) (f := fun a j => vI (gI h a j)) hB_182 dX7_thesis_111 rfl hS hj
theorem v182_112 {d : Nat} {ls : LS3} {h : Hp} {x : Int32} : Ev d 182 112 ls [vI x] h = some (.inl (some (vI x)), h) := Rdn hB_182 dX7_thesis_112 rfl
theorem v182_113 {d : Nat} {st : List MV} {h : Hp} {x : Option A3} {a1 a2 : Option MV} : Ev d 182 113 [some (vO x), a1, a2] st h = Ev d 182 114 [some (vO x), a1, a2] (vO x :: st) h := Rnx (hB_182) (dX7_thesis_113) rfl
set_option maxRecDepth 100000 in
theorem v182_114 {d : Nat} {ls : LS3} {st : List MV} {h : Hp} {a : A3} (hS : gS h a = (1, 7)) : Ev d 182 114 ls (vR a :: st) h = Ev d 182 117 ls (vO (gR h a 12) :: st) h := Rget hB_182 dX7_thesis_114 rfl (Or.inl hS)
theorem v182_117 {d : Nat} {st : List MV} {h : Hp} {x : Int32} {a0 a2 : Option MV} : Ev d 182 117 [a0, some (vI x), a2] st h = Ev d 182 118 [a0, some (vI x), a2] (vI x :: st) h := Rnx (hB_182) (dX7_thesis_117) rfl
theorem v182_118 {d : Nat} {ls : LS3} {st : List MV} {h : Hp} {a : A3} {j : Int32} (hS : (gS h a).1 ∈ [2, 9]) (hj : inB j (gS h a).2) : Ev d 182 118 ls (vI j :: vR a :: st) h = Ev d 182 119 ls (vI (gI h a j.toNatClampNeg) :: st) h := Rald (ks := [2, 9]) (f := fun a j => vI (gI h a j)) hB_182 dX7_thesis_118 rfl hS hj
theorem v182_119 {d : Nat} {ls : LS3} {h : Hp} {x : Int32} : Ev d 182 119 ls [vI x] h = some (.inl (some (vI x)), h) := Rdn hB_182 dX7_thesis_119 rfl
theorem v182_120 {d : Nat} {st : List MV} {h : Hp} {x : Option A3} {a1 a2 : Option MV} : Ev d 182 120 [some (vO x), a1, a2] st h = Ev d 182 121 [some (vO x), a1, a2] (vO x :: st) h := Rnx (hB_182) (dX7_thesis_120) rfl
set_option maxRecDepth 100000 in
theorem v182_121 {d : Nat} {ls : LS3} {st : List MV} {h : Hp} {a : A3} (hS : gS h a = (1, 7)) : Ev d 182 121 ls (vR a :: st) h = Ev d 182 124 ls (vO (gR h a 13) :: st) h := Rget hB_182 dX7_thesis_121 rfl (Or.inl hS)
theorem v182_124 {d : Nat} {st : List MV} {h : Hp} {x : Int32} {a0 a2 : Option MV} : Ev d 182 124 [a0, some (vI x), a2] st h = Ev d 182 125 [a0, some (vI x), a2] (vI x :: st) h := Rnx (hB_182) (dX7_thesis_124) rfl
theorem v182_125 {d : Nat} {ls : LS3} {st : List MV} {h : Hp} {a : A3} {j : Int32} (hS : (gS h a).1 ∈ [2, 9]) (hj : inB j (gS h a).2) : Ev d 182 125 ls (vI j :: vR a :: st) h = Ev d 182 126 ls (vI (gI h a j.toNatClampNeg) :: st) h := Rald (ks := [2, 9]) (f := fun a j => vI (gI h a j)) hB_182 dX7_thesis_125 rfl hS hj
theorem v182_126 {d : Nat} {ls : LS3} {h : Hp} {x : Int32} : Ev d 182 126 ls [vI x] h = some (.inl (some (vI x)), h) := Rdn hB_182 dX7_thesis_126 rfl
theorem v182_127 {d : Nat} {st : List MV} {h : Hp} {x : Option A3} {a1 a2 : Option MV} : Ev d 182 127 [some (vO x), a1, a2] st h = Ev d 182 128 [some (vO x), a1, a2] (vO x :: st) h := Rnx (hB_182) (dX7_thesis_127) rfl
set_option maxRecDepth 100000 in
theorem v182_128 {d : Nat} {ls : LS3} {st : List MV} {h : Hp} {a : A3} (hS : gS h a = (1, 7)) : Ev d 182 128 ls (vR a :: st) h = Ev d 182 131 ls (vO (gR h a 14) :: st) h := Rget hB_182 dX7_thesis_128 rfl (Or.inl hS)
theorem v182_131 {d : Nat} {st : List MV} {h : Hp} {x : Int32} {a0 a2 : Option MV} : Ev d 182 131 [a0, some (vI x), a2] st h = Ev d 182 132 [a0, some (vI x), a2] (vI x :: st) h := Rnx (hB_182) (dX7_thesis_131) rfl
theorem v182_132 {d : Nat} {ls : LS3} {st : List MV} {h : Hp} {a : A3} {j : Int32} (hS : (gS h a).1 ∈ [2, 9]) (hj : inB j (gS h a).2) : Ev d 182 132 ls (vI j :: vR a :: st) h = Ev d 182 133 ls (vI (gI h a j.toNatClampNeg) :: st) h := Rald (ks := [2, 9]) (f := fun a j => vI (gI h a j)) hB_182 dX7_thesis_132 rfl hS hj
theorem v182_133 {d : Nat} {ls : LS3} {h : Hp} {x : Int32} : Ev d 182 133 ls [vI x] h = some (.inl (some (vI x)), h) := Rdn hB_182 dX7_thesis_133 rfl
theorem v182_134 {d : Nat} {st : List MV} {h : Hp} {x : Option A3} {a1 a2 : Option MV} : Ev d 182 134 [some (vO x), a1, a2] st h = Ev d 182 135 [some (vO x), a1, a2] (vO x :: st) h := Rnx (hB_182) (dX7_thesis_134) rfl
set_option maxRecDepth 100000 in
theorem v182_135 {d : Nat} {ls : LS3} {st : List MV} {h : Hp} {a : A3} (hS : gS h a = (1, 7)) : Ev d 182 135 ls (vR a :: st) h = Ev d 182 138 ls (vO (gR h a 15) :: st) h := Rget hB_182 dX7_thesis_135 rfl (Or.inl hS)
theorem v182_138 {d : Nat} {st : List MV} {h : Hp} {x : Int32} {a0 a2 : Option MV} : Ev d 182 138 [a0, some (vI x), a2] st h = Ev d 182 139 [a0, some (vI x), a2] (vI x :: st) h := Rnx (hB_182) (dX7_thesis_138) rfl
theorem v182_139 {d : Nat} {ls : LS3} {st : List MV} {h : Hp} {a : A3} {j : Int32} (hS : (gS h a).1 ∈ [2, 9]) (hj : inB j (gS h a).2) : Ev d 182 139 ls (vI j :: vR a :: st) h = Ev d 182 140 ls (vI (gI h a j.toNatClampNeg) :: st) h := Rald (ks := [2, 9]) (f := fun a j => vI (gI h a j)) hB_182 dX7_thesis_139 rfl hS hj
theorem v182_140 {d : Nat} {ls : LS3} {h : Hp} {x : Int32} : Ev d 182 140 ls [vI x] h = some (.inl (some (vI x)), h) := Rdn hB_182 dX7_thesis_140 rfl
theorem v182_141 {d : Nat} {st : List MV} {h : Hp} {x : Option A3} {a1 a2 : Option MV} : Ev d 182 141 [some (vO x), a1, a2] st h = Ev d 182 142 [some (vO x), a1, a2] (vO x :: st) h := Rnx (hB_182) (dX7_thesis_141) rfl
set_option maxRecDepth 100000 in
theorem v182_142 {d : Nat} {ls : LS3} {st : List MV} {h : Hp} {a : A3} (hS : gS h a = (1, 7)) : Ev d 182 142 ls (vR a :: st) h = Ev d 182 145 ls (vO (gR h a 16) :: st) h := Rget hB_182 dX7_thesis_142 rfl (Or.inl hS)
theorem v182_145 {d : Nat} {st : List MV} {h : Hp} {x : Int32} {a0 a2 : Option MV} : Ev d 182 145 [a0, some (vI x), a2] st h = Ev d 182 146 [a0, some (vI x), a2] (vI x :: st) h := Rnx (hB_182) (dX7_thesis_145) rfl
theorem v182_146 {d : Nat} {ls : LS3} {st : List MV} {h : Hp} {a : A3} {j : Int32} (hS : (gS h a).1 ∈ [2, 9]) (hj : inB j (gS h a).2) : Ev d 182 146 ls (vI j :: vR a :: st) h = Ev d 182 147 ls (vI (gI h a j.toNatClampNeg) :: st) h := Rald (ks := [2, 9]) (f := fun a j => vI (gI h a j)) hB_182 dX7_thesis_146 rfl hS hj
theorem v182_147 {d : Nat} {ls : LS3} {h : Hp} {x : Int32} : Ev d 182 147 ls [vI x] h = some (.inl (some (vI x)), h) := Rdn hB_182 dX7_thesis_147 rfl
theorem v182_148 {d : Nat} {st : List MV} {h : Hp} {x : Option A3} {a1 a2 : Option MV} : Ev d 182 148 [some (vO x), a1, a2] st h = Ev d 182 149 [some (vO x), a1, a2] (vO x :: st) h := Rnx (hB_182) (dX7_thesis_148) rfl
set_option maxRecDepth 100000 in
theorem v182_149 {d : Nat} {ls : LS3} {st : List MV} {h : Hp} {a : A3} (hS : gS h a = (1, 7)) : Ev d 182 149 ls (vR a :: st) h = Ev d 182 152 ls (vO (gR h a 17) :: st) h := Rget hB_182 dX7_thesis_149 rfl (Or.inl hS)
theorem v182_152 {d : Nat} {st : List MV} {h : Hp} {x : Int32} {a0 a2 : Option MV} : Ev d 182 152 [a0, some (vI x), a2] st h = Ev d 182 153 [a0, some (vI x), a2] (vI x :: st) h := Rnx (hB_182) (dX7_thesis_152) rfl
theorem v182_153 {d : Nat} {ls : LS3} {st : List MV} {h : Hp} {a : A3} {j : Int32} (hS : (gS h a).1 ∈ [2, 9]) (hj : inB j (gS h a).2) : Ev d 182 153 ls (vI j :: vR a :: st) h = Ev d 182 154 ls (vI (gI h a j.toNatClampNeg) :: st) h := Rald (ks := [2, 9]) (f := fun a j => vI (gI h a j)) hB_182 dX7_thesis_153 rfl hS hj
theorem v182_154 {d : Nat} {ls : LS3} {h : Hp} {x : Int32} : Ev d 182 154 ls [vI x] h = some (.inl (some (vI x)), h) := Rdn hB_182 dX7_thesis_154 rfl
theorem v182_155 {d : Nat} {st : List MV} {h : Hp} {x : Option A3} {a1 a2 : Option MV} : Ev d 182 155 [some (vO x), a1, a2] st h = Ev d 182 156 [some (vO x), a1, a2] (vO x :: st) h := Rnx (hB_182) (dX7_thesis_155) rfl
theorem v182_156 {d : Nat} {st : List MV} {h : Hp} {x : Int32} {a0 a2 : Option MV} : Ev d 182 156 [a0, some (vI x), a2] st h = Ev d 182 157 [a0, some (vI x), a2] (vI x :: st) h := Rnx (hB_182) (dX7_thesis_156) rfl
set_option maxRecDepth 100000 in
theorem v182_157 {d : Nat} {ls : LS3} {st : List MV} {h : Hp} {a : A3} {x0 : Int32} (hS : gS h a = (1, 7)) (hc : catS st ≤ 8) : Ev (d + 1) 182 157 ls (vI x0 :: vR a :: st) h = Evk 181 (d + 1) 182 157 ls st (Ev d 181 0 [some (vR a), some (vI x0), none] [] h) := RcallO (idx := 205) (n := 1) (kd := 0) (As' := [vI x0]) hB_182 dX7_thesis_157 rfl rfl (by decide) rfl rfl (Or.inl hS) rfl hc
theorem v182_160 {d : Nat} {ls : LS3} {st : List MV} {h : Hp} {x : Int32} : Ev d 182 160 ls (vI x :: st) h = if 0 ≤ x then Ev d 182 167 ls st h else Ev d 182 163 ls st h := Rif hB_182 dX7_thesis_160 rfl
theorem v182_163 {d : Nat} {ls : LS3} {st : List MV} {h : Hp} : Ev d 182 163 ls st h = Ev d 182 164 ls (vI 0 :: st) h := Rnx (hB_182) (dX7_thesis_163) rfl
theorem v182_164 {d : Nat} {ls : LS3} {st : List MV} {h : Hp} : Ev d 182 164 ls st h = Ev d 182 168 ls st h := Rnx (hB_182) (dX7_thesis_164) rfl
theorem v182_167 {d : Nat} {ls : LS3} {st : List MV} {h : Hp} : Ev d 182 167 ls st h = Ev d 182 168 ls (vI 1 :: st) h := Rnx (hB_182) (dX7_thesis_167) rfl
theorem v182_168 {d : Nat} {ls : LS3} {h : Hp} {x : Int32} : Ev d 182 168 ls [vI x] h = some (.inl (some (vI x)), h) := Rdn hB_182 dX7_thesis_168 rfl
theorem v182_169 {d : Nat} {st : List MV} {h : Hp} {x : Option A3} {a1 a2 : Option MV} : Ev d 182 169 [some (vO x), a1, a2] st h = Ev d 182 170 [some (vO x), a1, a2] (vO x :: st) h := Rnx (hB_182) (dX7_thesis_169) rfl
theorem v182_170 {d : Nat} {st : List MV} {h : Hp} {x : Int32} {a0 a2 : Option MV} : Ev d 182 170 [a0, some (vI x), a2] st h = Ev d 182 171 [a0, some (vI x), a2] (vI x :: st) h := Rnx (hB_182) (dX7_thesis_170) rfl
set_option maxRecDepth 100000 in
theorem v182_171 {d : Nat} {ls : LS3} {st : List MV} {h : Hp} {a : A3} {x0 : Int32} (hS : gS h a = (1, 7)) (hc : catS st ≤ 8) : Ev (d + 1) 182 171 ls (vI x0 :: vR a :: st) h = Evk 154 (d + 1) 182 171 ls st (Ev d 154 0 [some (vR a), some (vI x0)] [] h) := RcallO (idx := 132) (n := 1) (kd := 0) (As' := [vI x0]) hB_182 dX7_thesis_171 rfl rfl (by decide) rfl rfl (Or.inl hS) rfl hc
theorem v182_174 {d : Nat} {ls : LS3} {h : Hp} {x : Int32} : Ev d 182 174 ls [vI x] h = some (.inl (some (vI x)), h) := Rdn hB_182 dX7_thesis_174 rfl
theorem hB_183 : mB 183 = cX7_refusal := rfl
theorem v183_0 {d : Nat} {st : List MV} {h : Hp} {x : Option A3} {a1 a2 : Option MV} : Ev d 183 0 [some (vO x), a1, a2] st h = Ev d 183 1 [some (vO x), a1, a2] (vO x :: st) h := Rnx (hB_183) (dX7_refusal_0) rfl
theorem v183_1 {d : Nat} {st : List MV} {h : Hp} {x : Int32} {a0 a2 : Option MV} : Ev d 183 1 [a0, some (vI x), a2] st h = Ev d 183 2 [a0, some (vI x), a2] (vI x :: st) h := Rnx (hB_183) (dX7_refusal_1) rfl
set_option maxRecDepth 100000 in
theorem v183_2 {d : Nat} {ls : LS3} {st : List MV} {h : Hp} {a : A3} {x : Int32} (hS : gS h a = (1, 7)) : Ev d 183 2 ls (vI x :: vR a :: st) h = Ev d 183 5 ls st (sI h a 22 x) := RputI hB_183 dX7_refusal_2 rfl rfl (by decide) hS (Or.inl rfl)
theorem v183_5 {d : Nat} {st : List MV} {h : Hp} {x : Option A3} {a1 a2 : Option MV} : Ev d 183 5 [some (vO x), a1, a2] st h = Ev d 183 6 [some (vO x), a1, a2] (vO x :: st) h := Rnx (hB_183) (dX7_refusal_5) rfl
theorem v183_6 {d : Nat} {st : List MV} {h : Hp} {x : Int32} {a0 a1 : Option MV} : Ev d 183 6 [a0, a1, some (vI x)] st h = Ev d 183 7 [a0, a1, some (vI x)] (vI x :: st) h := Rnx (hB_183) (dX7_refusal_6) rfl
set_option maxRecDepth 100000 in
theorem v183_7 {d : Nat} {ls : LS3} {st : List MV} {h : Hp} {a : A3} {x0 : Int32} (hS : gS h a = (1, 7)) (hc : catS st ≤ 8) : Ev (d + 1) 183 7 ls (vI x0 :: vR a :: st) h = Evk 141 (d + 1) 183 7 ls st (Ev d 141 0 [some (vR a), some (vI x0)] [] h) := RcallO (idx := 168) (n := 1) (kd := 0) (As' := [vI x0]) hB_183 dX7_refusal_7 rfl rfl (by decide) rfl rfl (Or.inl hS) rfl hc
theorem v183_10 {d : Nat} {ls : LS3} {h : Hp} {x : Int32} : Ev d 183 10 ls [vI x] h = some (.inl (some (vI x)), h) := Rdn hB_183 dX7_refusal_10 rfl
theorem hB_184 : mB 184 = cX7_join := rfl
theorem v184_0 {d : Nat} {st : List MV} {h : Hp} {x : Option A3} {a1 a2 a3 : Option MV} : Ev d 184 0 [some (vO x), a1, a2, a3] st h = Ev d 184 1 [some (vO x), a1, a2, a3] (vO x :: st) h := Rnx (hB_184) (dX7_join_0) rfl
theorem v184_1 {d : Nat} {st : List MV} {h : Hp} {x : Int32} {a0 a2 a3 : Option MV} : Ev d 184 1 [a0, some (vI x), a2, a3] st h = Ev d 184 2 [a0, some (vI x), a2, a3] (vI x :: st) h := Rnx (hB_184) (dX7_join_1) rfl
set_option maxRecDepth 100000 in
theorem v184_2 {d : Nat} {ls : LS3} {st : List MV} {h : Hp} {a : A3} {x0 : Int32} (hS : gS h a = (1, 7)) (hc : catS st ≤ 8) : Ev (d + 1) 184 2 ls (vI x0 :: vR a :: st) h = Evk 149 (d + 1) 184 2 ls st (Ev d 149 0 [some (vR a), some (vI x0)] [] h) := RcallO (idx := 202) (n := 1) (kd := 0) (As' := [vI x0]) hB_184 dX7_join_2 rfl rfl (by decide) rfl rfl (Or.inl hS) rfl hc
theorem v184_5 {d : Nat} {ls : LS3} {st : List MV} {h : Hp} {x : Int32} : Ev d 184 5 ls (vI x :: st) h = if x = 0 then Ev d 184 16 ls st h else Ev d 184 8 ls st h := Rif hB_184 dX7_join_5 rfl
theorem v184_8 {d : Nat} {st : List MV} {h : Hp} {x : Option A3} {a1 a2 a3 : Option MV} : Ev d 184 8 [some (vO x), a1, a2, a3] st h = Ev d 184 9 [some (vO x), a1, a2, a3] (vO x :: st) h := Rnx (hB_184) (dX7_join_8) rfl
theorem v184_9 {d : Nat} {st : List MV} {h : Hp} {x : Int32} {a0 a1 a3 : Option MV} : Ev d 184 9 [a0, a1, some (vI x), a3] st h = Ev d 184 10 [a0, a1, some (vI x), a3] (vI x :: st) h := Rnx (hB_184) (dX7_join_9) rfl
set_option maxRecDepth 100000 in
theorem v184_10 {d : Nat} {ls : LS3} {st : List MV} {h : Hp} {a : A3} {x0 : Int32} (hS : gS h a = (1, 7)) (hc : catS st ≤ 8) : Ev (d + 1) 184 10 ls (vI x0 :: vR a :: st) h = Evk 145 (d + 1) 184 10 ls st (Ev d 145 0 [some (vR a), some (vI x0)] [] h) := RcallO (idx := 174) (n := 1) (kd := 0) (As' := [vI x0]) hB_184 dX7_join_10 rfl rfl (by decide) rfl rfl (Or.inl hS) rfl hc
theorem v184_13 {d : Nat} {ls : LS3} {st : List MV} {h : Hp} {x : Int32} : Ev d 184 13 ls (vI x :: st) h = if x = 0 then Ev d 184 16 ls st h else Ev d 184 22 ls st h := Rifn hB_184 dX7_join_13 rfl
theorem v184_16 {d : Nat} {st : List MV} {h : Hp} {x : Option A3} {a1 a2 a3 : Option MV} : Ev d 184 16 [some (vO x), a1, a2, a3] st h = Ev d 184 17 [some (vO x), a1, a2, a3] (vO x :: st) h := Rnx (hB_184) (dX7_join_16) rfl
theorem v184_17 {d : Nat} {ls : LS3} {st : List MV} {h : Hp} : Ev d 184 17 ls st h = Ev d 184 18 ls (vI 1 :: st) h := Rnx (hB_184) (dX7_join_17) rfl
set_option maxRecDepth 100000 in
theorem v184_18 {d : Nat} {ls : LS3} {st : List MV} {h : Hp} {a : A3} {x0 : Int32} (hS : gS h a = (1, 7)) (hc : catS st ≤ 8) : Ev (d + 1) 184 18 ls (vI x0 :: vR a :: st) h = Evk 141 (d + 1) 184 18 ls st (Ev d 141 0 [some (vR a), some (vI x0)] [] h) := RcallO (idx := 168) (n := 1) (kd := 0) (As' := [vI x0]) hB_184 dX7_join_18 rfl rfl (by decide) rfl rfl (Or.inl hS) rfl hc
theorem v184_21 {d : Nat} {ls : LS3} {h : Hp} {x : Int32} : Ev d 184 21 ls [vI x] h = some (.inl (some (vI x)), h) := Rdn hB_184 dX7_join_21 rfl
theorem v184_22 {d : Nat} {st : List MV} {h : Hp} {x : Option A3} {a1 a2 a3 : Option MV} : Ev d 184 22 [some (vO x), a1, a2, a3] st h = Ev d 184 23 [some (vO x), a1, a2, a3] (vO x :: st) h := Rnx (hB_184) (dX7_join_22) rfl
theorem v184_23 {d : Nat} {st : List MV} {h : Hp} {x : Int32} {a0 a2 a3 : Option MV} : Ev d 184 23 [a0, some (vI x), a2, a3] st h = Ev d 184 24 [a0, some (vI x), a2, a3] (vI x :: st) h := Rnx (hB_184) (dX7_join_23) rfl
theorem v184_24 {d : Nat} {st : List MV} {h : Hp} {x : Int32} {a0 a1 a3 : Option MV} : Ev d 184 24 [a0, a1, some (vI x), a3] st h = Ev d 184 25 [a0, a1, some (vI x), a3] (vI x :: st) h := Rnx (hB_184) (dX7_join_24) rfl
theorem v184_25 {d : Nat} {st : List MV} {h : Hp} {x : Option A3} {a1 a2 a3 : Option MV} : Ev d 184 25 [some (vO x), a1, a2, a3] st h = Ev d 184 26 [some (vO x), a1, a2, a3] (vO x :: st) h := Rnx (hB_184) (dX7_join_25) rfl
set_option maxRecDepth 100000 in
theorem v184_26 {d : Nat} {ls : LS3} {st : List MV} {h : Hp} {a : A3} (hS : gS h a = (1, 7)) : Ev d 184 26 ls (vR a :: st) h = Ev d 184 29 ls (vO (gR h a 14) :: st) h := Rget hB_184 dX7_join_26 rfl (Or.inl hS)
theorem v184_29 {d : Nat} {st : List MV} {h : Hp} {x : Int32} {a0 a2 a3 : Option MV} : Ev d 184 29 [a0, some (vI x), a2, a3] st h = Ev d 184 30 [a0, some (vI x), a2, a3] (vI x :: st) h := Rnx (hB_184) (dX7_join_29) rfl
theorem v184_30 {d : Nat} {ls : LS3} {st : List MV} {h : Hp} {a : A3} {j : Int32} (hS : (gS h a).1 ∈ [2, 9]) (hj : inB j (gS h a).2) : Ev d 184 30 ls (vI j :: vR a :: st) h = Ev d 184 31 ls (vI (gI h a j.toNatClampNeg) :: st) h := Rald (ks := [2, 9]) (f := fun a j => vI (gI h a j)) hB_184 dX7_join_30 rfl hS hj
set_option maxRecDepth 100000 in
theorem v184_31 {d : Nat} {ls : LS3} {st : List MV} {h : Hp} {a : A3} {x0 : Int32} {x1 : Int32} {x2 : Int32} (hS : gS h a = (1, 7)) (hc : catS st ≤ 8) : Ev (d + 1) 184 31 ls (vI x2 :: vI x1 :: vI x0 :: vR a :: st) h = Evk 160 (d + 1) 184 31 ls st (Ev d 160 0 [some (vR a), some (vI x0), some (vI x1), some (vI x2)] [] h) := RcallO (idx := 211) (n := 3) (kd := 0) (As' := [vI x0, vI x1, vI x2]) hB_184 dX7_join_31 rfl rfl (by decide) rfl rfl (Or.inl hS) rfl hc
theorem v184_34 {d : Nat} {st : List MV} {h : Hp} {x : Int32} {a0 a1 a2 a3 : Option MV} : Ev d 184 34 [a0, a1, a2, a3] (vI x :: st) h = Ev d 184 35 [a0, a1, a2, some (vI x)] st h := Rnx (hB_184) (dX7_join_34) rfl
theorem v184_35 {d : Nat} {st : List MV} {h : Hp} {x : Int32} {a0 a1 a2 : Option MV} : Ev d 184 35 [a0, a1, a2, some (vI x)] st h = Ev d 184 36 [a0, a1, a2, some (vI x)] (vI x :: st) h := Rnx (hB_184) (dX7_join_35) rfl
theorem v184_36 {d : Nat} {ls : LS3} {st : List MV} {h : Hp} {x : Int32} : Ev d 184 36 ls (vI x :: st) h = if x ≤ 0 then Ev d 184 46 ls st h else Ev d 184 39 ls st h := Rif hB_184 dX7_join_36 rfl
theorem v184_39 {d : Nat} {st : List MV} {h : Hp} {x : Option A3} {a1 a2 a3 : Option MV} : Ev d 184 39 [some (vO x), a1, a2, a3] st h = Ev d 184 40 [some (vO x), a1, a2, a3] (vO x :: st) h := Rnx (hB_184) (dX7_join_39) rfl
theorem v184_40 {d : Nat} {st : List MV} {h : Hp} {x : Int32} {a0 a1 a2 : Option MV} : Ev d 184 40 [a0, a1, a2, some (vI x)] st h = Ev d 184 41 [a0, a1, a2, some (vI x)] (vI x :: st) h := Rnx (hB_184) (dX7_join_40) rfl
theorem v184_41 {d : Nat} {ls : LS3} {st : List MV} {h : Hp} : Ev d 184 41 ls st h = Ev d 184 42 ls (vI 2 :: st) h := Rnx (hB_184) (dX7_join_41) rfl
set_option maxRecDepth 100000 in
theorem v184_42 {d : Nat} {ls : LS3} {st : List MV} {h : Hp} {a : A3} {x0 : Int32} {x1 : Int32} (hS : gS h a = (1, 7)) (hc : catS st ≤ 8) : Ev (d + 1) 184 42 ls (vI x1 :: vI x0 :: vR a :: st) h = Evk 183 (d + 1) 184 42 ls st (Ev d 183 0 [some (vR a), some (vI x0), some (vI x1)] [] h) := RcallO (idx := 214) (n := 2) (kd := 0) (As' := [vI x0, vI x1]) hB_184 dX7_join_42 rfl rfl (by decide) rfl rfl (Or.inl hS) rfl hc
theorem v184_45 {d : Nat} {ls : LS3} {h : Hp} {x : Int32} : Ev d 184 45 ls [vI x] h = some (.inl (some (vI x)), h) := Rdn hB_184 dX7_join_45 rfl
theorem v184_46 {d : Nat} {st : List MV} {h : Hp} {x : Option A3} {a1 a2 a3 : Option MV} : Ev d 184 46 [some (vO x), a1, a2, a3] st h = Ev d 184 47 [some (vO x), a1, a2, a3] (vO x :: st) h := Rnx (hB_184) (dX7_join_46) rfl
theorem v184_47 {d : Nat} {ls : LS3} {st : List MV} {h : Hp} : Ev d 184 47 ls st h = Ev d 184 48 ls (vI 0 :: st) h := Rnx (hB_184) (dX7_join_47) rfl
set_option maxRecDepth 100000 in
theorem v184_48 {d : Nat} {ls : LS3} {st : List MV} {h : Hp} {a : A3} {x : Int32} (hS : gS h a = (1, 7)) : Ev d 184 48 ls (vI x :: vR a :: st) h = Ev d 184 51 ls st (sI h a 0 x) := RputI hB_184 dX7_join_48 rfl rfl (by decide) hS (Or.inl rfl)
theorem v184_51 {d : Nat} {st : List MV} {h : Hp} {x : Option A3} {a1 a2 a3 : Option MV} : Ev d 184 51 [some (vO x), a1, a2, a3] st h = Ev d 184 52 [some (vO x), a1, a2, a3] (vO x :: st) h := Rnx (hB_184) (dX7_join_51) rfl
set_option maxRecDepth 100000 in
theorem v184_52 {d : Nat} {ls : LS3} {st : List MV} {h : Hp} {a : A3}  (hS : gS h a = (1, 7)) (hc : catS st ≤ 8) : Ev (d + 1) 184 52 ls (vR a :: st) h = Evk 230 (d + 1) 184 52 ls st (Ev d 230 0 [some (vR a)] [] h) := RcallO (idx := 171) (n := 0) (kd := 0) (As' := []) hB_184 dX7_join_52 rfl rfl (by decide) rfl rfl (Or.inl hS) rfl hc
theorem v184_55 {d : Nat} {st : List MV} {h : Hp} {x : Option A3} {a1 a2 a3 : Option MV} : Ev d 184 55 [some (vO x), a1, a2, a3] st h = Ev d 184 56 [some (vO x), a1, a2, a3] (vO x :: st) h := Rnx (hB_184) (dX7_join_55) rfl
set_option maxRecDepth 100000 in
theorem v184_56 {d : Nat} {ls : LS3} {st : List MV} {h : Hp} {a : A3} (hS : gS h a = (1, 7)) : Ev d 184 56 ls (vR a :: st) h = Ev d 184 59 ls (vO (gR h a 14) :: st) h := Rget hB_184 dX7_join_56 rfl (Or.inl hS)
theorem v184_59 {d : Nat} {st : List MV} {h : Hp} {x : Int32} {a0 a2 a3 : Option MV} : Ev d 184 59 [a0, some (vI x), a2, a3] st h = Ev d 184 60 [a0, some (vI x), a2, a3] (vI x :: st) h := Rnx (hB_184) (dX7_join_59) rfl
theorem v184_60 {d : Nat} {ls : LS3} {st : List MV} {h : Hp} {v w : MV} (hv : cat1 v = true) (hw : cat1 w = true) : Ev d 184 60 ls (v :: w :: st) h = Ev d 184 61 ls (v :: w :: v :: w :: st) h := Rdup2 hB_184 dX7_join_60 hv hw
theorem v184_61 {d : Nat} {ls : LS3} {st : List MV} {h : Hp} {a : A3} {j : Int32} (hS : (gS h a).1 ∈ [2, 9]) (hj : inB j (gS h a).2) : Ev d 184 61 ls (vI j :: vR a :: st) h = Ev d 184 62 ls (vI (gI h a j.toNatClampNeg) :: st) h := Rald (ks := [2, 9]) (f := fun a j => vI (gI h a j)) hB_184 dX7_join_61 rfl hS hj
theorem v184_62 {d : Nat} {ls : LS3} {st : List MV} {h : Hp} : Ev d 184 62 ls st h = Ev d 184 63 ls (vI 1 :: st) h := Rnx (hB_184) (dX7_join_62) rfl
theorem v184_63 {d : Nat} {st : List MV} {h : Hp} {x : Int32} {a0 a1 a3 : Option MV} : Ev d 184 63 [a0, a1, some (vI x), a3] st h = Ev d 184 64 [a0, a1, some (vI x), a3] (vI x :: st) h := Rnx (hB_184) (dX7_join_63) rfl
theorem v184_64 {d : Nat} {ls : LS3} {st : List MV} {h : Hp} {x y : Int32} : Ev d 184 64 ls (vI y :: vI x :: st) h = Ev d 184 65 ls (vI (x <<< (y &&& 31)) :: st) h := Rnx (hB_184) (dX7_join_64) rfl
theorem v184_65 {d : Nat} {ls : LS3} {st : List MV} {h : Hp} {x y : Int32} : Ev d 184 65 ls (vI y :: vI x :: st) h = Ev d 184 66 ls (vI (x ||| y) :: st) h := Rnx (hB_184) (dX7_join_65) rfl
theorem v184_66 {d : Nat} {ls : LS3} {st : List MV} {h : Hp} {a : A3} {j : Int32} {x : Int32} (hS : (gS h a).1 = 2) (hj : inB j (gS h a).2) : Ev d 184 66 ls (vI x :: vI j :: vR a :: st) h = Ev d 184 67 ls st (sI h a j.toNatClampNeg x) := RastI hB_184 dX7_join_66 hS hj
theorem v184_67 {d : Nat} {st : List MV} {h : Hp} {x : Option A3} {a1 a2 a3 : Option MV} : Ev d 184 67 [some (vO x), a1, a2, a3] st h = Ev d 184 68 [some (vO x), a1, a2, a3] (vO x :: st) h := Rnx (hB_184) (dX7_join_67) rfl
set_option maxRecDepth 100000 in
theorem v184_68 {d : Nat} {ls : LS3} {st : List MV} {h : Hp} {a : A3} (hS : gS h a = (1, 7)) : Ev d 184 68 ls (vR a :: st) h = Ev d 184 71 ls (vO (gR h a 14) :: st) h := Rget hB_184 dX7_join_68 rfl (Or.inl hS)
theorem v184_71 {d : Nat} {st : List MV} {h : Hp} {x : Int32} {a0 a2 a3 : Option MV} : Ev d 184 71 [a0, some (vI x), a2, a3] st h = Ev d 184 72 [a0, some (vI x), a2, a3] (vI x :: st) h := Rnx (hB_184) (dX7_join_71) rfl
theorem v184_72 {d : Nat} {ls : LS3} {st : List MV} {h : Hp} {a : A3} {j : Int32} (hS : (gS h a).1 ∈ [2, 9]) (hj : inB j (gS h a).2) : Ev d 184 72 ls (vI j :: vR a :: st) h = Ev d 184 73 ls (vI (gI h a j.toNatClampNeg) :: st) h := Rald (ks := [2, 9]) (f := fun a j => vI (gI h a j)) hB_184 dX7_join_72 rfl hS hj
set_option maxRecDepth 100000 in
theorem v184_73 {d : Nat} {ls : LS3} {st : List MV} {h : Hp} {x0 : Int32} (hc : catS st ≤ 8) : Ev (d + 1) 184 73 ls (vI x0 :: st) h = Evk 144 (d + 1) 184 73 ls st (Ev d 144 0 [some (vI x0), none, none] [] h) := RcallS (idx := 129) (n := 1) (kd := 1) (As := [vI x0]) hB_184 dX7_join_73 rfl rfl (by decide) rfl rfl rfl hc
theorem v184_76 {d : Nat} {ls : LS3} {h : Hp} {x : Int32} : Ev d 184 76 ls [vI x] h = some (.inl (some (vI x)), h) := Rdn hB_184 dX7_join_76 rfl
theorem hB_185 : mB 185 = cX7_leave := rfl
theorem v185_0 {d : Nat} {st : List MV} {h : Hp} {x : Option A3} {a1 a2 : Option MV} : Ev d 185 0 [some (vO x), a1, a2] st h = Ev d 185 1 [some (vO x), a1, a2] (vO x :: st) h := Rnx (hB_185) (dX7_leave_0) rfl
theorem v185_1 {d : Nat} {st : List MV} {h : Hp} {x : Int32} {a0 a2 : Option MV} : Ev d 185 1 [a0, some (vI x), a2] st h = Ev d 185 2 [a0, some (vI x), a2] (vI x :: st) h := Rnx (hB_185) (dX7_leave_1) rfl
set_option maxRecDepth 100000 in
theorem v185_2 {d : Nat} {ls : LS3} {st : List MV} {h : Hp} {a : A3} {x0 : Int32} (hS : gS h a = (1, 7)) (hc : catS st ≤ 8) : Ev (d + 1) 185 2 ls (vI x0 :: vR a :: st) h = Evk 149 (d + 1) 185 2 ls st (Ev d 149 0 [some (vR a), some (vI x0)] [] h) := RcallO (idx := 202) (n := 1) (kd := 0) (As' := [vI x0]) hB_185 dX7_leave_2 rfl rfl (by decide) rfl rfl (Or.inl hS) rfl hc
theorem v185_5 {d : Nat} {ls : LS3} {st : List MV} {h : Hp} {x : Int32} : Ev d 185 5 ls (vI x :: st) h = if x = 0 then Ev d 185 16 ls st h else Ev d 185 8 ls st h := Rif hB_185 dX7_leave_5 rfl
theorem v185_8 {d : Nat} {st : List MV} {h : Hp} {x : Option A3} {a1 a2 : Option MV} : Ev d 185 8 [some (vO x), a1, a2] st h = Ev d 185 9 [some (vO x), a1, a2] (vO x :: st) h := Rnx (hB_185) (dX7_leave_8) rfl
theorem v185_9 {d : Nat} {st : List MV} {h : Hp} {x : Int32} {a0 a1 : Option MV} : Ev d 185 9 [a0, a1, some (vI x)] st h = Ev d 185 10 [a0, a1, some (vI x)] (vI x :: st) h := Rnx (hB_185) (dX7_leave_9) rfl
set_option maxRecDepth 100000 in
theorem v185_10 {d : Nat} {ls : LS3} {st : List MV} {h : Hp} {a : A3} {x0 : Int32} (hS : gS h a = (1, 7)) (hc : catS st ≤ 8) : Ev (d + 1) 185 10 ls (vI x0 :: vR a :: st) h = Evk 145 (d + 1) 185 10 ls st (Ev d 145 0 [some (vR a), some (vI x0)] [] h) := RcallO (idx := 174) (n := 1) (kd := 0) (As' := [vI x0]) hB_185 dX7_leave_10 rfl rfl (by decide) rfl rfl (Or.inl hS) rfl hc
theorem v185_13 {d : Nat} {ls : LS3} {st : List MV} {h : Hp} {x : Int32} : Ev d 185 13 ls (vI x :: st) h = if x = 0 then Ev d 185 16 ls st h else Ev d 185 22 ls st h := Rifn hB_185 dX7_leave_13 rfl
theorem v185_16 {d : Nat} {st : List MV} {h : Hp} {x : Option A3} {a1 a2 : Option MV} : Ev d 185 16 [some (vO x), a1, a2] st h = Ev d 185 17 [some (vO x), a1, a2] (vO x :: st) h := Rnx (hB_185) (dX7_leave_16) rfl
theorem v185_17 {d : Nat} {ls : LS3} {st : List MV} {h : Hp} : Ev d 185 17 ls st h = Ev d 185 18 ls (vI 1 :: st) h := Rnx (hB_185) (dX7_leave_17) rfl
set_option maxRecDepth 100000 in
theorem v185_18 {d : Nat} {ls : LS3} {st : List MV} {h : Hp} {a : A3} {x0 : Int32} (hS : gS h a = (1, 7)) (hc : catS st ≤ 8) : Ev (d + 1) 185 18 ls (vI x0 :: vR a :: st) h = Evk 141 (d + 1) 185 18 ls st (Ev d 141 0 [some (vR a), some (vI x0)] [] h) := RcallO (idx := 168) (n := 1) (kd := 0) (As' := [vI x0]) hB_185 dX7_leave_18 rfl rfl (by decide) rfl rfl (Or.inl hS) rfl hc
theorem v185_21 {d : Nat} {ls : LS3} {h : Hp} {x : Int32} : Ev d 185 21 ls [vI x] h = some (.inl (some (vI x)), h) := Rdn hB_185 dX7_leave_21 rfl
theorem v185_22 {d : Nat} {st : List MV} {h : Hp} {x : Option A3} {a1 a2 : Option MV} : Ev d 185 22 [some (vO x), a1, a2] st h = Ev d 185 23 [some (vO x), a1, a2] (vO x :: st) h := Rnx (hB_185) (dX7_leave_22) rfl
theorem v185_23 {d : Nat} {st : List MV} {h : Hp} {x : Int32} {a0 a2 : Option MV} : Ev d 185 23 [a0, some (vI x), a2] st h = Ev d 185 24 [a0, some (vI x), a2] (vI x :: st) h := Rnx (hB_185) (dX7_leave_23) rfl
theorem v185_24 {d : Nat} {st : List MV} {h : Hp} {x : Int32} {a0 a1 : Option MV} : Ev d 185 24 [a0, a1, some (vI x)] st h = Ev d 185 25 [a0, a1, some (vI x)] (vI x :: st) h := Rnx (hB_185) (dX7_leave_24) rfl
set_option maxRecDepth 100000 in
theorem v185_25 {d : Nat} {ls : LS3} {st : List MV} {h : Hp} {a : A3} {x0 : Int32} {x1 : Int32} (hS : gS h a = (1, 7)) (hc : catS st ≤ 8) : Ev (d + 1) 185 25 ls (vI x1 :: vI x0 :: vR a :: st) h = Evk 150 (d + 1) 185 25 ls st (Ev d 150 0 [some (vR a), some (vI x0), some (vI x1)] [] h) := RcallO (idx := 105) (n := 2) (kd := 0) (As' := [vI x0, vI x1]) hB_185 dX7_leave_25 rfl rfl (by decide) rfl rfl (Or.inl hS) rfl hc
theorem v185_28 {d : Nat} {ls : LS3} {st : List MV} {h : Hp} {x : Int32} : Ev d 185 28 ls (vI x :: st) h = if x = 0 then Ev d 185 39 ls st h else Ev d 185 31 ls st h := Rif hB_185 dX7_leave_28 rfl
theorem v185_31 {d : Nat} {st : List MV} {h : Hp} {x : Option A3} {a1 a2 : Option MV} : Ev d 185 31 [some (vO x), a1, a2] st h = Ev d 185 32 [some (vO x), a1, a2] (vO x :: st) h := Rnx (hB_185) (dX7_leave_31) rfl
theorem v185_32 {d : Nat} {st : List MV} {h : Hp} {x : Int32} {a0 a2 : Option MV} : Ev d 185 32 [a0, some (vI x), a2] st h = Ev d 185 33 [a0, some (vI x), a2] (vI x :: st) h := Rnx (hB_185) (dX7_leave_32) rfl
set_option maxRecDepth 100000 in
theorem v185_33 {d : Nat} {ls : LS3} {st : List MV} {h : Hp} {a : A3} {x0 : Int32} (hS : gS h a = (1, 7)) (hc : catS st ≤ 8) : Ev (d + 1) 185 33 ls (vI x0 :: vR a :: st) h = Evk 152 (d + 1) 185 33 ls st (Ev d 152 0 [some (vR a), some (vI x0)] [] h) := RcallO (idx := 109) (n := 1) (kd := 0) (As' := [vI x0]) hB_185 dX7_leave_33 rfl rfl (by decide) rfl rfl (Or.inl hS) rfl hc
theorem v185_36 {d : Nat} {ls : LS3} {st : List MV} {h : Hp} {x : Int32} : Ev d 185 36 ls (vI x :: st) h = if x = 0 then Ev d 185 45 ls st h else Ev d 185 39 ls st h := Rif hB_185 dX7_leave_36 rfl
theorem v185_39 {d : Nat} {st : List MV} {h : Hp} {x : Option A3} {a1 a2 : Option MV} : Ev d 185 39 [some (vO x), a1, a2] st h = Ev d 185 40 [some (vO x), a1, a2] (vO x :: st) h := Rnx (hB_185) (dX7_leave_39) rfl
theorem v185_40 {d : Nat} {ls : LS3} {st : List MV} {h : Hp} : Ev d 185 40 ls st h = Ev d 185 41 ls (vI 2 :: st) h := Rnx (hB_185) (dX7_leave_40) rfl
set_option maxRecDepth 100000 in
theorem v185_41 {d : Nat} {ls : LS3} {st : List MV} {h : Hp} {a : A3} {x0 : Int32} (hS : gS h a = (1, 7)) (hc : catS st ≤ 8) : Ev (d + 1) 185 41 ls (vI x0 :: vR a :: st) h = Evk 141 (d + 1) 185 41 ls st (Ev d 141 0 [some (vR a), some (vI x0)] [] h) := RcallO (idx := 168) (n := 1) (kd := 0) (As' := [vI x0]) hB_185 dX7_leave_41 rfl rfl (by decide) rfl rfl (Or.inl hS) rfl hc
theorem v185_44 {d : Nat} {ls : LS3} {h : Hp} {x : Int32} : Ev d 185 44 ls [vI x] h = some (.inl (some (vI x)), h) := Rdn hB_185 dX7_leave_44 rfl
theorem v185_45 {d : Nat} {st : List MV} {h : Hp} {x : Option A3} {a1 a2 : Option MV} : Ev d 185 45 [some (vO x), a1, a2] st h = Ev d 185 46 [some (vO x), a1, a2] (vO x :: st) h := Rnx (hB_185) (dX7_leave_45) rfl
theorem v185_46 {d : Nat} {ls : LS3} {st : List MV} {h : Hp} : Ev d 185 46 ls st h = Ev d 185 47 ls (vI 0 :: st) h := Rnx (hB_185) (dX7_leave_46) rfl
set_option maxRecDepth 100000 in
theorem v185_47 {d : Nat} {ls : LS3} {st : List MV} {h : Hp} {a : A3} {x : Int32} (hS : gS h a = (1, 7)) : Ev d 185 47 ls (vI x :: vR a :: st) h = Ev d 185 50 ls st (sI h a 0 x) := RputI hB_185 dX7_leave_47 rfl rfl (by decide) hS (Or.inl rfl)
theorem v185_50 {d : Nat} {st : List MV} {h : Hp} {x : Option A3} {a1 a2 : Option MV} : Ev d 185 50 [some (vO x), a1, a2] st h = Ev d 185 51 [some (vO x), a1, a2] (vO x :: st) h := Rnx (hB_185) (dX7_leave_50) rfl
set_option maxRecDepth 100000 in
theorem v185_51 {d : Nat} {ls : LS3} {st : List MV} {h : Hp} {a : A3}  (hS : gS h a = (1, 7)) (hc : catS st ≤ 8) : Ev (d + 1) 185 51 ls (vR a :: st) h = Evk 230 (d + 1) 185 51 ls st (Ev d 230 0 [some (vR a)] [] h) := RcallO (idx := 171) (n := 0) (kd := 0) (As' := []) hB_185 dX7_leave_51 rfl rfl (by decide) rfl rfl (Or.inl hS) rfl hc
theorem v185_54 {d : Nat} {st : List MV} {h : Hp} {x : Option A3} {a1 a2 : Option MV} : Ev d 185 54 [some (vO x), a1, a2] st h = Ev d 185 55 [some (vO x), a1, a2] (vO x :: st) h := Rnx (hB_185) (dX7_leave_54) rfl
set_option maxRecDepth 100000 in
theorem v185_55 {d : Nat} {ls : LS3} {st : List MV} {h : Hp} {a : A3} (hS : gS h a = (1, 7)) : Ev d 185 55 ls (vR a :: st) h = Ev d 185 58 ls (vO (gR h a 14) :: st) h := Rget hB_185 dX7_leave_55 rfl (Or.inl hS)
theorem v185_58 {d : Nat} {st : List MV} {h : Hp} {x : Int32} {a0 a2 : Option MV} : Ev d 185 58 [a0, some (vI x), a2] st h = Ev d 185 59 [a0, some (vI x), a2] (vI x :: st) h := Rnx (hB_185) (dX7_leave_58) rfl
theorem v185_59 {d : Nat} {ls : LS3} {st : List MV} {h : Hp} {v w : MV} (hv : cat1 v = true) (hw : cat1 w = true) : Ev d 185 59 ls (v :: w :: st) h = Ev d 185 60 ls (v :: w :: v :: w :: st) h := Rdup2 hB_185 dX7_leave_59 hv hw
theorem v185_60 {d : Nat} {ls : LS3} {st : List MV} {h : Hp} {a : A3} {j : Int32} (hS : (gS h a).1 ∈ [2, 9]) (hj : inB j (gS h a).2) : Ev d 185 60 ls (vI j :: vR a :: st) h = Ev d 185 61 ls (vI (gI h a j.toNatClampNeg) :: st) h := Rald (ks := [2, 9]) (f := fun a j => vI (gI h a j)) hB_185 dX7_leave_60 rfl hS hj
theorem v185_61 {d : Nat} {ls : LS3} {st : List MV} {h : Hp} : Ev d 185 61 ls st h = Ev d 185 62 ls (vI 1 :: st) h := Rnx (hB_185) (dX7_leave_61) rfl
theorem v185_62 {d : Nat} {st : List MV} {h : Hp} {x : Int32} {a0 a1 : Option MV} : Ev d 185 62 [a0, a1, some (vI x)] st h = Ev d 185 63 [a0, a1, some (vI x)] (vI x :: st) h := Rnx (hB_185) (dX7_leave_62) rfl
theorem v185_63 {d : Nat} {ls : LS3} {st : List MV} {h : Hp} {x y : Int32} : Ev d 185 63 ls (vI y :: vI x :: st) h = Ev d 185 64 ls (vI (x <<< (y &&& 31)) :: st) h := Rnx (hB_185) (dX7_leave_63) rfl
theorem v185_64 {d : Nat} {ls : LS3} {st : List MV} {h : Hp} : Ev d 185 64 ls st h = Ev d 185 65 ls (vI (-1) :: st) h := Rnx (hB_185) (dX7_leave_64) rfl
theorem v185_65 {d : Nat} {ls : LS3} {st : List MV} {h : Hp} {x y : Int32} : Ev d 185 65 ls (vI y :: vI x :: st) h = Ev d 185 66 ls (vI (x ^^^ y) :: st) h := Rnx (hB_185) (dX7_leave_65) rfl
theorem v185_66 {d : Nat} {ls : LS3} {st : List MV} {h : Hp} {x y : Int32} : Ev d 185 66 ls (vI y :: vI x :: st) h = Ev d 185 67 ls (vI (x &&& y) :: st) h := Rnx (hB_185) (dX7_leave_66) rfl
theorem v185_67 {d : Nat} {ls : LS3} {st : List MV} {h : Hp} {a : A3} {j : Int32} {x : Int32} (hS : (gS h a).1 = 2) (hj : inB j (gS h a).2) : Ev d 185 67 ls (vI x :: vI j :: vR a :: st) h = Ev d 185 68 ls st (sI h a j.toNatClampNeg x) := RastI hB_185 dX7_leave_67 hS hj
theorem v185_68 {d : Nat} {st : List MV} {h : Hp} {x : Option A3} {a1 a2 : Option MV} : Ev d 185 68 [some (vO x), a1, a2] st h = Ev d 185 69 [some (vO x), a1, a2] (vO x :: st) h := Rnx (hB_185) (dX7_leave_68) rfl
theorem v185_69 {d : Nat} {st : List MV} {h : Hp} {x : Int32} {a0 a2 : Option MV} : Ev d 185 69 [a0, some (vI x), a2] st h = Ev d 185 70 [a0, some (vI x), a2] (vI x :: st) h := Rnx (hB_185) (dX7_leave_69) rfl
set_option maxRecDepth 100000 in
theorem v185_70 {d : Nat} {ls : LS3} {st : List MV} {h : Hp} {a : A3} {x0 : Int32} (hS : gS h a = (1, 7)) (hc : catS st ≤ 8) : Ev (d + 1) 185 70 ls (vI x0 :: vR a :: st) h = Evk 162 (d + 1) 185 70 ls st (Ev d 162 0 [some (vR a), some (vI x0)] [] h) := RcallO (idx := 217) (n := 1) (kd := 0) (As' := [vI x0]) hB_185 dX7_leave_70 rfl rfl (by decide) rfl rfl (Or.inl hS) rfl hc
theorem v185_73 {d : Nat} {st : List MV} {h : Hp} {x : Option A3} {a1 a2 : Option MV} : Ev d 185 73 [some (vO x), a1, a2] st h = Ev d 185 74 [some (vO x), a1, a2] (vO x :: st) h := Rnx (hB_185) (dX7_leave_73) rfl
set_option maxRecDepth 100000 in
theorem v185_74 {d : Nat} {ls : LS3} {st : List MV} {h : Hp} {a : A3} (hS : gS h a = (1, 7)) : Ev d 185 74 ls (vR a :: st) h = Ev d 185 77 ls (vO (gR h a 14) :: st) h := Rget hB_185 dX7_leave_74 rfl (Or.inl hS)
theorem v185_77 {d : Nat} {st : List MV} {h : Hp} {x : Int32} {a0 a2 : Option MV} : Ev d 185 77 [a0, some (vI x), a2] st h = Ev d 185 78 [a0, some (vI x), a2] (vI x :: st) h := Rnx (hB_185) (dX7_leave_77) rfl
theorem v185_78 {d : Nat} {ls : LS3} {st : List MV} {h : Hp} {a : A3} {j : Int32} (hS : (gS h a).1 ∈ [2, 9]) (hj : inB j (gS h a).2) : Ev d 185 78 ls (vI j :: vR a :: st) h = Ev d 185 79 ls (vI (gI h a j.toNatClampNeg) :: st) h := Rald (ks := [2, 9]) (f := fun a j => vI (gI h a j)) hB_185 dX7_leave_78 rfl hS hj
set_option maxRecDepth 100000 in
theorem v185_79 {d : Nat} {ls : LS3} {st : List MV} {h : Hp} {x0 : Int32} (hc : catS st ≤ 8) : Ev (d + 1) 185 79 ls (vI x0 :: st) h = Evk 144 (d + 1) 185 79 ls st (Ev d 144 0 [some (vI x0), none, none] [] h) := RcallS (idx := 129) (n := 1) (kd := 1) (As := [vI x0]) hB_185 dX7_leave_79 rfl rfl (by decide) rfl rfl rfl hc
theorem v185_82 {d : Nat} {ls : LS3} {h : Hp} {x : Int32} : Ev d 185 82 ls [vI x] h = some (.inl (some (vI x)), h) := Rdn hB_185 dX7_leave_82 rfl
