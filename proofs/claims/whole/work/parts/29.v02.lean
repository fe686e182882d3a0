/-! ROWS OF THE METHODS, 2 -/
theorem hB_66 : mB 66 = cX4_loadSum := rfl
theorem v66_0 {d : Nat} {ls : LS3} {st : List MV} {h : Hp} : Ev d 66 0 ls st h = Ev d 66 1 ls (vI 0 :: st) h := Rnx (hB_66) (dX4_loadSum_0) rfl
theorem v66_1 {d : Nat} {st : List MV} {h : Hp} {x : Int32} {a0 a1 a2 a3 a4 a5 : Option MV} : Ev d 66 1 [a0, a1, a2, a3, a4, a5] (vI x :: st) h = Ev d 66 2 [a0, some (vI x), a2, a3, a4, a5] st h := Rnx (hB_66) (dX4_loadSum_1) rfl
theorem v66_2 {d : Nat} {st : List MV} {h : Hp} {x : Option A3} {a1 a2 a3 a4 a5 : Option MV} : Ev d 66 2 [some (vO x), a1, a2, a3, a4, a5] st h = Ev d 66 3 [some (vO x), a1, a2, a3, a4, a5] (vO x :: st) h := Rnx (hB_66) (dX4_loadSum_2) rfl
set_option maxRecDepth 100000 in
theorem v66_3 {d : Nat} {ls : LS3} {st : List MV} {h : Hp} {a : A3} (hS : gS h a = (1, 4)) : Ev d 66 3 ls (vR a :: st) h = Ev d 66 6 ls (vO (gR h a 1) :: st) h := Rget hB_66 dX4_loadSum_3 rfl (Or.inl hS)
theorem v66_6 {d : Nat} {st : List MV} {h : Hp} {x : Option A3} {a0 a1 a2 a3 a4 a5 : Option MV} : Ev d 66 6 [a0, a1, a2, a3, a4, a5] (vO x :: st) h = Ev d 66 7 [a0, a1, some (vO x), a3, a4, a5] st h := Rnx (hB_66) (dX4_loadSum_6) rfl
theorem v66_7 {d : Nat} {st : List MV} {h : Hp} {x : Option A3} {a0 a1 a3 a4 a5 : Option MV} : Ev d 66 7 [a0, a1, some (vO x), a3, a4, a5] st h = Ev d 66 8 [a0, a1, some (vO x), a3, a4, a5] (vO x :: st) h := Rnx (hB_66) (dX4_loadSum_7) rfl
theorem v66_8 {d : Nat} {ls : LS3} {st : List MV} {h : Hp} {a : A3} (hS : 2 ≤ (gS h a).1 ∧ (gS h a).1 ≤ 10) : Ev d 66 8 ls (vR a :: st) h = Ev d 66 9 ls (vI (Int32.ofNat (gS h a).2) :: st) h := Rlen hB_66 dX4_loadSum_8 hS
theorem v66_9 {d : Nat} {st : List MV} {h : Hp} {x : Int32} {a0 a1 a2 a3 a4 a5 : Option MV} : Ev d 66 9 [a0, a1, a2, a3, a4, a5] (vI x :: st) h = Ev d 66 10 [a0, a1, a2, some (vI x), a4, a5] st h := Rnx (hB_66) (dX4_loadSum_9) rfl
theorem v66_10 {d : Nat} {ls : LS3} {st : List MV} {h : Hp} : Ev d 66 10 ls st h = Ev d 66 11 ls (vI 0 :: st) h := Rnx (hB_66) (dX4_loadSum_10) rfl
theorem v66_11 {d : Nat} {st : List MV} {h : Hp} {x : Int32} {a0 a1 a2 a3 a4 a5 : Option MV} : Ev d 66 11 [a0, a1, a2, a3, a4, a5] (vI x :: st) h = Ev d 66 13 [a0, a1, a2, a3, some (vI x), a5] st h := Rnx (hB_66) (dX4_loadSum_11) rfl
theorem v66_13 {d : Nat} {st : List MV} {h : Hp} {x : Int32} {a0 a1 a2 a3 a5 : Option MV} : Ev d 66 13 [a0, a1, a2, a3, some (vI x), a5] st h = Ev d 66 15 [a0, a1, a2, a3, some (vI x), a5] (vI x :: st) h := Rnx (hB_66) (dX4_loadSum_13) rfl
theorem v66_15 {d : Nat} {st : List MV} {h : Hp} {x : Int32} {a0 a1 a2 a4 a5 : Option MV} : Ev d 66 15 [a0, a1, a2, some (vI x), a4, a5] st h = Ev d 66 16 [a0, a1, a2, some (vI x), a4, a5] (vI x :: st) h := Rnx (hB_66) (dX4_loadSum_15) rfl
theorem v66_16 {d : Nat} {ls : LS3} {st : List MV} {h : Hp} {x y : Int32} : Ev d 66 16 ls (vI y :: vI x :: st) h = if y ≤ x then Ev d 66 51 ls st h else Ev d 66 19 ls st h := Rif hB_66 dX4_loadSum_16 rfl
theorem v66_19 {d : Nat} {st : List MV} {h : Hp} {x : Option A3} {a0 a1 a3 a4 a5 : Option MV} : Ev d 66 19 [a0, a1, some (vO x), a3, a4, a5] st h = Ev d 66 20 [a0, a1, some (vO x), a3, a4, a5] (vO x :: st) h := Rnx (hB_66) (dX4_loadSum_19) rfl
theorem v66_20 {d : Nat} {st : List MV} {h : Hp} {x : Int32} {a0 a1 a2 a3 a5 : Option MV} : Ev d 66 20 [a0, a1, a2, a3, some (vI x), a5] st h = Ev d 66 22 [a0, a1, a2, a3, some (vI x), a5] (vI x :: st) h := Rnx (hB_66) (dX4_loadSum_20) rfl
theorem v66_22 {d : Nat} {ls : LS3} {st : List MV} {h : Hp} {a : A3} {j : Int32} (hS : (gS h a).1 ∈ [6, 7, 8]) (hj : inB j (gS h a).2) : Ev d 66 22 ls (vI j :: vR a :: st) h = Ev d 66 23 ls (vO (gR h a j.toNatClampNeg) :: st) h := Rald (ks := [6, 7, 8]) (f := fun a j => vO (gR h a j)) hB_66 dX4_loadSum_22 rfl hS hj
theorem v66_23 {d : Nat} {st : List MV} {h : Hp} {x : Option A3} {a0 a1 a2 a3 a4 a5 : Option MV} : Ev d 66 23 [a0, a1, a2, a3, a4, a5] (vO x :: st) h = Ev d 66 25 [a0, a1, a2, a3, a4, some (vO x)] st h := Rnx (hB_66) (dX4_loadSum_23) rfl
theorem v66_25 {d : Nat} {st : List MV} {h : Hp} {x : Int32} {a0 a2 a3 a4 a5 : Option MV} : Ev d 66 25 [a0, some (vI x), a2, a3, a4, a5] st h = Ev d 66 26 [a0, some (vI x), a2, a3, a4, a5] (vI x :: st) h := Rnx (hB_66) (dX4_loadSum_25) rfl
theorem v66_26 {d : Nat} {st : List MV} {h : Hp} {x : Option A3} {a0 a1 a2 a3 a4 : Option MV} : Ev d 66 26 [a0, a1, a2, a3, a4, some (vO x)] st h = Ev d 66 28 [a0, a1, a2, a3, a4, some (vO x)] (vO x :: st) h := Rnx (hB_66) (dX4_loadSum_26) rfl
set_option maxRecDepth 100000 in
theorem v66_28 {d : Nat} {ls : LS3} {st : List MV} {h : Hp} {a : A3}  (hS : gS h a = (1, 5)) (hc : catS st ≤ 8) : Ev (d + 1) 66 28 ls (vR a :: st) h = Evk 80 (d + 1) 66 28 ls st (Ev d 80 0 [some (vR a)] [] h) := RcallO (idx := 69) (n := 0) (kd := 0) (As' := []) hB_66 dX4_loadSum_28 rfl rfl (by decide) rfl rfl (Or.inl hS) rfl hc
theorem v66_31 {d : Nat} {ls : LS3} {st : List MV} {h : Hp} {x : Int32} : Ev d 66 31 ls (vI x :: st) h = if x = 0 then Ev d 66 38 ls st h else Ev d 66 34 ls st h := Rif hB_66 dX4_loadSum_31 rfl
theorem v66_34 {d : Nat} {ls : LS3} {st : List MV} {h : Hp} : Ev d 66 34 ls st h = Ev d 66 35 ls (vI 0 :: st) h := Rnx (hB_66) (dX4_loadSum_34) rfl
theorem v66_35 {d : Nat} {ls : LS3} {st : List MV} {h : Hp} : Ev d 66 35 ls st h = Ev d 66 43 ls st h := Rnx (hB_66) (dX4_loadSum_35) rfl
theorem v66_38 {d : Nat} {st : List MV} {h : Hp} {x : Option A3} {a0 a1 a2 a3 a4 : Option MV} : Ev d 66 38 [a0, a1, a2, a3, a4, some (vO x)] st h = Ev d 66 40 [a0, a1, a2, a3, a4, some (vO x)] (vO x :: st) h := Rnx (hB_66) (dX4_loadSum_38) rfl
set_option maxRecDepth 100000 in
theorem v66_40 {d : Nat} {ls : LS3} {st : List MV} {h : Hp} {a : A3}  (hS : gS h a = (1, 5)) (hc : catS st ≤ 8) : Ev (d + 1) 66 40 ls (vR a :: st) h = Evk 83 (d + 1) 66 40 ls st (Ev d 83 0 [some (vR a)] [] h) := RcallO (idx := 210) (n := 0) (kd := 0) (As' := []) hB_66 dX4_loadSum_40 rfl rfl (by decide) rfl rfl (Or.inl hS) rfl hc
theorem v66_43 {d : Nat} {ls : LS3} {st : List MV} {h : Hp} {x y : Int32} : Ev d 66 43 ls (vI y :: vI x :: st) h = Ev d 66 44 ls (vI (x + y) :: st) h := Rnx (hB_66) (dX4_loadSum_43) rfl
theorem v66_44 {d : Nat} {st : List MV} {h : Hp} {x : Int32} {a0 a1 a2 a3 a4 a5 : Option MV} : Ev d 66 44 [a0, a1, a2, a3, a4, a5] (vI x :: st) h = Ev d 66 45 [a0, some (vI x), a2, a3, a4, a5] st h := Rnx (hB_66) (dX4_loadSum_44) rfl
theorem v66_45 {d : Nat} {st : List MV} {h : Hp} {x : Int32} {a0 a1 a2 a3 a5 : Option MV} : Ev d 66 45 [a0, a1, a2, a3, some (vI x), a5] st h = Ev d 66 48 [a0, a1, a2, a3, some (vI (x + 1)), a5] st h := Rnx (hB_66) (dX4_loadSum_45) rfl
theorem v66_48 {d : Nat} {ls : LS3} {st : List MV} {h : Hp} : Ev d 66 48 ls st h = Ev d 66 13 ls st h := Rnx (hB_66) (dX4_loadSum_48) rfl
theorem v66_51 {d : Nat} {st : List MV} {h : Hp} {x : Int32} {a0 a2 a3 a4 a5 : Option MV} : Ev d 66 51 [a0, some (vI x), a2, a3, a4, a5] st h = Ev d 66 52 [a0, some (vI x), a2, a3, a4, a5] (vI x :: st) h := Rnx (hB_66) (dX4_loadSum_51) rfl
theorem v66_52 {d : Nat} {ls : LS3} {h : Hp} {x : Int32} : Ev d 66 52 ls [vI x] h = some (.inl (some (vI x)), h) := Rdn hB_66 dX4_loadSum_52 rfl
theorem hB_67 : mB 67 = cX4_doEntry := rfl
theorem v67_0 {d : Nat} {st : List MV} {h : Hp} {x : Int32} {a0 a2 a3 a4 a5 a6 : Option MV} : Ev d 67 0 [a0, some (vI x), a2, a3, a4, a5, a6] st h = Ev d 67 1 [a0, some (vI x), a2, a3, a4, a5, a6] (vI x :: st) h := Rnx (hB_67) (dX4_doEntry_0) rfl
theorem v67_1 {d : Nat} {ls : LS3} {st : List MV} {h : Hp} : Ev d 67 1 ls st h = Ev d 67 3 ls (vI 100 :: st) h := Rnx (hB_67) (dX4_doEntry_1) rfl
theorem v67_3 {d : Nat} {ls : LS3} {st : List MV} {h : Hp} {x y : Int32} : Ev d 67 3 ls (vI y :: vI x :: st) h = if x = y then Ev d 67 6 ls st h else Ev d 67 12 ls st h := Rifn hB_67 dX4_doEntry_3 rfl
theorem v67_6 {d : Nat} {st : List MV} {h : Hp} {x : Option A3} {a1 a2 a3 a4 a5 a6 : Option MV} : Ev d 67 6 [some (vO x), a1, a2, a3, a4, a5, a6] st h = Ev d 67 7 [some (vO x), a1, a2, a3, a4, a5, a6] (vO x :: st) h := Rnx (hB_67) (dX4_doEntry_6) rfl
theorem v67_7 {d : Nat} {st : List MV} {h : Hp} {x : Int32} {a0 a1 a3 a4 a5 a6 : Option MV} : Ev d 67 7 [a0, a1, some (vI x), a3, a4, a5, a6] st h = Ev d 67 8 [a0, a1, some (vI x), a3, a4, a5, a6] (vI x :: st) h := Rnx (hB_67) (dX4_doEntry_7) rfl
set_option maxRecDepth 100000 in
theorem v67_8 {d : Nat} {ls : LS3} {st : List MV} {h : Hp} {a : A3} {x0 : Int32} (hS : gS h a = (1, 4)) (hc : catS st ≤ 8) : Ev (d + 1) 67 8 ls (vI x0 :: vR a :: st) h = Evk 68 (d + 1) 67 8 ls st (Ev d 68 0 [some (vR a), some (vI x0)] [] h) := RcallO (idx := 213) (n := 1) (kd := 0) (As' := [vI x0]) hB_67 dX4_doEntry_8 rfl rfl (by decide) rfl rfl (Or.inl hS) rfl hc
theorem v67_11 {d : Nat} {ls : LS3} {h : Hp} {x : Int32} : Ev d 67 11 ls [vI x] h = some (.inl (some (vI x)), h) := Rdn hB_67 dX4_doEntry_11 rfl
theorem v67_12 {d : Nat} {st : List MV} {h : Hp} {x : Int32} {a0 a1 a3 a4 a5 a6 : Option MV} : Ev d 67 12 [a0, a1, some (vI x), a3, a4, a5, a6] st h = Ev d 67 13 [a0, a1, some (vI x), a3, a4, a5, a6] (vI x :: st) h := Rnx (hB_67) (dX4_doEntry_12) rfl
theorem v67_13 {d : Nat} {st : List MV} {h : Hp} {x : Option A3} {a1 a2 a3 a4 a5 a6 : Option MV} : Ev d 67 13 [some (vO x), a1, a2, a3, a4, a5, a6] st h = Ev d 67 14 [some (vO x), a1, a2, a3, a4, a5, a6] (vO x :: st) h := Rnx (hB_67) (dX4_doEntry_13) rfl
set_option maxRecDepth 100000 in
theorem v67_14 {d : Nat} {ls : LS3} {st : List MV} {h : Hp} {a : A3} (hS : gS h a = (1, 4)) : Ev d 67 14 ls (vR a :: st) h = Ev d 67 17 ls (vI (gI h a 4) :: st) h := Rget hB_67 dX4_doEntry_14 rfl (Or.inl hS)
set_option maxRecDepth 100000 in
theorem v67_17 {d : Nat} {ls : LS3} {st : List MV} {h : Hp} {x0 : Int32} {x1 : Int32} (hc : catS st ≤ 8) : Ev (d + 1) 67 17 ls (vI x1 :: vI x0 :: st) h = Evk 137 (d + 1) 67 17 ls st (Ev d 137 0 [some (vI x0), some (vI x1)] [] h) := RcallS (idx := 199) (n := 2) (kd := 3) (As := [vI x0, vI x1]) hB_67 dX4_doEntry_17 rfl rfl (by decide) rfl rfl rfl hc
theorem v67_20 {d : Nat} {ls : LS3} {st : List MV} {h : Hp} {x : Int32} : Ev d 67 20 ls (vI x :: st) h = if x = 0 then Ev d 67 23 ls st h else Ev d 67 25 ls st h := Rifn hB_67 dX4_doEntry_20 rfl
theorem v67_23 {d : Nat} {ls : LS3} {st : List MV} {h : Hp} : Ev d 67 23 ls st h = Ev d 67 24 ls (vI (-1) :: st) h := Rnx (hB_67) (dX4_doEntry_23) rfl
theorem v67_24 {d : Nat} {ls : LS3} {h : Hp} {x : Int32} : Ev d 67 24 ls [vI x] h = some (.inl (some (vI x)), h) := Rdn hB_67 dX4_doEntry_24 rfl
theorem v67_25 {d : Nat} {st : List MV} {h : Hp} {x : Option A3} {a1 a2 a3 a4 a5 a6 : Option MV} : Ev d 67 25 [some (vO x), a1, a2, a3, a4, a5, a6] st h = Ev d 67 26 [some (vO x), a1, a2, a3, a4, a5, a6] (vO x :: st) h := Rnx (hB_67) (dX4_doEntry_25) rfl
set_option maxRecDepth 100000 in
theorem v67_26 {d : Nat} {ls : LS3} {st : List MV} {h : Hp} {a : A3} (hS : gS h a = (1, 4)) : Ev d 67 26 ls (vR a :: st) h = Ev d 67 29 ls (vO (gR h a 1) :: st) h := Rget hB_67 dX4_doEntry_26 rfl (Or.inl hS)
theorem v67_29 {d : Nat} {st : List MV} {h : Hp} {x : Int32} {a0 a1 a3 a4 a5 a6 : Option MV} : Ev d 67 29 [a0, a1, some (vI x), a3, a4, a5, a6] st h = Ev d 67 30 [a0, a1, some (vI x), a3, a4, a5, a6] (vI x :: st) h := Rnx (hB_67) (dX4_doEntry_29) rfl
theorem v67_30 {d : Nat} {ls : LS3} {st : List MV} {h : Hp} {a : A3} {j : Int32} (hS : (gS h a).1 ∈ [6, 7, 8]) (hj : inB j (gS h a).2) : Ev d 67 30 ls (vI j :: vR a :: st) h = Ev d 67 31 ls (vO (gR h a j.toNatClampNeg) :: st) h := Rald (ks := [6, 7, 8]) (f := fun a j => vO (gR h a j)) hB_67 dX4_doEntry_30 rfl hS hj
theorem v67_31 {d : Nat} {st : List MV} {h : Hp} {x : Option A3} {a0 a1 a2 a3 a4 a5 a6 : Option MV} : Ev d 67 31 [a0, a1, a2, a3, a4, a5, a6] (vO x :: st) h = Ev d 67 33 [a0, a1, a2, a3, a4, a5, some (vO x)] st h := Rnx (hB_67) (dX4_doEntry_31) rfl
theorem v67_33 {d : Nat} {st : List MV} {h : Hp} {x : Int32} {a0 a2 a3 a4 a5 a6 : Option MV} : Ev d 67 33 [a0, some (vI x), a2, a3, a4, a5, a6] st h = Ev d 67 34 [a0, some (vI x), a2, a3, a4, a5, a6] (vI x :: st) h := Rnx (hB_67) (dX4_doEntry_33) rfl
theorem v67_34 {d : Nat} {ls : LS3} {st : List MV} {h : Hp} {x : Int32} : Ev d 67 34 ls (vI x :: st) h = if x = 106 then Ev d 67 76 ls st h else if x = 108 then Ev d 67 84 ls st h else if x = 110 then Ev d 67 104 ls st h else if x = 112 then Ev d 67 92 ls st h else Ev d 67 111 ls st h := by
  by_cases z : x.toInt < 106 ∨ 112 < x.toInt
  · rw [if_neg (fun y => by rw [y] at z; revert z; decide), if_neg (fun y => by rw [y] at z; revert z; decide), if_neg (fun y => by rw [y] at z; revert z; decide), if_neg (fun y => by rw [y] at z; revert z; decide)]
    exact Rnx hB_67 dX4_doEntry_34 (xTab_out z)
  · rcases (show x.toInt = 106 ∨ x.toInt = 107 ∨ x.toInt = 108 ∨ x.toInt = 109 ∨ x.toInt = 110 ∨ x.toInt = 111 ∨ x.toInt = 112 by omega) with y | y | y | y | y | y | y
    · have e : x = 106 := Int32.toInt_inj.mp (y.trans rfl)
      subst e
      rw [if_pos rfl]; exact Rnx hB_67 dX4_doEntry_34 rfl
    · have e : x = 107 := Int32.toInt_inj.mp (y.trans rfl)
      subst e
      rw [if_neg (by decide)]; rw [if_neg (by decide)]; rw [if_neg (by decide)]; rw [if_neg (by decide)]; exact Rnx hB_67 dX4_doEntry_34 rfl
    · have e : x = 108 := Int32.toInt_inj.mp (y.trans rfl)
      subst e
      rw [if_neg (by decide)]; rw [if_pos rfl]; exact Rnx hB_67 dX4_doEntry_34 rfl
    · have e : x = 109 := Int32.toInt_inj.mp (y.trans rfl)
      subst e
      rw [if_neg (by decide)]; rw [if_neg (by decide)]; rw [if_neg (by decide)]; rw [if_neg (by decide)]; exact Rnx hB_67 dX4_doEntry_34 rfl
    · have e : x = 110 := Int32.toInt_inj.mp (y.trans rfl)
      subst e
      rw [if_neg (by decide)]; rw [if_neg (by decide)]; rw [if_pos rfl]; exact Rnx hB_67 dX4_doEntry_34 rfl
    · have e : x = 111 := Int32.toInt_inj.mp (y.trans rfl)
      subst e
      rw [if_neg (by decide)]; rw [if_neg (by decide)]; rw [if_neg (by decide)]; rw [if_neg (by decide)]; exact Rnx hB_67 dX4_doEntry_34 rfl
    · have e : x = 112 := Int32.toInt_inj.mp (y.trans rfl)
      subst e
      rw [if_neg (by decide)]; rw [if_neg (by decide)]; rw [if_neg (by decide)]; rw [if_pos rfl]; exact Rnx hB_67 dX4_doEntry_34 rfl
theorem v67_76 {d : Nat} {st : List MV} {h : Hp} {x : Option A3} {a1 a2 a3 a4 a5 a6 : Option MV} : Ev d 67 76 [some (vO x), a1, a2, a3, a4, a5, a6] st h = Ev d 67 77 [some (vO x), a1, a2, a3, a4, a5, a6] (vO x :: st) h := Rnx (hB_67) (dX4_doEntry_76) rfl
theorem v67_77 {d : Nat} {st : List MV} {h : Hp} {x : Option A3} {a0 a1 a2 a3 a4 a5 : Option MV} : Ev d 67 77 [a0, a1, a2, a3, a4, a5, some (vO x)] st h = Ev d 67 79 [a0, a1, a2, a3, a4, a5, some (vO x)] (vO x :: st) h := Rnx (hB_67) (dX4_doEntry_77) rfl
theorem v67_79 {d : Nat} {st : List MV} {h : Hp} {x : Int32} {a0 a1 a2 a4 a5 a6 : Option MV} : Ev d 67 79 [a0, a1, a2, some (vI x), a4, a5, a6] st h = Ev d 67 80 [a0, a1, a2, some (vI x), a4, a5, a6] (vI x :: st) h := Rnx (hB_67) (dX4_doEntry_79) rfl
set_option maxRecDepth 100000 in
theorem v67_80 {d : Nat} {ls : LS3} {st : List MV} {h : Hp} {a : A3} {o0 : Option A3} {x1 : Int32} (hS : gS h a = (1, 4)) (hc : catS st ≤ 8) : Ev (d + 1) 67 80 ls (vI x1 :: vO o0 :: vR a :: st) h = Evk 69 (d + 1) 67 80 ls st (Ev d 69 0 [some (vR a), some (vO o0), some (vI x1), none] [] h) := RcallO (idx := 216) (n := 2) (kd := 0) (As' := [vO o0, vI x1]) hB_67 dX4_doEntry_80 rfl rfl (by decide) rfl rfl (Or.inl hS) rfl hc
theorem v67_83 {d : Nat} {ls : LS3} {h : Hp} {x : Int32} : Ev d 67 83 ls [vI x] h = some (.inl (some (vI x)), h) := Rdn hB_67 dX4_doEntry_83 rfl
theorem v67_84 {d : Nat} {st : List MV} {h : Hp} {x : Option A3} {a1 a2 a3 a4 a5 a6 : Option MV} : Ev d 67 84 [some (vO x), a1, a2, a3, a4, a5, a6] st h = Ev d 67 85 [some (vO x), a1, a2, a3, a4, a5, a6] (vO x :: st) h := Rnx (hB_67) (dX4_doEntry_84) rfl
theorem v67_85 {d : Nat} {st : List MV} {h : Hp} {x : Option A3} {a0 a1 a2 a3 a4 a5 : Option MV} : Ev d 67 85 [a0, a1, a2, a3, a4, a5, some (vO x)] st h = Ev d 67 87 [a0, a1, a2, a3, a4, a5, some (vO x)] (vO x :: st) h := Rnx (hB_67) (dX4_doEntry_85) rfl
theorem v67_87 {d : Nat} {st : List MV} {h : Hp} {x : Int32} {a0 a1 a2 a4 a5 a6 : Option MV} : Ev d 67 87 [a0, a1, a2, some (vI x), a4, a5, a6] st h = Ev d 67 88 [a0, a1, a2, some (vI x), a4, a5, a6] (vI x :: st) h := Rnx (hB_67) (dX4_doEntry_87) rfl
set_option maxRecDepth 100000 in
theorem v67_88 {d : Nat} {ls : LS3} {st : List MV} {h : Hp} {a : A3} {o0 : Option A3} {x1 : Int32} (hS : gS h a = (1, 4)) (hc : catS st ≤ 8) : Ev (d + 1) 67 88 ls (vI x1 :: vO o0 :: vR a :: st) h = Evk 70 (d + 1) 67 88 ls st (Ev d 70 0 [some (vR a), some (vO o0), some (vI x1)] [] h) := RcallO (idx := 219) (n := 2) (kd := 0) (As' := [vO o0, vI x1]) hB_67 dX4_doEntry_88 rfl rfl (by decide) rfl rfl (Or.inl hS) rfl hc
theorem v67_91 {d : Nat} {ls : LS3} {h : Hp} {x : Int32} : Ev d 67 91 ls [vI x] h = some (.inl (some (vI x)), h) := Rdn hB_67 dX4_doEntry_91 rfl
theorem v67_92 {d : Nat} {st : List MV} {h : Hp} {x : Option A3} {a1 a2 a3 a4 a5 a6 : Option MV} : Ev d 67 92 [some (vO x), a1, a2, a3, a4, a5, a6] st h = Ev d 67 93 [some (vO x), a1, a2, a3, a4, a5, a6] (vO x :: st) h := Rnx (hB_67) (dX4_doEntry_92) rfl
theorem v67_93 {d : Nat} {st : List MV} {h : Hp} {x : Option A3} {a0 a1 a2 a3 a4 a5 : Option MV} : Ev d 67 93 [a0, a1, a2, a3, a4, a5, some (vO x)] st h = Ev d 67 95 [a0, a1, a2, a3, a4, a5, some (vO x)] (vO x :: st) h := Rnx (hB_67) (dX4_doEntry_93) rfl
theorem v67_95 {d : Nat} {st : List MV} {h : Hp} {x : Int32} {a0 a1 a2 a4 a5 a6 : Option MV} : Ev d 67 95 [a0, a1, a2, some (vI x), a4, a5, a6] st h = Ev d 67 96 [a0, a1, a2, some (vI x), a4, a5, a6] (vI x :: st) h := Rnx (hB_67) (dX4_doEntry_95) rfl
theorem v67_96 {d : Nat} {st : List MV} {h : Hp} {x : Int32} {a0 a1 a2 a3 a5 a6 : Option MV} : Ev d 67 96 [a0, a1, a2, a3, some (vI x), a5, a6] st h = Ev d 67 98 [a0, a1, a2, a3, some (vI x), a5, a6] (vI x :: st) h := Rnx (hB_67) (dX4_doEntry_96) rfl
theorem v67_98 {d : Nat} {st : List MV} {h : Hp} {x : Int32} {a0 a1 a2 a3 a4 a6 : Option MV} : Ev d 67 98 [a0, a1, a2, a3, a4, some (vI x), a6] st h = Ev d 67 100 [a0, a1, a2, a3, a4, some (vI x), a6] (vI x :: st) h := Rnx (hB_67) (dX4_doEntry_98) rfl
set_option maxRecDepth 100000 in
theorem v67_100 {d : Nat} {ls : LS3} {st : List MV} {h : Hp} {a : A3} {o0 : Option A3} {x1 : Int32} {x2 : Int32} {x3 : Int32} (hS : gS h a = (1, 4)) (hc : catS st ≤ 8) : Ev (d + 1) 67 100 ls (vI x3 :: vI x2 :: vI x1 :: vO o0 :: vR a :: st) h = Evk 71 (d + 1) 67 100 ls st (Ev d 71 0 [some (vR a), some (vO o0), some (vI x1), some (vI x2), some (vI x3), none] [] h) := RcallO (idx := 222) (n := 4) (kd := 0) (As' := [vO o0, vI x1, vI x2, vI x3]) hB_67 dX4_doEntry_100 rfl rfl (by decide) rfl rfl (Or.inl hS) rfl hc
theorem v67_103 {d : Nat} {ls : LS3} {h : Hp} {x : Int32} : Ev d 67 103 ls [vI x] h = some (.inl (some (vI x)), h) := Rdn hB_67 dX4_doEntry_103 rfl
theorem v67_104 {d : Nat} {st : List MV} {h : Hp} {x : Option A3} {a1 a2 a3 a4 a5 a6 : Option MV} : Ev d 67 104 [some (vO x), a1, a2, a3, a4, a5, a6] st h = Ev d 67 105 [some (vO x), a1, a2, a3, a4, a5, a6] (vO x :: st) h := Rnx (hB_67) (dX4_doEntry_104) rfl
theorem v67_105 {d : Nat} {st : List MV} {h : Hp} {x : Option A3} {a0 a1 a2 a3 a4 a5 : Option MV} : Ev d 67 105 [a0, a1, a2, a3, a4, a5, some (vO x)] st h = Ev d 67 107 [a0, a1, a2, a3, a4, a5, some (vO x)] (vO x :: st) h := Rnx (hB_67) (dX4_doEntry_105) rfl
set_option maxRecDepth 100000 in
theorem v67_107 {d : Nat} {ls : LS3} {st : List MV} {h : Hp} {a : A3} {o0 : Option A3} (hS : gS h a = (1, 4)) (hc : catS st ≤ 8) : Ev (d + 1) 67 107 ls (vO o0 :: vR a :: st) h = Evk 72 (d + 1) 67 107 ls st (Ev d 72 0 [some (vR a), some (vO o0)] [] h) := RcallO (idx := 226) (n := 1) (kd := 0) (As' := [vO o0]) hB_67 dX4_doEntry_107 rfl rfl (by decide) rfl rfl (Or.inl hS) rfl hc
theorem v67_110 {d : Nat} {ls : LS3} {h : Hp} {x : Int32} : Ev d 67 110 ls [vI x] h = some (.inl (some (vI x)), h) := Rdn hB_67 dX4_doEntry_110 rfl
theorem v67_111 {d : Nat} {ls : LS3} {st : List MV} {h : Hp} : Ev d 67 111 ls st h = Ev d 67 112 ls (vI (-1) :: st) h := Rnx (hB_67) (dX4_doEntry_111) rfl
theorem v67_112 {d : Nat} {ls : LS3} {h : Hp} {x : Int32} : Ev d 67 112 ls [vI x] h = some (.inl (some (vI x)), h) := Rdn hB_67 dX4_doEntry_112 rfl
theorem hB_68 : mB 68 = cX4_daysEntry := rfl
theorem v68_0 {d : Nat} {st : List MV} {h : Hp} {x : Option A3} {a1 : Option MV} : Ev d 68 0 [some (vO x), a1] st h = Ev d 68 1 [some (vO x), a1] (vO x :: st) h := Rnx (hB_68) (dX4_daysEntry_0) rfl
theorem v68_1 {d : Nat} {st : List MV} {h : Hp} {x : Int32} {a0 : Option MV} : Ev d 68 1 [a0, some (vI x)] st h = Ev d 68 2 [a0, some (vI x)] (vI x :: st) h := Rnx (hB_68) (dX4_daysEntry_1) rfl
set_option maxRecDepth 100000 in
theorem v68_2 {d : Nat} {ls : LS3} {st : List MV} {h : Hp} {a : A3} {x0 : Int32} (hS : gS h a = (1, 4)) (hc : catS st ≤ 8) : Ev (d + 1) 68 2 ls (vI x0 :: vR a :: st) h = Evk 59 (d + 1) 68 2 ls st (Ev d 59 0 [some (vR a), some (vI x0)] [] h) := RcallO (idx := 229) (n := 1) (kd := 0) (As' := [vI x0]) hB_68 dX4_daysEntry_2 rfl rfl (by decide) rfl rfl (Or.inl hS) rfl hc
theorem v68_5 {d : Nat} {ls : LS3} {st : List MV} {h : Hp} {x : Int32} : Ev d 68 5 ls (vI x :: st) h = if x = 0 then Ev d 68 8 ls st h else Ev d 68 10 ls st h := Rifn hB_68 dX4_daysEntry_5 rfl
theorem v68_8 {d : Nat} {ls : LS3} {st : List MV} {h : Hp} : Ev d 68 8 ls st h = Ev d 68 9 ls (vI (-1) :: st) h := Rnx (hB_68) (dX4_daysEntry_8) rfl
theorem v68_9 {d : Nat} {ls : LS3} {h : Hp} {x : Int32} : Ev d 68 9 ls [vI x] h = some (.inl (some (vI x)), h) := Rdn hB_68 dX4_daysEntry_9 rfl
theorem v68_10 {d : Nat} {st : List MV} {h : Hp} {x : Option A3} {a1 : Option MV} : Ev d 68 10 [some (vO x), a1] st h = Ev d 68 11 [some (vO x), a1] (vO x :: st) h := Rnx (hB_68) (dX4_daysEntry_10) rfl
theorem v68_11 {d : Nat} {st : List MV} {h : Hp} {x : Int32} {a0 : Option MV} : Ev d 68 11 [a0, some (vI x)] st h = Ev d 68 12 [a0, some (vI x)] (vI x :: st) h := Rnx (hB_68) (dX4_daysEntry_11) rfl
set_option maxRecDepth 100000 in
theorem v68_12 {d : Nat} {ls : LS3} {st : List MV} {h : Hp} {a : A3} {x0 : Int32} (hS : gS h a = (1, 4)) (hc : catS st ≤ 8) : Ev (d + 1) 68 12 ls (vI x0 :: vR a :: st) h = Evk 60 (d + 1) 68 12 ls st (Ev d 60 0 [some (vR a), some (vI x0), none, none, none, none, none] [] h) := RcallO (idx := 232) (n := 1) (kd := 0) (As' := [vI x0]) hB_68 dX4_daysEntry_12 rfl rfl (by decide) rfl rfl (Or.inl hS) rfl hc
theorem v68_15 {d : Nat} {ls : LS3} {st : List MV} {h : Hp} {v : MV} (hv : cat1 v = true) : Ev d 68 15 ls (v :: st) h = Ev d 68 16 ls st h := Rpop hB_68 dX4_daysEntry_15 hv
theorem v68_16 {d : Nat} {ls : LS3} {st : List MV} {h : Hp} : Ev d 68 16 ls st h = Ev d 68 17 ls (vI 0 :: st) h := Rnx (hB_68) (dX4_daysEntry_16) rfl
theorem v68_17 {d : Nat} {ls : LS3} {h : Hp} {x : Int32} : Ev d 68 17 ls [vI x] h = some (.inl (some (vI x)), h) := Rdn hB_68 dX4_daysEntry_17 rfl
theorem hB_69 : mB 69 = cX4_joinEntry := rfl
theorem v69_0 {d : Nat} {st : List MV} {h : Hp} {x : Int32} {a0 a1 a3 : Option MV} : Ev d 69 0 [a0, a1, some (vI x), a3] st h = Ev d 69 1 [a0, a1, some (vI x), a3] (vI x :: st) h := Rnx (hB_69) (dX4_joinEntry_0) rfl
theorem v69_1 {d : Nat} {st : List MV} {h : Hp} {x : Option A3} {a1 a2 a3 : Option MV} : Ev d 69 1 [some (vO x), a1, a2, a3] st h = Ev d 69 2 [some (vO x), a1, a2, a3] (vO x :: st) h := Rnx (hB_69) (dX4_joinEntry_1) rfl
set_option maxRecDepth 100000 in
theorem v69_2 {d : Nat} {ls : LS3} {st : List MV} {h : Hp} {a : A3} (hS : gS h a = (1, 4)) : Ev d 69 2 ls (vR a :: st) h = Ev d 69 5 ls (vI (gI h a 3) :: st) h := Rget hB_69 dX4_joinEntry_2 rfl (Or.inl hS)
set_option maxRecDepth 100000 in
theorem v69_5 {d : Nat} {ls : LS3} {st : List MV} {h : Hp} {x0 : Int32} {x1 : Int32} (hc : catS st ≤ 8) : Ev (d + 1) 69 5 ls (vI x1 :: vI x0 :: st) h = Evk 137 (d + 1) 69 5 ls st (Ev d 137 0 [some (vI x0), some (vI x1)] [] h) := RcallS (idx := 199) (n := 2) (kd := 3) (As := [vI x0, vI x1]) hB_69 dX4_joinEntry_5 rfl rfl (by decide) rfl rfl rfl hc
theorem v69_8 {d : Nat} {ls : LS3} {st : List MV} {h : Hp} {x : Int32} : Ev d 69 8 ls (vI x :: st) h = if x = 0 then Ev d 69 11 ls st h else Ev d 69 13 ls st h := Rifn hB_69 dX4_joinEntry_8 rfl
theorem v69_11 {d : Nat} {ls : LS3} {st : List MV} {h : Hp} : Ev d 69 11 ls st h = Ev d 69 12 ls (vI (-1) :: st) h := Rnx (hB_69) (dX4_joinEntry_11) rfl
theorem v69_12 {d : Nat} {ls : LS3} {h : Hp} {x : Int32} : Ev d 69 12 ls [vI x] h = some (.inl (some (vI x)), h) := Rdn hB_69 dX4_joinEntry_12 rfl
theorem v69_13 {d : Nat} {st : List MV} {h : Hp} {x : Option A3} {a1 a2 a3 : Option MV} : Ev d 69 13 [some (vO x), a1, a2, a3] st h = Ev d 69 14 [some (vO x), a1, a2, a3] (vO x :: st) h := Rnx (hB_69) (dX4_joinEntry_13) rfl
theorem v69_14 {d : Nat} {st : List MV} {h : Hp} {x : Option A3} {a0 a2 a3 : Option MV} : Ev d 69 14 [a0, some (vO x), a2, a3] st h = Ev d 69 15 [a0, some (vO x), a2, a3] (vO x :: st) h := Rnx (hB_69) (dX4_joinEntry_14) rfl
theorem v69_15 {d : Nat} {st : List MV} {h : Hp} {x : Option A3} {a0 a2 a3 : Option MV} : Ev d 69 15 [a0, some (vO x), a2, a3] st h = Ev d 69 16 [a0, some (vO x), a2, a3] (vO x :: st) h := Rnx (hB_69) (dX4_joinEntry_15) rfl
set_option maxRecDepth 100000 in
theorem v69_16 {d : Nat} {ls : LS3} {st : List MV} {h : Hp} {a : A3} (hS : gS h a = (1, 5)) : Ev d 69 16 ls (vR a :: st) h = Ev d 69 19 ls (vI (gI h a 6) :: st) h := Rget hB_69 dX4_joinEntry_16 rfl (Or.inl hS)
theorem v69_19 {d : Nat} {st : List MV} {h : Hp} {x : Option A3} {a1 a2 a3 : Option MV} : Ev d 69 19 [some (vO x), a1, a2, a3] st h = Ev d 69 20 [some (vO x), a1, a2, a3] (vO x :: st) h := Rnx (hB_69) (dX4_joinEntry_19) rfl
set_option maxRecDepth 100000 in
theorem v69_20 {d : Nat} {ls : LS3} {st : List MV} {h : Hp} {a : A3} (hS : gS h a = (1, 4)) : Ev d 69 20 ls (vR a :: st) h = Ev d 69 23 ls (vO (gR h a 0) :: st) h := Rget hB_69 dX4_joinEntry_20 rfl (Or.inl hS)
theorem v69_23 {d : Nat} {st : List MV} {h : Hp} {x : Int32} {a0 a1 a3 : Option MV} : Ev d 69 23 [a0, a1, some (vI x), a3] st h = Ev d 69 24 [a0, a1, some (vI x), a3] (vI x :: st) h := Rnx (hB_69) (dX4_joinEntry_23) rfl
theorem v69_24 {d : Nat} {ls : LS3} {st : List MV} {h : Hp} {a : A3} {j : Int32} (hS : (gS h a).1 ∈ [6, 7, 8]) (hj : inB j (gS h a).2) : Ev d 69 24 ls (vI j :: vR a :: st) h = Ev d 69 25 ls (vO (gR h a j.toNatClampNeg) :: st) h := Rald (ks := [6, 7, 8]) (f := fun a j => vO (gR h a j)) hB_69 dX4_joinEntry_24 rfl hS hj
set_option maxRecDepth 100000 in
theorem v69_25 {d : Nat} {ls : LS3} {st : List MV} {h : Hp} {a : A3} {o0 : Option A3} {x1 : Int32} {o2 : Option A3} (hS : gS h a = (1, 4)) (hc : catS st ≤ 8) : Ev (d + 1) 69 25 ls (vO o2 :: vI x1 :: vO o0 :: vR a :: st) h = Evk 42 (d + 1) 69 25 ls st (Ev d 42 0 [some (vR a), some (vO o0), some (vI x1), some (vO o2)] [] h) := RcallO (idx := 149) (n := 3) (kd := 0) (As' := [vO o0, vI x1, vO o2]) hB_69 dX4_joinEntry_25 rfl rfl (by decide) rfl rfl (Or.inl hS) rfl hc
theorem v69_28 {d : Nat} {st : List MV} {h : Hp} {x : Int32} {a0 a1 a2 a3 : Option MV} : Ev d 69 28 [a0, a1, a2, a3] (vI x :: st) h = Ev d 69 29 [a0, a1, a2, some (vI x)] st h := Rnx (hB_69) (dX4_joinEntry_28) rfl
theorem v69_29 {d : Nat} {st : List MV} {h : Hp} {x : Int32} {a0 a1 a2 : Option MV} : Ev d 69 29 [a0, a1, a2, some (vI x)] st h = Ev d 69 30 [a0, a1, a2, some (vI x)] (vI x :: st) h := Rnx (hB_69) (dX4_joinEntry_29) rfl
theorem v69_30 {d : Nat} {ls : LS3} {st : List MV} {h : Hp} {x : Int32} : Ev d 69 30 ls (vI x :: st) h = if x = 0 then Ev d 69 35 ls st h else Ev d 69 33 ls st h := Rif hB_69 dX4_joinEntry_30 rfl
theorem v69_33 {d : Nat} {st : List MV} {h : Hp} {x : Int32} {a0 a1 a2 : Option MV} : Ev d 69 33 [a0, a1, a2, some (vI x)] st h = Ev d 69 34 [a0, a1, a2, some (vI x)] (vI x :: st) h := Rnx (hB_69) (dX4_joinEntry_33) rfl
theorem v69_34 {d : Nat} {ls : LS3} {h : Hp} {x : Int32} : Ev d 69 34 ls [vI x] h = some (.inl (some (vI x)), h) := Rdn hB_69 dX4_joinEntry_34 rfl
theorem v69_35 {d : Nat} {st : List MV} {h : Hp} {x : Option A3} {a0 a2 a3 : Option MV} : Ev d 69 35 [a0, some (vO x), a2, a3] st h = Ev d 69 36 [a0, some (vO x), a2, a3] (vO x :: st) h := Rnx (hB_69) (dX4_joinEntry_35) rfl
theorem v69_36 {d : Nat} {ls : LS3} {st : List MV} {h : Hp} {v : MV} (hv : cat1 v = true) : Ev d 69 36 ls (v :: st) h = Ev d 69 37 ls (v :: v :: st) h := Rdup hB_69 dX4_joinEntry_36 hv
set_option maxRecDepth 100000 in
theorem v69_37 {d : Nat} {ls : LS3} {st : List MV} {h : Hp} {a : A3} (hS : gS h a = (1, 5)) : Ev d 69 37 ls (vR a :: st) h = Ev d 69 40 ls (vI (gI h a 6) :: st) h := Rget hB_69 dX4_joinEntry_37 rfl (Or.inl hS)
theorem v69_40 {d : Nat} {st : List MV} {h : Hp} {x : Option A3} {a1 a2 a3 : Option MV} : Ev d 69 40 [some (vO x), a1, a2, a3] st h = Ev d 69 41 [some (vO x), a1, a2, a3] (vO x :: st) h := Rnx (hB_69) (dX4_joinEntry_40) rfl
set_option maxRecDepth 100000 in
theorem v69_41 {d : Nat} {ls : LS3} {st : List MV} {h : Hp} {a : A3} (hS : gS h a = (1, 4)) : Ev d 69 41 ls (vR a :: st) h = Ev d 69 44 ls (vO (gR h a 0) :: st) h := Rget hB_69 dX4_joinEntry_41 rfl (Or.inl hS)
theorem v69_44 {d : Nat} {st : List MV} {h : Hp} {x : Int32} {a0 a1 a3 : Option MV} : Ev d 69 44 [a0, a1, some (vI x), a3] st h = Ev d 69 45 [a0, a1, some (vI x), a3] (vI x :: st) h := Rnx (hB_69) (dX4_joinEntry_44) rfl
theorem v69_45 {d : Nat} {ls : LS3} {st : List MV} {h : Hp} {a : A3} {j : Int32} (hS : (gS h a).1 ∈ [6, 7, 8]) (hj : inB j (gS h a).2) : Ev d 69 45 ls (vI j :: vR a :: st) h = Ev d 69 46 ls (vO (gR h a j.toNatClampNeg) :: st) h := Rald (ks := [6, 7, 8]) (f := fun a j => vO (gR h a j)) hB_69 dX4_joinEntry_45 rfl hS hj
set_option maxRecDepth 100000 in
theorem v69_46 {d : Nat} {ls : LS3} {st : List MV} {h : Hp} {a : A3}  (hS : gS h a = (1, 3)) (hc : catS st ≤ 8) : Ev (d + 1) 69 46 ls (vR a :: st) h = Evk 24 (d + 1) 69 46 ls st (Ev d 24 0 [some (vR a)] [] h) := RcallO (idx := 105) (n := 0) (kd := 0) (As' := []) hB_69 dX4_joinEntry_46 rfl rfl (by decide) rfl rfl (Or.inl hS) rfl hc
theorem v69_49 {d : Nat} {ls : LS3} {st : List MV} {h : Hp} {x y : Int32} : Ev d 69 49 ls (vI y :: vI x :: st) h = Ev d 69 50 ls (vI (x ||| y) :: st) h := Rnx (hB_69) (dX4_joinEntry_49) rfl
set_option maxRecDepth 100000 in
theorem v69_50 {d : Nat} {ls : LS3} {st : List MV} {h : Hp} {a : A3} {x : Int32} (hS : gS h a = (1, 5)) : Ev d 69 50 ls (vI x :: vR a :: st) h = Ev d 69 53 ls st (sI h a 6 x) := RputI hB_69 dX4_joinEntry_50 rfl rfl (by decide) hS (Or.inl rfl)
theorem v69_53 {d : Nat} {ls : LS3} {st : List MV} {h : Hp} : Ev d 69 53 ls st h = Ev d 69 54 ls (vI 0 :: st) h := Rnx (hB_69) (dX4_joinEntry_53) rfl
theorem v69_54 {d : Nat} {ls : LS3} {h : Hp} {x : Int32} : Ev d 69 54 ls [vI x] h = some (.inl (some (vI x)), h) := Rdn hB_69 dX4_joinEntry_54 rfl
theorem hB_70 : mB 70 = cX4_leaveEntry := rfl
theorem v70_0 {d : Nat} {st : List MV} {h : Hp} {x : Int32} {a0 a1 : Option MV} : Ev d 70 0 [a0, a1, some (vI x)] st h = Ev d 70 1 [a0, a1, some (vI x)] (vI x :: st) h := Rnx (hB_70) (dX4_leaveEntry_0) rfl
theorem v70_1 {d : Nat} {st : List MV} {h : Hp} {x : Option A3} {a1 a2 : Option MV} : Ev d 70 1 [some (vO x), a1, a2] st h = Ev d 70 2 [some (vO x), a1, a2] (vO x :: st) h := Rnx (hB_70) (dX4_leaveEntry_1) rfl
set_option maxRecDepth 100000 in
theorem v70_2 {d : Nat} {ls : LS3} {st : List MV} {h : Hp} {a : A3} (hS : gS h a = (1, 4)) : Ev d 70 2 ls (vR a :: st) h = Ev d 70 5 ls (vI (gI h a 3) :: st) h := Rget hB_70 dX4_leaveEntry_2 rfl (Or.inl hS)
set_option maxRecDepth 100000 in
theorem v70_5 {d : Nat} {ls : LS3} {st : List MV} {h : Hp} {x0 : Int32} {x1 : Int32} (hc : catS st ≤ 8) : Ev (d + 1) 70 5 ls (vI x1 :: vI x0 :: st) h = Evk 137 (d + 1) 70 5 ls st (Ev d 137 0 [some (vI x0), some (vI x1)] [] h) := RcallS (idx := 199) (n := 2) (kd := 3) (As := [vI x0, vI x1]) hB_70 dX4_leaveEntry_5 rfl rfl (by decide) rfl rfl rfl hc
theorem v70_8 {d : Nat} {ls : LS3} {st : List MV} {h : Hp} {x : Int32} : Ev d 70 8 ls (vI x :: st) h = if x = 0 then Ev d 70 25 ls st h else Ev d 70 11 ls st h := Rif hB_70 dX4_leaveEntry_8 rfl
theorem v70_11 {d : Nat} {st : List MV} {h : Hp} {x : Option A3} {a1 a2 : Option MV} : Ev d 70 11 [some (vO x), a1, a2] st h = Ev d 70 12 [some (vO x), a1, a2] (vO x :: st) h := Rnx (hB_70) (dX4_leaveEntry_11) rfl
theorem v70_12 {d : Nat} {st : List MV} {h : Hp} {x : Option A3} {a0 a2 : Option MV} : Ev d 70 12 [a0, some (vO x), a2] st h = Ev d 70 13 [a0, some (vO x), a2] (vO x :: st) h := Rnx (hB_70) (dX4_leaveEntry_12) rfl
theorem v70_13 {d : Nat} {st : List MV} {h : Hp} {x : Option A3} {a1 a2 : Option MV} : Ev d 70 13 [some (vO x), a1, a2] st h = Ev d 70 14 [some (vO x), a1, a2] (vO x :: st) h := Rnx (hB_70) (dX4_leaveEntry_13) rfl
set_option maxRecDepth 100000 in
theorem v70_14 {d : Nat} {ls : LS3} {st : List MV} {h : Hp} {a : A3} (hS : gS h a = (1, 4)) : Ev d 70 14 ls (vR a :: st) h = Ev d 70 17 ls (vO (gR h a 0) :: st) h := Rget hB_70 dX4_leaveEntry_14 rfl (Or.inl hS)
theorem v70_17 {d : Nat} {st : List MV} {h : Hp} {x : Int32} {a0 a1 : Option MV} : Ev d 70 17 [a0, a1, some (vI x)] st h = Ev d 70 18 [a0, a1, some (vI x)] (vI x :: st) h := Rnx (hB_70) (dX4_leaveEntry_17) rfl
theorem v70_18 {d : Nat} {ls : LS3} {st : List MV} {h : Hp} {a : A3} {j : Int32} (hS : (gS h a).1 ∈ [6, 7, 8]) (hj : inB j (gS h a).2) : Ev d 70 18 ls (vI j :: vR a :: st) h = Ev d 70 19 ls (vO (gR h a j.toNatClampNeg) :: st) h := Rald (ks := [6, 7, 8]) (f := fun a j => vO (gR h a j)) hB_70 dX4_leaveEntry_18 rfl hS hj
set_option maxRecDepth 100000 in
theorem v70_19 {d : Nat} {ls : LS3} {st : List MV} {h : Hp} {a : A3} {o0 : Option A3} {o1 : Option A3} (hS : gS h a = (1, 4)) (hc : catS st ≤ 8) : Ev (d + 1) 70 19 ls (vO o1 :: vO o0 :: vR a :: st) h = Evk 44 (d + 1) 70 19 ls st (Ev d 44 0 [some (vR a), some (vO o0), some (vO o1)] [] h) := RcallO (idx := 235) (n := 2) (kd := 0) (As' := [vO o0, vO o1]) hB_70 dX4_leaveEntry_19 rfl rfl (by decide) rfl rfl (Or.inl hS) rfl hc
theorem v70_22 {d : Nat} {ls : LS3} {st : List MV} {h : Hp} {x : Int32} : Ev d 70 22 ls (vI x :: st) h = if x = 0 then Ev d 70 25 ls st h else Ev d 70 27 ls st h := Rifn hB_70 dX4_leaveEntry_22 rfl
theorem v70_25 {d : Nat} {ls : LS3} {st : List MV} {h : Hp} : Ev d 70 25 ls st h = Ev d 70 26 ls (vI (-1) :: st) h := Rnx (hB_70) (dX4_leaveEntry_25) rfl
theorem v70_26 {d : Nat} {ls : LS3} {h : Hp} {x : Int32} : Ev d 70 26 ls [vI x] h = some (.inl (some (vI x)), h) := Rdn hB_70 dX4_leaveEntry_26 rfl
theorem v70_27 {d : Nat} {st : List MV} {h : Hp} {x : Option A3} {a0 a2 : Option MV} : Ev d 70 27 [a0, some (vO x), a2] st h = Ev d 70 28 [a0, some (vO x), a2] (vO x :: st) h := Rnx (hB_70) (dX4_leaveEntry_27) rfl
theorem v70_28 {d : Nat} {ls : LS3} {st : List MV} {h : Hp} {v : MV} (hv : cat1 v = true) : Ev d 70 28 ls (v :: st) h = Ev d 70 29 ls (v :: v :: st) h := Rdup hB_70 dX4_leaveEntry_28 hv
set_option maxRecDepth 100000 in
theorem v70_29 {d : Nat} {ls : LS3} {st : List MV} {h : Hp} {a : A3} (hS : gS h a = (1, 5)) : Ev d 70 29 ls (vR a :: st) h = Ev d 70 32 ls (vI (gI h a 6) :: st) h := Rget hB_70 dX4_leaveEntry_29 rfl (Or.inl hS)
theorem v70_32 {d : Nat} {st : List MV} {h : Hp} {x : Option A3} {a1 a2 : Option MV} : Ev d 70 32 [some (vO x), a1, a2] st h = Ev d 70 33 [some (vO x), a1, a2] (vO x :: st) h := Rnx (hB_70) (dX4_leaveEntry_32) rfl
set_option maxRecDepth 100000 in
theorem v70_33 {d : Nat} {ls : LS3} {st : List MV} {h : Hp} {a : A3} (hS : gS h a = (1, 4)) : Ev d 70 33 ls (vR a :: st) h = Ev d 70 36 ls (vO (gR h a 0) :: st) h := Rget hB_70 dX4_leaveEntry_33 rfl (Or.inl hS)
theorem v70_36 {d : Nat} {st : List MV} {h : Hp} {x : Int32} {a0 a1 : Option MV} : Ev d 70 36 [a0, a1, some (vI x)] st h = Ev d 70 37 [a0, a1, some (vI x)] (vI x :: st) h := Rnx (hB_70) (dX4_leaveEntry_36) rfl
theorem v70_37 {d : Nat} {ls : LS3} {st : List MV} {h : Hp} {a : A3} {j : Int32} (hS : (gS h a).1 ∈ [6, 7, 8]) (hj : inB j (gS h a).2) : Ev d 70 37 ls (vI j :: vR a :: st) h = Ev d 70 38 ls (vO (gR h a j.toNatClampNeg) :: st) h := Rald (ks := [6, 7, 8]) (f := fun a j => vO (gR h a j)) hB_70 dX4_leaveEntry_37 rfl hS hj
set_option maxRecDepth 100000 in
theorem v70_38 {d : Nat} {ls : LS3} {st : List MV} {h : Hp} {a : A3}  (hS : gS h a = (1, 3)) (hc : catS st ≤ 8) : Ev (d + 1) 70 38 ls (vR a :: st) h = Evk 24 (d + 1) 70 38 ls st (Ev d 24 0 [some (vR a)] [] h) := RcallO (idx := 105) (n := 0) (kd := 0) (As' := []) hB_70 dX4_leaveEntry_38 rfl rfl (by decide) rfl rfl (Or.inl hS) rfl hc
theorem v70_41 {d : Nat} {ls : LS3} {st : List MV} {h : Hp} : Ev d 70 41 ls st h = Ev d 70 42 ls (vI (-1) :: st) h := Rnx (hB_70) (dX4_leaveEntry_41) rfl
theorem v70_42 {d : Nat} {ls : LS3} {st : List MV} {h : Hp} {x y : Int32} : Ev d 70 42 ls (vI y :: vI x :: st) h = Ev d 70 43 ls (vI (x ^^^ y) :: st) h := Rnx (hB_70) (dX4_leaveEntry_42) rfl
theorem v70_43 {d : Nat} {ls : LS3} {st : List MV} {h : Hp} {x y : Int32} : Ev d 70 43 ls (vI y :: vI x :: st) h = Ev d 70 44 ls (vI (x &&& y) :: st) h := Rnx (hB_70) (dX4_leaveEntry_43) rfl
set_option maxRecDepth 100000 in
theorem v70_44 {d : Nat} {ls : LS3} {st : List MV} {h : Hp} {a : A3} {x : Int32} (hS : gS h a = (1, 5)) : Ev d 70 44 ls (vI x :: vR a :: st) h = Ev d 70 47 ls st (sI h a 6 x) := RputI hB_70 dX4_leaveEntry_44 rfl rfl (by decide) hS (Or.inl rfl)
theorem v70_47 {d : Nat} {st : List MV} {h : Hp} {x : Option A3} {a1 a2 : Option MV} : Ev d 70 47 [some (vO x), a1, a2] st h = Ev d 70 48 [some (vO x), a1, a2] (vO x :: st) h := Rnx (hB_70) (dX4_leaveEntry_47) rfl
theorem v70_48 {d : Nat} {st : List MV} {h : Hp} {x : Option A3} {a0 a2 : Option MV} : Ev d 70 48 [a0, some (vO x), a2] st h = Ev d 70 49 [a0, some (vO x), a2] (vO x :: st) h := Rnx (hB_70) (dX4_leaveEntry_48) rfl
set_option maxRecDepth 100000 in
theorem v70_49 {d : Nat} {ls : LS3} {st : List MV} {h : Hp} {a : A3} {o0 : Option A3} (hS : gS h a = (1, 4)) (hc : catS st ≤ 8) : Ev (d + 1) 70 49 ls (vO o0 :: vR a :: st) h = Evk 45 (d + 1) 70 49 ls st (Ev d 45 0 [some (vR a), some (vO o0), none] [] h) := RcallO (idx := 239) (n := 1) (kd := 0) (As' := [vO o0]) hB_70 dX4_leaveEntry_49 rfl rfl (by decide) rfl rfl (Or.inl hS) rfl hc
theorem v70_52 {d : Nat} {ls : LS3} {st : List MV} {h : Hp} {v : MV} (hv : cat1 v = true) : Ev d 70 52 ls (v :: st) h = Ev d 70 53 ls st h := Rpop hB_70 dX4_leaveEntry_52 hv
theorem v70_53 {d : Nat} {ls : LS3} {st : List MV} {h : Hp} : Ev d 70 53 ls st h = Ev d 70 54 ls (vI 0 :: st) h := Rnx (hB_70) (dX4_leaveEntry_53) rfl
theorem v70_54 {d : Nat} {ls : LS3} {h : Hp} {x : Int32} : Ev d 70 54 ls [vI x] h = some (.inl (some (vI x)), h) := Rdn hB_70 dX4_leaveEntry_54 rfl
theorem hB_71 : mB 71 = cX4_placeEntry := rfl
theorem v71_0 {d : Nat} {st : List MV} {h : Hp} {x : Int32} {a0 a1 a3 a4 a5 : Option MV} : Ev d 71 0 [a0, a1, some (vI x), a3, a4, a5] st h = Ev d 71 1 [a0, a1, some (vI x), a3, a4, a5] (vI x :: st) h := Rnx (hB_71) (dX4_placeEntry_0) rfl
theorem v71_1 {d : Nat} {ls : LS3} {st : List MV} {h : Hp} : Ev d 71 1 ls st h = Ev d 71 2 ls (vI 3 :: st) h := Rnx (hB_71) (dX4_placeEntry_1) rfl
set_option maxRecDepth 100000 in
theorem v71_2 {d : Nat} {ls : LS3} {st : List MV} {h : Hp} {x0 : Int32} {x1 : Int32} (hc : catS st ≤ 8) : Ev (d + 1) 71 2 ls (vI x1 :: vI x0 :: st) h = Evk 137 (d + 1) 71 2 ls st (Ev d 137 0 [some (vI x0), some (vI x1)] [] h) := RcallS (idx := 199) (n := 2) (kd := 3) (As := [vI x0, vI x1]) hB_71 dX4_placeEntry_2 rfl rfl (by decide) rfl rfl rfl hc
theorem v71_5 {d : Nat} {ls : LS3} {st : List MV} {h : Hp} {x : Int32} : Ev d 71 5 ls (vI x :: st) h = if x = 0 then Ev d 71 25 ls st h else Ev d 71 8 ls st h := Rif hB_71 dX4_placeEntry_5 rfl
theorem v71_8 {d : Nat} {st : List MV} {h : Hp} {x : Int32} {a0 a1 a2 a4 a5 : Option MV} : Ev d 71 8 [a0, a1, a2, some (vI x), a4, a5] st h = Ev d 71 9 [a0, a1, a2, some (vI x), a4, a5] (vI x :: st) h := Rnx (hB_71) (dX4_placeEntry_8) rfl
set_option maxRecDepth 100000 in
theorem v71_9 {d : Nat} {ls : LS3} {st : List MV} {h : Hp} {x0 : Int32} (hc : catS st ≤ 8) : Ev (d + 1) 71 9 ls (vI x0 :: st) h = Evk 138 (d + 1) 71 9 ls st (Ev d 138 0 [some (vI x0)] [] h) := RcallS (idx := 243) (n := 1) (kd := 3) (As := [vI x0]) hB_71 dX4_placeEntry_9 rfl rfl (by decide) rfl rfl rfl hc
theorem v71_12 {d : Nat} {ls : LS3} {st : List MV} {h : Hp} {x : Int32} : Ev d 71 12 ls (vI x :: st) h = if x = 0 then Ev d 71 25 ls st h else Ev d 71 15 ls st h := Rif hB_71 dX4_placeEntry_12 rfl
theorem v71_15 {d : Nat} {st : List MV} {h : Hp} {x : Int32} {a0 a1 a2 a3 a5 : Option MV} : Ev d 71 15 [a0, a1, a2, a3, some (vI x), a5] st h = Ev d 71 17 [a0, a1, a2, a3, some (vI x), a5] (vI x :: st) h := Rnx (hB_71) (dX4_placeEntry_15) rfl
theorem v71_17 {d : Nat} {ls : LS3} {st : List MV} {h : Hp} : Ev d 71 17 ls st h = Ev d 71 19 ls (vI 7 :: st) h := Rnx (hB_71) (dX4_placeEntry_17) rfl
set_option maxRecDepth 100000 in
theorem v71_19 {d : Nat} {ls : LS3} {st : List MV} {h : Hp} {x0 : Int32} {x1 : Int32} (hc : catS st ≤ 8) : Ev (d + 1) 71 19 ls (vI x1 :: vI x0 :: st) h = Evk 137 (d + 1) 71 19 ls st (Ev d 137 0 [some (vI x0), some (vI x1)] [] h) := RcallS (idx := 199) (n := 2) (kd := 3) (As := [vI x0, vI x1]) hB_71 dX4_placeEntry_19 rfl rfl (by decide) rfl rfl rfl hc
theorem v71_22 {d : Nat} {ls : LS3} {st : List MV} {h : Hp} {x : Int32} : Ev d 71 22 ls (vI x :: st) h = if x = 0 then Ev d 71 25 ls st h else Ev d 71 27 ls st h := Rifn hB_71 dX4_placeEntry_22 rfl
theorem v71_25 {d : Nat} {ls : LS3} {st : List MV} {h : Hp} : Ev d 71 25 ls st h = Ev d 71 26 ls (vI (-1) :: st) h := Rnx (hB_71) (dX4_placeEntry_25) rfl
theorem v71_26 {d : Nat} {ls : LS3} {h : Hp} {x : Int32} : Ev d 71 26 ls [vI x] h = some (.inl (some (vI x)), h) := Rdn hB_71 dX4_placeEntry_26 rfl
theorem v71_27 {d : Nat} {st : List MV} {h : Hp} {x : Option A3} {a1 a2 a3 a4 a5 : Option MV} : Ev d 71 27 [some (vO x), a1, a2, a3, a4, a5] st h = Ev d 71 28 [some (vO x), a1, a2, a3, a4, a5] (vO x :: st) h := Rnx (hB_71) (dX4_placeEntry_27) rfl
theorem v71_28 {d : Nat} {st : List MV} {h : Hp} {x : Option A3} {a0 a2 a3 a4 a5 : Option MV} : Ev d 71 28 [a0, some (vO x), a2, a3, a4, a5] st h = Ev d 71 29 [a0, some (vO x), a2, a3, a4, a5] (vO x :: st) h := Rnx (hB_71) (dX4_placeEntry_28) rfl
theorem v71_29 {d : Nat} {st : List MV} {h : Hp} {x : Int32} {a0 a1 a3 a4 a5 : Option MV} : Ev d 71 29 [a0, a1, some (vI x), a3, a4, a5] st h = Ev d 71 30 [a0, a1, some (vI x), a3, a4, a5] (vI x :: st) h := Rnx (hB_71) (dX4_placeEntry_29) rfl
theorem v71_30 {d : Nat} {st : List MV} {h : Hp} {x : Int32} {a0 a1 a2 a4 a5 : Option MV} : Ev d 71 30 [a0, a1, a2, some (vI x), a4, a5] st h = Ev d 71 31 [a0, a1, a2, some (vI x), a4, a5] (vI x :: st) h := Rnx (hB_71) (dX4_placeEntry_30) rfl
theorem v71_31 {d : Nat} {st : List MV} {h : Hp} {x : Int32} {a0 a1 a2 a3 a5 : Option MV} : Ev d 71 31 [a0, a1, a2, a3, some (vI x), a5] st h = Ev d 71 33 [a0, a1, a2, a3, some (vI x), a5] (vI x :: st) h := Rnx (hB_71) (dX4_placeEntry_31) rfl
set_option maxRecDepth 100000 in
theorem v71_33 {d : Nat} {ls : LS3} {st : List MV} {h : Hp} {a : A3} {o0 : Option A3} {x1 : Int32} {x2 : Int32} {x3 : Int32} (hS : gS h a = (1, 4)) (hc : catS st ≤ 8) : Ev (d + 1) 71 33 ls (vI x3 :: vI x2 :: vI x1 :: vO o0 :: vR a :: st) h = Evk 49 (d + 1) 71 33 ls st (Ev d 49 0 [some (vR a), some (vO o0), some (vI x1), some (vI x2), some (vI x3)] [] h) := RcallO (idx := 246) (n := 4) (kd := 0) (As' := [vO o0, vI x1, vI x2, vI x3]) hB_71 dX4_placeEntry_33 rfl rfl (by decide) rfl rfl (Or.inl hS) rfl hc
theorem v71_36 {d : Nat} {st : List MV} {h : Hp} {x : Int32} {a0 a1 a2 a3 a4 a5 : Option MV} : Ev d 71 36 [a0, a1, a2, a3, a4, a5] (vI x :: st) h = Ev d 71 38 [a0, a1, a2, a3, a4, some (vI x)] st h := Rnx (hB_71) (dX4_placeEntry_36) rfl
theorem v71_38 {d : Nat} {st : List MV} {h : Hp} {x : Int32} {a0 a1 a2 a3 a4 : Option MV} : Ev d 71 38 [a0, a1, a2, a3, a4, some (vI x)] st h = Ev d 71 40 [a0, a1, a2, a3, a4, some (vI x)] (vI x :: st) h := Rnx (hB_71) (dX4_placeEntry_38) rfl
theorem v71_40 {d : Nat} {ls : LS3} {st : List MV} {h : Hp} {x : Int32} : Ev d 71 40 ls (vI x :: st) h = if x = 0 then Ev d 71 46 ls st h else Ev d 71 43 ls st h := Rif hB_71 dX4_placeEntry_40 rfl
theorem v71_43 {d : Nat} {st : List MV} {h : Hp} {x : Int32} {a0 a1 a2 a3 a4 : Option MV} : Ev d 71 43 [a0, a1, a2, a3, a4, some (vI x)] st h = Ev d 71 45 [a0, a1, a2, a3, a4, some (vI x)] (vI x :: st) h := Rnx (hB_71) (dX4_placeEntry_43) rfl
theorem v71_45 {d : Nat} {ls : LS3} {h : Hp} {x : Int32} : Ev d 71 45 ls [vI x] h = some (.inl (some (vI x)), h) := Rdn hB_71 dX4_placeEntry_45 rfl
theorem v71_46 {d : Nat} {st : List MV} {h : Hp} {x : Option A3} {a0 a2 a3 a4 a5 : Option MV} : Ev d 71 46 [a0, some (vO x), a2, a3, a4, a5] st h = Ev d 71 47 [a0, some (vO x), a2, a3, a4, a5] (vO x :: st) h := Rnx (hB_71) (dX4_placeEntry_46) rfl
theorem v71_47 {d : Nat} {st : List MV} {h : Hp} {x : Int32} {a0 a1 a3 a4 a5 : Option MV} : Ev d 71 47 [a0, a1, some (vI x), a3, a4, a5] st h = Ev d 71 48 [a0, a1, some (vI x), a3, a4, a5] (vI x :: st) h := Rnx (hB_71) (dX4_placeEntry_47) rfl
theorem v71_48 {d : Nat} {st : List MV} {h : Hp} {x : Int32} {a0 a1 a2 a4 a5 : Option MV} : Ev d 71 48 [a0, a1, a2, some (vI x), a4, a5] st h = Ev d 71 49 [a0, a1, a2, some (vI x), a4, a5] (vI x :: st) h := Rnx (hB_71) (dX4_placeEntry_48) rfl
theorem v71_49 {d : Nat} {st : List MV} {h : Hp} {x : Int32} {a0 a1 a2 a3 a5 : Option MV} : Ev d 71 49 [a0, a1, a2, a3, some (vI x), a5] st h = Ev d 71 51 [a0, a1, a2, a3, some (vI x), a5] (vI x :: st) h := Rnx (hB_71) (dX4_placeEntry_49) rfl
set_option maxRecDepth 100000 in
theorem v71_51 {d : Nat} {ls : LS3} {st : List MV} {h : Hp} {a : A3} {x0 : Int32} {x1 : Int32} {x2 : Int32} (hS : gS h a = (1, 5)) (hc : catS st ≤ 8) : Ev (d + 1) 71 51 ls (vI x2 :: vI x1 :: vI x0 :: vR a :: st) h = Evk 77 (d + 1) 71 51 ls st (Ev d 77 0 [some (vR a), some (vI x0), some (vI x1), some (vI x2)] [] h) := RcallO (idx := 206) (n := 3) (kd := 0) (As' := [vI x0, vI x1, vI x2]) hB_71 dX4_placeEntry_51 rfl rfl (by decide) rfl rfl (Or.inl hS) rfl hc
theorem v71_54 {d : Nat} {ls : LS3} {st : List MV} {h : Hp} : Ev d 71 54 ls st h = Ev d 71 55 ls (vI 0 :: st) h := Rnx (hB_71) (dX4_placeEntry_54) rfl
theorem v71_55 {d : Nat} {ls : LS3} {h : Hp} {x : Int32} : Ev d 71 55 ls [vI x] h = some (.inl (some (vI x)), h) := Rdn hB_71 dX4_placeEntry_55 rfl
theorem hB_72 : mB 72 = cX4_nextEntry := rfl
theorem v72_0 {d : Nat} {st : List MV} {h : Hp} {x : Option A3} {a1 : Option MV} : Ev d 72 0 [some (vO x), a1] st h = Ev d 72 1 [some (vO x), a1] (vO x :: st) h := Rnx (hB_72) (dX4_nextEntry_0) rfl
theorem v72_1 {d : Nat} {st : List MV} {h : Hp} {x : Option A3} {a0 : Option MV} : Ev d 72 1 [a0, some (vO x)] st h = Ev d 72 2 [a0, some (vO x)] (vO x :: st) h := Rnx (hB_72) (dX4_nextEntry_1) rfl
set_option maxRecDepth 100000 in
theorem v72_2 {d : Nat} {ls : LS3} {st : List MV} {h : Hp} {a : A3} {o0 : Option A3} (hS : gS h a = (1, 4)) (hc : catS st ≤ 8) : Ev (d + 1) 72 2 ls (vO o0 :: vR a :: st) h = Evk 54 (d + 1) 72 2 ls st (Ev d 54 0 [some (vR a), some (vO o0)] [] h) := RcallO (idx := 249) (n := 1) (kd := 0) (As' := [vO o0]) hB_72 dX4_nextEntry_2 rfl rfl (by decide) rfl rfl (Or.inl hS) rfl hc
theorem v72_5 {d : Nat} {ls : LS3} {st : List MV} {h : Hp} {x : Int32} : Ev d 72 5 ls (vI x :: st) h = if x = 0 then Ev d 72 8 ls st h else Ev d 72 10 ls st h := Rifn hB_72 dX4_nextEntry_5 rfl
theorem v72_8 {d : Nat} {ls : LS3} {st : List MV} {h : Hp} : Ev d 72 8 ls st h = Ev d 72 9 ls (vI (-1) :: st) h := Rnx (hB_72) (dX4_nextEntry_8) rfl
theorem v72_9 {d : Nat} {ls : LS3} {h : Hp} {x : Int32} : Ev d 72 9 ls [vI x] h = some (.inl (some (vI x)), h) := Rdn hB_72 dX4_nextEntry_9 rfl
theorem v72_10 {d : Nat} {st : List MV} {h : Hp} {x : Option A3} {a0 : Option MV} : Ev d 72 10 [a0, some (vO x)] st h = Ev d 72 11 [a0, some (vO x)] (vO x :: st) h := Rnx (hB_72) (dX4_nextEntry_10) rfl
theorem v72_11 {d : Nat} {ls : LS3} {st : List MV} {h : Hp} {v : MV} (hv : cat1 v = true) : Ev d 72 11 ls (v :: st) h = Ev d 72 12 ls (v :: v :: st) h := Rdup hB_72 dX4_nextEntry_11 hv
set_option maxRecDepth 100000 in
theorem v72_12 {d : Nat} {ls : LS3} {st : List MV} {h : Hp} {a : A3} (hS : gS h a = (1, 5)) : Ev d 72 12 ls (vR a :: st) h = Ev d 72 15 ls (vI (gI h a 5) :: st) h := Rget hB_72 dX4_nextEntry_12 rfl (Or.inl hS)
theorem v72_15 {d : Nat} {ls : LS3} {st : List MV} {h : Hp} : Ev d 72 15 ls st h = Ev d 72 16 ls (vI 1 :: st) h := Rnx (hB_72) (dX4_nextEntry_15) rfl
theorem v72_16 {d : Nat} {ls : LS3} {st : List MV} {h : Hp} {x y : Int32} : Ev d 72 16 ls (vI y :: vI x :: st) h = Ev d 72 17 ls (vI (x + y) :: st) h := Rnx (hB_72) (dX4_nextEntry_16) rfl
set_option maxRecDepth 100000 in
theorem v72_17 {d : Nat} {ls : LS3} {st : List MV} {h : Hp} {a : A3} {x : Int32} (hS : gS h a = (1, 5)) : Ev d 72 17 ls (vI x :: vR a :: st) h = Ev d 72 20 ls st (sI h a 5 x) := RputI hB_72 dX4_nextEntry_17 rfl rfl (by decide) hS (Or.inl rfl)
theorem v72_20 {d : Nat} {ls : LS3} {st : List MV} {h : Hp} : Ev d 72 20 ls st h = Ev d 72 21 ls (vI 0 :: st) h := Rnx (hB_72) (dX4_nextEntry_20) rfl
theorem v72_21 {d : Nat} {ls : LS3} {h : Hp} {x : Int32} : Ev d 72 21 ls [vI x] h = some (.inl (some (vI x)), h) := Rdn hB_72 dX4_nextEntry_21 rfl
theorem hB_73 : mB 73 = cX5_init := rfl
theorem v73_0 {d : Nat} {st : List MV} {h : Hp} {x : Option A3} {a1 : Option MV} : Ev d 73 0 [some (vO x), a1] st h = Ev d 73 1 [some (vO x), a1] (vO x :: st) h := Rnx (hB_73) (dX5_init_0) rfl
set_option maxRecDepth 100000 in
theorem v73_1 {d : Nat} {ls : LS3} {st : List MV} {h : Hp} {a : A3} (hc : catS st ≤ 8) : Ev d 73 1 ls (vR a :: st) h = Ev d 73 4 ls st h := Robj hB_73 dX5_init_1 rfl hc
theorem v73_4 {d : Nat} {st : List MV} {h : Hp} {x : Option A3} {a1 : Option MV} : Ev d 73 4 [some (vO x), a1] st h = Ev d 73 5 [some (vO x), a1] (vO x :: st) h := Rnx (hB_73) (dX5_init_4) rfl
theorem v73_5 {d : Nat} {st : List MV} {h : Hp} {x : Int32} {a0 : Option MV} : Ev d 73 5 [a0, some (vI x)] st h = Ev d 73 6 [a0, some (vI x)] (vI x :: st) h := Rnx (hB_73) (dX5_init_5) rfl
set_option maxRecDepth 100000 in
theorem v73_6 {d : Nat} {ls : LS3} {st : List MV} {h : Hp} {a : A3} {x : Int32} (hS : gS h a = (1, 5)) : Ev d 73 6 ls (vI x :: vR a :: st) h = Ev d 73 9 ls st (sI h a 0 x) := RputI hB_73 dX5_init_6 rfl rfl (by decide) hS (Or.inl rfl)
theorem v73_9 {d : Nat} {st : List MV} {h : Hp} {x : Option A3} {a1 : Option MV} : Ev d 73 9 [some (vO x), a1] st h = Ev d 73 10 [some (vO x), a1] (vO x :: st) h := Rnx (hB_73) (dX5_init_9) rfl
theorem v73_10 {d : Nat} {ls : LS3} {st : List MV} {h : Hp} : Ev d 73 10 ls st h = Ev d 73 11 ls (vI (-1) :: st) h := Rnx (hB_73) (dX5_init_10) rfl
set_option maxRecDepth 100000 in
theorem v73_11 {d : Nat} {ls : LS3} {st : List MV} {h : Hp} {a : A3} {x : Int32} (hS : gS h a = (1, 5)) : Ev d 73 11 ls (vI x :: vR a :: st) h = Ev d 73 14 ls st (sI h a 4 x) := RputI hB_73 dX5_init_11 rfl rfl (by decide) hS (Or.inl rfl)
theorem v73_14 {d : Nat} {st : List MV} {h : Hp} {x : Option A3} {a1 : Option MV} : Ev d 73 14 [some (vO x), a1] st h = Ev d 73 15 [some (vO x), a1] (vO x :: st) h := Rnx (hB_73) (dX5_init_14) rfl
theorem v73_15 {d : Nat} {ls : LS3} {st : List MV} {h : Hp} : Ev d 73 15 ls st h = Ev d 73 16 ls (vI (-1) :: st) h := Rnx (hB_73) (dX5_init_15) rfl
set_option maxRecDepth 100000 in
theorem v73_16 {d : Nat} {ls : LS3} {st : List MV} {h : Hp} {a : A3} {x : Int32} (hS : gS h a = (1, 5)) : Ev d 73 16 ls (vI x :: vR a :: st) h = Ev d 73 19 ls st (sI h a 7 x) := RputI hB_73 dX5_init_16 rfl rfl (by decide) hS (Or.inl rfl)
theorem v73_19 {d : Nat} {st : List MV} {h : Hp} {x : Option A3} {a1 : Option MV} : Ev d 73 19 [some (vO x), a1] st h = Ev d 73 20 [some (vO x), a1] (vO x :: st) h := Rnx (hB_73) (dX5_init_19) rfl
theorem v73_20 {d : Nat} {ls : LS3} {st : List MV} {h : Hp} : Ev d 73 20 ls st h = Ev d 73 21 ls (vI (-1) :: st) h := Rnx (hB_73) (dX5_init_20) rfl
set_option maxRecDepth 100000 in
theorem v73_21 {d : Nat} {ls : LS3} {st : List MV} {h : Hp} {a : A3} {x : Int32} (hS : gS h a = (1, 5)) : Ev d 73 21 ls (vI x :: vR a :: st) h = Ev d 73 24 ls st (sI h a 8 x) := RputI hB_73 dX5_init_21 rfl rfl (by decide) hS (Or.inl rfl)
theorem v73_24 {d : Nat} {st : List MV} {h : Hp} {x : Option A3} {a1 : Option MV} : Ev d 73 24 [some (vO x), a1] st h = Ev d 73 25 [some (vO x), a1] (vO x :: st) h := Rnx (hB_73) (dX5_init_24) rfl
theorem v73_25 {d : Nat} {ls : LS3} {st : List MV} {h : Hp} : Ev d 73 25 ls st h = Ev d 73 26 ls (vI (-1) :: st) h := Rnx (hB_73) (dX5_init_25) rfl
set_option maxRecDepth 100000 in
theorem v73_26 {d : Nat} {ls : LS3} {st : List MV} {h : Hp} {a : A3} {x : Int32} (hS : gS h a = (1, 5)) : Ev d 73 26 ls (vI x :: vR a :: st) h = Ev d 73 29 ls st (sI h a 9 x) := RputI hB_73 dX5_init_26 rfl rfl (by decide) hS (Or.inl rfl)
theorem v73_29 {d : Nat} {ls : LS3} {h : Hp} : Ev d 73 29 ls [] h = some (.inl none, h) := Rdn hB_73 dX5_init_29 rfl
theorem hB_74 : mB 74 = cX5_set := rfl
theorem v74_0 {d : Nat} {st : List MV} {h : Hp} {x : Option A3} {a1 a2 a3 a4 : Option MV} : Ev d 74 0 [some (vO x), a1, a2, a3, a4] st h = Ev d 74 1 [some (vO x), a1, a2, a3, a4] (vO x :: st) h := Rnx (hB_74) (dX5_set_0) rfl
theorem v74_1 {d : Nat} {st : List MV} {h : Hp} {x : Int32} {a0 a2 a3 a4 : Option MV} : Ev d 74 1 [a0, some (vI x), a2, a3, a4] st h = Ev d 74 2 [a0, some (vI x), a2, a3, a4] (vI x :: st) h := Rnx (hB_74) (dX5_set_1) rfl
set_option maxRecDepth 100000 in
theorem v74_2 {d : Nat} {ls : LS3} {st : List MV} {h : Hp} {a : A3} {x : Int32} (hS : gS h a = (1, 5)) : Ev d 74 2 ls (vI x :: vR a :: st) h = Ev d 74 5 ls st (sI h a 1 x) := RputI hB_74 dX5_set_2 rfl rfl (by decide) hS (Or.inl rfl)
theorem v74_5 {d : Nat} {st : List MV} {h : Hp} {x : Option A3} {a1 a2 a3 a4 : Option MV} : Ev d 74 5 [some (vO x), a1, a2, a3, a4] st h = Ev d 74 6 [some (vO x), a1, a2, a3, a4] (vO x :: st) h := Rnx (hB_74) (dX5_set_5) rfl
theorem v74_6 {d : Nat} {st : List MV} {h : Hp} {x : Int32} {a0 a1 a3 a4 : Option MV} : Ev d 74 6 [a0, a1, some (vI x), a3, a4] st h = Ev d 74 7 [a0, a1, some (vI x), a3, a4] (vI x :: st) h := Rnx (hB_74) (dX5_set_6) rfl
set_option maxRecDepth 100000 in
theorem v74_7 {d : Nat} {ls : LS3} {st : List MV} {h : Hp} {a : A3} {x : Int32} (hS : gS h a = (1, 5)) : Ev d 74 7 ls (vI x :: vR a :: st) h = Ev d 74 10 ls st (sI h a 2 x) := RputI hB_74 dX5_set_7 rfl rfl (by decide) hS (Or.inl rfl)
theorem v74_10 {d : Nat} {st : List MV} {h : Hp} {x : Option A3} {a1 a2 a3 a4 : Option MV} : Ev d 74 10 [some (vO x), a1, a2, a3, a4] st h = Ev d 74 11 [some (vO x), a1, a2, a3, a4] (vO x :: st) h := Rnx (hB_74) (dX5_set_10) rfl
theorem v74_11 {d : Nat} {st : List MV} {h : Hp} {x : Int32} {a0 a1 a2 a4 : Option MV} : Ev d 74 11 [a0, a1, a2, some (vI x), a4] st h = Ev d 74 12 [a0, a1, a2, some (vI x), a4] (vI x :: st) h := Rnx (hB_74) (dX5_set_11) rfl
set_option maxRecDepth 100000 in
theorem v74_12 {d : Nat} {ls : LS3} {st : List MV} {h : Hp} {a : A3} {x : Int32} (hS : gS h a = (1, 5)) : Ev d 74 12 ls (vI x :: vR a :: st) h = Ev d 74 15 ls st (sI h a 3 x) := RputI hB_74 dX5_set_12 rfl rfl (by decide) hS (Or.inl rfl)
theorem v74_15 {d : Nat} {st : List MV} {h : Hp} {x : Option A3} {a1 a2 a3 a4 : Option MV} : Ev d 74 15 [some (vO x), a1, a2, a3, a4] st h = Ev d 74 16 [some (vO x), a1, a2, a3, a4] (vO x :: st) h := Rnx (hB_74) (dX5_set_15) rfl
theorem v74_16 {d : Nat} {st : List MV} {h : Hp} {x : Int32} {a0 a1 a2 a3 : Option MV} : Ev d 74 16 [a0, a1, a2, a3, some (vI x)] st h = Ev d 74 18 [a0, a1, a2, a3, some (vI x)] (vI x :: st) h := Rnx (hB_74) (dX5_set_16) rfl
set_option maxRecDepth 100000 in
theorem v74_18 {d : Nat} {ls : LS3} {st : List MV} {h : Hp} {a : A3} {x : Int32} (hS : gS h a = (1, 5)) : Ev d 74 18 ls (vI x :: vR a :: st) h = Ev d 74 21 ls st (sI h a 4 x) := RputI hB_74 dX5_set_18 rfl rfl (by decide) hS (Or.inl rfl)
theorem v74_21 {d : Nat} {ls : LS3} {h : Hp} : Ev d 74 21 ls [] h = some (.inl none, h) := Rdn hB_74 dX5_set_21 rfl
theorem hB_75 : mB 75 = cX5_makeNew := rfl
theorem v75_0 {d : Nat} {st : List MV} {h : Hp} {x : Option A3} : Ev d 75 0 [some (vO x)] st h = Ev d 75 1 [some (vO x)] (vO x :: st) h := Rnx (hB_75) (dX5_makeNew_0) rfl
theorem v75_1 {d : Nat} {ls : LS3} {st : List MV} {h : Hp} : Ev d 75 1 ls st h = Ev d 75 2 ls (vI 0 :: st) h := Rnx (hB_75) (dX5_makeNew_1) rfl
theorem v75_2 {d : Nat} {ls : LS3} {st : List MV} {h : Hp} : Ev d 75 2 ls st h = Ev d 75 3 ls (vI 0 :: st) h := Rnx (hB_75) (dX5_makeNew_2) rfl
theorem v75_3 {d : Nat} {ls : LS3} {st : List MV} {h : Hp} : Ev d 75 3 ls st h = Ev d 75 4 ls (vI 0 :: st) h := Rnx (hB_75) (dX5_makeNew_3) rfl
theorem v75_4 {d : Nat} {ls : LS3} {st : List MV} {h : Hp} : Ev d 75 4 ls st h = Ev d 75 5 ls (vI (-1) :: st) h := Rnx (hB_75) (dX5_makeNew_4) rfl
set_option maxRecDepth 100000 in
theorem v75_5 {d : Nat} {ls : LS3} {st : List MV} {h : Hp} {a : A3} {x0 : Int32} {x1 : Int32} {x2 : Int32} {x3 : Int32} (hS : gS h a = (1, 5)) (hc : catS st ≤ 8) : Ev (d + 1) 75 5 ls (vI x3 :: vI x2 :: vI x1 :: vI x0 :: vR a :: st) h = Evk 74 (d + 1) 75 5 ls st (Ev d 74 0 [some (vR a), some (vI x0), some (vI x1), some (vI x2), some (vI x3)] [] h) := RcallO (idx := 36) (n := 4) (kd := 0) (As' := [vI x0, vI x1, vI x2, vI x3]) hB_75 dX5_makeNew_5 rfl rfl (by decide) rfl rfl (Or.inl hS) rfl hc
theorem v75_8 {d : Nat} {st : List MV} {h : Hp} {x : Option A3} : Ev d 75 8 [some (vO x)] st h = Ev d 75 9 [some (vO x)] (vO x :: st) h := Rnx (hB_75) (dX5_makeNew_8) rfl
theorem v75_9 {d : Nat} {ls : LS3} {st : List MV} {h : Hp} : Ev d 75 9 ls st h = Ev d 75 10 ls (vI 0 :: st) h := Rnx (hB_75) (dX5_makeNew_9) rfl
set_option maxRecDepth 100000 in
theorem v75_10 {d : Nat} {ls : LS3} {st : List MV} {h : Hp} {a : A3} {x : Int32} (hS : gS h a = (1, 5)) : Ev d 75 10 ls (vI x :: vR a :: st) h = Ev d 75 13 ls st (sI h a 5 x) := RputI hB_75 dX5_makeNew_10 rfl rfl (by decide) hS (Or.inl rfl)
theorem v75_13 {d : Nat} {st : List MV} {h : Hp} {x : Option A3} : Ev d 75 13 [some (vO x)] st h = Ev d 75 14 [some (vO x)] (vO x :: st) h := Rnx (hB_75) (dX5_makeNew_13) rfl
theorem v75_14 {d : Nat} {ls : LS3} {st : List MV} {h : Hp} : Ev d 75 14 ls st h = Ev d 75 15 ls (vI 0 :: st) h := Rnx (hB_75) (dX5_makeNew_14) rfl
set_option maxRecDepth 100000 in
theorem v75_15 {d : Nat} {ls : LS3} {st : List MV} {h : Hp} {a : A3} {x : Int32} (hS : gS h a = (1, 5)) : Ev d 75 15 ls (vI x :: vR a :: st) h = Ev d 75 18 ls st (sI h a 6 x) := RputI hB_75 dX5_makeNew_15 rfl rfl (by decide) hS (Or.inl rfl)
theorem v75_18 {d : Nat} {st : List MV} {h : Hp} {x : Option A3} : Ev d 75 18 [some (vO x)] st h = Ev d 75 19 [some (vO x)] (vO x :: st) h := Rnx (hB_75) (dX5_makeNew_18) rfl
set_option maxRecDepth 100000 in
theorem v75_19 {d : Nat} {ls : LS3} {st : List MV} {h : Hp} {a : A3}  (hS : gS h a = (1, 5)) (hc : catS st ≤ 8) : Ev (d + 1) 75 19 ls (vR a :: st) h = Evk 78 (d + 1) 75 19 ls st (Ev d 78 0 [some (vR a)] [] h) := RcallO (idx := 46) (n := 0) (kd := 0) (As' := []) hB_75 dX5_makeNew_19 rfl rfl (by decide) rfl rfl (Or.inl hS) rfl hc
theorem v75_22 {d : Nat} {ls : LS3} {h : Hp} : Ev d 75 22 ls [] h = some (.inl none, h) := Rdn hB_75 dX5_makeNew_22 rfl
theorem hB_76 : mB 76 = cX5_copyFrom := rfl
theorem v76_0 {d : Nat} {st : List MV} {h : Hp} {x : Option A3} {a1 : Option MV} : Ev d 76 0 [some (vO x), a1] st h = Ev d 76 1 [some (vO x), a1] (vO x :: st) h := Rnx (hB_76) (dX5_copyFrom_0) rfl
theorem v76_1 {d : Nat} {st : List MV} {h : Hp} {x : Option A3} {a0 : Option MV} : Ev d 76 1 [a0, some (vO x)] st h = Ev d 76 2 [a0, some (vO x)] (vO x :: st) h := Rnx (hB_76) (dX5_copyFrom_1) rfl
set_option maxRecDepth 100000 in
theorem v76_2 {d : Nat} {ls : LS3} {st : List MV} {h : Hp} {a : A3} (hS : gS h a = (1, 5)) : Ev d 76 2 ls (vR a :: st) h = Ev d 76 5 ls (vI (gI h a 1) :: st) h := Rget hB_76 dX5_copyFrom_2 rfl (Or.inl hS)
theorem v76_5 {d : Nat} {st : List MV} {h : Hp} {x : Option A3} {a0 : Option MV} : Ev d 76 5 [a0, some (vO x)] st h = Ev d 76 6 [a0, some (vO x)] (vO x :: st) h := Rnx (hB_76) (dX5_copyFrom_5) rfl
set_option maxRecDepth 100000 in
theorem v76_6 {d : Nat} {ls : LS3} {st : List MV} {h : Hp} {a : A3} (hS : gS h a = (1, 5)) : Ev d 76 6 ls (vR a :: st) h = Ev d 76 9 ls (vI (gI h a 2) :: st) h := Rget hB_76 dX5_copyFrom_6 rfl (Or.inl hS)
theorem v76_9 {d : Nat} {st : List MV} {h : Hp} {x : Option A3} {a0 : Option MV} : Ev d 76 9 [a0, some (vO x)] st h = Ev d 76 10 [a0, some (vO x)] (vO x :: st) h := Rnx (hB_76) (dX5_copyFrom_9) rfl
set_option maxRecDepth 100000 in
theorem v76_10 {d : Nat} {ls : LS3} {st : List MV} {h : Hp} {a : A3} (hS : gS h a = (1, 5)) : Ev d 76 10 ls (vR a :: st) h = Ev d 76 13 ls (vI (gI h a 3) :: st) h := Rget hB_76 dX5_copyFrom_10 rfl (Or.inl hS)
theorem v76_13 {d : Nat} {st : List MV} {h : Hp} {x : Option A3} {a0 : Option MV} : Ev d 76 13 [a0, some (vO x)] st h = Ev d 76 14 [a0, some (vO x)] (vO x :: st) h := Rnx (hB_76) (dX5_copyFrom_13) rfl
set_option maxRecDepth 100000 in
theorem v76_14 {d : Nat} {ls : LS3} {st : List MV} {h : Hp} {a : A3} (hS : gS h a = (1, 5)) : Ev d 76 14 ls (vR a :: st) h = Ev d 76 17 ls (vI (gI h a 4) :: st) h := Rget hB_76 dX5_copyFrom_14 rfl (Or.inl hS)
set_option maxRecDepth 100000 in
theorem v76_17 {d : Nat} {ls : LS3} {st : List MV} {h : Hp} {a : A3} {x0 : Int32} {x1 : Int32} {x2 : Int32} {x3 : Int32} (hS : gS h a = (1, 5)) (hc : catS st ≤ 8) : Ev (d + 1) 76 17 ls (vI x3 :: vI x2 :: vI x1 :: vI x0 :: vR a :: st) h = Evk 74 (d + 1) 76 17 ls st (Ev d 74 0 [some (vR a), some (vI x0), some (vI x1), some (vI x2), some (vI x3)] [] h) := RcallO (idx := 36) (n := 4) (kd := 0) (As' := [vI x0, vI x1, vI x2, vI x3]) hB_76 dX5_copyFrom_17 rfl rfl (by decide) rfl rfl (Or.inl hS) rfl hc
theorem v76_20 {d : Nat} {st : List MV} {h : Hp} {x : Option A3} {a1 : Option MV} : Ev d 76 20 [some (vO x), a1] st h = Ev d 76 21 [some (vO x), a1] (vO x :: st) h := Rnx (hB_76) (dX5_copyFrom_20) rfl
theorem v76_21 {d : Nat} {st : List MV} {h : Hp} {x : Option A3} {a0 : Option MV} : Ev d 76 21 [a0, some (vO x)] st h = Ev d 76 22 [a0, some (vO x)] (vO x :: st) h := Rnx (hB_76) (dX5_copyFrom_21) rfl
set_option maxRecDepth 100000 in
theorem v76_22 {d : Nat} {ls : LS3} {st : List MV} {h : Hp} {a : A3} (hS : gS h a = (1, 5)) : Ev d 76 22 ls (vR a :: st) h = Ev d 76 25 ls (vI (gI h a 5) :: st) h := Rget hB_76 dX5_copyFrom_22 rfl (Or.inl hS)
set_option maxRecDepth 100000 in
theorem v76_25 {d : Nat} {ls : LS3} {st : List MV} {h : Hp} {a : A3} {x : Int32} (hS : gS h a = (1, 5)) : Ev d 76 25 ls (vI x :: vR a :: st) h = Ev d 76 28 ls st (sI h a 5 x) := RputI hB_76 dX5_copyFrom_25 rfl rfl (by decide) hS (Or.inl rfl)
theorem v76_28 {d : Nat} {st : List MV} {h : Hp} {x : Option A3} {a1 : Option MV} : Ev d 76 28 [some (vO x), a1] st h = Ev d 76 29 [some (vO x), a1] (vO x :: st) h := Rnx (hB_76) (dX5_copyFrom_28) rfl
theorem v76_29 {d : Nat} {st : List MV} {h : Hp} {x : Option A3} {a0 : Option MV} : Ev d 76 29 [a0, some (vO x)] st h = Ev d 76 30 [a0, some (vO x)] (vO x :: st) h := Rnx (hB_76) (dX5_copyFrom_29) rfl
set_option maxRecDepth 100000 in
theorem v76_30 {d : Nat} {ls : LS3} {st : List MV} {h : Hp} {a : A3} (hS : gS h a = (1, 5)) : Ev d 76 30 ls (vR a :: st) h = Ev d 76 33 ls (vI (gI h a 6) :: st) h := Rget hB_76 dX5_copyFrom_30 rfl (Or.inl hS)
set_option maxRecDepth 100000 in
theorem v76_33 {d : Nat} {ls : LS3} {st : List MV} {h : Hp} {a : A3} {x : Int32} (hS : gS h a = (1, 5)) : Ev d 76 33 ls (vI x :: vR a :: st) h = Ev d 76 36 ls st (sI h a 6 x) := RputI hB_76 dX5_copyFrom_33 rfl rfl (by decide) hS (Or.inl rfl)
theorem v76_36 {d : Nat} {st : List MV} {h : Hp} {x : Option A3} {a1 : Option MV} : Ev d 76 36 [some (vO x), a1] st h = Ev d 76 37 [some (vO x), a1] (vO x :: st) h := Rnx (hB_76) (dX5_copyFrom_36) rfl
theorem v76_37 {d : Nat} {st : List MV} {h : Hp} {x : Option A3} {a0 : Option MV} : Ev d 76 37 [a0, some (vO x)] st h = Ev d 76 38 [a0, some (vO x)] (vO x :: st) h := Rnx (hB_76) (dX5_copyFrom_37) rfl
set_option maxRecDepth 100000 in
theorem v76_38 {d : Nat} {ls : LS3} {st : List MV} {h : Hp} {a : A3} (hS : gS h a = (1, 5)) : Ev d 76 38 ls (vR a :: st) h = Ev d 76 41 ls (vI (gI h a 7) :: st) h := Rget hB_76 dX5_copyFrom_38 rfl (Or.inl hS)
theorem v76_41 {d : Nat} {st : List MV} {h : Hp} {x : Option A3} {a0 : Option MV} : Ev d 76 41 [a0, some (vO x)] st h = Ev d 76 42 [a0, some (vO x)] (vO x :: st) h := Rnx (hB_76) (dX5_copyFrom_41) rfl
set_option maxRecDepth 100000 in
theorem v76_42 {d : Nat} {ls : LS3} {st : List MV} {h : Hp} {a : A3} (hS : gS h a = (1, 5)) : Ev d 76 42 ls (vR a :: st) h = Ev d 76 45 ls (vI (gI h a 8) :: st) h := Rget hB_76 dX5_copyFrom_42 rfl (Or.inl hS)
theorem v76_45 {d : Nat} {st : List MV} {h : Hp} {x : Option A3} {a0 : Option MV} : Ev d 76 45 [a0, some (vO x)] st h = Ev d 76 46 [a0, some (vO x)] (vO x :: st) h := Rnx (hB_76) (dX5_copyFrom_45) rfl
set_option maxRecDepth 100000 in
theorem v76_46 {d : Nat} {ls : LS3} {st : List MV} {h : Hp} {a : A3} (hS : gS h a = (1, 5)) : Ev d 76 46 ls (vR a :: st) h = Ev d 76 49 ls (vI (gI h a 9) :: st) h := Rget hB_76 dX5_copyFrom_46 rfl (Or.inl hS)
set_option maxRecDepth 100000 in
theorem v76_49 {d : Nat} {ls : LS3} {st : List MV} {h : Hp} {a : A3} {x0 : Int32} {x1 : Int32} {x2 : Int32} (hS : gS h a = (1, 5)) (hc : catS st ≤ 8) : Ev (d + 1) 76 49 ls (vI x2 :: vI x1 :: vI x0 :: vR a :: st) h = Evk 77 (d + 1) 76 49 ls st (Ev d 77 0 [some (vR a), some (vI x0), some (vI x1), some (vI x2)] [] h) := RcallO (idx := 49) (n := 3) (kd := 0) (As' := [vI x0, vI x1, vI x2]) hB_76 dX5_copyFrom_49 rfl rfl (by decide) rfl rfl (Or.inl hS) rfl hc
theorem v76_52 {d : Nat} {ls : LS3} {h : Hp} : Ev d 76 52 ls [] h = some (.inl none, h) := Rdn hB_76 dX5_copyFrom_52 rfl
theorem hB_77 : mB 77 = cX5_takePlace := rfl
theorem v77_0 {d : Nat} {st : List MV} {h : Hp} {x : Option A3} {a1 a2 a3 : Option MV} : Ev d 77 0 [some (vO x), a1, a2, a3] st h = Ev d 77 1 [some (vO x), a1, a2, a3] (vO x :: st) h := Rnx (hB_77) (dX5_takePlace_0) rfl
theorem v77_1 {d : Nat} {st : List MV} {h : Hp} {x : Int32} {a0 a2 a3 : Option MV} : Ev d 77 1 [a0, some (vI x), a2, a3] st h = Ev d 77 2 [a0, some (vI x), a2, a3] (vI x :: st) h := Rnx (hB_77) (dX5_takePlace_1) rfl
set_option maxRecDepth 100000 in
theorem v77_2 {d : Nat} {ls : LS3} {st : List MV} {h : Hp} {a : A3} {x : Int32} (hS : gS h a = (1, 5)) : Ev d 77 2 ls (vI x :: vR a :: st) h = Ev d 77 5 ls st (sI h a 7 x) := RputI hB_77 dX5_takePlace_2 rfl rfl (by decide) hS (Or.inl rfl)
theorem v77_5 {d : Nat} {st : List MV} {h : Hp} {x : Option A3} {a1 a2 a3 : Option MV} : Ev d 77 5 [some (vO x), a1, a2, a3] st h = Ev d 77 6 [some (vO x), a1, a2, a3] (vO x :: st) h := Rnx (hB_77) (dX5_takePlace_5) rfl
theorem v77_6 {d : Nat} {st : List MV} {h : Hp} {x : Int32} {a0 a1 a3 : Option MV} : Ev d 77 6 [a0, a1, some (vI x), a3] st h = Ev d 77 7 [a0, a1, some (vI x), a3] (vI x :: st) h := Rnx (hB_77) (dX5_takePlace_6) rfl
set_option maxRecDepth 100000 in
theorem v77_7 {d : Nat} {ls : LS3} {st : List MV} {h : Hp} {a : A3} {x : Int32} (hS : gS h a = (1, 5)) : Ev d 77 7 ls (vI x :: vR a :: st) h = Ev d 77 10 ls st (sI h a 8 x) := RputI hB_77 dX5_takePlace_7 rfl rfl (by decide) hS (Or.inl rfl)
theorem v77_10 {d : Nat} {st : List MV} {h : Hp} {x : Option A3} {a1 a2 a3 : Option MV} : Ev d 77 10 [some (vO x), a1, a2, a3] st h = Ev d 77 11 [some (vO x), a1, a2, a3] (vO x :: st) h := Rnx (hB_77) (dX5_takePlace_10) rfl
theorem v77_11 {d : Nat} {st : List MV} {h : Hp} {x : Int32} {a0 a1 a2 : Option MV} : Ev d 77 11 [a0, a1, a2, some (vI x)] st h = Ev d 77 12 [a0, a1, a2, some (vI x)] (vI x :: st) h := Rnx (hB_77) (dX5_takePlace_11) rfl
set_option maxRecDepth 100000 in
theorem v77_12 {d : Nat} {ls : LS3} {st : List MV} {h : Hp} {a : A3} {x : Int32} (hS : gS h a = (1, 5)) : Ev d 77 12 ls (vI x :: vR a :: st) h = Ev d 77 15 ls st (sI h a 9 x) := RputI hB_77 dX5_takePlace_12 rfl rfl (by decide) hS (Or.inl rfl)
theorem v77_15 {d : Nat} {ls : LS3} {h : Hp} : Ev d 77 15 ls [] h = some (.inl none, h) := Rdn hB_77 dX5_takePlace_15 rfl
theorem hB_78 : mB 78 = cX5_losePlace := rfl
theorem v78_0 {d : Nat} {st : List MV} {h : Hp} {x : Option A3} : Ev d 78 0 [some (vO x)] st h = Ev d 78 1 [some (vO x)] (vO x :: st) h := Rnx (hB_78) (dX5_losePlace_0) rfl
theorem v78_1 {d : Nat} {ls : LS3} {st : List MV} {h : Hp} : Ev d 78 1 ls st h = Ev d 78 2 ls (vI (-1) :: st) h := Rnx (hB_78) (dX5_losePlace_1) rfl
theorem v78_2 {d : Nat} {ls : LS3} {st : List MV} {h : Hp} : Ev d 78 2 ls st h = Ev d 78 3 ls (vI (-1) :: st) h := Rnx (hB_78) (dX5_losePlace_2) rfl
theorem v78_3 {d : Nat} {ls : LS3} {st : List MV} {h : Hp} : Ev d 78 3 ls st h = Ev d 78 4 ls (vI (-1) :: st) h := Rnx (hB_78) (dX5_losePlace_3) rfl
set_option maxRecDepth 100000 in
theorem v78_4 {d : Nat} {ls : LS3} {st : List MV} {h : Hp} {a : A3} {x0 : Int32} {x1 : Int32} {x2 : Int32} (hS : gS h a = (1, 5)) (hc : catS st ≤ 8) : Ev (d + 1) 78 4 ls (vI x2 :: vI x1 :: vI x0 :: vR a :: st) h = Evk 77 (d + 1) 78 4 ls st (Ev d 77 0 [some (vR a), some (vI x0), some (vI x1), some (vI x2)] [] h) := RcallO (idx := 49) (n := 3) (kd := 0) (As' := [vI x0, vI x1, vI x2]) hB_78 dX5_losePlace_4 rfl rfl (by decide) rfl rfl (Or.inl hS) rfl hc
theorem v78_7 {d : Nat} {ls : LS3} {h : Hp} : Ev d 78 7 ls [] h = some (.inl none, h) := Rdn hB_78 dX5_losePlace_7 rfl
theorem hB_79 : mB 79 = cX5_isPlaced := rfl
theorem v79_0 {d : Nat} {st : List MV} {h : Hp} {x : Option A3} : Ev d 79 0 [some (vO x)] st h = Ev d 79 1 [some (vO x)] (vO x :: st) h := Rnx (hB_79) (dX5_isPlaced_0) rfl
set_option maxRecDepth 100000 in
theorem v79_1 {d : Nat} {ls : LS3} {st : List MV} {h : Hp} {a : A3} (hS : gS h a = (1, 5)) : Ev d 79 1 ls (vR a :: st) h = Ev d 79 4 ls (vI (gI h a 7) :: st) h := Rget hB_79 dX5_isPlaced_1 rfl (Or.inl hS)
theorem v79_4 {d : Nat} {ls : LS3} {st : List MV} {h : Hp} : Ev d 79 4 ls st h = Ev d 79 5 ls (vI (-1) :: st) h := Rnx (hB_79) (dX5_isPlaced_4) rfl
theorem v79_5 {d : Nat} {ls : LS3} {st : List MV} {h : Hp} {x y : Int32} : Ev d 79 5 ls (vI y :: vI x :: st) h = if x = y then Ev d 79 12 ls st h else Ev d 79 8 ls st h := Rif hB_79 dX5_isPlaced_5 rfl
theorem v79_8 {d : Nat} {ls : LS3} {st : List MV} {h : Hp} : Ev d 79 8 ls st h = Ev d 79 9 ls (vI 1 :: st) h := Rnx (hB_79) (dX5_isPlaced_8) rfl
theorem v79_9 {d : Nat} {ls : LS3} {st : List MV} {h : Hp} : Ev d 79 9 ls st h = Ev d 79 13 ls st h := Rnx (hB_79) (dX5_isPlaced_9) rfl
theorem v79_12 {d : Nat} {ls : LS3} {st : List MV} {h : Hp} : Ev d 79 12 ls st h = Ev d 79 13 ls (vI 0 :: st) h := Rnx (hB_79) (dX5_isPlaced_12) rfl
theorem v79_13 {d : Nat} {ls : LS3} {h : Hp} {x : Int32} (hx : x = 0 ∨ x = 1) : Ev d 79 13 ls [vI x] h = some (.inl (some (vI x)), h) := RretB hB_79 dX5_isPlaced_13 rfl hx
theorem hB_80 : mB 80 = cX5_isDefended := rfl
theorem v80_0 {d : Nat} {st : List MV} {h : Hp} {x : Option A3} : Ev d 80 0 [some (vO x)] st h = Ev d 80 1 [some (vO x)] (vO x :: st) h := Rnx (hB_80) (dX5_isDefended_0) rfl
set_option maxRecDepth 100000 in
theorem v80_1 {d : Nat} {ls : LS3} {st : List MV} {h : Hp} {a : A3} (hS : gS h a = (1, 5)) : Ev d 80 1 ls (vR a :: st) h = Ev d 80 4 ls (vI (gI h a 5) :: st) h := Rget hB_80 dX5_isDefended_1 rfl (Or.inl hS)
theorem v80_4 {d : Nat} {ls : LS3} {st : List MV} {h : Hp} : Ev d 80 4 ls st h = Ev d 80 5 ls (vI 4 :: st) h := Rnx (hB_80) (dX5_isDefended_4) rfl
theorem v80_5 {d : Nat} {ls : LS3} {st : List MV} {h : Hp} {x y : Int32} : Ev d 80 5 ls (vI y :: vI x :: st) h = if x = y then Ev d 80 8 ls st h else Ev d 80 12 ls st h := Rifn hB_80 dX5_isDefended_5 rfl
theorem v80_8 {d : Nat} {ls : LS3} {st : List MV} {h : Hp} : Ev d 80 8 ls st h = Ev d 80 9 ls (vI 1 :: st) h := Rnx (hB_80) (dX5_isDefended_8) rfl
theorem v80_9 {d : Nat} {ls : LS3} {st : List MV} {h : Hp} : Ev d 80 9 ls st h = Ev d 80 13 ls st h := Rnx (hB_80) (dX5_isDefended_9) rfl
theorem v80_12 {d : Nat} {ls : LS3} {st : List MV} {h : Hp} : Ev d 80 12 ls st h = Ev d 80 13 ls (vI 0 :: st) h := Rnx (hB_80) (dX5_isDefended_12) rfl
theorem v80_13 {d : Nat} {ls : LS3} {h : Hp} {x : Int32} (hx : x = 0 ∨ x = 1) : Ev d 80 13 ls [vI x] h = some (.inl (some (vI x)), h) := RretB hB_80 dX5_isDefended_13 rfl hx
theorem hB_81 : mB 81 = cX5_isAhead := rfl
theorem v81_0 {d : Nat} {st : List MV} {h : Hp} {x : Option A3} : Ev d 81 0 [some (vO x)] st h = Ev d 81 1 [some (vO x)] (vO x :: st) h := Rnx (hB_81) (dX5_isAhead_0) rfl
set_option maxRecDepth 100000 in
theorem v81_1 {d : Nat} {ls : LS3} {st : List MV} {h : Hp} {a : A3}  (hS : gS h a = (1, 5)) (hc : catS st ≤ 8) : Ev (d + 1) 81 1 ls (vR a :: st) h = Evk 79 (d + 1) 81 1 ls st (Ev d 79 0 [some (vR a)] [] h) := RcallO (idx := 53) (n := 0) (kd := 0) (As' := []) hB_81 dX5_isAhead_1 rfl rfl (by decide) rfl rfl (Or.inl hS) rfl hc
theorem v81_4 {d : Nat} {ls : LS3} {st : List MV} {h : Hp} {x : Int32} : Ev d 81 4 ls (vI x :: st) h = if x = 0 then Ev d 81 18 ls st h else Ev d 81 7 ls st h := Rif hB_81 dX5_isAhead_4 rfl
theorem v81_7 {d : Nat} {st : List MV} {h : Hp} {x : Option A3} : Ev d 81 7 [some (vO x)] st h = Ev d 81 8 [some (vO x)] (vO x :: st) h := Rnx (hB_81) (dX5_isAhead_7) rfl
set_option maxRecDepth 100000 in
theorem v81_8 {d : Nat} {ls : LS3} {st : List MV} {h : Hp} {a : A3}  (hS : gS h a = (1, 5)) (hc : catS st ≤ 8) : Ev (d + 1) 81 8 ls (vR a :: st) h = Evk 80 (d + 1) 81 8 ls st (Ev d 80 0 [some (vR a)] [] h) := RcallO (idx := 57) (n := 0) (kd := 0) (As' := []) hB_81 dX5_isAhead_8 rfl rfl (by decide) rfl rfl (Or.inl hS) rfl hc
theorem v81_11 {d : Nat} {ls : LS3} {st : List MV} {h : Hp} {x : Int32} : Ev d 81 11 ls (vI x :: st) h = if x = 0 then Ev d 81 14 ls st h else Ev d 81 18 ls st h := Rifn hB_81 dX5_isAhead_11 rfl
theorem v81_14 {d : Nat} {ls : LS3} {st : List MV} {h : Hp} : Ev d 81 14 ls st h = Ev d 81 15 ls (vI 1 :: st) h := Rnx (hB_81) (dX5_isAhead_14) rfl
theorem v81_15 {d : Nat} {ls : LS3} {st : List MV} {h : Hp} : Ev d 81 15 ls st h = Ev d 81 19 ls st h := Rnx (hB_81) (dX5_isAhead_15) rfl
theorem v81_18 {d : Nat} {ls : LS3} {st : List MV} {h : Hp} : Ev d 81 18 ls st h = Ev d 81 19 ls (vI 0 :: st) h := Rnx (hB_81) (dX5_isAhead_18) rfl
theorem v81_19 {d : Nat} {ls : LS3} {h : Hp} {x : Int32} (hx : x = 0 ∨ x = 1) : Ev d 81 19 ls [vI x] h = some (.inl (some (vI x)), h) := RretB hB_81 dX5_isAhead_19 rfl hx
theorem hB_82 : mB 82 = cX5_bit := rfl
theorem v82_0 {d : Nat} {ls : LS3} {st : List MV} {h : Hp} : Ev d 82 0 ls st h = Ev d 82 1 ls (vI 1 :: st) h := Rnx (hB_82) (dX5_bit_0) rfl
theorem v82_1 {d : Nat} {st : List MV} {h : Hp} {x : Option A3} : Ev d 82 1 [some (vO x)] st h = Ev d 82 2 [some (vO x)] (vO x :: st) h := Rnx (hB_82) (dX5_bit_1) rfl
set_option maxRecDepth 100000 in
theorem v82_2 {d : Nat} {ls : LS3} {st : List MV} {h : Hp} {a : A3} (hS : gS h a = (1, 5)) : Ev d 82 2 ls (vR a :: st) h = Ev d 82 5 ls (vI (gI h a 0) :: st) h := Rget hB_82 dX5_bit_2 rfl (Or.inl hS)
theorem v82_5 {d : Nat} {ls : LS3} {st : List MV} {h : Hp} {x y : Int32} : Ev d 82 5 ls (vI y :: vI x :: st) h = Ev d 82 6 ls (vI (x <<< (y &&& 31)) :: st) h := Rnx (hB_82) (dX5_bit_5) rfl
theorem v82_6 {d : Nat} {ls : LS3} {h : Hp} {x : Int32} : Ev d 82 6 ls [vI x] h = some (.inl (some (vI x)), h) := Rdn hB_82 dX5_bit_6 rfl
theorem hB_83 : mB 83 = cX5_memberCount := rfl
theorem v83_0 {d : Nat} {st : List MV} {h : Hp} {x : Option A3} : Ev d 83 0 [some (vO x)] st h = Ev d 83 1 [some (vO x)] (vO x :: st) h := Rnx (hB_83) (dX5_memberCount_0) rfl
set_option maxRecDepth 100000 in
theorem v83_1 {d : Nat} {ls : LS3} {st : List MV} {h : Hp} {a : A3} (hS : gS h a = (1, 5)) : Ev d 83 1 ls (vR a :: st) h = Ev d 83 4 ls (vI (gI h a 6) :: st) h := Rget hB_83 dX5_memberCount_1 rfl (Or.inl hS)
set_option maxRecDepth 100000 in
theorem v83_4 {d : Nat} {ls : LS3} {st : List MV} {h : Hp} {x0 : Int32} (hc : catS st ≤ 8) : Ev (d + 1) 83 4 ls (vI x0 :: st) h = Evk 234 (d + 1) 83 4 ls st (Ev d 234 0 [some (vI x0)] [] h) := RcallS (idx := 60) (n := 1) (kd := 1) (As := [vI x0]) hB_83 dX5_memberCount_4 rfl rfl (by decide) rfl rfl rfl hc
theorem v83_7 {d : Nat} {ls : LS3} {h : Hp} {x : Int32} : Ev d 83 7 ls [vI x] h = some (.inl (some (vI x)), h) := Rdn hB_83 dX5_memberCount_7 rfl
theorem hB_84 : mB 84 = cX5_needed := rfl
theorem v84_0 {d : Nat} {st : List MV} {h : Hp} {x : Option A3} {a1 a2 : Option MV} : Ev d 84 0 [some (vO x), a1, a2] st h = Ev d 84 1 [some (vO x), a1, a2] (vO x :: st) h := Rnx (hB_84) (dX5_needed_0) rfl
set_option maxRecDepth 100000 in
theorem v84_1 {d : Nat} {ls : LS3} {st : List MV} {h : Hp} {a : A3} (hS : gS h a = (1, 5)) : Ev d 84 1 ls (vR a :: st) h = Ev d 84 4 ls (vI (gI h a 1) :: st) h := Rget hB_84 dX5_needed_1 rfl (Or.inl hS)
theorem v84_4 {d : Nat} {ls : LS3} {st : List MV} {h : Hp} : Ev d 84 4 ls st h = Ev d 84 5 ls (vI 5 :: st) h := Rnx (hB_84) (dX5_needed_4) rfl
theorem v84_5 {d : Nat} {ls : LS3} {st : List MV} {h : Hp} {x y : Int32} : Ev d 84 5 ls (vI y :: vI x :: st) h = Ev d 84 6 ls (vI (x * y) :: st) h := Rnx (hB_84) (dX5_needed_5) rfl
theorem v84_6 {d : Nat} {st : List MV} {h : Hp} {x : Int32} {a0 a2 : Option MV} : Ev d 84 6 [a0, some (vI x), a2] st h = Ev d 84 7 [a0, some (vI x), a2] (vI x :: st) h := Rnx (hB_84) (dX5_needed_6) rfl
theorem v84_7 {d : Nat} {ls : LS3} {st : List MV} {h : Hp} {x y : Int32} : Ev d 84 7 ls (vI y :: vI x :: st) h = Ev d 84 8 ls (vI (x + y) :: st) h := Rnx (hB_84) (dX5_needed_7) rfl
theorem v84_8 {d : Nat} {st : List MV} {h : Hp} {x : Int32} {a0 a1 a2 : Option MV} : Ev d 84 8 [a0, a1, a2] (vI x :: st) h = Ev d 84 9 [a0, a1, some (vI x)] st h := Rnx (hB_84) (dX5_needed_8) rfl
theorem v84_9 {d : Nat} {st : List MV} {h : Hp} {x : Int32} {a0 a1 : Option MV} : Ev d 84 9 [a0, a1, some (vI x)] st h = Ev d 84 10 [a0, a1, some (vI x)] (vI x :: st) h := Rnx (hB_84) (dX5_needed_9) rfl
theorem v84_10 {d : Nat} {ls : LS3} {st : List MV} {h : Hp} {x : Int32} : Ev d 84 10 ls (vI x :: st) h = if x < 0 then Ev d 84 29 ls st h else Ev d 84 13 ls st h := Rif hB_84 dX5_needed_10 rfl
theorem v84_13 {d : Nat} {st : List MV} {h : Hp} {x : Int32} {a0 a1 : Option MV} : Ev d 84 13 [a0, a1, some (vI x)] st h = Ev d 84 14 [a0, a1, some (vI x)] (vI x :: st) h := Rnx (hB_84) (dX5_needed_13) rfl
theorem v84_14 {d : Nat} {ls : LS3} {st : List MV} {h : Hp} : Ev d 84 14 ls st h = Ev d 84 17 ls (vO (gR h (51, 0, 0) 0) :: st) h := Rnx (hB_84) (dX5_needed_14) rfl
theorem v84_17 {d : Nat} {ls : LS3} {st : List MV} {h : Hp} {a : A3} (hS : 2 ≤ (gS h a).1 ∧ (gS h a).1 ≤ 10) : Ev d 84 17 ls (vR a :: st) h = Ev d 84 18 ls (vI (Int32.ofNat (gS h a).2) :: st) h := Rlen hB_84 dX5_needed_17 hS
theorem v84_18 {d : Nat} {ls : LS3} {st : List MV} {h : Hp} {x y : Int32} : Ev d 84 18 ls (vI y :: vI x :: st) h = if y ≤ x then Ev d 84 29 ls st h else Ev d 84 21 ls st h := Rif hB_84 dX5_needed_18 rfl
theorem v84_21 {d : Nat} {ls : LS3} {st : List MV} {h : Hp} : Ev d 84 21 ls st h = Ev d 84 24 ls (vO (gR h (51, 0, 0) 0) :: st) h := Rnx (hB_84) (dX5_needed_21) rfl
theorem v84_24 {d : Nat} {st : List MV} {h : Hp} {x : Int32} {a0 a1 : Option MV} : Ev d 84 24 [a0, a1, some (vI x)] st h = Ev d 84 25 [a0, a1, some (vI x)] (vI x :: st) h := Rnx (hB_84) (dX5_needed_24) rfl
theorem v84_25 {d : Nat} {ls : LS3} {st : List MV} {h : Hp} {a : A3} {j : Int32} (hS : (gS h a).1 ∈ [2, 9]) (hj : inB j (gS h a).2) : Ev d 84 25 ls (vI j :: vR a :: st) h = Ev d 84 26 ls (vI (gI h a j.toNatClampNeg) :: st) h := Rald (ks := [2, 9]) (f := fun a j => vI (gI h a j)) hB_84 dX5_needed_25 rfl hS hj
theorem v84_26 {d : Nat} {ls : LS3} {st : List MV} {h : Hp} : Ev d 84 26 ls st h = Ev d 84 30 ls st h := Rnx (hB_84) (dX5_needed_26) rfl
theorem v84_29 {d : Nat} {ls : LS3} {st : List MV} {h : Hp} : Ev d 84 29 ls st h = Ev d 84 30 ls (vI 0 :: st) h := Rnx (hB_84) (dX5_needed_29) rfl
theorem v84_30 {d : Nat} {ls : LS3} {h : Hp} {x : Int32} : Ev d 84 30 ls [vI x] h = some (.inl (some (vI x)), h) := Rdn hB_84 dX5_needed_30 rfl
theorem hB_85 : mB 85 = cX5_mostMembers := rfl
theorem v85_0 {d : Nat} {st : List MV} {h : Hp} {x : Option A3} : Ev d 85 0 [some (vO x)] st h = Ev d 85 1 [some (vO x)] (vO x :: st) h := Rnx (hB_85) (dX5_mostMembers_0) rfl
theorem v85_1 {d : Nat} {ls : LS3} {st : List MV} {h : Hp} : Ev d 85 1 ls st h = Ev d 85 2 ls (vI 0 :: st) h := Rnx (hB_85) (dX5_mostMembers_1) rfl
set_option maxRecDepth 100000 in
theorem v85_2 {d : Nat} {ls : LS3} {st : List MV} {h : Hp} {a : A3} {x0 : Int32} (hS : gS h a = (1, 5)) (hc : catS st ≤ 8) : Ev (d + 1) 85 2 ls (vI x0 :: vR a :: st) h = Evk 84 (d + 1) 85 2 ls st (Ev d 84 0 [some (vR a), some (vI x0), none] [] h) := RcallO (idx := 70) (n := 1) (kd := 0) (As' := [vI x0]) hB_85 dX5_mostMembers_2 rfl rfl (by decide) rfl rfl (Or.inl hS) rfl hc
theorem v85_5 {d : Nat} {ls : LS3} {st : List MV} {h : Hp} : Ev d 85 5 ls st h = Ev d 85 6 ls (vI 2 :: st) h := Rnx (hB_85) (dX5_mostMembers_5) rfl
theorem v85_6 {d : Nat} {ls : LS3} {st : List MV} {h : Hp} {x y : Int32} : Ev d 85 6 ls (vI y :: vI x :: st) h = Ev d 85 7 ls (vI (x + y) :: st) h := Rnx (hB_85) (dX5_mostMembers_6) rfl
theorem v85_7 {d : Nat} {ls : LS3} {h : Hp} {x : Int32} : Ev d 85 7 ls [vI x] h = some (.inl (some (vI x)), h) := Rdn hB_85 dX5_mostMembers_7 rfl
theorem hB_86 : mB 86 = cX5_daysBefore := rfl
theorem v86_0 {d : Nat} {st : List MV} {h : Hp} {x : Option A3} {a1 a2 : Option MV} : Ev d 86 0 [some (vO x), a1, a2] st h = Ev d 86 1 [some (vO x), a1, a2] (vO x :: st) h := Rnx (hB_86) (dX5_daysBefore_0) rfl
set_option maxRecDepth 100000 in
theorem v86_1 {d : Nat} {ls : LS3} {st : List MV} {h : Hp} {a : A3} (hS : gS h a = (1, 5)) : Ev d 86 1 ls (vR a :: st) h = Ev d 86 4 ls (vI (gI h a 1) :: st) h := Rget hB_86 dX5_daysBefore_1 rfl (Or.inl hS)
theorem v86_4 {d : Nat} {ls : LS3} {st : List MV} {h : Hp} : Ev d 86 4 ls st h = Ev d 86 5 ls (vI 4 :: st) h := Rnx (hB_86) (dX5_daysBefore_4) rfl
theorem v86_5 {d : Nat} {ls : LS3} {st : List MV} {h : Hp} {x y : Int32} : Ev d 86 5 ls (vI y :: vI x :: st) h = Ev d 86 6 ls (vI (x * y) :: st) h := Rnx (hB_86) (dX5_daysBefore_5) rfl
theorem v86_6 {d : Nat} {st : List MV} {h : Hp} {x : Int32} {a0 a2 : Option MV} : Ev d 86 6 [a0, some (vI x), a2] st h = Ev d 86 7 [a0, some (vI x), a2] (vI x :: st) h := Rnx (hB_86) (dX5_daysBefore_6) rfl
theorem v86_7 {d : Nat} {ls : LS3} {st : List MV} {h : Hp} {x y : Int32} : Ev d 86 7 ls (vI y :: vI x :: st) h = Ev d 86 8 ls (vI (x + y) :: st) h := Rnx (hB_86) (dX5_daysBefore_7) rfl
theorem v86_8 {d : Nat} {ls : LS3} {st : List MV} {h : Hp} : Ev d 86 8 ls st h = Ev d 86 9 ls (vI 1 :: st) h := Rnx (hB_86) (dX5_daysBefore_8) rfl
theorem v86_9 {d : Nat} {ls : LS3} {st : List MV} {h : Hp} {x y : Int32} : Ev d 86 9 ls (vI y :: vI x :: st) h = Ev d 86 10 ls (vI (x - y) :: st) h := Rnx (hB_86) (dX5_daysBefore_9) rfl
theorem v86_10 {d : Nat} {st : List MV} {h : Hp} {x : Int32} {a0 a1 a2 : Option MV} : Ev d 86 10 [a0, a1, a2] (vI x :: st) h = Ev d 86 11 [a0, a1, some (vI x)] st h := Rnx (hB_86) (dX5_daysBefore_10) rfl
theorem v86_11 {d : Nat} {st : List MV} {h : Hp} {x : Int32} {a0 a1 : Option MV} : Ev d 86 11 [a0, a1, some (vI x)] st h = Ev d 86 12 [a0, a1, some (vI x)] (vI x :: st) h := Rnx (hB_86) (dX5_daysBefore_11) rfl
theorem v86_12 {d : Nat} {ls : LS3} {st : List MV} {h : Hp} {x : Int32} : Ev d 86 12 ls (vI x :: st) h = if x < 0 then Ev d 86 31 ls st h else Ev d 86 15 ls st h := Rif hB_86 dX5_daysBefore_12 rfl
theorem v86_15 {d : Nat} {st : List MV} {h : Hp} {x : Int32} {a0 a1 : Option MV} : Ev d 86 15 [a0, a1, some (vI x)] st h = Ev d 86 16 [a0, a1, some (vI x)] (vI x :: st) h := Rnx (hB_86) (dX5_daysBefore_15) rfl
theorem v86_16 {d : Nat} {ls : LS3} {st : List MV} {h : Hp} : Ev d 86 16 ls st h = Ev d 86 19 ls (vO (gR h (51, 0, 0) 1) :: st) h := Rnx (hB_86) (dX5_daysBefore_16) rfl
theorem v86_19 {d : Nat} {ls : LS3} {st : List MV} {h : Hp} {a : A3} (hS : 2 ≤ (gS h a).1 ∧ (gS h a).1 ≤ 10) : Ev d 86 19 ls (vR a :: st) h = Ev d 86 20 ls (vI (Int32.ofNat (gS h a).2) :: st) h := Rlen hB_86 dX5_daysBefore_19 hS
theorem v86_20 {d : Nat} {ls : LS3} {st : List MV} {h : Hp} {x y : Int32} : Ev d 86 20 ls (vI y :: vI x :: st) h = if y ≤ x then Ev d 86 31 ls st h else Ev d 86 23 ls st h := Rif hB_86 dX5_daysBefore_20 rfl
theorem v86_23 {d : Nat} {ls : LS3} {st : List MV} {h : Hp} : Ev d 86 23 ls st h = Ev d 86 26 ls (vO (gR h (51, 0, 0) 1) :: st) h := Rnx (hB_86) (dX5_daysBefore_23) rfl
theorem v86_26 {d : Nat} {st : List MV} {h : Hp} {x : Int32} {a0 a1 : Option MV} : Ev d 86 26 [a0, a1, some (vI x)] st h = Ev d 86 27 [a0, a1, some (vI x)] (vI x :: st) h := Rnx (hB_86) (dX5_daysBefore_26) rfl
theorem v86_27 {d : Nat} {ls : LS3} {st : List MV} {h : Hp} {a : A3} {j : Int32} (hS : (gS h a).1 ∈ [2, 9]) (hj : inB j (gS h a).2) : Ev d 86 27 ls (vI j :: vR a :: st) h = Ev d 86 28 ls (vI (gI h a j.toNatClampNeg) :: st) h := Rald (ks := [2, 9]) (f := fun a j => vI (gI h a j)) hB_86 dX5_daysBefore_27 rfl hS hj
theorem v86_28 {d : Nat} {ls : LS3} {st : List MV} {h : Hp} : Ev d 86 28 ls st h = Ev d 86 32 ls st h := Rnx (hB_86) (dX5_daysBefore_28) rfl
theorem v86_31 {d : Nat} {ls : LS3} {st : List MV} {h : Hp} : Ev d 86 31 ls st h = Ev d 86 32 ls (vI 0 :: st) h := Rnx (hB_86) (dX5_daysBefore_31) rfl
theorem v86_32 {d : Nat} {ls : LS3} {h : Hp} {x : Int32} : Ev d 86 32 ls [vI x] h = some (.inl (some (vI x)), h) := Rdn hB_86 dX5_daysBefore_32 rfl
theorem hB_87 : mB 87 = cX5_deadlineOf := rfl
theorem v87_0 {d : Nat} {st : List MV} {h : Hp} {x : Option A3} {a1 : Option MV} : Ev d 87 0 [some (vO x), a1] st h = Ev d 87 1 [some (vO x), a1] (vO x :: st) h := Rnx (hB_87) (dX5_deadlineOf_0) rfl
set_option maxRecDepth 100000 in
theorem v87_1 {d : Nat} {ls : LS3} {st : List MV} {h : Hp} {a : A3} (hS : gS h a = (1, 5)) : Ev d 87 1 ls (vR a :: st) h = Ev d 87 4 ls (vI (gI h a 8) :: st) h := Rget hB_87 dX5_deadlineOf_1 rfl (Or.inl hS)
theorem v87_4 {d : Nat} {st : List MV} {h : Hp} {x : Option A3} {a1 : Option MV} : Ev d 87 4 [some (vO x), a1] st h = Ev d 87 5 [some (vO x), a1] (vO x :: st) h := Rnx (hB_87) (dX5_deadlineOf_4) rfl
theorem v87_5 {d : Nat} {st : List MV} {h : Hp} {x : Int32} {a0 : Option MV} : Ev d 87 5 [a0, some (vI x)] st h = Ev d 87 6 [a0, some (vI x)] (vI x :: st) h := Rnx (hB_87) (dX5_deadlineOf_5) rfl
set_option maxRecDepth 100000 in
theorem v87_6 {d : Nat} {ls : LS3} {st : List MV} {h : Hp} {a : A3} {x0 : Int32} (hS : gS h a = (1, 5)) (hc : catS st ≤ 8) : Ev (d + 1) 87 6 ls (vI x0 :: vR a :: st) h = Evk 86 (d + 1) 87 6 ls st (Ev d 86 0 [some (vR a), some (vI x0), none] [] h) := RcallO (idx := 76) (n := 1) (kd := 0) (As' := [vI x0]) hB_87 dX5_deadlineOf_6 rfl rfl (by decide) rfl rfl (Or.inl hS) rfl hc
theorem v87_9 {d : Nat} {ls : LS3} {st : List MV} {h : Hp} {x y : Int32} : Ev d 87 9 ls (vI y :: vI x :: st) h = Ev d 87 10 ls (vI (x - y) :: st) h := Rnx (hB_87) (dX5_deadlineOf_9) rfl
theorem v87_10 {d : Nat} {ls : LS3} {h : Hp} {x : Int32} : Ev d 87 10 ls [vI x] h = some (.inl (some (vI x)), h) := Rdn hB_87 dX5_deadlineOf_10 rfl
theorem hB_88 : mB 88 = cX5_nextDeadline := rfl
theorem v88_0 {d : Nat} {st : List MV} {h : Hp} {x : Option A3} : Ev d 88 0 [some (vO x)] st h = Ev d 88 1 [some (vO x)] (vO x :: st) h := Rnx (hB_88) (dX5_nextDeadline_0) rfl
theorem v88_1 {d : Nat} {st : List MV} {h : Hp} {x : Option A3} : Ev d 88 1 [some (vO x)] st h = Ev d 88 2 [some (vO x)] (vO x :: st) h := Rnx (hB_88) (dX5_nextDeadline_1) rfl
set_option maxRecDepth 100000 in
theorem v88_2 {d : Nat} {ls : LS3} {st : List MV} {h : Hp} {a : A3} (hS : gS h a = (1, 5)) : Ev d 88 2 ls (vR a :: st) h = Ev d 88 5 ls (vI (gI h a 5) :: st) h := Rget hB_88 dX5_nextDeadline_2 rfl (Or.inl hS)
theorem v88_5 {d : Nat} {ls : LS3} {st : List MV} {h : Hp} : Ev d 88 5 ls st h = Ev d 88 6 ls (vI 1 :: st) h := Rnx (hB_88) (dX5_nextDeadline_5) rfl
theorem v88_6 {d : Nat} {ls : LS3} {st : List MV} {h : Hp} {x y : Int32} : Ev d 88 6 ls (vI y :: vI x :: st) h = Ev d 88 7 ls (vI (x + y) :: st) h := Rnx (hB_88) (dX5_nextDeadline_6) rfl
set_option maxRecDepth 100000 in
theorem v88_7 {d : Nat} {ls : LS3} {st : List MV} {h : Hp} {a : A3} {x0 : Int32} (hS : gS h a = (1, 5)) (hc : catS st ≤ 8) : Ev (d + 1) 88 7 ls (vI x0 :: vR a :: st) h = Evk 87 (d + 1) 88 7 ls st (Ev d 87 0 [some (vR a), some (vI x0)] [] h) := RcallO (idx := 79) (n := 1) (kd := 0) (As' := [vI x0]) hB_88 dX5_nextDeadline_7 rfl rfl (by decide) rfl rfl (Or.inl hS) rfl hc
theorem v88_10 {d : Nat} {ls : LS3} {h : Hp} {x : Int32} : Ev d 88 10 ls [vI x] h = some (.inl (some (vI x)), h) := Rdn hB_88 dX5_nextDeadline_10 rfl
theorem hB_89 : mB 89 = cX5_hoursOn := rfl
theorem v89_0 {d : Nat} {st : List MV} {h : Hp} {x : Option A3} {a1 : Option MV} : Ev d 89 0 [some (vO x), a1] st h = Ev d 89 1 [some (vO x), a1] (vO x :: st) h := Rnx (hB_89) (dX5_hoursOn_0) rfl
set_option maxRecDepth 100000 in
theorem v89_1 {d : Nat} {ls : LS3} {st : List MV} {h : Hp} {a : A3} (hS : gS h a = (1, 5)) : Ev d 89 1 ls (vR a :: st) h = Ev d 89 4 ls (vI (gI h a 7) :: st) h := Rget hB_89 dX5_hoursOn_1 rfl (Or.inl hS)
theorem v89_4 {d : Nat} {ls : LS3} {st : List MV} {h : Hp} : Ev d 89 4 ls st h = Ev d 89 5 ls (vI (-1) :: st) h := Rnx (hB_89) (dX5_hoursOn_4) rfl
theorem v89_5 {d : Nat} {ls : LS3} {st : List MV} {h : Hp} {x y : Int32} : Ev d 89 5 ls (vI y :: vI x :: st) h = if x = y then Ev d 89 25 ls st h else Ev d 89 8 ls st h := Rif hB_89 dX5_hoursOn_5 rfl
theorem v89_8 {d : Nat} {st : List MV} {h : Hp} {x : Option A3} {a1 : Option MV} : Ev d 89 8 [some (vO x), a1] st h = Ev d 89 9 [some (vO x), a1] (vO x :: st) h := Rnx (hB_89) (dX5_hoursOn_8) rfl
set_option maxRecDepth 100000 in
theorem v89_9 {d : Nat} {ls : LS3} {st : List MV} {h : Hp} {a : A3} (hS : gS h a = (1, 5)) : Ev d 89 9 ls (vR a :: st) h = Ev d 89 12 ls (vI (gI h a 8) :: st) h := Rget hB_89 dX5_hoursOn_9 rfl (Or.inl hS)
theorem v89_12 {d : Nat} {st : List MV} {h : Hp} {x : Int32} {a0 : Option MV} : Ev d 89 12 [a0, some (vI x)] st h = Ev d 89 13 [a0, some (vI x)] (vI x :: st) h := Rnx (hB_89) (dX5_hoursOn_12) rfl
theorem v89_13 {d : Nat} {ls : LS3} {st : List MV} {h : Hp} {x y : Int32} : Ev d 89 13 ls (vI y :: vI x :: st) h = if x = y then Ev d 89 16 ls st h else Ev d 89 25 ls st h := Rifn hB_89 dX5_hoursOn_13 rfl
theorem v89_16 {d : Nat} {ls : LS3} {st : List MV} {h : Hp} : Ev d 89 16 ls st h = Ev d 89 17 ls (vI 3 :: st) h := Rnx (hB_89) (dX5_hoursOn_16) rfl
theorem v89_17 {d : Nat} {st : List MV} {h : Hp} {x : Option A3} {a1 : Option MV} : Ev d 89 17 [some (vO x), a1] st h = Ev d 89 18 [some (vO x), a1] (vO x :: st) h := Rnx (hB_89) (dX5_hoursOn_17) rfl
set_option maxRecDepth 100000 in
theorem v89_18 {d : Nat} {ls : LS3} {st : List MV} {h : Hp} {a : A3} (hS : gS h a = (1, 5)) : Ev d 89 18 ls (vR a :: st) h = Ev d 89 21 ls (vI (gI h a 9) :: st) h := Rget hB_89 dX5_hoursOn_18 rfl (Or.inl hS)
theorem v89_21 {d : Nat} {ls : LS3} {st : List MV} {h : Hp} {x y : Int32} : Ev d 89 21 ls (vI y :: vI x :: st) h = Ev d 89 22 ls (vI (x <<< (y &&& 31)) :: st) h := Rnx (hB_89) (dX5_hoursOn_21) rfl
theorem v89_22 {d : Nat} {ls : LS3} {st : List MV} {h : Hp} : Ev d 89 22 ls st h = Ev d 89 26 ls st h := Rnx (hB_89) (dX5_hoursOn_22) rfl
theorem v89_25 {d : Nat} {ls : LS3} {st : List MV} {h : Hp} : Ev d 89 25 ls st h = Ev d 89 26 ls (vI 0 :: st) h := Rnx (hB_89) (dX5_hoursOn_25) rfl
theorem v89_26 {d : Nat} {ls : LS3} {h : Hp} {x : Int32} : Ev d 89 26 ls [vI x] h = some (.inl (some (vI x)), h) := Rdn hB_89 dX5_hoursOn_26 rfl
theorem hB_90 : mB 90 = cX5_counts := rfl
theorem v90_0 {d : Nat} {st : List MV} {h : Hp} {x : Int32} {a0 a1 : Option MV} : Ev d 90 0 [a0, a1, some (vI x)] st h = Ev d 90 1 [a0, a1, some (vI x)] (vI x :: st) h := Rnx (hB_90) (dX5_counts_0) rfl
theorem v90_1 {d : Nat} {ls : LS3} {st : List MV} {h : Hp} {x : Int32} : Ev d 90 1 ls (vI x :: st) h = if x = 0 then Ev d 90 36 ls st h else if x = 1 then Ev d 90 38 ls st h else if x = 2 then Ev d 90 51 ls st h else if x = 3 then Ev d 90 65 ls st h else if x = 4 then Ev d 90 85 ls st h else Ev d 90 102 ls st h := by
  by_cases z : x.toInt < 0 ∨ 4 < x.toInt
  · rw [if_neg (fun y => by rw [y] at z; revert z; decide), if_neg (fun y => by rw [y] at z; revert z; decide), if_neg (fun y => by rw [y] at z; revert z; decide), if_neg (fun y => by rw [y] at z; revert z; decide), if_neg (fun y => by rw [y] at z; revert z; decide)]
    exact Rnx hB_90 dX5_counts_1 (xTab_out z)
  · rcases (show x.toInt = 0 ∨ x.toInt = 1 ∨ x.toInt = 2 ∨ x.toInt = 3 ∨ x.toInt = 4 by omega) with y | y | y | y | y
    · have e : x = 0 := Int32.toInt_inj.mp (y.trans rfl)
      subst e
      rw [if_pos rfl]; exact Rnx hB_90 dX5_counts_1 rfl
    · have e : x = 1 := Int32.toInt_inj.mp (y.trans rfl)
      subst e
      rw [if_neg (by decide)]; rw [if_pos rfl]; exact Rnx hB_90 dX5_counts_1 rfl
    · have e : x = 2 := Int32.toInt_inj.mp (y.trans rfl)
      subst e
      rw [if_neg (by decide)]; rw [if_neg (by decide)]; rw [if_pos rfl]; exact Rnx hB_90 dX5_counts_1 rfl
    · have e : x = 3 := Int32.toInt_inj.mp (y.trans rfl)
      subst e
      rw [if_neg (by decide)]; rw [if_neg (by decide)]; rw [if_neg (by decide)]; rw [if_pos rfl]; exact Rnx hB_90 dX5_counts_1 rfl
    · have e : x = 4 := Int32.toInt_inj.mp (y.trans rfl)
      subst e
      rw [if_neg (by decide)]; rw [if_neg (by decide)]; rw [if_neg (by decide)]; rw [if_neg (by decide)]; rw [if_pos rfl]; exact Rnx hB_90 dX5_counts_1 rfl
theorem v90_36 {d : Nat} {ls : LS3} {st : List MV} {h : Hp} : Ev d 90 36 ls st h = Ev d 90 37 ls (vI 1 :: st) h := Rnx (hB_90) (dX5_counts_36) rfl
theorem v90_37 {d : Nat} {ls : LS3} {h : Hp} {x : Int32} (hx : x = 0 ∨ x = 1) : Ev d 90 37 ls [vI x] h = some (.inl (some (vI x)), h) := RretB hB_90 dX5_counts_37 rfl hx
theorem v90_38 {d : Nat} {st : List MV} {h : Hp} {x : Option A3} {a0 a2 : Option MV} : Ev d 90 38 [a0, some (vO x), a2] st h = Ev d 90 39 [a0, some (vO x), a2] (vO x :: st) h := Rnx (hB_90) (dX5_counts_38) rfl
set_option maxRecDepth 100000 in
theorem v90_39 {d : Nat} {ls : LS3} {st : List MV} {h : Hp} {a : A3} (hS : gS h a = (1, 3)) : Ev d 90 39 ls (vR a :: st) h = Ev d 90 42 ls (vI (gI h a 3) :: st) h := Rget hB_90 dX5_counts_39 rfl (Or.inl hS)
theorem v90_42 {d : Nat} {ls : LS3} {st : List MV} {h : Hp} {x : Int32} : Ev d 90 42 ls (vI x :: st) h = if x = 0 then Ev d 90 45 ls st h else Ev d 90 49 ls st h := Rifn hB_90 dX5_counts_42 rfl
theorem v90_45 {d : Nat} {ls : LS3} {st : List MV} {h : Hp} : Ev d 90 45 ls st h = Ev d 90 46 ls (vI 1 :: st) h := Rnx (hB_90) (dX5_counts_45) rfl
theorem v90_46 {d : Nat} {ls : LS3} {st : List MV} {h : Hp} : Ev d 90 46 ls st h = Ev d 90 50 ls st h := Rnx (hB_90) (dX5_counts_46) rfl
theorem v90_49 {d : Nat} {ls : LS3} {st : List MV} {h : Hp} : Ev d 90 49 ls st h = Ev d 90 50 ls (vI 0 :: st) h := Rnx (hB_90) (dX5_counts_49) rfl
theorem v90_50 {d : Nat} {ls : LS3} {h : Hp} {x : Int32} (hx : x = 0 ∨ x = 1) : Ev d 90 50 ls [vI x] h = some (.inl (some (vI x)), h) := RretB hB_90 dX5_counts_50 rfl hx
theorem v90_51 {d : Nat} {st : List MV} {h : Hp} {x : Option A3} {a0 a2 : Option MV} : Ev d 90 51 [a0, some (vO x), a2] st h = Ev d 90 52 [a0, some (vO x), a2] (vO x :: st) h := Rnx (hB_90) (dX5_counts_51) rfl
set_option maxRecDepth 100000 in
theorem v90_52 {d : Nat} {ls : LS3} {st : List MV} {h : Hp} {a : A3} (hS : gS h a = (1, 3)) : Ev d 90 52 ls (vR a :: st) h = Ev d 90 55 ls (vI (gI h a 3) :: st) h := Rget hB_90 dX5_counts_52 rfl (Or.inl hS)
theorem v90_55 {d : Nat} {ls : LS3} {st : List MV} {h : Hp} : Ev d 90 55 ls st h = Ev d 90 56 ls (vI 2 :: st) h := Rnx (hB_90) (dX5_counts_55) rfl
theorem v90_56 {d : Nat} {ls : LS3} {st : List MV} {h : Hp} {x y : Int32} : Ev d 90 56 ls (vI y :: vI x :: st) h = if x = y then Ev d 90 59 ls st h else Ev d 90 63 ls st h := Rifn hB_90 dX5_counts_56 rfl
theorem v90_59 {d : Nat} {ls : LS3} {st : List MV} {h : Hp} : Ev d 90 59 ls st h = Ev d 90 60 ls (vI 1 :: st) h := Rnx (hB_90) (dX5_counts_59) rfl
theorem v90_60 {d : Nat} {ls : LS3} {st : List MV} {h : Hp} : Ev d 90 60 ls st h = Ev d 90 64 ls st h := Rnx (hB_90) (dX5_counts_60) rfl
theorem v90_63 {d : Nat} {ls : LS3} {st : List MV} {h : Hp} : Ev d 90 63 ls st h = Ev d 90 64 ls (vI 0 :: st) h := Rnx (hB_90) (dX5_counts_63) rfl
theorem v90_64 {d : Nat} {ls : LS3} {h : Hp} {x : Int32} (hx : x = 0 ∨ x = 1) : Ev d 90 64 ls [vI x] h = some (.inl (some (vI x)), h) := RretB hB_90 dX5_counts_64 rfl hx
theorem v90_65 {d : Nat} {st : List MV} {h : Hp} {x : Option A3} {a0 a2 : Option MV} : Ev d 90 65 [a0, some (vO x), a2] st h = Ev d 90 66 [a0, some (vO x), a2] (vO x :: st) h := Rnx (hB_90) (dX5_counts_65) rfl
set_option maxRecDepth 100000 in
theorem v90_66 {d : Nat} {ls : LS3} {st : List MV} {h : Hp} {a : A3} (hS : gS h a = (1, 3)) : Ev d 90 66 ls (vR a :: st) h = Ev d 90 69 ls (vI (gI h a 4) :: st) h := Rget hB_90 dX5_counts_66 rfl (Or.inl hS)
theorem v90_69 {d : Nat} {st : List MV} {h : Hp} {x : Option A3} {a1 a2 : Option MV} : Ev d 90 69 [some (vO x), a1, a2] st h = Ev d 90 70 [some (vO x), a1, a2] (vO x :: st) h := Rnx (hB_90) (dX5_counts_69) rfl
set_option maxRecDepth 100000 in
theorem v90_70 {d : Nat} {ls : LS3} {st : List MV} {h : Hp} {a : A3} (hS : gS h a = (1, 5)) : Ev d 90 70 ls (vR a :: st) h = Ev d 90 73 ls (vI (gI h a 2) :: st) h := Rget hB_90 dX5_counts_70 rfl (Or.inl hS)
theorem v90_73 {d : Nat} {ls : LS3} {st : List MV} {h : Hp} {x y : Int32} : Ev d 90 73 ls (vI y :: vI x :: st) h = Ev d 90 74 ls (vI (x >>> (y &&& 31)) :: st) h := Rnx (hB_90) (dX5_counts_73) rfl
theorem v90_74 {d : Nat} {ls : LS3} {st : List MV} {h : Hp} : Ev d 90 74 ls st h = Ev d 90 75 ls (vI 1 :: st) h := Rnx (hB_90) (dX5_counts_74) rfl
theorem v90_75 {d : Nat} {ls : LS3} {st : List MV} {h : Hp} {x y : Int32} : Ev d 90 75 ls (vI y :: vI x :: st) h = Ev d 90 76 ls (vI (x &&& y) :: st) h := Rnx (hB_90) (dX5_counts_75) rfl
theorem v90_76 {d : Nat} {ls : LS3} {st : List MV} {h : Hp} {x : Int32} : Ev d 90 76 ls (vI x :: st) h = if x = 0 then Ev d 90 83 ls st h else Ev d 90 79 ls st h := Rif hB_90 dX5_counts_76 rfl
theorem v90_79 {d : Nat} {ls : LS3} {st : List MV} {h : Hp} : Ev d 90 79 ls st h = Ev d 90 80 ls (vI 1 :: st) h := Rnx (hB_90) (dX5_counts_79) rfl
theorem v90_80 {d : Nat} {ls : LS3} {st : List MV} {h : Hp} : Ev d 90 80 ls st h = Ev d 90 84 ls st h := Rnx (hB_90) (dX5_counts_80) rfl
theorem v90_83 {d : Nat} {ls : LS3} {st : List MV} {h : Hp} : Ev d 90 83 ls st h = Ev d 90 84 ls (vI 0 :: st) h := Rnx (hB_90) (dX5_counts_83) rfl
theorem v90_84 {d : Nat} {ls : LS3} {h : Hp} {x : Int32} (hx : x = 0 ∨ x = 1) : Ev d 90 84 ls [vI x] h = some (.inl (some (vI x)), h) := RretB hB_90 dX5_counts_84 rfl hx
theorem v90_85 {d : Nat} {st : List MV} {h : Hp} {x : Option A3} {a0 a2 : Option MV} : Ev d 90 85 [a0, some (vO x), a2] st h = Ev d 90 86 [a0, some (vO x), a2] (vO x :: st) h := Rnx (hB_90) (dX5_counts_85) rfl
set_option maxRecDepth 100000 in
theorem v90_86 {d : Nat} {ls : LS3} {st : List MV} {h : Hp} {a : A3} (hS : gS h a = (1, 3)) : Ev d 90 86 ls (vR a :: st) h = Ev d 90 89 ls (vI (gI h a 5) :: st) h := Rget hB_90 dX5_counts_86 rfl (Or.inl hS)
theorem v90_89 {d : Nat} {st : List MV} {h : Hp} {x : Option A3} {a1 a2 : Option MV} : Ev d 90 89 [some (vO x), a1, a2] st h = Ev d 90 90 [some (vO x), a1, a2] (vO x :: st) h := Rnx (hB_90) (dX5_counts_89) rfl
set_option maxRecDepth 100000 in
theorem v90_90 {d : Nat} {ls : LS3} {st : List MV} {h : Hp} {a : A3} (hS : gS h a = (1, 5)) : Ev d 90 90 ls (vR a :: st) h = Ev d 90 93 ls (vI (gI h a 3) :: st) h := Rget hB_90 dX5_counts_90 rfl (Or.inl hS)
theorem v90_93 {d : Nat} {ls : LS3} {st : List MV} {h : Hp} {x y : Int32} : Ev d 90 93 ls (vI y :: vI x :: st) h = if x = y then Ev d 90 100 ls st h else Ev d 90 96 ls st h := Rif hB_90 dX5_counts_93 rfl
theorem v90_96 {d : Nat} {ls : LS3} {st : List MV} {h : Hp} : Ev d 90 96 ls st h = Ev d 90 97 ls (vI 1 :: st) h := Rnx (hB_90) (dX5_counts_96) rfl
theorem v90_97 {d : Nat} {ls : LS3} {st : List MV} {h : Hp} : Ev d 90 97 ls st h = Ev d 90 101 ls st h := Rnx (hB_90) (dX5_counts_97) rfl
theorem v90_100 {d : Nat} {ls : LS3} {st : List MV} {h : Hp} : Ev d 90 100 ls st h = Ev d 90 101 ls (vI 0 :: st) h := Rnx (hB_90) (dX5_counts_100) rfl
theorem v90_101 {d : Nat} {ls : LS3} {h : Hp} {x : Int32} (hx : x = 0 ∨ x = 1) : Ev d 90 101 ls [vI x] h = some (.inl (some (vI x)), h) := RretB hB_90 dX5_counts_101 rfl hx
theorem v90_102 {d : Nat} {ls : LS3} {st : List MV} {h : Hp} : Ev d 90 102 ls st h = Ev d 90 103 ls (vI 0 :: st) h := Rnx (hB_90) (dX5_counts_102) rfl
theorem v90_103 {d : Nat} {ls : LS3} {h : Hp} {x : Int32} (hx : x = 0 ∨ x = 1) : Ev d 90 103 ls [vI x] h = some (.inl (some (vI x)), h) := RretB hB_90 dX5_counts_103 rfl hx
theorem hB_91 : mB 91 = cX6_init := rfl
theorem v91_0 {d : Nat} {st : List MV} {h : Hp} {x : Option A3} : Ev d 91 0 [some (vO x)] st h = Ev d 91 1 [some (vO x)] (vO x :: st) h := Rnx (hB_91) (dX6_init_0) rfl
set_option maxRecDepth 100000 in
theorem v91_1 {d : Nat} {ls : LS3} {st : List MV} {h : Hp} {a : A3} (hc : catS st ≤ 8) : Ev d 91 1 ls (vR a :: st) h = Ev d 91 4 ls st h := Robj hB_91 dX6_init_1 rfl hc
theorem v91_4 {d : Nat} {st : List MV} {h : Hp} {x : Option A3} : Ev d 91 4 [some (vO x)] st h = Ev d 91 5 [some (vO x)] (vO x :: st) h := Rnx (hB_91) (dX6_init_4) rfl
theorem v91_5 {d : Nat} {ls : LS3} {st : List MV} {h : Hp} (hF : Fresh h) : Ev d 91 5 ls st h = Ev d 91 8 ls (vR (nm (cnt h)) :: st) (mk h (nm (cnt h)) (1, 4) 8) := Rnew hB_91 dX6_init_5 rfl hF
theorem v91_8 {d : Nat} {ls : LS3} {st : List MV} {h : Hp} {v : MV} (hv : cat1 v = true) : Ev d 91 8 ls (v :: st) h = Ev d 91 9 ls (v :: v :: st) h := Rdup hB_91 dX6_init_8 hv
set_option maxRecDepth 100000 in
theorem v91_9 {d : Nat} {ls : LS3} {st : List MV} {h : Hp} {a : A3}  (hS : gS h a = (1, 4)) (hc : catS st ≤ 8) : Ev (d + 1) 91 9 ls (vR a :: st) h = Evk 30 (d + 1) 91 9 ls st (Ev d 30 0 [some (vR a), none] [] h) := RcallO (idx := 9) (n := 0) (kd := 2) (As' := []) hB_91 dX6_init_9 rfl rfl (by decide) rfl rfl (Or.inl hS) rfl hc
set_option maxRecDepth 100000 in
theorem v91_12 {d : Nat} {ls : LS3} {st : List MV} {h : Hp} {a : A3} {o : Option A3} (hS : gS h a = (1, 6)) : Ev d 91 12 ls (vO o :: vR a :: st) h = Ev d 91 15 ls st (sR h a 0 o) := RputR hB_91 dX6_init_12 rfl rfl (by decide) hS
theorem v91_15 {d : Nat} {st : List MV} {h : Hp} {x : Option A3} : Ev d 91 15 [some (vO x)] st h = Ev d 91 16 [some (vO x)] (vO x :: st) h := Rnx (hB_91) (dX6_init_15) rfl
theorem v91_16 {d : Nat} {ls : LS3} {st : List MV} {h : Hp} (hF : Fresh h) : Ev d 91 16 ls st h = Ev d 91 19 ls (vR (nm (cnt h)) :: st) (mk h (nm (cnt h)) (1, 4) 8) := Rnew hB_91 dX6_init_16 rfl hF
theorem v91_19 {d : Nat} {ls : LS3} {st : List MV} {h : Hp} {v : MV} (hv : cat1 v = true) : Ev d 91 19 ls (v :: st) h = Ev d 91 20 ls (v :: v :: st) h := Rdup hB_91 dX6_init_19 hv
set_option maxRecDepth 100000 in
theorem v91_20 {d : Nat} {ls : LS3} {st : List MV} {h : Hp} {a : A3}  (hS : gS h a = (1, 4)) (hc : catS st ≤ 8) : Ev (d + 1) 91 20 ls (vR a :: st) h = Evk 30 (d + 1) 91 20 ls st (Ev d 30 0 [some (vR a), none] [] h) := RcallO (idx := 9) (n := 0) (kd := 2) (As' := []) hB_91 dX6_init_20 rfl rfl (by decide) rfl rfl (Or.inl hS) rfl hc
set_option maxRecDepth 100000 in
theorem v91_23 {d : Nat} {ls : LS3} {st : List MV} {h : Hp} {a : A3} {o : Option A3} (hS : gS h a = (1, 6)) : Ev d 91 23 ls (vO o :: vR a :: st) h = Ev d 91 26 ls st (sR h a 1 o) := RputR hB_91 dX6_init_23 rfl rfl (by decide) hS
theorem v91_26 {d : Nat} {st : List MV} {h : Hp} {x : Option A3} : Ev d 91 26 [some (vO x)] st h = Ev d 91 27 [some (vO x)] (vO x :: st) h := Rnx (hB_91) (dX6_init_26) rfl
theorem v91_27 {d : Nat} {ls : LS3} {st : List MV} {h : Hp} (hF : Fresh h) : Ev d 91 27 ls st h = Ev d 91 30 ls (vR (nm (cnt h)) :: st) (mk h (nm (cnt h)) (1, 1) 3) := Rnew hB_91 dX6_init_27 rfl hF
theorem v91_30 {d : Nat} {ls : LS3} {st : List MV} {h : Hp} {v : MV} (hv : cat1 v = true) : Ev d 91 30 ls (v :: st) h = Ev d 91 31 ls (v :: v :: st) h := Rdup hB_91 dX6_init_30 hv
set_option maxRecDepth 100000 in
theorem v91_31 {d : Nat} {ls : LS3} {st : List MV} {h : Hp} {a : A3}  (hS : gS h a = (1, 1)) (hc : catS st ≤ 8) : Ev (d + 1) 91 31 ls (vR a :: st) h = Evk 4 (d + 1) 91 31 ls st (Ev d 4 0 [some (vR a), none] [] h) := RcallO (idx := 21) (n := 0) (kd := 2) (As' := []) hB_91 dX6_init_31 rfl rfl (by decide) rfl rfl (Or.inl hS) rfl hc
set_option maxRecDepth 100000 in
theorem v91_34 {d : Nat} {ls : LS3} {st : List MV} {h : Hp} {a : A3} {o : Option A3} (hS : gS h a = (1, 6)) : Ev d 91 34 ls (vO o :: vR a :: st) h = Ev d 91 37 ls st (sR h a 2 o) := RputR hB_91 dX6_init_34 rfl rfl (by decide) hS
theorem v91_37 {d : Nat} {st : List MV} {h : Hp} {x : Option A3} : Ev d 91 37 [some (vO x)] st h = Ev d 91 38 [some (vO x)] (vO x :: st) h := Rnx (hB_91) (dX6_init_37) rfl
theorem v91_38 {d : Nat} {ls : LS3} {st : List MV} {h : Hp} (hF : Fresh h) : Ev d 91 38 ls st h = Ev d 91 41 ls (vR (nm (cnt h)) :: st) (mk h (nm (cnt h)) (1, 2) 7) := Rnew hB_91 dX6_init_38 rfl hF
theorem v91_41 {d : Nat} {ls : LS3} {st : List MV} {h : Hp} {v : MV} (hv : cat1 v = true) : Ev d 91 41 ls (v :: st) h = Ev d 91 42 ls (v :: v :: st) h := Rdup hB_91 dX6_init_41 hv
set_option maxRecDepth 100000 in
theorem v91_42 {d : Nat} {ls : LS3} {st : List MV} {h : Hp} {a : A3}  (hS : gS h a = (1, 2)) (hc : catS st ≤ 8) : Ev (d + 1) 91 42 ls (vR a :: st) h = Evk 12 (d + 1) 91 42 ls st (Ev d 12 0 [some (vR a)] [] h) := RcallO (idx := 28) (n := 0) (kd := 2) (As' := []) hB_91 dX6_init_42 rfl rfl (by decide) rfl rfl (Or.inl hS) rfl hc
set_option maxRecDepth 100000 in
theorem v91_45 {d : Nat} {ls : LS3} {st : List MV} {h : Hp} {a : A3} {o : Option A3} (hS : gS h a = (1, 6)) : Ev d 91 45 ls (vO o :: vR a :: st) h = Ev d 91 48 ls st (sR h a 3 o) := RputR hB_91 dX6_init_45 rfl rfl (by decide) hS
theorem v91_48 {d : Nat} {st : List MV} {h : Hp} {x : Option A3} : Ev d 91 48 [some (vO x)] st h = Ev d 91 49 [some (vO x)] (vO x :: st) h := Rnx (hB_91) (dX6_init_48) rfl
theorem v91_49 {d : Nat} {ls : LS3} {st : List MV} {h : Hp} (hF : Fresh h) : Ev d 91 49 ls st h = Ev d 91 52 ls (vR (nm (cnt h)) :: st) (mk h (nm (cnt h)) (1, 0) 1) := Rnew hB_91 dX6_init_49 rfl hF
theorem v91_52 {d : Nat} {ls : LS3} {st : List MV} {h : Hp} {v : MV} (hv : cat1 v = true) : Ev d 91 52 ls (v :: st) h = Ev d 91 53 ls (v :: v :: st) h := Rdup hB_91 dX6_init_52 hv
set_option maxRecDepth 100000 in
theorem v91_53 {d : Nat} {ls : LS3} {st : List MV} {h : Hp} {a : A3}  (hS : gS h a = (1, 0)) (hc : catS st ≤ 8) : Ev (d + 1) 91 53 ls (vR a :: st) h = Evk 0 (d + 1) 91 53 ls st (Ev d 0 0 [some (vR a)] [] h) := RcallO (idx := 35) (n := 0) (kd := 2) (As' := []) hB_91 dX6_init_53 rfl rfl (by decide) rfl rfl (Or.inl hS) rfl hc
set_option maxRecDepth 100000 in
theorem v91_56 {d : Nat} {ls : LS3} {st : List MV} {h : Hp} {a : A3} {o : Option A3} (hS : gS h a = (1, 6)) : Ev d 91 56 ls (vO o :: vR a :: st) h = Ev d 91 59 ls st (sR h a 4 o) := RputR hB_91 dX6_init_56 rfl rfl (by decide) hS
theorem v91_59 {d : Nat} {st : List MV} {h : Hp} {x : Option A3} : Ev d 91 59 [some (vO x)] st h = Ev d 91 60 [some (vO x)] (vO x :: st) h := Rnx (hB_91) (dX6_init_59) rfl
theorem v91_60 {d : Nat} {ls : LS3} {st : List MV} {h : Hp} : Ev d 91 60 ls st h = Ev d 91 61 ls (vI (-1) :: st) h := Rnx (hB_91) (dX6_init_60) rfl
set_option maxRecDepth 100000 in
theorem v91_61 {d : Nat} {ls : LS3} {st : List MV} {h : Hp} {a : A3} {x : Int32} (hS : gS h a = (1, 6)) : Ev d 91 61 ls (vI x :: vR a :: st) h = Ev d 91 64 ls st (sI h a 6 x) := RputI hB_91 dX6_init_61 rfl rfl (by decide) hS (Or.inl rfl)
theorem v91_64 {d : Nat} {st : List MV} {h : Hp} {x : Option A3} : Ev d 91 64 [some (vO x)] st h = Ev d 91 65 [some (vO x)] (vO x :: st) h := Rnx (hB_91) (dX6_init_64) rfl
theorem v91_65 {d : Nat} {ls : LS3} {st : List MV} {h : Hp} : Ev d 91 65 ls st h = Ev d 91 66 ls (vI (-1) :: st) h := Rnx (hB_91) (dX6_init_65) rfl
set_option maxRecDepth 100000 in
theorem v91_66 {d : Nat} {ls : LS3} {st : List MV} {h : Hp} {a : A3} {x : Int32} (hS : gS h a = (1, 6)) : Ev d 91 66 ls (vI x :: vR a :: st) h = Ev d 91 69 ls st (sI h a 7 x) := RputI hB_91 dX6_init_66 rfl rfl (by decide) hS (Or.inl rfl)
theorem v91_69 {d : Nat} {ls : LS3} {h : Hp} : Ev d 91 69 ls [] h = some (.inl none, h) := Rdn hB_91 dX6_init_69 rfl
theorem hB_92 : mB 92 = cX6_clear := rfl
theorem v92_0 {d : Nat} {st : List MV} {h : Hp} {x : Option A3} {a1 : Option MV} : Ev d 92 0 [some (vO x), a1] st h = Ev d 92 1 [some (vO x), a1] (vO x :: st) h := Rnx (hB_92) (dX6_clear_0) rfl
set_option maxRecDepth 100000 in
theorem v92_1 {d : Nat} {ls : LS3} {st : List MV} {h : Hp} {a : A3} (hS : gS h a = (1, 6)) : Ev d 92 1 ls (vR a :: st) h = Ev d 92 4 ls (vO (gR h a 0) :: st) h := Rget hB_92 dX6_clear_1 rfl (Or.inl hS)
set_option maxRecDepth 100000 in
theorem v92_4 {d : Nat} {ls : LS3} {st : List MV} {h : Hp} {a : A3} (hS : gS h a = (1, 4)) : Ev d 92 4 ls (vR a :: st) h = Ev d 92 7 ls (vI (gI h a 3) :: st) h := Rget hB_92 dX6_clear_4 rfl (Or.inl hS)
theorem v92_7 {d : Nat} {st : List MV} {h : Hp} {x : Int32} {a0 a1 : Option MV} : Ev d 92 7 [a0, a1] (vI x :: st) h = Ev d 92 8 [a0, some (vI x)] st h := Rnx (hB_92) (dX6_clear_7) rfl
theorem v92_8 {d : Nat} {st : List MV} {h : Hp} {x : Option A3} {a1 : Option MV} : Ev d 92 8 [some (vO x), a1] st h = Ev d 92 9 [some (vO x), a1] (vO x :: st) h := Rnx (hB_92) (dX6_clear_8) rfl
set_option maxRecDepth 100000 in
theorem v92_9 {d : Nat} {ls : LS3} {st : List MV} {h : Hp} {a : A3} (hS : gS h a = (1, 6)) : Ev d 92 9 ls (vR a :: st) h = Ev d 92 12 ls (vO (gR h a 0) :: st) h := Rget hB_92 dX6_clear_9 rfl (Or.inl hS)
set_option maxRecDepth 100000 in
theorem v92_12 {d : Nat} {ls : LS3} {st : List MV} {h : Hp} {a : A3}  (hS : gS h a = (1, 4)) (hc : catS st ≤ 8) : Ev (d + 1) 92 12 ls (vR a :: st) h = Evk 31 (d + 1) 92 12 ls st (Ev d 31 0 [some (vR a), none, none, none, none] [] h) := RcallO (idx := 50) (n := 0) (kd := 0) (As' := []) hB_92 dX6_clear_12 rfl rfl (by decide) rfl rfl (Or.inl hS) rfl hc
theorem v92_15 {d : Nat} {st : List MV} {h : Hp} {x : Option A3} {a1 : Option MV} : Ev d 92 15 [some (vO x), a1] st h = Ev d 92 16 [some (vO x), a1] (vO x :: st) h := Rnx (hB_92) (dX6_clear_15) rfl
set_option maxRecDepth 100000 in
theorem v92_16 {d : Nat} {ls : LS3} {st : List MV} {h : Hp} {a : A3} (hS : gS h a = (1, 6)) : Ev d 92 16 ls (vR a :: st) h = Ev d 92 19 ls (vO (gR h a 2) :: st) h := Rget hB_92 dX6_clear_16 rfl (Or.inl hS)
set_option maxRecDepth 100000 in
theorem v92_19 {d : Nat} {ls : LS3} {st : List MV} {h : Hp} {a : A3}  (hS : gS h a = (1, 1)) (hc : catS st ≤ 8) : Ev (d + 1) 92 19 ls (vR a :: st) h = Evk 5 (d + 1) 92 19 ls st (Ev d 5 0 [some (vR a)] [] h) := RcallO (idx := 53) (n := 0) (kd := 0) (As' := []) hB_92 dX6_clear_19 rfl rfl (by decide) rfl rfl (Or.inl hS) rfl hc
theorem v92_22 {d : Nat} {st : List MV} {h : Hp} {x : Int32} {a0 : Option MV} : Ev d 92 22 [a0, some (vI x)] st h = Ev d 92 23 [a0, some (vI x)] (vI x :: st) h := Rnx (hB_92) (dX6_clear_22) rfl
theorem v92_23 {d : Nat} {ls : LS3} {h : Hp} {x : Int32} : Ev d 92 23 ls [vI x] h = some (.inl (some (vI x)), h) := Rdn hB_92 dX6_clear_23 rfl
theorem hB_93 : mB 93 = cX6_addPerson := rfl
theorem v93_0 {d : Nat} {st : List MV} {h : Hp} {x : Int32} {a0 a2 a3 a4 : Option MV} : Ev d 93 0 [a0, some (vI x), a2, a3, a4] st h = Ev d 93 1 [a0, some (vI x), a2, a3, a4] (vI x :: st) h := Rnx (hB_93) (dX6_addPerson_0) rfl
theorem v93_1 {d : Nat} {ls : LS3} {st : List MV} {h : Hp} : Ev d 93 1 ls st h = Ev d 93 2 ls (vI 3 :: st) h := Rnx (hB_93) (dX6_addPerson_1) rfl
set_option maxRecDepth 100000 in
theorem v93_2 {d : Nat} {ls : LS3} {st : List MV} {h : Hp} {x0 : Int32} {x1 : Int32} (hc : catS st ≤ 8) : Ev (d + 1) 93 2 ls (vI x1 :: vI x0 :: st) h = Evk 137 (d + 1) 93 2 ls st (Ev d 137 0 [some (vI x0), some (vI x1)] [] h) := RcallS (idx := 56) (n := 2) (kd := 1) (As := [vI x0, vI x1]) hB_93 dX6_addPerson_2 rfl rfl (by decide) rfl rfl rfl hc
theorem v93_5 {d : Nat} {ls : LS3} {st : List MV} {h : Hp} {x : Int32} : Ev d 93 5 ls (vI x :: st) h = if x = 0 then Ev d 93 38 ls st h else Ev d 93 8 ls st h := Rif hB_93 dX6_addPerson_5 rfl
theorem v93_8 {d : Nat} {st : List MV} {h : Hp} {x : Int32} {a0 a1 a3 a4 : Option MV} : Ev d 93 8 [a0, a1, some (vI x), a3, a4] st h = Ev d 93 9 [a0, a1, some (vI x), a3, a4] (vI x :: st) h := Rnx (hB_93) (dX6_addPerson_8) rfl
theorem v93_9 {d : Nat} {ls : LS3} {st : List MV} {h : Hp} : Ev d 93 9 ls st h = Ev d 93 11 ls (vI 64 :: st) h := Rnx (hB_93) (dX6_addPerson_9) rfl
set_option maxRecDepth 100000 in
theorem v93_11 {d : Nat} {ls : LS3} {st : List MV} {h : Hp} {x0 : Int32} {x1 : Int32} (hc : catS st ≤ 8) : Ev (d + 1) 93 11 ls (vI x1 :: vI x0 :: st) h = Evk 137 (d + 1) 93 11 ls st (Ev d 137 0 [some (vI x0), some (vI x1)] [] h) := RcallS (idx := 56) (n := 2) (kd := 1) (As := [vI x0, vI x1]) hB_93 dX6_addPerson_11 rfl rfl (by decide) rfl rfl rfl hc
theorem v93_14 {d : Nat} {ls : LS3} {st : List MV} {h : Hp} {x : Int32} : Ev d 93 14 ls (vI x :: st) h = if x = 0 then Ev d 93 38 ls st h else Ev d 93 17 ls st h := Rif hB_93 dX6_addPerson_14 rfl
theorem v93_17 {d : Nat} {st : List MV} {h : Hp} {x : Int32} {a0 a1 a2 a4 : Option MV} : Ev d 93 17 [a0, a1, a2, some (vI x), a4] st h = Ev d 93 18 [a0, a1, a2, some (vI x), a4] (vI x :: st) h := Rnx (hB_93) (dX6_addPerson_17) rfl
theorem v93_18 {d : Nat} {ls : LS3} {st : List MV} {h : Hp} : Ev d 93 18 ls st h = Ev d 93 19 ls (vI 4 :: st) h := Rnx (hB_93) (dX6_addPerson_18) rfl
set_option maxRecDepth 100000 in
theorem v93_19 {d : Nat} {ls : LS3} {st : List MV} {h : Hp} {x0 : Int32} {x1 : Int32} (hc : catS st ≤ 8) : Ev (d + 1) 93 19 ls (vI x1 :: vI x0 :: st) h = Evk 137 (d + 1) 93 19 ls st (Ev d 137 0 [some (vI x0), some (vI x1)] [] h) := RcallS (idx := 56) (n := 2) (kd := 1) (As := [vI x0, vI x1]) hB_93 dX6_addPerson_19 rfl rfl (by decide) rfl rfl rfl hc
theorem v93_22 {d : Nat} {ls : LS3} {st : List MV} {h : Hp} {x : Int32} : Ev d 93 22 ls (vI x :: st) h = if x = 0 then Ev d 93 38 ls st h else Ev d 93 25 ls st h := Rif hB_93 dX6_addPerson_22 rfl
theorem v93_25 {d : Nat} {st : List MV} {h : Hp} {x : Int32} {a0 a1 a2 a3 : Option MV} : Ev d 93 25 [a0, a1, a2, a3, some (vI x)] st h = Ev d 93 27 [a0, a1, a2, a3, some (vI x)] (vI x :: st) h := Rnx (hB_93) (dX6_addPerson_25) rfl
theorem v93_27 {d : Nat} {ls : LS3} {st : List MV} {h : Hp} : Ev d 93 27 ls st h = Ev d 93 28 ls (vI 1 :: st) h := Rnx (hB_93) (dX6_addPerson_27) rfl
theorem v93_28 {d : Nat} {ls : LS3} {st : List MV} {h : Hp} {x y : Int32} : Ev d 93 28 ls (vI y :: vI x :: st) h = if x < y then Ev d 93 38 ls st h else Ev d 93 31 ls st h := Rif hB_93 dX6_addPerson_28 rfl
theorem v93_31 {d : Nat} {st : List MV} {h : Hp} {x : Int32} {a0 a1 a2 a3 : Option MV} : Ev d 93 31 [a0, a1, a2, a3, some (vI x)] st h = Ev d 93 33 [a0, a1, a2, a3, some (vI x)] (vI x :: st) h := Rnx (hB_93) (dX6_addPerson_31) rfl
theorem v93_33 {d : Nat} {ls : LS3} {st : List MV} {h : Hp} : Ev d 93 33 ls st h = Ev d 93 35 ls (vI 6 :: st) h := Rnx (hB_93) (dX6_addPerson_33) rfl
theorem v93_35 {d : Nat} {ls : LS3} {st : List MV} {h : Hp} {x y : Int32} : Ev d 93 35 ls (vI y :: vI x :: st) h = if x ≤ y then Ev d 93 48 ls st h else Ev d 93 38 ls st h := Rif hB_93 dX6_addPerson_35 rfl
set_option maxRecDepth 100000 in
theorem v93_38 {d : Nat} {ls : LS3} {st : List MV} {h : Hp} (hc : catS st ≤ 8) : Ev d 93 38 ls st h = some (.inr 0, gb h) := Rthr hB_93 dX6_addPerson_38 rfl rfl rfl hc
theorem v93_41 {d : Nat} {ls : LS3} {st : List MV} {h : Hp} {v : MV} (hv : cat1 v = true) : Ev d 93 41 ls (v :: st) h = Ev d 93 42 ls (v :: v :: st) h := Rdup hB_93 dX6_addPerson_41 hv
theorem v93_48 {d : Nat} {st : List MV} {h : Hp} {x : Option A3} {a1 a2 a3 a4 : Option MV} : Ev d 93 48 [some (vO x), a1, a2, a3, a4] st h = Ev d 93 49 [some (vO x), a1, a2, a3, a4] (vO x :: st) h := Rnx (hB_93) (dX6_addPerson_48) rfl
set_option maxRecDepth 100000 in
theorem v93_49 {d : Nat} {ls : LS3} {st : List MV} {h : Hp} {a : A3} (hS : gS h a = (1, 6)) : Ev d 93 49 ls (vR a :: st) h = Ev d 93 52 ls (vO (gR h a 0) :: st) h := Rget hB_93 dX6_addPerson_49 rfl (Or.inl hS)
set_option maxRecDepth 100000 in
theorem v93_52 {d : Nat} {ls : LS3} {st : List MV} {h : Hp} {a : A3} (hS : gS h a = (1, 4)) : Ev d 93 52 ls (vR a :: st) h = Ev d 93 55 ls (vI (gI h a 3) :: st) h := Rget hB_93 dX6_addPerson_52 rfl (Or.inl hS)
theorem v93_55 {d : Nat} {ls : LS3} {st : List MV} {h : Hp} : Ev d 93 55 ls st h = Ev d 93 57 ls (vI 14 :: st) h := Rnx (hB_93) (dX6_addPerson_55) rfl
theorem v93_57 {d : Nat} {ls : LS3} {st : List MV} {h : Hp} {x y : Int32} : Ev d 93 57 ls (vI y :: vI x :: st) h = if x < y then Ev d 93 70 ls st h else Ev d 93 60 ls st h := Rif hB_93 dX6_addPerson_57 rfl
set_option maxRecDepth 100000 in
theorem v93_60 {d : Nat} {ls : LS3} {st : List MV} {h : Hp} (hc : catS st ≤ 8) : Ev d 93 60 ls st h = some (.inr 1, gb h) := Rthr hB_93 dX6_addPerson_60 rfl rfl rfl hc
theorem v93_63 {d : Nat} {ls : LS3} {st : List MV} {h : Hp} {v : MV} (hv : cat1 v = true) : Ev d 93 63 ls (v :: st) h = Ev d 93 64 ls (v :: v :: st) h := Rdup hB_93 dX6_addPerson_63 hv
theorem v93_70 {d : Nat} {st : List MV} {h : Hp} {x : Option A3} {a1 a2 a3 a4 : Option MV} : Ev d 93 70 [some (vO x), a1, a2, a3, a4] st h = Ev d 93 71 [some (vO x), a1, a2, a3, a4] (vO x :: st) h := Rnx (hB_93) (dX6_addPerson_70) rfl
set_option maxRecDepth 100000 in
theorem v93_71 {d : Nat} {ls : LS3} {st : List MV} {h : Hp} {a : A3} (hS : gS h a = (1, 6)) : Ev d 93 71 ls (vR a :: st) h = Ev d 93 74 ls (vO (gR h a 2) :: st) h := Rget hB_93 dX6_addPerson_71 rfl (Or.inl hS)
theorem v93_74 {d : Nat} {st : List MV} {h : Hp} {x : Option A3} {a1 a2 a3 a4 : Option MV} : Ev d 93 74 [some (vO x), a1, a2, a3, a4] st h = Ev d 93 75 [some (vO x), a1, a2, a3, a4] (vO x :: st) h := Rnx (hB_93) (dX6_addPerson_74) rfl
set_option maxRecDepth 100000 in
theorem v93_75 {d : Nat} {ls : LS3} {st : List MV} {h : Hp} {a : A3} (hS : gS h a = (1, 6)) : Ev d 93 75 ls (vR a :: st) h = Ev d 93 78 ls (vO (gR h a 0) :: st) h := Rget hB_93 dX6_addPerson_75 rfl (Or.inl hS)
set_option maxRecDepth 100000 in
theorem v93_78 {d : Nat} {ls : LS3} {st : List MV} {h : Hp} {a : A3} {o0 : Option A3} (hS : gS h a = (1, 1)) (hc : catS st ≤ 8) : Ev (d + 1) 93 78 ls (vO o0 :: vR a :: st) h = Evk 6 (d + 1) 93 78 ls st (Ev d 6 0 [some (vR a), some (vO o0)] [] h) := RcallO (idx := 72) (n := 1) (kd := 0) (As' := [vO o0]) hB_93 dX6_addPerson_78 rfl rfl (by decide) rfl rfl (Or.inl hS) rfl hc
theorem v93_81 {d : Nat} {st : List MV} {h : Hp} {x : Option A3} {a1 a2 a3 a4 : Option MV} : Ev d 93 81 [some (vO x), a1, a2, a3, a4] st h = Ev d 93 82 [some (vO x), a1, a2, a3, a4] (vO x :: st) h := Rnx (hB_93) (dX6_addPerson_81) rfl
set_option maxRecDepth 100000 in
theorem v93_82 {d : Nat} {ls : LS3} {st : List MV} {h : Hp} {a : A3} (hS : gS h a = (1, 6)) : Ev d 93 82 ls (vR a :: st) h = Ev d 93 85 ls (vO (gR h a 0) :: st) h := Rget hB_93 dX6_addPerson_82 rfl (Or.inl hS)
theorem v93_85 {d : Nat} {st : List MV} {h : Hp} {x : Int32} {a0 a2 a3 a4 : Option MV} : Ev d 93 85 [a0, some (vI x), a2, a3, a4] st h = Ev d 93 86 [a0, some (vI x), a2, a3, a4] (vI x :: st) h := Rnx (hB_93) (dX6_addPerson_85) rfl
theorem v93_86 {d : Nat} {st : List MV} {h : Hp} {x : Int32} {a0 a1 a3 a4 : Option MV} : Ev d 93 86 [a0, a1, some (vI x), a3, a4] st h = Ev d 93 87 [a0, a1, some (vI x), a3, a4] (vI x :: st) h := Rnx (hB_93) (dX6_addPerson_86) rfl
theorem v93_87 {d : Nat} {st : List MV} {h : Hp} {x : Int32} {a0 a1 a2 a4 : Option MV} : Ev d 93 87 [a0, a1, a2, some (vI x), a4] st h = Ev d 93 88 [a0, a1, a2, some (vI x), a4] (vI x :: st) h := Rnx (hB_93) (dX6_addPerson_87) rfl
theorem v93_88 {d : Nat} {st : List MV} {h : Hp} {x : Int32} {a0 a1 a2 a3 : Option MV} : Ev d 93 88 [a0, a1, a2, a3, some (vI x)] st h = Ev d 93 90 [a0, a1, a2, a3, some (vI x)] (vI x :: st) h := Rnx (hB_93) (dX6_addPerson_88) rfl
set_option maxRecDepth 100000 in
theorem v93_90 {d : Nat} {ls : LS3} {st : List MV} {h : Hp} {a : A3} {x0 : Int32} {x1 : Int32} {x2 : Int32} {x3 : Int32} (hS : gS h a = (1, 4)) (hc : catS st ≤ 8) : Ev (d + 1) 93 90 ls (vI x3 :: vI x2 :: vI x1 :: vI x0 :: vR a :: st) h = Evk 33 (d + 1) 93 90 ls st (Ev d 33 0 [some (vR a), some (vI x0), some (vI x1), some (vI x2), some (vI x3)] [] h) := RcallO (idx := 76) (n := 4) (kd := 0) (As' := [vI x0, vI x1, vI x2, vI x3]) hB_93 dX6_addPerson_90 rfl rfl (by decide) rfl rfl (Or.inl hS) rfl hc
theorem v93_93 {d : Nat} {ls : LS3} {h : Hp} {x : Int32} : Ev d 93 93 ls [vI x] h = some (.inl (some (vI x)), h) := Rdn hB_93 dX6_addPerson_93 rfl
theorem hB_94 : mB 94 = cX6_setConflict := rfl
theorem v94_0 {d : Nat} {st : List MV} {h : Hp} {x : Option A3} {a1 a2 a3 a4 a5 a6 : Option MV} : Ev d 94 0 [some (vO x), a1, a2, a3, a4, a5, a6] st h = Ev d 94 1 [some (vO x), a1, a2, a3, a4, a5, a6] (vO x :: st) h := Rnx (hB_94) (dX6_setConflict_0) rfl
theorem v94_1 {d : Nat} {st : List MV} {h : Hp} {x : Int32} {a0 a2 a3 a4 a5 a6 : Option MV} : Ev d 94 1 [a0, some (vI x), a2, a3, a4, a5, a6] st h = Ev d 94 2 [a0, some (vI x), a2, a3, a4, a5, a6] (vI x :: st) h := Rnx (hB_94) (dX6_setConflict_1) rfl
set_option maxRecDepth 100000 in
theorem v94_2 {d : Nat} {ls : LS3} {st : List MV} {h : Hp} {a : A3} {x0 : Int32} (hS : gS h a = (1, 6)) (hc : catS st ≤ 8) : Ev (d + 1) 94 2 ls (vI x0 :: vR a :: st) h = Evk 130 (d + 1) 94 2 ls st (Ev d 130 0 [some (vR a), some (vI x0)] [] h) := RcallO (idx := 80) (n := 1) (kd := 0) (As' := [vI x0]) hB_94 dX6_setConflict_2 rfl rfl (by decide) rfl rfl (Or.inl hS) rfl hc
theorem v94_5 {d : Nat} {st : List MV} {h : Hp} {x : Option A3} {a0 a1 a2 a3 a4 a5 a6 : Option MV} : Ev d 94 5 [a0, a1, a2, a3, a4, a5, a6] (vO x :: st) h = Ev d 94 7 [a0, a1, a2, a3, some (vO x), a5, a6] st h := Rnx (hB_94) (dX6_setConflict_5) rfl
theorem v94_7 {d : Nat} {st : List MV} {h : Hp} {x : Option A3} {a1 a2 a3 a4 a5 a6 : Option MV} : Ev d 94 7 [some (vO x), a1, a2, a3, a4, a5, a6] st h = Ev d 94 8 [some (vO x), a1, a2, a3, a4, a5, a6] (vO x :: st) h := Rnx (hB_94) (dX6_setConflict_7) rfl
theorem v94_8 {d : Nat} {st : List MV} {h : Hp} {x : Int32} {a0 a1 a3 a4 a5 a6 : Option MV} : Ev d 94 8 [a0, a1, some (vI x), a3, a4, a5, a6] st h = Ev d 94 9 [a0, a1, some (vI x), a3, a4, a5, a6] (vI x :: st) h := Rnx (hB_94) (dX6_setConflict_8) rfl
set_option maxRecDepth 100000 in
theorem v94_9 {d : Nat} {ls : LS3} {st : List MV} {h : Hp} {a : A3} {x0 : Int32} (hS : gS h a = (1, 6)) (hc : catS st ≤ 8) : Ev (d + 1) 94 9 ls (vI x0 :: vR a :: st) h = Evk 130 (d + 1) 94 9 ls st (Ev d 130 0 [some (vR a), some (vI x0)] [] h) := RcallO (idx := 80) (n := 1) (kd := 0) (As' := [vI x0]) hB_94 dX6_setConflict_9 rfl rfl (by decide) rfl rfl (Or.inl hS) rfl hc
theorem v94_12 {d : Nat} {st : List MV} {h : Hp} {x : Option A3} {a0 a1 a2 a3 a4 a5 a6 : Option MV} : Ev d 94 12 [a0, a1, a2, a3, a4, a5, a6] (vO x :: st) h = Ev d 94 14 [a0, a1, a2, a3, a4, some (vO x), a6] st h := Rnx (hB_94) (dX6_setConflict_12) rfl
theorem v94_14 {d : Nat} {st : List MV} {h : Hp} {x : Int32} {a0 a2 a3 a4 a5 a6 : Option MV} : Ev d 94 14 [a0, some (vI x), a2, a3, a4, a5, a6] st h = Ev d 94 15 [a0, some (vI x), a2, a3, a4, a5, a6] (vI x :: st) h := Rnx (hB_94) (dX6_setConflict_14) rfl
theorem v94_15 {d : Nat} {st : List MV} {h : Hp} {x : Int32} {a0 a1 a3 a4 a5 a6 : Option MV} : Ev d 94 15 [a0, a1, some (vI x), a3, a4, a5, a6] st h = Ev d 94 16 [a0, a1, some (vI x), a3, a4, a5, a6] (vI x :: st) h := Rnx (hB_94) (dX6_setConflict_15) rfl
theorem v94_16 {d : Nat} {ls : LS3} {st : List MV} {h : Hp} {x y : Int32} : Ev d 94 16 ls (vI y :: vI x :: st) h = if x = y then Ev d 94 19 ls st h else Ev d 94 29 ls st h := Rifn hB_94 dX6_setConflict_16 rfl
set_option maxRecDepth 100000 in
theorem v94_19 {d : Nat} {ls : LS3} {st : List MV} {h : Hp} (hc : catS st ≤ 8) : Ev d 94 19 ls st h = some (.inr 0, gb h) := Rthr hB_94 dX6_setConflict_19 rfl rfl rfl hc
theorem v94_22 {d : Nat} {ls : LS3} {st : List MV} {h : Hp} {v : MV} (hv : cat1 v = true) : Ev d 94 22 ls (v :: st) h = Ev d 94 23 ls (v :: v :: st) h := Rdup hB_94 dX6_setConflict_22 hv
theorem v94_29 {d : Nat} {st : List MV} {h : Hp} {x : Option A3} {a1 a2 a3 a4 a5 a6 : Option MV} : Ev d 94 29 [some (vO x), a1, a2, a3, a4, a5, a6] st h = Ev d 94 30 [some (vO x), a1, a2, a3, a4, a5, a6] (vO x :: st) h := Rnx (hB_94) (dX6_setConflict_29) rfl
set_option maxRecDepth 100000 in
theorem v94_30 {d : Nat} {ls : LS3} {st : List MV} {h : Hp} {a : A3} (hS : gS h a = (1, 6)) : Ev d 94 30 ls (vR a :: st) h = Ev d 94 33 ls (vO (gR h a 2) :: st) h := Rget hB_94 dX6_setConflict_30 rfl (Or.inl hS)
theorem v94_33 {d : Nat} {st : List MV} {h : Hp} {x : Option A3} {a1 a2 a3 a4 a5 a6 : Option MV} : Ev d 94 33 [some (vO x), a1, a2, a3, a4, a5, a6] st h = Ev d 94 34 [some (vO x), a1, a2, a3, a4, a5, a6] (vO x :: st) h := Rnx (hB_94) (dX6_setConflict_33) rfl
set_option maxRecDepth 100000 in
theorem v94_34 {d : Nat} {ls : LS3} {st : List MV} {h : Hp} {a : A3} (hS : gS h a = (1, 6)) : Ev d 94 34 ls (vR a :: st) h = Ev d 94 37 ls (vO (gR h a 0) :: st) h := Rget hB_94 dX6_setConflict_34 rfl (Or.inl hS)
set_option maxRecDepth 100000 in
theorem v94_37 {d : Nat} {ls : LS3} {st : List MV} {h : Hp} {a : A3} {o0 : Option A3} (hS : gS h a = (1, 1)) (hc : catS st ≤ 8) : Ev (d + 1) 94 37 ls (vO o0 :: vR a :: st) h = Evk 6 (d + 1) 94 37 ls st (Ev d 6 0 [some (vR a), some (vO o0)] [] h) := RcallO (idx := 72) (n := 1) (kd := 0) (As' := [vO o0]) hB_94 dX6_setConflict_37 rfl rfl (by decide) rfl rfl (Or.inl hS) rfl hc
theorem v94_40 {d : Nat} {st : List MV} {h : Hp} {x : Option A3} {a0 a1 a2 a3 a4 a6 : Option MV} : Ev d 94 40 [a0, a1, a2, a3, a4, some (vO x), a6] st h = Ev d 94 42 [a0, a1, a2, a3, a4, some (vO x), a6] (vO x :: st) h := Rnx (hB_94) (dX6_setConflict_40) rfl
theorem v94_42 {d : Nat} {st : List MV} {h : Hp} {x : Option A3} {a0 a1 a2 a3 a5 a6 : Option MV} : Ev d 94 42 [a0, a1, a2, a3, some (vO x), a5, a6] st h = Ev d 94 44 [a0, a1, a2, a3, some (vO x), a5, a6] (vO x :: st) h := Rnx (hB_94) (dX6_setConflict_42) rfl
set_option maxRecDepth 100000 in
theorem v94_44 {d : Nat} {ls : LS3} {st : List MV} {h : Hp} {a : A3} (hS : gS h a = (1, 3)) : Ev d 94 44 ls (vR a :: st) h = Ev d 94 47 ls (vI (gI h a 7) :: st) h := Rget hB_94 dX6_setConflict_44 rfl (Or.inl hS)
set_option maxRecDepth 100000 in
theorem v94_47 {d : Nat} {ls : LS3} {st : List MV} {h : Hp} {a : A3} {x0 : Int32} (hS : gS h a = (1, 3)) (hc : catS st ≤ 8) : Ev (d + 1) 94 47 ls (vI x0 :: vR a :: st) h = Evk 25 (d + 1) 94 47 ls st (Ev d 25 0 [some (vR a), some (vI x0)] [] h) := RcallO (idx := 91) (n := 1) (kd := 0) (As' := [vI x0]) hB_94 dX6_setConflict_47 rfl rfl (by decide) rfl rfl (Or.inl hS) rfl hc
theorem v94_50 {d : Nat} {st : List MV} {h : Hp} {x : Int32} {a0 a1 a2 a3 a4 a5 a6 : Option MV} : Ev d 94 50 [a0, a1, a2, a3, a4, a5, a6] (vI x :: st) h = Ev d 94 52 [a0, a1, a2, a3, a4, a5, some (vI x)] st h := Rnx (hB_94) (dX6_setConflict_50) rfl
theorem v94_52 {d : Nat} {st : List MV} {h : Hp} {x : Option A3} {a0 a1 a2 a3 a5 a6 : Option MV} : Ev d 94 52 [a0, a1, a2, a3, some (vO x), a5, a6] st h = Ev d 94 54 [a0, a1, a2, a3, some (vO x), a5, a6] (vO x :: st) h := Rnx (hB_94) (dX6_setConflict_52) rfl
theorem v94_54 {d : Nat} {st : List MV} {h : Hp} {x : Option A3} {a0 a1 a2 a3 a4 a6 : Option MV} : Ev d 94 54 [a0, a1, a2, a3, a4, some (vO x), a6] st h = Ev d 94 56 [a0, a1, a2, a3, a4, some (vO x), a6] (vO x :: st) h := Rnx (hB_94) (dX6_setConflict_54) rfl
theorem v94_56 {d : Nat} {st : List MV} {h : Hp} {x : Int32} {a0 a1 a2 a4 a5 a6 : Option MV} : Ev d 94 56 [a0, a1, a2, some (vI x), a4, a5, a6] st h = Ev d 94 57 [a0, a1, a2, some (vI x), a4, a5, a6] (vI x :: st) h := Rnx (hB_94) (dX6_setConflict_56) rfl
set_option maxRecDepth 100000 in
theorem v94_57 {d : Nat} {ls : LS3} {st : List MV} {h : Hp} {a : A3} {o0 : Option A3} {x1 : Int32} (hS : gS h a = (1, 3)) (hc : catS st ≤ 8) : Ev (d + 1) 94 57 ls (vI x1 :: vO o0 :: vR a :: st) h = Evk 26 (d + 1) 94 57 ls st (Ev d 26 0 [some (vR a), some (vO o0), some (vI x1)] [] h) := RcallO (idx := 95) (n := 2) (kd := 0) (As' := [vO o0, vI x1]) hB_94 dX6_setConflict_57 rfl rfl (by decide) rfl rfl (Or.inl hS) rfl hc
theorem v94_60 {d : Nat} {st : List MV} {h : Hp} {x : Option A3} {a0 a1 a2 a3 a4 a6 : Option MV} : Ev d 94 60 [a0, a1, a2, a3, a4, some (vO x), a6] st h = Ev d 94 62 [a0, a1, a2, a3, a4, some (vO x), a6] (vO x :: st) h := Rnx (hB_94) (dX6_setConflict_60) rfl
theorem v94_62 {d : Nat} {st : List MV} {h : Hp} {x : Option A3} {a0 a1 a2 a3 a5 a6 : Option MV} : Ev d 94 62 [a0, a1, a2, a3, some (vO x), a5, a6] st h = Ev d 94 64 [a0, a1, a2, a3, some (vO x), a5, a6] (vO x :: st) h := Rnx (hB_94) (dX6_setConflict_62) rfl
theorem v94_64 {d : Nat} {st : List MV} {h : Hp} {x : Int32} {a0 a1 a2 a4 a5 a6 : Option MV} : Ev d 94 64 [a0, a1, a2, some (vI x), a4, a5, a6] st h = Ev d 94 65 [a0, a1, a2, some (vI x), a4, a5, a6] (vI x :: st) h := Rnx (hB_94) (dX6_setConflict_64) rfl
set_option maxRecDepth 100000 in
theorem v94_65 {d : Nat} {ls : LS3} {st : List MV} {h : Hp} {a : A3} {o0 : Option A3} {x1 : Int32} (hS : gS h a = (1, 3)) (hc : catS st ≤ 8) : Ev (d + 1) 94 65 ls (vI x1 :: vO o0 :: vR a :: st) h = Evk 26 (d + 1) 94 65 ls st (Ev d 26 0 [some (vR a), some (vO o0), some (vI x1)] [] h) := RcallO (idx := 95) (n := 2) (kd := 0) (As' := [vO o0, vI x1]) hB_94 dX6_setConflict_65 rfl rfl (by decide) rfl rfl (Or.inl hS) rfl hc
theorem v94_68 {d : Nat} {st : List MV} {h : Hp} {x : Int32} {a0 a1 a2 a3 a4 a5 : Option MV} : Ev d 94 68 [a0, a1, a2, a3, a4, a5, some (vI x)] st h = Ev d 94 70 [a0, a1, a2, a3, a4, a5, some (vI x)] (vI x :: st) h := Rnx (hB_94) (dX6_setConflict_68) rfl
theorem v94_70 {d : Nat} {ls : LS3} {h : Hp} {x : Int32} (hx : x = 0 ∨ x = 1) : Ev d 94 70 ls [vI x] h = some (.inl (some (vI x)), h) := RretB hB_94 dX6_setConflict_70 rfl hx
theorem hB_95 : mB 95 = cX6_setBusy := rfl
theorem v95_0 {d : Nat} {st : List MV} {h : Hp} {x : Option A3} {a1 a2 a3 a4 a5 a6 : Option MV} : Ev d 95 0 [some (vO x), a1, a2, a3, a4, a5, a6] st h = Ev d 95 1 [some (vO x), a1, a2, a3, a4, a5, a6] (vO x :: st) h := Rnx (hB_95) (dX6_setBusy_0) rfl
theorem v95_1 {d : Nat} {st : List MV} {h : Hp} {x : Int32} {a0 a2 a3 a4 a5 a6 : Option MV} : Ev d 95 1 [a0, some (vI x), a2, a3, a4, a5, a6] st h = Ev d 95 2 [a0, some (vI x), a2, a3, a4, a5, a6] (vI x :: st) h := Rnx (hB_95) (dX6_setBusy_1) rfl
set_option maxRecDepth 100000 in
theorem v95_2 {d : Nat} {ls : LS3} {st : List MV} {h : Hp} {a : A3} {x0 : Int32} (hS : gS h a = (1, 6)) (hc : catS st ≤ 8) : Ev (d + 1) 95 2 ls (vI x0 :: vR a :: st) h = Evk 130 (d + 1) 95 2 ls st (Ev d 130 0 [some (vR a), some (vI x0)] [] h) := RcallO (idx := 80) (n := 1) (kd := 0) (As' := [vI x0]) hB_95 dX6_setBusy_2 rfl rfl (by decide) rfl rfl (Or.inl hS) rfl hc
theorem v95_5 {d : Nat} {st : List MV} {h : Hp} {x : Option A3} {a0 a1 a2 a3 a4 a5 a6 : Option MV} : Ev d 95 5 [a0, a1, a2, a3, a4, a5, a6] (vO x :: st) h = Ev d 95 7 [a0, a1, a2, a3, a4, some (vO x), a6] st h := Rnx (hB_95) (dX6_setBusy_5) rfl
theorem v95_7 {d : Nat} {st : List MV} {h : Hp} {x : Int32} {a0 a1 a3 a4 a5 a6 : Option MV} : Ev d 95 7 [a0, a1, some (vI x), a3, a4, a5, a6] st h = Ev d 95 8 [a0, a1, some (vI x), a3, a4, a5, a6] (vI x :: st) h := Rnx (hB_95) (dX6_setBusy_7) rfl
theorem v95_8 {d : Nat} {st : List MV} {h : Hp} {x : Int32} {a0 a1 a2 a4 a5 a6 : Option MV} : Ev d 95 8 [a0, a1, a2, some (vI x), a4, a5, a6] st h = Ev d 95 9 [a0, a1, a2, some (vI x), a4, a5, a6] (vI x :: st) h := Rnx (hB_95) (dX6_setBusy_8) rfl
theorem v95_9 {d : Nat} {ls : LS3} {st : List MV} {h : Hp} : Ev d 95 9 ls st h = Ev d 95 11 ls (vI 7 :: st) h := Rnx (hB_95) (dX6_setBusy_9) rfl
set_option maxRecDepth 100000 in
theorem v95_11 {d : Nat} {ls : LS3} {st : List MV} {h : Hp} {x0 : Int32} {x1 : Int32} {x2 : Int32} (hc : catS st ≤ 8) : Ev (d + 1) 95 11 ls (vI x2 :: vI x1 :: vI x0 :: st) h = Evk 133 (d + 1) 95 11 ls st (Ev d 133 0 [some (vI x0), some (vI x1), some (vI x2)] [] h) := RcallS (idx := 99) (n := 3) (kd := 1) (As := [vI x0, vI x1, vI x2]) hB_95 dX6_setBusy_11 rfl rfl (by decide) rfl rfl rfl hc
theorem v95_14 {d : Nat} {st : List MV} {h : Hp} {x : Option A3} {a1 a2 a3 a4 a5 a6 : Option MV} : Ev d 95 14 [some (vO x), a1, a2, a3, a4, a5, a6] st h = Ev d 95 15 [some (vO x), a1, a2, a3, a4, a5, a6] (vO x :: st) h := Rnx (hB_95) (dX6_setBusy_14) rfl
set_option maxRecDepth 100000 in
theorem v95_15 {d : Nat} {ls : LS3} {st : List MV} {h : Hp} {a : A3} (hS : gS h a = (1, 6)) : Ev d 95 15 ls (vR a :: st) h = Ev d 95 18 ls (vO (gR h a 2) :: st) h := Rget hB_95 dX6_setBusy_15 rfl (Or.inl hS)
theorem v95_18 {d : Nat} {st : List MV} {h : Hp} {x : Option A3} {a1 a2 a3 a4 a5 a6 : Option MV} : Ev d 95 18 [some (vO x), a1, a2, a3, a4, a5, a6] st h = Ev d 95 19 [some (vO x), a1, a2, a3, a4, a5, a6] (vO x :: st) h := Rnx (hB_95) (dX6_setBusy_18) rfl
set_option maxRecDepth 100000 in
theorem v95_19 {d : Nat} {ls : LS3} {st : List MV} {h : Hp} {a : A3} (hS : gS h a = (1, 6)) : Ev d 95 19 ls (vR a :: st) h = Ev d 95 22 ls (vO (gR h a 0) :: st) h := Rget hB_95 dX6_setBusy_19 rfl (Or.inl hS)
set_option maxRecDepth 100000 in
theorem v95_22 {d : Nat} {ls : LS3} {st : List MV} {h : Hp} {a : A3} {o0 : Option A3} (hS : gS h a = (1, 1)) (hc : catS st ≤ 8) : Ev (d + 1) 95 22 ls (vO o0 :: vR a :: st) h = Evk 6 (d + 1) 95 22 ls st (Ev d 6 0 [some (vR a), some (vO o0)] [] h) := RcallO (idx := 72) (n := 1) (kd := 0) (As' := [vO o0]) hB_95 dX6_setBusy_22 rfl rfl (by decide) rfl rfl (Or.inl hS) rfl hc
theorem v95_25 {d : Nat} {st : List MV} {h : Hp} {x : Option A3} {a0 a1 a2 a3 a4 a6 : Option MV} : Ev d 95 25 [a0, a1, a2, a3, a4, some (vO x), a6] st h = Ev d 95 27 [a0, a1, a2, a3, a4, some (vO x), a6] (vO x :: st) h := Rnx (hB_95) (dX6_setBusy_25) rfl
theorem v95_27 {d : Nat} {st : List MV} {h : Hp} {x : Int32} {a0 a1 a3 a4 a5 a6 : Option MV} : Ev d 95 27 [a0, a1, some (vI x), a3, a4, a5, a6] st h = Ev d 95 28 [a0, a1, some (vI x), a3, a4, a5, a6] (vI x :: st) h := Rnx (hB_95) (dX6_setBusy_27) rfl
theorem v95_28 {d : Nat} {st : List MV} {h : Hp} {x : Int32} {a0 a1 a2 a4 a5 a6 : Option MV} : Ev d 95 28 [a0, a1, a2, some (vI x), a4, a5, a6] st h = Ev d 95 29 [a0, a1, a2, some (vI x), a4, a5, a6] (vI x :: st) h := Rnx (hB_95) (dX6_setBusy_28) rfl
set_option maxRecDepth 100000 in
theorem v95_29 {d : Nat} {ls : LS3} {st : List MV} {h : Hp} {a : A3} {x0 : Int32} {x1 : Int32} (hS : gS h a = (1, 3)) (hc : catS st ≤ 8) : Ev (d + 1) 95 29 ls (vI x1 :: vI x0 :: vR a :: st) h = Evk 28 (d + 1) 95 29 ls st (Ev d 28 0 [some (vR a), some (vI x0), some (vI x1)] [] h) := RcallO (idx := 103) (n := 2) (kd := 0) (As' := [vI x0, vI x1]) hB_95 dX6_setBusy_29 rfl rfl (by decide) rfl rfl (Or.inl hS) rfl hc
theorem v95_32 {d : Nat} {st : List MV} {h : Hp} {x : Int32} {a0 a1 a2 a3 a4 a5 a6 : Option MV} : Ev d 95 32 [a0, a1, a2, a3, a4, a5, a6] (vI x :: st) h = Ev d 95 34 [a0, a1, a2, a3, a4, a5, some (vI x)] st h := Rnx (hB_95) (dX6_setBusy_32) rfl
theorem v95_34 {d : Nat} {st : List MV} {h : Hp} {x : Int32} {a0 a1 a2 a3 a4 a5 : Option MV} : Ev d 95 34 [a0, a1, a2, a3, a4, a5, some (vI x)] st h = Ev d 95 36 [a0, a1, a2, a3, a4, a5, some (vI x)] (vI x :: st) h := Rnx (hB_95) (dX6_setBusy_34) rfl
theorem v95_36 {d : Nat} {st : List MV} {h : Hp} {x : Int32} {a0 a1 a2 a3 a5 a6 : Option MV} : Ev d 95 36 [a0, a1, a2, a3, some (vI x), a5, a6] st h = Ev d 95 38 [a0, a1, a2, a3, some (vI x), a5, a6] (vI x :: st) h := Rnx (hB_95) (dX6_setBusy_36) rfl
theorem v95_38 {d : Nat} {ls : LS3} {st : List MV} {h : Hp} {x y : Int32} : Ev d 95 38 ls (vI y :: vI x :: st) h = if x = y then Ev d 95 48 ls st h else Ev d 95 41 ls st h := Rif hB_95 dX6_setBusy_38 rfl
theorem v95_41 {d : Nat} {st : List MV} {h : Hp} {x : Option A3} {a0 a1 a2 a3 a4 a6 : Option MV} : Ev d 95 41 [a0, a1, a2, a3, a4, some (vO x), a6] st h = Ev d 95 43 [a0, a1, a2, a3, a4, some (vO x), a6] (vO x :: st) h := Rnx (hB_95) (dX6_setBusy_41) rfl
theorem v95_43 {d : Nat} {st : List MV} {h : Hp} {x : Int32} {a0 a1 a3 a4 a5 a6 : Option MV} : Ev d 95 43 [a0, a1, some (vI x), a3, a4, a5, a6] st h = Ev d 95 44 [a0, a1, some (vI x), a3, a4, a5, a6] (vI x :: st) h := Rnx (hB_95) (dX6_setBusy_43) rfl
theorem v95_44 {d : Nat} {st : List MV} {h : Hp} {x : Int32} {a0 a1 a2 a4 a5 a6 : Option MV} : Ev d 95 44 [a0, a1, a2, some (vI x), a4, a5, a6] st h = Ev d 95 45 [a0, a1, a2, some (vI x), a4, a5, a6] (vI x :: st) h := Rnx (hB_95) (dX6_setBusy_44) rfl
set_option maxRecDepth 100000 in
theorem v95_45 {d : Nat} {ls : LS3} {st : List MV} {h : Hp} {a : A3} {x0 : Int32} {x1 : Int32} (hS : gS h a = (1, 3)) (hc : catS st ≤ 8) : Ev (d + 1) 95 45 ls (vI x1 :: vI x0 :: vR a :: st) h = Evk 29 (d + 1) 95 45 ls st (Ev d 29 0 [some (vR a), some (vI x0), some (vI x1), none] [] h) := RcallO (idx := 106) (n := 2) (kd := 0) (As' := [vI x0, vI x1]) hB_95 dX6_setBusy_45 rfl rfl (by decide) rfl rfl (Or.inl hS) rfl hc
theorem v95_48 {d : Nat} {st : List MV} {h : Hp} {x : Int32} {a0 a1 a2 a3 a4 a5 : Option MV} : Ev d 95 48 [a0, a1, a2, a3, a4, a5, some (vI x)] st h = Ev d 95 50 [a0, a1, a2, a3, a4, a5, some (vI x)] (vI x :: st) h := Rnx (hB_95) (dX6_setBusy_48) rfl
theorem v95_50 {d : Nat} {ls : LS3} {h : Hp} {x : Int32} (hx : x = 0 ∨ x = 1) : Ev d 95 50 ls [vI x] h = some (.inl (some (vI x)), h) := RretB hB_95 dX6_setBusy_50 rfl hx
theorem hB_96 : mB 96 = cX6_person := rfl
theorem v96_0 {d : Nat} {st : List MV} {h : Hp} {x : Option A3} {a1 a2 a3 : Option MV} : Ev d 96 0 [some (vO x), a1, a2, a3] st h = Ev d 96 1 [some (vO x), a1, a2, a3] (vO x :: st) h := Rnx (hB_96) (dX6_person_0) rfl
theorem v96_1 {d : Nat} {st : List MV} {h : Hp} {x : Int32} {a0 a2 a3 : Option MV} : Ev d 96 1 [a0, some (vI x), a2, a3] st h = Ev d 96 2 [a0, some (vI x), a2, a3] (vI x :: st) h := Rnx (hB_96) (dX6_person_1) rfl
set_option maxRecDepth 100000 in
theorem v96_2 {d : Nat} {ls : LS3} {st : List MV} {h : Hp} {a : A3} {x0 : Int32} (hS : gS h a = (1, 6)) (hc : catS st ≤ 8) : Ev (d + 1) 96 2 ls (vI x0 :: vR a :: st) h = Evk 130 (d + 1) 96 2 ls st (Ev d 130 0 [some (vR a), some (vI x0)] [] h) := RcallO (idx := 80) (n := 1) (kd := 0) (As' := [vI x0]) hB_96 dX6_person_2 rfl rfl (by decide) rfl rfl (Or.inl hS) rfl hc
theorem v96_5 {d : Nat} {st : List MV} {h : Hp} {x : Option A3} {a0 a1 a2 a3 : Option MV} : Ev d 96 5 [a0, a1, a2, a3] (vO x :: st) h = Ev d 96 6 [a0, a1, a2, some (vO x)] st h := Rnx (hB_96) (dX6_person_5) rfl
theorem v96_6 {d : Nat} {st : List MV} {h : Hp} {x : Int32} {a0 a1 a3 : Option MV} : Ev d 96 6 [a0, a1, some (vI x), a3] st h = Ev d 96 7 [a0, a1, some (vI x), a3] (vI x :: st) h := Rnx (hB_96) (dX6_person_6) rfl
theorem v96_7 {d : Nat} {ls : LS3} {st : List MV} {h : Hp} {x : Int32} : Ev d 96 7 ls (vI x :: st) h = if x = 0 then Ev d 96 52 ls st h else if x = 1 then Ev d 96 57 ls st h else if x = 2 then Ev d 96 62 ls st h else if x = 3 then Ev d 96 67 ls st h else if x = 4 then Ev d 96 72 ls st h else if x = 5 then Ev d 96 77 ls st h else if x = 6 then Ev d 96 87 ls st h else if x = 7 then Ev d 96 96 ls st h else Ev d 96 101 ls st h := by
  by_cases z : x.toInt < 0 ∨ 7 < x.toInt
  · rw [if_neg (fun y => by rw [y] at z; revert z; decide), if_neg (fun y => by rw [y] at z; revert z; decide), if_neg (fun y => by rw [y] at z; revert z; decide), if_neg (fun y => by rw [y] at z; revert z; decide), if_neg (fun y => by rw [y] at z; revert z; decide), if_neg (fun y => by rw [y] at z; revert z; decide), if_neg (fun y => by rw [y] at z; revert z; decide), if_neg (fun y => by rw [y] at z; revert z; decide)]
    exact Rnx hB_96 dX6_person_7 (xTab_out z)
  · rcases (show x.toInt = 0 ∨ x.toInt = 1 ∨ x.toInt = 2 ∨ x.toInt = 3 ∨ x.toInt = 4 ∨ x.toInt = 5 ∨ x.toInt = 6 ∨ x.toInt = 7 by omega) with y | y | y | y | y | y | y | y
    · have e : x = 0 := Int32.toInt_inj.mp (y.trans rfl)
      subst e
      rw [if_pos rfl]; exact Rnx hB_96 dX6_person_7 rfl
    · have e : x = 1 := Int32.toInt_inj.mp (y.trans rfl)
      subst e
      rw [if_neg (by decide)]; rw [if_pos rfl]; exact Rnx hB_96 dX6_person_7 rfl
    · have e : x = 2 := Int32.toInt_inj.mp (y.trans rfl)
      subst e
      rw [if_neg (by decide)]; rw [if_neg (by decide)]; rw [if_pos rfl]; exact Rnx hB_96 dX6_person_7 rfl
    · have e : x = 3 := Int32.toInt_inj.mp (y.trans rfl)
      subst e
      rw [if_neg (by decide)]; rw [if_neg (by decide)]; rw [if_neg (by decide)]; rw [if_pos rfl]; exact Rnx hB_96 dX6_person_7 rfl
    · have e : x = 4 := Int32.toInt_inj.mp (y.trans rfl)
      subst e
      rw [if_neg (by decide)]; rw [if_neg (by decide)]; rw [if_neg (by decide)]; rw [if_neg (by decide)]; rw [if_pos rfl]; exact Rnx hB_96 dX6_person_7 rfl
    · have e : x = 5 := Int32.toInt_inj.mp (y.trans rfl)
      subst e
      rw [if_neg (by decide)]; rw [if_neg (by decide)]; rw [if_neg (by decide)]; rw [if_neg (by decide)]; rw [if_neg (by decide)]; rw [if_pos rfl]; exact Rnx hB_96 dX6_person_7 rfl
    · have e : x = 6 := Int32.toInt_inj.mp (y.trans rfl)
      subst e
      rw [if_neg (by decide)]; rw [if_neg (by decide)]; rw [if_neg (by decide)]; rw [if_neg (by decide)]; rw [if_neg (by decide)]; rw [if_neg (by decide)]; rw [if_pos rfl]; exact Rnx hB_96 dX6_person_7 rfl
    · have e : x = 7 := Int32.toInt_inj.mp (y.trans rfl)
      subst e
      rw [if_neg (by decide)]; rw [if_neg (by decide)]; rw [if_neg (by decide)]; rw [if_neg (by decide)]; rw [if_neg (by decide)]; rw [if_neg (by decide)]; rw [if_neg (by decide)]; rw [if_pos rfl]; exact Rnx hB_96 dX6_person_7 rfl
theorem v96_52 {d : Nat} {st : List MV} {h : Hp} {x : Option A3} {a0 a1 a2 : Option MV} : Ev d 96 52 [a0, a1, a2, some (vO x)] st h = Ev d 96 53 [a0, a1, a2, some (vO x)] (vO x :: st) h := Rnx (hB_96) (dX6_person_52) rfl
set_option maxRecDepth 100000 in
theorem v96_53 {d : Nat} {ls : LS3} {st : List MV} {h : Hp} {a : A3} (hS : gS h a = (1, 3)) : Ev d 96 53 ls (vR a :: st) h = Ev d 96 56 ls (vI (gI h a 3) :: st) h := Rget hB_96 dX6_person_53 rfl (Or.inl hS)
theorem v96_56 {d : Nat} {ls : LS3} {h : Hp} {x : Int32} : Ev d 96 56 ls [vI x] h = some (.inl (some (vI x)), h) := Rdn hB_96 dX6_person_56 rfl
theorem v96_57 {d : Nat} {st : List MV} {h : Hp} {x : Option A3} {a0 a1 a2 : Option MV} : Ev d 96 57 [a0, a1, a2, some (vO x)] st h = Ev d 96 58 [a0, a1, a2, some (vO x)] (vO x :: st) h := Rnx (hB_96) (dX6_person_57) rfl
set_option maxRecDepth 100000 in
theorem v96_58 {d : Nat} {ls : LS3} {st : List MV} {h : Hp} {a : A3} (hS : gS h a = (1, 3)) : Ev d 96 58 ls (vR a :: st) h = Ev d 96 61 ls (vI (gI h a 4) :: st) h := Rget hB_96 dX6_person_58 rfl (Or.inl hS)
theorem v96_61 {d : Nat} {ls : LS3} {h : Hp} {x : Int32} : Ev d 96 61 ls [vI x] h = some (.inl (some (vI x)), h) := Rdn hB_96 dX6_person_61 rfl
theorem v96_62 {d : Nat} {st : List MV} {h : Hp} {x : Option A3} {a0 a1 a2 : Option MV} : Ev d 96 62 [a0, a1, a2, some (vO x)] st h = Ev d 96 63 [a0, a1, a2, some (vO x)] (vO x :: st) h := Rnx (hB_96) (dX6_person_62) rfl
set_option maxRecDepth 100000 in
theorem v96_63 {d : Nat} {ls : LS3} {st : List MV} {h : Hp} {a : A3} (hS : gS h a = (1, 3)) : Ev d 96 63 ls (vR a :: st) h = Ev d 96 66 ls (vI (gI h a 5) :: st) h := Rget hB_96 dX6_person_63 rfl (Or.inl hS)
theorem v96_66 {d : Nat} {ls : LS3} {h : Hp} {x : Int32} : Ev d 96 66 ls [vI x] h = some (.inl (some (vI x)), h) := Rdn hB_96 dX6_person_66 rfl
theorem v96_67 {d : Nat} {st : List MV} {h : Hp} {x : Option A3} {a0 a1 a2 : Option MV} : Ev d 96 67 [a0, a1, a2, some (vO x)] st h = Ev d 96 68 [a0, a1, a2, some (vO x)] (vO x :: st) h := Rnx (hB_96) (dX6_person_67) rfl
set_option maxRecDepth 100000 in
theorem v96_68 {d : Nat} {ls : LS3} {st : List MV} {h : Hp} {a : A3} (hS : gS h a = (1, 3)) : Ev d 96 68 ls (vR a :: st) h = Ev d 96 71 ls (vI (gI h a 6) :: st) h := Rget hB_96 dX6_person_68 rfl (Or.inl hS)
theorem v96_71 {d : Nat} {ls : LS3} {h : Hp} {x : Int32} : Ev d 96 71 ls [vI x] h = some (.inl (some (vI x)), h) := Rdn hB_96 dX6_person_71 rfl
theorem v96_72 {d : Nat} {st : List MV} {h : Hp} {x : Option A3} {a0 a1 a2 : Option MV} : Ev d 96 72 [a0, a1, a2, some (vO x)] st h = Ev d 96 73 [a0, a1, a2, some (vO x)] (vO x :: st) h := Rnx (hB_96) (dX6_person_72) rfl
set_option maxRecDepth 100000 in
theorem v96_73 {d : Nat} {ls : LS3} {st : List MV} {h : Hp} {a : A3} (hS : gS h a = (1, 3)) : Ev d 96 73 ls (vR a :: st) h = Ev d 96 76 ls (vI (gI h a 7) :: st) h := Rget hB_96 dX6_person_73 rfl (Or.inl hS)
theorem v96_76 {d : Nat} {ls : LS3} {h : Hp} {x : Int32} : Ev d 96 76 ls [vI x] h = some (.inl (some (vI x)), h) := Rdn hB_96 dX6_person_76 rfl
theorem v96_77 {d : Nat} {st : List MV} {h : Hp} {x : Option A3} {a1 a2 a3 : Option MV} : Ev d 96 77 [some (vO x), a1, a2, a3] st h = Ev d 96 78 [some (vO x), a1, a2, a3] (vO x :: st) h := Rnx (hB_96) (dX6_person_77) rfl
set_option maxRecDepth 100000 in
theorem v96_78 {d : Nat} {ls : LS3} {st : List MV} {h : Hp} {a : A3} (hS : gS h a = (1, 6)) : Ev d 96 78 ls (vR a :: st) h = Ev d 96 81 ls (vO (gR h a 0) :: st) h := Rget hB_96 dX6_person_78 rfl (Or.inl hS)
theorem v96_81 {d : Nat} {st : List MV} {h : Hp} {x : Option A3} {a0 a1 a2 : Option MV} : Ev d 96 81 [a0, a1, a2, some (vO x)] st h = Ev d 96 82 [a0, a1, a2, some (vO x)] (vO x :: st) h := Rnx (hB_96) (dX6_person_81) rfl
theorem v96_82 {d : Nat} {ls : LS3} {st : List MV} {h : Hp} : Ev d 96 82 ls st h = Ev d 96 83 ls (vO none :: st) h := Rnx (hB_96) (dX6_person_82) rfl
set_option maxRecDepth 100000 in
theorem v96_83 {d : Nat} {ls : LS3} {st : List MV} {h : Hp} {a : A3} {o0 : Option A3} {o1 : Option A3} (hS : gS h a = (1, 4)) (hc : catS st ≤ 8) : Ev (d + 1) 96 83 ls (vO o1 :: vO o0 :: vR a :: st) h = Evk 35 (d + 1) 96 83 ls st (Ev d 35 0 [some (vR a), some (vO o0), some (vO o1), none, none, none, none, none] [] h) := RcallO (idx := 122) (n := 2) (kd := 0) (As' := [vO o0, vO o1]) hB_96 dX6_person_83 rfl rfl (by decide) rfl rfl (Or.inl hS) rfl hc
theorem v96_86 {d : Nat} {ls : LS3} {h : Hp} {x : Int32} : Ev d 96 86 ls [vI x] h = some (.inl (some (vI x)), h) := Rdn hB_96 dX6_person_86 rfl
theorem v96_87 {d : Nat} {st : List MV} {h : Hp} {x : Option A3} {a1 a2 a3 : Option MV} : Ev d 96 87 [some (vO x), a1, a2, a3] st h = Ev d 96 88 [some (vO x), a1, a2, a3] (vO x :: st) h := Rnx (hB_96) (dX6_person_87) rfl
set_option maxRecDepth 100000 in
theorem v96_88 {d : Nat} {ls : LS3} {st : List MV} {h : Hp} {a : A3} (hS : gS h a = (1, 6)) : Ev d 96 88 ls (vR a :: st) h = Ev d 96 91 ls (vO (gR h a 0) :: st) h := Rget hB_96 dX6_person_88 rfl (Or.inl hS)
theorem v96_91 {d : Nat} {st : List MV} {h : Hp} {x : Option A3} {a0 a1 a2 : Option MV} : Ev d 96 91 [a0, a1, a2, some (vO x)] st h = Ev d 96 92 [a0, a1, a2, some (vO x)] (vO x :: st) h := Rnx (hB_96) (dX6_person_91) rfl
set_option maxRecDepth 100000 in
theorem v96_92 {d : Nat} {ls : LS3} {st : List MV} {h : Hp} {a : A3} {o0 : Option A3} (hS : gS h a = (1, 4)) (hc : catS st ≤ 8) : Ev (d + 1) 96 92 ls (vO o0 :: vR a :: st) h = Evk 36 (d + 1) 96 92 ls st (Ev d 36 0 [some (vR a), some (vO o0), none, none, none, none, none] [] h) := RcallO (idx := 126) (n := 1) (kd := 0) (As' := [vO o0]) hB_96 dX6_person_92 rfl rfl (by decide) rfl rfl (Or.inl hS) rfl hc
theorem v96_95 {d : Nat} {ls : LS3} {h : Hp} {x : Int32} : Ev d 96 95 ls [vI x] h = some (.inl (some (vI x)), h) := Rdn hB_96 dX6_person_95 rfl
theorem v96_96 {d : Nat} {st : List MV} {h : Hp} {x : Option A3} {a0 a1 a2 : Option MV} : Ev d 96 96 [a0, a1, a2, some (vO x)] st h = Ev d 96 97 [a0, a1, a2, some (vO x)] (vO x :: st) h := Rnx (hB_96) (dX6_person_96) rfl
set_option maxRecDepth 100000 in
theorem v96_97 {d : Nat} {ls : LS3} {st : List MV} {h : Hp} {a : A3} (hS : gS h a = (1, 3)) : Ev d 96 97 ls (vR a :: st) h = Ev d 96 100 ls (vI (gI h a 2) :: st) h := Rget hB_96 dX6_person_97 rfl (Or.inl hS)
theorem v96_100 {d : Nat} {ls : LS3} {h : Hp} {x : Int32} : Ev d 96 100 ls [vI x] h = some (.inl (some (vI x)), h) := Rdn hB_96 dX6_person_100 rfl
set_option maxRecDepth 100000 in
theorem v96_101 {d : Nat} {ls : LS3} {st : List MV} {h : Hp} (hc : catS st ≤ 8) : Ev d 96 101 ls st h = some (.inr 0, gb h) := Rthr hB_96 dX6_person_101 rfl rfl rfl hc
theorem v96_104 {d : Nat} {ls : LS3} {st : List MV} {h : Hp} {v : MV} (hv : cat1 v = true) : Ev d 96 104 ls (v :: st) h = Ev d 96 105 ls (v :: v :: st) h := Rdup hB_96 dX6_person_104 hv
theorem hB_97 : mB 97 = cX6_isFree := rfl
theorem v97_0 {d : Nat} {st : List MV} {h : Hp} {x : Option A3} {a1 a2 a3 a4 : Option MV} : Ev d 97 0 [some (vO x), a1, a2, a3, a4] st h = Ev d 97 1 [some (vO x), a1, a2, a3, a4] (vO x :: st) h := Rnx (hB_97) (dX6_isFree_0) rfl
theorem v97_1 {d : Nat} {st : List MV} {h : Hp} {x : Int32} {a0 a2 a3 a4 : Option MV} : Ev d 97 1 [a0, some (vI x), a2, a3, a4] st h = Ev d 97 2 [a0, some (vI x), a2, a3, a4] (vI x :: st) h := Rnx (hB_97) (dX6_isFree_1) rfl
set_option maxRecDepth 100000 in
theorem v97_2 {d : Nat} {ls : LS3} {st : List MV} {h : Hp} {a : A3} {x0 : Int32} (hS : gS h a = (1, 6)) (hc : catS st ≤ 8) : Ev (d + 1) 97 2 ls (vI x0 :: vR a :: st) h = Evk 130 (d + 1) 97 2 ls st (Ev d 130 0 [some (vR a), some (vI x0)] [] h) := RcallO (idx := 80) (n := 1) (kd := 0) (As' := [vI x0]) hB_97 dX6_isFree_2 rfl rfl (by decide) rfl rfl (Or.inl hS) rfl hc
theorem v97_5 {d : Nat} {st : List MV} {h : Hp} {x : Option A3} {a0 a1 a2 a3 a4 : Option MV} : Ev d 97 5 [a0, a1, a2, a3, a4] (vO x :: st) h = Ev d 97 7 [a0, a1, a2, a3, some (vO x)] st h := Rnx (hB_97) (dX6_isFree_5) rfl
theorem v97_7 {d : Nat} {st : List MV} {h : Hp} {x : Int32} {a0 a1 a3 a4 : Option MV} : Ev d 97 7 [a0, a1, some (vI x), a3, a4] st h = Ev d 97 8 [a0, a1, some (vI x), a3, a4] (vI x :: st) h := Rnx (hB_97) (dX6_isFree_7) rfl
theorem v97_8 {d : Nat} {st : List MV} {h : Hp} {x : Int32} {a0 a1 a2 a4 : Option MV} : Ev d 97 8 [a0, a1, a2, some (vI x), a4] st h = Ev d 97 9 [a0, a1, a2, some (vI x), a4] (vI x :: st) h := Rnx (hB_97) (dX6_isFree_8) rfl
theorem v97_9 {d : Nat} {ls : LS3} {st : List MV} {h : Hp} : Ev d 97 9 ls st h = Ev d 97 11 ls (vI 6 :: st) h := Rnx (hB_97) (dX6_isFree_9) rfl
set_option maxRecDepth 100000 in
theorem v97_11 {d : Nat} {ls : LS3} {st : List MV} {h : Hp} {x0 : Int32} {x1 : Int32} {x2 : Int32} (hc : catS st ≤ 8) : Ev (d + 1) 97 11 ls (vI x2 :: vI x1 :: vI x0 :: st) h = Evk 133 (d + 1) 97 11 ls st (Ev d 133 0 [some (vI x0), some (vI x1), some (vI x2)] [] h) := RcallS (idx := 99) (n := 3) (kd := 1) (As := [vI x0, vI x1, vI x2]) hB_97 dX6_isFree_11 rfl rfl (by decide) rfl rfl rfl hc
theorem v97_14 {d : Nat} {st : List MV} {h : Hp} {x : Option A3} {a1 a2 a3 a4 : Option MV} : Ev d 97 14 [some (vO x), a1, a2, a3, a4] st h = Ev d 97 15 [some (vO x), a1, a2, a3, a4] (vO x :: st) h := Rnx (hB_97) (dX6_isFree_14) rfl
set_option maxRecDepth 100000 in
theorem v97_15 {d : Nat} {ls : LS3} {st : List MV} {h : Hp} {a : A3} (hS : gS h a = (1, 6)) : Ev d 97 15 ls (vR a :: st) h = Ev d 97 18 ls (vO (gR h a 0) :: st) h := Rget hB_97 dX6_isFree_15 rfl (Or.inl hS)
theorem v97_18 {d : Nat} {st : List MV} {h : Hp} {x : Option A3} {a0 a1 a2 a3 : Option MV} : Ev d 97 18 [a0, a1, a2, a3, some (vO x)] st h = Ev d 97 20 [a0, a1, a2, a3, some (vO x)] (vO x :: st) h := Rnx (hB_97) (dX6_isFree_18) rfl
theorem v97_20 {d : Nat} {st : List MV} {h : Hp} {x : Int32} {a0 a1 a3 a4 : Option MV} : Ev d 97 20 [a0, a1, some (vI x), a3, a4] st h = Ev d 97 21 [a0, a1, some (vI x), a3, a4] (vI x :: st) h := Rnx (hB_97) (dX6_isFree_20) rfl
theorem v97_21 {d : Nat} {ls : LS3} {st : List MV} {h : Hp} : Ev d 97 21 ls st h = Ev d 97 22 ls (vO none :: st) h := Rnx (hB_97) (dX6_isFree_21) rfl
set_option maxRecDepth 100000 in
theorem v97_22 {d : Nat} {ls : LS3} {st : List MV} {h : Hp} {a : A3} {o0 : Option A3} {x1 : Int32} {o2 : Option A3} (hS : gS h a = (1, 4)) (hc : catS st ≤ 8) : Ev (d + 1) 97 22 ls (vO o2 :: vI x1 :: vO o0 :: vR a :: st) h = Evk 37 (d + 1) 97 22 ls st (Ev d 37 0 [some (vR a), some (vO o0), some (vI x1), some (vO o2), none, none, none, none, none] [] h) := RcallO (idx := 135) (n := 3) (kd := 0) (As' := [vO o0, vI x1, vO o2]) hB_97 dX6_isFree_22 rfl rfl (by decide) rfl rfl (Or.inl hS) rfl hc
theorem v97_25 {d : Nat} {ls : LS3} {st : List MV} {h : Hp} : Ev d 97 25 ls st h = Ev d 97 26 ls (vI 3 :: st) h := Rnx (hB_97) (dX6_isFree_25) rfl
theorem v97_26 {d : Nat} {st : List MV} {h : Hp} {x : Int32} {a0 a1 a2 a4 : Option MV} : Ev d 97 26 [a0, a1, a2, some (vI x), a4] st h = Ev d 97 27 [a0, a1, a2, some (vI x), a4] (vI x :: st) h := Rnx (hB_97) (dX6_isFree_26) rfl
theorem v97_27 {d : Nat} {ls : LS3} {st : List MV} {h : Hp} {x y : Int32} : Ev d 97 27 ls (vI y :: vI x :: st) h = Ev d 97 28 ls (vI (x <<< (y &&& 31)) :: st) h := Rnx (hB_97) (dX6_isFree_27) rfl
theorem v97_28 {d : Nat} {ls : LS3} {st : List MV} {h : Hp} {x y : Int32} : Ev d 97 28 ls (vI y :: vI x :: st) h = Ev d 97 29 ls (vI (x &&& y) :: st) h := Rnx (hB_97) (dX6_isFree_28) rfl
theorem v97_29 {d : Nat} {ls : LS3} {st : List MV} {h : Hp} {x : Int32} : Ev d 97 29 ls (vI x :: st) h = if x = 0 then Ev d 97 32 ls st h else Ev d 97 36 ls st h := Rifn hB_97 dX6_isFree_29 rfl
theorem v97_32 {d : Nat} {ls : LS3} {st : List MV} {h : Hp} : Ev d 97 32 ls st h = Ev d 97 33 ls (vI 1 :: st) h := Rnx (hB_97) (dX6_isFree_32) rfl
theorem v97_33 {d : Nat} {ls : LS3} {st : List MV} {h : Hp} : Ev d 97 33 ls st h = Ev d 97 37 ls st h := Rnx (hB_97) (dX6_isFree_33) rfl
theorem v97_36 {d : Nat} {ls : LS3} {st : List MV} {h : Hp} : Ev d 97 36 ls st h = Ev d 97 37 ls (vI 0 :: st) h := Rnx (hB_97) (dX6_isFree_36) rfl
theorem v97_37 {d : Nat} {ls : LS3} {h : Hp} {x : Int32} (hx : x = 0 ∨ x = 1) : Ev d 97 37 ls [vI x] h = some (.inl (some (vI x)), h) := RretB hB_97 dX6_isFree_37 rfl hx
theorem hB_98 : mB 98 = cX6_freeDay := rfl
theorem v98_0 {d : Nat} {st : List MV} {h : Hp} {x : Option A3} {a1 a2 : Option MV} : Ev d 98 0 [some (vO x), a1, a2] st h = Ev d 98 1 [some (vO x), a1, a2] (vO x :: st) h := Rnx (hB_98) (dX6_freeDay_0) rfl
set_option maxRecDepth 100000 in
theorem v98_1 {d : Nat} {ls : LS3} {st : List MV} {h : Hp} {a : A3} (hS : gS h a = (1, 6)) : Ev d 98 1 ls (vR a :: st) h = Ev d 98 4 ls (vO (gR h a 0) :: st) h := Rget hB_98 dX6_freeDay_1 rfl (Or.inl hS)
theorem v98_4 {d : Nat} {st : List MV} {h : Hp} {x : Option A3} {a1 a2 : Option MV} : Ev d 98 4 [some (vO x), a1, a2] st h = Ev d 98 5 [some (vO x), a1, a2] (vO x :: st) h := Rnx (hB_98) (dX6_freeDay_4) rfl
theorem v98_5 {d : Nat} {st : List MV} {h : Hp} {x : Int32} {a0 a2 : Option MV} : Ev d 98 5 [a0, some (vI x), a2] st h = Ev d 98 6 [a0, some (vI x), a2] (vI x :: st) h := Rnx (hB_98) (dX6_freeDay_5) rfl
set_option maxRecDepth 100000 in
theorem v98_6 {d : Nat} {ls : LS3} {st : List MV} {h : Hp} {a : A3} {x0 : Int32} (hS : gS h a = (1, 6)) (hc : catS st ≤ 8) : Ev (d + 1) 98 6 ls (vI x0 :: vR a :: st) h = Evk 130 (d + 1) 98 6 ls st (Ev d 130 0 [some (vR a), some (vI x0)] [] h) := RcallO (idx := 80) (n := 1) (kd := 0) (As' := [vI x0]) hB_98 dX6_freeDay_6 rfl rfl (by decide) rfl rfl (Or.inl hS) rfl hc
set_option maxRecDepth 100000 in
theorem v98_9 {d : Nat} {ls : LS3} {st : List MV} {h : Hp} {a : A3} {o0 : Option A3} (hS : gS h a = (1, 4)) (hc : catS st ≤ 8) : Ev (d + 1) 98 9 ls (vO o0 :: vR a :: st) h = Evk 38 (d + 1) 98 9 ls st (Ev d 38 0 [some (vR a), some (vO o0), none] [] h) := RcallO (idx := 139) (n := 1) (kd := 0) (As' := [vO o0]) hB_98 dX6_freeDay_9 rfl rfl (by decide) rfl rfl (Or.inl hS) rfl hc
theorem v98_12 {d : Nat} {st : List MV} {h : Hp} {x : Int32} {a0 a1 a2 : Option MV} : Ev d 98 12 [a0, a1, a2] (vI x :: st) h = Ev d 98 13 [a0, a1, some (vI x)] st h := Rnx (hB_98) (dX6_freeDay_12) rfl
theorem v98_13 {d : Nat} {st : List MV} {h : Hp} {x : Int32} {a0 a1 : Option MV} : Ev d 98 13 [a0, a1, some (vI x)] st h = Ev d 98 14 [a0, a1, some (vI x)] (vI x :: st) h := Rnx (hB_98) (dX6_freeDay_13) rfl
theorem v98_14 {d : Nat} {ls : LS3} {st : List MV} {h : Hp} : Ev d 98 14 ls st h = Ev d 98 15 ls (vI (-1) :: st) h := Rnx (hB_98) (dX6_freeDay_14) rfl
theorem v98_15 {d : Nat} {ls : LS3} {st : List MV} {h : Hp} {x y : Int32} : Ev d 98 15 ls (vI y :: vI x :: st) h = if x = y then Ev d 98 18 ls st h else Ev d 98 28 ls st h := Rifn hB_98 dX6_freeDay_15 rfl
set_option maxRecDepth 100000 in
theorem v98_18 {d : Nat} {ls : LS3} {st : List MV} {h : Hp} (hc : catS st ≤ 8) : Ev d 98 18 ls st h = some (.inr 3, gb h) := Rthr hB_98 dX6_freeDay_18 rfl rfl rfl hc
theorem v98_21 {d : Nat} {ls : LS3} {st : List MV} {h : Hp} {v : MV} (hv : cat1 v = true) : Ev d 98 21 ls (v :: st) h = Ev d 98 22 ls (v :: v :: st) h := Rdup hB_98 dX6_freeDay_21 hv
theorem v98_28 {d : Nat} {st : List MV} {h : Hp} {x : Int32} {a0 a1 : Option MV} : Ev d 98 28 [a0, a1, some (vI x)] st h = Ev d 98 29 [a0, a1, some (vI x)] (vI x :: st) h := Rnx (hB_98) (dX6_freeDay_28) rfl
theorem v98_29 {d : Nat} {ls : LS3} {h : Hp} {x : Int32} : Ev d 98 29 ls [vI x] h = some (.inl (some (vI x)), h) := Rdn hB_98 dX6_freeDay_29 rfl
theorem hB_99 : mB 99 = cX6_addThesis := rfl
theorem v99_0 {d : Nat} {st : List MV} {h : Hp} {x : Option A3} {a1 a2 a3 a4 : Option MV} : Ev d 99 0 [some (vO x), a1, a2, a3, a4] st h = Ev d 99 1 [some (vO x), a1, a2, a3, a4] (vO x :: st) h := Rnx (hB_99) (dX6_addThesis_0) rfl
theorem v99_1 {d : Nat} {st : List MV} {h : Hp} {x : Int32} {a0 a1 a2 a3 : Option MV} : Ev d 99 1 [a0, a1, a2, a3, some (vI x)] st h = Ev d 99 3 [a0, a1, a2, a3, some (vI x)] (vI x :: st) h := Rnx (hB_99) (dX6_addThesis_1) rfl
set_option maxRecDepth 100000 in
theorem v99_3 {d : Nat} {ls : LS3} {st : List MV} {h : Hp} {a : A3} {x0 : Int32} (hS : gS h a = (1, 6)) (hc : catS st ≤ 8) : Ev (d + 1) 99 3 ls (vI x0 :: vR a :: st) h = Evk 130 (d + 1) 99 3 ls st (Ev d 130 0 [some (vR a), some (vI x0)] [] h) := RcallO (idx := 80) (n := 1) (kd := 0) (As' := [vI x0]) hB_99 dX6_addThesis_3 rfl rfl (by decide) rfl rfl (Or.inl hS) rfl hc
theorem v99_6 {d : Nat} {ls : LS3} {st : List MV} {h : Hp} {v : MV} (hv : cat1 v = true) : Ev d 99 6 ls (v :: st) h = Ev d 99 7 ls st h := Rpop hB_99 dX6_addThesis_6 hv
theorem v99_7 {d : Nat} {st : List MV} {h : Hp} {x : Int32} {a0 a2 a3 a4 : Option MV} : Ev d 99 7 [a0, some (vI x), a2, a3, a4] st h = Ev d 99 8 [a0, some (vI x), a2, a3, a4] (vI x :: st) h := Rnx (hB_99) (dX6_addThesis_7) rfl
theorem v99_8 {d : Nat} {ls : LS3} {st : List MV} {h : Hp} : Ev d 99 8 ls st h = Ev d 99 9 ls (vI 3 :: st) h := Rnx (hB_99) (dX6_addThesis_8) rfl
set_option maxRecDepth 100000 in
theorem v99_9 {d : Nat} {ls : LS3} {st : List MV} {h : Hp} {x0 : Int32} {x1 : Int32} (hc : catS st ≤ 8) : Ev (d + 1) 99 9 ls (vI x1 :: vI x0 :: st) h = Evk 137 (d + 1) 99 9 ls st (Ev d 137 0 [some (vI x0), some (vI x1)] [] h) := RcallS (idx := 56) (n := 2) (kd := 1) (As := [vI x0, vI x1]) hB_99 dX6_addThesis_9 rfl rfl (by decide) rfl rfl rfl hc
theorem v99_12 {d : Nat} {ls : LS3} {st : List MV} {h : Hp} {x : Int32} : Ev d 99 12 ls (vI x :: st) h = if x = 0 then Ev d 99 32 ls st h else Ev d 99 15 ls st h := Rif hB_99 dX6_addThesis_12 rfl
theorem v99_15 {d : Nat} {st : List MV} {h : Hp} {x : Int32} {a0 a1 a3 a4 : Option MV} : Ev d 99 15 [a0, a1, some (vI x), a3, a4] st h = Ev d 99 16 [a0, a1, some (vI x), a3, a4] (vI x :: st) h := Rnx (hB_99) (dX6_addThesis_15) rfl
theorem v99_16 {d : Nat} {ls : LS3} {st : List MV} {h : Hp} : Ev d 99 16 ls st h = Ev d 99 18 ls (vI 6 :: st) h := Rnx (hB_99) (dX6_addThesis_16) rfl
set_option maxRecDepth 100000 in
theorem v99_18 {d : Nat} {ls : LS3} {st : List MV} {h : Hp} {x0 : Int32} {x1 : Int32} (hc : catS st ≤ 8) : Ev (d + 1) 99 18 ls (vI x1 :: vI x0 :: st) h = Evk 137 (d + 1) 99 18 ls st (Ev d 137 0 [some (vI x0), some (vI x1)] [] h) := RcallS (idx := 56) (n := 2) (kd := 1) (As := [vI x0, vI x1]) hB_99 dX6_addThesis_18 rfl rfl (by decide) rfl rfl rfl hc
theorem v99_21 {d : Nat} {ls : LS3} {st : List MV} {h : Hp} {x : Int32} : Ev d 99 21 ls (vI x :: st) h = if x = 0 then Ev d 99 32 ls st h else Ev d 99 24 ls st h := Rif hB_99 dX6_addThesis_21 rfl
theorem v99_24 {d : Nat} {st : List MV} {h : Hp} {x : Int32} {a0 a1 a2 a4 : Option MV} : Ev d 99 24 [a0, a1, a2, some (vI x), a4] st h = Ev d 99 25 [a0, a1, a2, some (vI x), a4] (vI x :: st) h := Rnx (hB_99) (dX6_addThesis_24) rfl
theorem v99_25 {d : Nat} {ls : LS3} {st : List MV} {h : Hp} : Ev d 99 25 ls st h = Ev d 99 26 ls (vI 4 :: st) h := Rnx (hB_99) (dX6_addThesis_25) rfl
set_option maxRecDepth 100000 in
theorem v99_26 {d : Nat} {ls : LS3} {st : List MV} {h : Hp} {x0 : Int32} {x1 : Int32} (hc : catS st ≤ 8) : Ev (d + 1) 99 26 ls (vI x1 :: vI x0 :: st) h = Evk 137 (d + 1) 99 26 ls st (Ev d 137 0 [some (vI x0), some (vI x1)] [] h) := RcallS (idx := 56) (n := 2) (kd := 1) (As := [vI x0, vI x1]) hB_99 dX6_addThesis_26 rfl rfl (by decide) rfl rfl rfl hc
theorem v99_29 {d : Nat} {ls : LS3} {st : List MV} {h : Hp} {x : Int32} : Ev d 99 29 ls (vI x :: st) h = if x = 0 then Ev d 99 32 ls st h else Ev d 99 42 ls st h := Rifn hB_99 dX6_addThesis_29 rfl
set_option maxRecDepth 100000 in
theorem v99_32 {d : Nat} {ls : LS3} {st : List MV} {h : Hp} (hc : catS st ≤ 8) : Ev d 99 32 ls st h = some (.inr 0, gb h) := Rthr hB_99 dX6_addThesis_32 rfl rfl rfl hc
theorem v99_35 {d : Nat} {ls : LS3} {st : List MV} {h : Hp} {v : MV} (hv : cat1 v = true) : Ev d 99 35 ls (v :: st) h = Ev d 99 36 ls (v :: v :: st) h := Rdup hB_99 dX6_addThesis_35 hv
theorem v99_42 {d : Nat} {st : List MV} {h : Hp} {x : Option A3} {a1 a2 a3 a4 : Option MV} : Ev d 99 42 [some (vO x), a1, a2, a3, a4] st h = Ev d 99 43 [some (vO x), a1, a2, a3, a4] (vO x :: st) h := Rnx (hB_99) (dX6_addThesis_42) rfl
set_option maxRecDepth 100000 in
theorem v99_43 {d : Nat} {ls : LS3} {st : List MV} {h : Hp} {a : A3} (hS : gS h a = (1, 6)) : Ev d 99 43 ls (vR a :: st) h = Ev d 99 46 ls (vO (gR h a 0) :: st) h := Rget hB_99 dX6_addThesis_43 rfl (Or.inl hS)
set_option maxRecDepth 100000 in
theorem v99_46 {d : Nat} {ls : LS3} {st : List MV} {h : Hp} {a : A3} (hS : gS h a = (1, 4)) : Ev d 99 46 ls (vR a :: st) h = Ev d 99 49 ls (vI (gI h a 4) :: st) h := Rget hB_99 dX6_addThesis_46 rfl (Or.inl hS)
theorem v99_49 {d : Nat} {ls : LS3} {st : List MV} {h : Hp} : Ev d 99 49 ls st h = Ev d 99 51 ls (vI 8 :: st) h := Rnx (hB_99) (dX6_addThesis_49) rfl
theorem v99_51 {d : Nat} {ls : LS3} {st : List MV} {h : Hp} {x y : Int32} : Ev d 99 51 ls (vI y :: vI x :: st) h = if x < y then Ev d 99 64 ls st h else Ev d 99 54 ls st h := Rif hB_99 dX6_addThesis_51 rfl
set_option maxRecDepth 100000 in
theorem v99_54 {d : Nat} {ls : LS3} {st : List MV} {h : Hp} (hc : catS st ≤ 8) : Ev d 99 54 ls st h = some (.inr 1, gb h) := Rthr hB_99 dX6_addThesis_54 rfl rfl rfl hc
theorem v99_57 {d : Nat} {ls : LS3} {st : List MV} {h : Hp} {v : MV} (hv : cat1 v = true) : Ev d 99 57 ls (v :: st) h = Ev d 99 58 ls (v :: v :: st) h := Rdup hB_99 dX6_addThesis_57 hv
theorem v99_64 {d : Nat} {st : List MV} {h : Hp} {x : Option A3} {a1 a2 a3 a4 : Option MV} : Ev d 99 64 [some (vO x), a1, a2, a3, a4] st h = Ev d 99 65 [some (vO x), a1, a2, a3, a4] (vO x :: st) h := Rnx (hB_99) (dX6_addThesis_64) rfl
set_option maxRecDepth 100000 in
theorem v99_65 {d : Nat} {ls : LS3} {st : List MV} {h : Hp} {a : A3} (hS : gS h a = (1, 6)) : Ev d 99 65 ls (vR a :: st) h = Ev d 99 68 ls (vO (gR h a 2) :: st) h := Rget hB_99 dX6_addThesis_65 rfl (Or.inl hS)
theorem v99_68 {d : Nat} {st : List MV} {h : Hp} {x : Option A3} {a1 a2 a3 a4 : Option MV} : Ev d 99 68 [some (vO x), a1, a2, a3, a4] st h = Ev d 99 69 [some (vO x), a1, a2, a3, a4] (vO x :: st) h := Rnx (hB_99) (dX6_addThesis_68) rfl
set_option maxRecDepth 100000 in
theorem v99_69 {d : Nat} {ls : LS3} {st : List MV} {h : Hp} {a : A3} (hS : gS h a = (1, 6)) : Ev d 99 69 ls (vR a :: st) h = Ev d 99 72 ls (vO (gR h a 0) :: st) h := Rget hB_99 dX6_addThesis_69 rfl (Or.inl hS)
set_option maxRecDepth 100000 in
theorem v99_72 {d : Nat} {ls : LS3} {st : List MV} {h : Hp} {a : A3} {o0 : Option A3} (hS : gS h a = (1, 1)) (hc : catS st ≤ 8) : Ev (d + 1) 99 72 ls (vO o0 :: vR a :: st) h = Evk 6 (d + 1) 99 72 ls st (Ev d 6 0 [some (vR a), some (vO o0)] [] h) := RcallO (idx := 72) (n := 1) (kd := 0) (As' := [vO o0]) hB_99 dX6_addThesis_72 rfl rfl (by decide) rfl rfl (Or.inl hS) rfl hc
theorem v99_75 {d : Nat} {st : List MV} {h : Hp} {x : Option A3} {a1 a2 a3 a4 : Option MV} : Ev d 99 75 [some (vO x), a1, a2, a3, a4] st h = Ev d 99 76 [some (vO x), a1, a2, a3, a4] (vO x :: st) h := Rnx (hB_99) (dX6_addThesis_75) rfl
set_option maxRecDepth 100000 in
theorem v99_76 {d : Nat} {ls : LS3} {st : List MV} {h : Hp} {a : A3} (hS : gS h a = (1, 6)) : Ev d 99 76 ls (vR a :: st) h = Ev d 99 79 ls (vO (gR h a 0) :: st) h := Rget hB_99 dX6_addThesis_76 rfl (Or.inl hS)
theorem v99_79 {d : Nat} {st : List MV} {h : Hp} {x : Int32} {a0 a2 a3 a4 : Option MV} : Ev d 99 79 [a0, some (vI x), a2, a3, a4] st h = Ev d 99 80 [a0, some (vI x), a2, a3, a4] (vI x :: st) h := Rnx (hB_99) (dX6_addThesis_79) rfl
theorem v99_80 {d : Nat} {st : List MV} {h : Hp} {x : Int32} {a0 a1 a3 a4 : Option MV} : Ev d 99 80 [a0, a1, some (vI x), a3, a4] st h = Ev d 99 81 [a0, a1, some (vI x), a3, a4] (vI x :: st) h := Rnx (hB_99) (dX6_addThesis_80) rfl
theorem v99_81 {d : Nat} {st : List MV} {h : Hp} {x : Int32} {a0 a1 a2 a4 : Option MV} : Ev d 99 81 [a0, a1, a2, some (vI x), a4] st h = Ev d 99 82 [a0, a1, a2, some (vI x), a4] (vI x :: st) h := Rnx (hB_99) (dX6_addThesis_81) rfl
theorem v99_82 {d : Nat} {st : List MV} {h : Hp} {x : Int32} {a0 a1 a2 a3 : Option MV} : Ev d 99 82 [a0, a1, a2, a3, some (vI x)] st h = Ev d 99 84 [a0, a1, a2, a3, some (vI x)] (vI x :: st) h := Rnx (hB_99) (dX6_addThesis_82) rfl
set_option maxRecDepth 100000 in
theorem v99_84 {d : Nat} {ls : LS3} {st : List MV} {h : Hp} {a : A3} {x0 : Int32} {x1 : Int32} {x2 : Int32} {x3 : Int32} (hS : gS h a = (1, 4)) (hc : catS st ≤ 8) : Ev (d + 1) 99 84 ls (vI x3 :: vI x2 :: vI x1 :: vI x0 :: vR a :: st) h = Evk 34 (d + 1) 99 84 ls st (Ev d 34 0 [some (vR a), some (vI x0), some (vI x1), some (vI x2), some (vI x3)] [] h) := RcallO (idx := 154) (n := 4) (kd := 0) (As' := [vI x0, vI x1, vI x2, vI x3]) hB_99 dX6_addThesis_84 rfl rfl (by decide) rfl rfl (Or.inl hS) rfl hc
theorem v99_87 {d : Nat} {ls : LS3} {h : Hp} {x : Int32} : Ev d 99 87 ls [vI x] h = some (.inl (some (vI x)), h) := Rdn hB_99 dX6_addThesis_87 rfl
theorem hB_100 : mB 100 = cX6_thesis := rfl
theorem v100_0 {d : Nat} {st : List MV} {h : Hp} {x : Option A3} {a1 a2 a3 : Option MV} : Ev d 100 0 [some (vO x), a1, a2, a3] st h = Ev d 100 1 [some (vO x), a1, a2, a3] (vO x :: st) h := Rnx (hB_100) (dX6_thesis_0) rfl
theorem v100_1 {d : Nat} {st : List MV} {h : Hp} {x : Int32} {a0 a2 a3 : Option MV} : Ev d 100 1 [a0, some (vI x), a2, a3] st h = Ev d 100 2 [a0, some (vI x), a2, a3] (vI x :: st) h := Rnx (hB_100) (dX6_thesis_1) rfl
set_option maxRecDepth 100000 in
theorem v100_2 {d : Nat} {ls : LS3} {st : List MV} {h : Hp} {a : A3} {x0 : Int32} (hS : gS h a = (1, 6)) (hc : catS st ≤ 8) : Ev (d + 1) 100 2 ls (vI x0 :: vR a :: st) h = Evk 131 (d + 1) 100 2 ls st (Ev d 131 0 [some (vR a), some (vI x0)] [] h) := RcallO (idx := 157) (n := 1) (kd := 0) (As' := [vI x0]) hB_100 dX6_thesis_2 rfl rfl (by decide) rfl rfl (Or.inl hS) rfl hc
theorem v100_5 {d : Nat} {st : List MV} {h : Hp} {x : Option A3} {a0 a1 a2 a3 : Option MV} : Ev d 100 5 [a0, a1, a2, a3] (vO x :: st) h = Ev d 100 6 [a0, a1, a2, some (vO x)] st h := Rnx (hB_100) (dX6_thesis_5) rfl
theorem v100_6 {d : Nat} {st : List MV} {h : Hp} {x : Int32} {a0 a1 a3 : Option MV} : Ev d 100 6 [a0, a1, some (vI x), a3] st h = Ev d 100 7 [a0, a1, some (vI x), a3] (vI x :: st) h := Rnx (hB_100) (dX6_thesis_6) rfl
theorem v100_7 {d : Nat} {ls : LS3} {st : List MV} {h : Hp} {x : Int32} : Ev d 100 7 ls (vI x :: st) h = if x = 0 then Ev d 100 64 ls st h else if x = 1 then Ev d 100 69 ls st h else if x = 2 then Ev d 100 74 ls st h else if x = 3 then Ev d 100 79 ls st h else if x = 4 then Ev d 100 84 ls st h else if x = 5 then Ev d 100 89 ls st h else if x = 6 then Ev d 100 94 ls st h else if x = 7 then Ev d 100 99 ls st h else if x = 8 then Ev d 100 104 ls st h else if x = 9 then Ev d 100 109 ls st h else if x = 10 then Ev d 100 127 ls st h else Ev d 100 132 ls st h := by
  by_cases z : x.toInt < 0 ∨ 10 < x.toInt
  · rw [if_neg (fun y => by rw [y] at z; revert z; decide), if_neg (fun y => by rw [y] at z; revert z; decide), if_neg (fun y => by rw [y] at z; revert z; decide), if_neg (fun y => by rw [y] at z; revert z; decide), if_neg (fun y => by rw [y] at z; revert z; decide), if_neg (fun y => by rw [y] at z; revert z; decide), if_neg (fun y => by rw [y] at z; revert z; decide), if_neg (fun y => by rw [y] at z; revert z; decide), if_neg (fun y => by rw [y] at z; revert z; decide), if_neg (fun y => by rw [y] at z; revert z; decide), if_neg (fun y => by rw [y] at z; revert z; decide)]
    exact Rnx hB_100 dX6_thesis_7 (xTab_out z)
  · rcases (show x.toInt = 0 ∨ x.toInt = 1 ∨ x.toInt = 2 ∨ x.toInt = 3 ∨ x.toInt = 4 ∨ x.toInt = 5 ∨ x.toInt = 6 ∨ x.toInt = 7 ∨ x.toInt = 8 ∨ x.toInt = 9 ∨ x.toInt = 10 by omega) with y | y | y | y | y | y | y | y | y | y | y
    · have e : x = 0 := Int32.toInt_inj.mp (y.trans rfl)
      subst e
      rw [if_pos rfl]; exact Rnx hB_100 dX6_thesis_7 rfl
    · have e : x = 1 := Int32.toInt_inj.mp (y.trans rfl)
      subst e
      rw [if_neg (by decide)]; rw [if_pos rfl]; exact Rnx hB_100 dX6_thesis_7 rfl
    · have e : x = 2 := Int32.toInt_inj.mp (y.trans rfl)
      subst e
      rw [if_neg (by decide)]; rw [if_neg (by decide)]; rw [if_pos rfl]; exact Rnx hB_100 dX6_thesis_7 rfl
    · have e : x = 3 := Int32.toInt_inj.mp (y.trans rfl)
      subst e
      rw [if_neg (by decide)]; rw [if_neg (by decide)]; rw [if_neg (by decide)]; rw [if_pos rfl]; exact Rnx hB_100 dX6_thesis_7 rfl
    · have e : x = 4 := Int32.toInt_inj.mp (y.trans rfl)
      subst e
      rw [if_neg (by decide)]; rw [if_neg (by decide)]; rw [if_neg (by decide)]; rw [if_neg (by decide)]; rw [if_pos rfl]; exact Rnx hB_100 dX6_thesis_7 rfl
    · have e : x = 5 := Int32.toInt_inj.mp (y.trans rfl)
      subst e
      rw [if_neg (by decide)]; rw [if_neg (by decide)]; rw [if_neg (by decide)]; rw [if_neg (by decide)]; rw [if_neg (by decide)]; rw [if_pos rfl]; exact Rnx hB_100 dX6_thesis_7 rfl
    · have e : x = 6 := Int32.toInt_inj.mp (y.trans rfl)
      subst e
      rw [if_neg (by decide)]; rw [if_neg (by decide)]; rw [if_neg (by decide)]; rw [if_neg (by decide)]; rw [if_neg (by decide)]; rw [if_neg (by decide)]; rw [if_pos rfl]; exact Rnx hB_100 dX6_thesis_7 rfl
    · have e : x = 7 := Int32.toInt_inj.mp (y.trans rfl)
      subst e
      rw [if_neg (by decide)]; rw [if_neg (by decide)]; rw [if_neg (by decide)]; rw [if_neg (by decide)]; rw [if_neg (by decide)]; rw [if_neg (by decide)]; rw [if_neg (by decide)]; rw [if_pos rfl]; exact Rnx hB_100 dX6_thesis_7 rfl
    · have e : x = 8 := Int32.toInt_inj.mp (y.trans rfl)
      subst e
      rw [if_neg (by decide)]; rw [if_neg (by decide)]; rw [if_neg (by decide)]; rw [if_neg (by decide)]; rw [if_neg (by decide)]; rw [if_neg (by decide)]; rw [if_neg (by decide)]; rw [if_neg (by decide)]; rw [if_pos rfl]; exact Rnx hB_100 dX6_thesis_7 rfl
    · have e : x = 9 := Int32.toInt_inj.mp (y.trans rfl)
      subst e
      rw [if_neg (by decide)]; rw [if_neg (by decide)]; rw [if_neg (by decide)]; rw [if_neg (by decide)]; rw [if_neg (by decide)]; rw [if_neg (by decide)]; rw [if_neg (by decide)]; rw [if_neg (by decide)]; rw [if_neg (by decide)]; rw [if_pos rfl]; exact Rnx hB_100 dX6_thesis_7 rfl
    · have e : x = 10 := Int32.toInt_inj.mp (y.trans rfl)
      subst e
      rw [if_neg (by decide)]; rw [if_neg (by decide)]; rw [if_neg (by decide)]; rw [if_neg (by decide)]; rw [if_neg (by decide)]; rw [if_neg (by decide)]; rw [if_neg (by decide)]; rw [if_neg (by decide)]; rw [if_neg (by decide)]; rw [if_neg (by decide)]; rw [if_pos rfl]; exact Rnx hB_100 dX6_thesis_7 rfl
theorem v100_64 {d : Nat} {st : List MV} {h : Hp} {x : Option A3} {a0 a1 a2 : Option MV} : Ev d 100 64 [a0, a1, a2, some (vO x)] st h = Ev d 100 65 [a0, a1, a2, some (vO x)] (vO x :: st) h := Rnx (hB_100) (dX6_thesis_64) rfl
set_option maxRecDepth 100000 in
theorem v100_65 {d : Nat} {ls : LS3} {st : List MV} {h : Hp} {a : A3} (hS : gS h a = (1, 5)) : Ev d 100 65 ls (vR a :: st) h = Ev d 100 68 ls (vI (gI h a 1) :: st) h := Rget hB_100 dX6_thesis_65 rfl (Or.inl hS)
theorem v100_68 {d : Nat} {ls : LS3} {h : Hp} {x : Int32} : Ev d 100 68 ls [vI x] h = some (.inl (some (vI x)), h) := Rdn hB_100 dX6_thesis_68 rfl
theorem v100_69 {d : Nat} {st : List MV} {h : Hp} {x : Option A3} {a0 a1 a2 : Option MV} : Ev d 100 69 [a0, a1, a2, some (vO x)] st h = Ev d 100 70 [a0, a1, a2, some (vO x)] (vO x :: st) h := Rnx (hB_100) (dX6_thesis_69) rfl
set_option maxRecDepth 100000 in
theorem v100_70 {d : Nat} {ls : LS3} {st : List MV} {h : Hp} {a : A3} (hS : gS h a = (1, 5)) : Ev d 100 70 ls (vR a :: st) h = Ev d 100 73 ls (vI (gI h a 2) :: st) h := Rget hB_100 dX6_thesis_70 rfl (Or.inl hS)
theorem v100_73 {d : Nat} {ls : LS3} {h : Hp} {x : Int32} : Ev d 100 73 ls [vI x] h = some (.inl (some (vI x)), h) := Rdn hB_100 dX6_thesis_73 rfl
theorem v100_74 {d : Nat} {st : List MV} {h : Hp} {x : Option A3} {a0 a1 a2 : Option MV} : Ev d 100 74 [a0, a1, a2, some (vO x)] st h = Ev d 100 75 [a0, a1, a2, some (vO x)] (vO x :: st) h := Rnx (hB_100) (dX6_thesis_74) rfl
set_option maxRecDepth 100000 in
theorem v100_75 {d : Nat} {ls : LS3} {st : List MV} {h : Hp} {a : A3} (hS : gS h a = (1, 5)) : Ev d 100 75 ls (vR a :: st) h = Ev d 100 78 ls (vI (gI h a 3) :: st) h := Rget hB_100 dX6_thesis_75 rfl (Or.inl hS)
theorem v100_78 {d : Nat} {ls : LS3} {h : Hp} {x : Int32} : Ev d 100 78 ls [vI x] h = some (.inl (some (vI x)), h) := Rdn hB_100 dX6_thesis_78 rfl
theorem v100_79 {d : Nat} {st : List MV} {h : Hp} {x : Option A3} {a0 a1 a2 : Option MV} : Ev d 100 79 [a0, a1, a2, some (vO x)] st h = Ev d 100 80 [a0, a1, a2, some (vO x)] (vO x :: st) h := Rnx (hB_100) (dX6_thesis_79) rfl
set_option maxRecDepth 100000 in
theorem v100_80 {d : Nat} {ls : LS3} {st : List MV} {h : Hp} {a : A3} (hS : gS h a = (1, 5)) : Ev d 100 80 ls (vR a :: st) h = Ev d 100 83 ls (vI (gI h a 4) :: st) h := Rget hB_100 dX6_thesis_80 rfl (Or.inl hS)
theorem v100_83 {d : Nat} {ls : LS3} {h : Hp} {x : Int32} : Ev d 100 83 ls [vI x] h = some (.inl (some (vI x)), h) := Rdn hB_100 dX6_thesis_83 rfl
theorem v100_84 {d : Nat} {st : List MV} {h : Hp} {x : Option A3} {a0 a1 a2 : Option MV} : Ev d 100 84 [a0, a1, a2, some (vO x)] st h = Ev d 100 85 [a0, a1, a2, some (vO x)] (vO x :: st) h := Rnx (hB_100) (dX6_thesis_84) rfl
set_option maxRecDepth 100000 in
theorem v100_85 {d : Nat} {ls : LS3} {st : List MV} {h : Hp} {a : A3} (hS : gS h a = (1, 5)) : Ev d 100 85 ls (vR a :: st) h = Ev d 100 88 ls (vI (gI h a 5) :: st) h := Rget hB_100 dX6_thesis_85 rfl (Or.inl hS)
theorem v100_88 {d : Nat} {ls : LS3} {h : Hp} {x : Int32} : Ev d 100 88 ls [vI x] h = some (.inl (some (vI x)), h) := Rdn hB_100 dX6_thesis_88 rfl
theorem v100_89 {d : Nat} {st : List MV} {h : Hp} {x : Option A3} {a0 a1 a2 : Option MV} : Ev d 100 89 [a0, a1, a2, some (vO x)] st h = Ev d 100 90 [a0, a1, a2, some (vO x)] (vO x :: st) h := Rnx (hB_100) (dX6_thesis_89) rfl
set_option maxRecDepth 100000 in
theorem v100_90 {d : Nat} {ls : LS3} {st : List MV} {h : Hp} {a : A3} (hS : gS h a = (1, 5)) : Ev d 100 90 ls (vR a :: st) h = Ev d 100 93 ls (vI (gI h a 6) :: st) h := Rget hB_100 dX6_thesis_90 rfl (Or.inl hS)
theorem v100_93 {d : Nat} {ls : LS3} {h : Hp} {x : Int32} : Ev d 100 93 ls [vI x] h = some (.inl (some (vI x)), h) := Rdn hB_100 dX6_thesis_93 rfl
theorem v100_94 {d : Nat} {st : List MV} {h : Hp} {x : Option A3} {a0 a1 a2 : Option MV} : Ev d 100 94 [a0, a1, a2, some (vO x)] st h = Ev d 100 95 [a0, a1, a2, some (vO x)] (vO x :: st) h := Rnx (hB_100) (dX6_thesis_94) rfl
set_option maxRecDepth 100000 in
theorem v100_95 {d : Nat} {ls : LS3} {st : List MV} {h : Hp} {a : A3} (hS : gS h a = (1, 5)) : Ev d 100 95 ls (vR a :: st) h = Ev d 100 98 ls (vI (gI h a 7) :: st) h := Rget hB_100 dX6_thesis_95 rfl (Or.inl hS)
theorem v100_98 {d : Nat} {ls : LS3} {h : Hp} {x : Int32} : Ev d 100 98 ls [vI x] h = some (.inl (some (vI x)), h) := Rdn hB_100 dX6_thesis_98 rfl
theorem v100_99 {d : Nat} {st : List MV} {h : Hp} {x : Option A3} {a0 a1 a2 : Option MV} : Ev d 100 99 [a0, a1, a2, some (vO x)] st h = Ev d 100 100 [a0, a1, a2, some (vO x)] (vO x :: st) h := Rnx (hB_100) (dX6_thesis_99) rfl
set_option maxRecDepth 100000 in
theorem v100_100 {d : Nat} {ls : LS3} {st : List MV} {h : Hp} {a : A3} (hS : gS h a = (1, 5)) : Ev d 100 100 ls (vR a :: st) h = Ev d 100 103 ls (vI (gI h a 8) :: st) h := Rget hB_100 dX6_thesis_100 rfl (Or.inl hS)
theorem v100_103 {d : Nat} {ls : LS3} {h : Hp} {x : Int32} : Ev d 100 103 ls [vI x] h = some (.inl (some (vI x)), h) := Rdn hB_100 dX6_thesis_103 rfl
theorem v100_104 {d : Nat} {st : List MV} {h : Hp} {x : Option A3} {a0 a1 a2 : Option MV} : Ev d 100 104 [a0, a1, a2, some (vO x)] st h = Ev d 100 105 [a0, a1, a2, some (vO x)] (vO x :: st) h := Rnx (hB_100) (dX6_thesis_104) rfl
set_option maxRecDepth 100000 in
theorem v100_105 {d : Nat} {ls : LS3} {st : List MV} {h : Hp} {a : A3} (hS : gS h a = (1, 5)) : Ev d 100 105 ls (vR a :: st) h = Ev d 100 108 ls (vI (gI h a 9) :: st) h := Rget hB_100 dX6_thesis_105 rfl (Or.inl hS)
theorem v100_108 {d : Nat} {ls : LS3} {h : Hp} {x : Int32} : Ev d 100 108 ls [vI x] h = some (.inl (some (vI x)), h) := Rdn hB_100 dX6_thesis_108 rfl
theorem v100_109 {d : Nat} {st : List MV} {h : Hp} {x : Option A3} {a1 a2 a3 : Option MV} : Ev d 100 109 [some (vO x), a1, a2, a3] st h = Ev d 100 110 [some (vO x), a1, a2, a3] (vO x :: st) h := Rnx (hB_100) (dX6_thesis_109) rfl
set_option maxRecDepth 100000 in
theorem v100_110 {d : Nat} {ls : LS3} {st : List MV} {h : Hp} {a : A3} (hS : gS h a = (1, 6)) : Ev d 100 110 ls (vR a :: st) h = Ev d 100 113 ls (vO (gR h a 0) :: st) h := Rget hB_100 dX6_thesis_110 rfl (Or.inl hS)
theorem v100_113 {d : Nat} {st : List MV} {h : Hp} {x : Option A3} {a0 a1 a2 : Option MV} : Ev d 100 113 [a0, a1, a2, some (vO x)] st h = Ev d 100 114 [a0, a1, a2, some (vO x)] (vO x :: st) h := Rnx (hB_100) (dX6_thesis_113) rfl
set_option maxRecDepth 100000 in
theorem v100_114 {d : Nat} {ls : LS3} {st : List MV} {h : Hp} {a : A3} {o0 : Option A3} (hS : gS h a = (1, 4)) (hc : catS st ≤ 8) : Ev (d + 1) 100 114 ls (vO o0 :: vR a :: st) h = Evk 56 (d + 1) 100 114 ls st (Ev d 56 0 [some (vR a), some (vO o0), none] [] h) := RcallO (idx := 188) (n := 1) (kd := 0) (As' := [vO o0]) hB_100 dX6_thesis_114 rfl rfl (by decide) rfl rfl (Or.inl hS) rfl hc
theorem v100_117 {d : Nat} {ls : LS3} {st : List MV} {h : Hp} : Ev d 100 117 ls st h = Ev d 100 118 ls (vI (-1) :: st) h := Rnx (hB_100) (dX6_thesis_117) rfl
theorem v100_118 {d : Nat} {ls : LS3} {st : List MV} {h : Hp} {x y : Int32} : Ev d 100 118 ls (vI y :: vI x :: st) h = if x = y then Ev d 100 121 ls st h else Ev d 100 125 ls st h := Rifn hB_100 dX6_thesis_118 rfl
theorem v100_121 {d : Nat} {ls : LS3} {st : List MV} {h : Hp} : Ev d 100 121 ls st h = Ev d 100 122 ls (vI 0 :: st) h := Rnx (hB_100) (dX6_thesis_121) rfl
theorem v100_122 {d : Nat} {ls : LS3} {st : List MV} {h : Hp} : Ev d 100 122 ls st h = Ev d 100 126 ls st h := Rnx (hB_100) (dX6_thesis_122) rfl
theorem v100_125 {d : Nat} {ls : LS3} {st : List MV} {h : Hp} : Ev d 100 125 ls st h = Ev d 100 126 ls (vI 1 :: st) h := Rnx (hB_100) (dX6_thesis_125) rfl
theorem v100_126 {d : Nat} {ls : LS3} {h : Hp} {x : Int32} : Ev d 100 126 ls [vI x] h = some (.inl (some (vI x)), h) := Rdn hB_100 dX6_thesis_126 rfl
theorem v100_127 {d : Nat} {st : List MV} {h : Hp} {x : Option A3} {a0 a1 a2 : Option MV} : Ev d 100 127 [a0, a1, a2, some (vO x)] st h = Ev d 100 128 [a0, a1, a2, some (vO x)] (vO x :: st) h := Rnx (hB_100) (dX6_thesis_127) rfl
set_option maxRecDepth 100000 in
theorem v100_128 {d : Nat} {ls : LS3} {st : List MV} {h : Hp} {a : A3}  (hS : gS h a = (1, 5)) (hc : catS st ≤ 8) : Ev (d + 1) 100 128 ls (vR a :: st) h = Evk 85 (d + 1) 100 128 ls st (Ev d 85 0 [some (vR a)] [] h) := RcallO (idx := 192) (n := 0) (kd := 0) (As' := []) hB_100 dX6_thesis_128 rfl rfl (by decide) rfl rfl (Or.inl hS) rfl hc
theorem v100_131 {d : Nat} {ls : LS3} {h : Hp} {x : Int32} : Ev d 100 131 ls [vI x] h = some (.inl (some (vI x)), h) := Rdn hB_100 dX6_thesis_131 rfl
set_option maxRecDepth 100000 in
theorem v100_132 {d : Nat} {ls : LS3} {st : List MV} {h : Hp} (hc : catS st ≤ 8) : Ev d 100 132 ls st h = some (.inr 0, gb h) := Rthr hB_100 dX6_thesis_132 rfl rfl rfl hc
theorem v100_135 {d : Nat} {ls : LS3} {st : List MV} {h : Hp} {v : MV} (hv : cat1 v = true) : Ev d 100 135 ls (v :: st) h = Ev d 100 136 ls (v :: v :: st) h := Rdup hB_100 dX6_thesis_135 hv
theorem hB_101 : mB 101 = cX6_join := rfl
theorem v101_0 {d : Nat} {st : List MV} {h : Hp} {x : Option A3} {a1 a2 a3 a4 : Option MV} : Ev d 101 0 [some (vO x), a1, a2, a3, a4] st h = Ev d 101 1 [some (vO x), a1, a2, a3, a4] (vO x :: st) h := Rnx (hB_101) (dX6_join_0) rfl
theorem v101_1 {d : Nat} {st : List MV} {h : Hp} {x : Int32} {a0 a2 a3 a4 : Option MV} : Ev d 101 1 [a0, some (vI x), a2, a3, a4] st h = Ev d 101 2 [a0, some (vI x), a2, a3, a4] (vI x :: st) h := Rnx (hB_101) (dX6_join_1) rfl
set_option maxRecDepth 100000 in
theorem v101_2 {d : Nat} {ls : LS3} {st : List MV} {h : Hp} {a : A3} {x0 : Int32} (hS : gS h a = (1, 6)) (hc : catS st ≤ 8) : Ev (d + 1) 101 2 ls (vI x0 :: vR a :: st) h = Evk 131 (d + 1) 101 2 ls st (Ev d 131 0 [some (vR a), some (vI x0)] [] h) := RcallO (idx := 157) (n := 1) (kd := 0) (As' := [vI x0]) hB_101 dX6_join_2 rfl rfl (by decide) rfl rfl (Or.inl hS) rfl hc
theorem v101_5 {d : Nat} {st : List MV} {h : Hp} {x : Option A3} {a0 a1 a2 a3 a4 : Option MV} : Ev d 101 5 [a0, a1, a2, a3, a4] (vO x :: st) h = Ev d 101 6 [a0, a1, a2, some (vO x), a4] st h := Rnx (hB_101) (dX6_join_5) rfl
theorem v101_6 {d : Nat} {st : List MV} {h : Hp} {x : Option A3} {a1 a2 a3 a4 : Option MV} : Ev d 101 6 [some (vO x), a1, a2, a3, a4] st h = Ev d 101 7 [some (vO x), a1, a2, a3, a4] (vO x :: st) h := Rnx (hB_101) (dX6_join_6) rfl
theorem v101_7 {d : Nat} {st : List MV} {h : Hp} {x : Int32} {a0 a1 a3 a4 : Option MV} : Ev d 101 7 [a0, a1, some (vI x), a3, a4] st h = Ev d 101 8 [a0, a1, some (vI x), a3, a4] (vI x :: st) h := Rnx (hB_101) (dX6_join_7) rfl
set_option maxRecDepth 100000 in
theorem v101_8 {d : Nat} {ls : LS3} {st : List MV} {h : Hp} {a : A3} {x0 : Int32} (hS : gS h a = (1, 6)) (hc : catS st ≤ 8) : Ev (d + 1) 101 8 ls (vI x0 :: vR a :: st) h = Evk 130 (d + 1) 101 8 ls st (Ev d 130 0 [some (vR a), some (vI x0)] [] h) := RcallO (idx := 80) (n := 1) (kd := 0) (As' := [vI x0]) hB_101 dX6_join_8 rfl rfl (by decide) rfl rfl (Or.inl hS) rfl hc
theorem v101_11 {d : Nat} {st : List MV} {h : Hp} {x : Option A3} {a0 a1 a2 a3 a4 : Option MV} : Ev d 101 11 [a0, a1, a2, a3, a4] (vO x :: st) h = Ev d 101 13 [a0, a1, a2, a3, some (vO x)] st h := Rnx (hB_101) (dX6_join_11) rfl
theorem v101_13 {d : Nat} {st : List MV} {h : Hp} {x : Option A3} {a1 a2 a3 a4 : Option MV} : Ev d 101 13 [some (vO x), a1, a2, a3, a4] st h = Ev d 101 14 [some (vO x), a1, a2, a3, a4] (vO x :: st) h := Rnx (hB_101) (dX6_join_13) rfl
theorem v101_14 {d : Nat} {st : List MV} {h : Hp} {x : Option A3} {a1 a2 a3 a4 : Option MV} : Ev d 101 14 [some (vO x), a1, a2, a3, a4] st h = Ev d 101 15 [some (vO x), a1, a2, a3, a4] (vO x :: st) h := Rnx (hB_101) (dX6_join_14) rfl
set_option maxRecDepth 100000 in
theorem v101_15 {d : Nat} {ls : LS3} {st : List MV} {h : Hp} {a : A3} (hS : gS h a = (1, 6)) : Ev d 101 15 ls (vR a :: st) h = Ev d 101 18 ls (vO (gR h a 0) :: st) h := Rget hB_101 dX6_join_15 rfl (Or.inl hS)
theorem v101_18 {d : Nat} {st : List MV} {h : Hp} {x : Option A3} {a0 a1 a2 a4 : Option MV} : Ev d 101 18 [a0, a1, a2, some (vO x), a4] st h = Ev d 101 19 [a0, a1, a2, some (vO x), a4] (vO x :: st) h := Rnx (hB_101) (dX6_join_18) rfl
theorem v101_19 {d : Nat} {st : List MV} {h : Hp} {x : Option A3} {a0 a1 a2 a4 : Option MV} : Ev d 101 19 [a0, a1, a2, some (vO x), a4] st h = Ev d 101 20 [a0, a1, a2, some (vO x), a4] (vO x :: st) h := Rnx (hB_101) (dX6_join_19) rfl
set_option maxRecDepth 100000 in
theorem v101_20 {d : Nat} {ls : LS3} {st : List MV} {h : Hp} {a : A3} (hS : gS h a = (1, 5)) : Ev d 101 20 ls (vR a :: st) h = Ev d 101 23 ls (vI (gI h a 6) :: st) h := Rget hB_101 dX6_join_20 rfl (Or.inl hS)
theorem v101_23 {d : Nat} {st : List MV} {h : Hp} {x : Option A3} {a0 a1 a2 a3 : Option MV} : Ev d 101 23 [a0, a1, a2, a3, some (vO x)] st h = Ev d 101 25 [a0, a1, a2, a3, some (vO x)] (vO x :: st) h := Rnx (hB_101) (dX6_join_23) rfl
set_option maxRecDepth 100000 in
theorem v101_25 {d : Nat} {ls : LS3} {st : List MV} {h : Hp} {a : A3} {o0 : Option A3} {x1 : Int32} {o2 : Option A3} (hS : gS h a = (1, 4)) (hc : catS st ≤ 8) : Ev (d + 1) 101 25 ls (vO o2 :: vI x1 :: vO o0 :: vR a :: st) h = Evk 42 (d + 1) 101 25 ls st (Ev d 42 0 [some (vR a), some (vO o0), some (vI x1), some (vO o2)] [] h) := RcallO (idx := 198) (n := 3) (kd := 0) (As' := [vO o0, vI x1, vO o2]) hB_101 dX6_join_25 rfl rfl (by decide) rfl rfl (Or.inl hS) rfl hc
set_option maxRecDepth 100000 in
theorem v101_28 {d : Nat} {ls : LS3} {st : List MV} {h : Hp} {a : A3} {x0 : Int32} (hS : gS h a = (1, 6)) (hc : catS st ≤ 8) : Ev (d + 1) 101 28 ls (vI x0 :: vR a :: st) h = Evk 135 (d + 1) 101 28 ls st (Ev d 135 0 [some (vR a), some (vI x0)] [] h) := RcallO (idx := 202) (n := 1) (kd := 0) (As' := [vI x0]) hB_101 dX6_join_28 rfl rfl (by decide) rfl rfl (Or.inl hS) rfl hc
theorem v101_31 {d : Nat} {st : List MV} {h : Hp} {x : Option A3} {a1 a2 a3 a4 : Option MV} : Ev d 101 31 [some (vO x), a1, a2, a3, a4] st h = Ev d 101 32 [some (vO x), a1, a2, a3, a4] (vO x :: st) h := Rnx (hB_101) (dX6_join_31) rfl
set_option maxRecDepth 100000 in
theorem v101_32 {d : Nat} {ls : LS3} {st : List MV} {h : Hp} {a : A3} (hS : gS h a = (1, 6)) : Ev d 101 32 ls (vR a :: st) h = Ev d 101 35 ls (vO (gR h a 2) :: st) h := Rget hB_101 dX6_join_32 rfl (Or.inl hS)
theorem v101_35 {d : Nat} {st : List MV} {h : Hp} {x : Option A3} {a1 a2 a3 a4 : Option MV} : Ev d 101 35 [some (vO x), a1, a2, a3, a4] st h = Ev d 101 36 [some (vO x), a1, a2, a3, a4] (vO x :: st) h := Rnx (hB_101) (dX6_join_35) rfl
set_option maxRecDepth 100000 in
theorem v101_36 {d : Nat} {ls : LS3} {st : List MV} {h : Hp} {a : A3} (hS : gS h a = (1, 6)) : Ev d 101 36 ls (vR a :: st) h = Ev d 101 39 ls (vO (gR h a 0) :: st) h := Rget hB_101 dX6_join_36 rfl (Or.inl hS)
set_option maxRecDepth 100000 in
theorem v101_39 {d : Nat} {ls : LS3} {st : List MV} {h : Hp} {a : A3} {o0 : Option A3} (hS : gS h a = (1, 1)) (hc : catS st ≤ 8) : Ev (d + 1) 101 39 ls (vO o0 :: vR a :: st) h = Evk 6 (d + 1) 101 39 ls st (Ev d 6 0 [some (vR a), some (vO o0)] [] h) := RcallO (idx := 72) (n := 1) (kd := 0) (As' := [vO o0]) hB_101 dX6_join_39 rfl rfl (by decide) rfl rfl (Or.inl hS) rfl hc
theorem v101_42 {d : Nat} {st : List MV} {h : Hp} {x : Option A3} {a0 a1 a2 a4 : Option MV} : Ev d 101 42 [a0, a1, a2, some (vO x), a4] st h = Ev d 101 43 [a0, a1, a2, some (vO x), a4] (vO x :: st) h := Rnx (hB_101) (dX6_join_42) rfl
theorem v101_43 {d : Nat} {ls : LS3} {st : List MV} {h : Hp} {v : MV} (hv : cat1 v = true) : Ev d 101 43 ls (v :: st) h = Ev d 101 44 ls (v :: v :: st) h := Rdup hB_101 dX6_join_43 hv
set_option maxRecDepth 100000 in
theorem v101_44 {d : Nat} {ls : LS3} {st : List MV} {h : Hp} {a : A3} (hS : gS h a = (1, 5)) : Ev d 101 44 ls (vR a :: st) h = Ev d 101 47 ls (vI (gI h a 6) :: st) h := Rget hB_101 dX6_join_44 rfl (Or.inl hS)
theorem v101_47 {d : Nat} {st : List MV} {h : Hp} {x : Option A3} {a0 a1 a2 a3 : Option MV} : Ev d 101 47 [a0, a1, a2, a3, some (vO x)] st h = Ev d 101 49 [a0, a1, a2, a3, some (vO x)] (vO x :: st) h := Rnx (hB_101) (dX6_join_47) rfl
set_option maxRecDepth 100000 in
theorem v101_49 {d : Nat} {ls : LS3} {st : List MV} {h : Hp} {a : A3}  (hS : gS h a = (1, 3)) (hc : catS st ≤ 8) : Ev (d + 1) 101 49 ls (vR a :: st) h = Evk 24 (d + 1) 101 49 ls st (Ev d 24 0 [some (vR a)] [] h) := RcallO (idx := 206) (n := 0) (kd := 0) (As' := []) hB_101 dX6_join_49 rfl rfl (by decide) rfl rfl (Or.inl hS) rfl hc
theorem v101_52 {d : Nat} {ls : LS3} {st : List MV} {h : Hp} {x y : Int32} : Ev d 101 52 ls (vI y :: vI x :: st) h = Ev d 101 53 ls (vI (x ||| y) :: st) h := Rnx (hB_101) (dX6_join_52) rfl
set_option maxRecDepth 100000 in
theorem v101_53 {d : Nat} {ls : LS3} {st : List MV} {h : Hp} {a : A3} {x : Int32} (hS : gS h a = (1, 5)) : Ev d 101 53 ls (vI x :: vR a :: st) h = Ev d 101 56 ls st (sI h a 6 x) := RputI hB_101 dX6_join_53 rfl rfl (by decide) hS (Or.inl rfl)
theorem v101_56 {d : Nat} {st : List MV} {h : Hp} {x : Option A3} {a0 a1 a2 a4 : Option MV} : Ev d 101 56 [a0, a1, a2, some (vO x), a4] st h = Ev d 101 57 [a0, a1, a2, some (vO x), a4] (vO x :: st) h := Rnx (hB_101) (dX6_join_56) rfl
set_option maxRecDepth 100000 in
theorem v101_57 {d : Nat} {ls : LS3} {st : List MV} {h : Hp} {a : A3}  (hS : gS h a = (1, 5)) (hc : catS st ≤ 8) : Ev (d + 1) 101 57 ls (vR a :: st) h = Evk 83 (d + 1) 101 57 ls st (Ev d 83 0 [some (vR a)] [] h) := RcallO (idx := 209) (n := 0) (kd := 0) (As' := []) hB_101 dX6_join_57 rfl rfl (by decide) rfl rfl (Or.inl hS) rfl hc
theorem v101_60 {d : Nat} {ls : LS3} {h : Hp} {x : Int32} : Ev d 101 60 ls [vI x] h = some (.inl (some (vI x)), h) := Rdn hB_101 dX6_join_60 rfl
theorem hB_102 : mB 102 = cX6_leave := rfl
theorem v102_0 {d : Nat} {st : List MV} {h : Hp} {x : Option A3} {a1 a2 a3 a4 : Option MV} : Ev d 102 0 [some (vO x), a1, a2, a3, a4] st h = Ev d 102 1 [some (vO x), a1, a2, a3, a4] (vO x :: st) h := Rnx (hB_102) (dX6_leave_0) rfl
theorem v102_1 {d : Nat} {st : List MV} {h : Hp} {x : Int32} {a0 a2 a3 a4 : Option MV} : Ev d 102 1 [a0, some (vI x), a2, a3, a4] st h = Ev d 102 2 [a0, some (vI x), a2, a3, a4] (vI x :: st) h := Rnx (hB_102) (dX6_leave_1) rfl
set_option maxRecDepth 100000 in
theorem v102_2 {d : Nat} {ls : LS3} {st : List MV} {h : Hp} {a : A3} {x0 : Int32} (hS : gS h a = (1, 6)) (hc : catS st ≤ 8) : Ev (d + 1) 102 2 ls (vI x0 :: vR a :: st) h = Evk 131 (d + 1) 102 2 ls st (Ev d 131 0 [some (vR a), some (vI x0)] [] h) := RcallO (idx := 157) (n := 1) (kd := 0) (As' := [vI x0]) hB_102 dX6_leave_2 rfl rfl (by decide) rfl rfl (Or.inl hS) rfl hc
theorem v102_5 {d : Nat} {st : List MV} {h : Hp} {x : Option A3} {a0 a1 a2 a3 a4 : Option MV} : Ev d 102 5 [a0, a1, a2, a3, a4] (vO x :: st) h = Ev d 102 6 [a0, a1, a2, some (vO x), a4] st h := Rnx (hB_102) (dX6_leave_5) rfl
theorem v102_6 {d : Nat} {st : List MV} {h : Hp} {x : Option A3} {a1 a2 a3 a4 : Option MV} : Ev d 102 6 [some (vO x), a1, a2, a3, a4] st h = Ev d 102 7 [some (vO x), a1, a2, a3, a4] (vO x :: st) h := Rnx (hB_102) (dX6_leave_6) rfl
theorem v102_7 {d : Nat} {st : List MV} {h : Hp} {x : Int32} {a0 a1 a3 a4 : Option MV} : Ev d 102 7 [a0, a1, some (vI x), a3, a4] st h = Ev d 102 8 [a0, a1, some (vI x), a3, a4] (vI x :: st) h := Rnx (hB_102) (dX6_leave_7) rfl
set_option maxRecDepth 100000 in
theorem v102_8 {d : Nat} {ls : LS3} {st : List MV} {h : Hp} {a : A3} {x0 : Int32} (hS : gS h a = (1, 6)) (hc : catS st ≤ 8) : Ev (d + 1) 102 8 ls (vI x0 :: vR a :: st) h = Evk 130 (d + 1) 102 8 ls st (Ev d 130 0 [some (vR a), some (vI x0)] [] h) := RcallO (idx := 80) (n := 1) (kd := 0) (As' := [vI x0]) hB_102 dX6_leave_8 rfl rfl (by decide) rfl rfl (Or.inl hS) rfl hc
theorem v102_11 {d : Nat} {st : List MV} {h : Hp} {x : Option A3} {a0 a1 a2 a3 a4 : Option MV} : Ev d 102 11 [a0, a1, a2, a3, a4] (vO x :: st) h = Ev d 102 13 [a0, a1, a2, a3, some (vO x)] st h := Rnx (hB_102) (dX6_leave_11) rfl
theorem v102_13 {d : Nat} {st : List MV} {h : Hp} {x : Option A3} {a1 a2 a3 a4 : Option MV} : Ev d 102 13 [some (vO x), a1, a2, a3, a4] st h = Ev d 102 14 [some (vO x), a1, a2, a3, a4] (vO x :: st) h := Rnx (hB_102) (dX6_leave_13) rfl
set_option maxRecDepth 100000 in
theorem v102_14 {d : Nat} {ls : LS3} {st : List MV} {h : Hp} {a : A3} (hS : gS h a = (1, 6)) : Ev d 102 14 ls (vR a :: st) h = Ev d 102 17 ls (vO (gR h a 0) :: st) h := Rget hB_102 dX6_leave_14 rfl (Or.inl hS)
theorem v102_17 {d : Nat} {st : List MV} {h : Hp} {x : Option A3} {a0 a1 a2 a4 : Option MV} : Ev d 102 17 [a0, a1, a2, some (vO x), a4] st h = Ev d 102 18 [a0, a1, a2, some (vO x), a4] (vO x :: st) h := Rnx (hB_102) (dX6_leave_17) rfl
theorem v102_18 {d : Nat} {st : List MV} {h : Hp} {x : Option A3} {a0 a1 a2 a3 : Option MV} : Ev d 102 18 [a0, a1, a2, a3, some (vO x)] st h = Ev d 102 20 [a0, a1, a2, a3, some (vO x)] (vO x :: st) h := Rnx (hB_102) (dX6_leave_18) rfl
set_option maxRecDepth 100000 in
theorem v102_20 {d : Nat} {ls : LS3} {st : List MV} {h : Hp} {a : A3} {o0 : Option A3} {o1 : Option A3} (hS : gS h a = (1, 4)) (hc : catS st ≤ 8) : Ev (d + 1) 102 20 ls (vO o1 :: vO o0 :: vR a :: st) h = Evk 44 (d + 1) 102 20 ls st (Ev d 44 0 [some (vR a), some (vO o0), some (vO o1)] [] h) := RcallO (idx := 212) (n := 2) (kd := 0) (As' := [vO o0, vO o1]) hB_102 dX6_leave_20 rfl rfl (by decide) rfl rfl (Or.inl hS) rfl hc
theorem v102_23 {d : Nat} {ls : LS3} {st : List MV} {h : Hp} {x : Int32} : Ev d 102 23 ls (vI x :: st) h = if x = 0 then Ev d 102 26 ls st h else Ev d 102 36 ls st h := Rifn hB_102 dX6_leave_23 rfl
set_option maxRecDepth 100000 in
theorem v102_26 {d : Nat} {ls : LS3} {st : List MV} {h : Hp} (hc : catS st ≤ 8) : Ev d 102 26 ls st h = some (.inr 1, gb h) := Rthr hB_102 dX6_leave_26 rfl rfl rfl hc
theorem v102_29 {d : Nat} {ls : LS3} {st : List MV} {h : Hp} {v : MV} (hv : cat1 v = true) : Ev d 102 29 ls (v :: st) h = Ev d 102 30 ls (v :: v :: st) h := Rdup hB_102 dX6_leave_29 hv
theorem v102_36 {d : Nat} {st : List MV} {h : Hp} {x : Option A3} {a1 a2 a3 a4 : Option MV} : Ev d 102 36 [some (vO x), a1, a2, a3, a4] st h = Ev d 102 37 [some (vO x), a1, a2, a3, a4] (vO x :: st) h := Rnx (hB_102) (dX6_leave_36) rfl
set_option maxRecDepth 100000 in
theorem v102_37 {d : Nat} {ls : LS3} {st : List MV} {h : Hp} {a : A3} (hS : gS h a = (1, 6)) : Ev d 102 37 ls (vR a :: st) h = Ev d 102 40 ls (vO (gR h a 2) :: st) h := Rget hB_102 dX6_leave_37 rfl (Or.inl hS)
theorem v102_40 {d : Nat} {st : List MV} {h : Hp} {x : Option A3} {a1 a2 a3 a4 : Option MV} : Ev d 102 40 [some (vO x), a1, a2, a3, a4] st h = Ev d 102 41 [some (vO x), a1, a2, a3, a4] (vO x :: st) h := Rnx (hB_102) (dX6_leave_40) rfl
set_option maxRecDepth 100000 in
theorem v102_41 {d : Nat} {ls : LS3} {st : List MV} {h : Hp} {a : A3} (hS : gS h a = (1, 6)) : Ev d 102 41 ls (vR a :: st) h = Ev d 102 44 ls (vO (gR h a 0) :: st) h := Rget hB_102 dX6_leave_41 rfl (Or.inl hS)
set_option maxRecDepth 100000 in
theorem v102_44 {d : Nat} {ls : LS3} {st : List MV} {h : Hp} {a : A3} {o0 : Option A3} (hS : gS h a = (1, 1)) (hc : catS st ≤ 8) : Ev (d + 1) 102 44 ls (vO o0 :: vR a :: st) h = Evk 6 (d + 1) 102 44 ls st (Ev d 6 0 [some (vR a), some (vO o0)] [] h) := RcallO (idx := 72) (n := 1) (kd := 0) (As' := [vO o0]) hB_102 dX6_leave_44 rfl rfl (by decide) rfl rfl (Or.inl hS) rfl hc
theorem v102_47 {d : Nat} {st : List MV} {h : Hp} {x : Option A3} {a0 a1 a2 a4 : Option MV} : Ev d 102 47 [a0, a1, a2, some (vO x), a4] st h = Ev d 102 48 [a0, a1, a2, some (vO x), a4] (vO x :: st) h := Rnx (hB_102) (dX6_leave_47) rfl
theorem v102_48 {d : Nat} {ls : LS3} {st : List MV} {h : Hp} {v : MV} (hv : cat1 v = true) : Ev d 102 48 ls (v :: st) h = Ev d 102 49 ls (v :: v :: st) h := Rdup hB_102 dX6_leave_48 hv
set_option maxRecDepth 100000 in
theorem v102_49 {d : Nat} {ls : LS3} {st : List MV} {h : Hp} {a : A3} (hS : gS h a = (1, 5)) : Ev d 102 49 ls (vR a :: st) h = Ev d 102 52 ls (vI (gI h a 6) :: st) h := Rget hB_102 dX6_leave_49 rfl (Or.inl hS)
theorem v102_52 {d : Nat} {st : List MV} {h : Hp} {x : Option A3} {a0 a1 a2 a3 : Option MV} : Ev d 102 52 [a0, a1, a2, a3, some (vO x)] st h = Ev d 102 54 [a0, a1, a2, a3, some (vO x)] (vO x :: st) h := Rnx (hB_102) (dX6_leave_52) rfl
set_option maxRecDepth 100000 in
theorem v102_54 {d : Nat} {ls : LS3} {st : List MV} {h : Hp} {a : A3}  (hS : gS h a = (1, 3)) (hc : catS st ≤ 8) : Ev (d + 1) 102 54 ls (vR a :: st) h = Evk 24 (d + 1) 102 54 ls st (Ev d 24 0 [some (vR a)] [] h) := RcallO (idx := 206) (n := 0) (kd := 0) (As' := []) hB_102 dX6_leave_54 rfl rfl (by decide) rfl rfl (Or.inl hS) rfl hc
theorem v102_57 {d : Nat} {ls : LS3} {st : List MV} {h : Hp} : Ev d 102 57 ls st h = Ev d 102 58 ls (vI (-1) :: st) h := Rnx (hB_102) (dX6_leave_57) rfl
theorem v102_58 {d : Nat} {ls : LS3} {st : List MV} {h : Hp} {x y : Int32} : Ev d 102 58 ls (vI y :: vI x :: st) h = Ev d 102 59 ls (vI (x ^^^ y) :: st) h := Rnx (hB_102) (dX6_leave_58) rfl
theorem v102_59 {d : Nat} {ls : LS3} {st : List MV} {h : Hp} {x y : Int32} : Ev d 102 59 ls (vI y :: vI x :: st) h = Ev d 102 60 ls (vI (x &&& y) :: st) h := Rnx (hB_102) (dX6_leave_59) rfl
set_option maxRecDepth 100000 in
theorem v102_60 {d : Nat} {ls : LS3} {st : List MV} {h : Hp} {a : A3} {x : Int32} (hS : gS h a = (1, 5)) : Ev d 102 60 ls (vI x :: vR a :: st) h = Ev d 102 63 ls st (sI h a 6 x) := RputI hB_102 dX6_leave_60 rfl rfl (by decide) hS (Or.inl rfl)
theorem v102_63 {d : Nat} {st : List MV} {h : Hp} {x : Option A3} {a1 a2 a3 a4 : Option MV} : Ev d 102 63 [some (vO x), a1, a2, a3, a4] st h = Ev d 102 64 [some (vO x), a1, a2, a3, a4] (vO x :: st) h := Rnx (hB_102) (dX6_leave_63) rfl
set_option maxRecDepth 100000 in
theorem v102_64 {d : Nat} {ls : LS3} {st : List MV} {h : Hp} {a : A3} (hS : gS h a = (1, 6)) : Ev d 102 64 ls (vR a :: st) h = Ev d 102 67 ls (vO (gR h a 0) :: st) h := Rget hB_102 dX6_leave_64 rfl (Or.inl hS)
theorem v102_67 {d : Nat} {st : List MV} {h : Hp} {x : Option A3} {a0 a1 a2 a4 : Option MV} : Ev d 102 67 [a0, a1, a2, some (vO x), a4] st h = Ev d 102 68 [a0, a1, a2, some (vO x), a4] (vO x :: st) h := Rnx (hB_102) (dX6_leave_67) rfl
set_option maxRecDepth 100000 in
theorem v102_68 {d : Nat} {ls : LS3} {st : List MV} {h : Hp} {a : A3} {o0 : Option A3} (hS : gS h a = (1, 4)) (hc : catS st ≤ 8) : Ev (d + 1) 102 68 ls (vO o0 :: vR a :: st) h = Evk 45 (d + 1) 102 68 ls st (Ev d 45 0 [some (vR a), some (vO o0), none] [] h) := RcallO (idx := 218) (n := 1) (kd := 0) (As' := [vO o0]) hB_102 dX6_leave_68 rfl rfl (by decide) rfl rfl (Or.inl hS) rfl hc
theorem v102_71 {d : Nat} {ls : LS3} {st : List MV} {h : Hp} {v : MV} (hv : cat1 v = true) : Ev d 102 71 ls (v :: st) h = Ev d 102 72 ls st h := Rpop hB_102 dX6_leave_71 hv
theorem v102_72 {d : Nat} {st : List MV} {h : Hp} {x : Option A3} {a0 a1 a2 a4 : Option MV} : Ev d 102 72 [a0, a1, a2, some (vO x), a4] st h = Ev d 102 73 [a0, a1, a2, some (vO x), a4] (vO x :: st) h := Rnx (hB_102) (dX6_leave_72) rfl
set_option maxRecDepth 100000 in
theorem v102_73 {d : Nat} {ls : LS3} {st : List MV} {h : Hp} {a : A3}  (hS : gS h a = (1, 5)) (hc : catS st ≤ 8) : Ev (d + 1) 102 73 ls (vR a :: st) h = Evk 83 (d + 1) 102 73 ls st (Ev d 83 0 [some (vR a)] [] h) := RcallO (idx := 209) (n := 0) (kd := 0) (As' := []) hB_102 dX6_leave_73 rfl rfl (by decide) rfl rfl (Or.inl hS) rfl hc
theorem v102_76 {d : Nat} {ls : LS3} {h : Hp} {x : Int32} : Ev d 102 76 ls [vI x] h = some (.inl (some (vI x)), h) := Rdn hB_102 dX6_leave_76 rfl
theorem hB_103 : mB 103 = cX6_replace := rfl
theorem v103_0 {d : Nat} {st : List MV} {h : Hp} {x : Option A3} {a1 a2 a3 a4 a5 a6 a7 : Option MV} : Ev d 103 0 [some (vO x), a1, a2, a3, a4, a5, a6, a7] st h = Ev d 103 1 [some (vO x), a1, a2, a3, a4, a5, a6, a7] (vO x :: st) h := Rnx (hB_103) (dX6_replace_0) rfl
theorem v103_1 {d : Nat} {st : List MV} {h : Hp} {x : Int32} {a0 a2 a3 a4 a5 a6 a7 : Option MV} : Ev d 103 1 [a0, some (vI x), a2, a3, a4, a5, a6, a7] st h = Ev d 103 2 [a0, some (vI x), a2, a3, a4, a5, a6, a7] (vI x :: st) h := Rnx (hB_103) (dX6_replace_1) rfl
set_option maxRecDepth 100000 in
theorem v103_2 {d : Nat} {ls : LS3} {st : List MV} {h : Hp} {a : A3} {x0 : Int32} (hS : gS h a = (1, 6)) (hc : catS st ≤ 8) : Ev (d + 1) 103 2 ls (vI x0 :: vR a :: st) h = Evk 131 (d + 1) 103 2 ls st (Ev d 131 0 [some (vR a), some (vI x0)] [] h) := RcallO (idx := 157) (n := 1) (kd := 0) (As' := [vI x0]) hB_103 dX6_replace_2 rfl rfl (by decide) rfl rfl (Or.inl hS) rfl hc
theorem v103_5 {d : Nat} {st : List MV} {h : Hp} {x : Option A3} {a0 a1 a2 a3 a4 a5 a6 a7 : Option MV} : Ev d 103 5 [a0, a1, a2, a3, a4, a5, a6, a7] (vO x :: st) h = Ev d 103 7 [a0, a1, a2, a3, some (vO x), a5, a6, a7] st h := Rnx (hB_103) (dX6_replace_5) rfl
theorem v103_7 {d : Nat} {st : List MV} {h : Hp} {x : Option A3} {a1 a2 a3 a4 a5 a6 a7 : Option MV} : Ev d 103 7 [some (vO x), a1, a2, a3, a4, a5, a6, a7] st h = Ev d 103 8 [some (vO x), a1, a2, a3, a4, a5, a6, a7] (vO x :: st) h := Rnx (hB_103) (dX6_replace_7) rfl
theorem v103_8 {d : Nat} {st : List MV} {h : Hp} {x : Int32} {a0 a1 a3 a4 a5 a6 a7 : Option MV} : Ev d 103 8 [a0, a1, some (vI x), a3, a4, a5, a6, a7] st h = Ev d 103 9 [a0, a1, some (vI x), a3, a4, a5, a6, a7] (vI x :: st) h := Rnx (hB_103) (dX6_replace_8) rfl
set_option maxRecDepth 100000 in
theorem v103_9 {d : Nat} {ls : LS3} {st : List MV} {h : Hp} {a : A3} {x0 : Int32} (hS : gS h a = (1, 6)) (hc : catS st ≤ 8) : Ev (d + 1) 103 9 ls (vI x0 :: vR a :: st) h = Evk 130 (d + 1) 103 9 ls st (Ev d 130 0 [some (vR a), some (vI x0)] [] h) := RcallO (idx := 80) (n := 1) (kd := 0) (As' := [vI x0]) hB_103 dX6_replace_9 rfl rfl (by decide) rfl rfl (Or.inl hS) rfl hc
theorem v103_12 {d : Nat} {st : List MV} {h : Hp} {x : Option A3} {a0 a1 a2 a3 a4 a5 a6 a7 : Option MV} : Ev d 103 12 [a0, a1, a2, a3, a4, a5, a6, a7] (vO x :: st) h = Ev d 103 14 [a0, a1, a2, a3, a4, some (vO x), a6, a7] st h := Rnx (hB_103) (dX6_replace_12) rfl
theorem v103_14 {d : Nat} {st : List MV} {h : Hp} {x : Option A3} {a1 a2 a3 a4 a5 a6 a7 : Option MV} : Ev d 103 14 [some (vO x), a1, a2, a3, a4, a5, a6, a7] st h = Ev d 103 15 [some (vO x), a1, a2, a3, a4, a5, a6, a7] (vO x :: st) h := Rnx (hB_103) (dX6_replace_14) rfl
theorem v103_15 {d : Nat} {st : List MV} {h : Hp} {x : Int32} {a0 a1 a2 a4 a5 a6 a7 : Option MV} : Ev d 103 15 [a0, a1, a2, some (vI x), a4, a5, a6, a7] st h = Ev d 103 16 [a0, a1, a2, some (vI x), a4, a5, a6, a7] (vI x :: st) h := Rnx (hB_103) (dX6_replace_15) rfl
set_option maxRecDepth 100000 in
theorem v103_16 {d : Nat} {ls : LS3} {st : List MV} {h : Hp} {a : A3} {x0 : Int32} (hS : gS h a = (1, 6)) (hc : catS st ≤ 8) : Ev (d + 1) 103 16 ls (vI x0 :: vR a :: st) h = Evk 130 (d + 1) 103 16 ls st (Ev d 130 0 [some (vR a), some (vI x0)] [] h) := RcallO (idx := 80) (n := 1) (kd := 0) (As' := [vI x0]) hB_103 dX6_replace_16 rfl rfl (by decide) rfl rfl (Or.inl hS) rfl hc
theorem v103_19 {d : Nat} {st : List MV} {h : Hp} {x : Option A3} {a0 a1 a2 a3 a4 a5 a6 a7 : Option MV} : Ev d 103 19 [a0, a1, a2, a3, a4, a5, a6, a7] (vO x :: st) h = Ev d 103 21 [a0, a1, a2, a3, a4, a5, some (vO x), a7] st h := Rnx (hB_103) (dX6_replace_19) rfl
theorem v103_21 {d : Nat} {st : List MV} {h : Hp} {x : Option A3} {a0 a1 a2 a3 a4 a6 a7 : Option MV} : Ev d 103 21 [a0, a1, a2, a3, a4, some (vO x), a6, a7] st h = Ev d 103 23 [a0, a1, a2, a3, a4, some (vO x), a6, a7] (vO x :: st) h := Rnx (hB_103) (dX6_replace_21) rfl
theorem v103_23 {d : Nat} {st : List MV} {h : Hp} {x : Option A3} {a0 a1 a2 a3 a5 a6 a7 : Option MV} : Ev d 103 23 [a0, a1, a2, a3, some (vO x), a5, a6, a7] st h = Ev d 103 25 [a0, a1, a2, a3, some (vO x), a5, a6, a7] (vO x :: st) h := Rnx (hB_103) (dX6_replace_23) rfl
set_option maxRecDepth 100000 in
theorem v103_25 {d : Nat} {ls : LS3} {st : List MV} {h : Hp} {o0 : Option A3} {o1 : Option A3} (hc : catS st ≤ 8) : Ev (d + 1) 103 25 ls (vO o1 :: vO o0 :: st) h = Evk 134 (d + 1) 103 25 ls st (Ev d 134 0 [some (vO o0), some (vO o1)] [] h) := RcallS (idx := 222) (n := 2) (kd := 1) (As := [vO o0, vO o1]) hB_103 dX6_replace_25 rfl rfl (by decide) rfl rfl rfl hc
theorem v103_28 {d : Nat} {st : List MV} {h : Hp} {x : Option A3} {a0 a1 a2 a3 a5 a6 a7 : Option MV} : Ev d 103 28 [a0, a1, a2, a3, some (vO x), a5, a6, a7] st h = Ev d 103 30 [a0, a1, a2, a3, some (vO x), a5, a6, a7] (vO x :: st) h := Rnx (hB_103) (dX6_replace_28) rfl
set_option maxRecDepth 100000 in
theorem v103_30 {d : Nat} {ls : LS3} {st : List MV} {h : Hp} {a : A3} (hS : gS h a = (1, 5)) : Ev d 103 30 ls (vR a :: st) h = Ev d 103 33 ls (vI (gI h a 6) :: st) h := Rget hB_103 dX6_replace_30 rfl (Or.inl hS)
theorem v103_33 {d : Nat} {st : List MV} {h : Hp} {x : Option A3} {a0 a1 a2 a3 a4 a6 a7 : Option MV} : Ev d 103 33 [a0, a1, a2, a3, a4, some (vO x), a6, a7] st h = Ev d 103 35 [a0, a1, a2, a3, a4, some (vO x), a6, a7] (vO x :: st) h := Rnx (hB_103) (dX6_replace_33) rfl
set_option maxRecDepth 100000 in
theorem v103_35 {d : Nat} {ls : LS3} {st : List MV} {h : Hp} {a : A3}  (hS : gS h a = (1, 3)) (hc : catS st ≤ 8) : Ev (d + 1) 103 35 ls (vR a :: st) h = Evk 24 (d + 1) 103 35 ls st (Ev d 24 0 [some (vR a)] [] h) := RcallO (idx := 206) (n := 0) (kd := 0) (As' := []) hB_103 dX6_replace_35 rfl rfl (by decide) rfl rfl (Or.inl hS) rfl hc
theorem v103_38 {d : Nat} {ls : LS3} {st : List MV} {h : Hp} : Ev d 103 38 ls st h = Ev d 103 39 ls (vI (-1) :: st) h := Rnx (hB_103) (dX6_replace_38) rfl
theorem v103_39 {d : Nat} {ls : LS3} {st : List MV} {h : Hp} {x y : Int32} : Ev d 103 39 ls (vI y :: vI x :: st) h = Ev d 103 40 ls (vI (x ^^^ y) :: st) h := Rnx (hB_103) (dX6_replace_39) rfl
theorem v103_40 {d : Nat} {ls : LS3} {st : List MV} {h : Hp} {x y : Int32} : Ev d 103 40 ls (vI y :: vI x :: st) h = Ev d 103 41 ls (vI (x &&& y) :: st) h := Rnx (hB_103) (dX6_replace_40) rfl
theorem v103_41 {d : Nat} {st : List MV} {h : Hp} {x : Int32} {a0 a1 a2 a3 a4 a5 a6 a7 : Option MV} : Ev d 103 41 [a0, a1, a2, a3, a4, a5, a6, a7] (vI x :: st) h = Ev d 103 43 [a0, a1, a2, a3, a4, a5, a6, some (vI x)] st h := Rnx (hB_103) (dX6_replace_41) rfl
theorem v103_43 {d : Nat} {st : List MV} {h : Hp} {x : Option A3} {a1 a2 a3 a4 a5 a6 a7 : Option MV} : Ev d 103 43 [some (vO x), a1, a2, a3, a4, a5, a6, a7] st h = Ev d 103 44 [some (vO x), a1, a2, a3, a4, a5, a6, a7] (vO x :: st) h := Rnx (hB_103) (dX6_replace_43) rfl
theorem v103_44 {d : Nat} {st : List MV} {h : Hp} {x : Option A3} {a1 a2 a3 a4 a5 a6 a7 : Option MV} : Ev d 103 44 [some (vO x), a1, a2, a3, a4, a5, a6, a7] st h = Ev d 103 45 [some (vO x), a1, a2, a3, a4, a5, a6, a7] (vO x :: st) h := Rnx (hB_103) (dX6_replace_44) rfl
set_option maxRecDepth 100000 in
theorem v103_45 {d : Nat} {ls : LS3} {st : List MV} {h : Hp} {a : A3} (hS : gS h a = (1, 6)) : Ev d 103 45 ls (vR a :: st) h = Ev d 103 48 ls (vO (gR h a 0) :: st) h := Rget hB_103 dX6_replace_45 rfl (Or.inl hS)
theorem v103_48 {d : Nat} {st : List MV} {h : Hp} {x : Option A3} {a0 a1 a2 a3 a5 a6 a7 : Option MV} : Ev d 103 48 [a0, a1, a2, a3, some (vO x), a5, a6, a7] st h = Ev d 103 50 [a0, a1, a2, a3, some (vO x), a5, a6, a7] (vO x :: st) h := Rnx (hB_103) (dX6_replace_48) rfl
theorem v103_50 {d : Nat} {st : List MV} {h : Hp} {x : Int32} {a0 a1 a2 a3 a4 a5 a6 : Option MV} : Ev d 103 50 [a0, a1, a2, a3, a4, a5, a6, some (vI x)] st h = Ev d 103 52 [a0, a1, a2, a3, a4, a5, a6, some (vI x)] (vI x :: st) h := Rnx (hB_103) (dX6_replace_50) rfl
theorem v103_52 {d : Nat} {st : List MV} {h : Hp} {x : Option A3} {a0 a1 a2 a3 a4 a5 a7 : Option MV} : Ev d 103 52 [a0, a1, a2, a3, a4, a5, some (vO x), a7] st h = Ev d 103 54 [a0, a1, a2, a3, a4, a5, some (vO x), a7] (vO x :: st) h := Rnx (hB_103) (dX6_replace_52) rfl
set_option maxRecDepth 100000 in
theorem v103_54 {d : Nat} {ls : LS3} {st : List MV} {h : Hp} {a : A3} {o0 : Option A3} {x1 : Int32} {o2 : Option A3} (hS : gS h a = (1, 4)) (hc : catS st ≤ 8) : Ev (d + 1) 103 54 ls (vO o2 :: vI x1 :: vO o0 :: vR a :: st) h = Evk 42 (d + 1) 103 54 ls st (Ev d 42 0 [some (vR a), some (vO o0), some (vI x1), some (vO o2)] [] h) := RcallO (idx := 198) (n := 3) (kd := 0) (As' := [vO o0, vI x1, vO o2]) hB_103 dX6_replace_54 rfl rfl (by decide) rfl rfl (Or.inl hS) rfl hc
set_option maxRecDepth 100000 in
theorem v103_57 {d : Nat} {ls : LS3} {st : List MV} {h : Hp} {a : A3} {x0 : Int32} (hS : gS h a = (1, 6)) (hc : catS st ≤ 8) : Ev (d + 1) 103 57 ls (vI x0 :: vR a :: st) h = Evk 135 (d + 1) 103 57 ls st (Ev d 135 0 [some (vR a), some (vI x0)] [] h) := RcallO (idx := 202) (n := 1) (kd := 0) (As' := [vI x0]) hB_103 dX6_replace_57 rfl rfl (by decide) rfl rfl (Or.inl hS) rfl hc
theorem v103_60 {d : Nat} {st : List MV} {h : Hp} {x : Option A3} {a1 a2 a3 a4 a5 a6 a7 : Option MV} : Ev d 103 60 [some (vO x), a1, a2, a3, a4, a5, a6, a7] st h = Ev d 103 61 [some (vO x), a1, a2, a3, a4, a5, a6, a7] (vO x :: st) h := Rnx (hB_103) (dX6_replace_60) rfl
set_option maxRecDepth 100000 in
theorem v103_61 {d : Nat} {ls : LS3} {st : List MV} {h : Hp} {a : A3} (hS : gS h a = (1, 6)) : Ev d 103 61 ls (vR a :: st) h = Ev d 103 64 ls (vO (gR h a 2) :: st) h := Rget hB_103 dX6_replace_61 rfl (Or.inl hS)
theorem v103_64 {d : Nat} {st : List MV} {h : Hp} {x : Option A3} {a1 a2 a3 a4 a5 a6 a7 : Option MV} : Ev d 103 64 [some (vO x), a1, a2, a3, a4, a5, a6, a7] st h = Ev d 103 65 [some (vO x), a1, a2, a3, a4, a5, a6, a7] (vO x :: st) h := Rnx (hB_103) (dX6_replace_64) rfl
set_option maxRecDepth 100000 in
theorem v103_65 {d : Nat} {ls : LS3} {st : List MV} {h : Hp} {a : A3} (hS : gS h a = (1, 6)) : Ev d 103 65 ls (vR a :: st) h = Ev d 103 68 ls (vO (gR h a 0) :: st) h := Rget hB_103 dX6_replace_65 rfl (Or.inl hS)
set_option maxRecDepth 100000 in
theorem v103_68 {d : Nat} {ls : LS3} {st : List MV} {h : Hp} {a : A3} {o0 : Option A3} (hS : gS h a = (1, 1)) (hc : catS st ≤ 8) : Ev (d + 1) 103 68 ls (vO o0 :: vR a :: st) h = Evk 6 (d + 1) 103 68 ls st (Ev d 6 0 [some (vR a), some (vO o0)] [] h) := RcallO (idx := 72) (n := 1) (kd := 0) (As' := [vO o0]) hB_103 dX6_replace_68 rfl rfl (by decide) rfl rfl (Or.inl hS) rfl hc
theorem v103_71 {d : Nat} {st : List MV} {h : Hp} {x : Option A3} {a0 a1 a2 a3 a5 a6 a7 : Option MV} : Ev d 103 71 [a0, a1, a2, a3, some (vO x), a5, a6, a7] st h = Ev d 103 73 [a0, a1, a2, a3, some (vO x), a5, a6, a7] (vO x :: st) h := Rnx (hB_103) (dX6_replace_71) rfl
theorem v103_73 {d : Nat} {st : List MV} {h : Hp} {x : Int32} {a0 a1 a2 a3 a4 a5 a6 : Option MV} : Ev d 103 73 [a0, a1, a2, a3, a4, a5, a6, some (vI x)] st h = Ev d 103 75 [a0, a1, a2, a3, a4, a5, a6, some (vI x)] (vI x :: st) h := Rnx (hB_103) (dX6_replace_73) rfl
theorem v103_75 {d : Nat} {st : List MV} {h : Hp} {x : Option A3} {a0 a1 a2 a3 a4 a5 a7 : Option MV} : Ev d 103 75 [a0, a1, a2, a3, a4, a5, some (vO x), a7] st h = Ev d 103 77 [a0, a1, a2, a3, a4, a5, some (vO x), a7] (vO x :: st) h := Rnx (hB_103) (dX6_replace_75) rfl
set_option maxRecDepth 100000 in
theorem v103_77 {d : Nat} {ls : LS3} {st : List MV} {h : Hp} {a : A3}  (hS : gS h a = (1, 3)) (hc : catS st ≤ 8) : Ev (d + 1) 103 77 ls (vR a :: st) h = Evk 24 (d + 1) 103 77 ls st (Ev d 24 0 [some (vR a)] [] h) := RcallO (idx := 206) (n := 0) (kd := 0) (As' := []) hB_103 dX6_replace_77 rfl rfl (by decide) rfl rfl (Or.inl hS) rfl hc
theorem v103_80 {d : Nat} {ls : LS3} {st : List MV} {h : Hp} {x y : Int32} : Ev d 103 80 ls (vI y :: vI x :: st) h = Ev d 103 81 ls (vI (x ||| y) :: st) h := Rnx (hB_103) (dX6_replace_80) rfl
set_option maxRecDepth 100000 in
theorem v103_81 {d : Nat} {ls : LS3} {st : List MV} {h : Hp} {a : A3} {x : Int32} (hS : gS h a = (1, 5)) : Ev d 103 81 ls (vI x :: vR a :: st) h = Ev d 103 84 ls st (sI h a 6 x) := RputI hB_103 dX6_replace_81 rfl rfl (by decide) hS (Or.inl rfl)
theorem v103_84 {d : Nat} {st : List MV} {h : Hp} {x : Option A3} {a1 a2 a3 a4 a5 a6 a7 : Option MV} : Ev d 103 84 [some (vO x), a1, a2, a3, a4, a5, a6, a7] st h = Ev d 103 85 [some (vO x), a1, a2, a3, a4, a5, a6, a7] (vO x :: st) h := Rnx (hB_103) (dX6_replace_84) rfl
set_option maxRecDepth 100000 in
theorem v103_85 {d : Nat} {ls : LS3} {st : List MV} {h : Hp} {a : A3} (hS : gS h a = (1, 6)) : Ev d 103 85 ls (vR a :: st) h = Ev d 103 88 ls (vO (gR h a 0) :: st) h := Rget hB_103 dX6_replace_85 rfl (Or.inl hS)
theorem v103_88 {d : Nat} {st : List MV} {h : Hp} {x : Option A3} {a0 a1 a2 a3 a5 a6 a7 : Option MV} : Ev d 103 88 [a0, a1, a2, a3, some (vO x), a5, a6, a7] st h = Ev d 103 90 [a0, a1, a2, a3, some (vO x), a5, a6, a7] (vO x :: st) h := Rnx (hB_103) (dX6_replace_88) rfl
set_option maxRecDepth 100000 in
theorem v103_90 {d : Nat} {ls : LS3} {st : List MV} {h : Hp} {a : A3} {o0 : Option A3} (hS : gS h a = (1, 4)) (hc : catS st ≤ 8) : Ev (d + 1) 103 90 ls (vO o0 :: vR a :: st) h = Evk 45 (d + 1) 103 90 ls st (Ev d 45 0 [some (vR a), some (vO o0), none] [] h) := RcallO (idx := 218) (n := 1) (kd := 0) (As' := [vO o0]) hB_103 dX6_replace_90 rfl rfl (by decide) rfl rfl (Or.inl hS) rfl hc
theorem v103_93 {d : Nat} {ls : LS3} {st : List MV} {h : Hp} {x : Int32} : Ev d 103 93 ls (vI x :: st) h = if x = 0 then Ev d 103 100 ls st h else Ev d 103 96 ls st h := Rif hB_103 dX6_replace_93 rfl
theorem v103_96 {d : Nat} {ls : LS3} {st : List MV} {h : Hp} : Ev d 103 96 ls st h = Ev d 103 97 ls (vI 1 :: st) h := Rnx (hB_103) (dX6_replace_96) rfl
theorem v103_97 {d : Nat} {ls : LS3} {st : List MV} {h : Hp} : Ev d 103 97 ls st h = Ev d 103 101 ls st h := Rnx (hB_103) (dX6_replace_97) rfl
theorem v103_100 {d : Nat} {ls : LS3} {st : List MV} {h : Hp} : Ev d 103 100 ls st h = Ev d 103 101 ls (vI 0 :: st) h := Rnx (hB_103) (dX6_replace_100) rfl
theorem v103_101 {d : Nat} {ls : LS3} {h : Hp} {x : Int32} : Ev d 103 101 ls [vI x] h = some (.inl (some (vI x)), h) := Rdn hB_103 dX6_replace_101 rfl
theorem hB_104 : mB 104 = cX6_whyNotJoin := rfl
theorem v104_0 {d : Nat} {st : List MV} {h : Hp} {x : Option A3} {a1 a2 a3 : Option MV} : Ev d 104 0 [some (vO x), a1, a2, a3] st h = Ev d 104 1 [some (vO x), a1, a2, a3] (vO x :: st) h := Rnx (hB_104) (dX6_whyNotJoin_0) rfl
theorem v104_1 {d : Nat} {st : List MV} {h : Hp} {x : Int32} {a0 a2 a3 : Option MV} : Ev d 104 1 [a0, some (vI x), a2, a3] st h = Ev d 104 2 [a0, some (vI x), a2, a3] (vI x :: st) h := Rnx (hB_104) (dX6_whyNotJoin_1) rfl
set_option maxRecDepth 100000 in
theorem v104_2 {d : Nat} {ls : LS3} {st : List MV} {h : Hp} {a : A3} {x0 : Int32} (hS : gS h a = (1, 6)) (hc : catS st ≤ 8) : Ev (d + 1) 104 2 ls (vI x0 :: vR a :: st) h = Evk 131 (d + 1) 104 2 ls st (Ev d 131 0 [some (vR a), some (vI x0)] [] h) := RcallO (idx := 157) (n := 1) (kd := 0) (As' := [vI x0]) hB_104 dX6_whyNotJoin_2 rfl rfl (by decide) rfl rfl (Or.inl hS) rfl hc
theorem v104_5 {d : Nat} {st : List MV} {h : Hp} {x : Option A3} {a0 a1 a2 a3 : Option MV} : Ev d 104 5 [a0, a1, a2, a3] (vO x :: st) h = Ev d 104 6 [a0, a1, a2, some (vO x)] st h := Rnx (hB_104) (dX6_whyNotJoin_5) rfl
theorem v104_6 {d : Nat} {st : List MV} {h : Hp} {x : Option A3} {a1 a2 a3 : Option MV} : Ev d 104 6 [some (vO x), a1, a2, a3] st h = Ev d 104 7 [some (vO x), a1, a2, a3] (vO x :: st) h := Rnx (hB_104) (dX6_whyNotJoin_6) rfl
set_option maxRecDepth 100000 in
theorem v104_7 {d : Nat} {ls : LS3} {st : List MV} {h : Hp} {a : A3} (hS : gS h a = (1, 6)) : Ev d 104 7 ls (vR a :: st) h = Ev d 104 10 ls (vO (gR h a 0) :: st) h := Rget hB_104 dX6_whyNotJoin_7 rfl (Or.inl hS)
theorem v104_10 {d : Nat} {st : List MV} {h : Hp} {x : Option A3} {a0 a1 a2 : Option MV} : Ev d 104 10 [a0, a1, a2, some (vO x)] st h = Ev d 104 11 [a0, a1, a2, some (vO x)] (vO x :: st) h := Rnx (hB_104) (dX6_whyNotJoin_10) rfl
theorem v104_11 {d : Nat} {st : List MV} {h : Hp} {x : Option A3} {a0 a1 a2 : Option MV} : Ev d 104 11 [a0, a1, a2, some (vO x)] st h = Ev d 104 12 [a0, a1, a2, some (vO x)] (vO x :: st) h := Rnx (hB_104) (dX6_whyNotJoin_11) rfl
set_option maxRecDepth 100000 in
theorem v104_12 {d : Nat} {ls : LS3} {st : List MV} {h : Hp} {a : A3} (hS : gS h a = (1, 5)) : Ev d 104 12 ls (vR a :: st) h = Ev d 104 15 ls (vI (gI h a 6) :: st) h := Rget hB_104 dX6_whyNotJoin_12 rfl (Or.inl hS)
theorem v104_15 {d : Nat} {st : List MV} {h : Hp} {x : Option A3} {a1 a2 a3 : Option MV} : Ev d 104 15 [some (vO x), a1, a2, a3] st h = Ev d 104 16 [some (vO x), a1, a2, a3] (vO x :: st) h := Rnx (hB_104) (dX6_whyNotJoin_15) rfl
theorem v104_16 {d : Nat} {st : List MV} {h : Hp} {x : Int32} {a0 a1 a3 : Option MV} : Ev d 104 16 [a0, a1, some (vI x), a3] st h = Ev d 104 17 [a0, a1, some (vI x), a3] (vI x :: st) h := Rnx (hB_104) (dX6_whyNotJoin_16) rfl
set_option maxRecDepth 100000 in
theorem v104_17 {d : Nat} {ls : LS3} {st : List MV} {h : Hp} {a : A3} {x0 : Int32} (hS : gS h a = (1, 6)) (hc : catS st ≤ 8) : Ev (d + 1) 104 17 ls (vI x0 :: vR a :: st) h = Evk 130 (d + 1) 104 17 ls st (Ev d 130 0 [some (vR a), some (vI x0)] [] h) := RcallO (idx := 80) (n := 1) (kd := 0) (As' := [vI x0]) hB_104 dX6_whyNotJoin_17 rfl rfl (by decide) rfl rfl (Or.inl hS) rfl hc
set_option maxRecDepth 100000 in
theorem v104_20 {d : Nat} {ls : LS3} {st : List MV} {h : Hp} {a : A3} {o0 : Option A3} {x1 : Int32} {o2 : Option A3} (hS : gS h a = (1, 4)) (hc : catS st ≤ 8) : Ev (d + 1) 104 20 ls (vO o2 :: vI x1 :: vO o0 :: vR a :: st) h = Evk 42 (d + 1) 104 20 ls st (Ev d 42 0 [some (vR a), some (vO o0), some (vI x1), some (vO o2)] [] h) := RcallO (idx := 198) (n := 3) (kd := 0) (As' := [vO o0, vI x1, vO o2]) hB_104 dX6_whyNotJoin_20 rfl rfl (by decide) rfl rfl (Or.inl hS) rfl hc
theorem v104_23 {d : Nat} {ls : LS3} {h : Hp} {x : Int32} : Ev d 104 23 ls [vI x] h = some (.inl (some (vI x)), h) := Rdn hB_104 dX6_whyNotJoin_23 rfl
theorem hB_105 : mB 105 = cX6_lacks := rfl
theorem v105_0 {d : Nat} {st : List MV} {h : Hp} {x : Option A3} {a1 a2 a3 : Option MV} : Ev d 105 0 [some (vO x), a1, a2, a3] st h = Ev d 105 1 [some (vO x), a1, a2, a3] (vO x :: st) h := Rnx (hB_105) (dX6_lacks_0) rfl
theorem v105_1 {d : Nat} {st : List MV} {h : Hp} {x : Int32} {a0 a2 a3 : Option MV} : Ev d 105 1 [a0, some (vI x), a2, a3] st h = Ev d 105 2 [a0, some (vI x), a2, a3] (vI x :: st) h := Rnx (hB_105) (dX6_lacks_1) rfl
set_option maxRecDepth 100000 in
theorem v105_2 {d : Nat} {ls : LS3} {st : List MV} {h : Hp} {a : A3} {x0 : Int32} (hS : gS h a = (1, 6)) (hc : catS st ≤ 8) : Ev (d + 1) 105 2 ls (vI x0 :: vR a :: st) h = Evk 131 (d + 1) 105 2 ls st (Ev d 131 0 [some (vR a), some (vI x0)] [] h) := RcallO (idx := 157) (n := 1) (kd := 0) (As' := [vI x0]) hB_105 dX6_lacks_2 rfl rfl (by decide) rfl rfl (Or.inl hS) rfl hc
theorem v105_5 {d : Nat} {st : List MV} {h : Hp} {x : Option A3} {a0 a1 a2 a3 : Option MV} : Ev d 105 5 [a0, a1, a2, a3] (vO x :: st) h = Ev d 105 6 [a0, a1, a2, some (vO x)] st h := Rnx (hB_105) (dX6_lacks_5) rfl
theorem v105_6 {d : Nat} {st : List MV} {h : Hp} {x : Int32} {a0 a1 a3 : Option MV} : Ev d 105 6 [a0, a1, some (vI x), a3] st h = Ev d 105 7 [a0, a1, some (vI x), a3] (vI x :: st) h := Rnx (hB_105) (dX6_lacks_6) rfl
theorem v105_7 {d : Nat} {ls : LS3} {st : List MV} {h : Hp} : Ev d 105 7 ls st h = Ev d 105 8 ls (vI 5 :: st) h := Rnx (hB_105) (dX6_lacks_7) rfl
set_option maxRecDepth 100000 in
theorem v105_8 {d : Nat} {ls : LS3} {st : List MV} {h : Hp} {x0 : Int32} {x1 : Int32} (hc : catS st ≤ 8) : Ev (d + 1) 105 8 ls (vI x1 :: vI x0 :: st) h = Evk 137 (d + 1) 105 8 ls st (Ev d 137 0 [some (vI x0), some (vI x1)] [] h) := RcallS (idx := 56) (n := 2) (kd := 1) (As := [vI x0, vI x1]) hB_105 dX6_lacks_8 rfl rfl (by decide) rfl rfl rfl hc
theorem v105_11 {d : Nat} {ls : LS3} {st : List MV} {h : Hp} {x : Int32} : Ev d 105 11 ls (vI x :: st) h = if x = 0 then Ev d 105 14 ls st h else Ev d 105 24 ls st h := Rifn hB_105 dX6_lacks_11 rfl
set_option maxRecDepth 100000 in
theorem v105_14 {d : Nat} {ls : LS3} {st : List MV} {h : Hp} (hc : catS st ≤ 8) : Ev d 105 14 ls st h = some (.inr 0, gb h) := Rthr hB_105 dX6_lacks_14 rfl rfl rfl hc
theorem v105_17 {d : Nat} {ls : LS3} {st : List MV} {h : Hp} {v : MV} (hv : cat1 v = true) : Ev d 105 17 ls (v :: st) h = Ev d 105 18 ls (v :: v :: st) h := Rdup hB_105 dX6_lacks_17 hv
theorem v105_24 {d : Nat} {st : List MV} {h : Hp} {x : Option A3} {a1 a2 a3 : Option MV} : Ev d 105 24 [some (vO x), a1, a2, a3] st h = Ev d 105 25 [some (vO x), a1, a2, a3] (vO x :: st) h := Rnx (hB_105) (dX6_lacks_24) rfl
set_option maxRecDepth 100000 in
theorem v105_25 {d : Nat} {ls : LS3} {st : List MV} {h : Hp} {a : A3} (hS : gS h a = (1, 6)) : Ev d 105 25 ls (vR a :: st) h = Ev d 105 28 ls (vO (gR h a 0) :: st) h := Rget hB_105 dX6_lacks_25 rfl (Or.inl hS)
theorem v105_28 {d : Nat} {st : List MV} {h : Hp} {x : Option A3} {a0 a1 a2 : Option MV} : Ev d 105 28 [a0, a1, a2, some (vO x)] st h = Ev d 105 29 [a0, a1, a2, some (vO x)] (vO x :: st) h := Rnx (hB_105) (dX6_lacks_28) rfl
theorem v105_29 {d : Nat} {st : List MV} {h : Hp} {x : Int32} {a0 a1 a3 : Option MV} : Ev d 105 29 [a0, a1, some (vI x), a3] st h = Ev d 105 30 [a0, a1, some (vI x), a3] (vI x :: st) h := Rnx (hB_105) (dX6_lacks_29) rfl
set_option maxRecDepth 100000 in
theorem v105_30 {d : Nat} {ls : LS3} {st : List MV} {h : Hp} {a : A3} {o0 : Option A3} {x1 : Int32} (hS : gS h a = (1, 4)) (hc : catS st ≤ 8) : Ev (d + 1) 105 30 ls (vI x1 :: vO o0 :: vR a :: st) h = Evk 40 (d + 1) 105 30 ls st (Ev d 40 0 [some (vR a), some (vO o0), some (vI x1), none] [] h) := RcallO (idx := 228) (n := 2) (kd := 0) (As' := [vO o0, vI x1]) hB_105 dX6_lacks_30 rfl rfl (by decide) rfl rfl (Or.inl hS) rfl hc
theorem v105_33 {d : Nat} {ls : LS3} {h : Hp} {x : Int32} : Ev d 105 33 ls [vI x] h = some (.inl (some (vI x)), h) := Rdn hB_105 dX6_lacks_33 rfl
theorem hB_106 : mB 106 = cX6_replacements := rfl
theorem v106_0 {d : Nat} {st : List MV} {h : Hp} {x : Option A3} {a1 a2 a3 a4 : Option MV} : Ev d 106 0 [some (vO x), a1, a2, a3, a4] st h = Ev d 106 1 [some (vO x), a1, a2, a3, a4] (vO x :: st) h := Rnx (hB_106) (dX6_replacements_0) rfl
theorem v106_1 {d : Nat} {st : List MV} {h : Hp} {x : Int32} {a0 a2 a3 a4 : Option MV} : Ev d 106 1 [a0, some (vI x), a2, a3, a4] st h = Ev d 106 2 [a0, some (vI x), a2, a3, a4] (vI x :: st) h := Rnx (hB_106) (dX6_replacements_1) rfl
set_option maxRecDepth 100000 in
theorem v106_2 {d : Nat} {ls : LS3} {st : List MV} {h : Hp} {a : A3} {x0 : Int32} (hS : gS h a = (1, 6)) (hc : catS st ≤ 8) : Ev (d + 1) 106 2 ls (vI x0 :: vR a :: st) h = Evk 131 (d + 1) 106 2 ls st (Ev d 131 0 [some (vR a), some (vI x0)] [] h) := RcallO (idx := 157) (n := 1) (kd := 0) (As' := [vI x0]) hB_106 dX6_replacements_2 rfl rfl (by decide) rfl rfl (Or.inl hS) rfl hc
theorem v106_5 {d : Nat} {st : List MV} {h : Hp} {x : Option A3} {a0 a1 a2 a3 a4 : Option MV} : Ev d 106 5 [a0, a1, a2, a3, a4] (vO x :: st) h = Ev d 106 6 [a0, a1, a2, some (vO x), a4] st h := Rnx (hB_106) (dX6_replacements_5) rfl
theorem v106_6 {d : Nat} {st : List MV} {h : Hp} {x : Option A3} {a1 a2 a3 a4 : Option MV} : Ev d 106 6 [some (vO x), a1, a2, a3, a4] st h = Ev d 106 7 [some (vO x), a1, a2, a3, a4] (vO x :: st) h := Rnx (hB_106) (dX6_replacements_6) rfl
theorem v106_7 {d : Nat} {st : List MV} {h : Hp} {x : Int32} {a0 a1 a3 a4 : Option MV} : Ev d 106 7 [a0, a1, some (vI x), a3, a4] st h = Ev d 106 8 [a0, a1, some (vI x), a3, a4] (vI x :: st) h := Rnx (hB_106) (dX6_replacements_7) rfl
set_option maxRecDepth 100000 in
theorem v106_8 {d : Nat} {ls : LS3} {st : List MV} {h : Hp} {a : A3} {x0 : Int32} (hS : gS h a = (1, 6)) (hc : catS st ≤ 8) : Ev (d + 1) 106 8 ls (vI x0 :: vR a :: st) h = Evk 130 (d + 1) 106 8 ls st (Ev d 130 0 [some (vR a), some (vI x0)] [] h) := RcallO (idx := 80) (n := 1) (kd := 0) (As' := [vI x0]) hB_106 dX6_replacements_8 rfl rfl (by decide) rfl rfl (Or.inl hS) rfl hc
theorem v106_11 {d : Nat} {st : List MV} {h : Hp} {x : Option A3} {a0 a1 a2 a3 a4 : Option MV} : Ev d 106 11 [a0, a1, a2, a3, a4] (vO x :: st) h = Ev d 106 13 [a0, a1, a2, a3, some (vO x)] st h := Rnx (hB_106) (dX6_replacements_11) rfl
theorem v106_13 {d : Nat} {st : List MV} {h : Hp} {x : Option A3} {a0 a1 a2 a3 : Option MV} : Ev d 106 13 [a0, a1, a2, a3, some (vO x)] st h = Ev d 106 15 [a0, a1, a2, a3, some (vO x)] (vO x :: st) h := Rnx (hB_106) (dX6_replacements_13) rfl
theorem v106_15 {d : Nat} {st : List MV} {h : Hp} {x : Option A3} {a0 a1 a2 a4 : Option MV} : Ev d 106 15 [a0, a1, a2, some (vO x), a4] st h = Ev d 106 16 [a0, a1, a2, some (vO x), a4] (vO x :: st) h := Rnx (hB_106) (dX6_replacements_15) rfl
set_option maxRecDepth 100000 in
theorem v106_16 {d : Nat} {ls : LS3} {st : List MV} {h : Hp} {o0 : Option A3} {o1 : Option A3} (hc : catS st ≤ 8) : Ev (d + 1) 106 16 ls (vO o1 :: vO o0 :: st) h = Evk 134 (d + 1) 106 16 ls st (Ev d 134 0 [some (vO o0), some (vO o1)] [] h) := RcallS (idx := 222) (n := 2) (kd := 1) (As := [vO o0, vO o1]) hB_106 dX6_replacements_16 rfl rfl (by decide) rfl rfl rfl hc
theorem v106_19 {d : Nat} {st : List MV} {h : Hp} {x : Option A3} {a1 a2 a3 a4 : Option MV} : Ev d 106 19 [some (vO x), a1, a2, a3, a4] st h = Ev d 106 20 [some (vO x), a1, a2, a3, a4] (vO x :: st) h := Rnx (hB_106) (dX6_replacements_19) rfl
set_option maxRecDepth 100000 in
theorem v106_20 {d : Nat} {ls : LS3} {st : List MV} {h : Hp} {a : A3} (hS : gS h a = (1, 6)) : Ev d 106 20 ls (vR a :: st) h = Ev d 106 23 ls (vO (gR h a 0) :: st) h := Rget hB_106 dX6_replacements_20 rfl (Or.inl hS)
theorem v106_23 {d : Nat} {st : List MV} {h : Hp} {x : Option A3} {a0 a1 a2 a4 : Option MV} : Ev d 106 23 [a0, a1, a2, some (vO x), a4] st h = Ev d 106 24 [a0, a1, a2, some (vO x), a4] (vO x :: st) h := Rnx (hB_106) (dX6_replacements_23) rfl
theorem v106_24 {d : Nat} {st : List MV} {h : Hp} {x : Option A3} {a0 a1 a2 a3 : Option MV} : Ev d 106 24 [a0, a1, a2, a3, some (vO x)] st h = Ev d 106 26 [a0, a1, a2, a3, some (vO x)] (vO x :: st) h := Rnx (hB_106) (dX6_replacements_24) rfl
set_option maxRecDepth 100000 in
theorem v106_26 {d : Nat} {ls : LS3} {st : List MV} {h : Hp} {a : A3} {o0 : Option A3} {o1 : Option A3} (hS : gS h a = (1, 4)) (hc : catS st ≤ 8) : Ev (d + 1) 106 26 ls (vO o1 :: vO o0 :: vR a :: st) h = Evk 46 (d + 1) 106 26 ls st (Ev d 46 0 [some (vR a), some (vO o0), some (vO o1), none, none, none, none, none, none, none] [] h) := RcallO (idx := 232) (n := 2) (kd := 0) (As' := [vO o0, vO o1]) hB_106 dX6_replacements_26 rfl rfl (by decide) rfl rfl (Or.inl hS) rfl hc
theorem v106_29 {d : Nat} {ls : LS3} {h : Hp} {x : Int32} : Ev d 106 29 ls [vI x] h = some (.inl (some (vI x)), h) := Rdn hB_106 dX6_replacements_29 rfl
theorem hB_107 : mB 107 = cX6_completion := rfl
theorem v107_0 {d : Nat} {st : List MV} {h : Hp} {x : Option A3} {a1 : Option MV} : Ev d 107 0 [some (vO x), a1] st h = Ev d 107 1 [some (vO x), a1] (vO x :: st) h := Rnx (hB_107) (dX6_completion_0) rfl
theorem v107_1 {d : Nat} {st : List MV} {h : Hp} {x : Option A3} {a1 : Option MV} : Ev d 107 1 [some (vO x), a1] st h = Ev d 107 2 [some (vO x), a1] (vO x :: st) h := Rnx (hB_107) (dX6_completion_1) rfl
theorem v107_2 {d : Nat} {st : List MV} {h : Hp} {x : Int32} {a0 : Option MV} : Ev d 107 2 [a0, some (vI x)] st h = Ev d 107 3 [a0, some (vI x)] (vI x :: st) h := Rnx (hB_107) (dX6_completion_2) rfl
set_option maxRecDepth 100000 in
theorem v107_3 {d : Nat} {ls : LS3} {st : List MV} {h : Hp} {a : A3} {x0 : Int32} (hS : gS h a = (1, 6)) (hc : catS st ≤ 8) : Ev (d + 1) 107 3 ls (vI x0 :: vR a :: st) h = Evk 131 (d + 1) 107 3 ls st (Ev d 131 0 [some (vR a), some (vI x0)] [] h) := RcallO (idx := 157) (n := 1) (kd := 0) (As' := [vI x0]) hB_107 dX6_completion_3 rfl rfl (by decide) rfl rfl (Or.inl hS) rfl hc
set_option maxRecDepth 100000 in
theorem v107_6 {d : Nat} {ls : LS3} {st : List MV} {h : Hp} {a : A3} {o0 : Option A3} (hS : gS h a = (1, 6)) (hc : catS st ≤ 8) : Ev (d + 1) 107 6 ls (vO o0 :: vR a :: st) h = Evk 136 (d + 1) 107 6 ls st (Ev d 136 0 [some (vR a), some (vO o0), none] [] h) := RcallO (idx := 236) (n := 1) (kd := 0) (As' := [vO o0]) hB_107 dX6_completion_6 rfl rfl (by decide) rfl rfl (Or.inl hS) rfl hc
theorem v107_9 {d : Nat} {ls : LS3} {h : Hp} {x : Int32} : Ev d 107 9 ls [vI x] h = some (.inl (some (vI x)), h) := Rdn hB_107 dX6_completion_9 rfl
theorem hB_108 : mB 108 = cX6_complete := rfl
theorem v108_0 {d : Nat} {st : List MV} {h : Hp} {x : Option A3} {a1 a2 a3 : Option MV} : Ev d 108 0 [some (vO x), a1, a2, a3] st h = Ev d 108 1 [some (vO x), a1, a2, a3] (vO x :: st) h := Rnx (hB_108) (dX6_complete_0) rfl
theorem v108_1 {d : Nat} {st : List MV} {h : Hp} {x : Int32} {a0 a2 a3 : Option MV} : Ev d 108 1 [a0, some (vI x), a2, a3] st h = Ev d 108 2 [a0, some (vI x), a2, a3] (vI x :: st) h := Rnx (hB_108) (dX6_complete_1) rfl
set_option maxRecDepth 100000 in
theorem v108_2 {d : Nat} {ls : LS3} {st : List MV} {h : Hp} {a : A3} {x0 : Int32} (hS : gS h a = (1, 6)) (hc : catS st ≤ 8) : Ev (d + 1) 108 2 ls (vI x0 :: vR a :: st) h = Evk 131 (d + 1) 108 2 ls st (Ev d 131 0 [some (vR a), some (vI x0)] [] h) := RcallO (idx := 157) (n := 1) (kd := 0) (As' := [vI x0]) hB_108 dX6_complete_2 rfl rfl (by decide) rfl rfl (Or.inl hS) rfl hc
theorem v108_5 {d : Nat} {st : List MV} {h : Hp} {x : Option A3} {a0 a1 a2 a3 : Option MV} : Ev d 108 5 [a0, a1, a2, a3] (vO x :: st) h = Ev d 108 6 [a0, a1, some (vO x), a3] st h := Rnx (hB_108) (dX6_complete_5) rfl
theorem v108_6 {d : Nat} {st : List MV} {h : Hp} {x : Option A3} {a1 a2 a3 : Option MV} : Ev d 108 6 [some (vO x), a1, a2, a3] st h = Ev d 108 7 [some (vO x), a1, a2, a3] (vO x :: st) h := Rnx (hB_108) (dX6_complete_6) rfl
theorem v108_7 {d : Nat} {st : List MV} {h : Hp} {x : Option A3} {a0 a1 a3 : Option MV} : Ev d 108 7 [a0, a1, some (vO x), a3] st h = Ev d 108 8 [a0, a1, some (vO x), a3] (vO x :: st) h := Rnx (hB_108) (dX6_complete_7) rfl
set_option maxRecDepth 100000 in
theorem v108_8 {d : Nat} {ls : LS3} {st : List MV} {h : Hp} {a : A3} {o0 : Option A3} (hS : gS h a = (1, 6)) (hc : catS st ≤ 8) : Ev (d + 1) 108 8 ls (vO o0 :: vR a :: st) h = Evk 136 (d + 1) 108 8 ls st (Ev d 136 0 [some (vR a), some (vO o0), none] [] h) := RcallO (idx := 236) (n := 1) (kd := 0) (As' := [vO o0]) hB_108 dX6_complete_8 rfl rfl (by decide) rfl rfl (Or.inl hS) rfl hc
theorem v108_11 {d : Nat} {st : List MV} {h : Hp} {x : Int32} {a0 a1 a2 a3 : Option MV} : Ev d 108 11 [a0, a1, a2, a3] (vI x :: st) h = Ev d 108 12 [a0, a1, a2, some (vI x)] st h := Rnx (hB_108) (dX6_complete_11) rfl
theorem v108_12 {d : Nat} {st : List MV} {h : Hp} {x : Option A3} {a1 a2 a3 : Option MV} : Ev d 108 12 [some (vO x), a1, a2, a3] st h = Ev d 108 13 [some (vO x), a1, a2, a3] (vO x :: st) h := Rnx (hB_108) (dX6_complete_12) rfl
set_option maxRecDepth 100000 in
theorem v108_13 {d : Nat} {ls : LS3} {st : List MV} {h : Hp} {a : A3} (hS : gS h a = (1, 6)) : Ev d 108 13 ls (vR a :: st) h = Ev d 108 16 ls (vO (gR h a 2) :: st) h := Rget hB_108 dX6_complete_13 rfl (Or.inl hS)
theorem v108_16 {d : Nat} {st : List MV} {h : Hp} {x : Option A3} {a1 a2 a3 : Option MV} : Ev d 108 16 [some (vO x), a1, a2, a3] st h = Ev d 108 17 [some (vO x), a1, a2, a3] (vO x :: st) h := Rnx (hB_108) (dX6_complete_16) rfl
set_option maxRecDepth 100000 in
theorem v108_17 {d : Nat} {ls : LS3} {st : List MV} {h : Hp} {a : A3} (hS : gS h a = (1, 6)) : Ev d 108 17 ls (vR a :: st) h = Ev d 108 20 ls (vO (gR h a 0) :: st) h := Rget hB_108 dX6_complete_17 rfl (Or.inl hS)
set_option maxRecDepth 100000 in
theorem v108_20 {d : Nat} {ls : LS3} {st : List MV} {h : Hp} {a : A3} {o0 : Option A3} (hS : gS h a = (1, 1)) (hc : catS st ≤ 8) : Ev (d + 1) 108 20 ls (vO o0 :: vR a :: st) h = Evk 6 (d + 1) 108 20 ls st (Ev d 6 0 [some (vR a), some (vO o0)] [] h) := RcallO (idx := 72) (n := 1) (kd := 0) (As' := [vO o0]) hB_108 dX6_complete_20 rfl rfl (by decide) rfl rfl (Or.inl hS) rfl hc
theorem v108_23 {d : Nat} {st : List MV} {h : Hp} {x : Option A3} {a0 a1 a3 : Option MV} : Ev d 108 23 [a0, a1, some (vO x), a3] st h = Ev d 108 24 [a0, a1, some (vO x), a3] (vO x :: st) h := Rnx (hB_108) (dX6_complete_23) rfl
theorem v108_24 {d : Nat} {ls : LS3} {st : List MV} {h : Hp} {v : MV} (hv : cat1 v = true) : Ev d 108 24 ls (v :: st) h = Ev d 108 25 ls (v :: v :: st) h := Rdup hB_108 dX6_complete_24 hv
set_option maxRecDepth 100000 in
theorem v108_25 {d : Nat} {ls : LS3} {st : List MV} {h : Hp} {a : A3} (hS : gS h a = (1, 5)) : Ev d 108 25 ls (vR a :: st) h = Ev d 108 28 ls (vI (gI h a 6) :: st) h := Rget hB_108 dX6_complete_25 rfl (Or.inl hS)
theorem v108_28 {d : Nat} {st : List MV} {h : Hp} {x : Int32} {a0 a1 a2 : Option MV} : Ev d 108 28 [a0, a1, a2, some (vI x)] st h = Ev d 108 29 [a0, a1, a2, some (vI x)] (vI x :: st) h := Rnx (hB_108) (dX6_complete_28) rfl
theorem v108_29 {d : Nat} {ls : LS3} {st : List MV} {h : Hp} {x y : Int32} : Ev d 108 29 ls (vI y :: vI x :: st) h = Ev d 108 30 ls (vI (x ||| y) :: st) h := Rnx (hB_108) (dX6_complete_29) rfl
set_option maxRecDepth 100000 in
theorem v108_30 {d : Nat} {ls : LS3} {st : List MV} {h : Hp} {a : A3} {x : Int32} (hS : gS h a = (1, 5)) : Ev d 108 30 ls (vI x :: vR a :: st) h = Ev d 108 33 ls st (sI h a 6 x) := RputI hB_108 dX6_complete_30 rfl rfl (by decide) hS (Or.inl rfl)
theorem v108_33 {d : Nat} {st : List MV} {h : Hp} {x : Int32} {a0 a1 a2 : Option MV} : Ev d 108 33 [a0, a1, a2, some (vI x)] st h = Ev d 108 34 [a0, a1, a2, some (vI x)] (vI x :: st) h := Rnx (hB_108) (dX6_complete_33) rfl
set_option maxRecDepth 100000 in
theorem v108_34 {d : Nat} {ls : LS3} {st : List MV} {h : Hp} {x0 : Int32} (hc : catS st ≤ 8) : Ev (d + 1) 108 34 ls (vI x0 :: st) h = Evk 234 (d + 1) 108 34 ls st (Ev d 234 0 [some (vI x0)] [] h) := RcallS (idx := 239) (n := 1) (kd := 1) (As := [vI x0]) hB_108 dX6_complete_34 rfl rfl (by decide) rfl rfl rfl hc
theorem v108_37 {d : Nat} {ls : LS3} {h : Hp} {x : Int32} : Ev d 108 37 ls [vI x] h = some (.inl (some (vI x)), h) := Rdn hB_108 dX6_complete_37 rfl
theorem hB_109 : mB 109 = cX6_reason := rfl
theorem v109_0 {d : Nat} {st : List MV} {h : Hp} {x : Option A3} : Ev d 109 0 [some (vO x)] st h = Ev d 109 1 [some (vO x)] (vO x :: st) h := Rnx (hB_109) (dX6_reason_0) rfl
set_option maxRecDepth 100000 in
theorem v109_1 {d : Nat} {ls : LS3} {st : List MV} {h : Hp} {a : A3} (hS : gS h a = (1, 6)) : Ev d 109 1 ls (vR a :: st) h = Ev d 109 4 ls (vI (gI h a 6) :: st) h := Rget hB_109 dX6_reason_1 rfl (Or.inl hS)
theorem v109_4 {d : Nat} {ls : LS3} {st : List MV} {h : Hp} : Ev d 109 4 ls st h = Ev d 109 5 ls (vI (-1) :: st) h := Rnx (hB_109) (dX6_reason_4) rfl
theorem v109_5 {d : Nat} {ls : LS3} {st : List MV} {h : Hp} {x y : Int32} : Ev d 109 5 ls (vI y :: vI x :: st) h = if x = y then Ev d 109 8 ls st h else Ev d 109 18 ls st h := Rifn hB_109 dX6_reason_5 rfl
set_option maxRecDepth 100000 in
theorem v109_8 {d : Nat} {ls : LS3} {st : List MV} {h : Hp} (hc : catS st ≤ 8) : Ev d 109 8 ls st h = some (.inr 3, gb h) := Rthr hB_109 dX6_reason_8 rfl rfl rfl hc
theorem v109_11 {d : Nat} {ls : LS3} {st : List MV} {h : Hp} {v : MV} (hv : cat1 v = true) : Ev d 109 11 ls (v :: st) h = Ev d 109 12 ls (v :: v :: st) h := Rdup hB_109 dX6_reason_11 hv
theorem v109_18 {d : Nat} {st : List MV} {h : Hp} {x : Option A3} : Ev d 109 18 [some (vO x)] st h = Ev d 109 19 [some (vO x)] (vO x :: st) h := Rnx (hB_109) (dX6_reason_18) rfl
set_option maxRecDepth 100000 in
theorem v109_19 {d : Nat} {ls : LS3} {st : List MV} {h : Hp} {a : A3} (hS : gS h a = (1, 6)) : Ev d 109 19 ls (vR a :: st) h = Ev d 109 22 ls (vI (gI h a 6) :: st) h := Rget hB_109 dX6_reason_19 rfl (Or.inl hS)
theorem v109_22 {d : Nat} {ls : LS3} {h : Hp} {x : Int32} : Ev d 109 22 ls [vI x] h = some (.inl (some (vI x)), h) := Rdn hB_109 dX6_reason_22 rfl
theorem hB_110 : mB 110 = cX6_place := rfl
theorem v110_0 {d : Nat} {st : List MV} {h : Hp} {x : Option A3} {a1 a2 a3 a4 a5 : Option MV} : Ev d 110 0 [some (vO x), a1, a2, a3, a4, a5] st h = Ev d 110 1 [some (vO x), a1, a2, a3, a4, a5] (vO x :: st) h := Rnx (hB_110) (dX6_place_0) rfl
theorem v110_1 {d : Nat} {st : List MV} {h : Hp} {x : Int32} {a0 a2 a3 a4 a5 : Option MV} : Ev d 110 1 [a0, some (vI x), a2, a3, a4, a5] st h = Ev d 110 2 [a0, some (vI x), a2, a3, a4, a5] (vI x :: st) h := Rnx (hB_110) (dX6_place_1) rfl
set_option maxRecDepth 100000 in
theorem v110_2 {d : Nat} {ls : LS3} {st : List MV} {h : Hp} {a : A3} {x0 : Int32} (hS : gS h a = (1, 6)) (hc : catS st ≤ 8) : Ev (d + 1) 110 2 ls (vI x0 :: vR a :: st) h = Evk 131 (d + 1) 110 2 ls st (Ev d 131 0 [some (vR a), some (vI x0)] [] h) := RcallO (idx := 157) (n := 1) (kd := 0) (As' := [vI x0]) hB_110 dX6_place_2 rfl rfl (by decide) rfl rfl (Or.inl hS) rfl hc
theorem v110_5 {d : Nat} {st : List MV} {h : Hp} {x : Option A3} {a0 a1 a2 a3 a4 a5 : Option MV} : Ev d 110 5 [a0, a1, a2, a3, a4, a5] (vO x :: st) h = Ev d 110 7 [a0, a1, a2, a3, a4, some (vO x)] st h := Rnx (hB_110) (dX6_place_5) rfl
theorem v110_7 {d : Nat} {st : List MV} {h : Hp} {x : Int32} {a0 a1 a3 a4 a5 : Option MV} : Ev d 110 7 [a0, a1, some (vI x), a3, a4, a5] st h = Ev d 110 8 [a0, a1, some (vI x), a3, a4, a5] (vI x :: st) h := Rnx (hB_110) (dX6_place_7) rfl
set_option maxRecDepth 100000 in
theorem v110_8 {d : Nat} {ls : LS3} {st : List MV} {h : Hp} {x0 : Int32} (hc : catS st ≤ 8) : Ev (d + 1) 110 8 ls (vI x0 :: st) h = Evk 132 (d + 1) 110 8 ls st (Ev d 132 0 [some (vI x0)] [] h) := RcallS (idx := 247) (n := 1) (kd := 1) (As := [vI x0]) hB_110 dX6_place_8 rfl rfl (by decide) rfl rfl rfl hc
theorem v110_11 {d : Nat} {st : List MV} {h : Hp} {x : Int32} {a0 a1 a2 a4 a5 : Option MV} : Ev d 110 11 [a0, a1, a2, some (vI x), a4, a5] st h = Ev d 110 12 [a0, a1, a2, some (vI x), a4, a5] (vI x :: st) h := Rnx (hB_110) (dX6_place_11) rfl
theorem v110_12 {d : Nat} {st : List MV} {h : Hp} {x : Int32} {a0 a1 a2 a3 a5 : Option MV} : Ev d 110 12 [a0, a1, a2, a3, some (vI x), a5] st h = Ev d 110 14 [a0, a1, a2, a3, some (vI x), a5] (vI x :: st) h := Rnx (hB_110) (dX6_place_12) rfl
theorem v110_14 {d : Nat} {ls : LS3} {st : List MV} {h : Hp} : Ev d 110 14 ls st h = Ev d 110 16 ls (vI 6 :: st) h := Rnx (hB_110) (dX6_place_14) rfl
set_option maxRecDepth 100000 in
theorem v110_16 {d : Nat} {ls : LS3} {st : List MV} {h : Hp} {x0 : Int32} {x1 : Int32} {x2 : Int32} (hc : catS st ≤ 8) : Ev (d + 1) 110 16 ls (vI x2 :: vI x1 :: vI x0 :: st) h = Evk 133 (d + 1) 110 16 ls st (Ev d 133 0 [some (vI x0), some (vI x1), some (vI x2)] [] h) := RcallS (idx := 99) (n := 3) (kd := 1) (As := [vI x0, vI x1, vI x2]) hB_110 dX6_place_16 rfl rfl (by decide) rfl rfl rfl hc
theorem v110_19 {d : Nat} {st : List MV} {h : Hp} {x : Option A3} {a1 a2 a3 a4 a5 : Option MV} : Ev d 110 19 [some (vO x), a1, a2, a3, a4, a5] st h = Ev d 110 20 [some (vO x), a1, a2, a3, a4, a5] (vO x :: st) h := Rnx (hB_110) (dX6_place_19) rfl
theorem v110_20 {d : Nat} {st : List MV} {h : Hp} {x : Option A3} {a1 a2 a3 a4 a5 : Option MV} : Ev d 110 20 [some (vO x), a1, a2, a3, a4, a5] st h = Ev d 110 21 [some (vO x), a1, a2, a3, a4, a5] (vO x :: st) h := Rnx (hB_110) (dX6_place_20) rfl
set_option maxRecDepth 100000 in
theorem v110_21 {d : Nat} {ls : LS3} {st : List MV} {h : Hp} {a : A3} (hS : gS h a = (1, 6)) : Ev d 110 21 ls (vR a :: st) h = Ev d 110 24 ls (vO (gR h a 0) :: st) h := Rget hB_110 dX6_place_21 rfl (Or.inl hS)
theorem v110_24 {d : Nat} {st : List MV} {h : Hp} {x : Option A3} {a0 a1 a2 a3 a4 : Option MV} : Ev d 110 24 [a0, a1, a2, a3, a4, some (vO x)] st h = Ev d 110 26 [a0, a1, a2, a3, a4, some (vO x)] (vO x :: st) h := Rnx (hB_110) (dX6_place_24) rfl
theorem v110_26 {d : Nat} {st : List MV} {h : Hp} {x : Int32} {a0 a1 a3 a4 a5 : Option MV} : Ev d 110 26 [a0, a1, some (vI x), a3, a4, a5] st h = Ev d 110 27 [a0, a1, some (vI x), a3, a4, a5] (vI x :: st) h := Rnx (hB_110) (dX6_place_26) rfl
theorem v110_27 {d : Nat} {st : List MV} {h : Hp} {x : Int32} {a0 a1 a2 a4 a5 : Option MV} : Ev d 110 27 [a0, a1, a2, some (vI x), a4, a5] st h = Ev d 110 28 [a0, a1, a2, some (vI x), a4, a5] (vI x :: st) h := Rnx (hB_110) (dX6_place_27) rfl
theorem v110_28 {d : Nat} {st : List MV} {h : Hp} {x : Int32} {a0 a1 a2 a3 a5 : Option MV} : Ev d 110 28 [a0, a1, a2, a3, some (vI x), a5] st h = Ev d 110 30 [a0, a1, a2, a3, some (vI x), a5] (vI x :: st) h := Rnx (hB_110) (dX6_place_28) rfl
set_option maxRecDepth 100000 in
theorem v110_30 {d : Nat} {ls : LS3} {st : List MV} {h : Hp} {a : A3} {o0 : Option A3} {x1 : Int32} {x2 : Int32} {x3 : Int32} (hS : gS h a = (1, 4)) (hc : catS st ≤ 8) : Ev (d + 1) 110 30 ls (vI x3 :: vI x2 :: vI x1 :: vO o0 :: vR a :: st) h = Evk 49 (d + 1) 110 30 ls st (Ev d 49 0 [some (vR a), some (vO o0), some (vI x1), some (vI x2), some (vI x3)] [] h) := RcallO (idx := 250) (n := 4) (kd := 0) (As' := [vO o0, vI x1, vI x2, vI x3]) hB_110 dX6_place_30 rfl rfl (by decide) rfl rfl (Or.inl hS) rfl hc
set_option maxRecDepth 100000 in
theorem v110_33 {d : Nat} {ls : LS3} {st : List MV} {h : Hp} {a : A3} {x0 : Int32} (hS : gS h a = (1, 6)) (hc : catS st ≤ 8) : Ev (d + 1) 110 33 ls (vI x0 :: vR a :: st) h = Evk 135 (d + 1) 110 33 ls st (Ev d 135 0 [some (vR a), some (vI x0)] [] h) := RcallO (idx := 202) (n := 1) (kd := 0) (As' := [vI x0]) hB_110 dX6_place_33 rfl rfl (by decide) rfl rfl (Or.inl hS) rfl hc
theorem v110_36 {d : Nat} {st : List MV} {h : Hp} {x : Option A3} {a1 a2 a3 a4 a5 : Option MV} : Ev d 110 36 [some (vO x), a1, a2, a3, a4, a5] st h = Ev d 110 37 [some (vO x), a1, a2, a3, a4, a5] (vO x :: st) h := Rnx (hB_110) (dX6_place_36) rfl
set_option maxRecDepth 100000 in
theorem v110_37 {d : Nat} {ls : LS3} {st : List MV} {h : Hp} {a : A3} (hS : gS h a = (1, 6)) : Ev d 110 37 ls (vR a :: st) h = Ev d 110 40 ls (vO (gR h a 2) :: st) h := Rget hB_110 dX6_place_37 rfl (Or.inl hS)
theorem v110_40 {d : Nat} {st : List MV} {h : Hp} {x : Option A3} {a1 a2 a3 a4 a5 : Option MV} : Ev d 110 40 [some (vO x), a1, a2, a3, a4, a5] st h = Ev d 110 41 [some (vO x), a1, a2, a3, a4, a5] (vO x :: st) h := Rnx (hB_110) (dX6_place_40) rfl
set_option maxRecDepth 100000 in
theorem v110_41 {d : Nat} {ls : LS3} {st : List MV} {h : Hp} {a : A3} (hS : gS h a = (1, 6)) : Ev d 110 41 ls (vR a :: st) h = Ev d 110 44 ls (vO (gR h a 0) :: st) h := Rget hB_110 dX6_place_41 rfl (Or.inl hS)
set_option maxRecDepth 100000 in
theorem v110_44 {d : Nat} {ls : LS3} {st : List MV} {h : Hp} {a : A3} {o0 : Option A3} (hS : gS h a = (1, 1)) (hc : catS st ≤ 8) : Ev (d + 1) 110 44 ls (vO o0 :: vR a :: st) h = Evk 6 (d + 1) 110 44 ls st (Ev d 6 0 [some (vR a), some (vO o0)] [] h) := RcallO (idx := 72) (n := 1) (kd := 0) (As' := [vO o0]) hB_110 dX6_place_44 rfl rfl (by decide) rfl rfl (Or.inl hS) rfl hc
theorem v110_47 {d : Nat} {st : List MV} {h : Hp} {x : Option A3} {a0 a1 a2 a3 a4 : Option MV} : Ev d 110 47 [a0, a1, a2, a3, a4, some (vO x)] st h = Ev d 110 49 [a0, a1, a2, a3, a4, some (vO x)] (vO x :: st) h := Rnx (hB_110) (dX6_place_47) rfl
theorem v110_49 {d : Nat} {st : List MV} {h : Hp} {x : Int32} {a0 a1 a3 a4 a5 : Option MV} : Ev d 110 49 [a0, a1, some (vI x), a3, a4, a5] st h = Ev d 110 50 [a0, a1, some (vI x), a3, a4, a5] (vI x :: st) h := Rnx (hB_110) (dX6_place_49) rfl
theorem v110_50 {d : Nat} {st : List MV} {h : Hp} {x : Int32} {a0 a1 a2 a4 a5 : Option MV} : Ev d 110 50 [a0, a1, a2, some (vI x), a4, a5] st h = Ev d 110 51 [a0, a1, a2, some (vI x), a4, a5] (vI x :: st) h := Rnx (hB_110) (dX6_place_50) rfl
theorem v110_51 {d : Nat} {st : List MV} {h : Hp} {x : Int32} {a0 a1 a2 a3 a5 : Option MV} : Ev d 110 51 [a0, a1, a2, a3, some (vI x), a5] st h = Ev d 110 53 [a0, a1, a2, a3, some (vI x), a5] (vI x :: st) h := Rnx (hB_110) (dX6_place_51) rfl
set_option maxRecDepth 100000 in
theorem v110_53 {d : Nat} {ls : LS3} {st : List MV} {h : Hp} {a : A3} {x0 : Int32} {x1 : Int32} {x2 : Int32} (hS : gS h a = (1, 5)) (hc : catS st ≤ 8) : Ev (d + 1) 110 53 ls (vI x2 :: vI x1 :: vI x0 :: vR a :: st) h = Evk 77 (d + 1) 110 53 ls st (Ev d 77 0 [some (vR a), some (vI x0), some (vI x1), some (vI x2)] [] h) := RcallO (idx := 254) (n := 3) (kd := 0) (As' := [vI x0, vI x1, vI x2]) hB_110 dX6_place_53 rfl rfl (by decide) rfl rfl (Or.inl hS) rfl hc
theorem v110_56 {d : Nat} {st : List MV} {h : Hp} {x : Option A3} {a0 a1 a2 a3 a4 : Option MV} : Ev d 110 56 [a0, a1, a2, a3, a4, some (vO x)] st h = Ev d 110 58 [a0, a1, a2, a3, a4, some (vO x)] (vO x :: st) h := Rnx (hB_110) (dX6_place_56) rfl
set_option maxRecDepth 100000 in
theorem v110_58 {d : Nat} {ls : LS3} {st : List MV} {h : Hp} {a : A3}  (hS : gS h a = (1, 5)) (hc : catS st ≤ 8) : Ev (d + 1) 110 58 ls (vR a :: st) h = Evk 88 (d + 1) 110 58 ls st (Ev d 88 0 [some (vR a)] [] h) := RcallO (idx := 257) (n := 0) (kd := 0) (As' := []) hB_110 dX6_place_58 rfl rfl (by decide) rfl rfl (Or.inl hS) rfl hc
theorem v110_61 {d : Nat} {ls : LS3} {h : Hp} {x : Int32} : Ev d 110 61 ls [vI x] h = some (.inl (some (vI x)), h) := Rdn hB_110 dX6_place_61 rfl
