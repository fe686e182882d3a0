/-! ROWS: what an instruction does to the answer of a frame -/
section Rows0
variable {i pc d : Nat} {ls : LS3} {st : List MV} {h : Hp} {c : ByteArray} {ins : Instr} {len : Nat}
theorem stp_at (hB : mB i = c) (hd : decode c pc = .ok (ins, len)) : stp i pc ls st h = exec1 i pc len ls st h ins := by
  unfold stp
  rw [hB, hd]
theorem Rnx {pc' : Nat} {ls' : LS3} {st' : List MV} {h' : Hp} (hB : mB i = c) (hd : decode c pc = .ok (ins, len)) (e : exec1 i pc len ls st h ins = some (.inl (pc', ls', st', h'))) : Ev d i pc ls st h = Ev d i pc' ls' st' h' := Ev_nx ((stp_at hB hd).trans e)
theorem Rdn {r : MO × Hp} (hB : mB i = c) (hd : decode c pc = .ok (ins, len)) (e : exec1 i pc len ls st h ins = some (.inr (.inl r))) : Ev d i pc ls st h = some r := Ev_dn ((stp_at hB hd).trans e)
theorem Rif {P : Prop} [Decidable P] {p1 p2 : Nat} {l1 l2 : LS3} {s1 s2 : List MV} {h1 h2 : Hp} (hB : mB i = c) (hd : decode c pc = .ok (ins, len)) (e : exec1 i pc len ls st h ins = if decide P = true then some (.inl (p1, l1, s1, h1)) else some (.inl (p2, l2, s2, h2))) : Ev d i pc ls st h = if P then Ev d i p1 l1 s1 h1 else Ev d i p2 l2 s2 h2 := by
  by_cases z : P
  · rw [if_pos z]
    rw [if_pos (decide_eq_true z)] at e
    exact Rnx hB hd e
  · rw [if_neg z]
    rw [if_neg (fun y => z (of_decide_eq_true y))] at e
    exact Rnx hB hd e
theorem Rifn {P : Prop} [Decidable P] {p1 p2 : Nat} {l1 l2 : LS3} {s1 s2 : List MV} {h1 h2 : Hp} (hB : mB i = c) (hd : decode c pc = .ok (ins, len)) (e : exec1 i pc len ls st h ins = if decide (¬ P) = true then some (.inl (p1, l1, s1, h1)) else some (.inl (p2, l2, s2, h2))) : Ev d i pc ls st h = if P then Ev d i p2 l2 s2 h2 else Ev d i p1 l1 s1 h1 := by
  by_cases z : P
  · rw [if_pos z]
    rw [if_neg (fun y => (of_decide_eq_true y) z)] at e
    exact Rnx hB hd e
  · rw [if_neg z]
    rw [if_pos (decide_eq_true z)] at e
    exact Rnx hB hd e
theorem xTab_out {dflt lo hi : Int} {offs : Array Int} {x : Int32} {r : List MV} (z : x.toInt < lo ∨ hi < x.toInt) : xTab pc dflt lo hi offs ls (vI x :: r) h = jmp pc dflt ls r h := if_pos z
theorem Rdiv {y x : Int32} {r : List MV} (hB : mB i = c) (hd : decode c pc = .ok (.idiv, 1)) (hy : y ≠ 0) : Ev d i pc ls (vI y :: vI x :: r) h = Ev d i (pc + 1) ls (vI (x / y) :: r) h := Rnx hB hd (by show (if y = 0 then none else nx (pc + 1) ls (vI (x / y) :: r) h) = _; rw [if_neg hy]; rfl)
theorem Rrem {y x : Int32} {r : List MV} (hB : mB i = c) (hd : decode c pc = .ok (.irem, 1)) (hy : y ≠ 0) : Ev d i pc ls (vI y :: vI x :: r) h = Ev d i (pc + 1) ls (vI (x - x / y * y) :: r) h := Rnx hB hd (by show (if y = 0 then none else nx (pc + 1) ls (vI (x - x / y * y) :: r) h) = _; rw [if_neg hy]; rfl)
theorem Rdup {v : MV} {r : List MV} (hB : mB i = c) (hd : decode c pc = .ok (.dup, 1)) (hv : cat1 v = true) : Ev d i pc ls (v :: r) h = Ev d i (pc + 1) ls (v :: v :: r) h := Rnx hB hd (by show (if cat1 v = true then nx (pc + 1) ls (v :: v :: r) h else none) = _; rw [if_pos hv]; rfl)
theorem Rdup2 {v w : MV} {r : List MV} (hB : mB i = c) (hd : decode c pc = .ok (.dup2, 1)) (hv : cat1 v = true) (hw : cat1 w = true) : Ev d i pc ls (v :: w :: r) h = Ev d i (pc + 1) ls (v :: w :: v :: w :: r) h := Rnx hB hd (by show (if cat1 v = true ∧ cat1 w = true then nx (pc + 1) ls (v :: w :: v :: w :: r) h else none) = _; rw [if_pos ⟨hv, hw⟩]; rfl)
theorem Rpop {v : MV} {r : List MV} (hB : mB i = c) (hd : decode c pc = .ok (.pop, 1)) (hv : cat1 v = true) : Ev d i pc ls (v :: r) h = Ev d i (pc + 1) ls r h := Rnx hB hd (by show (if cat1 v = true then nx (pc + 1) ls r h else none) = _; rw [if_pos hv]; rfl)
theorem Rget {idx cc k : Nat} {a : A3} {r : List MV} (hB : mB i = c) (hd : decode c pc = .ok (.getfield idx, 3)) (hf : lk2 tFld (mC i) idx = some (cc, k)) (hS : okK h a cc) : Ev d i pc ls (vR a :: r) h = Ev d i (pc + 3) ls (fval h a cc k :: r) h := Rnx hB hd (by
  show xGet i pc idx ls (vR a :: r) h = _
  unfold xGet
  rw [hf]
  show (if okK h a cc then nx (pc + 3) ls (fval h a cc k :: r) h else none) = _
  rw [if_pos hS]; rfl)
theorem RputI {idx cc k t f : Nat} {a : A3} {x : Int32} {r : List MV} (hB : mB i = c) (hd : decode c pc = .ok (.putfield idx, 3)) (hf : lk2 tFld (mC i) idx = some (cc, k)) (ht : lk2 tFty cc k = some (t, f)) (hfin : ¬ (f = 1 ∧ ¬ (mN i = true ∧ mC i = cc))) (hS : gS h a = (1, cc)) (hx : t = 0 ∨ t = 1 ∧ (x = 0 ∨ x = 1)) : Ev d i pc ls (vI x :: vR a :: r) h = Ev d i (pc + 3) ls r (sI h a k x) := Rnx hB hd (by
  show xPut i pc idx ls (vI x :: vR a :: r) h = _
  unfold xPut
  rw [hf]
  simp only
  rw [ht]
  simp only
  rw [if_neg hfin, if_pos ⟨hS, hx⟩]; rfl)
theorem RputR {idx cc k f : Nat} {a : A3} {o : Option A3} {r : List MV} (hB : mB i = c) (hd : decode c pc = .ok (.putfield idx, 3)) (hf : lk2 tFld (mC i) idx = some (cc, k)) (ht : lk2 tFty cc k = some (2, f)) (hfin : ¬ (f = 1 ∧ ¬ (mN i = true ∧ mC i = cc))) (hS : gS h a = (1, cc)) : Ev d i pc ls (vO o :: vR a :: r) h = Ev d i (pc + 3) ls r (sR h a k o) := Rnx hB hd (by
  show xPut i pc idx ls (vO o :: vR a :: r) h = _
  unfold xPut
  rw [hf]
  simp only
  rw [ht]
  simp only
  rw [if_neg hfin, if_pos ⟨hS, trivial⟩]; rfl)
theorem Rald {ks : List Nat} {f : A3 → Nat → MV} {a : A3} {j : Int32} {r : List MV} (hB : mB i = c) (hd : decode c pc = .ok (ins, 1)) (he : exec1 i pc 1 ls (vI j :: vR a :: r) h ins = xAld pc ks f ls (vI j :: vR a :: r) h) (hS : (gS h a).1 ∈ ks) (hj : inB j (gS h a).2) : Ev d i pc ls (vI j :: vR a :: r) h = Ev d i (pc + 1) ls (f a j.toNatClampNeg :: r) h := Rnx hB hd (by
  rw [he]
  show (if (gS h a).1 ∈ ks ∧ 0 ≤ j ∧ j.toNatClampNeg < (gS h a).2 then nx (pc + 1) ls (f a j.toNatClampNeg :: r) h else none) = _
  rw [if_pos ⟨hS, hj⟩]; rfl)
theorem RastI {a : A3} {j x : Int32} {r : List MV} (hB : mB i = c) (hd : decode c pc = .ok (.iastore, 1)) (hS : (gS h a).1 = 2) (hj : inB j (gS h a).2) : Ev d i pc ls (vI x :: vI j :: vR a :: r) h = Ev d i (pc + 1) ls r (sI h a j.toNatClampNeg x) := Rnx hB hd (by
  show (if (gS h a).1 = 2 ∧ 0 ≤ j ∧ j.toNatClampNeg < (gS h a).2 then nx (pc + 1) ls r (sI h a j.toNatClampNeg x) else none) = _
  rw [if_pos ⟨hS, hj⟩]; rfl)
theorem RastC {a : A3} {j x : Int32} {r : List MV} (hB : mB i = c) (hd : decode c pc = .ok (.castore, 1)) (hS : (gS h a).1 = 3) (hj : inB j (gS h a).2) : Ev d i pc ls (vI x :: vI j :: vR a :: r) h = Ev d i (pc + 1) ls r (sI h a j.toNatClampNeg (vp_nar .char x)) := Rnx hB hd (by
  show (if (gS h a).1 = 3 ∧ 0 ≤ j ∧ j.toNatClampNeg < (gS h a).2 then nx (pc + 1) ls r (sI h a j.toNatClampNeg (vp_nar .char x)) else none) = _
  rw [if_pos ⟨hS, hj⟩]; rfl)
theorem RastL {a : A3} {j : Int32} {x : Int64} {r : List MV} (hB : mB i = c) (hd : decode c pc = .ok (.lastore, 1)) (hS : (gS h a).1 = 4) (hj : inB j (gS h a).2) : Ev d i pc ls (vL x :: vI j :: vR a :: r) h = Ev d i (pc + 1) ls r (sL h a j.toNatClampNeg x) := Rnx hB hd (by
  show (if (gS h a).1 = 4 ∧ 0 ≤ j ∧ j.toNatClampNeg < (gS h a).2 then nx (pc + 1) ls r (sL h a j.toNatClampNeg x) else none) = _
  rw [if_pos ⟨hS, hj⟩]; rfl)
theorem RastD {a : A3} {j : Int32} {x : UInt64} {r : List MV} (hB : mB i = c) (hd : decode c pc = .ok (.dastore, 1)) (hS : (gS h a).1 = 5) (hj : inB j (gS h a).2) : Ev d i pc ls (vD x :: vI j :: vR a :: r) h = Ev d i (pc + 1) ls r (sD h a j.toNatClampNeg x) := Rnx hB hd (by
  show (if (gS h a).1 = 5 ∧ 0 ≤ j ∧ j.toNatClampNeg < (gS h a).2 then nx (pc + 1) ls r (sD h a j.toNatClampNeg x) else none) = _
  rw [if_pos ⟨hS, hj⟩]; rfl)
theorem RastA {a v : A3} {j : Int32} {r : List MV} (hB : mB i = c) (hd : decode c pc = .ok (.aastore, 1)) (hS : (gS h a).1 = 6 ∨ (gS h a).1 = 7 ∨ (gS h a).1 = 8) (hj : inB j (gS h a).2) (hv : gS h v = (1, elemC (gS h a).1)) : Ev d i pc ls (vR v :: vI j :: vR a :: r) h = Ev d i (pc + 1) ls r (sR h a j.toNatClampNeg (some v)) := Rnx hB hd (by
  show (if ((gS h a).1 = 6 ∨ (gS h a).1 = 7 ∨ (gS h a).1 = 8) ∧ 0 ≤ j ∧ j.toNatClampNeg < (gS h a).2 ∧ gS h v = (1, elemC (gS h a).1) then nx (pc + 1) ls r (sR h a j.toNatClampNeg (some v)) else none) = _
  rw [if_pos ⟨hS, hj.1, hj.2, hv⟩]; rfl)
theorem Rlen {a : A3} {r : List MV} (hB : mB i = c) (hd : decode c pc = .ok (.arraylength, 1)) (hS : 2 ≤ (gS h a).1 ∧ (gS h a).1 ≤ 10) : Ev d i pc ls (vR a :: r) h = Ev d i (pc + 1) ls (vI (Int32.ofNat (gS h a).2) :: r) h := Rnx hB hd (by
  show (if 2 ≤ (gS h a).1 ∧ (gS h a).1 ≤ 10 then nx (pc + 1) ls (vI (Int32.ofNat (gS h a).2) :: r) h else none) = _
  rw [if_pos hS]; rfl)
theorem RcallO {idx kd j n : Nat} {As' : List MV} {a : A3} {r : List MV} {st0 : List MV} (hB : mB i = c) (hd : decode c pc = .ok (ins, 3)) (he : exec1 i pc 3 ls st0 h ins = xCall i idx [kd] st0 h) (hk : lk2 tCall (mC i) idx = some (kd, j, n)) (hkd : kd = 0 ∨ kd = 2) (hst : st0 = As'.reverse ++ vR a :: r) (hn : As'.length = n) (hS : gS h a = (1, mC j) ∨ (kd = 0 ∧ gS h a = (11, mC j))) (hall : As'.all cat1 = true) (hcat : catS r ≤ 8) : Ev (d + 1) i pc ls st0 h = Evk j (d + 1) i pc ls r (Ev d j 0 (ent j (vR a :: As')) [] h) := by
  refine Ev_call (As := vR a :: As') (rest := r) ((stp_at hB hd).trans (he.trans ?_))
  subst hst; subst hn
  unfold xCall
  rw [hk]
  simp only
  rw [if_neg (by simp; omega), if_pos hkd]
  have e1 : (As'.reverse ++ vR a :: r).drop As'.length = vR a :: r := by rw [← List.length_reverse (as := As')]; exact List.drop_left
  have e2 : (As'.reverse ++ vR a :: r).take As'.length = As'.reverse := by rw [← List.length_reverse (as := As')]; exact List.take_left
  rw [e1, e2]
  simp only
  rw [if_pos, List.reverse_reverse]
  refine ⟨?_, ?_, by rw [List.all_reverse]; exact hall, hcat⟩
  · rcases hS with hS | hS
    · exact Or.inl hS
    · exact Or.inr hS.2
  · intro z
    rcases hS with hS | hS
    · exact hS
    · rw [hS.1] at z; cases z
theorem RcallS {idx kd j n : Nat} {As : List MV} {r : List MV} {st0 : List MV} (hB : mB i = c) (hd : decode c pc = .ok (ins, 3)) (he : exec1 i pc 3 ls st0 h ins = xCall i idx [1, 3] st0 h) (hk : lk2 tCall (mC i) idx = some (kd, j, n)) (hkd : kd = 1 ∨ kd = 3) (hst : st0 = As.reverse ++ r) (hn : As.length = n) (hall : As.all cat1 = true) (hcat : catS r ≤ 8) : Ev (d + 1) i pc ls st0 h = Evk j (d + 1) i pc ls r (Ev d j 0 (ent j As) [] h) := by
  refine Ev_call (As := As) (rest := r) ((stp_at hB hd).trans (he.trans ?_))
  subst hst; subst hn
  unfold xCall
  rw [hk]
  simp only
  rw [if_neg (by simp; exact ⟨hkd, by omega⟩), if_neg (by omega)]
  have e1 : (As.reverse ++ r).drop As.length = r := by rw [← List.length_reverse (as := As)]; exact List.drop_left
  have e2 : (As.reverse ++ r).take As.length = As.reverse := by rw [← List.length_reverse (as := As)]; exact List.take_left
  rw [e1, e2, if_pos ⟨by rw [List.all_reverse]; exact hall, hcat⟩, List.reverse_reverse]
theorem Rthr {idx e : Nat} (hB : mB i = c) (hd : decode c pc = .ok (.new idx, 3)) (hn : lk2 tNew (mC i) idx = none) (ht : isThr i pc = some e) (hC : mC i = 6) (hcat : catS st ≤ 8) : Ev d i pc ls st h = some (.inr e, gb h) := Rdn hB hd (by
  show xNew i pc idx ls st h = _
  unfold xNew
  rw [hn]
  simp only
  rw [ht]
  simp only
  rw [if_pos ⟨hC, hcat⟩]; rfl)
theorem RacR {x y : A3} {off : Int} {t : Nat} {r : List MV} (hB : mB i = c) (hd : decode c pc = .ok (.if_acmp .eq off, 3)) (ht : (pc : Int) + off = Int.ofNat t) (hx : (gS h x).1 = 1) (hy : (gS h y).1 = 1) : Ev d i pc ls (vR y :: vR x :: r) h = if x = y then Ev d i t ls r h else Ev d i (pc + 3) ls r h := by
  have e : exec1 i pc 3 ls (vR y :: vR x :: r) h (.if_acmp .eq off) = if x = y then nx t ls r h else nx (pc + 3) ls r h := by
    show (if (gS h x).1 = 1 ∧ (gS h y).1 = 1 then (match (pc : Int) + off with
          | .ofNat t => if x = y then nx t ls r h else nx (pc + 3) ls r h
          | .negSucc _ => none) else none) = _
    rw [if_pos ⟨hx, hy⟩, ht]
  by_cases z : x = y
  · rw [if_pos z] at e ⊢; exact Rnx hB hd e
  · rw [if_neg z] at e ⊢; exact Rnx hB hd e
theorem RacN {x : A3} {off : Int} {t : Nat} {r : List MV} (hB : mB i = c) (hd : decode c pc = .ok (.if_acmp .eq off, 3)) (ht : (pc : Int) + off = Int.ofNat t) (hx : (gS h x).1 = 1) : Ev d i pc ls (vO none :: vR x :: r) h = Ev d i (pc + 3) ls r h := Rnx hB hd (by
  show (if (gS h x).1 = 1 then (match (pc : Int) + off with
          | .ofNat _ => nx (pc + 3) ls r h
          | .negSucc _ => none) else none) = _
  rw [if_pos hx, ht]; rfl)
theorem RretB {x : Int32} (hB : mB i = c) (hd : decode c pc = .ok (.ireturn, 1)) (hR : mR i = some .boolean) (hx : x = 0 ∨ x = 1) : Ev d i pc ls [vI x] h = some (.inl (some (vI x)), h) := Rdn hB hd (by
  show xRet i [vI x] h = _
  unfold xRet
  rw [hR]
  show (if x = 0 ∨ x = 1 then dn (.inl (some (vI x))) h else none) = _
  rw [if_pos hx]; rfl)
theorem RretC {x : Int32} (hB : mB i = c) (hd : decode c pc = .ok (.ireturn, 1)) (hR : mR i = some .char) (hx : vp_nar .char x = x) : Ev d i pc ls [vI x] h = some (.inl (some (vI x)), h) := Rdn hB hd (by
  show xRet i [vI x] h = _
  unfold xRet
  rw [hR]
  show (if vp_nar .char x = x then dn (.inl (some (vI x))) h else none) = _
  rw [if_pos hx]; rfl)
theorem RretY {x : Int32} (hB : mB i = c) (hd : decode c pc = .ok (.ireturn, 1)) (hR : mR i = some .byte) (hx : x = 0) : Ev d i pc ls [vI x] h = some (.inl (some (vI x)), h) := Rdn hB hd (by
  show xRet i [vI x] h = _
  unfold xRet
  rw [hR]
  show (if x = 0 then dn (.inl (some (vI x))) h else none) = _
  rw [if_pos hx]; rfl)
def Fresh (h : Hp) : Prop := cu h = cnt h ∧ cnt h < 393 ∧ gS h (nm (cnt h)) = (0, 0)
theorem Rnew {idx cc : Nat} (hB : mB i = c) (hd : decode c pc = .ok (.new idx, 3)) (hn : lk2 tNew (mC i) idx = some cc) (hF : Fresh h) : Ev d i pc ls st h = Ev d i (pc + 3) ls (vR (nm (cnt h)) :: st) (mk h (nm (cnt h)) (1, cc) (tNF.getD cc 0)) := Rnx hB hd (by
  show xNew i pc idx ls st h = _
  unfold xNew
  rw [hn]
  simp only
  rw [if_pos (show cu h = cnt h ∧ cnt h < 393 ∧ gS h (nm (cnt h)) = (0, 0) from hF)]; rfl)
theorem Rnewa {ln k : Nat} {n : Int32} {r : List MV} (hB : mB i = c) (hd : decode c pc = .ok (ins, ln)) (he : exec1 i pc ln ls (vI n :: r) h ins = xNewA pc ln k ls (vI n :: r) h) (hn : 0 ≤ n ∧ n.toNatClampNeg ≤ 100000) (hF : Fresh h) : Ev d i pc ls (vI n :: r) h = Ev d i (pc + ln) ls (vR (nm (cnt h)) :: r) (mk h (nm (cnt h)) (k, n.toNatClampNeg) n.toNatClampNeg) := Rnx hB hd (by
  rw [he]
  unfold xNewA
  simp only
  rw [if_pos ⟨hn.1, hn.2, hF.1, hF.2.1, hF.2.2⟩]; rfl)
theorem Robj {idx : Nat} {a : A3} {r : List MV} (hB : mB i = c) (hd : decode c pc = .ok (.invokespecial idx, 3)) (he : exec1 i pc 3 ls (vR a :: r) h (.invokespecial idx) = if true = true ∧ catS r ≤ 8 then nx (pc + 3) ls r h else none) (hc : catS r ≤ 8) : Ev d i pc ls (vR a :: r) h = Ev d i (pc + 3) ls r h := Rnx hB hd (by rw [he, if_pos ⟨rfl, hc⟩]; rfl)
theorem Rmax {idx : Nat} {x y : Int32} {r : List MV} (hB : mB i = c) (hd : decode c pc = .ok (.invokestatic idx, 3)) (he : exec1 i pc 3 ls (vI y :: vI x :: r) h (.invokestatic idx) = if false = false ∧ catS r ≤ 8 then nx (pc + 3) ls (vI (if x < y then y else x) :: r) h else none) (hc : catS r ≤ 8) : Ev d i pc ls (vI y :: vI x :: r) h = Ev d i (pc + 3) ls (vI (if x < y then y else x) :: r) h := Rnx hB hd (by rw [he, if_pos ⟨rfl, hc⟩]; rfl)
theorem Rmin {idx : Nat} {x y : Int32} {r : List MV} (hB : mB i = c) (hd : decode c pc = .ok (.invokestatic idx, 3)) (he : exec1 i pc 3 ls (vI y :: vI x :: r) h (.invokestatic idx) = if false = false ∧ catS r ≤ 8 then nx (pc + 3) ls (vI (if y < x then y else x) :: r) h else none) (hc : catS r ≤ 8) : Ev d i pc ls (vI y :: vI x :: r) h = Ev d i (pc + 3) ls (vI (if y < x then y else x) :: r) h := Rnx hB hd (by rw [he, if_pos ⟨rfl, hc⟩]; rfl)
theorem Rcpy {idx : Nat} {a b : A3} {sp dp n : Int32} {r : List MV} (hB : mB i = c) (hd : decode c pc = .ok (.invokestatic idx, 3)) (he : exec1 i pc 3 ls (vI n :: vI dp :: vR b :: vI sp :: vR a :: r) h (.invokestatic idx) = if false = false ∧ catS r ≤ 8 ∧ a ≠ b ∧ 0 ≤ n ∧ 0 ≤ dp ∧ 0 ≤ sp ∧ sp.toNatClampNeg + n.toNatClampNeg ≤ (gS h a).2 ∧ dp.toNatClampNeg + n.toNatClampNeg ≤ (gS h b).2 then
        if (gS h a).1 = 2 ∧ (gS h b).1 = 2 then nx (pc + 3) ls r (cpI h a sp.toNatClampNeg b dp.toNatClampNeg n.toNatClampNeg)
        else if (gS h a).1 = 4 ∧ (gS h b).1 = 4 then nx (pc + 3) ls r (cpL h a sp.toNatClampNeg b dp.toNatClampNeg n.toNatClampNeg)
        else none
      else none) (hc : catS r ≤ 8) (hab : a ≠ b) (hn : 0 ≤ n) (hdp : 0 ≤ dp) (hsp : 0 ≤ sp) (h1 : sp.toNatClampNeg + n.toNatClampNeg ≤ (gS h a).2) (h2 : dp.toNatClampNeg + n.toNatClampNeg ≤ (gS h b).2) (hk : ((gS h a).1 = 2 ∧ (gS h b).1 = 2) ∨ ((gS h a).1 = 4 ∧ (gS h b).1 = 4)) :
    Ev d i pc ls (vI n :: vI dp :: vR b :: vI sp :: vR a :: r) h = Ev d i (pc + 3) ls r (if (gS h a).1 = 2 then cpI h a sp.toNatClampNeg b dp.toNatClampNeg n.toNatClampNeg else cpL h a sp.toNatClampNeg b dp.toNatClampNeg n.toNatClampNeg) := Rnx hB hd (by
  rw [he, if_pos ⟨rfl, hc, hab, hn, hdp, hsp, h1, h2⟩]
  rcases hk with hk | hk
  · rw [if_pos hk, if_pos hk.1]; rfl
  · rw [if_neg (fun z => by rw [hk.1] at z; exact absurd z.1 (by decide)), if_pos hk, if_neg (by rw [hk.1]; decide)]; rfl)
end Rows0
