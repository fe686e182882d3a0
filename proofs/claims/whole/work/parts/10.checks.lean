/-! THE TABLES ARE TRUE: each link of the mini machine is a word of the launch's -/
def TW : Nat → u_T := fun c => match c with
  | 0 => TX0
  | 1 => TX1
  | 2 => TX2
  | 3 => TX3
  | 4 => TX4
  | 5 => TX5
  | 6 => TX6
  | 7 => TX7
  | _ => TJ0
def tyW : Nat → Nat → FieldType := fun c => match c with
  | 0 => tyX0
  | 1 => tyX1
  | 2 => tyX2
  | 3 => tyX3
  | 4 => tyX4
  | 5 => tyX5
  | 6 => tyX6
  | 7 => tyX7
  | _ => tyJ0
def NW (c : Nat) : Nat := tNF.getD c 2
def clsW : List vw_C := [(cN 0, TW 0, NW 0), (cN 1, TW 1, NW 1), (cN 2, TW 2, NW 2), (cN 3, TW 3, NW 3), (cN 4, TW 4, NW 4), (cN 5, TW 5, NW 5), (cN 6, TW 6, NW 6), (cN 7, TW 7, NW 7)]
theorem clsW_at {c : Nat} (h : c < 8) : clsW[c]? = some (cN c, TW c, NW c) := by
  rcases (show c = 0 ∨ c = 1 ∨ c = 2 ∨ c = 3 ∨ c = 4 ∨ c = 5 ∨ c = 6 ∨ c = 7 by omega) with rfl | rfl | rfl | rfl | rfl | rfl | rfl | rfl <;> rfl
theorem tyW_ok {c : Nat} (h : c < 8) : ∀ k, k < NW c → parseFieldDescriptor (TW c k).2.2.1 = some (tyW c k) := by
  rcases (show c = 0 ∨ c = 1 ∨ c = 2 ∨ c = 3 ∨ c = 4 ∨ c = 5 ∨ c = 6 ∨ c = 7 by omega) with rfl | rfl | rfl | rfl | rfl | rfl | rfl | rfl
  · exact tyX0_ok
  · exact tyX1_ok
  · exact tyX2_ok
  · exact tyX3_ok
  · exact tyX4_ok
  · exact tyX5_ok
  · exact tyX6_ok
  · exact tyX7_ok
theorem nmW_ok {c : Nat} (h : c < 8) : ∀ a, a < NW c → ∀ b, b < NW c → a ≠ b → (TW c a).2.1 ≠ (TW c b).2.1 := by
  rcases (show c = 0 ∨ c = 1 ∨ c = 2 ∨ c = 3 ∨ c = 4 ∨ c = 5 ∨ c = 6 ∨ c = 7 by omega) with rfl | rfl | rfl | rfl | rfl | rfl | rfl | rfl
  · exact nmX0
  · exact nmX1
  · exact nmX2
  · exact nmX3
  · exact nmX4
  · exact nmX5
  · exact nmX6
  · exact nmX7
/-- fields of the classes: kind and finality as the table has them -/
def ftyChk (q : (Nat × Nat) × Nat × Nat) : Bool := decide (q.1.2 < NW q.1.1) && (decide (q.2.2 = 1) == (TW q.1.1 q.1.2).2.2.2) && (match q.2.1 with
  | 0 => decide (tyW q.1.1 q.1.2 = .int)
  | 1 => decide (tyW q.1.1 q.1.2 = .boolean)
  | 2 => match tyW q.1.1 q.1.2 with
    | .object _ => true
    | .array _ => true
    | _ => false
  | _ => decide (q.1.1 = 10)) && (decide ((TW q.1.1 q.1.2).1 = cN q.1.1))
theorem fty_ok : tFty.all ftyChk = true := by decide +kernel
def fldChk (q : (Nat × Nat) × Nat × Nat) (i : Nat) : Bool := inT i (.fieldLink (cN q.1.1) q.1.2 (TW q.2.1 q.2.2).1 (TW q.2.1 q.2.2).2.1 (TW q.2.1 q.2.2).2.2.1) && decide (q.2.2 < NW q.2.1 ∧ (q.2.1 < 8 ∨ q.2.1 = 10))
set_option maxRecDepth 100000 in
theorem fld_ok : ((tFld.zip tFldIx).all fun q => fldChk q.1 q.2) = true := by decide +kernel
def layT : List Cond := u_ws (cN 0) (TW 0) (NW 0) ++ (u_ws (cN 1) (TW 1) (NW 1) ++ (u_ws (cN 2) (TW 2) (NW 2) ++ (u_ws (cN 3) (TW 3) (NW 3) ++ (u_ws (cN 4) (TW 4) (NW 4) ++ (u_ws (cN 5) (TW 5) (NW 5) ++ (u_ws (cN 6) (TW 6) (NW 6) ++ u_ws (cN 7) (TW 7) (NW 7)))))))
set_option maxRecDepth 100000 in
theorem lay_ok : ((layT.zip tLayIx).all fun q => inT q.2 q.1) = true := by decide +kernel
def callChk (q : (Nat × Nat) × Nat × Nat × Nat) (x : Nat × Nat × Nat × Nat) : Bool :=
  (if q.2.1 = 3 then inT x.1 (.methodLinkNest (cN q.1.1) q.1.2 (mY q.2.2.1) "CommitteePlanner") else inT x.1 (.methodLink (cN q.1.1) q.1.2 (mY q.2.2.1))) &&
  (if q.2.1 = 1 ∨ q.2.1 = 3 then inT x.2.1 (.static (mY q.2.2.1)) else inT x.2.1 (.instanceMethod (mY q.2.2.1))) &&
  (if q.2.1 = 0 then decide (lw_tbl[x.2.2.1]? = some (.selects (cN (mC q.2.2.1)) (mY q.2.2.1) (mY q.2.2.1))) else true) &&
  inT x.2.2.2 (.initialized (mY q.2.2.1).cls)
/-- a list's rows in pieces -/
theorem all_pieces {α : Type} (p : α → Bool) (n : Nat) (l : List α) (m : Nat) (hn : 0 < n) (hl : l.length ≤ n * m) (h : ∀ k, k < m → ((l.drop (n * k)).take n).all p = true) : l.all p = true := by
  refine List.all_eq_true.mpr fun a ha => ?_
  obtain ⟨i, hi, rfl⟩ := List.getElem_of_mem ha
  have hk : i / n < m := (Nat.div_lt_iff_lt_mul hn).mpr (by rw [Nat.mul_comm]; omega)
  refine List.all_eq_true.mp (h _ hk) _ ?_
  have e := Nat.div_add_mod i n
  have hr := Nat.mod_lt i hn
  refine List.mem_iff_getElem?.mpr ⟨i % n, ?_⟩
  rw [List.getElem?_take, if_pos hr, List.getElem?_drop, e]
  exact List.getElem?_eq_getElem hi
set_option maxRecDepth 100000 in
theorem call_ok0 : ((((tCall.zip tCallIx).drop (20 * 0)).take 20).all fun q => callChk q.1 q.2) = true := by decide +kernel
set_option maxRecDepth 100000 in
theorem call_ok1 : ((((tCall.zip tCallIx).drop (20 * 1)).take 20).all fun q => callChk q.1 q.2) = true := by decide +kernel
set_option maxRecDepth 100000 in
theorem call_ok2 : ((((tCall.zip tCallIx).drop (20 * 2)).take 20).all fun q => callChk q.1 q.2) = true := by decide +kernel
set_option maxRecDepth 100000 in
theorem call_ok3 : ((((tCall.zip tCallIx).drop (20 * 3)).take 20).all fun q => callChk q.1 q.2) = true := by decide +kernel
set_option maxRecDepth 100000 in
theorem call_ok4 : ((((tCall.zip tCallIx).drop (20 * 4)).take 20).all fun q => callChk q.1 q.2) = true := by decide +kernel
set_option maxRecDepth 100000 in
theorem call_ok5 : ((((tCall.zip tCallIx).drop (20 * 5)).take 20).all fun q => callChk q.1 q.2) = true := by decide +kernel
set_option maxRecDepth 100000 in
theorem call_ok6 : ((((tCall.zip tCallIx).drop (20 * 6)).take 20).all fun q => callChk q.1 q.2) = true := by decide +kernel
set_option maxRecDepth 100000 in
theorem call_ok7 : ((((tCall.zip tCallIx).drop (20 * 7)).take 20).all fun q => callChk q.1 q.2) = true := by decide +kernel
set_option maxRecDepth 100000 in
theorem call_ok8 : ((((tCall.zip tCallIx).drop (20 * 8)).take 20).all fun q => callChk q.1 q.2) = true := by decide +kernel
set_option maxRecDepth 100000 in
theorem call_ok9 : ((((tCall.zip tCallIx).drop (20 * 9)).take 20).all fun q => callChk q.1 q.2) = true := by decide +kernel
set_option maxRecDepth 100000 in
theorem call_ok10 : ((((tCall.zip tCallIx).drop (20 * 10)).take 20).all fun q => callChk q.1 q.2) = true := by decide +kernel
set_option maxRecDepth 100000 in
theorem call_ok11 : ((((tCall.zip tCallIx).drop (20 * 11)).take 20).all fun q => callChk q.1 q.2) = true := by decide +kernel
set_option maxRecDepth 100000 in
theorem call_ok12 : ((((tCall.zip tCallIx).drop (20 * 12)).take 20).all fun q => callChk q.1 q.2) = true := by decide +kernel
set_option maxRecDepth 100000 in
theorem call_ok13 : ((((tCall.zip tCallIx).drop (20 * 13)).take 20).all fun q => callChk q.1 q.2) = true := by decide +kernel
set_option maxRecDepth 100000 in
theorem call_ok14 : ((((tCall.zip tCallIx).drop (20 * 14)).take 20).all fun q => callChk q.1 q.2) = true := by decide +kernel
set_option maxRecDepth 100000 in
theorem call_ok15 : ((((tCall.zip tCallIx).drop (20 * 15)).take 20).all fun q => callChk q.1 q.2) = true := by decide +kernel
set_option maxRecDepth 100000 in
theorem call_ok16 : ((((tCall.zip tCallIx).drop (20 * 16)).take 20).all fun q => callChk q.1 q.2) = true := by decide +kernel
theorem call_ok : ((tCall.zip tCallIx).all fun q => callChk q.1 q.2) = true := by
  refine all_pieces _ 20 _ 17 (by decide) (by decide +kernel) fun k hk => ?_
  rcases (show k = 0 ∨ k = 1 ∨ k = 2 ∨ k = 3 ∨ k = 4 ∨ k = 5 ∨ k = 6 ∨ k = 7 ∨ k = 8 ∨ k = 9 ∨ k = 10 ∨ k = 11 ∨ k = 12 ∨ k = 13 ∨ k = 14 ∨ k = 15 ∨ k = 16 by omega) with rfl | rfl | rfl | rfl | rfl | rfl | rfl | rfl | rfl | rfl | rfl | rfl | rfl | rfl | rfl | rfl | rfl
  · exact call_ok0
  · exact call_ok1
  · exact call_ok2
  · exact call_ok3
  · exact call_ok4
  · exact call_ok5
  · exact call_ok6
  · exact call_ok7
  · exact call_ok8
  · exact call_ok9
  · exact call_ok10
  · exact call_ok11
  · exact call_ok12
  · exact call_ok13
  · exact call_ok14
  · exact call_ok15
  · exact call_ok16
/-- a method's own facts -/
def mthChk (j : Nat) : Bool := decide ((mY j).cls = cN (mC j) ∧ (mY j).cls ≠ "java/lang/invoke/MethodHandle" ∧ (mY j).cls ≠ "java/lang/invoke/VarHandle" ∧ plainName (mY j).cls = true ∧ mL j ≤ 21 ∧ (mN j = true → (mY j).name = "<init>" ∧ mR j = none))
set_option maxRecDepth 100000 in
theorem mth_ok0 : ((((List.range 278).drop (40 * 0)).take 40).all mthChk) = true := by decide +kernel
set_option maxRecDepth 100000 in
theorem mth_ok1 : ((((List.range 278).drop (40 * 1)).take 40).all mthChk) = true := by decide +kernel
set_option maxRecDepth 100000 in
theorem mth_ok2 : ((((List.range 278).drop (40 * 2)).take 40).all mthChk) = true := by decide +kernel
set_option maxRecDepth 100000 in
theorem mth_ok3 : ((((List.range 278).drop (40 * 3)).take 40).all mthChk) = true := by decide +kernel
set_option maxRecDepth 100000 in
theorem mth_ok4 : ((((List.range 278).drop (40 * 4)).take 40).all mthChk) = true := by decide +kernel
set_option maxRecDepth 100000 in
theorem mth_ok5 : ((((List.range 278).drop (40 * 5)).take 40).all mthChk) = true := by decide +kernel
set_option maxRecDepth 100000 in
theorem mth_ok6 : ((((List.range 278).drop (40 * 6)).take 40).all mthChk) = true := by decide +kernel
theorem mth_ok : (List.range 278).all mthChk = true := by
  refine all_pieces _ 40 _ 7 (by decide) (by decide +kernel) fun k hk => ?_
  rcases (show k = 0 ∨ k = 1 ∨ k = 2 ∨ k = 3 ∨ k = 4 ∨ k = 5 ∨ k = 6 by omega) with rfl | rfl | rfl | rfl | rfl | rfl | rfl
  · exact mth_ok0
  · exact mth_ok1
  · exact mth_ok2
  · exact mth_ok3
  · exact mth_ok4
  · exact mth_ok5
  · exact mth_ok6
