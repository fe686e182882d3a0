/-! THE MINI MACHINE: cells have names (kind, number, number), every kind of value its own map; one frame steps, calls nest -/
abbrev A3 : Type := Nat × Nat × Nat
abbrev MV : Type := Int32 ⊕ (Option A3) ⊕ Int64 ⊕ UInt64
abbrev LS3 : Type := List (Option MV)
abbrev vI (x : Int32) : MV := .inl x
abbrev vO (o : Option A3) : MV := .inr (.inl o)
abbrev vR (a : A3) : MV := .inr (.inl (some a))
abbrev vL (x : Int64) : MV := .inr (.inr (.inl x))
abbrev vD (x : UInt64) : MV := .inr (.inr (.inr x))
/-- kinds and sizes of cells; ints; longs; references; doubles; cells named; cells made; slots made -/
abbrev Hp : Type := (A3 → Nat × Nat) × (A3 → Nat → Int32) × (A3 → Nat → Int64) × (A3 → Nat → Option A3) × (A3 → Nat → UInt64) × Nat × Nat × Nat
def gS (h : Hp) (a : A3) : Nat × Nat := h.1 a
def gI (h : Hp) (a : A3) (k : Nat) : Int32 := h.2.1 a k
def gL (h : Hp) (a : A3) (k : Nat) : Int64 := h.2.2.1 a k
def gR (h : Hp) (a : A3) (k : Nat) : Option A3 := h.2.2.2.1 a k
def gD (h : Hp) (a : A3) (k : Nat) : UInt64 := h.2.2.2.2.1 a k
def cnt (h : Hp) : Nat := h.2.2.2.2.2.1
def cu (h : Hp) : Nat := h.2.2.2.2.2.2.1
def su (h : Hp) : Nat := h.2.2.2.2.2.2.2
def fup {α : Type} (f : A3 → Nat → α) (a : A3) (g : Nat → α) : A3 → Nat → α := fun b => if b = a then g else f b
def sI (h : Hp) (a : A3) (k : Nat) (v : Int32) : Hp := (h.1, fup h.2.1 a (upd (h.2.1 a) k v), h.2.2)
def sL (h : Hp) (a : A3) (k : Nat) (v : Int64) : Hp := (h.1, h.2.1, fup h.2.2.1 a (vp_updL (h.2.2.1 a) k v), h.2.2.2)
def sR (h : Hp) (a : A3) (k : Nat) (v : Option A3) : Hp := (h.1, h.2.1, h.2.2.1, fup h.2.2.2.1 a (va_up (h.2.2.2.1 a) k v), h.2.2.2.2)
def sD (h : Hp) (a : A3) (k : Nat) (v : UInt64) : Hp := (h.1, h.2.1, h.2.2.1, h.2.2.2.1, fup h.2.2.2.2.1 a (vf_upd (h.2.2.2.2.1 a) k v), h.2.2.2.2.2)
/-- n ints from place sp of a copied to place dp of b -/
def cpI (h : Hp) (a : A3) (sp : Nat) (b : A3) (dp n : Nat) : Hp := (h.1, fup h.2.1 b (va_cpy (h.2.1 a) (h.2.1 b) sp dp n), h.2.2)
def cpL (h : Hp) (a : A3) (sp : Nat) (b : A3) (dp n : Nat) : Hp := (h.1, h.2.1, fup h.2.2.1 b (va_cpy (h.2.2.1 a) (h.2.2.1 b) sp dp n), h.2.2.2)
/-- a new cell under a name: all zero -/
def mk (h : Hp) (a : A3) (q : Nat × Nat) (n : Nat) : Hp := (fun b => if b = a then q else h.1 b, fup h.2.1 a (fun _ => 0), fup h.2.2.1 a (fun _ => 0), fup h.2.2.2.1 a (fun _ => none), fup h.2.2.2.2.1 a (fun _ => 0), cnt h + 1, cu h + 1, su h + n)
/-- an exception's cell -/
def gb (h : Hp) : Hp := (h.1, h.2.1, h.2.2.1, h.2.2.2.1, h.2.2.2.2.1, cnt h, cu h + 1, su h + 6)
def lk2 {α : Type} : List ((Nat × Nat) × α) → Nat → Nat → Option α
  | [], _, _ => none
  | (q, v) :: r, a, b => if q.1 = a ∧ q.2 = b then some v else lk2 r a b
def lk1 {α : Type} : List (Nat × α) → Nat → Option α
  | [], _ => none
  | (q, v) :: r, a => if q = a then some v else lk1 r a
theorem lk2_mem {α : Type} {l : List ((Nat × Nat) × α)} {a b : Nat} {v : α} (h : lk2 l a b = some v) : ((a, b), v) ∈ l := by
  induction l with
  | nil => cases h
  | cons q r ih =>
    obtain ⟨⟨q1, q2⟩, w⟩ := q
    unfold lk2 at h
    split at h
    · rename_i e
      cases h
      obtain ⟨e1, e2⟩ := e
      simp only at e1 e2
      subst e1; subst e2
      exact List.mem_cons_self
    · exact List.mem_cons_of_mem _ (ih h)
theorem lk1_mem {α : Type} {l : List (Nat × α)} {a : Nat} {v : α} (h : lk1 l a = some v) : (a, v) ∈ l := by
  induction l with
  | nil => cases h
  | cons q r ih =>
    obtain ⟨q1, w⟩ := q
    unfold lk1 at h
    split at h
    · rename_i e
      cases h
      subst e
      exact List.mem_cons_self
    · exact List.mem_cons_of_mem _ (ih h)
/-- the order in which the law's cells are made -/
def nmPlan (p r : Nat) : A3 := if r = 0 then (2, p, 0) else if r = 1 then (6, p, 0) else if r < 30 then (if r % 2 = 0 then (3, p, (r - 2) / 2) else (4, p, (r - 2) / 2)) else if r = 30 then (7, p, 0) else if r < 39 then (5, p, r - 31) else (8, p, 0)
def nm (k : Nat) : A3 := if k = 0 then (1, 0, 0) else if k < 81 then nmPlan ((k - 1) / 40) ((k - 1) % 40) else if k = 81 then (9, 0, 0) else if k = 82 then (10, 0, 0) else if k < 363 then nmPlan ((k - 83) / 40 + 2) ((k - 83) % 40) else if k = 363 then (11, 0, 0) else if k = 364 then (12, 0, 0) else if k = 365 then (13, 0, 0) else if k = 366 then (14, 0, 0) else if k = 367 then (15, 0, 0) else if k = 368 then (20, 0, 0) else if k < 391 then (21, k - 369, 0) else if k = 391 then (30, 0, 0) else (31, k - 392, 0)
abbrev MO : Type := (Option MV) ⊕ Nat
abbrev MStp : Type := (Nat × LS3 × List MV × Hp) ⊕ (MO × Hp) ⊕ (Nat × List MV × List MV)
def nx (pc : Nat) (ls : LS3) (st : List MV) (h : Hp) : Option MStp := some (.inl (pc, ls, st, h))
def dn (o : MO) (h : Hp) : Option MStp := some (.inr (.inl (o, h)))
def jmp (pc : Nat) (off : Int) (ls : LS3) (st : List MV) (h : Hp) : Option MStp := match (pc : Int) + off with
  | .ofNat t => nx t ls st h
  | .negSucc _ => none
def isR : MV → Bool
  | .inr (.inl _) => true
  | _ => false
def cat1 : MV → Bool
  | .inl _ => true
  | .inr (.inl _) => true
  | _ => false
def catS : List MV → Nat
  | [] => 0
  | v :: r => (if cat1 v = true then 1 else 2) + catS r
/-- a store of one slot: behind the one place (7, of the law) where doubles are kept nothing is stored -/
def stv (i k : Nat) (v : MV) (pc : Nat) (ls : LS3) (st : List MV) (h : Hp) : Option MStp := if k < ls.length ∧ ¬ (i = 278 ∧ k = 8) then nx pc (ls.set k (some v)) st h else none
def ldI (k pc : Nat) (ls : LS3) (st : List MV) (h : Hp) : Option MStp := match ls[k]? with
  | some (some (.inl x)) => nx pc ls (vI x :: st) h
  | _ => none
def ldA (k pc : Nat) (ls : LS3) (st : List MV) (h : Hp) : Option MStp := match ls[k]? with
  | some (some (.inr (.inl o))) => nx pc ls (vO o :: st) h
  | _ => none
def stI (i k pc : Nat) (ls : LS3) (st : List MV) (h : Hp) : Option MStp := match st with
  | .inl x :: r => stv i k (vI x) pc ls r h
  | _ => none
def stA (i k pc : Nat) (ls : LS3) (st : List MV) (h : Hp) : Option MStp := match st with
  | .inr (.inl o) :: r => stv i k (vO o) pc ls r h
  | _ => none
def fval (h : Hp) (a : A3) (c k : Nat) : MV := match lk2 tFty c k with
  | some (2, _) => vO (gR h a k)
  | _ => vI (gI h a k)
abbrev okK (h : Hp) (a : A3) (c : Nat) : Prop := gS h a = (1, c) ∨ gS h a = (11, c)
/-- a value that a field of its kind takes -/
def putOk (c k : Nat) (v : MV) : Prop := match lk2 tFty c k with
  | some (0, _) => ∃ x, v = vI x
  | some (1, _) => v = vI 0 ∨ v = vI 1
  | some (2, _) => ∃ o, v = vO o
  | _ => False
def xPut (i pc idx : Nat) (ls : LS3) (st : List MV) (h : Hp) : Option MStp := match lk2 tFld (mC i) idx with
  | none => none
  | some (c, k) => match lk2 tFty c k with
    | none => none
    | some (t, f) =>
      if f = 1 ∧ ¬ (mN i = true ∧ mC i = c) then none else
      match st with
      | .inl x :: .inr (.inl (some a)) :: r => if gS h a = (1, c) ∧ (t = 0 ∨ t = 1 ∧ (x = 0 ∨ x = 1)) then nx (pc + 3) ls r (sI h a k x) else none
      | .inr (.inl o) :: .inr (.inl (some a)) :: r => if gS h a = (1, c) ∧ t = 2 then nx (pc + 3) ls r (sR h a k o) else none
      | _ => none
def xGet (i pc idx : Nat) (ls : LS3) (st : List MV) (h : Hp) : Option MStp := match lk2 tFld (mC i) idx with
  | none => none
  | some (c, k) => match st with
    | .inr (.inl (some a)) :: r => if okK h a c then nx (pc + 3) ls (fval h a c k :: r) h else none
    | _ => none
def inB (j : Int32) (n : Nat) : Prop := 0 ≤ j ∧ j.toNatClampNeg < n
def xAld (pc : Nat) (ks : List Nat) (f : A3 → Nat → MV) (ls : LS3) (st : List MV) (h : Hp) : Option MStp := match st with
  | .inl j :: .inr (.inl (some a)) :: r => if (gS h a).1 ∈ ks ∧ 0 ≤ j ∧ j.toNatClampNeg < (gS h a).2 then nx (pc + 1) ls (f a j.toNatClampNeg :: r) h else none
  | _ => none
def elemC (k : Nat) : Nat := if k = 6 then 3 else if k = 7 then 5 else 4
def xRet (i : Nat) (st : List MV) (h : Hp) : Option MStp := match mR i, st with
  | some .int, [.inl x] => dn (.inl (some (vI x))) h
  | some .boolean, [.inl x] => if x = 0 ∨ x = 1 then dn (.inl (some (vI x))) h else none
  | some .byte, [.inl x] => if x = 0 then dn (.inl (some (vI x))) h else none
  | some .char, [.inl x] => if vp_nar .char x = x then dn (.inl (some (vI x))) h else none
  | _, _ => none
/-- a call: virtual (0; receiver of the class named), static (1), of a constructor (2), static of a nest mate (3) -/
def xCall (i idx : Nat) (kinds : List Nat) (st : List MV) (h : Hp) : Option MStp := match lk2 tCall (mC i) idx with
  | none => none
  | some (kd, j, n) =>
    if ¬ (kd ∈ kinds ∧ n < st.length + 1) then none else
    if kd = 0 ∨ kd = 2 then
      match st.drop n with
      | .inr (.inl (some a)) :: r => if okK h a (mC j) ∧ (kd = 2 → gS h a = (1, mC j)) ∧ (st.take n).all cat1 = true ∧ catS r ≤ 8 then some (.inr (.inr (j, vR a :: (st.take n).reverse, r))) else none
      | _ => none
    else if (st.take n).all cat1 = true ∧ catS (st.drop n) ≤ 8 then some (.inr (.inr (j, (st.take n).reverse, st.drop n))) else none
def ent (j : Nat) (As : List MV) : LS3 := As.map some ++ List.replicate (mL j - As.length) none
/-- 'throw new E(text)' from 'new' on: the five instructions as the compiler lays them -/
def isThr (i pc : Nat) : Option Nat := match decode (mB i) pc with
  | .ok (.new idx, 3) => match lk2 tExc (mC i) idx with
    | none => none
    | some e => match decode (mB i) (pc + 3), decode (mB i) (pc + 4) with
      | .ok (.dup, 1), .ok (.ldc s, 2) => match decode (mB i) (pc + 6), decode (mB i) (pc + 9) with
        | .ok (.invokespecial c, 3), .ok (.athrow, 1) => if (lk2 tTxt (mC i) s).isSome = true ∧ lk2 tExI (mC i) c = some e then some e else none
        | _, _ => none
      | .ok (.dup, 1), .ok (.ldc_w s, 3) => match decode (mB i) (pc + 7), decode (mB i) (pc + 10) with
        | .ok (.invokespecial c, 3), .ok (.athrow, 1) => if (lk2 tTxt (mC i) s).isSome = true ∧ lk2 tExI (mC i) c = some e then some e else none
        | _, _ => none
      | _, _ => none
  | _ => none
def xNew (i pc idx : Nat) (ls : LS3) (st : List MV) (h : Hp) : Option MStp := match lk2 tNew (mC i) idx with
  | some c => if cu h = cnt h ∧ cnt h < 393 ∧ gS h (nm (cnt h)) = (0, 0) then nx (pc + 3) ls (vR (nm (cnt h)) :: st) (mk h (nm (cnt h)) (1, c) (tNF.getD c 0)) else none
  | none => match isThr i pc with
    | some e => if mC i = 6 ∧ catS st ≤ 8 then dn (.inr e) (gb h) else none
    | none => none
def xNewA (pc ln k : Nat) (ls : LS3) (st : List MV) (h : Hp) : Option MStp := match st with
  | .inl n :: r => if 0 ≤ n ∧ n.toNatClampNeg ≤ 100000 ∧ cu h = cnt h ∧ cnt h < 393 ∧ gS h (nm (cnt h)) = (0, 0) then nx (pc + ln) ls (vR (nm (cnt h)) :: r) (mk h (nm (cnt h)) (k, n.toNatClampNeg) n.toNatClampNeg) else none
  | _ => none
def xPrim (i pc idx : Nat) (isSp : Bool) (ls : LS3) (st : List MV) (h : Hp) : Option MStp := match lk2 tPrim (mC i) idx with
  | some 0 => match st with
    | .inr (.inl (some _)) :: r => if isSp = true ∧ catS r ≤ 8 then nx (pc + 3) ls r h else none
    | _ => none
  | some 1 => match st with
    | .inl y :: .inl x :: r => if isSp = false ∧ catS r ≤ 8 then nx (pc + 3) ls (vI (if x < y then y else x) :: r) h else none
    | _ => none
  | some 2 => match st with
    | .inl y :: .inl x :: r => if isSp = false ∧ catS r ≤ 8 then nx (pc + 3) ls (vI (if y < x then y else x) :: r) h else none
    | _ => none
  | some 3 => match st with
    | .inl n :: .inl dp :: .inr (.inl (some b)) :: .inl sp :: .inr (.inl (some a)) :: r =>
      if isSp = false ∧ catS r ≤ 8 ∧ a ≠ b ∧ 0 ≤ n ∧ 0 ≤ dp ∧ 0 ≤ sp ∧ sp.toNatClampNeg + n.toNatClampNeg ≤ (gS h a).2 ∧ dp.toNatClampNeg + n.toNatClampNeg ≤ (gS h b).2 then
        if (gS h a).1 = 2 ∧ (gS h b).1 = 2 then nx (pc + 3) ls r (cpI h a sp.toNatClampNeg b dp.toNatClampNeg n.toNatClampNeg)
        else if (gS h a).1 = 4 ∧ (gS h b).1 = 4 then nx (pc + 3) ls r (cpL h a sp.toNatClampNeg b dp.toNatClampNeg n.toNatClampNeg)
        else none
      else none
    | _ => none
  | _ => none
def xTab (pc : Nat) (dflt lo hi : Int) (offs : Array Int) (ls : LS3) (st : List MV) (h : Hp) : Option MStp := match st with
  | .inl x :: r => if x.toInt < lo ∨ hi < x.toInt then jmp pc dflt ls r h else match offs[(x.toInt - lo).toNat]? with
    | some off => jmp pc off ls r h
    | none => none
  | _ => none
def bin (pc : Nat) (f : Int32 → Int32 → Int32) (ls : LS3) (st : List MV) (h : Hp) : Option MStp := match st with
  | .inl y :: .inl x :: r => nx (pc + 1) ls (vI (f x y) :: r) h
  | _ => none
def br1 (pc : Nat) (off : Int) (b : Int32 → Bool) (ls : LS3) (st : List MV) (h : Hp) : Option MStp := match st with
  | .inl x :: r => match (pc : Int) + off with
    | .ofNat t => if b x = true then nx t ls r h else nx (pc + 3) ls r h
    | .negSucc _ => none
  | _ => none
def br2 (pc : Nat) (off : Int) (b : Int32 → Int32 → Bool) (ls : LS3) (st : List MV) (h : Hp) : Option MStp := match st with
  | .inl y :: .inl x :: r => match (pc : Int) + off with
    | .ofNat t => if b x y = true then nx t ls r h else nx (pc + 3) ls r h
    | .negSucc _ => none
  | _ => none
def exec1 (i pc len : Nat) (ls : LS3) (st : List MV) (h : Hp) : Instr → Option MStp
  | .iconst n => if len = 1 then nx (pc + 1) ls (vI (Int32.ofInt n) :: st) h else none
  | .bipush n => if len = 2 then nx (pc + 2) ls (vI (Int8.ofInt n).toInt32 :: st) h else none
  | .sipush n => if len = 3 then nx (pc + 3) ls (vI (Int16.ofInt n).toInt32 :: st) h else none
  | .lconst n => if len = 1 then nx (pc + 1) ls (vL (Int64.ofNat n.val) :: st) h else none
  | .dconst n => if len = 1 ∧ n = 0 then nx (pc + 1) ls (vD FP.dconst0 :: st) h else none
  | .aconst_null => if len = 1 then nx (pc + 1) ls (vO none :: st) h else none
  | .iload_n k => if len = 1 then ldI k.val (pc + 1) ls st h else none
  | .iload k => if len = 2 then ldI k (pc + 2) ls st h else none
  | .aload_n k => if len = 1 then ldA k.val (pc + 1) ls st h else none
  | .aload k => if len = 2 then ldA k (pc + 2) ls st h else none
  | .istore_n k => if len = 1 then stI i k.val (pc + 1) ls st h else none
  | .istore k => if len = 2 then stI i k (pc + 2) ls st h else none
  | .astore_n k => if len = 1 then stA i k.val (pc + 1) ls st h else none
  | .astore k => if len = 2 then stA i k (pc + 2) ls st h else none
  | .dload k => if len = 2 then match ls[k]? with
      | some (some (.inr (.inr (.inr x)))) => nx (pc + 2) ls (vD x :: st) h
      | _ => none
    else none
  | .dstore k => if len = 2 ∧ i = 278 ∧ k = 7 ∧ ls.length = 9 then match st with
      | .inr (.inr (.inr x)) :: r => nx (pc + 2) ((ls.set 7 (some (vD x))).set 8 none) r h
      | _ => none
    else none
  | .iinc k n => if len = 3 then match ls[k]? with
      | some (some (.inl x)) => stv i k (vI (x + Int32.ofInt n)) (pc + 3) ls st h
      | _ => none
    else none
  | .iadd => if len = 1 then bin pc (fun x y => x + y) ls st h else none
  | .isub => if len = 1 then bin pc (fun x y => x - y) ls st h else none
  | .imul => if len = 1 then bin pc (fun x y => x * y) ls st h else none
  | .iand => if len = 1 then bin pc (fun x y => x &&& y) ls st h else none
  | .ior => if len = 1 then bin pc (fun x y => x ||| y) ls st h else none
  | .ixor => if len = 1 then bin pc (fun x y => x ^^^ y) ls st h else none
  | .ishl => if len = 1 then bin pc (fun x y => x <<< (y &&& 31)) ls st h else none
  | .ishr => if len = 1 then bin pc (fun x y => x >>> (y &&& 31)) ls st h else none
  | .iushr => if len = 1 then bin pc (fun x y => (x.toUInt32 >>> (y.toUInt32 &&& Int32.toUInt32 31)).toInt32) ls st h else none
  | .idiv => if len = 1 then match st with
      | .inl y :: .inl x :: r => if y = 0 then none else nx (pc + 1) ls (vI (x / y) :: r) h
      | _ => none
    else none
  | .irem => if len = 1 then match st with
      | .inl y :: .inl x :: r => if y = 0 then none else nx (pc + 1) ls (vI (x - x / y * y) :: r) h
      | _ => none
    else none
  | .i2l => if len = 1 then match st with
      | .inl x :: r => nx (pc + 1) ls (vL x.toInt64 :: r) h
      | _ => none
    else none
  | .i2d => if len = 1 then match st with
      | .inl x :: r => nx (pc + 1) ls (vD (FP.i2d x) :: r) h
      | _ => none
    else none
  | .i2c => if len = 1 then match st with
      | .inl x :: r => nx (pc + 1) ls (vI (x.toUInt32 % 65536).toInt32 :: r) h
      | _ => none
    else none
  | .l2i => if len = 1 then match st with
      | .inr (.inr (.inl x)) :: r => nx (pc + 1) ls (vI x.toInt32 :: r) h
      | _ => none
    else none
  | .lxor => if len = 1 then match st with
      | .inr (.inr (.inl y)) :: .inr (.inr (.inl x)) :: r => nx (pc + 1) ls (vL (x ^^^ y) :: r) h
      | _ => none
    else none
  | .lshl => if len = 1 then match st with
      | .inl y :: .inr (.inr (.inl x)) :: r => nx (pc + 1) ls (vL (x <<< (y.toInt64 &&& 63)) :: r) h
      | _ => none
    else none
  | .lushr => if len = 1 then match st with
      | .inl y :: .inr (.inr (.inl x)) :: r => nx (pc + 1) ls (vL (x.toUInt64 >>> (y.toInt64.toUInt64 &&& Int64.toUInt64 63)).toInt64 :: r) h
      | _ => none
    else none
  | .lcmp => if len = 1 then match st with
      | .inr (.inr (.inl y)) :: .inr (.inr (.inl x)) :: r => nx (pc + 1) ls (vI (lg_cmp x y) :: r) h
      | _ => none
    else none
  | .ddiv => if len = 1 then match st with
      | .inr (.inr (.inr y)) :: .inr (.inr (.inr x)) :: r => if FP.ddiv x y &&& 0x7fffffffffffffff ≤ 0x7ff0000000000000 then nx (pc + 1) ls (vD (FP.ddiv x y) :: r) h else none
      | _ => none
    else none
  | .dcmp op => if len = 1 then match st with
      | .inr (.inr (.inr y)) :: .inr (.inr (.inr x)) :: r => nx (pc + 1) ls (vI (Op.cmpValue (FP.dcmp x y) op) :: r) h
      | _ => none
    else none
  | .dup => if len = 1 then match st with
      | v :: r => if cat1 v = true then nx (pc + 1) ls (v :: v :: r) h else none
      | _ => none
    else none
  | .dup2 => if len = 1 then match st with
      | v :: w :: r => if cat1 v = true ∧ cat1 w = true then nx (pc + 1) ls (v :: w :: v :: w :: r) h else none
      | _ => none
    else none
  | .pop => if len = 1 then match st with
      | v :: r => if cat1 v = true then nx (pc + 1) ls r h else none
      | _ => none
    else none
  | .goto off => if len = 3 then jmp pc off ls st h else none
  | .ifCond c off => if len = 3 then match c with
      | .eq => br1 pc off (fun x => decide (x = 0)) ls st h
      | .ne => br1 pc off (fun x => decide (¬ x = 0)) ls st h
      | .lt => br1 pc off (fun x => decide (x < 0)) ls st h
      | .ge => br1 pc off (fun x => decide (0 ≤ x)) ls st h
      | .gt => br1 pc off (fun x => decide (0 < x)) ls st h
      | .le => br1 pc off (fun x => decide (x ≤ 0)) ls st h
    else none
  | .if_icmp c off => if len = 3 then match c with
      | .eq => br2 pc off (fun x y => decide (x = y)) ls st h
      | .ne => br2 pc off (fun x y => decide (¬ x = y)) ls st h
      | .lt => br2 pc off (fun x y => decide (x < y)) ls st h
      | .ge => br2 pc off (fun x y => decide (y ≤ x)) ls st h
      | .gt => br2 pc off (fun x y => decide (y < x)) ls st h
      | .le => br2 pc off (fun x y => decide (x ≤ y)) ls st h
    else none
  | .if_acmp c off => if len = 3 ∧ c = .eq then match st with
      | .inr (.inl (some y)) :: .inr (.inl (some x)) :: r => if (gS h x).1 = 1 ∧ (gS h y).1 = 1 then (match (pc : Int) + off with
          | .ofNat t => if x = y then nx t ls r h else nx (pc + 3) ls r h
          | .negSucc _ => none) else none
      | .inr (.inl none) :: .inr (.inl (some x)) :: r => if (gS h x).1 = 1 then (match (pc : Int) + off with
          | .ofNat _ => nx (pc + 3) ls r h
          | .negSucc _ => none) else none
      | _ => none
    else none
  | .tableswitch dflt lo hi offs => xTab pc dflt lo hi offs ls st h
  | .ldc idx => if len = 2 then match lk2 tStr (mC i) idx with
      | some k => nx (pc + 2) ls (vR (42, k, 0) :: st) h
      | none => none
    else none
  | .ldc_w idx => if len = 3 then match lk2 tInt (mC i) idx with
      | some v => nx (pc + 3) ls (vI v :: st) h
      | none => none
    else none
  | .getstatic idx => if len = 3 then match lk2 tStR (mC i) idx with
      | some k => nx (pc + 3) ls (vO (gR h (51, 0, 0) k) :: st) h
      | none => match lk2 tStI (mC i) idx with
        | some v => nx (pc + 3) ls (vI v :: st) h
        | none => none
    else none
  | .getfield idx => if len = 3 then xGet i pc idx ls st h else none
  | .putfield idx => if len = 3 then xPut i pc idx ls st h else none
  | .iaload => if len = 1 then xAld pc [2, 9] (fun a j => vI (gI h a j)) ls st h else none
  | .caload => if len = 1 then xAld pc [3] (fun a j => vI (gI h a j)) ls st h else none
  | .baload => if len = 1 then xAld pc [10] (fun a j => vI (gI h a j)) ls st h else none
  | .laload => if len = 1 then xAld pc [4] (fun a j => vL (gL h a j)) ls st h else none
  | .daload => if len = 1 then xAld pc [5] (fun a j => vD (gD h a j)) ls st h else none
  | .aaload => if len = 1 then xAld pc [6, 7, 8] (fun a j => vO (gR h a j)) ls st h else none
  | .iastore => if len = 1 then match st with
      | .inl x :: .inl j :: .inr (.inl (some a)) :: r => if (gS h a).1 = 2 ∧ 0 ≤ j ∧ j.toNatClampNeg < (gS h a).2 then nx (pc + 1) ls r (sI h a j.toNatClampNeg x) else none
      | _ => none
    else none
  | .castore => if len = 1 then match st with
      | .inl x :: .inl j :: .inr (.inl (some a)) :: r => if (gS h a).1 = 3 ∧ 0 ≤ j ∧ j.toNatClampNeg < (gS h a).2 then nx (pc + 1) ls r (sI h a j.toNatClampNeg (vp_nar .char x)) else none
      | _ => none
    else none
  | .lastore => if len = 1 then match st with
      | .inr (.inr (.inl x)) :: .inl j :: .inr (.inl (some a)) :: r => if (gS h a).1 = 4 ∧ 0 ≤ j ∧ j.toNatClampNeg < (gS h a).2 then nx (pc + 1) ls r (sL h a j.toNatClampNeg x) else none
      | _ => none
    else none
  | .dastore => if len = 1 then match st with
      | .inr (.inr (.inr x)) :: .inl j :: .inr (.inl (some a)) :: r => if (gS h a).1 = 5 ∧ 0 ≤ j ∧ j.toNatClampNeg < (gS h a).2 then nx (pc + 1) ls r (sD h a j.toNatClampNeg x) else none
      | _ => none
    else none
  | .aastore => if len = 1 then match st with
      | .inr (.inl (some v)) :: .inl j :: .inr (.inl (some a)) :: r => if ((gS h a).1 = 6 ∨ (gS h a).1 = 7 ∨ (gS h a).1 = 8) ∧ 0 ≤ j ∧ j.toNatClampNeg < (gS h a).2 ∧ gS h v = (1, elemC (gS h a).1) then nx (pc + 1) ls r (sR h a j.toNatClampNeg (some v)) else none
      | _ => none
    else none
  | .arraylength => if len = 1 then match st with
      | .inr (.inl (some a)) :: r => if 2 ≤ (gS h a).1 ∧ (gS h a).1 ≤ 10 then nx (pc + 1) ls (vI (Int32.ofNat (gS h a).2) :: r) h else none
      | _ => none
    else none
  | .new idx => if len = 3 then xNew i pc idx ls st h else none
  | .newarray t => if len = 2 then match t with
      | .int => xNewA pc 2 2 ls st h
      | .char => xNewA pc 2 3 ls st h
      | .long => xNewA pc 2 4 ls st h
      | .double => xNewA pc 2 5 ls st h
      | _ => none
    else none
  | .anewarray idx => if len = 3 then match lk2 tANew (mC i) idx with
      | some k => xNewA pc 3 k ls st h
      | none => none
    else none
  | .invokevirtual idx => if len = 3 then xCall i idx [0] st h else none
  | .invokestatic idx => if len = 3 then match lk2 tPrim (mC i) idx with
      | some _ => xPrim i pc idx false ls st h
      | none => xCall i idx [1, 3] st h
    else none
  | .invokespecial idx => if len = 3 then match lk2 tPrim (mC i) idx with
      | some _ => xPrim i pc idx true ls st h
      | none => xCall i idx [2] st h
    else none
  | .ireturn => if len = 1 then xRet i st h else none
  | .areturn => if len = 1 then match mR i, st with
      | some (.object _), [.inr (.inl o)] => dn (.inl (some (vO o))) h
      | _, _ => none
    else none
  | .dreturn => if len = 1 then match mR i, st with
      | some .double, [.inr (.inr (.inr x))] => dn (.inl (some (vD x))) h
      | _, _ => none
    else none
  | .return_ => if len = 1 ∧ mR i = none ∧ st = [] then dn (.inl none) h else none
  | _ => none
def stp (i pc : Nat) (ls : LS3) (st : List MV) (h : Hp) : Option MStp := match decode (mB i) pc with
  | .ok (ins, len) => exec1 i pc len ls st h ins
  | .error _ => none
/-- a handler of the law's methods: 'astore e; iconst x; ireturn' -/
def hndAt (i hp : Nat) : Option Int32 := match decode (mB i) hp, decode (mB i) (hp + 1) with
  | .ok (.astore_n k, 1), .ok (.iconst n, 1) => match decode (mB i) (hp + 2) with
    | .ok (.ireturn, 1) => if k.val < mL i ∧ mR i = some .int then some (Int32.ofInt n) else none
    | _ => none
  | .ok (.astore k, 2), _ => match decode (mB i) (hp + 2), decode (mB i) (hp + 3) with
    | .ok (.iconst n, 1), .ok (.ireturn, 1) => if k < mL i ∧ mR i = some .int then some (Int32.ofInt n) else none
    | _, _ => none
  | _, _ => none
def hndF : List (Nat × Nat × Nat × Nat) → Nat → Nat → Nat → Option Int32
  | [], _, _, _ => none
  | (s, t, hp, c) :: r, i, pc, e => if s ≤ pc ∧ pc < t ∧ lk2 tExc (mC i) c = some e then hndAt i hp else hndF r i pc e
def hnd (i pc e : Nat) : Option Int32 := match lk1 tHnd i with
  | some l => hndF l i pc e
  | none => none
/-- methods out of which nothing is thrown: constructors, and the two that nest mates call -/
def noThr (j : Nat) : Bool := mN j || decide (j = 137) || decide (j = 138)
def run : Nat → Nat → Nat → Nat → LS3 → List MV → Hp → Option (MO × Hp)
  | 0, _, _, _, _, _, _ => none
  | n + 1, d, i, pc, ls, st, h => match stp i pc ls st h with
    | none => none
    | some (.inl (pc', ls', st', h')) => run n d i pc' ls' st' h'
    | some (.inr (.inl r)) => some r
    | some (.inr (.inr (j, As, rest))) => match d with
      | 0 => none
      | d' + 1 => match run n d' j 0 (ent j As) [] h with
        | none => none
        | some (.inl v, h') => run n (d' + 1) i (pc + 3) ls (v.toList ++ rest) h'
        | some (.inr e, h') => if noThr j = true then none else match lk1 tHnd i with
          | none => some (.inr e, h')
          | some _ => match hnd i pc e with
            | some x => some (.inl (some (vI x)), h')
            | none => none
