/-! THE START: what the launch gives of the cells that stand before the law begins (tables of the static arrays, the form texts, the exceptions) -/
def nf : List Cond := flatC (.and given_1 narrow_1)
def sVal : Nat → List Int32 := fun k => match k with
  | 0 => [3, 1, 0, 1, 0, 4, 2, 1, 2, 1, 5, 3, 1, 3, 2]
  | 1 => [21, 10, 5, 0, 28, 14, 7, 0, 42, 21, 14, 0]
  | 2 => [3, 1, 0, 1, 0, 4, 2, 1, 2, 1, 5, 3, 1, 3, 2]
  | 3 => [21, 10, 5, 28, 14, 7, 42, 21, 14]
  | _ => []
def bVal : Nat → List Int32 := fun k => match k with
  | 0 => []
  | 1 => [48, 44, 48, 57, 57, 59]
  | 2 => [48, 64, 48, 44, 48, 57, 57, 44, 48, 59]
  | 3 => [48, 59]
  | 4 => [48, 57, 57, 59]
  | _ => []
def sBase : Nat → Nat := fun k => [5, 23, 45, 63].getD k 0
def sLay : Nat → Nat := fun k => [442, 452, 1560, 1648].getD k 0
def bBase : Nat → Nat := fun k => [205, 1272, 1282, 1296, 1302].getD k 0
def bKey : Nat → Nat := fun k => [19, 66, 68, 70, 72].getD k 0
def bRef : Nat → Nat := fun k => [266, 1159, 1160, 1161, 1162].getD k 0
def tTxtIx : List (Nat × Nat) := [(542, 209), (577, 251), (633, 275), (637, 302), (657, 348), (687, 387), (717, 409), (731, 433), (732, 475), (749, 497), (759, 524), (791, 547), (815, 573), (831, 630), (846, 660), (900, 682), (916, 719), (927, 741), (951, 766), (968, 822), (976, 858), (977, 885), (996, 914), (1012, 945), (1024, 968), (1032, 1002), (1045, 1038), (1053, 1076), (1058, 1113), (1091, 1149), (1114, 1178), (1127, 1202), (1132, 1241), (1215, 1310), (1256, 1337), (1265, 1364), (1273, 1394), (1286, 1421)]
def tNcIx : List ((Nat × Nat) × Nat) := [((0, 1), 96), ((0, 2), 110), ((0, 3), 123), ((0, 4), 137), ((0, 5), 151), ((1, 0), 82), ((1, 2), 111), ((1, 3), 124), ((1, 4), 138), ((1, 5), 152), ((2, 0), 84), ((2, 1), 98), ((2, 3), 126), ((2, 4), 140), ((2, 5), 154), ((3, 0), 85), ((3, 1), 99), ((3, 2), 112), ((3, 4), 141), ((3, 5), 155), ((4, 0), 86), ((4, 1), 100), ((4, 2), 113), ((4, 3), 127), ((4, 5), 156), ((5, 0), 87), ((5, 1), 101), ((5, 2), 114), ((5, 3), 128), ((5, 4), 142)]
def tInstIx : List Nat := [294, 241, 261, 105, 98, 151, 90, 1288]
theorem ini_0 : Cond.initialized "CommitteePlanner" ∈ lw_tbl := List.mem_of_getElem? (i := 64) (by decide +kernel)
theorem ini_7 : Cond.initialized "CommitteePlannerModel" ∈ lw_tbl := List.mem_of_getElem? (i := 71) (by decide +kernel)
theorem ini_S : Cond.initialized "java/lang/String" ∈ lw_tbl := List.mem_of_getElem? (i := 80) (by decide +kernel)
theorem ini_P : Cond.initialized "jdk/internal/util/Preconditions" ∈ lw_tbl := List.mem_of_getElem? (i := 87) (by decide +kernel)
theorem ini_T : Cond.initialized Bundle.tN ∈ lw_tbl := List.mem_of_getElem? (i := 72) (by decide +kernel)
theorem lay_C : Cond.laysStatic "java/lang/String" "COMPACT_STRINGS" "Z" ∈ lw_tbl := List.mem_of_getElem? (i := 1176) (by decide +kernel)
theorem lay_P : Cond.laysStatic "jdk/internal/util/Preconditions" "SIOOBE_FORMATTER" "Ljava/util/function/BiFunction;" ∈ lw_tbl := List.mem_of_getElem? (i := 1192) (by decide +kernel)
theorem lay_U : Cond.laysStatic Bundle.tN "UNASSIGNED_STACK" Bundle.steD ∈ lw_tbl := List.mem_of_getElem? (i := 524) (by decide +kernel)
theorem lay_L : Cond.laysStatic Bundle.tN "SUPPRESSED_SENTINEL" Bundle.listD ∈ lw_tbl := List.mem_of_getElem? (i := 526) (by decide +kernel)
theorem nar_C : Cond.eq (.static "java/lang/String" "COMPACT_STRINGS" "Z") (.int 1) ∈ nf := List.mem_of_getElem? (i := 39) (by decide +kernel)
theorem nar_P : Cond.isRef (.static "jdk/internal/util/Preconditions" "SIOOBE_FORMATTER" "Ljava/util/function/BiFunction;") ∈ nf := List.mem_of_getElem? (i := 40) (by decide +kernel)
theorem nar_U : Cond.isRef (.static Bundle.tN "UNASSIGNED_STACK" Bundle.steD) ∈ nf := List.mem_of_getElem? (i := 37) (by decide +kernel)
theorem nar_L : Cond.isRef (.static Bundle.tN "SUPPRESSED_SENTINEL" Bundle.listD) ∈ nf := List.mem_of_getElem? (i := 38) (by decide +kernel)
def stT (k : Nat) : Term := .static (stN k).1 (stN k).2.1 (stN k).2.2
def bT (k : Nat) : Term := .string (cN 2) (bKey k)
def bV (k : Nat) : Term := .field (bT k) "java/lang/String" "value" "[B"
def sChk (k : Nat) : Bool := decide (nf[sBase k]? = some (.arrayOf (stT k) .int)) && decide (nf[sBase k + 1]? = some (.eq (.length (stT k)) (.int (Int32.ofNat (sVal k).length)))) &&
  ((List.range (sVal k).length).all fun j => decide (nf[sBase k + 2 + j]? = some (.eq (.elem (stT k) (.int (Int32.ofNat j))) (.int ((sVal k).getD j 0))))) && decide (lw_tbl[sLay k]? = some (.laysStatic (stN k).1 (stN k).2.1 (stN k).2.2))
set_option maxRecDepth 100000 in
theorem s_ok : (List.range 4).all sChk = true := by decide +kernel
def bChk (k : Nat) : Bool := decide (nf[bBase k]? = some (.exactly (bT k) "java/lang/String")) && decide (nf[bBase k + 1]? = some (.eq (.field (bT k) "java/lang/String" "coder" "B") (.int 0))) && decide (nf[bBase k + 2]? = some (.arrayOf (bV k) .byte)) && decide (nf[bBase k + 3]? = some (.eq (.length (bV k)) (.int (Int32.ofNat (bVal k).length)))) &&
  ((List.range (bVal k).length).all fun j => decide (nf[bBase k + 4 + j]? = some (.eq (.elem (bV k) (.int (Int32.ofNat j))) (.int ((bVal k).getD j 0))))) && decide (lw_tbl[bRef k]? = some (.stringRef (cN 2) (bKey k) (frm k))) && decide ((bVal k).length < 16)
set_option maxRecDepth 100000 in
theorem b_ok : (List.range 5).all bChk = true := by decide +kernel
set_option maxRecDepth 100000 in
theorem txt_ok : ((tTxt.zip tTxtIx).all fun q => decide (lw_tbl[q.2.1]? = some (.stringRef (cN q.1.1.1) q.1.1.2 q.1.2)) && decide (nf[q.2.2]? = some (.exactly (.string (cN q.1.1.1) q.1.1.2) "java/lang/String"))) = true := by decide +kernel
set_option maxRecDepth 100000 in
theorem nc_ok : (tNcIx.all fun q => decide (nf[q.2]? = some (.not (.castable (exN q.1.1) (exN q.1.2))))) = true := by decide +kernel
theorem nc_has : ∀ a, a < 6 → ∀ b, b < 6 → a ≠ b → (tNcIx.any fun q => decide (q.1 = (a, b))) = true := by decide +kernel
set_option maxRecDepth 100000 in
theorem inst_ok : ((List.range 8).all fun c => inT (tInstIx.getD c 0) (.instantiable (cN c) (NW c))) = true := by decide +kernel
/-- the heap of the mini machine at the law's start: the script, the static arrays, the form texts -/
def x0 (L : Nat) (xs : Nat → Int32) (o : Option A3) : Hp :=
  (fun a => if a = (40, 0, 0) then (9, L) else if a.1 = 41 ∧ a.2.1 < 4 ∧ a.2.2 = 0 then (9, (sVal a.2.1).length) else if a.1 = 42 ∧ a.2.1 < 5 ∧ a.2.2 = 0 then (11, 10) else if a.1 = 43 ∧ a.2.1 < 5 ∧ a.2.2 = 0 then (10, (bVal a.2.1).length) else if a = (51, 0, 0) then (12, 0) else (0, 0),
   fun a k => if a = (40, 0, 0) then xs k else if a.1 = 41 then (sVal a.2.1).getD k 0 else if a.1 = 43 then (bVal a.2.1).getD k 0 else 0,
   fun _ _ => 0,
   fun a k => if a = (51, 0, 0) then (if k < 4 then some (41, k, 0) else if k = 4 then o else none) else if a.1 = 42 ∧ k = 0 then some (43, a.2.1, 0) else none,
   fun _ _ => 0, 0, 0, 0)
def adr0 (B : Nat) (out : A3 → Nat) (a : A3) : Nat := if nmi a < 393 ∧ nm (nmi a) = a then B + nmi a else out a
theorem adr0_nm {B : Nat} {out : A3 → Nat} {k : Nat} (h : k < 393) : adr0 B out (nm k) = B + k := by
  unfold adr0
  rw [nm_inv k h, if_pos ⟨h, rfl⟩]
theorem nm_lo : ∀ k, k < 393 → (nm k).1 < 40 := by decide +kernel
theorem adr0_out {B : Nat} {out : A3 → Nat} {a : A3} (h : 40 ≤ a.1) : adr0 B out a = out a := by
  unfold adr0
  refine if_neg fun z => ?_
  have := nm_lo _ z.1
  rw [z.2] at this
  omega
theorem WR_x0 {L : Nat} {xs : Nat → Int32} {o : Option A3} : WR (x0 L xs o) (x0 L xs o) := by
  refine ⟨Nat.le_refl _, Nat.zero_le _, fun k hk => absurd hk (Nat.not_lt_zero _), fun a h1 h2 => ?_, fun a _ => ⟨rfl, fun _ => rfl, fun _ => rfl⟩, ?_⟩
  · exfalso
    simp only [gS, x0] at h1 h2
    split at h1
    · rename_i z; rw [if_pos z] at h2; simp at h2
    · rename_i z; rw [if_neg z] at h2
      split at h1
      · rename_i z; rw [if_pos z] at h2; simp at h2
      · rename_i z; rw [if_neg z] at h2
        split at h1
        · rename_i z; rw [if_pos z] at h2; simp at h2
        · rename_i z; rw [if_neg z] at h2
          split at h1
          · rename_i z; rw [if_pos z] at h2; simp at h2
          · rename_i z; rw [if_neg z] at h2
            split at h1
            · rename_i z; rw [if_pos z] at h2; simp at h2
            · simp at h1
  · show 9 ≤ (gS (x0 L xs o) (51, 0, 0)).1
    exact Nat.le_of_ble_eq_true rfl
