/-! WELL-FORMED PLANS, and what is asked of them -/
def wfA (P : PL) : Prop := pn P ≤ 14 ∧ tn P ≤ 8 ∧ wn P ≤ 8 ∧ ∃ t, t ≤ 400 ∧ P.1 16 0 = iN t
def wfB (P : PL) : Prop := (∀ f, f < 5 → ∀ i, pn P ≤ i → i < 14 → P.1 f i = 0) ∧ (∀ i, i < 14 → sub (pn P) (P.1 4 i)) ∧ (∀ i, i < pn P → ∀ k, k < pn P → (bt (P.1 4 i) k ↔ bt (P.1 4 k) i)) ∧ (∀ i, i < 14 → ∀ d, d < 401 → sub 8 (P.1 5 (401 * i + d)) ∧ (pn P ≤ i → P.1 5 (401 * i + d) = 0))
def placeOk (P : PL) (j : Nat) : Prop := (P.1 12 j = -1 ∧ P.1 13 j = -1 ∧ P.1 14 j = -1) ∨ ∃ r d u, r < 3 ∧ d < 401 ∧ u < 7 ∧ P.1 12 j = iN r ∧ P.1 13 j = iN d ∧ P.1 14 j = iN u
def wfC (P : PL) : Prop := (∀ j, j < 8 → ∃ k, k < 3 ∧ P.1 6 j = iN k) ∧ (∀ j, j < tn P → ∃ s, s < pn P ∧ P.1 9 j = iN s) ∧ (∀ j, j < 8 → ∃ s, s ≤ 4 ∧ P.1 10 j = iN s) ∧ (∀ j, j < 8 → sub (pn P) (P.1 11 j)) ∧ (∀ j, j < 8 → placeOk P j)
def wfD (P : PL) : Prop := ∀ j, tn P ≤ j → j < 8 → P.1 6 j = 0 ∧ P.1 7 j = 0 ∧ P.1 8 j = 0 ∧ P.1 9 j = -1 ∧ P.1 10 j = 0 ∧ P.1 11 j = 0 ∧ P.1 12 j = -1 ∧ P.1 13 j = -1 ∧ P.1 14 j = -1
def wfE (P : PL) : Prop := (∀ k, k < wn P → ∃ t, t < tn P ∧ P.1 15 k = iN t) ∧ ∀ k l, k < l → l < wn P → P.1 15 k ≠ P.1 15 l
/-- what a quorum asks for; the days from a deadline to the defence -/
def nq (P : PL) (j w : Nat) : Int32 := (sVal 0).getD ((P.1 6 j).toNatClampNeg * 5 + w) 0
def db (P : PL) (j s : Nat) : Int32 := (sVal 1).getD ((P.1 6 j).toNatClampNeg * 4 + s - 1) 0
def most (P : PL) (j : Nat) : Int32 := nq P j 0 + 2
def pld (P : PL) (j : Nat) : Bool := decide (¬ P.1 12 j = -1)
theorem pld_t {P : PL} {j : Nat} : (pld P j = true) = ¬ P.1 12 j = -1 := propext decide_eq_true_iff
def dfd (P : PL) (j : Nat) : Bool := decide (P.1 10 j = 4)
theorem dfd_t {P : PL} {j : Nat} : (dfd P j = true) = (P.1 10 j = 4) := propext decide_eq_true_iff
/-- the next deadline of a thesis that is not defended -/
def ndl (P : PL) (j : Nat) : Int32 := P.1 13 j - db P j ((P.1 10 j).toNatClampNeg + 1)
def wfG (P : PL) : Prop := ∀ j, j < tn P → iN (pcn (P.1 11 j)) ≤ most P j
def wfN (P : PL) : Prop := ∀ j, j < tn P → pld P j = true → ¬ dfd P j = true → P.1 16 0 ≤ ndl P j
def WF (P : PL) : Prop := wfA P ∧ wfB P ∧ wfC P ∧ wfD P ∧ wfG P
/-- between two calls also: the places of the line hold theses, no two the same; no deadline ahead is over -/
def WFx (P : PL) : Prop := WF P ∧ wfE P ∧ wfN P
section WFacts
variable {P : PL}
theorem w_pn (hW : WF P) : pn P ≤ 14 := hW.1.1
theorem w_tn (hW : WF P) : tn P ≤ 8 := hW.1.2.1
theorem w_wn (hW : WF P) : wn P ≤ 8 := hW.1.2.2.1
theorem w_td (hW : WF P) : ∃ t, t ≤ 400 ∧ P.1 16 0 = iN t := hW.1.2.2.2
theorem w_p0 (hW : WF P) {f i : Nat} (hf : f < 5) (h1 : pn P ≤ i) (h2 : i < 14) : P.1 f i = 0 := hW.2.1.1 f hf i h1 h2
theorem w_cf (hW : WF P) {i : Nat} (hi : i < 14) : sub (pn P) (P.1 4 i) := hW.2.1.2.1 i hi
theorem w_sy (hW : WF P) {i k : Nat} (hi : i < pn P) (hk : k < pn P) : bt (P.1 4 i) k ↔ bt (P.1 4 k) i := hW.2.1.2.2.1 i hi k hk
theorem w_by (hW : WF P) {i d : Nat} (hi : i < 14) (hd : d < 401) : sub 8 (P.1 5 (401 * i + d)) := (hW.2.1.2.2.2 i hi d hd).1
theorem w_b0 (hW : WF P) {i d : Nat} (hi : i < 14) (hd : d < 401) (h : pn P ≤ i) : P.1 5 (401 * i + d) = 0 := (hW.2.1.2.2.2 i hi d hd).2 h
theorem w_kd (hW : WF P) {j : Nat} (hj : j < 8) : ∃ k, k < 3 ∧ P.1 6 j = iN k := hW.2.2.1.1 j hj
theorem w_sv (hW : WF P) {j : Nat} (hj : j < tn P) : ∃ s, s < pn P ∧ P.1 9 j = iN s := hW.2.2.1.2.1 j hj
theorem w_st (hW : WF P) {j : Nat} (hj : j < 8) : ∃ s, s ≤ 4 ∧ P.1 10 j = iN s := hW.2.2.1.2.2.1 j hj
theorem w_mb (hW : WF P) {j : Nat} (hj : j < 8) : sub (pn P) (P.1 11 j) := hW.2.2.1.2.2.2.1 j hj
theorem w_pl (hW : WF P) {j : Nat} (hj : j < 8) : placeOk P j := hW.2.2.1.2.2.2.2 j hj
theorem w_t0 (hW : WF P) {j : Nat} (h1 : tn P ≤ j) (h2 : j < 8) : P.1 6 j = 0 ∧ P.1 7 j = 0 ∧ P.1 8 j = 0 ∧ P.1 9 j = -1 ∧ P.1 10 j = 0 ∧ P.1 11 j = 0 ∧ P.1 12 j = -1 ∧ P.1 13 j = -1 ∧ P.1 14 j = -1 := hW.2.2.2.1 j h1 h2
theorem w_ln (hX : WFx P) {k : Nat} (hk : k < wn P) : ∃ t, t < tn P ∧ P.1 15 k = iN t := hX.2.1.1 k hk
theorem w_ld (hX : WFx P) {k l : Nat} (h : k < l) (hl : l < wn P) : P.1 15 k ≠ P.1 15 l := hX.2.1.2 k l h hl
theorem w_nd (hX : WFx P) {j : Nat} (hj : j < tn P) (h1 : pld P j = true) (h2 : ¬ dfd P j = true) : P.1 16 0 ≤ ndl P j := hX.2.2 j hj h1 h2
theorem w_mo (hW : WF P) {j : Nat} (hj : j < tn P) : iN (pcn (P.1 11 j)) ≤ most P j := hW.2.2.2.2 j hj
end WFacts
/-! the answers that class and model share, as the class comes to them -/
/-- whether a person counts for a number of the quorum of a thesis -/
def cnd (P : PL) (j i w : Nat) : Bool := match w with
  | 0 => true
  | 1 => decide (P.1 0 i = 0)
  | 2 => decide (P.1 0 i = 2)
  | 3 => decide ((P.1 1 i >>> (P.1 7 j &&& 31)) &&& 1 = 1)
  | 4 => decide (¬ P.1 2 i = P.1 8 j)
  | _ => false
/-- how many of a set count -/
def hasf (P : PL) (j : Nat) (s : Int32) (w i : Nat) : Bool := bt s i && cnd P j i w
def has (P : PL) (j : Nat) (s : Int32) (w : Nat) : Nat := cn (hasf P j s w) 14
def hld (P : PL) (j : Nat) (s : Int32) : Bool := (List.range 5).all fun w => decide (nq P j w ≤ iN (has P j s w))
theorem hld_t {P : PL} {j : Nat} {s : Int32} : hld P j s = true ↔ ∀ w, w < 5 → nq P j w ≤ iN (has P j s w) := by
  unfold hld
  rw [List.all_eq_true]
  exact ⟨fun h w hw => of_decide_eq_true (h w (List.mem_range.2 hw)), fun h w hw => decide_eq_true (h w (List.mem_range.1 hw))⟩
/-- the committees that count for the limit of a person, without one thesis (8: none) -/
def cmtf (P : PL) (i ex t : Nat) : Int32 := if t ≠ ex ∧ ¬ dfd P t ∧ bt (P.1 11 t) i then b1 t else 0
def cmt (P : PL) (i ex : Nat) : Int32 := orf 0 (cmtf P i ex) 8
def supf (P : PL) (i t : Nat) : Int32 := if P.1 9 t = iN i then b1 t else 0
def sup (P : PL) (i : Nat) : Int32 := orf 0 (supf P i) 8
/-- the hours of a day that a defence takes -/
def hon (P : PL) (t : Nat) (x : Int32) : Int32 := if pld P t ∧ P.1 13 t = x then 3 <<< (P.1 14 t &&& 31) else 0
def htkf (P : PL) (i d ex t : Nat) : Int32 := if t ≠ ex ∧ bt (P.1 11 t) i then hon P t (iN d) else 0
def htk (P : PL) (i d ex : Nat) : Int32 := orf (P.1 5 (401 * i + d)) (htkf P i d ex) 8
abbrev msk (u : Nat) : Int32 := 3 <<< (iN u &&& 31)
abbrev fre (P : PL) (i d u ex : Nat) : Prop := htk P i d ex &&& msk u = 0
def why (P : PL) (j i : Nat) (s : Int32) : Int32 :=
  if bt s i then 1 else
  if iN i = P.1 9 j ∧ ¬ P.1 6 j = 0 then 2 else
  if (P.1 4 i >>> (P.1 9 j &&& 31)) &&& 1 = 1 then 3 else
  if P.1 4 i &&& s = 0 then
    if iN (pcn (cmt P i j)) < P.1 3 i then
      if iN (pcn s) < most P j then
        if pld P j ∧ ¬ fre P i (P.1 13 j).toNatClampNeg (P.1 14 j).toNatClampNeg j then 7 else
        if dfd P j then 8 else 0
      else 6
    else 5
  else 4
def hrmf (P : PL) (r d ex t : Nat) : Int32 := if t ≠ ex ∧ P.1 12 t = iN r then hon P t (iN d) else 0
def hrm (P : PL) (r d ex : Nat) : Int32 := orf 0 (hrmf P r d ex) 8
def hmbf (P : PL) (j d i : Nat) : Int32 := if bt (P.1 11 j) i then htk P i d j else 0
def hmb (P : PL) (j d : Nat) : Int32 := orf 0 (hmbf P j d) 14
def fdy (P : PL) (j : Nat) : Int32 := P.1 16 0 + db P j ((P.1 10 j).toNatClampNeg + 1)
