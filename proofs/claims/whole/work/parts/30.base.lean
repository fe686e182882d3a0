/-! METHODS OF THE CLASS, as functions of the heap -/
/-- a truth as the machine keeps it -/
def bI (p : Prop) [Decidable p] : Int32 := if p then 1 else 0
theorem bI_t {p : Prop} [Decidable p] (h : p) : bI p = 1 := if_pos h
theorem bI_f {p : Prop} [Decidable p] (h : ¬ p) : bI p = 0 := if_neg h
theorem bI_01 {p : Prop} [Decidable p] : bI p = 0 ∨ bI p = 1 := by
  by_cases h : p
  · exact Or.inr (bI_t h)
  · exact Or.inl (bI_f h)
theorem bI_0 {p : Prop} [Decidable p] : (bI p = 0) = ¬ p := by
  by_cases h : p
  · rw [bI_t h]; simp [h]
  · rw [bI_f h]; simp [h]
theorem m24 {d : Nat} {h : Hp} {a : A3} (hS : gS h a = (1, 3)) : Ev d 24 0 [some (vR a)] [] h = some (.inl (some (vI (1 <<< (gI h a 0 &&& 31)))), h) := by
  simp only [v24_0, v24_1, v24_2, v24_5, v24_6, hS]
theorem m25 {d : Nat} {h : Hp} {a : A3} {s : Int32} (hS : gS h a = (1, 3)) : Ev d 25 0 [some (vR a), some (vI s)] [] h = some (.inl (some (vI (bI (¬ (s >>> (gI h a 0 &&& 31)) &&& 1 = 0)))), h) := by
  simp only [v25_0, v25_1, v25_2, v25_5, v25_6, v25_7, v25_8, v25_11, v25_12, v25_15, hS]
  by_cases z : (s >>> (gI h a 0 &&& 31)) &&& 1 = 0
  · rw [if_pos z, v25_16 (Or.inl rfl), bI_f (not_not_intro z)]
  · rw [if_neg z, v25_16 (Or.inr rfl), bI_t z]
/-! LOOPS with a counter -/
def itr {α : Type} (f : Nat → α → α) : Nat → α → α
  | 0, a => a
  | n + 1, a => f n (itr f n a)
/-- without an early exit -/
theorem loopE {α β : Type} {E : Nat → α → β} {f : Nat → α → α} {n : Nat} (step : ∀ k, k < n → ∀ a, E k a = E (k + 1) (f k a)) : ∀ (m : Nat), m ≤ n → ∀ a, E 0 a = E m (itr f m a) := by
  intro m
  induction m with
  | zero => intro _ a; rfl
  | succ m ih => intro hm a; rw [ih (by omega) a, step m (by omega)]; rfl
/-- with an early exit: the least place that stops -/
theorem loopX {β : Type} {E : Nat → β} {P : Nat → Prop} [DecidablePred P] {r : Nat → β} {n : Nat} (step : ∀ k, k < n → E k = if P k then r k else E (k + 1)) : ∀ k, k < n → P k → (∀ j, j < k → ¬ P j) → E 0 = r k := by
  intro k hk hp hj
  have h0 : ∀ m, m ≤ k → E 0 = E m := by
    intro m
    induction m with
    | zero => intro _; rfl
    | succ m ih => intro hm; rw [ih (by omega), step m (by omega), if_neg (hj m (by omega))]
  rw [h0 k (Nat.le_refl _), step k hk, if_pos hp]
theorem loopN {β : Type} {E : Nat → β} {P : Nat → Prop} [DecidablePred P] {r : Nat → β} {n : Nat} (step : ∀ k, k < n → E k = if P k then r k else E (k + 1)) (hn : ∀ k, k < n → ¬ P k) : E 0 = E n := by
  have h0 : ∀ m, m ≤ n → E 0 = E m := by
    intro m
    induction m with
    | zero => intro _; rfl
    | succ m ih => intro hm; rw [ih (by omega), step m (by omega), if_neg (hn m (by omega))]
  exact h0 n (Nat.le_refl _)
