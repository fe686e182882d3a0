/-! LOOPS by invariants; small laws of stacks and heaps -/
theorem cs_I {x : Int32} {r : List MV} : catS (vI x :: r) = 1 + catS r := rfl
theorem cs_O {o : Option A3} {r : List MV} : catS (vO o :: r) = 1 + catS r := rfl
theorem cs_L {x : Int64} {r : List MV} : catS (vL x :: r) = 2 + catS r := rfl
theorem cs_D {x : UInt64} {r : List MV} : catS (vD x :: r) = 2 + catS r := rfl
theorem cs_n : catS [] = 0 := rfl
theorem cz_0 : catS [] ≤ 0 := Nat.zero_le _
theorem cz_1 : catS [] ≤ 1 := Nat.zero_le _
theorem cI_1 {x : Int32} {r : List MV} : (catS (vI x :: r) ≤ 1) = (catS r ≤ 0) := by rw [cs_I]; exact propext ⟨fun h => by omega, fun h => by omega⟩
theorem cO_1 {x : Option A3} {r : List MV} : (catS (vO x :: r) ≤ 1) = (catS r ≤ 0) := by rw [cs_O]; exact propext ⟨fun h => by omega, fun h => by omega⟩
theorem cz_2 : catS [] ≤ 2 := Nat.zero_le _
theorem cI_2 {x : Int32} {r : List MV} : (catS (vI x :: r) ≤ 2) = (catS r ≤ 1) := by rw [cs_I]; exact propext ⟨fun h => by omega, fun h => by omega⟩
theorem cO_2 {x : Option A3} {r : List MV} : (catS (vO x :: r) ≤ 2) = (catS r ≤ 1) := by rw [cs_O]; exact propext ⟨fun h => by omega, fun h => by omega⟩
theorem cL_2 {x : Int64} {r : List MV} : (catS (vL x :: r) ≤ 2) = (catS r ≤ 0) := by rw [cs_L]; exact propext ⟨fun h => by omega, fun h => by omega⟩
theorem cD_2 {x : UInt64} {r : List MV} : (catS (vD x :: r) ≤ 2) = (catS r ≤ 0) := by rw [cs_D]; exact propext ⟨fun h => by omega, fun h => by omega⟩
theorem cz_3 : catS [] ≤ 3 := Nat.zero_le _
theorem cI_3 {x : Int32} {r : List MV} : (catS (vI x :: r) ≤ 3) = (catS r ≤ 2) := by rw [cs_I]; exact propext ⟨fun h => by omega, fun h => by omega⟩
theorem cO_3 {x : Option A3} {r : List MV} : (catS (vO x :: r) ≤ 3) = (catS r ≤ 2) := by rw [cs_O]; exact propext ⟨fun h => by omega, fun h => by omega⟩
theorem cL_3 {x : Int64} {r : List MV} : (catS (vL x :: r) ≤ 3) = (catS r ≤ 1) := by rw [cs_L]; exact propext ⟨fun h => by omega, fun h => by omega⟩
theorem cD_3 {x : UInt64} {r : List MV} : (catS (vD x :: r) ≤ 3) = (catS r ≤ 1) := by rw [cs_D]; exact propext ⟨fun h => by omega, fun h => by omega⟩
theorem cz_4 : catS [] ≤ 4 := Nat.zero_le _
theorem cI_4 {x : Int32} {r : List MV} : (catS (vI x :: r) ≤ 4) = (catS r ≤ 3) := by rw [cs_I]; exact propext ⟨fun h => by omega, fun h => by omega⟩
theorem cO_4 {x : Option A3} {r : List MV} : (catS (vO x :: r) ≤ 4) = (catS r ≤ 3) := by rw [cs_O]; exact propext ⟨fun h => by omega, fun h => by omega⟩
theorem cL_4 {x : Int64} {r : List MV} : (catS (vL x :: r) ≤ 4) = (catS r ≤ 2) := by rw [cs_L]; exact propext ⟨fun h => by omega, fun h => by omega⟩
theorem cD_4 {x : UInt64} {r : List MV} : (catS (vD x :: r) ≤ 4) = (catS r ≤ 2) := by rw [cs_D]; exact propext ⟨fun h => by omega, fun h => by omega⟩
theorem cz_5 : catS [] ≤ 5 := Nat.zero_le _
theorem cI_5 {x : Int32} {r : List MV} : (catS (vI x :: r) ≤ 5) = (catS r ≤ 4) := by rw [cs_I]; exact propext ⟨fun h => by omega, fun h => by omega⟩
theorem cO_5 {x : Option A3} {r : List MV} : (catS (vO x :: r) ≤ 5) = (catS r ≤ 4) := by rw [cs_O]; exact propext ⟨fun h => by omega, fun h => by omega⟩
theorem cL_5 {x : Int64} {r : List MV} : (catS (vL x :: r) ≤ 5) = (catS r ≤ 3) := by rw [cs_L]; exact propext ⟨fun h => by omega, fun h => by omega⟩
theorem cD_5 {x : UInt64} {r : List MV} : (catS (vD x :: r) ≤ 5) = (catS r ≤ 3) := by rw [cs_D]; exact propext ⟨fun h => by omega, fun h => by omega⟩
theorem cz_6 : catS [] ≤ 6 := Nat.zero_le _
theorem cI_6 {x : Int32} {r : List MV} : (catS (vI x :: r) ≤ 6) = (catS r ≤ 5) := by rw [cs_I]; exact propext ⟨fun h => by omega, fun h => by omega⟩
theorem cO_6 {x : Option A3} {r : List MV} : (catS (vO x :: r) ≤ 6) = (catS r ≤ 5) := by rw [cs_O]; exact propext ⟨fun h => by omega, fun h => by omega⟩
theorem cL_6 {x : Int64} {r : List MV} : (catS (vL x :: r) ≤ 6) = (catS r ≤ 4) := by rw [cs_L]; exact propext ⟨fun h => by omega, fun h => by omega⟩
theorem cD_6 {x : UInt64} {r : List MV} : (catS (vD x :: r) ≤ 6) = (catS r ≤ 4) := by rw [cs_D]; exact propext ⟨fun h => by omega, fun h => by omega⟩
theorem cz_7 : catS [] ≤ 7 := Nat.zero_le _
theorem cI_7 {x : Int32} {r : List MV} : (catS (vI x :: r) ≤ 7) = (catS r ≤ 6) := by rw [cs_I]; exact propext ⟨fun h => by omega, fun h => by omega⟩
theorem cO_7 {x : Option A3} {r : List MV} : (catS (vO x :: r) ≤ 7) = (catS r ≤ 6) := by rw [cs_O]; exact propext ⟨fun h => by omega, fun h => by omega⟩
theorem cL_7 {x : Int64} {r : List MV} : (catS (vL x :: r) ≤ 7) = (catS r ≤ 5) := by rw [cs_L]; exact propext ⟨fun h => by omega, fun h => by omega⟩
theorem cD_7 {x : UInt64} {r : List MV} : (catS (vD x :: r) ≤ 7) = (catS r ≤ 5) := by rw [cs_D]; exact propext ⟨fun h => by omega, fun h => by omega⟩
theorem cz_8 : catS [] ≤ 8 := Nat.zero_le _
theorem cI_8 {x : Int32} {r : List MV} : (catS (vI x :: r) ≤ 8) = (catS r ≤ 7) := by rw [cs_I]; exact propext ⟨fun h => by omega, fun h => by omega⟩
theorem cO_8 {x : Option A3} {r : List MV} : (catS (vO x :: r) ≤ 8) = (catS r ≤ 7) := by rw [cs_O]; exact propext ⟨fun h => by omega, fun h => by omega⟩
theorem cL_8 {x : Int64} {r : List MV} : (catS (vL x :: r) ≤ 8) = (catS r ≤ 6) := by rw [cs_L]; exact propext ⟨fun h => by omega, fun h => by omega⟩
theorem cD_8 {x : UInt64} {r : List MV} : (catS (vD x :: r) ≤ 8) = (catS r ≤ 6) := by rw [cs_D]; exact propext ⟨fun h => by omega, fun h => by omega⟩
theorem c1_I {x : Int32} : cat1 (vI x) = true := rfl
theorem c1_O {o : Option A3} : cat1 (vO o) = true := rfl
theorem gb_S {h : Hp} : gS (gb h) = gS h := rfl
theorem gb_R {h : Hp} : gR (gb h) = gR h := rfl
theorem gb_I {h : Hp} : gI (gb h) = gI h := rfl
theorem gb_L {h : Hp} : gL (gb h) = gL h := rfl
theorem gb_D {h : Hp} : gD (gb h) = gD h := rfl
theorem sD_S {h : Hp} {a : A3} {k : Nat} {v : UInt64} : gS (sD h a k v) = gS h := rfl
theorem sD_R {h : Hp} {a : A3} {k : Nat} {v : UInt64} : gR (sD h a k v) = gR h := rfl
theorem sD_I {h : Hp} {a : A3} {k : Nat} {v : UInt64} : gI (sD h a k v) = gI h := rfl
theorem sD_L {h : Hp} {a : A3} {k : Nat} {v : UInt64} : gL (sD h a k v) = gL h := rfl
theorem sI_D {h : Hp} {a : A3} {k : Nat} {v : Int32} : gD (sI h a k v) = gD h := rfl
theorem sL_D {h : Hp} {a : A3} {k : Nat} {v : Int64} : gD (sL h a k v) = gD h := rfl
theorem sR_D {h : Hp} {a : A3} {k : Nat} {v : Option A3} : gD (sR h a k v) = gD h := rfl
theorem sL_Lx {h : Hp} {a b : A3} {k j : Nat} {v : Int64} : gL (sL h a k v) b j = if b = a ∧ j = k then v else gL h b j := by
  show fup h.2.2.1 a (vp_updL (h.2.2.1 a) k v) b j = if b = a ∧ j = k then v else h.2.2.1 b j
  by_cases e1 : b = a
  · subst e1
    by_cases e2 : j = k
    · simp [fup, vp_updL, e2]
    · simp [fup, vp_updL, e2]
  · simp [fup, e1]
theorem sR_Rx {h : Hp} {a b : A3} {k j : Nat} {v : Option A3} : gR (sR h a k v) b j = if b = a ∧ j = k then v else gR h b j := by
  show fup h.2.2.2.1 a (va_up (h.2.2.2.1 a) k v) b j = if b = a ∧ j = k then v else h.2.2.2.1 b j
  by_cases e1 : b = a
  · subst e1
    by_cases e2 : j = k
    · simp [fup, va_up, e2]
    · simp [fup, va_up, e2]
  · simp [fup, e1]
theorem loopI {σ β : Type} {E : σ → β} {I : Nat → σ → Prop} {n : Nat} (step : ∀ k, k < n → ∀ s, I k s → ∃ s', I (k + 1) s' ∧ E s = E s') : ∀ s, I 0 s → ∃ s', I n s' ∧ E s = E s' := by
  have h0 : ∀ m, m ≤ n → ∀ s, I 0 s → ∃ s', I m s' ∧ E s = E s' := by
    intro m
    induction m with
    | zero => intro _ s hs; exact ⟨s, hs, rfl⟩
    | succ m ih =>
      intro hm s hs
      obtain ⟨s1, h1, e1⟩ := ih (by omega) s hs
      obtain ⟨s2, h2, e2⟩ := step m (by omega) s1 h1
      exact ⟨s2, h2, e1.trans e2⟩
  exact h0 n (Nat.le_refl n)
/-- with an early exit at the least place where c holds -/
theorem loopF {σ β : Type} {E : σ → β} {I : Nat → σ → Prop} {n : Nat} {c : Nat → Bool} {r : Nat → β} (step : ∀ k, k < n → ∀ s, I k s → (c k = true → E s = r k) ∧ (c k = false → ∃ s', I (k + 1) s' ∧ E s = E s')) : ∀ s, I 0 s → (∀ k, fnd c n = some k → E s = r k) ∧ (fnd c n = none → ∃ s', I n s' ∧ E s = E s') := by
  have h0 : ∀ m, m ≤ n → (∀ j, j < m → c j = false) → ∀ s, I 0 s → ∃ s', I m s' ∧ E s = E s' := by
    intro m
    induction m with
    | zero => intro _ _ s hs; exact ⟨s, hs, rfl⟩
    | succ m ih =>
      intro hm hc s hs
      obtain ⟨s1, h1, e1⟩ := ih (by omega) (fun j hj => hc j (by omega)) s hs
      obtain ⟨s2, h2, e2⟩ := (step m (by omega) s1 h1).2 (hc m (by omega))
      exact ⟨s2, h2, e1.trans e2⟩
  intro s hs
  refine ⟨fun k hk => ?_, fun hn => h0 n (Nat.le_refl n) (fnd_none.1 hn) s hs⟩
  obtain ⟨h1, h2, h3⟩ := fnd_some.1 hk
  obtain ⟨s1, i1, e1⟩ := h0 k (by omega) h3 s hs
  exact e1.trans ((step k h1 s1 i1).1 h2)
/-! comparisons turned into truths -/
theorem not_le32 {a b : Int32} : (¬ a ≤ b) = (b < a) := propext ⟨fun h => (Int32.le_or_lt a b).resolve_left h, fun h z => Int32.lt_irrefl (Int32.lt_of_lt_of_le h z)⟩
theorem not_lt32 {a b : Int32} : (¬ a < b) = (b ≤ a) := propext ⟨fun h => (Int32.lt_or_le a b).resolve_left h, fun h z => Int32.lt_irrefl (Int32.lt_of_lt_of_le z h)⟩
theorem bI_and {p q : Prop} [Decidable p] [Decidable q] : (if p then bI q else 0) = bI (p ∧ q) := by
  by_cases h : p
  · rw [if_pos h]; by_cases h2 : q
    · rw [bI_t h2, bI_t ⟨h, h2⟩]
    · rw [bI_f h2, bI_f fun z => h2 z.2]
  · rw [if_neg h, bI_f fun z => h z.1]
theorem bI_congr {p q : Prop} [Decidable p] [Decidable q] (h : p ↔ q) : bI p = bI q := by
  by_cases z : p
  · rw [bI_t z, bI_t (h.1 z)]
  · rw [bI_f z, bI_f fun y => z (h.2 y)]
theorem bI_ne0 {p : Prop} [Decidable p] : (¬ bI p = 0) = p := by
  rw [bI_0]
  exact propext ⟨fun h => Decidable.not_not.1 h, fun h => not_not_intro h⟩
theorem bI_if {p : Prop} [Decidable p] : (if p then (1 : Int32) else 0) = bI p := rfl
theorem bI_ifn {p : Prop} [Decidable p] : (if p then (0 : Int32) else 1) = bI (¬ p) := by
  by_cases h : p
  · rw [if_pos h, bI_f (not_not_intro h)]
  · rw [if_neg h, bI_t h]
/-! answers that are truths -/
section RB
variable {h : Hp}
abbrev rI (x : Int32) (h : Hp) : Option (MO × Hp) := some (.inl (some (vI x)), h)
theorem rB {p : Prop} {D : Decidable p} : (@ite _ p D (rI 1 h) (rI 0 h)) = rI (@bI p D) h := by
  by_cases z : p
  · rw [if_pos z, bI_t z]
  · rw [if_neg z, bI_f z]
theorem rBn {p : Prop} {D : Decidable p} : (@ite _ p D (rI 0 h) (rI 1 h)) = rI (bI (¬ p)) h := by
  by_cases z : p
  · rw [if_pos z, bI_f (not_not_intro z)]
  · rw [if_neg z, bI_t z]
theorem rBa {p q : Prop} {D : Decidable p} {D2 : Decidable q} : (@ite _ p D (rI (@bI q D2) h) (rI 0 h)) = rI (bI (p ∧ q)) h := by
  by_cases z : p
  · rw [if_pos z]; exact congrArg (fun x => rI x h) (bI_congr ⟨fun y => ⟨z, y⟩, fun y => y.2⟩)
  · rw [if_neg z, bI_f fun y => z y.1]
theorem rBb {p q : Prop} {D : Decidable p} {D2 : Decidable q} : (@ite _ p D (rI 0 h) (rI (@bI q D2) h)) = rI (bI (¬ p ∧ q)) h := by
  by_cases z : p
  · rw [if_pos z, bI_f fun y => y.1 z]
  · rw [if_neg z]; exact congrArg (fun x => rI x h) (bI_congr ⟨fun y => ⟨z, y⟩, fun y => y.2⟩)
theorem rBc {p q : Prop} {D : Decidable p} {D2 : Decidable q} : (@ite _ p D (rI 1 h) (rI (@bI q D2) h)) = rI (bI (p ∨ q)) h := by
  by_cases z : p
  · rw [if_pos z, bI_t (Or.inl z)]
  · rw [if_neg z, bI_congr ⟨fun y => Or.inr y, fun y => y.resolve_left z⟩]
theorem rBd {p q : Prop} {D : Decidable p} {D2 : Decidable q} : (@ite _ p D (rI (@bI q D2) h) (rI 1 h)) = rI (bI (¬ p ∨ q)) h := by
  by_cases z : p
  · rw [if_pos z, bI_congr ⟨fun y => Or.inr y, fun y => y.resolve_left (not_not_intro z)⟩]
  · rw [if_neg z, bI_t (Or.inl z)]
theorem rI_c {p q : Prop} {D : Decidable p} {D2 : Decidable q} (e : p ↔ q) : rI (@bI p D) h = rI (@bI q D2) h := by rw [bI_congr e]
theorem rI_e {x y : Int32} (e : x = y) : rI x h = rI y h := by rw [e]
end RB
theorem n_14 {k : Nat} (h : k < 14) : (iN k).toNatClampNeg = k := n_i (by omega)
theorem n_8 {k : Nat} (h : k < 8) : (iN k).toNatClampNeg = k := n_i (by omega)
