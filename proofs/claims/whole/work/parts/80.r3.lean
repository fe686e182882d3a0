/-! READ: the text, as the class takes it, sign by sign -/

/-- form, place in the form, slot, entries done, cells -/
abbrev IS : Type := Nat × Nat × Nat × Nat × (Nat → Int32)
def fC (f a : Nat) : Nat := ((match f with
  | 1 => [48, 44, 48, 57, 57, 59]
  | 2 => [48, 64, 48, 44, 48, 57, 57, 44, 48, 59]
  | 3 => [48, 59]
  | 4 => [48, 57, 57, 59]
  | _ => []) : List Nat).getD a 0
def fN (f : Nat) : Nat := [0, 6, 10, 2, 4].getD f 0
def fO (x : Nat) : Nat := if x = 100 then 4 else if x = 106 then 1 else if x = 108 then 1 else if x = 110 then 3 else if x = 112 then 2 else 0
def fS (f a : Nat) : Nat := if fC f a = 57 then (if fC f (a + 1) = 57 then a + 2 else a + 1) else a
/-- the slot that a place of a form fills -/
def fc (f a : Nat) : Nat := ((match f with
  | 1 => [1, 1, 2, 2, 2, 2]
  | 2 => [1, 1, 2, 2, 3, 3, 3, 3, 4, 4]
  | 3 => [1, 1]
  | 4 => [1, 1, 1, 1]
  | _ => []) : List Nat).getD a 1
def opn (t : IS) (x : Nat) : IS := (fO x, 0, 1, t.2.2.2.1, fun j => if j = t.2.2.2.1 * 5 then iN x else if t.2.2.2.1 * 5 < j ∧ j < t.2.2.2.1 * 5 + 5 then 0 else t.2.2.2.2 j)
def dgt (t : IS) (x : Nat) : IS := (t.1, t.2.1 + 1, t.2.2.1, t.2.2.2.1, fun j => if j = t.2.2.2.1 * 5 + t.2.2.1 then t.2.2.2.2 j * 10 + iN (x - 48) else t.2.2.2.2 j)
def spt (t : IS) : IS := if fS t.1 t.2.1 + 1 = fN t.1 then (0, fS t.1 t.2.1 + 1, t.2.2.1 + 1, t.2.2.2.1 + 1, t.2.2.2.2) else (t.1, fS t.1 t.2.1 + 1, t.2.2.1 + 1, t.2.2.2.1, t.2.2.2.2)
def acc (t : IS) (x : Nat) : Option IS :=
  if t.1 = 0 then (if fO x = 0 ∨ 20 ≤ t.2.2.2.1 then none else some (opn t x))
  else if 48 ≤ x ∧ x ≤ 57 then (if fC t.1 t.2.1 = 48 ∨ fC t.1 t.2.1 = 57 then some (dgt t x) else none)
  else if fC t.1 (fS t.1 t.2.1) = x then some (spt t) else none
def IOK (t : IS) : Prop := t.2.2.2.1 ≤ 20 ∧ (t.1 ≠ 0 → t.1 < 5 ∧ t.2.1 < fN t.1 ∧ t.2.2.1 = fc t.1 t.2.1 ∧ t.2.2.2.1 < 20)
def IH (h : Hp) (t : IS) : Prop := gR h (11, 0, 0) 4 = some (42, t.1, 0) ∧ gI h (11, 0, 0) 3 = iN t.2.2.2.1 ∧ (t.1 ≠ 0 → gI h (11, 0, 0) 5 = iN t.2.1 ∧ gI h (11, 0, 0) 6 = iN t.2.2.1) ∧ ∀ j, j < 100 → gI h (13, 0, 0) j = t.2.2.2.2 j
/-- what taking signs may change -/
def ChR (h h' : Hp) : Prop := gS h' = gS h ∧ (∀ b j, ¬ (b = (11, 0, 0) ∧ j = 4) → gR h' b j = gR h b j) ∧ gD h' = gD h ∧ cnt h' = cnt h ∧ cu h' = cu h ∧ su h' = su h ∧ (∀ a, a ≠ (11, 0, 0) → a ≠ (13, 0, 0) → gI h' a = gI h a) ∧ gL h' = gL h ∧ gI h' (11, 0, 0) 2 = gI h (11, 0, 0) 2
theorem fC_b : ∀ f, f < 5 → ∀ a, a < fN f → (bVal f).getD a 0 = iN (fC f a) ∧ fC f a < 65 := by decide
theorem fO_lt {x : Nat} : fO x < 5 := by
  unfold fO
  split
  · decide
  split
  · decide
  split
  · decide
  split
  · decide
  split
  · decide
  · decide
theorem fS_a : ∀ f, f < 5 → ∀ a, a < fN f → fS f a < fN f := by decide
theorem fS_b : ∀ f, f < 5 → ∀ a, a < fN f → fC f a = 57 → a + 1 < fN f := by decide
theorem fS_c : ∀ f, f < 5 → ∀ a, a < fN f → fC f a = 57 → fC f (a + 1) = 57 → a + 2 < fN f ∧ fC f (a + 2) ≠ 57 := by decide
theorem fS_d : ∀ f, f < 5 → ∀ a, a < fN f → (fC f a = 48 ∨ fC f a = 57) → a + 1 < fN f ∧ fc f (a + 1) = fc f a := by decide
theorem fS_e : ∀ f, f < 5 → ∀ a, a < fN f → ¬ (48 ≤ fC f (fS f a) ∧ fC f (fS f a) ≤ 57) → fS f a + 1 ≠ fN f → fS f a + 1 < fN f ∧ fc f (fS f a + 1) = fc f a + 1 := by decide
theorem fS_f : ∀ f, f < 5 → ∀ a, a < fN f → 1 ≤ fc f a ∧ fc f a ≤ 4 := by decide
theorem fS_lt : ∀ f, f < 5 → ∀ a, a < fN f → fS f a < fN f ∧ (fC f a = 57 → a + 1 < fN f ∧ (fC f (a + 1) = 57 → a + 2 < fN f ∧ fC f (a + 2) ≠ 57)) ∧ ((fC f a = 48 ∨ fC f a = 57) → a + 1 < fN f ∧ fc f (a + 1) = fc f a) ∧ (¬ (48 ≤ fC f (fS f a) ∧ fC f (fS f a) ≤ 57) → fS f a + 1 ≠ fN f → fS f a + 1 < fN f ∧ fc f (fS f a + 1) = fc f a + 1) ∧ 1 ≤ fc f a ∧ fc f a ≤ 4 := fun f hf a ha => ⟨fS_a f hf a ha, fun z => ⟨fS_b f hf a ha z, fS_c f hf a ha z⟩, fS_d f hf a ha, fS_e f hf a ha, fS_f f hf a ha⟩
theorem fO_0 {x : Nat} (h : fO x ≠ 0) : fN (fO x) ≠ 0 ∧ fc (fO x) 0 = 1 := by
  have : ∀ f, f < 5 → f ≠ 0 → fN f ≠ 0 ∧ fc f 0 = 1 := by decide
  exact this _ fO_lt h
theorem IOK_acc {t t' : IS} {x : Nat} (ok : IOK t) (e : acc t x = some t') : IOK t' := by
  unfold acc at e
  split at e
  · split at e
    · cases e
    · rename_i h1 h2
      cases e
      have h3 : fO x ≠ 0 := fun z => h2 (Or.inl z)
      have h4 : t.2.2.2.1 < 20 := Nat.lt_of_not_le fun z => h2 (Or.inr z)
      obtain ⟨q1, q2⟩ := fO_0 h3
      exact ⟨ok.1, fun _ => ⟨fO_lt, Nat.pos_of_ne_zero q1, q2.symm, h4⟩⟩
  · rename_i h1
    obtain ⟨k1, k2, k3, k4⟩ := ok.2 h1
    obtain ⟨q1, q2, q3, q4, q5⟩ := fS_lt _ k1 _ k2
    split at e
    · split at e
      · rename_i h2 h3
        cases e
        exact ⟨ok.1, fun _ => ⟨k1, (q3 h3).1, k3.trans (q3 h3).2.symm, k4⟩⟩
      · cases e
    · split at e
      · rename_i h2 h3
        cases e
        unfold spt
        by_cases y : fS t.1 t.2.1 + 1 = fN t.1
        · rw [if_pos y]
          exact ⟨(show t.2.2.2.1 + 1 ≤ 20 by omega), fun z => absurd rfl z⟩
        · rw [if_neg y]
          exact ⟨ok.1, fun _ => ⟨k1, (q4 (by rw [h3]; exact h2) y).1, (show t.2.2.1 + 1 = _ by rw [(q4 (by rw [h3]; exact h2) y).2, k3]), k4⟩⟩
      · cases e
section R3
variable {L : Nat} {xs : Nat → Int32} {h h' h1 h2 : Hp} {t t' : IS} {d : Nat}
theorem cr_r : ChR h h := ⟨rfl, fun _ _ _ => rfl, rfl, rfl, rfl, rfl, fun _ _ _ => rfl, rfl, rfl⟩
theorem cr_t (a : ChR h h1) (b : ChR h1 h2) : ChR h h2 := ⟨b.1.trans a.1, fun x j z => (b.2.1 x j z).trans (a.2.1 x j z), b.2.2.1.trans a.2.2.1, b.2.2.2.1.trans a.2.2.2.1, b.2.2.2.2.1.trans a.2.2.2.2.1, b.2.2.2.2.2.1.trans a.2.2.2.2.2.1, fun x y z => (b.2.2.2.2.2.2.1 x y z).trans (a.2.2.2.2.2.2.1 x y z), b.2.2.2.2.2.2.2.1.trans a.2.2.2.2.2.2.2.1, b.2.2.2.2.2.2.2.2.trans a.2.2.2.2.2.2.2.2⟩
theorem cr_11 {k : Nat} {v : Int32} (hk : k ≠ 2) : ChR h (sI h (11, 0, 0) k v) := ⟨rfl, fun _ _ _ => rfl, rfl, rfl, rfl, rfl, fun a h1 _ => by
  funext j
  rw [sI_I, if_neg fun z => h1 z.1], rfl, by rw [sI_I, if_neg fun z => hk z.2.symm]⟩
theorem cr_13 {k : Nat} {v : Int32} : ChR h (sI h (13, 0, 0) k v) := ⟨rfl, fun _ _ _ => rfl, rfl, rfl, rfl, rfl, fun a _ h1 => by
  funext j
  rw [sI_I, if_neg fun z => h1 z.1], rfl, by rw [sI_I, if_neg (by simp)]⟩
theorem cr_R {o : Option A3} : ChR h (sR h (11, 0, 0) 4 o) := ⟨rfl, fun b j z => by rw [sR_Rx, if_neg z], rfl, rfl, rfl, rfl, fun _ _ _ => rfl, rfl, rfl⟩
theorem Lay_cr (hL : Lay L xs h) (c : ChR h h') : Lay L xs h' := by
  obtain ⟨c1, c2, -, -, -, -, c3, -, -⟩ := c
  obtain ⟨a1, a2, a3⟩ := hL
  refine ⟨by rw [c1]; exact a1, ?_, ?_⟩
  · unfold LayR at a2 ⊢
    have e : ∀ (b : A3) (j : Nat), b.1 ≠ 11 ∨ j ≠ 4 → gR h' b j = gR h b j := fun b j z => c2 b j fun q => by
      rcases z with z | z
      · rw [q.1] at z; exact z rfl
      · exact z q.2
    simpa (disch := first | exact Or.inl (of_decide_eq_true rfl) | exact Or.inr (of_decide_eq_true rfl)) only [e] using a2
  · have e : ∀ a : A3, 40 ≤ a.1 → gI h' a = gI h a := fun a ha => c3 a (fun z => by rw [z] at ha; simp at ha) (fun z => by rw [z] at ha; simp at ha)
    unfold LayV at a3 ⊢
    rw [e (40, 0, 0) (by decide)]
    refine ⟨a3.1, fun p j => ?_, fun p => ?_, fun p j => ?_⟩
    · rw [e (41, p, 0) (show 40 ≤ 41 by decide)]; exact a3.2.1 p j
    · rw [e (42, p, 0) (show 40 ≤ 42 by decide)]; exact a3.2.2.1 p
    · rw [e (43, p, 0) (show 40 ≤ 43 by decide)]; exact a3.2.2.2 p j
end R3
