/-! WHAT A CALL MAY CHANGE -/
def Chg (A : A3 → Prop) (h h' : Hp) : Prop := gS h' = gS h ∧ gR h' = gR h ∧ gD h' = gD h ∧ cnt h' = cnt h ∧ cu h' = cu h ∧ su h' = su h ∧ (∀ a, ¬ A a → gI h' a = gI h a) ∧ (∀ a, ¬ A a → gL h' a = gL h a)
section Chg
variable {A B : A3 → Prop} {h h' h'' : Hp}
theorem ch_r : Chg A h h := ⟨rfl, rfl, rfl, rfl, rfl, rfl, fun _ _ => rfl, fun _ _ => rfl⟩
theorem ch_t (a : Chg A h h') (b : Chg A h' h'') : Chg A h h'' := ⟨b.1.trans a.1, b.2.1.trans a.2.1, b.2.2.1.trans a.2.2.1, b.2.2.2.1.trans a.2.2.2.1, b.2.2.2.2.1.trans a.2.2.2.2.1, b.2.2.2.2.2.1.trans a.2.2.2.2.2.1, fun x hx => (b.2.2.2.2.2.2.1 x hx).trans (a.2.2.2.2.2.2.1 x hx), fun x hx => (b.2.2.2.2.2.2.2 x hx).trans (a.2.2.2.2.2.2.2 x hx)⟩
theorem ch_m (hAB : ∀ a, A a → B a) (a : Chg A h h') : Chg B h h' := ⟨a.1, a.2.1, a.2.2.1, a.2.2.2.1, a.2.2.2.2.1, a.2.2.2.2.2.1, fun x hx => a.2.2.2.2.2.2.1 x fun y => hx (hAB x y), fun x hx => a.2.2.2.2.2.2.2 x fun y => hx (hAB x y)⟩
theorem ch_I (a : Chg A h h') {c : A3} (hc : ¬ A c) : gI h' c = gI h c := a.2.2.2.2.2.2.1 c hc
theorem ch_L (a : Chg A h h') {c : A3} (hc : ¬ A c) : gL h' c = gL h c := a.2.2.2.2.2.2.2 c hc
theorem ch_S (a : Chg A h h') : gS h' = gS h := a.1
theorem ch_R (a : Chg A h h') : gR h' = gR h := a.2.1
theorem ch_sI {c : A3} {k : Nat} {v : Int32} (hc : A c) : Chg A h (sI h c k v) := ⟨rfl, rfl, rfl, rfl, rfl, rfl, fun x hx => by
  show fup h.2.1 c _ x = h.2.1 x
  unfold fup
  rw [if_neg]
  intro z; subst z; exact hx hc, fun _ _ => rfl⟩
theorem ch_sL {c : A3} {k : Nat} {v : Int64} (hc : A c) : Chg A h (sL h c k v) := ⟨rfl, rfl, rfl, rfl, rfl, rfl, fun _ _ => rfl, fun x hx => by
  show fup h.2.2.1 c _ x = h.2.2.1 x
  unfold fup
  rw [if_neg]
  intro z; subst z; exact hx hc⟩
theorem ch_cpI {a c : A3} {s t n : Nat} (hc : A c) : Chg A h (cpI h a s c t n) := ⟨rfl, rfl, rfl, rfl, rfl, rfl, fun x hx => by
  show fup h.2.1 c _ x = h.2.1 x
  unfold fup
  rw [if_neg]
  intro z; subst z; exact hx hc, fun _ _ => rfl⟩
theorem ch_cpL {a c : A3} {s t n : Nat} (hc : A c) : Chg A h (cpL h a s c t n) := ⟨rfl, rfl, rfl, rfl, rfl, rfl, fun _ _ => rfl, fun x hx => by
  show fup h.2.2.1 c _ x = h.2.2.1 x
  unfold fup
  rw [if_neg]
  intro z; subst z; exact hx hc⟩
theorem cpI_S {a c : A3} {s t n : Nat} : gS (cpI h a s c t n) = gS h := rfl
theorem cpI_R {a c : A3} {s t n : Nat} : gR (cpI h a s c t n) = gR h := rfl
theorem cpL_S {a c : A3} {s t n : Nat} : gS (cpL h a s c t n) = gS h := rfl
theorem cpL_R {a c : A3} {s t n : Nat} : gR (cpL h a s c t n) = gR h := rfl
theorem cpL_I {a c : A3} {s t n : Nat} : gI (cpL h a s c t n) = gI h := rfl
theorem cpI_L {a c : A3} {s t n : Nat} : gL (cpI h a s c t n) = gL h := rfl
theorem cpI_I {a c b : A3} {s t n j : Nat} : gI (cpI h a s c t n) b j = if b = c ∧ t ≤ j ∧ j < t + n then gI h a (s + (j - t)) else gI h b j := by
  show fup h.2.1 c (va_cpy (h.2.1 a) (h.2.1 c) s t n) b j = if b = c ∧ t ≤ j ∧ j < t + n then h.2.1 a (s + (j - t)) else h.2.1 b j
  unfold fup
  by_cases z : b = c
  · subst z
    rw [if_pos rfl]
    unfold va_cpy
    by_cases y : t ≤ j ∧ j < t + n
    · simp [y]
    · simp [y]
  · rw [if_neg z, if_neg fun y => z y.1]
theorem cpL_L {a c b : A3} {s t n j : Nat} : gL (cpL h a s c t n) b j = if b = c ∧ t ≤ j ∧ j < t + n then gL h a (s + (j - t)) else gL h b j := by
  show fup h.2.2.1 c (va_cpy (h.2.2.1 a) (h.2.2.1 c) s t n) b j = if b = c ∧ t ≤ j ∧ j < t + n then h.2.2.1 a (s + (j - t)) else h.2.2.1 b j
  unfold fup
  by_cases z : b = c
  · subst z
    rw [if_pos rfl]
    unfold va_cpy
    by_cases y : t ≤ j ∧ j < t + n
    · simp [y]
    · simp [y]
  · rw [if_neg z, if_neg fun y => z y.1]
theorem Lay_ch {L : Nat} {xs : Nat → Int32} (hL : Lay L xs h) (c : Chg A h h') (hA : ∀ a : A3, 40 ≤ a.1 → ¬ A a) : Lay L xs h' := Lay_eq hL c.1 c.2.1 fun a ha => ch_I c (hA a ha)
theorem Cls_of {p : Nat} {P : PL} (hI : ∀ k i, 2 ≤ k → k ≤ 8 → gI h' (k, p, i) = gI h (k, p, i)) (hl : ∀ i, gL h' (4, p, i) = gL h (4, p, i)) (hC : Cls h p P) : Cls h' p P := by
  unfold Cls ClsI ClsL
  simp only [hI 3 _ (by decide) (by decide), hI 5 _ (by decide) (by decide), hI 8 _ (by decide) (by decide), hI 2 _ (by decide) (by decide), hl]
  exact hC
theorem Cls_ch {p : Nat} {P : PL} (hC : Cls h p P) (c : Chg A h h') (hA : ∀ a : A3, a.2.1 = p → 2 ≤ a.1 → a.1 ≤ 8 → ¬ A a) : Cls h' p P := Cls_of (fun k i h1 h2 => ch_I c (hA _ rfl h1 h2)) (fun i => ch_L c (hA _ rfl (show 2 ≤ 4 by decide) (show 4 ≤ 8 by decide))) hC
theorem Mod_of {P : PL} (h20 : gI h' (20, 0, 0) = gI h (20, 0, 0)) (h21 : ∀ k, gI h' (21, k, 0) = gI h (21, k, 0)) (hM : Mod h P) : Mod h' P := by
  unfold Mod
  simp only [h20, h21]
  exact hM
theorem Mod_ch {P : PL} (hM : Mod h P) (c : Chg A h h') (hA : ∀ a : A3, 20 ≤ a.1 → a.1 ≤ 21 → ¬ A a) : Mod h' P := Mod_of (ch_I c (hA _ (by decide) (by decide))) (fun k => ch_I c (hA _ (show 20 ≤ 21 by decide) (show 21 ≤ 21 by decide))) hM
theorem Row_ch {P : PL} {r : A3} {o : Nat} (hM : Row h r o P) (c : Chg A h h') (hA : ¬ A r) : Row h' r o P := by
  unfold Row
  rw [ch_I c hA]
  exact hM
end Chg
