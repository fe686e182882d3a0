/-! LAWS: what a caller gets, what a heap answers -/
theorem Evk_v {j d i pc : Nat} {ls : LS3} {rest : List MV} {v : MV} {h : Hp} : Evk j d i pc ls rest (some (.inl (some v), h)) = Ev d i (pc + 3) ls (v :: rest) h := rfl
theorem Evk_n {j d i pc : Nat} {ls : LS3} {rest : List MV} {h : Hp} : Evk j d i pc ls rest (some (.inl none, h)) = Ev d i (pc + 3) ls rest h := rfl
theorem Evk_x {j d i pc e : Nat} {ls : LS3} {rest : List MV} {h : Hp} (h1 : noThr j = false) (h2 : lk1 tHnd i = none) : Evk j d i pc ls rest (some (.inr e, h)) = some (.inr e, h) := by
  show (if noThr j = true then (none : Option (MO × Hp)) else match lk1 tHnd i with
    | none => some ((.inr e : MO), h)
    | some _ => match hnd i pc e with
      | some x => some ((.inl (some (vI x)) : MO), h)
      | none => none) = _
  rw [h1, h2]; rfl
theorem Evk_c {j d i pc e : Nat} {ls : LS3} {rest : List MV} {h : Hp} {x : Int32} (h1 : noThr j = false) (h3 : hnd i pc e = some x) : Evk j d i pc ls rest (some (.inr e, h)) = some (.inl (some (vI x)), h) := by
  have h2 : ∃ l, lk1 tHnd i = some l := by
    unfold hnd at h3
    split at h3
    · exact ⟨_, by assumption⟩
    · cases h3
  obtain ⟨l, h2⟩ := h2
  show (if noThr j = true then (none : Option (MO × Hp)) else match lk1 tHnd i with
    | none => some ((.inr e : MO), h)
    | some _ => match hnd i pc e with
      | some x => some ((.inl (some (vI x)) : MO), h)
      | none => none) = _
  rw [h1, h2, h3]; rfl
theorem sI_S {h : Hp} {a : A3} {k : Nat} {v : Int32} : gS (sI h a k v) = gS h := rfl
theorem sL_S {h : Hp} {a : A3} {k : Nat} {v : Int64} : gS (sL h a k v) = gS h := rfl
theorem sR_S {h : Hp} {a : A3} {k : Nat} {v : Option A3} : gS (sR h a k v) = gS h := rfl
theorem sI_R {h : Hp} {a : A3} {k : Nat} {v : Int32} : gR (sI h a k v) = gR h := rfl
theorem sL_R {h : Hp} {a : A3} {k : Nat} {v : Int64} : gR (sL h a k v) = gR h := rfl
theorem sI_L {h : Hp} {a : A3} {k : Nat} {v : Int32} : gL (sI h a k v) = gL h := rfl
theorem sL_I {h : Hp} {a : A3} {k : Nat} {v : Int64} : gI (sL h a k v) = gI h := rfl
theorem sR_I {h : Hp} {a : A3} {k : Nat} {v : Option A3} : gI (sR h a k v) = gI h := rfl
theorem sR_L {h : Hp} {a : A3} {k : Nat} {v : Option A3} : gL (sR h a k v) = gL h := rfl
theorem sI_I {h : Hp} {a b : A3} {k j : Nat} {v : Int32} : gI (sI h a k v) b j = if b = a ∧ j = k then v else gI h b j := by
  show fup h.2.1 a (upd (h.2.1 a) k v) b j = if b = a ∧ j = k then v else h.2.1 b j
  by_cases e1 : b = a
  · subst e1
    by_cases e2 : j = k
    · simp [fup, upd, e2]
    · simp [fup, upd, e2]
  · simp [fup, e1]
theorem inB_of {k n : Nat} (h : k < n) (hn : n < 2147483648) : inB (Int32.ofNat k) n := by
  have e : (Int32.ofNat k).toNatClampNeg = k := Int32.toNatClampNeg_ofNat_of_lt (Nat.lt_trans h hn)
  refine ⟨?_, by rw [e]; exact h⟩
  have := (Int32.ofNat_le_ofNat (k := 0) (n := k) (by omega) (by omega)).mpr (Nat.zero_le _)
  exact this
theorem nat_of {k : Nat} (hn : k < 2147483648) : (Int32.ofNat k).toNatClampNeg = k := Int32.toNatClampNeg_ofNat_of_lt hn
