/-! WHAT A FRAME COMES TO, without fuel -/
theorem run_mono : ∀ (n d i pc : Nat) (ls : LS3) (st : List MV) (h : Hp) (r : MO × Hp), run n d i pc ls st h = some r → run (n + 1) d i pc ls st h = some r := by
  intro n
  induction n with
  | zero => intro d i pc ls st h r e; simp [run] at e
  | succ n ih =>
    intro d i pc ls st h r e
    rw [run] at e ⊢
    cases hs : stp i pc ls st h with
    | none => rw [hs] at e; cases e
    | some q =>
      rw [hs] at e
      rcases q with ⟨pc', ls', st', h'⟩ | ⟨o, h'⟩ | ⟨j, As, rest⟩
      · exact ih _ _ _ _ _ _ _ e
      · exact e
      · cases d with
        | zero => cases e
        | succ d =>
          simp only at e ⊢
          cases hc : run n d j 0 (ent j As) [] h with
          | none => rw [hc] at e; cases e
          | some q2 =>
            rw [hc] at e
            rw [ih _ _ _ _ _ _ _ hc]
            rcases q2 with ⟨v | ex, h'⟩
            · exact ih _ _ _ _ _ _ _ e
            · exact e
theorem run_le {n m d i pc : Nat} {ls : LS3} {st : List MV} {h : Hp} {r : MO × Hp} (hnm : n ≤ m) (e : run n d i pc ls st h = some r) : run m d i pc ls st h = some r := by
  induction hnm with
  | refl => exact e
  | step _ ih => exact run_mono _ _ _ _ _ _ _ _ ih
theorem run_two {n m d i pc : Nat} {ls : LS3} {st : List MV} {h : Hp} {r r' : MO × Hp} (e : run n d i pc ls st h = some r) (e' : run m d i pc ls st h = some r') : r = r' := by
  have h1 := run_le (Nat.le_max_left n m) e
  have h2 := run_le (Nat.le_max_right n m) e'
  exact Option.some.inj (h1.symm.trans h2)
/-- the answer of a frame: none where it has none at any fuel -/
noncomputable def Ev (d i pc : Nat) (ls : LS3) (st : List MV) (h : Hp) : Option (MO × Hp) := @dite (Option (MO × Hp)) (∃ r, ∃ n, run n d i pc ls st h = some r) (Classical.propDecidable _) (fun p => some (Classical.choose p)) (fun _ => none)
theorem Ev_of {n d i pc : Nat} {ls : LS3} {st : List MV} {h : Hp} {r : MO × Hp} (e : run n d i pc ls st h = some r) : Ev d i pc ls st h = some r := by
  have p : ∃ r, ∃ n, run n d i pc ls st h = some r := ⟨r, n, e⟩
  unfold Ev
  rw [dif_pos p]
  obtain ⟨m, hm⟩ := Classical.choose_spec p
  rw [run_two hm e]
theorem Ev_run {d i pc : Nat} {ls : LS3} {st : List MV} {h : Hp} {r : MO × Hp} (e : Ev d i pc ls st h = some r) : ∃ n, run n d i pc ls st h = some r := by
  unfold Ev at e
  by_cases p : ∃ r, ∃ n, run n d i pc ls st h = some r
  · rw [dif_pos p] at e
    obtain ⟨m, hm⟩ := Classical.choose_spec p
    rw [Option.some.inj e] at hm
    exact ⟨m, hm⟩
  · rw [dif_neg p] at e
    cases e
theorem opt_ext {α : Type} {a b : Option α} (h : ∀ r, a = some r ↔ b = some r) : a = b := by
  cases a with
  | none => cases b with
    | none => rfl
    | some r => exact ((h r).mpr rfl)
  | some r => exact ((h r).mp rfl).symm
theorem Ev_nx {d i pc : Nat} {ls : LS3} {st : List MV} {h : Hp} {pc' : Nat} {ls' : LS3} {st' : List MV} {h' : Hp} (e : stp i pc ls st h = some (.inl (pc', ls', st', h'))) : Ev d i pc ls st h = Ev d i pc' ls' st' h' := by
  refine opt_ext fun r => ⟨fun q => ?_, fun q => ?_⟩
  · obtain ⟨n, hn⟩ := Ev_run q
    cases n with
    | zero => cases hn
    | succ n =>
      rw [run, e] at hn
      exact Ev_of hn
  · obtain ⟨n, hn⟩ := Ev_run q
    refine Ev_of (n := n + 1) ?_
    rw [run, e]
    exact hn
theorem Ev_dn {d i pc : Nat} {ls : LS3} {st : List MV} {h : Hp} {r : MO × Hp} (e : stp i pc ls st h = some (.inr (.inl r))) : Ev d i pc ls st h = some r := by
  refine Ev_of (n := 1) ?_
  rw [run, e]
/-- what a caller makes of a callee's answer -/
noncomputable def Evk (j d i pc : Nat) (ls : LS3) (rest : List MV) : Option (MO × Hp) → Option (MO × Hp)
  | none => none
  | some (.inl v, h') => Ev d i (pc + 3) ls (v.toList ++ rest) h'
  | some (.inr e, h') => if noThr j = true then none else match lk1 tHnd i with
    | none => some (.inr e, h')
    | some _ => match hnd i pc e with
      | some x => some (.inl (some (vI x)), h')
      | none => none
theorem Ev_call {d i pc : Nat} {ls : LS3} {st : List MV} {h : Hp} {j : Nat} {As rest : List MV} (e : stp i pc ls st h = some (.inr (.inr (j, As, rest)))) : Ev (d + 1) i pc ls st h = Evk j (d + 1) i pc ls rest (Ev d j 0 (ent j As) [] h) := by
  refine opt_ext fun r => ⟨fun q => ?_, fun q => ?_⟩
  · obtain ⟨n, hn⟩ := Ev_run q
    cases n with
    | zero => cases hn
    | succ n =>
      rw [run, e] at hn
      simp only at hn
      cases hc : run n d j 0 (ent j As) [] h with
      | none => rw [hc] at hn; cases hn
      | some q2 =>
        rw [hc] at hn
        rw [Ev_of hc]
        rcases q2 with ⟨v | ex, h'⟩
        · exact Ev_of hn
        · exact hn
  · cases hc : Ev d j 0 (ent j As) [] h with
    | none => rw [hc] at q; cases q
    | some q2 =>
      obtain ⟨m, hm⟩ := Ev_run hc
      rw [hc] at q
      rcases q2 with ⟨v | ex, h'⟩
      · obtain ⟨n, hn⟩ := Ev_run q
        refine Ev_of (n := max m n + 1) ?_
        rw [run, e]
        simp only
        rw [run_le (Nat.le_max_left m n) hm]
        exact run_le (Nat.le_max_right m n) hn
      · refine Ev_of (n := m + 1) ?_
        rw [run, e]
        simp only
        rw [hm]
        exact q
