theorem sw_all {l : Launch} {adr : A3 → Nat} {B : Nat} {dC : Nat → ClassId} {dI : Nat → Nat → Nat} {dA : Nat → ClassId} {x : Hp} : ∀ n, SwW l adr B dC dI dA x n := by
  intro n
  induction n with
  | zero => intro d i pc ls st h o h' e; cases e
  | succ n ih =>
    intro d i pc ls st h o h' e p en R s m args below meth c H locs cells slots Q mls c0 s0 F P hRf hRl hRc hRs hEnd hOut hCat
    cases hs : stp i pc ls st h with
    | none => rw [run, hs] at e; cases e
    | some q =>
      rcases q with ⟨pc', ls', st', h1⟩ | ⟨o1, h1⟩ | ⟨j, As, rest⟩
      · have e' : run n d i pc' ls' st' h1 = some (o, h') := by rw [run, hs] at e; exact e
        have hi := run_inv (x := x) _ _ _ _ _ _ _ _ _ e'
        refine st_step F hs P (Nat.le_trans (Nat.le_add_left 8 d) hRf) (Nat.le_trans (Nat.le_add_left 200 _) hRl) (Nat.le_trans (Nat.sub_le_sub_right hi.2.1 c0) hRc) (Nat.le_trans (Nat.sub_le_sub_right hi.2.2 s0) hRs) (fun H' locs' cells' slots' mls' P' => ?_)
        exact ih d i pc' ls' st' h1 o h' e' F P' hRf hRl hRc hRs hEnd hOut hCat
      · have z : o = o1 ∧ h' = h1 := by rw [run, hs] at e; cases e; exact ⟨rfl, rfl⟩
        obtain ⟨rfl, rfl⟩ := z
        exact hEnd pc ls st h H locs cells slots mls hs P
      · obtain ⟨d', oc, hc, rfl, hr, hcase⟩ := run_cl e hs
        obtain ⟨b1, b2, b3⟩ := run_inv (x := x) _ _ _ _ _ _ _ _ _ hr
        have bf := run_fr _ _ _ _ _ _ _ _ _ hr
        have hle : cu hc ≤ cu h' ∧ su hc ≤ su h' := by
          rcases hcase with ⟨v, -, e2⟩ | ⟨k, -, -, rfl, -⟩
          · exact (run_inv (x := x) _ _ _ _ _ _ _ _ _ e2).2
          · exact ⟨Nat.le_refl _, Nat.le_refl _⟩
        obtain ⟨hw, hP, hS, ⟨a1, a2, a3, a4, a5⟩, hl, hn, hD⟩ := id P
        refine W.assume fun hz => ?_
        have hrun := do_call (en := en) (below := below) (R := R) (con_of_sw F.2.2.2.2.2.2.2.2.2.2.2.1 F.2.2.2.2.2.2.2.2.2.2.2.2.1 ih) F hs P hr (fun z => ?_) (by omega) (by omega) (Nat.le_trans (Nat.sub_le_sub_right hle.1 c0) hRc) (Nat.le_trans (Nat.sub_le_sub_right hle.2 s0) hRs) hz
        · have hw1 := hw.1
          refine after_call hrun hS (fun v hv H1 locs1 hP1 hS1 => ?_) (fun k hv hk6 H1 locs1 ce q9 hP1 hS1 g1 g2 g3 => ?_)
          · rcases hcase with ⟨v', hv', e2⟩ | ⟨k, hk, -⟩
            · cases hv.symm.trans hv'
              have ev : (v.map (toV adr)).toList ++ rest.map (toV adr) = (v.toList ++ rest).map (toV adr) := by cases v <;> simp
              rw [ev]
              exact ih (d' + 1) i (pc + 3) ls (v.toList ++ rest) hc o h' e2 F ⟨b1 hw, hP1, hS1, ⟨by omega, by omega, by omega, by omega, fun z => a5 (by omega)⟩, hl, hn, hD⟩ hRf hRl hRc hRs hEnd hOut hCat
            · cases hv.symm.trans hk
          · rcases hcase with ⟨v', hv', e2⟩ | ⟨k', hk', hnt, rfl, ⟨hi9, rfl⟩ | ⟨l9, y, hi9, hh9, rfl⟩⟩
            · cases hv.symm.trans hv'
            · cases hv.symm.trans hk'
              exact hOut k pc H1 locs1 _ _ _ mls ce q9 rfl hk6 hi9 hP1 hS1 (by omega) (by omega) g1 g2 g3
            · cases hv.symm.trans hk'
              exact hCat k pc y H1 locs1 _ _ _ ls mls ce q9 l9 rfl hk6 hi9 hh9 hl hP1 hS1 (by omega) (by omega) g1 g2 g3
        · rcases hcase with ⟨v', hv', -⟩ | ⟨k', -, hnt, -⟩
          · exact ⟨v', hv'⟩
          · rw [z] at hnt; cases hnt
theorem con_all {l : Launch} {adr : A3 → Nat} {B : Nat} {dC : Nat → ClassId} {dI : Nat → Nat → Nat} {dA : Nat → ClassId} {x : Hp} (hadr : ∀ k, k < 393 → adr (nm k) = B + k) (hst : l.stackTraces = false) (n : Nat) : ConW l adr B dC dI dA x n := con_of_sw hadr hst (sw_all n)
