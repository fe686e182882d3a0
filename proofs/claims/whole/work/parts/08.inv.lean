/-! WHAT STEPS KEEP: cells keep their kinds, what lies outside the region keeps what it holds -/
/-- the inverse of nm -/
def nmB (p : Nat) : Nat := if p < 2 then 1 + 40 * p else 83 + 40 * (p - 2)
def nmi (a : A3) : Nat := match a.1 with
  | 1 => 0
  | 2 => nmB a.2.1
  | 6 => nmB a.2.1 + 1
  | 3 => nmB a.2.1 + 2 + 2 * a.2.2
  | 4 => nmB a.2.1 + 3 + 2 * a.2.2
  | 7 => nmB a.2.1 + 30
  | 5 => nmB a.2.1 + 31 + a.2.2
  | 8 => nmB a.2.1 + 39
  | 9 => 81
  | 10 => 82
  | 11 => 363
  | 12 => 364
  | 13 => 365
  | 14 => 366
  | 15 => 367
  | 20 => 368
  | 21 => 369 + a.2.1
  | 30 => 391
  | _ => 392
theorem nm_inv : ∀ k, k < 393 → nmi (nm k) = k := by decide +kernel
theorem nm_inj {i j : Nat} (hi : i < 393) (hj : j < 393) (h : nm i = nm j) : i = j := by
  have h1 := nm_inv i hi
  rw [h, nm_inv j hj] at h1
  exact h1.symm
/-- h keeps the kinds of h0 and what stands outside; only cells of the region were written -/
def Kp (h0 h : Hp) : Prop := h.1 = h0.1 ∧ cnt h = cnt h0 ∧ cu h = cu h0 ∧ su h = su h0 ∧ ∀ a, ¬ (1 ≤ (gS h0 a).1 ∧ (gS h0 a).1 ≤ 8) → (∀ k, gI h a k = gI h0 a k) ∧ ∀ k, gR h a k = gR h0 a k
theorem Kp.rfl {h : Hp} : Kp h h := ⟨Eq.refl _, Eq.refl _, Eq.refl _, Eq.refl _, fun _ _ => ⟨fun _ => Eq.refl _, fun _ => Eq.refl _⟩⟩
theorem Kp_sI {h : Hp} {a : A3} {k : Nat} {v : Int32} (ha : 1 ≤ (gS h a).1 ∧ (gS h a).1 ≤ 8) : Kp h (sI h a k v) := by
  refine ⟨Eq.refl _, Eq.refl _, Eq.refl _, Eq.refl _, fun b hb => ⟨fun j => ?_, fun j => Eq.refl _⟩⟩
  have hne : b ≠ a := fun e => hb (e ▸ ha)
  show fup h.2.1 a _ b j = h.2.1 b j
  simp [fup, hne]
theorem Kp_cpI {h : Hp} {a b : A3} {x y z : Nat} (ha : 1 ≤ (gS h b).1 ∧ (gS h b).1 ≤ 8) : Kp h (cpI h a x b y z) := by
  refine ⟨Eq.refl _, Eq.refl _, Eq.refl _, Eq.refl _, fun c hb => ⟨fun j => ?_, fun j => Eq.refl _⟩⟩
  have hne : c ≠ b := fun e => hb (e ▸ ha)
  show fup h.2.1 b _ c j = h.2.1 c j
  simp [fup, hne]
theorem Kp_sL {h : Hp} {a : A3} {k : Nat} {v : Int64} : Kp h (sL h a k v) := ⟨Eq.refl _, Eq.refl _, Eq.refl _, Eq.refl _, fun _ _ => ⟨fun _ => Eq.refl _, fun _ => Eq.refl _⟩⟩
theorem Kp_cpL {h : Hp} {a b : A3} {x y z : Nat} : Kp h (cpL h a x b y z) := ⟨Eq.refl _, Eq.refl _, Eq.refl _, Eq.refl _, fun _ _ => ⟨fun _ => Eq.refl _, fun _ => Eq.refl _⟩⟩
theorem Kp_sD {h : Hp} {a : A3} {k : Nat} {v : UInt64} : Kp h (sD h a k v) := ⟨Eq.refl _, Eq.refl _, Eq.refl _, Eq.refl _, fun _ _ => ⟨fun _ => Eq.refl _, fun _ => Eq.refl _⟩⟩
theorem Kp_sR {h : Hp} {a : A3} {k : Nat} {v : Option A3} (ha : 1 ≤ (gS h a).1 ∧ (gS h a).1 ≤ 8) : Kp h (sR h a k v) := by
  refine ⟨Eq.refl _, Eq.refl _, Eq.refl _, Eq.refl _, fun b hb => ⟨fun j => Eq.refl _, fun j => ?_⟩⟩
  have hne : b ≠ a := fun e => hb (e ▸ ha)
  show fup h.2.2.2.1 a _ b j = h.2.2.2.1 b j
  simp [fup, hne]
/-- a new cell, of a kind from 1 to 8 -/
def Mk (h0 h : Hp) : Prop := ∃ q n, h = mk h0 (nm (cnt h0)) q n ∧ 1 ≤ q.1 ∧ q.1 ≤ 8 ∧ (q.1 = 1 → q.2 < 8) ∧ cu h0 = cnt h0 ∧ cnt h0 < 393 ∧ gS h0 (nm (cnt h0)) = (0, 0)
def Sx (h0 h : Hp) : Prop := Kp h0 h ∨ Mk h0 h
theorem tNew_ok : ∀ q ∈ tNew, q.2 < 8 := by decide +kernel
theorem tANew_ok : ∀ q ∈ tANew, 1 ≤ q.2 ∧ q.2 ≤ 8 ∧ ¬ q.2 = 1 := by decide +kernel
theorem jmp_sp {pc : Nat} {off : Int} {ls : LS3} {st : List MV} {h : Hp} {r : MStp} (e : jmp pc off ls st h = some r) : ∃ t : Nat, (pc : Int) + off = (t : Int) ∧ r = .inl (t, ls, st, h) := by
  unfold jmp at e
  split at e
  · rename_i t ht
    cases e
    exact ⟨t, ht, Eq.refl _⟩
  · cases e
theorem xPut_nx {i pc idx : Nat} {ls : LS3} {st : List MV} {h : Hp} {pc' : Nat} {ls' : LS3} {st' : List MV} {h' : Hp} (e : xPut i pc idx ls st h = some (.inl (pc', ls', st', h'))) : Sx h h' := by
  unfold xPut at e
  repeat' split at e
  all_goals first
    | (cases e; done)
    | (rename_i q; cases e; exact Or.inl (Kp_sI (by rw [q.1]; exact ⟨Nat.le_refl _, by show (1 : Nat) ≤ 8; decide⟩)))
    | (rename_i q; cases e; exact Or.inl (Kp_sR (by rw [q.1]; exact ⟨Nat.le_refl _, by show (1 : Nat) ≤ 8; decide⟩)))
theorem xNew_nx {i pc idx : Nat} {ls : LS3} {st : List MV} {h : Hp} {pc' : Nat} {ls' : LS3} {st' : List MV} {h' : Hp} (e : xNew i pc idx ls st h = some (.inl (pc', ls', st', h'))) : Sx h h' := by
  unfold xNew at e
  split at e
  · rename_i c hc
    split at e
    · rename_i q
      cases e
      exact Or.inr ⟨_, _, Eq.refl _, Nat.le_refl _, by show (1 : Nat) ≤ 8; decide, fun _ => tNew_ok _ (lk2_mem hc), q.1, q.2.1, q.2.2⟩
    · cases e
  · repeat' split at e
    all_goals (cases e; done)
theorem xNewA_nx {pc ln k : Nat} {ls : LS3} {st : List MV} {h : Hp} {pc' : Nat} {ls' : LS3} {st' : List MV} {h' : Hp} (hk : 1 ≤ k ∧ k ≤ 8 ∧ ¬ k = 1) (e : xNewA pc ln k ls st h = some (.inl (pc', ls', st', h'))) : Sx h h' := by
  unfold xNewA at e
  split at e
  · split at e
    · rename_i q
      cases e
      exact Or.inr ⟨_, _, Eq.refl _, hk.1, hk.2.1, fun z => absurd z hk.2.2, q.2.2.1, q.2.2.2.1, q.2.2.2.2⟩
    · cases e
  · cases e
theorem xPrim_nx {i pc idx : Nat} {b : Bool} {ls : LS3} {st : List MV} {h : Hp} {pc' : Nat} {ls' : LS3} {st' : List MV} {h' : Hp} (e : xPrim i pc idx b ls st h = some (.inl (pc', ls', st', h'))) : Sx h h' := by
  unfold xPrim at e
  repeat' split at e
  all_goals first
    | (cases e; done)
    | (cases e; exact Or.inl Kp.rfl)
    | (rename_i q; cases e; exact Or.inl (Kp_cpI (by rw [q.2]; decide)))
    | (cases e; exact Or.inl Kp_cpL)
theorem jmp_nx {pc : Nat} {off : Int} {ls : LS3} {st : List MV} {h : Hp} {pc' : Nat} {ls' : LS3} {st' : List MV} {h' : Hp} (e : jmp pc off ls st h = some (.inl (pc', ls', st', h'))) : Sx h h' := by
  obtain ⟨t, -, q⟩ := jmp_sp e
  cases q
  exact Or.inl Kp.rfl
set_option maxHeartbeats 4000000 in
theorem stp_nx {i pc : Nat} {ls : LS3} {st : List MV} {h : Hp} {pc' : Nat} {ls' : LS3} {st' : List MV} {h' : Hp} (e : stp i pc ls st h = some (.inl (pc', ls', st', h'))) : Sx h h' := by
  unfold stp at e
  split at e
  · rename_i ins len hd
    cases ins <;> simp only [exec1, ldI, ldA, stI, stA, stv, bin, br1, br2, xGet, xAld, xTab, xRet, xCall] at e <;> (try (cases e; done)) <;> repeat' split at e
    all_goals first
      | (cases e; done)
      | (cases e; exact Or.inl Kp.rfl)
      | exact jmp_nx e
      | exact xPut_nx e
      | exact xNew_nx e
      | exact xPrim_nx e
      | exact xNewA_nx (by decide) e
      | (rename_i k hk; exact xNewA_nx (tANew_ok _ (lk2_mem hk)) e)
      | (rename_i q; cases e; exact Or.inl (Kp_sI (by rw [q.1]; decide)))
      | (rename_i q; cases e; exact Or.inl (Kp_sR (by rcases q.1 with z | z | z <;> rw [z] <;> decide)))
      | (cases e; exact Or.inl Kp_sL)
      | (cases e; exact Or.inl Kp_sD)
  · cases e
/-- a frame's end: nothing is written, or an exception's cell is made -/
theorem stp_dn {i pc : Nat} {ls : LS3} {st : List MV} {h : Hp} {o : MO} {h' : Hp} (e : stp i pc ls st h = some (.inr (.inl (o, h')))) : h' = h ∧ (∃ v, o = .inl v) ∨ h' = gb h ∧ ∃ x, o = .inr x := by
  unfold stp at e
  split at e
  · rename_i ins len hd
    cases ins <;> simp only [exec1, ldI, ldA, stI, stA, stv, bin, br1, br2, xGet, xPut, xAld, xTab, xRet, xCall, xNew, xNewA, xPrim, jmp] at e <;> (try (cases e; done)) <;> repeat' split at e
    all_goals first
      | (cases e; done)
      | (cases e; exact Or.inl ⟨Eq.refl _, _, Eq.refl _⟩)
      | (cases e; exact Or.inr ⟨Eq.refl _, _, Eq.refl _⟩)
  · cases e
/-- what the world asks of a heap; x: the heap at the law's start, which holds what stands outside the region -/
def WR (x h : Hp) : Prop := cnt h ≤ cu h ∧ cnt h ≤ 393 ∧ (∀ k, k < cnt h → 1 ≤ (gS h (nm k)).1 ∧ (gS h (nm k)).1 ≤ 8 ∧ ((gS h (nm k)).1 = 1 → (gS h (nm k)).2 < 8)) ∧ (∀ a, 1 ≤ (gS h a).1 → (gS h a).1 ≤ 8 → ∃ k, k < cnt h ∧ nm k = a) ∧ (∀ a, 9 ≤ (gS h a).1 ∨ 9 ≤ (gS x a).1 → gS h a = gS x a ∧ (∀ k, gI h a k = gI x a k) ∧ ∀ k, gR h a k = gR x a k) ∧ 9 ≤ (gS x (51, 0, 0)).1
theorem mk_S {h : Hp} {a b : A3} {q : Nat × Nat} {n : Nat} : gS (mk h a q n) b = if b = a then q else gS h b := Eq.refl _
theorem mk_I {h : Hp} {a b : A3} {q : Nat × Nat} {n : Nat} (hb : b ≠ a) (k : Nat) : gI (mk h a q n) b k = gI h b k := by
  show fup h.2.1 a _ b k = _
  simp [fup, hb, gI]
theorem mk_L {h : Hp} {a b : A3} {q : Nat × Nat} {n : Nat} (hb : b ≠ a) (k : Nat) : gL (mk h a q n) b k = gL h b k := by
  show fup h.2.2.1 a _ b k = _
  simp [fup, hb, gL]
theorem mk_R {h : Hp} {a b : A3} {q : Nat × Nat} {n : Nat} (hb : b ≠ a) (k : Nat) : gR (mk h a q n) b k = gR h b k := by
  show fup h.2.2.2.1 a _ b k = _
  simp [fup, hb, gR]
theorem mk_D {h : Hp} {a b : A3} {q : Nat × Nat} {n : Nat} (hb : b ≠ a) (k : Nat) : gD (mk h a q n) b k = gD h b k := by
  show fup h.2.2.2.2.1 a _ b k = _
  simp [fup, hb, gD]
theorem WR_Kp {x h0 h : Hp} (w : WR x h0) (p : Kp h0 h) : WR x h := by
  obtain ⟨w1, w2, w3, w4, w5, w6⟩ := w
  obtain ⟨p1, p2, p3, p4, p5⟩ := p
  have hS : ∀ a, gS h a = gS h0 a := fun a => by show h.1 a = h0.1 a; rw [p1]
  refine ⟨by rw [p2, p3]; exact w1, by rw [p2]; exact w2, fun k hk => ?_, fun a h1 h2 => ?_, fun a ha => ?_, w6⟩
  · rw [hS]
    exact w3 k (by rw [← p2]; exact hk)
  · rw [hS] at h1 h2
    obtain ⟨k, q1, q2⟩ := w4 a h1 h2
    exact ⟨k, by rw [p2]; exact q1, q2⟩
  · rw [hS] at ha ⊢
    obtain ⟨q1, q2, q3⟩ := w5 a ha
    have hn : ¬ (1 ≤ (gS h0 a).1 ∧ (gS h0 a).1 ≤ 8) := by
      rcases ha with z | z
      · omega
      · rw [q1]; omega
    obtain ⟨r1, r2⟩ := p5 a hn
    exact ⟨q1, fun k => (r1 k).trans (q2 k), fun k => (r2 k).trans (q3 k)⟩
theorem WR_Mk {x h0 h : Hp} (w : WR x h0) (p : Mk h0 h) : WR x h := by
  obtain ⟨w1, w2, w3, w4, w5, w6⟩ := w
  obtain ⟨q, n, rfl, p1, p2, p2', p3, p4, p5⟩ := p
  refine ⟨?_, ?_, fun k hk => ?_, fun a h1 h2 => ?_, fun a ha => ?_, w6⟩
  · show cnt h0 + 1 ≤ cu h0 + 1
    omega
  · show cnt h0 + 1 ≤ 393
    omega
  · have hk' : k < cnt h0 + 1 := hk
    rw [mk_S]
    by_cases e : nm k = nm (cnt h0)
    · rw [if_pos e]; exact ⟨p1, p2, p2'⟩
    · rw [if_neg e]
      refine w3 k ?_
      have : k ≠ cnt h0 := fun z => e (by rw [z])
      omega
  · rw [mk_S] at h1 h2
    by_cases e : a = nm (cnt h0)
    · exact ⟨cnt h0, Nat.lt_succ_self _, e.symm⟩
    · rw [if_neg e] at h1 h2
      obtain ⟨k, q1, q2⟩ := w4 a h1 h2
      exact ⟨k, Nat.lt_succ_of_lt q1, q2⟩
  · rw [mk_S] at ha ⊢
    by_cases e : a = nm (cnt h0)
    · rw [if_pos e] at ha
      rcases ha with z | z
      · omega
      · have := (w5 a (Or.inr z)).1
        rw [e, p5] at this
        rw [e, ← this] at z
        simp at z
    · rw [if_neg e] at ha ⊢
      obtain ⟨q1, q2, q3⟩ := w5 a ha
      exact ⟨q1, fun k => (mk_I e k).trans (q2 k), fun k => (mk_R e k).trans (q3 k)⟩
theorem WR_Sx {x h0 h : Hp} (w : WR x h0) (p : Sx h0 h) : WR x h := p.elim (WR_Kp w) (WR_Mk w)
theorem WR_gb {x h : Hp} (w : WR x h) : WR x (gb h) := ⟨Nat.le_succ_of_le w.1, w.2⟩
theorem Sx_cu {h0 h : Hp} (p : Sx h0 h) : cu h0 ≤ cu h ∧ su h0 ≤ su h := by
  rcases p with ⟨_, _, p3, p4, _⟩ | ⟨q, n, rfl, _⟩
  · rw [p3, p4]; exact ⟨Nat.le_refl _, Nat.le_refl _⟩
  · exact ⟨Nat.le_succ _, Nat.le_add_right _ _⟩
/-- a whole run keeps the world's form, and its counts go up -/
theorem run_inv {x : Hp} : ∀ (n d i pc : Nat) (ls : LS3) (st : List MV) (h : Hp) (o : MO) (h' : Hp), run n d i pc ls st h = some (o, h') → (WR x h → WR x h') ∧ cu h ≤ cu h' ∧ su h ≤ su h' := by
  intro n
  induction n with
  | zero => intro d i pc ls st h o h' e; cases e
  | succ n ih =>
    intro d i pc ls st h o h' e
    rw [run] at e
    cases hs : stp i pc ls st h with
    | none => rw [hs] at e; cases e
    | some q =>
      rw [hs] at e
      rcases q with ⟨pc', ls', st', h1⟩ | ⟨o1, h1⟩ | ⟨j, As, rest⟩
      · obtain ⟨a1, a2, a3⟩ := ih _ _ _ _ _ _ _ _ e
        have b := Sx_cu (stp_nx hs)
        exact ⟨fun w => a1 (WR_Sx w (stp_nx hs)), Nat.le_trans b.1 a2, Nat.le_trans b.2 a3⟩
      · cases e
        rcases stp_dn hs with ⟨rfl, -⟩ | ⟨rfl, -⟩
        · exact ⟨id, Nat.le_refl _, Nat.le_refl _⟩
        · exact ⟨WR_gb, Nat.le_succ _, Nat.le_add_right _ _⟩
      · cases d with
        | zero => cases e
        | succ d =>
          simp only at e
          cases hc : run n d j 0 (ent j As) [] h with
          | none => rw [hc] at e; cases e
          | some q2 =>
            rw [hc] at e
            obtain ⟨oc, hc'⟩ := q2
            obtain ⟨b1, b2, b3⟩ := ih _ _ _ _ _ _ _ _ hc
            rcases oc with v | ex
            · obtain ⟨a1, a2, a3⟩ := ih _ _ _ _ _ _ _ _ e
              exact ⟨fun w => a1 (b1 w), Nat.le_trans b2 a2, Nat.le_trans b3 a3⟩
            · have hh : h' = hc' := by
                simp only at e
                repeat' split at e
                all_goals first | (cases e; rfl) | (cases e; done)
              rw [hh]
              exact ⟨b1, b2, b3⟩
theorem run_fr : ∀ (n d i pc : Nat) (ls : LS3) (st : List MV) (h : Hp) (o : MO) (h' : Hp), run n d i pc ls st h = some (o, h') → cu h + cnt h' ≤ cu h' + cnt h := by
  intro n
  induction n with
  | zero => intro d i pc ls st h o h' e; cases e
  | succ n ih =>
    intro d i pc ls st h o h' e
    rw [run] at e
    cases hs : stp i pc ls st h with
    | none => rw [hs] at e; cases e
    | some q =>
      rw [hs] at e
      rcases q with ⟨pc', ls', st', h1⟩ | ⟨o1, h1⟩ | ⟨j, As, rest⟩
      · have a := ih _ _ _ _ _ _ _ _ e
        have b : cu h + cnt h1 ≤ cu h1 + cnt h := by
          rcases stp_nx hs with ⟨_, p2, p3, _⟩ | ⟨q, n, rfl, _⟩
          · rw [p2, p3]; exact Nat.le_refl _
          · show cu h + (cnt h + 1) ≤ cu h + 1 + cnt h; omega
        omega
      · cases e
        rcases stp_dn hs with ⟨rfl, -⟩ | ⟨rfl, -⟩
        · exact Nat.le_refl _
        · show cu h + cnt h ≤ cu h + 1 + cnt h; omega
      · cases d with
        | zero => cases e
        | succ d =>
          simp only at e
          cases hc : run n d j 0 (ent j As) [] h with
          | none => rw [hc] at e; cases e
          | some q2 =>
            rw [hc] at e
            obtain ⟨oc, hc'⟩ := q2
            have b := ih _ _ _ _ _ _ _ _ hc
            rcases oc with v | ex
            · have a := ih _ _ _ _ _ _ _ _ e
              omega
            · have hh : h' = hc' := by
                simp only at e
                repeat' split at e
                all_goals first | (cases e; rfl) | (cases e; done)
              rw [hh]
              exact b
