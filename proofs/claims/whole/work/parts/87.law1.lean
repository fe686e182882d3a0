/-! THE LAW'S LOOP: what holds of every run; the loop's frame -/



theorem run_S : ∀ (n d i pc : Nat) (ls : LS3) (st : List MV) (h : Hp) (o : MO) (h' : Hp), run n d i pc ls st h = some (o, h') → ∀ a, gS h a ≠ (0, 0) → gS h' a = gS h a ∧ (9 ≤ (gS h a).1 → ∀ k, gI h' a k = gI h a k) := by
  have sx : ∀ h h1 : Hp, Sx h h1 → ∀ a, gS h a ≠ (0, 0) → gS h1 a = gS h a ∧ (9 ≤ (gS h a).1 → ∀ k, gI h1 a k = gI h a k) := by
    intro h h1 p a ha
    rcases p with ⟨p1, p2, p3, p4, p5⟩ | ⟨q, n, rfl, p1, p2, p3, p4, p5, p6⟩
    · exact ⟨congrFun p1 a, fun z k => (p5 a (by omega)).1 k⟩
    · have ne : a ≠ nm (cnt h) := fun z => ha (by rw [z]; exact p6)
      exact ⟨by rw [mk_S, if_neg ne], fun z k => mk_I ne k⟩
  intro n
  induction n with
  | zero => intro d i pc ls st h o h' e; cases e
  | succ n ih =>
    intro d i pc ls st h o h' e
    rw [run] at e
    cases hs : stp i pc ls st h with
    | none => rw [hs] at e; cases e
    | some q =>
      rw [hs] at e
      rcases q with ⟨pc', ls', st', h1⟩ | ⟨o1, h1⟩ | ⟨j, As, rest⟩
      · have b := sx h h1 (stp_nx hs)
        have a1 := ih _ _ _ _ _ _ _ _ e
        intro a ha
        obtain ⟨b1, b2⟩ := b a ha
        obtain ⟨c1, c2⟩ := a1 a (by rw [b1]; exact ha)
        exact ⟨c1.trans b1, fun z k => (c2 (by rw [b1]; exact z) k).trans (b2 z k)⟩
      · cases e
        rcases stp_dn hs with ⟨rfl, -⟩ | ⟨rfl, -⟩
        · exact fun a _ => ⟨rfl, fun _ _ => rfl⟩
        · exact fun a _ => ⟨rfl, fun _ _ => rfl⟩
      · cases d with
        | zero => cases e
        | succ d =>
          simp only at e
          cases hc : run n d j 0 (ent j As) [] h with
          | none => rw [hc] at e; cases e
          | some q2 =>
            rw [hc] at e
            obtain ⟨oc, hc'⟩ := q2
            have b := ih _ _ _ _ _ _ _ _ hc
            rcases oc with v | ex
            · have a1 := ih _ _ _ _ _ _ _ _ e
              intro a ha
              obtain ⟨b1, b2⟩ := b a ha
              obtain ⟨c1, c2⟩ := a1 a (by rw [b1]; exact ha)
              exact ⟨c1.trans b1, fun z k => (c2 (by rw [b1]; exact z) k).trans (b2 z k)⟩
            · have hh : h' = hc' := by
                simp only at e
                repeat' split at e
                all_goals first | (cases e; rfl) | (cases e; done)
              rw [hh]
              exact b
theorem Ev_S {d i pc : Nat} {ls : LS3} {st : List MV} {h h' : Hp} {o : MO} (e : Ev d i pc ls st h = some (o, h')) : ∀ a, gS h a ≠ (0, 0) → gS h' a = gS h a ∧ (9 ≤ (gS h a).1 → ∀ k, gI h' a k = gI h a k) := by
  obtain ⟨n, hn⟩ := Ev_run e
  exact run_S n _ _ _ _ _ _ _ _ hn
/-- truths are answered as 0 and 1 -/
theorem stp_B {i pc : Nat} {ls : LS3} {st : List MV} {h h' : Hp} {b : Int32} (hR : mR i = some .boolean) (e : stp i pc ls st h = some (.inr (.inl (.inl (some (vI b)), h')))) : b = 0 ∨ b = 1 := by
  unfold stp at e
  split at e
  · rename_i ins len hd
    cases ins <;> simp only [exec1, ldI, ldA, stI, stA, stv, bin, br1, br2, xGet, xPut, xAld, xTab, xCall, xNew, xNewA, xPrim, jmp] at e <;> (try (cases e; done))
    case ireturn =>
      split at e
      · unfold xRet at e
        rw [hR] at e
        rcases st with _ | ⟨v, _ | ⟨v2, st2⟩⟩
        · first | (cases e; done) | (simp at e; done)
        · rcases v with x | v
          · simp only at e
            split at e
            · cases e; assumption
            · cases e
          · first | (cases e; done) | (simp at e; done)
        · first | (cases e; done) | (rcases v with x | v <;> simp at e; done)
      · cases e
    all_goals (repeat' split at e)
    all_goals (cases e; done)
  · cases e
theorem run_B : ∀ (n d i pc : Nat) (ls : LS3) (st : List MV) (h : Hp) (b : Int32) (h' : Hp), mR i = some .boolean → lk1 tHnd i = none → run n d i pc ls st h = some (.inl (some (vI b)), h') → b = 0 ∨ b = 1 := by
  intro n
  induction n with
  | zero => intro d i pc ls st h o h' _ _ e; cases e
  | succ n ih =>
    intro d i pc ls st h b h' hR hH e
    rw [run] at e
    cases hs : stp i pc ls st h with
    | none => rw [hs] at e; cases e
    | some q =>
      rw [hs] at e
      rcases q with ⟨pc', ls', st', h1⟩ | ⟨o1, h1⟩ | ⟨j, As, rest⟩
      · exact ih _ _ _ _ _ _ _ _ hR hH e
      · cases e
        exact stp_B hR hs
      · cases d with
        | zero => cases e
        | succ d =>
          simp only at e
          cases hc : run n d j 0 (ent j As) [] h with
          | none => rw [hc] at e; cases e
          | some q2 =>
            rw [hc] at e
            obtain ⟨oc, hc'⟩ := q2
            rcases oc with v | ex
            · exact ih _ _ _ _ _ _ _ _ hR hH e
            · simp only [hH] at e
              split at e <;> cases e
theorem Ev_B {d i pc : Nat} {ls : LS3} {st : List MV} {h h' : Hp} {b : Int32} (e : Ev d i pc ls st h = some (.inl (some (vI b)), h')) (hR : mR i = some .boolean) (hH : lk1 tHnd i = none) : b = 0 ∨ b = 1 := by
  obtain ⟨n, hn⟩ := Ev_run e
  exact run_B n _ _ _ _ _ _ _ _ hR hH hn
theorem lg_self {x : Int64} : lg_cmp x x = 0 := by
  unfold lg_cmp
  rw [if_neg (Int64.lt_irrefl)]
  simp
theorem j_01 : inB 0 1 := ⟨Int32.le_refl _, Nat.zero_lt_one⟩
theorem n_z0 : (0 : Int32).toNatClampNeg = 0 := rfl
/-- the law's frame behind a call: both stand as before, at most an exception more -/
def LG (L : Nat) (xs : Nat → Int32) (d c : Nat) (h : Hp) (E : Option (MO × Hp)) : Prop := ∃ b6 b7 b8 h', E = Ev (d + 21) 278 2575 [some (vR (40, 0, 0)), some (vR (1, 0, 0)), some (vR (20, 0, 0)), some (vR (30, 0, 0)), some (vR (31, 0, 0)), some (vI (iN (5 * c))), b6, b7, b8] [] h' ∧ Inv L xs h' ∧ cnt h' = cnt h ∧ cu h' ≤ cu h + 1 ∧ su h' ≤ su h + 6
section LawG
variable {L : Nat} {xs : Nat → Int32} {h h1 : Hp} {d : Nat}
theorem sc_S (f : ∀ a, gS h a ≠ (0, 0) → gS h1 a = gS h a ∧ (9 ≤ (gS h a).1 → ∀ k, gI h1 a k = gI h a k)) (hL : Lay L xs h) : gS h1 (20, 0, 0) = (1, 7) ∧ gS h1 (40, 0, 0) = (9, L) ∧ ∀ j, gI h1 (40, 0, 0) j = xs j := by
  have s20 := y_S20 hL
  have s40 := y_S40 hL
  obtain ⟨x1, -⟩ := f (20, 0, 0) (by rw [s20]; simp)
  obtain ⟨x2, x3⟩ := f (40, 0, 0) (by rw [s40]; simp)
  exact ⟨x1.trans s20, x2.trans s40, fun j => (x3 (by rw [s40]; exact Nat.le_refl _) j).trans (y_V40 hL)⟩
end LawG
section LawC87
variable {L : Nat} {xs : Nat → Int32} {h : Hp} {d c : Nat}
theorem L0 (hI : Inv L xs h) (hc : 5 * c + 5 ≤ L) (hl : L ≤ 2560) {a6 a7 a8 : Option MV} : LG L xs d c h (Ev (d + 21) 278 212 [some (vR (40, 0, 0)), some (vR (1, 0, 0)), some (vR (20, 0, 0)), some (vR (30, 0, 0)), some (vR (31, 0, 0)), some (vI (iN (5 * c))), a6, a7, a8] [] h) := by
  have q0 : (iN (5 * c)).toNatClampNeg = 5 * c := n_i (by omega)
  have q1 : iN (5 * c) + 1 = iN (5 * c + 1) := iN_add _ 1
  have q2 : iN (5 * c) + 2 = iN (5 * c + 2) := iN_add _ 2
  have q3 : iN (5 * c) + 3 = iN (5 * c + 3) := iN_add _ 3
  have q4 : iN (5 * c) + 4 = iN (5 * c + 4) := iN_add _ 4
  have b1 : inB (iN (5 * c + 1)) L := inB_of (by omega) (by omega)
  have b2 : inB (iN (5 * c + 2)) L := inB_of (by omega) (by omega)
  have b3 : inB (iN (5 * c + 3)) L := inB_of (by omega) (by omega)
  have b4 : inB (iN (5 * c + 4)) L := inB_of (by omega) (by omega)
  have t1 : (iN (5 * c + 1)).toNatClampNeg = 5 * c + 1 := n_i (by omega)
  have t2 : (iN (5 * c + 2)).toNatClampNeg = 5 * c + 2 := n_i (by omega)
  have t3 : (iN (5 * c + 3)).toNatClampNeg = 5 * c + 3 := n_i (by omega)
  have t4 : (iN (5 * c + 4)).toNatClampNeg = 5 * c + 4 := n_i (by omega)
  obtain ⟨hL, P, H, X, ci, mi, wi⟩ := hI
  obtain ⟨k, h1, h2, e1, e2, i2, n1, n2, n3⟩ := c0 (d := d) hL ci mi wi
  obtain ⟨s20, s40, i40⟩ := sc_S (Ev_S e1) hL
  refine ⟨a6, a7, a8, h2, ?_, i2, n1, n2, n3⟩
  simp only [v278_212, v278_213, v278_216, v278_217, v278_220, v278_223, v278_224, n_14, n_8, inB_of, Nat.reduceLT, Prod.mk.injEq, true_and, rB, rBn, rBa, rBb, rBc, rBd, Evk_v, Evk_n, Nat.reduceAdd, Nat.reduceLeDiff, Nat.le_refl, Nat.zero_le, cz_0, cz_1, cI_1, cO_1, cz_2, cI_2, cO_2, cL_2, cD_2, cz_3, cI_3, cO_3, cL_3, cD_3, cz_4, cI_4, cO_4, cL_4, cD_4, cz_5, cI_5, cO_5, cL_5, cD_5, cz_6, cI_6, cO_6, cL_6, cD_6, cz_7, cI_7, cO_7, cL_7, cD_7, cz_8, cI_8, cO_8, cL_8, cD_8, List.mem_cons, or_true, true_or, and_self, sI_S, sL_S, sR_S, sD_S, gb_S, sI_R, sL_R, sD_R, gb_R, sI_L, sR_I, sR_L, sL_I, sD_I, sD_L, gb_I, gb_L, q1, q2, q3, q4, b1, b2, b3, b4, t1, t2, t3, t4, y_S1 hL, y_S20 hL, y_S40 hL, y_V40 hL, s20, s40, i40, e1, e2, if_true]
theorem L1 (hI : Inv L xs h) (hc : 5 * c + 5 ≤ L) (hl : L ≤ 2560) {a6 a7 a8 : Option MV} : LG L xs d c h (Ev (d + 21) 278 225 [some (vR (40, 0, 0)), some (vR (1, 0, 0)), some (vR (20, 0, 0)), some (vR (30, 0, 0)), some (vR (31, 0, 0)), some (vI (iN (5 * c))), a6, a7, a8] [] h) := by
  have q0 : (iN (5 * c)).toNatClampNeg = 5 * c := n_i (by omega)
  have q1 : iN (5 * c) + 1 = iN (5 * c + 1) := iN_add _ 1
  have q2 : iN (5 * c) + 2 = iN (5 * c + 2) := iN_add _ 2
  have q3 : iN (5 * c) + 3 = iN (5 * c + 3) := iN_add _ 3
  have q4 : iN (5 * c) + 4 = iN (5 * c + 4) := iN_add _ 4
  have b1 : inB (iN (5 * c + 1)) L := inB_of (by omega) (by omega)
  have b2 : inB (iN (5 * c + 2)) L := inB_of (by omega) (by omega)
  have b3 : inB (iN (5 * c + 3)) L := inB_of (by omega) (by omega)
  have b4 : inB (iN (5 * c + 4)) L := inB_of (by omega) (by omega)
  have t1 : (iN (5 * c + 1)).toNatClampNeg = 5 * c + 1 := n_i (by omega)
  have t2 : (iN (5 * c + 2)).toNatClampNeg = 5 * c + 2 := n_i (by omega)
  have t3 : (iN (5 * c + 3)).toNatClampNeg = 5 * c + 3 := n_i (by omega)
  have t4 : (iN (5 * c + 4)).toNatClampNeg = 5 * c + 4 := n_i (by omega)
  obtain ⟨hL, P, H, X, ci, mi, wi⟩ := hI
  obtain ⟨k, b, h1, h2, e1, e2, e3, e4, i2, n1, n2, n3⟩ := c1 (d := d) hL ci mi wi (x := xs (5 * c + 1)) (y := xs (5 * c + 2)) (z := xs (5 * c + 3)) (w := xs (5 * c + 4))
  obtain ⟨s20, s40, i40⟩ := sc_S (Ev_S e1) hL
  have hL2 := i2.1
  refine ⟨some (vI k), some (vI b), a8, h2, ?_, i2, n1, n2, n3⟩
  by_cases z : k = 0
  · have e6 : lg_cmp (gL h2 (30, 0, 0) 0) b.toInt64 = 0 := by rw [e4 z]; exact lg_self
    simp only [v278_225, v278_226, v278_227, v278_229, v278_230, v278_231, v278_232, v278_233, v278_235, v278_236, v278_237, v278_238, v278_239, v278_241, v278_242, v278_243, v278_244, v278_245, v278_247, v278_248, v278_249, v278_250, v278_251, v278_254, v278_256, v278_257, v278_258, v278_260, v278_261, v278_262, v278_263, v278_264, v278_266, v278_267, v278_268, v278_269, v278_270, v278_272, v278_273, v278_274, v278_275, v278_276, v278_278, v278_279, v278_280, v278_281, v278_284, v278_286, v278_287, v278_290, v278_292, v278_295, v278_296, v278_297, v278_299, v278_302, v278_303, v278_304, v278_305, v278_307, v278_308, v278_309, v278_312, v278_313, v278_314, n_14, n_8, inB_of, Nat.reduceLT, Prod.mk.injEq, true_and, rB, rBn, rBa, rBb, rBc, rBd, Evk_v, Evk_n, Nat.reduceAdd, Nat.reduceLeDiff, Nat.le_refl, Nat.zero_le, cz_0, cz_1, cI_1, cO_1, cz_2, cI_2, cO_2, cL_2, cD_2, cz_3, cI_3, cO_3, cL_3, cD_3, cz_4, cI_4, cO_4, cL_4, cD_4, cz_5, cI_5, cO_5, cL_5, cD_5, cz_6, cI_6, cO_6, cL_6, cD_6, cz_7, cI_7, cO_7, cL_7, cD_7, cz_8, cI_8, cO_8, cL_8, cD_8, List.mem_cons, or_true, true_or, and_self, sI_S, sL_S, sR_S, sD_S, gb_S, sI_R, sL_R, sD_R, gb_R, sI_L, sR_I, sR_L, sL_I, sD_I, sD_L, gb_I, gb_L, q1, q2, q3, q4, b1, b2, b3, b4, t1, t2, t3, t4, y_S1 hL, y_S20 hL, y_S40 hL, y_V40 hL, s20, s40, i40, e1, e2, y_S20 hL2, y_S30 hL2, m140 hL2, if_pos e3, j_01, n_z0, if_pos z, if_pos e6]
  · simp only [v278_225, v278_226, v278_227, v278_229, v278_230, v278_231, v278_232, v278_233, v278_235, v278_236, v278_237, v278_238, v278_239, v278_241, v278_242, v278_243, v278_244, v278_245, v278_247, v278_248, v278_249, v278_250, v278_251, v278_254, v278_256, v278_257, v278_258, v278_260, v278_261, v278_262, v278_263, v278_264, v278_266, v278_267, v278_268, v278_269, v278_270, v278_272, v278_273, v278_274, v278_275, v278_276, v278_278, v278_279, v278_280, v278_281, v278_284, v278_286, v278_287, v278_290, v278_292, v278_295, v278_296, v278_297, v278_299, v278_302, v278_303, v278_304, v278_305, v278_307, v278_308, v278_309, v278_312, v278_313, v278_314, n_14, n_8, inB_of, Nat.reduceLT, Prod.mk.injEq, true_and, rB, rBn, rBa, rBb, rBc, rBd, Evk_v, Evk_n, Nat.reduceAdd, Nat.reduceLeDiff, Nat.le_refl, Nat.zero_le, cz_0, cz_1, cI_1, cO_1, cz_2, cI_2, cO_2, cL_2, cD_2, cz_3, cI_3, cO_3, cL_3, cD_3, cz_4, cI_4, cO_4, cL_4, cD_4, cz_5, cI_5, cO_5, cL_5, cD_5, cz_6, cI_6, cO_6, cL_6, cD_6, cz_7, cI_7, cO_7, cL_7, cD_7, cz_8, cI_8, cO_8, cL_8, cD_8, List.mem_cons, or_true, true_or, and_self, sI_S, sL_S, sR_S, sD_S, gb_S, sI_R, sL_R, sD_R, gb_R, sI_L, sR_I, sR_L, sL_I, sD_I, sD_L, gb_I, gb_L, q1, q2, q3, q4, b1, b2, b3, b4, t1, t2, t3, t4, y_S1 hL, y_S20 hL, y_S40 hL, y_V40 hL, s20, s40, i40, e1, e2, y_S20 hL2, y_S30 hL2, m140 hL2, if_pos e3, j_01, n_z0, if_neg z]
theorem L2 (hI : Inv L xs h) (hc : 5 * c + 5 ≤ L) (hl : L ≤ 2560) {a6 a7 a8 : Option MV} : LG L xs d c h (Ev (d + 21) 278 317 [some (vR (40, 0, 0)), some (vR (1, 0, 0)), some (vR (20, 0, 0)), some (vR (30, 0, 0)), some (vR (31, 0, 0)), some (vI (iN (5 * c))), a6, a7, a8] [] h) := by
  have q0 : (iN (5 * c)).toNatClampNeg = 5 * c := n_i (by omega)
  have q1 : iN (5 * c) + 1 = iN (5 * c + 1) := iN_add _ 1
  have q2 : iN (5 * c) + 2 = iN (5 * c + 2) := iN_add _ 2
  have q3 : iN (5 * c) + 3 = iN (5 * c + 3) := iN_add _ 3
  have q4 : iN (5 * c) + 4 = iN (5 * c + 4) := iN_add _ 4
  have b1 : inB (iN (5 * c + 1)) L := inB_of (by omega) (by omega)
  have b2 : inB (iN (5 * c + 2)) L := inB_of (by omega) (by omega)
  have b3 : inB (iN (5 * c + 3)) L := inB_of (by omega) (by omega)
  have b4 : inB (iN (5 * c + 4)) L := inB_of (by omega) (by omega)
  have t1 : (iN (5 * c + 1)).toNatClampNeg = 5 * c + 1 := n_i (by omega)
  have t2 : (iN (5 * c + 2)).toNatClampNeg = 5 * c + 2 := n_i (by omega)
  have t3 : (iN (5 * c + 3)).toNatClampNeg = 5 * c + 3 := n_i (by omega)
  have t4 : (iN (5 * c + 4)).toNatClampNeg = 5 * c + 4 := n_i (by omega)
  obtain ⟨hL, P, H, X, ci, mi, wi⟩ := hI
  by_cases y : xs (5 * c + 3) = 0
  · skip
    obtain ⟨k, b, h1, h2, e1, e2, e3, e4, i2, n1, n2, n3⟩ := c2 (d := d) hL ci mi wi (x := xs (5 * c + 1)) (y := xs (5 * c + 2)) (on := false)
    have e1 : Ev (d + 20) 244 0 [some (vR (1, 0, 0)), some (vI (xs (5 * c + 1))), some (vI (xs (5 * c + 2))), some (vI 0), some (vR (30, 0, 0)), none] [] h = _ := e1
    have e2 : Ev (d + 20) 170 0 [some (vR (20, 0, 0)), some (vI (xs (5 * c + 1))), some (vI (xs (5 * c + 2))), some (vI 0), none] [] h1 = _ := e2
    obtain ⟨s20, s40, i40⟩ := sc_S (Ev_S e1) hL
    have hL2 := i2.1
    refine ⟨some (vI k), some (vI b), a8, h2, ?_, i2, n1, n2, n3⟩
    by_cases z : k = 0
    · have e5 := e4 z
      rcases Ev_B e2 rfl rfl with rfl | rfl
      · have e6 : lg_cmp (gL h2 (30, 0, 0) 0) 0 = 0 := by rw [e5]; exact lg_self
        simp only [v278_317, v278_318, v278_319, v278_321, v278_322, v278_323, v278_324, v278_325, v278_327, v278_328, v278_329, v278_330, v278_331, v278_333, v278_334, v278_335, v278_336, v278_339, v278_340, v278_343, v278_344, v278_345, v278_348, v278_350, v278_351, v278_352, v278_354, v278_355, v278_356, v278_357, v278_358, v278_360, v278_361, v278_362, v278_363, v278_364, v278_366, v278_367, v278_368, v278_369, v278_372, v278_373, v278_376, v278_377, v278_380, v278_382, v278_383, v278_386, v278_388, v278_391, v278_392, v278_393, v278_395, v278_398, v278_399, v278_400, v278_401, v278_403, v278_406, v278_407, v278_410, v278_411, v278_412, v278_415, v278_416, v278_417, n_14, n_8, inB_of, Nat.reduceLT, Prod.mk.injEq, true_and, rB, rBn, rBa, rBb, rBc, rBd, Evk_v, Evk_n, Nat.reduceAdd, Nat.reduceLeDiff, Nat.le_refl, Nat.zero_le, cz_0, cz_1, cI_1, cO_1, cz_2, cI_2, cO_2, cL_2, cD_2, cz_3, cI_3, cO_3, cL_3, cD_3, cz_4, cI_4, cO_4, cL_4, cD_4, cz_5, cI_5, cO_5, cL_5, cD_5, cz_6, cI_6, cO_6, cL_6, cD_6, cz_7, cI_7, cO_7, cL_7, cD_7, cz_8, cI_8, cO_8, cL_8, cD_8, List.mem_cons, or_true, true_or, and_self, sI_S, sL_S, sR_S, sD_S, gb_S, sI_R, sL_R, sD_R, gb_R, sI_L, sR_I, sR_L, sL_I, sD_I, sD_L, gb_I, gb_L, q1, q2, q3, q4, b1, b2, b3, b4, t1, t2, t3, t4, y_S1 hL, y_S20 hL, y_S40 hL, y_V40 hL, s20, s40, i40, e1, e2, y_S20 hL2, y_S30 hL2, m140 hL2, if_pos e3, j_01, n_z0, if_pos y, if_pos z, if_true, if_pos e6]
      · have e6 : lg_cmp (gL h2 (30, 0, 0) 0) 1 = 0 := by rw [e5]; exact lg_self
        simp only [v278_317, v278_318, v278_319, v278_321, v278_322, v278_323, v278_324, v278_325, v278_327, v278_328, v278_329, v278_330, v278_331, v278_333, v278_334, v278_335, v278_336, v278_339, v278_340, v278_343, v278_344, v278_345, v278_348, v278_350, v278_351, v278_352, v278_354, v278_355, v278_356, v278_357, v278_358, v278_360, v278_361, v278_362, v278_363, v278_364, v278_366, v278_367, v278_368, v278_369, v278_372, v278_373, v278_376, v278_377, v278_380, v278_382, v278_383, v278_386, v278_388, v278_391, v278_392, v278_393, v278_395, v278_398, v278_399, v278_400, v278_401, v278_403, v278_406, v278_407, v278_410, v278_411, v278_412, v278_415, v278_416, v278_417, n_14, n_8, inB_of, Nat.reduceLT, Prod.mk.injEq, true_and, rB, rBn, rBa, rBb, rBc, rBd, Evk_v, Evk_n, Nat.reduceAdd, Nat.reduceLeDiff, Nat.le_refl, Nat.zero_le, cz_0, cz_1, cI_1, cO_1, cz_2, cI_2, cO_2, cL_2, cD_2, cz_3, cI_3, cO_3, cL_3, cD_3, cz_4, cI_4, cO_4, cL_4, cD_4, cz_5, cI_5, cO_5, cL_5, cD_5, cz_6, cI_6, cO_6, cL_6, cD_6, cz_7, cI_7, cO_7, cL_7, cD_7, cz_8, cI_8, cO_8, cL_8, cD_8, List.mem_cons, or_true, true_or, and_self, sI_S, sL_S, sR_S, sD_S, gb_S, sI_R, sL_R, sD_R, gb_R, sI_L, sR_I, sR_L, sL_I, sD_I, sD_L, gb_I, gb_L, q1, q2, q3, q4, b1, b2, b3, b4, t1, t2, t3, t4, y_S1 hL, y_S20 hL, y_S40 hL, y_V40 hL, s20, s40, i40, e1, e2, y_S20 hL2, y_S30 hL2, m140 hL2, if_pos e3, j_01, n_z0, if_pos y, if_pos z, i10, if_false, if_pos e6]
    · simp only [v278_317, v278_318, v278_319, v278_321, v278_322, v278_323, v278_324, v278_325, v278_327, v278_328, v278_329, v278_330, v278_331, v278_333, v278_334, v278_335, v278_336, v278_339, v278_340, v278_343, v278_344, v278_345, v278_348, v278_350, v278_351, v278_352, v278_354, v278_355, v278_356, v278_357, v278_358, v278_360, v278_361, v278_362, v278_363, v278_364, v278_366, v278_367, v278_368, v278_369, v278_372, v278_373, v278_376, v278_377, v278_380, v278_382, v278_383, v278_386, v278_388, v278_391, v278_392, v278_393, v278_395, v278_398, v278_399, v278_400, v278_401, v278_403, v278_406, v278_407, v278_410, v278_411, v278_412, v278_415, v278_416, v278_417, n_14, n_8, inB_of, Nat.reduceLT, Prod.mk.injEq, true_and, rB, rBn, rBa, rBb, rBc, rBd, Evk_v, Evk_n, Nat.reduceAdd, Nat.reduceLeDiff, Nat.le_refl, Nat.zero_le, cz_0, cz_1, cI_1, cO_1, cz_2, cI_2, cO_2, cL_2, cD_2, cz_3, cI_3, cO_3, cL_3, cD_3, cz_4, cI_4, cO_4, cL_4, cD_4, cz_5, cI_5, cO_5, cL_5, cD_5, cz_6, cI_6, cO_6, cL_6, cD_6, cz_7, cI_7, cO_7, cL_7, cD_7, cz_8, cI_8, cO_8, cL_8, cD_8, List.mem_cons, or_true, true_or, and_self, sI_S, sL_S, sR_S, sD_S, gb_S, sI_R, sL_R, sD_R, gb_R, sI_L, sR_I, sR_L, sL_I, sD_I, sD_L, gb_I, gb_L, q1, q2, q3, q4, b1, b2, b3, b4, t1, t2, t3, t4, y_S1 hL, y_S20 hL, y_S40 hL, y_V40 hL, s20, s40, i40, e1, e2, y_S20 hL2, y_S30 hL2, m140 hL2, if_pos e3, j_01, n_z0, if_pos y, if_neg z]
  · skip
    obtain ⟨k, b, h1, h2, e1, e2, e3, e4, i2, n1, n2, n3⟩ := c2 (d := d) hL ci mi wi (x := xs (5 * c + 1)) (y := xs (5 * c + 2)) (on := true)
    have e1 : Ev (d + 20) 244 0 [some (vR (1, 0, 0)), some (vI (xs (5 * c + 1))), some (vI (xs (5 * c + 2))), some (vI 1), some (vR (30, 0, 0)), none] [] h = _ := e1
    have e2 : Ev (d + 20) 170 0 [some (vR (20, 0, 0)), some (vI (xs (5 * c + 1))), some (vI (xs (5 * c + 2))), some (vI 1), none] [] h1 = _ := e2
    obtain ⟨s20, s40, i40⟩ := sc_S (Ev_S e1) hL
    have hL2 := i2.1
    refine ⟨some (vI k), some (vI b), a8, h2, ?_, i2, n1, n2, n3⟩
    by_cases z : k = 0
    · have e5 := e4 z
      rcases Ev_B e2 rfl rfl with rfl | rfl
      · have e6 : lg_cmp (gL h2 (30, 0, 0) 0) 0 = 0 := by rw [e5]; exact lg_self
        simp only [v278_317, v278_318, v278_319, v278_321, v278_322, v278_323, v278_324, v278_325, v278_327, v278_328, v278_329, v278_330, v278_331, v278_333, v278_334, v278_335, v278_336, v278_339, v278_340, v278_343, v278_344, v278_345, v278_348, v278_350, v278_351, v278_352, v278_354, v278_355, v278_356, v278_357, v278_358, v278_360, v278_361, v278_362, v278_363, v278_364, v278_366, v278_367, v278_368, v278_369, v278_372, v278_373, v278_376, v278_377, v278_380, v278_382, v278_383, v278_386, v278_388, v278_391, v278_392, v278_393, v278_395, v278_398, v278_399, v278_400, v278_401, v278_403, v278_406, v278_407, v278_410, v278_411, v278_412, v278_415, v278_416, v278_417, n_14, n_8, inB_of, Nat.reduceLT, Prod.mk.injEq, true_and, rB, rBn, rBa, rBb, rBc, rBd, Evk_v, Evk_n, Nat.reduceAdd, Nat.reduceLeDiff, Nat.le_refl, Nat.zero_le, cz_0, cz_1, cI_1, cO_1, cz_2, cI_2, cO_2, cL_2, cD_2, cz_3, cI_3, cO_3, cL_3, cD_3, cz_4, cI_4, cO_4, cL_4, cD_4, cz_5, cI_5, cO_5, cL_5, cD_5, cz_6, cI_6, cO_6, cL_6, cD_6, cz_7, cI_7, cO_7, cL_7, cD_7, cz_8, cI_8, cO_8, cL_8, cD_8, List.mem_cons, or_true, true_or, and_self, sI_S, sL_S, sR_S, sD_S, gb_S, sI_R, sL_R, sD_R, gb_R, sI_L, sR_I, sR_L, sL_I, sD_I, sD_L, gb_I, gb_L, q1, q2, q3, q4, b1, b2, b3, b4, t1, t2, t3, t4, y_S1 hL, y_S20 hL, y_S40 hL, y_V40 hL, s20, s40, i40, e1, e2, y_S20 hL2, y_S30 hL2, m140 hL2, if_pos e3, j_01, n_z0, if_neg y, if_pos z, if_true, if_pos e6]
      · have e6 : lg_cmp (gL h2 (30, 0, 0) 0) 1 = 0 := by rw [e5]; exact lg_self
        simp only [v278_317, v278_318, v278_319, v278_321, v278_322, v278_323, v278_324, v278_325, v278_327, v278_328, v278_329, v278_330, v278_331, v278_333, v278_334, v278_335, v278_336, v278_339, v278_340, v278_343, v278_344, v278_345, v278_348, v278_350, v278_351, v278_352, v278_354, v278_355, v278_356, v278_357, v278_358, v278_360, v278_361, v278_362, v278_363, v278_364, v278_366, v278_367, v278_368, v278_369, v278_372, v278_373, v278_376, v278_377, v278_380, v278_382, v278_383, v278_386, v278_388, v278_391, v278_392, v278_393, v278_395, v278_398, v278_399, v278_400, v278_401, v278_403, v278_406, v278_407, v278_410, v278_411, v278_412, v278_415, v278_416, v278_417, n_14, n_8, inB_of, Nat.reduceLT, Prod.mk.injEq, true_and, rB, rBn, rBa, rBb, rBc, rBd, Evk_v, Evk_n, Nat.reduceAdd, Nat.reduceLeDiff, Nat.le_refl, Nat.zero_le, cz_0, cz_1, cI_1, cO_1, cz_2, cI_2, cO_2, cL_2, cD_2, cz_3, cI_3, cO_3, cL_3, cD_3, cz_4, cI_4, cO_4, cL_4, cD_4, cz_5, cI_5, cO_5, cL_5, cD_5, cz_6, cI_6, cO_6, cL_6, cD_6, cz_7, cI_7, cO_7, cL_7, cD_7, cz_8, cI_8, cO_8, cL_8, cD_8, List.mem_cons, or_true, true_or, and_self, sI_S, sL_S, sR_S, sD_S, gb_S, sI_R, sL_R, sD_R, gb_R, sI_L, sR_I, sR_L, sL_I, sD_I, sD_L, gb_I, gb_L, q1, q2, q3, q4, b1, b2, b3, b4, t1, t2, t3, t4, y_S1 hL, y_S20 hL, y_S40 hL, y_V40 hL, s20, s40, i40, e1, e2, y_S20 hL2, y_S30 hL2, m140 hL2, if_pos e3, j_01, n_z0, if_neg y, if_pos z, i10, if_false, if_pos e6]
    · simp only [v278_317, v278_318, v278_319, v278_321, v278_322, v278_323, v278_324, v278_325, v278_327, v278_328, v278_329, v278_330, v278_331, v278_333, v278_334, v278_335, v278_336, v278_339, v278_340, v278_343, v278_344, v278_345, v278_348, v278_350, v278_351, v278_352, v278_354, v278_355, v278_356, v278_357, v278_358, v278_360, v278_361, v278_362, v278_363, v278_364, v278_366, v278_367, v278_368, v278_369, v278_372, v278_373, v278_376, v278_377, v278_380, v278_382, v278_383, v278_386, v278_388, v278_391, v278_392, v278_393, v278_395, v278_398, v278_399, v278_400, v278_401, v278_403, v278_406, v278_407, v278_410, v278_411, v278_412, v278_415, v278_416, v278_417, n_14, n_8, inB_of, Nat.reduceLT, Prod.mk.injEq, true_and, rB, rBn, rBa, rBb, rBc, rBd, Evk_v, Evk_n, Nat.reduceAdd, Nat.reduceLeDiff, Nat.le_refl, Nat.zero_le, cz_0, cz_1, cI_1, cO_1, cz_2, cI_2, cO_2, cL_2, cD_2, cz_3, cI_3, cO_3, cL_3, cD_3, cz_4, cI_4, cO_4, cL_4, cD_4, cz_5, cI_5, cO_5, cL_5, cD_5, cz_6, cI_6, cO_6, cL_6, cD_6, cz_7, cI_7, cO_7, cL_7, cD_7, cz_8, cI_8, cO_8, cL_8, cD_8, List.mem_cons, or_true, true_or, and_self, sI_S, sL_S, sR_S, sD_S, gb_S, sI_R, sL_R, sD_R, gb_R, sI_L, sR_I, sR_L, sL_I, sD_I, sD_L, gb_I, gb_L, q1, q2, q3, q4, b1, b2, b3, b4, t1, t2, t3, t4, y_S1 hL, y_S20 hL, y_S40 hL, y_V40 hL, s20, s40, i40, e1, e2, y_S20 hL2, y_S30 hL2, m140 hL2, if_pos e3, j_01, n_z0, if_neg y, if_neg z]
theorem L3 (hI : Inv L xs h) (hc : 5 * c + 5 ≤ L) (hl : L ≤ 2560) {a6 a7 a8 : Option MV} : LG L xs d c h (Ev (d + 21) 278 420 [some (vR (40, 0, 0)), some (vR (1, 0, 0)), some (vR (20, 0, 0)), some (vR (30, 0, 0)), some (vR (31, 0, 0)), some (vI (iN (5 * c))), a6, a7, a8] [] h) := by
  have q0 : (iN (5 * c)).toNatClampNeg = 5 * c := n_i (by omega)
  have q1 : iN (5 * c) + 1 = iN (5 * c + 1) := iN_add _ 1
  have q2 : iN (5 * c) + 2 = iN (5 * c + 2) := iN_add _ 2
  have q3 : iN (5 * c) + 3 = iN (5 * c + 3) := iN_add _ 3
  have q4 : iN (5 * c) + 4 = iN (5 * c + 4) := iN_add _ 4
  have b1 : inB (iN (5 * c + 1)) L := inB_of (by omega) (by omega)
  have b2 : inB (iN (5 * c + 2)) L := inB_of (by omega) (by omega)
  have b3 : inB (iN (5 * c + 3)) L := inB_of (by omega) (by omega)
  have b4 : inB (iN (5 * c + 4)) L := inB_of (by omega) (by omega)
  have t1 : (iN (5 * c + 1)).toNatClampNeg = 5 * c + 1 := n_i (by omega)
  have t2 : (iN (5 * c + 2)).toNatClampNeg = 5 * c + 2 := n_i (by omega)
  have t3 : (iN (5 * c + 3)).toNatClampNeg = 5 * c + 3 := n_i (by omega)
  have t4 : (iN (5 * c + 4)).toNatClampNeg = 5 * c + 4 := n_i (by omega)
  obtain ⟨hL, P, H, X, ci, mi, wi⟩ := hI
  by_cases y : xs (5 * c + 4) = 0
  · skip
    obtain ⟨k, b, h1, h2, e1, e2, e3, e4, i2, n1, n2, n3⟩ := c3 (d := d) hL ci mi wi (x := xs (5 * c + 1)) (y := xs (5 * c + 2)) (z := xs (5 * c + 3)) (on := false)
    have e1 : Ev (d + 20) 245 0 [some (vR (1, 0, 0)), some (vI (xs (5 * c + 1))), some (vI (xs (5 * c + 2))), some (vI (xs (5 * c + 3))), some (vI 0), some (vR (30, 0, 0)), none] [] h = _ := e1
    have e2 : Ev (d + 20) 171 0 [some (vR (20, 0, 0)), some (vI (xs (5 * c + 1))), some (vI (xs (5 * c + 2))), some (vI (xs (5 * c + 3))), some (vI 0), none] [] h1 = _ := e2
    obtain ⟨s20, s40, i40⟩ := sc_S (Ev_S e1) hL
    have hL2 := i2.1
    refine ⟨some (vI k), some (vI b), a8, h2, ?_, i2, n1, n2, n3⟩
    by_cases z : k = 0
    · have e5 := e4 z
      rcases Ev_B e2 rfl rfl with rfl | rfl
      · have e6 : lg_cmp (gL h2 (30, 0, 0) 0) 0 = 0 := by rw [e5]; exact lg_self
        simp only [v278_420, v278_421, v278_422, v278_424, v278_425, v278_426, v278_427, v278_428, v278_430, v278_431, v278_432, v278_433, v278_434, v278_436, v278_437, v278_438, v278_439, v278_440, v278_442, v278_443, v278_444, v278_445, v278_448, v278_449, v278_452, v278_453, v278_454, v278_457, v278_459, v278_460, v278_461, v278_463, v278_464, v278_465, v278_466, v278_467, v278_469, v278_470, v278_471, v278_472, v278_473, v278_475, v278_476, v278_477, v278_478, v278_479, v278_481, v278_482, v278_483, v278_484, v278_487, v278_488, v278_491, v278_492, v278_495, v278_497, v278_498, v278_501, v278_503, v278_506, v278_507, v278_508, v278_510, v278_513, v278_514, v278_515, v278_516, v278_518, v278_521, v278_522, v278_525, v278_526, v278_527, v278_530, v278_531, v278_532, n_14, n_8, inB_of, Nat.reduceLT, Prod.mk.injEq, true_and, rB, rBn, rBa, rBb, rBc, rBd, Evk_v, Evk_n, Nat.reduceAdd, Nat.reduceLeDiff, Nat.le_refl, Nat.zero_le, cz_0, cz_1, cI_1, cO_1, cz_2, cI_2, cO_2, cL_2, cD_2, cz_3, cI_3, cO_3, cL_3, cD_3, cz_4, cI_4, cO_4, cL_4, cD_4, cz_5, cI_5, cO_5, cL_5, cD_5, cz_6, cI_6, cO_6, cL_6, cD_6, cz_7, cI_7, cO_7, cL_7, cD_7, cz_8, cI_8, cO_8, cL_8, cD_8, List.mem_cons, or_true, true_or, and_self, sI_S, sL_S, sR_S, sD_S, gb_S, sI_R, sL_R, sD_R, gb_R, sI_L, sR_I, sR_L, sL_I, sD_I, sD_L, gb_I, gb_L, q1, q2, q3, q4, b1, b2, b3, b4, t1, t2, t3, t4, y_S1 hL, y_S20 hL, y_S40 hL, y_V40 hL, s20, s40, i40, e1, e2, y_S20 hL2, y_S30 hL2, m140 hL2, if_pos e3, j_01, n_z0, if_pos y, if_pos z, if_true, if_pos e6]
      · have e6 : lg_cmp (gL h2 (30, 0, 0) 0) 1 = 0 := by rw [e5]; exact lg_self
        simp only [v278_420, v278_421, v278_422, v278_424, v278_425, v278_426, v278_427, v278_428, v278_430, v278_431, v278_432, v278_433, v278_434, v278_436, v278_437, v278_438, v278_439, v278_440, v278_442, v278_443, v278_444, v278_445, v278_448, v278_449, v278_452, v278_453, v278_454, v278_457, v278_459, v278_460, v278_461, v278_463, v278_464, v278_465, v278_466, v278_467, v278_469, v278_470, v278_471, v278_472, v278_473, v278_475, v278_476, v278_477, v278_478, v278_479, v278_481, v278_482, v278_483, v278_484, v278_487, v278_488, v278_491, v278_492, v278_495, v278_497, v278_498, v278_501, v278_503, v278_506, v278_507, v278_508, v278_510, v278_513, v278_514, v278_515, v278_516, v278_518, v278_521, v278_522, v278_525, v278_526, v278_527, v278_530, v278_531, v278_532, n_14, n_8, inB_of, Nat.reduceLT, Prod.mk.injEq, true_and, rB, rBn, rBa, rBb, rBc, rBd, Evk_v, Evk_n, Nat.reduceAdd, Nat.reduceLeDiff, Nat.le_refl, Nat.zero_le, cz_0, cz_1, cI_1, cO_1, cz_2, cI_2, cO_2, cL_2, cD_2, cz_3, cI_3, cO_3, cL_3, cD_3, cz_4, cI_4, cO_4, cL_4, cD_4, cz_5, cI_5, cO_5, cL_5, cD_5, cz_6, cI_6, cO_6, cL_6, cD_6, cz_7, cI_7, cO_7, cL_7, cD_7, cz_8, cI_8, cO_8, cL_8, cD_8, List.mem_cons, or_true, true_or, and_self, sI_S, sL_S, sR_S, sD_S, gb_S, sI_R, sL_R, sD_R, gb_R, sI_L, sR_I, sR_L, sL_I, sD_I, sD_L, gb_I, gb_L, q1, q2, q3, q4, b1, b2, b3, b4, t1, t2, t3, t4, y_S1 hL, y_S20 hL, y_S40 hL, y_V40 hL, s20, s40, i40, e1, e2, y_S20 hL2, y_S30 hL2, m140 hL2, if_pos e3, j_01, n_z0, if_pos y, if_pos z, i10, if_false, if_pos e6]
    · simp only [v278_420, v278_421, v278_422, v278_424, v278_425, v278_426, v278_427, v278_428, v278_430, v278_431, v278_432, v278_433, v278_434, v278_436, v278_437, v278_438, v278_439, v278_440, v278_442, v278_443, v278_444, v278_445, v278_448, v278_449, v278_452, v278_453, v278_454, v278_457, v278_459, v278_460, v278_461, v278_463, v278_464, v278_465, v278_466, v278_467, v278_469, v278_470, v278_471, v278_472, v278_473, v278_475, v278_476, v278_477, v278_478, v278_479, v278_481, v278_482, v278_483, v278_484, v278_487, v278_488, v278_491, v278_492, v278_495, v278_497, v278_498, v278_501, v278_503, v278_506, v278_507, v278_508, v278_510, v278_513, v278_514, v278_515, v278_516, v278_518, v278_521, v278_522, v278_525, v278_526, v278_527, v278_530, v278_531, v278_532, n_14, n_8, inB_of, Nat.reduceLT, Prod.mk.injEq, true_and, rB, rBn, rBa, rBb, rBc, rBd, Evk_v, Evk_n, Nat.reduceAdd, Nat.reduceLeDiff, Nat.le_refl, Nat.zero_le, cz_0, cz_1, cI_1, cO_1, cz_2, cI_2, cO_2, cL_2, cD_2, cz_3, cI_3, cO_3, cL_3, cD_3, cz_4, cI_4, cO_4, cL_4, cD_4, cz_5, cI_5, cO_5, cL_5, cD_5, cz_6, cI_6, cO_6, cL_6, cD_6, cz_7, cI_7, cO_7, cL_7, cD_7, cz_8, cI_8, cO_8, cL_8, cD_8, List.mem_cons, or_true, true_or, and_self, sI_S, sL_S, sR_S, sD_S, gb_S, sI_R, sL_R, sD_R, gb_R, sI_L, sR_I, sR_L, sL_I, sD_I, sD_L, gb_I, gb_L, q1, q2, q3, q4, b1, b2, b3, b4, t1, t2, t3, t4, y_S1 hL, y_S20 hL, y_S40 hL, y_V40 hL, s20, s40, i40, e1, e2, y_S20 hL2, y_S30 hL2, m140 hL2, if_pos e3, j_01, n_z0, if_pos y, if_neg z]
  · skip
    obtain ⟨k, b, h1, h2, e1, e2, e3, e4, i2, n1, n2, n3⟩ := c3 (d := d) hL ci mi wi (x := xs (5 * c + 1)) (y := xs (5 * c + 2)) (z := xs (5 * c + 3)) (on := true)
    have e1 : Ev (d + 20) 245 0 [some (vR (1, 0, 0)), some (vI (xs (5 * c + 1))), some (vI (xs (5 * c + 2))), some (vI (xs (5 * c + 3))), some (vI 1), some (vR (30, 0, 0)), none] [] h = _ := e1
    have e2 : Ev (d + 20) 171 0 [some (vR (20, 0, 0)), some (vI (xs (5 * c + 1))), some (vI (xs (5 * c + 2))), some (vI (xs (5 * c + 3))), some (vI 1), none] [] h1 = _ := e2
    obtain ⟨s20, s40, i40⟩ := sc_S (Ev_S e1) hL
    have hL2 := i2.1
    refine ⟨some (vI k), some (vI b), a8, h2, ?_, i2, n1, n2, n3⟩
    by_cases z : k = 0
    · have e5 := e4 z
      rcases Ev_B e2 rfl rfl with rfl | rfl
      · have e6 : lg_cmp (gL h2 (30, 0, 0) 0) 0 = 0 := by rw [e5]; exact lg_self
        simp only [v278_420, v278_421, v278_422, v278_424, v278_425, v278_426, v278_427, v278_428, v278_430, v278_431, v278_432, v278_433, v278_434, v278_436, v278_437, v278_438, v278_439, v278_440, v278_442, v278_443, v278_444, v278_445, v278_448, v278_449, v278_452, v278_453, v278_454, v278_457, v278_459, v278_460, v278_461, v278_463, v278_464, v278_465, v278_466, v278_467, v278_469, v278_470, v278_471, v278_472, v278_473, v278_475, v278_476, v278_477, v278_478, v278_479, v278_481, v278_482, v278_483, v278_484, v278_487, v278_488, v278_491, v278_492, v278_495, v278_497, v278_498, v278_501, v278_503, v278_506, v278_507, v278_508, v278_510, v278_513, v278_514, v278_515, v278_516, v278_518, v278_521, v278_522, v278_525, v278_526, v278_527, v278_530, v278_531, v278_532, n_14, n_8, inB_of, Nat.reduceLT, Prod.mk.injEq, true_and, rB, rBn, rBa, rBb, rBc, rBd, Evk_v, Evk_n, Nat.reduceAdd, Nat.reduceLeDiff, Nat.le_refl, Nat.zero_le, cz_0, cz_1, cI_1, cO_1, cz_2, cI_2, cO_2, cL_2, cD_2, cz_3, cI_3, cO_3, cL_3, cD_3, cz_4, cI_4, cO_4, cL_4, cD_4, cz_5, cI_5, cO_5, cL_5, cD_5, cz_6, cI_6, cO_6, cL_6, cD_6, cz_7, cI_7, cO_7, cL_7, cD_7, cz_8, cI_8, cO_8, cL_8, cD_8, List.mem_cons, or_true, true_or, and_self, sI_S, sL_S, sR_S, sD_S, gb_S, sI_R, sL_R, sD_R, gb_R, sI_L, sR_I, sR_L, sL_I, sD_I, sD_L, gb_I, gb_L, q1, q2, q3, q4, b1, b2, b3, b4, t1, t2, t3, t4, y_S1 hL, y_S20 hL, y_S40 hL, y_V40 hL, s20, s40, i40, e1, e2, y_S20 hL2, y_S30 hL2, m140 hL2, if_pos e3, j_01, n_z0, if_neg y, if_pos z, if_true, if_pos e6]
      · have e6 : lg_cmp (gL h2 (30, 0, 0) 0) 1 = 0 := by rw [e5]; exact lg_self
        simp only [v278_420, v278_421, v278_422, v278_424, v278_425, v278_426, v278_427, v278_428, v278_430, v278_431, v278_432, v278_433, v278_434, v278_436, v278_437, v278_438, v278_439, v278_440, v278_442, v278_443, v278_444, v278_445, v278_448, v278_449, v278_452, v278_453, v278_454, v278_457, v278_459, v278_460, v278_461, v278_463, v278_464, v278_465, v278_466, v278_467, v278_469, v278_470, v278_471, v278_472, v278_473, v278_475, v278_476, v278_477, v278_478, v278_479, v278_481, v278_482, v278_483, v278_484, v278_487, v278_488, v278_491, v278_492, v278_495, v278_497, v278_498, v278_501, v278_503, v278_506, v278_507, v278_508, v278_510, v278_513, v278_514, v278_515, v278_516, v278_518, v278_521, v278_522, v278_525, v278_526, v278_527, v278_530, v278_531, v278_532, n_14, n_8, inB_of, Nat.reduceLT, Prod.mk.injEq, true_and, rB, rBn, rBa, rBb, rBc, rBd, Evk_v, Evk_n, Nat.reduceAdd, Nat.reduceLeDiff, Nat.le_refl, Nat.zero_le, cz_0, cz_1, cI_1, cO_1, cz_2, cI_2, cO_2, cL_2, cD_2, cz_3, cI_3, cO_3, cL_3, cD_3, cz_4, cI_4, cO_4, cL_4, cD_4, cz_5, cI_5, cO_5, cL_5, cD_5, cz_6, cI_6, cO_6, cL_6, cD_6, cz_7, cI_7, cO_7, cL_7, cD_7, cz_8, cI_8, cO_8, cL_8, cD_8, List.mem_cons, or_true, true_or, and_self, sI_S, sL_S, sR_S, sD_S, gb_S, sI_R, sL_R, sD_R, gb_R, sI_L, sR_I, sR_L, sL_I, sD_I, sD_L, gb_I, gb_L, q1, q2, q3, q4, b1, b2, b3, b4, t1, t2, t3, t4, y_S1 hL, y_S20 hL, y_S40 hL, y_V40 hL, s20, s40, i40, e1, e2, y_S20 hL2, y_S30 hL2, m140 hL2, if_pos e3, j_01, n_z0, if_neg y, if_pos z, i10, if_false, if_pos e6]
    · simp only [v278_420, v278_421, v278_422, v278_424, v278_425, v278_426, v278_427, v278_428, v278_430, v278_431, v278_432, v278_433, v278_434, v278_436, v278_437, v278_438, v278_439, v278_440, v278_442, v278_443, v278_444, v278_445, v278_448, v278_449, v278_452, v278_453, v278_454, v278_457, v278_459, v278_460, v278_461, v278_463, v278_464, v278_465, v278_466, v278_467, v278_469, v278_470, v278_471, v278_472, v278_473, v278_475, v278_476, v278_477, v278_478, v278_479, v278_481, v278_482, v278_483, v278_484, v278_487, v278_488, v278_491, v278_492, v278_495, v278_497, v278_498, v278_501, v278_503, v278_506, v278_507, v278_508, v278_510, v278_513, v278_514, v278_515, v278_516, v278_518, v278_521, v278_522, v278_525, v278_526, v278_527, v278_530, v278_531, v278_532, n_14, n_8, inB_of, Nat.reduceLT, Prod.mk.injEq, true_and, rB, rBn, rBa, rBb, rBc, rBd, Evk_v, Evk_n, Nat.reduceAdd, Nat.reduceLeDiff, Nat.le_refl, Nat.zero_le, cz_0, cz_1, cI_1, cO_1, cz_2, cI_2, cO_2, cL_2, cD_2, cz_3, cI_3, cO_3, cL_3, cD_3, cz_4, cI_4, cO_4, cL_4, cD_4, cz_5, cI_5, cO_5, cL_5, cD_5, cz_6, cI_6, cO_6, cL_6, cD_6, cz_7, cI_7, cO_7, cL_7, cD_7, cz_8, cI_8, cO_8, cL_8, cD_8, List.mem_cons, or_true, true_or, and_self, sI_S, sL_S, sR_S, sD_S, gb_S, sI_R, sL_R, sD_R, gb_R, sI_L, sR_I, sR_L, sL_I, sD_I, sD_L, gb_I, gb_L, q1, q2, q3, q4, b1, b2, b3, b4, t1, t2, t3, t4, y_S1 hL, y_S20 hL, y_S40 hL, y_V40 hL, s20, s40, i40, e1, e2, y_S20 hL2, y_S30 hL2, m140 hL2, if_pos e3, j_01, n_z0, if_neg y, if_neg z]
theorem L4 (hI : Inv L xs h) (hc : 5 * c + 5 ≤ L) (hl : L ≤ 2560) {a6 a7 a8 : Option MV} : LG L xs d c h (Ev (d + 21) 278 535 [some (vR (40, 0, 0)), some (vR (1, 0, 0)), some (vR (20, 0, 0)), some (vR (30, 0, 0)), some (vR (31, 0, 0)), some (vI (iN (5 * c))), a6, a7, a8] [] h) := by
  have q0 : (iN (5 * c)).toNatClampNeg = 5 * c := n_i (by omega)
  have q1 : iN (5 * c) + 1 = iN (5 * c + 1) := iN_add _ 1
  have q2 : iN (5 * c) + 2 = iN (5 * c + 2) := iN_add _ 2
  have q3 : iN (5 * c) + 3 = iN (5 * c + 3) := iN_add _ 3
  have q4 : iN (5 * c) + 4 = iN (5 * c + 4) := iN_add _ 4
  have b1 : inB (iN (5 * c + 1)) L := inB_of (by omega) (by omega)
  have b2 : inB (iN (5 * c + 2)) L := inB_of (by omega) (by omega)
  have b3 : inB (iN (5 * c + 3)) L := inB_of (by omega) (by omega)
  have b4 : inB (iN (5 * c + 4)) L := inB_of (by omega) (by omega)
  have t1 : (iN (5 * c + 1)).toNatClampNeg = 5 * c + 1 := n_i (by omega)
  have t2 : (iN (5 * c + 2)).toNatClampNeg = 5 * c + 2 := n_i (by omega)
  have t3 : (iN (5 * c + 3)).toNatClampNeg = 5 * c + 3 := n_i (by omega)
  have t4 : (iN (5 * c + 4)).toNatClampNeg = 5 * c + 4 := n_i (by omega)
  obtain ⟨hL, P, H, X, ci, mi, wi⟩ := hI
  obtain ⟨k, b, h1, h2, e1, e2, e3, e4, i2, n1, n2, n3⟩ := c4 (d := d) hL ci mi wi (x := xs (5 * c + 1)) (y := xs (5 * c + 2))
  obtain ⟨s20, s40, i40⟩ := sc_S (Ev_S e1) hL
  have hL2 := i2.1
  refine ⟨some (vI k), some (vI b), a8, h2, ?_, i2, n1, n2, n3⟩
  by_cases z : k = 0
  · have e6 : lg_cmp (gL h2 (30, 0, 0) 0) b.toInt64 = 0 := by rw [e4 z]; exact lg_self
    simp only [v278_535, v278_536, v278_537, v278_539, v278_540, v278_541, v278_542, v278_543, v278_545, v278_546, v278_547, v278_548, v278_549, v278_552, v278_554, v278_555, v278_556, v278_558, v278_559, v278_560, v278_561, v278_562, v278_564, v278_565, v278_566, v278_567, v278_570, v278_572, v278_573, v278_576, v278_578, v278_581, v278_582, v278_583, v278_585, v278_588, v278_589, v278_590, v278_591, v278_593, v278_594, v278_595, v278_598, v278_599, v278_600, n_14, n_8, inB_of, Nat.reduceLT, Prod.mk.injEq, true_and, rB, rBn, rBa, rBb, rBc, rBd, Evk_v, Evk_n, Nat.reduceAdd, Nat.reduceLeDiff, Nat.le_refl, Nat.zero_le, cz_0, cz_1, cI_1, cO_1, cz_2, cI_2, cO_2, cL_2, cD_2, cz_3, cI_3, cO_3, cL_3, cD_3, cz_4, cI_4, cO_4, cL_4, cD_4, cz_5, cI_5, cO_5, cL_5, cD_5, cz_6, cI_6, cO_6, cL_6, cD_6, cz_7, cI_7, cO_7, cL_7, cD_7, cz_8, cI_8, cO_8, cL_8, cD_8, List.mem_cons, or_true, true_or, and_self, sI_S, sL_S, sR_S, sD_S, gb_S, sI_R, sL_R, sD_R, gb_R, sI_L, sR_I, sR_L, sL_I, sD_I, sD_L, gb_I, gb_L, q1, q2, q3, q4, b1, b2, b3, b4, t1, t2, t3, t4, y_S1 hL, y_S20 hL, y_S40 hL, y_V40 hL, s20, s40, i40, e1, e2, y_S20 hL2, y_S30 hL2, m140 hL2, if_pos e3, j_01, n_z0, if_pos z, if_pos e6]
  · simp only [v278_535, v278_536, v278_537, v278_539, v278_540, v278_541, v278_542, v278_543, v278_545, v278_546, v278_547, v278_548, v278_549, v278_552, v278_554, v278_555, v278_556, v278_558, v278_559, v278_560, v278_561, v278_562, v278_564, v278_565, v278_566, v278_567, v278_570, v278_572, v278_573, v278_576, v278_578, v278_581, v278_582, v278_583, v278_585, v278_588, v278_589, v278_590, v278_591, v278_593, v278_594, v278_595, v278_598, v278_599, v278_600, n_14, n_8, inB_of, Nat.reduceLT, Prod.mk.injEq, true_and, rB, rBn, rBa, rBb, rBc, rBd, Evk_v, Evk_n, Nat.reduceAdd, Nat.reduceLeDiff, Nat.le_refl, Nat.zero_le, cz_0, cz_1, cI_1, cO_1, cz_2, cI_2, cO_2, cL_2, cD_2, cz_3, cI_3, cO_3, cL_3, cD_3, cz_4, cI_4, cO_4, cL_4, cD_4, cz_5, cI_5, cO_5, cL_5, cD_5, cz_6, cI_6, cO_6, cL_6, cD_6, cz_7, cI_7, cO_7, cL_7, cD_7, cz_8, cI_8, cO_8, cL_8, cD_8, List.mem_cons, or_true, true_or, and_self, sI_S, sL_S, sR_S, sD_S, gb_S, sI_R, sL_R, sD_R, gb_R, sI_L, sR_I, sR_L, sL_I, sD_I, sD_L, gb_I, gb_L, q1, q2, q3, q4, b1, b2, b3, b4, t1, t2, t3, t4, y_S1 hL, y_S20 hL, y_S40 hL, y_V40 hL, s20, s40, i40, e1, e2, y_S20 hL2, y_S30 hL2, m140 hL2, if_pos e3, j_01, n_z0, if_neg z]
theorem L5 (hI : Inv L xs h) (hc : 5 * c + 5 ≤ L) (hl : L ≤ 2560) {a6 a7 a8 : Option MV} : LG L xs d c h (Ev (d + 21) 278 603 [some (vR (40, 0, 0)), some (vR (1, 0, 0)), some (vR (20, 0, 0)), some (vR (30, 0, 0)), some (vR (31, 0, 0)), some (vI (iN (5 * c))), a6, a7, a8] [] h) := by
  have q0 : (iN (5 * c)).toNatClampNeg = 5 * c := n_i (by omega)
  have q1 : iN (5 * c) + 1 = iN (5 * c + 1) := iN_add _ 1
  have q2 : iN (5 * c) + 2 = iN (5 * c + 2) := iN_add _ 2
  have q3 : iN (5 * c) + 3 = iN (5 * c + 3) := iN_add _ 3
  have q4 : iN (5 * c) + 4 = iN (5 * c + 4) := iN_add _ 4
  have b1 : inB (iN (5 * c + 1)) L := inB_of (by omega) (by omega)
  have b2 : inB (iN (5 * c + 2)) L := inB_of (by omega) (by omega)
  have b3 : inB (iN (5 * c + 3)) L := inB_of (by omega) (by omega)
  have b4 : inB (iN (5 * c + 4)) L := inB_of (by omega) (by omega)
  have t1 : (iN (5 * c + 1)).toNatClampNeg = 5 * c + 1 := n_i (by omega)
  have t2 : (iN (5 * c + 2)).toNatClampNeg = 5 * c + 2 := n_i (by omega)
  have t3 : (iN (5 * c + 3)).toNatClampNeg = 5 * c + 3 := n_i (by omega)
  have t4 : (iN (5 * c + 4)).toNatClampNeg = 5 * c + 4 := n_i (by omega)
  obtain ⟨hL, P, H, X, ci, mi, wi⟩ := hI
  obtain ⟨k, b, h1, h2, e1, e2, e3, e4, i2, n1, n2, n3⟩ := c5 (d := d) hL ci mi wi (x := xs (5 * c + 1)) (y := xs (5 * c + 2)) (z := xs (5 * c + 3))
  obtain ⟨s20, s40, i40⟩ := sc_S (Ev_S e1) hL
  have hL2 := i2.1
  refine ⟨some (vI k), some (vI b), a8, h2, ?_, i2, n1, n2, n3⟩
  by_cases z : k = 0
  · have e5 := e4 z
    rcases Ev_B e2 rfl rfl with rfl | rfl
    · have e6 : lg_cmp (gL h2 (30, 0, 0) 0) 0 = 0 := by rw [e5]; exact lg_self
      simp only [v278_603, v278_604, v278_605, v278_607, v278_608, v278_609, v278_610, v278_611, v278_613, v278_614, v278_615, v278_616, v278_617, v278_619, v278_620, v278_621, v278_622, v278_623, v278_626, v278_628, v278_629, v278_630, v278_632, v278_633, v278_634, v278_635, v278_636, v278_638, v278_639, v278_640, v278_641, v278_642, v278_644, v278_645, v278_646, v278_647, v278_650, v278_652, v278_653, v278_656, v278_658, v278_661, v278_662, v278_663, v278_665, v278_668, v278_669, v278_670, v278_671, v278_673, v278_676, v278_677, v278_680, v278_681, v278_682, v278_685, v278_686, v278_687, n_14, n_8, inB_of, Nat.reduceLT, Prod.mk.injEq, true_and, rB, rBn, rBa, rBb, rBc, rBd, Evk_v, Evk_n, Nat.reduceAdd, Nat.reduceLeDiff, Nat.le_refl, Nat.zero_le, cz_0, cz_1, cI_1, cO_1, cz_2, cI_2, cO_2, cL_2, cD_2, cz_3, cI_3, cO_3, cL_3, cD_3, cz_4, cI_4, cO_4, cL_4, cD_4, cz_5, cI_5, cO_5, cL_5, cD_5, cz_6, cI_6, cO_6, cL_6, cD_6, cz_7, cI_7, cO_7, cL_7, cD_7, cz_8, cI_8, cO_8, cL_8, cD_8, List.mem_cons, or_true, true_or, and_self, sI_S, sL_S, sR_S, sD_S, gb_S, sI_R, sL_R, sD_R, gb_R, sI_L, sR_I, sR_L, sL_I, sD_I, sD_L, gb_I, gb_L, q1, q2, q3, q4, b1, b2, b3, b4, t1, t2, t3, t4, y_S1 hL, y_S20 hL, y_S40 hL, y_V40 hL, s20, s40, i40, e1, e2, y_S20 hL2, y_S30 hL2, m140 hL2, if_pos e3, j_01, n_z0, if_pos z, if_true, if_pos e6]
    · have e6 : lg_cmp (gL h2 (30, 0, 0) 0) 1 = 0 := by rw [e5]; exact lg_self
      simp only [v278_603, v278_604, v278_605, v278_607, v278_608, v278_609, v278_610, v278_611, v278_613, v278_614, v278_615, v278_616, v278_617, v278_619, v278_620, v278_621, v278_622, v278_623, v278_626, v278_628, v278_629, v278_630, v278_632, v278_633, v278_634, v278_635, v278_636, v278_638, v278_639, v278_640, v278_641, v278_642, v278_644, v278_645, v278_646, v278_647, v278_650, v278_652, v278_653, v278_656, v278_658, v278_661, v278_662, v278_663, v278_665, v278_668, v278_669, v278_670, v278_671, v278_673, v278_676, v278_677, v278_680, v278_681, v278_682, v278_685, v278_686, v278_687, n_14, n_8, inB_of, Nat.reduceLT, Prod.mk.injEq, true_and, rB, rBn, rBa, rBb, rBc, rBd, Evk_v, Evk_n, Nat.reduceAdd, Nat.reduceLeDiff, Nat.le_refl, Nat.zero_le, cz_0, cz_1, cI_1, cO_1, cz_2, cI_2, cO_2, cL_2, cD_2, cz_3, cI_3, cO_3, cL_3, cD_3, cz_4, cI_4, cO_4, cL_4, cD_4, cz_5, cI_5, cO_5, cL_5, cD_5, cz_6, cI_6, cO_6, cL_6, cD_6, cz_7, cI_7, cO_7, cL_7, cD_7, cz_8, cI_8, cO_8, cL_8, cD_8, List.mem_cons, or_true, true_or, and_self, sI_S, sL_S, sR_S, sD_S, gb_S, sI_R, sL_R, sD_R, gb_R, sI_L, sR_I, sR_L, sL_I, sD_I, sD_L, gb_I, gb_L, q1, q2, q3, q4, b1, b2, b3, b4, t1, t2, t3, t4, y_S1 hL, y_S20 hL, y_S40 hL, y_V40 hL, s20, s40, i40, e1, e2, y_S20 hL2, y_S30 hL2, m140 hL2, if_pos e3, j_01, n_z0, if_pos z, i10, if_false, if_pos e6]
  · simp only [v278_603, v278_604, v278_605, v278_607, v278_608, v278_609, v278_610, v278_611, v278_613, v278_614, v278_615, v278_616, v278_617, v278_619, v278_620, v278_621, v278_622, v278_623, v278_626, v278_628, v278_629, v278_630, v278_632, v278_633, v278_634, v278_635, v278_636, v278_638, v278_639, v278_640, v278_641, v278_642, v278_644, v278_645, v278_646, v278_647, v278_650, v278_652, v278_653, v278_656, v278_658, v278_661, v278_662, v278_663, v278_665, v278_668, v278_669, v278_670, v278_671, v278_673, v278_676, v278_677, v278_680, v278_681, v278_682, v278_685, v278_686, v278_687, n_14, n_8, inB_of, Nat.reduceLT, Prod.mk.injEq, true_and, rB, rBn, rBa, rBb, rBc, rBd, Evk_v, Evk_n, Nat.reduceAdd, Nat.reduceLeDiff, Nat.le_refl, Nat.zero_le, cz_0, cz_1, cI_1, cO_1, cz_2, cI_2, cO_2, cL_2, cD_2, cz_3, cI_3, cO_3, cL_3, cD_3, cz_4, cI_4, cO_4, cL_4, cD_4, cz_5, cI_5, cO_5, cL_5, cD_5, cz_6, cI_6, cO_6, cL_6, cD_6, cz_7, cI_7, cO_7, cL_7, cD_7, cz_8, cI_8, cO_8, cL_8, cD_8, List.mem_cons, or_true, true_or, and_self, sI_S, sL_S, sR_S, sD_S, gb_S, sI_R, sL_R, sD_R, gb_R, sI_L, sR_I, sR_L, sL_I, sD_I, sD_L, gb_I, gb_L, q1, q2, q3, q4, b1, b2, b3, b4, t1, t2, t3, t4, y_S1 hL, y_S20 hL, y_S40 hL, y_V40 hL, s20, s40, i40, e1, e2, y_S20 hL2, y_S30 hL2, m140 hL2, if_pos e3, j_01, n_z0, if_neg z]
theorem L6 (hI : Inv L xs h) (hc : 5 * c + 5 ≤ L) (hl : L ≤ 2560) {a6 a7 a8 : Option MV} : LG L xs d c h (Ev (d + 21) 278 690 [some (vR (40, 0, 0)), some (vR (1, 0, 0)), some (vR (20, 0, 0)), some (vR (30, 0, 0)), some (vR (31, 0, 0)), some (vI (iN (5 * c))), a6, a7, a8] [] h) := by
  have q0 : (iN (5 * c)).toNatClampNeg = 5 * c := n_i (by omega)
  have q1 : iN (5 * c) + 1 = iN (5 * c + 1) := iN_add _ 1
  have q2 : iN (5 * c) + 2 = iN (5 * c + 2) := iN_add _ 2
  have q3 : iN (5 * c) + 3 = iN (5 * c + 3) := iN_add _ 3
  have q4 : iN (5 * c) + 4 = iN (5 * c + 4) := iN_add _ 4
  have b1 : inB (iN (5 * c + 1)) L := inB_of (by omega) (by omega)
  have b2 : inB (iN (5 * c + 2)) L := inB_of (by omega) (by omega)
  have b3 : inB (iN (5 * c + 3)) L := inB_of (by omega) (by omega)
  have b4 : inB (iN (5 * c + 4)) L := inB_of (by omega) (by omega)
  have t1 : (iN (5 * c + 1)).toNatClampNeg = 5 * c + 1 := n_i (by omega)
  have t2 : (iN (5 * c + 2)).toNatClampNeg = 5 * c + 2 := n_i (by omega)
  have t3 : (iN (5 * c + 3)).toNatClampNeg = 5 * c + 3 := n_i (by omega)
  have t4 : (iN (5 * c + 4)).toNatClampNeg = 5 * c + 4 := n_i (by omega)
  obtain ⟨hL, P, H, X, ci, mi, wi⟩ := hI
  obtain ⟨k, b, h1, h2, e1, e2, e3, e4, i2, n1, n2, n3⟩ := c6 (d := d) hL ci mi wi (x := xs (5 * c + 1))
  obtain ⟨s20, s40, i40⟩ := sc_S (Ev_S e1) hL
  have hL2 := i2.1
  refine ⟨some (vI k), some (vI b), a8, h2, ?_, i2, n1, n2, n3⟩
  by_cases z : k = 0
  · have e6 : lg_cmp (gL h2 (30, 0, 0) 0) b.toInt64 = 0 := by rw [e4 z]; exact lg_self
    simp only [v278_690, v278_691, v278_692, v278_694, v278_695, v278_696, v278_697, v278_698, v278_701, v278_703, v278_704, v278_705, v278_707, v278_708, v278_709, v278_710, v278_713, v278_715, v278_716, v278_719, v278_721, v278_724, v278_725, v278_726, v278_728, v278_731, v278_732, v278_733, v278_734, v278_736, v278_737, v278_738, v278_741, v278_742, v278_743, n_14, n_8, inB_of, Nat.reduceLT, Prod.mk.injEq, true_and, rB, rBn, rBa, rBb, rBc, rBd, Evk_v, Evk_n, Nat.reduceAdd, Nat.reduceLeDiff, Nat.le_refl, Nat.zero_le, cz_0, cz_1, cI_1, cO_1, cz_2, cI_2, cO_2, cL_2, cD_2, cz_3, cI_3, cO_3, cL_3, cD_3, cz_4, cI_4, cO_4, cL_4, cD_4, cz_5, cI_5, cO_5, cL_5, cD_5, cz_6, cI_6, cO_6, cL_6, cD_6, cz_7, cI_7, cO_7, cL_7, cD_7, cz_8, cI_8, cO_8, cL_8, cD_8, List.mem_cons, or_true, true_or, and_self, sI_S, sL_S, sR_S, sD_S, gb_S, sI_R, sL_R, sD_R, gb_R, sI_L, sR_I, sR_L, sL_I, sD_I, sD_L, gb_I, gb_L, q1, q2, q3, q4, b1, b2, b3, b4, t1, t2, t3, t4, y_S1 hL, y_S20 hL, y_S40 hL, y_V40 hL, s20, s40, i40, e1, e2, y_S20 hL2, y_S30 hL2, m140 hL2, if_pos e3, j_01, n_z0, if_pos z, if_pos e6]
  · simp only [v278_690, v278_691, v278_692, v278_694, v278_695, v278_696, v278_697, v278_698, v278_701, v278_703, v278_704, v278_705, v278_707, v278_708, v278_709, v278_710, v278_713, v278_715, v278_716, v278_719, v278_721, v278_724, v278_725, v278_726, v278_728, v278_731, v278_732, v278_733, v278_734, v278_736, v278_737, v278_738, v278_741, v278_742, v278_743, n_14, n_8, inB_of, Nat.reduceLT, Prod.mk.injEq, true_and, rB, rBn, rBa, rBb, rBc, rBd, Evk_v, Evk_n, Nat.reduceAdd, Nat.reduceLeDiff, Nat.le_refl, Nat.zero_le, cz_0, cz_1, cI_1, cO_1, cz_2, cI_2, cO_2, cL_2, cD_2, cz_3, cI_3, cO_3, cL_3, cD_3, cz_4, cI_4, cO_4, cL_4, cD_4, cz_5, cI_5, cO_5, cL_5, cD_5, cz_6, cI_6, cO_6, cL_6, cD_6, cz_7, cI_7, cO_7, cL_7, cD_7, cz_8, cI_8, cO_8, cL_8, cD_8, List.mem_cons, or_true, true_or, and_self, sI_S, sL_S, sR_S, sD_S, gb_S, sI_R, sL_R, sD_R, gb_R, sI_L, sR_I, sR_L, sL_I, sD_I, sD_L, gb_I, gb_L, q1, q2, q3, q4, b1, b2, b3, b4, t1, t2, t3, t4, y_S1 hL, y_S20 hL, y_S40 hL, y_V40 hL, s20, s40, i40, e1, e2, y_S20 hL2, y_S30 hL2, m140 hL2, if_pos e3, j_01, n_z0, if_neg z]
theorem L7 (hI : Inv L xs h) (hc : 5 * c + 5 ≤ L) (hl : L ≤ 2560) {a6 a7 a8 : Option MV} : LG L xs d c h (Ev (d + 21) 278 746 [some (vR (40, 0, 0)), some (vR (1, 0, 0)), some (vR (20, 0, 0)), some (vR (30, 0, 0)), some (vR (31, 0, 0)), some (vI (iN (5 * c))), a6, a7, a8] [] h) := by
  have q0 : (iN (5 * c)).toNatClampNeg = 5 * c := n_i (by omega)
  have q1 : iN (5 * c) + 1 = iN (5 * c + 1) := iN_add _ 1
  have q2 : iN (5 * c) + 2 = iN (5 * c + 2) := iN_add _ 2
  have q3 : iN (5 * c) + 3 = iN (5 * c + 3) := iN_add _ 3
  have q4 : iN (5 * c) + 4 = iN (5 * c + 4) := iN_add _ 4
  have b1 : inB (iN (5 * c + 1)) L := inB_of (by omega) (by omega)
  have b2 : inB (iN (5 * c + 2)) L := inB_of (by omega) (by omega)
  have b3 : inB (iN (5 * c + 3)) L := inB_of (by omega) (by omega)
  have b4 : inB (iN (5 * c + 4)) L := inB_of (by omega) (by omega)
  have t1 : (iN (5 * c + 1)).toNatClampNeg = 5 * c + 1 := n_i (by omega)
  have t2 : (iN (5 * c + 2)).toNatClampNeg = 5 * c + 2 := n_i (by omega)
  have t3 : (iN (5 * c + 3)).toNatClampNeg = 5 * c + 3 := n_i (by omega)
  have t4 : (iN (5 * c + 4)).toNatClampNeg = 5 * c + 4 := n_i (by omega)
  obtain ⟨hL, P, H, X, ci, mi, wi⟩ := hI
  obtain ⟨k, b, h1, h2, e1, e2, e3, e4, i2, n1, n2, n3⟩ := c7 (d := d) hL ci mi wi (x := xs (5 * c + 1)) (y := xs (5 * c + 2)) (z := xs (5 * c + 3)) (w := xs (5 * c + 4))
  obtain ⟨s20, s40, i40⟩ := sc_S (Ev_S e1) hL
  have hL2 := i2.1
  refine ⟨some (vI k), some (vI b), a8, h2, ?_, i2, n1, n2, n3⟩
  by_cases z : k = 0
  · have e6 : lg_cmp (gL h2 (30, 0, 0) 0) b.toInt64 = 0 := by rw [e4 z]; exact lg_self
    simp only [v278_746, v278_747, v278_748, v278_750, v278_751, v278_752, v278_753, v278_754, v278_756, v278_757, v278_758, v278_759, v278_760, v278_762, v278_763, v278_764, v278_765, v278_766, v278_768, v278_769, v278_770, v278_771, v278_772, v278_775, v278_777, v278_778, v278_779, v278_781, v278_782, v278_783, v278_784, v278_785, v278_787, v278_788, v278_789, v278_790, v278_791, v278_793, v278_794, v278_795, v278_796, v278_797, v278_799, v278_800, v278_801, v278_802, v278_805, v278_807, v278_808, v278_811, v278_813, v278_816, v278_817, v278_818, v278_820, v278_823, v278_824, v278_825, v278_826, v278_828, v278_829, v278_830, v278_833, v278_834, v278_835, n_14, n_8, inB_of, Nat.reduceLT, Prod.mk.injEq, true_and, rB, rBn, rBa, rBb, rBc, rBd, Evk_v, Evk_n, Nat.reduceAdd, Nat.reduceLeDiff, Nat.le_refl, Nat.zero_le, cz_0, cz_1, cI_1, cO_1, cz_2, cI_2, cO_2, cL_2, cD_2, cz_3, cI_3, cO_3, cL_3, cD_3, cz_4, cI_4, cO_4, cL_4, cD_4, cz_5, cI_5, cO_5, cL_5, cD_5, cz_6, cI_6, cO_6, cL_6, cD_6, cz_7, cI_7, cO_7, cL_7, cD_7, cz_8, cI_8, cO_8, cL_8, cD_8, List.mem_cons, or_true, true_or, and_self, sI_S, sL_S, sR_S, sD_S, gb_S, sI_R, sL_R, sD_R, gb_R, sI_L, sR_I, sR_L, sL_I, sD_I, sD_L, gb_I, gb_L, q1, q2, q3, q4, b1, b2, b3, b4, t1, t2, t3, t4, y_S1 hL, y_S20 hL, y_S40 hL, y_V40 hL, s20, s40, i40, e1, e2, y_S20 hL2, y_S30 hL2, m140 hL2, if_pos e3, j_01, n_z0, if_pos z, if_pos e6]
  · simp only [v278_746, v278_747, v278_748, v278_750, v278_751, v278_752, v278_753, v278_754, v278_756, v278_757, v278_758, v278_759, v278_760, v278_762, v278_763, v278_764, v278_765, v278_766, v278_768, v278_769, v278_770, v278_771, v278_772, v278_775, v278_777, v278_778, v278_779, v278_781, v278_782, v278_783, v278_784, v278_785, v278_787, v278_788, v278_789, v278_790, v278_791, v278_793, v278_794, v278_795, v278_796, v278_797, v278_799, v278_800, v278_801, v278_802, v278_805, v278_807, v278_808, v278_811, v278_813, v278_816, v278_817, v278_818, v278_820, v278_823, v278_824, v278_825, v278_826, v278_828, v278_829, v278_830, v278_833, v278_834, v278_835, n_14, n_8, inB_of, Nat.reduceLT, Prod.mk.injEq, true_and, rB, rBn, rBa, rBb, rBc, rBd, Evk_v, Evk_n, Nat.reduceAdd, Nat.reduceLeDiff, Nat.le_refl, Nat.zero_le, cz_0, cz_1, cI_1, cO_1, cz_2, cI_2, cO_2, cL_2, cD_2, cz_3, cI_3, cO_3, cL_3, cD_3, cz_4, cI_4, cO_4, cL_4, cD_4, cz_5, cI_5, cO_5, cL_5, cD_5, cz_6, cI_6, cO_6, cL_6, cD_6, cz_7, cI_7, cO_7, cL_7, cD_7, cz_8, cI_8, cO_8, cL_8, cD_8, List.mem_cons, or_true, true_or, and_self, sI_S, sL_S, sR_S, sD_S, gb_S, sI_R, sL_R, sD_R, gb_R, sI_L, sR_I, sR_L, sL_I, sD_I, sD_L, gb_I, gb_L, q1, q2, q3, q4, b1, b2, b3, b4, t1, t2, t3, t4, y_S1 hL, y_S20 hL, y_S40 hL, y_V40 hL, s20, s40, i40, e1, e2, y_S20 hL2, y_S30 hL2, m140 hL2, if_pos e3, j_01, n_z0, if_neg z]
end LawC87
