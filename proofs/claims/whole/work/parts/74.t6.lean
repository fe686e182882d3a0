/-! DAYS THAT PASS: plans whose places are lost -/



/-- the plan without the places of a set of theses, on another day -/
def upn (P : PL) (c : Nat → Bool) (T : Int32) : PL := (fun f j => if (f = 12 ∨ f = 13 ∨ f = 14) ∧ c j = true then -1 else if f = 16 ∧ j = 0 then T else P.1 f j, P.2)
/-- lost when the day T has come -/
def lst (P : PL) (T : Int32) (j : Nat) : Bool := ahd P j && decide (ndl P j < T)
section T6
variable {L : Nat} {xs : Nat → Int32} {h h' h1 : Hp} {p : Nat} {P Q : PL} {d : Nat} {c c' : Nat → Bool} {T T' : Int32}
theorem lst_t {j : Nat} : (lst P T j = true) ↔ (pld P j = true ∧ ¬ dfd P j = true) ∧ ndl P j < T := by
  unfold lst
  rw [Bool.and_eq_true, ← ahd_t, decide_eq_true_iff]
theorem upn_o {f j : Nat} (hf : ¬ (f = 12 ∨ f = 13 ∨ f = 14)) (h16 : f ≠ 16) : (upn P c T).1 f j = P.1 f j := by
  unfold upn
  show (if (f = 12 ∨ f = 13 ∨ f = 14) ∧ c j = true then -1 else if f = 16 ∧ j = 0 then T else P.1 f j) = P.1 f j
  rw [if_neg fun z => hf z.1, if_neg fun z => h16 z.1]
theorem upn_16 : (upn P c T).1 16 0 = T := by
  show (if (16 = 12 ∨ 16 = 13 ∨ 16 = 14) ∧ c 0 = true then -1 else if 16 = 16 ∧ 0 = 0 then T else P.1 16 0) = T
  rw [if_neg (by simp), if_pos ⟨rfl, rfl⟩]
theorem upn_lo : (upn P c T).1 16 1 = P.1 16 1 := by
  show (if (16 = 12 ∨ 16 = 13 ∨ 16 = 14) ∧ c 1 = true then -1 else if 16 = 16 ∧ 1 = 0 then T else P.1 16 1) = P.1 16 1
  rw [if_neg (by simp), if_neg (by simp)]
theorem upn_t {f j : Nat} (hf : f = 12 ∨ f = 13 ∨ f = 14) (hc : c j = true) : (upn P c T).1 f j = -1 := if_pos ⟨hf, hc⟩
theorem upn_f {f j : Nat} (hf : f = 12 ∨ f = 13 ∨ f = 14) (hc : ¬ c j = true) : (upn P c T).1 f j = P.1 f j := by
  show (if (f = 12 ∨ f = 13 ∨ f = 14) ∧ c j = true then -1 else if f = 16 ∧ j = 0 then T else P.1 f j) = P.1 f j
  rw [if_neg fun z => hc z.2, if_neg (by omega)]
theorem pld_up {j : Nat} : pld (upn P c T) j = (pld P j && !c j) := by
  unfold pld
  cases e : c j
  · rw [upn_f (Or.inl rfl) (by rw [e]; simp)]; simp
  · rw [upn_t (Or.inl rfl) e]; simp
theorem dfd_up {j : Nat} : dfd (upn P c T) j = dfd P j := by unfold dfd; rw [upn_o (by decide) (by decide)]
theorem db_up {j w : Nat} : db (upn P c T) j w = db P j w := by unfold db; rw [upn_o (by decide) (by decide)]
theorem ndl_up {j : Nat} (hc : ¬ c j = true) : ndl (upn P c T) j = ndl P j := by
  unfold ndl
  rw [upn_f (Or.inr (Or.inl rfl)) hc, upn_o (by decide) (by decide), db_up]
theorem WF_up (hW : WF P) {t : Nat} (ht : t ≤ 400) : WF (upn P c (iN t)) := by
  have o : ∀ g k, ¬ (g = 12 ∨ g = 13 ∨ g = 14) → g ≠ 16 → (upn P c (iN t)).1 g k = P.1 g k := fun g k a b => upn_o a b
  refine ⟨⟨hW.1.1, hW.1.2.1, hW.1.2.2.1, t, ht, upn_16⟩, wfB_q hW.2.1 rfl fun g hg k => o g k (by omega) (by omega), wfC_q hW.2.2.1 rfl (fun k => o 6 k (by decide) (by decide)) (fun k => o 9 k (by decide) (by decide)) (fun k hk => ?_) (fun k hk => ?_) (fun k hk => ?_), fun j j1 j2 => ?_, wfG_q hW.2.2.2.2 rfl (fun k => o 6 k (by decide) (by decide)) (fun k => o 11 k (by decide) (by decide))⟩
  · rw [o 10 k (by decide) (by decide)]; exact w_st hW hk
  · rw [o 11 k (by decide) (by decide)]; exact w_mb hW hk
  · unfold placeOk
    cases e : c k
    · have e : ¬ c k = true := by rw [e]; simp
      rw [upn_f (Or.inl rfl) e, upn_f (Or.inr (Or.inl rfl)) e, upn_f (Or.inr (Or.inr rfl)) e]
      exact w_pl hW hk
    · rw [upn_t (Or.inl rfl) e, upn_t (Or.inr (Or.inl rfl)) e, upn_t (Or.inr (Or.inr rfl)) e]
      exact Or.inl ⟨rfl, rfl, rfl⟩
  · obtain ⟨a1, a2, a3, a4, a5, a6, a7, a8, a9⟩ := w_t0 hW (show tn P ≤ j from j1) j2
    rw [o 6 j (by decide) (by decide), o 7 j (by decide) (by decide), o 8 j (by decide) (by decide), o 9 j (by decide) (by decide), o 10 j (by decide) (by decide), o 11 j (by decide) (by decide)]
    refine ⟨a1, a2, a3, a4, a5, a6, ?_, ?_, ?_⟩
    · cases e : c j
      · rw [upn_f (Or.inl rfl) (by rw [e]; simp)]; exact a7
      · rw [upn_t (Or.inl rfl) e]
    · cases e : c j
      · rw [upn_f (Or.inr (Or.inl rfl)) (by rw [e]; simp)]; exact a8
      · rw [upn_t (Or.inr (Or.inl rfl)) e]
    · cases e : c j
      · rw [upn_f (Or.inr (Or.inr rfl)) (by rw [e]; simp)]; exact a9
      · rw [upn_t (Or.inr (Or.inr rfl)) e]
theorem upn_c (e : ∀ j, c j = c' j) : upn P c T = upn P c' T := by rw [show c = c' from funext e]
theorem uPl_up {k : Nat} : uPl (upn P c T) k (-1) (-1) (-1) = upn P (fun j => c j || decide (j = k)) T := by
  refine Prod.ext ?_ rfl
  funext f j
  unfold uPl
  rw [uF_e, uF_e, uF_e]
  by_cases y : j = k
  · by_cases g : f = 12 ∨ f = 13 ∨ f = 14
    · have e2 : (upn P (fun j => c j || decide (j = k)) T).1 f j = -1 := upn_t g (by simp [y])
      rw [e2]
      rcases g with rfl | rfl | rfl <;> simp [y]
    · rw [if_neg fun z => g (Or.inr (Or.inr z.1)), if_neg fun z => g (Or.inr (Or.inl z.1)), if_neg fun z => g (Or.inl z.1)]
      show (if (f = 12 ∨ f = 13 ∨ f = 14) ∧ c j = true then -1 else if f = 16 ∧ j = 0 then T else P.1 f j) = (if (f = 12 ∨ f = 13 ∨ f = 14) ∧ (c j || decide (j = k)) = true then -1 else if f = 16 ∧ j = 0 then T else P.1 f j)
      simp only [g, false_and, if_false]
  · rw [if_neg fun z => y z.2, if_neg fun z => y z.2, if_neg fun z => y z.2]
    show (if (f = 12 ∨ f = 13 ∨ f = 14) ∧ c j = true then -1 else if f = 16 ∧ j = 0 then T else P.1 f j) = (if (f = 12 ∨ f = 13 ∨ f = 14) ∧ (c j || decide (j = k)) = true then -1 else if f = 16 ∧ j = 0 then T else P.1 f j)
    have : (c j || decide (j = k)) = c j := by simp [y]
    rw [this]
theorem up_16 : uF (upn P c T) 16 0 T' = upn P c T' := by
  refine Prod.ext ?_ rfl
  funext f j
  rw [uF_e]
  show (if f = 16 ∧ j = 0 then T' else if (f = 12 ∨ f = 13 ∨ f = 14) ∧ c j = true then -1 else if f = 16 ∧ j = 0 then T else P.1 f j) = (if (f = 12 ∨ f = 13 ∨ f = 14) ∧ c j = true then -1 else if f = 16 ∧ j = 0 then T' else P.1 f j)
  by_cases y : f = 16 ∧ j = 0
  · rw [if_pos y, if_neg (fun z => by have := z.1; omega), if_pos y]
  · rw [if_neg y, if_neg y, if_neg y]
theorem upn_id : upn P (fun _ => false) (P.1 16 0) = P := by
  refine Prod.ext ?_ rfl
  funext f j
  show (if (f = 12 ∨ f = 13 ∨ f = 14) ∧ false = true then -1 else if f = 16 ∧ j = 0 then P.1 16 0 else P.1 f j) = P.1 f j
  rw [if_neg (by simp)]
  by_cases y : f = 16 ∧ j = 0
  · rw [if_pos y, y.1, y.2]
  · rw [if_neg y]
theorem cl_16 {v : Int32} (hC : Cls h p P) : Cls (sI h (2, p, 0) 6 v) p (uF P 16 0 v) := by
  refine cl_pl (q := (uF P 16 0 v).1) (n := pn P) (t := tn P) (w := wn P) hC (fun f k hf => uF_o hf) (fun k hk => l_ln hC hk) 6 ?_ ?_ ?_ ?_ ?_
  · rw [if_neg (by decide)]
  · rw [if_neg (by decide)]
  · rw [if_neg (by decide)]
  · rw [if_pos rfl, uF_s]
  · rw [if_neg (by decide), uF_n (by decide)]
theorem cl_17 {v : Int32} (hC : Cls h p P) : Cls (sI h (2, p, 0) 7 v) p (uF P 16 1 v) := by
  refine cl_pl (q := (uF P 16 1 v).1) (n := pn P) (t := tn P) (w := wn P) hC (fun f k hf => uF_o hf) (fun k hk => l_ln hC hk) 7 ?_ ?_ ?_ ?_ ?_
  · rw [if_neg (by decide)]
  · rw [if_neg (by decide)]
  · rw [if_neg (by decide)]
  · rw [if_neg (by decide), uF_n (by decide)]
  · rw [if_pos rfl, uF_s]
theorem mo_16 {v : Int32} (hM : Mod h P) : Mod (sI h (20, 0, 0) 8 v) (uF P 16 0 v) := by
  have e : ∀ k, k ≠ 8 → gI (sI h (20, 0, 0) 8 v) (20, 0, 0) k = gI h (20, 0, 0) k := fun k hk => by rw [sI_I, if_neg fun z => hk z.2]
  have e2 : (fun f' i => gI (sI h (20, 0, 0) 8 v) (21, f', 0) i) = fun f' i => gI h (21, f', 0) i := by
    funext f' i
    rw [sI_I, if_neg (by simp)]
  have o : ∀ g k, g ≠ 16 → (uF P 16 0 v).1 g k = P.1 g k := fun g k hg => uF_o hg
  unfold Mod
  rw [e2]
  refine ⟨fun g hg i hi => (hM.1 g hg i hi).trans (o g i (by omega)).symm, fun i hi x hx => (hM.2.1 i hi x hx).trans (o 5 _ (by decide)).symm, fun g g1 g2 j hj => (hM.2.2.1 g g1 g2 j hj).trans (o g j (by omega)).symm, fun k hk => (hM.2.2.2.1 k hk).trans (o 15 k (by decide)).symm, ?_, ?_, ?_, ?_, ?_⟩
  · exact (e 7 (by decide)).trans (m_pc (P := P) hM)
  · show gI (sI h (20, 0, 0) 8 v) (20, 0, 0) 8 = (uF P 16 0 v).1 16 0
    rw [sI_I, if_pos ⟨rfl, rfl⟩, uF_s]
  · exact (e 19 (by decide)).trans (m_tc (P := P) hM)
  · exact (e 20 (by decide)).trans (m_wc (P := P) hM)
  · show gI (sI h (20, 0, 0) 8 v) (20, 0, 0) 21 = (uF P 16 0 v).1 16 1
    rw [uF_n (by decide)]; exact (e 21 (by decide)).trans (m_lo (P := P) hM)
theorem mo_17 {v : Int32} (hM : Mod h P) : Mod (sI h (20, 0, 0) 21 v) (uF P 16 1 v) := by
  have e : ∀ k, k ≠ 21 → gI (sI h (20, 0, 0) 21 v) (20, 0, 0) k = gI h (20, 0, 0) k := fun k hk => by rw [sI_I, if_neg fun z => hk z.2]
  have e2 : (fun f' i => gI (sI h (20, 0, 0) 21 v) (21, f', 0) i) = fun f' i => gI h (21, f', 0) i := by
    funext f' i
    rw [sI_I, if_neg (by simp)]
  have o : ∀ g k, g ≠ 16 → (uF P 16 1 v).1 g k = P.1 g k := fun g k hg => uF_o hg
  unfold Mod
  rw [e2]
  refine ⟨fun g hg i hi => (hM.1 g hg i hi).trans (o g i (by omega)).symm, fun i hi x hx => (hM.2.1 i hi x hx).trans (o 5 _ (by decide)).symm, fun g g1 g2 j hj => (hM.2.2.1 g g1 g2 j hj).trans (o g j (by omega)).symm, fun k hk => (hM.2.2.2.1 k hk).trans (o 15 k (by decide)).symm, ?_, ?_, ?_, ?_, ?_⟩
  · exact (e 7 (by decide)).trans (m_pc (P := P) hM)
  · show gI (sI h (20, 0, 0) 21 v) (20, 0, 0) 8 = (uF P 16 1 v).1 16 0
    rw [uF_n (by decide)]; exact (e 8 (by decide)).trans (m_td (P := P) hM)
  · exact (e 19 (by decide)).trans (m_tc (P := P) hM)
  · exact (e 20 (by decide)).trans (m_wc (P := P) hM)
  · show gI (sI h (20, 0, 0) 21 v) (20, 0, 0) 21 = (uF P 16 1 v).1 16 1
    rw [sI_I, if_pos ⟨rfl, rfl⟩, uF_s]
theorem mo_plM {j : Nat} {r x u : Int32} (hM : Mod h P) : Mod (plM h j r x u) (uPl P j r x u) := mo_ar (mo_ar (mo_ar hM (by decide) (by decide)) (by decide) (by decide)) (by decide) (by decide)
theorem cn_add1 {k n : Nat} (hk : k < n) (e : ∀ j, j ≠ k → c' j = c j) (e0 : c k = false) (e1 : c' k = true) : cn c' n = cn c n + 1 := by
  rw [cn_but (c := c) hk, cn_but (c := c') hk, e0, e1]
  have : cn (fun t => decide (t ≠ k) && c' t) n = cn (fun t => decide (t ≠ k) && c t) n := cn_congr fun j hj => by
    by_cases y : j = k
    · subst y; simp
    · rw [e j y]
  rw [this]; rfl
theorem cn_f {n : Nat} : cn (fun _ => false) n = 0 := by
  induction n with
  | zero => rfl
  | succ n ih => rw [cn_s, ih]; rfl
/-- what the class has taken away before thesis k -/
def ck (P : PL) (T : Int32) (k j : Nat) : Bool := decide (j < k) && lst P T j
theorem ck_s {k j : Nat} : (ck P T (k + 1) j) = if lst P T k = true then (ck P T k j || decide (j = k)) else ck P T k j := by
  unfold ck
  by_cases z : lst P T k = true
  · rw [if_pos z]
    by_cases y : j = k
    · subst y; simp [z]
    · have : decide (j < k + 1) = decide (j < k) := by
        by_cases w : j < k
        · rw [decide_eq_true w, decide_eq_true (show j < k + 1 by omega)]
        · rw [decide_eq_false w, decide_eq_false (show ¬ j < k + 1 by omega)]
      rw [this]; simp [y]
  · rw [if_neg z]
    by_cases y : j = k
    · subst y; simp [z]
    · have : decide (j < k + 1) = decide (j < k) := by
        by_cases w : j < k
        · rw [decide_eq_true w, decide_eq_true (show j < k + 1 by omega)]
        · rw [decide_eq_false w, decide_eq_false (show ¬ j < k + 1 by omega)]
      rw [this]
theorem ck_k {k : Nat} : ¬ ck P T k k = true := by unfold ck; simp
theorem ck_0 : ∀ j, ck P T 0 j = false := fun j => by unfold ck; simp
theorem m60 (hL : Lay L xs h) (hC : Cls h p P) (hp : p < 9) (hW : WF P) {t n : Nat} (et : P.1 16 0 = iN t) (hT : t + n ≤ 400) : ∃ h', Ev (d + 3) 60 0 [some (vR (2, p, 0)), some (vI (iN n)), none, none, none, none, none] [] h = some (.inl (some (vI (iN (cn (lst P (iN (t + n))) 8)))), h') ∧ Chg (inP p) h h' ∧ Cls h' p (uF (upn P (ck P (iN (t + n)) 8) (iN (t + n))) 16 1 (P.1 16 1 + iN (cn (lst P (iN (t + n))) 8))) := by
  have lp := loopI (σ := LS3 × Hp) (E := fun s => Ev (d + 3) 60 24 s.1 [] s.2) (I := fun k s => (∃ o : Option MV, s.1 = [some (vR (2, p, 0)), some (vI (iN n)), some (vI (iN (cn (lst P (iN (t + n))) k))), some (vR (7, p, 0)), some (vI (iN 8)), some (vI (iN k)), o]) ∧ Chg (inP p) h s.2 ∧ Cls s.2 p (upn P (ck P (iN (t + n)) k) (iN (t + n)))) (n := 8) (by
    rintro k hk ⟨ls, h1⟩ ⟨⟨o, rfl⟩, c, hQ⟩
    have hk31 : k < 2147483648 := by omega
    have hnl : ¬ (iN 8 ≤ iN k) := nle (n := 8) hk (by omega)
    have hL1 := Lay_ch hL c (fun a ha z => by have := z.2.2; omega)
    have hWQ : WF (upn P (ck P (iN (t + n)) k) (iN (t + n))) := WF_up hW hT
    have pQ : pld (upn P (ck P (iN (t + n)) k) (iN (t + n))) k = pld P k := by
      rw [pld_up, eq_false_of_ne_true ck_k]; simp
    have dQ : dfd (upn P (ck P (iN (t + n)) k) (iN (t + n))) k = dfd P k := dfd_up
    have nQ : ndl (upn P (ck P (iN (t + n)) k) (iN (t + n))) k = ndl P k := ndl_up ck_k
    have e81 := fun d => m81 (d := d) hL1 hQ hp hk
    rw [pQ, dQ] at e81
    by_cases y : pld P k = true ∧ ¬ dfd P k = true
    · have e88 := fun d => m88 (d := d) hL1 hQ hp hWQ hk (by rw [dQ]; exact y.2)
      rw [nQ] at e88
      have e6 : gI h1 (2, p, 0) 6 = iN (t + n) := (p_td hQ).trans upn_16
      by_cases z : ndl P k < iN (t + n)
      · have hl : lst P (iN (t + n)) k = true := lst_t.mpr ⟨y, z⟩
        have e78 := fun d => m78 (d := d) (y_S5 hL1 hp hk)
        have c2 := cl_tpl (i := k) (r := -1) (f := -1) (c := -1) hQ
        rw [uPl_up, upn_c (c' := ck P (iN (t + n)) (k + 1)) (fun j => by rw [ck_s, if_pos hl])] at c2
        refine ⟨(_, tpl h1 p k (-1) (-1) (-1)), ⟨⟨some (vR (5, p, k)), rfl⟩, ch_t c (ch_tpl inP_5), c2⟩, ?_⟩
        show Ev (d + 3) 60 24 _ [] h1 = Ev (d + 3) 60 24 _ [] (tpl h1 p k (-1) (-1) (-1))
        rw [v60_24]
        simp only [v60_0, v60_1, v60_2, v60_3, v60_4, v60_7, v60_8, v60_9, v60_12, v60_13, v60_16, v60_17, v60_18, v60_19, v60_21, v60_22, v60_26, v60_28, v60_31, v60_32, v60_34, v60_35, v60_37, v60_39, v60_42, v60_45, v60_47, v60_50, v60_51, v60_54, v60_57, v60_59, v60_62, v60_65, v60_68, v60_71, v60_72, v60_73, v60_76, v60_77, v60_78, v60_81, v60_82, n_14, n_8, inB_of, Nat.reduceLT, Prod.mk.injEq, true_and, rB, rBn, rBa, rBb, rBc, rBd, Evk_v, Evk_n, Nat.reduceAdd, Nat.reduceLeDiff, Nat.le_refl, Nat.zero_le, cz_0, cz_1, cI_1, cO_1, cz_2, cI_2, cO_2, cL_2, cD_2, cz_3, cI_3, cO_3, cL_3, cD_3, cz_4, cI_4, cO_4, cL_4, cD_4, cz_5, cI_5, cO_5, cL_5, cD_5, cz_6, cI_6, cO_6, cL_6, cD_6, cz_7, cI_7, cO_7, cL_7, cD_7, cz_8, cI_8, cO_8, cL_8, cD_8, List.mem_cons, or_true, true_or, and_self, sI_S, sL_S, sR_S, sD_S, gb_S, sI_R, sL_R, sD_R, gb_R, sI_L, sR_I, sR_L, sL_I, sD_I, sD_L, gb_I, gb_L, y_S7 hL1, y_R7 hL1, y_S5 hL1, y_S2 hL1, hp, hk, n_i hk31, if_neg hnl, e81, bI_0, y, e88, e6, if_neg (nle32 z), e78, iN_s, cn_s, hl, Bool.toNat_true, Bool.toNat_false, Nat.add_zero, Int32.add_zero, c1_It, c1_Ot, bI_T, bI_F, i10, i01, if_true, if_false, not_true_eq_false, not_false_eq_true, Bool.false_eq_true, Int32.or_zero, ne_eq, Bool.and_eq_true, decide_eq_true_eq, decide_true, decide_false, and_true, true_and, and_false, false_and, Bool.and_true, Bool.true_and, Bool.and_false, Bool.false_and]
      · have hl : ¬ lst P (iN (t + n)) k = true := fun q => z (lst_t.mp q).2
        have hl' := eq_false_of_ne_true hl
        rw [upn_c (c' := ck P (iN (t + n)) (k + 1)) (fun j => by rw [ck_s, if_neg hl])] at hQ
        refine ⟨(_, h1), ⟨⟨some (vR (5, p, k)), rfl⟩, c, hQ⟩, ?_⟩
        show Ev (d + 3) 60 24 _ [] h1 = Ev (d + 3) 60 24 _ [] h1
        rw [v60_24]
        simp only [v60_0, v60_1, v60_2, v60_3, v60_4, v60_7, v60_8, v60_9, v60_12, v60_13, v60_16, v60_17, v60_18, v60_19, v60_21, v60_22, v60_26, v60_28, v60_31, v60_32, v60_34, v60_35, v60_37, v60_39, v60_42, v60_45, v60_47, v60_50, v60_51, v60_54, v60_57, v60_59, v60_62, v60_65, v60_68, v60_71, v60_72, v60_73, v60_76, v60_77, v60_78, v60_81, v60_82, n_14, n_8, inB_of, Nat.reduceLT, Prod.mk.injEq, true_and, rB, rBn, rBa, rBb, rBc, rBd, Evk_v, Evk_n, Nat.reduceAdd, Nat.reduceLeDiff, Nat.le_refl, Nat.zero_le, cz_0, cz_1, cI_1, cO_1, cz_2, cI_2, cO_2, cL_2, cD_2, cz_3, cI_3, cO_3, cL_3, cD_3, cz_4, cI_4, cO_4, cL_4, cD_4, cz_5, cI_5, cO_5, cL_5, cD_5, cz_6, cI_6, cO_6, cL_6, cD_6, cz_7, cI_7, cO_7, cL_7, cD_7, cz_8, cI_8, cO_8, cL_8, cD_8, List.mem_cons, or_true, true_or, and_self, sI_S, sL_S, sR_S, sD_S, gb_S, sI_R, sL_R, sD_R, gb_R, sI_L, sR_I, sR_L, sL_I, sD_I, sD_L, gb_I, gb_L, y_S7 hL1, y_R7 hL1, y_S5 hL1, y_S2 hL1, hp, hk, n_i hk31, if_neg hnl, e81, bI_0, y, e88, e6, if_pos (le32n z), iN_s, cn_s, hl', Bool.toNat_true, Bool.toNat_false, Nat.add_zero, Int32.add_zero, c1_It, c1_Ot, bI_T, bI_F, i10, i01, if_true, if_false, not_true_eq_false, not_false_eq_true, Bool.false_eq_true, Int32.or_zero, ne_eq, Bool.and_eq_true, decide_eq_true_eq, decide_true, decide_false, and_true, true_and, and_false, false_and, Bool.and_true, Bool.true_and, Bool.and_false, Bool.false_and]
    · have hl : ¬ lst P (iN (t + n)) k = true := fun q => y (lst_t.mp q).1
      have hl' := eq_false_of_ne_true hl
      rw [upn_c (c' := ck P (iN (t + n)) (k + 1)) (fun j => by rw [ck_s, if_neg hl])] at hQ
      refine ⟨(_, h1), ⟨⟨some (vR (5, p, k)), rfl⟩, c, hQ⟩, ?_⟩
      show Ev (d + 3) 60 24 _ [] h1 = Ev (d + 3) 60 24 _ [] h1
      rw [v60_24]
      simp only [v60_0, v60_1, v60_2, v60_3, v60_4, v60_7, v60_8, v60_9, v60_12, v60_13, v60_16, v60_17, v60_18, v60_19, v60_21, v60_22, v60_26, v60_28, v60_31, v60_32, v60_34, v60_35, v60_37, v60_39, v60_42, v60_45, v60_47, v60_50, v60_51, v60_54, v60_57, v60_59, v60_62, v60_65, v60_68, v60_71, v60_72, v60_73, v60_76, v60_77, v60_78, v60_81, v60_82, n_14, n_8, inB_of, Nat.reduceLT, Prod.mk.injEq, true_and, rB, rBn, rBa, rBb, rBc, rBd, Evk_v, Evk_n, Nat.reduceAdd, Nat.reduceLeDiff, Nat.le_refl, Nat.zero_le, cz_0, cz_1, cI_1, cO_1, cz_2, cI_2, cO_2, cL_2, cD_2, cz_3, cI_3, cO_3, cL_3, cD_3, cz_4, cI_4, cO_4, cL_4, cD_4, cz_5, cI_5, cO_5, cL_5, cD_5, cz_6, cI_6, cO_6, cL_6, cD_6, cz_7, cI_7, cO_7, cL_7, cD_7, cz_8, cI_8, cO_8, cL_8, cD_8, List.mem_cons, or_true, true_or, and_self, sI_S, sL_S, sR_S, sD_S, gb_S, sI_R, sL_R, sD_R, gb_R, sI_L, sR_I, sR_L, sL_I, sD_I, sD_L, gb_I, gb_L, y_S7 hL1, y_R7 hL1, y_S5 hL1, y_S2 hL1, hp, hk, n_i hk31, if_neg hnl, e81, bI_0, if_pos y, if_neg y, if_neg (not_not_intro y), if_pos (show ¬ (pld P k = true ∧ ¬ dfd P k = true) from y), iN_s, cn_s, hl', Bool.toNat_true, Bool.toNat_false, Nat.add_zero, Int32.add_zero, c1_It, c1_Ot, bI_T, bI_F, i10, i01])
  have c0 : Cls (sI h (2, p, 0) 6 (iN (t + n))) p (upn P (ck P (iN (t + n)) 0) (iN (t + n))) := by
    have := cl_16 (v := iN (t + n)) hC
    rw [← up_16 (T := P.1 16 0), upn_c (c' := fun _ => false) ck_0, upn_id]
    exact this
  have k0 : Chg (inP p) h (sI h (2, p, 0) 6 (iN (t + n))) := ch_sI inP_2
  have hL0 := Lay_ch hL k0 (fun a ha z => by have := z.2.2; omega)
  obtain ⟨⟨ls, h1⟩, ⟨⟨o, rfl⟩, c, hQ⟩, e⟩ := lp (_, sI h (2, p, 0) 6 (iN (t + n))) ⟨⟨none, rfl⟩, k0, c0⟩
  have hL1 := Lay_ch hL c (fun a ha z => by have := z.2.2; omega)
  have e7 : gI h1 (2, p, 0) 7 = P.1 16 1 := (p_lo hQ).trans upn_lo
  refine ⟨sI h1 (2, p, 0) 7 (P.1 16 1 + iN (cn (lst P (iN (t + n))) 8)), ?_, ch_t c (ch_sI inP_2), cl_17 hQ⟩
  simp only [v60_0, v60_1, v60_2, v60_3, v60_4, v60_7, v60_8, v60_9, v60_12, v60_13, v60_16, v60_17, v60_18, v60_19, v60_21, v60_22, v60_26, v60_28, v60_31, v60_32, v60_34, v60_35, v60_37, v60_39, v60_42, v60_45, v60_47, v60_50, v60_51, v60_54, v60_57, v60_59, v60_62, v60_65, v60_68, v60_71, v60_72, v60_73, v60_76, v60_77, v60_78, v60_81, v60_82, n_14, n_8, inB_of, Nat.reduceLT, Prod.mk.injEq, true_and, rB, rBn, rBa, rBb, rBc, rBd, Evk_v, Evk_n, Nat.reduceAdd, Nat.reduceLeDiff, Nat.le_refl, Nat.zero_le, cz_0, cz_1, cI_1, cO_1, cz_2, cI_2, cO_2, cL_2, cD_2, cz_3, cI_3, cO_3, cL_3, cD_3, cz_4, cI_4, cO_4, cL_4, cD_4, cz_5, cI_5, cO_5, cL_5, cD_5, cz_6, cI_6, cO_6, cL_6, cD_6, cz_7, cI_7, cO_7, cL_7, cD_7, cz_8, cI_8, cO_8, cL_8, cD_8, List.mem_cons, or_true, true_or, and_self, sI_S, sL_S, sR_S, sD_S, gb_S, sI_R, sL_R, sD_R, gb_R, sI_L, sR_I, sR_L, sL_I, sD_I, sD_L, gb_I, gb_L, y_S2 hL, y_S2 hL0, y_S7 hL0, y_R2_1 hL0, hp, p_td hC, et, iN_add, c1_It, c1_Ot, bI_T, bI_F, i10, i01]
  refine Eq.trans e ?_
  show Ev (d + 3) 60 24 _ [] h1 = _
  rw [v60_24]
  simp only [v60_0, v60_1, v60_2, v60_3, v60_4, v60_7, v60_8, v60_9, v60_12, v60_13, v60_16, v60_17, v60_18, v60_19, v60_21, v60_22, v60_26, v60_28, v60_31, v60_32, v60_34, v60_35, v60_37, v60_39, v60_42, v60_45, v60_47, v60_50, v60_51, v60_54, v60_57, v60_59, v60_62, v60_65, v60_68, v60_71, v60_72, v60_73, v60_76, v60_77, v60_78, v60_81, v60_82, n_14, n_8, inB_of, Nat.reduceLT, Prod.mk.injEq, true_and, rB, rBn, rBa, rBb, rBc, rBd, Evk_v, Evk_n, Nat.reduceAdd, Nat.reduceLeDiff, Nat.le_refl, Nat.zero_le, cz_0, cz_1, cI_1, cO_1, cz_2, cI_2, cO_2, cL_2, cD_2, cz_3, cI_3, cO_3, cL_3, cD_3, cz_4, cI_4, cO_4, cL_4, cD_4, cz_5, cI_5, cO_5, cL_5, cD_5, cz_6, cI_6, cO_6, cL_6, cD_6, cz_7, cI_7, cO_7, cL_7, cD_7, cz_8, cI_8, cO_8, cL_8, cD_8, List.mem_cons, or_true, true_or, and_self, sI_S, sL_S, sR_S, sD_S, gb_S, sI_R, sL_R, sD_R, gb_R, sI_L, sR_I, sR_L, sL_I, sD_I, sD_L, gb_I, gb_L, y_S2 hL1, hp, if_pos (show iN 8 ≤ iN 8 from Int32.le_refl _), e7, c1_It, c1_Ot, bI_T, bI_F, i10, i01]
end T6
