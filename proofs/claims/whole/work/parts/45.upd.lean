/-! CHANGES OF A PLAN -/
def uF (P : PL) (f j : Nat) (v : Int32) : PL := (fun f' j' => if f' = f ∧ j' = j then v else P.1 f' j', P.2)
section Upd
variable {P : PL} {h : Hp} {p : Nat}
theorem uF_o {f f' j k : Nat} {v : Int32} (e : f' ≠ f) : (uF P f j v).1 f' k = P.1 f' k := if_neg fun y => e y.1
theorem uF_s {f j : Nat} {v : Int32} : (uF P f j v).1 f j = v := if_pos ⟨rfl, rfl⟩
theorem uF_n {f j k : Nat} {v : Int32} (e : k ≠ j) : (uF P f j v).1 f k = P.1 f k := if_neg fun y => e y.2
theorem uF_e {f f' j k : Nat} {v : Int32} : (uF P f j v).1 f' k = if f' = f ∧ k = j then v else P.1 f' k := rfl
theorem uF_2 {f j : Nat} {v : Int32} : (uF P f j v).2 = P.2 := rfl
theorem bhs_uF {f j i n : Nat} {v : Int32} (e : 5 ≠ f) : bhs (uF P f j v) i n = bhs P i n := by
  unfold bhs
  simp only [uF_o e]
theorem cl_pe {f i : Nat} {v : Int32} (hC : Cls h p P) (hf : f < 5) : Cls (sI h (3, p, i) (f + 3) v) p (uF P f i v) := by
  refine ⟨⟨fun k hk => ?_, fun k hk => ?_, fun g hg k hk => ?_, fun k hk => ?_, fun g hg k hk => ?_, fun k hk => ?_, ?_, ?_, ?_, ?_, ?_⟩, fun k hk x hx => ?_⟩
  · rw [sI_I, if_neg (by omega)]; exact k_nu hC hk
  · rw [sI_I, if_neg (by omega), bhs_uF (by omega)]; exact k_bh hC hk
  · rw [sI_I, uF_e]
    by_cases y : g = f ∧ k = i
    · rw [if_pos y, if_pos ⟨by rw [y.2], by omega⟩]
    · rw [if_neg y, if_neg fun z => y ⟨by have := z.2; omega, by have := z.1; simp at this; exact this⟩]
      exact hC.1.2.2.1 g hg k hk
  · rw [sI_I, if_neg (by simp)]; exact t_nu hC hk
  · rw [sI_I, if_neg (by simp), uF_o (by omega)]; exact hC.1.2.2.2.2.1 g hg k hk
  · rw [sI_I, if_neg (by simp), uF_o (by omega)]; exact l_ln hC hk
  · rw [sI_I, if_neg (by simp)]; show gI h (2, p, 0) 3 = iN (pn P); exact p_pc hC
  · rw [sI_I, if_neg (by simp)]; show gI h (2, p, 0) 4 = iN (tn P); exact p_tc hC
  · rw [sI_I, if_neg (by simp)]; show gI h (2, p, 0) 5 = iN (wn P); exact p_wc hC
  · rw [sI_I, if_neg (by simp), uF_o (by omega)]; exact p_td hC
  · rw [sI_I, if_neg (by simp), uF_o (by omega)]; exact p_lo hC
  · rw [sI_L, uF_o (by omega)]; exact hC.2 k hk x hx
theorem cl_th {f i : Nat} {v : Int32} (hC : Cls h p P) (hf : f < 9) : Cls (sI h (5, p, i) (f + 1) v) p (uF P (f + 6) i v) := by
  refine ⟨⟨fun k hk => ?_, fun k hk => ?_, fun g hg k hk => ?_, fun k hk => ?_, fun g hg k hk => ?_, fun k hk => ?_, ?_, ?_, ?_, ?_, ?_⟩, fun k hk x hx => ?_⟩
  · rw [sI_I, if_neg (by simp)]; exact k_nu hC hk
  · rw [sI_I, if_neg (by simp), bhs_uF (by omega)]; exact k_bh hC hk
  · rw [sI_I, if_neg (by simp), uF_o (by omega)]; exact hC.1.2.2.1 g hg k hk
  · rw [sI_I, if_neg (by omega)]; exact t_nu hC hk
  · rw [sI_I, uF_e]
    by_cases y : g = f ∧ k = i
    · rw [if_pos ⟨by rw [y.2], by omega⟩, if_pos ⟨by omega, y.2⟩]
    · rw [if_neg fun z => y ⟨by have := z.2; omega, by have := z.1; simp at this; exact this⟩, if_neg fun z => y ⟨by have := z.1; omega, z.2⟩]
      exact hC.1.2.2.2.2.1 g hg k hk
  · rw [sI_I, if_neg (by simp), uF_o (by omega)]; exact l_ln hC hk
  · rw [sI_I, if_neg (by simp)]; show gI h (2, p, 0) 3 = iN (pn P); exact p_pc hC
  · rw [sI_I, if_neg (by simp)]; show gI h (2, p, 0) 4 = iN (tn P); exact p_tc hC
  · rw [sI_I, if_neg (by simp)]; show gI h (2, p, 0) 5 = iN (wn P); exact p_wc hC
  · rw [sI_I, if_neg (by simp), uF_o (by omega)]; exact p_td hC
  · rw [sI_I, if_neg (by simp), uF_o (by omega)]; exact p_lo hC
  · rw [sI_L, uF_o (by omega)]; exact hC.2 k hk x hx
/-- the plan with its persons, theses, places counted anew -/
def uN (P : PL) (n t w : Nat) : PL := (P.1, n, t, w)
/-- a change of the plan's own fields: 3 persons, 4 theses, 5 places (no more than were), 6 today, 7 lost -/
theorem cl_pl {v : Int32} {n t w : Nat} {q : Nat → Nat → Int32} (hC : Cls h p P) (hq : ∀ f k, f ≠ 16 → q f k = P.1 f k) (hw : ∀ k, k < w → gI h (8, p, 0) k = P.1 15 k) (m : Nat)
    (e3 : (if m = 3 then v else iN (pn P)) = iN n) (e4 : (if m = 4 then v else iN (tn P)) = iN t) (e5 : (if m = 5 then v else iN (wn P)) = iN w) (e6 : (if m = 6 then v else P.1 16 0) = q 16 0) (e7 : (if m = 7 then v else P.1 16 1) = q 16 1) : Cls (sI h (2, p, 0) m v) p (q, n, t, w) := by
  refine ⟨⟨fun k hk => ?_, fun k hk => ?_, fun g hg k hk => ?_, fun k hk => ?_, fun g hg k hk => ?_, fun k hk => ?_, ?_, ?_, ?_, ?_, ?_⟩, fun k hk x hx => ?_⟩
  · rw [sI_I, if_neg (by simp)]; exact k_nu hC hk
  · rw [sI_I, if_neg (by simp)]
    have : bhs (q, n, t, w) k 401 = bhs P k 401 := by
      unfold bhs
      simp only [hq 5 _ (by decide)]
    rw [this]; exact k_bh hC hk
  · rw [sI_I, if_neg (by simp)]; exact (hC.1.2.2.1 g hg k hk).trans (hq _ _ (by omega)).symm
  · rw [sI_I, if_neg (by simp)]; exact t_nu hC hk
  · rw [sI_I, if_neg (by simp)]; exact (hC.1.2.2.2.2.1 g hg k hk).trans (hq _ _ (by omega)).symm
  · rw [sI_I, if_neg (by simp)]; exact (hw k hk).trans (hq _ _ (by omega)).symm
  · refine Eq.trans ?_ e3; rw [sI_I, p_pc hC]; simp only [true_and, eq_comm]
  · refine Eq.trans ?_ e4; rw [sI_I, p_tc hC]; simp only [true_and, eq_comm]
  · refine Eq.trans ?_ e5; rw [sI_I, p_wc hC]; simp only [true_and, eq_comm]
  · refine Eq.trans ?_ e6; rw [sI_I, p_td hC]; simp only [true_and, eq_comm]
  · refine Eq.trans ?_ e7; rw [sI_I, p_lo hC]; simp only [true_and, eq_comm]
  · rw [sI_L]; exact (hC.2 k hk x hx).trans (hq _ _ (by omega)).symm
theorem cl_ln {i : Nat} {v : Int32} (hC : Cls h p P) : Cls (sI h (8, p, 0) i v) p (uF P 15 i v) := by
  refine ⟨⟨fun k hk => ?_, fun k hk => ?_, fun g hg k hk => ?_, fun k hk => ?_, fun g hg k hk => ?_, fun k hk => ?_, ?_, ?_, ?_, ?_, ?_⟩, fun k hk x hx => ?_⟩
  · rw [sI_I, if_neg (by simp)]; exact k_nu hC hk
  · rw [sI_I, if_neg (by simp), bhs_uF (by omega)]; exact k_bh hC hk
  · rw [sI_I, if_neg (by simp), uF_o (by omega)]; exact hC.1.2.2.1 g hg k hk
  · rw [sI_I, if_neg (by simp)]; exact t_nu hC hk
  · rw [sI_I, if_neg (by simp), uF_o (by omega)]; exact hC.1.2.2.2.2.1 g hg k hk
  · rw [sI_I, uF_e]
    by_cases y : k = i
    · rw [if_pos ⟨rfl, y⟩, if_pos ⟨rfl, y⟩]
    · rw [if_neg fun z => y z.2, if_neg fun z => y z.2]; exact l_ln hC hk
  · rw [sI_I, if_neg (by simp)]; show gI h (2, p, 0) 3 = iN (pn P); exact p_pc hC
  · rw [sI_I, if_neg (by simp)]; show gI h (2, p, 0) 4 = iN (tn P); exact p_tc hC
  · rw [sI_I, if_neg (by simp)]; show gI h (2, p, 0) 5 = iN (wn P); exact p_wc hC
  · rw [sI_I, if_neg (by simp), uF_o (by omega)]; exact p_td hC
  · rw [sI_I, if_neg (by simp), uF_o (by omega)]; exact p_lo hC
  · rw [sI_L, uF_o (by omega)]; exact hC.2 k hk x hx
theorem Arr_up {A : Nat → Nat → Int32} {c : Nat → Int32} {f j : Nat} {v : Int32} (hA : Arr A c P) (h5 : 5 ≠ f) (h16 : 16 ≠ f) : Arr (fun f' i => if f' = f ∧ i = j then v else A f' i) c (uF P f j v) := by
  refine ⟨fun g hg i hi => ?_, fun i hi d hd => ?_, fun g h1 h2 k hk => ?_, fun k hk => ?_, hA.2.2.2.2.1, ?_, hA.2.2.2.2.2.2.1, hA.2.2.2.2.2.2.2.1, ?_⟩
  · show (if g = f ∧ i = j then v else A g i) = if g = f ∧ i = j then v else P.1 g i
    rw [hA.1 g hg i hi]
  · show by4 (if 5 = f ∧ _ then v else A 5 _) _ = _
    rw [if_neg fun y => h5 y.1, uF_o h5]
    exact hA.2.1 i hi d hd
  · show (if g = f ∧ k = j then v else A g k) = if g = f ∧ k = j then v else P.1 g k
    rw [hA.2.2.1 g h1 h2 k hk]
  · show (if 15 = f ∧ k = j then v else A 15 k) = if 15 = f ∧ k = j then v else P.1 15 k
    rw [hA.2.2.2.1 k hk]
  · rw [uF_o h16]; exact hA.2.2.2.2.2.1
  · rw [uF_o h16]; exact hA.2.2.2.2.2.2.2.2
theorem mo_ar {f j : Nat} {v : Int32} (hM : Mod h P) (h5 : 5 ≠ f) (h16 : 16 ≠ f) : Mod (sI h (21, f, 0) j v) (uF P f j v) := by
  have := Arr_up (f := f) (j := j) (v := v) hM h5 h16
  unfold Mod
  have e : (fun f' i => gI (sI h (21, f, 0) j v) (21, f', 0) i) = fun f' i => if f' = f ∧ i = j then v else gI h (21, f', 0) i := by
    funext f' i
    rw [sI_I]
    by_cases y : f' = f ∧ i = j
    · rw [if_pos y, if_pos ⟨by rw [y.1], y.2⟩]
    · rw [if_neg y, if_neg fun z => y ⟨by have := z.1; simp at this; exact this, z.2⟩]
  rw [e]
  have e2 : (fun k => gI (sI h (21, f, 0) j v) (20, 0, 0) (scF k)) = fun k => gI h (20, 0, 0) (scF k) := by
    funext k
    rw [sI_I, if_neg (by simp)]
  rw [e2]
  exact this
theorem mo_x {m : Nat} {v : Int32} (hM : Mod h P) (hm : m ≠ 7 ∧ m ≠ 8 ∧ m ≠ 19 ∧ m ≠ 20 ∧ m ≠ 21) : Mod (sI h (20, 0, 0) m v) P := by
  have e : ∀ k, k ≠ m → gI (sI h (20, 0, 0) m v) (20, 0, 0) k = gI h (20, 0, 0) k := fun k hk => by
    rw [sI_I, if_neg fun z => hk z.2]
  have e2 : (fun f' i => gI (sI h (20, 0, 0) m v) (21, f', 0) i) = fun f' i => gI h (21, f', 0) i := by
    funext f' i
    rw [sI_I, if_neg (by simp)]
  unfold Mod
  rw [e2]
  refine ⟨hM.1, hM.2.1, hM.2.2.1, hM.2.2.2.1, ?_, ?_, ?_, ?_, ?_⟩
  · exact (e 7 (by omega)).trans (m_pc hM)
  · exact (e 8 (by omega)).trans (m_td hM)
  · exact (e 19 (by omega)).trans (m_tc hM)
  · exact (e 20 (by omega)).trans (m_wc hM)
  · exact (e 21 (by omega)).trans (m_lo hM)
end Upd
