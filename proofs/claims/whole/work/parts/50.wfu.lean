/-! CHANGED PLANS ARE WELL-FORMED -/
def Ag (P Q : PL) (g : Nat) : Prop := ∀ k, Q.1 g k = P.1 g k
section Wfu
variable {P Q : PL}
theorem ag_uF {f j g : Nat} {v : Int32} (e : g ≠ f) : Ag P (uF P f j v) g := fun _ => uF_o e
theorem ag_pl {j g : Nat} {r x u : Int32} (e : g ≠ 12 ∧ g ≠ 13 ∧ g ≠ 14) : Ag P (uPl P j r x u) g := fun k => by
  unfold uPl
  rw [uF_o e.2.2, uF_o e.2.1, uF_o e.1]
theorem wfA_q (h : wfA P) (h2 : Q.2 = P.2) (a : Q.1 16 0 = P.1 16 0) : wfA Q := by
  unfold wfA pn tn wn
  rw [h2, a]
  exact h
theorem wfB_q (h : wfB P) (h2 : Q.2 = P.2) (a : ∀ g, g < 6 → Ag P Q g) : wfB Q := by
  unfold wfB pn
  rw [h2]
  refine ⟨fun f hf i h1 h3 => ?_, fun i hi => ?_, fun i hi k hk => ?_, fun i hi d hd => ?_⟩
  · rw [a f (by omega)]; exact h.1 f hf i h1 h3
  · rw [a 4 (by decide)]; exact h.2.1 i hi
  · rw [a 4 (by decide), a 4 (by decide)]; exact h.2.2.1 i hi k hk
  · rw [a 5 (by decide)]; exact h.2.2.2 i hi d hd
theorem wfD_q (h : wfD P) (h2 : Q.2 = P.2) (a : ∀ g j, 6 ≤ g → g < 15 → tn P ≤ j → Q.1 g j = P.1 g j) : wfD Q := by
  intro j h1 h3
  have h1 : tn P ≤ j := by have : tn Q = tn P := by unfold tn; rw [h2]
                           omega
  obtain ⟨a1, a2, a3, a4, a5, a6, a7, a8, a9⟩ := h j h1 h3
  exact ⟨(a 6 j (by decide) (by decide) h1).trans a1, (a 7 j (by decide) (by decide) h1).trans a2, (a 8 j (by decide) (by decide) h1).trans a3, (a 9 j (by decide) (by decide) h1).trans a4, (a 10 j (by decide) (by decide) h1).trans a5, (a 11 j (by decide) (by decide) h1).trans a6, (a 12 j (by decide) (by decide) h1).trans a7, (a 13 j (by decide) (by decide) h1).trans a8, (a 14 j (by decide) (by decide) h1).trans a9⟩
theorem placeOk_q {j : Nat} (h : placeOk P j) (a : Ag P Q 12) (b : Ag P Q 13) (c : Ag P Q 14) : placeOk Q j := by
  unfold placeOk
  rw [a, b, c]
  exact h
theorem nq_q {j w : Nat} (a : Ag P Q 6) : nq Q j w = nq P j w := by unfold nq; rw [a]
theorem db_q {j w : Nat} (a : Ag P Q 6) : db Q j w = db P j w := by unfold db; rw [a]
theorem most_q {j : Nat} (a : Ag P Q 6) : most Q j = most P j := by unfold most; rw [nq_q a]
theorem pld_q {j : Nat} (a : Ag P Q 12) : pld Q j = pld P j := by unfold pld; rw [a]
theorem dfd_q {j : Nat} (a : Ag P Q 10) : dfd Q j = dfd P j := by unfold dfd; rw [a]
theorem ndl_q {j : Nat} (a : Ag P Q 6) (b : Ag P Q 10) (c : Ag P Q 13) : ndl Q j = ndl P j := by unfold ndl; rw [b, c, db_q a]
theorem wfC_q (h : wfC P) (h2 : Q.2 = P.2) (a6 : Ag P Q 6) (a9 : Ag P Q 9) (h10 : ∀ j, j < 8 → ∃ s, s ≤ 4 ∧ Q.1 10 j = iN s) (h11 : ∀ j, j < 8 → sub (pn P) (Q.1 11 j)) (hp : ∀ j, j < 8 → placeOk Q j) : wfC Q := by
  unfold wfC pn tn
  rw [h2]
  refine ⟨fun j hj => ?_, fun j hj => ?_, h10, h11, hp⟩
  · rw [a6]; exact h.1 j hj
  · rw [a9]; exact h.2.1 j hj
theorem wfG_q (h : wfG P) (h2 : Q.2 = P.2) (a6 : Ag P Q 6) (a11 : Ag P Q 11) : wfG Q := by
  unfold wfG tn
  rw [h2]
  intro j hj
  rw [a11, most_q a6]
  exact h j hj
theorem wfE_q (h : wfE P) (h2 : Q.2 = P.2) (a : Ag P Q 15) : wfE Q := by
  unfold wfE tn wn
  rw [h2]
  refine ⟨fun k hk => ?_, fun k l hkl hl => ?_⟩
  · rw [a]; exact h.1 k hk
  · rw [a, a]; exact h.2 k l hkl hl
theorem wfN_q (h : wfN P) (h2 : Q.2 = P.2) (a0 : Q.1 16 0 = P.1 16 0) (a6 : Ag P Q 6) (a10 : Ag P Q 10) (a12 : Ag P Q 12) (a13 : Ag P Q 13) : wfN Q := by
  unfold wfN tn
  rw [h2]
  intro j hj
  rw [pld_q a12, dfd_q a10, ndl_q a6 a10 a13, a0]
  exact h j hj
/-- a committee -/
theorem WF_mb (hW : WF P) {j : Nat} {s : Int32} (hj : j < tn P) (hs : sub (pn P) s) (hm : iN (pcn s) ≤ most P j) : WF (uF P 11 j s) := by
  refine ⟨wfA_q hW.1 rfl (uF_o (by decide)), wfB_q hW.2.1 rfl fun g hg => ag_uF (by omega), wfC_q hW.2.2.1 rfl (ag_uF (by decide)) (ag_uF (by decide)) (fun k hk => ?_) (fun k hk => ?_) (fun k hk => placeOk_q (w_pl hW hk) (ag_uF (by decide)) (ag_uF (by decide)) (ag_uF (by decide))), wfD_q hW.2.2.2.1 rfl fun g k _ _ hk => ?_, fun k hk => ?_⟩
  · rw [uF_o (by decide)]; exact w_st hW hk
  · by_cases y : k = j
    · subst y; rw [uF_s]; exact hs
    · rw [uF_n y]; exact w_mb hW hk
  · by_cases y : g = 11
    · subst y; exact uF_n (by omega)
    · exact uF_o y
  · rw [most_q (ag_uF (by decide))]
    by_cases y : k = j
    · subst y; rw [uF_s]; exact hm
    · rw [uF_n y]; exact w_mo hW hk
/-- a place -/
theorem uPl_12 {j : Nat} {r x u : Int32} : (uPl P j r x u).1 12 j = r := by unfold uPl; rw [uF_o (by decide), uF_o (by decide), uF_s]
theorem uPl_13 {j : Nat} {r x u : Int32} : (uPl P j r x u).1 13 j = x := by unfold uPl; rw [uF_o (by decide), uF_s]
theorem uPl_14 {j : Nat} {r x u : Int32} : (uPl P j r x u).1 14 j = u := by unfold uPl; rw [uF_s]
theorem uPl_n {j k g : Nat} {r x u : Int32} (hk : k ≠ j) : (uPl P j r x u).1 g k = P.1 g k := by
  unfold uPl
  rw [uF_e, if_neg (fun z => hk z.2), uF_e, if_neg (fun z => hk z.2), uF_e, if_neg (fun z => hk z.2)]
theorem WF_pl (hW : WF P) {j : Nat} {r x u : Int32} (hj : j < tn P) (hp : (r = -1 ∧ x = -1 ∧ u = -1) ∨ ∃ a b c, a < 3 ∧ b < 401 ∧ c < 7 ∧ r = iN a ∧ x = iN b ∧ u = iN c) : WF (uPl P j r x u) := by
  refine ⟨wfA_q hW.1 rfl (ag_pl (by decide) 0), wfB_q hW.2.1 rfl fun g hg => ag_pl (by omega), wfC_q hW.2.2.1 rfl (ag_pl (by decide)) (ag_pl (by decide)) (fun k hk => ?_) (fun k hk => ?_) (fun k hk => ?_), wfD_q hW.2.2.2.1 rfl fun g k _ _ hk => ?_, wfG_q hW.2.2.2.2 rfl (ag_pl (by decide)) (ag_pl (by decide))⟩
  · rw [ag_pl (by decide)]; exact w_st hW hk
  · rw [ag_pl (by decide)]; exact w_mb hW hk
  · by_cases y : k = j
    · subst y
      unfold placeOk
      rw [uPl_12, uPl_13, uPl_14]
      exact hp
    · unfold placeOk
      rw [uPl_n y, uPl_n y, uPl_n y]
      exact w_pl hW hk
  · exact uPl_n (by omega)
/-- a stage -/
theorem WF_st (hW : WF P) {j s : Nat} (hj : j < tn P) (hs : s ≤ 4) : WF (uF P 10 j (iN s)) := by
  refine ⟨wfA_q hW.1 rfl (uF_o (by decide)), wfB_q hW.2.1 rfl fun g hg => ag_uF (by omega), wfC_q hW.2.2.1 rfl (ag_uF (by decide)) (ag_uF (by decide)) (fun k hk => ?_) (fun k hk => ?_) (fun k hk => placeOk_q (w_pl hW hk) (ag_uF (by decide)) (ag_uF (by decide)) (ag_uF (by decide))), wfD_q hW.2.2.2.1 rfl fun g k _ _ hk => ?_, wfG_q hW.2.2.2.2 rfl (ag_uF (by decide)) (ag_uF (by decide))⟩
  · by_cases y : k = j
    · subst y; rw [uF_s]; exact ⟨s, hs, rfl⟩
    · rw [uF_n y]; exact w_st hW hk
  · rw [uF_o (by decide)]; exact w_mb hW hk
  · by_cases y : g = 10
    · subst y; exact uF_n (by omega)
    · exact uF_o y
/-- fields of the plan, the line, the busy bytes -/
theorem WF_16 (hW : WF P) {m : Nat} {v : Int32} (hv : m = 0 → ∃ t, t ≤ 400 ∧ v = iN t) : WF (uF P 16 m v) := by
  refine ⟨⟨hW.1.1, hW.1.2.1, hW.1.2.2.1, ?_⟩, wfB_q hW.2.1 rfl fun g hg => ag_uF (by omega), wfC_q hW.2.2.1 rfl (ag_uF (by decide)) (ag_uF (by decide)) (fun k hk => ?_) (fun k hk => ?_) (fun k hk => placeOk_q (w_pl hW hk) (ag_uF (by decide)) (ag_uF (by decide)) (ag_uF (by decide))), wfD_q hW.2.2.2.1 rfl fun g k _ _ hk => uF_o (by omega), wfG_q hW.2.2.2.2 rfl (ag_uF (by decide)) (ag_uF (by decide))⟩
  · by_cases y : m = 0
    · subst y; rw [uF_s]; exact hv rfl
    · rw [uF_n (fun z => y z.symm)]; exact w_td hW
  · rw [uF_o (by decide)]; exact w_st hW hk
  · rw [uF_o (by decide)]; exact w_mb hW hk
theorem WF_15 (hW : WF P) {m : Nat} {v : Int32} : WF (uF P 15 m v) := by
  refine ⟨wfA_q hW.1 rfl (uF_o (by decide)), wfB_q hW.2.1 rfl fun g hg => ag_uF (by omega), wfC_q hW.2.2.1 rfl (ag_uF (by decide)) (ag_uF (by decide)) (fun k hk => ?_) (fun k hk => ?_) (fun k hk => placeOk_q (w_pl hW hk) (ag_uF (by decide)) (ag_uF (by decide)) (ag_uF (by decide))), wfD_q hW.2.2.2.1 rfl fun g k _ _ hk => uF_o (by omega), wfG_q hW.2.2.2.2 rfl (ag_uF (by decide)) (ag_uF (by decide))⟩
  · rw [uF_o (by decide)]; exact w_st hW hk
  · rw [uF_o (by decide)]; exact w_mb hW hk
theorem WF_wn (hW : WF P) {w : Nat} (hw : w ≤ 8) : WF (P.1, pn P, tn P, w) := ⟨⟨hW.1.1, hW.1.2.1, hw, hW.1.2.2.2⟩, hW.2.1, hW.2.2.1, hW.2.2.2.1, hW.2.2.2.2⟩
theorem WF_by (hW : WF P) {i x : Nat} {v : Int32} (hi : i < pn P) (hx : x < 401) (hv : sub 8 v) : WF (uF P 5 (401 * i + x) v) := by
  refine ⟨wfA_q hW.1 rfl (uF_o (by decide)), ⟨fun f hf k h1 h2 => ?_, fun k hk => ?_, fun k hk l hl => ?_, fun k hk y hy => ?_⟩, wfC_q hW.2.2.1 rfl (ag_uF (by decide)) (ag_uF (by decide)) (fun k hk => ?_) (fun k hk => ?_) (fun k hk => placeOk_q (w_pl hW hk) (ag_uF (by decide)) (ag_uF (by decide)) (ag_uF (by decide))), wfD_q hW.2.2.2.1 rfl fun g k _ _ hk => uF_o (by omega), wfG_q hW.2.2.2.2 rfl (ag_uF (by decide)) (ag_uF (by decide))⟩
  · rw [uF_o (by omega)]; exact w_p0 hW hf h1 h2
  · rw [uF_o (by decide)]; exact w_cf hW hk
  · rw [uF_o (by decide), uF_o (by decide)]; exact w_sy hW hk hl
  · by_cases z : k = i ∧ y = x
    · obtain ⟨rfl, rfl⟩ := z
      rw [uF_s]
      exact ⟨hv, fun q => absurd hi (Nat.not_lt.mpr q)⟩
    · rw [uF_n fun q => z ⟨by omega, by omega⟩]
      exact ⟨w_by hW hk hy, fun q => w_b0 hW hk hy q⟩
  · rw [uF_o (by decide)]; exact w_st hW hk
  · rw [uF_o (by decide)]; exact w_mb hW hk
/-- a conflict of two persons -/
def uCf (P : PL) (i k : Nat) (on : Bool) : PL := uF (uF P 4 i (wbt (P.1 4 i) k on)) 4 k (wbt (P.1 4 k) i on)
theorem bt_wbt {b : Int32} {u i : Nat} {on : Bool} (hu : u < 32) (hi : i < 32) : bt (wbt b u on) i = if i = u then on else bt b i := by
  unfold wbt
  cases on
  · rw [if_neg (by simp), Bool.eq_iff_iff, bt_and hi, bt_not hi, bt_b1 u hu i hi]
    by_cases y : i = u
    · subst y; simp
    · simp [y]; exact fun _ z => y z.symm
  · rw [if_pos rfl, Bool.eq_iff_iff, bt_or hi, bt_b1 u hu i hi]
    by_cases y : i = u
    · subst y; simp
    · simp [y]; exact fun z => absurd z.symm y
theorem uCf_4 {i k m : Nat} {on : Bool} (hik : i ≠ k) : (uCf P i k on).1 4 m = if m = i then wbt (P.1 4 i) k on else if m = k then wbt (P.1 4 k) i on else P.1 4 m := by
  unfold uCf
  rw [uF_e, uF_e]
  by_cases y : m = k
  · subst y
    rw [if_pos ⟨rfl, rfl⟩, if_neg (fun z => hik z.symm), if_pos rfl]
  · rw [if_neg fun z => y z.2]
    by_cases w : m = i
    · subst w; rw [if_pos ⟨rfl, rfl⟩, if_pos rfl]
    · rw [if_neg fun z => w z.2, if_neg w, if_neg y]
theorem WF_cf (hW : WF P) {i k : Nat} {on : Bool} (hi : i < pn P) (hk : k < pn P) (hik : i ≠ k) : WF (uCf P i k on) := by
  have h14 := w_pn hW
  have o : ∀ g m, g ≠ 4 → (uCf P i k on).1 g m = P.1 g m := fun g m hg => by unfold uCf; rw [uF_o hg, uF_o hg]
  refine ⟨wfA_q hW.1 rfl (o 16 0 (by decide)), ⟨fun f hf m h1 h2 => ?_, fun m hm => ?_, fun m hm l hl => ?_, fun m hm y hy => ?_⟩, wfC_q hW.2.2.1 rfl (fun m => o 6 m (by decide)) (fun m => o 9 m (by decide)) (fun m hm => ?_) (fun m hm => ?_) (fun m hm => placeOk_q (w_pl hW hm) (fun m => o 12 m (by decide)) (fun m => o 13 m (by decide)) (fun m => o 14 m (by decide))), wfD_q hW.2.2.2.1 rfl fun g m _ _ hm => o g m (by omega), wfG_q hW.2.2.2.2 rfl (fun m => o 6 m (by decide)) (fun m => o 11 m (by decide))⟩
  · have h1 : pn P ≤ m := h1
    by_cases y : f = 4
    · subst y
      rw [uCf_4 hik, if_neg (by omega), if_neg (by omega)]
      exact w_p0 hW hf h1 h2
    · rw [o f m y]; exact w_p0 hW hf h1 h2
  · rw [uCf_4 hik]
    show sub (pn P) _
    by_cases y : m = i
    · rw [if_pos y]; exact sub_wbt hk (by omega) (w_cf hW (by omega))
    · rw [if_neg y]
      by_cases z : m = k
      · rw [if_pos z]; exact sub_wbt hi (by omega) (w_cf hW (by omega))
      · rw [if_neg z]; exact w_cf hW hm
  · have hm : m < pn P := hm
    have hl : l < pn P := hl
    have ws := w_sy hW hm hl
    rw [uCf_4 hik, uCf_4 hik]
    by_cases y : m = i
    · subst y
      rw [if_pos rfl, bt_wbt (by omega) (by omega)]
      by_cases z : l = k
      · subst z
        rw [if_pos rfl, if_neg (fun q => hik q.symm), if_pos rfl, bt_wbt (by omega) (by omega), if_pos rfl]
      · rw [if_neg z]
        by_cases w : l = m
        · subst w
          rw [if_pos rfl, bt_wbt (by omega) (by omega), if_neg hik]
        · rw [if_neg w, if_neg z]; exact ws
    · rw [if_neg y]
      by_cases z : m = k
      · subst z
        rw [if_pos rfl, bt_wbt (by omega) (by omega)]
        by_cases w : l = i
        · subst w
          rw [if_pos rfl, if_pos rfl, bt_wbt (by omega) (by omega), if_pos rfl]
        · rw [if_neg w, if_neg w]
          by_cases q : l = m
          · subst q; rw [if_pos rfl, bt_wbt (by omega) (by omega), if_neg w]
          · rw [if_neg q]; exact ws
      · rw [if_neg z]
        by_cases w : l = i
        · subst w
          rw [if_pos rfl, bt_wbt (by omega) (by omega), if_neg z]; exact ws
        · rw [if_neg w]
          by_cases q : l = k
          · subst q; rw [if_pos rfl, bt_wbt (by omega) (by omega), if_neg y]; exact ws
          · rw [if_neg q]; exact ws
  · rw [o 5 _ (by decide)]; exact ⟨w_by hW hm hy, fun q => w_b0 hW hm hy q⟩
  · rw [o 10 _ (by decide)]; exact w_st hW hm
  · rw [o 11 _ (by decide)]; exact w_mb hW hm
end Wfu
