/-! CHANGED PLANS ARE WELL-FORMED: new persons, new theses, new plans -/
def uEn (P : PL) (r f c l : Int32) : PL := ((uPs P (pn P) r f c l).1, pn P + 1, tn P, wn P)
def uRg (P : PL) (k f c s : Int32) : PL := ((uTs P (tn P) k f c s).1, pn P, tn P + 1, wn P)
section Wfv
variable {P Q : PL}
theorem uPs_o {i g k : Nat} {r f c l : Int32} (e : 4 ≤ g) : (uPs P i r f c l).1 g k = P.1 g k := by
  unfold uPs
  rw [uF_o (by omega), uF_o (by omega), uF_o (by omega), uF_o (by omega)]
theorem uPs_n {i g k : Nat} {r f c l : Int32} (e : k ≠ i) : (uPs P i r f c l).1 g k = P.1 g k := by
  unfold uPs
  rw [uF_e, if_neg (fun z => e z.2), uF_e, if_neg (fun z => e z.2), uF_e, if_neg (fun z => e z.2), uF_e, if_neg (fun z => e z.2)]
theorem uTs_o {i g k : Nat} {r f c l : Int32} (e : g < 6 ∨ 10 ≤ g) : (uTs P i r f c l).1 g k = P.1 g k := by
  unfold uTs
  rw [uF_o (by omega), uF_o (by omega), uF_o (by omega), uF_o (by omega)]
theorem uTs_n {i g k : Nat} {r f c l : Int32} (e : k ≠ i) : (uTs P i r f c l).1 g k = P.1 g k := by
  unfold uTs
  rw [uF_e, if_neg (fun z => e z.2), uF_e, if_neg (fun z => e z.2), uF_e, if_neg (fun z => e z.2), uF_e, if_neg (fun z => e z.2)]
theorem uTs_6 {i : Nat} {r f c l : Int32} : (uTs P i r f c l).1 6 i = r := by unfold uTs; rw [uF_o (by decide), uF_o (by decide), uF_o (by decide), uF_s]
theorem uTs_9 {i : Nat} {r f c l : Int32} : (uTs P i r f c l).1 9 i = l := by unfold uTs; rw [uF_s]
theorem WF_en (hW : WF P) (hn : pn P < 14) {r f c l : Int32} : WF (uEn P r f c l) := by
  have o : ∀ g k, 4 ≤ g → (uEn P r f c l).1 g k = P.1 g k := fun g k hg => uPs_o hg
  refine ⟨⟨hn, hW.1.2.1, hW.1.2.2.1, by rw [o 16 0 (by decide)]; exact w_td hW⟩, ⟨fun g hg k h1 h2 => ?_, fun k hk => ?_, fun k hk m hm => ?_, fun k hk y hy => ?_⟩, ⟨fun k hk => ?_, fun k hk => ?_, fun k hk => ?_, fun k hk => ?_, fun k hk => ?_⟩, fun k h1 h2 => ?_, fun k hk => ?_⟩
  · have h1 : pn P + 1 ≤ k := h1
    have : (uEn P r f c l).1 g k = P.1 g k := uPs_n (by omega)
    rw [this]; exact w_p0 hW hg (by omega) h2
  · rw [o 4 k (by decide)]; exact sub_le (Nat.le_succ _) (w_cf hW hk)
  · have hk : k < pn P + 1 := hk
    have hm : m < pn P + 1 := hm
    rw [o 4 k (by decide), o 4 m (by decide)]
    have z : ∀ a b, a < pn P + 1 → b < pn P + 1 → b = pn P → ¬ bt (P.1 4 a) b = true := fun a b ha hb e => by
      subst e; exact w_cf hW (by omega) _ (Nat.le_refl _) (by omega)
    have z0 : ∀ b, bt (P.1 4 (pn P)) b = false := fun b => by
      rw [w_p0 hW (by decide) (Nat.le_refl _) hn]; exact bt_00
    by_cases y : k = pn P
    · rw [y, z0]
      exact ⟨fun q => (by cases q), fun q => absurd q (z m (pn P) hm (by omega) rfl)⟩
    · by_cases w : m = pn P
      · rw [w, z0]
        exact ⟨fun q => absurd q (z k (pn P) hk (by omega) rfl), fun q => (by cases q)⟩
      · exact w_sy hW (by omega) (by omega)
  · rw [o 5 _ (by decide)]
    refine ⟨w_by hW hk hy, fun q => ?_⟩
    have q : pn P + 1 ≤ k := q
    exact w_b0 hW hk hy (by omega)
  · rw [o 6 _ (by decide)]; exact w_kd hW hk
  · rw [o 9 _ (by decide)]
    obtain ⟨s, hs, e⟩ := w_sv hW hk
    exact ⟨s, Nat.lt_succ_of_lt hs, e⟩
  · rw [o 10 _ (by decide)]; exact w_st hW hk
  · rw [o 11 _ (by decide)]; exact sub_le (Nat.le_succ _) (w_mb hW hk)
  · exact placeOk_q (w_pl hW hk) (fun m => o 12 m (by decide)) (fun m => o 13 m (by decide)) (fun m => o 14 m (by decide))
  · have := w_t0 hW h1 h2
    rw [o 6 _ (by decide), o 7 _ (by decide), o 8 _ (by decide), o 9 _ (by decide), o 10 _ (by decide), o 11 _ (by decide), o 12 _ (by decide), o 13 _ (by decide), o 14 _ (by decide)]
    exact this
  · rw [o 11 _ (by decide), most_q (P := P) (fun m => o 6 m (by decide))]; exact w_mo hW hk
theorem most_0 (hW : WF P) {j : Nat} (hj : j < 8) : iN (pcn 0) ≤ most P j := by
  obtain ⟨b, hb, e⟩ := mo_N hW hj
  rw [e, pcn_z, iN_le (by decide) (by omega)]
  exact Nat.zero_le _
theorem WF_rg (hW : WF P) (hn : tn P < 8) {k s : Nat} {f c : Int32} (hk : k < 3) (hs : s < pn P) : WF (uRg P (iN k) f c (iN s)) := by
  have o : ∀ g m, g < 6 ∨ 10 ≤ g → (uRg P (iN k) f c (iN s)).1 g m = P.1 g m := fun g m hg => uTs_o hg
  have n : ∀ g m, m ≠ tn P → (uRg P (iN k) f c (iN s)).1 g m = P.1 g m := fun g m hm => uTs_n hm
  have t0 := w_t0 hW (Nat.le_refl _) hn
  have hkd : ∀ m, m < 8 → ∃ k', k' < 3 ∧ (uRg P (iN k) f c (iN s)).1 6 m = iN k' := fun m hm => by
    by_cases y : m = tn P
    · subst y; exact ⟨k, hk, uTs_6 (f := f) (c := c) (l := iN s)⟩
    · rw [n 6 m y]; exact w_kd hW hm
  refine ⟨⟨hW.1.1, hn, hW.1.2.2.1, by rw [o 16 0 (by decide)]; exact w_td hW⟩, ⟨fun g hg m h1 h2 => ?_, fun m hm => ?_, fun m hm l hl => ?_, fun m hm y hy => ?_⟩, ⟨hkd, fun m hm => ?_, fun m hm => ?_, fun m hm => ?_, fun m hm => ?_⟩, fun m h1 h2 => ?_, fun m hm => ?_⟩
  · rw [o g m (by omega)]; exact w_p0 hW hg h1 h2
  · rw [o 4 m (by decide)]; exact w_cf hW hm
  · rw [o 4 m (by decide), o 4 l (by decide)]; exact w_sy hW hm hl
  · rw [o 5 _ (by decide)]; exact ⟨w_by hW hm hy, fun q => w_b0 hW hm hy q⟩
  · have hm : m < tn P + 1 := hm
    by_cases y : m = tn P
    · subst y; exact ⟨s, hs, uTs_9 (r := iN k) (f := f) (c := c)⟩
    · rw [n 9 m y]; exact w_sv hW (by omega)
  · rw [o 10 m (by decide)]; exact w_st hW hm
  · rw [o 11 m (by decide)]; exact w_mb hW hm
  · exact placeOk_q (w_pl hW hm) (fun m => o 12 m (by decide)) (fun m => o 13 m (by decide)) (fun m => o 14 m (by decide))
  · have h1 : tn P + 1 ≤ m := h1
    have := w_t0 hW (show tn P ≤ m by omega) h2
    rw [n 6 m (by omega), n 7 m (by omega), n 8 m (by omega), n 9 m (by omega), n 10 m (by omega), n 11 m (by omega), n 12 m (by omega), n 13 m (by omega), n 14 m (by omega)]
    exact this
  · have hm : m < tn P + 1 := hm
    by_cases y : m = tn P
    · subst y
      rw [o 11 _ (by decide), t0.2.2.2.2.2.1]
      unfold most nq
      rw [show (uRg P (iN k) f c (iN s)).1 6 (tn P) = iN k from uTs_6 (f := f) (c := c) (l := iN s), n_i (by omega), pcn_z]
      have : ∀ k, k < 3 → iN 0 ≤ (sVal 0).getD (k * 5 + 0) 0 + 2 := by decide
      exact this k hk
    · have e : most (uRg P (iN k) f c (iN s)) m = most P m := by
        unfold most nq
        rw [n 6 m y]
      rw [o 11 _ (by decide), e]; exact w_mo hW (by omega)
theorem WF_nP : WF nP := by
  have o : ∀ g m, ¬ (g = 9 ∨ g = 12 ∨ g = 13 ∨ g = 14) → nP.1 g m = 0 := fun g m hg => if_neg hg
  refine ⟨⟨by decide, by decide, by decide, 0, by decide, rfl⟩, ⟨fun g hg m h1 h2 => o g m (by omega), fun m hm => sub_0, fun m hm => absurd hm (Nat.not_lt_zero m), fun m hm y hy => ⟨sub_0, fun _ => rfl⟩⟩, ⟨fun m hm => ⟨0, by decide, rfl⟩, fun m hm => absurd hm (Nat.not_lt_zero m), fun m hm => ⟨0, by decide, rfl⟩, fun m hm => sub_0, fun m hm => Or.inl ⟨rfl, rfl, rfl⟩⟩, fun m h1 h2 => ⟨rfl, rfl, rfl, rfl, rfl, rfl, rfl, rfl, rfl⟩, fun m hm => absurd hm (Nat.not_lt_zero m)⟩
theorem WFx_nP : WFx nP := ⟨WF_nP, ⟨fun k hk => absurd hk (Nat.not_lt_zero k), fun k l _ hl => absurd hl (Nat.not_lt_zero l)⟩, fun j hj => absurd hj (Nat.not_lt_zero j)⟩
end Wfv
