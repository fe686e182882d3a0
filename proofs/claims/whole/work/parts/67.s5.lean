/-! CALLS THAT CHANGE: await -/



section S5
variable {L : Nat} {xs : Nat → Int32} {h h' h1 : Hp} {P P' : PL} {H H' : HS} {X X' : XS} {d : Nat}
theorem pcn_sub {s : Int32} {n : Nat} (hn : n ≤ 14) (hs : sub n s) : pcn s ≤ n := by
  have e : cn (fun i => bt s i) 14 = cn (fun i => bt s i) n := cn_ext (c := fun i => bt s i) (n := n) (m := 14) hn (fun k h1 h2 => eq_false_of_ne_true (hs k h1 (Nat.lt_trans h2 (by decide))))
  show cn (fun i => bt s i) 14 ≤ n
  rw [e]
  exact cn_le
theorem pln_ex (hX : WFx P) : ∀ w, w ≤ wn P → ∃ s : Int32, sub (tn P) s ∧ pcn s = w ∧ ∀ t, t < 32 → bt s t = true → ∃ k, k < w ∧ P.1 15 k = iN t := by
  have h8 := w_tn hX.1
  intro w
  induction w with
  | zero => intro _; exact ⟨0, sub_0, pcn_z, fun t ht z => absurd z (bt_0 t ht)⟩
  | succ w ih =>
    intro hw
    obtain ⟨s, s1, s2, s3⟩ := ih (Nat.le_of_succ_le hw)
    obtain ⟨t, ht, et⟩ := w_ln hX (k := w) hw
    have ht32 : t < 32 := by omega
    have ht14 : t < 14 := by omega
    have hb : ¬ bt s t = true := fun z => by
      obtain ⟨k, hk, ek⟩ := s3 t ht32 z
      exact w_ld hX (k := k) (l := w) hk hw (ek.trans et.symm)
    have e1 : sub (tn P) (s ||| b1 t) := sub_or s1 (sub_b1 ht (Nat.le_trans h8 (by decide)))
    have e2 : pcn (s ||| b1 t) = w + 1 := by
      have := pcn_add (s := s) (i := t) ht14 hb
      rw [s2] at this
      exact this
    refine ⟨s ||| b1 t, e1, e2, fun q hq z => ?_⟩
    have z' := (bt_or (a := s) (b := b1 t) (i := q) hq).mp z
    rcases z' with z | z
    · obtain ⟨k, hk, ek⟩ := s3 q hq z
      exact ⟨k, Nat.lt_succ_of_lt hk, ek⟩
    · have e := (bt_b1 t ht32 q hq).mp z
      exact ⟨w, Nat.lt_succ_self w, by rw [← e]; exact et⟩
/-- a thesis that does not wait has a place in the line -/
theorem wait_lt (hX : WFx P) {j : Nat} (hj : j < tn P) (hz : pil P j = none) : wn P + 1 ≤ tn P := by
  have h8 := w_tn hX.1
  obtain ⟨s, s1, s2, s3⟩ := pln_ex hX (wn P) (Nat.le_refl _)
  have hb : ¬ bt s j = true := fun z => by
    obtain ⟨k, hk, ek⟩ := s3 j (by omega) z
    have h2 := fnd_none.1 hz k hk
    rw [decf] at h2
    exact h2 ek
  have h3 := pcn_sub (s := s ||| b1 j) (n := tn P) (Nat.le_trans h8 (by decide)) (sub_or s1 (sub_b1 hj (Nat.le_trans h8 (by decide))))
  have h4 := pcn_add (s := s) (i := j) (by omega) hb
  rw [h4, s2] at h3
  exact h3
def uAw (P : PL) (j : Nat) : PL := ((uF P 15 (wn P) (iN j)).1, pn P, tn P, wn P + 1)
theorem WFx_aw (hX : WFx P) {j : Nat} (hj : j < tn P) (hz : pil P j = none) : WFx (uAw P j) := by
  have hw := wait_lt hX hj hz
  have h8 := w_tn hX.1
  have a : ∀ g k, g ≠ 15 → (uAw P j).1 g k = P.1 g k := fun g k hg => uF_o hg
  have hn : ∀ k, k < wn P → P.1 15 k ≠ iN j := fun k hk => by
    have := fnd_none.1 hz k hk
    rwa [decf] at this
  refine ⟨WF_wn (WF_15 hX.1 (m := wn P) (v := iN j)) (by omega), ⟨fun k hk => ?_, fun k l hkl hl => ?_⟩, ?_⟩
  · have hk : k < wn P + 1 := hk
    by_cases y : k = wn P
    · subst y; exact ⟨j, hj, uF_s⟩
    · obtain ⟨t, ht, et⟩ := w_ln hX (show k < wn P by omega)
      exact ⟨t, ht, (uF_n y).trans et⟩
  · have hl : l < wn P + 1 := hl
    show (uF P 15 (wn P) (iN j)).1 15 k ≠ (uF P 15 (wn P) (iN j)).1 15 l
    rw [uF_n (show k ≠ wn P by omega)]
    by_cases y : l = wn P
    · subst y; rw [uF_s]; exact hn k hkl
    · rw [uF_n y]; exact w_ld hX hkl (by omega)
  · intro k hk h1 h2
    have e1 : pld (uAw P j) k = pld P k := pld_q (fun m => a 12 m (by decide))
    have e2 : dfd (uAw P j) k = dfd P k := dfd_q (fun m => a 10 m (by decide))
    have e3 : ndl (uAw P j) k = ndl P k := ndl_q (fun m => a 6 m (by decide)) (fun m => a 10 m (by decide)) (fun m => a 13 m (by decide))
    rw [e1] at h1
    rw [e2] at h2
    rw [e3, a 16 0 (by decide)]
    exact hX.2.2 k hk h1 h2
theorem pil_aw {j : Nat} (hz : pil P j = none) : pil (uAw P j) j = some (wn P) := by
  refine fnd_some.2 ⟨Nat.lt_succ_self _, decide_eq_true uF_s, fun k hk => ?_⟩
  have := fnd_none.1 hz k hk
  rw [show (uAw P j).1 15 k = P.1 15 k from uF_n (by omega)]
  exact this
theorem cl_aw {p j : Nat} (hC : Cls h p P) : Cls (queu h p (wn P) j) p (uAw P j) := by
  refine cl_pl (cl_ln (i := wn P) (v := iN j) hC) (fun f k _ => rfl) (fun k hk => ?_) 5 ?_ ?_ ?_ ?_ ?_
  · rw [sI_I]
    by_cases y : k = wn P
    · subst y
      rw [if_pos ⟨rfl, rfl⟩]; exact uF_s.symm
    · rw [if_neg fun z => y z.2, uF_n y]
      exact l_ln hC (by omega)
  · rw [if_neg (by decide)]; rfl
  · rw [if_neg (by decide)]; rfl
  · rw [if_pos rfl]
  · rw [if_neg (by decide)]
  · rw [if_neg (by decide)]
theorem ch_queu {p w j : Nat} : Chg (inP p) h (queu h p w j) := ch_t (ch_sI inP_8) (ch_sI inP_2)
theorem Mod_aw {j : Nat} (hM : Mod h P) : Mod (sI (sI h (21, 15, 0) (wn P) (iN j)) (20, 0, 0) 20 (iN (wn P + 1))) (uAw P j) := by
  have m1 := mo_ar (f := 15) (j := wn P) (v := iN j) hM (by decide) (by decide)
  have e : ∀ k, k ≠ 20 → gI (sI (sI h (21, 15, 0) (wn P) (iN j)) (20, 0, 0) 20 (iN (wn P + 1))) (20, 0, 0) k = gI (sI h (21, 15, 0) (wn P) (iN j)) (20, 0, 0) k := fun k hk => by rw [sI_I, if_neg fun z => hk z.2]
  have e2 : ∀ f, gI (sI (sI h (21, 15, 0) (wn P) (iN j)) (20, 0, 0) 20 (iN (wn P + 1))) (21, f, 0) = gI (sI h (21, 15, 0) (wn P) (iN j)) (21, f, 0) := fun f => by
    funext k
    rw [sI_I, if_neg (by simp)]
  have n7 := m_pc m1
  have n8 := m_td m1
  have n19 := m_tc m1
  have n21 := m_lo m1
  unfold Mod
  simp only [e2]
  refine ⟨m1.1, m1.2.1, m1.2.2.1, fun k hk => ?_, (e 7 (by decide)).trans n7, (e 8 (by decide)).trans n8, (e 19 (by decide)).trans n19, ?_, (e 21 (by decide)).trans n21⟩
  · have hk : k < wn P + 1 := hk
    show gI (sI h (21, 15, 0) (wn P) (iN j)) (21, 15, 0) k = (uF P 15 (wn P) (iN j)).1 15 k
    rw [sI_I]
    by_cases y : k = wn P
    · subst y; rw [if_pos ⟨rfl, rfl⟩, uF_s]
    · rw [if_neg fun z => y z.2, uF_n y]; exact m_ln hM (by omega)
  · show gI _ (20, 0, 0) 20 = iN (wn P + 1)
    rw [sI_I, if_pos ⟨rfl, rfl⟩]
/-- the model's state where the plan's arrays and numbers changed, but nothing else -/
theorem MI_md {A : A3 → Prop} (m : MI h P H X) (hM : Mod h' P') (k : Chg A h h') (a16 : ¬ A (21, 16, 0)) (a19 : ¬ A (21, 19, 0)) (a20 : ¬ A (21, 20, 0)) (e : ∀ m, m = 33 ∨ m = 35 ∨ m = 22 ∨ m = 29 ∨ m = 26 ∨ m = 37 → gI h' (20, 0, 0) m = gI h (20, 0, 0) m) : MI h' P' H X := by
  obtain ⟨m1, m2, m3⟩ := m
  refine ⟨hM, ⟨fun z => Row_eq (ch_I k a20) (m2.1 z), fun i hi => Row_eq (ch_I k a19) (m2.2 i hi)⟩, ?_⟩
  unfold MX
  rw [e 33 (by decide), e 35 (by decide), e 22 (by decide), e 29 (by decide), e 26 (by decide), e 37 (by decide), ch_I k a16]
  exact m3
end S5
