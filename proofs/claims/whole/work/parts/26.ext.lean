theorem x0_S9 {L : Nat} {xs : Nat → Int32} {o : Option A3} {a : A3} {n : Nat} (e : gS (x0 L xs o) a = (9, n)) : (a = (40, 0, 0) ∧ n = L) ∨ ∃ k, k < 4 ∧ a = (41, k, 0) ∧ n = (sVal k).length := by
  simp only [gS, x0] at e
  split at e
  · rename_i z; subst z; cases e; exact Or.inl ⟨rfl, rfl⟩
  · split at e
    · rename_i z; cases e
      obtain ⟨a1, a2, a3⟩ := a
      obtain ⟨z1, z2, z3⟩ := z
      simp only at z1 z2 z3
      subst z1; subst z3
      exact Or.inr ⟨a2, z2, rfl, rfl⟩
    · repeat' split at e
      all_goals cases e
theorem x0_S10 {L : Nat} {xs : Nat → Int32} {o : Option A3} {a : A3} {n : Nat} (e : gS (x0 L xs o) a = (10, n)) : ∃ k, k < 5 ∧ a = (43, k, 0) ∧ n = (bVal k).length := by
  simp only [gS, x0] at e
  split at e
  · cases e
  · split at e
    · cases e
    · split at e
      · cases e
      · split at e
        · rename_i z; cases e
          obtain ⟨a1, a2, a3⟩ := a
          obtain ⟨z1, z2, z3⟩ := z
          simp only at z1 z2 z3
          subst z1; subst z3
          exact ⟨a2, z2, rfl, rfl⟩
        · repeat' split at e
          all_goals cases e
theorem x0_S11 {L : Nat} {xs : Nat → Int32} {o : Option A3} {a : A3} {n : Nat} (e : gS (x0 L xs o) a = (11, n)) : ∃ k, k < 5 ∧ a = (42, k, 0) ∧ n = 10 := by
  simp only [gS, x0] at e
  split at e
  · cases e
  · split at e
    · cases e
    · split at e
      · rename_i z; cases e
        obtain ⟨a1, a2, a3⟩ := a
        obtain ⟨z1, z2, z3⟩ := z
        simp only at z1 z2 z3
        subst z1; subst z3
        exact ⟨a2, z2, rfl, rfl⟩
      · repeat' split at e
        all_goals cases e
theorem x0_I40 {L : Nat} {xs : Nat → Int32} {o : Option A3} {j : Nat} : gI (x0 L xs o) (40, 0, 0) j = xs j := by simp [gI, x0]
theorem x0_I41 {L : Nat} {xs : Nat → Int32} {o : Option A3} {k j : Nat} : gI (x0 L xs o) (41, k, 0) j = (sVal k).getD j 0 := by simp [gI, x0]
theorem x0_I42 {L : Nat} {xs : Nat → Int32} {o : Option A3} {k j : Nat} : gI (x0 L xs o) (42, k, 0) j = 0 := by simp [gI, x0]
theorem x0_I43 {L : Nat} {xs : Nat → Int32} {o : Option A3} {k j : Nat} : gI (x0 L xs o) (43, k, 0) j = (bVal k).getD j 0 := by simp [gI, x0]
theorem x0_R42 {L : Nat} {xs : Nat → Int32} {o : Option A3} {k : Nat} : gR (x0 L xs o) (42, k, 0) 0 = some (43, k, 0) := by simp [gR, x0]
theorem x0_R51 {L : Nat} {xs : Nat → Int32} {o : Option A3} {k : Nat} : gR (x0 L xs o) (51, 0, 0) k = if k < 4 then some (41, k, 0) else if k = 4 then o else none := by simp [gR, x0]
def outF (b : Nat) (tS : Nat → Nat) (tT : Nat → Nat × Nat) (zA : Nat) (a : A3) : Nat := if a.1 = 40 then b else if a.1 = 41 then tS a.2.1 else if a.1 = 42 then (tT a.2.1).1 else if a.1 = 43 then (tT a.2.1).2 else zA
theorem of_40 {B b : Nat} {tS : Nat → Nat} {tT : Nat → Nat × Nat} {zA : Nat} : adr0 B (outF b tS tT zA) (40, 0, 0) = b := by rw [adr0_out (by decide)]; rfl
theorem of_41 {B b : Nat} {tS : Nat → Nat} {tT : Nat → Nat × Nat} {zA k : Nat} : adr0 B (outF b tS tT zA) (41, k, 0) = tS k := by rw [adr0_out (Nat.le_of_ble_eq_true rfl)]; rfl
theorem of_42 {B b : Nat} {tS : Nat → Nat} {tT : Nat → Nat × Nat} {zA k : Nat} : adr0 B (outF b tS tT zA) (42, k, 0) = (tT k).1 := by rw [adr0_out (Nat.le_of_ble_eq_true rfl)]; rfl
theorem of_43 {B b : Nat} {tS : Nat → Nat} {tT : Nat → Nat × Nat} {zA k : Nat} : adr0 B (outF b tS tT zA) (43, k, 0) = (tT k).2 := by rw [adr0_out (Nat.le_of_ble_eq_true rfl)]; rfl
theorem of_60 {B b : Nat} {tS : Nat → Nat} {tT : Nat → Nat × Nat} {zA : Nat} : adr0 B (outF b tS tT zA) (60, 0, 0) = zA := by rw [adr0_out (by decide)]; rfl
section Start
variable {s : State} {b L : Nat} {xs : Nat → Int32}
theorem nf_at {i : Nat} {w : Cond} (hn : ∀ w ∈ nf, w.before #[Value.ref b] s = true) (h : nf[i]? = some w) : w.before #[Value.ref b] s = true := hn w (List.mem_of_getElem? h)
theorem tb_at {i : Nat} {w : Cond} (ht : ∀ w ∈ lw_tbl, w.before #[Value.ref b] s = true) (h : lw_tbl[i]? = some w) : w.before #[Value.ref b] s = true := ht w (List.mem_of_getElem? h)
theorem st_arr (ht : ∀ w ∈ lw_tbl, w.before #[Value.ref b] s = true) (hn : ∀ w ∈ nf, w.before #[Value.ref b] s = true) {k : Nat} (hk : k < 4) : ∃ t : Nat, va_Z (stN k).1 (stN k).2.1 (stN k).2.2 (.ref t) (fun q => s.heap.size ≤ q) s s.heap ∧ va_T .int t (sVal k).length (fun j => .int ((sVal k).getD j 0)) (fun q => s.heap.size ≤ q) s s.heap := by
  have h := List.all_eq_true.mp s_ok k (List.mem_range.mpr hk)
  simp only [sChk, Bool.and_eq_true, decide_eq_true_eq] at h
  obtain ⟨⟨⟨h1, h2⟩, h3⟩, h4⟩ := h
  have hA : ∀ a : Nat, a < s.heap.size → ¬ s.heap.size ≤ a := fun a h9 => Nat.not_le.mpr h9
  have hlen : (sVal k).length < 2 ^ 31 := by
    rcases (show k = 0 ∨ k = 1 ∨ k = 2 ∨ k = 3 by omega) with rfl | rfl | rfl | rfl <;> exact Nat.le_of_ble_eq_true rfl
  obtain ⟨t, g1, g2⟩ := va_Tof (args := #[Value.ref b]) (s := s) (tm := stT k) (ty := .int) (N := (sVal k).length) (f := fun j => .int ((sVal k).getD j 0)) (A := fun q => s.heap.size ≤ q) hlen (nf_at hn h1) (va_eqt (nf_at hn h2)) (fun j hj => by
    have := List.all_eq_true.mp h3 j (List.mem_range.mpr hj)
    exact va_eqt (nf_at hn (of_decide_eq_true this))) hA
  have hini : (Cond.initialized (stN k).1).before #[Value.ref b] s = true := by
    rcases (show k = 0 ∨ k = 1 ∨ k = 2 ∨ k = 3 by omega) with rfl | rfl | rfl | rfl
    · exact ht _ ini_0
    · exact ht _ ini_0
    · exact ht _ ini_7
    · exact ht _ ini_7
  exact ⟨t, va_Zof (tb_at ht h4) hini g1 hA, g2⟩
theorem st_str (ht : ∀ w ∈ lw_tbl, w.before #[Value.ref b] s = true) (hn : ∀ w ∈ nf, w.before #[Value.ref b] s = true) {k : Nat} (hk : k < 5) : ∃ q : Nat × Nat, vk_R (cN 2) (bKey k) (frm k) q.1 s ∧ va_OF RJ0 "value" "[B" (.ref q.2) q.1 (fun q => s.heap.size ≤ q) s s.heap ∧ va_OF RJ0 "coder" "B" (.int 0) q.1 (fun q => s.heap.size ≤ q) s s.heap ∧ va_O RJ0 q.1 (fun q => s.heap.size ≤ q) s s.heap ∧
    va_T .byte q.2 (bVal k).length (fun j => .int ((bVal k).getD j 0)) (fun q => s.heap.size ≤ q) s s.heap := by
  have h := List.all_eq_true.mp b_ok k (List.mem_range.mpr hk)
  simp only [bChk, Bool.and_eq_true, decide_eq_true_eq] at h
  obtain ⟨⟨⟨⟨⟨⟨h1, h2⟩, h3⟩, h4⟩, h5⟩, h6⟩, h7⟩ := h
  have hA : ∀ a : Nat, a < s.heap.size → ¬ s.heap.size ≤ a := fun a h9 => Nat.not_le.mpr h9
  have hex := nf_at hn h1
  obtain ⟨a2, c, cA, kA, q1, q2, q3, q4, q5, q6, -⟩ := Cond.exactly_spec (args := #[Value.ref b]) (first := s) (o := none) (s := s) (idx := []) hex
  obtain ⟨t, g1, g2⟩ := va_Tof (args := #[Value.ref b]) (s := s) (tm := bV k) (ty := .byte) (N := (bVal k).length) (f := fun j => .int ((bVal k).getD j 0)) (A := fun q => s.heap.size ≤ q) (Nat.lt_trans h7 (by decide)) (nf_at hn h3) (va_eqt (nf_at hn h4)) (fun j hj => by
    have := List.all_eq_true.mp h5 j (List.mem_range.mpr hj)
    exact va_eqt (nf_at hn (of_decide_eq_true this))) hA
  exact ⟨(a2, t), vk_R.of (A := #[Value.ref b]) (tb_at ht h6) q1, vk_OFof q1 g1 hA, vk_OFof q1 (va_eqt (nf_at hn h2)) hA, va_Oof hex q1 hA, g2⟩
theorem ch_of {P : Nat → Nat → Prop} {n : Nat} (h : ∀ k, k < n → ∃ t, P k t) : ∃ f : Nat → Nat, ∀ k, k < n → P k (f k) := by
  refine ⟨fun k => if z : k < n then (h k z).choose else 0, fun k z => ?_⟩
  simp only [dif_pos z]
  exact (h k z).choose_spec
theorem ch_of2 {P : Nat → Nat × Nat → Prop} {n : Nat} (h : ∀ k, k < n → ∃ t, P k t) : ∃ f : Nat → Nat × Nat, ∀ k, k < n → P k (f k) := by
  refine ⟨fun k => if z : k < n then (h k z).choose else (0, 0), fun k z => ?_⟩
  simp only [dif_pos z]
  exact (h k z).choose_spec
def tyN (k : Nat) : FieldType := if k = 2 then .int else if k = 3 then .char else if k = 4 then .long else if k = 5 then .double else .object (arrN k)
theorem st_cls (ht : ∀ w ∈ lw_tbl, w.before #[Value.ref b] s = true) : ∃ (dC : Nat → ClassId) (dI : Nat → Nat → Nat) (dA : Nat → ClassId), va_K (dC, dI) clsW (tysW dA) s := by
  have hx : ∀ w ∈ lwX, w.before #[Value.ref b] s = true := fun w hw => ht w (List.mem_filter.mp hw).1
  have h1 : ∀ c, c < 8 → ∃ q : Nat × (Nat → Nat), u_Kn s (cN c) (TW c) (NW c) q.1 q.2 := by
    intro c hc
    have hi := inT_mem (List.all_eq_true.mp inst_ok c (List.mem_range.mpr hc))
    obtain ⟨cC, iS, h⟩ := u_known (s := s) (args := #[Value.ref b]) (C := cN c) (T := TW c) (N := NW c) (n := NW c) hx (lay_in hc) (hx _ hi)
    exact ⟨(cC, iS), h⟩
  have h2 : ∀ k, k < 9 → ∃ cA : Nat, 2 ≤ k → ArrOfT s cA (tyN k) ∧ va_RA s cA (tyN k) := by
    intro k hk
    have prim : ∀ ty : FieldType, (Cond.arrayClass ty).before #[Value.ref b] s = true → (∀ C, ty ≠ .object C) → ∃ cA : Nat, ArrOfT s cA ty ∧ va_RA s cA ty := by
      intro ty hw hne
      obtain ⟨cA, kA, comp, e1, e2, e3⟩ := Cond.arrayClass_spec hw
      refine ⟨cA, fun n z => ⟨fun k h => (by cases h), kA, e2, comp, e3⟩, ?_⟩
      cases ty with
      | object C => exact absurd rfl (hne C)
      | _ => exact e1
    have obj : ∀ C : String, (Cond.arrayOver (.object C)).before #[Value.ref b] s = true → ∃ cA : Nat, ArrOfT s cA (.object C) ∧ va_RA s cA (.object C) := by
      intro C hw
      obtain ⟨comp, cA, kA, e1, e2, e3, e4, e5⟩ := Cond.arrayOver_spec hw
      exact ⟨cA, fun n z => ⟨fun k h => (by cases h), kA, e3, comp, e4⟩, kA, comp, e3, e4, e1, e5⟩
    rcases (show k < 2 ∨ k = 2 ∨ k = 3 ∨ k = 4 ∨ k = 5 ∨ k = 6 ∨ k = 7 ∨ k = 8 by omega) with z | rfl | rfl | rfl | rfl | rfl | rfl | rfl
    · exact ⟨0, fun y => absurd y (by omega)⟩
    · obtain ⟨cA, h⟩ := prim .int (hx _ arc_2) (fun _ z => (by cases z)); exact ⟨cA, fun _ => h⟩
    · obtain ⟨cA, h⟩ := prim .char (hx _ arc_3) (fun _ z => (by cases z)); exact ⟨cA, fun _ => h⟩
    · obtain ⟨cA, h⟩ := prim .long (hx _ arc_4) (fun _ z => (by cases z)); exact ⟨cA, fun _ => h⟩
    · obtain ⟨cA, h⟩ := prim .double (hx _ arc_5) (fun _ z => (by cases z)); exact ⟨cA, fun _ => h⟩
    · obtain ⟨cA, h⟩ := obj (arrN 6) (ht _ over_6); exact ⟨cA, fun _ => h⟩
    · obtain ⟨cA, h⟩ := obj (arrN 7) (ht _ over_7); exact ⟨cA, fun _ => h⟩
    · obtain ⟨cA, h⟩ := obj (arrN 8) (ht _ over_8); exact ⟨cA, fun _ => h⟩
  obtain ⟨dA, hdA⟩ := ch_of h2
  refine ⟨fun c => if z : c < 8 then (h1 c z).choose.1 else 0, fun c => if z : c < 8 then (h1 c z).choose.2 else fun _ => 0, dA, fun c q hq => ?_, fun k q hq => ?_⟩
  · have hc : c < 8 := (List.getElem?_eq_some_iff.mp hq).1
    rw [clsW_at hc] at hq
    cases hq
    have := (h1 c hc).choose_spec
    simp only [dif_pos hc]
    exact this
  · have hk : k < 7 := (List.getElem?_eq_some_iff.mp hq).1
    have := hdA (k + 2) (by omega) (by omega)
    rcases (show k = 0 ∨ k = 1 ∨ k = 2 ∨ k = 3 ∨ k = 4 ∨ k = 5 ∨ k = 6 by omega) with rfl | rfl | rfl | rfl | rfl | rfl | rfl <;> (cases hq; exact this)
theorem st_ext (ht : ∀ w ∈ lw_tbl, w.before #[Value.ref b] s = true) (hn : ∀ w ∈ nf, w.before #[Value.ref b] s = true) (hX : va_X b L xs s s.heap) (hb : b < s.heap.size) : ∃ (out : A3 → Nat) (o : Option A3), adr0 s.heap.size out (40, 0, 0) = b ∧ Ext (adr0 s.heap.size out) s.heap.size (x0 L xs o) s := by
  have hA : ∀ a : Nat, a < s.heap.size → ¬ s.heap.size ≤ a := fun a h9 => Nat.not_le.mpr h9
  obtain ⟨tS, hS⟩ := ch_of (fun k (hk : k < 4) => st_arr ht hn hk)
  obtain ⟨tT, hT⟩ := ch_of2 (fun k (hk : k < 5) => st_str ht hn hk)
  obtain ⟨vP, hvP, hrP⟩ := Cond.isRef_spec (hn _ nar_P)
  have hZP := va_Zof (A := fun q => s.heap.size ≤ q) (ht _ lay_P) (ht _ ini_P) hvP hA
  obtain ⟨zA, oP, hoP, hoP2⟩ : ∃ (z : Nat) (o : Option A3), vP = va_rf (o.map fun _ => z) ∧ (o = none ∨ o = some (60, 0, 0)) := by
    cases vP with
    | null => exact ⟨0, none, rfl, Or.inl rfl⟩
    | ref a => exact ⟨a, some (60, 0, 0), rfl, Or.inr rfl⟩
    | _ => cases hrP
  refine ⟨outF b tS tT zA, oP, of_40, ?_, ?_, ?_, ?_, ?_, ?_, ?_, ?_, ?_, ?_⟩
  · intro a n e
    rcases x0_S9 e with ⟨rfl, rfl⟩ | ⟨k, hk, rfl, rfl⟩
    · rw [of_40]
      obtain ⟨scr, g1, g2, g3, g4, g5⟩ := hX
      simp only [x0_I40]
      exact ⟨scr, g1, g2, g3, Nat.le_of_eq g4.symm, (by rw [g4]), g5, hA b hb⟩
    · rw [of_41]
      simp only [x0_I41]
      exact (hS k hk).2
  · intro a n e
    obtain ⟨k, hk, rfl, rfl⟩ := x0_S10 e
    rw [of_43]
    simp only [x0_I43]
    exact (hT k hk).2.2.2.2
  · intro a c e
    obtain ⟨k, hk, rfl, rfl⟩ := x0_S11 e
    rw [x0_R42, x0_I42, of_42]
    refine ⟨rfl, ?_, (hT k hk).2.2.1, (hT k hk).2.2.2.1⟩
    show va_OF RJ0 "value" "[B" (.ref (adr0 s.heap.size (outF b tS tT zA) (43, k, 0))) _ _ _ _
    rw [of_43]
    exact (hT k hk).2.1
  · intro k hk
    rw [x0_R51]
    by_cases h4 : k < 4
    · rw [if_pos h4]
      show va_Z _ _ _ (.ref (adr0 s.heap.size (outF b tS tT zA) (41, k, 0))) _ _ _
      rw [of_41]
      exact (hS k h4).1
    · have e4 : k = 4 := by omega
      subst e4
      rw [if_neg (by decide), if_pos rfl]
      rw [hoP] at hZP
      rcases hoP2 with rfl | rfl
      · exact hZP
      · show va_Z _ _ _ (.ref (adr0 s.heap.size (outF b tS tT zA) (60, 0, 0))) _ _ _
        rw [of_60]
        exact hZP
  · exact va_Zof (ht _ lay_C) (ht _ ini_S) (va_eqi (hn _ nar_C)) hA
  · exact vx_Zqof (ht _ lay_U) (ht _ ini_T) (hn _ nar_U) hA
  · exact vx_Zqof (ht _ lay_L) (ht _ ini_T) (hn _ nar_L) hA
  · intro q hq
    simp only [tStr, List.mem_cons, List.not_mem_nil, or_false] at hq
    rcases hq with rfl | rfl | rfl | rfl | rfl
    · show vk_R _ _ _ (adr0 s.heap.size (outF b tS tT zA) (42, 0, 0)) s; rw [of_42]; exact (hT 0 (by decide)).1
    · show vk_R _ _ _ (adr0 s.heap.size (outF b tS tT zA) (42, 1, 0)) s; rw [of_42]; exact (hT 1 (by decide)).1
    · show vk_R _ _ _ (adr0 s.heap.size (outF b tS tT zA) (42, 2, 0)) s; rw [of_42]; exact (hT 2 (by decide)).1
    · show vk_R _ _ _ (adr0 s.heap.size (outF b tS tT zA) (42, 3, 0)) s; rw [of_42]; exact (hT 3 (by decide)).1
    · show vk_R _ _ _ (adr0 s.heap.size (outF b tS tT zA) (42, 4, 0)) s; rw [of_42]; exact (hT 4 (by decide)).1
  · intro q hq
    obtain ⟨i, hi⟩ := all_zip (fun (q : (Nat × Nat) × String) (i : Nat × Nat) => decide (lw_tbl[i.1]? = some (.stringRef (cN q.1.1) q.1.2 q.2)) && decide (nf[i.2]? = some (.exactly (.string (cN q.1.1) q.1.2) "java/lang/String"))) tTxt tTxtIx (by decide +kernel) txt_ok q hq
    simp only [Bool.and_eq_true, decide_eq_true_eq] at hi
    obtain ⟨a2, c, cA, kA, q1, -⟩ := Cond.exactly_spec (args := #[Value.ref b]) (first := s) (o := none) (s := s) (idx := []) (nf_at hn hi.2)
    exact ⟨a2, vk_R.of (A := #[Value.ref b]) (tb_at ht hi.1) q1⟩
  · intro e e' h1 h2 h3
    obtain ⟨q, hq, hq2⟩ := List.any_eq_true.mp (nc_has e h1 e' h2 h3)
    have hq3 : q.1 = (e, e') := of_decide_eq_true hq2
    have := of_decide_eq_true (List.all_eq_true.mp nc_ok q hq)
    rw [hq3] at this
    exact va_Nc.of (nf_at hn this)
end Start
