/-! STEPS THAT READ OR WRITE CELLS: the rows -/
section StepC
variable {adr : A3 → Nat} {B : Nat} {dC : Nat → ClassId} {dI : Nat → Nat → Nat} {dA : Nat → ClassId} {x : Hp} {c0 s0 : Nat}
variable {p : Program} {l : Launch} {en : Env} {R : Room} {s : State} {m : MethodId} {args : Array Value} {below : List Frame} {meth : Method} {c : Code} {H : Heap} {locs : List Loc} {cells slots : Nat} {Q : State → Prop}
theorem pt_upd {i : Nat} {h h' : Hp} {H1 : Heap} {locs1 : List Loc} {ls : LS3} {mls : Array Slot} {a : A3} {k : Nat} (P : PtW adr B dC dI dA x i s c0 s0 h H locs cells slots ls mls) (hK : Kp h h') (hk : k < cnt h) (ek : nm k = a) (hne : ∀ b, b ≠ a → cellE adr dA h' b = cellE adr dA h b)
    (hP1 : va_P (dC, dI) clsW ((wsO adr dA h).set k (adr a, cellE adr dA h' a)) H1) (hS1 : va_S (fun q => B ≤ q) s.heap H1 locs1) : PtW adr B dC dI dA x i s c0 s0 h' H1 locs1 cells slots ls mls := by
  obtain ⟨w, -, -, ⟨a1, a2, a3, a4, a5⟩, hl, hn, hD⟩ := P
  rw [wsO_set w hk ek hK.2.1 hne] at hP1
  have e1 := hK.2.1
  have e2 := hK.2.2.1
  have e3 := hK.2.2.2.1
  exact ⟨WR_Kp w hK, hP1, hS1, ⟨by rw [e2]; exact a1, by rw [e3]; exact a2, by rw [e2]; exact a3, by rw [e3]; exact a4, by rw [e1, e2]; exact a5⟩, hl, hn, hD⟩
theorem no_call {i pc len idx : Nat} {ls : LS3} {st : List MV} {h : Hp} {q : Nat × LS3 × List MV × Hp} {r : Except DecodeError (Instr × Nat)} (_ : decode (mB i) pc = r) : ¬ exec1 i pc len ls st h (.invokevirtual idx) = some (.inl q) := by
  intro e
  simp only [exec1, xCall] at e
  repeat' split at e
  all_goals (cases e; done)
theorem no_iret {i pc len : Nat} {ls : LS3} {st : List MV} {h : Hp} {q : Nat × LS3 × List MV × Hp} : ¬ exec1 i pc len ls st h .ireturn = some (.inl q) := by
  intro e
  simp only [exec1, xRet] at e
  repeat' split at e
  all_goals (cases e; done)
theorem no_aret {i pc len : Nat} {ls : LS3} {st : List MV} {h : Hp} {q : Nat × LS3 × List MV × Hp} : ¬ exec1 i pc len ls st h .areturn = some (.inl q) := by
  intro e
  simp only [exec1] at e
  repeat' split at e
  all_goals (cases e; done)
theorem no_dret {i pc len : Nat} {ls : LS3} {st : List MV} {h : Hp} {q : Nat × LS3 × List MV × Hp} : ¬ exec1 i pc len ls st h .dreturn = some (.inl q) := by
  intro e
  simp only [exec1] at e
  repeat' split at e
  all_goals (cases e; done)
theorem no_ret {i pc len : Nat} {ls : LS3} {st : List MV} {h : Hp} {q : Nat × LS3 × List MV × Hp} : ¬ exec1 i pc len ls st h .return_ = some (.inl q) := by
  intro e
  simp only [exec1] at e
  repeat' split at e
  all_goals (cases e; done)
set_option maxHeartbeats 4000000 in
theorem sh_iaload {i pc len : Nat} {ls : LS3} {st : List MV} {h : Hp} {pc' : Nat} {ls' : LS3} {st' : List MV} {h' : Hp} {mls : Array Slot} (F : FrW adr B dC dI dA x i p l s m args meth c)
    (hd : decode (mB i) pc = .ok (.iaload, len)) (e : exec1 i pc len ls st h .iaload = some (.inl (pc', ls', st', h'))) (P : PtW adr B dC dI dA x i s c0 s0 h H locs cells slots ls mls)
    (K : ∀ H' locs' cells' slots' mls', PtW adr B dC dI dA x i s c0 s0 h' H' locs' cells' slots' ls' mls' → W p l en R s m args below meth c H' locs' cells' slots' Q (F0 m pc' mls' (st'.map (toV adr)))) :
    W p l en R s m args below meth c H locs cells slots Q (F0 m pc mls (st.map (toV adr))) := by
  obtain ⟨hx, hb, hml, hr, hown, hts, hlk, hin, hKv, hE, hBs, hadr, hst, hAO⟩ := id F
  obtain ⟨hw, hP, hS, hcs, hl, hn, hD⟩ := id P
  simp only [exec1, xAld] at e
  split at e
  · rename_i hlen; subst hlen
    split at e
    · rename_i j a r
      split at e
      · rename_i q
        cases e
        obtain ⟨q1, q2, q3⟩ := q
        cases hg : gS h a with
        | mk kd n =>
          rw [hg] at q1 q3
          simp only [List.mem_cons, List.not_mem_nil, or_false] at q1
          rcases q1 with q1 | q1
          · subst q1
            obtain ⟨k0, hk0, ek, he⟩ := wsO_ex hw adr dA (a := a) (by rw [hg]; exact Nat.le_of_ble_eq_true rfl) (by rw [hg]; exact Nat.le_of_ble_eq_true rfl)
            rw [cell_arr hg (by decide)] at he
            exact va_iald hx hb hKv hP k0 0 he rfl (inB_vp q2 q3) hd (K _ _ _ _ _ P)
          · subst q1
            have hxa := hw.2.2.2.2.1 a (Or.inl (by rw [hg]; exact Nat.le_of_ble_eq_true rfl))
            exact va_ti hx hb (hE.1 a n (by rw [← hxa.1]; exact hg)) hS (inB_vp q2 q3) (v := toV adr (vI (gI h a j.toNatClampNeg))) (by rw [hxa.2.1]; rfl) hd (K _ _ _ _ _ P)
      · cases e
    · cases e
  · cases e
set_option maxHeartbeats 4000000 in
theorem sh_caload {i pc len : Nat} {ls : LS3} {st : List MV} {h : Hp} {pc' : Nat} {ls' : LS3} {st' : List MV} {h' : Hp} {mls : Array Slot} (F : FrW adr B dC dI dA x i p l s m args meth c)
    (hd : decode (mB i) pc = .ok (.caload, len)) (e : exec1 i pc len ls st h .caload = some (.inl (pc', ls', st', h'))) (P : PtW adr B dC dI dA x i s c0 s0 h H locs cells slots ls mls)
    (K : ∀ H' locs' cells' slots' mls', PtW adr B dC dI dA x i s c0 s0 h' H' locs' cells' slots' ls' mls' → W p l en R s m args below meth c H' locs' cells' slots' Q (F0 m pc' mls' (st'.map (toV adr)))) :
    W p l en R s m args below meth c H locs cells slots Q (F0 m pc mls (st.map (toV adr))) := by
  obtain ⟨hx, hb, hml, hr, hown, hts, hlk, hin, hKv, hE, hBs, hadr, hst, hAO⟩ := id F
  obtain ⟨hw, hP, hS, hcs, hl, hn, hD⟩ := id P
  simp only [exec1, xAld] at e
  split at e
  · rename_i hlen; subst hlen
    split at e
    · rename_i j a r
      split at e
      · rename_i q
        cases e
        obtain ⟨q1, q2, q3⟩ := q
        cases hg : gS h a with
        | mk kd n =>
          rw [hg] at q1 q3
          simp only [List.mem_cons, List.not_mem_nil, or_false] at q1
          · subst q1
            obtain ⟨k0, hk0, ek, he⟩ := wsO_ex hw adr dA (a := a) (by rw [hg]; exact Nat.le_of_ble_eq_true rfl) (by rw [hg]; exact Nat.le_of_ble_eq_true rfl)
            rw [cell_arr hg (by decide)] at he
            exact va_cald hx hb hKv hP k0 1 he rfl (inB_vp q2 q3) hd (K _ _ _ _ _ P)
      · cases e
    · cases e
  · cases e
set_option maxHeartbeats 4000000 in
theorem sh_baload {i pc len : Nat} {ls : LS3} {st : List MV} {h : Hp} {pc' : Nat} {ls' : LS3} {st' : List MV} {h' : Hp} {mls : Array Slot} (F : FrW adr B dC dI dA x i p l s m args meth c)
    (hd : decode (mB i) pc = .ok (.baload, len)) (e : exec1 i pc len ls st h .baload = some (.inl (pc', ls', st', h'))) (P : PtW adr B dC dI dA x i s c0 s0 h H locs cells slots ls mls)
    (K : ∀ H' locs' cells' slots' mls', PtW adr B dC dI dA x i s c0 s0 h' H' locs' cells' slots' ls' mls' → W p l en R s m args below meth c H' locs' cells' slots' Q (F0 m pc' mls' (st'.map (toV adr)))) :
    W p l en R s m args below meth c H locs cells slots Q (F0 m pc mls (st.map (toV adr))) := by
  obtain ⟨hx, hb, hml, hr, hown, hts, hlk, hin, hKv, hE, hBs, hadr, hst, hAO⟩ := id F
  obtain ⟨hw, hP, hS, hcs, hl, hn, hD⟩ := id P
  simp only [exec1, xAld] at e
  split at e
  · rename_i hlen; subst hlen
    split at e
    · rename_i j a r
      split at e
      · rename_i q
        cases e
        obtain ⟨q1, q2, q3⟩ := q
        cases hg : gS h a with
        | mk kd n =>
          rw [hg] at q1 q3
          simp only [List.mem_cons, List.not_mem_nil, or_false] at q1
          · subst q1
            have hxa := hw.2.2.2.2.1 a (Or.inl (by rw [hg]; exact Nat.le_of_ble_eq_true rfl))
            exact va_tb hx hb (hE.2.1 a n (by rw [← hxa.1]; exact hg)) hS (inB_vp q2 q3) (v := toV adr (vI (gI h a j.toNatClampNeg))) (by rw [hxa.2.1]; rfl) hd (K _ _ _ _ _ P)
      · cases e
    · cases e
  · cases e
set_option maxHeartbeats 4000000 in
theorem sh_laload {i pc len : Nat} {ls : LS3} {st : List MV} {h : Hp} {pc' : Nat} {ls' : LS3} {st' : List MV} {h' : Hp} {mls : Array Slot} (F : FrW adr B dC dI dA x i p l s m args meth c)
    (hd : decode (mB i) pc = .ok (.laload, len)) (e : exec1 i pc len ls st h .laload = some (.inl (pc', ls', st', h'))) (P : PtW adr B dC dI dA x i s c0 s0 h H locs cells slots ls mls)
    (K : ∀ H' locs' cells' slots' mls', PtW adr B dC dI dA x i s c0 s0 h' H' locs' cells' slots' ls' mls' → W p l en R s m args below meth c H' locs' cells' slots' Q (F0 m pc' mls' (st'.map (toV adr)))) :
    W p l en R s m args below meth c H locs cells slots Q (F0 m pc mls (st.map (toV adr))) := by
  obtain ⟨hx, hb, hml, hr, hown, hts, hlk, hin, hKv, hE, hBs, hadr, hst, hAO⟩ := id F
  obtain ⟨hw, hP, hS, hcs, hl, hn, hD⟩ := id P
  simp only [exec1, xAld] at e
  split at e
  · rename_i hlen; subst hlen
    split at e
    · rename_i j a r
      split at e
      · rename_i q
        cases e
        obtain ⟨q1, q2, q3⟩ := q
        cases hg : gS h a with
        | mk kd n =>
          rw [hg] at q1 q3
          simp only [List.mem_cons, List.not_mem_nil, or_false] at q1
          · subst q1
            obtain ⟨k0, hk0, ek, he⟩ := wsO_ex hw adr dA (a := a) (by rw [hg]; exact Nat.le_of_ble_eq_true rfl) (by rw [hg]; exact Nat.le_of_ble_eq_true rfl)
            rw [cell_arr hg (by decide)] at he
            exact va_lald hx hb hKv hP k0 2 he rfl (inB_vp q2 q3) hd (K _ _ _ _ _ P)
      · cases e
    · cases e
  · cases e
set_option maxHeartbeats 4000000 in
theorem sh_daload {i pc len : Nat} {ls : LS3} {st : List MV} {h : Hp} {pc' : Nat} {ls' : LS3} {st' : List MV} {h' : Hp} {mls : Array Slot} (F : FrW adr B dC dI dA x i p l s m args meth c)
    (hd : decode (mB i) pc = .ok (.daload, len)) (e : exec1 i pc len ls st h .daload = some (.inl (pc', ls', st', h'))) (P : PtW adr B dC dI dA x i s c0 s0 h H locs cells slots ls mls)
    (K : ∀ H' locs' cells' slots' mls', PtW adr B dC dI dA x i s c0 s0 h' H' locs' cells' slots' ls' mls' → W p l en R s m args below meth c H' locs' cells' slots' Q (F0 m pc' mls' (st'.map (toV adr)))) :
    W p l en R s m args below meth c H locs cells slots Q (F0 m pc mls (st.map (toV adr))) := by
  obtain ⟨hx, hb, hml, hr, hown, hts, hlk, hin, hKv, hE, hBs, hadr, hst, hAO⟩ := id F
  obtain ⟨hw, hP, hS, hcs, hl, hn, hD⟩ := id P
  simp only [exec1, xAld] at e
  split at e
  · rename_i hlen; subst hlen
    split at e
    · rename_i j a r
      split at e
      · rename_i q
        cases e
        obtain ⟨q1, q2, q3⟩ := q
        cases hg : gS h a with
        | mk kd n =>
          rw [hg] at q1 q3
          simp only [List.mem_cons, List.not_mem_nil, or_false] at q1
          · subst q1
            obtain ⟨k0, hk0, ek, he⟩ := wsO_ex hw adr dA (a := a) (by rw [hg]; exact Nat.le_of_ble_eq_true rfl) (by rw [hg]; exact Nat.le_of_ble_eq_true rfl)
            rw [cell_arr hg (by decide)] at he
            exact va_dald hx hb hKv hP k0 3 he rfl (inB_vp q2 q3) hd (K _ _ _ _ _ P)
      · cases e
    · cases e
  · cases e
set_option maxHeartbeats 4000000 in
theorem sh_aaload {i pc len : Nat} {ls : LS3} {st : List MV} {h : Hp} {pc' : Nat} {ls' : LS3} {st' : List MV} {h' : Hp} {mls : Array Slot} (F : FrW adr B dC dI dA x i p l s m args meth c)
    (hd : decode (mB i) pc = .ok (.aaload, len)) (e : exec1 i pc len ls st h .aaload = some (.inl (pc', ls', st', h'))) (P : PtW adr B dC dI dA x i s c0 s0 h H locs cells slots ls mls)
    (K : ∀ H' locs' cells' slots' mls', PtW adr B dC dI dA x i s c0 s0 h' H' locs' cells' slots' ls' mls' → W p l en R s m args below meth c H' locs' cells' slots' Q (F0 m pc' mls' (st'.map (toV adr)))) :
    W p l en R s m args below meth c H locs cells slots Q (F0 m pc mls (st.map (toV adr))) := by
  obtain ⟨hx, hb, hml, hr, hown, hts, hlk, hin, hKv, hE, hBs, hadr, hst, hAO⟩ := id F
  obtain ⟨hw, hP, hS, hcs, hl, hn, hD⟩ := id P
  simp only [exec1, xAld] at e
  split at e
  · rename_i hlen; subst hlen
    split at e
    · rename_i j a r
      split at e
      · rename_i q
        cases e
        obtain ⟨q1, q2, q3⟩ := q
        cases hg : gS h a with
        | mk kd n =>
          rw [hg] at q1 q3
          simp only [List.mem_cons, List.not_mem_nil, or_false] at q1
          rcases q1 with q1 | q1 | q1
          · subst q1
            obtain ⟨k0, hk0, ek, he⟩ := wsO_ex hw adr dA (a := a) (by rw [hg]; exact Nat.le_of_ble_eq_true rfl) (by rw [hg]; exact Nat.le_of_ble_eq_true rfl)
            rw [cell_arr hg (by decide)] at he
            exact va_aldq hx hb hKv hP k0 4 he rfl (inB_vp q2 q3) hd (by have z := K _ _ _ _ _ P; rw [List.map_cons, toV_O] at z; exact z)
          · subst q1
            obtain ⟨k0, hk0, ek, he⟩ := wsO_ex hw adr dA (a := a) (by rw [hg]; exact Nat.le_of_ble_eq_true rfl) (by rw [hg]; exact Nat.le_of_ble_eq_true rfl)
            rw [cell_arr hg (by decide)] at he
            exact va_aldq hx hb hKv hP k0 5 he rfl (inB_vp q2 q3) hd (by have z := K _ _ _ _ _ P; rw [List.map_cons, toV_O] at z; exact z)
          · subst q1
            obtain ⟨k0, hk0, ek, he⟩ := wsO_ex hw adr dA (a := a) (by rw [hg]; exact Nat.le_of_ble_eq_true rfl) (by rw [hg]; exact Nat.le_of_ble_eq_true rfl)
            rw [cell_arr hg (by decide)] at he
            exact va_aldq hx hb hKv hP k0 6 he rfl (inB_vp q2 q3) hd (by have z := K _ _ _ _ _ P; rw [List.map_cons, toV_O] at z; exact z)
      · cases e
    · cases e
  · cases e
set_option maxHeartbeats 4000000 in
theorem sh_iastore {i pc len : Nat} {ls : LS3} {st : List MV} {h : Hp} {pc' : Nat} {ls' : LS3} {st' : List MV} {h' : Hp} {mls : Array Slot} (F : FrW adr B dC dI dA x i p l s m args meth c)
    (hd : decode (mB i) pc = .ok (.iastore, len)) (e : exec1 i pc len ls st h .iastore = some (.inl (pc', ls', st', h'))) (P : PtW adr B dC dI dA x i s c0 s0 h H locs cells slots ls mls)
    (K : ∀ H' locs' cells' slots' mls', PtW adr B dC dI dA x i s c0 s0 h' H' locs' cells' slots' ls' mls' → W p l en R s m args below meth c H' locs' cells' slots' Q (F0 m pc' mls' (st'.map (toV adr)))) :
    W p l en R s m args below meth c H locs cells slots Q (F0 m pc mls (st.map (toV adr))) := by
  obtain ⟨hx, hb, hml, hr, hown, hts, hlk, hin, hKv, hE, hBs, hadr, hst, hAO⟩ := id F
  obtain ⟨hw, hP, hS, hcs, hl, hn, hD⟩ := id P
  simp only [exec1] at e
  split at e
  · rename_i hlen; subst hlen
    split at e
    · rename_i v j a r
      split at e
      · rename_i q
        cases e
        obtain ⟨q1, q2, q3⟩ := q
        cases hg : gS h a with
        | mk kd n =>
          rw [hg] at q1 q3
          simp only at q1
          subst q1
          obtain ⟨k0, hk0, ek, he⟩ := wsO_ex hw adr dA (a := a) (by rw [hg]; exact Nat.le_of_ble_eq_true rfl) (by rw [hg]; exact Nat.le_of_ble_eq_true rfl)
          rw [cell_arr hg (by decide)] at he
          refine va_iast hx hb hKv hP (wsO_D hw hadr) hS k0 0 he rfl (inB_vp q2 q3) hd fun H1 locs1 hP1 _ hS1 => K _ _ _ _ _ (pt_upd P (Kp_sI (by rw [hg]; exact ⟨Nat.le_of_ble_eq_true rfl, Nat.le_of_ble_eq_true rfl⟩)) hk0 ek (fun b z => cell_sI_ne z) ?_ hS1)
          rw [cell_arr (h := sI h a j.toNatClampNeg v) hg (by decide)]
          show va_P _ _ ((wsO adr dA h).set k0 (adr a, .inl (dA 2, n, .inl (gI (sI h a j.toNatClampNeg v) a)))) H1
          rw [gI_sI_self]
          exact hP1
      · cases e
    · cases e
  · cases e
set_option maxHeartbeats 4000000 in
theorem sh_castore {i pc len : Nat} {ls : LS3} {st : List MV} {h : Hp} {pc' : Nat} {ls' : LS3} {st' : List MV} {h' : Hp} {mls : Array Slot} (F : FrW adr B dC dI dA x i p l s m args meth c)
    (hd : decode (mB i) pc = .ok (.castore, len)) (e : exec1 i pc len ls st h .castore = some (.inl (pc', ls', st', h'))) (P : PtW adr B dC dI dA x i s c0 s0 h H locs cells slots ls mls)
    (K : ∀ H' locs' cells' slots' mls', PtW adr B dC dI dA x i s c0 s0 h' H' locs' cells' slots' ls' mls' → W p l en R s m args below meth c H' locs' cells' slots' Q (F0 m pc' mls' (st'.map (toV adr)))) :
    W p l en R s m args below meth c H locs cells slots Q (F0 m pc mls (st.map (toV adr))) := by
  obtain ⟨hx, hb, hml, hr, hown, hts, hlk, hin, hKv, hE, hBs, hadr, hst, hAO⟩ := id F
  obtain ⟨hw, hP, hS, hcs, hl, hn, hD⟩ := id P
  simp only [exec1] at e
  split at e
  · rename_i hlen; subst hlen
    split at e
    · rename_i v j a r
      split at e
      · rename_i q
        cases e
        obtain ⟨q1, q2, q3⟩ := q
        cases hg : gS h a with
        | mk kd n =>
          rw [hg] at q1 q3
          simp only at q1
          subst q1
          obtain ⟨k0, hk0, ek, he⟩ := wsO_ex hw adr dA (a := a) (by rw [hg]; exact Nat.le_of_ble_eq_true rfl) (by rw [hg]; exact Nat.le_of_ble_eq_true rfl)
          rw [cell_arr hg (by decide)] at he
          refine va_cast hx hb hKv hP (wsO_D hw hadr) hS k0 1 he rfl (inB_vp q2 q3) hd fun H1 locs1 hP1 _ hS1 => K _ _ _ _ _ (pt_upd P (Kp_sI (by rw [hg]; exact ⟨Nat.le_of_ble_eq_true rfl, Nat.le_of_ble_eq_true rfl⟩)) hk0 ek (fun b z => cell_sI_ne z) ?_ hS1)
          rw [cell_arr (h := sI h a j.toNatClampNeg (vp_nar .char v)) hg (by decide)]
          show va_P _ _ ((wsO adr dA h).set k0 (adr a, .inl (dA 3, n, .inl (gI (sI h a j.toNatClampNeg (vp_nar .char v)) a)))) H1
          rw [gI_sI_self]
          exact hP1
      · cases e
    · cases e
  · cases e
set_option maxHeartbeats 4000000 in
theorem sh_lastore {i pc len : Nat} {ls : LS3} {st : List MV} {h : Hp} {pc' : Nat} {ls' : LS3} {st' : List MV} {h' : Hp} {mls : Array Slot} (F : FrW adr B dC dI dA x i p l s m args meth c)
    (hd : decode (mB i) pc = .ok (.lastore, len)) (e : exec1 i pc len ls st h .lastore = some (.inl (pc', ls', st', h'))) (P : PtW adr B dC dI dA x i s c0 s0 h H locs cells slots ls mls)
    (K : ∀ H' locs' cells' slots' mls', PtW adr B dC dI dA x i s c0 s0 h' H' locs' cells' slots' ls' mls' → W p l en R s m args below meth c H' locs' cells' slots' Q (F0 m pc' mls' (st'.map (toV adr)))) :
    W p l en R s m args below meth c H locs cells slots Q (F0 m pc mls (st.map (toV adr))) := by
  obtain ⟨hx, hb, hml, hr, hown, hts, hlk, hin, hKv, hE, hBs, hadr, hst, hAO⟩ := id F
  obtain ⟨hw, hP, hS, hcs, hl, hn, hD⟩ := id P
  simp only [exec1] at e
  split at e
  · rename_i hlen; subst hlen
    split at e
    · rename_i v j a r
      split at e
      · rename_i q
        cases e
        obtain ⟨q1, q2, q3⟩ := q
        cases hg : gS h a with
        | mk kd n =>
          rw [hg] at q1 q3
          simp only at q1
          subst q1
          obtain ⟨k0, hk0, ek, he⟩ := wsO_ex hw adr dA (a := a) (by rw [hg]; exact Nat.le_of_ble_eq_true rfl) (by rw [hg]; exact Nat.le_of_ble_eq_true rfl)
          rw [cell_arr hg (by decide)] at he
          refine va_last hx hb hKv hP (wsO_D hw hadr) hS k0 2 he rfl (inB_vp q2 q3) hd fun H1 locs1 hP1 _ hS1 => K _ _ _ _ _ (pt_upd P Kp_sL hk0 ek (fun b z => cell_sL_ne z) ?_ hS1)
          rw [cell_arr (h := sL h a j.toNatClampNeg v) hg (by decide)]
          show va_P _ _ ((wsO adr dA h).set k0 (adr a, .inl (dA 4, n, .inr (.inl (gL (sL h a j.toNatClampNeg v) a))))) H1
          rw [gL_sL_self]
          exact hP1
      · cases e
    · cases e
  · cases e
set_option maxHeartbeats 4000000 in
theorem sh_dastore {i pc len : Nat} {ls : LS3} {st : List MV} {h : Hp} {pc' : Nat} {ls' : LS3} {st' : List MV} {h' : Hp} {mls : Array Slot} (F : FrW adr B dC dI dA x i p l s m args meth c)
    (hd : decode (mB i) pc = .ok (.dastore, len)) (e : exec1 i pc len ls st h .dastore = some (.inl (pc', ls', st', h'))) (P : PtW adr B dC dI dA x i s c0 s0 h H locs cells slots ls mls)
    (K : ∀ H' locs' cells' slots' mls', PtW adr B dC dI dA x i s c0 s0 h' H' locs' cells' slots' ls' mls' → W p l en R s m args below meth c H' locs' cells' slots' Q (F0 m pc' mls' (st'.map (toV adr)))) :
    W p l en R s m args below meth c H locs cells slots Q (F0 m pc mls (st.map (toV adr))) := by
  obtain ⟨hx, hb, hml, hr, hown, hts, hlk, hin, hKv, hE, hBs, hadr, hst, hAO⟩ := id F
  obtain ⟨hw, hP, hS, hcs, hl, hn, hD⟩ := id P
  simp only [exec1] at e
  split at e
  · rename_i hlen; subst hlen
    split at e
    · rename_i v j a r
      split at e
      · rename_i q
        cases e
        obtain ⟨q1, q2, q3⟩ := q
        cases hg : gS h a with
        | mk kd n =>
          rw [hg] at q1 q3
          simp only at q1
          subst q1
          obtain ⟨k0, hk0, ek, he⟩ := wsO_ex hw adr dA (a := a) (by rw [hg]; exact Nat.le_of_ble_eq_true rfl) (by rw [hg]; exact Nat.le_of_ble_eq_true rfl)
          rw [cell_arr hg (by decide)] at he
          refine va_dast hx hb hKv hP (wsO_D hw hadr) hS k0 3 he rfl (inB_vp q2 q3) hd fun H1 locs1 hP1 _ hS1 => K _ _ _ _ _ (pt_upd P Kp_sD hk0 ek (fun b z => cell_sD_ne z) ?_ hS1)
          rw [cell_arr (h := sD h a j.toNatClampNeg v) hg (by decide)]
          show va_P _ _ ((wsO adr dA h).set k0 (adr a, .inl (dA 5, n, .inr (.inr (.inr (.inl (gD (sD h a j.toNatClampNeg v) a))))))) H1
          rw [gD_sD_self]
          exact hP1
      · cases e
    · cases e
  · cases e
set_option maxHeartbeats 4000000 in
theorem sh_aastore {i pc len : Nat} {ls : LS3} {st : List MV} {h : Hp} {pc' : Nat} {ls' : LS3} {st' : List MV} {h' : Hp} {mls : Array Slot} (F : FrW adr B dC dI dA x i p l s m args meth c)
    (hd : decode (mB i) pc = .ok (.aastore, len)) (e : exec1 i pc len ls st h .aastore = some (.inl (pc', ls', st', h'))) (P : PtW adr B dC dI dA x i s c0 s0 h H locs cells slots ls mls)
    (K : ∀ H' locs' cells' slots' mls', PtW adr B dC dI dA x i s c0 s0 h' H' locs' cells' slots' ls' mls' → W p l en R s m args below meth c H' locs' cells' slots' Q (F0 m pc' mls' (st'.map (toV adr)))) :
    W p l en R s m args below meth c H locs cells slots Q (F0 m pc mls (st.map (toV adr))) := by
  obtain ⟨hx, hb, hml, hr, hown, hts, hlk, hin, hKv, hE, hBs, hadr, hst, hAO⟩ := id F
  obtain ⟨hw, hP, hS, hcs, hl, hn, hD⟩ := id P
  simp only [exec1] at e
  split at e
  · rename_i hlen; subst hlen
    split at e
    · rename_i v j a r
      split at e
      · rename_i q
        cases e
        obtain ⟨q1, q2, q3, q4⟩ := q
        cases hg : gS h a with
        | mk kd n =>
          rw [hg] at q1 q3 q4
          simp only at q1 q3 q4
          have h8 : elemC kd < 8 := by rcases q1 with z | z | z <;> rw [z] <;> decide
          obtain ⟨k0, hk0, ek, he⟩ := wsO_ex hw adr dA (a := a) (by rw [hg]; show 1 ≤ kd; omega) (by rw [hg]; show kd ≤ 8; omega)
          obtain ⟨k1, hk1, ek1, he1⟩ := wsO_ex hw adr dA (a := v) (by rw [q4]; exact Nat.le_refl 1) (by rw [q4]; show (1 : Nat) ≤ 8; decide)
          rw [cell_arr hg (by omega)] at he
          rw [cell_obj q4] at he1
          have ha : arrE adr h a kd = .inr (.inr (.inr (.inr (fun j => (gR h a j).map adr)))) := by rcases q1 with rfl | rfl | rfl <;> rfl
          rw [ha] at he
          have ht : (tysW dA)[kd - 2]? = some (dA kd, .object (cN (elemC kd))) := by rcases q1 with rfl | rfl | rfl <;> rfl
          refine va_astq hx hb hKv hP (wsO_D hw hadr) hS k0 (kd - 2) k1 (elemC kd) (r := (cN (elemC kd), TW (elemC kd), NW (elemC kd))) he ht he1 (clsW_at h8) (inB_vp q2 q3) hd fun H1 locs1 hP1 _ hS1 => K _ _ _ _ _ (pt_upd P (Kp_sR (by rw [hg]; show 1 ≤ kd ∧ kd ≤ 8; omega)) hk0 ek (fun b z => cell_sR_ne z) ?_ hS1)
          rw [cell_arr (h := sR h a j.toNatClampNeg (some v)) hg (by omega)]
          have ha2 : arrE adr (sR h a j.toNatClampNeg (some v)) a kd = .inr (.inr (.inr (.inr (va_up (fun j => (gR h a j).map adr) j.toNatClampNeg (some (adr v)))))) := by
            have e9 : (fun z => (gR (sR h a j.toNatClampNeg (some v)) a z).map adr) = va_up (fun z => (gR h a z).map adr) j.toNatClampNeg (some (adr v)) := by
              funext z
              rw [gR_sR_self]
              by_cases hz : z = j.toNatClampNeg
              · simp [va_up, hz]
              · simp [va_up, hz]
            rw [← e9]
            rcases q1 with rfl | rfl | rfl <;> rfl
          rw [ha2]
          exact hP1
      · cases e
    · cases e
  · cases e
set_option maxHeartbeats 4000000 in
theorem sh_arraylength {i pc len : Nat} {ls : LS3} {st : List MV} {h : Hp} {pc' : Nat} {ls' : LS3} {st' : List MV} {h' : Hp} {mls : Array Slot} (F : FrW adr B dC dI dA x i p l s m args meth c)
    (hd : decode (mB i) pc = .ok (.arraylength, len)) (e : exec1 i pc len ls st h .arraylength = some (.inl (pc', ls', st', h'))) (P : PtW adr B dC dI dA x i s c0 s0 h H locs cells slots ls mls)
    (K : ∀ H' locs' cells' slots' mls', PtW adr B dC dI dA x i s c0 s0 h' H' locs' cells' slots' ls' mls' → W p l en R s m args below meth c H' locs' cells' slots' Q (F0 m pc' mls' (st'.map (toV adr)))) :
    W p l en R s m args below meth c H locs cells slots Q (F0 m pc mls (st.map (toV adr))) := by
  obtain ⟨hx, hb, hml, hr, hown, hts, hlk, hin, hKv, hE, hBs, hadr, hst, hAO⟩ := id F
  obtain ⟨hw, hP, hS, hcs, hl, hn, hD⟩ := id P
  simp only [exec1] at e
  split at e
  · rename_i hlen; subst hlen
    split at e
    · rename_i a r
      split at e
      · rename_i q
        cases e
        cases hg : gS h a with
        | mk kd n =>
          rw [hg] at q
          simp only at q
          have K1 := K _ _ _ _ _ P
          rw [hg] at K1
          by_cases h8 : kd ≤ 8
          · obtain ⟨k0, hk0, ek, he⟩ := wsO_ex hw adr dA (a := a) (by rw [hg]; show 1 ≤ kd; omega) (by rw [hg]; exact h8)
            rw [cell_arr hg (by omega)] at he
            obtain ⟨ty, hty⟩ := tys_at (dA := dA) (k := kd) ⟨q.1, h8⟩
            exact va_alen hx hb hKv hP k0 (kd - 2) he hty rfl hd K1
          · have hxa := hw.2.2.2.2.1 a (Or.inl (by rw [hg]; show 9 ≤ kd; omega))
            rcases (show kd = 9 ∨ kd = 10 by omega) with rfl | rfl
            · exact va_tlen hx hb (hE.1 a n (by rw [← hxa.1]; exact hg)) hS rfl hd K1
            · exact va_tlen hx hb (hE.2.1 a n (by rw [← hxa.1]; exact hg)) hS rfl hd K1
      · cases e
    · cases e
  · cases e
end StepC
