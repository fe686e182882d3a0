/-! the rows, on -/
section StepD
variable {adr : A3 → Nat} {B : Nat} {dC : Nat → ClassId} {dI : Nat → Nat → Nat} {dA : Nat → ClassId} {x : Hp} {c0 s0 : Nat}
variable {p : Program} {l : Launch} {en : Env} {R : Room} {s : State} {m : MethodId} {args : Array Value} {below : List Frame} {meth : Method} {c : Code} {H : Heap} {locs : List Loc} {cells slots : Nat} {Q : State → Prop}
set_option maxHeartbeats 4000000 in
theorem sh_if_acmp {i pc len : Nat} {cd : ACond} {off : Int} {ls : LS3} {st : List MV} {h : Hp} {pc' : Nat} {ls' : LS3} {st' : List MV} {h' : Hp} {mls : Array Slot} (F : FrW adr B dC dI dA x i p l s m args meth c)
    (hd : decode (mB i) pc = .ok (.if_acmp cd off, len)) (e : exec1 i pc len ls st h (.if_acmp cd off) = some (.inl (pc', ls', st', h'))) (P : PtW adr B dC dI dA x i s c0 s0 h H locs cells slots ls mls)
    (K : ∀ H' locs' cells' slots' mls', PtW adr B dC dI dA x i s c0 s0 h' H' locs' cells' slots' ls' mls' → W p l en R s m args below meth c H' locs' cells' slots' Q (F0 m pc' mls' (st'.map (toV adr)))) :
    W p l en R s m args below meth c H locs cells slots Q (F0 m pc mls (st.map (toV adr))) := by
  obtain ⟨hx, hb, hml, hr, hown, hts, hlk, hin, hKv, hE, hBs, hadr, hst, hAO⟩ := id F
  obtain ⟨hw, hP, hS, hcs, hl, hn, hD⟩ := id P
  simp only [exec1] at e
  split at e
  · rename_i hlen; obtain ⟨hlen, hcd⟩ := hlen; subst hlen; subst hcd
    split at e
    · rename_i b a r
      split at e
      · rename_i q
        have inj : adr a = adr b → a = b := by
          intro z
          obtain ⟨k0, hk0, ek, -⟩ := wsO_ex hw adr dA (a := a) (by rw [q.1]; decide) (by rw [q.1]; decide)
          obtain ⟨k1, hk1, ek1, -⟩ := wsO_ex hw adr dA (a := b) (by rw [q.2]; decide) (by rw [q.2]; decide)
          have h93 := hw.2.1
          have z1 := hadr k0 (by omega)
          have z2 := hadr k1 (by omega)
          rw [ek] at z1
          rw [ek1] at z2
          have : k0 = k1 := by omega
          subst this
          exact ek.symm.trans ek1
        cases ht : (pc : Int) + off with
        | ofNat t =>
          rw [ht] at e
          simp only at e
          refine lv_acmp_eq (rx := some (adr a)) (ry := some (adr b)) hx hb hd ht (fun z => ?_) (fun z => ?_)
          · have hab := inj (Option.some.inj z)
            rw [if_pos hab] at e
            cases e
            exact K _ _ _ _ _ P
          · have hab : ¬ a = b := fun y => z (by rw [y])
            rw [if_neg hab] at e
            cases e
            exact K _ _ _ _ _ P
        | negSucc t => rw [ht] at e; cases e
      · cases e
    · rename_i a r
      split at e
      · cases ht : (pc : Int) + off with
        | ofNat t =>
          rw [ht] at e
          cases e
          exact lv_acmp_eq (rx := some (adr a)) (ry := none) hx hb hd ht (fun z => nomatch z) (fun z => K _ _ _ _ _ P)
        | negSucc t => rw [ht] at e; cases e
      · cases e
    · cases e
  · cases e
set_option maxHeartbeats 4000000 in
theorem sh_ldc {i pc len : Nat} {idx : Nat} {ls : LS3} {st : List MV} {h : Hp} {pc' : Nat} {ls' : LS3} {st' : List MV} {h' : Hp} {mls : Array Slot} (F : FrW adr B dC dI dA x i p l s m args meth c)
    (hd : decode (mB i) pc = .ok (.ldc idx, len)) (e : exec1 i pc len ls st h (.ldc idx) = some (.inl (pc', ls', st', h'))) (P : PtW adr B dC dI dA x i s c0 s0 h H locs cells slots ls mls)
    (K : ∀ H' locs' cells' slots' mls', PtW adr B dC dI dA x i s c0 s0 h' H' locs' cells' slots' ls' mls' → W p l en R s m args below meth c H' locs' cells' slots' Q (F0 m pc' mls' (st'.map (toV adr)))) :
    W p l en R s m args below meth c H locs cells slots Q (F0 m pc mls (st.map (toV adr))) := by
  obtain ⟨hx, hb, hml, hr, hown, hts, hlk, hin, hKv, hE, hBs, hadr, hst, hAO⟩ := id F
  obtain ⟨hw, hP, hS, hcs, hl, hn, hD⟩ := id P
  simp only [exec1] at e
  split at e
  · rename_i hlen; subst hlen
    split at e
    · rename_i k hk
      cases e
      have hz := hE.2.2.2.2.2.2.2.1 ((mC i, idx), k) (lk2_mem hk)
      exact va_ldcS (tx := frm k) (q := adr (42, k, 0)) hx hb hown hz hd (K _ _ _ _ _ P)
    · cases e
  · cases e
set_option maxHeartbeats 4000000 in
theorem sh_ldc_w {i pc len : Nat} {idx : Nat} {ls : LS3} {st : List MV} {h : Hp} {pc' : Nat} {ls' : LS3} {st' : List MV} {h' : Hp} {mls : Array Slot} (F : FrW adr B dC dI dA x i p l s m args meth c)
    (hd : decode (mB i) pc = .ok (.ldc_w idx, len)) (e : exec1 i pc len ls st h (.ldc_w idx) = some (.inl (pc', ls', st', h'))) (P : PtW adr B dC dI dA x i s c0 s0 h H locs cells slots ls mls)
    (K : ∀ H' locs' cells' slots' mls', PtW adr B dC dI dA x i s c0 s0 h' H' locs' cells' slots' ls' mls' → W p l en R s m args below meth c H' locs' cells' slots' Q (F0 m pc' mls' (st'.map (toV adr)))) :
    W p l en R s m args below meth c H locs cells slots Q (F0 m pc mls (st.map (toV adr))) := by
  obtain ⟨hx, hb, hml, hr, hown, hts, hlk, hin, hKv, hE, hBs, hadr, hst, hAO⟩ := id F
  obtain ⟨hw, hP, hS, hcs, hl, hn, hD⟩ := id P
  simp only [exec1] at e
  split at e
  · rename_i hlen; subst hlen
    split at e
    · rename_i v hv
      cases e
      have hm := lk2_mem hv
      simp only [tInt, List.mem_cons, Prod.mk.injEq, List.not_mem_nil, or_false] at hm
      rcases hm with ⟨⟨h1, rfl⟩, rfl⟩ | ⟨⟨h1, rfl⟩, rfl⟩ | ⟨⟨h1, rfl⟩, rfl⟩
      · rw [h1] at hown
        exact lv_ldcw hx hb hown (hts _ con_265) hd (K _ _ _ _ _ P)
      · rw [h1] at hown
        exact lv_ldcw hx hb hown (hts _ con_266) hd (K _ _ _ _ _ P)
      · rw [h1] at hown
        exact lv_ldcw hx hb hown (hts _ con_267) hd (K _ _ _ _ _ P)
    · cases e
  · cases e
set_option maxHeartbeats 4000000 in
theorem sh_getstatic {i pc len : Nat} {idx : Nat} {ls : LS3} {st : List MV} {h : Hp} {pc' : Nat} {ls' : LS3} {st' : List MV} {h' : Hp} {mls : Array Slot} (F : FrW adr B dC dI dA x i p l s m args meth c)
    (hd : decode (mB i) pc = .ok (.getstatic idx, len)) (e : exec1 i pc len ls st h (.getstatic idx) = some (.inl (pc', ls', st', h'))) (P : PtW adr B dC dI dA x i s c0 s0 h H locs cells slots ls mls)
    (K : ∀ H' locs' cells' slots' mls', PtW adr B dC dI dA x i s c0 s0 h' H' locs' cells' slots' ls' mls' → W p l en R s m args below meth c H' locs' cells' slots' Q (F0 m pc' mls' (st'.map (toV adr)))) :
    W p l en R s m args below meth c H locs cells slots Q (F0 m pc mls (st.map (toV adr))) := by
  obtain ⟨hx, hb, hml, hr, hown, hts, hlk, hin, hKv, hE, hBs, hadr, hst, hAO⟩ := id F
  obtain ⟨hw, hP, hS, hcs, hl, hn, hD⟩ := id P
  simp only [exec1] at e
  split at e
  · rename_i hlen; subst hlen
    have hx51 : ∀ k, gR h (51, 0, 0) k = gR x (51, 0, 0) k := (hw.2.2.2.2.1 (51, 0, 0) (Or.inr hw.2.2.2.2.2)).2.2
    split at e
    · rename_i k hk
      cases e
      rw [hx51] at K
      have hm := lk2_mem hk
      simp only [tStR, List.mem_cons, Prod.mk.injEq, List.not_mem_nil, or_false] at hm
      rcases hm with ⟨⟨h1, rfl⟩, rfl⟩ | ⟨⟨h1, rfl⟩, rfl⟩ | ⟨⟨h1, rfl⟩, rfl⟩ | ⟨⟨h1, rfl⟩, rfl⟩ | ⟨⟨h1, rfl⟩, rfl⟩
      · rw [h1] at hown
        exact va_gets hx hb (hE.2.2.2.1 4 (by decide)) hS hown (hts _ stl_10_1053) (fun _ z => z) hd (K _ _ _ _ _ P)
      · rw [h1] at hown
        exact va_gets hx hb (hE.2.2.2.1 2 (by decide)) hS hown (hts _ stl_7_94) (fun _ z => z) hd (K _ _ _ _ _ P)
      · rw [h1] at hown
        exact va_gets hx hb (hE.2.2.2.1 3 (by decide)) hS hown (hts _ stl_7_146) (fun _ z => z) hd (K _ _ _ _ _ P)
      · rw [h1] at hown
        exact va_getsN hx hb (hE.2.2.2.1 0 (by decide)) hS hown (hts _ stl_5_66) (fun _ z => z) hd (K _ _ _ _ _ P)
      · rw [h1] at hown
        exact va_getsN hx hb (hE.2.2.2.1 1 (by decide)) hS hown (hts _ stl_5_73) (fun _ z => z) hd (K _ _ _ _ _ P)
    · split at e
      · rename_i v hv
        cases e
        have hm := lk2_mem hv
        simp only [tStI, List.mem_cons, Prod.mk.injEq, List.not_mem_nil, or_false] at hm
        obtain ⟨⟨h1, rfl⟩, rfl⟩ := hm
        rw [h1] at hown
        exact va_gets hx hb hE.2.2.2.2.1 hS hown (hts _ stl_10_38) (fun _ z => z) hd (K _ _ _ _ _ P)
      · cases e
  · cases e
end StepD
