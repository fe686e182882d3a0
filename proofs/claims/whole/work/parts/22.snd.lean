/-! THE WHOLE: what the mini machine runs to, the machine comes to -/
section StepI
variable {adr : A3 → Nat} {B : Nat} {dC : Nat → ClassId} {dI : Nat → Nat → Nat} {dA : Nat → ClassId} {x : Hp} {c0 s0 : Nat}
variable {p : Program} {l : Launch} {en : Env} {R : Room} {s : State} {m : MethodId} {args : Array Value} {below : List Frame} {meth : Method} {c : Code} {H : Heap} {locs : List Loc} {cells slots : Nat} {Q : State → Prop}
/-- one step of a frame -/
theorem st_step {i pc : Nat} {ls : LS3} {st : List MV} {h : Hp} {pc' : Nat} {ls' : LS3} {st' : List MV} {h' : Hp} {mls : Array Slot} (F : FrW adr B dC dI dA x i p l s m args meth c)
    (e : stp i pc ls st h = some (.inl (pc', ls', st', h'))) (P : PtW adr B dC dI dA x i s c0 s0 h H locs cells slots ls mls) (hRf : 8 ≤ R.frames) (hRl : 200 ≤ R.locals) (hRc : cu h' - c0 ≤ R.cells) (hRs : su h' - s0 ≤ R.slots)
    (K : ∀ H' locs' cells' slots' mls', PtW adr B dC dI dA x i s c0 s0 h' H' locs' cells' slots' ls' mls' → W p l en R s m args below meth c H' locs' cells' slots' Q (F0 m pc' mls' (st'.map (toV adr)))) :
    W p l en R s m args below meth c H locs cells slots Q (F0 m pc mls (st.map (toV adr))) := by
  unfold stp at e
  split at e
  · rename_i ins len hd
    by_cases hp : pureI ins = true
    · obtain ⟨hw, hP, hS, hcs, hl, hn, hD⟩ := id P
      refine st_pure hp F.1 F.2.1 hd e hl hn hD fun hh mls' hl' hn' hD' => ?_
      subst hh
      exact K _ _ _ _ _ ⟨hw, hP, hS, hcs, hl', hn', hD'⟩
    · have hp' : pureI ins = false := by cases z : pureI ins with | false => rfl | true => exact absurd z hp
      by_cases h1 : ∃ idx, ins = .new idx
      · obtain ⟨idx, rfl⟩ := h1
        exact sh_new F hd e P hRc hRs K
      by_cases h2 : ∃ t, ins = .newarray t
      · obtain ⟨t, rfl⟩ := h2
        exact sh_newarray F hd e P hRc hRs K
      by_cases h3 : ∃ idx, ins = .anewarray idx
      · obtain ⟨t, rfl⟩ := h3
        exact sh_anewarray F hd e P hRc hRs K
      by_cases h4 : ∃ idx, ins = .invokestatic idx
      · obtain ⟨idx, rfl⟩ := h4
        simp only [exec1] at e
        split at e
        · rename_i hlen; subst hlen
          split at e
          · exact sh_prim (b := false) F hd e P hRc hRs hRf hRl K
          · unfold xCall at e
            repeat' split at e
            all_goals (cases e; done)
        · cases e
      by_cases h5 : ∃ idx, ins = .invokespecial idx
      · obtain ⟨idx, rfl⟩ := h5
        simp only [exec1] at e
        split at e
        · rename_i hlen; subst hlen
          split at e
          · exact sh_prim (b := true) F hd e P hRc hRs hRf hRl K
          · unfold xCall at e
            repeat' split at e
            all_goals (cases e; done)
        · cases e
      exact st_heap F hp' hd e P (fun t z => h1 ⟨t, z⟩) (fun t z => h2 ⟨t, z⟩) (fun t z => h3 ⟨t, z⟩) (fun t z => h4 ⟨t, z⟩) (fun t z => h5 ⟨t, z⟩) K
  · cases e
end StepI
/-- the contract of a method, for one run of the mini machine -/
def ConW (l : Launch) (adr : A3 → Nat) (B : Nat) (dC : Nat → ClassId) (dI : Nat → Nat → Nat) (dA : Nat → ClassId) (x : Hp) (n : Nat) : Prop := ∀ (d j : Nat) (As : List MV) (h : Hp) (o : MO) (h' : Hp), run n d j 0 (ent j As) [] h = some (o, h') → WR x h → j < 278 → As.length ≤ mL j → As.all cat1 = true →
  vx_Met l (mY j) (WS j) (rmD d (cu h' - cu h) (su h' - su h)) (pcD adr B dC dI dA x h As) (sQ adr B dC dI dA o h') (sX adr B dC dI dA o h') (cu h' - cu h) (su h' - su h) (fun q => B ≤ q)
/-- the walk of a frame, for one run -/
def SwW (l : Launch) (adr : A3 → Nat) (B : Nat) (dC : Nat → ClassId) (dI : Nat → Nat → Nat) (dA : Nat → ClassId) (x : Hp) (n : Nat) : Prop := ∀ (d i pc : Nat) (ls : LS3) (st : List MV) (h : Hp) (o : MO) (h' : Hp), run n d i pc ls st h = some (o, h') →
  ∀ {p : Program} {en : Env} {R : Room} {s : State} {m : MethodId} {args : Array Value} {below : List Frame} {meth : Method} {c : Code} {H : Heap} {locs : List Loc} {cells slots : Nat} {Q : State → Prop} {mls : Array Slot} {c0 s0 : Nat},
  FrW adr B dC dI dA x i p l s m args meth c → PtW adr B dC dI dA x i s c0 s0 h H locs cells slots ls mls → d + 8 ≤ R.frames → 40 * d + 200 ≤ R.locals → cu h' - c0 ≤ R.cells → su h' - s0 ≤ R.slots →
  (∀ (pc1 : Nat) (ls1 : LS3) (st1 : List MV) (h1 : Hp) (H1 : Heap) (locs1 : List Loc) (cells1 slots1 : Nat) (mls1 : Array Slot), stp i pc1 ls1 st1 h1 = some (.inr (.inl (o, h'))) → PtW adr B dC dI dA x i s c0 s0 h1 H1 locs1 cells1 slots1 ls1 mls1 → W p l en R s m args below meth c H1 locs1 cells1 slots1 Q (F0 m pc1 mls1 (st1.map (toV adr)))) →
  (∀ (k pc1 : Nat) (H1 : Heap) (locs1 : List Loc) (cells1 slots1 : Nat) (rest : List Value) (mls1 : Array Slot) (ce : Cell) (q9 : Addr), o = .inr k → k < 6 → lk1 tHnd i = none → va_P (dC, dI) clsW (wsO adr dA h') H1 → va_S (fun q => B ≤ q) s.heap H1 locs1 → cells1 = cu h' - c0 → slots1 = su h' - s0 → H1[q9]? = some ce → ce.vm = .none → s.vm.findClass (exN k) = some ce.cls → vx_W p l en R s m args below meth c H1 locs1 cells1 slots1 Q (F0 m pc1 mls1 rest) q9) →
  (∀ (k pc1 : Nat) (v : Int32) (H1 : Heap) (locs1 : List Loc) (cells1 slots1 : Nat) (rest : List Value) (ls1 : LS3) (mls1 : Array Slot) (ce : Cell) (q9 : Addr) (l9 : List (Nat × Nat × Nat × Nat)), o = .inl (some (vI v)) → k < 6 → lk1 tHnd i = some l9 → hnd i pc1 k = some v → lv_has mls1 (mL i) (lsL adr 0 ls1) → va_P (dC, dI) clsW (wsO adr dA h') H1 → va_S (fun q => B ≤ q) s.heap H1 locs1 → cells1 = cu h' - c0 → slots1 = su h' - s0 → H1[q9]? = some ce → ce.vm = .none → s.vm.findClass (exN k) = some ce.cls → vx_W p l en R s m args below meth c H1 locs1 cells1 slots1 Q (F0 m pc1 mls1 rest) q9) →
  W p l en R s m args below meth c H locs cells slots Q (F0 m pc mls (st.map (toV adr)))
section StepJ
variable {adr : A3 → Nat} {B : Nat} {dC : Nat → ClassId} {dI : Nat → Nat → Nat} {dA : Nat → ClassId} {x : Hp} {l : Launch}
theorem mth_at {j : Nat} (hj : j < 278) : (mY j).cls = cN (mC j) ∧ (mY j).cls ≠ "java/lang/invoke/MethodHandle" ∧ (mY j).cls ≠ "java/lang/invoke/VarHandle" ∧ plainName (mY j).cls = true ∧ mL j ≤ 21 ∧ (mN j = true → (mY j).name = "<init>" ∧ mR j = none) := by
  have h := List.all_eq_true.mp mth_ok j (List.mem_range.mpr hj)
  simpa only [mthChk, decide_eq_true_eq] using h
theorem par_at {j : Nat} (hj : j < 278) : (parseMethodDescriptor (mY j).desc).map (fun d => d.parameters.length) = some (tNA.getD j 0) := by
  have h := List.all_eq_true.mp par_ok j (List.mem_range.mpr hj)
  simpa only [parChk, decide_eq_true_eq] using h
theorem con_of_sw (hadr : ∀ k, k < 393 → adr (nm k) = B + k) (hst : l.stackTraces = false) {n : Nat} (hsw : SwW l adr B dC dI dA x n) : ConW l adr B dC dI dA x n := by
  intro d j As h o h' e hw hj hlen hall
  obtain ⟨m1, m2, m3, m4, m5, m6⟩ := mth_at hj
  have hinv := run_inv (x := x) n d j 0 (ent j As) [] h o h' e
  have body : ∀ (p : Program) (en : Env) (s : State) (m : MethodId) (args : Array Value) (below : List Frame) (meth : Method) (c : Code) (s₁ : State), BodyLoose p l (mY j) (headSpec (WS j) (rmD d (cu h' - cu h) (su h' - su h))) (mB j) (mL j) (mR j) en s m args below meth c s₁ → c.maxLocals = mL j → TabW j c → pcD adr B dC dI dA x h As args s →
      W p l en (headSpec (WS j) (rmD d (cu h' - cu h) (su h' - su h))).room s m args below meth c s.heap [] 0 0 (vx_MQ below (sQ adr B dC dI dA o h') (sX adr B dC dI dA o h') args s (cu h' - cu h) (su h' - su h) (fun q => B ≤ q)) (entryFrame m args (mL j)) := by
    intro p en s m args below meth c s₁ Bd hml hT hv
    obtain ⟨rfl, hP, hK, hE, hBs, hsz, hAO⟩ := hv
    have hts0 := atoms_spec (ws := WS j) Bd.pre
    have hts : ∀ w ∈ lwX, w.before (As.map (toV adr)).toArray s = true := fun w hw9 => hts0 w (List.mem_cons_of_mem _ hw9)
    have hown : s.vm.findClass (cN (mC j)) = some m.cls := by rw [← m1]; exact findClass_of_methodNamed Bd.named
    have F : FrW adr B dC dI dA x j p l s m (As.map (toV adr)).toArray meth c := ⟨Bd.exec, Bd.bytes, hml, Bd.returns, hown, hts, Bd.notSynchronized, fun z => ((name_of_methodNamed Bd.named Bd.method).1).trans (m6 z).1, hK, hE, hBs, hadr, hst, hAO⟩
    have hl := lv_entry (As.map (toV adr)) (n := mL j) (by rw [sl_len As hall]; exact hlen)
    rw [lg_entry_eq]
    generalize (lg_sl (As.map (toV adr)) ++ List.replicate (mL j - (lg_sl (As.map (toV adr))).length) Slot.unset).toArray = mls at hl ⊢
    have hl' : lv_has mls (mL j) (lsL adr 0 (ent j As)) := by
      unfold ent
      rw [ent_lsL As 0 _ hall]
      exact hl
    have hlen9 : (ent j As).length = mL j := by unfold ent; simp; omega
    have hDI : DI j (ent j As) := by
      intro k v hk
      left
      unfold ent at hk
      by_cases hka : k < As.length
      · rw [List.getElem?_append_left (by simpa using hka), List.getElem?_map] at hk
        cases hz : As[k]? with
        | none => rw [hz] at hk; cases hk
        | some w =>
          rw [hz] at hk
          cases hk
          exact List.all_eq_true.mp hall _ (List.mem_of_getElem? hz)
      · rw [List.getElem?_append_right (by simpa using hka)] at hk
        have := List.mem_of_getElem? hk
        rw [List.mem_replicate] at this
        cases this.2
    have P : PtW adr B dC dI dA x j s (cu h) (su h) h s.heap [] 0 0 (ent j As) mls := ⟨hw, hP, va_S.rf, ⟨Nat.le_refl _, Nat.le_refl _, by omega, by omega, fun z => by rw [hsz z, z]⟩, hl', hlen9, hDI⟩
    refine hsw d j 0 (ent j As) [] h o h' e F P (Nat.le_refl _) (Nat.le_refl _) (Nat.le_refl _) (Nat.le_refl _) (fun pc1 ls1 st1 h1 H1 locs1 cells1 slots1 mls1 es P1 => ?_) (fun k pc1 H1 locs1 cells1 slots1 rest mls1 ce q9 ho hk hi g1 g2 g3 g4 g5 g6 g7 => ?_) (fun k pc1 v H1 locs1 cells1 slots1 rest ls1 mls1 ce q9 l9 ho hk hi hh g0 g1 g2 g3 g4 g5 g6 g7 => ?_)
    · cases o with
      | inl v => exact end_ret F es P1 rfl rfl
      | inr k => exact end_throw F hT es P1 rfl rfl (by show 8 ≤ d + 8; omega) (by show 200 ≤ 40 * d + 200; omega) (Nat.le_refl _) (Nat.le_refl _)
    · subst ho
      exact end_out F hT hi hk g1 g2 (Nat.le_of_eq g3) (Nat.le_of_eq g4) g5 g6 g7
    · subst ho
      exact end_catch (d := 0) F hT hi hk hh g0 g1 g2 g3 g4 g5 g6 g7
  cases hh : lk1 tHnd j with
  | none =>
    refine vx_ofW (cc := mB j) (maxL := mL j) (ret := mR j) m4 (ws' := lwX) (by unfold WS codeW; rw [hh]) ?_
    intro p en s m args below meth c s₁ Bd hml ht hv
    exact body p en s m args below meth c s₁ Bd hml ⟨fun _ => ht, fun l9 hl9 => by rw [hh] at hl9; cases hl9⟩ hv
  | some l9 =>
    refine vx_ofWH (cc := mB j) (maxL := mL j) (ret := mR j) (hh := l9) m4 (ws' := lwX) (by unfold WS codeW; rw [hh]) ?_
    intro p en s m args below meth c s₁ Bd hml hv
    have hcw : (Cond.codeWith (mY j) (mB j) (mL j) (mR j) l9).before args s = true := by
      have z := atoms_spec (ws := WS j) Bd.pre (codeW j) List.mem_cons_self
      unfold codeW at z
      rw [hh] at z
      exact z
    exact body p en s m args below meth c s₁ Bd hml ⟨fun z => (by rw [hh] at z; cases z), fun l8 hl8 => (by rw [hh] at hl8; cases hl8; exact vx_table (x := mY j) Bd hcw)⟩ hv
end StepJ
