/-! THE WALK OF A FRAME, by the steps of the run -/
theorem call_at {o idx kd j n : Nat} (h : lk2 tCall o idx = some (kd, j, n)) : kd < 4 ∧ j < 278 ∧ n = tNA.getD j 0 ∧ (kd = 2 → mN j = true) ∧ (¬ kd = 1 → lk1 tHnd j = none) ∧ (kd = 0 ∨ kd = 2 → mC j < 8 ∨ mC j = 10) ∧
    (if kd = 3 then Cond.methodLinkNest (cN o) idx (mY j) "CommitteePlanner" ∈ lwX else Cond.methodLink (cN o) idx (mY j) ∈ lwX) ∧ (if kd = 1 ∨ kd = 3 then Cond.static (mY j) ∈ lwX else Cond.instanceMethod (mY j) ∈ lwX) ∧ (kd = 0 → Cond.selects (cN (mC j)) (mY j) (mY j) ∈ lwX) ∧ Cond.initialized (mY j).cls ∈ lwX := by
  have h1 := List.all_eq_true.mp ent_ok _ (lk2_mem h)
  simp only [entChk, decide_eq_true_eq] at h1
  obtain ⟨a1, a2, a3, a4, a5, a6⟩ := h1
  obtain ⟨ix, hi⟩ := all_zip callChk tCall tCallIx (by decide +kernel) call_ok _ (lk2_mem h)
  simp only [callChk, Bool.and_eq_true] at hi
  obtain ⟨⟨⟨b1, b2⟩, b3⟩, b4⟩ := hi
  refine ⟨a1, a2, a3, a4, a5, a6, ?_, ?_, ?_, inT_mem b4⟩
  · split
    · rename_i z; rw [if_pos z] at b1; exact inT_mem b1
    · rename_i z; rw [if_neg z] at b1; exact inT_mem b1
  · split
    · rename_i z; rw [if_pos z] at b2; exact inT_mem b2
    · rename_i z; rw [if_neg z] at b2; exact inT_mem b2
  · intro z
    rw [if_pos z] at b3
    exact List.mem_filter.mpr ⟨List.mem_of_getElem? (of_decide_eq_true b3), rfl⟩
theorem room_le {c0 a b R cells : Nat} (h1 : c0 ≤ a) (h2 : a ≤ b) (h3 : cells = a - c0) (h4 : b - c0 ≤ R) : cells + (b - a) ≤ R := by omega
set_option maxRecDepth 100000 in
theorem len_ok : ∀ q ∈ tCall, tNA.getD q.2.2.1 0 + (if q.2.1 = 0 ∨ q.2.1 = 2 then 1 else 0) ≤ mL q.2.2.1 := by decide +kernel
theorem nest_thr : ∀ q ∈ tCall, q.2.1 = 3 → noThr q.2.2.1 = true := by decide +kernel
theorem run_cl {n d i pc : Nat} {ls : LS3} {st : List MV} {h : Hp} {o : MO} {h' : Hp} {j : Nat} {As rest : List MV} (e : run (n + 1) d i pc ls st h = some (o, h')) (hs : stp i pc ls st h = some (.inr (.inr (j, As, rest)))) :
    ∃ d' oc hc, d = d' + 1 ∧ run n d' j 0 (ent j As) [] h = some (oc, hc) ∧ ((∃ v, oc = .inl v ∧ run n (d' + 1) i (pc + 3) ls (v.toList ++ rest) hc = some (o, h')) ∨
      (∃ k, oc = .inr k ∧ noThr j = false ∧ h' = hc ∧ ((lk1 tHnd i = none ∧ o = .inr k) ∨ ∃ l9 x, lk1 tHnd i = some l9 ∧ hnd i pc k = some x ∧ o = .inl (some (vI x))))) := by
  rw [run, hs] at e
  simp only at e
  cases d with
  | zero => cases e
  | succ d' =>
    simp only at e
    cases hc : run n d' j 0 (ent j As) [] h with
    | none => rw [hc] at e; cases e
    | some q2 =>
      rw [hc] at e
      obtain ⟨oc, h2⟩ := q2
      refine ⟨d', oc, h2, rfl, hc, ?_⟩
      rcases oc with v | k
      · exact Or.inl ⟨v, rfl, e⟩
      · right
        simp only at e
        split at e
        · cases e
        · rename_i z
          have z' : noThr j = false := by cases y : noThr j with | false => rfl | true => exact absurd y z
          split at e
          · rename_i y; cases e
            exact ⟨k, rfl, z', rfl, Or.inl ⟨y, rfl⟩⟩
          · rename_i l9 y
            split at e
            · rename_i x hx; cases e
              exact ⟨k, rfl, z', rfl, Or.inr ⟨l9, x, y, hx, rfl⟩⟩
            · cases e
section StepK
variable {adr : A3 → Nat} {B : Nat} {dC : Nat → ClassId} {dI : Nat → Nat → Nat} {dA : Nat → ClassId} {x : Hp} {c0 s0 : Nat}
variable {p : Program} {l : Launch} {en : Env} {R : Room} {s : State} {m : MethodId} {args : Array Value} {below : List Frame} {meth : Method} {c : Code} {H : Heap} {locs : List Loc} {cells slots : Nat} {Q : State → Prop}
/-- a call made in a frame -/
theorem do_call {i pc n d j : Nat} {ls : LS3} {st : List MV} {h : Hp} {mls : Array Slot} {As rest : List MV} {oc : MO} {hc : Hp} (hcon : ConW l adr B dC dI dA x n) (F : FrW adr B dC dI dA x i p l s m args meth c) (e : stp i pc ls st h = some (.inr (.inr (j, As, rest))))
    (P : PtW adr B dC dI dA x i s c0 s0 h H locs cells slots ls mls) (hr : run n d j 0 (ent j As) [] h = some (oc, hc)) (hthr : noThr j = true → ∃ v, oc = .inl v) (hRf : d + 9 ≤ R.frames) (hRl : 40 * d + 240 ≤ R.locals) (hRc : cu hc - c0 ≤ R.cells) (hRs : su hc - s0 ≤ R.slots) (hz : H.size ≤ s.heap.size + cells) :
    vx_Run p l en R s m args below meth c H locs cells slots (cu hc - cu h) (su hc - su h) (F0 m pc mls (st.map (toV adr))) (rest.map (toV adr)) (sQ adr B dC dI dA oc hc (As.map (toV adr)).toArray) (sX adr B dC dI dA oc hc) (fun q => B ≤ q) := by
  obtain ⟨hx, hb, hml, hrt, hown, hts, hlk, hin, hKv, hE, hBs, hadr, hst, hAO⟩ := id F
  obtain ⟨hw, hP, hS, ⟨a1, a2, a3, a4, a5⟩, hl, hn, hD⟩ := id P
  obtain ⟨b1, b2, b3⟩ := run_inv (x := x) _ _ _ _ _ _ _ _ _ hr
  obtain ⟨idx, kd, n9, hk, hdec, hcs, hall, hobj, hstt⟩ := call_info e
  obtain ⟨k1, k2, k3, k4, k5, k6, k7, k8, k9, k10⟩ := call_at hk
  obtain ⟨m1, m2, m3, m4, m5, m6⟩ := mth_at k2
  have hpar := par_at k2
  have hAl : As.length ≤ mL j := by
    have hlo := len_ok _ (lk2_mem hk)
    simp only at hlo
    rcases hdec with ⟨z, -⟩ | ⟨z, -⟩ | ⟨z, -⟩
    · obtain ⟨a, As', e1, -, e2, -⟩ := hobj (Or.inl z)
      rw [if_pos (Or.inl z)] at hlo
      rw [e1, List.length_cons, e2, k3]; exact hlo
    · obtain ⟨-, e2⟩ := hstt z
      rw [e2, k3]; exact Nat.le_trans (Nat.le_add_right _ _) hlo
    · obtain ⟨a, As', e1, -, e2, -⟩ := hobj (Or.inr z)
      rw [if_pos (Or.inr z)] at hlo
      rw [e1, List.length_cons, e2, k3]; exact hlo
  have hM := hcon d j As h oc hc hr hw k2 hAl hall
  have pre : ∀ U : State, U.heap = H → s.WarmedH U.vm → pcD adr B dC dI dA x h As (As.map (toV adr)).toArray U := by
    intro U hU hW
    refine ⟨rfl, by rw [hU]; exact hP, va_K.moved hW.alike hKv, Ext_moved hW (fun a ha hb9 => by rw [hU]; exact hS.2.1 a ha hb9) hE, by rw [hU]; exact Nat.le_trans hBs hS.1, fun z => by rw [hU]; exact pt_eq hadr P hBs hz z, fun k hk => va_AO.moved hW.alike (hAO k hk)⟩
  have hws : ∀ w ∈ WS j, ∀ (a' : Array Value) (U : State), s.WarmedH U.vm → w.before a' U = true := by
    intro w hw9 a' U hW
    rcases List.mem_cons.mp hw9 with rfl | hw9
    · exact xW_at hW (lwX_x (code_in k2)) (hts _ (code_in k2))
    · exact xW_at hW (lwX_x hw9) (hts _ hw9)
  have hlen : ∀ sig, parseMethodDescriptor (mY j).desc = some sig → n9 = sig.parameters.length := by
    intro sig hsig
    rw [hsig] at hpar
    rw [k3]
    exact (Option.some.inj hpar).symm
  have hrm : (rmD d (cu hc - cu h) (su hc - su h)).frames + 1 ≤ R.frames ∧ 8 + (mL j + 11) + (rmD d (cu hc - cu h) (su hc - su h)).locals ≤ R.locals := by
    constructor
    · show d + 8 + 1 ≤ R.frames; omega
    · show 8 + (mL j + 11) + (40 * d + 200) ≤ R.locals; omega
  have hsum : 2 * (F0 m pc mls (st.map (toV adr))).monitorRoom + ((rest.map (toV adr)).map fun v => v.category).sum ≤ 8 := by
    rw [toV_sum]
    show 2 * 0 + catS rest ≤ 8
    omega
  have hroom : cells + (cu hc - cu h) ≤ R.cells ∧ slots + (su hc - su h) ≤ R.slots := by
    exact ⟨room_le a1 b2 a3 hRc, room_le a2 b3 a4 hRs⟩
  have hcd0 : lk1 tHnd j = none → Cond.code (mY j) (mB j) (mL j) (mR j) ∈ lwX := by
    intro z
    have := code_in k2
    unfold codeW at this
    rw [z] at this
    exact this
  have hcdW : lk1 tHnd j = none → Cond.code (mY j) (mB j) (mL j) (mR j) ∈ WS j := fun z => List.mem_cons_of_mem _ (hcd0 z)
  have noX : noThr j = true → ∀ E st9 t, ¬ sX adr B dC dI dA oc hc E st9 t := by
    intro z E st9 t y
    obtain ⟨v, rfl⟩ := hthr z
    obtain ⟨⟨k, hk0, -⟩, -⟩ := y
    cases hk0
  have S : CallFix p m c (mB i) (mL i) s args lwX (cN (mC i)) := ⟨hx, hb, hml, hown, hts⟩
  rcases hdec with ⟨rfl, hd⟩ | ⟨hkd, hd⟩ | ⟨rfl, hd⟩
  · obtain ⟨a, As', rfl, hst0, hlA, hok, -⟩ := hobj (Or.inl rfl)
    rw [if_neg (by decide)] at k7 k8
    have hnone := k5 (by decide)
    refine vx_runV (C := cN (mC j)) (b := adr a) (As := As'.map (toV adr)) (n := n9) S hM ⟨⟨rfl, rfl, hrm.1, hrm.2, hws, hcdW hnone, hts _ (hcd0 hnone), hts _ k10, ⟨m2, m3⟩, hlen, hts _ k7⟩, hts _ k8, hts _ (k9 rfl)⟩ ⟨pcD_blind, ?_, fun U hU hW => ?_⟩ rfl (by rw [List.length_map]; exact hlA) hl.1 (by rw [hst0]; simp [toV]) hsum hd hroom
    · rcases hok with hok | hok
      · obtain ⟨k, hk9, ek, he⟩ := wsO_ex hw adr dA (a := a) (by rw [hok]; exact Nat.le_refl _) (by rw [hok]; exact Nat.le_of_ble_eq_true rfl)
        have hc8 : mC j < 8 := by
          have := (hw.2.2.1 k hk9).2.2 (by rw [ek, hok])
          rw [ek, hok] at this
          exact this
        have hce : cellE adr dA h a = .inr (mC j, fsO adr h a (mC j)) := by
          unfold cellE
          rw [hok, if_pos rfl]
        rw [hce] at he
        exact va_recv hKv hP (clsW_at hc8) he
      · have hxa := (hw.2.2.2.2.1 a (Or.inl (by rw [hok]; exact Nat.le_of_ble_eq_true rfl))).1
        rw [hok] at hxa
        obtain ⟨e1, -, -, e4⟩ := hE.2.2.1 a (mC j) hxa.symm
        obtain ⟨cell, g1, g2, g3⟩ := va_Orecv e4 hS
        exact ⟨cell, g1, g2, by rw [e1]; exact g3⟩
    · exact pre U hU hW
  · obtain ⟨hst0, hlA⟩ := hstt hkd
    rcases hkd with rfl | rfl
    · rw [if_neg (by decide)] at k7
      rw [if_pos (by decide)] at k8
      cases hh : lk1 tHnd j with
      | none => exact vx_runS (As := As.map (toV adr)) (n := n9) S hM ⟨⟨rfl, rfl, hrm.1, hrm.2, hws, hcdW hh, hts _ (hcd0 hh), hts _ k10, ⟨m2, m3⟩, hlen, hts _ k7⟩, hts _ k8⟩ ⟨pcD_blind, pre⟩ rfl (by rw [List.length_map]; exact hlA) hl.1 (by rw [hst0]; simp) hsum hd hroom
      | some l9 =>
        have hcw : Cond.codeWith (mY j) (mB j) (mL j) (mR j) l9 ∈ lwX := by
          have := code_in k2
          unfold codeW at this
          rw [hh] at this
          exact this
        exact vx_runSX (hh := l9) (As := As.map (toV adr)) (n := n9) S hM ⟨⟨rfl, rfl, hrm.1, hrm.2, hws, List.mem_cons_of_mem _ hcw⟩, hts _ hcw, hts _ k10, ⟨m2, m3⟩, hlen, hts _ k7, hts _ k8⟩ ⟨pcD_blind, pre⟩ rfl (by rw [List.length_map]; exact hlA) hl.1 (by rw [hst0]; simp) hsum hd hroom
    · rw [if_pos rfl] at k7
      rw [if_pos (by decide)] at k8
      have hnone := k5 (by decide)
      have hnt := nest_thr _ (lk2_mem hk) rfl
      exact vx_of_va (va_runSN (As := As.map (toV adr)) (n := n9) S (met_of_vx (noX hnt) hM) ⟨⟨⟨rfl, rfl, hrm.1, hrm.2, hws, hcdW hnone⟩, hts _ (hcd0 hnone), hts _ k10, ⟨m2, m3⟩, hlen, hts _ k7⟩, hts _ k8, trivial⟩ ⟨pcD_blind, pre⟩ rfl (by rw [List.length_map]; exact hlA) hl.1 (by rw [hst0]; simp) hsum hd hroom)
  · obtain ⟨a, As', rfl, hst0, hlA, hok, -⟩ := hobj (Or.inr rfl)
    rw [if_neg (by decide)] at k7 k8
    have hnone := k5 (by decide)
    have hmn := k4 rfl
    obtain ⟨hy1, hmr⟩ := m6 hmn
    have hnt : noThr j = true := by unfold noThr; rw [hmn]; rfl
    have hcd := hcd0 hnone
    have hcd2 := hcdW hnone
    rw [hmr] at hcd hcd2
    exact vx_of_va (va_runI (b := adr a) (As := As'.map (toV adr)) (n := n9) S (met_of_vx (noX hnt) hM) ⟨⟨rfl, rfl, hrm.1, hrm.2, hws, hcd2, hts _ hcd, hts _ k10, ⟨m2, m3⟩, hlen, hts _ k7⟩, hy1, hts _ k8⟩ ⟨pcD_blind, pre⟩ rfl (by rw [List.length_map]; exact hlA) hl.1 (by rw [hst0]; simp [toV]) hsum hd hroom)
end StepK
