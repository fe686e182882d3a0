/-! STEPS THAT MAKE CELLS, and the JDK's own members -/
def zeroV (c k : Nat) : Value := match lk2 tFty c k with
  | some (2, _) => .null
  | _ => .int 0
theorem defv_ok : ∀ c, c < 8 → ∀ j, j < NW c → defaultValue (tyW c j) = zeroV c j := by decide +kernel
theorem mkI_self {h : Hp} {a : A3} {q : Nat × Nat} {n : Nat} : gI (mk h a q n) a = fun _ => 0 := by
  funext j; show fup h.2.1 a _ a j = _; simp [fup]
theorem mkL_self {h : Hp} {a : A3} {q : Nat × Nat} {n : Nat} : gL (mk h a q n) a = fun _ => 0 := by
  funext j; show fup h.2.2.1 a _ a j = _; simp [fup]
theorem mkR_self {h : Hp} {a : A3} {q : Nat × Nat} {n : Nat} : gR (mk h a q n) a = fun _ => none := by
  funext j; show fup h.2.2.2.1 a _ a j = _; simp [fup]
theorem mkD_self {h : Hp} {a : A3} {q : Nat × Nat} {n : Nat} : gD (mk h a q n) a = fun _ => 0 := by
  funext j; show fup h.2.2.2.2.1 a _ a j = _; simp [fup]
theorem new_ok_at {o cp c : Nat} (h : lk2 tNew o cp = some c) : Cond.classLink (cN o) cp (cN c) ∈ lwX ∧ Cond.instantiable (cN c) (NW c) ∈ lwX ∧ Cond.initialized (cN c) ∈ lwX ∧ c < 8 := by
  obtain ⟨ix, hi⟩ := all_zip (fun (q : (Nat × Nat) × Nat) (i : Nat × Nat × Nat) => inT i.1 (.classLink (cN q.1.1) q.1.2 (cN q.2)) && inT i.2.1 (.instantiable (cN q.2) (NW q.2)) && inT i.2.2 (.initialized (cN q.2)) && decide (q.2 < 8)) tNew tNewIx (by decide +kernel) new_ok _ (lk2_mem h)
  simp only [Bool.and_eq_true, decide_eq_true_eq] at hi
  exact ⟨inT_mem hi.1.1.1, inT_mem hi.1.1.2, inT_mem hi.1.2, hi.2⟩
theorem anew_ok_at {o cp k : Nat} (h : lk2 tANew o cp = some k) : Cond.classLink (cN o) cp (arrN k) ∈ lwX ∧ (k = 6 ∨ k = 7 ∨ k = 8) := by
  obtain ⟨ix, hi⟩ := all_zip (fun (q : (Nat × Nat) × Nat) (i : Nat) => inT i (.classLink (cN q.1.1) q.1.2 (arrN q.2)) && decide (q.2 = 6 ∨ q.2 = 7 ∨ q.2 = 8)) tANew tANewIx (by decide +kernel) anew_ok _ (lk2_mem h)
  simp only [Bool.and_eq_true, decide_eq_true_eq] at hi
  exact ⟨inT_mem hi.1, hi.2⟩
theorem prim_ok_at {o cp k : Nat} (h : lk2 tPrim o cp = some k) : Cond.methodLink (cN o) cp (primN k) ∈ lwX := by
  obtain ⟨ix, hi⟩ := all_zip (fun (q : (Nat × Nat) × Nat) (i : Nat) => inT i (.methodLink (cN q.1.1) q.1.2 (primN q.2)) && decide (q.2 < 4)) tPrim tPrimIx (by decide +kernel) prim_ok _ (lk2_mem h)
  simp only [Bool.and_eq_true, decide_eq_true_eq] at hi
  exact inT_mem hi.1
theorem cpy_words : nativeFrameWords "java/lang/System" "arraycopy" 5 + 11 ≤ 100 := by decide +kernel
section StepF
variable {adr : A3 → Nat} {B : Nat} {dC : Nat → ClassId} {dI : Nat → Nat → Nat} {dA : Nat → ClassId} {x : Hp} {c0 s0 : Nat}
variable {p : Program} {l : Launch} {en : Env} {R : Room} {s : State} {m : MethodId} {args : Array Value} {below : List Frame} {meth : Method} {c : Code} {H : Heap} {locs : List Loc} {cells slots : Nat} {Q : State → Prop}
theorem new_addr {h : Hp} {q : Nat} {ev : va_E} {H1 : Heap} (w : WR x h) (hadr : ∀ k, k < 393 → adr (nm k) = B + k) (hlt : cnt h < 393) (hP1 : va_P (dC, dI) clsW (wsO adr dA h ++ [(q, ev)]) H1) (hD1 : va_D (fun q => B ≤ q) (wsO adr dA h ++ [(q, ev)])) (hz : H1.size ≤ B + cnt h + 1) : q = adr (nm (cnt h)) := by
  have hl : (wsO adr dA h).length = cnt h := by simp [wsO]
  have hq : (wsO adr dA h ++ [(q, ev)])[cnt h]? = some (q, ev) := by
    rw [List.getElem?_append_right (by omega), hl]; simp
  have h1 := vx_lt hP1 hq
  have h2 : B ≤ q := hD1.2 _ _ hq
  rw [hadr _ hlt]
  by_cases e : q = B + cnt h
  · exact e
  · exfalso
    have hk : q - B < cnt h := by
      have h1' : q < H1.size := h1
      omega
    have hg : (wsO adr dA h ++ [(q, ev)])[q - B]? = some (adr (nm (q - B)), cellE adr dA h (nm (q - B))) := by
      rw [List.getElem?_append_left (by omega), wsO_at hk]
    have h3 := hD1.1 _ _ _ _ hq hg (by show q = adr (nm (q - B)); rw [hadr _ (by omega)]; omega)
    omega
/-- behind a new cell the point is the mini machine's -/
theorem pt_mk {i : Nat} {h : Hp} {q : Nat × Nat} {n : Nat} {H1 : Heap} {ls : LS3} {mls : Array Slot} (P : PtW adr B dC dI dA x i s c0 s0 h H locs cells slots ls mls) (hq : 1 ≤ q.1 ∧ q.1 ≤ 8 ∧ (q.1 = 1 → q.2 < 8)) (hf : cu h = cnt h) (hlt : cnt h < 393) (hz : gS h (nm (cnt h)) = (0, 0))
    (hP1 : va_P (dC, dI) clsW (wsO adr dA h ++ [(adr (nm (cnt h)), cellE adr dA (mk h (nm (cnt h)) q n) (nm (cnt h)))]) H1) (hS1 : va_S (fun q => B ≤ q) s.heap H1 locs) : PtW adr B dC dI dA x i s c0 s0 (mk h (nm (cnt h)) q n) H1 locs (cells + 1) (slots + n) ls mls := by
  obtain ⟨w, -, -, ⟨a1, a2, a3, a4, a5⟩, hl, hn, hD⟩ := P
  refine ⟨WR_Mk w ⟨q, n, rfl, hq.1, hq.2.1, hq.2.2, hf, hlt, hz⟩, by rw [wsO_push w hlt hz]; exact hP1, hS1, ⟨?_, ?_, ?_, ?_, ?_⟩, hl, hn, hD⟩
  · show c0 ≤ cu h + 1; omega
  · show s0 ≤ su h + n; omega
  · show cells + 1 = cu h + 1 - c0; omega
  · show slots + n = su h + n - s0; omega
  · intro _; exact a5 hf
theorem pt_size {i : Nat} {h : Hp} {ls : LS3} {mls : Array Slot} (P : PtW adr B dC dI dA x i s c0 s0 h H locs cells slots ls mls) (hf : cu h = cnt h) {z : Nat} (hz : z ≤ s.heap.size + (cells + 1)) : z ≤ B + cnt h + 1 := by
  obtain ⟨w, -, -, ⟨a1, a2, a3, a4, a5⟩, hl, hn, hD⟩ := P
  have := a5 hf
  omega
theorem sh_new {i pc len idx : Nat} {ls : LS3} {st : List MV} {h : Hp} {pc' : Nat} {ls' : LS3} {st' : List MV} {h' : Hp} {mls : Array Slot} (F : FrW adr B dC dI dA x i p l s m args meth c)
    (hd : decode (mB i) pc = .ok (.new idx, len)) (e : exec1 i pc len ls st h (.new idx) = some (.inl (pc', ls', st', h'))) (P : PtW adr B dC dI dA x i s c0 s0 h H locs cells slots ls mls)
    (hRc : cu h' - c0 ≤ R.cells) (hRs : su h' - s0 ≤ R.slots)
    (K : ∀ H' locs' cells' slots' mls', PtW adr B dC dI dA x i s c0 s0 h' H' locs' cells' slots' ls' mls' → W p l en R s m args below meth c H' locs' cells' slots' Q (F0 m pc' mls' (st'.map (toV adr)))) :
    W p l en R s m args below meth c H locs cells slots Q (F0 m pc mls (st.map (toV adr))) := by
  obtain ⟨hx, hb, hml, hr, hown, hts, hlk, hin, hKv, hE, hBs, hadr, hst, hAO⟩ := id F
  obtain ⟨hw, hP, hS, ⟨a1, a2, a3, a4, a5⟩, hl, hn, hD⟩ := id P
  simp only [exec1, xNew] at e
  split at e
  · rename_i hlen; subst hlen
    split at e
    · rename_i cc hcc
      split at e
      · rename_i q
        obtain ⟨q1, q2, q3⟩ := q
        cases e
        obtain ⟨n1, n2, n3, n4⟩ := new_ok_at hcc
        have eN : tNF.getD cc 0 = NW cc := by
          rcases (show cc = 0 ∨ cc = 1 ∨ cc = 2 ∨ cc = 3 ∨ cc = 4 ∨ cc = 5 ∨ cc = 6 ∨ cc = 7 by omega) with rfl | rfl | rfl | rfl | rfl | rfl | rfl | rfl <;> rfl
        rw [eN] at K hRs
        have b1 : cells + 1 ≤ R.cells := by have z : cu h + 1 - c0 ≤ R.cells := hRc; omega
        have b2 : slots + NW cc ≤ R.slots := by have z : su h + NW cc - s0 ≤ R.slots := hRs; omega
        refine va_new (fs := fsO adr (mk h (nm (cnt h)) (1, cc) (NW cc)) (nm (cnt h)) cc) hx hb hts (lay_in n4) (tyW cc) (tyW_ok n4) hown (hts _ n1) (hts _ n2) (hts _ n3) hKv hP (wsO_D hw hadr) hS (fun q z => Nat.le_trans hBs z) (clsW_at n4) (fun j hj => ?_) b1 b2 hd fun q H1 hP1 hD1 hS1 => W.assume fun hsz => ?_
        · rw [defv_ok cc n4 j hj]
          unfold vp_V fsO zeroV
          rw [List.getD_eq_getElem?_getD, List.getElem?_map, List.getElem?_range hj]
          show _ = toV adr (fval _ _ cc j)
          unfold fval
          rw [mkI_self, mkR_self]
          split
          · rename_i q9 hq9; rw [hq9]; rfl
          · rename_i q9 hq9
            split
            · rename_i q8 hq8; exact absurd hq8 (hq9 _)
            · rfl
        · have eq := new_addr hw hadr q2 hP1 hD1 (pt_size P q1 hsz)
          subst eq
          have K1 := K H1 locs (cells + 1) (slots + NW cc) mls (pt_mk P ⟨Nat.le_refl 1, by show (1 : Nat) ≤ 8; decide, fun _ => n4⟩ q1 q2 q3 (by rw [cell_obj (c := cc) (by rw [mk_S, if_pos rfl])]; exact hP1) hS1)
          exact K1
      · cases e
    · repeat' split at e
      all_goals (cases e; done)
  · cases e
theorem sh_newA {i pc ln k : Nat} {ls : LS3} {st : List MV} {h : Hp} {pc' : Nat} {ls' : LS3} {st' : List MV} {h' : Hp} {mls : Array Slot} (F : FrW adr B dC dI dA x i p l s m args meth c)
    (e : xNewA pc ln k ls st h = some (.inl (pc', ls', st', h'))) (P : PtW adr B dC dI dA x i s c0 s0 h H locs cells slots ls mls) (hk : 2 ≤ k ∧ k ≤ 8)
    (hRc : cu h' - c0 ≤ R.cells) (hRs : su h' - s0 ≤ R.slots)
    (K : ∀ H' locs' cells' slots' mls', PtW adr B dC dI dA x i s c0 s0 h' H' locs' cells' slots' ls' mls' → W p l en R s m args below meth c H' locs' cells' slots' Q (F0 m pc' mls' (st'.map (toV adr))))
    (row : ∀ (n : Int32) (r : List MV), 0 ≤ n → n.toNatClampNeg ≤ 100000 → cells + 1 ≤ R.cells → slots + n.toNatClampNeg ≤ R.slots →
      (∀ (q : Nat) (cA : ClassId) (H1 : Heap), cA = dA k → va_P (dC, dI) clsW (wsO adr dA h ++ [(q, cellE adr dA (mk h (nm (cnt h)) (k, n.toNatClampNeg) n.toNatClampNeg) (nm (cnt h)))]) H1 → va_D (fun q => B ≤ q) (wsO adr dA h ++ [(q, cellE adr dA (mk h (nm (cnt h)) (k, n.toNatClampNeg) n.toNatClampNeg) (nm (cnt h)))]) → va_S (fun q => B ≤ q) s.heap H1 locs → W p l en R s m args below meth c H1 locs (cells + 1) (slots + n.toNatClampNeg) Q (F0 m (pc + ln) mls (.ref q :: r.map (toV adr)))) →
      W p l en R s m args below meth c H locs cells slots Q (F0 m pc mls (.int n :: r.map (toV adr)))) :
    W p l en R s m args below meth c H locs cells slots Q (F0 m pc mls (st.map (toV adr))) := by
  obtain ⟨hx, hb, hml, hr, hown, hts, hlk, hin, hKv, hE, hBs, hadr, hst, hAO⟩ := id F
  obtain ⟨hw, hP, hS, ⟨a1, a2, a3, a4, a5⟩, hl, hn, hD⟩ := id P
  unfold xNewA at e
  split at e
  · rename_i n r
    split at e
    · rename_i q
      obtain ⟨q1, q2, q3, q4, q5⟩ := q
      cases e
      have b1 : cells + 1 ≤ R.cells := by have z : cu h + 1 - c0 ≤ R.cells := hRc; omega
      have b2 : slots + n.toNatClampNeg ≤ R.slots := by have z : su h + n.toNatClampNeg - s0 ≤ R.slots := hRs; omega
      refine row n r q1 q2 b1 b2 fun q cA H1 hcA hP1 hD1 hS1 => W.assume fun hsz => ?_
      have eq := new_addr hw hadr q4 hP1 hD1 (pt_size P q3 hsz)
      subst eq
      exact K H1 locs (cells + 1) (slots + n.toNatClampNeg) mls (pt_mk P ⟨by show 1 ≤ k; omega, hk.2, fun z => absurd z (by show ¬ k = 1; omega)⟩ q3 q4 q5 hP1 hS1)
    · cases e
  · cases e
theorem ra_eq {ty : FieldType} {a b : ClassId} (h1 : va_RA s a ty) (h2 : va_RA s b ty) : a = b := by
  cases ty with
  | object C =>
    obtain ⟨_, _, _, _, _, q1⟩ := h1
    obtain ⟨_, _, _, _, _, q2⟩ := h2
    exact Option.some.inj (q1.symm.trans q2)
  | _ => exact Option.some.inj (h1.symm.trans h2)
theorem nneg {n : Int32} (h : 0 ≤ n) : ¬ n < 0 := by
  rw [Int32.le_iff_toInt_le] at h
  rw [Int32.lt_iff_toInt_lt]
  omega
theorem sh_newarray {i pc len : Nat} {t : ArrayType} {ls : LS3} {st : List MV} {h : Hp} {pc' : Nat} {ls' : LS3} {st' : List MV} {h' : Hp} {mls : Array Slot} (F : FrW adr B dC dI dA x i p l s m args meth c)
    (hd : decode (mB i) pc = .ok (.newarray t, len)) (e : exec1 i pc len ls st h (.newarray t) = some (.inl (pc', ls', st', h'))) (P : PtW adr B dC dI dA x i s c0 s0 h H locs cells slots ls mls)
    (hRc : cu h' - c0 ≤ R.cells) (hRs : su h' - s0 ≤ R.slots)
    (K : ∀ H' locs' cells' slots' mls', PtW adr B dC dI dA x i s c0 s0 h' H' locs' cells' slots' ls' mls' → W p l en R s m args below meth c H' locs' cells' slots' Q (F0 m pc' mls' (st'.map (toV adr)))) :
    W p l en R s m args below meth c H locs cells slots Q (F0 m pc mls (st.map (toV adr))) := by
  obtain ⟨hx, hb, hml, hr, hown, hts, hlk, hin, hKv, hE, hBs, hadr, hst, hAO⟩ := id F
  obtain ⟨hw, hP, hS, ⟨a1, a2, a3, a4, a5⟩, hl, hn, hD⟩ := id P
  simp only [exec1] at e
  split at e
  · rename_i hlen; subst hlen
    cases t <;> try (cases e; done)
    case int =>
      refine sh_newA F e P (by decide) hRc hRs K fun n r q1 q2 b1 b2 kk => ?_
      refine va_newa (atype := .int) (ty := .int) (a0 := (n.toNatClampNeg, .inl (fun _ => 0))) hx hb (hts _ arc_2) rfl hKv hP (wsO_D hw hadr) hS (fun q z => Nat.le_trans hBs z) (fun _ => rfl) (nneg q1) rfl (by show n.toNatClampNeg * 4 ≤ 536870912; omega) b1 b2 hd fun q cA H1 hK1 hP1 hD1 hS1 => ?_
      have hcA : cA = dA 2 := ra_eq (hK1.2 7 _ rfl).2 (hKv.2 0 _ rfl).2
      have ec : cellE adr dA (mk h (nm (cnt h)) (2, n.toNatClampNeg) n.toNatClampNeg) (nm (cnt h)) = .inl (cA, n.toNatClampNeg, .inl (fun _ => 0)) := by
        rw [cell_arr (k := 2) (n := n.toNatClampNeg) (by rw [mk_S, if_pos rfl]) (by decide), hcA]
        show (Sum.inl (dA 2, n.toNatClampNeg, .inl (gI (mk h (nm (cnt h)) (2, n.toNatClampNeg) n.toNatClampNeg) (nm (cnt h)))) : va_E) = _
        rw [mkI_self]
      exact kk q cA H1 hcA (by rw [ec]; exact hP1) (by rw [ec]; exact hD1) hS1
    case char =>
      refine sh_newA F e P (by decide) hRc hRs K fun n r q1 q2 b1 b2 kk => ?_
      refine va_newa (atype := .char) (ty := .char) (a0 := (n.toNatClampNeg, .inl (fun _ => 0))) hx hb (hts _ arc_3) rfl hKv hP (wsO_D hw hadr) hS (fun q z => Nat.le_trans hBs z) (fun _ => rfl) (nneg q1) rfl (by show n.toNatClampNeg * 2 ≤ 536870912; omega) b1 b2 hd fun q cA H1 hK1 hP1 hD1 hS1 => ?_
      have hcA : cA = dA 3 := ra_eq (hK1.2 7 _ rfl).2 (hKv.2 1 _ rfl).2
      have ec : cellE adr dA (mk h (nm (cnt h)) (3, n.toNatClampNeg) n.toNatClampNeg) (nm (cnt h)) = .inl (cA, n.toNatClampNeg, .inl (fun _ => 0)) := by
        rw [cell_arr (k := 3) (n := n.toNatClampNeg) (by rw [mk_S, if_pos rfl]) (by decide), hcA]
        show (Sum.inl (dA 3, n.toNatClampNeg, .inl (gI (mk h (nm (cnt h)) (3, n.toNatClampNeg) n.toNatClampNeg) (nm (cnt h)))) : va_E) = _
        rw [mkI_self]
      exact kk q cA H1 hcA (by rw [ec]; exact hP1) (by rw [ec]; exact hD1) hS1
    case long =>
      refine sh_newA F e P (by decide) hRc hRs K fun n r q1 q2 b1 b2 kk => ?_
      refine va_newa (atype := .long) (ty := .long) (a0 := (n.toNatClampNeg, .inr (.inl (fun _ => 0)))) hx hb (hts _ arc_4) rfl hKv hP (wsO_D hw hadr) hS (fun q z => Nat.le_trans hBs z) (fun _ => rfl) (nneg q1) rfl (by show n.toNatClampNeg * 8 ≤ 536870912; omega) b1 b2 hd fun q cA H1 hK1 hP1 hD1 hS1 => ?_
      have hcA : cA = dA 4 := ra_eq (hK1.2 7 _ rfl).2 (hKv.2 2 _ rfl).2
      have ec : cellE adr dA (mk h (nm (cnt h)) (4, n.toNatClampNeg) n.toNatClampNeg) (nm (cnt h)) = .inl (cA, n.toNatClampNeg, .inr (.inl (fun _ => 0))) := by
        rw [cell_arr (k := 4) (n := n.toNatClampNeg) (by rw [mk_S, if_pos rfl]) (by decide), hcA]
        show (Sum.inl (dA 4, n.toNatClampNeg, .inr (.inl (gL (mk h (nm (cnt h)) (4, n.toNatClampNeg) n.toNatClampNeg) (nm (cnt h))))) : va_E) = _
        rw [mkL_self]
      exact kk q cA H1 hcA (by rw [ec]; exact hP1) (by rw [ec]; exact hD1) hS1
    case double =>
      refine sh_newA F e P (by decide) hRc hRs K fun n r q1 q2 b1 b2 kk => ?_
      refine va_newa (atype := .double) (ty := .double) (a0 := (n.toNatClampNeg, .inr (.inr (.inr (.inl (fun _ => 0)))))) hx hb (hts _ arc_5) rfl hKv hP (wsO_D hw hadr) hS (fun q z => Nat.le_trans hBs z) (fun _ => rfl) (nneg q1) rfl (by show n.toNatClampNeg * 8 ≤ 536870912; omega) b1 b2 hd fun q cA H1 hK1 hP1 hD1 hS1 => ?_
      have hcA : cA = dA 5 := ra_eq (hK1.2 7 _ rfl).2 (hKv.2 3 _ rfl).2
      have ec : cellE adr dA (mk h (nm (cnt h)) (5, n.toNatClampNeg) n.toNatClampNeg) (nm (cnt h)) = .inl (cA, n.toNatClampNeg, .inr (.inr (.inr (.inl (fun _ => 0))))) := by
        rw [cell_arr (k := 5) (n := n.toNatClampNeg) (by rw [mk_S, if_pos rfl]) (by decide), hcA]
        show (Sum.inl (dA 5, n.toNatClampNeg, .inr (.inr (.inr (.inl (gD (mk h (nm (cnt h)) (5, n.toNatClampNeg) n.toNatClampNeg) (nm (cnt h))))))) : va_E) = _
        rw [mkD_self]
      exact kk q cA H1 hcA (by rw [ec]; exact hP1) (by rw [ec]; exact hD1) hS1
  · cases e
theorem sh_anewarray {i pc len idx : Nat} {ls : LS3} {st : List MV} {h : Hp} {pc' : Nat} {ls' : LS3} {st' : List MV} {h' : Hp} {mls : Array Slot} (F : FrW adr B dC dI dA x i p l s m args meth c)
    (hd : decode (mB i) pc = .ok (.anewarray idx, len)) (e : exec1 i pc len ls st h (.anewarray idx) = some (.inl (pc', ls', st', h'))) (P : PtW adr B dC dI dA x i s c0 s0 h H locs cells slots ls mls)
    (hRc : cu h' - c0 ≤ R.cells) (hRs : su h' - s0 ≤ R.slots)
    (K : ∀ H' locs' cells' slots' mls', PtW adr B dC dI dA x i s c0 s0 h' H' locs' cells' slots' ls' mls' → W p l en R s m args below meth c H' locs' cells' slots' Q (F0 m pc' mls' (st'.map (toV adr)))) :
    W p l en R s m args below meth c H locs cells slots Q (F0 m pc mls (st.map (toV adr))) := by
  obtain ⟨hx, hb, hml, hr, hown, hts, hlk, hin, hKv, hE, hBs, hadr, hst, hAO⟩ := id F
  obtain ⟨hw, hP, hS, ⟨a1, a2, a3, a4, a5⟩, hl, hn, hD⟩ := id P
  simp only [exec1] at e
  split at e
  · rename_i hlen; subst hlen
    split at e
    · rename_i k hk
      obtain ⟨n1, n2⟩ := anew_ok_at hk
      refine sh_newA F e P (by omega) hRc hRs K fun n r q1 q2 b1 b2 kk => ?_
      refine va_newq (C := arrN k) hx hb hown (hts _ n1) (hAO k n2) hKv hP (wsO_D hw hadr) hS (fun q z => Nat.le_trans hBs z) (nneg q1) rfl (by omega) b1 b2 hd fun q cA H1 hK1 hP1 hD1 hS1 => ?_
      have hty : (tysW dA)[k - 2]? = some (dA k, .object (arrN k)) := by rcases n2 with rfl | rfl | rfl <;> rfl
      have hcA : cA = dA k := ra_eq (hK1.2 7 _ rfl).2 (hKv.2 (k - 2) _ hty).2
      have ec : cellE adr dA (mk h (nm (cnt h)) (k, n.toNatClampNeg) n.toNatClampNeg) (nm (cnt h)) = .inl (cA, n.toNatClampNeg, .inr (.inr (.inr (.inr (fun _ => none))))) := by
        rw [cell_arr (k := k) (n := n.toNatClampNeg) (by rw [mk_S, if_pos rfl]) (by omega), hcA]
        have ha : arrE adr (mk h (nm (cnt h)) (k, n.toNatClampNeg) n.toNatClampNeg) (nm (cnt h)) k = .inr (.inr (.inr (.inr (fun j => (gR (mk h (nm (cnt h)) (k, n.toNatClampNeg) n.toNatClampNeg) (nm (cnt h)) j).map adr)))) := by rcases n2 with rfl | rfl | rfl <;> rfl
        rw [ha, mkR_self]; rfl
      exact kk q cA H1 hcA (by rw [ec]; exact hP1) (by rw [ec]; exact hD1) hS1
    · cases e
  · cases e
theorem sh_prim {i pc idx : Nat} {b : Bool} {ls : LS3} {st : List MV} {h : Hp} {pc' : Nat} {ls' : LS3} {st' : List MV} {h' : Hp} {mls : Array Slot} (F : FrW adr B dC dI dA x i p l s m args meth c)
    (hd : decode (mB i) pc = .ok (if b = true then .invokespecial idx else .invokestatic idx, 3)) (e : xPrim i pc idx b ls st h = some (.inl (pc', ls', st', h'))) (P : PtW adr B dC dI dA x i s c0 s0 h H locs cells slots ls mls)
    (hRc : cu h' - c0 ≤ R.cells) (hRs : su h' - s0 ≤ R.slots) (hRf : 8 ≤ R.frames) (hRl : 200 ≤ R.locals)
    (K : ∀ H' locs' cells' slots' mls', PtW adr B dC dI dA x i s c0 s0 h' H' locs' cells' slots' ls' mls' → W p l en R s m args below meth c H' locs' cells' slots' Q (F0 m pc' mls' (st'.map (toV adr)))) :
    W p l en R s m args below meth c H locs cells slots Q (F0 m pc mls (st.map (toV adr))) := by
  obtain ⟨hx, hb, hml, hr, hown, hts, hlk, hin, hKv, hE, hBs, hadr, hst, hAO⟩ := id F
  obtain ⟨hw, hP, hS, ⟨a1, a2, a3, a4, a5⟩, hl, hn, hD⟩ := id P
  have hsz : mls.size = c.maxLocals := by rw [hml]; exact hl.1
  unfold xPrim at e
  split at e
  · rename_i hk
    have hlink := prim_ok_at hk
    split at e
    · rename_i o r
      split at e
      · rename_i q
        cases e
        obtain ⟨rfl, q2⟩ := q
        refine W.objInit hx hb hown (hts _ hlink) (hts _ obj_in) (hts _ objc_in) (g := F0 m pc mls (.ref (adr o) :: st'.map (toV adr))) rfl hsz rfl hd (by omega) ?_ (K _ _ _ _ _ P)
        have z := toV_sum adr st'
        show 2 * 0 + _ + 12 ≤ _
        omega
      · cases e
    · cases e
  · rename_i hk
    have hlink := prim_ok_at hk
    split at e
    · rename_i y z r
      split at e
      · rename_i q
        cases e
        obtain ⟨rfl, q2⟩ := q
        have e9 := toV_sum adr r
        exact va_mmax hx hb hsz.symm hown (hts _ hlink) (hts _ max_st) (hts _ max_in) (hts _ max_co) (by omega) (by omega) (by have z : cu h - c0 ≤ R.cells := hRc; omega) (by have z : su h - s0 ≤ R.slots := hRs; omega) hd (K _ _ _ _ _ P)
      · cases e
    · cases e
  · rename_i hk
    have hlink := prim_ok_at hk
    split at e
    · rename_i y z r
      split at e
      · rename_i q
        cases e
        obtain ⟨rfl, q2⟩ := q
        have e9 := toV_sum adr r
        exact va_mmin hx hb hsz.symm hown (hts _ hlink) (hts _ min_st) (hts _ min_in) (hts _ min_co) (by omega) (by omega) (by have z : cu h - c0 ≤ R.cells := hRc; omega) (by have z : su h - s0 ≤ R.slots := hRs; omega) hd (K _ _ _ _ _ P)
      · cases e
    · cases e
  · rename_i hk
    have hlink := prim_ok_at hk
    split at e
    · rename_i n dp b9 sp a r
      split at e
      · rename_i q
        obtain ⟨rfl, q2, q3, q4, q5, q6, q7, q8⟩ := q
        have e9 := toV_sum adr r
        have hcw := cpy_words
        cases hga : gS h a with
        | mk ka na =>
          cases hgb : gS h b9 with
          | mk kb nb =>
            rw [hga] at q7 e
            rw [hgb] at q8 e
            simp only at q7 q8
            split at e
            · rename_i q9
              simp only at q9
              obtain ⟨rfl, rfl⟩ := q9
              cases e
              obtain ⟨k0, hk0, ek, he⟩ := wsO_ex hw adr dA (a := a) (by rw [hga]; exact Nat.le_of_ble_eq_true rfl) (by rw [hga]; exact Nat.le_of_ble_eq_true rfl)
              obtain ⟨k1, hk1, ek1, he1⟩ := wsO_ex hw adr dA (a := b9) (by rw [hgb]; exact Nat.le_of_ble_eq_true rfl) (by rw [hgb]; exact Nat.le_of_ble_eq_true rfl)
              rw [cell_arr hga (by decide)] at he
              rw [cell_arr hgb (by decide)] at he1
              refine va_copyi (ty := .int) hx hb hsz.symm hown (hts _ hlink) (hts _ cpy_na) (hts _ cpy_st) (hts _ cpy_in) hKv hP (wsO_D hw hadr) hS k0 k1 0 0 he he1 rfl rfl rfl (nneg q6) (nneg q5) (nneg q4) q7 q8 (fun _ _ => rfl) (by omega) (by omega) hd fun H1 locs1 hP1 _ hS1 => K _ _ _ _ _ (pt_upd P (Kp_cpI (by rw [hgb]; exact ⟨Nat.le_of_ble_eq_true rfl, Nat.le_of_ble_eq_true rfl⟩)) hk1 ek1 (fun b z => cell_cpI_ne z) ?_ hS1)
              rw [cell_arr (h := cpI h a sp.toNatClampNeg b9 dp.toNatClampNeg n.toNatClampNeg) hgb (by decide)]
              show va_P _ _ ((wsO adr dA h).set k1 (adr b9, .inl (dA 2, nb, .inl (gI (cpI h a sp.toNatClampNeg b9 dp.toNatClampNeg n.toNatClampNeg) b9)))) H1
              rw [gI_cpI_self]
              exact hP1
            · split at e
              · rename_i q9
                simp only at q9
                obtain ⟨rfl, rfl⟩ := q9
                cases e
                obtain ⟨k0, hk0, ek, he⟩ := wsO_ex hw adr dA (a := a) (by rw [hga]; exact Nat.le_of_ble_eq_true rfl) (by rw [hga]; exact Nat.le_of_ble_eq_true rfl)
                obtain ⟨k1, hk1, ek1, he1⟩ := wsO_ex hw adr dA (a := b9) (by rw [hgb]; exact Nat.le_of_ble_eq_true rfl) (by rw [hgb]; exact Nat.le_of_ble_eq_true rfl)
                rw [cell_arr hga (by decide)] at he
                rw [cell_arr hgb (by decide)] at he1
                refine va_copyl (ty := .long) hx hb hsz.symm hown (hts _ hlink) (hts _ cpy_na) (hts _ cpy_st) (hts _ cpy_in) hKv hP (wsO_D hw hadr) hS k0 k1 2 2 he he1 rfl rfl rfl (nneg q6) (nneg q5) (nneg q4) q7 q8 (fun _ _ => rfl) (by omega) (by omega) hd fun H1 locs1 hP1 _ hS1 => K _ _ _ _ _ (pt_upd P Kp_cpL hk1 ek1 (fun b z => cell_cpL_ne z) ?_ hS1)
                rw [cell_arr (h := cpL h a sp.toNatClampNeg b9 dp.toNatClampNeg n.toNatClampNeg) hgb (by decide)]
                show va_P _ _ ((wsO adr dA h).set k1 (adr b9, .inl (dA 4, nb, .inr (.inl (gL (cpL h a sp.toNatClampNeg b9 dp.toNatClampNeg n.toNatClampNeg) b9))))) H1
                rw [gL_cpL_self]
                exact hP1
              · cases e
      · cases e
    · cases e
  · cases e
end StepF
