/-! NoSuchElementException: its constructor's link to its superclass's stands at another place (13) than the kit's rows for 'throw new E(text)' have it: the same with that place. nse_ctor follows the library's ctorThrowS (BundleOwnThrow), nse_throw the kit's vx_throwS. -/
def nseB : ByteArray := prog_30_method_4_code
theorem nseB_0 : decode nseB 0 = .ok (.aload_n 0, 1) := by decide +kernel
theorem nseB_1 : decode nseB 1 = .ok (.aload_n 1, 1) := by decide +kernel
theorem nseB_2 : decode nseB 2 = .ok (.invokespecial 13, 3) := by decide +kernel
theorem nseB_5 : decode nseB 5 = .ok (.return_, 1) := by decide +kernel
def nseChain (X : String) : List String → List Cond
  | [] => []
  | Y :: r => Bundle.passSAtoms X Y 13 nseB ++ Bundle.chainSAtoms Y r
def nseAt (own : String) (ic : Nat) (X : String) (names : List String) : List Cond :=
  Bundle.throwableAtoms ++ Bundle.throwableSAtoms ++ nseChain X names ++
  [.methodLink own ic (Bundle.initS X), .instantiable X 6, .castable X X, .selects X Bundle.tFill0 Bundle.tFill0, .selects X Bundle.tFill Bundle.tFill,
   .lays X Bundle.tN "cause" "Ljava/lang/Throwable;", .lays X Bundle.tN "stackTrace" Bundle.steD, .lays X Bundle.tN "suppressedExceptions" Bundle.listD, .lays X Bundle.tN "detailMessage" "Ljava/lang/String;",
   .isRef (.static Bundle.tN "UNASSIGNED_STACK" Bundle.steD), .isRef (.static Bundle.tN "SUPPRESSED_SENTINEL" Bundle.listD),
   .fieldLink Bundle.tN 198 Bundle.tN "backtrace" "Ljava/lang/Object;", .lays Bundle.tN Bundle.tN "backtrace" "Ljava/lang/Object;", .lays X Bundle.tN "backtrace" "Ljava/lang/Object;"]
def nseAtS (own : String) (ic : Nat) (X : String) (names : List String) : List Cond := (nseAt own ic X names).filter vx_no
section NSE
variable {p : Program} {l : Launch} {e : Env} {R : Room} {s : State} {m₀ : MethodId} {args : Array Value} {below : List Frame} {meth : Method} {c : Code} {W : State} {locs : List Loc} {cells slots : Nat}
set_option maxHeartbeats 4000000 in
theorem nse_ctor (X : Stand p l e R s m₀ args below meth c W locs cells slots) (hexec : p.tables.exec = Jvm.exec) (htr : e.platform.stackTraces = false) {own cls Y0 : String} {names : List String} {ic : Nat}
    (hown : s.vm.findClass own = some m₀.cls) (hcls : Bundle.fit cls = true) (hnames : ∀ n ∈ Y0 :: names, Bundle.fit n = true)
    (h : ∀ a ∈ nseAt own ic cls (Y0 :: names), a.before args s = true)
    (hlocs : ∀ x ∈ locs, ∀ cell, s.heap[x.base]? = some cell → cell.vm.isStatics = false)
    {a : Addr} {cX : ClassId} {kX : Class} (hfoundX : s.vm.findClass cls = some cX) (hkX : s.vm.classes[cX]? = some kX) (hcell : W.heap[a]? = some (freshCell cX kX)) (hnew : s.heap.size ≤ a)
    {msg : Value} (hmsg : msg.isRef = true)
    {g : JFrame} (hg : g.method = m₀) (hsize : g.locals.size = c.maxLocals) (hlocked : g.locked = none) (hentered : g.entered = []) {rest : List Value} (hstack : g.stack = msg :: .ref a :: .ref a :: rest)
    (hd6 : decode c.code g.pc = .ok (.invokespecial ic, 3)) (hd9 : decode c.code (g.pc + 3) = .ok (.athrow, 1)) (hout : ∀ x ∈ c.exceptionTable.toList, covers x (g.pc + 3) = false)
    (hRframes : (Y0 :: names).length + 3 < R.frames) (hRlocals : 2 * g.monitorRoom + ((Value.ref a :: rest).map fun v => v.category).sum + (13 * ((Y0 :: names).length + 1) + 42) ≤ R.locals) (hlocks : meth.locks = false) :
    ∃ U : State, Steps p.tables e below (W.setTop g) U ∧ U.status = .running ∧ Ended U below (.threw a) ∧ s.WarmedH U.vm ∧ s.sameButNew ({ U with vm := s.vm } : State) locs cells slots ∧
      ∃ ce, U.heap[a]? = some ce ∧ ce.vm = .none ∧ s.vm.findClass cls = some ce.cls := by
  have howns : e.platform.frameOwnsMonitors = true := by rw [X.admits.platform]
  have hfin : e.platform.finalization = false := by rw [X.admits.platform]
  have hpl : e.platform.magicAccessors = ({} : Platform).magicAccessors := by rw [X.admits.platform]
  have hw : ∀ x, x ∈ nseAt own ic cls (Y0 :: names) → x.holds args s none s [] = true := fun x hx => h x hx
  obtain ⟨T, Z0, L, -, Y⟩ := ThrowableC.of_atoms (args := args) howns hfin hpl (fun x hx => h x (by simp [nseAt, hx]))
  obtain ⟨Z, M, LZ, LM, hnZ⟩ := Init0T.ofS_atoms (args := args) hpl L Y (fun x hx => h x (by simp [nseAt, hx]))
  obtain ⟨P1, L1, hP1m, hP1s⟩ := PassC.ofS_atoms (args := args) (s := s) hpl (X := cls) (Y := Y0) (Bundle.fit_spec hcls).1 (Bundle.fit_spec (hnames Y0 List.mem_cons_self)).2 nseB_0 nseB_1 nseB_2 nseB_5 (fun x hx => h x (by simp only [nseAt, nseChain, List.mem_append]; exact Or.inl (Or.inr (Or.inl hx))))
  obtain ⟨P2, Ps, hlen, L2, hL, hP2m, hsup2, hpass⟩ := Bundle.chainS (args := args) hpl hnZ names Y0 (hnames Y0 List.mem_cons_self) (fun n hn => hnames n (List.mem_cons_of_mem _ hn)) (fun x hx => h x (by simp only [nseAt, nseChain, List.mem_append]; exact Or.inl (Or.inr (Or.inr hx))))
  have hlink1 : P1.sup = firstOf (Z.m T.toThrowableT) ((P2 :: Ps).map (·.toPassT)) := Option.some.inj (hP1s.symm.trans hP2m)
  have hfound : s.vm.findClass cls = some P1.m.cls := findClass_of_methodNamed hP1m
  cases Option.some.inj (hfoundX.symm.trans hfound)
  obtain ⟨c1, kX', hc1, hk, hord, -, -, hn6⟩ := Cond.instantiable_spec (hw (.instantiable cls 6) (by simp [nseAt]))
  cases Option.some.inj (hc1.symm.trans hfound)
  cases Option.some.inj (hkX.symm.trans hk)
  have sel : ∀ {y : MethodName} {mk : MethodId}, Cond.selects cls y y ∈ nseAt own ic cls (Y0 :: names) → (y.cls ≠ "java/lang/invoke/MethodHandle" ∧ y.cls ≠ "java/lang/invoke/VarHandle") → s.methodNamed? y = some mk → selectMethod e.platform s.vm P1.m.cls mk = .method mk := by
    intro y mk hy hp hm
    obtain ⟨c2, r2, m2, q1, q2, q3, q4, -⟩ := Cond.selects_spec (hw _ hy)
    cases Option.some.inj (q1.symm.trans hfound)
    cases Option.some.inj (q2.symm.trans (State.methodFound?_of_named hm hp))
    cases Option.some.inj (q3.symm.trans hm)
    rw [Launch.admits_selectMethod X.admits]; exact q4
  have hsel0 := sel (y := Bundle.tFill0) (by simp [nseAt]) (by decide) Y.fill0
  have hselF := sel (y := Bundle.tFill) (by simp [nseAt]) (by decide) Y.fill
  obtain ⟨cellS0, hcS0, hiss⟩ := Y.statics
  obtain ⟨u0, hu0⟩ := Cond.staticRefV Y.unassigned L.unassignedStatic L.statics hcS0 hiss (hw (.isRef (.static Bundle.tN "UNASSIGNED_STACK" Bundle.steD)) (by simp [nseAt]))
  obtain ⟨sen, hsen⟩ := Cond.staticRefV Y.sentinel L.sentinelStatic L.statics hcS0 hiss (hw (.isRef (.static Bundle.tN "SUPPRESSED_SENTINEL" Bundle.listD)) (by simp [nseAt]))
  obtain ⟨ci198, i198, fB, hk198, hg198, ha198, hsB, -, hnB, htB, hffB⟩ := Cond.ownField (t := .object "java/lang/Object") Y.found L.cls (by decide +kernel) (hw (.fieldLink Bundle.tN 198 Bundle.tN "backtrace" "Ljava/lang/Object;") (by simp [nseAt])) (hw (.lays Bundle.tN Bundle.tN "backtrace" "Ljava/lang/Object;") (by simp [nseAt])) e.platform hpl
  obtain ⟨cellS, hcS', heS, -, hkeep⟩ := X.same.2.2.2.2.2 T.aS cellS0 hcS0
  have hcellS : W.heap[T.aS]? = some cellS := hcS'
  have hout' : ∀ i, (⟨T.aS, i⟩ : Loc) ∉ locs := fun i hmem => by
    have hq := hlocs _ hmem cellS0 hcS0
    rw [hiss] at hq; cases hq
  have hknownS : cellS.vm ≠ .unknown := by
    rw [heS]; intro hu
    rw [show cellS0.vm = .unknown from hu] at hiss
    cases hiss
  have hneS : T.aS ≠ a := Nat.ne_of_lt (Nat.lt_of_lt_of_le (Array.getElem?_eq_some_iff.mp hcS0).1 hnew)
  obtain ⟨iM, hffM⟩ := Y.msg
  obtain ⟨tyC, dC, hdC, hdnC⟩ := Cond.laysAt hfound hk Y.cause (hw (.lays cls Bundle.tN "cause" "Ljava/lang/Throwable;") (by simp [nseAt]))
  obtain ⟨tyS, dS, hdS, hdnS⟩ := Cond.laysAt hfound hk Y.stack (hw (.lays cls Bundle.tN "stackTrace" Bundle.steD) (by simp [nseAt]))
  obtain ⟨tyP, dP, hdP, hdnP⟩ := Cond.laysAt hfound hk Y.supp (hw (.lays cls Bundle.tN "suppressedExceptions" Bundle.listD) (by simp [nseAt]))
  obtain ⟨tyM, dM, hdM, hdnM⟩ := Cond.laysAt hfound hk hffM (hw (.lays cls Bundle.tN "detailMessage" "Ljava/lang/String;") (by simp [nseAt]))
  obtain ⟨tyB, dB, hdB, hdnB⟩ := Cond.laysAt hfound hk hffB (hw (.lays cls Bundle.tN "backtrace" "Ljava/lang/Object;") (by simp [nseAt]))
  have bC := Cond.laysApart hdB hdC hdnB hdnC (by rw [hnB, Y.causeName]; decide)
  have bS := Cond.laysApart hdB hdS hdnB hdnS (by rw [hnB, Y.stackName]; decide)
  have bP := Cond.laysApart hdB hdP hdnB hdnP (by rw [hnB, Y.suppName]; decide)
  have hskip : SkipFacts T e.platform s (fun u => u) u0 ((preparedCellV T.toThrowableT (freshCell P1.m.cls kX) a u0 sen).withEntry W.cur) :=
    ⟨{ ci198 := ci198, i198 := i198, fBack := fB }, ⟨hk198, hg198, ha198, hsB⟩, by
      have hq := fresh_default (c := P1.m.cls) tyB
      rw [htB] at hq
      simpa [preparedCellV, Cell.setSlot, Cell.withEntry, Array.getElem?_setIfInBounds, bC, bS, bP, bC.symm, bS.symm, bP.symm, defaultValue] using hq, fun _ _ => rfl⟩
  obtain ⟨tm, methC, cdC, kC, vm₁, hnC, -, -, -, -, -, -, -, hW₁, st1⟩ := Steps.initColdS (tb := p.tables) (e := e) (below := below) (s := s) (U := W) X.here hexec X.warmed hpl hown (t := Bundle.initS cls) rfl rfl (Bundle.fit_spec hcls).2
    (hw (.methodLink own ic (Bundle.initS cls)) (by simp [nseAt])) (h (.instanceMethod (Bundle.initS cls)) (by simp [nseAt, nseChain, Bundle.passSAtoms])) (bytes := nseB) (maxL := 2) (h (.code (Bundle.initS cls) nseB 2 none) (by simp [nseAt, nseChain, Bundle.passSAtoms]))
    (f := g) hg (a := a) (msg := msg) (rest := .ref a :: rest) hstack hd6
  cases Option.some.inj (hnC.symm.trans hP1m)
  have X₁ := X.noted hW₁
  obtain ⟨vm₂, X₂, st2⟩ := X₁.ctorMessageOffV hexec (g := { g with stack := .ref a :: rest }) hg hsize T L Z LZ M LM (P1 :: P2 :: Ps)
    (fun P hP => by
      rcases List.mem_cons.mp hP with rfl | hP
      · exact L1
      · rcases List.mem_cons.mp hP with rfl | hP
        · exact L2
        · exact hL P hP) ⟨hlink1, hsup2, hpass⟩ (u0 := u0) (sen := sen) (self := a) hmsg (cell := freshCell P1.m.cls kX) (cellS := cellS)
    hcell (fun _ => by simp) (by simp) rfl rfl hsel0 hselF hcellS hneS hknownS (by rw [hkeep _ (hout' _)]; exact hu0) (by rw [hkeep _ (hout' _)]; exact hsen)
    (Takes.of_laid hk hord tyC (by rw [Y.causeType]; rfl)) (Takes.of_laid hk hord tyS (by rw [Y.stackType]; exact fits_refV_array _ u0)) (Takes.of_laid hk hord tyP (by rw [Y.suppType]; exact fits_refV_object _ sen))
    (Takes.of_laid hk hord tyM (by rw [Y.msgType]; exact fits_refV_object _ ⟨msg, hmsg⟩)) Y.objLocals hskip htr [] hd6
    (by simp only [List.length_cons, hlen] at hRframes ⊢; omega) (by simp only [List.length_cons, hlen] at hRlocals ⊢; exact hRlocals)
  obtain ⟨hwalk, hrun, hended, hWU, hsame⟩ := X₂.athrowLeaves hexec (g := { g with stack := .ref a :: rest, pc := g.pc + 3 }) hg hlocked hentered hout (a := a) (rest := rest) rfl hd9
  have hlt : a < ((W.setVm vm₁).setVm vm₂).heap.size := (Array.getElem?_eq_some_iff.mp hcell).1
  have hU := heapAt_setCell_self (s := (W.setVm vm₁).setVm vm₂) (plainBareV T.toThrowableT (freshCell P1.m.cls kX) a u0 sen msg) hlt
  refine ⟨_, st1 _ (fun acts => ?_), hrun, hended, hWU, hsame.weaken (fun y hy hlt' => ?_) (Nat.le_refl _) (Nat.le_refl _), _, hU, rfl, hfound⟩
  · rw [doInvoke_state]
    exact st2 _ hwalk
  · rcases List.mem_append.mp hy with h1 | h1
    · exact h1
    · exfalso
      have hb : y.base = a := by
        simp only [List.mem_cons, List.not_mem_nil, or_false] at h1
        rcases h1 with rfl | rfl | rfl | rfl | rfl <;> rfl
      rw [hb] at hlt'
      exact Nat.not_lt.mpr hnew hlt'
/-- the fifth of the throw's instructions behind the constructor: 'ldc' and 'ldc_w' alike; n: the length of the load -/
theorem nse_throw {m : MethodId} {H : Heap} {mc ms : Nat} {free : Addr → Prop} {ls : Array Slot} {rest : List Value} {Qc : Array Value → State → Outcome → State → Prop} {XC : String → State → State → Prop} {cc : ByteArray} {pc n : Nat} (hexec : p.tables.exec = Jvm.exec) (hb : c.code = cc) (hl : l.stackTraces = false) {own cls text Y0 : String} {names : List String} {ik is ic sa : Nat} {A : Nat → Prop}
    (hown : s.vm.findClass own = some m.cls) (hcls : Bundle.fit cls = true) (hnames : ∀ n ∈ Y0 :: names, Bundle.fit n = true)
    (hk : (Cond.classLink own ik cls).before args s = true) (hini : (Cond.initialized cls).before args s = true) (hstr : vk_R own is text sa s) (hat : ∀ w ∈ nseAtS own ic cls (Y0 :: names), w.before args s = true)
    (hgood : ∀ w ∈ Cond.classLink own ik cls :: Cond.initialized cls :: nseAtS own ic cls (Y0 :: names), vx_ot w = true)
    (hU : vx_Zq Bundle.tN "UNASSIGNED_STACK" Bundle.steD A s s.heap) (hN : vx_Zq Bundle.tN "SUPPRESSED_SENTINEL" Bundle.listD A s s.heap) (hS : va_S A s.heap H locs) (hsize : ls.size = c.maxLocals)
    (d0 : decode cc pc = .ok (.new ik, 3)) (d3 : decode cc (pc + 3) = .ok (.dup, 1)) (d4 : n = 2 ∧ decode cc (pc + 4) = .ok (.ldc is, 2) ∨ n = 3 ∧ decode cc (pc + 4) = .ok (.ldc_w is, 3)) (d6 : decode cc (pc + 4 + n) = .ok (.invokespecial ic, 3)) (d9 : decode cc (pc + 4 + n + 3) = .ok (.athrow, 1))
    (hout : ∀ x ∈ c.exceptionTable.toList, False)
    (hRframes : (Y0 :: names).length + 3 < R.frames) (hRlocals : (rest.map fun v => v.category).sum + (13 * ((Y0 :: names).length + 1) + 43) ≤ R.locals) (hRcells : cells + 1 ≤ R.cells) (hRslots : slots + 6 ≤ R.slots) (hlocks : meth.locks = false)
    (hx : ∀ t : State, s.vm.Alike t.vm → H.size ≤ t.heap.size → (∀ q : Nat, q < H.size → t.heap[q]? = H[q]?) → XC cls s t)
    (hf : ∀ z ∈ locs, free z.base) (hc : cells + 1 ≤ mc) (hs : slots + 6 ≤ ms) :
    Jvm.Pilot.CCommitteePlannerLaw_law_r4503_84bfb1.W p l e R s m args below meth c H locs cells slots (vx_MQ below Qc XC args s mc ms free) (F0 m pc ls rest) := by
  intro T hT X
  have htr : e.platform.stackTraces = false := (show e.platform.stackTraces = l.stackTraces by rw [X.admits.platform]).trans hl
  have Y := vx_rebase X (R' := { frames := R.frames, locals := R.locals, cells := 1, slots := 6 }) (Nat.le_refl _) (Nat.le_refl _) hRcells hRslots
  obtain ⟨s', hA⟩ : ∃ z, z = (T.setVm s.vm).setFrames (.invoking m args :: below) := ⟨_, rfl⟩
  rw [← hA] at Y
  have hvm : s'.vm = s.vm := by rw [hA]; rfl
  have hhp : s'.heap = H := by rw [hA]; exact hT
  have hW0 : s.WarmedH s'.vm := by rw [hvm]; exact State.WarmedH.refl s
  have hat' : ∀ w ∈ nseAtS own ic cls (Y0 :: names), w.before args s' = true := fun w hw => vx_ot_at hW0 hvm.symm (hgood w (List.mem_cons_of_mem _ (List.mem_cons_of_mem _ hw))) (hat w hw)
  have hk' : (Cond.classLink own ik cls).before args s' = true := vx_ot_at hW0 hvm.symm (hgood _ List.mem_cons_self) hk
  have hini' : (Cond.initialized cls).before args s' = true := vx_ot_at hW0 hvm.symm (hgood _ (List.mem_cons_of_mem _ List.mem_cons_self)) hini
  have hU' : vx_Zq Bundle.tN "UNASSIGNED_STACK" Bundle.steD A s' s'.heap := by rw [hhp]; exact vx_Zq.moved hW0.alike (hU.kept hS.2.1)
  have hN' : vx_Zq Bundle.tN "SUPPRESSED_SENTINEL" Bundle.listD A s' s'.heap := by rw [hhp]; exact vx_Zq.moved hW0.alike (hN.kept hS.2.1)
  have h : ∀ w ∈ nseAt own ic cls (Y0 :: names), w.before args s' = true := vx_own hat' (vx_isRefq hU'.1) (vx_isRefq hN'.1) hU'.2.word hN'.2.word
  have hown' : s'.vm.findClass own = some m.cls := by rw [hvm]; exact hown
  have hins : (Cond.instantiable cls 6).before args s' = true := h _ (by simp [nseAt])
  obtain ⟨vm₁, cX, kX, hfX, hkX, -, -, X₁, st1⟩ := Y.newCold hexec (own := own) (C := cls) (index := ik) (n := 6) hown' hk' hins hini'
    (g := F0 m pc ls rest) rfl (by rw [hb]; exact d0) (Nat.le_refl _) (Nat.le_refl _)
  generalize hT1 : (T.setVm vm₁).pushCell { cls := cX, slots := kX.instanceTypes.map defaultValue, vm := .none } = T1 at X₁ st1
  have hcat : (Value.ref T.heap.size).category = 1 := rfl
  have hcellA : T1.heap[T.heap.size]? = some (freshCell cX kX) := by rw [← hT1]; exact State.heap_pushCell_size _ _
  have d3' : decode c.code (pc + 3) = .ok (.dup, 1) := by rw [hb]; exact d3
  have hstr' : vk_R own is text sa s' := vk_R.warm hW0 hstr
  obtain ⟨U, hsteps, hrun, hend, hW, hsame, ce, hce, hv9, hcl9⟩ := nse_ctor X₁ hexec htr (own := own) (cls := cls) (Y0 := Y0) (names := names) (ic := ic) hown' hcls hnames h (fun x hx => nomatch hx) hfX hkX hcellA (by rw [hhp, hT]; exact Nat.le_refl _) (msg := .ref sa) rfl
    (g := { method := m, pc := pc + 4 + n, locals := ls, stack := .ref sa :: .ref T.heap.size :: .ref T.heap.size :: rest, locked := none }) rfl hsize rfl rfl (rest := rest) rfl
    (by rw [hb]; exact d6) (by rw [hb]; exact d9) (fun x hx => (hout x hx).elim) hRframes (by simp only [List.map_cons, List.sum_cons, hcat] at hRlocals ⊢; omega) hlocks
  obtain ⟨f1, f2⟩ := vx_frame hsame
  rw [hhp] at f1 f2
  have hWs : s.WarmedH U.vm := State.WarmedH.trans hW0 hW
  have hcl : s.vm.findClass cls = some ce.cls := by
    rw [hvm] at hcl9
    exact hcl9
  have hall : s.sameButNew ({ U with vm := s.vm } : State) locs mc ms := by
    subst hA
    obtain ⟨e1, e2⟩ := hsame
    rw [State.setFrames_setFrames] at e1
    have h2 : (T.setVm s.vm).sameButNew ({ U with vm := s.vm } : State) [] (0 + 1) (0 + 6) := ⟨e1, e2⟩
    have h3 := X.same.trans h2
    rw [List.append_nil] at h3
    exact h3.mono hc hs
  refine ⟨U, ?_, .threw T.heap.size, hrun, hend, Or.inr ⟨T.heap.size, rfl, cls, ce, locs, hx U hWs.alike f1 (fun q hq => f2 q hq (fun z hz => nomatch hz)), hce, hv9, hcl, hWs, hall, hf⟩⟩
  refine st1 _ ?_
  show Steps p.tables e below (T1.setTop { method := m, pc := pc + 3, locals := ls, stack := .ref T.heap.size :: rest, locked := none }) _
  jvm_step X₁.here [X₁.here.top, hexec, d3', Value.category]
  rcases d4 with ⟨rfl, d4⟩ | ⟨rfl, d4⟩
  · exact X₁.ldcString hexec (own := own) (text := text) (index := is) (a := sa) hown' hstr'.1 hstr'.2
      (g := { method := m, pc := pc + 4, locals := ls, stack := .ref T.heap.size :: .ref T.heap.size :: rest, locked := none }) rfl (by rw [hb]; exact d4) _ hsteps
  · exact X₁.ldcStringW hexec (own := own) (text := text) (index := is) (a := sa) hown' hstr'.1 hstr'.2
      (g := { method := m, pc := pc + 4, locals := ls, stack := .ref T.heap.size :: .ref T.heap.size :: rest, locked := none }) rfl (by rw [hb]; exact d4) _ hsteps
end NSE
set_option maxRecDepth 100000 in
theorem exz_0 : (((vx_atS (cN 6) 64 "java/lang/IllegalArgumentException" exNs).zip [72, 519, 528, 536, 539, 541, 520, 521, 95, 96, 522, 527, 537, 557, 509, 558, 511, 559, 513, 523, 525, 515, 553, 554, 556, 515, 544, 545, 546, 547, 501, 547, 548, 549, 550, 503, 550, 551, 552, 553, 505, 543, 498, 499, 506, 507, 508, 510, 512, 514, 518, 517, 516]).all fun q => decide (lw_tbl[q.2]? = some q.1)) = true := by decide +kernel
theorem exl_0 : (vx_atS (cN 6) 64 "java/lang/IllegalArgumentException" exNs).length ≤ 53 := by decide +kernel
theorem exm_0 : ∀ w ∈ vx_atS (cN 6) 64 "java/lang/IllegalArgumentException" exNs, w ∈ lwX := by
  intro w hw
  obtain ⟨i, hi⟩ := all_zip (fun w i => decide (lw_tbl[i]? = some w)) _ _ exl_0 exz_0 w hw
  exact List.mem_filter.mpr ⟨List.mem_of_getElem? (of_decide_eq_true hi), List.all_eq_true.mp exw_0 w hw⟩
set_option maxRecDepth 100000 in
theorem exz_1 : (((vx_atS (cN 6) 71 "java/lang/IllegalStateException" exNs).zip [72, 519, 528, 536, 539, 541, 520, 521, 95, 96, 522, 527, 537, 557, 509, 558, 511, 559, 513, 523, 525, 515, 553, 554, 556, 515, 579, 580, 581, 547, 501, 547, 548, 549, 550, 503, 550, 551, 552, 553, 505, 578, 569, 570, 571, 532, 572, 573, 574, 575, 518, 517, 576]).all fun q => decide (lw_tbl[q.2]? = some q.1)) = true := by decide +kernel
theorem exl_1 : (vx_atS (cN 6) 71 "java/lang/IllegalStateException" exNs).length ≤ 53 := by decide +kernel
theorem exm_1 : ∀ w ∈ vx_atS (cN 6) 71 "java/lang/IllegalStateException" exNs, w ∈ lwX := by
  intro w hw
  obtain ⟨i, hi⟩ := all_zip (fun w i => decide (lw_tbl[i]? = some w)) _ _ exl_1 exz_1 w hw
  exact List.mem_filter.mpr ⟨List.mem_of_getElem? (of_decide_eq_true hi), List.all_eq_true.mp exw_1 w hw⟩
set_option maxRecDepth 100000 in
theorem exz_2 : (((vx_atS (cN 6) 420 "java/lang/IndexOutOfBoundsException" exNs).zip [72, 519, 528, 536, 539, 541, 520, 521, 95, 96, 522, 527, 537, 557, 509, 558, 511, 559, 513, 523, 525, 515, 553, 554, 556, 515, 597, 598, 599, 547, 501, 547, 548, 549, 550, 503, 550, 551, 552, 553, 505, 634, 625, 626, 627, 533, 628, 629, 630, 631, 518, 517, 632]).all fun q => decide (lw_tbl[q.2]? = some q.1)) = true := by decide +kernel
theorem exl_2 : (vx_atS (cN 6) 420 "java/lang/IndexOutOfBoundsException" exNs).length ≤ 53 := by decide +kernel
theorem exm_2 : ∀ w ∈ vx_atS (cN 6) 420 "java/lang/IndexOutOfBoundsException" exNs, w ∈ lwX := by
  intro w hw
  obtain ⟨i, hi⟩ := all_zip (fun w i => decide (lw_tbl[i]? = some w)) _ _ exl_2 exz_2 w hw
  exact List.mem_filter.mpr ⟨List.mem_of_getElem? (of_decide_eq_true hi), List.all_eq_true.mp exw_2 w hw⟩
theorem exw_3 : (nseAtS (cN 6) 146 "java/util/NoSuchElementException" exNs).all xW = true := by decide +kernel
set_option maxRecDepth 100000 in
theorem exz_3 : (((nseAtS (cN 6) 146 "java/util/NoSuchElementException" exNs).zip [72, 519, 528, 536, 539, 541, 520, 521, 95, 96, 522, 527, 537, 557, 509, 558, 511, 559, 513, 523, 525, 515, 553, 554, 556, 515, 719, 720, 721, 547, 501, 547, 548, 549, 550, 503, 550, 551, 552, 553, 505, 718, 709, 710, 711, 535, 712, 713, 714, 715, 518, 517, 716]).all fun q => decide (lw_tbl[q.2]? = some q.1)) = true := by decide +kernel
theorem exl_3 : (nseAtS (cN 6) 146 "java/util/NoSuchElementException" exNs).length ≤ 53 := by decide +kernel
theorem exm_3 : ∀ w ∈ nseAtS (cN 6) 146 "java/util/NoSuchElementException" exNs, w ∈ lwX := by
  intro w hw
  obtain ⟨i, hi⟩ := all_zip (fun w i => decide (lw_tbl[i]? = some w)) _ _ exl_3 exz_3 w hw
  exact List.mem_filter.mpr ⟨List.mem_of_getElem? (of_decide_eq_true hi), List.all_eq_true.mp exw_3 w hw⟩
set_option maxRecDepth 100000 in
theorem exz_4 : (((vx_atS (cN 6) 444 "java/lang/UnsupportedOperationException" exNs).zip [72, 519, 528, 536, 539, 541, 520, 521, 95, 96, 522, 527, 537, 557, 509, 558, 511, 559, 513, 523, 525, 515, 553, 554, 556, 515, 793, 794, 795, 547, 501, 547, 548, 549, 550, 503, 550, 551, 552, 553, 505, 792, 783, 784, 785, 534, 786, 787, 788, 789, 518, 517, 790]).all fun q => decide (lw_tbl[q.2]? = some q.1)) = true := by decide +kernel
theorem exl_4 : (vx_atS (cN 6) 444 "java/lang/UnsupportedOperationException" exNs).length ≤ 53 := by decide +kernel
theorem exm_4 : ∀ w ∈ vx_atS (cN 6) 444 "java/lang/UnsupportedOperationException" exNs, w ∈ lwX := by
  intro w hw
  obtain ⟨i, hi⟩ := all_zip (fun w i => decide (lw_tbl[i]? = some w)) _ _ exl_4 exz_4 w hw
  exact List.mem_filter.mpr ⟨List.mem_of_getElem? (of_decide_eq_true hi), List.all_eq_true.mp exw_4 w hw⟩
set_option maxRecDepth 100000 in
theorem exz_5 : (((vx_atS (cN 6) 355 "java/lang/ArithmeticException" exNs).zip [72, 519, 528, 536, 539, 541, 520, 521, 95, 96, 522, 527, 537, 557, 509, 558, 511, 559, 513, 523, 525, 515, 553, 554, 556, 515, 1097, 1098, 1099, 547, 501, 547, 548, 549, 550, 503, 550, 551, 552, 553, 505, 1115, 1096, 1107, 1108, 530, 1102, 1103, 1105, 1101, 518, 517, 1100]).all fun q => decide (lw_tbl[q.2]? = some q.1)) = true := by decide +kernel
theorem exl_5 : (vx_atS (cN 6) 355 "java/lang/ArithmeticException" exNs).length ≤ 53 := by decide +kernel
theorem exm_5 : ∀ w ∈ vx_atS (cN 6) 355 "java/lang/ArithmeticException" exNs, w ∈ lwX := by
  intro w hw
  obtain ⟨i, hi⟩ := all_zip (fun w i => decide (lw_tbl[i]? = some w)) _ _ exl_5 exz_5 w hw
  exact List.mem_filter.mpr ⟨List.mem_of_getElem? (of_decide_eq_true hi), List.all_eq_true.mp exw_5 w hw⟩
