/-! THE CLAIM OUT OF ONE WALK OF THE LAW'S BODY. Your part is whole_start (and what it stands on); all else here is the same for every law, but numbers. -/
def R_law : String := "CommitteePlannerLaw"
def lw_P (b : Addr) (xs : List Int32) (args : Array Value) (s : State) : Prop := args = #[.ref b] ∧ s.IntsAt b xs ∧ xs.length ≤ 2560 ∧ (Jvm.Cond.and given_1 narrow_1).before args s = true
/-- what a walk over the start with the record d0 says of its end, said of the start itself -/
theorem lw_closed {s t : State} {o : Outcome} {d0 : Drawn} {L : List Loc} {k n : Nat} (hd0 : s.drawn.sameBut d0 lw_cs) (hv : ∃ v, o = .returned v) (hW : (s.setDrawn d0).WarmedH t.vm) (hs : (s.setDrawn d0).sameButNew ({ t with vm := s.vm } : State) L k n) : State.butDraws s t lw_cs (fun t1 => Framed s o t1 L k n) := by
  have h2 : t.drawn = d0 := congrArg State.drawn hs.1
  refine ⟨⟨hv, hW, State.sameButNew.setDrawn hs s.drawn⟩, ?_, by decide⟩
  rw [h2]
  exact hd0
def lw_Q (_ : Array Value) (s : State) (o : Outcome) (t : State) : Prop := o = .returned (some (.int 1)) ∧ State.butDraws s t lw_cs (fun t1 => Framed s o t1 [] 603072 7178346)
def lw_Z (below : List Frame) (a : Array Value) (s : State) : State → Prop := fun t => ∃ o, t.status = .running ∧ Ended t below o ∧ lw_Q a s o t
/-- the law's own end, with 1 on the stack, nothing written that was there before, its room as the claim has it; d0: the record of draws at this point (at the entry s.drawn: begin with 'refine W.base ?_' and 'have hd0 := Drawn.sameBut.refl s.drawn lw_cs') -/
theorem lw_ret {p : Program} {l : Launch} {e : Env} {s : State} {m : MethodId} {below : List Frame} {meth : Method} {c : Code} {b : Nat} {d0 : Drawn} (hd0 : s.drawn.sameBut d0 lw_cs) (hx : p.tables.exec = Jvm.exec) (hb : c.code = code) (hr : meth.sig.returnType = ret) (hlocks : meth.locks = false) {pc : Nat} {H : Heap} {ls : Array Slot} (hdg : decode code pc = .ok (.ireturn, 1)) : W p l e room_1 (s.setDrawn d0) m #[Value.ref b] below meth c H [] 603072 7178346 (lw_Z below #[Value.ref b] s) (F0 m pc ls [.int 1]) := by
  intro T hT X
  obtain ⟨fs, hret, hrun, hended, hW, hframe⟩ := X.leave (v := some (.int 1)) (hlocks := hlocks) (fun h => by rw [hr] at h; cases h)
  have hmeth' : T.vm.method? m = some meth := X.method'
  refine ⟨T.setFrames fs, ?_, .returned (some (.int 1)), hrun, hended, rfl, lw_closed hd0 ⟨_, rfl⟩ hW hframe⟩
  jvm_step X.here [X.here.top, hx, hb, hdg, hmeth', hr, ret, narrow_b1]
  (try refine ⟨rfl, ?_⟩); (try refine ⟨rfl, ?_⟩)
  first | (intro acts; rw [hret _ acts rfl rfl rfl]) | rw [hret _ _ rfl rfl rfl]
  exact Steps.refl _
/-- what holds at the law's entry: the machine, the code, the tables' words (any of lw_tbl by 'hts w (by decide +kernel)'), the script of L ints xs at the cell b, what the Statement gives of the start (any of its parts by flat_of_before) -/
def lw_At (p : Program) (s : State) (m : MethodId) (meth : Method) (c : Code) (b L : Nat) (xs : Nat → Int32) : Prop :=
  p.tables.exec = Jvm.exec ∧ c.code = code ∧ meth.sig.returnType = ret ∧ c.maxLocals = 9 ∧ s.vm.findClass R_law = some m.cls ∧ (∀ w ∈ lw_tbl, w.before #[Value.ref b] s = true) ∧ va_X b L xs s s.heap ∧ b < s.heap.size ∧ meth.locks = false ∧ (Jvm.Cond.and given_1 narrow_1).before #[Value.ref b] s = true
/-! THE LAW OUT OF A RUN OF THE MINI MACHINE -/
theorem end_law {pc : Nat} {ls : LS3} {st : List MV} {h h' : Hp} (e : stp 278 pc ls st h = some (.inr (.inl (.inl (some (vI 1)), h')))) : decode (mB 278) pc = .ok (.ireturn, 1) ∧ st = [vI 1] := by
  unfold stp at e
  split at e
  · rename_i ins len hd
    cases ins <;> simp only [exec1, ldI, ldA, stI, stA, stv, bin, br1, br2, xGet, xPut, xAld, xTab, xCall, xNew, xNewA, xPrim, jmp] at e <;> (try (cases e; done))
    case ireturn =>
      split at e
      · rename_i hlen; subst hlen
        refine ⟨hd, ?_⟩
        unfold xRet at e
        repeat' split at e
        all_goals first | (cases e; done) | (cases e; rfl)
      · cases e
    all_goals (repeat' split at e)
    all_goals (cases e; done)
  · cases e
def Goal : Prop := ∀ (L : Nat) (xs : Nat → Int32) (o : Option A3), L ≤ 2560 → ∃ (n : Nat) (h' : Hp), run n 2040 278 0 (ent 278 [vR (40, 0, 0)]) [] (x0 L xs o) = some (.inl (some (vI 1)), h') ∧ cu h' ≤ 603072 ∧ su h' ≤ 7178346
theorem mB_law : mB 278 = code := rfl
theorem whole_of (G : Goal) {p : Program} {e : Env} {s : State} {m : MethodId} {below : List Frame} {meth : Method} {c : Code} (l : Launch) (hflags : l.flags = flags0) {b L : Nat} {xs : Nat → Int32} (hL : L ≤ 2560) (C0 : lw_At p s m meth c b L xs) : W p l e room_1 s m #[Value.ref b] below meth c s.heap [] 0 0 (lw_Z below #[Value.ref b] s) (entryFrame m ([Value.ref b] : List Value).toArray 9) := by
  obtain ⟨hx, hb, hr, hml, hown, ht, hX, hbl, hlk, hgv⟩ := C0
  have hn : ∀ w ∈ nf, w.before #[Value.ref b] s = true := flat_of_before _ hgv
  have hst : l.stackTraces = false := by unfold Launch.stackTraces; rw [hflags]; decide
  have hts : ∀ w ∈ lwX, w.before #[Value.ref b] s = true := fun w hw => ht w (List.mem_filter.mp hw).1
  obtain ⟨dC, dI, dA, hK⟩ := st_cls ht
  obtain ⟨out, o, ho, hE⟩ := st_ext (L := L) (xs := xs) ht hn hX hbl
  obtain ⟨n, h', hrun, hc, hs⟩ := G L xs o hL
  have F : FrW (adr0 s.heap.size out) s.heap.size dC dI dA (x0 L xs o) 278 p l s m #[Value.ref b] meth c := ⟨hx, hb.trans mB_law.symm, hml, hr, hown, hts, hlk, fun z => (by cases z), hK, hE, Nat.le_refl _, fun k hk => adr0_nm hk, hst, fun k hk => (by
    rcases hk with rfl | rfl | rfl
    · exact va_AO.of (ht _ over_6)
    · exact va_AO.of (ht _ over_7)
    · exact va_AO.of (ht _ over_8))⟩
  have ha : ([Value.ref b] : List Value) = ([vR (40, 0, 0)] : List MV).map (toV (adr0 s.heap.size out)) := by
    show _ = [Value.ref (adr0 s.heap.size out (40, 0, 0))]
    rw [ho]
  have hl := lv_entry ([Value.ref b] : List Value) (n := 9) (Nat.le_of_ble_eq_true rfl)
  rw [lg_entry_eq]
  generalize (lg_sl ([Value.ref b] : List Value) ++ List.replicate (9 - (lg_sl ([Value.ref b] : List Value)).length) Slot.unset).toArray = mls at hl ⊢
  have hl' : lv_has mls (mL 278) (lsL (adr0 s.heap.size out) 0 (ent 278 [vR (40, 0, 0)])) := by
    unfold ent
    rw [ent_lsL [vR (40, 0, 0)] 0 _ rfl, ← ha]
    exact hl
  have P : PtW (adr0 s.heap.size out) s.heap.size dC dI dA (x0 L xs o) 278 s 0 0 (x0 L xs o) s.heap [] 0 0 (ent 278 [vR (40, 0, 0)]) mls := ⟨WR_x0, fun k q hq => (by cases hq), va_S.rf, ⟨Nat.le_refl _, Nat.le_refl _, rfl, rfl, fun _ => rfl⟩, hl', rfl, fun k v hk => (by
    left
    rcases k with _ | k
    · cases hk; rfl
    · have := List.mem_of_getElem? (show (List.replicate 8 (none : Option MV))[k]? = some (some v) from hk)
      rw [List.mem_replicate] at this
      cases this.2)⟩
  refine sw_all n 2040 278 0 _ [] _ _ h' hrun F P (Nat.le_of_ble_eq_true rfl) (Nat.le_of_ble_eq_true rfl) (show cu h' - 0 ≤ 603072 from hc) (show su h' - 0 ≤ 7178346 from hs) (fun pc1 ls1 st1 h1 H1 locs1 cells1 slots1 mls1 es P1 => ?_) (fun k pc1 H1 locs1 cells1 slots1 rest mls1 ce q9 ho => by cases ho) (fun k pc1 v H1 locs1 cells1 slots1 rest ls1 mls1 ce q9 l9 ho hk hi => by cases hi)
  obtain ⟨e1, rfl⟩ := end_law es
  have hh : h' = h1 := by
    rcases stp_dn es with ⟨z, -⟩ | ⟨-, z⟩
    · exact z
    · obtain ⟨y, z⟩ := z; cases z
  subst hh
  obtain ⟨w, hP, hS, ⟨a1, a2, a3, a4, a5⟩, -⟩ := P1
  refine W.base ?_
  refine va_forget (fun q hq => hS.2.2 q hq) ?_
  refine W.widen (k := 603072) (n := 7178346) (by omega) (by omega) ?_
  exact lw_ret (d0 := s.drawn) (Drawn.sameBut.refl s.drawn lw_cs) hx hb hr hlk (mB_law ▸ e1)
