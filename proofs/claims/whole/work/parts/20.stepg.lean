/-! THE END OF A FRAME: what is returned, thrown, caught -/
theorem ex8_0 : Cond.classLink (cN 8) 13 "java/lang/IllegalArgumentException" ∈ lwX := inT_mem (i := 490) (by decide +kernel)
theorem exc_0 : Cond.castable "java/lang/IllegalArgumentException" "java/lang/IllegalArgumentException" ∈ lwX := inT_mem (i := 499) (by decide +kernel)
theorem ex8_1 : Cond.classLink (cN 8) 15 "java/lang/IllegalStateException" ∈ lwX := inT_mem (i := 491) (by decide +kernel)
theorem exc_1 : Cond.castable "java/lang/IllegalStateException" "java/lang/IllegalStateException" ∈ lwX := inT_mem (i := 570) (by decide +kernel)
theorem ex8_2 : Cond.classLink (cN 8) 21 "java/lang/IndexOutOfBoundsException" ∈ lwX := inT_mem (i := 592) (by decide +kernel)
theorem exc_2 : Cond.castable "java/lang/IndexOutOfBoundsException" "java/lang/IndexOutOfBoundsException" ∈ lwX := inT_mem (i := 626) (by decide +kernel)
theorem ex8_3 : Cond.classLink (cN 8) 39 "java/util/NoSuchElementException" ∈ lwX := inT_mem (i := 699) (by decide +kernel)
theorem exc_3 : Cond.castable "java/util/NoSuchElementException" "java/util/NoSuchElementException" ∈ lwX := inT_mem (i := 710) (by decide +kernel)
theorem ex8_4 : Cond.classLink (cN 8) 50 "java/lang/UnsupportedOperationException" ∈ lwX := inT_mem (i := 763) (by decide +kernel)
theorem exc_4 : Cond.castable "java/lang/UnsupportedOperationException" "java/lang/UnsupportedOperationException" ∈ lwX := inT_mem (i := 784) (by decide +kernel)
theorem ex8_5 : Cond.classLink (cN 8) 118 "java/lang/ArithmeticException" ∈ lwX := inT_mem (i := 1095) (by decide +kernel)
theorem exc_5 : Cond.castable "java/lang/ArithmeticException" "java/lang/ArithmeticException" ∈ lwX := inT_mem (i := 1107) (by decide +kernel)
theorem toV_ref {adr : A3 → Nat} (o : Option A3) : toV adr (vO o) = .null ∨ ∃ a, toV adr (vO o) = .ref a := by
  cases o with
  | none => exact Or.inl rfl
  | some a => exact Or.inr ⟨_, rfl⟩
def WS (j : Nat) : List Cond := codeW j :: lwX
theorem xW_ot {w : Cond} (h : xW w = true) : vx_ot w = true := by
  simp only [xW, Bool.or_eq_true] at h
  simp only [vx_ot, Bool.or_eq_true]
  rcases h with h | h
  · exact Or.inr h
  · cases w <;> first | exact Or.inl rfl | cases h
theorem lwX_x {w : Cond} (h : w ∈ lwX) : xW w = true := (List.mem_filter.mp h).2
/-- the class links of the law's methods to the exceptions -/
theorem exc_link8 {c e : Nat} (h : lk2 tExc 8 c = some e) : Cond.classLink (cN 8) c (exN e) ∈ lwX ∧ Cond.castable (exN e) (exN e) ∈ lwX ∧ c ≠ 0 ∧ e < 6 := by
  have hm := lk2_mem h
  simp only [tExc, List.mem_cons, Prod.mk.injEq, List.not_mem_nil, or_false] at hm
  rcases hm with ⟨⟨z1, rfl⟩, rfl⟩ | ⟨⟨z1, rfl⟩, rfl⟩ | ⟨⟨z1, rfl⟩, rfl⟩ | ⟨⟨z1, rfl⟩, rfl⟩ | ⟨⟨z1, rfl⟩, rfl⟩ | ⟨⟨z1, rfl⟩, rfl⟩ | ⟨⟨z1, rfl⟩, rfl⟩ | ⟨⟨z1, rfl⟩, rfl⟩ | ⟨⟨z1, rfl⟩, rfl⟩ | ⟨⟨z1, rfl⟩, rfl⟩ | ⟨⟨z1, rfl⟩, rfl⟩ | ⟨⟨z1, rfl⟩, rfl⟩
  · exact ⟨ex8_0, exc_0, by decide, by decide⟩
  · exact ⟨ex8_1, exc_1, by decide, by decide⟩
  · cases z1
  · cases z1
  · exact ⟨ex8_2, exc_2, by decide, by decide⟩
  · cases z1
  · exact ⟨ex8_3, exc_3, by decide, by decide⟩
  · cases z1
  · exact ⟨ex8_4, exc_4, by decide, by decide⟩
  · cases z1
  · exact ⟨ex8_5, exc_5, by decide, by decide⟩
  · cases z1
theorem hnd_c8 : ∀ q ∈ tHnd, mC q.1 = 8 ∧ ∀ z ∈ q.2, (lk2 tExc 8 z.2.2.2).isSome = true := by decide +kernel
def sQ (adr : A3 → Nat) (B : Nat) (dC : Nat → ClassId) (dI : Nat → Nat → Nat) (dA : Nat → ClassId) (o : MO) (h' : Hp) : Array Value → State → Outcome → State → Prop := fun _ st oc t => (∃ v, o = .inl v ∧ oc = .returned (v.map (toV adr)) ∧ va_P (dC, dI) clsW (wsO adr dA h') t.heap) ∧ va_F (fun q => B ≤ q) st t
def sX (adr : A3 → Nat) (B : Nat) (dC : Nat → ClassId) (dI : Nat → Nat → Nat) (dA : Nat → ClassId) (o : MO) (h' : Hp) : String → State → State → Prop := fun E st t => (∃ k, o = .inr k ∧ k < 6 ∧ E = exN k ∧ va_P (dC, dI) clsW (wsO adr dA h') t.heap) ∧ va_F (fun q => B ≤ q) st t
section StepG
variable {adr : A3 → Nat} {B : Nat} {dC : Nat → ClassId} {dI : Nat → Nat → Nat} {dA : Nat → ClassId} {x : Hp} {c0 s0 : Nat}
variable {p : Program} {l : Launch} {en : Env} {R : Room} {s : State} {m : MethodId} {args : Array Value} {below : List Frame} {meth : Method} {c : Code} {H : Heap} {locs : List Loc} {cells slots : Nat} {Q : State → Prop}
/-- the table of a method's handlers -/
def TabW (i : Nat) (c : Code) : Prop := (lk1 tHnd i = none → ∀ z ∈ c.exceptionTable.toList, False) ∧ ∀ l, lk1 tHnd i = some l → c.exceptionTable.toList = tableOf l
theorem end_ret {i pc : Nat} {ls : LS3} {st : List MV} {h : Hp} {v : Option MV} {h' : Hp} {mls : Array Slot} {mc ms : Nat} (F : FrW adr B dC dI dA x i p l s m args meth c)
    (e : stp i pc ls st h = some (.inr (.inl (.inl v, h')))) (P : PtW adr B dC dI dA x i s c0 s0 h H locs cells slots ls mls) (hmc : mc = cu h' - c0) (hms : ms = su h' - s0) :
    W p l en R s m args below meth c H locs cells slots (vx_MQ below (sQ adr B dC dI dA (.inl v) h') (sX adr B dC dI dA (.inl v) h') args s mc ms (fun q => B ≤ q)) (F0 m pc mls (st.map (toV adr))) := by
  obtain ⟨hx, hb, hml, hr, hown, hts, hlk, hin, hKv, hE, hBs, hadr, hst, hAO⟩ := id F
  obtain ⟨hw, hP, hS, ⟨a1, a2, a3, a4, a5⟩, hl, hn, hD⟩ := id P
  have hh : h' = h := by
    rcases stp_dn e with ⟨z, -⟩ | ⟨-, z⟩
    · exact z
    · obtain ⟨y, z⟩ := z; cases z
  subst hh
  have emc : mc = cells := by omega
  have ems : ms = slots := by omega
  subst emc; subst ems
  have hq : ∀ (w : Option Value), w = v.map (toV adr) → ∀ t : State, t.heap = H → s.WarmedH t.vm → sQ adr B dC dI dA (.inl v) h' args s (.returned w) t := by
    intro w hw9 t ht _
    exact ⟨⟨v, rfl, by rw [hw9], by rw [ht]; exact hP⟩, hS.F ht⟩
  refine vx_ret ?_
  unfold stp at e
  split at e
  · rename_i ins len hd
    cases ins <;> simp only [exec1, ldI, ldA, stI, stA, stv, bin, br1, br2, xGet, xPut, xAld, xTab, xCall, xNew, xNewA, xPrim, jmp] at e <;> (try (cases e; done))
    case ireturn =>
      split at e
      · rename_i hlen; subst hlen
        unfold xRet at e
        split at e
        · cases e
          exact W.iret hx hb (by rw [hr]; assumption) (hq _ rfl) hS.2.2 hd hlk
        · split at e
          · rename_i z; cases e
            exact W.zret hx hb (ty := .boolean) (by rw [hr]; assumption) (by rcases z with rfl | rfl <;> rfl) (hq _ rfl) hS.2.2 hd hlk
          · cases e
        · split at e
          · rename_i z; cases e
            exact W.zret hx hb (ty := .byte) (by rw [hr]; assumption) (by rw [z]; rfl) (hq _ rfl) hS.2.2 hd hlk
          · cases e
        · split at e
          · rename_i z; cases e
            refine W.zret hx hb (ty := .char) (by rw [hr]; assumption) ?_ (hq _ rfl) hS.2.2 hd hlk
            rw [vp_nar_char] at z
            show Value.int _ = _
            rw [z]
          · cases e
        · cases e
      · cases e
    case areturn =>
      split at e
      · rename_i hlen; subst hlen
        split at e
        · cases e
          exact W.aret hx hb (by rw [hr]; assumption) (Or.inl ⟨_, rfl⟩) (toV_ref _) (hq _ rfl) hS.2.2 hd hlk
        · cases e
      · cases e
    case dreturn =>
      split at e
      · rename_i hlen; subst hlen
        split at e
        · cases e
          exact W.dret hx hb (by rw [hr]; assumption) (hq _ rfl) hS.2.2 hd hlk
        · cases e
      · cases e
    case return_ =>
      split at e
      · rename_i hlen; obtain ⟨hlen, hy, hst0⟩ := hlen; subst hlen; subst hst0; cases e
        exact W.vret hx hb (by rw [hr]; exact hy) (hq _ rfl) hS.2.2 hd hlk
      · cases e
    all_goals (repeat' split at e)
    all_goals (cases e; done)
  · cases e
/-- not caught in this frame -/
theorem end_out {i pc k : Nat} {h' : Hp} {H1 : Heap} {locs1 : List Loc} {cells1 slots1 : Nat} {rest : List Value} {ls : Array Slot} {ce : Cell} {q9 : Addr} {mc ms : Nat} (F : FrW adr B dC dI dA x i p l s m args meth c) (hT : TabW i c) (hi : lk1 tHnd i = none) (hk : k < 6)
    (hP : va_P (dC, dI) clsW (wsO adr dA h') H1) (hS : va_S (fun q => B ≤ q) s.heap H1 locs1) (hmc : cells1 ≤ mc) (hms : slots1 ≤ ms) (hce : H1[q9]? = some ce) (hv : ce.vm = .none) (hcl : s.vm.findClass (exN k) = some ce.cls) :
    vx_W p l en R s m args below meth c H1 locs1 cells1 slots1 (vx_MQ below (sQ adr B dC dI dA (.inr k) h') (sX adr B dC dI dA (.inr k) h') args s mc ms (fun q => B ≤ q)) (F0 m pc ls rest) q9 := by
  obtain ⟨hx, hb, hml, hr, hown, hts, hlk, hin, hKv, hE, hBs, hadr, hst, hAO⟩ := id F
  exact vx_out (fun z hz => (hT.1 hi z hz).elim) hlk hce hv hcl (fun t ht _ => ⟨⟨k, rfl, hk, rfl, by rw [ht]; exact hP⟩, hS.F ht⟩) hS.2.2 hmc hms
theorem wsO_gb {h : Hp} : wsO adr dA (gb h) = wsO adr dA h := rfl
/-- 'throw new E(text)' -/
theorem end_throw {i pc k : Nat} {ls : LS3} {st : List MV} {h : Hp} {h' : Hp} {mls : Array Slot} {mc ms : Nat} (F : FrW adr B dC dI dA x i p l s m args meth c) (hT : TabW i c)
    (e : stp i pc ls st h = some (.inr (.inl (.inr k, h')))) (P : PtW adr B dC dI dA x i s c0 s0 h H locs cells slots ls mls) (hmc : mc = cu h' - c0) (hms : ms = su h' - s0)
    (hRf : 8 ≤ R.frames) (hRl : 200 ≤ R.locals) (hRc : cu h' - c0 ≤ R.cells) (hRs : su h' - s0 ≤ R.slots) :
    W p l en R s m args below meth c H locs cells slots (vx_MQ below (sQ adr B dC dI dA (.inr k) h') (sX adr B dC dI dA (.inr k) h') args s mc ms (fun q => B ≤ q)) (F0 m pc mls (st.map (toV adr))) := by
  obtain ⟨hx, hb, hml, hr, hown, hts, hlk, hin, hKv, hE, hBs, hadr, hst, hAO⟩ := id F
  obtain ⟨hw, hP, hS, ⟨a1, a2, a3, a4, a5⟩, hl, hn, hD⟩ := id P
  have hh : h' = gb h := by
    rcases stp_dn e with ⟨-, z⟩ | ⟨z, -⟩
    · obtain ⟨y, z⟩ := z; cases z
    · exact z
  subst hh
  have hcu : cu (gb h) = cu h + 1 := rfl
  have hsu : su (gb h) = su h + 6 := rfl
  have hsz : mls.size = c.maxLocals := by rw [hml]; exact hl.1
  have key : isThr i pc = some k ∧ mC i = 6 ∧ catS st ≤ 8 := by
    unfold stp at e
    split at e
    · rename_i ins len hd
      cases ins <;> simp only [exec1, ldI, ldA, stI, stA, stv, bin, br1, br2, xGet, xPut, xAld, xTab, xCall, xNewA, xPrim, jmp, xRet] at e <;> (try (cases e; done))
      case new idx =>
        split at e
        · unfold xNew at e
          split at e
          · split at e <;> cases e
          · split at e
            · rename_i k9 hk9
              split at e
              · rename_i z; cases e
                exact ⟨hk9, z⟩
              · cases e
            · cases e
        · cases e
      all_goals (repeat' split at e)
      all_goals (cases e; done)
    · cases e
  obtain ⟨ht, hc6, hst8⟩ := key
  have hi0 : lk1 tHnd i = none := by
    cases hz : lk1 tHnd i with
    | none => rfl
    | some l9 =>
      have z := (hnd_c8 _ (lk1_mem hz)).1
      rw [hc6] at z; cases z
  have hout : ∀ z ∈ c.exceptionTable.toList, False := hT.1 hi0
  have e9 := toV_sum adr st
  rw [hc6] at hown
  have hxc : k < 6 → ∀ t : State, s.vm.Alike t.vm → H.size ≤ t.heap.size → (∀ q : Nat, q < H.size → t.heap[q]? = H[q]?) → sX adr B dC dI dA (.inr k) (gb h) (exN k) s t := by
    intro hk6 t _ t1 t2
    refine ⟨⟨k, rfl, hk6, rfl, ?_⟩, Nat.le_trans hS.1 t1, fun q z1 z2 => (t2 q (Nat.lt_of_lt_of_le z1 hS.1)).trans (hS.2.1 q z1 z2)⟩
    rw [wsO_gb]
    exact hP.kept fun k9 q9 hq9 => t2 _ (vx_lt hP hq9)
  unfold isThr at ht
  split at ht
  · rename_i idx hd0
    split at ht
    · cases ht
    · rename_i e0 he0
      have main : ∀ (n is ic : Nat) (d3 : decode (mB i) (pc + 3) = .ok (.dup, 1)) (d4 : n = 2 ∧ decode (mB i) (pc + 4) = .ok (.ldc is, 2) ∨ n = 3 ∧ decode (mB i) (pc + 4) = .ok (.ldc_w is, 3)) (d6 : decode (mB i) (pc + 4 + n) = .ok (.invokespecial ic, 3)) (d9 : decode (mB i) (pc + 4 + n + 3) = .ok (.athrow, 1)) (ht1 : (lk2 tTxt (mC i) is).isSome = true) (ht2 : lk2 tExI (mC i) ic = some e0) (hk : e0 = k), W p l en R s m args below meth c H locs cells slots (vx_MQ below (sQ adr B dC dI dA (.inr k) (gb h)) (sX adr B dC dI dA (.inr k) (gb h)) args s mc ms (fun q => B ≤ q)) (F0 m pc mls (st.map (toV adr))) := by
        intro n is ic d3 d4 d6 d9 ht1 ht2 hk
        subst hk
        rw [hc6] at he0 ht1 ht2
        obtain ⟨tx, htx⟩ := Option.isSome_iff_exists.mp ht1
        obtain ⟨sa, hsa⟩ := hE.2.2.2.2.2.2.2.2.1 ((6, is), tx) (lk2_mem htx)
        have hm1 := lk2_mem he0
        have hm2 := lk2_mem ht2
        simp only [tExc, List.mem_cons, Prod.mk.injEq, List.not_mem_nil, or_false] at hm1
        simp only [tExI, List.mem_cons, Prod.mk.injEq, List.not_mem_nil, or_false] at hm2
        rcases hm1 with ⟨⟨z1, rfl⟩, rfl⟩ | ⟨⟨z1, rfl⟩, rfl⟩ | ⟨⟨z1, rfl⟩, rfl⟩ | ⟨⟨z1, rfl⟩, rfl⟩ | ⟨⟨z1, rfl⟩, rfl⟩ | ⟨⟨z1, rfl⟩, rfl⟩ | ⟨⟨z1, rfl⟩, rfl⟩ | ⟨⟨z1, rfl⟩, rfl⟩ | ⟨⟨z1, rfl⟩, rfl⟩ | ⟨⟨z1, rfl⟩, rfl⟩ | ⟨⟨z1, rfl⟩, rfl⟩ | ⟨⟨z1, rfl⟩, rfl⟩
        · cases z1
        · cases z1
        · rcases hm2 with ⟨⟨z2, rfl⟩, z3⟩ | ⟨⟨z2, rfl⟩, z3⟩ | ⟨⟨z2, rfl⟩, z3⟩ | ⟨⟨z2, rfl⟩, z3⟩ | ⟨⟨z2, rfl⟩, z3⟩ | ⟨⟨z2, rfl⟩, z3⟩
          · rcases d4 with ⟨rfl, d4⟩ | ⟨rfl, d4⟩
            · exact vx_throwS (names := exNs) (cls := "java/lang/IllegalArgumentException") hx hb hst hown (by decide +kernel) (by decide +kernel) (hts _ exk_0) (hts _ exi_0) hsa (fun w hw9 => hts _ (exm_0 w hw9)) (fun w hw9 => by
                rcases List.mem_cons.mp hw9 with rfl | hw9
                · exact xW_ot (lwX_x exk_0)
                · rcases List.mem_cons.mp hw9 with rfl | hw9
                  · exact xW_ot (lwX_x exi_0)
                  · exact xW_ot (List.all_eq_true.mp exw_0 w hw9)) hE.2.2.2.2.2.1 hE.2.2.2.2.2.2.1 hS hsz hd0 d3 d4 d6 d9 (fun z hz => (hout z hz).elim) (by show 2 + 3 < R.frames; omega) (by show _ + (13 * (2 + 1) + 43) ≤ R.locals; omega) (by omega) (by omega) hlk (hxc (by decide)) hS.2.2 (by omega) (by omega)
            · exact vx_throwSW (names := exNs) (cls := "java/lang/IllegalArgumentException") hx hb hst hown (by decide +kernel) (by decide +kernel) (hts _ exk_0) (hts _ exi_0) hsa (fun w hw9 => hts _ (exm_0 w hw9)) (fun w hw9 => by
                rcases List.mem_cons.mp hw9 with rfl | hw9
                · exact xW_ot (lwX_x exk_0)
                · rcases List.mem_cons.mp hw9 with rfl | hw9
                  · exact xW_ot (lwX_x exi_0)
                  · exact xW_ot (List.all_eq_true.mp exw_0 w hw9)) hE.2.2.2.2.2.1 hE.2.2.2.2.2.2.1 hS hsz hd0 d3 d4 d6 d9 (fun z hz => (hout z hz).elim) (by show 2 + 3 < R.frames; omega) (by show _ + (13 * (2 + 1) + 43) ≤ R.locals; omega) (by omega) (by omega) hlk (hxc (by decide)) hS.2.2 (by omega) (by omega)
          · cases z3
          · cases z3
          · cases z3
          · cases z3
          · cases z3
        · rcases hm2 with ⟨⟨z2, rfl⟩, z3⟩ | ⟨⟨z2, rfl⟩, z3⟩ | ⟨⟨z2, rfl⟩, z3⟩ | ⟨⟨z2, rfl⟩, z3⟩ | ⟨⟨z2, rfl⟩, z3⟩ | ⟨⟨z2, rfl⟩, z3⟩
          · cases z3
          · rcases d4 with ⟨rfl, d4⟩ | ⟨rfl, d4⟩
            · exact vx_throwS (names := exNs) (cls := "java/lang/IllegalStateException") hx hb hst hown (by decide +kernel) (by decide +kernel) (hts _ exk_1) (hts _ exi_1) hsa (fun w hw9 => hts _ (exm_1 w hw9)) (fun w hw9 => by
                rcases List.mem_cons.mp hw9 with rfl | hw9
                · exact xW_ot (lwX_x exk_1)
                · rcases List.mem_cons.mp hw9 with rfl | hw9
                  · exact xW_ot (lwX_x exi_1)
                  · exact xW_ot (List.all_eq_true.mp exw_1 w hw9)) hE.2.2.2.2.2.1 hE.2.2.2.2.2.2.1 hS hsz hd0 d3 d4 d6 d9 (fun z hz => (hout z hz).elim) (by show 2 + 3 < R.frames; omega) (by show _ + (13 * (2 + 1) + 43) ≤ R.locals; omega) (by omega) (by omega) hlk (hxc (by decide)) hS.2.2 (by omega) (by omega)
            · exact vx_throwSW (names := exNs) (cls := "java/lang/IllegalStateException") hx hb hst hown (by decide +kernel) (by decide +kernel) (hts _ exk_1) (hts _ exi_1) hsa (fun w hw9 => hts _ (exm_1 w hw9)) (fun w hw9 => by
                rcases List.mem_cons.mp hw9 with rfl | hw9
                · exact xW_ot (lwX_x exk_1)
                · rcases List.mem_cons.mp hw9 with rfl | hw9
                  · exact xW_ot (lwX_x exi_1)
                  · exact xW_ot (List.all_eq_true.mp exw_1 w hw9)) hE.2.2.2.2.2.1 hE.2.2.2.2.2.2.1 hS hsz hd0 d3 d4 d6 d9 (fun z hz => (hout z hz).elim) (by show 2 + 3 < R.frames; omega) (by show _ + (13 * (2 + 1) + 43) ≤ R.locals; omega) (by omega) (by omega) hlk (hxc (by decide)) hS.2.2 (by omega) (by omega)
          · cases z3
          · cases z3
          · cases z3
          · cases z3
        · cases z1
        · rcases hm2 with ⟨⟨z2, rfl⟩, z3⟩ | ⟨⟨z2, rfl⟩, z3⟩ | ⟨⟨z2, rfl⟩, z3⟩ | ⟨⟨z2, rfl⟩, z3⟩ | ⟨⟨z2, rfl⟩, z3⟩ | ⟨⟨z2, rfl⟩, z3⟩
          · cases z3
          · cases z3
          · rcases d4 with ⟨rfl, d4⟩ | ⟨rfl, d4⟩
            · exact vx_throwS (names := exNs) (cls := "java/lang/IndexOutOfBoundsException") hx hb hst hown (by decide +kernel) (by decide +kernel) (hts _ exk_2) (hts _ exi_2) hsa (fun w hw9 => hts _ (exm_2 w hw9)) (fun w hw9 => by
                rcases List.mem_cons.mp hw9 with rfl | hw9
                · exact xW_ot (lwX_x exk_2)
                · rcases List.mem_cons.mp hw9 with rfl | hw9
                  · exact xW_ot (lwX_x exi_2)
                  · exact xW_ot (List.all_eq_true.mp exw_2 w hw9)) hE.2.2.2.2.2.1 hE.2.2.2.2.2.2.1 hS hsz hd0 d3 d4 d6 d9 (fun z hz => (hout z hz).elim) (by show 2 + 3 < R.frames; omega) (by show _ + (13 * (2 + 1) + 43) ≤ R.locals; omega) (by omega) (by omega) hlk (hxc (by decide)) hS.2.2 (by omega) (by omega)
            · exact vx_throwSW (names := exNs) (cls := "java/lang/IndexOutOfBoundsException") hx hb hst hown (by decide +kernel) (by decide +kernel) (hts _ exk_2) (hts _ exi_2) hsa (fun w hw9 => hts _ (exm_2 w hw9)) (fun w hw9 => by
                rcases List.mem_cons.mp hw9 with rfl | hw9
                · exact xW_ot (lwX_x exk_2)
                · rcases List.mem_cons.mp hw9 with rfl | hw9
                  · exact xW_ot (lwX_x exi_2)
                  · exact xW_ot (List.all_eq_true.mp exw_2 w hw9)) hE.2.2.2.2.2.1 hE.2.2.2.2.2.2.1 hS hsz hd0 d3 d4 d6 d9 (fun z hz => (hout z hz).elim) (by show 2 + 3 < R.frames; omega) (by show _ + (13 * (2 + 1) + 43) ≤ R.locals; omega) (by omega) (by omega) hlk (hxc (by decide)) hS.2.2 (by omega) (by omega)
          · cases z3
          · cases z3
          · cases z3
        · cases z1
        · rcases hm2 with ⟨⟨z2, rfl⟩, z3⟩ | ⟨⟨z2, rfl⟩, z3⟩ | ⟨⟨z2, rfl⟩, z3⟩ | ⟨⟨z2, rfl⟩, z3⟩ | ⟨⟨z2, rfl⟩, z3⟩ | ⟨⟨z2, rfl⟩, z3⟩
          · cases z3
          · cases z3
          · cases z3
          · exact nse_throw (n := n) (Y0 := "java/lang/RuntimeException") (names := ["java/lang/Exception"]) (cls := "java/util/NoSuchElementException") hx hb hst hown (by decide +kernel) (by decide +kernel) (hts _ exk_3) (hts _ exi_3) hsa (fun w hw9 => hts _ (exm_3 w hw9)) (fun w hw9 => by
              rcases List.mem_cons.mp hw9 with rfl | hw9
              · exact xW_ot (lwX_x exk_3)
              · rcases List.mem_cons.mp hw9 with rfl | hw9
                · exact xW_ot (lwX_x exi_3)
                · exact xW_ot (List.all_eq_true.mp exw_3 w hw9)) hE.2.2.2.2.2.1 hE.2.2.2.2.2.2.1 hS hsz hd0 d3 d4 d6 d9 hout (by show 2 + 3 < R.frames; omega) (by show _ + (13 * (2 + 1) + 43) ≤ R.locals; omega) (by omega) (by omega) hlk (hxc (by decide)) hS.2.2 (by omega) (by omega)
          · cases z3
          · cases z3
        · cases z1
        · rcases hm2 with ⟨⟨z2, rfl⟩, z3⟩ | ⟨⟨z2, rfl⟩, z3⟩ | ⟨⟨z2, rfl⟩, z3⟩ | ⟨⟨z2, rfl⟩, z3⟩ | ⟨⟨z2, rfl⟩, z3⟩ | ⟨⟨z2, rfl⟩, z3⟩
          · cases z3
          · cases z3
          · cases z3
          · cases z3
          · rcases d4 with ⟨rfl, d4⟩ | ⟨rfl, d4⟩
            · exact vx_throwS (names := exNs) (cls := "java/lang/UnsupportedOperationException") hx hb hst hown (by decide +kernel) (by decide +kernel) (hts _ exk_4) (hts _ exi_4) hsa (fun w hw9 => hts _ (exm_4 w hw9)) (fun w hw9 => by
                rcases List.mem_cons.mp hw9 with rfl | hw9
                · exact xW_ot (lwX_x exk_4)
                · rcases List.mem_cons.mp hw9 with rfl | hw9
                  · exact xW_ot (lwX_x exi_4)
                  · exact xW_ot (List.all_eq_true.mp exw_4 w hw9)) hE.2.2.2.2.2.1 hE.2.2.2.2.2.2.1 hS hsz hd0 d3 d4 d6 d9 (fun z hz => (hout z hz).elim) (by show 2 + 3 < R.frames; omega) (by show _ + (13 * (2 + 1) + 43) ≤ R.locals; omega) (by omega) (by omega) hlk (hxc (by decide)) hS.2.2 (by omega) (by omega)
            · exact vx_throwSW (names := exNs) (cls := "java/lang/UnsupportedOperationException") hx hb hst hown (by decide +kernel) (by decide +kernel) (hts _ exk_4) (hts _ exi_4) hsa (fun w hw9 => hts _ (exm_4 w hw9)) (fun w hw9 => by
                rcases List.mem_cons.mp hw9 with rfl | hw9
                · exact xW_ot (lwX_x exk_4)
                · rcases List.mem_cons.mp hw9 with rfl | hw9
                  · exact xW_ot (lwX_x exi_4)
                  · exact xW_ot (List.all_eq_true.mp exw_4 w hw9)) hE.2.2.2.2.2.1 hE.2.2.2.2.2.2.1 hS hsz hd0 d3 d4 d6 d9 (fun z hz => (hout z hz).elim) (by show 2 + 3 < R.frames; omega) (by show _ + (13 * (2 + 1) + 43) ≤ R.locals; omega) (by omega) (by omega) hlk (hxc (by decide)) hS.2.2 (by omega) (by omega)
          · cases z3
        · cases z1
        · rcases hm2 with ⟨⟨z2, rfl⟩, z3⟩ | ⟨⟨z2, rfl⟩, z3⟩ | ⟨⟨z2, rfl⟩, z3⟩ | ⟨⟨z2, rfl⟩, z3⟩ | ⟨⟨z2, rfl⟩, z3⟩ | ⟨⟨z2, rfl⟩, z3⟩
          · cases z3
          · cases z3
          · cases z3
          · cases z3
          · cases z3
          · rcases d4 with ⟨rfl, d4⟩ | ⟨rfl, d4⟩
            · exact vx_throwS (names := exNs) (cls := "java/lang/ArithmeticException") hx hb hst hown (by decide +kernel) (by decide +kernel) (hts _ exk_5) (hts _ exi_5) hsa (fun w hw9 => hts _ (exm_5 w hw9)) (fun w hw9 => by
                rcases List.mem_cons.mp hw9 with rfl | hw9
                · exact xW_ot (lwX_x exk_5)
                · rcases List.mem_cons.mp hw9 with rfl | hw9
                  · exact xW_ot (lwX_x exi_5)
                  · exact xW_ot (List.all_eq_true.mp exw_5 w hw9)) hE.2.2.2.2.2.1 hE.2.2.2.2.2.2.1 hS hsz hd0 d3 d4 d6 d9 (fun z hz => (hout z hz).elim) (by show 2 + 3 < R.frames; omega) (by show _ + (13 * (2 + 1) + 43) ≤ R.locals; omega) (by omega) (by omega) hlk (hxc (by decide)) hS.2.2 (by omega) (by omega)
            · exact vx_throwSW (names := exNs) (cls := "java/lang/ArithmeticException") hx hb hst hown (by decide +kernel) (by decide +kernel) (hts _ exk_5) (hts _ exi_5) hsa (fun w hw9 => hts _ (exm_5 w hw9)) (fun w hw9 => by
                rcases List.mem_cons.mp hw9 with rfl | hw9
                · exact xW_ot (lwX_x exk_5)
                · rcases List.mem_cons.mp hw9 with rfl | hw9
                  · exact xW_ot (lwX_x exi_5)
                  · exact xW_ot (List.all_eq_true.mp exw_5 w hw9)) hE.2.2.2.2.2.1 hE.2.2.2.2.2.2.1 hS hsz hd0 d3 d4 d6 d9 (fun z hz => (hout z hz).elim) (by show 2 + 3 < R.frames; omega) (by show _ + (13 * (2 + 1) + 43) ≤ R.locals; omega) (by omega) (by omega) hlk (hxc (by decide)) hS.2.2 (by omega) (by omega)
      repeat' split at ht
      all_goals first
        | (cases ht; done)
        | (rename_i z; exact main 2 _ _ (by assumption) (Or.inl ⟨rfl, by assumption⟩) (by assumption) (by assumption) z.1 z.2 (Option.some.inj ht))
        | (rename_i z; exact main 3 _ _ (by assumption) (Or.inr ⟨rfl, by assumption⟩) (by assumption) (by assumption) z.1 z.2 (Option.some.inj ht))
  · cases ht
end StepG
