/-! CALLS, CATCHES, and the whole: a run of the mini machine is a contract of the machine -/
theorem hndF_sp {i pc e : Nat} {v : Int32} : ∀ (l : List (Nat × Nat × Nat × Nat)), hndF l i pc e = some v → ∃ pre q suf, l = pre ++ q :: suf ∧ (q.1 ≤ pc ∧ pc < q.2.1 ∧ lk2 tExc (mC i) q.2.2.2 = some e) ∧ hndAt i q.2.2.1 = some v ∧ ∀ z ∈ pre, ¬ (z.1 ≤ pc ∧ pc < z.2.1 ∧ lk2 tExc (mC i) z.2.2.2 = some e)
  | [], h => by cases h
  | (a, b, hp, cc) :: r, h => by
    unfold hndF at h
    split at h
    · rename_i q
      exact ⟨[], _, r, rfl, q, h, fun z hz => absurd hz List.not_mem_nil⟩
    · rename_i q
      obtain ⟨pre, q1, suf, h1, h2, h3, h4⟩ := hndF_sp r h
      refine ⟨(a, b, hp, cc) :: pre, q1, suf, by rw [h1]; rfl, h2, h3, fun z hz => ?_⟩
      rcases List.mem_cons.mp hz with rfl | hz
      · exact q
      · exact h4 z hz
theorem hndAt_sp {i hp : Nat} {v : Int32} (h : hndAt i hp = some v) : mR i = some .int ∧ ∃ n : Int, v = Int32.ofInt n ∧ ((∃ k : Fin 4, decode (mB i) hp = .ok (.astore_n k, 1) ∧ decode (mB i) (hp + 1) = .ok (.iconst n, 1) ∧ decode (mB i) (hp + 1 + 1) = .ok (.ireturn, 1) ∧ k.val < mL i) ∨ ∃ k, decode (mB i) hp = .ok (.astore k, 2) ∧ decode (mB i) (hp + 2) = .ok (.iconst n, 1) ∧ decode (mB i) (hp + 2 + 1) = .ok (.ireturn, 1) ∧ k < mL i) := by
  unfold hndAt at h
  split at h
  · split at h
    · split at h
      · rename_i z; cases h
        exact ⟨z.2, _, rfl, Or.inl ⟨_, by assumption, by assumption, by assumption, z.1⟩⟩
      · cases h
    · cases h
  · split at h
    · split at h
      · rename_i z; cases h
        exact ⟨z.2, _, rfl, Or.inr ⟨_, by assumption, by assumption, by assumption, z.1⟩⟩
      · cases h
    · cases h
  · cases h
theorem ent_lsL {adr : A3 → Nat} : ∀ (As : List MV) (n k : Nat), As.all cat1 = true → lsL adr n (As.map some ++ List.replicate k none) = lv_args n (As.map (toV adr)) := by
  intro As
  induction As with
  | nil =>
    intro n k _
    show lsL adr n (List.replicate k none) = []
    induction k generalizing n with
    | zero => rfl
    | succ k ih => rw [List.replicate_succ, lsL]; exact ih _
  | cons v r ih =>
    intro n k h
    simp only [List.all_cons, Bool.and_eq_true] at h
    show (n, toV adr v) :: lsL adr (n + 1) (r.map some ++ List.replicate k none) = (n, toV adr v) :: lv_args (if (toV adr v).category = 2 then n + 2 else n + 1) (r.map (toV adr))
    rw [ih _ _ h.2, toV_cat1 h.1, if_neg (by decide)]
theorem sl_len {adr : A3 → Nat} : ∀ (As : List MV), As.all cat1 = true → (lg_sl (As.map (toV adr))).length = As.length := by
  intro As
  induction As with
  | nil => intro _; rfl
  | cons v r ih =>
    intro h
    simp only [List.all_cons, Bool.and_eq_true] at h
    have e1 := ih h.2
    unfold lg_sl at e1 ⊢
    rw [List.map_cons, List.flatMap_cons, if_neg (by rw [toV_cat1 h.1]; decide), List.length_append, e1]
    simp [Nat.add_comm]
theorem call_info {i pc : Nat} {ls : LS3} {st : List MV} {h : Hp} {j : Nat} {As rest : List MV} (e : stp i pc ls st h = some (.inr (.inr (j, As, rest)))) : ∃ idx kd n, lk2 tCall (mC i) idx = some (kd, j, n) ∧ ((kd = 0 ∧ decode (mB i) pc = .ok (.invokevirtual idx, 3)) ∨ ((kd = 1 ∨ kd = 3) ∧ decode (mB i) pc = .ok (.invokestatic idx, 3)) ∨ (kd = 2 ∧ decode (mB i) pc = .ok (.invokespecial idx, 3))) ∧ catS rest ≤ 8 ∧ As.all cat1 = true ∧
    ((kd = 0 ∨ kd = 2) → ∃ a As', As = vR a :: As' ∧ st = As'.reverse ++ vR a :: rest ∧ As'.length = n ∧ okK h a (mC j) ∧ (kd = 2 → gS h a = (1, mC j))) ∧ ((kd = 1 ∨ kd = 3) → st = As.reverse ++ rest ∧ As.length = n) := by
  have key : ∀ (idx : Nat) (kinds : List Nat), xCall i idx kinds st h = some (.inr (.inr (j, As, rest))) → ∃ kd n, kd ∈ kinds ∧ lk2 tCall (mC i) idx = some (kd, j, n) ∧ catS rest ≤ 8 ∧ As.all cat1 = true ∧
      ((kd = 0 ∨ kd = 2) → ∃ a As', As = vR a :: As' ∧ st = As'.reverse ++ vR a :: rest ∧ As'.length = n ∧ okK h a (mC j) ∧ (kd = 2 → gS h a = (1, mC j))) ∧ ((kd = 1 ∨ kd = 3) → st = As.reverse ++ rest ∧ As.length = n) := by
    intro idx kinds ec
    unfold xCall at ec
    split at ec
    · cases ec
    · rename_i kd j0 n hk
      split at ec
      · cases ec
      · rename_i hkn
        have hkn1 : kd ∈ kinds ∧ n < st.length + 1 := by
          by_cases z : kd ∈ kinds ∧ n < st.length + 1
          · exact z
          · exact absurd z hkn
        split at ec
        · rename_i h02
          split at ec
          · rename_i a r hdr
            split at ec
            · rename_i q
              cases ec
              have hst : st = (st.take n).reverse.reverse ++ vR a :: rest := by
                rw [List.reverse_reverse]
                have := (List.take_append_drop n st).symm
                rw [hdr] at this
                exact this
              refine ⟨kd, n, hkn1.1, hk, q.2.2.2, ?_, fun _ => ⟨a, (st.take n).reverse, rfl, hst, by rw [List.length_reverse, List.length_take]; omega, q.1, q.2.1⟩, fun z => by omega⟩
              rw [List.all_cons, List.all_reverse, q.2.2.1]; rfl
            · cases ec
          · cases ec
        · rename_i h02
          split at ec
          · rename_i q
            cases ec
            refine ⟨kd, n, hkn1.1, hk, q.2, by rw [List.all_reverse]; exact q.1, fun z => absurd z h02, fun _ => ⟨by rw [List.reverse_reverse, List.take_append_drop], by rw [List.length_reverse, List.length_take]; omega⟩⟩
          · cases ec
  unfold stp at e
  split at e
  · rename_i ins len hd
    cases ins <;> simp only [exec1, ldI, ldA, stI, stA, stv, bin, br1, br2, xGet, xPut, xAld, xTab, xNew, xNewA, jmp, xRet] at e <;> (try (cases e; done))
    case invokevirtual idx =>
      split at e
      · rename_i hlen; subst hlen
        obtain ⟨kd, n, k1, k2, k3⟩ := key idx [0] e
        simp only [List.mem_cons, List.not_mem_nil, or_false] at k1
        exact ⟨idx, kd, n, k2, Or.inl ⟨k1, hd⟩, k3⟩
      · cases e
    case invokestatic idx =>
      split at e
      · rename_i hlen; subst hlen
        split at e
        · unfold xPrim at e
          repeat' split at e
          all_goals (cases e; done)
        · obtain ⟨kd, n, k1, k2, k3⟩ := key idx [1, 3] e
          simp only [List.mem_cons, List.not_mem_nil, or_false] at k1
          exact ⟨idx, kd, n, k2, Or.inr (Or.inl ⟨k1, hd⟩), k3⟩
      · cases e
    case invokespecial idx =>
      split at e
      · rename_i hlen; subst hlen
        split at e
        · unfold xPrim at e
          repeat' split at e
          all_goals (cases e; done)
        · obtain ⟨kd, n, k1, k2, k3⟩ := key idx [2] e
          simp only [List.mem_cons, List.not_mem_nil, or_false] at k1
          exact ⟨idx, kd, n, k2, Or.inr (Or.inr ⟨k1, hd⟩), k3⟩
      · cases e
    all_goals (repeat' split at e)
    all_goals (cases e; done)
  · cases e
section StepH
variable {adr : A3 → Nat} {B : Nat} {dC : Nat → ClassId} {dI : Nat → Nat → Nat} {dA : Nat → ClassId} {x : Hp} {c0 s0 : Nat}
variable {p : Program} {l : Launch} {en : Env} {R : Room} {s : State} {m : MethodId} {args : Array Value} {below : List Frame} {meth : Method} {c : Code} {H : Heap} {locs : List Loc} {cells slots : Nat} {Q : State → Prop}
/-- caught in this frame: the handler stores what it got and answers a number -/
theorem end_catch {i pc k d : Nat} {v : Int32} {h' : Hp} {H1 : Heap} {locs1 : List Loc} {cells1 slots1 : Nat} {rest : List Value} {mls : Array Slot} {ls : LS3} {ce : Cell} {q9 : Addr} {mc ms : Nat} (F : FrW adr B dC dI dA x i p l s m args meth c) (hT : TabW i c) {l9 : List (Nat × Nat × Nat × Nat)} (hi : lk1 tHnd i = some l9) (hk : k < 6) (hh : hnd i pc k = some v)
    (hl : lv_has mls (mL i) (lsL adr 0 ls))
    (hP : va_P (dC, dI) clsW (wsO adr dA h') H1) (hS : va_S (fun q => B ≤ q) s.heap H1 locs1) (hmc : cells1 = mc) (hms : slots1 = ms) (hce : H1[q9]? = some ce) (hv : ce.vm = .none) (hcl : s.vm.findClass (exN k) = some ce.cls) :
    vx_W p l en R s m args below meth c H1 locs1 cells1 slots1 (vx_MQ below (sQ adr B dC dI dA (.inl (some (vI v))) h') (sX adr B dC dI dA (.inl (some (vI v))) h') args s mc ms (fun q => B ≤ q)) (F0 m pc mls rest) q9 := by
  obtain ⟨hx, hb, hml, hr, hown, hts, hlk, hin, hKv, hE, hBs, hadr, hst, hAO⟩ := id F
  subst hmc; subst hms
  unfold hnd at hh
  rw [hi] at hh
  simp only at hh
  obtain ⟨hc8, hrows⟩ := hnd_c8 _ (lk1_mem hi)
  simp only at hc8 hrows
  obtain ⟨pre, q, suf, g1, g2, g3, g4⟩ := hndF_sp l9 hh
  rw [hc8] at g2 g4 hown
  obtain ⟨e1, e2, e3, e4⟩ := exc_link8 g2.2.2
  have htab := hT.2 l9 hi
  have mkE : (fun z : Nat × Nat × Nat × Nat => (⟨z.1, z.2.1, z.2.2.1, z.2.2.2⟩ : ExceptionTableEntry)) = fun z => ⟨z.1, z.2.1, z.2.2.1, z.2.2.2⟩ := rfl
  have hsplit : c.exceptionTable.toList = pre.map (fun z => (⟨z.1, z.2.1, z.2.2.1, z.2.2.2⟩ : ExceptionTableEntry)) ++ ⟨q.1, q.2.1, q.2.2.1, q.2.2.2⟩ :: suf.map (fun z => (⟨z.1, z.2.1, z.2.2.1, z.2.2.2⟩ : ExceptionTableEntry)) := by
    rw [htab, g1]
    simp [tableOf]
  obtain ⟨hret, n, hn, hcode⟩ := hndAt_sp g3
  refine vx_catch hown _ _ _ hsplit (fun z hz => ?_) (by simp only [covers, Bool.and_eq_true, decide_eq_true_eq]; exact ⟨g2.1, g2.2.1⟩) e3 (hts _ e1) (hts _ e2) hce hv hcl ?_
  · obtain ⟨z0, hz0, rfl⟩ := List.mem_map.mp hz
    by_cases hcov : z0.1 ≤ pc ∧ pc < z0.2.1
    · right
      have hs := hrows z0 (by rw [g1]; exact List.mem_append_left _ hz0)
      obtain ⟨k2, hk2⟩ := Option.isSome_iff_exists.mp hs
      obtain ⟨f1, f2, f3, f4⟩ := exc_link8 hk2
      have hne : k ≠ k2 := fun y => g4 z0 hz0 ⟨hcov.1, hcov.2, by rw [hk2, y]⟩
      exact ⟨f3, exN k2, hts _ f1, hE.2.2.2.2.2.2.2.2.2 k k2 hk f4 hne⟩
    · left
      simp only [covers, Bool.and_eq_false_iff, decide_eq_false_iff_not]
      by_cases y : z0.1 ≤ pc
      · exact Or.inr (fun y2 => hcov ⟨y, y2⟩)
      · exact Or.inl y
  · have fin : ∀ t : State, t.heap = H1 → s.WarmedH t.vm → sQ adr B dC dI dA (.inl (some (vI v))) h' args s (.returned (some (.int v))) t := fun t ht _ => ⟨⟨_, rfl, rfl, by rw [ht]; exact hP⟩, hS.F ht⟩
    refine vx_ret ?_
    rcases hcode with ⟨k9, d1, d2, d3, d4⟩ | ⟨k9, d1, d2, d3, d4⟩
    · refine lv_astore_n hx hb d1 rfl hl d4 rfl (fun mls' h9 => ?_)
      refine lv_iconst hx hb d2 hn.symm ?_
      exact W.iret hx hb (by rw [hr]; exact hret) fin hS.2.2 d3 hlk
    · refine lv_astore hx hb d1 hl d4 rfl (fun mls' h9 => ?_)
      refine lv_iconst hx hb d2 hn.symm ?_
      exact W.iret hx hb (by rw [hr]; exact hret) fin hS.2.2 d3 hlk
/-- the room of a frame with d calls open under it -/
def rmD (d mc ms : Nat) : Room := { frames := d + 8, cells := mc, slots := ms, locals := 40 * d + 200 }
def pcD (adr : A3 → Nat) (B : Nat) (dC : Nat → ClassId) (dI : Nat → Nat → Nat) (dA : Nat → ClassId) (x h : Hp) (As : List MV) : Array Value → State → Prop := va_Pc (As.map (toV adr)) (fun U => va_P (dC, dI) clsW (wsO adr dA h) U.heap ∧ va_K (dC, dI) clsW (tysW dA) U ∧ Ext adr B x U ∧ B ≤ U.heap.size ∧ (cu h = cnt h → U.heap.size = B + cnt h) ∧ ∀ k, k = 6 ∨ k = 7 ∨ k = 8 → va_AO (arrN k) U)
theorem pcD_blind {h : Hp} {As : List MV} : FrameBlind (pcD adr B dC dI dA x h As) := by
  intro a U g mk q
  obtain ⟨rfl, q1, q2, q3, q4, q5, q6⟩ := q
  exact ⟨rfl, q1, va_K.moved (u := U) (U := U.calling g mk _) (Vm.Alike.refl U.vm) q2, Ext_moved (s := U) (U := U.calling g mk _) (State.WarmedH.refl U) (fun _ _ _ => rfl) q3, q4, q5, fun k hk => va_AO.moved (u := U) (U := U.calling g mk _) (Vm.Alike.refl U.vm) (q6 k hk)⟩
theorem pt_eq {i : Nat} {h : Hp} {ls : LS3} {mls : Array Slot} (hadr : ∀ k, k < 393 → adr (nm k) = B + k) (P : PtW adr B dC dI dA x i s c0 s0 h H locs cells slots ls mls) (hBs : B ≤ s.heap.size) (hz : H.size ≤ s.heap.size + cells) (hf : cu h = cnt h) : H.size = B + cnt h := by
  obtain ⟨w, hP, hS, ⟨a1, a2, a3, a4, a5⟩, hl, hn, hD⟩ := P
  have h5 := a5 hf
  have h93 := w.2.1
  have lo : B + cnt h ≤ H.size := by
    cases hc : cnt h with
    | zero =>
      have := hS.1
      omega
    | succ k =>
      have h1 := vx_lt hP (wsO_at (adr := adr) (dA := dA) (h := h) (k := k) (by omega))
      have h2 := hadr k (by omega)
      have h1' : adr (nm k) < H.size := h1
      omega
  omega
/-- what a caller knows behind a call -/
theorem after_call {mc ms pc : Nat} {oc : MO} {hc : Hp} {a : Array Value} {mls : Array Slot} {st0 rest : List Value} (hr : vx_Run p l en R s m args below meth c H locs cells slots mc ms (F0 m pc mls st0) rest (sQ adr B dC dI dA oc hc a) (sX adr B dC dI dA oc hc) (fun q => B ≤ q)) (hS : va_S (fun q => B ≤ q) s.heap H locs)
    (kk : ∀ v, oc = .inl v → ∀ (H1 : Heap) (locs1 : List Loc), va_P (dC, dI) clsW (wsO adr dA hc) H1 → va_S (fun q => B ≤ q) s.heap H1 locs1 → W p l en R s m args below meth c H1 locs1 (cells + mc) (slots + ms) Q (F0 m (pc + 3) mls ((v.map (toV adr)).toList ++ rest)))
    (kx : ∀ k, oc = .inr k → k < 6 → ∀ (H1 : Heap) (locs1 : List Loc) (ce : Cell) (q9 : Addr), va_P (dC, dI) clsW (wsO adr dA hc) H1 → va_S (fun q => B ≤ q) s.heap H1 locs1 → H1[q9]? = some ce → ce.vm = .none → s.vm.findClass (exN k) = some ce.cls → vx_W p l en R s m args below meth c H1 locs1 (cells + mc) (slots + ms) Q (F0 m pc mls rest) q9) :
    W p l en R s m args below meth c H locs cells slots Q (F0 m pc mls st0) := by
  intro T hT X
  rcases hr T hT X with ⟨v, st₀, t, T', L, h0, X', hL, e1, e2, ⟨⟨v', hv, hvv, hb⟩, hF⟩, stp9⟩ | ⟨q, st₀, t, T', L, E, ce, h0, X', hL, e1, e2, ⟨⟨k, hv, hk6, hE, hb⟩, hF⟩, hce, hcv, hcl, stp9⟩
  · cases hvv
    obtain ⟨k1, k2, k3⟩ := vx_keep h0 e1 hS (fun _ _ z => z) (fun _ z => z) hL hF
    obtain ⟨t2, a1, b1⟩ := kk v' hv T'.heap (locs ++ L) (by rw [e1]; exact hb) k3 T' rfl X'
    exact ⟨t2, stp9 t2 a1, b1⟩
  · obtain ⟨k1, k2, k3⟩ := vx_keep h0 e1 hS (fun _ _ z => z) (fun _ z => z) hL hF
    subst hE
    obtain ⟨t2, a1, b1⟩ := kx k hv hk6 T'.heap (locs ++ L) ce q (by rw [e1]; exact hb) k3 (by rw [e1]; exact hce) hcv hcl T' rfl X'
    exact ⟨t2, stp9.trans a1, b1⟩
theorem met_of_vx {y : MethodName} {ws : List Cond} {rm : Room} {Pc : Array Value → State → Prop} {Qc : Array Value → State → Outcome → State → Prop} {XC : String → State → State → Prop} {mc ms : Nat} {free : Addr → Prop} (hX : ∀ E st t, ¬ XC E st t) (h : vx_Met l y ws rm Pc Qc XC mc ms free) : Met l y ws rm Pc Qc mc ms free := by
  intro p9 e9 h1 h2 h3 s9 m9 a9 b9 h4 h5 h6 h7
  obtain ⟨n, o, g1, g2, g3, g4⟩ := h p9 e9 h1 h2 h3 s9 m9 a9 b9 h4 h5 h6 h7
  refine ⟨n, o, g1, g2, g3, ?_⟩
  rcases g4 with g4 | ⟨q, -, E, ce, L, z, -⟩
  · exact g4
  · exact absurd z (hX _ _ _)
theorem vx_of_va {mc ms : Nat} {g : JFrame} {rest : List Value} {Qa : State → Outcome → State → Prop} {XC : String → State → State → Prop} {free : Addr → Prop} (h : va_Run p l en R s m args below meth c H locs cells slots mc ms g rest Qa free) : vx_Run p l en R s m args below meth c H locs cells slots mc ms g rest Qa XC free := fun T hT X => Or.inl (h T hT X)
end StepH
