/-! THE WORLD: what a heap of the mini machine is in the machine's -/
def toV (adr : A3 → Nat) : MV → Value
  | .inl x => .int x
  | .inr (.inl none) => .null
  | .inr (.inl (some a)) => .ref (adr a)
  | .inr (.inr (.inl x)) => .long x
  | .inr (.inr (.inr x)) => .double x
theorem toV_O (adr : A3 → Nat) (o : Option A3) : toV adr (vO o) = va_rf (o.map adr) := by cases o <;> rfl
theorem toV_cat {adr : A3 → Nat} {v : MV} : (toV adr v).category = (if cat1 v = true then 1 else 2) := by
  rcases v with x | (_ | a) | x | x <;> rfl
theorem toV_cat1 {adr : A3 → Nat} {v : MV} (h : cat1 v = true) : (toV adr v).category = 1 := by rw [toV_cat, if_pos h]
theorem toV_sum (adr : A3 → Nat) (st : List MV) : ((st.map (toV adr)).map fun v => v.category).sum = catS st := by
  induction st with
  | nil => rfl
  | cons v r ih => simp only [List.map_cons, List.sum_cons, ih, catS, toV_cat]
def exN (k : Nat) : String := tExN.getD k ""
def frm (k : Nat) : String := if k = 0 then "" else if k = 1 then "0,099;" else if k = 2 then "0@0,099,0;" else if k = 3 then "0;" else "099;"
def tysW (dA : Nat → ClassId) : List (ClassId × FieldType) := [(dA 2, .int), (dA 3, .char), (dA 4, .long), (dA 5, .double), (dA 6, .object (arrN 6)), (dA 7, .object (arrN 7)), (dA 8, .object (arrN 8))]
def fsO (adr : A3 → Nat) (h : Hp) (a : A3) (c : Nat) : List Value := (List.range (NW c)).map (fun k => toV adr (fval h a c k))
def arrE (adr : A3 → Nat) (h : Hp) (a : A3) : Nat → (Nat → Int32) ⊕ (Nat → Int64) ⊕ (Nat → UInt32) ⊕ (Nat → UInt64) ⊕ (Nat → Option Nat)
  | 2 => .inl (gI h a)
  | 3 => .inl (gI h a)
  | 4 => .inr (.inl (gL h a))
  | 5 => .inr (.inr (.inr (.inl (gD h a))))
  | _ => .inr (.inr (.inr (.inr (fun j => (gR h a j).map adr))))
def cellE (adr : A3 → Nat) (dA : Nat → ClassId) (h : Hp) (a : A3) : va_E := if (gS h a).1 = 1 then .inr ((gS h a).2, fsO adr h a (gS h a).2) else .inl (dA (gS h a).1, (gS h a).2, arrE adr h a (gS h a).1)
def wsO (adr : A3 → Nat) (dA : Nat → ClassId) (h : Hp) : va_W := (List.range (cnt h)).map (fun k => (adr (nm k), cellE adr dA h (nm k)))
theorem wsO_at {adr : A3 → Nat} {dA : Nat → ClassId} {h : Hp} {k : Nat} (hk : k < cnt h) : (wsO adr dA h)[k]? = some (adr (nm k), cellE adr dA h (nm k)) := by
  simp [wsO, hk]
theorem wsO_ex {x h : Hp} (w : WR x h) (adr : A3 → Nat) (dA : Nat → ClassId) {a : A3} (h1 : 1 ≤ (gS h a).1) (h2 : (gS h a).1 ≤ 8) : ∃ k, k < cnt h ∧ nm k = a ∧ (wsO adr dA h)[k]? = some (adr a, cellE adr dA h a) := by
  obtain ⟨k, hk, e⟩ := w.2.2.2.1 a h1 h2
  exact ⟨k, hk, e, by rw [wsO_at hk, e]⟩
theorem wsO_set {x h h' : Hp} (w : WR x h) {adr : A3 → Nat} {dA : Nat → ClassId} {a : A3} {k : Nat} (hk : k < cnt h) (e : nm k = a) (hc : cnt h' = cnt h) (hne : ∀ b, b ≠ a → cellE adr dA h' b = cellE adr dA h b) : (wsO adr dA h).set k (adr a, cellE adr dA h' a) = wsO adr dA h' := by
  refine List.ext_getElem? fun j => ?_
  rw [List.getElem?_set]
  by_cases hj : k = j
  · subst hj
    rw [if_pos rfl, if_pos (by simp [wsO, hk]), wsO_at (by rw [hc]; exact hk), e]
  · rw [if_neg hj]
    by_cases hl : j < cnt h
    · rw [wsO_at hl, wsO_at (by rw [hc]; exact hl), hne]
      intro z
      have h93 := w.2.1
      exact hj (nm_inj (by omega) (by omega) (e.trans z.symm))
    · have h1 : (wsO adr dA h)[j]? = none := by simp [wsO]; omega
      have h2 : (wsO adr dA h')[j]? = none := by simp [wsO]; omega
      rw [h1, h2]
theorem wsO_push {x h : Hp} (w : WR x h) {adr : A3 → Nat} {dA : Nat → ClassId} {q : Nat × Nat} {n : Nat} (hlt : cnt h < 393) (hz : gS h (nm (cnt h)) = (0, 0)) : wsO adr dA (mk h (nm (cnt h)) q n) = wsO adr dA h ++ [(adr (nm (cnt h)), cellE adr dA (mk h (nm (cnt h)) q n) (nm (cnt h)))] := by
  show (List.range (cnt h + 1)).map _ = _
  rw [List.range_succ, List.map_append]
  congr 1
  refine List.map_congr_left fun k hk => ?_
  have hk' := List.mem_range.mp hk
  have hne : nm k ≠ nm (cnt h) := fun z => by
    have := nm_inj (by omega) hlt z
    omega
  have e1 : gS (mk h (nm (cnt h)) q n) (nm k) = gS h (nm k) := by rw [mk_S, if_neg hne]
  have e2 : ∀ c, fsO adr (mk h (nm (cnt h)) q n) (nm k) c = fsO adr h (nm k) c := by
    intro c
    simp only [fsO, fval]
    refine List.map_congr_left fun j _ => ?_
    split <;> simp only [mk_I hne, mk_R hne]
  have e3 : ∀ c, arrE adr (mk h (nm (cnt h)) q n) (nm k) c = arrE adr h (nm k) c := by
    intro c
    simp only [arrE]
    split <;> simp only [mk_I hne, mk_R hne, mk_L hne, mk_D hne, show gI (mk h (nm (cnt h)) q n) (nm k) = gI h (nm k) from funext (mk_I hne), show gL (mk h (nm (cnt h)) q n) (nm k) = gL h (nm k) from funext (mk_L hne), show gD (mk h (nm (cnt h)) q n) (nm k) = gD h (nm k) from funext (mk_D hne)]
  simp only [cellE, e1, e2, e3]
theorem wsO_D {x h : Hp} (w : WR x h) {adr : A3 → Nat} {dA : Nat → ClassId} {B : Nat} (hadr : ∀ k, k < 393 → adr (nm k) = B + k) : va_D (fun q => B ≤ q) (wsO adr dA h) := by
  have h93 := w.2.1
  have get : ∀ (k : Nat) (q : Nat × va_E), (wsO adr dA h)[k]? = some q → k < cnt h ∧ q.1 = B + k := by
    intro k q hq
    have hk : k < cnt h := by
      by_cases z : k < cnt h
      · exact z
      · have h1 : (wsO adr dA h)[k]? = none := by simp [wsO]; omega
        rw [h1] at hq; cases hq
    rw [wsO_at hk] at hq
    cases hq
    exact ⟨hk, hadr k (by omega)⟩
  refine ⟨fun i j p q hp hq hpq => ?_, fun k q hq => ?_⟩
  · have a1 := get i p hp
    have a2 := get j q hq
    omega
  · have a1 := get k q hq
    show B ≤ q.1
    omega
/-- the static fields that hold references -/
def stN (k : Nat) : String × String × String := if k = 0 then ("CommitteePlanner", "QUORUMS", "[I") else if k = 1 then ("CommitteePlanner", "DAYS_BEFORE", "[I") else if k = 2 then ("CommitteePlannerModel", "NEEDED", "[I") else if k = 3 then ("CommitteePlannerModel", "AHEAD", "[I") else ("jdk/internal/util/Preconditions", "SIOOBE_FORMATTER", "Ljava/util/function/BiFunction;")
def Ext (adr : A3 → Nat) (B : Nat) (x : Hp) (U : State) : Prop :=
  (∀ a n, gS x a = (9, n) → va_T .int (adr a) n (fun j => .int (gI x a j)) (fun q => B ≤ q) U U.heap) ∧
  (∀ a n, gS x a = (10, n) → va_T .byte (adr a) n (fun j => .int (gI x a j)) (fun q => B ≤ q) U U.heap) ∧
  (∀ a c, gS x a = (11, c) → c = 10 ∧ va_OF RJ0 "value" "[B" (toV adr (vO (gR x a 0))) (adr a) (fun q => B ≤ q) U U.heap ∧ va_OF RJ0 "coder" "B" (.int (gI x a 1)) (adr a) (fun q => B ≤ q) U U.heap ∧ va_O RJ0 (adr a) (fun q => B ≤ q) U U.heap) ∧
  (∀ k, k < 5 → va_Z (stN k).1 (stN k).2.1 (stN k).2.2 (toV adr (vO (gR x (51, 0, 0) k))) (fun q => B ≤ q) U U.heap) ∧
  va_Z RJ0 "COMPACT_STRINGS" "Z" (.int 1) (fun q => B ≤ q) U U.heap ∧
  vx_Zq Bundle.tN "UNASSIGNED_STACK" Bundle.steD (fun q => B ≤ q) U U.heap ∧ vx_Zq Bundle.tN "SUPPRESSED_SENTINEL" Bundle.listD (fun q => B ≤ q) U U.heap ∧
  (∀ q ∈ tStr, vk_R (cN q.1.1) q.1.2 (frm q.2) (adr (42, q.2, 0)) U) ∧
  (∀ q ∈ tTxt, ∃ sa, vk_R (cN q.1.1) q.1.2 q.2 sa U) ∧
  (∀ e e', e < 6 → e' < 6 → e ≠ e' → va_Nc (exN e) (exN e') U)
theorem Ext_moved {adr : A3 → Nat} {B : Nat} {x : Hp} {s U : State} (hW : s.WarmedH U.vm) (hq : ∀ a : Nat, a < s.heap.size → ¬ B ≤ a → U.heap[a]? = s.heap[a]?) (h : Ext adr B x s) : Ext adr B x U := by
  obtain ⟨h1, h2, h3, h4, h5, h6, h7, h8, h9, h10⟩ := h
  have hv := hW.alike
  refine ⟨fun a n e => ((h1 a n e).kept hq).moved hv, fun a n e => ((h2 a n e).kept hq).moved hv, fun a c e => ?_, fun k hk => ((h4 k hk).kept hq).moved hv, (h5.kept hq).moved hv, (h6.kept hq).moved hv, (h7.kept hq).moved hv, fun q z => vk_R.warm hW (h8 q z), fun q z => ?_, fun e e' a1 a2 a3 => ?_⟩
  · obtain ⟨e1, e2, e3, e4⟩ := h3 a c e
    exact ⟨e1, (e2.kept hq).moved hv, (e3.kept hq).moved hv, (e4.kept hq).moved hv⟩
  · obtain ⟨sa, q1⟩ := h9 q z
    exact ⟨sa, vk_R.warm hW q1⟩
  · exact (h10 e e' a1 a2 a3).moved hv
/-- the locals of the mini machine, as the kit lists them -/
def lsL (adr : A3 → Nat) : Nat → LS3 → List (Nat × Value)
  | _, [] => []
  | k, none :: r => lsL adr (k + 1) r
  | k, some v :: r => (k, toV adr v) :: lsL adr (k + 1) r
theorem lsL_mem {adr : A3 → Nat} : ∀ (ls : LS3) (n k : Nat) (u : Value), (k, u) ∈ lsL adr n ls ↔ ∃ j v, k = n + j ∧ ls[j]? = some (some v) ∧ u = toV adr v := by
  intro ls
  induction ls with
  | nil => intro n k u; simp [lsL]
  | cons w r ih =>
    intro n k u
    cases w with
    | none =>
      rw [lsL, ih]
      constructor
      · rintro ⟨j, v, e1, e2, e3⟩
        exact ⟨j + 1, v, by omega, by simpa using e2, e3⟩
      · rintro ⟨j, v, e1, e2, e3⟩
        cases j with
        | zero => simp at e2
        | succ j => exact ⟨j, v, by omega, by simpa using e2, e3⟩
    | some w =>
      rw [lsL, List.mem_cons, ih]
      constructor
      · rintro (e | ⟨j, v, e1, e2, e3⟩)
        · cases e
          exact ⟨0, w, rfl, rfl, rfl⟩
        · exact ⟨j + 1, v, by omega, by simpa using e2, e3⟩
      · rintro ⟨j, v, e1, e2, e3⟩
        cases j with
        | zero =>
          left
          simp at e2
          subst e2
          rw [e3, e1]; rfl
        | succ j => exact Or.inr ⟨j, v, by omega, by simpa using e2, e3⟩
theorem lsL_at {adr : A3 → Nat} {ls : LS3} {mls : Array Slot} {nL k : Nat} {v : MV} (h : lv_has mls nL (lsL adr 0 ls)) (hk : ls[k]? = some (some v)) : mls[k]? = some (.val (toV adr v)) :=
  h.2.2 (k, toV adr v) ((lsL_mem ls 0 k _).mpr ⟨k, v, by omega, hk, rfl⟩)
theorem lv_mono {ls : Array Slot} {n : Nat} {l l' : List (Nat × Value)} (h : lv_has ls n l) (hl : ∀ q ∈ l', q ∈ l) : lv_has ls n l' := ⟨h.1, h.2.1, fun q hq => h.2.2 q (hl q hq)⟩
/-- where doubles may stand: slot 7 of the law's method -/
def DI (i : Nat) (ls : LS3) : Prop := ∀ k v, ls[k]? = some (some v) → cat1 v = true ∨ (i = 278 ∧ k = 7)
theorem lsL_set {adr : A3 → Nat} {i : Nat} {ls : LS3} {mls : Array Slot} {nL k : Nat} {v : MV} (hd : DI i ls) (hk : ¬ (i = 278 ∧ k = 8)) (hlt : k < ls.length) (h : lv_has mls nL ((k, toV adr v) :: (lsL adr 0 ls).filter (fun q => !(q.1 == k) && !(q.1 + 1 == k && q.2.category == 2)))) : lv_has mls nL (lsL adr 0 (ls.set k (some v))) := by
  refine lv_mono h fun q hq => ?_
  obtain ⟨j, u⟩ := q
  obtain ⟨j', w, e1, e2, e3⟩ := (lsL_mem _ 0 j u).mp hq
  have e1' : j = j' := by omega
  subst e1'
  by_cases hj : k = j
  · subst hj
    rw [List.getElem?_set] at e2
    simp [hlt] at e2
    rw [e3, ← e2]
    exact List.mem_cons_self
  · rw [List.getElem?_set, if_neg hj] at e2
    refine List.mem_cons_of_mem _ (List.mem_filter.mpr ⟨(lsL_mem _ 0 j u).mpr ⟨j, w, by omega, e2, e3⟩, ?_⟩)
    have h1 : (j == k) = false := by simp; omega
    have h2 : (j + 1 == k && u.category == 2) = false := by
      rcases hd j w e2 with z | ⟨z1, z2⟩
      · rw [e3, toV_cat1 z]; simp
      · have : ¬ j + 1 = k := fun y => hk ⟨z1, by omega⟩
        simp [this]
    simp only [h1, h2]; rfl
theorem DI_set {i : Nat} {ls : LS3} {k : Nat} {v : MV} (hd : DI i ls) (hv : cat1 v = true) : DI i (ls.set k (some v)) := by
  intro j w hj
  rw [List.getElem?_set] at hj
  split at hj
  · split at hj
    · cases hj; exact Or.inl hv
    · cases hj
  · exact hd j w hj
