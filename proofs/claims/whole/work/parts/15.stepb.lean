/-! STEPS THAT READ OR WRITE CELLS, in the machine -/
def FrW (adr : A3 → Nat) (B : Nat) (dC : Nat → ClassId) (dI : Nat → Nat → Nat) (dA : Nat → ClassId) (x : Hp) (i : Nat) (p : Program) (l : Launch) (s : State) (m : MethodId) (args : Array Value) (meth : Method) (c : Code) : Prop :=
  p.tables.exec = Jvm.exec ∧ c.code = mB i ∧ c.maxLocals = mL i ∧ meth.sig.returnType = mR i ∧ s.vm.findClass (cN (mC i)) = some m.cls ∧ (∀ w ∈ lwX, w.before args s = true) ∧ meth.locks = false ∧ (mN i = true → meth.name = "<init>") ∧
  va_K (dC, dI) clsW (tysW dA) s ∧ Ext adr B x s ∧ B ≤ s.heap.size ∧ (∀ k, k < 393 → adr (nm k) = B + k) ∧ l.stackTraces = false ∧ (∀ k, k = 6 ∨ k = 7 ∨ k = 8 → va_AO (arrN k) s)
def PtW (adr : A3 → Nat) (B : Nat) (dC : Nat → ClassId) (dI : Nat → Nat → Nat) (dA : Nat → ClassId) (x : Hp) (i : Nat) (s : State) (c0 s0 : Nat) (h : Hp) (H : Heap) (locs : List Loc) (cells slots : Nat) (ls : LS3) (mls : Array Slot) : Prop :=
  WR x h ∧ va_P (dC, dI) clsW (wsO adr dA h) H ∧ va_S (fun q => B ≤ q) s.heap H locs ∧ (c0 ≤ cu h ∧ s0 ≤ su h ∧ cells = cu h - c0 ∧ slots = su h - s0 ∧ (cu h = cnt h → s.heap.size = B + c0)) ∧ lv_has mls (mL i) (lsL adr 0 ls) ∧ ls.length = mL i ∧ DI i ls
section StepB
variable {adr : A3 → Nat} {B : Nat} {dC : Nat → ClassId} {dI : Nat → Nat → Nat} {dA : Nat → ClassId} {x : Hp} {c0 s0 : Nat}
variable {p : Program} {l : Launch} {en : Env} {R : Room} {s : State} {m : MethodId} {args : Array Value} {below : List Frame} {meth : Method} {c : Code} {H : Heap} {locs : List Loc} {cells slots : Nat} {Q : State → Prop}
theorem tys_at {k : Nat} (h : 2 ≤ k ∧ k ≤ 8) : ∃ ty, (tysW dA)[k - 2]? = some (dA k, ty) := by
  obtain ⟨h1, h2⟩ := h
  rcases (show k = 2 ∨ k = 3 ∨ k = 4 ∨ k = 5 ∨ k = 6 ∨ k = 7 ∨ k = 8 by omega) with rfl | rfl | rfl | rfl | rfl | rfl | rfl <;> exact ⟨_, rfl⟩
theorem lay_in {c : Nat} (hc : c < 8) : ∀ w ∈ u_ws (cN c) (TW c) (NW c), w ∈ lwX := by
  have all : ∀ w ∈ layT, w ∈ lwX := by
    intro w hw
    obtain ⟨i, hi⟩ := all_zip (fun (w : Cond) (i : Nat) => inT i w) layT tLayIx (by decide +kernel) lay_ok w hw
    exact inT_mem hi
  intro w hw
  refine all w ?_
  unfold layT
  simp only [List.mem_append]
  rcases (show c = 0 ∨ c = 1 ∨ c = 2 ∨ c = 3 ∨ c = 4 ∨ c = 5 ∨ c = 6 ∨ c = 7 by omega) with rfl | rfl | rfl | rfl | rfl | rfl | rfl | rfl
  · exact Or.inl hw
  · exact Or.inr (Or.inl hw)
  · exact Or.inr (Or.inr (Or.inl hw))
  · exact Or.inr (Or.inr (Or.inr (Or.inl hw)))
  · exact Or.inr (Or.inr (Or.inr (Or.inr (Or.inl hw))))
  · exact Or.inr (Or.inr (Or.inr (Or.inr (Or.inr (Or.inl hw)))))
  · exact Or.inr (Or.inr (Or.inr (Or.inr (Or.inr (Or.inr (Or.inl hw))))))
  · exact Or.inr (Or.inr (Or.inr (Or.inr (Or.inr (Or.inr (Or.inr hw))))))
theorem fld_at {o cp c k : Nat} (h : lk2 tFld o cp = some (c, k)) : Cond.fieldLink (cN o) cp (TW c k).1 (TW c k).2.1 (TW c k).2.2.1 ∈ lwX ∧ k < NW c ∧ (c < 8 ∨ c = 10) := by
  obtain ⟨ix, hi⟩ := all_zip fldChk tFld tFldIx (by decide +kernel) fld_ok _ (lk2_mem h)
  simp only [fldChk, Bool.and_eq_true, decide_eq_true_eq] at hi
  exact ⟨inT_mem hi.1, hi.2⟩
theorem fty_at {c k t f : Nat} (h : lk2 tFty c k = some (t, f)) : k < NW c ∧ ((f = 1) ↔ (TW c k).2.2.2 = true) ∧ (t = 0 → tyW c k = .int) ∧ (t = 1 → tyW c k = .boolean) ∧ (t = 2 → (∃ n, tyW c k = .object n) ∨ ∃ y, tyW c k = .array y) ∧ (TW c k).1 = cN c := by
  have hi := List.all_eq_true.mp fty_ok _ (lk2_mem h)
  simp only [ftyChk, Bool.and_eq_true, decide_eq_true_eq, beq_iff_eq] at hi
  obtain ⟨⟨⟨h1, h2⟩, h3⟩, h4⟩ := hi
  refine ⟨h1, ?_, ?_, ?_, ?_, h4⟩
  · rw [← h2]; simp
  · rintro rfl; simpa using h3
  · rintro rfl; simpa using h3
  · rintro rfl
    simp only at h3
    split at h3
    · rename_i n hn; exact Or.inl ⟨n, hn⟩
    · rename_i n hn; exact Or.inr ⟨n, hn⟩
    · cases h3
theorem W.assume {g : JFrame} (h : H.size ≤ s.heap.size + cells → W p l en R s m args below meth c H locs cells slots Q g) : W p l en R s m args below meth c H locs cells slots Q g := fun T hT X => h (by rw [← hT]; exact X.heapSize) T hT X
theorem fval_sI {h : Hp} {a b : A3} {k j cc : Nat} {v : Int32} : fval (sI h a k v) b cc j = if b = a ∧ j = k ∧ (lk2 tFty cc j).map (·.1) ≠ some 2 then vI v else fval h b cc j := by
  unfold fval
  have hR : gR (sI h a k v) b j = gR h b j := rfl
  have hI : gI (sI h a k v) b j = if b = a ∧ j = k then v else gI h b j := by
    show fup h.2.1 a (upd (h.2.1 a) k v) b j = if b = a ∧ j = k then v else h.2.1 b j
    by_cases e1 : b = a
    · subst e1
      by_cases e2 : j = k
      · simp [fup, upd, e2]
      · simp [fup, upd, e2]
    · simp [fup, e1]
  rw [hR, hI]
  split
  · rename_i q; simp [q]
  · rename_i q
    have hne : (lk2 tFty cc j).map (·.1) ≠ some 2 := by
      intro z
      cases hh : lk2 tFty cc j with
      | none => rw [hh] at z; cases z
      | some y =>
        rw [hh] at z
        obtain ⟨y1, y2⟩ := y
        simp at z
        subst z
        exact q _ hh
    by_cases e : b = a ∧ j = k
    · rw [if_pos e, if_pos ⟨e.1, e.2, hne⟩]
    · rw [if_neg e, if_neg (fun z => e ⟨z.1, z.2.1⟩)]
theorem fval_sR {h : Hp} {a b : A3} {k j cc : Nat} {v : Option A3} : fval (sR h a k v) b cc j = if b = a ∧ j = k ∧ (lk2 tFty cc j).map (·.1) = some 2 then vO v else fval h b cc j := by
  unfold fval
  have hI : gI (sR h a k v) b j = gI h b j := rfl
  have hR : gR (sR h a k v) b j = if b = a ∧ j = k then v else gR h b j := by
    show fup h.2.2.2.1 a (va_up (h.2.2.2.1 a) k v) b j = if b = a ∧ j = k then v else h.2.2.2.1 b j
    by_cases e1 : b = a
    · subst e1
      by_cases e2 : j = k
      · simp [fup, va_up, e2]
      · simp [fup, va_up, e2]
    · simp [fup, e1]
  rw [hR, hI]
  split
  · rename_i q
    by_cases e : b = a ∧ j = k
    · rw [if_pos e, if_pos ⟨e.1, e.2, by rw [q]; rfl⟩]
    · rw [if_neg e, if_neg (fun z => e ⟨z.1, z.2.1⟩)]
  · rename_i q
    have hne : ¬ (lk2 tFty cc j).map (·.1) = some 2 := by
      intro z
      cases hh : lk2 tFty cc j with
      | none => rw [hh] at z; cases z
      | some y =>
        rw [hh] at z
        obtain ⟨y1, y2⟩ := y
        simp at z
        subst z
        exact q _ hh
    rw [if_neg (fun z => hne z.2.2)]
theorem fs_sI {h : Hp} {a : A3} {k cc : Nat} {v : Int32} (hk : k < NW cc) (hf : (lk2 tFty cc k).map (·.1) ≠ some 2) : fsO adr (sI h a k v) a cc = (fsO adr h a cc).set k (.int v) := by
  refine List.ext_getElem? fun j => ?_
  rw [List.getElem?_set]
  simp only [fsO, List.getElem?_map, List.length_map, List.length_range]
  by_cases hj : j < NW cc
  · rw [List.getElem?_range hj]
    rw [Option.map_some, Option.map_some, fval_sI]
    by_cases e : k = j
    · subst e
      have q1 : (a = a ∧ k = k ∧ (lk2 tFty cc k).map (·.1) ≠ some 2) := ⟨rfl, rfl, hf⟩
      rw [if_pos rfl, if_pos hk]
      show some (toV adr (if a = a ∧ k = k ∧ (lk2 tFty cc k).map (·.1) ≠ some 2 then vI v else fval h a cc k)) = _
      rw [if_pos q1]; rfl
    · rw [if_neg (fun z => e z.2.1.symm), if_neg e]
  · rw [show (List.range (NW cc))[j]? = none by simp; omega]
    by_cases e : k = j
    · omega
    · rw [if_neg e]; rfl
theorem fs_sR {h : Hp} {a : A3} {k cc : Nat} {v : Option A3} (hk : k < NW cc) (hf : (lk2 tFty cc k).map (·.1) = some 2) : fsO adr (sR h a k v) a cc = (fsO adr h a cc).set k (toV adr (vO v)) := by
  refine List.ext_getElem? fun j => ?_
  rw [List.getElem?_set]
  simp only [fsO, List.getElem?_map, List.length_map, List.length_range]
  by_cases hj : j < NW cc
  · rw [List.getElem?_range hj]
    rw [Option.map_some, Option.map_some, fval_sR]
    by_cases e : k = j
    · subst e
      have q1 : (a = a ∧ k = k ∧ (lk2 tFty cc k).map (·.1) = some 2) := ⟨rfl, rfl, hf⟩
      rw [if_pos rfl, if_pos hk]
      show some (toV adr (if a = a ∧ k = k ∧ (lk2 tFty cc k).map (·.1) = some 2 then vO v else fval h a cc k)) = _
      rw [if_pos q1]
    · rw [if_neg (fun z => e z.2.1.symm), if_neg e]
  · rw [show (List.range (NW cc))[j]? = none by simp; omega]
    by_cases e : k = j
    · omega
    · rw [if_neg e]; rfl
theorem cell_obj {h : Hp} {a : A3} {c : Nat} (e : gS h a = (1, c)) : cellE adr dA h a = .inr (c, fsO adr h a c) := by
  unfold cellE; rw [e]; rfl
theorem cell_arr {h : Hp} {a : A3} {k n : Nat} (e : gS h a = (k, n)) (hk : k ≠ 1) : cellE adr dA h a = .inl (dA k, n, arrE adr h a k) := by
  unfold cellE; rw [e]; simp [hk]
theorem cell_sI_ne {h : Hp} {a b : A3} {k : Nat} {v : Int32} (e : b ≠ a) : cellE adr dA (sI h a k v) b = cellE adr dA h b := by
  have e1 : gS (sI h a k v) b = gS h b := rfl
  have e2 : gI (sI h a k v) b = gI h b := by
    funext j; show fup h.2.1 a _ b j = _; simp [fup, e, gI]
  have e3 : ∀ cc, fsO adr (sI h a k v) b cc = fsO adr h b cc := fun cc => List.map_congr_left fun j _ => by rw [fval_sI, if_neg (fun z => e z.1)]
  have e4 : ∀ cc, arrE adr (sI h a k v) b cc = arrE adr h b cc := by
    intro cc; simp only [arrE, e2]; rfl
  simp only [cellE, e1, e3, e4]
theorem cell_sR_ne {h : Hp} {a b : A3} {k : Nat} {v : Option A3} (e : b ≠ a) : cellE adr dA (sR h a k v) b = cellE adr dA h b := by
  have e1 : gS (sR h a k v) b = gS h b := rfl
  have e2 : gR (sR h a k v) b = gR h b := by
    funext j; show fup h.2.2.2.1 a _ b j = _; simp [fup, e, gR]
  have e3 : ∀ cc, fsO adr (sR h a k v) b cc = fsO adr h b cc := fun cc => List.map_congr_left fun j _ => by rw [fval_sR, if_neg (fun z => e z.1)]
  have e4 : ∀ cc, arrE adr (sR h a k v) b cc = arrE adr h b cc := by
    intro cc; simp only [arrE, e2]; rfl
  simp only [cellE, e1, e3, e4]
theorem cell_sL_ne {h : Hp} {a b : A3} {k : Nat} {v : Int64} (e : b ≠ a) : cellE adr dA (sL h a k v) b = cellE adr dA h b := by
  have e2 : gL (sL h a k v) b = gL h b := by
    funext j; show fup h.2.2.1 a _ b j = _; simp [fup, e, gL]
  have e4 : ∀ cc, arrE adr (sL h a k v) b cc = arrE adr h b cc := by
    intro cc; simp only [arrE, e2]; rfl
  simp only [cellE, e4]; rfl
theorem cell_sD_ne {h : Hp} {a b : A3} {k : Nat} {v : UInt64} (e : b ≠ a) : cellE adr dA (sD h a k v) b = cellE adr dA h b := by
  have e2 : gD (sD h a k v) b = gD h b := by
    funext j; show fup h.2.2.2.2.1 a _ b j = _; simp [fup, e, gD]
  have e4 : ∀ cc, arrE adr (sD h a k v) b cc = arrE adr h b cc := by
    intro cc; simp only [arrE, e2]; rfl
  simp only [cellE, e4]; rfl
theorem cell_cpI_ne {h : Hp} {a b d : A3} {y z w : Nat} (e : d ≠ b) : cellE adr dA (cpI h a y b z w) d = cellE adr dA h d := by
  have e2 : gI (cpI h a y b z w) d = gI h d := by
    funext j; show fup h.2.1 b _ d j = _; simp [fup, e, gI]
  have e3 : ∀ cc, fsO adr (cpI h a y b z w) d cc = fsO adr h d cc := fun cc => List.map_congr_left fun j _ => by
    unfold fval; rw [e2]; rfl
  have e4 : ∀ cc, arrE adr (cpI h a y b z w) d cc = arrE adr h d cc := by
    intro cc; simp only [arrE, e2]; rfl
  simp only [cellE, e3, e4]; rfl
theorem cell_cpL_ne {h : Hp} {a b d : A3} {y z w : Nat} (e : d ≠ b) : cellE adr dA (cpL h a y b z w) d = cellE adr dA h d := by
  have e2 : gL (cpL h a y b z w) d = gL h d := by
    funext j; show fup h.2.2.1 b _ d j = _; simp [fup, e, gL]
  have e4 : ∀ cc, arrE adr (cpL h a y b z w) d cc = arrE adr h d cc := by
    intro cc; simp only [arrE, e2]; rfl
  simp only [cellE, e4]; rfl
theorem gI_sI_self {h : Hp} {a : A3} {k : Nat} {v : Int32} : gI (sI h a k v) a = upd (gI h a) k v := by
  funext j; show fup h.2.1 a _ a j = _; simp only [fup, if_true]; rfl
theorem gL_sL_self {h : Hp} {a : A3} {k : Nat} {v : Int64} : gL (sL h a k v) a = vp_updL (gL h a) k v := by
  funext j; show fup h.2.2.1 a _ a j = _; simp only [fup, if_true]; rfl
theorem gD_sD_self {h : Hp} {a : A3} {k : Nat} {v : UInt64} : gD (sD h a k v) a = vf_upd (gD h a) k v := by
  funext j; show fup h.2.2.2.2.1 a _ a j = _; simp only [fup, if_true]; rfl
theorem gR_sR_self {h : Hp} {a : A3} {k : Nat} {v : Option A3} : gR (sR h a k v) a = va_up (gR h a) k v := by
  funext j; show fup h.2.2.2.1 a _ a j = _; simp only [fup, if_true]; rfl
theorem gI_cpI_self {h : Hp} {a b : A3} {y z w : Nat} : gI (cpI h a y b z w) b = va_cpy (gI h a) (gI h b) y z w := by
  funext j; show fup h.2.1 b _ b j = _; simp only [fup, if_true]; rfl
theorem gL_cpL_self {h : Hp} {a b : A3} {y z w : Nat} : gL (cpL h a y b z w) b = va_cpy (gL h a) (gL h b) y z w := by
  funext j; show fup h.2.2.1 b _ b j = _; simp only [fup, if_true]; rfl
theorem inB_vp {j : Int32} {n : Nat} (h0 : 0 ≤ j) (h1 : j.toNatClampNeg < n) : vp_in j n := by
  rintro (z | z)
  · rw [Int32.le_iff_toInt_le] at h0
    rw [Int32.lt_iff_toInt_lt] at z
    omega
  · omega
end StepB
