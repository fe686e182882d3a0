/-! STEPS THAT LEAVE THE HEAP ALONE, in the machine -/
def pureI : Instr → Bool
  | .iconst _ => true
  | .bipush _ => true
  | .sipush _ => true
  | .lconst _ => true
  | .dconst _ => true
  | .aconst_null => true
  | .iload_n _ => true
  | .iload _ => true
  | .aload_n _ => true
  | .aload _ => true
  | .istore_n _ => true
  | .istore _ => true
  | .astore_n _ => true
  | .astore _ => true
  | .dload _ => true
  | .dstore _ => true
  | .iinc _ _ => true
  | .iadd => true
  | .isub => true
  | .imul => true
  | .iand => true
  | .ior => true
  | .ixor => true
  | .ishl => true
  | .ishr => true
  | .iushr => true
  | .idiv => true
  | .irem => true
  | .i2l => true
  | .i2d => true
  | .i2c => true
  | .l2i => true
  | .lxor => true
  | .lshl => true
  | .lushr => true
  | .lcmp => true
  | .ddiv => true
  | .dcmp _ => true
  | .dup => true
  | .dup2 => true
  | .pop => true
  | .goto _ => true
  | .ifCond _ _ => true
  | .if_icmp _ _ => true
  | .tableswitch _ _ _ _ => true
  | _ => false
section StepA
variable {p : Program} {l : Launch} {en : Env} {R : Room} {s : State} {m : MethodId} {args : Array Value} {below : List Frame} {meth : Method} {c : Code} {H : Heap} {locs : List Loc} {cells slots : Nat} {Q : State → Prop} {adr : A3 → Nat}
theorem len_set {ls : LS3} {k n : Nat} {v : Option MV} (h : ls.length = n) : (ls.set k v).length = n := by rw [List.length_set]; exact h
set_option maxHeartbeats 8000000 in
theorem st_pure {i pc len : Nat} {ins : Instr} {ls : LS3} {st : List MV} {h : Hp} {pc' : Nat} {ls' : LS3} {st' : List MV} {h' : Hp} {mls : Array Slot} (hpi : pureI ins = true)
    (hx : p.tables.exec = Jvm.exec) (hb : c.code = mB i) (hd : decode (mB i) pc = .ok (ins, len)) (e : exec1 i pc len ls st h ins = some (.inl (pc', ls', st', h')))
    (hl : lv_has mls (mL i) (lsL adr 0 ls)) (hn : ls.length = mL i) (hD : DI i ls)
    (K : h' = h → ∀ mls', lv_has mls' (mL i) (lsL adr 0 ls') → ls'.length = mL i → DI i ls' → W p l en R s m args below meth c H locs cells slots Q (F0 m pc' mls' (st'.map (toV adr)))) :
    W p l en R s m args below meth c H locs cells slots Q (F0 m pc mls (st.map (toV adr))) := by
  cases ins <;> try (cases hpi; done)
  case iconst n =>
    simp only [exec1] at e
    split at e
    · rename_i hlen; subst hlen; cases e
      exact lv_iconst hx hb hd rfl (K rfl mls hl hn hD)
    · cases e
  case bipush n =>
    simp only [exec1] at e
    split at e
    · rename_i hlen; subst hlen; cases e
      exact lv_bipush hx hb hd rfl (K rfl mls hl hn hD)
    · cases e
  case sipush n =>
    simp only [exec1] at e
    split at e
    · rename_i hlen; subst hlen; cases e
      exact lv_sipush hx hb hd rfl (K rfl mls hl hn hD)
    · cases e
  case lconst n =>
    simp only [exec1] at e
    split at e
    · rename_i hlen; subst hlen; cases e
      exact lv_lconst hx hb hd rfl (K rfl mls hl hn hD)
    · cases e
  case dconst n =>
    simp only [exec1] at e
    split at e
    · rename_i hlen; obtain ⟨hlen, hz⟩ := hlen; subst hlen; subst hz; cases e
      exact lv_dconst0 hx hb hd (K rfl mls hl hn hD)
    · cases e
  case aconst_null =>
    simp only [exec1] at e
    split at e
    · rename_i hlen; subst hlen; cases e
      exact lv_null hx hb hd (K rfl mls hl hn hD)
    · cases e
  case iload_n k =>
    simp only [exec1, ldI] at e
    split at e
    · rename_i hlen; subst hlen
      split at e
      · rename_i x hk; cases e
        exact lv_iload_n hx hb hd rfl (lsL_at hl hk) (K rfl mls hl hn hD)
      · cases e
    · cases e
  case iload k =>
    simp only [exec1, ldI] at e
    split at e
    · rename_i hlen; subst hlen
      split at e
      · rename_i x hk; cases e
        exact lv_iload hx hb hd (lsL_at hl hk) (K rfl mls hl hn hD)
      · cases e
    · cases e
  case aload_n k =>
    simp only [exec1, ldA] at e
    split at e
    · rename_i hlen; subst hlen
      split at e
      · rename_i x hk; cases e
        cases x with
        | none => exact lv_aload_nN hx hb hd rfl (lsL_at hl hk) (K rfl mls hl hn hD)
        | some x => exact lv_aload_n hx hb hd rfl (lsL_at hl hk) (K rfl mls hl hn hD)
      · cases e
    · cases e
  case aload k =>
    simp only [exec1, ldA] at e
    split at e
    · rename_i hlen; subst hlen
      split at e
      · rename_i x hk; cases e
        cases x with
        | none => exact lv_aloadN hx hb hd (lsL_at hl hk) (K rfl mls hl hn hD)
        | some x => exact lv_aload hx hb hd (lsL_at hl hk) (K rfl mls hl hn hD)
      · cases e
    · cases e
  case istore_n k =>
    simp only [exec1, stI, stv] at e
    split at e
    · rename_i hlen; subst hlen
      split at e
      · split at e
        · rename_i q; cases e
          exact lv_istore_n hx hb hd rfl hl (by omega) rfl (fun mls' h9 => K rfl mls' (lsL_set hD q.2 q.1 h9) (len_set hn) (DI_set hD rfl))
        · cases e
      · cases e
    · cases e
  case istore k =>
    simp only [exec1, stI, stv] at e
    split at e
    · rename_i hlen; subst hlen
      split at e
      · split at e
        · rename_i q; cases e
          exact lv_istore hx hb hd hl (by omega) rfl (fun mls' h9 => K rfl mls' (lsL_set hD q.2 q.1 h9) (len_set hn) (DI_set hD rfl))
        · cases e
      · cases e
    · cases e
  case astore_n k =>
    simp only [exec1, stA, stv] at e
    split at e
    · rename_i hlen; subst hlen
      split at e
      · rename_i o r
        split at e
        · rename_i q; cases e
          cases o with
          | none => exact lv_astore_nN hx hb hd rfl hl (by omega) rfl (fun mls' h9 => K rfl mls' (lsL_set hD q.2 q.1 h9) (len_set hn) (DI_set hD rfl))
          | some o => exact lv_astore_n hx hb hd rfl hl (by omega) rfl (fun mls' h9 => K rfl mls' (lsL_set hD q.2 q.1 h9) (len_set hn) (DI_set hD rfl))
        · cases e
      · cases e
    · cases e
  case astore k =>
    simp only [exec1, stA, stv] at e
    split at e
    · rename_i hlen; subst hlen
      split at e
      · rename_i o r
        split at e
        · rename_i q; cases e
          cases o with
          | none => exact lv_astoreN hx hb hd hl (by omega) rfl (fun mls' h9 => K rfl mls' (lsL_set hD q.2 q.1 h9) (len_set hn) (DI_set hD rfl))
          | some o => exact lv_astore hx hb hd hl (by omega) rfl (fun mls' h9 => K rfl mls' (lsL_set hD q.2 q.1 h9) (len_set hn) (DI_set hD rfl))
        · cases e
      · cases e
    · cases e
  case dload k =>
    simp only [exec1] at e
    split at e
    · rename_i hlen; subst hlen
      split at e
      · rename_i x hk; cases e
        exact lv_dload hx hb hd (lsL_at hl hk) (K rfl mls hl hn hD)
      · cases e
    · cases e
  case dstore k =>
    simp only [exec1] at e
    split at e
    · rename_i hlen; obtain ⟨hlen, hi, hk, h9⟩ := hlen; subst hlen; subst hi; subst hk
      split at e
      · rename_i x r; cases e
        refine lv_dstore hx hb hd hl (by omega) rfl (fun mls' h8 => K rfl mls' ?_ (len_set (len_set hn)) ?_)
        · refine lv_mono h8 fun q hq => ?_
          obtain ⟨j, u⟩ := q
          obtain ⟨j', w, e1, e2, e3⟩ := (lsL_mem _ 0 j u).mp hq
          have e1' : j = j' := by omega
          subst e1'
          rw [List.getElem?_set] at e2
          by_cases h8' : (8 : Nat) = j
          · rw [if_pos h8'] at e2
            split at e2 <;> cases e2
          · rw [if_neg h8', List.getElem?_set] at e2
            by_cases h7 : (7 : Nat) = j
            · subst h7
              simp [h9] at e2
              rw [e3, ← e2]
              exact List.mem_cons_self
            · rw [if_neg h7] at e2
              refine List.mem_cons_of_mem _ (List.mem_filter.mpr ⟨(lsL_mem _ 0 j u).mpr ⟨j, w, by omega, e2, e3⟩, ?_⟩)
              have a1 : (j == 7) = false := by simp; omega
              have a2 : (j == 7 + 1) = false := by simp; omega
              have a3 : (j + 1 == 7 && u.category == 2) = false := by
                rcases hD j w e2 with z | ⟨-, z⟩
                · rw [e3, toV_cat1 z]; simp
                · omega
              simp only [a1, a2, a3]; rfl
        · intro j w hj
          rw [List.getElem?_set] at hj
          split at hj
          · split at hj <;> cases hj
          · rw [List.getElem?_set] at hj
            split at hj
            · rename_i z; exact Or.inr ⟨rfl, z.symm⟩
            · exact hD j w hj
      · cases e
    · cases e
  case iinc k n =>
    simp only [exec1, stv] at e
    split at e
    · rename_i hlen; subst hlen
      split at e
      · rename_i x hk
        split at e
        · rename_i q; cases e
          obtain ⟨k9, hk9⟩ := List.getElem?_of_mem ((lsL_mem (adr := adr) ls 0 k _).mpr ⟨k, _, by omega, hk, rfl⟩)
          exact lv_iinc hx hb hd hl (k := k9) hk9 rfl (by omega) rfl (fun mls' h9 => K rfl mls' (lsL_set (v := vI _) hD q.2 q.1 h9) (len_set hn) (DI_set hD rfl))
        · cases e
      · cases e
    · cases e
  case iadd =>
    simp only [exec1, bin] at e
    split at e
    · rename_i hlen; subst hlen
      split at e
      · cases e
        exact lv_iadd hx hb hd (K rfl mls hl hn hD)
      · cases e
    · cases e
  case isub =>
    simp only [exec1, bin] at e
    split at e
    · rename_i hlen; subst hlen
      split at e
      · cases e
        exact lv_isub hx hb hd (K rfl mls hl hn hD)
      · cases e
    · cases e
  case imul =>
    simp only [exec1, bin] at e
    split at e
    · rename_i hlen; subst hlen
      split at e
      · cases e
        exact lv_imul hx hb hd (K rfl mls hl hn hD)
      · cases e
    · cases e
  case iand =>
    simp only [exec1, bin] at e
    split at e
    · rename_i hlen; subst hlen
      split at e
      · cases e
        exact lv_iand hx hb hd (K rfl mls hl hn hD)
      · cases e
    · cases e
  case ior =>
    simp only [exec1, bin] at e
    split at e
    · rename_i hlen; subst hlen
      split at e
      · cases e
        exact lv_ior hx hb hd (K rfl mls hl hn hD)
      · cases e
    · cases e
  case ixor =>
    simp only [exec1, bin] at e
    split at e
    · rename_i hlen; subst hlen
      split at e
      · cases e
        exact lv_ixor hx hb hd (K rfl mls hl hn hD)
      · cases e
    · cases e
  case ishl =>
    simp only [exec1, bin] at e
    split at e
    · rename_i hlen; subst hlen
      split at e
      · cases e
        exact lv_ishl hx hb hd (K rfl mls hl hn hD)
      · cases e
    · cases e
  case ishr =>
    simp only [exec1, bin] at e
    split at e
    · rename_i hlen; subst hlen
      split at e
      · cases e
        exact lv_ishr hx hb hd (K rfl mls hl hn hD)
      · cases e
    · cases e
  case iushr =>
    simp only [exec1, bin] at e
    split at e
    · rename_i hlen; subst hlen
      split at e
      · cases e
        exact lv_iushr hx hb hd rfl (K rfl mls hl hn hD)
      · cases e
    · cases e
  case idiv =>
    simp only [exec1] at e
    split at e
    · rename_i hlen; subst hlen
      split at e
      · split at e
        · cases e
        · rename_i hy; cases e
          exact lv_idiv hx hb hd hy (K rfl mls hl hn hD)
      · cases e
    · cases e
  case irem =>
    simp only [exec1] at e
    split at e
    · rename_i hlen; subst hlen
      split at e
      · split at e
        · cases e
        · rename_i hy; cases e
          exact lv_irem hx hb hd hy (K rfl mls hl hn hD)
      · cases e
    · cases e
  case i2l =>
    simp only [exec1] at e
    split at e
    · rename_i hlen; subst hlen
      split at e
      · cases e
        exact lv_i2l hx hb hd rfl (K rfl mls hl hn hD)
      · cases e
    · cases e
  case i2d =>
    simp only [exec1] at e
    split at e
    · rename_i hlen; subst hlen
      split at e
      · cases e
        exact lv_i2d hx hb hd (K rfl mls hl hn hD)
      · cases e
    · cases e
  case i2c =>
    simp only [exec1] at e
    split at e
    · rename_i hlen; subst hlen
      split at e
      · cases e
        exact lv_i2c hx hb hd rfl (K rfl mls hl hn hD)
      · cases e
    · cases e
  case l2i =>
    simp only [exec1] at e
    split at e
    · rename_i hlen; subst hlen
      split at e
      · cases e
        exact lv_l2i hx hb hd rfl (K rfl mls hl hn hD)
      · cases e
    · cases e
  case lxor =>
    simp only [exec1] at e
    split at e
    · rename_i hlen; subst hlen
      split at e
      · cases e
        exact lv_lxor hx hb hd (K rfl mls hl hn hD)
      · cases e
    · cases e
  case lshl =>
    simp only [exec1] at e
    split at e
    · rename_i hlen; subst hlen
      split at e
      · cases e
        exact lv_lshl hx hb hd rfl (K rfl mls hl hn hD)
      · cases e
    · cases e
  case lushr =>
    simp only [exec1] at e
    split at e
    · rename_i hlen; subst hlen
      split at e
      · cases e
        exact lv_lushr hx hb hd rfl (K rfl mls hl hn hD)
      · cases e
    · cases e
  case lcmp =>
    simp only [exec1] at e
    split at e
    · rename_i hlen; subst hlen
      split at e
      · cases e
        exact W.lcmp hx hb hd (K rfl mls hl hn hD)
      · cases e
    · cases e
  case dcmp op =>
    simp only [exec1] at e
    split at e
    · rename_i hlen; subst hlen
      split at e
      · cases e
        exact lv_dcmp hx hb hd (K rfl mls hl hn hD)
      · cases e
    · cases e
  case ddiv =>
    simp only [exec1] at e
    split at e
    · rename_i hlen; subst hlen
      split at e
      · split at e
        · rename_i hy; cases e
          exact lv_ddiv hx hb hd hy (K rfl mls hl hn hD)
        · cases e
      · cases e
    · cases e
  case dup =>
    simp only [exec1] at e
    split at e
    · rename_i hlen; subst hlen
      split at e
      · split at e
        · rename_i hy; cases e
          exact lv_dup hx hb hd (toV_cat1 hy) (K rfl mls hl hn hD)
        · cases e
      · cases e
    · cases e
  case dup2 =>
    simp only [exec1] at e
    split at e
    · rename_i hlen; subst hlen
      split at e
      · split at e
        · rename_i hy; cases e
          exact lv_dup2_11 hx hb hd (toV_cat1 hy.1) (toV_cat1 hy.2) (K rfl mls hl hn hD)
        · cases e
      · cases e
    · cases e
  case pop =>
    simp only [exec1] at e
    split at e
    · rename_i hlen; subst hlen
      split at e
      · split at e
        · rename_i hy; cases e
          exact lv_pop hx hb hd (toV_cat1 hy) (K rfl mls hl hn hD)
        · cases e
      · cases e
    · cases e
  case goto off =>
    simp only [exec1] at e
    split at e
    · rename_i hlen; subst hlen
      obtain ⟨t, ht, q⟩ := jmp_sp e
      cases q
      exact lv_goto hx hb hd ht (K rfl mls hl hn hD)
    · cases e
  case ifCond cd off =>
    simp only [exec1] at e
    split at e
    · rename_i hlen; subst hlen
      have key : ∀ b : Int32 → Bool, br1 pc off b ls st h = some (.inl (pc', ls', st', h')) → ∃ (x : Int32) (r : List MV) (t : Nat), st = .inl x :: r ∧ st' = r ∧ ls' = ls ∧ h' = h ∧ (pc : Int) + off = (t : Int) ∧ (b x = true ∧ pc' = t ∨ ¬ b x = true ∧ pc' = pc + 3) := by
        intro b eb
        unfold br1 at eb
        split at eb
        · rename_i x r
          cases ht : (pc : Int) + off with
          | ofNat t =>
            rw [ht] at eb
            simp only at eb
            split at eb
            · rename_i hbx
              cases eb
              exact ⟨x, _, _, rfl, rfl, rfl, rfl, rfl, Or.inl ⟨hbx, rfl⟩⟩
            · rename_i hbx
              cases eb
              exact ⟨x, _, t, rfl, rfl, rfl, rfl, rfl, Or.inr ⟨hbx, rfl⟩⟩
          | negSucc t => rw [ht] at eb; cases eb
        · cases eb
      cases cd
      case eq =>
        obtain ⟨x, r, t, rfl, rfl, rfl, rfl, ht, q⟩ := key _ e
        exact lv_if_eq hx hb hd ht (fun z => by
          rcases q with ⟨q1, q2⟩ | ⟨q1, q2⟩
          · subst q2; exact K rfl mls hl hn hD
          · exact absurd (decide_eq_true z) q1) (fun z => by
          rcases q with ⟨q1, q2⟩ | ⟨q1, q2⟩
          · first | exact absurd (of_decide_eq_true q1) z | exact absurd z (of_decide_eq_true q1)
          · subst q2; exact K rfl mls hl hn hD)
      case ne =>
        obtain ⟨x, r, t, rfl, rfl, rfl, rfl, ht, q⟩ := key _ e
        exact lv_if_ne hx hb hd ht (fun z => by
          rcases q with ⟨q1, q2⟩ | ⟨q1, q2⟩
          · subst q2; exact K rfl mls hl hn hD
          · exact absurd (decide_eq_true z) q1) (fun z => by
          rcases q with ⟨q1, q2⟩ | ⟨q1, q2⟩
          · first | exact absurd (of_decide_eq_true q1) z | exact absurd z (of_decide_eq_true q1)
          · subst q2; exact K rfl mls hl hn hD)
      case lt =>
        obtain ⟨x, r, t, rfl, rfl, rfl, rfl, ht, q⟩ := key _ e
        exact lv_if_lt hx hb hd ht (fun z => by
          rcases q with ⟨q1, q2⟩ | ⟨q1, q2⟩
          · subst q2; exact K rfl mls hl hn hD
          · exact absurd (decide_eq_true z) q1) (fun z => by
          rcases q with ⟨q1, q2⟩ | ⟨q1, q2⟩
          · first | exact absurd (of_decide_eq_true q1) z | exact absurd z (of_decide_eq_true q1)
          · subst q2; exact K rfl mls hl hn hD)
      case ge =>
        obtain ⟨x, r, t, rfl, rfl, rfl, rfl, ht, q⟩ := key _ e
        exact lv_if_ge hx hb hd ht (fun z => by
          rcases q with ⟨q1, q2⟩ | ⟨q1, q2⟩
          · subst q2; exact K rfl mls hl hn hD
          · exact absurd (decide_eq_true z) q1) (fun z => by
          rcases q with ⟨q1, q2⟩ | ⟨q1, q2⟩
          · first | exact absurd (of_decide_eq_true q1) z | exact absurd z (of_decide_eq_true q1)
          · subst q2; exact K rfl mls hl hn hD)
      case gt =>
        obtain ⟨x, r, t, rfl, rfl, rfl, rfl, ht, q⟩ := key _ e
        exact lv_if_gt hx hb hd ht (fun z => by
          rcases q with ⟨q1, q2⟩ | ⟨q1, q2⟩
          · subst q2; exact K rfl mls hl hn hD
          · exact absurd (decide_eq_true z) q1) (fun z => by
          rcases q with ⟨q1, q2⟩ | ⟨q1, q2⟩
          · first | exact absurd (of_decide_eq_true q1) z | exact absurd z (of_decide_eq_true q1)
          · subst q2; exact K rfl mls hl hn hD)
      case le =>
        obtain ⟨x, r, t, rfl, rfl, rfl, rfl, ht, q⟩ := key _ e
        exact lv_if_le hx hb hd ht (fun z => by
          rcases q with ⟨q1, q2⟩ | ⟨q1, q2⟩
          · subst q2; exact K rfl mls hl hn hD
          · exact absurd (decide_eq_true z) q1) (fun z => by
          rcases q with ⟨q1, q2⟩ | ⟨q1, q2⟩
          · first | exact absurd (of_decide_eq_true q1) z | exact absurd z (of_decide_eq_true q1)
          · subst q2; exact K rfl mls hl hn hD)
    · cases e
  case if_icmp cd off =>
    simp only [exec1] at e
    split at e
    · rename_i hlen; subst hlen
      have key : ∀ b : Int32 → Int32 → Bool, br2 pc off b ls st h = some (.inl (pc', ls', st', h')) → ∃ (x y : Int32) (r : List MV) (t : Nat), st = .inl y :: .inl x :: r ∧ st' = r ∧ ls' = ls ∧ h' = h ∧ (pc : Int) + off = (t : Int) ∧ (b x y = true ∧ pc' = t ∨ ¬ b x y = true ∧ pc' = pc + 3) := by
        intro b eb
        unfold br2 at eb
        split at eb
        · rename_i y x r
          cases ht : (pc : Int) + off with
          | ofNat t =>
            rw [ht] at eb
            simp only at eb
            split at eb
            · rename_i hbx
              cases eb
              exact ⟨x, y, _, _, rfl, rfl, rfl, rfl, rfl, Or.inl ⟨hbx, rfl⟩⟩
            · rename_i hbx
              cases eb
              exact ⟨x, y, _, t, rfl, rfl, rfl, rfl, rfl, Or.inr ⟨hbx, rfl⟩⟩
          | negSucc t => rw [ht] at eb; cases eb
        · cases eb
      cases cd
      case eq =>
        obtain ⟨x, y, r, t, rfl, rfl, rfl, rfl, ht, q⟩ := key _ e
        exact lv_icmp_eq hx hb hd ht (fun z => by
          rcases q with ⟨q1, q2⟩ | ⟨q1, q2⟩
          · subst q2; exact K rfl mls hl hn hD
          · exact absurd (decide_eq_true z) q1) (fun z => by
          rcases q with ⟨q1, q2⟩ | ⟨q1, q2⟩
          · first | exact absurd (of_decide_eq_true q1) z | exact absurd z (of_decide_eq_true q1)
          · subst q2; exact K rfl mls hl hn hD)
      case ne =>
        obtain ⟨x, y, r, t, rfl, rfl, rfl, rfl, ht, q⟩ := key _ e
        exact lv_icmp_ne hx hb hd ht (fun z => by
          rcases q with ⟨q1, q2⟩ | ⟨q1, q2⟩
          · subst q2; exact K rfl mls hl hn hD
          · exact absurd (decide_eq_true z) q1) (fun z => by
          rcases q with ⟨q1, q2⟩ | ⟨q1, q2⟩
          · first | exact absurd (of_decide_eq_true q1) z | exact absurd z (of_decide_eq_true q1)
          · subst q2; exact K rfl mls hl hn hD)
      case lt =>
        obtain ⟨x, y, r, t, rfl, rfl, rfl, rfl, ht, q⟩ := key _ e
        exact lv_icmp_lt hx hb hd ht (fun z => by
          rcases q with ⟨q1, q2⟩ | ⟨q1, q2⟩
          · subst q2; exact K rfl mls hl hn hD
          · exact absurd (decide_eq_true z) q1) (fun z => by
          rcases q with ⟨q1, q2⟩ | ⟨q1, q2⟩
          · first | exact absurd (of_decide_eq_true q1) z | exact absurd z (of_decide_eq_true q1)
          · subst q2; exact K rfl mls hl hn hD)
      case ge =>
        obtain ⟨x, y, r, t, rfl, rfl, rfl, rfl, ht, q⟩ := key _ e
        exact lv_icmp_ge hx hb hd ht (fun z => by
          rcases q with ⟨q1, q2⟩ | ⟨q1, q2⟩
          · subst q2; exact K rfl mls hl hn hD
          · exact absurd (decide_eq_true z) q1) (fun z => by
          rcases q with ⟨q1, q2⟩ | ⟨q1, q2⟩
          · first | exact absurd (of_decide_eq_true q1) z | exact absurd z (of_decide_eq_true q1)
          · subst q2; exact K rfl mls hl hn hD)
      case gt =>
        obtain ⟨x, y, r, t, rfl, rfl, rfl, rfl, ht, q⟩ := key _ e
        exact lv_icmp_gt hx hb hd ht (fun z => by
          rcases q with ⟨q1, q2⟩ | ⟨q1, q2⟩
          · subst q2; exact K rfl mls hl hn hD
          · exact absurd (decide_eq_true z) q1) (fun z => by
          rcases q with ⟨q1, q2⟩ | ⟨q1, q2⟩
          · first | exact absurd (of_decide_eq_true q1) z | exact absurd z (of_decide_eq_true q1)
          · subst q2; exact K rfl mls hl hn hD)
      case le =>
        obtain ⟨x, y, r, t, rfl, rfl, rfl, rfl, ht, q⟩ := key _ e
        exact lv_icmp_le hx hb hd ht (fun z => by
          rcases q with ⟨q1, q2⟩ | ⟨q1, q2⟩
          · subst q2; exact K rfl mls hl hn hD
          · exact absurd (decide_eq_true z) q1) (fun z => by
          rcases q with ⟨q1, q2⟩ | ⟨q1, q2⟩
          · first | exact absurd (of_decide_eq_true q1) z | exact absurd z (of_decide_eq_true q1)
          · subst q2; exact K rfl mls hl hn hD)
    · cases e
  case tableswitch dflt lo hi offs =>
    simp only [exec1, xTab] at e
    split at e
    · split at e
      · rename_i q
        obtain ⟨t, ht, q2⟩ := jmp_sp e
        cases q2
        exact lv_tableOut hx hb hd q ht (K rfl mls hl hn hD)
      · rename_i q
        split at e
        · rename_i off ho
          obtain ⟨t, ht, q2⟩ := jmp_sp e
          cases q2
          exact lv_tableIn hx hb hd (fun z => q (Or.inl z)) (fun z => q (Or.inr z)) ho ht (K rfl mls hl hn hD)
        · cases e
    · cases e
end StepA
