/-! the rows, on -/
section StepE
variable {adr : A3 → Nat} {B : Nat} {dC : Nat → ClassId} {dI : Nat → Nat → Nat} {dA : Nat → ClassId} {x : Hp} {c0 s0 : Nat}
variable {p : Program} {l : Launch} {en : Env} {R : Room} {s : State} {m : MethodId} {args : Array Value} {below : List Frame} {meth : Method} {c : Code} {H : Heap} {locs : List Loc} {cells slots : Nat} {Q : State → Prop}
set_option maxHeartbeats 4000000 in
theorem sh_getfield {i pc len : Nat} {idx : Nat} {ls : LS3} {st : List MV} {h : Hp} {pc' : Nat} {ls' : LS3} {st' : List MV} {h' : Hp} {mls : Array Slot} (F : FrW adr B dC dI dA x i p l s m args meth c)
    (hd : decode (mB i) pc = .ok (.getfield idx, len)) (e : exec1 i pc len ls st h (.getfield idx) = some (.inl (pc', ls', st', h'))) (P : PtW adr B dC dI dA x i s c0 s0 h H locs cells slots ls mls)
    (K : ∀ H' locs' cells' slots' mls', PtW adr B dC dI dA x i s c0 s0 h' H' locs' cells' slots' ls' mls' → W p l en R s m args below meth c H' locs' cells' slots' Q (F0 m pc' mls' (st'.map (toV adr)))) :
    W p l en R s m args below meth c H locs cells slots Q (F0 m pc mls (st.map (toV adr))) := by
  obtain ⟨hx, hb, hml, hr, hown, hts, hlk, hin, hKv, hE, hBs, hadr, hst, hAO⟩ := id F
  obtain ⟨hw, hP, hS, hcs, hl, hn, hD⟩ := id P
  simp only [exec1, xGet] at e
  split at e
  · rename_i hlen; subst hlen
    split at e
    · cases e
    · rename_i cc k hk
      split at e
      · rename_i a r
        split at e
        · rename_i q
          cases e
          obtain ⟨f1, f2, f3⟩ := fld_at hk
          rcases q with q | q
          · obtain ⟨k0, hk0, ek, he⟩ := wsO_ex hw adr dA (a := a) (by rw [q]; exact Nat.le_refl 1) (by rw [q]; show (1 : Nat) ≤ 8; decide)
            have h8 : cc < 8 := by
              have z := (hw.2.2.1 k0 hk0).2.2
              rw [ek, q] at z
              exact z rfl
            rw [cell_obj q] at he
            exact va_get hx hb hts (lay_in h8) hown hKv hP k0 he (clsW_at h8) k f2 (hts _ f1) (fun _ z => z) (v := toV adr (fval h a cc k)) (by simp [fsO, f2]) hd (K _ _ _ _ _ P)
          · have hxa := hw.2.2.2.2.1 a (Or.inl (by rw [q]; show 9 ≤ 11; decide))
            obtain ⟨z1, z2, z3, z4⟩ := hE.2.2.1 a cc (by rw [← hxa.1]; exact q)
            subst z1
            have f2' : k < 2 := f2
            rcases (show k = 0 ∨ k = 1 by omega) with rfl | rfl
            · have ev : fval h a 10 0 = vO (gR x a 0) := by
                show vO (gR h a 0) = _
                rw [hxa.2.2]
              have K1 := K _ _ _ _ _ P
              rw [List.map_cons, ev] at K1
              exact vk_getf hx hb z2 hS hown (hts _ f1) (fun _ z => z) hd K1
            · have ev : fval h a 10 1 = vI (gI x a 1) := by
                show vI (gI h a 1) = _
                rw [hxa.2.1]
              have K1 := K _ _ _ _ _ P
              rw [List.map_cons, ev] at K1
              exact vk_getf hx hb z3 hS hown (hts _ f1) (fun _ z => z) hd K1
        · cases e
      · cases e
  · cases e
set_option maxHeartbeats 4000000 in
theorem sh_putfield {i pc len : Nat} {idx : Nat} {ls : LS3} {st : List MV} {h : Hp} {pc' : Nat} {ls' : LS3} {st' : List MV} {h' : Hp} {mls : Array Slot} (F : FrW adr B dC dI dA x i p l s m args meth c)
    (hd : decode (mB i) pc = .ok (.putfield idx, len)) (e : exec1 i pc len ls st h (.putfield idx) = some (.inl (pc', ls', st', h'))) (P : PtW adr B dC dI dA x i s c0 s0 h H locs cells slots ls mls)
    (K : ∀ H' locs' cells' slots' mls', PtW adr B dC dI dA x i s c0 s0 h' H' locs' cells' slots' ls' mls' → W p l en R s m args below meth c H' locs' cells' slots' Q (F0 m pc' mls' (st'.map (toV adr)))) :
    W p l en R s m args below meth c H locs cells slots Q (F0 m pc mls (st.map (toV adr))) := by
  obtain ⟨hx, hb, hml, hr, hown, hts, hlk, hin, hKv, hE, hBs, hadr, hst, hAO⟩ := id F
  obtain ⟨hw, hP, hS, hcs, hl, hn, hD⟩ := id P
  simp only [exec1, xPut] at e
  split at e
  · rename_i hlen; subst hlen
    split at e
    · cases e
    · rename_i cc k hk
      split at e
      · cases e
      · rename_i t f hf
        obtain ⟨f1, f2, f3⟩ := fld_at hk
        obtain ⟨g1, g2, g3, g4, g5, g6⟩ := fty_at hf
        split at e
        · cases e
        · rename_i hfin
          split at e
          · rename_i v a r
            split at e
            · rename_i q
              cases e
              obtain ⟨q, q5⟩ := q
              obtain ⟨k0, hk0, ek, he⟩ := wsO_ex hw adr dA (a := a) (by rw [q]; exact Nat.le_refl 1) (by rw [q]; show (1 : Nat) ≤ 8; decide)
              have h8 : cc < 8 := by
                have z := (hw.2.2.1 k0 hk0).2.2
                rw [ek, q] at z
                exact z rfl
              rw [cell_obj q] at he
              have hty := tyW_ok h8 k f2
              have hnf : narrow (tyW cc k) (.int v) = .int v ∧ fits (tyW cc k) (.int v) = true := by
                rcases q5 with rfl | ⟨rfl, z | z⟩
                · rw [g3 rfl]; exact ⟨rfl, rfl⟩
                · rw [g4 rfl, z]; exact ⟨rfl, rfl⟩
                · rw [g4 rfl, z]; exact ⟨rfl, rfl⟩
              have hlen : k < (fsO adr h a cc).length := by simp [fsO, f2]
              have fin : ∀ (H1 : Heap) (locs1 : List Loc), va_P (dC, dI) clsW ((wsO adr dA h).set k0 (adr a, .inr (cc, (fsO adr h a cc).set k (.int v)))) H1 → va_S (fun q => B ≤ q) s.heap H1 locs1 → W p l en R s m args below meth c H1 locs1 cells slots Q (F0 m (pc + 3) mls (st'.map (toV adr))) := by
                intro H1 locs1 hP1 hS1
                refine K _ _ _ _ _ (pt_upd P (Kp_sI (by rw [q]; exact ⟨Nat.le_refl _, by show (1 : Nat) ≤ 8; decide⟩)) hk0 ek (fun b z => cell_sI_ne z) ?_ hS1)
                rw [cell_obj (h := sI h a k v) q, fs_sI f2 (by rw [hf]; intro z; rcases q5 with rfl | ⟨rfl, -⟩ <;> cases z)]
                exact hP1
              by_cases hf1 : f = 1
              · have hfi : mN i = true ∧ mC i = cc := by
                  by_cases z : mN i = true ∧ mC i = cc
                  · exact z
                  · exact absurd ⟨hf1, z⟩ hfin
                exact va_putF hx hb hts (lay_in h8) (tyW cc) (tyW_ok h8) (nmW_ok h8) hown hKv hP (wsO_D hw hadr) hS k0 he (clsW_at h8) k f2 (hts _ f1) (fun _ z => z) (g2.mp hf1) (hin hfi.1) (by rw [g6, hfi.2]) hty hnf.1 hnf.2 hlen hd (fun H1 locs1 hP1 _ hS1 => fin H1 locs1 hP1 hS1)
              · exact va_put hx hb hts (lay_in h8) (tyW cc) (tyW_ok h8) (nmW_ok h8) hown hKv hP (wsO_D hw hadr) hS k0 he (clsW_at h8) k f2 (hts _ f1) (fun _ z => z) (by cases z : (TW cc k).2.2.2 with | false => rfl | true => exact absurd (g2.mpr z) hf1) hty hnf.1 hnf.2 hlen hd (fun H1 locs1 hP1 _ hS1 => fin H1 locs1 hP1 hS1)
            · cases e
          · rename_i v a r
            split at e
            · rename_i q
              cases e
              obtain ⟨q, rfl⟩ := q
              obtain ⟨k0, hk0, ek, he⟩ := wsO_ex hw adr dA (a := a) (by rw [q]; exact Nat.le_refl 1) (by rw [q]; show (1 : Nat) ≤ 8; decide)
              have h8 : cc < 8 := by
                have z := (hw.2.2.1 k0 hk0).2.2
                rw [ek, q] at z
                exact z rfl
              rw [cell_obj q] at he
              have hty := tyW_ok h8 k f2
              have hnf : narrow (tyW cc k) (toV adr (vO v)) = toV adr (vO v) ∧ fits (tyW cc k) (toV adr (vO v)) = true := by
                rcases g5 rfl with ⟨n, z⟩ | ⟨n, z⟩ <;> rw [z] <;> cases v <;> exact ⟨rfl, rfl⟩
              have hlen : k < (fsO adr h a cc).length := by simp [fsO, f2]
              have fin : ∀ (H1 : Heap) (locs1 : List Loc), va_P (dC, dI) clsW ((wsO adr dA h).set k0 (adr a, .inr (cc, (fsO adr h a cc).set k (toV adr (vO v))))) H1 → va_S (fun q => B ≤ q) s.heap H1 locs1 → W p l en R s m args below meth c H1 locs1 cells slots Q (F0 m (pc + 3) mls (st'.map (toV adr))) := by
                intro H1 locs1 hP1 hS1
                refine K _ _ _ _ _ (pt_upd P (Kp_sR (by rw [q]; exact ⟨Nat.le_refl _, by show (1 : Nat) ≤ 8; decide⟩)) hk0 ek (fun b z => cell_sR_ne z) ?_ hS1)
                rw [cell_obj (h := sR h a k v) q, fs_sR f2 (by rw [hf]; rfl)]
                exact hP1
              by_cases hf1 : f = 1
              · have hfi : mN i = true ∧ mC i = cc := by
                  by_cases z : mN i = true ∧ mC i = cc
                  · exact z
                  · exact absurd ⟨hf1, z⟩ hfin
                exact va_putF hx hb hts (lay_in h8) (tyW cc) (tyW_ok h8) (nmW_ok h8) hown hKv hP (wsO_D hw hadr) hS k0 he (clsW_at h8) k f2 (hts _ f1) (fun _ z => z) (g2.mp hf1) (hin hfi.1) (by rw [g6, hfi.2]) hty hnf.1 hnf.2 hlen hd (fun H1 locs1 hP1 _ hS1 => fin H1 locs1 hP1 hS1)
              · exact va_put hx hb hts (lay_in h8) (tyW cc) (tyW_ok h8) (nmW_ok h8) hown hKv hP (wsO_D hw hadr) hS k0 he (clsW_at h8) k f2 (hts _ f1) (fun _ z => z) (by cases z : (TW cc k).2.2.2 with | false => rfl | true => exact absurd (g2.mpr z) hf1) hty hnf.1 hnf.2 hlen hd (fun H1 locs1 hP1 _ hS1 => fin H1 locs1 hP1 hS1)
            · cases e
          · cases e
  · cases e
/-- a step of a frame that reads or writes cells -/
theorem st_heap {i pc len : Nat} {ins : Instr} {ls : LS3} {st : List MV} {h : Hp} {pc' : Nat} {ls' : LS3} {st' : List MV} {h' : Hp} {mls : Array Slot} (F : FrW adr B dC dI dA x i p l s m args meth c)
    (hnp : pureI ins = false) (hd : decode (mB i) pc = .ok (ins, len)) (e : exec1 i pc len ls st h ins = some (.inl (pc', ls', st', h'))) (P : PtW adr B dC dI dA x i s c0 s0 h H locs cells slots ls mls)
    (hal : ∀ idx, ins ≠ .new idx) (hal2 : ∀ t, ins ≠ .newarray t) (hal3 : ∀ t, ins ≠ .anewarray t) (hal4 : ∀ t, ins ≠ .invokestatic t) (hal5 : ∀ t, ins ≠ .invokespecial t)
    (K : ∀ H' locs' cells' slots' mls', PtW adr B dC dI dA x i s c0 s0 h' H' locs' cells' slots' ls' mls' → W p l en R s m args below meth c H' locs' cells' slots' Q (F0 m pc' mls' (st'.map (toV adr)))) :
    W p l en R s m args below meth c H locs cells slots Q (F0 m pc mls (st.map (toV adr))) := by
  cases ins <;> try (cases hnp; done)
  case new idx => exact absurd rfl (hal idx)
  case newarray t => exact absurd rfl (hal2 t)
  case anewarray t => exact absurd rfl (hal3 t)
  case invokestatic t => exact absurd rfl (hal4 t)
  case invokespecial t => exact absurd rfl (hal5 t)
  case iaload => exact sh_iaload F hd e P K
  case caload => exact sh_caload F hd e P K
  case baload => exact sh_baload F hd e P K
  case laload => exact sh_laload F hd e P K
  case daload => exact sh_daload F hd e P K
  case aaload => exact sh_aaload F hd e P K
  case iastore => exact sh_iastore F hd e P K
  case castore => exact sh_castore F hd e P K
  case lastore => exact sh_lastore F hd e P K
  case dastore => exact sh_dastore F hd e P K
  case aastore => exact sh_aastore F hd e P K
  case arraylength => exact sh_arraylength F hd e P K
  case if_acmp cd off => exact sh_if_acmp F hd e P K
  case ldc idx => exact sh_ldc F hd e P K
  case ldc_w idx => exact sh_ldc_w F hd e P K
  case getstatic idx => exact sh_getstatic F hd e P K
  case getfield idx => exact sh_getfield F hd e P K
  case putfield idx => exact sh_putfield F hd e P K
  case invokevirtual idx => exact absurd e (no_call hd)
  case ireturn => exact absurd e no_iret
  case areturn => exact absurd e no_aret
  case dreturn => exact absurd e no_dret
  case return_ => exact absurd e no_ret
  all_goals (cases e; done)
end StepE
