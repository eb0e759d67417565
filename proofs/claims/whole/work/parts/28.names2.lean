set_option maxHeartbeats 4000000 in
set_option maxRecDepth 100000 in
theorem c_Rd_partName (l : Launch) (G : ZG) (dC : Nat → ClassId) (dI : Nat → Nat → Nat) (sz : Nat) (pa : Nat) (hpa : pa < 7) : Met l y_Rd_partName w_Rd_partName ({ frames := 0, cells := 0, slots := 0, locals := 0 }) (va_Pc [.int (nI pa)] (PW G (dC, dI) [] [] sz)) (va_Qr (fun (uu : Unit) => True) (fun (uu : Unit) (ra : Nat) t => ra = G.2.1 (pa + 1) ∧ BW (dC, dI) [] (va_A [] sz) sz t) (va_A [] sz)) 0 0 (va_A [] sz) := by
  refine Met.ofW (cc := prog_2_method_3_code) (maxL := 1) (ret := (some (.object "java/lang/String"))) (by decide) rfl ?_
  intro p e s m args below meth c s₁ Bd hml hv
  obtain ⟨rfl, hsz, hP, hK, hD0, hE⟩ := hv
  have hx := Bd.exec
  have hb := Bd.bytes
  have hr := Bd.returns
  have hts := atoms_spec (ws := w_Rd_partName) Bd.pre
  have hown : s.vm.findClass R_Rd = some m.cls := findClass_of_methodNamed Bd.named
  have hlocks := Bd.notSynchronized
  have hz : ∀ w ∈ ZW, w.before _ s = true := fun w h => hts w (List.mem_cons_of_mem _ h)
  subst hsz
  have hD := hD0.self (sz := s.heap.size)
  generalize hAe : va_A [] s.heap.size = A at hD hE ⊢
  have hA : ∀ q : Nat, s.heap.size ≤ q → A q := fun q h => by rw [← hAe]; exact Or.inr h
  have hS : va_S A s.heap s.heap [] := va_S.rf
  have hl := lv_entry ([.int (nI pa)]) (n := 1) (Nat.le_of_ble_eq_true rfl)
  rw [lg_entry_eq]
  generalize (lg_sl ([.int (nI pa)]) ++ List.replicate (1 - (lg_sl ([.int (nI pa)])).length) Slot.unset).toArray = ls at hl ⊢
  have hl : lv_has ls 1 [(0, .int (nI pa))] := hl
  obtain ⟨H, hH⟩ : ∃ z, z = s.heap := ⟨_, rfl⟩
  have hP : va_P (dC, dI) vwCl [] H := by rw [hH]; exact hP
  have hS : va_S A s.heap H [] := by rw [hH]; exact hS
  refine zt_heap hH ?_
  rcases (show pa = 0 ∨ pa = 1 ∨ pa = 2 ∨ pa = 3 ∨ pa = 4 ∨ pa = 5 ∨ pa = 6 by omega) with rfl | rfl | rfl | rfl | rfl | rfl | rfl
  ·
    refine lv_iload_n hx hb d_Rd_partName_0 rfl (lv_at hl 0 rfl) ?_
    refine lv_tableIn (off := 39) (tgt := 40) hx hb d_Rd_partName_1 (by decide) (by decide) (by decide) (by decide) ?_
    refine va_ldcS (q := G.2.1 1) hx hb hown (hE.2.2.2.2.2.2.2 1 (by decide)).2 d_Rd_partName_40 ?_
    refine zt_size (fun hzs => ?_)
    have hP9 := hP.sub (ws' := []) [] rfl
    have hD9 := hD.sub (ws' := []) [] (by decide) rfl
    exact W.aret (v := .ref (G.2.1 1)) hx hb hr (Or.inl ⟨_, rfl⟩) (Or.inr ⟨_, rfl⟩) (fun t ht hW => ⟨⟨(), (G.2.1 1), rfl, trivial, rfl, by rw [ht]; exact hP9, hD9, by rw [ht]; exact hzs⟩, hS.F ht⟩) hS.2.2 d_Rd_partName_42
  ·
    refine lv_iload_n hx hb d_Rd_partName_0 rfl (lv_at hl 0 rfl) ?_
    refine lv_tableIn (off := 42) (tgt := 43) hx hb d_Rd_partName_1 (by decide) (by decide) (by decide) (by decide) ?_
    refine va_ldcS (q := G.2.1 2) hx hb hown (hE.2.2.2.2.2.2.2 2 (by decide)).2 d_Rd_partName_43 ?_
    refine zt_size (fun hzs => ?_)
    have hP9 := hP.sub (ws' := []) [] rfl
    have hD9 := hD.sub (ws' := []) [] (by decide) rfl
    exact W.aret (v := .ref (G.2.1 2)) hx hb hr (Or.inl ⟨_, rfl⟩) (Or.inr ⟨_, rfl⟩) (fun t ht hW => ⟨⟨(), (G.2.1 2), rfl, trivial, rfl, by rw [ht]; exact hP9, hD9, by rw [ht]; exact hzs⟩, hS.F ht⟩) hS.2.2 d_Rd_partName_45
  ·
    refine lv_iload_n hx hb d_Rd_partName_0 rfl (lv_at hl 0 rfl) ?_
    refine lv_tableIn (off := 45) (tgt := 46) hx hb d_Rd_partName_1 (by decide) (by decide) (by decide) (by decide) ?_
    refine va_ldcS (q := G.2.1 3) hx hb hown (hE.2.2.2.2.2.2.2 3 (by decide)).2 d_Rd_partName_46 ?_
    refine zt_size (fun hzs => ?_)
    have hP9 := hP.sub (ws' := []) [] rfl
    have hD9 := hD.sub (ws' := []) [] (by decide) rfl
    exact W.aret (v := .ref (G.2.1 3)) hx hb hr (Or.inl ⟨_, rfl⟩) (Or.inr ⟨_, rfl⟩) (fun t ht hW => ⟨⟨(), (G.2.1 3), rfl, trivial, rfl, by rw [ht]; exact hP9, hD9, by rw [ht]; exact hzs⟩, hS.F ht⟩) hS.2.2 d_Rd_partName_48
  ·
    refine lv_iload_n hx hb d_Rd_partName_0 rfl (lv_at hl 0 rfl) ?_
    refine lv_tableIn (off := 48) (tgt := 49) hx hb d_Rd_partName_1 (by decide) (by decide) (by decide) (by decide) ?_
    refine va_ldcS (q := G.2.1 4) hx hb hown (hE.2.2.2.2.2.2.2 4 (by decide)).2 d_Rd_partName_49 ?_
    refine zt_size (fun hzs => ?_)
    have hP9 := hP.sub (ws' := []) [] rfl
    have hD9 := hD.sub (ws' := []) [] (by decide) rfl
    exact W.aret (v := .ref (G.2.1 4)) hx hb hr (Or.inl ⟨_, rfl⟩) (Or.inr ⟨_, rfl⟩) (fun t ht hW => ⟨⟨(), (G.2.1 4), rfl, trivial, rfl, by rw [ht]; exact hP9, hD9, by rw [ht]; exact hzs⟩, hS.F ht⟩) hS.2.2 d_Rd_partName_51
  ·
    refine lv_iload_n hx hb d_Rd_partName_0 rfl (lv_at hl 0 rfl) ?_
    refine lv_tableIn (off := 51) (tgt := 52) hx hb d_Rd_partName_1 (by decide) (by decide) (by decide) (by decide) ?_
    refine va_ldcS (q := G.2.1 5) hx hb hown (hE.2.2.2.2.2.2.2 5 (by decide)).2 d_Rd_partName_52 ?_
    refine zt_size (fun hzs => ?_)
    have hP9 := hP.sub (ws' := []) [] rfl
    have hD9 := hD.sub (ws' := []) [] (by decide) rfl
    exact W.aret (v := .ref (G.2.1 5)) hx hb hr (Or.inl ⟨_, rfl⟩) (Or.inr ⟨_, rfl⟩) (fun t ht hW => ⟨⟨(), (G.2.1 5), rfl, trivial, rfl, by rw [ht]; exact hP9, hD9, by rw [ht]; exact hzs⟩, hS.F ht⟩) hS.2.2 d_Rd_partName_54
  ·
    refine lv_iload_n hx hb d_Rd_partName_0 rfl (lv_at hl 0 rfl) ?_
    refine lv_tableIn (off := 54) (tgt := 55) hx hb d_Rd_partName_1 (by decide) (by decide) (by decide) (by decide) ?_
    refine va_ldcS (q := G.2.1 6) hx hb hown (hE.2.2.2.2.2.2.2 6 (by decide)).2 d_Rd_partName_55 ?_
    refine zt_size (fun hzs => ?_)
    have hP9 := hP.sub (ws' := []) [] rfl
    have hD9 := hD.sub (ws' := []) [] (by decide) rfl
    exact W.aret (v := .ref (G.2.1 6)) hx hb hr (Or.inl ⟨_, rfl⟩) (Or.inr ⟨_, rfl⟩) (fun t ht hW => ⟨⟨(), (G.2.1 6), rfl, trivial, rfl, by rw [ht]; exact hP9, hD9, by rw [ht]; exact hzs⟩, hS.F ht⟩) hS.2.2 d_Rd_partName_57
  ·
    refine lv_iload_n hx hb d_Rd_partName_0 rfl (lv_at hl 0 rfl) ?_
    refine lv_tableOut (tgt := 58) hx hb d_Rd_partName_1 (by decide) (by decide) ?_
    refine va_ldcS (q := G.2.1 7) hx hb hown (hE.2.2.2.2.2.2.2 7 (by decide)).2 d_Rd_partName_58 ?_
    refine zt_size (fun hzs => ?_)
    have hP9 := hP.sub (ws' := []) [] rfl
    have hD9 := hD.sub (ws' := []) [] (by decide) rfl
    exact W.aret (v := .ref (G.2.1 7)) hx hb hr (Or.inl ⟨_, rfl⟩) (Or.inr ⟨_, rfl⟩) (fun t ht hW => ⟨⟨(), (G.2.1 7), rfl, trivial, rfl, by rw [ht]; exact hP9, hD9, by rw [ht]; exact hzs⟩, hS.F ht⟩) hS.2.2 d_Rd_partName_60
