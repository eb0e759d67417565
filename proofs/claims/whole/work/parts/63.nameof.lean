set_option maxHeartbeats 4000000 in
set_option maxRecDepth 100000 in
theorem c_Md_nameOf (l : Launch) (G : ZG) (dC : Nat → ClassId) (dI : Nat → Nat → Nat) (sz : Nat) (aM : Nat) (th : Int32) (aMT : Nat) (mu : Nat) (aNw : Nat) (aNx : Nat) (mw : Int32) (mwa : Int32) (ma : Nat) (en : Nat) (mv : Int64) (mf : Int32) (ml : Int32) (pa : Nat) (hpa : pa < 7) : Met l y_Md_nameOf w_Md_nameOf ({ frames := 0, cells := 0, slots := 0, locals := 0 }) (va_Pc [.ref aM, .int (nI pa)] (PW G (dC, dI) [] [(aM, .inr (4, [.int th, .ref aMT, .int (nI mu), .ref aNw, .ref aNx, .int mw, .int mwa, .int (nI ma), .int (nI en), .long mv, .int mf, .int ml]))] sz)) (va_Ql (fun (r : Int64) (uu : Unit) => r = zWv (pa + 1)) (fun (uu : Unit) t => BW (dC, dI) [(aM, .inr (4, [.int th, .ref aMT, .int (nI mu), .ref aNw, .ref aNx, .int mw, .int mwa, .int (nI ma), .int (nI en), .long mv, .int mf, .int ml]))] (va_A [(aM, .inr (4, [.int th, .ref aMT, .int (nI mu), .ref aNw, .ref aNx, .int mw, .int mwa, .int (nI ma), .int (nI en), .long mv, .int mf, .int ml]))] sz) sz t) (va_A [(aM, .inr (4, [.int th, .ref aMT, .int (nI mu), .ref aNw, .ref aNx, .int mw, .int mwa, .int (nI ma), .int (nI en), .long mv, .int mf, .int ml]))] sz)) 0 0 (va_A [(aM, .inr (4, [.int th, .ref aMT, .int (nI mu), .ref aNw, .ref aNx, .int mw, .int mwa, .int (nI ma), .int (nI en), .long mv, .int mf, .int ml]))] sz) := by
  refine Met.ofW (cc := prog_6_method_29_code) (maxL := 2) (ret := (some .long)) (by decide) rfl ?_
  intro p e s m args below meth c s₁ Bd hml hv
  obtain ⟨rfl, hsz, hP, hK, hD0, hE⟩ := hv
  have hx := Bd.exec
  have hb := Bd.bytes
  have hr := Bd.returns
  have hts := atoms_spec (ws := w_Md_nameOf) Bd.pre
  have hown : s.vm.findClass R_Md = some m.cls := findClass_of_methodNamed Bd.named
  have hlocks := Bd.notSynchronized
  have hz : ∀ w ∈ ZW, w.before _ s = true := fun w h => hts w (List.mem_cons_of_mem _ h)
  subst hsz
  have hD := hD0.self (sz := s.heap.size)
  generalize hAe : va_A [(aM, .inr (4, [.int th, .ref aMT, .int (nI mu), .ref aNw, .ref aNx, .int mw, .int mwa, .int (nI ma), .int (nI en), .long mv, .int mf, .int ml]))] s.heap.size = A at hD hE ⊢
  have hA : ∀ q : Nat, s.heap.size ≤ q → A q := fun q h => by rw [← hAe]; exact Or.inr h
  have hS : va_S A s.heap s.heap [] := va_S.rf
  have hl := lv_entry ([.ref aM, .int (nI pa)]) (n := 2) (Nat.le_of_ble_eq_true rfl)
  rw [lg_entry_eq]
  generalize (lg_sl ([.ref aM, .int (nI pa)]) ++ List.replicate (2 - (lg_sl ([.ref aM, .int (nI pa)])).length) Slot.unset).toArray = ls at hl ⊢
  have hl : lv_has ls 2 [(0, .ref aM), (1, .int (nI pa))] := hl
  obtain ⟨H, hH⟩ : ∃ z, z = s.heap := ⟨_, rfl⟩
  have hP : va_P (dC, dI) vwCl [(aM, .inr (4, [.int th, .ref aMT, .int (nI mu), .ref aNw, .ref aNx, .int mw, .int mwa, .int (nI ma), .int (nI en), .long mv, .int mf, .int ml]))] H := by rw [hH]; exact hP
  have hS : va_S A s.heap H [] := by rw [hH]; exact hS
  refine zt_heap hH ?_
  rcases (show pa = 0 ∨ pa = 1 ∨ pa = 2 ∨ pa = 3 ∨ pa = 4 ∨ pa = 5 ∨ pa = 6 by omega) with rfl | rfl | rfl | rfl | rfl | rfl | rfl
  ·
    refine lv_iload_n hx hb d_Md_nameOf_0 rfl (lv_at hl 1 rfl) ?_
    refine lv_tableIn (off := 39) (tgt := 40) hx hb d_Md_nameOf_1 (by decide) (by decide) (by decide) (by decide) ?_
    refine lv_ldc2 (v := zWv 1) hx hb hown (hz _ tw_557) d_Md_nameOf_40 ?_
    refine zt_size (fun hzs => ?_)
    have hP9 := hP.sub (ws' := [(aM, .inr (4, [.int th, .ref aMT, .int (nI mu), .ref aNw, .ref aNx, .int mw, .int mwa, .int (nI ma), .int (nI en), .long mv, .int mf, .int ml]))]) [0] rfl
    have hD9 := hD.sub (ws' := [(aM, .inr (4, [.int th, .ref aMT, .int (nI mu), .ref aNw, .ref aNx, .int mw, .int mwa, .int (nI ma), .int (nI en), .long mv, .int mf, .int ml]))]) [0] (by decide) rfl
    exact W.lret (v := zWv 1) hx hb hr (fun t ht hW => ⟨⟨zWv 1, (), rfl, rfl, by rw [ht]; exact hP9, hD9, by rw [ht]; exact hzs⟩, hS.F ht⟩) hS.2.2 d_Md_nameOf_43
  ·
    refine lv_iload_n hx hb d_Md_nameOf_0 rfl (lv_at hl 1 rfl) ?_
    refine lv_tableIn (off := 43) (tgt := 44) hx hb d_Md_nameOf_1 (by decide) (by decide) (by decide) (by decide) ?_
    refine lv_ldc2 (v := zWv 2) hx hb hown (hz _ tw_558) d_Md_nameOf_44 ?_
    refine zt_size (fun hzs => ?_)
    have hP9 := hP.sub (ws' := [(aM, .inr (4, [.int th, .ref aMT, .int (nI mu), .ref aNw, .ref aNx, .int mw, .int mwa, .int (nI ma), .int (nI en), .long mv, .int mf, .int ml]))]) [0] rfl
    have hD9 := hD.sub (ws' := [(aM, .inr (4, [.int th, .ref aMT, .int (nI mu), .ref aNw, .ref aNx, .int mw, .int mwa, .int (nI ma), .int (nI en), .long mv, .int mf, .int ml]))]) [0] (by decide) rfl
    exact W.lret (v := zWv 2) hx hb hr (fun t ht hW => ⟨⟨zWv 2, (), rfl, rfl, by rw [ht]; exact hP9, hD9, by rw [ht]; exact hzs⟩, hS.F ht⟩) hS.2.2 d_Md_nameOf_47
  ·
    refine lv_iload_n hx hb d_Md_nameOf_0 rfl (lv_at hl 1 rfl) ?_
    refine lv_tableIn (off := 47) (tgt := 48) hx hb d_Md_nameOf_1 (by decide) (by decide) (by decide) (by decide) ?_
    refine lv_ldc2 (v := zWv 3) hx hb hown (hz _ tw_559) d_Md_nameOf_48 ?_
    refine zt_size (fun hzs => ?_)
    have hP9 := hP.sub (ws' := [(aM, .inr (4, [.int th, .ref aMT, .int (nI mu), .ref aNw, .ref aNx, .int mw, .int mwa, .int (nI ma), .int (nI en), .long mv, .int mf, .int ml]))]) [0] rfl
    have hD9 := hD.sub (ws' := [(aM, .inr (4, [.int th, .ref aMT, .int (nI mu), .ref aNw, .ref aNx, .int mw, .int mwa, .int (nI ma), .int (nI en), .long mv, .int mf, .int ml]))]) [0] (by decide) rfl
    exact W.lret (v := zWv 3) hx hb hr (fun t ht hW => ⟨⟨zWv 3, (), rfl, rfl, by rw [ht]; exact hP9, hD9, by rw [ht]; exact hzs⟩, hS.F ht⟩) hS.2.2 d_Md_nameOf_51
  ·
    refine lv_iload_n hx hb d_Md_nameOf_0 rfl (lv_at hl 1 rfl) ?_
    refine lv_tableIn (off := 51) (tgt := 52) hx hb d_Md_nameOf_1 (by decide) (by decide) (by decide) (by decide) ?_
    refine lv_ldc2 (v := zWv 4) hx hb hown (hz _ tw_560) d_Md_nameOf_52 ?_
    refine zt_size (fun hzs => ?_)
    have hP9 := hP.sub (ws' := [(aM, .inr (4, [.int th, .ref aMT, .int (nI mu), .ref aNw, .ref aNx, .int mw, .int mwa, .int (nI ma), .int (nI en), .long mv, .int mf, .int ml]))]) [0] rfl
    have hD9 := hD.sub (ws' := [(aM, .inr (4, [.int th, .ref aMT, .int (nI mu), .ref aNw, .ref aNx, .int mw, .int mwa, .int (nI ma), .int (nI en), .long mv, .int mf, .int ml]))]) [0] (by decide) rfl
    exact W.lret (v := zWv 4) hx hb hr (fun t ht hW => ⟨⟨zWv 4, (), rfl, rfl, by rw [ht]; exact hP9, hD9, by rw [ht]; exact hzs⟩, hS.F ht⟩) hS.2.2 d_Md_nameOf_55
  ·
    refine lv_iload_n hx hb d_Md_nameOf_0 rfl (lv_at hl 1 rfl) ?_
    refine lv_tableIn (off := 55) (tgt := 56) hx hb d_Md_nameOf_1 (by decide) (by decide) (by decide) (by decide) ?_
    refine lv_ldc2 (v := zWv 5) hx hb hown (hz _ tw_561) d_Md_nameOf_56 ?_
    refine zt_size (fun hzs => ?_)
    have hP9 := hP.sub (ws' := [(aM, .inr (4, [.int th, .ref aMT, .int (nI mu), .ref aNw, .ref aNx, .int mw, .int mwa, .int (nI ma), .int (nI en), .long mv, .int mf, .int ml]))]) [0] rfl
    have hD9 := hD.sub (ws' := [(aM, .inr (4, [.int th, .ref aMT, .int (nI mu), .ref aNw, .ref aNx, .int mw, .int mwa, .int (nI ma), .int (nI en), .long mv, .int mf, .int ml]))]) [0] (by decide) rfl
    exact W.lret (v := zWv 5) hx hb hr (fun t ht hW => ⟨⟨zWv 5, (), rfl, rfl, by rw [ht]; exact hP9, hD9, by rw [ht]; exact hzs⟩, hS.F ht⟩) hS.2.2 d_Md_nameOf_59
  ·
    refine lv_iload_n hx hb d_Md_nameOf_0 rfl (lv_at hl 1 rfl) ?_
    refine lv_tableIn (off := 59) (tgt := 60) hx hb d_Md_nameOf_1 (by decide) (by decide) (by decide) (by decide) ?_
    refine lv_ldc2 (v := zWv 6) hx hb hown (hz _ tw_562) d_Md_nameOf_60 ?_
    refine zt_size (fun hzs => ?_)
    have hP9 := hP.sub (ws' := [(aM, .inr (4, [.int th, .ref aMT, .int (nI mu), .ref aNw, .ref aNx, .int mw, .int mwa, .int (nI ma), .int (nI en), .long mv, .int mf, .int ml]))]) [0] rfl
    have hD9 := hD.sub (ws' := [(aM, .inr (4, [.int th, .ref aMT, .int (nI mu), .ref aNw, .ref aNx, .int mw, .int mwa, .int (nI ma), .int (nI en), .long mv, .int mf, .int ml]))]) [0] (by decide) rfl
    exact W.lret (v := zWv 6) hx hb hr (fun t ht hW => ⟨⟨zWv 6, (), rfl, rfl, by rw [ht]; exact hP9, hD9, by rw [ht]; exact hzs⟩, hS.F ht⟩) hS.2.2 d_Md_nameOf_63
  ·
    refine lv_iload_n hx hb d_Md_nameOf_0 rfl (lv_at hl 1 rfl) ?_
    refine lv_tableOut (tgt := 64) hx hb d_Md_nameOf_1 (by decide) (by decide) ?_
    refine lv_ldc2 (v := zWv 7) hx hb hown (hz _ tw_563) d_Md_nameOf_64 ?_
    refine zt_size (fun hzs => ?_)
    have hP9 := hP.sub (ws' := [(aM, .inr (4, [.int th, .ref aMT, .int (nI mu), .ref aNw, .ref aNx, .int mw, .int mwa, .int (nI ma), .int (nI en), .long mv, .int mf, .int ml]))]) [0] rfl
    have hD9 := hD.sub (ws' := [(aM, .inr (4, [.int th, .ref aMT, .int (nI mu), .ref aNw, .ref aNx, .int mw, .int mwa, .int (nI ma), .int (nI en), .long mv, .int mf, .int ml]))]) [0] (by decide) rfl
    exact W.lret (v := zWv 7) hx hb hr (fun t ht hW => ⟨⟨zWv 7, (), rfl, rfl, by rw [ht]; exact hP9, hD9, by rw [ht]; exact hzs⟩, hS.F ht⟩) hS.2.2 d_Md_nameOf_67
set_option maxHeartbeats 4000000 in
set_option maxRecDepth 100000 in
theorem c_Md_part (l : Launch) (G : ZG) (dC : Nat → ClassId) (dI : Nat → Nat → Nat) (sz : Nat) (aM : Nat) (th : Int32) (aMT : Nat) (mu : Nat) (aNw : Nat) (aNx : Nat) (mw : Int32) (mwa : Int32) (ma : Nat) (en : Nat) (mv : Int64) (mf : Int32) (ml : Int32) (kMT : ClassId) (B : Nat → Int32) (kNx : ClassId) (nx : Nat → Int32) (cnt : Nat → Nat) (pa : Nat) (hen : en ≤ 65536) (hma : ma ≤ en) (hpa : pa < 7) (hcn : ∀ j, j < 5 → nx j = nI (cnt j)) (hcm : ∀ j, j < 5 → cnt j ≤ zM j) (hz0 : ∀ j, pa ≤ j → j < 5 → cnt j = 0) : Met l y_Md_part w_Md_part ({ frames := 9, cells := 0, slots := 0, locals := 207 }) (va_Pc [.ref aM, .int (nI pa)] (PW G (dC, dI) [(kMT, .byte), (kNx, .int)] [(aM, .inr (4, [.int th, .ref aMT, .int (nI mu), .ref aNw, .ref aNx, .int mw, .int mwa, .int (nI ma), .int (nI en), .long mv, .int mf, .int ml])), (aMT, .inl (kMT, 65536, .inl B)), (aNx, .inl (kNx, 52650, .inl nx))] sz)) (va_Qi (fun (r : Int32) (uu : Nat × Int32 × Int32 × Int64 × Int32 × (Nat → Int32) × Int32) => (r = 1 ∧ uu.1 ≤ en ∧ uu.2.1 = mw ∧ uu.2.2.1 = mwa ∧ ∃ cn : Nat → Nat, (zB (zKey B en (zSb (pa + 1)) (zK B en ma)) fun h2 => mPart B en pa cnt (h2, nx)) = .ok (cn, zK B en uu.1, uu.2.2.2.2.2.1) ∧ (∀ j, j < 5 → uu.2.2.2.2.2.1 j = nI (cn j)) ∧ (∀ j, j < 5 → cn j ≤ zM j) ∧ ∀ j, pa + 1 ≤ j → j < 5 → cn j = 0) ∨ (r = 0 ∧ uu.1 ≤ en ∧ ∃ k, (zB (zKey B en (zSb (pa + 1)) (zK B en ma)) fun h2 => mPart B en pa cnt (h2, nx)) = .error (uu.2.1, k) ∧ uu.2.2.1 = nI k)) (fun (uu : Nat × Int32 × Int32 × Int64 × Int32 × (Nat → Int32) × Int32) t => BW (dC, dI) [(aM, .inr (4, [.int th, .ref aMT, .int (nI mu), .ref aNw, .ref aNx, .int uu.2.1, .int uu.2.2.1, .int (nI uu.1), .int (nI en), .long uu.2.2.2.1, .int uu.2.2.2.2.1, .int uu.2.2.2.2.2.2])), (aMT, .inl (kMT, 65536, .inl B)), (aNx, .inl (kNx, 52650, .inl uu.2.2.2.2.2.1))] (va_A [(aM, .inr (4, [.int th, .ref aMT, .int (nI mu), .ref aNw, .ref aNx, .int mw, .int mwa, .int (nI ma), .int (nI en), .long mv, .int mf, .int ml])), (aMT, .inl (kMT, 65536, .inl B)), (aNx, .inl (kNx, 52650, .inl nx))] sz) sz t) (va_A [(aM, .inr (4, [.int th, .ref aMT, .int (nI mu), .ref aNw, .ref aNx, .int mw, .int mwa, .int (nI ma), .int (nI en), .long mv, .int mf, .int ml])), (aMT, .inl (kMT, 65536, .inl B)), (aNx, .inl (kNx, 52650, .inl nx))] sz)) 0 0 (va_A [(aM, .inr (4, [.int th, .ref aMT, .int (nI mu), .ref aNw, .ref aNx, .int mw, .int mwa, .int (nI ma), .int (nI en), .long mv, .int mf, .int ml])), (aMT, .inl (kMT, 65536, .inl B)), (aNx, .inl (kNx, 52650, .inl nx))] sz) := by
  refine Met.ofW (cc := prog_6_method_30_code) (maxL := 3) (ret := (some .boolean)) (by decide) rfl ?_
  intro p e s m args below meth c s₁ Bd hml hv
  obtain ⟨rfl, hsz, hP, hK, hD0, hE⟩ := hv
  have hx := Bd.exec
  have hb := Bd.bytes
  have hr := Bd.returns
  have hts := atoms_spec (ws := w_Md_part) Bd.pre
  have hown : s.vm.findClass R_Md = some m.cls := findClass_of_methodNamed Bd.named
  have hlocks := Bd.notSynchronized
  have hz : ∀ w ∈ ZW, w.before _ s = true := fun w h => hts w (List.mem_cons_of_mem _ h)
  subst hsz
  have hD := hD0.self (sz := s.heap.size)
  generalize hAe : va_A [(aM, .inr (4, [.int th, .ref aMT, .int (nI mu), .ref aNw, .ref aNx, .int mw, .int mwa, .int (nI ma), .int (nI en), .long mv, .int mf, .int ml])), (aMT, .inl (kMT, 65536, .inl B)), (aNx, .inl (kNx, 52650, .inl nx))] s.heap.size = A at hD hE ⊢
  have hA : ∀ q : Nat, s.heap.size ≤ q → A q := fun q h => by rw [← hAe]; exact Or.inr h
  have hS : va_S A s.heap s.heap [] := va_S.rf
  have hl := lv_entry ([.ref aM, .int (nI pa)]) (n := 3) (Nat.le_of_ble_eq_true rfl)
  rw [lg_entry_eq]
  generalize (lg_sl ([.ref aM, .int (nI pa)]) ++ List.replicate (3 - (lg_sl ([.ref aM, .int (nI pa)])).length) Slot.unset).toArray = ls at hl ⊢
  have hl : lv_has ls 3 [(0, .ref aM), (1, .int (nI pa))] := hl
  obtain ⟨H, hH⟩ : ∃ z, z = s.heap := ⟨_, rfl⟩
  have hP : va_P (dC, dI) vwCl [(aM, .inr (4, [.int th, .ref aMT, .int (nI mu), .ref aNw, .ref aNx, .int mw, .int mwa, .int (nI ma), .int (nI en), .long mv, .int mf, .int ml])), (aMT, .inl (kMT, 65536, .inl B)), (aNx, .inl (kNx, 52650, .inl nx))] H := by rw [hH]; exact hP
  have hS : va_S A s.heap H [] := by rw [hH]; exact hS
  refine zt_heap hH ?_
  rcases (show pa = 0 ∨ pa = 1 ∨ pa = 2 ∨ pa = 3 ∨ pa = 4 ∨ pa = 5 ∨ pa = 6 by omega) with rfl | rfl | rfl | rfl | rfl | rfl | rfl
  ·
    have hl : lv_has ls 3 [(0, .ref aM), (1, .int 0)] := hl
    refine lv_aload_n hx hb d_Md_part_0 rfl (lv_at hl 0 rfl) ?_
    refine lv_aload_n hx hb d_Md_part_1 rfl (lv_at hl 0 rfl) ?_
    refine lv_iload_n hx hb d_Md_part_2 rfl (lv_at hl 1 rfl) ?_
    have hPc := hP.sub (ws' := [(aM, .inr (4, [.int th, .ref aMT, .int (nI mu), .ref aNw, .ref aNx, .int mw, .int mwa, .int (nI ma), .int (nI en), .long mv, .int mf, .int ml]))]) [0] rfl
    have hDc := hD.sub (ws' := [(aM, .inr (4, [.int th, .ref aMT, .int (nI mu), .ref aNw, .ref aNx, .int mw, .int mwa, .int (nI ma), .int (nI en), .long mv, .int mf, .int ml]))]) [0] (by decide) rfl
    have hKc := hK.sub (tys' := []) [] rfl
    have hFc := va_free (wc := [(aM, .inr (4, [.int th, .ref aMT, .int (nI mu), .ref aNw, .ref aNx, .int mw, .int mwa, .int (nI ma), .int (nI en), .long mv, .int mf, .int ml]))]) hD hS hA [0] rfl
    refine va_calll (va_runV (As := [.int (nI 0)]) (rest := [.ref aM]) ⟨hx, hb, hml, hown, hts⟩ (c_Md_nameOf l G dC dI H.size aM th aMT mu aNw aNx mw mwa ma en mv mf ml 0 (by omega)) (cwV 1 hts (gV tw_553 tw_555 ts_24 tw_5 tw_556 rfl) rfl rfl rfl (by decide +kernel) ⟨Nat.le_of_ble_eq_true rfl, Nat.le_of_ble_eq_true rfl⟩) (PW_preV hPc hKc hDc hE hS hFc (ci := 4) (q0 := 0) rfl rfl) rfl rfl hl.1 rfl (lv_room (Nat.le_of_ble_eq_true rfl)) d_Md_part_3 ⟨Nat.le_of_ble_eq_true rfl, Nat.le_of_ble_eq_true rfl⟩) hS (fun q _ h => hFc q h) hFc (fun r_1 uu t H1 locs ht hvm hw_2 hB hz1 hk1 hS => ?_)
    obtain ⟨hP1, hD1, hsz1⟩ := hB
    rw [ht] at hP1 hsz1
    obtain ⟨hP, hD⟩ := va_join (wr := [(aMT, .inl (kMT, 65536, .inl B)), (aNx, .inl (kNx, 52650, .inl nx))]) (w1 := [(aM, .inr (4, [.int th, .ref aMT, .int (nI mu), .ref aNw, .ref aNx, .int mw, .int mwa, .int (nI ma), .int (nI en), .long mv, .int mf, .int ml]))]) hP hD [0] [1, 2] rfl rfl (by decide) (by decide) hk1 hFc hP1 hD1
    generalize H1 = H at hP hS ⊢
    have hP : va_P (dC, dI) vwCl [(aMT, .inl (kMT, 65536, .inl B)), (aNx, .inl (kNx, 52650, .inl nx)), (aM, .inr (4, [.int th, .ref aMT, .int (nI mu), .ref aNw, .ref aNx, .int mw, .int mwa, .int (nI ma), .int (nI en), .long mv, .int mf, .int ml]))] H := hP
    have hD : va_D A [(aMT, .inl (kMT, 65536, .inl B)), (aNx, .inl (kNx, 52650, .inl nx)), (aM, .inr (4, [.int th, .ref aMT, .int (nI mu), .ref aNw, .ref aNx, .int mw, .int mwa, .int (nI ma), .int (nI en), .long mv, .int mf, .int ml]))] := hD
    subst hw_2
    have hPc := hP.sub (ws' := [(aM, .inr (4, [.int th, .ref aMT, .int (nI mu), .ref aNw, .ref aNx, .int mw, .int mwa, .int (nI ma), .int (nI en), .long mv, .int mf, .int ml])), (aMT, .inl (kMT, 65536, .inl B))]) [2, 0] rfl
    have hDc := hD.sub (ws' := [(aM, .inr (4, [.int th, .ref aMT, .int (nI mu), .ref aNw, .ref aNx, .int mw, .int mwa, .int (nI ma), .int (nI en), .long mv, .int mf, .int ml])), (aMT, .inl (kMT, 65536, .inl B))]) [2, 0] (by decide) rfl
    have hKc := hK.sub (tys' := [(kMT, .byte)]) [0] rfl
    have hFc := va_free (wc := [(aM, .inr (4, [.int th, .ref aMT, .int (nI mu), .ref aNw, .ref aNx, .int mw, .int mwa, .int (nI ma), .int (nI en), .long mv, .int mf, .int ml])), (aMT, .inl (kMT, 65536, .inl B))]) hD hS hA [2, 0] rfl
    refine va_calli (va_runV (As := [.long (zWv (0 + 1))]) (rest := []) ⟨hx, hb, hml, hown, hts⟩ (c_Md_key l G dC dI H.size aM th aMT mu aNw aNx mw mwa ma en mv mf ml kMT B (0 + 1) (by omega) (by omega) (by omega) (by omega) (zSb_len _)) (cwV 1 hts (gV tw_577 tw_579 ts_27 tw_5 tw_580 rfl) rfl rfl rfl (by decide +kernel) ⟨Nat.le_of_ble_eq_true rfl, Nat.le_of_ble_eq_true rfl⟩) (PW_preV hPc hKc hDc hE hS hFc (ci := 4) (q0 := 0) rfl rfl) rfl rfl hl.1 rfl (lv_room (Nat.le_of_ble_eq_true rfl)) d_Md_part_6 ⟨Nat.le_of_ble_eq_true rfl, Nat.le_of_ble_eq_true rfl⟩) hS (fun q _ h => hFc q h) hFc (fun r_3 uu t H1 locs ht hvm hw_7 hB hz1 hk1 hS => ?_)
    obtain ⟨ma_4, mw_5, mwa_6⟩ := uu
    obtain ⟨hP1, hD1, hsz1⟩ := hB
    rw [ht] at hP1 hsz1
    obtain ⟨hP, hD⟩ := va_join (wr := [(aNx, .inl (kNx, 52650, .inl nx))]) (w1 := [(aM, .inr (4, [.int th, .ref aMT, .int (nI mu), .ref aNw, .ref aNx, .int mw_5, .int mwa_6, .int (nI ma_4), .int (nI en), .long mv, .int mf, .int ml])), (aMT, .inl (kMT, 65536, .inl B))]) hP hD [2, 0] [1] rfl rfl (by decide) (by decide) hk1 hFc hP1 hD1
    generalize H1 = H at hP hS ⊢
    have hP : va_P (dC, dI) vwCl [(aNx, .inl (kNx, 52650, .inl nx)), (aM, .inr (4, [.int th, .ref aMT, .int (nI mu), .ref aNw, .ref aNx, .int mw_5, .int mwa_6, .int (nI ma_4), .int (nI en), .long mv, .int mf, .int ml])), (aMT, .inl (kMT, 65536, .inl B))] H := hP
    have hD : va_D A [(aNx, .inl (kNx, 52650, .inl nx)), (aM, .inr (4, [.int th, .ref aMT, .int (nI mu), .ref aNw, .ref aNx, .int mw_5, .int mwa_6, .int (nI ma_4), .int (nI en), .long mv, .int mf, .int ml])), (aMT, .inl (kMT, 65536, .inl B))] := hD
    rcases hw_7 with ⟨rfl, hw_7a, hw_7b, e1, e2⟩ | ⟨rfl, hw_7b, hw_7k, hw_7a, e2⟩
    ·
      have e1 := e1.symm; subst e1
      have e2 := e2.symm; subst e2
      refine lv_if_ne (tgt := 14) hx hb d_Md_part_9 (by decide) (fun c_8 => ?_) (fun c_8 => ?_)
      ·
        refine lv_iload_n hx hb d_Md_part_14 rfl (lv_at hl 1 rfl) ?_
        refine lv_if_ne (tgt := 23) hx hb d_Md_part_15 (by decide) (fun c_9 => ?_) (fun c_9 => ?_)
        ·
          exact absurd (by decide) c_9
        ·
          refine lv_bipush (v := 8) hx hb d_Md_part_18 (by decide) ?_
          refine lv_goto (tgt := 45) hx hb d_Md_part_20 (by decide) ?_
          refine lv_istore_n (lv' := [(2, .int 8), (0, .ref aM), (1, .int 0)]) hx hb d_Md_part_45 rfl hl (by decide) rfl (fun ls hl => ?_)
          refine lv_iload_n hx hb d_Md_part_46 rfl (lv_at hl 2 rfl) ?_
          refine lv_iconst (v := 5) hx hb d_Md_part_47 (by decide) ?_
          refine lv_icmp_ne (tgt := 58) hx hb d_Md_part_48 (by decide) (fun c_10 => ?_) (fun c_10 => ?_)
          ·
            refine lv_iload_n hx hb d_Md_part_58 rfl (lv_at hl 2 rfl) ?_
            refine lv_bipush (v := 6) hx hb d_Md_part_59 (by decide) ?_
            refine lv_icmp_ne (tgt := 71) hx hb d_Md_part_61 (by decide) (fun c_11 => ?_) (fun c_11 => ?_)
            ·
              refine lv_aload_n hx hb d_Md_part_71 rfl (lv_at hl 1 rfl) ?_
              refine lv_iload_n hx hb d_Md_part_72 rfl (lv_at hl 2 rfl) ?_
              refine lv_iload_n hx hb d_Md_part_73 rfl (lv_at hl 0 rfl) ?_
              have hPc := hP.sub (ws' := [(aM, .inr (4, [.int th, .ref aMT, .int (nI mu), .ref aNw, .ref aNx, .int mw, .int mwa, .int (nI ma_4), .int (nI en), .long mv, .int mf, .int ml])), (aMT, .inl (kMT, 65536, .inl B)), (aNx, .inl (kNx, 52650, .inl nx))]) [1, 2, 0] rfl
              have hDc := hD.sub (ws' := [(aM, .inr (4, [.int th, .ref aMT, .int (nI mu), .ref aNw, .ref aNx, .int mw, .int mwa, .int (nI ma_4), .int (nI en), .long mv, .int mf, .int ml])), (aMT, .inl (kMT, 65536, .inl B)), (aNx, .inl (kNx, 52650, .inl nx))]) [1, 2, 0] (by decide) rfl
              have hKc := hK.sub (tys' := [(kMT, .byte), (kNx, .int)]) [0, 1] rfl
              have hFc := va_free (wc := [(aM, .inr (4, [.int th, .ref aMT, .int (nI mu), .ref aNw, .ref aNx, .int mw, .int mwa, .int (nI ma_4), .int (nI en), .long mv, .int mf, .int ml])), (aMT, .inl (kMT, 65536, .inl B)), (aNx, .inl (kNx, 52650, .inl nx))]) hD hS hA [1, 2, 0] rfl
              refine va_calli (va_runV (As := [.int (nI 0), .int (nI 8)]) (rest := []) ⟨hx, hb, hml, hown, hts⟩ (c_Md_things l G dC dI H.size aM th aMT mu aNw aNx mw mwa ma_4 en mv mf ml kMT B kNx nx cnt 0 8 (by omega) (by omega) (by decide) rfl (hz0 _ (Nat.le_refl _) (by decide)) hcn hcm) (cwV 2 hts (gV tw_626 tw_628 ts_36 tw_5 tw_629 rfl) rfl rfl rfl (by decide +kernel) ⟨Nat.le_of_ble_eq_true rfl, Nat.le_of_ble_eq_true rfl⟩) (PW_preV hPc hKc hDc hE hS hFc (ci := 4) (q0 := 0) rfl rfl) rfl rfl hl.1 rfl (lv_room (Nat.le_of_ble_eq_true rfl)) d_Md_part_74 ⟨Nat.le_of_ble_eq_true rfl, Nat.le_of_ble_eq_true rfl⟩) hS (fun q _ h => hFc q h) hFc (fun r_12 uu t H1 locs ht hvm hw_20 hB hz1 hk1 hS => ?_)
              obtain ⟨ma_13, mw_14, mwa_15, mv_16, mf_17, nx_18, ml_19⟩ := uu
              obtain ⟨hP1, hD1, hsz1⟩ := hB
              rw [ht] at hP1 hsz1
              obtain ⟨hP, hD⟩ := va_join (wr := []) (w1 := [(aM, .inr (4, [.int th, .ref aMT, .int (nI mu), .ref aNw, .ref aNx, .int mw_14, .int mwa_15, .int (nI ma_13), .int (nI en), .long mv_16, .int mf_17, .int ml_19])), (aMT, .inl (kMT, 65536, .inl B)), (aNx, .inl (kNx, 52650, .inl nx_18))]) hP hD [1, 2, 0] [] rfl rfl (by decide) (by decide) hk1 hFc hP1 hD1
              generalize H1 = H at hP hS ⊢
              have hP : va_P (dC, dI) vwCl [(aM, .inr (4, [.int th, .ref aMT, .int (nI mu), .ref aNw, .ref aNx, .int mw_14, .int mwa_15, .int (nI ma_13), .int (nI en), .long mv_16, .int mf_17, .int ml_19])), (aMT, .inl (kMT, 65536, .inl B)), (aNx, .inl (kNx, 52650, .inl nx_18))] H := hP
              have hD : va_D A [(aM, .inr (4, [.int th, .ref aMT, .int (nI mu), .ref aNw, .ref aNx, .int mw_14, .int mwa_15, .int (nI ma_13), .int (nI en), .long mv_16, .int mf_17, .int ml_19])), (aMT, .inl (kMT, 65536, .inl B)), (aNx, .inl (kNx, 52650, .inl nx_18))] := hD
              rcases hw_20 with ⟨rfl, hw_20b, e1, e2, hw_20n, hw_20a, hw_20c, hw_20d⟩ | ⟨rfl, hw_20b, hw_20k, hw_20a, e2⟩
              ·
                have e1 := e1.symm; subst e1
                have e2 := e2.symm; subst e2
                refine zt_size (fun hzs => ?_)
                have hP9 := hP.sub (ws' := [(aM, .inr (4, [.int th, .ref aMT, .int (nI mu), .ref aNw, .ref aNx, .int mw, .int mwa, .int (nI ma_13), .int (nI en), .long mv_16, .int mf_17, .int ml_19])), (aMT, .inl (kMT, 65536, .inl B)), (aNx, .inl (kNx, 52650, .inl nx_18))]) [0, 1, 2] rfl
                have hD9 := hD.sub (ws' := [(aM, .inr (4, [.int th, .ref aMT, .int (nI mu), .ref aNw, .ref aNx, .int mw, .int mwa, .int (nI ma_13), .int (nI en), .long mv_16, .int mf_17, .int ml_19])), (aMT, .inl (kMT, 65536, .inl B)), (aNx, .inl (kNx, 52650, .inl nx_18))]) [0, 1, 2] (by decide) rfl
                exact W.zret (v := 1) hx hb hr rfl (fun t ht hW => ⟨⟨1, (ma_13, mw, mwa, mv_16, mf_17, nx_18, ml_19), rfl, Or.inl ⟨rfl, by omega, rfl, rfl, zuN cnt 0 hw_20n, by simp only [zB_ok, zB_er, hw_7a]; unfold mPart; rw [if_neg (by decide), if_neg (by decide)]; simp only [zB_ok, zB_er, hw_20a], hw_20d, zuN_le hw_20c hcm, fun j h1 h2 => by rw [zuN_n (by omega)]; exact hz0 j (by omega) h2⟩, by rw [ht]; exact hP9, hD9, by rw [ht]; exact hzs⟩, hS.F ht⟩) hS.2.2 d_Md_part_77
              ·
                have e2 := e2.symm; subst e2
                refine zt_size (fun hzs => ?_)
                have hP9 := hP.sub (ws' := [(aM, .inr (4, [.int th, .ref aMT, .int (nI mu), .ref aNw, .ref aNx, .int mw_14, .int (nI hw_20k), .int (nI ma_13), .int (nI en), .long mv_16, .int mf_17, .int ml_19])), (aMT, .inl (kMT, 65536, .inl B)), (aNx, .inl (kNx, 52650, .inl nx_18))]) [0, 1, 2] rfl
                have hD9 := hD.sub (ws' := [(aM, .inr (4, [.int th, .ref aMT, .int (nI mu), .ref aNw, .ref aNx, .int mw_14, .int (nI hw_20k), .int (nI ma_13), .int (nI en), .long mv_16, .int mf_17, .int ml_19])), (aMT, .inl (kMT, 65536, .inl B)), (aNx, .inl (kNx, 52650, .inl nx_18))]) [0, 1, 2] (by decide) rfl
                exact W.zret (v := 0) hx hb hr rfl (fun t ht hW => ⟨⟨0, (ma_13, mw_14, nI hw_20k, mv_16, mf_17, nx_18, ml_19), rfl, Or.inr ⟨rfl, by omega, _, by simp only [zB_ok, zB_er, hw_7a]; unfold mPart; rw [if_neg (by decide), if_neg (by decide)]; simp only [zB_ok, zB_er, hw_20a], rfl⟩, by rw [ht]; exact hP9, hD9, by rw [ht]; exact hzs⟩, hS.F ht⟩) hS.2.2 d_Md_part_77
            ·
              exact absurd c_11 (by decide)
          ·
            exact absurd c_10 (by decide)
      ·
        exact absurd c_8 (by decide)
    ·
      have e2 := e2.symm; subst e2
      refine lv_if_ne (tgt := 14) hx hb d_Md_part_9 (by decide) (fun c_21 => ?_) (fun c_21 => ?_)
      ·
        exact absurd (by decide) c_21
      ·
        refine lv_iconst (v := 0) hx hb d_Md_part_12 (by decide) ?_
        refine zt_size (fun hzs => ?_)
        have hP9 := hP.sub (ws' := [(aM, .inr (4, [.int th, .ref aMT, .int (nI mu), .ref aNw, .ref aNx, .int mw_5, .int (nI hw_7k), .int (nI ma_4), .int (nI en), .long mv, .int mf, .int ml])), (aMT, .inl (kMT, 65536, .inl B)), (aNx, .inl (kNx, 52650, .inl nx))]) [1, 2, 0] rfl
        have hD9 := hD.sub (ws' := [(aM, .inr (4, [.int th, .ref aMT, .int (nI mu), .ref aNw, .ref aNx, .int mw_5, .int (nI hw_7k), .int (nI ma_4), .int (nI en), .long mv, .int mf, .int ml])), (aMT, .inl (kMT, 65536, .inl B)), (aNx, .inl (kNx, 52650, .inl nx))]) [1, 2, 0] (by decide) rfl
        exact W.zret (v := 0) hx hb hr rfl (fun t ht hW => ⟨⟨0, (ma_4, mw_5, nI hw_7k, mv, mf, nx, ml), rfl, Or.inr ⟨rfl, by omega, _, by simp only [zB_ok, zB_er, hw_7a], rfl⟩, by rw [ht]; exact hP9, hD9, by rw [ht]; exact hzs⟩, hS.F ht⟩) hS.2.2 d_Md_part_13
  ·
    have hl : lv_has ls 3 [(0, .ref aM), (1, .int 1)] := hl
    refine lv_aload_n hx hb d_Md_part_0 rfl (lv_at hl 0 rfl) ?_
    refine lv_aload_n hx hb d_Md_part_1 rfl (lv_at hl 0 rfl) ?_
    refine lv_iload_n hx hb d_Md_part_2 rfl (lv_at hl 1 rfl) ?_
    have hPc := hP.sub (ws' := [(aM, .inr (4, [.int th, .ref aMT, .int (nI mu), .ref aNw, .ref aNx, .int mw, .int mwa, .int (nI ma), .int (nI en), .long mv, .int mf, .int ml]))]) [0] rfl
    have hDc := hD.sub (ws' := [(aM, .inr (4, [.int th, .ref aMT, .int (nI mu), .ref aNw, .ref aNx, .int mw, .int mwa, .int (nI ma), .int (nI en), .long mv, .int mf, .int ml]))]) [0] (by decide) rfl
    have hKc := hK.sub (tys' := []) [] rfl
    have hFc := va_free (wc := [(aM, .inr (4, [.int th, .ref aMT, .int (nI mu), .ref aNw, .ref aNx, .int mw, .int mwa, .int (nI ma), .int (nI en), .long mv, .int mf, .int ml]))]) hD hS hA [0] rfl
    refine va_calll (va_runV (As := [.int (nI 1)]) (rest := [.ref aM]) ⟨hx, hb, hml, hown, hts⟩ (c_Md_nameOf l G dC dI H.size aM th aMT mu aNw aNx mw mwa ma en mv mf ml 1 (by omega)) (cwV 1 hts (gV tw_553 tw_555 ts_24 tw_5 tw_556 rfl) rfl rfl rfl (by decide +kernel) ⟨Nat.le_of_ble_eq_true rfl, Nat.le_of_ble_eq_true rfl⟩) (PW_preV hPc hKc hDc hE hS hFc (ci := 4) (q0 := 0) rfl rfl) rfl rfl hl.1 rfl (lv_room (Nat.le_of_ble_eq_true rfl)) d_Md_part_3 ⟨Nat.le_of_ble_eq_true rfl, Nat.le_of_ble_eq_true rfl⟩) hS (fun q _ h => hFc q h) hFc (fun r_22 uu t H1 locs ht hvm hw_23 hB hz1 hk1 hS => ?_)
    obtain ⟨hP1, hD1, hsz1⟩ := hB
    rw [ht] at hP1 hsz1
    obtain ⟨hP, hD⟩ := va_join (wr := [(aMT, .inl (kMT, 65536, .inl B)), (aNx, .inl (kNx, 52650, .inl nx))]) (w1 := [(aM, .inr (4, [.int th, .ref aMT, .int (nI mu), .ref aNw, .ref aNx, .int mw, .int mwa, .int (nI ma), .int (nI en), .long mv, .int mf, .int ml]))]) hP hD [0] [1, 2] rfl rfl (by decide) (by decide) hk1 hFc hP1 hD1
    generalize H1 = H at hP hS ⊢
    have hP : va_P (dC, dI) vwCl [(aMT, .inl (kMT, 65536, .inl B)), (aNx, .inl (kNx, 52650, .inl nx)), (aM, .inr (4, [.int th, .ref aMT, .int (nI mu), .ref aNw, .ref aNx, .int mw, .int mwa, .int (nI ma), .int (nI en), .long mv, .int mf, .int ml]))] H := hP
    have hD : va_D A [(aMT, .inl (kMT, 65536, .inl B)), (aNx, .inl (kNx, 52650, .inl nx)), (aM, .inr (4, [.int th, .ref aMT, .int (nI mu), .ref aNw, .ref aNx, .int mw, .int mwa, .int (nI ma), .int (nI en), .long mv, .int mf, .int ml]))] := hD
    subst hw_23
    have hPc := hP.sub (ws' := [(aM, .inr (4, [.int th, .ref aMT, .int (nI mu), .ref aNw, .ref aNx, .int mw, .int mwa, .int (nI ma), .int (nI en), .long mv, .int mf, .int ml])), (aMT, .inl (kMT, 65536, .inl B))]) [2, 0] rfl
    have hDc := hD.sub (ws' := [(aM, .inr (4, [.int th, .ref aMT, .int (nI mu), .ref aNw, .ref aNx, .int mw, .int mwa, .int (nI ma), .int (nI en), .long mv, .int mf, .int ml])), (aMT, .inl (kMT, 65536, .inl B))]) [2, 0] (by decide) rfl
    have hKc := hK.sub (tys' := [(kMT, .byte)]) [0] rfl
    have hFc := va_free (wc := [(aM, .inr (4, [.int th, .ref aMT, .int (nI mu), .ref aNw, .ref aNx, .int mw, .int mwa, .int (nI ma), .int (nI en), .long mv, .int mf, .int ml])), (aMT, .inl (kMT, 65536, .inl B))]) hD hS hA [2, 0] rfl
    refine va_calli (va_runV (As := [.long (zWv (1 + 1))]) (rest := []) ⟨hx, hb, hml, hown, hts⟩ (c_Md_key l G dC dI H.size aM th aMT mu aNw aNx mw mwa ma en mv mf ml kMT B (1 + 1) (by omega) (by omega) (by omega) (by omega) (zSb_len _)) (cwV 1 hts (gV tw_577 tw_579 ts_27 tw_5 tw_580 rfl) rfl rfl rfl (by decide +kernel) ⟨Nat.le_of_ble_eq_true rfl, Nat.le_of_ble_eq_true rfl⟩) (PW_preV hPc hKc hDc hE hS hFc (ci := 4) (q0 := 0) rfl rfl) rfl rfl hl.1 rfl (lv_room (Nat.le_of_ble_eq_true rfl)) d_Md_part_6 ⟨Nat.le_of_ble_eq_true rfl, Nat.le_of_ble_eq_true rfl⟩) hS (fun q _ h => hFc q h) hFc (fun r_24 uu t H1 locs ht hvm hw_28 hB hz1 hk1 hS => ?_)
    obtain ⟨ma_25, mw_26, mwa_27⟩ := uu
    obtain ⟨hP1, hD1, hsz1⟩ := hB
    rw [ht] at hP1 hsz1
    obtain ⟨hP, hD⟩ := va_join (wr := [(aNx, .inl (kNx, 52650, .inl nx))]) (w1 := [(aM, .inr (4, [.int th, .ref aMT, .int (nI mu), .ref aNw, .ref aNx, .int mw_26, .int mwa_27, .int (nI ma_25), .int (nI en), .long mv, .int mf, .int ml])), (aMT, .inl (kMT, 65536, .inl B))]) hP hD [2, 0] [1] rfl rfl (by decide) (by decide) hk1 hFc hP1 hD1
    generalize H1 = H at hP hS ⊢
    have hP : va_P (dC, dI) vwCl [(aNx, .inl (kNx, 52650, .inl nx)), (aM, .inr (4, [.int th, .ref aMT, .int (nI mu), .ref aNw, .ref aNx, .int mw_26, .int mwa_27, .int (nI ma_25), .int (nI en), .long mv, .int mf, .int ml])), (aMT, .inl (kMT, 65536, .inl B))] H := hP
    have hD : va_D A [(aNx, .inl (kNx, 52650, .inl nx)), (aM, .inr (4, [.int th, .ref aMT, .int (nI mu), .ref aNw, .ref aNx, .int mw_26, .int mwa_27, .int (nI ma_25), .int (nI en), .long mv, .int mf, .int ml])), (aMT, .inl (kMT, 65536, .inl B))] := hD
    rcases hw_28 with ⟨rfl, hw_28a, hw_28b, e1, e2⟩ | ⟨rfl, hw_28b, hw_28k, hw_28a, e2⟩
    ·
      have e1 := e1.symm; subst e1
      have e2 := e2.symm; subst e2
      refine lv_if_ne (tgt := 14) hx hb d_Md_part_9 (by decide) (fun c_29 => ?_) (fun c_29 => ?_)
      ·
        refine lv_iload_n hx hb d_Md_part_14 rfl (lv_at hl 1 rfl) ?_
        refine lv_if_ne (tgt := 23) hx hb d_Md_part_15 (by decide) (fun c_30 => ?_) (fun c_30 => ?_)
        ·
          refine lv_iload_n hx hb d_Md_part_23 rfl (lv_at hl 1 rfl) ?_
          refine lv_iconst (v := 3) hx hb d_Md_part_24 (by decide) ?_
          refine lv_icmp_ne (tgt := 33) hx hb d_Md_part_25 (by decide) (fun c_31 => ?_) (fun c_31 => ?_)
          ·
            refine lv_iload_n hx hb d_Md_part_33 rfl (lv_at hl 1 rfl) ?_
            refine lv_iconst (v := 4) hx hb d_Md_part_34 (by decide) ?_
            refine lv_icmp_ne (tgt := 43) hx hb d_Md_part_35 (by decide) (fun c_32 => ?_) (fun c_32 => ?_)
            ·
              refine lv_bipush (v := 16) hx hb d_Md_part_43 (by decide) ?_
              refine lv_istore_n (lv' := [(2, .int 16), (0, .ref aM), (1, .int 1)]) hx hb d_Md_part_45 rfl hl (by decide) rfl (fun ls hl => ?_)
              refine lv_iload_n hx hb d_Md_part_46 rfl (lv_at hl 2 rfl) ?_
              refine lv_iconst (v := 5) hx hb d_Md_part_47 (by decide) ?_
              refine lv_icmp_ne (tgt := 58) hx hb d_Md_part_48 (by decide) (fun c_33 => ?_) (fun c_33 => ?_)
              ·
                refine lv_iload_n hx hb d_Md_part_58 rfl (lv_at hl 2 rfl) ?_
                refine lv_bipush (v := 6) hx hb d_Md_part_59 (by decide) ?_
                refine lv_icmp_ne (tgt := 71) hx hb d_Md_part_61 (by decide) (fun c_34 => ?_) (fun c_34 => ?_)
                ·
                  refine lv_aload_n hx hb d_Md_part_71 rfl (lv_at hl 1 rfl) ?_
                  refine lv_iload_n hx hb d_Md_part_72 rfl (lv_at hl 2 rfl) ?_
                  refine lv_iload_n hx hb d_Md_part_73 rfl (lv_at hl 0 rfl) ?_
                  have hPc := hP.sub (ws' := [(aM, .inr (4, [.int th, .ref aMT, .int (nI mu), .ref aNw, .ref aNx, .int mw, .int mwa, .int (nI ma_25), .int (nI en), .long mv, .int mf, .int ml])), (aMT, .inl (kMT, 65536, .inl B)), (aNx, .inl (kNx, 52650, .inl nx))]) [1, 2, 0] rfl
                  have hDc := hD.sub (ws' := [(aM, .inr (4, [.int th, .ref aMT, .int (nI mu), .ref aNw, .ref aNx, .int mw, .int mwa, .int (nI ma_25), .int (nI en), .long mv, .int mf, .int ml])), (aMT, .inl (kMT, 65536, .inl B)), (aNx, .inl (kNx, 52650, .inl nx))]) [1, 2, 0] (by decide) rfl
                  have hKc := hK.sub (tys' := [(kMT, .byte), (kNx, .int)]) [0, 1] rfl
                  have hFc := va_free (wc := [(aM, .inr (4, [.int th, .ref aMT, .int (nI mu), .ref aNw, .ref aNx, .int mw, .int mwa, .int (nI ma_25), .int (nI en), .long mv, .int mf, .int ml])), (aMT, .inl (kMT, 65536, .inl B)), (aNx, .inl (kNx, 52650, .inl nx))]) hD hS hA [1, 2, 0] rfl
                  refine va_calli (va_runV (As := [.int (nI 1), .int (nI 16)]) (rest := []) ⟨hx, hb, hml, hown, hts⟩ (c_Md_things l G dC dI H.size aM th aMT mu aNw aNx mw mwa ma_25 en mv mf ml kMT B kNx nx cnt 1 16 (by omega) (by omega) (by decide) rfl (hz0 _ (Nat.le_refl _) (by decide)) hcn hcm) (cwV 2 hts (gV tw_626 tw_628 ts_36 tw_5 tw_629 rfl) rfl rfl rfl (by decide +kernel) ⟨Nat.le_of_ble_eq_true rfl, Nat.le_of_ble_eq_true rfl⟩) (PW_preV hPc hKc hDc hE hS hFc (ci := 4) (q0 := 0) rfl rfl) rfl rfl hl.1 rfl (lv_room (Nat.le_of_ble_eq_true rfl)) d_Md_part_74 ⟨Nat.le_of_ble_eq_true rfl, Nat.le_of_ble_eq_true rfl⟩) hS (fun q _ h => hFc q h) hFc (fun r_35 uu t H1 locs ht hvm hw_43 hB hz1 hk1 hS => ?_)
                  obtain ⟨ma_36, mw_37, mwa_38, mv_39, mf_40, nx_41, ml_42⟩ := uu
                  obtain ⟨hP1, hD1, hsz1⟩ := hB
                  rw [ht] at hP1 hsz1
                  obtain ⟨hP, hD⟩ := va_join (wr := []) (w1 := [(aM, .inr (4, [.int th, .ref aMT, .int (nI mu), .ref aNw, .ref aNx, .int mw_37, .int mwa_38, .int (nI ma_36), .int (nI en), .long mv_39, .int mf_40, .int ml_42])), (aMT, .inl (kMT, 65536, .inl B)), (aNx, .inl (kNx, 52650, .inl nx_41))]) hP hD [1, 2, 0] [] rfl rfl (by decide) (by decide) hk1 hFc hP1 hD1
                  generalize H1 = H at hP hS ⊢
                  have hP : va_P (dC, dI) vwCl [(aM, .inr (4, [.int th, .ref aMT, .int (nI mu), .ref aNw, .ref aNx, .int mw_37, .int mwa_38, .int (nI ma_36), .int (nI en), .long mv_39, .int mf_40, .int ml_42])), (aMT, .inl (kMT, 65536, .inl B)), (aNx, .inl (kNx, 52650, .inl nx_41))] H := hP
                  have hD : va_D A [(aM, .inr (4, [.int th, .ref aMT, .int (nI mu), .ref aNw, .ref aNx, .int mw_37, .int mwa_38, .int (nI ma_36), .int (nI en), .long mv_39, .int mf_40, .int ml_42])), (aMT, .inl (kMT, 65536, .inl B)), (aNx, .inl (kNx, 52650, .inl nx_41))] := hD
                  rcases hw_43 with ⟨rfl, hw_43b, e1, e2, hw_43n, hw_43a, hw_43c, hw_43d⟩ | ⟨rfl, hw_43b, hw_43k, hw_43a, e2⟩
                  ·
                    have e1 := e1.symm; subst e1
                    have e2 := e2.symm; subst e2
                    refine zt_size (fun hzs => ?_)
                    have hP9 := hP.sub (ws' := [(aM, .inr (4, [.int th, .ref aMT, .int (nI mu), .ref aNw, .ref aNx, .int mw, .int mwa, .int (nI ma_36), .int (nI en), .long mv_39, .int mf_40, .int ml_42])), (aMT, .inl (kMT, 65536, .inl B)), (aNx, .inl (kNx, 52650, .inl nx_41))]) [0, 1, 2] rfl
                    have hD9 := hD.sub (ws' := [(aM, .inr (4, [.int th, .ref aMT, .int (nI mu), .ref aNw, .ref aNx, .int mw, .int mwa, .int (nI ma_36), .int (nI en), .long mv_39, .int mf_40, .int ml_42])), (aMT, .inl (kMT, 65536, .inl B)), (aNx, .inl (kNx, 52650, .inl nx_41))]) [0, 1, 2] (by decide) rfl
                    exact W.zret (v := 1) hx hb hr rfl (fun t ht hW => ⟨⟨1, (ma_36, mw, mwa, mv_39, mf_40, nx_41, ml_42), rfl, Or.inl ⟨rfl, by omega, rfl, rfl, zuN cnt 1 hw_43n, by simp only [zB_ok, zB_er, hw_28a]; unfold mPart; rw [if_neg (by decide), if_neg (by decide)]; simp only [zB_ok, zB_er, hw_43a], hw_43d, zuN_le hw_43c hcm, fun j h1 h2 => by rw [zuN_n (by omega)]; exact hz0 j (by omega) h2⟩, by rw [ht]; exact hP9, hD9, by rw [ht]; exact hzs⟩, hS.F ht⟩) hS.2.2 d_Md_part_77
                  ·
                    have e2 := e2.symm; subst e2
                    refine zt_size (fun hzs => ?_)
                    have hP9 := hP.sub (ws' := [(aM, .inr (4, [.int th, .ref aMT, .int (nI mu), .ref aNw, .ref aNx, .int mw_37, .int (nI hw_43k), .int (nI ma_36), .int (nI en), .long mv_39, .int mf_40, .int ml_42])), (aMT, .inl (kMT, 65536, .inl B)), (aNx, .inl (kNx, 52650, .inl nx_41))]) [0, 1, 2] rfl
                    have hD9 := hD.sub (ws' := [(aM, .inr (4, [.int th, .ref aMT, .int (nI mu), .ref aNw, .ref aNx, .int mw_37, .int (nI hw_43k), .int (nI ma_36), .int (nI en), .long mv_39, .int mf_40, .int ml_42])), (aMT, .inl (kMT, 65536, .inl B)), (aNx, .inl (kNx, 52650, .inl nx_41))]) [0, 1, 2] (by decide) rfl
                    exact W.zret (v := 0) hx hb hr rfl (fun t ht hW => ⟨⟨0, (ma_36, mw_37, nI hw_43k, mv_39, mf_40, nx_41, ml_42), rfl, Or.inr ⟨rfl, by omega, _, by simp only [zB_ok, zB_er, hw_28a]; unfold mPart; rw [if_neg (by decide), if_neg (by decide)]; simp only [zB_ok, zB_er, hw_43a], rfl⟩, by rw [ht]; exact hP9, hD9, by rw [ht]; exact hzs⟩, hS.F ht⟩) hS.2.2 d_Md_part_77
                ·
                  exact absurd c_34 (by decide)
              ·
                exact absurd c_33 (by decide)
            ·
              exact absurd c_32 (by decide)
          ·
            exact absurd c_31 (by decide)
        ·
          exact absurd c_30 (by decide)
      ·
        exact absurd c_29 (by decide)
    ·
      have e2 := e2.symm; subst e2
      refine lv_if_ne (tgt := 14) hx hb d_Md_part_9 (by decide) (fun c_44 => ?_) (fun c_44 => ?_)
      ·
        exact absurd (by decide) c_44
      ·
        refine lv_iconst (v := 0) hx hb d_Md_part_12 (by decide) ?_
        refine zt_size (fun hzs => ?_)
        have hP9 := hP.sub (ws' := [(aM, .inr (4, [.int th, .ref aMT, .int (nI mu), .ref aNw, .ref aNx, .int mw_26, .int (nI hw_28k), .int (nI ma_25), .int (nI en), .long mv, .int mf, .int ml])), (aMT, .inl (kMT, 65536, .inl B)), (aNx, .inl (kNx, 52650, .inl nx))]) [1, 2, 0] rfl
        have hD9 := hD.sub (ws' := [(aM, .inr (4, [.int th, .ref aMT, .int (nI mu), .ref aNw, .ref aNx, .int mw_26, .int (nI hw_28k), .int (nI ma_25), .int (nI en), .long mv, .int mf, .int ml])), (aMT, .inl (kMT, 65536, .inl B)), (aNx, .inl (kNx, 52650, .inl nx))]) [1, 2, 0] (by decide) rfl
        exact W.zret (v := 0) hx hb hr rfl (fun t ht hW => ⟨⟨0, (ma_25, mw_26, nI hw_28k, mv, mf, nx, ml), rfl, Or.inr ⟨rfl, by omega, _, by simp only [zB_ok, zB_er, hw_28a], rfl⟩, by rw [ht]; exact hP9, hD9, by rw [ht]; exact hzs⟩, hS.F ht⟩) hS.2.2 d_Md_part_13
  ·
    have hl : lv_has ls 3 [(0, .ref aM), (1, .int 2)] := hl
    refine lv_aload_n hx hb d_Md_part_0 rfl (lv_at hl 0 rfl) ?_
    refine lv_aload_n hx hb d_Md_part_1 rfl (lv_at hl 0 rfl) ?_
    refine lv_iload_n hx hb d_Md_part_2 rfl (lv_at hl 1 rfl) ?_
    have hPc := hP.sub (ws' := [(aM, .inr (4, [.int th, .ref aMT, .int (nI mu), .ref aNw, .ref aNx, .int mw, .int mwa, .int (nI ma), .int (nI en), .long mv, .int mf, .int ml]))]) [0] rfl
    have hDc := hD.sub (ws' := [(aM, .inr (4, [.int th, .ref aMT, .int (nI mu), .ref aNw, .ref aNx, .int mw, .int mwa, .int (nI ma), .int (nI en), .long mv, .int mf, .int ml]))]) [0] (by decide) rfl
    have hKc := hK.sub (tys' := []) [] rfl
    have hFc := va_free (wc := [(aM, .inr (4, [.int th, .ref aMT, .int (nI mu), .ref aNw, .ref aNx, .int mw, .int mwa, .int (nI ma), .int (nI en), .long mv, .int mf, .int ml]))]) hD hS hA [0] rfl
    refine va_calll (va_runV (As := [.int (nI 2)]) (rest := [.ref aM]) ⟨hx, hb, hml, hown, hts⟩ (c_Md_nameOf l G dC dI H.size aM th aMT mu aNw aNx mw mwa ma en mv mf ml 2 (by omega)) (cwV 1 hts (gV tw_553 tw_555 ts_24 tw_5 tw_556 rfl) rfl rfl rfl (by decide +kernel) ⟨Nat.le_of_ble_eq_true rfl, Nat.le_of_ble_eq_true rfl⟩) (PW_preV hPc hKc hDc hE hS hFc (ci := 4) (q0 := 0) rfl rfl) rfl rfl hl.1 rfl (lv_room (Nat.le_of_ble_eq_true rfl)) d_Md_part_3 ⟨Nat.le_of_ble_eq_true rfl, Nat.le_of_ble_eq_true rfl⟩) hS (fun q _ h => hFc q h) hFc (fun r_45 uu t H1 locs ht hvm hw_46 hB hz1 hk1 hS => ?_)
    obtain ⟨hP1, hD1, hsz1⟩ := hB
    rw [ht] at hP1 hsz1
    obtain ⟨hP, hD⟩ := va_join (wr := [(aMT, .inl (kMT, 65536, .inl B)), (aNx, .inl (kNx, 52650, .inl nx))]) (w1 := [(aM, .inr (4, [.int th, .ref aMT, .int (nI mu), .ref aNw, .ref aNx, .int mw, .int mwa, .int (nI ma), .int (nI en), .long mv, .int mf, .int ml]))]) hP hD [0] [1, 2] rfl rfl (by decide) (by decide) hk1 hFc hP1 hD1
    generalize H1 = H at hP hS ⊢
    have hP : va_P (dC, dI) vwCl [(aMT, .inl (kMT, 65536, .inl B)), (aNx, .inl (kNx, 52650, .inl nx)), (aM, .inr (4, [.int th, .ref aMT, .int (nI mu), .ref aNw, .ref aNx, .int mw, .int mwa, .int (nI ma), .int (nI en), .long mv, .int mf, .int ml]))] H := hP
    have hD : va_D A [(aMT, .inl (kMT, 65536, .inl B)), (aNx, .inl (kNx, 52650, .inl nx)), (aM, .inr (4, [.int th, .ref aMT, .int (nI mu), .ref aNw, .ref aNx, .int mw, .int mwa, .int (nI ma), .int (nI en), .long mv, .int mf, .int ml]))] := hD
    subst hw_46
    have hPc := hP.sub (ws' := [(aM, .inr (4, [.int th, .ref aMT, .int (nI mu), .ref aNw, .ref aNx, .int mw, .int mwa, .int (nI ma), .int (nI en), .long mv, .int mf, .int ml])), (aMT, .inl (kMT, 65536, .inl B))]) [2, 0] rfl
    have hDc := hD.sub (ws' := [(aM, .inr (4, [.int th, .ref aMT, .int (nI mu), .ref aNw, .ref aNx, .int mw, .int mwa, .int (nI ma), .int (nI en), .long mv, .int mf, .int ml])), (aMT, .inl (kMT, 65536, .inl B))]) [2, 0] (by decide) rfl
    have hKc := hK.sub (tys' := [(kMT, .byte)]) [0] rfl
    have hFc := va_free (wc := [(aM, .inr (4, [.int th, .ref aMT, .int (nI mu), .ref aNw, .ref aNx, .int mw, .int mwa, .int (nI ma), .int (nI en), .long mv, .int mf, .int ml])), (aMT, .inl (kMT, 65536, .inl B))]) hD hS hA [2, 0] rfl
    refine va_calli (va_runV (As := [.long (zWv (2 + 1))]) (rest := []) ⟨hx, hb, hml, hown, hts⟩ (c_Md_key l G dC dI H.size aM th aMT mu aNw aNx mw mwa ma en mv mf ml kMT B (2 + 1) (by omega) (by omega) (by omega) (by omega) (zSb_len _)) (cwV 1 hts (gV tw_577 tw_579 ts_27 tw_5 tw_580 rfl) rfl rfl rfl (by decide +kernel) ⟨Nat.le_of_ble_eq_true rfl, Nat.le_of_ble_eq_true rfl⟩) (PW_preV hPc hKc hDc hE hS hFc (ci := 4) (q0 := 0) rfl rfl) rfl rfl hl.1 rfl (lv_room (Nat.le_of_ble_eq_true rfl)) d_Md_part_6 ⟨Nat.le_of_ble_eq_true rfl, Nat.le_of_ble_eq_true rfl⟩) hS (fun q _ h => hFc q h) hFc (fun r_47 uu t H1 locs ht hvm hw_51 hB hz1 hk1 hS => ?_)
    obtain ⟨ma_48, mw_49, mwa_50⟩ := uu
    obtain ⟨hP1, hD1, hsz1⟩ := hB
    rw [ht] at hP1 hsz1
    obtain ⟨hP, hD⟩ := va_join (wr := [(aNx, .inl (kNx, 52650, .inl nx))]) (w1 := [(aM, .inr (4, [.int th, .ref aMT, .int (nI mu), .ref aNw, .ref aNx, .int mw_49, .int mwa_50, .int (nI ma_48), .int (nI en), .long mv, .int mf, .int ml])), (aMT, .inl (kMT, 65536, .inl B))]) hP hD [2, 0] [1] rfl rfl (by decide) (by decide) hk1 hFc hP1 hD1
    generalize H1 = H at hP hS ⊢
    have hP : va_P (dC, dI) vwCl [(aNx, .inl (kNx, 52650, .inl nx)), (aM, .inr (4, [.int th, .ref aMT, .int (nI mu), .ref aNw, .ref aNx, .int mw_49, .int mwa_50, .int (nI ma_48), .int (nI en), .long mv, .int mf, .int ml])), (aMT, .inl (kMT, 65536, .inl B))] H := hP
    have hD : va_D A [(aNx, .inl (kNx, 52650, .inl nx)), (aM, .inr (4, [.int th, .ref aMT, .int (nI mu), .ref aNw, .ref aNx, .int mw_49, .int mwa_50, .int (nI ma_48), .int (nI en), .long mv, .int mf, .int ml])), (aMT, .inl (kMT, 65536, .inl B))] := hD
    rcases hw_51 with ⟨rfl, hw_51a, hw_51b, e1, e2⟩ | ⟨rfl, hw_51b, hw_51k, hw_51a, e2⟩
    ·
      have e1 := e1.symm; subst e1
      have e2 := e2.symm; subst e2
      refine lv_if_ne (tgt := 14) hx hb d_Md_part_9 (by decide) (fun c_52 => ?_) (fun c_52 => ?_)
      ·
        refine lv_iload_n hx hb d_Md_part_14 rfl (lv_at hl 1 rfl) ?_
        refine lv_if_ne (tgt := 23) hx hb d_Md_part_15 (by decide) (fun c_53 => ?_) (fun c_53 => ?_)
        ·
          refine lv_iload_n hx hb d_Md_part_23 rfl (lv_at hl 1 rfl) ?_
          refine lv_iconst (v := 3) hx hb d_Md_part_24 (by decide) ?_
          refine lv_icmp_ne (tgt := 33) hx hb d_Md_part_25 (by decide) (fun c_54 => ?_) (fun c_54 => ?_)
          ·
            refine lv_iload_n hx hb d_Md_part_33 rfl (lv_at hl 1 rfl) ?_
            refine lv_iconst (v := 4) hx hb d_Md_part_34 (by decide) ?_
            refine lv_icmp_ne (tgt := 43) hx hb d_Md_part_35 (by decide) (fun c_55 => ?_) (fun c_55 => ?_)
            ·
              refine lv_bipush (v := 16) hx hb d_Md_part_43 (by decide) ?_
              refine lv_istore_n (lv' := [(2, .int 16), (0, .ref aM), (1, .int 2)]) hx hb d_Md_part_45 rfl hl (by decide) rfl (fun ls hl => ?_)
              refine lv_iload_n hx hb d_Md_part_46 rfl (lv_at hl 2 rfl) ?_
              refine lv_iconst (v := 5) hx hb d_Md_part_47 (by decide) ?_
              refine lv_icmp_ne (tgt := 58) hx hb d_Md_part_48 (by decide) (fun c_56 => ?_) (fun c_56 => ?_)
              ·
                refine lv_iload_n hx hb d_Md_part_58 rfl (lv_at hl 2 rfl) ?_
                refine lv_bipush (v := 6) hx hb d_Md_part_59 (by decide) ?_
                refine lv_icmp_ne (tgt := 71) hx hb d_Md_part_61 (by decide) (fun c_57 => ?_) (fun c_57 => ?_)
                ·
                  refine lv_aload_n hx hb d_Md_part_71 rfl (lv_at hl 1 rfl) ?_
                  refine lv_iload_n hx hb d_Md_part_72 rfl (lv_at hl 2 rfl) ?_
                  refine lv_iload_n hx hb d_Md_part_73 rfl (lv_at hl 0 rfl) ?_
                  have hPc := hP.sub (ws' := [(aM, .inr (4, [.int th, .ref aMT, .int (nI mu), .ref aNw, .ref aNx, .int mw, .int mwa, .int (nI ma_48), .int (nI en), .long mv, .int mf, .int ml])), (aMT, .inl (kMT, 65536, .inl B)), (aNx, .inl (kNx, 52650, .inl nx))]) [1, 2, 0] rfl
                  have hDc := hD.sub (ws' := [(aM, .inr (4, [.int th, .ref aMT, .int (nI mu), .ref aNw, .ref aNx, .int mw, .int mwa, .int (nI ma_48), .int (nI en), .long mv, .int mf, .int ml])), (aMT, .inl (kMT, 65536, .inl B)), (aNx, .inl (kNx, 52650, .inl nx))]) [1, 2, 0] (by decide) rfl
                  have hKc := hK.sub (tys' := [(kMT, .byte), (kNx, .int)]) [0, 1] rfl
                  have hFc := va_free (wc := [(aM, .inr (4, [.int th, .ref aMT, .int (nI mu), .ref aNw, .ref aNx, .int mw, .int mwa, .int (nI ma_48), .int (nI en), .long mv, .int mf, .int ml])), (aMT, .inl (kMT, 65536, .inl B)), (aNx, .inl (kNx, 52650, .inl nx))]) hD hS hA [1, 2, 0] rfl
                  refine va_calli (va_runV (As := [.int (nI 2), .int (nI 16)]) (rest := []) ⟨hx, hb, hml, hown, hts⟩ (c_Md_things l G dC dI H.size aM th aMT mu aNw aNx mw mwa ma_48 en mv mf ml kMT B kNx nx cnt 2 16 (by omega) (by omega) (by decide) rfl (hz0 _ (Nat.le_refl _) (by decide)) hcn hcm) (cwV 2 hts (gV tw_626 tw_628 ts_36 tw_5 tw_629 rfl) rfl rfl rfl (by decide +kernel) ⟨Nat.le_of_ble_eq_true rfl, Nat.le_of_ble_eq_true rfl⟩) (PW_preV hPc hKc hDc hE hS hFc (ci := 4) (q0 := 0) rfl rfl) rfl rfl hl.1 rfl (lv_room (Nat.le_of_ble_eq_true rfl)) d_Md_part_74 ⟨Nat.le_of_ble_eq_true rfl, Nat.le_of_ble_eq_true rfl⟩) hS (fun q _ h => hFc q h) hFc (fun r_58 uu t H1 locs ht hvm hw_66 hB hz1 hk1 hS => ?_)
                  obtain ⟨ma_59, mw_60, mwa_61, mv_62, mf_63, nx_64, ml_65⟩ := uu
                  obtain ⟨hP1, hD1, hsz1⟩ := hB
                  rw [ht] at hP1 hsz1
                  obtain ⟨hP, hD⟩ := va_join (wr := []) (w1 := [(aM, .inr (4, [.int th, .ref aMT, .int (nI mu), .ref aNw, .ref aNx, .int mw_60, .int mwa_61, .int (nI ma_59), .int (nI en), .long mv_62, .int mf_63, .int ml_65])), (aMT, .inl (kMT, 65536, .inl B)), (aNx, .inl (kNx, 52650, .inl nx_64))]) hP hD [1, 2, 0] [] rfl rfl (by decide) (by decide) hk1 hFc hP1 hD1
                  generalize H1 = H at hP hS ⊢
                  have hP : va_P (dC, dI) vwCl [(aM, .inr (4, [.int th, .ref aMT, .int (nI mu), .ref aNw, .ref aNx, .int mw_60, .int mwa_61, .int (nI ma_59), .int (nI en), .long mv_62, .int mf_63, .int ml_65])), (aMT, .inl (kMT, 65536, .inl B)), (aNx, .inl (kNx, 52650, .inl nx_64))] H := hP
                  have hD : va_D A [(aM, .inr (4, [.int th, .ref aMT, .int (nI mu), .ref aNw, .ref aNx, .int mw_60, .int mwa_61, .int (nI ma_59), .int (nI en), .long mv_62, .int mf_63, .int ml_65])), (aMT, .inl (kMT, 65536, .inl B)), (aNx, .inl (kNx, 52650, .inl nx_64))] := hD
                  rcases hw_66 with ⟨rfl, hw_66b, e1, e2, hw_66n, hw_66a, hw_66c, hw_66d⟩ | ⟨rfl, hw_66b, hw_66k, hw_66a, e2⟩
                  ·
                    have e1 := e1.symm; subst e1
                    have e2 := e2.symm; subst e2
                    refine zt_size (fun hzs => ?_)
                    have hP9 := hP.sub (ws' := [(aM, .inr (4, [.int th, .ref aMT, .int (nI mu), .ref aNw, .ref aNx, .int mw, .int mwa, .int (nI ma_59), .int (nI en), .long mv_62, .int mf_63, .int ml_65])), (aMT, .inl (kMT, 65536, .inl B)), (aNx, .inl (kNx, 52650, .inl nx_64))]) [0, 1, 2] rfl
                    have hD9 := hD.sub (ws' := [(aM, .inr (4, [.int th, .ref aMT, .int (nI mu), .ref aNw, .ref aNx, .int mw, .int mwa, .int (nI ma_59), .int (nI en), .long mv_62, .int mf_63, .int ml_65])), (aMT, .inl (kMT, 65536, .inl B)), (aNx, .inl (kNx, 52650, .inl nx_64))]) [0, 1, 2] (by decide) rfl
                    exact W.zret (v := 1) hx hb hr rfl (fun t ht hW => ⟨⟨1, (ma_59, mw, mwa, mv_62, mf_63, nx_64, ml_65), rfl, Or.inl ⟨rfl, by omega, rfl, rfl, zuN cnt 2 hw_66n, by simp only [zB_ok, zB_er, hw_51a]; unfold mPart; rw [if_neg (by decide), if_neg (by decide)]; simp only [zB_ok, zB_er, hw_66a], hw_66d, zuN_le hw_66c hcm, fun j h1 h2 => by rw [zuN_n (by omega)]; exact hz0 j (by omega) h2⟩, by rw [ht]; exact hP9, hD9, by rw [ht]; exact hzs⟩, hS.F ht⟩) hS.2.2 d_Md_part_77
                  ·
                    have e2 := e2.symm; subst e2
                    refine zt_size (fun hzs => ?_)
                    have hP9 := hP.sub (ws' := [(aM, .inr (4, [.int th, .ref aMT, .int (nI mu), .ref aNw, .ref aNx, .int mw_60, .int (nI hw_66k), .int (nI ma_59), .int (nI en), .long mv_62, .int mf_63, .int ml_65])), (aMT, .inl (kMT, 65536, .inl B)), (aNx, .inl (kNx, 52650, .inl nx_64))]) [0, 1, 2] rfl
                    have hD9 := hD.sub (ws' := [(aM, .inr (4, [.int th, .ref aMT, .int (nI mu), .ref aNw, .ref aNx, .int mw_60, .int (nI hw_66k), .int (nI ma_59), .int (nI en), .long mv_62, .int mf_63, .int ml_65])), (aMT, .inl (kMT, 65536, .inl B)), (aNx, .inl (kNx, 52650, .inl nx_64))]) [0, 1, 2] (by decide) rfl
                    exact W.zret (v := 0) hx hb hr rfl (fun t ht hW => ⟨⟨0, (ma_59, mw_60, nI hw_66k, mv_62, mf_63, nx_64, ml_65), rfl, Or.inr ⟨rfl, by omega, _, by simp only [zB_ok, zB_er, hw_51a]; unfold mPart; rw [if_neg (by decide), if_neg (by decide)]; simp only [zB_ok, zB_er, hw_66a], rfl⟩, by rw [ht]; exact hP9, hD9, by rw [ht]; exact hzs⟩, hS.F ht⟩) hS.2.2 d_Md_part_77
                ·
                  exact absurd c_57 (by decide)
              ·
                exact absurd c_56 (by decide)
            ·
              exact absurd c_55 (by decide)
          ·
            exact absurd c_54 (by decide)
        ·
          exact absurd c_53 (by decide)
      ·
        exact absurd c_52 (by decide)
    ·
      have e2 := e2.symm; subst e2
      refine lv_if_ne (tgt := 14) hx hb d_Md_part_9 (by decide) (fun c_67 => ?_) (fun c_67 => ?_)
      ·
        exact absurd (by decide) c_67
      ·
        refine lv_iconst (v := 0) hx hb d_Md_part_12 (by decide) ?_
        refine zt_size (fun hzs => ?_)
        have hP9 := hP.sub (ws' := [(aM, .inr (4, [.int th, .ref aMT, .int (nI mu), .ref aNw, .ref aNx, .int mw_49, .int (nI hw_51k), .int (nI ma_48), .int (nI en), .long mv, .int mf, .int ml])), (aMT, .inl (kMT, 65536, .inl B)), (aNx, .inl (kNx, 52650, .inl nx))]) [1, 2, 0] rfl
        have hD9 := hD.sub (ws' := [(aM, .inr (4, [.int th, .ref aMT, .int (nI mu), .ref aNw, .ref aNx, .int mw_49, .int (nI hw_51k), .int (nI ma_48), .int (nI en), .long mv, .int mf, .int ml])), (aMT, .inl (kMT, 65536, .inl B)), (aNx, .inl (kNx, 52650, .inl nx))]) [1, 2, 0] (by decide) rfl
        exact W.zret (v := 0) hx hb hr rfl (fun t ht hW => ⟨⟨0, (ma_48, mw_49, nI hw_51k, mv, mf, nx, ml), rfl, Or.inr ⟨rfl, by omega, _, by simp only [zB_ok, zB_er, hw_51a], rfl⟩, by rw [ht]; exact hP9, hD9, by rw [ht]; exact hzs⟩, hS.F ht⟩) hS.2.2 d_Md_part_13
  ·
    have hl : lv_has ls 3 [(0, .ref aM), (1, .int 3)] := hl
    refine lv_aload_n hx hb d_Md_part_0 rfl (lv_at hl 0 rfl) ?_
    refine lv_aload_n hx hb d_Md_part_1 rfl (lv_at hl 0 rfl) ?_
    refine lv_iload_n hx hb d_Md_part_2 rfl (lv_at hl 1 rfl) ?_
    have hPc := hP.sub (ws' := [(aM, .inr (4, [.int th, .ref aMT, .int (nI mu), .ref aNw, .ref aNx, .int mw, .int mwa, .int (nI ma), .int (nI en), .long mv, .int mf, .int ml]))]) [0] rfl
    have hDc := hD.sub (ws' := [(aM, .inr (4, [.int th, .ref aMT, .int (nI mu), .ref aNw, .ref aNx, .int mw, .int mwa, .int (nI ma), .int (nI en), .long mv, .int mf, .int ml]))]) [0] (by decide) rfl
    have hKc := hK.sub (tys' := []) [] rfl
    have hFc := va_free (wc := [(aM, .inr (4, [.int th, .ref aMT, .int (nI mu), .ref aNw, .ref aNx, .int mw, .int mwa, .int (nI ma), .int (nI en), .long mv, .int mf, .int ml]))]) hD hS hA [0] rfl
    refine va_calll (va_runV (As := [.int (nI 3)]) (rest := [.ref aM]) ⟨hx, hb, hml, hown, hts⟩ (c_Md_nameOf l G dC dI H.size aM th aMT mu aNw aNx mw mwa ma en mv mf ml 3 (by omega)) (cwV 1 hts (gV tw_553 tw_555 ts_24 tw_5 tw_556 rfl) rfl rfl rfl (by decide +kernel) ⟨Nat.le_of_ble_eq_true rfl, Nat.le_of_ble_eq_true rfl⟩) (PW_preV hPc hKc hDc hE hS hFc (ci := 4) (q0 := 0) rfl rfl) rfl rfl hl.1 rfl (lv_room (Nat.le_of_ble_eq_true rfl)) d_Md_part_3 ⟨Nat.le_of_ble_eq_true rfl, Nat.le_of_ble_eq_true rfl⟩) hS (fun q _ h => hFc q h) hFc (fun r_68 uu t H1 locs ht hvm hw_69 hB hz1 hk1 hS => ?_)
    obtain ⟨hP1, hD1, hsz1⟩ := hB
    rw [ht] at hP1 hsz1
    obtain ⟨hP, hD⟩ := va_join (wr := [(aMT, .inl (kMT, 65536, .inl B)), (aNx, .inl (kNx, 52650, .inl nx))]) (w1 := [(aM, .inr (4, [.int th, .ref aMT, .int (nI mu), .ref aNw, .ref aNx, .int mw, .int mwa, .int (nI ma), .int (nI en), .long mv, .int mf, .int ml]))]) hP hD [0] [1, 2] rfl rfl (by decide) (by decide) hk1 hFc hP1 hD1
    generalize H1 = H at hP hS ⊢
    have hP : va_P (dC, dI) vwCl [(aMT, .inl (kMT, 65536, .inl B)), (aNx, .inl (kNx, 52650, .inl nx)), (aM, .inr (4, [.int th, .ref aMT, .int (nI mu), .ref aNw, .ref aNx, .int mw, .int mwa, .int (nI ma), .int (nI en), .long mv, .int mf, .int ml]))] H := hP
    have hD : va_D A [(aMT, .inl (kMT, 65536, .inl B)), (aNx, .inl (kNx, 52650, .inl nx)), (aM, .inr (4, [.int th, .ref aMT, .int (nI mu), .ref aNw, .ref aNx, .int mw, .int mwa, .int (nI ma), .int (nI en), .long mv, .int mf, .int ml]))] := hD
    subst hw_69
    have hPc := hP.sub (ws' := [(aM, .inr (4, [.int th, .ref aMT, .int (nI mu), .ref aNw, .ref aNx, .int mw, .int mwa, .int (nI ma), .int (nI en), .long mv, .int mf, .int ml])), (aMT, .inl (kMT, 65536, .inl B))]) [2, 0] rfl
    have hDc := hD.sub (ws' := [(aM, .inr (4, [.int th, .ref aMT, .int (nI mu), .ref aNw, .ref aNx, .int mw, .int mwa, .int (nI ma), .int (nI en), .long mv, .int mf, .int ml])), (aMT, .inl (kMT, 65536, .inl B))]) [2, 0] (by decide) rfl
    have hKc := hK.sub (tys' := [(kMT, .byte)]) [0] rfl
    have hFc := va_free (wc := [(aM, .inr (4, [.int th, .ref aMT, .int (nI mu), .ref aNw, .ref aNx, .int mw, .int mwa, .int (nI ma), .int (nI en), .long mv, .int mf, .int ml])), (aMT, .inl (kMT, 65536, .inl B))]) hD hS hA [2, 0] rfl
    refine va_calli (va_runV (As := [.long (zWv (3 + 1))]) (rest := []) ⟨hx, hb, hml, hown, hts⟩ (c_Md_key l G dC dI H.size aM th aMT mu aNw aNx mw mwa ma en mv mf ml kMT B (3 + 1) (by omega) (by omega) (by omega) (by omega) (zSb_len _)) (cwV 1 hts (gV tw_577 tw_579 ts_27 tw_5 tw_580 rfl) rfl rfl rfl (by decide +kernel) ⟨Nat.le_of_ble_eq_true rfl, Nat.le_of_ble_eq_true rfl⟩) (PW_preV hPc hKc hDc hE hS hFc (ci := 4) (q0 := 0) rfl rfl) rfl rfl hl.1 rfl (lv_room (Nat.le_of_ble_eq_true rfl)) d_Md_part_6 ⟨Nat.le_of_ble_eq_true rfl, Nat.le_of_ble_eq_true rfl⟩) hS (fun q _ h => hFc q h) hFc (fun r_70 uu t H1 locs ht hvm hw_74 hB hz1 hk1 hS => ?_)
    obtain ⟨ma_71, mw_72, mwa_73⟩ := uu
    obtain ⟨hP1, hD1, hsz1⟩ := hB
    rw [ht] at hP1 hsz1
    obtain ⟨hP, hD⟩ := va_join (wr := [(aNx, .inl (kNx, 52650, .inl nx))]) (w1 := [(aM, .inr (4, [.int th, .ref aMT, .int (nI mu), .ref aNw, .ref aNx, .int mw_72, .int mwa_73, .int (nI ma_71), .int (nI en), .long mv, .int mf, .int ml])), (aMT, .inl (kMT, 65536, .inl B))]) hP hD [2, 0] [1] rfl rfl (by decide) (by decide) hk1 hFc hP1 hD1
    generalize H1 = H at hP hS ⊢
    have hP : va_P (dC, dI) vwCl [(aNx, .inl (kNx, 52650, .inl nx)), (aM, .inr (4, [.int th, .ref aMT, .int (nI mu), .ref aNw, .ref aNx, .int mw_72, .int mwa_73, .int (nI ma_71), .int (nI en), .long mv, .int mf, .int ml])), (aMT, .inl (kMT, 65536, .inl B))] H := hP
    have hD : va_D A [(aNx, .inl (kNx, 52650, .inl nx)), (aM, .inr (4, [.int th, .ref aMT, .int (nI mu), .ref aNw, .ref aNx, .int mw_72, .int mwa_73, .int (nI ma_71), .int (nI en), .long mv, .int mf, .int ml])), (aMT, .inl (kMT, 65536, .inl B))] := hD
    rcases hw_74 with ⟨rfl, hw_74a, hw_74b, e1, e2⟩ | ⟨rfl, hw_74b, hw_74k, hw_74a, e2⟩
    ·
      have e1 := e1.symm; subst e1
      have e2 := e2.symm; subst e2
      refine lv_if_ne (tgt := 14) hx hb d_Md_part_9 (by decide) (fun c_75 => ?_) (fun c_75 => ?_)
      ·
        refine lv_iload_n hx hb d_Md_part_14 rfl (lv_at hl 1 rfl) ?_
        refine lv_if_ne (tgt := 23) hx hb d_Md_part_15 (by decide) (fun c_76 => ?_) (fun c_76 => ?_)
        ·
          refine lv_iload_n hx hb d_Md_part_23 rfl (lv_at hl 1 rfl) ?_
          refine lv_iconst (v := 3) hx hb d_Md_part_24 (by decide) ?_
          refine lv_icmp_ne (tgt := 33) hx hb d_Md_part_25 (by decide) (fun c_77 => ?_) (fun c_77 => ?_)
          ·
            exact absurd (by decide) c_77
          ·
            refine lv_bipush (v := 48) hx hb d_Md_part_28 (by decide) ?_
            refine lv_goto (tgt := 45) hx hb d_Md_part_30 (by decide) ?_
            refine lv_istore_n (lv' := [(2, .int 48), (0, .ref aM), (1, .int 3)]) hx hb d_Md_part_45 rfl hl (by decide) rfl (fun ls hl => ?_)
            refine lv_iload_n hx hb d_Md_part_46 rfl (lv_at hl 2 rfl) ?_
            refine lv_iconst (v := 5) hx hb d_Md_part_47 (by decide) ?_
            refine lv_icmp_ne (tgt := 58) hx hb d_Md_part_48 (by decide) (fun c_78 => ?_) (fun c_78 => ?_)
            ·
              refine lv_iload_n hx hb d_Md_part_58 rfl (lv_at hl 2 rfl) ?_
              refine lv_bipush (v := 6) hx hb d_Md_part_59 (by decide) ?_
              refine lv_icmp_ne (tgt := 71) hx hb d_Md_part_61 (by decide) (fun c_79 => ?_) (fun c_79 => ?_)
              ·
                refine lv_aload_n hx hb d_Md_part_71 rfl (lv_at hl 1 rfl) ?_
                refine lv_iload_n hx hb d_Md_part_72 rfl (lv_at hl 2 rfl) ?_
                refine lv_iload_n hx hb d_Md_part_73 rfl (lv_at hl 0 rfl) ?_
                have hPc := hP.sub (ws' := [(aM, .inr (4, [.int th, .ref aMT, .int (nI mu), .ref aNw, .ref aNx, .int mw, .int mwa, .int (nI ma_71), .int (nI en), .long mv, .int mf, .int ml])), (aMT, .inl (kMT, 65536, .inl B)), (aNx, .inl (kNx, 52650, .inl nx))]) [1, 2, 0] rfl
                have hDc := hD.sub (ws' := [(aM, .inr (4, [.int th, .ref aMT, .int (nI mu), .ref aNw, .ref aNx, .int mw, .int mwa, .int (nI ma_71), .int (nI en), .long mv, .int mf, .int ml])), (aMT, .inl (kMT, 65536, .inl B)), (aNx, .inl (kNx, 52650, .inl nx))]) [1, 2, 0] (by decide) rfl
                have hKc := hK.sub (tys' := [(kMT, .byte), (kNx, .int)]) [0, 1] rfl
                have hFc := va_free (wc := [(aM, .inr (4, [.int th, .ref aMT, .int (nI mu), .ref aNw, .ref aNx, .int mw, .int mwa, .int (nI ma_71), .int (nI en), .long mv, .int mf, .int ml])), (aMT, .inl (kMT, 65536, .inl B)), (aNx, .inl (kNx, 52650, .inl nx))]) hD hS hA [1, 2, 0] rfl
                refine va_calli (va_runV (As := [.int (nI 3), .int (nI 48)]) (rest := []) ⟨hx, hb, hml, hown, hts⟩ (c_Md_things l G dC dI H.size aM th aMT mu aNw aNx mw mwa ma_71 en mv mf ml kMT B kNx nx cnt 3 48 (by omega) (by omega) (by decide) rfl (hz0 _ (Nat.le_refl _) (by decide)) hcn hcm) (cwV 2 hts (gV tw_626 tw_628 ts_36 tw_5 tw_629 rfl) rfl rfl rfl (by decide +kernel) ⟨Nat.le_of_ble_eq_true rfl, Nat.le_of_ble_eq_true rfl⟩) (PW_preV hPc hKc hDc hE hS hFc (ci := 4) (q0 := 0) rfl rfl) rfl rfl hl.1 rfl (lv_room (Nat.le_of_ble_eq_true rfl)) d_Md_part_74 ⟨Nat.le_of_ble_eq_true rfl, Nat.le_of_ble_eq_true rfl⟩) hS (fun q _ h => hFc q h) hFc (fun r_80 uu t H1 locs ht hvm hw_88 hB hz1 hk1 hS => ?_)
                obtain ⟨ma_81, mw_82, mwa_83, mv_84, mf_85, nx_86, ml_87⟩ := uu
                obtain ⟨hP1, hD1, hsz1⟩ := hB
                rw [ht] at hP1 hsz1
                obtain ⟨hP, hD⟩ := va_join (wr := []) (w1 := [(aM, .inr (4, [.int th, .ref aMT, .int (nI mu), .ref aNw, .ref aNx, .int mw_82, .int mwa_83, .int (nI ma_81), .int (nI en), .long mv_84, .int mf_85, .int ml_87])), (aMT, .inl (kMT, 65536, .inl B)), (aNx, .inl (kNx, 52650, .inl nx_86))]) hP hD [1, 2, 0] [] rfl rfl (by decide) (by decide) hk1 hFc hP1 hD1
                generalize H1 = H at hP hS ⊢
                have hP : va_P (dC, dI) vwCl [(aM, .inr (4, [.int th, .ref aMT, .int (nI mu), .ref aNw, .ref aNx, .int mw_82, .int mwa_83, .int (nI ma_81), .int (nI en), .long mv_84, .int mf_85, .int ml_87])), (aMT, .inl (kMT, 65536, .inl B)), (aNx, .inl (kNx, 52650, .inl nx_86))] H := hP
                have hD : va_D A [(aM, .inr (4, [.int th, .ref aMT, .int (nI mu), .ref aNw, .ref aNx, .int mw_82, .int mwa_83, .int (nI ma_81), .int (nI en), .long mv_84, .int mf_85, .int ml_87])), (aMT, .inl (kMT, 65536, .inl B)), (aNx, .inl (kNx, 52650, .inl nx_86))] := hD
                rcases hw_88 with ⟨rfl, hw_88b, e1, e2, hw_88n, hw_88a, hw_88c, hw_88d⟩ | ⟨rfl, hw_88b, hw_88k, hw_88a, e2⟩
                ·
                  have e1 := e1.symm; subst e1
                  have e2 := e2.symm; subst e2
                  refine zt_size (fun hzs => ?_)
                  have hP9 := hP.sub (ws' := [(aM, .inr (4, [.int th, .ref aMT, .int (nI mu), .ref aNw, .ref aNx, .int mw, .int mwa, .int (nI ma_81), .int (nI en), .long mv_84, .int mf_85, .int ml_87])), (aMT, .inl (kMT, 65536, .inl B)), (aNx, .inl (kNx, 52650, .inl nx_86))]) [0, 1, 2] rfl
                  have hD9 := hD.sub (ws' := [(aM, .inr (4, [.int th, .ref aMT, .int (nI mu), .ref aNw, .ref aNx, .int mw, .int mwa, .int (nI ma_81), .int (nI en), .long mv_84, .int mf_85, .int ml_87])), (aMT, .inl (kMT, 65536, .inl B)), (aNx, .inl (kNx, 52650, .inl nx_86))]) [0, 1, 2] (by decide) rfl
                  exact W.zret (v := 1) hx hb hr rfl (fun t ht hW => ⟨⟨1, (ma_81, mw, mwa, mv_84, mf_85, nx_86, ml_87), rfl, Or.inl ⟨rfl, by omega, rfl, rfl, zuN cnt 3 hw_88n, by simp only [zB_ok, zB_er, hw_74a]; unfold mPart; rw [if_neg (by decide), if_neg (by decide)]; simp only [zB_ok, zB_er, hw_88a], hw_88d, zuN_le hw_88c hcm, fun j h1 h2 => by rw [zuN_n (by omega)]; exact hz0 j (by omega) h2⟩, by rw [ht]; exact hP9, hD9, by rw [ht]; exact hzs⟩, hS.F ht⟩) hS.2.2 d_Md_part_77
                ·
                  have e2 := e2.symm; subst e2
                  refine zt_size (fun hzs => ?_)
                  have hP9 := hP.sub (ws' := [(aM, .inr (4, [.int th, .ref aMT, .int (nI mu), .ref aNw, .ref aNx, .int mw_82, .int (nI hw_88k), .int (nI ma_81), .int (nI en), .long mv_84, .int mf_85, .int ml_87])), (aMT, .inl (kMT, 65536, .inl B)), (aNx, .inl (kNx, 52650, .inl nx_86))]) [0, 1, 2] rfl
                  have hD9 := hD.sub (ws' := [(aM, .inr (4, [.int th, .ref aMT, .int (nI mu), .ref aNw, .ref aNx, .int mw_82, .int (nI hw_88k), .int (nI ma_81), .int (nI en), .long mv_84, .int mf_85, .int ml_87])), (aMT, .inl (kMT, 65536, .inl B)), (aNx, .inl (kNx, 52650, .inl nx_86))]) [0, 1, 2] (by decide) rfl
                  exact W.zret (v := 0) hx hb hr rfl (fun t ht hW => ⟨⟨0, (ma_81, mw_82, nI hw_88k, mv_84, mf_85, nx_86, ml_87), rfl, Or.inr ⟨rfl, by omega, _, by simp only [zB_ok, zB_er, hw_74a]; unfold mPart; rw [if_neg (by decide), if_neg (by decide)]; simp only [zB_ok, zB_er, hw_88a], rfl⟩, by rw [ht]; exact hP9, hD9, by rw [ht]; exact hzs⟩, hS.F ht⟩) hS.2.2 d_Md_part_77
              ·
                exact absurd c_79 (by decide)
            ·
              exact absurd c_78 (by decide)
        ·
          exact absurd c_76 (by decide)
      ·
        exact absurd c_75 (by decide)
    ·
      have e2 := e2.symm; subst e2
      refine lv_if_ne (tgt := 14) hx hb d_Md_part_9 (by decide) (fun c_89 => ?_) (fun c_89 => ?_)
      ·
        exact absurd (by decide) c_89
      ·
        refine lv_iconst (v := 0) hx hb d_Md_part_12 (by decide) ?_
        refine zt_size (fun hzs => ?_)
        have hP9 := hP.sub (ws' := [(aM, .inr (4, [.int th, .ref aMT, .int (nI mu), .ref aNw, .ref aNx, .int mw_72, .int (nI hw_74k), .int (nI ma_71), .int (nI en), .long mv, .int mf, .int ml])), (aMT, .inl (kMT, 65536, .inl B)), (aNx, .inl (kNx, 52650, .inl nx))]) [1, 2, 0] rfl
        have hD9 := hD.sub (ws' := [(aM, .inr (4, [.int th, .ref aMT, .int (nI mu), .ref aNw, .ref aNx, .int mw_72, .int (nI hw_74k), .int (nI ma_71), .int (nI en), .long mv, .int mf, .int ml])), (aMT, .inl (kMT, 65536, .inl B)), (aNx, .inl (kNx, 52650, .inl nx))]) [1, 2, 0] (by decide) rfl
        exact W.zret (v := 0) hx hb hr rfl (fun t ht hW => ⟨⟨0, (ma_71, mw_72, nI hw_74k, mv, mf, nx, ml), rfl, Or.inr ⟨rfl, by omega, _, by simp only [zB_ok, zB_er, hw_74a], rfl⟩, by rw [ht]; exact hP9, hD9, by rw [ht]; exact hzs⟩, hS.F ht⟩) hS.2.2 d_Md_part_13
  ·
    have hl : lv_has ls 3 [(0, .ref aM), (1, .int 4)] := hl
    refine lv_aload_n hx hb d_Md_part_0 rfl (lv_at hl 0 rfl) ?_
    refine lv_aload_n hx hb d_Md_part_1 rfl (lv_at hl 0 rfl) ?_
    refine lv_iload_n hx hb d_Md_part_2 rfl (lv_at hl 1 rfl) ?_
    have hPc := hP.sub (ws' := [(aM, .inr (4, [.int th, .ref aMT, .int (nI mu), .ref aNw, .ref aNx, .int mw, .int mwa, .int (nI ma), .int (nI en), .long mv, .int mf, .int ml]))]) [0] rfl
    have hDc := hD.sub (ws' := [(aM, .inr (4, [.int th, .ref aMT, .int (nI mu), .ref aNw, .ref aNx, .int mw, .int mwa, .int (nI ma), .int (nI en), .long mv, .int mf, .int ml]))]) [0] (by decide) rfl
    have hKc := hK.sub (tys' := []) [] rfl
    have hFc := va_free (wc := [(aM, .inr (4, [.int th, .ref aMT, .int (nI mu), .ref aNw, .ref aNx, .int mw, .int mwa, .int (nI ma), .int (nI en), .long mv, .int mf, .int ml]))]) hD hS hA [0] rfl
    refine va_calll (va_runV (As := [.int (nI 4)]) (rest := [.ref aM]) ⟨hx, hb, hml, hown, hts⟩ (c_Md_nameOf l G dC dI H.size aM th aMT mu aNw aNx mw mwa ma en mv mf ml 4 (by omega)) (cwV 1 hts (gV tw_553 tw_555 ts_24 tw_5 tw_556 rfl) rfl rfl rfl (by decide +kernel) ⟨Nat.le_of_ble_eq_true rfl, Nat.le_of_ble_eq_true rfl⟩) (PW_preV hPc hKc hDc hE hS hFc (ci := 4) (q0 := 0) rfl rfl) rfl rfl hl.1 rfl (lv_room (Nat.le_of_ble_eq_true rfl)) d_Md_part_3 ⟨Nat.le_of_ble_eq_true rfl, Nat.le_of_ble_eq_true rfl⟩) hS (fun q _ h => hFc q h) hFc (fun r_90 uu t H1 locs ht hvm hw_91 hB hz1 hk1 hS => ?_)
    obtain ⟨hP1, hD1, hsz1⟩ := hB
    rw [ht] at hP1 hsz1
    obtain ⟨hP, hD⟩ := va_join (wr := [(aMT, .inl (kMT, 65536, .inl B)), (aNx, .inl (kNx, 52650, .inl nx))]) (w1 := [(aM, .inr (4, [.int th, .ref aMT, .int (nI mu), .ref aNw, .ref aNx, .int mw, .int mwa, .int (nI ma), .int (nI en), .long mv, .int mf, .int ml]))]) hP hD [0] [1, 2] rfl rfl (by decide) (by decide) hk1 hFc hP1 hD1
    generalize H1 = H at hP hS ⊢
    have hP : va_P (dC, dI) vwCl [(aMT, .inl (kMT, 65536, .inl B)), (aNx, .inl (kNx, 52650, .inl nx)), (aM, .inr (4, [.int th, .ref aMT, .int (nI mu), .ref aNw, .ref aNx, .int mw, .int mwa, .int (nI ma), .int (nI en), .long mv, .int mf, .int ml]))] H := hP
    have hD : va_D A [(aMT, .inl (kMT, 65536, .inl B)), (aNx, .inl (kNx, 52650, .inl nx)), (aM, .inr (4, [.int th, .ref aMT, .int (nI mu), .ref aNw, .ref aNx, .int mw, .int mwa, .int (nI ma), .int (nI en), .long mv, .int mf, .int ml]))] := hD
    subst hw_91
    have hPc := hP.sub (ws' := [(aM, .inr (4, [.int th, .ref aMT, .int (nI mu), .ref aNw, .ref aNx, .int mw, .int mwa, .int (nI ma), .int (nI en), .long mv, .int mf, .int ml])), (aMT, .inl (kMT, 65536, .inl B))]) [2, 0] rfl
    have hDc := hD.sub (ws' := [(aM, .inr (4, [.int th, .ref aMT, .int (nI mu), .ref aNw, .ref aNx, .int mw, .int mwa, .int (nI ma), .int (nI en), .long mv, .int mf, .int ml])), (aMT, .inl (kMT, 65536, .inl B))]) [2, 0] (by decide) rfl
    have hKc := hK.sub (tys' := [(kMT, .byte)]) [0] rfl
    have hFc := va_free (wc := [(aM, .inr (4, [.int th, .ref aMT, .int (nI mu), .ref aNw, .ref aNx, .int mw, .int mwa, .int (nI ma), .int (nI en), .long mv, .int mf, .int ml])), (aMT, .inl (kMT, 65536, .inl B))]) hD hS hA [2, 0] rfl
    refine va_calli (va_runV (As := [.long (zWv (4 + 1))]) (rest := []) ⟨hx, hb, hml, hown, hts⟩ (c_Md_key l G dC dI H.size aM th aMT mu aNw aNx mw mwa ma en mv mf ml kMT B (4 + 1) (by omega) (by omega) (by omega) (by omega) (zSb_len _)) (cwV 1 hts (gV tw_577 tw_579 ts_27 tw_5 tw_580 rfl) rfl rfl rfl (by decide +kernel) ⟨Nat.le_of_ble_eq_true rfl, Nat.le_of_ble_eq_true rfl⟩) (PW_preV hPc hKc hDc hE hS hFc (ci := 4) (q0 := 0) rfl rfl) rfl rfl hl.1 rfl (lv_room (Nat.le_of_ble_eq_true rfl)) d_Md_part_6 ⟨Nat.le_of_ble_eq_true rfl, Nat.le_of_ble_eq_true rfl⟩) hS (fun q _ h => hFc q h) hFc (fun r_92 uu t H1 locs ht hvm hw_96 hB hz1 hk1 hS => ?_)
    obtain ⟨ma_93, mw_94, mwa_95⟩ := uu
    obtain ⟨hP1, hD1, hsz1⟩ := hB
    rw [ht] at hP1 hsz1
    obtain ⟨hP, hD⟩ := va_join (wr := [(aNx, .inl (kNx, 52650, .inl nx))]) (w1 := [(aM, .inr (4, [.int th, .ref aMT, .int (nI mu), .ref aNw, .ref aNx, .int mw_94, .int mwa_95, .int (nI ma_93), .int (nI en), .long mv, .int mf, .int ml])), (aMT, .inl (kMT, 65536, .inl B))]) hP hD [2, 0] [1] rfl rfl (by decide) (by decide) hk1 hFc hP1 hD1
    generalize H1 = H at hP hS ⊢
    have hP : va_P (dC, dI) vwCl [(aNx, .inl (kNx, 52650, .inl nx)), (aM, .inr (4, [.int th, .ref aMT, .int (nI mu), .ref aNw, .ref aNx, .int mw_94, .int mwa_95, .int (nI ma_93), .int (nI en), .long mv, .int mf, .int ml])), (aMT, .inl (kMT, 65536, .inl B))] H := hP
    have hD : va_D A [(aNx, .inl (kNx, 52650, .inl nx)), (aM, .inr (4, [.int th, .ref aMT, .int (nI mu), .ref aNw, .ref aNx, .int mw_94, .int mwa_95, .int (nI ma_93), .int (nI en), .long mv, .int mf, .int ml])), (aMT, .inl (kMT, 65536, .inl B))] := hD
    rcases hw_96 with ⟨rfl, hw_96a, hw_96b, e1, e2⟩ | ⟨rfl, hw_96b, hw_96k, hw_96a, e2⟩
    ·
      have e1 := e1.symm; subst e1
      have e2 := e2.symm; subst e2
      refine lv_if_ne (tgt := 14) hx hb d_Md_part_9 (by decide) (fun c_97 => ?_) (fun c_97 => ?_)
      ·
        refine lv_iload_n hx hb d_Md_part_14 rfl (lv_at hl 1 rfl) ?_
        refine lv_if_ne (tgt := 23) hx hb d_Md_part_15 (by decide) (fun c_98 => ?_) (fun c_98 => ?_)
        ·
          refine lv_iload_n hx hb d_Md_part_23 rfl (lv_at hl 1 rfl) ?_
          refine lv_iconst (v := 3) hx hb d_Md_part_24 (by decide) ?_
          refine lv_icmp_ne (tgt := 33) hx hb d_Md_part_25 (by decide) (fun c_99 => ?_) (fun c_99 => ?_)
          ·
            refine lv_iload_n hx hb d_Md_part_33 rfl (lv_at hl 1 rfl) ?_
            refine lv_iconst (v := 4) hx hb d_Md_part_34 (by decide) ?_
            refine lv_icmp_ne (tgt := 43) hx hb d_Md_part_35 (by decide) (fun c_100 => ?_) (fun c_100 => ?_)
            ·
              exact absurd (by decide) c_100
            ·
              refine lv_bipush (v := 32) hx hb d_Md_part_38 (by decide) ?_
              refine lv_goto (tgt := 45) hx hb d_Md_part_40 (by decide) ?_
              refine lv_istore_n (lv' := [(2, .int 32), (0, .ref aM), (1, .int 4)]) hx hb d_Md_part_45 rfl hl (by decide) rfl (fun ls hl => ?_)
              refine lv_iload_n hx hb d_Md_part_46 rfl (lv_at hl 2 rfl) ?_
              refine lv_iconst (v := 5) hx hb d_Md_part_47 (by decide) ?_
              refine lv_icmp_ne (tgt := 58) hx hb d_Md_part_48 (by decide) (fun c_101 => ?_) (fun c_101 => ?_)
              ·
                refine lv_iload_n hx hb d_Md_part_58 rfl (lv_at hl 2 rfl) ?_
                refine lv_bipush (v := 6) hx hb d_Md_part_59 (by decide) ?_
                refine lv_icmp_ne (tgt := 71) hx hb d_Md_part_61 (by decide) (fun c_102 => ?_) (fun c_102 => ?_)
                ·
                  refine lv_aload_n hx hb d_Md_part_71 rfl (lv_at hl 1 rfl) ?_
                  refine lv_iload_n hx hb d_Md_part_72 rfl (lv_at hl 2 rfl) ?_
                  refine lv_iload_n hx hb d_Md_part_73 rfl (lv_at hl 0 rfl) ?_
                  have hPc := hP.sub (ws' := [(aM, .inr (4, [.int th, .ref aMT, .int (nI mu), .ref aNw, .ref aNx, .int mw, .int mwa, .int (nI ma_93), .int (nI en), .long mv, .int mf, .int ml])), (aMT, .inl (kMT, 65536, .inl B)), (aNx, .inl (kNx, 52650, .inl nx))]) [1, 2, 0] rfl
                  have hDc := hD.sub (ws' := [(aM, .inr (4, [.int th, .ref aMT, .int (nI mu), .ref aNw, .ref aNx, .int mw, .int mwa, .int (nI ma_93), .int (nI en), .long mv, .int mf, .int ml])), (aMT, .inl (kMT, 65536, .inl B)), (aNx, .inl (kNx, 52650, .inl nx))]) [1, 2, 0] (by decide) rfl
                  have hKc := hK.sub (tys' := [(kMT, .byte), (kNx, .int)]) [0, 1] rfl
                  have hFc := va_free (wc := [(aM, .inr (4, [.int th, .ref aMT, .int (nI mu), .ref aNw, .ref aNx, .int mw, .int mwa, .int (nI ma_93), .int (nI en), .long mv, .int mf, .int ml])), (aMT, .inl (kMT, 65536, .inl B)), (aNx, .inl (kNx, 52650, .inl nx))]) hD hS hA [1, 2, 0] rfl
                  refine va_calli (va_runV (As := [.int (nI 4), .int (nI 32)]) (rest := []) ⟨hx, hb, hml, hown, hts⟩ (c_Md_things l G dC dI H.size aM th aMT mu aNw aNx mw mwa ma_93 en mv mf ml kMT B kNx nx cnt 4 32 (by omega) (by omega) (by decide) rfl (hz0 _ (Nat.le_refl _) (by decide)) hcn hcm) (cwV 2 hts (gV tw_626 tw_628 ts_36 tw_5 tw_629 rfl) rfl rfl rfl (by decide +kernel) ⟨Nat.le_of_ble_eq_true rfl, Nat.le_of_ble_eq_true rfl⟩) (PW_preV hPc hKc hDc hE hS hFc (ci := 4) (q0 := 0) rfl rfl) rfl rfl hl.1 rfl (lv_room (Nat.le_of_ble_eq_true rfl)) d_Md_part_74 ⟨Nat.le_of_ble_eq_true rfl, Nat.le_of_ble_eq_true rfl⟩) hS (fun q _ h => hFc q h) hFc (fun r_103 uu t H1 locs ht hvm hw_111 hB hz1 hk1 hS => ?_)
                  obtain ⟨ma_104, mw_105, mwa_106, mv_107, mf_108, nx_109, ml_110⟩ := uu
                  obtain ⟨hP1, hD1, hsz1⟩ := hB
                  rw [ht] at hP1 hsz1
                  obtain ⟨hP, hD⟩ := va_join (wr := []) (w1 := [(aM, .inr (4, [.int th, .ref aMT, .int (nI mu), .ref aNw, .ref aNx, .int mw_105, .int mwa_106, .int (nI ma_104), .int (nI en), .long mv_107, .int mf_108, .int ml_110])), (aMT, .inl (kMT, 65536, .inl B)), (aNx, .inl (kNx, 52650, .inl nx_109))]) hP hD [1, 2, 0] [] rfl rfl (by decide) (by decide) hk1 hFc hP1 hD1
                  generalize H1 = H at hP hS ⊢
                  have hP : va_P (dC, dI) vwCl [(aM, .inr (4, [.int th, .ref aMT, .int (nI mu), .ref aNw, .ref aNx, .int mw_105, .int mwa_106, .int (nI ma_104), .int (nI en), .long mv_107, .int mf_108, .int ml_110])), (aMT, .inl (kMT, 65536, .inl B)), (aNx, .inl (kNx, 52650, .inl nx_109))] H := hP
                  have hD : va_D A [(aM, .inr (4, [.int th, .ref aMT, .int (nI mu), .ref aNw, .ref aNx, .int mw_105, .int mwa_106, .int (nI ma_104), .int (nI en), .long mv_107, .int mf_108, .int ml_110])), (aMT, .inl (kMT, 65536, .inl B)), (aNx, .inl (kNx, 52650, .inl nx_109))] := hD
                  rcases hw_111 with ⟨rfl, hw_111b, e1, e2, hw_111n, hw_111a, hw_111c, hw_111d⟩ | ⟨rfl, hw_111b, hw_111k, hw_111a, e2⟩
                  ·
                    have e1 := e1.symm; subst e1
                    have e2 := e2.symm; subst e2
                    refine zt_size (fun hzs => ?_)
                    have hP9 := hP.sub (ws' := [(aM, .inr (4, [.int th, .ref aMT, .int (nI mu), .ref aNw, .ref aNx, .int mw, .int mwa, .int (nI ma_104), .int (nI en), .long mv_107, .int mf_108, .int ml_110])), (aMT, .inl (kMT, 65536, .inl B)), (aNx, .inl (kNx, 52650, .inl nx_109))]) [0, 1, 2] rfl
                    have hD9 := hD.sub (ws' := [(aM, .inr (4, [.int th, .ref aMT, .int (nI mu), .ref aNw, .ref aNx, .int mw, .int mwa, .int (nI ma_104), .int (nI en), .long mv_107, .int mf_108, .int ml_110])), (aMT, .inl (kMT, 65536, .inl B)), (aNx, .inl (kNx, 52650, .inl nx_109))]) [0, 1, 2] (by decide) rfl
                    exact W.zret (v := 1) hx hb hr rfl (fun t ht hW => ⟨⟨1, (ma_104, mw, mwa, mv_107, mf_108, nx_109, ml_110), rfl, Or.inl ⟨rfl, by omega, rfl, rfl, zuN cnt 4 hw_111n, by simp only [zB_ok, zB_er, hw_96a]; unfold mPart; rw [if_neg (by decide), if_neg (by decide)]; simp only [zB_ok, zB_er, hw_111a], hw_111d, zuN_le hw_111c hcm, fun j h1 h2 => by rw [zuN_n (by omega)]; exact hz0 j (by omega) h2⟩, by rw [ht]; exact hP9, hD9, by rw [ht]; exact hzs⟩, hS.F ht⟩) hS.2.2 d_Md_part_77
                  ·
                    have e2 := e2.symm; subst e2
                    refine zt_size (fun hzs => ?_)
                    have hP9 := hP.sub (ws' := [(aM, .inr (4, [.int th, .ref aMT, .int (nI mu), .ref aNw, .ref aNx, .int mw_105, .int (nI hw_111k), .int (nI ma_104), .int (nI en), .long mv_107, .int mf_108, .int ml_110])), (aMT, .inl (kMT, 65536, .inl B)), (aNx, .inl (kNx, 52650, .inl nx_109))]) [0, 1, 2] rfl
                    have hD9 := hD.sub (ws' := [(aM, .inr (4, [.int th, .ref aMT, .int (nI mu), .ref aNw, .ref aNx, .int mw_105, .int (nI hw_111k), .int (nI ma_104), .int (nI en), .long mv_107, .int mf_108, .int ml_110])), (aMT, .inl (kMT, 65536, .inl B)), (aNx, .inl (kNx, 52650, .inl nx_109))]) [0, 1, 2] (by decide) rfl
                    exact W.zret (v := 0) hx hb hr rfl (fun t ht hW => ⟨⟨0, (ma_104, mw_105, nI hw_111k, mv_107, mf_108, nx_109, ml_110), rfl, Or.inr ⟨rfl, by omega, _, by simp only [zB_ok, zB_er, hw_96a]; unfold mPart; rw [if_neg (by decide), if_neg (by decide)]; simp only [zB_ok, zB_er, hw_111a], rfl⟩, by rw [ht]; exact hP9, hD9, by rw [ht]; exact hzs⟩, hS.F ht⟩) hS.2.2 d_Md_part_77
                ·
                  exact absurd c_102 (by decide)
              ·
                exact absurd c_101 (by decide)
          ·
            exact absurd c_99 (by decide)
        ·
          exact absurd c_98 (by decide)
      ·
        exact absurd c_97 (by decide)
    ·
      have e2 := e2.symm; subst e2
      refine lv_if_ne (tgt := 14) hx hb d_Md_part_9 (by decide) (fun c_112 => ?_) (fun c_112 => ?_)
      ·
        exact absurd (by decide) c_112
      ·
        refine lv_iconst (v := 0) hx hb d_Md_part_12 (by decide) ?_
        refine zt_size (fun hzs => ?_)
        have hP9 := hP.sub (ws' := [(aM, .inr (4, [.int th, .ref aMT, .int (nI mu), .ref aNw, .ref aNx, .int mw_94, .int (nI hw_96k), .int (nI ma_93), .int (nI en), .long mv, .int mf, .int ml])), (aMT, .inl (kMT, 65536, .inl B)), (aNx, .inl (kNx, 52650, .inl nx))]) [1, 2, 0] rfl
        have hD9 := hD.sub (ws' := [(aM, .inr (4, [.int th, .ref aMT, .int (nI mu), .ref aNw, .ref aNx, .int mw_94, .int (nI hw_96k), .int (nI ma_93), .int (nI en), .long mv, .int mf, .int ml])), (aMT, .inl (kMT, 65536, .inl B)), (aNx, .inl (kNx, 52650, .inl nx))]) [1, 2, 0] (by decide) rfl
        exact W.zret (v := 0) hx hb hr rfl (fun t ht hW => ⟨⟨0, (ma_93, mw_94, nI hw_96k, mv, mf, nx, ml), rfl, Or.inr ⟨rfl, by omega, _, by simp only [zB_ok, zB_er, hw_96a], rfl⟩, by rw [ht]; exact hP9, hD9, by rw [ht]; exact hzs⟩, hS.F ht⟩) hS.2.2 d_Md_part_13
  ·
    have hl : lv_has ls 3 [(0, .ref aM), (1, .int 5)] := hl
    refine lv_aload_n hx hb d_Md_part_0 rfl (lv_at hl 0 rfl) ?_
    refine lv_aload_n hx hb d_Md_part_1 rfl (lv_at hl 0 rfl) ?_
    refine lv_iload_n hx hb d_Md_part_2 rfl (lv_at hl 1 rfl) ?_
    have hPc := hP.sub (ws' := [(aM, .inr (4, [.int th, .ref aMT, .int (nI mu), .ref aNw, .ref aNx, .int mw, .int mwa, .int (nI ma), .int (nI en), .long mv, .int mf, .int ml]))]) [0] rfl
    have hDc := hD.sub (ws' := [(aM, .inr (4, [.int th, .ref aMT, .int (nI mu), .ref aNw, .ref aNx, .int mw, .int mwa, .int (nI ma), .int (nI en), .long mv, .int mf, .int ml]))]) [0] (by decide) rfl
    have hKc := hK.sub (tys' := []) [] rfl
    have hFc := va_free (wc := [(aM, .inr (4, [.int th, .ref aMT, .int (nI mu), .ref aNw, .ref aNx, .int mw, .int mwa, .int (nI ma), .int (nI en), .long mv, .int mf, .int ml]))]) hD hS hA [0] rfl
    refine va_calll (va_runV (As := [.int (nI 5)]) (rest := [.ref aM]) ⟨hx, hb, hml, hown, hts⟩ (c_Md_nameOf l G dC dI H.size aM th aMT mu aNw aNx mw mwa ma en mv mf ml 5 (by omega)) (cwV 1 hts (gV tw_553 tw_555 ts_24 tw_5 tw_556 rfl) rfl rfl rfl (by decide +kernel) ⟨Nat.le_of_ble_eq_true rfl, Nat.le_of_ble_eq_true rfl⟩) (PW_preV hPc hKc hDc hE hS hFc (ci := 4) (q0 := 0) rfl rfl) rfl rfl hl.1 rfl (lv_room (Nat.le_of_ble_eq_true rfl)) d_Md_part_3 ⟨Nat.le_of_ble_eq_true rfl, Nat.le_of_ble_eq_true rfl⟩) hS (fun q _ h => hFc q h) hFc (fun r_113 uu t H1 locs ht hvm hw_114 hB hz1 hk1 hS => ?_)
    obtain ⟨hP1, hD1, hsz1⟩ := hB
    rw [ht] at hP1 hsz1
    obtain ⟨hP, hD⟩ := va_join (wr := [(aMT, .inl (kMT, 65536, .inl B)), (aNx, .inl (kNx, 52650, .inl nx))]) (w1 := [(aM, .inr (4, [.int th, .ref aMT, .int (nI mu), .ref aNw, .ref aNx, .int mw, .int mwa, .int (nI ma), .int (nI en), .long mv, .int mf, .int ml]))]) hP hD [0] [1, 2] rfl rfl (by decide) (by decide) hk1 hFc hP1 hD1
    generalize H1 = H at hP hS ⊢
    have hP : va_P (dC, dI) vwCl [(aMT, .inl (kMT, 65536, .inl B)), (aNx, .inl (kNx, 52650, .inl nx)), (aM, .inr (4, [.int th, .ref aMT, .int (nI mu), .ref aNw, .ref aNx, .int mw, .int mwa, .int (nI ma), .int (nI en), .long mv, .int mf, .int ml]))] H := hP
    have hD : va_D A [(aMT, .inl (kMT, 65536, .inl B)), (aNx, .inl (kNx, 52650, .inl nx)), (aM, .inr (4, [.int th, .ref aMT, .int (nI mu), .ref aNw, .ref aNx, .int mw, .int mwa, .int (nI ma), .int (nI en), .long mv, .int mf, .int ml]))] := hD
    subst hw_114
    have hPc := hP.sub (ws' := [(aM, .inr (4, [.int th, .ref aMT, .int (nI mu), .ref aNw, .ref aNx, .int mw, .int mwa, .int (nI ma), .int (nI en), .long mv, .int mf, .int ml])), (aMT, .inl (kMT, 65536, .inl B))]) [2, 0] rfl
    have hDc := hD.sub (ws' := [(aM, .inr (4, [.int th, .ref aMT, .int (nI mu), .ref aNw, .ref aNx, .int mw, .int mwa, .int (nI ma), .int (nI en), .long mv, .int mf, .int ml])), (aMT, .inl (kMT, 65536, .inl B))]) [2, 0] (by decide) rfl
    have hKc := hK.sub (tys' := [(kMT, .byte)]) [0] rfl
    have hFc := va_free (wc := [(aM, .inr (4, [.int th, .ref aMT, .int (nI mu), .ref aNw, .ref aNx, .int mw, .int mwa, .int (nI ma), .int (nI en), .long mv, .int mf, .int ml])), (aMT, .inl (kMT, 65536, .inl B))]) hD hS hA [2, 0] rfl
    refine va_calli (va_runV (As := [.long (zWv (5 + 1))]) (rest := []) ⟨hx, hb, hml, hown, hts⟩ (c_Md_key l G dC dI H.size aM th aMT mu aNw aNx mw mwa ma en mv mf ml kMT B (5 + 1) (by omega) (by omega) (by omega) (by omega) (zSb_len _)) (cwV 1 hts (gV tw_577 tw_579 ts_27 tw_5 tw_580 rfl) rfl rfl rfl (by decide +kernel) ⟨Nat.le_of_ble_eq_true rfl, Nat.le_of_ble_eq_true rfl⟩) (PW_preV hPc hKc hDc hE hS hFc (ci := 4) (q0 := 0) rfl rfl) rfl rfl hl.1 rfl (lv_room (Nat.le_of_ble_eq_true rfl)) d_Md_part_6 ⟨Nat.le_of_ble_eq_true rfl, Nat.le_of_ble_eq_true rfl⟩) hS (fun q _ h => hFc q h) hFc (fun r_115 uu t H1 locs ht hvm hw_119 hB hz1 hk1 hS => ?_)
    obtain ⟨ma_116, mw_117, mwa_118⟩ := uu
    obtain ⟨hP1, hD1, hsz1⟩ := hB
    rw [ht] at hP1 hsz1
    obtain ⟨hP, hD⟩ := va_join (wr := [(aNx, .inl (kNx, 52650, .inl nx))]) (w1 := [(aM, .inr (4, [.int th, .ref aMT, .int (nI mu), .ref aNw, .ref aNx, .int mw_117, .int mwa_118, .int (nI ma_116), .int (nI en), .long mv, .int mf, .int ml])), (aMT, .inl (kMT, 65536, .inl B))]) hP hD [2, 0] [1] rfl rfl (by decide) (by decide) hk1 hFc hP1 hD1
    generalize H1 = H at hP hS ⊢
    have hP : va_P (dC, dI) vwCl [(aNx, .inl (kNx, 52650, .inl nx)), (aM, .inr (4, [.int th, .ref aMT, .int (nI mu), .ref aNw, .ref aNx, .int mw_117, .int mwa_118, .int (nI ma_116), .int (nI en), .long mv, .int mf, .int ml])), (aMT, .inl (kMT, 65536, .inl B))] H := hP
    have hD : va_D A [(aNx, .inl (kNx, 52650, .inl nx)), (aM, .inr (4, [.int th, .ref aMT, .int (nI mu), .ref aNw, .ref aNx, .int mw_117, .int mwa_118, .int (nI ma_116), .int (nI en), .long mv, .int mf, .int ml])), (aMT, .inl (kMT, 65536, .inl B))] := hD
    rcases hw_119 with ⟨rfl, hw_119a, hw_119b, e1, e2⟩ | ⟨rfl, hw_119b, hw_119k, hw_119a, e2⟩
    ·
      have e1 := e1.symm; subst e1
      have e2 := e2.symm; subst e2
      refine lv_if_ne (tgt := 14) hx hb d_Md_part_9 (by decide) (fun c_120 => ?_) (fun c_120 => ?_)
      ·
        refine lv_iload_n hx hb d_Md_part_14 rfl (lv_at hl 1 rfl) ?_
        refine lv_if_ne (tgt := 23) hx hb d_Md_part_15 (by decide) (fun c_121 => ?_) (fun c_121 => ?_)
        ·
          refine lv_iload_n hx hb d_Md_part_23 rfl (lv_at hl 1 rfl) ?_
          refine lv_iconst (v := 3) hx hb d_Md_part_24 (by decide) ?_
          refine lv_icmp_ne (tgt := 33) hx hb d_Md_part_25 (by decide) (fun c_122 => ?_) (fun c_122 => ?_)
          ·
            refine lv_iload_n hx hb d_Md_part_33 rfl (lv_at hl 1 rfl) ?_
            refine lv_iconst (v := 4) hx hb d_Md_part_34 (by decide) ?_
            refine lv_icmp_ne (tgt := 43) hx hb d_Md_part_35 (by decide) (fun c_123 => ?_) (fun c_123 => ?_)
            ·
              refine lv_bipush (v := 16) hx hb d_Md_part_43 (by decide) ?_
              refine lv_istore_n (lv' := [(2, .int 16), (0, .ref aM), (1, .int 5)]) hx hb d_Md_part_45 rfl hl (by decide) rfl (fun ls hl => ?_)
              refine lv_iload_n hx hb d_Md_part_46 rfl (lv_at hl 2 rfl) ?_
              refine lv_iconst (v := 5) hx hb d_Md_part_47 (by decide) ?_
              refine lv_icmp_ne (tgt := 58) hx hb d_Md_part_48 (by decide) (fun c_124 => ?_) (fun c_124 => ?_)
              ·
                exact absurd (by decide) c_124
              ·
                refine lv_aload_n hx hb d_Md_part_51 rfl (lv_at hl 1 rfl) ?_
                have hPc := hP.sub (ws' := [(aM, .inr (4, [.int th, .ref aMT, .int (nI mu), .ref aNw, .ref aNx, .int mw, .int mwa, .int (nI ma_116), .int (nI en), .long mv, .int mf, .int ml])), (aMT, .inl (kMT, 65536, .inl B)), (aNx, .inl (kNx, 52650, .inl nx))]) [1, 2, 0] rfl
                have hDc := hD.sub (ws' := [(aM, .inr (4, [.int th, .ref aMT, .int (nI mu), .ref aNw, .ref aNx, .int mw, .int mwa, .int (nI ma_116), .int (nI en), .long mv, .int mf, .int ml])), (aMT, .inl (kMT, 65536, .inl B)), (aNx, .inl (kNx, 52650, .inl nx))]) [1, 2, 0] (by decide) rfl
                have hKc := hK.sub (tys' := [(kMT, .byte), (kNx, .int)]) [0, 1] rfl
                have hFc := va_free (wc := [(aM, .inr (4, [.int th, .ref aMT, .int (nI mu), .ref aNw, .ref aNx, .int mw, .int mwa, .int (nI ma_116), .int (nI en), .long mv, .int mf, .int ml])), (aMT, .inl (kMT, 65536, .inl B)), (aNx, .inl (kNx, 52650, .inl nx))]) hD hS hA [1, 2, 0] rfl
                refine va_calli (va_runV (As := []) (rest := []) ⟨hx, hb, hml, hown, hts⟩ (c_Md_camera l G dC dI H.size aM th aMT mu aNw aNx mw mwa ma_116 en mv mf ml kMT B kNx nx (by omega) (by omega)) (cwV 0 hts (gV tw_581 tw_583 ts_28 tw_5 tw_584 rfl) rfl rfl rfl (by decide +kernel) ⟨Nat.le_of_ble_eq_true rfl, Nat.le_of_ble_eq_true rfl⟩) (PW_preV hPc hKc hDc hE hS hFc (ci := 4) (q0 := 0) rfl rfl) rfl rfl hl.1 rfl (lv_room (Nat.le_of_ble_eq_true rfl)) d_Md_part_52 ⟨Nat.le_of_ble_eq_true rfl, Nat.le_of_ble_eq_true rfl⟩) hS (fun q _ h => hFc q h) hFc (fun r_125 uu t H1 locs ht hvm hw_133 hB hz1 hk1 hS => ?_)
                obtain ⟨ma_126, mw_127, mwa_128, mv_129, mf_130, nx_131, ml_132⟩ := uu
                obtain ⟨hP1, hD1, hsz1⟩ := hB
                rw [ht] at hP1 hsz1
                obtain ⟨hP, hD⟩ := va_join (wr := []) (w1 := [(aM, .inr (4, [.int th, .ref aMT, .int (nI mu), .ref aNw, .ref aNx, .int mw_127, .int mwa_128, .int (nI ma_126), .int (nI en), .long mv_129, .int mf_130, .int ml_132])), (aMT, .inl (kMT, 65536, .inl B)), (aNx, .inl (kNx, 52650, .inl nx_131))]) hP hD [1, 2, 0] [] rfl rfl (by decide) (by decide) hk1 hFc hP1 hD1
                generalize H1 = H at hP hS ⊢
                have hP : va_P (dC, dI) vwCl [(aM, .inr (4, [.int th, .ref aMT, .int (nI mu), .ref aNw, .ref aNx, .int mw_127, .int mwa_128, .int (nI ma_126), .int (nI en), .long mv_129, .int mf_130, .int ml_132])), (aMT, .inl (kMT, 65536, .inl B)), (aNx, .inl (kNx, 52650, .inl nx_131))] H := hP
                have hD : va_D A [(aM, .inr (4, [.int th, .ref aMT, .int (nI mu), .ref aNw, .ref aNx, .int mw_127, .int mwa_128, .int (nI ma_126), .int (nI en), .long mv_129, .int mf_130, .int ml_132])), (aMT, .inl (kMT, 65536, .inl B)), (aNx, .inl (kNx, 52650, .inl nx_131))] := hD
                rcases hw_133 with ⟨rfl, hw_133b, e1, e2, hw_133a⟩ | ⟨rfl, hw_133b, hw_133k, hw_133a, e2⟩
                ·
                  have e1 := e1.symm; subst e1
                  have e2 := e2.symm; subst e2
                  refine lv_goto (tgt := 77) hx hb d_Md_part_55 (by decide) ?_
                  refine zt_size (fun hzs => ?_)
                  have hP9 := hP.sub (ws' := [(aM, .inr (4, [.int th, .ref aMT, .int (nI mu), .ref aNw, .ref aNx, .int mw, .int mwa, .int (nI ma_126), .int (nI en), .long mv_129, .int mf_130, .int ml_132])), (aMT, .inl (kMT, 65536, .inl B)), (aNx, .inl (kNx, 52650, .inl nx_131))]) [0, 1, 2] rfl
                  have hD9 := hD.sub (ws' := [(aM, .inr (4, [.int th, .ref aMT, .int (nI mu), .ref aNw, .ref aNx, .int mw, .int mwa, .int (nI ma_126), .int (nI en), .long mv_129, .int mf_130, .int ml_132])), (aMT, .inl (kMT, 65536, .inl B)), (aNx, .inl (kNx, 52650, .inl nx_131))]) [0, 1, 2] (by decide) rfl
                  exact W.zret (v := 1) hx hb hr rfl (fun t ht hW => ⟨⟨1, (ma_126, mw, mwa, mv_129, mf_130, nx_131, ml_132), rfl, Or.inl ⟨rfl, by omega, rfl, rfl, cnt, by simp only [zB_ok, zB_er, hw_119a]; unfold mPart; rw [if_pos rfl]; simp only [zB_ok, zB_er, hw_133a], fun j hj => ((mCamera_lo hw_133a) j (by omega)).trans (hcn j hj), hcm, fun j h1 h2 => absurd h2 (by omega)⟩, by rw [ht]; exact hP9, hD9, by rw [ht]; exact hzs⟩, hS.F ht⟩) hS.2.2 d_Md_part_77
                ·
                  have e2 := e2.symm; subst e2
                  refine lv_goto (tgt := 77) hx hb d_Md_part_55 (by decide) ?_
                  refine zt_size (fun hzs => ?_)
                  have hP9 := hP.sub (ws' := [(aM, .inr (4, [.int th, .ref aMT, .int (nI mu), .ref aNw, .ref aNx, .int mw_127, .int (nI hw_133k), .int (nI ma_126), .int (nI en), .long mv_129, .int mf_130, .int ml_132])), (aMT, .inl (kMT, 65536, .inl B)), (aNx, .inl (kNx, 52650, .inl nx_131))]) [0, 1, 2] rfl
                  have hD9 := hD.sub (ws' := [(aM, .inr (4, [.int th, .ref aMT, .int (nI mu), .ref aNw, .ref aNx, .int mw_127, .int (nI hw_133k), .int (nI ma_126), .int (nI en), .long mv_129, .int mf_130, .int ml_132])), (aMT, .inl (kMT, 65536, .inl B)), (aNx, .inl (kNx, 52650, .inl nx_131))]) [0, 1, 2] (by decide) rfl
                  exact W.zret (v := 0) hx hb hr rfl (fun t ht hW => ⟨⟨0, (ma_126, mw_127, nI hw_133k, mv_129, mf_130, nx_131, ml_132), rfl, Or.inr ⟨rfl, by omega, _, by simp only [zB_ok, zB_er, hw_119a]; unfold mPart; rw [if_pos rfl]; simp only [zB_ok, zB_er, hw_133a], rfl⟩, by rw [ht]; exact hP9, hD9, by rw [ht]; exact hzs⟩, hS.F ht⟩) hS.2.2 d_Md_part_77
            ·
              exact absurd c_123 (by decide)
          ·
            exact absurd c_122 (by decide)
        ·
          exact absurd c_121 (by decide)
      ·
        exact absurd c_120 (by decide)
    ·
      have e2 := e2.symm; subst e2
      refine lv_if_ne (tgt := 14) hx hb d_Md_part_9 (by decide) (fun c_134 => ?_) (fun c_134 => ?_)
      ·
        exact absurd (by decide) c_134
      ·
        refine lv_iconst (v := 0) hx hb d_Md_part_12 (by decide) ?_
        refine zt_size (fun hzs => ?_)
        have hP9 := hP.sub (ws' := [(aM, .inr (4, [.int th, .ref aMT, .int (nI mu), .ref aNw, .ref aNx, .int mw_117, .int (nI hw_119k), .int (nI ma_116), .int (nI en), .long mv, .int mf, .int ml])), (aMT, .inl (kMT, 65536, .inl B)), (aNx, .inl (kNx, 52650, .inl nx))]) [1, 2, 0] rfl
        have hD9 := hD.sub (ws' := [(aM, .inr (4, [.int th, .ref aMT, .int (nI mu), .ref aNw, .ref aNx, .int mw_117, .int (nI hw_119k), .int (nI ma_116), .int (nI en), .long mv, .int mf, .int ml])), (aMT, .inl (kMT, 65536, .inl B)), (aNx, .inl (kNx, 52650, .inl nx))]) [1, 2, 0] (by decide) rfl
        exact W.zret (v := 0) hx hb hr rfl (fun t ht hW => ⟨⟨0, (ma_116, mw_117, nI hw_119k, mv, mf, nx, ml), rfl, Or.inr ⟨rfl, by omega, _, by simp only [zB_ok, zB_er, hw_119a], rfl⟩, by rw [ht]; exact hP9, hD9, by rw [ht]; exact hzs⟩, hS.F ht⟩) hS.2.2 d_Md_part_13
  ·
    have hl : lv_has ls 3 [(0, .ref aM), (1, .int 6)] := hl
    refine lv_aload_n hx hb d_Md_part_0 rfl (lv_at hl 0 rfl) ?_
    refine lv_aload_n hx hb d_Md_part_1 rfl (lv_at hl 0 rfl) ?_
    refine lv_iload_n hx hb d_Md_part_2 rfl (lv_at hl 1 rfl) ?_
    have hPc := hP.sub (ws' := [(aM, .inr (4, [.int th, .ref aMT, .int (nI mu), .ref aNw, .ref aNx, .int mw, .int mwa, .int (nI ma), .int (nI en), .long mv, .int mf, .int ml]))]) [0] rfl
    have hDc := hD.sub (ws' := [(aM, .inr (4, [.int th, .ref aMT, .int (nI mu), .ref aNw, .ref aNx, .int mw, .int mwa, .int (nI ma), .int (nI en), .long mv, .int mf, .int ml]))]) [0] (by decide) rfl
    have hKc := hK.sub (tys' := []) [] rfl
    have hFc := va_free (wc := [(aM, .inr (4, [.int th, .ref aMT, .int (nI mu), .ref aNw, .ref aNx, .int mw, .int mwa, .int (nI ma), .int (nI en), .long mv, .int mf, .int ml]))]) hD hS hA [0] rfl
    refine va_calll (va_runV (As := [.int (nI 6)]) (rest := [.ref aM]) ⟨hx, hb, hml, hown, hts⟩ (c_Md_nameOf l G dC dI H.size aM th aMT mu aNw aNx mw mwa ma en mv mf ml 6 (by omega)) (cwV 1 hts (gV tw_553 tw_555 ts_24 tw_5 tw_556 rfl) rfl rfl rfl (by decide +kernel) ⟨Nat.le_of_ble_eq_true rfl, Nat.le_of_ble_eq_true rfl⟩) (PW_preV hPc hKc hDc hE hS hFc (ci := 4) (q0 := 0) rfl rfl) rfl rfl hl.1 rfl (lv_room (Nat.le_of_ble_eq_true rfl)) d_Md_part_3 ⟨Nat.le_of_ble_eq_true rfl, Nat.le_of_ble_eq_true rfl⟩) hS (fun q _ h => hFc q h) hFc (fun r_135 uu t H1 locs ht hvm hw_136 hB hz1 hk1 hS => ?_)
    obtain ⟨hP1, hD1, hsz1⟩ := hB
    rw [ht] at hP1 hsz1
    obtain ⟨hP, hD⟩ := va_join (wr := [(aMT, .inl (kMT, 65536, .inl B)), (aNx, .inl (kNx, 52650, .inl nx))]) (w1 := [(aM, .inr (4, [.int th, .ref aMT, .int (nI mu), .ref aNw, .ref aNx, .int mw, .int mwa, .int (nI ma), .int (nI en), .long mv, .int mf, .int ml]))]) hP hD [0] [1, 2] rfl rfl (by decide) (by decide) hk1 hFc hP1 hD1
    generalize H1 = H at hP hS ⊢
    have hP : va_P (dC, dI) vwCl [(aMT, .inl (kMT, 65536, .inl B)), (aNx, .inl (kNx, 52650, .inl nx)), (aM, .inr (4, [.int th, .ref aMT, .int (nI mu), .ref aNw, .ref aNx, .int mw, .int mwa, .int (nI ma), .int (nI en), .long mv, .int mf, .int ml]))] H := hP
    have hD : va_D A [(aMT, .inl (kMT, 65536, .inl B)), (aNx, .inl (kNx, 52650, .inl nx)), (aM, .inr (4, [.int th, .ref aMT, .int (nI mu), .ref aNw, .ref aNx, .int mw, .int mwa, .int (nI ma), .int (nI en), .long mv, .int mf, .int ml]))] := hD
    subst hw_136
    have hPc := hP.sub (ws' := [(aM, .inr (4, [.int th, .ref aMT, .int (nI mu), .ref aNw, .ref aNx, .int mw, .int mwa, .int (nI ma), .int (nI en), .long mv, .int mf, .int ml])), (aMT, .inl (kMT, 65536, .inl B))]) [2, 0] rfl
    have hDc := hD.sub (ws' := [(aM, .inr (4, [.int th, .ref aMT, .int (nI mu), .ref aNw, .ref aNx, .int mw, .int mwa, .int (nI ma), .int (nI en), .long mv, .int mf, .int ml])), (aMT, .inl (kMT, 65536, .inl B))]) [2, 0] (by decide) rfl
    have hKc := hK.sub (tys' := [(kMT, .byte)]) [0] rfl
    have hFc := va_free (wc := [(aM, .inr (4, [.int th, .ref aMT, .int (nI mu), .ref aNw, .ref aNx, .int mw, .int mwa, .int (nI ma), .int (nI en), .long mv, .int mf, .int ml])), (aMT, .inl (kMT, 65536, .inl B))]) hD hS hA [2, 0] rfl
    refine va_calli (va_runV (As := [.long (zWv (6 + 1))]) (rest := []) ⟨hx, hb, hml, hown, hts⟩ (c_Md_key l G dC dI H.size aM th aMT mu aNw aNx mw mwa ma en mv mf ml kMT B (6 + 1) (by omega) (by omega) (by omega) (by omega) (zSb_len _)) (cwV 1 hts (gV tw_577 tw_579 ts_27 tw_5 tw_580 rfl) rfl rfl rfl (by decide +kernel) ⟨Nat.le_of_ble_eq_true rfl, Nat.le_of_ble_eq_true rfl⟩) (PW_preV hPc hKc hDc hE hS hFc (ci := 4) (q0 := 0) rfl rfl) rfl rfl hl.1 rfl (lv_room (Nat.le_of_ble_eq_true rfl)) d_Md_part_6 ⟨Nat.le_of_ble_eq_true rfl, Nat.le_of_ble_eq_true rfl⟩) hS (fun q _ h => hFc q h) hFc (fun r_137 uu t H1 locs ht hvm hw_141 hB hz1 hk1 hS => ?_)
    obtain ⟨ma_138, mw_139, mwa_140⟩ := uu
    obtain ⟨hP1, hD1, hsz1⟩ := hB
    rw [ht] at hP1 hsz1
    obtain ⟨hP, hD⟩ := va_join (wr := [(aNx, .inl (kNx, 52650, .inl nx))]) (w1 := [(aM, .inr (4, [.int th, .ref aMT, .int (nI mu), .ref aNw, .ref aNx, .int mw_139, .int mwa_140, .int (nI ma_138), .int (nI en), .long mv, .int mf, .int ml])), (aMT, .inl (kMT, 65536, .inl B))]) hP hD [2, 0] [1] rfl rfl (by decide) (by decide) hk1 hFc hP1 hD1
    generalize H1 = H at hP hS ⊢
    have hP : va_P (dC, dI) vwCl [(aNx, .inl (kNx, 52650, .inl nx)), (aM, .inr (4, [.int th, .ref aMT, .int (nI mu), .ref aNw, .ref aNx, .int mw_139, .int mwa_140, .int (nI ma_138), .int (nI en), .long mv, .int mf, .int ml])), (aMT, .inl (kMT, 65536, .inl B))] H := hP
    have hD : va_D A [(aNx, .inl (kNx, 52650, .inl nx)), (aM, .inr (4, [.int th, .ref aMT, .int (nI mu), .ref aNw, .ref aNx, .int mw_139, .int mwa_140, .int (nI ma_138), .int (nI en), .long mv, .int mf, .int ml])), (aMT, .inl (kMT, 65536, .inl B))] := hD
    rcases hw_141 with ⟨rfl, hw_141a, hw_141b, e1, e2⟩ | ⟨rfl, hw_141b, hw_141k, hw_141a, e2⟩
    ·
      have e1 := e1.symm; subst e1
      have e2 := e2.symm; subst e2
      refine lv_if_ne (tgt := 14) hx hb d_Md_part_9 (by decide) (fun c_142 => ?_) (fun c_142 => ?_)
      ·
        refine lv_iload_n hx hb d_Md_part_14 rfl (lv_at hl 1 rfl) ?_
        refine lv_if_ne (tgt := 23) hx hb d_Md_part_15 (by decide) (fun c_143 => ?_) (fun c_143 => ?_)
        ·
          refine lv_iload_n hx hb d_Md_part_23 rfl (lv_at hl 1 rfl) ?_
          refine lv_iconst (v := 3) hx hb d_Md_part_24 (by decide) ?_
          refine lv_icmp_ne (tgt := 33) hx hb d_Md_part_25 (by decide) (fun c_144 => ?_) (fun c_144 => ?_)
          ·
            refine lv_iload_n hx hb d_Md_part_33 rfl (lv_at hl 1 rfl) ?_
            refine lv_iconst (v := 4) hx hb d_Md_part_34 (by decide) ?_
            refine lv_icmp_ne (tgt := 43) hx hb d_Md_part_35 (by decide) (fun c_145 => ?_) (fun c_145 => ?_)
            ·
              refine lv_bipush (v := 16) hx hb d_Md_part_43 (by decide) ?_
              refine lv_istore_n (lv' := [(2, .int 16), (0, .ref aM), (1, .int 6)]) hx hb d_Md_part_45 rfl hl (by decide) rfl (fun ls hl => ?_)
              refine lv_iload_n hx hb d_Md_part_46 rfl (lv_at hl 2 rfl) ?_
              refine lv_iconst (v := 5) hx hb d_Md_part_47 (by decide) ?_
              refine lv_icmp_ne (tgt := 58) hx hb d_Md_part_48 (by decide) (fun c_146 => ?_) (fun c_146 => ?_)
              ·
                refine lv_iload_n hx hb d_Md_part_58 rfl (lv_at hl 2 rfl) ?_
                refine lv_bipush (v := 6) hx hb d_Md_part_59 (by decide) ?_
                refine lv_icmp_ne (tgt := 71) hx hb d_Md_part_61 (by decide) (fun c_147 => ?_) (fun c_147 => ?_)
                ·
                  exact absurd (by decide) c_147
                ·
                  refine lv_aload_n hx hb d_Md_part_64 rfl (lv_at hl 1 rfl) ?_
                  have hPc := hP.sub (ws' := [(aM, .inr (4, [.int th, .ref aMT, .int (nI mu), .ref aNw, .ref aNx, .int mw, .int mwa, .int (nI ma_138), .int (nI en), .long mv, .int mf, .int ml])), (aMT, .inl (kMT, 65536, .inl B)), (aNx, .inl (kNx, 52650, .inl nx))]) [1, 2, 0] rfl
                  have hDc := hD.sub (ws' := [(aM, .inr (4, [.int th, .ref aMT, .int (nI mu), .ref aNw, .ref aNx, .int mw, .int mwa, .int (nI ma_138), .int (nI en), .long mv, .int mf, .int ml])), (aMT, .inl (kMT, 65536, .inl B)), (aNx, .inl (kNx, 52650, .inl nx))]) [1, 2, 0] (by decide) rfl
                  have hKc := hK.sub (tys' := [(kMT, .byte), (kNx, .int)]) [0, 1] rfl
                  have hFc := va_free (wc := [(aM, .inr (4, [.int th, .ref aMT, .int (nI mu), .ref aNw, .ref aNx, .int mw, .int mwa, .int (nI ma_138), .int (nI en), .long mv, .int mf, .int ml])), (aMT, .inl (kMT, 65536, .inl B)), (aNx, .inl (kNx, 52650, .inl nx))]) hD hS hA [1, 2, 0] rfl
                  refine va_calli (va_runV (As := []) (rest := []) ⟨hx, hb, hml, hown, hts⟩ (c_Md_light l G dC dI H.size aM th aMT mu aNw aNx mw mwa ma_138 en mv mf ml kMT B kNx nx (by omega) (by omega)) (cwV 0 hts (gV tw_619 tw_621 ts_35 tw_5 tw_622 rfl) rfl rfl rfl (by decide +kernel) ⟨Nat.le_of_ble_eq_true rfl, Nat.le_of_ble_eq_true rfl⟩) (PW_preV hPc hKc hDc hE hS hFc (ci := 4) (q0 := 0) rfl rfl) rfl rfl hl.1 rfl (lv_room (Nat.le_of_ble_eq_true rfl)) d_Md_part_65 ⟨Nat.le_of_ble_eq_true rfl, Nat.le_of_ble_eq_true rfl⟩) hS (fun q _ h => hFc q h) hFc (fun r_148 uu t H1 locs ht hvm hw_156 hB hz1 hk1 hS => ?_)
                  obtain ⟨ma_149, mw_150, mwa_151, mv_152, mf_153, nx_154, ml_155⟩ := uu
                  obtain ⟨hP1, hD1, hsz1⟩ := hB
                  rw [ht] at hP1 hsz1
                  obtain ⟨hP, hD⟩ := va_join (wr := []) (w1 := [(aM, .inr (4, [.int th, .ref aMT, .int (nI mu), .ref aNw, .ref aNx, .int mw_150, .int mwa_151, .int (nI ma_149), .int (nI en), .long mv_152, .int mf_153, .int ml_155])), (aMT, .inl (kMT, 65536, .inl B)), (aNx, .inl (kNx, 52650, .inl nx_154))]) hP hD [1, 2, 0] [] rfl rfl (by decide) (by decide) hk1 hFc hP1 hD1
                  generalize H1 = H at hP hS ⊢
                  have hP : va_P (dC, dI) vwCl [(aM, .inr (4, [.int th, .ref aMT, .int (nI mu), .ref aNw, .ref aNx, .int mw_150, .int mwa_151, .int (nI ma_149), .int (nI en), .long mv_152, .int mf_153, .int ml_155])), (aMT, .inl (kMT, 65536, .inl B)), (aNx, .inl (kNx, 52650, .inl nx_154))] H := hP
                  have hD : va_D A [(aM, .inr (4, [.int th, .ref aMT, .int (nI mu), .ref aNw, .ref aNx, .int mw_150, .int mwa_151, .int (nI ma_149), .int (nI en), .long mv_152, .int mf_153, .int ml_155])), (aMT, .inl (kMT, 65536, .inl B)), (aNx, .inl (kNx, 52650, .inl nx_154))] := hD
                  rcases hw_156 with ⟨rfl, hw_156b, e1, e2, hw_156a⟩ | ⟨rfl, hw_156b, hw_156k, hw_156a, e2⟩
                  ·
                    have e1 := e1.symm; subst e1
                    have e2 := e2.symm; subst e2
                    refine lv_goto (tgt := 77) hx hb d_Md_part_68 (by decide) ?_
                    refine zt_size (fun hzs => ?_)
                    have hP9 := hP.sub (ws' := [(aM, .inr (4, [.int th, .ref aMT, .int (nI mu), .ref aNw, .ref aNx, .int mw, .int mwa, .int (nI ma_149), .int (nI en), .long mv_152, .int mf_153, .int ml_155])), (aMT, .inl (kMT, 65536, .inl B)), (aNx, .inl (kNx, 52650, .inl nx_154))]) [0, 1, 2] rfl
                    have hD9 := hD.sub (ws' := [(aM, .inr (4, [.int th, .ref aMT, .int (nI mu), .ref aNw, .ref aNx, .int mw, .int mwa, .int (nI ma_149), .int (nI en), .long mv_152, .int mf_153, .int ml_155])), (aMT, .inl (kMT, 65536, .inl B)), (aNx, .inl (kNx, 52650, .inl nx_154))]) [0, 1, 2] (by decide) rfl
                    exact W.zret (v := 1) hx hb hr rfl (fun t ht hW => ⟨⟨1, (ma_149, mw, mwa, mv_152, mf_153, nx_154, ml_155), rfl, Or.inl ⟨rfl, by omega, rfl, rfl, cnt, by simp only [zB_ok, zB_er, hw_141a]; unfold mPart; rw [if_neg (by decide), if_pos rfl]; simp only [zB_ok, zB_er, hw_156a], fun j hj => ((mLight_lo hw_156a) j (by omega)).trans (hcn j hj), hcm, fun j h1 h2 => absurd h2 (by omega)⟩, by rw [ht]; exact hP9, hD9, by rw [ht]; exact hzs⟩, hS.F ht⟩) hS.2.2 d_Md_part_77
                  ·
                    have e2 := e2.symm; subst e2
                    refine lv_goto (tgt := 77) hx hb d_Md_part_68 (by decide) ?_
                    refine zt_size (fun hzs => ?_)
                    have hP9 := hP.sub (ws' := [(aM, .inr (4, [.int th, .ref aMT, .int (nI mu), .ref aNw, .ref aNx, .int mw_150, .int (nI hw_156k), .int (nI ma_149), .int (nI en), .long mv_152, .int mf_153, .int ml_155])), (aMT, .inl (kMT, 65536, .inl B)), (aNx, .inl (kNx, 52650, .inl nx_154))]) [0, 1, 2] rfl
                    have hD9 := hD.sub (ws' := [(aM, .inr (4, [.int th, .ref aMT, .int (nI mu), .ref aNw, .ref aNx, .int mw_150, .int (nI hw_156k), .int (nI ma_149), .int (nI en), .long mv_152, .int mf_153, .int ml_155])), (aMT, .inl (kMT, 65536, .inl B)), (aNx, .inl (kNx, 52650, .inl nx_154))]) [0, 1, 2] (by decide) rfl
                    exact W.zret (v := 0) hx hb hr rfl (fun t ht hW => ⟨⟨0, (ma_149, mw_150, nI hw_156k, mv_152, mf_153, nx_154, ml_155), rfl, Or.inr ⟨rfl, by omega, _, by simp only [zB_ok, zB_er, hw_141a]; unfold mPart; rw [if_neg (by decide), if_pos rfl]; simp only [zB_ok, zB_er, hw_156a], rfl⟩, by rw [ht]; exact hP9, hD9, by rw [ht]; exact hzs⟩, hS.F ht⟩) hS.2.2 d_Md_part_77
              ·
                exact absurd c_146 (by decide)
            ·
              exact absurd c_145 (by decide)
          ·
            exact absurd c_144 (by decide)
        ·
          exact absurd c_143 (by decide)
      ·
        exact absurd c_142 (by decide)
    ·
      have e2 := e2.symm; subst e2
      refine lv_if_ne (tgt := 14) hx hb d_Md_part_9 (by decide) (fun c_157 => ?_) (fun c_157 => ?_)
      ·
        exact absurd (by decide) c_157
      ·
        refine lv_iconst (v := 0) hx hb d_Md_part_12 (by decide) ?_
        refine zt_size (fun hzs => ?_)
        have hP9 := hP.sub (ws' := [(aM, .inr (4, [.int th, .ref aMT, .int (nI mu), .ref aNw, .ref aNx, .int mw_139, .int (nI hw_141k), .int (nI ma_138), .int (nI en), .long mv, .int mf, .int ml])), (aMT, .inl (kMT, 65536, .inl B)), (aNx, .inl (kNx, 52650, .inl nx))]) [1, 2, 0] rfl
        have hD9 := hD.sub (ws' := [(aM, .inr (4, [.int th, .ref aMT, .int (nI mu), .ref aNw, .ref aNx, .int mw_139, .int (nI hw_141k), .int (nI ma_138), .int (nI en), .long mv, .int mf, .int ml])), (aMT, .inl (kMT, 65536, .inl B)), (aNx, .inl (kNx, 52650, .inl nx))]) [1, 2, 0] (by decide) rfl
        exact W.zret (v := 0) hx hb hr rfl (fun t ht hW => ⟨⟨0, (ma_138, mw_139, nI hw_141k, mv, mf, nx, ml), rfl, Or.inr ⟨rfl, by omega, _, by simp only [zB_ok, zB_er, hw_141a], rfl⟩, by rw [ht]; exact hP9, hD9, by rw [ht]; exact hzs⟩, hS.F ht⟩) hS.2.2 d_Md_part_13
