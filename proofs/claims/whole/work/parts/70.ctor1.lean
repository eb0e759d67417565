set_option maxHeartbeats 4000000 in
set_option maxRecDepth 100000 in
theorem c_Tp_init (l : Launch) (G : ZG) (dC : Nat → ClassId) (dI : Nat → Nat → Nat) (sz : Nat) (aT : Nat) : Met l y_Tp_init w_Tp_init ({ frames := 1, cells := 1, slots := 65536, locals := 12 }) (va_Pc [.ref aT] (PW G (dC, dI) [] [(aT, .inr (2, [.null, .int (nI 0), .int (nI 0), .int (nI 0), .int 0, .int 0, .int 0]))] sz)) (va_Qv (fun (uu : Nat × ClassId) => True) (fun (uu : Nat × ClassId) t => va_P (dC, dI) vwCl [(aT, .inr (2, [.ref uu.1, .int (nI 0), .int (nI 0), .int (nI 0), .int 0, .int 0, .int 0])), (uu.1, .inl (uu.2, 65536, .inl (fun _ => 0)))] t.heap ∧ va_D (va_A [(aT, .inr (2, [.null, .int (nI 0), .int (nI 0), .int (nI 0), .int 0, .int 0, .int 0]))] sz) [(aT, .inr (2, [.ref uu.1, .int (nI 0), .int (nI 0), .int (nI 0), .int 0, .int 0, .int 0])), (uu.1, .inl (uu.2, 65536, .inl (fun _ => 0)))] ∧ va_K (dC, dI) vwCl [(uu.2, .byte)] t) (va_A [(aT, .inr (2, [.null, .int (nI 0), .int (nI 0), .int (nI 0), .int 0, .int 0, .int 0]))] sz)) 1 65536 (va_A [(aT, .inr (2, [.null, .int (nI 0), .int (nI 0), .int (nI 0), .int 0, .int 0, .int 0]))] sz) := by
  refine Met.ofW (cc := prog_4_method_1_code) (maxL := 1) (ret := none) (by decide) rfl ?_
  intro p e s m args below meth c s₁ Bd hml hv
  obtain ⟨rfl, hsz, hP, hK, hD0, hE⟩ := hv
  have hx := Bd.exec
  have hb := Bd.bytes
  have hr := Bd.returns
  have hts := atoms_spec (ws := w_Tp_init) Bd.pre
  have hown : s.vm.findClass R_Tp = some m.cls := findClass_of_methodNamed Bd.named
  have hlocks := Bd.notSynchronized
  have hz : ∀ w ∈ ZW, w.before _ s = true := fun w h => hts w (List.mem_cons_of_mem _ h)
  subst hsz
  have hD := hD0.self (sz := s.heap.size)
  generalize hAe : va_A [(aT, .inr (2, [.null, .int (nI 0), .int (nI 0), .int (nI 0), .int 0, .int 0, .int 0]))] s.heap.size = A at hD hE ⊢
  have hA : ∀ q : Nat, s.heap.size ≤ q → A q := fun q h => by rw [← hAe]; exact Or.inr h
  have hS : va_S A s.heap s.heap [] := va_S.rf
  have hl := lv_entry ([.ref aT]) (n := 1) (Nat.le_of_ble_eq_true rfl)
  rw [lg_entry_eq]
  generalize (lg_sl ([.ref aT]) ++ List.replicate (1 - (lg_sl ([.ref aT])).length) Slot.unset).toArray = ls at hl ⊢
  have hl : lv_has ls 1 [(0, .ref aT)] := hl
  obtain ⟨H, hH⟩ : ∃ z, z = s.heap := ⟨_, rfl⟩
  have hP : va_P (dC, dI) vwCl [(aT, .inr (2, [.null, .int (nI 0), .int (nI 0), .int (nI 0), .int 0, .int 0, .int 0]))] H := by rw [hH]; exact hP
  have hS : va_S A s.heap H [] := by rw [hH]; exact hS
  refine zt_heap hH ?_
  have hin : meth.name = "<init>" := (name_of_methodNamed Bd.named Bd.method).1
  refine lv_aload_n hx hb d_Tp_init_0 rfl (lv_at hl 0 rfl) ?_
  refine W.objInit hx hb hown (hz _ tw_33) (hz _ tw_20) (hz _ tw_21) rfl (by rw [hml]; exact hl.1) rfl d_Tp_init_1 (Nat.le_of_ble_eq_true rfl) (Nat.le_of_ble_eq_true rfl) ?_
  refine W.eq (g2 := F0 m 4 ls []) rfl ?_
  refine lv_aload_n hx hb d_Tp_init_4 rfl (lv_at hl 0 rfl) ?_
  refine lv_ldc (v := 65536) hx hb hown (hz _ tw_34) d_Tp_init_5 ?_
  refine va_newa (atype := .byte) (ty := .byte) (N' := 65536) (a0 := (65536, .inl (fun _ => 0))) hx hb (hz _ tw_62) rfl hK hP hD hS hA (fun _ => rfl) (by decide) (by decide) (by decide) (Nat.le_of_ble_eq_true rfl) (Nat.le_of_ble_eq_true rfl) d_Tp_init_7 (fun q_1 ck_2 H hK hP hD hS => ?_)
  have hP : va_P (dC, dI) vwCl [(aT, .inr (2, [.null, .int (nI 0), .int (nI 0), .int (nI 0), .int 0, .int 0, .int 0])), (q_1, .inl (ck_2, 65536, .inl (fun _ => 0)))] H := hP
  have hD : va_D A [(aT, .inr (2, [.null, .int (nI 0), .int (nI 0), .int (nI 0), .int 0, .int 0, .int 0])), (q_1, .inl (ck_2, 65536, .inl (fun _ => 0)))] := hD
  have hK : va_K (dC, dI) vwCl [(ck_2, .byte)] s := hK
  refine va_putF (D := (dC, dI)) (ci := 2) (v := .ref q_1) (ty := .array .byte) (C := R_Tp) (T := F_Tp) (N := 7) hx hb hz i_Tp t_Tp t_Tp_ok n_Tp hown hK hP hD hS 0 rfl rfl 0 (by decide) (hz _ tw_35) (fun _ h9 => h9) rfl hin rfl (by decide +kernel) rfl rfl (Nat.le_of_ble_eq_true rfl) d_Tp_init_9 (fun H locs hP hD hS => ?_)
  have hP : va_P (dC, dI) vwCl [(aT, .inr (2, [.ref q_1, .int (nI 0), .int (nI 0), .int (nI 0), .int 0, .int 0, .int 0])), (q_1, .inl (ck_2, 65536, .inl (fun _ => 0)))] H := hP
  have hD : va_D A [(aT, .inr (2, [.ref q_1, .int (nI 0), .int (nI 0), .int (nI 0), .int 0, .int 0, .int 0])), (q_1, .inl (ck_2, 65536, .inl (fun _ => 0)))] := hD
  refine lv_aload_n hx hb d_Tp_init_12 rfl (lv_at hl 0 rfl) ?_
  refine lv_iconst (v := 0) hx hb d_Tp_init_13 (by decide) ?_
  refine va_put (D := (dC, dI)) (ci := 2) (v := .int 0) (ty := .int) (C := R_Tp) (T := F_Tp) (N := 7) hx hb hz i_Tp t_Tp t_Tp_ok n_Tp hown hK hP hD hS 0 rfl rfl 1 (by decide) (hz _ tw_36) (fun _ h9 => h9) rfl (by decide +kernel) rfl rfl (Nat.le_of_ble_eq_true rfl) d_Tp_init_14 (fun H locs hP hD hS => ?_)
  have hP : va_P (dC, dI) vwCl [(aT, .inr (2, [.ref q_1, .int (nI 0), .int (nI 0), .int (nI 0), .int 0, .int 0, .int 0])), (q_1, .inl (ck_2, 65536, .inl (fun _ => 0)))] H := hP
  have hD : va_D A [(aT, .inr (2, [.ref q_1, .int (nI 0), .int (nI 0), .int (nI 0), .int 0, .int 0, .int 0])), (q_1, .inl (ck_2, 65536, .inl (fun _ => 0)))] := hD
  refine lv_aload_n hx hb d_Tp_init_17 rfl (lv_at hl 0 rfl) ?_
  refine lv_iconst (v := 0) hx hb d_Tp_init_18 (by decide) ?_
  refine va_put (D := (dC, dI)) (ci := 2) (v := .int 0) (ty := .int) (C := R_Tp) (T := F_Tp) (N := 7) hx hb hz i_Tp t_Tp t_Tp_ok n_Tp hown hK hP hD hS 0 rfl rfl 2 (by decide) (hz _ tw_38) (fun _ h9 => h9) rfl (by decide +kernel) rfl rfl (Nat.le_of_ble_eq_true rfl) d_Tp_init_19 (fun H locs hP hD hS => ?_)
  have hP : va_P (dC, dI) vwCl [(aT, .inr (2, [.ref q_1, .int (nI 0), .int (nI 0), .int (nI 0), .int 0, .int 0, .int 0])), (q_1, .inl (ck_2, 65536, .inl (fun _ => 0)))] H := hP
  have hD : va_D A [(aT, .inr (2, [.ref q_1, .int (nI 0), .int (nI 0), .int (nI 0), .int 0, .int 0, .int 0])), (q_1, .inl (ck_2, 65536, .inl (fun _ => 0)))] := hD
  refine lv_aload_n hx hb d_Tp_init_22 rfl (lv_at hl 0 rfl) ?_
  refine lv_iconst (v := 0) hx hb d_Tp_init_23 (by decide) ?_
  refine va_put (D := (dC, dI)) (ci := 2) (v := .int 0) (ty := .int) (C := R_Tp) (T := F_Tp) (N := 7) hx hb hz i_Tp t_Tp t_Tp_ok n_Tp hown hK hP hD hS 0 rfl rfl 3 (by decide) (hz _ tw_39) (fun _ h9 => h9) rfl (by decide +kernel) rfl rfl (Nat.le_of_ble_eq_true rfl) d_Tp_init_24 (fun H locs hP hD hS => ?_)
  have hP : va_P (dC, dI) vwCl [(aT, .inr (2, [.ref q_1, .int (nI 0), .int (nI 0), .int (nI 0), .int 0, .int 0, .int 0])), (q_1, .inl (ck_2, 65536, .inl (fun _ => 0)))] H := hP
  have hD : va_D A [(aT, .inr (2, [.ref q_1, .int (nI 0), .int (nI 0), .int (nI 0), .int 0, .int 0, .int 0])), (q_1, .inl (ck_2, 65536, .inl (fun _ => 0)))] := hD
  refine lv_aload_n hx hb d_Tp_init_27 rfl (lv_at hl 0 rfl) ?_
  refine lv_iconst (v := 0) hx hb d_Tp_init_28 (by decide) ?_
  refine va_put (D := (dC, dI)) (ci := 2) (v := .int 0) (ty := .int) (C := R_Tp) (T := F_Tp) (N := 7) hx hb hz i_Tp t_Tp t_Tp_ok n_Tp hown hK hP hD hS 0 rfl rfl 4 (by decide) (hz _ tw_41) (fun _ h9 => h9) rfl (by decide +kernel) rfl rfl (Nat.le_of_ble_eq_true rfl) d_Tp_init_29 (fun H locs hP hD hS => ?_)
  have hP : va_P (dC, dI) vwCl [(aT, .inr (2, [.ref q_1, .int (nI 0), .int (nI 0), .int (nI 0), .int 0, .int 0, .int 0])), (q_1, .inl (ck_2, 65536, .inl (fun _ => 0)))] H := hP
  have hD : va_D A [(aT, .inr (2, [.ref q_1, .int (nI 0), .int (nI 0), .int (nI 0), .int 0, .int 0, .int 0])), (q_1, .inl (ck_2, 65536, .inl (fun _ => 0)))] := hD
  refine lv_aload_n hx hb d_Tp_init_32 rfl (lv_at hl 0 rfl) ?_
  refine lv_iconst (v := 0) hx hb d_Tp_init_33 (by decide) ?_
  refine va_put (D := (dC, dI)) (ci := 2) (v := .int 0) (ty := .int) (C := R_Tp) (T := F_Tp) (N := 7) hx hb hz i_Tp t_Tp t_Tp_ok n_Tp hown hK hP hD hS 0 rfl rfl 5 (by decide) (hz _ tw_43) (fun _ h9 => h9) rfl (by decide +kernel) rfl rfl (Nat.le_of_ble_eq_true rfl) d_Tp_init_34 (fun H locs hP hD hS => ?_)
  have hP : va_P (dC, dI) vwCl [(aT, .inr (2, [.ref q_1, .int (nI 0), .int (nI 0), .int (nI 0), .int 0, .int 0, .int 0])), (q_1, .inl (ck_2, 65536, .inl (fun _ => 0)))] H := hP
  have hD : va_D A [(aT, .inr (2, [.ref q_1, .int (nI 0), .int (nI 0), .int (nI 0), .int 0, .int 0, .int 0])), (q_1, .inl (ck_2, 65536, .inl (fun _ => 0)))] := hD
  refine lv_aload_n hx hb d_Tp_init_37 rfl (lv_at hl 0 rfl) ?_
  refine lv_iconst (v := 0) hx hb d_Tp_init_38 (by decide) ?_
  refine va_put (D := (dC, dI)) (ci := 2) (v := .int 0) (ty := .int) (C := R_Tp) (T := F_Tp) (N := 7) hx hb hz i_Tp t_Tp t_Tp_ok n_Tp hown hK hP hD hS 0 rfl rfl 6 (by decide) (hz _ tw_45) (fun _ h9 => h9) rfl (by decide +kernel) rfl rfl (Nat.le_of_ble_eq_true rfl) d_Tp_init_39 (fun H locs hP hD hS => ?_)
  have hP : va_P (dC, dI) vwCl [(aT, .inr (2, [.ref q_1, .int (nI 0), .int (nI 0), .int (nI 0), .int 0, .int 0, .int 0])), (q_1, .inl (ck_2, 65536, .inl (fun _ => 0)))] H := hP
  have hD : va_D A [(aT, .inr (2, [.ref q_1, .int (nI 0), .int (nI 0), .int (nI 0), .int 0, .int 0, .int 0])), (q_1, .inl (ck_2, 65536, .inl (fun _ => 0)))] := hD
  have hP9 := hP.sub (ws' := [(aT, .inr (2, [.ref q_1, .int (nI 0), .int (nI 0), .int (nI 0), .int 0, .int 0, .int 0])), (q_1, .inl (ck_2, 65536, .inl (fun _ => 0)))]) [0, 1] rfl
  have hD9 := hD.sub (ws' := [(aT, .inr (2, [.ref q_1, .int (nI 0), .int (nI 0), .int (nI 0), .int 0, .int 0, .int 0])), (q_1, .inl (ck_2, 65536, .inl (fun _ => 0)))]) [0, 1] (by decide) rfl
  have hK9 := hK.sub (tys' := [(ck_2, .byte)]) [0] rfl
  refine W.widen (k := 1) (n := 65536) (Nat.le_of_ble_eq_true rfl) (Nat.le_of_ble_eq_true rfl) ?_
  exact W.vret hx hb hr (fun t ht hW => ⟨⟨(q_1, ck_2), rfl, trivial, by rw [ht]; exact hP9, hD9, va_K.moved hW.alike hK9⟩, hS.F ht⟩) hS.2.2 d_Tp_init_42
set_option maxHeartbeats 4000000 in
set_option maxRecDepth 100000 in
theorem c_Sc_init (l : Launch) (G : ZG) (dC : Nat → ClassId) (dI : Nat → Nat → Nat) (sz : Nat) (aS : Nat) : Met l y_Sc_init w_Sc_init ({ frames := 1, cells := 2, slots := 52040, locals := 21 }) (va_Pc [.ref aS] (PW G (dC, dI) [] [(aS, .inr (1, [.null, .null]))] sz)) (va_Qv (fun (uu : Nat × ClassId × Nat × ClassId) => True) (fun (uu : Nat × ClassId × Nat × ClassId) t => va_P (dC, dI) vwCl [(aS, .inr (1, [.ref uu.1, .ref uu.2.2.1])), (uu.1, .inl (uu.2.1, 5, .inl (fun j => nI ((zC0 (fun _ => 0)) j)))), (uu.2.2.1, .inl (uu.2.2.2, 52035, .inl (zV0 (fun _ => 0))))] t.heap ∧ va_D (va_A [(aS, .inr (1, [.null, .null]))] sz) [(aS, .inr (1, [.ref uu.1, .ref uu.2.2.1])), (uu.1, .inl (uu.2.1, 5, .inl (fun j => nI ((zC0 (fun _ => 0)) j)))), (uu.2.2.1, .inl (uu.2.2.2, 52035, .inl (zV0 (fun _ => 0))))] ∧ va_K (dC, dI) vwCl [(uu.2.1, .int), (uu.2.2.2, .int)] t) (va_A [(aS, .inr (1, [.null, .null]))] sz)) 2 52040 (va_A [(aS, .inr (1, [.null, .null]))] sz) := by
  refine Met.ofW (cc := prog_3_method_1_code) (maxL := 1) (ret := none) (by decide) rfl ?_
  intro p e s m args below meth c s₁ Bd hml hv
  obtain ⟨rfl, hsz, hP, hK, hD0, hE⟩ := hv
  have hx := Bd.exec
  have hb := Bd.bytes
  have hr := Bd.returns
  have hts := atoms_spec (ws := w_Sc_init) Bd.pre
  have hown : s.vm.findClass R_Sc = some m.cls := findClass_of_methodNamed Bd.named
  have hlocks := Bd.notSynchronized
  have hz : ∀ w ∈ ZW, w.before _ s = true := fun w h => hts w (List.mem_cons_of_mem _ h)
  subst hsz
  have hD := hD0.self (sz := s.heap.size)
  generalize hAe : va_A [(aS, .inr (1, [.null, .null]))] s.heap.size = A at hD hE ⊢
  have hA : ∀ q : Nat, s.heap.size ≤ q → A q := fun q h => by rw [← hAe]; exact Or.inr h
  have hS : va_S A s.heap s.heap [] := va_S.rf
  have hl := lv_entry ([.ref aS]) (n := 1) (Nat.le_of_ble_eq_true rfl)
  rw [lg_entry_eq]
  generalize (lg_sl ([.ref aS]) ++ List.replicate (1 - (lg_sl ([.ref aS])).length) Slot.unset).toArray = ls at hl ⊢
  have hl : lv_has ls 1 [(0, .ref aS)] := hl
  obtain ⟨H, hH⟩ : ∃ z, z = s.heap := ⟨_, rfl⟩
  have hP : va_P (dC, dI) vwCl [(aS, .inr (1, [.null, .null]))] H := by rw [hH]; exact hP
  have hS : va_S A s.heap H [] := by rw [hH]; exact hS
  refine zt_heap hH ?_
  have hin : meth.name = "<init>" := (name_of_methodNamed Bd.named Bd.method).1
  refine lv_aload_n hx hb d_Sc_init_0 rfl (lv_at hl 0 rfl) ?_
  refine W.objInit hx hb hown (hz _ tw_68) (hz _ tw_20) (hz _ tw_21) rfl (by rw [hml]; exact hl.1) rfl d_Sc_init_1 (Nat.le_of_ble_eq_true rfl) (Nat.le_of_ble_eq_true rfl) ?_
  refine W.eq (g2 := F0 m 4 ls []) rfl ?_
  refine lv_aload_n hx hb d_Sc_init_4 rfl (lv_at hl 0 rfl) ?_
  refine lv_iconst (v := 5) hx hb d_Sc_init_5 (by decide) ?_
  refine va_newa (atype := .int) (ty := .int) (N' := 5) (a0 := (5, .inl (fun j => nI ((fun _ => 0) j)))) hx hb (hz _ tw_83) rfl hK hP hD hS hA (fun _ => rfl) (by decide) (by decide) (by decide) (Nat.le_of_ble_eq_true rfl) (Nat.le_of_ble_eq_true rfl) d_Sc_init_6 (fun q_1 ck_2 H hK hP hD hS => ?_)
  have hP : va_P (dC, dI) vwCl [(aS, .inr (1, [.null, .null])), (q_1, .inl (ck_2, 5, .inl (fun j => nI ((fun _ => 0) j))))] H := hP
  have hD : va_D A [(aS, .inr (1, [.null, .null])), (q_1, .inl (ck_2, 5, .inl (fun j => nI ((fun _ => 0) j))))] := hD
  have hK : va_K (dC, dI) vwCl [(ck_2, .int)] s := hK
  refine va_putF (D := (dC, dI)) (ci := 1) (v := .ref q_1) (ty := .array .int) (C := R_Sc) (T := F_Sc) (N := 2) hx hb hz i_Sc t_Sc t_Sc_ok n_Sc hown hK hP hD hS 0 rfl rfl 0 (by decide) (hz _ tw_76) (fun _ h9 => h9) rfl hin rfl (by decide +kernel) rfl rfl (Nat.le_of_ble_eq_true rfl) d_Sc_init_8 (fun H locs hP hD hS => ?_)
  have hP : va_P (dC, dI) vwCl [(aS, .inr (1, [.ref q_1, .null])), (q_1, .inl (ck_2, 5, .inl (fun j => nI ((fun _ => 0) j))))] H := hP
  have hD : va_D A [(aS, .inr (1, [.ref q_1, .null])), (q_1, .inl (ck_2, 5, .inl (fun j => nI ((fun _ => 0) j))))] := hD
  refine lv_aload_n hx hb d_Sc_init_11 rfl (lv_at hl 0 rfl) ?_
  refine lv_ldc (v := 52035) hx hb hown (hz _ tw_69) d_Sc_init_12 ?_
  refine va_newa (atype := .int) (ty := .int) (N' := 52035) (a0 := (52035, .inl (fun _ => 0))) hx hb (hz _ tw_83) rfl hK hP hD hS hA (fun _ => rfl) (by decide) (by decide) (by decide) (Nat.le_of_ble_eq_true rfl) (Nat.le_of_ble_eq_true rfl) d_Sc_init_14 (fun q_3 ck_4 H hK hP hD hS => ?_)
  have hP : va_P (dC, dI) vwCl [(aS, .inr (1, [.ref q_1, .null])), (q_1, .inl (ck_2, 5, .inl (fun j => nI ((fun _ => 0) j)))), (q_3, .inl (ck_4, 52035, .inl (fun _ => 0)))] H := hP
  have hD : va_D A [(aS, .inr (1, [.ref q_1, .null])), (q_1, .inl (ck_2, 5, .inl (fun j => nI ((fun _ => 0) j)))), (q_3, .inl (ck_4, 52035, .inl (fun _ => 0)))] := hD
  have hK : va_K (dC, dI) vwCl [(ck_2, .int), (ck_4, .int)] s := hK
  refine va_putF (D := (dC, dI)) (ci := 1) (v := .ref q_3) (ty := .array .int) (C := R_Sc) (T := F_Sc) (N := 2) hx hb hz i_Sc t_Sc t_Sc_ok n_Sc hown hK hP hD hS 0 rfl rfl 1 (by decide) (hz _ tw_77) (fun _ h9 => h9) rfl hin rfl (by decide +kernel) rfl rfl (Nat.le_of_ble_eq_true rfl) d_Sc_init_16 (fun H locs hP hD hS => ?_)
  have hP : va_P (dC, dI) vwCl [(aS, .inr (1, [.ref q_1, .ref q_3])), (q_1, .inl (ck_2, 5, .inl (fun j => nI ((fun _ => 0) j)))), (q_3, .inl (ck_4, 52035, .inl (fun _ => 0)))] H := hP
  have hD : va_D A [(aS, .inr (1, [.ref q_1, .ref q_3])), (q_1, .inl (ck_2, 5, .inl (fun j => nI ((fun _ => 0) j)))), (q_3, .inl (ck_4, 52035, .inl (fun _ => 0)))] := hD
  refine lv_aload_n hx hb d_Sc_init_19 rfl (lv_at hl 0 rfl) ?_
  have hPc := hP.sub (ws' := [(aS, .inr (1, [.ref q_1, .ref q_3])), (q_1, .inl (ck_2, 5, .inl (fun j => nI ((fun _ => 0) j)))), (q_3, .inl (ck_4, 52035, .inl (fun _ => 0)))]) [0, 1, 2] rfl
  have hDc := hD.sub (ws' := [(aS, .inr (1, [.ref q_1, .ref q_3])), (q_1, .inl (ck_2, 5, .inl (fun j => nI ((fun _ => 0) j)))), (q_3, .inl (ck_4, 52035, .inl (fun _ => 0)))]) [0, 1, 2] (by decide) rfl
  have hKc := hK.sub (tys' := [(ck_2, .int), (ck_4, .int)]) [0, 1] rfl
  have hFc := va_free (wc := [(aS, .inr (1, [.ref q_1, .ref q_3])), (q_1, .inl (ck_2, 5, .inl (fun j => nI ((fun _ => 0) j)))), (q_3, .inl (ck_4, 52035, .inl (fun _ => 0)))]) hD hS hA [0, 1, 2] rfl
  refine va_callv (va_runV (As := []) (rest := []) ⟨hx, hb, hml, hown, hts⟩ (c_Sc_clear l G dC dI H.size aS q_1 q_3 ck_2 (fun _ => 0) ck_4 (fun _ => 0)) (cwV 0 hts (gV tw_70 tw_71 tw_72 tw_4 tw_73 rfl) rfl rfl rfl (by decide +kernel) ⟨Nat.le_of_ble_eq_true rfl, Nat.le_of_ble_eq_true rfl⟩) (PW_preV hPc hKc hDc hE hS hFc (ci := 1) (q0 := 0) rfl rfl) rfl rfl hl.1 rfl (lv_room (Nat.le_of_ble_eq_true rfl)) d_Sc_init_20 ⟨Nat.le_of_ble_eq_true rfl, Nat.le_of_ble_eq_true rfl⟩) hS (fun q _ h => hFc q h) hFc (fun uu t H1 locs ht hvm hw_8 hB hz1 hk1 hS => ?_)
  obtain ⟨cnt_6, cel_7⟩ := uu
  obtain ⟨hP1, hD1, hsz1⟩ := hB
  rw [ht] at hP1 hsz1
  obtain ⟨hP, hD⟩ := va_join (wr := []) (w1 := [(aS, .inr (1, [.ref q_1, .ref q_3])), (q_1, .inl (ck_2, 5, .inl (fun j => nI (cnt_6 j)))), (q_3, .inl (ck_4, 52035, .inl cel_7))]) hP hD [0, 1, 2] [] rfl rfl (by decide) (by decide) hk1 hFc hP1 hD1
  generalize H1 = H at hP hS ⊢
  have hP : va_P (dC, dI) vwCl [(aS, .inr (1, [.ref q_1, .ref q_3])), (q_1, .inl (ck_2, 5, .inl (fun j => nI (cnt_6 j)))), (q_3, .inl (ck_4, 52035, .inl cel_7))] H := hP
  have hD : va_D A [(aS, .inr (1, [.ref q_1, .ref q_3])), (q_1, .inl (ck_2, 5, .inl (fun j => nI (cnt_6 j)))), (q_3, .inl (ck_4, 52035, .inl cel_7))] := hD
  obtain ⟨e1, e2⟩ := hw_8
  have e1 := e1.symm; subst e1
  have e2 := e2.symm; subst e2
  have hP9 := hP.sub (ws' := [(aS, .inr (1, [.ref q_1, .ref q_3])), (q_1, .inl (ck_2, 5, .inl (fun j => nI ((zC0 (fun _ => 0)) j)))), (q_3, .inl (ck_4, 52035, .inl (zV0 (fun _ => 0))))]) [0, 1, 2] rfl
  have hD9 := hD.sub (ws' := [(aS, .inr (1, [.ref q_1, .ref q_3])), (q_1, .inl (ck_2, 5, .inl (fun j => nI ((zC0 (fun _ => 0)) j)))), (q_3, .inl (ck_4, 52035, .inl (zV0 (fun _ => 0))))]) [0, 1, 2] (by decide) rfl
  have hK9 := hK.sub (tys' := [(ck_2, .int), (ck_4, .int)]) [0, 1] rfl
  refine W.widen (k := 2) (n := 52040) (Nat.le_of_ble_eq_true rfl) (Nat.le_of_ble_eq_true rfl) ?_
  exact W.vret hx hb hr (fun t ht hW => ⟨⟨(q_1, ck_2, q_3, ck_4), rfl, trivial, by rw [ht]; exact hP9, hD9, va_K.moved hW.alike hK9⟩, hS.F ht⟩) hS.2.2 d_Sc_init_23
