set_option maxHeartbeats 4000000 in
set_option maxRecDepth 100000 in
theorem c_Md_init (l : Launch) (G : ZG) (dC : Nat → ClassId) (dI : Nat → Nat → Nat) (sz : Nat) (aM : Nat) : Met l y_Md_init w_Md_init ({ frames := 1, cells := 3, slots := 170836, locals := 21 }) (va_Pc [.ref aM] (PW G (dC, dI) [] [(aM, .inr (4, [.int 0, .null, .int (nI 0), .null, .null, .int 0, .int 0, .int (nI 0), .int (nI 0), .long 0, .int 0, .int 0]))] sz)) (va_Qv (fun (uu : Nat × ClassId × Nat × ClassId × Nat × ClassId) => True) (fun (uu : Nat × ClassId × Nat × ClassId × Nat × ClassId) t => va_P (dC, dI) vwCl [(aM, .inr (4, [.int 0, .ref uu.1, .int (nI 0), .ref uu.2.2.2.2.1, .ref uu.2.2.1, .int 0, .int 0, .int (nI 0), .int (nI 0), .long 0, .int 0, .int 0])), (uu.1, .inl (uu.2.1, 65536, .inl (fun _ => 0))), (uu.2.2.1, .inl (uu.2.2.2.1, 52650, .inl (fun _ => 0))), (uu.2.2.2.2.1, .inl (uu.2.2.2.2.2, 52650, .inl (zN (fun _ => 0))))] t.heap ∧ va_D (va_A [(aM, .inr (4, [.int 0, .null, .int (nI 0), .null, .null, .int 0, .int 0, .int (nI 0), .int (nI 0), .long 0, .int 0, .int 0]))] sz) [(aM, .inr (4, [.int 0, .ref uu.1, .int (nI 0), .ref uu.2.2.2.2.1, .ref uu.2.2.1, .int 0, .int 0, .int (nI 0), .int (nI 0), .long 0, .int 0, .int 0])), (uu.1, .inl (uu.2.1, 65536, .inl (fun _ => 0))), (uu.2.2.1, .inl (uu.2.2.2.1, 52650, .inl (fun _ => 0))), (uu.2.2.2.2.1, .inl (uu.2.2.2.2.2, 52650, .inl (zN (fun _ => 0))))] ∧ va_K (dC, dI) vwCl [(uu.2.1, .byte), (uu.2.2.2.1, .int), (uu.2.2.2.2.2, .int)] t) (va_A [(aM, .inr (4, [.int 0, .null, .int (nI 0), .null, .null, .int 0, .int 0, .int (nI 0), .int (nI 0), .long 0, .int 0, .int 0]))] sz)) 3 170836 (va_A [(aM, .inr (4, [.int 0, .null, .int (nI 0), .null, .null, .int 0, .int 0, .int (nI 0), .int (nI 0), .long 0, .int 0, .int 0]))] sz) := by
  refine Met.ofW (cc := prog_6_method_1_code) (maxL := 2) (ret := none) (by decide) rfl ?_
  intro p e s m args below meth c s₁ Bd hml hv
  obtain ⟨rfl, hsz, hP, hK, hD0, hE⟩ := hv
  have hx := Bd.exec
  have hb := Bd.bytes
  have hr := Bd.returns
  have hts := atoms_spec (ws := w_Md_init) Bd.pre
  have hown : s.vm.findClass R_Md = some m.cls := findClass_of_methodNamed Bd.named
  have hlocks := Bd.notSynchronized
  have hz : ∀ w ∈ ZW, w.before _ s = true := fun w h => hts w (List.mem_cons_of_mem _ h)
  subst hsz
  have hD := hD0.self (sz := s.heap.size)
  generalize hAe : va_A [(aM, .inr (4, [.int 0, .null, .int (nI 0), .null, .null, .int 0, .int 0, .int (nI 0), .int (nI 0), .long 0, .int 0, .int 0]))] s.heap.size = A at hD hE ⊢
  have hA : ∀ q : Nat, s.heap.size ≤ q → A q := fun q h => by rw [← hAe]; exact Or.inr h
  have hS : va_S A s.heap s.heap [] := va_S.rf
  have hl := lv_entry ([.ref aM]) (n := 2) (Nat.le_of_ble_eq_true rfl)
  rw [lg_entry_eq]
  generalize (lg_sl ([.ref aM]) ++ List.replicate (2 - (lg_sl ([.ref aM])).length) Slot.unset).toArray = ls at hl ⊢
  have hl : lv_has ls 2 [(0, .ref aM)] := hl
  obtain ⟨H, hH⟩ : ∃ z, z = s.heap := ⟨_, rfl⟩
  have hP : va_P (dC, dI) vwCl [(aM, .inr (4, [.int 0, .null, .int (nI 0), .null, .null, .int 0, .int 0, .int (nI 0), .int (nI 0), .long 0, .int 0, .int 0]))] H := by rw [hH]; exact hP
  have hS : va_S A s.heap H [] := by rw [hH]; exact hS
  refine zt_heap hH ?_
  have hin : meth.name = "<init>" := (name_of_methodNamed Bd.named Bd.method).1
  refine lv_aload_n hx hb d_Md_init_0 rfl (lv_at hl 0 rfl) ?_
  refine W.objInit hx hb hown (hz _ tw_465) (hz _ tw_20) (hz _ tw_21) rfl (by rw [hml]; exact hl.1) rfl d_Md_init_1 (Nat.le_of_ble_eq_true rfl) (Nat.le_of_ble_eq_true rfl) ?_
  refine W.eq (g2 := F0 m 4 ls []) rfl ?_
  refine lv_aload_n hx hb d_Md_init_4 rfl (lv_at hl 0 rfl) ?_
  refine lv_ldc (v := 65536) hx hb hown (hz _ tw_466) d_Md_init_5 ?_
  refine va_newa (atype := .byte) (ty := .byte) (N' := 65536) (a0 := (65536, .inl (fun _ => 0))) hx hb (hz _ tw_62) rfl hK hP hD hS hA (fun _ => rfl) (by decide) (by decide) (by decide) (Nat.le_of_ble_eq_true rfl) (Nat.le_of_ble_eq_true rfl) d_Md_init_7 (fun q_1 ck_2 H hK hP hD hS => ?_)
  have hP : va_P (dC, dI) vwCl [(aM, .inr (4, [.int 0, .null, .int (nI 0), .null, .null, .int 0, .int 0, .int (nI 0), .int (nI 0), .long 0, .int 0, .int 0])), (q_1, .inl (ck_2, 65536, .inl (fun _ => 0)))] H := hP
  have hD : va_D A [(aM, .inr (4, [.int 0, .null, .int (nI 0), .null, .null, .int 0, .int 0, .int (nI 0), .int (nI 0), .long 0, .int 0, .int 0])), (q_1, .inl (ck_2, 65536, .inl (fun _ => 0)))] := hD
  have hK : va_K (dC, dI) vwCl [(ck_2, .byte)] s := hK
  refine va_putF (D := (dC, dI)) (ci := 4) (v := .ref q_1) (ty := .array .byte) (C := R_Md) (T := F_Md) (N := 12) hx hb hz i_Md t_Md t_Md_ok n_Md hown hK hP hD hS 0 rfl rfl 1 (by decide) (hz _ tw_477) (fun _ h9 => h9) rfl hin rfl (by decide +kernel) rfl rfl (Nat.le_of_ble_eq_true rfl) d_Md_init_9 (fun H locs hP hD hS => ?_)
  have hP : va_P (dC, dI) vwCl [(aM, .inr (4, [.int 0, .ref q_1, .int (nI 0), .null, .null, .int 0, .int 0, .int (nI 0), .int (nI 0), .long 0, .int 0, .int 0])), (q_1, .inl (ck_2, 65536, .inl (fun _ => 0)))] H := hP
  have hD : va_D A [(aM, .inr (4, [.int 0, .ref q_1, .int (nI 0), .null, .null, .int 0, .int 0, .int (nI 0), .int (nI 0), .long 0, .int 0, .int 0])), (q_1, .inl (ck_2, 65536, .inl (fun _ => 0)))] := hD
  refine lv_aload_n hx hb d_Md_init_12 rfl (lv_at hl 0 rfl) ?_
  refine lv_ldc (v := 52650) hx hb hown (hz _ tw_467) d_Md_init_13 ?_
  refine va_newa (atype := .int) (ty := .int) (N' := 52650) (a0 := (52650, .inl (fun _ => 0))) hx hb (hz _ tw_83) rfl hK hP hD hS hA (fun _ => rfl) (by decide) (by decide) (by decide) (Nat.le_of_ble_eq_true rfl) (Nat.le_of_ble_eq_true rfl) d_Md_init_15 (fun q_3 ck_4 H hK hP hD hS => ?_)
  have hP : va_P (dC, dI) vwCl [(aM, .inr (4, [.int 0, .ref q_1, .int (nI 0), .null, .null, .int 0, .int 0, .int (nI 0), .int (nI 0), .long 0, .int 0, .int 0])), (q_1, .inl (ck_2, 65536, .inl (fun _ => 0))), (q_3, .inl (ck_4, 52650, .inl (fun _ => 0)))] H := hP
  have hD : va_D A [(aM, .inr (4, [.int 0, .ref q_1, .int (nI 0), .null, .null, .int 0, .int 0, .int (nI 0), .int (nI 0), .long 0, .int 0, .int 0])), (q_1, .inl (ck_2, 65536, .inl (fun _ => 0))), (q_3, .inl (ck_4, 52650, .inl (fun _ => 0)))] := hD
  have hK : va_K (dC, dI) vwCl [(ck_2, .byte), (ck_4, .int)] s := hK
  refine va_put (D := (dC, dI)) (ci := 4) (v := .ref q_3) (ty := .array .int) (C := R_Md) (T := F_Md) (N := 12) hx hb hz i_Md t_Md t_Md_ok n_Md hown hK hP hD hS 0 rfl rfl 3 (by decide) (hz _ tw_479) (fun _ h9 => h9) rfl (by decide +kernel) rfl rfl (Nat.le_of_ble_eq_true rfl) d_Md_init_17 (fun H locs hP hD hS => ?_)
  have hP : va_P (dC, dI) vwCl [(aM, .inr (4, [.int 0, .ref q_1, .int (nI 0), .ref q_3, .null, .int 0, .int 0, .int (nI 0), .int (nI 0), .long 0, .int 0, .int 0])), (q_1, .inl (ck_2, 65536, .inl (fun _ => 0))), (q_3, .inl (ck_4, 52650, .inl (fun _ => 0)))] H := hP
  have hD : va_D A [(aM, .inr (4, [.int 0, .ref q_1, .int (nI 0), .ref q_3, .null, .int 0, .int 0, .int (nI 0), .int (nI 0), .long 0, .int 0, .int 0])), (q_1, .inl (ck_2, 65536, .inl (fun _ => 0))), (q_3, .inl (ck_4, 52650, .inl (fun _ => 0)))] := hD
  refine lv_aload_n hx hb d_Md_init_20 rfl (lv_at hl 0 rfl) ?_
  refine lv_ldc (v := 52650) hx hb hown (hz _ tw_467) d_Md_init_21 ?_
  refine va_newa (atype := .int) (ty := .int) (N' := 52650) (a0 := (52650, .inl (fun _ => 0))) hx hb (hz _ tw_83) rfl hK hP hD hS hA (fun _ => rfl) (by decide) (by decide) (by decide) (Nat.le_of_ble_eq_true rfl) (Nat.le_of_ble_eq_true rfl) d_Md_init_23 (fun q_5 ck_6 H hK hP hD hS => ?_)
  have hP : va_P (dC, dI) vwCl [(aM, .inr (4, [.int 0, .ref q_1, .int (nI 0), .ref q_3, .null, .int 0, .int 0, .int (nI 0), .int (nI 0), .long 0, .int 0, .int 0])), (q_1, .inl (ck_2, 65536, .inl (fun _ => 0))), (q_3, .inl (ck_4, 52650, .inl (fun _ => 0))), (q_5, .inl (ck_6, 52650, .inl (fun _ => 0)))] H := hP
  have hD : va_D A [(aM, .inr (4, [.int 0, .ref q_1, .int (nI 0), .ref q_3, .null, .int 0, .int 0, .int (nI 0), .int (nI 0), .long 0, .int 0, .int 0])), (q_1, .inl (ck_2, 65536, .inl (fun _ => 0))), (q_3, .inl (ck_4, 52650, .inl (fun _ => 0))), (q_5, .inl (ck_6, 52650, .inl (fun _ => 0)))] := hD
  have hK : va_K (dC, dI) vwCl [(ck_2, .byte), (ck_4, .int), (ck_6, .int)] s := hK
  refine va_put (D := (dC, dI)) (ci := 4) (v := .ref q_5) (ty := .array .int) (C := R_Md) (T := F_Md) (N := 12) hx hb hz i_Md t_Md t_Md_ok n_Md hown hK hP hD hS 0 rfl rfl 4 (by decide) (hz _ tw_480) (fun _ h9 => h9) rfl (by decide +kernel) rfl rfl (Nat.le_of_ble_eq_true rfl) d_Md_init_25 (fun H locs hP hD hS => ?_)
  have hP : va_P (dC, dI) vwCl [(aM, .inr (4, [.int 0, .ref q_1, .int (nI 0), .ref q_3, .ref q_5, .int 0, .int 0, .int (nI 0), .int (nI 0), .long 0, .int 0, .int 0])), (q_1, .inl (ck_2, 65536, .inl (fun _ => 0))), (q_3, .inl (ck_4, 52650, .inl (fun _ => 0))), (q_5, .inl (ck_6, 52650, .inl (fun _ => 0)))] H := hP
  have hD : va_D A [(aM, .inr (4, [.int 0, .ref q_1, .int (nI 0), .ref q_3, .ref q_5, .int 0, .int 0, .int (nI 0), .int (nI 0), .long 0, .int 0, .int 0])), (q_1, .inl (ck_2, 65536, .inl (fun _ => 0))), (q_3, .inl (ck_4, 52650, .inl (fun _ => 0))), (q_5, .inl (ck_6, 52650, .inl (fun _ => 0)))] := hD
  refine lv_aload_n hx hb d_Md_init_28 rfl (lv_at hl 0 rfl) ?_
  have hPc := hP.sub (ws' := [(aM, .inr (4, [.int 0, .ref q_1, .int (nI 0), .ref q_3, .ref q_5, .int 0, .int 0, .int (nI 0), .int (nI 0), .long 0, .int 0, .int 0])), (q_5, .inl (ck_6, 52650, .inl (fun _ => 0)))]) [0, 3] rfl
  have hDc := hD.sub (ws' := [(aM, .inr (4, [.int 0, .ref q_1, .int (nI 0), .ref q_3, .ref q_5, .int 0, .int 0, .int (nI 0), .int (nI 0), .long 0, .int 0, .int 0])), (q_5, .inl (ck_6, 52650, .inl (fun _ => 0)))]) [0, 3] (by decide) rfl
  have hKc := hK.sub (tys' := [(ck_6, .int)]) [2] rfl
  have hFc := va_free (wc := [(aM, .inr (4, [.int 0, .ref q_1, .int (nI 0), .ref q_3, .ref q_5, .int 0, .int 0, .int (nI 0), .int (nI 0), .long 0, .int 0, .int 0])), (q_5, .inl (ck_6, 52650, .inl (fun _ => 0)))]) hD hS hA [0, 3] rfl
  refine va_callv (va_runV (As := []) (rest := []) ⟨hx, hb, hml, hown, hts⟩ (c_Md_nothing l G dC dI H.size aM 0 q_1 0 q_3 q_5 0 0 0 0 0 0 0 ck_6 (fun _ => 0)) (cwV 0 hts (gV tw_468 tw_470 ts_18 tw_5 tw_471 rfl) rfl rfl rfl (by decide +kernel) ⟨Nat.le_of_ble_eq_true rfl, Nat.le_of_ble_eq_true rfl⟩) (PW_preV hPc hKc hDc hE hS hFc (ci := 4) (q0 := 0) rfl rfl) rfl rfl hl.1 rfl (lv_room (Nat.le_of_ble_eq_true rfl)) d_Md_init_29 ⟨Nat.le_of_ble_eq_true rfl, Nat.le_of_ble_eq_true rfl⟩) hS (fun q _ h => hFc q h) hFc (fun uu t H1 locs ht hvm hw_9 hB hz1 hk1 hS => ?_)
  obtain ⟨nx_8, rfl⟩ : ∃ z, z = uu := ⟨_, rfl⟩
  obtain ⟨hP1, hD1, hsz1⟩ := hB
  rw [ht] at hP1 hsz1
  obtain ⟨hP, hD⟩ := va_join (wr := [(q_1, .inl (ck_2, 65536, .inl (fun _ => 0))), (q_3, .inl (ck_4, 52650, .inl (fun _ => 0)))]) (w1 := [(aM, .inr (4, [.int 0, .ref q_1, .int (nI 0), .ref q_3, .ref q_5, .int 0, .int 0, .int (nI 0), .int (nI 0), .long 0, .int 0, .int 0])), (q_5, .inl (ck_6, 52650, .inl nx_8))]) hP hD [0, 3] [1, 2] rfl rfl (by decide) (by decide) hk1 hFc hP1 hD1
  generalize H1 = H at hP hS ⊢
  have hP : va_P (dC, dI) vwCl [(q_1, .inl (ck_2, 65536, .inl (fun _ => 0))), (q_3, .inl (ck_4, 52650, .inl (fun _ => 0))), (aM, .inr (4, [.int 0, .ref q_1, .int (nI 0), .ref q_3, .ref q_5, .int 0, .int 0, .int (nI 0), .int (nI 0), .long 0, .int 0, .int 0])), (q_5, .inl (ck_6, 52650, .inl nx_8))] H := hP
  have hD : va_D A [(q_1, .inl (ck_2, 65536, .inl (fun _ => 0))), (q_3, .inl (ck_4, 52650, .inl (fun _ => 0))), (aM, .inr (4, [.int 0, .ref q_1, .int (nI 0), .ref q_3, .ref q_5, .int 0, .int 0, .int (nI 0), .int (nI 0), .long 0, .int 0, .int 0])), (q_5, .inl (ck_6, 52650, .inl nx_8))] := hD
  have e1 := hw_9.symm; subst e1
  refine lv_aload_n hx hb d_Md_init_32 rfl (lv_at hl 0 rfl) ?_
  refine va_get (D := (dC, dI)) (ci := 4) (v := .ref q_3) (C := R_Md) (T := F_Md) (N := 12) hx hb hz i_Md hown hK hP 2 rfl rfl 3 (by decide) (hz _ tw_479) (fun _ h9 => h9) rfl d_Md_init_33 ?_
  refine lv_astore_n (lv' := [(1, .ref q_3), (0, .ref aM)]) hx hb d_Md_init_36 rfl hl (by decide) rfl (fun ls hl => ?_)
  refine lv_aload_n hx hb d_Md_init_37 rfl (lv_at hl 1 rfl) ?_
  refine lv_aload_n hx hb d_Md_init_38 rfl (lv_at hl 1 rfl) ?_
  refine va_get (D := (dC, dI)) (ci := 4) (v := .ref q_5) (C := R_Md) (T := F_Md) (N := 12) hx hb hz i_Md hown hK hP 2 rfl rfl 4 (by decide) (hz _ tw_480) (fun _ h9 => h9) rfl d_Md_init_39 ?_
  refine va_put (D := (dC, dI)) (ci := 4) (v := .ref q_5) (ty := .array .int) (C := R_Md) (T := F_Md) (N := 12) hx hb hz i_Md t_Md t_Md_ok n_Md hown hK hP hD hS 2 rfl rfl 3 (by decide) (hz _ tw_479) (fun _ h9 => h9) rfl (by decide +kernel) rfl rfl (Nat.le_of_ble_eq_true rfl) d_Md_init_42 (fun H locs hP hD hS => ?_)
  have hP : va_P (dC, dI) vwCl [(q_1, .inl (ck_2, 65536, .inl (fun _ => 0))), (q_3, .inl (ck_4, 52650, .inl (fun _ => 0))), (aM, .inr (4, [.int 0, .ref q_1, .int (nI 0), .ref q_5, .ref q_5, .int 0, .int 0, .int (nI 0), .int (nI 0), .long 0, .int 0, .int 0])), (q_5, .inl (ck_6, 52650, .inl (zN (fun _ => 0))))] H := hP
  have hD : va_D A [(q_1, .inl (ck_2, 65536, .inl (fun _ => 0))), (q_3, .inl (ck_4, 52650, .inl (fun _ => 0))), (aM, .inr (4, [.int 0, .ref q_1, .int (nI 0), .ref q_5, .ref q_5, .int 0, .int 0, .int (nI 0), .int (nI 0), .long 0, .int 0, .int 0])), (q_5, .inl (ck_6, 52650, .inl (zN (fun _ => 0))))] := hD
  refine lv_aload_n hx hb d_Md_init_45 rfl (lv_at hl 1 rfl) ?_
  refine lv_aload_n hx hb d_Md_init_46 rfl (lv_at hl 0 rfl) ?_
  refine va_put (D := (dC, dI)) (ci := 4) (v := .ref q_3) (ty := .array .int) (C := R_Md) (T := F_Md) (N := 12) hx hb hz i_Md t_Md t_Md_ok n_Md hown hK hP hD hS 2 rfl rfl 4 (by decide) (hz _ tw_480) (fun _ h9 => h9) rfl (by decide +kernel) rfl rfl (Nat.le_of_ble_eq_true rfl) d_Md_init_47 (fun H locs hP hD hS => ?_)
  have hP : va_P (dC, dI) vwCl [(q_1, .inl (ck_2, 65536, .inl (fun _ => 0))), (q_3, .inl (ck_4, 52650, .inl (fun _ => 0))), (aM, .inr (4, [.int 0, .ref q_1, .int (nI 0), .ref q_5, .ref q_3, .int 0, .int 0, .int (nI 0), .int (nI 0), .long 0, .int 0, .int 0])), (q_5, .inl (ck_6, 52650, .inl (zN (fun _ => 0))))] H := hP
  have hD : va_D A [(q_1, .inl (ck_2, 65536, .inl (fun _ => 0))), (q_3, .inl (ck_4, 52650, .inl (fun _ => 0))), (aM, .inr (4, [.int 0, .ref q_1, .int (nI 0), .ref q_5, .ref q_3, .int 0, .int 0, .int (nI 0), .int (nI 0), .long 0, .int 0, .int 0])), (q_5, .inl (ck_6, 52650, .inl (zN (fun _ => 0))))] := hD
  have hP9 := hP.sub (ws' := [(aM, .inr (4, [.int 0, .ref q_1, .int (nI 0), .ref q_5, .ref q_3, .int 0, .int 0, .int (nI 0), .int (nI 0), .long 0, .int 0, .int 0])), (q_1, .inl (ck_2, 65536, .inl (fun _ => 0))), (q_3, .inl (ck_4, 52650, .inl (fun _ => 0))), (q_5, .inl (ck_6, 52650, .inl (zN (fun _ => 0))))]) [2, 0, 1, 3] rfl
  have hD9 := hD.sub (ws' := [(aM, .inr (4, [.int 0, .ref q_1, .int (nI 0), .ref q_5, .ref q_3, .int 0, .int 0, .int (nI 0), .int (nI 0), .long 0, .int 0, .int 0])), (q_1, .inl (ck_2, 65536, .inl (fun _ => 0))), (q_3, .inl (ck_4, 52650, .inl (fun _ => 0))), (q_5, .inl (ck_6, 52650, .inl (zN (fun _ => 0))))]) [2, 0, 1, 3] (by decide) rfl
  have hK9 := hK.sub (tys' := [(ck_2, .byte), (ck_4, .int), (ck_6, .int)]) [0, 1, 2] rfl
  refine W.widen (k := 3) (n := 170836) (Nat.le_of_ble_eq_true rfl) (Nat.le_of_ble_eq_true rfl) ?_
  exact W.vret hx hb hr (fun t ht hW => ⟨⟨(q_1, ck_2, q_3, ck_4, q_5, ck_6), rfl, trivial, by rw [ht]; exact hP9, hD9, va_K.moved hW.alike hK9⟩, hS.F ht⟩) hS.2.2 d_Md_init_50
