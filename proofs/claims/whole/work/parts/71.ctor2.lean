set_option maxHeartbeats 4000000 in
set_option maxRecDepth 100000 in
theorem c_Rd_init (l : Launch) (G : ZG) (dC : Nat → ClassId) (dI : Nat → Nat → Nat) (sz : Nat) (aR : Nat) : Met l y_Rd_init w_Rd_init ({ frames := 2, cells := 5, slots := 117585, locals := 41 }) (va_Pc [.ref aR] (PW G (dC, dI) [] [(aR, .inr (0, [.null, .null]))] sz)) (va_Qv (fun (uu : Nat × Nat × ClassId × Nat × Nat × ClassId × Nat × ClassId) => True) (fun (uu : Nat × Nat × ClassId × Nat × Nat × ClassId × Nat × ClassId) t => va_P (dC, dI) vwCl [(aR, .inr (0, [.ref uu.1, .ref uu.2.2.2.1])), (uu.1, .inr (2, [.ref uu.2.1, .int (nI 0), .int (nI 0), .int (nI 0), .int 0, .int 0, .int 0])), (uu.2.1, .inl (uu.2.2.1, 65536, .inl (fun _ => 0))), (uu.2.2.2.1, .inr (1, [.ref uu.2.2.2.2.1, .ref uu.2.2.2.2.2.2.1])), (uu.2.2.2.2.1, .inl (uu.2.2.2.2.2.1, 5, .inl (fun j => nI ((zC0 (fun _ => 0)) j)))), (uu.2.2.2.2.2.2.1, .inl (uu.2.2.2.2.2.2.2, 52035, .inl (zV0 (fun _ => 0))))] t.heap ∧ va_D (va_A [(aR, .inr (0, [.null, .null]))] sz) [(aR, .inr (0, [.ref uu.1, .ref uu.2.2.2.1])), (uu.1, .inr (2, [.ref uu.2.1, .int (nI 0), .int (nI 0), .int (nI 0), .int 0, .int 0, .int 0])), (uu.2.1, .inl (uu.2.2.1, 65536, .inl (fun _ => 0))), (uu.2.2.2.1, .inr (1, [.ref uu.2.2.2.2.1, .ref uu.2.2.2.2.2.2.1])), (uu.2.2.2.2.1, .inl (uu.2.2.2.2.2.1, 5, .inl (fun j => nI ((zC0 (fun _ => 0)) j)))), (uu.2.2.2.2.2.2.1, .inl (uu.2.2.2.2.2.2.2, 52035, .inl (zV0 (fun _ => 0))))] ∧ va_K (dC, dI) vwCl [(uu.2.2.1, .byte), (uu.2.2.2.2.2.1, .int), (uu.2.2.2.2.2.2.2, .int)] t) (va_A [(aR, .inr (0, [.null, .null]))] sz)) 5 117585 (va_A [(aR, .inr (0, [.null, .null]))] sz) := by
  refine Met.ofW (cc := prog_2_method_1_code) (maxL := 1) (ret := none) (by decide) rfl ?_
  intro p e s m args below meth c s₁ Bd hml hv
  obtain ⟨rfl, hsz, hP, hK, hD0, hE⟩ := hv
  have hx := Bd.exec
  have hb := Bd.bytes
  have hr := Bd.returns
  have hts := atoms_spec (ws := w_Rd_init) Bd.pre
  have hown : s.vm.findClass R_Rd = some m.cls := findClass_of_methodNamed Bd.named
  have hlocks := Bd.notSynchronized
  have hz : ∀ w ∈ ZW, w.before _ s = true := fun w h => hts w (List.mem_cons_of_mem _ h)
  subst hsz
  have hD := hD0.self (sz := s.heap.size)
  generalize hAe : va_A [(aR, .inr (0, [.null, .null]))] s.heap.size = A at hD hE ⊢
  have hA : ∀ q : Nat, s.heap.size ≤ q → A q := fun q h => by rw [← hAe]; exact Or.inr h
  have hS : va_S A s.heap s.heap [] := va_S.rf
  have hl := lv_entry ([.ref aR]) (n := 1) (Nat.le_of_ble_eq_true rfl)
  rw [lg_entry_eq]
  generalize (lg_sl ([.ref aR]) ++ List.replicate (1 - (lg_sl ([.ref aR])).length) Slot.unset).toArray = ls at hl ⊢
  have hl : lv_has ls 1 [(0, .ref aR)] := hl
  obtain ⟨H, hH⟩ : ∃ z, z = s.heap := ⟨_, rfl⟩
  have hP : va_P (dC, dI) vwCl [(aR, .inr (0, [.null, .null]))] H := by rw [hH]; exact hP
  have hS : va_S A s.heap H [] := by rw [hH]; exact hS
  refine zt_heap hH ?_
  have hin : meth.name = "<init>" := (name_of_methodNamed Bd.named Bd.method).1
  refine lv_aload_n hx hb d_Rd_init_0 rfl (lv_at hl 0 rfl) ?_
  refine W.objInit hx hb hown (hz _ tw_27) (hz _ tw_20) (hz _ tw_21) rfl (by rw [hml]; exact hl.1) rfl d_Rd_init_1 (Nat.le_of_ble_eq_true rfl) (Nat.le_of_ble_eq_true rfl) ?_
  refine W.eq (g2 := F0 m 4 ls []) rfl ?_
  refine lv_aload_n hx hb d_Rd_init_4 rfl (lv_at hl 0 rfl) ?_
  refine va_new (ci := 2) (fs := [.null, .int (nI 0), .int (nI 0), .int (nI 0), .int 0, .int 0, .int 0]) (C := R_Tp) (T := F_Tp) (N := 7) hx hb hz i_Tp t_Tp t_Tp_ok hown (hz _ tw_28) (hz _ tw_29) (hz _ tw_3) hK hP hD hS hA rfl (fun j hj => by rcases (show j = 0 ∨ j = 1 ∨ j = 2 ∨ j = 3 ∨ j = 4 ∨ j = 5 ∨ j = 6 by omega) with rfl | rfl | rfl | rfl | rfl | rfl | rfl <;> rfl) (Nat.le_of_ble_eq_true rfl) (Nat.le_of_ble_eq_true rfl) d_Rd_init_5 (fun q_1 H hP hD hS => ?_)
  have hP : va_P (dC, dI) vwCl [(aR, .inr (0, [.null, .null])), (q_1, .inr (2, [.null, .int (nI 0), .int (nI 0), .int (nI 0), .int 0, .int 0, .int 0]))] H := hP
  have hD : va_D A [(aR, .inr (0, [.null, .null])), (q_1, .inr (2, [.null, .int (nI 0), .int (nI 0), .int (nI 0), .int 0, .int 0, .int 0]))] := hD
  refine lv_dup hx hb d_Rd_init_8 rfl ?_
  have hPc := hP.sub (ws' := [(q_1, .inr (2, [.null, .int (nI 0), .int (nI 0), .int (nI 0), .int 0, .int 0, .int 0]))]) [1] rfl
  have hDc := hD.sub (ws' := [(q_1, .inr (2, [.null, .int (nI 0), .int (nI 0), .int (nI 0), .int 0, .int 0, .int 0]))]) [1] (by decide) rfl
  have hKc := hK.sub (tys' := []) [] rfl
  have hFc := va_free (wc := [(q_1, .inr (2, [.null, .int (nI 0), .int (nI 0), .int (nI 0), .int 0, .int 0, .int 0]))]) hD hS hA [1] rfl
  refine va_callv (va_runIN (As := []) (rest := [.ref q_1, .ref aR]) ⟨hx, hb, hml, hown, hts⟩ (c_Tp_init l G dC dI H.size q_1) ⟨va_cnB 0 hts (gI tw_32) rfl rfl rfl (hE.1 _ (List.mem_of_getElem? (i := 1) rfl)) (hz _ tw_3) (by decide +kernel) ⟨Nat.le_of_ble_eq_true rfl, Nat.le_of_ble_eq_true rfl⟩, rfl, hz _ tw_31⟩ (PW_preS hPc hKc hDc hE hS hFc) rfl rfl hl.1 rfl (lv_room (Nat.le_of_ble_eq_true rfl)) d_Rd_init_9 ⟨Nat.le_of_ble_eq_true rfl, Nat.le_of_ble_eq_true rfl⟩) hS (fun q _ h => hFc q h) hFc (fun uu t H1 locs ht hvm hw hB hz1 hk1 hS => ?_)
  obtain ⟨aB_2, kB_3⟩ := uu
  obtain ⟨hP1, hD1, hK1⟩ := hB
  rw [ht] at hP1
  have hK1 := va_K.moved hvm.symm hK1
  obtain ⟨hP, hD⟩ := va_join (wr := [(aR, .inr (0, [.null, .null]))]) (w1 := [(q_1, .inr (2, [.ref aB_2, .int (nI 0), .int (nI 0), .int (nI 0), .int 0, .int 0, .int 0])), (aB_2, .inl (kB_3, 65536, .inl (fun _ => 0)))]) hP hD [1] [0] rfl rfl (by decide) (by decide) hk1 hFc hP1 hD1
  have hK := (hK.sub (tys' := []) [] rfl).app hK1
  generalize H1 = H at hP hS ⊢
  have hP : va_P (dC, dI) vwCl [(aR, .inr (0, [.null, .null])), (q_1, .inr (2, [.ref aB_2, .int (nI 0), .int (nI 0), .int (nI 0), .int 0, .int 0, .int 0])), (aB_2, .inl (kB_3, 65536, .inl (fun _ => 0)))] H := hP
  have hD : va_D A [(aR, .inr (0, [.null, .null])), (q_1, .inr (2, [.ref aB_2, .int (nI 0), .int (nI 0), .int (nI 0), .int 0, .int 0, .int 0])), (aB_2, .inl (kB_3, 65536, .inl (fun _ => 0)))] := hD
  have hK : va_K (dC, dI) vwCl [(kB_3, .byte)] s := hK
  refine va_putF (D := (dC, dI)) (ci := 0) (v := .ref q_1) (ty := .object "SceneText$Tape") (C := R_Rd) (T := F_Rd) (N := 2) hx hb hz i_Rd t_Rd t_Rd_ok n_Rd hown hK hP hD hS 0 rfl rfl 0 (by decide) (hz _ tw_84) (fun _ h9 => h9) rfl hin rfl (by decide +kernel) rfl rfl (Nat.le_of_ble_eq_true rfl) d_Rd_init_12 (fun H locs hP hD hS => ?_)
  have hP : va_P (dC, dI) vwCl [(aR, .inr (0, [.ref q_1, .null])), (q_1, .inr (2, [.ref aB_2, .int (nI 0), .int (nI 0), .int (nI 0), .int 0, .int 0, .int 0])), (aB_2, .inl (kB_3, 65536, .inl (fun _ => 0)))] H := hP
  have hD : va_D A [(aR, .inr (0, [.ref q_1, .null])), (q_1, .inr (2, [.ref aB_2, .int (nI 0), .int (nI 0), .int (nI 0), .int 0, .int 0, .int 0])), (aB_2, .inl (kB_3, 65536, .inl (fun _ => 0)))] := hD
  refine lv_aload_n hx hb d_Rd_init_15 rfl (lv_at hl 0 rfl) ?_
  refine va_new (ci := 1) (fs := [.null, .null]) (C := R_Sc) (T := F_Sc) (N := 2) hx hb hz i_Sc t_Sc t_Sc_ok hown (hz _ tw_63) (hz _ tw_64) (hz _ tw_4) hK hP hD hS hA rfl (fun j hj => by rcases (show j = 0 ∨ j = 1 by omega) with rfl | rfl <;> rfl) (Nat.le_of_ble_eq_true rfl) (Nat.le_of_ble_eq_true rfl) d_Rd_init_16 (fun q_4 H hP hD hS => ?_)
  have hP : va_P (dC, dI) vwCl [(aR, .inr (0, [.ref q_1, .null])), (q_1, .inr (2, [.ref aB_2, .int (nI 0), .int (nI 0), .int (nI 0), .int 0, .int 0, .int 0])), (aB_2, .inl (kB_3, 65536, .inl (fun _ => 0))), (q_4, .inr (1, [.null, .null]))] H := hP
  have hD : va_D A [(aR, .inr (0, [.ref q_1, .null])), (q_1, .inr (2, [.ref aB_2, .int (nI 0), .int (nI 0), .int (nI 0), .int 0, .int 0, .int 0])), (aB_2, .inl (kB_3, 65536, .inl (fun _ => 0))), (q_4, .inr (1, [.null, .null]))] := hD
  refine lv_dup hx hb d_Rd_init_19 rfl ?_
  have hPc := hP.sub (ws' := [(q_4, .inr (1, [.null, .null]))]) [3] rfl
  have hDc := hD.sub (ws' := [(q_4, .inr (1, [.null, .null]))]) [3] (by decide) rfl
  have hKc := hK.sub (tys' := []) [] rfl
  have hFc := va_free (wc := [(q_4, .inr (1, [.null, .null]))]) hD hS hA [3] rfl
  refine va_callv (va_runI (As := []) (rest := [.ref q_4, .ref aR]) ⟨hx, hb, hml, hown, hts⟩ (c_Sc_init l G dC dI H.size q_4) (cwI 0 hts (gI tw_67) rfl rfl rfl (hz _ tw_4) (hz _ tw_65) (hz _ tw_66) rfl (by decide +kernel) ⟨Nat.le_of_ble_eq_true rfl, Nat.le_of_ble_eq_true rfl⟩) (PW_preS hPc hKc hDc hE hS hFc) rfl rfl hl.1 rfl (lv_room (Nat.le_of_ble_eq_true rfl)) d_Rd_init_20 ⟨Nat.le_of_ble_eq_true rfl, Nat.le_of_ble_eq_true rfl⟩) hS (fun q _ h => hFc q h) hFc (fun uu t H1 locs ht hvm hw hB hz1 hk1 hS => ?_)
  obtain ⟨aN_5, kN_6, aC_7, kC_8⟩ := uu
  obtain ⟨hP1, hD1, hK1⟩ := hB
  rw [ht] at hP1
  have hK1 := va_K.moved hvm.symm hK1
  obtain ⟨hP, hD⟩ := va_join (wr := [(aR, .inr (0, [.ref q_1, .null])), (q_1, .inr (2, [.ref aB_2, .int (nI 0), .int (nI 0), .int (nI 0), .int 0, .int 0, .int 0])), (aB_2, .inl (kB_3, 65536, .inl (fun _ => 0)))]) (w1 := [(q_4, .inr (1, [.ref aN_5, .ref aC_7])), (aN_5, .inl (kN_6, 5, .inl (fun j => nI ((zC0 (fun _ => 0)) j)))), (aC_7, .inl (kC_8, 52035, .inl (zV0 (fun _ => 0))))]) hP hD [3] [0, 1, 2] rfl rfl (by decide) (by decide) hk1 hFc hP1 hD1
  have hK := (hK.sub (tys' := [(kB_3, .byte)]) [0] rfl).app hK1
  generalize H1 = H at hP hS ⊢
  have hP : va_P (dC, dI) vwCl [(aR, .inr (0, [.ref q_1, .null])), (q_1, .inr (2, [.ref aB_2, .int (nI 0), .int (nI 0), .int (nI 0), .int 0, .int 0, .int 0])), (aB_2, .inl (kB_3, 65536, .inl (fun _ => 0))), (q_4, .inr (1, [.ref aN_5, .ref aC_7])), (aN_5, .inl (kN_6, 5, .inl (fun j => nI ((zC0 (fun _ => 0)) j)))), (aC_7, .inl (kC_8, 52035, .inl (zV0 (fun _ => 0))))] H := hP
  have hD : va_D A [(aR, .inr (0, [.ref q_1, .null])), (q_1, .inr (2, [.ref aB_2, .int (nI 0), .int (nI 0), .int (nI 0), .int 0, .int 0, .int 0])), (aB_2, .inl (kB_3, 65536, .inl (fun _ => 0))), (q_4, .inr (1, [.ref aN_5, .ref aC_7])), (aN_5, .inl (kN_6, 5, .inl (fun j => nI ((zC0 (fun _ => 0)) j)))), (aC_7, .inl (kC_8, 52035, .inl (zV0 (fun _ => 0))))] := hD
  have hK : va_K (dC, dI) vwCl [(kB_3, .byte), (kN_6, .int), (kC_8, .int)] s := hK
  refine va_put (D := (dC, dI)) (ci := 0) (v := .ref q_4) (ty := .object "SceneText$Scene") (C := R_Rd) (T := F_Rd) (N := 2) hx hb hz i_Rd t_Rd t_Rd_ok n_Rd hown hK hP hD hS 0 rfl rfl 1 (by decide) (hz _ tw_86) (fun _ h9 => h9) rfl (by decide +kernel) rfl rfl (Nat.le_of_ble_eq_true rfl) d_Rd_init_23 (fun H locs hP hD hS => ?_)
  have hP : va_P (dC, dI) vwCl [(aR, .inr (0, [.ref q_1, .ref q_4])), (q_1, .inr (2, [.ref aB_2, .int (nI 0), .int (nI 0), .int (nI 0), .int 0, .int 0, .int 0])), (aB_2, .inl (kB_3, 65536, .inl (fun _ => 0))), (q_4, .inr (1, [.ref aN_5, .ref aC_7])), (aN_5, .inl (kN_6, 5, .inl (fun j => nI ((zC0 (fun _ => 0)) j)))), (aC_7, .inl (kC_8, 52035, .inl (zV0 (fun _ => 0))))] H := hP
  have hD : va_D A [(aR, .inr (0, [.ref q_1, .ref q_4])), (q_1, .inr (2, [.ref aB_2, .int (nI 0), .int (nI 0), .int (nI 0), .int 0, .int 0, .int 0])), (aB_2, .inl (kB_3, 65536, .inl (fun _ => 0))), (q_4, .inr (1, [.ref aN_5, .ref aC_7])), (aN_5, .inl (kN_6, 5, .inl (fun j => nI ((zC0 (fun _ => 0)) j)))), (aC_7, .inl (kC_8, 52035, .inl (zV0 (fun _ => 0))))] := hD
  have hP9 := hP.sub (ws' := [(aR, .inr (0, [.ref q_1, .ref q_4])), (q_1, .inr (2, [.ref aB_2, .int (nI 0), .int (nI 0), .int (nI 0), .int 0, .int 0, .int 0])), (aB_2, .inl (kB_3, 65536, .inl (fun _ => 0))), (q_4, .inr (1, [.ref aN_5, .ref aC_7])), (aN_5, .inl (kN_6, 5, .inl (fun j => nI ((zC0 (fun _ => 0)) j)))), (aC_7, .inl (kC_8, 52035, .inl (zV0 (fun _ => 0))))]) [0, 1, 2, 3, 4, 5] rfl
  have hD9 := hD.sub (ws' := [(aR, .inr (0, [.ref q_1, .ref q_4])), (q_1, .inr (2, [.ref aB_2, .int (nI 0), .int (nI 0), .int (nI 0), .int 0, .int 0, .int 0])), (aB_2, .inl (kB_3, 65536, .inl (fun _ => 0))), (q_4, .inr (1, [.ref aN_5, .ref aC_7])), (aN_5, .inl (kN_6, 5, .inl (fun j => nI ((zC0 (fun _ => 0)) j)))), (aC_7, .inl (kC_8, 52035, .inl (zV0 (fun _ => 0))))]) [0, 1, 2, 3, 4, 5] (by decide) rfl
  have hK9 := hK.sub (tys' := [(kB_3, .byte), (kN_6, .int), (kC_8, .int)]) [0, 1, 2] rfl
  refine W.widen (k := 5) (n := 117585) (Nat.le_of_ble_eq_true rfl) (Nat.le_of_ble_eq_true rfl) ?_
  exact W.vret hx hb hr (fun t ht hW => ⟨⟨(q_1, aB_2, kB_3, q_4, aN_5, kN_6, aC_7, kC_8), rfl, trivial, by rw [ht]; exact hP9, hD9, va_K.moved hW.alike hK9⟩, hS.F ht⟩) hS.2.2 d_Rd_init_26
set_option maxHeartbeats 4000000 in
set_option maxRecDepth 100000 in
theorem c_St_init (l : Launch) (G : ZG) (dC : Nat → ClassId) (dI : Nat → Nat → Nat) (sz : Nat) (aX : Nat) : Met l y_St_init w_St_init ({ frames := 3, cells := 9, slots := 169629, locals := 61 }) (va_Pc [.ref aX] (PW G (dC, dI) [] [(aX, .inr (3, [.null, .null]))] sz)) (va_Qv (fun (uu : Nat × Nat × Nat × ClassId × Nat × Nat × ClassId × Nat × ClassId × Nat × Nat × ClassId × Nat × ClassId) => True) (fun (uu : Nat × Nat × Nat × ClassId × Nat × Nat × ClassId × Nat × ClassId × Nat × Nat × ClassId × Nat × ClassId) t => va_P (dC, dI) vwCl [(aX, .inr (3, [.ref uu.1, .ref uu.2.2.2.2.2.2.2.2.2.1])), (uu.1, .inr (0, [.ref uu.2.1, .ref uu.2.2.2.2.1])), (uu.2.1, .inr (2, [.ref uu.2.2.1, .int (nI 0), .int (nI 0), .int (nI 0), .int 0, .int 0, .int 0])), (uu.2.2.1, .inl (uu.2.2.2.1, 65536, .inl (fun _ => 0))), (uu.2.2.2.2.1, .inr (1, [.ref uu.2.2.2.2.2.1, .ref uu.2.2.2.2.2.2.2.1])), (uu.2.2.2.2.2.1, .inl (uu.2.2.2.2.2.2.1, 5, .inl (fun j => nI ((zC0 (fun _ => 0)) j)))), (uu.2.2.2.2.2.2.2.1, .inl (uu.2.2.2.2.2.2.2.2.1, 52035, .inl (zV0 (fun _ => 0)))), (uu.2.2.2.2.2.2.2.2.2.1, .inr (1, [.ref uu.2.2.2.2.2.2.2.2.2.2.1, .ref uu.2.2.2.2.2.2.2.2.2.2.2.2.1])), (uu.2.2.2.2.2.2.2.2.2.2.1, .inl (uu.2.2.2.2.2.2.2.2.2.2.2.1, 5, .inl (fun j => nI ((zC0 (fun _ => 0)) j)))), (uu.2.2.2.2.2.2.2.2.2.2.2.2.1, .inl (uu.2.2.2.2.2.2.2.2.2.2.2.2.2, 52035, .inl (zV0 (fun _ => 0))))] t.heap ∧ va_D (va_A [(aX, .inr (3, [.null, .null]))] sz) [(aX, .inr (3, [.ref uu.1, .ref uu.2.2.2.2.2.2.2.2.2.1])), (uu.1, .inr (0, [.ref uu.2.1, .ref uu.2.2.2.2.1])), (uu.2.1, .inr (2, [.ref uu.2.2.1, .int (nI 0), .int (nI 0), .int (nI 0), .int 0, .int 0, .int 0])), (uu.2.2.1, .inl (uu.2.2.2.1, 65536, .inl (fun _ => 0))), (uu.2.2.2.2.1, .inr (1, [.ref uu.2.2.2.2.2.1, .ref uu.2.2.2.2.2.2.2.1])), (uu.2.2.2.2.2.1, .inl (uu.2.2.2.2.2.2.1, 5, .inl (fun j => nI ((zC0 (fun _ => 0)) j)))), (uu.2.2.2.2.2.2.2.1, .inl (uu.2.2.2.2.2.2.2.2.1, 52035, .inl (zV0 (fun _ => 0)))), (uu.2.2.2.2.2.2.2.2.2.1, .inr (1, [.ref uu.2.2.2.2.2.2.2.2.2.2.1, .ref uu.2.2.2.2.2.2.2.2.2.2.2.2.1])), (uu.2.2.2.2.2.2.2.2.2.2.1, .inl (uu.2.2.2.2.2.2.2.2.2.2.2.1, 5, .inl (fun j => nI ((zC0 (fun _ => 0)) j)))), (uu.2.2.2.2.2.2.2.2.2.2.2.2.1, .inl (uu.2.2.2.2.2.2.2.2.2.2.2.2.2, 52035, .inl (zV0 (fun _ => 0))))] ∧ va_K (dC, dI) vwCl [(uu.2.2.2.1, .byte), (uu.2.2.2.2.2.2.1, .int), (uu.2.2.2.2.2.2.2.2.1, .int), (uu.2.2.2.2.2.2.2.2.2.2.2.1, .int), (uu.2.2.2.2.2.2.2.2.2.2.2.2.2, .int)] t) (va_A [(aX, .inr (3, [.null, .null]))] sz)) 9 169629 (va_A [(aX, .inr (3, [.null, .null]))] sz) := by
  refine Met.ofW (cc := prog_1_method_1_code) (maxL := 1) (ret := none) (by decide) rfl ?_
  intro p e s m args below meth c s₁ Bd hml hv
  obtain ⟨rfl, hsz, hP, hK, hD0, hE⟩ := hv
  have hx := Bd.exec
  have hb := Bd.bytes
  have hr := Bd.returns
  have hts := atoms_spec (ws := w_St_init) Bd.pre
  have hown : s.vm.findClass R_St = some m.cls := findClass_of_methodNamed Bd.named
  have hlocks := Bd.notSynchronized
  have hz : ∀ w ∈ ZW, w.before _ s = true := fun w h => hts w (List.mem_cons_of_mem _ h)
  subst hsz
  have hD := hD0.self (sz := s.heap.size)
  generalize hAe : va_A [(aX, .inr (3, [.null, .null]))] s.heap.size = A at hD hE ⊢
  have hA : ∀ q : Nat, s.heap.size ≤ q → A q := fun q h => by rw [← hAe]; exact Or.inr h
  have hS : va_S A s.heap s.heap [] := va_S.rf
  have hl := lv_entry ([.ref aX]) (n := 1) (Nat.le_of_ble_eq_true rfl)
  rw [lg_entry_eq]
  generalize (lg_sl ([.ref aX]) ++ List.replicate (1 - (lg_sl ([.ref aX])).length) Slot.unset).toArray = ls at hl ⊢
  have hl : lv_has ls 1 [(0, .ref aX)] := hl
  obtain ⟨H, hH⟩ : ∃ z, z = s.heap := ⟨_, rfl⟩
  have hP : va_P (dC, dI) vwCl [(aX, .inr (3, [.null, .null]))] H := by rw [hH]; exact hP
  have hS : va_S A s.heap H [] := by rw [hH]; exact hS
  refine zt_heap hH ?_
  have hin : meth.name = "<init>" := (name_of_methodNamed Bd.named Bd.method).1
  refine lv_aload_n hx hb d_St_init_0 rfl (lv_at hl 0 rfl) ?_
  refine W.objInit hx hb hown (hz _ tw_19) (hz _ tw_20) (hz _ tw_21) rfl (by rw [hml]; exact hl.1) rfl d_St_init_1 (Nat.le_of_ble_eq_true rfl) (Nat.le_of_ble_eq_true rfl) ?_
  refine W.eq (g2 := F0 m 4 ls []) rfl ?_
  refine lv_aload_n hx hb d_St_init_4 rfl (lv_at hl 0 rfl) ?_
  refine va_new (ci := 0) (fs := [.null, .null]) (C := R_Rd) (T := F_Rd) (N := 2) hx hb hz i_Rd t_Rd t_Rd_ok hown (hz _ tw_22) (hz _ tw_23) (hz _ tw_2) hK hP hD hS hA rfl (fun j hj => by rcases (show j = 0 ∨ j = 1 by omega) with rfl | rfl <;> rfl) (Nat.le_of_ble_eq_true rfl) (Nat.le_of_ble_eq_true rfl) d_St_init_5 (fun q_1 H hP hD hS => ?_)
  have hP : va_P (dC, dI) vwCl [(aX, .inr (3, [.null, .null])), (q_1, .inr (0, [.null, .null]))] H := hP
  have hD : va_D A [(aX, .inr (3, [.null, .null])), (q_1, .inr (0, [.null, .null]))] := hD
  refine lv_dup hx hb d_St_init_8 rfl ?_
  have hPc := hP.sub (ws' := [(q_1, .inr (0, [.null, .null]))]) [1] rfl
  have hDc := hD.sub (ws' := [(q_1, .inr (0, [.null, .null]))]) [1] (by decide) rfl
  have hKc := hK.sub (tys' := []) [] rfl
  have hFc := va_free (wc := [(q_1, .inr (0, [.null, .null]))]) hD hS hA [1] rfl
  refine va_callv (va_runIN (As := []) (rest := [.ref q_1, .ref aX]) ⟨hx, hb, hml, hown, hts⟩ (c_Rd_init l G dC dI H.size q_1) ⟨va_cnB 0 hts (gI tw_26) rfl rfl rfl (hE.1 _ (List.mem_of_getElem? (i := 0) rfl)) (hz _ tw_2) (by decide +kernel) ⟨Nat.le_of_ble_eq_true rfl, Nat.le_of_ble_eq_true rfl⟩, rfl, hz _ tw_25⟩ (PW_preS hPc hKc hDc hE hS hFc) rfl rfl hl.1 rfl (lv_room (Nat.le_of_ble_eq_true rfl)) d_St_init_9 ⟨Nat.le_of_ble_eq_true rfl, Nat.le_of_ble_eq_true rfl⟩) hS (fun q _ h => hFc q h) hFc (fun uu t H1 locs ht hvm hw hB hz1 hk1 hS => ?_)
  obtain ⟨aT_2, aB_3, kB_4, aS_5, aN_6, kN_7, aC_8, kC_9⟩ := uu
  obtain ⟨hP1, hD1, hK1⟩ := hB
  rw [ht] at hP1
  have hK1 := va_K.moved hvm.symm hK1
  obtain ⟨hP, hD⟩ := va_join (wr := [(aX, .inr (3, [.null, .null]))]) (w1 := [(q_1, .inr (0, [.ref aT_2, .ref aS_5])), (aT_2, .inr (2, [.ref aB_3, .int (nI 0), .int (nI 0), .int (nI 0), .int 0, .int 0, .int 0])), (aB_3, .inl (kB_4, 65536, .inl (fun _ => 0))), (aS_5, .inr (1, [.ref aN_6, .ref aC_8])), (aN_6, .inl (kN_7, 5, .inl (fun j => nI ((zC0 (fun _ => 0)) j)))), (aC_8, .inl (kC_9, 52035, .inl (zV0 (fun _ => 0))))]) hP hD [1] [0] rfl rfl (by decide) (by decide) hk1 hFc hP1 hD1
  have hK := (hK.sub (tys' := []) [] rfl).app hK1
  generalize H1 = H at hP hS ⊢
  have hP : va_P (dC, dI) vwCl [(aX, .inr (3, [.null, .null])), (q_1, .inr (0, [.ref aT_2, .ref aS_5])), (aT_2, .inr (2, [.ref aB_3, .int (nI 0), .int (nI 0), .int (nI 0), .int 0, .int 0, .int 0])), (aB_3, .inl (kB_4, 65536, .inl (fun _ => 0))), (aS_5, .inr (1, [.ref aN_6, .ref aC_8])), (aN_6, .inl (kN_7, 5, .inl (fun j => nI ((zC0 (fun _ => 0)) j)))), (aC_8, .inl (kC_9, 52035, .inl (zV0 (fun _ => 0))))] H := hP
  have hD : va_D A [(aX, .inr (3, [.null, .null])), (q_1, .inr (0, [.ref aT_2, .ref aS_5])), (aT_2, .inr (2, [.ref aB_3, .int (nI 0), .int (nI 0), .int (nI 0), .int 0, .int 0, .int 0])), (aB_3, .inl (kB_4, 65536, .inl (fun _ => 0))), (aS_5, .inr (1, [.ref aN_6, .ref aC_8])), (aN_6, .inl (kN_7, 5, .inl (fun j => nI ((zC0 (fun _ => 0)) j)))), (aC_8, .inl (kC_9, 52035, .inl (zV0 (fun _ => 0))))] := hD
  have hK : va_K (dC, dI) vwCl [(kB_4, .byte), (kN_7, .int), (kC_9, .int)] s := hK
  refine va_putF (D := (dC, dI)) (ci := 3) (v := .ref q_1) (ty := .object "SceneText$Reader") (C := R_St) (T := F_St) (N := 2) hx hb hz i_St t_St t_St_ok n_St hown hK hP hD hS 0 rfl rfl 0 (by decide) (hz _ tw_94) (fun _ h9 => h9) rfl hin rfl (by decide +kernel) rfl rfl (Nat.le_of_ble_eq_true rfl) d_St_init_12 (fun H locs hP hD hS => ?_)
  have hP : va_P (dC, dI) vwCl [(aX, .inr (3, [.ref q_1, .null])), (q_1, .inr (0, [.ref aT_2, .ref aS_5])), (aT_2, .inr (2, [.ref aB_3, .int (nI 0), .int (nI 0), .int (nI 0), .int 0, .int 0, .int 0])), (aB_3, .inl (kB_4, 65536, .inl (fun _ => 0))), (aS_5, .inr (1, [.ref aN_6, .ref aC_8])), (aN_6, .inl (kN_7, 5, .inl (fun j => nI ((zC0 (fun _ => 0)) j)))), (aC_8, .inl (kC_9, 52035, .inl (zV0 (fun _ => 0))))] H := hP
  have hD : va_D A [(aX, .inr (3, [.ref q_1, .null])), (q_1, .inr (0, [.ref aT_2, .ref aS_5])), (aT_2, .inr (2, [.ref aB_3, .int (nI 0), .int (nI 0), .int (nI 0), .int 0, .int 0, .int 0])), (aB_3, .inl (kB_4, 65536, .inl (fun _ => 0))), (aS_5, .inr (1, [.ref aN_6, .ref aC_8])), (aN_6, .inl (kN_7, 5, .inl (fun j => nI ((zC0 (fun _ => 0)) j)))), (aC_8, .inl (kC_9, 52035, .inl (zV0 (fun _ => 0))))] := hD
  refine lv_aload_n hx hb d_St_init_15 rfl (lv_at hl 0 rfl) ?_
  refine va_new (ci := 1) (fs := [.null, .null]) (C := R_Sc) (T := F_Sc) (N := 2) hx hb hz i_Sc t_Sc t_Sc_ok hown (hz _ tw_92) (hz _ tw_64) (hz _ tw_4) hK hP hD hS hA rfl (fun j hj => by rcases (show j = 0 ∨ j = 1 by omega) with rfl | rfl <;> rfl) (Nat.le_of_ble_eq_true rfl) (Nat.le_of_ble_eq_true rfl) d_St_init_16 (fun q_10 H hP hD hS => ?_)
  have hP : va_P (dC, dI) vwCl [(aX, .inr (3, [.ref q_1, .null])), (q_1, .inr (0, [.ref aT_2, .ref aS_5])), (aT_2, .inr (2, [.ref aB_3, .int (nI 0), .int (nI 0), .int (nI 0), .int 0, .int 0, .int 0])), (aB_3, .inl (kB_4, 65536, .inl (fun _ => 0))), (aS_5, .inr (1, [.ref aN_6, .ref aC_8])), (aN_6, .inl (kN_7, 5, .inl (fun j => nI ((zC0 (fun _ => 0)) j)))), (aC_8, .inl (kC_9, 52035, .inl (zV0 (fun _ => 0)))), (q_10, .inr (1, [.null, .null]))] H := hP
  have hD : va_D A [(aX, .inr (3, [.ref q_1, .null])), (q_1, .inr (0, [.ref aT_2, .ref aS_5])), (aT_2, .inr (2, [.ref aB_3, .int (nI 0), .int (nI 0), .int (nI 0), .int 0, .int 0, .int 0])), (aB_3, .inl (kB_4, 65536, .inl (fun _ => 0))), (aS_5, .inr (1, [.ref aN_6, .ref aC_8])), (aN_6, .inl (kN_7, 5, .inl (fun j => nI ((zC0 (fun _ => 0)) j)))), (aC_8, .inl (kC_9, 52035, .inl (zV0 (fun _ => 0)))), (q_10, .inr (1, [.null, .null]))] := hD
  refine lv_dup hx hb d_St_init_19 rfl ?_
  have hPc := hP.sub (ws' := [(q_10, .inr (1, [.null, .null]))]) [7] rfl
  have hDc := hD.sub (ws' := [(q_10, .inr (1, [.null, .null]))]) [7] (by decide) rfl
  have hKc := hK.sub (tys' := []) [] rfl
  have hFc := va_free (wc := [(q_10, .inr (1, [.null, .null]))]) hD hS hA [7] rfl
  refine va_callv (va_runI (As := []) (rest := [.ref q_10, .ref aX]) ⟨hx, hb, hml, hown, hts⟩ (c_Sc_init l G dC dI H.size q_10) (cwI 0 hts (gI tw_67) rfl rfl rfl (hz _ tw_4) (hz _ tw_93) (hz _ tw_66) rfl (by decide +kernel) ⟨Nat.le_of_ble_eq_true rfl, Nat.le_of_ble_eq_true rfl⟩) (PW_preS hPc hKc hDc hE hS hFc) rfl rfl hl.1 rfl (lv_room (Nat.le_of_ble_eq_true rfl)) d_St_init_20 ⟨Nat.le_of_ble_eq_true rfl, Nat.le_of_ble_eq_true rfl⟩) hS (fun q _ h => hFc q h) hFc (fun uu t H1 locs ht hvm hw hB hz1 hk1 hS => ?_)
  obtain ⟨aN_11, kN_12, aC_13, kC_14⟩ := uu
  obtain ⟨hP1, hD1, hK1⟩ := hB
  rw [ht] at hP1
  have hK1 := va_K.moved hvm.symm hK1
  obtain ⟨hP, hD⟩ := va_join (wr := [(aX, .inr (3, [.ref q_1, .null])), (q_1, .inr (0, [.ref aT_2, .ref aS_5])), (aT_2, .inr (2, [.ref aB_3, .int (nI 0), .int (nI 0), .int (nI 0), .int 0, .int 0, .int 0])), (aB_3, .inl (kB_4, 65536, .inl (fun _ => 0))), (aS_5, .inr (1, [.ref aN_6, .ref aC_8])), (aN_6, .inl (kN_7, 5, .inl (fun j => nI ((zC0 (fun _ => 0)) j)))), (aC_8, .inl (kC_9, 52035, .inl (zV0 (fun _ => 0))))]) (w1 := [(q_10, .inr (1, [.ref aN_11, .ref aC_13])), (aN_11, .inl (kN_12, 5, .inl (fun j => nI ((zC0 (fun _ => 0)) j)))), (aC_13, .inl (kC_14, 52035, .inl (zV0 (fun _ => 0))))]) hP hD [7] [0, 1, 2, 3, 4, 5, 6] rfl rfl (by decide) (by decide) hk1 hFc hP1 hD1
  have hK := (hK.sub (tys' := [(kB_4, .byte), (kN_7, .int), (kC_9, .int)]) [0, 1, 2] rfl).app hK1
  generalize H1 = H at hP hS ⊢
  have hP : va_P (dC, dI) vwCl [(aX, .inr (3, [.ref q_1, .null])), (q_1, .inr (0, [.ref aT_2, .ref aS_5])), (aT_2, .inr (2, [.ref aB_3, .int (nI 0), .int (nI 0), .int (nI 0), .int 0, .int 0, .int 0])), (aB_3, .inl (kB_4, 65536, .inl (fun _ => 0))), (aS_5, .inr (1, [.ref aN_6, .ref aC_8])), (aN_6, .inl (kN_7, 5, .inl (fun j => nI ((zC0 (fun _ => 0)) j)))), (aC_8, .inl (kC_9, 52035, .inl (zV0 (fun _ => 0)))), (q_10, .inr (1, [.ref aN_11, .ref aC_13])), (aN_11, .inl (kN_12, 5, .inl (fun j => nI ((zC0 (fun _ => 0)) j)))), (aC_13, .inl (kC_14, 52035, .inl (zV0 (fun _ => 0))))] H := hP
  have hD : va_D A [(aX, .inr (3, [.ref q_1, .null])), (q_1, .inr (0, [.ref aT_2, .ref aS_5])), (aT_2, .inr (2, [.ref aB_3, .int (nI 0), .int (nI 0), .int (nI 0), .int 0, .int 0, .int 0])), (aB_3, .inl (kB_4, 65536, .inl (fun _ => 0))), (aS_5, .inr (1, [.ref aN_6, .ref aC_8])), (aN_6, .inl (kN_7, 5, .inl (fun j => nI ((zC0 (fun _ => 0)) j)))), (aC_8, .inl (kC_9, 52035, .inl (zV0 (fun _ => 0)))), (q_10, .inr (1, [.ref aN_11, .ref aC_13])), (aN_11, .inl (kN_12, 5, .inl (fun j => nI ((zC0 (fun _ => 0)) j)))), (aC_13, .inl (kC_14, 52035, .inl (zV0 (fun _ => 0))))] := hD
  have hK : va_K (dC, dI) vwCl [(kB_4, .byte), (kN_7, .int), (kC_9, .int), (kN_12, .int), (kC_14, .int)] s := hK
  refine va_put (D := (dC, dI)) (ci := 3) (v := .ref q_10) (ty := .object "SceneText$Scene") (C := R_St) (T := F_St) (N := 2) hx hb hz i_St t_St t_St_ok n_St hown hK hP hD hS 0 rfl rfl 1 (by decide) (hz _ tw_95) (fun _ h9 => h9) rfl (by decide +kernel) rfl rfl (Nat.le_of_ble_eq_true rfl) d_St_init_23 (fun H locs hP hD hS => ?_)
  have hP : va_P (dC, dI) vwCl [(aX, .inr (3, [.ref q_1, .ref q_10])), (q_1, .inr (0, [.ref aT_2, .ref aS_5])), (aT_2, .inr (2, [.ref aB_3, .int (nI 0), .int (nI 0), .int (nI 0), .int 0, .int 0, .int 0])), (aB_3, .inl (kB_4, 65536, .inl (fun _ => 0))), (aS_5, .inr (1, [.ref aN_6, .ref aC_8])), (aN_6, .inl (kN_7, 5, .inl (fun j => nI ((zC0 (fun _ => 0)) j)))), (aC_8, .inl (kC_9, 52035, .inl (zV0 (fun _ => 0)))), (q_10, .inr (1, [.ref aN_11, .ref aC_13])), (aN_11, .inl (kN_12, 5, .inl (fun j => nI ((zC0 (fun _ => 0)) j)))), (aC_13, .inl (kC_14, 52035, .inl (zV0 (fun _ => 0))))] H := hP
  have hD : va_D A [(aX, .inr (3, [.ref q_1, .ref q_10])), (q_1, .inr (0, [.ref aT_2, .ref aS_5])), (aT_2, .inr (2, [.ref aB_3, .int (nI 0), .int (nI 0), .int (nI 0), .int 0, .int 0, .int 0])), (aB_3, .inl (kB_4, 65536, .inl (fun _ => 0))), (aS_5, .inr (1, [.ref aN_6, .ref aC_8])), (aN_6, .inl (kN_7, 5, .inl (fun j => nI ((zC0 (fun _ => 0)) j)))), (aC_8, .inl (kC_9, 52035, .inl (zV0 (fun _ => 0)))), (q_10, .inr (1, [.ref aN_11, .ref aC_13])), (aN_11, .inl (kN_12, 5, .inl (fun j => nI ((zC0 (fun _ => 0)) j)))), (aC_13, .inl (kC_14, 52035, .inl (zV0 (fun _ => 0))))] := hD
  have hP9 := hP.sub (ws' := [(aX, .inr (3, [.ref q_1, .ref q_10])), (q_1, .inr (0, [.ref aT_2, .ref aS_5])), (aT_2, .inr (2, [.ref aB_3, .int (nI 0), .int (nI 0), .int (nI 0), .int 0, .int 0, .int 0])), (aB_3, .inl (kB_4, 65536, .inl (fun _ => 0))), (aS_5, .inr (1, [.ref aN_6, .ref aC_8])), (aN_6, .inl (kN_7, 5, .inl (fun j => nI ((zC0 (fun _ => 0)) j)))), (aC_8, .inl (kC_9, 52035, .inl (zV0 (fun _ => 0)))), (q_10, .inr (1, [.ref aN_11, .ref aC_13])), (aN_11, .inl (kN_12, 5, .inl (fun j => nI ((zC0 (fun _ => 0)) j)))), (aC_13, .inl (kC_14, 52035, .inl (zV0 (fun _ => 0))))]) [0, 1, 2, 3, 4, 5, 6, 7, 8, 9] rfl
  have hD9 := hD.sub (ws' := [(aX, .inr (3, [.ref q_1, .ref q_10])), (q_1, .inr (0, [.ref aT_2, .ref aS_5])), (aT_2, .inr (2, [.ref aB_3, .int (nI 0), .int (nI 0), .int (nI 0), .int 0, .int 0, .int 0])), (aB_3, .inl (kB_4, 65536, .inl (fun _ => 0))), (aS_5, .inr (1, [.ref aN_6, .ref aC_8])), (aN_6, .inl (kN_7, 5, .inl (fun j => nI ((zC0 (fun _ => 0)) j)))), (aC_8, .inl (kC_9, 52035, .inl (zV0 (fun _ => 0)))), (q_10, .inr (1, [.ref aN_11, .ref aC_13])), (aN_11, .inl (kN_12, 5, .inl (fun j => nI ((zC0 (fun _ => 0)) j)))), (aC_13, .inl (kC_14, 52035, .inl (zV0 (fun _ => 0))))]) [0, 1, 2, 3, 4, 5, 6, 7, 8, 9] (by decide) rfl
  have hK9 := hK.sub (tys' := [(kB_4, .byte), (kN_7, .int), (kC_9, .int), (kN_12, .int), (kC_14, .int)]) [0, 1, 2, 3, 4] rfl
  refine W.widen (k := 9) (n := 169629) (Nat.le_of_ble_eq_true rfl) (Nat.le_of_ble_eq_true rfl) ?_
  exact W.vret hx hb hr (fun t ht hW => ⟨⟨(q_1, aT_2, aB_3, kB_4, aS_5, aN_6, kN_7, aC_8, kC_9, q_10, aN_11, kN_12, aC_13, kC_14), rfl, trivial, by rw [ht]; exact hP9, hD9, va_K.moved hW.alike hK9⟩, hS.F ht⟩) hS.2.2 d_St_init_26
