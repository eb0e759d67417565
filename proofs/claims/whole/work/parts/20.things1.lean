set_option maxHeartbeats 4000000 in
set_option maxRecDepth 100000 in
theorem c_Rd_takeLight (l : Launch) (hst : l.stackTraces = false) (G : ZG) (dC : Nat → ClassId) (dI : Nat → Nat → Nat) (sz : Nat) (aR : Nat) (aT : Nat) (aS : Nat) (aB : Nat) (u : Nat) (en : Nat) (h : Nat) (na : Int32) (w : Int32) (wa : Int32) (kB : ClassId) (B : Nat → Int32) (aN : Nat) (aC : Nat) (kN : ClassId) (cnt : Nat → Nat) (kC : ClassId) (cel : Nat → Int32) (hen : en ≤ 65536) (hh : h ≤ en) : vx_Met l y_Rd_takeLight w_Rd_takeLight ({ frames := 9, cells := 1, slots := 6, locals := 158 }) (va_Pc [.ref aR] (PW G (dC, dI) [(kB, .byte), (kN, .int), (kC, .int)] [(aR, .inr (0, [.ref aT, .ref aS])), (aT, .inr (2, [.ref aB, .int (nI u), .int (nI en), .int (nI h), .int na, .int w, .int wa])), (aB, .inl (kB, 65536, .inl B)), (aS, .inr (1, [.ref aN, .ref aC])), (aN, .inl (kN, 5, .inl (fun j => nI (cnt j)))), (aC, .inl (kC, 52035, .inl cel))] sz)) (va_Qv (fun (uu : Nat × Int32 × (Nat → Int32)) => zLight B en (h, cel) = .ok (uu.1, uu.2.2)) (fun (uu : Nat × Int32 × (Nat → Int32)) t => BW (dC, dI) [(aR, .inr (0, [.ref aT, .ref aS])), (aT, .inr (2, [.ref aB, .int (nI u), .int (nI en), .int (nI uu.1), .int uu.2.1, .int w, .int wa])), (aB, .inl (kB, 65536, .inl B)), (aS, .inr (1, [.ref aN, .ref aC])), (aN, .inl (kN, 5, .inl (fun j => nI (cnt j)))), (aC, .inl (kC, 52035, .inl uu.2.2))] (va_A [(aR, .inr (0, [.ref aT, .ref aS])), (aT, .inr (2, [.ref aB, .int (nI u), .int (nI en), .int (nI h), .int na, .int w, .int wa])), (aB, .inl (kB, 65536, .inl B)), (aS, .inr (1, [.ref aN, .ref aC])), (aN, .inl (kN, 5, .inl (fun j => nI (cnt j)))), (aC, .inl (kC, 52035, .inl cel))] sz) sz t) (va_A [(aR, .inr (0, [.ref aT, .ref aS])), (aT, .inr (2, [.ref aB, .int (nI u), .int (nI en), .int (nI h), .int na, .int w, .int wa])), (aB, .inl (kB, 65536, .inl B)), (aS, .inr (1, [.ref aN, .ref aC])), (aN, .inl (kN, 5, .inl (fun j => nI (cnt j)))), (aC, .inl (kC, 52035, .inl cel))] sz)) (vx_X (fun (uu : Int32 × Nat × Nat × Int32 × (Nat → Nat) × (Nat → Int32)) => zLight B en (h, cel) = .error (uu.1, uu.2.1)) (fun E (uu : Int32 × Nat × Nat × Int32 × (Nat → Nat) × (Nat → Int32)) t => E = "java/lang/IllegalArgumentException" ∧ va_P (dC, dI) vwCl [(aR, .inr (0, [.ref aT, .ref aS])), (aT, .inr (2, [.ref aB, .int (nI u), .int (nI en), .int (nI uu.2.2.1), .int uu.2.2.2.1, .int uu.1, .int (nI uu.2.1)])), (aB, .inl (kB, 65536, .inl B)), (aS, .inr (1, [.ref aN, .ref aC])), (aN, .inl (kN, 5, .inl (fun j => nI (uu.2.2.2.2.1 j)))), (aC, .inl (kC, 52035, .inl uu.2.2.2.2.2))] t.heap ∧ va_D (va_A [(aR, .inr (0, [.ref aT, .ref aS])), (aT, .inr (2, [.ref aB, .int (nI u), .int (nI en), .int (nI h), .int na, .int w, .int wa])), (aB, .inl (kB, 65536, .inl B)), (aS, .inr (1, [.ref aN, .ref aC])), (aN, .inl (kN, 5, .inl (fun j => nI (cnt j)))), (aC, .inl (kC, 52035, .inl cel))] sz) [(aR, .inr (0, [.ref aT, .ref aS])), (aT, .inr (2, [.ref aB, .int (nI u), .int (nI en), .int (nI uu.2.2.1), .int uu.2.2.2.1, .int uu.1, .int (nI uu.2.1)])), (aB, .inl (kB, 65536, .inl B)), (aS, .inr (1, [.ref aN, .ref aC])), (aN, .inl (kN, 5, .inl (fun j => nI (uu.2.2.2.2.1 j)))), (aC, .inl (kC, 52035, .inl uu.2.2.2.2.2))]) (va_A [(aR, .inr (0, [.ref aT, .ref aS])), (aT, .inr (2, [.ref aB, .int (nI u), .int (nI en), .int (nI h), .int na, .int w, .int wa])), (aB, .inl (kB, 65536, .inl B)), (aS, .inr (1, [.ref aN, .ref aC])), (aN, .inl (kN, 5, .inl (fun j => nI (cnt j)))), (aC, .inl (kC, 52035, .inl cel))] sz)) 1 6 (va_A [(aR, .inr (0, [.ref aT, .ref aS])), (aT, .inr (2, [.ref aB, .int (nI u), .int (nI en), .int (nI h), .int na, .int w, .int wa])), (aB, .inl (kB, 65536, .inl B)), (aS, .inr (1, [.ref aN, .ref aC])), (aN, .inl (kN, 5, .inl (fun j => nI (cnt j)))), (aC, .inl (kC, 52035, .inl cel))] sz) := by
  refine vx_ofW (cc := prog_2_method_11_code) (maxL := 1) (ret := none) (by decide) rfl ?_
  intro p e s m args below meth c s₁ Bd hml htab hv
  obtain ⟨rfl, hsz, hP, hK, hD0, hE⟩ := hv
  have hx := Bd.exec
  have hb := Bd.bytes
  have hr := Bd.returns
  have hts := atoms_spec (ws := w_Rd_takeLight) Bd.pre
  have hown : s.vm.findClass R_Rd = some m.cls := findClass_of_methodNamed Bd.named
  have hlocks := Bd.notSynchronized
  have hz : ∀ w ∈ ZW, w.before _ s = true := fun w h => hts w (List.mem_cons_of_mem _ h)
  subst hsz
  have hD := hD0.self (sz := s.heap.size)
  generalize hAe : va_A [(aR, .inr (0, [.ref aT, .ref aS])), (aT, .inr (2, [.ref aB, .int (nI u), .int (nI en), .int (nI h), .int na, .int w, .int wa])), (aB, .inl (kB, 65536, .inl B)), (aS, .inr (1, [.ref aN, .ref aC])), (aN, .inl (kN, 5, .inl (fun j => nI (cnt j)))), (aC, .inl (kC, 52035, .inl cel))] s.heap.size = A at hD hE ⊢
  have hA : ∀ q : Nat, s.heap.size ≤ q → A q := fun q h => by rw [← hAe]; exact Or.inr h
  have hS : va_S A s.heap s.heap [] := va_S.rf
  have hl := lv_entry ([.ref aR]) (n := 1) (Nat.le_of_ble_eq_true rfl)
  rw [lg_entry_eq]
  generalize (lg_sl ([.ref aR]) ++ List.replicate (1 - (lg_sl ([.ref aR])).length) Slot.unset).toArray = ls at hl ⊢
  have hl : lv_has ls 1 [(0, .ref aR)] := hl
  obtain ⟨H, hH⟩ : ∃ z, z = s.heap := ⟨_, rfl⟩
  have hP : va_P (dC, dI) vwCl [(aR, .inr (0, [.ref aT, .ref aS])), (aT, .inr (2, [.ref aB, .int (nI u), .int (nI en), .int (nI h), .int na, .int w, .int wa])), (aB, .inl (kB, 65536, .inl B)), (aS, .inr (1, [.ref aN, .ref aC])), (aN, .inl (kN, 5, .inl (fun j => nI (cnt j)))), (aC, .inl (kC, 52035, .inl cel))] H := by rw [hH]; exact hP
  have hS : va_S A s.heap H [] := by rw [hH]; exact hS
  refine zt_heap hH ?_
  refine lv_aload_n hx hb d_Rd_takeLight_0 rfl (lv_at hl 0 rfl) ?_
  refine lv_bipush (v := 123) hx hb d_Rd_takeLight_1 (by decide) ?_
  refine va_ldcS (q := G.2.1 11) hx hb hown (hE.2.2.2.2.2.2.2 11 (by decide)).2 d_Rd_takeLight_3 ?_
  have hPc := hP.sub (ws' := [(aR, .inr (0, [.ref aT, .ref aS])), (aT, .inr (2, [.ref aB, .int (nI u), .int (nI en), .int (nI h), .int na, .int w, .int wa])), (aB, .inl (kB, 65536, .inl B)), (aS, .inr (1, [.ref aN, .ref aC])), (aN, .inl (kN, 5, .inl (fun j => nI (cnt j)))), (aC, .inl (kC, 52035, .inl cel))]) [0, 1, 2, 3, 4, 5] rfl
  have hDc := hD.sub (ws' := [(aR, .inr (0, [.ref aT, .ref aS])), (aT, .inr (2, [.ref aB, .int (nI u), .int (nI en), .int (nI h), .int na, .int w, .int wa])), (aB, .inl (kB, 65536, .inl B)), (aS, .inr (1, [.ref aN, .ref aC])), (aN, .inl (kN, 5, .inl (fun j => nI (cnt j)))), (aC, .inl (kC, 52035, .inl cel))]) [0, 1, 2, 3, 4, 5] (by decide) rfl
  have hKc := hK.sub (tys' := [(kB, .byte), (kN, .int), (kC, .int)]) [0, 1, 2] rfl
  have hFc := va_free (wc := [(aR, .inr (0, [.ref aT, .ref aS])), (aT, .inr (2, [.ref aB, .int (nI u), .int (nI en), .int (nI h), .int na, .int w, .int wa])), (aB, .inl (kB, 65536, .inl B)), (aS, .inr (1, [.ref aN, .ref aC])), (aN, .inl (kN, 5, .inl (fun j => nI (cnt j)))), (aC, .inl (kC, 52035, .inl cel))]) hD hS hA [0, 1, 2, 3, 4, 5] rfl
  refine zt_size (fun hzs => ?_)
  refine vx_callv (vx_runV (As := [.int 123, .ref (G.2.1 11)]) (rest := []) ⟨hx, hb, hml, hown, hts⟩ (c_Rd_takeName l hst G dC dI H.size aR aT aS aB u en h na w wa kB B aN aC kN cnt kC cel 123 11 (by omega) (by omega) (by decide) (zSb_len _)) (cwV 2 hts (gV tw_359 tw_361 ts_8 tw_2 tw_362 rfl) rfl rfl rfl (by decide +kernel) ⟨Nat.le_of_ble_eq_true rfl, Nat.le_of_ble_eq_true rfl⟩) (PW_preV hPc hKc hDc hE hS hFc (ci := 0) (q0 := 0) rfl rfl) rfl rfl hl.1 rfl (lv_room (Nat.le_of_ble_eq_true rfl)) d_Rd_takeLight_5 ⟨Nat.le_of_ble_eq_true rfl, Nat.le_of_ble_eq_true rfl⟩) hS (fun q _ h => hFc q h) hFc (fun q _ h => hFc q h) (fun E9 ce9 q9 uu t H1 locs ht hvm hx_10 hB hz1 hk1 hS hce hcv hcl => ?_) (fun uu t H1 locs ht hvm hw_3 hB hz1 hk1 hS => ?_)
  ·
    obtain ⟨w_4, k_5, h_6, na_7, cnt_8, cel_9⟩ := uu
    obtain ⟨hEn, hP1, hD1⟩ := hB
    rw [ht] at hP1
    obtain ⟨hP, hD⟩ := va_join (wr := []) (w1 := [(aR, .inr (0, [.ref aT, .ref aS])), (aT, .inr (2, [.ref aB, .int (nI u), .int (nI en), .int (nI h_6), .int na_7, .int w_4, .int (nI k_5)])), (aB, .inl (kB, 65536, .inl B)), (aS, .inr (1, [.ref aN, .ref aC])), (aN, .inl (kN, 5, .inl (fun j => nI (cnt_8 j)))), (aC, .inl (kC, 52035, .inl cel_9))]) hP hD [0, 1, 2, 3, 4, 5] [] rfl rfl (by decide) (by decide) hk1 hFc hP1 hD1
    generalize H1 = H at hP hS hce ⊢
    have hP : va_P (dC, dI) vwCl [(aR, .inr (0, [.ref aT, .ref aS])), (aT, .inr (2, [.ref aB, .int (nI u), .int (nI en), .int (nI h_6), .int na_7, .int w_4, .int (nI k_5)])), (aB, .inl (kB, 65536, .inl B)), (aS, .inr (1, [.ref aN, .ref aC])), (aN, .inl (kN, 5, .inl (fun j => nI (cnt_8 j)))), (aC, .inl (kC, 52035, .inl cel_9))] H := hP
    have hD : va_D A [(aR, .inr (0, [.ref aT, .ref aS])), (aT, .inr (2, [.ref aB, .int (nI u), .int (nI en), .int (nI h_6), .int na_7, .int w_4, .int (nI k_5)])), (aB, .inl (kB, 65536, .inl B)), (aS, .inr (1, [.ref aN, .ref aC])), (aN, .inl (kN, 5, .inl (fun j => nI (cnt_8 j)))), (aC, .inl (kC, 52035, .inl cel_9))] := hD
    have hP9 := hP.sub (ws' := [(aR, .inr (0, [.ref aT, .ref aS])), (aT, .inr (2, [.ref aB, .int (nI u), .int (nI en), .int (nI h_6), .int na_7, .int w_4, .int (nI k_5)])), (aB, .inl (kB, 65536, .inl B)), (aS, .inr (1, [.ref aN, .ref aC])), (aN, .inl (kN, 5, .inl (fun j => nI (cnt_8 j)))), (aC, .inl (kC, 52035, .inl cel_9))]) [0, 1, 2, 3, 4, 5] rfl
    have hD9 := hD.sub (ws' := [(aR, .inr (0, [.ref aT, .ref aS])), (aT, .inr (2, [.ref aB, .int (nI u), .int (nI en), .int (nI h_6), .int na_7, .int w_4, .int (nI k_5)])), (aB, .inl (kB, 65536, .inl B)), (aS, .inr (1, [.ref aN, .ref aC])), (aN, .inl (kN, 5, .inl (fun j => nI (cnt_8 j)))), (aC, .inl (kC, 52035, .inl cel_9))]) [0, 1, 2, 3, 4, 5] (by decide) rfl
    exact vx_out (fun x hx => (htab x hx).elim) hlocks hce hcv hcl (fun t ht hvm => ⟨(w_4, k_5, h_6, na_7, cnt_8, cel_9), by simp only [zLight, zListP, zNumP, zB_ok, zB_er, hx_10], ⟨hEn, by rw [ht]; exact hP9, hD9⟩, hS.F ht⟩) hS.2.2 (by decide) (by decide)
  ·
    obtain ⟨h_2, rfl⟩ : ∃ z, z = uu := ⟨_, rfl⟩
    obtain ⟨hP1, hD1, hsz1⟩ := hB
    rw [ht] at hP1 hsz1
    obtain ⟨hP, hD⟩ := va_join (wr := []) (w1 := [(aR, .inr (0, [.ref aT, .ref aS])), (aT, .inr (2, [.ref aB, .int (nI u), .int (nI en), .int (nI h_2), .int na, .int w, .int wa])), (aB, .inl (kB, 65536, .inl B)), (aS, .inr (1, [.ref aN, .ref aC])), (aN, .inl (kN, 5, .inl (fun j => nI (cnt j)))), (aC, .inl (kC, 52035, .inl cel))]) hP hD [0, 1, 2, 3, 4, 5] [] rfl rfl (by decide) (by decide) hk1 hFc hP1 hD1
    refine zt_tight (hsz1.trans hzs) ?_
    generalize H1 = H at hP hS ⊢
    have hP : va_P (dC, dI) vwCl [(aR, .inr (0, [.ref aT, .ref aS])), (aT, .inr (2, [.ref aB, .int (nI u), .int (nI en), .int (nI h_2), .int na, .int w, .int wa])), (aB, .inl (kB, 65536, .inl B)), (aS, .inr (1, [.ref aN, .ref aC])), (aN, .inl (kN, 5, .inl (fun j => nI (cnt j)))), (aC, .inl (kC, 52035, .inl cel))] H := hP
    have hD : va_D A [(aR, .inr (0, [.ref aT, .ref aS])), (aT, .inr (2, [.ref aB, .int (nI u), .int (nI en), .int (nI h_2), .int na, .int w, .int wa])), (aB, .inl (kB, 65536, .inl B)), (aS, .inr (1, [.ref aN, .ref aC])), (aN, .inl (kN, 5, .inl (fun j => nI (cnt j)))), (aC, .inl (kC, 52035, .inl cel))] := hD
    have hw_3i := zName_in hw_3
    refine lv_aload_n hx hb d_Rd_takeLight_8 rfl (lv_at hl 0 rfl) ?_
    refine lv_iconst (v := 0) hx hb d_Rd_takeLight_9 (by decide) ?_
    refine lv_iconst (v := 3) hx hb d_Rd_takeLight_10 (by decide) ?_
    refine lv_iconst (v := 3) hx hb d_Rd_takeLight_11 (by decide) ?_
    refine lv_bipush (v := 7) hx hb d_Rd_takeLight_12 (by decide) ?_
    refine lv_ldc (v := -65536) hx hb hown (hz _ tw_396) d_Rd_takeLight_14 ?_
    refine lv_ldc (v := 65536) hx hb hown (hz _ tw_397) d_Rd_takeLight_16 ?_
    have hPc := hP.sub (ws' := [(aR, .inr (0, [.ref aT, .ref aS])), (aT, .inr (2, [.ref aB, .int (nI u), .int (nI en), .int (nI h_2), .int na, .int w, .int wa])), (aB, .inl (kB, 65536, .inl B)), (aS, .inr (1, [.ref aN, .ref aC])), (aN, .inl (kN, 5, .inl (fun j => nI (cnt j)))), (aC, .inl (kC, 52035, .inl cel))]) [0, 1, 2, 3, 4, 5] rfl
    have hDc := hD.sub (ws' := [(aR, .inr (0, [.ref aT, .ref aS])), (aT, .inr (2, [.ref aB, .int (nI u), .int (nI en), .int (nI h_2), .int na, .int w, .int wa])), (aB, .inl (kB, 65536, .inl B)), (aS, .inr (1, [.ref aN, .ref aC])), (aN, .inl (kN, 5, .inl (fun j => nI (cnt j)))), (aC, .inl (kC, 52035, .inl cel))]) [0, 1, 2, 3, 4, 5] (by decide) rfl
    have hKc := hK.sub (tys' := [(kB, .byte), (kN, .int), (kC, .int)]) [0, 1, 2] rfl
    have hFc := va_free (wc := [(aR, .inr (0, [.ref aT, .ref aS])), (aT, .inr (2, [.ref aB, .int (nI u), .int (nI en), .int (nI h_2), .int na, .int w, .int wa])), (aB, .inl (kB, 65536, .inl B)), (aS, .inr (1, [.ref aN, .ref aC])), (aN, .inl (kN, 5, .inl (fun j => nI (cnt j)))), (aC, .inl (kC, 52035, .inl cel))]) hD hS hA [0, 1, 2, 3, 4, 5] rfl
    refine zt_size (fun hzs => ?_)
    refine vx_calli (vx_runV (As := [.int 0, .int (nI 3), .int (nI 3), .int (nI 7), .int (-65536), .int 65536]) (rest := []) ⟨hx, hb, hml, hown, hts⟩ (c_Rd_takeList l hst G dC dI H.size aR aT aS aB u en h_2 na w wa kB B aN aC kN cnt kC cel 0 3 3 7 (-65536) 65536 (by omega) (by omega) (by omega) (by omega) (by omega)) (cwV 6 hts (gV tw_366 tw_368 ts_9 tw_2 tw_369 rfl) rfl rfl rfl (by decide +kernel) ⟨Nat.le_of_ble_eq_true rfl, Nat.le_of_ble_eq_true rfl⟩) (PW_preV hPc hKc hDc hE hS hFc (ci := 0) (q0 := 0) rfl rfl) rfl rfl hl.1 rfl (lv_room (Nat.le_of_ble_eq_true rfl)) d_Rd_takeLight_18 ⟨Nat.le_of_ble_eq_true rfl, Nat.le_of_ble_eq_true rfl⟩) hS (fun q _ h => hFc q h) hFc (fun q _ h => hFc q h) (fun E9 ce9 q9 uu t H1 locs ht hvm hx_23 hB hz1 hk1 hS hce hcv hcl => ?_) (fun r_11 uu t H1 locs ht hvm hw_16 hB hz1 hk1 hS => ?_)
    ·
      obtain ⟨w_17, k_18, h_19, na_20, cnt_21, cel_22⟩ := uu
      obtain ⟨hEn, hP1, hD1⟩ := hB
      rw [ht] at hP1
      obtain ⟨hP, hD⟩ := va_join (wr := []) (w1 := [(aR, .inr (0, [.ref aT, .ref aS])), (aT, .inr (2, [.ref aB, .int (nI u), .int (nI en), .int (nI h_19), .int na_20, .int w_17, .int (nI k_18)])), (aB, .inl (kB, 65536, .inl B)), (aS, .inr (1, [.ref aN, .ref aC])), (aN, .inl (kN, 5, .inl (fun j => nI (cnt_21 j)))), (aC, .inl (kC, 52035, .inl cel_22))]) hP hD [0, 1, 2, 3, 4, 5] [] rfl rfl (by decide) (by decide) hk1 hFc hP1 hD1
      generalize H1 = H at hP hS hce ⊢
      have hP : va_P (dC, dI) vwCl [(aR, .inr (0, [.ref aT, .ref aS])), (aT, .inr (2, [.ref aB, .int (nI u), .int (nI en), .int (nI h_19), .int na_20, .int w_17, .int (nI k_18)])), (aB, .inl (kB, 65536, .inl B)), (aS, .inr (1, [.ref aN, .ref aC])), (aN, .inl (kN, 5, .inl (fun j => nI (cnt_21 j)))), (aC, .inl (kC, 52035, .inl cel_22))] H := hP
      have hD : va_D A [(aR, .inr (0, [.ref aT, .ref aS])), (aT, .inr (2, [.ref aB, .int (nI u), .int (nI en), .int (nI h_19), .int na_20, .int w_17, .int (nI k_18)])), (aB, .inl (kB, 65536, .inl B)), (aS, .inr (1, [.ref aN, .ref aC])), (aN, .inl (kN, 5, .inl (fun j => nI (cnt_21 j)))), (aC, .inl (kC, 52035, .inl cel_22))] := hD
      simp only [zf02, zf01, zf11, zf12, zf21, zf22, decide_true, decide_false] at hx_23
      have hP9 := hP.sub (ws' := [(aR, .inr (0, [.ref aT, .ref aS])), (aT, .inr (2, [.ref aB, .int (nI u), .int (nI en), .int (nI h_19), .int na_20, .int w_17, .int (nI k_18)])), (aB, .inl (kB, 65536, .inl B)), (aS, .inr (1, [.ref aN, .ref aC])), (aN, .inl (kN, 5, .inl (fun j => nI (cnt_21 j)))), (aC, .inl (kC, 52035, .inl cel_22))]) [0, 1, 2, 3, 4, 5] rfl
      have hD9 := hD.sub (ws' := [(aR, .inr (0, [.ref aT, .ref aS])), (aT, .inr (2, [.ref aB, .int (nI u), .int (nI en), .int (nI h_19), .int na_20, .int w_17, .int (nI k_18)])), (aB, .inl (kB, 65536, .inl B)), (aS, .inr (1, [.ref aN, .ref aC])), (aN, .inl (kN, 5, .inl (fun j => nI (cnt_21 j)))), (aC, .inl (kC, 52035, .inl cel_22))]) [0, 1, 2, 3, 4, 5] (by decide) rfl
      exact vx_out (fun x hx => (htab x hx).elim) hlocks hce hcv hcl (fun t ht hvm => ⟨(w_17, k_18, h_19, na_20, cnt_21, cel_22), by simp only [zLight, zListP, zNumP, zB_ok, zB_er, hw_3, hx_23], ⟨hEn, by rw [ht]; exact hP9, hD9⟩, hS.F ht⟩) hS.2.2 (by decide) (by decide)
    ·
      obtain ⟨h_12, na_13, cel_14, n_15⟩ := uu
      obtain ⟨hP1, hD1, hsz1⟩ := hB
      rw [ht] at hP1 hsz1
      obtain ⟨hP, hD⟩ := va_join (wr := []) (w1 := [(aR, .inr (0, [.ref aT, .ref aS])), (aT, .inr (2, [.ref aB, .int (nI u), .int (nI en), .int (nI h_12), .int na_13, .int w, .int wa])), (aB, .inl (kB, 65536, .inl B)), (aS, .inr (1, [.ref aN, .ref aC])), (aN, .inl (kN, 5, .inl (fun j => nI (cnt j)))), (aC, .inl (kC, 52035, .inl cel_14))]) hP hD [0, 1, 2, 3, 4, 5] [] rfl rfl (by decide) (by decide) hk1 hFc hP1 hD1
      refine zt_tight (hsz1.trans hzs) ?_
      generalize H1 = H at hP hS ⊢
      have hP : va_P (dC, dI) vwCl [(aR, .inr (0, [.ref aT, .ref aS])), (aT, .inr (2, [.ref aB, .int (nI u), .int (nI en), .int (nI h_12), .int na_13, .int w, .int wa])), (aB, .inl (kB, 65536, .inl B)), (aS, .inr (1, [.ref aN, .ref aC])), (aN, .inl (kN, 5, .inl (fun j => nI (cnt j)))), (aC, .inl (kC, 52035, .inl cel_14))] H := hP
      have hD : va_D A [(aR, .inr (0, [.ref aT, .ref aS])), (aT, .inr (2, [.ref aB, .int (nI u), .int (nI en), .int (nI h_12), .int na_13, .int w, .int wa])), (aB, .inl (kB, 65536, .inl B)), (aS, .inr (1, [.ref aN, .ref aC])), (aN, .inl (kN, 5, .inl (fun j => nI (cnt j)))), (aC, .inl (kC, 52035, .inl cel_14))] := hD
      obtain ⟨rfl, hw_16a⟩ := hw_16
      simp only [zf02, zf01, zf11, zf12, zf21, zf22, decide_true, decide_false] at hw_16a
      have hw_16i := zList_in (by omega) hw_16a
      refine lv_pop hx hb d_Rd_takeLight_21 rfl ?_
      refine lv_aload_n hx hb d_Rd_takeLight_22 rfl (lv_at hl 0 rfl) ?_
      refine lv_bipush (v := 44) hx hb d_Rd_takeLight_23 (by decide) ?_
      refine va_ldcS (q := G.2.1 12) hx hb hown (hE.2.2.2.2.2.2.2 12 (by decide)).2 d_Rd_takeLight_25 ?_
      have hPc := hP.sub (ws' := [(aR, .inr (0, [.ref aT, .ref aS])), (aT, .inr (2, [.ref aB, .int (nI u), .int (nI en), .int (nI h_12), .int na_13, .int w, .int wa])), (aB, .inl (kB, 65536, .inl B)), (aS, .inr (1, [.ref aN, .ref aC])), (aN, .inl (kN, 5, .inl (fun j => nI (cnt j)))), (aC, .inl (kC, 52035, .inl cel_14))]) [0, 1, 2, 3, 4, 5] rfl
      have hDc := hD.sub (ws' := [(aR, .inr (0, [.ref aT, .ref aS])), (aT, .inr (2, [.ref aB, .int (nI u), .int (nI en), .int (nI h_12), .int na_13, .int w, .int wa])), (aB, .inl (kB, 65536, .inl B)), (aS, .inr (1, [.ref aN, .ref aC])), (aN, .inl (kN, 5, .inl (fun j => nI (cnt j)))), (aC, .inl (kC, 52035, .inl cel_14))]) [0, 1, 2, 3, 4, 5] (by decide) rfl
      have hKc := hK.sub (tys' := [(kB, .byte), (kN, .int), (kC, .int)]) [0, 1, 2] rfl
      have hFc := va_free (wc := [(aR, .inr (0, [.ref aT, .ref aS])), (aT, .inr (2, [.ref aB, .int (nI u), .int (nI en), .int (nI h_12), .int na_13, .int w, .int wa])), (aB, .inl (kB, 65536, .inl B)), (aS, .inr (1, [.ref aN, .ref aC])), (aN, .inl (kN, 5, .inl (fun j => nI (cnt j)))), (aC, .inl (kC, 52035, .inl cel_14))]) hD hS hA [0, 1, 2, 3, 4, 5] rfl
      refine zt_size (fun hzs => ?_)
      refine vx_callv (vx_runV (As := [.int 44, .ref (G.2.1 12)]) (rest := []) ⟨hx, hb, hml, hown, hts⟩ (c_Rd_takeName l hst G dC dI H.size aR aT aS aB u en h_12 na_13 w wa kB B aN aC kN cnt kC cel_14 44 12 (by omega) (by omega) (by decide) (zSb_len _)) (cwV 2 hts (gV tw_359 tw_361 ts_8 tw_2 tw_362 rfl) rfl rfl rfl (by decide +kernel) ⟨Nat.le_of_ble_eq_true rfl, Nat.le_of_ble_eq_true rfl⟩) (PW_preV hPc hKc hDc hE hS hFc (ci := 0) (q0 := 0) rfl rfl) rfl rfl hl.1 rfl (lv_room (Nat.le_of_ble_eq_true rfl)) d_Rd_takeLight_27 ⟨Nat.le_of_ble_eq_true rfl, Nat.le_of_ble_eq_true rfl⟩) hS (fun q _ h => hFc q h) hFc (fun q _ h => hFc q h) (fun E9 ce9 q9 uu t H1 locs ht hvm hx_33 hB hz1 hk1 hS hce hcv hcl => ?_) (fun uu t H1 locs ht hvm hw_26 hB hz1 hk1 hS => ?_)
      ·
        obtain ⟨w_27, k_28, h_29, na_30, cnt_31, cel_32⟩ := uu
        obtain ⟨hEn, hP1, hD1⟩ := hB
        rw [ht] at hP1
        obtain ⟨hP, hD⟩ := va_join (wr := []) (w1 := [(aR, .inr (0, [.ref aT, .ref aS])), (aT, .inr (2, [.ref aB, .int (nI u), .int (nI en), .int (nI h_29), .int na_30, .int w_27, .int (nI k_28)])), (aB, .inl (kB, 65536, .inl B)), (aS, .inr (1, [.ref aN, .ref aC])), (aN, .inl (kN, 5, .inl (fun j => nI (cnt_31 j)))), (aC, .inl (kC, 52035, .inl cel_32))]) hP hD [0, 1, 2, 3, 4, 5] [] rfl rfl (by decide) (by decide) hk1 hFc hP1 hD1
        generalize H1 = H at hP hS hce ⊢
        have hP : va_P (dC, dI) vwCl [(aR, .inr (0, [.ref aT, .ref aS])), (aT, .inr (2, [.ref aB, .int (nI u), .int (nI en), .int (nI h_29), .int na_30, .int w_27, .int (nI k_28)])), (aB, .inl (kB, 65536, .inl B)), (aS, .inr (1, [.ref aN, .ref aC])), (aN, .inl (kN, 5, .inl (fun j => nI (cnt_31 j)))), (aC, .inl (kC, 52035, .inl cel_32))] H := hP
        have hD : va_D A [(aR, .inr (0, [.ref aT, .ref aS])), (aT, .inr (2, [.ref aB, .int (nI u), .int (nI en), .int (nI h_29), .int na_30, .int w_27, .int (nI k_28)])), (aB, .inl (kB, 65536, .inl B)), (aS, .inr (1, [.ref aN, .ref aC])), (aN, .inl (kN, 5, .inl (fun j => nI (cnt_31 j)))), (aC, .inl (kC, 52035, .inl cel_32))] := hD
        have hP9 := hP.sub (ws' := [(aR, .inr (0, [.ref aT, .ref aS])), (aT, .inr (2, [.ref aB, .int (nI u), .int (nI en), .int (nI h_29), .int na_30, .int w_27, .int (nI k_28)])), (aB, .inl (kB, 65536, .inl B)), (aS, .inr (1, [.ref aN, .ref aC])), (aN, .inl (kN, 5, .inl (fun j => nI (cnt_31 j)))), (aC, .inl (kC, 52035, .inl cel_32))]) [0, 1, 2, 3, 4, 5] rfl
        have hD9 := hD.sub (ws' := [(aR, .inr (0, [.ref aT, .ref aS])), (aT, .inr (2, [.ref aB, .int (nI u), .int (nI en), .int (nI h_29), .int na_30, .int w_27, .int (nI k_28)])), (aB, .inl (kB, 65536, .inl B)), (aS, .inr (1, [.ref aN, .ref aC])), (aN, .inl (kN, 5, .inl (fun j => nI (cnt_31 j)))), (aC, .inl (kC, 52035, .inl cel_32))]) [0, 1, 2, 3, 4, 5] (by decide) rfl
        exact vx_out (fun x hx => (htab x hx).elim) hlocks hce hcv hcl (fun t ht hvm => ⟨(w_27, k_28, h_29, na_30, cnt_31, cel_32), by simp only [zLight, zListP, zNumP, zB_ok, zB_er, hw_3, hw_16a, hx_33], ⟨hEn, by rw [ht]; exact hP9, hD9⟩, hS.F ht⟩) hS.2.2 (by decide) (by decide)
      ·
        obtain ⟨h_25, rfl⟩ : ∃ z, z = uu := ⟨_, rfl⟩
        obtain ⟨hP1, hD1, hsz1⟩ := hB
        rw [ht] at hP1 hsz1
        obtain ⟨hP, hD⟩ := va_join (wr := []) (w1 := [(aR, .inr (0, [.ref aT, .ref aS])), (aT, .inr (2, [.ref aB, .int (nI u), .int (nI en), .int (nI h_25), .int na_13, .int w, .int wa])), (aB, .inl (kB, 65536, .inl B)), (aS, .inr (1, [.ref aN, .ref aC])), (aN, .inl (kN, 5, .inl (fun j => nI (cnt j)))), (aC, .inl (kC, 52035, .inl cel_14))]) hP hD [0, 1, 2, 3, 4, 5] [] rfl rfl (by decide) (by decide) hk1 hFc hP1 hD1
        refine zt_tight (hsz1.trans hzs) ?_
        generalize H1 = H at hP hS ⊢
        have hP : va_P (dC, dI) vwCl [(aR, .inr (0, [.ref aT, .ref aS])), (aT, .inr (2, [.ref aB, .int (nI u), .int (nI en), .int (nI h_25), .int na_13, .int w, .int wa])), (aB, .inl (kB, 65536, .inl B)), (aS, .inr (1, [.ref aN, .ref aC])), (aN, .inl (kN, 5, .inl (fun j => nI (cnt j)))), (aC, .inl (kC, 52035, .inl cel_14))] H := hP
        have hD : va_D A [(aR, .inr (0, [.ref aT, .ref aS])), (aT, .inr (2, [.ref aB, .int (nI u), .int (nI en), .int (nI h_25), .int na_13, .int w, .int wa])), (aB, .inl (kB, 65536, .inl B)), (aS, .inr (1, [.ref aN, .ref aC])), (aN, .inl (kN, 5, .inl (fun j => nI (cnt j)))), (aC, .inl (kC, 52035, .inl cel_14))] := hD
        have hw_26i := zName_in hw_26
        refine lv_aload_n hx hb d_Rd_takeLight_30 rfl (lv_at hl 0 rfl) ?_
        refine lv_bipush (v := 10) hx hb d_Rd_takeLight_31 (by decide) ?_
        refine lv_iconst (v := 0) hx hb d_Rd_takeLight_33 (by decide) ?_
        refine lv_ldc (v := 65536) hx hb hown (hz _ tw_397) d_Rd_takeLight_34 ?_
        have hPc := hP.sub (ws' := [(aR, .inr (0, [.ref aT, .ref aS])), (aT, .inr (2, [.ref aB, .int (nI u), .int (nI en), .int (nI h_25), .int na_13, .int w, .int wa])), (aB, .inl (kB, 65536, .inl B)), (aS, .inr (1, [.ref aN, .ref aC])), (aN, .inl (kN, 5, .inl (fun j => nI (cnt j)))), (aC, .inl (kC, 52035, .inl cel_14))]) [0, 1, 2, 3, 4, 5] rfl
        have hDc := hD.sub (ws' := [(aR, .inr (0, [.ref aT, .ref aS])), (aT, .inr (2, [.ref aB, .int (nI u), .int (nI en), .int (nI h_25), .int na_13, .int w, .int wa])), (aB, .inl (kB, 65536, .inl B)), (aS, .inr (1, [.ref aN, .ref aC])), (aN, .inl (kN, 5, .inl (fun j => nI (cnt j)))), (aC, .inl (kC, 52035, .inl cel_14))]) [0, 1, 2, 3, 4, 5] (by decide) rfl
        have hKc := hK.sub (tys' := [(kB, .byte), (kN, .int), (kC, .int)]) [0, 1, 2] rfl
        have hFc := va_free (wc := [(aR, .inr (0, [.ref aT, .ref aS])), (aT, .inr (2, [.ref aB, .int (nI u), .int (nI en), .int (nI h_25), .int na_13, .int w, .int wa])), (aB, .inl (kB, 65536, .inl B)), (aS, .inr (1, [.ref aN, .ref aC])), (aN, .inl (kN, 5, .inl (fun j => nI (cnt j)))), (aC, .inl (kC, 52035, .inl cel_14))]) hD hS hA [0, 1, 2, 3, 4, 5] rfl
        refine zt_size (fun hzs => ?_)
        refine vx_calli (vx_runV (As := [.int (nI 10), .int 0, .int 65536]) (rest := []) ⟨hx, hb, hml, hown, hts⟩ (c_Rd_takeNumber l hst G dC dI H.size aR aT aS aB u en h_25 na_13 w wa kB B aN aC kN cnt kC cel_14 10 0 65536 (by omega) (by omega) (by omega)) (cwV 3 hts (gV tw_387 tw_389 ts_10 tw_2 tw_390 rfl) rfl rfl rfl (by decide +kernel) ⟨Nat.le_of_ble_eq_true rfl, Nat.le_of_ble_eq_true rfl⟩) (PW_preV hPc hKc hDc hE hS hFc (ci := 0) (q0 := 0) rfl rfl) rfl rfl hl.1 rfl (lv_room (Nat.le_of_ble_eq_true rfl)) d_Rd_takeLight_36 ⟨Nat.le_of_ble_eq_true rfl, Nat.le_of_ble_eq_true rfl⟩) hS (fun q _ h => hFc q h) hFc (fun q _ h => hFc q h) (fun E9 ce9 q9 uu t H1 locs ht hvm hx_45 hB hz1 hk1 hS hce hcv hcl => ?_) (fun r_34 uu t H1 locs ht hvm hw_38 hB hz1 hk1 hS => ?_)
        ·
          obtain ⟨w_39, k_40, h_41, na_42, cnt_43, cel_44⟩ := uu
          obtain ⟨hEn, hP1, hD1⟩ := hB
          rw [ht] at hP1
          obtain ⟨hP, hD⟩ := va_join (wr := []) (w1 := [(aR, .inr (0, [.ref aT, .ref aS])), (aT, .inr (2, [.ref aB, .int (nI u), .int (nI en), .int (nI h_41), .int na_42, .int w_39, .int (nI k_40)])), (aB, .inl (kB, 65536, .inl B)), (aS, .inr (1, [.ref aN, .ref aC])), (aN, .inl (kN, 5, .inl (fun j => nI (cnt_43 j)))), (aC, .inl (kC, 52035, .inl cel_44))]) hP hD [0, 1, 2, 3, 4, 5] [] rfl rfl (by decide) (by decide) hk1 hFc hP1 hD1
          generalize H1 = H at hP hS hce ⊢
          have hP : va_P (dC, dI) vwCl [(aR, .inr (0, [.ref aT, .ref aS])), (aT, .inr (2, [.ref aB, .int (nI u), .int (nI en), .int (nI h_41), .int na_42, .int w_39, .int (nI k_40)])), (aB, .inl (kB, 65536, .inl B)), (aS, .inr (1, [.ref aN, .ref aC])), (aN, .inl (kN, 5, .inl (fun j => nI (cnt_43 j)))), (aC, .inl (kC, 52035, .inl cel_44))] H := hP
          have hD : va_D A [(aR, .inr (0, [.ref aT, .ref aS])), (aT, .inr (2, [.ref aB, .int (nI u), .int (nI en), .int (nI h_41), .int na_42, .int w_39, .int (nI k_40)])), (aB, .inl (kB, 65536, .inl B)), (aS, .inr (1, [.ref aN, .ref aC])), (aN, .inl (kN, 5, .inl (fun j => nI (cnt_43 j)))), (aC, .inl (kC, 52035, .inl cel_44))] := hD
          have hP9 := hP.sub (ws' := [(aR, .inr (0, [.ref aT, .ref aS])), (aT, .inr (2, [.ref aB, .int (nI u), .int (nI en), .int (nI h_41), .int na_42, .int w_39, .int (nI k_40)])), (aB, .inl (kB, 65536, .inl B)), (aS, .inr (1, [.ref aN, .ref aC])), (aN, .inl (kN, 5, .inl (fun j => nI (cnt_43 j)))), (aC, .inl (kC, 52035, .inl cel_44))]) [0, 1, 2, 3, 4, 5] rfl
          have hD9 := hD.sub (ws' := [(aR, .inr (0, [.ref aT, .ref aS])), (aT, .inr (2, [.ref aB, .int (nI u), .int (nI en), .int (nI h_41), .int na_42, .int w_39, .int (nI k_40)])), (aB, .inl (kB, 65536, .inl B)), (aS, .inr (1, [.ref aN, .ref aC])), (aN, .inl (kN, 5, .inl (fun j => nI (cnt_43 j)))), (aC, .inl (kC, 52035, .inl cel_44))]) [0, 1, 2, 3, 4, 5] (by decide) rfl
          exact vx_out (fun x hx => (htab x hx).elim) hlocks hce hcv hcl (fun t ht hvm => ⟨(w_39, k_40, h_41, na_42, cnt_43, cel_44), by simp only [zLight, zListP, zNumP, zB_ok, zB_er, hw_3, hw_16a, hw_26, hx_45], ⟨hEn, by rw [ht]; exact hP9, hD9⟩, hS.F ht⟩) hS.2.2 (by decide) (by decide)
        ·
          obtain ⟨h_35, na_36, cel_37⟩ := uu
          obtain ⟨hP1, hD1, hsz1⟩ := hB
          rw [ht] at hP1 hsz1
          obtain ⟨hP, hD⟩ := va_join (wr := []) (w1 := [(aR, .inr (0, [.ref aT, .ref aS])), (aT, .inr (2, [.ref aB, .int (nI u), .int (nI en), .int (nI h_35), .int na_36, .int w, .int wa])), (aB, .inl (kB, 65536, .inl B)), (aS, .inr (1, [.ref aN, .ref aC])), (aN, .inl (kN, 5, .inl (fun j => nI (cnt j)))), (aC, .inl (kC, 52035, .inl cel_37))]) hP hD [0, 1, 2, 3, 4, 5] [] rfl rfl (by decide) (by decide) hk1 hFc hP1 hD1
          refine zt_tight (hsz1.trans hzs) ?_
          generalize H1 = H at hP hS ⊢
          have hP : va_P (dC, dI) vwCl [(aR, .inr (0, [.ref aT, .ref aS])), (aT, .inr (2, [.ref aB, .int (nI u), .int (nI en), .int (nI h_35), .int na_36, .int w, .int wa])), (aB, .inl (kB, 65536, .inl B)), (aS, .inr (1, [.ref aN, .ref aC])), (aN, .inl (kN, 5, .inl (fun j => nI (cnt j)))), (aC, .inl (kC, 52035, .inl cel_37))] H := hP
          have hD : va_D A [(aR, .inr (0, [.ref aT, .ref aS])), (aT, .inr (2, [.ref aB, .int (nI u), .int (nI en), .int (nI h_35), .int na_36, .int w, .int wa])), (aB, .inl (kB, 65536, .inl B)), (aS, .inr (1, [.ref aN, .ref aC])), (aN, .inl (kN, 5, .inl (fun j => nI (cnt j)))), (aC, .inl (kC, 52035, .inl cel_37))] := hD
          obtain ⟨hw_38a, rfl, rfl⟩ := hw_38
          have hw_38i := zRNum_in (by omega) hw_38a
          refine lv_pop hx hb d_Rd_takeLight_39 rfl ?_
          refine lv_aload_n hx hb d_Rd_takeLight_40 rfl (lv_at hl 0 rfl) ?_
          refine va_get (D := (dC, dI)) (ci := 0) (v := .ref aT) (C := R_Rd) (T := F_Rd) (N := 2) hx hb hz i_Rd hown hK hP 0 rfl rfl 0 (by decide) (hz _ tw_84) (fun _ h9 => h9) rfl d_Rd_takeLight_41 ?_
          refine lv_bipush (v := 125) hx hb d_Rd_takeLight_44 (by decide) ?_
          have hPc := hP.sub (ws' := [(aT, .inr (2, [.ref aB, .int (nI u), .int (nI en), .int (nI h_35), .int (nI h_25), .int w, .int wa])), (aB, .inl (kB, 65536, .inl B))]) [1, 2] rfl
          have hDc := hD.sub (ws' := [(aT, .inr (2, [.ref aB, .int (nI u), .int (nI en), .int (nI h_35), .int (nI h_25), .int w, .int wa])), (aB, .inl (kB, 65536, .inl B))]) [1, 2] (by decide) rfl
          have hKc := hK.sub (tys' := [(kB, .byte)]) [0] rfl
          have hFc := va_free (wc := [(aT, .inr (2, [.ref aB, .int (nI u), .int (nI en), .int (nI h_35), .int (nI h_25), .int w, .int wa])), (aB, .inl (kB, 65536, .inl B))]) hD hS hA [1, 2] rfl
          refine zt_size (fun hzs => ?_)
          refine vx_callv (vx_runV (As := [.int 125]) (rest := []) ⟨hx, hb, hml, hown, hts⟩ (c_Tp_mustTake l hst G dC dI H.size aT aB u en h_35 (nI h_25) w wa kB B 125 (by omega) (by omega)) (cwV 1 hts (gV tw_214 tw_215 tw_216 tw_3 tw_217 rfl) rfl rfl rfl (by decide +kernel) ⟨Nat.le_of_ble_eq_true rfl, Nat.le_of_ble_eq_true rfl⟩) (PW_preV hPc hKc hDc hE hS hFc (ci := 2) (q0 := 0) rfl rfl) rfl rfl hl.1 rfl (lv_room (Nat.le_of_ble_eq_true rfl)) d_Rd_takeLight_46 ⟨Nat.le_of_ble_eq_true rfl, Nat.le_of_ble_eq_true rfl⟩) hS (fun q _ h => hFc q h) hFc (fun q _ h => hFc q h) (fun E9 ce9 q9 uu t H1 locs ht hvm hx_53 hB hz1 hk1 hS hce hcv hcl => ?_) (fun uu t H1 locs ht hvm hw_48 hB hz1 hk1 hS => ?_)
          ·
            obtain ⟨w_49, k_50, h_51, na_52⟩ := uu
            obtain ⟨hEn, hP1, hD1⟩ := hB
            rw [ht] at hP1
            obtain ⟨hP, hD⟩ := va_join (wr := [(aR, .inr (0, [.ref aT, .ref aS])), (aS, .inr (1, [.ref aN, .ref aC])), (aN, .inl (kN, 5, .inl (fun j => nI (cnt j)))), (aC, .inl (kC, 52035, .inl (upd cel_14 10 r_34)))]) (w1 := [(aT, .inr (2, [.ref aB, .int (nI u), .int (nI en), .int (nI h_51), .int na_52, .int w_49, .int (nI k_50)])), (aB, .inl (kB, 65536, .inl B))]) hP hD [1, 2] [0, 3, 4, 5] rfl rfl (by decide) (by decide) hk1 hFc hP1 hD1
            generalize H1 = H at hP hS hce ⊢
            have hP : va_P (dC, dI) vwCl [(aR, .inr (0, [.ref aT, .ref aS])), (aS, .inr (1, [.ref aN, .ref aC])), (aN, .inl (kN, 5, .inl (fun j => nI (cnt j)))), (aC, .inl (kC, 52035, .inl (upd cel_14 10 r_34))), (aT, .inr (2, [.ref aB, .int (nI u), .int (nI en), .int (nI h_51), .int na_52, .int w_49, .int (nI k_50)])), (aB, .inl (kB, 65536, .inl B))] H := hP
            have hD : va_D A [(aR, .inr (0, [.ref aT, .ref aS])), (aS, .inr (1, [.ref aN, .ref aC])), (aN, .inl (kN, 5, .inl (fun j => nI (cnt j)))), (aC, .inl (kC, 52035, .inl (upd cel_14 10 r_34))), (aT, .inr (2, [.ref aB, .int (nI u), .int (nI en), .int (nI h_51), .int na_52, .int w_49, .int (nI k_50)])), (aB, .inl (kB, 65536, .inl B))] := hD
            have hP9 := hP.sub (ws' := [(aR, .inr (0, [.ref aT, .ref aS])), (aT, .inr (2, [.ref aB, .int (nI u), .int (nI en), .int (nI h_51), .int na_52, .int w_49, .int (nI k_50)])), (aB, .inl (kB, 65536, .inl B)), (aS, .inr (1, [.ref aN, .ref aC])), (aN, .inl (kN, 5, .inl (fun j => nI (cnt j)))), (aC, .inl (kC, 52035, .inl (upd cel_14 10 r_34)))]) [0, 4, 5, 1, 2, 3] rfl
            have hD9 := hD.sub (ws' := [(aR, .inr (0, [.ref aT, .ref aS])), (aT, .inr (2, [.ref aB, .int (nI u), .int (nI en), .int (nI h_51), .int na_52, .int w_49, .int (nI k_50)])), (aB, .inl (kB, 65536, .inl B)), (aS, .inr (1, [.ref aN, .ref aC])), (aN, .inl (kN, 5, .inl (fun j => nI (cnt j)))), (aC, .inl (kC, 52035, .inl (upd cel_14 10 r_34)))]) [0, 4, 5, 1, 2, 3] (by decide) rfl
            exact vx_out (fun x hx => (htab x hx).elim) hlocks hce hcv hcl (fun t ht hvm => ⟨(w_49, k_50, h_51, na_52, cnt, upd cel_14 10 r_34), by simp only [zLight, zListP, zNumP, zB_ok, zB_er, hw_3, hw_16a, hw_26, hw_38a, hx_53], ⟨hEn, by rw [ht]; exact hP9, hD9⟩, hS.F ht⟩) hS.2.2 (by decide) (by decide)
          ·
            obtain ⟨h_47, rfl⟩ : ∃ z, z = uu := ⟨_, rfl⟩
            obtain ⟨hP1, hD1, hsz1⟩ := hB
            rw [ht] at hP1 hsz1
            obtain ⟨hP, hD⟩ := va_join (wr := [(aR, .inr (0, [.ref aT, .ref aS])), (aS, .inr (1, [.ref aN, .ref aC])), (aN, .inl (kN, 5, .inl (fun j => nI (cnt j)))), (aC, .inl (kC, 52035, .inl (upd cel_14 10 r_34)))]) (w1 := [(aT, .inr (2, [.ref aB, .int (nI u), .int (nI en), .int (nI h_47), .int (nI h_25), .int w, .int wa])), (aB, .inl (kB, 65536, .inl B))]) hP hD [1, 2] [0, 3, 4, 5] rfl rfl (by decide) (by decide) hk1 hFc hP1 hD1
            refine zt_tight (hsz1.trans hzs) ?_
            generalize H1 = H at hP hS ⊢
            have hP : va_P (dC, dI) vwCl [(aR, .inr (0, [.ref aT, .ref aS])), (aS, .inr (1, [.ref aN, .ref aC])), (aN, .inl (kN, 5, .inl (fun j => nI (cnt j)))), (aC, .inl (kC, 52035, .inl (upd cel_14 10 r_34))), (aT, .inr (2, [.ref aB, .int (nI u), .int (nI en), .int (nI h_47), .int (nI h_25), .int w, .int wa])), (aB, .inl (kB, 65536, .inl B))] H := hP
            have hD : va_D A [(aR, .inr (0, [.ref aT, .ref aS])), (aS, .inr (1, [.ref aN, .ref aC])), (aN, .inl (kN, 5, .inl (fun j => nI (cnt j)))), (aC, .inl (kC, 52035, .inl (upd cel_14 10 r_34))), (aT, .inr (2, [.ref aB, .int (nI u), .int (nI en), .int (nI h_47), .int (nI h_25), .int w, .int wa])), (aB, .inl (kB, 65536, .inl B))] := hD
            have hw_48i := zMust_in hw_48
            refine zt_size (fun hzs => ?_)
            have hP9 := hP.sub (ws' := [(aR, .inr (0, [.ref aT, .ref aS])), (aT, .inr (2, [.ref aB, .int (nI u), .int (nI en), .int (nI h_47), .int (nI h_25), .int w, .int wa])), (aB, .inl (kB, 65536, .inl B)), (aS, .inr (1, [.ref aN, .ref aC])), (aN, .inl (kN, 5, .inl (fun j => nI (cnt j)))), (aC, .inl (kC, 52035, .inl (upd cel_14 10 r_34)))]) [0, 4, 5, 1, 2, 3] rfl
            have hD9 := hD.sub (ws' := [(aR, .inr (0, [.ref aT, .ref aS])), (aT, .inr (2, [.ref aB, .int (nI u), .int (nI en), .int (nI h_47), .int (nI h_25), .int w, .int wa])), (aB, .inl (kB, 65536, .inl B)), (aS, .inr (1, [.ref aN, .ref aC])), (aN, .inl (kN, 5, .inl (fun j => nI (cnt j)))), (aC, .inl (kC, 52035, .inl (upd cel_14 10 r_34)))]) [0, 4, 5, 1, 2, 3] (by decide) rfl
            refine W.widen (k := 1) (n := 6) (by decide) (by decide) ?_
            exact vx_ret (W.vret hx hb hr (fun t ht hW => ⟨⟨(h_47, nI h_25, upd cel_14 10 r_34), rfl, by simp only [zLight, zListP, zNumP, zB_ok, hw_3, hw_16a, hw_26, hw_38a, hw_48], by rw [ht]; exact hP9, hD9, by rw [ht]; exact hzs⟩, hS.F ht⟩) hS.2.2 d_Rd_takeLight_49)
set_option maxHeartbeats 4000000 in
set_option maxRecDepth 100000 in
theorem c_Rd_takeCamera (l : Launch) (hst : l.stackTraces = false) (G : ZG) (dC : Nat → ClassId) (dI : Nat → Nat → Nat) (sz : Nat) (aR : Nat) (aT : Nat) (aS : Nat) (aB : Nat) (u : Nat) (en : Nat) (h : Nat) (na : Int32) (w : Int32) (wa : Int32) (kB : ClassId) (B : Nat → Int32) (aN : Nat) (aC : Nat) (kN : ClassId) (cnt : Nat → Nat) (kC : ClassId) (cel : Nat → Int32) (hen : en ≤ 65536) (hh : h ≤ en) : vx_Met l y_Rd_takeCamera w_Rd_takeCamera ({ frames := 9, cells := 1, slots := 6, locals := 158 }) (va_Pc [.ref aR] (PW G (dC, dI) [(kB, .byte), (kN, .int), (kC, .int)] [(aR, .inr (0, [.ref aT, .ref aS])), (aT, .inr (2, [.ref aB, .int (nI u), .int (nI en), .int (nI h), .int na, .int w, .int wa])), (aB, .inl (kB, 65536, .inl B)), (aS, .inr (1, [.ref aN, .ref aC])), (aN, .inl (kN, 5, .inl (fun j => nI (cnt j)))), (aC, .inl (kC, 52035, .inl cel))] sz)) (va_Qv (fun (uu : Nat × Int32 × (Nat → Int32)) => zCamera B en (h, cel) = .ok (uu.1, uu.2.2)) (fun (uu : Nat × Int32 × (Nat → Int32)) t => BW (dC, dI) [(aR, .inr (0, [.ref aT, .ref aS])), (aT, .inr (2, [.ref aB, .int (nI u), .int (nI en), .int (nI uu.1), .int uu.2.1, .int w, .int wa])), (aB, .inl (kB, 65536, .inl B)), (aS, .inr (1, [.ref aN, .ref aC])), (aN, .inl (kN, 5, .inl (fun j => nI (cnt j)))), (aC, .inl (kC, 52035, .inl uu.2.2))] (va_A [(aR, .inr (0, [.ref aT, .ref aS])), (aT, .inr (2, [.ref aB, .int (nI u), .int (nI en), .int (nI h), .int na, .int w, .int wa])), (aB, .inl (kB, 65536, .inl B)), (aS, .inr (1, [.ref aN, .ref aC])), (aN, .inl (kN, 5, .inl (fun j => nI (cnt j)))), (aC, .inl (kC, 52035, .inl cel))] sz) sz t) (va_A [(aR, .inr (0, [.ref aT, .ref aS])), (aT, .inr (2, [.ref aB, .int (nI u), .int (nI en), .int (nI h), .int na, .int w, .int wa])), (aB, .inl (kB, 65536, .inl B)), (aS, .inr (1, [.ref aN, .ref aC])), (aN, .inl (kN, 5, .inl (fun j => nI (cnt j)))), (aC, .inl (kC, 52035, .inl cel))] sz)) (vx_X (fun (uu : Int32 × Nat × Nat × Int32 × (Nat → Nat) × (Nat → Int32)) => zCamera B en (h, cel) = .error (uu.1, uu.2.1)) (fun E (uu : Int32 × Nat × Nat × Int32 × (Nat → Nat) × (Nat → Int32)) t => E = "java/lang/IllegalArgumentException" ∧ va_P (dC, dI) vwCl [(aR, .inr (0, [.ref aT, .ref aS])), (aT, .inr (2, [.ref aB, .int (nI u), .int (nI en), .int (nI uu.2.2.1), .int uu.2.2.2.1, .int uu.1, .int (nI uu.2.1)])), (aB, .inl (kB, 65536, .inl B)), (aS, .inr (1, [.ref aN, .ref aC])), (aN, .inl (kN, 5, .inl (fun j => nI (uu.2.2.2.2.1 j)))), (aC, .inl (kC, 52035, .inl uu.2.2.2.2.2))] t.heap ∧ va_D (va_A [(aR, .inr (0, [.ref aT, .ref aS])), (aT, .inr (2, [.ref aB, .int (nI u), .int (nI en), .int (nI h), .int na, .int w, .int wa])), (aB, .inl (kB, 65536, .inl B)), (aS, .inr (1, [.ref aN, .ref aC])), (aN, .inl (kN, 5, .inl (fun j => nI (cnt j)))), (aC, .inl (kC, 52035, .inl cel))] sz) [(aR, .inr (0, [.ref aT, .ref aS])), (aT, .inr (2, [.ref aB, .int (nI u), .int (nI en), .int (nI uu.2.2.1), .int uu.2.2.2.1, .int uu.1, .int (nI uu.2.1)])), (aB, .inl (kB, 65536, .inl B)), (aS, .inr (1, [.ref aN, .ref aC])), (aN, .inl (kN, 5, .inl (fun j => nI (uu.2.2.2.2.1 j)))), (aC, .inl (kC, 52035, .inl uu.2.2.2.2.2))]) (va_A [(aR, .inr (0, [.ref aT, .ref aS])), (aT, .inr (2, [.ref aB, .int (nI u), .int (nI en), .int (nI h), .int na, .int w, .int wa])), (aB, .inl (kB, 65536, .inl B)), (aS, .inr (1, [.ref aN, .ref aC])), (aN, .inl (kN, 5, .inl (fun j => nI (cnt j)))), (aC, .inl (kC, 52035, .inl cel))] sz)) 1 6 (va_A [(aR, .inr (0, [.ref aT, .ref aS])), (aT, .inr (2, [.ref aB, .int (nI u), .int (nI en), .int (nI h), .int na, .int w, .int wa])), (aB, .inl (kB, 65536, .inl B)), (aS, .inr (1, [.ref aN, .ref aC])), (aN, .inl (kN, 5, .inl (fun j => nI (cnt j)))), (aC, .inl (kC, 52035, .inl cel))] sz) := by
  refine vx_ofW (cc := prog_2_method_10_code) (maxL := 1) (ret := none) (by decide) rfl ?_
  intro p e s m args below meth c s₁ Bd hml htab hv
  obtain ⟨rfl, hsz, hP, hK, hD0, hE⟩ := hv
  have hx := Bd.exec
  have hb := Bd.bytes
  have hr := Bd.returns
  have hts := atoms_spec (ws := w_Rd_takeCamera) Bd.pre
  have hown : s.vm.findClass R_Rd = some m.cls := findClass_of_methodNamed Bd.named
  have hlocks := Bd.notSynchronized
  have hz : ∀ w ∈ ZW, w.before _ s = true := fun w h => hts w (List.mem_cons_of_mem _ h)
  subst hsz
  have hD := hD0.self (sz := s.heap.size)
  generalize hAe : va_A [(aR, .inr (0, [.ref aT, .ref aS])), (aT, .inr (2, [.ref aB, .int (nI u), .int (nI en), .int (nI h), .int na, .int w, .int wa])), (aB, .inl (kB, 65536, .inl B)), (aS, .inr (1, [.ref aN, .ref aC])), (aN, .inl (kN, 5, .inl (fun j => nI (cnt j)))), (aC, .inl (kC, 52035, .inl cel))] s.heap.size = A at hD hE ⊢
  have hA : ∀ q : Nat, s.heap.size ≤ q → A q := fun q h => by rw [← hAe]; exact Or.inr h
  have hS : va_S A s.heap s.heap [] := va_S.rf
  have hl := lv_entry ([.ref aR]) (n := 1) (Nat.le_of_ble_eq_true rfl)
  rw [lg_entry_eq]
  generalize (lg_sl ([.ref aR]) ++ List.replicate (1 - (lg_sl ([.ref aR])).length) Slot.unset).toArray = ls at hl ⊢
  have hl : lv_has ls 1 [(0, .ref aR)] := hl
  obtain ⟨H, hH⟩ : ∃ z, z = s.heap := ⟨_, rfl⟩
  have hP : va_P (dC, dI) vwCl [(aR, .inr (0, [.ref aT, .ref aS])), (aT, .inr (2, [.ref aB, .int (nI u), .int (nI en), .int (nI h), .int na, .int w, .int wa])), (aB, .inl (kB, 65536, .inl B)), (aS, .inr (1, [.ref aN, .ref aC])), (aN, .inl (kN, 5, .inl (fun j => nI (cnt j)))), (aC, .inl (kC, 52035, .inl cel))] H := by rw [hH]; exact hP
  have hS : va_S A s.heap H [] := by rw [hH]; exact hS
  refine zt_heap hH ?_
  refine lv_aload_n hx hb d_Rd_takeCamera_0 rfl (lv_at hl 0 rfl) ?_
  refine lv_bipush (v := 123) hx hb d_Rd_takeCamera_1 (by decide) ?_
  refine va_ldcS (q := G.2.1 8) hx hb hown (hE.2.2.2.2.2.2.2 8 (by decide)).2 d_Rd_takeCamera_3 ?_
  have hPc := hP.sub (ws' := [(aR, .inr (0, [.ref aT, .ref aS])), (aT, .inr (2, [.ref aB, .int (nI u), .int (nI en), .int (nI h), .int na, .int w, .int wa])), (aB, .inl (kB, 65536, .inl B)), (aS, .inr (1, [.ref aN, .ref aC])), (aN, .inl (kN, 5, .inl (fun j => nI (cnt j)))), (aC, .inl (kC, 52035, .inl cel))]) [0, 1, 2, 3, 4, 5] rfl
  have hDc := hD.sub (ws' := [(aR, .inr (0, [.ref aT, .ref aS])), (aT, .inr (2, [.ref aB, .int (nI u), .int (nI en), .int (nI h), .int na, .int w, .int wa])), (aB, .inl (kB, 65536, .inl B)), (aS, .inr (1, [.ref aN, .ref aC])), (aN, .inl (kN, 5, .inl (fun j => nI (cnt j)))), (aC, .inl (kC, 52035, .inl cel))]) [0, 1, 2, 3, 4, 5] (by decide) rfl
  have hKc := hK.sub (tys' := [(kB, .byte), (kN, .int), (kC, .int)]) [0, 1, 2] rfl
  have hFc := va_free (wc := [(aR, .inr (0, [.ref aT, .ref aS])), (aT, .inr (2, [.ref aB, .int (nI u), .int (nI en), .int (nI h), .int na, .int w, .int wa])), (aB, .inl (kB, 65536, .inl B)), (aS, .inr (1, [.ref aN, .ref aC])), (aN, .inl (kN, 5, .inl (fun j => nI (cnt j)))), (aC, .inl (kC, 52035, .inl cel))]) hD hS hA [0, 1, 2, 3, 4, 5] rfl
  refine zt_size (fun hzs => ?_)
  refine vx_callv (vx_runV (As := [.int 123, .ref (G.2.1 8)]) (rest := []) ⟨hx, hb, hml, hown, hts⟩ (c_Rd_takeName l hst G dC dI H.size aR aT aS aB u en h na w wa kB B aN aC kN cnt kC cel 123 8 (by omega) (by omega) (by decide) (zSb_len _)) (cwV 2 hts (gV tw_359 tw_361 ts_8 tw_2 tw_362 rfl) rfl rfl rfl (by decide +kernel) ⟨Nat.le_of_ble_eq_true rfl, Nat.le_of_ble_eq_true rfl⟩) (PW_preV hPc hKc hDc hE hS hFc (ci := 0) (q0 := 0) rfl rfl) rfl rfl hl.1 rfl (lv_room (Nat.le_of_ble_eq_true rfl)) d_Rd_takeCamera_5 ⟨Nat.le_of_ble_eq_true rfl, Nat.le_of_ble_eq_true rfl⟩) hS (fun q _ h => hFc q h) hFc (fun q _ h => hFc q h) (fun E9 ce9 q9 uu t H1 locs ht hvm hx_10 hB hz1 hk1 hS hce hcv hcl => ?_) (fun uu t H1 locs ht hvm hw_3 hB hz1 hk1 hS => ?_)
  ·
    obtain ⟨w_4, k_5, h_6, na_7, cnt_8, cel_9⟩ := uu
    obtain ⟨hEn, hP1, hD1⟩ := hB
    rw [ht] at hP1
    obtain ⟨hP, hD⟩ := va_join (wr := []) (w1 := [(aR, .inr (0, [.ref aT, .ref aS])), (aT, .inr (2, [.ref aB, .int (nI u), .int (nI en), .int (nI h_6), .int na_7, .int w_4, .int (nI k_5)])), (aB, .inl (kB, 65536, .inl B)), (aS, .inr (1, [.ref aN, .ref aC])), (aN, .inl (kN, 5, .inl (fun j => nI (cnt_8 j)))), (aC, .inl (kC, 52035, .inl cel_9))]) hP hD [0, 1, 2, 3, 4, 5] [] rfl rfl (by decide) (by decide) hk1 hFc hP1 hD1
    generalize H1 = H at hP hS hce ⊢
    have hP : va_P (dC, dI) vwCl [(aR, .inr (0, [.ref aT, .ref aS])), (aT, .inr (2, [.ref aB, .int (nI u), .int (nI en), .int (nI h_6), .int na_7, .int w_4, .int (nI k_5)])), (aB, .inl (kB, 65536, .inl B)), (aS, .inr (1, [.ref aN, .ref aC])), (aN, .inl (kN, 5, .inl (fun j => nI (cnt_8 j)))), (aC, .inl (kC, 52035, .inl cel_9))] H := hP
    have hD : va_D A [(aR, .inr (0, [.ref aT, .ref aS])), (aT, .inr (2, [.ref aB, .int (nI u), .int (nI en), .int (nI h_6), .int na_7, .int w_4, .int (nI k_5)])), (aB, .inl (kB, 65536, .inl B)), (aS, .inr (1, [.ref aN, .ref aC])), (aN, .inl (kN, 5, .inl (fun j => nI (cnt_8 j)))), (aC, .inl (kC, 52035, .inl cel_9))] := hD
    have hP9 := hP.sub (ws' := [(aR, .inr (0, [.ref aT, .ref aS])), (aT, .inr (2, [.ref aB, .int (nI u), .int (nI en), .int (nI h_6), .int na_7, .int w_4, .int (nI k_5)])), (aB, .inl (kB, 65536, .inl B)), (aS, .inr (1, [.ref aN, .ref aC])), (aN, .inl (kN, 5, .inl (fun j => nI (cnt_8 j)))), (aC, .inl (kC, 52035, .inl cel_9))]) [0, 1, 2, 3, 4, 5] rfl
    have hD9 := hD.sub (ws' := [(aR, .inr (0, [.ref aT, .ref aS])), (aT, .inr (2, [.ref aB, .int (nI u), .int (nI en), .int (nI h_6), .int na_7, .int w_4, .int (nI k_5)])), (aB, .inl (kB, 65536, .inl B)), (aS, .inr (1, [.ref aN, .ref aC])), (aN, .inl (kN, 5, .inl (fun j => nI (cnt_8 j)))), (aC, .inl (kC, 52035, .inl cel_9))]) [0, 1, 2, 3, 4, 5] (by decide) rfl
    exact vx_out (fun x hx => (htab x hx).elim) hlocks hce hcv hcl (fun t ht hvm => ⟨(w_4, k_5, h_6, na_7, cnt_8, cel_9), by simp only [zCamera, zListP, zNumP, zB_ok, zB_er, hx_10], ⟨hEn, by rw [ht]; exact hP9, hD9⟩, hS.F ht⟩) hS.2.2 (by decide) (by decide)
  ·
    obtain ⟨h_2, rfl⟩ : ∃ z, z = uu := ⟨_, rfl⟩
    obtain ⟨hP1, hD1, hsz1⟩ := hB
    rw [ht] at hP1 hsz1
    obtain ⟨hP, hD⟩ := va_join (wr := []) (w1 := [(aR, .inr (0, [.ref aT, .ref aS])), (aT, .inr (2, [.ref aB, .int (nI u), .int (nI en), .int (nI h_2), .int na, .int w, .int wa])), (aB, .inl (kB, 65536, .inl B)), (aS, .inr (1, [.ref aN, .ref aC])), (aN, .inl (kN, 5, .inl (fun j => nI (cnt j)))), (aC, .inl (kC, 52035, .inl cel))]) hP hD [0, 1, 2, 3, 4, 5] [] rfl rfl (by decide) (by decide) hk1 hFc hP1 hD1
    refine zt_tight (hsz1.trans hzs) ?_
    generalize H1 = H at hP hS ⊢
    have hP : va_P (dC, dI) vwCl [(aR, .inr (0, [.ref aT, .ref aS])), (aT, .inr (2, [.ref aB, .int (nI u), .int (nI en), .int (nI h_2), .int na, .int w, .int wa])), (aB, .inl (kB, 65536, .inl B)), (aS, .inr (1, [.ref aN, .ref aC])), (aN, .inl (kN, 5, .inl (fun j => nI (cnt j)))), (aC, .inl (kC, 52035, .inl cel))] H := hP
    have hD : va_D A [(aR, .inr (0, [.ref aT, .ref aS])), (aT, .inr (2, [.ref aB, .int (nI u), .int (nI en), .int (nI h_2), .int na, .int w, .int wa])), (aB, .inl (kB, 65536, .inl B)), (aS, .inr (1, [.ref aN, .ref aC])), (aN, .inl (kN, 5, .inl (fun j => nI (cnt j)))), (aC, .inl (kC, 52035, .inl cel))] := hD
    have hw_3i := zName_in hw_3
    refine lv_aload_n hx hb d_Rd_takeCamera_8 rfl (lv_at hl 0 rfl) ?_
    refine lv_iconst (v := 0) hx hb d_Rd_takeCamera_9 (by decide) ?_
    refine lv_iconst (v := 3) hx hb d_Rd_takeCamera_10 (by decide) ?_
    refine lv_iconst (v := 3) hx hb d_Rd_takeCamera_11 (by decide) ?_
    refine lv_iconst (v := 0) hx hb d_Rd_takeCamera_12 (by decide) ?_
    refine lv_ldc (v := -4194304) hx hb hown (hz _ tw_364) d_Rd_takeCamera_13 ?_
    refine lv_ldc (v := 4194304) hx hb hown (hz _ tw_365) d_Rd_takeCamera_15 ?_
    have hPc := hP.sub (ws' := [(aR, .inr (0, [.ref aT, .ref aS])), (aT, .inr (2, [.ref aB, .int (nI u), .int (nI en), .int (nI h_2), .int na, .int w, .int wa])), (aB, .inl (kB, 65536, .inl B)), (aS, .inr (1, [.ref aN, .ref aC])), (aN, .inl (kN, 5, .inl (fun j => nI (cnt j)))), (aC, .inl (kC, 52035, .inl cel))]) [0, 1, 2, 3, 4, 5] rfl
    have hDc := hD.sub (ws' := [(aR, .inr (0, [.ref aT, .ref aS])), (aT, .inr (2, [.ref aB, .int (nI u), .int (nI en), .int (nI h_2), .int na, .int w, .int wa])), (aB, .inl (kB, 65536, .inl B)), (aS, .inr (1, [.ref aN, .ref aC])), (aN, .inl (kN, 5, .inl (fun j => nI (cnt j)))), (aC, .inl (kC, 52035, .inl cel))]) [0, 1, 2, 3, 4, 5] (by decide) rfl
    have hKc := hK.sub (tys' := [(kB, .byte), (kN, .int), (kC, .int)]) [0, 1, 2] rfl
    have hFc := va_free (wc := [(aR, .inr (0, [.ref aT, .ref aS])), (aT, .inr (2, [.ref aB, .int (nI u), .int (nI en), .int (nI h_2), .int na, .int w, .int wa])), (aB, .inl (kB, 65536, .inl B)), (aS, .inr (1, [.ref aN, .ref aC])), (aN, .inl (kN, 5, .inl (fun j => nI (cnt j)))), (aC, .inl (kC, 52035, .inl cel))]) hD hS hA [0, 1, 2, 3, 4, 5] rfl
    refine zt_size (fun hzs => ?_)
    refine vx_calli (vx_runV (As := [.int 0, .int (nI 3), .int (nI 3), .int (nI 0), .int (-4194304), .int 4194304]) (rest := []) ⟨hx, hb, hml, hown, hts⟩ (c_Rd_takeList l hst G dC dI H.size aR aT aS aB u en h_2 na w wa kB B aN aC kN cnt kC cel 0 3 3 0 (-4194304) 4194304 (by omega) (by omega) (by omega) (by omega) (by omega)) (cwV 6 hts (gV tw_366 tw_368 ts_9 tw_2 tw_369 rfl) rfl rfl rfl (by decide +kernel) ⟨Nat.le_of_ble_eq_true rfl, Nat.le_of_ble_eq_true rfl⟩) (PW_preV hPc hKc hDc hE hS hFc (ci := 0) (q0 := 0) rfl rfl) rfl rfl hl.1 rfl (lv_room (Nat.le_of_ble_eq_true rfl)) d_Rd_takeCamera_17 ⟨Nat.le_of_ble_eq_true rfl, Nat.le_of_ble_eq_true rfl⟩) hS (fun q _ h => hFc q h) hFc (fun q _ h => hFc q h) (fun E9 ce9 q9 uu t H1 locs ht hvm hx_23 hB hz1 hk1 hS hce hcv hcl => ?_) (fun r_11 uu t H1 locs ht hvm hw_16 hB hz1 hk1 hS => ?_)
    ·
      obtain ⟨w_17, k_18, h_19, na_20, cnt_21, cel_22⟩ := uu
      obtain ⟨hEn, hP1, hD1⟩ := hB
      rw [ht] at hP1
      obtain ⟨hP, hD⟩ := va_join (wr := []) (w1 := [(aR, .inr (0, [.ref aT, .ref aS])), (aT, .inr (2, [.ref aB, .int (nI u), .int (nI en), .int (nI h_19), .int na_20, .int w_17, .int (nI k_18)])), (aB, .inl (kB, 65536, .inl B)), (aS, .inr (1, [.ref aN, .ref aC])), (aN, .inl (kN, 5, .inl (fun j => nI (cnt_21 j)))), (aC, .inl (kC, 52035, .inl cel_22))]) hP hD [0, 1, 2, 3, 4, 5] [] rfl rfl (by decide) (by decide) hk1 hFc hP1 hD1
      generalize H1 = H at hP hS hce ⊢
      have hP : va_P (dC, dI) vwCl [(aR, .inr (0, [.ref aT, .ref aS])), (aT, .inr (2, [.ref aB, .int (nI u), .int (nI en), .int (nI h_19), .int na_20, .int w_17, .int (nI k_18)])), (aB, .inl (kB, 65536, .inl B)), (aS, .inr (1, [.ref aN, .ref aC])), (aN, .inl (kN, 5, .inl (fun j => nI (cnt_21 j)))), (aC, .inl (kC, 52035, .inl cel_22))] H := hP
      have hD : va_D A [(aR, .inr (0, [.ref aT, .ref aS])), (aT, .inr (2, [.ref aB, .int (nI u), .int (nI en), .int (nI h_19), .int na_20, .int w_17, .int (nI k_18)])), (aB, .inl (kB, 65536, .inl B)), (aS, .inr (1, [.ref aN, .ref aC])), (aN, .inl (kN, 5, .inl (fun j => nI (cnt_21 j)))), (aC, .inl (kC, 52035, .inl cel_22))] := hD
      simp only [zf02, zf01, zf11, zf12, zf21, zf22, decide_true, decide_false] at hx_23
      have hP9 := hP.sub (ws' := [(aR, .inr (0, [.ref aT, .ref aS])), (aT, .inr (2, [.ref aB, .int (nI u), .int (nI en), .int (nI h_19), .int na_20, .int w_17, .int (nI k_18)])), (aB, .inl (kB, 65536, .inl B)), (aS, .inr (1, [.ref aN, .ref aC])), (aN, .inl (kN, 5, .inl (fun j => nI (cnt_21 j)))), (aC, .inl (kC, 52035, .inl cel_22))]) [0, 1, 2, 3, 4, 5] rfl
      have hD9 := hD.sub (ws' := [(aR, .inr (0, [.ref aT, .ref aS])), (aT, .inr (2, [.ref aB, .int (nI u), .int (nI en), .int (nI h_19), .int na_20, .int w_17, .int (nI k_18)])), (aB, .inl (kB, 65536, .inl B)), (aS, .inr (1, [.ref aN, .ref aC])), (aN, .inl (kN, 5, .inl (fun j => nI (cnt_21 j)))), (aC, .inl (kC, 52035, .inl cel_22))]) [0, 1, 2, 3, 4, 5] (by decide) rfl
      exact vx_out (fun x hx => (htab x hx).elim) hlocks hce hcv hcl (fun t ht hvm => ⟨(w_17, k_18, h_19, na_20, cnt_21, cel_22), by simp only [zCamera, zListP, zNumP, zB_ok, zB_er, hw_3, hx_23], ⟨hEn, by rw [ht]; exact hP9, hD9⟩, hS.F ht⟩) hS.2.2 (by decide) (by decide)
    ·
      obtain ⟨h_12, na_13, cel_14, n_15⟩ := uu
      obtain ⟨hP1, hD1, hsz1⟩ := hB
      rw [ht] at hP1 hsz1
      obtain ⟨hP, hD⟩ := va_join (wr := []) (w1 := [(aR, .inr (0, [.ref aT, .ref aS])), (aT, .inr (2, [.ref aB, .int (nI u), .int (nI en), .int (nI h_12), .int na_13, .int w, .int wa])), (aB, .inl (kB, 65536, .inl B)), (aS, .inr (1, [.ref aN, .ref aC])), (aN, .inl (kN, 5, .inl (fun j => nI (cnt j)))), (aC, .inl (kC, 52035, .inl cel_14))]) hP hD [0, 1, 2, 3, 4, 5] [] rfl rfl (by decide) (by decide) hk1 hFc hP1 hD1
      refine zt_tight (hsz1.trans hzs) ?_
      generalize H1 = H at hP hS ⊢
      have hP : va_P (dC, dI) vwCl [(aR, .inr (0, [.ref aT, .ref aS])), (aT, .inr (2, [.ref aB, .int (nI u), .int (nI en), .int (nI h_12), .int na_13, .int w, .int wa])), (aB, .inl (kB, 65536, .inl B)), (aS, .inr (1, [.ref aN, .ref aC])), (aN, .inl (kN, 5, .inl (fun j => nI (cnt j)))), (aC, .inl (kC, 52035, .inl cel_14))] H := hP
      have hD : va_D A [(aR, .inr (0, [.ref aT, .ref aS])), (aT, .inr (2, [.ref aB, .int (nI u), .int (nI en), .int (nI h_12), .int na_13, .int w, .int wa])), (aB, .inl (kB, 65536, .inl B)), (aS, .inr (1, [.ref aN, .ref aC])), (aN, .inl (kN, 5, .inl (fun j => nI (cnt j)))), (aC, .inl (kC, 52035, .inl cel_14))] := hD
      obtain ⟨rfl, hw_16a⟩ := hw_16
      simp only [zf02, zf01, zf11, zf12, zf21, zf22, decide_true, decide_false] at hw_16a
      have hw_16i := zList_in (by omega) hw_16a
      refine lv_pop hx hb d_Rd_takeCamera_20 rfl ?_
      refine lv_aload_n hx hb d_Rd_takeCamera_21 rfl (lv_at hl 0 rfl) ?_
      refine lv_bipush (v := 44) hx hb d_Rd_takeCamera_22 (by decide) ?_
      refine va_ldcS (q := G.2.1 9) hx hb hown (hE.2.2.2.2.2.2.2 9 (by decide)).2 d_Rd_takeCamera_24 ?_
      have hPc := hP.sub (ws' := [(aR, .inr (0, [.ref aT, .ref aS])), (aT, .inr (2, [.ref aB, .int (nI u), .int (nI en), .int (nI h_12), .int na_13, .int w, .int wa])), (aB, .inl (kB, 65536, .inl B)), (aS, .inr (1, [.ref aN, .ref aC])), (aN, .inl (kN, 5, .inl (fun j => nI (cnt j)))), (aC, .inl (kC, 52035, .inl cel_14))]) [0, 1, 2, 3, 4, 5] rfl
      have hDc := hD.sub (ws' := [(aR, .inr (0, [.ref aT, .ref aS])), (aT, .inr (2, [.ref aB, .int (nI u), .int (nI en), .int (nI h_12), .int na_13, .int w, .int wa])), (aB, .inl (kB, 65536, .inl B)), (aS, .inr (1, [.ref aN, .ref aC])), (aN, .inl (kN, 5, .inl (fun j => nI (cnt j)))), (aC, .inl (kC, 52035, .inl cel_14))]) [0, 1, 2, 3, 4, 5] (by decide) rfl
      have hKc := hK.sub (tys' := [(kB, .byte), (kN, .int), (kC, .int)]) [0, 1, 2] rfl
      have hFc := va_free (wc := [(aR, .inr (0, [.ref aT, .ref aS])), (aT, .inr (2, [.ref aB, .int (nI u), .int (nI en), .int (nI h_12), .int na_13, .int w, .int wa])), (aB, .inl (kB, 65536, .inl B)), (aS, .inr (1, [.ref aN, .ref aC])), (aN, .inl (kN, 5, .inl (fun j => nI (cnt j)))), (aC, .inl (kC, 52035, .inl cel_14))]) hD hS hA [0, 1, 2, 3, 4, 5] rfl
      refine zt_size (fun hzs => ?_)
      refine vx_callv (vx_runV (As := [.int 44, .ref (G.2.1 9)]) (rest := []) ⟨hx, hb, hml, hown, hts⟩ (c_Rd_takeName l hst G dC dI H.size aR aT aS aB u en h_12 na_13 w wa kB B aN aC kN cnt kC cel_14 44 9 (by omega) (by omega) (by decide) (zSb_len _)) (cwV 2 hts (gV tw_359 tw_361 ts_8 tw_2 tw_362 rfl) rfl rfl rfl (by decide +kernel) ⟨Nat.le_of_ble_eq_true rfl, Nat.le_of_ble_eq_true rfl⟩) (PW_preV hPc hKc hDc hE hS hFc (ci := 0) (q0 := 0) rfl rfl) rfl rfl hl.1 rfl (lv_room (Nat.le_of_ble_eq_true rfl)) d_Rd_takeCamera_26 ⟨Nat.le_of_ble_eq_true rfl, Nat.le_of_ble_eq_true rfl⟩) hS (fun q _ h => hFc q h) hFc (fun q _ h => hFc q h) (fun E9 ce9 q9 uu t H1 locs ht hvm hx_33 hB hz1 hk1 hS hce hcv hcl => ?_) (fun uu t H1 locs ht hvm hw_26 hB hz1 hk1 hS => ?_)
      ·
        obtain ⟨w_27, k_28, h_29, na_30, cnt_31, cel_32⟩ := uu
        obtain ⟨hEn, hP1, hD1⟩ := hB
        rw [ht] at hP1
        obtain ⟨hP, hD⟩ := va_join (wr := []) (w1 := [(aR, .inr (0, [.ref aT, .ref aS])), (aT, .inr (2, [.ref aB, .int (nI u), .int (nI en), .int (nI h_29), .int na_30, .int w_27, .int (nI k_28)])), (aB, .inl (kB, 65536, .inl B)), (aS, .inr (1, [.ref aN, .ref aC])), (aN, .inl (kN, 5, .inl (fun j => nI (cnt_31 j)))), (aC, .inl (kC, 52035, .inl cel_32))]) hP hD [0, 1, 2, 3, 4, 5] [] rfl rfl (by decide) (by decide) hk1 hFc hP1 hD1
        generalize H1 = H at hP hS hce ⊢
        have hP : va_P (dC, dI) vwCl [(aR, .inr (0, [.ref aT, .ref aS])), (aT, .inr (2, [.ref aB, .int (nI u), .int (nI en), .int (nI h_29), .int na_30, .int w_27, .int (nI k_28)])), (aB, .inl (kB, 65536, .inl B)), (aS, .inr (1, [.ref aN, .ref aC])), (aN, .inl (kN, 5, .inl (fun j => nI (cnt_31 j)))), (aC, .inl (kC, 52035, .inl cel_32))] H := hP
        have hD : va_D A [(aR, .inr (0, [.ref aT, .ref aS])), (aT, .inr (2, [.ref aB, .int (nI u), .int (nI en), .int (nI h_29), .int na_30, .int w_27, .int (nI k_28)])), (aB, .inl (kB, 65536, .inl B)), (aS, .inr (1, [.ref aN, .ref aC])), (aN, .inl (kN, 5, .inl (fun j => nI (cnt_31 j)))), (aC, .inl (kC, 52035, .inl cel_32))] := hD
        have hP9 := hP.sub (ws' := [(aR, .inr (0, [.ref aT, .ref aS])), (aT, .inr (2, [.ref aB, .int (nI u), .int (nI en), .int (nI h_29), .int na_30, .int w_27, .int (nI k_28)])), (aB, .inl (kB, 65536, .inl B)), (aS, .inr (1, [.ref aN, .ref aC])), (aN, .inl (kN, 5, .inl (fun j => nI (cnt_31 j)))), (aC, .inl (kC, 52035, .inl cel_32))]) [0, 1, 2, 3, 4, 5] rfl
        have hD9 := hD.sub (ws' := [(aR, .inr (0, [.ref aT, .ref aS])), (aT, .inr (2, [.ref aB, .int (nI u), .int (nI en), .int (nI h_29), .int na_30, .int w_27, .int (nI k_28)])), (aB, .inl (kB, 65536, .inl B)), (aS, .inr (1, [.ref aN, .ref aC])), (aN, .inl (kN, 5, .inl (fun j => nI (cnt_31 j)))), (aC, .inl (kC, 52035, .inl cel_32))]) [0, 1, 2, 3, 4, 5] (by decide) rfl
        exact vx_out (fun x hx => (htab x hx).elim) hlocks hce hcv hcl (fun t ht hvm => ⟨(w_27, k_28, h_29, na_30, cnt_31, cel_32), by simp only [zCamera, zListP, zNumP, zB_ok, zB_er, hw_3, hw_16a, hx_33], ⟨hEn, by rw [ht]; exact hP9, hD9⟩, hS.F ht⟩) hS.2.2 (by decide) (by decide)
      ·
        obtain ⟨h_25, rfl⟩ : ∃ z, z = uu := ⟨_, rfl⟩
        obtain ⟨hP1, hD1, hsz1⟩ := hB
        rw [ht] at hP1 hsz1
        obtain ⟨hP, hD⟩ := va_join (wr := []) (w1 := [(aR, .inr (0, [.ref aT, .ref aS])), (aT, .inr (2, [.ref aB, .int (nI u), .int (nI en), .int (nI h_25), .int na_13, .int w, .int wa])), (aB, .inl (kB, 65536, .inl B)), (aS, .inr (1, [.ref aN, .ref aC])), (aN, .inl (kN, 5, .inl (fun j => nI (cnt j)))), (aC, .inl (kC, 52035, .inl cel_14))]) hP hD [0, 1, 2, 3, 4, 5] [] rfl rfl (by decide) (by decide) hk1 hFc hP1 hD1
        refine zt_tight (hsz1.trans hzs) ?_
        generalize H1 = H at hP hS ⊢
        have hP : va_P (dC, dI) vwCl [(aR, .inr (0, [.ref aT, .ref aS])), (aT, .inr (2, [.ref aB, .int (nI u), .int (nI en), .int (nI h_25), .int na_13, .int w, .int wa])), (aB, .inl (kB, 65536, .inl B)), (aS, .inr (1, [.ref aN, .ref aC])), (aN, .inl (kN, 5, .inl (fun j => nI (cnt j)))), (aC, .inl (kC, 52035, .inl cel_14))] H := hP
        have hD : va_D A [(aR, .inr (0, [.ref aT, .ref aS])), (aT, .inr (2, [.ref aB, .int (nI u), .int (nI en), .int (nI h_25), .int na_13, .int w, .int wa])), (aB, .inl (kB, 65536, .inl B)), (aS, .inr (1, [.ref aN, .ref aC])), (aN, .inl (kN, 5, .inl (fun j => nI (cnt j)))), (aC, .inl (kC, 52035, .inl cel_14))] := hD
        have hw_26i := zName_in hw_26
        refine lv_aload_n hx hb d_Rd_takeCamera_29 rfl (lv_at hl 0 rfl) ?_
        refine lv_iconst (v := 0) hx hb d_Rd_takeCamera_30 (by decide) ?_
        refine lv_iconst (v := 3) hx hb d_Rd_takeCamera_31 (by decide) ?_
        refine lv_iconst (v := 3) hx hb d_Rd_takeCamera_32 (by decide) ?_
        refine lv_iconst (v := 3) hx hb d_Rd_takeCamera_33 (by decide) ?_
        refine lv_ldc (v := -1048576) hx hb hown (hz _ tw_384) d_Rd_takeCamera_34 ?_
        refine lv_ldc (v := 1048576) hx hb hown (hz _ tw_385) d_Rd_takeCamera_36 ?_
        have hPc := hP.sub (ws' := [(aR, .inr (0, [.ref aT, .ref aS])), (aT, .inr (2, [.ref aB, .int (nI u), .int (nI en), .int (nI h_25), .int na_13, .int w, .int wa])), (aB, .inl (kB, 65536, .inl B)), (aS, .inr (1, [.ref aN, .ref aC])), (aN, .inl (kN, 5, .inl (fun j => nI (cnt j)))), (aC, .inl (kC, 52035, .inl cel_14))]) [0, 1, 2, 3, 4, 5] rfl
        have hDc := hD.sub (ws' := [(aR, .inr (0, [.ref aT, .ref aS])), (aT, .inr (2, [.ref aB, .int (nI u), .int (nI en), .int (nI h_25), .int na_13, .int w, .int wa])), (aB, .inl (kB, 65536, .inl B)), (aS, .inr (1, [.ref aN, .ref aC])), (aN, .inl (kN, 5, .inl (fun j => nI (cnt j)))), (aC, .inl (kC, 52035, .inl cel_14))]) [0, 1, 2, 3, 4, 5] (by decide) rfl
        have hKc := hK.sub (tys' := [(kB, .byte), (kN, .int), (kC, .int)]) [0, 1, 2] rfl
        have hFc := va_free (wc := [(aR, .inr (0, [.ref aT, .ref aS])), (aT, .inr (2, [.ref aB, .int (nI u), .int (nI en), .int (nI h_25), .int na_13, .int w, .int wa])), (aB, .inl (kB, 65536, .inl B)), (aS, .inr (1, [.ref aN, .ref aC])), (aN, .inl (kN, 5, .inl (fun j => nI (cnt j)))), (aC, .inl (kC, 52035, .inl cel_14))]) hD hS hA [0, 1, 2, 3, 4, 5] rfl
        refine zt_size (fun hzs => ?_)
        refine vx_calli (vx_runV (As := [.int 0, .int (nI 3), .int (nI 3), .int (nI 3), .int (-1048576), .int 1048576]) (rest := []) ⟨hx, hb, hml, hown, hts⟩ (c_Rd_takeList l hst G dC dI H.size aR aT aS aB u en h_25 na_13 w wa kB B aN aC kN cnt kC cel_14 0 3 3 3 (-1048576) 1048576 (by omega) (by omega) (by omega) (by omega) (by omega)) (cwV 6 hts (gV tw_366 tw_368 ts_9 tw_2 tw_369 rfl) rfl rfl rfl (by decide +kernel) ⟨Nat.le_of_ble_eq_true rfl, Nat.le_of_ble_eq_true rfl⟩) (PW_preV hPc hKc hDc hE hS hFc (ci := 0) (q0 := 0) rfl rfl) rfl rfl hl.1 rfl (lv_room (Nat.le_of_ble_eq_true rfl)) d_Rd_takeCamera_38 ⟨Nat.le_of_ble_eq_true rfl, Nat.le_of_ble_eq_true rfl⟩) hS (fun q _ h => hFc q h) hFc (fun q _ h => hFc q h) (fun E9 ce9 q9 uu t H1 locs ht hvm hx_46 hB hz1 hk1 hS hce hcv hcl => ?_) (fun r_34 uu t H1 locs ht hvm hw_39 hB hz1 hk1 hS => ?_)
        ·
          obtain ⟨w_40, k_41, h_42, na_43, cnt_44, cel_45⟩ := uu
          obtain ⟨hEn, hP1, hD1⟩ := hB
          rw [ht] at hP1
          obtain ⟨hP, hD⟩ := va_join (wr := []) (w1 := [(aR, .inr (0, [.ref aT, .ref aS])), (aT, .inr (2, [.ref aB, .int (nI u), .int (nI en), .int (nI h_42), .int na_43, .int w_40, .int (nI k_41)])), (aB, .inl (kB, 65536, .inl B)), (aS, .inr (1, [.ref aN, .ref aC])), (aN, .inl (kN, 5, .inl (fun j => nI (cnt_44 j)))), (aC, .inl (kC, 52035, .inl cel_45))]) hP hD [0, 1, 2, 3, 4, 5] [] rfl rfl (by decide) (by decide) hk1 hFc hP1 hD1
          generalize H1 = H at hP hS hce ⊢
          have hP : va_P (dC, dI) vwCl [(aR, .inr (0, [.ref aT, .ref aS])), (aT, .inr (2, [.ref aB, .int (nI u), .int (nI en), .int (nI h_42), .int na_43, .int w_40, .int (nI k_41)])), (aB, .inl (kB, 65536, .inl B)), (aS, .inr (1, [.ref aN, .ref aC])), (aN, .inl (kN, 5, .inl (fun j => nI (cnt_44 j)))), (aC, .inl (kC, 52035, .inl cel_45))] H := hP
          have hD : va_D A [(aR, .inr (0, [.ref aT, .ref aS])), (aT, .inr (2, [.ref aB, .int (nI u), .int (nI en), .int (nI h_42), .int na_43, .int w_40, .int (nI k_41)])), (aB, .inl (kB, 65536, .inl B)), (aS, .inr (1, [.ref aN, .ref aC])), (aN, .inl (kN, 5, .inl (fun j => nI (cnt_44 j)))), (aC, .inl (kC, 52035, .inl cel_45))] := hD
          simp only [zf02, zf01, zf11, zf12, zf21, zf22, decide_true, decide_false] at hx_46
          have hP9 := hP.sub (ws' := [(aR, .inr (0, [.ref aT, .ref aS])), (aT, .inr (2, [.ref aB, .int (nI u), .int (nI en), .int (nI h_42), .int na_43, .int w_40, .int (nI k_41)])), (aB, .inl (kB, 65536, .inl B)), (aS, .inr (1, [.ref aN, .ref aC])), (aN, .inl (kN, 5, .inl (fun j => nI (cnt_44 j)))), (aC, .inl (kC, 52035, .inl cel_45))]) [0, 1, 2, 3, 4, 5] rfl
          have hD9 := hD.sub (ws' := [(aR, .inr (0, [.ref aT, .ref aS])), (aT, .inr (2, [.ref aB, .int (nI u), .int (nI en), .int (nI h_42), .int na_43, .int w_40, .int (nI k_41)])), (aB, .inl (kB, 65536, .inl B)), (aS, .inr (1, [.ref aN, .ref aC])), (aN, .inl (kN, 5, .inl (fun j => nI (cnt_44 j)))), (aC, .inl (kC, 52035, .inl cel_45))]) [0, 1, 2, 3, 4, 5] (by decide) rfl
          exact vx_out (fun x hx => (htab x hx).elim) hlocks hce hcv hcl (fun t ht hvm => ⟨(w_40, k_41, h_42, na_43, cnt_44, cel_45), by simp only [zCamera, zListP, zNumP, zB_ok, zB_er, hw_3, hw_16a, hw_26, hx_46], ⟨hEn, by rw [ht]; exact hP9, hD9⟩, hS.F ht⟩) hS.2.2 (by decide) (by decide)
        ·
          obtain ⟨h_35, na_36, cel_37, n_38⟩ := uu
          obtain ⟨hP1, hD1, hsz1⟩ := hB
          rw [ht] at hP1 hsz1
          obtain ⟨hP, hD⟩ := va_join (wr := []) (w1 := [(aR, .inr (0, [.ref aT, .ref aS])), (aT, .inr (2, [.ref aB, .int (nI u), .int (nI en), .int (nI h_35), .int na_36, .int w, .int wa])), (aB, .inl (kB, 65536, .inl B)), (aS, .inr (1, [.ref aN, .ref aC])), (aN, .inl (kN, 5, .inl (fun j => nI (cnt j)))), (aC, .inl (kC, 52035, .inl cel_37))]) hP hD [0, 1, 2, 3, 4, 5] [] rfl rfl (by decide) (by decide) hk1 hFc hP1 hD1
          refine zt_tight (hsz1.trans hzs) ?_
          generalize H1 = H at hP hS ⊢
          have hP : va_P (dC, dI) vwCl [(aR, .inr (0, [.ref aT, .ref aS])), (aT, .inr (2, [.ref aB, .int (nI u), .int (nI en), .int (nI h_35), .int na_36, .int w, .int wa])), (aB, .inl (kB, 65536, .inl B)), (aS, .inr (1, [.ref aN, .ref aC])), (aN, .inl (kN, 5, .inl (fun j => nI (cnt j)))), (aC, .inl (kC, 52035, .inl cel_37))] H := hP
          have hD : va_D A [(aR, .inr (0, [.ref aT, .ref aS])), (aT, .inr (2, [.ref aB, .int (nI u), .int (nI en), .int (nI h_35), .int na_36, .int w, .int wa])), (aB, .inl (kB, 65536, .inl B)), (aS, .inr (1, [.ref aN, .ref aC])), (aN, .inl (kN, 5, .inl (fun j => nI (cnt j)))), (aC, .inl (kC, 52035, .inl cel_37))] := hD
          obtain ⟨rfl, hw_39a⟩ := hw_39
          simp only [zf02, zf01, zf11, zf12, zf21, zf22, decide_true, decide_false] at hw_39a
          have hw_39i := zList_in (by omega) hw_39a
          refine lv_pop hx hb d_Rd_takeCamera_41 rfl ?_
          refine lv_aload_n hx hb d_Rd_takeCamera_42 rfl (lv_at hl 0 rfl) ?_
          refine lv_bipush (v := 44) hx hb d_Rd_takeCamera_43 (by decide) ?_
          refine va_ldcS (q := G.2.1 10) hx hb hown (hE.2.2.2.2.2.2.2 10 (by decide)).2 d_Rd_takeCamera_45 ?_
          have hPc := hP.sub (ws' := [(aR, .inr (0, [.ref aT, .ref aS])), (aT, .inr (2, [.ref aB, .int (nI u), .int (nI en), .int (nI h_35), .int na_36, .int w, .int wa])), (aB, .inl (kB, 65536, .inl B)), (aS, .inr (1, [.ref aN, .ref aC])), (aN, .inl (kN, 5, .inl (fun j => nI (cnt j)))), (aC, .inl (kC, 52035, .inl cel_37))]) [0, 1, 2, 3, 4, 5] rfl
          have hDc := hD.sub (ws' := [(aR, .inr (0, [.ref aT, .ref aS])), (aT, .inr (2, [.ref aB, .int (nI u), .int (nI en), .int (nI h_35), .int na_36, .int w, .int wa])), (aB, .inl (kB, 65536, .inl B)), (aS, .inr (1, [.ref aN, .ref aC])), (aN, .inl (kN, 5, .inl (fun j => nI (cnt j)))), (aC, .inl (kC, 52035, .inl cel_37))]) [0, 1, 2, 3, 4, 5] (by decide) rfl
          have hKc := hK.sub (tys' := [(kB, .byte), (kN, .int), (kC, .int)]) [0, 1, 2] rfl
          have hFc := va_free (wc := [(aR, .inr (0, [.ref aT, .ref aS])), (aT, .inr (2, [.ref aB, .int (nI u), .int (nI en), .int (nI h_35), .int na_36, .int w, .int wa])), (aB, .inl (kB, 65536, .inl B)), (aS, .inr (1, [.ref aN, .ref aC])), (aN, .inl (kN, 5, .inl (fun j => nI (cnt j)))), (aC, .inl (kC, 52035, .inl cel_37))]) hD hS hA [0, 1, 2, 3, 4, 5] rfl
          refine zt_size (fun hzs => ?_)
          refine vx_callv (vx_runV (As := [.int 44, .ref (G.2.1 10)]) (rest := []) ⟨hx, hb, hml, hown, hts⟩ (c_Rd_takeName l hst G dC dI H.size aR aT aS aB u en h_35 na_36 w wa kB B aN aC kN cnt kC cel_37 44 10 (by omega) (by omega) (by decide) (zSb_len _)) (cwV 2 hts (gV tw_359 tw_361 ts_8 tw_2 tw_362 rfl) rfl rfl rfl (by decide +kernel) ⟨Nat.le_of_ble_eq_true rfl, Nat.le_of_ble_eq_true rfl⟩) (PW_preV hPc hKc hDc hE hS hFc (ci := 0) (q0 := 0) rfl rfl) rfl rfl hl.1 rfl (lv_room (Nat.le_of_ble_eq_true rfl)) d_Rd_takeCamera_47 ⟨Nat.le_of_ble_eq_true rfl, Nat.le_of_ble_eq_true rfl⟩) hS (fun q _ h => hFc q h) hFc (fun q _ h => hFc q h) (fun E9 ce9 q9 uu t H1 locs ht hvm hx_56 hB hz1 hk1 hS hce hcv hcl => ?_) (fun uu t H1 locs ht hvm hw_49 hB hz1 hk1 hS => ?_)
          ·
            obtain ⟨w_50, k_51, h_52, na_53, cnt_54, cel_55⟩ := uu
            obtain ⟨hEn, hP1, hD1⟩ := hB
            rw [ht] at hP1
            obtain ⟨hP, hD⟩ := va_join (wr := []) (w1 := [(aR, .inr (0, [.ref aT, .ref aS])), (aT, .inr (2, [.ref aB, .int (nI u), .int (nI en), .int (nI h_52), .int na_53, .int w_50, .int (nI k_51)])), (aB, .inl (kB, 65536, .inl B)), (aS, .inr (1, [.ref aN, .ref aC])), (aN, .inl (kN, 5, .inl (fun j => nI (cnt_54 j)))), (aC, .inl (kC, 52035, .inl cel_55))]) hP hD [0, 1, 2, 3, 4, 5] [] rfl rfl (by decide) (by decide) hk1 hFc hP1 hD1
            generalize H1 = H at hP hS hce ⊢
            have hP : va_P (dC, dI) vwCl [(aR, .inr (0, [.ref aT, .ref aS])), (aT, .inr (2, [.ref aB, .int (nI u), .int (nI en), .int (nI h_52), .int na_53, .int w_50, .int (nI k_51)])), (aB, .inl (kB, 65536, .inl B)), (aS, .inr (1, [.ref aN, .ref aC])), (aN, .inl (kN, 5, .inl (fun j => nI (cnt_54 j)))), (aC, .inl (kC, 52035, .inl cel_55))] H := hP
            have hD : va_D A [(aR, .inr (0, [.ref aT, .ref aS])), (aT, .inr (2, [.ref aB, .int (nI u), .int (nI en), .int (nI h_52), .int na_53, .int w_50, .int (nI k_51)])), (aB, .inl (kB, 65536, .inl B)), (aS, .inr (1, [.ref aN, .ref aC])), (aN, .inl (kN, 5, .inl (fun j => nI (cnt_54 j)))), (aC, .inl (kC, 52035, .inl cel_55))] := hD
            have hP9 := hP.sub (ws' := [(aR, .inr (0, [.ref aT, .ref aS])), (aT, .inr (2, [.ref aB, .int (nI u), .int (nI en), .int (nI h_52), .int na_53, .int w_50, .int (nI k_51)])), (aB, .inl (kB, 65536, .inl B)), (aS, .inr (1, [.ref aN, .ref aC])), (aN, .inl (kN, 5, .inl (fun j => nI (cnt_54 j)))), (aC, .inl (kC, 52035, .inl cel_55))]) [0, 1, 2, 3, 4, 5] rfl
            have hD9 := hD.sub (ws' := [(aR, .inr (0, [.ref aT, .ref aS])), (aT, .inr (2, [.ref aB, .int (nI u), .int (nI en), .int (nI h_52), .int na_53, .int w_50, .int (nI k_51)])), (aB, .inl (kB, 65536, .inl B)), (aS, .inr (1, [.ref aN, .ref aC])), (aN, .inl (kN, 5, .inl (fun j => nI (cnt_54 j)))), (aC, .inl (kC, 52035, .inl cel_55))]) [0, 1, 2, 3, 4, 5] (by decide) rfl
            exact vx_out (fun x hx => (htab x hx).elim) hlocks hce hcv hcl (fun t ht hvm => ⟨(w_50, k_51, h_52, na_53, cnt_54, cel_55), by simp only [zCamera, zListP, zNumP, zB_ok, zB_er, hw_3, hw_16a, hw_26, hw_39a, hx_56], ⟨hEn, by rw [ht]; exact hP9, hD9⟩, hS.F ht⟩) hS.2.2 (by decide) (by decide)
          ·
            obtain ⟨h_48, rfl⟩ : ∃ z, z = uu := ⟨_, rfl⟩
            obtain ⟨hP1, hD1, hsz1⟩ := hB
            rw [ht] at hP1 hsz1
            obtain ⟨hP, hD⟩ := va_join (wr := []) (w1 := [(aR, .inr (0, [.ref aT, .ref aS])), (aT, .inr (2, [.ref aB, .int (nI u), .int (nI en), .int (nI h_48), .int na_36, .int w, .int wa])), (aB, .inl (kB, 65536, .inl B)), (aS, .inr (1, [.ref aN, .ref aC])), (aN, .inl (kN, 5, .inl (fun j => nI (cnt j)))), (aC, .inl (kC, 52035, .inl cel_37))]) hP hD [0, 1, 2, 3, 4, 5] [] rfl rfl (by decide) (by decide) hk1 hFc hP1 hD1
            refine zt_tight (hsz1.trans hzs) ?_
            generalize H1 = H at hP hS ⊢
            have hP : va_P (dC, dI) vwCl [(aR, .inr (0, [.ref aT, .ref aS])), (aT, .inr (2, [.ref aB, .int (nI u), .int (nI en), .int (nI h_48), .int na_36, .int w, .int wa])), (aB, .inl (kB, 65536, .inl B)), (aS, .inr (1, [.ref aN, .ref aC])), (aN, .inl (kN, 5, .inl (fun j => nI (cnt j)))), (aC, .inl (kC, 52035, .inl cel_37))] H := hP
            have hD : va_D A [(aR, .inr (0, [.ref aT, .ref aS])), (aT, .inr (2, [.ref aB, .int (nI u), .int (nI en), .int (nI h_48), .int na_36, .int w, .int wa])), (aB, .inl (kB, 65536, .inl B)), (aS, .inr (1, [.ref aN, .ref aC])), (aN, .inl (kN, 5, .inl (fun j => nI (cnt j)))), (aC, .inl (kC, 52035, .inl cel_37))] := hD
            have hw_49i := zName_in hw_49
            refine lv_aload_n hx hb d_Rd_takeCamera_50 rfl (lv_at hl 0 rfl) ?_
            refine lv_bipush (v := 6) hx hb d_Rd_takeCamera_51 (by decide) ?_
            refine lv_bipush (v := 8) hx hb d_Rd_takeCamera_53 (by decide) ?_
            refine lv_sipush (v := 512) hx hb d_Rd_takeCamera_55 (by decide) ?_
            have hPc := hP.sub (ws' := [(aR, .inr (0, [.ref aT, .ref aS])), (aT, .inr (2, [.ref aB, .int (nI u), .int (nI en), .int (nI h_48), .int na_36, .int w, .int wa])), (aB, .inl (kB, 65536, .inl B)), (aS, .inr (1, [.ref aN, .ref aC])), (aN, .inl (kN, 5, .inl (fun j => nI (cnt j)))), (aC, .inl (kC, 52035, .inl cel_37))]) [0, 1, 2, 3, 4, 5] rfl
            have hDc := hD.sub (ws' := [(aR, .inr (0, [.ref aT, .ref aS])), (aT, .inr (2, [.ref aB, .int (nI u), .int (nI en), .int (nI h_48), .int na_36, .int w, .int wa])), (aB, .inl (kB, 65536, .inl B)), (aS, .inr (1, [.ref aN, .ref aC])), (aN, .inl (kN, 5, .inl (fun j => nI (cnt j)))), (aC, .inl (kC, 52035, .inl cel_37))]) [0, 1, 2, 3, 4, 5] (by decide) rfl
            have hKc := hK.sub (tys' := [(kB, .byte), (kN, .int), (kC, .int)]) [0, 1, 2] rfl
            have hFc := va_free (wc := [(aR, .inr (0, [.ref aT, .ref aS])), (aT, .inr (2, [.ref aB, .int (nI u), .int (nI en), .int (nI h_48), .int na_36, .int w, .int wa])), (aB, .inl (kB, 65536, .inl B)), (aS, .inr (1, [.ref aN, .ref aC])), (aN, .inl (kN, 5, .inl (fun j => nI (cnt j)))), (aC, .inl (kC, 52035, .inl cel_37))]) hD hS hA [0, 1, 2, 3, 4, 5] rfl
            refine zt_size (fun hzs => ?_)
            refine vx_calli (vx_runV (As := [.int (nI 6), .int 8, .int 512]) (rest := []) ⟨hx, hb, hml, hown, hts⟩ (c_Rd_takeNumber l hst G dC dI H.size aR aT aS aB u en h_48 na_36 w wa kB B aN aC kN cnt kC cel_37 6 8 512 (by omega) (by omega) (by omega)) (cwV 3 hts (gV tw_387 tw_389 ts_10 tw_2 tw_390 rfl) rfl rfl rfl (by decide +kernel) ⟨Nat.le_of_ble_eq_true rfl, Nat.le_of_ble_eq_true rfl⟩) (PW_preV hPc hKc hDc hE hS hFc (ci := 0) (q0 := 0) rfl rfl) rfl rfl hl.1 rfl (lv_room (Nat.le_of_ble_eq_true rfl)) d_Rd_takeCamera_58 ⟨Nat.le_of_ble_eq_true rfl, Nat.le_of_ble_eq_true rfl⟩) hS (fun q _ h => hFc q h) hFc (fun q _ h => hFc q h) (fun E9 ce9 q9 uu t H1 locs ht hvm hx_68 hB hz1 hk1 hS hce hcv hcl => ?_) (fun r_57 uu t H1 locs ht hvm hw_61 hB hz1 hk1 hS => ?_)
            ·
              obtain ⟨w_62, k_63, h_64, na_65, cnt_66, cel_67⟩ := uu
              obtain ⟨hEn, hP1, hD1⟩ := hB
              rw [ht] at hP1
              obtain ⟨hP, hD⟩ := va_join (wr := []) (w1 := [(aR, .inr (0, [.ref aT, .ref aS])), (aT, .inr (2, [.ref aB, .int (nI u), .int (nI en), .int (nI h_64), .int na_65, .int w_62, .int (nI k_63)])), (aB, .inl (kB, 65536, .inl B)), (aS, .inr (1, [.ref aN, .ref aC])), (aN, .inl (kN, 5, .inl (fun j => nI (cnt_66 j)))), (aC, .inl (kC, 52035, .inl cel_67))]) hP hD [0, 1, 2, 3, 4, 5] [] rfl rfl (by decide) (by decide) hk1 hFc hP1 hD1
              generalize H1 = H at hP hS hce ⊢
              have hP : va_P (dC, dI) vwCl [(aR, .inr (0, [.ref aT, .ref aS])), (aT, .inr (2, [.ref aB, .int (nI u), .int (nI en), .int (nI h_64), .int na_65, .int w_62, .int (nI k_63)])), (aB, .inl (kB, 65536, .inl B)), (aS, .inr (1, [.ref aN, .ref aC])), (aN, .inl (kN, 5, .inl (fun j => nI (cnt_66 j)))), (aC, .inl (kC, 52035, .inl cel_67))] H := hP
              have hD : va_D A [(aR, .inr (0, [.ref aT, .ref aS])), (aT, .inr (2, [.ref aB, .int (nI u), .int (nI en), .int (nI h_64), .int na_65, .int w_62, .int (nI k_63)])), (aB, .inl (kB, 65536, .inl B)), (aS, .inr (1, [.ref aN, .ref aC])), (aN, .inl (kN, 5, .inl (fun j => nI (cnt_66 j)))), (aC, .inl (kC, 52035, .inl cel_67))] := hD
              have hP9 := hP.sub (ws' := [(aR, .inr (0, [.ref aT, .ref aS])), (aT, .inr (2, [.ref aB, .int (nI u), .int (nI en), .int (nI h_64), .int na_65, .int w_62, .int (nI k_63)])), (aB, .inl (kB, 65536, .inl B)), (aS, .inr (1, [.ref aN, .ref aC])), (aN, .inl (kN, 5, .inl (fun j => nI (cnt_66 j)))), (aC, .inl (kC, 52035, .inl cel_67))]) [0, 1, 2, 3, 4, 5] rfl
              have hD9 := hD.sub (ws' := [(aR, .inr (0, [.ref aT, .ref aS])), (aT, .inr (2, [.ref aB, .int (nI u), .int (nI en), .int (nI h_64), .int na_65, .int w_62, .int (nI k_63)])), (aB, .inl (kB, 65536, .inl B)), (aS, .inr (1, [.ref aN, .ref aC])), (aN, .inl (kN, 5, .inl (fun j => nI (cnt_66 j)))), (aC, .inl (kC, 52035, .inl cel_67))]) [0, 1, 2, 3, 4, 5] (by decide) rfl
              exact vx_out (fun x hx => (htab x hx).elim) hlocks hce hcv hcl (fun t ht hvm => ⟨(w_62, k_63, h_64, na_65, cnt_66, cel_67), by simp only [zCamera, zListP, zNumP, zB_ok, zB_er, hw_3, hw_16a, hw_26, hw_39a, hw_49, hx_68], ⟨hEn, by rw [ht]; exact hP9, hD9⟩, hS.F ht⟩) hS.2.2 (by decide) (by decide)
            ·
              obtain ⟨h_58, na_59, cel_60⟩ := uu
              obtain ⟨hP1, hD1, hsz1⟩ := hB
              rw [ht] at hP1 hsz1
              obtain ⟨hP, hD⟩ := va_join (wr := []) (w1 := [(aR, .inr (0, [.ref aT, .ref aS])), (aT, .inr (2, [.ref aB, .int (nI u), .int (nI en), .int (nI h_58), .int na_59, .int w, .int wa])), (aB, .inl (kB, 65536, .inl B)), (aS, .inr (1, [.ref aN, .ref aC])), (aN, .inl (kN, 5, .inl (fun j => nI (cnt j)))), (aC, .inl (kC, 52035, .inl cel_60))]) hP hD [0, 1, 2, 3, 4, 5] [] rfl rfl (by decide) (by decide) hk1 hFc hP1 hD1
              refine zt_tight (hsz1.trans hzs) ?_
              generalize H1 = H at hP hS ⊢
              have hP : va_P (dC, dI) vwCl [(aR, .inr (0, [.ref aT, .ref aS])), (aT, .inr (2, [.ref aB, .int (nI u), .int (nI en), .int (nI h_58), .int na_59, .int w, .int wa])), (aB, .inl (kB, 65536, .inl B)), (aS, .inr (1, [.ref aN, .ref aC])), (aN, .inl (kN, 5, .inl (fun j => nI (cnt j)))), (aC, .inl (kC, 52035, .inl cel_60))] H := hP
              have hD : va_D A [(aR, .inr (0, [.ref aT, .ref aS])), (aT, .inr (2, [.ref aB, .int (nI u), .int (nI en), .int (nI h_58), .int na_59, .int w, .int wa])), (aB, .inl (kB, 65536, .inl B)), (aS, .inr (1, [.ref aN, .ref aC])), (aN, .inl (kN, 5, .inl (fun j => nI (cnt j)))), (aC, .inl (kC, 52035, .inl cel_60))] := hD
              obtain ⟨hw_61a, rfl, rfl⟩ := hw_61
              have hw_61i := zRNum_in (by omega) hw_61a
              refine lv_pop hx hb d_Rd_takeCamera_61 rfl ?_
              refine lv_aload_n hx hb d_Rd_takeCamera_62 rfl (lv_at hl 0 rfl) ?_
              refine va_get (D := (dC, dI)) (ci := 0) (v := .ref aT) (C := R_Rd) (T := F_Rd) (N := 2) hx hb hz i_Rd hown hK hP 0 rfl rfl 0 (by decide) (hz _ tw_84) (fun _ h9 => h9) rfl d_Rd_takeCamera_63 ?_
              refine lv_bipush (v := 125) hx hb d_Rd_takeCamera_66 (by decide) ?_
              have hPc := hP.sub (ws' := [(aT, .inr (2, [.ref aB, .int (nI u), .int (nI en), .int (nI h_58), .int (nI h_48), .int w, .int wa])), (aB, .inl (kB, 65536, .inl B))]) [1, 2] rfl
              have hDc := hD.sub (ws' := [(aT, .inr (2, [.ref aB, .int (nI u), .int (nI en), .int (nI h_58), .int (nI h_48), .int w, .int wa])), (aB, .inl (kB, 65536, .inl B))]) [1, 2] (by decide) rfl
              have hKc := hK.sub (tys' := [(kB, .byte)]) [0] rfl
              have hFc := va_free (wc := [(aT, .inr (2, [.ref aB, .int (nI u), .int (nI en), .int (nI h_58), .int (nI h_48), .int w, .int wa])), (aB, .inl (kB, 65536, .inl B))]) hD hS hA [1, 2] rfl
              refine zt_size (fun hzs => ?_)
              refine vx_callv (vx_runV (As := [.int 125]) (rest := []) ⟨hx, hb, hml, hown, hts⟩ (c_Tp_mustTake l hst G dC dI H.size aT aB u en h_58 (nI h_48) w wa kB B 125 (by omega) (by omega)) (cwV 1 hts (gV tw_214 tw_215 tw_216 tw_3 tw_217 rfl) rfl rfl rfl (by decide +kernel) ⟨Nat.le_of_ble_eq_true rfl, Nat.le_of_ble_eq_true rfl⟩) (PW_preV hPc hKc hDc hE hS hFc (ci := 2) (q0 := 0) rfl rfl) rfl rfl hl.1 rfl (lv_room (Nat.le_of_ble_eq_true rfl)) d_Rd_takeCamera_68 ⟨Nat.le_of_ble_eq_true rfl, Nat.le_of_ble_eq_true rfl⟩) hS (fun q _ h => hFc q h) hFc (fun q _ h => hFc q h) (fun E9 ce9 q9 uu t H1 locs ht hvm hx_76 hB hz1 hk1 hS hce hcv hcl => ?_) (fun uu t H1 locs ht hvm hw_71 hB hz1 hk1 hS => ?_)
              ·
                obtain ⟨w_72, k_73, h_74, na_75⟩ := uu
                obtain ⟨hEn, hP1, hD1⟩ := hB
                rw [ht] at hP1
                obtain ⟨hP, hD⟩ := va_join (wr := [(aR, .inr (0, [.ref aT, .ref aS])), (aS, .inr (1, [.ref aN, .ref aC])), (aN, .inl (kN, 5, .inl (fun j => nI (cnt j)))), (aC, .inl (kC, 52035, .inl (upd cel_37 6 r_57)))]) (w1 := [(aT, .inr (2, [.ref aB, .int (nI u), .int (nI en), .int (nI h_74), .int na_75, .int w_72, .int (nI k_73)])), (aB, .inl (kB, 65536, .inl B))]) hP hD [1, 2] [0, 3, 4, 5] rfl rfl (by decide) (by decide) hk1 hFc hP1 hD1
                generalize H1 = H at hP hS hce ⊢
                have hP : va_P (dC, dI) vwCl [(aR, .inr (0, [.ref aT, .ref aS])), (aS, .inr (1, [.ref aN, .ref aC])), (aN, .inl (kN, 5, .inl (fun j => nI (cnt j)))), (aC, .inl (kC, 52035, .inl (upd cel_37 6 r_57))), (aT, .inr (2, [.ref aB, .int (nI u), .int (nI en), .int (nI h_74), .int na_75, .int w_72, .int (nI k_73)])), (aB, .inl (kB, 65536, .inl B))] H := hP
                have hD : va_D A [(aR, .inr (0, [.ref aT, .ref aS])), (aS, .inr (1, [.ref aN, .ref aC])), (aN, .inl (kN, 5, .inl (fun j => nI (cnt j)))), (aC, .inl (kC, 52035, .inl (upd cel_37 6 r_57))), (aT, .inr (2, [.ref aB, .int (nI u), .int (nI en), .int (nI h_74), .int na_75, .int w_72, .int (nI k_73)])), (aB, .inl (kB, 65536, .inl B))] := hD
                have hP9 := hP.sub (ws' := [(aR, .inr (0, [.ref aT, .ref aS])), (aT, .inr (2, [.ref aB, .int (nI u), .int (nI en), .int (nI h_74), .int na_75, .int w_72, .int (nI k_73)])), (aB, .inl (kB, 65536, .inl B)), (aS, .inr (1, [.ref aN, .ref aC])), (aN, .inl (kN, 5, .inl (fun j => nI (cnt j)))), (aC, .inl (kC, 52035, .inl (upd cel_37 6 r_57)))]) [0, 4, 5, 1, 2, 3] rfl
                have hD9 := hD.sub (ws' := [(aR, .inr (0, [.ref aT, .ref aS])), (aT, .inr (2, [.ref aB, .int (nI u), .int (nI en), .int (nI h_74), .int na_75, .int w_72, .int (nI k_73)])), (aB, .inl (kB, 65536, .inl B)), (aS, .inr (1, [.ref aN, .ref aC])), (aN, .inl (kN, 5, .inl (fun j => nI (cnt j)))), (aC, .inl (kC, 52035, .inl (upd cel_37 6 r_57)))]) [0, 4, 5, 1, 2, 3] (by decide) rfl
                exact vx_out (fun x hx => (htab x hx).elim) hlocks hce hcv hcl (fun t ht hvm => ⟨(w_72, k_73, h_74, na_75, cnt, upd cel_37 6 r_57), by simp only [zCamera, zListP, zNumP, zB_ok, zB_er, hw_3, hw_16a, hw_26, hw_39a, hw_49, hw_61a, hx_76], ⟨hEn, by rw [ht]; exact hP9, hD9⟩, hS.F ht⟩) hS.2.2 (by decide) (by decide)
              ·
                obtain ⟨h_70, rfl⟩ : ∃ z, z = uu := ⟨_, rfl⟩
                obtain ⟨hP1, hD1, hsz1⟩ := hB
                rw [ht] at hP1 hsz1
                obtain ⟨hP, hD⟩ := va_join (wr := [(aR, .inr (0, [.ref aT, .ref aS])), (aS, .inr (1, [.ref aN, .ref aC])), (aN, .inl (kN, 5, .inl (fun j => nI (cnt j)))), (aC, .inl (kC, 52035, .inl (upd cel_37 6 r_57)))]) (w1 := [(aT, .inr (2, [.ref aB, .int (nI u), .int (nI en), .int (nI h_70), .int (nI h_48), .int w, .int wa])), (aB, .inl (kB, 65536, .inl B))]) hP hD [1, 2] [0, 3, 4, 5] rfl rfl (by decide) (by decide) hk1 hFc hP1 hD1
                refine zt_tight (hsz1.trans hzs) ?_
                generalize H1 = H at hP hS ⊢
                have hP : va_P (dC, dI) vwCl [(aR, .inr (0, [.ref aT, .ref aS])), (aS, .inr (1, [.ref aN, .ref aC])), (aN, .inl (kN, 5, .inl (fun j => nI (cnt j)))), (aC, .inl (kC, 52035, .inl (upd cel_37 6 r_57))), (aT, .inr (2, [.ref aB, .int (nI u), .int (nI en), .int (nI h_70), .int (nI h_48), .int w, .int wa])), (aB, .inl (kB, 65536, .inl B))] H := hP
                have hD : va_D A [(aR, .inr (0, [.ref aT, .ref aS])), (aS, .inr (1, [.ref aN, .ref aC])), (aN, .inl (kN, 5, .inl (fun j => nI (cnt j)))), (aC, .inl (kC, 52035, .inl (upd cel_37 6 r_57))), (aT, .inr (2, [.ref aB, .int (nI u), .int (nI en), .int (nI h_70), .int (nI h_48), .int w, .int wa])), (aB, .inl (kB, 65536, .inl B))] := hD
                have hw_71i := zMust_in hw_71
                refine zt_size (fun hzs => ?_)
                have hP9 := hP.sub (ws' := [(aR, .inr (0, [.ref aT, .ref aS])), (aT, .inr (2, [.ref aB, .int (nI u), .int (nI en), .int (nI h_70), .int (nI h_48), .int w, .int wa])), (aB, .inl (kB, 65536, .inl B)), (aS, .inr (1, [.ref aN, .ref aC])), (aN, .inl (kN, 5, .inl (fun j => nI (cnt j)))), (aC, .inl (kC, 52035, .inl (upd cel_37 6 r_57)))]) [0, 4, 5, 1, 2, 3] rfl
                have hD9 := hD.sub (ws' := [(aR, .inr (0, [.ref aT, .ref aS])), (aT, .inr (2, [.ref aB, .int (nI u), .int (nI en), .int (nI h_70), .int (nI h_48), .int w, .int wa])), (aB, .inl (kB, 65536, .inl B)), (aS, .inr (1, [.ref aN, .ref aC])), (aN, .inl (kN, 5, .inl (fun j => nI (cnt j)))), (aC, .inl (kC, 52035, .inl (upd cel_37 6 r_57)))]) [0, 4, 5, 1, 2, 3] (by decide) rfl
                refine W.widen (k := 1) (n := 6) (by decide) (by decide) ?_
                exact vx_ret (W.vret hx hb hr (fun t ht hW => ⟨⟨(h_70, nI h_48, upd cel_37 6 r_57), rfl, by simp only [zCamera, zListP, zNumP, zB_ok, hw_3, hw_16a, hw_26, hw_39a, hw_49, hw_61a, hw_71], by rw [ht]; exact hP9, hD9, by rw [ht]; exact hzs⟩, hS.F ht⟩) hS.2.2 d_Rd_takeCamera_71)
set_option maxHeartbeats 4000000 in
set_option maxRecDepth 100000 in
theorem c_Rd_takeMaterial (l : Launch) (hst : l.stackTraces = false) (G : ZG) (dC : Nat → ClassId) (dI : Nat → Nat → Nat) (sz : Nat) (aR : Nat) (aT : Nat) (aS : Nat) (aB : Nat) (u : Nat) (en : Nat) (h : Nat) (na : Int32) (w : Int32) (wa : Int32) (kB : ClassId) (B : Nat → Int32) (aN : Nat) (aC : Nat) (kN : ClassId) (cnt : Nat → Nat) (kC : ClassId) (cel : Nat → Int32) (cc : Nat) (hen : en ≤ 65536) (hh : h ≤ en) (hcc : cc + 6 ≤ 52035) : vx_Met l y_Rd_takeMaterial w_Rd_takeMaterial ({ frames := 9, cells := 1, slots := 6, locals := 158 }) (va_Pc [.ref aR, .int (nI cc)] (PW G (dC, dI) [(kB, .byte), (kN, .int), (kC, .int)] [(aR, .inr (0, [.ref aT, .ref aS])), (aT, .inr (2, [.ref aB, .int (nI u), .int (nI en), .int (nI h), .int na, .int w, .int wa])), (aB, .inl (kB, 65536, .inl B)), (aS, .inr (1, [.ref aN, .ref aC])), (aN, .inl (kN, 5, .inl (fun j => nI (cnt j)))), (aC, .inl (kC, 52035, .inl cel))] sz)) (va_Qv (fun (uu : Nat × Int32 × (Nat → Int32)) => zMaterial B en (cnt 0) cc (h, cel) = .ok (uu.1, uu.2.2)) (fun (uu : Nat × Int32 × (Nat → Int32)) t => BW (dC, dI) [(aR, .inr (0, [.ref aT, .ref aS])), (aT, .inr (2, [.ref aB, .int (nI u), .int (nI en), .int (nI uu.1), .int uu.2.1, .int w, .int wa])), (aB, .inl (kB, 65536, .inl B)), (aS, .inr (1, [.ref aN, .ref aC])), (aN, .inl (kN, 5, .inl (fun j => nI (cnt j)))), (aC, .inl (kC, 52035, .inl uu.2.2))] (va_A [(aR, .inr (0, [.ref aT, .ref aS])), (aT, .inr (2, [.ref aB, .int (nI u), .int (nI en), .int (nI h), .int na, .int w, .int wa])), (aB, .inl (kB, 65536, .inl B)), (aS, .inr (1, [.ref aN, .ref aC])), (aN, .inl (kN, 5, .inl (fun j => nI (cnt j)))), (aC, .inl (kC, 52035, .inl cel))] sz) sz t) (va_A [(aR, .inr (0, [.ref aT, .ref aS])), (aT, .inr (2, [.ref aB, .int (nI u), .int (nI en), .int (nI h), .int na, .int w, .int wa])), (aB, .inl (kB, 65536, .inl B)), (aS, .inr (1, [.ref aN, .ref aC])), (aN, .inl (kN, 5, .inl (fun j => nI (cnt j)))), (aC, .inl (kC, 52035, .inl cel))] sz)) (vx_X (fun (uu : Int32 × Nat × Nat × Int32 × (Nat → Nat) × (Nat → Int32)) => zMaterial B en (cnt 0) cc (h, cel) = .error (uu.1, uu.2.1)) (fun E (uu : Int32 × Nat × Nat × Int32 × (Nat → Nat) × (Nat → Int32)) t => E = "java/lang/IllegalArgumentException" ∧ va_P (dC, dI) vwCl [(aR, .inr (0, [.ref aT, .ref aS])), (aT, .inr (2, [.ref aB, .int (nI u), .int (nI en), .int (nI uu.2.2.1), .int uu.2.2.2.1, .int uu.1, .int (nI uu.2.1)])), (aB, .inl (kB, 65536, .inl B)), (aS, .inr (1, [.ref aN, .ref aC])), (aN, .inl (kN, 5, .inl (fun j => nI (uu.2.2.2.2.1 j)))), (aC, .inl (kC, 52035, .inl uu.2.2.2.2.2))] t.heap ∧ va_D (va_A [(aR, .inr (0, [.ref aT, .ref aS])), (aT, .inr (2, [.ref aB, .int (nI u), .int (nI en), .int (nI h), .int na, .int w, .int wa])), (aB, .inl (kB, 65536, .inl B)), (aS, .inr (1, [.ref aN, .ref aC])), (aN, .inl (kN, 5, .inl (fun j => nI (cnt j)))), (aC, .inl (kC, 52035, .inl cel))] sz) [(aR, .inr (0, [.ref aT, .ref aS])), (aT, .inr (2, [.ref aB, .int (nI u), .int (nI en), .int (nI uu.2.2.1), .int uu.2.2.2.1, .int uu.1, .int (nI uu.2.1)])), (aB, .inl (kB, 65536, .inl B)), (aS, .inr (1, [.ref aN, .ref aC])), (aN, .inl (kN, 5, .inl (fun j => nI (uu.2.2.2.2.1 j)))), (aC, .inl (kC, 52035, .inl uu.2.2.2.2.2))]) (va_A [(aR, .inr (0, [.ref aT, .ref aS])), (aT, .inr (2, [.ref aB, .int (nI u), .int (nI en), .int (nI h), .int na, .int w, .int wa])), (aB, .inl (kB, 65536, .inl B)), (aS, .inr (1, [.ref aN, .ref aC])), (aN, .inl (kN, 5, .inl (fun j => nI (cnt j)))), (aC, .inl (kC, 52035, .inl cel))] sz)) 1 6 (va_A [(aR, .inr (0, [.ref aT, .ref aS])), (aT, .inr (2, [.ref aB, .int (nI u), .int (nI en), .int (nI h), .int na, .int w, .int wa])), (aB, .inl (kB, 65536, .inl B)), (aS, .inr (1, [.ref aN, .ref aC])), (aN, .inl (kN, 5, .inl (fun j => nI (cnt j)))), (aC, .inl (kC, 52035, .inl cel))] sz) := by
  refine vx_ofW (cc := prog_2_method_6_code) (maxL := 2) (ret := none) (by decide) rfl ?_
  intro p e s m args below meth c s₁ Bd hml htab hv
  obtain ⟨rfl, hsz, hP, hK, hD0, hE⟩ := hv
  have hx := Bd.exec
  have hb := Bd.bytes
  have hr := Bd.returns
  have hts := atoms_spec (ws := w_Rd_takeMaterial) Bd.pre
  have hown : s.vm.findClass R_Rd = some m.cls := findClass_of_methodNamed Bd.named
  have hlocks := Bd.notSynchronized
  have hz : ∀ w ∈ ZW, w.before _ s = true := fun w h => hts w (List.mem_cons_of_mem _ h)
  subst hsz
  have hD := hD0.self (sz := s.heap.size)
  generalize hAe : va_A [(aR, .inr (0, [.ref aT, .ref aS])), (aT, .inr (2, [.ref aB, .int (nI u), .int (nI en), .int (nI h), .int na, .int w, .int wa])), (aB, .inl (kB, 65536, .inl B)), (aS, .inr (1, [.ref aN, .ref aC])), (aN, .inl (kN, 5, .inl (fun j => nI (cnt j)))), (aC, .inl (kC, 52035, .inl cel))] s.heap.size = A at hD hE ⊢
  have hA : ∀ q : Nat, s.heap.size ≤ q → A q := fun q h => by rw [← hAe]; exact Or.inr h
  have hS : va_S A s.heap s.heap [] := va_S.rf
  have hl := lv_entry ([.ref aR, .int (nI cc)]) (n := 2) (Nat.le_of_ble_eq_true rfl)
  rw [lg_entry_eq]
  generalize (lg_sl ([.ref aR, .int (nI cc)]) ++ List.replicate (2 - (lg_sl ([.ref aR, .int (nI cc)])).length) Slot.unset).toArray = ls at hl ⊢
  have hl : lv_has ls 2 [(0, .ref aR), (1, .int (nI cc))] := hl
  obtain ⟨H, hH⟩ : ∃ z, z = s.heap := ⟨_, rfl⟩
  have hP : va_P (dC, dI) vwCl [(aR, .inr (0, [.ref aT, .ref aS])), (aT, .inr (2, [.ref aB, .int (nI u), .int (nI en), .int (nI h), .int na, .int w, .int wa])), (aB, .inl (kB, 65536, .inl B)), (aS, .inr (1, [.ref aN, .ref aC])), (aN, .inl (kN, 5, .inl (fun j => nI (cnt j)))), (aC, .inl (kC, 52035, .inl cel))] H := by rw [hH]; exact hP
  have hS : va_S A s.heap H [] := by rw [hH]; exact hS
  refine zt_heap hH ?_
  refine lv_aload_n hx hb d_Rd_takeMaterial_0 rfl (lv_at hl 0 rfl) ?_
  refine lv_bipush (v := 123) hx hb d_Rd_takeMaterial_1 (by decide) ?_
  refine va_ldcS (q := G.2.1 17) hx hb hown (hE.2.2.2.2.2.2.2 17 (by decide)).2 d_Rd_takeMaterial_3 ?_
  have hPc := hP.sub (ws' := [(aR, .inr (0, [.ref aT, .ref aS])), (aT, .inr (2, [.ref aB, .int (nI u), .int (nI en), .int (nI h), .int na, .int w, .int wa])), (aB, .inl (kB, 65536, .inl B)), (aS, .inr (1, [.ref aN, .ref aC])), (aN, .inl (kN, 5, .inl (fun j => nI (cnt j)))), (aC, .inl (kC, 52035, .inl cel))]) [0, 1, 2, 3, 4, 5] rfl
  have hDc := hD.sub (ws' := [(aR, .inr (0, [.ref aT, .ref aS])), (aT, .inr (2, [.ref aB, .int (nI u), .int (nI en), .int (nI h), .int na, .int w, .int wa])), (aB, .inl (kB, 65536, .inl B)), (aS, .inr (1, [.ref aN, .ref aC])), (aN, .inl (kN, 5, .inl (fun j => nI (cnt j)))), (aC, .inl (kC, 52035, .inl cel))]) [0, 1, 2, 3, 4, 5] (by decide) rfl
  have hKc := hK.sub (tys' := [(kB, .byte), (kN, .int), (kC, .int)]) [0, 1, 2] rfl
  have hFc := va_free (wc := [(aR, .inr (0, [.ref aT, .ref aS])), (aT, .inr (2, [.ref aB, .int (nI u), .int (nI en), .int (nI h), .int na, .int w, .int wa])), (aB, .inl (kB, 65536, .inl B)), (aS, .inr (1, [.ref aN, .ref aC])), (aN, .inl (kN, 5, .inl (fun j => nI (cnt j)))), (aC, .inl (kC, 52035, .inl cel))]) hD hS hA [0, 1, 2, 3, 4, 5] rfl
  refine zt_size (fun hzs => ?_)
  refine vx_callv (vx_runV (As := [.int 123, .ref (G.2.1 17)]) (rest := []) ⟨hx, hb, hml, hown, hts⟩ (c_Rd_takeName l hst G dC dI H.size aR aT aS aB u en h na w wa kB B aN aC kN cnt kC cel 123 17 (by omega) (by omega) (by decide) (zSb_len _)) (cwV 2 hts (gV tw_359 tw_361 ts_8 tw_2 tw_362 rfl) rfl rfl rfl (by decide +kernel) ⟨Nat.le_of_ble_eq_true rfl, Nat.le_of_ble_eq_true rfl⟩) (PW_preV hPc hKc hDc hE hS hFc (ci := 0) (q0 := 0) rfl rfl) rfl rfl hl.1 rfl (lv_room (Nat.le_of_ble_eq_true rfl)) d_Rd_takeMaterial_5 ⟨Nat.le_of_ble_eq_true rfl, Nat.le_of_ble_eq_true rfl⟩) hS (fun q _ h => hFc q h) hFc (fun q _ h => hFc q h) (fun E9 ce9 q9 uu t H1 locs ht hvm hx_10 hB hz1 hk1 hS hce hcv hcl => ?_) (fun uu t H1 locs ht hvm hw_3 hB hz1 hk1 hS => ?_)
  ·
    obtain ⟨w_4, k_5, h_6, na_7, cnt_8, cel_9⟩ := uu
    obtain ⟨hEn, hP1, hD1⟩ := hB
    rw [ht] at hP1
    obtain ⟨hP, hD⟩ := va_join (wr := []) (w1 := [(aR, .inr (0, [.ref aT, .ref aS])), (aT, .inr (2, [.ref aB, .int (nI u), .int (nI en), .int (nI h_6), .int na_7, .int w_4, .int (nI k_5)])), (aB, .inl (kB, 65536, .inl B)), (aS, .inr (1, [.ref aN, .ref aC])), (aN, .inl (kN, 5, .inl (fun j => nI (cnt_8 j)))), (aC, .inl (kC, 52035, .inl cel_9))]) hP hD [0, 1, 2, 3, 4, 5] [] rfl rfl (by decide) (by decide) hk1 hFc hP1 hD1
    generalize H1 = H at hP hS hce ⊢
    have hP : va_P (dC, dI) vwCl [(aR, .inr (0, [.ref aT, .ref aS])), (aT, .inr (2, [.ref aB, .int (nI u), .int (nI en), .int (nI h_6), .int na_7, .int w_4, .int (nI k_5)])), (aB, .inl (kB, 65536, .inl B)), (aS, .inr (1, [.ref aN, .ref aC])), (aN, .inl (kN, 5, .inl (fun j => nI (cnt_8 j)))), (aC, .inl (kC, 52035, .inl cel_9))] H := hP
    have hD : va_D A [(aR, .inr (0, [.ref aT, .ref aS])), (aT, .inr (2, [.ref aB, .int (nI u), .int (nI en), .int (nI h_6), .int na_7, .int w_4, .int (nI k_5)])), (aB, .inl (kB, 65536, .inl B)), (aS, .inr (1, [.ref aN, .ref aC])), (aN, .inl (kN, 5, .inl (fun j => nI (cnt_8 j)))), (aC, .inl (kC, 52035, .inl cel_9))] := hD
    have hP9 := hP.sub (ws' := [(aR, .inr (0, [.ref aT, .ref aS])), (aT, .inr (2, [.ref aB, .int (nI u), .int (nI en), .int (nI h_6), .int na_7, .int w_4, .int (nI k_5)])), (aB, .inl (kB, 65536, .inl B)), (aS, .inr (1, [.ref aN, .ref aC])), (aN, .inl (kN, 5, .inl (fun j => nI (cnt_8 j)))), (aC, .inl (kC, 52035, .inl cel_9))]) [0, 1, 2, 3, 4, 5] rfl
    have hD9 := hD.sub (ws' := [(aR, .inr (0, [.ref aT, .ref aS])), (aT, .inr (2, [.ref aB, .int (nI u), .int (nI en), .int (nI h_6), .int na_7, .int w_4, .int (nI k_5)])), (aB, .inl (kB, 65536, .inl B)), (aS, .inr (1, [.ref aN, .ref aC])), (aN, .inl (kN, 5, .inl (fun j => nI (cnt_8 j)))), (aC, .inl (kC, 52035, .inl cel_9))]) [0, 1, 2, 3, 4, 5] (by decide) rfl
    exact vx_out (fun x hx => (htab x hx).elim) hlocks hce hcv hcl (fun t ht hvm => ⟨(w_4, k_5, h_6, na_7, cnt_8, cel_9), by simp only [zMaterial, zListP, zNumP, zB_ok, zB_er, hx_10], ⟨hEn, by rw [ht]; exact hP9, hD9⟩, hS.F ht⟩) hS.2.2 (by decide) (by decide)
  ·
    obtain ⟨h_2, rfl⟩ : ∃ z, z = uu := ⟨_, rfl⟩
    obtain ⟨hP1, hD1, hsz1⟩ := hB
    rw [ht] at hP1 hsz1
    obtain ⟨hP, hD⟩ := va_join (wr := []) (w1 := [(aR, .inr (0, [.ref aT, .ref aS])), (aT, .inr (2, [.ref aB, .int (nI u), .int (nI en), .int (nI h_2), .int na, .int w, .int wa])), (aB, .inl (kB, 65536, .inl B)), (aS, .inr (1, [.ref aN, .ref aC])), (aN, .inl (kN, 5, .inl (fun j => nI (cnt j)))), (aC, .inl (kC, 52035, .inl cel))]) hP hD [0, 1, 2, 3, 4, 5] [] rfl rfl (by decide) (by decide) hk1 hFc hP1 hD1
    refine zt_tight (hsz1.trans hzs) ?_
    generalize H1 = H at hP hS ⊢
    have hP : va_P (dC, dI) vwCl [(aR, .inr (0, [.ref aT, .ref aS])), (aT, .inr (2, [.ref aB, .int (nI u), .int (nI en), .int (nI h_2), .int na, .int w, .int wa])), (aB, .inl (kB, 65536, .inl B)), (aS, .inr (1, [.ref aN, .ref aC])), (aN, .inl (kN, 5, .inl (fun j => nI (cnt j)))), (aC, .inl (kC, 52035, .inl cel))] H := hP
    have hD : va_D A [(aR, .inr (0, [.ref aT, .ref aS])), (aT, .inr (2, [.ref aB, .int (nI u), .int (nI en), .int (nI h_2), .int na, .int w, .int wa])), (aB, .inl (kB, 65536, .inl B)), (aS, .inr (1, [.ref aN, .ref aC])), (aN, .inl (kN, 5, .inl (fun j => nI (cnt j)))), (aC, .inl (kC, 52035, .inl cel))] := hD
    have hw_3i := zName_in hw_3
    refine lv_aload_n hx hb d_Rd_takeMaterial_8 rfl (lv_at hl 0 rfl) ?_
    refine lv_iconst (v := 0) hx hb d_Rd_takeMaterial_9 (by decide) ?_
    refine lv_iconst (v := 4) hx hb d_Rd_takeMaterial_10 (by decide) ?_
    refine lv_iconst (v := 4) hx hb d_Rd_takeMaterial_11 (by decide) ?_
    refine lv_iload_n hx hb d_Rd_takeMaterial_12 rfl (lv_at hl 1 rfl) ?_
    refine lv_iconst (v := 0) hx hb d_Rd_takeMaterial_13 (by decide) ?_
    refine lv_sipush (v := 255) hx hb d_Rd_takeMaterial_14 (by decide) ?_
    have hPc := hP.sub (ws' := [(aR, .inr (0, [.ref aT, .ref aS])), (aT, .inr (2, [.ref aB, .int (nI u), .int (nI en), .int (nI h_2), .int na, .int w, .int wa])), (aB, .inl (kB, 65536, .inl B)), (aS, .inr (1, [.ref aN, .ref aC])), (aN, .inl (kN, 5, .inl (fun j => nI (cnt j)))), (aC, .inl (kC, 52035, .inl cel))]) [0, 1, 2, 3, 4, 5] rfl
    have hDc := hD.sub (ws' := [(aR, .inr (0, [.ref aT, .ref aS])), (aT, .inr (2, [.ref aB, .int (nI u), .int (nI en), .int (nI h_2), .int na, .int w, .int wa])), (aB, .inl (kB, 65536, .inl B)), (aS, .inr (1, [.ref aN, .ref aC])), (aN, .inl (kN, 5, .inl (fun j => nI (cnt j)))), (aC, .inl (kC, 52035, .inl cel))]) [0, 1, 2, 3, 4, 5] (by decide) rfl
    have hKc := hK.sub (tys' := [(kB, .byte), (kN, .int), (kC, .int)]) [0, 1, 2] rfl
    have hFc := va_free (wc := [(aR, .inr (0, [.ref aT, .ref aS])), (aT, .inr (2, [.ref aB, .int (nI u), .int (nI en), .int (nI h_2), .int na, .int w, .int wa])), (aB, .inl (kB, 65536, .inl B)), (aS, .inr (1, [.ref aN, .ref aC])), (aN, .inl (kN, 5, .inl (fun j => nI (cnt j)))), (aC, .inl (kC, 52035, .inl cel))]) hD hS hA [0, 1, 2, 3, 4, 5] rfl
    refine zt_size (fun hzs => ?_)
    refine vx_calli (vx_runV (As := [.int 0, .int (nI 4), .int (nI 4), .int (nI cc), .int 0, .int 255]) (rest := []) ⟨hx, hb, hml, hown, hts⟩ (c_Rd_takeList l hst G dC dI H.size aR aT aS aB u en h_2 na w wa kB B aN aC kN cnt kC cel 0 4 4 cc 0 255 (by omega) (by omega) (by omega) (by omega) (by omega)) (cwV 6 hts (gV tw_366 tw_368 ts_9 tw_2 tw_369 rfl) rfl rfl rfl (by decide +kernel) ⟨Nat.le_of_ble_eq_true rfl, Nat.le_of_ble_eq_true rfl⟩) (PW_preV hPc hKc hDc hE hS hFc (ci := 0) (q0 := 0) rfl rfl) rfl rfl hl.1 rfl (lv_room (Nat.le_of_ble_eq_true rfl)) d_Rd_takeMaterial_17 ⟨Nat.le_of_ble_eq_true rfl, Nat.le_of_ble_eq_true rfl⟩) hS (fun q _ h => hFc q h) hFc (fun q _ h => hFc q h) (fun E9 ce9 q9 uu t H1 locs ht hvm hx_23 hB hz1 hk1 hS hce hcv hcl => ?_) (fun r_11 uu t H1 locs ht hvm hw_16 hB hz1 hk1 hS => ?_)
    ·
      obtain ⟨w_17, k_18, h_19, na_20, cnt_21, cel_22⟩ := uu
      obtain ⟨hEn, hP1, hD1⟩ := hB
      rw [ht] at hP1
      obtain ⟨hP, hD⟩ := va_join (wr := []) (w1 := [(aR, .inr (0, [.ref aT, .ref aS])), (aT, .inr (2, [.ref aB, .int (nI u), .int (nI en), .int (nI h_19), .int na_20, .int w_17, .int (nI k_18)])), (aB, .inl (kB, 65536, .inl B)), (aS, .inr (1, [.ref aN, .ref aC])), (aN, .inl (kN, 5, .inl (fun j => nI (cnt_21 j)))), (aC, .inl (kC, 52035, .inl cel_22))]) hP hD [0, 1, 2, 3, 4, 5] [] rfl rfl (by decide) (by decide) hk1 hFc hP1 hD1
      generalize H1 = H at hP hS hce ⊢
      have hP : va_P (dC, dI) vwCl [(aR, .inr (0, [.ref aT, .ref aS])), (aT, .inr (2, [.ref aB, .int (nI u), .int (nI en), .int (nI h_19), .int na_20, .int w_17, .int (nI k_18)])), (aB, .inl (kB, 65536, .inl B)), (aS, .inr (1, [.ref aN, .ref aC])), (aN, .inl (kN, 5, .inl (fun j => nI (cnt_21 j)))), (aC, .inl (kC, 52035, .inl cel_22))] H := hP
      have hD : va_D A [(aR, .inr (0, [.ref aT, .ref aS])), (aT, .inr (2, [.ref aB, .int (nI u), .int (nI en), .int (nI h_19), .int na_20, .int w_17, .int (nI k_18)])), (aB, .inl (kB, 65536, .inl B)), (aS, .inr (1, [.ref aN, .ref aC])), (aN, .inl (kN, 5, .inl (fun j => nI (cnt_21 j)))), (aC, .inl (kC, 52035, .inl cel_22))] := hD
      simp only [zf02, zf01, zf11, zf12, zf21, zf22, decide_true, decide_false] at hx_23
      have hP9 := hP.sub (ws' := [(aR, .inr (0, [.ref aT, .ref aS])), (aT, .inr (2, [.ref aB, .int (nI u), .int (nI en), .int (nI h_19), .int na_20, .int w_17, .int (nI k_18)])), (aB, .inl (kB, 65536, .inl B)), (aS, .inr (1, [.ref aN, .ref aC])), (aN, .inl (kN, 5, .inl (fun j => nI (cnt_21 j)))), (aC, .inl (kC, 52035, .inl cel_22))]) [0, 1, 2, 3, 4, 5] rfl
      have hD9 := hD.sub (ws' := [(aR, .inr (0, [.ref aT, .ref aS])), (aT, .inr (2, [.ref aB, .int (nI u), .int (nI en), .int (nI h_19), .int na_20, .int w_17, .int (nI k_18)])), (aB, .inl (kB, 65536, .inl B)), (aS, .inr (1, [.ref aN, .ref aC])), (aN, .inl (kN, 5, .inl (fun j => nI (cnt_21 j)))), (aC, .inl (kC, 52035, .inl cel_22))]) [0, 1, 2, 3, 4, 5] (by decide) rfl
      exact vx_out (fun x hx => (htab x hx).elim) hlocks hce hcv hcl (fun t ht hvm => ⟨(w_17, k_18, h_19, na_20, cnt_21, cel_22), by simp only [zMaterial, zListP, zNumP, zB_ok, zB_er, hw_3, hx_23], ⟨hEn, by rw [ht]; exact hP9, hD9⟩, hS.F ht⟩) hS.2.2 (by decide) (by decide)
    ·
      obtain ⟨h_12, na_13, cel_14, n_15⟩ := uu
      obtain ⟨hP1, hD1, hsz1⟩ := hB
      rw [ht] at hP1 hsz1
      obtain ⟨hP, hD⟩ := va_join (wr := []) (w1 := [(aR, .inr (0, [.ref aT, .ref aS])), (aT, .inr (2, [.ref aB, .int (nI u), .int (nI en), .int (nI h_12), .int na_13, .int w, .int wa])), (aB, .inl (kB, 65536, .inl B)), (aS, .inr (1, [.ref aN, .ref aC])), (aN, .inl (kN, 5, .inl (fun j => nI (cnt j)))), (aC, .inl (kC, 52035, .inl cel_14))]) hP hD [0, 1, 2, 3, 4, 5] [] rfl rfl (by decide) (by decide) hk1 hFc hP1 hD1
      refine zt_tight (hsz1.trans hzs) ?_
      generalize H1 = H at hP hS ⊢
      have hP : va_P (dC, dI) vwCl [(aR, .inr (0, [.ref aT, .ref aS])), (aT, .inr (2, [.ref aB, .int (nI u), .int (nI en), .int (nI h_12), .int na_13, .int w, .int wa])), (aB, .inl (kB, 65536, .inl B)), (aS, .inr (1, [.ref aN, .ref aC])), (aN, .inl (kN, 5, .inl (fun j => nI (cnt j)))), (aC, .inl (kC, 52035, .inl cel_14))] H := hP
      have hD : va_D A [(aR, .inr (0, [.ref aT, .ref aS])), (aT, .inr (2, [.ref aB, .int (nI u), .int (nI en), .int (nI h_12), .int na_13, .int w, .int wa])), (aB, .inl (kB, 65536, .inl B)), (aS, .inr (1, [.ref aN, .ref aC])), (aN, .inl (kN, 5, .inl (fun j => nI (cnt j)))), (aC, .inl (kC, 52035, .inl cel_14))] := hD
      obtain ⟨rfl, hw_16a⟩ := hw_16
      simp only [zf02, zf01, zf11, zf12, zf21, zf22, decide_true, decide_false] at hw_16a
      have hw_16i := zList_in (by omega) hw_16a
      refine lv_pop hx hb d_Rd_takeMaterial_20 rfl ?_
      refine lv_aload_n hx hb d_Rd_takeMaterial_21 rfl (lv_at hl 0 rfl) ?_
      refine lv_bipush (v := 44) hx hb d_Rd_takeMaterial_22 (by decide) ?_
      refine va_ldcS (q := G.2.1 18) hx hb hown (hE.2.2.2.2.2.2.2 18 (by decide)).2 d_Rd_takeMaterial_24 ?_
      have hPc := hP.sub (ws' := [(aR, .inr (0, [.ref aT, .ref aS])), (aT, .inr (2, [.ref aB, .int (nI u), .int (nI en), .int (nI h_12), .int na_13, .int w, .int wa])), (aB, .inl (kB, 65536, .inl B)), (aS, .inr (1, [.ref aN, .ref aC])), (aN, .inl (kN, 5, .inl (fun j => nI (cnt j)))), (aC, .inl (kC, 52035, .inl cel_14))]) [0, 1, 2, 3, 4, 5] rfl
      have hDc := hD.sub (ws' := [(aR, .inr (0, [.ref aT, .ref aS])), (aT, .inr (2, [.ref aB, .int (nI u), .int (nI en), .int (nI h_12), .int na_13, .int w, .int wa])), (aB, .inl (kB, 65536, .inl B)), (aS, .inr (1, [.ref aN, .ref aC])), (aN, .inl (kN, 5, .inl (fun j => nI (cnt j)))), (aC, .inl (kC, 52035, .inl cel_14))]) [0, 1, 2, 3, 4, 5] (by decide) rfl
      have hKc := hK.sub (tys' := [(kB, .byte), (kN, .int), (kC, .int)]) [0, 1, 2] rfl
      have hFc := va_free (wc := [(aR, .inr (0, [.ref aT, .ref aS])), (aT, .inr (2, [.ref aB, .int (nI u), .int (nI en), .int (nI h_12), .int na_13, .int w, .int wa])), (aB, .inl (kB, 65536, .inl B)), (aS, .inr (1, [.ref aN, .ref aC])), (aN, .inl (kN, 5, .inl (fun j => nI (cnt j)))), (aC, .inl (kC, 52035, .inl cel_14))]) hD hS hA [0, 1, 2, 3, 4, 5] rfl
      refine zt_size (fun hzs => ?_)
      refine vx_callv (vx_runV (As := [.int 44, .ref (G.2.1 18)]) (rest := []) ⟨hx, hb, hml, hown, hts⟩ (c_Rd_takeName l hst G dC dI H.size aR aT aS aB u en h_12 na_13 w wa kB B aN aC kN cnt kC cel_14 44 18 (by omega) (by omega) (by decide) (zSb_len _)) (cwV 2 hts (gV tw_359 tw_361 ts_8 tw_2 tw_362 rfl) rfl rfl rfl (by decide +kernel) ⟨Nat.le_of_ble_eq_true rfl, Nat.le_of_ble_eq_true rfl⟩) (PW_preV hPc hKc hDc hE hS hFc (ci := 0) (q0 := 0) rfl rfl) rfl rfl hl.1 rfl (lv_room (Nat.le_of_ble_eq_true rfl)) d_Rd_takeMaterial_26 ⟨Nat.le_of_ble_eq_true rfl, Nat.le_of_ble_eq_true rfl⟩) hS (fun q _ h => hFc q h) hFc (fun q _ h => hFc q h) (fun E9 ce9 q9 uu t H1 locs ht hvm hx_33 hB hz1 hk1 hS hce hcv hcl => ?_) (fun uu t H1 locs ht hvm hw_26 hB hz1 hk1 hS => ?_)
      ·
        obtain ⟨w_27, k_28, h_29, na_30, cnt_31, cel_32⟩ := uu
        obtain ⟨hEn, hP1, hD1⟩ := hB
        rw [ht] at hP1
        obtain ⟨hP, hD⟩ := va_join (wr := []) (w1 := [(aR, .inr (0, [.ref aT, .ref aS])), (aT, .inr (2, [.ref aB, .int (nI u), .int (nI en), .int (nI h_29), .int na_30, .int w_27, .int (nI k_28)])), (aB, .inl (kB, 65536, .inl B)), (aS, .inr (1, [.ref aN, .ref aC])), (aN, .inl (kN, 5, .inl (fun j => nI (cnt_31 j)))), (aC, .inl (kC, 52035, .inl cel_32))]) hP hD [0, 1, 2, 3, 4, 5] [] rfl rfl (by decide) (by decide) hk1 hFc hP1 hD1
        generalize H1 = H at hP hS hce ⊢
        have hP : va_P (dC, dI) vwCl [(aR, .inr (0, [.ref aT, .ref aS])), (aT, .inr (2, [.ref aB, .int (nI u), .int (nI en), .int (nI h_29), .int na_30, .int w_27, .int (nI k_28)])), (aB, .inl (kB, 65536, .inl B)), (aS, .inr (1, [.ref aN, .ref aC])), (aN, .inl (kN, 5, .inl (fun j => nI (cnt_31 j)))), (aC, .inl (kC, 52035, .inl cel_32))] H := hP
        have hD : va_D A [(aR, .inr (0, [.ref aT, .ref aS])), (aT, .inr (2, [.ref aB, .int (nI u), .int (nI en), .int (nI h_29), .int na_30, .int w_27, .int (nI k_28)])), (aB, .inl (kB, 65536, .inl B)), (aS, .inr (1, [.ref aN, .ref aC])), (aN, .inl (kN, 5, .inl (fun j => nI (cnt_31 j)))), (aC, .inl (kC, 52035, .inl cel_32))] := hD
        have hP9 := hP.sub (ws' := [(aR, .inr (0, [.ref aT, .ref aS])), (aT, .inr (2, [.ref aB, .int (nI u), .int (nI en), .int (nI h_29), .int na_30, .int w_27, .int (nI k_28)])), (aB, .inl (kB, 65536, .inl B)), (aS, .inr (1, [.ref aN, .ref aC])), (aN, .inl (kN, 5, .inl (fun j => nI (cnt_31 j)))), (aC, .inl (kC, 52035, .inl cel_32))]) [0, 1, 2, 3, 4, 5] rfl
        have hD9 := hD.sub (ws' := [(aR, .inr (0, [.ref aT, .ref aS])), (aT, .inr (2, [.ref aB, .int (nI u), .int (nI en), .int (nI h_29), .int na_30, .int w_27, .int (nI k_28)])), (aB, .inl (kB, 65536, .inl B)), (aS, .inr (1, [.ref aN, .ref aC])), (aN, .inl (kN, 5, .inl (fun j => nI (cnt_31 j)))), (aC, .inl (kC, 52035, .inl cel_32))]) [0, 1, 2, 3, 4, 5] (by decide) rfl
        exact vx_out (fun x hx => (htab x hx).elim) hlocks hce hcv hcl (fun t ht hvm => ⟨(w_27, k_28, h_29, na_30, cnt_31, cel_32), by simp only [zMaterial, zListP, zNumP, zB_ok, zB_er, hw_3, hw_16a, hx_33], ⟨hEn, by rw [ht]; exact hP9, hD9⟩, hS.F ht⟩) hS.2.2 (by decide) (by decide)
      ·
        obtain ⟨h_25, rfl⟩ : ∃ z, z = uu := ⟨_, rfl⟩
        obtain ⟨hP1, hD1, hsz1⟩ := hB
        rw [ht] at hP1 hsz1
        obtain ⟨hP, hD⟩ := va_join (wr := []) (w1 := [(aR, .inr (0, [.ref aT, .ref aS])), (aT, .inr (2, [.ref aB, .int (nI u), .int (nI en), .int (nI h_25), .int na_13, .int w, .int wa])), (aB, .inl (kB, 65536, .inl B)), (aS, .inr (1, [.ref aN, .ref aC])), (aN, .inl (kN, 5, .inl (fun j => nI (cnt j)))), (aC, .inl (kC, 52035, .inl cel_14))]) hP hD [0, 1, 2, 3, 4, 5] [] rfl rfl (by decide) (by decide) hk1 hFc hP1 hD1
        refine zt_tight (hsz1.trans hzs) ?_
        generalize H1 = H at hP hS ⊢
        have hP : va_P (dC, dI) vwCl [(aR, .inr (0, [.ref aT, .ref aS])), (aT, .inr (2, [.ref aB, .int (nI u), .int (nI en), .int (nI h_25), .int na_13, .int w, .int wa])), (aB, .inl (kB, 65536, .inl B)), (aS, .inr (1, [.ref aN, .ref aC])), (aN, .inl (kN, 5, .inl (fun j => nI (cnt j)))), (aC, .inl (kC, 52035, .inl cel_14))] H := hP
        have hD : va_D A [(aR, .inr (0, [.ref aT, .ref aS])), (aT, .inr (2, [.ref aB, .int (nI u), .int (nI en), .int (nI h_25), .int na_13, .int w, .int wa])), (aB, .inl (kB, 65536, .inl B)), (aS, .inr (1, [.ref aN, .ref aC])), (aN, .inl (kN, 5, .inl (fun j => nI (cnt j)))), (aC, .inl (kC, 52035, .inl cel_14))] := hD
        have hw_26i := zName_in hw_26
        refine lv_aload_n hx hb d_Rd_takeMaterial_29 rfl (lv_at hl 0 rfl) ?_
        refine lv_iload_n hx hb d_Rd_takeMaterial_30 rfl (lv_at hl 1 rfl) ?_
        refine lv_iconst (v := 4) hx hb d_Rd_takeMaterial_31 (by decide) ?_
        refine lv_iadd hx hb d_Rd_takeMaterial_32 ?_
        refine zt_top (nI_add cc 4) ?_
        refine lv_iconst (v := -1) hx hb d_Rd_takeMaterial_33 (by decide) ?_
        refine lv_aload_n hx hb d_Rd_takeMaterial_34 rfl (lv_at hl 0 rfl) ?_
        refine va_get (D := (dC, dI)) (ci := 0) (v := .ref aS) (C := R_Rd) (T := F_Rd) (N := 2) hx hb hz i_Rd hown hK hP 0 rfl rfl 1 (by decide) (hz _ tw_86) (fun _ h9 => h9) rfl d_Rd_takeMaterial_35 ?_
        refine lv_iconst (v := 0) hx hb d_Rd_takeMaterial_38 (by decide) ?_
        have hPc := hP.sub (ws' := [(aS, .inr (1, [.ref aN, .ref aC])), (aN, .inl (kN, 5, .inl (fun j => nI (cnt j)))), (aC, .inl (kC, 52035, .inl cel_14))]) [3, 4, 5] rfl
        have hDc := hD.sub (ws' := [(aS, .inr (1, [.ref aN, .ref aC])), (aN, .inl (kN, 5, .inl (fun j => nI (cnt j)))), (aC, .inl (kC, 52035, .inl cel_14))]) [3, 4, 5] (by decide) rfl
        have hKc := hK.sub (tys' := [(kN, .int), (kC, .int)]) [1, 2] rfl
        have hFc := va_free (wc := [(aS, .inr (1, [.ref aN, .ref aC])), (aN, .inl (kN, 5, .inl (fun j => nI (cnt j)))), (aC, .inl (kC, 52035, .inl cel_14))]) hD hS hA [3, 4, 5] rfl
        refine va_calli (va_runV (As := [.int (nI 0)]) (rest := [.int (-1), .int (nI (cc + 4)), .ref aR]) ⟨hx, hb, hml, hown, hts⟩ (c_Sc_howManyN l G dC dI H.size aS aN aC kN cnt kC cel_14 0 (by omega)) (cwV 1 hts (gV tw_426 tw_135 tw_136 tw_4 tw_137 rfl) rfl rfl rfl (by decide +kernel) ⟨Nat.le_of_ble_eq_true rfl, Nat.le_of_ble_eq_true rfl⟩) (PW_preV hPc hKc hDc hE hS hFc (ci := 1) (q0 := 0) rfl rfl) rfl rfl hl.1 rfl (lv_room (Nat.le_of_ble_eq_true rfl)) d_Rd_takeMaterial_39 ⟨Nat.le_of_ble_eq_true rfl, Nat.le_of_ble_eq_true rfl⟩) hS (fun q _ h => hFc q h) hFc (fun r_34 uu t H1 locs ht hvm hw_35 hB hz1 hk1 hS => ?_)
        obtain ⟨hP1, hD1, hsz1⟩ := hB
        rw [ht] at hP1 hsz1
        obtain ⟨hP, hD⟩ := va_join (wr := [(aR, .inr (0, [.ref aT, .ref aS])), (aT, .inr (2, [.ref aB, .int (nI u), .int (nI en), .int (nI h_25), .int na_13, .int w, .int wa])), (aB, .inl (kB, 65536, .inl B))]) (w1 := [(aS, .inr (1, [.ref aN, .ref aC])), (aN, .inl (kN, 5, .inl (fun j => nI (cnt j)))), (aC, .inl (kC, 52035, .inl cel_14))]) hP hD [3, 4, 5] [0, 1, 2] rfl rfl (by decide) (by decide) hk1 hFc hP1 hD1
        generalize H1 = H at hP hS ⊢
        have hP : va_P (dC, dI) vwCl [(aR, .inr (0, [.ref aT, .ref aS])), (aT, .inr (2, [.ref aB, .int (nI u), .int (nI en), .int (nI h_25), .int na_13, .int w, .int wa])), (aB, .inl (kB, 65536, .inl B)), (aS, .inr (1, [.ref aN, .ref aC])), (aN, .inl (kN, 5, .inl (fun j => nI (cnt j)))), (aC, .inl (kC, 52035, .inl cel_14))] H := hP
        have hD : va_D A [(aR, .inr (0, [.ref aT, .ref aS])), (aT, .inr (2, [.ref aB, .int (nI u), .int (nI en), .int (nI h_25), .int na_13, .int w, .int wa])), (aB, .inl (kB, 65536, .inl B)), (aS, .inr (1, [.ref aN, .ref aC])), (aN, .inl (kN, 5, .inl (fun j => nI (cnt j)))), (aC, .inl (kC, 52035, .inl cel_14))] := hD
        subst hw_35
        refine lv_iconst (v := 1) hx hb d_Rd_takeMaterial_42 (by decide) ?_
        refine lv_isub hx hb d_Rd_takeMaterial_43 ?_
        have hPc := hP.sub (ws' := [(aR, .inr (0, [.ref aT, .ref aS])), (aT, .inr (2, [.ref aB, .int (nI u), .int (nI en), .int (nI h_25), .int na_13, .int w, .int wa])), (aB, .inl (kB, 65536, .inl B)), (aS, .inr (1, [.ref aN, .ref aC])), (aN, .inl (kN, 5, .inl (fun j => nI (cnt j)))), (aC, .inl (kC, 52035, .inl cel_14))]) [0, 1, 2, 3, 4, 5] rfl
        have hDc := hD.sub (ws' := [(aR, .inr (0, [.ref aT, .ref aS])), (aT, .inr (2, [.ref aB, .int (nI u), .int (nI en), .int (nI h_25), .int na_13, .int w, .int wa])), (aB, .inl (kB, 65536, .inl B)), (aS, .inr (1, [.ref aN, .ref aC])), (aN, .inl (kN, 5, .inl (fun j => nI (cnt j)))), (aC, .inl (kC, 52035, .inl cel_14))]) [0, 1, 2, 3, 4, 5] (by decide) rfl
        have hKc := hK.sub (tys' := [(kB, .byte), (kN, .int), (kC, .int)]) [0, 1, 2] rfl
        have hFc := va_free (wc := [(aR, .inr (0, [.ref aT, .ref aS])), (aT, .inr (2, [.ref aB, .int (nI u), .int (nI en), .int (nI h_25), .int na_13, .int w, .int wa])), (aB, .inl (kB, 65536, .inl B)), (aS, .inr (1, [.ref aN, .ref aC])), (aN, .inl (kN, 5, .inl (fun j => nI (cnt j)))), (aC, .inl (kC, 52035, .inl cel_14))]) hD hS hA [0, 1, 2, 3, 4, 5] rfl
        refine zt_size (fun hzs => ?_)
        refine vx_calli (vx_runV (As := [.int (nI (cc + 4)), .int (-1), .int ((nI (cnt 0)) - 1)]) (rest := []) ⟨hx, hb, hml, hown, hts⟩ (c_Rd_takeNumber l hst G dC dI H.size aR aT aS aB u en h_25 na_13 w wa kB B aN aC kN cnt kC cel_14 (cc + 4) (-1) ((nI (cnt 0)) - 1) (by omega) (by omega) (by omega)) (cwV 3 hts (gV tw_387 tw_389 ts_10 tw_2 tw_390 rfl) rfl rfl rfl (by decide +kernel) ⟨Nat.le_of_ble_eq_true rfl, Nat.le_of_ble_eq_true rfl⟩) (PW_preV hPc hKc hDc hE hS hFc (ci := 0) (q0 := 0) rfl rfl) rfl rfl hl.1 rfl (lv_room (Nat.le_of_ble_eq_true rfl)) d_Rd_takeMaterial_44 ⟨Nat.le_of_ble_eq_true rfl, Nat.le_of_ble_eq_true rfl⟩) hS (fun q _ h => hFc q h) hFc (fun q _ h => hFc q h) (fun E9 ce9 q9 uu t H1 locs ht hvm hx_47 hB hz1 hk1 hS hce hcv hcl => ?_) (fun r_36 uu t H1 locs ht hvm hw_40 hB hz1 hk1 hS => ?_)
        ·
          obtain ⟨w_41, k_42, h_43, na_44, cnt_45, cel_46⟩ := uu
          obtain ⟨hEn, hP1, hD1⟩ := hB
          rw [ht] at hP1
          obtain ⟨hP, hD⟩ := va_join (wr := []) (w1 := [(aR, .inr (0, [.ref aT, .ref aS])), (aT, .inr (2, [.ref aB, .int (nI u), .int (nI en), .int (nI h_43), .int na_44, .int w_41, .int (nI k_42)])), (aB, .inl (kB, 65536, .inl B)), (aS, .inr (1, [.ref aN, .ref aC])), (aN, .inl (kN, 5, .inl (fun j => nI (cnt_45 j)))), (aC, .inl (kC, 52035, .inl cel_46))]) hP hD [0, 1, 2, 3, 4, 5] [] rfl rfl (by decide) (by decide) hk1 hFc hP1 hD1
          generalize H1 = H at hP hS hce ⊢
          have hP : va_P (dC, dI) vwCl [(aR, .inr (0, [.ref aT, .ref aS])), (aT, .inr (2, [.ref aB, .int (nI u), .int (nI en), .int (nI h_43), .int na_44, .int w_41, .int (nI k_42)])), (aB, .inl (kB, 65536, .inl B)), (aS, .inr (1, [.ref aN, .ref aC])), (aN, .inl (kN, 5, .inl (fun j => nI (cnt_45 j)))), (aC, .inl (kC, 52035, .inl cel_46))] H := hP
          have hD : va_D A [(aR, .inr (0, [.ref aT, .ref aS])), (aT, .inr (2, [.ref aB, .int (nI u), .int (nI en), .int (nI h_43), .int na_44, .int w_41, .int (nI k_42)])), (aB, .inl (kB, 65536, .inl B)), (aS, .inr (1, [.ref aN, .ref aC])), (aN, .inl (kN, 5, .inl (fun j => nI (cnt_45 j)))), (aC, .inl (kC, 52035, .inl cel_46))] := hD
          have hP9 := hP.sub (ws' := [(aR, .inr (0, [.ref aT, .ref aS])), (aT, .inr (2, [.ref aB, .int (nI u), .int (nI en), .int (nI h_43), .int na_44, .int w_41, .int (nI k_42)])), (aB, .inl (kB, 65536, .inl B)), (aS, .inr (1, [.ref aN, .ref aC])), (aN, .inl (kN, 5, .inl (fun j => nI (cnt_45 j)))), (aC, .inl (kC, 52035, .inl cel_46))]) [0, 1, 2, 3, 4, 5] rfl
          have hD9 := hD.sub (ws' := [(aR, .inr (0, [.ref aT, .ref aS])), (aT, .inr (2, [.ref aB, .int (nI u), .int (nI en), .int (nI h_43), .int na_44, .int w_41, .int (nI k_42)])), (aB, .inl (kB, 65536, .inl B)), (aS, .inr (1, [.ref aN, .ref aC])), (aN, .inl (kN, 5, .inl (fun j => nI (cnt_45 j)))), (aC, .inl (kC, 52035, .inl cel_46))]) [0, 1, 2, 3, 4, 5] (by decide) rfl
          exact vx_out (fun x hx => (htab x hx).elim) hlocks hce hcv hcl (fun t ht hvm => ⟨(w_41, k_42, h_43, na_44, cnt_45, cel_46), by simp only [zMaterial, zListP, zNumP, zB_ok, zB_er, hw_3, hw_16a, hw_26, hx_47], ⟨hEn, by rw [ht]; exact hP9, hD9⟩, hS.F ht⟩) hS.2.2 (by decide) (by decide)
        ·
          obtain ⟨h_37, na_38, cel_39⟩ := uu
          obtain ⟨hP1, hD1, hsz1⟩ := hB
          rw [ht] at hP1 hsz1
          obtain ⟨hP, hD⟩ := va_join (wr := []) (w1 := [(aR, .inr (0, [.ref aT, .ref aS])), (aT, .inr (2, [.ref aB, .int (nI u), .int (nI en), .int (nI h_37), .int na_38, .int w, .int wa])), (aB, .inl (kB, 65536, .inl B)), (aS, .inr (1, [.ref aN, .ref aC])), (aN, .inl (kN, 5, .inl (fun j => nI (cnt j)))), (aC, .inl (kC, 52035, .inl cel_39))]) hP hD [0, 1, 2, 3, 4, 5] [] rfl rfl (by decide) (by decide) hk1 hFc hP1 hD1
          refine zt_tight (hsz1.trans hzs) ?_
          generalize H1 = H at hP hS ⊢
          have hP : va_P (dC, dI) vwCl [(aR, .inr (0, [.ref aT, .ref aS])), (aT, .inr (2, [.ref aB, .int (nI u), .int (nI en), .int (nI h_37), .int na_38, .int w, .int wa])), (aB, .inl (kB, 65536, .inl B)), (aS, .inr (1, [.ref aN, .ref aC])), (aN, .inl (kN, 5, .inl (fun j => nI (cnt j)))), (aC, .inl (kC, 52035, .inl cel_39))] H := hP
          have hD : va_D A [(aR, .inr (0, [.ref aT, .ref aS])), (aT, .inr (2, [.ref aB, .int (nI u), .int (nI en), .int (nI h_37), .int na_38, .int w, .int wa])), (aB, .inl (kB, 65536, .inl B)), (aS, .inr (1, [.ref aN, .ref aC])), (aN, .inl (kN, 5, .inl (fun j => nI (cnt j)))), (aC, .inl (kC, 52035, .inl cel_39))] := hD
          obtain ⟨hw_40a, rfl, rfl⟩ := hw_40
          have hw_40i := zRNum_in (by omega) hw_40a
          refine lv_pop hx hb d_Rd_takeMaterial_47 rfl ?_
          refine lv_aload_n hx hb d_Rd_takeMaterial_48 rfl (lv_at hl 0 rfl) ?_
          refine lv_bipush (v := 44) hx hb d_Rd_takeMaterial_49 (by decide) ?_
          refine va_ldcS (q := G.2.1 19) hx hb hown (hE.2.2.2.2.2.2.2 19 (by decide)).2 d_Rd_takeMaterial_51 ?_
          have hPc := hP.sub (ws' := [(aR, .inr (0, [.ref aT, .ref aS])), (aT, .inr (2, [.ref aB, .int (nI u), .int (nI en), .int (nI h_37), .int (nI h_25), .int w, .int wa])), (aB, .inl (kB, 65536, .inl B)), (aS, .inr (1, [.ref aN, .ref aC])), (aN, .inl (kN, 5, .inl (fun j => nI (cnt j)))), (aC, .inl (kC, 52035, .inl (upd cel_14 (cc + 4) r_36)))]) [0, 1, 2, 3, 4, 5] rfl
          have hDc := hD.sub (ws' := [(aR, .inr (0, [.ref aT, .ref aS])), (aT, .inr (2, [.ref aB, .int (nI u), .int (nI en), .int (nI h_37), .int (nI h_25), .int w, .int wa])), (aB, .inl (kB, 65536, .inl B)), (aS, .inr (1, [.ref aN, .ref aC])), (aN, .inl (kN, 5, .inl (fun j => nI (cnt j)))), (aC, .inl (kC, 52035, .inl (upd cel_14 (cc + 4) r_36)))]) [0, 1, 2, 3, 4, 5] (by decide) rfl
          have hKc := hK.sub (tys' := [(kB, .byte), (kN, .int), (kC, .int)]) [0, 1, 2] rfl
          have hFc := va_free (wc := [(aR, .inr (0, [.ref aT, .ref aS])), (aT, .inr (2, [.ref aB, .int (nI u), .int (nI en), .int (nI h_37), .int (nI h_25), .int w, .int wa])), (aB, .inl (kB, 65536, .inl B)), (aS, .inr (1, [.ref aN, .ref aC])), (aN, .inl (kN, 5, .inl (fun j => nI (cnt j)))), (aC, .inl (kC, 52035, .inl (upd cel_14 (cc + 4) r_36)))]) hD hS hA [0, 1, 2, 3, 4, 5] rfl
          refine zt_size (fun hzs => ?_)
          refine vx_callv (vx_runV (As := [.int 44, .ref (G.2.1 19)]) (rest := []) ⟨hx, hb, hml, hown, hts⟩ (c_Rd_takeName l hst G dC dI H.size aR aT aS aB u en h_37 (nI h_25) w wa kB B aN aC kN cnt kC (upd cel_14 (cc + 4) r_36) 44 19 (by omega) (by omega) (by decide) (zSb_len _)) (cwV 2 hts (gV tw_359 tw_361 ts_8 tw_2 tw_362 rfl) rfl rfl rfl (by decide +kernel) ⟨Nat.le_of_ble_eq_true rfl, Nat.le_of_ble_eq_true rfl⟩) (PW_preV hPc hKc hDc hE hS hFc (ci := 0) (q0 := 0) rfl rfl) rfl rfl hl.1 rfl (lv_room (Nat.le_of_ble_eq_true rfl)) d_Rd_takeMaterial_53 ⟨Nat.le_of_ble_eq_true rfl, Nat.le_of_ble_eq_true rfl⟩) hS (fun q _ h => hFc q h) hFc (fun q _ h => hFc q h) (fun E9 ce9 q9 uu t H1 locs ht hvm hx_57 hB hz1 hk1 hS hce hcv hcl => ?_) (fun uu t H1 locs ht hvm hw_50 hB hz1 hk1 hS => ?_)
          ·
            obtain ⟨w_51, k_52, h_53, na_54, cnt_55, cel_56⟩ := uu
            obtain ⟨hEn, hP1, hD1⟩ := hB
            rw [ht] at hP1
            obtain ⟨hP, hD⟩ := va_join (wr := []) (w1 := [(aR, .inr (0, [.ref aT, .ref aS])), (aT, .inr (2, [.ref aB, .int (nI u), .int (nI en), .int (nI h_53), .int na_54, .int w_51, .int (nI k_52)])), (aB, .inl (kB, 65536, .inl B)), (aS, .inr (1, [.ref aN, .ref aC])), (aN, .inl (kN, 5, .inl (fun j => nI (cnt_55 j)))), (aC, .inl (kC, 52035, .inl cel_56))]) hP hD [0, 1, 2, 3, 4, 5] [] rfl rfl (by decide) (by decide) hk1 hFc hP1 hD1
            generalize H1 = H at hP hS hce ⊢
            have hP : va_P (dC, dI) vwCl [(aR, .inr (0, [.ref aT, .ref aS])), (aT, .inr (2, [.ref aB, .int (nI u), .int (nI en), .int (nI h_53), .int na_54, .int w_51, .int (nI k_52)])), (aB, .inl (kB, 65536, .inl B)), (aS, .inr (1, [.ref aN, .ref aC])), (aN, .inl (kN, 5, .inl (fun j => nI (cnt_55 j)))), (aC, .inl (kC, 52035, .inl cel_56))] H := hP
            have hD : va_D A [(aR, .inr (0, [.ref aT, .ref aS])), (aT, .inr (2, [.ref aB, .int (nI u), .int (nI en), .int (nI h_53), .int na_54, .int w_51, .int (nI k_52)])), (aB, .inl (kB, 65536, .inl B)), (aS, .inr (1, [.ref aN, .ref aC])), (aN, .inl (kN, 5, .inl (fun j => nI (cnt_55 j)))), (aC, .inl (kC, 52035, .inl cel_56))] := hD
            have hP9 := hP.sub (ws' := [(aR, .inr (0, [.ref aT, .ref aS])), (aT, .inr (2, [.ref aB, .int (nI u), .int (nI en), .int (nI h_53), .int na_54, .int w_51, .int (nI k_52)])), (aB, .inl (kB, 65536, .inl B)), (aS, .inr (1, [.ref aN, .ref aC])), (aN, .inl (kN, 5, .inl (fun j => nI (cnt_55 j)))), (aC, .inl (kC, 52035, .inl cel_56))]) [0, 1, 2, 3, 4, 5] rfl
            have hD9 := hD.sub (ws' := [(aR, .inr (0, [.ref aT, .ref aS])), (aT, .inr (2, [.ref aB, .int (nI u), .int (nI en), .int (nI h_53), .int na_54, .int w_51, .int (nI k_52)])), (aB, .inl (kB, 65536, .inl B)), (aS, .inr (1, [.ref aN, .ref aC])), (aN, .inl (kN, 5, .inl (fun j => nI (cnt_55 j)))), (aC, .inl (kC, 52035, .inl cel_56))]) [0, 1, 2, 3, 4, 5] (by decide) rfl
            exact vx_out (fun x hx => (htab x hx).elim) hlocks hce hcv hcl (fun t ht hvm => ⟨(w_51, k_52, h_53, na_54, cnt_55, cel_56), by simp only [zMaterial, zListP, zNumP, zB_ok, zB_er, hw_3, hw_16a, hw_26, hw_40a, hx_57], ⟨hEn, by rw [ht]; exact hP9, hD9⟩, hS.F ht⟩) hS.2.2 (by decide) (by decide)
          ·
            obtain ⟨h_49, rfl⟩ : ∃ z, z = uu := ⟨_, rfl⟩
            obtain ⟨hP1, hD1, hsz1⟩ := hB
            rw [ht] at hP1 hsz1
            obtain ⟨hP, hD⟩ := va_join (wr := []) (w1 := [(aR, .inr (0, [.ref aT, .ref aS])), (aT, .inr (2, [.ref aB, .int (nI u), .int (nI en), .int (nI h_49), .int (nI h_25), .int w, .int wa])), (aB, .inl (kB, 65536, .inl B)), (aS, .inr (1, [.ref aN, .ref aC])), (aN, .inl (kN, 5, .inl (fun j => nI (cnt j)))), (aC, .inl (kC, 52035, .inl (upd cel_14 (cc + 4) r_36)))]) hP hD [0, 1, 2, 3, 4, 5] [] rfl rfl (by decide) (by decide) hk1 hFc hP1 hD1
            refine zt_tight (hsz1.trans hzs) ?_
            generalize H1 = H at hP hS ⊢
            have hP : va_P (dC, dI) vwCl [(aR, .inr (0, [.ref aT, .ref aS])), (aT, .inr (2, [.ref aB, .int (nI u), .int (nI en), .int (nI h_49), .int (nI h_25), .int w, .int wa])), (aB, .inl (kB, 65536, .inl B)), (aS, .inr (1, [.ref aN, .ref aC])), (aN, .inl (kN, 5, .inl (fun j => nI (cnt j)))), (aC, .inl (kC, 52035, .inl (upd cel_14 (cc + 4) r_36)))] H := hP
            have hD : va_D A [(aR, .inr (0, [.ref aT, .ref aS])), (aT, .inr (2, [.ref aB, .int (nI u), .int (nI en), .int (nI h_49), .int (nI h_25), .int w, .int wa])), (aB, .inl (kB, 65536, .inl B)), (aS, .inr (1, [.ref aN, .ref aC])), (aN, .inl (kN, 5, .inl (fun j => nI (cnt j)))), (aC, .inl (kC, 52035, .inl (upd cel_14 (cc + 4) r_36)))] := hD
            have hw_50i := zName_in hw_50
            refine lv_aload_n hx hb d_Rd_takeMaterial_56 rfl (lv_at hl 0 rfl) ?_
            refine lv_iload_n hx hb d_Rd_takeMaterial_57 rfl (lv_at hl 1 rfl) ?_
            refine lv_iconst (v := 5) hx hb d_Rd_takeMaterial_58 (by decide) ?_
            refine lv_iadd hx hb d_Rd_takeMaterial_59 ?_
            refine zt_top (nI_add cc 5) ?_
            refine lv_iconst (v := 0) hx hb d_Rd_takeMaterial_60 (by decide) ?_
            refine lv_iconst (v := 1) hx hb d_Rd_takeMaterial_61 (by decide) ?_
            have hPc := hP.sub (ws' := [(aR, .inr (0, [.ref aT, .ref aS])), (aT, .inr (2, [.ref aB, .int (nI u), .int (nI en), .int (nI h_49), .int (nI h_25), .int w, .int wa])), (aB, .inl (kB, 65536, .inl B)), (aS, .inr (1, [.ref aN, .ref aC])), (aN, .inl (kN, 5, .inl (fun j => nI (cnt j)))), (aC, .inl (kC, 52035, .inl (upd cel_14 (cc + 4) r_36)))]) [0, 1, 2, 3, 4, 5] rfl
            have hDc := hD.sub (ws' := [(aR, .inr (0, [.ref aT, .ref aS])), (aT, .inr (2, [.ref aB, .int (nI u), .int (nI en), .int (nI h_49), .int (nI h_25), .int w, .int wa])), (aB, .inl (kB, 65536, .inl B)), (aS, .inr (1, [.ref aN, .ref aC])), (aN, .inl (kN, 5, .inl (fun j => nI (cnt j)))), (aC, .inl (kC, 52035, .inl (upd cel_14 (cc + 4) r_36)))]) [0, 1, 2, 3, 4, 5] (by decide) rfl
            have hKc := hK.sub (tys' := [(kB, .byte), (kN, .int), (kC, .int)]) [0, 1, 2] rfl
            have hFc := va_free (wc := [(aR, .inr (0, [.ref aT, .ref aS])), (aT, .inr (2, [.ref aB, .int (nI u), .int (nI en), .int (nI h_49), .int (nI h_25), .int w, .int wa])), (aB, .inl (kB, 65536, .inl B)), (aS, .inr (1, [.ref aN, .ref aC])), (aN, .inl (kN, 5, .inl (fun j => nI (cnt j)))), (aC, .inl (kC, 52035, .inl (upd cel_14 (cc + 4) r_36)))]) hD hS hA [0, 1, 2, 3, 4, 5] rfl
            refine zt_size (fun hzs => ?_)
            refine vx_calli (vx_runV (As := [.int (nI (cc + 5)), .int 0, .int 1]) (rest := []) ⟨hx, hb, hml, hown, hts⟩ (c_Rd_takeNumber l hst G dC dI H.size aR aT aS aB u en h_49 (nI h_25) w wa kB B aN aC kN cnt kC (upd cel_14 (cc + 4) r_36) (cc + 5) 0 1 (by omega) (by omega) (by omega)) (cwV 3 hts (gV tw_387 tw_389 ts_10 tw_2 tw_390 rfl) rfl rfl rfl (by decide +kernel) ⟨Nat.le_of_ble_eq_true rfl, Nat.le_of_ble_eq_true rfl⟩) (PW_preV hPc hKc hDc hE hS hFc (ci := 0) (q0 := 0) rfl rfl) rfl rfl hl.1 rfl (lv_room (Nat.le_of_ble_eq_true rfl)) d_Rd_takeMaterial_62 ⟨Nat.le_of_ble_eq_true rfl, Nat.le_of_ble_eq_true rfl⟩) hS (fun q _ h => hFc q h) hFc (fun q _ h => hFc q h) (fun E9 ce9 q9 uu t H1 locs ht hvm hx_69 hB hz1 hk1 hS hce hcv hcl => ?_) (fun r_58 uu t H1 locs ht hvm hw_62 hB hz1 hk1 hS => ?_)
            ·
              obtain ⟨w_63, k_64, h_65, na_66, cnt_67, cel_68⟩ := uu
              obtain ⟨hEn, hP1, hD1⟩ := hB
              rw [ht] at hP1
              obtain ⟨hP, hD⟩ := va_join (wr := []) (w1 := [(aR, .inr (0, [.ref aT, .ref aS])), (aT, .inr (2, [.ref aB, .int (nI u), .int (nI en), .int (nI h_65), .int na_66, .int w_63, .int (nI k_64)])), (aB, .inl (kB, 65536, .inl B)), (aS, .inr (1, [.ref aN, .ref aC])), (aN, .inl (kN, 5, .inl (fun j => nI (cnt_67 j)))), (aC, .inl (kC, 52035, .inl cel_68))]) hP hD [0, 1, 2, 3, 4, 5] [] rfl rfl (by decide) (by decide) hk1 hFc hP1 hD1
              generalize H1 = H at hP hS hce ⊢
              have hP : va_P (dC, dI) vwCl [(aR, .inr (0, [.ref aT, .ref aS])), (aT, .inr (2, [.ref aB, .int (nI u), .int (nI en), .int (nI h_65), .int na_66, .int w_63, .int (nI k_64)])), (aB, .inl (kB, 65536, .inl B)), (aS, .inr (1, [.ref aN, .ref aC])), (aN, .inl (kN, 5, .inl (fun j => nI (cnt_67 j)))), (aC, .inl (kC, 52035, .inl cel_68))] H := hP
              have hD : va_D A [(aR, .inr (0, [.ref aT, .ref aS])), (aT, .inr (2, [.ref aB, .int (nI u), .int (nI en), .int (nI h_65), .int na_66, .int w_63, .int (nI k_64)])), (aB, .inl (kB, 65536, .inl B)), (aS, .inr (1, [.ref aN, .ref aC])), (aN, .inl (kN, 5, .inl (fun j => nI (cnt_67 j)))), (aC, .inl (kC, 52035, .inl cel_68))] := hD
              have hP9 := hP.sub (ws' := [(aR, .inr (0, [.ref aT, .ref aS])), (aT, .inr (2, [.ref aB, .int (nI u), .int (nI en), .int (nI h_65), .int na_66, .int w_63, .int (nI k_64)])), (aB, .inl (kB, 65536, .inl B)), (aS, .inr (1, [.ref aN, .ref aC])), (aN, .inl (kN, 5, .inl (fun j => nI (cnt_67 j)))), (aC, .inl (kC, 52035, .inl cel_68))]) [0, 1, 2, 3, 4, 5] rfl
              have hD9 := hD.sub (ws' := [(aR, .inr (0, [.ref aT, .ref aS])), (aT, .inr (2, [.ref aB, .int (nI u), .int (nI en), .int (nI h_65), .int na_66, .int w_63, .int (nI k_64)])), (aB, .inl (kB, 65536, .inl B)), (aS, .inr (1, [.ref aN, .ref aC])), (aN, .inl (kN, 5, .inl (fun j => nI (cnt_67 j)))), (aC, .inl (kC, 52035, .inl cel_68))]) [0, 1, 2, 3, 4, 5] (by decide) rfl
              exact vx_out (fun x hx => (htab x hx).elim) hlocks hce hcv hcl (fun t ht hvm => ⟨(w_63, k_64, h_65, na_66, cnt_67, cel_68), by simp only [zMaterial, zListP, zNumP, zB_ok, zB_er, hw_3, hw_16a, hw_26, hw_40a, hw_50, hx_69], ⟨hEn, by rw [ht]; exact hP9, hD9⟩, hS.F ht⟩) hS.2.2 (by decide) (by decide)
            ·
              obtain ⟨h_59, na_60, cel_61⟩ := uu
              obtain ⟨hP1, hD1, hsz1⟩ := hB
              rw [ht] at hP1 hsz1
              obtain ⟨hP, hD⟩ := va_join (wr := []) (w1 := [(aR, .inr (0, [.ref aT, .ref aS])), (aT, .inr (2, [.ref aB, .int (nI u), .int (nI en), .int (nI h_59), .int na_60, .int w, .int wa])), (aB, .inl (kB, 65536, .inl B)), (aS, .inr (1, [.ref aN, .ref aC])), (aN, .inl (kN, 5, .inl (fun j => nI (cnt j)))), (aC, .inl (kC, 52035, .inl cel_61))]) hP hD [0, 1, 2, 3, 4, 5] [] rfl rfl (by decide) (by decide) hk1 hFc hP1 hD1
              refine zt_tight (hsz1.trans hzs) ?_
              generalize H1 = H at hP hS ⊢
              have hP : va_P (dC, dI) vwCl [(aR, .inr (0, [.ref aT, .ref aS])), (aT, .inr (2, [.ref aB, .int (nI u), .int (nI en), .int (nI h_59), .int na_60, .int w, .int wa])), (aB, .inl (kB, 65536, .inl B)), (aS, .inr (1, [.ref aN, .ref aC])), (aN, .inl (kN, 5, .inl (fun j => nI (cnt j)))), (aC, .inl (kC, 52035, .inl cel_61))] H := hP
              have hD : va_D A [(aR, .inr (0, [.ref aT, .ref aS])), (aT, .inr (2, [.ref aB, .int (nI u), .int (nI en), .int (nI h_59), .int na_60, .int w, .int wa])), (aB, .inl (kB, 65536, .inl B)), (aS, .inr (1, [.ref aN, .ref aC])), (aN, .inl (kN, 5, .inl (fun j => nI (cnt j)))), (aC, .inl (kC, 52035, .inl cel_61))] := hD
              obtain ⟨hw_62a, rfl, rfl⟩ := hw_62
              have hw_62i := zRNum_in (by omega) hw_62a
              refine lv_pop hx hb d_Rd_takeMaterial_65 rfl ?_
              refine zt_size (fun hzs => ?_)
              have hP9 := hP.sub (ws' := [(aR, .inr (0, [.ref aT, .ref aS])), (aT, .inr (2, [.ref aB, .int (nI u), .int (nI en), .int (nI h_59), .int (nI h_49), .int w, .int wa])), (aB, .inl (kB, 65536, .inl B)), (aS, .inr (1, [.ref aN, .ref aC])), (aN, .inl (kN, 5, .inl (fun j => nI (cnt j)))), (aC, .inl (kC, 52035, .inl (upd (upd cel_14 (cc + 4) r_36) (cc + 5) r_58)))]) [0, 1, 2, 3, 4, 5] rfl
              have hD9 := hD.sub (ws' := [(aR, .inr (0, [.ref aT, .ref aS])), (aT, .inr (2, [.ref aB, .int (nI u), .int (nI en), .int (nI h_59), .int (nI h_49), .int w, .int wa])), (aB, .inl (kB, 65536, .inl B)), (aS, .inr (1, [.ref aN, .ref aC])), (aN, .inl (kN, 5, .inl (fun j => nI (cnt j)))), (aC, .inl (kC, 52035, .inl (upd (upd cel_14 (cc + 4) r_36) (cc + 5) r_58)))]) [0, 1, 2, 3, 4, 5] (by decide) rfl
              refine W.widen (k := 1) (n := 6) (by decide) (by decide) ?_
              exact vx_ret (W.vret hx hb hr (fun t ht hW => ⟨⟨(h_59, nI h_49, upd (upd cel_14 (cc + 4) r_36) (cc + 5) r_58), rfl, by simp only [zMaterial, zListP, zNumP, zB_ok, hw_3, hw_16a, hw_26, hw_40a, hw_50, hw_62a], by rw [ht]; exact hP9, hD9, by rw [ht]; exact hzs⟩, hS.F ht⟩) hS.2.2 d_Rd_takeMaterial_66)
set_option maxHeartbeats 4000000 in
set_option maxRecDepth 100000 in
theorem c_Rd_takeNode (l : Launch) (hst : l.stackTraces = false) (G : ZG) (dC : Nat → ClassId) (dI : Nat → Nat → Nat) (sz : Nat) (aR : Nat) (aT : Nat) (aS : Nat) (aB : Nat) (u : Nat) (en : Nat) (h : Nat) (na : Int32) (w : Int32) (wa : Int32) (kB : ClassId) (B : Nat → Int32) (aN : Nat) (aC : Nat) (kN : ClassId) (cnt : Nat → Nat) (kC : ClassId) (cel : Nat → Int32) (cc : Nat) (hen : en ≤ 65536) (hh : h ≤ en) (hcc : cc + 11 ≤ 52035) : vx_Met l y_Rd_takeNode w_Rd_takeNode ({ frames := 9, cells := 1, slots := 6, locals := 158 }) (va_Pc [.ref aR, .int (nI cc)] (PW G (dC, dI) [(kB, .byte), (kN, .int), (kC, .int)] [(aR, .inr (0, [.ref aT, .ref aS])), (aT, .inr (2, [.ref aB, .int (nI u), .int (nI en), .int (nI h), .int na, .int w, .int wa])), (aB, .inl (kB, 65536, .inl B)), (aS, .inr (1, [.ref aN, .ref aC])), (aN, .inl (kN, 5, .inl (fun j => nI (cnt j)))), (aC, .inl (kC, 52035, .inl cel))] sz)) (va_Qv (fun (uu : Nat × Int32 × (Nat → Int32)) => zNode B en (cnt 3) (cnt 2) cc (h, cel) = .ok (uu.1, uu.2.2)) (fun (uu : Nat × Int32 × (Nat → Int32)) t => BW (dC, dI) [(aR, .inr (0, [.ref aT, .ref aS])), (aT, .inr (2, [.ref aB, .int (nI u), .int (nI en), .int (nI uu.1), .int uu.2.1, .int w, .int wa])), (aB, .inl (kB, 65536, .inl B)), (aS, .inr (1, [.ref aN, .ref aC])), (aN, .inl (kN, 5, .inl (fun j => nI (cnt j)))), (aC, .inl (kC, 52035, .inl uu.2.2))] (va_A [(aR, .inr (0, [.ref aT, .ref aS])), (aT, .inr (2, [.ref aB, .int (nI u), .int (nI en), .int (nI h), .int na, .int w, .int wa])), (aB, .inl (kB, 65536, .inl B)), (aS, .inr (1, [.ref aN, .ref aC])), (aN, .inl (kN, 5, .inl (fun j => nI (cnt j)))), (aC, .inl (kC, 52035, .inl cel))] sz) sz t) (va_A [(aR, .inr (0, [.ref aT, .ref aS])), (aT, .inr (2, [.ref aB, .int (nI u), .int (nI en), .int (nI h), .int na, .int w, .int wa])), (aB, .inl (kB, 65536, .inl B)), (aS, .inr (1, [.ref aN, .ref aC])), (aN, .inl (kN, 5, .inl (fun j => nI (cnt j)))), (aC, .inl (kC, 52035, .inl cel))] sz)) (vx_X (fun (uu : Int32 × Nat × Nat × Int32 × (Nat → Nat) × (Nat → Int32)) => zNode B en (cnt 3) (cnt 2) cc (h, cel) = .error (uu.1, uu.2.1)) (fun E (uu : Int32 × Nat × Nat × Int32 × (Nat → Nat) × (Nat → Int32)) t => E = "java/lang/IllegalArgumentException" ∧ va_P (dC, dI) vwCl [(aR, .inr (0, [.ref aT, .ref aS])), (aT, .inr (2, [.ref aB, .int (nI u), .int (nI en), .int (nI uu.2.2.1), .int uu.2.2.2.1, .int uu.1, .int (nI uu.2.1)])), (aB, .inl (kB, 65536, .inl B)), (aS, .inr (1, [.ref aN, .ref aC])), (aN, .inl (kN, 5, .inl (fun j => nI (uu.2.2.2.2.1 j)))), (aC, .inl (kC, 52035, .inl uu.2.2.2.2.2))] t.heap ∧ va_D (va_A [(aR, .inr (0, [.ref aT, .ref aS])), (aT, .inr (2, [.ref aB, .int (nI u), .int (nI en), .int (nI h), .int na, .int w, .int wa])), (aB, .inl (kB, 65536, .inl B)), (aS, .inr (1, [.ref aN, .ref aC])), (aN, .inl (kN, 5, .inl (fun j => nI (cnt j)))), (aC, .inl (kC, 52035, .inl cel))] sz) [(aR, .inr (0, [.ref aT, .ref aS])), (aT, .inr (2, [.ref aB, .int (nI u), .int (nI en), .int (nI uu.2.2.1), .int uu.2.2.2.1, .int uu.1, .int (nI uu.2.1)])), (aB, .inl (kB, 65536, .inl B)), (aS, .inr (1, [.ref aN, .ref aC])), (aN, .inl (kN, 5, .inl (fun j => nI (uu.2.2.2.2.1 j)))), (aC, .inl (kC, 52035, .inl uu.2.2.2.2.2))]) (va_A [(aR, .inr (0, [.ref aT, .ref aS])), (aT, .inr (2, [.ref aB, .int (nI u), .int (nI en), .int (nI h), .int na, .int w, .int wa])), (aB, .inl (kB, 65536, .inl B)), (aS, .inr (1, [.ref aN, .ref aC])), (aN, .inl (kN, 5, .inl (fun j => nI (cnt j)))), (aC, .inl (kC, 52035, .inl cel))] sz)) 1 6 (va_A [(aR, .inr (0, [.ref aT, .ref aS])), (aT, .inr (2, [.ref aB, .int (nI u), .int (nI en), .int (nI h), .int na, .int w, .int wa])), (aB, .inl (kB, 65536, .inl B)), (aS, .inr (1, [.ref aN, .ref aC])), (aN, .inl (kN, 5, .inl (fun j => nI (cnt j)))), (aC, .inl (kC, 52035, .inl cel))] sz) := by
  refine vx_ofW (cc := prog_2_method_8_code) (maxL := 2) (ret := none) (by decide) rfl ?_
  intro p e s m args below meth c s₁ Bd hml htab hv
  obtain ⟨rfl, hsz, hP, hK, hD0, hE⟩ := hv
  have hx := Bd.exec
  have hb := Bd.bytes
  have hr := Bd.returns
  have hts := atoms_spec (ws := w_Rd_takeNode) Bd.pre
  have hown : s.vm.findClass R_Rd = some m.cls := findClass_of_methodNamed Bd.named
  have hlocks := Bd.notSynchronized
  have hz : ∀ w ∈ ZW, w.before _ s = true := fun w h => hts w (List.mem_cons_of_mem _ h)
  subst hsz
  have hD := hD0.self (sz := s.heap.size)
  generalize hAe : va_A [(aR, .inr (0, [.ref aT, .ref aS])), (aT, .inr (2, [.ref aB, .int (nI u), .int (nI en), .int (nI h), .int na, .int w, .int wa])), (aB, .inl (kB, 65536, .inl B)), (aS, .inr (1, [.ref aN, .ref aC])), (aN, .inl (kN, 5, .inl (fun j => nI (cnt j)))), (aC, .inl (kC, 52035, .inl cel))] s.heap.size = A at hD hE ⊢
  have hA : ∀ q : Nat, s.heap.size ≤ q → A q := fun q h => by rw [← hAe]; exact Or.inr h
  have hS : va_S A s.heap s.heap [] := va_S.rf
  have hl := lv_entry ([.ref aR, .int (nI cc)]) (n := 2) (Nat.le_of_ble_eq_true rfl)
  rw [lg_entry_eq]
  generalize (lg_sl ([.ref aR, .int (nI cc)]) ++ List.replicate (2 - (lg_sl ([.ref aR, .int (nI cc)])).length) Slot.unset).toArray = ls at hl ⊢
  have hl : lv_has ls 2 [(0, .ref aR), (1, .int (nI cc))] := hl
  obtain ⟨H, hH⟩ : ∃ z, z = s.heap := ⟨_, rfl⟩
  have hP : va_P (dC, dI) vwCl [(aR, .inr (0, [.ref aT, .ref aS])), (aT, .inr (2, [.ref aB, .int (nI u), .int (nI en), .int (nI h), .int na, .int w, .int wa])), (aB, .inl (kB, 65536, .inl B)), (aS, .inr (1, [.ref aN, .ref aC])), (aN, .inl (kN, 5, .inl (fun j => nI (cnt j)))), (aC, .inl (kC, 52035, .inl cel))] H := by rw [hH]; exact hP
  have hS : va_S A s.heap H [] := by rw [hH]; exact hS
  refine zt_heap hH ?_
  refine lv_aload_n hx hb d_Rd_takeNode_0 rfl (lv_at hl 0 rfl) ?_
  refine lv_bipush (v := 123) hx hb d_Rd_takeNode_1 (by decide) ?_
  refine va_ldcS (q := G.2.1 25) hx hb hown (hE.2.2.2.2.2.2.2 25 (by decide)).2 d_Rd_takeNode_3 ?_
  have hPc := hP.sub (ws' := [(aR, .inr (0, [.ref aT, .ref aS])), (aT, .inr (2, [.ref aB, .int (nI u), .int (nI en), .int (nI h), .int na, .int w, .int wa])), (aB, .inl (kB, 65536, .inl B)), (aS, .inr (1, [.ref aN, .ref aC])), (aN, .inl (kN, 5, .inl (fun j => nI (cnt j)))), (aC, .inl (kC, 52035, .inl cel))]) [0, 1, 2, 3, 4, 5] rfl
  have hDc := hD.sub (ws' := [(aR, .inr (0, [.ref aT, .ref aS])), (aT, .inr (2, [.ref aB, .int (nI u), .int (nI en), .int (nI h), .int na, .int w, .int wa])), (aB, .inl (kB, 65536, .inl B)), (aS, .inr (1, [.ref aN, .ref aC])), (aN, .inl (kN, 5, .inl (fun j => nI (cnt j)))), (aC, .inl (kC, 52035, .inl cel))]) [0, 1, 2, 3, 4, 5] (by decide) rfl
  have hKc := hK.sub (tys' := [(kB, .byte), (kN, .int), (kC, .int)]) [0, 1, 2] rfl
  have hFc := va_free (wc := [(aR, .inr (0, [.ref aT, .ref aS])), (aT, .inr (2, [.ref aB, .int (nI u), .int (nI en), .int (nI h), .int na, .int w, .int wa])), (aB, .inl (kB, 65536, .inl B)), (aS, .inr (1, [.ref aN, .ref aC])), (aN, .inl (kN, 5, .inl (fun j => nI (cnt j)))), (aC, .inl (kC, 52035, .inl cel))]) hD hS hA [0, 1, 2, 3, 4, 5] rfl
  refine zt_size (fun hzs => ?_)
  refine vx_callv (vx_runV (As := [.int 123, .ref (G.2.1 25)]) (rest := []) ⟨hx, hb, hml, hown, hts⟩ (c_Rd_takeName l hst G dC dI H.size aR aT aS aB u en h na w wa kB B aN aC kN cnt kC cel 123 25 (by omega) (by omega) (by decide) (zSb_len _)) (cwV 2 hts (gV tw_359 tw_361 ts_8 tw_2 tw_362 rfl) rfl rfl rfl (by decide +kernel) ⟨Nat.le_of_ble_eq_true rfl, Nat.le_of_ble_eq_true rfl⟩) (PW_preV hPc hKc hDc hE hS hFc (ci := 0) (q0 := 0) rfl rfl) rfl rfl hl.1 rfl (lv_room (Nat.le_of_ble_eq_true rfl)) d_Rd_takeNode_5 ⟨Nat.le_of_ble_eq_true rfl, Nat.le_of_ble_eq_true rfl⟩) hS (fun q _ h => hFc q h) hFc (fun q _ h => hFc q h) (fun E9 ce9 q9 uu t H1 locs ht hvm hx_10 hB hz1 hk1 hS hce hcv hcl => ?_) (fun uu t H1 locs ht hvm hw_3 hB hz1 hk1 hS => ?_)
  ·
    obtain ⟨w_4, k_5, h_6, na_7, cnt_8, cel_9⟩ := uu
    obtain ⟨hEn, hP1, hD1⟩ := hB
    rw [ht] at hP1
    obtain ⟨hP, hD⟩ := va_join (wr := []) (w1 := [(aR, .inr (0, [.ref aT, .ref aS])), (aT, .inr (2, [.ref aB, .int (nI u), .int (nI en), .int (nI h_6), .int na_7, .int w_4, .int (nI k_5)])), (aB, .inl (kB, 65536, .inl B)), (aS, .inr (1, [.ref aN, .ref aC])), (aN, .inl (kN, 5, .inl (fun j => nI (cnt_8 j)))), (aC, .inl (kC, 52035, .inl cel_9))]) hP hD [0, 1, 2, 3, 4, 5] [] rfl rfl (by decide) (by decide) hk1 hFc hP1 hD1
    generalize H1 = H at hP hS hce ⊢
    have hP : va_P (dC, dI) vwCl [(aR, .inr (0, [.ref aT, .ref aS])), (aT, .inr (2, [.ref aB, .int (nI u), .int (nI en), .int (nI h_6), .int na_7, .int w_4, .int (nI k_5)])), (aB, .inl (kB, 65536, .inl B)), (aS, .inr (1, [.ref aN, .ref aC])), (aN, .inl (kN, 5, .inl (fun j => nI (cnt_8 j)))), (aC, .inl (kC, 52035, .inl cel_9))] H := hP
    have hD : va_D A [(aR, .inr (0, [.ref aT, .ref aS])), (aT, .inr (2, [.ref aB, .int (nI u), .int (nI en), .int (nI h_6), .int na_7, .int w_4, .int (nI k_5)])), (aB, .inl (kB, 65536, .inl B)), (aS, .inr (1, [.ref aN, .ref aC])), (aN, .inl (kN, 5, .inl (fun j => nI (cnt_8 j)))), (aC, .inl (kC, 52035, .inl cel_9))] := hD
    have hP9 := hP.sub (ws' := [(aR, .inr (0, [.ref aT, .ref aS])), (aT, .inr (2, [.ref aB, .int (nI u), .int (nI en), .int (nI h_6), .int na_7, .int w_4, .int (nI k_5)])), (aB, .inl (kB, 65536, .inl B)), (aS, .inr (1, [.ref aN, .ref aC])), (aN, .inl (kN, 5, .inl (fun j => nI (cnt_8 j)))), (aC, .inl (kC, 52035, .inl cel_9))]) [0, 1, 2, 3, 4, 5] rfl
    have hD9 := hD.sub (ws' := [(aR, .inr (0, [.ref aT, .ref aS])), (aT, .inr (2, [.ref aB, .int (nI u), .int (nI en), .int (nI h_6), .int na_7, .int w_4, .int (nI k_5)])), (aB, .inl (kB, 65536, .inl B)), (aS, .inr (1, [.ref aN, .ref aC])), (aN, .inl (kN, 5, .inl (fun j => nI (cnt_8 j)))), (aC, .inl (kC, 52035, .inl cel_9))]) [0, 1, 2, 3, 4, 5] (by decide) rfl
    exact vx_out (fun x hx => (htab x hx).elim) hlocks hce hcv hcl (fun t ht hvm => ⟨(w_4, k_5, h_6, na_7, cnt_8, cel_9), by simp only [zNode, zListP, zNumP, zB_ok, zB_er, hx_10], ⟨hEn, by rw [ht]; exact hP9, hD9⟩, hS.F ht⟩) hS.2.2 (by decide) (by decide)
  ·
    obtain ⟨h_2, rfl⟩ : ∃ z, z = uu := ⟨_, rfl⟩
    obtain ⟨hP1, hD1, hsz1⟩ := hB
    rw [ht] at hP1 hsz1
    obtain ⟨hP, hD⟩ := va_join (wr := []) (w1 := [(aR, .inr (0, [.ref aT, .ref aS])), (aT, .inr (2, [.ref aB, .int (nI u), .int (nI en), .int (nI h_2), .int na, .int w, .int wa])), (aB, .inl (kB, 65536, .inl B)), (aS, .inr (1, [.ref aN, .ref aC])), (aN, .inl (kN, 5, .inl (fun j => nI (cnt j)))), (aC, .inl (kC, 52035, .inl cel))]) hP hD [0, 1, 2, 3, 4, 5] [] rfl rfl (by decide) (by decide) hk1 hFc hP1 hD1
    refine zt_tight (hsz1.trans hzs) ?_
    generalize H1 = H at hP hS ⊢
    have hP : va_P (dC, dI) vwCl [(aR, .inr (0, [.ref aT, .ref aS])), (aT, .inr (2, [.ref aB, .int (nI u), .int (nI en), .int (nI h_2), .int na, .int w, .int wa])), (aB, .inl (kB, 65536, .inl B)), (aS, .inr (1, [.ref aN, .ref aC])), (aN, .inl (kN, 5, .inl (fun j => nI (cnt j)))), (aC, .inl (kC, 52035, .inl cel))] H := hP
    have hD : va_D A [(aR, .inr (0, [.ref aT, .ref aS])), (aT, .inr (2, [.ref aB, .int (nI u), .int (nI en), .int (nI h_2), .int na, .int w, .int wa])), (aB, .inl (kB, 65536, .inl B)), (aS, .inr (1, [.ref aN, .ref aC])), (aN, .inl (kN, 5, .inl (fun j => nI (cnt j)))), (aC, .inl (kC, 52035, .inl cel))] := hD
    have hw_3i := zName_in hw_3
    refine lv_aload_n hx hb d_Rd_takeNode_8 rfl (lv_at hl 0 rfl) ?_
    refine lv_iload_n hx hb d_Rd_takeNode_9 rfl (lv_at hl 1 rfl) ?_
    refine lv_iconst (v := -1) hx hb d_Rd_takeNode_10 (by decide) ?_
    refine lv_aload_n hx hb d_Rd_takeNode_11 rfl (lv_at hl 0 rfl) ?_
    refine va_get (D := (dC, dI)) (ci := 0) (v := .ref aS) (C := R_Rd) (T := F_Rd) (N := 2) hx hb hz i_Rd hown hK hP 0 rfl rfl 1 (by decide) (hz _ tw_86) (fun _ h9 => h9) rfl d_Rd_takeNode_12 ?_
    refine lv_iconst (v := 3) hx hb d_Rd_takeNode_15 (by decide) ?_
    have hPc := hP.sub (ws' := [(aS, .inr (1, [.ref aN, .ref aC])), (aN, .inl (kN, 5, .inl (fun j => nI (cnt j)))), (aC, .inl (kC, 52035, .inl cel))]) [3, 4, 5] rfl
    have hDc := hD.sub (ws' := [(aS, .inr (1, [.ref aN, .ref aC])), (aN, .inl (kN, 5, .inl (fun j => nI (cnt j)))), (aC, .inl (kC, 52035, .inl cel))]) [3, 4, 5] (by decide) rfl
    have hKc := hK.sub (tys' := [(kN, .int), (kC, .int)]) [1, 2] rfl
    have hFc := va_free (wc := [(aS, .inr (1, [.ref aN, .ref aC])), (aN, .inl (kN, 5, .inl (fun j => nI (cnt j)))), (aC, .inl (kC, 52035, .inl cel))]) hD hS hA [3, 4, 5] rfl
    refine va_calli (va_runV (As := [.int (nI 3)]) (rest := [.int (-1), .int (nI cc), .ref aR]) ⟨hx, hb, hml, hown, hts⟩ (c_Sc_howManyN l G dC dI H.size aS aN aC kN cnt kC cel 3 (by omega)) (cwV 1 hts (gV tw_426 tw_135 tw_136 tw_4 tw_137 rfl) rfl rfl rfl (by decide +kernel) ⟨Nat.le_of_ble_eq_true rfl, Nat.le_of_ble_eq_true rfl⟩) (PW_preV hPc hKc hDc hE hS hFc (ci := 1) (q0 := 0) rfl rfl) rfl rfl hl.1 rfl (lv_room (Nat.le_of_ble_eq_true rfl)) d_Rd_takeNode_16 ⟨Nat.le_of_ble_eq_true rfl, Nat.le_of_ble_eq_true rfl⟩) hS (fun q _ h => hFc q h) hFc (fun r_11 uu t H1 locs ht hvm hw_12 hB hz1 hk1 hS => ?_)
    obtain ⟨hP1, hD1, hsz1⟩ := hB
    rw [ht] at hP1 hsz1
    obtain ⟨hP, hD⟩ := va_join (wr := [(aR, .inr (0, [.ref aT, .ref aS])), (aT, .inr (2, [.ref aB, .int (nI u), .int (nI en), .int (nI h_2), .int na, .int w, .int wa])), (aB, .inl (kB, 65536, .inl B))]) (w1 := [(aS, .inr (1, [.ref aN, .ref aC])), (aN, .inl (kN, 5, .inl (fun j => nI (cnt j)))), (aC, .inl (kC, 52035, .inl cel))]) hP hD [3, 4, 5] [0, 1, 2] rfl rfl (by decide) (by decide) hk1 hFc hP1 hD1
    generalize H1 = H at hP hS ⊢
    have hP : va_P (dC, dI) vwCl [(aR, .inr (0, [.ref aT, .ref aS])), (aT, .inr (2, [.ref aB, .int (nI u), .int (nI en), .int (nI h_2), .int na, .int w, .int wa])), (aB, .inl (kB, 65536, .inl B)), (aS, .inr (1, [.ref aN, .ref aC])), (aN, .inl (kN, 5, .inl (fun j => nI (cnt j)))), (aC, .inl (kC, 52035, .inl cel))] H := hP
    have hD : va_D A [(aR, .inr (0, [.ref aT, .ref aS])), (aT, .inr (2, [.ref aB, .int (nI u), .int (nI en), .int (nI h_2), .int na, .int w, .int wa])), (aB, .inl (kB, 65536, .inl B)), (aS, .inr (1, [.ref aN, .ref aC])), (aN, .inl (kN, 5, .inl (fun j => nI (cnt j)))), (aC, .inl (kC, 52035, .inl cel))] := hD
    subst hw_12
    refine lv_iconst (v := 2) hx hb d_Rd_takeNode_19 (by decide) ?_
    refine lv_isub hx hb d_Rd_takeNode_20 ?_
    have hPc := hP.sub (ws' := [(aR, .inr (0, [.ref aT, .ref aS])), (aT, .inr (2, [.ref aB, .int (nI u), .int (nI en), .int (nI h_2), .int na, .int w, .int wa])), (aB, .inl (kB, 65536, .inl B)), (aS, .inr (1, [.ref aN, .ref aC])), (aN, .inl (kN, 5, .inl (fun j => nI (cnt j)))), (aC, .inl (kC, 52035, .inl cel))]) [0, 1, 2, 3, 4, 5] rfl
    have hDc := hD.sub (ws' := [(aR, .inr (0, [.ref aT, .ref aS])), (aT, .inr (2, [.ref aB, .int (nI u), .int (nI en), .int (nI h_2), .int na, .int w, .int wa])), (aB, .inl (kB, 65536, .inl B)), (aS, .inr (1, [.ref aN, .ref aC])), (aN, .inl (kN, 5, .inl (fun j => nI (cnt j)))), (aC, .inl (kC, 52035, .inl cel))]) [0, 1, 2, 3, 4, 5] (by decide) rfl
    have hKc := hK.sub (tys' := [(kB, .byte), (kN, .int), (kC, .int)]) [0, 1, 2] rfl
    have hFc := va_free (wc := [(aR, .inr (0, [.ref aT, .ref aS])), (aT, .inr (2, [.ref aB, .int (nI u), .int (nI en), .int (nI h_2), .int na, .int w, .int wa])), (aB, .inl (kB, 65536, .inl B)), (aS, .inr (1, [.ref aN, .ref aC])), (aN, .inl (kN, 5, .inl (fun j => nI (cnt j)))), (aC, .inl (kC, 52035, .inl cel))]) hD hS hA [0, 1, 2, 3, 4, 5] rfl
    refine zt_size (fun hzs => ?_)
    refine vx_calli (vx_runV (As := [.int (nI cc), .int (-1), .int ((nI (cnt 3)) - 2)]) (rest := []) ⟨hx, hb, hml, hown, hts⟩ (c_Rd_takeNumber l hst G dC dI H.size aR aT aS aB u en h_2 na w wa kB B aN aC kN cnt kC cel cc (-1) ((nI (cnt 3)) - 2) (by omega) (by omega) (by omega)) (cwV 3 hts (gV tw_387 tw_389 ts_10 tw_2 tw_390 rfl) rfl rfl rfl (by decide +kernel) ⟨Nat.le_of_ble_eq_true rfl, Nat.le_of_ble_eq_true rfl⟩) (PW_preV hPc hKc hDc hE hS hFc (ci := 0) (q0 := 0) rfl rfl) rfl rfl hl.1 rfl (lv_room (Nat.le_of_ble_eq_true rfl)) d_Rd_takeNode_21 ⟨Nat.le_of_ble_eq_true rfl, Nat.le_of_ble_eq_true rfl⟩) hS (fun q _ h => hFc q h) hFc (fun q _ h => hFc q h) (fun E9 ce9 q9 uu t H1 locs ht hvm hx_24 hB hz1 hk1 hS hce hcv hcl => ?_) (fun r_13 uu t H1 locs ht hvm hw_17 hB hz1 hk1 hS => ?_)
    ·
      obtain ⟨w_18, k_19, h_20, na_21, cnt_22, cel_23⟩ := uu
      obtain ⟨hEn, hP1, hD1⟩ := hB
      rw [ht] at hP1
      obtain ⟨hP, hD⟩ := va_join (wr := []) (w1 := [(aR, .inr (0, [.ref aT, .ref aS])), (aT, .inr (2, [.ref aB, .int (nI u), .int (nI en), .int (nI h_20), .int na_21, .int w_18, .int (nI k_19)])), (aB, .inl (kB, 65536, .inl B)), (aS, .inr (1, [.ref aN, .ref aC])), (aN, .inl (kN, 5, .inl (fun j => nI (cnt_22 j)))), (aC, .inl (kC, 52035, .inl cel_23))]) hP hD [0, 1, 2, 3, 4, 5] [] rfl rfl (by decide) (by decide) hk1 hFc hP1 hD1
      generalize H1 = H at hP hS hce ⊢
      have hP : va_P (dC, dI) vwCl [(aR, .inr (0, [.ref aT, .ref aS])), (aT, .inr (2, [.ref aB, .int (nI u), .int (nI en), .int (nI h_20), .int na_21, .int w_18, .int (nI k_19)])), (aB, .inl (kB, 65536, .inl B)), (aS, .inr (1, [.ref aN, .ref aC])), (aN, .inl (kN, 5, .inl (fun j => nI (cnt_22 j)))), (aC, .inl (kC, 52035, .inl cel_23))] H := hP
      have hD : va_D A [(aR, .inr (0, [.ref aT, .ref aS])), (aT, .inr (2, [.ref aB, .int (nI u), .int (nI en), .int (nI h_20), .int na_21, .int w_18, .int (nI k_19)])), (aB, .inl (kB, 65536, .inl B)), (aS, .inr (1, [.ref aN, .ref aC])), (aN, .inl (kN, 5, .inl (fun j => nI (cnt_22 j)))), (aC, .inl (kC, 52035, .inl cel_23))] := hD
      have hP9 := hP.sub (ws' := [(aR, .inr (0, [.ref aT, .ref aS])), (aT, .inr (2, [.ref aB, .int (nI u), .int (nI en), .int (nI h_20), .int na_21, .int w_18, .int (nI k_19)])), (aB, .inl (kB, 65536, .inl B)), (aS, .inr (1, [.ref aN, .ref aC])), (aN, .inl (kN, 5, .inl (fun j => nI (cnt_22 j)))), (aC, .inl (kC, 52035, .inl cel_23))]) [0, 1, 2, 3, 4, 5] rfl
      have hD9 := hD.sub (ws' := [(aR, .inr (0, [.ref aT, .ref aS])), (aT, .inr (2, [.ref aB, .int (nI u), .int (nI en), .int (nI h_20), .int na_21, .int w_18, .int (nI k_19)])), (aB, .inl (kB, 65536, .inl B)), (aS, .inr (1, [.ref aN, .ref aC])), (aN, .inl (kN, 5, .inl (fun j => nI (cnt_22 j)))), (aC, .inl (kC, 52035, .inl cel_23))]) [0, 1, 2, 3, 4, 5] (by decide) rfl
      exact vx_out (fun x hx => (htab x hx).elim) hlocks hce hcv hcl (fun t ht hvm => ⟨(w_18, k_19, h_20, na_21, cnt_22, cel_23), by simp only [zNode, zListP, zNumP, zB_ok, zB_er, hw_3, hx_24], ⟨hEn, by rw [ht]; exact hP9, hD9⟩, hS.F ht⟩) hS.2.2 (by decide) (by decide)
    ·
      obtain ⟨h_14, na_15, cel_16⟩ := uu
      obtain ⟨hP1, hD1, hsz1⟩ := hB
      rw [ht] at hP1 hsz1
      obtain ⟨hP, hD⟩ := va_join (wr := []) (w1 := [(aR, .inr (0, [.ref aT, .ref aS])), (aT, .inr (2, [.ref aB, .int (nI u), .int (nI en), .int (nI h_14), .int na_15, .int w, .int wa])), (aB, .inl (kB, 65536, .inl B)), (aS, .inr (1, [.ref aN, .ref aC])), (aN, .inl (kN, 5, .inl (fun j => nI (cnt j)))), (aC, .inl (kC, 52035, .inl cel_16))]) hP hD [0, 1, 2, 3, 4, 5] [] rfl rfl (by decide) (by decide) hk1 hFc hP1 hD1
      refine zt_tight (hsz1.trans hzs) ?_
      generalize H1 = H at hP hS ⊢
      have hP : va_P (dC, dI) vwCl [(aR, .inr (0, [.ref aT, .ref aS])), (aT, .inr (2, [.ref aB, .int (nI u), .int (nI en), .int (nI h_14), .int na_15, .int w, .int wa])), (aB, .inl (kB, 65536, .inl B)), (aS, .inr (1, [.ref aN, .ref aC])), (aN, .inl (kN, 5, .inl (fun j => nI (cnt j)))), (aC, .inl (kC, 52035, .inl cel_16))] H := hP
      have hD : va_D A [(aR, .inr (0, [.ref aT, .ref aS])), (aT, .inr (2, [.ref aB, .int (nI u), .int (nI en), .int (nI h_14), .int na_15, .int w, .int wa])), (aB, .inl (kB, 65536, .inl B)), (aS, .inr (1, [.ref aN, .ref aC])), (aN, .inl (kN, 5, .inl (fun j => nI (cnt j)))), (aC, .inl (kC, 52035, .inl cel_16))] := hD
      obtain ⟨hw_17a, rfl, rfl⟩ := hw_17
      have hw_17i := zRNum_in (by omega) hw_17a
      refine lv_pop hx hb d_Rd_takeNode_24 rfl ?_
      refine lv_aload_n hx hb d_Rd_takeNode_25 rfl (lv_at hl 0 rfl) ?_
      refine lv_bipush (v := 44) hx hb d_Rd_takeNode_26 (by decide) ?_
      refine va_ldcS (q := G.2.1 26) hx hb hown (hE.2.2.2.2.2.2.2 26 (by decide)).2 d_Rd_takeNode_28 ?_
      have hPc := hP.sub (ws' := [(aR, .inr (0, [.ref aT, .ref aS])), (aT, .inr (2, [.ref aB, .int (nI u), .int (nI en), .int (nI h_14), .int (nI h_2), .int w, .int wa])), (aB, .inl (kB, 65536, .inl B)), (aS, .inr (1, [.ref aN, .ref aC])), (aN, .inl (kN, 5, .inl (fun j => nI (cnt j)))), (aC, .inl (kC, 52035, .inl (upd cel cc r_13)))]) [0, 1, 2, 3, 4, 5] rfl
      have hDc := hD.sub (ws' := [(aR, .inr (0, [.ref aT, .ref aS])), (aT, .inr (2, [.ref aB, .int (nI u), .int (nI en), .int (nI h_14), .int (nI h_2), .int w, .int wa])), (aB, .inl (kB, 65536, .inl B)), (aS, .inr (1, [.ref aN, .ref aC])), (aN, .inl (kN, 5, .inl (fun j => nI (cnt j)))), (aC, .inl (kC, 52035, .inl (upd cel cc r_13)))]) [0, 1, 2, 3, 4, 5] (by decide) rfl
      have hKc := hK.sub (tys' := [(kB, .byte), (kN, .int), (kC, .int)]) [0, 1, 2] rfl
      have hFc := va_free (wc := [(aR, .inr (0, [.ref aT, .ref aS])), (aT, .inr (2, [.ref aB, .int (nI u), .int (nI en), .int (nI h_14), .int (nI h_2), .int w, .int wa])), (aB, .inl (kB, 65536, .inl B)), (aS, .inr (1, [.ref aN, .ref aC])), (aN, .inl (kN, 5, .inl (fun j => nI (cnt j)))), (aC, .inl (kC, 52035, .inl (upd cel cc r_13)))]) hD hS hA [0, 1, 2, 3, 4, 5] rfl
      refine zt_size (fun hzs => ?_)
      refine vx_callv (vx_runV (As := [.int 44, .ref (G.2.1 26)]) (rest := []) ⟨hx, hb, hml, hown, hts⟩ (c_Rd_takeName l hst G dC dI H.size aR aT aS aB u en h_14 (nI h_2) w wa kB B aN aC kN cnt kC (upd cel cc r_13) 44 26 (by omega) (by omega) (by decide) (zSb_len _)) (cwV 2 hts (gV tw_359 tw_361 ts_8 tw_2 tw_362 rfl) rfl rfl rfl (by decide +kernel) ⟨Nat.le_of_ble_eq_true rfl, Nat.le_of_ble_eq_true rfl⟩) (PW_preV hPc hKc hDc hE hS hFc (ci := 0) (q0 := 0) rfl rfl) rfl rfl hl.1 rfl (lv_room (Nat.le_of_ble_eq_true rfl)) d_Rd_takeNode_30 ⟨Nat.le_of_ble_eq_true rfl, Nat.le_of_ble_eq_true rfl⟩) hS (fun q _ h => hFc q h) hFc (fun q _ h => hFc q h) (fun E9 ce9 q9 uu t H1 locs ht hvm hx_34 hB hz1 hk1 hS hce hcv hcl => ?_) (fun uu t H1 locs ht hvm hw_27 hB hz1 hk1 hS => ?_)
      ·
        obtain ⟨w_28, k_29, h_30, na_31, cnt_32, cel_33⟩ := uu
        obtain ⟨hEn, hP1, hD1⟩ := hB
        rw [ht] at hP1
        obtain ⟨hP, hD⟩ := va_join (wr := []) (w1 := [(aR, .inr (0, [.ref aT, .ref aS])), (aT, .inr (2, [.ref aB, .int (nI u), .int (nI en), .int (nI h_30), .int na_31, .int w_28, .int (nI k_29)])), (aB, .inl (kB, 65536, .inl B)), (aS, .inr (1, [.ref aN, .ref aC])), (aN, .inl (kN, 5, .inl (fun j => nI (cnt_32 j)))), (aC, .inl (kC, 52035, .inl cel_33))]) hP hD [0, 1, 2, 3, 4, 5] [] rfl rfl (by decide) (by decide) hk1 hFc hP1 hD1
        generalize H1 = H at hP hS hce ⊢
        have hP : va_P (dC, dI) vwCl [(aR, .inr (0, [.ref aT, .ref aS])), (aT, .inr (2, [.ref aB, .int (nI u), .int (nI en), .int (nI h_30), .int na_31, .int w_28, .int (nI k_29)])), (aB, .inl (kB, 65536, .inl B)), (aS, .inr (1, [.ref aN, .ref aC])), (aN, .inl (kN, 5, .inl (fun j => nI (cnt_32 j)))), (aC, .inl (kC, 52035, .inl cel_33))] H := hP
        have hD : va_D A [(aR, .inr (0, [.ref aT, .ref aS])), (aT, .inr (2, [.ref aB, .int (nI u), .int (nI en), .int (nI h_30), .int na_31, .int w_28, .int (nI k_29)])), (aB, .inl (kB, 65536, .inl B)), (aS, .inr (1, [.ref aN, .ref aC])), (aN, .inl (kN, 5, .inl (fun j => nI (cnt_32 j)))), (aC, .inl (kC, 52035, .inl cel_33))] := hD
        have hP9 := hP.sub (ws' := [(aR, .inr (0, [.ref aT, .ref aS])), (aT, .inr (2, [.ref aB, .int (nI u), .int (nI en), .int (nI h_30), .int na_31, .int w_28, .int (nI k_29)])), (aB, .inl (kB, 65536, .inl B)), (aS, .inr (1, [.ref aN, .ref aC])), (aN, .inl (kN, 5, .inl (fun j => nI (cnt_32 j)))), (aC, .inl (kC, 52035, .inl cel_33))]) [0, 1, 2, 3, 4, 5] rfl
        have hD9 := hD.sub (ws' := [(aR, .inr (0, [.ref aT, .ref aS])), (aT, .inr (2, [.ref aB, .int (nI u), .int (nI en), .int (nI h_30), .int na_31, .int w_28, .int (nI k_29)])), (aB, .inl (kB, 65536, .inl B)), (aS, .inr (1, [.ref aN, .ref aC])), (aN, .inl (kN, 5, .inl (fun j => nI (cnt_32 j)))), (aC, .inl (kC, 52035, .inl cel_33))]) [0, 1, 2, 3, 4, 5] (by decide) rfl
        exact vx_out (fun x hx => (htab x hx).elim) hlocks hce hcv hcl (fun t ht hvm => ⟨(w_28, k_29, h_30, na_31, cnt_32, cel_33), by simp only [zNode, zListP, zNumP, zB_ok, zB_er, hw_3, hw_17a, hx_34], ⟨hEn, by rw [ht]; exact hP9, hD9⟩, hS.F ht⟩) hS.2.2 (by decide) (by decide)
      ·
        obtain ⟨h_26, rfl⟩ : ∃ z, z = uu := ⟨_, rfl⟩
        obtain ⟨hP1, hD1, hsz1⟩ := hB
        rw [ht] at hP1 hsz1
        obtain ⟨hP, hD⟩ := va_join (wr := []) (w1 := [(aR, .inr (0, [.ref aT, .ref aS])), (aT, .inr (2, [.ref aB, .int (nI u), .int (nI en), .int (nI h_26), .int (nI h_2), .int w, .int wa])), (aB, .inl (kB, 65536, .inl B)), (aS, .inr (1, [.ref aN, .ref aC])), (aN, .inl (kN, 5, .inl (fun j => nI (cnt j)))), (aC, .inl (kC, 52035, .inl (upd cel cc r_13)))]) hP hD [0, 1, 2, 3, 4, 5] [] rfl rfl (by decide) (by decide) hk1 hFc hP1 hD1
        refine zt_tight (hsz1.trans hzs) ?_
        generalize H1 = H at hP hS ⊢
        have hP : va_P (dC, dI) vwCl [(aR, .inr (0, [.ref aT, .ref aS])), (aT, .inr (2, [.ref aB, .int (nI u), .int (nI en), .int (nI h_26), .int (nI h_2), .int w, .int wa])), (aB, .inl (kB, 65536, .inl B)), (aS, .inr (1, [.ref aN, .ref aC])), (aN, .inl (kN, 5, .inl (fun j => nI (cnt j)))), (aC, .inl (kC, 52035, .inl (upd cel cc r_13)))] H := hP
        have hD : va_D A [(aR, .inr (0, [.ref aT, .ref aS])), (aT, .inr (2, [.ref aB, .int (nI u), .int (nI en), .int (nI h_26), .int (nI h_2), .int w, .int wa])), (aB, .inl (kB, 65536, .inl B)), (aS, .inr (1, [.ref aN, .ref aC])), (aN, .inl (kN, 5, .inl (fun j => nI (cnt j)))), (aC, .inl (kC, 52035, .inl (upd cel cc r_13)))] := hD
        have hw_27i := zName_in hw_27
        refine lv_aload_n hx hb d_Rd_takeNode_33 rfl (lv_at hl 0 rfl) ?_
        refine lv_iload_n hx hb d_Rd_takeNode_34 rfl (lv_at hl 1 rfl) ?_
        refine lv_iconst (v := 1) hx hb d_Rd_takeNode_35 (by decide) ?_
        refine lv_iadd hx hb d_Rd_takeNode_36 ?_
        refine zt_top (nI_add cc 1) ?_
        refine lv_iconst (v := -1) hx hb d_Rd_takeNode_37 (by decide) ?_
        refine lv_aload_n hx hb d_Rd_takeNode_38 rfl (lv_at hl 0 rfl) ?_
        refine va_get (D := (dC, dI)) (ci := 0) (v := .ref aS) (C := R_Rd) (T := F_Rd) (N := 2) hx hb hz i_Rd hown hK hP 0 rfl rfl 1 (by decide) (hz _ tw_86) (fun _ h9 => h9) rfl d_Rd_takeNode_39 ?_
        refine lv_iconst (v := 2) hx hb d_Rd_takeNode_42 (by decide) ?_
        have hPc := hP.sub (ws' := [(aS, .inr (1, [.ref aN, .ref aC])), (aN, .inl (kN, 5, .inl (fun j => nI (cnt j)))), (aC, .inl (kC, 52035, .inl (upd cel cc r_13)))]) [3, 4, 5] rfl
        have hDc := hD.sub (ws' := [(aS, .inr (1, [.ref aN, .ref aC])), (aN, .inl (kN, 5, .inl (fun j => nI (cnt j)))), (aC, .inl (kC, 52035, .inl (upd cel cc r_13)))]) [3, 4, 5] (by decide) rfl
        have hKc := hK.sub (tys' := [(kN, .int), (kC, .int)]) [1, 2] rfl
        have hFc := va_free (wc := [(aS, .inr (1, [.ref aN, .ref aC])), (aN, .inl (kN, 5, .inl (fun j => nI (cnt j)))), (aC, .inl (kC, 52035, .inl (upd cel cc r_13)))]) hD hS hA [3, 4, 5] rfl
        refine va_calli (va_runV (As := [.int (nI 2)]) (rest := [.int (-1), .int (nI (cc + 1)), .ref aR]) ⟨hx, hb, hml, hown, hts⟩ (c_Sc_howManyN l G dC dI H.size aS aN aC kN cnt kC (upd cel cc r_13) 2 (by omega)) (cwV 1 hts (gV tw_426 tw_135 tw_136 tw_4 tw_137 rfl) rfl rfl rfl (by decide +kernel) ⟨Nat.le_of_ble_eq_true rfl, Nat.le_of_ble_eq_true rfl⟩) (PW_preV hPc hKc hDc hE hS hFc (ci := 1) (q0 := 0) rfl rfl) rfl rfl hl.1 rfl (lv_room (Nat.le_of_ble_eq_true rfl)) d_Rd_takeNode_43 ⟨Nat.le_of_ble_eq_true rfl, Nat.le_of_ble_eq_true rfl⟩) hS (fun q _ h => hFc q h) hFc (fun r_35 uu t H1 locs ht hvm hw_36 hB hz1 hk1 hS => ?_)
        obtain ⟨hP1, hD1, hsz1⟩ := hB
        rw [ht] at hP1 hsz1
        obtain ⟨hP, hD⟩ := va_join (wr := [(aR, .inr (0, [.ref aT, .ref aS])), (aT, .inr (2, [.ref aB, .int (nI u), .int (nI en), .int (nI h_26), .int (nI h_2), .int w, .int wa])), (aB, .inl (kB, 65536, .inl B))]) (w1 := [(aS, .inr (1, [.ref aN, .ref aC])), (aN, .inl (kN, 5, .inl (fun j => nI (cnt j)))), (aC, .inl (kC, 52035, .inl (upd cel cc r_13)))]) hP hD [3, 4, 5] [0, 1, 2] rfl rfl (by decide) (by decide) hk1 hFc hP1 hD1
        generalize H1 = H at hP hS ⊢
        have hP : va_P (dC, dI) vwCl [(aR, .inr (0, [.ref aT, .ref aS])), (aT, .inr (2, [.ref aB, .int (nI u), .int (nI en), .int (nI h_26), .int (nI h_2), .int w, .int wa])), (aB, .inl (kB, 65536, .inl B)), (aS, .inr (1, [.ref aN, .ref aC])), (aN, .inl (kN, 5, .inl (fun j => nI (cnt j)))), (aC, .inl (kC, 52035, .inl (upd cel cc r_13)))] H := hP
        have hD : va_D A [(aR, .inr (0, [.ref aT, .ref aS])), (aT, .inr (2, [.ref aB, .int (nI u), .int (nI en), .int (nI h_26), .int (nI h_2), .int w, .int wa])), (aB, .inl (kB, 65536, .inl B)), (aS, .inr (1, [.ref aN, .ref aC])), (aN, .inl (kN, 5, .inl (fun j => nI (cnt j)))), (aC, .inl (kC, 52035, .inl (upd cel cc r_13)))] := hD
        subst hw_36
        refine lv_iconst (v := 1) hx hb d_Rd_takeNode_46 (by decide) ?_
        refine lv_isub hx hb d_Rd_takeNode_47 ?_
        have hPc := hP.sub (ws' := [(aR, .inr (0, [.ref aT, .ref aS])), (aT, .inr (2, [.ref aB, .int (nI u), .int (nI en), .int (nI h_26), .int (nI h_2), .int w, .int wa])), (aB, .inl (kB, 65536, .inl B)), (aS, .inr (1, [.ref aN, .ref aC])), (aN, .inl (kN, 5, .inl (fun j => nI (cnt j)))), (aC, .inl (kC, 52035, .inl (upd cel cc r_13)))]) [0, 1, 2, 3, 4, 5] rfl
        have hDc := hD.sub (ws' := [(aR, .inr (0, [.ref aT, .ref aS])), (aT, .inr (2, [.ref aB, .int (nI u), .int (nI en), .int (nI h_26), .int (nI h_2), .int w, .int wa])), (aB, .inl (kB, 65536, .inl B)), (aS, .inr (1, [.ref aN, .ref aC])), (aN, .inl (kN, 5, .inl (fun j => nI (cnt j)))), (aC, .inl (kC, 52035, .inl (upd cel cc r_13)))]) [0, 1, 2, 3, 4, 5] (by decide) rfl
        have hKc := hK.sub (tys' := [(kB, .byte), (kN, .int), (kC, .int)]) [0, 1, 2] rfl
        have hFc := va_free (wc := [(aR, .inr (0, [.ref aT, .ref aS])), (aT, .inr (2, [.ref aB, .int (nI u), .int (nI en), .int (nI h_26), .int (nI h_2), .int w, .int wa])), (aB, .inl (kB, 65536, .inl B)), (aS, .inr (1, [.ref aN, .ref aC])), (aN, .inl (kN, 5, .inl (fun j => nI (cnt j)))), (aC, .inl (kC, 52035, .inl (upd cel cc r_13)))]) hD hS hA [0, 1, 2, 3, 4, 5] rfl
        refine zt_size (fun hzs => ?_)
        refine vx_calli (vx_runV (As := [.int (nI (cc + 1)), .int (-1), .int ((nI (cnt 2)) - 1)]) (rest := []) ⟨hx, hb, hml, hown, hts⟩ (c_Rd_takeNumber l hst G dC dI H.size aR aT aS aB u en h_26 (nI h_2) w wa kB B aN aC kN cnt kC (upd cel cc r_13) (cc + 1) (-1) ((nI (cnt 2)) - 1) (by omega) (by omega) (by omega)) (cwV 3 hts (gV tw_387 tw_389 ts_10 tw_2 tw_390 rfl) rfl rfl rfl (by decide +kernel) ⟨Nat.le_of_ble_eq_true rfl, Nat.le_of_ble_eq_true rfl⟩) (PW_preV hPc hKc hDc hE hS hFc (ci := 0) (q0 := 0) rfl rfl) rfl rfl hl.1 rfl (lv_room (Nat.le_of_ble_eq_true rfl)) d_Rd_takeNode_48 ⟨Nat.le_of_ble_eq_true rfl, Nat.le_of_ble_eq_true rfl⟩) hS (fun q _ h => hFc q h) hFc (fun q _ h => hFc q h) (fun E9 ce9 q9 uu t H1 locs ht hvm hx_48 hB hz1 hk1 hS hce hcv hcl => ?_) (fun r_37 uu t H1 locs ht hvm hw_41 hB hz1 hk1 hS => ?_)
        ·
          obtain ⟨w_42, k_43, h_44, na_45, cnt_46, cel_47⟩ := uu
          obtain ⟨hEn, hP1, hD1⟩ := hB
          rw [ht] at hP1
          obtain ⟨hP, hD⟩ := va_join (wr := []) (w1 := [(aR, .inr (0, [.ref aT, .ref aS])), (aT, .inr (2, [.ref aB, .int (nI u), .int (nI en), .int (nI h_44), .int na_45, .int w_42, .int (nI k_43)])), (aB, .inl (kB, 65536, .inl B)), (aS, .inr (1, [.ref aN, .ref aC])), (aN, .inl (kN, 5, .inl (fun j => nI (cnt_46 j)))), (aC, .inl (kC, 52035, .inl cel_47))]) hP hD [0, 1, 2, 3, 4, 5] [] rfl rfl (by decide) (by decide) hk1 hFc hP1 hD1
          generalize H1 = H at hP hS hce ⊢
          have hP : va_P (dC, dI) vwCl [(aR, .inr (0, [.ref aT, .ref aS])), (aT, .inr (2, [.ref aB, .int (nI u), .int (nI en), .int (nI h_44), .int na_45, .int w_42, .int (nI k_43)])), (aB, .inl (kB, 65536, .inl B)), (aS, .inr (1, [.ref aN, .ref aC])), (aN, .inl (kN, 5, .inl (fun j => nI (cnt_46 j)))), (aC, .inl (kC, 52035, .inl cel_47))] H := hP
          have hD : va_D A [(aR, .inr (0, [.ref aT, .ref aS])), (aT, .inr (2, [.ref aB, .int (nI u), .int (nI en), .int (nI h_44), .int na_45, .int w_42, .int (nI k_43)])), (aB, .inl (kB, 65536, .inl B)), (aS, .inr (1, [.ref aN, .ref aC])), (aN, .inl (kN, 5, .inl (fun j => nI (cnt_46 j)))), (aC, .inl (kC, 52035, .inl cel_47))] := hD
          have hP9 := hP.sub (ws' := [(aR, .inr (0, [.ref aT, .ref aS])), (aT, .inr (2, [.ref aB, .int (nI u), .int (nI en), .int (nI h_44), .int na_45, .int w_42, .int (nI k_43)])), (aB, .inl (kB, 65536, .inl B)), (aS, .inr (1, [.ref aN, .ref aC])), (aN, .inl (kN, 5, .inl (fun j => nI (cnt_46 j)))), (aC, .inl (kC, 52035, .inl cel_47))]) [0, 1, 2, 3, 4, 5] rfl
          have hD9 := hD.sub (ws' := [(aR, .inr (0, [.ref aT, .ref aS])), (aT, .inr (2, [.ref aB, .int (nI u), .int (nI en), .int (nI h_44), .int na_45, .int w_42, .int (nI k_43)])), (aB, .inl (kB, 65536, .inl B)), (aS, .inr (1, [.ref aN, .ref aC])), (aN, .inl (kN, 5, .inl (fun j => nI (cnt_46 j)))), (aC, .inl (kC, 52035, .inl cel_47))]) [0, 1, 2, 3, 4, 5] (by decide) rfl
          exact vx_out (fun x hx => (htab x hx).elim) hlocks hce hcv hcl (fun t ht hvm => ⟨(w_42, k_43, h_44, na_45, cnt_46, cel_47), by simp only [zNode, zListP, zNumP, zB_ok, zB_er, hw_3, hw_17a, hw_27, hx_48], ⟨hEn, by rw [ht]; exact hP9, hD9⟩, hS.F ht⟩) hS.2.2 (by decide) (by decide)
        ·
          obtain ⟨h_38, na_39, cel_40⟩ := uu
          obtain ⟨hP1, hD1, hsz1⟩ := hB
          rw [ht] at hP1 hsz1
          obtain ⟨hP, hD⟩ := va_join (wr := []) (w1 := [(aR, .inr (0, [.ref aT, .ref aS])), (aT, .inr (2, [.ref aB, .int (nI u), .int (nI en), .int (nI h_38), .int na_39, .int w, .int wa])), (aB, .inl (kB, 65536, .inl B)), (aS, .inr (1, [.ref aN, .ref aC])), (aN, .inl (kN, 5, .inl (fun j => nI (cnt j)))), (aC, .inl (kC, 52035, .inl cel_40))]) hP hD [0, 1, 2, 3, 4, 5] [] rfl rfl (by decide) (by decide) hk1 hFc hP1 hD1
          refine zt_tight (hsz1.trans hzs) ?_
          generalize H1 = H at hP hS ⊢
          have hP : va_P (dC, dI) vwCl [(aR, .inr (0, [.ref aT, .ref aS])), (aT, .inr (2, [.ref aB, .int (nI u), .int (nI en), .int (nI h_38), .int na_39, .int w, .int wa])), (aB, .inl (kB, 65536, .inl B)), (aS, .inr (1, [.ref aN, .ref aC])), (aN, .inl (kN, 5, .inl (fun j => nI (cnt j)))), (aC, .inl (kC, 52035, .inl cel_40))] H := hP
          have hD : va_D A [(aR, .inr (0, [.ref aT, .ref aS])), (aT, .inr (2, [.ref aB, .int (nI u), .int (nI en), .int (nI h_38), .int na_39, .int w, .int wa])), (aB, .inl (kB, 65536, .inl B)), (aS, .inr (1, [.ref aN, .ref aC])), (aN, .inl (kN, 5, .inl (fun j => nI (cnt j)))), (aC, .inl (kC, 52035, .inl cel_40))] := hD
          obtain ⟨hw_41a, rfl, rfl⟩ := hw_41
          have hw_41i := zRNum_in (by omega) hw_41a
          refine lv_pop hx hb d_Rd_takeNode_51 rfl ?_
          refine lv_aload_n hx hb d_Rd_takeNode_52 rfl (lv_at hl 0 rfl) ?_
          refine lv_bipush (v := 44) hx hb d_Rd_takeNode_53 (by decide) ?_
          refine va_ldcS (q := G.2.1 8) hx hb hown (hE.2.2.2.2.2.2.2 8 (by decide)).2 d_Rd_takeNode_55 ?_
          have hPc := hP.sub (ws' := [(aR, .inr (0, [.ref aT, .ref aS])), (aT, .inr (2, [.ref aB, .int (nI u), .int (nI en), .int (nI h_38), .int (nI h_26), .int w, .int wa])), (aB, .inl (kB, 65536, .inl B)), (aS, .inr (1, [.ref aN, .ref aC])), (aN, .inl (kN, 5, .inl (fun j => nI (cnt j)))), (aC, .inl (kC, 52035, .inl (upd (upd cel cc r_13) (cc + 1) r_37)))]) [0, 1, 2, 3, 4, 5] rfl
          have hDc := hD.sub (ws' := [(aR, .inr (0, [.ref aT, .ref aS])), (aT, .inr (2, [.ref aB, .int (nI u), .int (nI en), .int (nI h_38), .int (nI h_26), .int w, .int wa])), (aB, .inl (kB, 65536, .inl B)), (aS, .inr (1, [.ref aN, .ref aC])), (aN, .inl (kN, 5, .inl (fun j => nI (cnt j)))), (aC, .inl (kC, 52035, .inl (upd (upd cel cc r_13) (cc + 1) r_37)))]) [0, 1, 2, 3, 4, 5] (by decide) rfl
          have hKc := hK.sub (tys' := [(kB, .byte), (kN, .int), (kC, .int)]) [0, 1, 2] rfl
          have hFc := va_free (wc := [(aR, .inr (0, [.ref aT, .ref aS])), (aT, .inr (2, [.ref aB, .int (nI u), .int (nI en), .int (nI h_38), .int (nI h_26), .int w, .int wa])), (aB, .inl (kB, 65536, .inl B)), (aS, .inr (1, [.ref aN, .ref aC])), (aN, .inl (kN, 5, .inl (fun j => nI (cnt j)))), (aC, .inl (kC, 52035, .inl (upd (upd cel cc r_13) (cc + 1) r_37)))]) hD hS hA [0, 1, 2, 3, 4, 5] rfl
          refine zt_size (fun hzs => ?_)
          refine vx_callv (vx_runV (As := [.int 44, .ref (G.2.1 8)]) (rest := []) ⟨hx, hb, hml, hown, hts⟩ (c_Rd_takeName l hst G dC dI H.size aR aT aS aB u en h_38 (nI h_26) w wa kB B aN aC kN cnt kC (upd (upd cel cc r_13) (cc + 1) r_37) 44 8 (by omega) (by omega) (by decide) (zSb_len _)) (cwV 2 hts (gV tw_359 tw_361 ts_8 tw_2 tw_362 rfl) rfl rfl rfl (by decide +kernel) ⟨Nat.le_of_ble_eq_true rfl, Nat.le_of_ble_eq_true rfl⟩) (PW_preV hPc hKc hDc hE hS hFc (ci := 0) (q0 := 0) rfl rfl) rfl rfl hl.1 rfl (lv_room (Nat.le_of_ble_eq_true rfl)) d_Rd_takeNode_57 ⟨Nat.le_of_ble_eq_true rfl, Nat.le_of_ble_eq_true rfl⟩) hS (fun q _ h => hFc q h) hFc (fun q _ h => hFc q h) (fun E9 ce9 q9 uu t H1 locs ht hvm hx_58 hB hz1 hk1 hS hce hcv hcl => ?_) (fun uu t H1 locs ht hvm hw_51 hB hz1 hk1 hS => ?_)
          ·
            obtain ⟨w_52, k_53, h_54, na_55, cnt_56, cel_57⟩ := uu
            obtain ⟨hEn, hP1, hD1⟩ := hB
            rw [ht] at hP1
            obtain ⟨hP, hD⟩ := va_join (wr := []) (w1 := [(aR, .inr (0, [.ref aT, .ref aS])), (aT, .inr (2, [.ref aB, .int (nI u), .int (nI en), .int (nI h_54), .int na_55, .int w_52, .int (nI k_53)])), (aB, .inl (kB, 65536, .inl B)), (aS, .inr (1, [.ref aN, .ref aC])), (aN, .inl (kN, 5, .inl (fun j => nI (cnt_56 j)))), (aC, .inl (kC, 52035, .inl cel_57))]) hP hD [0, 1, 2, 3, 4, 5] [] rfl rfl (by decide) (by decide) hk1 hFc hP1 hD1
            generalize H1 = H at hP hS hce ⊢
            have hP : va_P (dC, dI) vwCl [(aR, .inr (0, [.ref aT, .ref aS])), (aT, .inr (2, [.ref aB, .int (nI u), .int (nI en), .int (nI h_54), .int na_55, .int w_52, .int (nI k_53)])), (aB, .inl (kB, 65536, .inl B)), (aS, .inr (1, [.ref aN, .ref aC])), (aN, .inl (kN, 5, .inl (fun j => nI (cnt_56 j)))), (aC, .inl (kC, 52035, .inl cel_57))] H := hP
            have hD : va_D A [(aR, .inr (0, [.ref aT, .ref aS])), (aT, .inr (2, [.ref aB, .int (nI u), .int (nI en), .int (nI h_54), .int na_55, .int w_52, .int (nI k_53)])), (aB, .inl (kB, 65536, .inl B)), (aS, .inr (1, [.ref aN, .ref aC])), (aN, .inl (kN, 5, .inl (fun j => nI (cnt_56 j)))), (aC, .inl (kC, 52035, .inl cel_57))] := hD
            have hP9 := hP.sub (ws' := [(aR, .inr (0, [.ref aT, .ref aS])), (aT, .inr (2, [.ref aB, .int (nI u), .int (nI en), .int (nI h_54), .int na_55, .int w_52, .int (nI k_53)])), (aB, .inl (kB, 65536, .inl B)), (aS, .inr (1, [.ref aN, .ref aC])), (aN, .inl (kN, 5, .inl (fun j => nI (cnt_56 j)))), (aC, .inl (kC, 52035, .inl cel_57))]) [0, 1, 2, 3, 4, 5] rfl
            have hD9 := hD.sub (ws' := [(aR, .inr (0, [.ref aT, .ref aS])), (aT, .inr (2, [.ref aB, .int (nI u), .int (nI en), .int (nI h_54), .int na_55, .int w_52, .int (nI k_53)])), (aB, .inl (kB, 65536, .inl B)), (aS, .inr (1, [.ref aN, .ref aC])), (aN, .inl (kN, 5, .inl (fun j => nI (cnt_56 j)))), (aC, .inl (kC, 52035, .inl cel_57))]) [0, 1, 2, 3, 4, 5] (by decide) rfl
            exact vx_out (fun x hx => (htab x hx).elim) hlocks hce hcv hcl (fun t ht hvm => ⟨(w_52, k_53, h_54, na_55, cnt_56, cel_57), by simp only [zNode, zListP, zNumP, zB_ok, zB_er, hw_3, hw_17a, hw_27, hw_41a, hx_58], ⟨hEn, by rw [ht]; exact hP9, hD9⟩, hS.F ht⟩) hS.2.2 (by decide) (by decide)
          ·
            obtain ⟨h_50, rfl⟩ : ∃ z, z = uu := ⟨_, rfl⟩
            obtain ⟨hP1, hD1, hsz1⟩ := hB
            rw [ht] at hP1 hsz1
            obtain ⟨hP, hD⟩ := va_join (wr := []) (w1 := [(aR, .inr (0, [.ref aT, .ref aS])), (aT, .inr (2, [.ref aB, .int (nI u), .int (nI en), .int (nI h_50), .int (nI h_26), .int w, .int wa])), (aB, .inl (kB, 65536, .inl B)), (aS, .inr (1, [.ref aN, .ref aC])), (aN, .inl (kN, 5, .inl (fun j => nI (cnt j)))), (aC, .inl (kC, 52035, .inl (upd (upd cel cc r_13) (cc + 1) r_37)))]) hP hD [0, 1, 2, 3, 4, 5] [] rfl rfl (by decide) (by decide) hk1 hFc hP1 hD1
            refine zt_tight (hsz1.trans hzs) ?_
            generalize H1 = H at hP hS ⊢
            have hP : va_P (dC, dI) vwCl [(aR, .inr (0, [.ref aT, .ref aS])), (aT, .inr (2, [.ref aB, .int (nI u), .int (nI en), .int (nI h_50), .int (nI h_26), .int w, .int wa])), (aB, .inl (kB, 65536, .inl B)), (aS, .inr (1, [.ref aN, .ref aC])), (aN, .inl (kN, 5, .inl (fun j => nI (cnt j)))), (aC, .inl (kC, 52035, .inl (upd (upd cel cc r_13) (cc + 1) r_37)))] H := hP
            have hD : va_D A [(aR, .inr (0, [.ref aT, .ref aS])), (aT, .inr (2, [.ref aB, .int (nI u), .int (nI en), .int (nI h_50), .int (nI h_26), .int w, .int wa])), (aB, .inl (kB, 65536, .inl B)), (aS, .inr (1, [.ref aN, .ref aC])), (aN, .inl (kN, 5, .inl (fun j => nI (cnt j)))), (aC, .inl (kC, 52035, .inl (upd (upd cel cc r_13) (cc + 1) r_37)))] := hD
            have hw_51i := zName_in hw_51
            refine lv_aload_n hx hb d_Rd_takeNode_60 rfl (lv_at hl 0 rfl) ?_
            refine lv_iconst (v := 0) hx hb d_Rd_takeNode_61 (by decide) ?_
            refine lv_iconst (v := 3) hx hb d_Rd_takeNode_62 (by decide) ?_
            refine lv_iconst (v := 3) hx hb d_Rd_takeNode_63 (by decide) ?_
            refine lv_iload_n hx hb d_Rd_takeNode_64 rfl (lv_at hl 1 rfl) ?_
            refine lv_iconst (v := 2) hx hb d_Rd_takeNode_65 (by decide) ?_
            refine lv_iadd hx hb d_Rd_takeNode_66 ?_
            refine zt_top (nI_add cc 2) ?_
            refine lv_ldc (v := -4194304) hx hb hown (hz _ tw_364) d_Rd_takeNode_67 ?_
            refine lv_ldc (v := 4194304) hx hb hown (hz _ tw_365) d_Rd_takeNode_69 ?_
            have hPc := hP.sub (ws' := [(aR, .inr (0, [.ref aT, .ref aS])), (aT, .inr (2, [.ref aB, .int (nI u), .int (nI en), .int (nI h_50), .int (nI h_26), .int w, .int wa])), (aB, .inl (kB, 65536, .inl B)), (aS, .inr (1, [.ref aN, .ref aC])), (aN, .inl (kN, 5, .inl (fun j => nI (cnt j)))), (aC, .inl (kC, 52035, .inl (upd (upd cel cc r_13) (cc + 1) r_37)))]) [0, 1, 2, 3, 4, 5] rfl
            have hDc := hD.sub (ws' := [(aR, .inr (0, [.ref aT, .ref aS])), (aT, .inr (2, [.ref aB, .int (nI u), .int (nI en), .int (nI h_50), .int (nI h_26), .int w, .int wa])), (aB, .inl (kB, 65536, .inl B)), (aS, .inr (1, [.ref aN, .ref aC])), (aN, .inl (kN, 5, .inl (fun j => nI (cnt j)))), (aC, .inl (kC, 52035, .inl (upd (upd cel cc r_13) (cc + 1) r_37)))]) [0, 1, 2, 3, 4, 5] (by decide) rfl
            have hKc := hK.sub (tys' := [(kB, .byte), (kN, .int), (kC, .int)]) [0, 1, 2] rfl
            have hFc := va_free (wc := [(aR, .inr (0, [.ref aT, .ref aS])), (aT, .inr (2, [.ref aB, .int (nI u), .int (nI en), .int (nI h_50), .int (nI h_26), .int w, .int wa])), (aB, .inl (kB, 65536, .inl B)), (aS, .inr (1, [.ref aN, .ref aC])), (aN, .inl (kN, 5, .inl (fun j => nI (cnt j)))), (aC, .inl (kC, 52035, .inl (upd (upd cel cc r_13) (cc + 1) r_37)))]) hD hS hA [0, 1, 2, 3, 4, 5] rfl
            refine zt_size (fun hzs => ?_)
            refine vx_calli (vx_runV (As := [.int 0, .int (nI 3), .int (nI 3), .int (nI (cc + 2)), .int (-4194304), .int 4194304]) (rest := []) ⟨hx, hb, hml, hown, hts⟩ (c_Rd_takeList l hst G dC dI H.size aR aT aS aB u en h_50 (nI h_26) w wa kB B aN aC kN cnt kC (upd (upd cel cc r_13) (cc + 1) r_37) 0 3 3 (cc + 2) (-4194304) 4194304 (by omega) (by omega) (by omega) (by omega) (by omega)) (cwV 6 hts (gV tw_366 tw_368 ts_9 tw_2 tw_369 rfl) rfl rfl rfl (by decide +kernel) ⟨Nat.le_of_ble_eq_true rfl, Nat.le_of_ble_eq_true rfl⟩) (PW_preV hPc hKc hDc hE hS hFc (ci := 0) (q0 := 0) rfl rfl) rfl rfl hl.1 rfl (lv_room (Nat.le_of_ble_eq_true rfl)) d_Rd_takeNode_71 ⟨Nat.le_of_ble_eq_true rfl, Nat.le_of_ble_eq_true rfl⟩) hS (fun q _ h => hFc q h) hFc (fun q _ h => hFc q h) (fun E9 ce9 q9 uu t H1 locs ht hvm hx_71 hB hz1 hk1 hS hce hcv hcl => ?_) (fun r_59 uu t H1 locs ht hvm hw_64 hB hz1 hk1 hS => ?_)
            ·
              obtain ⟨w_65, k_66, h_67, na_68, cnt_69, cel_70⟩ := uu
              obtain ⟨hEn, hP1, hD1⟩ := hB
              rw [ht] at hP1
              obtain ⟨hP, hD⟩ := va_join (wr := []) (w1 := [(aR, .inr (0, [.ref aT, .ref aS])), (aT, .inr (2, [.ref aB, .int (nI u), .int (nI en), .int (nI h_67), .int na_68, .int w_65, .int (nI k_66)])), (aB, .inl (kB, 65536, .inl B)), (aS, .inr (1, [.ref aN, .ref aC])), (aN, .inl (kN, 5, .inl (fun j => nI (cnt_69 j)))), (aC, .inl (kC, 52035, .inl cel_70))]) hP hD [0, 1, 2, 3, 4, 5] [] rfl rfl (by decide) (by decide) hk1 hFc hP1 hD1
              generalize H1 = H at hP hS hce ⊢
              have hP : va_P (dC, dI) vwCl [(aR, .inr (0, [.ref aT, .ref aS])), (aT, .inr (2, [.ref aB, .int (nI u), .int (nI en), .int (nI h_67), .int na_68, .int w_65, .int (nI k_66)])), (aB, .inl (kB, 65536, .inl B)), (aS, .inr (1, [.ref aN, .ref aC])), (aN, .inl (kN, 5, .inl (fun j => nI (cnt_69 j)))), (aC, .inl (kC, 52035, .inl cel_70))] H := hP
              have hD : va_D A [(aR, .inr (0, [.ref aT, .ref aS])), (aT, .inr (2, [.ref aB, .int (nI u), .int (nI en), .int (nI h_67), .int na_68, .int w_65, .int (nI k_66)])), (aB, .inl (kB, 65536, .inl B)), (aS, .inr (1, [.ref aN, .ref aC])), (aN, .inl (kN, 5, .inl (fun j => nI (cnt_69 j)))), (aC, .inl (kC, 52035, .inl cel_70))] := hD
              simp only [zf02, zf01, zf11, zf12, zf21, zf22, decide_true, decide_false] at hx_71
              have hP9 := hP.sub (ws' := [(aR, .inr (0, [.ref aT, .ref aS])), (aT, .inr (2, [.ref aB, .int (nI u), .int (nI en), .int (nI h_67), .int na_68, .int w_65, .int (nI k_66)])), (aB, .inl (kB, 65536, .inl B)), (aS, .inr (1, [.ref aN, .ref aC])), (aN, .inl (kN, 5, .inl (fun j => nI (cnt_69 j)))), (aC, .inl (kC, 52035, .inl cel_70))]) [0, 1, 2, 3, 4, 5] rfl
              have hD9 := hD.sub (ws' := [(aR, .inr (0, [.ref aT, .ref aS])), (aT, .inr (2, [.ref aB, .int (nI u), .int (nI en), .int (nI h_67), .int na_68, .int w_65, .int (nI k_66)])), (aB, .inl (kB, 65536, .inl B)), (aS, .inr (1, [.ref aN, .ref aC])), (aN, .inl (kN, 5, .inl (fun j => nI (cnt_69 j)))), (aC, .inl (kC, 52035, .inl cel_70))]) [0, 1, 2, 3, 4, 5] (by decide) rfl
              exact vx_out (fun x hx => (htab x hx).elim) hlocks hce hcv hcl (fun t ht hvm => ⟨(w_65, k_66, h_67, na_68, cnt_69, cel_70), by simp only [zNode, zListP, zNumP, zB_ok, zB_er, hw_3, hw_17a, hw_27, hw_41a, hw_51, hx_71], ⟨hEn, by rw [ht]; exact hP9, hD9⟩, hS.F ht⟩) hS.2.2 (by decide) (by decide)
            ·
              obtain ⟨h_60, na_61, cel_62, n_63⟩ := uu
              obtain ⟨hP1, hD1, hsz1⟩ := hB
              rw [ht] at hP1 hsz1
              obtain ⟨hP, hD⟩ := va_join (wr := []) (w1 := [(aR, .inr (0, [.ref aT, .ref aS])), (aT, .inr (2, [.ref aB, .int (nI u), .int (nI en), .int (nI h_60), .int na_61, .int w, .int wa])), (aB, .inl (kB, 65536, .inl B)), (aS, .inr (1, [.ref aN, .ref aC])), (aN, .inl (kN, 5, .inl (fun j => nI (cnt j)))), (aC, .inl (kC, 52035, .inl cel_62))]) hP hD [0, 1, 2, 3, 4, 5] [] rfl rfl (by decide) (by decide) hk1 hFc hP1 hD1
              refine zt_tight (hsz1.trans hzs) ?_
              generalize H1 = H at hP hS ⊢
              have hP : va_P (dC, dI) vwCl [(aR, .inr (0, [.ref aT, .ref aS])), (aT, .inr (2, [.ref aB, .int (nI u), .int (nI en), .int (nI h_60), .int na_61, .int w, .int wa])), (aB, .inl (kB, 65536, .inl B)), (aS, .inr (1, [.ref aN, .ref aC])), (aN, .inl (kN, 5, .inl (fun j => nI (cnt j)))), (aC, .inl (kC, 52035, .inl cel_62))] H := hP
              have hD : va_D A [(aR, .inr (0, [.ref aT, .ref aS])), (aT, .inr (2, [.ref aB, .int (nI u), .int (nI en), .int (nI h_60), .int na_61, .int w, .int wa])), (aB, .inl (kB, 65536, .inl B)), (aS, .inr (1, [.ref aN, .ref aC])), (aN, .inl (kN, 5, .inl (fun j => nI (cnt j)))), (aC, .inl (kC, 52035, .inl cel_62))] := hD
              obtain ⟨rfl, hw_64a⟩ := hw_64
              simp only [zf02, zf01, zf11, zf12, zf21, zf22, decide_true, decide_false] at hw_64a
              have hw_64i := zList_in (by omega) hw_64a
              refine lv_pop hx hb d_Rd_takeNode_74 rfl ?_
              refine lv_aload_n hx hb d_Rd_takeNode_75 rfl (lv_at hl 0 rfl) ?_
              refine lv_bipush (v := 44) hx hb d_Rd_takeNode_76 (by decide) ?_
              refine va_ldcS (q := G.2.1 9) hx hb hown (hE.2.2.2.2.2.2.2 9 (by decide)).2 d_Rd_takeNode_78 ?_
              have hPc := hP.sub (ws' := [(aR, .inr (0, [.ref aT, .ref aS])), (aT, .inr (2, [.ref aB, .int (nI u), .int (nI en), .int (nI h_60), .int na_61, .int w, .int wa])), (aB, .inl (kB, 65536, .inl B)), (aS, .inr (1, [.ref aN, .ref aC])), (aN, .inl (kN, 5, .inl (fun j => nI (cnt j)))), (aC, .inl (kC, 52035, .inl cel_62))]) [0, 1, 2, 3, 4, 5] rfl
              have hDc := hD.sub (ws' := [(aR, .inr (0, [.ref aT, .ref aS])), (aT, .inr (2, [.ref aB, .int (nI u), .int (nI en), .int (nI h_60), .int na_61, .int w, .int wa])), (aB, .inl (kB, 65536, .inl B)), (aS, .inr (1, [.ref aN, .ref aC])), (aN, .inl (kN, 5, .inl (fun j => nI (cnt j)))), (aC, .inl (kC, 52035, .inl cel_62))]) [0, 1, 2, 3, 4, 5] (by decide) rfl
              have hKc := hK.sub (tys' := [(kB, .byte), (kN, .int), (kC, .int)]) [0, 1, 2] rfl
              have hFc := va_free (wc := [(aR, .inr (0, [.ref aT, .ref aS])), (aT, .inr (2, [.ref aB, .int (nI u), .int (nI en), .int (nI h_60), .int na_61, .int w, .int wa])), (aB, .inl (kB, 65536, .inl B)), (aS, .inr (1, [.ref aN, .ref aC])), (aN, .inl (kN, 5, .inl (fun j => nI (cnt j)))), (aC, .inl (kC, 52035, .inl cel_62))]) hD hS hA [0, 1, 2, 3, 4, 5] rfl
              refine zt_size (fun hzs => ?_)
              refine vx_callv (vx_runV (As := [.int 44, .ref (G.2.1 9)]) (rest := []) ⟨hx, hb, hml, hown, hts⟩ (c_Rd_takeName l hst G dC dI H.size aR aT aS aB u en h_60 na_61 w wa kB B aN aC kN cnt kC cel_62 44 9 (by omega) (by omega) (by decide) (zSb_len _)) (cwV 2 hts (gV tw_359 tw_361 ts_8 tw_2 tw_362 rfl) rfl rfl rfl (by decide +kernel) ⟨Nat.le_of_ble_eq_true rfl, Nat.le_of_ble_eq_true rfl⟩) (PW_preV hPc hKc hDc hE hS hFc (ci := 0) (q0 := 0) rfl rfl) rfl rfl hl.1 rfl (lv_room (Nat.le_of_ble_eq_true rfl)) d_Rd_takeNode_80 ⟨Nat.le_of_ble_eq_true rfl, Nat.le_of_ble_eq_true rfl⟩) hS (fun q _ h => hFc q h) hFc (fun q _ h => hFc q h) (fun E9 ce9 q9 uu t H1 locs ht hvm hx_81 hB hz1 hk1 hS hce hcv hcl => ?_) (fun uu t H1 locs ht hvm hw_74 hB hz1 hk1 hS => ?_)
              ·
                obtain ⟨w_75, k_76, h_77, na_78, cnt_79, cel_80⟩ := uu
                obtain ⟨hEn, hP1, hD1⟩ := hB
                rw [ht] at hP1
                obtain ⟨hP, hD⟩ := va_join (wr := []) (w1 := [(aR, .inr (0, [.ref aT, .ref aS])), (aT, .inr (2, [.ref aB, .int (nI u), .int (nI en), .int (nI h_77), .int na_78, .int w_75, .int (nI k_76)])), (aB, .inl (kB, 65536, .inl B)), (aS, .inr (1, [.ref aN, .ref aC])), (aN, .inl (kN, 5, .inl (fun j => nI (cnt_79 j)))), (aC, .inl (kC, 52035, .inl cel_80))]) hP hD [0, 1, 2, 3, 4, 5] [] rfl rfl (by decide) (by decide) hk1 hFc hP1 hD1
                generalize H1 = H at hP hS hce ⊢
                have hP : va_P (dC, dI) vwCl [(aR, .inr (0, [.ref aT, .ref aS])), (aT, .inr (2, [.ref aB, .int (nI u), .int (nI en), .int (nI h_77), .int na_78, .int w_75, .int (nI k_76)])), (aB, .inl (kB, 65536, .inl B)), (aS, .inr (1, [.ref aN, .ref aC])), (aN, .inl (kN, 5, .inl (fun j => nI (cnt_79 j)))), (aC, .inl (kC, 52035, .inl cel_80))] H := hP
                have hD : va_D A [(aR, .inr (0, [.ref aT, .ref aS])), (aT, .inr (2, [.ref aB, .int (nI u), .int (nI en), .int (nI h_77), .int na_78, .int w_75, .int (nI k_76)])), (aB, .inl (kB, 65536, .inl B)), (aS, .inr (1, [.ref aN, .ref aC])), (aN, .inl (kN, 5, .inl (fun j => nI (cnt_79 j)))), (aC, .inl (kC, 52035, .inl cel_80))] := hD
                have hP9 := hP.sub (ws' := [(aR, .inr (0, [.ref aT, .ref aS])), (aT, .inr (2, [.ref aB, .int (nI u), .int (nI en), .int (nI h_77), .int na_78, .int w_75, .int (nI k_76)])), (aB, .inl (kB, 65536, .inl B)), (aS, .inr (1, [.ref aN, .ref aC])), (aN, .inl (kN, 5, .inl (fun j => nI (cnt_79 j)))), (aC, .inl (kC, 52035, .inl cel_80))]) [0, 1, 2, 3, 4, 5] rfl
                have hD9 := hD.sub (ws' := [(aR, .inr (0, [.ref aT, .ref aS])), (aT, .inr (2, [.ref aB, .int (nI u), .int (nI en), .int (nI h_77), .int na_78, .int w_75, .int (nI k_76)])), (aB, .inl (kB, 65536, .inl B)), (aS, .inr (1, [.ref aN, .ref aC])), (aN, .inl (kN, 5, .inl (fun j => nI (cnt_79 j)))), (aC, .inl (kC, 52035, .inl cel_80))]) [0, 1, 2, 3, 4, 5] (by decide) rfl
                exact vx_out (fun x hx => (htab x hx).elim) hlocks hce hcv hcl (fun t ht hvm => ⟨(w_75, k_76, h_77, na_78, cnt_79, cel_80), by simp only [zNode, zListP, zNumP, zB_ok, zB_er, hw_3, hw_17a, hw_27, hw_41a, hw_51, hw_64a, hx_81], ⟨hEn, by rw [ht]; exact hP9, hD9⟩, hS.F ht⟩) hS.2.2 (by decide) (by decide)
              ·
                obtain ⟨h_73, rfl⟩ : ∃ z, z = uu := ⟨_, rfl⟩
                obtain ⟨hP1, hD1, hsz1⟩ := hB
                rw [ht] at hP1 hsz1
                obtain ⟨hP, hD⟩ := va_join (wr := []) (w1 := [(aR, .inr (0, [.ref aT, .ref aS])), (aT, .inr (2, [.ref aB, .int (nI u), .int (nI en), .int (nI h_73), .int na_61, .int w, .int wa])), (aB, .inl (kB, 65536, .inl B)), (aS, .inr (1, [.ref aN, .ref aC])), (aN, .inl (kN, 5, .inl (fun j => nI (cnt j)))), (aC, .inl (kC, 52035, .inl cel_62))]) hP hD [0, 1, 2, 3, 4, 5] [] rfl rfl (by decide) (by decide) hk1 hFc hP1 hD1
                refine zt_tight (hsz1.trans hzs) ?_
                generalize H1 = H at hP hS ⊢
                have hP : va_P (dC, dI) vwCl [(aR, .inr (0, [.ref aT, .ref aS])), (aT, .inr (2, [.ref aB, .int (nI u), .int (nI en), .int (nI h_73), .int na_61, .int w, .int wa])), (aB, .inl (kB, 65536, .inl B)), (aS, .inr (1, [.ref aN, .ref aC])), (aN, .inl (kN, 5, .inl (fun j => nI (cnt j)))), (aC, .inl (kC, 52035, .inl cel_62))] H := hP
                have hD : va_D A [(aR, .inr (0, [.ref aT, .ref aS])), (aT, .inr (2, [.ref aB, .int (nI u), .int (nI en), .int (nI h_73), .int na_61, .int w, .int wa])), (aB, .inl (kB, 65536, .inl B)), (aS, .inr (1, [.ref aN, .ref aC])), (aN, .inl (kN, 5, .inl (fun j => nI (cnt j)))), (aC, .inl (kC, 52035, .inl cel_62))] := hD
                have hw_74i := zName_in hw_74
                refine lv_aload_n hx hb d_Rd_takeNode_83 rfl (lv_at hl 0 rfl) ?_
                refine lv_iconst (v := 0) hx hb d_Rd_takeNode_84 (by decide) ?_
                refine lv_iconst (v := 3) hx hb d_Rd_takeNode_85 (by decide) ?_
                refine lv_iconst (v := 3) hx hb d_Rd_takeNode_86 (by decide) ?_
                refine lv_iload_n hx hb d_Rd_takeNode_87 rfl (lv_at hl 1 rfl) ?_
                refine lv_iconst (v := 5) hx hb d_Rd_takeNode_88 (by decide) ?_
                refine lv_iadd hx hb d_Rd_takeNode_89 ?_
                refine zt_top (nI_add cc 5) ?_
                refine lv_ldc (v := -1048576) hx hb hown (hz _ tw_384) d_Rd_takeNode_90 ?_
                refine lv_ldc (v := 1048576) hx hb hown (hz _ tw_385) d_Rd_takeNode_92 ?_
                have hPc := hP.sub (ws' := [(aR, .inr (0, [.ref aT, .ref aS])), (aT, .inr (2, [.ref aB, .int (nI u), .int (nI en), .int (nI h_73), .int na_61, .int w, .int wa])), (aB, .inl (kB, 65536, .inl B)), (aS, .inr (1, [.ref aN, .ref aC])), (aN, .inl (kN, 5, .inl (fun j => nI (cnt j)))), (aC, .inl (kC, 52035, .inl cel_62))]) [0, 1, 2, 3, 4, 5] rfl
                have hDc := hD.sub (ws' := [(aR, .inr (0, [.ref aT, .ref aS])), (aT, .inr (2, [.ref aB, .int (nI u), .int (nI en), .int (nI h_73), .int na_61, .int w, .int wa])), (aB, .inl (kB, 65536, .inl B)), (aS, .inr (1, [.ref aN, .ref aC])), (aN, .inl (kN, 5, .inl (fun j => nI (cnt j)))), (aC, .inl (kC, 52035, .inl cel_62))]) [0, 1, 2, 3, 4, 5] (by decide) rfl
                have hKc := hK.sub (tys' := [(kB, .byte), (kN, .int), (kC, .int)]) [0, 1, 2] rfl
                have hFc := va_free (wc := [(aR, .inr (0, [.ref aT, .ref aS])), (aT, .inr (2, [.ref aB, .int (nI u), .int (nI en), .int (nI h_73), .int na_61, .int w, .int wa])), (aB, .inl (kB, 65536, .inl B)), (aS, .inr (1, [.ref aN, .ref aC])), (aN, .inl (kN, 5, .inl (fun j => nI (cnt j)))), (aC, .inl (kC, 52035, .inl cel_62))]) hD hS hA [0, 1, 2, 3, 4, 5] rfl
                refine zt_size (fun hzs => ?_)
                refine vx_calli (vx_runV (As := [.int 0, .int (nI 3), .int (nI 3), .int (nI (cc + 5)), .int (-1048576), .int 1048576]) (rest := []) ⟨hx, hb, hml, hown, hts⟩ (c_Rd_takeList l hst G dC dI H.size aR aT aS aB u en h_73 na_61 w wa kB B aN aC kN cnt kC cel_62 0 3 3 (cc + 5) (-1048576) 1048576 (by omega) (by omega) (by omega) (by omega) (by omega)) (cwV 6 hts (gV tw_366 tw_368 ts_9 tw_2 tw_369 rfl) rfl rfl rfl (by decide +kernel) ⟨Nat.le_of_ble_eq_true rfl, Nat.le_of_ble_eq_true rfl⟩) (PW_preV hPc hKc hDc hE hS hFc (ci := 0) (q0 := 0) rfl rfl) rfl rfl hl.1 rfl (lv_room (Nat.le_of_ble_eq_true rfl)) d_Rd_takeNode_94 ⟨Nat.le_of_ble_eq_true rfl, Nat.le_of_ble_eq_true rfl⟩) hS (fun q _ h => hFc q h) hFc (fun q _ h => hFc q h) (fun E9 ce9 q9 uu t H1 locs ht hvm hx_94 hB hz1 hk1 hS hce hcv hcl => ?_) (fun r_82 uu t H1 locs ht hvm hw_87 hB hz1 hk1 hS => ?_)
                ·
                  obtain ⟨w_88, k_89, h_90, na_91, cnt_92, cel_93⟩ := uu
                  obtain ⟨hEn, hP1, hD1⟩ := hB
                  rw [ht] at hP1
                  obtain ⟨hP, hD⟩ := va_join (wr := []) (w1 := [(aR, .inr (0, [.ref aT, .ref aS])), (aT, .inr (2, [.ref aB, .int (nI u), .int (nI en), .int (nI h_90), .int na_91, .int w_88, .int (nI k_89)])), (aB, .inl (kB, 65536, .inl B)), (aS, .inr (1, [.ref aN, .ref aC])), (aN, .inl (kN, 5, .inl (fun j => nI (cnt_92 j)))), (aC, .inl (kC, 52035, .inl cel_93))]) hP hD [0, 1, 2, 3, 4, 5] [] rfl rfl (by decide) (by decide) hk1 hFc hP1 hD1
                  generalize H1 = H at hP hS hce ⊢
                  have hP : va_P (dC, dI) vwCl [(aR, .inr (0, [.ref aT, .ref aS])), (aT, .inr (2, [.ref aB, .int (nI u), .int (nI en), .int (nI h_90), .int na_91, .int w_88, .int (nI k_89)])), (aB, .inl (kB, 65536, .inl B)), (aS, .inr (1, [.ref aN, .ref aC])), (aN, .inl (kN, 5, .inl (fun j => nI (cnt_92 j)))), (aC, .inl (kC, 52035, .inl cel_93))] H := hP
                  have hD : va_D A [(aR, .inr (0, [.ref aT, .ref aS])), (aT, .inr (2, [.ref aB, .int (nI u), .int (nI en), .int (nI h_90), .int na_91, .int w_88, .int (nI k_89)])), (aB, .inl (kB, 65536, .inl B)), (aS, .inr (1, [.ref aN, .ref aC])), (aN, .inl (kN, 5, .inl (fun j => nI (cnt_92 j)))), (aC, .inl (kC, 52035, .inl cel_93))] := hD
                  simp only [zf02, zf01, zf11, zf12, zf21, zf22, decide_true, decide_false] at hx_94
                  have hP9 := hP.sub (ws' := [(aR, .inr (0, [.ref aT, .ref aS])), (aT, .inr (2, [.ref aB, .int (nI u), .int (nI en), .int (nI h_90), .int na_91, .int w_88, .int (nI k_89)])), (aB, .inl (kB, 65536, .inl B)), (aS, .inr (1, [.ref aN, .ref aC])), (aN, .inl (kN, 5, .inl (fun j => nI (cnt_92 j)))), (aC, .inl (kC, 52035, .inl cel_93))]) [0, 1, 2, 3, 4, 5] rfl
                  have hD9 := hD.sub (ws' := [(aR, .inr (0, [.ref aT, .ref aS])), (aT, .inr (2, [.ref aB, .int (nI u), .int (nI en), .int (nI h_90), .int na_91, .int w_88, .int (nI k_89)])), (aB, .inl (kB, 65536, .inl B)), (aS, .inr (1, [.ref aN, .ref aC])), (aN, .inl (kN, 5, .inl (fun j => nI (cnt_92 j)))), (aC, .inl (kC, 52035, .inl cel_93))]) [0, 1, 2, 3, 4, 5] (by decide) rfl
                  exact vx_out (fun x hx => (htab x hx).elim) hlocks hce hcv hcl (fun t ht hvm => ⟨(w_88, k_89, h_90, na_91, cnt_92, cel_93), by simp only [zNode, zListP, zNumP, zB_ok, zB_er, hw_3, hw_17a, hw_27, hw_41a, hw_51, hw_64a, hw_74, hx_94], ⟨hEn, by rw [ht]; exact hP9, hD9⟩, hS.F ht⟩) hS.2.2 (by decide) (by decide)
                ·
                  obtain ⟨h_83, na_84, cel_85, n_86⟩ := uu
                  obtain ⟨hP1, hD1, hsz1⟩ := hB
                  rw [ht] at hP1 hsz1
                  obtain ⟨hP, hD⟩ := va_join (wr := []) (w1 := [(aR, .inr (0, [.ref aT, .ref aS])), (aT, .inr (2, [.ref aB, .int (nI u), .int (nI en), .int (nI h_83), .int na_84, .int w, .int wa])), (aB, .inl (kB, 65536, .inl B)), (aS, .inr (1, [.ref aN, .ref aC])), (aN, .inl (kN, 5, .inl (fun j => nI (cnt j)))), (aC, .inl (kC, 52035, .inl cel_85))]) hP hD [0, 1, 2, 3, 4, 5] [] rfl rfl (by decide) (by decide) hk1 hFc hP1 hD1
                  refine zt_tight (hsz1.trans hzs) ?_
                  generalize H1 = H at hP hS ⊢
                  have hP : va_P (dC, dI) vwCl [(aR, .inr (0, [.ref aT, .ref aS])), (aT, .inr (2, [.ref aB, .int (nI u), .int (nI en), .int (nI h_83), .int na_84, .int w, .int wa])), (aB, .inl (kB, 65536, .inl B)), (aS, .inr (1, [.ref aN, .ref aC])), (aN, .inl (kN, 5, .inl (fun j => nI (cnt j)))), (aC, .inl (kC, 52035, .inl cel_85))] H := hP
                  have hD : va_D A [(aR, .inr (0, [.ref aT, .ref aS])), (aT, .inr (2, [.ref aB, .int (nI u), .int (nI en), .int (nI h_83), .int na_84, .int w, .int wa])), (aB, .inl (kB, 65536, .inl B)), (aS, .inr (1, [.ref aN, .ref aC])), (aN, .inl (kN, 5, .inl (fun j => nI (cnt j)))), (aC, .inl (kC, 52035, .inl cel_85))] := hD
                  obtain ⟨rfl, hw_87a⟩ := hw_87
                  simp only [zf02, zf01, zf11, zf12, zf21, zf22, decide_true, decide_false] at hw_87a
                  have hw_87i := zList_in (by omega) hw_87a
                  refine lv_pop hx hb d_Rd_takeNode_97 rfl ?_
                  refine lv_aload_n hx hb d_Rd_takeNode_98 rfl (lv_at hl 0 rfl) ?_
                  refine lv_bipush (v := 44) hx hb d_Rd_takeNode_99 (by decide) ?_
                  refine va_ldcS (q := G.2.1 27) hx hb hown (hE.2.2.2.2.2.2.2 27 (by decide)).2 d_Rd_takeNode_101 ?_
                  have hPc := hP.sub (ws' := [(aR, .inr (0, [.ref aT, .ref aS])), (aT, .inr (2, [.ref aB, .int (nI u), .int (nI en), .int (nI h_83), .int na_84, .int w, .int wa])), (aB, .inl (kB, 65536, .inl B)), (aS, .inr (1, [.ref aN, .ref aC])), (aN, .inl (kN, 5, .inl (fun j => nI (cnt j)))), (aC, .inl (kC, 52035, .inl cel_85))]) [0, 1, 2, 3, 4, 5] rfl
                  have hDc := hD.sub (ws' := [(aR, .inr (0, [.ref aT, .ref aS])), (aT, .inr (2, [.ref aB, .int (nI u), .int (nI en), .int (nI h_83), .int na_84, .int w, .int wa])), (aB, .inl (kB, 65536, .inl B)), (aS, .inr (1, [.ref aN, .ref aC])), (aN, .inl (kN, 5, .inl (fun j => nI (cnt j)))), (aC, .inl (kC, 52035, .inl cel_85))]) [0, 1, 2, 3, 4, 5] (by decide) rfl
                  have hKc := hK.sub (tys' := [(kB, .byte), (kN, .int), (kC, .int)]) [0, 1, 2] rfl
                  have hFc := va_free (wc := [(aR, .inr (0, [.ref aT, .ref aS])), (aT, .inr (2, [.ref aB, .int (nI u), .int (nI en), .int (nI h_83), .int na_84, .int w, .int wa])), (aB, .inl (kB, 65536, .inl B)), (aS, .inr (1, [.ref aN, .ref aC])), (aN, .inl (kN, 5, .inl (fun j => nI (cnt j)))), (aC, .inl (kC, 52035, .inl cel_85))]) hD hS hA [0, 1, 2, 3, 4, 5] rfl
                  refine zt_size (fun hzs => ?_)
                  refine vx_callv (vx_runV (As := [.int 44, .ref (G.2.1 27)]) (rest := []) ⟨hx, hb, hml, hown, hts⟩ (c_Rd_takeName l hst G dC dI H.size aR aT aS aB u en h_83 na_84 w wa kB B aN aC kN cnt kC cel_85 44 27 (by omega) (by omega) (by decide) (zSb_len _)) (cwV 2 hts (gV tw_359 tw_361 ts_8 tw_2 tw_362 rfl) rfl rfl rfl (by decide +kernel) ⟨Nat.le_of_ble_eq_true rfl, Nat.le_of_ble_eq_true rfl⟩) (PW_preV hPc hKc hDc hE hS hFc (ci := 0) (q0 := 0) rfl rfl) rfl rfl hl.1 rfl (lv_room (Nat.le_of_ble_eq_true rfl)) d_Rd_takeNode_103 ⟨Nat.le_of_ble_eq_true rfl, Nat.le_of_ble_eq_true rfl⟩) hS (fun q _ h => hFc q h) hFc (fun q _ h => hFc q h) (fun E9 ce9 q9 uu t H1 locs ht hvm hx_104 hB hz1 hk1 hS hce hcv hcl => ?_) (fun uu t H1 locs ht hvm hw_97 hB hz1 hk1 hS => ?_)
                  ·
                    obtain ⟨w_98, k_99, h_100, na_101, cnt_102, cel_103⟩ := uu
                    obtain ⟨hEn, hP1, hD1⟩ := hB
                    rw [ht] at hP1
                    obtain ⟨hP, hD⟩ := va_join (wr := []) (w1 := [(aR, .inr (0, [.ref aT, .ref aS])), (aT, .inr (2, [.ref aB, .int (nI u), .int (nI en), .int (nI h_100), .int na_101, .int w_98, .int (nI k_99)])), (aB, .inl (kB, 65536, .inl B)), (aS, .inr (1, [.ref aN, .ref aC])), (aN, .inl (kN, 5, .inl (fun j => nI (cnt_102 j)))), (aC, .inl (kC, 52035, .inl cel_103))]) hP hD [0, 1, 2, 3, 4, 5] [] rfl rfl (by decide) (by decide) hk1 hFc hP1 hD1
                    generalize H1 = H at hP hS hce ⊢
                    have hP : va_P (dC, dI) vwCl [(aR, .inr (0, [.ref aT, .ref aS])), (aT, .inr (2, [.ref aB, .int (nI u), .int (nI en), .int (nI h_100), .int na_101, .int w_98, .int (nI k_99)])), (aB, .inl (kB, 65536, .inl B)), (aS, .inr (1, [.ref aN, .ref aC])), (aN, .inl (kN, 5, .inl (fun j => nI (cnt_102 j)))), (aC, .inl (kC, 52035, .inl cel_103))] H := hP
                    have hD : va_D A [(aR, .inr (0, [.ref aT, .ref aS])), (aT, .inr (2, [.ref aB, .int (nI u), .int (nI en), .int (nI h_100), .int na_101, .int w_98, .int (nI k_99)])), (aB, .inl (kB, 65536, .inl B)), (aS, .inr (1, [.ref aN, .ref aC])), (aN, .inl (kN, 5, .inl (fun j => nI (cnt_102 j)))), (aC, .inl (kC, 52035, .inl cel_103))] := hD
                    have hP9 := hP.sub (ws' := [(aR, .inr (0, [.ref aT, .ref aS])), (aT, .inr (2, [.ref aB, .int (nI u), .int (nI en), .int (nI h_100), .int na_101, .int w_98, .int (nI k_99)])), (aB, .inl (kB, 65536, .inl B)), (aS, .inr (1, [.ref aN, .ref aC])), (aN, .inl (kN, 5, .inl (fun j => nI (cnt_102 j)))), (aC, .inl (kC, 52035, .inl cel_103))]) [0, 1, 2, 3, 4, 5] rfl
                    have hD9 := hD.sub (ws' := [(aR, .inr (0, [.ref aT, .ref aS])), (aT, .inr (2, [.ref aB, .int (nI u), .int (nI en), .int (nI h_100), .int na_101, .int w_98, .int (nI k_99)])), (aB, .inl (kB, 65536, .inl B)), (aS, .inr (1, [.ref aN, .ref aC])), (aN, .inl (kN, 5, .inl (fun j => nI (cnt_102 j)))), (aC, .inl (kC, 52035, .inl cel_103))]) [0, 1, 2, 3, 4, 5] (by decide) rfl
                    exact vx_out (fun x hx => (htab x hx).elim) hlocks hce hcv hcl (fun t ht hvm => ⟨(w_98, k_99, h_100, na_101, cnt_102, cel_103), by simp only [zNode, zListP, zNumP, zB_ok, zB_er, hw_3, hw_17a, hw_27, hw_41a, hw_51, hw_64a, hw_74, hw_87a, hx_104], ⟨hEn, by rw [ht]; exact hP9, hD9⟩, hS.F ht⟩) hS.2.2 (by decide) (by decide)
                  ·
                    obtain ⟨h_96, rfl⟩ : ∃ z, z = uu := ⟨_, rfl⟩
                    obtain ⟨hP1, hD1, hsz1⟩ := hB
                    rw [ht] at hP1 hsz1
                    obtain ⟨hP, hD⟩ := va_join (wr := []) (w1 := [(aR, .inr (0, [.ref aT, .ref aS])), (aT, .inr (2, [.ref aB, .int (nI u), .int (nI en), .int (nI h_96), .int na_84, .int w, .int wa])), (aB, .inl (kB, 65536, .inl B)), (aS, .inr (1, [.ref aN, .ref aC])), (aN, .inl (kN, 5, .inl (fun j => nI (cnt j)))), (aC, .inl (kC, 52035, .inl cel_85))]) hP hD [0, 1, 2, 3, 4, 5] [] rfl rfl (by decide) (by decide) hk1 hFc hP1 hD1
                    refine zt_tight (hsz1.trans hzs) ?_
                    generalize H1 = H at hP hS ⊢
                    have hP : va_P (dC, dI) vwCl [(aR, .inr (0, [.ref aT, .ref aS])), (aT, .inr (2, [.ref aB, .int (nI u), .int (nI en), .int (nI h_96), .int na_84, .int w, .int wa])), (aB, .inl (kB, 65536, .inl B)), (aS, .inr (1, [.ref aN, .ref aC])), (aN, .inl (kN, 5, .inl (fun j => nI (cnt j)))), (aC, .inl (kC, 52035, .inl cel_85))] H := hP
                    have hD : va_D A [(aR, .inr (0, [.ref aT, .ref aS])), (aT, .inr (2, [.ref aB, .int (nI u), .int (nI en), .int (nI h_96), .int na_84, .int w, .int wa])), (aB, .inl (kB, 65536, .inl B)), (aS, .inr (1, [.ref aN, .ref aC])), (aN, .inl (kN, 5, .inl (fun j => nI (cnt j)))), (aC, .inl (kC, 52035, .inl cel_85))] := hD
                    have hw_97i := zName_in hw_97
                    refine lv_aload_n hx hb d_Rd_takeNode_106 rfl (lv_at hl 0 rfl) ?_
                    refine lv_iconst (v := 0) hx hb d_Rd_takeNode_107 (by decide) ?_
                    refine lv_iconst (v := 3) hx hb d_Rd_takeNode_108 (by decide) ?_
                    refine lv_iconst (v := 3) hx hb d_Rd_takeNode_109 (by decide) ?_
                    refine lv_iload_n hx hb d_Rd_takeNode_110 rfl (lv_at hl 1 rfl) ?_
                    refine lv_bipush (v := 8) hx hb d_Rd_takeNode_111 (by decide) ?_
                    refine lv_iadd hx hb d_Rd_takeNode_113 ?_
                    refine zt_top (nI_add cc 8) ?_
                    refine lv_ldc (v := -1048576) hx hb hown (hz _ tw_384) d_Rd_takeNode_114 ?_
                    refine lv_ldc (v := 1048576) hx hb hown (hz _ tw_385) d_Rd_takeNode_116 ?_
                    have hPc := hP.sub (ws' := [(aR, .inr (0, [.ref aT, .ref aS])), (aT, .inr (2, [.ref aB, .int (nI u), .int (nI en), .int (nI h_96), .int na_84, .int w, .int wa])), (aB, .inl (kB, 65536, .inl B)), (aS, .inr (1, [.ref aN, .ref aC])), (aN, .inl (kN, 5, .inl (fun j => nI (cnt j)))), (aC, .inl (kC, 52035, .inl cel_85))]) [0, 1, 2, 3, 4, 5] rfl
                    have hDc := hD.sub (ws' := [(aR, .inr (0, [.ref aT, .ref aS])), (aT, .inr (2, [.ref aB, .int (nI u), .int (nI en), .int (nI h_96), .int na_84, .int w, .int wa])), (aB, .inl (kB, 65536, .inl B)), (aS, .inr (1, [.ref aN, .ref aC])), (aN, .inl (kN, 5, .inl (fun j => nI (cnt j)))), (aC, .inl (kC, 52035, .inl cel_85))]) [0, 1, 2, 3, 4, 5] (by decide) rfl
                    have hKc := hK.sub (tys' := [(kB, .byte), (kN, .int), (kC, .int)]) [0, 1, 2] rfl
                    have hFc := va_free (wc := [(aR, .inr (0, [.ref aT, .ref aS])), (aT, .inr (2, [.ref aB, .int (nI u), .int (nI en), .int (nI h_96), .int na_84, .int w, .int wa])), (aB, .inl (kB, 65536, .inl B)), (aS, .inr (1, [.ref aN, .ref aC])), (aN, .inl (kN, 5, .inl (fun j => nI (cnt j)))), (aC, .inl (kC, 52035, .inl cel_85))]) hD hS hA [0, 1, 2, 3, 4, 5] rfl
                    refine zt_size (fun hzs => ?_)
                    refine vx_calli (vx_runV (As := [.int 0, .int (nI 3), .int (nI 3), .int (nI (cc + 8)), .int (-1048576), .int 1048576]) (rest := []) ⟨hx, hb, hml, hown, hts⟩ (c_Rd_takeList l hst G dC dI H.size aR aT aS aB u en h_96 na_84 w wa kB B aN aC kN cnt kC cel_85 0 3 3 (cc + 8) (-1048576) 1048576 (by omega) (by omega) (by omega) (by omega) (by omega)) (cwV 6 hts (gV tw_366 tw_368 ts_9 tw_2 tw_369 rfl) rfl rfl rfl (by decide +kernel) ⟨Nat.le_of_ble_eq_true rfl, Nat.le_of_ble_eq_true rfl⟩) (PW_preV hPc hKc hDc hE hS hFc (ci := 0) (q0 := 0) rfl rfl) rfl rfl hl.1 rfl (lv_room (Nat.le_of_ble_eq_true rfl)) d_Rd_takeNode_118 ⟨Nat.le_of_ble_eq_true rfl, Nat.le_of_ble_eq_true rfl⟩) hS (fun q _ h => hFc q h) hFc (fun q _ h => hFc q h) (fun E9 ce9 q9 uu t H1 locs ht hvm hx_117 hB hz1 hk1 hS hce hcv hcl => ?_) (fun r_105 uu t H1 locs ht hvm hw_110 hB hz1 hk1 hS => ?_)
                    ·
                      obtain ⟨w_111, k_112, h_113, na_114, cnt_115, cel_116⟩ := uu
                      obtain ⟨hEn, hP1, hD1⟩ := hB
                      rw [ht] at hP1
                      obtain ⟨hP, hD⟩ := va_join (wr := []) (w1 := [(aR, .inr (0, [.ref aT, .ref aS])), (aT, .inr (2, [.ref aB, .int (nI u), .int (nI en), .int (nI h_113), .int na_114, .int w_111, .int (nI k_112)])), (aB, .inl (kB, 65536, .inl B)), (aS, .inr (1, [.ref aN, .ref aC])), (aN, .inl (kN, 5, .inl (fun j => nI (cnt_115 j)))), (aC, .inl (kC, 52035, .inl cel_116))]) hP hD [0, 1, 2, 3, 4, 5] [] rfl rfl (by decide) (by decide) hk1 hFc hP1 hD1
                      generalize H1 = H at hP hS hce ⊢
                      have hP : va_P (dC, dI) vwCl [(aR, .inr (0, [.ref aT, .ref aS])), (aT, .inr (2, [.ref aB, .int (nI u), .int (nI en), .int (nI h_113), .int na_114, .int w_111, .int (nI k_112)])), (aB, .inl (kB, 65536, .inl B)), (aS, .inr (1, [.ref aN, .ref aC])), (aN, .inl (kN, 5, .inl (fun j => nI (cnt_115 j)))), (aC, .inl (kC, 52035, .inl cel_116))] H := hP
                      have hD : va_D A [(aR, .inr (0, [.ref aT, .ref aS])), (aT, .inr (2, [.ref aB, .int (nI u), .int (nI en), .int (nI h_113), .int na_114, .int w_111, .int (nI k_112)])), (aB, .inl (kB, 65536, .inl B)), (aS, .inr (1, [.ref aN, .ref aC])), (aN, .inl (kN, 5, .inl (fun j => nI (cnt_115 j)))), (aC, .inl (kC, 52035, .inl cel_116))] := hD
                      simp only [zf02, zf01, zf11, zf12, zf21, zf22, decide_true, decide_false] at hx_117
                      have hP9 := hP.sub (ws' := [(aR, .inr (0, [.ref aT, .ref aS])), (aT, .inr (2, [.ref aB, .int (nI u), .int (nI en), .int (nI h_113), .int na_114, .int w_111, .int (nI k_112)])), (aB, .inl (kB, 65536, .inl B)), (aS, .inr (1, [.ref aN, .ref aC])), (aN, .inl (kN, 5, .inl (fun j => nI (cnt_115 j)))), (aC, .inl (kC, 52035, .inl cel_116))]) [0, 1, 2, 3, 4, 5] rfl
                      have hD9 := hD.sub (ws' := [(aR, .inr (0, [.ref aT, .ref aS])), (aT, .inr (2, [.ref aB, .int (nI u), .int (nI en), .int (nI h_113), .int na_114, .int w_111, .int (nI k_112)])), (aB, .inl (kB, 65536, .inl B)), (aS, .inr (1, [.ref aN, .ref aC])), (aN, .inl (kN, 5, .inl (fun j => nI (cnt_115 j)))), (aC, .inl (kC, 52035, .inl cel_116))]) [0, 1, 2, 3, 4, 5] (by decide) rfl
                      exact vx_out (fun x hx => (htab x hx).elim) hlocks hce hcv hcl (fun t ht hvm => ⟨(w_111, k_112, h_113, na_114, cnt_115, cel_116), by simp only [zNode, zListP, zNumP, zB_ok, zB_er, hw_3, hw_17a, hw_27, hw_41a, hw_51, hw_64a, hw_74, hw_87a, hw_97, hx_117], ⟨hEn, by rw [ht]; exact hP9, hD9⟩, hS.F ht⟩) hS.2.2 (by decide) (by decide)
                    ·
                      obtain ⟨h_106, na_107, cel_108, n_109⟩ := uu
                      obtain ⟨hP1, hD1, hsz1⟩ := hB
                      rw [ht] at hP1 hsz1
                      obtain ⟨hP, hD⟩ := va_join (wr := []) (w1 := [(aR, .inr (0, [.ref aT, .ref aS])), (aT, .inr (2, [.ref aB, .int (nI u), .int (nI en), .int (nI h_106), .int na_107, .int w, .int wa])), (aB, .inl (kB, 65536, .inl B)), (aS, .inr (1, [.ref aN, .ref aC])), (aN, .inl (kN, 5, .inl (fun j => nI (cnt j)))), (aC, .inl (kC, 52035, .inl cel_108))]) hP hD [0, 1, 2, 3, 4, 5] [] rfl rfl (by decide) (by decide) hk1 hFc hP1 hD1
                      refine zt_tight (hsz1.trans hzs) ?_
                      generalize H1 = H at hP hS ⊢
                      have hP : va_P (dC, dI) vwCl [(aR, .inr (0, [.ref aT, .ref aS])), (aT, .inr (2, [.ref aB, .int (nI u), .int (nI en), .int (nI h_106), .int na_107, .int w, .int wa])), (aB, .inl (kB, 65536, .inl B)), (aS, .inr (1, [.ref aN, .ref aC])), (aN, .inl (kN, 5, .inl (fun j => nI (cnt j)))), (aC, .inl (kC, 52035, .inl cel_108))] H := hP
                      have hD : va_D A [(aR, .inr (0, [.ref aT, .ref aS])), (aT, .inr (2, [.ref aB, .int (nI u), .int (nI en), .int (nI h_106), .int na_107, .int w, .int wa])), (aB, .inl (kB, 65536, .inl B)), (aS, .inr (1, [.ref aN, .ref aC])), (aN, .inl (kN, 5, .inl (fun j => nI (cnt j)))), (aC, .inl (kC, 52035, .inl cel_108))] := hD
                      obtain ⟨rfl, hw_110a⟩ := hw_110
                      simp only [zf02, zf01, zf11, zf12, zf21, zf22, decide_true, decide_false] at hw_110a
                      have hw_110i := zList_in (by omega) hw_110a
                      refine lv_pop hx hb d_Rd_takeNode_121 rfl ?_
                      refine zt_size (fun hzs => ?_)
                      have hP9 := hP.sub (ws' := [(aR, .inr (0, [.ref aT, .ref aS])), (aT, .inr (2, [.ref aB, .int (nI u), .int (nI en), .int (nI h_106), .int na_107, .int w, .int wa])), (aB, .inl (kB, 65536, .inl B)), (aS, .inr (1, [.ref aN, .ref aC])), (aN, .inl (kN, 5, .inl (fun j => nI (cnt j)))), (aC, .inl (kC, 52035, .inl cel_108))]) [0, 1, 2, 3, 4, 5] rfl
                      have hD9 := hD.sub (ws' := [(aR, .inr (0, [.ref aT, .ref aS])), (aT, .inr (2, [.ref aB, .int (nI u), .int (nI en), .int (nI h_106), .int na_107, .int w, .int wa])), (aB, .inl (kB, 65536, .inl B)), (aS, .inr (1, [.ref aN, .ref aC])), (aN, .inl (kN, 5, .inl (fun j => nI (cnt j)))), (aC, .inl (kC, 52035, .inl cel_108))]) [0, 1, 2, 3, 4, 5] (by decide) rfl
                      refine W.widen (k := 1) (n := 6) (by decide) (by decide) ?_
                      exact vx_ret (W.vret hx hb hr (fun t ht hW => ⟨⟨(h_106, na_107, cel_108), rfl, by simp only [zNode, zListP, zNumP, zB_ok, hw_3, hw_17a, hw_27, hw_41a, hw_51, hw_64a, hw_74, hw_87a, hw_97, hw_110a], by rw [ht]; exact hP9, hD9, by rw [ht]; exact hzs⟩, hS.F ht⟩) hS.2.2 d_Rd_takeNode_122)
