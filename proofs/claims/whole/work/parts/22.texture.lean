set_option maxHeartbeats 4000000 in
set_option maxRecDepth 100000 in
theorem c_Rd_takeTexture (l : Launch) (hst : l.stackTraces = false) (G : ZG) (dC : Nat → ClassId) (dI : Nat → Nat → Nat) (sz : Nat) (aR : Nat) (aT : Nat) (aS : Nat) (aB : Nat) (u : Nat) (en : Nat) (h : Nat) (na : Int32) (w : Int32) (wa : Int32) (kB : ClassId) (B : Nat → Int32) (aN : Nat) (aC : Nat) (kN : ClassId) (cnt : Nat → Nat) (kC : ClassId) (cel : Nat → Int32) (cc : Nat) (hen : en ≤ 65536) (hh : h ≤ en) (hcc : cc + 3075 ≤ 52035) : vx_Met l y_Rd_takeTexture w_Rd_takeTexture ({ frames := 9, cells := 1, slots := 6, locals := 158 }) (va_Pc [.ref aR, .int (nI cc)] (PW G (dC, dI) [(kB, .byte), (kN, .int), (kC, .int)] [(aR, .inr (0, [.ref aT, .ref aS])), (aT, .inr (2, [.ref aB, .int (nI u), .int (nI en), .int (nI h), .int na, .int w, .int wa])), (aB, .inl (kB, 65536, .inl B)), (aS, .inr (1, [.ref aN, .ref aC])), (aN, .inl (kN, 5, .inl (fun j => nI (cnt j)))), (aC, .inl (kC, 52035, .inl cel))] sz)) (va_Qv (fun (uu : Nat × Int32 × (Nat → Int32)) => zTexture B en cc (h, cel) = .ok (uu.1, uu.2.2)) (fun (uu : Nat × Int32 × (Nat → Int32)) t => BW (dC, dI) [(aR, .inr (0, [.ref aT, .ref aS])), (aT, .inr (2, [.ref aB, .int (nI u), .int (nI en), .int (nI uu.1), .int uu.2.1, .int w, .int wa])), (aB, .inl (kB, 65536, .inl B)), (aS, .inr (1, [.ref aN, .ref aC])), (aN, .inl (kN, 5, .inl (fun j => nI (cnt j)))), (aC, .inl (kC, 52035, .inl uu.2.2))] (va_A [(aR, .inr (0, [.ref aT, .ref aS])), (aT, .inr (2, [.ref aB, .int (nI u), .int (nI en), .int (nI h), .int na, .int w, .int wa])), (aB, .inl (kB, 65536, .inl B)), (aS, .inr (1, [.ref aN, .ref aC])), (aN, .inl (kN, 5, .inl (fun j => nI (cnt j)))), (aC, .inl (kC, 52035, .inl cel))] sz) sz t) (va_A [(aR, .inr (0, [.ref aT, .ref aS])), (aT, .inr (2, [.ref aB, .int (nI u), .int (nI en), .int (nI h), .int na, .int w, .int wa])), (aB, .inl (kB, 65536, .inl B)), (aS, .inr (1, [.ref aN, .ref aC])), (aN, .inl (kN, 5, .inl (fun j => nI (cnt j)))), (aC, .inl (kC, 52035, .inl cel))] sz)) (vx_X (fun (uu : Int32 × Nat × Nat × Int32 × (Nat → Nat) × (Nat → Int32)) => zTexture B en cc (h, cel) = .error (uu.1, uu.2.1)) (fun E (uu : Int32 × Nat × Nat × Int32 × (Nat → Nat) × (Nat → Int32)) t => E = "java/lang/IllegalArgumentException" ∧ va_P (dC, dI) vwCl [(aR, .inr (0, [.ref aT, .ref aS])), (aT, .inr (2, [.ref aB, .int (nI u), .int (nI en), .int (nI uu.2.2.1), .int uu.2.2.2.1, .int uu.1, .int (nI uu.2.1)])), (aB, .inl (kB, 65536, .inl B)), (aS, .inr (1, [.ref aN, .ref aC])), (aN, .inl (kN, 5, .inl (fun j => nI (uu.2.2.2.2.1 j)))), (aC, .inl (kC, 52035, .inl uu.2.2.2.2.2))] t.heap ∧ va_D (va_A [(aR, .inr (0, [.ref aT, .ref aS])), (aT, .inr (2, [.ref aB, .int (nI u), .int (nI en), .int (nI h), .int na, .int w, .int wa])), (aB, .inl (kB, 65536, .inl B)), (aS, .inr (1, [.ref aN, .ref aC])), (aN, .inl (kN, 5, .inl (fun j => nI (cnt j)))), (aC, .inl (kC, 52035, .inl cel))] sz) [(aR, .inr (0, [.ref aT, .ref aS])), (aT, .inr (2, [.ref aB, .int (nI u), .int (nI en), .int (nI uu.2.2.1), .int uu.2.2.2.1, .int uu.1, .int (nI uu.2.1)])), (aB, .inl (kB, 65536, .inl B)), (aS, .inr (1, [.ref aN, .ref aC])), (aN, .inl (kN, 5, .inl (fun j => nI (uu.2.2.2.2.1 j)))), (aC, .inl (kC, 52035, .inl uu.2.2.2.2.2))]) (va_A [(aR, .inr (0, [.ref aT, .ref aS])), (aT, .inr (2, [.ref aB, .int (nI u), .int (nI en), .int (nI h), .int na, .int w, .int wa])), (aB, .inl (kB, 65536, .inl B)), (aS, .inr (1, [.ref aN, .ref aC])), (aN, .inl (kN, 5, .inl (fun j => nI (cnt j)))), (aC, .inl (kC, 52035, .inl cel))] sz)) 1 6 (va_A [(aR, .inr (0, [.ref aT, .ref aS])), (aT, .inr (2, [.ref aB, .int (nI u), .int (nI en), .int (nI h), .int na, .int w, .int wa])), (aB, .inl (kB, 65536, .inl B)), (aS, .inr (1, [.ref aN, .ref aC])), (aN, .inl (kN, 5, .inl (fun j => nI (cnt j)))), (aC, .inl (kC, 52035, .inl cel))] sz) := by
  refine vx_ofW (cc := prog_2_method_5_code) (maxL := 5) (ret := none) (by decide) rfl ?_
  intro p e s m args below meth c s₁ Bd hml htab hv
  obtain ⟨rfl, hsz, hP, hK, hD0, hE⟩ := hv
  have hx := Bd.exec
  have hb := Bd.bytes
  have hr := Bd.returns
  have hts := atoms_spec (ws := w_Rd_takeTexture) Bd.pre
  have hown : s.vm.findClass R_Rd = some m.cls := findClass_of_methodNamed Bd.named
  have hlocks := Bd.notSynchronized
  have hz : ∀ w ∈ ZW, w.before _ s = true := fun w h => hts w (List.mem_cons_of_mem _ h)
  subst hsz
  have hD := hD0.self (sz := s.heap.size)
  generalize hAe : va_A [(aR, .inr (0, [.ref aT, .ref aS])), (aT, .inr (2, [.ref aB, .int (nI u), .int (nI en), .int (nI h), .int na, .int w, .int wa])), (aB, .inl (kB, 65536, .inl B)), (aS, .inr (1, [.ref aN, .ref aC])), (aN, .inl (kN, 5, .inl (fun j => nI (cnt j)))), (aC, .inl (kC, 52035, .inl cel))] s.heap.size = A at hD hE ⊢
  have hA : ∀ q : Nat, s.heap.size ≤ q → A q := fun q h => by rw [← hAe]; exact Or.inr h
  have hS : va_S A s.heap s.heap [] := va_S.rf
  have hl := lv_entry ([.ref aR, .int (nI cc)]) (n := 5) (Nat.le_of_ble_eq_true rfl)
  rw [lg_entry_eq]
  generalize (lg_sl ([.ref aR, .int (nI cc)]) ++ List.replicate (5 - (lg_sl ([.ref aR, .int (nI cc)])).length) Slot.unset).toArray = ls at hl ⊢
  have hl : lv_has ls 5 [(0, .ref aR), (1, .int (nI cc))] := hl
  obtain ⟨H, hH⟩ : ∃ z, z = s.heap := ⟨_, rfl⟩
  have hP : va_P (dC, dI) vwCl [(aR, .inr (0, [.ref aT, .ref aS])), (aT, .inr (2, [.ref aB, .int (nI u), .int (nI en), .int (nI h), .int na, .int w, .int wa])), (aB, .inl (kB, 65536, .inl B)), (aS, .inr (1, [.ref aN, .ref aC])), (aN, .inl (kN, 5, .inl (fun j => nI (cnt j)))), (aC, .inl (kC, 52035, .inl cel))] H := by rw [hH]; exact hP
  have hS : va_S A s.heap H [] := by rw [hH]; exact hS
  refine zt_heap hH ?_
  refine lv_aload_n hx hb d_Rd_takeTexture_0 rfl (lv_at hl 0 rfl) ?_
  refine lv_bipush (v := 123) hx hb d_Rd_takeTexture_1 (by decide) ?_
  refine va_ldcS (q := G.2.1 13) hx hb hown (hE.2.2.2.2.2.2.2 13 (by decide)).2 d_Rd_takeTexture_3 ?_
  have hPc := hP.sub (ws' := [(aR, .inr (0, [.ref aT, .ref aS])), (aT, .inr (2, [.ref aB, .int (nI u), .int (nI en), .int (nI h), .int na, .int w, .int wa])), (aB, .inl (kB, 65536, .inl B)), (aS, .inr (1, [.ref aN, .ref aC])), (aN, .inl (kN, 5, .inl (fun j => nI (cnt j)))), (aC, .inl (kC, 52035, .inl cel))]) [0, 1, 2, 3, 4, 5] rfl
  have hDc := hD.sub (ws' := [(aR, .inr (0, [.ref aT, .ref aS])), (aT, .inr (2, [.ref aB, .int (nI u), .int (nI en), .int (nI h), .int na, .int w, .int wa])), (aB, .inl (kB, 65536, .inl B)), (aS, .inr (1, [.ref aN, .ref aC])), (aN, .inl (kN, 5, .inl (fun j => nI (cnt j)))), (aC, .inl (kC, 52035, .inl cel))]) [0, 1, 2, 3, 4, 5] (by decide) rfl
  have hKc := hK.sub (tys' := [(kB, .byte), (kN, .int), (kC, .int)]) [0, 1, 2] rfl
  have hFc := va_free (wc := [(aR, .inr (0, [.ref aT, .ref aS])), (aT, .inr (2, [.ref aB, .int (nI u), .int (nI en), .int (nI h), .int na, .int w, .int wa])), (aB, .inl (kB, 65536, .inl B)), (aS, .inr (1, [.ref aN, .ref aC])), (aN, .inl (kN, 5, .inl (fun j => nI (cnt j)))), (aC, .inl (kC, 52035, .inl cel))]) hD hS hA [0, 1, 2, 3, 4, 5] rfl
  refine zt_size (fun hzs => ?_)
  refine vx_callv (vx_runV (As := [.int 123, .ref (G.2.1 13)]) (rest := []) ⟨hx, hb, hml, hown, hts⟩ (c_Rd_takeName l hst G dC dI H.size aR aT aS aB u en h na w wa kB B aN aC kN cnt kC cel 123 13 (by omega) (by omega) (by decide) (zSb_len _)) (cwV 2 hts (gV tw_359 tw_361 ts_8 tw_2 tw_362 rfl) rfl rfl rfl (by decide +kernel) ⟨Nat.le_of_ble_eq_true rfl, Nat.le_of_ble_eq_true rfl⟩) (PW_preV hPc hKc hDc hE hS hFc (ci := 0) (q0 := 0) rfl rfl) rfl rfl hl.1 rfl (lv_room (Nat.le_of_ble_eq_true rfl)) d_Rd_takeTexture_5 ⟨Nat.le_of_ble_eq_true rfl, Nat.le_of_ble_eq_true rfl⟩) hS (fun q _ h => hFc q h) hFc (fun q _ h => hFc q h) (fun E9 ce9 q9 uu t H1 locs ht hvm hx_10 hB hz1 hk1 hS hce hcv hcl => ?_) (fun uu t H1 locs ht hvm hw_3 hB hz1 hk1 hS => ?_)
  ·
    obtain ⟨w_4, k_5, h_6, na_7, cnt_8, cel_9⟩ := uu
    obtain ⟨hEn, hP1, hD1⟩ := hB
    rw [ht] at hP1
    obtain ⟨hP, hD⟩ := va_join (wr := []) (w1 := [(aR, .inr (0, [.ref aT, .ref aS])), (aT, .inr (2, [.ref aB, .int (nI u), .int (nI en), .int (nI h_6), .int na_7, .int w_4, .int (nI k_5)])), (aB, .inl (kB, 65536, .inl B)), (aS, .inr (1, [.ref aN, .ref aC])), (aN, .inl (kN, 5, .inl (fun j => nI (cnt_8 j)))), (aC, .inl (kC, 52035, .inl cel_9))]) hP hD [0, 1, 2, 3, 4, 5] [] rfl rfl (by decide) (by decide) hk1 hFc hP1 hD1
    generalize H1 = H at hP hS hce ⊢
    have hP : va_P (dC, dI) vwCl [(aR, .inr (0, [.ref aT, .ref aS])), (aT, .inr (2, [.ref aB, .int (nI u), .int (nI en), .int (nI h_6), .int na_7, .int w_4, .int (nI k_5)])), (aB, .inl (kB, 65536, .inl B)), (aS, .inr (1, [.ref aN, .ref aC])), (aN, .inl (kN, 5, .inl (fun j => nI (cnt_8 j)))), (aC, .inl (kC, 52035, .inl cel_9))] H := hP
    have hD : va_D A [(aR, .inr (0, [.ref aT, .ref aS])), (aT, .inr (2, [.ref aB, .int (nI u), .int (nI en), .int (nI h_6), .int na_7, .int w_4, .int (nI k_5)])), (aB, .inl (kB, 65536, .inl B)), (aS, .inr (1, [.ref aN, .ref aC])), (aN, .inl (kN, 5, .inl (fun j => nI (cnt_8 j)))), (aC, .inl (kC, 52035, .inl cel_9))] := hD
    have hP9 := hP.sub (ws' := [(aR, .inr (0, [.ref aT, .ref aS])), (aT, .inr (2, [.ref aB, .int (nI u), .int (nI en), .int (nI h_6), .int na_7, .int w_4, .int (nI k_5)])), (aB, .inl (kB, 65536, .inl B)), (aS, .inr (1, [.ref aN, .ref aC])), (aN, .inl (kN, 5, .inl (fun j => nI (cnt_8 j)))), (aC, .inl (kC, 52035, .inl cel_9))]) [0, 1, 2, 3, 4, 5] rfl
    have hD9 := hD.sub (ws' := [(aR, .inr (0, [.ref aT, .ref aS])), (aT, .inr (2, [.ref aB, .int (nI u), .int (nI en), .int (nI h_6), .int na_7, .int w_4, .int (nI k_5)])), (aB, .inl (kB, 65536, .inl B)), (aS, .inr (1, [.ref aN, .ref aC])), (aN, .inl (kN, 5, .inl (fun j => nI (cnt_8 j)))), (aC, .inl (kC, 52035, .inl cel_9))]) [0, 1, 2, 3, 4, 5] (by decide) rfl
    exact vx_out (fun x hx => (htab x hx).elim) hlocks hce hcv hcl (fun t ht hvm => ⟨(w_4, k_5, h_6, na_7, cnt_8, cel_9), by simp only [zTexture, zListP, zNumP, zB_ok, zB_er, hx_10], ⟨hEn, by rw [ht]; exact hP9, hD9⟩, hS.F ht⟩) hS.2.2 (by decide) (by decide)
  ·
    obtain ⟨h_2, rfl⟩ : ∃ z, z = uu := ⟨_, rfl⟩
    obtain ⟨hP1, hD1, hsz1⟩ := hB
    rw [ht] at hP1 hsz1
    obtain ⟨hP, hD⟩ := va_join (wr := []) (w1 := [(aR, .inr (0, [.ref aT, .ref aS])), (aT, .inr (2, [.ref aB, .int (nI u), .int (nI en), .int (nI h_2), .int na, .int w, .int wa])), (aB, .inl (kB, 65536, .inl B)), (aS, .inr (1, [.ref aN, .ref aC])), (aN, .inl (kN, 5, .inl (fun j => nI (cnt j)))), (aC, .inl (kC, 52035, .inl cel))]) hP hD [0, 1, 2, 3, 4, 5] [] rfl rfl (by decide) (by decide) hk1 hFc hP1 hD1
    refine zt_tight (hsz1.trans hzs) ?_
    generalize H1 = H at hP hS ⊢
    have hP : va_P (dC, dI) vwCl [(aR, .inr (0, [.ref aT, .ref aS])), (aT, .inr (2, [.ref aB, .int (nI u), .int (nI en), .int (nI h_2), .int na, .int w, .int wa])), (aB, .inl (kB, 65536, .inl B)), (aS, .inr (1, [.ref aN, .ref aC])), (aN, .inl (kN, 5, .inl (fun j => nI (cnt j)))), (aC, .inl (kC, 52035, .inl cel))] H := hP
    have hD : va_D A [(aR, .inr (0, [.ref aT, .ref aS])), (aT, .inr (2, [.ref aB, .int (nI u), .int (nI en), .int (nI h_2), .int na, .int w, .int wa])), (aB, .inl (kB, 65536, .inl B)), (aS, .inr (1, [.ref aN, .ref aC])), (aN, .inl (kN, 5, .inl (fun j => nI (cnt j)))), (aC, .inl (kC, 52035, .inl cel))] := hD
    have hw_3i := zName_in hw_3
    refine lv_aload_n hx hb d_Rd_takeTexture_8 rfl (lv_at hl 0 rfl) ?_
    refine lv_iload_n hx hb d_Rd_takeTexture_9 rfl (lv_at hl 1 rfl) ?_
    refine lv_iconst (v := 1) hx hb d_Rd_takeTexture_10 (by decide) ?_
    refine lv_bipush (v := 32) hx hb d_Rd_takeTexture_11 (by decide) ?_
    have hPc := hP.sub (ws' := [(aR, .inr (0, [.ref aT, .ref aS])), (aT, .inr (2, [.ref aB, .int (nI u), .int (nI en), .int (nI h_2), .int na, .int w, .int wa])), (aB, .inl (kB, 65536, .inl B)), (aS, .inr (1, [.ref aN, .ref aC])), (aN, .inl (kN, 5, .inl (fun j => nI (cnt j)))), (aC, .inl (kC, 52035, .inl cel))]) [0, 1, 2, 3, 4, 5] rfl
    have hDc := hD.sub (ws' := [(aR, .inr (0, [.ref aT, .ref aS])), (aT, .inr (2, [.ref aB, .int (nI u), .int (nI en), .int (nI h_2), .int na, .int w, .int wa])), (aB, .inl (kB, 65536, .inl B)), (aS, .inr (1, [.ref aN, .ref aC])), (aN, .inl (kN, 5, .inl (fun j => nI (cnt j)))), (aC, .inl (kC, 52035, .inl cel))]) [0, 1, 2, 3, 4, 5] (by decide) rfl
    have hKc := hK.sub (tys' := [(kB, .byte), (kN, .int), (kC, .int)]) [0, 1, 2] rfl
    have hFc := va_free (wc := [(aR, .inr (0, [.ref aT, .ref aS])), (aT, .inr (2, [.ref aB, .int (nI u), .int (nI en), .int (nI h_2), .int na, .int w, .int wa])), (aB, .inl (kB, 65536, .inl B)), (aS, .inr (1, [.ref aN, .ref aC])), (aN, .inl (kN, 5, .inl (fun j => nI (cnt j)))), (aC, .inl (kC, 52035, .inl cel))]) hD hS hA [0, 1, 2, 3, 4, 5] rfl
    refine zt_size (fun hzs => ?_)
    refine vx_calli (vx_runV (As := [.int (nI cc), .int 1, .int 32]) (rest := []) ⟨hx, hb, hml, hown, hts⟩ (c_Rd_takeNumber l hst G dC dI H.size aR aT aS aB u en h_2 na w wa kB B aN aC kN cnt kC cel cc 1 32 (by omega) (by omega) (by omega)) (cwV 3 hts (gV tw_387 tw_389 ts_10 tw_2 tw_390 rfl) rfl rfl rfl (by decide +kernel) ⟨Nat.le_of_ble_eq_true rfl, Nat.le_of_ble_eq_true rfl⟩) (PW_preV hPc hKc hDc hE hS hFc (ci := 0) (q0 := 0) rfl rfl) rfl rfl hl.1 rfl (lv_room (Nat.le_of_ble_eq_true rfl)) d_Rd_takeTexture_13 ⟨Nat.le_of_ble_eq_true rfl, Nat.le_of_ble_eq_true rfl⟩) hS (fun q _ h => hFc q h) hFc (fun q _ h => hFc q h) (fun E9 ce9 q9 uu t H1 locs ht hvm hx_22 hB hz1 hk1 hS hce hcv hcl => ?_) (fun r_11 uu t H1 locs ht hvm hw_15 hB hz1 hk1 hS => ?_)
    ·
      obtain ⟨w_16, k_17, h_18, na_19, cnt_20, cel_21⟩ := uu
      obtain ⟨hEn, hP1, hD1⟩ := hB
      rw [ht] at hP1
      obtain ⟨hP, hD⟩ := va_join (wr := []) (w1 := [(aR, .inr (0, [.ref aT, .ref aS])), (aT, .inr (2, [.ref aB, .int (nI u), .int (nI en), .int (nI h_18), .int na_19, .int w_16, .int (nI k_17)])), (aB, .inl (kB, 65536, .inl B)), (aS, .inr (1, [.ref aN, .ref aC])), (aN, .inl (kN, 5, .inl (fun j => nI (cnt_20 j)))), (aC, .inl (kC, 52035, .inl cel_21))]) hP hD [0, 1, 2, 3, 4, 5] [] rfl rfl (by decide) (by decide) hk1 hFc hP1 hD1
      generalize H1 = H at hP hS hce ⊢
      have hP : va_P (dC, dI) vwCl [(aR, .inr (0, [.ref aT, .ref aS])), (aT, .inr (2, [.ref aB, .int (nI u), .int (nI en), .int (nI h_18), .int na_19, .int w_16, .int (nI k_17)])), (aB, .inl (kB, 65536, .inl B)), (aS, .inr (1, [.ref aN, .ref aC])), (aN, .inl (kN, 5, .inl (fun j => nI (cnt_20 j)))), (aC, .inl (kC, 52035, .inl cel_21))] H := hP
      have hD : va_D A [(aR, .inr (0, [.ref aT, .ref aS])), (aT, .inr (2, [.ref aB, .int (nI u), .int (nI en), .int (nI h_18), .int na_19, .int w_16, .int (nI k_17)])), (aB, .inl (kB, 65536, .inl B)), (aS, .inr (1, [.ref aN, .ref aC])), (aN, .inl (kN, 5, .inl (fun j => nI (cnt_20 j)))), (aC, .inl (kC, 52035, .inl cel_21))] := hD
      have hP9 := hP.sub (ws' := [(aR, .inr (0, [.ref aT, .ref aS])), (aT, .inr (2, [.ref aB, .int (nI u), .int (nI en), .int (nI h_18), .int na_19, .int w_16, .int (nI k_17)])), (aB, .inl (kB, 65536, .inl B)), (aS, .inr (1, [.ref aN, .ref aC])), (aN, .inl (kN, 5, .inl (fun j => nI (cnt_20 j)))), (aC, .inl (kC, 52035, .inl cel_21))]) [0, 1, 2, 3, 4, 5] rfl
      have hD9 := hD.sub (ws' := [(aR, .inr (0, [.ref aT, .ref aS])), (aT, .inr (2, [.ref aB, .int (nI u), .int (nI en), .int (nI h_18), .int na_19, .int w_16, .int (nI k_17)])), (aB, .inl (kB, 65536, .inl B)), (aS, .inr (1, [.ref aN, .ref aC])), (aN, .inl (kN, 5, .inl (fun j => nI (cnt_20 j)))), (aC, .inl (kC, 52035, .inl cel_21))]) [0, 1, 2, 3, 4, 5] (by decide) rfl
      exact vx_out (fun x hx => (htab x hx).elim) hlocks hce hcv hcl (fun t ht hvm => ⟨(w_16, k_17, h_18, na_19, cnt_20, cel_21), by simp only [zTexture, zListP, zNumP, zB_ok, zB_er, hw_3, hx_22], ⟨hEn, by rw [ht]; exact hP9, hD9⟩, hS.F ht⟩) hS.2.2 (by decide) (by decide)
    ·
      obtain ⟨h_12, na_13, cel_14⟩ := uu
      obtain ⟨hP1, hD1, hsz1⟩ := hB
      rw [ht] at hP1 hsz1
      obtain ⟨hP, hD⟩ := va_join (wr := []) (w1 := [(aR, .inr (0, [.ref aT, .ref aS])), (aT, .inr (2, [.ref aB, .int (nI u), .int (nI en), .int (nI h_12), .int na_13, .int w, .int wa])), (aB, .inl (kB, 65536, .inl B)), (aS, .inr (1, [.ref aN, .ref aC])), (aN, .inl (kN, 5, .inl (fun j => nI (cnt j)))), (aC, .inl (kC, 52035, .inl cel_14))]) hP hD [0, 1, 2, 3, 4, 5] [] rfl rfl (by decide) (by decide) hk1 hFc hP1 hD1
      refine zt_tight (hsz1.trans hzs) ?_
      generalize H1 = H at hP hS ⊢
      have hP : va_P (dC, dI) vwCl [(aR, .inr (0, [.ref aT, .ref aS])), (aT, .inr (2, [.ref aB, .int (nI u), .int (nI en), .int (nI h_12), .int na_13, .int w, .int wa])), (aB, .inl (kB, 65536, .inl B)), (aS, .inr (1, [.ref aN, .ref aC])), (aN, .inl (kN, 5, .inl (fun j => nI (cnt j)))), (aC, .inl (kC, 52035, .inl cel_14))] H := hP
      have hD : va_D A [(aR, .inr (0, [.ref aT, .ref aS])), (aT, .inr (2, [.ref aB, .int (nI u), .int (nI en), .int (nI h_12), .int na_13, .int w, .int wa])), (aB, .inl (kB, 65536, .inl B)), (aS, .inr (1, [.ref aN, .ref aC])), (aN, .inl (kN, 5, .inl (fun j => nI (cnt j)))), (aC, .inl (kC, 52035, .inl cel_14))] := hD
      obtain ⟨hw_15a, rfl, rfl⟩ := hw_15
      have hw_15i := zRNum_in (by omega) hw_15a
      have hlm := zRNum_lim hw_15a
      obtain ⟨sd, hsd1, hsd, rfl⟩ := zside hlm.1 hlm.2
      have hsq := zsq hsd
      refine lv_istore_n (lv' := [(2, .int (nI sd)), (0, .ref aR), (1, .int (nI cc))]) hx hb d_Rd_takeTexture_16 rfl hl (by decide) rfl (fun ls hl => ?_)
      refine lv_iload_n hx hb d_Rd_takeTexture_17 rfl (lv_at hl 0 rfl) ?_
      refine lv_iload_n hx hb d_Rd_takeTexture_18 rfl (lv_at hl 0 rfl) ?_
      refine lv_iconst (v := 1) hx hb d_Rd_takeTexture_19 (by decide) ?_
      refine lv_isub hx hb d_Rd_takeTexture_20 ?_
      refine lv_iand hx hb d_Rd_takeTexture_21 ?_
      refine lv_if_ne (tgt := 29) hx hb d_Rd_takeTexture_22 (by decide) (fun c_23 => ?_) (fun c_23 => ?_)
      ·
        refine lv_iconst (v := 0) hx hb d_Rd_takeTexture_29 (by decide) ?_
        refine lv_istore_n (lv' := [(3, .int 0), (2, .int (nI sd)), (0, .ref aR), (1, .int (nI cc))]) hx hb d_Rd_takeTexture_30 rfl hl (by decide) rfl (fun ls hl => ?_)
        refine lv_iload_n hx hb d_Rd_takeTexture_31 rfl (lv_at hl 0 rfl) ?_
        refine lv_if_ne (tgt := 50) hx hb d_Rd_takeTexture_32 (by decide) (fun c_24 => ?_) (fun c_24 => ?_)
        ·
          exact absurd (by decide) c_24
        ·
          refine lv_aload_n hx hb d_Rd_takeTexture_35 rfl (lv_at hl 2 rfl) ?_
          refine va_get (D := (dC, dI)) (ci := 0) (v := .ref aT) (C := R_Rd) (T := F_Rd) (N := 2) hx hb hz i_Rd hown hK hP 0 rfl rfl 0 (by decide) (hz _ tw_84) (fun _ h9 => h9) rfl d_Rd_takeTexture_36 ?_
          refine lv_iconst (v := 2) hx hb d_Rd_takeTexture_39 (by decide) ?_
          refine lv_aload_n hx hb d_Rd_takeTexture_40 rfl (lv_at hl 2 rfl) ?_
          refine va_get (D := (dC, dI)) (ci := 0) (v := .ref aT) (C := R_Rd) (T := F_Rd) (N := 2) hx hb hz i_Rd hown hK hP 0 rfl rfl 0 (by decide) (hz _ tw_84) (fun _ h9 => h9) rfl d_Rd_takeTexture_41 ?_
          refine va_getN (D := (dC, dI)) (ci := 2) (v := .int (nI h_2)) (C := R_Tp) (T := F_Tp) (N := 7) hx hb hz i_Tp hown hK hP 1 rfl rfl 4 (by decide) (va_Nw.use rfl (hE.1 _ (List.mem_of_getElem? (i := 4) rfl))) (fun _ h9 => h9) rfl d_Rd_takeTexture_44 ?_
          have hPc := hP.sub (ws' := [(aT, .inr (2, [.ref aB, .int (nI u), .int (nI en), .int (nI h_12), .int (nI h_2), .int w, .int wa])), (aB, .inl (kB, 65536, .inl B))]) [1, 2] rfl
          have hDc := hD.sub (ws' := [(aT, .inr (2, [.ref aB, .int (nI u), .int (nI en), .int (nI h_12), .int (nI h_2), .int w, .int wa])), (aB, .inl (kB, 65536, .inl B))]) [1, 2] (by decide) rfl
          have hKc := hK.sub (tys' := [(kB, .byte)]) [0] rfl
          have hFc := va_free (wc := [(aT, .inr (2, [.ref aB, .int (nI u), .int (nI en), .int (nI h_12), .int (nI h_2), .int w, .int wa])), (aB, .inl (kB, 65536, .inl B))]) hD hS hA [1, 2] rfl
          refine zt_size (fun hzs => ?_)
          refine vx_callv (vx_runV (As := [.int 2, .int (nI h_2)]) (rest := []) ⟨hx, hb, hml, hown, hts⟩ (c_Tp_refuse l hst G dC dI H.size aT aB u en h_12 (nI h_2) w wa kB B 2 (nI h_2)) (cwV 2 hts (gV tw_363 tw_223 tw_224 tw_3 tw_225 rfl) rfl rfl rfl (by decide +kernel) ⟨Nat.le_of_ble_eq_true rfl, Nat.le_of_ble_eq_true rfl⟩) (PW_preV hPc hKc hDc hE hS hFc (ci := 2) (q0 := 0) rfl rfl) rfl rfl hl.1 rfl (lv_room (Nat.le_of_ble_eq_true rfl)) d_Rd_takeTexture_47 ⟨Nat.le_of_ble_eq_true rfl, Nat.le_of_ble_eq_true rfl⟩) hS (fun q _ h => hFc q h) hFc (fun q _ h => hFc q h) (fun E9 ce9 q9 uu t H1 locs ht hvm hx_29 hB hz1 hk1 hS hce hcv hcl => ?_) (fun uu t H1 locs ht hvm hw_26 hB hz1 hk1 hS => ?_)
          ·
            obtain ⟨w_27, wa_28⟩ := uu
            obtain ⟨hEn, hP1, hD1⟩ := hB
            rw [ht] at hP1
            obtain ⟨hP, hD⟩ := va_join (wr := [(aR, .inr (0, [.ref aT, .ref aS])), (aS, .inr (1, [.ref aN, .ref aC])), (aN, .inl (kN, 5, .inl (fun j => nI (cnt j)))), (aC, .inl (kC, 52035, .inl (upd cel cc (nI sd))))]) (w1 := [(aT, .inr (2, [.ref aB, .int (nI u), .int (nI en), .int (nI h_12), .int (nI h_2), .int w_27, .int wa_28])), (aB, .inl (kB, 65536, .inl B))]) hP hD [1, 2] [0, 3, 4, 5] rfl rfl (by decide) (by decide) hk1 hFc hP1 hD1
            generalize H1 = H at hP hS hce ⊢
            have hP : va_P (dC, dI) vwCl [(aR, .inr (0, [.ref aT, .ref aS])), (aS, .inr (1, [.ref aN, .ref aC])), (aN, .inl (kN, 5, .inl (fun j => nI (cnt j)))), (aC, .inl (kC, 52035, .inl (upd cel cc (nI sd)))), (aT, .inr (2, [.ref aB, .int (nI u), .int (nI en), .int (nI h_12), .int (nI h_2), .int w_27, .int wa_28])), (aB, .inl (kB, 65536, .inl B))] H := hP
            have hD : va_D A [(aR, .inr (0, [.ref aT, .ref aS])), (aS, .inr (1, [.ref aN, .ref aC])), (aN, .inl (kN, 5, .inl (fun j => nI (cnt j)))), (aC, .inl (kC, 52035, .inl (upd cel cc (nI sd)))), (aT, .inr (2, [.ref aB, .int (nI u), .int (nI en), .int (nI h_12), .int (nI h_2), .int w_27, .int wa_28])), (aB, .inl (kB, 65536, .inl B))] := hD
            obtain ⟨rfl, rfl⟩ := hx_29
            have hP9 := hP.sub (ws' := [(aR, .inr (0, [.ref aT, .ref aS])), (aT, .inr (2, [.ref aB, .int (nI u), .int (nI en), .int (nI h_12), .int (nI h_2), .int 2, .int (nI h_2)])), (aB, .inl (kB, 65536, .inl B)), (aS, .inr (1, [.ref aN, .ref aC])), (aN, .inl (kN, 5, .inl (fun j => nI (cnt j)))), (aC, .inl (kC, 52035, .inl (upd cel cc (nI sd))))]) [0, 4, 5, 1, 2, 3] rfl
            have hD9 := hD.sub (ws' := [(aR, .inr (0, [.ref aT, .ref aS])), (aT, .inr (2, [.ref aB, .int (nI u), .int (nI en), .int (nI h_12), .int (nI h_2), .int 2, .int (nI h_2)])), (aB, .inl (kB, 65536, .inl B)), (aS, .inr (1, [.ref aN, .ref aC])), (aN, .inl (kN, 5, .inl (fun j => nI (cnt j)))), (aC, .inl (kC, 52035, .inl (upd cel cc (nI sd))))]) [0, 4, 5, 1, 2, 3] (by decide) rfl
            exact vx_out (fun x hx => (htab x hx).elim) hlocks hce hcv hcl (fun t ht hvm => ⟨(2, h_2, h_12, nI h_2, cnt, upd cel cc (nI sd)), by simp only [zTexture, zB_ok, hw_3, hw_15a, if_neg c_23], ⟨hEn, by rw [ht]; exact hP9, hD9⟩, hS.F ht⟩) hS.2.2 (by decide) (by decide)
          · exact (hw_26 : False).elim
      ·
        refine lv_iconst (v := 1) hx hb d_Rd_takeTexture_25 (by decide) ?_
        refine lv_goto (tgt := 30) hx hb d_Rd_takeTexture_26 (by decide) ?_
        refine lv_istore_n (lv' := [(3, .int 1), (2, .int (nI sd)), (0, .ref aR), (1, .int (nI cc))]) hx hb d_Rd_takeTexture_30 rfl hl (by decide) rfl (fun ls hl => ?_)
        refine lv_iload_n hx hb d_Rd_takeTexture_31 rfl (lv_at hl 0 rfl) ?_
        refine lv_if_ne (tgt := 50) hx hb d_Rd_takeTexture_32 (by decide) (fun c_30 => ?_) (fun c_30 => ?_)
        ·
          refine lv_aload_n hx hb d_Rd_takeTexture_50 rfl (lv_at hl 2 rfl) ?_
          refine lv_bipush (v := 44) hx hb d_Rd_takeTexture_51 (by decide) ?_
          refine va_ldcS (q := G.2.1 14) hx hb hown (hE.2.2.2.2.2.2.2 14 (by decide)).2 d_Rd_takeTexture_53 ?_
          have hPc := hP.sub (ws' := [(aR, .inr (0, [.ref aT, .ref aS])), (aT, .inr (2, [.ref aB, .int (nI u), .int (nI en), .int (nI h_12), .int (nI h_2), .int w, .int wa])), (aB, .inl (kB, 65536, .inl B)), (aS, .inr (1, [.ref aN, .ref aC])), (aN, .inl (kN, 5, .inl (fun j => nI (cnt j)))), (aC, .inl (kC, 52035, .inl (upd cel cc (nI sd))))]) [0, 1, 2, 3, 4, 5] rfl
          have hDc := hD.sub (ws' := [(aR, .inr (0, [.ref aT, .ref aS])), (aT, .inr (2, [.ref aB, .int (nI u), .int (nI en), .int (nI h_12), .int (nI h_2), .int w, .int wa])), (aB, .inl (kB, 65536, .inl B)), (aS, .inr (1, [.ref aN, .ref aC])), (aN, .inl (kN, 5, .inl (fun j => nI (cnt j)))), (aC, .inl (kC, 52035, .inl (upd cel cc (nI sd))))]) [0, 1, 2, 3, 4, 5] (by decide) rfl
          have hKc := hK.sub (tys' := [(kB, .byte), (kN, .int), (kC, .int)]) [0, 1, 2] rfl
          have hFc := va_free (wc := [(aR, .inr (0, [.ref aT, .ref aS])), (aT, .inr (2, [.ref aB, .int (nI u), .int (nI en), .int (nI h_12), .int (nI h_2), .int w, .int wa])), (aB, .inl (kB, 65536, .inl B)), (aS, .inr (1, [.ref aN, .ref aC])), (aN, .inl (kN, 5, .inl (fun j => nI (cnt j)))), (aC, .inl (kC, 52035, .inl (upd cel cc (nI sd))))]) hD hS hA [0, 1, 2, 3, 4, 5] rfl
          refine zt_size (fun hzs => ?_)
          refine vx_callv (vx_runV (As := [.int 44, .ref (G.2.1 14)]) (rest := []) ⟨hx, hb, hml, hown, hts⟩ (c_Rd_takeName l hst G dC dI H.size aR aT aS aB u en h_12 (nI h_2) w wa kB B aN aC kN cnt kC (upd cel cc (nI sd)) 44 14 (by omega) (by omega) (by decide) (zSb_len _)) (cwV 2 hts (gV tw_359 tw_361 ts_8 tw_2 tw_362 rfl) rfl rfl rfl (by decide +kernel) ⟨Nat.le_of_ble_eq_true rfl, Nat.le_of_ble_eq_true rfl⟩) (PW_preV hPc hKc hDc hE hS hFc (ci := 0) (q0 := 0) rfl rfl) rfl rfl hl.1 rfl (lv_room (Nat.le_of_ble_eq_true rfl)) d_Rd_takeTexture_55 ⟨Nat.le_of_ble_eq_true rfl, Nat.le_of_ble_eq_true rfl⟩) hS (fun q _ h => hFc q h) hFc (fun q _ h => hFc q h) (fun E9 ce9 q9 uu t H1 locs ht hvm hx_40 hB hz1 hk1 hS hce hcv hcl => ?_) (fun uu t H1 locs ht hvm hw_33 hB hz1 hk1 hS => ?_)
          ·
            obtain ⟨w_34, k_35, h_36, na_37, cnt_38, cel_39⟩ := uu
            obtain ⟨hEn, hP1, hD1⟩ := hB
            rw [ht] at hP1
            obtain ⟨hP, hD⟩ := va_join (wr := []) (w1 := [(aR, .inr (0, [.ref aT, .ref aS])), (aT, .inr (2, [.ref aB, .int (nI u), .int (nI en), .int (nI h_36), .int na_37, .int w_34, .int (nI k_35)])), (aB, .inl (kB, 65536, .inl B)), (aS, .inr (1, [.ref aN, .ref aC])), (aN, .inl (kN, 5, .inl (fun j => nI (cnt_38 j)))), (aC, .inl (kC, 52035, .inl cel_39))]) hP hD [0, 1, 2, 3, 4, 5] [] rfl rfl (by decide) (by decide) hk1 hFc hP1 hD1
            generalize H1 = H at hP hS hce ⊢
            have hP : va_P (dC, dI) vwCl [(aR, .inr (0, [.ref aT, .ref aS])), (aT, .inr (2, [.ref aB, .int (nI u), .int (nI en), .int (nI h_36), .int na_37, .int w_34, .int (nI k_35)])), (aB, .inl (kB, 65536, .inl B)), (aS, .inr (1, [.ref aN, .ref aC])), (aN, .inl (kN, 5, .inl (fun j => nI (cnt_38 j)))), (aC, .inl (kC, 52035, .inl cel_39))] H := hP
            have hD : va_D A [(aR, .inr (0, [.ref aT, .ref aS])), (aT, .inr (2, [.ref aB, .int (nI u), .int (nI en), .int (nI h_36), .int na_37, .int w_34, .int (nI k_35)])), (aB, .inl (kB, 65536, .inl B)), (aS, .inr (1, [.ref aN, .ref aC])), (aN, .inl (kN, 5, .inl (fun j => nI (cnt_38 j)))), (aC, .inl (kC, 52035, .inl cel_39))] := hD
            have hP9 := hP.sub (ws' := [(aR, .inr (0, [.ref aT, .ref aS])), (aT, .inr (2, [.ref aB, .int (nI u), .int (nI en), .int (nI h_36), .int na_37, .int w_34, .int (nI k_35)])), (aB, .inl (kB, 65536, .inl B)), (aS, .inr (1, [.ref aN, .ref aC])), (aN, .inl (kN, 5, .inl (fun j => nI (cnt_38 j)))), (aC, .inl (kC, 52035, .inl cel_39))]) [0, 1, 2, 3, 4, 5] rfl
            have hD9 := hD.sub (ws' := [(aR, .inr (0, [.ref aT, .ref aS])), (aT, .inr (2, [.ref aB, .int (nI u), .int (nI en), .int (nI h_36), .int na_37, .int w_34, .int (nI k_35)])), (aB, .inl (kB, 65536, .inl B)), (aS, .inr (1, [.ref aN, .ref aC])), (aN, .inl (kN, 5, .inl (fun j => nI (cnt_38 j)))), (aC, .inl (kC, 52035, .inl cel_39))]) [0, 1, 2, 3, 4, 5] (by decide) rfl
            exact vx_out (fun x hx => (htab x hx).elim) hlocks hce hcv hcl (fun t ht hvm => ⟨(w_34, k_35, h_36, na_37, cnt_38, cel_39), by simp only [zTexture, zListP, zNumP, zB_ok, zB_er, nI_clamp (show sd < 2 ^ 31 by omega), hw_3, hw_15a, hx_40, if_pos c_23], ⟨hEn, by rw [ht]; exact hP9, hD9⟩, hS.F ht⟩) hS.2.2 (by decide) (by decide)
          ·
            obtain ⟨h_32, rfl⟩ : ∃ z, z = uu := ⟨_, rfl⟩
            obtain ⟨hP1, hD1, hsz1⟩ := hB
            rw [ht] at hP1 hsz1
            obtain ⟨hP, hD⟩ := va_join (wr := []) (w1 := [(aR, .inr (0, [.ref aT, .ref aS])), (aT, .inr (2, [.ref aB, .int (nI u), .int (nI en), .int (nI h_32), .int (nI h_2), .int w, .int wa])), (aB, .inl (kB, 65536, .inl B)), (aS, .inr (1, [.ref aN, .ref aC])), (aN, .inl (kN, 5, .inl (fun j => nI (cnt j)))), (aC, .inl (kC, 52035, .inl (upd cel cc (nI sd))))]) hP hD [0, 1, 2, 3, 4, 5] [] rfl rfl (by decide) (by decide) hk1 hFc hP1 hD1
            refine zt_tight (hsz1.trans hzs) ?_
            generalize H1 = H at hP hS ⊢
            have hP : va_P (dC, dI) vwCl [(aR, .inr (0, [.ref aT, .ref aS])), (aT, .inr (2, [.ref aB, .int (nI u), .int (nI en), .int (nI h_32), .int (nI h_2), .int w, .int wa])), (aB, .inl (kB, 65536, .inl B)), (aS, .inr (1, [.ref aN, .ref aC])), (aN, .inl (kN, 5, .inl (fun j => nI (cnt j)))), (aC, .inl (kC, 52035, .inl (upd cel cc (nI sd))))] H := hP
            have hD : va_D A [(aR, .inr (0, [.ref aT, .ref aS])), (aT, .inr (2, [.ref aB, .int (nI u), .int (nI en), .int (nI h_32), .int (nI h_2), .int w, .int wa])), (aB, .inl (kB, 65536, .inl B)), (aS, .inr (1, [.ref aN, .ref aC])), (aN, .inl (kN, 5, .inl (fun j => nI (cnt j)))), (aC, .inl (kC, 52035, .inl (upd cel cc (nI sd))))] := hD
            have hw_33i := zName_in hw_33
            refine lv_aload_n hx hb d_Rd_takeTexture_58 rfl (lv_at hl 2 rfl) ?_
            refine lv_iload_n hx hb d_Rd_takeTexture_59 rfl (lv_at hl 3 rfl) ?_
            refine lv_iconst (v := 1) hx hb d_Rd_takeTexture_60 (by decide) ?_
            refine lv_iadd hx hb d_Rd_takeTexture_61 ?_
            refine zt_top (nI_add cc 1) ?_
            refine lv_iconst (v := 0) hx hb d_Rd_takeTexture_62 (by decide) ?_
            refine lv_iconst (v := 2) hx hb d_Rd_takeTexture_63 (by decide) ?_
            have hPc := hP.sub (ws' := [(aR, .inr (0, [.ref aT, .ref aS])), (aT, .inr (2, [.ref aB, .int (nI u), .int (nI en), .int (nI h_32), .int (nI h_2), .int w, .int wa])), (aB, .inl (kB, 65536, .inl B)), (aS, .inr (1, [.ref aN, .ref aC])), (aN, .inl (kN, 5, .inl (fun j => nI (cnt j)))), (aC, .inl (kC, 52035, .inl (upd cel cc (nI sd))))]) [0, 1, 2, 3, 4, 5] rfl
            have hDc := hD.sub (ws' := [(aR, .inr (0, [.ref aT, .ref aS])), (aT, .inr (2, [.ref aB, .int (nI u), .int (nI en), .int (nI h_32), .int (nI h_2), .int w, .int wa])), (aB, .inl (kB, 65536, .inl B)), (aS, .inr (1, [.ref aN, .ref aC])), (aN, .inl (kN, 5, .inl (fun j => nI (cnt j)))), (aC, .inl (kC, 52035, .inl (upd cel cc (nI sd))))]) [0, 1, 2, 3, 4, 5] (by decide) rfl
            have hKc := hK.sub (tys' := [(kB, .byte), (kN, .int), (kC, .int)]) [0, 1, 2] rfl
            have hFc := va_free (wc := [(aR, .inr (0, [.ref aT, .ref aS])), (aT, .inr (2, [.ref aB, .int (nI u), .int (nI en), .int (nI h_32), .int (nI h_2), .int w, .int wa])), (aB, .inl (kB, 65536, .inl B)), (aS, .inr (1, [.ref aN, .ref aC])), (aN, .inl (kN, 5, .inl (fun j => nI (cnt j)))), (aC, .inl (kC, 52035, .inl (upd cel cc (nI sd))))]) hD hS hA [0, 1, 2, 3, 4, 5] rfl
            refine zt_size (fun hzs => ?_)
            refine vx_calli (vx_runV (As := [.int (nI (cc + 1)), .int 0, .int 2]) (rest := []) ⟨hx, hb, hml, hown, hts⟩ (c_Rd_takeNumber l hst G dC dI H.size aR aT aS aB u en h_32 (nI h_2) w wa kB B aN aC kN cnt kC (upd cel cc (nI sd)) (cc + 1) 0 2 (by omega) (by omega) (by omega)) (cwV 3 hts (gV tw_387 tw_389 ts_10 tw_2 tw_390 rfl) rfl rfl rfl (by decide +kernel) ⟨Nat.le_of_ble_eq_true rfl, Nat.le_of_ble_eq_true rfl⟩) (PW_preV hPc hKc hDc hE hS hFc (ci := 0) (q0 := 0) rfl rfl) rfl rfl hl.1 rfl (lv_room (Nat.le_of_ble_eq_true rfl)) d_Rd_takeTexture_64 ⟨Nat.le_of_ble_eq_true rfl, Nat.le_of_ble_eq_true rfl⟩) hS (fun q _ h => hFc q h) hFc (fun q _ h => hFc q h) (fun E9 ce9 q9 uu t H1 locs ht hvm hx_52 hB hz1 hk1 hS hce hcv hcl => ?_) (fun r_41 uu t H1 locs ht hvm hw_45 hB hz1 hk1 hS => ?_)
            ·
              obtain ⟨w_46, k_47, h_48, na_49, cnt_50, cel_51⟩ := uu
              obtain ⟨hEn, hP1, hD1⟩ := hB
              rw [ht] at hP1
              obtain ⟨hP, hD⟩ := va_join (wr := []) (w1 := [(aR, .inr (0, [.ref aT, .ref aS])), (aT, .inr (2, [.ref aB, .int (nI u), .int (nI en), .int (nI h_48), .int na_49, .int w_46, .int (nI k_47)])), (aB, .inl (kB, 65536, .inl B)), (aS, .inr (1, [.ref aN, .ref aC])), (aN, .inl (kN, 5, .inl (fun j => nI (cnt_50 j)))), (aC, .inl (kC, 52035, .inl cel_51))]) hP hD [0, 1, 2, 3, 4, 5] [] rfl rfl (by decide) (by decide) hk1 hFc hP1 hD1
              generalize H1 = H at hP hS hce ⊢
              have hP : va_P (dC, dI) vwCl [(aR, .inr (0, [.ref aT, .ref aS])), (aT, .inr (2, [.ref aB, .int (nI u), .int (nI en), .int (nI h_48), .int na_49, .int w_46, .int (nI k_47)])), (aB, .inl (kB, 65536, .inl B)), (aS, .inr (1, [.ref aN, .ref aC])), (aN, .inl (kN, 5, .inl (fun j => nI (cnt_50 j)))), (aC, .inl (kC, 52035, .inl cel_51))] H := hP
              have hD : va_D A [(aR, .inr (0, [.ref aT, .ref aS])), (aT, .inr (2, [.ref aB, .int (nI u), .int (nI en), .int (nI h_48), .int na_49, .int w_46, .int (nI k_47)])), (aB, .inl (kB, 65536, .inl B)), (aS, .inr (1, [.ref aN, .ref aC])), (aN, .inl (kN, 5, .inl (fun j => nI (cnt_50 j)))), (aC, .inl (kC, 52035, .inl cel_51))] := hD
              have hP9 := hP.sub (ws' := [(aR, .inr (0, [.ref aT, .ref aS])), (aT, .inr (2, [.ref aB, .int (nI u), .int (nI en), .int (nI h_48), .int na_49, .int w_46, .int (nI k_47)])), (aB, .inl (kB, 65536, .inl B)), (aS, .inr (1, [.ref aN, .ref aC])), (aN, .inl (kN, 5, .inl (fun j => nI (cnt_50 j)))), (aC, .inl (kC, 52035, .inl cel_51))]) [0, 1, 2, 3, 4, 5] rfl
              have hD9 := hD.sub (ws' := [(aR, .inr (0, [.ref aT, .ref aS])), (aT, .inr (2, [.ref aB, .int (nI u), .int (nI en), .int (nI h_48), .int na_49, .int w_46, .int (nI k_47)])), (aB, .inl (kB, 65536, .inl B)), (aS, .inr (1, [.ref aN, .ref aC])), (aN, .inl (kN, 5, .inl (fun j => nI (cnt_50 j)))), (aC, .inl (kC, 52035, .inl cel_51))]) [0, 1, 2, 3, 4, 5] (by decide) rfl
              exact vx_out (fun x hx => (htab x hx).elim) hlocks hce hcv hcl (fun t ht hvm => ⟨(w_46, k_47, h_48, na_49, cnt_50, cel_51), by simp only [zTexture, zListP, zNumP, zB_ok, zB_er, nI_clamp (show sd < 2 ^ 31 by omega), hw_3, hw_15a, hw_33, hx_52, if_pos c_23], ⟨hEn, by rw [ht]; exact hP9, hD9⟩, hS.F ht⟩) hS.2.2 (by decide) (by decide)
            ·
              obtain ⟨h_42, na_43, cel_44⟩ := uu
              obtain ⟨hP1, hD1, hsz1⟩ := hB
              rw [ht] at hP1 hsz1
              obtain ⟨hP, hD⟩ := va_join (wr := []) (w1 := [(aR, .inr (0, [.ref aT, .ref aS])), (aT, .inr (2, [.ref aB, .int (nI u), .int (nI en), .int (nI h_42), .int na_43, .int w, .int wa])), (aB, .inl (kB, 65536, .inl B)), (aS, .inr (1, [.ref aN, .ref aC])), (aN, .inl (kN, 5, .inl (fun j => nI (cnt j)))), (aC, .inl (kC, 52035, .inl cel_44))]) hP hD [0, 1, 2, 3, 4, 5] [] rfl rfl (by decide) (by decide) hk1 hFc hP1 hD1
              refine zt_tight (hsz1.trans hzs) ?_
              generalize H1 = H at hP hS ⊢
              have hP : va_P (dC, dI) vwCl [(aR, .inr (0, [.ref aT, .ref aS])), (aT, .inr (2, [.ref aB, .int (nI u), .int (nI en), .int (nI h_42), .int na_43, .int w, .int wa])), (aB, .inl (kB, 65536, .inl B)), (aS, .inr (1, [.ref aN, .ref aC])), (aN, .inl (kN, 5, .inl (fun j => nI (cnt j)))), (aC, .inl (kC, 52035, .inl cel_44))] H := hP
              have hD : va_D A [(aR, .inr (0, [.ref aT, .ref aS])), (aT, .inr (2, [.ref aB, .int (nI u), .int (nI en), .int (nI h_42), .int na_43, .int w, .int wa])), (aB, .inl (kB, 65536, .inl B)), (aS, .inr (1, [.ref aN, .ref aC])), (aN, .inl (kN, 5, .inl (fun j => nI (cnt j)))), (aC, .inl (kC, 52035, .inl cel_44))] := hD
              obtain ⟨hw_45a, rfl, rfl⟩ := hw_45
              have hw_45i := zRNum_in (by omega) hw_45a
              refine lv_pop hx hb d_Rd_takeTexture_67 rfl ?_
              refine lv_aload_n hx hb d_Rd_takeTexture_68 rfl (lv_at hl 2 rfl) ?_
              refine lv_bipush (v := 44) hx hb d_Rd_takeTexture_69 (by decide) ?_
              refine va_ldcS (q := G.2.1 15) hx hb hown (hE.2.2.2.2.2.2.2 15 (by decide)).2 d_Rd_takeTexture_71 ?_
              have hPc := hP.sub (ws' := [(aR, .inr (0, [.ref aT, .ref aS])), (aT, .inr (2, [.ref aB, .int (nI u), .int (nI en), .int (nI h_42), .int (nI h_32), .int w, .int wa])), (aB, .inl (kB, 65536, .inl B)), (aS, .inr (1, [.ref aN, .ref aC])), (aN, .inl (kN, 5, .inl (fun j => nI (cnt j)))), (aC, .inl (kC, 52035, .inl (upd (upd cel cc (nI sd)) (cc + 1) r_41)))]) [0, 1, 2, 3, 4, 5] rfl
              have hDc := hD.sub (ws' := [(aR, .inr (0, [.ref aT, .ref aS])), (aT, .inr (2, [.ref aB, .int (nI u), .int (nI en), .int (nI h_42), .int (nI h_32), .int w, .int wa])), (aB, .inl (kB, 65536, .inl B)), (aS, .inr (1, [.ref aN, .ref aC])), (aN, .inl (kN, 5, .inl (fun j => nI (cnt j)))), (aC, .inl (kC, 52035, .inl (upd (upd cel cc (nI sd)) (cc + 1) r_41)))]) [0, 1, 2, 3, 4, 5] (by decide) rfl
              have hKc := hK.sub (tys' := [(kB, .byte), (kN, .int), (kC, .int)]) [0, 1, 2] rfl
              have hFc := va_free (wc := [(aR, .inr (0, [.ref aT, .ref aS])), (aT, .inr (2, [.ref aB, .int (nI u), .int (nI en), .int (nI h_42), .int (nI h_32), .int w, .int wa])), (aB, .inl (kB, 65536, .inl B)), (aS, .inr (1, [.ref aN, .ref aC])), (aN, .inl (kN, 5, .inl (fun j => nI (cnt j)))), (aC, .inl (kC, 52035, .inl (upd (upd cel cc (nI sd)) (cc + 1) r_41)))]) hD hS hA [0, 1, 2, 3, 4, 5] rfl
              refine zt_size (fun hzs => ?_)
              refine vx_callv (vx_runV (As := [.int 44, .ref (G.2.1 15)]) (rest := []) ⟨hx, hb, hml, hown, hts⟩ (c_Rd_takeName l hst G dC dI H.size aR aT aS aB u en h_42 (nI h_32) w wa kB B aN aC kN cnt kC (upd (upd cel cc (nI sd)) (cc + 1) r_41) 44 15 (by omega) (by omega) (by decide) (zSb_len _)) (cwV 2 hts (gV tw_359 tw_361 ts_8 tw_2 tw_362 rfl) rfl rfl rfl (by decide +kernel) ⟨Nat.le_of_ble_eq_true rfl, Nat.le_of_ble_eq_true rfl⟩) (PW_preV hPc hKc hDc hE hS hFc (ci := 0) (q0 := 0) rfl rfl) rfl rfl hl.1 rfl (lv_room (Nat.le_of_ble_eq_true rfl)) d_Rd_takeTexture_73 ⟨Nat.le_of_ble_eq_true rfl, Nat.le_of_ble_eq_true rfl⟩) hS (fun q _ h => hFc q h) hFc (fun q _ h => hFc q h) (fun E9 ce9 q9 uu t H1 locs ht hvm hx_62 hB hz1 hk1 hS hce hcv hcl => ?_) (fun uu t H1 locs ht hvm hw_55 hB hz1 hk1 hS => ?_)
              ·
                obtain ⟨w_56, k_57, h_58, na_59, cnt_60, cel_61⟩ := uu
                obtain ⟨hEn, hP1, hD1⟩ := hB
                rw [ht] at hP1
                obtain ⟨hP, hD⟩ := va_join (wr := []) (w1 := [(aR, .inr (0, [.ref aT, .ref aS])), (aT, .inr (2, [.ref aB, .int (nI u), .int (nI en), .int (nI h_58), .int na_59, .int w_56, .int (nI k_57)])), (aB, .inl (kB, 65536, .inl B)), (aS, .inr (1, [.ref aN, .ref aC])), (aN, .inl (kN, 5, .inl (fun j => nI (cnt_60 j)))), (aC, .inl (kC, 52035, .inl cel_61))]) hP hD [0, 1, 2, 3, 4, 5] [] rfl rfl (by decide) (by decide) hk1 hFc hP1 hD1
                generalize H1 = H at hP hS hce ⊢
                have hP : va_P (dC, dI) vwCl [(aR, .inr (0, [.ref aT, .ref aS])), (aT, .inr (2, [.ref aB, .int (nI u), .int (nI en), .int (nI h_58), .int na_59, .int w_56, .int (nI k_57)])), (aB, .inl (kB, 65536, .inl B)), (aS, .inr (1, [.ref aN, .ref aC])), (aN, .inl (kN, 5, .inl (fun j => nI (cnt_60 j)))), (aC, .inl (kC, 52035, .inl cel_61))] H := hP
                have hD : va_D A [(aR, .inr (0, [.ref aT, .ref aS])), (aT, .inr (2, [.ref aB, .int (nI u), .int (nI en), .int (nI h_58), .int na_59, .int w_56, .int (nI k_57)])), (aB, .inl (kB, 65536, .inl B)), (aS, .inr (1, [.ref aN, .ref aC])), (aN, .inl (kN, 5, .inl (fun j => nI (cnt_60 j)))), (aC, .inl (kC, 52035, .inl cel_61))] := hD
                have hP9 := hP.sub (ws' := [(aR, .inr (0, [.ref aT, .ref aS])), (aT, .inr (2, [.ref aB, .int (nI u), .int (nI en), .int (nI h_58), .int na_59, .int w_56, .int (nI k_57)])), (aB, .inl (kB, 65536, .inl B)), (aS, .inr (1, [.ref aN, .ref aC])), (aN, .inl (kN, 5, .inl (fun j => nI (cnt_60 j)))), (aC, .inl (kC, 52035, .inl cel_61))]) [0, 1, 2, 3, 4, 5] rfl
                have hD9 := hD.sub (ws' := [(aR, .inr (0, [.ref aT, .ref aS])), (aT, .inr (2, [.ref aB, .int (nI u), .int (nI en), .int (nI h_58), .int na_59, .int w_56, .int (nI k_57)])), (aB, .inl (kB, 65536, .inl B)), (aS, .inr (1, [.ref aN, .ref aC])), (aN, .inl (kN, 5, .inl (fun j => nI (cnt_60 j)))), (aC, .inl (kC, 52035, .inl cel_61))]) [0, 1, 2, 3, 4, 5] (by decide) rfl
                exact vx_out (fun x hx => (htab x hx).elim) hlocks hce hcv hcl (fun t ht hvm => ⟨(w_56, k_57, h_58, na_59, cnt_60, cel_61), by simp only [zTexture, zListP, zNumP, zB_ok, zB_er, nI_clamp (show sd < 2 ^ 31 by omega), hw_3, hw_15a, hw_33, hw_45a, hx_62, if_pos c_23], ⟨hEn, by rw [ht]; exact hP9, hD9⟩, hS.F ht⟩) hS.2.2 (by decide) (by decide)
              ·
                obtain ⟨h_54, rfl⟩ : ∃ z, z = uu := ⟨_, rfl⟩
                obtain ⟨hP1, hD1, hsz1⟩ := hB
                rw [ht] at hP1 hsz1
                obtain ⟨hP, hD⟩ := va_join (wr := []) (w1 := [(aR, .inr (0, [.ref aT, .ref aS])), (aT, .inr (2, [.ref aB, .int (nI u), .int (nI en), .int (nI h_54), .int (nI h_32), .int w, .int wa])), (aB, .inl (kB, 65536, .inl B)), (aS, .inr (1, [.ref aN, .ref aC])), (aN, .inl (kN, 5, .inl (fun j => nI (cnt j)))), (aC, .inl (kC, 52035, .inl (upd (upd cel cc (nI sd)) (cc + 1) r_41)))]) hP hD [0, 1, 2, 3, 4, 5] [] rfl rfl (by decide) (by decide) hk1 hFc hP1 hD1
                refine zt_tight (hsz1.trans hzs) ?_
                generalize H1 = H at hP hS ⊢
                have hP : va_P (dC, dI) vwCl [(aR, .inr (0, [.ref aT, .ref aS])), (aT, .inr (2, [.ref aB, .int (nI u), .int (nI en), .int (nI h_54), .int (nI h_32), .int w, .int wa])), (aB, .inl (kB, 65536, .inl B)), (aS, .inr (1, [.ref aN, .ref aC])), (aN, .inl (kN, 5, .inl (fun j => nI (cnt j)))), (aC, .inl (kC, 52035, .inl (upd (upd cel cc (nI sd)) (cc + 1) r_41)))] H := hP
                have hD : va_D A [(aR, .inr (0, [.ref aT, .ref aS])), (aT, .inr (2, [.ref aB, .int (nI u), .int (nI en), .int (nI h_54), .int (nI h_32), .int w, .int wa])), (aB, .inl (kB, 65536, .inl B)), (aS, .inr (1, [.ref aN, .ref aC])), (aN, .inl (kN, 5, .inl (fun j => nI (cnt j)))), (aC, .inl (kC, 52035, .inl (upd (upd cel cc (nI sd)) (cc + 1) r_41)))] := hD
                have hw_55i := zName_in hw_55
                refine lv_aload_n hx hb d_Rd_takeTexture_76 rfl (lv_at hl 2 rfl) ?_
                refine lv_iload_n hx hb d_Rd_takeTexture_77 rfl (lv_at hl 3 rfl) ?_
                refine lv_iconst (v := 2) hx hb d_Rd_takeTexture_78 (by decide) ?_
                refine lv_iadd hx hb d_Rd_takeTexture_79 ?_
                refine zt_top (nI_add cc 2) ?_
                refine lv_iconst (v := 0) hx hb d_Rd_takeTexture_80 (by decide) ?_
                refine lv_iconst (v := 1) hx hb d_Rd_takeTexture_81 (by decide) ?_
                have hPc := hP.sub (ws' := [(aR, .inr (0, [.ref aT, .ref aS])), (aT, .inr (2, [.ref aB, .int (nI u), .int (nI en), .int (nI h_54), .int (nI h_32), .int w, .int wa])), (aB, .inl (kB, 65536, .inl B)), (aS, .inr (1, [.ref aN, .ref aC])), (aN, .inl (kN, 5, .inl (fun j => nI (cnt j)))), (aC, .inl (kC, 52035, .inl (upd (upd cel cc (nI sd)) (cc + 1) r_41)))]) [0, 1, 2, 3, 4, 5] rfl
                have hDc := hD.sub (ws' := [(aR, .inr (0, [.ref aT, .ref aS])), (aT, .inr (2, [.ref aB, .int (nI u), .int (nI en), .int (nI h_54), .int (nI h_32), .int w, .int wa])), (aB, .inl (kB, 65536, .inl B)), (aS, .inr (1, [.ref aN, .ref aC])), (aN, .inl (kN, 5, .inl (fun j => nI (cnt j)))), (aC, .inl (kC, 52035, .inl (upd (upd cel cc (nI sd)) (cc + 1) r_41)))]) [0, 1, 2, 3, 4, 5] (by decide) rfl
                have hKc := hK.sub (tys' := [(kB, .byte), (kN, .int), (kC, .int)]) [0, 1, 2] rfl
                have hFc := va_free (wc := [(aR, .inr (0, [.ref aT, .ref aS])), (aT, .inr (2, [.ref aB, .int (nI u), .int (nI en), .int (nI h_54), .int (nI h_32), .int w, .int wa])), (aB, .inl (kB, 65536, .inl B)), (aS, .inr (1, [.ref aN, .ref aC])), (aN, .inl (kN, 5, .inl (fun j => nI (cnt j)))), (aC, .inl (kC, 52035, .inl (upd (upd cel cc (nI sd)) (cc + 1) r_41)))]) hD hS hA [0, 1, 2, 3, 4, 5] rfl
                refine zt_size (fun hzs => ?_)
                refine vx_calli (vx_runV (As := [.int (nI (cc + 2)), .int 0, .int 1]) (rest := []) ⟨hx, hb, hml, hown, hts⟩ (c_Rd_takeNumber l hst G dC dI H.size aR aT aS aB u en h_54 (nI h_32) w wa kB B aN aC kN cnt kC (upd (upd cel cc (nI sd)) (cc + 1) r_41) (cc + 2) 0 1 (by omega) (by omega) (by omega)) (cwV 3 hts (gV tw_387 tw_389 ts_10 tw_2 tw_390 rfl) rfl rfl rfl (by decide +kernel) ⟨Nat.le_of_ble_eq_true rfl, Nat.le_of_ble_eq_true rfl⟩) (PW_preV hPc hKc hDc hE hS hFc (ci := 0) (q0 := 0) rfl rfl) rfl rfl hl.1 rfl (lv_room (Nat.le_of_ble_eq_true rfl)) d_Rd_takeTexture_82 ⟨Nat.le_of_ble_eq_true rfl, Nat.le_of_ble_eq_true rfl⟩) hS (fun q _ h => hFc q h) hFc (fun q _ h => hFc q h) (fun E9 ce9 q9 uu t H1 locs ht hvm hx_74 hB hz1 hk1 hS hce hcv hcl => ?_) (fun r_63 uu t H1 locs ht hvm hw_67 hB hz1 hk1 hS => ?_)
                ·
                  obtain ⟨w_68, k_69, h_70, na_71, cnt_72, cel_73⟩ := uu
                  obtain ⟨hEn, hP1, hD1⟩ := hB
                  rw [ht] at hP1
                  obtain ⟨hP, hD⟩ := va_join (wr := []) (w1 := [(aR, .inr (0, [.ref aT, .ref aS])), (aT, .inr (2, [.ref aB, .int (nI u), .int (nI en), .int (nI h_70), .int na_71, .int w_68, .int (nI k_69)])), (aB, .inl (kB, 65536, .inl B)), (aS, .inr (1, [.ref aN, .ref aC])), (aN, .inl (kN, 5, .inl (fun j => nI (cnt_72 j)))), (aC, .inl (kC, 52035, .inl cel_73))]) hP hD [0, 1, 2, 3, 4, 5] [] rfl rfl (by decide) (by decide) hk1 hFc hP1 hD1
                  generalize H1 = H at hP hS hce ⊢
                  have hP : va_P (dC, dI) vwCl [(aR, .inr (0, [.ref aT, .ref aS])), (aT, .inr (2, [.ref aB, .int (nI u), .int (nI en), .int (nI h_70), .int na_71, .int w_68, .int (nI k_69)])), (aB, .inl (kB, 65536, .inl B)), (aS, .inr (1, [.ref aN, .ref aC])), (aN, .inl (kN, 5, .inl (fun j => nI (cnt_72 j)))), (aC, .inl (kC, 52035, .inl cel_73))] H := hP
                  have hD : va_D A [(aR, .inr (0, [.ref aT, .ref aS])), (aT, .inr (2, [.ref aB, .int (nI u), .int (nI en), .int (nI h_70), .int na_71, .int w_68, .int (nI k_69)])), (aB, .inl (kB, 65536, .inl B)), (aS, .inr (1, [.ref aN, .ref aC])), (aN, .inl (kN, 5, .inl (fun j => nI (cnt_72 j)))), (aC, .inl (kC, 52035, .inl cel_73))] := hD
                  have hP9 := hP.sub (ws' := [(aR, .inr (0, [.ref aT, .ref aS])), (aT, .inr (2, [.ref aB, .int (nI u), .int (nI en), .int (nI h_70), .int na_71, .int w_68, .int (nI k_69)])), (aB, .inl (kB, 65536, .inl B)), (aS, .inr (1, [.ref aN, .ref aC])), (aN, .inl (kN, 5, .inl (fun j => nI (cnt_72 j)))), (aC, .inl (kC, 52035, .inl cel_73))]) [0, 1, 2, 3, 4, 5] rfl
                  have hD9 := hD.sub (ws' := [(aR, .inr (0, [.ref aT, .ref aS])), (aT, .inr (2, [.ref aB, .int (nI u), .int (nI en), .int (nI h_70), .int na_71, .int w_68, .int (nI k_69)])), (aB, .inl (kB, 65536, .inl B)), (aS, .inr (1, [.ref aN, .ref aC])), (aN, .inl (kN, 5, .inl (fun j => nI (cnt_72 j)))), (aC, .inl (kC, 52035, .inl cel_73))]) [0, 1, 2, 3, 4, 5] (by decide) rfl
                  exact vx_out (fun x hx => (htab x hx).elim) hlocks hce hcv hcl (fun t ht hvm => ⟨(w_68, k_69, h_70, na_71, cnt_72, cel_73), by simp only [zTexture, zListP, zNumP, zB_ok, zB_er, nI_clamp (show sd < 2 ^ 31 by omega), hw_3, hw_15a, hw_33, hw_45a, hw_55, hx_74, if_pos c_23], ⟨hEn, by rw [ht]; exact hP9, hD9⟩, hS.F ht⟩) hS.2.2 (by decide) (by decide)
                ·
                  obtain ⟨h_64, na_65, cel_66⟩ := uu
                  obtain ⟨hP1, hD1, hsz1⟩ := hB
                  rw [ht] at hP1 hsz1
                  obtain ⟨hP, hD⟩ := va_join (wr := []) (w1 := [(aR, .inr (0, [.ref aT, .ref aS])), (aT, .inr (2, [.ref aB, .int (nI u), .int (nI en), .int (nI h_64), .int na_65, .int w, .int wa])), (aB, .inl (kB, 65536, .inl B)), (aS, .inr (1, [.ref aN, .ref aC])), (aN, .inl (kN, 5, .inl (fun j => nI (cnt j)))), (aC, .inl (kC, 52035, .inl cel_66))]) hP hD [0, 1, 2, 3, 4, 5] [] rfl rfl (by decide) (by decide) hk1 hFc hP1 hD1
                  refine zt_tight (hsz1.trans hzs) ?_
                  generalize H1 = H at hP hS ⊢
                  have hP : va_P (dC, dI) vwCl [(aR, .inr (0, [.ref aT, .ref aS])), (aT, .inr (2, [.ref aB, .int (nI u), .int (nI en), .int (nI h_64), .int na_65, .int w, .int wa])), (aB, .inl (kB, 65536, .inl B)), (aS, .inr (1, [.ref aN, .ref aC])), (aN, .inl (kN, 5, .inl (fun j => nI (cnt j)))), (aC, .inl (kC, 52035, .inl cel_66))] H := hP
                  have hD : va_D A [(aR, .inr (0, [.ref aT, .ref aS])), (aT, .inr (2, [.ref aB, .int (nI u), .int (nI en), .int (nI h_64), .int na_65, .int w, .int wa])), (aB, .inl (kB, 65536, .inl B)), (aS, .inr (1, [.ref aN, .ref aC])), (aN, .inl (kN, 5, .inl (fun j => nI (cnt j)))), (aC, .inl (kC, 52035, .inl cel_66))] := hD
                  obtain ⟨hw_67a, rfl, rfl⟩ := hw_67
                  have hw_67i := zRNum_in (by omega) hw_67a
                  refine lv_pop hx hb d_Rd_takeTexture_85 rfl ?_
                  refine lv_aload_n hx hb d_Rd_takeTexture_86 rfl (lv_at hl 2 rfl) ?_
                  refine lv_bipush (v := 44) hx hb d_Rd_takeTexture_87 (by decide) ?_
                  refine va_ldcS (q := G.2.1 16) hx hb hown (hE.2.2.2.2.2.2.2 16 (by decide)).2 d_Rd_takeTexture_89 ?_
                  have hPc := hP.sub (ws' := [(aR, .inr (0, [.ref aT, .ref aS])), (aT, .inr (2, [.ref aB, .int (nI u), .int (nI en), .int (nI h_64), .int (nI h_54), .int w, .int wa])), (aB, .inl (kB, 65536, .inl B)), (aS, .inr (1, [.ref aN, .ref aC])), (aN, .inl (kN, 5, .inl (fun j => nI (cnt j)))), (aC, .inl (kC, 52035, .inl (upd (upd (upd cel cc (nI sd)) (cc + 1) r_41) (cc + 2) r_63)))]) [0, 1, 2, 3, 4, 5] rfl
                  have hDc := hD.sub (ws' := [(aR, .inr (0, [.ref aT, .ref aS])), (aT, .inr (2, [.ref aB, .int (nI u), .int (nI en), .int (nI h_64), .int (nI h_54), .int w, .int wa])), (aB, .inl (kB, 65536, .inl B)), (aS, .inr (1, [.ref aN, .ref aC])), (aN, .inl (kN, 5, .inl (fun j => nI (cnt j)))), (aC, .inl (kC, 52035, .inl (upd (upd (upd cel cc (nI sd)) (cc + 1) r_41) (cc + 2) r_63)))]) [0, 1, 2, 3, 4, 5] (by decide) rfl
                  have hKc := hK.sub (tys' := [(kB, .byte), (kN, .int), (kC, .int)]) [0, 1, 2] rfl
                  have hFc := va_free (wc := [(aR, .inr (0, [.ref aT, .ref aS])), (aT, .inr (2, [.ref aB, .int (nI u), .int (nI en), .int (nI h_64), .int (nI h_54), .int w, .int wa])), (aB, .inl (kB, 65536, .inl B)), (aS, .inr (1, [.ref aN, .ref aC])), (aN, .inl (kN, 5, .inl (fun j => nI (cnt j)))), (aC, .inl (kC, 52035, .inl (upd (upd (upd cel cc (nI sd)) (cc + 1) r_41) (cc + 2) r_63)))]) hD hS hA [0, 1, 2, 3, 4, 5] rfl
                  refine zt_size (fun hzs => ?_)
                  refine vx_callv (vx_runV (As := [.int 44, .ref (G.2.1 16)]) (rest := []) ⟨hx, hb, hml, hown, hts⟩ (c_Rd_takeName l hst G dC dI H.size aR aT aS aB u en h_64 (nI h_54) w wa kB B aN aC kN cnt kC (upd (upd (upd cel cc (nI sd)) (cc + 1) r_41) (cc + 2) r_63) 44 16 (by omega) (by omega) (by decide) (zSb_len _)) (cwV 2 hts (gV tw_359 tw_361 ts_8 tw_2 tw_362 rfl) rfl rfl rfl (by decide +kernel) ⟨Nat.le_of_ble_eq_true rfl, Nat.le_of_ble_eq_true rfl⟩) (PW_preV hPc hKc hDc hE hS hFc (ci := 0) (q0 := 0) rfl rfl) rfl rfl hl.1 rfl (lv_room (Nat.le_of_ble_eq_true rfl)) d_Rd_takeTexture_91 ⟨Nat.le_of_ble_eq_true rfl, Nat.le_of_ble_eq_true rfl⟩) hS (fun q _ h => hFc q h) hFc (fun q _ h => hFc q h) (fun E9 ce9 q9 uu t H1 locs ht hvm hx_84 hB hz1 hk1 hS hce hcv hcl => ?_) (fun uu t H1 locs ht hvm hw_77 hB hz1 hk1 hS => ?_)
                  ·
                    obtain ⟨w_78, k_79, h_80, na_81, cnt_82, cel_83⟩ := uu
                    obtain ⟨hEn, hP1, hD1⟩ := hB
                    rw [ht] at hP1
                    obtain ⟨hP, hD⟩ := va_join (wr := []) (w1 := [(aR, .inr (0, [.ref aT, .ref aS])), (aT, .inr (2, [.ref aB, .int (nI u), .int (nI en), .int (nI h_80), .int na_81, .int w_78, .int (nI k_79)])), (aB, .inl (kB, 65536, .inl B)), (aS, .inr (1, [.ref aN, .ref aC])), (aN, .inl (kN, 5, .inl (fun j => nI (cnt_82 j)))), (aC, .inl (kC, 52035, .inl cel_83))]) hP hD [0, 1, 2, 3, 4, 5] [] rfl rfl (by decide) (by decide) hk1 hFc hP1 hD1
                    generalize H1 = H at hP hS hce ⊢
                    have hP : va_P (dC, dI) vwCl [(aR, .inr (0, [.ref aT, .ref aS])), (aT, .inr (2, [.ref aB, .int (nI u), .int (nI en), .int (nI h_80), .int na_81, .int w_78, .int (nI k_79)])), (aB, .inl (kB, 65536, .inl B)), (aS, .inr (1, [.ref aN, .ref aC])), (aN, .inl (kN, 5, .inl (fun j => nI (cnt_82 j)))), (aC, .inl (kC, 52035, .inl cel_83))] H := hP
                    have hD : va_D A [(aR, .inr (0, [.ref aT, .ref aS])), (aT, .inr (2, [.ref aB, .int (nI u), .int (nI en), .int (nI h_80), .int na_81, .int w_78, .int (nI k_79)])), (aB, .inl (kB, 65536, .inl B)), (aS, .inr (1, [.ref aN, .ref aC])), (aN, .inl (kN, 5, .inl (fun j => nI (cnt_82 j)))), (aC, .inl (kC, 52035, .inl cel_83))] := hD
                    have hP9 := hP.sub (ws' := [(aR, .inr (0, [.ref aT, .ref aS])), (aT, .inr (2, [.ref aB, .int (nI u), .int (nI en), .int (nI h_80), .int na_81, .int w_78, .int (nI k_79)])), (aB, .inl (kB, 65536, .inl B)), (aS, .inr (1, [.ref aN, .ref aC])), (aN, .inl (kN, 5, .inl (fun j => nI (cnt_82 j)))), (aC, .inl (kC, 52035, .inl cel_83))]) [0, 1, 2, 3, 4, 5] rfl
                    have hD9 := hD.sub (ws' := [(aR, .inr (0, [.ref aT, .ref aS])), (aT, .inr (2, [.ref aB, .int (nI u), .int (nI en), .int (nI h_80), .int na_81, .int w_78, .int (nI k_79)])), (aB, .inl (kB, 65536, .inl B)), (aS, .inr (1, [.ref aN, .ref aC])), (aN, .inl (kN, 5, .inl (fun j => nI (cnt_82 j)))), (aC, .inl (kC, 52035, .inl cel_83))]) [0, 1, 2, 3, 4, 5] (by decide) rfl
                    exact vx_out (fun x hx => (htab x hx).elim) hlocks hce hcv hcl (fun t ht hvm => ⟨(w_78, k_79, h_80, na_81, cnt_82, cel_83), by simp only [zTexture, zListP, zNumP, zB_ok, zB_er, nI_clamp (show sd < 2 ^ 31 by omega), hw_3, hw_15a, hw_33, hw_45a, hw_55, hw_67a, hx_84, if_pos c_23], ⟨hEn, by rw [ht]; exact hP9, hD9⟩, hS.F ht⟩) hS.2.2 (by decide) (by decide)
                  ·
                    obtain ⟨h_76, rfl⟩ : ∃ z, z = uu := ⟨_, rfl⟩
                    obtain ⟨hP1, hD1, hsz1⟩ := hB
                    rw [ht] at hP1 hsz1
                    obtain ⟨hP, hD⟩ := va_join (wr := []) (w1 := [(aR, .inr (0, [.ref aT, .ref aS])), (aT, .inr (2, [.ref aB, .int (nI u), .int (nI en), .int (nI h_76), .int (nI h_54), .int w, .int wa])), (aB, .inl (kB, 65536, .inl B)), (aS, .inr (1, [.ref aN, .ref aC])), (aN, .inl (kN, 5, .inl (fun j => nI (cnt j)))), (aC, .inl (kC, 52035, .inl (upd (upd (upd cel cc (nI sd)) (cc + 1) r_41) (cc + 2) r_63)))]) hP hD [0, 1, 2, 3, 4, 5] [] rfl rfl (by decide) (by decide) hk1 hFc hP1 hD1
                    refine zt_tight (hsz1.trans hzs) ?_
                    generalize H1 = H at hP hS ⊢
                    have hP : va_P (dC, dI) vwCl [(aR, .inr (0, [.ref aT, .ref aS])), (aT, .inr (2, [.ref aB, .int (nI u), .int (nI en), .int (nI h_76), .int (nI h_54), .int w, .int wa])), (aB, .inl (kB, 65536, .inl B)), (aS, .inr (1, [.ref aN, .ref aC])), (aN, .inl (kN, 5, .inl (fun j => nI (cnt j)))), (aC, .inl (kC, 52035, .inl (upd (upd (upd cel cc (nI sd)) (cc + 1) r_41) (cc + 2) r_63)))] H := hP
                    have hD : va_D A [(aR, .inr (0, [.ref aT, .ref aS])), (aT, .inr (2, [.ref aB, .int (nI u), .int (nI en), .int (nI h_76), .int (nI h_54), .int w, .int wa])), (aB, .inl (kB, 65536, .inl B)), (aS, .inr (1, [.ref aN, .ref aC])), (aN, .inl (kN, 5, .inl (fun j => nI (cnt j)))), (aC, .inl (kC, 52035, .inl (upd (upd (upd cel cc (nI sd)) (cc + 1) r_41) (cc + 2) r_63)))] := hD
                    have hw_77i := zName_in hw_77
                    refine lv_iconst (v := 3) hx hb d_Rd_takeTexture_94 (by decide) ?_
                    refine lv_iload_n hx hb d_Rd_takeTexture_95 rfl (lv_at hl 1 rfl) ?_
                    refine lv_imul hx hb d_Rd_takeTexture_96 ?_
                    refine zt_top (pk_mul 3 sd) ?_
                    refine lv_iload_n hx hb d_Rd_takeTexture_97 rfl (lv_at hl 1 rfl) ?_
                    refine lv_imul hx hb d_Rd_takeTexture_98 ?_
                    refine zt_top (pk_mul (3 * sd) sd) ?_
                    refine lv_istore (lv' := [(4, .int (nI ((3 * sd) * sd))), (3, .int 1), (2, .int (nI sd)), (0, .ref aR), (1, .int (nI cc))]) hx hb d_Rd_takeTexture_99 hl (by decide) rfl (fun ls hl => ?_)
                    refine lv_aload_n hx hb d_Rd_takeTexture_101 rfl (lv_at hl 3 rfl) ?_
                    refine lv_iconst (v := 0) hx hb d_Rd_takeTexture_102 (by decide) ?_
                    refine lv_iload hx hb d_Rd_takeTexture_103 (lv_at hl 0 rfl) ?_
                    refine lv_iload hx hb d_Rd_takeTexture_105 (lv_at hl 0 rfl) ?_
                    refine lv_iload_n hx hb d_Rd_takeTexture_107 rfl (lv_at hl 4 rfl) ?_
                    refine lv_iconst (v := 3) hx hb d_Rd_takeTexture_108 (by decide) ?_
                    refine lv_iadd hx hb d_Rd_takeTexture_109 ?_
                    refine zt_top (nI_add cc 3) ?_
                    refine lv_iconst (v := 0) hx hb d_Rd_takeTexture_110 (by decide) ?_
                    refine lv_sipush (v := 255) hx hb d_Rd_takeTexture_111 (by decide) ?_
                    have hPc := hP.sub (ws' := [(aR, .inr (0, [.ref aT, .ref aS])), (aT, .inr (2, [.ref aB, .int (nI u), .int (nI en), .int (nI h_76), .int (nI h_54), .int w, .int wa])), (aB, .inl (kB, 65536, .inl B)), (aS, .inr (1, [.ref aN, .ref aC])), (aN, .inl (kN, 5, .inl (fun j => nI (cnt j)))), (aC, .inl (kC, 52035, .inl (upd (upd (upd cel cc (nI sd)) (cc + 1) r_41) (cc + 2) r_63)))]) [0, 1, 2, 3, 4, 5] rfl
                    have hDc := hD.sub (ws' := [(aR, .inr (0, [.ref aT, .ref aS])), (aT, .inr (2, [.ref aB, .int (nI u), .int (nI en), .int (nI h_76), .int (nI h_54), .int w, .int wa])), (aB, .inl (kB, 65536, .inl B)), (aS, .inr (1, [.ref aN, .ref aC])), (aN, .inl (kN, 5, .inl (fun j => nI (cnt j)))), (aC, .inl (kC, 52035, .inl (upd (upd (upd cel cc (nI sd)) (cc + 1) r_41) (cc + 2) r_63)))]) [0, 1, 2, 3, 4, 5] (by decide) rfl
                    have hKc := hK.sub (tys' := [(kB, .byte), (kN, .int), (kC, .int)]) [0, 1, 2] rfl
                    have hFc := va_free (wc := [(aR, .inr (0, [.ref aT, .ref aS])), (aT, .inr (2, [.ref aB, .int (nI u), .int (nI en), .int (nI h_76), .int (nI h_54), .int w, .int wa])), (aB, .inl (kB, 65536, .inl B)), (aS, .inr (1, [.ref aN, .ref aC])), (aN, .inl (kN, 5, .inl (fun j => nI (cnt j)))), (aC, .inl (kC, 52035, .inl (upd (upd (upd cel cc (nI sd)) (cc + 1) r_41) (cc + 2) r_63)))]) hD hS hA [0, 1, 2, 3, 4, 5] rfl
                    refine zt_size (fun hzs => ?_)
                    refine vx_calli (vx_runV (As := [.int 0, .int (nI ((3 * sd) * sd)), .int (nI ((3 * sd) * sd)), .int (nI (cc + 3)), .int 0, .int 255]) (rest := []) ⟨hx, hb, hml, hown, hts⟩ (c_Rd_takeList l hst G dC dI H.size aR aT aS aB u en h_76 (nI h_54) w wa kB B aN aC kN cnt kC (upd (upd (upd cel cc (nI sd)) (cc + 1) r_41) (cc + 2) r_63) 0 ((3 * sd) * sd) ((3 * sd) * sd) (cc + 3) 0 255 (by omega) (by omega) (by omega) (by omega) (by omega)) (cwV 6 hts (gV tw_366 tw_368 ts_9 tw_2 tw_369 rfl) rfl rfl rfl (by decide +kernel) ⟨Nat.le_of_ble_eq_true rfl, Nat.le_of_ble_eq_true rfl⟩) (PW_preV hPc hKc hDc hE hS hFc (ci := 0) (q0 := 0) rfl rfl) rfl rfl hl.1 rfl (lv_room (Nat.le_of_ble_eq_true rfl)) d_Rd_takeTexture_114 ⟨Nat.le_of_ble_eq_true rfl, Nat.le_of_ble_eq_true rfl⟩) hS (fun q _ h => hFc q h) hFc (fun q _ h => hFc q h) (fun E9 ce9 q9 uu t H1 locs ht hvm hx_97 hB hz1 hk1 hS hce hcv hcl => ?_) (fun r_85 uu t H1 locs ht hvm hw_90 hB hz1 hk1 hS => ?_)
                    ·
                      obtain ⟨w_91, k_92, h_93, na_94, cnt_95, cel_96⟩ := uu
                      obtain ⟨hEn, hP1, hD1⟩ := hB
                      rw [ht] at hP1
                      obtain ⟨hP, hD⟩ := va_join (wr := []) (w1 := [(aR, .inr (0, [.ref aT, .ref aS])), (aT, .inr (2, [.ref aB, .int (nI u), .int (nI en), .int (nI h_93), .int na_94, .int w_91, .int (nI k_92)])), (aB, .inl (kB, 65536, .inl B)), (aS, .inr (1, [.ref aN, .ref aC])), (aN, .inl (kN, 5, .inl (fun j => nI (cnt_95 j)))), (aC, .inl (kC, 52035, .inl cel_96))]) hP hD [0, 1, 2, 3, 4, 5] [] rfl rfl (by decide) (by decide) hk1 hFc hP1 hD1
                      generalize H1 = H at hP hS hce ⊢
                      have hP : va_P (dC, dI) vwCl [(aR, .inr (0, [.ref aT, .ref aS])), (aT, .inr (2, [.ref aB, .int (nI u), .int (nI en), .int (nI h_93), .int na_94, .int w_91, .int (nI k_92)])), (aB, .inl (kB, 65536, .inl B)), (aS, .inr (1, [.ref aN, .ref aC])), (aN, .inl (kN, 5, .inl (fun j => nI (cnt_95 j)))), (aC, .inl (kC, 52035, .inl cel_96))] H := hP
                      have hD : va_D A [(aR, .inr (0, [.ref aT, .ref aS])), (aT, .inr (2, [.ref aB, .int (nI u), .int (nI en), .int (nI h_93), .int na_94, .int w_91, .int (nI k_92)])), (aB, .inl (kB, 65536, .inl B)), (aS, .inr (1, [.ref aN, .ref aC])), (aN, .inl (kN, 5, .inl (fun j => nI (cnt_95 j)))), (aC, .inl (kC, 52035, .inl cel_96))] := hD
                      simp only [zf02, zf01, zf11, zf12, zf21, zf22, decide_true, decide_false] at hx_97
                      have hP9 := hP.sub (ws' := [(aR, .inr (0, [.ref aT, .ref aS])), (aT, .inr (2, [.ref aB, .int (nI u), .int (nI en), .int (nI h_93), .int na_94, .int w_91, .int (nI k_92)])), (aB, .inl (kB, 65536, .inl B)), (aS, .inr (1, [.ref aN, .ref aC])), (aN, .inl (kN, 5, .inl (fun j => nI (cnt_95 j)))), (aC, .inl (kC, 52035, .inl cel_96))]) [0, 1, 2, 3, 4, 5] rfl
                      have hD9 := hD.sub (ws' := [(aR, .inr (0, [.ref aT, .ref aS])), (aT, .inr (2, [.ref aB, .int (nI u), .int (nI en), .int (nI h_93), .int na_94, .int w_91, .int (nI k_92)])), (aB, .inl (kB, 65536, .inl B)), (aS, .inr (1, [.ref aN, .ref aC])), (aN, .inl (kN, 5, .inl (fun j => nI (cnt_95 j)))), (aC, .inl (kC, 52035, .inl cel_96))]) [0, 1, 2, 3, 4, 5] (by decide) rfl
                      exact vx_out (fun x hx => (htab x hx).elim) hlocks hce hcv hcl (fun t ht hvm => ⟨(w_91, k_92, h_93, na_94, cnt_95, cel_96), by simp only [zTexture, zListP, zNumP, zB_ok, zB_er, nI_clamp (show sd < 2 ^ 31 by omega), hw_3, hw_15a, hw_33, hw_45a, hw_55, hw_67a, hw_77, hx_97, if_pos c_23], ⟨hEn, by rw [ht]; exact hP9, hD9⟩, hS.F ht⟩) hS.2.2 (by decide) (by decide)
                    ·
                      obtain ⟨h_86, na_87, cel_88, n_89⟩ := uu
                      obtain ⟨hP1, hD1, hsz1⟩ := hB
                      rw [ht] at hP1 hsz1
                      obtain ⟨hP, hD⟩ := va_join (wr := []) (w1 := [(aR, .inr (0, [.ref aT, .ref aS])), (aT, .inr (2, [.ref aB, .int (nI u), .int (nI en), .int (nI h_86), .int na_87, .int w, .int wa])), (aB, .inl (kB, 65536, .inl B)), (aS, .inr (1, [.ref aN, .ref aC])), (aN, .inl (kN, 5, .inl (fun j => nI (cnt j)))), (aC, .inl (kC, 52035, .inl cel_88))]) hP hD [0, 1, 2, 3, 4, 5] [] rfl rfl (by decide) (by decide) hk1 hFc hP1 hD1
                      refine zt_tight (hsz1.trans hzs) ?_
                      generalize H1 = H at hP hS ⊢
                      have hP : va_P (dC, dI) vwCl [(aR, .inr (0, [.ref aT, .ref aS])), (aT, .inr (2, [.ref aB, .int (nI u), .int (nI en), .int (nI h_86), .int na_87, .int w, .int wa])), (aB, .inl (kB, 65536, .inl B)), (aS, .inr (1, [.ref aN, .ref aC])), (aN, .inl (kN, 5, .inl (fun j => nI (cnt j)))), (aC, .inl (kC, 52035, .inl cel_88))] H := hP
                      have hD : va_D A [(aR, .inr (0, [.ref aT, .ref aS])), (aT, .inr (2, [.ref aB, .int (nI u), .int (nI en), .int (nI h_86), .int na_87, .int w, .int wa])), (aB, .inl (kB, 65536, .inl B)), (aS, .inr (1, [.ref aN, .ref aC])), (aN, .inl (kN, 5, .inl (fun j => nI (cnt j)))), (aC, .inl (kC, 52035, .inl cel_88))] := hD
                      obtain ⟨rfl, hw_90a⟩ := hw_90
                      simp only [zf02, zf01, zf11, zf12, zf21, zf22, decide_true, decide_false] at hw_90a
                      have hw_90i := zList_in (by omega) hw_90a
                      refine lv_pop hx hb d_Rd_takeTexture_117 rfl ?_
                      refine zt_size (fun hzs => ?_)
                      have hP9 := hP.sub (ws' := [(aR, .inr (0, [.ref aT, .ref aS])), (aT, .inr (2, [.ref aB, .int (nI u), .int (nI en), .int (nI h_86), .int na_87, .int w, .int wa])), (aB, .inl (kB, 65536, .inl B)), (aS, .inr (1, [.ref aN, .ref aC])), (aN, .inl (kN, 5, .inl (fun j => nI (cnt j)))), (aC, .inl (kC, 52035, .inl cel_88))]) [0, 1, 2, 3, 4, 5] rfl
                      have hD9 := hD.sub (ws' := [(aR, .inr (0, [.ref aT, .ref aS])), (aT, .inr (2, [.ref aB, .int (nI u), .int (nI en), .int (nI h_86), .int na_87, .int w, .int wa])), (aB, .inl (kB, 65536, .inl B)), (aS, .inr (1, [.ref aN, .ref aC])), (aN, .inl (kN, 5, .inl (fun j => nI (cnt j)))), (aC, .inl (kC, 52035, .inl cel_88))]) [0, 1, 2, 3, 4, 5] (by decide) rfl
                      refine W.widen (k := 1) (n := 6) (by decide) (by decide) ?_
                      exact vx_ret (W.vret hx hb hr (fun t ht hW => ⟨⟨(h_86, na_87, cel_88), rfl, by simp only [zTexture, zListP, zNumP, zB_ok, nI_clamp (show sd < 2 ^ 31 by omega), hw_3, hw_15a, hw_33, hw_45a, hw_55, hw_67a, hw_77, hw_90a, if_pos c_23], by rw [ht]; exact hP9, hD9, by rw [ht]; exact hzs⟩, hS.F ht⟩) hS.2.2 d_Rd_takeTexture_118)
        ·
          exact absurd c_30 (by decide)
