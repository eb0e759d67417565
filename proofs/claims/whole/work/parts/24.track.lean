set_option maxHeartbeats 4000000 in
set_option maxRecDepth 100000 in
theorem c_Rd_takeTrack (l : Launch) (hst : l.stackTraces = false) (G : ZG) (dC : Nat → ClassId) (dI : Nat → Nat → Nat) (sz : Nat) (aR : Nat) (aT : Nat) (aS : Nat) (aB : Nat) (u : Nat) (en : Nat) (h : Nat) (na : Int32) (w : Int32) (wa : Int32) (kB : ClassId) (B : Nat → Int32) (aN : Nat) (aC : Nat) (kN : ClassId) (cnt : Nat → Nat) (kC : ClassId) (cel : Nat → Int32) (cc : Nat) (hen : en ≤ 65536) (hh : h ≤ en) (hcc : cc + 132 ≤ 52035) : vx_Met l y_Rd_takeTrack w_Rd_takeTrack ({ frames := 9, cells := 1, slots := 6, locals := 158 }) (va_Pc [.ref aR, .int (nI cc)] (PW G (dC, dI) [(kB, .byte), (kN, .int), (kC, .int)] [(aR, .inr (0, [.ref aT, .ref aS])), (aT, .inr (2, [.ref aB, .int (nI u), .int (nI en), .int (nI h), .int na, .int w, .int wa])), (aB, .inl (kB, 65536, .inl B)), (aS, .inr (1, [.ref aN, .ref aC])), (aN, .inl (kN, 5, .inl (fun j => nI (cnt j)))), (aC, .inl (kC, 52035, .inl cel))] sz)) (va_Qv (fun (uu : Nat × Int32 × (Nat → Int32)) => zTrack B en (cnt 3) cc (h, cel) = .ok (uu.1, uu.2.2)) (fun (uu : Nat × Int32 × (Nat → Int32)) t => BW (dC, dI) [(aR, .inr (0, [.ref aT, .ref aS])), (aT, .inr (2, [.ref aB, .int (nI u), .int (nI en), .int (nI uu.1), .int uu.2.1, .int w, .int wa])), (aB, .inl (kB, 65536, .inl B)), (aS, .inr (1, [.ref aN, .ref aC])), (aN, .inl (kN, 5, .inl (fun j => nI (cnt j)))), (aC, .inl (kC, 52035, .inl uu.2.2))] (va_A [(aR, .inr (0, [.ref aT, .ref aS])), (aT, .inr (2, [.ref aB, .int (nI u), .int (nI en), .int (nI h), .int na, .int w, .int wa])), (aB, .inl (kB, 65536, .inl B)), (aS, .inr (1, [.ref aN, .ref aC])), (aN, .inl (kN, 5, .inl (fun j => nI (cnt j)))), (aC, .inl (kC, 52035, .inl cel))] sz) sz t) (va_A [(aR, .inr (0, [.ref aT, .ref aS])), (aT, .inr (2, [.ref aB, .int (nI u), .int (nI en), .int (nI h), .int na, .int w, .int wa])), (aB, .inl (kB, 65536, .inl B)), (aS, .inr (1, [.ref aN, .ref aC])), (aN, .inl (kN, 5, .inl (fun j => nI (cnt j)))), (aC, .inl (kC, 52035, .inl cel))] sz)) (vx_X (fun (uu : Int32 × Nat × Nat × Int32 × (Nat → Nat) × (Nat → Int32)) => zTrack B en (cnt 3) cc (h, cel) = .error (uu.1, uu.2.1)) (fun E (uu : Int32 × Nat × Nat × Int32 × (Nat → Nat) × (Nat → Int32)) t => E = "java/lang/IllegalArgumentException" ∧ va_P (dC, dI) vwCl [(aR, .inr (0, [.ref aT, .ref aS])), (aT, .inr (2, [.ref aB, .int (nI u), .int (nI en), .int (nI uu.2.2.1), .int uu.2.2.2.1, .int uu.1, .int (nI uu.2.1)])), (aB, .inl (kB, 65536, .inl B)), (aS, .inr (1, [.ref aN, .ref aC])), (aN, .inl (kN, 5, .inl (fun j => nI (uu.2.2.2.2.1 j)))), (aC, .inl (kC, 52035, .inl uu.2.2.2.2.2))] t.heap ∧ va_D (va_A [(aR, .inr (0, [.ref aT, .ref aS])), (aT, .inr (2, [.ref aB, .int (nI u), .int (nI en), .int (nI h), .int na, .int w, .int wa])), (aB, .inl (kB, 65536, .inl B)), (aS, .inr (1, [.ref aN, .ref aC])), (aN, .inl (kN, 5, .inl (fun j => nI (cnt j)))), (aC, .inl (kC, 52035, .inl cel))] sz) [(aR, .inr (0, [.ref aT, .ref aS])), (aT, .inr (2, [.ref aB, .int (nI u), .int (nI en), .int (nI uu.2.2.1), .int uu.2.2.2.1, .int uu.1, .int (nI uu.2.1)])), (aB, .inl (kB, 65536, .inl B)), (aS, .inr (1, [.ref aN, .ref aC])), (aN, .inl (kN, 5, .inl (fun j => nI (uu.2.2.2.2.1 j)))), (aC, .inl (kC, 52035, .inl uu.2.2.2.2.2))]) (va_A [(aR, .inr (0, [.ref aT, .ref aS])), (aT, .inr (2, [.ref aB, .int (nI u), .int (nI en), .int (nI h), .int na, .int w, .int wa])), (aB, .inl (kB, 65536, .inl B)), (aS, .inr (1, [.ref aN, .ref aC])), (aN, .inl (kN, 5, .inl (fun j => nI (cnt j)))), (aC, .inl (kC, 52035, .inl cel))] sz)) 1 6 (va_A [(aR, .inr (0, [.ref aT, .ref aS])), (aT, .inr (2, [.ref aB, .int (nI u), .int (nI en), .int (nI h), .int na, .int w, .int wa])), (aB, .inl (kB, 65536, .inl B)), (aS, .inr (1, [.ref aN, .ref aC])), (aN, .inl (kN, 5, .inl (fun j => nI (cnt j)))), (aC, .inl (kC, 52035, .inl cel))] sz) := by
  refine vx_ofW (cc := prog_2_method_9_code) (maxL := 5) (ret := none) (by decide) rfl ?_
  intro p e s m args below meth c s₁ Bd hml htab hv
  obtain ⟨rfl, hsz, hP, hK, hD0, hE⟩ := hv
  have hx := Bd.exec
  have hb := Bd.bytes
  have hr := Bd.returns
  have hts := atoms_spec (ws := w_Rd_takeTrack) Bd.pre
  have hown : s.vm.findClass R_Rd = some m.cls := findClass_of_methodNamed Bd.named
  have hlocks := Bd.notSynchronized
  have hz : ∀ w ∈ ZW, w.before _ s = true := fun w h => hts w (List.mem_cons_of_mem _ h)
  subst hsz
  have hD := hD0.self (sz := s.heap.size)
  generalize hAe : va_A [(aR, .inr (0, [.ref aT, .ref aS])), (aT, .inr (2, [.ref aB, .int (nI u), .int (nI en), .int (nI h), .int na, .int w, .int wa])), (aB, .inl (kB, 65536, .inl B)), (aS, .inr (1, [.ref aN, .ref aC])), (aN, .inl (kN, 5, .inl (fun j => nI (cnt j)))), (aC, .inl (kC, 52035, .inl cel))] s.heap.size = A at hD hE ⊢
  have hA : ∀ q : Nat, s.heap.size ≤ q → A q := fun q h => by rw [← hAe]; exact Or.inr h
  have hS : va_S A s.heap s.heap [] := va_S.rf
  have hl := lv_entry ([.ref aR, .int (nI cc)]) (n := 5) (Nat.le_of_ble_eq_true rfl)
  rw [lg_entry_eq]
  generalize (lg_sl ([.ref aR, .int (nI cc)]) ++ List.replicate (5 - (lg_sl ([.ref aR, .int (nI cc)])).length) Slot.unset).toArray = ls at hl ⊢
  have hl : lv_has ls 5 [(0, .ref aR), (1, .int (nI cc))] := hl
  obtain ⟨H, hH⟩ : ∃ z, z = s.heap := ⟨_, rfl⟩
  have hP : va_P (dC, dI) vwCl [(aR, .inr (0, [.ref aT, .ref aS])), (aT, .inr (2, [.ref aB, .int (nI u), .int (nI en), .int (nI h), .int na, .int w, .int wa])), (aB, .inl (kB, 65536, .inl B)), (aS, .inr (1, [.ref aN, .ref aC])), (aN, .inl (kN, 5, .inl (fun j => nI (cnt j)))), (aC, .inl (kC, 52035, .inl cel))] H := by rw [hH]; exact hP
  have hS : va_S A s.heap H [] := by rw [hH]; exact hS
  refine zt_heap hH ?_
  refine lv_aload_n hx hb d_Rd_takeTrack_0 rfl (lv_at hl 0 rfl) ?_
  refine lv_bipush (v := 123) hx hb d_Rd_takeTrack_1 (by decide) ?_
  refine va_ldcS (q := G.2.1 28) hx hb hown (hE.2.2.2.2.2.2.2 28 (by decide)).2 d_Rd_takeTrack_3 ?_
  have hPc := hP.sub (ws' := [(aR, .inr (0, [.ref aT, .ref aS])), (aT, .inr (2, [.ref aB, .int (nI u), .int (nI en), .int (nI h), .int na, .int w, .int wa])), (aB, .inl (kB, 65536, .inl B)), (aS, .inr (1, [.ref aN, .ref aC])), (aN, .inl (kN, 5, .inl (fun j => nI (cnt j)))), (aC, .inl (kC, 52035, .inl cel))]) [0, 1, 2, 3, 4, 5] rfl
  have hDc := hD.sub (ws' := [(aR, .inr (0, [.ref aT, .ref aS])), (aT, .inr (2, [.ref aB, .int (nI u), .int (nI en), .int (nI h), .int na, .int w, .int wa])), (aB, .inl (kB, 65536, .inl B)), (aS, .inr (1, [.ref aN, .ref aC])), (aN, .inl (kN, 5, .inl (fun j => nI (cnt j)))), (aC, .inl (kC, 52035, .inl cel))]) [0, 1, 2, 3, 4, 5] (by decide) rfl
  have hKc := hK.sub (tys' := [(kB, .byte), (kN, .int), (kC, .int)]) [0, 1, 2] rfl
  have hFc := va_free (wc := [(aR, .inr (0, [.ref aT, .ref aS])), (aT, .inr (2, [.ref aB, .int (nI u), .int (nI en), .int (nI h), .int na, .int w, .int wa])), (aB, .inl (kB, 65536, .inl B)), (aS, .inr (1, [.ref aN, .ref aC])), (aN, .inl (kN, 5, .inl (fun j => nI (cnt j)))), (aC, .inl (kC, 52035, .inl cel))]) hD hS hA [0, 1, 2, 3, 4, 5] rfl
  refine zt_size (fun hzs => ?_)
  refine vx_callv (vx_runV (As := [.int 123, .ref (G.2.1 28)]) (rest := []) ⟨hx, hb, hml, hown, hts⟩ (c_Rd_takeName l hst G dC dI H.size aR aT aS aB u en h na w wa kB B aN aC kN cnt kC cel 123 28 (by omega) (by omega) (by decide) (zSb_len _)) (cwV 2 hts (gV tw_359 tw_361 ts_8 tw_2 tw_362 rfl) rfl rfl rfl (by decide +kernel) ⟨Nat.le_of_ble_eq_true rfl, Nat.le_of_ble_eq_true rfl⟩) (PW_preV hPc hKc hDc hE hS hFc (ci := 0) (q0 := 0) rfl rfl) rfl rfl hl.1 rfl (lv_room (Nat.le_of_ble_eq_true rfl)) d_Rd_takeTrack_5 ⟨Nat.le_of_ble_eq_true rfl, Nat.le_of_ble_eq_true rfl⟩) hS (fun q _ h => hFc q h) hFc (fun q _ h => hFc q h) (fun E9 ce9 q9 uu t H1 locs ht hvm hx_10 hB hz1 hk1 hS hce hcv hcl => ?_) (fun uu t H1 locs ht hvm hw_3 hB hz1 hk1 hS => ?_)
  ·
    obtain ⟨w_4, k_5, h_6, na_7, cnt_8, cel_9⟩ := uu
    obtain ⟨hEn, hP1, hD1⟩ := hB
    rw [ht] at hP1
    obtain ⟨hP, hD⟩ := va_join (wr := []) (w1 := [(aR, .inr (0, [.ref aT, .ref aS])), (aT, .inr (2, [.ref aB, .int (nI u), .int (nI en), .int (nI h_6), .int na_7, .int w_4, .int (nI k_5)])), (aB, .inl (kB, 65536, .inl B)), (aS, .inr (1, [.ref aN, .ref aC])), (aN, .inl (kN, 5, .inl (fun j => nI (cnt_8 j)))), (aC, .inl (kC, 52035, .inl cel_9))]) hP hD [0, 1, 2, 3, 4, 5] [] rfl rfl (by decide) (by decide) hk1 hFc hP1 hD1
    generalize H1 = H at hP hS hce ⊢
    have hP : va_P (dC, dI) vwCl [(aR, .inr (0, [.ref aT, .ref aS])), (aT, .inr (2, [.ref aB, .int (nI u), .int (nI en), .int (nI h_6), .int na_7, .int w_4, .int (nI k_5)])), (aB, .inl (kB, 65536, .inl B)), (aS, .inr (1, [.ref aN, .ref aC])), (aN, .inl (kN, 5, .inl (fun j => nI (cnt_8 j)))), (aC, .inl (kC, 52035, .inl cel_9))] H := hP
    have hD : va_D A [(aR, .inr (0, [.ref aT, .ref aS])), (aT, .inr (2, [.ref aB, .int (nI u), .int (nI en), .int (nI h_6), .int na_7, .int w_4, .int (nI k_5)])), (aB, .inl (kB, 65536, .inl B)), (aS, .inr (1, [.ref aN, .ref aC])), (aN, .inl (kN, 5, .inl (fun j => nI (cnt_8 j)))), (aC, .inl (kC, 52035, .inl cel_9))] := hD
    have hP9 := hP.sub (ws' := [(aR, .inr (0, [.ref aT, .ref aS])), (aT, .inr (2, [.ref aB, .int (nI u), .int (nI en), .int (nI h_6), .int na_7, .int w_4, .int (nI k_5)])), (aB, .inl (kB, 65536, .inl B)), (aS, .inr (1, [.ref aN, .ref aC])), (aN, .inl (kN, 5, .inl (fun j => nI (cnt_8 j)))), (aC, .inl (kC, 52035, .inl cel_9))]) [0, 1, 2, 3, 4, 5] rfl
    have hD9 := hD.sub (ws' := [(aR, .inr (0, [.ref aT, .ref aS])), (aT, .inr (2, [.ref aB, .int (nI u), .int (nI en), .int (nI h_6), .int na_7, .int w_4, .int (nI k_5)])), (aB, .inl (kB, 65536, .inl B)), (aS, .inr (1, [.ref aN, .ref aC])), (aN, .inl (kN, 5, .inl (fun j => nI (cnt_8 j)))), (aC, .inl (kC, 52035, .inl cel_9))]) [0, 1, 2, 3, 4, 5] (by decide) rfl
    exact vx_out (fun x hx => (htab x hx).elim) hlocks hce hcv hcl (fun t ht hvm => ⟨(w_4, k_5, h_6, na_7, cnt_8, cel_9), by simp only [zTrack, zListP, zNumP, zB_ok, zB_er, hx_10], ⟨hEn, by rw [ht]; exact hP9, hD9⟩, hS.F ht⟩) hS.2.2 (by decide) (by decide)
  ·
    obtain ⟨h_2, rfl⟩ : ∃ z, z = uu := ⟨_, rfl⟩
    obtain ⟨hP1, hD1, hsz1⟩ := hB
    rw [ht] at hP1 hsz1
    obtain ⟨hP, hD⟩ := va_join (wr := []) (w1 := [(aR, .inr (0, [.ref aT, .ref aS])), (aT, .inr (2, [.ref aB, .int (nI u), .int (nI en), .int (nI h_2), .int na, .int w, .int wa])), (aB, .inl (kB, 65536, .inl B)), (aS, .inr (1, [.ref aN, .ref aC])), (aN, .inl (kN, 5, .inl (fun j => nI (cnt j)))), (aC, .inl (kC, 52035, .inl cel))]) hP hD [0, 1, 2, 3, 4, 5] [] rfl rfl (by decide) (by decide) hk1 hFc hP1 hD1
    refine zt_tight (hsz1.trans hzs) ?_
    generalize H1 = H at hP hS ⊢
    have hP : va_P (dC, dI) vwCl [(aR, .inr (0, [.ref aT, .ref aS])), (aT, .inr (2, [.ref aB, .int (nI u), .int (nI en), .int (nI h_2), .int na, .int w, .int wa])), (aB, .inl (kB, 65536, .inl B)), (aS, .inr (1, [.ref aN, .ref aC])), (aN, .inl (kN, 5, .inl (fun j => nI (cnt j)))), (aC, .inl (kC, 52035, .inl cel))] H := hP
    have hD : va_D A [(aR, .inr (0, [.ref aT, .ref aS])), (aT, .inr (2, [.ref aB, .int (nI u), .int (nI en), .int (nI h_2), .int na, .int w, .int wa])), (aB, .inl (kB, 65536, .inl B)), (aS, .inr (1, [.ref aN, .ref aC])), (aN, .inl (kN, 5, .inl (fun j => nI (cnt j)))), (aC, .inl (kC, 52035, .inl cel))] := hD
    have hw_3i := zName_in hw_3
    refine lv_aload_n hx hb d_Rd_takeTrack_8 rfl (lv_at hl 0 rfl) ?_
    refine lv_iload_n hx hb d_Rd_takeTrack_9 rfl (lv_at hl 1 rfl) ?_
    refine lv_iconst (v := 0) hx hb d_Rd_takeTrack_10 (by decide) ?_
    refine lv_aload_n hx hb d_Rd_takeTrack_11 rfl (lv_at hl 0 rfl) ?_
    refine va_get (D := (dC, dI)) (ci := 0) (v := .ref aS) (C := R_Rd) (T := F_Rd) (N := 2) hx hb hz i_Rd hown hK hP 0 rfl rfl 1 (by decide) (hz _ tw_86) (fun _ h9 => h9) rfl d_Rd_takeTrack_12 ?_
    refine lv_iconst (v := 3) hx hb d_Rd_takeTrack_15 (by decide) ?_
    have hPc := hP.sub (ws' := [(aS, .inr (1, [.ref aN, .ref aC])), (aN, .inl (kN, 5, .inl (fun j => nI (cnt j)))), (aC, .inl (kC, 52035, .inl cel))]) [3, 4, 5] rfl
    have hDc := hD.sub (ws' := [(aS, .inr (1, [.ref aN, .ref aC])), (aN, .inl (kN, 5, .inl (fun j => nI (cnt j)))), (aC, .inl (kC, 52035, .inl cel))]) [3, 4, 5] (by decide) rfl
    have hKc := hK.sub (tys' := [(kN, .int), (kC, .int)]) [1, 2] rfl
    have hFc := va_free (wc := [(aS, .inr (1, [.ref aN, .ref aC])), (aN, .inl (kN, 5, .inl (fun j => nI (cnt j)))), (aC, .inl (kC, 52035, .inl cel))]) hD hS hA [3, 4, 5] rfl
    refine va_calli (va_runV (As := [.int (nI 3)]) (rest := [.int 0, .int (nI cc), .ref aR]) ⟨hx, hb, hml, hown, hts⟩ (c_Sc_howManyN l G dC dI H.size aS aN aC kN cnt kC cel 3 (by omega)) (cwV 1 hts (gV tw_426 tw_135 tw_136 tw_4 tw_137 rfl) rfl rfl rfl (by decide +kernel) ⟨Nat.le_of_ble_eq_true rfl, Nat.le_of_ble_eq_true rfl⟩) (PW_preV hPc hKc hDc hE hS hFc (ci := 1) (q0 := 0) rfl rfl) rfl rfl hl.1 rfl (lv_room (Nat.le_of_ble_eq_true rfl)) d_Rd_takeTrack_16 ⟨Nat.le_of_ble_eq_true rfl, Nat.le_of_ble_eq_true rfl⟩) hS (fun q _ h => hFc q h) hFc (fun r_11 uu t H1 locs ht hvm hw_12 hB hz1 hk1 hS => ?_)
    obtain ⟨hP1, hD1, hsz1⟩ := hB
    rw [ht] at hP1 hsz1
    obtain ⟨hP, hD⟩ := va_join (wr := [(aR, .inr (0, [.ref aT, .ref aS])), (aT, .inr (2, [.ref aB, .int (nI u), .int (nI en), .int (nI h_2), .int na, .int w, .int wa])), (aB, .inl (kB, 65536, .inl B))]) (w1 := [(aS, .inr (1, [.ref aN, .ref aC])), (aN, .inl (kN, 5, .inl (fun j => nI (cnt j)))), (aC, .inl (kC, 52035, .inl cel))]) hP hD [3, 4, 5] [0, 1, 2] rfl rfl (by decide) (by decide) hk1 hFc hP1 hD1
    generalize H1 = H at hP hS ⊢
    have hP : va_P (dC, dI) vwCl [(aR, .inr (0, [.ref aT, .ref aS])), (aT, .inr (2, [.ref aB, .int (nI u), .int (nI en), .int (nI h_2), .int na, .int w, .int wa])), (aB, .inl (kB, 65536, .inl B)), (aS, .inr (1, [.ref aN, .ref aC])), (aN, .inl (kN, 5, .inl (fun j => nI (cnt j)))), (aC, .inl (kC, 52035, .inl cel))] H := hP
    have hD : va_D A [(aR, .inr (0, [.ref aT, .ref aS])), (aT, .inr (2, [.ref aB, .int (nI u), .int (nI en), .int (nI h_2), .int na, .int w, .int wa])), (aB, .inl (kB, 65536, .inl B)), (aS, .inr (1, [.ref aN, .ref aC])), (aN, .inl (kN, 5, .inl (fun j => nI (cnt j)))), (aC, .inl (kC, 52035, .inl cel))] := hD
    subst hw_12
    refine lv_iconst (v := 1) hx hb d_Rd_takeTrack_19 (by decide) ?_
    refine lv_isub hx hb d_Rd_takeTrack_20 ?_
    have hPc := hP.sub (ws' := [(aR, .inr (0, [.ref aT, .ref aS])), (aT, .inr (2, [.ref aB, .int (nI u), .int (nI en), .int (nI h_2), .int na, .int w, .int wa])), (aB, .inl (kB, 65536, .inl B)), (aS, .inr (1, [.ref aN, .ref aC])), (aN, .inl (kN, 5, .inl (fun j => nI (cnt j)))), (aC, .inl (kC, 52035, .inl cel))]) [0, 1, 2, 3, 4, 5] rfl
    have hDc := hD.sub (ws' := [(aR, .inr (0, [.ref aT, .ref aS])), (aT, .inr (2, [.ref aB, .int (nI u), .int (nI en), .int (nI h_2), .int na, .int w, .int wa])), (aB, .inl (kB, 65536, .inl B)), (aS, .inr (1, [.ref aN, .ref aC])), (aN, .inl (kN, 5, .inl (fun j => nI (cnt j)))), (aC, .inl (kC, 52035, .inl cel))]) [0, 1, 2, 3, 4, 5] (by decide) rfl
    have hKc := hK.sub (tys' := [(kB, .byte), (kN, .int), (kC, .int)]) [0, 1, 2] rfl
    have hFc := va_free (wc := [(aR, .inr (0, [.ref aT, .ref aS])), (aT, .inr (2, [.ref aB, .int (nI u), .int (nI en), .int (nI h_2), .int na, .int w, .int wa])), (aB, .inl (kB, 65536, .inl B)), (aS, .inr (1, [.ref aN, .ref aC])), (aN, .inl (kN, 5, .inl (fun j => nI (cnt j)))), (aC, .inl (kC, 52035, .inl cel))]) hD hS hA [0, 1, 2, 3, 4, 5] rfl
    refine zt_size (fun hzs => ?_)
    refine vx_calli (vx_runV (As := [.int (nI cc), .int 0, .int ((nI (cnt 3)) - 1)]) (rest := []) ⟨hx, hb, hml, hown, hts⟩ (c_Rd_takeNumber l hst G dC dI H.size aR aT aS aB u en h_2 na w wa kB B aN aC kN cnt kC cel cc 0 ((nI (cnt 3)) - 1) (by omega) (by omega) (by omega)) (cwV 3 hts (gV tw_387 tw_389 ts_10 tw_2 tw_390 rfl) rfl rfl rfl (by decide +kernel) ⟨Nat.le_of_ble_eq_true rfl, Nat.le_of_ble_eq_true rfl⟩) (PW_preV hPc hKc hDc hE hS hFc (ci := 0) (q0 := 0) rfl rfl) rfl rfl hl.1 rfl (lv_room (Nat.le_of_ble_eq_true rfl)) d_Rd_takeTrack_21 ⟨Nat.le_of_ble_eq_true rfl, Nat.le_of_ble_eq_true rfl⟩) hS (fun q _ h => hFc q h) hFc (fun q _ h => hFc q h) (fun E9 ce9 q9 uu t H1 locs ht hvm hx_24 hB hz1 hk1 hS hce hcv hcl => ?_) (fun r_13 uu t H1 locs ht hvm hw_17 hB hz1 hk1 hS => ?_)
    ·
      obtain ⟨w_18, k_19, h_20, na_21, cnt_22, cel_23⟩ := uu
      obtain ⟨hEn, hP1, hD1⟩ := hB
      rw [ht] at hP1
      obtain ⟨hP, hD⟩ := va_join (wr := []) (w1 := [(aR, .inr (0, [.ref aT, .ref aS])), (aT, .inr (2, [.ref aB, .int (nI u), .int (nI en), .int (nI h_20), .int na_21, .int w_18, .int (nI k_19)])), (aB, .inl (kB, 65536, .inl B)), (aS, .inr (1, [.ref aN, .ref aC])), (aN, .inl (kN, 5, .inl (fun j => nI (cnt_22 j)))), (aC, .inl (kC, 52035, .inl cel_23))]) hP hD [0, 1, 2, 3, 4, 5] [] rfl rfl (by decide) (by decide) hk1 hFc hP1 hD1
      generalize H1 = H at hP hS hce ⊢
      have hP : va_P (dC, dI) vwCl [(aR, .inr (0, [.ref aT, .ref aS])), (aT, .inr (2, [.ref aB, .int (nI u), .int (nI en), .int (nI h_20), .int na_21, .int w_18, .int (nI k_19)])), (aB, .inl (kB, 65536, .inl B)), (aS, .inr (1, [.ref aN, .ref aC])), (aN, .inl (kN, 5, .inl (fun j => nI (cnt_22 j)))), (aC, .inl (kC, 52035, .inl cel_23))] H := hP
      have hD : va_D A [(aR, .inr (0, [.ref aT, .ref aS])), (aT, .inr (2, [.ref aB, .int (nI u), .int (nI en), .int (nI h_20), .int na_21, .int w_18, .int (nI k_19)])), (aB, .inl (kB, 65536, .inl B)), (aS, .inr (1, [.ref aN, .ref aC])), (aN, .inl (kN, 5, .inl (fun j => nI (cnt_22 j)))), (aC, .inl (kC, 52035, .inl cel_23))] := hD
      have hP9 := hP.sub (ws' := [(aR, .inr (0, [.ref aT, .ref aS])), (aT, .inr (2, [.ref aB, .int (nI u), .int (nI en), .int (nI h_20), .int na_21, .int w_18, .int (nI k_19)])), (aB, .inl (kB, 65536, .inl B)), (aS, .inr (1, [.ref aN, .ref aC])), (aN, .inl (kN, 5, .inl (fun j => nI (cnt_22 j)))), (aC, .inl (kC, 52035, .inl cel_23))]) [0, 1, 2, 3, 4, 5] rfl
      have hD9 := hD.sub (ws' := [(aR, .inr (0, [.ref aT, .ref aS])), (aT, .inr (2, [.ref aB, .int (nI u), .int (nI en), .int (nI h_20), .int na_21, .int w_18, .int (nI k_19)])), (aB, .inl (kB, 65536, .inl B)), (aS, .inr (1, [.ref aN, .ref aC])), (aN, .inl (kN, 5, .inl (fun j => nI (cnt_22 j)))), (aC, .inl (kC, 52035, .inl cel_23))]) [0, 1, 2, 3, 4, 5] (by decide) rfl
      exact vx_out (fun x hx => (htab x hx).elim) hlocks hce hcv hcl (fun t ht hvm => ⟨(w_18, k_19, h_20, na_21, cnt_22, cel_23), by simp only [zTrack, zListP, zNumP, zB_ok, zB_er, hw_3, hx_24], ⟨hEn, by rw [ht]; exact hP9, hD9⟩, hS.F ht⟩) hS.2.2 (by decide) (by decide)
    ·
      obtain ⟨h_14, na_15, cel_16⟩ := uu
      obtain ⟨hP1, hD1, hsz1⟩ := hB
      rw [ht] at hP1 hsz1
      obtain ⟨hP, hD⟩ := va_join (wr := []) (w1 := [(aR, .inr (0, [.ref aT, .ref aS])), (aT, .inr (2, [.ref aB, .int (nI u), .int (nI en), .int (nI h_14), .int na_15, .int w, .int wa])), (aB, .inl (kB, 65536, .inl B)), (aS, .inr (1, [.ref aN, .ref aC])), (aN, .inl (kN, 5, .inl (fun j => nI (cnt j)))), (aC, .inl (kC, 52035, .inl cel_16))]) hP hD [0, 1, 2, 3, 4, 5] [] rfl rfl (by decide) (by decide) hk1 hFc hP1 hD1
      refine zt_tight (hsz1.trans hzs) ?_
      generalize H1 = H at hP hS ⊢
      have hP : va_P (dC, dI) vwCl [(aR, .inr (0, [.ref aT, .ref aS])), (aT, .inr (2, [.ref aB, .int (nI u), .int (nI en), .int (nI h_14), .int na_15, .int w, .int wa])), (aB, .inl (kB, 65536, .inl B)), (aS, .inr (1, [.ref aN, .ref aC])), (aN, .inl (kN, 5, .inl (fun j => nI (cnt j)))), (aC, .inl (kC, 52035, .inl cel_16))] H := hP
      have hD : va_D A [(aR, .inr (0, [.ref aT, .ref aS])), (aT, .inr (2, [.ref aB, .int (nI u), .int (nI en), .int (nI h_14), .int na_15, .int w, .int wa])), (aB, .inl (kB, 65536, .inl B)), (aS, .inr (1, [.ref aN, .ref aC])), (aN, .inl (kN, 5, .inl (fun j => nI (cnt j)))), (aC, .inl (kC, 52035, .inl cel_16))] := hD
      obtain ⟨hw_17a, rfl, rfl⟩ := hw_17
      have hw_17i := zRNum_in (by omega) hw_17a
      refine lv_pop hx hb d_Rd_takeTrack_24 rfl ?_
      refine lv_aload_n hx hb d_Rd_takeTrack_25 rfl (lv_at hl 0 rfl) ?_
      refine lv_bipush (v := 44) hx hb d_Rd_takeTrack_26 (by decide) ?_
      refine va_ldcS (q := G.2.1 29) hx hb hown (hE.2.2.2.2.2.2.2 29 (by decide)).2 d_Rd_takeTrack_28 ?_
      have hPc := hP.sub (ws' := [(aR, .inr (0, [.ref aT, .ref aS])), (aT, .inr (2, [.ref aB, .int (nI u), .int (nI en), .int (nI h_14), .int (nI h_2), .int w, .int wa])), (aB, .inl (kB, 65536, .inl B)), (aS, .inr (1, [.ref aN, .ref aC])), (aN, .inl (kN, 5, .inl (fun j => nI (cnt j)))), (aC, .inl (kC, 52035, .inl (upd cel cc r_13)))]) [0, 1, 2, 3, 4, 5] rfl
      have hDc := hD.sub (ws' := [(aR, .inr (0, [.ref aT, .ref aS])), (aT, .inr (2, [.ref aB, .int (nI u), .int (nI en), .int (nI h_14), .int (nI h_2), .int w, .int wa])), (aB, .inl (kB, 65536, .inl B)), (aS, .inr (1, [.ref aN, .ref aC])), (aN, .inl (kN, 5, .inl (fun j => nI (cnt j)))), (aC, .inl (kC, 52035, .inl (upd cel cc r_13)))]) [0, 1, 2, 3, 4, 5] (by decide) rfl
      have hKc := hK.sub (tys' := [(kB, .byte), (kN, .int), (kC, .int)]) [0, 1, 2] rfl
      have hFc := va_free (wc := [(aR, .inr (0, [.ref aT, .ref aS])), (aT, .inr (2, [.ref aB, .int (nI u), .int (nI en), .int (nI h_14), .int (nI h_2), .int w, .int wa])), (aB, .inl (kB, 65536, .inl B)), (aS, .inr (1, [.ref aN, .ref aC])), (aN, .inl (kN, 5, .inl (fun j => nI (cnt j)))), (aC, .inl (kC, 52035, .inl (upd cel cc r_13)))]) hD hS hA [0, 1, 2, 3, 4, 5] rfl
      refine zt_size (fun hzs => ?_)
      refine vx_callv (vx_runV (As := [.int 44, .ref (G.2.1 29)]) (rest := []) ⟨hx, hb, hml, hown, hts⟩ (c_Rd_takeName l hst G dC dI H.size aR aT aS aB u en h_14 (nI h_2) w wa kB B aN aC kN cnt kC (upd cel cc r_13) 44 29 (by omega) (by omega) (by decide) (zSb_len _)) (cwV 2 hts (gV tw_359 tw_361 ts_8 tw_2 tw_362 rfl) rfl rfl rfl (by decide +kernel) ⟨Nat.le_of_ble_eq_true rfl, Nat.le_of_ble_eq_true rfl⟩) (PW_preV hPc hKc hDc hE hS hFc (ci := 0) (q0 := 0) rfl rfl) rfl rfl hl.1 rfl (lv_room (Nat.le_of_ble_eq_true rfl)) d_Rd_takeTrack_30 ⟨Nat.le_of_ble_eq_true rfl, Nat.le_of_ble_eq_true rfl⟩) hS (fun q _ h => hFc q h) hFc (fun q _ h => hFc q h) (fun E9 ce9 q9 uu t H1 locs ht hvm hx_34 hB hz1 hk1 hS hce hcv hcl => ?_) (fun uu t H1 locs ht hvm hw_27 hB hz1 hk1 hS => ?_)
      ·
        obtain ⟨w_28, k_29, h_30, na_31, cnt_32, cel_33⟩ := uu
        obtain ⟨hEn, hP1, hD1⟩ := hB
        rw [ht] at hP1
        obtain ⟨hP, hD⟩ := va_join (wr := []) (w1 := [(aR, .inr (0, [.ref aT, .ref aS])), (aT, .inr (2, [.ref aB, .int (nI u), .int (nI en), .int (nI h_30), .int na_31, .int w_28, .int (nI k_29)])), (aB, .inl (kB, 65536, .inl B)), (aS, .inr (1, [.ref aN, .ref aC])), (aN, .inl (kN, 5, .inl (fun j => nI (cnt_32 j)))), (aC, .inl (kC, 52035, .inl cel_33))]) hP hD [0, 1, 2, 3, 4, 5] [] rfl rfl (by decide) (by decide) hk1 hFc hP1 hD1
        generalize H1 = H at hP hS hce ⊢
        have hP : va_P (dC, dI) vwCl [(aR, .inr (0, [.ref aT, .ref aS])), (aT, .inr (2, [.ref aB, .int (nI u), .int (nI en), .int (nI h_30), .int na_31, .int w_28, .int (nI k_29)])), (aB, .inl (kB, 65536, .inl B)), (aS, .inr (1, [.ref aN, .ref aC])), (aN, .inl (kN, 5, .inl (fun j => nI (cnt_32 j)))), (aC, .inl (kC, 52035, .inl cel_33))] H := hP
        have hD : va_D A [(aR, .inr (0, [.ref aT, .ref aS])), (aT, .inr (2, [.ref aB, .int (nI u), .int (nI en), .int (nI h_30), .int na_31, .int w_28, .int (nI k_29)])), (aB, .inl (kB, 65536, .inl B)), (aS, .inr (1, [.ref aN, .ref aC])), (aN, .inl (kN, 5, .inl (fun j => nI (cnt_32 j)))), (aC, .inl (kC, 52035, .inl cel_33))] := hD
        have hP9 := hP.sub (ws' := [(aR, .inr (0, [.ref aT, .ref aS])), (aT, .inr (2, [.ref aB, .int (nI u), .int (nI en), .int (nI h_30), .int na_31, .int w_28, .int (nI k_29)])), (aB, .inl (kB, 65536, .inl B)), (aS, .inr (1, [.ref aN, .ref aC])), (aN, .inl (kN, 5, .inl (fun j => nI (cnt_32 j)))), (aC, .inl (kC, 52035, .inl cel_33))]) [0, 1, 2, 3, 4, 5] rfl
        have hD9 := hD.sub (ws' := [(aR, .inr (0, [.ref aT, .ref aS])), (aT, .inr (2, [.ref aB, .int (nI u), .int (nI en), .int (nI h_30), .int na_31, .int w_28, .int (nI k_29)])), (aB, .inl (kB, 65536, .inl B)), (aS, .inr (1, [.ref aN, .ref aC])), (aN, .inl (kN, 5, .inl (fun j => nI (cnt_32 j)))), (aC, .inl (kC, 52035, .inl cel_33))]) [0, 1, 2, 3, 4, 5] (by decide) rfl
        exact vx_out (fun x hx => (htab x hx).elim) hlocks hce hcv hcl (fun t ht hvm => ⟨(w_28, k_29, h_30, na_31, cnt_32, cel_33), by simp only [zTrack, zListP, zNumP, zB_ok, zB_er, hw_3, hw_17a, hx_34], ⟨hEn, by rw [ht]; exact hP9, hD9⟩, hS.F ht⟩) hS.2.2 (by decide) (by decide)
      ·
        obtain ⟨h_26, rfl⟩ : ∃ z, z = uu := ⟨_, rfl⟩
        obtain ⟨hP1, hD1, hsz1⟩ := hB
        rw [ht] at hP1 hsz1
        obtain ⟨hP, hD⟩ := va_join (wr := []) (w1 := [(aR, .inr (0, [.ref aT, .ref aS])), (aT, .inr (2, [.ref aB, .int (nI u), .int (nI en), .int (nI h_26), .int (nI h_2), .int w, .int wa])), (aB, .inl (kB, 65536, .inl B)), (aS, .inr (1, [.ref aN, .ref aC])), (aN, .inl (kN, 5, .inl (fun j => nI (cnt j)))), (aC, .inl (kC, 52035, .inl (upd cel cc r_13)))]) hP hD [0, 1, 2, 3, 4, 5] [] rfl rfl (by decide) (by decide) hk1 hFc hP1 hD1
        refine zt_tight (hsz1.trans hzs) ?_
        generalize H1 = H at hP hS ⊢
        have hP : va_P (dC, dI) vwCl [(aR, .inr (0, [.ref aT, .ref aS])), (aT, .inr (2, [.ref aB, .int (nI u), .int (nI en), .int (nI h_26), .int (nI h_2), .int w, .int wa])), (aB, .inl (kB, 65536, .inl B)), (aS, .inr (1, [.ref aN, .ref aC])), (aN, .inl (kN, 5, .inl (fun j => nI (cnt j)))), (aC, .inl (kC, 52035, .inl (upd cel cc r_13)))] H := hP
        have hD : va_D A [(aR, .inr (0, [.ref aT, .ref aS])), (aT, .inr (2, [.ref aB, .int (nI u), .int (nI en), .int (nI h_26), .int (nI h_2), .int w, .int wa])), (aB, .inl (kB, 65536, .inl B)), (aS, .inr (1, [.ref aN, .ref aC])), (aN, .inl (kN, 5, .inl (fun j => nI (cnt j)))), (aC, .inl (kC, 52035, .inl (upd cel cc r_13)))] := hD
        have hw_27i := zName_in hw_27
        refine lv_aload_n hx hb d_Rd_takeTrack_33 rfl (lv_at hl 0 rfl) ?_
        refine lv_iload_n hx hb d_Rd_takeTrack_34 rfl (lv_at hl 1 rfl) ?_
        refine lv_iconst (v := 1) hx hb d_Rd_takeTrack_35 (by decide) ?_
        refine lv_iadd hx hb d_Rd_takeTrack_36 ?_
        refine zt_top (nI_add cc 1) ?_
        refine lv_iconst (v := 0) hx hb d_Rd_takeTrack_37 (by decide) ?_
        refine lv_iconst (v := 2) hx hb d_Rd_takeTrack_38 (by decide) ?_
        have hPc := hP.sub (ws' := [(aR, .inr (0, [.ref aT, .ref aS])), (aT, .inr (2, [.ref aB, .int (nI u), .int (nI en), .int (nI h_26), .int (nI h_2), .int w, .int wa])), (aB, .inl (kB, 65536, .inl B)), (aS, .inr (1, [.ref aN, .ref aC])), (aN, .inl (kN, 5, .inl (fun j => nI (cnt j)))), (aC, .inl (kC, 52035, .inl (upd cel cc r_13)))]) [0, 1, 2, 3, 4, 5] rfl
        have hDc := hD.sub (ws' := [(aR, .inr (0, [.ref aT, .ref aS])), (aT, .inr (2, [.ref aB, .int (nI u), .int (nI en), .int (nI h_26), .int (nI h_2), .int w, .int wa])), (aB, .inl (kB, 65536, .inl B)), (aS, .inr (1, [.ref aN, .ref aC])), (aN, .inl (kN, 5, .inl (fun j => nI (cnt j)))), (aC, .inl (kC, 52035, .inl (upd cel cc r_13)))]) [0, 1, 2, 3, 4, 5] (by decide) rfl
        have hKc := hK.sub (tys' := [(kB, .byte), (kN, .int), (kC, .int)]) [0, 1, 2] rfl
        have hFc := va_free (wc := [(aR, .inr (0, [.ref aT, .ref aS])), (aT, .inr (2, [.ref aB, .int (nI u), .int (nI en), .int (nI h_26), .int (nI h_2), .int w, .int wa])), (aB, .inl (kB, 65536, .inl B)), (aS, .inr (1, [.ref aN, .ref aC])), (aN, .inl (kN, 5, .inl (fun j => nI (cnt j)))), (aC, .inl (kC, 52035, .inl (upd cel cc r_13)))]) hD hS hA [0, 1, 2, 3, 4, 5] rfl
        refine zt_size (fun hzs => ?_)
        refine vx_calli (vx_runV (As := [.int (nI (cc + 1)), .int 0, .int 2]) (rest := []) ⟨hx, hb, hml, hown, hts⟩ (c_Rd_takeNumber l hst G dC dI H.size aR aT aS aB u en h_26 (nI h_2) w wa kB B aN aC kN cnt kC (upd cel cc r_13) (cc + 1) 0 2 (by omega) (by omega) (by omega)) (cwV 3 hts (gV tw_387 tw_389 ts_10 tw_2 tw_390 rfl) rfl rfl rfl (by decide +kernel) ⟨Nat.le_of_ble_eq_true rfl, Nat.le_of_ble_eq_true rfl⟩) (PW_preV hPc hKc hDc hE hS hFc (ci := 0) (q0 := 0) rfl rfl) rfl rfl hl.1 rfl (lv_room (Nat.le_of_ble_eq_true rfl)) d_Rd_takeTrack_39 ⟨Nat.le_of_ble_eq_true rfl, Nat.le_of_ble_eq_true rfl⟩) hS (fun q _ h => hFc q h) hFc (fun q _ h => hFc q h) (fun E9 ce9 q9 uu t H1 locs ht hvm hx_46 hB hz1 hk1 hS hce hcv hcl => ?_) (fun r_35 uu t H1 locs ht hvm hw_39 hB hz1 hk1 hS => ?_)
        ·
          obtain ⟨w_40, k_41, h_42, na_43, cnt_44, cel_45⟩ := uu
          obtain ⟨hEn, hP1, hD1⟩ := hB
          rw [ht] at hP1
          obtain ⟨hP, hD⟩ := va_join (wr := []) (w1 := [(aR, .inr (0, [.ref aT, .ref aS])), (aT, .inr (2, [.ref aB, .int (nI u), .int (nI en), .int (nI h_42), .int na_43, .int w_40, .int (nI k_41)])), (aB, .inl (kB, 65536, .inl B)), (aS, .inr (1, [.ref aN, .ref aC])), (aN, .inl (kN, 5, .inl (fun j => nI (cnt_44 j)))), (aC, .inl (kC, 52035, .inl cel_45))]) hP hD [0, 1, 2, 3, 4, 5] [] rfl rfl (by decide) (by decide) hk1 hFc hP1 hD1
          generalize H1 = H at hP hS hce ⊢
          have hP : va_P (dC, dI) vwCl [(aR, .inr (0, [.ref aT, .ref aS])), (aT, .inr (2, [.ref aB, .int (nI u), .int (nI en), .int (nI h_42), .int na_43, .int w_40, .int (nI k_41)])), (aB, .inl (kB, 65536, .inl B)), (aS, .inr (1, [.ref aN, .ref aC])), (aN, .inl (kN, 5, .inl (fun j => nI (cnt_44 j)))), (aC, .inl (kC, 52035, .inl cel_45))] H := hP
          have hD : va_D A [(aR, .inr (0, [.ref aT, .ref aS])), (aT, .inr (2, [.ref aB, .int (nI u), .int (nI en), .int (nI h_42), .int na_43, .int w_40, .int (nI k_41)])), (aB, .inl (kB, 65536, .inl B)), (aS, .inr (1, [.ref aN, .ref aC])), (aN, .inl (kN, 5, .inl (fun j => nI (cnt_44 j)))), (aC, .inl (kC, 52035, .inl cel_45))] := hD
          have hP9 := hP.sub (ws' := [(aR, .inr (0, [.ref aT, .ref aS])), (aT, .inr (2, [.ref aB, .int (nI u), .int (nI en), .int (nI h_42), .int na_43, .int w_40, .int (nI k_41)])), (aB, .inl (kB, 65536, .inl B)), (aS, .inr (1, [.ref aN, .ref aC])), (aN, .inl (kN, 5, .inl (fun j => nI (cnt_44 j)))), (aC, .inl (kC, 52035, .inl cel_45))]) [0, 1, 2, 3, 4, 5] rfl
          have hD9 := hD.sub (ws' := [(aR, .inr (0, [.ref aT, .ref aS])), (aT, .inr (2, [.ref aB, .int (nI u), .int (nI en), .int (nI h_42), .int na_43, .int w_40, .int (nI k_41)])), (aB, .inl (kB, 65536, .inl B)), (aS, .inr (1, [.ref aN, .ref aC])), (aN, .inl (kN, 5, .inl (fun j => nI (cnt_44 j)))), (aC, .inl (kC, 52035, .inl cel_45))]) [0, 1, 2, 3, 4, 5] (by decide) rfl
          exact vx_out (fun x hx => (htab x hx).elim) hlocks hce hcv hcl (fun t ht hvm => ⟨(w_40, k_41, h_42, na_43, cnt_44, cel_45), by simp only [zTrack, zListP, zNumP, zB_ok, zB_er, hw_3, hw_17a, hw_27, hx_46], ⟨hEn, by rw [ht]; exact hP9, hD9⟩, hS.F ht⟩) hS.2.2 (by decide) (by decide)
        ·
          obtain ⟨h_36, na_37, cel_38⟩ := uu
          obtain ⟨hP1, hD1, hsz1⟩ := hB
          rw [ht] at hP1 hsz1
          obtain ⟨hP, hD⟩ := va_join (wr := []) (w1 := [(aR, .inr (0, [.ref aT, .ref aS])), (aT, .inr (2, [.ref aB, .int (nI u), .int (nI en), .int (nI h_36), .int na_37, .int w, .int wa])), (aB, .inl (kB, 65536, .inl B)), (aS, .inr (1, [.ref aN, .ref aC])), (aN, .inl (kN, 5, .inl (fun j => nI (cnt j)))), (aC, .inl (kC, 52035, .inl cel_38))]) hP hD [0, 1, 2, 3, 4, 5] [] rfl rfl (by decide) (by decide) hk1 hFc hP1 hD1
          refine zt_tight (hsz1.trans hzs) ?_
          generalize H1 = H at hP hS ⊢
          have hP : va_P (dC, dI) vwCl [(aR, .inr (0, [.ref aT, .ref aS])), (aT, .inr (2, [.ref aB, .int (nI u), .int (nI en), .int (nI h_36), .int na_37, .int w, .int wa])), (aB, .inl (kB, 65536, .inl B)), (aS, .inr (1, [.ref aN, .ref aC])), (aN, .inl (kN, 5, .inl (fun j => nI (cnt j)))), (aC, .inl (kC, 52035, .inl cel_38))] H := hP
          have hD : va_D A [(aR, .inr (0, [.ref aT, .ref aS])), (aT, .inr (2, [.ref aB, .int (nI u), .int (nI en), .int (nI h_36), .int na_37, .int w, .int wa])), (aB, .inl (kB, 65536, .inl B)), (aS, .inr (1, [.ref aN, .ref aC])), (aN, .inl (kN, 5, .inl (fun j => nI (cnt j)))), (aC, .inl (kC, 52035, .inl cel_38))] := hD
          obtain ⟨hw_39a, rfl, rfl⟩ := hw_39
          have hw_39i := zRNum_in (by omega) hw_39a
          refine lv_istore_n (lv' := [(2, .int r_35), (0, .ref aR), (1, .int (nI cc))]) hx hb d_Rd_takeTrack_42 rfl hl (by decide) rfl (fun ls hl => ?_)
          refine lv_aload_n hx hb d_Rd_takeTrack_43 rfl (lv_at hl 1 rfl) ?_
          refine lv_bipush (v := 44) hx hb d_Rd_takeTrack_44 (by decide) ?_
          refine va_ldcS (q := G.2.1 30) hx hb hown (hE.2.2.2.2.2.2.2 30 (by decide)).2 d_Rd_takeTrack_46 ?_
          have hPc := hP.sub (ws' := [(aR, .inr (0, [.ref aT, .ref aS])), (aT, .inr (2, [.ref aB, .int (nI u), .int (nI en), .int (nI h_36), .int (nI h_26), .int w, .int wa])), (aB, .inl (kB, 65536, .inl B)), (aS, .inr (1, [.ref aN, .ref aC])), (aN, .inl (kN, 5, .inl (fun j => nI (cnt j)))), (aC, .inl (kC, 52035, .inl (upd (upd cel cc r_13) (cc + 1) r_35)))]) [0, 1, 2, 3, 4, 5] rfl
          have hDc := hD.sub (ws' := [(aR, .inr (0, [.ref aT, .ref aS])), (aT, .inr (2, [.ref aB, .int (nI u), .int (nI en), .int (nI h_36), .int (nI h_26), .int w, .int wa])), (aB, .inl (kB, 65536, .inl B)), (aS, .inr (1, [.ref aN, .ref aC])), (aN, .inl (kN, 5, .inl (fun j => nI (cnt j)))), (aC, .inl (kC, 52035, .inl (upd (upd cel cc r_13) (cc + 1) r_35)))]) [0, 1, 2, 3, 4, 5] (by decide) rfl
          have hKc := hK.sub (tys' := [(kB, .byte), (kN, .int), (kC, .int)]) [0, 1, 2] rfl
          have hFc := va_free (wc := [(aR, .inr (0, [.ref aT, .ref aS])), (aT, .inr (2, [.ref aB, .int (nI u), .int (nI en), .int (nI h_36), .int (nI h_26), .int w, .int wa])), (aB, .inl (kB, 65536, .inl B)), (aS, .inr (1, [.ref aN, .ref aC])), (aN, .inl (kN, 5, .inl (fun j => nI (cnt j)))), (aC, .inl (kC, 52035, .inl (upd (upd cel cc r_13) (cc + 1) r_35)))]) hD hS hA [0, 1, 2, 3, 4, 5] rfl
          refine zt_size (fun hzs => ?_)
          refine vx_callv (vx_runV (As := [.int 44, .ref (G.2.1 30)]) (rest := []) ⟨hx, hb, hml, hown, hts⟩ (c_Rd_takeName l hst G dC dI H.size aR aT aS aB u en h_36 (nI h_26) w wa kB B aN aC kN cnt kC (upd (upd cel cc r_13) (cc + 1) r_35) 44 30 (by omega) (by omega) (by decide) (zSb_len _)) (cwV 2 hts (gV tw_359 tw_361 ts_8 tw_2 tw_362 rfl) rfl rfl rfl (by decide +kernel) ⟨Nat.le_of_ble_eq_true rfl, Nat.le_of_ble_eq_true rfl⟩) (PW_preV hPc hKc hDc hE hS hFc (ci := 0) (q0 := 0) rfl rfl) rfl rfl hl.1 rfl (lv_room (Nat.le_of_ble_eq_true rfl)) d_Rd_takeTrack_48 ⟨Nat.le_of_ble_eq_true rfl, Nat.le_of_ble_eq_true rfl⟩) hS (fun q _ h => hFc q h) hFc (fun q _ h => hFc q h) (fun E9 ce9 q9 uu t H1 locs ht hvm hx_56 hB hz1 hk1 hS hce hcv hcl => ?_) (fun uu t H1 locs ht hvm hw_49 hB hz1 hk1 hS => ?_)
          ·
            obtain ⟨w_50, k_51, h_52, na_53, cnt_54, cel_55⟩ := uu
            obtain ⟨hEn, hP1, hD1⟩ := hB
            rw [ht] at hP1
            obtain ⟨hP, hD⟩ := va_join (wr := []) (w1 := [(aR, .inr (0, [.ref aT, .ref aS])), (aT, .inr (2, [.ref aB, .int (nI u), .int (nI en), .int (nI h_52), .int na_53, .int w_50, .int (nI k_51)])), (aB, .inl (kB, 65536, .inl B)), (aS, .inr (1, [.ref aN, .ref aC])), (aN, .inl (kN, 5, .inl (fun j => nI (cnt_54 j)))), (aC, .inl (kC, 52035, .inl cel_55))]) hP hD [0, 1, 2, 3, 4, 5] [] rfl rfl (by decide) (by decide) hk1 hFc hP1 hD1
            generalize H1 = H at hP hS hce ⊢
            have hP : va_P (dC, dI) vwCl [(aR, .inr (0, [.ref aT, .ref aS])), (aT, .inr (2, [.ref aB, .int (nI u), .int (nI en), .int (nI h_52), .int na_53, .int w_50, .int (nI k_51)])), (aB, .inl (kB, 65536, .inl B)), (aS, .inr (1, [.ref aN, .ref aC])), (aN, .inl (kN, 5, .inl (fun j => nI (cnt_54 j)))), (aC, .inl (kC, 52035, .inl cel_55))] H := hP
            have hD : va_D A [(aR, .inr (0, [.ref aT, .ref aS])), (aT, .inr (2, [.ref aB, .int (nI u), .int (nI en), .int (nI h_52), .int na_53, .int w_50, .int (nI k_51)])), (aB, .inl (kB, 65536, .inl B)), (aS, .inr (1, [.ref aN, .ref aC])), (aN, .inl (kN, 5, .inl (fun j => nI (cnt_54 j)))), (aC, .inl (kC, 52035, .inl cel_55))] := hD
            have hP9 := hP.sub (ws' := [(aR, .inr (0, [.ref aT, .ref aS])), (aT, .inr (2, [.ref aB, .int (nI u), .int (nI en), .int (nI h_52), .int na_53, .int w_50, .int (nI k_51)])), (aB, .inl (kB, 65536, .inl B)), (aS, .inr (1, [.ref aN, .ref aC])), (aN, .inl (kN, 5, .inl (fun j => nI (cnt_54 j)))), (aC, .inl (kC, 52035, .inl cel_55))]) [0, 1, 2, 3, 4, 5] rfl
            have hD9 := hD.sub (ws' := [(aR, .inr (0, [.ref aT, .ref aS])), (aT, .inr (2, [.ref aB, .int (nI u), .int (nI en), .int (nI h_52), .int na_53, .int w_50, .int (nI k_51)])), (aB, .inl (kB, 65536, .inl B)), (aS, .inr (1, [.ref aN, .ref aC])), (aN, .inl (kN, 5, .inl (fun j => nI (cnt_54 j)))), (aC, .inl (kC, 52035, .inl cel_55))]) [0, 1, 2, 3, 4, 5] (by decide) rfl
            exact vx_out (fun x hx => (htab x hx).elim) hlocks hce hcv hcl (fun t ht hvm => ⟨(w_50, k_51, h_52, na_53, cnt_54, cel_55), by simp only [zTrack, zListP, zNumP, zB_ok, zB_er, hw_3, hw_17a, hw_27, hw_39a, hx_56], ⟨hEn, by rw [ht]; exact hP9, hD9⟩, hS.F ht⟩) hS.2.2 (by decide) (by decide)
          ·
            obtain ⟨h_48, rfl⟩ : ∃ z, z = uu := ⟨_, rfl⟩
            obtain ⟨hP1, hD1, hsz1⟩ := hB
            rw [ht] at hP1 hsz1
            obtain ⟨hP, hD⟩ := va_join (wr := []) (w1 := [(aR, .inr (0, [.ref aT, .ref aS])), (aT, .inr (2, [.ref aB, .int (nI u), .int (nI en), .int (nI h_48), .int (nI h_26), .int w, .int wa])), (aB, .inl (kB, 65536, .inl B)), (aS, .inr (1, [.ref aN, .ref aC])), (aN, .inl (kN, 5, .inl (fun j => nI (cnt j)))), (aC, .inl (kC, 52035, .inl (upd (upd cel cc r_13) (cc + 1) r_35)))]) hP hD [0, 1, 2, 3, 4, 5] [] rfl rfl (by decide) (by decide) hk1 hFc hP1 hD1
            refine zt_tight (hsz1.trans hzs) ?_
            generalize H1 = H at hP hS ⊢
            have hP : va_P (dC, dI) vwCl [(aR, .inr (0, [.ref aT, .ref aS])), (aT, .inr (2, [.ref aB, .int (nI u), .int (nI en), .int (nI h_48), .int (nI h_26), .int w, .int wa])), (aB, .inl (kB, 65536, .inl B)), (aS, .inr (1, [.ref aN, .ref aC])), (aN, .inl (kN, 5, .inl (fun j => nI (cnt j)))), (aC, .inl (kC, 52035, .inl (upd (upd cel cc r_13) (cc + 1) r_35)))] H := hP
            have hD : va_D A [(aR, .inr (0, [.ref aT, .ref aS])), (aT, .inr (2, [.ref aB, .int (nI u), .int (nI en), .int (nI h_48), .int (nI h_26), .int w, .int wa])), (aB, .inl (kB, 65536, .inl B)), (aS, .inr (1, [.ref aN, .ref aC])), (aN, .inl (kN, 5, .inl (fun j => nI (cnt j)))), (aC, .inl (kC, 52035, .inl (upd (upd cel cc r_13) (cc + 1) r_35)))] := hD
            have hw_49i := zName_in hw_49
            refine lv_aload_n hx hb d_Rd_takeTrack_51 rfl (lv_at hl 1 rfl) ?_
            refine lv_iload_n hx hb d_Rd_takeTrack_52 rfl (lv_at hl 2 rfl) ?_
            refine lv_iconst (v := 2) hx hb d_Rd_takeTrack_53 (by decide) ?_
            refine lv_iadd hx hb d_Rd_takeTrack_54 ?_
            refine zt_top (nI_add cc 2) ?_
            refine lv_iconst (v := 0) hx hb d_Rd_takeTrack_55 (by decide) ?_
            refine lv_iconst (v := 2) hx hb d_Rd_takeTrack_56 (by decide) ?_
            have hPc := hP.sub (ws' := [(aR, .inr (0, [.ref aT, .ref aS])), (aT, .inr (2, [.ref aB, .int (nI u), .int (nI en), .int (nI h_48), .int (nI h_26), .int w, .int wa])), (aB, .inl (kB, 65536, .inl B)), (aS, .inr (1, [.ref aN, .ref aC])), (aN, .inl (kN, 5, .inl (fun j => nI (cnt j)))), (aC, .inl (kC, 52035, .inl (upd (upd cel cc r_13) (cc + 1) r_35)))]) [0, 1, 2, 3, 4, 5] rfl
            have hDc := hD.sub (ws' := [(aR, .inr (0, [.ref aT, .ref aS])), (aT, .inr (2, [.ref aB, .int (nI u), .int (nI en), .int (nI h_48), .int (nI h_26), .int w, .int wa])), (aB, .inl (kB, 65536, .inl B)), (aS, .inr (1, [.ref aN, .ref aC])), (aN, .inl (kN, 5, .inl (fun j => nI (cnt j)))), (aC, .inl (kC, 52035, .inl (upd (upd cel cc r_13) (cc + 1) r_35)))]) [0, 1, 2, 3, 4, 5] (by decide) rfl
            have hKc := hK.sub (tys' := [(kB, .byte), (kN, .int), (kC, .int)]) [0, 1, 2] rfl
            have hFc := va_free (wc := [(aR, .inr (0, [.ref aT, .ref aS])), (aT, .inr (2, [.ref aB, .int (nI u), .int (nI en), .int (nI h_48), .int (nI h_26), .int w, .int wa])), (aB, .inl (kB, 65536, .inl B)), (aS, .inr (1, [.ref aN, .ref aC])), (aN, .inl (kN, 5, .inl (fun j => nI (cnt j)))), (aC, .inl (kC, 52035, .inl (upd (upd cel cc r_13) (cc + 1) r_35)))]) hD hS hA [0, 1, 2, 3, 4, 5] rfl
            refine zt_size (fun hzs => ?_)
            refine vx_calli (vx_runV (As := [.int (nI (cc + 2)), .int 0, .int 2]) (rest := []) ⟨hx, hb, hml, hown, hts⟩ (c_Rd_takeNumber l hst G dC dI H.size aR aT aS aB u en h_48 (nI h_26) w wa kB B aN aC kN cnt kC (upd (upd cel cc r_13) (cc + 1) r_35) (cc + 2) 0 2 (by omega) (by omega) (by omega)) (cwV 3 hts (gV tw_387 tw_389 ts_10 tw_2 tw_390 rfl) rfl rfl rfl (by decide +kernel) ⟨Nat.le_of_ble_eq_true rfl, Nat.le_of_ble_eq_true rfl⟩) (PW_preV hPc hKc hDc hE hS hFc (ci := 0) (q0 := 0) rfl rfl) rfl rfl hl.1 rfl (lv_room (Nat.le_of_ble_eq_true rfl)) d_Rd_takeTrack_57 ⟨Nat.le_of_ble_eq_true rfl, Nat.le_of_ble_eq_true rfl⟩) hS (fun q _ h => hFc q h) hFc (fun q _ h => hFc q h) (fun E9 ce9 q9 uu t H1 locs ht hvm hx_68 hB hz1 hk1 hS hce hcv hcl => ?_) (fun r_57 uu t H1 locs ht hvm hw_61 hB hz1 hk1 hS => ?_)
            ·
              obtain ⟨w_62, k_63, h_64, na_65, cnt_66, cel_67⟩ := uu
              obtain ⟨hEn, hP1, hD1⟩ := hB
              rw [ht] at hP1
              obtain ⟨hP, hD⟩ := va_join (wr := []) (w1 := [(aR, .inr (0, [.ref aT, .ref aS])), (aT, .inr (2, [.ref aB, .int (nI u), .int (nI en), .int (nI h_64), .int na_65, .int w_62, .int (nI k_63)])), (aB, .inl (kB, 65536, .inl B)), (aS, .inr (1, [.ref aN, .ref aC])), (aN, .inl (kN, 5, .inl (fun j => nI (cnt_66 j)))), (aC, .inl (kC, 52035, .inl cel_67))]) hP hD [0, 1, 2, 3, 4, 5] [] rfl rfl (by decide) (by decide) hk1 hFc hP1 hD1
              generalize H1 = H at hP hS hce ⊢
              have hP : va_P (dC, dI) vwCl [(aR, .inr (0, [.ref aT, .ref aS])), (aT, .inr (2, [.ref aB, .int (nI u), .int (nI en), .int (nI h_64), .int na_65, .int w_62, .int (nI k_63)])), (aB, .inl (kB, 65536, .inl B)), (aS, .inr (1, [.ref aN, .ref aC])), (aN, .inl (kN, 5, .inl (fun j => nI (cnt_66 j)))), (aC, .inl (kC, 52035, .inl cel_67))] H := hP
              have hD : va_D A [(aR, .inr (0, [.ref aT, .ref aS])), (aT, .inr (2, [.ref aB, .int (nI u), .int (nI en), .int (nI h_64), .int na_65, .int w_62, .int (nI k_63)])), (aB, .inl (kB, 65536, .inl B)), (aS, .inr (1, [.ref aN, .ref aC])), (aN, .inl (kN, 5, .inl (fun j => nI (cnt_66 j)))), (aC, .inl (kC, 52035, .inl cel_67))] := hD
              have hP9 := hP.sub (ws' := [(aR, .inr (0, [.ref aT, .ref aS])), (aT, .inr (2, [.ref aB, .int (nI u), .int (nI en), .int (nI h_64), .int na_65, .int w_62, .int (nI k_63)])), (aB, .inl (kB, 65536, .inl B)), (aS, .inr (1, [.ref aN, .ref aC])), (aN, .inl (kN, 5, .inl (fun j => nI (cnt_66 j)))), (aC, .inl (kC, 52035, .inl cel_67))]) [0, 1, 2, 3, 4, 5] rfl
              have hD9 := hD.sub (ws' := [(aR, .inr (0, [.ref aT, .ref aS])), (aT, .inr (2, [.ref aB, .int (nI u), .int (nI en), .int (nI h_64), .int na_65, .int w_62, .int (nI k_63)])), (aB, .inl (kB, 65536, .inl B)), (aS, .inr (1, [.ref aN, .ref aC])), (aN, .inl (kN, 5, .inl (fun j => nI (cnt_66 j)))), (aC, .inl (kC, 52035, .inl cel_67))]) [0, 1, 2, 3, 4, 5] (by decide) rfl
              exact vx_out (fun x hx => (htab x hx).elim) hlocks hce hcv hcl (fun t ht hvm => ⟨(w_62, k_63, h_64, na_65, cnt_66, cel_67), by simp only [zTrack, zListP, zNumP, zB_ok, zB_er, hw_3, hw_17a, hw_27, hw_39a, hw_49, hx_68], ⟨hEn, by rw [ht]; exact hP9, hD9⟩, hS.F ht⟩) hS.2.2 (by decide) (by decide)
            ·
              obtain ⟨h_58, na_59, cel_60⟩ := uu
              obtain ⟨hP1, hD1, hsz1⟩ := hB
              rw [ht] at hP1 hsz1
              obtain ⟨hP, hD⟩ := va_join (wr := []) (w1 := [(aR, .inr (0, [.ref aT, .ref aS])), (aT, .inr (2, [.ref aB, .int (nI u), .int (nI en), .int (nI h_58), .int na_59, .int w, .int wa])), (aB, .inl (kB, 65536, .inl B)), (aS, .inr (1, [.ref aN, .ref aC])), (aN, .inl (kN, 5, .inl (fun j => nI (cnt j)))), (aC, .inl (kC, 52035, .inl cel_60))]) hP hD [0, 1, 2, 3, 4, 5] [] rfl rfl (by decide) (by decide) hk1 hFc hP1 hD1
              refine zt_tight (hsz1.trans hzs) ?_
              generalize H1 = H at hP hS ⊢
              have hP : va_P (dC, dI) vwCl [(aR, .inr (0, [.ref aT, .ref aS])), (aT, .inr (2, [.ref aB, .int (nI u), .int (nI en), .int (nI h_58), .int na_59, .int w, .int wa])), (aB, .inl (kB, 65536, .inl B)), (aS, .inr (1, [.ref aN, .ref aC])), (aN, .inl (kN, 5, .inl (fun j => nI (cnt j)))), (aC, .inl (kC, 52035, .inl cel_60))] H := hP
              have hD : va_D A [(aR, .inr (0, [.ref aT, .ref aS])), (aT, .inr (2, [.ref aB, .int (nI u), .int (nI en), .int (nI h_58), .int na_59, .int w, .int wa])), (aB, .inl (kB, 65536, .inl B)), (aS, .inr (1, [.ref aN, .ref aC])), (aN, .inl (kN, 5, .inl (fun j => nI (cnt j)))), (aC, .inl (kC, 52035, .inl cel_60))] := hD
              obtain ⟨hw_61a, rfl, rfl⟩ := hw_61
              have hw_61i := zRNum_in (by omega) hw_61a
              refine lv_pop hx hb d_Rd_takeTrack_60 rfl ?_
              refine lv_aload_n hx hb d_Rd_takeTrack_61 rfl (lv_at hl 1 rfl) ?_
              refine lv_bipush (v := 44) hx hb d_Rd_takeTrack_62 (by decide) ?_
              refine va_ldcS (q := G.2.1 31) hx hb hown (hE.2.2.2.2.2.2.2 31 (by decide)).2 d_Rd_takeTrack_64 ?_
              have hPc := hP.sub (ws' := [(aR, .inr (0, [.ref aT, .ref aS])), (aT, .inr (2, [.ref aB, .int (nI u), .int (nI en), .int (nI h_58), .int (nI h_48), .int w, .int wa])), (aB, .inl (kB, 65536, .inl B)), (aS, .inr (1, [.ref aN, .ref aC])), (aN, .inl (kN, 5, .inl (fun j => nI (cnt j)))), (aC, .inl (kC, 52035, .inl (upd (upd (upd cel cc r_13) (cc + 1) r_35) (cc + 2) r_57)))]) [0, 1, 2, 3, 4, 5] rfl
              have hDc := hD.sub (ws' := [(aR, .inr (0, [.ref aT, .ref aS])), (aT, .inr (2, [.ref aB, .int (nI u), .int (nI en), .int (nI h_58), .int (nI h_48), .int w, .int wa])), (aB, .inl (kB, 65536, .inl B)), (aS, .inr (1, [.ref aN, .ref aC])), (aN, .inl (kN, 5, .inl (fun j => nI (cnt j)))), (aC, .inl (kC, 52035, .inl (upd (upd (upd cel cc r_13) (cc + 1) r_35) (cc + 2) r_57)))]) [0, 1, 2, 3, 4, 5] (by decide) rfl
              have hKc := hK.sub (tys' := [(kB, .byte), (kN, .int), (kC, .int)]) [0, 1, 2] rfl
              have hFc := va_free (wc := [(aR, .inr (0, [.ref aT, .ref aS])), (aT, .inr (2, [.ref aB, .int (nI u), .int (nI en), .int (nI h_58), .int (nI h_48), .int w, .int wa])), (aB, .inl (kB, 65536, .inl B)), (aS, .inr (1, [.ref aN, .ref aC])), (aN, .inl (kN, 5, .inl (fun j => nI (cnt j)))), (aC, .inl (kC, 52035, .inl (upd (upd (upd cel cc r_13) (cc + 1) r_35) (cc + 2) r_57)))]) hD hS hA [0, 1, 2, 3, 4, 5] rfl
              refine zt_size (fun hzs => ?_)
              refine vx_callv (vx_runV (As := [.int 44, .ref (G.2.1 31)]) (rest := []) ⟨hx, hb, hml, hown, hts⟩ (c_Rd_takeName l hst G dC dI H.size aR aT aS aB u en h_58 (nI h_48) w wa kB B aN aC kN cnt kC (upd (upd (upd cel cc r_13) (cc + 1) r_35) (cc + 2) r_57) 44 31 (by omega) (by omega) (by decide) (zSb_len _)) (cwV 2 hts (gV tw_359 tw_361 ts_8 tw_2 tw_362 rfl) rfl rfl rfl (by decide +kernel) ⟨Nat.le_of_ble_eq_true rfl, Nat.le_of_ble_eq_true rfl⟩) (PW_preV hPc hKc hDc hE hS hFc (ci := 0) (q0 := 0) rfl rfl) rfl rfl hl.1 rfl (lv_room (Nat.le_of_ble_eq_true rfl)) d_Rd_takeTrack_66 ⟨Nat.le_of_ble_eq_true rfl, Nat.le_of_ble_eq_true rfl⟩) hS (fun q _ h => hFc q h) hFc (fun q _ h => hFc q h) (fun E9 ce9 q9 uu t H1 locs ht hvm hx_78 hB hz1 hk1 hS hce hcv hcl => ?_) (fun uu t H1 locs ht hvm hw_71 hB hz1 hk1 hS => ?_)
              ·
                obtain ⟨w_72, k_73, h_74, na_75, cnt_76, cel_77⟩ := uu
                obtain ⟨hEn, hP1, hD1⟩ := hB
                rw [ht] at hP1
                obtain ⟨hP, hD⟩ := va_join (wr := []) (w1 := [(aR, .inr (0, [.ref aT, .ref aS])), (aT, .inr (2, [.ref aB, .int (nI u), .int (nI en), .int (nI h_74), .int na_75, .int w_72, .int (nI k_73)])), (aB, .inl (kB, 65536, .inl B)), (aS, .inr (1, [.ref aN, .ref aC])), (aN, .inl (kN, 5, .inl (fun j => nI (cnt_76 j)))), (aC, .inl (kC, 52035, .inl cel_77))]) hP hD [0, 1, 2, 3, 4, 5] [] rfl rfl (by decide) (by decide) hk1 hFc hP1 hD1
                generalize H1 = H at hP hS hce ⊢
                have hP : va_P (dC, dI) vwCl [(aR, .inr (0, [.ref aT, .ref aS])), (aT, .inr (2, [.ref aB, .int (nI u), .int (nI en), .int (nI h_74), .int na_75, .int w_72, .int (nI k_73)])), (aB, .inl (kB, 65536, .inl B)), (aS, .inr (1, [.ref aN, .ref aC])), (aN, .inl (kN, 5, .inl (fun j => nI (cnt_76 j)))), (aC, .inl (kC, 52035, .inl cel_77))] H := hP
                have hD : va_D A [(aR, .inr (0, [.ref aT, .ref aS])), (aT, .inr (2, [.ref aB, .int (nI u), .int (nI en), .int (nI h_74), .int na_75, .int w_72, .int (nI k_73)])), (aB, .inl (kB, 65536, .inl B)), (aS, .inr (1, [.ref aN, .ref aC])), (aN, .inl (kN, 5, .inl (fun j => nI (cnt_76 j)))), (aC, .inl (kC, 52035, .inl cel_77))] := hD
                have hP9 := hP.sub (ws' := [(aR, .inr (0, [.ref aT, .ref aS])), (aT, .inr (2, [.ref aB, .int (nI u), .int (nI en), .int (nI h_74), .int na_75, .int w_72, .int (nI k_73)])), (aB, .inl (kB, 65536, .inl B)), (aS, .inr (1, [.ref aN, .ref aC])), (aN, .inl (kN, 5, .inl (fun j => nI (cnt_76 j)))), (aC, .inl (kC, 52035, .inl cel_77))]) [0, 1, 2, 3, 4, 5] rfl
                have hD9 := hD.sub (ws' := [(aR, .inr (0, [.ref aT, .ref aS])), (aT, .inr (2, [.ref aB, .int (nI u), .int (nI en), .int (nI h_74), .int na_75, .int w_72, .int (nI k_73)])), (aB, .inl (kB, 65536, .inl B)), (aS, .inr (1, [.ref aN, .ref aC])), (aN, .inl (kN, 5, .inl (fun j => nI (cnt_76 j)))), (aC, .inl (kC, 52035, .inl cel_77))]) [0, 1, 2, 3, 4, 5] (by decide) rfl
                exact vx_out (fun x hx => (htab x hx).elim) hlocks hce hcv hcl (fun t ht hvm => ⟨(w_72, k_73, h_74, na_75, cnt_76, cel_77), by simp only [zTrack, zListP, zNumP, zB_ok, zB_er, hw_3, hw_17a, hw_27, hw_39a, hw_49, hw_61a, hx_78], ⟨hEn, by rw [ht]; exact hP9, hD9⟩, hS.F ht⟩) hS.2.2 (by decide) (by decide)
              ·
                obtain ⟨h_70, rfl⟩ : ∃ z, z = uu := ⟨_, rfl⟩
                obtain ⟨hP1, hD1, hsz1⟩ := hB
                rw [ht] at hP1 hsz1
                obtain ⟨hP, hD⟩ := va_join (wr := []) (w1 := [(aR, .inr (0, [.ref aT, .ref aS])), (aT, .inr (2, [.ref aB, .int (nI u), .int (nI en), .int (nI h_70), .int (nI h_48), .int w, .int wa])), (aB, .inl (kB, 65536, .inl B)), (aS, .inr (1, [.ref aN, .ref aC])), (aN, .inl (kN, 5, .inl (fun j => nI (cnt j)))), (aC, .inl (kC, 52035, .inl (upd (upd (upd cel cc r_13) (cc + 1) r_35) (cc + 2) r_57)))]) hP hD [0, 1, 2, 3, 4, 5] [] rfl rfl (by decide) (by decide) hk1 hFc hP1 hD1
                refine zt_tight (hsz1.trans hzs) ?_
                generalize H1 = H at hP hS ⊢
                have hP : va_P (dC, dI) vwCl [(aR, .inr (0, [.ref aT, .ref aS])), (aT, .inr (2, [.ref aB, .int (nI u), .int (nI en), .int (nI h_70), .int (nI h_48), .int w, .int wa])), (aB, .inl (kB, 65536, .inl B)), (aS, .inr (1, [.ref aN, .ref aC])), (aN, .inl (kN, 5, .inl (fun j => nI (cnt j)))), (aC, .inl (kC, 52035, .inl (upd (upd (upd cel cc r_13) (cc + 1) r_35) (cc + 2) r_57)))] H := hP
                have hD : va_D A [(aR, .inr (0, [.ref aT, .ref aS])), (aT, .inr (2, [.ref aB, .int (nI u), .int (nI en), .int (nI h_70), .int (nI h_48), .int w, .int wa])), (aB, .inl (kB, 65536, .inl B)), (aS, .inr (1, [.ref aN, .ref aC])), (aN, .inl (kN, 5, .inl (fun j => nI (cnt j)))), (aC, .inl (kC, 52035, .inl (upd (upd (upd cel cc r_13) (cc + 1) r_35) (cc + 2) r_57)))] := hD
                have hw_71i := zName_in hw_71
                refine lv_aload_n hx hb d_Rd_takeTrack_69 rfl (lv_at hl 1 rfl) ?_
                refine lv_iconst (v := 2) hx hb d_Rd_takeTrack_70 (by decide) ?_
                refine lv_iconst (v := 1) hx hb d_Rd_takeTrack_71 (by decide) ?_
                refine lv_bipush (v := 32) hx hb d_Rd_takeTrack_72 (by decide) ?_
                refine lv_iload_n hx hb d_Rd_takeTrack_74 rfl (lv_at hl 2 rfl) ?_
                refine lv_iconst (v := 4) hx hb d_Rd_takeTrack_75 (by decide) ?_
                refine lv_iadd hx hb d_Rd_takeTrack_76 ?_
                refine zt_top (nI_add cc 4) ?_
                refine lv_iconst (v := 0) hx hb d_Rd_takeTrack_77 (by decide) ?_
                refine lv_ldc (v := 1000000) hx hb hown (hz _ tw_454) d_Rd_takeTrack_78 ?_
                have hPc := hP.sub (ws' := [(aR, .inr (0, [.ref aT, .ref aS])), (aT, .inr (2, [.ref aB, .int (nI u), .int (nI en), .int (nI h_70), .int (nI h_48), .int w, .int wa])), (aB, .inl (kB, 65536, .inl B)), (aS, .inr (1, [.ref aN, .ref aC])), (aN, .inl (kN, 5, .inl (fun j => nI (cnt j)))), (aC, .inl (kC, 52035, .inl (upd (upd (upd cel cc r_13) (cc + 1) r_35) (cc + 2) r_57)))]) [0, 1, 2, 3, 4, 5] rfl
                have hDc := hD.sub (ws' := [(aR, .inr (0, [.ref aT, .ref aS])), (aT, .inr (2, [.ref aB, .int (nI u), .int (nI en), .int (nI h_70), .int (nI h_48), .int w, .int wa])), (aB, .inl (kB, 65536, .inl B)), (aS, .inr (1, [.ref aN, .ref aC])), (aN, .inl (kN, 5, .inl (fun j => nI (cnt j)))), (aC, .inl (kC, 52035, .inl (upd (upd (upd cel cc r_13) (cc + 1) r_35) (cc + 2) r_57)))]) [0, 1, 2, 3, 4, 5] (by decide) rfl
                have hKc := hK.sub (tys' := [(kB, .byte), (kN, .int), (kC, .int)]) [0, 1, 2] rfl
                have hFc := va_free (wc := [(aR, .inr (0, [.ref aT, .ref aS])), (aT, .inr (2, [.ref aB, .int (nI u), .int (nI en), .int (nI h_70), .int (nI h_48), .int w, .int wa])), (aB, .inl (kB, 65536, .inl B)), (aS, .inr (1, [.ref aN, .ref aC])), (aN, .inl (kN, 5, .inl (fun j => nI (cnt j)))), (aC, .inl (kC, 52035, .inl (upd (upd (upd cel cc r_13) (cc + 1) r_35) (cc + 2) r_57)))]) hD hS hA [0, 1, 2, 3, 4, 5] rfl
                refine zt_size (fun hzs => ?_)
                refine vx_calli (vx_runV (As := [.int 2, .int (nI 1), .int (nI 32), .int (nI (cc + 4)), .int 0, .int 1000000]) (rest := []) ⟨hx, hb, hml, hown, hts⟩ (c_Rd_takeList l hst G dC dI H.size aR aT aS aB u en h_70 (nI h_48) w wa kB B aN aC kN cnt kC (upd (upd (upd cel cc r_13) (cc + 1) r_35) (cc + 2) r_57) 2 1 32 (cc + 4) 0 1000000 (by omega) (by omega) (by omega) (by omega) (by omega)) (cwV 6 hts (gV tw_366 tw_368 ts_9 tw_2 tw_369 rfl) rfl rfl rfl (by decide +kernel) ⟨Nat.le_of_ble_eq_true rfl, Nat.le_of_ble_eq_true rfl⟩) (PW_preV hPc hKc hDc hE hS hFc (ci := 0) (q0 := 0) rfl rfl) rfl rfl hl.1 rfl (lv_room (Nat.le_of_ble_eq_true rfl)) d_Rd_takeTrack_80 ⟨Nat.le_of_ble_eq_true rfl, Nat.le_of_ble_eq_true rfl⟩) hS (fun q _ h => hFc q h) hFc (fun q _ h => hFc q h) (fun E9 ce9 q9 uu t H1 locs ht hvm hx_91 hB hz1 hk1 hS hce hcv hcl => ?_) (fun r_79 uu t H1 locs ht hvm hw_84 hB hz1 hk1 hS => ?_)
                ·
                  obtain ⟨w_85, k_86, h_87, na_88, cnt_89, cel_90⟩ := uu
                  obtain ⟨hEn, hP1, hD1⟩ := hB
                  rw [ht] at hP1
                  obtain ⟨hP, hD⟩ := va_join (wr := []) (w1 := [(aR, .inr (0, [.ref aT, .ref aS])), (aT, .inr (2, [.ref aB, .int (nI u), .int (nI en), .int (nI h_87), .int na_88, .int w_85, .int (nI k_86)])), (aB, .inl (kB, 65536, .inl B)), (aS, .inr (1, [.ref aN, .ref aC])), (aN, .inl (kN, 5, .inl (fun j => nI (cnt_89 j)))), (aC, .inl (kC, 52035, .inl cel_90))]) hP hD [0, 1, 2, 3, 4, 5] [] rfl rfl (by decide) (by decide) hk1 hFc hP1 hD1
                  generalize H1 = H at hP hS hce ⊢
                  have hP : va_P (dC, dI) vwCl [(aR, .inr (0, [.ref aT, .ref aS])), (aT, .inr (2, [.ref aB, .int (nI u), .int (nI en), .int (nI h_87), .int na_88, .int w_85, .int (nI k_86)])), (aB, .inl (kB, 65536, .inl B)), (aS, .inr (1, [.ref aN, .ref aC])), (aN, .inl (kN, 5, .inl (fun j => nI (cnt_89 j)))), (aC, .inl (kC, 52035, .inl cel_90))] H := hP
                  have hD : va_D A [(aR, .inr (0, [.ref aT, .ref aS])), (aT, .inr (2, [.ref aB, .int (nI u), .int (nI en), .int (nI h_87), .int na_88, .int w_85, .int (nI k_86)])), (aB, .inl (kB, 65536, .inl B)), (aS, .inr (1, [.ref aN, .ref aC])), (aN, .inl (kN, 5, .inl (fun j => nI (cnt_89 j)))), (aC, .inl (kC, 52035, .inl cel_90))] := hD
                  simp only [zf02, zf01, zf11, zf12, zf21, zf22, decide_true, decide_false] at hx_91
                  have hP9 := hP.sub (ws' := [(aR, .inr (0, [.ref aT, .ref aS])), (aT, .inr (2, [.ref aB, .int (nI u), .int (nI en), .int (nI h_87), .int na_88, .int w_85, .int (nI k_86)])), (aB, .inl (kB, 65536, .inl B)), (aS, .inr (1, [.ref aN, .ref aC])), (aN, .inl (kN, 5, .inl (fun j => nI (cnt_89 j)))), (aC, .inl (kC, 52035, .inl cel_90))]) [0, 1, 2, 3, 4, 5] rfl
                  have hD9 := hD.sub (ws' := [(aR, .inr (0, [.ref aT, .ref aS])), (aT, .inr (2, [.ref aB, .int (nI u), .int (nI en), .int (nI h_87), .int na_88, .int w_85, .int (nI k_86)])), (aB, .inl (kB, 65536, .inl B)), (aS, .inr (1, [.ref aN, .ref aC])), (aN, .inl (kN, 5, .inl (fun j => nI (cnt_89 j)))), (aC, .inl (kC, 52035, .inl cel_90))]) [0, 1, 2, 3, 4, 5] (by decide) rfl
                  exact vx_out (fun x hx => (htab x hx).elim) hlocks hce hcv hcl (fun t ht hvm => ⟨(w_85, k_86, h_87, na_88, cnt_89, cel_90), by simp only [zTrack, zListP, zNumP, zB_ok, zB_er, hw_3, hw_17a, hw_27, hw_39a, hw_49, hw_61a, hw_71, hx_91], ⟨hEn, by rw [ht]; exact hP9, hD9⟩, hS.F ht⟩) hS.2.2 (by decide) (by decide)
                ·
                  obtain ⟨h_80, na_81, cel_82, n_83⟩ := uu
                  obtain ⟨hP1, hD1, hsz1⟩ := hB
                  rw [ht] at hP1 hsz1
                  obtain ⟨hP, hD⟩ := va_join (wr := []) (w1 := [(aR, .inr (0, [.ref aT, .ref aS])), (aT, .inr (2, [.ref aB, .int (nI u), .int (nI en), .int (nI h_80), .int na_81, .int w, .int wa])), (aB, .inl (kB, 65536, .inl B)), (aS, .inr (1, [.ref aN, .ref aC])), (aN, .inl (kN, 5, .inl (fun j => nI (cnt j)))), (aC, .inl (kC, 52035, .inl cel_82))]) hP hD [0, 1, 2, 3, 4, 5] [] rfl rfl (by decide) (by decide) hk1 hFc hP1 hD1
                  refine zt_tight (hsz1.trans hzs) ?_
                  generalize H1 = H at hP hS ⊢
                  have hP : va_P (dC, dI) vwCl [(aR, .inr (0, [.ref aT, .ref aS])), (aT, .inr (2, [.ref aB, .int (nI u), .int (nI en), .int (nI h_80), .int na_81, .int w, .int wa])), (aB, .inl (kB, 65536, .inl B)), (aS, .inr (1, [.ref aN, .ref aC])), (aN, .inl (kN, 5, .inl (fun j => nI (cnt j)))), (aC, .inl (kC, 52035, .inl cel_82))] H := hP
                  have hD : va_D A [(aR, .inr (0, [.ref aT, .ref aS])), (aT, .inr (2, [.ref aB, .int (nI u), .int (nI en), .int (nI h_80), .int na_81, .int w, .int wa])), (aB, .inl (kB, 65536, .inl B)), (aS, .inr (1, [.ref aN, .ref aC])), (aN, .inl (kN, 5, .inl (fun j => nI (cnt j)))), (aC, .inl (kC, 52035, .inl cel_82))] := hD
                  obtain ⟨rfl, hw_84a⟩ := hw_84
                  simp only [zf02, zf01, zf11, zf12, zf21, zf22, decide_true, decide_false] at hw_84a
                  have hw_84i := zList_in (by omega) hw_84a
                  refine lv_istore_n (lv' := [(3, .int (nI n_83)), (2, .int r_35), (0, .ref aR), (1, .int (nI cc))]) hx hb d_Rd_takeTrack_83 rfl hl (by decide) rfl (fun ls hl => ?_)
                  refine lv_aload_n hx hb d_Rd_takeTrack_84 rfl (lv_at hl 2 rfl) ?_
                  refine lv_bipush (v := 44) hx hb d_Rd_takeTrack_85 (by decide) ?_
                  refine va_ldcS (q := G.2.1 32) hx hb hown (hE.2.2.2.2.2.2.2 32 (by decide)).2 d_Rd_takeTrack_87 ?_
                  have hPc := hP.sub (ws' := [(aR, .inr (0, [.ref aT, .ref aS])), (aT, .inr (2, [.ref aB, .int (nI u), .int (nI en), .int (nI h_80), .int na_81, .int w, .int wa])), (aB, .inl (kB, 65536, .inl B)), (aS, .inr (1, [.ref aN, .ref aC])), (aN, .inl (kN, 5, .inl (fun j => nI (cnt j)))), (aC, .inl (kC, 52035, .inl cel_82))]) [0, 1, 2, 3, 4, 5] rfl
                  have hDc := hD.sub (ws' := [(aR, .inr (0, [.ref aT, .ref aS])), (aT, .inr (2, [.ref aB, .int (nI u), .int (nI en), .int (nI h_80), .int na_81, .int w, .int wa])), (aB, .inl (kB, 65536, .inl B)), (aS, .inr (1, [.ref aN, .ref aC])), (aN, .inl (kN, 5, .inl (fun j => nI (cnt j)))), (aC, .inl (kC, 52035, .inl cel_82))]) [0, 1, 2, 3, 4, 5] (by decide) rfl
                  have hKc := hK.sub (tys' := [(kB, .byte), (kN, .int), (kC, .int)]) [0, 1, 2] rfl
                  have hFc := va_free (wc := [(aR, .inr (0, [.ref aT, .ref aS])), (aT, .inr (2, [.ref aB, .int (nI u), .int (nI en), .int (nI h_80), .int na_81, .int w, .int wa])), (aB, .inl (kB, 65536, .inl B)), (aS, .inr (1, [.ref aN, .ref aC])), (aN, .inl (kN, 5, .inl (fun j => nI (cnt j)))), (aC, .inl (kC, 52035, .inl cel_82))]) hD hS hA [0, 1, 2, 3, 4, 5] rfl
                  refine zt_size (fun hzs => ?_)
                  refine vx_callv (vx_runV (As := [.int 44, .ref (G.2.1 32)]) (rest := []) ⟨hx, hb, hml, hown, hts⟩ (c_Rd_takeName l hst G dC dI H.size aR aT aS aB u en h_80 na_81 w wa kB B aN aC kN cnt kC cel_82 44 32 (by omega) (by omega) (by decide) (zSb_len _)) (cwV 2 hts (gV tw_359 tw_361 ts_8 tw_2 tw_362 rfl) rfl rfl rfl (by decide +kernel) ⟨Nat.le_of_ble_eq_true rfl, Nat.le_of_ble_eq_true rfl⟩) (PW_preV hPc hKc hDc hE hS hFc (ci := 0) (q0 := 0) rfl rfl) rfl rfl hl.1 rfl (lv_room (Nat.le_of_ble_eq_true rfl)) d_Rd_takeTrack_89 ⟨Nat.le_of_ble_eq_true rfl, Nat.le_of_ble_eq_true rfl⟩) hS (fun q _ h => hFc q h) hFc (fun q _ h => hFc q h) (fun E9 ce9 q9 uu t H1 locs ht hvm hx_101 hB hz1 hk1 hS hce hcv hcl => ?_) (fun uu t H1 locs ht hvm hw_94 hB hz1 hk1 hS => ?_)
                  ·
                    obtain ⟨w_95, k_96, h_97, na_98, cnt_99, cel_100⟩ := uu
                    obtain ⟨hEn, hP1, hD1⟩ := hB
                    rw [ht] at hP1
                    obtain ⟨hP, hD⟩ := va_join (wr := []) (w1 := [(aR, .inr (0, [.ref aT, .ref aS])), (aT, .inr (2, [.ref aB, .int (nI u), .int (nI en), .int (nI h_97), .int na_98, .int w_95, .int (nI k_96)])), (aB, .inl (kB, 65536, .inl B)), (aS, .inr (1, [.ref aN, .ref aC])), (aN, .inl (kN, 5, .inl (fun j => nI (cnt_99 j)))), (aC, .inl (kC, 52035, .inl cel_100))]) hP hD [0, 1, 2, 3, 4, 5] [] rfl rfl (by decide) (by decide) hk1 hFc hP1 hD1
                    generalize H1 = H at hP hS hce ⊢
                    have hP : va_P (dC, dI) vwCl [(aR, .inr (0, [.ref aT, .ref aS])), (aT, .inr (2, [.ref aB, .int (nI u), .int (nI en), .int (nI h_97), .int na_98, .int w_95, .int (nI k_96)])), (aB, .inl (kB, 65536, .inl B)), (aS, .inr (1, [.ref aN, .ref aC])), (aN, .inl (kN, 5, .inl (fun j => nI (cnt_99 j)))), (aC, .inl (kC, 52035, .inl cel_100))] H := hP
                    have hD : va_D A [(aR, .inr (0, [.ref aT, .ref aS])), (aT, .inr (2, [.ref aB, .int (nI u), .int (nI en), .int (nI h_97), .int na_98, .int w_95, .int (nI k_96)])), (aB, .inl (kB, 65536, .inl B)), (aS, .inr (1, [.ref aN, .ref aC])), (aN, .inl (kN, 5, .inl (fun j => nI (cnt_99 j)))), (aC, .inl (kC, 52035, .inl cel_100))] := hD
                    have hP9 := hP.sub (ws' := [(aR, .inr (0, [.ref aT, .ref aS])), (aT, .inr (2, [.ref aB, .int (nI u), .int (nI en), .int (nI h_97), .int na_98, .int w_95, .int (nI k_96)])), (aB, .inl (kB, 65536, .inl B)), (aS, .inr (1, [.ref aN, .ref aC])), (aN, .inl (kN, 5, .inl (fun j => nI (cnt_99 j)))), (aC, .inl (kC, 52035, .inl cel_100))]) [0, 1, 2, 3, 4, 5] rfl
                    have hD9 := hD.sub (ws' := [(aR, .inr (0, [.ref aT, .ref aS])), (aT, .inr (2, [.ref aB, .int (nI u), .int (nI en), .int (nI h_97), .int na_98, .int w_95, .int (nI k_96)])), (aB, .inl (kB, 65536, .inl B)), (aS, .inr (1, [.ref aN, .ref aC])), (aN, .inl (kN, 5, .inl (fun j => nI (cnt_99 j)))), (aC, .inl (kC, 52035, .inl cel_100))]) [0, 1, 2, 3, 4, 5] (by decide) rfl
                    exact vx_out (fun x hx => (htab x hx).elim) hlocks hce hcv hcl (fun t ht hvm => ⟨(w_95, k_96, h_97, na_98, cnt_99, cel_100), by simp only [zTrack, zListP, zNumP, zB_ok, zB_er, hw_3, hw_17a, hw_27, hw_39a, hw_49, hw_61a, hw_71, hw_84a, hx_101], ⟨hEn, by rw [ht]; exact hP9, hD9⟩, hS.F ht⟩) hS.2.2 (by decide) (by decide)
                  ·
                    obtain ⟨h_93, rfl⟩ : ∃ z, z = uu := ⟨_, rfl⟩
                    obtain ⟨hP1, hD1, hsz1⟩ := hB
                    rw [ht] at hP1 hsz1
                    obtain ⟨hP, hD⟩ := va_join (wr := []) (w1 := [(aR, .inr (0, [.ref aT, .ref aS])), (aT, .inr (2, [.ref aB, .int (nI u), .int (nI en), .int (nI h_93), .int na_81, .int w, .int wa])), (aB, .inl (kB, 65536, .inl B)), (aS, .inr (1, [.ref aN, .ref aC])), (aN, .inl (kN, 5, .inl (fun j => nI (cnt j)))), (aC, .inl (kC, 52035, .inl cel_82))]) hP hD [0, 1, 2, 3, 4, 5] [] rfl rfl (by decide) (by decide) hk1 hFc hP1 hD1
                    refine zt_tight (hsz1.trans hzs) ?_
                    generalize H1 = H at hP hS ⊢
                    have hP : va_P (dC, dI) vwCl [(aR, .inr (0, [.ref aT, .ref aS])), (aT, .inr (2, [.ref aB, .int (nI u), .int (nI en), .int (nI h_93), .int na_81, .int w, .int wa])), (aB, .inl (kB, 65536, .inl B)), (aS, .inr (1, [.ref aN, .ref aC])), (aN, .inl (kN, 5, .inl (fun j => nI (cnt j)))), (aC, .inl (kC, 52035, .inl cel_82))] H := hP
                    have hD : va_D A [(aR, .inr (0, [.ref aT, .ref aS])), (aT, .inr (2, [.ref aB, .int (nI u), .int (nI en), .int (nI h_93), .int na_81, .int w, .int wa])), (aB, .inl (kB, 65536, .inl B)), (aS, .inr (1, [.ref aN, .ref aC])), (aN, .inl (kN, 5, .inl (fun j => nI (cnt j)))), (aC, .inl (kC, 52035, .inl cel_82))] := hD
                    have hw_94i := zName_in hw_94
                    refine lv_iload_n hx hb d_Rd_takeTrack_92 rfl (lv_at hl 1 rfl) ?_
                    refine lv_if_ne (tgt := 101) hx hb d_Rd_takeTrack_93 (by decide) (fun c_102 => ?_) (fun c_102 => ?_)
                    ·
                      refine lv_iload_n hx hb d_Rd_takeTrack_101 rfl (lv_at hl 1 rfl) ?_
                      refine lv_iconst (v := 1) hx hb d_Rd_takeTrack_102 (by decide) ?_
                      refine lv_icmp_ne (tgt := 111) hx hb d_Rd_takeTrack_103 (by decide) (fun c_103 => ?_) (fun c_103 => ?_)
                      ·
                        refine lv_ldc (v := 1048576) hx hb hown (hz _ tw_385) d_Rd_takeTrack_111 ?_
                        refine lv_istore (lv' := [(4, .int 1048576), (3, .int (nI n_83)), (2, .int r_35), (0, .ref aR), (1, .int (nI cc))]) hx hb d_Rd_takeTrack_113 hl (by decide) rfl (fun ls hl => ?_)
                        refine lv_aload_n hx hb d_Rd_takeTrack_115 rfl (lv_at hl 3 rfl) ?_
                        refine lv_iconst (v := 0) hx hb d_Rd_takeTrack_116 (by decide) ?_
                        refine lv_iconst (v := 3) hx hb d_Rd_takeTrack_117 (by decide) ?_
                        refine lv_iload_n hx hb d_Rd_takeTrack_118 rfl (lv_at hl 1 rfl) ?_
                        refine lv_imul hx hb d_Rd_takeTrack_119 ?_
                        refine zt_top (pk_mul 3 n_83) ?_
                        refine lv_iconst (v := 3) hx hb d_Rd_takeTrack_120 (by decide) ?_
                        refine lv_iload_n hx hb d_Rd_takeTrack_121 rfl (lv_at hl 1 rfl) ?_
                        refine lv_imul hx hb d_Rd_takeTrack_122 ?_
                        refine zt_top (pk_mul 3 n_83) ?_
                        refine lv_iload_n hx hb d_Rd_takeTrack_123 rfl (lv_at hl 4 rfl) ?_
                        refine lv_bipush (v := 36) hx hb d_Rd_takeTrack_124 (by decide) ?_
                        refine lv_iadd hx hb d_Rd_takeTrack_126 ?_
                        refine zt_top (nI_add cc 36) ?_
                        refine lv_iload hx hb d_Rd_takeTrack_127 (lv_at hl 0 rfl) ?_
                        refine lv_ineg hx hb d_Rd_takeTrack_129 ?_
                        refine lv_iload hx hb d_Rd_takeTrack_130 (lv_at hl 0 rfl) ?_
                        have hPc := hP.sub (ws' := [(aR, .inr (0, [.ref aT, .ref aS])), (aT, .inr (2, [.ref aB, .int (nI u), .int (nI en), .int (nI h_93), .int na_81, .int w, .int wa])), (aB, .inl (kB, 65536, .inl B)), (aS, .inr (1, [.ref aN, .ref aC])), (aN, .inl (kN, 5, .inl (fun j => nI (cnt j)))), (aC, .inl (kC, 52035, .inl cel_82))]) [0, 1, 2, 3, 4, 5] rfl
                        have hDc := hD.sub (ws' := [(aR, .inr (0, [.ref aT, .ref aS])), (aT, .inr (2, [.ref aB, .int (nI u), .int (nI en), .int (nI h_93), .int na_81, .int w, .int wa])), (aB, .inl (kB, 65536, .inl B)), (aS, .inr (1, [.ref aN, .ref aC])), (aN, .inl (kN, 5, .inl (fun j => nI (cnt j)))), (aC, .inl (kC, 52035, .inl cel_82))]) [0, 1, 2, 3, 4, 5] (by decide) rfl
                        have hKc := hK.sub (tys' := [(kB, .byte), (kN, .int), (kC, .int)]) [0, 1, 2] rfl
                        have hFc := va_free (wc := [(aR, .inr (0, [.ref aT, .ref aS])), (aT, .inr (2, [.ref aB, .int (nI u), .int (nI en), .int (nI h_93), .int na_81, .int w, .int wa])), (aB, .inl (kB, 65536, .inl B)), (aS, .inr (1, [.ref aN, .ref aC])), (aN, .inl (kN, 5, .inl (fun j => nI (cnt j)))), (aC, .inl (kC, 52035, .inl cel_82))]) hD hS hA [0, 1, 2, 3, 4, 5] rfl
                        refine zt_size (fun hzs => ?_)
                        refine vx_calli (vx_runV (As := [.int 0, .int (nI (3 * n_83)), .int (nI (3 * n_83)), .int (nI (cc + 36)), .int (-1048576), .int 1048576]) (rest := []) ⟨hx, hb, hml, hown, hts⟩ (c_Rd_takeList l hst G dC dI H.size aR aT aS aB u en h_93 na_81 w wa kB B aN aC kN cnt kC cel_82 0 (3 * n_83) (3 * n_83) (cc + 36) (-1048576) 1048576 (by omega) (by omega) (by omega) (by omega) (by omega)) (cwV 6 hts (gV tw_366 tw_368 ts_9 tw_2 tw_369 rfl) rfl rfl rfl (by decide +kernel) ⟨Nat.le_of_ble_eq_true rfl, Nat.le_of_ble_eq_true rfl⟩) (PW_preV hPc hKc hDc hE hS hFc (ci := 0) (q0 := 0) rfl rfl) rfl rfl hl.1 rfl (lv_room (Nat.le_of_ble_eq_true rfl)) d_Rd_takeTrack_132 ⟨Nat.le_of_ble_eq_true rfl, Nat.le_of_ble_eq_true rfl⟩) hS (fun q _ h => hFc q h) hFc (fun q _ h => hFc q h) (fun E9 ce9 q9 uu t H1 locs ht hvm hx_116 hB hz1 hk1 hS hce hcv hcl => ?_) (fun r_104 uu t H1 locs ht hvm hw_109 hB hz1 hk1 hS => ?_)
                        ·
                          obtain ⟨w_110, k_111, h_112, na_113, cnt_114, cel_115⟩ := uu
                          obtain ⟨hEn, hP1, hD1⟩ := hB
                          rw [ht] at hP1
                          obtain ⟨hP, hD⟩ := va_join (wr := []) (w1 := [(aR, .inr (0, [.ref aT, .ref aS])), (aT, .inr (2, [.ref aB, .int (nI u), .int (nI en), .int (nI h_112), .int na_113, .int w_110, .int (nI k_111)])), (aB, .inl (kB, 65536, .inl B)), (aS, .inr (1, [.ref aN, .ref aC])), (aN, .inl (kN, 5, .inl (fun j => nI (cnt_114 j)))), (aC, .inl (kC, 52035, .inl cel_115))]) hP hD [0, 1, 2, 3, 4, 5] [] rfl rfl (by decide) (by decide) hk1 hFc hP1 hD1
                          generalize H1 = H at hP hS hce ⊢
                          have hP : va_P (dC, dI) vwCl [(aR, .inr (0, [.ref aT, .ref aS])), (aT, .inr (2, [.ref aB, .int (nI u), .int (nI en), .int (nI h_112), .int na_113, .int w_110, .int (nI k_111)])), (aB, .inl (kB, 65536, .inl B)), (aS, .inr (1, [.ref aN, .ref aC])), (aN, .inl (kN, 5, .inl (fun j => nI (cnt_114 j)))), (aC, .inl (kC, 52035, .inl cel_115))] H := hP
                          have hD : va_D A [(aR, .inr (0, [.ref aT, .ref aS])), (aT, .inr (2, [.ref aB, .int (nI u), .int (nI en), .int (nI h_112), .int na_113, .int w_110, .int (nI k_111)])), (aB, .inl (kB, 65536, .inl B)), (aS, .inr (1, [.ref aN, .ref aC])), (aN, .inl (kN, 5, .inl (fun j => nI (cnt_114 j)))), (aC, .inl (kC, 52035, .inl cel_115))] := hD
                          simp only [zf02, zf01, zf11, zf12, zf21, zf22, decide_true, decide_false] at hx_116
                          have hP9 := hP.sub (ws' := [(aR, .inr (0, [.ref aT, .ref aS])), (aT, .inr (2, [.ref aB, .int (nI u), .int (nI en), .int (nI h_112), .int na_113, .int w_110, .int (nI k_111)])), (aB, .inl (kB, 65536, .inl B)), (aS, .inr (1, [.ref aN, .ref aC])), (aN, .inl (kN, 5, .inl (fun j => nI (cnt_114 j)))), (aC, .inl (kC, 52035, .inl cel_115))]) [0, 1, 2, 3, 4, 5] rfl
                          have hD9 := hD.sub (ws' := [(aR, .inr (0, [.ref aT, .ref aS])), (aT, .inr (2, [.ref aB, .int (nI u), .int (nI en), .int (nI h_112), .int na_113, .int w_110, .int (nI k_111)])), (aB, .inl (kB, 65536, .inl B)), (aS, .inr (1, [.ref aN, .ref aC])), (aN, .inl (kN, 5, .inl (fun j => nI (cnt_114 j)))), (aC, .inl (kC, 52035, .inl cel_115))]) [0, 1, 2, 3, 4, 5] (by decide) rfl
                          exact vx_out (fun x hx => (htab x hx).elim) hlocks hce hcv hcl (fun t ht hvm => ⟨(w_110, k_111, h_112, na_113, cnt_114, cel_115), by simp only [zTrack, zListP, zNumP, zB_ok, zB_er, hw_3, hw_17a, hw_27, hw_39a, hw_49, hw_61a, hw_71, hw_84a, hw_94, hx_116, if_neg c_102], ⟨hEn, by rw [ht]; exact hP9, hD9⟩, hS.F ht⟩) hS.2.2 (by decide) (by decide)
                        ·
                          obtain ⟨h_105, na_106, cel_107, n_108⟩ := uu
                          obtain ⟨hP1, hD1, hsz1⟩ := hB
                          rw [ht] at hP1 hsz1
                          obtain ⟨hP, hD⟩ := va_join (wr := []) (w1 := [(aR, .inr (0, [.ref aT, .ref aS])), (aT, .inr (2, [.ref aB, .int (nI u), .int (nI en), .int (nI h_105), .int na_106, .int w, .int wa])), (aB, .inl (kB, 65536, .inl B)), (aS, .inr (1, [.ref aN, .ref aC])), (aN, .inl (kN, 5, .inl (fun j => nI (cnt j)))), (aC, .inl (kC, 52035, .inl cel_107))]) hP hD [0, 1, 2, 3, 4, 5] [] rfl rfl (by decide) (by decide) hk1 hFc hP1 hD1
                          refine zt_tight (hsz1.trans hzs) ?_
                          generalize H1 = H at hP hS ⊢
                          have hP : va_P (dC, dI) vwCl [(aR, .inr (0, [.ref aT, .ref aS])), (aT, .inr (2, [.ref aB, .int (nI u), .int (nI en), .int (nI h_105), .int na_106, .int w, .int wa])), (aB, .inl (kB, 65536, .inl B)), (aS, .inr (1, [.ref aN, .ref aC])), (aN, .inl (kN, 5, .inl (fun j => nI (cnt j)))), (aC, .inl (kC, 52035, .inl cel_107))] H := hP
                          have hD : va_D A [(aR, .inr (0, [.ref aT, .ref aS])), (aT, .inr (2, [.ref aB, .int (nI u), .int (nI en), .int (nI h_105), .int na_106, .int w, .int wa])), (aB, .inl (kB, 65536, .inl B)), (aS, .inr (1, [.ref aN, .ref aC])), (aN, .inl (kN, 5, .inl (fun j => nI (cnt j)))), (aC, .inl (kC, 52035, .inl cel_107))] := hD
                          obtain ⟨rfl, hw_109a⟩ := hw_109
                          simp only [zf02, zf01, zf11, zf12, zf21, zf22, decide_true, decide_false] at hw_109a
                          have hw_109i := zList_in (by omega) hw_109a
                          refine lv_pop hx hb d_Rd_takeTrack_135 rfl ?_
                          refine lv_aload_n hx hb d_Rd_takeTrack_136 rfl (lv_at hl 3 rfl) ?_
                          refine va_get (D := (dC, dI)) (ci := 0) (v := .ref aS) (C := R_Rd) (T := F_Rd) (N := 2) hx hb hz i_Rd hown hK hP 0 rfl rfl 1 (by decide) (hz _ tw_86) (fun _ h9 => h9) rfl d_Rd_takeTrack_137 ?_
                          refine lv_iload_n hx hb d_Rd_takeTrack_140 rfl (lv_at hl 4 rfl) ?_
                          refine lv_iconst (v := 3) hx hb d_Rd_takeTrack_141 (by decide) ?_
                          refine lv_iadd hx hb d_Rd_takeTrack_142 ?_
                          refine zt_top (nI_add cc 3) ?_
                          refine lv_iload_n hx hb d_Rd_takeTrack_143 rfl (lv_at hl 1 rfl) ?_
                          have hPc := hP.sub (ws' := [(aS, .inr (1, [.ref aN, .ref aC])), (aN, .inl (kN, 5, .inl (fun j => nI (cnt j)))), (aC, .inl (kC, 52035, .inl cel_107))]) [3, 4, 5] rfl
                          have hDc := hD.sub (ws' := [(aS, .inr (1, [.ref aN, .ref aC])), (aN, .inl (kN, 5, .inl (fun j => nI (cnt j)))), (aC, .inl (kC, 52035, .inl cel_107))]) [3, 4, 5] (by decide) rfl
                          have hKc := hK.sub (tys' := [(kN, .int), (kC, .int)]) [1, 2] rfl
                          have hFc := va_free (wc := [(aS, .inr (1, [.ref aN, .ref aC])), (aN, .inl (kN, 5, .inl (fun j => nI (cnt j)))), (aC, .inl (kC, 52035, .inl cel_107))]) hD hS hA [3, 4, 5] rfl
                          refine va_callv (va_runV (As := [.int (nI (cc + 3)), .int (nI n_83)]) (rest := []) ⟨hx, hb, hml, hown, hts⟩ (c_Sc_put l G dC dI H.size aS aN aC kN cnt kC cel_107 (cc + 3) (nI n_83) (by omega)) (cwV 2 hts (gV tw_375 tw_376 tw_377 tw_4 tw_378 rfl) rfl rfl rfl (by decide +kernel) ⟨Nat.le_of_ble_eq_true rfl, Nat.le_of_ble_eq_true rfl⟩) (PW_preV hPc hKc hDc hE hS hFc (ci := 1) (q0 := 0) rfl rfl) rfl rfl hl.1 rfl (lv_room (Nat.le_of_ble_eq_true rfl)) d_Rd_takeTrack_144 ⟨Nat.le_of_ble_eq_true rfl, Nat.le_of_ble_eq_true rfl⟩) hS (fun q _ h => hFc q h) hFc (fun uu t H1 locs ht hvm hw_119 hB hz1 hk1 hS => ?_)
                          obtain ⟨cel_118, rfl⟩ : ∃ z, z = uu := ⟨_, rfl⟩
                          obtain ⟨hP1, hD1, hsz1⟩ := hB
                          rw [ht] at hP1 hsz1
                          obtain ⟨hP, hD⟩ := va_join (wr := [(aR, .inr (0, [.ref aT, .ref aS])), (aT, .inr (2, [.ref aB, .int (nI u), .int (nI en), .int (nI h_105), .int na_106, .int w, .int wa])), (aB, .inl (kB, 65536, .inl B))]) (w1 := [(aS, .inr (1, [.ref aN, .ref aC])), (aN, .inl (kN, 5, .inl (fun j => nI (cnt j)))), (aC, .inl (kC, 52035, .inl cel_118))]) hP hD [3, 4, 5] [0, 1, 2] rfl rfl (by decide) (by decide) hk1 hFc hP1 hD1
                          generalize H1 = H at hP hS ⊢
                          have hP : va_P (dC, dI) vwCl [(aR, .inr (0, [.ref aT, .ref aS])), (aT, .inr (2, [.ref aB, .int (nI u), .int (nI en), .int (nI h_105), .int na_106, .int w, .int wa])), (aB, .inl (kB, 65536, .inl B)), (aS, .inr (1, [.ref aN, .ref aC])), (aN, .inl (kN, 5, .inl (fun j => nI (cnt j)))), (aC, .inl (kC, 52035, .inl cel_118))] H := hP
                          have hD : va_D A [(aR, .inr (0, [.ref aT, .ref aS])), (aT, .inr (2, [.ref aB, .int (nI u), .int (nI en), .int (nI h_105), .int na_106, .int w, .int wa])), (aB, .inl (kB, 65536, .inl B)), (aS, .inr (1, [.ref aN, .ref aC])), (aN, .inl (kN, 5, .inl (fun j => nI (cnt j)))), (aC, .inl (kC, 52035, .inl cel_118))] := hD
                          have e3 := hw_119.symm; subst e3
                          refine zt_size (fun hzs => ?_)
                          have hP9 := hP.sub (ws' := [(aR, .inr (0, [.ref aT, .ref aS])), (aT, .inr (2, [.ref aB, .int (nI u), .int (nI en), .int (nI h_105), .int na_106, .int w, .int wa])), (aB, .inl (kB, 65536, .inl B)), (aS, .inr (1, [.ref aN, .ref aC])), (aN, .inl (kN, 5, .inl (fun j => nI (cnt j)))), (aC, .inl (kC, 52035, .inl (upd cel_107 (cc + 3) (nI n_83))))]) [0, 1, 2, 3, 4, 5] rfl
                          have hD9 := hD.sub (ws' := [(aR, .inr (0, [.ref aT, .ref aS])), (aT, .inr (2, [.ref aB, .int (nI u), .int (nI en), .int (nI h_105), .int na_106, .int w, .int wa])), (aB, .inl (kB, 65536, .inl B)), (aS, .inr (1, [.ref aN, .ref aC])), (aN, .inl (kN, 5, .inl (fun j => nI (cnt j)))), (aC, .inl (kC, 52035, .inl (upd cel_107 (cc + 3) (nI n_83))))]) [0, 1, 2, 3, 4, 5] (by decide) rfl
                          refine W.widen (k := 1) (n := 6) (by decide) (by decide) ?_
                          exact vx_ret (W.vret hx hb hr (fun t ht hW => ⟨⟨(h_105, na_106, upd cel_107 (cc + 3) (nI n_83)), rfl, by simp only [zTrack, zListP, zNumP, zB_ok, hw_3, hw_17a, hw_27, hw_39a, hw_49, hw_61a, hw_71, hw_84a, hw_94, hw_109a, if_neg c_102], by rw [ht]; exact hP9, hD9, by rw [ht]; exact hzs⟩, hS.F ht⟩) hS.2.2 d_Rd_takeTrack_147)
                      ·
                        refine lv_ldc (v := 1048576) hx hb hown (hz _ tw_385) d_Rd_takeTrack_106 ?_
                        refine lv_goto (tgt := 113) hx hb d_Rd_takeTrack_108 (by decide) ?_
                        refine lv_istore (lv' := [(4, .int 1048576), (3, .int (nI n_83)), (2, .int r_35), (0, .ref aR), (1, .int (nI cc))]) hx hb d_Rd_takeTrack_113 hl (by decide) rfl (fun ls hl => ?_)
                        refine lv_aload_n hx hb d_Rd_takeTrack_115 rfl (lv_at hl 3 rfl) ?_
                        refine lv_iconst (v := 0) hx hb d_Rd_takeTrack_116 (by decide) ?_
                        refine lv_iconst (v := 3) hx hb d_Rd_takeTrack_117 (by decide) ?_
                        refine lv_iload_n hx hb d_Rd_takeTrack_118 rfl (lv_at hl 1 rfl) ?_
                        refine lv_imul hx hb d_Rd_takeTrack_119 ?_
                        refine zt_top (pk_mul 3 n_83) ?_
                        refine lv_iconst (v := 3) hx hb d_Rd_takeTrack_120 (by decide) ?_
                        refine lv_iload_n hx hb d_Rd_takeTrack_121 rfl (lv_at hl 1 rfl) ?_
                        refine lv_imul hx hb d_Rd_takeTrack_122 ?_
                        refine zt_top (pk_mul 3 n_83) ?_
                        refine lv_iload_n hx hb d_Rd_takeTrack_123 rfl (lv_at hl 4 rfl) ?_
                        refine lv_bipush (v := 36) hx hb d_Rd_takeTrack_124 (by decide) ?_
                        refine lv_iadd hx hb d_Rd_takeTrack_126 ?_
                        refine zt_top (nI_add cc 36) ?_
                        refine lv_iload hx hb d_Rd_takeTrack_127 (lv_at hl 0 rfl) ?_
                        refine lv_ineg hx hb d_Rd_takeTrack_129 ?_
                        refine lv_iload hx hb d_Rd_takeTrack_130 (lv_at hl 0 rfl) ?_
                        have hPc := hP.sub (ws' := [(aR, .inr (0, [.ref aT, .ref aS])), (aT, .inr (2, [.ref aB, .int (nI u), .int (nI en), .int (nI h_93), .int na_81, .int w, .int wa])), (aB, .inl (kB, 65536, .inl B)), (aS, .inr (1, [.ref aN, .ref aC])), (aN, .inl (kN, 5, .inl (fun j => nI (cnt j)))), (aC, .inl (kC, 52035, .inl cel_82))]) [0, 1, 2, 3, 4, 5] rfl
                        have hDc := hD.sub (ws' := [(aR, .inr (0, [.ref aT, .ref aS])), (aT, .inr (2, [.ref aB, .int (nI u), .int (nI en), .int (nI h_93), .int na_81, .int w, .int wa])), (aB, .inl (kB, 65536, .inl B)), (aS, .inr (1, [.ref aN, .ref aC])), (aN, .inl (kN, 5, .inl (fun j => nI (cnt j)))), (aC, .inl (kC, 52035, .inl cel_82))]) [0, 1, 2, 3, 4, 5] (by decide) rfl
                        have hKc := hK.sub (tys' := [(kB, .byte), (kN, .int), (kC, .int)]) [0, 1, 2] rfl
                        have hFc := va_free (wc := [(aR, .inr (0, [.ref aT, .ref aS])), (aT, .inr (2, [.ref aB, .int (nI u), .int (nI en), .int (nI h_93), .int na_81, .int w, .int wa])), (aB, .inl (kB, 65536, .inl B)), (aS, .inr (1, [.ref aN, .ref aC])), (aN, .inl (kN, 5, .inl (fun j => nI (cnt j)))), (aC, .inl (kC, 52035, .inl cel_82))]) hD hS hA [0, 1, 2, 3, 4, 5] rfl
                        refine zt_size (fun hzs => ?_)
                        refine vx_calli (vx_runV (As := [.int 0, .int (nI (3 * n_83)), .int (nI (3 * n_83)), .int (nI (cc + 36)), .int (-1048576), .int 1048576]) (rest := []) ⟨hx, hb, hml, hown, hts⟩ (c_Rd_takeList l hst G dC dI H.size aR aT aS aB u en h_93 na_81 w wa kB B aN aC kN cnt kC cel_82 0 (3 * n_83) (3 * n_83) (cc + 36) (-1048576) 1048576 (by omega) (by omega) (by omega) (by omega) (by omega)) (cwV 6 hts (gV tw_366 tw_368 ts_9 tw_2 tw_369 rfl) rfl rfl rfl (by decide +kernel) ⟨Nat.le_of_ble_eq_true rfl, Nat.le_of_ble_eq_true rfl⟩) (PW_preV hPc hKc hDc hE hS hFc (ci := 0) (q0 := 0) rfl rfl) rfl rfl hl.1 rfl (lv_room (Nat.le_of_ble_eq_true rfl)) d_Rd_takeTrack_132 ⟨Nat.le_of_ble_eq_true rfl, Nat.le_of_ble_eq_true rfl⟩) hS (fun q _ h => hFc q h) hFc (fun q _ h => hFc q h) (fun E9 ce9 q9 uu t H1 locs ht hvm hx_132 hB hz1 hk1 hS hce hcv hcl => ?_) (fun r_120 uu t H1 locs ht hvm hw_125 hB hz1 hk1 hS => ?_)
                        ·
                          obtain ⟨w_126, k_127, h_128, na_129, cnt_130, cel_131⟩ := uu
                          obtain ⟨hEn, hP1, hD1⟩ := hB
                          rw [ht] at hP1
                          obtain ⟨hP, hD⟩ := va_join (wr := []) (w1 := [(aR, .inr (0, [.ref aT, .ref aS])), (aT, .inr (2, [.ref aB, .int (nI u), .int (nI en), .int (nI h_128), .int na_129, .int w_126, .int (nI k_127)])), (aB, .inl (kB, 65536, .inl B)), (aS, .inr (1, [.ref aN, .ref aC])), (aN, .inl (kN, 5, .inl (fun j => nI (cnt_130 j)))), (aC, .inl (kC, 52035, .inl cel_131))]) hP hD [0, 1, 2, 3, 4, 5] [] rfl rfl (by decide) (by decide) hk1 hFc hP1 hD1
                          generalize H1 = H at hP hS hce ⊢
                          have hP : va_P (dC, dI) vwCl [(aR, .inr (0, [.ref aT, .ref aS])), (aT, .inr (2, [.ref aB, .int (nI u), .int (nI en), .int (nI h_128), .int na_129, .int w_126, .int (nI k_127)])), (aB, .inl (kB, 65536, .inl B)), (aS, .inr (1, [.ref aN, .ref aC])), (aN, .inl (kN, 5, .inl (fun j => nI (cnt_130 j)))), (aC, .inl (kC, 52035, .inl cel_131))] H := hP
                          have hD : va_D A [(aR, .inr (0, [.ref aT, .ref aS])), (aT, .inr (2, [.ref aB, .int (nI u), .int (nI en), .int (nI h_128), .int na_129, .int w_126, .int (nI k_127)])), (aB, .inl (kB, 65536, .inl B)), (aS, .inr (1, [.ref aN, .ref aC])), (aN, .inl (kN, 5, .inl (fun j => nI (cnt_130 j)))), (aC, .inl (kC, 52035, .inl cel_131))] := hD
                          simp only [zf02, zf01, zf11, zf12, zf21, zf22, decide_true, decide_false] at hx_132
                          have hP9 := hP.sub (ws' := [(aR, .inr (0, [.ref aT, .ref aS])), (aT, .inr (2, [.ref aB, .int (nI u), .int (nI en), .int (nI h_128), .int na_129, .int w_126, .int (nI k_127)])), (aB, .inl (kB, 65536, .inl B)), (aS, .inr (1, [.ref aN, .ref aC])), (aN, .inl (kN, 5, .inl (fun j => nI (cnt_130 j)))), (aC, .inl (kC, 52035, .inl cel_131))]) [0, 1, 2, 3, 4, 5] rfl
                          have hD9 := hD.sub (ws' := [(aR, .inr (0, [.ref aT, .ref aS])), (aT, .inr (2, [.ref aB, .int (nI u), .int (nI en), .int (nI h_128), .int na_129, .int w_126, .int (nI k_127)])), (aB, .inl (kB, 65536, .inl B)), (aS, .inr (1, [.ref aN, .ref aC])), (aN, .inl (kN, 5, .inl (fun j => nI (cnt_130 j)))), (aC, .inl (kC, 52035, .inl cel_131))]) [0, 1, 2, 3, 4, 5] (by decide) rfl
                          exact vx_out (fun x hx => (htab x hx).elim) hlocks hce hcv hcl (fun t ht hvm => ⟨(w_126, k_127, h_128, na_129, cnt_130, cel_131), by simp only [zTrack, zListP, zNumP, zB_ok, zB_er, hw_3, hw_17a, hw_27, hw_39a, hw_49, hw_61a, hw_71, hw_84a, hw_94, hx_132, if_neg c_102], ⟨hEn, by rw [ht]; exact hP9, hD9⟩, hS.F ht⟩) hS.2.2 (by decide) (by decide)
                        ·
                          obtain ⟨h_121, na_122, cel_123, n_124⟩ := uu
                          obtain ⟨hP1, hD1, hsz1⟩ := hB
                          rw [ht] at hP1 hsz1
                          obtain ⟨hP, hD⟩ := va_join (wr := []) (w1 := [(aR, .inr (0, [.ref aT, .ref aS])), (aT, .inr (2, [.ref aB, .int (nI u), .int (nI en), .int (nI h_121), .int na_122, .int w, .int wa])), (aB, .inl (kB, 65536, .inl B)), (aS, .inr (1, [.ref aN, .ref aC])), (aN, .inl (kN, 5, .inl (fun j => nI (cnt j)))), (aC, .inl (kC, 52035, .inl cel_123))]) hP hD [0, 1, 2, 3, 4, 5] [] rfl rfl (by decide) (by decide) hk1 hFc hP1 hD1
                          refine zt_tight (hsz1.trans hzs) ?_
                          generalize H1 = H at hP hS ⊢
                          have hP : va_P (dC, dI) vwCl [(aR, .inr (0, [.ref aT, .ref aS])), (aT, .inr (2, [.ref aB, .int (nI u), .int (nI en), .int (nI h_121), .int na_122, .int w, .int wa])), (aB, .inl (kB, 65536, .inl B)), (aS, .inr (1, [.ref aN, .ref aC])), (aN, .inl (kN, 5, .inl (fun j => nI (cnt j)))), (aC, .inl (kC, 52035, .inl cel_123))] H := hP
                          have hD : va_D A [(aR, .inr (0, [.ref aT, .ref aS])), (aT, .inr (2, [.ref aB, .int (nI u), .int (nI en), .int (nI h_121), .int na_122, .int w, .int wa])), (aB, .inl (kB, 65536, .inl B)), (aS, .inr (1, [.ref aN, .ref aC])), (aN, .inl (kN, 5, .inl (fun j => nI (cnt j)))), (aC, .inl (kC, 52035, .inl cel_123))] := hD
                          obtain ⟨rfl, hw_125a⟩ := hw_125
                          simp only [zf02, zf01, zf11, zf12, zf21, zf22, decide_true, decide_false] at hw_125a
                          have hw_125i := zList_in (by omega) hw_125a
                          refine lv_pop hx hb d_Rd_takeTrack_135 rfl ?_
                          refine lv_aload_n hx hb d_Rd_takeTrack_136 rfl (lv_at hl 3 rfl) ?_
                          refine va_get (D := (dC, dI)) (ci := 0) (v := .ref aS) (C := R_Rd) (T := F_Rd) (N := 2) hx hb hz i_Rd hown hK hP 0 rfl rfl 1 (by decide) (hz _ tw_86) (fun _ h9 => h9) rfl d_Rd_takeTrack_137 ?_
                          refine lv_iload_n hx hb d_Rd_takeTrack_140 rfl (lv_at hl 4 rfl) ?_
                          refine lv_iconst (v := 3) hx hb d_Rd_takeTrack_141 (by decide) ?_
                          refine lv_iadd hx hb d_Rd_takeTrack_142 ?_
                          refine zt_top (nI_add cc 3) ?_
                          refine lv_iload_n hx hb d_Rd_takeTrack_143 rfl (lv_at hl 1 rfl) ?_
                          have hPc := hP.sub (ws' := [(aS, .inr (1, [.ref aN, .ref aC])), (aN, .inl (kN, 5, .inl (fun j => nI (cnt j)))), (aC, .inl (kC, 52035, .inl cel_123))]) [3, 4, 5] rfl
                          have hDc := hD.sub (ws' := [(aS, .inr (1, [.ref aN, .ref aC])), (aN, .inl (kN, 5, .inl (fun j => nI (cnt j)))), (aC, .inl (kC, 52035, .inl cel_123))]) [3, 4, 5] (by decide) rfl
                          have hKc := hK.sub (tys' := [(kN, .int), (kC, .int)]) [1, 2] rfl
                          have hFc := va_free (wc := [(aS, .inr (1, [.ref aN, .ref aC])), (aN, .inl (kN, 5, .inl (fun j => nI (cnt j)))), (aC, .inl (kC, 52035, .inl cel_123))]) hD hS hA [3, 4, 5] rfl
                          refine va_callv (va_runV (As := [.int (nI (cc + 3)), .int (nI n_83)]) (rest := []) ⟨hx, hb, hml, hown, hts⟩ (c_Sc_put l G dC dI H.size aS aN aC kN cnt kC cel_123 (cc + 3) (nI n_83) (by omega)) (cwV 2 hts (gV tw_375 tw_376 tw_377 tw_4 tw_378 rfl) rfl rfl rfl (by decide +kernel) ⟨Nat.le_of_ble_eq_true rfl, Nat.le_of_ble_eq_true rfl⟩) (PW_preV hPc hKc hDc hE hS hFc (ci := 1) (q0 := 0) rfl rfl) rfl rfl hl.1 rfl (lv_room (Nat.le_of_ble_eq_true rfl)) d_Rd_takeTrack_144 ⟨Nat.le_of_ble_eq_true rfl, Nat.le_of_ble_eq_true rfl⟩) hS (fun q _ h => hFc q h) hFc (fun uu t H1 locs ht hvm hw_135 hB hz1 hk1 hS => ?_)
                          obtain ⟨cel_134, rfl⟩ : ∃ z, z = uu := ⟨_, rfl⟩
                          obtain ⟨hP1, hD1, hsz1⟩ := hB
                          rw [ht] at hP1 hsz1
                          obtain ⟨hP, hD⟩ := va_join (wr := [(aR, .inr (0, [.ref aT, .ref aS])), (aT, .inr (2, [.ref aB, .int (nI u), .int (nI en), .int (nI h_121), .int na_122, .int w, .int wa])), (aB, .inl (kB, 65536, .inl B))]) (w1 := [(aS, .inr (1, [.ref aN, .ref aC])), (aN, .inl (kN, 5, .inl (fun j => nI (cnt j)))), (aC, .inl (kC, 52035, .inl cel_134))]) hP hD [3, 4, 5] [0, 1, 2] rfl rfl (by decide) (by decide) hk1 hFc hP1 hD1
                          generalize H1 = H at hP hS ⊢
                          have hP : va_P (dC, dI) vwCl [(aR, .inr (0, [.ref aT, .ref aS])), (aT, .inr (2, [.ref aB, .int (nI u), .int (nI en), .int (nI h_121), .int na_122, .int w, .int wa])), (aB, .inl (kB, 65536, .inl B)), (aS, .inr (1, [.ref aN, .ref aC])), (aN, .inl (kN, 5, .inl (fun j => nI (cnt j)))), (aC, .inl (kC, 52035, .inl cel_134))] H := hP
                          have hD : va_D A [(aR, .inr (0, [.ref aT, .ref aS])), (aT, .inr (2, [.ref aB, .int (nI u), .int (nI en), .int (nI h_121), .int na_122, .int w, .int wa])), (aB, .inl (kB, 65536, .inl B)), (aS, .inr (1, [.ref aN, .ref aC])), (aN, .inl (kN, 5, .inl (fun j => nI (cnt j)))), (aC, .inl (kC, 52035, .inl cel_134))] := hD
                          have e3 := hw_135.symm; subst e3
                          refine zt_size (fun hzs => ?_)
                          have hP9 := hP.sub (ws' := [(aR, .inr (0, [.ref aT, .ref aS])), (aT, .inr (2, [.ref aB, .int (nI u), .int (nI en), .int (nI h_121), .int na_122, .int w, .int wa])), (aB, .inl (kB, 65536, .inl B)), (aS, .inr (1, [.ref aN, .ref aC])), (aN, .inl (kN, 5, .inl (fun j => nI (cnt j)))), (aC, .inl (kC, 52035, .inl (upd cel_123 (cc + 3) (nI n_83))))]) [0, 1, 2, 3, 4, 5] rfl
                          have hD9 := hD.sub (ws' := [(aR, .inr (0, [.ref aT, .ref aS])), (aT, .inr (2, [.ref aB, .int (nI u), .int (nI en), .int (nI h_121), .int na_122, .int w, .int wa])), (aB, .inl (kB, 65536, .inl B)), (aS, .inr (1, [.ref aN, .ref aC])), (aN, .inl (kN, 5, .inl (fun j => nI (cnt j)))), (aC, .inl (kC, 52035, .inl (upd cel_123 (cc + 3) (nI n_83))))]) [0, 1, 2, 3, 4, 5] (by decide) rfl
                          refine W.widen (k := 1) (n := 6) (by decide) (by decide) ?_
                          exact vx_ret (W.vret hx hb hr (fun t ht hW => ⟨⟨(h_121, na_122, upd cel_123 (cc + 3) (nI n_83)), rfl, by simp only [zTrack, zListP, zNumP, zB_ok, hw_3, hw_17a, hw_27, hw_39a, hw_49, hw_61a, hw_71, hw_84a, hw_94, hw_125a, if_neg c_102], by rw [ht]; exact hP9, hD9, by rw [ht]; exact hzs⟩, hS.F ht⟩) hS.2.2 d_Rd_takeTrack_147)
                    ·
                      refine lv_ldc (v := 4194304) hx hb hown (hz _ tw_365) d_Rd_takeTrack_96 ?_
                      refine lv_goto (tgt := 113) hx hb d_Rd_takeTrack_98 (by decide) ?_
                      refine lv_istore (lv' := [(4, .int 4194304), (3, .int (nI n_83)), (2, .int r_35), (0, .ref aR), (1, .int (nI cc))]) hx hb d_Rd_takeTrack_113 hl (by decide) rfl (fun ls hl => ?_)
                      refine lv_aload_n hx hb d_Rd_takeTrack_115 rfl (lv_at hl 3 rfl) ?_
                      refine lv_iconst (v := 0) hx hb d_Rd_takeTrack_116 (by decide) ?_
                      refine lv_iconst (v := 3) hx hb d_Rd_takeTrack_117 (by decide) ?_
                      refine lv_iload_n hx hb d_Rd_takeTrack_118 rfl (lv_at hl 1 rfl) ?_
                      refine lv_imul hx hb d_Rd_takeTrack_119 ?_
                      refine zt_top (pk_mul 3 n_83) ?_
                      refine lv_iconst (v := 3) hx hb d_Rd_takeTrack_120 (by decide) ?_
                      refine lv_iload_n hx hb d_Rd_takeTrack_121 rfl (lv_at hl 1 rfl) ?_
                      refine lv_imul hx hb d_Rd_takeTrack_122 ?_
                      refine zt_top (pk_mul 3 n_83) ?_
                      refine lv_iload_n hx hb d_Rd_takeTrack_123 rfl (lv_at hl 4 rfl) ?_
                      refine lv_bipush (v := 36) hx hb d_Rd_takeTrack_124 (by decide) ?_
                      refine lv_iadd hx hb d_Rd_takeTrack_126 ?_
                      refine zt_top (nI_add cc 36) ?_
                      refine lv_iload hx hb d_Rd_takeTrack_127 (lv_at hl 0 rfl) ?_
                      refine lv_ineg hx hb d_Rd_takeTrack_129 ?_
                      refine lv_iload hx hb d_Rd_takeTrack_130 (lv_at hl 0 rfl) ?_
                      have hPc := hP.sub (ws' := [(aR, .inr (0, [.ref aT, .ref aS])), (aT, .inr (2, [.ref aB, .int (nI u), .int (nI en), .int (nI h_93), .int na_81, .int w, .int wa])), (aB, .inl (kB, 65536, .inl B)), (aS, .inr (1, [.ref aN, .ref aC])), (aN, .inl (kN, 5, .inl (fun j => nI (cnt j)))), (aC, .inl (kC, 52035, .inl cel_82))]) [0, 1, 2, 3, 4, 5] rfl
                      have hDc := hD.sub (ws' := [(aR, .inr (0, [.ref aT, .ref aS])), (aT, .inr (2, [.ref aB, .int (nI u), .int (nI en), .int (nI h_93), .int na_81, .int w, .int wa])), (aB, .inl (kB, 65536, .inl B)), (aS, .inr (1, [.ref aN, .ref aC])), (aN, .inl (kN, 5, .inl (fun j => nI (cnt j)))), (aC, .inl (kC, 52035, .inl cel_82))]) [0, 1, 2, 3, 4, 5] (by decide) rfl
                      have hKc := hK.sub (tys' := [(kB, .byte), (kN, .int), (kC, .int)]) [0, 1, 2] rfl
                      have hFc := va_free (wc := [(aR, .inr (0, [.ref aT, .ref aS])), (aT, .inr (2, [.ref aB, .int (nI u), .int (nI en), .int (nI h_93), .int na_81, .int w, .int wa])), (aB, .inl (kB, 65536, .inl B)), (aS, .inr (1, [.ref aN, .ref aC])), (aN, .inl (kN, 5, .inl (fun j => nI (cnt j)))), (aC, .inl (kC, 52035, .inl cel_82))]) hD hS hA [0, 1, 2, 3, 4, 5] rfl
                      refine zt_size (fun hzs => ?_)
                      refine vx_calli (vx_runV (As := [.int 0, .int (nI (3 * n_83)), .int (nI (3 * n_83)), .int (nI (cc + 36)), .int (-4194304), .int 4194304]) (rest := []) ⟨hx, hb, hml, hown, hts⟩ (c_Rd_takeList l hst G dC dI H.size aR aT aS aB u en h_93 na_81 w wa kB B aN aC kN cnt kC cel_82 0 (3 * n_83) (3 * n_83) (cc + 36) (-4194304) 4194304 (by omega) (by omega) (by omega) (by omega) (by omega)) (cwV 6 hts (gV tw_366 tw_368 ts_9 tw_2 tw_369 rfl) rfl rfl rfl (by decide +kernel) ⟨Nat.le_of_ble_eq_true rfl, Nat.le_of_ble_eq_true rfl⟩) (PW_preV hPc hKc hDc hE hS hFc (ci := 0) (q0 := 0) rfl rfl) rfl rfl hl.1 rfl (lv_room (Nat.le_of_ble_eq_true rfl)) d_Rd_takeTrack_132 ⟨Nat.le_of_ble_eq_true rfl, Nat.le_of_ble_eq_true rfl⟩) hS (fun q _ h => hFc q h) hFc (fun q _ h => hFc q h) (fun E9 ce9 q9 uu t H1 locs ht hvm hx_148 hB hz1 hk1 hS hce hcv hcl => ?_) (fun r_136 uu t H1 locs ht hvm hw_141 hB hz1 hk1 hS => ?_)
                      ·
                        obtain ⟨w_142, k_143, h_144, na_145, cnt_146, cel_147⟩ := uu
                        obtain ⟨hEn, hP1, hD1⟩ := hB
                        rw [ht] at hP1
                        obtain ⟨hP, hD⟩ := va_join (wr := []) (w1 := [(aR, .inr (0, [.ref aT, .ref aS])), (aT, .inr (2, [.ref aB, .int (nI u), .int (nI en), .int (nI h_144), .int na_145, .int w_142, .int (nI k_143)])), (aB, .inl (kB, 65536, .inl B)), (aS, .inr (1, [.ref aN, .ref aC])), (aN, .inl (kN, 5, .inl (fun j => nI (cnt_146 j)))), (aC, .inl (kC, 52035, .inl cel_147))]) hP hD [0, 1, 2, 3, 4, 5] [] rfl rfl (by decide) (by decide) hk1 hFc hP1 hD1
                        generalize H1 = H at hP hS hce ⊢
                        have hP : va_P (dC, dI) vwCl [(aR, .inr (0, [.ref aT, .ref aS])), (aT, .inr (2, [.ref aB, .int (nI u), .int (nI en), .int (nI h_144), .int na_145, .int w_142, .int (nI k_143)])), (aB, .inl (kB, 65536, .inl B)), (aS, .inr (1, [.ref aN, .ref aC])), (aN, .inl (kN, 5, .inl (fun j => nI (cnt_146 j)))), (aC, .inl (kC, 52035, .inl cel_147))] H := hP
                        have hD : va_D A [(aR, .inr (0, [.ref aT, .ref aS])), (aT, .inr (2, [.ref aB, .int (nI u), .int (nI en), .int (nI h_144), .int na_145, .int w_142, .int (nI k_143)])), (aB, .inl (kB, 65536, .inl B)), (aS, .inr (1, [.ref aN, .ref aC])), (aN, .inl (kN, 5, .inl (fun j => nI (cnt_146 j)))), (aC, .inl (kC, 52035, .inl cel_147))] := hD
                        simp only [zf02, zf01, zf11, zf12, zf21, zf22, decide_true, decide_false] at hx_148
                        have hP9 := hP.sub (ws' := [(aR, .inr (0, [.ref aT, .ref aS])), (aT, .inr (2, [.ref aB, .int (nI u), .int (nI en), .int (nI h_144), .int na_145, .int w_142, .int (nI k_143)])), (aB, .inl (kB, 65536, .inl B)), (aS, .inr (1, [.ref aN, .ref aC])), (aN, .inl (kN, 5, .inl (fun j => nI (cnt_146 j)))), (aC, .inl (kC, 52035, .inl cel_147))]) [0, 1, 2, 3, 4, 5] rfl
                        have hD9 := hD.sub (ws' := [(aR, .inr (0, [.ref aT, .ref aS])), (aT, .inr (2, [.ref aB, .int (nI u), .int (nI en), .int (nI h_144), .int na_145, .int w_142, .int (nI k_143)])), (aB, .inl (kB, 65536, .inl B)), (aS, .inr (1, [.ref aN, .ref aC])), (aN, .inl (kN, 5, .inl (fun j => nI (cnt_146 j)))), (aC, .inl (kC, 52035, .inl cel_147))]) [0, 1, 2, 3, 4, 5] (by decide) rfl
                        exact vx_out (fun x hx => (htab x hx).elim) hlocks hce hcv hcl (fun t ht hvm => ⟨(w_142, k_143, h_144, na_145, cnt_146, cel_147), by simp only [zTrack, zListP, zNumP, zB_ok, zB_er, hw_3, hw_17a, hw_27, hw_39a, hw_49, hw_61a, hw_71, hw_84a, hw_94, hx_148, if_pos c_102], ⟨hEn, by rw [ht]; exact hP9, hD9⟩, hS.F ht⟩) hS.2.2 (by decide) (by decide)
                      ·
                        obtain ⟨h_137, na_138, cel_139, n_140⟩ := uu
                        obtain ⟨hP1, hD1, hsz1⟩ := hB
                        rw [ht] at hP1 hsz1
                        obtain ⟨hP, hD⟩ := va_join (wr := []) (w1 := [(aR, .inr (0, [.ref aT, .ref aS])), (aT, .inr (2, [.ref aB, .int (nI u), .int (nI en), .int (nI h_137), .int na_138, .int w, .int wa])), (aB, .inl (kB, 65536, .inl B)), (aS, .inr (1, [.ref aN, .ref aC])), (aN, .inl (kN, 5, .inl (fun j => nI (cnt j)))), (aC, .inl (kC, 52035, .inl cel_139))]) hP hD [0, 1, 2, 3, 4, 5] [] rfl rfl (by decide) (by decide) hk1 hFc hP1 hD1
                        refine zt_tight (hsz1.trans hzs) ?_
                        generalize H1 = H at hP hS ⊢
                        have hP : va_P (dC, dI) vwCl [(aR, .inr (0, [.ref aT, .ref aS])), (aT, .inr (2, [.ref aB, .int (nI u), .int (nI en), .int (nI h_137), .int na_138, .int w, .int wa])), (aB, .inl (kB, 65536, .inl B)), (aS, .inr (1, [.ref aN, .ref aC])), (aN, .inl (kN, 5, .inl (fun j => nI (cnt j)))), (aC, .inl (kC, 52035, .inl cel_139))] H := hP
                        have hD : va_D A [(aR, .inr (0, [.ref aT, .ref aS])), (aT, .inr (2, [.ref aB, .int (nI u), .int (nI en), .int (nI h_137), .int na_138, .int w, .int wa])), (aB, .inl (kB, 65536, .inl B)), (aS, .inr (1, [.ref aN, .ref aC])), (aN, .inl (kN, 5, .inl (fun j => nI (cnt j)))), (aC, .inl (kC, 52035, .inl cel_139))] := hD
                        obtain ⟨rfl, hw_141a⟩ := hw_141
                        simp only [zf02, zf01, zf11, zf12, zf21, zf22, decide_true, decide_false] at hw_141a
                        have hw_141i := zList_in (by omega) hw_141a
                        refine lv_pop hx hb d_Rd_takeTrack_135 rfl ?_
                        refine lv_aload_n hx hb d_Rd_takeTrack_136 rfl (lv_at hl 3 rfl) ?_
                        refine va_get (D := (dC, dI)) (ci := 0) (v := .ref aS) (C := R_Rd) (T := F_Rd) (N := 2) hx hb hz i_Rd hown hK hP 0 rfl rfl 1 (by decide) (hz _ tw_86) (fun _ h9 => h9) rfl d_Rd_takeTrack_137 ?_
                        refine lv_iload_n hx hb d_Rd_takeTrack_140 rfl (lv_at hl 4 rfl) ?_
                        refine lv_iconst (v := 3) hx hb d_Rd_takeTrack_141 (by decide) ?_
                        refine lv_iadd hx hb d_Rd_takeTrack_142 ?_
                        refine zt_top (nI_add cc 3) ?_
                        refine lv_iload_n hx hb d_Rd_takeTrack_143 rfl (lv_at hl 1 rfl) ?_
                        have hPc := hP.sub (ws' := [(aS, .inr (1, [.ref aN, .ref aC])), (aN, .inl (kN, 5, .inl (fun j => nI (cnt j)))), (aC, .inl (kC, 52035, .inl cel_139))]) [3, 4, 5] rfl
                        have hDc := hD.sub (ws' := [(aS, .inr (1, [.ref aN, .ref aC])), (aN, .inl (kN, 5, .inl (fun j => nI (cnt j)))), (aC, .inl (kC, 52035, .inl cel_139))]) [3, 4, 5] (by decide) rfl
                        have hKc := hK.sub (tys' := [(kN, .int), (kC, .int)]) [1, 2] rfl
                        have hFc := va_free (wc := [(aS, .inr (1, [.ref aN, .ref aC])), (aN, .inl (kN, 5, .inl (fun j => nI (cnt j)))), (aC, .inl (kC, 52035, .inl cel_139))]) hD hS hA [3, 4, 5] rfl
                        refine va_callv (va_runV (As := [.int (nI (cc + 3)), .int (nI n_83)]) (rest := []) ⟨hx, hb, hml, hown, hts⟩ (c_Sc_put l G dC dI H.size aS aN aC kN cnt kC cel_139 (cc + 3) (nI n_83) (by omega)) (cwV 2 hts (gV tw_375 tw_376 tw_377 tw_4 tw_378 rfl) rfl rfl rfl (by decide +kernel) ⟨Nat.le_of_ble_eq_true rfl, Nat.le_of_ble_eq_true rfl⟩) (PW_preV hPc hKc hDc hE hS hFc (ci := 1) (q0 := 0) rfl rfl) rfl rfl hl.1 rfl (lv_room (Nat.le_of_ble_eq_true rfl)) d_Rd_takeTrack_144 ⟨Nat.le_of_ble_eq_true rfl, Nat.le_of_ble_eq_true rfl⟩) hS (fun q _ h => hFc q h) hFc (fun uu t H1 locs ht hvm hw_151 hB hz1 hk1 hS => ?_)
                        obtain ⟨cel_150, rfl⟩ : ∃ z, z = uu := ⟨_, rfl⟩
                        obtain ⟨hP1, hD1, hsz1⟩ := hB
                        rw [ht] at hP1 hsz1
                        obtain ⟨hP, hD⟩ := va_join (wr := [(aR, .inr (0, [.ref aT, .ref aS])), (aT, .inr (2, [.ref aB, .int (nI u), .int (nI en), .int (nI h_137), .int na_138, .int w, .int wa])), (aB, .inl (kB, 65536, .inl B))]) (w1 := [(aS, .inr (1, [.ref aN, .ref aC])), (aN, .inl (kN, 5, .inl (fun j => nI (cnt j)))), (aC, .inl (kC, 52035, .inl cel_150))]) hP hD [3, 4, 5] [0, 1, 2] rfl rfl (by decide) (by decide) hk1 hFc hP1 hD1
                        generalize H1 = H at hP hS ⊢
                        have hP : va_P (dC, dI) vwCl [(aR, .inr (0, [.ref aT, .ref aS])), (aT, .inr (2, [.ref aB, .int (nI u), .int (nI en), .int (nI h_137), .int na_138, .int w, .int wa])), (aB, .inl (kB, 65536, .inl B)), (aS, .inr (1, [.ref aN, .ref aC])), (aN, .inl (kN, 5, .inl (fun j => nI (cnt j)))), (aC, .inl (kC, 52035, .inl cel_150))] H := hP
                        have hD : va_D A [(aR, .inr (0, [.ref aT, .ref aS])), (aT, .inr (2, [.ref aB, .int (nI u), .int (nI en), .int (nI h_137), .int na_138, .int w, .int wa])), (aB, .inl (kB, 65536, .inl B)), (aS, .inr (1, [.ref aN, .ref aC])), (aN, .inl (kN, 5, .inl (fun j => nI (cnt j)))), (aC, .inl (kC, 52035, .inl cel_150))] := hD
                        have e3 := hw_151.symm; subst e3
                        refine zt_size (fun hzs => ?_)
                        have hP9 := hP.sub (ws' := [(aR, .inr (0, [.ref aT, .ref aS])), (aT, .inr (2, [.ref aB, .int (nI u), .int (nI en), .int (nI h_137), .int na_138, .int w, .int wa])), (aB, .inl (kB, 65536, .inl B)), (aS, .inr (1, [.ref aN, .ref aC])), (aN, .inl (kN, 5, .inl (fun j => nI (cnt j)))), (aC, .inl (kC, 52035, .inl (upd cel_139 (cc + 3) (nI n_83))))]) [0, 1, 2, 3, 4, 5] rfl
                        have hD9 := hD.sub (ws' := [(aR, .inr (0, [.ref aT, .ref aS])), (aT, .inr (2, [.ref aB, .int (nI u), .int (nI en), .int (nI h_137), .int na_138, .int w, .int wa])), (aB, .inl (kB, 65536, .inl B)), (aS, .inr (1, [.ref aN, .ref aC])), (aN, .inl (kN, 5, .inl (fun j => nI (cnt j)))), (aC, .inl (kC, 52035, .inl (upd cel_139 (cc + 3) (nI n_83))))]) [0, 1, 2, 3, 4, 5] (by decide) rfl
                        refine W.widen (k := 1) (n := 6) (by decide) (by decide) ?_
                        exact vx_ret (W.vret hx hb hr (fun t ht hW => ⟨⟨(h_137, na_138, upd cel_139 (cc + 3) (nI n_83)), rfl, by simp only [zTrack, zListP, zNumP, zB_ok, hw_3, hw_17a, hw_27, hw_39a, hw_49, hw_61a, hw_71, hw_84a, hw_94, hw_141a, if_pos c_102], by rw [ht]; exact hP9, hD9, by rw [ht]; exact hzs⟩, hS.F ht⟩) hS.2.2 d_Rd_takeTrack_147)
