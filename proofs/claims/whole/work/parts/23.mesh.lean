set_option maxHeartbeats 4000000 in
set_option maxRecDepth 100000 in
theorem c_Rd_takeMesh (l : Launch) (hst : l.stackTraces = false) (G : ZG) (dC : Nat → ClassId) (dI : Nat → Nat → Nat) (sz : Nat) (aR : Nat) (aT : Nat) (aS : Nat) (aB : Nat) (u : Nat) (en : Nat) (h : Nat) (na : Int32) (w : Int32) (wa : Int32) (kB : ClassId) (B : Nat → Int32) (aN : Nat) (aC : Nat) (kN : ClassId) (cnt : Nat → Nat) (kC : ClassId) (cel : Nat → Int32) (cc : Nat) (hen : en ≤ 65536) (hh : h ≤ en) (hcc : cc + 1411 ≤ 52035) : vx_Met l y_Rd_takeMesh w_Rd_takeMesh ({ frames := 9, cells := 1, slots := 6, locals := 158 }) (va_Pc [.ref aR, .int (nI cc)] (PW G (dC, dI) [(kB, .byte), (kN, .int), (kC, .int)] [(aR, .inr (0, [.ref aT, .ref aS])), (aT, .inr (2, [.ref aB, .int (nI u), .int (nI en), .int (nI h), .int na, .int w, .int wa])), (aB, .inl (kB, 65536, .inl B)), (aS, .inr (1, [.ref aN, .ref aC])), (aN, .inl (kN, 5, .inl (fun j => nI (cnt j)))), (aC, .inl (kC, 52035, .inl cel))] sz)) (va_Qv (fun (uu : Nat × Int32 × (Nat → Int32)) => zMesh B en (cnt 1) cc (h, cel) = .ok (uu.1, uu.2.2)) (fun (uu : Nat × Int32 × (Nat → Int32)) t => BW (dC, dI) [(aR, .inr (0, [.ref aT, .ref aS])), (aT, .inr (2, [.ref aB, .int (nI u), .int (nI en), .int (nI uu.1), .int uu.2.1, .int w, .int wa])), (aB, .inl (kB, 65536, .inl B)), (aS, .inr (1, [.ref aN, .ref aC])), (aN, .inl (kN, 5, .inl (fun j => nI (cnt j)))), (aC, .inl (kC, 52035, .inl uu.2.2))] (va_A [(aR, .inr (0, [.ref aT, .ref aS])), (aT, .inr (2, [.ref aB, .int (nI u), .int (nI en), .int (nI h), .int na, .int w, .int wa])), (aB, .inl (kB, 65536, .inl B)), (aS, .inr (1, [.ref aN, .ref aC])), (aN, .inl (kN, 5, .inl (fun j => nI (cnt j)))), (aC, .inl (kC, 52035, .inl cel))] sz) sz t) (va_A [(aR, .inr (0, [.ref aT, .ref aS])), (aT, .inr (2, [.ref aB, .int (nI u), .int (nI en), .int (nI h), .int na, .int w, .int wa])), (aB, .inl (kB, 65536, .inl B)), (aS, .inr (1, [.ref aN, .ref aC])), (aN, .inl (kN, 5, .inl (fun j => nI (cnt j)))), (aC, .inl (kC, 52035, .inl cel))] sz)) (vx_X (fun (uu : Int32 × Nat × Nat × Int32 × (Nat → Nat) × (Nat → Int32)) => zMesh B en (cnt 1) cc (h, cel) = .error (uu.1, uu.2.1)) (fun E (uu : Int32 × Nat × Nat × Int32 × (Nat → Nat) × (Nat → Int32)) t => E = "java/lang/IllegalArgumentException" ∧ va_P (dC, dI) vwCl [(aR, .inr (0, [.ref aT, .ref aS])), (aT, .inr (2, [.ref aB, .int (nI u), .int (nI en), .int (nI uu.2.2.1), .int uu.2.2.2.1, .int uu.1, .int (nI uu.2.1)])), (aB, .inl (kB, 65536, .inl B)), (aS, .inr (1, [.ref aN, .ref aC])), (aN, .inl (kN, 5, .inl (fun j => nI (uu.2.2.2.2.1 j)))), (aC, .inl (kC, 52035, .inl uu.2.2.2.2.2))] t.heap ∧ va_D (va_A [(aR, .inr (0, [.ref aT, .ref aS])), (aT, .inr (2, [.ref aB, .int (nI u), .int (nI en), .int (nI h), .int na, .int w, .int wa])), (aB, .inl (kB, 65536, .inl B)), (aS, .inr (1, [.ref aN, .ref aC])), (aN, .inl (kN, 5, .inl (fun j => nI (cnt j)))), (aC, .inl (kC, 52035, .inl cel))] sz) [(aR, .inr (0, [.ref aT, .ref aS])), (aT, .inr (2, [.ref aB, .int (nI u), .int (nI en), .int (nI uu.2.2.1), .int uu.2.2.2.1, .int uu.1, .int (nI uu.2.1)])), (aB, .inl (kB, 65536, .inl B)), (aS, .inr (1, [.ref aN, .ref aC])), (aN, .inl (kN, 5, .inl (fun j => nI (uu.2.2.2.2.1 j)))), (aC, .inl (kC, 52035, .inl uu.2.2.2.2.2))]) (va_A [(aR, .inr (0, [.ref aT, .ref aS])), (aT, .inr (2, [.ref aB, .int (nI u), .int (nI en), .int (nI h), .int na, .int w, .int wa])), (aB, .inl (kB, 65536, .inl B)), (aS, .inr (1, [.ref aN, .ref aC])), (aN, .inl (kN, 5, .inl (fun j => nI (cnt j)))), (aC, .inl (kC, 52035, .inl cel))] sz)) 1 6 (va_A [(aR, .inr (0, [.ref aT, .ref aS])), (aT, .inr (2, [.ref aB, .int (nI u), .int (nI en), .int (nI h), .int na, .int w, .int wa])), (aB, .inl (kB, 65536, .inl B)), (aS, .inr (1, [.ref aN, .ref aC])), (aN, .inl (kN, 5, .inl (fun j => nI (cnt j)))), (aC, .inl (kC, 52035, .inl cel))] sz) := by
  refine vx_ofW (cc := prog_2_method_7_code) (maxL := 4) (ret := none) (by decide) rfl ?_
  intro p e s m args below meth c s₁ Bd hml htab hv
  obtain ⟨rfl, hsz, hP, hK, hD0, hE⟩ := hv
  have hx := Bd.exec
  have hb := Bd.bytes
  have hr := Bd.returns
  have hts := atoms_spec (ws := w_Rd_takeMesh) Bd.pre
  have hown : s.vm.findClass R_Rd = some m.cls := findClass_of_methodNamed Bd.named
  have hlocks := Bd.notSynchronized
  have hz : ∀ w ∈ ZW, w.before _ s = true := fun w h => hts w (List.mem_cons_of_mem _ h)
  subst hsz
  have hD := hD0.self (sz := s.heap.size)
  generalize hAe : va_A [(aR, .inr (0, [.ref aT, .ref aS])), (aT, .inr (2, [.ref aB, .int (nI u), .int (nI en), .int (nI h), .int na, .int w, .int wa])), (aB, .inl (kB, 65536, .inl B)), (aS, .inr (1, [.ref aN, .ref aC])), (aN, .inl (kN, 5, .inl (fun j => nI (cnt j)))), (aC, .inl (kC, 52035, .inl cel))] s.heap.size = A at hD hE ⊢
  have hA : ∀ q : Nat, s.heap.size ≤ q → A q := fun q h => by rw [← hAe]; exact Or.inr h
  have hS : va_S A s.heap s.heap [] := va_S.rf
  have hl := lv_entry ([.ref aR, .int (nI cc)]) (n := 4) (Nat.le_of_ble_eq_true rfl)
  rw [lg_entry_eq]
  generalize (lg_sl ([.ref aR, .int (nI cc)]) ++ List.replicate (4 - (lg_sl ([.ref aR, .int (nI cc)])).length) Slot.unset).toArray = ls at hl ⊢
  have hl : lv_has ls 4 [(0, .ref aR), (1, .int (nI cc))] := hl
  obtain ⟨H, hH⟩ : ∃ z, z = s.heap := ⟨_, rfl⟩
  have hP : va_P (dC, dI) vwCl [(aR, .inr (0, [.ref aT, .ref aS])), (aT, .inr (2, [.ref aB, .int (nI u), .int (nI en), .int (nI h), .int na, .int w, .int wa])), (aB, .inl (kB, 65536, .inl B)), (aS, .inr (1, [.ref aN, .ref aC])), (aN, .inl (kN, 5, .inl (fun j => nI (cnt j)))), (aC, .inl (kC, 52035, .inl cel))] H := by rw [hH]; exact hP
  have hS : va_S A s.heap H [] := by rw [hH]; exact hS
  refine zt_heap hH ?_
  refine lv_aload_n hx hb d_Rd_takeMesh_0 rfl (lv_at hl 0 rfl) ?_
  refine lv_bipush (v := 123) hx hb d_Rd_takeMesh_1 (by decide) ?_
  refine va_ldcS (q := G.2.1 20) hx hb hown (hE.2.2.2.2.2.2.2 20 (by decide)).2 d_Rd_takeMesh_3 ?_
  have hPc := hP.sub (ws' := [(aR, .inr (0, [.ref aT, .ref aS])), (aT, .inr (2, [.ref aB, .int (nI u), .int (nI en), .int (nI h), .int na, .int w, .int wa])), (aB, .inl (kB, 65536, .inl B)), (aS, .inr (1, [.ref aN, .ref aC])), (aN, .inl (kN, 5, .inl (fun j => nI (cnt j)))), (aC, .inl (kC, 52035, .inl cel))]) [0, 1, 2, 3, 4, 5] rfl
  have hDc := hD.sub (ws' := [(aR, .inr (0, [.ref aT, .ref aS])), (aT, .inr (2, [.ref aB, .int (nI u), .int (nI en), .int (nI h), .int na, .int w, .int wa])), (aB, .inl (kB, 65536, .inl B)), (aS, .inr (1, [.ref aN, .ref aC])), (aN, .inl (kN, 5, .inl (fun j => nI (cnt j)))), (aC, .inl (kC, 52035, .inl cel))]) [0, 1, 2, 3, 4, 5] (by decide) rfl
  have hKc := hK.sub (tys' := [(kB, .byte), (kN, .int), (kC, .int)]) [0, 1, 2] rfl
  have hFc := va_free (wc := [(aR, .inr (0, [.ref aT, .ref aS])), (aT, .inr (2, [.ref aB, .int (nI u), .int (nI en), .int (nI h), .int na, .int w, .int wa])), (aB, .inl (kB, 65536, .inl B)), (aS, .inr (1, [.ref aN, .ref aC])), (aN, .inl (kN, 5, .inl (fun j => nI (cnt j)))), (aC, .inl (kC, 52035, .inl cel))]) hD hS hA [0, 1, 2, 3, 4, 5] rfl
  refine zt_size (fun hzs => ?_)
  refine vx_callv (vx_runV (As := [.int 123, .ref (G.2.1 20)]) (rest := []) ⟨hx, hb, hml, hown, hts⟩ (c_Rd_takeName l hst G dC dI H.size aR aT aS aB u en h na w wa kB B aN aC kN cnt kC cel 123 20 (by omega) (by omega) (by decide) (zSb_len _)) (cwV 2 hts (gV tw_359 tw_361 ts_8 tw_2 tw_362 rfl) rfl rfl rfl (by decide +kernel) ⟨Nat.le_of_ble_eq_true rfl, Nat.le_of_ble_eq_true rfl⟩) (PW_preV hPc hKc hDc hE hS hFc (ci := 0) (q0 := 0) rfl rfl) rfl rfl hl.1 rfl (lv_room (Nat.le_of_ble_eq_true rfl)) d_Rd_takeMesh_5 ⟨Nat.le_of_ble_eq_true rfl, Nat.le_of_ble_eq_true rfl⟩) hS (fun q _ h => hFc q h) hFc (fun q _ h => hFc q h) (fun E9 ce9 q9 uu t H1 locs ht hvm hx_10 hB hz1 hk1 hS hce hcv hcl => ?_) (fun uu t H1 locs ht hvm hw_3 hB hz1 hk1 hS => ?_)
  ·
    obtain ⟨w_4, k_5, h_6, na_7, cnt_8, cel_9⟩ := uu
    obtain ⟨hEn, hP1, hD1⟩ := hB
    rw [ht] at hP1
    obtain ⟨hP, hD⟩ := va_join (wr := []) (w1 := [(aR, .inr (0, [.ref aT, .ref aS])), (aT, .inr (2, [.ref aB, .int (nI u), .int (nI en), .int (nI h_6), .int na_7, .int w_4, .int (nI k_5)])), (aB, .inl (kB, 65536, .inl B)), (aS, .inr (1, [.ref aN, .ref aC])), (aN, .inl (kN, 5, .inl (fun j => nI (cnt_8 j)))), (aC, .inl (kC, 52035, .inl cel_9))]) hP hD [0, 1, 2, 3, 4, 5] [] rfl rfl (by decide) (by decide) hk1 hFc hP1 hD1
    generalize H1 = H at hP hS hce ⊢
    have hP : va_P (dC, dI) vwCl [(aR, .inr (0, [.ref aT, .ref aS])), (aT, .inr (2, [.ref aB, .int (nI u), .int (nI en), .int (nI h_6), .int na_7, .int w_4, .int (nI k_5)])), (aB, .inl (kB, 65536, .inl B)), (aS, .inr (1, [.ref aN, .ref aC])), (aN, .inl (kN, 5, .inl (fun j => nI (cnt_8 j)))), (aC, .inl (kC, 52035, .inl cel_9))] H := hP
    have hD : va_D A [(aR, .inr (0, [.ref aT, .ref aS])), (aT, .inr (2, [.ref aB, .int (nI u), .int (nI en), .int (nI h_6), .int na_7, .int w_4, .int (nI k_5)])), (aB, .inl (kB, 65536, .inl B)), (aS, .inr (1, [.ref aN, .ref aC])), (aN, .inl (kN, 5, .inl (fun j => nI (cnt_8 j)))), (aC, .inl (kC, 52035, .inl cel_9))] := hD
    have hP9 := hP.sub (ws' := [(aR, .inr (0, [.ref aT, .ref aS])), (aT, .inr (2, [.ref aB, .int (nI u), .int (nI en), .int (nI h_6), .int na_7, .int w_4, .int (nI k_5)])), (aB, .inl (kB, 65536, .inl B)), (aS, .inr (1, [.ref aN, .ref aC])), (aN, .inl (kN, 5, .inl (fun j => nI (cnt_8 j)))), (aC, .inl (kC, 52035, .inl cel_9))]) [0, 1, 2, 3, 4, 5] rfl
    have hD9 := hD.sub (ws' := [(aR, .inr (0, [.ref aT, .ref aS])), (aT, .inr (2, [.ref aB, .int (nI u), .int (nI en), .int (nI h_6), .int na_7, .int w_4, .int (nI k_5)])), (aB, .inl (kB, 65536, .inl B)), (aS, .inr (1, [.ref aN, .ref aC])), (aN, .inl (kN, 5, .inl (fun j => nI (cnt_8 j)))), (aC, .inl (kC, 52035, .inl cel_9))]) [0, 1, 2, 3, 4, 5] (by decide) rfl
    exact vx_out (fun x hx => (htab x hx).elim) hlocks hce hcv hcl (fun t ht hvm => ⟨(w_4, k_5, h_6, na_7, cnt_8, cel_9), by simp only [zMesh, zListP, zNumP, zB_ok, zB_er, hx_10], ⟨hEn, by rw [ht]; exact hP9, hD9⟩, hS.F ht⟩) hS.2.2 (by decide) (by decide)
  ·
    obtain ⟨h_2, rfl⟩ : ∃ z, z = uu := ⟨_, rfl⟩
    obtain ⟨hP1, hD1, hsz1⟩ := hB
    rw [ht] at hP1 hsz1
    obtain ⟨hP, hD⟩ := va_join (wr := []) (w1 := [(aR, .inr (0, [.ref aT, .ref aS])), (aT, .inr (2, [.ref aB, .int (nI u), .int (nI en), .int (nI h_2), .int na, .int w, .int wa])), (aB, .inl (kB, 65536, .inl B)), (aS, .inr (1, [.ref aN, .ref aC])), (aN, .inl (kN, 5, .inl (fun j => nI (cnt j)))), (aC, .inl (kC, 52035, .inl cel))]) hP hD [0, 1, 2, 3, 4, 5] [] rfl rfl (by decide) (by decide) hk1 hFc hP1 hD1
    refine zt_tight (hsz1.trans hzs) ?_
    generalize H1 = H at hP hS ⊢
    have hP : va_P (dC, dI) vwCl [(aR, .inr (0, [.ref aT, .ref aS])), (aT, .inr (2, [.ref aB, .int (nI u), .int (nI en), .int (nI h_2), .int na, .int w, .int wa])), (aB, .inl (kB, 65536, .inl B)), (aS, .inr (1, [.ref aN, .ref aC])), (aN, .inl (kN, 5, .inl (fun j => nI (cnt j)))), (aC, .inl (kC, 52035, .inl cel))] H := hP
    have hD : va_D A [(aR, .inr (0, [.ref aT, .ref aS])), (aT, .inr (2, [.ref aB, .int (nI u), .int (nI en), .int (nI h_2), .int na, .int w, .int wa])), (aB, .inl (kB, 65536, .inl B)), (aS, .inr (1, [.ref aN, .ref aC])), (aN, .inl (kN, 5, .inl (fun j => nI (cnt j)))), (aC, .inl (kC, 52035, .inl cel))] := hD
    have hw_3i := zName_in hw_3
    refine lv_aload_n hx hb d_Rd_takeMesh_8 rfl (lv_at hl 0 rfl) ?_
    refine lv_iload_n hx hb d_Rd_takeMesh_9 rfl (lv_at hl 1 rfl) ?_
    refine lv_iconst (v := 0) hx hb d_Rd_takeMesh_10 (by decide) ?_
    refine lv_aload_n hx hb d_Rd_takeMesh_11 rfl (lv_at hl 0 rfl) ?_
    refine va_get (D := (dC, dI)) (ci := 0) (v := .ref aS) (C := R_Rd) (T := F_Rd) (N := 2) hx hb hz i_Rd hown hK hP 0 rfl rfl 1 (by decide) (hz _ tw_86) (fun _ h9 => h9) rfl d_Rd_takeMesh_12 ?_
    refine lv_iconst (v := 1) hx hb d_Rd_takeMesh_15 (by decide) ?_
    have hPc := hP.sub (ws' := [(aS, .inr (1, [.ref aN, .ref aC])), (aN, .inl (kN, 5, .inl (fun j => nI (cnt j)))), (aC, .inl (kC, 52035, .inl cel))]) [3, 4, 5] rfl
    have hDc := hD.sub (ws' := [(aS, .inr (1, [.ref aN, .ref aC])), (aN, .inl (kN, 5, .inl (fun j => nI (cnt j)))), (aC, .inl (kC, 52035, .inl cel))]) [3, 4, 5] (by decide) rfl
    have hKc := hK.sub (tys' := [(kN, .int), (kC, .int)]) [1, 2] rfl
    have hFc := va_free (wc := [(aS, .inr (1, [.ref aN, .ref aC])), (aN, .inl (kN, 5, .inl (fun j => nI (cnt j)))), (aC, .inl (kC, 52035, .inl cel))]) hD hS hA [3, 4, 5] rfl
    refine va_calli (va_runV (As := [.int (nI 1)]) (rest := [.int 0, .int (nI cc), .ref aR]) ⟨hx, hb, hml, hown, hts⟩ (c_Sc_howManyN l G dC dI H.size aS aN aC kN cnt kC cel 1 (by omega)) (cwV 1 hts (gV tw_426 tw_135 tw_136 tw_4 tw_137 rfl) rfl rfl rfl (by decide +kernel) ⟨Nat.le_of_ble_eq_true rfl, Nat.le_of_ble_eq_true rfl⟩) (PW_preV hPc hKc hDc hE hS hFc (ci := 1) (q0 := 0) rfl rfl) rfl rfl hl.1 rfl (lv_room (Nat.le_of_ble_eq_true rfl)) d_Rd_takeMesh_16 ⟨Nat.le_of_ble_eq_true rfl, Nat.le_of_ble_eq_true rfl⟩) hS (fun q _ h => hFc q h) hFc (fun r_11 uu t H1 locs ht hvm hw_12 hB hz1 hk1 hS => ?_)
    obtain ⟨hP1, hD1, hsz1⟩ := hB
    rw [ht] at hP1 hsz1
    obtain ⟨hP, hD⟩ := va_join (wr := [(aR, .inr (0, [.ref aT, .ref aS])), (aT, .inr (2, [.ref aB, .int (nI u), .int (nI en), .int (nI h_2), .int na, .int w, .int wa])), (aB, .inl (kB, 65536, .inl B))]) (w1 := [(aS, .inr (1, [.ref aN, .ref aC])), (aN, .inl (kN, 5, .inl (fun j => nI (cnt j)))), (aC, .inl (kC, 52035, .inl cel))]) hP hD [3, 4, 5] [0, 1, 2] rfl rfl (by decide) (by decide) hk1 hFc hP1 hD1
    generalize H1 = H at hP hS ⊢
    have hP : va_P (dC, dI) vwCl [(aR, .inr (0, [.ref aT, .ref aS])), (aT, .inr (2, [.ref aB, .int (nI u), .int (nI en), .int (nI h_2), .int na, .int w, .int wa])), (aB, .inl (kB, 65536, .inl B)), (aS, .inr (1, [.ref aN, .ref aC])), (aN, .inl (kN, 5, .inl (fun j => nI (cnt j)))), (aC, .inl (kC, 52035, .inl cel))] H := hP
    have hD : va_D A [(aR, .inr (0, [.ref aT, .ref aS])), (aT, .inr (2, [.ref aB, .int (nI u), .int (nI en), .int (nI h_2), .int na, .int w, .int wa])), (aB, .inl (kB, 65536, .inl B)), (aS, .inr (1, [.ref aN, .ref aC])), (aN, .inl (kN, 5, .inl (fun j => nI (cnt j)))), (aC, .inl (kC, 52035, .inl cel))] := hD
    subst hw_12
    refine lv_iconst (v := 1) hx hb d_Rd_takeMesh_19 (by decide) ?_
    refine lv_isub hx hb d_Rd_takeMesh_20 ?_
    have hPc := hP.sub (ws' := [(aR, .inr (0, [.ref aT, .ref aS])), (aT, .inr (2, [.ref aB, .int (nI u), .int (nI en), .int (nI h_2), .int na, .int w, .int wa])), (aB, .inl (kB, 65536, .inl B)), (aS, .inr (1, [.ref aN, .ref aC])), (aN, .inl (kN, 5, .inl (fun j => nI (cnt j)))), (aC, .inl (kC, 52035, .inl cel))]) [0, 1, 2, 3, 4, 5] rfl
    have hDc := hD.sub (ws' := [(aR, .inr (0, [.ref aT, .ref aS])), (aT, .inr (2, [.ref aB, .int (nI u), .int (nI en), .int (nI h_2), .int na, .int w, .int wa])), (aB, .inl (kB, 65536, .inl B)), (aS, .inr (1, [.ref aN, .ref aC])), (aN, .inl (kN, 5, .inl (fun j => nI (cnt j)))), (aC, .inl (kC, 52035, .inl cel))]) [0, 1, 2, 3, 4, 5] (by decide) rfl
    have hKc := hK.sub (tys' := [(kB, .byte), (kN, .int), (kC, .int)]) [0, 1, 2] rfl
    have hFc := va_free (wc := [(aR, .inr (0, [.ref aT, .ref aS])), (aT, .inr (2, [.ref aB, .int (nI u), .int (nI en), .int (nI h_2), .int na, .int w, .int wa])), (aB, .inl (kB, 65536, .inl B)), (aS, .inr (1, [.ref aN, .ref aC])), (aN, .inl (kN, 5, .inl (fun j => nI (cnt j)))), (aC, .inl (kC, 52035, .inl cel))]) hD hS hA [0, 1, 2, 3, 4, 5] rfl
    refine zt_size (fun hzs => ?_)
    refine vx_calli (vx_runV (As := [.int (nI cc), .int 0, .int ((nI (cnt 1)) - 1)]) (rest := []) ⟨hx, hb, hml, hown, hts⟩ (c_Rd_takeNumber l hst G dC dI H.size aR aT aS aB u en h_2 na w wa kB B aN aC kN cnt kC cel cc 0 ((nI (cnt 1)) - 1) (by omega) (by omega) (by omega)) (cwV 3 hts (gV tw_387 tw_389 ts_10 tw_2 tw_390 rfl) rfl rfl rfl (by decide +kernel) ⟨Nat.le_of_ble_eq_true rfl, Nat.le_of_ble_eq_true rfl⟩) (PW_preV hPc hKc hDc hE hS hFc (ci := 0) (q0 := 0) rfl rfl) rfl rfl hl.1 rfl (lv_room (Nat.le_of_ble_eq_true rfl)) d_Rd_takeMesh_21 ⟨Nat.le_of_ble_eq_true rfl, Nat.le_of_ble_eq_true rfl⟩) hS (fun q _ h => hFc q h) hFc (fun q _ h => hFc q h) (fun E9 ce9 q9 uu t H1 locs ht hvm hx_24 hB hz1 hk1 hS hce hcv hcl => ?_) (fun r_13 uu t H1 locs ht hvm hw_17 hB hz1 hk1 hS => ?_)
    ·
      obtain ⟨w_18, k_19, h_20, na_21, cnt_22, cel_23⟩ := uu
      obtain ⟨hEn, hP1, hD1⟩ := hB
      rw [ht] at hP1
      obtain ⟨hP, hD⟩ := va_join (wr := []) (w1 := [(aR, .inr (0, [.ref aT, .ref aS])), (aT, .inr (2, [.ref aB, .int (nI u), .int (nI en), .int (nI h_20), .int na_21, .int w_18, .int (nI k_19)])), (aB, .inl (kB, 65536, .inl B)), (aS, .inr (1, [.ref aN, .ref aC])), (aN, .inl (kN, 5, .inl (fun j => nI (cnt_22 j)))), (aC, .inl (kC, 52035, .inl cel_23))]) hP hD [0, 1, 2, 3, 4, 5] [] rfl rfl (by decide) (by decide) hk1 hFc hP1 hD1
      generalize H1 = H at hP hS hce ⊢
      have hP : va_P (dC, dI) vwCl [(aR, .inr (0, [.ref aT, .ref aS])), (aT, .inr (2, [.ref aB, .int (nI u), .int (nI en), .int (nI h_20), .int na_21, .int w_18, .int (nI k_19)])), (aB, .inl (kB, 65536, .inl B)), (aS, .inr (1, [.ref aN, .ref aC])), (aN, .inl (kN, 5, .inl (fun j => nI (cnt_22 j)))), (aC, .inl (kC, 52035, .inl cel_23))] H := hP
      have hD : va_D A [(aR, .inr (0, [.ref aT, .ref aS])), (aT, .inr (2, [.ref aB, .int (nI u), .int (nI en), .int (nI h_20), .int na_21, .int w_18, .int (nI k_19)])), (aB, .inl (kB, 65536, .inl B)), (aS, .inr (1, [.ref aN, .ref aC])), (aN, .inl (kN, 5, .inl (fun j => nI (cnt_22 j)))), (aC, .inl (kC, 52035, .inl cel_23))] := hD
      have hP9 := hP.sub (ws' := [(aR, .inr (0, [.ref aT, .ref aS])), (aT, .inr (2, [.ref aB, .int (nI u), .int (nI en), .int (nI h_20), .int na_21, .int w_18, .int (nI k_19)])), (aB, .inl (kB, 65536, .inl B)), (aS, .inr (1, [.ref aN, .ref aC])), (aN, .inl (kN, 5, .inl (fun j => nI (cnt_22 j)))), (aC, .inl (kC, 52035, .inl cel_23))]) [0, 1, 2, 3, 4, 5] rfl
      have hD9 := hD.sub (ws' := [(aR, .inr (0, [.ref aT, .ref aS])), (aT, .inr (2, [.ref aB, .int (nI u), .int (nI en), .int (nI h_20), .int na_21, .int w_18, .int (nI k_19)])), (aB, .inl (kB, 65536, .inl B)), (aS, .inr (1, [.ref aN, .ref aC])), (aN, .inl (kN, 5, .inl (fun j => nI (cnt_22 j)))), (aC, .inl (kC, 52035, .inl cel_23))]) [0, 1, 2, 3, 4, 5] (by decide) rfl
      exact vx_out (fun x hx => (htab x hx).elim) hlocks hce hcv hcl (fun t ht hvm => ⟨(w_18, k_19, h_20, na_21, cnt_22, cel_23), by simp only [zMesh, zListP, zNumP, zB_ok, zB_er, hw_3, hx_24], ⟨hEn, by rw [ht]; exact hP9, hD9⟩, hS.F ht⟩) hS.2.2 (by decide) (by decide)
    ·
      obtain ⟨h_14, na_15, cel_16⟩ := uu
      obtain ⟨hP1, hD1, hsz1⟩ := hB
      rw [ht] at hP1 hsz1
      obtain ⟨hP, hD⟩ := va_join (wr := []) (w1 := [(aR, .inr (0, [.ref aT, .ref aS])), (aT, .inr (2, [.ref aB, .int (nI u), .int (nI en), .int (nI h_14), .int na_15, .int w, .int wa])), (aB, .inl (kB, 65536, .inl B)), (aS, .inr (1, [.ref aN, .ref aC])), (aN, .inl (kN, 5, .inl (fun j => nI (cnt j)))), (aC, .inl (kC, 52035, .inl cel_16))]) hP hD [0, 1, 2, 3, 4, 5] [] rfl rfl (by decide) (by decide) hk1 hFc hP1 hD1
      refine zt_tight (hsz1.trans hzs) ?_
      generalize H1 = H at hP hS ⊢
      have hP : va_P (dC, dI) vwCl [(aR, .inr (0, [.ref aT, .ref aS])), (aT, .inr (2, [.ref aB, .int (nI u), .int (nI en), .int (nI h_14), .int na_15, .int w, .int wa])), (aB, .inl (kB, 65536, .inl B)), (aS, .inr (1, [.ref aN, .ref aC])), (aN, .inl (kN, 5, .inl (fun j => nI (cnt j)))), (aC, .inl (kC, 52035, .inl cel_16))] H := hP
      have hD : va_D A [(aR, .inr (0, [.ref aT, .ref aS])), (aT, .inr (2, [.ref aB, .int (nI u), .int (nI en), .int (nI h_14), .int na_15, .int w, .int wa])), (aB, .inl (kB, 65536, .inl B)), (aS, .inr (1, [.ref aN, .ref aC])), (aN, .inl (kN, 5, .inl (fun j => nI (cnt j)))), (aC, .inl (kC, 52035, .inl cel_16))] := hD
      obtain ⟨hw_17a, rfl, rfl⟩ := hw_17
      have hw_17i := zRNum_in (by omega) hw_17a
      refine lv_pop hx hb d_Rd_takeMesh_24 rfl ?_
      refine lv_aload_n hx hb d_Rd_takeMesh_25 rfl (lv_at hl 0 rfl) ?_
      refine lv_bipush (v := 44) hx hb d_Rd_takeMesh_26 (by decide) ?_
      refine va_ldcS (q := G.2.1 21) hx hb hown (hE.2.2.2.2.2.2.2 21 (by decide)).2 d_Rd_takeMesh_28 ?_
      have hPc := hP.sub (ws' := [(aR, .inr (0, [.ref aT, .ref aS])), (aT, .inr (2, [.ref aB, .int (nI u), .int (nI en), .int (nI h_14), .int (nI h_2), .int w, .int wa])), (aB, .inl (kB, 65536, .inl B)), (aS, .inr (1, [.ref aN, .ref aC])), (aN, .inl (kN, 5, .inl (fun j => nI (cnt j)))), (aC, .inl (kC, 52035, .inl (upd cel cc r_13)))]) [0, 1, 2, 3, 4, 5] rfl
      have hDc := hD.sub (ws' := [(aR, .inr (0, [.ref aT, .ref aS])), (aT, .inr (2, [.ref aB, .int (nI u), .int (nI en), .int (nI h_14), .int (nI h_2), .int w, .int wa])), (aB, .inl (kB, 65536, .inl B)), (aS, .inr (1, [.ref aN, .ref aC])), (aN, .inl (kN, 5, .inl (fun j => nI (cnt j)))), (aC, .inl (kC, 52035, .inl (upd cel cc r_13)))]) [0, 1, 2, 3, 4, 5] (by decide) rfl
      have hKc := hK.sub (tys' := [(kB, .byte), (kN, .int), (kC, .int)]) [0, 1, 2] rfl
      have hFc := va_free (wc := [(aR, .inr (0, [.ref aT, .ref aS])), (aT, .inr (2, [.ref aB, .int (nI u), .int (nI en), .int (nI h_14), .int (nI h_2), .int w, .int wa])), (aB, .inl (kB, 65536, .inl B)), (aS, .inr (1, [.ref aN, .ref aC])), (aN, .inl (kN, 5, .inl (fun j => nI (cnt j)))), (aC, .inl (kC, 52035, .inl (upd cel cc r_13)))]) hD hS hA [0, 1, 2, 3, 4, 5] rfl
      refine zt_size (fun hzs => ?_)
      refine vx_callv (vx_runV (As := [.int 44, .ref (G.2.1 21)]) (rest := []) ⟨hx, hb, hml, hown, hts⟩ (c_Rd_takeName l hst G dC dI H.size aR aT aS aB u en h_14 (nI h_2) w wa kB B aN aC kN cnt kC (upd cel cc r_13) 44 21 (by omega) (by omega) (by decide) (zSb_len _)) (cwV 2 hts (gV tw_359 tw_361 ts_8 tw_2 tw_362 rfl) rfl rfl rfl (by decide +kernel) ⟨Nat.le_of_ble_eq_true rfl, Nat.le_of_ble_eq_true rfl⟩) (PW_preV hPc hKc hDc hE hS hFc (ci := 0) (q0 := 0) rfl rfl) rfl rfl hl.1 rfl (lv_room (Nat.le_of_ble_eq_true rfl)) d_Rd_takeMesh_30 ⟨Nat.le_of_ble_eq_true rfl, Nat.le_of_ble_eq_true rfl⟩) hS (fun q _ h => hFc q h) hFc (fun q _ h => hFc q h) (fun E9 ce9 q9 uu t H1 locs ht hvm hx_34 hB hz1 hk1 hS hce hcv hcl => ?_) (fun uu t H1 locs ht hvm hw_27 hB hz1 hk1 hS => ?_)
      ·
        obtain ⟨w_28, k_29, h_30, na_31, cnt_32, cel_33⟩ := uu
        obtain ⟨hEn, hP1, hD1⟩ := hB
        rw [ht] at hP1
        obtain ⟨hP, hD⟩ := va_join (wr := []) (w1 := [(aR, .inr (0, [.ref aT, .ref aS])), (aT, .inr (2, [.ref aB, .int (nI u), .int (nI en), .int (nI h_30), .int na_31, .int w_28, .int (nI k_29)])), (aB, .inl (kB, 65536, .inl B)), (aS, .inr (1, [.ref aN, .ref aC])), (aN, .inl (kN, 5, .inl (fun j => nI (cnt_32 j)))), (aC, .inl (kC, 52035, .inl cel_33))]) hP hD [0, 1, 2, 3, 4, 5] [] rfl rfl (by decide) (by decide) hk1 hFc hP1 hD1
        generalize H1 = H at hP hS hce ⊢
        have hP : va_P (dC, dI) vwCl [(aR, .inr (0, [.ref aT, .ref aS])), (aT, .inr (2, [.ref aB, .int (nI u), .int (nI en), .int (nI h_30), .int na_31, .int w_28, .int (nI k_29)])), (aB, .inl (kB, 65536, .inl B)), (aS, .inr (1, [.ref aN, .ref aC])), (aN, .inl (kN, 5, .inl (fun j => nI (cnt_32 j)))), (aC, .inl (kC, 52035, .inl cel_33))] H := hP
        have hD : va_D A [(aR, .inr (0, [.ref aT, .ref aS])), (aT, .inr (2, [.ref aB, .int (nI u), .int (nI en), .int (nI h_30), .int na_31, .int w_28, .int (nI k_29)])), (aB, .inl (kB, 65536, .inl B)), (aS, .inr (1, [.ref aN, .ref aC])), (aN, .inl (kN, 5, .inl (fun j => nI (cnt_32 j)))), (aC, .inl (kC, 52035, .inl cel_33))] := hD
        have hP9 := hP.sub (ws' := [(aR, .inr (0, [.ref aT, .ref aS])), (aT, .inr (2, [.ref aB, .int (nI u), .int (nI en), .int (nI h_30), .int na_31, .int w_28, .int (nI k_29)])), (aB, .inl (kB, 65536, .inl B)), (aS, .inr (1, [.ref aN, .ref aC])), (aN, .inl (kN, 5, .inl (fun j => nI (cnt_32 j)))), (aC, .inl (kC, 52035, .inl cel_33))]) [0, 1, 2, 3, 4, 5] rfl
        have hD9 := hD.sub (ws' := [(aR, .inr (0, [.ref aT, .ref aS])), (aT, .inr (2, [.ref aB, .int (nI u), .int (nI en), .int (nI h_30), .int na_31, .int w_28, .int (nI k_29)])), (aB, .inl (kB, 65536, .inl B)), (aS, .inr (1, [.ref aN, .ref aC])), (aN, .inl (kN, 5, .inl (fun j => nI (cnt_32 j)))), (aC, .inl (kC, 52035, .inl cel_33))]) [0, 1, 2, 3, 4, 5] (by decide) rfl
        exact vx_out (fun x hx => (htab x hx).elim) hlocks hce hcv hcl (fun t ht hvm => ⟨(w_28, k_29, h_30, na_31, cnt_32, cel_33), by simp only [zMesh, zListP, zNumP, zB_ok, zB_er, hw_3, hw_17a, hx_34], ⟨hEn, by rw [ht]; exact hP9, hD9⟩, hS.F ht⟩) hS.2.2 (by decide) (by decide)
      ·
        obtain ⟨h_26, rfl⟩ : ∃ z, z = uu := ⟨_, rfl⟩
        obtain ⟨hP1, hD1, hsz1⟩ := hB
        rw [ht] at hP1 hsz1
        obtain ⟨hP, hD⟩ := va_join (wr := []) (w1 := [(aR, .inr (0, [.ref aT, .ref aS])), (aT, .inr (2, [.ref aB, .int (nI u), .int (nI en), .int (nI h_26), .int (nI h_2), .int w, .int wa])), (aB, .inl (kB, 65536, .inl B)), (aS, .inr (1, [.ref aN, .ref aC])), (aN, .inl (kN, 5, .inl (fun j => nI (cnt j)))), (aC, .inl (kC, 52035, .inl (upd cel cc r_13)))]) hP hD [0, 1, 2, 3, 4, 5] [] rfl rfl (by decide) (by decide) hk1 hFc hP1 hD1
        refine zt_tight (hsz1.trans hzs) ?_
        generalize H1 = H at hP hS ⊢
        have hP : va_P (dC, dI) vwCl [(aR, .inr (0, [.ref aT, .ref aS])), (aT, .inr (2, [.ref aB, .int (nI u), .int (nI en), .int (nI h_26), .int (nI h_2), .int w, .int wa])), (aB, .inl (kB, 65536, .inl B)), (aS, .inr (1, [.ref aN, .ref aC])), (aN, .inl (kN, 5, .inl (fun j => nI (cnt j)))), (aC, .inl (kC, 52035, .inl (upd cel cc r_13)))] H := hP
        have hD : va_D A [(aR, .inr (0, [.ref aT, .ref aS])), (aT, .inr (2, [.ref aB, .int (nI u), .int (nI en), .int (nI h_26), .int (nI h_2), .int w, .int wa])), (aB, .inl (kB, 65536, .inl B)), (aS, .inr (1, [.ref aN, .ref aC])), (aN, .inl (kN, 5, .inl (fun j => nI (cnt j)))), (aC, .inl (kC, 52035, .inl (upd cel cc r_13)))] := hD
        have hw_27i := zName_in hw_27
        refine lv_aload_n hx hb d_Rd_takeMesh_33 rfl (lv_at hl 0 rfl) ?_
        refine lv_iconst (v := 1) hx hb d_Rd_takeMesh_34 (by decide) ?_
        refine lv_iconst (v := 3) hx hb d_Rd_takeMesh_35 (by decide) ?_
        refine lv_sipush (v := 384) hx hb d_Rd_takeMesh_36 (by decide) ?_
        refine lv_iload_n hx hb d_Rd_takeMesh_39 rfl (lv_at hl 1 rfl) ?_
        refine lv_iconst (v := 3) hx hb d_Rd_takeMesh_40 (by decide) ?_
        refine lv_iadd hx hb d_Rd_takeMesh_41 ?_
        refine zt_top (nI_add cc 3) ?_
        refine lv_ldc (v := -1048576) hx hb hown (hz _ tw_384) d_Rd_takeMesh_42 ?_
        refine lv_ldc (v := 1048576) hx hb hown (hz _ tw_385) d_Rd_takeMesh_44 ?_
        have hPc := hP.sub (ws' := [(aR, .inr (0, [.ref aT, .ref aS])), (aT, .inr (2, [.ref aB, .int (nI u), .int (nI en), .int (nI h_26), .int (nI h_2), .int w, .int wa])), (aB, .inl (kB, 65536, .inl B)), (aS, .inr (1, [.ref aN, .ref aC])), (aN, .inl (kN, 5, .inl (fun j => nI (cnt j)))), (aC, .inl (kC, 52035, .inl (upd cel cc r_13)))]) [0, 1, 2, 3, 4, 5] rfl
        have hDc := hD.sub (ws' := [(aR, .inr (0, [.ref aT, .ref aS])), (aT, .inr (2, [.ref aB, .int (nI u), .int (nI en), .int (nI h_26), .int (nI h_2), .int w, .int wa])), (aB, .inl (kB, 65536, .inl B)), (aS, .inr (1, [.ref aN, .ref aC])), (aN, .inl (kN, 5, .inl (fun j => nI (cnt j)))), (aC, .inl (kC, 52035, .inl (upd cel cc r_13)))]) [0, 1, 2, 3, 4, 5] (by decide) rfl
        have hKc := hK.sub (tys' := [(kB, .byte), (kN, .int), (kC, .int)]) [0, 1, 2] rfl
        have hFc := va_free (wc := [(aR, .inr (0, [.ref aT, .ref aS])), (aT, .inr (2, [.ref aB, .int (nI u), .int (nI en), .int (nI h_26), .int (nI h_2), .int w, .int wa])), (aB, .inl (kB, 65536, .inl B)), (aS, .inr (1, [.ref aN, .ref aC])), (aN, .inl (kN, 5, .inl (fun j => nI (cnt j)))), (aC, .inl (kC, 52035, .inl (upd cel cc r_13)))]) hD hS hA [0, 1, 2, 3, 4, 5] rfl
        refine zt_size (fun hzs => ?_)
        refine vx_calli (vx_runV (As := [.int 1, .int (nI 3), .int (nI 384), .int (nI (cc + 3)), .int (-1048576), .int 1048576]) (rest := []) ⟨hx, hb, hml, hown, hts⟩ (c_Rd_takeList l hst G dC dI H.size aR aT aS aB u en h_26 (nI h_2) w wa kB B aN aC kN cnt kC (upd cel cc r_13) 1 3 384 (cc + 3) (-1048576) 1048576 (by omega) (by omega) (by omega) (by omega) (by omega)) (cwV 6 hts (gV tw_366 tw_368 ts_9 tw_2 tw_369 rfl) rfl rfl rfl (by decide +kernel) ⟨Nat.le_of_ble_eq_true rfl, Nat.le_of_ble_eq_true rfl⟩) (PW_preV hPc hKc hDc hE hS hFc (ci := 0) (q0 := 0) rfl rfl) rfl rfl hl.1 rfl (lv_room (Nat.le_of_ble_eq_true rfl)) d_Rd_takeMesh_46 ⟨Nat.le_of_ble_eq_true rfl, Nat.le_of_ble_eq_true rfl⟩) hS (fun q _ h => hFc q h) hFc (fun q _ h => hFc q h) (fun E9 ce9 q9 uu t H1 locs ht hvm hx_47 hB hz1 hk1 hS hce hcv hcl => ?_) (fun r_35 uu t H1 locs ht hvm hw_40 hB hz1 hk1 hS => ?_)
        ·
          obtain ⟨w_41, k_42, h_43, na_44, cnt_45, cel_46⟩ := uu
          obtain ⟨hEn, hP1, hD1⟩ := hB
          rw [ht] at hP1
          obtain ⟨hP, hD⟩ := va_join (wr := []) (w1 := [(aR, .inr (0, [.ref aT, .ref aS])), (aT, .inr (2, [.ref aB, .int (nI u), .int (nI en), .int (nI h_43), .int na_44, .int w_41, .int (nI k_42)])), (aB, .inl (kB, 65536, .inl B)), (aS, .inr (1, [.ref aN, .ref aC])), (aN, .inl (kN, 5, .inl (fun j => nI (cnt_45 j)))), (aC, .inl (kC, 52035, .inl cel_46))]) hP hD [0, 1, 2, 3, 4, 5] [] rfl rfl (by decide) (by decide) hk1 hFc hP1 hD1
          generalize H1 = H at hP hS hce ⊢
          have hP : va_P (dC, dI) vwCl [(aR, .inr (0, [.ref aT, .ref aS])), (aT, .inr (2, [.ref aB, .int (nI u), .int (nI en), .int (nI h_43), .int na_44, .int w_41, .int (nI k_42)])), (aB, .inl (kB, 65536, .inl B)), (aS, .inr (1, [.ref aN, .ref aC])), (aN, .inl (kN, 5, .inl (fun j => nI (cnt_45 j)))), (aC, .inl (kC, 52035, .inl cel_46))] H := hP
          have hD : va_D A [(aR, .inr (0, [.ref aT, .ref aS])), (aT, .inr (2, [.ref aB, .int (nI u), .int (nI en), .int (nI h_43), .int na_44, .int w_41, .int (nI k_42)])), (aB, .inl (kB, 65536, .inl B)), (aS, .inr (1, [.ref aN, .ref aC])), (aN, .inl (kN, 5, .inl (fun j => nI (cnt_45 j)))), (aC, .inl (kC, 52035, .inl cel_46))] := hD
          simp only [zf02, zf01, zf11, zf12, zf21, zf22, decide_true, decide_false] at hx_47
          have hP9 := hP.sub (ws' := [(aR, .inr (0, [.ref aT, .ref aS])), (aT, .inr (2, [.ref aB, .int (nI u), .int (nI en), .int (nI h_43), .int na_44, .int w_41, .int (nI k_42)])), (aB, .inl (kB, 65536, .inl B)), (aS, .inr (1, [.ref aN, .ref aC])), (aN, .inl (kN, 5, .inl (fun j => nI (cnt_45 j)))), (aC, .inl (kC, 52035, .inl cel_46))]) [0, 1, 2, 3, 4, 5] rfl
          have hD9 := hD.sub (ws' := [(aR, .inr (0, [.ref aT, .ref aS])), (aT, .inr (2, [.ref aB, .int (nI u), .int (nI en), .int (nI h_43), .int na_44, .int w_41, .int (nI k_42)])), (aB, .inl (kB, 65536, .inl B)), (aS, .inr (1, [.ref aN, .ref aC])), (aN, .inl (kN, 5, .inl (fun j => nI (cnt_45 j)))), (aC, .inl (kC, 52035, .inl cel_46))]) [0, 1, 2, 3, 4, 5] (by decide) rfl
          exact vx_out (fun x hx => (htab x hx).elim) hlocks hce hcv hcl (fun t ht hvm => ⟨(w_41, k_42, h_43, na_44, cnt_45, cel_46), by simp only [zMesh, zListP, zNumP, zB_ok, zB_er, hw_3, hw_17a, hw_27, hx_47], ⟨hEn, by rw [ht]; exact hP9, hD9⟩, hS.F ht⟩) hS.2.2 (by decide) (by decide)
        ·
          obtain ⟨h_36, na_37, cel_38, n_39⟩ := uu
          obtain ⟨hP1, hD1, hsz1⟩ := hB
          rw [ht] at hP1 hsz1
          obtain ⟨hP, hD⟩ := va_join (wr := []) (w1 := [(aR, .inr (0, [.ref aT, .ref aS])), (aT, .inr (2, [.ref aB, .int (nI u), .int (nI en), .int (nI h_36), .int na_37, .int w, .int wa])), (aB, .inl (kB, 65536, .inl B)), (aS, .inr (1, [.ref aN, .ref aC])), (aN, .inl (kN, 5, .inl (fun j => nI (cnt j)))), (aC, .inl (kC, 52035, .inl cel_38))]) hP hD [0, 1, 2, 3, 4, 5] [] rfl rfl (by decide) (by decide) hk1 hFc hP1 hD1
          refine zt_tight (hsz1.trans hzs) ?_
          generalize H1 = H at hP hS ⊢
          have hP : va_P (dC, dI) vwCl [(aR, .inr (0, [.ref aT, .ref aS])), (aT, .inr (2, [.ref aB, .int (nI u), .int (nI en), .int (nI h_36), .int na_37, .int w, .int wa])), (aB, .inl (kB, 65536, .inl B)), (aS, .inr (1, [.ref aN, .ref aC])), (aN, .inl (kN, 5, .inl (fun j => nI (cnt j)))), (aC, .inl (kC, 52035, .inl cel_38))] H := hP
          have hD : va_D A [(aR, .inr (0, [.ref aT, .ref aS])), (aT, .inr (2, [.ref aB, .int (nI u), .int (nI en), .int (nI h_36), .int na_37, .int w, .int wa])), (aB, .inl (kB, 65536, .inl B)), (aS, .inr (1, [.ref aN, .ref aC])), (aN, .inl (kN, 5, .inl (fun j => nI (cnt j)))), (aC, .inl (kC, 52035, .inl cel_38))] := hD
          obtain ⟨rfl, hw_40a⟩ := hw_40
          simp only [zf02, zf01, zf11, zf12, zf21, zf22, decide_true, decide_false] at hw_40a
          have hw_40i := zList_in (by omega) hw_40a
          refine lv_iconst (v := 3) hx hb d_Rd_takeMesh_49 (by decide) ?_
          refine lv_idiv hx hb d_Rd_takeMesh_50 (by decide) ?_
          refine zt_top (pk_div (a := n_39) (d := 3) (by omega) (by decide) (by decide)) ?_
          refine lv_istore_n (lv' := [(2, .int (nI (n_39 / 3))), (0, .ref aR), (1, .int (nI cc))]) hx hb d_Rd_takeMesh_51 rfl hl (by decide) rfl (fun ls hl => ?_)
          refine lv_aload_n hx hb d_Rd_takeMesh_52 rfl (lv_at hl 1 rfl) ?_
          refine lv_bipush (v := 44) hx hb d_Rd_takeMesh_53 (by decide) ?_
          refine va_ldcS (q := G.2.1 22) hx hb hown (hE.2.2.2.2.2.2.2 22 (by decide)).2 d_Rd_takeMesh_55 ?_
          have hPc := hP.sub (ws' := [(aR, .inr (0, [.ref aT, .ref aS])), (aT, .inr (2, [.ref aB, .int (nI u), .int (nI en), .int (nI h_36), .int na_37, .int w, .int wa])), (aB, .inl (kB, 65536, .inl B)), (aS, .inr (1, [.ref aN, .ref aC])), (aN, .inl (kN, 5, .inl (fun j => nI (cnt j)))), (aC, .inl (kC, 52035, .inl cel_38))]) [0, 1, 2, 3, 4, 5] rfl
          have hDc := hD.sub (ws' := [(aR, .inr (0, [.ref aT, .ref aS])), (aT, .inr (2, [.ref aB, .int (nI u), .int (nI en), .int (nI h_36), .int na_37, .int w, .int wa])), (aB, .inl (kB, 65536, .inl B)), (aS, .inr (1, [.ref aN, .ref aC])), (aN, .inl (kN, 5, .inl (fun j => nI (cnt j)))), (aC, .inl (kC, 52035, .inl cel_38))]) [0, 1, 2, 3, 4, 5] (by decide) rfl
          have hKc := hK.sub (tys' := [(kB, .byte), (kN, .int), (kC, .int)]) [0, 1, 2] rfl
          have hFc := va_free (wc := [(aR, .inr (0, [.ref aT, .ref aS])), (aT, .inr (2, [.ref aB, .int (nI u), .int (nI en), .int (nI h_36), .int na_37, .int w, .int wa])), (aB, .inl (kB, 65536, .inl B)), (aS, .inr (1, [.ref aN, .ref aC])), (aN, .inl (kN, 5, .inl (fun j => nI (cnt j)))), (aC, .inl (kC, 52035, .inl cel_38))]) hD hS hA [0, 1, 2, 3, 4, 5] rfl
          refine zt_size (fun hzs => ?_)
          refine vx_callv (vx_runV (As := [.int 44, .ref (G.2.1 22)]) (rest := []) ⟨hx, hb, hml, hown, hts⟩ (c_Rd_takeName l hst G dC dI H.size aR aT aS aB u en h_36 na_37 w wa kB B aN aC kN cnt kC cel_38 44 22 (by omega) (by omega) (by decide) (zSb_len _)) (cwV 2 hts (gV tw_359 tw_361 ts_8 tw_2 tw_362 rfl) rfl rfl rfl (by decide +kernel) ⟨Nat.le_of_ble_eq_true rfl, Nat.le_of_ble_eq_true rfl⟩) (PW_preV hPc hKc hDc hE hS hFc (ci := 0) (q0 := 0) rfl rfl) rfl rfl hl.1 rfl (lv_room (Nat.le_of_ble_eq_true rfl)) d_Rd_takeMesh_57 ⟨Nat.le_of_ble_eq_true rfl, Nat.le_of_ble_eq_true rfl⟩) hS (fun q _ h => hFc q h) hFc (fun q _ h => hFc q h) (fun E9 ce9 q9 uu t H1 locs ht hvm hx_57 hB hz1 hk1 hS hce hcv hcl => ?_) (fun uu t H1 locs ht hvm hw_50 hB hz1 hk1 hS => ?_)
          ·
            obtain ⟨w_51, k_52, h_53, na_54, cnt_55, cel_56⟩ := uu
            obtain ⟨hEn, hP1, hD1⟩ := hB
            rw [ht] at hP1
            obtain ⟨hP, hD⟩ := va_join (wr := []) (w1 := [(aR, .inr (0, [.ref aT, .ref aS])), (aT, .inr (2, [.ref aB, .int (nI u), .int (nI en), .int (nI h_53), .int na_54, .int w_51, .int (nI k_52)])), (aB, .inl (kB, 65536, .inl B)), (aS, .inr (1, [.ref aN, .ref aC])), (aN, .inl (kN, 5, .inl (fun j => nI (cnt_55 j)))), (aC, .inl (kC, 52035, .inl cel_56))]) hP hD [0, 1, 2, 3, 4, 5] [] rfl rfl (by decide) (by decide) hk1 hFc hP1 hD1
            generalize H1 = H at hP hS hce ⊢
            have hP : va_P (dC, dI) vwCl [(aR, .inr (0, [.ref aT, .ref aS])), (aT, .inr (2, [.ref aB, .int (nI u), .int (nI en), .int (nI h_53), .int na_54, .int w_51, .int (nI k_52)])), (aB, .inl (kB, 65536, .inl B)), (aS, .inr (1, [.ref aN, .ref aC])), (aN, .inl (kN, 5, .inl (fun j => nI (cnt_55 j)))), (aC, .inl (kC, 52035, .inl cel_56))] H := hP
            have hD : va_D A [(aR, .inr (0, [.ref aT, .ref aS])), (aT, .inr (2, [.ref aB, .int (nI u), .int (nI en), .int (nI h_53), .int na_54, .int w_51, .int (nI k_52)])), (aB, .inl (kB, 65536, .inl B)), (aS, .inr (1, [.ref aN, .ref aC])), (aN, .inl (kN, 5, .inl (fun j => nI (cnt_55 j)))), (aC, .inl (kC, 52035, .inl cel_56))] := hD
            have hP9 := hP.sub (ws' := [(aR, .inr (0, [.ref aT, .ref aS])), (aT, .inr (2, [.ref aB, .int (nI u), .int (nI en), .int (nI h_53), .int na_54, .int w_51, .int (nI k_52)])), (aB, .inl (kB, 65536, .inl B)), (aS, .inr (1, [.ref aN, .ref aC])), (aN, .inl (kN, 5, .inl (fun j => nI (cnt_55 j)))), (aC, .inl (kC, 52035, .inl cel_56))]) [0, 1, 2, 3, 4, 5] rfl
            have hD9 := hD.sub (ws' := [(aR, .inr (0, [.ref aT, .ref aS])), (aT, .inr (2, [.ref aB, .int (nI u), .int (nI en), .int (nI h_53), .int na_54, .int w_51, .int (nI k_52)])), (aB, .inl (kB, 65536, .inl B)), (aS, .inr (1, [.ref aN, .ref aC])), (aN, .inl (kN, 5, .inl (fun j => nI (cnt_55 j)))), (aC, .inl (kC, 52035, .inl cel_56))]) [0, 1, 2, 3, 4, 5] (by decide) rfl
            exact vx_out (fun x hx => (htab x hx).elim) hlocks hce hcv hcl (fun t ht hvm => ⟨(w_51, k_52, h_53, na_54, cnt_55, cel_56), by simp only [zMesh, zListP, zNumP, zB_ok, zB_er, hw_3, hw_17a, hw_27, hw_40a, hx_57], ⟨hEn, by rw [ht]; exact hP9, hD9⟩, hS.F ht⟩) hS.2.2 (by decide) (by decide)
          ·
            obtain ⟨h_49, rfl⟩ : ∃ z, z = uu := ⟨_, rfl⟩
            obtain ⟨hP1, hD1, hsz1⟩ := hB
            rw [ht] at hP1 hsz1
            obtain ⟨hP, hD⟩ := va_join (wr := []) (w1 := [(aR, .inr (0, [.ref aT, .ref aS])), (aT, .inr (2, [.ref aB, .int (nI u), .int (nI en), .int (nI h_49), .int na_37, .int w, .int wa])), (aB, .inl (kB, 65536, .inl B)), (aS, .inr (1, [.ref aN, .ref aC])), (aN, .inl (kN, 5, .inl (fun j => nI (cnt j)))), (aC, .inl (kC, 52035, .inl cel_38))]) hP hD [0, 1, 2, 3, 4, 5] [] rfl rfl (by decide) (by decide) hk1 hFc hP1 hD1
            refine zt_tight (hsz1.trans hzs) ?_
            generalize H1 = H at hP hS ⊢
            have hP : va_P (dC, dI) vwCl [(aR, .inr (0, [.ref aT, .ref aS])), (aT, .inr (2, [.ref aB, .int (nI u), .int (nI en), .int (nI h_49), .int na_37, .int w, .int wa])), (aB, .inl (kB, 65536, .inl B)), (aS, .inr (1, [.ref aN, .ref aC])), (aN, .inl (kN, 5, .inl (fun j => nI (cnt j)))), (aC, .inl (kC, 52035, .inl cel_38))] H := hP
            have hD : va_D A [(aR, .inr (0, [.ref aT, .ref aS])), (aT, .inr (2, [.ref aB, .int (nI u), .int (nI en), .int (nI h_49), .int na_37, .int w, .int wa])), (aB, .inl (kB, 65536, .inl B)), (aS, .inr (1, [.ref aN, .ref aC])), (aN, .inl (kN, 5, .inl (fun j => nI (cnt j)))), (aC, .inl (kC, 52035, .inl cel_38))] := hD
            have hw_50i := zName_in hw_50
            refine lv_aload_n hx hb d_Rd_takeMesh_60 rfl (lv_at hl 1 rfl) ?_
            refine lv_iconst (v := 0) hx hb d_Rd_takeMesh_61 (by decide) ?_
            refine lv_iconst (v := 3) hx hb d_Rd_takeMesh_62 (by decide) ?_
            refine lv_iload_n hx hb d_Rd_takeMesh_63 rfl (lv_at hl 0 rfl) ?_
            refine lv_imul hx hb d_Rd_takeMesh_64 ?_
            refine zt_top (pk_mul 3 (n_39 / 3)) ?_
            refine lv_iconst (v := 3) hx hb d_Rd_takeMesh_65 (by decide) ?_
            refine lv_iload_n hx hb d_Rd_takeMesh_66 rfl (lv_at hl 0 rfl) ?_
            refine lv_imul hx hb d_Rd_takeMesh_67 ?_
            refine zt_top (pk_mul 3 (n_39 / 3)) ?_
            refine lv_iload_n hx hb d_Rd_takeMesh_68 rfl (lv_at hl 2 rfl) ?_
            refine lv_sipush (v := 387) hx hb d_Rd_takeMesh_69 (by decide) ?_
            refine lv_iadd hx hb d_Rd_takeMesh_72 ?_
            refine zt_top (nI_add cc 387) ?_
            refine lv_ldc (v := -65536) hx hb hown (hz _ tw_396) d_Rd_takeMesh_73 ?_
            refine lv_ldc (v := 65536) hx hb hown (hz _ tw_397) d_Rd_takeMesh_75 ?_
            have hPc := hP.sub (ws' := [(aR, .inr (0, [.ref aT, .ref aS])), (aT, .inr (2, [.ref aB, .int (nI u), .int (nI en), .int (nI h_49), .int na_37, .int w, .int wa])), (aB, .inl (kB, 65536, .inl B)), (aS, .inr (1, [.ref aN, .ref aC])), (aN, .inl (kN, 5, .inl (fun j => nI (cnt j)))), (aC, .inl (kC, 52035, .inl cel_38))]) [0, 1, 2, 3, 4, 5] rfl
            have hDc := hD.sub (ws' := [(aR, .inr (0, [.ref aT, .ref aS])), (aT, .inr (2, [.ref aB, .int (nI u), .int (nI en), .int (nI h_49), .int na_37, .int w, .int wa])), (aB, .inl (kB, 65536, .inl B)), (aS, .inr (1, [.ref aN, .ref aC])), (aN, .inl (kN, 5, .inl (fun j => nI (cnt j)))), (aC, .inl (kC, 52035, .inl cel_38))]) [0, 1, 2, 3, 4, 5] (by decide) rfl
            have hKc := hK.sub (tys' := [(kB, .byte), (kN, .int), (kC, .int)]) [0, 1, 2] rfl
            have hFc := va_free (wc := [(aR, .inr (0, [.ref aT, .ref aS])), (aT, .inr (2, [.ref aB, .int (nI u), .int (nI en), .int (nI h_49), .int na_37, .int w, .int wa])), (aB, .inl (kB, 65536, .inl B)), (aS, .inr (1, [.ref aN, .ref aC])), (aN, .inl (kN, 5, .inl (fun j => nI (cnt j)))), (aC, .inl (kC, 52035, .inl cel_38))]) hD hS hA [0, 1, 2, 3, 4, 5] rfl
            refine zt_size (fun hzs => ?_)
            refine vx_calli (vx_runV (As := [.int 0, .int (nI (3 * (n_39 / 3))), .int (nI (3 * (n_39 / 3))), .int (nI (cc + 387)), .int (-65536), .int 65536]) (rest := []) ⟨hx, hb, hml, hown, hts⟩ (c_Rd_takeList l hst G dC dI H.size aR aT aS aB u en h_49 na_37 w wa kB B aN aC kN cnt kC cel_38 0 (3 * (n_39 / 3)) (3 * (n_39 / 3)) (cc + 387) (-65536) 65536 (by omega) (by omega) (by omega) (by omega) (by omega)) (cwV 6 hts (gV tw_366 tw_368 ts_9 tw_2 tw_369 rfl) rfl rfl rfl (by decide +kernel) ⟨Nat.le_of_ble_eq_true rfl, Nat.le_of_ble_eq_true rfl⟩) (PW_preV hPc hKc hDc hE hS hFc (ci := 0) (q0 := 0) rfl rfl) rfl rfl hl.1 rfl (lv_room (Nat.le_of_ble_eq_true rfl)) d_Rd_takeMesh_77 ⟨Nat.le_of_ble_eq_true rfl, Nat.le_of_ble_eq_true rfl⟩) hS (fun q _ h => hFc q h) hFc (fun q _ h => hFc q h) (fun E9 ce9 q9 uu t H1 locs ht hvm hx_70 hB hz1 hk1 hS hce hcv hcl => ?_) (fun r_58 uu t H1 locs ht hvm hw_63 hB hz1 hk1 hS => ?_)
            ·
              obtain ⟨w_64, k_65, h_66, na_67, cnt_68, cel_69⟩ := uu
              obtain ⟨hEn, hP1, hD1⟩ := hB
              rw [ht] at hP1
              obtain ⟨hP, hD⟩ := va_join (wr := []) (w1 := [(aR, .inr (0, [.ref aT, .ref aS])), (aT, .inr (2, [.ref aB, .int (nI u), .int (nI en), .int (nI h_66), .int na_67, .int w_64, .int (nI k_65)])), (aB, .inl (kB, 65536, .inl B)), (aS, .inr (1, [.ref aN, .ref aC])), (aN, .inl (kN, 5, .inl (fun j => nI (cnt_68 j)))), (aC, .inl (kC, 52035, .inl cel_69))]) hP hD [0, 1, 2, 3, 4, 5] [] rfl rfl (by decide) (by decide) hk1 hFc hP1 hD1
              generalize H1 = H at hP hS hce ⊢
              have hP : va_P (dC, dI) vwCl [(aR, .inr (0, [.ref aT, .ref aS])), (aT, .inr (2, [.ref aB, .int (nI u), .int (nI en), .int (nI h_66), .int na_67, .int w_64, .int (nI k_65)])), (aB, .inl (kB, 65536, .inl B)), (aS, .inr (1, [.ref aN, .ref aC])), (aN, .inl (kN, 5, .inl (fun j => nI (cnt_68 j)))), (aC, .inl (kC, 52035, .inl cel_69))] H := hP
              have hD : va_D A [(aR, .inr (0, [.ref aT, .ref aS])), (aT, .inr (2, [.ref aB, .int (nI u), .int (nI en), .int (nI h_66), .int na_67, .int w_64, .int (nI k_65)])), (aB, .inl (kB, 65536, .inl B)), (aS, .inr (1, [.ref aN, .ref aC])), (aN, .inl (kN, 5, .inl (fun j => nI (cnt_68 j)))), (aC, .inl (kC, 52035, .inl cel_69))] := hD
              simp only [zf02, zf01, zf11, zf12, zf21, zf22, decide_true, decide_false] at hx_70
              have hP9 := hP.sub (ws' := [(aR, .inr (0, [.ref aT, .ref aS])), (aT, .inr (2, [.ref aB, .int (nI u), .int (nI en), .int (nI h_66), .int na_67, .int w_64, .int (nI k_65)])), (aB, .inl (kB, 65536, .inl B)), (aS, .inr (1, [.ref aN, .ref aC])), (aN, .inl (kN, 5, .inl (fun j => nI (cnt_68 j)))), (aC, .inl (kC, 52035, .inl cel_69))]) [0, 1, 2, 3, 4, 5] rfl
              have hD9 := hD.sub (ws' := [(aR, .inr (0, [.ref aT, .ref aS])), (aT, .inr (2, [.ref aB, .int (nI u), .int (nI en), .int (nI h_66), .int na_67, .int w_64, .int (nI k_65)])), (aB, .inl (kB, 65536, .inl B)), (aS, .inr (1, [.ref aN, .ref aC])), (aN, .inl (kN, 5, .inl (fun j => nI (cnt_68 j)))), (aC, .inl (kC, 52035, .inl cel_69))]) [0, 1, 2, 3, 4, 5] (by decide) rfl
              exact vx_out (fun x hx => (htab x hx).elim) hlocks hce hcv hcl (fun t ht hvm => ⟨(w_64, k_65, h_66, na_67, cnt_68, cel_69), by simp only [zMesh, zListP, zNumP, zB_ok, zB_er, hw_3, hw_17a, hw_27, hw_40a, hw_50, hx_70], ⟨hEn, by rw [ht]; exact hP9, hD9⟩, hS.F ht⟩) hS.2.2 (by decide) (by decide)
            ·
              obtain ⟨h_59, na_60, cel_61, n_62⟩ := uu
              obtain ⟨hP1, hD1, hsz1⟩ := hB
              rw [ht] at hP1 hsz1
              obtain ⟨hP, hD⟩ := va_join (wr := []) (w1 := [(aR, .inr (0, [.ref aT, .ref aS])), (aT, .inr (2, [.ref aB, .int (nI u), .int (nI en), .int (nI h_59), .int na_60, .int w, .int wa])), (aB, .inl (kB, 65536, .inl B)), (aS, .inr (1, [.ref aN, .ref aC])), (aN, .inl (kN, 5, .inl (fun j => nI (cnt j)))), (aC, .inl (kC, 52035, .inl cel_61))]) hP hD [0, 1, 2, 3, 4, 5] [] rfl rfl (by decide) (by decide) hk1 hFc hP1 hD1
              refine zt_tight (hsz1.trans hzs) ?_
              generalize H1 = H at hP hS ⊢
              have hP : va_P (dC, dI) vwCl [(aR, .inr (0, [.ref aT, .ref aS])), (aT, .inr (2, [.ref aB, .int (nI u), .int (nI en), .int (nI h_59), .int na_60, .int w, .int wa])), (aB, .inl (kB, 65536, .inl B)), (aS, .inr (1, [.ref aN, .ref aC])), (aN, .inl (kN, 5, .inl (fun j => nI (cnt j)))), (aC, .inl (kC, 52035, .inl cel_61))] H := hP
              have hD : va_D A [(aR, .inr (0, [.ref aT, .ref aS])), (aT, .inr (2, [.ref aB, .int (nI u), .int (nI en), .int (nI h_59), .int na_60, .int w, .int wa])), (aB, .inl (kB, 65536, .inl B)), (aS, .inr (1, [.ref aN, .ref aC])), (aN, .inl (kN, 5, .inl (fun j => nI (cnt j)))), (aC, .inl (kC, 52035, .inl cel_61))] := hD
              obtain ⟨rfl, hw_63a⟩ := hw_63
              simp only [zf02, zf01, zf11, zf12, zf21, zf22, decide_true, decide_false] at hw_63a
              have hw_63i := zList_in (by omega) hw_63a
              refine lv_pop hx hb d_Rd_takeMesh_80 rfl ?_
              refine lv_aload_n hx hb d_Rd_takeMesh_81 rfl (lv_at hl 1 rfl) ?_
              refine lv_bipush (v := 44) hx hb d_Rd_takeMesh_82 (by decide) ?_
              refine va_ldcS (q := G.2.1 23) hx hb hown (hE.2.2.2.2.2.2.2 23 (by decide)).2 d_Rd_takeMesh_84 ?_
              have hPc := hP.sub (ws' := [(aR, .inr (0, [.ref aT, .ref aS])), (aT, .inr (2, [.ref aB, .int (nI u), .int (nI en), .int (nI h_59), .int na_60, .int w, .int wa])), (aB, .inl (kB, 65536, .inl B)), (aS, .inr (1, [.ref aN, .ref aC])), (aN, .inl (kN, 5, .inl (fun j => nI (cnt j)))), (aC, .inl (kC, 52035, .inl cel_61))]) [0, 1, 2, 3, 4, 5] rfl
              have hDc := hD.sub (ws' := [(aR, .inr (0, [.ref aT, .ref aS])), (aT, .inr (2, [.ref aB, .int (nI u), .int (nI en), .int (nI h_59), .int na_60, .int w, .int wa])), (aB, .inl (kB, 65536, .inl B)), (aS, .inr (1, [.ref aN, .ref aC])), (aN, .inl (kN, 5, .inl (fun j => nI (cnt j)))), (aC, .inl (kC, 52035, .inl cel_61))]) [0, 1, 2, 3, 4, 5] (by decide) rfl
              have hKc := hK.sub (tys' := [(kB, .byte), (kN, .int), (kC, .int)]) [0, 1, 2] rfl
              have hFc := va_free (wc := [(aR, .inr (0, [.ref aT, .ref aS])), (aT, .inr (2, [.ref aB, .int (nI u), .int (nI en), .int (nI h_59), .int na_60, .int w, .int wa])), (aB, .inl (kB, 65536, .inl B)), (aS, .inr (1, [.ref aN, .ref aC])), (aN, .inl (kN, 5, .inl (fun j => nI (cnt j)))), (aC, .inl (kC, 52035, .inl cel_61))]) hD hS hA [0, 1, 2, 3, 4, 5] rfl
              refine zt_size (fun hzs => ?_)
              refine vx_callv (vx_runV (As := [.int 44, .ref (G.2.1 23)]) (rest := []) ⟨hx, hb, hml, hown, hts⟩ (c_Rd_takeName l hst G dC dI H.size aR aT aS aB u en h_59 na_60 w wa kB B aN aC kN cnt kC cel_61 44 23 (by omega) (by omega) (by decide) (zSb_len _)) (cwV 2 hts (gV tw_359 tw_361 ts_8 tw_2 tw_362 rfl) rfl rfl rfl (by decide +kernel) ⟨Nat.le_of_ble_eq_true rfl, Nat.le_of_ble_eq_true rfl⟩) (PW_preV hPc hKc hDc hE hS hFc (ci := 0) (q0 := 0) rfl rfl) rfl rfl hl.1 rfl (lv_room (Nat.le_of_ble_eq_true rfl)) d_Rd_takeMesh_86 ⟨Nat.le_of_ble_eq_true rfl, Nat.le_of_ble_eq_true rfl⟩) hS (fun q _ h => hFc q h) hFc (fun q _ h => hFc q h) (fun E9 ce9 q9 uu t H1 locs ht hvm hx_80 hB hz1 hk1 hS hce hcv hcl => ?_) (fun uu t H1 locs ht hvm hw_73 hB hz1 hk1 hS => ?_)
              ·
                obtain ⟨w_74, k_75, h_76, na_77, cnt_78, cel_79⟩ := uu
                obtain ⟨hEn, hP1, hD1⟩ := hB
                rw [ht] at hP1
                obtain ⟨hP, hD⟩ := va_join (wr := []) (w1 := [(aR, .inr (0, [.ref aT, .ref aS])), (aT, .inr (2, [.ref aB, .int (nI u), .int (nI en), .int (nI h_76), .int na_77, .int w_74, .int (nI k_75)])), (aB, .inl (kB, 65536, .inl B)), (aS, .inr (1, [.ref aN, .ref aC])), (aN, .inl (kN, 5, .inl (fun j => nI (cnt_78 j)))), (aC, .inl (kC, 52035, .inl cel_79))]) hP hD [0, 1, 2, 3, 4, 5] [] rfl rfl (by decide) (by decide) hk1 hFc hP1 hD1
                generalize H1 = H at hP hS hce ⊢
                have hP : va_P (dC, dI) vwCl [(aR, .inr (0, [.ref aT, .ref aS])), (aT, .inr (2, [.ref aB, .int (nI u), .int (nI en), .int (nI h_76), .int na_77, .int w_74, .int (nI k_75)])), (aB, .inl (kB, 65536, .inl B)), (aS, .inr (1, [.ref aN, .ref aC])), (aN, .inl (kN, 5, .inl (fun j => nI (cnt_78 j)))), (aC, .inl (kC, 52035, .inl cel_79))] H := hP
                have hD : va_D A [(aR, .inr (0, [.ref aT, .ref aS])), (aT, .inr (2, [.ref aB, .int (nI u), .int (nI en), .int (nI h_76), .int na_77, .int w_74, .int (nI k_75)])), (aB, .inl (kB, 65536, .inl B)), (aS, .inr (1, [.ref aN, .ref aC])), (aN, .inl (kN, 5, .inl (fun j => nI (cnt_78 j)))), (aC, .inl (kC, 52035, .inl cel_79))] := hD
                have hP9 := hP.sub (ws' := [(aR, .inr (0, [.ref aT, .ref aS])), (aT, .inr (2, [.ref aB, .int (nI u), .int (nI en), .int (nI h_76), .int na_77, .int w_74, .int (nI k_75)])), (aB, .inl (kB, 65536, .inl B)), (aS, .inr (1, [.ref aN, .ref aC])), (aN, .inl (kN, 5, .inl (fun j => nI (cnt_78 j)))), (aC, .inl (kC, 52035, .inl cel_79))]) [0, 1, 2, 3, 4, 5] rfl
                have hD9 := hD.sub (ws' := [(aR, .inr (0, [.ref aT, .ref aS])), (aT, .inr (2, [.ref aB, .int (nI u), .int (nI en), .int (nI h_76), .int na_77, .int w_74, .int (nI k_75)])), (aB, .inl (kB, 65536, .inl B)), (aS, .inr (1, [.ref aN, .ref aC])), (aN, .inl (kN, 5, .inl (fun j => nI (cnt_78 j)))), (aC, .inl (kC, 52035, .inl cel_79))]) [0, 1, 2, 3, 4, 5] (by decide) rfl
                exact vx_out (fun x hx => (htab x hx).elim) hlocks hce hcv hcl (fun t ht hvm => ⟨(w_74, k_75, h_76, na_77, cnt_78, cel_79), by simp only [zMesh, zListP, zNumP, zB_ok, zB_er, hw_3, hw_17a, hw_27, hw_40a, hw_50, hw_63a, hx_80], ⟨hEn, by rw [ht]; exact hP9, hD9⟩, hS.F ht⟩) hS.2.2 (by decide) (by decide)
              ·
                obtain ⟨h_72, rfl⟩ : ∃ z, z = uu := ⟨_, rfl⟩
                obtain ⟨hP1, hD1, hsz1⟩ := hB
                rw [ht] at hP1 hsz1
                obtain ⟨hP, hD⟩ := va_join (wr := []) (w1 := [(aR, .inr (0, [.ref aT, .ref aS])), (aT, .inr (2, [.ref aB, .int (nI u), .int (nI en), .int (nI h_72), .int na_60, .int w, .int wa])), (aB, .inl (kB, 65536, .inl B)), (aS, .inr (1, [.ref aN, .ref aC])), (aN, .inl (kN, 5, .inl (fun j => nI (cnt j)))), (aC, .inl (kC, 52035, .inl cel_61))]) hP hD [0, 1, 2, 3, 4, 5] [] rfl rfl (by decide) (by decide) hk1 hFc hP1 hD1
                refine zt_tight (hsz1.trans hzs) ?_
                generalize H1 = H at hP hS ⊢
                have hP : va_P (dC, dI) vwCl [(aR, .inr (0, [.ref aT, .ref aS])), (aT, .inr (2, [.ref aB, .int (nI u), .int (nI en), .int (nI h_72), .int na_60, .int w, .int wa])), (aB, .inl (kB, 65536, .inl B)), (aS, .inr (1, [.ref aN, .ref aC])), (aN, .inl (kN, 5, .inl (fun j => nI (cnt j)))), (aC, .inl (kC, 52035, .inl cel_61))] H := hP
                have hD : va_D A [(aR, .inr (0, [.ref aT, .ref aS])), (aT, .inr (2, [.ref aB, .int (nI u), .int (nI en), .int (nI h_72), .int na_60, .int w, .int wa])), (aB, .inl (kB, 65536, .inl B)), (aS, .inr (1, [.ref aN, .ref aC])), (aN, .inl (kN, 5, .inl (fun j => nI (cnt j)))), (aC, .inl (kC, 52035, .inl cel_61))] := hD
                have hw_73i := zName_in hw_73
                refine lv_aload_n hx hb d_Rd_takeMesh_89 rfl (lv_at hl 1 rfl) ?_
                refine lv_iconst (v := 0) hx hb d_Rd_takeMesh_90 (by decide) ?_
                refine lv_iconst (v := 2) hx hb d_Rd_takeMesh_91 (by decide) ?_
                refine lv_iload_n hx hb d_Rd_takeMesh_92 rfl (lv_at hl 0 rfl) ?_
                refine lv_imul hx hb d_Rd_takeMesh_93 ?_
                refine zt_top (pk_mul 2 (n_39 / 3)) ?_
                refine lv_iconst (v := 2) hx hb d_Rd_takeMesh_94 (by decide) ?_
                refine lv_iload_n hx hb d_Rd_takeMesh_95 rfl (lv_at hl 0 rfl) ?_
                refine lv_imul hx hb d_Rd_takeMesh_96 ?_
                refine zt_top (pk_mul 2 (n_39 / 3)) ?_
                refine lv_iload_n hx hb d_Rd_takeMesh_97 rfl (lv_at hl 2 rfl) ?_
                refine lv_sipush (v := 771) hx hb d_Rd_takeMesh_98 (by decide) ?_
                refine lv_iadd hx hb d_Rd_takeMesh_101 ?_
                refine zt_top (nI_add cc 771) ?_
                refine lv_ldc (v := -131072) hx hb hown (hz _ tw_436) d_Rd_takeMesh_102 ?_
                refine lv_ldc (v := 131072) hx hb hown (hz _ tw_437) d_Rd_takeMesh_104 ?_
                have hPc := hP.sub (ws' := [(aR, .inr (0, [.ref aT, .ref aS])), (aT, .inr (2, [.ref aB, .int (nI u), .int (nI en), .int (nI h_72), .int na_60, .int w, .int wa])), (aB, .inl (kB, 65536, .inl B)), (aS, .inr (1, [.ref aN, .ref aC])), (aN, .inl (kN, 5, .inl (fun j => nI (cnt j)))), (aC, .inl (kC, 52035, .inl cel_61))]) [0, 1, 2, 3, 4, 5] rfl
                have hDc := hD.sub (ws' := [(aR, .inr (0, [.ref aT, .ref aS])), (aT, .inr (2, [.ref aB, .int (nI u), .int (nI en), .int (nI h_72), .int na_60, .int w, .int wa])), (aB, .inl (kB, 65536, .inl B)), (aS, .inr (1, [.ref aN, .ref aC])), (aN, .inl (kN, 5, .inl (fun j => nI (cnt j)))), (aC, .inl (kC, 52035, .inl cel_61))]) [0, 1, 2, 3, 4, 5] (by decide) rfl
                have hKc := hK.sub (tys' := [(kB, .byte), (kN, .int), (kC, .int)]) [0, 1, 2] rfl
                have hFc := va_free (wc := [(aR, .inr (0, [.ref aT, .ref aS])), (aT, .inr (2, [.ref aB, .int (nI u), .int (nI en), .int (nI h_72), .int na_60, .int w, .int wa])), (aB, .inl (kB, 65536, .inl B)), (aS, .inr (1, [.ref aN, .ref aC])), (aN, .inl (kN, 5, .inl (fun j => nI (cnt j)))), (aC, .inl (kC, 52035, .inl cel_61))]) hD hS hA [0, 1, 2, 3, 4, 5] rfl
                refine zt_size (fun hzs => ?_)
                refine vx_calli (vx_runV (As := [.int 0, .int (nI (2 * (n_39 / 3))), .int (nI (2 * (n_39 / 3))), .int (nI (cc + 771)), .int (-131072), .int 131072]) (rest := []) ⟨hx, hb, hml, hown, hts⟩ (c_Rd_takeList l hst G dC dI H.size aR aT aS aB u en h_72 na_60 w wa kB B aN aC kN cnt kC cel_61 0 (2 * (n_39 / 3)) (2 * (n_39 / 3)) (cc + 771) (-131072) 131072 (by omega) (by omega) (by omega) (by omega) (by omega)) (cwV 6 hts (gV tw_366 tw_368 ts_9 tw_2 tw_369 rfl) rfl rfl rfl (by decide +kernel) ⟨Nat.le_of_ble_eq_true rfl, Nat.le_of_ble_eq_true rfl⟩) (PW_preV hPc hKc hDc hE hS hFc (ci := 0) (q0 := 0) rfl rfl) rfl rfl hl.1 rfl (lv_room (Nat.le_of_ble_eq_true rfl)) d_Rd_takeMesh_106 ⟨Nat.le_of_ble_eq_true rfl, Nat.le_of_ble_eq_true rfl⟩) hS (fun q _ h => hFc q h) hFc (fun q _ h => hFc q h) (fun E9 ce9 q9 uu t H1 locs ht hvm hx_93 hB hz1 hk1 hS hce hcv hcl => ?_) (fun r_81 uu t H1 locs ht hvm hw_86 hB hz1 hk1 hS => ?_)
                ·
                  obtain ⟨w_87, k_88, h_89, na_90, cnt_91, cel_92⟩ := uu
                  obtain ⟨hEn, hP1, hD1⟩ := hB
                  rw [ht] at hP1
                  obtain ⟨hP, hD⟩ := va_join (wr := []) (w1 := [(aR, .inr (0, [.ref aT, .ref aS])), (aT, .inr (2, [.ref aB, .int (nI u), .int (nI en), .int (nI h_89), .int na_90, .int w_87, .int (nI k_88)])), (aB, .inl (kB, 65536, .inl B)), (aS, .inr (1, [.ref aN, .ref aC])), (aN, .inl (kN, 5, .inl (fun j => nI (cnt_91 j)))), (aC, .inl (kC, 52035, .inl cel_92))]) hP hD [0, 1, 2, 3, 4, 5] [] rfl rfl (by decide) (by decide) hk1 hFc hP1 hD1
                  generalize H1 = H at hP hS hce ⊢
                  have hP : va_P (dC, dI) vwCl [(aR, .inr (0, [.ref aT, .ref aS])), (aT, .inr (2, [.ref aB, .int (nI u), .int (nI en), .int (nI h_89), .int na_90, .int w_87, .int (nI k_88)])), (aB, .inl (kB, 65536, .inl B)), (aS, .inr (1, [.ref aN, .ref aC])), (aN, .inl (kN, 5, .inl (fun j => nI (cnt_91 j)))), (aC, .inl (kC, 52035, .inl cel_92))] H := hP
                  have hD : va_D A [(aR, .inr (0, [.ref aT, .ref aS])), (aT, .inr (2, [.ref aB, .int (nI u), .int (nI en), .int (nI h_89), .int na_90, .int w_87, .int (nI k_88)])), (aB, .inl (kB, 65536, .inl B)), (aS, .inr (1, [.ref aN, .ref aC])), (aN, .inl (kN, 5, .inl (fun j => nI (cnt_91 j)))), (aC, .inl (kC, 52035, .inl cel_92))] := hD
                  simp only [zf02, zf01, zf11, zf12, zf21, zf22, decide_true, decide_false] at hx_93
                  have hP9 := hP.sub (ws' := [(aR, .inr (0, [.ref aT, .ref aS])), (aT, .inr (2, [.ref aB, .int (nI u), .int (nI en), .int (nI h_89), .int na_90, .int w_87, .int (nI k_88)])), (aB, .inl (kB, 65536, .inl B)), (aS, .inr (1, [.ref aN, .ref aC])), (aN, .inl (kN, 5, .inl (fun j => nI (cnt_91 j)))), (aC, .inl (kC, 52035, .inl cel_92))]) [0, 1, 2, 3, 4, 5] rfl
                  have hD9 := hD.sub (ws' := [(aR, .inr (0, [.ref aT, .ref aS])), (aT, .inr (2, [.ref aB, .int (nI u), .int (nI en), .int (nI h_89), .int na_90, .int w_87, .int (nI k_88)])), (aB, .inl (kB, 65536, .inl B)), (aS, .inr (1, [.ref aN, .ref aC])), (aN, .inl (kN, 5, .inl (fun j => nI (cnt_91 j)))), (aC, .inl (kC, 52035, .inl cel_92))]) [0, 1, 2, 3, 4, 5] (by decide) rfl
                  exact vx_out (fun x hx => (htab x hx).elim) hlocks hce hcv hcl (fun t ht hvm => ⟨(w_87, k_88, h_89, na_90, cnt_91, cel_92), by simp only [zMesh, zListP, zNumP, zB_ok, zB_er, hw_3, hw_17a, hw_27, hw_40a, hw_50, hw_63a, hw_73, hx_93], ⟨hEn, by rw [ht]; exact hP9, hD9⟩, hS.F ht⟩) hS.2.2 (by decide) (by decide)
                ·
                  obtain ⟨h_82, na_83, cel_84, n_85⟩ := uu
                  obtain ⟨hP1, hD1, hsz1⟩ := hB
                  rw [ht] at hP1 hsz1
                  obtain ⟨hP, hD⟩ := va_join (wr := []) (w1 := [(aR, .inr (0, [.ref aT, .ref aS])), (aT, .inr (2, [.ref aB, .int (nI u), .int (nI en), .int (nI h_82), .int na_83, .int w, .int wa])), (aB, .inl (kB, 65536, .inl B)), (aS, .inr (1, [.ref aN, .ref aC])), (aN, .inl (kN, 5, .inl (fun j => nI (cnt j)))), (aC, .inl (kC, 52035, .inl cel_84))]) hP hD [0, 1, 2, 3, 4, 5] [] rfl rfl (by decide) (by decide) hk1 hFc hP1 hD1
                  refine zt_tight (hsz1.trans hzs) ?_
                  generalize H1 = H at hP hS ⊢
                  have hP : va_P (dC, dI) vwCl [(aR, .inr (0, [.ref aT, .ref aS])), (aT, .inr (2, [.ref aB, .int (nI u), .int (nI en), .int (nI h_82), .int na_83, .int w, .int wa])), (aB, .inl (kB, 65536, .inl B)), (aS, .inr (1, [.ref aN, .ref aC])), (aN, .inl (kN, 5, .inl (fun j => nI (cnt j)))), (aC, .inl (kC, 52035, .inl cel_84))] H := hP
                  have hD : va_D A [(aR, .inr (0, [.ref aT, .ref aS])), (aT, .inr (2, [.ref aB, .int (nI u), .int (nI en), .int (nI h_82), .int na_83, .int w, .int wa])), (aB, .inl (kB, 65536, .inl B)), (aS, .inr (1, [.ref aN, .ref aC])), (aN, .inl (kN, 5, .inl (fun j => nI (cnt j)))), (aC, .inl (kC, 52035, .inl cel_84))] := hD
                  obtain ⟨rfl, hw_86a⟩ := hw_86
                  simp only [zf02, zf01, zf11, zf12, zf21, zf22, decide_true, decide_false] at hw_86a
                  have hw_86i := zList_in (by omega) hw_86a
                  refine lv_pop hx hb d_Rd_takeMesh_109 rfl ?_
                  refine lv_aload_n hx hb d_Rd_takeMesh_110 rfl (lv_at hl 1 rfl) ?_
                  refine lv_bipush (v := 44) hx hb d_Rd_takeMesh_111 (by decide) ?_
                  refine va_ldcS (q := G.2.1 24) hx hb hown (hE.2.2.2.2.2.2.2 24 (by decide)).2 d_Rd_takeMesh_113 ?_
                  have hPc := hP.sub (ws' := [(aR, .inr (0, [.ref aT, .ref aS])), (aT, .inr (2, [.ref aB, .int (nI u), .int (nI en), .int (nI h_82), .int na_83, .int w, .int wa])), (aB, .inl (kB, 65536, .inl B)), (aS, .inr (1, [.ref aN, .ref aC])), (aN, .inl (kN, 5, .inl (fun j => nI (cnt j)))), (aC, .inl (kC, 52035, .inl cel_84))]) [0, 1, 2, 3, 4, 5] rfl
                  have hDc := hD.sub (ws' := [(aR, .inr (0, [.ref aT, .ref aS])), (aT, .inr (2, [.ref aB, .int (nI u), .int (nI en), .int (nI h_82), .int na_83, .int w, .int wa])), (aB, .inl (kB, 65536, .inl B)), (aS, .inr (1, [.ref aN, .ref aC])), (aN, .inl (kN, 5, .inl (fun j => nI (cnt j)))), (aC, .inl (kC, 52035, .inl cel_84))]) [0, 1, 2, 3, 4, 5] (by decide) rfl
                  have hKc := hK.sub (tys' := [(kB, .byte), (kN, .int), (kC, .int)]) [0, 1, 2] rfl
                  have hFc := va_free (wc := [(aR, .inr (0, [.ref aT, .ref aS])), (aT, .inr (2, [.ref aB, .int (nI u), .int (nI en), .int (nI h_82), .int na_83, .int w, .int wa])), (aB, .inl (kB, 65536, .inl B)), (aS, .inr (1, [.ref aN, .ref aC])), (aN, .inl (kN, 5, .inl (fun j => nI (cnt j)))), (aC, .inl (kC, 52035, .inl cel_84))]) hD hS hA [0, 1, 2, 3, 4, 5] rfl
                  refine zt_size (fun hzs => ?_)
                  refine vx_callv (vx_runV (As := [.int 44, .ref (G.2.1 24)]) (rest := []) ⟨hx, hb, hml, hown, hts⟩ (c_Rd_takeName l hst G dC dI H.size aR aT aS aB u en h_82 na_83 w wa kB B aN aC kN cnt kC cel_84 44 24 (by omega) (by omega) (by decide) (zSb_len _)) (cwV 2 hts (gV tw_359 tw_361 ts_8 tw_2 tw_362 rfl) rfl rfl rfl (by decide +kernel) ⟨Nat.le_of_ble_eq_true rfl, Nat.le_of_ble_eq_true rfl⟩) (PW_preV hPc hKc hDc hE hS hFc (ci := 0) (q0 := 0) rfl rfl) rfl rfl hl.1 rfl (lv_room (Nat.le_of_ble_eq_true rfl)) d_Rd_takeMesh_115 ⟨Nat.le_of_ble_eq_true rfl, Nat.le_of_ble_eq_true rfl⟩) hS (fun q _ h => hFc q h) hFc (fun q _ h => hFc q h) (fun E9 ce9 q9 uu t H1 locs ht hvm hx_103 hB hz1 hk1 hS hce hcv hcl => ?_) (fun uu t H1 locs ht hvm hw_96 hB hz1 hk1 hS => ?_)
                  ·
                    obtain ⟨w_97, k_98, h_99, na_100, cnt_101, cel_102⟩ := uu
                    obtain ⟨hEn, hP1, hD1⟩ := hB
                    rw [ht] at hP1
                    obtain ⟨hP, hD⟩ := va_join (wr := []) (w1 := [(aR, .inr (0, [.ref aT, .ref aS])), (aT, .inr (2, [.ref aB, .int (nI u), .int (nI en), .int (nI h_99), .int na_100, .int w_97, .int (nI k_98)])), (aB, .inl (kB, 65536, .inl B)), (aS, .inr (1, [.ref aN, .ref aC])), (aN, .inl (kN, 5, .inl (fun j => nI (cnt_101 j)))), (aC, .inl (kC, 52035, .inl cel_102))]) hP hD [0, 1, 2, 3, 4, 5] [] rfl rfl (by decide) (by decide) hk1 hFc hP1 hD1
                    generalize H1 = H at hP hS hce ⊢
                    have hP : va_P (dC, dI) vwCl [(aR, .inr (0, [.ref aT, .ref aS])), (aT, .inr (2, [.ref aB, .int (nI u), .int (nI en), .int (nI h_99), .int na_100, .int w_97, .int (nI k_98)])), (aB, .inl (kB, 65536, .inl B)), (aS, .inr (1, [.ref aN, .ref aC])), (aN, .inl (kN, 5, .inl (fun j => nI (cnt_101 j)))), (aC, .inl (kC, 52035, .inl cel_102))] H := hP
                    have hD : va_D A [(aR, .inr (0, [.ref aT, .ref aS])), (aT, .inr (2, [.ref aB, .int (nI u), .int (nI en), .int (nI h_99), .int na_100, .int w_97, .int (nI k_98)])), (aB, .inl (kB, 65536, .inl B)), (aS, .inr (1, [.ref aN, .ref aC])), (aN, .inl (kN, 5, .inl (fun j => nI (cnt_101 j)))), (aC, .inl (kC, 52035, .inl cel_102))] := hD
                    have hP9 := hP.sub (ws' := [(aR, .inr (0, [.ref aT, .ref aS])), (aT, .inr (2, [.ref aB, .int (nI u), .int (nI en), .int (nI h_99), .int na_100, .int w_97, .int (nI k_98)])), (aB, .inl (kB, 65536, .inl B)), (aS, .inr (1, [.ref aN, .ref aC])), (aN, .inl (kN, 5, .inl (fun j => nI (cnt_101 j)))), (aC, .inl (kC, 52035, .inl cel_102))]) [0, 1, 2, 3, 4, 5] rfl
                    have hD9 := hD.sub (ws' := [(aR, .inr (0, [.ref aT, .ref aS])), (aT, .inr (2, [.ref aB, .int (nI u), .int (nI en), .int (nI h_99), .int na_100, .int w_97, .int (nI k_98)])), (aB, .inl (kB, 65536, .inl B)), (aS, .inr (1, [.ref aN, .ref aC])), (aN, .inl (kN, 5, .inl (fun j => nI (cnt_101 j)))), (aC, .inl (kC, 52035, .inl cel_102))]) [0, 1, 2, 3, 4, 5] (by decide) rfl
                    exact vx_out (fun x hx => (htab x hx).elim) hlocks hce hcv hcl (fun t ht hvm => ⟨(w_97, k_98, h_99, na_100, cnt_101, cel_102), by simp only [zMesh, zListP, zNumP, zB_ok, zB_er, hw_3, hw_17a, hw_27, hw_40a, hw_50, hw_63a, hw_73, hw_86a, hx_103], ⟨hEn, by rw [ht]; exact hP9, hD9⟩, hS.F ht⟩) hS.2.2 (by decide) (by decide)
                  ·
                    obtain ⟨h_95, rfl⟩ : ∃ z, z = uu := ⟨_, rfl⟩
                    obtain ⟨hP1, hD1, hsz1⟩ := hB
                    rw [ht] at hP1 hsz1
                    obtain ⟨hP, hD⟩ := va_join (wr := []) (w1 := [(aR, .inr (0, [.ref aT, .ref aS])), (aT, .inr (2, [.ref aB, .int (nI u), .int (nI en), .int (nI h_95), .int na_83, .int w, .int wa])), (aB, .inl (kB, 65536, .inl B)), (aS, .inr (1, [.ref aN, .ref aC])), (aN, .inl (kN, 5, .inl (fun j => nI (cnt j)))), (aC, .inl (kC, 52035, .inl cel_84))]) hP hD [0, 1, 2, 3, 4, 5] [] rfl rfl (by decide) (by decide) hk1 hFc hP1 hD1
                    refine zt_tight (hsz1.trans hzs) ?_
                    generalize H1 = H at hP hS ⊢
                    have hP : va_P (dC, dI) vwCl [(aR, .inr (0, [.ref aT, .ref aS])), (aT, .inr (2, [.ref aB, .int (nI u), .int (nI en), .int (nI h_95), .int na_83, .int w, .int wa])), (aB, .inl (kB, 65536, .inl B)), (aS, .inr (1, [.ref aN, .ref aC])), (aN, .inl (kN, 5, .inl (fun j => nI (cnt j)))), (aC, .inl (kC, 52035, .inl cel_84))] H := hP
                    have hD : va_D A [(aR, .inr (0, [.ref aT, .ref aS])), (aT, .inr (2, [.ref aB, .int (nI u), .int (nI en), .int (nI h_95), .int na_83, .int w, .int wa])), (aB, .inl (kB, 65536, .inl B)), (aS, .inr (1, [.ref aN, .ref aC])), (aN, .inl (kN, 5, .inl (fun j => nI (cnt j)))), (aC, .inl (kC, 52035, .inl cel_84))] := hD
                    have hw_96i := zName_in hw_96
                    refine lv_aload_n hx hb d_Rd_takeMesh_118 rfl (lv_at hl 1 rfl) ?_
                    refine lv_iconst (v := 1) hx hb d_Rd_takeMesh_119 (by decide) ?_
                    refine lv_iconst (v := 3) hx hb d_Rd_takeMesh_120 (by decide) ?_
                    refine lv_sipush (v := 384) hx hb d_Rd_takeMesh_121 (by decide) ?_
                    refine lv_iload_n hx hb d_Rd_takeMesh_124 rfl (lv_at hl 2 rfl) ?_
                    refine lv_sipush (v := 1027) hx hb d_Rd_takeMesh_125 (by decide) ?_
                    refine lv_iadd hx hb d_Rd_takeMesh_128 ?_
                    refine zt_top (nI_add cc 1027) ?_
                    refine lv_iconst (v := 0) hx hb d_Rd_takeMesh_129 (by decide) ?_
                    refine lv_iload_n hx hb d_Rd_takeMesh_130 rfl (lv_at hl 0 rfl) ?_
                    refine lv_iconst (v := 1) hx hb d_Rd_takeMesh_131 (by decide) ?_
                    refine lv_isub hx hb d_Rd_takeMesh_132 ?_
                    have hPc := hP.sub (ws' := [(aR, .inr (0, [.ref aT, .ref aS])), (aT, .inr (2, [.ref aB, .int (nI u), .int (nI en), .int (nI h_95), .int na_83, .int w, .int wa])), (aB, .inl (kB, 65536, .inl B)), (aS, .inr (1, [.ref aN, .ref aC])), (aN, .inl (kN, 5, .inl (fun j => nI (cnt j)))), (aC, .inl (kC, 52035, .inl cel_84))]) [0, 1, 2, 3, 4, 5] rfl
                    have hDc := hD.sub (ws' := [(aR, .inr (0, [.ref aT, .ref aS])), (aT, .inr (2, [.ref aB, .int (nI u), .int (nI en), .int (nI h_95), .int na_83, .int w, .int wa])), (aB, .inl (kB, 65536, .inl B)), (aS, .inr (1, [.ref aN, .ref aC])), (aN, .inl (kN, 5, .inl (fun j => nI (cnt j)))), (aC, .inl (kC, 52035, .inl cel_84))]) [0, 1, 2, 3, 4, 5] (by decide) rfl
                    have hKc := hK.sub (tys' := [(kB, .byte), (kN, .int), (kC, .int)]) [0, 1, 2] rfl
                    have hFc := va_free (wc := [(aR, .inr (0, [.ref aT, .ref aS])), (aT, .inr (2, [.ref aB, .int (nI u), .int (nI en), .int (nI h_95), .int na_83, .int w, .int wa])), (aB, .inl (kB, 65536, .inl B)), (aS, .inr (1, [.ref aN, .ref aC])), (aN, .inl (kN, 5, .inl (fun j => nI (cnt j)))), (aC, .inl (kC, 52035, .inl cel_84))]) hD hS hA [0, 1, 2, 3, 4, 5] rfl
                    refine zt_size (fun hzs => ?_)
                    refine vx_calli (vx_runV (As := [.int 1, .int (nI 3), .int (nI 384), .int (nI (cc + 1027)), .int 0, .int ((nI (n_39 / 3)) - 1)]) (rest := []) ⟨hx, hb, hml, hown, hts⟩ (c_Rd_takeList l hst G dC dI H.size aR aT aS aB u en h_95 na_83 w wa kB B aN aC kN cnt kC cel_84 1 3 384 (cc + 1027) 0 ((nI (n_39 / 3)) - 1) (by omega) (by omega) (by omega) (by omega) (by omega)) (cwV 6 hts (gV tw_366 tw_368 ts_9 tw_2 tw_369 rfl) rfl rfl rfl (by decide +kernel) ⟨Nat.le_of_ble_eq_true rfl, Nat.le_of_ble_eq_true rfl⟩) (PW_preV hPc hKc hDc hE hS hFc (ci := 0) (q0 := 0) rfl rfl) rfl rfl hl.1 rfl (lv_room (Nat.le_of_ble_eq_true rfl)) d_Rd_takeMesh_133 ⟨Nat.le_of_ble_eq_true rfl, Nat.le_of_ble_eq_true rfl⟩) hS (fun q _ h => hFc q h) hFc (fun q _ h => hFc q h) (fun E9 ce9 q9 uu t H1 locs ht hvm hx_116 hB hz1 hk1 hS hce hcv hcl => ?_) (fun r_104 uu t H1 locs ht hvm hw_109 hB hz1 hk1 hS => ?_)
                    ·
                      obtain ⟨w_110, k_111, h_112, na_113, cnt_114, cel_115⟩ := uu
                      obtain ⟨hEn, hP1, hD1⟩ := hB
                      rw [ht] at hP1
                      obtain ⟨hP, hD⟩ := va_join (wr := []) (w1 := [(aR, .inr (0, [.ref aT, .ref aS])), (aT, .inr (2, [.ref aB, .int (nI u), .int (nI en), .int (nI h_112), .int na_113, .int w_110, .int (nI k_111)])), (aB, .inl (kB, 65536, .inl B)), (aS, .inr (1, [.ref aN, .ref aC])), (aN, .inl (kN, 5, .inl (fun j => nI (cnt_114 j)))), (aC, .inl (kC, 52035, .inl cel_115))]) hP hD [0, 1, 2, 3, 4, 5] [] rfl rfl (by decide) (by decide) hk1 hFc hP1 hD1
                      generalize H1 = H at hP hS hce ⊢
                      have hP : va_P (dC, dI) vwCl [(aR, .inr (0, [.ref aT, .ref aS])), (aT, .inr (2, [.ref aB, .int (nI u), .int (nI en), .int (nI h_112), .int na_113, .int w_110, .int (nI k_111)])), (aB, .inl (kB, 65536, .inl B)), (aS, .inr (1, [.ref aN, .ref aC])), (aN, .inl (kN, 5, .inl (fun j => nI (cnt_114 j)))), (aC, .inl (kC, 52035, .inl cel_115))] H := hP
                      have hD : va_D A [(aR, .inr (0, [.ref aT, .ref aS])), (aT, .inr (2, [.ref aB, .int (nI u), .int (nI en), .int (nI h_112), .int na_113, .int w_110, .int (nI k_111)])), (aB, .inl (kB, 65536, .inl B)), (aS, .inr (1, [.ref aN, .ref aC])), (aN, .inl (kN, 5, .inl (fun j => nI (cnt_114 j)))), (aC, .inl (kC, 52035, .inl cel_115))] := hD
                      simp only [zf02, zf01, zf11, zf12, zf21, zf22, decide_true, decide_false] at hx_116
                      have hP9 := hP.sub (ws' := [(aR, .inr (0, [.ref aT, .ref aS])), (aT, .inr (2, [.ref aB, .int (nI u), .int (nI en), .int (nI h_112), .int na_113, .int w_110, .int (nI k_111)])), (aB, .inl (kB, 65536, .inl B)), (aS, .inr (1, [.ref aN, .ref aC])), (aN, .inl (kN, 5, .inl (fun j => nI (cnt_114 j)))), (aC, .inl (kC, 52035, .inl cel_115))]) [0, 1, 2, 3, 4, 5] rfl
                      have hD9 := hD.sub (ws' := [(aR, .inr (0, [.ref aT, .ref aS])), (aT, .inr (2, [.ref aB, .int (nI u), .int (nI en), .int (nI h_112), .int na_113, .int w_110, .int (nI k_111)])), (aB, .inl (kB, 65536, .inl B)), (aS, .inr (1, [.ref aN, .ref aC])), (aN, .inl (kN, 5, .inl (fun j => nI (cnt_114 j)))), (aC, .inl (kC, 52035, .inl cel_115))]) [0, 1, 2, 3, 4, 5] (by decide) rfl
                      exact vx_out (fun x hx => (htab x hx).elim) hlocks hce hcv hcl (fun t ht hvm => ⟨(w_110, k_111, h_112, na_113, cnt_114, cel_115), by simp only [zMesh, zListP, zNumP, zB_ok, zB_er, hw_3, hw_17a, hw_27, hw_40a, hw_50, hw_63a, hw_73, hw_86a, hw_96, hx_116], ⟨hEn, by rw [ht]; exact hP9, hD9⟩, hS.F ht⟩) hS.2.2 (by decide) (by decide)
                    ·
                      obtain ⟨h_105, na_106, cel_107, n_108⟩ := uu
                      obtain ⟨hP1, hD1, hsz1⟩ := hB
                      rw [ht] at hP1 hsz1
                      obtain ⟨hP, hD⟩ := va_join (wr := []) (w1 := [(aR, .inr (0, [.ref aT, .ref aS])), (aT, .inr (2, [.ref aB, .int (nI u), .int (nI en), .int (nI h_105), .int na_106, .int w, .int wa])), (aB, .inl (kB, 65536, .inl B)), (aS, .inr (1, [.ref aN, .ref aC])), (aN, .inl (kN, 5, .inl (fun j => nI (cnt j)))), (aC, .inl (kC, 52035, .inl cel_107))]) hP hD [0, 1, 2, 3, 4, 5] [] rfl rfl (by decide) (by decide) hk1 hFc hP1 hD1
                      refine zt_tight (hsz1.trans hzs) ?_
                      generalize H1 = H at hP hS ⊢
                      have hP : va_P (dC, dI) vwCl [(aR, .inr (0, [.ref aT, .ref aS])), (aT, .inr (2, [.ref aB, .int (nI u), .int (nI en), .int (nI h_105), .int na_106, .int w, .int wa])), (aB, .inl (kB, 65536, .inl B)), (aS, .inr (1, [.ref aN, .ref aC])), (aN, .inl (kN, 5, .inl (fun j => nI (cnt j)))), (aC, .inl (kC, 52035, .inl cel_107))] H := hP
                      have hD : va_D A [(aR, .inr (0, [.ref aT, .ref aS])), (aT, .inr (2, [.ref aB, .int (nI u), .int (nI en), .int (nI h_105), .int na_106, .int w, .int wa])), (aB, .inl (kB, 65536, .inl B)), (aS, .inr (1, [.ref aN, .ref aC])), (aN, .inl (kN, 5, .inl (fun j => nI (cnt j)))), (aC, .inl (kC, 52035, .inl cel_107))] := hD
                      obtain ⟨rfl, hw_109a⟩ := hw_109
                      simp only [zf02, zf01, zf11, zf12, zf21, zf22, decide_true, decide_false] at hw_109a
                      have hw_109i := zList_in (by omega) hw_109a
                      refine lv_iconst (v := 3) hx hb d_Rd_takeMesh_136 (by decide) ?_
                      refine lv_idiv hx hb d_Rd_takeMesh_137 (by decide) ?_
                      refine zt_top (pk_div (a := n_108) (d := 3) (by omega) (by decide) (by decide)) ?_
                      refine lv_istore_n (lv' := [(3, .int (nI (n_108 / 3))), (2, .int (nI (n_39 / 3))), (0, .ref aR), (1, .int (nI cc))]) hx hb d_Rd_takeMesh_138 rfl hl (by decide) rfl (fun ls hl => ?_)
                      refine lv_aload_n hx hb d_Rd_takeMesh_139 rfl (lv_at hl 2 rfl) ?_
                      refine va_get (D := (dC, dI)) (ci := 0) (v := .ref aS) (C := R_Rd) (T := F_Rd) (N := 2) hx hb hz i_Rd hown hK hP 0 rfl rfl 1 (by decide) (hz _ tw_86) (fun _ h9 => h9) rfl d_Rd_takeMesh_140 ?_
                      refine lv_iload_n hx hb d_Rd_takeMesh_143 rfl (lv_at hl 3 rfl) ?_
                      refine lv_iconst (v := 1) hx hb d_Rd_takeMesh_144 (by decide) ?_
                      refine lv_iadd hx hb d_Rd_takeMesh_145 ?_
                      refine zt_top (nI_add cc 1) ?_
                      refine lv_iload_n hx hb d_Rd_takeMesh_146 rfl (lv_at hl 1 rfl) ?_
                      have hPc := hP.sub (ws' := [(aS, .inr (1, [.ref aN, .ref aC])), (aN, .inl (kN, 5, .inl (fun j => nI (cnt j)))), (aC, .inl (kC, 52035, .inl cel_107))]) [3, 4, 5] rfl
                      have hDc := hD.sub (ws' := [(aS, .inr (1, [.ref aN, .ref aC])), (aN, .inl (kN, 5, .inl (fun j => nI (cnt j)))), (aC, .inl (kC, 52035, .inl cel_107))]) [3, 4, 5] (by decide) rfl
                      have hKc := hK.sub (tys' := [(kN, .int), (kC, .int)]) [1, 2] rfl
                      have hFc := va_free (wc := [(aS, .inr (1, [.ref aN, .ref aC])), (aN, .inl (kN, 5, .inl (fun j => nI (cnt j)))), (aC, .inl (kC, 52035, .inl cel_107))]) hD hS hA [3, 4, 5] rfl
                      refine va_callv (va_runV (As := [.int (nI (cc + 1)), .int (nI (n_39 / 3))]) (rest := []) ⟨hx, hb, hml, hown, hts⟩ (c_Sc_put l G dC dI H.size aS aN aC kN cnt kC cel_107 (cc + 1) (nI (n_39 / 3)) (by omega)) (cwV 2 hts (gV tw_375 tw_376 tw_377 tw_4 tw_378 rfl) rfl rfl rfl (by decide +kernel) ⟨Nat.le_of_ble_eq_true rfl, Nat.le_of_ble_eq_true rfl⟩) (PW_preV hPc hKc hDc hE hS hFc (ci := 1) (q0 := 0) rfl rfl) rfl rfl hl.1 rfl (lv_room (Nat.le_of_ble_eq_true rfl)) d_Rd_takeMesh_147 ⟨Nat.le_of_ble_eq_true rfl, Nat.le_of_ble_eq_true rfl⟩) hS (fun q _ h => hFc q h) hFc (fun uu t H1 locs ht hvm hw_119 hB hz1 hk1 hS => ?_)
                      obtain ⟨cel_118, rfl⟩ : ∃ z, z = uu := ⟨_, rfl⟩
                      obtain ⟨hP1, hD1, hsz1⟩ := hB
                      rw [ht] at hP1 hsz1
                      obtain ⟨hP, hD⟩ := va_join (wr := [(aR, .inr (0, [.ref aT, .ref aS])), (aT, .inr (2, [.ref aB, .int (nI u), .int (nI en), .int (nI h_105), .int na_106, .int w, .int wa])), (aB, .inl (kB, 65536, .inl B))]) (w1 := [(aS, .inr (1, [.ref aN, .ref aC])), (aN, .inl (kN, 5, .inl (fun j => nI (cnt j)))), (aC, .inl (kC, 52035, .inl cel_118))]) hP hD [3, 4, 5] [0, 1, 2] rfl rfl (by decide) (by decide) hk1 hFc hP1 hD1
                      generalize H1 = H at hP hS ⊢
                      have hP : va_P (dC, dI) vwCl [(aR, .inr (0, [.ref aT, .ref aS])), (aT, .inr (2, [.ref aB, .int (nI u), .int (nI en), .int (nI h_105), .int na_106, .int w, .int wa])), (aB, .inl (kB, 65536, .inl B)), (aS, .inr (1, [.ref aN, .ref aC])), (aN, .inl (kN, 5, .inl (fun j => nI (cnt j)))), (aC, .inl (kC, 52035, .inl cel_118))] H := hP
                      have hD : va_D A [(aR, .inr (0, [.ref aT, .ref aS])), (aT, .inr (2, [.ref aB, .int (nI u), .int (nI en), .int (nI h_105), .int na_106, .int w, .int wa])), (aB, .inl (kB, 65536, .inl B)), (aS, .inr (1, [.ref aN, .ref aC])), (aN, .inl (kN, 5, .inl (fun j => nI (cnt j)))), (aC, .inl (kC, 52035, .inl cel_118))] := hD
                      have e3 := hw_119.symm; subst e3
                      refine lv_aload_n hx hb d_Rd_takeMesh_150 rfl (lv_at hl 2 rfl) ?_
                      refine va_get (D := (dC, dI)) (ci := 0) (v := .ref aS) (C := R_Rd) (T := F_Rd) (N := 2) hx hb hz i_Rd hown hK hP 0 rfl rfl 1 (by decide) (hz _ tw_86) (fun _ h9 => h9) rfl d_Rd_takeMesh_151 ?_
                      refine lv_iload_n hx hb d_Rd_takeMesh_154 rfl (lv_at hl 3 rfl) ?_
                      refine lv_iconst (v := 2) hx hb d_Rd_takeMesh_155 (by decide) ?_
                      refine lv_iadd hx hb d_Rd_takeMesh_156 ?_
                      refine zt_top (nI_add cc 2) ?_
                      refine lv_iload_n hx hb d_Rd_takeMesh_157 rfl (lv_at hl 0 rfl) ?_
                      have hPc := hP.sub (ws' := [(aS, .inr (1, [.ref aN, .ref aC])), (aN, .inl (kN, 5, .inl (fun j => nI (cnt j)))), (aC, .inl (kC, 52035, .inl (upd cel_107 (cc + 1) (nI (n_39 / 3)))))]) [3, 4, 5] rfl
                      have hDc := hD.sub (ws' := [(aS, .inr (1, [.ref aN, .ref aC])), (aN, .inl (kN, 5, .inl (fun j => nI (cnt j)))), (aC, .inl (kC, 52035, .inl (upd cel_107 (cc + 1) (nI (n_39 / 3)))))]) [3, 4, 5] (by decide) rfl
                      have hKc := hK.sub (tys' := [(kN, .int), (kC, .int)]) [1, 2] rfl
                      have hFc := va_free (wc := [(aS, .inr (1, [.ref aN, .ref aC])), (aN, .inl (kN, 5, .inl (fun j => nI (cnt j)))), (aC, .inl (kC, 52035, .inl (upd cel_107 (cc + 1) (nI (n_39 / 3)))))]) hD hS hA [3, 4, 5] rfl
                      refine va_callv (va_runV (As := [.int (nI (cc + 2)), .int (nI (n_108 / 3))]) (rest := []) ⟨hx, hb, hml, hown, hts⟩ (c_Sc_put l G dC dI H.size aS aN aC kN cnt kC (upd cel_107 (cc + 1) (nI (n_39 / 3))) (cc + 2) (nI (n_108 / 3)) (by omega)) (cwV 2 hts (gV tw_375 tw_376 tw_377 tw_4 tw_378 rfl) rfl rfl rfl (by decide +kernel) ⟨Nat.le_of_ble_eq_true rfl, Nat.le_of_ble_eq_true rfl⟩) (PW_preV hPc hKc hDc hE hS hFc (ci := 1) (q0 := 0) rfl rfl) rfl rfl hl.1 rfl (lv_room (Nat.le_of_ble_eq_true rfl)) d_Rd_takeMesh_158 ⟨Nat.le_of_ble_eq_true rfl, Nat.le_of_ble_eq_true rfl⟩) hS (fun q _ h => hFc q h) hFc (fun uu t H1 locs ht hvm hw_122 hB hz1 hk1 hS => ?_)
                      obtain ⟨cel_121, rfl⟩ : ∃ z, z = uu := ⟨_, rfl⟩
                      obtain ⟨hP1, hD1, hsz1⟩ := hB
                      rw [ht] at hP1 hsz1
                      obtain ⟨hP, hD⟩ := va_join (wr := [(aR, .inr (0, [.ref aT, .ref aS])), (aT, .inr (2, [.ref aB, .int (nI u), .int (nI en), .int (nI h_105), .int na_106, .int w, .int wa])), (aB, .inl (kB, 65536, .inl B))]) (w1 := [(aS, .inr (1, [.ref aN, .ref aC])), (aN, .inl (kN, 5, .inl (fun j => nI (cnt j)))), (aC, .inl (kC, 52035, .inl cel_121))]) hP hD [3, 4, 5] [0, 1, 2] rfl rfl (by decide) (by decide) hk1 hFc hP1 hD1
                      generalize H1 = H at hP hS ⊢
                      have hP : va_P (dC, dI) vwCl [(aR, .inr (0, [.ref aT, .ref aS])), (aT, .inr (2, [.ref aB, .int (nI u), .int (nI en), .int (nI h_105), .int na_106, .int w, .int wa])), (aB, .inl (kB, 65536, .inl B)), (aS, .inr (1, [.ref aN, .ref aC])), (aN, .inl (kN, 5, .inl (fun j => nI (cnt j)))), (aC, .inl (kC, 52035, .inl cel_121))] H := hP
                      have hD : va_D A [(aR, .inr (0, [.ref aT, .ref aS])), (aT, .inr (2, [.ref aB, .int (nI u), .int (nI en), .int (nI h_105), .int na_106, .int w, .int wa])), (aB, .inl (kB, 65536, .inl B)), (aS, .inr (1, [.ref aN, .ref aC])), (aN, .inl (kN, 5, .inl (fun j => nI (cnt j)))), (aC, .inl (kC, 52035, .inl cel_121))] := hD
                      have e3 := hw_122.symm; subst e3
                      refine zt_size (fun hzs => ?_)
                      have hP9 := hP.sub (ws' := [(aR, .inr (0, [.ref aT, .ref aS])), (aT, .inr (2, [.ref aB, .int (nI u), .int (nI en), .int (nI h_105), .int na_106, .int w, .int wa])), (aB, .inl (kB, 65536, .inl B)), (aS, .inr (1, [.ref aN, .ref aC])), (aN, .inl (kN, 5, .inl (fun j => nI (cnt j)))), (aC, .inl (kC, 52035, .inl (upd (upd cel_107 (cc + 1) (nI (n_39 / 3))) (cc + 2) (nI (n_108 / 3)))))]) [0, 1, 2, 3, 4, 5] rfl
                      have hD9 := hD.sub (ws' := [(aR, .inr (0, [.ref aT, .ref aS])), (aT, .inr (2, [.ref aB, .int (nI u), .int (nI en), .int (nI h_105), .int na_106, .int w, .int wa])), (aB, .inl (kB, 65536, .inl B)), (aS, .inr (1, [.ref aN, .ref aC])), (aN, .inl (kN, 5, .inl (fun j => nI (cnt j)))), (aC, .inl (kC, 52035, .inl (upd (upd cel_107 (cc + 1) (nI (n_39 / 3))) (cc + 2) (nI (n_108 / 3)))))]) [0, 1, 2, 3, 4, 5] (by decide) rfl
                      refine W.widen (k := 1) (n := 6) (by decide) (by decide) ?_
                      exact vx_ret (W.vret hx hb hr (fun t ht hW => ⟨⟨(h_105, na_106, upd (upd cel_107 (cc + 1) (nI (n_39 / 3))) (cc + 2) (nI (n_108 / 3))), rfl, by simp only [zMesh, zListP, zNumP, zB_ok, hw_3, hw_17a, hw_27, hw_40a, hw_50, hw_63a, hw_73, hw_86a, hw_96, hw_109a], by rw [ht]; exact hP9, hD9, by rw [ht]; exact hzs⟩, hS.F ht⟩) hS.2.2 d_Rd_takeMesh_161)
