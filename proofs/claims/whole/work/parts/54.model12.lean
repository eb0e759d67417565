def mTrack (B : Nat → Int32) (en kk nn : Nat) (s : Nat × (Nat → Int32)) : Except (Int32 × Nat) (Nat × (Nat → Int32)) := zB (mNumK B en (zSb 28) (48344 + 134 * kk) 0 (nI nn - 1) s) fun a => zB (zMust B en 44 a.2.1) fun h1 =>  zB (mNumK B en (zSb 29) (48344 + 134 * kk + 1) 0 2 (h1, a.2.2)) fun b => zB (zMust B en 44 b.2.1) fun h2 =>  zB (mNumK B en (zSb 30) (48344 + 134 * kk + 2) 0 2 (h2, b.2.2)) fun d => zB (zMust B en 44 d.2.1) fun h3 =>  zB (mListK B en (zSb 31) true false 1 32 (48344 + 134 * kk + 4) 0 1000000 (h3, d.2.2)) fun f => zB (zMust B en 44 f.2.1) fun h4 =>  zB (mListK B en (zSb 32) false false (3 * f.1) (3 * f.1) (48344 + 134 * kk + 36) (-(if b.1 = 0 then 4194304 else 1048576)) (if b.1 = 0 then 4194304 else 1048576) (h4, upd f.2.2 (48344 + 134 * kk + 3) (nI f.1))) fun g => .ok g.2
set_option maxHeartbeats 4000000 in
set_option maxRecDepth 100000 in
theorem c_Md_track (l : Launch) (G : ZG) (dC : Nat → ClassId) (dI : Nat → Nat → Nat) (sz : Nat) (aM : Nat) (th : Int32) (aMT : Nat) (mu : Nat) (aNw : Nat) (aNx : Nat) (mw : Int32) (mwa : Int32) (ma : Nat) (en : Nat) (mv : Int64) (mf : Int32) (ml : Int32) (kMT : ClassId) (B : Nat → Int32) (kNx : ClassId) (nx : Nat → Int32) (nn : Nat) (kk : Nat) (hen : en ≤ 65536) (hma : ma ≤ en) (hkk : kk < 32) (hnn : nn ≤ 48) (hn3 : nx 3 = nI nn) : Met l y_Md_track w_Md_track ({ frames := 5, cells := 0, slots := 0, locals := 115 }) (va_Pc [.ref aM, .int (nI kk)] (PW G (dC, dI) [(kMT, .byte), (kNx, .int)] [(aM, .inr (4, [.int th, .ref aMT, .int (nI mu), .ref aNw, .ref aNx, .int mw, .int mwa, .int (nI ma), .int (nI en), .long mv, .int mf, .int ml])), (aMT, .inl (kMT, 65536, .inl B)), (aNx, .inl (kNx, 52650, .inl nx))] sz)) (va_Qi (fun (r : Int32) (uu : Nat × Int32 × Int32 × Int64 × Int32 × (Nat → Int32) × Int32) => (r = 1 ∧ uu.1 ≤ en ∧ uu.2.1 = mw ∧ uu.2.2.1 = mwa ∧ mTrack B en kk nn (zK B en ma, nx) = .ok (zK B en uu.1, uu.2.2.2.2.2.1)) ∨ (r = 0 ∧ uu.1 ≤ en ∧ ∃ k, mTrack B en kk nn (zK B en ma, nx) = .error (uu.2.1, k) ∧ uu.2.2.1 = nI k)) (fun (uu : Nat × Int32 × Int32 × Int64 × Int32 × (Nat → Int32) × Int32) t => BW (dC, dI) [(aM, .inr (4, [.int th, .ref aMT, .int (nI mu), .ref aNw, .ref aNx, .int uu.2.1, .int uu.2.2.1, .int (nI uu.1), .int (nI en), .long uu.2.2.2.1, .int uu.2.2.2.2.1, .int uu.2.2.2.2.2.2])), (aMT, .inl (kMT, 65536, .inl B)), (aNx, .inl (kNx, 52650, .inl uu.2.2.2.2.2.1))] (va_A [(aM, .inr (4, [.int th, .ref aMT, .int (nI mu), .ref aNw, .ref aNx, .int mw, .int mwa, .int (nI ma), .int (nI en), .long mv, .int mf, .int ml])), (aMT, .inl (kMT, 65536, .inl B)), (aNx, .inl (kNx, 52650, .inl nx))] sz) sz t) (va_A [(aM, .inr (4, [.int th, .ref aMT, .int (nI mu), .ref aNw, .ref aNx, .int mw, .int mwa, .int (nI ma), .int (nI en), .long mv, .int mf, .int ml])), (aMT, .inl (kMT, 65536, .inl B)), (aNx, .inl (kNx, 52650, .inl nx))] sz)) 0 0 (va_A [(aM, .inr (4, [.int th, .ref aMT, .int (nI mu), .ref aNw, .ref aNx, .int mw, .int mwa, .int (nI ma), .int (nI en), .long mv, .int mf, .int ml])), (aMT, .inl (kMT, 65536, .inl B)), (aNx, .inl (kNx, 52650, .inl nx))] sz) := by
  refine Met.ofW (cc := prog_6_method_24_code) (maxL := 5) (ret := (some .boolean)) (by decide) rfl ?_
  intro p e s m args below meth c s₁ Bd hml hv
  obtain ⟨rfl, hsz, hP, hK, hD0, hE⟩ := hv
  have hx := Bd.exec
  have hb := Bd.bytes
  have hr := Bd.returns
  have hts := atoms_spec (ws := w_Md_track) Bd.pre
  have hown : s.vm.findClass R_Md = some m.cls := findClass_of_methodNamed Bd.named
  have hlocks := Bd.notSynchronized
  have hz : ∀ w ∈ ZW, w.before _ s = true := fun w h => hts w (List.mem_cons_of_mem _ h)
  subst hsz
  have hD := hD0.self (sz := s.heap.size)
  generalize hAe : va_A [(aM, .inr (4, [.int th, .ref aMT, .int (nI mu), .ref aNw, .ref aNx, .int mw, .int mwa, .int (nI ma), .int (nI en), .long mv, .int mf, .int ml])), (aMT, .inl (kMT, 65536, .inl B)), (aNx, .inl (kNx, 52650, .inl nx))] s.heap.size = A at hD hE ⊢
  have hA : ∀ q : Nat, s.heap.size ≤ q → A q := fun q h => by rw [← hAe]; exact Or.inr h
  have hS : va_S A s.heap s.heap [] := va_S.rf
  have hl := lv_entry ([.ref aM, .int (nI kk)]) (n := 5) (Nat.le_of_ble_eq_true rfl)
  rw [lg_entry_eq]
  generalize (lg_sl ([.ref aM, .int (nI kk)]) ++ List.replicate (5 - (lg_sl ([.ref aM, .int (nI kk)])).length) Slot.unset).toArray = ls at hl ⊢
  have hl : lv_has ls 5 [(0, .ref aM), (1, .int (nI kk))] := hl
  obtain ⟨H, hH⟩ : ∃ z, z = s.heap := ⟨_, rfl⟩
  have hP : va_P (dC, dI) vwCl [(aM, .inr (4, [.int th, .ref aMT, .int (nI mu), .ref aNw, .ref aNx, .int mw, .int mwa, .int (nI ma), .int (nI en), .long mv, .int mf, .int ml])), (aMT, .inl (kMT, 65536, .inl B)), (aNx, .inl (kNx, 52650, .inl nx))] H := by rw [hH]; exact hP
  have hS : va_S A s.heap H [] := by rw [hH]; exact hS
  refine zt_heap hH ?_
  refine lv_ldc (v := 48344) hx hb hown (hz _ tw_673) d_Md_track_0 ?_
  refine lv_sipush (v := 134) hx hb d_Md_track_2 (by decide) ?_
  refine lv_iload_n hx hb d_Md_track_5 rfl (lv_at hl 1 rfl) ?_
  refine lv_imul hx hb d_Md_track_6 ?_
  refine zt_top (pk_mul 134 kk) ?_
  refine lv_iadd hx hb d_Md_track_7 ?_
  refine zt_top (nI_add 48344 (134 * kk)) ?_
  refine lv_istore_n (lv' := [(2, .int (nI (48344 + (134 * kk)))), (0, .ref aM), (1, .int (nI kk))]) hx hb d_Md_track_8 rfl hl (by decide) rfl (fun ls hl => ?_)
  refine lv_aload_n hx hb d_Md_track_9 rfl (lv_at hl 1 rfl) ?_
  refine lv_ldc2 (v := zWv 28) hx hb hown (hz _ tw_674) d_Md_track_10 ?_
  refine lv_iload_n hx hb d_Md_track_13 rfl (lv_at hl 0 rfl) ?_
  refine lv_iconst (v := 0) hx hb d_Md_track_14 (by decide) ?_
  refine lv_aload_n hx hb d_Md_track_15 rfl (lv_at hl 1 rfl) ?_
  refine va_get (D := (dC, dI)) (ci := 4) (v := .ref aNx) (C := R_Md) (T := F_Md) (N := 12) hx hb hz i_Md hown hK hP 0 rfl rfl 4 (by decide) (hz _ tw_480) (fun _ h9 => h9) rfl d_Md_track_16 ?_
  refine lv_iconst (v := 3) hx hb d_Md_track_19 (by decide) ?_
  refine va_iald (D := (dC, dI)) (i := nI 3) hx hb hK hP 2 1 rfl rfl (vp_in_nI (by omega) (by decide)) d_Md_track_20 ?_
  refine zt_top (by rw [nI_clamp (by omega)]) ?_
  refine zt_top (y := nI nn) (hn3) ?_
  refine lv_iconst (v := 1) hx hb d_Md_track_21 (by decide) ?_
  refine lv_isub hx hb d_Md_track_22 ?_
  have hPc := hP.sub (ws' := [(aM, .inr (4, [.int th, .ref aMT, .int (nI mu), .ref aNw, .ref aNx, .int mw, .int mwa, .int (nI ma), .int (nI en), .long mv, .int mf, .int ml])), (aMT, .inl (kMT, 65536, .inl B)), (aNx, .inl (kNx, 52650, .inl nx))]) [0, 1, 2] rfl
  have hDc := hD.sub (ws' := [(aM, .inr (4, [.int th, .ref aMT, .int (nI mu), .ref aNw, .ref aNx, .int mw, .int mwa, .int (nI ma), .int (nI en), .long mv, .int mf, .int ml])), (aMT, .inl (kMT, 65536, .inl B)), (aNx, .inl (kNx, 52650, .inl nx))]) [0, 1, 2] (by decide) rfl
  have hKc := hK.sub (tys' := [(kMT, .byte), (kNx, .int)]) [0, 1] rfl
  have hFc := va_free (wc := [(aM, .inr (4, [.int th, .ref aMT, .int (nI mu), .ref aNw, .ref aNx, .int mw, .int mwa, .int (nI ma), .int (nI en), .long mv, .int mf, .int ml])), (aMT, .inl (kMT, 65536, .inl B)), (aNx, .inl (kNx, 52650, .inl nx))]) hD hS hA [0, 1, 2] rfl
  refine va_calli (va_runV (As := [.long (zWv 28), .int (nI (48344 + (134 * kk))), .int 0, .int ((nI nn) - 1)]) (rest := []) ⟨hx, hb, hml, hown, hts⟩ (c_Md_named l G dC dI H.size aM th aMT mu aNw aNx mw mwa ma en mv mf ml kMT B kNx nx 28 (48344 + (134 * kk)) 0 ((nI nn) - 1) (by omega) (by omega) (by decide) (by decide) (zSb_len _) (by omega) (by decide) (by decide) (by rw [show nI nn - 1 = nI nn - nI 1 from rfl, pk_sub_toInt (by omega) (by omega)]; omega) (by rw [show nI nn - 1 = nI nn - nI 1 from rfl, pk_sub_toInt (by omega) (by omega)]; omega)) (cwV 4 hts (gV tw_611 tw_613 ts_33 tw_5 tw_614 rfl) rfl rfl rfl (by decide +kernel) ⟨Nat.le_of_ble_eq_true rfl, Nat.le_of_ble_eq_true rfl⟩) (PW_preV hPc hKc hDc hE hS hFc (ci := 4) (q0 := 0) rfl rfl) rfl rfl hl.1 rfl (lv_room (Nat.le_of_ble_eq_true rfl)) d_Md_track_23 ⟨Nat.le_of_ble_eq_true rfl, Nat.le_of_ble_eq_true rfl⟩) hS (fun q _ h => hFc q h) hFc (fun r_1 uu t H1 locs ht hvm hw_8 hB hz1 hk1 hS => ?_)
  obtain ⟨ma_2, mw_3, mwa_4, mv_5, mf_6, nx_7⟩ := uu
  obtain ⟨hP1, hD1, hsz1⟩ := hB
  rw [ht] at hP1 hsz1
  obtain ⟨hP, hD⟩ := va_join (wr := []) (w1 := [(aM, .inr (4, [.int th, .ref aMT, .int (nI mu), .ref aNw, .ref aNx, .int mw_3, .int mwa_4, .int (nI ma_2), .int (nI en), .long mv_5, .int mf_6, .int ml])), (aMT, .inl (kMT, 65536, .inl B)), (aNx, .inl (kNx, 52650, .inl nx_7))]) hP hD [0, 1, 2] [] rfl rfl (by decide) (by decide) hk1 hFc hP1 hD1
  generalize H1 = H at hP hS ⊢
  have hP : va_P (dC, dI) vwCl [(aM, .inr (4, [.int th, .ref aMT, .int (nI mu), .ref aNw, .ref aNx, .int mw_3, .int mwa_4, .int (nI ma_2), .int (nI en), .long mv_5, .int mf_6, .int ml])), (aMT, .inl (kMT, 65536, .inl B)), (aNx, .inl (kNx, 52650, .inl nx_7))] H := hP
  have hD : va_D A [(aM, .inr (4, [.int th, .ref aMT, .int (nI mu), .ref aNw, .ref aNx, .int mw_3, .int mwa_4, .int (nI ma_2), .int (nI en), .long mv_5, .int mf_6, .int ml])), (aMT, .inl (kMT, 65536, .inl B)), (aNx, .inl (kNx, 52650, .inl nx_7))] := hD
  rcases hw_8 with ⟨rfl, hw_8b, e1, e2, hw_8v, hw_8a, e3⟩ | ⟨rfl, hw_8b, hw_8k, hw_8a, e2⟩
  ·
    have e1 := e1.symm; subst e1
    have e2 := e2.symm; subst e2
    have e3 := e3.symm; subst e3
    refine lv_if_eq (tgt := 107) hx hb d_Md_track_26 (by decide) (fun c_9 => ?_) (fun c_9 => ?_)
    ·
      exact absurd c_9 (by decide)
    ·
      refine lv_aload_n hx hb d_Md_track_29 rfl (lv_at hl 1 rfl) ?_
      refine lv_bipush (v := 44) hx hb d_Md_track_30 (by decide) ?_
      have hPc := hP.sub (ws' := [(aM, .inr (4, [.int th, .ref aMT, .int (nI mu), .ref aNw, .ref aNx, .int mw, .int mwa, .int (nI ma_2), .int (nI en), .long mv_5, .int mf_6, .int ml])), (aMT, .inl (kMT, 65536, .inl B))]) [0, 1] rfl
      have hDc := hD.sub (ws' := [(aM, .inr (4, [.int th, .ref aMT, .int (nI mu), .ref aNw, .ref aNx, .int mw, .int mwa, .int (nI ma_2), .int (nI en), .long mv_5, .int mf_6, .int ml])), (aMT, .inl (kMT, 65536, .inl B))]) [0, 1] (by decide) rfl
      have hKc := hK.sub (tys' := [(kMT, .byte)]) [0] rfl
      have hFc := va_free (wc := [(aM, .inr (4, [.int th, .ref aMT, .int (nI mu), .ref aNw, .ref aNx, .int mw, .int mwa, .int (nI ma_2), .int (nI en), .long mv_5, .int mf_6, .int ml])), (aMT, .inl (kMT, 65536, .inl B))]) hD hS hA [0, 1] rfl
      refine va_calli (va_runV (As := [.int 44]) (rest := []) ⟨hx, hb, hml, hown, hts⟩ (c_Md_sign l G dC dI H.size aM th aMT mu aNw aNx mw mwa ma_2 en mv_5 mf_6 ml kMT B 44 (by omega) (by omega)) (cwV 1 hts (gV tw_537 tw_539 ts_20 tw_5 tw_540 rfl) rfl rfl rfl (by decide +kernel) ⟨Nat.le_of_ble_eq_true rfl, Nat.le_of_ble_eq_true rfl⟩) (PW_preV hPc hKc hDc hE hS hFc (ci := 4) (q0 := 0) rfl rfl) rfl rfl hl.1 rfl (lv_room (Nat.le_of_ble_eq_true rfl)) d_Md_track_32 ⟨Nat.le_of_ble_eq_true rfl, Nat.le_of_ble_eq_true rfl⟩) hS (fun q _ h => hFc q h) hFc (fun r_10 uu t H1 locs ht hvm hw_14 hB hz1 hk1 hS => ?_)
      obtain ⟨ma_11, mw_12, mwa_13⟩ := uu
      obtain ⟨hP1, hD1, hsz1⟩ := hB
      rw [ht] at hP1 hsz1
      obtain ⟨hP, hD⟩ := va_join (wr := [(aNx, .inl (kNx, 52650, .inl (upd nx (48344 + (134 * kk)) hw_8v)))]) (w1 := [(aM, .inr (4, [.int th, .ref aMT, .int (nI mu), .ref aNw, .ref aNx, .int mw_12, .int mwa_13, .int (nI ma_11), .int (nI en), .long mv_5, .int mf_6, .int ml])), (aMT, .inl (kMT, 65536, .inl B))]) hP hD [0, 1] [2] rfl rfl (by decide) (by decide) hk1 hFc hP1 hD1
      generalize H1 = H at hP hS ⊢
      have hP : va_P (dC, dI) vwCl [(aNx, .inl (kNx, 52650, .inl (upd nx (48344 + (134 * kk)) hw_8v))), (aM, .inr (4, [.int th, .ref aMT, .int (nI mu), .ref aNw, .ref aNx, .int mw_12, .int mwa_13, .int (nI ma_11), .int (nI en), .long mv_5, .int mf_6, .int ml])), (aMT, .inl (kMT, 65536, .inl B))] H := hP
      have hD : va_D A [(aNx, .inl (kNx, 52650, .inl (upd nx (48344 + (134 * kk)) hw_8v))), (aM, .inr (4, [.int th, .ref aMT, .int (nI mu), .ref aNw, .ref aNx, .int mw_12, .int mwa_13, .int (nI ma_11), .int (nI en), .long mv_5, .int mf_6, .int ml])), (aMT, .inl (kMT, 65536, .inl B))] := hD
      rcases hw_14 with ⟨rfl, hw_14a, hw_14b, e1, e2⟩ | ⟨rfl, hw_14b, hw_14k, hw_14a, e2⟩
      ·
        have e1 := e1.symm; subst e1
        have e2 := e2.symm; subst e2
        refine lv_if_eq (tgt := 107) hx hb d_Md_track_35 (by decide) (fun c_15 => ?_) (fun c_15 => ?_)
        ·
          exact absurd c_15 (by decide)
        ·
          refine lv_aload_n hx hb d_Md_track_38 rfl (lv_at hl 1 rfl) ?_
          refine lv_ldc2 (v := zWv 29) hx hb hown (hz _ tw_675) d_Md_track_39 ?_
          refine lv_iload_n hx hb d_Md_track_42 rfl (lv_at hl 0 rfl) ?_
          refine lv_iconst (v := 1) hx hb d_Md_track_43 (by decide) ?_
          refine lv_iadd hx hb d_Md_track_44 ?_
          refine zt_top (nI_add (48344 + (134 * kk)) 1) ?_
          refine lv_iconst (v := 0) hx hb d_Md_track_45 (by decide) ?_
          refine lv_iconst (v := 2) hx hb d_Md_track_46 (by decide) ?_
          have hPc := hP.sub (ws' := [(aM, .inr (4, [.int th, .ref aMT, .int (nI mu), .ref aNw, .ref aNx, .int mw, .int mwa, .int (nI ma_11), .int (nI en), .long mv_5, .int mf_6, .int ml])), (aMT, .inl (kMT, 65536, .inl B)), (aNx, .inl (kNx, 52650, .inl (upd nx (48344 + (134 * kk)) hw_8v)))]) [1, 2, 0] rfl
          have hDc := hD.sub (ws' := [(aM, .inr (4, [.int th, .ref aMT, .int (nI mu), .ref aNw, .ref aNx, .int mw, .int mwa, .int (nI ma_11), .int (nI en), .long mv_5, .int mf_6, .int ml])), (aMT, .inl (kMT, 65536, .inl B)), (aNx, .inl (kNx, 52650, .inl (upd nx (48344 + (134 * kk)) hw_8v)))]) [1, 2, 0] (by decide) rfl
          have hKc := hK.sub (tys' := [(kMT, .byte), (kNx, .int)]) [0, 1] rfl
          have hFc := va_free (wc := [(aM, .inr (4, [.int th, .ref aMT, .int (nI mu), .ref aNw, .ref aNx, .int mw, .int mwa, .int (nI ma_11), .int (nI en), .long mv_5, .int mf_6, .int ml])), (aMT, .inl (kMT, 65536, .inl B)), (aNx, .inl (kNx, 52650, .inl (upd nx (48344 + (134 * kk)) hw_8v)))]) hD hS hA [1, 2, 0] rfl
          refine va_calli (va_runV (As := [.long (zWv 29), .int (nI ((48344 + (134 * kk)) + 1)), .int 0, .int 2]) (rest := []) ⟨hx, hb, hml, hown, hts⟩ (c_Md_named l G dC dI H.size aM th aMT mu aNw aNx mw mwa ma_11 en mv_5 mf_6 ml kMT B kNx (upd nx (48344 + (134 * kk)) hw_8v) 29 ((48344 + (134 * kk)) + 1) 0 2 (by omega) (by omega) (by decide) (by decide) (zSb_len _) (by omega) (by decide) (by decide) (by decide) (by decide)) (cwV 4 hts (gV tw_611 tw_613 ts_33 tw_5 tw_614 rfl) rfl rfl rfl (by decide +kernel) ⟨Nat.le_of_ble_eq_true rfl, Nat.le_of_ble_eq_true rfl⟩) (PW_preV hPc hKc hDc hE hS hFc (ci := 4) (q0 := 0) rfl rfl) rfl rfl hl.1 rfl (lv_room (Nat.le_of_ble_eq_true rfl)) d_Md_track_47 ⟨Nat.le_of_ble_eq_true rfl, Nat.le_of_ble_eq_true rfl⟩) hS (fun q _ h => hFc q h) hFc (fun r_16 uu t H1 locs ht hvm hw_23 hB hz1 hk1 hS => ?_)
          obtain ⟨ma_17, mw_18, mwa_19, mv_20, mf_21, nx_22⟩ := uu
          obtain ⟨hP1, hD1, hsz1⟩ := hB
          rw [ht] at hP1 hsz1
          obtain ⟨hP, hD⟩ := va_join (wr := []) (w1 := [(aM, .inr (4, [.int th, .ref aMT, .int (nI mu), .ref aNw, .ref aNx, .int mw_18, .int mwa_19, .int (nI ma_17), .int (nI en), .long mv_20, .int mf_21, .int ml])), (aMT, .inl (kMT, 65536, .inl B)), (aNx, .inl (kNx, 52650, .inl nx_22))]) hP hD [1, 2, 0] [] rfl rfl (by decide) (by decide) hk1 hFc hP1 hD1
          generalize H1 = H at hP hS ⊢
          have hP : va_P (dC, dI) vwCl [(aM, .inr (4, [.int th, .ref aMT, .int (nI mu), .ref aNw, .ref aNx, .int mw_18, .int mwa_19, .int (nI ma_17), .int (nI en), .long mv_20, .int mf_21, .int ml])), (aMT, .inl (kMT, 65536, .inl B)), (aNx, .inl (kNx, 52650, .inl nx_22))] H := hP
          have hD : va_D A [(aM, .inr (4, [.int th, .ref aMT, .int (nI mu), .ref aNw, .ref aNx, .int mw_18, .int mwa_19, .int (nI ma_17), .int (nI en), .long mv_20, .int mf_21, .int ml])), (aMT, .inl (kMT, 65536, .inl B)), (aNx, .inl (kNx, 52650, .inl nx_22))] := hD
          rcases hw_23 with ⟨rfl, hw_23b, e1, e2, hw_23v, hw_23a, e3⟩ | ⟨rfl, hw_23b, hw_23k, hw_23a, e2⟩
          ·
            have e1 := e1.symm; subst e1
            have e2 := e2.symm; subst e2
            have e3 := e3.symm; subst e3
            refine lv_if_eq (tgt := 107) hx hb d_Md_track_50 (by decide) (fun c_24 => ?_) (fun c_24 => ?_)
            ·
              exact absurd c_24 (by decide)
            ·
              refine lv_aload_n hx hb d_Md_track_53 rfl (lv_at hl 1 rfl) ?_
              refine lv_bipush (v := 44) hx hb d_Md_track_54 (by decide) ?_
              have hPc := hP.sub (ws' := [(aM, .inr (4, [.int th, .ref aMT, .int (nI mu), .ref aNw, .ref aNx, .int mw, .int mwa, .int (nI ma_17), .int (nI en), .long mv_20, .int mf_21, .int ml])), (aMT, .inl (kMT, 65536, .inl B))]) [0, 1] rfl
              have hDc := hD.sub (ws' := [(aM, .inr (4, [.int th, .ref aMT, .int (nI mu), .ref aNw, .ref aNx, .int mw, .int mwa, .int (nI ma_17), .int (nI en), .long mv_20, .int mf_21, .int ml])), (aMT, .inl (kMT, 65536, .inl B))]) [0, 1] (by decide) rfl
              have hKc := hK.sub (tys' := [(kMT, .byte)]) [0] rfl
              have hFc := va_free (wc := [(aM, .inr (4, [.int th, .ref aMT, .int (nI mu), .ref aNw, .ref aNx, .int mw, .int mwa, .int (nI ma_17), .int (nI en), .long mv_20, .int mf_21, .int ml])), (aMT, .inl (kMT, 65536, .inl B))]) hD hS hA [0, 1] rfl
              refine va_calli (va_runV (As := [.int 44]) (rest := []) ⟨hx, hb, hml, hown, hts⟩ (c_Md_sign l G dC dI H.size aM th aMT mu aNw aNx mw mwa ma_17 en mv_20 mf_21 ml kMT B 44 (by omega) (by omega)) (cwV 1 hts (gV tw_537 tw_539 ts_20 tw_5 tw_540 rfl) rfl rfl rfl (by decide +kernel) ⟨Nat.le_of_ble_eq_true rfl, Nat.le_of_ble_eq_true rfl⟩) (PW_preV hPc hKc hDc hE hS hFc (ci := 4) (q0 := 0) rfl rfl) rfl rfl hl.1 rfl (lv_room (Nat.le_of_ble_eq_true rfl)) d_Md_track_56 ⟨Nat.le_of_ble_eq_true rfl, Nat.le_of_ble_eq_true rfl⟩) hS (fun q _ h => hFc q h) hFc (fun r_25 uu t H1 locs ht hvm hw_29 hB hz1 hk1 hS => ?_)
              obtain ⟨ma_26, mw_27, mwa_28⟩ := uu
              obtain ⟨hP1, hD1, hsz1⟩ := hB
              rw [ht] at hP1 hsz1
              obtain ⟨hP, hD⟩ := va_join (wr := [(aNx, .inl (kNx, 52650, .inl (upd (upd nx (48344 + (134 * kk)) hw_8v) ((48344 + (134 * kk)) + 1) hw_23v)))]) (w1 := [(aM, .inr (4, [.int th, .ref aMT, .int (nI mu), .ref aNw, .ref aNx, .int mw_27, .int mwa_28, .int (nI ma_26), .int (nI en), .long mv_20, .int mf_21, .int ml])), (aMT, .inl (kMT, 65536, .inl B))]) hP hD [0, 1] [2] rfl rfl (by decide) (by decide) hk1 hFc hP1 hD1
              generalize H1 = H at hP hS ⊢
              have hP : va_P (dC, dI) vwCl [(aNx, .inl (kNx, 52650, .inl (upd (upd nx (48344 + (134 * kk)) hw_8v) ((48344 + (134 * kk)) + 1) hw_23v))), (aM, .inr (4, [.int th, .ref aMT, .int (nI mu), .ref aNw, .ref aNx, .int mw_27, .int mwa_28, .int (nI ma_26), .int (nI en), .long mv_20, .int mf_21, .int ml])), (aMT, .inl (kMT, 65536, .inl B))] H := hP
              have hD : va_D A [(aNx, .inl (kNx, 52650, .inl (upd (upd nx (48344 + (134 * kk)) hw_8v) ((48344 + (134 * kk)) + 1) hw_23v))), (aM, .inr (4, [.int th, .ref aMT, .int (nI mu), .ref aNw, .ref aNx, .int mw_27, .int mwa_28, .int (nI ma_26), .int (nI en), .long mv_20, .int mf_21, .int ml])), (aMT, .inl (kMT, 65536, .inl B))] := hD
              rcases hw_29 with ⟨rfl, hw_29a, hw_29b, e1, e2⟩ | ⟨rfl, hw_29b, hw_29k, hw_29a, e2⟩
              ·
                have e1 := e1.symm; subst e1
                have e2 := e2.symm; subst e2
                refine lv_if_eq (tgt := 107) hx hb d_Md_track_59 (by decide) (fun c_30 => ?_) (fun c_30 => ?_)
                ·
                  exact absurd c_30 (by decide)
                ·
                  refine lv_aload_n hx hb d_Md_track_62 rfl (lv_at hl 1 rfl) ?_
                  refine lv_ldc2 (v := zWv 30) hx hb hown (hz _ tw_676) d_Md_track_63 ?_
                  refine lv_iload_n hx hb d_Md_track_66 rfl (lv_at hl 0 rfl) ?_
                  refine lv_iconst (v := 2) hx hb d_Md_track_67 (by decide) ?_
                  refine lv_iadd hx hb d_Md_track_68 ?_
                  refine zt_top (nI_add (48344 + (134 * kk)) 2) ?_
                  refine lv_iconst (v := 0) hx hb d_Md_track_69 (by decide) ?_
                  refine lv_iconst (v := 2) hx hb d_Md_track_70 (by decide) ?_
                  have hPc := hP.sub (ws' := [(aM, .inr (4, [.int th, .ref aMT, .int (nI mu), .ref aNw, .ref aNx, .int mw, .int mwa, .int (nI ma_26), .int (nI en), .long mv_20, .int mf_21, .int ml])), (aMT, .inl (kMT, 65536, .inl B)), (aNx, .inl (kNx, 52650, .inl (upd (upd nx (48344 + (134 * kk)) hw_8v) ((48344 + (134 * kk)) + 1) hw_23v)))]) [1, 2, 0] rfl
                  have hDc := hD.sub (ws' := [(aM, .inr (4, [.int th, .ref aMT, .int (nI mu), .ref aNw, .ref aNx, .int mw, .int mwa, .int (nI ma_26), .int (nI en), .long mv_20, .int mf_21, .int ml])), (aMT, .inl (kMT, 65536, .inl B)), (aNx, .inl (kNx, 52650, .inl (upd (upd nx (48344 + (134 * kk)) hw_8v) ((48344 + (134 * kk)) + 1) hw_23v)))]) [1, 2, 0] (by decide) rfl
                  have hKc := hK.sub (tys' := [(kMT, .byte), (kNx, .int)]) [0, 1] rfl
                  have hFc := va_free (wc := [(aM, .inr (4, [.int th, .ref aMT, .int (nI mu), .ref aNw, .ref aNx, .int mw, .int mwa, .int (nI ma_26), .int (nI en), .long mv_20, .int mf_21, .int ml])), (aMT, .inl (kMT, 65536, .inl B)), (aNx, .inl (kNx, 52650, .inl (upd (upd nx (48344 + (134 * kk)) hw_8v) ((48344 + (134 * kk)) + 1) hw_23v)))]) hD hS hA [1, 2, 0] rfl
                  refine va_calli (va_runV (As := [.long (zWv 30), .int (nI ((48344 + (134 * kk)) + 2)), .int 0, .int 2]) (rest := []) ⟨hx, hb, hml, hown, hts⟩ (c_Md_named l G dC dI H.size aM th aMT mu aNw aNx mw mwa ma_26 en mv_20 mf_21 ml kMT B kNx (upd (upd nx (48344 + (134 * kk)) hw_8v) ((48344 + (134 * kk)) + 1) hw_23v) 30 ((48344 + (134 * kk)) + 2) 0 2 (by omega) (by omega) (by decide) (by decide) (zSb_len _) (by omega) (by decide) (by decide) (by decide) (by decide)) (cwV 4 hts (gV tw_611 tw_613 ts_33 tw_5 tw_614 rfl) rfl rfl rfl (by decide +kernel) ⟨Nat.le_of_ble_eq_true rfl, Nat.le_of_ble_eq_true rfl⟩) (PW_preV hPc hKc hDc hE hS hFc (ci := 4) (q0 := 0) rfl rfl) rfl rfl hl.1 rfl (lv_room (Nat.le_of_ble_eq_true rfl)) d_Md_track_71 ⟨Nat.le_of_ble_eq_true rfl, Nat.le_of_ble_eq_true rfl⟩) hS (fun q _ h => hFc q h) hFc (fun r_31 uu t H1 locs ht hvm hw_38 hB hz1 hk1 hS => ?_)
                  obtain ⟨ma_32, mw_33, mwa_34, mv_35, mf_36, nx_37⟩ := uu
                  obtain ⟨hP1, hD1, hsz1⟩ := hB
                  rw [ht] at hP1 hsz1
                  obtain ⟨hP, hD⟩ := va_join (wr := []) (w1 := [(aM, .inr (4, [.int th, .ref aMT, .int (nI mu), .ref aNw, .ref aNx, .int mw_33, .int mwa_34, .int (nI ma_32), .int (nI en), .long mv_35, .int mf_36, .int ml])), (aMT, .inl (kMT, 65536, .inl B)), (aNx, .inl (kNx, 52650, .inl nx_37))]) hP hD [1, 2, 0] [] rfl rfl (by decide) (by decide) hk1 hFc hP1 hD1
                  generalize H1 = H at hP hS ⊢
                  have hP : va_P (dC, dI) vwCl [(aM, .inr (4, [.int th, .ref aMT, .int (nI mu), .ref aNw, .ref aNx, .int mw_33, .int mwa_34, .int (nI ma_32), .int (nI en), .long mv_35, .int mf_36, .int ml])), (aMT, .inl (kMT, 65536, .inl B)), (aNx, .inl (kNx, 52650, .inl nx_37))] H := hP
                  have hD : va_D A [(aM, .inr (4, [.int th, .ref aMT, .int (nI mu), .ref aNw, .ref aNx, .int mw_33, .int mwa_34, .int (nI ma_32), .int (nI en), .long mv_35, .int mf_36, .int ml])), (aMT, .inl (kMT, 65536, .inl B)), (aNx, .inl (kNx, 52650, .inl nx_37))] := hD
                  rcases hw_38 with ⟨rfl, hw_38b, e1, e2, hw_38v, hw_38a, e3⟩ | ⟨rfl, hw_38b, hw_38k, hw_38a, e2⟩
                  ·
                    have e1 := e1.symm; subst e1
                    have e2 := e2.symm; subst e2
                    have e3 := e3.symm; subst e3
                    refine lv_if_eq (tgt := 107) hx hb d_Md_track_74 (by decide) (fun c_39 => ?_) (fun c_39 => ?_)
                    ·
                      exact absurd c_39 (by decide)
                    ·
                      refine lv_aload_n hx hb d_Md_track_77 rfl (lv_at hl 1 rfl) ?_
                      refine lv_bipush (v := 44) hx hb d_Md_track_78 (by decide) ?_
                      have hPc := hP.sub (ws' := [(aM, .inr (4, [.int th, .ref aMT, .int (nI mu), .ref aNw, .ref aNx, .int mw, .int mwa, .int (nI ma_32), .int (nI en), .long mv_35, .int mf_36, .int ml])), (aMT, .inl (kMT, 65536, .inl B))]) [0, 1] rfl
                      have hDc := hD.sub (ws' := [(aM, .inr (4, [.int th, .ref aMT, .int (nI mu), .ref aNw, .ref aNx, .int mw, .int mwa, .int (nI ma_32), .int (nI en), .long mv_35, .int mf_36, .int ml])), (aMT, .inl (kMT, 65536, .inl B))]) [0, 1] (by decide) rfl
                      have hKc := hK.sub (tys' := [(kMT, .byte)]) [0] rfl
                      have hFc := va_free (wc := [(aM, .inr (4, [.int th, .ref aMT, .int (nI mu), .ref aNw, .ref aNx, .int mw, .int mwa, .int (nI ma_32), .int (nI en), .long mv_35, .int mf_36, .int ml])), (aMT, .inl (kMT, 65536, .inl B))]) hD hS hA [0, 1] rfl
                      refine va_calli (va_runV (As := [.int 44]) (rest := []) ⟨hx, hb, hml, hown, hts⟩ (c_Md_sign l G dC dI H.size aM th aMT mu aNw aNx mw mwa ma_32 en mv_35 mf_36 ml kMT B 44 (by omega) (by omega)) (cwV 1 hts (gV tw_537 tw_539 ts_20 tw_5 tw_540 rfl) rfl rfl rfl (by decide +kernel) ⟨Nat.le_of_ble_eq_true rfl, Nat.le_of_ble_eq_true rfl⟩) (PW_preV hPc hKc hDc hE hS hFc (ci := 4) (q0 := 0) rfl rfl) rfl rfl hl.1 rfl (lv_room (Nat.le_of_ble_eq_true rfl)) d_Md_track_80 ⟨Nat.le_of_ble_eq_true rfl, Nat.le_of_ble_eq_true rfl⟩) hS (fun q _ h => hFc q h) hFc (fun r_40 uu t H1 locs ht hvm hw_44 hB hz1 hk1 hS => ?_)
                      obtain ⟨ma_41, mw_42, mwa_43⟩ := uu
                      obtain ⟨hP1, hD1, hsz1⟩ := hB
                      rw [ht] at hP1 hsz1
                      obtain ⟨hP, hD⟩ := va_join (wr := [(aNx, .inl (kNx, 52650, .inl (upd (upd (upd nx (48344 + (134 * kk)) hw_8v) ((48344 + (134 * kk)) + 1) hw_23v) ((48344 + (134 * kk)) + 2) hw_38v)))]) (w1 := [(aM, .inr (4, [.int th, .ref aMT, .int (nI mu), .ref aNw, .ref aNx, .int mw_42, .int mwa_43, .int (nI ma_41), .int (nI en), .long mv_35, .int mf_36, .int ml])), (aMT, .inl (kMT, 65536, .inl B))]) hP hD [0, 1] [2] rfl rfl (by decide) (by decide) hk1 hFc hP1 hD1
                      generalize H1 = H at hP hS ⊢
                      have hP : va_P (dC, dI) vwCl [(aNx, .inl (kNx, 52650, .inl (upd (upd (upd nx (48344 + (134 * kk)) hw_8v) ((48344 + (134 * kk)) + 1) hw_23v) ((48344 + (134 * kk)) + 2) hw_38v))), (aM, .inr (4, [.int th, .ref aMT, .int (nI mu), .ref aNw, .ref aNx, .int mw_42, .int mwa_43, .int (nI ma_41), .int (nI en), .long mv_35, .int mf_36, .int ml])), (aMT, .inl (kMT, 65536, .inl B))] H := hP
                      have hD : va_D A [(aNx, .inl (kNx, 52650, .inl (upd (upd (upd nx (48344 + (134 * kk)) hw_8v) ((48344 + (134 * kk)) + 1) hw_23v) ((48344 + (134 * kk)) + 2) hw_38v))), (aM, .inr (4, [.int th, .ref aMT, .int (nI mu), .ref aNw, .ref aNx, .int mw_42, .int mwa_43, .int (nI ma_41), .int (nI en), .long mv_35, .int mf_36, .int ml])), (aMT, .inl (kMT, 65536, .inl B))] := hD
                      rcases hw_44 with ⟨rfl, hw_44a, hw_44b, e1, e2⟩ | ⟨rfl, hw_44b, hw_44k, hw_44a, e2⟩
                      ·
                        have e1 := e1.symm; subst e1
                        have e2 := e2.symm; subst e2
                        refine lv_if_eq (tgt := 107) hx hb d_Md_track_83 (by decide) (fun c_45 => ?_) (fun c_45 => ?_)
                        ·
                          exact absurd c_45 (by decide)
                        ·
                          refine lv_aload_n hx hb d_Md_track_86 rfl (lv_at hl 1 rfl) ?_
                          refine lv_ldc2 (v := zWv 31) hx hb hown (hz _ tw_677) d_Md_track_87 ?_
                          refine lv_iload_n hx hb d_Md_track_90 rfl (lv_at hl 0 rfl) ?_
                          refine lv_iconst (v := 4) hx hb d_Md_track_91 (by decide) ?_
                          refine lv_iadd hx hb d_Md_track_92 ?_
                          refine zt_top (nI_add (48344 + (134 * kk)) 4) ?_
                          refine lv_iconst (v := 1) hx hb d_Md_track_93 (by decide) ?_
                          refine lv_bipush (v := 32) hx hb d_Md_track_94 (by decide) ?_
                          refine lv_iconst (v := 1) hx hb d_Md_track_96 (by decide) ?_
                          refine lv_iconst (v := 0) hx hb d_Md_track_97 (by decide) ?_
                          refine lv_ldc (v := 1000000) hx hb hown (hz _ tw_678) d_Md_track_98 ?_
                          refine lv_iconst (v := 1) hx hb d_Md_track_100 (by decide) ?_
                          have hPc := hP.sub (ws' := [(aM, .inr (4, [.int th, .ref aMT, .int (nI mu), .ref aNw, .ref aNx, .int mw, .int mwa, .int (nI ma_41), .int (nI en), .long mv_35, .int mf_36, .int ml])), (aMT, .inl (kMT, 65536, .inl B)), (aNx, .inl (kNx, 52650, .inl (upd (upd (upd nx (48344 + (134 * kk)) hw_8v) ((48344 + (134 * kk)) + 1) hw_23v) ((48344 + (134 * kk)) + 2) hw_38v)))]) [1, 2, 0] rfl
                          have hDc := hD.sub (ws' := [(aM, .inr (4, [.int th, .ref aMT, .int (nI mu), .ref aNw, .ref aNx, .int mw, .int mwa, .int (nI ma_41), .int (nI en), .long mv_35, .int mf_36, .int ml])), (aMT, .inl (kMT, 65536, .inl B)), (aNx, .inl (kNx, 52650, .inl (upd (upd (upd nx (48344 + (134 * kk)) hw_8v) ((48344 + (134 * kk)) + 1) hw_23v) ((48344 + (134 * kk)) + 2) hw_38v)))]) [1, 2, 0] (by decide) rfl
                          have hKc := hK.sub (tys' := [(kMT, .byte), (kNx, .int)]) [0, 1] rfl
                          have hFc := va_free (wc := [(aM, .inr (4, [.int th, .ref aMT, .int (nI mu), .ref aNw, .ref aNx, .int mw, .int mwa, .int (nI ma_41), .int (nI en), .long mv_35, .int mf_36, .int ml])), (aMT, .inl (kMT, 65536, .inl B)), (aNx, .inl (kNx, 52650, .inl (upd (upd (upd nx (48344 + (134 * kk)) hw_8v) ((48344 + (134 * kk)) + 1) hw_23v) ((48344 + (134 * kk)) + 2) hw_38v)))]) hD hS hA [1, 2, 0] rfl
                          refine va_calli (va_runV (As := [.long (zWv 31), .int (nI ((48344 + (134 * kk)) + 4)), .int (nI 1), .int (nI 32), .int (nI 1), .int 0, .int 1000000, .int 1]) (rest := []) ⟨hx, hb, hml, hown, hts⟩ (c_Md_list l G dC dI H.size aM th aMT mu aNw aNx mw mwa ma_41 en mv_35 mf_36 ml kMT B kNx (upd (upd (upd nx (48344 + (134 * kk)) hw_8v) ((48344 + (134 * kk)) + 1) hw_23v) ((48344 + (134 * kk)) + 2) hw_38v) 31 ((48344 + (134 * kk)) + 4) 1 32 1 0 1000000 1 (by omega) (by omega) (by decide) (by decide) (zSb_len _) (by omega) (by omega) (by omega) (Or.inl rfl) (Or.inr rfl) (by decide) (by decide) (by decide) (by decide)) (cwV 8 hts (gV tw_592 tw_594 ts_30 tw_5 tw_595 rfl) rfl rfl rfl (by decide +kernel) ⟨Nat.le_of_ble_eq_true rfl, Nat.le_of_ble_eq_true rfl⟩) (PW_preV hPc hKc hDc hE hS hFc (ci := 4) (q0 := 0) rfl rfl) rfl rfl hl.1 rfl (lv_room (Nat.le_of_ble_eq_true rfl)) d_Md_track_101 ⟨Nat.le_of_ble_eq_true rfl, Nat.le_of_ble_eq_true rfl⟩) hS (fun q _ h => hFc q h) hFc (fun r_46 uu t H1 locs ht hvm hw_54 hB hz1 hk1 hS => ?_)
                          obtain ⟨ma_47, mw_48, mwa_49, mv_50, mf_51, nx_52, ml_53⟩ := uu
                          obtain ⟨hP1, hD1, hsz1⟩ := hB
                          rw [ht] at hP1 hsz1
                          obtain ⟨hP, hD⟩ := va_join (wr := []) (w1 := [(aM, .inr (4, [.int th, .ref aMT, .int (nI mu), .ref aNw, .ref aNx, .int mw_48, .int mwa_49, .int (nI ma_47), .int (nI en), .long mv_50, .int mf_51, .int ml_53])), (aMT, .inl (kMT, 65536, .inl B)), (aNx, .inl (kNx, 52650, .inl nx_52))]) hP hD [1, 2, 0] [] rfl rfl (by decide) (by decide) hk1 hFc hP1 hD1
                          generalize H1 = H at hP hS ⊢
                          have hP : va_P (dC, dI) vwCl [(aM, .inr (4, [.int th, .ref aMT, .int (nI mu), .ref aNw, .ref aNx, .int mw_48, .int mwa_49, .int (nI ma_47), .int (nI en), .long mv_50, .int mf_51, .int ml_53])), (aMT, .inl (kMT, 65536, .inl B)), (aNx, .inl (kNx, 52650, .inl nx_52))] H := hP
                          have hD : va_D A [(aM, .inr (4, [.int th, .ref aMT, .int (nI mu), .ref aNw, .ref aNx, .int mw_48, .int mwa_49, .int (nI ma_47), .int (nI en), .long mv_50, .int mf_51, .int ml_53])), (aMT, .inl (kMT, 65536, .inl B)), (aNx, .inl (kNx, 52650, .inl nx_52))] := hD
                          simp only [zf01, zf11, zg13, zg33, decide_true, decide_false] at hw_54
                          rcases hw_54 with ⟨rfl, hw_54b, e1, e2, hw_54n, hw_54a, e3⟩ | ⟨rfl, hw_54b, hw_54k, hw_54a, e2⟩
                          ·
                            have e1 := e1.symm; subst e1
                            have e2 := e2.symm; subst e2
                            have e3 := e3.symm; subst e3
                            have hw_54i := zLK_in hw_54a
                            refine lv_if_ne (tgt := 109) hx hb d_Md_track_104 (by decide) (fun c_55 => ?_) (fun c_55 => ?_)
                            ·
                              refine lv_aload_n hx hb d_Md_track_109 rfl (lv_at hl 1 rfl) ?_
                              refine va_get (D := (dC, dI)) (ci := 4) (v := .int (nI hw_54n)) (C := R_Md) (T := F_Md) (N := 12) hx hb hz i_Md hown hK hP 0 rfl rfl 11 (by decide) (hz _ tw_487) (fun _ h9 => h9) rfl d_Md_track_110 ?_
                              refine lv_istore_n (lv' := [(3, .int (nI hw_54n)), (2, .int (nI (48344 + (134 * kk)))), (0, .ref aM), (1, .int (nI kk))]) hx hb d_Md_track_113 rfl hl (by decide) rfl (fun ls hl => ?_)
                              refine lv_aload_n hx hb d_Md_track_114 rfl (lv_at hl 2 rfl) ?_
                              refine va_get (D := (dC, dI)) (ci := 4) (v := .ref aNx) (C := R_Md) (T := F_Md) (N := 12) hx hb hz i_Md hown hK hP 0 rfl rfl 4 (by decide) (hz _ tw_480) (fun _ h9 => h9) rfl d_Md_track_115 ?_
                              refine lv_iload_n hx hb d_Md_track_118 rfl (lv_at hl 1 rfl) ?_
                              refine lv_iconst (v := 3) hx hb d_Md_track_119 (by decide) ?_
                              refine lv_iadd hx hb d_Md_track_120 ?_
                              refine zt_top (nI_add (48344 + (134 * kk)) 3) ?_
                              refine lv_iload_n hx hb d_Md_track_121 rfl (lv_at hl 0 rfl) ?_
                              refine va_iast (D := (dC, dI)) (i := nI ((48344 + (134 * kk)) + 3)) (x := nI hw_54n) hx hb hK hP hD hS 2 1 rfl rfl (vp_in_nI (by omega) (by decide)) d_Md_track_122 (fun H locs hP hD hS => ?_)
                              rw [nI_clamp (by omega)] at hP hD
                              have hP : va_P (dC, dI) vwCl [(aM, .inr (4, [.int th, .ref aMT, .int (nI mu), .ref aNw, .ref aNx, .int mw, .int mwa, .int (nI ma_47), .int (nI en), .long mv_50, .int mf_51, .int (nI hw_54n)])), (aMT, .inl (kMT, 65536, .inl B)), (aNx, .inl (kNx, 52650, .inl (upd nx_52 ((48344 + (134 * kk)) + 3) (nI hw_54n))))] H := hP
                              have hD : va_D A [(aM, .inr (4, [.int th, .ref aMT, .int (nI mu), .ref aNw, .ref aNx, .int mw, .int mwa, .int (nI ma_47), .int (nI en), .long mv_50, .int mf_51, .int (nI hw_54n)])), (aMT, .inl (kMT, 65536, .inl B)), (aNx, .inl (kNx, 52650, .inl (upd nx_52 ((48344 + (134 * kk)) + 3) (nI hw_54n))))] := hD
                              refine lv_aload_n hx hb d_Md_track_123 rfl (lv_at hl 2 rfl) ?_
                              refine va_get (D := (dC, dI)) (ci := 4) (v := .ref aNx) (C := R_Md) (T := F_Md) (N := 12) hx hb hz i_Md hown hK hP 0 rfl rfl 4 (by decide) (hz _ tw_480) (fun _ h9 => h9) rfl d_Md_track_124 ?_
                              refine lv_iload_n hx hb d_Md_track_127 rfl (lv_at hl 1 rfl) ?_
                              refine lv_iconst (v := 1) hx hb d_Md_track_128 (by decide) ?_
                              refine lv_iadd hx hb d_Md_track_129 ?_
                              refine zt_top (nI_add (48344 + (134 * kk)) 1) ?_
                              refine va_iald (D := (dC, dI)) (i := nI ((48344 + (134 * kk)) + 1)) hx hb hK hP 2 1 rfl rfl (vp_in_nI (by omega) (by decide)) d_Md_track_130 ?_
                              refine zt_top (by rw [nI_clamp (by omega)]) ?_
                              refine zt_top (y := hw_23v) (by rw [pk_un (by omega), zLK_lo hw_54a _ (by omega), pk_un (by omega), pk_us]) ?_
                              refine lv_if_ne (tgt := 139) hx hb d_Md_track_131 (by decide) (fun c_56 => ?_) (fun c_56 => ?_)
                              ·
                                refine lv_ldc (v := 1048576) hx hb hown (hz _ tw_609) d_Md_track_139 ?_
                                refine lv_istore (lv' := [(4, .int 1048576), (3, .int (nI hw_54n)), (2, .int (nI (48344 + (134 * kk)))), (0, .ref aM), (1, .int (nI kk))]) hx hb d_Md_track_141 hl (by decide) rfl (fun ls hl => ?_)
                                refine lv_aload_n hx hb d_Md_track_143 rfl (lv_at hl 3 rfl) ?_
                                refine lv_bipush (v := 44) hx hb d_Md_track_144 (by decide) ?_
                                have hPc := hP.sub (ws' := [(aM, .inr (4, [.int th, .ref aMT, .int (nI mu), .ref aNw, .ref aNx, .int mw, .int mwa, .int (nI ma_47), .int (nI en), .long mv_50, .int mf_51, .int (nI hw_54n)])), (aMT, .inl (kMT, 65536, .inl B))]) [0, 1] rfl
                                have hDc := hD.sub (ws' := [(aM, .inr (4, [.int th, .ref aMT, .int (nI mu), .ref aNw, .ref aNx, .int mw, .int mwa, .int (nI ma_47), .int (nI en), .long mv_50, .int mf_51, .int (nI hw_54n)])), (aMT, .inl (kMT, 65536, .inl B))]) [0, 1] (by decide) rfl
                                have hKc := hK.sub (tys' := [(kMT, .byte)]) [0] rfl
                                have hFc := va_free (wc := [(aM, .inr (4, [.int th, .ref aMT, .int (nI mu), .ref aNw, .ref aNx, .int mw, .int mwa, .int (nI ma_47), .int (nI en), .long mv_50, .int mf_51, .int (nI hw_54n)])), (aMT, .inl (kMT, 65536, .inl B))]) hD hS hA [0, 1] rfl
                                refine va_calli (va_runV (As := [.int 44]) (rest := []) ⟨hx, hb, hml, hown, hts⟩ (c_Md_sign l G dC dI H.size aM th aMT mu aNw aNx mw mwa ma_47 en mv_50 mf_51 (nI hw_54n) kMT B 44 (by omega) (by omega)) (cwV 1 hts (gV tw_537 tw_539 ts_20 tw_5 tw_540 rfl) rfl rfl rfl (by decide +kernel) ⟨Nat.le_of_ble_eq_true rfl, Nat.le_of_ble_eq_true rfl⟩) (PW_preV hPc hKc hDc hE hS hFc (ci := 4) (q0 := 0) rfl rfl) rfl rfl hl.1 rfl (lv_room (Nat.le_of_ble_eq_true rfl)) d_Md_track_146 ⟨Nat.le_of_ble_eq_true rfl, Nat.le_of_ble_eq_true rfl⟩) hS (fun q _ h => hFc q h) hFc (fun r_57 uu t H1 locs ht hvm hw_61 hB hz1 hk1 hS => ?_)
                                obtain ⟨ma_58, mw_59, mwa_60⟩ := uu
                                obtain ⟨hP1, hD1, hsz1⟩ := hB
                                rw [ht] at hP1 hsz1
                                obtain ⟨hP, hD⟩ := va_join (wr := [(aNx, .inl (kNx, 52650, .inl (upd nx_52 ((48344 + (134 * kk)) + 3) (nI hw_54n))))]) (w1 := [(aM, .inr (4, [.int th, .ref aMT, .int (nI mu), .ref aNw, .ref aNx, .int mw_59, .int mwa_60, .int (nI ma_58), .int (nI en), .long mv_50, .int mf_51, .int (nI hw_54n)])), (aMT, .inl (kMT, 65536, .inl B))]) hP hD [0, 1] [2] rfl rfl (by decide) (by decide) hk1 hFc hP1 hD1
                                generalize H1 = H at hP hS ⊢
                                have hP : va_P (dC, dI) vwCl [(aNx, .inl (kNx, 52650, .inl (upd nx_52 ((48344 + (134 * kk)) + 3) (nI hw_54n)))), (aM, .inr (4, [.int th, .ref aMT, .int (nI mu), .ref aNw, .ref aNx, .int mw_59, .int mwa_60, .int (nI ma_58), .int (nI en), .long mv_50, .int mf_51, .int (nI hw_54n)])), (aMT, .inl (kMT, 65536, .inl B))] H := hP
                                have hD : va_D A [(aNx, .inl (kNx, 52650, .inl (upd nx_52 ((48344 + (134 * kk)) + 3) (nI hw_54n)))), (aM, .inr (4, [.int th, .ref aMT, .int (nI mu), .ref aNw, .ref aNx, .int mw_59, .int mwa_60, .int (nI ma_58), .int (nI en), .long mv_50, .int mf_51, .int (nI hw_54n)])), (aMT, .inl (kMT, 65536, .inl B))] := hD
                                rcases hw_61 with ⟨rfl, hw_61a, hw_61b, e1, e2⟩ | ⟨rfl, hw_61b, hw_61k, hw_61a, e2⟩
                                ·
                                  have e1 := e1.symm; subst e1
                                  have e2 := e2.symm; subst e2
                                  refine lv_if_eq (tgt := 183) hx hb d_Md_track_149 (by decide) (fun c_62 => ?_) (fun c_62 => ?_)
                                  ·
                                    exact absurd c_62 (by decide)
                                  ·
                                    refine lv_aload_n hx hb d_Md_track_152 rfl (lv_at hl 3 rfl) ?_
                                    refine lv_ldc2 (v := zWv 32) hx hb hown (hz _ tw_679) d_Md_track_153 ?_
                                    refine lv_iload_n hx hb d_Md_track_156 rfl (lv_at hl 2 rfl) ?_
                                    refine lv_bipush (v := 36) hx hb d_Md_track_157 (by decide) ?_
                                    refine lv_iadd hx hb d_Md_track_159 ?_
                                    refine zt_top (nI_add (48344 + (134 * kk)) 36) ?_
                                    refine lv_iconst (v := 3) hx hb d_Md_track_160 (by decide) ?_
                                    refine lv_iload_n hx hb d_Md_track_161 rfl (lv_at hl 1 rfl) ?_
                                    refine lv_imul hx hb d_Md_track_162 ?_
                                    refine zt_top (pk_mul 3 hw_54n) ?_
                                    refine lv_iconst (v := 3) hx hb d_Md_track_163 (by decide) ?_
                                    refine lv_iload_n hx hb d_Md_track_164 rfl (lv_at hl 1 rfl) ?_
                                    refine lv_imul hx hb d_Md_track_165 ?_
                                    refine zt_top (pk_mul 3 hw_54n) ?_
                                    refine lv_iconst (v := 1) hx hb d_Md_track_166 (by decide) ?_
                                    refine lv_iload hx hb d_Md_track_167 (lv_at hl 0 rfl) ?_
                                    refine lv_ineg hx hb d_Md_track_169 ?_
                                    refine lv_iload hx hb d_Md_track_170 (lv_at hl 0 rfl) ?_
                                    refine lv_iconst (v := 0) hx hb d_Md_track_172 (by decide) ?_
                                    have hPc := hP.sub (ws' := [(aM, .inr (4, [.int th, .ref aMT, .int (nI mu), .ref aNw, .ref aNx, .int mw, .int mwa, .int (nI ma_58), .int (nI en), .long mv_50, .int mf_51, .int (nI hw_54n)])), (aMT, .inl (kMT, 65536, .inl B)), (aNx, .inl (kNx, 52650, .inl (upd nx_52 ((48344 + (134 * kk)) + 3) (nI hw_54n))))]) [1, 2, 0] rfl
                                    have hDc := hD.sub (ws' := [(aM, .inr (4, [.int th, .ref aMT, .int (nI mu), .ref aNw, .ref aNx, .int mw, .int mwa, .int (nI ma_58), .int (nI en), .long mv_50, .int mf_51, .int (nI hw_54n)])), (aMT, .inl (kMT, 65536, .inl B)), (aNx, .inl (kNx, 52650, .inl (upd nx_52 ((48344 + (134 * kk)) + 3) (nI hw_54n))))]) [1, 2, 0] (by decide) rfl
                                    have hKc := hK.sub (tys' := [(kMT, .byte), (kNx, .int)]) [0, 1] rfl
                                    have hFc := va_free (wc := [(aM, .inr (4, [.int th, .ref aMT, .int (nI mu), .ref aNw, .ref aNx, .int mw, .int mwa, .int (nI ma_58), .int (nI en), .long mv_50, .int mf_51, .int (nI hw_54n)])), (aMT, .inl (kMT, 65536, .inl B)), (aNx, .inl (kNx, 52650, .inl (upd nx_52 ((48344 + (134 * kk)) + 3) (nI hw_54n))))]) hD hS hA [1, 2, 0] rfl
                                    refine va_calli (va_runV (As := [.long (zWv 32), .int (nI ((48344 + (134 * kk)) + 36)), .int (nI (3 * hw_54n)), .int (nI (3 * hw_54n)), .int (nI 1), .int (-1048576), .int 1048576, .int 0]) (rest := []) ⟨hx, hb, hml, hown, hts⟩ (c_Md_list l G dC dI H.size aM th aMT mu aNw aNx mw mwa ma_58 en mv_50 mf_51 (nI hw_54n) kMT B kNx (upd nx_52 ((48344 + (134 * kk)) + 3) (nI hw_54n)) 32 ((48344 + (134 * kk)) + 36) (3 * hw_54n) (3 * hw_54n) 1 (-1048576) 1048576 0 (by omega) (by omega) (by decide) (by decide) (zSb_len _) (by omega) (by omega) (by omega) (Or.inl rfl) (Or.inl rfl) (by decide) (by decide) (by decide) (by decide)) (cwV 8 hts (gV tw_592 tw_594 ts_30 tw_5 tw_595 rfl) rfl rfl rfl (by decide +kernel) ⟨Nat.le_of_ble_eq_true rfl, Nat.le_of_ble_eq_true rfl⟩) (PW_preV hPc hKc hDc hE hS hFc (ci := 4) (q0 := 0) rfl rfl) rfl rfl hl.1 rfl (lv_room (Nat.le_of_ble_eq_true rfl)) d_Md_track_173 ⟨Nat.le_of_ble_eq_true rfl, Nat.le_of_ble_eq_true rfl⟩) hS (fun q _ h => hFc q h) hFc (fun r_63 uu t H1 locs ht hvm hw_71 hB hz1 hk1 hS => ?_)
                                    obtain ⟨ma_64, mw_65, mwa_66, mv_67, mf_68, nx_69, ml_70⟩ := uu
                                    obtain ⟨hP1, hD1, hsz1⟩ := hB
                                    rw [ht] at hP1 hsz1
                                    obtain ⟨hP, hD⟩ := va_join (wr := []) (w1 := [(aM, .inr (4, [.int th, .ref aMT, .int (nI mu), .ref aNw, .ref aNx, .int mw_65, .int mwa_66, .int (nI ma_64), .int (nI en), .long mv_67, .int mf_68, .int ml_70])), (aMT, .inl (kMT, 65536, .inl B)), (aNx, .inl (kNx, 52650, .inl nx_69))]) hP hD [1, 2, 0] [] rfl rfl (by decide) (by decide) hk1 hFc hP1 hD1
                                    generalize H1 = H at hP hS ⊢
                                    have hP : va_P (dC, dI) vwCl [(aM, .inr (4, [.int th, .ref aMT, .int (nI mu), .ref aNw, .ref aNx, .int mw_65, .int mwa_66, .int (nI ma_64), .int (nI en), .long mv_67, .int mf_68, .int ml_70])), (aMT, .inl (kMT, 65536, .inl B)), (aNx, .inl (kNx, 52650, .inl nx_69))] H := hP
                                    have hD : va_D A [(aM, .inr (4, [.int th, .ref aMT, .int (nI mu), .ref aNw, .ref aNx, .int mw_65, .int mwa_66, .int (nI ma_64), .int (nI en), .long mv_67, .int mf_68, .int ml_70])), (aMT, .inl (kMT, 65536, .inl B)), (aNx, .inl (kNx, 52650, .inl nx_69))] := hD
                                    simp only [zf01, zf11, zg13, zg33, decide_true, decide_false] at hw_71
                                    rcases hw_71 with ⟨rfl, hw_71b, e1, e2, hw_71n, hw_71a, e3⟩ | ⟨rfl, hw_71b, hw_71k, hw_71a, e2⟩
                                    ·
                                      have e1 := e1.symm; subst e1
                                      have e2 := e2.symm; subst e2
                                      have e3 := e3.symm; subst e3
                                      have hw_71i := zLK_in hw_71a
                                      refine lv_if_eq (tgt := 183) hx hb d_Md_track_176 (by decide) (fun c_72 => ?_) (fun c_72 => ?_)
                                      ·
                                        exact absurd c_72 (by decide)
                                      ·
                                        refine lv_iconst (v := 1) hx hb d_Md_track_179 (by decide) ?_
                                        refine lv_goto (tgt := 184) hx hb d_Md_track_180 (by decide) ?_
                                        refine zt_size (fun hzs => ?_)
                                        have hP9 := hP.sub (ws' := [(aM, .inr (4, [.int th, .ref aMT, .int (nI mu), .ref aNw, .ref aNx, .int mw, .int mwa, .int (nI ma_64), .int (nI en), .long mv_67, .int mf_68, .int (nI hw_71n)])), (aMT, .inl (kMT, 65536, .inl B)), (aNx, .inl (kNx, 52650, .inl nx_69))]) [0, 1, 2] rfl
                                        have hD9 := hD.sub (ws' := [(aM, .inr (4, [.int th, .ref aMT, .int (nI mu), .ref aNw, .ref aNx, .int mw, .int mwa, .int (nI ma_64), .int (nI en), .long mv_67, .int mf_68, .int (nI hw_71n)])), (aMT, .inl (kMT, 65536, .inl B)), (aNx, .inl (kNx, 52650, .inl nx_69))]) [0, 1, 2] (by decide) rfl
                                        exact W.zret (v := 1) hx hb hr rfl (fun t ht hW => ⟨⟨1, (ma_64, mw, mwa, mv_67, mf_68, nx_69, nI hw_71n), rfl, Or.inl ⟨rfl, by omega, rfl, rfl, by simp only [mTrack, mListK, mNumK, zB_ok, hw_8a, hw_14a, hw_23a, hw_29a, hw_38a, hw_44a, hw_54a, hw_61a, hw_71a, if_neg c_56]⟩, by rw [ht]; exact hP9, hD9, by rw [ht]; exact hzs⟩, hS.F ht⟩) hS.2.2 d_Md_track_184
                                    ·
                                      have e2 := e2.symm; subst e2
                                      refine lv_if_eq (tgt := 183) hx hb d_Md_track_176 (by decide) (fun c_73 => ?_) (fun c_73 => ?_)
                                      ·
                                        refine lv_iconst (v := 0) hx hb d_Md_track_183 (by decide) ?_
                                        refine zt_size (fun hzs => ?_)
                                        have hP9 := hP.sub (ws' := [(aM, .inr (4, [.int th, .ref aMT, .int (nI mu), .ref aNw, .ref aNx, .int mw_65, .int (nI hw_71k), .int (nI ma_64), .int (nI en), .long mv_67, .int mf_68, .int ml_70])), (aMT, .inl (kMT, 65536, .inl B)), (aNx, .inl (kNx, 52650, .inl nx_69))]) [0, 1, 2] rfl
                                        have hD9 := hD.sub (ws' := [(aM, .inr (4, [.int th, .ref aMT, .int (nI mu), .ref aNw, .ref aNx, .int mw_65, .int (nI hw_71k), .int (nI ma_64), .int (nI en), .long mv_67, .int mf_68, .int ml_70])), (aMT, .inl (kMT, 65536, .inl B)), (aNx, .inl (kNx, 52650, .inl nx_69))]) [0, 1, 2] (by decide) rfl
                                        exact W.zret (v := 0) hx hb hr rfl (fun t ht hW => ⟨⟨0, (ma_64, mw_65, nI hw_71k, mv_67, mf_68, nx_69, ml_70), rfl, Or.inr ⟨rfl, by omega, _, by simp only [mTrack, mListK, mNumK, zB_ok, zB_er, hw_8a, hw_14a, hw_23a, hw_29a, hw_38a, hw_44a, hw_54a, hw_61a, hw_71a, if_neg c_56], rfl⟩, by rw [ht]; exact hP9, hD9, by rw [ht]; exact hzs⟩, hS.F ht⟩) hS.2.2 d_Md_track_184
                                      ·
                                        exact absurd (by decide) c_73
                                ·
                                  have e2 := e2.symm; subst e2
                                  refine lv_if_eq (tgt := 183) hx hb d_Md_track_149 (by decide) (fun c_74 => ?_) (fun c_74 => ?_)
                                  ·
                                    refine lv_iconst (v := 0) hx hb d_Md_track_183 (by decide) ?_
                                    refine zt_size (fun hzs => ?_)
                                    have hP9 := hP.sub (ws' := [(aM, .inr (4, [.int th, .ref aMT, .int (nI mu), .ref aNw, .ref aNx, .int mw_59, .int (nI hw_61k), .int (nI ma_58), .int (nI en), .long mv_50, .int mf_51, .int (nI hw_54n)])), (aMT, .inl (kMT, 65536, .inl B)), (aNx, .inl (kNx, 52650, .inl (upd nx_52 ((48344 + (134 * kk)) + 3) (nI hw_54n))))]) [1, 2, 0] rfl
                                    have hD9 := hD.sub (ws' := [(aM, .inr (4, [.int th, .ref aMT, .int (nI mu), .ref aNw, .ref aNx, .int mw_59, .int (nI hw_61k), .int (nI ma_58), .int (nI en), .long mv_50, .int mf_51, .int (nI hw_54n)])), (aMT, .inl (kMT, 65536, .inl B)), (aNx, .inl (kNx, 52650, .inl (upd nx_52 ((48344 + (134 * kk)) + 3) (nI hw_54n))))]) [1, 2, 0] (by decide) rfl
                                    exact W.zret (v := 0) hx hb hr rfl (fun t ht hW => ⟨⟨0, (ma_58, mw_59, nI hw_61k, mv_50, mf_51, upd nx_52 ((48344 + (134 * kk)) + 3) (nI hw_54n), nI hw_54n), rfl, Or.inr ⟨rfl, by omega, _, by simp only [mTrack, mListK, mNumK, zB_ok, zB_er, hw_8a, hw_14a, hw_23a, hw_29a, hw_38a, hw_44a, hw_54a, hw_61a, if_neg c_56], rfl⟩, by rw [ht]; exact hP9, hD9, by rw [ht]; exact hzs⟩, hS.F ht⟩) hS.2.2 d_Md_track_184
                                  ·
                                    exact absurd (by decide) c_74
                              ·
                                refine lv_ldc (v := 4194304) hx hb hown (hz _ tw_587) d_Md_track_134 ?_
                                refine lv_goto (tgt := 141) hx hb d_Md_track_136 (by decide) ?_
                                refine lv_istore (lv' := [(4, .int 4194304), (3, .int (nI hw_54n)), (2, .int (nI (48344 + (134 * kk)))), (0, .ref aM), (1, .int (nI kk))]) hx hb d_Md_track_141 hl (by decide) rfl (fun ls hl => ?_)
                                refine lv_aload_n hx hb d_Md_track_143 rfl (lv_at hl 3 rfl) ?_
                                refine lv_bipush (v := 44) hx hb d_Md_track_144 (by decide) ?_
                                have hPc := hP.sub (ws' := [(aM, .inr (4, [.int th, .ref aMT, .int (nI mu), .ref aNw, .ref aNx, .int mw, .int mwa, .int (nI ma_47), .int (nI en), .long mv_50, .int mf_51, .int (nI hw_54n)])), (aMT, .inl (kMT, 65536, .inl B))]) [0, 1] rfl
                                have hDc := hD.sub (ws' := [(aM, .inr (4, [.int th, .ref aMT, .int (nI mu), .ref aNw, .ref aNx, .int mw, .int mwa, .int (nI ma_47), .int (nI en), .long mv_50, .int mf_51, .int (nI hw_54n)])), (aMT, .inl (kMT, 65536, .inl B))]) [0, 1] (by decide) rfl
                                have hKc := hK.sub (tys' := [(kMT, .byte)]) [0] rfl
                                have hFc := va_free (wc := [(aM, .inr (4, [.int th, .ref aMT, .int (nI mu), .ref aNw, .ref aNx, .int mw, .int mwa, .int (nI ma_47), .int (nI en), .long mv_50, .int mf_51, .int (nI hw_54n)])), (aMT, .inl (kMT, 65536, .inl B))]) hD hS hA [0, 1] rfl
                                refine va_calli (va_runV (As := [.int 44]) (rest := []) ⟨hx, hb, hml, hown, hts⟩ (c_Md_sign l G dC dI H.size aM th aMT mu aNw aNx mw mwa ma_47 en mv_50 mf_51 (nI hw_54n) kMT B 44 (by omega) (by omega)) (cwV 1 hts (gV tw_537 tw_539 ts_20 tw_5 tw_540 rfl) rfl rfl rfl (by decide +kernel) ⟨Nat.le_of_ble_eq_true rfl, Nat.le_of_ble_eq_true rfl⟩) (PW_preV hPc hKc hDc hE hS hFc (ci := 4) (q0 := 0) rfl rfl) rfl rfl hl.1 rfl (lv_room (Nat.le_of_ble_eq_true rfl)) d_Md_track_146 ⟨Nat.le_of_ble_eq_true rfl, Nat.le_of_ble_eq_true rfl⟩) hS (fun q _ h => hFc q h) hFc (fun r_75 uu t H1 locs ht hvm hw_79 hB hz1 hk1 hS => ?_)
                                obtain ⟨ma_76, mw_77, mwa_78⟩ := uu
                                obtain ⟨hP1, hD1, hsz1⟩ := hB
                                rw [ht] at hP1 hsz1
                                obtain ⟨hP, hD⟩ := va_join (wr := [(aNx, .inl (kNx, 52650, .inl (upd nx_52 ((48344 + (134 * kk)) + 3) (nI hw_54n))))]) (w1 := [(aM, .inr (4, [.int th, .ref aMT, .int (nI mu), .ref aNw, .ref aNx, .int mw_77, .int mwa_78, .int (nI ma_76), .int (nI en), .long mv_50, .int mf_51, .int (nI hw_54n)])), (aMT, .inl (kMT, 65536, .inl B))]) hP hD [0, 1] [2] rfl rfl (by decide) (by decide) hk1 hFc hP1 hD1
                                generalize H1 = H at hP hS ⊢
                                have hP : va_P (dC, dI) vwCl [(aNx, .inl (kNx, 52650, .inl (upd nx_52 ((48344 + (134 * kk)) + 3) (nI hw_54n)))), (aM, .inr (4, [.int th, .ref aMT, .int (nI mu), .ref aNw, .ref aNx, .int mw_77, .int mwa_78, .int (nI ma_76), .int (nI en), .long mv_50, .int mf_51, .int (nI hw_54n)])), (aMT, .inl (kMT, 65536, .inl B))] H := hP
                                have hD : va_D A [(aNx, .inl (kNx, 52650, .inl (upd nx_52 ((48344 + (134 * kk)) + 3) (nI hw_54n)))), (aM, .inr (4, [.int th, .ref aMT, .int (nI mu), .ref aNw, .ref aNx, .int mw_77, .int mwa_78, .int (nI ma_76), .int (nI en), .long mv_50, .int mf_51, .int (nI hw_54n)])), (aMT, .inl (kMT, 65536, .inl B))] := hD
                                rcases hw_79 with ⟨rfl, hw_79a, hw_79b, e1, e2⟩ | ⟨rfl, hw_79b, hw_79k, hw_79a, e2⟩
                                ·
                                  have e1 := e1.symm; subst e1
                                  have e2 := e2.symm; subst e2
                                  refine lv_if_eq (tgt := 183) hx hb d_Md_track_149 (by decide) (fun c_80 => ?_) (fun c_80 => ?_)
                                  ·
                                    exact absurd c_80 (by decide)
                                  ·
                                    refine lv_aload_n hx hb d_Md_track_152 rfl (lv_at hl 3 rfl) ?_
                                    refine lv_ldc2 (v := zWv 32) hx hb hown (hz _ tw_679) d_Md_track_153 ?_
                                    refine lv_iload_n hx hb d_Md_track_156 rfl (lv_at hl 2 rfl) ?_
                                    refine lv_bipush (v := 36) hx hb d_Md_track_157 (by decide) ?_
                                    refine lv_iadd hx hb d_Md_track_159 ?_
                                    refine zt_top (nI_add (48344 + (134 * kk)) 36) ?_
                                    refine lv_iconst (v := 3) hx hb d_Md_track_160 (by decide) ?_
                                    refine lv_iload_n hx hb d_Md_track_161 rfl (lv_at hl 1 rfl) ?_
                                    refine lv_imul hx hb d_Md_track_162 ?_
                                    refine zt_top (pk_mul 3 hw_54n) ?_
                                    refine lv_iconst (v := 3) hx hb d_Md_track_163 (by decide) ?_
                                    refine lv_iload_n hx hb d_Md_track_164 rfl (lv_at hl 1 rfl) ?_
                                    refine lv_imul hx hb d_Md_track_165 ?_
                                    refine zt_top (pk_mul 3 hw_54n) ?_
                                    refine lv_iconst (v := 1) hx hb d_Md_track_166 (by decide) ?_
                                    refine lv_iload hx hb d_Md_track_167 (lv_at hl 0 rfl) ?_
                                    refine lv_ineg hx hb d_Md_track_169 ?_
                                    refine lv_iload hx hb d_Md_track_170 (lv_at hl 0 rfl) ?_
                                    refine lv_iconst (v := 0) hx hb d_Md_track_172 (by decide) ?_
                                    have hPc := hP.sub (ws' := [(aM, .inr (4, [.int th, .ref aMT, .int (nI mu), .ref aNw, .ref aNx, .int mw, .int mwa, .int (nI ma_76), .int (nI en), .long mv_50, .int mf_51, .int (nI hw_54n)])), (aMT, .inl (kMT, 65536, .inl B)), (aNx, .inl (kNx, 52650, .inl (upd nx_52 ((48344 + (134 * kk)) + 3) (nI hw_54n))))]) [1, 2, 0] rfl
                                    have hDc := hD.sub (ws' := [(aM, .inr (4, [.int th, .ref aMT, .int (nI mu), .ref aNw, .ref aNx, .int mw, .int mwa, .int (nI ma_76), .int (nI en), .long mv_50, .int mf_51, .int (nI hw_54n)])), (aMT, .inl (kMT, 65536, .inl B)), (aNx, .inl (kNx, 52650, .inl (upd nx_52 ((48344 + (134 * kk)) + 3) (nI hw_54n))))]) [1, 2, 0] (by decide) rfl
                                    have hKc := hK.sub (tys' := [(kMT, .byte), (kNx, .int)]) [0, 1] rfl
                                    have hFc := va_free (wc := [(aM, .inr (4, [.int th, .ref aMT, .int (nI mu), .ref aNw, .ref aNx, .int mw, .int mwa, .int (nI ma_76), .int (nI en), .long mv_50, .int mf_51, .int (nI hw_54n)])), (aMT, .inl (kMT, 65536, .inl B)), (aNx, .inl (kNx, 52650, .inl (upd nx_52 ((48344 + (134 * kk)) + 3) (nI hw_54n))))]) hD hS hA [1, 2, 0] rfl
                                    refine va_calli (va_runV (As := [.long (zWv 32), .int (nI ((48344 + (134 * kk)) + 36)), .int (nI (3 * hw_54n)), .int (nI (3 * hw_54n)), .int (nI 1), .int (-4194304), .int 4194304, .int 0]) (rest := []) ⟨hx, hb, hml, hown, hts⟩ (c_Md_list l G dC dI H.size aM th aMT mu aNw aNx mw mwa ma_76 en mv_50 mf_51 (nI hw_54n) kMT B kNx (upd nx_52 ((48344 + (134 * kk)) + 3) (nI hw_54n)) 32 ((48344 + (134 * kk)) + 36) (3 * hw_54n) (3 * hw_54n) 1 (-4194304) 4194304 0 (by omega) (by omega) (by decide) (by decide) (zSb_len _) (by omega) (by omega) (by omega) (Or.inl rfl) (Or.inl rfl) (by decide) (by decide) (by decide) (by decide)) (cwV 8 hts (gV tw_592 tw_594 ts_30 tw_5 tw_595 rfl) rfl rfl rfl (by decide +kernel) ⟨Nat.le_of_ble_eq_true rfl, Nat.le_of_ble_eq_true rfl⟩) (PW_preV hPc hKc hDc hE hS hFc (ci := 4) (q0 := 0) rfl rfl) rfl rfl hl.1 rfl (lv_room (Nat.le_of_ble_eq_true rfl)) d_Md_track_173 ⟨Nat.le_of_ble_eq_true rfl, Nat.le_of_ble_eq_true rfl⟩) hS (fun q _ h => hFc q h) hFc (fun r_81 uu t H1 locs ht hvm hw_89 hB hz1 hk1 hS => ?_)
                                    obtain ⟨ma_82, mw_83, mwa_84, mv_85, mf_86, nx_87, ml_88⟩ := uu
                                    obtain ⟨hP1, hD1, hsz1⟩ := hB
                                    rw [ht] at hP1 hsz1
                                    obtain ⟨hP, hD⟩ := va_join (wr := []) (w1 := [(aM, .inr (4, [.int th, .ref aMT, .int (nI mu), .ref aNw, .ref aNx, .int mw_83, .int mwa_84, .int (nI ma_82), .int (nI en), .long mv_85, .int mf_86, .int ml_88])), (aMT, .inl (kMT, 65536, .inl B)), (aNx, .inl (kNx, 52650, .inl nx_87))]) hP hD [1, 2, 0] [] rfl rfl (by decide) (by decide) hk1 hFc hP1 hD1
                                    generalize H1 = H at hP hS ⊢
                                    have hP : va_P (dC, dI) vwCl [(aM, .inr (4, [.int th, .ref aMT, .int (nI mu), .ref aNw, .ref aNx, .int mw_83, .int mwa_84, .int (nI ma_82), .int (nI en), .long mv_85, .int mf_86, .int ml_88])), (aMT, .inl (kMT, 65536, .inl B)), (aNx, .inl (kNx, 52650, .inl nx_87))] H := hP
                                    have hD : va_D A [(aM, .inr (4, [.int th, .ref aMT, .int (nI mu), .ref aNw, .ref aNx, .int mw_83, .int mwa_84, .int (nI ma_82), .int (nI en), .long mv_85, .int mf_86, .int ml_88])), (aMT, .inl (kMT, 65536, .inl B)), (aNx, .inl (kNx, 52650, .inl nx_87))] := hD
                                    simp only [zf01, zf11, zg13, zg33, decide_true, decide_false] at hw_89
                                    rcases hw_89 with ⟨rfl, hw_89b, e1, e2, hw_89n, hw_89a, e3⟩ | ⟨rfl, hw_89b, hw_89k, hw_89a, e2⟩
                                    ·
                                      have e1 := e1.symm; subst e1
                                      have e2 := e2.symm; subst e2
                                      have e3 := e3.symm; subst e3
                                      have hw_89i := zLK_in hw_89a
                                      refine lv_if_eq (tgt := 183) hx hb d_Md_track_176 (by decide) (fun c_90 => ?_) (fun c_90 => ?_)
                                      ·
                                        exact absurd c_90 (by decide)
                                      ·
                                        refine lv_iconst (v := 1) hx hb d_Md_track_179 (by decide) ?_
                                        refine lv_goto (tgt := 184) hx hb d_Md_track_180 (by decide) ?_
                                        refine zt_size (fun hzs => ?_)
                                        have hP9 := hP.sub (ws' := [(aM, .inr (4, [.int th, .ref aMT, .int (nI mu), .ref aNw, .ref aNx, .int mw, .int mwa, .int (nI ma_82), .int (nI en), .long mv_85, .int mf_86, .int (nI hw_89n)])), (aMT, .inl (kMT, 65536, .inl B)), (aNx, .inl (kNx, 52650, .inl nx_87))]) [0, 1, 2] rfl
                                        have hD9 := hD.sub (ws' := [(aM, .inr (4, [.int th, .ref aMT, .int (nI mu), .ref aNw, .ref aNx, .int mw, .int mwa, .int (nI ma_82), .int (nI en), .long mv_85, .int mf_86, .int (nI hw_89n)])), (aMT, .inl (kMT, 65536, .inl B)), (aNx, .inl (kNx, 52650, .inl nx_87))]) [0, 1, 2] (by decide) rfl
                                        exact W.zret (v := 1) hx hb hr rfl (fun t ht hW => ⟨⟨1, (ma_82, mw, mwa, mv_85, mf_86, nx_87, nI hw_89n), rfl, Or.inl ⟨rfl, by omega, rfl, rfl, by simp only [mTrack, mListK, mNumK, zB_ok, hw_8a, hw_14a, hw_23a, hw_29a, hw_38a, hw_44a, hw_54a, hw_79a, hw_89a, if_pos c_56]⟩, by rw [ht]; exact hP9, hD9, by rw [ht]; exact hzs⟩, hS.F ht⟩) hS.2.2 d_Md_track_184
                                    ·
                                      have e2 := e2.symm; subst e2
                                      refine lv_if_eq (tgt := 183) hx hb d_Md_track_176 (by decide) (fun c_91 => ?_) (fun c_91 => ?_)
                                      ·
                                        refine lv_iconst (v := 0) hx hb d_Md_track_183 (by decide) ?_
                                        refine zt_size (fun hzs => ?_)
                                        have hP9 := hP.sub (ws' := [(aM, .inr (4, [.int th, .ref aMT, .int (nI mu), .ref aNw, .ref aNx, .int mw_83, .int (nI hw_89k), .int (nI ma_82), .int (nI en), .long mv_85, .int mf_86, .int ml_88])), (aMT, .inl (kMT, 65536, .inl B)), (aNx, .inl (kNx, 52650, .inl nx_87))]) [0, 1, 2] rfl
                                        have hD9 := hD.sub (ws' := [(aM, .inr (4, [.int th, .ref aMT, .int (nI mu), .ref aNw, .ref aNx, .int mw_83, .int (nI hw_89k), .int (nI ma_82), .int (nI en), .long mv_85, .int mf_86, .int ml_88])), (aMT, .inl (kMT, 65536, .inl B)), (aNx, .inl (kNx, 52650, .inl nx_87))]) [0, 1, 2] (by decide) rfl
                                        exact W.zret (v := 0) hx hb hr rfl (fun t ht hW => ⟨⟨0, (ma_82, mw_83, nI hw_89k, mv_85, mf_86, nx_87, ml_88), rfl, Or.inr ⟨rfl, by omega, _, by simp only [mTrack, mListK, mNumK, zB_ok, zB_er, hw_8a, hw_14a, hw_23a, hw_29a, hw_38a, hw_44a, hw_54a, hw_79a, hw_89a, if_pos c_56], rfl⟩, by rw [ht]; exact hP9, hD9, by rw [ht]; exact hzs⟩, hS.F ht⟩) hS.2.2 d_Md_track_184
                                      ·
                                        exact absurd (by decide) c_91
                                ·
                                  have e2 := e2.symm; subst e2
                                  refine lv_if_eq (tgt := 183) hx hb d_Md_track_149 (by decide) (fun c_92 => ?_) (fun c_92 => ?_)
                                  ·
                                    refine lv_iconst (v := 0) hx hb d_Md_track_183 (by decide) ?_
                                    refine zt_size (fun hzs => ?_)
                                    have hP9 := hP.sub (ws' := [(aM, .inr (4, [.int th, .ref aMT, .int (nI mu), .ref aNw, .ref aNx, .int mw_77, .int (nI hw_79k), .int (nI ma_76), .int (nI en), .long mv_50, .int mf_51, .int (nI hw_54n)])), (aMT, .inl (kMT, 65536, .inl B)), (aNx, .inl (kNx, 52650, .inl (upd nx_52 ((48344 + (134 * kk)) + 3) (nI hw_54n))))]) [1, 2, 0] rfl
                                    have hD9 := hD.sub (ws' := [(aM, .inr (4, [.int th, .ref aMT, .int (nI mu), .ref aNw, .ref aNx, .int mw_77, .int (nI hw_79k), .int (nI ma_76), .int (nI en), .long mv_50, .int mf_51, .int (nI hw_54n)])), (aMT, .inl (kMT, 65536, .inl B)), (aNx, .inl (kNx, 52650, .inl (upd nx_52 ((48344 + (134 * kk)) + 3) (nI hw_54n))))]) [1, 2, 0] (by decide) rfl
                                    exact W.zret (v := 0) hx hb hr rfl (fun t ht hW => ⟨⟨0, (ma_76, mw_77, nI hw_79k, mv_50, mf_51, upd nx_52 ((48344 + (134 * kk)) + 3) (nI hw_54n), nI hw_54n), rfl, Or.inr ⟨rfl, by omega, _, by simp only [mTrack, mListK, mNumK, zB_ok, zB_er, hw_8a, hw_14a, hw_23a, hw_29a, hw_38a, hw_44a, hw_54a, hw_79a, if_pos c_56], rfl⟩, by rw [ht]; exact hP9, hD9, by rw [ht]; exact hzs⟩, hS.F ht⟩) hS.2.2 d_Md_track_184
                                  ·
                                    exact absurd (by decide) c_92
                            ·
                              exact absurd c_55 (by decide)
                          ·
                            have e2 := e2.symm; subst e2
                            refine lv_if_ne (tgt := 109) hx hb d_Md_track_104 (by decide) (fun c_93 => ?_) (fun c_93 => ?_)
                            ·
                              exact absurd (by decide) c_93
                            ·
                              refine lv_iconst (v := 0) hx hb d_Md_track_107 (by decide) ?_
                              refine zt_size (fun hzs => ?_)
                              have hP9 := hP.sub (ws' := [(aM, .inr (4, [.int th, .ref aMT, .int (nI mu), .ref aNw, .ref aNx, .int mw_48, .int (nI hw_54k), .int (nI ma_47), .int (nI en), .long mv_50, .int mf_51, .int ml_53])), (aMT, .inl (kMT, 65536, .inl B)), (aNx, .inl (kNx, 52650, .inl nx_52))]) [0, 1, 2] rfl
                              have hD9 := hD.sub (ws' := [(aM, .inr (4, [.int th, .ref aMT, .int (nI mu), .ref aNw, .ref aNx, .int mw_48, .int (nI hw_54k), .int (nI ma_47), .int (nI en), .long mv_50, .int mf_51, .int ml_53])), (aMT, .inl (kMT, 65536, .inl B)), (aNx, .inl (kNx, 52650, .inl nx_52))]) [0, 1, 2] (by decide) rfl
                              exact W.zret (v := 0) hx hb hr rfl (fun t ht hW => ⟨⟨0, (ma_47, mw_48, nI hw_54k, mv_50, mf_51, nx_52, ml_53), rfl, Or.inr ⟨rfl, by omega, _, by simp only [mTrack, mListK, mNumK, zB_ok, zB_er, hw_8a, hw_14a, hw_23a, hw_29a, hw_38a, hw_44a, hw_54a], rfl⟩, by rw [ht]; exact hP9, hD9, by rw [ht]; exact hzs⟩, hS.F ht⟩) hS.2.2 d_Md_track_108
                      ·
                        have e2 := e2.symm; subst e2
                        refine lv_if_eq (tgt := 107) hx hb d_Md_track_83 (by decide) (fun c_94 => ?_) (fun c_94 => ?_)
                        ·
                          refine lv_iconst (v := 0) hx hb d_Md_track_107 (by decide) ?_
                          refine zt_size (fun hzs => ?_)
                          have hP9 := hP.sub (ws' := [(aM, .inr (4, [.int th, .ref aMT, .int (nI mu), .ref aNw, .ref aNx, .int mw_42, .int (nI hw_44k), .int (nI ma_41), .int (nI en), .long mv_35, .int mf_36, .int ml])), (aMT, .inl (kMT, 65536, .inl B)), (aNx, .inl (kNx, 52650, .inl (upd (upd (upd nx (48344 + (134 * kk)) hw_8v) ((48344 + (134 * kk)) + 1) hw_23v) ((48344 + (134 * kk)) + 2) hw_38v)))]) [1, 2, 0] rfl
                          have hD9 := hD.sub (ws' := [(aM, .inr (4, [.int th, .ref aMT, .int (nI mu), .ref aNw, .ref aNx, .int mw_42, .int (nI hw_44k), .int (nI ma_41), .int (nI en), .long mv_35, .int mf_36, .int ml])), (aMT, .inl (kMT, 65536, .inl B)), (aNx, .inl (kNx, 52650, .inl (upd (upd (upd nx (48344 + (134 * kk)) hw_8v) ((48344 + (134 * kk)) + 1) hw_23v) ((48344 + (134 * kk)) + 2) hw_38v)))]) [1, 2, 0] (by decide) rfl
                          exact W.zret (v := 0) hx hb hr rfl (fun t ht hW => ⟨⟨0, (ma_41, mw_42, nI hw_44k, mv_35, mf_36, upd (upd (upd nx (48344 + (134 * kk)) hw_8v) ((48344 + (134 * kk)) + 1) hw_23v) ((48344 + (134 * kk)) + 2) hw_38v, ml), rfl, Or.inr ⟨rfl, by omega, _, by simp only [mTrack, mListK, mNumK, zB_ok, zB_er, hw_8a, hw_14a, hw_23a, hw_29a, hw_38a, hw_44a], rfl⟩, by rw [ht]; exact hP9, hD9, by rw [ht]; exact hzs⟩, hS.F ht⟩) hS.2.2 d_Md_track_108
                        ·
                          exact absurd (by decide) c_94
                  ·
                    have e2 := e2.symm; subst e2
                    refine lv_if_eq (tgt := 107) hx hb d_Md_track_74 (by decide) (fun c_95 => ?_) (fun c_95 => ?_)
                    ·
                      refine lv_iconst (v := 0) hx hb d_Md_track_107 (by decide) ?_
                      refine zt_size (fun hzs => ?_)
                      have hP9 := hP.sub (ws' := [(aM, .inr (4, [.int th, .ref aMT, .int (nI mu), .ref aNw, .ref aNx, .int mw_33, .int (nI hw_38k), .int (nI ma_32), .int (nI en), .long mv_35, .int mf_36, .int ml])), (aMT, .inl (kMT, 65536, .inl B)), (aNx, .inl (kNx, 52650, .inl nx_37))]) [0, 1, 2] rfl
                      have hD9 := hD.sub (ws' := [(aM, .inr (4, [.int th, .ref aMT, .int (nI mu), .ref aNw, .ref aNx, .int mw_33, .int (nI hw_38k), .int (nI ma_32), .int (nI en), .long mv_35, .int mf_36, .int ml])), (aMT, .inl (kMT, 65536, .inl B)), (aNx, .inl (kNx, 52650, .inl nx_37))]) [0, 1, 2] (by decide) rfl
                      exact W.zret (v := 0) hx hb hr rfl (fun t ht hW => ⟨⟨0, (ma_32, mw_33, nI hw_38k, mv_35, mf_36, nx_37, ml), rfl, Or.inr ⟨rfl, by omega, _, by simp only [mTrack, mListK, mNumK, zB_ok, zB_er, hw_8a, hw_14a, hw_23a, hw_29a, hw_38a], rfl⟩, by rw [ht]; exact hP9, hD9, by rw [ht]; exact hzs⟩, hS.F ht⟩) hS.2.2 d_Md_track_108
                    ·
                      exact absurd (by decide) c_95
              ·
                have e2 := e2.symm; subst e2
                refine lv_if_eq (tgt := 107) hx hb d_Md_track_59 (by decide) (fun c_96 => ?_) (fun c_96 => ?_)
                ·
                  refine lv_iconst (v := 0) hx hb d_Md_track_107 (by decide) ?_
                  refine zt_size (fun hzs => ?_)
                  have hP9 := hP.sub (ws' := [(aM, .inr (4, [.int th, .ref aMT, .int (nI mu), .ref aNw, .ref aNx, .int mw_27, .int (nI hw_29k), .int (nI ma_26), .int (nI en), .long mv_20, .int mf_21, .int ml])), (aMT, .inl (kMT, 65536, .inl B)), (aNx, .inl (kNx, 52650, .inl (upd (upd nx (48344 + (134 * kk)) hw_8v) ((48344 + (134 * kk)) + 1) hw_23v)))]) [1, 2, 0] rfl
                  have hD9 := hD.sub (ws' := [(aM, .inr (4, [.int th, .ref aMT, .int (nI mu), .ref aNw, .ref aNx, .int mw_27, .int (nI hw_29k), .int (nI ma_26), .int (nI en), .long mv_20, .int mf_21, .int ml])), (aMT, .inl (kMT, 65536, .inl B)), (aNx, .inl (kNx, 52650, .inl (upd (upd nx (48344 + (134 * kk)) hw_8v) ((48344 + (134 * kk)) + 1) hw_23v)))]) [1, 2, 0] (by decide) rfl
                  exact W.zret (v := 0) hx hb hr rfl (fun t ht hW => ⟨⟨0, (ma_26, mw_27, nI hw_29k, mv_20, mf_21, upd (upd nx (48344 + (134 * kk)) hw_8v) ((48344 + (134 * kk)) + 1) hw_23v, ml), rfl, Or.inr ⟨rfl, by omega, _, by simp only [mTrack, mListK, mNumK, zB_ok, zB_er, hw_8a, hw_14a, hw_23a, hw_29a], rfl⟩, by rw [ht]; exact hP9, hD9, by rw [ht]; exact hzs⟩, hS.F ht⟩) hS.2.2 d_Md_track_108
                ·
                  exact absurd (by decide) c_96
          ·
            have e2 := e2.symm; subst e2
            refine lv_if_eq (tgt := 107) hx hb d_Md_track_50 (by decide) (fun c_97 => ?_) (fun c_97 => ?_)
            ·
              refine lv_iconst (v := 0) hx hb d_Md_track_107 (by decide) ?_
              refine zt_size (fun hzs => ?_)
              have hP9 := hP.sub (ws' := [(aM, .inr (4, [.int th, .ref aMT, .int (nI mu), .ref aNw, .ref aNx, .int mw_18, .int (nI hw_23k), .int (nI ma_17), .int (nI en), .long mv_20, .int mf_21, .int ml])), (aMT, .inl (kMT, 65536, .inl B)), (aNx, .inl (kNx, 52650, .inl nx_22))]) [0, 1, 2] rfl
              have hD9 := hD.sub (ws' := [(aM, .inr (4, [.int th, .ref aMT, .int (nI mu), .ref aNw, .ref aNx, .int mw_18, .int (nI hw_23k), .int (nI ma_17), .int (nI en), .long mv_20, .int mf_21, .int ml])), (aMT, .inl (kMT, 65536, .inl B)), (aNx, .inl (kNx, 52650, .inl nx_22))]) [0, 1, 2] (by decide) rfl
              exact W.zret (v := 0) hx hb hr rfl (fun t ht hW => ⟨⟨0, (ma_17, mw_18, nI hw_23k, mv_20, mf_21, nx_22, ml), rfl, Or.inr ⟨rfl, by omega, _, by simp only [mTrack, mListK, mNumK, zB_ok, zB_er, hw_8a, hw_14a, hw_23a], rfl⟩, by rw [ht]; exact hP9, hD9, by rw [ht]; exact hzs⟩, hS.F ht⟩) hS.2.2 d_Md_track_108
            ·
              exact absurd (by decide) c_97
      ·
        have e2 := e2.symm; subst e2
        refine lv_if_eq (tgt := 107) hx hb d_Md_track_35 (by decide) (fun c_98 => ?_) (fun c_98 => ?_)
        ·
          refine lv_iconst (v := 0) hx hb d_Md_track_107 (by decide) ?_
          refine zt_size (fun hzs => ?_)
          have hP9 := hP.sub (ws' := [(aM, .inr (4, [.int th, .ref aMT, .int (nI mu), .ref aNw, .ref aNx, .int mw_12, .int (nI hw_14k), .int (nI ma_11), .int (nI en), .long mv_5, .int mf_6, .int ml])), (aMT, .inl (kMT, 65536, .inl B)), (aNx, .inl (kNx, 52650, .inl (upd nx (48344 + (134 * kk)) hw_8v)))]) [1, 2, 0] rfl
          have hD9 := hD.sub (ws' := [(aM, .inr (4, [.int th, .ref aMT, .int (nI mu), .ref aNw, .ref aNx, .int mw_12, .int (nI hw_14k), .int (nI ma_11), .int (nI en), .long mv_5, .int mf_6, .int ml])), (aMT, .inl (kMT, 65536, .inl B)), (aNx, .inl (kNx, 52650, .inl (upd nx (48344 + (134 * kk)) hw_8v)))]) [1, 2, 0] (by decide) rfl
          exact W.zret (v := 0) hx hb hr rfl (fun t ht hW => ⟨⟨0, (ma_11, mw_12, nI hw_14k, mv_5, mf_6, upd nx (48344 + (134 * kk)) hw_8v, ml), rfl, Or.inr ⟨rfl, by omega, _, by simp only [mTrack, mListK, mNumK, zB_ok, zB_er, hw_8a, hw_14a], rfl⟩, by rw [ht]; exact hP9, hD9, by rw [ht]; exact hzs⟩, hS.F ht⟩) hS.2.2 d_Md_track_108
        ·
          exact absurd (by decide) c_98
  ·
    have e2 := e2.symm; subst e2
    refine lv_if_eq (tgt := 107) hx hb d_Md_track_26 (by decide) (fun c_99 => ?_) (fun c_99 => ?_)
    ·
      refine lv_iconst (v := 0) hx hb d_Md_track_107 (by decide) ?_
      refine zt_size (fun hzs => ?_)
      have hP9 := hP.sub (ws' := [(aM, .inr (4, [.int th, .ref aMT, .int (nI mu), .ref aNw, .ref aNx, .int mw_3, .int (nI hw_8k), .int (nI ma_2), .int (nI en), .long mv_5, .int mf_6, .int ml])), (aMT, .inl (kMT, 65536, .inl B)), (aNx, .inl (kNx, 52650, .inl nx_7))]) [0, 1, 2] rfl
      have hD9 := hD.sub (ws' := [(aM, .inr (4, [.int th, .ref aMT, .int (nI mu), .ref aNw, .ref aNx, .int mw_3, .int (nI hw_8k), .int (nI ma_2), .int (nI en), .long mv_5, .int mf_6, .int ml])), (aMT, .inl (kMT, 65536, .inl B)), (aNx, .inl (kNx, 52650, .inl nx_7))]) [0, 1, 2] (by decide) rfl
      exact W.zret (v := 0) hx hb hr rfl (fun t ht hW => ⟨⟨0, (ma_2, mw_3, nI hw_8k, mv_5, mf_6, nx_7, ml), rfl, Or.inr ⟨rfl, by omega, _, by simp only [mTrack, mListK, mNumK, zB_ok, zB_er, hw_8a], rfl⟩, by rw [ht]; exact hP9, hD9, by rw [ht]; exact hzs⟩, hS.F ht⟩) hS.2.2 d_Md_track_108
    ·
      exact absurd (by decide) c_99
