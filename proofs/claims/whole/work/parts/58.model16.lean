set_option maxHeartbeats 4000000 in
set_option maxRecDepth 100000 in
theorem c_Md_texture (l : Launch) (G : ZG) (dC : Nat → ClassId) (dI : Nat → Nat → Nat) (sz : Nat) (aM : Nat) (th : Int32) (aMT : Nat) (mu : Nat) (aNw : Nat) (aNx : Nat) (mw : Int32) (mwa : Int32) (ma : Nat) (en : Nat) (mv : Int64) (mf : Int32) (ml : Int32) (kMT : ClassId) (B : Nat → Int32) (kNx : ClassId) (nx : Nat → Int32) (kk : Nat) (hen : en ≤ 65536) (hma : ma ≤ en) (hkk : kk < 8) : Met l y_Md_texture w_Md_texture ({ frames := 5, cells := 0, slots := 0, locals := 115 }) (va_Pc [.ref aM, .int (nI kk)] (PW G (dC, dI) [(kMT, .byte), (kNx, .int)] [(aM, .inr (4, [.int th, .ref aMT, .int (nI mu), .ref aNw, .ref aNx, .int mw, .int mwa, .int (nI ma), .int (nI en), .long mv, .int mf, .int ml])), (aMT, .inl (kMT, 65536, .inl B)), (aNx, .inl (kNx, 52650, .inl nx))] sz)) (va_Qi (fun (r : Int32) (uu : Nat × Int32 × Int32 × Int64 × Int32 × (Nat → Int32) × Int32) => (r = 1 ∧ uu.1 ≤ en ∧ uu.2.1 = mw ∧ uu.2.2.1 = mwa ∧ mTexture B en kk (zK B en ma, nx) = .ok (zK B en uu.1, uu.2.2.2.2.2.1)) ∨ (r = 0 ∧ uu.1 ≤ en ∧ ∃ k, mTexture B en kk (zK B en ma, nx) = .error (uu.2.1, k) ∧ uu.2.2.1 = nI k)) (fun (uu : Nat × Int32 × Int32 × Int64 × Int32 × (Nat → Int32) × Int32) t => BW (dC, dI) [(aM, .inr (4, [.int th, .ref aMT, .int (nI mu), .ref aNw, .ref aNx, .int uu.2.1, .int uu.2.2.1, .int (nI uu.1), .int (nI en), .long uu.2.2.2.1, .int uu.2.2.2.2.1, .int uu.2.2.2.2.2.2])), (aMT, .inl (kMT, 65536, .inl B)), (aNx, .inl (kNx, 52650, .inl uu.2.2.2.2.2.1))] (va_A [(aM, .inr (4, [.int th, .ref aMT, .int (nI mu), .ref aNw, .ref aNx, .int mw, .int mwa, .int (nI ma), .int (nI en), .long mv, .int mf, .int ml])), (aMT, .inl (kMT, 65536, .inl B)), (aNx, .inl (kNx, 52650, .inl nx))] sz) sz t) (va_A [(aM, .inr (4, [.int th, .ref aMT, .int (nI mu), .ref aNw, .ref aNx, .int mw, .int mwa, .int (nI ma), .int (nI en), .long mv, .int mf, .int ml])), (aMT, .inl (kMT, 65536, .inl B)), (aNx, .inl (kNx, 52650, .inl nx))] sz)) 0 0 (va_A [(aM, .inr (4, [.int th, .ref aMT, .int (nI mu), .ref aNw, .ref aNx, .int mw, .int mwa, .int (nI ma), .int (nI en), .long mv, .int mf, .int ml])), (aMT, .inl (kMT, 65536, .inl B)), (aNx, .inl (kNx, 52650, .inl nx))] sz) := by
  refine Met.ofW (cc := prog_6_method_20_code) (maxL := 5) (ret := (some .boolean)) (by decide) rfl ?_
  intro p e s m args below meth c s₁ Bd hml hv
  obtain ⟨rfl, hsz, hP, hK, hD0, hE⟩ := hv
  have hx := Bd.exec
  have hb := Bd.bytes
  have hr := Bd.returns
  have hts := atoms_spec (ws := w_Md_texture) Bd.pre
  have hown : s.vm.findClass R_Md = some m.cls := findClass_of_methodNamed Bd.named
  have hlocks := Bd.notSynchronized
  have hz : ∀ w ∈ ZW, w.before _ s = true := fun w h => hts w (List.mem_cons_of_mem _ h)
  subst hsz
  have hD := hD0.self (sz := s.heap.size)
  generalize hAe : va_A [(aM, .inr (4, [.int th, .ref aMT, .int (nI mu), .ref aNw, .ref aNx, .int mw, .int mwa, .int (nI ma), .int (nI en), .long mv, .int mf, .int ml])), (aMT, .inl (kMT, 65536, .inl B)), (aNx, .inl (kNx, 52650, .inl nx))] s.heap.size = A at hD hE ⊢
  have hA : ∀ q : Nat, s.heap.size ≤ q → A q := fun q h => by rw [← hAe]; exact Or.inr h
  have hS : va_S A s.heap s.heap [] := va_S.rf
  have hl := lv_entry ([.ref aM, .int (nI kk)]) (n := 5) (Nat.le_of_ble_eq_true rfl)
  rw [lg_entry_eq]
  generalize (lg_sl ([.ref aM, .int (nI kk)]) ++ List.replicate (5 - (lg_sl ([.ref aM, .int (nI kk)])).length) Slot.unset).toArray = ls at hl ⊢
  have hl : lv_has ls 5 [(0, .ref aM), (1, .int (nI kk))] := hl
  obtain ⟨H, hH⟩ : ∃ z, z = s.heap := ⟨_, rfl⟩
  have hP : va_P (dC, dI) vwCl [(aM, .inr (4, [.int th, .ref aMT, .int (nI mu), .ref aNw, .ref aNx, .int mw, .int mwa, .int (nI ma), .int (nI en), .long mv, .int mf, .int ml])), (aMT, .inl (kMT, 65536, .inl B)), (aNx, .inl (kNx, 52650, .inl nx))] H := by rw [hH]; exact hP
  have hS : va_S A s.heap H [] := by rw [hH]; exact hS
  refine zt_heap hH ?_
  refine lv_bipush (v := 8) hx hb d_Md_texture_0 (by decide) ?_
  refine lv_sipush (v := 3080) hx hb d_Md_texture_2 (by decide) ?_
  refine lv_iload_n hx hb d_Md_texture_5 rfl (lv_at hl 1 rfl) ?_
  refine lv_imul hx hb d_Md_texture_6 ?_
  refine zt_top (pk_mul 3080 kk) ?_
  refine lv_iadd hx hb d_Md_texture_7 ?_
  refine zt_top (nI_add 8 (3080 * kk)) ?_
  refine lv_istore_n (lv' := [(2, .int (nI (8 + (3080 * kk)))), (0, .ref aM), (1, .int (nI kk))]) hx hb d_Md_texture_8 rfl hl (by decide) rfl (fun ls hl => ?_)
  refine lv_aload_n hx hb d_Md_texture_9 rfl (lv_at hl 1 rfl) ?_
  refine lv_ldc2 (v := zWv 13) hx hb hown (hz _ tw_638) d_Md_texture_10 ?_
  refine lv_iload_n hx hb d_Md_texture_13 rfl (lv_at hl 0 rfl) ?_
  refine lv_iconst (v := 1) hx hb d_Md_texture_14 (by decide) ?_
  refine lv_bipush (v := 32) hx hb d_Md_texture_15 (by decide) ?_
  have hPc := hP.sub (ws' := [(aM, .inr (4, [.int th, .ref aMT, .int (nI mu), .ref aNw, .ref aNx, .int mw, .int mwa, .int (nI ma), .int (nI en), .long mv, .int mf, .int ml])), (aMT, .inl (kMT, 65536, .inl B)), (aNx, .inl (kNx, 52650, .inl nx))]) [0, 1, 2] rfl
  have hDc := hD.sub (ws' := [(aM, .inr (4, [.int th, .ref aMT, .int (nI mu), .ref aNw, .ref aNx, .int mw, .int mwa, .int (nI ma), .int (nI en), .long mv, .int mf, .int ml])), (aMT, .inl (kMT, 65536, .inl B)), (aNx, .inl (kNx, 52650, .inl nx))]) [0, 1, 2] (by decide) rfl
  have hKc := hK.sub (tys' := [(kMT, .byte), (kNx, .int)]) [0, 1] rfl
  have hFc := va_free (wc := [(aM, .inr (4, [.int th, .ref aMT, .int (nI mu), .ref aNw, .ref aNx, .int mw, .int mwa, .int (nI ma), .int (nI en), .long mv, .int mf, .int ml])), (aMT, .inl (kMT, 65536, .inl B)), (aNx, .inl (kNx, 52650, .inl nx))]) hD hS hA [0, 1, 2] rfl
  refine va_calli (va_runV (As := [.long (zWv 13), .int (nI (8 + (3080 * kk))), .int 1, .int 32]) (rest := []) ⟨hx, hb, hml, hown, hts⟩ (c_Md_namedF l G dC dI H.size aM th aMT mu aNw aNx mw mwa ma en mv mf ml kMT B kNx nx 13 (8 + (3080 * kk)) 1 32 (by omega) (by omega) (by decide) (by decide) (zSb_len _) (by omega) (by decide) (by decide) (by decide) (by decide)) (cwV 4 hts (gV tw_611 tw_613 ts_33 tw_5 tw_614 rfl) rfl rfl rfl (by decide +kernel) ⟨Nat.le_of_ble_eq_true rfl, Nat.le_of_ble_eq_true rfl⟩) (PW_preV hPc hKc hDc hE hS hFc (ci := 4) (q0 := 0) rfl rfl) rfl rfl hl.1 rfl (lv_room (Nat.le_of_ble_eq_true rfl)) d_Md_texture_17 ⟨Nat.le_of_ble_eq_true rfl, Nat.le_of_ble_eq_true rfl⟩) hS (fun q _ h => hFc q h) hFc (fun r_1 uu t H1 locs ht hvm hw_8 hB hz1 hk1 hS => ?_)
  obtain ⟨ma_2, mw_3, mwa_4, mv_5, mf_6, nx_7⟩ := uu
  obtain ⟨hP1, hD1, hsz1⟩ := hB
  rw [ht] at hP1 hsz1
  obtain ⟨hP, hD⟩ := va_join (wr := []) (w1 := [(aM, .inr (4, [.int th, .ref aMT, .int (nI mu), .ref aNw, .ref aNx, .int mw_3, .int mwa_4, .int (nI ma_2), .int (nI en), .long mv_5, .int mf_6, .int ml])), (aMT, .inl (kMT, 65536, .inl B)), (aNx, .inl (kNx, 52650, .inl nx_7))]) hP hD [0, 1, 2] [] rfl rfl (by decide) (by decide) hk1 hFc hP1 hD1
  generalize H1 = H at hP hS ⊢
  have hP : va_P (dC, dI) vwCl [(aM, .inr (4, [.int th, .ref aMT, .int (nI mu), .ref aNw, .ref aNx, .int mw_3, .int mwa_4, .int (nI ma_2), .int (nI en), .long mv_5, .int mf_6, .int ml])), (aMT, .inl (kMT, 65536, .inl B)), (aNx, .inl (kNx, 52650, .inl nx_7))] H := hP
  have hD : va_D A [(aM, .inr (4, [.int th, .ref aMT, .int (nI mu), .ref aNw, .ref aNx, .int mw_3, .int mwa_4, .int (nI ma_2), .int (nI en), .long mv_5, .int mf_6, .int ml])), (aMT, .inl (kMT, 65536, .inl B)), (aNx, .inl (kNx, 52650, .inl nx_7))] := hD
  rcases hw_8 with ⟨rfl, hw_8b, e1, e2, hw_8v, hw_8a, e3, e4⟩ | ⟨rfl, hw_8b, hw_8k, hw_8a, e2⟩
  ·
    have e1 := e1.symm; subst e1
    have e2 := e2.symm; subst e2
    have e3 := e3.symm; subst e3
    obtain ⟨h9, hk9, e4⟩ := e4
    have e4 := e4.symm; subst e4
    rw [hk9, zB_ok] at hw_8a
    have hlm := zRNum_lim hw_8a
    obtain ⟨sd, hsd1, hsd, rfl⟩ := zside hlm.1 hlm.2
    have hsq := zsq hsd
    refine lv_if_ne (tgt := 25) hx hb d_Md_texture_20 (by decide) (fun c_9 => ?_) (fun c_9 => ?_)
    ·
      refine lv_aload_n hx hb d_Md_texture_25 rfl (lv_at hl 1 rfl) ?_
      refine va_get (D := (dC, dI)) (ci := 4) (v := .ref aNx) (C := R_Md) (T := F_Md) (N := 12) hx hb hz i_Md hown hK hP 0 rfl rfl 4 (by decide) (hz _ tw_480) (fun _ h9 => h9) rfl d_Md_texture_26 ?_
      refine lv_iload_n hx hb d_Md_texture_29 rfl (lv_at hl 0 rfl) ?_
      refine va_iald (D := (dC, dI)) (i := nI (8 + (3080 * kk))) hx hb hK hP 2 1 rfl rfl (vp_in_nI (by omega) (by decide)) d_Md_texture_30 ?_
      refine zt_top (by rw [nI_clamp (by omega)]) ?_
      refine zt_top (y := nI sd) (pk_us) ?_
      refine lv_istore_n (lv' := [(3, .int (nI sd)), (2, .int (nI (8 + (3080 * kk)))), (0, .ref aM), (1, .int (nI kk))]) hx hb d_Md_texture_31 rfl hl (by decide) rfl (fun ls hl => ?_)
      refine lv_iload_n hx hb d_Md_texture_32 rfl (lv_at hl 0 rfl) ?_
      refine lv_iconst (v := 1) hx hb d_Md_texture_33 (by decide) ?_
      refine lv_icmp_eq (tgt := 75) hx hb d_Md_texture_34 (by decide) (fun c_10 => ?_) (fun c_10 => ?_)
      ·
        have c_10 : sd = 1 := (@nI_eq sd 1 (by omega) (by omega)).mp c_10
        refine lv_iconst (v := 3) hx hb d_Md_texture_75 (by decide) ?_
        refine lv_iload_n hx hb d_Md_texture_76 rfl (lv_at hl 0 rfl) ?_
        refine lv_imul hx hb d_Md_texture_77 ?_
        refine zt_top (pk_mul 3 sd) ?_
        refine lv_iload_n hx hb d_Md_texture_78 rfl (lv_at hl 0 rfl) ?_
        refine lv_imul hx hb d_Md_texture_79 ?_
        refine zt_top (pk_mul (3 * sd) sd) ?_
        refine lv_istore (lv' := [(4, .int (nI ((3 * sd) * sd))), (3, .int (nI sd)), (2, .int (nI (8 + (3080 * kk)))), (0, .ref aM), (1, .int (nI kk))]) hx hb d_Md_texture_80 hl (by decide) rfl (fun ls hl => ?_)
        refine lv_aload_n hx hb d_Md_texture_82 rfl (lv_at hl 3 rfl) ?_
        refine lv_bipush (v := 44) hx hb d_Md_texture_83 (by decide) ?_
        have hPc := hP.sub (ws' := [(aM, .inr (4, [.int th, .ref aMT, .int (nI mu), .ref aNw, .ref aNx, .int mw, .int mwa, .int (nI ma_2), .int (nI en), .long mv_5, .int (nI h9), .int ml])), (aMT, .inl (kMT, 65536, .inl B))]) [0, 1] rfl
        have hDc := hD.sub (ws' := [(aM, .inr (4, [.int th, .ref aMT, .int (nI mu), .ref aNw, .ref aNx, .int mw, .int mwa, .int (nI ma_2), .int (nI en), .long mv_5, .int (nI h9), .int ml])), (aMT, .inl (kMT, 65536, .inl B))]) [0, 1] (by decide) rfl
        have hKc := hK.sub (tys' := [(kMT, .byte)]) [0] rfl
        have hFc := va_free (wc := [(aM, .inr (4, [.int th, .ref aMT, .int (nI mu), .ref aNw, .ref aNx, .int mw, .int mwa, .int (nI ma_2), .int (nI en), .long mv_5, .int (nI h9), .int ml])), (aMT, .inl (kMT, 65536, .inl B))]) hD hS hA [0, 1] rfl
        refine va_calli (va_runV (As := [.int 44]) (rest := []) ⟨hx, hb, hml, hown, hts⟩ (c_Md_sign l G dC dI H.size aM th aMT mu aNw aNx mw mwa ma_2 en mv_5 (nI h9) ml kMT B 44 (by omega) (by omega)) (cwV 1 hts (gV tw_537 tw_539 ts_20 tw_5 tw_540 rfl) rfl rfl rfl (by decide +kernel) ⟨Nat.le_of_ble_eq_true rfl, Nat.le_of_ble_eq_true rfl⟩) (PW_preV hPc hKc hDc hE hS hFc (ci := 4) (q0 := 0) rfl rfl) rfl rfl hl.1 rfl (lv_room (Nat.le_of_ble_eq_true rfl)) d_Md_texture_85 ⟨Nat.le_of_ble_eq_true rfl, Nat.le_of_ble_eq_true rfl⟩) hS (fun q _ h => hFc q h) hFc (fun r_11 uu t H1 locs ht hvm hw_15 hB hz1 hk1 hS => ?_)
        obtain ⟨ma_12, mw_13, mwa_14⟩ := uu
        obtain ⟨hP1, hD1, hsz1⟩ := hB
        rw [ht] at hP1 hsz1
        obtain ⟨hP, hD⟩ := va_join (wr := [(aNx, .inl (kNx, 52650, .inl (upd nx (8 + (3080 * kk)) (nI sd))))]) (w1 := [(aM, .inr (4, [.int th, .ref aMT, .int (nI mu), .ref aNw, .ref aNx, .int mw_13, .int mwa_14, .int (nI ma_12), .int (nI en), .long mv_5, .int (nI h9), .int ml])), (aMT, .inl (kMT, 65536, .inl B))]) hP hD [0, 1] [2] rfl rfl (by decide) (by decide) hk1 hFc hP1 hD1
        generalize H1 = H at hP hS ⊢
        have hP : va_P (dC, dI) vwCl [(aNx, .inl (kNx, 52650, .inl (upd nx (8 + (3080 * kk)) (nI sd)))), (aM, .inr (4, [.int th, .ref aMT, .int (nI mu), .ref aNw, .ref aNx, .int mw_13, .int mwa_14, .int (nI ma_12), .int (nI en), .long mv_5, .int (nI h9), .int ml])), (aMT, .inl (kMT, 65536, .inl B))] H := hP
        have hD : va_D A [(aNx, .inl (kNx, 52650, .inl (upd nx (8 + (3080 * kk)) (nI sd)))), (aM, .inr (4, [.int th, .ref aMT, .int (nI mu), .ref aNw, .ref aNx, .int mw_13, .int mwa_14, .int (nI ma_12), .int (nI en), .long mv_5, .int (nI h9), .int ml])), (aMT, .inl (kMT, 65536, .inl B))] := hD
        rcases hw_15 with ⟨rfl, hw_15a, hw_15b, e1, e2⟩ | ⟨rfl, hw_15b, hw_15k, hw_15a, e2⟩
        ·
          have e1 := e1.symm; subst e1
          have e2 := e2.symm; subst e2
          refine lv_if_eq (tgt := 167) hx hb d_Md_texture_88 (by decide) (fun c_16 => ?_) (fun c_16 => ?_)
          ·
            exact absurd c_16 (by decide)
          ·
            refine lv_aload_n hx hb d_Md_texture_91 rfl (lv_at hl 3 rfl) ?_
            refine lv_ldc2 (v := zWv 14) hx hb hown (hz _ tw_639) d_Md_texture_92 ?_
            refine lv_iload_n hx hb d_Md_texture_95 rfl (lv_at hl 2 rfl) ?_
            refine lv_iconst (v := 1) hx hb d_Md_texture_96 (by decide) ?_
            refine lv_iadd hx hb d_Md_texture_97 ?_
            refine zt_top (nI_add (8 + (3080 * kk)) 1) ?_
            refine lv_iconst (v := 0) hx hb d_Md_texture_98 (by decide) ?_
            refine lv_iconst (v := 2) hx hb d_Md_texture_99 (by decide) ?_
            have hPc := hP.sub (ws' := [(aM, .inr (4, [.int th, .ref aMT, .int (nI mu), .ref aNw, .ref aNx, .int mw, .int mwa, .int (nI ma_12), .int (nI en), .long mv_5, .int (nI h9), .int ml])), (aMT, .inl (kMT, 65536, .inl B)), (aNx, .inl (kNx, 52650, .inl (upd nx (8 + (3080 * kk)) (nI sd))))]) [1, 2, 0] rfl
            have hDc := hD.sub (ws' := [(aM, .inr (4, [.int th, .ref aMT, .int (nI mu), .ref aNw, .ref aNx, .int mw, .int mwa, .int (nI ma_12), .int (nI en), .long mv_5, .int (nI h9), .int ml])), (aMT, .inl (kMT, 65536, .inl B)), (aNx, .inl (kNx, 52650, .inl (upd nx (8 + (3080 * kk)) (nI sd))))]) [1, 2, 0] (by decide) rfl
            have hKc := hK.sub (tys' := [(kMT, .byte), (kNx, .int)]) [0, 1] rfl
            have hFc := va_free (wc := [(aM, .inr (4, [.int th, .ref aMT, .int (nI mu), .ref aNw, .ref aNx, .int mw, .int mwa, .int (nI ma_12), .int (nI en), .long mv_5, .int (nI h9), .int ml])), (aMT, .inl (kMT, 65536, .inl B)), (aNx, .inl (kNx, 52650, .inl (upd nx (8 + (3080 * kk)) (nI sd))))]) hD hS hA [1, 2, 0] rfl
            refine va_calli (va_runV (As := [.long (zWv 14), .int (nI ((8 + (3080 * kk)) + 1)), .int 0, .int 2]) (rest := []) ⟨hx, hb, hml, hown, hts⟩ (c_Md_named l G dC dI H.size aM th aMT mu aNw aNx mw mwa ma_12 en mv_5 (nI h9) ml kMT B kNx (upd nx (8 + (3080 * kk)) (nI sd)) 14 ((8 + (3080 * kk)) + 1) 0 2 (by omega) (by omega) (by decide) (by decide) (zSb_len _) (by omega) (by decide) (by decide) (by decide) (by decide)) (cwV 4 hts (gV tw_611 tw_613 ts_33 tw_5 tw_614 rfl) rfl rfl rfl (by decide +kernel) ⟨Nat.le_of_ble_eq_true rfl, Nat.le_of_ble_eq_true rfl⟩) (PW_preV hPc hKc hDc hE hS hFc (ci := 4) (q0 := 0) rfl rfl) rfl rfl hl.1 rfl (lv_room (Nat.le_of_ble_eq_true rfl)) d_Md_texture_100 ⟨Nat.le_of_ble_eq_true rfl, Nat.le_of_ble_eq_true rfl⟩) hS (fun q _ h => hFc q h) hFc (fun r_17 uu t H1 locs ht hvm hw_24 hB hz1 hk1 hS => ?_)
            obtain ⟨ma_18, mw_19, mwa_20, mv_21, mf_22, nx_23⟩ := uu
            obtain ⟨hP1, hD1, hsz1⟩ := hB
            rw [ht] at hP1 hsz1
            obtain ⟨hP, hD⟩ := va_join (wr := []) (w1 := [(aM, .inr (4, [.int th, .ref aMT, .int (nI mu), .ref aNw, .ref aNx, .int mw_19, .int mwa_20, .int (nI ma_18), .int (nI en), .long mv_21, .int mf_22, .int ml])), (aMT, .inl (kMT, 65536, .inl B)), (aNx, .inl (kNx, 52650, .inl nx_23))]) hP hD [1, 2, 0] [] rfl rfl (by decide) (by decide) hk1 hFc hP1 hD1
            generalize H1 = H at hP hS ⊢
            have hP : va_P (dC, dI) vwCl [(aM, .inr (4, [.int th, .ref aMT, .int (nI mu), .ref aNw, .ref aNx, .int mw_19, .int mwa_20, .int (nI ma_18), .int (nI en), .long mv_21, .int mf_22, .int ml])), (aMT, .inl (kMT, 65536, .inl B)), (aNx, .inl (kNx, 52650, .inl nx_23))] H := hP
            have hD : va_D A [(aM, .inr (4, [.int th, .ref aMT, .int (nI mu), .ref aNw, .ref aNx, .int mw_19, .int mwa_20, .int (nI ma_18), .int (nI en), .long mv_21, .int mf_22, .int ml])), (aMT, .inl (kMT, 65536, .inl B)), (aNx, .inl (kNx, 52650, .inl nx_23))] := hD
            rcases hw_24 with ⟨rfl, hw_24b, e1, e2, hw_24v, hw_24a, e3⟩ | ⟨rfl, hw_24b, hw_24k, hw_24a, e2⟩
            ·
              have e1 := e1.symm; subst e1
              have e2 := e2.symm; subst e2
              have e3 := e3.symm; subst e3
              refine lv_if_eq (tgt := 167) hx hb d_Md_texture_103 (by decide) (fun c_25 => ?_) (fun c_25 => ?_)
              ·
                exact absurd c_25 (by decide)
              ·
                refine lv_aload_n hx hb d_Md_texture_106 rfl (lv_at hl 3 rfl) ?_
                refine lv_bipush (v := 44) hx hb d_Md_texture_107 (by decide) ?_
                have hPc := hP.sub (ws' := [(aM, .inr (4, [.int th, .ref aMT, .int (nI mu), .ref aNw, .ref aNx, .int mw, .int mwa, .int (nI ma_18), .int (nI en), .long mv_21, .int mf_22, .int ml])), (aMT, .inl (kMT, 65536, .inl B))]) [0, 1] rfl
                have hDc := hD.sub (ws' := [(aM, .inr (4, [.int th, .ref aMT, .int (nI mu), .ref aNw, .ref aNx, .int mw, .int mwa, .int (nI ma_18), .int (nI en), .long mv_21, .int mf_22, .int ml])), (aMT, .inl (kMT, 65536, .inl B))]) [0, 1] (by decide) rfl
                have hKc := hK.sub (tys' := [(kMT, .byte)]) [0] rfl
                have hFc := va_free (wc := [(aM, .inr (4, [.int th, .ref aMT, .int (nI mu), .ref aNw, .ref aNx, .int mw, .int mwa, .int (nI ma_18), .int (nI en), .long mv_21, .int mf_22, .int ml])), (aMT, .inl (kMT, 65536, .inl B))]) hD hS hA [0, 1] rfl
                refine va_calli (va_runV (As := [.int 44]) (rest := []) ⟨hx, hb, hml, hown, hts⟩ (c_Md_sign l G dC dI H.size aM th aMT mu aNw aNx mw mwa ma_18 en mv_21 mf_22 ml kMT B 44 (by omega) (by omega)) (cwV 1 hts (gV tw_537 tw_539 ts_20 tw_5 tw_540 rfl) rfl rfl rfl (by decide +kernel) ⟨Nat.le_of_ble_eq_true rfl, Nat.le_of_ble_eq_true rfl⟩) (PW_preV hPc hKc hDc hE hS hFc (ci := 4) (q0 := 0) rfl rfl) rfl rfl hl.1 rfl (lv_room (Nat.le_of_ble_eq_true rfl)) d_Md_texture_109 ⟨Nat.le_of_ble_eq_true rfl, Nat.le_of_ble_eq_true rfl⟩) hS (fun q _ h => hFc q h) hFc (fun r_26 uu t H1 locs ht hvm hw_30 hB hz1 hk1 hS => ?_)
                obtain ⟨ma_27, mw_28, mwa_29⟩ := uu
                obtain ⟨hP1, hD1, hsz1⟩ := hB
                rw [ht] at hP1 hsz1
                obtain ⟨hP, hD⟩ := va_join (wr := [(aNx, .inl (kNx, 52650, .inl (upd (upd nx (8 + (3080 * kk)) (nI sd)) ((8 + (3080 * kk)) + 1) hw_24v)))]) (w1 := [(aM, .inr (4, [.int th, .ref aMT, .int (nI mu), .ref aNw, .ref aNx, .int mw_28, .int mwa_29, .int (nI ma_27), .int (nI en), .long mv_21, .int mf_22, .int ml])), (aMT, .inl (kMT, 65536, .inl B))]) hP hD [0, 1] [2] rfl rfl (by decide) (by decide) hk1 hFc hP1 hD1
                generalize H1 = H at hP hS ⊢
                have hP : va_P (dC, dI) vwCl [(aNx, .inl (kNx, 52650, .inl (upd (upd nx (8 + (3080 * kk)) (nI sd)) ((8 + (3080 * kk)) + 1) hw_24v))), (aM, .inr (4, [.int th, .ref aMT, .int (nI mu), .ref aNw, .ref aNx, .int mw_28, .int mwa_29, .int (nI ma_27), .int (nI en), .long mv_21, .int mf_22, .int ml])), (aMT, .inl (kMT, 65536, .inl B))] H := hP
                have hD : va_D A [(aNx, .inl (kNx, 52650, .inl (upd (upd nx (8 + (3080 * kk)) (nI sd)) ((8 + (3080 * kk)) + 1) hw_24v))), (aM, .inr (4, [.int th, .ref aMT, .int (nI mu), .ref aNw, .ref aNx, .int mw_28, .int mwa_29, .int (nI ma_27), .int (nI en), .long mv_21, .int mf_22, .int ml])), (aMT, .inl (kMT, 65536, .inl B))] := hD
                rcases hw_30 with ⟨rfl, hw_30a, hw_30b, e1, e2⟩ | ⟨rfl, hw_30b, hw_30k, hw_30a, e2⟩
                ·
                  have e1 := e1.symm; subst e1
                  have e2 := e2.symm; subst e2
                  refine lv_if_eq (tgt := 167) hx hb d_Md_texture_112 (by decide) (fun c_31 => ?_) (fun c_31 => ?_)
                  ·
                    exact absurd c_31 (by decide)
                  ·
                    refine lv_aload_n hx hb d_Md_texture_115 rfl (lv_at hl 3 rfl) ?_
                    refine lv_ldc2 (v := zWv 15) hx hb hown (hz _ tw_640) d_Md_texture_116 ?_
                    refine lv_iload_n hx hb d_Md_texture_119 rfl (lv_at hl 2 rfl) ?_
                    refine lv_iconst (v := 2) hx hb d_Md_texture_120 (by decide) ?_
                    refine lv_iadd hx hb d_Md_texture_121 ?_
                    refine zt_top (nI_add (8 + (3080 * kk)) 2) ?_
                    refine lv_iconst (v := 0) hx hb d_Md_texture_122 (by decide) ?_
                    refine lv_iconst (v := 1) hx hb d_Md_texture_123 (by decide) ?_
                    have hPc := hP.sub (ws' := [(aM, .inr (4, [.int th, .ref aMT, .int (nI mu), .ref aNw, .ref aNx, .int mw, .int mwa, .int (nI ma_27), .int (nI en), .long mv_21, .int mf_22, .int ml])), (aMT, .inl (kMT, 65536, .inl B)), (aNx, .inl (kNx, 52650, .inl (upd (upd nx (8 + (3080 * kk)) (nI sd)) ((8 + (3080 * kk)) + 1) hw_24v)))]) [1, 2, 0] rfl
                    have hDc := hD.sub (ws' := [(aM, .inr (4, [.int th, .ref aMT, .int (nI mu), .ref aNw, .ref aNx, .int mw, .int mwa, .int (nI ma_27), .int (nI en), .long mv_21, .int mf_22, .int ml])), (aMT, .inl (kMT, 65536, .inl B)), (aNx, .inl (kNx, 52650, .inl (upd (upd nx (8 + (3080 * kk)) (nI sd)) ((8 + (3080 * kk)) + 1) hw_24v)))]) [1, 2, 0] (by decide) rfl
                    have hKc := hK.sub (tys' := [(kMT, .byte), (kNx, .int)]) [0, 1] rfl
                    have hFc := va_free (wc := [(aM, .inr (4, [.int th, .ref aMT, .int (nI mu), .ref aNw, .ref aNx, .int mw, .int mwa, .int (nI ma_27), .int (nI en), .long mv_21, .int mf_22, .int ml])), (aMT, .inl (kMT, 65536, .inl B)), (aNx, .inl (kNx, 52650, .inl (upd (upd nx (8 + (3080 * kk)) (nI sd)) ((8 + (3080 * kk)) + 1) hw_24v)))]) hD hS hA [1, 2, 0] rfl
                    refine va_calli (va_runV (As := [.long (zWv 15), .int (nI ((8 + (3080 * kk)) + 2)), .int 0, .int 1]) (rest := []) ⟨hx, hb, hml, hown, hts⟩ (c_Md_named l G dC dI H.size aM th aMT mu aNw aNx mw mwa ma_27 en mv_21 mf_22 ml kMT B kNx (upd (upd nx (8 + (3080 * kk)) (nI sd)) ((8 + (3080 * kk)) + 1) hw_24v) 15 ((8 + (3080 * kk)) + 2) 0 1 (by omega) (by omega) (by decide) (by decide) (zSb_len _) (by omega) (by decide) (by decide) (by decide) (by decide)) (cwV 4 hts (gV tw_611 tw_613 ts_33 tw_5 tw_614 rfl) rfl rfl rfl (by decide +kernel) ⟨Nat.le_of_ble_eq_true rfl, Nat.le_of_ble_eq_true rfl⟩) (PW_preV hPc hKc hDc hE hS hFc (ci := 4) (q0 := 0) rfl rfl) rfl rfl hl.1 rfl (lv_room (Nat.le_of_ble_eq_true rfl)) d_Md_texture_124 ⟨Nat.le_of_ble_eq_true rfl, Nat.le_of_ble_eq_true rfl⟩) hS (fun q _ h => hFc q h) hFc (fun r_32 uu t H1 locs ht hvm hw_39 hB hz1 hk1 hS => ?_)
                    obtain ⟨ma_33, mw_34, mwa_35, mv_36, mf_37, nx_38⟩ := uu
                    obtain ⟨hP1, hD1, hsz1⟩ := hB
                    rw [ht] at hP1 hsz1
                    obtain ⟨hP, hD⟩ := va_join (wr := []) (w1 := [(aM, .inr (4, [.int th, .ref aMT, .int (nI mu), .ref aNw, .ref aNx, .int mw_34, .int mwa_35, .int (nI ma_33), .int (nI en), .long mv_36, .int mf_37, .int ml])), (aMT, .inl (kMT, 65536, .inl B)), (aNx, .inl (kNx, 52650, .inl nx_38))]) hP hD [1, 2, 0] [] rfl rfl (by decide) (by decide) hk1 hFc hP1 hD1
                    generalize H1 = H at hP hS ⊢
                    have hP : va_P (dC, dI) vwCl [(aM, .inr (4, [.int th, .ref aMT, .int (nI mu), .ref aNw, .ref aNx, .int mw_34, .int mwa_35, .int (nI ma_33), .int (nI en), .long mv_36, .int mf_37, .int ml])), (aMT, .inl (kMT, 65536, .inl B)), (aNx, .inl (kNx, 52650, .inl nx_38))] H := hP
                    have hD : va_D A [(aM, .inr (4, [.int th, .ref aMT, .int (nI mu), .ref aNw, .ref aNx, .int mw_34, .int mwa_35, .int (nI ma_33), .int (nI en), .long mv_36, .int mf_37, .int ml])), (aMT, .inl (kMT, 65536, .inl B)), (aNx, .inl (kNx, 52650, .inl nx_38))] := hD
                    rcases hw_39 with ⟨rfl, hw_39b, e1, e2, hw_39v, hw_39a, e3⟩ | ⟨rfl, hw_39b, hw_39k, hw_39a, e2⟩
                    ·
                      have e1 := e1.symm; subst e1
                      have e2 := e2.symm; subst e2
                      have e3 := e3.symm; subst e3
                      refine lv_if_eq (tgt := 167) hx hb d_Md_texture_127 (by decide) (fun c_40 => ?_) (fun c_40 => ?_)
                      ·
                        exact absurd c_40 (by decide)
                      ·
                        refine lv_aload_n hx hb d_Md_texture_130 rfl (lv_at hl 3 rfl) ?_
                        refine lv_bipush (v := 44) hx hb d_Md_texture_131 (by decide) ?_
                        have hPc := hP.sub (ws' := [(aM, .inr (4, [.int th, .ref aMT, .int (nI mu), .ref aNw, .ref aNx, .int mw, .int mwa, .int (nI ma_33), .int (nI en), .long mv_36, .int mf_37, .int ml])), (aMT, .inl (kMT, 65536, .inl B))]) [0, 1] rfl
                        have hDc := hD.sub (ws' := [(aM, .inr (4, [.int th, .ref aMT, .int (nI mu), .ref aNw, .ref aNx, .int mw, .int mwa, .int (nI ma_33), .int (nI en), .long mv_36, .int mf_37, .int ml])), (aMT, .inl (kMT, 65536, .inl B))]) [0, 1] (by decide) rfl
                        have hKc := hK.sub (tys' := [(kMT, .byte)]) [0] rfl
                        have hFc := va_free (wc := [(aM, .inr (4, [.int th, .ref aMT, .int (nI mu), .ref aNw, .ref aNx, .int mw, .int mwa, .int (nI ma_33), .int (nI en), .long mv_36, .int mf_37, .int ml])), (aMT, .inl (kMT, 65536, .inl B))]) hD hS hA [0, 1] rfl
                        refine va_calli (va_runV (As := [.int 44]) (rest := []) ⟨hx, hb, hml, hown, hts⟩ (c_Md_sign l G dC dI H.size aM th aMT mu aNw aNx mw mwa ma_33 en mv_36 mf_37 ml kMT B 44 (by omega) (by omega)) (cwV 1 hts (gV tw_537 tw_539 ts_20 tw_5 tw_540 rfl) rfl rfl rfl (by decide +kernel) ⟨Nat.le_of_ble_eq_true rfl, Nat.le_of_ble_eq_true rfl⟩) (PW_preV hPc hKc hDc hE hS hFc (ci := 4) (q0 := 0) rfl rfl) rfl rfl hl.1 rfl (lv_room (Nat.le_of_ble_eq_true rfl)) d_Md_texture_133 ⟨Nat.le_of_ble_eq_true rfl, Nat.le_of_ble_eq_true rfl⟩) hS (fun q _ h => hFc q h) hFc (fun r_41 uu t H1 locs ht hvm hw_45 hB hz1 hk1 hS => ?_)
                        obtain ⟨ma_42, mw_43, mwa_44⟩ := uu
                        obtain ⟨hP1, hD1, hsz1⟩ := hB
                        rw [ht] at hP1 hsz1
                        obtain ⟨hP, hD⟩ := va_join (wr := [(aNx, .inl (kNx, 52650, .inl (upd (upd (upd nx (8 + (3080 * kk)) (nI sd)) ((8 + (3080 * kk)) + 1) hw_24v) ((8 + (3080 * kk)) + 2) hw_39v)))]) (w1 := [(aM, .inr (4, [.int th, .ref aMT, .int (nI mu), .ref aNw, .ref aNx, .int mw_43, .int mwa_44, .int (nI ma_42), .int (nI en), .long mv_36, .int mf_37, .int ml])), (aMT, .inl (kMT, 65536, .inl B))]) hP hD [0, 1] [2] rfl rfl (by decide) (by decide) hk1 hFc hP1 hD1
                        generalize H1 = H at hP hS ⊢
                        have hP : va_P (dC, dI) vwCl [(aNx, .inl (kNx, 52650, .inl (upd (upd (upd nx (8 + (3080 * kk)) (nI sd)) ((8 + (3080 * kk)) + 1) hw_24v) ((8 + (3080 * kk)) + 2) hw_39v))), (aM, .inr (4, [.int th, .ref aMT, .int (nI mu), .ref aNw, .ref aNx, .int mw_43, .int mwa_44, .int (nI ma_42), .int (nI en), .long mv_36, .int mf_37, .int ml])), (aMT, .inl (kMT, 65536, .inl B))] H := hP
                        have hD : va_D A [(aNx, .inl (kNx, 52650, .inl (upd (upd (upd nx (8 + (3080 * kk)) (nI sd)) ((8 + (3080 * kk)) + 1) hw_24v) ((8 + (3080 * kk)) + 2) hw_39v))), (aM, .inr (4, [.int th, .ref aMT, .int (nI mu), .ref aNw, .ref aNx, .int mw_43, .int mwa_44, .int (nI ma_42), .int (nI en), .long mv_36, .int mf_37, .int ml])), (aMT, .inl (kMT, 65536, .inl B))] := hD
                        rcases hw_45 with ⟨rfl, hw_45a, hw_45b, e1, e2⟩ | ⟨rfl, hw_45b, hw_45k, hw_45a, e2⟩
                        ·
                          have e1 := e1.symm; subst e1
                          have e2 := e2.symm; subst e2
                          refine lv_if_eq (tgt := 167) hx hb d_Md_texture_136 (by decide) (fun c_46 => ?_) (fun c_46 => ?_)
                          ·
                            exact absurd c_46 (by decide)
                          ·
                            refine lv_aload_n hx hb d_Md_texture_139 rfl (lv_at hl 3 rfl) ?_
                            refine lv_ldc2 (v := zWv 16) hx hb hown (hz _ tw_641) d_Md_texture_140 ?_
                            refine lv_iload_n hx hb d_Md_texture_143 rfl (lv_at hl 2 rfl) ?_
                            refine lv_bipush (v := 8) hx hb d_Md_texture_144 (by decide) ?_
                            refine lv_iadd hx hb d_Md_texture_146 ?_
                            refine zt_top (nI_add (8 + (3080 * kk)) 8) ?_
                            refine lv_iload hx hb d_Md_texture_147 (lv_at hl 0 rfl) ?_
                            refine lv_iload hx hb d_Md_texture_149 (lv_at hl 0 rfl) ?_
                            refine lv_iconst (v := 1) hx hb d_Md_texture_151 (by decide) ?_
                            refine lv_iconst (v := 0) hx hb d_Md_texture_152 (by decide) ?_
                            refine lv_sipush (v := 255) hx hb d_Md_texture_153 (by decide) ?_
                            refine lv_iconst (v := 0) hx hb d_Md_texture_156 (by decide) ?_
                            have hPc := hP.sub (ws' := [(aM, .inr (4, [.int th, .ref aMT, .int (nI mu), .ref aNw, .ref aNx, .int mw, .int mwa, .int (nI ma_42), .int (nI en), .long mv_36, .int mf_37, .int ml])), (aMT, .inl (kMT, 65536, .inl B)), (aNx, .inl (kNx, 52650, .inl (upd (upd (upd nx (8 + (3080 * kk)) (nI sd)) ((8 + (3080 * kk)) + 1) hw_24v) ((8 + (3080 * kk)) + 2) hw_39v)))]) [1, 2, 0] rfl
                            have hDc := hD.sub (ws' := [(aM, .inr (4, [.int th, .ref aMT, .int (nI mu), .ref aNw, .ref aNx, .int mw, .int mwa, .int (nI ma_42), .int (nI en), .long mv_36, .int mf_37, .int ml])), (aMT, .inl (kMT, 65536, .inl B)), (aNx, .inl (kNx, 52650, .inl (upd (upd (upd nx (8 + (3080 * kk)) (nI sd)) ((8 + (3080 * kk)) + 1) hw_24v) ((8 + (3080 * kk)) + 2) hw_39v)))]) [1, 2, 0] (by decide) rfl
                            have hKc := hK.sub (tys' := [(kMT, .byte), (kNx, .int)]) [0, 1] rfl
                            have hFc := va_free (wc := [(aM, .inr (4, [.int th, .ref aMT, .int (nI mu), .ref aNw, .ref aNx, .int mw, .int mwa, .int (nI ma_42), .int (nI en), .long mv_36, .int mf_37, .int ml])), (aMT, .inl (kMT, 65536, .inl B)), (aNx, .inl (kNx, 52650, .inl (upd (upd (upd nx (8 + (3080 * kk)) (nI sd)) ((8 + (3080 * kk)) + 1) hw_24v) ((8 + (3080 * kk)) + 2) hw_39v)))]) hD hS hA [1, 2, 0] rfl
                            refine va_calli (va_runV (As := [.long (zWv 16), .int (nI ((8 + (3080 * kk)) + 8)), .int (nI ((3 * sd) * sd)), .int (nI ((3 * sd) * sd)), .int (nI 1), .int 0, .int 255, .int 0]) (rest := []) ⟨hx, hb, hml, hown, hts⟩ (c_Md_list l G dC dI H.size aM th aMT mu aNw aNx mw mwa ma_42 en mv_36 mf_37 ml kMT B kNx (upd (upd (upd nx (8 + (3080 * kk)) (nI sd)) ((8 + (3080 * kk)) + 1) hw_24v) ((8 + (3080 * kk)) + 2) hw_39v) 16 ((8 + (3080 * kk)) + 8) ((3 * sd) * sd) ((3 * sd) * sd) 1 0 255 0 (by omega) (by omega) (by decide) (by decide) (zSb_len _) (by omega) (by omega) (by omega) (Or.inl rfl) (Or.inl rfl) (by decide) (by decide) (by decide) (by decide)) (cwV 8 hts (gV tw_592 tw_594 ts_30 tw_5 tw_595 rfl) rfl rfl rfl (by decide +kernel) ⟨Nat.le_of_ble_eq_true rfl, Nat.le_of_ble_eq_true rfl⟩) (PW_preV hPc hKc hDc hE hS hFc (ci := 4) (q0 := 0) rfl rfl) rfl rfl hl.1 rfl (lv_room (Nat.le_of_ble_eq_true rfl)) d_Md_texture_157 ⟨Nat.le_of_ble_eq_true rfl, Nat.le_of_ble_eq_true rfl⟩) hS (fun q _ h => hFc q h) hFc (fun r_47 uu t H1 locs ht hvm hw_55 hB hz1 hk1 hS => ?_)
                            obtain ⟨ma_48, mw_49, mwa_50, mv_51, mf_52, nx_53, ml_54⟩ := uu
                            obtain ⟨hP1, hD1, hsz1⟩ := hB
                            rw [ht] at hP1 hsz1
                            obtain ⟨hP, hD⟩ := va_join (wr := []) (w1 := [(aM, .inr (4, [.int th, .ref aMT, .int (nI mu), .ref aNw, .ref aNx, .int mw_49, .int mwa_50, .int (nI ma_48), .int (nI en), .long mv_51, .int mf_52, .int ml_54])), (aMT, .inl (kMT, 65536, .inl B)), (aNx, .inl (kNx, 52650, .inl nx_53))]) hP hD [1, 2, 0] [] rfl rfl (by decide) (by decide) hk1 hFc hP1 hD1
                            generalize H1 = H at hP hS ⊢
                            have hP : va_P (dC, dI) vwCl [(aM, .inr (4, [.int th, .ref aMT, .int (nI mu), .ref aNw, .ref aNx, .int mw_49, .int mwa_50, .int (nI ma_48), .int (nI en), .long mv_51, .int mf_52, .int ml_54])), (aMT, .inl (kMT, 65536, .inl B)), (aNx, .inl (kNx, 52650, .inl nx_53))] H := hP
                            have hD : va_D A [(aM, .inr (4, [.int th, .ref aMT, .int (nI mu), .ref aNw, .ref aNx, .int mw_49, .int mwa_50, .int (nI ma_48), .int (nI en), .long mv_51, .int mf_52, .int ml_54])), (aMT, .inl (kMT, 65536, .inl B)), (aNx, .inl (kNx, 52650, .inl nx_53))] := hD
                            simp only [zf01, zf11, zg13, zg33, decide_true, decide_false] at hw_55
                            rcases hw_55 with ⟨rfl, hw_55b, e1, e2, hw_55n, hw_55a, e3⟩ | ⟨rfl, hw_55b, hw_55k, hw_55a, e2⟩
                            ·
                              have e1 := e1.symm; subst e1
                              have e2 := e2.symm; subst e2
                              have e3 := e3.symm; subst e3
                              refine lv_if_eq (tgt := 167) hx hb d_Md_texture_160 (by decide) (fun c_56 => ?_) (fun c_56 => ?_)
                              ·
                                exact absurd c_56 (by decide)
                              ·
                                refine lv_iconst (v := 1) hx hb d_Md_texture_163 (by decide) ?_
                                refine lv_goto (tgt := 168) hx hb d_Md_texture_164 (by decide) ?_
                                refine zt_size (fun hzs => ?_)
                                have hP9 := hP.sub (ws' := [(aM, .inr (4, [.int th, .ref aMT, .int (nI mu), .ref aNw, .ref aNx, .int mw, .int mwa, .int (nI ma_48), .int (nI en), .long mv_51, .int mf_52, .int (nI hw_55n)])), (aMT, .inl (kMT, 65536, .inl B)), (aNx, .inl (kNx, 52650, .inl nx_53))]) [0, 1, 2] rfl
                                have hD9 := hD.sub (ws' := [(aM, .inr (4, [.int th, .ref aMT, .int (nI mu), .ref aNw, .ref aNx, .int mw, .int mwa, .int (nI ma_48), .int (nI en), .long mv_51, .int mf_52, .int (nI hw_55n)])), (aMT, .inl (kMT, 65536, .inl B)), (aNx, .inl (kNx, 52650, .inl nx_53))]) [0, 1, 2] (by decide) rfl
                                exact W.zret (v := 1) hx hb hr rfl (fun t ht hW => ⟨⟨1, (ma_48, mw, mwa, mv_51, mf_52, nx_53, nI hw_55n), rfl, Or.inl ⟨rfl, by omega, rfl, rfl, by simp only [mTexture, mListK, mNumK, zB_ok, nI_clamp (show sd < 2 ^ 31 by omega), if_pos (zpow1 sd (by omega) (Or.inl (congrArg nI c_10))), hk9, hw_8a, hw_15a, hw_24a, hw_30a, hw_39a, hw_45a, hw_55a]⟩, by rw [ht]; exact hP9, hD9, by rw [ht]; exact hzs⟩, hS.F ht⟩) hS.2.2 d_Md_texture_168
                            ·
                              have e2 := e2.symm; subst e2
                              refine lv_if_eq (tgt := 167) hx hb d_Md_texture_160 (by decide) (fun c_57 => ?_) (fun c_57 => ?_)
                              ·
                                refine lv_iconst (v := 0) hx hb d_Md_texture_167 (by decide) ?_
                                refine zt_size (fun hzs => ?_)
                                have hP9 := hP.sub (ws' := [(aM, .inr (4, [.int th, .ref aMT, .int (nI mu), .ref aNw, .ref aNx, .int mw_49, .int (nI hw_55k), .int (nI ma_48), .int (nI en), .long mv_51, .int mf_52, .int ml_54])), (aMT, .inl (kMT, 65536, .inl B)), (aNx, .inl (kNx, 52650, .inl nx_53))]) [0, 1, 2] rfl
                                have hD9 := hD.sub (ws' := [(aM, .inr (4, [.int th, .ref aMT, .int (nI mu), .ref aNw, .ref aNx, .int mw_49, .int (nI hw_55k), .int (nI ma_48), .int (nI en), .long mv_51, .int mf_52, .int ml_54])), (aMT, .inl (kMT, 65536, .inl B)), (aNx, .inl (kNx, 52650, .inl nx_53))]) [0, 1, 2] (by decide) rfl
                                exact W.zret (v := 0) hx hb hr rfl (fun t ht hW => ⟨⟨0, (ma_48, mw_49, nI hw_55k, mv_51, mf_52, nx_53, ml_54), rfl, Or.inr ⟨rfl, by omega, _, by simp only [mTexture, mListK, mNumK, zB_ok, nI_clamp (show sd < 2 ^ 31 by omega), if_pos (zpow1 sd (by omega) (Or.inl (congrArg nI c_10))), hk9, hw_8a, hw_15a, hw_24a, hw_30a, hw_39a, hw_45a, hw_55a, zB_er], rfl⟩, by rw [ht]; exact hP9, hD9, by rw [ht]; exact hzs⟩, hS.F ht⟩) hS.2.2 d_Md_texture_168
                              ·
                                exact absurd (by decide) c_57
                        ·
                          have e2 := e2.symm; subst e2
                          refine lv_if_eq (tgt := 167) hx hb d_Md_texture_136 (by decide) (fun c_58 => ?_) (fun c_58 => ?_)
                          ·
                            refine lv_iconst (v := 0) hx hb d_Md_texture_167 (by decide) ?_
                            refine zt_size (fun hzs => ?_)
                            have hP9 := hP.sub (ws' := [(aM, .inr (4, [.int th, .ref aMT, .int (nI mu), .ref aNw, .ref aNx, .int mw_43, .int (nI hw_45k), .int (nI ma_42), .int (nI en), .long mv_36, .int mf_37, .int ml])), (aMT, .inl (kMT, 65536, .inl B)), (aNx, .inl (kNx, 52650, .inl (upd (upd (upd nx (8 + (3080 * kk)) (nI sd)) ((8 + (3080 * kk)) + 1) hw_24v) ((8 + (3080 * kk)) + 2) hw_39v)))]) [1, 2, 0] rfl
                            have hD9 := hD.sub (ws' := [(aM, .inr (4, [.int th, .ref aMT, .int (nI mu), .ref aNw, .ref aNx, .int mw_43, .int (nI hw_45k), .int (nI ma_42), .int (nI en), .long mv_36, .int mf_37, .int ml])), (aMT, .inl (kMT, 65536, .inl B)), (aNx, .inl (kNx, 52650, .inl (upd (upd (upd nx (8 + (3080 * kk)) (nI sd)) ((8 + (3080 * kk)) + 1) hw_24v) ((8 + (3080 * kk)) + 2) hw_39v)))]) [1, 2, 0] (by decide) rfl
                            exact W.zret (v := 0) hx hb hr rfl (fun t ht hW => ⟨⟨0, (ma_42, mw_43, nI hw_45k, mv_36, mf_37, upd (upd (upd nx (8 + (3080 * kk)) (nI sd)) ((8 + (3080 * kk)) + 1) hw_24v) ((8 + (3080 * kk)) + 2) hw_39v, ml), rfl, Or.inr ⟨rfl, by omega, _, by simp only [mTexture, mListK, mNumK, zB_ok, nI_clamp (show sd < 2 ^ 31 by omega), if_pos (zpow1 sd (by omega) (Or.inl (congrArg nI c_10))), hk9, hw_8a, hw_15a, hw_24a, hw_30a, hw_39a, hw_45a, zB_er], rfl⟩, by rw [ht]; exact hP9, hD9, by rw [ht]; exact hzs⟩, hS.F ht⟩) hS.2.2 d_Md_texture_168
                          ·
                            exact absurd (by decide) c_58
                    ·
                      have e2 := e2.symm; subst e2
                      refine lv_if_eq (tgt := 167) hx hb d_Md_texture_127 (by decide) (fun c_59 => ?_) (fun c_59 => ?_)
                      ·
                        refine lv_iconst (v := 0) hx hb d_Md_texture_167 (by decide) ?_
                        refine zt_size (fun hzs => ?_)
                        have hP9 := hP.sub (ws' := [(aM, .inr (4, [.int th, .ref aMT, .int (nI mu), .ref aNw, .ref aNx, .int mw_34, .int (nI hw_39k), .int (nI ma_33), .int (nI en), .long mv_36, .int mf_37, .int ml])), (aMT, .inl (kMT, 65536, .inl B)), (aNx, .inl (kNx, 52650, .inl nx_38))]) [0, 1, 2] rfl
                        have hD9 := hD.sub (ws' := [(aM, .inr (4, [.int th, .ref aMT, .int (nI mu), .ref aNw, .ref aNx, .int mw_34, .int (nI hw_39k), .int (nI ma_33), .int (nI en), .long mv_36, .int mf_37, .int ml])), (aMT, .inl (kMT, 65536, .inl B)), (aNx, .inl (kNx, 52650, .inl nx_38))]) [0, 1, 2] (by decide) rfl
                        exact W.zret (v := 0) hx hb hr rfl (fun t ht hW => ⟨⟨0, (ma_33, mw_34, nI hw_39k, mv_36, mf_37, nx_38, ml), rfl, Or.inr ⟨rfl, by omega, _, by simp only [mTexture, mListK, mNumK, zB_ok, nI_clamp (show sd < 2 ^ 31 by omega), if_pos (zpow1 sd (by omega) (Or.inl (congrArg nI c_10))), hk9, hw_8a, hw_15a, hw_24a, hw_30a, hw_39a, zB_er], rfl⟩, by rw [ht]; exact hP9, hD9, by rw [ht]; exact hzs⟩, hS.F ht⟩) hS.2.2 d_Md_texture_168
                      ·
                        exact absurd (by decide) c_59
                ·
                  have e2 := e2.symm; subst e2
                  refine lv_if_eq (tgt := 167) hx hb d_Md_texture_112 (by decide) (fun c_60 => ?_) (fun c_60 => ?_)
                  ·
                    refine lv_iconst (v := 0) hx hb d_Md_texture_167 (by decide) ?_
                    refine zt_size (fun hzs => ?_)
                    have hP9 := hP.sub (ws' := [(aM, .inr (4, [.int th, .ref aMT, .int (nI mu), .ref aNw, .ref aNx, .int mw_28, .int (nI hw_30k), .int (nI ma_27), .int (nI en), .long mv_21, .int mf_22, .int ml])), (aMT, .inl (kMT, 65536, .inl B)), (aNx, .inl (kNx, 52650, .inl (upd (upd nx (8 + (3080 * kk)) (nI sd)) ((8 + (3080 * kk)) + 1) hw_24v)))]) [1, 2, 0] rfl
                    have hD9 := hD.sub (ws' := [(aM, .inr (4, [.int th, .ref aMT, .int (nI mu), .ref aNw, .ref aNx, .int mw_28, .int (nI hw_30k), .int (nI ma_27), .int (nI en), .long mv_21, .int mf_22, .int ml])), (aMT, .inl (kMT, 65536, .inl B)), (aNx, .inl (kNx, 52650, .inl (upd (upd nx (8 + (3080 * kk)) (nI sd)) ((8 + (3080 * kk)) + 1) hw_24v)))]) [1, 2, 0] (by decide) rfl
                    exact W.zret (v := 0) hx hb hr rfl (fun t ht hW => ⟨⟨0, (ma_27, mw_28, nI hw_30k, mv_21, mf_22, upd (upd nx (8 + (3080 * kk)) (nI sd)) ((8 + (3080 * kk)) + 1) hw_24v, ml), rfl, Or.inr ⟨rfl, by omega, _, by simp only [mTexture, mListK, mNumK, zB_ok, nI_clamp (show sd < 2 ^ 31 by omega), if_pos (zpow1 sd (by omega) (Or.inl (congrArg nI c_10))), hk9, hw_8a, hw_15a, hw_24a, hw_30a, zB_er], rfl⟩, by rw [ht]; exact hP9, hD9, by rw [ht]; exact hzs⟩, hS.F ht⟩) hS.2.2 d_Md_texture_168
                  ·
                    exact absurd (by decide) c_60
            ·
              have e2 := e2.symm; subst e2
              refine lv_if_eq (tgt := 167) hx hb d_Md_texture_103 (by decide) (fun c_61 => ?_) (fun c_61 => ?_)
              ·
                refine lv_iconst (v := 0) hx hb d_Md_texture_167 (by decide) ?_
                refine zt_size (fun hzs => ?_)
                have hP9 := hP.sub (ws' := [(aM, .inr (4, [.int th, .ref aMT, .int (nI mu), .ref aNw, .ref aNx, .int mw_19, .int (nI hw_24k), .int (nI ma_18), .int (nI en), .long mv_21, .int mf_22, .int ml])), (aMT, .inl (kMT, 65536, .inl B)), (aNx, .inl (kNx, 52650, .inl nx_23))]) [0, 1, 2] rfl
                have hD9 := hD.sub (ws' := [(aM, .inr (4, [.int th, .ref aMT, .int (nI mu), .ref aNw, .ref aNx, .int mw_19, .int (nI hw_24k), .int (nI ma_18), .int (nI en), .long mv_21, .int mf_22, .int ml])), (aMT, .inl (kMT, 65536, .inl B)), (aNx, .inl (kNx, 52650, .inl nx_23))]) [0, 1, 2] (by decide) rfl
                exact W.zret (v := 0) hx hb hr rfl (fun t ht hW => ⟨⟨0, (ma_18, mw_19, nI hw_24k, mv_21, mf_22, nx_23, ml), rfl, Or.inr ⟨rfl, by omega, _, by simp only [mTexture, mListK, mNumK, zB_ok, nI_clamp (show sd < 2 ^ 31 by omega), if_pos (zpow1 sd (by omega) (Or.inl (congrArg nI c_10))), hk9, hw_8a, hw_15a, hw_24a, zB_er], rfl⟩, by rw [ht]; exact hP9, hD9, by rw [ht]; exact hzs⟩, hS.F ht⟩) hS.2.2 d_Md_texture_168
              ·
                exact absurd (by decide) c_61
        ·
          have e2 := e2.symm; subst e2
          refine lv_if_eq (tgt := 167) hx hb d_Md_texture_88 (by decide) (fun c_62 => ?_) (fun c_62 => ?_)
          ·
            refine lv_iconst (v := 0) hx hb d_Md_texture_167 (by decide) ?_
            refine zt_size (fun hzs => ?_)
            have hP9 := hP.sub (ws' := [(aM, .inr (4, [.int th, .ref aMT, .int (nI mu), .ref aNw, .ref aNx, .int mw_13, .int (nI hw_15k), .int (nI ma_12), .int (nI en), .long mv_5, .int (nI h9), .int ml])), (aMT, .inl (kMT, 65536, .inl B)), (aNx, .inl (kNx, 52650, .inl (upd nx (8 + (3080 * kk)) (nI sd))))]) [1, 2, 0] rfl
            have hD9 := hD.sub (ws' := [(aM, .inr (4, [.int th, .ref aMT, .int (nI mu), .ref aNw, .ref aNx, .int mw_13, .int (nI hw_15k), .int (nI ma_12), .int (nI en), .long mv_5, .int (nI h9), .int ml])), (aMT, .inl (kMT, 65536, .inl B)), (aNx, .inl (kNx, 52650, .inl (upd nx (8 + (3080 * kk)) (nI sd))))]) [1, 2, 0] (by decide) rfl
            exact W.zret (v := 0) hx hb hr rfl (fun t ht hW => ⟨⟨0, (ma_12, mw_13, nI hw_15k, mv_5, nI h9, upd nx (8 + (3080 * kk)) (nI sd), ml), rfl, Or.inr ⟨rfl, by omega, _, by simp only [mTexture, mListK, mNumK, zB_ok, nI_clamp (show sd < 2 ^ 31 by omega), if_pos (zpow1 sd (by omega) (Or.inl (congrArg nI c_10))), hk9, hw_8a, hw_15a, zB_er], rfl⟩, by rw [ht]; exact hP9, hD9, by rw [ht]; exact hzs⟩, hS.F ht⟩) hS.2.2 d_Md_texture_168
          ·
            exact absurd (by decide) c_62
      ·
        have c_10 : ¬ (sd = 1) := fun z => c_10 ((@nI_eq sd 1 (by omega) (by omega)).mpr z)
        refine lv_iload_n hx hb d_Md_texture_37 rfl (lv_at hl 0 rfl) ?_
        refine lv_iconst (v := 2) hx hb d_Md_texture_38 (by decide) ?_
        refine lv_icmp_eq (tgt := 75) hx hb d_Md_texture_39 (by decide) (fun c_63 => ?_) (fun c_63 => ?_)
        ·
          have c_63 : sd = 2 := (@nI_eq sd 2 (by omega) (by omega)).mp c_63
          refine lv_iconst (v := 3) hx hb d_Md_texture_75 (by decide) ?_
          refine lv_iload_n hx hb d_Md_texture_76 rfl (lv_at hl 0 rfl) ?_
          refine lv_imul hx hb d_Md_texture_77 ?_
          refine zt_top (pk_mul 3 sd) ?_
          refine lv_iload_n hx hb d_Md_texture_78 rfl (lv_at hl 0 rfl) ?_
          refine lv_imul hx hb d_Md_texture_79 ?_
          refine zt_top (pk_mul (3 * sd) sd) ?_
          refine lv_istore (lv' := [(4, .int (nI ((3 * sd) * sd))), (3, .int (nI sd)), (2, .int (nI (8 + (3080 * kk)))), (0, .ref aM), (1, .int (nI kk))]) hx hb d_Md_texture_80 hl (by decide) rfl (fun ls hl => ?_)
          refine lv_aload_n hx hb d_Md_texture_82 rfl (lv_at hl 3 rfl) ?_
          refine lv_bipush (v := 44) hx hb d_Md_texture_83 (by decide) ?_
          have hPc := hP.sub (ws' := [(aM, .inr (4, [.int th, .ref aMT, .int (nI mu), .ref aNw, .ref aNx, .int mw, .int mwa, .int (nI ma_2), .int (nI en), .long mv_5, .int (nI h9), .int ml])), (aMT, .inl (kMT, 65536, .inl B))]) [0, 1] rfl
          have hDc := hD.sub (ws' := [(aM, .inr (4, [.int th, .ref aMT, .int (nI mu), .ref aNw, .ref aNx, .int mw, .int mwa, .int (nI ma_2), .int (nI en), .long mv_5, .int (nI h9), .int ml])), (aMT, .inl (kMT, 65536, .inl B))]) [0, 1] (by decide) rfl
          have hKc := hK.sub (tys' := [(kMT, .byte)]) [0] rfl
          have hFc := va_free (wc := [(aM, .inr (4, [.int th, .ref aMT, .int (nI mu), .ref aNw, .ref aNx, .int mw, .int mwa, .int (nI ma_2), .int (nI en), .long mv_5, .int (nI h9), .int ml])), (aMT, .inl (kMT, 65536, .inl B))]) hD hS hA [0, 1] rfl
          refine va_calli (va_runV (As := [.int 44]) (rest := []) ⟨hx, hb, hml, hown, hts⟩ (c_Md_sign l G dC dI H.size aM th aMT mu aNw aNx mw mwa ma_2 en mv_5 (nI h9) ml kMT B 44 (by omega) (by omega)) (cwV 1 hts (gV tw_537 tw_539 ts_20 tw_5 tw_540 rfl) rfl rfl rfl (by decide +kernel) ⟨Nat.le_of_ble_eq_true rfl, Nat.le_of_ble_eq_true rfl⟩) (PW_preV hPc hKc hDc hE hS hFc (ci := 4) (q0 := 0) rfl rfl) rfl rfl hl.1 rfl (lv_room (Nat.le_of_ble_eq_true rfl)) d_Md_texture_85 ⟨Nat.le_of_ble_eq_true rfl, Nat.le_of_ble_eq_true rfl⟩) hS (fun q _ h => hFc q h) hFc (fun r_64 uu t H1 locs ht hvm hw_68 hB hz1 hk1 hS => ?_)
          obtain ⟨ma_65, mw_66, mwa_67⟩ := uu
          obtain ⟨hP1, hD1, hsz1⟩ := hB
          rw [ht] at hP1 hsz1
          obtain ⟨hP, hD⟩ := va_join (wr := [(aNx, .inl (kNx, 52650, .inl (upd nx (8 + (3080 * kk)) (nI sd))))]) (w1 := [(aM, .inr (4, [.int th, .ref aMT, .int (nI mu), .ref aNw, .ref aNx, .int mw_66, .int mwa_67, .int (nI ma_65), .int (nI en), .long mv_5, .int (nI h9), .int ml])), (aMT, .inl (kMT, 65536, .inl B))]) hP hD [0, 1] [2] rfl rfl (by decide) (by decide) hk1 hFc hP1 hD1
          generalize H1 = H at hP hS ⊢
          have hP : va_P (dC, dI) vwCl [(aNx, .inl (kNx, 52650, .inl (upd nx (8 + (3080 * kk)) (nI sd)))), (aM, .inr (4, [.int th, .ref aMT, .int (nI mu), .ref aNw, .ref aNx, .int mw_66, .int mwa_67, .int (nI ma_65), .int (nI en), .long mv_5, .int (nI h9), .int ml])), (aMT, .inl (kMT, 65536, .inl B))] H := hP
          have hD : va_D A [(aNx, .inl (kNx, 52650, .inl (upd nx (8 + (3080 * kk)) (nI sd)))), (aM, .inr (4, [.int th, .ref aMT, .int (nI mu), .ref aNw, .ref aNx, .int mw_66, .int mwa_67, .int (nI ma_65), .int (nI en), .long mv_5, .int (nI h9), .int ml])), (aMT, .inl (kMT, 65536, .inl B))] := hD
          rcases hw_68 with ⟨rfl, hw_68a, hw_68b, e1, e2⟩ | ⟨rfl, hw_68b, hw_68k, hw_68a, e2⟩
          ·
            have e1 := e1.symm; subst e1
            have e2 := e2.symm; subst e2
            refine lv_if_eq (tgt := 167) hx hb d_Md_texture_88 (by decide) (fun c_69 => ?_) (fun c_69 => ?_)
            ·
              exact absurd c_69 (by decide)
            ·
              refine lv_aload_n hx hb d_Md_texture_91 rfl (lv_at hl 3 rfl) ?_
              refine lv_ldc2 (v := zWv 14) hx hb hown (hz _ tw_639) d_Md_texture_92 ?_
              refine lv_iload_n hx hb d_Md_texture_95 rfl (lv_at hl 2 rfl) ?_
              refine lv_iconst (v := 1) hx hb d_Md_texture_96 (by decide) ?_
              refine lv_iadd hx hb d_Md_texture_97 ?_
              refine zt_top (nI_add (8 + (3080 * kk)) 1) ?_
              refine lv_iconst (v := 0) hx hb d_Md_texture_98 (by decide) ?_
              refine lv_iconst (v := 2) hx hb d_Md_texture_99 (by decide) ?_
              have hPc := hP.sub (ws' := [(aM, .inr (4, [.int th, .ref aMT, .int (nI mu), .ref aNw, .ref aNx, .int mw, .int mwa, .int (nI ma_65), .int (nI en), .long mv_5, .int (nI h9), .int ml])), (aMT, .inl (kMT, 65536, .inl B)), (aNx, .inl (kNx, 52650, .inl (upd nx (8 + (3080 * kk)) (nI sd))))]) [1, 2, 0] rfl
              have hDc := hD.sub (ws' := [(aM, .inr (4, [.int th, .ref aMT, .int (nI mu), .ref aNw, .ref aNx, .int mw, .int mwa, .int (nI ma_65), .int (nI en), .long mv_5, .int (nI h9), .int ml])), (aMT, .inl (kMT, 65536, .inl B)), (aNx, .inl (kNx, 52650, .inl (upd nx (8 + (3080 * kk)) (nI sd))))]) [1, 2, 0] (by decide) rfl
              have hKc := hK.sub (tys' := [(kMT, .byte), (kNx, .int)]) [0, 1] rfl
              have hFc := va_free (wc := [(aM, .inr (4, [.int th, .ref aMT, .int (nI mu), .ref aNw, .ref aNx, .int mw, .int mwa, .int (nI ma_65), .int (nI en), .long mv_5, .int (nI h9), .int ml])), (aMT, .inl (kMT, 65536, .inl B)), (aNx, .inl (kNx, 52650, .inl (upd nx (8 + (3080 * kk)) (nI sd))))]) hD hS hA [1, 2, 0] rfl
              refine va_calli (va_runV (As := [.long (zWv 14), .int (nI ((8 + (3080 * kk)) + 1)), .int 0, .int 2]) (rest := []) ⟨hx, hb, hml, hown, hts⟩ (c_Md_named l G dC dI H.size aM th aMT mu aNw aNx mw mwa ma_65 en mv_5 (nI h9) ml kMT B kNx (upd nx (8 + (3080 * kk)) (nI sd)) 14 ((8 + (3080 * kk)) + 1) 0 2 (by omega) (by omega) (by decide) (by decide) (zSb_len _) (by omega) (by decide) (by decide) (by decide) (by decide)) (cwV 4 hts (gV tw_611 tw_613 ts_33 tw_5 tw_614 rfl) rfl rfl rfl (by decide +kernel) ⟨Nat.le_of_ble_eq_true rfl, Nat.le_of_ble_eq_true rfl⟩) (PW_preV hPc hKc hDc hE hS hFc (ci := 4) (q0 := 0) rfl rfl) rfl rfl hl.1 rfl (lv_room (Nat.le_of_ble_eq_true rfl)) d_Md_texture_100 ⟨Nat.le_of_ble_eq_true rfl, Nat.le_of_ble_eq_true rfl⟩) hS (fun q _ h => hFc q h) hFc (fun r_70 uu t H1 locs ht hvm hw_77 hB hz1 hk1 hS => ?_)
              obtain ⟨ma_71, mw_72, mwa_73, mv_74, mf_75, nx_76⟩ := uu
              obtain ⟨hP1, hD1, hsz1⟩ := hB
              rw [ht] at hP1 hsz1
              obtain ⟨hP, hD⟩ := va_join (wr := []) (w1 := [(aM, .inr (4, [.int th, .ref aMT, .int (nI mu), .ref aNw, .ref aNx, .int mw_72, .int mwa_73, .int (nI ma_71), .int (nI en), .long mv_74, .int mf_75, .int ml])), (aMT, .inl (kMT, 65536, .inl B)), (aNx, .inl (kNx, 52650, .inl nx_76))]) hP hD [1, 2, 0] [] rfl rfl (by decide) (by decide) hk1 hFc hP1 hD1
              generalize H1 = H at hP hS ⊢
              have hP : va_P (dC, dI) vwCl [(aM, .inr (4, [.int th, .ref aMT, .int (nI mu), .ref aNw, .ref aNx, .int mw_72, .int mwa_73, .int (nI ma_71), .int (nI en), .long mv_74, .int mf_75, .int ml])), (aMT, .inl (kMT, 65536, .inl B)), (aNx, .inl (kNx, 52650, .inl nx_76))] H := hP
              have hD : va_D A [(aM, .inr (4, [.int th, .ref aMT, .int (nI mu), .ref aNw, .ref aNx, .int mw_72, .int mwa_73, .int (nI ma_71), .int (nI en), .long mv_74, .int mf_75, .int ml])), (aMT, .inl (kMT, 65536, .inl B)), (aNx, .inl (kNx, 52650, .inl nx_76))] := hD
              rcases hw_77 with ⟨rfl, hw_77b, e1, e2, hw_77v, hw_77a, e3⟩ | ⟨rfl, hw_77b, hw_77k, hw_77a, e2⟩
              ·
                have e1 := e1.symm; subst e1
                have e2 := e2.symm; subst e2
                have e3 := e3.symm; subst e3
                refine lv_if_eq (tgt := 167) hx hb d_Md_texture_103 (by decide) (fun c_78 => ?_) (fun c_78 => ?_)
                ·
                  exact absurd c_78 (by decide)
                ·
                  refine lv_aload_n hx hb d_Md_texture_106 rfl (lv_at hl 3 rfl) ?_
                  refine lv_bipush (v := 44) hx hb d_Md_texture_107 (by decide) ?_
                  have hPc := hP.sub (ws' := [(aM, .inr (4, [.int th, .ref aMT, .int (nI mu), .ref aNw, .ref aNx, .int mw, .int mwa, .int (nI ma_71), .int (nI en), .long mv_74, .int mf_75, .int ml])), (aMT, .inl (kMT, 65536, .inl B))]) [0, 1] rfl
                  have hDc := hD.sub (ws' := [(aM, .inr (4, [.int th, .ref aMT, .int (nI mu), .ref aNw, .ref aNx, .int mw, .int mwa, .int (nI ma_71), .int (nI en), .long mv_74, .int mf_75, .int ml])), (aMT, .inl (kMT, 65536, .inl B))]) [0, 1] (by decide) rfl
                  have hKc := hK.sub (tys' := [(kMT, .byte)]) [0] rfl
                  have hFc := va_free (wc := [(aM, .inr (4, [.int th, .ref aMT, .int (nI mu), .ref aNw, .ref aNx, .int mw, .int mwa, .int (nI ma_71), .int (nI en), .long mv_74, .int mf_75, .int ml])), (aMT, .inl (kMT, 65536, .inl B))]) hD hS hA [0, 1] rfl
                  refine va_calli (va_runV (As := [.int 44]) (rest := []) ⟨hx, hb, hml, hown, hts⟩ (c_Md_sign l G dC dI H.size aM th aMT mu aNw aNx mw mwa ma_71 en mv_74 mf_75 ml kMT B 44 (by omega) (by omega)) (cwV 1 hts (gV tw_537 tw_539 ts_20 tw_5 tw_540 rfl) rfl rfl rfl (by decide +kernel) ⟨Nat.le_of_ble_eq_true rfl, Nat.le_of_ble_eq_true rfl⟩) (PW_preV hPc hKc hDc hE hS hFc (ci := 4) (q0 := 0) rfl rfl) rfl rfl hl.1 rfl (lv_room (Nat.le_of_ble_eq_true rfl)) d_Md_texture_109 ⟨Nat.le_of_ble_eq_true rfl, Nat.le_of_ble_eq_true rfl⟩) hS (fun q _ h => hFc q h) hFc (fun r_79 uu t H1 locs ht hvm hw_83 hB hz1 hk1 hS => ?_)
                  obtain ⟨ma_80, mw_81, mwa_82⟩ := uu
                  obtain ⟨hP1, hD1, hsz1⟩ := hB
                  rw [ht] at hP1 hsz1
                  obtain ⟨hP, hD⟩ := va_join (wr := [(aNx, .inl (kNx, 52650, .inl (upd (upd nx (8 + (3080 * kk)) (nI sd)) ((8 + (3080 * kk)) + 1) hw_77v)))]) (w1 := [(aM, .inr (4, [.int th, .ref aMT, .int (nI mu), .ref aNw, .ref aNx, .int mw_81, .int mwa_82, .int (nI ma_80), .int (nI en), .long mv_74, .int mf_75, .int ml])), (aMT, .inl (kMT, 65536, .inl B))]) hP hD [0, 1] [2] rfl rfl (by decide) (by decide) hk1 hFc hP1 hD1
                  generalize H1 = H at hP hS ⊢
                  have hP : va_P (dC, dI) vwCl [(aNx, .inl (kNx, 52650, .inl (upd (upd nx (8 + (3080 * kk)) (nI sd)) ((8 + (3080 * kk)) + 1) hw_77v))), (aM, .inr (4, [.int th, .ref aMT, .int (nI mu), .ref aNw, .ref aNx, .int mw_81, .int mwa_82, .int (nI ma_80), .int (nI en), .long mv_74, .int mf_75, .int ml])), (aMT, .inl (kMT, 65536, .inl B))] H := hP
                  have hD : va_D A [(aNx, .inl (kNx, 52650, .inl (upd (upd nx (8 + (3080 * kk)) (nI sd)) ((8 + (3080 * kk)) + 1) hw_77v))), (aM, .inr (4, [.int th, .ref aMT, .int (nI mu), .ref aNw, .ref aNx, .int mw_81, .int mwa_82, .int (nI ma_80), .int (nI en), .long mv_74, .int mf_75, .int ml])), (aMT, .inl (kMT, 65536, .inl B))] := hD
                  rcases hw_83 with ⟨rfl, hw_83a, hw_83b, e1, e2⟩ | ⟨rfl, hw_83b, hw_83k, hw_83a, e2⟩
                  ·
                    have e1 := e1.symm; subst e1
                    have e2 := e2.symm; subst e2
                    refine lv_if_eq (tgt := 167) hx hb d_Md_texture_112 (by decide) (fun c_84 => ?_) (fun c_84 => ?_)
                    ·
                      exact absurd c_84 (by decide)
                    ·
                      refine lv_aload_n hx hb d_Md_texture_115 rfl (lv_at hl 3 rfl) ?_
                      refine lv_ldc2 (v := zWv 15) hx hb hown (hz _ tw_640) d_Md_texture_116 ?_
                      refine lv_iload_n hx hb d_Md_texture_119 rfl (lv_at hl 2 rfl) ?_
                      refine lv_iconst (v := 2) hx hb d_Md_texture_120 (by decide) ?_
                      refine lv_iadd hx hb d_Md_texture_121 ?_
                      refine zt_top (nI_add (8 + (3080 * kk)) 2) ?_
                      refine lv_iconst (v := 0) hx hb d_Md_texture_122 (by decide) ?_
                      refine lv_iconst (v := 1) hx hb d_Md_texture_123 (by decide) ?_
                      have hPc := hP.sub (ws' := [(aM, .inr (4, [.int th, .ref aMT, .int (nI mu), .ref aNw, .ref aNx, .int mw, .int mwa, .int (nI ma_80), .int (nI en), .long mv_74, .int mf_75, .int ml])), (aMT, .inl (kMT, 65536, .inl B)), (aNx, .inl (kNx, 52650, .inl (upd (upd nx (8 + (3080 * kk)) (nI sd)) ((8 + (3080 * kk)) + 1) hw_77v)))]) [1, 2, 0] rfl
                      have hDc := hD.sub (ws' := [(aM, .inr (4, [.int th, .ref aMT, .int (nI mu), .ref aNw, .ref aNx, .int mw, .int mwa, .int (nI ma_80), .int (nI en), .long mv_74, .int mf_75, .int ml])), (aMT, .inl (kMT, 65536, .inl B)), (aNx, .inl (kNx, 52650, .inl (upd (upd nx (8 + (3080 * kk)) (nI sd)) ((8 + (3080 * kk)) + 1) hw_77v)))]) [1, 2, 0] (by decide) rfl
                      have hKc := hK.sub (tys' := [(kMT, .byte), (kNx, .int)]) [0, 1] rfl
                      have hFc := va_free (wc := [(aM, .inr (4, [.int th, .ref aMT, .int (nI mu), .ref aNw, .ref aNx, .int mw, .int mwa, .int (nI ma_80), .int (nI en), .long mv_74, .int mf_75, .int ml])), (aMT, .inl (kMT, 65536, .inl B)), (aNx, .inl (kNx, 52650, .inl (upd (upd nx (8 + (3080 * kk)) (nI sd)) ((8 + (3080 * kk)) + 1) hw_77v)))]) hD hS hA [1, 2, 0] rfl
                      refine va_calli (va_runV (As := [.long (zWv 15), .int (nI ((8 + (3080 * kk)) + 2)), .int 0, .int 1]) (rest := []) ⟨hx, hb, hml, hown, hts⟩ (c_Md_named l G dC dI H.size aM th aMT mu aNw aNx mw mwa ma_80 en mv_74 mf_75 ml kMT B kNx (upd (upd nx (8 + (3080 * kk)) (nI sd)) ((8 + (3080 * kk)) + 1) hw_77v) 15 ((8 + (3080 * kk)) + 2) 0 1 (by omega) (by omega) (by decide) (by decide) (zSb_len _) (by omega) (by decide) (by decide) (by decide) (by decide)) (cwV 4 hts (gV tw_611 tw_613 ts_33 tw_5 tw_614 rfl) rfl rfl rfl (by decide +kernel) ⟨Nat.le_of_ble_eq_true rfl, Nat.le_of_ble_eq_true rfl⟩) (PW_preV hPc hKc hDc hE hS hFc (ci := 4) (q0 := 0) rfl rfl) rfl rfl hl.1 rfl (lv_room (Nat.le_of_ble_eq_true rfl)) d_Md_texture_124 ⟨Nat.le_of_ble_eq_true rfl, Nat.le_of_ble_eq_true rfl⟩) hS (fun q _ h => hFc q h) hFc (fun r_85 uu t H1 locs ht hvm hw_92 hB hz1 hk1 hS => ?_)
                      obtain ⟨ma_86, mw_87, mwa_88, mv_89, mf_90, nx_91⟩ := uu
                      obtain ⟨hP1, hD1, hsz1⟩ := hB
                      rw [ht] at hP1 hsz1
                      obtain ⟨hP, hD⟩ := va_join (wr := []) (w1 := [(aM, .inr (4, [.int th, .ref aMT, .int (nI mu), .ref aNw, .ref aNx, .int mw_87, .int mwa_88, .int (nI ma_86), .int (nI en), .long mv_89, .int mf_90, .int ml])), (aMT, .inl (kMT, 65536, .inl B)), (aNx, .inl (kNx, 52650, .inl nx_91))]) hP hD [1, 2, 0] [] rfl rfl (by decide) (by decide) hk1 hFc hP1 hD1
                      generalize H1 = H at hP hS ⊢
                      have hP : va_P (dC, dI) vwCl [(aM, .inr (4, [.int th, .ref aMT, .int (nI mu), .ref aNw, .ref aNx, .int mw_87, .int mwa_88, .int (nI ma_86), .int (nI en), .long mv_89, .int mf_90, .int ml])), (aMT, .inl (kMT, 65536, .inl B)), (aNx, .inl (kNx, 52650, .inl nx_91))] H := hP
                      have hD : va_D A [(aM, .inr (4, [.int th, .ref aMT, .int (nI mu), .ref aNw, .ref aNx, .int mw_87, .int mwa_88, .int (nI ma_86), .int (nI en), .long mv_89, .int mf_90, .int ml])), (aMT, .inl (kMT, 65536, .inl B)), (aNx, .inl (kNx, 52650, .inl nx_91))] := hD
                      rcases hw_92 with ⟨rfl, hw_92b, e1, e2, hw_92v, hw_92a, e3⟩ | ⟨rfl, hw_92b, hw_92k, hw_92a, e2⟩
                      ·
                        have e1 := e1.symm; subst e1
                        have e2 := e2.symm; subst e2
                        have e3 := e3.symm; subst e3
                        refine lv_if_eq (tgt := 167) hx hb d_Md_texture_127 (by decide) (fun c_93 => ?_) (fun c_93 => ?_)
                        ·
                          exact absurd c_93 (by decide)
                        ·
                          refine lv_aload_n hx hb d_Md_texture_130 rfl (lv_at hl 3 rfl) ?_
                          refine lv_bipush (v := 44) hx hb d_Md_texture_131 (by decide) ?_
                          have hPc := hP.sub (ws' := [(aM, .inr (4, [.int th, .ref aMT, .int (nI mu), .ref aNw, .ref aNx, .int mw, .int mwa, .int (nI ma_86), .int (nI en), .long mv_89, .int mf_90, .int ml])), (aMT, .inl (kMT, 65536, .inl B))]) [0, 1] rfl
                          have hDc := hD.sub (ws' := [(aM, .inr (4, [.int th, .ref aMT, .int (nI mu), .ref aNw, .ref aNx, .int mw, .int mwa, .int (nI ma_86), .int (nI en), .long mv_89, .int mf_90, .int ml])), (aMT, .inl (kMT, 65536, .inl B))]) [0, 1] (by decide) rfl
                          have hKc := hK.sub (tys' := [(kMT, .byte)]) [0] rfl
                          have hFc := va_free (wc := [(aM, .inr (4, [.int th, .ref aMT, .int (nI mu), .ref aNw, .ref aNx, .int mw, .int mwa, .int (nI ma_86), .int (nI en), .long mv_89, .int mf_90, .int ml])), (aMT, .inl (kMT, 65536, .inl B))]) hD hS hA [0, 1] rfl
                          refine va_calli (va_runV (As := [.int 44]) (rest := []) ⟨hx, hb, hml, hown, hts⟩ (c_Md_sign l G dC dI H.size aM th aMT mu aNw aNx mw mwa ma_86 en mv_89 mf_90 ml kMT B 44 (by omega) (by omega)) (cwV 1 hts (gV tw_537 tw_539 ts_20 tw_5 tw_540 rfl) rfl rfl rfl (by decide +kernel) ⟨Nat.le_of_ble_eq_true rfl, Nat.le_of_ble_eq_true rfl⟩) (PW_preV hPc hKc hDc hE hS hFc (ci := 4) (q0 := 0) rfl rfl) rfl rfl hl.1 rfl (lv_room (Nat.le_of_ble_eq_true rfl)) d_Md_texture_133 ⟨Nat.le_of_ble_eq_true rfl, Nat.le_of_ble_eq_true rfl⟩) hS (fun q _ h => hFc q h) hFc (fun r_94 uu t H1 locs ht hvm hw_98 hB hz1 hk1 hS => ?_)
                          obtain ⟨ma_95, mw_96, mwa_97⟩ := uu
                          obtain ⟨hP1, hD1, hsz1⟩ := hB
                          rw [ht] at hP1 hsz1
                          obtain ⟨hP, hD⟩ := va_join (wr := [(aNx, .inl (kNx, 52650, .inl (upd (upd (upd nx (8 + (3080 * kk)) (nI sd)) ((8 + (3080 * kk)) + 1) hw_77v) ((8 + (3080 * kk)) + 2) hw_92v)))]) (w1 := [(aM, .inr (4, [.int th, .ref aMT, .int (nI mu), .ref aNw, .ref aNx, .int mw_96, .int mwa_97, .int (nI ma_95), .int (nI en), .long mv_89, .int mf_90, .int ml])), (aMT, .inl (kMT, 65536, .inl B))]) hP hD [0, 1] [2] rfl rfl (by decide) (by decide) hk1 hFc hP1 hD1
                          generalize H1 = H at hP hS ⊢
                          have hP : va_P (dC, dI) vwCl [(aNx, .inl (kNx, 52650, .inl (upd (upd (upd nx (8 + (3080 * kk)) (nI sd)) ((8 + (3080 * kk)) + 1) hw_77v) ((8 + (3080 * kk)) + 2) hw_92v))), (aM, .inr (4, [.int th, .ref aMT, .int (nI mu), .ref aNw, .ref aNx, .int mw_96, .int mwa_97, .int (nI ma_95), .int (nI en), .long mv_89, .int mf_90, .int ml])), (aMT, .inl (kMT, 65536, .inl B))] H := hP
                          have hD : va_D A [(aNx, .inl (kNx, 52650, .inl (upd (upd (upd nx (8 + (3080 * kk)) (nI sd)) ((8 + (3080 * kk)) + 1) hw_77v) ((8 + (3080 * kk)) + 2) hw_92v))), (aM, .inr (4, [.int th, .ref aMT, .int (nI mu), .ref aNw, .ref aNx, .int mw_96, .int mwa_97, .int (nI ma_95), .int (nI en), .long mv_89, .int mf_90, .int ml])), (aMT, .inl (kMT, 65536, .inl B))] := hD
                          rcases hw_98 with ⟨rfl, hw_98a, hw_98b, e1, e2⟩ | ⟨rfl, hw_98b, hw_98k, hw_98a, e2⟩
                          ·
                            have e1 := e1.symm; subst e1
                            have e2 := e2.symm; subst e2
                            refine lv_if_eq (tgt := 167) hx hb d_Md_texture_136 (by decide) (fun c_99 => ?_) (fun c_99 => ?_)
                            ·
                              exact absurd c_99 (by decide)
                            ·
                              refine lv_aload_n hx hb d_Md_texture_139 rfl (lv_at hl 3 rfl) ?_
                              refine lv_ldc2 (v := zWv 16) hx hb hown (hz _ tw_641) d_Md_texture_140 ?_
                              refine lv_iload_n hx hb d_Md_texture_143 rfl (lv_at hl 2 rfl) ?_
                              refine lv_bipush (v := 8) hx hb d_Md_texture_144 (by decide) ?_
                              refine lv_iadd hx hb d_Md_texture_146 ?_
                              refine zt_top (nI_add (8 + (3080 * kk)) 8) ?_
                              refine lv_iload hx hb d_Md_texture_147 (lv_at hl 0 rfl) ?_
                              refine lv_iload hx hb d_Md_texture_149 (lv_at hl 0 rfl) ?_
                              refine lv_iconst (v := 1) hx hb d_Md_texture_151 (by decide) ?_
                              refine lv_iconst (v := 0) hx hb d_Md_texture_152 (by decide) ?_
                              refine lv_sipush (v := 255) hx hb d_Md_texture_153 (by decide) ?_
                              refine lv_iconst (v := 0) hx hb d_Md_texture_156 (by decide) ?_
                              have hPc := hP.sub (ws' := [(aM, .inr (4, [.int th, .ref aMT, .int (nI mu), .ref aNw, .ref aNx, .int mw, .int mwa, .int (nI ma_95), .int (nI en), .long mv_89, .int mf_90, .int ml])), (aMT, .inl (kMT, 65536, .inl B)), (aNx, .inl (kNx, 52650, .inl (upd (upd (upd nx (8 + (3080 * kk)) (nI sd)) ((8 + (3080 * kk)) + 1) hw_77v) ((8 + (3080 * kk)) + 2) hw_92v)))]) [1, 2, 0] rfl
                              have hDc := hD.sub (ws' := [(aM, .inr (4, [.int th, .ref aMT, .int (nI mu), .ref aNw, .ref aNx, .int mw, .int mwa, .int (nI ma_95), .int (nI en), .long mv_89, .int mf_90, .int ml])), (aMT, .inl (kMT, 65536, .inl B)), (aNx, .inl (kNx, 52650, .inl (upd (upd (upd nx (8 + (3080 * kk)) (nI sd)) ((8 + (3080 * kk)) + 1) hw_77v) ((8 + (3080 * kk)) + 2) hw_92v)))]) [1, 2, 0] (by decide) rfl
                              have hKc := hK.sub (tys' := [(kMT, .byte), (kNx, .int)]) [0, 1] rfl
                              have hFc := va_free (wc := [(aM, .inr (4, [.int th, .ref aMT, .int (nI mu), .ref aNw, .ref aNx, .int mw, .int mwa, .int (nI ma_95), .int (nI en), .long mv_89, .int mf_90, .int ml])), (aMT, .inl (kMT, 65536, .inl B)), (aNx, .inl (kNx, 52650, .inl (upd (upd (upd nx (8 + (3080 * kk)) (nI sd)) ((8 + (3080 * kk)) + 1) hw_77v) ((8 + (3080 * kk)) + 2) hw_92v)))]) hD hS hA [1, 2, 0] rfl
                              refine va_calli (va_runV (As := [.long (zWv 16), .int (nI ((8 + (3080 * kk)) + 8)), .int (nI ((3 * sd) * sd)), .int (nI ((3 * sd) * sd)), .int (nI 1), .int 0, .int 255, .int 0]) (rest := []) ⟨hx, hb, hml, hown, hts⟩ (c_Md_list l G dC dI H.size aM th aMT mu aNw aNx mw mwa ma_95 en mv_89 mf_90 ml kMT B kNx (upd (upd (upd nx (8 + (3080 * kk)) (nI sd)) ((8 + (3080 * kk)) + 1) hw_77v) ((8 + (3080 * kk)) + 2) hw_92v) 16 ((8 + (3080 * kk)) + 8) ((3 * sd) * sd) ((3 * sd) * sd) 1 0 255 0 (by omega) (by omega) (by decide) (by decide) (zSb_len _) (by omega) (by omega) (by omega) (Or.inl rfl) (Or.inl rfl) (by decide) (by decide) (by decide) (by decide)) (cwV 8 hts (gV tw_592 tw_594 ts_30 tw_5 tw_595 rfl) rfl rfl rfl (by decide +kernel) ⟨Nat.le_of_ble_eq_true rfl, Nat.le_of_ble_eq_true rfl⟩) (PW_preV hPc hKc hDc hE hS hFc (ci := 4) (q0 := 0) rfl rfl) rfl rfl hl.1 rfl (lv_room (Nat.le_of_ble_eq_true rfl)) d_Md_texture_157 ⟨Nat.le_of_ble_eq_true rfl, Nat.le_of_ble_eq_true rfl⟩) hS (fun q _ h => hFc q h) hFc (fun r_100 uu t H1 locs ht hvm hw_108 hB hz1 hk1 hS => ?_)
                              obtain ⟨ma_101, mw_102, mwa_103, mv_104, mf_105, nx_106, ml_107⟩ := uu
                              obtain ⟨hP1, hD1, hsz1⟩ := hB
                              rw [ht] at hP1 hsz1
                              obtain ⟨hP, hD⟩ := va_join (wr := []) (w1 := [(aM, .inr (4, [.int th, .ref aMT, .int (nI mu), .ref aNw, .ref aNx, .int mw_102, .int mwa_103, .int (nI ma_101), .int (nI en), .long mv_104, .int mf_105, .int ml_107])), (aMT, .inl (kMT, 65536, .inl B)), (aNx, .inl (kNx, 52650, .inl nx_106))]) hP hD [1, 2, 0] [] rfl rfl (by decide) (by decide) hk1 hFc hP1 hD1
                              generalize H1 = H at hP hS ⊢
                              have hP : va_P (dC, dI) vwCl [(aM, .inr (4, [.int th, .ref aMT, .int (nI mu), .ref aNw, .ref aNx, .int mw_102, .int mwa_103, .int (nI ma_101), .int (nI en), .long mv_104, .int mf_105, .int ml_107])), (aMT, .inl (kMT, 65536, .inl B)), (aNx, .inl (kNx, 52650, .inl nx_106))] H := hP
                              have hD : va_D A [(aM, .inr (4, [.int th, .ref aMT, .int (nI mu), .ref aNw, .ref aNx, .int mw_102, .int mwa_103, .int (nI ma_101), .int (nI en), .long mv_104, .int mf_105, .int ml_107])), (aMT, .inl (kMT, 65536, .inl B)), (aNx, .inl (kNx, 52650, .inl nx_106))] := hD
                              simp only [zf01, zf11, zg13, zg33, decide_true, decide_false] at hw_108
                              rcases hw_108 with ⟨rfl, hw_108b, e1, e2, hw_108n, hw_108a, e3⟩ | ⟨rfl, hw_108b, hw_108k, hw_108a, e2⟩
                              ·
                                have e1 := e1.symm; subst e1
                                have e2 := e2.symm; subst e2
                                have e3 := e3.symm; subst e3
                                refine lv_if_eq (tgt := 167) hx hb d_Md_texture_160 (by decide) (fun c_109 => ?_) (fun c_109 => ?_)
                                ·
                                  exact absurd c_109 (by decide)
                                ·
                                  refine lv_iconst (v := 1) hx hb d_Md_texture_163 (by decide) ?_
                                  refine lv_goto (tgt := 168) hx hb d_Md_texture_164 (by decide) ?_
                                  refine zt_size (fun hzs => ?_)
                                  have hP9 := hP.sub (ws' := [(aM, .inr (4, [.int th, .ref aMT, .int (nI mu), .ref aNw, .ref aNx, .int mw, .int mwa, .int (nI ma_101), .int (nI en), .long mv_104, .int mf_105, .int (nI hw_108n)])), (aMT, .inl (kMT, 65536, .inl B)), (aNx, .inl (kNx, 52650, .inl nx_106))]) [0, 1, 2] rfl
                                  have hD9 := hD.sub (ws' := [(aM, .inr (4, [.int th, .ref aMT, .int (nI mu), .ref aNw, .ref aNx, .int mw, .int mwa, .int (nI ma_101), .int (nI en), .long mv_104, .int mf_105, .int (nI hw_108n)])), (aMT, .inl (kMT, 65536, .inl B)), (aNx, .inl (kNx, 52650, .inl nx_106))]) [0, 1, 2] (by decide) rfl
                                  exact W.zret (v := 1) hx hb hr rfl (fun t ht hW => ⟨⟨1, (ma_101, mw, mwa, mv_104, mf_105, nx_106, nI hw_108n), rfl, Or.inl ⟨rfl, by omega, rfl, rfl, by simp only [mTexture, mListK, mNumK, zB_ok, nI_clamp (show sd < 2 ^ 31 by omega), if_pos (zpow1 sd (by omega) (Or.inr (Or.inl (congrArg nI c_63)))), hk9, hw_8a, hw_68a, hw_77a, hw_83a, hw_92a, hw_98a, hw_108a]⟩, by rw [ht]; exact hP9, hD9, by rw [ht]; exact hzs⟩, hS.F ht⟩) hS.2.2 d_Md_texture_168
                              ·
                                have e2 := e2.symm; subst e2
                                refine lv_if_eq (tgt := 167) hx hb d_Md_texture_160 (by decide) (fun c_110 => ?_) (fun c_110 => ?_)
                                ·
                                  refine lv_iconst (v := 0) hx hb d_Md_texture_167 (by decide) ?_
                                  refine zt_size (fun hzs => ?_)
                                  have hP9 := hP.sub (ws' := [(aM, .inr (4, [.int th, .ref aMT, .int (nI mu), .ref aNw, .ref aNx, .int mw_102, .int (nI hw_108k), .int (nI ma_101), .int (nI en), .long mv_104, .int mf_105, .int ml_107])), (aMT, .inl (kMT, 65536, .inl B)), (aNx, .inl (kNx, 52650, .inl nx_106))]) [0, 1, 2] rfl
                                  have hD9 := hD.sub (ws' := [(aM, .inr (4, [.int th, .ref aMT, .int (nI mu), .ref aNw, .ref aNx, .int mw_102, .int (nI hw_108k), .int (nI ma_101), .int (nI en), .long mv_104, .int mf_105, .int ml_107])), (aMT, .inl (kMT, 65536, .inl B)), (aNx, .inl (kNx, 52650, .inl nx_106))]) [0, 1, 2] (by decide) rfl
                                  exact W.zret (v := 0) hx hb hr rfl (fun t ht hW => ⟨⟨0, (ma_101, mw_102, nI hw_108k, mv_104, mf_105, nx_106, ml_107), rfl, Or.inr ⟨rfl, by omega, _, by simp only [mTexture, mListK, mNumK, zB_ok, nI_clamp (show sd < 2 ^ 31 by omega), if_pos (zpow1 sd (by omega) (Or.inr (Or.inl (congrArg nI c_63)))), hk9, hw_8a, hw_68a, hw_77a, hw_83a, hw_92a, hw_98a, hw_108a, zB_er], rfl⟩, by rw [ht]; exact hP9, hD9, by rw [ht]; exact hzs⟩, hS.F ht⟩) hS.2.2 d_Md_texture_168
                                ·
                                  exact absurd (by decide) c_110
                          ·
                            have e2 := e2.symm; subst e2
                            refine lv_if_eq (tgt := 167) hx hb d_Md_texture_136 (by decide) (fun c_111 => ?_) (fun c_111 => ?_)
                            ·
                              refine lv_iconst (v := 0) hx hb d_Md_texture_167 (by decide) ?_
                              refine zt_size (fun hzs => ?_)
                              have hP9 := hP.sub (ws' := [(aM, .inr (4, [.int th, .ref aMT, .int (nI mu), .ref aNw, .ref aNx, .int mw_96, .int (nI hw_98k), .int (nI ma_95), .int (nI en), .long mv_89, .int mf_90, .int ml])), (aMT, .inl (kMT, 65536, .inl B)), (aNx, .inl (kNx, 52650, .inl (upd (upd (upd nx (8 + (3080 * kk)) (nI sd)) ((8 + (3080 * kk)) + 1) hw_77v) ((8 + (3080 * kk)) + 2) hw_92v)))]) [1, 2, 0] rfl
                              have hD9 := hD.sub (ws' := [(aM, .inr (4, [.int th, .ref aMT, .int (nI mu), .ref aNw, .ref aNx, .int mw_96, .int (nI hw_98k), .int (nI ma_95), .int (nI en), .long mv_89, .int mf_90, .int ml])), (aMT, .inl (kMT, 65536, .inl B)), (aNx, .inl (kNx, 52650, .inl (upd (upd (upd nx (8 + (3080 * kk)) (nI sd)) ((8 + (3080 * kk)) + 1) hw_77v) ((8 + (3080 * kk)) + 2) hw_92v)))]) [1, 2, 0] (by decide) rfl
                              exact W.zret (v := 0) hx hb hr rfl (fun t ht hW => ⟨⟨0, (ma_95, mw_96, nI hw_98k, mv_89, mf_90, upd (upd (upd nx (8 + (3080 * kk)) (nI sd)) ((8 + (3080 * kk)) + 1) hw_77v) ((8 + (3080 * kk)) + 2) hw_92v, ml), rfl, Or.inr ⟨rfl, by omega, _, by simp only [mTexture, mListK, mNumK, zB_ok, nI_clamp (show sd < 2 ^ 31 by omega), if_pos (zpow1 sd (by omega) (Or.inr (Or.inl (congrArg nI c_63)))), hk9, hw_8a, hw_68a, hw_77a, hw_83a, hw_92a, hw_98a, zB_er], rfl⟩, by rw [ht]; exact hP9, hD9, by rw [ht]; exact hzs⟩, hS.F ht⟩) hS.2.2 d_Md_texture_168
                            ·
                              exact absurd (by decide) c_111
                      ·
                        have e2 := e2.symm; subst e2
                        refine lv_if_eq (tgt := 167) hx hb d_Md_texture_127 (by decide) (fun c_112 => ?_) (fun c_112 => ?_)
                        ·
                          refine lv_iconst (v := 0) hx hb d_Md_texture_167 (by decide) ?_
                          refine zt_size (fun hzs => ?_)
                          have hP9 := hP.sub (ws' := [(aM, .inr (4, [.int th, .ref aMT, .int (nI mu), .ref aNw, .ref aNx, .int mw_87, .int (nI hw_92k), .int (nI ma_86), .int (nI en), .long mv_89, .int mf_90, .int ml])), (aMT, .inl (kMT, 65536, .inl B)), (aNx, .inl (kNx, 52650, .inl nx_91))]) [0, 1, 2] rfl
                          have hD9 := hD.sub (ws' := [(aM, .inr (4, [.int th, .ref aMT, .int (nI mu), .ref aNw, .ref aNx, .int mw_87, .int (nI hw_92k), .int (nI ma_86), .int (nI en), .long mv_89, .int mf_90, .int ml])), (aMT, .inl (kMT, 65536, .inl B)), (aNx, .inl (kNx, 52650, .inl nx_91))]) [0, 1, 2] (by decide) rfl
                          exact W.zret (v := 0) hx hb hr rfl (fun t ht hW => ⟨⟨0, (ma_86, mw_87, nI hw_92k, mv_89, mf_90, nx_91, ml), rfl, Or.inr ⟨rfl, by omega, _, by simp only [mTexture, mListK, mNumK, zB_ok, nI_clamp (show sd < 2 ^ 31 by omega), if_pos (zpow1 sd (by omega) (Or.inr (Or.inl (congrArg nI c_63)))), hk9, hw_8a, hw_68a, hw_77a, hw_83a, hw_92a, zB_er], rfl⟩, by rw [ht]; exact hP9, hD9, by rw [ht]; exact hzs⟩, hS.F ht⟩) hS.2.2 d_Md_texture_168
                        ·
                          exact absurd (by decide) c_112
                  ·
                    have e2 := e2.symm; subst e2
                    refine lv_if_eq (tgt := 167) hx hb d_Md_texture_112 (by decide) (fun c_113 => ?_) (fun c_113 => ?_)
                    ·
                      refine lv_iconst (v := 0) hx hb d_Md_texture_167 (by decide) ?_
                      refine zt_size (fun hzs => ?_)
                      have hP9 := hP.sub (ws' := [(aM, .inr (4, [.int th, .ref aMT, .int (nI mu), .ref aNw, .ref aNx, .int mw_81, .int (nI hw_83k), .int (nI ma_80), .int (nI en), .long mv_74, .int mf_75, .int ml])), (aMT, .inl (kMT, 65536, .inl B)), (aNx, .inl (kNx, 52650, .inl (upd (upd nx (8 + (3080 * kk)) (nI sd)) ((8 + (3080 * kk)) + 1) hw_77v)))]) [1, 2, 0] rfl
                      have hD9 := hD.sub (ws' := [(aM, .inr (4, [.int th, .ref aMT, .int (nI mu), .ref aNw, .ref aNx, .int mw_81, .int (nI hw_83k), .int (nI ma_80), .int (nI en), .long mv_74, .int mf_75, .int ml])), (aMT, .inl (kMT, 65536, .inl B)), (aNx, .inl (kNx, 52650, .inl (upd (upd nx (8 + (3080 * kk)) (nI sd)) ((8 + (3080 * kk)) + 1) hw_77v)))]) [1, 2, 0] (by decide) rfl
                      exact W.zret (v := 0) hx hb hr rfl (fun t ht hW => ⟨⟨0, (ma_80, mw_81, nI hw_83k, mv_74, mf_75, upd (upd nx (8 + (3080 * kk)) (nI sd)) ((8 + (3080 * kk)) + 1) hw_77v, ml), rfl, Or.inr ⟨rfl, by omega, _, by simp only [mTexture, mListK, mNumK, zB_ok, nI_clamp (show sd < 2 ^ 31 by omega), if_pos (zpow1 sd (by omega) (Or.inr (Or.inl (congrArg nI c_63)))), hk9, hw_8a, hw_68a, hw_77a, hw_83a, zB_er], rfl⟩, by rw [ht]; exact hP9, hD9, by rw [ht]; exact hzs⟩, hS.F ht⟩) hS.2.2 d_Md_texture_168
                    ·
                      exact absurd (by decide) c_113
              ·
                have e2 := e2.symm; subst e2
                refine lv_if_eq (tgt := 167) hx hb d_Md_texture_103 (by decide) (fun c_114 => ?_) (fun c_114 => ?_)
                ·
                  refine lv_iconst (v := 0) hx hb d_Md_texture_167 (by decide) ?_
                  refine zt_size (fun hzs => ?_)
                  have hP9 := hP.sub (ws' := [(aM, .inr (4, [.int th, .ref aMT, .int (nI mu), .ref aNw, .ref aNx, .int mw_72, .int (nI hw_77k), .int (nI ma_71), .int (nI en), .long mv_74, .int mf_75, .int ml])), (aMT, .inl (kMT, 65536, .inl B)), (aNx, .inl (kNx, 52650, .inl nx_76))]) [0, 1, 2] rfl
                  have hD9 := hD.sub (ws' := [(aM, .inr (4, [.int th, .ref aMT, .int (nI mu), .ref aNw, .ref aNx, .int mw_72, .int (nI hw_77k), .int (nI ma_71), .int (nI en), .long mv_74, .int mf_75, .int ml])), (aMT, .inl (kMT, 65536, .inl B)), (aNx, .inl (kNx, 52650, .inl nx_76))]) [0, 1, 2] (by decide) rfl
                  exact W.zret (v := 0) hx hb hr rfl (fun t ht hW => ⟨⟨0, (ma_71, mw_72, nI hw_77k, mv_74, mf_75, nx_76, ml), rfl, Or.inr ⟨rfl, by omega, _, by simp only [mTexture, mListK, mNumK, zB_ok, nI_clamp (show sd < 2 ^ 31 by omega), if_pos (zpow1 sd (by omega) (Or.inr (Or.inl (congrArg nI c_63)))), hk9, hw_8a, hw_68a, hw_77a, zB_er], rfl⟩, by rw [ht]; exact hP9, hD9, by rw [ht]; exact hzs⟩, hS.F ht⟩) hS.2.2 d_Md_texture_168
                ·
                  exact absurd (by decide) c_114
          ·
            have e2 := e2.symm; subst e2
            refine lv_if_eq (tgt := 167) hx hb d_Md_texture_88 (by decide) (fun c_115 => ?_) (fun c_115 => ?_)
            ·
              refine lv_iconst (v := 0) hx hb d_Md_texture_167 (by decide) ?_
              refine zt_size (fun hzs => ?_)
              have hP9 := hP.sub (ws' := [(aM, .inr (4, [.int th, .ref aMT, .int (nI mu), .ref aNw, .ref aNx, .int mw_66, .int (nI hw_68k), .int (nI ma_65), .int (nI en), .long mv_5, .int (nI h9), .int ml])), (aMT, .inl (kMT, 65536, .inl B)), (aNx, .inl (kNx, 52650, .inl (upd nx (8 + (3080 * kk)) (nI sd))))]) [1, 2, 0] rfl
              have hD9 := hD.sub (ws' := [(aM, .inr (4, [.int th, .ref aMT, .int (nI mu), .ref aNw, .ref aNx, .int mw_66, .int (nI hw_68k), .int (nI ma_65), .int (nI en), .long mv_5, .int (nI h9), .int ml])), (aMT, .inl (kMT, 65536, .inl B)), (aNx, .inl (kNx, 52650, .inl (upd nx (8 + (3080 * kk)) (nI sd))))]) [1, 2, 0] (by decide) rfl
              exact W.zret (v := 0) hx hb hr rfl (fun t ht hW => ⟨⟨0, (ma_65, mw_66, nI hw_68k, mv_5, nI h9, upd nx (8 + (3080 * kk)) (nI sd), ml), rfl, Or.inr ⟨rfl, by omega, _, by simp only [mTexture, mListK, mNumK, zB_ok, nI_clamp (show sd < 2 ^ 31 by omega), if_pos (zpow1 sd (by omega) (Or.inr (Or.inl (congrArg nI c_63)))), hk9, hw_8a, hw_68a, zB_er], rfl⟩, by rw [ht]; exact hP9, hD9, by rw [ht]; exact hzs⟩, hS.F ht⟩) hS.2.2 d_Md_texture_168
            ·
              exact absurd (by decide) c_115
        ·
          have c_63 : ¬ (sd = 2) := fun z => c_63 ((@nI_eq sd 2 (by omega) (by omega)).mpr z)
          refine lv_iload_n hx hb d_Md_texture_42 rfl (lv_at hl 0 rfl) ?_
          refine lv_iconst (v := 4) hx hb d_Md_texture_43 (by decide) ?_
          refine lv_icmp_eq (tgt := 75) hx hb d_Md_texture_44 (by decide) (fun c_116 => ?_) (fun c_116 => ?_)
          ·
            have c_116 : sd = 4 := (@nI_eq sd 4 (by omega) (by omega)).mp c_116
            refine lv_iconst (v := 3) hx hb d_Md_texture_75 (by decide) ?_
            refine lv_iload_n hx hb d_Md_texture_76 rfl (lv_at hl 0 rfl) ?_
            refine lv_imul hx hb d_Md_texture_77 ?_
            refine zt_top (pk_mul 3 sd) ?_
            refine lv_iload_n hx hb d_Md_texture_78 rfl (lv_at hl 0 rfl) ?_
            refine lv_imul hx hb d_Md_texture_79 ?_
            refine zt_top (pk_mul (3 * sd) sd) ?_
            refine lv_istore (lv' := [(4, .int (nI ((3 * sd) * sd))), (3, .int (nI sd)), (2, .int (nI (8 + (3080 * kk)))), (0, .ref aM), (1, .int (nI kk))]) hx hb d_Md_texture_80 hl (by decide) rfl (fun ls hl => ?_)
            refine lv_aload_n hx hb d_Md_texture_82 rfl (lv_at hl 3 rfl) ?_
            refine lv_bipush (v := 44) hx hb d_Md_texture_83 (by decide) ?_
            have hPc := hP.sub (ws' := [(aM, .inr (4, [.int th, .ref aMT, .int (nI mu), .ref aNw, .ref aNx, .int mw, .int mwa, .int (nI ma_2), .int (nI en), .long mv_5, .int (nI h9), .int ml])), (aMT, .inl (kMT, 65536, .inl B))]) [0, 1] rfl
            have hDc := hD.sub (ws' := [(aM, .inr (4, [.int th, .ref aMT, .int (nI mu), .ref aNw, .ref aNx, .int mw, .int mwa, .int (nI ma_2), .int (nI en), .long mv_5, .int (nI h9), .int ml])), (aMT, .inl (kMT, 65536, .inl B))]) [0, 1] (by decide) rfl
            have hKc := hK.sub (tys' := [(kMT, .byte)]) [0] rfl
            have hFc := va_free (wc := [(aM, .inr (4, [.int th, .ref aMT, .int (nI mu), .ref aNw, .ref aNx, .int mw, .int mwa, .int (nI ma_2), .int (nI en), .long mv_5, .int (nI h9), .int ml])), (aMT, .inl (kMT, 65536, .inl B))]) hD hS hA [0, 1] rfl
            refine va_calli (va_runV (As := [.int 44]) (rest := []) ⟨hx, hb, hml, hown, hts⟩ (c_Md_sign l G dC dI H.size aM th aMT mu aNw aNx mw mwa ma_2 en mv_5 (nI h9) ml kMT B 44 (by omega) (by omega)) (cwV 1 hts (gV tw_537 tw_539 ts_20 tw_5 tw_540 rfl) rfl rfl rfl (by decide +kernel) ⟨Nat.le_of_ble_eq_true rfl, Nat.le_of_ble_eq_true rfl⟩) (PW_preV hPc hKc hDc hE hS hFc (ci := 4) (q0 := 0) rfl rfl) rfl rfl hl.1 rfl (lv_room (Nat.le_of_ble_eq_true rfl)) d_Md_texture_85 ⟨Nat.le_of_ble_eq_true rfl, Nat.le_of_ble_eq_true rfl⟩) hS (fun q _ h => hFc q h) hFc (fun r_117 uu t H1 locs ht hvm hw_121 hB hz1 hk1 hS => ?_)
            obtain ⟨ma_118, mw_119, mwa_120⟩ := uu
            obtain ⟨hP1, hD1, hsz1⟩ := hB
            rw [ht] at hP1 hsz1
            obtain ⟨hP, hD⟩ := va_join (wr := [(aNx, .inl (kNx, 52650, .inl (upd nx (8 + (3080 * kk)) (nI sd))))]) (w1 := [(aM, .inr (4, [.int th, .ref aMT, .int (nI mu), .ref aNw, .ref aNx, .int mw_119, .int mwa_120, .int (nI ma_118), .int (nI en), .long mv_5, .int (nI h9), .int ml])), (aMT, .inl (kMT, 65536, .inl B))]) hP hD [0, 1] [2] rfl rfl (by decide) (by decide) hk1 hFc hP1 hD1
            generalize H1 = H at hP hS ⊢
            have hP : va_P (dC, dI) vwCl [(aNx, .inl (kNx, 52650, .inl (upd nx (8 + (3080 * kk)) (nI sd)))), (aM, .inr (4, [.int th, .ref aMT, .int (nI mu), .ref aNw, .ref aNx, .int mw_119, .int mwa_120, .int (nI ma_118), .int (nI en), .long mv_5, .int (nI h9), .int ml])), (aMT, .inl (kMT, 65536, .inl B))] H := hP
            have hD : va_D A [(aNx, .inl (kNx, 52650, .inl (upd nx (8 + (3080 * kk)) (nI sd)))), (aM, .inr (4, [.int th, .ref aMT, .int (nI mu), .ref aNw, .ref aNx, .int mw_119, .int mwa_120, .int (nI ma_118), .int (nI en), .long mv_5, .int (nI h9), .int ml])), (aMT, .inl (kMT, 65536, .inl B))] := hD
            rcases hw_121 with ⟨rfl, hw_121a, hw_121b, e1, e2⟩ | ⟨rfl, hw_121b, hw_121k, hw_121a, e2⟩
            ·
              have e1 := e1.symm; subst e1
              have e2 := e2.symm; subst e2
              refine lv_if_eq (tgt := 167) hx hb d_Md_texture_88 (by decide) (fun c_122 => ?_) (fun c_122 => ?_)
              ·
                exact absurd c_122 (by decide)
              ·
                refine lv_aload_n hx hb d_Md_texture_91 rfl (lv_at hl 3 rfl) ?_
                refine lv_ldc2 (v := zWv 14) hx hb hown (hz _ tw_639) d_Md_texture_92 ?_
                refine lv_iload_n hx hb d_Md_texture_95 rfl (lv_at hl 2 rfl) ?_
                refine lv_iconst (v := 1) hx hb d_Md_texture_96 (by decide) ?_
                refine lv_iadd hx hb d_Md_texture_97 ?_
                refine zt_top (nI_add (8 + (3080 * kk)) 1) ?_
                refine lv_iconst (v := 0) hx hb d_Md_texture_98 (by decide) ?_
                refine lv_iconst (v := 2) hx hb d_Md_texture_99 (by decide) ?_
                have hPc := hP.sub (ws' := [(aM, .inr (4, [.int th, .ref aMT, .int (nI mu), .ref aNw, .ref aNx, .int mw, .int mwa, .int (nI ma_118), .int (nI en), .long mv_5, .int (nI h9), .int ml])), (aMT, .inl (kMT, 65536, .inl B)), (aNx, .inl (kNx, 52650, .inl (upd nx (8 + (3080 * kk)) (nI sd))))]) [1, 2, 0] rfl
                have hDc := hD.sub (ws' := [(aM, .inr (4, [.int th, .ref aMT, .int (nI mu), .ref aNw, .ref aNx, .int mw, .int mwa, .int (nI ma_118), .int (nI en), .long mv_5, .int (nI h9), .int ml])), (aMT, .inl (kMT, 65536, .inl B)), (aNx, .inl (kNx, 52650, .inl (upd nx (8 + (3080 * kk)) (nI sd))))]) [1, 2, 0] (by decide) rfl
                have hKc := hK.sub (tys' := [(kMT, .byte), (kNx, .int)]) [0, 1] rfl
                have hFc := va_free (wc := [(aM, .inr (4, [.int th, .ref aMT, .int (nI mu), .ref aNw, .ref aNx, .int mw, .int mwa, .int (nI ma_118), .int (nI en), .long mv_5, .int (nI h9), .int ml])), (aMT, .inl (kMT, 65536, .inl B)), (aNx, .inl (kNx, 52650, .inl (upd nx (8 + (3080 * kk)) (nI sd))))]) hD hS hA [1, 2, 0] rfl
                refine va_calli (va_runV (As := [.long (zWv 14), .int (nI ((8 + (3080 * kk)) + 1)), .int 0, .int 2]) (rest := []) ⟨hx, hb, hml, hown, hts⟩ (c_Md_named l G dC dI H.size aM th aMT mu aNw aNx mw mwa ma_118 en mv_5 (nI h9) ml kMT B kNx (upd nx (8 + (3080 * kk)) (nI sd)) 14 ((8 + (3080 * kk)) + 1) 0 2 (by omega) (by omega) (by decide) (by decide) (zSb_len _) (by omega) (by decide) (by decide) (by decide) (by decide)) (cwV 4 hts (gV tw_611 tw_613 ts_33 tw_5 tw_614 rfl) rfl rfl rfl (by decide +kernel) ⟨Nat.le_of_ble_eq_true rfl, Nat.le_of_ble_eq_true rfl⟩) (PW_preV hPc hKc hDc hE hS hFc (ci := 4) (q0 := 0) rfl rfl) rfl rfl hl.1 rfl (lv_room (Nat.le_of_ble_eq_true rfl)) d_Md_texture_100 ⟨Nat.le_of_ble_eq_true rfl, Nat.le_of_ble_eq_true rfl⟩) hS (fun q _ h => hFc q h) hFc (fun r_123 uu t H1 locs ht hvm hw_130 hB hz1 hk1 hS => ?_)
                obtain ⟨ma_124, mw_125, mwa_126, mv_127, mf_128, nx_129⟩ := uu
                obtain ⟨hP1, hD1, hsz1⟩ := hB
                rw [ht] at hP1 hsz1
                obtain ⟨hP, hD⟩ := va_join (wr := []) (w1 := [(aM, .inr (4, [.int th, .ref aMT, .int (nI mu), .ref aNw, .ref aNx, .int mw_125, .int mwa_126, .int (nI ma_124), .int (nI en), .long mv_127, .int mf_128, .int ml])), (aMT, .inl (kMT, 65536, .inl B)), (aNx, .inl (kNx, 52650, .inl nx_129))]) hP hD [1, 2, 0] [] rfl rfl (by decide) (by decide) hk1 hFc hP1 hD1
                generalize H1 = H at hP hS ⊢
                have hP : va_P (dC, dI) vwCl [(aM, .inr (4, [.int th, .ref aMT, .int (nI mu), .ref aNw, .ref aNx, .int mw_125, .int mwa_126, .int (nI ma_124), .int (nI en), .long mv_127, .int mf_128, .int ml])), (aMT, .inl (kMT, 65536, .inl B)), (aNx, .inl (kNx, 52650, .inl nx_129))] H := hP
                have hD : va_D A [(aM, .inr (4, [.int th, .ref aMT, .int (nI mu), .ref aNw, .ref aNx, .int mw_125, .int mwa_126, .int (nI ma_124), .int (nI en), .long mv_127, .int mf_128, .int ml])), (aMT, .inl (kMT, 65536, .inl B)), (aNx, .inl (kNx, 52650, .inl nx_129))] := hD
                rcases hw_130 with ⟨rfl, hw_130b, e1, e2, hw_130v, hw_130a, e3⟩ | ⟨rfl, hw_130b, hw_130k, hw_130a, e2⟩
                ·
                  have e1 := e1.symm; subst e1
                  have e2 := e2.symm; subst e2
                  have e3 := e3.symm; subst e3
                  refine lv_if_eq (tgt := 167) hx hb d_Md_texture_103 (by decide) (fun c_131 => ?_) (fun c_131 => ?_)
                  ·
                    exact absurd c_131 (by decide)
                  ·
                    refine lv_aload_n hx hb d_Md_texture_106 rfl (lv_at hl 3 rfl) ?_
                    refine lv_bipush (v := 44) hx hb d_Md_texture_107 (by decide) ?_
                    have hPc := hP.sub (ws' := [(aM, .inr (4, [.int th, .ref aMT, .int (nI mu), .ref aNw, .ref aNx, .int mw, .int mwa, .int (nI ma_124), .int (nI en), .long mv_127, .int mf_128, .int ml])), (aMT, .inl (kMT, 65536, .inl B))]) [0, 1] rfl
                    have hDc := hD.sub (ws' := [(aM, .inr (4, [.int th, .ref aMT, .int (nI mu), .ref aNw, .ref aNx, .int mw, .int mwa, .int (nI ma_124), .int (nI en), .long mv_127, .int mf_128, .int ml])), (aMT, .inl (kMT, 65536, .inl B))]) [0, 1] (by decide) rfl
                    have hKc := hK.sub (tys' := [(kMT, .byte)]) [0] rfl
                    have hFc := va_free (wc := [(aM, .inr (4, [.int th, .ref aMT, .int (nI mu), .ref aNw, .ref aNx, .int mw, .int mwa, .int (nI ma_124), .int (nI en), .long mv_127, .int mf_128, .int ml])), (aMT, .inl (kMT, 65536, .inl B))]) hD hS hA [0, 1] rfl
                    refine va_calli (va_runV (As := [.int 44]) (rest := []) ⟨hx, hb, hml, hown, hts⟩ (c_Md_sign l G dC dI H.size aM th aMT mu aNw aNx mw mwa ma_124 en mv_127 mf_128 ml kMT B 44 (by omega) (by omega)) (cwV 1 hts (gV tw_537 tw_539 ts_20 tw_5 tw_540 rfl) rfl rfl rfl (by decide +kernel) ⟨Nat.le_of_ble_eq_true rfl, Nat.le_of_ble_eq_true rfl⟩) (PW_preV hPc hKc hDc hE hS hFc (ci := 4) (q0 := 0) rfl rfl) rfl rfl hl.1 rfl (lv_room (Nat.le_of_ble_eq_true rfl)) d_Md_texture_109 ⟨Nat.le_of_ble_eq_true rfl, Nat.le_of_ble_eq_true rfl⟩) hS (fun q _ h => hFc q h) hFc (fun r_132 uu t H1 locs ht hvm hw_136 hB hz1 hk1 hS => ?_)
                    obtain ⟨ma_133, mw_134, mwa_135⟩ := uu
                    obtain ⟨hP1, hD1, hsz1⟩ := hB
                    rw [ht] at hP1 hsz1
                    obtain ⟨hP, hD⟩ := va_join (wr := [(aNx, .inl (kNx, 52650, .inl (upd (upd nx (8 + (3080 * kk)) (nI sd)) ((8 + (3080 * kk)) + 1) hw_130v)))]) (w1 := [(aM, .inr (4, [.int th, .ref aMT, .int (nI mu), .ref aNw, .ref aNx, .int mw_134, .int mwa_135, .int (nI ma_133), .int (nI en), .long mv_127, .int mf_128, .int ml])), (aMT, .inl (kMT, 65536, .inl B))]) hP hD [0, 1] [2] rfl rfl (by decide) (by decide) hk1 hFc hP1 hD1
                    generalize H1 = H at hP hS ⊢
                    have hP : va_P (dC, dI) vwCl [(aNx, .inl (kNx, 52650, .inl (upd (upd nx (8 + (3080 * kk)) (nI sd)) ((8 + (3080 * kk)) + 1) hw_130v))), (aM, .inr (4, [.int th, .ref aMT, .int (nI mu), .ref aNw, .ref aNx, .int mw_134, .int mwa_135, .int (nI ma_133), .int (nI en), .long mv_127, .int mf_128, .int ml])), (aMT, .inl (kMT, 65536, .inl B))] H := hP
                    have hD : va_D A [(aNx, .inl (kNx, 52650, .inl (upd (upd nx (8 + (3080 * kk)) (nI sd)) ((8 + (3080 * kk)) + 1) hw_130v))), (aM, .inr (4, [.int th, .ref aMT, .int (nI mu), .ref aNw, .ref aNx, .int mw_134, .int mwa_135, .int (nI ma_133), .int (nI en), .long mv_127, .int mf_128, .int ml])), (aMT, .inl (kMT, 65536, .inl B))] := hD
                    rcases hw_136 with ⟨rfl, hw_136a, hw_136b, e1, e2⟩ | ⟨rfl, hw_136b, hw_136k, hw_136a, e2⟩
                    ·
                      have e1 := e1.symm; subst e1
                      have e2 := e2.symm; subst e2
                      refine lv_if_eq (tgt := 167) hx hb d_Md_texture_112 (by decide) (fun c_137 => ?_) (fun c_137 => ?_)
                      ·
                        exact absurd c_137 (by decide)
                      ·
                        refine lv_aload_n hx hb d_Md_texture_115 rfl (lv_at hl 3 rfl) ?_
                        refine lv_ldc2 (v := zWv 15) hx hb hown (hz _ tw_640) d_Md_texture_116 ?_
                        refine lv_iload_n hx hb d_Md_texture_119 rfl (lv_at hl 2 rfl) ?_
                        refine lv_iconst (v := 2) hx hb d_Md_texture_120 (by decide) ?_
                        refine lv_iadd hx hb d_Md_texture_121 ?_
                        refine zt_top (nI_add (8 + (3080 * kk)) 2) ?_
                        refine lv_iconst (v := 0) hx hb d_Md_texture_122 (by decide) ?_
                        refine lv_iconst (v := 1) hx hb d_Md_texture_123 (by decide) ?_
                        have hPc := hP.sub (ws' := [(aM, .inr (4, [.int th, .ref aMT, .int (nI mu), .ref aNw, .ref aNx, .int mw, .int mwa, .int (nI ma_133), .int (nI en), .long mv_127, .int mf_128, .int ml])), (aMT, .inl (kMT, 65536, .inl B)), (aNx, .inl (kNx, 52650, .inl (upd (upd nx (8 + (3080 * kk)) (nI sd)) ((8 + (3080 * kk)) + 1) hw_130v)))]) [1, 2, 0] rfl
                        have hDc := hD.sub (ws' := [(aM, .inr (4, [.int th, .ref aMT, .int (nI mu), .ref aNw, .ref aNx, .int mw, .int mwa, .int (nI ma_133), .int (nI en), .long mv_127, .int mf_128, .int ml])), (aMT, .inl (kMT, 65536, .inl B)), (aNx, .inl (kNx, 52650, .inl (upd (upd nx (8 + (3080 * kk)) (nI sd)) ((8 + (3080 * kk)) + 1) hw_130v)))]) [1, 2, 0] (by decide) rfl
                        have hKc := hK.sub (tys' := [(kMT, .byte), (kNx, .int)]) [0, 1] rfl
                        have hFc := va_free (wc := [(aM, .inr (4, [.int th, .ref aMT, .int (nI mu), .ref aNw, .ref aNx, .int mw, .int mwa, .int (nI ma_133), .int (nI en), .long mv_127, .int mf_128, .int ml])), (aMT, .inl (kMT, 65536, .inl B)), (aNx, .inl (kNx, 52650, .inl (upd (upd nx (8 + (3080 * kk)) (nI sd)) ((8 + (3080 * kk)) + 1) hw_130v)))]) hD hS hA [1, 2, 0] rfl
                        refine va_calli (va_runV (As := [.long (zWv 15), .int (nI ((8 + (3080 * kk)) + 2)), .int 0, .int 1]) (rest := []) ⟨hx, hb, hml, hown, hts⟩ (c_Md_named l G dC dI H.size aM th aMT mu aNw aNx mw mwa ma_133 en mv_127 mf_128 ml kMT B kNx (upd (upd nx (8 + (3080 * kk)) (nI sd)) ((8 + (3080 * kk)) + 1) hw_130v) 15 ((8 + (3080 * kk)) + 2) 0 1 (by omega) (by omega) (by decide) (by decide) (zSb_len _) (by omega) (by decide) (by decide) (by decide) (by decide)) (cwV 4 hts (gV tw_611 tw_613 ts_33 tw_5 tw_614 rfl) rfl rfl rfl (by decide +kernel) ⟨Nat.le_of_ble_eq_true rfl, Nat.le_of_ble_eq_true rfl⟩) (PW_preV hPc hKc hDc hE hS hFc (ci := 4) (q0 := 0) rfl rfl) rfl rfl hl.1 rfl (lv_room (Nat.le_of_ble_eq_true rfl)) d_Md_texture_124 ⟨Nat.le_of_ble_eq_true rfl, Nat.le_of_ble_eq_true rfl⟩) hS (fun q _ h => hFc q h) hFc (fun r_138 uu t H1 locs ht hvm hw_145 hB hz1 hk1 hS => ?_)
                        obtain ⟨ma_139, mw_140, mwa_141, mv_142, mf_143, nx_144⟩ := uu
                        obtain ⟨hP1, hD1, hsz1⟩ := hB
                        rw [ht] at hP1 hsz1
                        obtain ⟨hP, hD⟩ := va_join (wr := []) (w1 := [(aM, .inr (4, [.int th, .ref aMT, .int (nI mu), .ref aNw, .ref aNx, .int mw_140, .int mwa_141, .int (nI ma_139), .int (nI en), .long mv_142, .int mf_143, .int ml])), (aMT, .inl (kMT, 65536, .inl B)), (aNx, .inl (kNx, 52650, .inl nx_144))]) hP hD [1, 2, 0] [] rfl rfl (by decide) (by decide) hk1 hFc hP1 hD1
                        generalize H1 = H at hP hS ⊢
                        have hP : va_P (dC, dI) vwCl [(aM, .inr (4, [.int th, .ref aMT, .int (nI mu), .ref aNw, .ref aNx, .int mw_140, .int mwa_141, .int (nI ma_139), .int (nI en), .long mv_142, .int mf_143, .int ml])), (aMT, .inl (kMT, 65536, .inl B)), (aNx, .inl (kNx, 52650, .inl nx_144))] H := hP
                        have hD : va_D A [(aM, .inr (4, [.int th, .ref aMT, .int (nI mu), .ref aNw, .ref aNx, .int mw_140, .int mwa_141, .int (nI ma_139), .int (nI en), .long mv_142, .int mf_143, .int ml])), (aMT, .inl (kMT, 65536, .inl B)), (aNx, .inl (kNx, 52650, .inl nx_144))] := hD
                        rcases hw_145 with ⟨rfl, hw_145b, e1, e2, hw_145v, hw_145a, e3⟩ | ⟨rfl, hw_145b, hw_145k, hw_145a, e2⟩
                        ·
                          have e1 := e1.symm; subst e1
                          have e2 := e2.symm; subst e2
                          have e3 := e3.symm; subst e3
                          refine lv_if_eq (tgt := 167) hx hb d_Md_texture_127 (by decide) (fun c_146 => ?_) (fun c_146 => ?_)
                          ·
                            exact absurd c_146 (by decide)
                          ·
                            refine lv_aload_n hx hb d_Md_texture_130 rfl (lv_at hl 3 rfl) ?_
                            refine lv_bipush (v := 44) hx hb d_Md_texture_131 (by decide) ?_
                            have hPc := hP.sub (ws' := [(aM, .inr (4, [.int th, .ref aMT, .int (nI mu), .ref aNw, .ref aNx, .int mw, .int mwa, .int (nI ma_139), .int (nI en), .long mv_142, .int mf_143, .int ml])), (aMT, .inl (kMT, 65536, .inl B))]) [0, 1] rfl
                            have hDc := hD.sub (ws' := [(aM, .inr (4, [.int th, .ref aMT, .int (nI mu), .ref aNw, .ref aNx, .int mw, .int mwa, .int (nI ma_139), .int (nI en), .long mv_142, .int mf_143, .int ml])), (aMT, .inl (kMT, 65536, .inl B))]) [0, 1] (by decide) rfl
                            have hKc := hK.sub (tys' := [(kMT, .byte)]) [0] rfl
                            have hFc := va_free (wc := [(aM, .inr (4, [.int th, .ref aMT, .int (nI mu), .ref aNw, .ref aNx, .int mw, .int mwa, .int (nI ma_139), .int (nI en), .long mv_142, .int mf_143, .int ml])), (aMT, .inl (kMT, 65536, .inl B))]) hD hS hA [0, 1] rfl
                            refine va_calli (va_runV (As := [.int 44]) (rest := []) ⟨hx, hb, hml, hown, hts⟩ (c_Md_sign l G dC dI H.size aM th aMT mu aNw aNx mw mwa ma_139 en mv_142 mf_143 ml kMT B 44 (by omega) (by omega)) (cwV 1 hts (gV tw_537 tw_539 ts_20 tw_5 tw_540 rfl) rfl rfl rfl (by decide +kernel) ⟨Nat.le_of_ble_eq_true rfl, Nat.le_of_ble_eq_true rfl⟩) (PW_preV hPc hKc hDc hE hS hFc (ci := 4) (q0 := 0) rfl rfl) rfl rfl hl.1 rfl (lv_room (Nat.le_of_ble_eq_true rfl)) d_Md_texture_133 ⟨Nat.le_of_ble_eq_true rfl, Nat.le_of_ble_eq_true rfl⟩) hS (fun q _ h => hFc q h) hFc (fun r_147 uu t H1 locs ht hvm hw_151 hB hz1 hk1 hS => ?_)
                            obtain ⟨ma_148, mw_149, mwa_150⟩ := uu
                            obtain ⟨hP1, hD1, hsz1⟩ := hB
                            rw [ht] at hP1 hsz1
                            obtain ⟨hP, hD⟩ := va_join (wr := [(aNx, .inl (kNx, 52650, .inl (upd (upd (upd nx (8 + (3080 * kk)) (nI sd)) ((8 + (3080 * kk)) + 1) hw_130v) ((8 + (3080 * kk)) + 2) hw_145v)))]) (w1 := [(aM, .inr (4, [.int th, .ref aMT, .int (nI mu), .ref aNw, .ref aNx, .int mw_149, .int mwa_150, .int (nI ma_148), .int (nI en), .long mv_142, .int mf_143, .int ml])), (aMT, .inl (kMT, 65536, .inl B))]) hP hD [0, 1] [2] rfl rfl (by decide) (by decide) hk1 hFc hP1 hD1
                            generalize H1 = H at hP hS ⊢
                            have hP : va_P (dC, dI) vwCl [(aNx, .inl (kNx, 52650, .inl (upd (upd (upd nx (8 + (3080 * kk)) (nI sd)) ((8 + (3080 * kk)) + 1) hw_130v) ((8 + (3080 * kk)) + 2) hw_145v))), (aM, .inr (4, [.int th, .ref aMT, .int (nI mu), .ref aNw, .ref aNx, .int mw_149, .int mwa_150, .int (nI ma_148), .int (nI en), .long mv_142, .int mf_143, .int ml])), (aMT, .inl (kMT, 65536, .inl B))] H := hP
                            have hD : va_D A [(aNx, .inl (kNx, 52650, .inl (upd (upd (upd nx (8 + (3080 * kk)) (nI sd)) ((8 + (3080 * kk)) + 1) hw_130v) ((8 + (3080 * kk)) + 2) hw_145v))), (aM, .inr (4, [.int th, .ref aMT, .int (nI mu), .ref aNw, .ref aNx, .int mw_149, .int mwa_150, .int (nI ma_148), .int (nI en), .long mv_142, .int mf_143, .int ml])), (aMT, .inl (kMT, 65536, .inl B))] := hD
                            rcases hw_151 with ⟨rfl, hw_151a, hw_151b, e1, e2⟩ | ⟨rfl, hw_151b, hw_151k, hw_151a, e2⟩
                            ·
                              have e1 := e1.symm; subst e1
                              have e2 := e2.symm; subst e2
                              refine lv_if_eq (tgt := 167) hx hb d_Md_texture_136 (by decide) (fun c_152 => ?_) (fun c_152 => ?_)
                              ·
                                exact absurd c_152 (by decide)
                              ·
                                refine lv_aload_n hx hb d_Md_texture_139 rfl (lv_at hl 3 rfl) ?_
                                refine lv_ldc2 (v := zWv 16) hx hb hown (hz _ tw_641) d_Md_texture_140 ?_
                                refine lv_iload_n hx hb d_Md_texture_143 rfl (lv_at hl 2 rfl) ?_
                                refine lv_bipush (v := 8) hx hb d_Md_texture_144 (by decide) ?_
                                refine lv_iadd hx hb d_Md_texture_146 ?_
                                refine zt_top (nI_add (8 + (3080 * kk)) 8) ?_
                                refine lv_iload hx hb d_Md_texture_147 (lv_at hl 0 rfl) ?_
                                refine lv_iload hx hb d_Md_texture_149 (lv_at hl 0 rfl) ?_
                                refine lv_iconst (v := 1) hx hb d_Md_texture_151 (by decide) ?_
                                refine lv_iconst (v := 0) hx hb d_Md_texture_152 (by decide) ?_
                                refine lv_sipush (v := 255) hx hb d_Md_texture_153 (by decide) ?_
                                refine lv_iconst (v := 0) hx hb d_Md_texture_156 (by decide) ?_
                                have hPc := hP.sub (ws' := [(aM, .inr (4, [.int th, .ref aMT, .int (nI mu), .ref aNw, .ref aNx, .int mw, .int mwa, .int (nI ma_148), .int (nI en), .long mv_142, .int mf_143, .int ml])), (aMT, .inl (kMT, 65536, .inl B)), (aNx, .inl (kNx, 52650, .inl (upd (upd (upd nx (8 + (3080 * kk)) (nI sd)) ((8 + (3080 * kk)) + 1) hw_130v) ((8 + (3080 * kk)) + 2) hw_145v)))]) [1, 2, 0] rfl
                                have hDc := hD.sub (ws' := [(aM, .inr (4, [.int th, .ref aMT, .int (nI mu), .ref aNw, .ref aNx, .int mw, .int mwa, .int (nI ma_148), .int (nI en), .long mv_142, .int mf_143, .int ml])), (aMT, .inl (kMT, 65536, .inl B)), (aNx, .inl (kNx, 52650, .inl (upd (upd (upd nx (8 + (3080 * kk)) (nI sd)) ((8 + (3080 * kk)) + 1) hw_130v) ((8 + (3080 * kk)) + 2) hw_145v)))]) [1, 2, 0] (by decide) rfl
                                have hKc := hK.sub (tys' := [(kMT, .byte), (kNx, .int)]) [0, 1] rfl
                                have hFc := va_free (wc := [(aM, .inr (4, [.int th, .ref aMT, .int (nI mu), .ref aNw, .ref aNx, .int mw, .int mwa, .int (nI ma_148), .int (nI en), .long mv_142, .int mf_143, .int ml])), (aMT, .inl (kMT, 65536, .inl B)), (aNx, .inl (kNx, 52650, .inl (upd (upd (upd nx (8 + (3080 * kk)) (nI sd)) ((8 + (3080 * kk)) + 1) hw_130v) ((8 + (3080 * kk)) + 2) hw_145v)))]) hD hS hA [1, 2, 0] rfl
                                refine va_calli (va_runV (As := [.long (zWv 16), .int (nI ((8 + (3080 * kk)) + 8)), .int (nI ((3 * sd) * sd)), .int (nI ((3 * sd) * sd)), .int (nI 1), .int 0, .int 255, .int 0]) (rest := []) ⟨hx, hb, hml, hown, hts⟩ (c_Md_list l G dC dI H.size aM th aMT mu aNw aNx mw mwa ma_148 en mv_142 mf_143 ml kMT B kNx (upd (upd (upd nx (8 + (3080 * kk)) (nI sd)) ((8 + (3080 * kk)) + 1) hw_130v) ((8 + (3080 * kk)) + 2) hw_145v) 16 ((8 + (3080 * kk)) + 8) ((3 * sd) * sd) ((3 * sd) * sd) 1 0 255 0 (by omega) (by omega) (by decide) (by decide) (zSb_len _) (by omega) (by omega) (by omega) (Or.inl rfl) (Or.inl rfl) (by decide) (by decide) (by decide) (by decide)) (cwV 8 hts (gV tw_592 tw_594 ts_30 tw_5 tw_595 rfl) rfl rfl rfl (by decide +kernel) ⟨Nat.le_of_ble_eq_true rfl, Nat.le_of_ble_eq_true rfl⟩) (PW_preV hPc hKc hDc hE hS hFc (ci := 4) (q0 := 0) rfl rfl) rfl rfl hl.1 rfl (lv_room (Nat.le_of_ble_eq_true rfl)) d_Md_texture_157 ⟨Nat.le_of_ble_eq_true rfl, Nat.le_of_ble_eq_true rfl⟩) hS (fun q _ h => hFc q h) hFc (fun r_153 uu t H1 locs ht hvm hw_161 hB hz1 hk1 hS => ?_)
                                obtain ⟨ma_154, mw_155, mwa_156, mv_157, mf_158, nx_159, ml_160⟩ := uu
                                obtain ⟨hP1, hD1, hsz1⟩ := hB
                                rw [ht] at hP1 hsz1
                                obtain ⟨hP, hD⟩ := va_join (wr := []) (w1 := [(aM, .inr (4, [.int th, .ref aMT, .int (nI mu), .ref aNw, .ref aNx, .int mw_155, .int mwa_156, .int (nI ma_154), .int (nI en), .long mv_157, .int mf_158, .int ml_160])), (aMT, .inl (kMT, 65536, .inl B)), (aNx, .inl (kNx, 52650, .inl nx_159))]) hP hD [1, 2, 0] [] rfl rfl (by decide) (by decide) hk1 hFc hP1 hD1
                                generalize H1 = H at hP hS ⊢
                                have hP : va_P (dC, dI) vwCl [(aM, .inr (4, [.int th, .ref aMT, .int (nI mu), .ref aNw, .ref aNx, .int mw_155, .int mwa_156, .int (nI ma_154), .int (nI en), .long mv_157, .int mf_158, .int ml_160])), (aMT, .inl (kMT, 65536, .inl B)), (aNx, .inl (kNx, 52650, .inl nx_159))] H := hP
                                have hD : va_D A [(aM, .inr (4, [.int th, .ref aMT, .int (nI mu), .ref aNw, .ref aNx, .int mw_155, .int mwa_156, .int (nI ma_154), .int (nI en), .long mv_157, .int mf_158, .int ml_160])), (aMT, .inl (kMT, 65536, .inl B)), (aNx, .inl (kNx, 52650, .inl nx_159))] := hD
                                simp only [zf01, zf11, zg13, zg33, decide_true, decide_false] at hw_161
                                rcases hw_161 with ⟨rfl, hw_161b, e1, e2, hw_161n, hw_161a, e3⟩ | ⟨rfl, hw_161b, hw_161k, hw_161a, e2⟩
                                ·
                                  have e1 := e1.symm; subst e1
                                  have e2 := e2.symm; subst e2
                                  have e3 := e3.symm; subst e3
                                  refine lv_if_eq (tgt := 167) hx hb d_Md_texture_160 (by decide) (fun c_162 => ?_) (fun c_162 => ?_)
                                  ·
                                    exact absurd c_162 (by decide)
                                  ·
                                    refine lv_iconst (v := 1) hx hb d_Md_texture_163 (by decide) ?_
                                    refine lv_goto (tgt := 168) hx hb d_Md_texture_164 (by decide) ?_
                                    refine zt_size (fun hzs => ?_)
                                    have hP9 := hP.sub (ws' := [(aM, .inr (4, [.int th, .ref aMT, .int (nI mu), .ref aNw, .ref aNx, .int mw, .int mwa, .int (nI ma_154), .int (nI en), .long mv_157, .int mf_158, .int (nI hw_161n)])), (aMT, .inl (kMT, 65536, .inl B)), (aNx, .inl (kNx, 52650, .inl nx_159))]) [0, 1, 2] rfl
                                    have hD9 := hD.sub (ws' := [(aM, .inr (4, [.int th, .ref aMT, .int (nI mu), .ref aNw, .ref aNx, .int mw, .int mwa, .int (nI ma_154), .int (nI en), .long mv_157, .int mf_158, .int (nI hw_161n)])), (aMT, .inl (kMT, 65536, .inl B)), (aNx, .inl (kNx, 52650, .inl nx_159))]) [0, 1, 2] (by decide) rfl
                                    exact W.zret (v := 1) hx hb hr rfl (fun t ht hW => ⟨⟨1, (ma_154, mw, mwa, mv_157, mf_158, nx_159, nI hw_161n), rfl, Or.inl ⟨rfl, by omega, rfl, rfl, by simp only [mTexture, mListK, mNumK, zB_ok, nI_clamp (show sd < 2 ^ 31 by omega), if_pos (zpow1 sd (by omega) (Or.inr (Or.inr (Or.inl (congrArg nI c_116))))), hk9, hw_8a, hw_121a, hw_130a, hw_136a, hw_145a, hw_151a, hw_161a]⟩, by rw [ht]; exact hP9, hD9, by rw [ht]; exact hzs⟩, hS.F ht⟩) hS.2.2 d_Md_texture_168
                                ·
                                  have e2 := e2.symm; subst e2
                                  refine lv_if_eq (tgt := 167) hx hb d_Md_texture_160 (by decide) (fun c_163 => ?_) (fun c_163 => ?_)
                                  ·
                                    refine lv_iconst (v := 0) hx hb d_Md_texture_167 (by decide) ?_
                                    refine zt_size (fun hzs => ?_)
                                    have hP9 := hP.sub (ws' := [(aM, .inr (4, [.int th, .ref aMT, .int (nI mu), .ref aNw, .ref aNx, .int mw_155, .int (nI hw_161k), .int (nI ma_154), .int (nI en), .long mv_157, .int mf_158, .int ml_160])), (aMT, .inl (kMT, 65536, .inl B)), (aNx, .inl (kNx, 52650, .inl nx_159))]) [0, 1, 2] rfl
                                    have hD9 := hD.sub (ws' := [(aM, .inr (4, [.int th, .ref aMT, .int (nI mu), .ref aNw, .ref aNx, .int mw_155, .int (nI hw_161k), .int (nI ma_154), .int (nI en), .long mv_157, .int mf_158, .int ml_160])), (aMT, .inl (kMT, 65536, .inl B)), (aNx, .inl (kNx, 52650, .inl nx_159))]) [0, 1, 2] (by decide) rfl
                                    exact W.zret (v := 0) hx hb hr rfl (fun t ht hW => ⟨⟨0, (ma_154, mw_155, nI hw_161k, mv_157, mf_158, nx_159, ml_160), rfl, Or.inr ⟨rfl, by omega, _, by simp only [mTexture, mListK, mNumK, zB_ok, nI_clamp (show sd < 2 ^ 31 by omega), if_pos (zpow1 sd (by omega) (Or.inr (Or.inr (Or.inl (congrArg nI c_116))))), hk9, hw_8a, hw_121a, hw_130a, hw_136a, hw_145a, hw_151a, hw_161a, zB_er], rfl⟩, by rw [ht]; exact hP9, hD9, by rw [ht]; exact hzs⟩, hS.F ht⟩) hS.2.2 d_Md_texture_168
                                  ·
                                    exact absurd (by decide) c_163
                            ·
                              have e2 := e2.symm; subst e2
                              refine lv_if_eq (tgt := 167) hx hb d_Md_texture_136 (by decide) (fun c_164 => ?_) (fun c_164 => ?_)
                              ·
                                refine lv_iconst (v := 0) hx hb d_Md_texture_167 (by decide) ?_
                                refine zt_size (fun hzs => ?_)
                                have hP9 := hP.sub (ws' := [(aM, .inr (4, [.int th, .ref aMT, .int (nI mu), .ref aNw, .ref aNx, .int mw_149, .int (nI hw_151k), .int (nI ma_148), .int (nI en), .long mv_142, .int mf_143, .int ml])), (aMT, .inl (kMT, 65536, .inl B)), (aNx, .inl (kNx, 52650, .inl (upd (upd (upd nx (8 + (3080 * kk)) (nI sd)) ((8 + (3080 * kk)) + 1) hw_130v) ((8 + (3080 * kk)) + 2) hw_145v)))]) [1, 2, 0] rfl
                                have hD9 := hD.sub (ws' := [(aM, .inr (4, [.int th, .ref aMT, .int (nI mu), .ref aNw, .ref aNx, .int mw_149, .int (nI hw_151k), .int (nI ma_148), .int (nI en), .long mv_142, .int mf_143, .int ml])), (aMT, .inl (kMT, 65536, .inl B)), (aNx, .inl (kNx, 52650, .inl (upd (upd (upd nx (8 + (3080 * kk)) (nI sd)) ((8 + (3080 * kk)) + 1) hw_130v) ((8 + (3080 * kk)) + 2) hw_145v)))]) [1, 2, 0] (by decide) rfl
                                exact W.zret (v := 0) hx hb hr rfl (fun t ht hW => ⟨⟨0, (ma_148, mw_149, nI hw_151k, mv_142, mf_143, upd (upd (upd nx (8 + (3080 * kk)) (nI sd)) ((8 + (3080 * kk)) + 1) hw_130v) ((8 + (3080 * kk)) + 2) hw_145v, ml), rfl, Or.inr ⟨rfl, by omega, _, by simp only [mTexture, mListK, mNumK, zB_ok, nI_clamp (show sd < 2 ^ 31 by omega), if_pos (zpow1 sd (by omega) (Or.inr (Or.inr (Or.inl (congrArg nI c_116))))), hk9, hw_8a, hw_121a, hw_130a, hw_136a, hw_145a, hw_151a, zB_er], rfl⟩, by rw [ht]; exact hP9, hD9, by rw [ht]; exact hzs⟩, hS.F ht⟩) hS.2.2 d_Md_texture_168
                              ·
                                exact absurd (by decide) c_164
                        ·
                          have e2 := e2.symm; subst e2
                          refine lv_if_eq (tgt := 167) hx hb d_Md_texture_127 (by decide) (fun c_165 => ?_) (fun c_165 => ?_)
                          ·
                            refine lv_iconst (v := 0) hx hb d_Md_texture_167 (by decide) ?_
                            refine zt_size (fun hzs => ?_)
                            have hP9 := hP.sub (ws' := [(aM, .inr (4, [.int th, .ref aMT, .int (nI mu), .ref aNw, .ref aNx, .int mw_140, .int (nI hw_145k), .int (nI ma_139), .int (nI en), .long mv_142, .int mf_143, .int ml])), (aMT, .inl (kMT, 65536, .inl B)), (aNx, .inl (kNx, 52650, .inl nx_144))]) [0, 1, 2] rfl
                            have hD9 := hD.sub (ws' := [(aM, .inr (4, [.int th, .ref aMT, .int (nI mu), .ref aNw, .ref aNx, .int mw_140, .int (nI hw_145k), .int (nI ma_139), .int (nI en), .long mv_142, .int mf_143, .int ml])), (aMT, .inl (kMT, 65536, .inl B)), (aNx, .inl (kNx, 52650, .inl nx_144))]) [0, 1, 2] (by decide) rfl
                            exact W.zret (v := 0) hx hb hr rfl (fun t ht hW => ⟨⟨0, (ma_139, mw_140, nI hw_145k, mv_142, mf_143, nx_144, ml), rfl, Or.inr ⟨rfl, by omega, _, by simp only [mTexture, mListK, mNumK, zB_ok, nI_clamp (show sd < 2 ^ 31 by omega), if_pos (zpow1 sd (by omega) (Or.inr (Or.inr (Or.inl (congrArg nI c_116))))), hk9, hw_8a, hw_121a, hw_130a, hw_136a, hw_145a, zB_er], rfl⟩, by rw [ht]; exact hP9, hD9, by rw [ht]; exact hzs⟩, hS.F ht⟩) hS.2.2 d_Md_texture_168
                          ·
                            exact absurd (by decide) c_165
                    ·
                      have e2 := e2.symm; subst e2
                      refine lv_if_eq (tgt := 167) hx hb d_Md_texture_112 (by decide) (fun c_166 => ?_) (fun c_166 => ?_)
                      ·
                        refine lv_iconst (v := 0) hx hb d_Md_texture_167 (by decide) ?_
                        refine zt_size (fun hzs => ?_)
                        have hP9 := hP.sub (ws' := [(aM, .inr (4, [.int th, .ref aMT, .int (nI mu), .ref aNw, .ref aNx, .int mw_134, .int (nI hw_136k), .int (nI ma_133), .int (nI en), .long mv_127, .int mf_128, .int ml])), (aMT, .inl (kMT, 65536, .inl B)), (aNx, .inl (kNx, 52650, .inl (upd (upd nx (8 + (3080 * kk)) (nI sd)) ((8 + (3080 * kk)) + 1) hw_130v)))]) [1, 2, 0] rfl
                        have hD9 := hD.sub (ws' := [(aM, .inr (4, [.int th, .ref aMT, .int (nI mu), .ref aNw, .ref aNx, .int mw_134, .int (nI hw_136k), .int (nI ma_133), .int (nI en), .long mv_127, .int mf_128, .int ml])), (aMT, .inl (kMT, 65536, .inl B)), (aNx, .inl (kNx, 52650, .inl (upd (upd nx (8 + (3080 * kk)) (nI sd)) ((8 + (3080 * kk)) + 1) hw_130v)))]) [1, 2, 0] (by decide) rfl
                        exact W.zret (v := 0) hx hb hr rfl (fun t ht hW => ⟨⟨0, (ma_133, mw_134, nI hw_136k, mv_127, mf_128, upd (upd nx (8 + (3080 * kk)) (nI sd)) ((8 + (3080 * kk)) + 1) hw_130v, ml), rfl, Or.inr ⟨rfl, by omega, _, by simp only [mTexture, mListK, mNumK, zB_ok, nI_clamp (show sd < 2 ^ 31 by omega), if_pos (zpow1 sd (by omega) (Or.inr (Or.inr (Or.inl (congrArg nI c_116))))), hk9, hw_8a, hw_121a, hw_130a, hw_136a, zB_er], rfl⟩, by rw [ht]; exact hP9, hD9, by rw [ht]; exact hzs⟩, hS.F ht⟩) hS.2.2 d_Md_texture_168
                      ·
                        exact absurd (by decide) c_166
                ·
                  have e2 := e2.symm; subst e2
                  refine lv_if_eq (tgt := 167) hx hb d_Md_texture_103 (by decide) (fun c_167 => ?_) (fun c_167 => ?_)
                  ·
                    refine lv_iconst (v := 0) hx hb d_Md_texture_167 (by decide) ?_
                    refine zt_size (fun hzs => ?_)
                    have hP9 := hP.sub (ws' := [(aM, .inr (4, [.int th, .ref aMT, .int (nI mu), .ref aNw, .ref aNx, .int mw_125, .int (nI hw_130k), .int (nI ma_124), .int (nI en), .long mv_127, .int mf_128, .int ml])), (aMT, .inl (kMT, 65536, .inl B)), (aNx, .inl (kNx, 52650, .inl nx_129))]) [0, 1, 2] rfl
                    have hD9 := hD.sub (ws' := [(aM, .inr (4, [.int th, .ref aMT, .int (nI mu), .ref aNw, .ref aNx, .int mw_125, .int (nI hw_130k), .int (nI ma_124), .int (nI en), .long mv_127, .int mf_128, .int ml])), (aMT, .inl (kMT, 65536, .inl B)), (aNx, .inl (kNx, 52650, .inl nx_129))]) [0, 1, 2] (by decide) rfl
                    exact W.zret (v := 0) hx hb hr rfl (fun t ht hW => ⟨⟨0, (ma_124, mw_125, nI hw_130k, mv_127, mf_128, nx_129, ml), rfl, Or.inr ⟨rfl, by omega, _, by simp only [mTexture, mListK, mNumK, zB_ok, nI_clamp (show sd < 2 ^ 31 by omega), if_pos (zpow1 sd (by omega) (Or.inr (Or.inr (Or.inl (congrArg nI c_116))))), hk9, hw_8a, hw_121a, hw_130a, zB_er], rfl⟩, by rw [ht]; exact hP9, hD9, by rw [ht]; exact hzs⟩, hS.F ht⟩) hS.2.2 d_Md_texture_168
                  ·
                    exact absurd (by decide) c_167
            ·
              have e2 := e2.symm; subst e2
              refine lv_if_eq (tgt := 167) hx hb d_Md_texture_88 (by decide) (fun c_168 => ?_) (fun c_168 => ?_)
              ·
                refine lv_iconst (v := 0) hx hb d_Md_texture_167 (by decide) ?_
                refine zt_size (fun hzs => ?_)
                have hP9 := hP.sub (ws' := [(aM, .inr (4, [.int th, .ref aMT, .int (nI mu), .ref aNw, .ref aNx, .int mw_119, .int (nI hw_121k), .int (nI ma_118), .int (nI en), .long mv_5, .int (nI h9), .int ml])), (aMT, .inl (kMT, 65536, .inl B)), (aNx, .inl (kNx, 52650, .inl (upd nx (8 + (3080 * kk)) (nI sd))))]) [1, 2, 0] rfl
                have hD9 := hD.sub (ws' := [(aM, .inr (4, [.int th, .ref aMT, .int (nI mu), .ref aNw, .ref aNx, .int mw_119, .int (nI hw_121k), .int (nI ma_118), .int (nI en), .long mv_5, .int (nI h9), .int ml])), (aMT, .inl (kMT, 65536, .inl B)), (aNx, .inl (kNx, 52650, .inl (upd nx (8 + (3080 * kk)) (nI sd))))]) [1, 2, 0] (by decide) rfl
                exact W.zret (v := 0) hx hb hr rfl (fun t ht hW => ⟨⟨0, (ma_118, mw_119, nI hw_121k, mv_5, nI h9, upd nx (8 + (3080 * kk)) (nI sd), ml), rfl, Or.inr ⟨rfl, by omega, _, by simp only [mTexture, mListK, mNumK, zB_ok, nI_clamp (show sd < 2 ^ 31 by omega), if_pos (zpow1 sd (by omega) (Or.inr (Or.inr (Or.inl (congrArg nI c_116))))), hk9, hw_8a, hw_121a, zB_er], rfl⟩, by rw [ht]; exact hP9, hD9, by rw [ht]; exact hzs⟩, hS.F ht⟩) hS.2.2 d_Md_texture_168
              ·
                exact absurd (by decide) c_168
          ·
            have c_116 : ¬ (sd = 4) := fun z => c_116 ((@nI_eq sd 4 (by omega) (by omega)).mpr z)
            refine lv_iload_n hx hb d_Md_texture_47 rfl (lv_at hl 0 rfl) ?_
            refine lv_bipush (v := 8) hx hb d_Md_texture_48 (by decide) ?_
            refine lv_icmp_eq (tgt := 75) hx hb d_Md_texture_50 (by decide) (fun c_169 => ?_) (fun c_169 => ?_)
            ·
              have c_169 : sd = 8 := (@nI_eq sd 8 (by omega) (by omega)).mp c_169
              refine lv_iconst (v := 3) hx hb d_Md_texture_75 (by decide) ?_
              refine lv_iload_n hx hb d_Md_texture_76 rfl (lv_at hl 0 rfl) ?_
              refine lv_imul hx hb d_Md_texture_77 ?_
              refine zt_top (pk_mul 3 sd) ?_
              refine lv_iload_n hx hb d_Md_texture_78 rfl (lv_at hl 0 rfl) ?_
              refine lv_imul hx hb d_Md_texture_79 ?_
              refine zt_top (pk_mul (3 * sd) sd) ?_
              refine lv_istore (lv' := [(4, .int (nI ((3 * sd) * sd))), (3, .int (nI sd)), (2, .int (nI (8 + (3080 * kk)))), (0, .ref aM), (1, .int (nI kk))]) hx hb d_Md_texture_80 hl (by decide) rfl (fun ls hl => ?_)
              refine lv_aload_n hx hb d_Md_texture_82 rfl (lv_at hl 3 rfl) ?_
              refine lv_bipush (v := 44) hx hb d_Md_texture_83 (by decide) ?_
              have hPc := hP.sub (ws' := [(aM, .inr (4, [.int th, .ref aMT, .int (nI mu), .ref aNw, .ref aNx, .int mw, .int mwa, .int (nI ma_2), .int (nI en), .long mv_5, .int (nI h9), .int ml])), (aMT, .inl (kMT, 65536, .inl B))]) [0, 1] rfl
              have hDc := hD.sub (ws' := [(aM, .inr (4, [.int th, .ref aMT, .int (nI mu), .ref aNw, .ref aNx, .int mw, .int mwa, .int (nI ma_2), .int (nI en), .long mv_5, .int (nI h9), .int ml])), (aMT, .inl (kMT, 65536, .inl B))]) [0, 1] (by decide) rfl
              have hKc := hK.sub (tys' := [(kMT, .byte)]) [0] rfl
              have hFc := va_free (wc := [(aM, .inr (4, [.int th, .ref aMT, .int (nI mu), .ref aNw, .ref aNx, .int mw, .int mwa, .int (nI ma_2), .int (nI en), .long mv_5, .int (nI h9), .int ml])), (aMT, .inl (kMT, 65536, .inl B))]) hD hS hA [0, 1] rfl
              refine va_calli (va_runV (As := [.int 44]) (rest := []) ⟨hx, hb, hml, hown, hts⟩ (c_Md_sign l G dC dI H.size aM th aMT mu aNw aNx mw mwa ma_2 en mv_5 (nI h9) ml kMT B 44 (by omega) (by omega)) (cwV 1 hts (gV tw_537 tw_539 ts_20 tw_5 tw_540 rfl) rfl rfl rfl (by decide +kernel) ⟨Nat.le_of_ble_eq_true rfl, Nat.le_of_ble_eq_true rfl⟩) (PW_preV hPc hKc hDc hE hS hFc (ci := 4) (q0 := 0) rfl rfl) rfl rfl hl.1 rfl (lv_room (Nat.le_of_ble_eq_true rfl)) d_Md_texture_85 ⟨Nat.le_of_ble_eq_true rfl, Nat.le_of_ble_eq_true rfl⟩) hS (fun q _ h => hFc q h) hFc (fun r_170 uu t H1 locs ht hvm hw_174 hB hz1 hk1 hS => ?_)
              obtain ⟨ma_171, mw_172, mwa_173⟩ := uu
              obtain ⟨hP1, hD1, hsz1⟩ := hB
              rw [ht] at hP1 hsz1
              obtain ⟨hP, hD⟩ := va_join (wr := [(aNx, .inl (kNx, 52650, .inl (upd nx (8 + (3080 * kk)) (nI sd))))]) (w1 := [(aM, .inr (4, [.int th, .ref aMT, .int (nI mu), .ref aNw, .ref aNx, .int mw_172, .int mwa_173, .int (nI ma_171), .int (nI en), .long mv_5, .int (nI h9), .int ml])), (aMT, .inl (kMT, 65536, .inl B))]) hP hD [0, 1] [2] rfl rfl (by decide) (by decide) hk1 hFc hP1 hD1
              generalize H1 = H at hP hS ⊢
              have hP : va_P (dC, dI) vwCl [(aNx, .inl (kNx, 52650, .inl (upd nx (8 + (3080 * kk)) (nI sd)))), (aM, .inr (4, [.int th, .ref aMT, .int (nI mu), .ref aNw, .ref aNx, .int mw_172, .int mwa_173, .int (nI ma_171), .int (nI en), .long mv_5, .int (nI h9), .int ml])), (aMT, .inl (kMT, 65536, .inl B))] H := hP
              have hD : va_D A [(aNx, .inl (kNx, 52650, .inl (upd nx (8 + (3080 * kk)) (nI sd)))), (aM, .inr (4, [.int th, .ref aMT, .int (nI mu), .ref aNw, .ref aNx, .int mw_172, .int mwa_173, .int (nI ma_171), .int (nI en), .long mv_5, .int (nI h9), .int ml])), (aMT, .inl (kMT, 65536, .inl B))] := hD
              rcases hw_174 with ⟨rfl, hw_174a, hw_174b, e1, e2⟩ | ⟨rfl, hw_174b, hw_174k, hw_174a, e2⟩
              ·
                have e1 := e1.symm; subst e1
                have e2 := e2.symm; subst e2
                refine lv_if_eq (tgt := 167) hx hb d_Md_texture_88 (by decide) (fun c_175 => ?_) (fun c_175 => ?_)
                ·
                  exact absurd c_175 (by decide)
                ·
                  refine lv_aload_n hx hb d_Md_texture_91 rfl (lv_at hl 3 rfl) ?_
                  refine lv_ldc2 (v := zWv 14) hx hb hown (hz _ tw_639) d_Md_texture_92 ?_
                  refine lv_iload_n hx hb d_Md_texture_95 rfl (lv_at hl 2 rfl) ?_
                  refine lv_iconst (v := 1) hx hb d_Md_texture_96 (by decide) ?_
                  refine lv_iadd hx hb d_Md_texture_97 ?_
                  refine zt_top (nI_add (8 + (3080 * kk)) 1) ?_
                  refine lv_iconst (v := 0) hx hb d_Md_texture_98 (by decide) ?_
                  refine lv_iconst (v := 2) hx hb d_Md_texture_99 (by decide) ?_
                  have hPc := hP.sub (ws' := [(aM, .inr (4, [.int th, .ref aMT, .int (nI mu), .ref aNw, .ref aNx, .int mw, .int mwa, .int (nI ma_171), .int (nI en), .long mv_5, .int (nI h9), .int ml])), (aMT, .inl (kMT, 65536, .inl B)), (aNx, .inl (kNx, 52650, .inl (upd nx (8 + (3080 * kk)) (nI sd))))]) [1, 2, 0] rfl
                  have hDc := hD.sub (ws' := [(aM, .inr (4, [.int th, .ref aMT, .int (nI mu), .ref aNw, .ref aNx, .int mw, .int mwa, .int (nI ma_171), .int (nI en), .long mv_5, .int (nI h9), .int ml])), (aMT, .inl (kMT, 65536, .inl B)), (aNx, .inl (kNx, 52650, .inl (upd nx (8 + (3080 * kk)) (nI sd))))]) [1, 2, 0] (by decide) rfl
                  have hKc := hK.sub (tys' := [(kMT, .byte), (kNx, .int)]) [0, 1] rfl
                  have hFc := va_free (wc := [(aM, .inr (4, [.int th, .ref aMT, .int (nI mu), .ref aNw, .ref aNx, .int mw, .int mwa, .int (nI ma_171), .int (nI en), .long mv_5, .int (nI h9), .int ml])), (aMT, .inl (kMT, 65536, .inl B)), (aNx, .inl (kNx, 52650, .inl (upd nx (8 + (3080 * kk)) (nI sd))))]) hD hS hA [1, 2, 0] rfl
                  refine va_calli (va_runV (As := [.long (zWv 14), .int (nI ((8 + (3080 * kk)) + 1)), .int 0, .int 2]) (rest := []) ⟨hx, hb, hml, hown, hts⟩ (c_Md_named l G dC dI H.size aM th aMT mu aNw aNx mw mwa ma_171 en mv_5 (nI h9) ml kMT B kNx (upd nx (8 + (3080 * kk)) (nI sd)) 14 ((8 + (3080 * kk)) + 1) 0 2 (by omega) (by omega) (by decide) (by decide) (zSb_len _) (by omega) (by decide) (by decide) (by decide) (by decide)) (cwV 4 hts (gV tw_611 tw_613 ts_33 tw_5 tw_614 rfl) rfl rfl rfl (by decide +kernel) ⟨Nat.le_of_ble_eq_true rfl, Nat.le_of_ble_eq_true rfl⟩) (PW_preV hPc hKc hDc hE hS hFc (ci := 4) (q0 := 0) rfl rfl) rfl rfl hl.1 rfl (lv_room (Nat.le_of_ble_eq_true rfl)) d_Md_texture_100 ⟨Nat.le_of_ble_eq_true rfl, Nat.le_of_ble_eq_true rfl⟩) hS (fun q _ h => hFc q h) hFc (fun r_176 uu t H1 locs ht hvm hw_183 hB hz1 hk1 hS => ?_)
                  obtain ⟨ma_177, mw_178, mwa_179, mv_180, mf_181, nx_182⟩ := uu
                  obtain ⟨hP1, hD1, hsz1⟩ := hB
                  rw [ht] at hP1 hsz1
                  obtain ⟨hP, hD⟩ := va_join (wr := []) (w1 := [(aM, .inr (4, [.int th, .ref aMT, .int (nI mu), .ref aNw, .ref aNx, .int mw_178, .int mwa_179, .int (nI ma_177), .int (nI en), .long mv_180, .int mf_181, .int ml])), (aMT, .inl (kMT, 65536, .inl B)), (aNx, .inl (kNx, 52650, .inl nx_182))]) hP hD [1, 2, 0] [] rfl rfl (by decide) (by decide) hk1 hFc hP1 hD1
                  generalize H1 = H at hP hS ⊢
                  have hP : va_P (dC, dI) vwCl [(aM, .inr (4, [.int th, .ref aMT, .int (nI mu), .ref aNw, .ref aNx, .int mw_178, .int mwa_179, .int (nI ma_177), .int (nI en), .long mv_180, .int mf_181, .int ml])), (aMT, .inl (kMT, 65536, .inl B)), (aNx, .inl (kNx, 52650, .inl nx_182))] H := hP
                  have hD : va_D A [(aM, .inr (4, [.int th, .ref aMT, .int (nI mu), .ref aNw, .ref aNx, .int mw_178, .int mwa_179, .int (nI ma_177), .int (nI en), .long mv_180, .int mf_181, .int ml])), (aMT, .inl (kMT, 65536, .inl B)), (aNx, .inl (kNx, 52650, .inl nx_182))] := hD
                  rcases hw_183 with ⟨rfl, hw_183b, e1, e2, hw_183v, hw_183a, e3⟩ | ⟨rfl, hw_183b, hw_183k, hw_183a, e2⟩
                  ·
                    have e1 := e1.symm; subst e1
                    have e2 := e2.symm; subst e2
                    have e3 := e3.symm; subst e3
                    refine lv_if_eq (tgt := 167) hx hb d_Md_texture_103 (by decide) (fun c_184 => ?_) (fun c_184 => ?_)
                    ·
                      exact absurd c_184 (by decide)
                    ·
                      refine lv_aload_n hx hb d_Md_texture_106 rfl (lv_at hl 3 rfl) ?_
                      refine lv_bipush (v := 44) hx hb d_Md_texture_107 (by decide) ?_
                      have hPc := hP.sub (ws' := [(aM, .inr (4, [.int th, .ref aMT, .int (nI mu), .ref aNw, .ref aNx, .int mw, .int mwa, .int (nI ma_177), .int (nI en), .long mv_180, .int mf_181, .int ml])), (aMT, .inl (kMT, 65536, .inl B))]) [0, 1] rfl
                      have hDc := hD.sub (ws' := [(aM, .inr (4, [.int th, .ref aMT, .int (nI mu), .ref aNw, .ref aNx, .int mw, .int mwa, .int (nI ma_177), .int (nI en), .long mv_180, .int mf_181, .int ml])), (aMT, .inl (kMT, 65536, .inl B))]) [0, 1] (by decide) rfl
                      have hKc := hK.sub (tys' := [(kMT, .byte)]) [0] rfl
                      have hFc := va_free (wc := [(aM, .inr (4, [.int th, .ref aMT, .int (nI mu), .ref aNw, .ref aNx, .int mw, .int mwa, .int (nI ma_177), .int (nI en), .long mv_180, .int mf_181, .int ml])), (aMT, .inl (kMT, 65536, .inl B))]) hD hS hA [0, 1] rfl
                      refine va_calli (va_runV (As := [.int 44]) (rest := []) ⟨hx, hb, hml, hown, hts⟩ (c_Md_sign l G dC dI H.size aM th aMT mu aNw aNx mw mwa ma_177 en mv_180 mf_181 ml kMT B 44 (by omega) (by omega)) (cwV 1 hts (gV tw_537 tw_539 ts_20 tw_5 tw_540 rfl) rfl rfl rfl (by decide +kernel) ⟨Nat.le_of_ble_eq_true rfl, Nat.le_of_ble_eq_true rfl⟩) (PW_preV hPc hKc hDc hE hS hFc (ci := 4) (q0 := 0) rfl rfl) rfl rfl hl.1 rfl (lv_room (Nat.le_of_ble_eq_true rfl)) d_Md_texture_109 ⟨Nat.le_of_ble_eq_true rfl, Nat.le_of_ble_eq_true rfl⟩) hS (fun q _ h => hFc q h) hFc (fun r_185 uu t H1 locs ht hvm hw_189 hB hz1 hk1 hS => ?_)
                      obtain ⟨ma_186, mw_187, mwa_188⟩ := uu
                      obtain ⟨hP1, hD1, hsz1⟩ := hB
                      rw [ht] at hP1 hsz1
                      obtain ⟨hP, hD⟩ := va_join (wr := [(aNx, .inl (kNx, 52650, .inl (upd (upd nx (8 + (3080 * kk)) (nI sd)) ((8 + (3080 * kk)) + 1) hw_183v)))]) (w1 := [(aM, .inr (4, [.int th, .ref aMT, .int (nI mu), .ref aNw, .ref aNx, .int mw_187, .int mwa_188, .int (nI ma_186), .int (nI en), .long mv_180, .int mf_181, .int ml])), (aMT, .inl (kMT, 65536, .inl B))]) hP hD [0, 1] [2] rfl rfl (by decide) (by decide) hk1 hFc hP1 hD1
                      generalize H1 = H at hP hS ⊢
                      have hP : va_P (dC, dI) vwCl [(aNx, .inl (kNx, 52650, .inl (upd (upd nx (8 + (3080 * kk)) (nI sd)) ((8 + (3080 * kk)) + 1) hw_183v))), (aM, .inr (4, [.int th, .ref aMT, .int (nI mu), .ref aNw, .ref aNx, .int mw_187, .int mwa_188, .int (nI ma_186), .int (nI en), .long mv_180, .int mf_181, .int ml])), (aMT, .inl (kMT, 65536, .inl B))] H := hP
                      have hD : va_D A [(aNx, .inl (kNx, 52650, .inl (upd (upd nx (8 + (3080 * kk)) (nI sd)) ((8 + (3080 * kk)) + 1) hw_183v))), (aM, .inr (4, [.int th, .ref aMT, .int (nI mu), .ref aNw, .ref aNx, .int mw_187, .int mwa_188, .int (nI ma_186), .int (nI en), .long mv_180, .int mf_181, .int ml])), (aMT, .inl (kMT, 65536, .inl B))] := hD
                      rcases hw_189 with ⟨rfl, hw_189a, hw_189b, e1, e2⟩ | ⟨rfl, hw_189b, hw_189k, hw_189a, e2⟩
                      ·
                        have e1 := e1.symm; subst e1
                        have e2 := e2.symm; subst e2
                        refine lv_if_eq (tgt := 167) hx hb d_Md_texture_112 (by decide) (fun c_190 => ?_) (fun c_190 => ?_)
                        ·
                          exact absurd c_190 (by decide)
                        ·
                          refine lv_aload_n hx hb d_Md_texture_115 rfl (lv_at hl 3 rfl) ?_
                          refine lv_ldc2 (v := zWv 15) hx hb hown (hz _ tw_640) d_Md_texture_116 ?_
                          refine lv_iload_n hx hb d_Md_texture_119 rfl (lv_at hl 2 rfl) ?_
                          refine lv_iconst (v := 2) hx hb d_Md_texture_120 (by decide) ?_
                          refine lv_iadd hx hb d_Md_texture_121 ?_
                          refine zt_top (nI_add (8 + (3080 * kk)) 2) ?_
                          refine lv_iconst (v := 0) hx hb d_Md_texture_122 (by decide) ?_
                          refine lv_iconst (v := 1) hx hb d_Md_texture_123 (by decide) ?_
                          have hPc := hP.sub (ws' := [(aM, .inr (4, [.int th, .ref aMT, .int (nI mu), .ref aNw, .ref aNx, .int mw, .int mwa, .int (nI ma_186), .int (nI en), .long mv_180, .int mf_181, .int ml])), (aMT, .inl (kMT, 65536, .inl B)), (aNx, .inl (kNx, 52650, .inl (upd (upd nx (8 + (3080 * kk)) (nI sd)) ((8 + (3080 * kk)) + 1) hw_183v)))]) [1, 2, 0] rfl
                          have hDc := hD.sub (ws' := [(aM, .inr (4, [.int th, .ref aMT, .int (nI mu), .ref aNw, .ref aNx, .int mw, .int mwa, .int (nI ma_186), .int (nI en), .long mv_180, .int mf_181, .int ml])), (aMT, .inl (kMT, 65536, .inl B)), (aNx, .inl (kNx, 52650, .inl (upd (upd nx (8 + (3080 * kk)) (nI sd)) ((8 + (3080 * kk)) + 1) hw_183v)))]) [1, 2, 0] (by decide) rfl
                          have hKc := hK.sub (tys' := [(kMT, .byte), (kNx, .int)]) [0, 1] rfl
                          have hFc := va_free (wc := [(aM, .inr (4, [.int th, .ref aMT, .int (nI mu), .ref aNw, .ref aNx, .int mw, .int mwa, .int (nI ma_186), .int (nI en), .long mv_180, .int mf_181, .int ml])), (aMT, .inl (kMT, 65536, .inl B)), (aNx, .inl (kNx, 52650, .inl (upd (upd nx (8 + (3080 * kk)) (nI sd)) ((8 + (3080 * kk)) + 1) hw_183v)))]) hD hS hA [1, 2, 0] rfl
                          refine va_calli (va_runV (As := [.long (zWv 15), .int (nI ((8 + (3080 * kk)) + 2)), .int 0, .int 1]) (rest := []) ⟨hx, hb, hml, hown, hts⟩ (c_Md_named l G dC dI H.size aM th aMT mu aNw aNx mw mwa ma_186 en mv_180 mf_181 ml kMT B kNx (upd (upd nx (8 + (3080 * kk)) (nI sd)) ((8 + (3080 * kk)) + 1) hw_183v) 15 ((8 + (3080 * kk)) + 2) 0 1 (by omega) (by omega) (by decide) (by decide) (zSb_len _) (by omega) (by decide) (by decide) (by decide) (by decide)) (cwV 4 hts (gV tw_611 tw_613 ts_33 tw_5 tw_614 rfl) rfl rfl rfl (by decide +kernel) ⟨Nat.le_of_ble_eq_true rfl, Nat.le_of_ble_eq_true rfl⟩) (PW_preV hPc hKc hDc hE hS hFc (ci := 4) (q0 := 0) rfl rfl) rfl rfl hl.1 rfl (lv_room (Nat.le_of_ble_eq_true rfl)) d_Md_texture_124 ⟨Nat.le_of_ble_eq_true rfl, Nat.le_of_ble_eq_true rfl⟩) hS (fun q _ h => hFc q h) hFc (fun r_191 uu t H1 locs ht hvm hw_198 hB hz1 hk1 hS => ?_)
                          obtain ⟨ma_192, mw_193, mwa_194, mv_195, mf_196, nx_197⟩ := uu
                          obtain ⟨hP1, hD1, hsz1⟩ := hB
                          rw [ht] at hP1 hsz1
                          obtain ⟨hP, hD⟩ := va_join (wr := []) (w1 := [(aM, .inr (4, [.int th, .ref aMT, .int (nI mu), .ref aNw, .ref aNx, .int mw_193, .int mwa_194, .int (nI ma_192), .int (nI en), .long mv_195, .int mf_196, .int ml])), (aMT, .inl (kMT, 65536, .inl B)), (aNx, .inl (kNx, 52650, .inl nx_197))]) hP hD [1, 2, 0] [] rfl rfl (by decide) (by decide) hk1 hFc hP1 hD1
                          generalize H1 = H at hP hS ⊢
                          have hP : va_P (dC, dI) vwCl [(aM, .inr (4, [.int th, .ref aMT, .int (nI mu), .ref aNw, .ref aNx, .int mw_193, .int mwa_194, .int (nI ma_192), .int (nI en), .long mv_195, .int mf_196, .int ml])), (aMT, .inl (kMT, 65536, .inl B)), (aNx, .inl (kNx, 52650, .inl nx_197))] H := hP
                          have hD : va_D A [(aM, .inr (4, [.int th, .ref aMT, .int (nI mu), .ref aNw, .ref aNx, .int mw_193, .int mwa_194, .int (nI ma_192), .int (nI en), .long mv_195, .int mf_196, .int ml])), (aMT, .inl (kMT, 65536, .inl B)), (aNx, .inl (kNx, 52650, .inl nx_197))] := hD
                          rcases hw_198 with ⟨rfl, hw_198b, e1, e2, hw_198v, hw_198a, e3⟩ | ⟨rfl, hw_198b, hw_198k, hw_198a, e2⟩
                          ·
                            have e1 := e1.symm; subst e1
                            have e2 := e2.symm; subst e2
                            have e3 := e3.symm; subst e3
                            refine lv_if_eq (tgt := 167) hx hb d_Md_texture_127 (by decide) (fun c_199 => ?_) (fun c_199 => ?_)
                            ·
                              exact absurd c_199 (by decide)
                            ·
                              refine lv_aload_n hx hb d_Md_texture_130 rfl (lv_at hl 3 rfl) ?_
                              refine lv_bipush (v := 44) hx hb d_Md_texture_131 (by decide) ?_
                              have hPc := hP.sub (ws' := [(aM, .inr (4, [.int th, .ref aMT, .int (nI mu), .ref aNw, .ref aNx, .int mw, .int mwa, .int (nI ma_192), .int (nI en), .long mv_195, .int mf_196, .int ml])), (aMT, .inl (kMT, 65536, .inl B))]) [0, 1] rfl
                              have hDc := hD.sub (ws' := [(aM, .inr (4, [.int th, .ref aMT, .int (nI mu), .ref aNw, .ref aNx, .int mw, .int mwa, .int (nI ma_192), .int (nI en), .long mv_195, .int mf_196, .int ml])), (aMT, .inl (kMT, 65536, .inl B))]) [0, 1] (by decide) rfl
                              have hKc := hK.sub (tys' := [(kMT, .byte)]) [0] rfl
                              have hFc := va_free (wc := [(aM, .inr (4, [.int th, .ref aMT, .int (nI mu), .ref aNw, .ref aNx, .int mw, .int mwa, .int (nI ma_192), .int (nI en), .long mv_195, .int mf_196, .int ml])), (aMT, .inl (kMT, 65536, .inl B))]) hD hS hA [0, 1] rfl
                              refine va_calli (va_runV (As := [.int 44]) (rest := []) ⟨hx, hb, hml, hown, hts⟩ (c_Md_sign l G dC dI H.size aM th aMT mu aNw aNx mw mwa ma_192 en mv_195 mf_196 ml kMT B 44 (by omega) (by omega)) (cwV 1 hts (gV tw_537 tw_539 ts_20 tw_5 tw_540 rfl) rfl rfl rfl (by decide +kernel) ⟨Nat.le_of_ble_eq_true rfl, Nat.le_of_ble_eq_true rfl⟩) (PW_preV hPc hKc hDc hE hS hFc (ci := 4) (q0 := 0) rfl rfl) rfl rfl hl.1 rfl (lv_room (Nat.le_of_ble_eq_true rfl)) d_Md_texture_133 ⟨Nat.le_of_ble_eq_true rfl, Nat.le_of_ble_eq_true rfl⟩) hS (fun q _ h => hFc q h) hFc (fun r_200 uu t H1 locs ht hvm hw_204 hB hz1 hk1 hS => ?_)
                              obtain ⟨ma_201, mw_202, mwa_203⟩ := uu
                              obtain ⟨hP1, hD1, hsz1⟩ := hB
                              rw [ht] at hP1 hsz1
                              obtain ⟨hP, hD⟩ := va_join (wr := [(aNx, .inl (kNx, 52650, .inl (upd (upd (upd nx (8 + (3080 * kk)) (nI sd)) ((8 + (3080 * kk)) + 1) hw_183v) ((8 + (3080 * kk)) + 2) hw_198v)))]) (w1 := [(aM, .inr (4, [.int th, .ref aMT, .int (nI mu), .ref aNw, .ref aNx, .int mw_202, .int mwa_203, .int (nI ma_201), .int (nI en), .long mv_195, .int mf_196, .int ml])), (aMT, .inl (kMT, 65536, .inl B))]) hP hD [0, 1] [2] rfl rfl (by decide) (by decide) hk1 hFc hP1 hD1
                              generalize H1 = H at hP hS ⊢
                              have hP : va_P (dC, dI) vwCl [(aNx, .inl (kNx, 52650, .inl (upd (upd (upd nx (8 + (3080 * kk)) (nI sd)) ((8 + (3080 * kk)) + 1) hw_183v) ((8 + (3080 * kk)) + 2) hw_198v))), (aM, .inr (4, [.int th, .ref aMT, .int (nI mu), .ref aNw, .ref aNx, .int mw_202, .int mwa_203, .int (nI ma_201), .int (nI en), .long mv_195, .int mf_196, .int ml])), (aMT, .inl (kMT, 65536, .inl B))] H := hP
                              have hD : va_D A [(aNx, .inl (kNx, 52650, .inl (upd (upd (upd nx (8 + (3080 * kk)) (nI sd)) ((8 + (3080 * kk)) + 1) hw_183v) ((8 + (3080 * kk)) + 2) hw_198v))), (aM, .inr (4, [.int th, .ref aMT, .int (nI mu), .ref aNw, .ref aNx, .int mw_202, .int mwa_203, .int (nI ma_201), .int (nI en), .long mv_195, .int mf_196, .int ml])), (aMT, .inl (kMT, 65536, .inl B))] := hD
                              rcases hw_204 with ⟨rfl, hw_204a, hw_204b, e1, e2⟩ | ⟨rfl, hw_204b, hw_204k, hw_204a, e2⟩
                              ·
                                have e1 := e1.symm; subst e1
                                have e2 := e2.symm; subst e2
                                refine lv_if_eq (tgt := 167) hx hb d_Md_texture_136 (by decide) (fun c_205 => ?_) (fun c_205 => ?_)
                                ·
                                  exact absurd c_205 (by decide)
                                ·
                                  refine lv_aload_n hx hb d_Md_texture_139 rfl (lv_at hl 3 rfl) ?_
                                  refine lv_ldc2 (v := zWv 16) hx hb hown (hz _ tw_641) d_Md_texture_140 ?_
                                  refine lv_iload_n hx hb d_Md_texture_143 rfl (lv_at hl 2 rfl) ?_
                                  refine lv_bipush (v := 8) hx hb d_Md_texture_144 (by decide) ?_
                                  refine lv_iadd hx hb d_Md_texture_146 ?_
                                  refine zt_top (nI_add (8 + (3080 * kk)) 8) ?_
                                  refine lv_iload hx hb d_Md_texture_147 (lv_at hl 0 rfl) ?_
                                  refine lv_iload hx hb d_Md_texture_149 (lv_at hl 0 rfl) ?_
                                  refine lv_iconst (v := 1) hx hb d_Md_texture_151 (by decide) ?_
                                  refine lv_iconst (v := 0) hx hb d_Md_texture_152 (by decide) ?_
                                  refine lv_sipush (v := 255) hx hb d_Md_texture_153 (by decide) ?_
                                  refine lv_iconst (v := 0) hx hb d_Md_texture_156 (by decide) ?_
                                  have hPc := hP.sub (ws' := [(aM, .inr (4, [.int th, .ref aMT, .int (nI mu), .ref aNw, .ref aNx, .int mw, .int mwa, .int (nI ma_201), .int (nI en), .long mv_195, .int mf_196, .int ml])), (aMT, .inl (kMT, 65536, .inl B)), (aNx, .inl (kNx, 52650, .inl (upd (upd (upd nx (8 + (3080 * kk)) (nI sd)) ((8 + (3080 * kk)) + 1) hw_183v) ((8 + (3080 * kk)) + 2) hw_198v)))]) [1, 2, 0] rfl
                                  have hDc := hD.sub (ws' := [(aM, .inr (4, [.int th, .ref aMT, .int (nI mu), .ref aNw, .ref aNx, .int mw, .int mwa, .int (nI ma_201), .int (nI en), .long mv_195, .int mf_196, .int ml])), (aMT, .inl (kMT, 65536, .inl B)), (aNx, .inl (kNx, 52650, .inl (upd (upd (upd nx (8 + (3080 * kk)) (nI sd)) ((8 + (3080 * kk)) + 1) hw_183v) ((8 + (3080 * kk)) + 2) hw_198v)))]) [1, 2, 0] (by decide) rfl
                                  have hKc := hK.sub (tys' := [(kMT, .byte), (kNx, .int)]) [0, 1] rfl
                                  have hFc := va_free (wc := [(aM, .inr (4, [.int th, .ref aMT, .int (nI mu), .ref aNw, .ref aNx, .int mw, .int mwa, .int (nI ma_201), .int (nI en), .long mv_195, .int mf_196, .int ml])), (aMT, .inl (kMT, 65536, .inl B)), (aNx, .inl (kNx, 52650, .inl (upd (upd (upd nx (8 + (3080 * kk)) (nI sd)) ((8 + (3080 * kk)) + 1) hw_183v) ((8 + (3080 * kk)) + 2) hw_198v)))]) hD hS hA [1, 2, 0] rfl
                                  refine va_calli (va_runV (As := [.long (zWv 16), .int (nI ((8 + (3080 * kk)) + 8)), .int (nI ((3 * sd) * sd)), .int (nI ((3 * sd) * sd)), .int (nI 1), .int 0, .int 255, .int 0]) (rest := []) ⟨hx, hb, hml, hown, hts⟩ (c_Md_list l G dC dI H.size aM th aMT mu aNw aNx mw mwa ma_201 en mv_195 mf_196 ml kMT B kNx (upd (upd (upd nx (8 + (3080 * kk)) (nI sd)) ((8 + (3080 * kk)) + 1) hw_183v) ((8 + (3080 * kk)) + 2) hw_198v) 16 ((8 + (3080 * kk)) + 8) ((3 * sd) * sd) ((3 * sd) * sd) 1 0 255 0 (by omega) (by omega) (by decide) (by decide) (zSb_len _) (by omega) (by omega) (by omega) (Or.inl rfl) (Or.inl rfl) (by decide) (by decide) (by decide) (by decide)) (cwV 8 hts (gV tw_592 tw_594 ts_30 tw_5 tw_595 rfl) rfl rfl rfl (by decide +kernel) ⟨Nat.le_of_ble_eq_true rfl, Nat.le_of_ble_eq_true rfl⟩) (PW_preV hPc hKc hDc hE hS hFc (ci := 4) (q0 := 0) rfl rfl) rfl rfl hl.1 rfl (lv_room (Nat.le_of_ble_eq_true rfl)) d_Md_texture_157 ⟨Nat.le_of_ble_eq_true rfl, Nat.le_of_ble_eq_true rfl⟩) hS (fun q _ h => hFc q h) hFc (fun r_206 uu t H1 locs ht hvm hw_214 hB hz1 hk1 hS => ?_)
                                  obtain ⟨ma_207, mw_208, mwa_209, mv_210, mf_211, nx_212, ml_213⟩ := uu
                                  obtain ⟨hP1, hD1, hsz1⟩ := hB
                                  rw [ht] at hP1 hsz1
                                  obtain ⟨hP, hD⟩ := va_join (wr := []) (w1 := [(aM, .inr (4, [.int th, .ref aMT, .int (nI mu), .ref aNw, .ref aNx, .int mw_208, .int mwa_209, .int (nI ma_207), .int (nI en), .long mv_210, .int mf_211, .int ml_213])), (aMT, .inl (kMT, 65536, .inl B)), (aNx, .inl (kNx, 52650, .inl nx_212))]) hP hD [1, 2, 0] [] rfl rfl (by decide) (by decide) hk1 hFc hP1 hD1
                                  generalize H1 = H at hP hS ⊢
                                  have hP : va_P (dC, dI) vwCl [(aM, .inr (4, [.int th, .ref aMT, .int (nI mu), .ref aNw, .ref aNx, .int mw_208, .int mwa_209, .int (nI ma_207), .int (nI en), .long mv_210, .int mf_211, .int ml_213])), (aMT, .inl (kMT, 65536, .inl B)), (aNx, .inl (kNx, 52650, .inl nx_212))] H := hP
                                  have hD : va_D A [(aM, .inr (4, [.int th, .ref aMT, .int (nI mu), .ref aNw, .ref aNx, .int mw_208, .int mwa_209, .int (nI ma_207), .int (nI en), .long mv_210, .int mf_211, .int ml_213])), (aMT, .inl (kMT, 65536, .inl B)), (aNx, .inl (kNx, 52650, .inl nx_212))] := hD
                                  simp only [zf01, zf11, zg13, zg33, decide_true, decide_false] at hw_214
                                  rcases hw_214 with ⟨rfl, hw_214b, e1, e2, hw_214n, hw_214a, e3⟩ | ⟨rfl, hw_214b, hw_214k, hw_214a, e2⟩
                                  ·
                                    have e1 := e1.symm; subst e1
                                    have e2 := e2.symm; subst e2
                                    have e3 := e3.symm; subst e3
                                    refine lv_if_eq (tgt := 167) hx hb d_Md_texture_160 (by decide) (fun c_215 => ?_) (fun c_215 => ?_)
                                    ·
                                      exact absurd c_215 (by decide)
                                    ·
                                      refine lv_iconst (v := 1) hx hb d_Md_texture_163 (by decide) ?_
                                      refine lv_goto (tgt := 168) hx hb d_Md_texture_164 (by decide) ?_
                                      refine zt_size (fun hzs => ?_)
                                      have hP9 := hP.sub (ws' := [(aM, .inr (4, [.int th, .ref aMT, .int (nI mu), .ref aNw, .ref aNx, .int mw, .int mwa, .int (nI ma_207), .int (nI en), .long mv_210, .int mf_211, .int (nI hw_214n)])), (aMT, .inl (kMT, 65536, .inl B)), (aNx, .inl (kNx, 52650, .inl nx_212))]) [0, 1, 2] rfl
                                      have hD9 := hD.sub (ws' := [(aM, .inr (4, [.int th, .ref aMT, .int (nI mu), .ref aNw, .ref aNx, .int mw, .int mwa, .int (nI ma_207), .int (nI en), .long mv_210, .int mf_211, .int (nI hw_214n)])), (aMT, .inl (kMT, 65536, .inl B)), (aNx, .inl (kNx, 52650, .inl nx_212))]) [0, 1, 2] (by decide) rfl
                                      exact W.zret (v := 1) hx hb hr rfl (fun t ht hW => ⟨⟨1, (ma_207, mw, mwa, mv_210, mf_211, nx_212, nI hw_214n), rfl, Or.inl ⟨rfl, by omega, rfl, rfl, by simp only [mTexture, mListK, mNumK, zB_ok, nI_clamp (show sd < 2 ^ 31 by omega), if_pos (zpow1 sd (by omega) (Or.inr (Or.inr (Or.inr (Or.inl (congrArg nI c_169)))))), hk9, hw_8a, hw_174a, hw_183a, hw_189a, hw_198a, hw_204a, hw_214a]⟩, by rw [ht]; exact hP9, hD9, by rw [ht]; exact hzs⟩, hS.F ht⟩) hS.2.2 d_Md_texture_168
                                  ·
                                    have e2 := e2.symm; subst e2
                                    refine lv_if_eq (tgt := 167) hx hb d_Md_texture_160 (by decide) (fun c_216 => ?_) (fun c_216 => ?_)
                                    ·
                                      refine lv_iconst (v := 0) hx hb d_Md_texture_167 (by decide) ?_
                                      refine zt_size (fun hzs => ?_)
                                      have hP9 := hP.sub (ws' := [(aM, .inr (4, [.int th, .ref aMT, .int (nI mu), .ref aNw, .ref aNx, .int mw_208, .int (nI hw_214k), .int (nI ma_207), .int (nI en), .long mv_210, .int mf_211, .int ml_213])), (aMT, .inl (kMT, 65536, .inl B)), (aNx, .inl (kNx, 52650, .inl nx_212))]) [0, 1, 2] rfl
                                      have hD9 := hD.sub (ws' := [(aM, .inr (4, [.int th, .ref aMT, .int (nI mu), .ref aNw, .ref aNx, .int mw_208, .int (nI hw_214k), .int (nI ma_207), .int (nI en), .long mv_210, .int mf_211, .int ml_213])), (aMT, .inl (kMT, 65536, .inl B)), (aNx, .inl (kNx, 52650, .inl nx_212))]) [0, 1, 2] (by decide) rfl
                                      exact W.zret (v := 0) hx hb hr rfl (fun t ht hW => ⟨⟨0, (ma_207, mw_208, nI hw_214k, mv_210, mf_211, nx_212, ml_213), rfl, Or.inr ⟨rfl, by omega, _, by simp only [mTexture, mListK, mNumK, zB_ok, nI_clamp (show sd < 2 ^ 31 by omega), if_pos (zpow1 sd (by omega) (Or.inr (Or.inr (Or.inr (Or.inl (congrArg nI c_169)))))), hk9, hw_8a, hw_174a, hw_183a, hw_189a, hw_198a, hw_204a, hw_214a, zB_er], rfl⟩, by rw [ht]; exact hP9, hD9, by rw [ht]; exact hzs⟩, hS.F ht⟩) hS.2.2 d_Md_texture_168
                                    ·
                                      exact absurd (by decide) c_216
                              ·
                                have e2 := e2.symm; subst e2
                                refine lv_if_eq (tgt := 167) hx hb d_Md_texture_136 (by decide) (fun c_217 => ?_) (fun c_217 => ?_)
                                ·
                                  refine lv_iconst (v := 0) hx hb d_Md_texture_167 (by decide) ?_
                                  refine zt_size (fun hzs => ?_)
                                  have hP9 := hP.sub (ws' := [(aM, .inr (4, [.int th, .ref aMT, .int (nI mu), .ref aNw, .ref aNx, .int mw_202, .int (nI hw_204k), .int (nI ma_201), .int (nI en), .long mv_195, .int mf_196, .int ml])), (aMT, .inl (kMT, 65536, .inl B)), (aNx, .inl (kNx, 52650, .inl (upd (upd (upd nx (8 + (3080 * kk)) (nI sd)) ((8 + (3080 * kk)) + 1) hw_183v) ((8 + (3080 * kk)) + 2) hw_198v)))]) [1, 2, 0] rfl
                                  have hD9 := hD.sub (ws' := [(aM, .inr (4, [.int th, .ref aMT, .int (nI mu), .ref aNw, .ref aNx, .int mw_202, .int (nI hw_204k), .int (nI ma_201), .int (nI en), .long mv_195, .int mf_196, .int ml])), (aMT, .inl (kMT, 65536, .inl B)), (aNx, .inl (kNx, 52650, .inl (upd (upd (upd nx (8 + (3080 * kk)) (nI sd)) ((8 + (3080 * kk)) + 1) hw_183v) ((8 + (3080 * kk)) + 2) hw_198v)))]) [1, 2, 0] (by decide) rfl
                                  exact W.zret (v := 0) hx hb hr rfl (fun t ht hW => ⟨⟨0, (ma_201, mw_202, nI hw_204k, mv_195, mf_196, upd (upd (upd nx (8 + (3080 * kk)) (nI sd)) ((8 + (3080 * kk)) + 1) hw_183v) ((8 + (3080 * kk)) + 2) hw_198v, ml), rfl, Or.inr ⟨rfl, by omega, _, by simp only [mTexture, mListK, mNumK, zB_ok, nI_clamp (show sd < 2 ^ 31 by omega), if_pos (zpow1 sd (by omega) (Or.inr (Or.inr (Or.inr (Or.inl (congrArg nI c_169)))))), hk9, hw_8a, hw_174a, hw_183a, hw_189a, hw_198a, hw_204a, zB_er], rfl⟩, by rw [ht]; exact hP9, hD9, by rw [ht]; exact hzs⟩, hS.F ht⟩) hS.2.2 d_Md_texture_168
                                ·
                                  exact absurd (by decide) c_217
                          ·
                            have e2 := e2.symm; subst e2
                            refine lv_if_eq (tgt := 167) hx hb d_Md_texture_127 (by decide) (fun c_218 => ?_) (fun c_218 => ?_)
                            ·
                              refine lv_iconst (v := 0) hx hb d_Md_texture_167 (by decide) ?_
                              refine zt_size (fun hzs => ?_)
                              have hP9 := hP.sub (ws' := [(aM, .inr (4, [.int th, .ref aMT, .int (nI mu), .ref aNw, .ref aNx, .int mw_193, .int (nI hw_198k), .int (nI ma_192), .int (nI en), .long mv_195, .int mf_196, .int ml])), (aMT, .inl (kMT, 65536, .inl B)), (aNx, .inl (kNx, 52650, .inl nx_197))]) [0, 1, 2] rfl
                              have hD9 := hD.sub (ws' := [(aM, .inr (4, [.int th, .ref aMT, .int (nI mu), .ref aNw, .ref aNx, .int mw_193, .int (nI hw_198k), .int (nI ma_192), .int (nI en), .long mv_195, .int mf_196, .int ml])), (aMT, .inl (kMT, 65536, .inl B)), (aNx, .inl (kNx, 52650, .inl nx_197))]) [0, 1, 2] (by decide) rfl
                              exact W.zret (v := 0) hx hb hr rfl (fun t ht hW => ⟨⟨0, (ma_192, mw_193, nI hw_198k, mv_195, mf_196, nx_197, ml), rfl, Or.inr ⟨rfl, by omega, _, by simp only [mTexture, mListK, mNumK, zB_ok, nI_clamp (show sd < 2 ^ 31 by omega), if_pos (zpow1 sd (by omega) (Or.inr (Or.inr (Or.inr (Or.inl (congrArg nI c_169)))))), hk9, hw_8a, hw_174a, hw_183a, hw_189a, hw_198a, zB_er], rfl⟩, by rw [ht]; exact hP9, hD9, by rw [ht]; exact hzs⟩, hS.F ht⟩) hS.2.2 d_Md_texture_168
                            ·
                              exact absurd (by decide) c_218
                      ·
                        have e2 := e2.symm; subst e2
                        refine lv_if_eq (tgt := 167) hx hb d_Md_texture_112 (by decide) (fun c_219 => ?_) (fun c_219 => ?_)
                        ·
                          refine lv_iconst (v := 0) hx hb d_Md_texture_167 (by decide) ?_
                          refine zt_size (fun hzs => ?_)
                          have hP9 := hP.sub (ws' := [(aM, .inr (4, [.int th, .ref aMT, .int (nI mu), .ref aNw, .ref aNx, .int mw_187, .int (nI hw_189k), .int (nI ma_186), .int (nI en), .long mv_180, .int mf_181, .int ml])), (aMT, .inl (kMT, 65536, .inl B)), (aNx, .inl (kNx, 52650, .inl (upd (upd nx (8 + (3080 * kk)) (nI sd)) ((8 + (3080 * kk)) + 1) hw_183v)))]) [1, 2, 0] rfl
                          have hD9 := hD.sub (ws' := [(aM, .inr (4, [.int th, .ref aMT, .int (nI mu), .ref aNw, .ref aNx, .int mw_187, .int (nI hw_189k), .int (nI ma_186), .int (nI en), .long mv_180, .int mf_181, .int ml])), (aMT, .inl (kMT, 65536, .inl B)), (aNx, .inl (kNx, 52650, .inl (upd (upd nx (8 + (3080 * kk)) (nI sd)) ((8 + (3080 * kk)) + 1) hw_183v)))]) [1, 2, 0] (by decide) rfl
                          exact W.zret (v := 0) hx hb hr rfl (fun t ht hW => ⟨⟨0, (ma_186, mw_187, nI hw_189k, mv_180, mf_181, upd (upd nx (8 + (3080 * kk)) (nI sd)) ((8 + (3080 * kk)) + 1) hw_183v, ml), rfl, Or.inr ⟨rfl, by omega, _, by simp only [mTexture, mListK, mNumK, zB_ok, nI_clamp (show sd < 2 ^ 31 by omega), if_pos (zpow1 sd (by omega) (Or.inr (Or.inr (Or.inr (Or.inl (congrArg nI c_169)))))), hk9, hw_8a, hw_174a, hw_183a, hw_189a, zB_er], rfl⟩, by rw [ht]; exact hP9, hD9, by rw [ht]; exact hzs⟩, hS.F ht⟩) hS.2.2 d_Md_texture_168
                        ·
                          exact absurd (by decide) c_219
                  ·
                    have e2 := e2.symm; subst e2
                    refine lv_if_eq (tgt := 167) hx hb d_Md_texture_103 (by decide) (fun c_220 => ?_) (fun c_220 => ?_)
                    ·
                      refine lv_iconst (v := 0) hx hb d_Md_texture_167 (by decide) ?_
                      refine zt_size (fun hzs => ?_)
                      have hP9 := hP.sub (ws' := [(aM, .inr (4, [.int th, .ref aMT, .int (nI mu), .ref aNw, .ref aNx, .int mw_178, .int (nI hw_183k), .int (nI ma_177), .int (nI en), .long mv_180, .int mf_181, .int ml])), (aMT, .inl (kMT, 65536, .inl B)), (aNx, .inl (kNx, 52650, .inl nx_182))]) [0, 1, 2] rfl
                      have hD9 := hD.sub (ws' := [(aM, .inr (4, [.int th, .ref aMT, .int (nI mu), .ref aNw, .ref aNx, .int mw_178, .int (nI hw_183k), .int (nI ma_177), .int (nI en), .long mv_180, .int mf_181, .int ml])), (aMT, .inl (kMT, 65536, .inl B)), (aNx, .inl (kNx, 52650, .inl nx_182))]) [0, 1, 2] (by decide) rfl
                      exact W.zret (v := 0) hx hb hr rfl (fun t ht hW => ⟨⟨0, (ma_177, mw_178, nI hw_183k, mv_180, mf_181, nx_182, ml), rfl, Or.inr ⟨rfl, by omega, _, by simp only [mTexture, mListK, mNumK, zB_ok, nI_clamp (show sd < 2 ^ 31 by omega), if_pos (zpow1 sd (by omega) (Or.inr (Or.inr (Or.inr (Or.inl (congrArg nI c_169)))))), hk9, hw_8a, hw_174a, hw_183a, zB_er], rfl⟩, by rw [ht]; exact hP9, hD9, by rw [ht]; exact hzs⟩, hS.F ht⟩) hS.2.2 d_Md_texture_168
                    ·
                      exact absurd (by decide) c_220
              ·
                have e2 := e2.symm; subst e2
                refine lv_if_eq (tgt := 167) hx hb d_Md_texture_88 (by decide) (fun c_221 => ?_) (fun c_221 => ?_)
                ·
                  refine lv_iconst (v := 0) hx hb d_Md_texture_167 (by decide) ?_
                  refine zt_size (fun hzs => ?_)
                  have hP9 := hP.sub (ws' := [(aM, .inr (4, [.int th, .ref aMT, .int (nI mu), .ref aNw, .ref aNx, .int mw_172, .int (nI hw_174k), .int (nI ma_171), .int (nI en), .long mv_5, .int (nI h9), .int ml])), (aMT, .inl (kMT, 65536, .inl B)), (aNx, .inl (kNx, 52650, .inl (upd nx (8 + (3080 * kk)) (nI sd))))]) [1, 2, 0] rfl
                  have hD9 := hD.sub (ws' := [(aM, .inr (4, [.int th, .ref aMT, .int (nI mu), .ref aNw, .ref aNx, .int mw_172, .int (nI hw_174k), .int (nI ma_171), .int (nI en), .long mv_5, .int (nI h9), .int ml])), (aMT, .inl (kMT, 65536, .inl B)), (aNx, .inl (kNx, 52650, .inl (upd nx (8 + (3080 * kk)) (nI sd))))]) [1, 2, 0] (by decide) rfl
                  exact W.zret (v := 0) hx hb hr rfl (fun t ht hW => ⟨⟨0, (ma_171, mw_172, nI hw_174k, mv_5, nI h9, upd nx (8 + (3080 * kk)) (nI sd), ml), rfl, Or.inr ⟨rfl, by omega, _, by simp only [mTexture, mListK, mNumK, zB_ok, nI_clamp (show sd < 2 ^ 31 by omega), if_pos (zpow1 sd (by omega) (Or.inr (Or.inr (Or.inr (Or.inl (congrArg nI c_169)))))), hk9, hw_8a, hw_174a, zB_er], rfl⟩, by rw [ht]; exact hP9, hD9, by rw [ht]; exact hzs⟩, hS.F ht⟩) hS.2.2 d_Md_texture_168
                ·
                  exact absurd (by decide) c_221
            ·
              have c_169 : ¬ (sd = 8) := fun z => c_169 ((@nI_eq sd 8 (by omega) (by omega)).mpr z)
              refine lv_iload_n hx hb d_Md_texture_53 rfl (lv_at hl 0 rfl) ?_
              refine lv_bipush (v := 16) hx hb d_Md_texture_54 (by decide) ?_
              refine lv_icmp_eq (tgt := 75) hx hb d_Md_texture_56 (by decide) (fun c_222 => ?_) (fun c_222 => ?_)
              ·
                have c_222 : sd = 16 := (@nI_eq sd 16 (by omega) (by omega)).mp c_222
                refine lv_iconst (v := 3) hx hb d_Md_texture_75 (by decide) ?_
                refine lv_iload_n hx hb d_Md_texture_76 rfl (lv_at hl 0 rfl) ?_
                refine lv_imul hx hb d_Md_texture_77 ?_
                refine zt_top (pk_mul 3 sd) ?_
                refine lv_iload_n hx hb d_Md_texture_78 rfl (lv_at hl 0 rfl) ?_
                refine lv_imul hx hb d_Md_texture_79 ?_
                refine zt_top (pk_mul (3 * sd) sd) ?_
                refine lv_istore (lv' := [(4, .int (nI ((3 * sd) * sd))), (3, .int (nI sd)), (2, .int (nI (8 + (3080 * kk)))), (0, .ref aM), (1, .int (nI kk))]) hx hb d_Md_texture_80 hl (by decide) rfl (fun ls hl => ?_)
                refine lv_aload_n hx hb d_Md_texture_82 rfl (lv_at hl 3 rfl) ?_
                refine lv_bipush (v := 44) hx hb d_Md_texture_83 (by decide) ?_
                have hPc := hP.sub (ws' := [(aM, .inr (4, [.int th, .ref aMT, .int (nI mu), .ref aNw, .ref aNx, .int mw, .int mwa, .int (nI ma_2), .int (nI en), .long mv_5, .int (nI h9), .int ml])), (aMT, .inl (kMT, 65536, .inl B))]) [0, 1] rfl
                have hDc := hD.sub (ws' := [(aM, .inr (4, [.int th, .ref aMT, .int (nI mu), .ref aNw, .ref aNx, .int mw, .int mwa, .int (nI ma_2), .int (nI en), .long mv_5, .int (nI h9), .int ml])), (aMT, .inl (kMT, 65536, .inl B))]) [0, 1] (by decide) rfl
                have hKc := hK.sub (tys' := [(kMT, .byte)]) [0] rfl
                have hFc := va_free (wc := [(aM, .inr (4, [.int th, .ref aMT, .int (nI mu), .ref aNw, .ref aNx, .int mw, .int mwa, .int (nI ma_2), .int (nI en), .long mv_5, .int (nI h9), .int ml])), (aMT, .inl (kMT, 65536, .inl B))]) hD hS hA [0, 1] rfl
                refine va_calli (va_runV (As := [.int 44]) (rest := []) ⟨hx, hb, hml, hown, hts⟩ (c_Md_sign l G dC dI H.size aM th aMT mu aNw aNx mw mwa ma_2 en mv_5 (nI h9) ml kMT B 44 (by omega) (by omega)) (cwV 1 hts (gV tw_537 tw_539 ts_20 tw_5 tw_540 rfl) rfl rfl rfl (by decide +kernel) ⟨Nat.le_of_ble_eq_true rfl, Nat.le_of_ble_eq_true rfl⟩) (PW_preV hPc hKc hDc hE hS hFc (ci := 4) (q0 := 0) rfl rfl) rfl rfl hl.1 rfl (lv_room (Nat.le_of_ble_eq_true rfl)) d_Md_texture_85 ⟨Nat.le_of_ble_eq_true rfl, Nat.le_of_ble_eq_true rfl⟩) hS (fun q _ h => hFc q h) hFc (fun r_223 uu t H1 locs ht hvm hw_227 hB hz1 hk1 hS => ?_)
                obtain ⟨ma_224, mw_225, mwa_226⟩ := uu
                obtain ⟨hP1, hD1, hsz1⟩ := hB
                rw [ht] at hP1 hsz1
                obtain ⟨hP, hD⟩ := va_join (wr := [(aNx, .inl (kNx, 52650, .inl (upd nx (8 + (3080 * kk)) (nI sd))))]) (w1 := [(aM, .inr (4, [.int th, .ref aMT, .int (nI mu), .ref aNw, .ref aNx, .int mw_225, .int mwa_226, .int (nI ma_224), .int (nI en), .long mv_5, .int (nI h9), .int ml])), (aMT, .inl (kMT, 65536, .inl B))]) hP hD [0, 1] [2] rfl rfl (by decide) (by decide) hk1 hFc hP1 hD1
                generalize H1 = H at hP hS ⊢
                have hP : va_P (dC, dI) vwCl [(aNx, .inl (kNx, 52650, .inl (upd nx (8 + (3080 * kk)) (nI sd)))), (aM, .inr (4, [.int th, .ref aMT, .int (nI mu), .ref aNw, .ref aNx, .int mw_225, .int mwa_226, .int (nI ma_224), .int (nI en), .long mv_5, .int (nI h9), .int ml])), (aMT, .inl (kMT, 65536, .inl B))] H := hP
                have hD : va_D A [(aNx, .inl (kNx, 52650, .inl (upd nx (8 + (3080 * kk)) (nI sd)))), (aM, .inr (4, [.int th, .ref aMT, .int (nI mu), .ref aNw, .ref aNx, .int mw_225, .int mwa_226, .int (nI ma_224), .int (nI en), .long mv_5, .int (nI h9), .int ml])), (aMT, .inl (kMT, 65536, .inl B))] := hD
                rcases hw_227 with ⟨rfl, hw_227a, hw_227b, e1, e2⟩ | ⟨rfl, hw_227b, hw_227k, hw_227a, e2⟩
                ·
                  have e1 := e1.symm; subst e1
                  have e2 := e2.symm; subst e2
                  refine lv_if_eq (tgt := 167) hx hb d_Md_texture_88 (by decide) (fun c_228 => ?_) (fun c_228 => ?_)
                  ·
                    exact absurd c_228 (by decide)
                  ·
                    refine lv_aload_n hx hb d_Md_texture_91 rfl (lv_at hl 3 rfl) ?_
                    refine lv_ldc2 (v := zWv 14) hx hb hown (hz _ tw_639) d_Md_texture_92 ?_
                    refine lv_iload_n hx hb d_Md_texture_95 rfl (lv_at hl 2 rfl) ?_
                    refine lv_iconst (v := 1) hx hb d_Md_texture_96 (by decide) ?_
                    refine lv_iadd hx hb d_Md_texture_97 ?_
                    refine zt_top (nI_add (8 + (3080 * kk)) 1) ?_
                    refine lv_iconst (v := 0) hx hb d_Md_texture_98 (by decide) ?_
                    refine lv_iconst (v := 2) hx hb d_Md_texture_99 (by decide) ?_
                    have hPc := hP.sub (ws' := [(aM, .inr (4, [.int th, .ref aMT, .int (nI mu), .ref aNw, .ref aNx, .int mw, .int mwa, .int (nI ma_224), .int (nI en), .long mv_5, .int (nI h9), .int ml])), (aMT, .inl (kMT, 65536, .inl B)), (aNx, .inl (kNx, 52650, .inl (upd nx (8 + (3080 * kk)) (nI sd))))]) [1, 2, 0] rfl
                    have hDc := hD.sub (ws' := [(aM, .inr (4, [.int th, .ref aMT, .int (nI mu), .ref aNw, .ref aNx, .int mw, .int mwa, .int (nI ma_224), .int (nI en), .long mv_5, .int (nI h9), .int ml])), (aMT, .inl (kMT, 65536, .inl B)), (aNx, .inl (kNx, 52650, .inl (upd nx (8 + (3080 * kk)) (nI sd))))]) [1, 2, 0] (by decide) rfl
                    have hKc := hK.sub (tys' := [(kMT, .byte), (kNx, .int)]) [0, 1] rfl
                    have hFc := va_free (wc := [(aM, .inr (4, [.int th, .ref aMT, .int (nI mu), .ref aNw, .ref aNx, .int mw, .int mwa, .int (nI ma_224), .int (nI en), .long mv_5, .int (nI h9), .int ml])), (aMT, .inl (kMT, 65536, .inl B)), (aNx, .inl (kNx, 52650, .inl (upd nx (8 + (3080 * kk)) (nI sd))))]) hD hS hA [1, 2, 0] rfl
                    refine va_calli (va_runV (As := [.long (zWv 14), .int (nI ((8 + (3080 * kk)) + 1)), .int 0, .int 2]) (rest := []) ⟨hx, hb, hml, hown, hts⟩ (c_Md_named l G dC dI H.size aM th aMT mu aNw aNx mw mwa ma_224 en mv_5 (nI h9) ml kMT B kNx (upd nx (8 + (3080 * kk)) (nI sd)) 14 ((8 + (3080 * kk)) + 1) 0 2 (by omega) (by omega) (by decide) (by decide) (zSb_len _) (by omega) (by decide) (by decide) (by decide) (by decide)) (cwV 4 hts (gV tw_611 tw_613 ts_33 tw_5 tw_614 rfl) rfl rfl rfl (by decide +kernel) ⟨Nat.le_of_ble_eq_true rfl, Nat.le_of_ble_eq_true rfl⟩) (PW_preV hPc hKc hDc hE hS hFc (ci := 4) (q0 := 0) rfl rfl) rfl rfl hl.1 rfl (lv_room (Nat.le_of_ble_eq_true rfl)) d_Md_texture_100 ⟨Nat.le_of_ble_eq_true rfl, Nat.le_of_ble_eq_true rfl⟩) hS (fun q _ h => hFc q h) hFc (fun r_229 uu t H1 locs ht hvm hw_236 hB hz1 hk1 hS => ?_)
                    obtain ⟨ma_230, mw_231, mwa_232, mv_233, mf_234, nx_235⟩ := uu
                    obtain ⟨hP1, hD1, hsz1⟩ := hB
                    rw [ht] at hP1 hsz1
                    obtain ⟨hP, hD⟩ := va_join (wr := []) (w1 := [(aM, .inr (4, [.int th, .ref aMT, .int (nI mu), .ref aNw, .ref aNx, .int mw_231, .int mwa_232, .int (nI ma_230), .int (nI en), .long mv_233, .int mf_234, .int ml])), (aMT, .inl (kMT, 65536, .inl B)), (aNx, .inl (kNx, 52650, .inl nx_235))]) hP hD [1, 2, 0] [] rfl rfl (by decide) (by decide) hk1 hFc hP1 hD1
                    generalize H1 = H at hP hS ⊢
                    have hP : va_P (dC, dI) vwCl [(aM, .inr (4, [.int th, .ref aMT, .int (nI mu), .ref aNw, .ref aNx, .int mw_231, .int mwa_232, .int (nI ma_230), .int (nI en), .long mv_233, .int mf_234, .int ml])), (aMT, .inl (kMT, 65536, .inl B)), (aNx, .inl (kNx, 52650, .inl nx_235))] H := hP
                    have hD : va_D A [(aM, .inr (4, [.int th, .ref aMT, .int (nI mu), .ref aNw, .ref aNx, .int mw_231, .int mwa_232, .int (nI ma_230), .int (nI en), .long mv_233, .int mf_234, .int ml])), (aMT, .inl (kMT, 65536, .inl B)), (aNx, .inl (kNx, 52650, .inl nx_235))] := hD
                    rcases hw_236 with ⟨rfl, hw_236b, e1, e2, hw_236v, hw_236a, e3⟩ | ⟨rfl, hw_236b, hw_236k, hw_236a, e2⟩
                    ·
                      have e1 := e1.symm; subst e1
                      have e2 := e2.symm; subst e2
                      have e3 := e3.symm; subst e3
                      refine lv_if_eq (tgt := 167) hx hb d_Md_texture_103 (by decide) (fun c_237 => ?_) (fun c_237 => ?_)
                      ·
                        exact absurd c_237 (by decide)
                      ·
                        refine lv_aload_n hx hb d_Md_texture_106 rfl (lv_at hl 3 rfl) ?_
                        refine lv_bipush (v := 44) hx hb d_Md_texture_107 (by decide) ?_
                        have hPc := hP.sub (ws' := [(aM, .inr (4, [.int th, .ref aMT, .int (nI mu), .ref aNw, .ref aNx, .int mw, .int mwa, .int (nI ma_230), .int (nI en), .long mv_233, .int mf_234, .int ml])), (aMT, .inl (kMT, 65536, .inl B))]) [0, 1] rfl
                        have hDc := hD.sub (ws' := [(aM, .inr (4, [.int th, .ref aMT, .int (nI mu), .ref aNw, .ref aNx, .int mw, .int mwa, .int (nI ma_230), .int (nI en), .long mv_233, .int mf_234, .int ml])), (aMT, .inl (kMT, 65536, .inl B))]) [0, 1] (by decide) rfl
                        have hKc := hK.sub (tys' := [(kMT, .byte)]) [0] rfl
                        have hFc := va_free (wc := [(aM, .inr (4, [.int th, .ref aMT, .int (nI mu), .ref aNw, .ref aNx, .int mw, .int mwa, .int (nI ma_230), .int (nI en), .long mv_233, .int mf_234, .int ml])), (aMT, .inl (kMT, 65536, .inl B))]) hD hS hA [0, 1] rfl
                        refine va_calli (va_runV (As := [.int 44]) (rest := []) ⟨hx, hb, hml, hown, hts⟩ (c_Md_sign l G dC dI H.size aM th aMT mu aNw aNx mw mwa ma_230 en mv_233 mf_234 ml kMT B 44 (by omega) (by omega)) (cwV 1 hts (gV tw_537 tw_539 ts_20 tw_5 tw_540 rfl) rfl rfl rfl (by decide +kernel) ⟨Nat.le_of_ble_eq_true rfl, Nat.le_of_ble_eq_true rfl⟩) (PW_preV hPc hKc hDc hE hS hFc (ci := 4) (q0 := 0) rfl rfl) rfl rfl hl.1 rfl (lv_room (Nat.le_of_ble_eq_true rfl)) d_Md_texture_109 ⟨Nat.le_of_ble_eq_true rfl, Nat.le_of_ble_eq_true rfl⟩) hS (fun q _ h => hFc q h) hFc (fun r_238 uu t H1 locs ht hvm hw_242 hB hz1 hk1 hS => ?_)
                        obtain ⟨ma_239, mw_240, mwa_241⟩ := uu
                        obtain ⟨hP1, hD1, hsz1⟩ := hB
                        rw [ht] at hP1 hsz1
                        obtain ⟨hP, hD⟩ := va_join (wr := [(aNx, .inl (kNx, 52650, .inl (upd (upd nx (8 + (3080 * kk)) (nI sd)) ((8 + (3080 * kk)) + 1) hw_236v)))]) (w1 := [(aM, .inr (4, [.int th, .ref aMT, .int (nI mu), .ref aNw, .ref aNx, .int mw_240, .int mwa_241, .int (nI ma_239), .int (nI en), .long mv_233, .int mf_234, .int ml])), (aMT, .inl (kMT, 65536, .inl B))]) hP hD [0, 1] [2] rfl rfl (by decide) (by decide) hk1 hFc hP1 hD1
                        generalize H1 = H at hP hS ⊢
                        have hP : va_P (dC, dI) vwCl [(aNx, .inl (kNx, 52650, .inl (upd (upd nx (8 + (3080 * kk)) (nI sd)) ((8 + (3080 * kk)) + 1) hw_236v))), (aM, .inr (4, [.int th, .ref aMT, .int (nI mu), .ref aNw, .ref aNx, .int mw_240, .int mwa_241, .int (nI ma_239), .int (nI en), .long mv_233, .int mf_234, .int ml])), (aMT, .inl (kMT, 65536, .inl B))] H := hP
                        have hD : va_D A [(aNx, .inl (kNx, 52650, .inl (upd (upd nx (8 + (3080 * kk)) (nI sd)) ((8 + (3080 * kk)) + 1) hw_236v))), (aM, .inr (4, [.int th, .ref aMT, .int (nI mu), .ref aNw, .ref aNx, .int mw_240, .int mwa_241, .int (nI ma_239), .int (nI en), .long mv_233, .int mf_234, .int ml])), (aMT, .inl (kMT, 65536, .inl B))] := hD
                        rcases hw_242 with ⟨rfl, hw_242a, hw_242b, e1, e2⟩ | ⟨rfl, hw_242b, hw_242k, hw_242a, e2⟩
                        ·
                          have e1 := e1.symm; subst e1
                          have e2 := e2.symm; subst e2
                          refine lv_if_eq (tgt := 167) hx hb d_Md_texture_112 (by decide) (fun c_243 => ?_) (fun c_243 => ?_)
                          ·
                            exact absurd c_243 (by decide)
                          ·
                            refine lv_aload_n hx hb d_Md_texture_115 rfl (lv_at hl 3 rfl) ?_
                            refine lv_ldc2 (v := zWv 15) hx hb hown (hz _ tw_640) d_Md_texture_116 ?_
                            refine lv_iload_n hx hb d_Md_texture_119 rfl (lv_at hl 2 rfl) ?_
                            refine lv_iconst (v := 2) hx hb d_Md_texture_120 (by decide) ?_
                            refine lv_iadd hx hb d_Md_texture_121 ?_
                            refine zt_top (nI_add (8 + (3080 * kk)) 2) ?_
                            refine lv_iconst (v := 0) hx hb d_Md_texture_122 (by decide) ?_
                            refine lv_iconst (v := 1) hx hb d_Md_texture_123 (by decide) ?_
                            have hPc := hP.sub (ws' := [(aM, .inr (4, [.int th, .ref aMT, .int (nI mu), .ref aNw, .ref aNx, .int mw, .int mwa, .int (nI ma_239), .int (nI en), .long mv_233, .int mf_234, .int ml])), (aMT, .inl (kMT, 65536, .inl B)), (aNx, .inl (kNx, 52650, .inl (upd (upd nx (8 + (3080 * kk)) (nI sd)) ((8 + (3080 * kk)) + 1) hw_236v)))]) [1, 2, 0] rfl
                            have hDc := hD.sub (ws' := [(aM, .inr (4, [.int th, .ref aMT, .int (nI mu), .ref aNw, .ref aNx, .int mw, .int mwa, .int (nI ma_239), .int (nI en), .long mv_233, .int mf_234, .int ml])), (aMT, .inl (kMT, 65536, .inl B)), (aNx, .inl (kNx, 52650, .inl (upd (upd nx (8 + (3080 * kk)) (nI sd)) ((8 + (3080 * kk)) + 1) hw_236v)))]) [1, 2, 0] (by decide) rfl
                            have hKc := hK.sub (tys' := [(kMT, .byte), (kNx, .int)]) [0, 1] rfl
                            have hFc := va_free (wc := [(aM, .inr (4, [.int th, .ref aMT, .int (nI mu), .ref aNw, .ref aNx, .int mw, .int mwa, .int (nI ma_239), .int (nI en), .long mv_233, .int mf_234, .int ml])), (aMT, .inl (kMT, 65536, .inl B)), (aNx, .inl (kNx, 52650, .inl (upd (upd nx (8 + (3080 * kk)) (nI sd)) ((8 + (3080 * kk)) + 1) hw_236v)))]) hD hS hA [1, 2, 0] rfl
                            refine va_calli (va_runV (As := [.long (zWv 15), .int (nI ((8 + (3080 * kk)) + 2)), .int 0, .int 1]) (rest := []) ⟨hx, hb, hml, hown, hts⟩ (c_Md_named l G dC dI H.size aM th aMT mu aNw aNx mw mwa ma_239 en mv_233 mf_234 ml kMT B kNx (upd (upd nx (8 + (3080 * kk)) (nI sd)) ((8 + (3080 * kk)) + 1) hw_236v) 15 ((8 + (3080 * kk)) + 2) 0 1 (by omega) (by omega) (by decide) (by decide) (zSb_len _) (by omega) (by decide) (by decide) (by decide) (by decide)) (cwV 4 hts (gV tw_611 tw_613 ts_33 tw_5 tw_614 rfl) rfl rfl rfl (by decide +kernel) ⟨Nat.le_of_ble_eq_true rfl, Nat.le_of_ble_eq_true rfl⟩) (PW_preV hPc hKc hDc hE hS hFc (ci := 4) (q0 := 0) rfl rfl) rfl rfl hl.1 rfl (lv_room (Nat.le_of_ble_eq_true rfl)) d_Md_texture_124 ⟨Nat.le_of_ble_eq_true rfl, Nat.le_of_ble_eq_true rfl⟩) hS (fun q _ h => hFc q h) hFc (fun r_244 uu t H1 locs ht hvm hw_251 hB hz1 hk1 hS => ?_)
                            obtain ⟨ma_245, mw_246, mwa_247, mv_248, mf_249, nx_250⟩ := uu
                            obtain ⟨hP1, hD1, hsz1⟩ := hB
                            rw [ht] at hP1 hsz1
                            obtain ⟨hP, hD⟩ := va_join (wr := []) (w1 := [(aM, .inr (4, [.int th, .ref aMT, .int (nI mu), .ref aNw, .ref aNx, .int mw_246, .int mwa_247, .int (nI ma_245), .int (nI en), .long mv_248, .int mf_249, .int ml])), (aMT, .inl (kMT, 65536, .inl B)), (aNx, .inl (kNx, 52650, .inl nx_250))]) hP hD [1, 2, 0] [] rfl rfl (by decide) (by decide) hk1 hFc hP1 hD1
                            generalize H1 = H at hP hS ⊢
                            have hP : va_P (dC, dI) vwCl [(aM, .inr (4, [.int th, .ref aMT, .int (nI mu), .ref aNw, .ref aNx, .int mw_246, .int mwa_247, .int (nI ma_245), .int (nI en), .long mv_248, .int mf_249, .int ml])), (aMT, .inl (kMT, 65536, .inl B)), (aNx, .inl (kNx, 52650, .inl nx_250))] H := hP
                            have hD : va_D A [(aM, .inr (4, [.int th, .ref aMT, .int (nI mu), .ref aNw, .ref aNx, .int mw_246, .int mwa_247, .int (nI ma_245), .int (nI en), .long mv_248, .int mf_249, .int ml])), (aMT, .inl (kMT, 65536, .inl B)), (aNx, .inl (kNx, 52650, .inl nx_250))] := hD
                            rcases hw_251 with ⟨rfl, hw_251b, e1, e2, hw_251v, hw_251a, e3⟩ | ⟨rfl, hw_251b, hw_251k, hw_251a, e2⟩
                            ·
                              have e1 := e1.symm; subst e1
                              have e2 := e2.symm; subst e2
                              have e3 := e3.symm; subst e3
                              refine lv_if_eq (tgt := 167) hx hb d_Md_texture_127 (by decide) (fun c_252 => ?_) (fun c_252 => ?_)
                              ·
                                exact absurd c_252 (by decide)
                              ·
                                refine lv_aload_n hx hb d_Md_texture_130 rfl (lv_at hl 3 rfl) ?_
                                refine lv_bipush (v := 44) hx hb d_Md_texture_131 (by decide) ?_
                                have hPc := hP.sub (ws' := [(aM, .inr (4, [.int th, .ref aMT, .int (nI mu), .ref aNw, .ref aNx, .int mw, .int mwa, .int (nI ma_245), .int (nI en), .long mv_248, .int mf_249, .int ml])), (aMT, .inl (kMT, 65536, .inl B))]) [0, 1] rfl
                                have hDc := hD.sub (ws' := [(aM, .inr (4, [.int th, .ref aMT, .int (nI mu), .ref aNw, .ref aNx, .int mw, .int mwa, .int (nI ma_245), .int (nI en), .long mv_248, .int mf_249, .int ml])), (aMT, .inl (kMT, 65536, .inl B))]) [0, 1] (by decide) rfl
                                have hKc := hK.sub (tys' := [(kMT, .byte)]) [0] rfl
                                have hFc := va_free (wc := [(aM, .inr (4, [.int th, .ref aMT, .int (nI mu), .ref aNw, .ref aNx, .int mw, .int mwa, .int (nI ma_245), .int (nI en), .long mv_248, .int mf_249, .int ml])), (aMT, .inl (kMT, 65536, .inl B))]) hD hS hA [0, 1] rfl
                                refine va_calli (va_runV (As := [.int 44]) (rest := []) ⟨hx, hb, hml, hown, hts⟩ (c_Md_sign l G dC dI H.size aM th aMT mu aNw aNx mw mwa ma_245 en mv_248 mf_249 ml kMT B 44 (by omega) (by omega)) (cwV 1 hts (gV tw_537 tw_539 ts_20 tw_5 tw_540 rfl) rfl rfl rfl (by decide +kernel) ⟨Nat.le_of_ble_eq_true rfl, Nat.le_of_ble_eq_true rfl⟩) (PW_preV hPc hKc hDc hE hS hFc (ci := 4) (q0 := 0) rfl rfl) rfl rfl hl.1 rfl (lv_room (Nat.le_of_ble_eq_true rfl)) d_Md_texture_133 ⟨Nat.le_of_ble_eq_true rfl, Nat.le_of_ble_eq_true rfl⟩) hS (fun q _ h => hFc q h) hFc (fun r_253 uu t H1 locs ht hvm hw_257 hB hz1 hk1 hS => ?_)
                                obtain ⟨ma_254, mw_255, mwa_256⟩ := uu
                                obtain ⟨hP1, hD1, hsz1⟩ := hB
                                rw [ht] at hP1 hsz1
                                obtain ⟨hP, hD⟩ := va_join (wr := [(aNx, .inl (kNx, 52650, .inl (upd (upd (upd nx (8 + (3080 * kk)) (nI sd)) ((8 + (3080 * kk)) + 1) hw_236v) ((8 + (3080 * kk)) + 2) hw_251v)))]) (w1 := [(aM, .inr (4, [.int th, .ref aMT, .int (nI mu), .ref aNw, .ref aNx, .int mw_255, .int mwa_256, .int (nI ma_254), .int (nI en), .long mv_248, .int mf_249, .int ml])), (aMT, .inl (kMT, 65536, .inl B))]) hP hD [0, 1] [2] rfl rfl (by decide) (by decide) hk1 hFc hP1 hD1
                                generalize H1 = H at hP hS ⊢
                                have hP : va_P (dC, dI) vwCl [(aNx, .inl (kNx, 52650, .inl (upd (upd (upd nx (8 + (3080 * kk)) (nI sd)) ((8 + (3080 * kk)) + 1) hw_236v) ((8 + (3080 * kk)) + 2) hw_251v))), (aM, .inr (4, [.int th, .ref aMT, .int (nI mu), .ref aNw, .ref aNx, .int mw_255, .int mwa_256, .int (nI ma_254), .int (nI en), .long mv_248, .int mf_249, .int ml])), (aMT, .inl (kMT, 65536, .inl B))] H := hP
                                have hD : va_D A [(aNx, .inl (kNx, 52650, .inl (upd (upd (upd nx (8 + (3080 * kk)) (nI sd)) ((8 + (3080 * kk)) + 1) hw_236v) ((8 + (3080 * kk)) + 2) hw_251v))), (aM, .inr (4, [.int th, .ref aMT, .int (nI mu), .ref aNw, .ref aNx, .int mw_255, .int mwa_256, .int (nI ma_254), .int (nI en), .long mv_248, .int mf_249, .int ml])), (aMT, .inl (kMT, 65536, .inl B))] := hD
                                rcases hw_257 with ⟨rfl, hw_257a, hw_257b, e1, e2⟩ | ⟨rfl, hw_257b, hw_257k, hw_257a, e2⟩
                                ·
                                  have e1 := e1.symm; subst e1
                                  have e2 := e2.symm; subst e2
                                  refine lv_if_eq (tgt := 167) hx hb d_Md_texture_136 (by decide) (fun c_258 => ?_) (fun c_258 => ?_)
                                  ·
                                    exact absurd c_258 (by decide)
                                  ·
                                    refine lv_aload_n hx hb d_Md_texture_139 rfl (lv_at hl 3 rfl) ?_
                                    refine lv_ldc2 (v := zWv 16) hx hb hown (hz _ tw_641) d_Md_texture_140 ?_
                                    refine lv_iload_n hx hb d_Md_texture_143 rfl (lv_at hl 2 rfl) ?_
                                    refine lv_bipush (v := 8) hx hb d_Md_texture_144 (by decide) ?_
                                    refine lv_iadd hx hb d_Md_texture_146 ?_
                                    refine zt_top (nI_add (8 + (3080 * kk)) 8) ?_
                                    refine lv_iload hx hb d_Md_texture_147 (lv_at hl 0 rfl) ?_
                                    refine lv_iload hx hb d_Md_texture_149 (lv_at hl 0 rfl) ?_
                                    refine lv_iconst (v := 1) hx hb d_Md_texture_151 (by decide) ?_
                                    refine lv_iconst (v := 0) hx hb d_Md_texture_152 (by decide) ?_
                                    refine lv_sipush (v := 255) hx hb d_Md_texture_153 (by decide) ?_
                                    refine lv_iconst (v := 0) hx hb d_Md_texture_156 (by decide) ?_
                                    have hPc := hP.sub (ws' := [(aM, .inr (4, [.int th, .ref aMT, .int (nI mu), .ref aNw, .ref aNx, .int mw, .int mwa, .int (nI ma_254), .int (nI en), .long mv_248, .int mf_249, .int ml])), (aMT, .inl (kMT, 65536, .inl B)), (aNx, .inl (kNx, 52650, .inl (upd (upd (upd nx (8 + (3080 * kk)) (nI sd)) ((8 + (3080 * kk)) + 1) hw_236v) ((8 + (3080 * kk)) + 2) hw_251v)))]) [1, 2, 0] rfl
                                    have hDc := hD.sub (ws' := [(aM, .inr (4, [.int th, .ref aMT, .int (nI mu), .ref aNw, .ref aNx, .int mw, .int mwa, .int (nI ma_254), .int (nI en), .long mv_248, .int mf_249, .int ml])), (aMT, .inl (kMT, 65536, .inl B)), (aNx, .inl (kNx, 52650, .inl (upd (upd (upd nx (8 + (3080 * kk)) (nI sd)) ((8 + (3080 * kk)) + 1) hw_236v) ((8 + (3080 * kk)) + 2) hw_251v)))]) [1, 2, 0] (by decide) rfl
                                    have hKc := hK.sub (tys' := [(kMT, .byte), (kNx, .int)]) [0, 1] rfl
                                    have hFc := va_free (wc := [(aM, .inr (4, [.int th, .ref aMT, .int (nI mu), .ref aNw, .ref aNx, .int mw, .int mwa, .int (nI ma_254), .int (nI en), .long mv_248, .int mf_249, .int ml])), (aMT, .inl (kMT, 65536, .inl B)), (aNx, .inl (kNx, 52650, .inl (upd (upd (upd nx (8 + (3080 * kk)) (nI sd)) ((8 + (3080 * kk)) + 1) hw_236v) ((8 + (3080 * kk)) + 2) hw_251v)))]) hD hS hA [1, 2, 0] rfl
                                    refine va_calli (va_runV (As := [.long (zWv 16), .int (nI ((8 + (3080 * kk)) + 8)), .int (nI ((3 * sd) * sd)), .int (nI ((3 * sd) * sd)), .int (nI 1), .int 0, .int 255, .int 0]) (rest := []) ⟨hx, hb, hml, hown, hts⟩ (c_Md_list l G dC dI H.size aM th aMT mu aNw aNx mw mwa ma_254 en mv_248 mf_249 ml kMT B kNx (upd (upd (upd nx (8 + (3080 * kk)) (nI sd)) ((8 + (3080 * kk)) + 1) hw_236v) ((8 + (3080 * kk)) + 2) hw_251v) 16 ((8 + (3080 * kk)) + 8) ((3 * sd) * sd) ((3 * sd) * sd) 1 0 255 0 (by omega) (by omega) (by decide) (by decide) (zSb_len _) (by omega) (by omega) (by omega) (Or.inl rfl) (Or.inl rfl) (by decide) (by decide) (by decide) (by decide)) (cwV 8 hts (gV tw_592 tw_594 ts_30 tw_5 tw_595 rfl) rfl rfl rfl (by decide +kernel) ⟨Nat.le_of_ble_eq_true rfl, Nat.le_of_ble_eq_true rfl⟩) (PW_preV hPc hKc hDc hE hS hFc (ci := 4) (q0 := 0) rfl rfl) rfl rfl hl.1 rfl (lv_room (Nat.le_of_ble_eq_true rfl)) d_Md_texture_157 ⟨Nat.le_of_ble_eq_true rfl, Nat.le_of_ble_eq_true rfl⟩) hS (fun q _ h => hFc q h) hFc (fun r_259 uu t H1 locs ht hvm hw_267 hB hz1 hk1 hS => ?_)
                                    obtain ⟨ma_260, mw_261, mwa_262, mv_263, mf_264, nx_265, ml_266⟩ := uu
                                    obtain ⟨hP1, hD1, hsz1⟩ := hB
                                    rw [ht] at hP1 hsz1
                                    obtain ⟨hP, hD⟩ := va_join (wr := []) (w1 := [(aM, .inr (4, [.int th, .ref aMT, .int (nI mu), .ref aNw, .ref aNx, .int mw_261, .int mwa_262, .int (nI ma_260), .int (nI en), .long mv_263, .int mf_264, .int ml_266])), (aMT, .inl (kMT, 65536, .inl B)), (aNx, .inl (kNx, 52650, .inl nx_265))]) hP hD [1, 2, 0] [] rfl rfl (by decide) (by decide) hk1 hFc hP1 hD1
                                    generalize H1 = H at hP hS ⊢
                                    have hP : va_P (dC, dI) vwCl [(aM, .inr (4, [.int th, .ref aMT, .int (nI mu), .ref aNw, .ref aNx, .int mw_261, .int mwa_262, .int (nI ma_260), .int (nI en), .long mv_263, .int mf_264, .int ml_266])), (aMT, .inl (kMT, 65536, .inl B)), (aNx, .inl (kNx, 52650, .inl nx_265))] H := hP
                                    have hD : va_D A [(aM, .inr (4, [.int th, .ref aMT, .int (nI mu), .ref aNw, .ref aNx, .int mw_261, .int mwa_262, .int (nI ma_260), .int (nI en), .long mv_263, .int mf_264, .int ml_266])), (aMT, .inl (kMT, 65536, .inl B)), (aNx, .inl (kNx, 52650, .inl nx_265))] := hD
                                    simp only [zf01, zf11, zg13, zg33, decide_true, decide_false] at hw_267
                                    rcases hw_267 with ⟨rfl, hw_267b, e1, e2, hw_267n, hw_267a, e3⟩ | ⟨rfl, hw_267b, hw_267k, hw_267a, e2⟩
                                    ·
                                      have e1 := e1.symm; subst e1
                                      have e2 := e2.symm; subst e2
                                      have e3 := e3.symm; subst e3
                                      refine lv_if_eq (tgt := 167) hx hb d_Md_texture_160 (by decide) (fun c_268 => ?_) (fun c_268 => ?_)
                                      ·
                                        exact absurd c_268 (by decide)
                                      ·
                                        refine lv_iconst (v := 1) hx hb d_Md_texture_163 (by decide) ?_
                                        refine lv_goto (tgt := 168) hx hb d_Md_texture_164 (by decide) ?_
                                        refine zt_size (fun hzs => ?_)
                                        have hP9 := hP.sub (ws' := [(aM, .inr (4, [.int th, .ref aMT, .int (nI mu), .ref aNw, .ref aNx, .int mw, .int mwa, .int (nI ma_260), .int (nI en), .long mv_263, .int mf_264, .int (nI hw_267n)])), (aMT, .inl (kMT, 65536, .inl B)), (aNx, .inl (kNx, 52650, .inl nx_265))]) [0, 1, 2] rfl
                                        have hD9 := hD.sub (ws' := [(aM, .inr (4, [.int th, .ref aMT, .int (nI mu), .ref aNw, .ref aNx, .int mw, .int mwa, .int (nI ma_260), .int (nI en), .long mv_263, .int mf_264, .int (nI hw_267n)])), (aMT, .inl (kMT, 65536, .inl B)), (aNx, .inl (kNx, 52650, .inl nx_265))]) [0, 1, 2] (by decide) rfl
                                        exact W.zret (v := 1) hx hb hr rfl (fun t ht hW => ⟨⟨1, (ma_260, mw, mwa, mv_263, mf_264, nx_265, nI hw_267n), rfl, Or.inl ⟨rfl, by omega, rfl, rfl, by simp only [mTexture, mListK, mNumK, zB_ok, nI_clamp (show sd < 2 ^ 31 by omega), if_pos (zpow1 sd (by omega) (Or.inr (Or.inr (Or.inr (Or.inr (Or.inl (congrArg nI c_222))))))), hk9, hw_8a, hw_227a, hw_236a, hw_242a, hw_251a, hw_257a, hw_267a]⟩, by rw [ht]; exact hP9, hD9, by rw [ht]; exact hzs⟩, hS.F ht⟩) hS.2.2 d_Md_texture_168
                                    ·
                                      have e2 := e2.symm; subst e2
                                      refine lv_if_eq (tgt := 167) hx hb d_Md_texture_160 (by decide) (fun c_269 => ?_) (fun c_269 => ?_)
                                      ·
                                        refine lv_iconst (v := 0) hx hb d_Md_texture_167 (by decide) ?_
                                        refine zt_size (fun hzs => ?_)
                                        have hP9 := hP.sub (ws' := [(aM, .inr (4, [.int th, .ref aMT, .int (nI mu), .ref aNw, .ref aNx, .int mw_261, .int (nI hw_267k), .int (nI ma_260), .int (nI en), .long mv_263, .int mf_264, .int ml_266])), (aMT, .inl (kMT, 65536, .inl B)), (aNx, .inl (kNx, 52650, .inl nx_265))]) [0, 1, 2] rfl
                                        have hD9 := hD.sub (ws' := [(aM, .inr (4, [.int th, .ref aMT, .int (nI mu), .ref aNw, .ref aNx, .int mw_261, .int (nI hw_267k), .int (nI ma_260), .int (nI en), .long mv_263, .int mf_264, .int ml_266])), (aMT, .inl (kMT, 65536, .inl B)), (aNx, .inl (kNx, 52650, .inl nx_265))]) [0, 1, 2] (by decide) rfl
                                        exact W.zret (v := 0) hx hb hr rfl (fun t ht hW => ⟨⟨0, (ma_260, mw_261, nI hw_267k, mv_263, mf_264, nx_265, ml_266), rfl, Or.inr ⟨rfl, by omega, _, by simp only [mTexture, mListK, mNumK, zB_ok, nI_clamp (show sd < 2 ^ 31 by omega), if_pos (zpow1 sd (by omega) (Or.inr (Or.inr (Or.inr (Or.inr (Or.inl (congrArg nI c_222))))))), hk9, hw_8a, hw_227a, hw_236a, hw_242a, hw_251a, hw_257a, hw_267a, zB_er], rfl⟩, by rw [ht]; exact hP9, hD9, by rw [ht]; exact hzs⟩, hS.F ht⟩) hS.2.2 d_Md_texture_168
                                      ·
                                        exact absurd (by decide) c_269
                                ·
                                  have e2 := e2.symm; subst e2
                                  refine lv_if_eq (tgt := 167) hx hb d_Md_texture_136 (by decide) (fun c_270 => ?_) (fun c_270 => ?_)
                                  ·
                                    refine lv_iconst (v := 0) hx hb d_Md_texture_167 (by decide) ?_
                                    refine zt_size (fun hzs => ?_)
                                    have hP9 := hP.sub (ws' := [(aM, .inr (4, [.int th, .ref aMT, .int (nI mu), .ref aNw, .ref aNx, .int mw_255, .int (nI hw_257k), .int (nI ma_254), .int (nI en), .long mv_248, .int mf_249, .int ml])), (aMT, .inl (kMT, 65536, .inl B)), (aNx, .inl (kNx, 52650, .inl (upd (upd (upd nx (8 + (3080 * kk)) (nI sd)) ((8 + (3080 * kk)) + 1) hw_236v) ((8 + (3080 * kk)) + 2) hw_251v)))]) [1, 2, 0] rfl
                                    have hD9 := hD.sub (ws' := [(aM, .inr (4, [.int th, .ref aMT, .int (nI mu), .ref aNw, .ref aNx, .int mw_255, .int (nI hw_257k), .int (nI ma_254), .int (nI en), .long mv_248, .int mf_249, .int ml])), (aMT, .inl (kMT, 65536, .inl B)), (aNx, .inl (kNx, 52650, .inl (upd (upd (upd nx (8 + (3080 * kk)) (nI sd)) ((8 + (3080 * kk)) + 1) hw_236v) ((8 + (3080 * kk)) + 2) hw_251v)))]) [1, 2, 0] (by decide) rfl
                                    exact W.zret (v := 0) hx hb hr rfl (fun t ht hW => ⟨⟨0, (ma_254, mw_255, nI hw_257k, mv_248, mf_249, upd (upd (upd nx (8 + (3080 * kk)) (nI sd)) ((8 + (3080 * kk)) + 1) hw_236v) ((8 + (3080 * kk)) + 2) hw_251v, ml), rfl, Or.inr ⟨rfl, by omega, _, by simp only [mTexture, mListK, mNumK, zB_ok, nI_clamp (show sd < 2 ^ 31 by omega), if_pos (zpow1 sd (by omega) (Or.inr (Or.inr (Or.inr (Or.inr (Or.inl (congrArg nI c_222))))))), hk9, hw_8a, hw_227a, hw_236a, hw_242a, hw_251a, hw_257a, zB_er], rfl⟩, by rw [ht]; exact hP9, hD9, by rw [ht]; exact hzs⟩, hS.F ht⟩) hS.2.2 d_Md_texture_168
                                  ·
                                    exact absurd (by decide) c_270
                            ·
                              have e2 := e2.symm; subst e2
                              refine lv_if_eq (tgt := 167) hx hb d_Md_texture_127 (by decide) (fun c_271 => ?_) (fun c_271 => ?_)
                              ·
                                refine lv_iconst (v := 0) hx hb d_Md_texture_167 (by decide) ?_
                                refine zt_size (fun hzs => ?_)
                                have hP9 := hP.sub (ws' := [(aM, .inr (4, [.int th, .ref aMT, .int (nI mu), .ref aNw, .ref aNx, .int mw_246, .int (nI hw_251k), .int (nI ma_245), .int (nI en), .long mv_248, .int mf_249, .int ml])), (aMT, .inl (kMT, 65536, .inl B)), (aNx, .inl (kNx, 52650, .inl nx_250))]) [0, 1, 2] rfl
                                have hD9 := hD.sub (ws' := [(aM, .inr (4, [.int th, .ref aMT, .int (nI mu), .ref aNw, .ref aNx, .int mw_246, .int (nI hw_251k), .int (nI ma_245), .int (nI en), .long mv_248, .int mf_249, .int ml])), (aMT, .inl (kMT, 65536, .inl B)), (aNx, .inl (kNx, 52650, .inl nx_250))]) [0, 1, 2] (by decide) rfl
                                exact W.zret (v := 0) hx hb hr rfl (fun t ht hW => ⟨⟨0, (ma_245, mw_246, nI hw_251k, mv_248, mf_249, nx_250, ml), rfl, Or.inr ⟨rfl, by omega, _, by simp only [mTexture, mListK, mNumK, zB_ok, nI_clamp (show sd < 2 ^ 31 by omega), if_pos (zpow1 sd (by omega) (Or.inr (Or.inr (Or.inr (Or.inr (Or.inl (congrArg nI c_222))))))), hk9, hw_8a, hw_227a, hw_236a, hw_242a, hw_251a, zB_er], rfl⟩, by rw [ht]; exact hP9, hD9, by rw [ht]; exact hzs⟩, hS.F ht⟩) hS.2.2 d_Md_texture_168
                              ·
                                exact absurd (by decide) c_271
                        ·
                          have e2 := e2.symm; subst e2
                          refine lv_if_eq (tgt := 167) hx hb d_Md_texture_112 (by decide) (fun c_272 => ?_) (fun c_272 => ?_)
                          ·
                            refine lv_iconst (v := 0) hx hb d_Md_texture_167 (by decide) ?_
                            refine zt_size (fun hzs => ?_)
                            have hP9 := hP.sub (ws' := [(aM, .inr (4, [.int th, .ref aMT, .int (nI mu), .ref aNw, .ref aNx, .int mw_240, .int (nI hw_242k), .int (nI ma_239), .int (nI en), .long mv_233, .int mf_234, .int ml])), (aMT, .inl (kMT, 65536, .inl B)), (aNx, .inl (kNx, 52650, .inl (upd (upd nx (8 + (3080 * kk)) (nI sd)) ((8 + (3080 * kk)) + 1) hw_236v)))]) [1, 2, 0] rfl
                            have hD9 := hD.sub (ws' := [(aM, .inr (4, [.int th, .ref aMT, .int (nI mu), .ref aNw, .ref aNx, .int mw_240, .int (nI hw_242k), .int (nI ma_239), .int (nI en), .long mv_233, .int mf_234, .int ml])), (aMT, .inl (kMT, 65536, .inl B)), (aNx, .inl (kNx, 52650, .inl (upd (upd nx (8 + (3080 * kk)) (nI sd)) ((8 + (3080 * kk)) + 1) hw_236v)))]) [1, 2, 0] (by decide) rfl
                            exact W.zret (v := 0) hx hb hr rfl (fun t ht hW => ⟨⟨0, (ma_239, mw_240, nI hw_242k, mv_233, mf_234, upd (upd nx (8 + (3080 * kk)) (nI sd)) ((8 + (3080 * kk)) + 1) hw_236v, ml), rfl, Or.inr ⟨rfl, by omega, _, by simp only [mTexture, mListK, mNumK, zB_ok, nI_clamp (show sd < 2 ^ 31 by omega), if_pos (zpow1 sd (by omega) (Or.inr (Or.inr (Or.inr (Or.inr (Or.inl (congrArg nI c_222))))))), hk9, hw_8a, hw_227a, hw_236a, hw_242a, zB_er], rfl⟩, by rw [ht]; exact hP9, hD9, by rw [ht]; exact hzs⟩, hS.F ht⟩) hS.2.2 d_Md_texture_168
                          ·
                            exact absurd (by decide) c_272
                    ·
                      have e2 := e2.symm; subst e2
                      refine lv_if_eq (tgt := 167) hx hb d_Md_texture_103 (by decide) (fun c_273 => ?_) (fun c_273 => ?_)
                      ·
                        refine lv_iconst (v := 0) hx hb d_Md_texture_167 (by decide) ?_
                        refine zt_size (fun hzs => ?_)
                        have hP9 := hP.sub (ws' := [(aM, .inr (4, [.int th, .ref aMT, .int (nI mu), .ref aNw, .ref aNx, .int mw_231, .int (nI hw_236k), .int (nI ma_230), .int (nI en), .long mv_233, .int mf_234, .int ml])), (aMT, .inl (kMT, 65536, .inl B)), (aNx, .inl (kNx, 52650, .inl nx_235))]) [0, 1, 2] rfl
                        have hD9 := hD.sub (ws' := [(aM, .inr (4, [.int th, .ref aMT, .int (nI mu), .ref aNw, .ref aNx, .int mw_231, .int (nI hw_236k), .int (nI ma_230), .int (nI en), .long mv_233, .int mf_234, .int ml])), (aMT, .inl (kMT, 65536, .inl B)), (aNx, .inl (kNx, 52650, .inl nx_235))]) [0, 1, 2] (by decide) rfl
                        exact W.zret (v := 0) hx hb hr rfl (fun t ht hW => ⟨⟨0, (ma_230, mw_231, nI hw_236k, mv_233, mf_234, nx_235, ml), rfl, Or.inr ⟨rfl, by omega, _, by simp only [mTexture, mListK, mNumK, zB_ok, nI_clamp (show sd < 2 ^ 31 by omega), if_pos (zpow1 sd (by omega) (Or.inr (Or.inr (Or.inr (Or.inr (Or.inl (congrArg nI c_222))))))), hk9, hw_8a, hw_227a, hw_236a, zB_er], rfl⟩, by rw [ht]; exact hP9, hD9, by rw [ht]; exact hzs⟩, hS.F ht⟩) hS.2.2 d_Md_texture_168
                      ·
                        exact absurd (by decide) c_273
                ·
                  have e2 := e2.symm; subst e2
                  refine lv_if_eq (tgt := 167) hx hb d_Md_texture_88 (by decide) (fun c_274 => ?_) (fun c_274 => ?_)
                  ·
                    refine lv_iconst (v := 0) hx hb d_Md_texture_167 (by decide) ?_
                    refine zt_size (fun hzs => ?_)
                    have hP9 := hP.sub (ws' := [(aM, .inr (4, [.int th, .ref aMT, .int (nI mu), .ref aNw, .ref aNx, .int mw_225, .int (nI hw_227k), .int (nI ma_224), .int (nI en), .long mv_5, .int (nI h9), .int ml])), (aMT, .inl (kMT, 65536, .inl B)), (aNx, .inl (kNx, 52650, .inl (upd nx (8 + (3080 * kk)) (nI sd))))]) [1, 2, 0] rfl
                    have hD9 := hD.sub (ws' := [(aM, .inr (4, [.int th, .ref aMT, .int (nI mu), .ref aNw, .ref aNx, .int mw_225, .int (nI hw_227k), .int (nI ma_224), .int (nI en), .long mv_5, .int (nI h9), .int ml])), (aMT, .inl (kMT, 65536, .inl B)), (aNx, .inl (kNx, 52650, .inl (upd nx (8 + (3080 * kk)) (nI sd))))]) [1, 2, 0] (by decide) rfl
                    exact W.zret (v := 0) hx hb hr rfl (fun t ht hW => ⟨⟨0, (ma_224, mw_225, nI hw_227k, mv_5, nI h9, upd nx (8 + (3080 * kk)) (nI sd), ml), rfl, Or.inr ⟨rfl, by omega, _, by simp only [mTexture, mListK, mNumK, zB_ok, nI_clamp (show sd < 2 ^ 31 by omega), if_pos (zpow1 sd (by omega) (Or.inr (Or.inr (Or.inr (Or.inr (Or.inl (congrArg nI c_222))))))), hk9, hw_8a, hw_227a, zB_er], rfl⟩, by rw [ht]; exact hP9, hD9, by rw [ht]; exact hzs⟩, hS.F ht⟩) hS.2.2 d_Md_texture_168
                  ·
                    exact absurd (by decide) c_274
              ·
                have c_222 : ¬ (sd = 16) := fun z => c_222 ((@nI_eq sd 16 (by omega) (by omega)).mpr z)
                refine lv_iload_n hx hb d_Md_texture_59 rfl (lv_at hl 0 rfl) ?_
                refine lv_bipush (v := 32) hx hb d_Md_texture_60 (by decide) ?_
                refine lv_icmp_eq (tgt := 75) hx hb d_Md_texture_62 (by decide) (fun c_275 => ?_) (fun c_275 => ?_)
                ·
                  have c_275 : sd = 32 := (@nI_eq sd 32 (by omega) (by omega)).mp c_275
                  refine lv_iconst (v := 3) hx hb d_Md_texture_75 (by decide) ?_
                  refine lv_iload_n hx hb d_Md_texture_76 rfl (lv_at hl 0 rfl) ?_
                  refine lv_imul hx hb d_Md_texture_77 ?_
                  refine zt_top (pk_mul 3 sd) ?_
                  refine lv_iload_n hx hb d_Md_texture_78 rfl (lv_at hl 0 rfl) ?_
                  refine lv_imul hx hb d_Md_texture_79 ?_
                  refine zt_top (pk_mul (3 * sd) sd) ?_
                  refine lv_istore (lv' := [(4, .int (nI ((3 * sd) * sd))), (3, .int (nI sd)), (2, .int (nI (8 + (3080 * kk)))), (0, .ref aM), (1, .int (nI kk))]) hx hb d_Md_texture_80 hl (by decide) rfl (fun ls hl => ?_)
                  refine lv_aload_n hx hb d_Md_texture_82 rfl (lv_at hl 3 rfl) ?_
                  refine lv_bipush (v := 44) hx hb d_Md_texture_83 (by decide) ?_
                  have hPc := hP.sub (ws' := [(aM, .inr (4, [.int th, .ref aMT, .int (nI mu), .ref aNw, .ref aNx, .int mw, .int mwa, .int (nI ma_2), .int (nI en), .long mv_5, .int (nI h9), .int ml])), (aMT, .inl (kMT, 65536, .inl B))]) [0, 1] rfl
                  have hDc := hD.sub (ws' := [(aM, .inr (4, [.int th, .ref aMT, .int (nI mu), .ref aNw, .ref aNx, .int mw, .int mwa, .int (nI ma_2), .int (nI en), .long mv_5, .int (nI h9), .int ml])), (aMT, .inl (kMT, 65536, .inl B))]) [0, 1] (by decide) rfl
                  have hKc := hK.sub (tys' := [(kMT, .byte)]) [0] rfl
                  have hFc := va_free (wc := [(aM, .inr (4, [.int th, .ref aMT, .int (nI mu), .ref aNw, .ref aNx, .int mw, .int mwa, .int (nI ma_2), .int (nI en), .long mv_5, .int (nI h9), .int ml])), (aMT, .inl (kMT, 65536, .inl B))]) hD hS hA [0, 1] rfl
                  refine va_calli (va_runV (As := [.int 44]) (rest := []) ⟨hx, hb, hml, hown, hts⟩ (c_Md_sign l G dC dI H.size aM th aMT mu aNw aNx mw mwa ma_2 en mv_5 (nI h9) ml kMT B 44 (by omega) (by omega)) (cwV 1 hts (gV tw_537 tw_539 ts_20 tw_5 tw_540 rfl) rfl rfl rfl (by decide +kernel) ⟨Nat.le_of_ble_eq_true rfl, Nat.le_of_ble_eq_true rfl⟩) (PW_preV hPc hKc hDc hE hS hFc (ci := 4) (q0 := 0) rfl rfl) rfl rfl hl.1 rfl (lv_room (Nat.le_of_ble_eq_true rfl)) d_Md_texture_85 ⟨Nat.le_of_ble_eq_true rfl, Nat.le_of_ble_eq_true rfl⟩) hS (fun q _ h => hFc q h) hFc (fun r_276 uu t H1 locs ht hvm hw_280 hB hz1 hk1 hS => ?_)
                  obtain ⟨ma_277, mw_278, mwa_279⟩ := uu
                  obtain ⟨hP1, hD1, hsz1⟩ := hB
                  rw [ht] at hP1 hsz1
                  obtain ⟨hP, hD⟩ := va_join (wr := [(aNx, .inl (kNx, 52650, .inl (upd nx (8 + (3080 * kk)) (nI sd))))]) (w1 := [(aM, .inr (4, [.int th, .ref aMT, .int (nI mu), .ref aNw, .ref aNx, .int mw_278, .int mwa_279, .int (nI ma_277), .int (nI en), .long mv_5, .int (nI h9), .int ml])), (aMT, .inl (kMT, 65536, .inl B))]) hP hD [0, 1] [2] rfl rfl (by decide) (by decide) hk1 hFc hP1 hD1
                  generalize H1 = H at hP hS ⊢
                  have hP : va_P (dC, dI) vwCl [(aNx, .inl (kNx, 52650, .inl (upd nx (8 + (3080 * kk)) (nI sd)))), (aM, .inr (4, [.int th, .ref aMT, .int (nI mu), .ref aNw, .ref aNx, .int mw_278, .int mwa_279, .int (nI ma_277), .int (nI en), .long mv_5, .int (nI h9), .int ml])), (aMT, .inl (kMT, 65536, .inl B))] H := hP
                  have hD : va_D A [(aNx, .inl (kNx, 52650, .inl (upd nx (8 + (3080 * kk)) (nI sd)))), (aM, .inr (4, [.int th, .ref aMT, .int (nI mu), .ref aNw, .ref aNx, .int mw_278, .int mwa_279, .int (nI ma_277), .int (nI en), .long mv_5, .int (nI h9), .int ml])), (aMT, .inl (kMT, 65536, .inl B))] := hD
                  rcases hw_280 with ⟨rfl, hw_280a, hw_280b, e1, e2⟩ | ⟨rfl, hw_280b, hw_280k, hw_280a, e2⟩
                  ·
                    have e1 := e1.symm; subst e1
                    have e2 := e2.symm; subst e2
                    refine lv_if_eq (tgt := 167) hx hb d_Md_texture_88 (by decide) (fun c_281 => ?_) (fun c_281 => ?_)
                    ·
                      exact absurd c_281 (by decide)
                    ·
                      refine lv_aload_n hx hb d_Md_texture_91 rfl (lv_at hl 3 rfl) ?_
                      refine lv_ldc2 (v := zWv 14) hx hb hown (hz _ tw_639) d_Md_texture_92 ?_
                      refine lv_iload_n hx hb d_Md_texture_95 rfl (lv_at hl 2 rfl) ?_
                      refine lv_iconst (v := 1) hx hb d_Md_texture_96 (by decide) ?_
                      refine lv_iadd hx hb d_Md_texture_97 ?_
                      refine zt_top (nI_add (8 + (3080 * kk)) 1) ?_
                      refine lv_iconst (v := 0) hx hb d_Md_texture_98 (by decide) ?_
                      refine lv_iconst (v := 2) hx hb d_Md_texture_99 (by decide) ?_
                      have hPc := hP.sub (ws' := [(aM, .inr (4, [.int th, .ref aMT, .int (nI mu), .ref aNw, .ref aNx, .int mw, .int mwa, .int (nI ma_277), .int (nI en), .long mv_5, .int (nI h9), .int ml])), (aMT, .inl (kMT, 65536, .inl B)), (aNx, .inl (kNx, 52650, .inl (upd nx (8 + (3080 * kk)) (nI sd))))]) [1, 2, 0] rfl
                      have hDc := hD.sub (ws' := [(aM, .inr (4, [.int th, .ref aMT, .int (nI mu), .ref aNw, .ref aNx, .int mw, .int mwa, .int (nI ma_277), .int (nI en), .long mv_5, .int (nI h9), .int ml])), (aMT, .inl (kMT, 65536, .inl B)), (aNx, .inl (kNx, 52650, .inl (upd nx (8 + (3080 * kk)) (nI sd))))]) [1, 2, 0] (by decide) rfl
                      have hKc := hK.sub (tys' := [(kMT, .byte), (kNx, .int)]) [0, 1] rfl
                      have hFc := va_free (wc := [(aM, .inr (4, [.int th, .ref aMT, .int (nI mu), .ref aNw, .ref aNx, .int mw, .int mwa, .int (nI ma_277), .int (nI en), .long mv_5, .int (nI h9), .int ml])), (aMT, .inl (kMT, 65536, .inl B)), (aNx, .inl (kNx, 52650, .inl (upd nx (8 + (3080 * kk)) (nI sd))))]) hD hS hA [1, 2, 0] rfl
                      refine va_calli (va_runV (As := [.long (zWv 14), .int (nI ((8 + (3080 * kk)) + 1)), .int 0, .int 2]) (rest := []) ⟨hx, hb, hml, hown, hts⟩ (c_Md_named l G dC dI H.size aM th aMT mu aNw aNx mw mwa ma_277 en mv_5 (nI h9) ml kMT B kNx (upd nx (8 + (3080 * kk)) (nI sd)) 14 ((8 + (3080 * kk)) + 1) 0 2 (by omega) (by omega) (by decide) (by decide) (zSb_len _) (by omega) (by decide) (by decide) (by decide) (by decide)) (cwV 4 hts (gV tw_611 tw_613 ts_33 tw_5 tw_614 rfl) rfl rfl rfl (by decide +kernel) ⟨Nat.le_of_ble_eq_true rfl, Nat.le_of_ble_eq_true rfl⟩) (PW_preV hPc hKc hDc hE hS hFc (ci := 4) (q0 := 0) rfl rfl) rfl rfl hl.1 rfl (lv_room (Nat.le_of_ble_eq_true rfl)) d_Md_texture_100 ⟨Nat.le_of_ble_eq_true rfl, Nat.le_of_ble_eq_true rfl⟩) hS (fun q _ h => hFc q h) hFc (fun r_282 uu t H1 locs ht hvm hw_289 hB hz1 hk1 hS => ?_)
                      obtain ⟨ma_283, mw_284, mwa_285, mv_286, mf_287, nx_288⟩ := uu
                      obtain ⟨hP1, hD1, hsz1⟩ := hB
                      rw [ht] at hP1 hsz1
                      obtain ⟨hP, hD⟩ := va_join (wr := []) (w1 := [(aM, .inr (4, [.int th, .ref aMT, .int (nI mu), .ref aNw, .ref aNx, .int mw_284, .int mwa_285, .int (nI ma_283), .int (nI en), .long mv_286, .int mf_287, .int ml])), (aMT, .inl (kMT, 65536, .inl B)), (aNx, .inl (kNx, 52650, .inl nx_288))]) hP hD [1, 2, 0] [] rfl rfl (by decide) (by decide) hk1 hFc hP1 hD1
                      generalize H1 = H at hP hS ⊢
                      have hP : va_P (dC, dI) vwCl [(aM, .inr (4, [.int th, .ref aMT, .int (nI mu), .ref aNw, .ref aNx, .int mw_284, .int mwa_285, .int (nI ma_283), .int (nI en), .long mv_286, .int mf_287, .int ml])), (aMT, .inl (kMT, 65536, .inl B)), (aNx, .inl (kNx, 52650, .inl nx_288))] H := hP
                      have hD : va_D A [(aM, .inr (4, [.int th, .ref aMT, .int (nI mu), .ref aNw, .ref aNx, .int mw_284, .int mwa_285, .int (nI ma_283), .int (nI en), .long mv_286, .int mf_287, .int ml])), (aMT, .inl (kMT, 65536, .inl B)), (aNx, .inl (kNx, 52650, .inl nx_288))] := hD
                      rcases hw_289 with ⟨rfl, hw_289b, e1, e2, hw_289v, hw_289a, e3⟩ | ⟨rfl, hw_289b, hw_289k, hw_289a, e2⟩
                      ·
                        have e1 := e1.symm; subst e1
                        have e2 := e2.symm; subst e2
                        have e3 := e3.symm; subst e3
                        refine lv_if_eq (tgt := 167) hx hb d_Md_texture_103 (by decide) (fun c_290 => ?_) (fun c_290 => ?_)
                        ·
                          exact absurd c_290 (by decide)
                        ·
                          refine lv_aload_n hx hb d_Md_texture_106 rfl (lv_at hl 3 rfl) ?_
                          refine lv_bipush (v := 44) hx hb d_Md_texture_107 (by decide) ?_
                          have hPc := hP.sub (ws' := [(aM, .inr (4, [.int th, .ref aMT, .int (nI mu), .ref aNw, .ref aNx, .int mw, .int mwa, .int (nI ma_283), .int (nI en), .long mv_286, .int mf_287, .int ml])), (aMT, .inl (kMT, 65536, .inl B))]) [0, 1] rfl
                          have hDc := hD.sub (ws' := [(aM, .inr (4, [.int th, .ref aMT, .int (nI mu), .ref aNw, .ref aNx, .int mw, .int mwa, .int (nI ma_283), .int (nI en), .long mv_286, .int mf_287, .int ml])), (aMT, .inl (kMT, 65536, .inl B))]) [0, 1] (by decide) rfl
                          have hKc := hK.sub (tys' := [(kMT, .byte)]) [0] rfl
                          have hFc := va_free (wc := [(aM, .inr (4, [.int th, .ref aMT, .int (nI mu), .ref aNw, .ref aNx, .int mw, .int mwa, .int (nI ma_283), .int (nI en), .long mv_286, .int mf_287, .int ml])), (aMT, .inl (kMT, 65536, .inl B))]) hD hS hA [0, 1] rfl
                          refine va_calli (va_runV (As := [.int 44]) (rest := []) ⟨hx, hb, hml, hown, hts⟩ (c_Md_sign l G dC dI H.size aM th aMT mu aNw aNx mw mwa ma_283 en mv_286 mf_287 ml kMT B 44 (by omega) (by omega)) (cwV 1 hts (gV tw_537 tw_539 ts_20 tw_5 tw_540 rfl) rfl rfl rfl (by decide +kernel) ⟨Nat.le_of_ble_eq_true rfl, Nat.le_of_ble_eq_true rfl⟩) (PW_preV hPc hKc hDc hE hS hFc (ci := 4) (q0 := 0) rfl rfl) rfl rfl hl.1 rfl (lv_room (Nat.le_of_ble_eq_true rfl)) d_Md_texture_109 ⟨Nat.le_of_ble_eq_true rfl, Nat.le_of_ble_eq_true rfl⟩) hS (fun q _ h => hFc q h) hFc (fun r_291 uu t H1 locs ht hvm hw_295 hB hz1 hk1 hS => ?_)
                          obtain ⟨ma_292, mw_293, mwa_294⟩ := uu
                          obtain ⟨hP1, hD1, hsz1⟩ := hB
                          rw [ht] at hP1 hsz1
                          obtain ⟨hP, hD⟩ := va_join (wr := [(aNx, .inl (kNx, 52650, .inl (upd (upd nx (8 + (3080 * kk)) (nI sd)) ((8 + (3080 * kk)) + 1) hw_289v)))]) (w1 := [(aM, .inr (4, [.int th, .ref aMT, .int (nI mu), .ref aNw, .ref aNx, .int mw_293, .int mwa_294, .int (nI ma_292), .int (nI en), .long mv_286, .int mf_287, .int ml])), (aMT, .inl (kMT, 65536, .inl B))]) hP hD [0, 1] [2] rfl rfl (by decide) (by decide) hk1 hFc hP1 hD1
                          generalize H1 = H at hP hS ⊢
                          have hP : va_P (dC, dI) vwCl [(aNx, .inl (kNx, 52650, .inl (upd (upd nx (8 + (3080 * kk)) (nI sd)) ((8 + (3080 * kk)) + 1) hw_289v))), (aM, .inr (4, [.int th, .ref aMT, .int (nI mu), .ref aNw, .ref aNx, .int mw_293, .int mwa_294, .int (nI ma_292), .int (nI en), .long mv_286, .int mf_287, .int ml])), (aMT, .inl (kMT, 65536, .inl B))] H := hP
                          have hD : va_D A [(aNx, .inl (kNx, 52650, .inl (upd (upd nx (8 + (3080 * kk)) (nI sd)) ((8 + (3080 * kk)) + 1) hw_289v))), (aM, .inr (4, [.int th, .ref aMT, .int (nI mu), .ref aNw, .ref aNx, .int mw_293, .int mwa_294, .int (nI ma_292), .int (nI en), .long mv_286, .int mf_287, .int ml])), (aMT, .inl (kMT, 65536, .inl B))] := hD
                          rcases hw_295 with ⟨rfl, hw_295a, hw_295b, e1, e2⟩ | ⟨rfl, hw_295b, hw_295k, hw_295a, e2⟩
                          ·
                            have e1 := e1.symm; subst e1
                            have e2 := e2.symm; subst e2
                            refine lv_if_eq (tgt := 167) hx hb d_Md_texture_112 (by decide) (fun c_296 => ?_) (fun c_296 => ?_)
                            ·
                              exact absurd c_296 (by decide)
                            ·
                              refine lv_aload_n hx hb d_Md_texture_115 rfl (lv_at hl 3 rfl) ?_
                              refine lv_ldc2 (v := zWv 15) hx hb hown (hz _ tw_640) d_Md_texture_116 ?_
                              refine lv_iload_n hx hb d_Md_texture_119 rfl (lv_at hl 2 rfl) ?_
                              refine lv_iconst (v := 2) hx hb d_Md_texture_120 (by decide) ?_
                              refine lv_iadd hx hb d_Md_texture_121 ?_
                              refine zt_top (nI_add (8 + (3080 * kk)) 2) ?_
                              refine lv_iconst (v := 0) hx hb d_Md_texture_122 (by decide) ?_
                              refine lv_iconst (v := 1) hx hb d_Md_texture_123 (by decide) ?_
                              have hPc := hP.sub (ws' := [(aM, .inr (4, [.int th, .ref aMT, .int (nI mu), .ref aNw, .ref aNx, .int mw, .int mwa, .int (nI ma_292), .int (nI en), .long mv_286, .int mf_287, .int ml])), (aMT, .inl (kMT, 65536, .inl B)), (aNx, .inl (kNx, 52650, .inl (upd (upd nx (8 + (3080 * kk)) (nI sd)) ((8 + (3080 * kk)) + 1) hw_289v)))]) [1, 2, 0] rfl
                              have hDc := hD.sub (ws' := [(aM, .inr (4, [.int th, .ref aMT, .int (nI mu), .ref aNw, .ref aNx, .int mw, .int mwa, .int (nI ma_292), .int (nI en), .long mv_286, .int mf_287, .int ml])), (aMT, .inl (kMT, 65536, .inl B)), (aNx, .inl (kNx, 52650, .inl (upd (upd nx (8 + (3080 * kk)) (nI sd)) ((8 + (3080 * kk)) + 1) hw_289v)))]) [1, 2, 0] (by decide) rfl
                              have hKc := hK.sub (tys' := [(kMT, .byte), (kNx, .int)]) [0, 1] rfl
                              have hFc := va_free (wc := [(aM, .inr (4, [.int th, .ref aMT, .int (nI mu), .ref aNw, .ref aNx, .int mw, .int mwa, .int (nI ma_292), .int (nI en), .long mv_286, .int mf_287, .int ml])), (aMT, .inl (kMT, 65536, .inl B)), (aNx, .inl (kNx, 52650, .inl (upd (upd nx (8 + (3080 * kk)) (nI sd)) ((8 + (3080 * kk)) + 1) hw_289v)))]) hD hS hA [1, 2, 0] rfl
                              refine va_calli (va_runV (As := [.long (zWv 15), .int (nI ((8 + (3080 * kk)) + 2)), .int 0, .int 1]) (rest := []) ⟨hx, hb, hml, hown, hts⟩ (c_Md_named l G dC dI H.size aM th aMT mu aNw aNx mw mwa ma_292 en mv_286 mf_287 ml kMT B kNx (upd (upd nx (8 + (3080 * kk)) (nI sd)) ((8 + (3080 * kk)) + 1) hw_289v) 15 ((8 + (3080 * kk)) + 2) 0 1 (by omega) (by omega) (by decide) (by decide) (zSb_len _) (by omega) (by decide) (by decide) (by decide) (by decide)) (cwV 4 hts (gV tw_611 tw_613 ts_33 tw_5 tw_614 rfl) rfl rfl rfl (by decide +kernel) ⟨Nat.le_of_ble_eq_true rfl, Nat.le_of_ble_eq_true rfl⟩) (PW_preV hPc hKc hDc hE hS hFc (ci := 4) (q0 := 0) rfl rfl) rfl rfl hl.1 rfl (lv_room (Nat.le_of_ble_eq_true rfl)) d_Md_texture_124 ⟨Nat.le_of_ble_eq_true rfl, Nat.le_of_ble_eq_true rfl⟩) hS (fun q _ h => hFc q h) hFc (fun r_297 uu t H1 locs ht hvm hw_304 hB hz1 hk1 hS => ?_)
                              obtain ⟨ma_298, mw_299, mwa_300, mv_301, mf_302, nx_303⟩ := uu
                              obtain ⟨hP1, hD1, hsz1⟩ := hB
                              rw [ht] at hP1 hsz1
                              obtain ⟨hP, hD⟩ := va_join (wr := []) (w1 := [(aM, .inr (4, [.int th, .ref aMT, .int (nI mu), .ref aNw, .ref aNx, .int mw_299, .int mwa_300, .int (nI ma_298), .int (nI en), .long mv_301, .int mf_302, .int ml])), (aMT, .inl (kMT, 65536, .inl B)), (aNx, .inl (kNx, 52650, .inl nx_303))]) hP hD [1, 2, 0] [] rfl rfl (by decide) (by decide) hk1 hFc hP1 hD1
                              generalize H1 = H at hP hS ⊢
                              have hP : va_P (dC, dI) vwCl [(aM, .inr (4, [.int th, .ref aMT, .int (nI mu), .ref aNw, .ref aNx, .int mw_299, .int mwa_300, .int (nI ma_298), .int (nI en), .long mv_301, .int mf_302, .int ml])), (aMT, .inl (kMT, 65536, .inl B)), (aNx, .inl (kNx, 52650, .inl nx_303))] H := hP
                              have hD : va_D A [(aM, .inr (4, [.int th, .ref aMT, .int (nI mu), .ref aNw, .ref aNx, .int mw_299, .int mwa_300, .int (nI ma_298), .int (nI en), .long mv_301, .int mf_302, .int ml])), (aMT, .inl (kMT, 65536, .inl B)), (aNx, .inl (kNx, 52650, .inl nx_303))] := hD
                              rcases hw_304 with ⟨rfl, hw_304b, e1, e2, hw_304v, hw_304a, e3⟩ | ⟨rfl, hw_304b, hw_304k, hw_304a, e2⟩
                              ·
                                have e1 := e1.symm; subst e1
                                have e2 := e2.symm; subst e2
                                have e3 := e3.symm; subst e3
                                refine lv_if_eq (tgt := 167) hx hb d_Md_texture_127 (by decide) (fun c_305 => ?_) (fun c_305 => ?_)
                                ·
                                  exact absurd c_305 (by decide)
                                ·
                                  refine lv_aload_n hx hb d_Md_texture_130 rfl (lv_at hl 3 rfl) ?_
                                  refine lv_bipush (v := 44) hx hb d_Md_texture_131 (by decide) ?_
                                  have hPc := hP.sub (ws' := [(aM, .inr (4, [.int th, .ref aMT, .int (nI mu), .ref aNw, .ref aNx, .int mw, .int mwa, .int (nI ma_298), .int (nI en), .long mv_301, .int mf_302, .int ml])), (aMT, .inl (kMT, 65536, .inl B))]) [0, 1] rfl
                                  have hDc := hD.sub (ws' := [(aM, .inr (4, [.int th, .ref aMT, .int (nI mu), .ref aNw, .ref aNx, .int mw, .int mwa, .int (nI ma_298), .int (nI en), .long mv_301, .int mf_302, .int ml])), (aMT, .inl (kMT, 65536, .inl B))]) [0, 1] (by decide) rfl
                                  have hKc := hK.sub (tys' := [(kMT, .byte)]) [0] rfl
                                  have hFc := va_free (wc := [(aM, .inr (4, [.int th, .ref aMT, .int (nI mu), .ref aNw, .ref aNx, .int mw, .int mwa, .int (nI ma_298), .int (nI en), .long mv_301, .int mf_302, .int ml])), (aMT, .inl (kMT, 65536, .inl B))]) hD hS hA [0, 1] rfl
                                  refine va_calli (va_runV (As := [.int 44]) (rest := []) ⟨hx, hb, hml, hown, hts⟩ (c_Md_sign l G dC dI H.size aM th aMT mu aNw aNx mw mwa ma_298 en mv_301 mf_302 ml kMT B 44 (by omega) (by omega)) (cwV 1 hts (gV tw_537 tw_539 ts_20 tw_5 tw_540 rfl) rfl rfl rfl (by decide +kernel) ⟨Nat.le_of_ble_eq_true rfl, Nat.le_of_ble_eq_true rfl⟩) (PW_preV hPc hKc hDc hE hS hFc (ci := 4) (q0 := 0) rfl rfl) rfl rfl hl.1 rfl (lv_room (Nat.le_of_ble_eq_true rfl)) d_Md_texture_133 ⟨Nat.le_of_ble_eq_true rfl, Nat.le_of_ble_eq_true rfl⟩) hS (fun q _ h => hFc q h) hFc (fun r_306 uu t H1 locs ht hvm hw_310 hB hz1 hk1 hS => ?_)
                                  obtain ⟨ma_307, mw_308, mwa_309⟩ := uu
                                  obtain ⟨hP1, hD1, hsz1⟩ := hB
                                  rw [ht] at hP1 hsz1
                                  obtain ⟨hP, hD⟩ := va_join (wr := [(aNx, .inl (kNx, 52650, .inl (upd (upd (upd nx (8 + (3080 * kk)) (nI sd)) ((8 + (3080 * kk)) + 1) hw_289v) ((8 + (3080 * kk)) + 2) hw_304v)))]) (w1 := [(aM, .inr (4, [.int th, .ref aMT, .int (nI mu), .ref aNw, .ref aNx, .int mw_308, .int mwa_309, .int (nI ma_307), .int (nI en), .long mv_301, .int mf_302, .int ml])), (aMT, .inl (kMT, 65536, .inl B))]) hP hD [0, 1] [2] rfl rfl (by decide) (by decide) hk1 hFc hP1 hD1
                                  generalize H1 = H at hP hS ⊢
                                  have hP : va_P (dC, dI) vwCl [(aNx, .inl (kNx, 52650, .inl (upd (upd (upd nx (8 + (3080 * kk)) (nI sd)) ((8 + (3080 * kk)) + 1) hw_289v) ((8 + (3080 * kk)) + 2) hw_304v))), (aM, .inr (4, [.int th, .ref aMT, .int (nI mu), .ref aNw, .ref aNx, .int mw_308, .int mwa_309, .int (nI ma_307), .int (nI en), .long mv_301, .int mf_302, .int ml])), (aMT, .inl (kMT, 65536, .inl B))] H := hP
                                  have hD : va_D A [(aNx, .inl (kNx, 52650, .inl (upd (upd (upd nx (8 + (3080 * kk)) (nI sd)) ((8 + (3080 * kk)) + 1) hw_289v) ((8 + (3080 * kk)) + 2) hw_304v))), (aM, .inr (4, [.int th, .ref aMT, .int (nI mu), .ref aNw, .ref aNx, .int mw_308, .int mwa_309, .int (nI ma_307), .int (nI en), .long mv_301, .int mf_302, .int ml])), (aMT, .inl (kMT, 65536, .inl B))] := hD
                                  rcases hw_310 with ⟨rfl, hw_310a, hw_310b, e1, e2⟩ | ⟨rfl, hw_310b, hw_310k, hw_310a, e2⟩
                                  ·
                                    have e1 := e1.symm; subst e1
                                    have e2 := e2.symm; subst e2
                                    refine lv_if_eq (tgt := 167) hx hb d_Md_texture_136 (by decide) (fun c_311 => ?_) (fun c_311 => ?_)
                                    ·
                                      exact absurd c_311 (by decide)
                                    ·
                                      refine lv_aload_n hx hb d_Md_texture_139 rfl (lv_at hl 3 rfl) ?_
                                      refine lv_ldc2 (v := zWv 16) hx hb hown (hz _ tw_641) d_Md_texture_140 ?_
                                      refine lv_iload_n hx hb d_Md_texture_143 rfl (lv_at hl 2 rfl) ?_
                                      refine lv_bipush (v := 8) hx hb d_Md_texture_144 (by decide) ?_
                                      refine lv_iadd hx hb d_Md_texture_146 ?_
                                      refine zt_top (nI_add (8 + (3080 * kk)) 8) ?_
                                      refine lv_iload hx hb d_Md_texture_147 (lv_at hl 0 rfl) ?_
                                      refine lv_iload hx hb d_Md_texture_149 (lv_at hl 0 rfl) ?_
                                      refine lv_iconst (v := 1) hx hb d_Md_texture_151 (by decide) ?_
                                      refine lv_iconst (v := 0) hx hb d_Md_texture_152 (by decide) ?_
                                      refine lv_sipush (v := 255) hx hb d_Md_texture_153 (by decide) ?_
                                      refine lv_iconst (v := 0) hx hb d_Md_texture_156 (by decide) ?_
                                      have hPc := hP.sub (ws' := [(aM, .inr (4, [.int th, .ref aMT, .int (nI mu), .ref aNw, .ref aNx, .int mw, .int mwa, .int (nI ma_307), .int (nI en), .long mv_301, .int mf_302, .int ml])), (aMT, .inl (kMT, 65536, .inl B)), (aNx, .inl (kNx, 52650, .inl (upd (upd (upd nx (8 + (3080 * kk)) (nI sd)) ((8 + (3080 * kk)) + 1) hw_289v) ((8 + (3080 * kk)) + 2) hw_304v)))]) [1, 2, 0] rfl
                                      have hDc := hD.sub (ws' := [(aM, .inr (4, [.int th, .ref aMT, .int (nI mu), .ref aNw, .ref aNx, .int mw, .int mwa, .int (nI ma_307), .int (nI en), .long mv_301, .int mf_302, .int ml])), (aMT, .inl (kMT, 65536, .inl B)), (aNx, .inl (kNx, 52650, .inl (upd (upd (upd nx (8 + (3080 * kk)) (nI sd)) ((8 + (3080 * kk)) + 1) hw_289v) ((8 + (3080 * kk)) + 2) hw_304v)))]) [1, 2, 0] (by decide) rfl
                                      have hKc := hK.sub (tys' := [(kMT, .byte), (kNx, .int)]) [0, 1] rfl
                                      have hFc := va_free (wc := [(aM, .inr (4, [.int th, .ref aMT, .int (nI mu), .ref aNw, .ref aNx, .int mw, .int mwa, .int (nI ma_307), .int (nI en), .long mv_301, .int mf_302, .int ml])), (aMT, .inl (kMT, 65536, .inl B)), (aNx, .inl (kNx, 52650, .inl (upd (upd (upd nx (8 + (3080 * kk)) (nI sd)) ((8 + (3080 * kk)) + 1) hw_289v) ((8 + (3080 * kk)) + 2) hw_304v)))]) hD hS hA [1, 2, 0] rfl
                                      refine va_calli (va_runV (As := [.long (zWv 16), .int (nI ((8 + (3080 * kk)) + 8)), .int (nI ((3 * sd) * sd)), .int (nI ((3 * sd) * sd)), .int (nI 1), .int 0, .int 255, .int 0]) (rest := []) ⟨hx, hb, hml, hown, hts⟩ (c_Md_list l G dC dI H.size aM th aMT mu aNw aNx mw mwa ma_307 en mv_301 mf_302 ml kMT B kNx (upd (upd (upd nx (8 + (3080 * kk)) (nI sd)) ((8 + (3080 * kk)) + 1) hw_289v) ((8 + (3080 * kk)) + 2) hw_304v) 16 ((8 + (3080 * kk)) + 8) ((3 * sd) * sd) ((3 * sd) * sd) 1 0 255 0 (by omega) (by omega) (by decide) (by decide) (zSb_len _) (by omega) (by omega) (by omega) (Or.inl rfl) (Or.inl rfl) (by decide) (by decide) (by decide) (by decide)) (cwV 8 hts (gV tw_592 tw_594 ts_30 tw_5 tw_595 rfl) rfl rfl rfl (by decide +kernel) ⟨Nat.le_of_ble_eq_true rfl, Nat.le_of_ble_eq_true rfl⟩) (PW_preV hPc hKc hDc hE hS hFc (ci := 4) (q0 := 0) rfl rfl) rfl rfl hl.1 rfl (lv_room (Nat.le_of_ble_eq_true rfl)) d_Md_texture_157 ⟨Nat.le_of_ble_eq_true rfl, Nat.le_of_ble_eq_true rfl⟩) hS (fun q _ h => hFc q h) hFc (fun r_312 uu t H1 locs ht hvm hw_320 hB hz1 hk1 hS => ?_)
                                      obtain ⟨ma_313, mw_314, mwa_315, mv_316, mf_317, nx_318, ml_319⟩ := uu
                                      obtain ⟨hP1, hD1, hsz1⟩ := hB
                                      rw [ht] at hP1 hsz1
                                      obtain ⟨hP, hD⟩ := va_join (wr := []) (w1 := [(aM, .inr (4, [.int th, .ref aMT, .int (nI mu), .ref aNw, .ref aNx, .int mw_314, .int mwa_315, .int (nI ma_313), .int (nI en), .long mv_316, .int mf_317, .int ml_319])), (aMT, .inl (kMT, 65536, .inl B)), (aNx, .inl (kNx, 52650, .inl nx_318))]) hP hD [1, 2, 0] [] rfl rfl (by decide) (by decide) hk1 hFc hP1 hD1
                                      generalize H1 = H at hP hS ⊢
                                      have hP : va_P (dC, dI) vwCl [(aM, .inr (4, [.int th, .ref aMT, .int (nI mu), .ref aNw, .ref aNx, .int mw_314, .int mwa_315, .int (nI ma_313), .int (nI en), .long mv_316, .int mf_317, .int ml_319])), (aMT, .inl (kMT, 65536, .inl B)), (aNx, .inl (kNx, 52650, .inl nx_318))] H := hP
                                      have hD : va_D A [(aM, .inr (4, [.int th, .ref aMT, .int (nI mu), .ref aNw, .ref aNx, .int mw_314, .int mwa_315, .int (nI ma_313), .int (nI en), .long mv_316, .int mf_317, .int ml_319])), (aMT, .inl (kMT, 65536, .inl B)), (aNx, .inl (kNx, 52650, .inl nx_318))] := hD
                                      simp only [zf01, zf11, zg13, zg33, decide_true, decide_false] at hw_320
                                      rcases hw_320 with ⟨rfl, hw_320b, e1, e2, hw_320n, hw_320a, e3⟩ | ⟨rfl, hw_320b, hw_320k, hw_320a, e2⟩
                                      ·
                                        have e1 := e1.symm; subst e1
                                        have e2 := e2.symm; subst e2
                                        have e3 := e3.symm; subst e3
                                        refine lv_if_eq (tgt := 167) hx hb d_Md_texture_160 (by decide) (fun c_321 => ?_) (fun c_321 => ?_)
                                        ·
                                          exact absurd c_321 (by decide)
                                        ·
                                          refine lv_iconst (v := 1) hx hb d_Md_texture_163 (by decide) ?_
                                          refine lv_goto (tgt := 168) hx hb d_Md_texture_164 (by decide) ?_
                                          refine zt_size (fun hzs => ?_)
                                          have hP9 := hP.sub (ws' := [(aM, .inr (4, [.int th, .ref aMT, .int (nI mu), .ref aNw, .ref aNx, .int mw, .int mwa, .int (nI ma_313), .int (nI en), .long mv_316, .int mf_317, .int (nI hw_320n)])), (aMT, .inl (kMT, 65536, .inl B)), (aNx, .inl (kNx, 52650, .inl nx_318))]) [0, 1, 2] rfl
                                          have hD9 := hD.sub (ws' := [(aM, .inr (4, [.int th, .ref aMT, .int (nI mu), .ref aNw, .ref aNx, .int mw, .int mwa, .int (nI ma_313), .int (nI en), .long mv_316, .int mf_317, .int (nI hw_320n)])), (aMT, .inl (kMT, 65536, .inl B)), (aNx, .inl (kNx, 52650, .inl nx_318))]) [0, 1, 2] (by decide) rfl
                                          exact W.zret (v := 1) hx hb hr rfl (fun t ht hW => ⟨⟨1, (ma_313, mw, mwa, mv_316, mf_317, nx_318, nI hw_320n), rfl, Or.inl ⟨rfl, by omega, rfl, rfl, by simp only [mTexture, mListK, mNumK, zB_ok, nI_clamp (show sd < 2 ^ 31 by omega), if_pos (zpow1 sd (by omega) (Or.inr (Or.inr (Or.inr (Or.inr (Or.inr (congrArg nI c_275))))))), hk9, hw_8a, hw_280a, hw_289a, hw_295a, hw_304a, hw_310a, hw_320a]⟩, by rw [ht]; exact hP9, hD9, by rw [ht]; exact hzs⟩, hS.F ht⟩) hS.2.2 d_Md_texture_168
                                      ·
                                        have e2 := e2.symm; subst e2
                                        refine lv_if_eq (tgt := 167) hx hb d_Md_texture_160 (by decide) (fun c_322 => ?_) (fun c_322 => ?_)
                                        ·
                                          refine lv_iconst (v := 0) hx hb d_Md_texture_167 (by decide) ?_
                                          refine zt_size (fun hzs => ?_)
                                          have hP9 := hP.sub (ws' := [(aM, .inr (4, [.int th, .ref aMT, .int (nI mu), .ref aNw, .ref aNx, .int mw_314, .int (nI hw_320k), .int (nI ma_313), .int (nI en), .long mv_316, .int mf_317, .int ml_319])), (aMT, .inl (kMT, 65536, .inl B)), (aNx, .inl (kNx, 52650, .inl nx_318))]) [0, 1, 2] rfl
                                          have hD9 := hD.sub (ws' := [(aM, .inr (4, [.int th, .ref aMT, .int (nI mu), .ref aNw, .ref aNx, .int mw_314, .int (nI hw_320k), .int (nI ma_313), .int (nI en), .long mv_316, .int mf_317, .int ml_319])), (aMT, .inl (kMT, 65536, .inl B)), (aNx, .inl (kNx, 52650, .inl nx_318))]) [0, 1, 2] (by decide) rfl
                                          exact W.zret (v := 0) hx hb hr rfl (fun t ht hW => ⟨⟨0, (ma_313, mw_314, nI hw_320k, mv_316, mf_317, nx_318, ml_319), rfl, Or.inr ⟨rfl, by omega, _, by simp only [mTexture, mListK, mNumK, zB_ok, nI_clamp (show sd < 2 ^ 31 by omega), if_pos (zpow1 sd (by omega) (Or.inr (Or.inr (Or.inr (Or.inr (Or.inr (congrArg nI c_275))))))), hk9, hw_8a, hw_280a, hw_289a, hw_295a, hw_304a, hw_310a, hw_320a, zB_er], rfl⟩, by rw [ht]; exact hP9, hD9, by rw [ht]; exact hzs⟩, hS.F ht⟩) hS.2.2 d_Md_texture_168
                                        ·
                                          exact absurd (by decide) c_322
                                  ·
                                    have e2 := e2.symm; subst e2
                                    refine lv_if_eq (tgt := 167) hx hb d_Md_texture_136 (by decide) (fun c_323 => ?_) (fun c_323 => ?_)
                                    ·
                                      refine lv_iconst (v := 0) hx hb d_Md_texture_167 (by decide) ?_
                                      refine zt_size (fun hzs => ?_)
                                      have hP9 := hP.sub (ws' := [(aM, .inr (4, [.int th, .ref aMT, .int (nI mu), .ref aNw, .ref aNx, .int mw_308, .int (nI hw_310k), .int (nI ma_307), .int (nI en), .long mv_301, .int mf_302, .int ml])), (aMT, .inl (kMT, 65536, .inl B)), (aNx, .inl (kNx, 52650, .inl (upd (upd (upd nx (8 + (3080 * kk)) (nI sd)) ((8 + (3080 * kk)) + 1) hw_289v) ((8 + (3080 * kk)) + 2) hw_304v)))]) [1, 2, 0] rfl
                                      have hD9 := hD.sub (ws' := [(aM, .inr (4, [.int th, .ref aMT, .int (nI mu), .ref aNw, .ref aNx, .int mw_308, .int (nI hw_310k), .int (nI ma_307), .int (nI en), .long mv_301, .int mf_302, .int ml])), (aMT, .inl (kMT, 65536, .inl B)), (aNx, .inl (kNx, 52650, .inl (upd (upd (upd nx (8 + (3080 * kk)) (nI sd)) ((8 + (3080 * kk)) + 1) hw_289v) ((8 + (3080 * kk)) + 2) hw_304v)))]) [1, 2, 0] (by decide) rfl
                                      exact W.zret (v := 0) hx hb hr rfl (fun t ht hW => ⟨⟨0, (ma_307, mw_308, nI hw_310k, mv_301, mf_302, upd (upd (upd nx (8 + (3080 * kk)) (nI sd)) ((8 + (3080 * kk)) + 1) hw_289v) ((8 + (3080 * kk)) + 2) hw_304v, ml), rfl, Or.inr ⟨rfl, by omega, _, by simp only [mTexture, mListK, mNumK, zB_ok, nI_clamp (show sd < 2 ^ 31 by omega), if_pos (zpow1 sd (by omega) (Or.inr (Or.inr (Or.inr (Or.inr (Or.inr (congrArg nI c_275))))))), hk9, hw_8a, hw_280a, hw_289a, hw_295a, hw_304a, hw_310a, zB_er], rfl⟩, by rw [ht]; exact hP9, hD9, by rw [ht]; exact hzs⟩, hS.F ht⟩) hS.2.2 d_Md_texture_168
                                    ·
                                      exact absurd (by decide) c_323
                              ·
                                have e2 := e2.symm; subst e2
                                refine lv_if_eq (tgt := 167) hx hb d_Md_texture_127 (by decide) (fun c_324 => ?_) (fun c_324 => ?_)
                                ·
                                  refine lv_iconst (v := 0) hx hb d_Md_texture_167 (by decide) ?_
                                  refine zt_size (fun hzs => ?_)
                                  have hP9 := hP.sub (ws' := [(aM, .inr (4, [.int th, .ref aMT, .int (nI mu), .ref aNw, .ref aNx, .int mw_299, .int (nI hw_304k), .int (nI ma_298), .int (nI en), .long mv_301, .int mf_302, .int ml])), (aMT, .inl (kMT, 65536, .inl B)), (aNx, .inl (kNx, 52650, .inl nx_303))]) [0, 1, 2] rfl
                                  have hD9 := hD.sub (ws' := [(aM, .inr (4, [.int th, .ref aMT, .int (nI mu), .ref aNw, .ref aNx, .int mw_299, .int (nI hw_304k), .int (nI ma_298), .int (nI en), .long mv_301, .int mf_302, .int ml])), (aMT, .inl (kMT, 65536, .inl B)), (aNx, .inl (kNx, 52650, .inl nx_303))]) [0, 1, 2] (by decide) rfl
                                  exact W.zret (v := 0) hx hb hr rfl (fun t ht hW => ⟨⟨0, (ma_298, mw_299, nI hw_304k, mv_301, mf_302, nx_303, ml), rfl, Or.inr ⟨rfl, by omega, _, by simp only [mTexture, mListK, mNumK, zB_ok, nI_clamp (show sd < 2 ^ 31 by omega), if_pos (zpow1 sd (by omega) (Or.inr (Or.inr (Or.inr (Or.inr (Or.inr (congrArg nI c_275))))))), hk9, hw_8a, hw_280a, hw_289a, hw_295a, hw_304a, zB_er], rfl⟩, by rw [ht]; exact hP9, hD9, by rw [ht]; exact hzs⟩, hS.F ht⟩) hS.2.2 d_Md_texture_168
                                ·
                                  exact absurd (by decide) c_324
                          ·
                            have e2 := e2.symm; subst e2
                            refine lv_if_eq (tgt := 167) hx hb d_Md_texture_112 (by decide) (fun c_325 => ?_) (fun c_325 => ?_)
                            ·
                              refine lv_iconst (v := 0) hx hb d_Md_texture_167 (by decide) ?_
                              refine zt_size (fun hzs => ?_)
                              have hP9 := hP.sub (ws' := [(aM, .inr (4, [.int th, .ref aMT, .int (nI mu), .ref aNw, .ref aNx, .int mw_293, .int (nI hw_295k), .int (nI ma_292), .int (nI en), .long mv_286, .int mf_287, .int ml])), (aMT, .inl (kMT, 65536, .inl B)), (aNx, .inl (kNx, 52650, .inl (upd (upd nx (8 + (3080 * kk)) (nI sd)) ((8 + (3080 * kk)) + 1) hw_289v)))]) [1, 2, 0] rfl
                              have hD9 := hD.sub (ws' := [(aM, .inr (4, [.int th, .ref aMT, .int (nI mu), .ref aNw, .ref aNx, .int mw_293, .int (nI hw_295k), .int (nI ma_292), .int (nI en), .long mv_286, .int mf_287, .int ml])), (aMT, .inl (kMT, 65536, .inl B)), (aNx, .inl (kNx, 52650, .inl (upd (upd nx (8 + (3080 * kk)) (nI sd)) ((8 + (3080 * kk)) + 1) hw_289v)))]) [1, 2, 0] (by decide) rfl
                              exact W.zret (v := 0) hx hb hr rfl (fun t ht hW => ⟨⟨0, (ma_292, mw_293, nI hw_295k, mv_286, mf_287, upd (upd nx (8 + (3080 * kk)) (nI sd)) ((8 + (3080 * kk)) + 1) hw_289v, ml), rfl, Or.inr ⟨rfl, by omega, _, by simp only [mTexture, mListK, mNumK, zB_ok, nI_clamp (show sd < 2 ^ 31 by omega), if_pos (zpow1 sd (by omega) (Or.inr (Or.inr (Or.inr (Or.inr (Or.inr (congrArg nI c_275))))))), hk9, hw_8a, hw_280a, hw_289a, hw_295a, zB_er], rfl⟩, by rw [ht]; exact hP9, hD9, by rw [ht]; exact hzs⟩, hS.F ht⟩) hS.2.2 d_Md_texture_168
                            ·
                              exact absurd (by decide) c_325
                      ·
                        have e2 := e2.symm; subst e2
                        refine lv_if_eq (tgt := 167) hx hb d_Md_texture_103 (by decide) (fun c_326 => ?_) (fun c_326 => ?_)
                        ·
                          refine lv_iconst (v := 0) hx hb d_Md_texture_167 (by decide) ?_
                          refine zt_size (fun hzs => ?_)
                          have hP9 := hP.sub (ws' := [(aM, .inr (4, [.int th, .ref aMT, .int (nI mu), .ref aNw, .ref aNx, .int mw_284, .int (nI hw_289k), .int (nI ma_283), .int (nI en), .long mv_286, .int mf_287, .int ml])), (aMT, .inl (kMT, 65536, .inl B)), (aNx, .inl (kNx, 52650, .inl nx_288))]) [0, 1, 2] rfl
                          have hD9 := hD.sub (ws' := [(aM, .inr (4, [.int th, .ref aMT, .int (nI mu), .ref aNw, .ref aNx, .int mw_284, .int (nI hw_289k), .int (nI ma_283), .int (nI en), .long mv_286, .int mf_287, .int ml])), (aMT, .inl (kMT, 65536, .inl B)), (aNx, .inl (kNx, 52650, .inl nx_288))]) [0, 1, 2] (by decide) rfl
                          exact W.zret (v := 0) hx hb hr rfl (fun t ht hW => ⟨⟨0, (ma_283, mw_284, nI hw_289k, mv_286, mf_287, nx_288, ml), rfl, Or.inr ⟨rfl, by omega, _, by simp only [mTexture, mListK, mNumK, zB_ok, nI_clamp (show sd < 2 ^ 31 by omega), if_pos (zpow1 sd (by omega) (Or.inr (Or.inr (Or.inr (Or.inr (Or.inr (congrArg nI c_275))))))), hk9, hw_8a, hw_280a, hw_289a, zB_er], rfl⟩, by rw [ht]; exact hP9, hD9, by rw [ht]; exact hzs⟩, hS.F ht⟩) hS.2.2 d_Md_texture_168
                        ·
                          exact absurd (by decide) c_326
                  ·
                    have e2 := e2.symm; subst e2
                    refine lv_if_eq (tgt := 167) hx hb d_Md_texture_88 (by decide) (fun c_327 => ?_) (fun c_327 => ?_)
                    ·
                      refine lv_iconst (v := 0) hx hb d_Md_texture_167 (by decide) ?_
                      refine zt_size (fun hzs => ?_)
                      have hP9 := hP.sub (ws' := [(aM, .inr (4, [.int th, .ref aMT, .int (nI mu), .ref aNw, .ref aNx, .int mw_278, .int (nI hw_280k), .int (nI ma_277), .int (nI en), .long mv_5, .int (nI h9), .int ml])), (aMT, .inl (kMT, 65536, .inl B)), (aNx, .inl (kNx, 52650, .inl (upd nx (8 + (3080 * kk)) (nI sd))))]) [1, 2, 0] rfl
                      have hD9 := hD.sub (ws' := [(aM, .inr (4, [.int th, .ref aMT, .int (nI mu), .ref aNw, .ref aNx, .int mw_278, .int (nI hw_280k), .int (nI ma_277), .int (nI en), .long mv_5, .int (nI h9), .int ml])), (aMT, .inl (kMT, 65536, .inl B)), (aNx, .inl (kNx, 52650, .inl (upd nx (8 + (3080 * kk)) (nI sd))))]) [1, 2, 0] (by decide) rfl
                      exact W.zret (v := 0) hx hb hr rfl (fun t ht hW => ⟨⟨0, (ma_277, mw_278, nI hw_280k, mv_5, nI h9, upd nx (8 + (3080 * kk)) (nI sd), ml), rfl, Or.inr ⟨rfl, by omega, _, by simp only [mTexture, mListK, mNumK, zB_ok, nI_clamp (show sd < 2 ^ 31 by omega), if_pos (zpow1 sd (by omega) (Or.inr (Or.inr (Or.inr (Or.inr (Or.inr (congrArg nI c_275))))))), hk9, hw_8a, hw_280a, zB_er], rfl⟩, by rw [ht]; exact hP9, hD9, by rw [ht]; exact hzs⟩, hS.F ht⟩) hS.2.2 d_Md_texture_168
                    ·
                      exact absurd (by decide) c_327
                ·
                  have c_275 : ¬ (sd = 32) := fun z => c_275 ((@nI_eq sd 32 (by omega) (by omega)).mpr z)
                  refine lv_aload_n hx hb d_Md_texture_65 rfl (lv_at hl 2 rfl) ?_
                  refine lv_iconst (v := 2) hx hb d_Md_texture_66 (by decide) ?_
                  refine lv_aload_n hx hb d_Md_texture_67 rfl (lv_at hl 2 rfl) ?_
                  refine va_get (D := (dC, dI)) (ci := 4) (v := .int (nI h9)) (C := R_Md) (T := F_Md) (N := 12) hx hb hz i_Md hown hK hP 0 rfl rfl 10 (by decide) (hz _ tw_486) (fun _ h9 => h9) rfl d_Md_texture_68 ?_
                  have hPc := hP.sub (ws' := [(aM, .inr (4, [.int th, .ref aMT, .int (nI mu), .ref aNw, .ref aNx, .int mw, .int mwa, .int (nI ma_2), .int (nI en), .long mv_5, .int (nI h9), .int ml]))]) [0] rfl
                  have hDc := hD.sub (ws' := [(aM, .inr (4, [.int th, .ref aMT, .int (nI mu), .ref aNw, .ref aNx, .int mw, .int mwa, .int (nI ma_2), .int (nI en), .long mv_5, .int (nI h9), .int ml]))]) [0] (by decide) rfl
                  have hKc := hK.sub (tys' := []) [] rfl
                  have hFc := va_free (wc := [(aM, .inr (4, [.int th, .ref aMT, .int (nI mu), .ref aNw, .ref aNx, .int mw, .int mwa, .int (nI ma_2), .int (nI en), .long mv_5, .int (nI h9), .int ml]))]) hD hS hA [0] rfl
                  refine va_calli (va_runV (As := [.int 2, .int (nI h9)]) (rest := []) ⟨hx, hb, hml, hown, hts⟩ (c_Md_fails l G dC dI H.size aM th aMT mu aNw aNx mw mwa ma_2 en mv_5 (nI h9) ml 2 (nI h9)) (cwV 2 hts (gV tw_549 tw_551 ts_23 tw_5 tw_552 rfl) rfl rfl rfl (by decide +kernel) ⟨Nat.le_of_ble_eq_true rfl, Nat.le_of_ble_eq_true rfl⟩) (PW_preV hPc hKc hDc hE hS hFc (ci := 4) (q0 := 0) rfl rfl) rfl rfl hl.1 rfl (lv_room (Nat.le_of_ble_eq_true rfl)) d_Md_texture_71 ⟨Nat.le_of_ble_eq_true rfl, Nat.le_of_ble_eq_true rfl⟩) hS (fun q _ h => hFc q h) hFc (fun r_328 uu t H1 locs ht hvm hw_331 hB hz1 hk1 hS => ?_)
                  obtain ⟨mw_329, mwa_330⟩ := uu
                  obtain ⟨hP1, hD1, hsz1⟩ := hB
                  rw [ht] at hP1 hsz1
                  obtain ⟨hP, hD⟩ := va_join (wr := [(aMT, .inl (kMT, 65536, .inl B)), (aNx, .inl (kNx, 52650, .inl (upd nx (8 + (3080 * kk)) (nI sd))))]) (w1 := [(aM, .inr (4, [.int th, .ref aMT, .int (nI mu), .ref aNw, .ref aNx, .int mw_329, .int mwa_330, .int (nI ma_2), .int (nI en), .long mv_5, .int (nI h9), .int ml]))]) hP hD [0] [1, 2] rfl rfl (by decide) (by decide) hk1 hFc hP1 hD1
                  generalize H1 = H at hP hS ⊢
                  have hP : va_P (dC, dI) vwCl [(aMT, .inl (kMT, 65536, .inl B)), (aNx, .inl (kNx, 52650, .inl (upd nx (8 + (3080 * kk)) (nI sd)))), (aM, .inr (4, [.int th, .ref aMT, .int (nI mu), .ref aNw, .ref aNx, .int mw_329, .int mwa_330, .int (nI ma_2), .int (nI en), .long mv_5, .int (nI h9), .int ml]))] H := hP
                  have hD : va_D A [(aMT, .inl (kMT, 65536, .inl B)), (aNx, .inl (kNx, 52650, .inl (upd nx (8 + (3080 * kk)) (nI sd)))), (aM, .inr (4, [.int th, .ref aMT, .int (nI mu), .ref aNw, .ref aNx, .int mw_329, .int mwa_330, .int (nI ma_2), .int (nI en), .long mv_5, .int (nI h9), .int ml]))] := hD
                  obtain ⟨e0, e1, e2⟩ := hw_331
                  subst e0
                  have e1 := e1.symm; subst e1
                  have e2 := e2.symm; subst e2
                  refine zt_size (fun hzs => ?_)
                  have hP9 := hP.sub (ws' := [(aM, .inr (4, [.int th, .ref aMT, .int (nI mu), .ref aNw, .ref aNx, .int 2, .int (nI h9), .int (nI ma_2), .int (nI en), .long mv_5, .int (nI h9), .int ml])), (aMT, .inl (kMT, 65536, .inl B)), (aNx, .inl (kNx, 52650, .inl (upd nx (8 + (3080 * kk)) (nI sd))))]) [2, 0, 1] rfl
                  have hD9 := hD.sub (ws' := [(aM, .inr (4, [.int th, .ref aMT, .int (nI mu), .ref aNw, .ref aNx, .int 2, .int (nI h9), .int (nI ma_2), .int (nI en), .long mv_5, .int (nI h9), .int ml])), (aMT, .inl (kMT, 65536, .inl B)), (aNx, .inl (kNx, 52650, .inl (upd nx (8 + (3080 * kk)) (nI sd))))]) [2, 0, 1] (by decide) rfl
                  exact W.zret (v := 0) hx hb hr rfl (fun t ht hW => ⟨⟨0, (ma_2, 2, nI h9, mv_5, nI h9, upd nx (8 + (3080 * kk)) (nI sd), ml), rfl, Or.inr ⟨rfl, by omega, _, by simp only [mTexture, zB_ok, hk9, hw_8a]; rw [if_neg (fun z => (zpow2 sd (by omega) hsd1 z).elim (fun z => c_10 ((nI_eq (by omega) (by decide)).mp z)) (fun z => z.elim (fun z => c_63 ((nI_eq (by omega) (by decide)).mp z)) (fun z => z.elim (fun z => c_116 ((nI_eq (by omega) (by decide)).mp z)) (fun z => z.elim (fun z => c_169 ((nI_eq (by omega) (by decide)).mp z)) (fun z => z.elim (fun z => c_222 ((nI_eq (by omega) (by decide)).mp z)) (fun z => c_275 ((nI_eq (by omega) (by decide)).mp z)))))))], rfl⟩, by rw [ht]; exact hP9, hD9, by rw [ht]; exact hzs⟩, hS.F ht⟩) hS.2.2 d_Md_texture_74
    ·
      exact absurd c_9 (by decide)
  ·
    have e2 := e2.symm; subst e2
    refine lv_if_ne (tgt := 25) hx hb d_Md_texture_20 (by decide) (fun c_332 => ?_) (fun c_332 => ?_)
    ·
      exact absurd (by decide) c_332
    ·
      refine lv_iconst (v := 0) hx hb d_Md_texture_23 (by decide) ?_
      refine zt_size (fun hzs => ?_)
      have hP9 := hP.sub (ws' := [(aM, .inr (4, [.int th, .ref aMT, .int (nI mu), .ref aNw, .ref aNx, .int mw_3, .int (nI hw_8k), .int (nI ma_2), .int (nI en), .long mv_5, .int mf_6, .int ml])), (aMT, .inl (kMT, 65536, .inl B)), (aNx, .inl (kNx, 52650, .inl nx_7))]) [0, 1, 2] rfl
      have hD9 := hD.sub (ws' := [(aM, .inr (4, [.int th, .ref aMT, .int (nI mu), .ref aNw, .ref aNx, .int mw_3, .int (nI hw_8k), .int (nI ma_2), .int (nI en), .long mv_5, .int mf_6, .int ml])), (aMT, .inl (kMT, 65536, .inl B)), (aNx, .inl (kNx, 52650, .inl nx_7))]) [0, 1, 2] (by decide) rfl
      exact W.zret (v := 0) hx hb hr rfl (fun t ht hW => ⟨⟨0, (ma_2, mw_3, nI hw_8k, mv_5, mf_6, nx_7, ml), rfl, Or.inr ⟨rfl, by omega, _, by have q := hw_8a; unfold mTexture; revert q; cases zKey B en (zSb 13) (zK B en ma) with | ok y => intro q; simp only [zB_ok] at q ⊢; simp only [q, zB_er] | error y => intro q; simp only [zB_er] at q ⊢; cases q; rfl, rfl⟩, by rw [ht]; exact hP9, hD9, by rw [ht]; exact hzs⟩, hS.F ht⟩) hS.2.2 d_Md_texture_24
