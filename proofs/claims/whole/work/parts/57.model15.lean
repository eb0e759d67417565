set_option maxHeartbeats 4000000 in
set_option maxRecDepth 100000 in
theorem c_Md_oneF (l : Launch) (G : ZG) (dC : Nat → ClassId) (dI : Nat → Nat → Nat) (sz : Nat) (aM : Nat) (th : Int32) (aMT : Nat) (mu : Nat) (aNw : Nat) (aNx : Nat) (mw : Int32) (mwa : Int32) (ma : Nat) (en : Nat) (mv : Int64) (mf : Int32) (ml : Int32) (kMT : ClassId) (B : Nat → Int32) (kNx : ClassId) (nx : Nat → Int32) (pl : Nat) (lo : Int32) (hi : Int32) (hen : en ≤ 65536) (hma : ma ≤ en) (hpl : pl < 52650) (hlo1 : -100000000 < lo.toInt) (hlo2 : lo.toInt < 100000000) (hhi1 : -100000000 < hi.toInt) (hhi2 : hi.toInt < 100000000) : Met l y_Md_one w_Md_one ({ frames := 2, cells := 0, slots := 0, locals := 44 }) (va_Pc [.ref aM, .int (nI pl), .int lo, .int hi] (PW G (dC, dI) [(kMT, .byte), (kNx, .int)] [(aM, .inr (4, [.int th, .ref aMT, .int (nI mu), .ref aNw, .ref aNx, .int mw, .int mwa, .int (nI ma), .int (nI en), .long mv, .int mf, .int ml])), (aMT, .inl (kMT, 65536, .inl B)), (aNx, .inl (kNx, 52650, .inl nx))] sz)) (va_Qi (fun (r : Int32) (uu : Nat × Int32 × Int32 × Int64 × Int32 × (Nat → Int32)) => (r = 1 ∧ uu.1 ≤ en ∧ uu.2.1 = mw ∧ uu.2.2.1 = mwa ∧ ∃ v, zRNum B en lo hi (zK B en ma) = .ok (v, zK B en uu.1) ∧ uu.2.2.2.2.2 = upd nx pl v ∧ uu.2.2.2.2.1 = nI (zK B en ma)) ∨ (r = 0 ∧ uu.1 ≤ en ∧ ∃ k, zRNum B en lo hi (zK B en ma) = .error (uu.2.1, k) ∧ uu.2.2.1 = nI k)) (fun (uu : Nat × Int32 × Int32 × Int64 × Int32 × (Nat → Int32)) t => BW (dC, dI) [(aM, .inr (4, [.int th, .ref aMT, .int (nI mu), .ref aNw, .ref aNx, .int uu.2.1, .int uu.2.2.1, .int (nI uu.1), .int (nI en), .long uu.2.2.2.1, .int uu.2.2.2.2.1, .int ml])), (aMT, .inl (kMT, 65536, .inl B)), (aNx, .inl (kNx, 52650, .inl uu.2.2.2.2.2))] (va_A [(aM, .inr (4, [.int th, .ref aMT, .int (nI mu), .ref aNw, .ref aNx, .int mw, .int mwa, .int (nI ma), .int (nI en), .long mv, .int mf, .int ml])), (aMT, .inl (kMT, 65536, .inl B)), (aNx, .inl (kNx, 52650, .inl nx))] sz) sz t) (va_A [(aM, .inr (4, [.int th, .ref aMT, .int (nI mu), .ref aNw, .ref aNx, .int mw, .int mwa, .int (nI ma), .int (nI en), .long mv, .int mf, .int ml])), (aMT, .inl (kMT, 65536, .inl B)), (aNx, .inl (kNx, 52650, .inl nx))] sz)) 0 0 (va_A [(aM, .inr (4, [.int th, .ref aMT, .int (nI mu), .ref aNw, .ref aNx, .int mw, .int mwa, .int (nI ma), .int (nI en), .long mv, .int mf, .int ml])), (aMT, .inl (kMT, 65536, .inl B)), (aNx, .inl (kNx, 52650, .inl nx))] sz) := by
  refine Met.ofW (cc := prog_6_method_16_code) (maxL := 4) (ret := (some .boolean)) (by decide) rfl ?_
  intro p e s m args below meth c s₁ Bd hml hv
  obtain ⟨rfl, hsz, hP, hK, hD0, hE⟩ := hv
  have hx := Bd.exec
  have hb := Bd.bytes
  have hr := Bd.returns
  have hts := atoms_spec (ws := w_Md_one) Bd.pre
  have hown : s.vm.findClass R_Md = some m.cls := findClass_of_methodNamed Bd.named
  have hlocks := Bd.notSynchronized
  have hz : ∀ w ∈ ZW, w.before _ s = true := fun w h => hts w (List.mem_cons_of_mem _ h)
  subst hsz
  have hD := hD0.self (sz := s.heap.size)
  generalize hAe : va_A [(aM, .inr (4, [.int th, .ref aMT, .int (nI mu), .ref aNw, .ref aNx, .int mw, .int mwa, .int (nI ma), .int (nI en), .long mv, .int mf, .int ml])), (aMT, .inl (kMT, 65536, .inl B)), (aNx, .inl (kNx, 52650, .inl nx))] s.heap.size = A at hD hE ⊢
  have hA : ∀ q : Nat, s.heap.size ≤ q → A q := fun q h => by rw [← hAe]; exact Or.inr h
  have hS : va_S A s.heap s.heap [] := va_S.rf
  have hl := lv_entry ([.ref aM, .int (nI pl), .int lo, .int hi]) (n := 4) (Nat.le_of_ble_eq_true rfl)
  rw [lg_entry_eq]
  generalize (lg_sl ([.ref aM, .int (nI pl), .int lo, .int hi]) ++ List.replicate (4 - (lg_sl ([.ref aM, .int (nI pl), .int lo, .int hi])).length) Slot.unset).toArray = ls at hl ⊢
  have hl : lv_has ls 4 [(0, .ref aM), (1, .int (nI pl)), (2, .int lo), (3, .int hi)] := hl
  obtain ⟨H, hH⟩ : ∃ z, z = s.heap := ⟨_, rfl⟩
  have hP : va_P (dC, dI) vwCl [(aM, .inr (4, [.int th, .ref aMT, .int (nI mu), .ref aNw, .ref aNx, .int mw, .int mwa, .int (nI ma), .int (nI en), .long mv, .int mf, .int ml])), (aMT, .inl (kMT, 65536, .inl B)), (aNx, .inl (kNx, 52650, .inl nx))] H := by rw [hH]; exact hP
  have hS : va_S A s.heap H [] := by rw [hH]; exact hS
  refine zt_heap hH ?_
  refine lv_aload_n hx hb d_Md_one_0 rfl (lv_at hl 0 rfl) ?_
  have hPc := hP.sub (ws' := [(aM, .inr (4, [.int th, .ref aMT, .int (nI mu), .ref aNw, .ref aNx, .int mw, .int mwa, .int (nI ma), .int (nI en), .long mv, .int mf, .int ml])), (aMT, .inl (kMT, 65536, .inl B))]) [0, 1] rfl
  have hDc := hD.sub (ws' := [(aM, .inr (4, [.int th, .ref aMT, .int (nI mu), .ref aNw, .ref aNx, .int mw, .int mwa, .int (nI ma), .int (nI en), .long mv, .int mf, .int ml])), (aMT, .inl (kMT, 65536, .inl B))]) [0, 1] (by decide) rfl
  have hKc := hK.sub (tys' := [(kMT, .byte)]) [0] rfl
  have hFc := va_free (wc := [(aM, .inr (4, [.int th, .ref aMT, .int (nI mu), .ref aNw, .ref aNx, .int mw, .int mwa, .int (nI ma), .int (nI en), .long mv, .int mf, .int ml])), (aMT, .inl (kMT, 65536, .inl B))]) hD hS hA [0, 1] rfl
  refine va_calli (va_runV (As := []) (rest := []) ⟨hx, hb, hml, hown, hts⟩ (c_Md_number l G dC dI H.size aM th aMT mu aNw aNx mw mwa ma en mv mf ml kMT B (by omega) (by omega)) (cwV 0 hts (gV tw_596 tw_598 ts_31 tw_5 tw_599 rfl) rfl rfl rfl (by decide +kernel) ⟨Nat.le_of_ble_eq_true rfl, Nat.le_of_ble_eq_true rfl⟩) (PW_preV hPc hKc hDc hE hS hFc (ci := 4) (q0 := 0) rfl rfl) rfl rfl hl.1 rfl (lv_room (Nat.le_of_ble_eq_true rfl)) d_Md_one_1 ⟨Nat.le_of_ble_eq_true rfl, Nat.le_of_ble_eq_true rfl⟩) hS (fun q _ h => hFc q h) hFc (fun r_1 uu t H1 locs ht hvm hw_7 hB hz1 hk1 hS => ?_)
  obtain ⟨ma_2, mw_3, mwa_4, mv_5, mf_6⟩ := uu
  obtain ⟨hP1, hD1, hsz1⟩ := hB
  rw [ht] at hP1 hsz1
  obtain ⟨hP, hD⟩ := va_join (wr := [(aNx, .inl (kNx, 52650, .inl nx))]) (w1 := [(aM, .inr (4, [.int th, .ref aMT, .int (nI mu), .ref aNw, .ref aNx, .int mw_3, .int mwa_4, .int (nI ma_2), .int (nI en), .long mv_5, .int mf_6, .int ml])), (aMT, .inl (kMT, 65536, .inl B))]) hP hD [0, 1] [2] rfl rfl (by decide) (by decide) hk1 hFc hP1 hD1
  generalize H1 = H at hP hS ⊢
  have hP : va_P (dC, dI) vwCl [(aNx, .inl (kNx, 52650, .inl nx)), (aM, .inr (4, [.int th, .ref aMT, .int (nI mu), .ref aNw, .ref aNx, .int mw_3, .int mwa_4, .int (nI ma_2), .int (nI en), .long mv_5, .int mf_6, .int ml])), (aMT, .inl (kMT, 65536, .inl B))] H := hP
  have hD : va_D A [(aNx, .inl (kNx, 52650, .inl nx)), (aM, .inr (4, [.int th, .ref aMT, .int (nI mu), .ref aNw, .ref aNx, .int mw_3, .int mwa_4, .int (nI ma_2), .int (nI en), .long mv_5, .int mf_6, .int ml])), (aMT, .inl (kMT, 65536, .inl B))] := hD
  have hw_7h := zK_le (B := B) (en := en) (i := ma) (by omega)
  rcases hw_7 with ⟨rfl, hw_7d, ea, hw_7b, ev, ef, e1, e2⟩ | ⟨rfl, hw_7d, hw_7b, e1, e2⟩
  ·
    obtain ⟨vn_8, hw_7a, hw_7v⟩ := zNum_ok (by omega) hw_7d
    rw [← ea] at hw_7a
    rw [← ev] at hw_7v
    have ef := ef.symm; subst ef
    have e1 := e1.symm; subst e1
    have e2 := e2.symm; subst e2
    refine lv_if_ne (tgt := 9) hx hb d_Md_one_4 (by decide) (fun c_9 => ?_) (fun c_9 => ?_)
    ·
      refine lv_aload_n hx hb d_Md_one_9 rfl (lv_at hl 0 rfl) ?_
      refine va_get (D := (dC, dI)) (ci := 4) (v := .long mv_5) (C := R_Md) (T := F_Md) (N := 12) hx hb hz i_Md hown hK hP 1 rfl rfl 9 (by decide) (hz _ tw_485) (fun _ h9 => h9) rfl d_Md_one_10 ?_
      refine lv_iload_n hx hb d_Md_one_13 rfl (lv_at hl 2 rfl) ?_
      refine lv_i2l (v := lo.toInt64) hx hb d_Md_one_14 rfl ?_
      refine W.lcmp hx hb d_Md_one_15 ?_
      refine lv_if_lt (tgt := 29) hx hb d_Md_one_16 (by decide) (fun c_10 => ?_) (fun c_10 => ?_)
      ·
        refine lv_aload_n hx hb d_Md_one_29 rfl (lv_at hl 0 rfl) ?_
        refine lv_iconst (v := 2) hx hb d_Md_one_30 (by decide) ?_
        refine lv_aload_n hx hb d_Md_one_31 rfl (lv_at hl 0 rfl) ?_
        refine va_get (D := (dC, dI)) (ci := 4) (v := .int (nI (zK B en ma))) (C := R_Md) (T := F_Md) (N := 12) hx hb hz i_Md hown hK hP 1 rfl rfl 10 (by decide) (hz _ tw_486) (fun _ h9 => h9) rfl d_Md_one_32 ?_
        have hPc := hP.sub (ws' := [(aM, .inr (4, [.int th, .ref aMT, .int (nI mu), .ref aNw, .ref aNx, .int mw, .int mwa, .int (nI ma_2), .int (nI en), .long mv_5, .int (nI (zK B en ma)), .int ml]))]) [1] rfl
        have hDc := hD.sub (ws' := [(aM, .inr (4, [.int th, .ref aMT, .int (nI mu), .ref aNw, .ref aNx, .int mw, .int mwa, .int (nI ma_2), .int (nI en), .long mv_5, .int (nI (zK B en ma)), .int ml]))]) [1] (by decide) rfl
        have hKc := hK.sub (tys' := []) [] rfl
        have hFc := va_free (wc := [(aM, .inr (4, [.int th, .ref aMT, .int (nI mu), .ref aNw, .ref aNx, .int mw, .int mwa, .int (nI ma_2), .int (nI en), .long mv_5, .int (nI (zK B en ma)), .int ml]))]) hD hS hA [1] rfl
        refine va_calli (va_runV (As := [.int 2, .int (nI (zK B en ma))]) (rest := []) ⟨hx, hb, hml, hown, hts⟩ (c_Md_fails l G dC dI H.size aM th aMT mu aNw aNx mw mwa ma_2 en mv_5 (nI (zK B en ma)) ml 2 (nI (zK B en ma))) (cwV 2 hts (gV tw_549 tw_551 ts_23 tw_5 tw_552 rfl) rfl rfl rfl (by decide +kernel) ⟨Nat.le_of_ble_eq_true rfl, Nat.le_of_ble_eq_true rfl⟩) (PW_preV hPc hKc hDc hE hS hFc (ci := 4) (q0 := 0) rfl rfl) rfl rfl hl.1 rfl (lv_room (Nat.le_of_ble_eq_true rfl)) d_Md_one_35 ⟨Nat.le_of_ble_eq_true rfl, Nat.le_of_ble_eq_true rfl⟩) hS (fun q _ h => hFc q h) hFc (fun r_11 uu t H1 locs ht hvm hw_14 hB hz1 hk1 hS => ?_)
        obtain ⟨mw_12, mwa_13⟩ := uu
        obtain ⟨hP1, hD1, hsz1⟩ := hB
        rw [ht] at hP1 hsz1
        obtain ⟨hP, hD⟩ := va_join (wr := [(aNx, .inl (kNx, 52650, .inl nx)), (aMT, .inl (kMT, 65536, .inl B))]) (w1 := [(aM, .inr (4, [.int th, .ref aMT, .int (nI mu), .ref aNw, .ref aNx, .int mw_12, .int mwa_13, .int (nI ma_2), .int (nI en), .long mv_5, .int (nI (zK B en ma)), .int ml]))]) hP hD [1] [0, 2] rfl rfl (by decide) (by decide) hk1 hFc hP1 hD1
        generalize H1 = H at hP hS ⊢
        have hP : va_P (dC, dI) vwCl [(aNx, .inl (kNx, 52650, .inl nx)), (aMT, .inl (kMT, 65536, .inl B)), (aM, .inr (4, [.int th, .ref aMT, .int (nI mu), .ref aNw, .ref aNx, .int mw_12, .int mwa_13, .int (nI ma_2), .int (nI en), .long mv_5, .int (nI (zK B en ma)), .int ml]))] H := hP
        have hD : va_D A [(aNx, .inl (kNx, 52650, .inl nx)), (aMT, .inl (kMT, 65536, .inl B)), (aM, .inr (4, [.int th, .ref aMT, .int (nI mu), .ref aNw, .ref aNx, .int mw_12, .int mwa_13, .int (nI ma_2), .int (nI en), .long mv_5, .int (nI (zK B en ma)), .int ml]))] := hD
        obtain ⟨e0, e1, e2⟩ := hw_14
        subst e0
        have e1 := e1.symm; subst e1
        have e2 := e2.symm; subst e2
        refine zt_size (fun hzs => ?_)
        have hP9 := hP.sub (ws' := [(aM, .inr (4, [.int th, .ref aMT, .int (nI mu), .ref aNw, .ref aNx, .int 2, .int (nI (zK B en ma)), .int (nI ma_2), .int (nI en), .long mv_5, .int (nI (zK B en ma)), .int ml])), (aMT, .inl (kMT, 65536, .inl B)), (aNx, .inl (kNx, 52650, .inl nx))]) [2, 1, 0] rfl
        have hD9 := hD.sub (ws' := [(aM, .inr (4, [.int th, .ref aMT, .int (nI mu), .ref aNw, .ref aNx, .int 2, .int (nI (zK B en ma)), .int (nI ma_2), .int (nI en), .long mv_5, .int (nI (zK B en ma)), .int ml])), (aMT, .inl (kMT, 65536, .inl B)), (aNx, .inl (kNx, 52650, .inl nx))]) [2, 1, 0] (by decide) rfl
        exact W.zret (v := 0) hx hb hr rfl (fun t ht hW => ⟨⟨0, (ma_2, 2, nI (zK B en ma), mv_5, nI (zK B en ma), nx), rfl, Or.inr ⟨rfl, by omega, _, by simp only [zRNum, zB_ok, hw_7a]; rw [if_pos (Or.inl ((zVal_lt hw_7v hlo1 hlo2).mp ((lg_cmp_lt _ _).mp c_10)))], rfl⟩, by rw [ht]; exact hP9, hD9, by rw [ht]; exact hzs⟩, hS.F ht⟩) hS.2.2 d_Md_one_38
      ·
        refine lv_aload_n hx hb d_Md_one_19 rfl (lv_at hl 0 rfl) ?_
        refine va_get (D := (dC, dI)) (ci := 4) (v := .long mv_5) (C := R_Md) (T := F_Md) (N := 12) hx hb hz i_Md hown hK hP 1 rfl rfl 9 (by decide) (hz _ tw_485) (fun _ h9 => h9) rfl d_Md_one_20 ?_
        refine lv_iload_n hx hb d_Md_one_23 rfl (lv_at hl 3 rfl) ?_
        refine lv_i2l (v := hi.toInt64) hx hb d_Md_one_24 rfl ?_
        refine W.lcmp hx hb d_Md_one_25 ?_
        refine lv_if_le (tgt := 39) hx hb d_Md_one_26 (by decide) (fun c_15 => ?_) (fun c_15 => ?_)
        ·
          refine lv_aload_n hx hb d_Md_one_39 rfl (lv_at hl 0 rfl) ?_
          refine va_get (D := (dC, dI)) (ci := 4) (v := .ref aNx) (C := R_Md) (T := F_Md) (N := 12) hx hb hz i_Md hown hK hP 1 rfl rfl 4 (by decide) (hz _ tw_480) (fun _ h9 => h9) rfl d_Md_one_40 ?_
          refine lv_iload_n hx hb d_Md_one_43 rfl (lv_at hl 1 rfl) ?_
          refine lv_aload_n hx hb d_Md_one_44 rfl (lv_at hl 0 rfl) ?_
          refine va_get (D := (dC, dI)) (ci := 4) (v := .long mv_5) (C := R_Md) (T := F_Md) (N := 12) hx hb hz i_Md hown hK hP 1 rfl rfl 9 (by decide) (hz _ tw_485) (fun _ h9 => h9) rfl d_Md_one_45 ?_
          refine lv_l2i (v := mv_5.toInt32) hx hb d_Md_one_48 rfl ?_
          refine va_iast (D := (dC, dI)) (i := nI pl) (x := mv_5.toInt32) hx hb hK hP hD hS 0 1 rfl rfl (vp_in_nI (by omega) (by decide)) d_Md_one_49 (fun H locs hP hD hS => ?_)
          rw [nI_clamp (by omega)] at hP hD
          have hP : va_P (dC, dI) vwCl [(aNx, .inl (kNx, 52650, .inl (upd nx pl mv_5.toInt32))), (aM, .inr (4, [.int th, .ref aMT, .int (nI mu), .ref aNw, .ref aNx, .int mw, .int mwa, .int (nI ma_2), .int (nI en), .long mv_5, .int (nI (zK B en ma)), .int ml])), (aMT, .inl (kMT, 65536, .inl B))] H := hP
          have hD : va_D A [(aNx, .inl (kNx, 52650, .inl (upd nx pl mv_5.toInt32))), (aM, .inr (4, [.int th, .ref aMT, .int (nI mu), .ref aNw, .ref aNx, .int mw, .int mwa, .int (nI ma_2), .int (nI en), .long mv_5, .int (nI (zK B en ma)), .int ml])), (aMT, .inl (kMT, 65536, .inl B))] := hD
          refine lv_iconst (v := 1) hx hb d_Md_one_50 (by decide) ?_
          refine zt_size (fun hzs => ?_)
          have hP9 := hP.sub (ws' := [(aM, .inr (4, [.int th, .ref aMT, .int (nI mu), .ref aNw, .ref aNx, .int mw, .int mwa, .int (nI ma_2), .int (nI en), .long mv_5, .int (nI (zK B en ma)), .int ml])), (aMT, .inl (kMT, 65536, .inl B)), (aNx, .inl (kNx, 52650, .inl (upd nx pl mv_5.toInt32)))]) [1, 2, 0] rfl
          have hD9 := hD.sub (ws' := [(aM, .inr (4, [.int th, .ref aMT, .int (nI mu), .ref aNw, .ref aNx, .int mw, .int mwa, .int (nI ma_2), .int (nI en), .long mv_5, .int (nI (zK B en ma)), .int ml])), (aMT, .inl (kMT, 65536, .inl B)), (aNx, .inl (kNx, 52650, .inl (upd nx pl mv_5.toInt32)))]) [1, 2, 0] (by decide) rfl
          exact W.zret (v := 1) hx hb hr rfl (fun t ht hW => ⟨⟨1, (ma_2, mw, mwa, mv_5, nI (zK B en ma), upd nx pl mv_5.toInt32), rfl, Or.inl ⟨rfl, by omega, rfl, rfl, vn_8, by simp only [zRNum, zB_ok, hw_7a]; rw [if_neg (fun z => z.elim (fun z => c_10 ((lg_cmp_lt _ _).mpr ((zVal_lt hw_7v hlo1 hlo2).mpr z))) (fun z => absurd c_15 (Int32.not_le.mpr ((lg_cmp_gt _ _).mpr ((zVal_gt hw_7v hhi1 hhi2).mpr z)))))], by rw [zVal_eq hw_7v hlo1 hhi2 (fun z => c_10 ((lg_cmp_lt _ _).mpr ((zVal_lt hw_7v hlo1 hlo2).mpr z))) (fun z => absurd c_15 (Int32.not_le.mpr ((lg_cmp_gt _ _).mpr ((zVal_gt hw_7v hhi1 hhi2).mpr z))))], rfl⟩, by rw [ht]; exact hP9, hD9, by rw [ht]; exact hzs⟩, hS.F ht⟩) hS.2.2 d_Md_one_51
        ·
          refine lv_aload_n hx hb d_Md_one_29 rfl (lv_at hl 0 rfl) ?_
          refine lv_iconst (v := 2) hx hb d_Md_one_30 (by decide) ?_
          refine lv_aload_n hx hb d_Md_one_31 rfl (lv_at hl 0 rfl) ?_
          refine va_get (D := (dC, dI)) (ci := 4) (v := .int (nI (zK B en ma))) (C := R_Md) (T := F_Md) (N := 12) hx hb hz i_Md hown hK hP 1 rfl rfl 10 (by decide) (hz _ tw_486) (fun _ h9 => h9) rfl d_Md_one_32 ?_
          have hPc := hP.sub (ws' := [(aM, .inr (4, [.int th, .ref aMT, .int (nI mu), .ref aNw, .ref aNx, .int mw, .int mwa, .int (nI ma_2), .int (nI en), .long mv_5, .int (nI (zK B en ma)), .int ml]))]) [1] rfl
          have hDc := hD.sub (ws' := [(aM, .inr (4, [.int th, .ref aMT, .int (nI mu), .ref aNw, .ref aNx, .int mw, .int mwa, .int (nI ma_2), .int (nI en), .long mv_5, .int (nI (zK B en ma)), .int ml]))]) [1] (by decide) rfl
          have hKc := hK.sub (tys' := []) [] rfl
          have hFc := va_free (wc := [(aM, .inr (4, [.int th, .ref aMT, .int (nI mu), .ref aNw, .ref aNx, .int mw, .int mwa, .int (nI ma_2), .int (nI en), .long mv_5, .int (nI (zK B en ma)), .int ml]))]) hD hS hA [1] rfl
          refine va_calli (va_runV (As := [.int 2, .int (nI (zK B en ma))]) (rest := []) ⟨hx, hb, hml, hown, hts⟩ (c_Md_fails l G dC dI H.size aM th aMT mu aNw aNx mw mwa ma_2 en mv_5 (nI (zK B en ma)) ml 2 (nI (zK B en ma))) (cwV 2 hts (gV tw_549 tw_551 ts_23 tw_5 tw_552 rfl) rfl rfl rfl (by decide +kernel) ⟨Nat.le_of_ble_eq_true rfl, Nat.le_of_ble_eq_true rfl⟩) (PW_preV hPc hKc hDc hE hS hFc (ci := 4) (q0 := 0) rfl rfl) rfl rfl hl.1 rfl (lv_room (Nat.le_of_ble_eq_true rfl)) d_Md_one_35 ⟨Nat.le_of_ble_eq_true rfl, Nat.le_of_ble_eq_true rfl⟩) hS (fun q _ h => hFc q h) hFc (fun r_16 uu t H1 locs ht hvm hw_19 hB hz1 hk1 hS => ?_)
          obtain ⟨mw_17, mwa_18⟩ := uu
          obtain ⟨hP1, hD1, hsz1⟩ := hB
          rw [ht] at hP1 hsz1
          obtain ⟨hP, hD⟩ := va_join (wr := [(aNx, .inl (kNx, 52650, .inl nx)), (aMT, .inl (kMT, 65536, .inl B))]) (w1 := [(aM, .inr (4, [.int th, .ref aMT, .int (nI mu), .ref aNw, .ref aNx, .int mw_17, .int mwa_18, .int (nI ma_2), .int (nI en), .long mv_5, .int (nI (zK B en ma)), .int ml]))]) hP hD [1] [0, 2] rfl rfl (by decide) (by decide) hk1 hFc hP1 hD1
          generalize H1 = H at hP hS ⊢
          have hP : va_P (dC, dI) vwCl [(aNx, .inl (kNx, 52650, .inl nx)), (aMT, .inl (kMT, 65536, .inl B)), (aM, .inr (4, [.int th, .ref aMT, .int (nI mu), .ref aNw, .ref aNx, .int mw_17, .int mwa_18, .int (nI ma_2), .int (nI en), .long mv_5, .int (nI (zK B en ma)), .int ml]))] H := hP
          have hD : va_D A [(aNx, .inl (kNx, 52650, .inl nx)), (aMT, .inl (kMT, 65536, .inl B)), (aM, .inr (4, [.int th, .ref aMT, .int (nI mu), .ref aNw, .ref aNx, .int mw_17, .int mwa_18, .int (nI ma_2), .int (nI en), .long mv_5, .int (nI (zK B en ma)), .int ml]))] := hD
          obtain ⟨e0, e1, e2⟩ := hw_19
          subst e0
          have e1 := e1.symm; subst e1
          have e2 := e2.symm; subst e2
          refine zt_size (fun hzs => ?_)
          have hP9 := hP.sub (ws' := [(aM, .inr (4, [.int th, .ref aMT, .int (nI mu), .ref aNw, .ref aNx, .int 2, .int (nI (zK B en ma)), .int (nI ma_2), .int (nI en), .long mv_5, .int (nI (zK B en ma)), .int ml])), (aMT, .inl (kMT, 65536, .inl B)), (aNx, .inl (kNx, 52650, .inl nx))]) [2, 1, 0] rfl
          have hD9 := hD.sub (ws' := [(aM, .inr (4, [.int th, .ref aMT, .int (nI mu), .ref aNw, .ref aNx, .int 2, .int (nI (zK B en ma)), .int (nI ma_2), .int (nI en), .long mv_5, .int (nI (zK B en ma)), .int ml])), (aMT, .inl (kMT, 65536, .inl B)), (aNx, .inl (kNx, 52650, .inl nx))]) [2, 1, 0] (by decide) rfl
          exact W.zret (v := 0) hx hb hr rfl (fun t ht hW => ⟨⟨0, (ma_2, 2, nI (zK B en ma), mv_5, nI (zK B en ma), nx), rfl, Or.inr ⟨rfl, by omega, _, by simp only [zRNum, zB_ok, hw_7a]; rw [if_pos (Or.inr ((zVal_gt hw_7v hhi1 hhi2).mp ((lg_cmp_gt _ _).mp (Int32.not_le.mp c_15))))], rfl⟩, by rw [ht]; exact hP9, hD9, by rw [ht]; exact hzs⟩, hS.F ht⟩) hS.2.2 d_Md_one_38
    ·
      exact absurd c_9 (by decide)
  ·
    have hw_7a := zNum_no hw_7d
    have e1 := e1.symm; subst e1
    have e2 := e2.symm; subst e2
    refine lv_if_ne (tgt := 9) hx hb d_Md_one_4 (by decide) (fun c_20 => ?_) (fun c_20 => ?_)
    ·
      exact absurd (by decide) c_20
    ·
      refine lv_iconst (v := 0) hx hb d_Md_one_7 (by decide) ?_
      refine zt_size (fun hzs => ?_)
      have hP9 := hP.sub (ws' := [(aM, .inr (4, [.int th, .ref aMT, .int (nI mu), .ref aNw, .ref aNx, .int 1, .int (nI (zK B en ma)), .int (nI ma_2), .int (nI en), .long mv_5, .int mf_6, .int ml])), (aMT, .inl (kMT, 65536, .inl B)), (aNx, .inl (kNx, 52650, .inl nx))]) [1, 2, 0] rfl
      have hD9 := hD.sub (ws' := [(aM, .inr (4, [.int th, .ref aMT, .int (nI mu), .ref aNw, .ref aNx, .int 1, .int (nI (zK B en ma)), .int (nI ma_2), .int (nI en), .long mv_5, .int mf_6, .int ml])), (aMT, .inl (kMT, 65536, .inl B)), (aNx, .inl (kNx, 52650, .inl nx))]) [1, 2, 0] (by decide) rfl
      exact W.zret (v := 0) hx hb hr rfl (fun t ht hW => ⟨⟨0, (ma_2, 1, nI (zK B en ma), mv_5, mf_6, nx), rfl, Or.inr ⟨rfl, by omega, _, by simp only [zRNum, zB_er, hw_7a], rfl⟩, by rw [ht]; exact hP9, hD9, by rw [ht]; exact hzs⟩, hS.F ht⟩) hS.2.2 d_Md_one_8
set_option maxHeartbeats 4000000 in
set_option maxRecDepth 100000 in
theorem c_Md_namedF (l : Launch) (G : ZG) (dC : Nat → ClassId) (dI : Nat → Nat → Nat) (sz : Nat) (aM : Nat) (th : Int32) (aMT : Nat) (mu : Nat) (aNw : Nat) (aNx : Nat) (mw : Int32) (mwa : Int32) (ma : Nat) (en : Nat) (mv : Int64) (mf : Int32) (ml : Int32) (kMT : ClassId) (B : Nat → Int32) (kNx : ClassId) (nx : Nat → Int32) (ks : Nat) (pl : Nat) (lo : Int32) (hi : Int32) (hen : en ≤ 65536) (hma : ma ≤ en) (hks1 : 1 ≤ ks) (hks : ks < 33) (hL : (zSb ks).length ≤ 17) (hpl : pl < 52650) (hlo1 : -100000000 < lo.toInt) (hlo2 : lo.toInt < 100000000) (hhi1 : -100000000 < hi.toInt) (hhi2 : hi.toInt < 100000000) : Met l y_Md_named w_Md_named ({ frames := 4, cells := 0, slots := 0, locals := 84 }) (va_Pc [.ref aM, .long (zWv ks), .int (nI pl), .int lo, .int hi] (PW G (dC, dI) [(kMT, .byte), (kNx, .int)] [(aM, .inr (4, [.int th, .ref aMT, .int (nI mu), .ref aNw, .ref aNx, .int mw, .int mwa, .int (nI ma), .int (nI en), .long mv, .int mf, .int ml])), (aMT, .inl (kMT, 65536, .inl B)), (aNx, .inl (kNx, 52650, .inl nx))] sz)) (va_Qi (fun (r : Int32) (uu : Nat × Int32 × Int32 × Int64 × Int32 × (Nat → Int32)) => (r = 1 ∧ uu.1 ≤ en ∧ uu.2.1 = mw ∧ uu.2.2.1 = mwa ∧ ∃ v, zB (zKey B en (zSb ks) (zK B en ma)) (zRNum B en lo hi) = .ok (v, zK B en uu.1) ∧ uu.2.2.2.2.2 = upd nx pl v ∧ ∃ h1, zKey B en (zSb ks) (zK B en ma) = .ok h1 ∧ uu.2.2.2.2.1 = nI h1) ∨ (r = 0 ∧ uu.1 ≤ en ∧ ∃ k, zB (zKey B en (zSb ks) (zK B en ma)) (zRNum B en lo hi) = .error (uu.2.1, k) ∧ uu.2.2.1 = nI k)) (fun (uu : Nat × Int32 × Int32 × Int64 × Int32 × (Nat → Int32)) t => BW (dC, dI) [(aM, .inr (4, [.int th, .ref aMT, .int (nI mu), .ref aNw, .ref aNx, .int uu.2.1, .int uu.2.2.1, .int (nI uu.1), .int (nI en), .long uu.2.2.2.1, .int uu.2.2.2.2.1, .int ml])), (aMT, .inl (kMT, 65536, .inl B)), (aNx, .inl (kNx, 52650, .inl uu.2.2.2.2.2))] (va_A [(aM, .inr (4, [.int th, .ref aMT, .int (nI mu), .ref aNw, .ref aNx, .int mw, .int mwa, .int (nI ma), .int (nI en), .long mv, .int mf, .int ml])), (aMT, .inl (kMT, 65536, .inl B)), (aNx, .inl (kNx, 52650, .inl nx))] sz) sz t) (va_A [(aM, .inr (4, [.int th, .ref aMT, .int (nI mu), .ref aNw, .ref aNx, .int mw, .int mwa, .int (nI ma), .int (nI en), .long mv, .int mf, .int ml])), (aMT, .inl (kMT, 65536, .inl B)), (aNx, .inl (kNx, 52650, .inl nx))] sz)) 0 0 (va_A [(aM, .inr (4, [.int th, .ref aMT, .int (nI mu), .ref aNw, .ref aNx, .int mw, .int mwa, .int (nI ma), .int (nI en), .long mv, .int mf, .int ml])), (aMT, .inl (kMT, 65536, .inl B)), (aNx, .inl (kNx, 52650, .inl nx))] sz) := by
  refine Met.ofW (cc := prog_6_method_17_code) (maxL := 6) (ret := (some .boolean)) (by decide) rfl ?_
  intro p e s m args below meth c s₁ Bd hml hv
  obtain ⟨rfl, hsz, hP, hK, hD0, hE⟩ := hv
  have hx := Bd.exec
  have hb := Bd.bytes
  have hr := Bd.returns
  have hts := atoms_spec (ws := w_Md_named) Bd.pre
  have hown : s.vm.findClass R_Md = some m.cls := findClass_of_methodNamed Bd.named
  have hlocks := Bd.notSynchronized
  have hz : ∀ w ∈ ZW, w.before _ s = true := fun w h => hts w (List.mem_cons_of_mem _ h)
  subst hsz
  have hD := hD0.self (sz := s.heap.size)
  generalize hAe : va_A [(aM, .inr (4, [.int th, .ref aMT, .int (nI mu), .ref aNw, .ref aNx, .int mw, .int mwa, .int (nI ma), .int (nI en), .long mv, .int mf, .int ml])), (aMT, .inl (kMT, 65536, .inl B)), (aNx, .inl (kNx, 52650, .inl nx))] s.heap.size = A at hD hE ⊢
  have hA : ∀ q : Nat, s.heap.size ≤ q → A q := fun q h => by rw [← hAe]; exact Or.inr h
  have hS : va_S A s.heap s.heap [] := va_S.rf
  have hl := lv_entry ([.ref aM, .long (zWv ks), .int (nI pl), .int lo, .int hi]) (n := 6) (Nat.le_of_ble_eq_true rfl)
  rw [lg_entry_eq]
  generalize (lg_sl ([.ref aM, .long (zWv ks), .int (nI pl), .int lo, .int hi]) ++ List.replicate (6 - (lg_sl ([.ref aM, .long (zWv ks), .int (nI pl), .int lo, .int hi])).length) Slot.unset).toArray = ls at hl ⊢
  have hl : lv_has ls 6 [(0, .ref aM), (1, .long (zWv ks)), (3, .int (nI pl)), (4, .int lo), (5, .int hi)] := hl
  obtain ⟨H, hH⟩ : ∃ z, z = s.heap := ⟨_, rfl⟩
  have hP : va_P (dC, dI) vwCl [(aM, .inr (4, [.int th, .ref aMT, .int (nI mu), .ref aNw, .ref aNx, .int mw, .int mwa, .int (nI ma), .int (nI en), .long mv, .int mf, .int ml])), (aMT, .inl (kMT, 65536, .inl B)), (aNx, .inl (kNx, 52650, .inl nx))] H := by rw [hH]; exact hP
  have hS : va_S A s.heap H [] := by rw [hH]; exact hS
  refine zt_heap hH ?_
  refine lv_aload_n hx hb d_Md_named_0 rfl (lv_at hl 0 rfl) ?_
  refine lv_lload_n hx hb d_Md_named_1 rfl (lv_at hl 1 rfl) ?_
  have hPc := hP.sub (ws' := [(aM, .inr (4, [.int th, .ref aMT, .int (nI mu), .ref aNw, .ref aNx, .int mw, .int mwa, .int (nI ma), .int (nI en), .long mv, .int mf, .int ml])), (aMT, .inl (kMT, 65536, .inl B))]) [0, 1] rfl
  have hDc := hD.sub (ws' := [(aM, .inr (4, [.int th, .ref aMT, .int (nI mu), .ref aNw, .ref aNx, .int mw, .int mwa, .int (nI ma), .int (nI en), .long mv, .int mf, .int ml])), (aMT, .inl (kMT, 65536, .inl B))]) [0, 1] (by decide) rfl
  have hKc := hK.sub (tys' := [(kMT, .byte)]) [0] rfl
  have hFc := va_free (wc := [(aM, .inr (4, [.int th, .ref aMT, .int (nI mu), .ref aNw, .ref aNx, .int mw, .int mwa, .int (nI ma), .int (nI en), .long mv, .int mf, .int ml])), (aMT, .inl (kMT, 65536, .inl B))]) hD hS hA [0, 1] rfl
  refine va_calli (va_runV (As := [.long (zWv ks)]) (rest := []) ⟨hx, hb, hml, hown, hts⟩ (c_Md_key l G dC dI H.size aM th aMT mu aNw aNx mw mwa ma en mv mf ml kMT B ks (by omega) (by omega) (by omega) (by omega) (by omega)) (cwV 1 hts (gV tw_577 tw_579 ts_27 tw_5 tw_580 rfl) rfl rfl rfl (by decide +kernel) ⟨Nat.le_of_ble_eq_true rfl, Nat.le_of_ble_eq_true rfl⟩) (PW_preV hPc hKc hDc hE hS hFc (ci := 4) (q0 := 0) rfl rfl) rfl rfl hl.1 rfl (lv_room (Nat.le_of_ble_eq_true rfl)) d_Md_named_2 ⟨Nat.le_of_ble_eq_true rfl, Nat.le_of_ble_eq_true rfl⟩) hS (fun q _ h => hFc q h) hFc (fun r_1 uu t H1 locs ht hvm hw_5 hB hz1 hk1 hS => ?_)
  obtain ⟨ma_2, mw_3, mwa_4⟩ := uu
  obtain ⟨hP1, hD1, hsz1⟩ := hB
  rw [ht] at hP1 hsz1
  obtain ⟨hP, hD⟩ := va_join (wr := [(aNx, .inl (kNx, 52650, .inl nx))]) (w1 := [(aM, .inr (4, [.int th, .ref aMT, .int (nI mu), .ref aNw, .ref aNx, .int mw_3, .int mwa_4, .int (nI ma_2), .int (nI en), .long mv, .int mf, .int ml])), (aMT, .inl (kMT, 65536, .inl B))]) hP hD [0, 1] [2] rfl rfl (by decide) (by decide) hk1 hFc hP1 hD1
  generalize H1 = H at hP hS ⊢
  have hP : va_P (dC, dI) vwCl [(aNx, .inl (kNx, 52650, .inl nx)), (aM, .inr (4, [.int th, .ref aMT, .int (nI mu), .ref aNw, .ref aNx, .int mw_3, .int mwa_4, .int (nI ma_2), .int (nI en), .long mv, .int mf, .int ml])), (aMT, .inl (kMT, 65536, .inl B))] H := hP
  have hD : va_D A [(aNx, .inl (kNx, 52650, .inl nx)), (aM, .inr (4, [.int th, .ref aMT, .int (nI mu), .ref aNw, .ref aNx, .int mw_3, .int mwa_4, .int (nI ma_2), .int (nI en), .long mv, .int mf, .int ml])), (aMT, .inl (kMT, 65536, .inl B))] := hD
  rcases hw_5 with ⟨rfl, hw_5a, hw_5b, e1, e2⟩ | ⟨rfl, hw_5b, hw_5k, hw_5a, e2⟩
  ·
    have e1 := e1.symm; subst e1
    have e2 := e2.symm; subst e2
    refine lv_if_eq (tgt := 24) hx hb d_Md_named_5 (by decide) (fun c_6 => ?_) (fun c_6 => ?_)
    ·
      exact absurd c_6 (by decide)
    ·
      refine lv_aload_n hx hb d_Md_named_8 rfl (lv_at hl 0 rfl) ?_
      refine lv_iload_n hx hb d_Md_named_9 rfl (lv_at hl 2 rfl) ?_
      refine lv_iload hx hb d_Md_named_10 (lv_at hl 3 rfl) ?_
      refine lv_iload hx hb d_Md_named_12 (lv_at hl 4 rfl) ?_
      have hPc := hP.sub (ws' := [(aM, .inr (4, [.int th, .ref aMT, .int (nI mu), .ref aNw, .ref aNx, .int mw, .int mwa, .int (nI ma_2), .int (nI en), .long mv, .int mf, .int ml])), (aMT, .inl (kMT, 65536, .inl B)), (aNx, .inl (kNx, 52650, .inl nx))]) [1, 2, 0] rfl
      have hDc := hD.sub (ws' := [(aM, .inr (4, [.int th, .ref aMT, .int (nI mu), .ref aNw, .ref aNx, .int mw, .int mwa, .int (nI ma_2), .int (nI en), .long mv, .int mf, .int ml])), (aMT, .inl (kMT, 65536, .inl B)), (aNx, .inl (kNx, 52650, .inl nx))]) [1, 2, 0] (by decide) rfl
      have hKc := hK.sub (tys' := [(kMT, .byte), (kNx, .int)]) [0, 1] rfl
      have hFc := va_free (wc := [(aM, .inr (4, [.int th, .ref aMT, .int (nI mu), .ref aNw, .ref aNx, .int mw, .int mwa, .int (nI ma_2), .int (nI en), .long mv, .int mf, .int ml])), (aMT, .inl (kMT, 65536, .inl B)), (aNx, .inl (kNx, 52650, .inl nx))]) hD hS hA [1, 2, 0] rfl
      refine va_calli (va_runV (As := [.int (nI pl), .int lo, .int hi]) (rest := []) ⟨hx, hb, hml, hown, hts⟩ (c_Md_oneF l G dC dI H.size aM th aMT mu aNw aNx mw mwa ma_2 en mv mf ml kMT B kNx nx pl lo hi (by omega) (by omega) (by omega) (by omega) (by omega) (by omega) (by omega)) (cwV 3 hts (gV tw_615 tw_617 ts_34 tw_5 tw_618 rfl) rfl rfl rfl (by decide +kernel) ⟨Nat.le_of_ble_eq_true rfl, Nat.le_of_ble_eq_true rfl⟩) (PW_preV hPc hKc hDc hE hS hFc (ci := 4) (q0 := 0) rfl rfl) rfl rfl hl.1 rfl (lv_room (Nat.le_of_ble_eq_true rfl)) d_Md_named_14 ⟨Nat.le_of_ble_eq_true rfl, Nat.le_of_ble_eq_true rfl⟩) hS (fun q _ h => hFc q h) hFc (fun r_7 uu t H1 locs ht hvm hw_14 hB hz1 hk1 hS => ?_)
      obtain ⟨ma_8, mw_9, mwa_10, mv_11, mf_12, nx_13⟩ := uu
      obtain ⟨hP1, hD1, hsz1⟩ := hB
      rw [ht] at hP1 hsz1
      obtain ⟨hP, hD⟩ := va_join (wr := []) (w1 := [(aM, .inr (4, [.int th, .ref aMT, .int (nI mu), .ref aNw, .ref aNx, .int mw_9, .int mwa_10, .int (nI ma_8), .int (nI en), .long mv_11, .int mf_12, .int ml])), (aMT, .inl (kMT, 65536, .inl B)), (aNx, .inl (kNx, 52650, .inl nx_13))]) hP hD [1, 2, 0] [] rfl rfl (by decide) (by decide) hk1 hFc hP1 hD1
      generalize H1 = H at hP hS ⊢
      have hP : va_P (dC, dI) vwCl [(aM, .inr (4, [.int th, .ref aMT, .int (nI mu), .ref aNw, .ref aNx, .int mw_9, .int mwa_10, .int (nI ma_8), .int (nI en), .long mv_11, .int mf_12, .int ml])), (aMT, .inl (kMT, 65536, .inl B)), (aNx, .inl (kNx, 52650, .inl nx_13))] H := hP
      have hD : va_D A [(aM, .inr (4, [.int th, .ref aMT, .int (nI mu), .ref aNw, .ref aNx, .int mw_9, .int mwa_10, .int (nI ma_8), .int (nI en), .long mv_11, .int mf_12, .int ml])), (aMT, .inl (kMT, 65536, .inl B)), (aNx, .inl (kNx, 52650, .inl nx_13))] := hD
      rcases hw_14 with ⟨rfl, hw_14b, e1, e2, hw_14v, hw_14a, e3, e4⟩ | ⟨rfl, hw_14b, hw_14k, hw_14a, e2⟩
      ·
        have e1 := e1.symm; subst e1
        have e2 := e2.symm; subst e2
        have e3 := e3.symm; subst e3
        have e4 := e4.symm; subst e4
        refine lv_if_eq (tgt := 24) hx hb d_Md_named_17 (by decide) (fun c_15 => ?_) (fun c_15 => ?_)
        ·
          exact absurd c_15 (by decide)
        ·
          refine lv_iconst (v := 1) hx hb d_Md_named_20 (by decide) ?_
          refine lv_goto (tgt := 25) hx hb d_Md_named_21 (by decide) ?_
          refine zt_size (fun hzs => ?_)
          have hP9 := hP.sub (ws' := [(aM, .inr (4, [.int th, .ref aMT, .int (nI mu), .ref aNw, .ref aNx, .int mw, .int mwa, .int (nI ma_8), .int (nI en), .long mv_11, .int (nI (zK B en ma_2)), .int ml])), (aMT, .inl (kMT, 65536, .inl B)), (aNx, .inl (kNx, 52650, .inl (upd nx pl hw_14v)))]) [0, 1, 2] rfl
          have hD9 := hD.sub (ws' := [(aM, .inr (4, [.int th, .ref aMT, .int (nI mu), .ref aNw, .ref aNx, .int mw, .int mwa, .int (nI ma_8), .int (nI en), .long mv_11, .int (nI (zK B en ma_2)), .int ml])), (aMT, .inl (kMT, 65536, .inl B)), (aNx, .inl (kNx, 52650, .inl (upd nx pl hw_14v)))]) [0, 1, 2] (by decide) rfl
          exact W.zret (v := 1) hx hb hr rfl (fun t ht hW => ⟨⟨1, (ma_8, mw, mwa, mv_11, nI (zK B en ma_2), upd nx pl hw_14v), rfl, Or.inl ⟨rfl, by omega, rfl, rfl, hw_14v, by simp only [zB_ok, hw_5a, hw_14a], rfl, _, hw_5a, rfl⟩, by rw [ht]; exact hP9, hD9, by rw [ht]; exact hzs⟩, hS.F ht⟩) hS.2.2 d_Md_named_25
      ·
        have e2 := e2.symm; subst e2
        refine lv_if_eq (tgt := 24) hx hb d_Md_named_17 (by decide) (fun c_16 => ?_) (fun c_16 => ?_)
        ·
          refine lv_iconst (v := 0) hx hb d_Md_named_24 (by decide) ?_
          refine zt_size (fun hzs => ?_)
          have hP9 := hP.sub (ws' := [(aM, .inr (4, [.int th, .ref aMT, .int (nI mu), .ref aNw, .ref aNx, .int mw_9, .int (nI hw_14k), .int (nI ma_8), .int (nI en), .long mv_11, .int mf_12, .int ml])), (aMT, .inl (kMT, 65536, .inl B)), (aNx, .inl (kNx, 52650, .inl nx_13))]) [0, 1, 2] rfl
          have hD9 := hD.sub (ws' := [(aM, .inr (4, [.int th, .ref aMT, .int (nI mu), .ref aNw, .ref aNx, .int mw_9, .int (nI hw_14k), .int (nI ma_8), .int (nI en), .long mv_11, .int mf_12, .int ml])), (aMT, .inl (kMT, 65536, .inl B)), (aNx, .inl (kNx, 52650, .inl nx_13))]) [0, 1, 2] (by decide) rfl
          exact W.zret (v := 0) hx hb hr rfl (fun t ht hW => ⟨⟨0, (ma_8, mw_9, nI hw_14k, mv_11, mf_12, nx_13), rfl, Or.inr ⟨rfl, by omega, _, by simp only [zB_ok, zB_er, hw_5a, hw_14a], rfl⟩, by rw [ht]; exact hP9, hD9, by rw [ht]; exact hzs⟩, hS.F ht⟩) hS.2.2 d_Md_named_25
        ·
          exact absurd (by decide) c_16
  ·
    have e2 := e2.symm; subst e2
    refine lv_if_eq (tgt := 24) hx hb d_Md_named_5 (by decide) (fun c_17 => ?_) (fun c_17 => ?_)
    ·
      refine lv_iconst (v := 0) hx hb d_Md_named_24 (by decide) ?_
      refine zt_size (fun hzs => ?_)
      have hP9 := hP.sub (ws' := [(aM, .inr (4, [.int th, .ref aMT, .int (nI mu), .ref aNw, .ref aNx, .int mw_3, .int (nI hw_5k), .int (nI ma_2), .int (nI en), .long mv, .int mf, .int ml])), (aMT, .inl (kMT, 65536, .inl B)), (aNx, .inl (kNx, 52650, .inl nx))]) [1, 2, 0] rfl
      have hD9 := hD.sub (ws' := [(aM, .inr (4, [.int th, .ref aMT, .int (nI mu), .ref aNw, .ref aNx, .int mw_3, .int (nI hw_5k), .int (nI ma_2), .int (nI en), .long mv, .int mf, .int ml])), (aMT, .inl (kMT, 65536, .inl B)), (aNx, .inl (kNx, 52650, .inl nx))]) [1, 2, 0] (by decide) rfl
      exact W.zret (v := 0) hx hb hr rfl (fun t ht hW => ⟨⟨0, (ma_2, mw_3, nI hw_5k, mv, mf, nx), rfl, Or.inr ⟨rfl, by omega, _, by simp only [zB_ok, zB_er, hw_5a], rfl⟩, by rw [ht]; exact hP9, hD9, by rw [ht]; exact hzs⟩, hS.F ht⟩) hS.2.2 d_Md_named_25
    ·
      exact absurd (by decide) c_17
theorem zpow1 : ∀ sd, sd < 33 → (nI sd = 1 ∨ nI sd = 2 ∨ nI sd = 4 ∨ nI sd = 8 ∨ nI sd = 16 ∨ nI sd = 32) → nI sd &&& (nI sd - 1) = 0 := by decide +kernel
theorem zpow2 : ∀ sd, sd < 33 → 1 ≤ sd → nI sd &&& (nI sd - 1) = 0 → (nI sd = 1 ∨ nI sd = 2 ∨ nI sd = 4 ∨ nI sd = 8 ∨ nI sd = 16 ∨ nI sd = 32) := by decide +kernel
def mTexture (B : Nat → Int32) (en kk : Nat) (s : Nat × (Nat → Int32)) : Except (Int32 × Nat) (Nat × (Nat → Int32)) := zB (zKey B en (zSb 13) s.1) fun h0 => zB (zRNum B en 1 32 h0) fun v => if v.1 &&& (v.1 - 1) = 0 then zB (zMust B en 44 v.2) fun h1 =>  zB (mNumK B en (zSb 14) (8 + 3080 * kk + 1) 0 2 (h1, upd s.2 (8 + 3080 * kk) v.1)) fun a => zB (zMust B en 44 a.2.1) fun h2 =>  zB (mNumK B en (zSb 15) (8 + 3080 * kk + 2) 0 1 (h2, a.2.2)) fun b => zB (zMust B en 44 b.2.1) fun h3 =>  zB (mListK B en (zSb 16) false false (3 * v.1.toNatClampNeg * v.1.toNatClampNeg) (3 * v.1.toNatClampNeg * v.1.toNatClampNeg) (8 + 3080 * kk + 8) 0 255 (h3, b.2.2)) fun d => .ok d.2 else .error (2, h0)
