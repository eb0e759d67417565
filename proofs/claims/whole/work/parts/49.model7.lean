set_option maxHeartbeats 4000000 in
set_option maxRecDepth 100000 in
theorem lp_Md_list (l : Launch) (G : ZG) (dC : Nat → ClassId) (dI : Nat → Nat → Nat) (aM : Nat) (th : Int32) (aMT : Nat) (mu : Nat) (aNw : Nat) (aNx : Nat) (mw : Int32) (mwa : Int32) (ma : Nat) (en : Nat) (mv : Int64) (mf : Int32) (ml : Int32) (kMT : ClassId) (B : Nat → Int32) (kNx : ClassId) (nx : Nat → Int32) (ks : Nat) (pl : Nat) (le : Nat) (mo : Nat) (wl : Nat) (low : Int32) (hig : Int32) (gi : Int32) (hen : en ≤ 65536) (hma : ma ≤ en) (hks1 : 1 ≤ ks) (hks : ks < 33) (hL : (zSb ks).length ≤ 17) (hle : le ≤ 3072) (hmo : mo ≤ 3072) (hpl : pl + mo ≤ 52650) (hwl : wl = 1 ∨ wl = 3) (hgi : gi = 0 ∨ gi = 1) (hlo1 : -100000000 < low.toInt) (hlo2 : low.toInt < 100000000) (hhi1 : -100000000 < hig.toInt) (hhi2 : hig.toInt < 100000000) {p : Program} {e : Env} {s : State} {m : MethodId} {args : Array Value} {below : List Frame} {meth : Method} {c : Code} {A : Nat → Prop} (C0 : zC p s m args meth c prog_6_method_18_code 12 (some .boolean) R_Md w_Md_list) (hA : ∀ q : Nat, s.heap.size ≤ q → A q) (hK : va_K (dC, dI) vwCl [(kMT, .byte), (kNx, .int)] s) (hE : zE G A s s.heap) : ∀ (n : Nat) (j : Nat) (ma2 : Nat) (mv2 : Int64) (mf2 : Int32) (lw : Int32) (nx2 : Nat → Int32), (j ≤ mo) → (mo + 1 ≤ j + n) → (ma2 ≤ en) → (j = 0 ∨ decide (gi = 1) = false → lw = low) → (¬ j = 0 → decide (gi = 1) = true → lw = nx2 (pl + (j - 1)) + 1 ∧ ¬ nx2 (pl + (j - 1)) < low ∧ ¬ hig < nx2 (pl + (j - 1))) → ((zB (zKey B en (zSb ks) (zK B en ma)) fun h1 => zList B en (decide (gi = 1)) (decide (wl = 3)) le mo pl low hig h1 nx) = zB (zLst B en (decide (gi = 1)) mo pl low hig (mo + 1 - j) j lw (zK B en ma2) nx2) (zTail B en (decide (wl = 3)) le)) → ∀ (H : Heap) (locs : List Loc), va_P (dC, dI) vwCl [(aM, .inr (4, [.int th, .ref aMT, .int (nI mu), .ref aNw, .ref aNx, .int mw, .int mwa, .int (nI ma2), .int (nI en), .long mv2, .int mf2, .int ml])), (aMT, .inl (kMT, 65536, .inl B)), (aNx, .inl (kNx, 52650, .inl nx2))] H → va_D A [(aM, .inr (4, [.int th, .ref aMT, .int (nI mu), .ref aNw, .ref aNx, .int mw, .int mwa, .int (nI ma2), .int (nI en), .long mv2, .int mf2, .int ml])), (aMT, .inl (kMT, 65536, .inl B)), (aNx, .inl (kNx, 52650, .inl nx2))] → va_S A s.heap H locs → ∀ (ls : Array Slot), lv_has ls 12 [(0, .ref aM), (1, .long (zWv ks)), (3, .int (nI pl)), (4, .int (nI le)), (5, .int (nI mo)), (6, .int (nI wl)), (7, .int low), (8, .int hig), (9, .int gi), (10, .int (nI j))] → W p l e ({ frames := 4, cells := 0, slots := 0, locals := 84 }) s m args below meth c H locs 0 0 (MQ below (va_Qi (fun (r : Int32) (uu : Nat × Int32 × Int32 × Int64 × Int32 × (Nat → Int32) × Int32) => (r = 1 ∧ uu.1 ≤ en ∧ uu.2.1 = mw ∧ uu.2.2.1 = mwa ∧ ∃ n, (zB (zKey B en (zSb ks) (zK B en ma)) fun h1 => zList B en (decide (gi = 1)) (decide (wl = 3)) le mo pl low hig h1 nx) = .ok (n, zK B en uu.1, uu.2.2.2.2.2.1) ∧ uu.2.2.2.2.2.2 = nI n) ∨ (r = 0 ∧ uu.1 ≤ en ∧ ∃ k, (zB (zKey B en (zSb ks) (zK B en ma)) fun h1 => zList B en (decide (gi = 1)) (decide (wl = 3)) le mo pl low hig h1 nx) = .error (uu.2.1, k) ∧ uu.2.2.1 = nI k)) (fun (uu : Nat × Int32 × Int32 × Int64 × Int32 × (Nat → Int32) × Int32) t => BW (dC, dI) [(aM, .inr (4, [.int th, .ref aMT, .int (nI mu), .ref aNw, .ref aNx, .int uu.2.1, .int uu.2.2.1, .int (nI uu.1), .int (nI en), .long uu.2.2.2.1, .int uu.2.2.2.2.1, .int uu.2.2.2.2.2.2])), (aMT, .inl (kMT, 65536, .inl B)), (aNx, .inl (kNx, 52650, .inl uu.2.2.2.2.2.1))] A s.heap.size t) A) args s 0 0 A) (F0 m 43 ls []) := by
  obtain ⟨hx, hb, hr, hml, hown, hts, hlocks⟩ := C0
  have hz : ∀ w ∈ ZW, w.before _ s = true := fun w h => hts w (List.mem_cons_of_mem _ h)
  intro n
  induction n with
  | zero =>
    intro j ma2 mv2 mf2 lw nx2 hj hn hm2 hlw0 hlw1 hI H locs hP hD hS ls hl
    exact absurd hn (by omega)
  | succ n ih =>
    intro j ma2 mv2 mf2 lw nx2 hj hn hm2 hlw0 hlw1 hI H locs hP hD hS ls hl
    refine lv_aload_n hx hb d_Md_list_43 rfl (lv_at hl 0 rfl) ?_
    have hPc := hP.sub (ws' := [(aM, .inr (4, [.int th, .ref aMT, .int (nI mu), .ref aNw, .ref aNx, .int mw, .int mwa, .int (nI ma2), .int (nI en), .long mv2, .int mf2, .int ml])), (aMT, .inl (kMT, 65536, .inl B))]) [0, 1] rfl
    have hDc := hD.sub (ws' := [(aM, .inr (4, [.int th, .ref aMT, .int (nI mu), .ref aNw, .ref aNx, .int mw, .int mwa, .int (nI ma2), .int (nI en), .long mv2, .int mf2, .int ml])), (aMT, .inl (kMT, 65536, .inl B))]) [0, 1] (by decide) rfl
    have hKc := hK.sub (tys' := [(kMT, .byte)]) [0] rfl
    have hFc := va_free (wc := [(aM, .inr (4, [.int th, .ref aMT, .int (nI mu), .ref aNw, .ref aNx, .int mw, .int mwa, .int (nI ma2), .int (nI en), .long mv2, .int mf2, .int ml])), (aMT, .inl (kMT, 65536, .inl B))]) hD hS hA [0, 1] rfl
    refine va_calli (va_runV (As := []) (rest := []) ⟨hx, hb, hml, hown, hts⟩ (c_Md_number l G dC dI H.size aM th aMT mu aNw aNx mw mwa ma2 en mv2 mf2 ml kMT B (by omega) (by omega)) (cwV 0 hts (gV tw_596 tw_598 ts_31 tw_5 tw_599 rfl) rfl rfl rfl (by decide +kernel) ⟨Nat.le_of_ble_eq_true rfl, Nat.le_of_ble_eq_true rfl⟩) (PW_preV hPc hKc hDc hE hS hFc (ci := 4) (q0 := 0) rfl rfl) rfl rfl hl.1 rfl (lv_room (Nat.le_of_ble_eq_true rfl)) d_Md_list_44 ⟨Nat.le_of_ble_eq_true rfl, Nat.le_of_ble_eq_true rfl⟩) hS (fun q _ h => hFc q h) hFc (fun r_1 uu t H1 locs ht hvm hw_7 hB hz1 hk1 hS => ?_)
    obtain ⟨ma_2, mw_3, mwa_4, mv_5, mf_6⟩ := uu
    obtain ⟨hP1, hD1, hsz1⟩ := hB
    rw [ht] at hP1 hsz1
    obtain ⟨hP, hD⟩ := va_join (wr := [(aNx, .inl (kNx, 52650, .inl nx2))]) (w1 := [(aM, .inr (4, [.int th, .ref aMT, .int (nI mu), .ref aNw, .ref aNx, .int mw_3, .int mwa_4, .int (nI ma_2), .int (nI en), .long mv_5, .int mf_6, .int ml])), (aMT, .inl (kMT, 65536, .inl B))]) hP hD [0, 1] [2] rfl rfl (by decide) (by decide) hk1 hFc hP1 hD1
    generalize H1 = H at hP hS ⊢
    have hP : va_P (dC, dI) vwCl [(aNx, .inl (kNx, 52650, .inl nx2)), (aM, .inr (4, [.int th, .ref aMT, .int (nI mu), .ref aNw, .ref aNx, .int mw_3, .int mwa_4, .int (nI ma_2), .int (nI en), .long mv_5, .int mf_6, .int ml])), (aMT, .inl (kMT, 65536, .inl B))] H := hP
    have hD : va_D A [(aNx, .inl (kNx, 52650, .inl nx2)), (aM, .inr (4, [.int th, .ref aMT, .int (nI mu), .ref aNw, .ref aNx, .int mw_3, .int mwa_4, .int (nI ma_2), .int (nI en), .long mv_5, .int mf_6, .int ml])), (aMT, .inl (kMT, 65536, .inl B))] := hD
    have hw_7h := zK_le (B := B) (en := en) (i := ma2) (by omega)
    rcases hw_7 with ⟨rfl, hw_7d, ea, hw_7b, ev, ef, e1, e2⟩ | ⟨rfl, hw_7d, hw_7b, e1, e2⟩
    ·
      obtain ⟨vn_8, hw_7a, hw_7v⟩ := zNum_ok (by omega) hw_7d
      rw [← ea] at hw_7a
      rw [← ev] at hw_7v
      have ef := ef.symm; subst ef
      have e1 := e1.symm; subst e1
      have e2 := e2.symm; subst e2
      refine lv_if_ne (tgt := 52) hx hb d_Md_list_47 (by decide) (fun c_9 => ?_) (fun c_9 => ?_)
      ·
        refine lv_iload hx hb d_Md_list_52 (lv_at hl 9 rfl) ?_
        refine lv_iload hx hb d_Md_list_54 (lv_at hl 4 rfl) ?_
        refine lv_icmp_ne (tgt := 69) hx hb d_Md_list_56 (by decide) (fun c_10 => ?_) (fun c_10 => ?_)
        ·
          have c_10 : ¬ (j = mo) := fun z => c_10 ((@nI_eq j mo (by omega) (by omega)).mpr z)
          refine lv_aload_n hx hb d_Md_list_69 rfl (lv_at hl 0 rfl) ?_
          refine va_get (D := (dC, dI)) (ci := 4) (v := .long mv_5) (C := R_Md) (T := F_Md) (N := 12) hx hb hz i_Md hown hK hP 1 rfl rfl 9 (by decide) (hz _ tw_485) (fun _ h9 => h9) rfl d_Md_list_70 ?_
          refine lv_iload hx hb d_Md_list_73 (lv_at hl 6 rfl) ?_
          refine lv_i2l (v := low.toInt64) hx hb d_Md_list_75 rfl ?_
          refine W.lcmp hx hb d_Md_list_76 ?_
          refine lv_if_lt (tgt := 121) hx hb d_Md_list_77 (by decide) (fun c_11 => ?_) (fun c_11 => ?_)
          ·
            refine lv_aload_n hx hb d_Md_list_121 rfl (lv_at hl 0 rfl) ?_
            refine lv_iconst (v := 2) hx hb d_Md_list_122 (by decide) ?_
            refine lv_aload_n hx hb d_Md_list_123 rfl (lv_at hl 0 rfl) ?_
            refine va_get (D := (dC, dI)) (ci := 4) (v := .int (nI (zK B en ma2))) (C := R_Md) (T := F_Md) (N := 12) hx hb hz i_Md hown hK hP 1 rfl rfl 10 (by decide) (hz _ tw_486) (fun _ h9 => h9) rfl d_Md_list_124 ?_
            have hPc := hP.sub (ws' := [(aM, .inr (4, [.int th, .ref aMT, .int (nI mu), .ref aNw, .ref aNx, .int mw, .int mwa, .int (nI ma_2), .int (nI en), .long mv_5, .int (nI (zK B en ma2)), .int ml]))]) [1] rfl
            have hDc := hD.sub (ws' := [(aM, .inr (4, [.int th, .ref aMT, .int (nI mu), .ref aNw, .ref aNx, .int mw, .int mwa, .int (nI ma_2), .int (nI en), .long mv_5, .int (nI (zK B en ma2)), .int ml]))]) [1] (by decide) rfl
            have hKc := hK.sub (tys' := []) [] rfl
            have hFc := va_free (wc := [(aM, .inr (4, [.int th, .ref aMT, .int (nI mu), .ref aNw, .ref aNx, .int mw, .int mwa, .int (nI ma_2), .int (nI en), .long mv_5, .int (nI (zK B en ma2)), .int ml]))]) hD hS hA [1] rfl
            refine va_calli (va_runV (As := [.int 2, .int (nI (zK B en ma2))]) (rest := []) ⟨hx, hb, hml, hown, hts⟩ (c_Md_fails l G dC dI H.size aM th aMT mu aNw aNx mw mwa ma_2 en mv_5 (nI (zK B en ma2)) ml 2 (nI (zK B en ma2))) (cwV 2 hts (gV tw_549 tw_551 ts_23 tw_5 tw_552 rfl) rfl rfl rfl (by decide +kernel) ⟨Nat.le_of_ble_eq_true rfl, Nat.le_of_ble_eq_true rfl⟩) (PW_preV hPc hKc hDc hE hS hFc (ci := 4) (q0 := 0) rfl rfl) rfl rfl hl.1 rfl (lv_room (Nat.le_of_ble_eq_true rfl)) d_Md_list_127 ⟨Nat.le_of_ble_eq_true rfl, Nat.le_of_ble_eq_true rfl⟩) hS (fun q _ h => hFc q h) hFc (fun r_12 uu t H1 locs ht hvm hw_15 hB hz1 hk1 hS => ?_)
            obtain ⟨mw_13, mwa_14⟩ := uu
            obtain ⟨hP1, hD1, hsz1⟩ := hB
            rw [ht] at hP1 hsz1
            obtain ⟨hP, hD⟩ := va_join (wr := [(aNx, .inl (kNx, 52650, .inl nx2)), (aMT, .inl (kMT, 65536, .inl B))]) (w1 := [(aM, .inr (4, [.int th, .ref aMT, .int (nI mu), .ref aNw, .ref aNx, .int mw_13, .int mwa_14, .int (nI ma_2), .int (nI en), .long mv_5, .int (nI (zK B en ma2)), .int ml]))]) hP hD [1] [0, 2] rfl rfl (by decide) (by decide) hk1 hFc hP1 hD1
            generalize H1 = H at hP hS ⊢
            have hP : va_P (dC, dI) vwCl [(aNx, .inl (kNx, 52650, .inl nx2)), (aMT, .inl (kMT, 65536, .inl B)), (aM, .inr (4, [.int th, .ref aMT, .int (nI mu), .ref aNw, .ref aNx, .int mw_13, .int mwa_14, .int (nI ma_2), .int (nI en), .long mv_5, .int (nI (zK B en ma2)), .int ml]))] H := hP
            have hD : va_D A [(aNx, .inl (kNx, 52650, .inl nx2)), (aMT, .inl (kMT, 65536, .inl B)), (aM, .inr (4, [.int th, .ref aMT, .int (nI mu), .ref aNw, .ref aNx, .int mw_13, .int mwa_14, .int (nI ma_2), .int (nI en), .long mv_5, .int (nI (zK B en ma2)), .int ml]))] := hD
            obtain ⟨e0, e1, e2⟩ := hw_15
            subst e0
            have e1 := e1.symm; subst e1
            have e2 := e2.symm; subst e2
            refine zt_size (fun hzs => ?_)
            have hP9 := hP.sub (ws' := [(aM, .inr (4, [.int th, .ref aMT, .int (nI mu), .ref aNw, .ref aNx, .int 2, .int (nI (zK B en ma2)), .int (nI ma_2), .int (nI en), .long mv_5, .int (nI (zK B en ma2)), .int ml])), (aMT, .inl (kMT, 65536, .inl B)), (aNx, .inl (kNx, 52650, .inl nx2))]) [2, 1, 0] rfl
            have hD9 := hD.sub (ws' := [(aM, .inr (4, [.int th, .ref aMT, .int (nI mu), .ref aNw, .ref aNx, .int 2, .int (nI (zK B en ma2)), .int (nI ma_2), .int (nI en), .long mv_5, .int (nI (zK B en ma2)), .int ml])), (aMT, .inl (kMT, 65536, .inl B)), (aNx, .inl (kNx, 52650, .inl nx2))]) [2, 1, 0] (by decide) rfl
            exact W.zret (v := 0) hx hb hr rfl (fun t ht hW => ⟨⟨0, (ma_2, 2, nI (zK B en ma2), mv_5, nI (zK B en ma2), nx2, ml), rfl, Or.inr ⟨rfl, by omega, _, by rw [hI, zLst_step (by omega), hw_7a, zB_ok, if_neg c_10, if_pos ((zgrow hlw0 hlw1 hhi2 hlo1).mpr (Or.inl ((zVal_lt hw_7v hlo1 hlo2).mp ((lg_cmp_lt _ _).mp c_11)))), zB_er], rfl⟩, by rw [ht]; exact hP9, hD9, by rw [ht]; exact hzs⟩, hS.F ht⟩) hS.2.2 d_Md_list_130
          ·
            refine lv_aload_n hx hb d_Md_list_80 rfl (lv_at hl 0 rfl) ?_
            refine va_get (D := (dC, dI)) (ci := 4) (v := .long mv_5) (C := R_Md) (T := F_Md) (N := 12) hx hb hz i_Md hown hK hP 1 rfl rfl 9 (by decide) (hz _ tw_485) (fun _ h9 => h9) rfl d_Md_list_81 ?_
            refine lv_iload hx hb d_Md_list_84 (lv_at hl 7 rfl) ?_
            refine lv_i2l (v := hig.toInt64) hx hb d_Md_list_86 rfl ?_
            refine W.lcmp hx hb d_Md_list_87 ?_
            refine lv_if_gt (tgt := 121) hx hb d_Md_list_88 (by decide) (fun c_16 => ?_) (fun c_16 => ?_)
            ·
              refine lv_aload_n hx hb d_Md_list_121 rfl (lv_at hl 0 rfl) ?_
              refine lv_iconst (v := 2) hx hb d_Md_list_122 (by decide) ?_
              refine lv_aload_n hx hb d_Md_list_123 rfl (lv_at hl 0 rfl) ?_
              refine va_get (D := (dC, dI)) (ci := 4) (v := .int (nI (zK B en ma2))) (C := R_Md) (T := F_Md) (N := 12) hx hb hz i_Md hown hK hP 1 rfl rfl 10 (by decide) (hz _ tw_486) (fun _ h9 => h9) rfl d_Md_list_124 ?_
              have hPc := hP.sub (ws' := [(aM, .inr (4, [.int th, .ref aMT, .int (nI mu), .ref aNw, .ref aNx, .int mw, .int mwa, .int (nI ma_2), .int (nI en), .long mv_5, .int (nI (zK B en ma2)), .int ml]))]) [1] rfl
              have hDc := hD.sub (ws' := [(aM, .inr (4, [.int th, .ref aMT, .int (nI mu), .ref aNw, .ref aNx, .int mw, .int mwa, .int (nI ma_2), .int (nI en), .long mv_5, .int (nI (zK B en ma2)), .int ml]))]) [1] (by decide) rfl
              have hKc := hK.sub (tys' := []) [] rfl
              have hFc := va_free (wc := [(aM, .inr (4, [.int th, .ref aMT, .int (nI mu), .ref aNw, .ref aNx, .int mw, .int mwa, .int (nI ma_2), .int (nI en), .long mv_5, .int (nI (zK B en ma2)), .int ml]))]) hD hS hA [1] rfl
              refine va_calli (va_runV (As := [.int 2, .int (nI (zK B en ma2))]) (rest := []) ⟨hx, hb, hml, hown, hts⟩ (c_Md_fails l G dC dI H.size aM th aMT mu aNw aNx mw mwa ma_2 en mv_5 (nI (zK B en ma2)) ml 2 (nI (zK B en ma2))) (cwV 2 hts (gV tw_549 tw_551 ts_23 tw_5 tw_552 rfl) rfl rfl rfl (by decide +kernel) ⟨Nat.le_of_ble_eq_true rfl, Nat.le_of_ble_eq_true rfl⟩) (PW_preV hPc hKc hDc hE hS hFc (ci := 4) (q0 := 0) rfl rfl) rfl rfl hl.1 rfl (lv_room (Nat.le_of_ble_eq_true rfl)) d_Md_list_127 ⟨Nat.le_of_ble_eq_true rfl, Nat.le_of_ble_eq_true rfl⟩) hS (fun q _ h => hFc q h) hFc (fun r_17 uu t H1 locs ht hvm hw_20 hB hz1 hk1 hS => ?_)
              obtain ⟨mw_18, mwa_19⟩ := uu
              obtain ⟨hP1, hD1, hsz1⟩ := hB
              rw [ht] at hP1 hsz1
              obtain ⟨hP, hD⟩ := va_join (wr := [(aNx, .inl (kNx, 52650, .inl nx2)), (aMT, .inl (kMT, 65536, .inl B))]) (w1 := [(aM, .inr (4, [.int th, .ref aMT, .int (nI mu), .ref aNw, .ref aNx, .int mw_18, .int mwa_19, .int (nI ma_2), .int (nI en), .long mv_5, .int (nI (zK B en ma2)), .int ml]))]) hP hD [1] [0, 2] rfl rfl (by decide) (by decide) hk1 hFc hP1 hD1
              generalize H1 = H at hP hS ⊢
              have hP : va_P (dC, dI) vwCl [(aNx, .inl (kNx, 52650, .inl nx2)), (aMT, .inl (kMT, 65536, .inl B)), (aM, .inr (4, [.int th, .ref aMT, .int (nI mu), .ref aNw, .ref aNx, .int mw_18, .int mwa_19, .int (nI ma_2), .int (nI en), .long mv_5, .int (nI (zK B en ma2)), .int ml]))] H := hP
              have hD : va_D A [(aNx, .inl (kNx, 52650, .inl nx2)), (aMT, .inl (kMT, 65536, .inl B)), (aM, .inr (4, [.int th, .ref aMT, .int (nI mu), .ref aNw, .ref aNx, .int mw_18, .int mwa_19, .int (nI ma_2), .int (nI en), .long mv_5, .int (nI (zK B en ma2)), .int ml]))] := hD
              obtain ⟨e0, e1, e2⟩ := hw_20
              subst e0
              have e1 := e1.symm; subst e1
              have e2 := e2.symm; subst e2
              refine zt_size (fun hzs => ?_)
              have hP9 := hP.sub (ws' := [(aM, .inr (4, [.int th, .ref aMT, .int (nI mu), .ref aNw, .ref aNx, .int 2, .int (nI (zK B en ma2)), .int (nI ma_2), .int (nI en), .long mv_5, .int (nI (zK B en ma2)), .int ml])), (aMT, .inl (kMT, 65536, .inl B)), (aNx, .inl (kNx, 52650, .inl nx2))]) [2, 1, 0] rfl
              have hD9 := hD.sub (ws' := [(aM, .inr (4, [.int th, .ref aMT, .int (nI mu), .ref aNw, .ref aNx, .int 2, .int (nI (zK B en ma2)), .int (nI ma_2), .int (nI en), .long mv_5, .int (nI (zK B en ma2)), .int ml])), (aMT, .inl (kMT, 65536, .inl B)), (aNx, .inl (kNx, 52650, .inl nx2))]) [2, 1, 0] (by decide) rfl
              exact W.zret (v := 0) hx hb hr rfl (fun t ht hW => ⟨⟨0, (ma_2, 2, nI (zK B en ma2), mv_5, nI (zK B en ma2), nx2, ml), rfl, Or.inr ⟨rfl, by omega, _, by rw [hI, zLst_step (by omega), hw_7a, zB_ok, if_neg c_10, if_pos ((zgrow hlw0 hlw1 hhi2 hlo1).mpr (Or.inr (Or.inl ((zVal_gt hw_7v hhi1 hhi2).mp ((lg_cmp_gt _ _).mp c_16))))), zB_er], rfl⟩, by rw [ht]; exact hP9, hD9, by rw [ht]; exact hzs⟩, hS.F ht⟩) hS.2.2 d_Md_list_130
            ·
              refine lv_iload hx hb d_Md_list_91 (lv_at hl 8 rfl) ?_
              refine lv_if_eq (tgt := 131) hx hb d_Md_list_93 (by decide) (fun c_21 => ?_) (fun c_21 => ?_)
              ·
                refine lv_aload_n hx hb d_Md_list_131 rfl (lv_at hl 0 rfl) ?_
                refine va_get (D := (dC, dI)) (ci := 4) (v := .ref aNx) (C := R_Md) (T := F_Md) (N := 12) hx hb hz i_Md hown hK hP 1 rfl rfl 4 (by decide) (hz _ tw_480) (fun _ h9 => h9) rfl d_Md_list_132 ?_
                refine lv_iload_n hx hb d_Md_list_135 rfl (lv_at hl 2 rfl) ?_
                refine lv_iload hx hb d_Md_list_136 (lv_at hl 9 rfl) ?_
                refine lv_iadd hx hb d_Md_list_138 ?_
                refine zt_top (nI_add pl j) ?_
                refine lv_aload_n hx hb d_Md_list_139 rfl (lv_at hl 0 rfl) ?_
                refine va_get (D := (dC, dI)) (ci := 4) (v := .long mv_5) (C := R_Md) (T := F_Md) (N := 12) hx hb hz i_Md hown hK hP 1 rfl rfl 9 (by decide) (hz _ tw_485) (fun _ h9 => h9) rfl d_Md_list_140 ?_
                refine lv_l2i (v := mv_5.toInt32) hx hb d_Md_list_143 rfl ?_
                refine zt_top (zVal_eq hw_7v hlo1 hhi2 (fun z => c_11 ((lg_cmp_lt _ _).mpr ((zVal_lt hw_7v hlo1 hlo2).mpr z))) (fun z => c_16 ((lg_cmp_gt _ _).mpr ((zVal_gt hw_7v hhi1 hhi2).mpr z)))) ?_
                refine va_iast (D := (dC, dI)) (i := nI (pl + j)) (x := vn_8) hx hb hK hP hD hS 0 1 rfl rfl (vp_in_nI (by omega) (by decide)) d_Md_list_144 (fun H locs hP hD hS => ?_)
                rw [nI_clamp (by omega)] at hP hD
                have hP : va_P (dC, dI) vwCl [(aNx, .inl (kNx, 52650, .inl (upd nx2 (pl + j) vn_8))), (aM, .inr (4, [.int th, .ref aMT, .int (nI mu), .ref aNw, .ref aNx, .int mw, .int mwa, .int (nI ma_2), .int (nI en), .long mv_5, .int (nI (zK B en ma2)), .int ml])), (aMT, .inl (kMT, 65536, .inl B))] H := hP
                have hD : va_D A [(aNx, .inl (kNx, 52650, .inl (upd nx2 (pl + j) vn_8))), (aM, .inr (4, [.int th, .ref aMT, .int (nI mu), .ref aNw, .ref aNx, .int mw, .int mwa, .int (nI ma_2), .int (nI en), .long mv_5, .int (nI (zK B en ma2)), .int ml])), (aMT, .inl (kMT, 65536, .inl B))] := hD
                refine lv_iinc (v := nI (j + 1)) (lv' := [(10, .int (nI (j + 1))), (0, .ref aM), (1, .long (zWv ks)), (3, .int (nI pl)), (4, .int (nI le)), (5, .int (nI mo)), (6, .int (nI wl)), (7, .int low), (8, .int hig), (9, .int gi)]) hx hb d_Md_list_145 hl (k := 9) rfl (nI_add j 1) (by decide) rfl (fun ls hl => ?_)
                refine lv_aload_n hx hb d_Md_list_148 rfl (lv_at hl 1 rfl) ?_
                refine lv_bipush (v := 44) hx hb d_Md_list_149 (by decide) ?_
                have hPc := hP.sub (ws' := [(aM, .inr (4, [.int th, .ref aMT, .int (nI mu), .ref aNw, .ref aNx, .int mw, .int mwa, .int (nI ma_2), .int (nI en), .long mv_5, .int (nI (zK B en ma2)), .int ml])), (aMT, .inl (kMT, 65536, .inl B))]) [1, 2] rfl
                have hDc := hD.sub (ws' := [(aM, .inr (4, [.int th, .ref aMT, .int (nI mu), .ref aNw, .ref aNx, .int mw, .int mwa, .int (nI ma_2), .int (nI en), .long mv_5, .int (nI (zK B en ma2)), .int ml])), (aMT, .inl (kMT, 65536, .inl B))]) [1, 2] (by decide) rfl
                have hKc := hK.sub (tys' := [(kMT, .byte)]) [0] rfl
                have hFc := va_free (wc := [(aM, .inr (4, [.int th, .ref aMT, .int (nI mu), .ref aNw, .ref aNx, .int mw, .int mwa, .int (nI ma_2), .int (nI en), .long mv_5, .int (nI (zK B en ma2)), .int ml])), (aMT, .inl (kMT, 65536, .inl B))]) hD hS hA [1, 2] rfl
                refine va_calli (va_runV (As := [.int 44]) (rest := []) ⟨hx, hb, hml, hown, hts⟩ (c_Md_comes l G dC dI H.size aM th aMT mu aNw aNx mw mwa ma_2 en mv_5 (nI (zK B en ma2)) ml kMT B 44 (by omega) (by omega)) (cwV 1 hts (gV tw_541 tw_543 ts_21 tw_5 tw_544 rfl) rfl rfl rfl (by decide +kernel) ⟨Nat.le_of_ble_eq_true rfl, Nat.le_of_ble_eq_true rfl⟩) (PW_preV hPc hKc hDc hE hS hFc (ci := 4) (q0 := 0) rfl rfl) rfl rfl hl.1 rfl (lv_room (Nat.le_of_ble_eq_true rfl)) d_Md_list_151 ⟨Nat.le_of_ble_eq_true rfl, Nat.le_of_ble_eq_true rfl⟩) hS (fun q _ h => hFc q h) hFc (fun r_22 uu t H1 locs ht hvm hw_24 hB hz1 hk1 hS => ?_)
                obtain ⟨ma_23, rfl⟩ : ∃ z, z = uu := ⟨_, rfl⟩
                obtain ⟨hP1, hD1, hsz1⟩ := hB
                rw [ht] at hP1 hsz1
                obtain ⟨hP, hD⟩ := va_join (wr := [(aNx, .inl (kNx, 52650, .inl (upd nx2 (pl + j) vn_8)))]) (w1 := [(aM, .inr (4, [.int th, .ref aMT, .int (nI mu), .ref aNw, .ref aNx, .int mw, .int mwa, .int (nI ma_23), .int (nI en), .long mv_5, .int (nI (zK B en ma2)), .int ml])), (aMT, .inl (kMT, 65536, .inl B))]) hP hD [1, 2] [0] rfl rfl (by decide) (by decide) hk1 hFc hP1 hD1
                generalize H1 = H at hP hS ⊢
                have hP : va_P (dC, dI) vwCl [(aNx, .inl (kNx, 52650, .inl (upd nx2 (pl + j) vn_8))), (aM, .inr (4, [.int th, .ref aMT, .int (nI mu), .ref aNw, .ref aNx, .int mw, .int mwa, .int (nI ma_23), .int (nI en), .long mv_5, .int (nI (zK B en ma2)), .int ml])), (aMT, .inl (kMT, 65536, .inl B))] H := hP
                have hD : va_D A [(aNx, .inl (kNx, 52650, .inl (upd nx2 (pl + j) vn_8))), (aM, .inr (4, [.int th, .ref aMT, .int (nI mu), .ref aNw, .ref aNx, .int mw, .int mwa, .int (nI ma_23), .int (nI en), .long mv_5, .int (nI (zK B en ma2)), .int ml])), (aMT, .inl (kMT, 65536, .inl B))] := hD
                have hw_24i := zK_le (B := B) (en := en) (i := ma_2) (by omega)
                obtain ⟨e1, e2⟩ := hw_24
                have e1 := e1.symm; subst e1
                by_cases hs_25 : zK B en ma_2 < en ∧ B (zK B en ma_2) = 44
                ·
                  rw [if_pos hs_25] at e2; subst e2
                  refine lv_istore (lv' := [(11, .int 1), (10, .int (nI (j + 1))), (0, .ref aM), (1, .long (zWv ks)), (3, .int (nI pl)), (4, .int (nI le)), (5, .int (nI mo)), (6, .int (nI wl)), (7, .int low), (8, .int hig), (9, .int gi)]) hx hb d_Md_list_154 hl (by decide) rfl (fun ls hl => ?_)
                  refine lv_aload_n hx hb d_Md_list_156 rfl (lv_at hl 2 rfl) ?_
                  refine lv_iload hx hb d_Md_list_157 (lv_at hl 0 rfl) ?_
                  refine lv_if_eq (tgt := 171) hx hb d_Md_list_159 (by decide) (fun c_26 => ?_) (fun c_26 => ?_)
                  ·
                    exact absurd c_26 (by decide)
                  ·
                    refine lv_aload_n hx hb d_Md_list_162 rfl (lv_at hl 2 rfl) ?_
                    refine va_get (D := (dC, dI)) (ci := 4) (v := .int (nI (zK B en ma_2))) (C := R_Md) (T := F_Md) (N := 12) hx hb hz i_Md hown hK hP 1 rfl rfl 7 (by decide) (hz _ tw_483) (fun _ h9 => h9) rfl d_Md_list_163 ?_
                    refine lv_iconst (v := 1) hx hb d_Md_list_166 (by decide) ?_
                    refine lv_iadd hx hb d_Md_list_167 ?_
                    refine zt_top (nI_add (zK B en ma_2) 1) ?_
                    refine lv_goto (tgt := 175) hx hb d_Md_list_168 (by decide) ?_
                    refine va_put (D := (dC, dI)) (ci := 4) (v := .int (nI ((zK B en ma_2) + 1))) (ty := .int) (C := R_Md) (T := F_Md) (N := 12) hx hb hz i_Md t_Md t_Md_ok n_Md hown hK hP hD hS 1 rfl rfl 7 (by decide) (hz _ tw_483) (fun _ h9 => h9) rfl (by decide +kernel) rfl rfl (Nat.le_of_ble_eq_true rfl) d_Md_list_175 (fun H locs hP hD hS => ?_)
                    have hP : va_P (dC, dI) vwCl [(aNx, .inl (kNx, 52650, .inl (upd nx2 (pl + j) vn_8))), (aM, .inr (4, [.int th, .ref aMT, .int (nI mu), .ref aNw, .ref aNx, .int mw, .int mwa, .int (nI ((zK B en ma_2) + 1)), .int (nI en), .long mv_5, .int (nI (zK B en ma2)), .int ml])), (aMT, .inl (kMT, 65536, .inl B))] H := hP
                    have hD : va_D A [(aNx, .inl (kNx, 52650, .inl (upd nx2 (pl + j) vn_8))), (aM, .inr (4, [.int th, .ref aMT, .int (nI mu), .ref aNw, .ref aNx, .int mw, .int mwa, .int (nI ((zK B en ma_2) + 1)), .int (nI en), .long mv_5, .int (nI (zK B en ma2)), .int ml])), (aMT, .inl (kMT, 65536, .inl B))] := hD
                    refine lv_goto (tgt := 38) hx hb d_Md_list_178 (by decide) ?_
                    refine lv_iload hx hb d_Md_list_38 (lv_at hl 0 rfl) ?_
                    refine lv_if_eq (tgt := 181) hx hb d_Md_list_40 (by decide) (fun c_27 => ?_) (fun c_27 => ?_)
                    ·
                      exact absurd c_27 (by decide)
                    ·
                      exact ih (j + 1) ((zK B en ma_2) + 1) mv_5 (nI (zK B en ma2)) (if decide (gi = 1) = true then vn_8 + 1 else low) (upd nx2 (pl + j) vn_8) (by omega) (by omega) (by omega) (fun z => z.elim (fun z => absurd z (by omega)) (fun z => by rw [z]; exact if_neg (by decide))) (fun _ g => ⟨by rw [if_pos g, show pl + (j + 1 - 1) = pl + j by omega, pk_us], by rw [show pl + (j + 1 - 1) = pl + j by omega, pk_us]; exact (fun z => c_11 ((lg_cmp_lt _ _).mpr ((zVal_lt hw_7v hlo1 hlo2).mpr z))), by rw [show pl + (j + 1 - 1) = pl + j by omega, pk_us]; exact (fun z => c_16 ((lg_cmp_gt _ _).mpr ((zVal_gt hw_7v hhi1 hhi2).mpr z)))⟩) (by rw [hI, zLst_step (by omega), hw_7a, zB_ok, if_neg c_10, if_neg (fun z => ((zgrow hlw0 hlw1 hhi2 hlo1).mp z).elim (fun z => c_11 ((lg_cmp_lt _ _).mpr ((zVal_lt hw_7v hlo1 hlo2).mpr z))) (fun z => z.elim (fun z => c_16 ((lg_cmp_gt _ _).mpr ((zVal_gt hw_7v hhi1 hhi2).mpr z))) (fun z => by have q := of_decide_eq_true z.1; rw [c_21] at q; exact absurd q (by decide)))), if_pos hs_25]) _ _ (hP.sub [1, 2, 0] rfl) (hD.sub [1, 2, 0] (by decide) rfl) hS ls (lv_sub hl [2, 3, 4, 5, 6, 7, 8, 9, 10, 1] rfl)
                ·
                  rw [if_neg hs_25] at e2; subst e2
                  refine lv_istore (lv' := [(11, .int 0), (10, .int (nI (j + 1))), (0, .ref aM), (1, .long (zWv ks)), (3, .int (nI pl)), (4, .int (nI le)), (5, .int (nI mo)), (6, .int (nI wl)), (7, .int low), (8, .int hig), (9, .int gi)]) hx hb d_Md_list_154 hl (by decide) rfl (fun ls hl => ?_)
                  refine lv_aload_n hx hb d_Md_list_156 rfl (lv_at hl 2 rfl) ?_
                  refine lv_iload hx hb d_Md_list_157 (lv_at hl 0 rfl) ?_
                  refine lv_if_eq (tgt := 171) hx hb d_Md_list_159 (by decide) (fun c_28 => ?_) (fun c_28 => ?_)
                  ·
                    refine lv_aload_n hx hb d_Md_list_171 rfl (lv_at hl 2 rfl) ?_
                    refine va_get (D := (dC, dI)) (ci := 4) (v := .int (nI (zK B en ma_2))) (C := R_Md) (T := F_Md) (N := 12) hx hb hz i_Md hown hK hP 1 rfl rfl 7 (by decide) (hz _ tw_483) (fun _ h9 => h9) rfl d_Md_list_172 ?_
                    refine va_put (D := (dC, dI)) (ci := 4) (v := .int (nI (zK B en ma_2))) (ty := .int) (C := R_Md) (T := F_Md) (N := 12) hx hb hz i_Md t_Md t_Md_ok n_Md hown hK hP hD hS 1 rfl rfl 7 (by decide) (hz _ tw_483) (fun _ h9 => h9) rfl (by decide +kernel) rfl rfl (Nat.le_of_ble_eq_true rfl) d_Md_list_175 (fun H locs hP hD hS => ?_)
                    have hP : va_P (dC, dI) vwCl [(aNx, .inl (kNx, 52650, .inl (upd nx2 (pl + j) vn_8))), (aM, .inr (4, [.int th, .ref aMT, .int (nI mu), .ref aNw, .ref aNx, .int mw, .int mwa, .int (nI (zK B en ma_2)), .int (nI en), .long mv_5, .int (nI (zK B en ma2)), .int ml])), (aMT, .inl (kMT, 65536, .inl B))] H := hP
                    have hD : va_D A [(aNx, .inl (kNx, 52650, .inl (upd nx2 (pl + j) vn_8))), (aM, .inr (4, [.int th, .ref aMT, .int (nI mu), .ref aNw, .ref aNx, .int mw, .int mwa, .int (nI (zK B en ma_2)), .int (nI en), .long mv_5, .int (nI (zK B en ma2)), .int ml])), (aMT, .inl (kMT, 65536, .inl B))] := hD
                    refine lv_goto (tgt := 38) hx hb d_Md_list_178 (by decide) ?_
                    refine lv_iload hx hb d_Md_list_38 (lv_at hl 0 rfl) ?_
                    refine lv_if_eq (tgt := 181) hx hb d_Md_list_40 (by decide) (fun c_29 => ?_) (fun c_29 => ?_)
                    ·
                      have tl_30 : (zB (zKey B en (zSb ks) (zK B en ma)) fun h1 => zList B en (decide (gi = 1)) (decide (wl = 3)) le mo pl low hig h1 nx) = zTail B en (decide (wl = 3)) le (j + 1, zK B en ma_2, upd nx2 (pl + j) vn_8) := by rw [hI, zLst_step (by omega), hw_7a, zB_ok, if_neg c_10, if_neg (fun z => ((zgrow hlw0 hlw1 hhi2 hlo1).mp z).elim (fun z => c_11 ((lg_cmp_lt _ _).mpr ((zVal_lt hw_7v hlo1 hlo2).mpr z))) (fun z => z.elim (fun z => c_16 ((lg_cmp_gt _ _).mpr ((zVal_gt hw_7v hhi1 hhi2).mpr z))) (fun z => by have q := of_decide_eq_true z.1; rw [c_21] at q; exact absurd q (by decide)))), if_neg hs_25, zB_ok]
                      refine lv_aload_n hx hb d_Md_list_181 rfl (lv_at hl 2 rfl) ?_
                      refine lv_bipush (v := 93) hx hb d_Md_list_182 (by decide) ?_
                      have hPc := hP.sub (ws' := [(aM, .inr (4, [.int th, .ref aMT, .int (nI mu), .ref aNw, .ref aNx, .int mw, .int mwa, .int (nI (zK B en ma_2)), .int (nI en), .long mv_5, .int (nI (zK B en ma2)), .int ml])), (aMT, .inl (kMT, 65536, .inl B))]) [1, 2] rfl
                      have hDc := hD.sub (ws' := [(aM, .inr (4, [.int th, .ref aMT, .int (nI mu), .ref aNw, .ref aNx, .int mw, .int mwa, .int (nI (zK B en ma_2)), .int (nI en), .long mv_5, .int (nI (zK B en ma2)), .int ml])), (aMT, .inl (kMT, 65536, .inl B))]) [1, 2] (by decide) rfl
                      have hKc := hK.sub (tys' := [(kMT, .byte)]) [0] rfl
                      have hFc := va_free (wc := [(aM, .inr (4, [.int th, .ref aMT, .int (nI mu), .ref aNw, .ref aNx, .int mw, .int mwa, .int (nI (zK B en ma_2)), .int (nI en), .long mv_5, .int (nI (zK B en ma2)), .int ml])), (aMT, .inl (kMT, 65536, .inl B))]) hD hS hA [1, 2] rfl
                      refine va_calli (va_runV (As := [.int 93]) (rest := []) ⟨hx, hb, hml, hown, hts⟩ (c_Md_comes l G dC dI H.size aM th aMT mu aNw aNx mw mwa (zK B en ma_2) en mv_5 (nI (zK B en ma2)) ml kMT B 93 (by omega) (by omega)) (cwV 1 hts (gV tw_541 tw_543 ts_21 tw_5 tw_544 rfl) rfl rfl rfl (by decide +kernel) ⟨Nat.le_of_ble_eq_true rfl, Nat.le_of_ble_eq_true rfl⟩) (PW_preV hPc hKc hDc hE hS hFc (ci := 4) (q0 := 0) rfl rfl) rfl rfl hl.1 rfl (lv_room (Nat.le_of_ble_eq_true rfl)) d_Md_list_184 ⟨Nat.le_of_ble_eq_true rfl, Nat.le_of_ble_eq_true rfl⟩) hS (fun q _ h => hFc q h) hFc (fun r_31 uu t H1 locs ht hvm hw_33 hB hz1 hk1 hS => ?_)
                      obtain ⟨ma_32, rfl⟩ : ∃ z, z = uu := ⟨_, rfl⟩
                      obtain ⟨hP1, hD1, hsz1⟩ := hB
                      rw [ht] at hP1 hsz1
                      obtain ⟨hP, hD⟩ := va_join (wr := [(aNx, .inl (kNx, 52650, .inl (upd nx2 (pl + j) vn_8)))]) (w1 := [(aM, .inr (4, [.int th, .ref aMT, .int (nI mu), .ref aNw, .ref aNx, .int mw, .int mwa, .int (nI ma_32), .int (nI en), .long mv_5, .int (nI (zK B en ma2)), .int ml])), (aMT, .inl (kMT, 65536, .inl B))]) hP hD [1, 2] [0] rfl rfl (by decide) (by decide) hk1 hFc hP1 hD1
                      generalize H1 = H at hP hS ⊢
                      have hP : va_P (dC, dI) vwCl [(aNx, .inl (kNx, 52650, .inl (upd nx2 (pl + j) vn_8))), (aM, .inr (4, [.int th, .ref aMT, .int (nI mu), .ref aNw, .ref aNx, .int mw, .int mwa, .int (nI ma_32), .int (nI en), .long mv_5, .int (nI (zK B en ma2)), .int ml])), (aMT, .inl (kMT, 65536, .inl B))] H := hP
                      have hD : va_D A [(aNx, .inl (kNx, 52650, .inl (upd nx2 (pl + j) vn_8))), (aM, .inr (4, [.int th, .ref aMT, .int (nI mu), .ref aNw, .ref aNx, .int mw, .int mwa, .int (nI ma_32), .int (nI en), .long mv_5, .int (nI (zK B en ma2)), .int ml])), (aMT, .inl (kMT, 65536, .inl B))] := hD
                      have hw_33i := zK_le (B := B) (en := en) (i := zK B en ma_2) (by omega)
                      rw [zK_idem] at hw_33 hw_33i
                      obtain ⟨e1, e2⟩ := hw_33
                      have e1 := e1.symm; subst e1
                      by_cases hs_34 : zK B en ma_2 < en ∧ B (zK B en ma_2) = 93
                      ·
                        rw [if_pos hs_34] at e2; subst e2
                        refine lv_if_ne (tgt := 200) hx hb d_Md_list_187 (by decide) (fun c_35 => ?_) (fun c_35 => ?_)
                        ·
                          refine lv_iload hx hb d_Md_list_200 (lv_at hl 1 rfl) ?_
                          refine lv_iload hx hb d_Md_list_202 (lv_at hl 5 rfl) ?_
                          refine lv_icmp_lt (tgt := 215) hx hb d_Md_list_204 (by decide) (fun c_36 => ?_) (fun c_36 => ?_)
                          ·
                            have c_36 : (j + 1) < le := (@nI_ltI (j + 1) le (by omega) (by omega)).mp c_36
                            refine lv_aload_n hx hb d_Md_list_215 rfl (lv_at hl 2 rfl) ?_
                            refine lv_iconst (v := 3) hx hb d_Md_list_216 (by decide) ?_
                            refine lv_aload_n hx hb d_Md_list_217 rfl (lv_at hl 2 rfl) ?_
                            refine va_get (D := (dC, dI)) (ci := 4) (v := .int (nI (zK B en ma_2))) (C := R_Md) (T := F_Md) (N := 12) hx hb hz i_Md hown hK hP 1 rfl rfl 7 (by decide) (hz _ tw_483) (fun _ h9 => h9) rfl d_Md_list_218 ?_
                            have hPc := hP.sub (ws' := [(aM, .inr (4, [.int th, .ref aMT, .int (nI mu), .ref aNw, .ref aNx, .int mw, .int mwa, .int (nI (zK B en ma_2)), .int (nI en), .long mv_5, .int (nI (zK B en ma2)), .int ml]))]) [1] rfl
                            have hDc := hD.sub (ws' := [(aM, .inr (4, [.int th, .ref aMT, .int (nI mu), .ref aNw, .ref aNx, .int mw, .int mwa, .int (nI (zK B en ma_2)), .int (nI en), .long mv_5, .int (nI (zK B en ma2)), .int ml]))]) [1] (by decide) rfl
                            have hKc := hK.sub (tys' := []) [] rfl
                            have hFc := va_free (wc := [(aM, .inr (4, [.int th, .ref aMT, .int (nI mu), .ref aNw, .ref aNx, .int mw, .int mwa, .int (nI (zK B en ma_2)), .int (nI en), .long mv_5, .int (nI (zK B en ma2)), .int ml]))]) hD hS hA [1] rfl
                            refine va_calli (va_runV (As := [.int 3, .int (nI (zK B en ma_2))]) (rest := []) ⟨hx, hb, hml, hown, hts⟩ (c_Md_fails l G dC dI H.size aM th aMT mu aNw aNx mw mwa (zK B en ma_2) en mv_5 (nI (zK B en ma2)) ml 3 (nI (zK B en ma_2))) (cwV 2 hts (gV tw_549 tw_551 ts_23 tw_5 tw_552 rfl) rfl rfl rfl (by decide +kernel) ⟨Nat.le_of_ble_eq_true rfl, Nat.le_of_ble_eq_true rfl⟩) (PW_preV hPc hKc hDc hE hS hFc (ci := 4) (q0 := 0) rfl rfl) rfl rfl hl.1 rfl (lv_room (Nat.le_of_ble_eq_true rfl)) d_Md_list_221 ⟨Nat.le_of_ble_eq_true rfl, Nat.le_of_ble_eq_true rfl⟩) hS (fun q _ h => hFc q h) hFc (fun r_37 uu t H1 locs ht hvm hw_40 hB hz1 hk1 hS => ?_)
                            obtain ⟨mw_38, mwa_39⟩ := uu
                            obtain ⟨hP1, hD1, hsz1⟩ := hB
                            rw [ht] at hP1 hsz1
                            obtain ⟨hP, hD⟩ := va_join (wr := [(aNx, .inl (kNx, 52650, .inl (upd nx2 (pl + j) vn_8))), (aMT, .inl (kMT, 65536, .inl B))]) (w1 := [(aM, .inr (4, [.int th, .ref aMT, .int (nI mu), .ref aNw, .ref aNx, .int mw_38, .int mwa_39, .int (nI (zK B en ma_2)), .int (nI en), .long mv_5, .int (nI (zK B en ma2)), .int ml]))]) hP hD [1] [0, 2] rfl rfl (by decide) (by decide) hk1 hFc hP1 hD1
                            generalize H1 = H at hP hS ⊢
                            have hP : va_P (dC, dI) vwCl [(aNx, .inl (kNx, 52650, .inl (upd nx2 (pl + j) vn_8))), (aMT, .inl (kMT, 65536, .inl B)), (aM, .inr (4, [.int th, .ref aMT, .int (nI mu), .ref aNw, .ref aNx, .int mw_38, .int mwa_39, .int (nI (zK B en ma_2)), .int (nI en), .long mv_5, .int (nI (zK B en ma2)), .int ml]))] H := hP
                            have hD : va_D A [(aNx, .inl (kNx, 52650, .inl (upd nx2 (pl + j) vn_8))), (aMT, .inl (kMT, 65536, .inl B)), (aM, .inr (4, [.int th, .ref aMT, .int (nI mu), .ref aNw, .ref aNx, .int mw_38, .int mwa_39, .int (nI (zK B en ma_2)), .int (nI en), .long mv_5, .int (nI (zK B en ma2)), .int ml]))] := hD
                            obtain ⟨e0, e1, e2⟩ := hw_40
                            subst e0
                            have e1 := e1.symm; subst e1
                            have e2 := e2.symm; subst e2
                            refine zt_size (fun hzs => ?_)
                            have hP9 := hP.sub (ws' := [(aM, .inr (4, [.int th, .ref aMT, .int (nI mu), .ref aNw, .ref aNx, .int 3, .int (nI (zK B en ma_2)), .int (nI (zK B en ma_2)), .int (nI en), .long mv_5, .int (nI (zK B en ma2)), .int ml])), (aMT, .inl (kMT, 65536, .inl B)), (aNx, .inl (kNx, 52650, .inl (upd nx2 (pl + j) vn_8)))]) [2, 1, 0] rfl
                            have hD9 := hD.sub (ws' := [(aM, .inr (4, [.int th, .ref aMT, .int (nI mu), .ref aNw, .ref aNx, .int 3, .int (nI (zK B en ma_2)), .int (nI (zK B en ma_2)), .int (nI en), .long mv_5, .int (nI (zK B en ma2)), .int ml])), (aMT, .inl (kMT, 65536, .inl B)), (aNx, .inl (kNx, 52650, .inl (upd nx2 (pl + j) vn_8)))]) [2, 1, 0] (by decide) rfl
                            exact W.zret (v := 0) hx hb hr rfl (fun t ht hW => ⟨⟨0, (zK B en ma_2, 3, nI (zK B en ma_2), mv_5, nI (zK B en ma2), upd nx2 (pl + j) vn_8, ml), rfl, Or.inr ⟨rfl, by omega, _, by rw [tl_30]; unfold zTail; rw [if_pos ⟨Or.inl c_36, hs_34⟩], rfl⟩, by rw [ht]; exact hP9, hD9, by rw [ht]; exact hzs⟩, hS.F ht⟩) hS.2.2 d_Md_list_224
                          ·
                            have c_36 : ¬ ((j + 1) < le) := fun z => c_36 ((@nI_ltI (j + 1) le (by omega) (by omega)).mpr z)
                            rcases hwl with rfl | rfl
                            ·
                              refine lv_iload hx hb d_Md_list_207 (lv_at hl 1 rfl) ?_
                              refine lv_iload hx hb d_Md_list_209 (lv_at hl 7 rfl) ?_
                              refine lv_irem hx hb d_Md_list_211 (by decide) ?_
                              refine zt_top (pk_rem (a := j + 1) (d := 1) (by omega) (by decide) (by decide)) ?_
                              refine lv_if_eq (tgt := 225) hx hb d_Md_list_212 (by decide) (fun c_41 => ?_) (fun c_41 => ?_)
                              ·
                                have c_41 : ((j + 1) % 1) = 0 := (@nI_eq ((j + 1) % 1) 0 (by omega) (by omega)).mp c_41
                                refine lv_aload_n hx hb d_Md_list_225 rfl (lv_at hl 2 rfl) ?_
                                refine lv_dup hx hb d_Md_list_226 rfl ?_
                                refine va_get (D := (dC, dI)) (ci := 4) (v := .int (nI (zK B en ma_2))) (C := R_Md) (T := F_Md) (N := 12) hx hb hz i_Md hown hK hP 1 rfl rfl 7 (by decide) (hz _ tw_483) (fun _ h9 => h9) rfl d_Md_list_227 ?_
                                refine lv_iconst (v := 1) hx hb d_Md_list_230 (by decide) ?_
                                refine lv_iadd hx hb d_Md_list_231 ?_
                                refine zt_top (nI_add (zK B en ma_2) 1) ?_
                                refine va_put (D := (dC, dI)) (ci := 4) (v := .int (nI ((zK B en ma_2) + 1))) (ty := .int) (C := R_Md) (T := F_Md) (N := 12) hx hb hz i_Md t_Md t_Md_ok n_Md hown hK hP hD hS 1 rfl rfl 7 (by decide) (hz _ tw_483) (fun _ h9 => h9) rfl (by decide +kernel) rfl rfl (Nat.le_of_ble_eq_true rfl) d_Md_list_232 (fun H locs hP hD hS => ?_)
                                have hP : va_P (dC, dI) vwCl [(aNx, .inl (kNx, 52650, .inl (upd nx2 (pl + j) vn_8))), (aM, .inr (4, [.int th, .ref aMT, .int (nI mu), .ref aNw, .ref aNx, .int mw, .int mwa, .int (nI ((zK B en ma_2) + 1)), .int (nI en), .long mv_5, .int (nI (zK B en ma2)), .int ml])), (aMT, .inl (kMT, 65536, .inl B))] H := hP
                                have hD : va_D A [(aNx, .inl (kNx, 52650, .inl (upd nx2 (pl + j) vn_8))), (aM, .inr (4, [.int th, .ref aMT, .int (nI mu), .ref aNw, .ref aNx, .int mw, .int mwa, .int (nI ((zK B en ma_2) + 1)), .int (nI en), .long mv_5, .int (nI (zK B en ma2)), .int ml])), (aMT, .inl (kMT, 65536, .inl B))] := hD
                                refine lv_aload_n hx hb d_Md_list_235 rfl (lv_at hl 2 rfl) ?_
                                refine lv_iload hx hb d_Md_list_236 (lv_at hl 1 rfl) ?_
                                refine va_put (D := (dC, dI)) (ci := 4) (v := .int (nI (j + 1))) (ty := .int) (C := R_Md) (T := F_Md) (N := 12) hx hb hz i_Md t_Md t_Md_ok n_Md hown hK hP hD hS 1 rfl rfl 11 (by decide) (hz _ tw_487) (fun _ h9 => h9) rfl (by decide +kernel) rfl rfl (Nat.le_of_ble_eq_true rfl) d_Md_list_238 (fun H locs hP hD hS => ?_)
                                have hP : va_P (dC, dI) vwCl [(aNx, .inl (kNx, 52650, .inl (upd nx2 (pl + j) vn_8))), (aM, .inr (4, [.int th, .ref aMT, .int (nI mu), .ref aNw, .ref aNx, .int mw, .int mwa, .int (nI ((zK B en ma_2) + 1)), .int (nI en), .long mv_5, .int (nI (zK B en ma2)), .int (nI (j + 1))])), (aMT, .inl (kMT, 65536, .inl B))] H := hP
                                have hD : va_D A [(aNx, .inl (kNx, 52650, .inl (upd nx2 (pl + j) vn_8))), (aM, .inr (4, [.int th, .ref aMT, .int (nI mu), .ref aNw, .ref aNx, .int mw, .int mwa, .int (nI ((zK B en ma_2) + 1)), .int (nI en), .long mv_5, .int (nI (zK B en ma2)), .int (nI (j + 1))])), (aMT, .inl (kMT, 65536, .inl B))] := hD
                                refine lv_iconst (v := 1) hx hb d_Md_list_241 (by decide) ?_
                                refine zt_size (fun hzs => ?_)
                                have hP9 := hP.sub (ws' := [(aM, .inr (4, [.int th, .ref aMT, .int (nI mu), .ref aNw, .ref aNx, .int mw, .int mwa, .int (nI ((zK B en ma_2) + 1)), .int (nI en), .long mv_5, .int (nI (zK B en ma2)), .int (nI (j + 1))])), (aMT, .inl (kMT, 65536, .inl B)), (aNx, .inl (kNx, 52650, .inl (upd nx2 (pl + j) vn_8)))]) [1, 2, 0] rfl
                                have hD9 := hD.sub (ws' := [(aM, .inr (4, [.int th, .ref aMT, .int (nI mu), .ref aNw, .ref aNx, .int mw, .int mwa, .int (nI ((zK B en ma_2) + 1)), .int (nI en), .long mv_5, .int (nI (zK B en ma2)), .int (nI (j + 1))])), (aMT, .inl (kMT, 65536, .inl B)), (aNx, .inl (kNx, 52650, .inl (upd nx2 (pl + j) vn_8)))]) [1, 2, 0] (by decide) rfl
                                exact W.zret (v := 1) hx hb hr rfl (fun t ht hW => ⟨⟨1, ((zK B en ma_2) + 1, mw, mwa, mv_5, nI (zK B en ma2), upd nx2 (pl + j) vn_8, nI (j + 1)), rfl, Or.inl ⟨rfl, by omega, rfl, rfl, _, by rw [tl_30]; unfold zTail; rw [if_neg (fun z => absurd z.1 (fun z => z.elim c_36 (fun z => absurd z.1 (by decide))))]; simp only [zMust]; rw [if_pos hs_34, zB_ok], rfl⟩, by rw [ht]; exact hP9, hD9, by rw [ht]; exact hzs⟩, hS.F ht⟩) hS.2.2 d_Md_list_242
                              ·
                                have c_41 : ¬ (((j + 1) % 1) = 0) := fun z => c_41 ((@nI_eq ((j + 1) % 1) 0 (by omega) (by omega)).mpr z)
                                refine lv_aload_n hx hb d_Md_list_215 rfl (lv_at hl 2 rfl) ?_
                                refine lv_iconst (v := 3) hx hb d_Md_list_216 (by decide) ?_
                                refine lv_aload_n hx hb d_Md_list_217 rfl (lv_at hl 2 rfl) ?_
                                refine va_get (D := (dC, dI)) (ci := 4) (v := .int (nI (zK B en ma_2))) (C := R_Md) (T := F_Md) (N := 12) hx hb hz i_Md hown hK hP 1 rfl rfl 7 (by decide) (hz _ tw_483) (fun _ h9 => h9) rfl d_Md_list_218 ?_
                                have hPc := hP.sub (ws' := [(aM, .inr (4, [.int th, .ref aMT, .int (nI mu), .ref aNw, .ref aNx, .int mw, .int mwa, .int (nI (zK B en ma_2)), .int (nI en), .long mv_5, .int (nI (zK B en ma2)), .int ml]))]) [1] rfl
                                have hDc := hD.sub (ws' := [(aM, .inr (4, [.int th, .ref aMT, .int (nI mu), .ref aNw, .ref aNx, .int mw, .int mwa, .int (nI (zK B en ma_2)), .int (nI en), .long mv_5, .int (nI (zK B en ma2)), .int ml]))]) [1] (by decide) rfl
                                have hKc := hK.sub (tys' := []) [] rfl
                                have hFc := va_free (wc := [(aM, .inr (4, [.int th, .ref aMT, .int (nI mu), .ref aNw, .ref aNx, .int mw, .int mwa, .int (nI (zK B en ma_2)), .int (nI en), .long mv_5, .int (nI (zK B en ma2)), .int ml]))]) hD hS hA [1] rfl
                                refine va_calli (va_runV (As := [.int 3, .int (nI (zK B en ma_2))]) (rest := []) ⟨hx, hb, hml, hown, hts⟩ (c_Md_fails l G dC dI H.size aM th aMT mu aNw aNx mw mwa (zK B en ma_2) en mv_5 (nI (zK B en ma2)) ml 3 (nI (zK B en ma_2))) (cwV 2 hts (gV tw_549 tw_551 ts_23 tw_5 tw_552 rfl) rfl rfl rfl (by decide +kernel) ⟨Nat.le_of_ble_eq_true rfl, Nat.le_of_ble_eq_true rfl⟩) (PW_preV hPc hKc hDc hE hS hFc (ci := 4) (q0 := 0) rfl rfl) rfl rfl hl.1 rfl (lv_room (Nat.le_of_ble_eq_true rfl)) d_Md_list_221 ⟨Nat.le_of_ble_eq_true rfl, Nat.le_of_ble_eq_true rfl⟩) hS (fun q _ h => hFc q h) hFc (fun r_42 uu t H1 locs ht hvm hw_45 hB hz1 hk1 hS => ?_)
                                obtain ⟨mw_43, mwa_44⟩ := uu
                                obtain ⟨hP1, hD1, hsz1⟩ := hB
                                rw [ht] at hP1 hsz1
                                obtain ⟨hP, hD⟩ := va_join (wr := [(aNx, .inl (kNx, 52650, .inl (upd nx2 (pl + j) vn_8))), (aMT, .inl (kMT, 65536, .inl B))]) (w1 := [(aM, .inr (4, [.int th, .ref aMT, .int (nI mu), .ref aNw, .ref aNx, .int mw_43, .int mwa_44, .int (nI (zK B en ma_2)), .int (nI en), .long mv_5, .int (nI (zK B en ma2)), .int ml]))]) hP hD [1] [0, 2] rfl rfl (by decide) (by decide) hk1 hFc hP1 hD1
                                generalize H1 = H at hP hS ⊢
                                have hP : va_P (dC, dI) vwCl [(aNx, .inl (kNx, 52650, .inl (upd nx2 (pl + j) vn_8))), (aMT, .inl (kMT, 65536, .inl B)), (aM, .inr (4, [.int th, .ref aMT, .int (nI mu), .ref aNw, .ref aNx, .int mw_43, .int mwa_44, .int (nI (zK B en ma_2)), .int (nI en), .long mv_5, .int (nI (zK B en ma2)), .int ml]))] H := hP
                                have hD : va_D A [(aNx, .inl (kNx, 52650, .inl (upd nx2 (pl + j) vn_8))), (aMT, .inl (kMT, 65536, .inl B)), (aM, .inr (4, [.int th, .ref aMT, .int (nI mu), .ref aNw, .ref aNx, .int mw_43, .int mwa_44, .int (nI (zK B en ma_2)), .int (nI en), .long mv_5, .int (nI (zK B en ma2)), .int ml]))] := hD
                                obtain ⟨e0, e1, e2⟩ := hw_45
                                subst e0
                                have e1 := e1.symm; subst e1
                                have e2 := e2.symm; subst e2
                                refine zt_size (fun hzs => ?_)
                                have hP9 := hP.sub (ws' := [(aM, .inr (4, [.int th, .ref aMT, .int (nI mu), .ref aNw, .ref aNx, .int 3, .int (nI (zK B en ma_2)), .int (nI (zK B en ma_2)), .int (nI en), .long mv_5, .int (nI (zK B en ma2)), .int ml])), (aMT, .inl (kMT, 65536, .inl B)), (aNx, .inl (kNx, 52650, .inl (upd nx2 (pl + j) vn_8)))]) [2, 1, 0] rfl
                                have hD9 := hD.sub (ws' := [(aM, .inr (4, [.int th, .ref aMT, .int (nI mu), .ref aNw, .ref aNx, .int 3, .int (nI (zK B en ma_2)), .int (nI (zK B en ma_2)), .int (nI en), .long mv_5, .int (nI (zK B en ma2)), .int ml])), (aMT, .inl (kMT, 65536, .inl B)), (aNx, .inl (kNx, 52650, .inl (upd nx2 (pl + j) vn_8)))]) [2, 1, 0] (by decide) rfl
                                exact W.zret (v := 0) hx hb hr rfl (fun t ht hW => ⟨⟨0, (zK B en ma_2, 3, nI (zK B en ma_2), mv_5, nI (zK B en ma2), upd nx2 (pl + j) vn_8, ml), rfl, Or.inr ⟨rfl, by omega, _, by rw [tl_30]; unfold zTail; rw [if_pos ⟨absurd (Nat.mod_one _) c_41, hs_34⟩], rfl⟩, by rw [ht]; exact hP9, hD9, by rw [ht]; exact hzs⟩, hS.F ht⟩) hS.2.2 d_Md_list_224
                            ·
                              refine lv_iload hx hb d_Md_list_207 (lv_at hl 1 rfl) ?_
                              refine lv_iload hx hb d_Md_list_209 (lv_at hl 7 rfl) ?_
                              refine lv_irem hx hb d_Md_list_211 (by decide) ?_
                              refine zt_top (pk_rem (a := j + 1) (d := 3) (by omega) (by decide) (by decide)) ?_
                              refine lv_if_eq (tgt := 225) hx hb d_Md_list_212 (by decide) (fun c_46 => ?_) (fun c_46 => ?_)
                              ·
                                have c_46 : ((j + 1) % 3) = 0 := (@nI_eq ((j + 1) % 3) 0 (by omega) (by omega)).mp c_46
                                refine lv_aload_n hx hb d_Md_list_225 rfl (lv_at hl 2 rfl) ?_
                                refine lv_dup hx hb d_Md_list_226 rfl ?_
                                refine va_get (D := (dC, dI)) (ci := 4) (v := .int (nI (zK B en ma_2))) (C := R_Md) (T := F_Md) (N := 12) hx hb hz i_Md hown hK hP 1 rfl rfl 7 (by decide) (hz _ tw_483) (fun _ h9 => h9) rfl d_Md_list_227 ?_
                                refine lv_iconst (v := 1) hx hb d_Md_list_230 (by decide) ?_
                                refine lv_iadd hx hb d_Md_list_231 ?_
                                refine zt_top (nI_add (zK B en ma_2) 1) ?_
                                refine va_put (D := (dC, dI)) (ci := 4) (v := .int (nI ((zK B en ma_2) + 1))) (ty := .int) (C := R_Md) (T := F_Md) (N := 12) hx hb hz i_Md t_Md t_Md_ok n_Md hown hK hP hD hS 1 rfl rfl 7 (by decide) (hz _ tw_483) (fun _ h9 => h9) rfl (by decide +kernel) rfl rfl (Nat.le_of_ble_eq_true rfl) d_Md_list_232 (fun H locs hP hD hS => ?_)
                                have hP : va_P (dC, dI) vwCl [(aNx, .inl (kNx, 52650, .inl (upd nx2 (pl + j) vn_8))), (aM, .inr (4, [.int th, .ref aMT, .int (nI mu), .ref aNw, .ref aNx, .int mw, .int mwa, .int (nI ((zK B en ma_2) + 1)), .int (nI en), .long mv_5, .int (nI (zK B en ma2)), .int ml])), (aMT, .inl (kMT, 65536, .inl B))] H := hP
                                have hD : va_D A [(aNx, .inl (kNx, 52650, .inl (upd nx2 (pl + j) vn_8))), (aM, .inr (4, [.int th, .ref aMT, .int (nI mu), .ref aNw, .ref aNx, .int mw, .int mwa, .int (nI ((zK B en ma_2) + 1)), .int (nI en), .long mv_5, .int (nI (zK B en ma2)), .int ml])), (aMT, .inl (kMT, 65536, .inl B))] := hD
                                refine lv_aload_n hx hb d_Md_list_235 rfl (lv_at hl 2 rfl) ?_
                                refine lv_iload hx hb d_Md_list_236 (lv_at hl 1 rfl) ?_
                                refine va_put (D := (dC, dI)) (ci := 4) (v := .int (nI (j + 1))) (ty := .int) (C := R_Md) (T := F_Md) (N := 12) hx hb hz i_Md t_Md t_Md_ok n_Md hown hK hP hD hS 1 rfl rfl 11 (by decide) (hz _ tw_487) (fun _ h9 => h9) rfl (by decide +kernel) rfl rfl (Nat.le_of_ble_eq_true rfl) d_Md_list_238 (fun H locs hP hD hS => ?_)
                                have hP : va_P (dC, dI) vwCl [(aNx, .inl (kNx, 52650, .inl (upd nx2 (pl + j) vn_8))), (aM, .inr (4, [.int th, .ref aMT, .int (nI mu), .ref aNw, .ref aNx, .int mw, .int mwa, .int (nI ((zK B en ma_2) + 1)), .int (nI en), .long mv_5, .int (nI (zK B en ma2)), .int (nI (j + 1))])), (aMT, .inl (kMT, 65536, .inl B))] H := hP
                                have hD : va_D A [(aNx, .inl (kNx, 52650, .inl (upd nx2 (pl + j) vn_8))), (aM, .inr (4, [.int th, .ref aMT, .int (nI mu), .ref aNw, .ref aNx, .int mw, .int mwa, .int (nI ((zK B en ma_2) + 1)), .int (nI en), .long mv_5, .int (nI (zK B en ma2)), .int (nI (j + 1))])), (aMT, .inl (kMT, 65536, .inl B))] := hD
                                refine lv_iconst (v := 1) hx hb d_Md_list_241 (by decide) ?_
                                refine zt_size (fun hzs => ?_)
                                have hP9 := hP.sub (ws' := [(aM, .inr (4, [.int th, .ref aMT, .int (nI mu), .ref aNw, .ref aNx, .int mw, .int mwa, .int (nI ((zK B en ma_2) + 1)), .int (nI en), .long mv_5, .int (nI (zK B en ma2)), .int (nI (j + 1))])), (aMT, .inl (kMT, 65536, .inl B)), (aNx, .inl (kNx, 52650, .inl (upd nx2 (pl + j) vn_8)))]) [1, 2, 0] rfl
                                have hD9 := hD.sub (ws' := [(aM, .inr (4, [.int th, .ref aMT, .int (nI mu), .ref aNw, .ref aNx, .int mw, .int mwa, .int (nI ((zK B en ma_2) + 1)), .int (nI en), .long mv_5, .int (nI (zK B en ma2)), .int (nI (j + 1))])), (aMT, .inl (kMT, 65536, .inl B)), (aNx, .inl (kNx, 52650, .inl (upd nx2 (pl + j) vn_8)))]) [1, 2, 0] (by decide) rfl
                                exact W.zret (v := 1) hx hb hr rfl (fun t ht hW => ⟨⟨1, ((zK B en ma_2) + 1, mw, mwa, mv_5, nI (zK B en ma2), upd nx2 (pl + j) vn_8, nI (j + 1)), rfl, Or.inl ⟨rfl, by omega, rfl, rfl, _, by rw [tl_30]; unfold zTail; rw [if_neg (fun z => absurd z.1 (fun z => z.elim c_36 (fun z => z.2 c_46)))]; simp only [zMust]; rw [if_pos hs_34, zB_ok], rfl⟩, by rw [ht]; exact hP9, hD9, by rw [ht]; exact hzs⟩, hS.F ht⟩) hS.2.2 d_Md_list_242
                              ·
                                have c_46 : ¬ (((j + 1) % 3) = 0) := fun z => c_46 ((@nI_eq ((j + 1) % 3) 0 (by omega) (by omega)).mpr z)
                                refine lv_aload_n hx hb d_Md_list_215 rfl (lv_at hl 2 rfl) ?_
                                refine lv_iconst (v := 3) hx hb d_Md_list_216 (by decide) ?_
                                refine lv_aload_n hx hb d_Md_list_217 rfl (lv_at hl 2 rfl) ?_
                                refine va_get (D := (dC, dI)) (ci := 4) (v := .int (nI (zK B en ma_2))) (C := R_Md) (T := F_Md) (N := 12) hx hb hz i_Md hown hK hP 1 rfl rfl 7 (by decide) (hz _ tw_483) (fun _ h9 => h9) rfl d_Md_list_218 ?_
                                have hPc := hP.sub (ws' := [(aM, .inr (4, [.int th, .ref aMT, .int (nI mu), .ref aNw, .ref aNx, .int mw, .int mwa, .int (nI (zK B en ma_2)), .int (nI en), .long mv_5, .int (nI (zK B en ma2)), .int ml]))]) [1] rfl
                                have hDc := hD.sub (ws' := [(aM, .inr (4, [.int th, .ref aMT, .int (nI mu), .ref aNw, .ref aNx, .int mw, .int mwa, .int (nI (zK B en ma_2)), .int (nI en), .long mv_5, .int (nI (zK B en ma2)), .int ml]))]) [1] (by decide) rfl
                                have hKc := hK.sub (tys' := []) [] rfl
                                have hFc := va_free (wc := [(aM, .inr (4, [.int th, .ref aMT, .int (nI mu), .ref aNw, .ref aNx, .int mw, .int mwa, .int (nI (zK B en ma_2)), .int (nI en), .long mv_5, .int (nI (zK B en ma2)), .int ml]))]) hD hS hA [1] rfl
                                refine va_calli (va_runV (As := [.int 3, .int (nI (zK B en ma_2))]) (rest := []) ⟨hx, hb, hml, hown, hts⟩ (c_Md_fails l G dC dI H.size aM th aMT mu aNw aNx mw mwa (zK B en ma_2) en mv_5 (nI (zK B en ma2)) ml 3 (nI (zK B en ma_2))) (cwV 2 hts (gV tw_549 tw_551 ts_23 tw_5 tw_552 rfl) rfl rfl rfl (by decide +kernel) ⟨Nat.le_of_ble_eq_true rfl, Nat.le_of_ble_eq_true rfl⟩) (PW_preV hPc hKc hDc hE hS hFc (ci := 4) (q0 := 0) rfl rfl) rfl rfl hl.1 rfl (lv_room (Nat.le_of_ble_eq_true rfl)) d_Md_list_221 ⟨Nat.le_of_ble_eq_true rfl, Nat.le_of_ble_eq_true rfl⟩) hS (fun q _ h => hFc q h) hFc (fun r_47 uu t H1 locs ht hvm hw_50 hB hz1 hk1 hS => ?_)
                                obtain ⟨mw_48, mwa_49⟩ := uu
                                obtain ⟨hP1, hD1, hsz1⟩ := hB
                                rw [ht] at hP1 hsz1
                                obtain ⟨hP, hD⟩ := va_join (wr := [(aNx, .inl (kNx, 52650, .inl (upd nx2 (pl + j) vn_8))), (aMT, .inl (kMT, 65536, .inl B))]) (w1 := [(aM, .inr (4, [.int th, .ref aMT, .int (nI mu), .ref aNw, .ref aNx, .int mw_48, .int mwa_49, .int (nI (zK B en ma_2)), .int (nI en), .long mv_5, .int (nI (zK B en ma2)), .int ml]))]) hP hD [1] [0, 2] rfl rfl (by decide) (by decide) hk1 hFc hP1 hD1
                                generalize H1 = H at hP hS ⊢
                                have hP : va_P (dC, dI) vwCl [(aNx, .inl (kNx, 52650, .inl (upd nx2 (pl + j) vn_8))), (aMT, .inl (kMT, 65536, .inl B)), (aM, .inr (4, [.int th, .ref aMT, .int (nI mu), .ref aNw, .ref aNx, .int mw_48, .int mwa_49, .int (nI (zK B en ma_2)), .int (nI en), .long mv_5, .int (nI (zK B en ma2)), .int ml]))] H := hP
                                have hD : va_D A [(aNx, .inl (kNx, 52650, .inl (upd nx2 (pl + j) vn_8))), (aMT, .inl (kMT, 65536, .inl B)), (aM, .inr (4, [.int th, .ref aMT, .int (nI mu), .ref aNw, .ref aNx, .int mw_48, .int mwa_49, .int (nI (zK B en ma_2)), .int (nI en), .long mv_5, .int (nI (zK B en ma2)), .int ml]))] := hD
                                obtain ⟨e0, e1, e2⟩ := hw_50
                                subst e0
                                have e1 := e1.symm; subst e1
                                have e2 := e2.symm; subst e2
                                refine zt_size (fun hzs => ?_)
                                have hP9 := hP.sub (ws' := [(aM, .inr (4, [.int th, .ref aMT, .int (nI mu), .ref aNw, .ref aNx, .int 3, .int (nI (zK B en ma_2)), .int (nI (zK B en ma_2)), .int (nI en), .long mv_5, .int (nI (zK B en ma2)), .int ml])), (aMT, .inl (kMT, 65536, .inl B)), (aNx, .inl (kNx, 52650, .inl (upd nx2 (pl + j) vn_8)))]) [2, 1, 0] rfl
                                have hD9 := hD.sub (ws' := [(aM, .inr (4, [.int th, .ref aMT, .int (nI mu), .ref aNw, .ref aNx, .int 3, .int (nI (zK B en ma_2)), .int (nI (zK B en ma_2)), .int (nI en), .long mv_5, .int (nI (zK B en ma2)), .int ml])), (aMT, .inl (kMT, 65536, .inl B)), (aNx, .inl (kNx, 52650, .inl (upd nx2 (pl + j) vn_8)))]) [2, 1, 0] (by decide) rfl
                                exact W.zret (v := 0) hx hb hr rfl (fun t ht hW => ⟨⟨0, (zK B en ma_2, 3, nI (zK B en ma_2), mv_5, nI (zK B en ma2), upd nx2 (pl + j) vn_8, ml), rfl, Or.inr ⟨rfl, by omega, _, by rw [tl_30]; unfold zTail; rw [if_pos ⟨Or.inr ⟨by decide, c_46⟩, hs_34⟩], rfl⟩, by rw [ht]; exact hP9, hD9, by rw [ht]; exact hzs⟩, hS.F ht⟩) hS.2.2 d_Md_list_224
                        ·
                          exact absurd c_35 (by decide)
                      ·
                        rw [if_neg hs_34] at e2; subst e2
                        refine lv_if_ne (tgt := 200) hx hb d_Md_list_187 (by decide) (fun c_51 => ?_) (fun c_51 => ?_)
                        ·
                          exact absurd (by decide) c_51
                        ·
                          refine lv_aload_n hx hb d_Md_list_190 rfl (lv_at hl 2 rfl) ?_
                          refine lv_iconst (v := 1) hx hb d_Md_list_191 (by decide) ?_
                          refine lv_aload_n hx hb d_Md_list_192 rfl (lv_at hl 2 rfl) ?_
                          refine va_get (D := (dC, dI)) (ci := 4) (v := .int (nI (zK B en ma_2))) (C := R_Md) (T := F_Md) (N := 12) hx hb hz i_Md hown hK hP 1 rfl rfl 7 (by decide) (hz _ tw_483) (fun _ h9 => h9) rfl d_Md_list_193 ?_
                          have hPc := hP.sub (ws' := [(aM, .inr (4, [.int th, .ref aMT, .int (nI mu), .ref aNw, .ref aNx, .int mw, .int mwa, .int (nI (zK B en ma_2)), .int (nI en), .long mv_5, .int (nI (zK B en ma2)), .int ml]))]) [1] rfl
                          have hDc := hD.sub (ws' := [(aM, .inr (4, [.int th, .ref aMT, .int (nI mu), .ref aNw, .ref aNx, .int mw, .int mwa, .int (nI (zK B en ma_2)), .int (nI en), .long mv_5, .int (nI (zK B en ma2)), .int ml]))]) [1] (by decide) rfl
                          have hKc := hK.sub (tys' := []) [] rfl
                          have hFc := va_free (wc := [(aM, .inr (4, [.int th, .ref aMT, .int (nI mu), .ref aNw, .ref aNx, .int mw, .int mwa, .int (nI (zK B en ma_2)), .int (nI en), .long mv_5, .int (nI (zK B en ma2)), .int ml]))]) hD hS hA [1] rfl
                          refine va_calli (va_runV (As := [.int 1, .int (nI (zK B en ma_2))]) (rest := []) ⟨hx, hb, hml, hown, hts⟩ (c_Md_fails l G dC dI H.size aM th aMT mu aNw aNx mw mwa (zK B en ma_2) en mv_5 (nI (zK B en ma2)) ml 1 (nI (zK B en ma_2))) (cwV 2 hts (gV tw_549 tw_551 ts_23 tw_5 tw_552 rfl) rfl rfl rfl (by decide +kernel) ⟨Nat.le_of_ble_eq_true rfl, Nat.le_of_ble_eq_true rfl⟩) (PW_preV hPc hKc hDc hE hS hFc (ci := 4) (q0 := 0) rfl rfl) rfl rfl hl.1 rfl (lv_room (Nat.le_of_ble_eq_true rfl)) d_Md_list_196 ⟨Nat.le_of_ble_eq_true rfl, Nat.le_of_ble_eq_true rfl⟩) hS (fun q _ h => hFc q h) hFc (fun r_52 uu t H1 locs ht hvm hw_55 hB hz1 hk1 hS => ?_)
                          obtain ⟨mw_53, mwa_54⟩ := uu
                          obtain ⟨hP1, hD1, hsz1⟩ := hB
                          rw [ht] at hP1 hsz1
                          obtain ⟨hP, hD⟩ := va_join (wr := [(aNx, .inl (kNx, 52650, .inl (upd nx2 (pl + j) vn_8))), (aMT, .inl (kMT, 65536, .inl B))]) (w1 := [(aM, .inr (4, [.int th, .ref aMT, .int (nI mu), .ref aNw, .ref aNx, .int mw_53, .int mwa_54, .int (nI (zK B en ma_2)), .int (nI en), .long mv_5, .int (nI (zK B en ma2)), .int ml]))]) hP hD [1] [0, 2] rfl rfl (by decide) (by decide) hk1 hFc hP1 hD1
                          generalize H1 = H at hP hS ⊢
                          have hP : va_P (dC, dI) vwCl [(aNx, .inl (kNx, 52650, .inl (upd nx2 (pl + j) vn_8))), (aMT, .inl (kMT, 65536, .inl B)), (aM, .inr (4, [.int th, .ref aMT, .int (nI mu), .ref aNw, .ref aNx, .int mw_53, .int mwa_54, .int (nI (zK B en ma_2)), .int (nI en), .long mv_5, .int (nI (zK B en ma2)), .int ml]))] H := hP
                          have hD : va_D A [(aNx, .inl (kNx, 52650, .inl (upd nx2 (pl + j) vn_8))), (aMT, .inl (kMT, 65536, .inl B)), (aM, .inr (4, [.int th, .ref aMT, .int (nI mu), .ref aNw, .ref aNx, .int mw_53, .int mwa_54, .int (nI (zK B en ma_2)), .int (nI en), .long mv_5, .int (nI (zK B en ma2)), .int ml]))] := hD
                          obtain ⟨e0, e1, e2⟩ := hw_55
                          subst e0
                          have e1 := e1.symm; subst e1
                          have e2 := e2.symm; subst e2
                          refine zt_size (fun hzs => ?_)
                          have hP9 := hP.sub (ws' := [(aM, .inr (4, [.int th, .ref aMT, .int (nI mu), .ref aNw, .ref aNx, .int 1, .int (nI (zK B en ma_2)), .int (nI (zK B en ma_2)), .int (nI en), .long mv_5, .int (nI (zK B en ma2)), .int ml])), (aMT, .inl (kMT, 65536, .inl B)), (aNx, .inl (kNx, 52650, .inl (upd nx2 (pl + j) vn_8)))]) [2, 1, 0] rfl
                          have hD9 := hD.sub (ws' := [(aM, .inr (4, [.int th, .ref aMT, .int (nI mu), .ref aNw, .ref aNx, .int 1, .int (nI (zK B en ma_2)), .int (nI (zK B en ma_2)), .int (nI en), .long mv_5, .int (nI (zK B en ma2)), .int ml])), (aMT, .inl (kMT, 65536, .inl B)), (aNx, .inl (kNx, 52650, .inl (upd nx2 (pl + j) vn_8)))]) [2, 1, 0] (by decide) rfl
                          exact W.zret (v := 0) hx hb hr rfl (fun t ht hW => ⟨⟨0, (zK B en ma_2, 1, nI (zK B en ma_2), mv_5, nI (zK B en ma2), upd nx2 (pl + j) vn_8, ml), rfl, Or.inr ⟨rfl, by omega, _, by rw [tl_30]; unfold zTail; rw [if_neg (fun z => hs_34 z.2)]; simp only [zMust]; rw [if_neg hs_34, zB_er], rfl⟩, by rw [ht]; exact hP9, hD9, by rw [ht]; exact hzs⟩, hS.F ht⟩) hS.2.2 d_Md_list_199
                    ·
                      exact absurd (by decide) c_29
                  ·
                    exact absurd (by decide) c_28
              ·
                refine lv_iload hx hb d_Md_list_96 (lv_at hl 9 rfl) ?_
                refine lv_if_le (tgt := 131) hx hb d_Md_list_98 (by decide) (fun c_56 => ?_) (fun c_56 => ?_)
                ·
                  have c_56 : j ≤ 0 := (@nI_leI j 0 (by omega) (by omega)).mp c_56
                  refine lv_aload_n hx hb d_Md_list_131 rfl (lv_at hl 0 rfl) ?_
                  refine va_get (D := (dC, dI)) (ci := 4) (v := .ref aNx) (C := R_Md) (T := F_Md) (N := 12) hx hb hz i_Md hown hK hP 1 rfl rfl 4 (by decide) (hz _ tw_480) (fun _ h9 => h9) rfl d_Md_list_132 ?_
                  refine lv_iload_n hx hb d_Md_list_135 rfl (lv_at hl 2 rfl) ?_
                  refine lv_iload hx hb d_Md_list_136 (lv_at hl 9 rfl) ?_
                  refine lv_iadd hx hb d_Md_list_138 ?_
                  refine zt_top (nI_add pl j) ?_
                  refine lv_aload_n hx hb d_Md_list_139 rfl (lv_at hl 0 rfl) ?_
                  refine va_get (D := (dC, dI)) (ci := 4) (v := .long mv_5) (C := R_Md) (T := F_Md) (N := 12) hx hb hz i_Md hown hK hP 1 rfl rfl 9 (by decide) (hz _ tw_485) (fun _ h9 => h9) rfl d_Md_list_140 ?_
                  refine lv_l2i (v := mv_5.toInt32) hx hb d_Md_list_143 rfl ?_
                  refine zt_top (zVal_eq hw_7v hlo1 hhi2 (fun z => c_11 ((lg_cmp_lt _ _).mpr ((zVal_lt hw_7v hlo1 hlo2).mpr z))) (fun z => c_16 ((lg_cmp_gt _ _).mpr ((zVal_gt hw_7v hhi1 hhi2).mpr z)))) ?_
                  refine va_iast (D := (dC, dI)) (i := nI (pl + j)) (x := vn_8) hx hb hK hP hD hS 0 1 rfl rfl (vp_in_nI (by omega) (by decide)) d_Md_list_144 (fun H locs hP hD hS => ?_)
                  rw [nI_clamp (by omega)] at hP hD
                  have hP : va_P (dC, dI) vwCl [(aNx, .inl (kNx, 52650, .inl (upd nx2 (pl + j) vn_8))), (aM, .inr (4, [.int th, .ref aMT, .int (nI mu), .ref aNw, .ref aNx, .int mw, .int mwa, .int (nI ma_2), .int (nI en), .long mv_5, .int (nI (zK B en ma2)), .int ml])), (aMT, .inl (kMT, 65536, .inl B))] H := hP
                  have hD : va_D A [(aNx, .inl (kNx, 52650, .inl (upd nx2 (pl + j) vn_8))), (aM, .inr (4, [.int th, .ref aMT, .int (nI mu), .ref aNw, .ref aNx, .int mw, .int mwa, .int (nI ma_2), .int (nI en), .long mv_5, .int (nI (zK B en ma2)), .int ml])), (aMT, .inl (kMT, 65536, .inl B))] := hD
                  refine lv_iinc (v := nI (j + 1)) (lv' := [(10, .int (nI (j + 1))), (0, .ref aM), (1, .long (zWv ks)), (3, .int (nI pl)), (4, .int (nI le)), (5, .int (nI mo)), (6, .int (nI wl)), (7, .int low), (8, .int hig), (9, .int gi)]) hx hb d_Md_list_145 hl (k := 9) rfl (nI_add j 1) (by decide) rfl (fun ls hl => ?_)
                  refine lv_aload_n hx hb d_Md_list_148 rfl (lv_at hl 1 rfl) ?_
                  refine lv_bipush (v := 44) hx hb d_Md_list_149 (by decide) ?_
                  have hPc := hP.sub (ws' := [(aM, .inr (4, [.int th, .ref aMT, .int (nI mu), .ref aNw, .ref aNx, .int mw, .int mwa, .int (nI ma_2), .int (nI en), .long mv_5, .int (nI (zK B en ma2)), .int ml])), (aMT, .inl (kMT, 65536, .inl B))]) [1, 2] rfl
                  have hDc := hD.sub (ws' := [(aM, .inr (4, [.int th, .ref aMT, .int (nI mu), .ref aNw, .ref aNx, .int mw, .int mwa, .int (nI ma_2), .int (nI en), .long mv_5, .int (nI (zK B en ma2)), .int ml])), (aMT, .inl (kMT, 65536, .inl B))]) [1, 2] (by decide) rfl
                  have hKc := hK.sub (tys' := [(kMT, .byte)]) [0] rfl
                  have hFc := va_free (wc := [(aM, .inr (4, [.int th, .ref aMT, .int (nI mu), .ref aNw, .ref aNx, .int mw, .int mwa, .int (nI ma_2), .int (nI en), .long mv_5, .int (nI (zK B en ma2)), .int ml])), (aMT, .inl (kMT, 65536, .inl B))]) hD hS hA [1, 2] rfl
                  refine va_calli (va_runV (As := [.int 44]) (rest := []) ⟨hx, hb, hml, hown, hts⟩ (c_Md_comes l G dC dI H.size aM th aMT mu aNw aNx mw mwa ma_2 en mv_5 (nI (zK B en ma2)) ml kMT B 44 (by omega) (by omega)) (cwV 1 hts (gV tw_541 tw_543 ts_21 tw_5 tw_544 rfl) rfl rfl rfl (by decide +kernel) ⟨Nat.le_of_ble_eq_true rfl, Nat.le_of_ble_eq_true rfl⟩) (PW_preV hPc hKc hDc hE hS hFc (ci := 4) (q0 := 0) rfl rfl) rfl rfl hl.1 rfl (lv_room (Nat.le_of_ble_eq_true rfl)) d_Md_list_151 ⟨Nat.le_of_ble_eq_true rfl, Nat.le_of_ble_eq_true rfl⟩) hS (fun q _ h => hFc q h) hFc (fun r_57 uu t H1 locs ht hvm hw_59 hB hz1 hk1 hS => ?_)
                  obtain ⟨ma_58, rfl⟩ : ∃ z, z = uu := ⟨_, rfl⟩
                  obtain ⟨hP1, hD1, hsz1⟩ := hB
                  rw [ht] at hP1 hsz1
                  obtain ⟨hP, hD⟩ := va_join (wr := [(aNx, .inl (kNx, 52650, .inl (upd nx2 (pl + j) vn_8)))]) (w1 := [(aM, .inr (4, [.int th, .ref aMT, .int (nI mu), .ref aNw, .ref aNx, .int mw, .int mwa, .int (nI ma_58), .int (nI en), .long mv_5, .int (nI (zK B en ma2)), .int ml])), (aMT, .inl (kMT, 65536, .inl B))]) hP hD [1, 2] [0] rfl rfl (by decide) (by decide) hk1 hFc hP1 hD1
                  generalize H1 = H at hP hS ⊢
                  have hP : va_P (dC, dI) vwCl [(aNx, .inl (kNx, 52650, .inl (upd nx2 (pl + j) vn_8))), (aM, .inr (4, [.int th, .ref aMT, .int (nI mu), .ref aNw, .ref aNx, .int mw, .int mwa, .int (nI ma_58), .int (nI en), .long mv_5, .int (nI (zK B en ma2)), .int ml])), (aMT, .inl (kMT, 65536, .inl B))] H := hP
                  have hD : va_D A [(aNx, .inl (kNx, 52650, .inl (upd nx2 (pl + j) vn_8))), (aM, .inr (4, [.int th, .ref aMT, .int (nI mu), .ref aNw, .ref aNx, .int mw, .int mwa, .int (nI ma_58), .int (nI en), .long mv_5, .int (nI (zK B en ma2)), .int ml])), (aMT, .inl (kMT, 65536, .inl B))] := hD
                  have hw_59i := zK_le (B := B) (en := en) (i := ma_2) (by omega)
                  obtain ⟨e1, e2⟩ := hw_59
                  have e1 := e1.symm; subst e1
                  by_cases hs_60 : zK B en ma_2 < en ∧ B (zK B en ma_2) = 44
                  ·
                    rw [if_pos hs_60] at e2; subst e2
                    refine lv_istore (lv' := [(11, .int 1), (10, .int (nI (j + 1))), (0, .ref aM), (1, .long (zWv ks)), (3, .int (nI pl)), (4, .int (nI le)), (5, .int (nI mo)), (6, .int (nI wl)), (7, .int low), (8, .int hig), (9, .int gi)]) hx hb d_Md_list_154 hl (by decide) rfl (fun ls hl => ?_)
                    refine lv_aload_n hx hb d_Md_list_156 rfl (lv_at hl 2 rfl) ?_
                    refine lv_iload hx hb d_Md_list_157 (lv_at hl 0 rfl) ?_
                    refine lv_if_eq (tgt := 171) hx hb d_Md_list_159 (by decide) (fun c_61 => ?_) (fun c_61 => ?_)
                    ·
                      exact absurd c_61 (by decide)
                    ·
                      refine lv_aload_n hx hb d_Md_list_162 rfl (lv_at hl 2 rfl) ?_
                      refine va_get (D := (dC, dI)) (ci := 4) (v := .int (nI (zK B en ma_2))) (C := R_Md) (T := F_Md) (N := 12) hx hb hz i_Md hown hK hP 1 rfl rfl 7 (by decide) (hz _ tw_483) (fun _ h9 => h9) rfl d_Md_list_163 ?_
                      refine lv_iconst (v := 1) hx hb d_Md_list_166 (by decide) ?_
                      refine lv_iadd hx hb d_Md_list_167 ?_
                      refine zt_top (nI_add (zK B en ma_2) 1) ?_
                      refine lv_goto (tgt := 175) hx hb d_Md_list_168 (by decide) ?_
                      refine va_put (D := (dC, dI)) (ci := 4) (v := .int (nI ((zK B en ma_2) + 1))) (ty := .int) (C := R_Md) (T := F_Md) (N := 12) hx hb hz i_Md t_Md t_Md_ok n_Md hown hK hP hD hS 1 rfl rfl 7 (by decide) (hz _ tw_483) (fun _ h9 => h9) rfl (by decide +kernel) rfl rfl (Nat.le_of_ble_eq_true rfl) d_Md_list_175 (fun H locs hP hD hS => ?_)
                      have hP : va_P (dC, dI) vwCl [(aNx, .inl (kNx, 52650, .inl (upd nx2 (pl + j) vn_8))), (aM, .inr (4, [.int th, .ref aMT, .int (nI mu), .ref aNw, .ref aNx, .int mw, .int mwa, .int (nI ((zK B en ma_2) + 1)), .int (nI en), .long mv_5, .int (nI (zK B en ma2)), .int ml])), (aMT, .inl (kMT, 65536, .inl B))] H := hP
                      have hD : va_D A [(aNx, .inl (kNx, 52650, .inl (upd nx2 (pl + j) vn_8))), (aM, .inr (4, [.int th, .ref aMT, .int (nI mu), .ref aNw, .ref aNx, .int mw, .int mwa, .int (nI ((zK B en ma_2) + 1)), .int (nI en), .long mv_5, .int (nI (zK B en ma2)), .int ml])), (aMT, .inl (kMT, 65536, .inl B))] := hD
                      refine lv_goto (tgt := 38) hx hb d_Md_list_178 (by decide) ?_
                      refine lv_iload hx hb d_Md_list_38 (lv_at hl 0 rfl) ?_
                      refine lv_if_eq (tgt := 181) hx hb d_Md_list_40 (by decide) (fun c_62 => ?_) (fun c_62 => ?_)
                      ·
                        exact absurd c_62 (by decide)
                      ·
                        exact ih (j + 1) ((zK B en ma_2) + 1) mv_5 (nI (zK B en ma2)) (if decide (gi = 1) = true then vn_8 + 1 else low) (upd nx2 (pl + j) vn_8) (by omega) (by omega) (by omega) (fun z => z.elim (fun z => absurd z (by omega)) (fun z => by rw [z]; exact if_neg (by decide))) (fun _ g => ⟨by rw [if_pos g, show pl + (j + 1 - 1) = pl + j by omega, pk_us], by rw [show pl + (j + 1 - 1) = pl + j by omega, pk_us]; exact (fun z => c_11 ((lg_cmp_lt _ _).mpr ((zVal_lt hw_7v hlo1 hlo2).mpr z))), by rw [show pl + (j + 1 - 1) = pl + j by omega, pk_us]; exact (fun z => c_16 ((lg_cmp_gt _ _).mpr ((zVal_gt hw_7v hhi1 hhi2).mpr z)))⟩) (by rw [hI, zLst_step (by omega), hw_7a, zB_ok, if_neg c_10, if_neg (fun z => ((zgrow hlw0 hlw1 hhi2 hlo1).mp z).elim (fun z => c_11 ((lg_cmp_lt _ _).mpr ((zVal_lt hw_7v hlo1 hlo2).mpr z))) (fun z => z.elim (fun z => c_16 ((lg_cmp_gt _ _).mpr ((zVal_gt hw_7v hhi1 hhi2).mpr z))) (fun z => z.2.1 (by omega)))), if_pos hs_60]) _ _ (hP.sub [1, 2, 0] rfl) (hD.sub [1, 2, 0] (by decide) rfl) hS ls (lv_sub hl [2, 3, 4, 5, 6, 7, 8, 9, 10, 1] rfl)
                  ·
                    rw [if_neg hs_60] at e2; subst e2
                    refine lv_istore (lv' := [(11, .int 0), (10, .int (nI (j + 1))), (0, .ref aM), (1, .long (zWv ks)), (3, .int (nI pl)), (4, .int (nI le)), (5, .int (nI mo)), (6, .int (nI wl)), (7, .int low), (8, .int hig), (9, .int gi)]) hx hb d_Md_list_154 hl (by decide) rfl (fun ls hl => ?_)
                    refine lv_aload_n hx hb d_Md_list_156 rfl (lv_at hl 2 rfl) ?_
                    refine lv_iload hx hb d_Md_list_157 (lv_at hl 0 rfl) ?_
                    refine lv_if_eq (tgt := 171) hx hb d_Md_list_159 (by decide) (fun c_63 => ?_) (fun c_63 => ?_)
                    ·
                      refine lv_aload_n hx hb d_Md_list_171 rfl (lv_at hl 2 rfl) ?_
                      refine va_get (D := (dC, dI)) (ci := 4) (v := .int (nI (zK B en ma_2))) (C := R_Md) (T := F_Md) (N := 12) hx hb hz i_Md hown hK hP 1 rfl rfl 7 (by decide) (hz _ tw_483) (fun _ h9 => h9) rfl d_Md_list_172 ?_
                      refine va_put (D := (dC, dI)) (ci := 4) (v := .int (nI (zK B en ma_2))) (ty := .int) (C := R_Md) (T := F_Md) (N := 12) hx hb hz i_Md t_Md t_Md_ok n_Md hown hK hP hD hS 1 rfl rfl 7 (by decide) (hz _ tw_483) (fun _ h9 => h9) rfl (by decide +kernel) rfl rfl (Nat.le_of_ble_eq_true rfl) d_Md_list_175 (fun H locs hP hD hS => ?_)
                      have hP : va_P (dC, dI) vwCl [(aNx, .inl (kNx, 52650, .inl (upd nx2 (pl + j) vn_8))), (aM, .inr (4, [.int th, .ref aMT, .int (nI mu), .ref aNw, .ref aNx, .int mw, .int mwa, .int (nI (zK B en ma_2)), .int (nI en), .long mv_5, .int (nI (zK B en ma2)), .int ml])), (aMT, .inl (kMT, 65536, .inl B))] H := hP
                      have hD : va_D A [(aNx, .inl (kNx, 52650, .inl (upd nx2 (pl + j) vn_8))), (aM, .inr (4, [.int th, .ref aMT, .int (nI mu), .ref aNw, .ref aNx, .int mw, .int mwa, .int (nI (zK B en ma_2)), .int (nI en), .long mv_5, .int (nI (zK B en ma2)), .int ml])), (aMT, .inl (kMT, 65536, .inl B))] := hD
                      refine lv_goto (tgt := 38) hx hb d_Md_list_178 (by decide) ?_
                      refine lv_iload hx hb d_Md_list_38 (lv_at hl 0 rfl) ?_
                      refine lv_if_eq (tgt := 181) hx hb d_Md_list_40 (by decide) (fun c_64 => ?_) (fun c_64 => ?_)
                      ·
                        have tl_65 : (zB (zKey B en (zSb ks) (zK B en ma)) fun h1 => zList B en (decide (gi = 1)) (decide (wl = 3)) le mo pl low hig h1 nx) = zTail B en (decide (wl = 3)) le (j + 1, zK B en ma_2, upd nx2 (pl + j) vn_8) := by rw [hI, zLst_step (by omega), hw_7a, zB_ok, if_neg c_10, if_neg (fun z => ((zgrow hlw0 hlw1 hhi2 hlo1).mp z).elim (fun z => c_11 ((lg_cmp_lt _ _).mpr ((zVal_lt hw_7v hlo1 hlo2).mpr z))) (fun z => z.elim (fun z => c_16 ((lg_cmp_gt _ _).mpr ((zVal_gt hw_7v hhi1 hhi2).mpr z))) (fun z => z.2.1 (by omega)))), if_neg hs_60, zB_ok]
                        refine lv_aload_n hx hb d_Md_list_181 rfl (lv_at hl 2 rfl) ?_
                        refine lv_bipush (v := 93) hx hb d_Md_list_182 (by decide) ?_
                        have hPc := hP.sub (ws' := [(aM, .inr (4, [.int th, .ref aMT, .int (nI mu), .ref aNw, .ref aNx, .int mw, .int mwa, .int (nI (zK B en ma_2)), .int (nI en), .long mv_5, .int (nI (zK B en ma2)), .int ml])), (aMT, .inl (kMT, 65536, .inl B))]) [1, 2] rfl
                        have hDc := hD.sub (ws' := [(aM, .inr (4, [.int th, .ref aMT, .int (nI mu), .ref aNw, .ref aNx, .int mw, .int mwa, .int (nI (zK B en ma_2)), .int (nI en), .long mv_5, .int (nI (zK B en ma2)), .int ml])), (aMT, .inl (kMT, 65536, .inl B))]) [1, 2] (by decide) rfl
                        have hKc := hK.sub (tys' := [(kMT, .byte)]) [0] rfl
                        have hFc := va_free (wc := [(aM, .inr (4, [.int th, .ref aMT, .int (nI mu), .ref aNw, .ref aNx, .int mw, .int mwa, .int (nI (zK B en ma_2)), .int (nI en), .long mv_5, .int (nI (zK B en ma2)), .int ml])), (aMT, .inl (kMT, 65536, .inl B))]) hD hS hA [1, 2] rfl
                        refine va_calli (va_runV (As := [.int 93]) (rest := []) ⟨hx, hb, hml, hown, hts⟩ (c_Md_comes l G dC dI H.size aM th aMT mu aNw aNx mw mwa (zK B en ma_2) en mv_5 (nI (zK B en ma2)) ml kMT B 93 (by omega) (by omega)) (cwV 1 hts (gV tw_541 tw_543 ts_21 tw_5 tw_544 rfl) rfl rfl rfl (by decide +kernel) ⟨Nat.le_of_ble_eq_true rfl, Nat.le_of_ble_eq_true rfl⟩) (PW_preV hPc hKc hDc hE hS hFc (ci := 4) (q0 := 0) rfl rfl) rfl rfl hl.1 rfl (lv_room (Nat.le_of_ble_eq_true rfl)) d_Md_list_184 ⟨Nat.le_of_ble_eq_true rfl, Nat.le_of_ble_eq_true rfl⟩) hS (fun q _ h => hFc q h) hFc (fun r_66 uu t H1 locs ht hvm hw_68 hB hz1 hk1 hS => ?_)
                        obtain ⟨ma_67, rfl⟩ : ∃ z, z = uu := ⟨_, rfl⟩
                        obtain ⟨hP1, hD1, hsz1⟩ := hB
                        rw [ht] at hP1 hsz1
                        obtain ⟨hP, hD⟩ := va_join (wr := [(aNx, .inl (kNx, 52650, .inl (upd nx2 (pl + j) vn_8)))]) (w1 := [(aM, .inr (4, [.int th, .ref aMT, .int (nI mu), .ref aNw, .ref aNx, .int mw, .int mwa, .int (nI ma_67), .int (nI en), .long mv_5, .int (nI (zK B en ma2)), .int ml])), (aMT, .inl (kMT, 65536, .inl B))]) hP hD [1, 2] [0] rfl rfl (by decide) (by decide) hk1 hFc hP1 hD1
                        generalize H1 = H at hP hS ⊢
                        have hP : va_P (dC, dI) vwCl [(aNx, .inl (kNx, 52650, .inl (upd nx2 (pl + j) vn_8))), (aM, .inr (4, [.int th, .ref aMT, .int (nI mu), .ref aNw, .ref aNx, .int mw, .int mwa, .int (nI ma_67), .int (nI en), .long mv_5, .int (nI (zK B en ma2)), .int ml])), (aMT, .inl (kMT, 65536, .inl B))] H := hP
                        have hD : va_D A [(aNx, .inl (kNx, 52650, .inl (upd nx2 (pl + j) vn_8))), (aM, .inr (4, [.int th, .ref aMT, .int (nI mu), .ref aNw, .ref aNx, .int mw, .int mwa, .int (nI ma_67), .int (nI en), .long mv_5, .int (nI (zK B en ma2)), .int ml])), (aMT, .inl (kMT, 65536, .inl B))] := hD
                        have hw_68i := zK_le (B := B) (en := en) (i := zK B en ma_2) (by omega)
                        rw [zK_idem] at hw_68 hw_68i
                        obtain ⟨e1, e2⟩ := hw_68
                        have e1 := e1.symm; subst e1
                        by_cases hs_69 : zK B en ma_2 < en ∧ B (zK B en ma_2) = 93
                        ·
                          rw [if_pos hs_69] at e2; subst e2
                          refine lv_if_ne (tgt := 200) hx hb d_Md_list_187 (by decide) (fun c_70 => ?_) (fun c_70 => ?_)
                          ·
                            refine lv_iload hx hb d_Md_list_200 (lv_at hl 1 rfl) ?_
                            refine lv_iload hx hb d_Md_list_202 (lv_at hl 5 rfl) ?_
                            refine lv_icmp_lt (tgt := 215) hx hb d_Md_list_204 (by decide) (fun c_71 => ?_) (fun c_71 => ?_)
                            ·
                              have c_71 : (j + 1) < le := (@nI_ltI (j + 1) le (by omega) (by omega)).mp c_71
                              refine lv_aload_n hx hb d_Md_list_215 rfl (lv_at hl 2 rfl) ?_
                              refine lv_iconst (v := 3) hx hb d_Md_list_216 (by decide) ?_
                              refine lv_aload_n hx hb d_Md_list_217 rfl (lv_at hl 2 rfl) ?_
                              refine va_get (D := (dC, dI)) (ci := 4) (v := .int (nI (zK B en ma_2))) (C := R_Md) (T := F_Md) (N := 12) hx hb hz i_Md hown hK hP 1 rfl rfl 7 (by decide) (hz _ tw_483) (fun _ h9 => h9) rfl d_Md_list_218 ?_
                              have hPc := hP.sub (ws' := [(aM, .inr (4, [.int th, .ref aMT, .int (nI mu), .ref aNw, .ref aNx, .int mw, .int mwa, .int (nI (zK B en ma_2)), .int (nI en), .long mv_5, .int (nI (zK B en ma2)), .int ml]))]) [1] rfl
                              have hDc := hD.sub (ws' := [(aM, .inr (4, [.int th, .ref aMT, .int (nI mu), .ref aNw, .ref aNx, .int mw, .int mwa, .int (nI (zK B en ma_2)), .int (nI en), .long mv_5, .int (nI (zK B en ma2)), .int ml]))]) [1] (by decide) rfl
                              have hKc := hK.sub (tys' := []) [] rfl
                              have hFc := va_free (wc := [(aM, .inr (4, [.int th, .ref aMT, .int (nI mu), .ref aNw, .ref aNx, .int mw, .int mwa, .int (nI (zK B en ma_2)), .int (nI en), .long mv_5, .int (nI (zK B en ma2)), .int ml]))]) hD hS hA [1] rfl
                              refine va_calli (va_runV (As := [.int 3, .int (nI (zK B en ma_2))]) (rest := []) ⟨hx, hb, hml, hown, hts⟩ (c_Md_fails l G dC dI H.size aM th aMT mu aNw aNx mw mwa (zK B en ma_2) en mv_5 (nI (zK B en ma2)) ml 3 (nI (zK B en ma_2))) (cwV 2 hts (gV tw_549 tw_551 ts_23 tw_5 tw_552 rfl) rfl rfl rfl (by decide +kernel) ⟨Nat.le_of_ble_eq_true rfl, Nat.le_of_ble_eq_true rfl⟩) (PW_preV hPc hKc hDc hE hS hFc (ci := 4) (q0 := 0) rfl rfl) rfl rfl hl.1 rfl (lv_room (Nat.le_of_ble_eq_true rfl)) d_Md_list_221 ⟨Nat.le_of_ble_eq_true rfl, Nat.le_of_ble_eq_true rfl⟩) hS (fun q _ h => hFc q h) hFc (fun r_72 uu t H1 locs ht hvm hw_75 hB hz1 hk1 hS => ?_)
                              obtain ⟨mw_73, mwa_74⟩ := uu
                              obtain ⟨hP1, hD1, hsz1⟩ := hB
                              rw [ht] at hP1 hsz1
                              obtain ⟨hP, hD⟩ := va_join (wr := [(aNx, .inl (kNx, 52650, .inl (upd nx2 (pl + j) vn_8))), (aMT, .inl (kMT, 65536, .inl B))]) (w1 := [(aM, .inr (4, [.int th, .ref aMT, .int (nI mu), .ref aNw, .ref aNx, .int mw_73, .int mwa_74, .int (nI (zK B en ma_2)), .int (nI en), .long mv_5, .int (nI (zK B en ma2)), .int ml]))]) hP hD [1] [0, 2] rfl rfl (by decide) (by decide) hk1 hFc hP1 hD1
                              generalize H1 = H at hP hS ⊢
                              have hP : va_P (dC, dI) vwCl [(aNx, .inl (kNx, 52650, .inl (upd nx2 (pl + j) vn_8))), (aMT, .inl (kMT, 65536, .inl B)), (aM, .inr (4, [.int th, .ref aMT, .int (nI mu), .ref aNw, .ref aNx, .int mw_73, .int mwa_74, .int (nI (zK B en ma_2)), .int (nI en), .long mv_5, .int (nI (zK B en ma2)), .int ml]))] H := hP
                              have hD : va_D A [(aNx, .inl (kNx, 52650, .inl (upd nx2 (pl + j) vn_8))), (aMT, .inl (kMT, 65536, .inl B)), (aM, .inr (4, [.int th, .ref aMT, .int (nI mu), .ref aNw, .ref aNx, .int mw_73, .int mwa_74, .int (nI (zK B en ma_2)), .int (nI en), .long mv_5, .int (nI (zK B en ma2)), .int ml]))] := hD
                              obtain ⟨e0, e1, e2⟩ := hw_75
                              subst e0
                              have e1 := e1.symm; subst e1
                              have e2 := e2.symm; subst e2
                              refine zt_size (fun hzs => ?_)
                              have hP9 := hP.sub (ws' := [(aM, .inr (4, [.int th, .ref aMT, .int (nI mu), .ref aNw, .ref aNx, .int 3, .int (nI (zK B en ma_2)), .int (nI (zK B en ma_2)), .int (nI en), .long mv_5, .int (nI (zK B en ma2)), .int ml])), (aMT, .inl (kMT, 65536, .inl B)), (aNx, .inl (kNx, 52650, .inl (upd nx2 (pl + j) vn_8)))]) [2, 1, 0] rfl
                              have hD9 := hD.sub (ws' := [(aM, .inr (4, [.int th, .ref aMT, .int (nI mu), .ref aNw, .ref aNx, .int 3, .int (nI (zK B en ma_2)), .int (nI (zK B en ma_2)), .int (nI en), .long mv_5, .int (nI (zK B en ma2)), .int ml])), (aMT, .inl (kMT, 65536, .inl B)), (aNx, .inl (kNx, 52650, .inl (upd nx2 (pl + j) vn_8)))]) [2, 1, 0] (by decide) rfl
                              exact W.zret (v := 0) hx hb hr rfl (fun t ht hW => ⟨⟨0, (zK B en ma_2, 3, nI (zK B en ma_2), mv_5, nI (zK B en ma2), upd nx2 (pl + j) vn_8, ml), rfl, Or.inr ⟨rfl, by omega, _, by rw [tl_65]; unfold zTail; rw [if_pos ⟨Or.inl c_71, hs_69⟩], rfl⟩, by rw [ht]; exact hP9, hD9, by rw [ht]; exact hzs⟩, hS.F ht⟩) hS.2.2 d_Md_list_224
                            ·
                              have c_71 : ¬ ((j + 1) < le) := fun z => c_71 ((@nI_ltI (j + 1) le (by omega) (by omega)).mpr z)
                              rcases hwl with rfl | rfl
                              ·
                                refine lv_iload hx hb d_Md_list_207 (lv_at hl 1 rfl) ?_
                                refine lv_iload hx hb d_Md_list_209 (lv_at hl 7 rfl) ?_
                                refine lv_irem hx hb d_Md_list_211 (by decide) ?_
                                refine zt_top (pk_rem (a := j + 1) (d := 1) (by omega) (by decide) (by decide)) ?_
                                refine lv_if_eq (tgt := 225) hx hb d_Md_list_212 (by decide) (fun c_76 => ?_) (fun c_76 => ?_)
                                ·
                                  have c_76 : ((j + 1) % 1) = 0 := (@nI_eq ((j + 1) % 1) 0 (by omega) (by omega)).mp c_76
                                  refine lv_aload_n hx hb d_Md_list_225 rfl (lv_at hl 2 rfl) ?_
                                  refine lv_dup hx hb d_Md_list_226 rfl ?_
                                  refine va_get (D := (dC, dI)) (ci := 4) (v := .int (nI (zK B en ma_2))) (C := R_Md) (T := F_Md) (N := 12) hx hb hz i_Md hown hK hP 1 rfl rfl 7 (by decide) (hz _ tw_483) (fun _ h9 => h9) rfl d_Md_list_227 ?_
                                  refine lv_iconst (v := 1) hx hb d_Md_list_230 (by decide) ?_
                                  refine lv_iadd hx hb d_Md_list_231 ?_
                                  refine zt_top (nI_add (zK B en ma_2) 1) ?_
                                  refine va_put (D := (dC, dI)) (ci := 4) (v := .int (nI ((zK B en ma_2) + 1))) (ty := .int) (C := R_Md) (T := F_Md) (N := 12) hx hb hz i_Md t_Md t_Md_ok n_Md hown hK hP hD hS 1 rfl rfl 7 (by decide) (hz _ tw_483) (fun _ h9 => h9) rfl (by decide +kernel) rfl rfl (Nat.le_of_ble_eq_true rfl) d_Md_list_232 (fun H locs hP hD hS => ?_)
                                  have hP : va_P (dC, dI) vwCl [(aNx, .inl (kNx, 52650, .inl (upd nx2 (pl + j) vn_8))), (aM, .inr (4, [.int th, .ref aMT, .int (nI mu), .ref aNw, .ref aNx, .int mw, .int mwa, .int (nI ((zK B en ma_2) + 1)), .int (nI en), .long mv_5, .int (nI (zK B en ma2)), .int ml])), (aMT, .inl (kMT, 65536, .inl B))] H := hP
                                  have hD : va_D A [(aNx, .inl (kNx, 52650, .inl (upd nx2 (pl + j) vn_8))), (aM, .inr (4, [.int th, .ref aMT, .int (nI mu), .ref aNw, .ref aNx, .int mw, .int mwa, .int (nI ((zK B en ma_2) + 1)), .int (nI en), .long mv_5, .int (nI (zK B en ma2)), .int ml])), (aMT, .inl (kMT, 65536, .inl B))] := hD
                                  refine lv_aload_n hx hb d_Md_list_235 rfl (lv_at hl 2 rfl) ?_
                                  refine lv_iload hx hb d_Md_list_236 (lv_at hl 1 rfl) ?_
                                  refine va_put (D := (dC, dI)) (ci := 4) (v := .int (nI (j + 1))) (ty := .int) (C := R_Md) (T := F_Md) (N := 12) hx hb hz i_Md t_Md t_Md_ok n_Md hown hK hP hD hS 1 rfl rfl 11 (by decide) (hz _ tw_487) (fun _ h9 => h9) rfl (by decide +kernel) rfl rfl (Nat.le_of_ble_eq_true rfl) d_Md_list_238 (fun H locs hP hD hS => ?_)
                                  have hP : va_P (dC, dI) vwCl [(aNx, .inl (kNx, 52650, .inl (upd nx2 (pl + j) vn_8))), (aM, .inr (4, [.int th, .ref aMT, .int (nI mu), .ref aNw, .ref aNx, .int mw, .int mwa, .int (nI ((zK B en ma_2) + 1)), .int (nI en), .long mv_5, .int (nI (zK B en ma2)), .int (nI (j + 1))])), (aMT, .inl (kMT, 65536, .inl B))] H := hP
                                  have hD : va_D A [(aNx, .inl (kNx, 52650, .inl (upd nx2 (pl + j) vn_8))), (aM, .inr (4, [.int th, .ref aMT, .int (nI mu), .ref aNw, .ref aNx, .int mw, .int mwa, .int (nI ((zK B en ma_2) + 1)), .int (nI en), .long mv_5, .int (nI (zK B en ma2)), .int (nI (j + 1))])), (aMT, .inl (kMT, 65536, .inl B))] := hD
                                  refine lv_iconst (v := 1) hx hb d_Md_list_241 (by decide) ?_
                                  refine zt_size (fun hzs => ?_)
                                  have hP9 := hP.sub (ws' := [(aM, .inr (4, [.int th, .ref aMT, .int (nI mu), .ref aNw, .ref aNx, .int mw, .int mwa, .int (nI ((zK B en ma_2) + 1)), .int (nI en), .long mv_5, .int (nI (zK B en ma2)), .int (nI (j + 1))])), (aMT, .inl (kMT, 65536, .inl B)), (aNx, .inl (kNx, 52650, .inl (upd nx2 (pl + j) vn_8)))]) [1, 2, 0] rfl
                                  have hD9 := hD.sub (ws' := [(aM, .inr (4, [.int th, .ref aMT, .int (nI mu), .ref aNw, .ref aNx, .int mw, .int mwa, .int (nI ((zK B en ma_2) + 1)), .int (nI en), .long mv_5, .int (nI (zK B en ma2)), .int (nI (j + 1))])), (aMT, .inl (kMT, 65536, .inl B)), (aNx, .inl (kNx, 52650, .inl (upd nx2 (pl + j) vn_8)))]) [1, 2, 0] (by decide) rfl
                                  exact W.zret (v := 1) hx hb hr rfl (fun t ht hW => ⟨⟨1, ((zK B en ma_2) + 1, mw, mwa, mv_5, nI (zK B en ma2), upd nx2 (pl + j) vn_8, nI (j + 1)), rfl, Or.inl ⟨rfl, by omega, rfl, rfl, _, by rw [tl_65]; unfold zTail; rw [if_neg (fun z => absurd z.1 (fun z => z.elim c_71 (fun z => absurd z.1 (by decide))))]; simp only [zMust]; rw [if_pos hs_69, zB_ok], rfl⟩, by rw [ht]; exact hP9, hD9, by rw [ht]; exact hzs⟩, hS.F ht⟩) hS.2.2 d_Md_list_242
                                ·
                                  have c_76 : ¬ (((j + 1) % 1) = 0) := fun z => c_76 ((@nI_eq ((j + 1) % 1) 0 (by omega) (by omega)).mpr z)
                                  refine lv_aload_n hx hb d_Md_list_215 rfl (lv_at hl 2 rfl) ?_
                                  refine lv_iconst (v := 3) hx hb d_Md_list_216 (by decide) ?_
                                  refine lv_aload_n hx hb d_Md_list_217 rfl (lv_at hl 2 rfl) ?_
                                  refine va_get (D := (dC, dI)) (ci := 4) (v := .int (nI (zK B en ma_2))) (C := R_Md) (T := F_Md) (N := 12) hx hb hz i_Md hown hK hP 1 rfl rfl 7 (by decide) (hz _ tw_483) (fun _ h9 => h9) rfl d_Md_list_218 ?_
                                  have hPc := hP.sub (ws' := [(aM, .inr (4, [.int th, .ref aMT, .int (nI mu), .ref aNw, .ref aNx, .int mw, .int mwa, .int (nI (zK B en ma_2)), .int (nI en), .long mv_5, .int (nI (zK B en ma2)), .int ml]))]) [1] rfl
                                  have hDc := hD.sub (ws' := [(aM, .inr (4, [.int th, .ref aMT, .int (nI mu), .ref aNw, .ref aNx, .int mw, .int mwa, .int (nI (zK B en ma_2)), .int (nI en), .long mv_5, .int (nI (zK B en ma2)), .int ml]))]) [1] (by decide) rfl
                                  have hKc := hK.sub (tys' := []) [] rfl
                                  have hFc := va_free (wc := [(aM, .inr (4, [.int th, .ref aMT, .int (nI mu), .ref aNw, .ref aNx, .int mw, .int mwa, .int (nI (zK B en ma_2)), .int (nI en), .long mv_5, .int (nI (zK B en ma2)), .int ml]))]) hD hS hA [1] rfl
                                  refine va_calli (va_runV (As := [.int 3, .int (nI (zK B en ma_2))]) (rest := []) ⟨hx, hb, hml, hown, hts⟩ (c_Md_fails l G dC dI H.size aM th aMT mu aNw aNx mw mwa (zK B en ma_2) en mv_5 (nI (zK B en ma2)) ml 3 (nI (zK B en ma_2))) (cwV 2 hts (gV tw_549 tw_551 ts_23 tw_5 tw_552 rfl) rfl rfl rfl (by decide +kernel) ⟨Nat.le_of_ble_eq_true rfl, Nat.le_of_ble_eq_true rfl⟩) (PW_preV hPc hKc hDc hE hS hFc (ci := 4) (q0 := 0) rfl rfl) rfl rfl hl.1 rfl (lv_room (Nat.le_of_ble_eq_true rfl)) d_Md_list_221 ⟨Nat.le_of_ble_eq_true rfl, Nat.le_of_ble_eq_true rfl⟩) hS (fun q _ h => hFc q h) hFc (fun r_77 uu t H1 locs ht hvm hw_80 hB hz1 hk1 hS => ?_)
                                  obtain ⟨mw_78, mwa_79⟩ := uu
                                  obtain ⟨hP1, hD1, hsz1⟩ := hB
                                  rw [ht] at hP1 hsz1
                                  obtain ⟨hP, hD⟩ := va_join (wr := [(aNx, .inl (kNx, 52650, .inl (upd nx2 (pl + j) vn_8))), (aMT, .inl (kMT, 65536, .inl B))]) (w1 := [(aM, .inr (4, [.int th, .ref aMT, .int (nI mu), .ref aNw, .ref aNx, .int mw_78, .int mwa_79, .int (nI (zK B en ma_2)), .int (nI en), .long mv_5, .int (nI (zK B en ma2)), .int ml]))]) hP hD [1] [0, 2] rfl rfl (by decide) (by decide) hk1 hFc hP1 hD1
                                  generalize H1 = H at hP hS ⊢
                                  have hP : va_P (dC, dI) vwCl [(aNx, .inl (kNx, 52650, .inl (upd nx2 (pl + j) vn_8))), (aMT, .inl (kMT, 65536, .inl B)), (aM, .inr (4, [.int th, .ref aMT, .int (nI mu), .ref aNw, .ref aNx, .int mw_78, .int mwa_79, .int (nI (zK B en ma_2)), .int (nI en), .long mv_5, .int (nI (zK B en ma2)), .int ml]))] H := hP
                                  have hD : va_D A [(aNx, .inl (kNx, 52650, .inl (upd nx2 (pl + j) vn_8))), (aMT, .inl (kMT, 65536, .inl B)), (aM, .inr (4, [.int th, .ref aMT, .int (nI mu), .ref aNw, .ref aNx, .int mw_78, .int mwa_79, .int (nI (zK B en ma_2)), .int (nI en), .long mv_5, .int (nI (zK B en ma2)), .int ml]))] := hD
                                  obtain ⟨e0, e1, e2⟩ := hw_80
                                  subst e0
                                  have e1 := e1.symm; subst e1
                                  have e2 := e2.symm; subst e2
                                  refine zt_size (fun hzs => ?_)
                                  have hP9 := hP.sub (ws' := [(aM, .inr (4, [.int th, .ref aMT, .int (nI mu), .ref aNw, .ref aNx, .int 3, .int (nI (zK B en ma_2)), .int (nI (zK B en ma_2)), .int (nI en), .long mv_5, .int (nI (zK B en ma2)), .int ml])), (aMT, .inl (kMT, 65536, .inl B)), (aNx, .inl (kNx, 52650, .inl (upd nx2 (pl + j) vn_8)))]) [2, 1, 0] rfl
                                  have hD9 := hD.sub (ws' := [(aM, .inr (4, [.int th, .ref aMT, .int (nI mu), .ref aNw, .ref aNx, .int 3, .int (nI (zK B en ma_2)), .int (nI (zK B en ma_2)), .int (nI en), .long mv_5, .int (nI (zK B en ma2)), .int ml])), (aMT, .inl (kMT, 65536, .inl B)), (aNx, .inl (kNx, 52650, .inl (upd nx2 (pl + j) vn_8)))]) [2, 1, 0] (by decide) rfl
                                  exact W.zret (v := 0) hx hb hr rfl (fun t ht hW => ⟨⟨0, (zK B en ma_2, 3, nI (zK B en ma_2), mv_5, nI (zK B en ma2), upd nx2 (pl + j) vn_8, ml), rfl, Or.inr ⟨rfl, by omega, _, by rw [tl_65]; unfold zTail; rw [if_pos ⟨absurd (Nat.mod_one _) c_76, hs_69⟩], rfl⟩, by rw [ht]; exact hP9, hD9, by rw [ht]; exact hzs⟩, hS.F ht⟩) hS.2.2 d_Md_list_224
                              ·
                                refine lv_iload hx hb d_Md_list_207 (lv_at hl 1 rfl) ?_
                                refine lv_iload hx hb d_Md_list_209 (lv_at hl 7 rfl) ?_
                                refine lv_irem hx hb d_Md_list_211 (by decide) ?_
                                refine zt_top (pk_rem (a := j + 1) (d := 3) (by omega) (by decide) (by decide)) ?_
                                refine lv_if_eq (tgt := 225) hx hb d_Md_list_212 (by decide) (fun c_81 => ?_) (fun c_81 => ?_)
                                ·
                                  have c_81 : ((j + 1) % 3) = 0 := (@nI_eq ((j + 1) % 3) 0 (by omega) (by omega)).mp c_81
                                  refine lv_aload_n hx hb d_Md_list_225 rfl (lv_at hl 2 rfl) ?_
                                  refine lv_dup hx hb d_Md_list_226 rfl ?_
                                  refine va_get (D := (dC, dI)) (ci := 4) (v := .int (nI (zK B en ma_2))) (C := R_Md) (T := F_Md) (N := 12) hx hb hz i_Md hown hK hP 1 rfl rfl 7 (by decide) (hz _ tw_483) (fun _ h9 => h9) rfl d_Md_list_227 ?_
                                  refine lv_iconst (v := 1) hx hb d_Md_list_230 (by decide) ?_
                                  refine lv_iadd hx hb d_Md_list_231 ?_
                                  refine zt_top (nI_add (zK B en ma_2) 1) ?_
                                  refine va_put (D := (dC, dI)) (ci := 4) (v := .int (nI ((zK B en ma_2) + 1))) (ty := .int) (C := R_Md) (T := F_Md) (N := 12) hx hb hz i_Md t_Md t_Md_ok n_Md hown hK hP hD hS 1 rfl rfl 7 (by decide) (hz _ tw_483) (fun _ h9 => h9) rfl (by decide +kernel) rfl rfl (Nat.le_of_ble_eq_true rfl) d_Md_list_232 (fun H locs hP hD hS => ?_)
                                  have hP : va_P (dC, dI) vwCl [(aNx, .inl (kNx, 52650, .inl (upd nx2 (pl + j) vn_8))), (aM, .inr (4, [.int th, .ref aMT, .int (nI mu), .ref aNw, .ref aNx, .int mw, .int mwa, .int (nI ((zK B en ma_2) + 1)), .int (nI en), .long mv_5, .int (nI (zK B en ma2)), .int ml])), (aMT, .inl (kMT, 65536, .inl B))] H := hP
                                  have hD : va_D A [(aNx, .inl (kNx, 52650, .inl (upd nx2 (pl + j) vn_8))), (aM, .inr (4, [.int th, .ref aMT, .int (nI mu), .ref aNw, .ref aNx, .int mw, .int mwa, .int (nI ((zK B en ma_2) + 1)), .int (nI en), .long mv_5, .int (nI (zK B en ma2)), .int ml])), (aMT, .inl (kMT, 65536, .inl B))] := hD
                                  refine lv_aload_n hx hb d_Md_list_235 rfl (lv_at hl 2 rfl) ?_
                                  refine lv_iload hx hb d_Md_list_236 (lv_at hl 1 rfl) ?_
                                  refine va_put (D := (dC, dI)) (ci := 4) (v := .int (nI (j + 1))) (ty := .int) (C := R_Md) (T := F_Md) (N := 12) hx hb hz i_Md t_Md t_Md_ok n_Md hown hK hP hD hS 1 rfl rfl 11 (by decide) (hz _ tw_487) (fun _ h9 => h9) rfl (by decide +kernel) rfl rfl (Nat.le_of_ble_eq_true rfl) d_Md_list_238 (fun H locs hP hD hS => ?_)
                                  have hP : va_P (dC, dI) vwCl [(aNx, .inl (kNx, 52650, .inl (upd nx2 (pl + j) vn_8))), (aM, .inr (4, [.int th, .ref aMT, .int (nI mu), .ref aNw, .ref aNx, .int mw, .int mwa, .int (nI ((zK B en ma_2) + 1)), .int (nI en), .long mv_5, .int (nI (zK B en ma2)), .int (nI (j + 1))])), (aMT, .inl (kMT, 65536, .inl B))] H := hP
                                  have hD : va_D A [(aNx, .inl (kNx, 52650, .inl (upd nx2 (pl + j) vn_8))), (aM, .inr (4, [.int th, .ref aMT, .int (nI mu), .ref aNw, .ref aNx, .int mw, .int mwa, .int (nI ((zK B en ma_2) + 1)), .int (nI en), .long mv_5, .int (nI (zK B en ma2)), .int (nI (j + 1))])), (aMT, .inl (kMT, 65536, .inl B))] := hD
                                  refine lv_iconst (v := 1) hx hb d_Md_list_241 (by decide) ?_
                                  refine zt_size (fun hzs => ?_)
                                  have hP9 := hP.sub (ws' := [(aM, .inr (4, [.int th, .ref aMT, .int (nI mu), .ref aNw, .ref aNx, .int mw, .int mwa, .int (nI ((zK B en ma_2) + 1)), .int (nI en), .long mv_5, .int (nI (zK B en ma2)), .int (nI (j + 1))])), (aMT, .inl (kMT, 65536, .inl B)), (aNx, .inl (kNx, 52650, .inl (upd nx2 (pl + j) vn_8)))]) [1, 2, 0] rfl
                                  have hD9 := hD.sub (ws' := [(aM, .inr (4, [.int th, .ref aMT, .int (nI mu), .ref aNw, .ref aNx, .int mw, .int mwa, .int (nI ((zK B en ma_2) + 1)), .int (nI en), .long mv_5, .int (nI (zK B en ma2)), .int (nI (j + 1))])), (aMT, .inl (kMT, 65536, .inl B)), (aNx, .inl (kNx, 52650, .inl (upd nx2 (pl + j) vn_8)))]) [1, 2, 0] (by decide) rfl
                                  exact W.zret (v := 1) hx hb hr rfl (fun t ht hW => ⟨⟨1, ((zK B en ma_2) + 1, mw, mwa, mv_5, nI (zK B en ma2), upd nx2 (pl + j) vn_8, nI (j + 1)), rfl, Or.inl ⟨rfl, by omega, rfl, rfl, _, by rw [tl_65]; unfold zTail; rw [if_neg (fun z => absurd z.1 (fun z => z.elim c_71 (fun z => z.2 c_81)))]; simp only [zMust]; rw [if_pos hs_69, zB_ok], rfl⟩, by rw [ht]; exact hP9, hD9, by rw [ht]; exact hzs⟩, hS.F ht⟩) hS.2.2 d_Md_list_242
                                ·
                                  have c_81 : ¬ (((j + 1) % 3) = 0) := fun z => c_81 ((@nI_eq ((j + 1) % 3) 0 (by omega) (by omega)).mpr z)
                                  refine lv_aload_n hx hb d_Md_list_215 rfl (lv_at hl 2 rfl) ?_
                                  refine lv_iconst (v := 3) hx hb d_Md_list_216 (by decide) ?_
                                  refine lv_aload_n hx hb d_Md_list_217 rfl (lv_at hl 2 rfl) ?_
                                  refine va_get (D := (dC, dI)) (ci := 4) (v := .int (nI (zK B en ma_2))) (C := R_Md) (T := F_Md) (N := 12) hx hb hz i_Md hown hK hP 1 rfl rfl 7 (by decide) (hz _ tw_483) (fun _ h9 => h9) rfl d_Md_list_218 ?_
                                  have hPc := hP.sub (ws' := [(aM, .inr (4, [.int th, .ref aMT, .int (nI mu), .ref aNw, .ref aNx, .int mw, .int mwa, .int (nI (zK B en ma_2)), .int (nI en), .long mv_5, .int (nI (zK B en ma2)), .int ml]))]) [1] rfl
                                  have hDc := hD.sub (ws' := [(aM, .inr (4, [.int th, .ref aMT, .int (nI mu), .ref aNw, .ref aNx, .int mw, .int mwa, .int (nI (zK B en ma_2)), .int (nI en), .long mv_5, .int (nI (zK B en ma2)), .int ml]))]) [1] (by decide) rfl
                                  have hKc := hK.sub (tys' := []) [] rfl
                                  have hFc := va_free (wc := [(aM, .inr (4, [.int th, .ref aMT, .int (nI mu), .ref aNw, .ref aNx, .int mw, .int mwa, .int (nI (zK B en ma_2)), .int (nI en), .long mv_5, .int (nI (zK B en ma2)), .int ml]))]) hD hS hA [1] rfl
                                  refine va_calli (va_runV (As := [.int 3, .int (nI (zK B en ma_2))]) (rest := []) ⟨hx, hb, hml, hown, hts⟩ (c_Md_fails l G dC dI H.size aM th aMT mu aNw aNx mw mwa (zK B en ma_2) en mv_5 (nI (zK B en ma2)) ml 3 (nI (zK B en ma_2))) (cwV 2 hts (gV tw_549 tw_551 ts_23 tw_5 tw_552 rfl) rfl rfl rfl (by decide +kernel) ⟨Nat.le_of_ble_eq_true rfl, Nat.le_of_ble_eq_true rfl⟩) (PW_preV hPc hKc hDc hE hS hFc (ci := 4) (q0 := 0) rfl rfl) rfl rfl hl.1 rfl (lv_room (Nat.le_of_ble_eq_true rfl)) d_Md_list_221 ⟨Nat.le_of_ble_eq_true rfl, Nat.le_of_ble_eq_true rfl⟩) hS (fun q _ h => hFc q h) hFc (fun r_82 uu t H1 locs ht hvm hw_85 hB hz1 hk1 hS => ?_)
                                  obtain ⟨mw_83, mwa_84⟩ := uu
                                  obtain ⟨hP1, hD1, hsz1⟩ := hB
                                  rw [ht] at hP1 hsz1
                                  obtain ⟨hP, hD⟩ := va_join (wr := [(aNx, .inl (kNx, 52650, .inl (upd nx2 (pl + j) vn_8))), (aMT, .inl (kMT, 65536, .inl B))]) (w1 := [(aM, .inr (4, [.int th, .ref aMT, .int (nI mu), .ref aNw, .ref aNx, .int mw_83, .int mwa_84, .int (nI (zK B en ma_2)), .int (nI en), .long mv_5, .int (nI (zK B en ma2)), .int ml]))]) hP hD [1] [0, 2] rfl rfl (by decide) (by decide) hk1 hFc hP1 hD1
                                  generalize H1 = H at hP hS ⊢
                                  have hP : va_P (dC, dI) vwCl [(aNx, .inl (kNx, 52650, .inl (upd nx2 (pl + j) vn_8))), (aMT, .inl (kMT, 65536, .inl B)), (aM, .inr (4, [.int th, .ref aMT, .int (nI mu), .ref aNw, .ref aNx, .int mw_83, .int mwa_84, .int (nI (zK B en ma_2)), .int (nI en), .long mv_5, .int (nI (zK B en ma2)), .int ml]))] H := hP
                                  have hD : va_D A [(aNx, .inl (kNx, 52650, .inl (upd nx2 (pl + j) vn_8))), (aMT, .inl (kMT, 65536, .inl B)), (aM, .inr (4, [.int th, .ref aMT, .int (nI mu), .ref aNw, .ref aNx, .int mw_83, .int mwa_84, .int (nI (zK B en ma_2)), .int (nI en), .long mv_5, .int (nI (zK B en ma2)), .int ml]))] := hD
                                  obtain ⟨e0, e1, e2⟩ := hw_85
                                  subst e0
                                  have e1 := e1.symm; subst e1
                                  have e2 := e2.symm; subst e2
                                  refine zt_size (fun hzs => ?_)
                                  have hP9 := hP.sub (ws' := [(aM, .inr (4, [.int th, .ref aMT, .int (nI mu), .ref aNw, .ref aNx, .int 3, .int (nI (zK B en ma_2)), .int (nI (zK B en ma_2)), .int (nI en), .long mv_5, .int (nI (zK B en ma2)), .int ml])), (aMT, .inl (kMT, 65536, .inl B)), (aNx, .inl (kNx, 52650, .inl (upd nx2 (pl + j) vn_8)))]) [2, 1, 0] rfl
                                  have hD9 := hD.sub (ws' := [(aM, .inr (4, [.int th, .ref aMT, .int (nI mu), .ref aNw, .ref aNx, .int 3, .int (nI (zK B en ma_2)), .int (nI (zK B en ma_2)), .int (nI en), .long mv_5, .int (nI (zK B en ma2)), .int ml])), (aMT, .inl (kMT, 65536, .inl B)), (aNx, .inl (kNx, 52650, .inl (upd nx2 (pl + j) vn_8)))]) [2, 1, 0] (by decide) rfl
                                  exact W.zret (v := 0) hx hb hr rfl (fun t ht hW => ⟨⟨0, (zK B en ma_2, 3, nI (zK B en ma_2), mv_5, nI (zK B en ma2), upd nx2 (pl + j) vn_8, ml), rfl, Or.inr ⟨rfl, by omega, _, by rw [tl_65]; unfold zTail; rw [if_pos ⟨Or.inr ⟨by decide, c_81⟩, hs_69⟩], rfl⟩, by rw [ht]; exact hP9, hD9, by rw [ht]; exact hzs⟩, hS.F ht⟩) hS.2.2 d_Md_list_224
                          ·
                            exact absurd c_70 (by decide)
                        ·
                          rw [if_neg hs_69] at e2; subst e2
                          refine lv_if_ne (tgt := 200) hx hb d_Md_list_187 (by decide) (fun c_86 => ?_) (fun c_86 => ?_)
                          ·
                            exact absurd (by decide) c_86
                          ·
                            refine lv_aload_n hx hb d_Md_list_190 rfl (lv_at hl 2 rfl) ?_
                            refine lv_iconst (v := 1) hx hb d_Md_list_191 (by decide) ?_
                            refine lv_aload_n hx hb d_Md_list_192 rfl (lv_at hl 2 rfl) ?_
                            refine va_get (D := (dC, dI)) (ci := 4) (v := .int (nI (zK B en ma_2))) (C := R_Md) (T := F_Md) (N := 12) hx hb hz i_Md hown hK hP 1 rfl rfl 7 (by decide) (hz _ tw_483) (fun _ h9 => h9) rfl d_Md_list_193 ?_
                            have hPc := hP.sub (ws' := [(aM, .inr (4, [.int th, .ref aMT, .int (nI mu), .ref aNw, .ref aNx, .int mw, .int mwa, .int (nI (zK B en ma_2)), .int (nI en), .long mv_5, .int (nI (zK B en ma2)), .int ml]))]) [1] rfl
                            have hDc := hD.sub (ws' := [(aM, .inr (4, [.int th, .ref aMT, .int (nI mu), .ref aNw, .ref aNx, .int mw, .int mwa, .int (nI (zK B en ma_2)), .int (nI en), .long mv_5, .int (nI (zK B en ma2)), .int ml]))]) [1] (by decide) rfl
                            have hKc := hK.sub (tys' := []) [] rfl
                            have hFc := va_free (wc := [(aM, .inr (4, [.int th, .ref aMT, .int (nI mu), .ref aNw, .ref aNx, .int mw, .int mwa, .int (nI (zK B en ma_2)), .int (nI en), .long mv_5, .int (nI (zK B en ma2)), .int ml]))]) hD hS hA [1] rfl
                            refine va_calli (va_runV (As := [.int 1, .int (nI (zK B en ma_2))]) (rest := []) ⟨hx, hb, hml, hown, hts⟩ (c_Md_fails l G dC dI H.size aM th aMT mu aNw aNx mw mwa (zK B en ma_2) en mv_5 (nI (zK B en ma2)) ml 1 (nI (zK B en ma_2))) (cwV 2 hts (gV tw_549 tw_551 ts_23 tw_5 tw_552 rfl) rfl rfl rfl (by decide +kernel) ⟨Nat.le_of_ble_eq_true rfl, Nat.le_of_ble_eq_true rfl⟩) (PW_preV hPc hKc hDc hE hS hFc (ci := 4) (q0 := 0) rfl rfl) rfl rfl hl.1 rfl (lv_room (Nat.le_of_ble_eq_true rfl)) d_Md_list_196 ⟨Nat.le_of_ble_eq_true rfl, Nat.le_of_ble_eq_true rfl⟩) hS (fun q _ h => hFc q h) hFc (fun r_87 uu t H1 locs ht hvm hw_90 hB hz1 hk1 hS => ?_)
                            obtain ⟨mw_88, mwa_89⟩ := uu
                            obtain ⟨hP1, hD1, hsz1⟩ := hB
                            rw [ht] at hP1 hsz1
                            obtain ⟨hP, hD⟩ := va_join (wr := [(aNx, .inl (kNx, 52650, .inl (upd nx2 (pl + j) vn_8))), (aMT, .inl (kMT, 65536, .inl B))]) (w1 := [(aM, .inr (4, [.int th, .ref aMT, .int (nI mu), .ref aNw, .ref aNx, .int mw_88, .int mwa_89, .int (nI (zK B en ma_2)), .int (nI en), .long mv_5, .int (nI (zK B en ma2)), .int ml]))]) hP hD [1] [0, 2] rfl rfl (by decide) (by decide) hk1 hFc hP1 hD1
                            generalize H1 = H at hP hS ⊢
                            have hP : va_P (dC, dI) vwCl [(aNx, .inl (kNx, 52650, .inl (upd nx2 (pl + j) vn_8))), (aMT, .inl (kMT, 65536, .inl B)), (aM, .inr (4, [.int th, .ref aMT, .int (nI mu), .ref aNw, .ref aNx, .int mw_88, .int mwa_89, .int (nI (zK B en ma_2)), .int (nI en), .long mv_5, .int (nI (zK B en ma2)), .int ml]))] H := hP
                            have hD : va_D A [(aNx, .inl (kNx, 52650, .inl (upd nx2 (pl + j) vn_8))), (aMT, .inl (kMT, 65536, .inl B)), (aM, .inr (4, [.int th, .ref aMT, .int (nI mu), .ref aNw, .ref aNx, .int mw_88, .int mwa_89, .int (nI (zK B en ma_2)), .int (nI en), .long mv_5, .int (nI (zK B en ma2)), .int ml]))] := hD
                            obtain ⟨e0, e1, e2⟩ := hw_90
                            subst e0
                            have e1 := e1.symm; subst e1
                            have e2 := e2.symm; subst e2
                            refine zt_size (fun hzs => ?_)
                            have hP9 := hP.sub (ws' := [(aM, .inr (4, [.int th, .ref aMT, .int (nI mu), .ref aNw, .ref aNx, .int 1, .int (nI (zK B en ma_2)), .int (nI (zK B en ma_2)), .int (nI en), .long mv_5, .int (nI (zK B en ma2)), .int ml])), (aMT, .inl (kMT, 65536, .inl B)), (aNx, .inl (kNx, 52650, .inl (upd nx2 (pl + j) vn_8)))]) [2, 1, 0] rfl
                            have hD9 := hD.sub (ws' := [(aM, .inr (4, [.int th, .ref aMT, .int (nI mu), .ref aNw, .ref aNx, .int 1, .int (nI (zK B en ma_2)), .int (nI (zK B en ma_2)), .int (nI en), .long mv_5, .int (nI (zK B en ma2)), .int ml])), (aMT, .inl (kMT, 65536, .inl B)), (aNx, .inl (kNx, 52650, .inl (upd nx2 (pl + j) vn_8)))]) [2, 1, 0] (by decide) rfl
                            exact W.zret (v := 0) hx hb hr rfl (fun t ht hW => ⟨⟨0, (zK B en ma_2, 1, nI (zK B en ma_2), mv_5, nI (zK B en ma2), upd nx2 (pl + j) vn_8, ml), rfl, Or.inr ⟨rfl, by omega, _, by rw [tl_65]; unfold zTail; rw [if_neg (fun z => hs_69 z.2)]; simp only [zMust]; rw [if_neg hs_69, zB_er], rfl⟩, by rw [ht]; exact hP9, hD9, by rw [ht]; exact hzs⟩, hS.F ht⟩) hS.2.2 d_Md_list_199
                      ·
                        exact absurd (by decide) c_64
                    ·
                      exact absurd (by decide) c_63
                ·
                  have c_56 : ¬ (j ≤ 0) := fun z => c_56 ((@nI_leI j 0 (by omega) (by omega)).mpr z)
                  have hg1 : gi = 1 := hgi.resolve_left c_21
                  have hpv := hlw1 (by omega) (decide_eq_true hg1)
                  have hb1 : -100000000 < (nx2 (pl + (j - 1))).toInt := by have q := hpv.2.1; rw [Int32.lt_iff_toInt_lt] at q; omega
                  have hb2 : (nx2 (pl + (j - 1))).toInt < 100000000 := by have q := hpv.2.2; rw [Int32.lt_iff_toInt_lt] at q; omega
                  refine lv_aload_n hx hb d_Md_list_101 rfl (lv_at hl 0 rfl) ?_
                  refine va_get (D := (dC, dI)) (ci := 4) (v := .long mv_5) (C := R_Md) (T := F_Md) (N := 12) hx hb hz i_Md hown hK hP 1 rfl rfl 9 (by decide) (hz _ tw_485) (fun _ h9 => h9) rfl d_Md_list_102 ?_
                  refine lv_aload_n hx hb d_Md_list_105 rfl (lv_at hl 0 rfl) ?_
                  refine va_get (D := (dC, dI)) (ci := 4) (v := .ref aNx) (C := R_Md) (T := F_Md) (N := 12) hx hb hz i_Md hown hK hP 1 rfl rfl 4 (by decide) (hz _ tw_480) (fun _ h9 => h9) rfl d_Md_list_106 ?_
                  refine lv_iload_n hx hb d_Md_list_109 rfl (lv_at hl 2 rfl) ?_
                  refine lv_iload hx hb d_Md_list_110 (lv_at hl 9 rfl) ?_
                  refine lv_iadd hx hb d_Md_list_112 ?_
                  refine zt_top (nI_add pl j) ?_
                  refine lv_iconst (v := 1) hx hb d_Md_list_113 (by decide) ?_
                  refine lv_isub hx hb d_Md_list_114 ?_
                  refine zt_top ((pk_sub (a := pl + j) (b := 1) (by omega)).trans (by rw [show pl + j - 1 = pl + (j - 1) by omega])) ?_
                  refine va_iald (D := (dC, dI)) (i := nI (pl + (j - 1))) hx hb hK hP 0 1 rfl rfl (vp_in_nI (by omega) (by decide)) d_Md_list_115 ?_
                  refine zt_top (by rw [nI_clamp (by omega)]) ?_
                  refine lv_i2l (v := (nx2 (pl + (j - 1))).toInt64) hx hb d_Md_list_116 rfl ?_
                  refine W.lcmp hx hb d_Md_list_117 ?_
                  refine lv_if_gt (tgt := 131) hx hb d_Md_list_118 (by decide) (fun c_91 => ?_) (fun c_91 => ?_)
                  ·
                    refine lv_aload_n hx hb d_Md_list_131 rfl (lv_at hl 0 rfl) ?_
                    refine va_get (D := (dC, dI)) (ci := 4) (v := .ref aNx) (C := R_Md) (T := F_Md) (N := 12) hx hb hz i_Md hown hK hP 1 rfl rfl 4 (by decide) (hz _ tw_480) (fun _ h9 => h9) rfl d_Md_list_132 ?_
                    refine lv_iload_n hx hb d_Md_list_135 rfl (lv_at hl 2 rfl) ?_
                    refine lv_iload hx hb d_Md_list_136 (lv_at hl 9 rfl) ?_
                    refine lv_iadd hx hb d_Md_list_138 ?_
                    refine zt_top (nI_add pl j) ?_
                    refine lv_aload_n hx hb d_Md_list_139 rfl (lv_at hl 0 rfl) ?_
                    refine va_get (D := (dC, dI)) (ci := 4) (v := .long mv_5) (C := R_Md) (T := F_Md) (N := 12) hx hb hz i_Md hown hK hP 1 rfl rfl 9 (by decide) (hz _ tw_485) (fun _ h9 => h9) rfl d_Md_list_140 ?_
                    refine lv_l2i (v := mv_5.toInt32) hx hb d_Md_list_143 rfl ?_
                    refine zt_top (zVal_eq hw_7v hlo1 hhi2 (fun z => c_11 ((lg_cmp_lt _ _).mpr ((zVal_lt hw_7v hlo1 hlo2).mpr z))) (fun z => c_16 ((lg_cmp_gt _ _).mpr ((zVal_gt hw_7v hhi1 hhi2).mpr z)))) ?_
                    refine va_iast (D := (dC, dI)) (i := nI (pl + j)) (x := vn_8) hx hb hK hP hD hS 0 1 rfl rfl (vp_in_nI (by omega) (by decide)) d_Md_list_144 (fun H locs hP hD hS => ?_)
                    rw [nI_clamp (by omega)] at hP hD
                    have hP : va_P (dC, dI) vwCl [(aNx, .inl (kNx, 52650, .inl (upd nx2 (pl + j) vn_8))), (aM, .inr (4, [.int th, .ref aMT, .int (nI mu), .ref aNw, .ref aNx, .int mw, .int mwa, .int (nI ma_2), .int (nI en), .long mv_5, .int (nI (zK B en ma2)), .int ml])), (aMT, .inl (kMT, 65536, .inl B))] H := hP
                    have hD : va_D A [(aNx, .inl (kNx, 52650, .inl (upd nx2 (pl + j) vn_8))), (aM, .inr (4, [.int th, .ref aMT, .int (nI mu), .ref aNw, .ref aNx, .int mw, .int mwa, .int (nI ma_2), .int (nI en), .long mv_5, .int (nI (zK B en ma2)), .int ml])), (aMT, .inl (kMT, 65536, .inl B))] := hD
                    refine lv_iinc (v := nI (j + 1)) (lv' := [(10, .int (nI (j + 1))), (0, .ref aM), (1, .long (zWv ks)), (3, .int (nI pl)), (4, .int (nI le)), (5, .int (nI mo)), (6, .int (nI wl)), (7, .int low), (8, .int hig), (9, .int gi)]) hx hb d_Md_list_145 hl (k := 9) rfl (nI_add j 1) (by decide) rfl (fun ls hl => ?_)
                    refine lv_aload_n hx hb d_Md_list_148 rfl (lv_at hl 1 rfl) ?_
                    refine lv_bipush (v := 44) hx hb d_Md_list_149 (by decide) ?_
                    have hPc := hP.sub (ws' := [(aM, .inr (4, [.int th, .ref aMT, .int (nI mu), .ref aNw, .ref aNx, .int mw, .int mwa, .int (nI ma_2), .int (nI en), .long mv_5, .int (nI (zK B en ma2)), .int ml])), (aMT, .inl (kMT, 65536, .inl B))]) [1, 2] rfl
                    have hDc := hD.sub (ws' := [(aM, .inr (4, [.int th, .ref aMT, .int (nI mu), .ref aNw, .ref aNx, .int mw, .int mwa, .int (nI ma_2), .int (nI en), .long mv_5, .int (nI (zK B en ma2)), .int ml])), (aMT, .inl (kMT, 65536, .inl B))]) [1, 2] (by decide) rfl
                    have hKc := hK.sub (tys' := [(kMT, .byte)]) [0] rfl
                    have hFc := va_free (wc := [(aM, .inr (4, [.int th, .ref aMT, .int (nI mu), .ref aNw, .ref aNx, .int mw, .int mwa, .int (nI ma_2), .int (nI en), .long mv_5, .int (nI (zK B en ma2)), .int ml])), (aMT, .inl (kMT, 65536, .inl B))]) hD hS hA [1, 2] rfl
                    refine va_calli (va_runV (As := [.int 44]) (rest := []) ⟨hx, hb, hml, hown, hts⟩ (c_Md_comes l G dC dI H.size aM th aMT mu aNw aNx mw mwa ma_2 en mv_5 (nI (zK B en ma2)) ml kMT B 44 (by omega) (by omega)) (cwV 1 hts (gV tw_541 tw_543 ts_21 tw_5 tw_544 rfl) rfl rfl rfl (by decide +kernel) ⟨Nat.le_of_ble_eq_true rfl, Nat.le_of_ble_eq_true rfl⟩) (PW_preV hPc hKc hDc hE hS hFc (ci := 4) (q0 := 0) rfl rfl) rfl rfl hl.1 rfl (lv_room (Nat.le_of_ble_eq_true rfl)) d_Md_list_151 ⟨Nat.le_of_ble_eq_true rfl, Nat.le_of_ble_eq_true rfl⟩) hS (fun q _ h => hFc q h) hFc (fun r_92 uu t H1 locs ht hvm hw_94 hB hz1 hk1 hS => ?_)
                    obtain ⟨ma_93, rfl⟩ : ∃ z, z = uu := ⟨_, rfl⟩
                    obtain ⟨hP1, hD1, hsz1⟩ := hB
                    rw [ht] at hP1 hsz1
                    obtain ⟨hP, hD⟩ := va_join (wr := [(aNx, .inl (kNx, 52650, .inl (upd nx2 (pl + j) vn_8)))]) (w1 := [(aM, .inr (4, [.int th, .ref aMT, .int (nI mu), .ref aNw, .ref aNx, .int mw, .int mwa, .int (nI ma_93), .int (nI en), .long mv_5, .int (nI (zK B en ma2)), .int ml])), (aMT, .inl (kMT, 65536, .inl B))]) hP hD [1, 2] [0] rfl rfl (by decide) (by decide) hk1 hFc hP1 hD1
                    generalize H1 = H at hP hS ⊢
                    have hP : va_P (dC, dI) vwCl [(aNx, .inl (kNx, 52650, .inl (upd nx2 (pl + j) vn_8))), (aM, .inr (4, [.int th, .ref aMT, .int (nI mu), .ref aNw, .ref aNx, .int mw, .int mwa, .int (nI ma_93), .int (nI en), .long mv_5, .int (nI (zK B en ma2)), .int ml])), (aMT, .inl (kMT, 65536, .inl B))] H := hP
                    have hD : va_D A [(aNx, .inl (kNx, 52650, .inl (upd nx2 (pl + j) vn_8))), (aM, .inr (4, [.int th, .ref aMT, .int (nI mu), .ref aNw, .ref aNx, .int mw, .int mwa, .int (nI ma_93), .int (nI en), .long mv_5, .int (nI (zK B en ma2)), .int ml])), (aMT, .inl (kMT, 65536, .inl B))] := hD
                    have hw_94i := zK_le (B := B) (en := en) (i := ma_2) (by omega)
                    obtain ⟨e1, e2⟩ := hw_94
                    have e1 := e1.symm; subst e1
                    by_cases hs_95 : zK B en ma_2 < en ∧ B (zK B en ma_2) = 44
                    ·
                      rw [if_pos hs_95] at e2; subst e2
                      refine lv_istore (lv' := [(11, .int 1), (10, .int (nI (j + 1))), (0, .ref aM), (1, .long (zWv ks)), (3, .int (nI pl)), (4, .int (nI le)), (5, .int (nI mo)), (6, .int (nI wl)), (7, .int low), (8, .int hig), (9, .int gi)]) hx hb d_Md_list_154 hl (by decide) rfl (fun ls hl => ?_)
                      refine lv_aload_n hx hb d_Md_list_156 rfl (lv_at hl 2 rfl) ?_
                      refine lv_iload hx hb d_Md_list_157 (lv_at hl 0 rfl) ?_
                      refine lv_if_eq (tgt := 171) hx hb d_Md_list_159 (by decide) (fun c_96 => ?_) (fun c_96 => ?_)
                      ·
                        exact absurd c_96 (by decide)
                      ·
                        refine lv_aload_n hx hb d_Md_list_162 rfl (lv_at hl 2 rfl) ?_
                        refine va_get (D := (dC, dI)) (ci := 4) (v := .int (nI (zK B en ma_2))) (C := R_Md) (T := F_Md) (N := 12) hx hb hz i_Md hown hK hP 1 rfl rfl 7 (by decide) (hz _ tw_483) (fun _ h9 => h9) rfl d_Md_list_163 ?_
                        refine lv_iconst (v := 1) hx hb d_Md_list_166 (by decide) ?_
                        refine lv_iadd hx hb d_Md_list_167 ?_
                        refine zt_top (nI_add (zK B en ma_2) 1) ?_
                        refine lv_goto (tgt := 175) hx hb d_Md_list_168 (by decide) ?_
                        refine va_put (D := (dC, dI)) (ci := 4) (v := .int (nI ((zK B en ma_2) + 1))) (ty := .int) (C := R_Md) (T := F_Md) (N := 12) hx hb hz i_Md t_Md t_Md_ok n_Md hown hK hP hD hS 1 rfl rfl 7 (by decide) (hz _ tw_483) (fun _ h9 => h9) rfl (by decide +kernel) rfl rfl (Nat.le_of_ble_eq_true rfl) d_Md_list_175 (fun H locs hP hD hS => ?_)
                        have hP : va_P (dC, dI) vwCl [(aNx, .inl (kNx, 52650, .inl (upd nx2 (pl + j) vn_8))), (aM, .inr (4, [.int th, .ref aMT, .int (nI mu), .ref aNw, .ref aNx, .int mw, .int mwa, .int (nI ((zK B en ma_2) + 1)), .int (nI en), .long mv_5, .int (nI (zK B en ma2)), .int ml])), (aMT, .inl (kMT, 65536, .inl B))] H := hP
                        have hD : va_D A [(aNx, .inl (kNx, 52650, .inl (upd nx2 (pl + j) vn_8))), (aM, .inr (4, [.int th, .ref aMT, .int (nI mu), .ref aNw, .ref aNx, .int mw, .int mwa, .int (nI ((zK B en ma_2) + 1)), .int (nI en), .long mv_5, .int (nI (zK B en ma2)), .int ml])), (aMT, .inl (kMT, 65536, .inl B))] := hD
                        refine lv_goto (tgt := 38) hx hb d_Md_list_178 (by decide) ?_
                        refine lv_iload hx hb d_Md_list_38 (lv_at hl 0 rfl) ?_
                        refine lv_if_eq (tgt := 181) hx hb d_Md_list_40 (by decide) (fun c_97 => ?_) (fun c_97 => ?_)
                        ·
                          exact absurd c_97 (by decide)
                        ·
                          exact ih (j + 1) ((zK B en ma_2) + 1) mv_5 (nI (zK B en ma2)) (if decide (gi = 1) = true then vn_8 + 1 else low) (upd nx2 (pl + j) vn_8) (by omega) (by omega) (by omega) (fun z => z.elim (fun z => absurd z (by omega)) (fun z => by rw [z]; exact if_neg (by decide))) (fun _ g => ⟨by rw [if_pos g, show pl + (j + 1 - 1) = pl + j by omega, pk_us], by rw [show pl + (j + 1 - 1) = pl + j by omega, pk_us]; exact (fun z => c_11 ((lg_cmp_lt _ _).mpr ((zVal_lt hw_7v hlo1 hlo2).mpr z))), by rw [show pl + (j + 1 - 1) = pl + j by omega, pk_us]; exact (fun z => c_16 ((lg_cmp_gt _ _).mpr ((zVal_gt hw_7v hhi1 hhi2).mpr z)))⟩) (by rw [hI, zLst_step (by omega), hw_7a, zB_ok, if_neg c_10, if_neg (fun z => ((zgrow hlw0 hlw1 hhi2 hlo1).mp z).elim (fun z => c_11 ((lg_cmp_lt _ _).mpr ((zVal_lt hw_7v hlo1 hlo2).mpr z))) (fun z => z.elim (fun z => c_16 ((lg_cmp_gt _ _).mpr ((zVal_gt hw_7v hhi1 hhi2).mpr z))) (fun z => z.2.2 ((zVal_gt hw_7v hb1 hb2).mp ((lg_cmp_gt _ _).mp c_91))))), if_pos hs_95]) _ _ (hP.sub [1, 2, 0] rfl) (hD.sub [1, 2, 0] (by decide) rfl) hS ls (lv_sub hl [2, 3, 4, 5, 6, 7, 8, 9, 10, 1] rfl)
                    ·
                      rw [if_neg hs_95] at e2; subst e2
                      refine lv_istore (lv' := [(11, .int 0), (10, .int (nI (j + 1))), (0, .ref aM), (1, .long (zWv ks)), (3, .int (nI pl)), (4, .int (nI le)), (5, .int (nI mo)), (6, .int (nI wl)), (7, .int low), (8, .int hig), (9, .int gi)]) hx hb d_Md_list_154 hl (by decide) rfl (fun ls hl => ?_)
                      refine lv_aload_n hx hb d_Md_list_156 rfl (lv_at hl 2 rfl) ?_
                      refine lv_iload hx hb d_Md_list_157 (lv_at hl 0 rfl) ?_
                      refine lv_if_eq (tgt := 171) hx hb d_Md_list_159 (by decide) (fun c_98 => ?_) (fun c_98 => ?_)
                      ·
                        refine lv_aload_n hx hb d_Md_list_171 rfl (lv_at hl 2 rfl) ?_
                        refine va_get (D := (dC, dI)) (ci := 4) (v := .int (nI (zK B en ma_2))) (C := R_Md) (T := F_Md) (N := 12) hx hb hz i_Md hown hK hP 1 rfl rfl 7 (by decide) (hz _ tw_483) (fun _ h9 => h9) rfl d_Md_list_172 ?_
                        refine va_put (D := (dC, dI)) (ci := 4) (v := .int (nI (zK B en ma_2))) (ty := .int) (C := R_Md) (T := F_Md) (N := 12) hx hb hz i_Md t_Md t_Md_ok n_Md hown hK hP hD hS 1 rfl rfl 7 (by decide) (hz _ tw_483) (fun _ h9 => h9) rfl (by decide +kernel) rfl rfl (Nat.le_of_ble_eq_true rfl) d_Md_list_175 (fun H locs hP hD hS => ?_)
                        have hP : va_P (dC, dI) vwCl [(aNx, .inl (kNx, 52650, .inl (upd nx2 (pl + j) vn_8))), (aM, .inr (4, [.int th, .ref aMT, .int (nI mu), .ref aNw, .ref aNx, .int mw, .int mwa, .int (nI (zK B en ma_2)), .int (nI en), .long mv_5, .int (nI (zK B en ma2)), .int ml])), (aMT, .inl (kMT, 65536, .inl B))] H := hP
                        have hD : va_D A [(aNx, .inl (kNx, 52650, .inl (upd nx2 (pl + j) vn_8))), (aM, .inr (4, [.int th, .ref aMT, .int (nI mu), .ref aNw, .ref aNx, .int mw, .int mwa, .int (nI (zK B en ma_2)), .int (nI en), .long mv_5, .int (nI (zK B en ma2)), .int ml])), (aMT, .inl (kMT, 65536, .inl B))] := hD
                        refine lv_goto (tgt := 38) hx hb d_Md_list_178 (by decide) ?_
                        refine lv_iload hx hb d_Md_list_38 (lv_at hl 0 rfl) ?_
                        refine lv_if_eq (tgt := 181) hx hb d_Md_list_40 (by decide) (fun c_99 => ?_) (fun c_99 => ?_)
                        ·
                          have tl_100 : (zB (zKey B en (zSb ks) (zK B en ma)) fun h1 => zList B en (decide (gi = 1)) (decide (wl = 3)) le mo pl low hig h1 nx) = zTail B en (decide (wl = 3)) le (j + 1, zK B en ma_2, upd nx2 (pl + j) vn_8) := by rw [hI, zLst_step (by omega), hw_7a, zB_ok, if_neg c_10, if_neg (fun z => ((zgrow hlw0 hlw1 hhi2 hlo1).mp z).elim (fun z => c_11 ((lg_cmp_lt _ _).mpr ((zVal_lt hw_7v hlo1 hlo2).mpr z))) (fun z => z.elim (fun z => c_16 ((lg_cmp_gt _ _).mpr ((zVal_gt hw_7v hhi1 hhi2).mpr z))) (fun z => z.2.2 ((zVal_gt hw_7v hb1 hb2).mp ((lg_cmp_gt _ _).mp c_91))))), if_neg hs_95, zB_ok]
                          refine lv_aload_n hx hb d_Md_list_181 rfl (lv_at hl 2 rfl) ?_
                          refine lv_bipush (v := 93) hx hb d_Md_list_182 (by decide) ?_
                          have hPc := hP.sub (ws' := [(aM, .inr (4, [.int th, .ref aMT, .int (nI mu), .ref aNw, .ref aNx, .int mw, .int mwa, .int (nI (zK B en ma_2)), .int (nI en), .long mv_5, .int (nI (zK B en ma2)), .int ml])), (aMT, .inl (kMT, 65536, .inl B))]) [1, 2] rfl
                          have hDc := hD.sub (ws' := [(aM, .inr (4, [.int th, .ref aMT, .int (nI mu), .ref aNw, .ref aNx, .int mw, .int mwa, .int (nI (zK B en ma_2)), .int (nI en), .long mv_5, .int (nI (zK B en ma2)), .int ml])), (aMT, .inl (kMT, 65536, .inl B))]) [1, 2] (by decide) rfl
                          have hKc := hK.sub (tys' := [(kMT, .byte)]) [0] rfl
                          have hFc := va_free (wc := [(aM, .inr (4, [.int th, .ref aMT, .int (nI mu), .ref aNw, .ref aNx, .int mw, .int mwa, .int (nI (zK B en ma_2)), .int (nI en), .long mv_5, .int (nI (zK B en ma2)), .int ml])), (aMT, .inl (kMT, 65536, .inl B))]) hD hS hA [1, 2] rfl
                          refine va_calli (va_runV (As := [.int 93]) (rest := []) ⟨hx, hb, hml, hown, hts⟩ (c_Md_comes l G dC dI H.size aM th aMT mu aNw aNx mw mwa (zK B en ma_2) en mv_5 (nI (zK B en ma2)) ml kMT B 93 (by omega) (by omega)) (cwV 1 hts (gV tw_541 tw_543 ts_21 tw_5 tw_544 rfl) rfl rfl rfl (by decide +kernel) ⟨Nat.le_of_ble_eq_true rfl, Nat.le_of_ble_eq_true rfl⟩) (PW_preV hPc hKc hDc hE hS hFc (ci := 4) (q0 := 0) rfl rfl) rfl rfl hl.1 rfl (lv_room (Nat.le_of_ble_eq_true rfl)) d_Md_list_184 ⟨Nat.le_of_ble_eq_true rfl, Nat.le_of_ble_eq_true rfl⟩) hS (fun q _ h => hFc q h) hFc (fun r_101 uu t H1 locs ht hvm hw_103 hB hz1 hk1 hS => ?_)
                          obtain ⟨ma_102, rfl⟩ : ∃ z, z = uu := ⟨_, rfl⟩
                          obtain ⟨hP1, hD1, hsz1⟩ := hB
                          rw [ht] at hP1 hsz1
                          obtain ⟨hP, hD⟩ := va_join (wr := [(aNx, .inl (kNx, 52650, .inl (upd nx2 (pl + j) vn_8)))]) (w1 := [(aM, .inr (4, [.int th, .ref aMT, .int (nI mu), .ref aNw, .ref aNx, .int mw, .int mwa, .int (nI ma_102), .int (nI en), .long mv_5, .int (nI (zK B en ma2)), .int ml])), (aMT, .inl (kMT, 65536, .inl B))]) hP hD [1, 2] [0] rfl rfl (by decide) (by decide) hk1 hFc hP1 hD1
                          generalize H1 = H at hP hS ⊢
                          have hP : va_P (dC, dI) vwCl [(aNx, .inl (kNx, 52650, .inl (upd nx2 (pl + j) vn_8))), (aM, .inr (4, [.int th, .ref aMT, .int (nI mu), .ref aNw, .ref aNx, .int mw, .int mwa, .int (nI ma_102), .int (nI en), .long mv_5, .int (nI (zK B en ma2)), .int ml])), (aMT, .inl (kMT, 65536, .inl B))] H := hP
                          have hD : va_D A [(aNx, .inl (kNx, 52650, .inl (upd nx2 (pl + j) vn_8))), (aM, .inr (4, [.int th, .ref aMT, .int (nI mu), .ref aNw, .ref aNx, .int mw, .int mwa, .int (nI ma_102), .int (nI en), .long mv_5, .int (nI (zK B en ma2)), .int ml])), (aMT, .inl (kMT, 65536, .inl B))] := hD
                          have hw_103i := zK_le (B := B) (en := en) (i := zK B en ma_2) (by omega)
                          rw [zK_idem] at hw_103 hw_103i
                          obtain ⟨e1, e2⟩ := hw_103
                          have e1 := e1.symm; subst e1
                          by_cases hs_104 : zK B en ma_2 < en ∧ B (zK B en ma_2) = 93
                          ·
                            rw [if_pos hs_104] at e2; subst e2
                            refine lv_if_ne (tgt := 200) hx hb d_Md_list_187 (by decide) (fun c_105 => ?_) (fun c_105 => ?_)
                            ·
                              refine lv_iload hx hb d_Md_list_200 (lv_at hl 1 rfl) ?_
                              refine lv_iload hx hb d_Md_list_202 (lv_at hl 5 rfl) ?_
                              refine lv_icmp_lt (tgt := 215) hx hb d_Md_list_204 (by decide) (fun c_106 => ?_) (fun c_106 => ?_)
                              ·
                                have c_106 : (j + 1) < le := (@nI_ltI (j + 1) le (by omega) (by omega)).mp c_106
                                refine lv_aload_n hx hb d_Md_list_215 rfl (lv_at hl 2 rfl) ?_
                                refine lv_iconst (v := 3) hx hb d_Md_list_216 (by decide) ?_
                                refine lv_aload_n hx hb d_Md_list_217 rfl (lv_at hl 2 rfl) ?_
                                refine va_get (D := (dC, dI)) (ci := 4) (v := .int (nI (zK B en ma_2))) (C := R_Md) (T := F_Md) (N := 12) hx hb hz i_Md hown hK hP 1 rfl rfl 7 (by decide) (hz _ tw_483) (fun _ h9 => h9) rfl d_Md_list_218 ?_
                                have hPc := hP.sub (ws' := [(aM, .inr (4, [.int th, .ref aMT, .int (nI mu), .ref aNw, .ref aNx, .int mw, .int mwa, .int (nI (zK B en ma_2)), .int (nI en), .long mv_5, .int (nI (zK B en ma2)), .int ml]))]) [1] rfl
                                have hDc := hD.sub (ws' := [(aM, .inr (4, [.int th, .ref aMT, .int (nI mu), .ref aNw, .ref aNx, .int mw, .int mwa, .int (nI (zK B en ma_2)), .int (nI en), .long mv_5, .int (nI (zK B en ma2)), .int ml]))]) [1] (by decide) rfl
                                have hKc := hK.sub (tys' := []) [] rfl
                                have hFc := va_free (wc := [(aM, .inr (4, [.int th, .ref aMT, .int (nI mu), .ref aNw, .ref aNx, .int mw, .int mwa, .int (nI (zK B en ma_2)), .int (nI en), .long mv_5, .int (nI (zK B en ma2)), .int ml]))]) hD hS hA [1] rfl
                                refine va_calli (va_runV (As := [.int 3, .int (nI (zK B en ma_2))]) (rest := []) ⟨hx, hb, hml, hown, hts⟩ (c_Md_fails l G dC dI H.size aM th aMT mu aNw aNx mw mwa (zK B en ma_2) en mv_5 (nI (zK B en ma2)) ml 3 (nI (zK B en ma_2))) (cwV 2 hts (gV tw_549 tw_551 ts_23 tw_5 tw_552 rfl) rfl rfl rfl (by decide +kernel) ⟨Nat.le_of_ble_eq_true rfl, Nat.le_of_ble_eq_true rfl⟩) (PW_preV hPc hKc hDc hE hS hFc (ci := 4) (q0 := 0) rfl rfl) rfl rfl hl.1 rfl (lv_room (Nat.le_of_ble_eq_true rfl)) d_Md_list_221 ⟨Nat.le_of_ble_eq_true rfl, Nat.le_of_ble_eq_true rfl⟩) hS (fun q _ h => hFc q h) hFc (fun r_107 uu t H1 locs ht hvm hw_110 hB hz1 hk1 hS => ?_)
                                obtain ⟨mw_108, mwa_109⟩ := uu
                                obtain ⟨hP1, hD1, hsz1⟩ := hB
                                rw [ht] at hP1 hsz1
                                obtain ⟨hP, hD⟩ := va_join (wr := [(aNx, .inl (kNx, 52650, .inl (upd nx2 (pl + j) vn_8))), (aMT, .inl (kMT, 65536, .inl B))]) (w1 := [(aM, .inr (4, [.int th, .ref aMT, .int (nI mu), .ref aNw, .ref aNx, .int mw_108, .int mwa_109, .int (nI (zK B en ma_2)), .int (nI en), .long mv_5, .int (nI (zK B en ma2)), .int ml]))]) hP hD [1] [0, 2] rfl rfl (by decide) (by decide) hk1 hFc hP1 hD1
                                generalize H1 = H at hP hS ⊢
                                have hP : va_P (dC, dI) vwCl [(aNx, .inl (kNx, 52650, .inl (upd nx2 (pl + j) vn_8))), (aMT, .inl (kMT, 65536, .inl B)), (aM, .inr (4, [.int th, .ref aMT, .int (nI mu), .ref aNw, .ref aNx, .int mw_108, .int mwa_109, .int (nI (zK B en ma_2)), .int (nI en), .long mv_5, .int (nI (zK B en ma2)), .int ml]))] H := hP
                                have hD : va_D A [(aNx, .inl (kNx, 52650, .inl (upd nx2 (pl + j) vn_8))), (aMT, .inl (kMT, 65536, .inl B)), (aM, .inr (4, [.int th, .ref aMT, .int (nI mu), .ref aNw, .ref aNx, .int mw_108, .int mwa_109, .int (nI (zK B en ma_2)), .int (nI en), .long mv_5, .int (nI (zK B en ma2)), .int ml]))] := hD
                                obtain ⟨e0, e1, e2⟩ := hw_110
                                subst e0
                                have e1 := e1.symm; subst e1
                                have e2 := e2.symm; subst e2
                                refine zt_size (fun hzs => ?_)
                                have hP9 := hP.sub (ws' := [(aM, .inr (4, [.int th, .ref aMT, .int (nI mu), .ref aNw, .ref aNx, .int 3, .int (nI (zK B en ma_2)), .int (nI (zK B en ma_2)), .int (nI en), .long mv_5, .int (nI (zK B en ma2)), .int ml])), (aMT, .inl (kMT, 65536, .inl B)), (aNx, .inl (kNx, 52650, .inl (upd nx2 (pl + j) vn_8)))]) [2, 1, 0] rfl
                                have hD9 := hD.sub (ws' := [(aM, .inr (4, [.int th, .ref aMT, .int (nI mu), .ref aNw, .ref aNx, .int 3, .int (nI (zK B en ma_2)), .int (nI (zK B en ma_2)), .int (nI en), .long mv_5, .int (nI (zK B en ma2)), .int ml])), (aMT, .inl (kMT, 65536, .inl B)), (aNx, .inl (kNx, 52650, .inl (upd nx2 (pl + j) vn_8)))]) [2, 1, 0] (by decide) rfl
                                exact W.zret (v := 0) hx hb hr rfl (fun t ht hW => ⟨⟨0, (zK B en ma_2, 3, nI (zK B en ma_2), mv_5, nI (zK B en ma2), upd nx2 (pl + j) vn_8, ml), rfl, Or.inr ⟨rfl, by omega, _, by rw [tl_100]; unfold zTail; rw [if_pos ⟨Or.inl c_106, hs_104⟩], rfl⟩, by rw [ht]; exact hP9, hD9, by rw [ht]; exact hzs⟩, hS.F ht⟩) hS.2.2 d_Md_list_224
                              ·
                                have c_106 : ¬ ((j + 1) < le) := fun z => c_106 ((@nI_ltI (j + 1) le (by omega) (by omega)).mpr z)
                                rcases hwl with rfl | rfl
                                ·
                                  refine lv_iload hx hb d_Md_list_207 (lv_at hl 1 rfl) ?_
                                  refine lv_iload hx hb d_Md_list_209 (lv_at hl 7 rfl) ?_
                                  refine lv_irem hx hb d_Md_list_211 (by decide) ?_
                                  refine zt_top (pk_rem (a := j + 1) (d := 1) (by omega) (by decide) (by decide)) ?_
                                  refine lv_if_eq (tgt := 225) hx hb d_Md_list_212 (by decide) (fun c_111 => ?_) (fun c_111 => ?_)
                                  ·
                                    have c_111 : ((j + 1) % 1) = 0 := (@nI_eq ((j + 1) % 1) 0 (by omega) (by omega)).mp c_111
                                    refine lv_aload_n hx hb d_Md_list_225 rfl (lv_at hl 2 rfl) ?_
                                    refine lv_dup hx hb d_Md_list_226 rfl ?_
                                    refine va_get (D := (dC, dI)) (ci := 4) (v := .int (nI (zK B en ma_2))) (C := R_Md) (T := F_Md) (N := 12) hx hb hz i_Md hown hK hP 1 rfl rfl 7 (by decide) (hz _ tw_483) (fun _ h9 => h9) rfl d_Md_list_227 ?_
                                    refine lv_iconst (v := 1) hx hb d_Md_list_230 (by decide) ?_
                                    refine lv_iadd hx hb d_Md_list_231 ?_
                                    refine zt_top (nI_add (zK B en ma_2) 1) ?_
                                    refine va_put (D := (dC, dI)) (ci := 4) (v := .int (nI ((zK B en ma_2) + 1))) (ty := .int) (C := R_Md) (T := F_Md) (N := 12) hx hb hz i_Md t_Md t_Md_ok n_Md hown hK hP hD hS 1 rfl rfl 7 (by decide) (hz _ tw_483) (fun _ h9 => h9) rfl (by decide +kernel) rfl rfl (Nat.le_of_ble_eq_true rfl) d_Md_list_232 (fun H locs hP hD hS => ?_)
                                    have hP : va_P (dC, dI) vwCl [(aNx, .inl (kNx, 52650, .inl (upd nx2 (pl + j) vn_8))), (aM, .inr (4, [.int th, .ref aMT, .int (nI mu), .ref aNw, .ref aNx, .int mw, .int mwa, .int (nI ((zK B en ma_2) + 1)), .int (nI en), .long mv_5, .int (nI (zK B en ma2)), .int ml])), (aMT, .inl (kMT, 65536, .inl B))] H := hP
                                    have hD : va_D A [(aNx, .inl (kNx, 52650, .inl (upd nx2 (pl + j) vn_8))), (aM, .inr (4, [.int th, .ref aMT, .int (nI mu), .ref aNw, .ref aNx, .int mw, .int mwa, .int (nI ((zK B en ma_2) + 1)), .int (nI en), .long mv_5, .int (nI (zK B en ma2)), .int ml])), (aMT, .inl (kMT, 65536, .inl B))] := hD
                                    refine lv_aload_n hx hb d_Md_list_235 rfl (lv_at hl 2 rfl) ?_
                                    refine lv_iload hx hb d_Md_list_236 (lv_at hl 1 rfl) ?_
                                    refine va_put (D := (dC, dI)) (ci := 4) (v := .int (nI (j + 1))) (ty := .int) (C := R_Md) (T := F_Md) (N := 12) hx hb hz i_Md t_Md t_Md_ok n_Md hown hK hP hD hS 1 rfl rfl 11 (by decide) (hz _ tw_487) (fun _ h9 => h9) rfl (by decide +kernel) rfl rfl (Nat.le_of_ble_eq_true rfl) d_Md_list_238 (fun H locs hP hD hS => ?_)
                                    have hP : va_P (dC, dI) vwCl [(aNx, .inl (kNx, 52650, .inl (upd nx2 (pl + j) vn_8))), (aM, .inr (4, [.int th, .ref aMT, .int (nI mu), .ref aNw, .ref aNx, .int mw, .int mwa, .int (nI ((zK B en ma_2) + 1)), .int (nI en), .long mv_5, .int (nI (zK B en ma2)), .int (nI (j + 1))])), (aMT, .inl (kMT, 65536, .inl B))] H := hP
                                    have hD : va_D A [(aNx, .inl (kNx, 52650, .inl (upd nx2 (pl + j) vn_8))), (aM, .inr (4, [.int th, .ref aMT, .int (nI mu), .ref aNw, .ref aNx, .int mw, .int mwa, .int (nI ((zK B en ma_2) + 1)), .int (nI en), .long mv_5, .int (nI (zK B en ma2)), .int (nI (j + 1))])), (aMT, .inl (kMT, 65536, .inl B))] := hD
                                    refine lv_iconst (v := 1) hx hb d_Md_list_241 (by decide) ?_
                                    refine zt_size (fun hzs => ?_)
                                    have hP9 := hP.sub (ws' := [(aM, .inr (4, [.int th, .ref aMT, .int (nI mu), .ref aNw, .ref aNx, .int mw, .int mwa, .int (nI ((zK B en ma_2) + 1)), .int (nI en), .long mv_5, .int (nI (zK B en ma2)), .int (nI (j + 1))])), (aMT, .inl (kMT, 65536, .inl B)), (aNx, .inl (kNx, 52650, .inl (upd nx2 (pl + j) vn_8)))]) [1, 2, 0] rfl
                                    have hD9 := hD.sub (ws' := [(aM, .inr (4, [.int th, .ref aMT, .int (nI mu), .ref aNw, .ref aNx, .int mw, .int mwa, .int (nI ((zK B en ma_2) + 1)), .int (nI en), .long mv_5, .int (nI (zK B en ma2)), .int (nI (j + 1))])), (aMT, .inl (kMT, 65536, .inl B)), (aNx, .inl (kNx, 52650, .inl (upd nx2 (pl + j) vn_8)))]) [1, 2, 0] (by decide) rfl
                                    exact W.zret (v := 1) hx hb hr rfl (fun t ht hW => ⟨⟨1, ((zK B en ma_2) + 1, mw, mwa, mv_5, nI (zK B en ma2), upd nx2 (pl + j) vn_8, nI (j + 1)), rfl, Or.inl ⟨rfl, by omega, rfl, rfl, _, by rw [tl_100]; unfold zTail; rw [if_neg (fun z => absurd z.1 (fun z => z.elim c_106 (fun z => absurd z.1 (by decide))))]; simp only [zMust]; rw [if_pos hs_104, zB_ok], rfl⟩, by rw [ht]; exact hP9, hD9, by rw [ht]; exact hzs⟩, hS.F ht⟩) hS.2.2 d_Md_list_242
                                  ·
                                    have c_111 : ¬ (((j + 1) % 1) = 0) := fun z => c_111 ((@nI_eq ((j + 1) % 1) 0 (by omega) (by omega)).mpr z)
                                    refine lv_aload_n hx hb d_Md_list_215 rfl (lv_at hl 2 rfl) ?_
                                    refine lv_iconst (v := 3) hx hb d_Md_list_216 (by decide) ?_
                                    refine lv_aload_n hx hb d_Md_list_217 rfl (lv_at hl 2 rfl) ?_
                                    refine va_get (D := (dC, dI)) (ci := 4) (v := .int (nI (zK B en ma_2))) (C := R_Md) (T := F_Md) (N := 12) hx hb hz i_Md hown hK hP 1 rfl rfl 7 (by decide) (hz _ tw_483) (fun _ h9 => h9) rfl d_Md_list_218 ?_
                                    have hPc := hP.sub (ws' := [(aM, .inr (4, [.int th, .ref aMT, .int (nI mu), .ref aNw, .ref aNx, .int mw, .int mwa, .int (nI (zK B en ma_2)), .int (nI en), .long mv_5, .int (nI (zK B en ma2)), .int ml]))]) [1] rfl
                                    have hDc := hD.sub (ws' := [(aM, .inr (4, [.int th, .ref aMT, .int (nI mu), .ref aNw, .ref aNx, .int mw, .int mwa, .int (nI (zK B en ma_2)), .int (nI en), .long mv_5, .int (nI (zK B en ma2)), .int ml]))]) [1] (by decide) rfl
                                    have hKc := hK.sub (tys' := []) [] rfl
                                    have hFc := va_free (wc := [(aM, .inr (4, [.int th, .ref aMT, .int (nI mu), .ref aNw, .ref aNx, .int mw, .int mwa, .int (nI (zK B en ma_2)), .int (nI en), .long mv_5, .int (nI (zK B en ma2)), .int ml]))]) hD hS hA [1] rfl
                                    refine va_calli (va_runV (As := [.int 3, .int (nI (zK B en ma_2))]) (rest := []) ⟨hx, hb, hml, hown, hts⟩ (c_Md_fails l G dC dI H.size aM th aMT mu aNw aNx mw mwa (zK B en ma_2) en mv_5 (nI (zK B en ma2)) ml 3 (nI (zK B en ma_2))) (cwV 2 hts (gV tw_549 tw_551 ts_23 tw_5 tw_552 rfl) rfl rfl rfl (by decide +kernel) ⟨Nat.le_of_ble_eq_true rfl, Nat.le_of_ble_eq_true rfl⟩) (PW_preV hPc hKc hDc hE hS hFc (ci := 4) (q0 := 0) rfl rfl) rfl rfl hl.1 rfl (lv_room (Nat.le_of_ble_eq_true rfl)) d_Md_list_221 ⟨Nat.le_of_ble_eq_true rfl, Nat.le_of_ble_eq_true rfl⟩) hS (fun q _ h => hFc q h) hFc (fun r_112 uu t H1 locs ht hvm hw_115 hB hz1 hk1 hS => ?_)
                                    obtain ⟨mw_113, mwa_114⟩ := uu
                                    obtain ⟨hP1, hD1, hsz1⟩ := hB
                                    rw [ht] at hP1 hsz1
                                    obtain ⟨hP, hD⟩ := va_join (wr := [(aNx, .inl (kNx, 52650, .inl (upd nx2 (pl + j) vn_8))), (aMT, .inl (kMT, 65536, .inl B))]) (w1 := [(aM, .inr (4, [.int th, .ref aMT, .int (nI mu), .ref aNw, .ref aNx, .int mw_113, .int mwa_114, .int (nI (zK B en ma_2)), .int (nI en), .long mv_5, .int (nI (zK B en ma2)), .int ml]))]) hP hD [1] [0, 2] rfl rfl (by decide) (by decide) hk1 hFc hP1 hD1
                                    generalize H1 = H at hP hS ⊢
                                    have hP : va_P (dC, dI) vwCl [(aNx, .inl (kNx, 52650, .inl (upd nx2 (pl + j) vn_8))), (aMT, .inl (kMT, 65536, .inl B)), (aM, .inr (4, [.int th, .ref aMT, .int (nI mu), .ref aNw, .ref aNx, .int mw_113, .int mwa_114, .int (nI (zK B en ma_2)), .int (nI en), .long mv_5, .int (nI (zK B en ma2)), .int ml]))] H := hP
                                    have hD : va_D A [(aNx, .inl (kNx, 52650, .inl (upd nx2 (pl + j) vn_8))), (aMT, .inl (kMT, 65536, .inl B)), (aM, .inr (4, [.int th, .ref aMT, .int (nI mu), .ref aNw, .ref aNx, .int mw_113, .int mwa_114, .int (nI (zK B en ma_2)), .int (nI en), .long mv_5, .int (nI (zK B en ma2)), .int ml]))] := hD
                                    obtain ⟨e0, e1, e2⟩ := hw_115
                                    subst e0
                                    have e1 := e1.symm; subst e1
                                    have e2 := e2.symm; subst e2
                                    refine zt_size (fun hzs => ?_)
                                    have hP9 := hP.sub (ws' := [(aM, .inr (4, [.int th, .ref aMT, .int (nI mu), .ref aNw, .ref aNx, .int 3, .int (nI (zK B en ma_2)), .int (nI (zK B en ma_2)), .int (nI en), .long mv_5, .int (nI (zK B en ma2)), .int ml])), (aMT, .inl (kMT, 65536, .inl B)), (aNx, .inl (kNx, 52650, .inl (upd nx2 (pl + j) vn_8)))]) [2, 1, 0] rfl
                                    have hD9 := hD.sub (ws' := [(aM, .inr (4, [.int th, .ref aMT, .int (nI mu), .ref aNw, .ref aNx, .int 3, .int (nI (zK B en ma_2)), .int (nI (zK B en ma_2)), .int (nI en), .long mv_5, .int (nI (zK B en ma2)), .int ml])), (aMT, .inl (kMT, 65536, .inl B)), (aNx, .inl (kNx, 52650, .inl (upd nx2 (pl + j) vn_8)))]) [2, 1, 0] (by decide) rfl
                                    exact W.zret (v := 0) hx hb hr rfl (fun t ht hW => ⟨⟨0, (zK B en ma_2, 3, nI (zK B en ma_2), mv_5, nI (zK B en ma2), upd nx2 (pl + j) vn_8, ml), rfl, Or.inr ⟨rfl, by omega, _, by rw [tl_100]; unfold zTail; rw [if_pos ⟨absurd (Nat.mod_one _) c_111, hs_104⟩], rfl⟩, by rw [ht]; exact hP9, hD9, by rw [ht]; exact hzs⟩, hS.F ht⟩) hS.2.2 d_Md_list_224
                                ·
                                  refine lv_iload hx hb d_Md_list_207 (lv_at hl 1 rfl) ?_
                                  refine lv_iload hx hb d_Md_list_209 (lv_at hl 7 rfl) ?_
                                  refine lv_irem hx hb d_Md_list_211 (by decide) ?_
                                  refine zt_top (pk_rem (a := j + 1) (d := 3) (by omega) (by decide) (by decide)) ?_
                                  refine lv_if_eq (tgt := 225) hx hb d_Md_list_212 (by decide) (fun c_116 => ?_) (fun c_116 => ?_)
                                  ·
                                    have c_116 : ((j + 1) % 3) = 0 := (@nI_eq ((j + 1) % 3) 0 (by omega) (by omega)).mp c_116
                                    refine lv_aload_n hx hb d_Md_list_225 rfl (lv_at hl 2 rfl) ?_
                                    refine lv_dup hx hb d_Md_list_226 rfl ?_
                                    refine va_get (D := (dC, dI)) (ci := 4) (v := .int (nI (zK B en ma_2))) (C := R_Md) (T := F_Md) (N := 12) hx hb hz i_Md hown hK hP 1 rfl rfl 7 (by decide) (hz _ tw_483) (fun _ h9 => h9) rfl d_Md_list_227 ?_
                                    refine lv_iconst (v := 1) hx hb d_Md_list_230 (by decide) ?_
                                    refine lv_iadd hx hb d_Md_list_231 ?_
                                    refine zt_top (nI_add (zK B en ma_2) 1) ?_
                                    refine va_put (D := (dC, dI)) (ci := 4) (v := .int (nI ((zK B en ma_2) + 1))) (ty := .int) (C := R_Md) (T := F_Md) (N := 12) hx hb hz i_Md t_Md t_Md_ok n_Md hown hK hP hD hS 1 rfl rfl 7 (by decide) (hz _ tw_483) (fun _ h9 => h9) rfl (by decide +kernel) rfl rfl (Nat.le_of_ble_eq_true rfl) d_Md_list_232 (fun H locs hP hD hS => ?_)
                                    have hP : va_P (dC, dI) vwCl [(aNx, .inl (kNx, 52650, .inl (upd nx2 (pl + j) vn_8))), (aM, .inr (4, [.int th, .ref aMT, .int (nI mu), .ref aNw, .ref aNx, .int mw, .int mwa, .int (nI ((zK B en ma_2) + 1)), .int (nI en), .long mv_5, .int (nI (zK B en ma2)), .int ml])), (aMT, .inl (kMT, 65536, .inl B))] H := hP
                                    have hD : va_D A [(aNx, .inl (kNx, 52650, .inl (upd nx2 (pl + j) vn_8))), (aM, .inr (4, [.int th, .ref aMT, .int (nI mu), .ref aNw, .ref aNx, .int mw, .int mwa, .int (nI ((zK B en ma_2) + 1)), .int (nI en), .long mv_5, .int (nI (zK B en ma2)), .int ml])), (aMT, .inl (kMT, 65536, .inl B))] := hD
                                    refine lv_aload_n hx hb d_Md_list_235 rfl (lv_at hl 2 rfl) ?_
                                    refine lv_iload hx hb d_Md_list_236 (lv_at hl 1 rfl) ?_
                                    refine va_put (D := (dC, dI)) (ci := 4) (v := .int (nI (j + 1))) (ty := .int) (C := R_Md) (T := F_Md) (N := 12) hx hb hz i_Md t_Md t_Md_ok n_Md hown hK hP hD hS 1 rfl rfl 11 (by decide) (hz _ tw_487) (fun _ h9 => h9) rfl (by decide +kernel) rfl rfl (Nat.le_of_ble_eq_true rfl) d_Md_list_238 (fun H locs hP hD hS => ?_)
                                    have hP : va_P (dC, dI) vwCl [(aNx, .inl (kNx, 52650, .inl (upd nx2 (pl + j) vn_8))), (aM, .inr (4, [.int th, .ref aMT, .int (nI mu), .ref aNw, .ref aNx, .int mw, .int mwa, .int (nI ((zK B en ma_2) + 1)), .int (nI en), .long mv_5, .int (nI (zK B en ma2)), .int (nI (j + 1))])), (aMT, .inl (kMT, 65536, .inl B))] H := hP
                                    have hD : va_D A [(aNx, .inl (kNx, 52650, .inl (upd nx2 (pl + j) vn_8))), (aM, .inr (4, [.int th, .ref aMT, .int (nI mu), .ref aNw, .ref aNx, .int mw, .int mwa, .int (nI ((zK B en ma_2) + 1)), .int (nI en), .long mv_5, .int (nI (zK B en ma2)), .int (nI (j + 1))])), (aMT, .inl (kMT, 65536, .inl B))] := hD
                                    refine lv_iconst (v := 1) hx hb d_Md_list_241 (by decide) ?_
                                    refine zt_size (fun hzs => ?_)
                                    have hP9 := hP.sub (ws' := [(aM, .inr (4, [.int th, .ref aMT, .int (nI mu), .ref aNw, .ref aNx, .int mw, .int mwa, .int (nI ((zK B en ma_2) + 1)), .int (nI en), .long mv_5, .int (nI (zK B en ma2)), .int (nI (j + 1))])), (aMT, .inl (kMT, 65536, .inl B)), (aNx, .inl (kNx, 52650, .inl (upd nx2 (pl + j) vn_8)))]) [1, 2, 0] rfl
                                    have hD9 := hD.sub (ws' := [(aM, .inr (4, [.int th, .ref aMT, .int (nI mu), .ref aNw, .ref aNx, .int mw, .int mwa, .int (nI ((zK B en ma_2) + 1)), .int (nI en), .long mv_5, .int (nI (zK B en ma2)), .int (nI (j + 1))])), (aMT, .inl (kMT, 65536, .inl B)), (aNx, .inl (kNx, 52650, .inl (upd nx2 (pl + j) vn_8)))]) [1, 2, 0] (by decide) rfl
                                    exact W.zret (v := 1) hx hb hr rfl (fun t ht hW => ⟨⟨1, ((zK B en ma_2) + 1, mw, mwa, mv_5, nI (zK B en ma2), upd nx2 (pl + j) vn_8, nI (j + 1)), rfl, Or.inl ⟨rfl, by omega, rfl, rfl, _, by rw [tl_100]; unfold zTail; rw [if_neg (fun z => absurd z.1 (fun z => z.elim c_106 (fun z => z.2 c_116)))]; simp only [zMust]; rw [if_pos hs_104, zB_ok], rfl⟩, by rw [ht]; exact hP9, hD9, by rw [ht]; exact hzs⟩, hS.F ht⟩) hS.2.2 d_Md_list_242
                                  ·
                                    have c_116 : ¬ (((j + 1) % 3) = 0) := fun z => c_116 ((@nI_eq ((j + 1) % 3) 0 (by omega) (by omega)).mpr z)
                                    refine lv_aload_n hx hb d_Md_list_215 rfl (lv_at hl 2 rfl) ?_
                                    refine lv_iconst (v := 3) hx hb d_Md_list_216 (by decide) ?_
                                    refine lv_aload_n hx hb d_Md_list_217 rfl (lv_at hl 2 rfl) ?_
                                    refine va_get (D := (dC, dI)) (ci := 4) (v := .int (nI (zK B en ma_2))) (C := R_Md) (T := F_Md) (N := 12) hx hb hz i_Md hown hK hP 1 rfl rfl 7 (by decide) (hz _ tw_483) (fun _ h9 => h9) rfl d_Md_list_218 ?_
                                    have hPc := hP.sub (ws' := [(aM, .inr (4, [.int th, .ref aMT, .int (nI mu), .ref aNw, .ref aNx, .int mw, .int mwa, .int (nI (zK B en ma_2)), .int (nI en), .long mv_5, .int (nI (zK B en ma2)), .int ml]))]) [1] rfl
                                    have hDc := hD.sub (ws' := [(aM, .inr (4, [.int th, .ref aMT, .int (nI mu), .ref aNw, .ref aNx, .int mw, .int mwa, .int (nI (zK B en ma_2)), .int (nI en), .long mv_5, .int (nI (zK B en ma2)), .int ml]))]) [1] (by decide) rfl
                                    have hKc := hK.sub (tys' := []) [] rfl
                                    have hFc := va_free (wc := [(aM, .inr (4, [.int th, .ref aMT, .int (nI mu), .ref aNw, .ref aNx, .int mw, .int mwa, .int (nI (zK B en ma_2)), .int (nI en), .long mv_5, .int (nI (zK B en ma2)), .int ml]))]) hD hS hA [1] rfl
                                    refine va_calli (va_runV (As := [.int 3, .int (nI (zK B en ma_2))]) (rest := []) ⟨hx, hb, hml, hown, hts⟩ (c_Md_fails l G dC dI H.size aM th aMT mu aNw aNx mw mwa (zK B en ma_2) en mv_5 (nI (zK B en ma2)) ml 3 (nI (zK B en ma_2))) (cwV 2 hts (gV tw_549 tw_551 ts_23 tw_5 tw_552 rfl) rfl rfl rfl (by decide +kernel) ⟨Nat.le_of_ble_eq_true rfl, Nat.le_of_ble_eq_true rfl⟩) (PW_preV hPc hKc hDc hE hS hFc (ci := 4) (q0 := 0) rfl rfl) rfl rfl hl.1 rfl (lv_room (Nat.le_of_ble_eq_true rfl)) d_Md_list_221 ⟨Nat.le_of_ble_eq_true rfl, Nat.le_of_ble_eq_true rfl⟩) hS (fun q _ h => hFc q h) hFc (fun r_117 uu t H1 locs ht hvm hw_120 hB hz1 hk1 hS => ?_)
                                    obtain ⟨mw_118, mwa_119⟩ := uu
                                    obtain ⟨hP1, hD1, hsz1⟩ := hB
                                    rw [ht] at hP1 hsz1
                                    obtain ⟨hP, hD⟩ := va_join (wr := [(aNx, .inl (kNx, 52650, .inl (upd nx2 (pl + j) vn_8))), (aMT, .inl (kMT, 65536, .inl B))]) (w1 := [(aM, .inr (4, [.int th, .ref aMT, .int (nI mu), .ref aNw, .ref aNx, .int mw_118, .int mwa_119, .int (nI (zK B en ma_2)), .int (nI en), .long mv_5, .int (nI (zK B en ma2)), .int ml]))]) hP hD [1] [0, 2] rfl rfl (by decide) (by decide) hk1 hFc hP1 hD1
                                    generalize H1 = H at hP hS ⊢
                                    have hP : va_P (dC, dI) vwCl [(aNx, .inl (kNx, 52650, .inl (upd nx2 (pl + j) vn_8))), (aMT, .inl (kMT, 65536, .inl B)), (aM, .inr (4, [.int th, .ref aMT, .int (nI mu), .ref aNw, .ref aNx, .int mw_118, .int mwa_119, .int (nI (zK B en ma_2)), .int (nI en), .long mv_5, .int (nI (zK B en ma2)), .int ml]))] H := hP
                                    have hD : va_D A [(aNx, .inl (kNx, 52650, .inl (upd nx2 (pl + j) vn_8))), (aMT, .inl (kMT, 65536, .inl B)), (aM, .inr (4, [.int th, .ref aMT, .int (nI mu), .ref aNw, .ref aNx, .int mw_118, .int mwa_119, .int (nI (zK B en ma_2)), .int (nI en), .long mv_5, .int (nI (zK B en ma2)), .int ml]))] := hD
                                    obtain ⟨e0, e1, e2⟩ := hw_120
                                    subst e0
                                    have e1 := e1.symm; subst e1
                                    have e2 := e2.symm; subst e2
                                    refine zt_size (fun hzs => ?_)
                                    have hP9 := hP.sub (ws' := [(aM, .inr (4, [.int th, .ref aMT, .int (nI mu), .ref aNw, .ref aNx, .int 3, .int (nI (zK B en ma_2)), .int (nI (zK B en ma_2)), .int (nI en), .long mv_5, .int (nI (zK B en ma2)), .int ml])), (aMT, .inl (kMT, 65536, .inl B)), (aNx, .inl (kNx, 52650, .inl (upd nx2 (pl + j) vn_8)))]) [2, 1, 0] rfl
                                    have hD9 := hD.sub (ws' := [(aM, .inr (4, [.int th, .ref aMT, .int (nI mu), .ref aNw, .ref aNx, .int 3, .int (nI (zK B en ma_2)), .int (nI (zK B en ma_2)), .int (nI en), .long mv_5, .int (nI (zK B en ma2)), .int ml])), (aMT, .inl (kMT, 65536, .inl B)), (aNx, .inl (kNx, 52650, .inl (upd nx2 (pl + j) vn_8)))]) [2, 1, 0] (by decide) rfl
                                    exact W.zret (v := 0) hx hb hr rfl (fun t ht hW => ⟨⟨0, (zK B en ma_2, 3, nI (zK B en ma_2), mv_5, nI (zK B en ma2), upd nx2 (pl + j) vn_8, ml), rfl, Or.inr ⟨rfl, by omega, _, by rw [tl_100]; unfold zTail; rw [if_pos ⟨Or.inr ⟨by decide, c_116⟩, hs_104⟩], rfl⟩, by rw [ht]; exact hP9, hD9, by rw [ht]; exact hzs⟩, hS.F ht⟩) hS.2.2 d_Md_list_224
                            ·
                              exact absurd c_105 (by decide)
                          ·
                            rw [if_neg hs_104] at e2; subst e2
                            refine lv_if_ne (tgt := 200) hx hb d_Md_list_187 (by decide) (fun c_121 => ?_) (fun c_121 => ?_)
                            ·
                              exact absurd (by decide) c_121
                            ·
                              refine lv_aload_n hx hb d_Md_list_190 rfl (lv_at hl 2 rfl) ?_
                              refine lv_iconst (v := 1) hx hb d_Md_list_191 (by decide) ?_
                              refine lv_aload_n hx hb d_Md_list_192 rfl (lv_at hl 2 rfl) ?_
                              refine va_get (D := (dC, dI)) (ci := 4) (v := .int (nI (zK B en ma_2))) (C := R_Md) (T := F_Md) (N := 12) hx hb hz i_Md hown hK hP 1 rfl rfl 7 (by decide) (hz _ tw_483) (fun _ h9 => h9) rfl d_Md_list_193 ?_
                              have hPc := hP.sub (ws' := [(aM, .inr (4, [.int th, .ref aMT, .int (nI mu), .ref aNw, .ref aNx, .int mw, .int mwa, .int (nI (zK B en ma_2)), .int (nI en), .long mv_5, .int (nI (zK B en ma2)), .int ml]))]) [1] rfl
                              have hDc := hD.sub (ws' := [(aM, .inr (4, [.int th, .ref aMT, .int (nI mu), .ref aNw, .ref aNx, .int mw, .int mwa, .int (nI (zK B en ma_2)), .int (nI en), .long mv_5, .int (nI (zK B en ma2)), .int ml]))]) [1] (by decide) rfl
                              have hKc := hK.sub (tys' := []) [] rfl
                              have hFc := va_free (wc := [(aM, .inr (4, [.int th, .ref aMT, .int (nI mu), .ref aNw, .ref aNx, .int mw, .int mwa, .int (nI (zK B en ma_2)), .int (nI en), .long mv_5, .int (nI (zK B en ma2)), .int ml]))]) hD hS hA [1] rfl
                              refine va_calli (va_runV (As := [.int 1, .int (nI (zK B en ma_2))]) (rest := []) ⟨hx, hb, hml, hown, hts⟩ (c_Md_fails l G dC dI H.size aM th aMT mu aNw aNx mw mwa (zK B en ma_2) en mv_5 (nI (zK B en ma2)) ml 1 (nI (zK B en ma_2))) (cwV 2 hts (gV tw_549 tw_551 ts_23 tw_5 tw_552 rfl) rfl rfl rfl (by decide +kernel) ⟨Nat.le_of_ble_eq_true rfl, Nat.le_of_ble_eq_true rfl⟩) (PW_preV hPc hKc hDc hE hS hFc (ci := 4) (q0 := 0) rfl rfl) rfl rfl hl.1 rfl (lv_room (Nat.le_of_ble_eq_true rfl)) d_Md_list_196 ⟨Nat.le_of_ble_eq_true rfl, Nat.le_of_ble_eq_true rfl⟩) hS (fun q _ h => hFc q h) hFc (fun r_122 uu t H1 locs ht hvm hw_125 hB hz1 hk1 hS => ?_)
                              obtain ⟨mw_123, mwa_124⟩ := uu
                              obtain ⟨hP1, hD1, hsz1⟩ := hB
                              rw [ht] at hP1 hsz1
                              obtain ⟨hP, hD⟩ := va_join (wr := [(aNx, .inl (kNx, 52650, .inl (upd nx2 (pl + j) vn_8))), (aMT, .inl (kMT, 65536, .inl B))]) (w1 := [(aM, .inr (4, [.int th, .ref aMT, .int (nI mu), .ref aNw, .ref aNx, .int mw_123, .int mwa_124, .int (nI (zK B en ma_2)), .int (nI en), .long mv_5, .int (nI (zK B en ma2)), .int ml]))]) hP hD [1] [0, 2] rfl rfl (by decide) (by decide) hk1 hFc hP1 hD1
                              generalize H1 = H at hP hS ⊢
                              have hP : va_P (dC, dI) vwCl [(aNx, .inl (kNx, 52650, .inl (upd nx2 (pl + j) vn_8))), (aMT, .inl (kMT, 65536, .inl B)), (aM, .inr (4, [.int th, .ref aMT, .int (nI mu), .ref aNw, .ref aNx, .int mw_123, .int mwa_124, .int (nI (zK B en ma_2)), .int (nI en), .long mv_5, .int (nI (zK B en ma2)), .int ml]))] H := hP
                              have hD : va_D A [(aNx, .inl (kNx, 52650, .inl (upd nx2 (pl + j) vn_8))), (aMT, .inl (kMT, 65536, .inl B)), (aM, .inr (4, [.int th, .ref aMT, .int (nI mu), .ref aNw, .ref aNx, .int mw_123, .int mwa_124, .int (nI (zK B en ma_2)), .int (nI en), .long mv_5, .int (nI (zK B en ma2)), .int ml]))] := hD
                              obtain ⟨e0, e1, e2⟩ := hw_125
                              subst e0
                              have e1 := e1.symm; subst e1
                              have e2 := e2.symm; subst e2
                              refine zt_size (fun hzs => ?_)
                              have hP9 := hP.sub (ws' := [(aM, .inr (4, [.int th, .ref aMT, .int (nI mu), .ref aNw, .ref aNx, .int 1, .int (nI (zK B en ma_2)), .int (nI (zK B en ma_2)), .int (nI en), .long mv_5, .int (nI (zK B en ma2)), .int ml])), (aMT, .inl (kMT, 65536, .inl B)), (aNx, .inl (kNx, 52650, .inl (upd nx2 (pl + j) vn_8)))]) [2, 1, 0] rfl
                              have hD9 := hD.sub (ws' := [(aM, .inr (4, [.int th, .ref aMT, .int (nI mu), .ref aNw, .ref aNx, .int 1, .int (nI (zK B en ma_2)), .int (nI (zK B en ma_2)), .int (nI en), .long mv_5, .int (nI (zK B en ma2)), .int ml])), (aMT, .inl (kMT, 65536, .inl B)), (aNx, .inl (kNx, 52650, .inl (upd nx2 (pl + j) vn_8)))]) [2, 1, 0] (by decide) rfl
                              exact W.zret (v := 0) hx hb hr rfl (fun t ht hW => ⟨⟨0, (zK B en ma_2, 1, nI (zK B en ma_2), mv_5, nI (zK B en ma2), upd nx2 (pl + j) vn_8, ml), rfl, Or.inr ⟨rfl, by omega, _, by rw [tl_100]; unfold zTail; rw [if_neg (fun z => hs_104 z.2)]; simp only [zMust]; rw [if_neg hs_104, zB_er], rfl⟩, by rw [ht]; exact hP9, hD9, by rw [ht]; exact hzs⟩, hS.F ht⟩) hS.2.2 d_Md_list_199
                        ·
                          exact absurd (by decide) c_99
                      ·
                        exact absurd (by decide) c_98
                  ·
                    refine lv_aload_n hx hb d_Md_list_121 rfl (lv_at hl 0 rfl) ?_
                    refine lv_iconst (v := 2) hx hb d_Md_list_122 (by decide) ?_
                    refine lv_aload_n hx hb d_Md_list_123 rfl (lv_at hl 0 rfl) ?_
                    refine va_get (D := (dC, dI)) (ci := 4) (v := .int (nI (zK B en ma2))) (C := R_Md) (T := F_Md) (N := 12) hx hb hz i_Md hown hK hP 1 rfl rfl 10 (by decide) (hz _ tw_486) (fun _ h9 => h9) rfl d_Md_list_124 ?_
                    have hPc := hP.sub (ws' := [(aM, .inr (4, [.int th, .ref aMT, .int (nI mu), .ref aNw, .ref aNx, .int mw, .int mwa, .int (nI ma_2), .int (nI en), .long mv_5, .int (nI (zK B en ma2)), .int ml]))]) [1] rfl
                    have hDc := hD.sub (ws' := [(aM, .inr (4, [.int th, .ref aMT, .int (nI mu), .ref aNw, .ref aNx, .int mw, .int mwa, .int (nI ma_2), .int (nI en), .long mv_5, .int (nI (zK B en ma2)), .int ml]))]) [1] (by decide) rfl
                    have hKc := hK.sub (tys' := []) [] rfl
                    have hFc := va_free (wc := [(aM, .inr (4, [.int th, .ref aMT, .int (nI mu), .ref aNw, .ref aNx, .int mw, .int mwa, .int (nI ma_2), .int (nI en), .long mv_5, .int (nI (zK B en ma2)), .int ml]))]) hD hS hA [1] rfl
                    refine va_calli (va_runV (As := [.int 2, .int (nI (zK B en ma2))]) (rest := []) ⟨hx, hb, hml, hown, hts⟩ (c_Md_fails l G dC dI H.size aM th aMT mu aNw aNx mw mwa ma_2 en mv_5 (nI (zK B en ma2)) ml 2 (nI (zK B en ma2))) (cwV 2 hts (gV tw_549 tw_551 ts_23 tw_5 tw_552 rfl) rfl rfl rfl (by decide +kernel) ⟨Nat.le_of_ble_eq_true rfl, Nat.le_of_ble_eq_true rfl⟩) (PW_preV hPc hKc hDc hE hS hFc (ci := 4) (q0 := 0) rfl rfl) rfl rfl hl.1 rfl (lv_room (Nat.le_of_ble_eq_true rfl)) d_Md_list_127 ⟨Nat.le_of_ble_eq_true rfl, Nat.le_of_ble_eq_true rfl⟩) hS (fun q _ h => hFc q h) hFc (fun r_126 uu t H1 locs ht hvm hw_129 hB hz1 hk1 hS => ?_)
                    obtain ⟨mw_127, mwa_128⟩ := uu
                    obtain ⟨hP1, hD1, hsz1⟩ := hB
                    rw [ht] at hP1 hsz1
                    obtain ⟨hP, hD⟩ := va_join (wr := [(aNx, .inl (kNx, 52650, .inl nx2)), (aMT, .inl (kMT, 65536, .inl B))]) (w1 := [(aM, .inr (4, [.int th, .ref aMT, .int (nI mu), .ref aNw, .ref aNx, .int mw_127, .int mwa_128, .int (nI ma_2), .int (nI en), .long mv_5, .int (nI (zK B en ma2)), .int ml]))]) hP hD [1] [0, 2] rfl rfl (by decide) (by decide) hk1 hFc hP1 hD1
                    generalize H1 = H at hP hS ⊢
                    have hP : va_P (dC, dI) vwCl [(aNx, .inl (kNx, 52650, .inl nx2)), (aMT, .inl (kMT, 65536, .inl B)), (aM, .inr (4, [.int th, .ref aMT, .int (nI mu), .ref aNw, .ref aNx, .int mw_127, .int mwa_128, .int (nI ma_2), .int (nI en), .long mv_5, .int (nI (zK B en ma2)), .int ml]))] H := hP
                    have hD : va_D A [(aNx, .inl (kNx, 52650, .inl nx2)), (aMT, .inl (kMT, 65536, .inl B)), (aM, .inr (4, [.int th, .ref aMT, .int (nI mu), .ref aNw, .ref aNx, .int mw_127, .int mwa_128, .int (nI ma_2), .int (nI en), .long mv_5, .int (nI (zK B en ma2)), .int ml]))] := hD
                    obtain ⟨e0, e1, e2⟩ := hw_129
                    subst e0
                    have e1 := e1.symm; subst e1
                    have e2 := e2.symm; subst e2
                    refine zt_size (fun hzs => ?_)
                    have hP9 := hP.sub (ws' := [(aM, .inr (4, [.int th, .ref aMT, .int (nI mu), .ref aNw, .ref aNx, .int 2, .int (nI (zK B en ma2)), .int (nI ma_2), .int (nI en), .long mv_5, .int (nI (zK B en ma2)), .int ml])), (aMT, .inl (kMT, 65536, .inl B)), (aNx, .inl (kNx, 52650, .inl nx2))]) [2, 1, 0] rfl
                    have hD9 := hD.sub (ws' := [(aM, .inr (4, [.int th, .ref aMT, .int (nI mu), .ref aNw, .ref aNx, .int 2, .int (nI (zK B en ma2)), .int (nI ma_2), .int (nI en), .long mv_5, .int (nI (zK B en ma2)), .int ml])), (aMT, .inl (kMT, 65536, .inl B)), (aNx, .inl (kNx, 52650, .inl nx2))]) [2, 1, 0] (by decide) rfl
                    exact W.zret (v := 0) hx hb hr rfl (fun t ht hW => ⟨⟨0, (ma_2, 2, nI (zK B en ma2), mv_5, nI (zK B en ma2), nx2, ml), rfl, Or.inr ⟨rfl, by omega, _, by rw [hI, zLst_step (by omega), hw_7a, zB_ok, if_neg c_10, if_pos ((zgrow hlw0 hlw1 hhi2 hlo1).mpr (Or.inr (Or.inr ⟨decide_eq_true hg1, by omega, fun z => c_91 ((lg_cmp_gt _ _).mpr ((zVal_gt hw_7v hb1 hb2).mpr z))⟩))), zB_er], rfl⟩, by rw [ht]; exact hP9, hD9, by rw [ht]; exact hzs⟩, hS.F ht⟩) hS.2.2 d_Md_list_130
        ·
          have c_10 : j = mo := (@nI_eq j mo (by omega) (by omega)).mp c_10
          refine lv_aload_n hx hb d_Md_list_59 rfl (lv_at hl 0 rfl) ?_
          refine lv_iconst (v := 3) hx hb d_Md_list_60 (by decide) ?_
          refine lv_aload_n hx hb d_Md_list_61 rfl (lv_at hl 0 rfl) ?_
          refine va_get (D := (dC, dI)) (ci := 4) (v := .int (nI (zK B en ma2))) (C := R_Md) (T := F_Md) (N := 12) hx hb hz i_Md hown hK hP 1 rfl rfl 10 (by decide) (hz _ tw_486) (fun _ h9 => h9) rfl d_Md_list_62 ?_
          have hPc := hP.sub (ws' := [(aM, .inr (4, [.int th, .ref aMT, .int (nI mu), .ref aNw, .ref aNx, .int mw, .int mwa, .int (nI ma_2), .int (nI en), .long mv_5, .int (nI (zK B en ma2)), .int ml]))]) [1] rfl
          have hDc := hD.sub (ws' := [(aM, .inr (4, [.int th, .ref aMT, .int (nI mu), .ref aNw, .ref aNx, .int mw, .int mwa, .int (nI ma_2), .int (nI en), .long mv_5, .int (nI (zK B en ma2)), .int ml]))]) [1] (by decide) rfl
          have hKc := hK.sub (tys' := []) [] rfl
          have hFc := va_free (wc := [(aM, .inr (4, [.int th, .ref aMT, .int (nI mu), .ref aNw, .ref aNx, .int mw, .int mwa, .int (nI ma_2), .int (nI en), .long mv_5, .int (nI (zK B en ma2)), .int ml]))]) hD hS hA [1] rfl
          refine va_calli (va_runV (As := [.int 3, .int (nI (zK B en ma2))]) (rest := []) ⟨hx, hb, hml, hown, hts⟩ (c_Md_fails l G dC dI H.size aM th aMT mu aNw aNx mw mwa ma_2 en mv_5 (nI (zK B en ma2)) ml 3 (nI (zK B en ma2))) (cwV 2 hts (gV tw_549 tw_551 ts_23 tw_5 tw_552 rfl) rfl rfl rfl (by decide +kernel) ⟨Nat.le_of_ble_eq_true rfl, Nat.le_of_ble_eq_true rfl⟩) (PW_preV hPc hKc hDc hE hS hFc (ci := 4) (q0 := 0) rfl rfl) rfl rfl hl.1 rfl (lv_room (Nat.le_of_ble_eq_true rfl)) d_Md_list_65 ⟨Nat.le_of_ble_eq_true rfl, Nat.le_of_ble_eq_true rfl⟩) hS (fun q _ h => hFc q h) hFc (fun r_130 uu t H1 locs ht hvm hw_133 hB hz1 hk1 hS => ?_)
          obtain ⟨mw_131, mwa_132⟩ := uu
          obtain ⟨hP1, hD1, hsz1⟩ := hB
          rw [ht] at hP1 hsz1
          obtain ⟨hP, hD⟩ := va_join (wr := [(aNx, .inl (kNx, 52650, .inl nx2)), (aMT, .inl (kMT, 65536, .inl B))]) (w1 := [(aM, .inr (4, [.int th, .ref aMT, .int (nI mu), .ref aNw, .ref aNx, .int mw_131, .int mwa_132, .int (nI ma_2), .int (nI en), .long mv_5, .int (nI (zK B en ma2)), .int ml]))]) hP hD [1] [0, 2] rfl rfl (by decide) (by decide) hk1 hFc hP1 hD1
          generalize H1 = H at hP hS ⊢
          have hP : va_P (dC, dI) vwCl [(aNx, .inl (kNx, 52650, .inl nx2)), (aMT, .inl (kMT, 65536, .inl B)), (aM, .inr (4, [.int th, .ref aMT, .int (nI mu), .ref aNw, .ref aNx, .int mw_131, .int mwa_132, .int (nI ma_2), .int (nI en), .long mv_5, .int (nI (zK B en ma2)), .int ml]))] H := hP
          have hD : va_D A [(aNx, .inl (kNx, 52650, .inl nx2)), (aMT, .inl (kMT, 65536, .inl B)), (aM, .inr (4, [.int th, .ref aMT, .int (nI mu), .ref aNw, .ref aNx, .int mw_131, .int mwa_132, .int (nI ma_2), .int (nI en), .long mv_5, .int (nI (zK B en ma2)), .int ml]))] := hD
          obtain ⟨e0, e1, e2⟩ := hw_133
          subst e0
          have e1 := e1.symm; subst e1
          have e2 := e2.symm; subst e2
          refine zt_size (fun hzs => ?_)
          have hP9 := hP.sub (ws' := [(aM, .inr (4, [.int th, .ref aMT, .int (nI mu), .ref aNw, .ref aNx, .int 3, .int (nI (zK B en ma2)), .int (nI ma_2), .int (nI en), .long mv_5, .int (nI (zK B en ma2)), .int ml])), (aMT, .inl (kMT, 65536, .inl B)), (aNx, .inl (kNx, 52650, .inl nx2))]) [2, 1, 0] rfl
          have hD9 := hD.sub (ws' := [(aM, .inr (4, [.int th, .ref aMT, .int (nI mu), .ref aNw, .ref aNx, .int 3, .int (nI (zK B en ma2)), .int (nI ma_2), .int (nI en), .long mv_5, .int (nI (zK B en ma2)), .int ml])), (aMT, .inl (kMT, 65536, .inl B)), (aNx, .inl (kNx, 52650, .inl nx2))]) [2, 1, 0] (by decide) rfl
          exact W.zret (v := 0) hx hb hr rfl (fun t ht hW => ⟨⟨0, (ma_2, 3, nI (zK B en ma2), mv_5, nI (zK B en ma2), nx2, ml), rfl, Or.inr ⟨rfl, by omega, _, by rw [hI, zLst_step (by omega), hw_7a, zB_ok, if_pos c_10, zB_er], rfl⟩, by rw [ht]; exact hP9, hD9, by rw [ht]; exact hzs⟩, hS.F ht⟩) hS.2.2 d_Md_list_68
      ·
        exact absurd c_9 (by decide)
    ·
      have hw_7a := zNum_no hw_7d
      have e1 := e1.symm; subst e1
      have e2 := e2.symm; subst e2
      refine lv_if_ne (tgt := 52) hx hb d_Md_list_47 (by decide) (fun c_134 => ?_) (fun c_134 => ?_)
      ·
        exact absurd (by decide) c_134
      ·
        refine lv_iconst (v := 0) hx hb d_Md_list_50 (by decide) ?_
        refine zt_size (fun hzs => ?_)
        have hP9 := hP.sub (ws' := [(aM, .inr (4, [.int th, .ref aMT, .int (nI mu), .ref aNw, .ref aNx, .int 1, .int (nI (zK B en ma2)), .int (nI ma_2), .int (nI en), .long mv_5, .int mf_6, .int ml])), (aMT, .inl (kMT, 65536, .inl B)), (aNx, .inl (kNx, 52650, .inl nx2))]) [1, 2, 0] rfl
        have hD9 := hD.sub (ws' := [(aM, .inr (4, [.int th, .ref aMT, .int (nI mu), .ref aNw, .ref aNx, .int 1, .int (nI (zK B en ma2)), .int (nI ma_2), .int (nI en), .long mv_5, .int mf_6, .int ml])), (aMT, .inl (kMT, 65536, .inl B)), (aNx, .inl (kNx, 52650, .inl nx2))]) [1, 2, 0] (by decide) rfl
        exact W.zret (v := 0) hx hb hr rfl (fun t ht hW => ⟨⟨0, (ma_2, 1, nI (zK B en ma2), mv_5, mf_6, nx2, ml), rfl, Or.inr ⟨rfl, by omega, _, by rw [hI, zLst_step (by omega), hw_7a, zB_er, zB_er], rfl⟩, by rw [ht]; exact hP9, hD9, by rw [ht]; exact hzs⟩, hS.F ht⟩) hS.2.2 d_Md_list_51
set_option maxHeartbeats 4000000 in
set_option maxRecDepth 100000 in
theorem c_Md_list (l : Launch) (G : ZG) (dC : Nat → ClassId) (dI : Nat → Nat → Nat) (sz : Nat) (aM : Nat) (th : Int32) (aMT : Nat) (mu : Nat) (aNw : Nat) (aNx : Nat) (mw : Int32) (mwa : Int32) (ma : Nat) (en : Nat) (mv : Int64) (mf : Int32) (ml : Int32) (kMT : ClassId) (B : Nat → Int32) (kNx : ClassId) (nx : Nat → Int32) (ks : Nat) (pl : Nat) (le : Nat) (mo : Nat) (wl : Nat) (low : Int32) (hig : Int32) (gi : Int32) (hen : en ≤ 65536) (hma : ma ≤ en) (hks1 : 1 ≤ ks) (hks : ks < 33) (hL : (zSb ks).length ≤ 17) (hle : le ≤ 3072) (hmo : mo ≤ 3072) (hpl : pl + mo ≤ 52650) (hwl : wl = 1 ∨ wl = 3) (hgi : gi = 0 ∨ gi = 1) (hlo1 : -100000000 < low.toInt) (hlo2 : low.toInt < 100000000) (hhi1 : -100000000 < hig.toInt) (hhi2 : hig.toInt < 100000000) : Met l y_Md_list w_Md_list ({ frames := 4, cells := 0, slots := 0, locals := 84 }) (va_Pc [.ref aM, .long (zWv ks), .int (nI pl), .int (nI le), .int (nI mo), .int (nI wl), .int low, .int hig, .int gi] (PW G (dC, dI) [(kMT, .byte), (kNx, .int)] [(aM, .inr (4, [.int th, .ref aMT, .int (nI mu), .ref aNw, .ref aNx, .int mw, .int mwa, .int (nI ma), .int (nI en), .long mv, .int mf, .int ml])), (aMT, .inl (kMT, 65536, .inl B)), (aNx, .inl (kNx, 52650, .inl nx))] sz)) (va_Qi (fun (r : Int32) (uu : Nat × Int32 × Int32 × Int64 × Int32 × (Nat → Int32) × Int32) => (r = 1 ∧ uu.1 ≤ en ∧ uu.2.1 = mw ∧ uu.2.2.1 = mwa ∧ ∃ n, (zB (zKey B en (zSb ks) (zK B en ma)) fun h1 => zList B en (decide (gi = 1)) (decide (wl = 3)) le mo pl low hig h1 nx) = .ok (n, zK B en uu.1, uu.2.2.2.2.2.1) ∧ uu.2.2.2.2.2.2 = nI n) ∨ (r = 0 ∧ uu.1 ≤ en ∧ ∃ k, (zB (zKey B en (zSb ks) (zK B en ma)) fun h1 => zList B en (decide (gi = 1)) (decide (wl = 3)) le mo pl low hig h1 nx) = .error (uu.2.1, k) ∧ uu.2.2.1 = nI k)) (fun (uu : Nat × Int32 × Int32 × Int64 × Int32 × (Nat → Int32) × Int32) t => BW (dC, dI) [(aM, .inr (4, [.int th, .ref aMT, .int (nI mu), .ref aNw, .ref aNx, .int uu.2.1, .int uu.2.2.1, .int (nI uu.1), .int (nI en), .long uu.2.2.2.1, .int uu.2.2.2.2.1, .int uu.2.2.2.2.2.2])), (aMT, .inl (kMT, 65536, .inl B)), (aNx, .inl (kNx, 52650, .inl uu.2.2.2.2.2.1))] (va_A [(aM, .inr (4, [.int th, .ref aMT, .int (nI mu), .ref aNw, .ref aNx, .int mw, .int mwa, .int (nI ma), .int (nI en), .long mv, .int mf, .int ml])), (aMT, .inl (kMT, 65536, .inl B)), (aNx, .inl (kNx, 52650, .inl nx))] sz) sz t) (va_A [(aM, .inr (4, [.int th, .ref aMT, .int (nI mu), .ref aNw, .ref aNx, .int mw, .int mwa, .int (nI ma), .int (nI en), .long mv, .int mf, .int ml])), (aMT, .inl (kMT, 65536, .inl B)), (aNx, .inl (kNx, 52650, .inl nx))] sz)) 0 0 (va_A [(aM, .inr (4, [.int th, .ref aMT, .int (nI mu), .ref aNw, .ref aNx, .int mw, .int mwa, .int (nI ma), .int (nI en), .long mv, .int mf, .int ml])), (aMT, .inl (kMT, 65536, .inl B)), (aNx, .inl (kNx, 52650, .inl nx))] sz) := by
  refine Met.ofW (cc := prog_6_method_18_code) (maxL := 12) (ret := (some .boolean)) (by decide) rfl ?_
  intro p e s m args below meth c s₁ Bd hml hv
  obtain ⟨rfl, hsz, hP, hK, hD0, hE⟩ := hv
  have hx := Bd.exec
  have hb := Bd.bytes
  have hr := Bd.returns
  have hts := atoms_spec (ws := w_Md_list) Bd.pre
  have hown : s.vm.findClass R_Md = some m.cls := findClass_of_methodNamed Bd.named
  have hlocks := Bd.notSynchronized
  have hz : ∀ w ∈ ZW, w.before _ s = true := fun w h => hts w (List.mem_cons_of_mem _ h)
  subst hsz
  have hD := hD0.self (sz := s.heap.size)
  generalize hAe : va_A [(aM, .inr (4, [.int th, .ref aMT, .int (nI mu), .ref aNw, .ref aNx, .int mw, .int mwa, .int (nI ma), .int (nI en), .long mv, .int mf, .int ml])), (aMT, .inl (kMT, 65536, .inl B)), (aNx, .inl (kNx, 52650, .inl nx))] s.heap.size = A at hD hE ⊢
  have hA : ∀ q : Nat, s.heap.size ≤ q → A q := fun q h => by rw [← hAe]; exact Or.inr h
  have hS : va_S A s.heap s.heap [] := va_S.rf
  have hl := lv_entry ([.ref aM, .long (zWv ks), .int (nI pl), .int (nI le), .int (nI mo), .int (nI wl), .int low, .int hig, .int gi]) (n := 12) (Nat.le_of_ble_eq_true rfl)
  rw [lg_entry_eq]
  generalize (lg_sl ([.ref aM, .long (zWv ks), .int (nI pl), .int (nI le), .int (nI mo), .int (nI wl), .int low, .int hig, .int gi]) ++ List.replicate (12 - (lg_sl ([.ref aM, .long (zWv ks), .int (nI pl), .int (nI le), .int (nI mo), .int (nI wl), .int low, .int hig, .int gi])).length) Slot.unset).toArray = ls at hl ⊢
  have hl : lv_has ls 12 [(0, .ref aM), (1, .long (zWv ks)), (3, .int (nI pl)), (4, .int (nI le)), (5, .int (nI mo)), (6, .int (nI wl)), (7, .int low), (8, .int hig), (9, .int gi)] := hl
  obtain ⟨H, hH⟩ : ∃ z, z = s.heap := ⟨_, rfl⟩
  have hP : va_P (dC, dI) vwCl [(aM, .inr (4, [.int th, .ref aMT, .int (nI mu), .ref aNw, .ref aNx, .int mw, .int mwa, .int (nI ma), .int (nI en), .long mv, .int mf, .int ml])), (aMT, .inl (kMT, 65536, .inl B)), (aNx, .inl (kNx, 52650, .inl nx))] H := by rw [hH]; exact hP
  have hS : va_S A s.heap H [] := by rw [hH]; exact hS
  refine zt_heap hH ?_
  refine lv_aload_n hx hb d_Md_list_0 rfl (lv_at hl 0 rfl) ?_
  refine lv_lload_n hx hb d_Md_list_1 rfl (lv_at hl 1 rfl) ?_
  have hPc := hP.sub (ws' := [(aM, .inr (4, [.int th, .ref aMT, .int (nI mu), .ref aNw, .ref aNx, .int mw, .int mwa, .int (nI ma), .int (nI en), .long mv, .int mf, .int ml])), (aMT, .inl (kMT, 65536, .inl B))]) [0, 1] rfl
  have hDc := hD.sub (ws' := [(aM, .inr (4, [.int th, .ref aMT, .int (nI mu), .ref aNw, .ref aNx, .int mw, .int mwa, .int (nI ma), .int (nI en), .long mv, .int mf, .int ml])), (aMT, .inl (kMT, 65536, .inl B))]) [0, 1] (by decide) rfl
  have hKc := hK.sub (tys' := [(kMT, .byte)]) [0] rfl
  have hFc := va_free (wc := [(aM, .inr (4, [.int th, .ref aMT, .int (nI mu), .ref aNw, .ref aNx, .int mw, .int mwa, .int (nI ma), .int (nI en), .long mv, .int mf, .int ml])), (aMT, .inl (kMT, 65536, .inl B))]) hD hS hA [0, 1] rfl
  refine va_calli (va_runV (As := [.long (zWv ks)]) (rest := []) ⟨hx, hb, hml, hown, hts⟩ (c_Md_key l G dC dI H.size aM th aMT mu aNw aNx mw mwa ma en mv mf ml kMT B ks (by omega) (by omega) (by omega) (by omega) (by omega)) (cwV 1 hts (gV tw_577 tw_579 ts_27 tw_5 tw_580 rfl) rfl rfl rfl (by decide +kernel) ⟨Nat.le_of_ble_eq_true rfl, Nat.le_of_ble_eq_true rfl⟩) (PW_preV hPc hKc hDc hE hS hFc (ci := 4) (q0 := 0) rfl rfl) rfl rfl hl.1 rfl (lv_room (Nat.le_of_ble_eq_true rfl)) d_Md_list_2 ⟨Nat.le_of_ble_eq_true rfl, Nat.le_of_ble_eq_true rfl⟩) hS (fun q _ h => hFc q h) hFc (fun r_1 uu t H1 locs ht hvm hw_5 hB hz1 hk1 hS => ?_)
  obtain ⟨ma_2, mw_3, mwa_4⟩ := uu
  obtain ⟨hP1, hD1, hsz1⟩ := hB
  rw [ht] at hP1 hsz1
  obtain ⟨hP, hD⟩ := va_join (wr := [(aNx, .inl (kNx, 52650, .inl nx))]) (w1 := [(aM, .inr (4, [.int th, .ref aMT, .int (nI mu), .ref aNw, .ref aNx, .int mw_3, .int mwa_4, .int (nI ma_2), .int (nI en), .long mv, .int mf, .int ml])), (aMT, .inl (kMT, 65536, .inl B))]) hP hD [0, 1] [2] rfl rfl (by decide) (by decide) hk1 hFc hP1 hD1
  generalize H1 = H at hP hS ⊢
  have hP : va_P (dC, dI) vwCl [(aNx, .inl (kNx, 52650, .inl nx)), (aM, .inr (4, [.int th, .ref aMT, .int (nI mu), .ref aNw, .ref aNx, .int mw_3, .int mwa_4, .int (nI ma_2), .int (nI en), .long mv, .int mf, .int ml])), (aMT, .inl (kMT, 65536, .inl B))] H := hP
  have hD : va_D A [(aNx, .inl (kNx, 52650, .inl nx)), (aM, .inr (4, [.int th, .ref aMT, .int (nI mu), .ref aNw, .ref aNx, .int mw_3, .int mwa_4, .int (nI ma_2), .int (nI en), .long mv, .int mf, .int ml])), (aMT, .inl (kMT, 65536, .inl B))] := hD
  rcases hw_5 with ⟨rfl, hw_5a, hw_5b, e1, e2⟩ | ⟨rfl, hw_5b, hw_5k, hw_5a, e2⟩
  ·
    have e1 := e1.symm; subst e1
    have e2 := e2.symm; subst e2
    refine lv_if_eq (tgt := 17) hx hb d_Md_list_5 (by decide) (fun c_6 => ?_) (fun c_6 => ?_)
    ·
      exact absurd c_6 (by decide)
    ·
      refine lv_aload_n hx hb d_Md_list_8 rfl (lv_at hl 0 rfl) ?_
      refine lv_bipush (v := 91) hx hb d_Md_list_9 (by decide) ?_
      have hPc := hP.sub (ws' := [(aM, .inr (4, [.int th, .ref aMT, .int (nI mu), .ref aNw, .ref aNx, .int mw, .int mwa, .int (nI ma_2), .int (nI en), .long mv, .int mf, .int ml])), (aMT, .inl (kMT, 65536, .inl B))]) [1, 2] rfl
      have hDc := hD.sub (ws' := [(aM, .inr (4, [.int th, .ref aMT, .int (nI mu), .ref aNw, .ref aNx, .int mw, .int mwa, .int (nI ma_2), .int (nI en), .long mv, .int mf, .int ml])), (aMT, .inl (kMT, 65536, .inl B))]) [1, 2] (by decide) rfl
      have hKc := hK.sub (tys' := [(kMT, .byte)]) [0] rfl
      have hFc := va_free (wc := [(aM, .inr (4, [.int th, .ref aMT, .int (nI mu), .ref aNw, .ref aNx, .int mw, .int mwa, .int (nI ma_2), .int (nI en), .long mv, .int mf, .int ml])), (aMT, .inl (kMT, 65536, .inl B))]) hD hS hA [1, 2] rfl
      refine va_calli (va_runV (As := [.int 91]) (rest := []) ⟨hx, hb, hml, hown, hts⟩ (c_Md_sign l G dC dI H.size aM th aMT mu aNw aNx mw mwa ma_2 en mv mf ml kMT B 91 (by omega) (by omega)) (cwV 1 hts (gV tw_537 tw_539 ts_20 tw_5 tw_540 rfl) rfl rfl rfl (by decide +kernel) ⟨Nat.le_of_ble_eq_true rfl, Nat.le_of_ble_eq_true rfl⟩) (PW_preV hPc hKc hDc hE hS hFc (ci := 4) (q0 := 0) rfl rfl) rfl rfl hl.1 rfl (lv_room (Nat.le_of_ble_eq_true rfl)) d_Md_list_11 ⟨Nat.le_of_ble_eq_true rfl, Nat.le_of_ble_eq_true rfl⟩) hS (fun q _ h => hFc q h) hFc (fun r_7 uu t H1 locs ht hvm hw_11 hB hz1 hk1 hS => ?_)
      obtain ⟨ma_8, mw_9, mwa_10⟩ := uu
      obtain ⟨hP1, hD1, hsz1⟩ := hB
      rw [ht] at hP1 hsz1
      obtain ⟨hP, hD⟩ := va_join (wr := [(aNx, .inl (kNx, 52650, .inl nx))]) (w1 := [(aM, .inr (4, [.int th, .ref aMT, .int (nI mu), .ref aNw, .ref aNx, .int mw_9, .int mwa_10, .int (nI ma_8), .int (nI en), .long mv, .int mf, .int ml])), (aMT, .inl (kMT, 65536, .inl B))]) hP hD [1, 2] [0] rfl rfl (by decide) (by decide) hk1 hFc hP1 hD1
      generalize H1 = H at hP hS ⊢
      have hP : va_P (dC, dI) vwCl [(aNx, .inl (kNx, 52650, .inl nx)), (aM, .inr (4, [.int th, .ref aMT, .int (nI mu), .ref aNw, .ref aNx, .int mw_9, .int mwa_10, .int (nI ma_8), .int (nI en), .long mv, .int mf, .int ml])), (aMT, .inl (kMT, 65536, .inl B))] H := hP
      have hD : va_D A [(aNx, .inl (kNx, 52650, .inl nx)), (aM, .inr (4, [.int th, .ref aMT, .int (nI mu), .ref aNw, .ref aNx, .int mw_9, .int mwa_10, .int (nI ma_8), .int (nI en), .long mv, .int mf, .int ml])), (aMT, .inl (kMT, 65536, .inl B))] := hD
      rcases hw_11 with ⟨rfl, hw_11a, hw_11b, e1, e2⟩ | ⟨rfl, hw_11b, hw_11k, hw_11a, e2⟩
      ·
        have e1 := e1.symm; subst e1
        have e2 := e2.symm; subst e2
        refine lv_if_ne (tgt := 19) hx hb d_Md_list_14 (by decide) (fun c_12 => ?_) (fun c_12 => ?_)
        ·
          refine lv_iconst (v := 0) hx hb d_Md_list_19 (by decide) ?_
          refine lv_istore (lv' := [(10, .int 0), (0, .ref aM), (1, .long (zWv ks)), (3, .int (nI pl)), (4, .int (nI le)), (5, .int (nI mo)), (6, .int (nI wl)), (7, .int low), (8, .int hig), (9, .int gi)]) hx hb d_Md_list_20 hl (by decide) rfl (fun ls hl => ?_)
          refine lv_aload_n hx hb d_Md_list_22 rfl (lv_at hl 1 rfl) ?_
          refine lv_bipush (v := 93) hx hb d_Md_list_23 (by decide) ?_
          have hPc := hP.sub (ws' := [(aM, .inr (4, [.int th, .ref aMT, .int (nI mu), .ref aNw, .ref aNx, .int mw, .int mwa, .int (nI ma_8), .int (nI en), .long mv, .int mf, .int ml])), (aMT, .inl (kMT, 65536, .inl B))]) [1, 2] rfl
          have hDc := hD.sub (ws' := [(aM, .inr (4, [.int th, .ref aMT, .int (nI mu), .ref aNw, .ref aNx, .int mw, .int mwa, .int (nI ma_8), .int (nI en), .long mv, .int mf, .int ml])), (aMT, .inl (kMT, 65536, .inl B))]) [1, 2] (by decide) rfl
          have hKc := hK.sub (tys' := [(kMT, .byte)]) [0] rfl
          have hFc := va_free (wc := [(aM, .inr (4, [.int th, .ref aMT, .int (nI mu), .ref aNw, .ref aNx, .int mw, .int mwa, .int (nI ma_8), .int (nI en), .long mv, .int mf, .int ml])), (aMT, .inl (kMT, 65536, .inl B))]) hD hS hA [1, 2] rfl
          refine va_calli (va_runV (As := [.int 93]) (rest := []) ⟨hx, hb, hml, hown, hts⟩ (c_Md_comes l G dC dI H.size aM th aMT mu aNw aNx mw mwa ma_8 en mv mf ml kMT B 93 (by omega) (by omega)) (cwV 1 hts (gV tw_541 tw_543 ts_21 tw_5 tw_544 rfl) rfl rfl rfl (by decide +kernel) ⟨Nat.le_of_ble_eq_true rfl, Nat.le_of_ble_eq_true rfl⟩) (PW_preV hPc hKc hDc hE hS hFc (ci := 4) (q0 := 0) rfl rfl) rfl rfl hl.1 rfl (lv_room (Nat.le_of_ble_eq_true rfl)) d_Md_list_25 ⟨Nat.le_of_ble_eq_true rfl, Nat.le_of_ble_eq_true rfl⟩) hS (fun q _ h => hFc q h) hFc (fun r_13 uu t H1 locs ht hvm hw_15 hB hz1 hk1 hS => ?_)
          obtain ⟨ma_14, rfl⟩ : ∃ z, z = uu := ⟨_, rfl⟩
          obtain ⟨hP1, hD1, hsz1⟩ := hB
          rw [ht] at hP1 hsz1
          obtain ⟨hP, hD⟩ := va_join (wr := [(aNx, .inl (kNx, 52650, .inl nx))]) (w1 := [(aM, .inr (4, [.int th, .ref aMT, .int (nI mu), .ref aNw, .ref aNx, .int mw, .int mwa, .int (nI ma_14), .int (nI en), .long mv, .int mf, .int ml])), (aMT, .inl (kMT, 65536, .inl B))]) hP hD [1, 2] [0] rfl rfl (by decide) (by decide) hk1 hFc hP1 hD1
          generalize H1 = H at hP hS ⊢
          have hP : va_P (dC, dI) vwCl [(aNx, .inl (kNx, 52650, .inl nx)), (aM, .inr (4, [.int th, .ref aMT, .int (nI mu), .ref aNw, .ref aNx, .int mw, .int mwa, .int (nI ma_14), .int (nI en), .long mv, .int mf, .int ml])), (aMT, .inl (kMT, 65536, .inl B))] H := hP
          have hD : va_D A [(aNx, .inl (kNx, 52650, .inl nx)), (aM, .inr (4, [.int th, .ref aMT, .int (nI mu), .ref aNw, .ref aNx, .int mw, .int mwa, .int (nI ma_14), .int (nI en), .long mv, .int mf, .int ml])), (aMT, .inl (kMT, 65536, .inl B))] := hD
          have hw_15i := zK_le (B := B) (en := en) (i := ma_8) (by omega)
          obtain ⟨e1, e2⟩ := hw_15
          have e1 := e1.symm; subst e1
          by_cases hs_16 : zK B en ma_8 < en ∧ B (zK B en ma_8) = 93
          ·
            rw [if_pos hs_16] at e2; subst e2
            refine lv_if_ne (tgt := 35) hx hb d_Md_list_28 (by decide) (fun c_17 => ?_) (fun c_17 => ?_)
            ·
              refine lv_iconst (v := 0) hx hb d_Md_list_35 (by decide) ?_
              refine lv_istore (lv' := [(11, .int 0), (10, .int 0), (0, .ref aM), (1, .long (zWv ks)), (3, .int (nI pl)), (4, .int (nI le)), (5, .int (nI mo)), (6, .int (nI wl)), (7, .int low), (8, .int hig), (9, .int gi)]) hx hb d_Md_list_36 hl (by decide) rfl (fun ls hl => ?_)
              refine lv_iload hx hb d_Md_list_38 (lv_at hl 0 rfl) ?_
              refine lv_if_eq (tgt := 181) hx hb d_Md_list_40 (by decide) (fun c_18 => ?_) (fun c_18 => ?_)
              ·
                have tl_19 : (zB (zKey B en (zSb ks) (zK B en ma)) fun h1 => zList B en (decide (gi = 1)) (decide (wl = 3)) le mo pl low hig h1 nx) = zTail B en (decide (wl = 3)) le (0, zK B en ma_8, nx) := by simp only [zB_ok, zList_eq, hw_5a, hw_11a]; rw [if_pos hs_16, zB_ok]
                refine lv_aload_n hx hb d_Md_list_181 rfl (lv_at hl 2 rfl) ?_
                refine lv_bipush (v := 93) hx hb d_Md_list_182 (by decide) ?_
                have hPc := hP.sub (ws' := [(aM, .inr (4, [.int th, .ref aMT, .int (nI mu), .ref aNw, .ref aNx, .int mw, .int mwa, .int (nI (zK B en ma_8)), .int (nI en), .long mv, .int mf, .int ml])), (aMT, .inl (kMT, 65536, .inl B))]) [1, 2] rfl
                have hDc := hD.sub (ws' := [(aM, .inr (4, [.int th, .ref aMT, .int (nI mu), .ref aNw, .ref aNx, .int mw, .int mwa, .int (nI (zK B en ma_8)), .int (nI en), .long mv, .int mf, .int ml])), (aMT, .inl (kMT, 65536, .inl B))]) [1, 2] (by decide) rfl
                have hKc := hK.sub (tys' := [(kMT, .byte)]) [0] rfl
                have hFc := va_free (wc := [(aM, .inr (4, [.int th, .ref aMT, .int (nI mu), .ref aNw, .ref aNx, .int mw, .int mwa, .int (nI (zK B en ma_8)), .int (nI en), .long mv, .int mf, .int ml])), (aMT, .inl (kMT, 65536, .inl B))]) hD hS hA [1, 2] rfl
                refine va_calli (va_runV (As := [.int 93]) (rest := []) ⟨hx, hb, hml, hown, hts⟩ (c_Md_comes l G dC dI H.size aM th aMT mu aNw aNx mw mwa (zK B en ma_8) en mv mf ml kMT B 93 (by omega) (by omega)) (cwV 1 hts (gV tw_541 tw_543 ts_21 tw_5 tw_544 rfl) rfl rfl rfl (by decide +kernel) ⟨Nat.le_of_ble_eq_true rfl, Nat.le_of_ble_eq_true rfl⟩) (PW_preV hPc hKc hDc hE hS hFc (ci := 4) (q0 := 0) rfl rfl) rfl rfl hl.1 rfl (lv_room (Nat.le_of_ble_eq_true rfl)) d_Md_list_184 ⟨Nat.le_of_ble_eq_true rfl, Nat.le_of_ble_eq_true rfl⟩) hS (fun q _ h => hFc q h) hFc (fun r_20 uu t H1 locs ht hvm hw_22 hB hz1 hk1 hS => ?_)
                obtain ⟨ma_21, rfl⟩ : ∃ z, z = uu := ⟨_, rfl⟩
                obtain ⟨hP1, hD1, hsz1⟩ := hB
                rw [ht] at hP1 hsz1
                obtain ⟨hP, hD⟩ := va_join (wr := [(aNx, .inl (kNx, 52650, .inl nx))]) (w1 := [(aM, .inr (4, [.int th, .ref aMT, .int (nI mu), .ref aNw, .ref aNx, .int mw, .int mwa, .int (nI ma_21), .int (nI en), .long mv, .int mf, .int ml])), (aMT, .inl (kMT, 65536, .inl B))]) hP hD [1, 2] [0] rfl rfl (by decide) (by decide) hk1 hFc hP1 hD1
                generalize H1 = H at hP hS ⊢
                have hP : va_P (dC, dI) vwCl [(aNx, .inl (kNx, 52650, .inl nx)), (aM, .inr (4, [.int th, .ref aMT, .int (nI mu), .ref aNw, .ref aNx, .int mw, .int mwa, .int (nI ma_21), .int (nI en), .long mv, .int mf, .int ml])), (aMT, .inl (kMT, 65536, .inl B))] H := hP
                have hD : va_D A [(aNx, .inl (kNx, 52650, .inl nx)), (aM, .inr (4, [.int th, .ref aMT, .int (nI mu), .ref aNw, .ref aNx, .int mw, .int mwa, .int (nI ma_21), .int (nI en), .long mv, .int mf, .int ml])), (aMT, .inl (kMT, 65536, .inl B))] := hD
                rw [zK_idem] at hw_22
                obtain ⟨e1, e2⟩ := hw_22
                have e1 := e1.symm; subst e1
                rw [if_pos hs_16] at e2; subst e2
                refine lv_if_ne (tgt := 200) hx hb d_Md_list_187 (by decide) (fun c_23 => ?_) (fun c_23 => ?_)
                ·
                  refine lv_iload hx hb d_Md_list_200 (lv_at hl 1 rfl) ?_
                  refine lv_iload hx hb d_Md_list_202 (lv_at hl 5 rfl) ?_
                  refine lv_icmp_lt (tgt := 215) hx hb d_Md_list_204 (by decide) (fun c_24 => ?_) (fun c_24 => ?_)
                  ·
                    have c_24 : 0 < le := (@nI_ltI 0 le (by omega) (by omega)).mp c_24
                    refine lv_aload_n hx hb d_Md_list_215 rfl (lv_at hl 2 rfl) ?_
                    refine lv_iconst (v := 3) hx hb d_Md_list_216 (by decide) ?_
                    refine lv_aload_n hx hb d_Md_list_217 rfl (lv_at hl 2 rfl) ?_
                    refine va_get (D := (dC, dI)) (ci := 4) (v := .int (nI (zK B en ma_8))) (C := R_Md) (T := F_Md) (N := 12) hx hb hz i_Md hown hK hP 1 rfl rfl 7 (by decide) (hz _ tw_483) (fun _ h9 => h9) rfl d_Md_list_218 ?_
                    have hPc := hP.sub (ws' := [(aM, .inr (4, [.int th, .ref aMT, .int (nI mu), .ref aNw, .ref aNx, .int mw, .int mwa, .int (nI (zK B en ma_8)), .int (nI en), .long mv, .int mf, .int ml]))]) [1] rfl
                    have hDc := hD.sub (ws' := [(aM, .inr (4, [.int th, .ref aMT, .int (nI mu), .ref aNw, .ref aNx, .int mw, .int mwa, .int (nI (zK B en ma_8)), .int (nI en), .long mv, .int mf, .int ml]))]) [1] (by decide) rfl
                    have hKc := hK.sub (tys' := []) [] rfl
                    have hFc := va_free (wc := [(aM, .inr (4, [.int th, .ref aMT, .int (nI mu), .ref aNw, .ref aNx, .int mw, .int mwa, .int (nI (zK B en ma_8)), .int (nI en), .long mv, .int mf, .int ml]))]) hD hS hA [1] rfl
                    refine va_calli (va_runV (As := [.int 3, .int (nI (zK B en ma_8))]) (rest := []) ⟨hx, hb, hml, hown, hts⟩ (c_Md_fails l G dC dI H.size aM th aMT mu aNw aNx mw mwa (zK B en ma_8) en mv mf ml 3 (nI (zK B en ma_8))) (cwV 2 hts (gV tw_549 tw_551 ts_23 tw_5 tw_552 rfl) rfl rfl rfl (by decide +kernel) ⟨Nat.le_of_ble_eq_true rfl, Nat.le_of_ble_eq_true rfl⟩) (PW_preV hPc hKc hDc hE hS hFc (ci := 4) (q0 := 0) rfl rfl) rfl rfl hl.1 rfl (lv_room (Nat.le_of_ble_eq_true rfl)) d_Md_list_221 ⟨Nat.le_of_ble_eq_true rfl, Nat.le_of_ble_eq_true rfl⟩) hS (fun q _ h => hFc q h) hFc (fun r_25 uu t H1 locs ht hvm hw_28 hB hz1 hk1 hS => ?_)
                    obtain ⟨mw_26, mwa_27⟩ := uu
                    obtain ⟨hP1, hD1, hsz1⟩ := hB
                    rw [ht] at hP1 hsz1
                    obtain ⟨hP, hD⟩ := va_join (wr := [(aNx, .inl (kNx, 52650, .inl nx)), (aMT, .inl (kMT, 65536, .inl B))]) (w1 := [(aM, .inr (4, [.int th, .ref aMT, .int (nI mu), .ref aNw, .ref aNx, .int mw_26, .int mwa_27, .int (nI (zK B en ma_8)), .int (nI en), .long mv, .int mf, .int ml]))]) hP hD [1] [0, 2] rfl rfl (by decide) (by decide) hk1 hFc hP1 hD1
                    generalize H1 = H at hP hS ⊢
                    have hP : va_P (dC, dI) vwCl [(aNx, .inl (kNx, 52650, .inl nx)), (aMT, .inl (kMT, 65536, .inl B)), (aM, .inr (4, [.int th, .ref aMT, .int (nI mu), .ref aNw, .ref aNx, .int mw_26, .int mwa_27, .int (nI (zK B en ma_8)), .int (nI en), .long mv, .int mf, .int ml]))] H := hP
                    have hD : va_D A [(aNx, .inl (kNx, 52650, .inl nx)), (aMT, .inl (kMT, 65536, .inl B)), (aM, .inr (4, [.int th, .ref aMT, .int (nI mu), .ref aNw, .ref aNx, .int mw_26, .int mwa_27, .int (nI (zK B en ma_8)), .int (nI en), .long mv, .int mf, .int ml]))] := hD
                    obtain ⟨e0, e1, e2⟩ := hw_28
                    subst e0
                    have e1 := e1.symm; subst e1
                    have e2 := e2.symm; subst e2
                    refine zt_size (fun hzs => ?_)
                    have hP9 := hP.sub (ws' := [(aM, .inr (4, [.int th, .ref aMT, .int (nI mu), .ref aNw, .ref aNx, .int 3, .int (nI (zK B en ma_8)), .int (nI (zK B en ma_8)), .int (nI en), .long mv, .int mf, .int ml])), (aMT, .inl (kMT, 65536, .inl B)), (aNx, .inl (kNx, 52650, .inl nx))]) [2, 1, 0] rfl
                    have hD9 := hD.sub (ws' := [(aM, .inr (4, [.int th, .ref aMT, .int (nI mu), .ref aNw, .ref aNx, .int 3, .int (nI (zK B en ma_8)), .int (nI (zK B en ma_8)), .int (nI en), .long mv, .int mf, .int ml])), (aMT, .inl (kMT, 65536, .inl B)), (aNx, .inl (kNx, 52650, .inl nx))]) [2, 1, 0] (by decide) rfl
                    exact W.zret (v := 0) hx hb hr rfl (fun t ht hW => ⟨⟨0, (zK B en ma_8, 3, nI (zK B en ma_8), mv, mf, nx, ml), rfl, Or.inr ⟨rfl, by omega, _, by rw [tl_19]; unfold zTail; rw [if_pos ⟨Or.inl c_24, hs_16⟩], rfl⟩, by rw [ht]; exact hP9, hD9, by rw [ht]; exact hzs⟩, hS.F ht⟩) hS.2.2 d_Md_list_224
                  ·
                    have c_24 : ¬ (0 < le) := fun z => c_24 ((@nI_ltI 0 le (by omega) (by omega)).mpr z)
                    rcases hwl with rfl | rfl
                    ·
                      refine lv_iload hx hb d_Md_list_207 (lv_at hl 1 rfl) ?_
                      refine lv_iload hx hb d_Md_list_209 (lv_at hl 7 rfl) ?_
                      refine lv_irem hx hb d_Md_list_211 (by decide) ?_
                      refine zt_top (pk_rem (a := 0) (d := 1) (by omega) (by decide) (by decide)) ?_
                      refine lv_if_eq (tgt := 225) hx hb d_Md_list_212 (by decide) (fun c_29 => ?_) (fun c_29 => ?_)
                      ·
                        have c_29 : (0 % 1) = 0 := (@nI_eq (0 % 1) 0 (by omega) (by omega)).mp c_29
                        refine lv_aload_n hx hb d_Md_list_225 rfl (lv_at hl 2 rfl) ?_
                        refine lv_dup hx hb d_Md_list_226 rfl ?_
                        refine va_get (D := (dC, dI)) (ci := 4) (v := .int (nI (zK B en ma_8))) (C := R_Md) (T := F_Md) (N := 12) hx hb hz i_Md hown hK hP 1 rfl rfl 7 (by decide) (hz _ tw_483) (fun _ h9 => h9) rfl d_Md_list_227 ?_
                        refine lv_iconst (v := 1) hx hb d_Md_list_230 (by decide) ?_
                        refine lv_iadd hx hb d_Md_list_231 ?_
                        refine zt_top (nI_add (zK B en ma_8) 1) ?_
                        refine va_put (D := (dC, dI)) (ci := 4) (v := .int (nI ((zK B en ma_8) + 1))) (ty := .int) (C := R_Md) (T := F_Md) (N := 12) hx hb hz i_Md t_Md t_Md_ok n_Md hown hK hP hD hS 1 rfl rfl 7 (by decide) (hz _ tw_483) (fun _ h9 => h9) rfl (by decide +kernel) rfl rfl (Nat.le_of_ble_eq_true rfl) d_Md_list_232 (fun H locs hP hD hS => ?_)
                        have hP : va_P (dC, dI) vwCl [(aNx, .inl (kNx, 52650, .inl nx)), (aM, .inr (4, [.int th, .ref aMT, .int (nI mu), .ref aNw, .ref aNx, .int mw, .int mwa, .int (nI ((zK B en ma_8) + 1)), .int (nI en), .long mv, .int mf, .int ml])), (aMT, .inl (kMT, 65536, .inl B))] H := hP
                        have hD : va_D A [(aNx, .inl (kNx, 52650, .inl nx)), (aM, .inr (4, [.int th, .ref aMT, .int (nI mu), .ref aNw, .ref aNx, .int mw, .int mwa, .int (nI ((zK B en ma_8) + 1)), .int (nI en), .long mv, .int mf, .int ml])), (aMT, .inl (kMT, 65536, .inl B))] := hD
                        refine lv_aload_n hx hb d_Md_list_235 rfl (lv_at hl 2 rfl) ?_
                        refine lv_iload hx hb d_Md_list_236 (lv_at hl 1 rfl) ?_
                        refine va_put (D := (dC, dI)) (ci := 4) (v := .int 0) (ty := .int) (C := R_Md) (T := F_Md) (N := 12) hx hb hz i_Md t_Md t_Md_ok n_Md hown hK hP hD hS 1 rfl rfl 11 (by decide) (hz _ tw_487) (fun _ h9 => h9) rfl (by decide +kernel) rfl rfl (Nat.le_of_ble_eq_true rfl) d_Md_list_238 (fun H locs hP hD hS => ?_)
                        have hP : va_P (dC, dI) vwCl [(aNx, .inl (kNx, 52650, .inl nx)), (aM, .inr (4, [.int th, .ref aMT, .int (nI mu), .ref aNw, .ref aNx, .int mw, .int mwa, .int (nI ((zK B en ma_8) + 1)), .int (nI en), .long mv, .int mf, .int 0])), (aMT, .inl (kMT, 65536, .inl B))] H := hP
                        have hD : va_D A [(aNx, .inl (kNx, 52650, .inl nx)), (aM, .inr (4, [.int th, .ref aMT, .int (nI mu), .ref aNw, .ref aNx, .int mw, .int mwa, .int (nI ((zK B en ma_8) + 1)), .int (nI en), .long mv, .int mf, .int 0])), (aMT, .inl (kMT, 65536, .inl B))] := hD
                        refine lv_iconst (v := 1) hx hb d_Md_list_241 (by decide) ?_
                        refine zt_size (fun hzs => ?_)
                        have hP9 := hP.sub (ws' := [(aM, .inr (4, [.int th, .ref aMT, .int (nI mu), .ref aNw, .ref aNx, .int mw, .int mwa, .int (nI ((zK B en ma_8) + 1)), .int (nI en), .long mv, .int mf, .int 0])), (aMT, .inl (kMT, 65536, .inl B)), (aNx, .inl (kNx, 52650, .inl nx))]) [1, 2, 0] rfl
                        have hD9 := hD.sub (ws' := [(aM, .inr (4, [.int th, .ref aMT, .int (nI mu), .ref aNw, .ref aNx, .int mw, .int mwa, .int (nI ((zK B en ma_8) + 1)), .int (nI en), .long mv, .int mf, .int 0])), (aMT, .inl (kMT, 65536, .inl B)), (aNx, .inl (kNx, 52650, .inl nx))]) [1, 2, 0] (by decide) rfl
                        exact W.zret (v := 1) hx hb hr rfl (fun t ht hW => ⟨⟨1, ((zK B en ma_8) + 1, mw, mwa, mv, mf, nx, 0), rfl, Or.inl ⟨rfl, by omega, rfl, rfl, _, by rw [tl_19]; unfold zTail; rw [if_neg (fun z => absurd z.1 (fun z => z.elim c_24 (fun z => absurd z.1 (by decide))))]; simp only [zMust]; rw [if_pos hs_16, zB_ok], rfl⟩, by rw [ht]; exact hP9, hD9, by rw [ht]; exact hzs⟩, hS.F ht⟩) hS.2.2 d_Md_list_242
                      ·
                        have c_29 : ¬ ((0 % 1) = 0) := fun z => c_29 ((@nI_eq (0 % 1) 0 (by omega) (by omega)).mpr z)
                        refine lv_aload_n hx hb d_Md_list_215 rfl (lv_at hl 2 rfl) ?_
                        refine lv_iconst (v := 3) hx hb d_Md_list_216 (by decide) ?_
                        refine lv_aload_n hx hb d_Md_list_217 rfl (lv_at hl 2 rfl) ?_
                        refine va_get (D := (dC, dI)) (ci := 4) (v := .int (nI (zK B en ma_8))) (C := R_Md) (T := F_Md) (N := 12) hx hb hz i_Md hown hK hP 1 rfl rfl 7 (by decide) (hz _ tw_483) (fun _ h9 => h9) rfl d_Md_list_218 ?_
                        have hPc := hP.sub (ws' := [(aM, .inr (4, [.int th, .ref aMT, .int (nI mu), .ref aNw, .ref aNx, .int mw, .int mwa, .int (nI (zK B en ma_8)), .int (nI en), .long mv, .int mf, .int ml]))]) [1] rfl
                        have hDc := hD.sub (ws' := [(aM, .inr (4, [.int th, .ref aMT, .int (nI mu), .ref aNw, .ref aNx, .int mw, .int mwa, .int (nI (zK B en ma_8)), .int (nI en), .long mv, .int mf, .int ml]))]) [1] (by decide) rfl
                        have hKc := hK.sub (tys' := []) [] rfl
                        have hFc := va_free (wc := [(aM, .inr (4, [.int th, .ref aMT, .int (nI mu), .ref aNw, .ref aNx, .int mw, .int mwa, .int (nI (zK B en ma_8)), .int (nI en), .long mv, .int mf, .int ml]))]) hD hS hA [1] rfl
                        refine va_calli (va_runV (As := [.int 3, .int (nI (zK B en ma_8))]) (rest := []) ⟨hx, hb, hml, hown, hts⟩ (c_Md_fails l G dC dI H.size aM th aMT mu aNw aNx mw mwa (zK B en ma_8) en mv mf ml 3 (nI (zK B en ma_8))) (cwV 2 hts (gV tw_549 tw_551 ts_23 tw_5 tw_552 rfl) rfl rfl rfl (by decide +kernel) ⟨Nat.le_of_ble_eq_true rfl, Nat.le_of_ble_eq_true rfl⟩) (PW_preV hPc hKc hDc hE hS hFc (ci := 4) (q0 := 0) rfl rfl) rfl rfl hl.1 rfl (lv_room (Nat.le_of_ble_eq_true rfl)) d_Md_list_221 ⟨Nat.le_of_ble_eq_true rfl, Nat.le_of_ble_eq_true rfl⟩) hS (fun q _ h => hFc q h) hFc (fun r_30 uu t H1 locs ht hvm hw_33 hB hz1 hk1 hS => ?_)
                        obtain ⟨mw_31, mwa_32⟩ := uu
                        obtain ⟨hP1, hD1, hsz1⟩ := hB
                        rw [ht] at hP1 hsz1
                        obtain ⟨hP, hD⟩ := va_join (wr := [(aNx, .inl (kNx, 52650, .inl nx)), (aMT, .inl (kMT, 65536, .inl B))]) (w1 := [(aM, .inr (4, [.int th, .ref aMT, .int (nI mu), .ref aNw, .ref aNx, .int mw_31, .int mwa_32, .int (nI (zK B en ma_8)), .int (nI en), .long mv, .int mf, .int ml]))]) hP hD [1] [0, 2] rfl rfl (by decide) (by decide) hk1 hFc hP1 hD1
                        generalize H1 = H at hP hS ⊢
                        have hP : va_P (dC, dI) vwCl [(aNx, .inl (kNx, 52650, .inl nx)), (aMT, .inl (kMT, 65536, .inl B)), (aM, .inr (4, [.int th, .ref aMT, .int (nI mu), .ref aNw, .ref aNx, .int mw_31, .int mwa_32, .int (nI (zK B en ma_8)), .int (nI en), .long mv, .int mf, .int ml]))] H := hP
                        have hD : va_D A [(aNx, .inl (kNx, 52650, .inl nx)), (aMT, .inl (kMT, 65536, .inl B)), (aM, .inr (4, [.int th, .ref aMT, .int (nI mu), .ref aNw, .ref aNx, .int mw_31, .int mwa_32, .int (nI (zK B en ma_8)), .int (nI en), .long mv, .int mf, .int ml]))] := hD
                        obtain ⟨e0, e1, e2⟩ := hw_33
                        subst e0
                        have e1 := e1.symm; subst e1
                        have e2 := e2.symm; subst e2
                        refine zt_size (fun hzs => ?_)
                        have hP9 := hP.sub (ws' := [(aM, .inr (4, [.int th, .ref aMT, .int (nI mu), .ref aNw, .ref aNx, .int 3, .int (nI (zK B en ma_8)), .int (nI (zK B en ma_8)), .int (nI en), .long mv, .int mf, .int ml])), (aMT, .inl (kMT, 65536, .inl B)), (aNx, .inl (kNx, 52650, .inl nx))]) [2, 1, 0] rfl
                        have hD9 := hD.sub (ws' := [(aM, .inr (4, [.int th, .ref aMT, .int (nI mu), .ref aNw, .ref aNx, .int 3, .int (nI (zK B en ma_8)), .int (nI (zK B en ma_8)), .int (nI en), .long mv, .int mf, .int ml])), (aMT, .inl (kMT, 65536, .inl B)), (aNx, .inl (kNx, 52650, .inl nx))]) [2, 1, 0] (by decide) rfl
                        exact W.zret (v := 0) hx hb hr rfl (fun t ht hW => ⟨⟨0, (zK B en ma_8, 3, nI (zK B en ma_8), mv, mf, nx, ml), rfl, Or.inr ⟨rfl, by omega, _, by rw [tl_19]; unfold zTail; rw [if_pos ⟨absurd (Nat.mod_one _) c_29, hs_16⟩], rfl⟩, by rw [ht]; exact hP9, hD9, by rw [ht]; exact hzs⟩, hS.F ht⟩) hS.2.2 d_Md_list_224
                    ·
                      refine lv_iload hx hb d_Md_list_207 (lv_at hl 1 rfl) ?_
                      refine lv_iload hx hb d_Md_list_209 (lv_at hl 7 rfl) ?_
                      refine lv_irem hx hb d_Md_list_211 (by decide) ?_
                      refine zt_top (pk_rem (a := 0) (d := 3) (by omega) (by decide) (by decide)) ?_
                      refine lv_if_eq (tgt := 225) hx hb d_Md_list_212 (by decide) (fun c_34 => ?_) (fun c_34 => ?_)
                      ·
                        have c_34 : (0 % 3) = 0 := (@nI_eq (0 % 3) 0 (by omega) (by omega)).mp c_34
                        refine lv_aload_n hx hb d_Md_list_225 rfl (lv_at hl 2 rfl) ?_
                        refine lv_dup hx hb d_Md_list_226 rfl ?_
                        refine va_get (D := (dC, dI)) (ci := 4) (v := .int (nI (zK B en ma_8))) (C := R_Md) (T := F_Md) (N := 12) hx hb hz i_Md hown hK hP 1 rfl rfl 7 (by decide) (hz _ tw_483) (fun _ h9 => h9) rfl d_Md_list_227 ?_
                        refine lv_iconst (v := 1) hx hb d_Md_list_230 (by decide) ?_
                        refine lv_iadd hx hb d_Md_list_231 ?_
                        refine zt_top (nI_add (zK B en ma_8) 1) ?_
                        refine va_put (D := (dC, dI)) (ci := 4) (v := .int (nI ((zK B en ma_8) + 1))) (ty := .int) (C := R_Md) (T := F_Md) (N := 12) hx hb hz i_Md t_Md t_Md_ok n_Md hown hK hP hD hS 1 rfl rfl 7 (by decide) (hz _ tw_483) (fun _ h9 => h9) rfl (by decide +kernel) rfl rfl (Nat.le_of_ble_eq_true rfl) d_Md_list_232 (fun H locs hP hD hS => ?_)
                        have hP : va_P (dC, dI) vwCl [(aNx, .inl (kNx, 52650, .inl nx)), (aM, .inr (4, [.int th, .ref aMT, .int (nI mu), .ref aNw, .ref aNx, .int mw, .int mwa, .int (nI ((zK B en ma_8) + 1)), .int (nI en), .long mv, .int mf, .int ml])), (aMT, .inl (kMT, 65536, .inl B))] H := hP
                        have hD : va_D A [(aNx, .inl (kNx, 52650, .inl nx)), (aM, .inr (4, [.int th, .ref aMT, .int (nI mu), .ref aNw, .ref aNx, .int mw, .int mwa, .int (nI ((zK B en ma_8) + 1)), .int (nI en), .long mv, .int mf, .int ml])), (aMT, .inl (kMT, 65536, .inl B))] := hD
                        refine lv_aload_n hx hb d_Md_list_235 rfl (lv_at hl 2 rfl) ?_
                        refine lv_iload hx hb d_Md_list_236 (lv_at hl 1 rfl) ?_
                        refine va_put (D := (dC, dI)) (ci := 4) (v := .int 0) (ty := .int) (C := R_Md) (T := F_Md) (N := 12) hx hb hz i_Md t_Md t_Md_ok n_Md hown hK hP hD hS 1 rfl rfl 11 (by decide) (hz _ tw_487) (fun _ h9 => h9) rfl (by decide +kernel) rfl rfl (Nat.le_of_ble_eq_true rfl) d_Md_list_238 (fun H locs hP hD hS => ?_)
                        have hP : va_P (dC, dI) vwCl [(aNx, .inl (kNx, 52650, .inl nx)), (aM, .inr (4, [.int th, .ref aMT, .int (nI mu), .ref aNw, .ref aNx, .int mw, .int mwa, .int (nI ((zK B en ma_8) + 1)), .int (nI en), .long mv, .int mf, .int 0])), (aMT, .inl (kMT, 65536, .inl B))] H := hP
                        have hD : va_D A [(aNx, .inl (kNx, 52650, .inl nx)), (aM, .inr (4, [.int th, .ref aMT, .int (nI mu), .ref aNw, .ref aNx, .int mw, .int mwa, .int (nI ((zK B en ma_8) + 1)), .int (nI en), .long mv, .int mf, .int 0])), (aMT, .inl (kMT, 65536, .inl B))] := hD
                        refine lv_iconst (v := 1) hx hb d_Md_list_241 (by decide) ?_
                        refine zt_size (fun hzs => ?_)
                        have hP9 := hP.sub (ws' := [(aM, .inr (4, [.int th, .ref aMT, .int (nI mu), .ref aNw, .ref aNx, .int mw, .int mwa, .int (nI ((zK B en ma_8) + 1)), .int (nI en), .long mv, .int mf, .int 0])), (aMT, .inl (kMT, 65536, .inl B)), (aNx, .inl (kNx, 52650, .inl nx))]) [1, 2, 0] rfl
                        have hD9 := hD.sub (ws' := [(aM, .inr (4, [.int th, .ref aMT, .int (nI mu), .ref aNw, .ref aNx, .int mw, .int mwa, .int (nI ((zK B en ma_8) + 1)), .int (nI en), .long mv, .int mf, .int 0])), (aMT, .inl (kMT, 65536, .inl B)), (aNx, .inl (kNx, 52650, .inl nx))]) [1, 2, 0] (by decide) rfl
                        exact W.zret (v := 1) hx hb hr rfl (fun t ht hW => ⟨⟨1, ((zK B en ma_8) + 1, mw, mwa, mv, mf, nx, 0), rfl, Or.inl ⟨rfl, by omega, rfl, rfl, _, by rw [tl_19]; unfold zTail; rw [if_neg (fun z => absurd z.1 (fun z => z.elim c_24 (fun z => z.2 c_34)))]; simp only [zMust]; rw [if_pos hs_16, zB_ok], rfl⟩, by rw [ht]; exact hP9, hD9, by rw [ht]; exact hzs⟩, hS.F ht⟩) hS.2.2 d_Md_list_242
                      ·
                        have c_34 : ¬ ((0 % 3) = 0) := fun z => c_34 ((@nI_eq (0 % 3) 0 (by omega) (by omega)).mpr z)
                        refine lv_aload_n hx hb d_Md_list_215 rfl (lv_at hl 2 rfl) ?_
                        refine lv_iconst (v := 3) hx hb d_Md_list_216 (by decide) ?_
                        refine lv_aload_n hx hb d_Md_list_217 rfl (lv_at hl 2 rfl) ?_
                        refine va_get (D := (dC, dI)) (ci := 4) (v := .int (nI (zK B en ma_8))) (C := R_Md) (T := F_Md) (N := 12) hx hb hz i_Md hown hK hP 1 rfl rfl 7 (by decide) (hz _ tw_483) (fun _ h9 => h9) rfl d_Md_list_218 ?_
                        have hPc := hP.sub (ws' := [(aM, .inr (4, [.int th, .ref aMT, .int (nI mu), .ref aNw, .ref aNx, .int mw, .int mwa, .int (nI (zK B en ma_8)), .int (nI en), .long mv, .int mf, .int ml]))]) [1] rfl
                        have hDc := hD.sub (ws' := [(aM, .inr (4, [.int th, .ref aMT, .int (nI mu), .ref aNw, .ref aNx, .int mw, .int mwa, .int (nI (zK B en ma_8)), .int (nI en), .long mv, .int mf, .int ml]))]) [1] (by decide) rfl
                        have hKc := hK.sub (tys' := []) [] rfl
                        have hFc := va_free (wc := [(aM, .inr (4, [.int th, .ref aMT, .int (nI mu), .ref aNw, .ref aNx, .int mw, .int mwa, .int (nI (zK B en ma_8)), .int (nI en), .long mv, .int mf, .int ml]))]) hD hS hA [1] rfl
                        refine va_calli (va_runV (As := [.int 3, .int (nI (zK B en ma_8))]) (rest := []) ⟨hx, hb, hml, hown, hts⟩ (c_Md_fails l G dC dI H.size aM th aMT mu aNw aNx mw mwa (zK B en ma_8) en mv mf ml 3 (nI (zK B en ma_8))) (cwV 2 hts (gV tw_549 tw_551 ts_23 tw_5 tw_552 rfl) rfl rfl rfl (by decide +kernel) ⟨Nat.le_of_ble_eq_true rfl, Nat.le_of_ble_eq_true rfl⟩) (PW_preV hPc hKc hDc hE hS hFc (ci := 4) (q0 := 0) rfl rfl) rfl rfl hl.1 rfl (lv_room (Nat.le_of_ble_eq_true rfl)) d_Md_list_221 ⟨Nat.le_of_ble_eq_true rfl, Nat.le_of_ble_eq_true rfl⟩) hS (fun q _ h => hFc q h) hFc (fun r_35 uu t H1 locs ht hvm hw_38 hB hz1 hk1 hS => ?_)
                        obtain ⟨mw_36, mwa_37⟩ := uu
                        obtain ⟨hP1, hD1, hsz1⟩ := hB
                        rw [ht] at hP1 hsz1
                        obtain ⟨hP, hD⟩ := va_join (wr := [(aNx, .inl (kNx, 52650, .inl nx)), (aMT, .inl (kMT, 65536, .inl B))]) (w1 := [(aM, .inr (4, [.int th, .ref aMT, .int (nI mu), .ref aNw, .ref aNx, .int mw_36, .int mwa_37, .int (nI (zK B en ma_8)), .int (nI en), .long mv, .int mf, .int ml]))]) hP hD [1] [0, 2] rfl rfl (by decide) (by decide) hk1 hFc hP1 hD1
                        generalize H1 = H at hP hS ⊢
                        have hP : va_P (dC, dI) vwCl [(aNx, .inl (kNx, 52650, .inl nx)), (aMT, .inl (kMT, 65536, .inl B)), (aM, .inr (4, [.int th, .ref aMT, .int (nI mu), .ref aNw, .ref aNx, .int mw_36, .int mwa_37, .int (nI (zK B en ma_8)), .int (nI en), .long mv, .int mf, .int ml]))] H := hP
                        have hD : va_D A [(aNx, .inl (kNx, 52650, .inl nx)), (aMT, .inl (kMT, 65536, .inl B)), (aM, .inr (4, [.int th, .ref aMT, .int (nI mu), .ref aNw, .ref aNx, .int mw_36, .int mwa_37, .int (nI (zK B en ma_8)), .int (nI en), .long mv, .int mf, .int ml]))] := hD
                        obtain ⟨e0, e1, e2⟩ := hw_38
                        subst e0
                        have e1 := e1.symm; subst e1
                        have e2 := e2.symm; subst e2
                        refine zt_size (fun hzs => ?_)
                        have hP9 := hP.sub (ws' := [(aM, .inr (4, [.int th, .ref aMT, .int (nI mu), .ref aNw, .ref aNx, .int 3, .int (nI (zK B en ma_8)), .int (nI (zK B en ma_8)), .int (nI en), .long mv, .int mf, .int ml])), (aMT, .inl (kMT, 65536, .inl B)), (aNx, .inl (kNx, 52650, .inl nx))]) [2, 1, 0] rfl
                        have hD9 := hD.sub (ws' := [(aM, .inr (4, [.int th, .ref aMT, .int (nI mu), .ref aNw, .ref aNx, .int 3, .int (nI (zK B en ma_8)), .int (nI (zK B en ma_8)), .int (nI en), .long mv, .int mf, .int ml])), (aMT, .inl (kMT, 65536, .inl B)), (aNx, .inl (kNx, 52650, .inl nx))]) [2, 1, 0] (by decide) rfl
                        exact W.zret (v := 0) hx hb hr rfl (fun t ht hW => ⟨⟨0, (zK B en ma_8, 3, nI (zK B en ma_8), mv, mf, nx, ml), rfl, Or.inr ⟨rfl, by omega, _, by rw [tl_19]; unfold zTail; rw [if_pos ⟨Or.inr ⟨by decide, c_34⟩, hs_16⟩], rfl⟩, by rw [ht]; exact hP9, hD9, by rw [ht]; exact hzs⟩, hS.F ht⟩) hS.2.2 d_Md_list_224
                ·
                  exact absurd c_23 (by decide)
              ·
                exact absurd (by decide) c_18
            ·
              exact absurd c_17 (by decide)
          ·
            rw [if_neg hs_16] at e2; subst e2
            refine lv_if_ne (tgt := 35) hx hb d_Md_list_28 (by decide) (fun c_39 => ?_) (fun c_39 => ?_)
            ·
              exact absurd (by decide) c_39
            ·
              refine lv_iconst (v := 1) hx hb d_Md_list_31 (by decide) ?_
              refine lv_goto (tgt := 36) hx hb d_Md_list_32 (by decide) ?_
              refine lv_istore (lv' := [(11, .int 1), (10, .int 0), (0, .ref aM), (1, .long (zWv ks)), (3, .int (nI pl)), (4, .int (nI le)), (5, .int (nI mo)), (6, .int (nI wl)), (7, .int low), (8, .int hig), (9, .int gi)]) hx hb d_Md_list_36 hl (by decide) rfl (fun ls hl => ?_)
              refine lv_iload hx hb d_Md_list_38 (lv_at hl 0 rfl) ?_
              refine lv_if_eq (tgt := 181) hx hb d_Md_list_40 (by decide) (fun c_40 => ?_) (fun c_40 => ?_)
              ·
                exact absurd c_40 (by decide)
              ·
                exact lp_Md_list l G dC dI aM th aMT mu aNw aNx mw mwa ma en mv mf ml kMT B kNx nx ks pl le mo wl low hig gi hen hma hks1 hks hL hle hmo hpl hwl hgi hlo1 hlo2 hhi1 hhi2 ⟨hx, hb, hr, hml, hown, hts, hlocks⟩ hA hK hE (mo + 1) 0 (zK B en ma_8) mv mf low nx (by omega) (by omega) (by omega) (fun _ => rfl) (fun z => absurd rfl z) (by rw [zK_idem]; simp only [zB_ok, zList_eq, hw_5a, hw_11a]; rw [if_neg hs_16]; rfl) _ _ (hP.sub [1, 2, 0] rfl) (hD.sub [1, 2, 0] (by decide) rfl) hS ls (lv_sub hl [2, 3, 4, 5, 6, 7, 8, 9, 10, 1] rfl)
        ·
          exact absurd c_12 (by decide)
      ·
        have e2 := e2.symm; subst e2
        refine lv_if_ne (tgt := 19) hx hb d_Md_list_14 (by decide) (fun c_41 => ?_) (fun c_41 => ?_)
        ·
          exact absurd (by decide) c_41
        ·
          refine lv_iconst (v := 0) hx hb d_Md_list_17 (by decide) ?_
          refine zt_size (fun hzs => ?_)
          have hP9 := hP.sub (ws' := [(aM, .inr (4, [.int th, .ref aMT, .int (nI mu), .ref aNw, .ref aNx, .int mw_9, .int (nI hw_11k), .int (nI ma_8), .int (nI en), .long mv, .int mf, .int ml])), (aMT, .inl (kMT, 65536, .inl B)), (aNx, .inl (kNx, 52650, .inl nx))]) [1, 2, 0] rfl
          have hD9 := hD.sub (ws' := [(aM, .inr (4, [.int th, .ref aMT, .int (nI mu), .ref aNw, .ref aNx, .int mw_9, .int (nI hw_11k), .int (nI ma_8), .int (nI en), .long mv, .int mf, .int ml])), (aMT, .inl (kMT, 65536, .inl B)), (aNx, .inl (kNx, 52650, .inl nx))]) [1, 2, 0] (by decide) rfl
          exact W.zret (v := 0) hx hb hr rfl (fun t ht hW => ⟨⟨0, (ma_8, mw_9, nI hw_11k, mv, mf, nx, ml), rfl, Or.inr ⟨rfl, by omega, _, by simp only [zB_ok, zB_er, zList_eq, hw_5a, hw_11a], rfl⟩, by rw [ht]; exact hP9, hD9, by rw [ht]; exact hzs⟩, hS.F ht⟩) hS.2.2 d_Md_list_18
  ·
    have e2 := e2.symm; subst e2
    refine lv_if_eq (tgt := 17) hx hb d_Md_list_5 (by decide) (fun c_42 => ?_) (fun c_42 => ?_)
    ·
      refine lv_iconst (v := 0) hx hb d_Md_list_17 (by decide) ?_
      refine zt_size (fun hzs => ?_)
      have hP9 := hP.sub (ws' := [(aM, .inr (4, [.int th, .ref aMT, .int (nI mu), .ref aNw, .ref aNx, .int mw_3, .int (nI hw_5k), .int (nI ma_2), .int (nI en), .long mv, .int mf, .int ml])), (aMT, .inl (kMT, 65536, .inl B)), (aNx, .inl (kNx, 52650, .inl nx))]) [1, 2, 0] rfl
      have hD9 := hD.sub (ws' := [(aM, .inr (4, [.int th, .ref aMT, .int (nI mu), .ref aNw, .ref aNx, .int mw_3, .int (nI hw_5k), .int (nI ma_2), .int (nI en), .long mv, .int mf, .int ml])), (aMT, .inl (kMT, 65536, .inl B)), (aNx, .inl (kNx, 52650, .inl nx))]) [1, 2, 0] (by decide) rfl
      exact W.zret (v := 0) hx hb hr rfl (fun t ht hW => ⟨⟨0, (ma_2, mw_3, nI hw_5k, mv, mf, nx, ml), rfl, Or.inr ⟨rfl, by omega, _, by simp only [zB_ok, zB_er, zList_eq, hw_5a], rfl⟩, by rw [ht]; exact hP9, hD9, by rw [ht]; exact hzs⟩, hS.F ht⟩) hS.2.2 d_Md_list_18
    ·
      exact absurd (by decide) c_42
