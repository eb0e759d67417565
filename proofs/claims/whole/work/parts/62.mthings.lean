set_option maxHeartbeats 4000000 in
set_option maxRecDepth 100000 in
theorem lp_Md_things (l : Launch) (G : ZG) (dC : Nat → ClassId) (dI : Nat → Nat → Nat) (aM : Nat) (th : Int32) (aMT : Nat) (mu : Nat) (aNw : Nat) (aNx : Nat) (mw : Int32) (mwa : Int32) (ma : Nat) (en : Nat) (mv : Int64) (mf : Int32) (ml : Int32) (kMT : ClassId) (B : Nat → Int32) (kNx : ClassId) (nx : Nat → Int32) (cnt : Nat → Nat) (ka : Nat) (mo : Nat) (hen : en ≤ 65536) (hma : ma ≤ en) (hka : ka < 5) (hmo : mo = zM ka) (h0c : cnt ka = 0) (hcn : ∀ j, j < 5 → nx j = nI (cnt j)) (hcm : ∀ j, j < 5 → cnt j ≤ zM j) {p : Program} {e : Env} {s : State} {m : MethodId} {args : Array Value} {below : List Frame} {meth : Method} {c : Code} {A : Nat → Prop} (C0 : zC p s m args meth c prog_6_method_26_code 4 (some .boolean) R_Md w_Md_things) (hA : ∀ q : Nat, s.heap.size ≤ q → A q) (hK : va_K (dC, dI) vwCl [(kMT, .byte), (kNx, .int)] s) (hE : zE G A s s.heap) : ∀ (n : Nat) (i : Nat) (ma2 : Nat) (mv2 : Int64) (mf2 : Int32) (ml2 : Int32) (nx2 : Nat → Int32), (i ≤ zM ka) → (zM ka + 1 ≤ i + n) → (ma2 ≤ en) → (∀ j, j < 5 → nx2 j = nI (zuN cnt ka i j)) → (mThings B en ka cnt (zK B en ma, nx) = zB (mThs B en ka cnt (zM ka + 1 - i) i (zK B en ma2, nx2)) (zEnd B en)) → ∀ (H : Heap) (locs : List Loc), va_P (dC, dI) vwCl [(aM, .inr (4, [.int th, .ref aMT, .int (nI mu), .ref aNw, .ref aNx, .int mw, .int mwa, .int (nI ma2), .int (nI en), .long mv2, .int mf2, .int ml2])), (aMT, .inl (kMT, 65536, .inl B)), (aNx, .inl (kNx, 52650, .inl nx2))] H → va_D A [(aM, .inr (4, [.int th, .ref aMT, .int (nI mu), .ref aNw, .ref aNx, .int mw, .int mwa, .int (nI ma2), .int (nI en), .long mv2, .int mf2, .int ml2])), (aMT, .inl (kMT, 65536, .inl B)), (aNx, .inl (kNx, 52650, .inl nx2))] → va_S A s.heap H locs → ∀ (ls : Array Slot), lv_has ls 4 [(0, .ref aM), (1, .int (nI ka)), (2, .int (nI mo))] → W p l e ({ frames := 8, cells := 0, slots := 0, locals := 184 }) s m args below meth c H locs 0 0 (MQ below (va_Qi (fun (r : Int32) (uu : Nat × Int32 × Int32 × Int64 × Int32 × (Nat → Int32) × Int32) => (r = 1 ∧ uu.1 ≤ en ∧ uu.2.1 = mw ∧ uu.2.2.1 = mwa ∧ ∃ n, mThings B en ka cnt (zK B en ma, nx) = .ok (n, zK B en uu.1, uu.2.2.2.2.2.1) ∧ n ≤ zM ka ∧ ∀ j, j < 5 → uu.2.2.2.2.2.1 j = nI (zuN cnt ka n j)) ∨ (r = 0 ∧ uu.1 ≤ en ∧ ∃ k, mThings B en ka cnt (zK B en ma, nx) = .error (uu.2.1, k) ∧ uu.2.2.1 = nI k)) (fun (uu : Nat × Int32 × Int32 × Int64 × Int32 × (Nat → Int32) × Int32) t => BW (dC, dI) [(aM, .inr (4, [.int th, .ref aMT, .int (nI mu), .ref aNw, .ref aNx, .int uu.2.1, .int uu.2.2.1, .int (nI uu.1), .int (nI en), .long uu.2.2.2.1, .int uu.2.2.2.2.1, .int uu.2.2.2.2.2.2])), (aMT, .inl (kMT, 65536, .inl B)), (aNx, .inl (kNx, 52650, .inl uu.2.2.2.2.2.1))] A s.heap.size t) A) args s 0 0 A) (F0 m 30 ls []) := by
  obtain ⟨hx, hb, hr, hml, hown, hts, hlocks⟩ := C0
  have hz : ∀ w ∈ ZW, w.before _ s = true := fun w h => hts w (List.mem_cons_of_mem _ h)
  intro n
  induction n with
  | zero =>
    intro i ma2 mv2 mf2 ml2 nx2 hi hn hm2 hc2 hI H locs hP hD hS ls hl
    exact absurd hn (by omega)
  | succ n ih =>
    intro i ma2 mv2 mf2 ml2 nx2 hi hn hm2 hc2 hI H locs hP hD hS ls hl
    have hmz := zM_le ka
    refine lv_aload_n hx hb d_Md_things_30 rfl (lv_at hl 0 rfl) ?_
    refine lv_bipush (v := 123) hx hb d_Md_things_31 (by decide) ?_
    have hPc := hP.sub (ws' := [(aM, .inr (4, [.int th, .ref aMT, .int (nI mu), .ref aNw, .ref aNx, .int mw, .int mwa, .int (nI ma2), .int (nI en), .long mv2, .int mf2, .int ml2])), (aMT, .inl (kMT, 65536, .inl B))]) [0, 1] rfl
    have hDc := hD.sub (ws' := [(aM, .inr (4, [.int th, .ref aMT, .int (nI mu), .ref aNw, .ref aNx, .int mw, .int mwa, .int (nI ma2), .int (nI en), .long mv2, .int mf2, .int ml2])), (aMT, .inl (kMT, 65536, .inl B))]) [0, 1] (by decide) rfl
    have hKc := hK.sub (tys' := [(kMT, .byte)]) [0] rfl
    have hFc := va_free (wc := [(aM, .inr (4, [.int th, .ref aMT, .int (nI mu), .ref aNw, .ref aNx, .int mw, .int mwa, .int (nI ma2), .int (nI en), .long mv2, .int mf2, .int ml2])), (aMT, .inl (kMT, 65536, .inl B))]) hD hS hA [0, 1] rfl
    refine va_calli (va_runV (As := [.int 123]) (rest := []) ⟨hx, hb, hml, hown, hts⟩ (c_Md_comes l G dC dI H.size aM th aMT mu aNw aNx mw mwa ma2 en mv2 mf2 ml2 kMT B 123 (by omega) (by omega)) (cwV 1 hts (gV tw_541 tw_543 ts_21 tw_5 tw_544 rfl) rfl rfl rfl (by decide +kernel) ⟨Nat.le_of_ble_eq_true rfl, Nat.le_of_ble_eq_true rfl⟩) (PW_preV hPc hKc hDc hE hS hFc (ci := 4) (q0 := 0) rfl rfl) rfl rfl hl.1 rfl (lv_room (Nat.le_of_ble_eq_true rfl)) d_Md_things_33 ⟨Nat.le_of_ble_eq_true rfl, Nat.le_of_ble_eq_true rfl⟩) hS (fun q _ h => hFc q h) hFc (fun r_1 uu t H1 locs ht hvm hw_3 hB hz1 hk1 hS => ?_)
    obtain ⟨ma_2, rfl⟩ : ∃ z, z = uu := ⟨_, rfl⟩
    obtain ⟨hP1, hD1, hsz1⟩ := hB
    rw [ht] at hP1 hsz1
    obtain ⟨hP, hD⟩ := va_join (wr := [(aNx, .inl (kNx, 52650, .inl nx2))]) (w1 := [(aM, .inr (4, [.int th, .ref aMT, .int (nI mu), .ref aNw, .ref aNx, .int mw, .int mwa, .int (nI ma_2), .int (nI en), .long mv2, .int mf2, .int ml2])), (aMT, .inl (kMT, 65536, .inl B))]) hP hD [0, 1] [2] rfl rfl (by decide) (by decide) hk1 hFc hP1 hD1
    generalize H1 = H at hP hS ⊢
    have hP : va_P (dC, dI) vwCl [(aNx, .inl (kNx, 52650, .inl nx2)), (aM, .inr (4, [.int th, .ref aMT, .int (nI mu), .ref aNw, .ref aNx, .int mw, .int mwa, .int (nI ma_2), .int (nI en), .long mv2, .int mf2, .int ml2])), (aMT, .inl (kMT, 65536, .inl B))] H := hP
    have hD : va_D A [(aNx, .inl (kNx, 52650, .inl nx2)), (aM, .inr (4, [.int th, .ref aMT, .int (nI mu), .ref aNw, .ref aNx, .int mw, .int mwa, .int (nI ma_2), .int (nI en), .long mv2, .int mf2, .int ml2])), (aMT, .inl (kMT, 65536, .inl B))] := hD
    have hw_3i := zK_le (B := B) (en := en) (i := ma2) (by omega)
    obtain ⟨e1, e2⟩ := hw_3
    have e1 := e1.symm; subst e1
    by_cases hs_4 : zK B en ma2 < en ∧ B (zK B en ma2) = 123
    ·
      rw [if_pos hs_4] at e2; subst e2
      refine lv_if_eq (tgt := 59) hx hb d_Md_things_36 (by decide) (fun c_5 => ?_) (fun c_5 => ?_)
      ·
        exact absurd c_5 (by decide)
      ·
        refine lv_aload_n hx hb d_Md_things_39 rfl (lv_at hl 0 rfl) ?_
        refine va_get (D := (dC, dI)) (ci := 4) (v := .ref aNx) (C := R_Md) (T := F_Md) (N := 12) hx hb hz i_Md hown hK hP 1 rfl rfl 4 (by decide) (hz _ tw_480) (fun _ h9 => h9) rfl d_Md_things_40 ?_
        refine lv_iload_n hx hb d_Md_things_43 rfl (lv_at hl 1 rfl) ?_
        refine va_iald (D := (dC, dI)) (i := nI ka) hx hb hK hP 0 1 rfl rfl (vp_in_nI (by omega) (by decide)) d_Md_things_44 ?_
        refine zt_top (by rw [nI_clamp (by omega)]) ?_
        refine zt_top (y := nI i) (by rw [hc2 ka hka, zuN_s]) ?_
        refine lv_iload_n hx hb d_Md_things_45 rfl (lv_at hl 2 rfl) ?_
        refine lv_icmp_ne (tgt := 59) hx hb d_Md_things_46 (by decide) (fun c_6 => ?_) (fun c_6 => ?_)
        ·
          have c_6 : ¬ (i = mo) := fun z => c_6 ((@nI_eq i mo (by omega) (by omega)).mpr z)
          refine lv_aload_n hx hb d_Md_things_59 rfl (lv_at hl 0 rfl) ?_
          refine lv_iload_n hx hb d_Md_things_60 rfl (lv_at hl 1 rfl) ?_
          refine lv_aload_n hx hb d_Md_things_61 rfl (lv_at hl 0 rfl) ?_
          refine va_get (D := (dC, dI)) (ci := 4) (v := .ref aNx) (C := R_Md) (T := F_Md) (N := 12) hx hb hz i_Md hown hK hP 1 rfl rfl 4 (by decide) (hz _ tw_480) (fun _ h9 => h9) rfl d_Md_things_62 ?_
          refine lv_iload_n hx hb d_Md_things_65 rfl (lv_at hl 1 rfl) ?_
          refine va_iald (D := (dC, dI)) (i := nI ka) hx hb hK hP 0 1 rfl rfl (vp_in_nI (by omega) (by decide)) d_Md_things_66 ?_
          refine zt_top (by rw [nI_clamp (by omega)]) ?_
          refine zt_top (y := nI i) (by rw [hc2 ka hka, zuN_s]) ?_
          have hPc := hP.sub (ws' := [(aM, .inr (4, [.int th, .ref aMT, .int (nI mu), .ref aNw, .ref aNx, .int mw, .int mwa, .int (nI (zK B en ma2)), .int (nI en), .long mv2, .int mf2, .int ml2])), (aMT, .inl (kMT, 65536, .inl B)), (aNx, .inl (kNx, 52650, .inl nx2))]) [1, 2, 0] rfl
          have hDc := hD.sub (ws' := [(aM, .inr (4, [.int th, .ref aMT, .int (nI mu), .ref aNw, .ref aNx, .int mw, .int mwa, .int (nI (zK B en ma2)), .int (nI en), .long mv2, .int mf2, .int ml2])), (aMT, .inl (kMT, 65536, .inl B)), (aNx, .inl (kNx, 52650, .inl nx2))]) [1, 2, 0] (by decide) rfl
          have hKc := hK.sub (tys' := [(kMT, .byte), (kNx, .int)]) [0, 1] rfl
          have hFc := va_free (wc := [(aM, .inr (4, [.int th, .ref aMT, .int (nI mu), .ref aNw, .ref aNx, .int mw, .int mwa, .int (nI (zK B en ma2)), .int (nI en), .long mv2, .int mf2, .int ml2])), (aMT, .inl (kMT, 65536, .inl B)), (aNx, .inl (kNx, 52650, .inl nx2))]) hD hS hA [1, 2, 0] rfl
          refine va_calli (va_runV (As := [.int (nI ka), .int (nI i)]) (rest := []) ⟨hx, hb, hml, hown, hts⟩ (c_Md_thing l G dC dI H.size aM th aMT mu aNw aNx mw mwa (zK B en ma2) en mv2 mf2 ml2 kMT B kNx nx2 (zuN cnt ka i) ka i (by omega) (by omega) (by omega) hi (fun z => absurd (z.trans hmo.symm) c_6) hc2 (zuN_le hi hcm)) (cwV 2 hts (gV tw_630 tw_632 ts_37 tw_5 tw_633 rfl) rfl rfl rfl (by decide +kernel) ⟨Nat.le_of_ble_eq_true rfl, Nat.le_of_ble_eq_true rfl⟩) (PW_preV hPc hKc hDc hE hS hFc (ci := 4) (q0 := 0) rfl rfl) rfl rfl hl.1 rfl (lv_room (Nat.le_of_ble_eq_true rfl)) d_Md_things_67 ⟨Nat.le_of_ble_eq_true rfl, Nat.le_of_ble_eq_true rfl⟩) hS (fun q _ h => hFc q h) hFc (fun r_7 uu t H1 locs ht hvm hw_15 hB hz1 hk1 hS => ?_)
          obtain ⟨ma_8, mw_9, mwa_10, mv_11, mf_12, nx_13, ml_14⟩ := uu
          obtain ⟨hP1, hD1, hsz1⟩ := hB
          rw [ht] at hP1 hsz1
          obtain ⟨hP, hD⟩ := va_join (wr := []) (w1 := [(aM, .inr (4, [.int th, .ref aMT, .int (nI mu), .ref aNw, .ref aNx, .int mw_9, .int mwa_10, .int (nI ma_8), .int (nI en), .long mv_11, .int mf_12, .int ml_14])), (aMT, .inl (kMT, 65536, .inl B)), (aNx, .inl (kNx, 52650, .inl nx_13))]) hP hD [1, 2, 0] [] rfl rfl (by decide) (by decide) hk1 hFc hP1 hD1
          generalize H1 = H at hP hS ⊢
          have hP : va_P (dC, dI) vwCl [(aM, .inr (4, [.int th, .ref aMT, .int (nI mu), .ref aNw, .ref aNx, .int mw_9, .int mwa_10, .int (nI ma_8), .int (nI en), .long mv_11, .int mf_12, .int ml_14])), (aMT, .inl (kMT, 65536, .inl B)), (aNx, .inl (kNx, 52650, .inl nx_13))] H := hP
          have hD : va_D A [(aM, .inr (4, [.int th, .ref aMT, .int (nI mu), .ref aNw, .ref aNx, .int mw_9, .int mwa_10, .int (nI ma_8), .int (nI en), .long mv_11, .int mf_12, .int ml_14])), (aMT, .inl (kMT, 65536, .inl B)), (aNx, .inl (kNx, 52650, .inl nx_13))] := hD
          simp only [zK_idem] at hw_15
          rcases hw_15 with ⟨rfl, hw_15b, e1, e2, hw_15a⟩ | ⟨rfl, hw_15b, hw_15k, hw_15a, e2⟩
          ·
            have e1 := e1.symm; subst e1
            have e2 := e2.symm; subst e2
            have hlt : i < zM ka := by omega
            refine lv_if_ne (tgt := 75) hx hb d_Md_things_70 (by decide) (fun c_16 => ?_) (fun c_16 => ?_)
            ·
              refine lv_aload_n hx hb d_Md_things_75 rfl (lv_at hl 0 rfl) ?_
              refine va_get (D := (dC, dI)) (ci := 4) (v := .ref aNx) (C := R_Md) (T := F_Md) (N := 12) hx hb hz i_Md hown hK hP 0 rfl rfl 4 (by decide) (hz _ tw_480) (fun _ h9 => h9) rfl d_Md_things_76 ?_
              refine lv_iload_n hx hb d_Md_things_79 rfl (lv_at hl 1 rfl) ?_
              refine lv_dup2_11 hx hb d_Md_things_80 rfl rfl ?_
              refine va_iald (D := (dC, dI)) (i := nI ka) hx hb hK hP 2 1 rfl rfl (vp_in_nI (by omega) (by decide)) d_Md_things_81 ?_
              refine zt_top (by rw [nI_clamp (by omega)]) ?_
              refine zt_top (y := nI i) (by rw [mThing_lo hka hw_15a ka (by omega), hc2 ka hka, zuN_s]) ?_
              refine lv_iconst (v := 1) hx hb d_Md_things_82 (by decide) ?_
              refine lv_iadd hx hb d_Md_things_83 ?_
              refine zt_top (nI_add i 1) ?_
              refine va_iast (D := (dC, dI)) (i := nI ka) (x := nI (i + 1)) hx hb hK hP hD hS 2 1 rfl rfl (vp_in_nI (by omega) (by decide)) d_Md_things_84 (fun H locs hP hD hS => ?_)
              rw [nI_clamp (by omega)] at hP hD
              have hP : va_P (dC, dI) vwCl [(aM, .inr (4, [.int th, .ref aMT, .int (nI mu), .ref aNw, .ref aNx, .int mw, .int mwa, .int (nI ma_8), .int (nI en), .long mv_11, .int mf_12, .int ml_14])), (aMT, .inl (kMT, 65536, .inl B)), (aNx, .inl (kNx, 52650, .inl (upd nx_13 ka (nI (i + 1)))))] H := hP
              have hD : va_D A [(aM, .inr (4, [.int th, .ref aMT, .int (nI mu), .ref aNw, .ref aNx, .int mw, .int mwa, .int (nI ma_8), .int (nI en), .long mv_11, .int mf_12, .int ml_14])), (aMT, .inl (kMT, 65536, .inl B)), (aNx, .inl (kNx, 52650, .inl (upd nx_13 ka (nI (i + 1)))))] := hD
              refine lv_aload_n hx hb d_Md_things_85 rfl (lv_at hl 0 rfl) ?_
              refine lv_bipush (v := 44) hx hb d_Md_things_86 (by decide) ?_
              have hPc := hP.sub (ws' := [(aM, .inr (4, [.int th, .ref aMT, .int (nI mu), .ref aNw, .ref aNx, .int mw, .int mwa, .int (nI ma_8), .int (nI en), .long mv_11, .int mf_12, .int ml_14])), (aMT, .inl (kMT, 65536, .inl B))]) [0, 1] rfl
              have hDc := hD.sub (ws' := [(aM, .inr (4, [.int th, .ref aMT, .int (nI mu), .ref aNw, .ref aNx, .int mw, .int mwa, .int (nI ma_8), .int (nI en), .long mv_11, .int mf_12, .int ml_14])), (aMT, .inl (kMT, 65536, .inl B))]) [0, 1] (by decide) rfl
              have hKc := hK.sub (tys' := [(kMT, .byte)]) [0] rfl
              have hFc := va_free (wc := [(aM, .inr (4, [.int th, .ref aMT, .int (nI mu), .ref aNw, .ref aNx, .int mw, .int mwa, .int (nI ma_8), .int (nI en), .long mv_11, .int mf_12, .int ml_14])), (aMT, .inl (kMT, 65536, .inl B))]) hD hS hA [0, 1] rfl
              refine va_calli (va_runV (As := [.int 44]) (rest := []) ⟨hx, hb, hml, hown, hts⟩ (c_Md_comes l G dC dI H.size aM th aMT mu aNw aNx mw mwa ma_8 en mv_11 mf_12 ml_14 kMT B 44 (by omega) (by omega)) (cwV 1 hts (gV tw_541 tw_543 ts_21 tw_5 tw_544 rfl) rfl rfl rfl (by decide +kernel) ⟨Nat.le_of_ble_eq_true rfl, Nat.le_of_ble_eq_true rfl⟩) (PW_preV hPc hKc hDc hE hS hFc (ci := 4) (q0 := 0) rfl rfl) rfl rfl hl.1 rfl (lv_room (Nat.le_of_ble_eq_true rfl)) d_Md_things_88 ⟨Nat.le_of_ble_eq_true rfl, Nat.le_of_ble_eq_true rfl⟩) hS (fun q _ h => hFc q h) hFc (fun r_17 uu t H1 locs ht hvm hw_19 hB hz1 hk1 hS => ?_)
              obtain ⟨ma_18, rfl⟩ : ∃ z, z = uu := ⟨_, rfl⟩
              obtain ⟨hP1, hD1, hsz1⟩ := hB
              rw [ht] at hP1 hsz1
              obtain ⟨hP, hD⟩ := va_join (wr := [(aNx, .inl (kNx, 52650, .inl (upd nx_13 ka (nI (i + 1)))))]) (w1 := [(aM, .inr (4, [.int th, .ref aMT, .int (nI mu), .ref aNw, .ref aNx, .int mw, .int mwa, .int (nI ma_18), .int (nI en), .long mv_11, .int mf_12, .int ml_14])), (aMT, .inl (kMT, 65536, .inl B))]) hP hD [0, 1] [2] rfl rfl (by decide) (by decide) hk1 hFc hP1 hD1
              generalize H1 = H at hP hS ⊢
              have hP : va_P (dC, dI) vwCl [(aNx, .inl (kNx, 52650, .inl (upd nx_13 ka (nI (i + 1))))), (aM, .inr (4, [.int th, .ref aMT, .int (nI mu), .ref aNw, .ref aNx, .int mw, .int mwa, .int (nI ma_18), .int (nI en), .long mv_11, .int mf_12, .int ml_14])), (aMT, .inl (kMT, 65536, .inl B))] H := hP
              have hD : va_D A [(aNx, .inl (kNx, 52650, .inl (upd nx_13 ka (nI (i + 1))))), (aM, .inr (4, [.int th, .ref aMT, .int (nI mu), .ref aNw, .ref aNx, .int mw, .int mwa, .int (nI ma_18), .int (nI en), .long mv_11, .int mf_12, .int ml_14])), (aMT, .inl (kMT, 65536, .inl B))] := hD
              have hw_19i := zK_le (B := B) (en := en) (i := ma_8) (by omega)
              obtain ⟨e1, e2⟩ := hw_19
              have e1 := e1.symm; subst e1
              by_cases hs_20 : zK B en ma_8 < en ∧ B (zK B en ma_8) = 44
              ·
                rw [if_pos hs_20] at e2; subst e2
                refine lv_istore_n (lv' := [(3, .int 1), (0, .ref aM), (1, .int (nI ka)), (2, .int (nI mo))]) hx hb d_Md_things_91 rfl hl (by decide) rfl (fun ls hl => ?_)
                refine lv_aload_n hx hb d_Md_things_92 rfl (lv_at hl 1 rfl) ?_
                refine lv_iload_n hx hb d_Md_things_93 rfl (lv_at hl 0 rfl) ?_
                refine lv_if_eq (tgt := 106) hx hb d_Md_things_94 (by decide) (fun c_21 => ?_) (fun c_21 => ?_)
                ·
                  exact absurd c_21 (by decide)
                ·
                  refine lv_aload_n hx hb d_Md_things_97 rfl (lv_at hl 1 rfl) ?_
                  refine va_get (D := (dC, dI)) (ci := 4) (v := .int (nI (zK B en ma_8))) (C := R_Md) (T := F_Md) (N := 12) hx hb hz i_Md hown hK hP 1 rfl rfl 7 (by decide) (hz _ tw_483) (fun _ h9 => h9) rfl d_Md_things_98 ?_
                  refine lv_iconst (v := 1) hx hb d_Md_things_101 (by decide) ?_
                  refine lv_iadd hx hb d_Md_things_102 ?_
                  refine zt_top (nI_add (zK B en ma_8) 1) ?_
                  refine lv_goto (tgt := 110) hx hb d_Md_things_103 (by decide) ?_
                  refine va_put (D := (dC, dI)) (ci := 4) (v := .int (nI ((zK B en ma_8) + 1))) (ty := .int) (C := R_Md) (T := F_Md) (N := 12) hx hb hz i_Md t_Md t_Md_ok n_Md hown hK hP hD hS 1 rfl rfl 7 (by decide) (hz _ tw_483) (fun _ h9 => h9) rfl (by decide +kernel) rfl rfl (Nat.le_of_ble_eq_true rfl) d_Md_things_110 (fun H locs hP hD hS => ?_)
                  have hP : va_P (dC, dI) vwCl [(aNx, .inl (kNx, 52650, .inl (upd nx_13 ka (nI (i + 1))))), (aM, .inr (4, [.int th, .ref aMT, .int (nI mu), .ref aNw, .ref aNx, .int mw, .int mwa, .int (nI ((zK B en ma_8) + 1)), .int (nI en), .long mv_11, .int mf_12, .int ml_14])), (aMT, .inl (kMT, 65536, .inl B))] H := hP
                  have hD : va_D A [(aNx, .inl (kNx, 52650, .inl (upd nx_13 ka (nI (i + 1))))), (aM, .inr (4, [.int th, .ref aMT, .int (nI mu), .ref aNw, .ref aNx, .int mw, .int mwa, .int (nI ((zK B en ma_8) + 1)), .int (nI en), .long mv_11, .int mf_12, .int ml_14])), (aMT, .inl (kMT, 65536, .inl B))] := hD
                  refine lv_goto (tgt := 26) hx hb d_Md_things_113 (by decide) ?_
                  refine lv_iload_n hx hb d_Md_things_26 rfl (lv_at hl 0 rfl) ?_
                  refine lv_if_eq (tgt := 116) hx hb d_Md_things_27 (by decide) (fun c_22 => ?_) (fun c_22 => ?_)
                  ·
                    exact absurd c_22 (by decide)
                  ·
                    exact ih (i + 1) ((zK B en ma_8) + 1) mv_11 mf_12 ml_14 (upd nx_13 ka (nI (i + 1))) (by omega) (by omega) (by omega) (zcn_step hc2 (mThing_lo hka hw_15a)) (by rw [hI, mThs_step hi, if_neg (fun z => c_6 (z.2.trans hmo.symm)), hw_15a, zB_ok, if_pos hs_20]) _ _ (hP.sub [1, 2, 0] rfl) (hD.sub [1, 2, 0] (by decide) rfl) hS ls (lv_sub hl [1, 2, 3] rfl)
              ·
                rw [if_neg hs_20] at e2; subst e2
                refine lv_istore_n (lv' := [(3, .int 0), (0, .ref aM), (1, .int (nI ka)), (2, .int (nI mo))]) hx hb d_Md_things_91 rfl hl (by decide) rfl (fun ls hl => ?_)
                refine lv_aload_n hx hb d_Md_things_92 rfl (lv_at hl 1 rfl) ?_
                refine lv_iload_n hx hb d_Md_things_93 rfl (lv_at hl 0 rfl) ?_
                refine lv_if_eq (tgt := 106) hx hb d_Md_things_94 (by decide) (fun c_23 => ?_) (fun c_23 => ?_)
                ·
                  refine lv_aload_n hx hb d_Md_things_106 rfl (lv_at hl 1 rfl) ?_
                  refine va_get (D := (dC, dI)) (ci := 4) (v := .int (nI (zK B en ma_8))) (C := R_Md) (T := F_Md) (N := 12) hx hb hz i_Md hown hK hP 1 rfl rfl 7 (by decide) (hz _ tw_483) (fun _ h9 => h9) rfl d_Md_things_107 ?_
                  refine va_put (D := (dC, dI)) (ci := 4) (v := .int (nI (zK B en ma_8))) (ty := .int) (C := R_Md) (T := F_Md) (N := 12) hx hb hz i_Md t_Md t_Md_ok n_Md hown hK hP hD hS 1 rfl rfl 7 (by decide) (hz _ tw_483) (fun _ h9 => h9) rfl (by decide +kernel) rfl rfl (Nat.le_of_ble_eq_true rfl) d_Md_things_110 (fun H locs hP hD hS => ?_)
                  have hP : va_P (dC, dI) vwCl [(aNx, .inl (kNx, 52650, .inl (upd nx_13 ka (nI (i + 1))))), (aM, .inr (4, [.int th, .ref aMT, .int (nI mu), .ref aNw, .ref aNx, .int mw, .int mwa, .int (nI (zK B en ma_8)), .int (nI en), .long mv_11, .int mf_12, .int ml_14])), (aMT, .inl (kMT, 65536, .inl B))] H := hP
                  have hD : va_D A [(aNx, .inl (kNx, 52650, .inl (upd nx_13 ka (nI (i + 1))))), (aM, .inr (4, [.int th, .ref aMT, .int (nI mu), .ref aNw, .ref aNx, .int mw, .int mwa, .int (nI (zK B en ma_8)), .int (nI en), .long mv_11, .int mf_12, .int ml_14])), (aMT, .inl (kMT, 65536, .inl B))] := hD
                  refine lv_goto (tgt := 26) hx hb d_Md_things_113 (by decide) ?_
                  refine lv_iload_n hx hb d_Md_things_26 rfl (lv_at hl 0 rfl) ?_
                  refine lv_if_eq (tgt := 116) hx hb d_Md_things_27 (by decide) (fun c_24 => ?_) (fun c_24 => ?_)
                  ·
                    refine lv_aload_n hx hb d_Md_things_116 rfl (lv_at hl 1 rfl) ?_
                    refine lv_bipush (v := 93) hx hb d_Md_things_117 (by decide) ?_
                    have hPc := hP.sub (ws' := [(aM, .inr (4, [.int th, .ref aMT, .int (nI mu), .ref aNw, .ref aNx, .int mw, .int mwa, .int (nI (zK B en ma_8)), .int (nI en), .long mv_11, .int mf_12, .int ml_14])), (aMT, .inl (kMT, 65536, .inl B))]) [1, 2] rfl
                    have hDc := hD.sub (ws' := [(aM, .inr (4, [.int th, .ref aMT, .int (nI mu), .ref aNw, .ref aNx, .int mw, .int mwa, .int (nI (zK B en ma_8)), .int (nI en), .long mv_11, .int mf_12, .int ml_14])), (aMT, .inl (kMT, 65536, .inl B))]) [1, 2] (by decide) rfl
                    have hKc := hK.sub (tys' := [(kMT, .byte)]) [0] rfl
                    have hFc := va_free (wc := [(aM, .inr (4, [.int th, .ref aMT, .int (nI mu), .ref aNw, .ref aNx, .int mw, .int mwa, .int (nI (zK B en ma_8)), .int (nI en), .long mv_11, .int mf_12, .int ml_14])), (aMT, .inl (kMT, 65536, .inl B))]) hD hS hA [1, 2] rfl
                    refine va_calli (va_runV (As := [.int 93]) (rest := []) ⟨hx, hb, hml, hown, hts⟩ (c_Md_sign l G dC dI H.size aM th aMT mu aNw aNx mw mwa (zK B en ma_8) en mv_11 mf_12 ml_14 kMT B 93 (by omega) (by omega)) (cwV 1 hts (gV tw_537 tw_539 ts_20 tw_5 tw_540 rfl) rfl rfl rfl (by decide +kernel) ⟨Nat.le_of_ble_eq_true rfl, Nat.le_of_ble_eq_true rfl⟩) (PW_preV hPc hKc hDc hE hS hFc (ci := 4) (q0 := 0) rfl rfl) rfl rfl hl.1 rfl (lv_room (Nat.le_of_ble_eq_true rfl)) d_Md_things_119 ⟨Nat.le_of_ble_eq_true rfl, Nat.le_of_ble_eq_true rfl⟩) hS (fun q _ h => hFc q h) hFc (fun r_25 uu t H1 locs ht hvm hw_29 hB hz1 hk1 hS => ?_)
                    obtain ⟨ma_26, mw_27, mwa_28⟩ := uu
                    obtain ⟨hP1, hD1, hsz1⟩ := hB
                    rw [ht] at hP1 hsz1
                    obtain ⟨hP, hD⟩ := va_join (wr := [(aNx, .inl (kNx, 52650, .inl (upd nx_13 ka (nI (i + 1)))))]) (w1 := [(aM, .inr (4, [.int th, .ref aMT, .int (nI mu), .ref aNw, .ref aNx, .int mw_27, .int mwa_28, .int (nI ma_26), .int (nI en), .long mv_11, .int mf_12, .int ml_14])), (aMT, .inl (kMT, 65536, .inl B))]) hP hD [1, 2] [0] rfl rfl (by decide) (by decide) hk1 hFc hP1 hD1
                    generalize H1 = H at hP hS ⊢
                    have hP : va_P (dC, dI) vwCl [(aNx, .inl (kNx, 52650, .inl (upd nx_13 ka (nI (i + 1))))), (aM, .inr (4, [.int th, .ref aMT, .int (nI mu), .ref aNw, .ref aNx, .int mw_27, .int mwa_28, .int (nI ma_26), .int (nI en), .long mv_11, .int mf_12, .int ml_14])), (aMT, .inl (kMT, 65536, .inl B))] H := hP
                    have hD : va_D A [(aNx, .inl (kNx, 52650, .inl (upd nx_13 ka (nI (i + 1))))), (aM, .inr (4, [.int th, .ref aMT, .int (nI mu), .ref aNw, .ref aNx, .int mw_27, .int mwa_28, .int (nI ma_26), .int (nI en), .long mv_11, .int mf_12, .int ml_14])), (aMT, .inl (kMT, 65536, .inl B))] := hD
                    simp only [zK_idem] at hw_29
                    rcases hw_29 with ⟨rfl, hw_29a, hw_29b, e1, e2⟩ | ⟨rfl, hw_29b, hw_29k, hw_29a, e2⟩
                    ·
                      have e1 := e1.symm; subst e1
                      have e2 := e2.symm; subst e2
                      refine zt_size (fun hzs => ?_)
                      have hP9 := hP.sub (ws' := [(aM, .inr (4, [.int th, .ref aMT, .int (nI mu), .ref aNw, .ref aNx, .int mw, .int mwa, .int (nI ma_26), .int (nI en), .long mv_11, .int mf_12, .int ml_14])), (aMT, .inl (kMT, 65536, .inl B)), (aNx, .inl (kNx, 52650, .inl (upd nx_13 ka (nI (i + 1)))))]) [1, 2, 0] rfl
                      have hD9 := hD.sub (ws' := [(aM, .inr (4, [.int th, .ref aMT, .int (nI mu), .ref aNw, .ref aNx, .int mw, .int mwa, .int (nI ma_26), .int (nI en), .long mv_11, .int mf_12, .int ml_14])), (aMT, .inl (kMT, 65536, .inl B)), (aNx, .inl (kNx, 52650, .inl (upd nx_13 ka (nI (i + 1)))))]) [1, 2, 0] (by decide) rfl
                      exact W.zret (v := 1) hx hb hr rfl (fun t ht hW => ⟨⟨1, (ma_26, mw, mwa, mv_11, mf_12, upd nx_13 ka (nI (i + 1)), ml_14), rfl, Or.inl ⟨rfl, by omega, rfl, rfl, i + 1, by rw [hI, mThs_step hi, if_neg (fun z => c_6 (z.2.trans hmo.symm)), hw_15a, zB_ok, if_neg hs_20]; simp only [zEnd, zB_ok, zB_er, hw_29a], by omega, zcn_step hc2 (mThing_lo hka hw_15a)⟩, by rw [ht]; exact hP9, hD9, by rw [ht]; exact hzs⟩, hS.F ht⟩) hS.2.2 d_Md_things_122
                    ·
                      have e2 := e2.symm; subst e2
                      refine zt_size (fun hzs => ?_)
                      have hP9 := hP.sub (ws' := [(aM, .inr (4, [.int th, .ref aMT, .int (nI mu), .ref aNw, .ref aNx, .int mw_27, .int (nI hw_29k), .int (nI ma_26), .int (nI en), .long mv_11, .int mf_12, .int ml_14])), (aMT, .inl (kMT, 65536, .inl B)), (aNx, .inl (kNx, 52650, .inl (upd nx_13 ka (nI (i + 1)))))]) [1, 2, 0] rfl
                      have hD9 := hD.sub (ws' := [(aM, .inr (4, [.int th, .ref aMT, .int (nI mu), .ref aNw, .ref aNx, .int mw_27, .int (nI hw_29k), .int (nI ma_26), .int (nI en), .long mv_11, .int mf_12, .int ml_14])), (aMT, .inl (kMT, 65536, .inl B)), (aNx, .inl (kNx, 52650, .inl (upd nx_13 ka (nI (i + 1)))))]) [1, 2, 0] (by decide) rfl
                      exact W.zret (v := 0) hx hb hr rfl (fun t ht hW => ⟨⟨0, (ma_26, mw_27, nI hw_29k, mv_11, mf_12, upd nx_13 ka (nI (i + 1)), ml_14), rfl, Or.inr ⟨rfl, by omega, _, by rw [hI, mThs_step hi, if_neg (fun z => c_6 (z.2.trans hmo.symm)), hw_15a, zB_ok, if_neg hs_20]; simp only [zEnd, zB_ok, zB_er, hw_29a], rfl⟩, by rw [ht]; exact hP9, hD9, by rw [ht]; exact hzs⟩, hS.F ht⟩) hS.2.2 d_Md_things_122
                  ·
                    exact absurd (by decide) c_24
                ·
                  exact absurd (by decide) c_23
            ·
              exact absurd c_16 (by decide)
          ·
            have e2 := e2.symm; subst e2
            refine lv_if_ne (tgt := 75) hx hb d_Md_things_70 (by decide) (fun c_30 => ?_) (fun c_30 => ?_)
            ·
              exact absurd (by decide) c_30
            ·
              refine lv_iconst (v := 0) hx hb d_Md_things_73 (by decide) ?_
              refine zt_size (fun hzs => ?_)
              have hP9 := hP.sub (ws' := [(aM, .inr (4, [.int th, .ref aMT, .int (nI mu), .ref aNw, .ref aNx, .int mw_9, .int (nI hw_15k), .int (nI ma_8), .int (nI en), .long mv_11, .int mf_12, .int ml_14])), (aMT, .inl (kMT, 65536, .inl B)), (aNx, .inl (kNx, 52650, .inl nx_13))]) [0, 1, 2] rfl
              have hD9 := hD.sub (ws' := [(aM, .inr (4, [.int th, .ref aMT, .int (nI mu), .ref aNw, .ref aNx, .int mw_9, .int (nI hw_15k), .int (nI ma_8), .int (nI en), .long mv_11, .int mf_12, .int ml_14])), (aMT, .inl (kMT, 65536, .inl B)), (aNx, .inl (kNx, 52650, .inl nx_13))]) [0, 1, 2] (by decide) rfl
              exact W.zret (v := 0) hx hb hr rfl (fun t ht hW => ⟨⟨0, (ma_8, mw_9, nI hw_15k, mv_11, mf_12, nx_13, ml_14), rfl, Or.inr ⟨rfl, by omega, _, by rw [hI, mThs_step hi, if_neg (fun z => c_6 (z.2.trans hmo.symm)), hw_15a, zB_er, zB_er], rfl⟩, by rw [ht]; exact hP9, hD9, by rw [ht]; exact hzs⟩, hS.F ht⟩) hS.2.2 d_Md_things_74
        ·
          have c_6 : i = mo := (@nI_eq i mo (by omega) (by omega)).mp c_6
          refine lv_aload_n hx hb d_Md_things_49 rfl (lv_at hl 0 rfl) ?_
          refine lv_iconst (v := 3) hx hb d_Md_things_50 (by decide) ?_
          refine lv_aload_n hx hb d_Md_things_51 rfl (lv_at hl 0 rfl) ?_
          refine va_get (D := (dC, dI)) (ci := 4) (v := .int (nI (zK B en ma2))) (C := R_Md) (T := F_Md) (N := 12) hx hb hz i_Md hown hK hP 1 rfl rfl 7 (by decide) (hz _ tw_483) (fun _ h9 => h9) rfl d_Md_things_52 ?_
          have hPc := hP.sub (ws' := [(aM, .inr (4, [.int th, .ref aMT, .int (nI mu), .ref aNw, .ref aNx, .int mw, .int mwa, .int (nI (zK B en ma2)), .int (nI en), .long mv2, .int mf2, .int ml2]))]) [1] rfl
          have hDc := hD.sub (ws' := [(aM, .inr (4, [.int th, .ref aMT, .int (nI mu), .ref aNw, .ref aNx, .int mw, .int mwa, .int (nI (zK B en ma2)), .int (nI en), .long mv2, .int mf2, .int ml2]))]) [1] (by decide) rfl
          have hKc := hK.sub (tys' := []) [] rfl
          have hFc := va_free (wc := [(aM, .inr (4, [.int th, .ref aMT, .int (nI mu), .ref aNw, .ref aNx, .int mw, .int mwa, .int (nI (zK B en ma2)), .int (nI en), .long mv2, .int mf2, .int ml2]))]) hD hS hA [1] rfl
          refine va_calli (va_runV (As := [.int 3, .int (nI (zK B en ma2))]) (rest := []) ⟨hx, hb, hml, hown, hts⟩ (c_Md_fails l G dC dI H.size aM th aMT mu aNw aNx mw mwa (zK B en ma2) en mv2 mf2 ml2 3 (nI (zK B en ma2))) (cwV 2 hts (gV tw_549 tw_551 ts_23 tw_5 tw_552 rfl) rfl rfl rfl (by decide +kernel) ⟨Nat.le_of_ble_eq_true rfl, Nat.le_of_ble_eq_true rfl⟩) (PW_preV hPc hKc hDc hE hS hFc (ci := 4) (q0 := 0) rfl rfl) rfl rfl hl.1 rfl (lv_room (Nat.le_of_ble_eq_true rfl)) d_Md_things_55 ⟨Nat.le_of_ble_eq_true rfl, Nat.le_of_ble_eq_true rfl⟩) hS (fun q _ h => hFc q h) hFc (fun r_31 uu t H1 locs ht hvm hw_34 hB hz1 hk1 hS => ?_)
          obtain ⟨mw_32, mwa_33⟩ := uu
          obtain ⟨hP1, hD1, hsz1⟩ := hB
          rw [ht] at hP1 hsz1
          obtain ⟨hP, hD⟩ := va_join (wr := [(aNx, .inl (kNx, 52650, .inl nx2)), (aMT, .inl (kMT, 65536, .inl B))]) (w1 := [(aM, .inr (4, [.int th, .ref aMT, .int (nI mu), .ref aNw, .ref aNx, .int mw_32, .int mwa_33, .int (nI (zK B en ma2)), .int (nI en), .long mv2, .int mf2, .int ml2]))]) hP hD [1] [0, 2] rfl rfl (by decide) (by decide) hk1 hFc hP1 hD1
          generalize H1 = H at hP hS ⊢
          have hP : va_P (dC, dI) vwCl [(aNx, .inl (kNx, 52650, .inl nx2)), (aMT, .inl (kMT, 65536, .inl B)), (aM, .inr (4, [.int th, .ref aMT, .int (nI mu), .ref aNw, .ref aNx, .int mw_32, .int mwa_33, .int (nI (zK B en ma2)), .int (nI en), .long mv2, .int mf2, .int ml2]))] H := hP
          have hD : va_D A [(aNx, .inl (kNx, 52650, .inl nx2)), (aMT, .inl (kMT, 65536, .inl B)), (aM, .inr (4, [.int th, .ref aMT, .int (nI mu), .ref aNw, .ref aNx, .int mw_32, .int mwa_33, .int (nI (zK B en ma2)), .int (nI en), .long mv2, .int mf2, .int ml2]))] := hD
          obtain ⟨e0, e1, e2⟩ := hw_34
          subst e0
          have e1 := e1.symm; subst e1
          have e2 := e2.symm; subst e2
          refine zt_size (fun hzs => ?_)
          have hP9 := hP.sub (ws' := [(aM, .inr (4, [.int th, .ref aMT, .int (nI mu), .ref aNw, .ref aNx, .int 3, .int (nI (zK B en ma2)), .int (nI (zK B en ma2)), .int (nI en), .long mv2, .int mf2, .int ml2])), (aMT, .inl (kMT, 65536, .inl B)), (aNx, .inl (kNx, 52650, .inl nx2))]) [2, 1, 0] rfl
          have hD9 := hD.sub (ws' := [(aM, .inr (4, [.int th, .ref aMT, .int (nI mu), .ref aNw, .ref aNx, .int 3, .int (nI (zK B en ma2)), .int (nI (zK B en ma2)), .int (nI en), .long mv2, .int mf2, .int ml2])), (aMT, .inl (kMT, 65536, .inl B)), (aNx, .inl (kNx, 52650, .inl nx2))]) [2, 1, 0] (by decide) rfl
          exact W.zret (v := 0) hx hb hr rfl (fun t ht hW => ⟨⟨0, (zK B en ma2, 3, nI (zK B en ma2), mv2, mf2, nx2, ml2), rfl, Or.inr ⟨rfl, by omega, _, by rw [hI, mThs_step hi, if_pos ⟨hs_4, c_6.trans hmo⟩, zB_er], rfl⟩, by rw [ht]; exact hP9, hD9, by rw [ht]; exact hzs⟩, hS.F ht⟩) hS.2.2 d_Md_things_58
    ·
      rw [if_neg hs_4] at e2; subst e2
      refine lv_if_eq (tgt := 59) hx hb d_Md_things_36 (by decide) (fun c_35 => ?_) (fun c_35 => ?_)
      ·
        refine lv_aload_n hx hb d_Md_things_59 rfl (lv_at hl 0 rfl) ?_
        refine lv_iload_n hx hb d_Md_things_60 rfl (lv_at hl 1 rfl) ?_
        refine lv_aload_n hx hb d_Md_things_61 rfl (lv_at hl 0 rfl) ?_
        refine va_get (D := (dC, dI)) (ci := 4) (v := .ref aNx) (C := R_Md) (T := F_Md) (N := 12) hx hb hz i_Md hown hK hP 1 rfl rfl 4 (by decide) (hz _ tw_480) (fun _ h9 => h9) rfl d_Md_things_62 ?_
        refine lv_iload_n hx hb d_Md_things_65 rfl (lv_at hl 1 rfl) ?_
        refine va_iald (D := (dC, dI)) (i := nI ka) hx hb hK hP 0 1 rfl rfl (vp_in_nI (by omega) (by decide)) d_Md_things_66 ?_
        refine zt_top (by rw [nI_clamp (by omega)]) ?_
        refine zt_top (y := nI i) (by rw [hc2 ka hka, zuN_s]) ?_
        have hPc := hP.sub (ws' := [(aM, .inr (4, [.int th, .ref aMT, .int (nI mu), .ref aNw, .ref aNx, .int mw, .int mwa, .int (nI (zK B en ma2)), .int (nI en), .long mv2, .int mf2, .int ml2])), (aMT, .inl (kMT, 65536, .inl B)), (aNx, .inl (kNx, 52650, .inl nx2))]) [1, 2, 0] rfl
        have hDc := hD.sub (ws' := [(aM, .inr (4, [.int th, .ref aMT, .int (nI mu), .ref aNw, .ref aNx, .int mw, .int mwa, .int (nI (zK B en ma2)), .int (nI en), .long mv2, .int mf2, .int ml2])), (aMT, .inl (kMT, 65536, .inl B)), (aNx, .inl (kNx, 52650, .inl nx2))]) [1, 2, 0] (by decide) rfl
        have hKc := hK.sub (tys' := [(kMT, .byte), (kNx, .int)]) [0, 1] rfl
        have hFc := va_free (wc := [(aM, .inr (4, [.int th, .ref aMT, .int (nI mu), .ref aNw, .ref aNx, .int mw, .int mwa, .int (nI (zK B en ma2)), .int (nI en), .long mv2, .int mf2, .int ml2])), (aMT, .inl (kMT, 65536, .inl B)), (aNx, .inl (kNx, 52650, .inl nx2))]) hD hS hA [1, 2, 0] rfl
        refine va_calli (va_runV (As := [.int (nI ka), .int (nI i)]) (rest := []) ⟨hx, hb, hml, hown, hts⟩ (c_Md_thing l G dC dI H.size aM th aMT mu aNw aNx mw mwa (zK B en ma2) en mv2 mf2 ml2 kMT B kNx nx2 (zuN cnt ka i) ka i (by omega) (by omega) (by omega) hi (fun _ => by rw [zK_idem]; exact hs_4) hc2 (zuN_le hi hcm)) (cwV 2 hts (gV tw_630 tw_632 ts_37 tw_5 tw_633 rfl) rfl rfl rfl (by decide +kernel) ⟨Nat.le_of_ble_eq_true rfl, Nat.le_of_ble_eq_true rfl⟩) (PW_preV hPc hKc hDc hE hS hFc (ci := 4) (q0 := 0) rfl rfl) rfl rfl hl.1 rfl (lv_room (Nat.le_of_ble_eq_true rfl)) d_Md_things_67 ⟨Nat.le_of_ble_eq_true rfl, Nat.le_of_ble_eq_true rfl⟩) hS (fun q _ h => hFc q h) hFc (fun r_36 uu t H1 locs ht hvm hw_44 hB hz1 hk1 hS => ?_)
        obtain ⟨ma_37, mw_38, mwa_39, mv_40, mf_41, nx_42, ml_43⟩ := uu
        obtain ⟨hP1, hD1, hsz1⟩ := hB
        rw [ht] at hP1 hsz1
        obtain ⟨hP, hD⟩ := va_join (wr := []) (w1 := [(aM, .inr (4, [.int th, .ref aMT, .int (nI mu), .ref aNw, .ref aNx, .int mw_38, .int mwa_39, .int (nI ma_37), .int (nI en), .long mv_40, .int mf_41, .int ml_43])), (aMT, .inl (kMT, 65536, .inl B)), (aNx, .inl (kNx, 52650, .inl nx_42))]) hP hD [1, 2, 0] [] rfl rfl (by decide) (by decide) hk1 hFc hP1 hD1
        generalize H1 = H at hP hS ⊢
        have hP : va_P (dC, dI) vwCl [(aM, .inr (4, [.int th, .ref aMT, .int (nI mu), .ref aNw, .ref aNx, .int mw_38, .int mwa_39, .int (nI ma_37), .int (nI en), .long mv_40, .int mf_41, .int ml_43])), (aMT, .inl (kMT, 65536, .inl B)), (aNx, .inl (kNx, 52650, .inl nx_42))] H := hP
        have hD : va_D A [(aM, .inr (4, [.int th, .ref aMT, .int (nI mu), .ref aNw, .ref aNx, .int mw_38, .int mwa_39, .int (nI ma_37), .int (nI en), .long mv_40, .int mf_41, .int ml_43])), (aMT, .inl (kMT, 65536, .inl B)), (aNx, .inl (kNx, 52650, .inl nx_42))] := hD
        simp only [zK_idem] at hw_44
        rcases hw_44 with ⟨rfl, hw_44b, e1, e2, hw_44a⟩ | ⟨rfl, hw_44b, hw_44k, hw_44a, e2⟩
        ·
          have e1 := e1.symm; subst e1
          have e2 := e2.symm; subst e2
          have hlt : i < zM ka := absurd (mThing_b hw_44a) hs_4
          refine lv_if_ne (tgt := 75) hx hb d_Md_things_70 (by decide) (fun c_45 => ?_) (fun c_45 => ?_)
          ·
            refine lv_aload_n hx hb d_Md_things_75 rfl (lv_at hl 0 rfl) ?_
            refine va_get (D := (dC, dI)) (ci := 4) (v := .ref aNx) (C := R_Md) (T := F_Md) (N := 12) hx hb hz i_Md hown hK hP 0 rfl rfl 4 (by decide) (hz _ tw_480) (fun _ h9 => h9) rfl d_Md_things_76 ?_
            refine lv_iload_n hx hb d_Md_things_79 rfl (lv_at hl 1 rfl) ?_
            refine lv_dup2_11 hx hb d_Md_things_80 rfl rfl ?_
            refine va_iald (D := (dC, dI)) (i := nI ka) hx hb hK hP 2 1 rfl rfl (vp_in_nI (by omega) (by decide)) d_Md_things_81 ?_
            refine zt_top (by rw [nI_clamp (by omega)]) ?_
            refine zt_top (y := nI i) (by rw [mThing_lo hka hw_44a ka (by omega), hc2 ka hka, zuN_s]) ?_
            refine lv_iconst (v := 1) hx hb d_Md_things_82 (by decide) ?_
            refine lv_iadd hx hb d_Md_things_83 ?_
            refine zt_top (nI_add i 1) ?_
            refine va_iast (D := (dC, dI)) (i := nI ka) (x := nI (i + 1)) hx hb hK hP hD hS 2 1 rfl rfl (vp_in_nI (by omega) (by decide)) d_Md_things_84 (fun H locs hP hD hS => ?_)
            rw [nI_clamp (by omega)] at hP hD
            have hP : va_P (dC, dI) vwCl [(aM, .inr (4, [.int th, .ref aMT, .int (nI mu), .ref aNw, .ref aNx, .int mw, .int mwa, .int (nI ma_37), .int (nI en), .long mv_40, .int mf_41, .int ml_43])), (aMT, .inl (kMT, 65536, .inl B)), (aNx, .inl (kNx, 52650, .inl (upd nx_42 ka (nI (i + 1)))))] H := hP
            have hD : va_D A [(aM, .inr (4, [.int th, .ref aMT, .int (nI mu), .ref aNw, .ref aNx, .int mw, .int mwa, .int (nI ma_37), .int (nI en), .long mv_40, .int mf_41, .int ml_43])), (aMT, .inl (kMT, 65536, .inl B)), (aNx, .inl (kNx, 52650, .inl (upd nx_42 ka (nI (i + 1)))))] := hD
            refine lv_aload_n hx hb d_Md_things_85 rfl (lv_at hl 0 rfl) ?_
            refine lv_bipush (v := 44) hx hb d_Md_things_86 (by decide) ?_
            have hPc := hP.sub (ws' := [(aM, .inr (4, [.int th, .ref aMT, .int (nI mu), .ref aNw, .ref aNx, .int mw, .int mwa, .int (nI ma_37), .int (nI en), .long mv_40, .int mf_41, .int ml_43])), (aMT, .inl (kMT, 65536, .inl B))]) [0, 1] rfl
            have hDc := hD.sub (ws' := [(aM, .inr (4, [.int th, .ref aMT, .int (nI mu), .ref aNw, .ref aNx, .int mw, .int mwa, .int (nI ma_37), .int (nI en), .long mv_40, .int mf_41, .int ml_43])), (aMT, .inl (kMT, 65536, .inl B))]) [0, 1] (by decide) rfl
            have hKc := hK.sub (tys' := [(kMT, .byte)]) [0] rfl
            have hFc := va_free (wc := [(aM, .inr (4, [.int th, .ref aMT, .int (nI mu), .ref aNw, .ref aNx, .int mw, .int mwa, .int (nI ma_37), .int (nI en), .long mv_40, .int mf_41, .int ml_43])), (aMT, .inl (kMT, 65536, .inl B))]) hD hS hA [0, 1] rfl
            refine va_calli (va_runV (As := [.int 44]) (rest := []) ⟨hx, hb, hml, hown, hts⟩ (c_Md_comes l G dC dI H.size aM th aMT mu aNw aNx mw mwa ma_37 en mv_40 mf_41 ml_43 kMT B 44 (by omega) (by omega)) (cwV 1 hts (gV tw_541 tw_543 ts_21 tw_5 tw_544 rfl) rfl rfl rfl (by decide +kernel) ⟨Nat.le_of_ble_eq_true rfl, Nat.le_of_ble_eq_true rfl⟩) (PW_preV hPc hKc hDc hE hS hFc (ci := 4) (q0 := 0) rfl rfl) rfl rfl hl.1 rfl (lv_room (Nat.le_of_ble_eq_true rfl)) d_Md_things_88 ⟨Nat.le_of_ble_eq_true rfl, Nat.le_of_ble_eq_true rfl⟩) hS (fun q _ h => hFc q h) hFc (fun r_46 uu t H1 locs ht hvm hw_48 hB hz1 hk1 hS => ?_)
            obtain ⟨ma_47, rfl⟩ : ∃ z, z = uu := ⟨_, rfl⟩
            obtain ⟨hP1, hD1, hsz1⟩ := hB
            rw [ht] at hP1 hsz1
            obtain ⟨hP, hD⟩ := va_join (wr := [(aNx, .inl (kNx, 52650, .inl (upd nx_42 ka (nI (i + 1)))))]) (w1 := [(aM, .inr (4, [.int th, .ref aMT, .int (nI mu), .ref aNw, .ref aNx, .int mw, .int mwa, .int (nI ma_47), .int (nI en), .long mv_40, .int mf_41, .int ml_43])), (aMT, .inl (kMT, 65536, .inl B))]) hP hD [0, 1] [2] rfl rfl (by decide) (by decide) hk1 hFc hP1 hD1
            generalize H1 = H at hP hS ⊢
            have hP : va_P (dC, dI) vwCl [(aNx, .inl (kNx, 52650, .inl (upd nx_42 ka (nI (i + 1))))), (aM, .inr (4, [.int th, .ref aMT, .int (nI mu), .ref aNw, .ref aNx, .int mw, .int mwa, .int (nI ma_47), .int (nI en), .long mv_40, .int mf_41, .int ml_43])), (aMT, .inl (kMT, 65536, .inl B))] H := hP
            have hD : va_D A [(aNx, .inl (kNx, 52650, .inl (upd nx_42 ka (nI (i + 1))))), (aM, .inr (4, [.int th, .ref aMT, .int (nI mu), .ref aNw, .ref aNx, .int mw, .int mwa, .int (nI ma_47), .int (nI en), .long mv_40, .int mf_41, .int ml_43])), (aMT, .inl (kMT, 65536, .inl B))] := hD
            have hw_48i := zK_le (B := B) (en := en) (i := ma_37) (by omega)
            obtain ⟨e1, e2⟩ := hw_48
            have e1 := e1.symm; subst e1
            by_cases hs_49 : zK B en ma_37 < en ∧ B (zK B en ma_37) = 44
            ·
              rw [if_pos hs_49] at e2; subst e2
              refine lv_istore_n (lv' := [(3, .int 1), (0, .ref aM), (1, .int (nI ka)), (2, .int (nI mo))]) hx hb d_Md_things_91 rfl hl (by decide) rfl (fun ls hl => ?_)
              refine lv_aload_n hx hb d_Md_things_92 rfl (lv_at hl 1 rfl) ?_
              refine lv_iload_n hx hb d_Md_things_93 rfl (lv_at hl 0 rfl) ?_
              refine lv_if_eq (tgt := 106) hx hb d_Md_things_94 (by decide) (fun c_50 => ?_) (fun c_50 => ?_)
              ·
                exact absurd c_50 (by decide)
              ·
                refine lv_aload_n hx hb d_Md_things_97 rfl (lv_at hl 1 rfl) ?_
                refine va_get (D := (dC, dI)) (ci := 4) (v := .int (nI (zK B en ma_37))) (C := R_Md) (T := F_Md) (N := 12) hx hb hz i_Md hown hK hP 1 rfl rfl 7 (by decide) (hz _ tw_483) (fun _ h9 => h9) rfl d_Md_things_98 ?_
                refine lv_iconst (v := 1) hx hb d_Md_things_101 (by decide) ?_
                refine lv_iadd hx hb d_Md_things_102 ?_
                refine zt_top (nI_add (zK B en ma_37) 1) ?_
                refine lv_goto (tgt := 110) hx hb d_Md_things_103 (by decide) ?_
                refine va_put (D := (dC, dI)) (ci := 4) (v := .int (nI ((zK B en ma_37) + 1))) (ty := .int) (C := R_Md) (T := F_Md) (N := 12) hx hb hz i_Md t_Md t_Md_ok n_Md hown hK hP hD hS 1 rfl rfl 7 (by decide) (hz _ tw_483) (fun _ h9 => h9) rfl (by decide +kernel) rfl rfl (Nat.le_of_ble_eq_true rfl) d_Md_things_110 (fun H locs hP hD hS => ?_)
                have hP : va_P (dC, dI) vwCl [(aNx, .inl (kNx, 52650, .inl (upd nx_42 ka (nI (i + 1))))), (aM, .inr (4, [.int th, .ref aMT, .int (nI mu), .ref aNw, .ref aNx, .int mw, .int mwa, .int (nI ((zK B en ma_37) + 1)), .int (nI en), .long mv_40, .int mf_41, .int ml_43])), (aMT, .inl (kMT, 65536, .inl B))] H := hP
                have hD : va_D A [(aNx, .inl (kNx, 52650, .inl (upd nx_42 ka (nI (i + 1))))), (aM, .inr (4, [.int th, .ref aMT, .int (nI mu), .ref aNw, .ref aNx, .int mw, .int mwa, .int (nI ((zK B en ma_37) + 1)), .int (nI en), .long mv_40, .int mf_41, .int ml_43])), (aMT, .inl (kMT, 65536, .inl B))] := hD
                refine lv_goto (tgt := 26) hx hb d_Md_things_113 (by decide) ?_
                refine lv_iload_n hx hb d_Md_things_26 rfl (lv_at hl 0 rfl) ?_
                refine lv_if_eq (tgt := 116) hx hb d_Md_things_27 (by decide) (fun c_51 => ?_) (fun c_51 => ?_)
                ·
                  exact absurd c_51 (by decide)
                ·
                  exact ih (i + 1) ((zK B en ma_37) + 1) mv_40 mf_41 ml_43 (upd nx_42 ka (nI (i + 1))) (by omega) (by omega) (by omega) (zcn_step hc2 (mThing_lo hka hw_44a)) (by rw [hI, mThs_step hi, if_neg (fun z => hs_4 z.1), hw_44a, zB_ok, if_pos hs_49]) _ _ (hP.sub [1, 2, 0] rfl) (hD.sub [1, 2, 0] (by decide) rfl) hS ls (lv_sub hl [1, 2, 3] rfl)
            ·
              rw [if_neg hs_49] at e2; subst e2
              refine lv_istore_n (lv' := [(3, .int 0), (0, .ref aM), (1, .int (nI ka)), (2, .int (nI mo))]) hx hb d_Md_things_91 rfl hl (by decide) rfl (fun ls hl => ?_)
              refine lv_aload_n hx hb d_Md_things_92 rfl (lv_at hl 1 rfl) ?_
              refine lv_iload_n hx hb d_Md_things_93 rfl (lv_at hl 0 rfl) ?_
              refine lv_if_eq (tgt := 106) hx hb d_Md_things_94 (by decide) (fun c_52 => ?_) (fun c_52 => ?_)
              ·
                refine lv_aload_n hx hb d_Md_things_106 rfl (lv_at hl 1 rfl) ?_
                refine va_get (D := (dC, dI)) (ci := 4) (v := .int (nI (zK B en ma_37))) (C := R_Md) (T := F_Md) (N := 12) hx hb hz i_Md hown hK hP 1 rfl rfl 7 (by decide) (hz _ tw_483) (fun _ h9 => h9) rfl d_Md_things_107 ?_
                refine va_put (D := (dC, dI)) (ci := 4) (v := .int (nI (zK B en ma_37))) (ty := .int) (C := R_Md) (T := F_Md) (N := 12) hx hb hz i_Md t_Md t_Md_ok n_Md hown hK hP hD hS 1 rfl rfl 7 (by decide) (hz _ tw_483) (fun _ h9 => h9) rfl (by decide +kernel) rfl rfl (Nat.le_of_ble_eq_true rfl) d_Md_things_110 (fun H locs hP hD hS => ?_)
                have hP : va_P (dC, dI) vwCl [(aNx, .inl (kNx, 52650, .inl (upd nx_42 ka (nI (i + 1))))), (aM, .inr (4, [.int th, .ref aMT, .int (nI mu), .ref aNw, .ref aNx, .int mw, .int mwa, .int (nI (zK B en ma_37)), .int (nI en), .long mv_40, .int mf_41, .int ml_43])), (aMT, .inl (kMT, 65536, .inl B))] H := hP
                have hD : va_D A [(aNx, .inl (kNx, 52650, .inl (upd nx_42 ka (nI (i + 1))))), (aM, .inr (4, [.int th, .ref aMT, .int (nI mu), .ref aNw, .ref aNx, .int mw, .int mwa, .int (nI (zK B en ma_37)), .int (nI en), .long mv_40, .int mf_41, .int ml_43])), (aMT, .inl (kMT, 65536, .inl B))] := hD
                refine lv_goto (tgt := 26) hx hb d_Md_things_113 (by decide) ?_
                refine lv_iload_n hx hb d_Md_things_26 rfl (lv_at hl 0 rfl) ?_
                refine lv_if_eq (tgt := 116) hx hb d_Md_things_27 (by decide) (fun c_53 => ?_) (fun c_53 => ?_)
                ·
                  refine lv_aload_n hx hb d_Md_things_116 rfl (lv_at hl 1 rfl) ?_
                  refine lv_bipush (v := 93) hx hb d_Md_things_117 (by decide) ?_
                  have hPc := hP.sub (ws' := [(aM, .inr (4, [.int th, .ref aMT, .int (nI mu), .ref aNw, .ref aNx, .int mw, .int mwa, .int (nI (zK B en ma_37)), .int (nI en), .long mv_40, .int mf_41, .int ml_43])), (aMT, .inl (kMT, 65536, .inl B))]) [1, 2] rfl
                  have hDc := hD.sub (ws' := [(aM, .inr (4, [.int th, .ref aMT, .int (nI mu), .ref aNw, .ref aNx, .int mw, .int mwa, .int (nI (zK B en ma_37)), .int (nI en), .long mv_40, .int mf_41, .int ml_43])), (aMT, .inl (kMT, 65536, .inl B))]) [1, 2] (by decide) rfl
                  have hKc := hK.sub (tys' := [(kMT, .byte)]) [0] rfl
                  have hFc := va_free (wc := [(aM, .inr (4, [.int th, .ref aMT, .int (nI mu), .ref aNw, .ref aNx, .int mw, .int mwa, .int (nI (zK B en ma_37)), .int (nI en), .long mv_40, .int mf_41, .int ml_43])), (aMT, .inl (kMT, 65536, .inl B))]) hD hS hA [1, 2] rfl
                  refine va_calli (va_runV (As := [.int 93]) (rest := []) ⟨hx, hb, hml, hown, hts⟩ (c_Md_sign l G dC dI H.size aM th aMT mu aNw aNx mw mwa (zK B en ma_37) en mv_40 mf_41 ml_43 kMT B 93 (by omega) (by omega)) (cwV 1 hts (gV tw_537 tw_539 ts_20 tw_5 tw_540 rfl) rfl rfl rfl (by decide +kernel) ⟨Nat.le_of_ble_eq_true rfl, Nat.le_of_ble_eq_true rfl⟩) (PW_preV hPc hKc hDc hE hS hFc (ci := 4) (q0 := 0) rfl rfl) rfl rfl hl.1 rfl (lv_room (Nat.le_of_ble_eq_true rfl)) d_Md_things_119 ⟨Nat.le_of_ble_eq_true rfl, Nat.le_of_ble_eq_true rfl⟩) hS (fun q _ h => hFc q h) hFc (fun r_54 uu t H1 locs ht hvm hw_58 hB hz1 hk1 hS => ?_)
                  obtain ⟨ma_55, mw_56, mwa_57⟩ := uu
                  obtain ⟨hP1, hD1, hsz1⟩ := hB
                  rw [ht] at hP1 hsz1
                  obtain ⟨hP, hD⟩ := va_join (wr := [(aNx, .inl (kNx, 52650, .inl (upd nx_42 ka (nI (i + 1)))))]) (w1 := [(aM, .inr (4, [.int th, .ref aMT, .int (nI mu), .ref aNw, .ref aNx, .int mw_56, .int mwa_57, .int (nI ma_55), .int (nI en), .long mv_40, .int mf_41, .int ml_43])), (aMT, .inl (kMT, 65536, .inl B))]) hP hD [1, 2] [0] rfl rfl (by decide) (by decide) hk1 hFc hP1 hD1
                  generalize H1 = H at hP hS ⊢
                  have hP : va_P (dC, dI) vwCl [(aNx, .inl (kNx, 52650, .inl (upd nx_42 ka (nI (i + 1))))), (aM, .inr (4, [.int th, .ref aMT, .int (nI mu), .ref aNw, .ref aNx, .int mw_56, .int mwa_57, .int (nI ma_55), .int (nI en), .long mv_40, .int mf_41, .int ml_43])), (aMT, .inl (kMT, 65536, .inl B))] H := hP
                  have hD : va_D A [(aNx, .inl (kNx, 52650, .inl (upd nx_42 ka (nI (i + 1))))), (aM, .inr (4, [.int th, .ref aMT, .int (nI mu), .ref aNw, .ref aNx, .int mw_56, .int mwa_57, .int (nI ma_55), .int (nI en), .long mv_40, .int mf_41, .int ml_43])), (aMT, .inl (kMT, 65536, .inl B))] := hD
                  simp only [zK_idem] at hw_58
                  rcases hw_58 with ⟨rfl, hw_58a, hw_58b, e1, e2⟩ | ⟨rfl, hw_58b, hw_58k, hw_58a, e2⟩
                  ·
                    have e1 := e1.symm; subst e1
                    have e2 := e2.symm; subst e2
                    refine zt_size (fun hzs => ?_)
                    have hP9 := hP.sub (ws' := [(aM, .inr (4, [.int th, .ref aMT, .int (nI mu), .ref aNw, .ref aNx, .int mw, .int mwa, .int (nI ma_55), .int (nI en), .long mv_40, .int mf_41, .int ml_43])), (aMT, .inl (kMT, 65536, .inl B)), (aNx, .inl (kNx, 52650, .inl (upd nx_42 ka (nI (i + 1)))))]) [1, 2, 0] rfl
                    have hD9 := hD.sub (ws' := [(aM, .inr (4, [.int th, .ref aMT, .int (nI mu), .ref aNw, .ref aNx, .int mw, .int mwa, .int (nI ma_55), .int (nI en), .long mv_40, .int mf_41, .int ml_43])), (aMT, .inl (kMT, 65536, .inl B)), (aNx, .inl (kNx, 52650, .inl (upd nx_42 ka (nI (i + 1)))))]) [1, 2, 0] (by decide) rfl
                    exact W.zret (v := 1) hx hb hr rfl (fun t ht hW => ⟨⟨1, (ma_55, mw, mwa, mv_40, mf_41, upd nx_42 ka (nI (i + 1)), ml_43), rfl, Or.inl ⟨rfl, by omega, rfl, rfl, i + 1, by rw [hI, mThs_step hi, if_neg (fun z => hs_4 z.1), hw_44a, zB_ok, if_neg hs_49]; simp only [zEnd, zB_ok, zB_er, hw_58a], by omega, zcn_step hc2 (mThing_lo hka hw_44a)⟩, by rw [ht]; exact hP9, hD9, by rw [ht]; exact hzs⟩, hS.F ht⟩) hS.2.2 d_Md_things_122
                  ·
                    have e2 := e2.symm; subst e2
                    refine zt_size (fun hzs => ?_)
                    have hP9 := hP.sub (ws' := [(aM, .inr (4, [.int th, .ref aMT, .int (nI mu), .ref aNw, .ref aNx, .int mw_56, .int (nI hw_58k), .int (nI ma_55), .int (nI en), .long mv_40, .int mf_41, .int ml_43])), (aMT, .inl (kMT, 65536, .inl B)), (aNx, .inl (kNx, 52650, .inl (upd nx_42 ka (nI (i + 1)))))]) [1, 2, 0] rfl
                    have hD9 := hD.sub (ws' := [(aM, .inr (4, [.int th, .ref aMT, .int (nI mu), .ref aNw, .ref aNx, .int mw_56, .int (nI hw_58k), .int (nI ma_55), .int (nI en), .long mv_40, .int mf_41, .int ml_43])), (aMT, .inl (kMT, 65536, .inl B)), (aNx, .inl (kNx, 52650, .inl (upd nx_42 ka (nI (i + 1)))))]) [1, 2, 0] (by decide) rfl
                    exact W.zret (v := 0) hx hb hr rfl (fun t ht hW => ⟨⟨0, (ma_55, mw_56, nI hw_58k, mv_40, mf_41, upd nx_42 ka (nI (i + 1)), ml_43), rfl, Or.inr ⟨rfl, by omega, _, by rw [hI, mThs_step hi, if_neg (fun z => hs_4 z.1), hw_44a, zB_ok, if_neg hs_49]; simp only [zEnd, zB_ok, zB_er, hw_58a], rfl⟩, by rw [ht]; exact hP9, hD9, by rw [ht]; exact hzs⟩, hS.F ht⟩) hS.2.2 d_Md_things_122
                ·
                  exact absurd (by decide) c_53
              ·
                exact absurd (by decide) c_52
          ·
            exact absurd c_45 (by decide)
        ·
          have e2 := e2.symm; subst e2
          refine lv_if_ne (tgt := 75) hx hb d_Md_things_70 (by decide) (fun c_59 => ?_) (fun c_59 => ?_)
          ·
            exact absurd (by decide) c_59
          ·
            refine lv_iconst (v := 0) hx hb d_Md_things_73 (by decide) ?_
            refine zt_size (fun hzs => ?_)
            have hP9 := hP.sub (ws' := [(aM, .inr (4, [.int th, .ref aMT, .int (nI mu), .ref aNw, .ref aNx, .int mw_38, .int (nI hw_44k), .int (nI ma_37), .int (nI en), .long mv_40, .int mf_41, .int ml_43])), (aMT, .inl (kMT, 65536, .inl B)), (aNx, .inl (kNx, 52650, .inl nx_42))]) [0, 1, 2] rfl
            have hD9 := hD.sub (ws' := [(aM, .inr (4, [.int th, .ref aMT, .int (nI mu), .ref aNw, .ref aNx, .int mw_38, .int (nI hw_44k), .int (nI ma_37), .int (nI en), .long mv_40, .int mf_41, .int ml_43])), (aMT, .inl (kMT, 65536, .inl B)), (aNx, .inl (kNx, 52650, .inl nx_42))]) [0, 1, 2] (by decide) rfl
            exact W.zret (v := 0) hx hb hr rfl (fun t ht hW => ⟨⟨0, (ma_37, mw_38, nI hw_44k, mv_40, mf_41, nx_42, ml_43), rfl, Or.inr ⟨rfl, by omega, _, by rw [hI, mThs_step hi, if_neg (fun z => hs_4 z.1), hw_44a, zB_er, zB_er], rfl⟩, by rw [ht]; exact hP9, hD9, by rw [ht]; exact hzs⟩, hS.F ht⟩) hS.2.2 d_Md_things_74
      ·
        exact absurd (by decide) c_35
set_option maxHeartbeats 4000000 in
set_option maxRecDepth 100000 in
theorem c_Md_things (l : Launch) (G : ZG) (dC : Nat → ClassId) (dI : Nat → Nat → Nat) (sz : Nat) (aM : Nat) (th : Int32) (aMT : Nat) (mu : Nat) (aNw : Nat) (aNx : Nat) (mw : Int32) (mwa : Int32) (ma : Nat) (en : Nat) (mv : Int64) (mf : Int32) (ml : Int32) (kMT : ClassId) (B : Nat → Int32) (kNx : ClassId) (nx : Nat → Int32) (cnt : Nat → Nat) (ka : Nat) (mo : Nat) (hen : en ≤ 65536) (hma : ma ≤ en) (hka : ka < 5) (hmo : mo = zM ka) (h0c : cnt ka = 0) (hcn : ∀ j, j < 5 → nx j = nI (cnt j)) (hcm : ∀ j, j < 5 → cnt j ≤ zM j) : Met l y_Md_things w_Md_things ({ frames := 8, cells := 0, slots := 0, locals := 184 }) (va_Pc [.ref aM, .int (nI ka), .int (nI mo)] (PW G (dC, dI) [(kMT, .byte), (kNx, .int)] [(aM, .inr (4, [.int th, .ref aMT, .int (nI mu), .ref aNw, .ref aNx, .int mw, .int mwa, .int (nI ma), .int (nI en), .long mv, .int mf, .int ml])), (aMT, .inl (kMT, 65536, .inl B)), (aNx, .inl (kNx, 52650, .inl nx))] sz)) (va_Qi (fun (r : Int32) (uu : Nat × Int32 × Int32 × Int64 × Int32 × (Nat → Int32) × Int32) => (r = 1 ∧ uu.1 ≤ en ∧ uu.2.1 = mw ∧ uu.2.2.1 = mwa ∧ ∃ n, mThings B en ka cnt (zK B en ma, nx) = .ok (n, zK B en uu.1, uu.2.2.2.2.2.1) ∧ n ≤ zM ka ∧ ∀ j, j < 5 → uu.2.2.2.2.2.1 j = nI (zuN cnt ka n j)) ∨ (r = 0 ∧ uu.1 ≤ en ∧ ∃ k, mThings B en ka cnt (zK B en ma, nx) = .error (uu.2.1, k) ∧ uu.2.2.1 = nI k)) (fun (uu : Nat × Int32 × Int32 × Int64 × Int32 × (Nat → Int32) × Int32) t => BW (dC, dI) [(aM, .inr (4, [.int th, .ref aMT, .int (nI mu), .ref aNw, .ref aNx, .int uu.2.1, .int uu.2.2.1, .int (nI uu.1), .int (nI en), .long uu.2.2.2.1, .int uu.2.2.2.2.1, .int uu.2.2.2.2.2.2])), (aMT, .inl (kMT, 65536, .inl B)), (aNx, .inl (kNx, 52650, .inl uu.2.2.2.2.2.1))] (va_A [(aM, .inr (4, [.int th, .ref aMT, .int (nI mu), .ref aNw, .ref aNx, .int mw, .int mwa, .int (nI ma), .int (nI en), .long mv, .int mf, .int ml])), (aMT, .inl (kMT, 65536, .inl B)), (aNx, .inl (kNx, 52650, .inl nx))] sz) sz t) (va_A [(aM, .inr (4, [.int th, .ref aMT, .int (nI mu), .ref aNw, .ref aNx, .int mw, .int mwa, .int (nI ma), .int (nI en), .long mv, .int mf, .int ml])), (aMT, .inl (kMT, 65536, .inl B)), (aNx, .inl (kNx, 52650, .inl nx))] sz)) 0 0 (va_A [(aM, .inr (4, [.int th, .ref aMT, .int (nI mu), .ref aNw, .ref aNx, .int mw, .int mwa, .int (nI ma), .int (nI en), .long mv, .int mf, .int ml])), (aMT, .inl (kMT, 65536, .inl B)), (aNx, .inl (kNx, 52650, .inl nx))] sz) := by
  refine Met.ofW (cc := prog_6_method_26_code) (maxL := 4) (ret := (some .boolean)) (by decide) rfl ?_
  intro p e s m args below meth c s₁ Bd hml hv
  obtain ⟨rfl, hsz, hP, hK, hD0, hE⟩ := hv
  have hx := Bd.exec
  have hb := Bd.bytes
  have hr := Bd.returns
  have hts := atoms_spec (ws := w_Md_things) Bd.pre
  have hown : s.vm.findClass R_Md = some m.cls := findClass_of_methodNamed Bd.named
  have hlocks := Bd.notSynchronized
  have hz : ∀ w ∈ ZW, w.before _ s = true := fun w h => hts w (List.mem_cons_of_mem _ h)
  subst hsz
  have hD := hD0.self (sz := s.heap.size)
  generalize hAe : va_A [(aM, .inr (4, [.int th, .ref aMT, .int (nI mu), .ref aNw, .ref aNx, .int mw, .int mwa, .int (nI ma), .int (nI en), .long mv, .int mf, .int ml])), (aMT, .inl (kMT, 65536, .inl B)), (aNx, .inl (kNx, 52650, .inl nx))] s.heap.size = A at hD hE ⊢
  have hA : ∀ q : Nat, s.heap.size ≤ q → A q := fun q h => by rw [← hAe]; exact Or.inr h
  have hS : va_S A s.heap s.heap [] := va_S.rf
  have hl := lv_entry ([.ref aM, .int (nI ka), .int (nI mo)]) (n := 4) (Nat.le_of_ble_eq_true rfl)
  rw [lg_entry_eq]
  generalize (lg_sl ([.ref aM, .int (nI ka), .int (nI mo)]) ++ List.replicate (4 - (lg_sl ([.ref aM, .int (nI ka), .int (nI mo)])).length) Slot.unset).toArray = ls at hl ⊢
  have hl : lv_has ls 4 [(0, .ref aM), (1, .int (nI ka)), (2, .int (nI mo))] := hl
  obtain ⟨H, hH⟩ : ∃ z, z = s.heap := ⟨_, rfl⟩
  have hP : va_P (dC, dI) vwCl [(aM, .inr (4, [.int th, .ref aMT, .int (nI mu), .ref aNw, .ref aNx, .int mw, .int mwa, .int (nI ma), .int (nI en), .long mv, .int mf, .int ml])), (aMT, .inl (kMT, 65536, .inl B)), (aNx, .inl (kNx, 52650, .inl nx))] H := by rw [hH]; exact hP
  have hS : va_S A s.heap H [] := by rw [hH]; exact hS
  refine zt_heap hH ?_
  have hmz := zM_le ka
  refine lv_aload_n hx hb d_Md_things_0 rfl (lv_at hl 0 rfl) ?_
  refine lv_bipush (v := 91) hx hb d_Md_things_1 (by decide) ?_
  have hPc := hP.sub (ws' := [(aM, .inr (4, [.int th, .ref aMT, .int (nI mu), .ref aNw, .ref aNx, .int mw, .int mwa, .int (nI ma), .int (nI en), .long mv, .int mf, .int ml])), (aMT, .inl (kMT, 65536, .inl B))]) [0, 1] rfl
  have hDc := hD.sub (ws' := [(aM, .inr (4, [.int th, .ref aMT, .int (nI mu), .ref aNw, .ref aNx, .int mw, .int mwa, .int (nI ma), .int (nI en), .long mv, .int mf, .int ml])), (aMT, .inl (kMT, 65536, .inl B))]) [0, 1] (by decide) rfl
  have hKc := hK.sub (tys' := [(kMT, .byte)]) [0] rfl
  have hFc := va_free (wc := [(aM, .inr (4, [.int th, .ref aMT, .int (nI mu), .ref aNw, .ref aNx, .int mw, .int mwa, .int (nI ma), .int (nI en), .long mv, .int mf, .int ml])), (aMT, .inl (kMT, 65536, .inl B))]) hD hS hA [0, 1] rfl
  refine va_calli (va_runV (As := [.int 91]) (rest := []) ⟨hx, hb, hml, hown, hts⟩ (c_Md_sign l G dC dI H.size aM th aMT mu aNw aNx mw mwa ma en mv mf ml kMT B 91 (by omega) (by omega)) (cwV 1 hts (gV tw_537 tw_539 ts_20 tw_5 tw_540 rfl) rfl rfl rfl (by decide +kernel) ⟨Nat.le_of_ble_eq_true rfl, Nat.le_of_ble_eq_true rfl⟩) (PW_preV hPc hKc hDc hE hS hFc (ci := 4) (q0 := 0) rfl rfl) rfl rfl hl.1 rfl (lv_room (Nat.le_of_ble_eq_true rfl)) d_Md_things_3 ⟨Nat.le_of_ble_eq_true rfl, Nat.le_of_ble_eq_true rfl⟩) hS (fun q _ h => hFc q h) hFc (fun r_1 uu t H1 locs ht hvm hw_5 hB hz1 hk1 hS => ?_)
  obtain ⟨ma_2, mw_3, mwa_4⟩ := uu
  obtain ⟨hP1, hD1, hsz1⟩ := hB
  rw [ht] at hP1 hsz1
  obtain ⟨hP, hD⟩ := va_join (wr := [(aNx, .inl (kNx, 52650, .inl nx))]) (w1 := [(aM, .inr (4, [.int th, .ref aMT, .int (nI mu), .ref aNw, .ref aNx, .int mw_3, .int mwa_4, .int (nI ma_2), .int (nI en), .long mv, .int mf, .int ml])), (aMT, .inl (kMT, 65536, .inl B))]) hP hD [0, 1] [2] rfl rfl (by decide) (by decide) hk1 hFc hP1 hD1
  generalize H1 = H at hP hS ⊢
  have hP : va_P (dC, dI) vwCl [(aNx, .inl (kNx, 52650, .inl nx)), (aM, .inr (4, [.int th, .ref aMT, .int (nI mu), .ref aNw, .ref aNx, .int mw_3, .int mwa_4, .int (nI ma_2), .int (nI en), .long mv, .int mf, .int ml])), (aMT, .inl (kMT, 65536, .inl B))] H := hP
  have hD : va_D A [(aNx, .inl (kNx, 52650, .inl nx)), (aM, .inr (4, [.int th, .ref aMT, .int (nI mu), .ref aNw, .ref aNx, .int mw_3, .int mwa_4, .int (nI ma_2), .int (nI en), .long mv, .int mf, .int ml])), (aMT, .inl (kMT, 65536, .inl B))] := hD
  rcases hw_5 with ⟨rfl, hw_5a, hw_5b, e1, e2⟩ | ⟨rfl, hw_5b, hw_5k, hw_5a, e2⟩
  ·
    have e1 := e1.symm; subst e1
    have e2 := e2.symm; subst e2
    refine lv_if_ne (tgt := 11) hx hb d_Md_things_6 (by decide) (fun c_6 => ?_) (fun c_6 => ?_)
    ·
      refine lv_aload_n hx hb d_Md_things_11 rfl (lv_at hl 0 rfl) ?_
      refine lv_bipush (v := 93) hx hb d_Md_things_12 (by decide) ?_
      have hPc := hP.sub (ws' := [(aM, .inr (4, [.int th, .ref aMT, .int (nI mu), .ref aNw, .ref aNx, .int mw, .int mwa, .int (nI ma_2), .int (nI en), .long mv, .int mf, .int ml])), (aMT, .inl (kMT, 65536, .inl B))]) [1, 2] rfl
      have hDc := hD.sub (ws' := [(aM, .inr (4, [.int th, .ref aMT, .int (nI mu), .ref aNw, .ref aNx, .int mw, .int mwa, .int (nI ma_2), .int (nI en), .long mv, .int mf, .int ml])), (aMT, .inl (kMT, 65536, .inl B))]) [1, 2] (by decide) rfl
      have hKc := hK.sub (tys' := [(kMT, .byte)]) [0] rfl
      have hFc := va_free (wc := [(aM, .inr (4, [.int th, .ref aMT, .int (nI mu), .ref aNw, .ref aNx, .int mw, .int mwa, .int (nI ma_2), .int (nI en), .long mv, .int mf, .int ml])), (aMT, .inl (kMT, 65536, .inl B))]) hD hS hA [1, 2] rfl
      refine va_calli (va_runV (As := [.int 93]) (rest := []) ⟨hx, hb, hml, hown, hts⟩ (c_Md_comes l G dC dI H.size aM th aMT mu aNw aNx mw mwa ma_2 en mv mf ml kMT B 93 (by omega) (by omega)) (cwV 1 hts (gV tw_541 tw_543 ts_21 tw_5 tw_544 rfl) rfl rfl rfl (by decide +kernel) ⟨Nat.le_of_ble_eq_true rfl, Nat.le_of_ble_eq_true rfl⟩) (PW_preV hPc hKc hDc hE hS hFc (ci := 4) (q0 := 0) rfl rfl) rfl rfl hl.1 rfl (lv_room (Nat.le_of_ble_eq_true rfl)) d_Md_things_14 ⟨Nat.le_of_ble_eq_true rfl, Nat.le_of_ble_eq_true rfl⟩) hS (fun q _ h => hFc q h) hFc (fun r_7 uu t H1 locs ht hvm hw_9 hB hz1 hk1 hS => ?_)
      obtain ⟨ma_8, rfl⟩ : ∃ z, z = uu := ⟨_, rfl⟩
      obtain ⟨hP1, hD1, hsz1⟩ := hB
      rw [ht] at hP1 hsz1
      obtain ⟨hP, hD⟩ := va_join (wr := [(aNx, .inl (kNx, 52650, .inl nx))]) (w1 := [(aM, .inr (4, [.int th, .ref aMT, .int (nI mu), .ref aNw, .ref aNx, .int mw, .int mwa, .int (nI ma_8), .int (nI en), .long mv, .int mf, .int ml])), (aMT, .inl (kMT, 65536, .inl B))]) hP hD [1, 2] [0] rfl rfl (by decide) (by decide) hk1 hFc hP1 hD1
      generalize H1 = H at hP hS ⊢
      have hP : va_P (dC, dI) vwCl [(aNx, .inl (kNx, 52650, .inl nx)), (aM, .inr (4, [.int th, .ref aMT, .int (nI mu), .ref aNw, .ref aNx, .int mw, .int mwa, .int (nI ma_8), .int (nI en), .long mv, .int mf, .int ml])), (aMT, .inl (kMT, 65536, .inl B))] H := hP
      have hD : va_D A [(aNx, .inl (kNx, 52650, .inl nx)), (aM, .inr (4, [.int th, .ref aMT, .int (nI mu), .ref aNw, .ref aNx, .int mw, .int mwa, .int (nI ma_8), .int (nI en), .long mv, .int mf, .int ml])), (aMT, .inl (kMT, 65536, .inl B))] := hD
      have hw_9i := zK_le (B := B) (en := en) (i := ma_2) (by omega)
      obtain ⟨e1, e2⟩ := hw_9
      have e1 := e1.symm; subst e1
      by_cases hs_10 : zK B en ma_2 < en ∧ B (zK B en ma_2) = 93
      ·
        rw [if_pos hs_10] at e2; subst e2
        refine lv_if_ne (tgt := 24) hx hb d_Md_things_17 (by decide) (fun c_11 => ?_) (fun c_11 => ?_)
        ·
          refine lv_iconst (v := 0) hx hb d_Md_things_24 (by decide) ?_
          refine lv_istore_n (lv' := [(3, .int 0), (0, .ref aM), (1, .int (nI ka)), (2, .int (nI mo))]) hx hb d_Md_things_25 rfl hl (by decide) rfl (fun ls hl => ?_)
          refine lv_iload_n hx hb d_Md_things_26 rfl (lv_at hl 0 rfl) ?_
          refine lv_if_eq (tgt := 116) hx hb d_Md_things_27 (by decide) (fun c_12 => ?_) (fun c_12 => ?_)
          ·
            refine lv_aload_n hx hb d_Md_things_116 rfl (lv_at hl 1 rfl) ?_
            refine lv_bipush (v := 93) hx hb d_Md_things_117 (by decide) ?_
            have hPc := hP.sub (ws' := [(aM, .inr (4, [.int th, .ref aMT, .int (nI mu), .ref aNw, .ref aNx, .int mw, .int mwa, .int (nI (zK B en ma_2)), .int (nI en), .long mv, .int mf, .int ml])), (aMT, .inl (kMT, 65536, .inl B))]) [1, 2] rfl
            have hDc := hD.sub (ws' := [(aM, .inr (4, [.int th, .ref aMT, .int (nI mu), .ref aNw, .ref aNx, .int mw, .int mwa, .int (nI (zK B en ma_2)), .int (nI en), .long mv, .int mf, .int ml])), (aMT, .inl (kMT, 65536, .inl B))]) [1, 2] (by decide) rfl
            have hKc := hK.sub (tys' := [(kMT, .byte)]) [0] rfl
            have hFc := va_free (wc := [(aM, .inr (4, [.int th, .ref aMT, .int (nI mu), .ref aNw, .ref aNx, .int mw, .int mwa, .int (nI (zK B en ma_2)), .int (nI en), .long mv, .int mf, .int ml])), (aMT, .inl (kMT, 65536, .inl B))]) hD hS hA [1, 2] rfl
            refine va_calli (va_runV (As := [.int 93]) (rest := []) ⟨hx, hb, hml, hown, hts⟩ (c_Md_sign l G dC dI H.size aM th aMT mu aNw aNx mw mwa (zK B en ma_2) en mv mf ml kMT B 93 (by omega) (by omega)) (cwV 1 hts (gV tw_537 tw_539 ts_20 tw_5 tw_540 rfl) rfl rfl rfl (by decide +kernel) ⟨Nat.le_of_ble_eq_true rfl, Nat.le_of_ble_eq_true rfl⟩) (PW_preV hPc hKc hDc hE hS hFc (ci := 4) (q0 := 0) rfl rfl) rfl rfl hl.1 rfl (lv_room (Nat.le_of_ble_eq_true rfl)) d_Md_things_119 ⟨Nat.le_of_ble_eq_true rfl, Nat.le_of_ble_eq_true rfl⟩) hS (fun q _ h => hFc q h) hFc (fun r_13 uu t H1 locs ht hvm hw_17 hB hz1 hk1 hS => ?_)
            obtain ⟨ma_14, mw_15, mwa_16⟩ := uu
            obtain ⟨hP1, hD1, hsz1⟩ := hB
            rw [ht] at hP1 hsz1
            obtain ⟨hP, hD⟩ := va_join (wr := [(aNx, .inl (kNx, 52650, .inl nx))]) (w1 := [(aM, .inr (4, [.int th, .ref aMT, .int (nI mu), .ref aNw, .ref aNx, .int mw_15, .int mwa_16, .int (nI ma_14), .int (nI en), .long mv, .int mf, .int ml])), (aMT, .inl (kMT, 65536, .inl B))]) hP hD [1, 2] [0] rfl rfl (by decide) (by decide) hk1 hFc hP1 hD1
            generalize H1 = H at hP hS ⊢
            have hP : va_P (dC, dI) vwCl [(aNx, .inl (kNx, 52650, .inl nx)), (aM, .inr (4, [.int th, .ref aMT, .int (nI mu), .ref aNw, .ref aNx, .int mw_15, .int mwa_16, .int (nI ma_14), .int (nI en), .long mv, .int mf, .int ml])), (aMT, .inl (kMT, 65536, .inl B))] H := hP
            have hD : va_D A [(aNx, .inl (kNx, 52650, .inl nx)), (aM, .inr (4, [.int th, .ref aMT, .int (nI mu), .ref aNw, .ref aNx, .int mw_15, .int mwa_16, .int (nI ma_14), .int (nI en), .long mv, .int mf, .int ml])), (aMT, .inl (kMT, 65536, .inl B))] := hD
            simp only [zK_idem] at hw_17
            rcases hw_17 with ⟨rfl, hw_17a, hw_17b, e1, e2⟩ | ⟨rfl, hw_17b, hw_17k, hw_17a, e2⟩
            ·
              have e1 := e1.symm; subst e1
              have e2 := e2.symm; subst e2
              refine zt_size (fun hzs => ?_)
              have hP9 := hP.sub (ws' := [(aM, .inr (4, [.int th, .ref aMT, .int (nI mu), .ref aNw, .ref aNx, .int mw, .int mwa, .int (nI ma_14), .int (nI en), .long mv, .int mf, .int ml])), (aMT, .inl (kMT, 65536, .inl B)), (aNx, .inl (kNx, 52650, .inl nx))]) [1, 2, 0] rfl
              have hD9 := hD.sub (ws' := [(aM, .inr (4, [.int th, .ref aMT, .int (nI mu), .ref aNw, .ref aNx, .int mw, .int mwa, .int (nI ma_14), .int (nI en), .long mv, .int mf, .int ml])), (aMT, .inl (kMT, 65536, .inl B)), (aNx, .inl (kNx, 52650, .inl nx))]) [1, 2, 0] (by decide) rfl
              exact W.zret (v := 1) hx hb hr rfl (fun t ht hW => ⟨⟨1, (ma_14, mw, mwa, mv, mf, nx, ml), rfl, Or.inl ⟨rfl, by omega, rfl, rfl, 0, by simp only [mThings, zB_ok, hw_5a]; rw [if_pos hs_10]; simp only [zEnd, zB_ok, zB_er, hw_17a], by omega, by rw [zuN_id h0c]; exact hcn⟩, by rw [ht]; exact hP9, hD9, by rw [ht]; exact hzs⟩, hS.F ht⟩) hS.2.2 d_Md_things_122
            ·
              have e2 := e2.symm; subst e2
              refine zt_size (fun hzs => ?_)
              have hP9 := hP.sub (ws' := [(aM, .inr (4, [.int th, .ref aMT, .int (nI mu), .ref aNw, .ref aNx, .int mw_15, .int (nI hw_17k), .int (nI ma_14), .int (nI en), .long mv, .int mf, .int ml])), (aMT, .inl (kMT, 65536, .inl B)), (aNx, .inl (kNx, 52650, .inl nx))]) [1, 2, 0] rfl
              have hD9 := hD.sub (ws' := [(aM, .inr (4, [.int th, .ref aMT, .int (nI mu), .ref aNw, .ref aNx, .int mw_15, .int (nI hw_17k), .int (nI ma_14), .int (nI en), .long mv, .int mf, .int ml])), (aMT, .inl (kMT, 65536, .inl B)), (aNx, .inl (kNx, 52650, .inl nx))]) [1, 2, 0] (by decide) rfl
              exact W.zret (v := 0) hx hb hr rfl (fun t ht hW => ⟨⟨0, (ma_14, mw_15, nI hw_17k, mv, mf, nx, ml), rfl, Or.inr ⟨rfl, by omega, _, by simp only [mThings, zB_ok, hw_5a]; rw [if_pos hs_10]; simp only [zEnd, zB_ok, zB_er, hw_17a], rfl⟩, by rw [ht]; exact hP9, hD9, by rw [ht]; exact hzs⟩, hS.F ht⟩) hS.2.2 d_Md_things_122
          ·
            exact absurd (by decide) c_12
        ·
          exact absurd c_11 (by decide)
      ·
        rw [if_neg hs_10] at e2; subst e2
        refine lv_if_ne (tgt := 24) hx hb d_Md_things_17 (by decide) (fun c_18 => ?_) (fun c_18 => ?_)
        ·
          exact absurd (by decide) c_18
        ·
          refine lv_iconst (v := 1) hx hb d_Md_things_20 (by decide) ?_
          refine lv_goto (tgt := 25) hx hb d_Md_things_21 (by decide) ?_
          refine lv_istore_n (lv' := [(3, .int 1), (0, .ref aM), (1, .int (nI ka)), (2, .int (nI mo))]) hx hb d_Md_things_25 rfl hl (by decide) rfl (fun ls hl => ?_)
          refine lv_iload_n hx hb d_Md_things_26 rfl (lv_at hl 0 rfl) ?_
          refine lv_if_eq (tgt := 116) hx hb d_Md_things_27 (by decide) (fun c_19 => ?_) (fun c_19 => ?_)
          ·
            exact absurd c_19 (by decide)
          ·
            exact lp_Md_things l G dC dI aM th aMT mu aNw aNx mw mwa ma en mv mf ml kMT B kNx nx cnt ka mo hen hma hka hmo h0c hcn hcm ⟨hx, hb, hr, hml, hown, hts, hlocks⟩ hA hK hE (zM ka + 1) 0 (zK B en ma_2) mv mf ml nx (by omega) (by omega) (by omega) (by rw [zuN_id h0c]; exact hcn) (by rw [zK_idem]; simp only [mThings, zB_ok, hw_5a]; rw [if_neg hs_10]; rfl) _ _ (hP.sub [1, 2, 0] rfl) (hD.sub [1, 2, 0] (by decide) rfl) hS ls (lv_sub hl [1, 2, 3] rfl)
    ·
      exact absurd c_6 (by decide)
  ·
    have e2 := e2.symm; subst e2
    refine lv_if_ne (tgt := 11) hx hb d_Md_things_6 (by decide) (fun c_20 => ?_) (fun c_20 => ?_)
    ·
      exact absurd (by decide) c_20
    ·
      refine lv_iconst (v := 0) hx hb d_Md_things_9 (by decide) ?_
      refine zt_size (fun hzs => ?_)
      have hP9 := hP.sub (ws' := [(aM, .inr (4, [.int th, .ref aMT, .int (nI mu), .ref aNw, .ref aNx, .int mw_3, .int (nI hw_5k), .int (nI ma_2), .int (nI en), .long mv, .int mf, .int ml])), (aMT, .inl (kMT, 65536, .inl B)), (aNx, .inl (kNx, 52650, .inl nx))]) [1, 2, 0] rfl
      have hD9 := hD.sub (ws' := [(aM, .inr (4, [.int th, .ref aMT, .int (nI mu), .ref aNw, .ref aNx, .int mw_3, .int (nI hw_5k), .int (nI ma_2), .int (nI en), .long mv, .int mf, .int ml])), (aMT, .inl (kMT, 65536, .inl B)), (aNx, .inl (kNx, 52650, .inl nx))]) [1, 2, 0] (by decide) rfl
      exact W.zret (v := 0) hx hb hr rfl (fun t ht hW => ⟨⟨0, (ma_2, mw_3, nI hw_5k, mv, mf, nx, ml), rfl, Or.inr ⟨rfl, by omega, _, by simp only [mThings, zB_er, hw_5a], rfl⟩, by rw [ht]; exact hP9, hD9, by rw [ht]; exact hzs⟩, hS.F ht⟩) hS.2.2 d_Md_things_10
