set_option maxHeartbeats 4000000 in
set_option maxRecDepth 100000 in
theorem lp_Md_scene (l : Launch) (G : ZG) (dC : Nat → ClassId) (dI : Nat → Nat → Nat) (aM : Nat) (th : Int32) (aMT : Nat) (mu : Nat) (aNw : Nat) (aNx : Nat) (mw : Int32) (mwa : Int32) (ma : Nat) (en : Nat) (mv : Int64) (mf : Int32) (ml : Int32) (kMT : ClassId) (B : Nat → Int32) (kNx : ClassId) (nx : Nat → Int32) (cnt : Nat → Nat) (hen : en ≤ 65536) (hma : ma ≤ en) (hcn : ∀ j, j < 5 → nx j = nI (cnt j)) (hz0 : ∀ j, j < 5 → cnt j = 0) {p : Program} {e : Env} {s : State} {m : MethodId} {args : Array Value} {below : List Frame} {meth : Method} {c : Code} {A : Nat → Prop} (C0 : zC p s m args meth c prog_6_method_31_code 4 (some .boolean) R_Md w_Md_scene) (hA : ∀ q : Nat, s.heap.size ≤ q → A q) (hK : va_K (dC, dI) vwCl [(kMT, .byte), (kNx, .int)] s) (hE : zE G A s s.heap) : ∀ (n : Nat) (pq : Nat) (ma2 : Nat) (mv2 : Int64) (mf2 : Int32) (ml2 : Int32) (nx2 : Nat → Int32) (cn2 : Nat → Nat), (pq ≤ 7) → (8 ≤ pq + n) → (ma2 ≤ en) → (∀ j, j < 5 → nx2 j = nI (cn2 j)) → (∀ j, j < 5 → cn2 j ≤ zM j) → (∀ j, pq ≤ j → j < 5 → cn2 j = 0) → (pq = 7 → zK B en ma2 = ma2) → (mRd B en cnt nx (zK B en ma) = mParts B en (7 - pq) pq (cn2, zK B en ma2, nx2)) → ∀ (H : Heap) (locs : List Loc), va_P (dC, dI) vwCl [(aM, .inr (4, [.int th, .ref aMT, .int (nI mu), .ref aNw, .ref aNx, .int mw, .int mwa, .int (nI ma2), .int (nI en), .long mv2, .int mf2, .int ml2])), (aMT, .inl (kMT, 65536, .inl B)), (aNx, .inl (kNx, 52650, .inl nx2))] H → va_D A [(aM, .inr (4, [.int th, .ref aMT, .int (nI mu), .ref aNw, .ref aNx, .int mw, .int mwa, .int (nI ma2), .int (nI en), .long mv2, .int mf2, .int ml2])), (aMT, .inl (kMT, 65536, .inl B)), (aNx, .inl (kNx, 52650, .inl nx2))] → va_S A s.heap H locs → ∀ (ls : Array Slot), lv_has ls 4 [(0, .ref aM), (3, .int (nI pq))] → W p l e ({ frames := 10, cells := 0, slots := 0, locals := 229 }) s m args below meth c H locs 0 0 (MQ below (va_Qi (fun (r : Int32) (uu : Nat × Int32 × Int32 × Int64 × Int32 × (Nat → Int32) × Int32) => (r = 1 ∧ uu.1 ≤ en ∧ uu.2.1 = mw ∧ uu.2.2.1 = mwa ∧ mRd B en cnt nx (zK B en ma) = .ok uu.2.2.2.2.2.1) ∨ (r = 0 ∧ uu.1 ≤ en ∧ ∃ k, mRd B en cnt nx (zK B en ma) = .error (uu.2.1, k) ∧ uu.2.2.1 = nI k)) (fun (uu : Nat × Int32 × Int32 × Int64 × Int32 × (Nat → Int32) × Int32) t => BW (dC, dI) [(aM, .inr (4, [.int th, .ref aMT, .int (nI mu), .ref aNw, .ref aNx, .int uu.2.1, .int uu.2.2.1, .int (nI uu.1), .int (nI en), .long uu.2.2.2.1, .int uu.2.2.2.2.1, .int uu.2.2.2.2.2.2])), (aMT, .inl (kMT, 65536, .inl B)), (aNx, .inl (kNx, 52650, .inl uu.2.2.2.2.2.1))] A s.heap.size t) A) args s 0 0 A) (F0 m 34 ls []) := by
  obtain ⟨hx, hb, hr, hml, hown, hts, hlocks⟩ := C0
  have hz : ∀ w ∈ ZW, w.before _ s = true := fun w h => hts w (List.mem_cons_of_mem _ h)
  intro n
  induction n with
  | zero =>
    intro pq ma2 mv2 mf2 ml2 nx2 cn2 hp hn hm2 hc2 hcm2 hz2 hsk hI H locs hP hD hS ls hl
    exact absurd hn (by omega)
  | succ n ih =>
    intro pq ma2 mv2 mf2 ml2 nx2 cn2 hp hn hm2 hc2 hcm2 hz2 hsk hI H locs hP hD hS ls hl
    refine lv_iload_n hx hb d_Md_scene_34 rfl (lv_at hl 1 rfl) ?_
    refine lv_bipush (v := 7) hx hb d_Md_scene_35 (by decide) ?_
    refine lv_icmp_ge (tgt := 58) hx hb d_Md_scene_37 (by decide) (fun c_1 => ?_) (fun c_1 => ?_)
    ·
      have c_1 : 7 ≤ pq := (@nI_leI 7 pq (by omega) (by omega)).mp c_1
      refine lv_iload_n hx hb d_Md_scene_58 rfl (lv_at hl 1 rfl) ?_
      refine lv_bipush (v := 7) hx hb d_Md_scene_59 (by decide) ?_
      refine lv_icmp_ne (tgt := 74) hx hb d_Md_scene_61 (by decide) (fun c_2 => ?_) (fun c_2 => ?_)
      ·
        exact absurd (by rw [show pq = 7 by omega]; rfl) c_2
      ·
        refine lv_aload_n hx hb d_Md_scene_64 rfl (lv_at hl 0 rfl) ?_
        refine lv_iconst (v := 1) hx hb d_Md_scene_65 (by decide) ?_
        refine lv_aload_n hx hb d_Md_scene_66 rfl (lv_at hl 0 rfl) ?_
        refine va_get (D := (dC, dI)) (ci := 4) (v := .int (nI ma2)) (C := R_Md) (T := F_Md) (N := 12) hx hb hz i_Md hown hK hP 0 rfl rfl 7 (by decide) (hz _ tw_483) (fun _ h9 => h9) rfl d_Md_scene_67 ?_
        have hPc := hP.sub (ws' := [(aM, .inr (4, [.int th, .ref aMT, .int (nI mu), .ref aNw, .ref aNx, .int mw, .int mwa, .int (nI ma2), .int (nI en), .long mv2, .int mf2, .int ml2]))]) [0] rfl
        have hDc := hD.sub (ws' := [(aM, .inr (4, [.int th, .ref aMT, .int (nI mu), .ref aNw, .ref aNx, .int mw, .int mwa, .int (nI ma2), .int (nI en), .long mv2, .int mf2, .int ml2]))]) [0] (by decide) rfl
        have hKc := hK.sub (tys' := []) [] rfl
        have hFc := va_free (wc := [(aM, .inr (4, [.int th, .ref aMT, .int (nI mu), .ref aNw, .ref aNx, .int mw, .int mwa, .int (nI ma2), .int (nI en), .long mv2, .int mf2, .int ml2]))]) hD hS hA [0] rfl
        refine va_calli (va_runV (As := [.int 1, .int (nI ma2)]) (rest := []) ⟨hx, hb, hml, hown, hts⟩ (c_Md_fails l G dC dI H.size aM th aMT mu aNw aNx mw mwa ma2 en mv2 mf2 ml2 1 (nI ma2)) (cwV 2 hts (gV tw_549 tw_551 ts_23 tw_5 tw_552 rfl) rfl rfl rfl (by decide +kernel) ⟨Nat.le_of_ble_eq_true rfl, Nat.le_of_ble_eq_true rfl⟩) (PW_preV hPc hKc hDc hE hS hFc (ci := 4) (q0 := 0) rfl rfl) rfl rfl hl.1 rfl (lv_room (Nat.le_of_ble_eq_true rfl)) d_Md_scene_70 ⟨Nat.le_of_ble_eq_true rfl, Nat.le_of_ble_eq_true rfl⟩) hS (fun q _ h => hFc q h) hFc (fun r_3 uu t H1 locs ht hvm hw_6 hB hz1 hk1 hS => ?_)
        obtain ⟨mw_4, mwa_5⟩ := uu
        obtain ⟨hP1, hD1, hsz1⟩ := hB
        rw [ht] at hP1 hsz1
        obtain ⟨hP, hD⟩ := va_join (wr := [(aMT, .inl (kMT, 65536, .inl B)), (aNx, .inl (kNx, 52650, .inl nx2))]) (w1 := [(aM, .inr (4, [.int th, .ref aMT, .int (nI mu), .ref aNw, .ref aNx, .int mw_4, .int mwa_5, .int (nI ma2), .int (nI en), .long mv2, .int mf2, .int ml2]))]) hP hD [0] [1, 2] rfl rfl (by decide) (by decide) hk1 hFc hP1 hD1
        generalize H1 = H at hP hS ⊢
        have hP : va_P (dC, dI) vwCl [(aMT, .inl (kMT, 65536, .inl B)), (aNx, .inl (kNx, 52650, .inl nx2)), (aM, .inr (4, [.int th, .ref aMT, .int (nI mu), .ref aNw, .ref aNx, .int mw_4, .int mwa_5, .int (nI ma2), .int (nI en), .long mv2, .int mf2, .int ml2]))] H := hP
        have hD : va_D A [(aMT, .inl (kMT, 65536, .inl B)), (aNx, .inl (kNx, 52650, .inl nx2)), (aM, .inr (4, [.int th, .ref aMT, .int (nI mu), .ref aNw, .ref aNx, .int mw_4, .int mwa_5, .int (nI ma2), .int (nI en), .long mv2, .int mf2, .int ml2]))] := hD
        obtain ⟨e0, e1, e2⟩ := hw_6
        subst e0
        have e1 := e1.symm; subst e1
        have e2 := e2.symm; subst e2
        refine zt_size (fun hzs => ?_)
        have hP9 := hP.sub (ws' := [(aM, .inr (4, [.int th, .ref aMT, .int (nI mu), .ref aNw, .ref aNx, .int 1, .int (nI ma2), .int (nI ma2), .int (nI en), .long mv2, .int mf2, .int ml2])), (aMT, .inl (kMT, 65536, .inl B)), (aNx, .inl (kNx, 52650, .inl nx2))]) [2, 0, 1] rfl
        have hD9 := hD.sub (ws' := [(aM, .inr (4, [.int th, .ref aMT, .int (nI mu), .ref aNw, .ref aNx, .int 1, .int (nI ma2), .int (nI ma2), .int (nI en), .long mv2, .int mf2, .int ml2])), (aMT, .inl (kMT, 65536, .inl B)), (aNx, .inl (kNx, 52650, .inl nx2))]) [2, 0, 1] (by decide) rfl
        exact W.zret (v := 0) hx hb hr rfl (fun t ht hW => ⟨⟨0, (ma2, 1, nI ma2, mv2, mf2, nx2, ml2), rfl, Or.inr ⟨rfl, by omega, _, by rw [hI, mParts_7 (by omega), hsk (by omega)], rfl⟩, by rw [ht]; exact hP9, hD9, by rw [ht]; exact hzs⟩, hS.F ht⟩) hS.2.2 d_Md_scene_73
    ·
      have c_1 : ¬ (7 ≤ pq) := fun z => c_1 ((@nI_leI 7 pq (by omega) (by omega)).mpr z)
      refine lv_aload_n hx hb d_Md_scene_40 rfl (lv_at hl 0 rfl) ?_
      refine lv_aload_n hx hb d_Md_scene_41 rfl (lv_at hl 0 rfl) ?_
      refine lv_iload_n hx hb d_Md_scene_42 rfl (lv_at hl 1 rfl) ?_
      have hPc := hP.sub (ws' := [(aM, .inr (4, [.int th, .ref aMT, .int (nI mu), .ref aNw, .ref aNx, .int mw, .int mwa, .int (nI ma2), .int (nI en), .long mv2, .int mf2, .int ml2]))]) [0] rfl
      have hDc := hD.sub (ws' := [(aM, .inr (4, [.int th, .ref aMT, .int (nI mu), .ref aNw, .ref aNx, .int mw, .int mwa, .int (nI ma2), .int (nI en), .long mv2, .int mf2, .int ml2]))]) [0] (by decide) rfl
      have hKc := hK.sub (tys' := []) [] rfl
      have hFc := va_free (wc := [(aM, .inr (4, [.int th, .ref aMT, .int (nI mu), .ref aNw, .ref aNx, .int mw, .int mwa, .int (nI ma2), .int (nI en), .long mv2, .int mf2, .int ml2]))]) hD hS hA [0] rfl
      refine va_calll (va_runV (As := [.int (nI pq)]) (rest := [.ref aM]) ⟨hx, hb, hml, hown, hts⟩ (c_Md_nameOf l G dC dI H.size aM th aMT mu aNw aNx mw mwa ma2 en mv2 mf2 ml2 pq (by omega)) (cwV 1 hts (gV tw_553 tw_555 ts_24 tw_5 tw_556 rfl) rfl rfl rfl (by decide +kernel) ⟨Nat.le_of_ble_eq_true rfl, Nat.le_of_ble_eq_true rfl⟩) (PW_preV hPc hKc hDc hE hS hFc (ci := 4) (q0 := 0) rfl rfl) rfl rfl hl.1 rfl (lv_room (Nat.le_of_ble_eq_true rfl)) d_Md_scene_43 ⟨Nat.le_of_ble_eq_true rfl, Nat.le_of_ble_eq_true rfl⟩) hS (fun q _ h => hFc q h) hFc (fun r_7 uu t H1 locs ht hvm hw_8 hB hz1 hk1 hS => ?_)
      obtain ⟨hP1, hD1, hsz1⟩ := hB
      rw [ht] at hP1 hsz1
      obtain ⟨hP, hD⟩ := va_join (wr := [(aMT, .inl (kMT, 65536, .inl B)), (aNx, .inl (kNx, 52650, .inl nx2))]) (w1 := [(aM, .inr (4, [.int th, .ref aMT, .int (nI mu), .ref aNw, .ref aNx, .int mw, .int mwa, .int (nI ma2), .int (nI en), .long mv2, .int mf2, .int ml2]))]) hP hD [0] [1, 2] rfl rfl (by decide) (by decide) hk1 hFc hP1 hD1
      generalize H1 = H at hP hS ⊢
      have hP : va_P (dC, dI) vwCl [(aMT, .inl (kMT, 65536, .inl B)), (aNx, .inl (kNx, 52650, .inl nx2)), (aM, .inr (4, [.int th, .ref aMT, .int (nI mu), .ref aNw, .ref aNx, .int mw, .int mwa, .int (nI ma2), .int (nI en), .long mv2, .int mf2, .int ml2]))] H := hP
      have hD : va_D A [(aMT, .inl (kMT, 65536, .inl B)), (aNx, .inl (kNx, 52650, .inl nx2)), (aM, .inr (4, [.int th, .ref aMT, .int (nI mu), .ref aNw, .ref aNx, .int mw, .int mwa, .int (nI ma2), .int (nI en), .long mv2, .int mf2, .int ml2]))] := hD
      subst hw_8
      have hPc := hP.sub (ws' := [(aM, .inr (4, [.int th, .ref aMT, .int (nI mu), .ref aNw, .ref aNx, .int mw, .int mwa, .int (nI ma2), .int (nI en), .long mv2, .int mf2, .int ml2])), (aMT, .inl (kMT, 65536, .inl B))]) [2, 0] rfl
      have hDc := hD.sub (ws' := [(aM, .inr (4, [.int th, .ref aMT, .int (nI mu), .ref aNw, .ref aNx, .int mw, .int mwa, .int (nI ma2), .int (nI en), .long mv2, .int mf2, .int ml2])), (aMT, .inl (kMT, 65536, .inl B))]) [2, 0] (by decide) rfl
      have hKc := hK.sub (tys' := [(kMT, .byte)]) [0] rfl
      have hFc := va_free (wc := [(aM, .inr (4, [.int th, .ref aMT, .int (nI mu), .ref aNw, .ref aNx, .int mw, .int mwa, .int (nI ma2), .int (nI en), .long mv2, .int mf2, .int ml2])), (aMT, .inl (kMT, 65536, .inl B))]) hD hS hA [2, 0] rfl
      refine va_calli (va_runV (As := [.long (zWv (pq + 1))]) (rest := []) ⟨hx, hb, hml, hown, hts⟩ (c_Md_isWord l G dC dI H.size aM th aMT mu aNw aNx mw mwa ma2 en mv2 mf2 ml2 kMT B (pq + 1) (by omega) (by omega) (by omega) (by omega) (zSb_len _)) (cwV 1 hts (gV tw_564 tw_566 ts_25 tw_5 tw_567 rfl) rfl rfl rfl (by decide +kernel) ⟨Nat.le_of_ble_eq_true rfl, Nat.le_of_ble_eq_true rfl⟩) (PW_preV hPc hKc hDc hE hS hFc (ci := 4) (q0 := 0) rfl rfl) rfl rfl hl.1 rfl (lv_room (Nat.le_of_ble_eq_true rfl)) d_Md_scene_46 ⟨Nat.le_of_ble_eq_true rfl, Nat.le_of_ble_eq_true rfl⟩) hS (fun q _ h => hFc q h) hFc (fun r_9 uu t H1 locs ht hvm hw_11 hB hz1 hk1 hS => ?_)
      obtain ⟨ma_10, rfl⟩ : ∃ z, z = uu := ⟨_, rfl⟩
      obtain ⟨hP1, hD1, hsz1⟩ := hB
      rw [ht] at hP1 hsz1
      obtain ⟨hP, hD⟩ := va_join (wr := [(aNx, .inl (kNx, 52650, .inl nx2))]) (w1 := [(aM, .inr (4, [.int th, .ref aMT, .int (nI mu), .ref aNw, .ref aNx, .int mw, .int mwa, .int (nI ma_10), .int (nI en), .long mv2, .int mf2, .int ml2])), (aMT, .inl (kMT, 65536, .inl B))]) hP hD [2, 0] [1] rfl rfl (by decide) (by decide) hk1 hFc hP1 hD1
      generalize H1 = H at hP hS ⊢
      have hP : va_P (dC, dI) vwCl [(aNx, .inl (kNx, 52650, .inl nx2)), (aM, .inr (4, [.int th, .ref aMT, .int (nI mu), .ref aNw, .ref aNx, .int mw, .int mwa, .int (nI ma_10), .int (nI en), .long mv2, .int mf2, .int ml2])), (aMT, .inl (kMT, 65536, .inl B))] H := hP
      have hD : va_D A [(aNx, .inl (kNx, 52650, .inl nx2)), (aM, .inr (4, [.int th, .ref aMT, .int (nI mu), .ref aNw, .ref aNx, .int mw, .int mwa, .int (nI ma_10), .int (nI en), .long mv2, .int mf2, .int ml2])), (aMT, .inl (kMT, 65536, .inl B))] := hD
      have hw_11i := zK_le (B := B) (en := en) (i := ma2) (by omega)
      obtain ⟨e1, e2⟩ := hw_11
      have e1 := e1.symm; subst e1
      rcases e2 with ⟨rfl, hw_11w, hw_11l⟩ | ⟨rfl, hw_11w⟩
      ·
        refine lv_if_ne (tgt := 58) hx hb d_Md_scene_49 (by decide) (fun c_12 => ?_) (fun c_12 => ?_)
        ·
          refine lv_iload_n hx hb d_Md_scene_58 rfl (lv_at hl 1 rfl) ?_
          refine lv_bipush (v := 7) hx hb d_Md_scene_59 (by decide) ?_
          refine lv_icmp_ne (tgt := 74) hx hb d_Md_scene_61 (by decide) (fun c_13 => ?_) (fun c_13 => ?_)
          ·
            refine lv_aload_n hx hb d_Md_scene_74 rfl (lv_at hl 0 rfl) ?_
            refine lv_iload_n hx hb d_Md_scene_75 rfl (lv_at hl 1 rfl) ?_
            have hPc := hP.sub (ws' := [(aM, .inr (4, [.int th, .ref aMT, .int (nI mu), .ref aNw, .ref aNx, .int mw, .int mwa, .int (nI (zK B en ma2)), .int (nI en), .long mv2, .int mf2, .int ml2])), (aMT, .inl (kMT, 65536, .inl B)), (aNx, .inl (kNx, 52650, .inl nx2))]) [1, 2, 0] rfl
            have hDc := hD.sub (ws' := [(aM, .inr (4, [.int th, .ref aMT, .int (nI mu), .ref aNw, .ref aNx, .int mw, .int mwa, .int (nI (zK B en ma2)), .int (nI en), .long mv2, .int mf2, .int ml2])), (aMT, .inl (kMT, 65536, .inl B)), (aNx, .inl (kNx, 52650, .inl nx2))]) [1, 2, 0] (by decide) rfl
            have hKc := hK.sub (tys' := [(kMT, .byte), (kNx, .int)]) [0, 1] rfl
            have hFc := va_free (wc := [(aM, .inr (4, [.int th, .ref aMT, .int (nI mu), .ref aNw, .ref aNx, .int mw, .int mwa, .int (nI (zK B en ma2)), .int (nI en), .long mv2, .int mf2, .int ml2])), (aMT, .inl (kMT, 65536, .inl B)), (aNx, .inl (kNx, 52650, .inl nx2))]) hD hS hA [1, 2, 0] rfl
            refine va_calli (va_runV (As := [.int (nI pq)]) (rest := []) ⟨hx, hb, hml, hown, hts⟩ (c_Md_part l G dC dI H.size aM th aMT mu aNw aNx mw mwa (zK B en ma2) en mv2 mf2 ml2 kMT B kNx nx2 cn2 pq (by omega) (by omega) (by omega) hc2 hcm2 hz2) (cwV 1 hts (gV tw_573 tw_575 ts_26 tw_5 tw_576 rfl) rfl rfl rfl (by decide +kernel) ⟨Nat.le_of_ble_eq_true rfl, Nat.le_of_ble_eq_true rfl⟩) (PW_preV hPc hKc hDc hE hS hFc (ci := 4) (q0 := 0) rfl rfl) rfl rfl hl.1 rfl (lv_room (Nat.le_of_ble_eq_true rfl)) d_Md_scene_76 ⟨Nat.le_of_ble_eq_true rfl, Nat.le_of_ble_eq_true rfl⟩) hS (fun q _ h => hFc q h) hFc (fun r_14 uu t H1 locs ht hvm hw_22 hB hz1 hk1 hS => ?_)
            obtain ⟨ma_15, mw_16, mwa_17, mv_18, mf_19, nx_20, ml_21⟩ := uu
            obtain ⟨hP1, hD1, hsz1⟩ := hB
            rw [ht] at hP1 hsz1
            obtain ⟨hP, hD⟩ := va_join (wr := []) (w1 := [(aM, .inr (4, [.int th, .ref aMT, .int (nI mu), .ref aNw, .ref aNx, .int mw_16, .int mwa_17, .int (nI ma_15), .int (nI en), .long mv_18, .int mf_19, .int ml_21])), (aMT, .inl (kMT, 65536, .inl B)), (aNx, .inl (kNx, 52650, .inl nx_20))]) hP hD [1, 2, 0] [] rfl rfl (by decide) (by decide) hk1 hFc hP1 hD1
            generalize H1 = H at hP hS ⊢
            have hP : va_P (dC, dI) vwCl [(aM, .inr (4, [.int th, .ref aMT, .int (nI mu), .ref aNw, .ref aNx, .int mw_16, .int mwa_17, .int (nI ma_15), .int (nI en), .long mv_18, .int mf_19, .int ml_21])), (aMT, .inl (kMT, 65536, .inl B)), (aNx, .inl (kNx, 52650, .inl nx_20))] H := hP
            have hD : va_D A [(aM, .inr (4, [.int th, .ref aMT, .int (nI mu), .ref aNw, .ref aNx, .int mw_16, .int mwa_17, .int (nI ma_15), .int (nI en), .long mv_18, .int mf_19, .int ml_21])), (aMT, .inl (kMT, 65536, .inl B)), (aNx, .inl (kNx, 52650, .inl nx_20))] := hD
            simp only [zK_idem] at hw_22
            rcases hw_22 with ⟨rfl, hw_22b, e1, e2, hw_22n, hw_22a, hw_22c, hw_22d, hw_22e⟩ | ⟨rfl, hw_22b, hw_22k, hw_22a, e2⟩
            ·
              have e1 := e1.symm; subst e1
              have e2 := e2.symm; subst e2
              refine lv_if_ne (tgt := 84) hx hb d_Md_scene_79 (by decide) (fun c_23 => ?_) (fun c_23 => ?_)
              ·
                refine lv_iload_n hx hb d_Md_scene_84 rfl (lv_at hl 1 rfl) ?_
                refine lv_iconst (v := 1) hx hb d_Md_scene_85 (by decide) ?_
                refine lv_iadd hx hb d_Md_scene_86 ?_
                refine zt_top (nI_add pq 1) ?_
                refine lv_istore_n (lv' := [(1, .int (nI (pq + 1))), (0, .ref aM), (3, .int (nI pq))]) hx hb d_Md_scene_87 rfl hl (by decide) rfl (fun ls hl => ?_)
                refine lv_iload_n hx hb d_Md_scene_88 rfl (lv_at hl 0 rfl) ?_
                refine lv_bipush (v := 7) hx hb d_Md_scene_89 (by decide) ?_
                refine lv_icmp_ge (tgt := 107) hx hb d_Md_scene_91 (by decide) (fun c_24 => ?_) (fun c_24 => ?_)
                ·
                  have c_24 : 7 ≤ (pq + 1) := (@nI_leI 7 (pq + 1) (by omega) (by omega)).mp c_24
                  refine lv_iconst (v := 0) hx hb d_Md_scene_107 (by decide) ?_
                  refine lv_istore_n (lv' := [(2, .int 0), (1, .int (nI (pq + 1))), (0, .ref aM), (3, .int (nI pq))]) hx hb d_Md_scene_108 rfl hl (by decide) rfl (fun ls hl => ?_)
                  refine lv_aload_n hx hb d_Md_scene_109 rfl (lv_at hl 2 rfl) ?_
                  refine lv_iload_n hx hb d_Md_scene_110 rfl (lv_at hl 0 rfl) ?_
                  refine lv_if_eq (tgt := 123) hx hb d_Md_scene_111 (by decide) (fun c_25 => ?_) (fun c_25 => ?_)
                  ·
                    refine lv_aload_n hx hb d_Md_scene_123 rfl (lv_at hl 2 rfl) ?_
                    refine va_get (D := (dC, dI)) (ci := 4) (v := .int (nI ma_15)) (C := R_Md) (T := F_Md) (N := 12) hx hb hz i_Md hown hK hP 0 rfl rfl 7 (by decide) (hz _ tw_483) (fun _ h9 => h9) rfl d_Md_scene_124 ?_
                    refine va_put (D := (dC, dI)) (ci := 4) (v := .int (nI ma_15)) (ty := .int) (C := R_Md) (T := F_Md) (N := 12) hx hb hz i_Md t_Md t_Md_ok n_Md hown hK hP hD hS 0 rfl rfl 7 (by decide) (hz _ tw_483) (fun _ h9 => h9) rfl (by decide +kernel) rfl rfl (Nat.le_of_ble_eq_true rfl) d_Md_scene_127 (fun H locs hP hD hS => ?_)
                    have hP : va_P (dC, dI) vwCl [(aM, .inr (4, [.int th, .ref aMT, .int (nI mu), .ref aNw, .ref aNx, .int mw, .int mwa, .int (nI ma_15), .int (nI en), .long mv_18, .int mf_19, .int ml_21])), (aMT, .inl (kMT, 65536, .inl B)), (aNx, .inl (kNx, 52650, .inl nx_20))] H := hP
                    have hD : va_D A [(aM, .inr (4, [.int th, .ref aMT, .int (nI mu), .ref aNw, .ref aNx, .int mw, .int mwa, .int (nI ma_15), .int (nI en), .long mv_18, .int mf_19, .int ml_21])), (aMT, .inl (kMT, 65536, .inl B)), (aNx, .inl (kNx, 52650, .inl nx_20))] := hD
                    refine lv_goto (tgt := 28) hx hb d_Md_scene_130 (by decide) ?_
                    refine lv_iload_n hx hb d_Md_scene_28 rfl (lv_at hl 0 rfl) ?_
                    refine lv_if_eq (tgt := 133) hx hb d_Md_scene_29 (by decide) (fun c_26 => ?_) (fun c_26 => ?_)
                    ·
                      have fin_27 : mRd B en cnt nx (zK B en ma) = mFin B en (hw_22n, zK B en ma_15, nx_20) := by rw [hI, mParts_go (by omega) hw_11w, hw_22a, zB_ok, if_neg (fun z => absurd z.1 (by omega))]
                      refine lv_aload_n hx hb d_Md_scene_133 rfl (lv_at hl 2 rfl) ?_
                      refine lv_bipush (v := 125) hx hb d_Md_scene_134 (by decide) ?_
                      have hPc := hP.sub (ws' := [(aM, .inr (4, [.int th, .ref aMT, .int (nI mu), .ref aNw, .ref aNx, .int mw, .int mwa, .int (nI ma_15), .int (nI en), .long mv_18, .int mf_19, .int ml_21])), (aMT, .inl (kMT, 65536, .inl B))]) [0, 1] rfl
                      have hDc := hD.sub (ws' := [(aM, .inr (4, [.int th, .ref aMT, .int (nI mu), .ref aNw, .ref aNx, .int mw, .int mwa, .int (nI ma_15), .int (nI en), .long mv_18, .int mf_19, .int ml_21])), (aMT, .inl (kMT, 65536, .inl B))]) [0, 1] (by decide) rfl
                      have hKc := hK.sub (tys' := [(kMT, .byte)]) [0] rfl
                      have hFc := va_free (wc := [(aM, .inr (4, [.int th, .ref aMT, .int (nI mu), .ref aNw, .ref aNx, .int mw, .int mwa, .int (nI ma_15), .int (nI en), .long mv_18, .int mf_19, .int ml_21])), (aMT, .inl (kMT, 65536, .inl B))]) hD hS hA [0, 1] rfl
                      refine va_calli (va_runV (As := [.int 125]) (rest := []) ⟨hx, hb, hml, hown, hts⟩ (c_Md_sign l G dC dI H.size aM th aMT mu aNw aNx mw mwa ma_15 en mv_18 mf_19 ml_21 kMT B 125 (by omega) (by omega)) (cwV 1 hts (gV tw_537 tw_539 ts_20 tw_5 tw_540 rfl) rfl rfl rfl (by decide +kernel) ⟨Nat.le_of_ble_eq_true rfl, Nat.le_of_ble_eq_true rfl⟩) (PW_preV hPc hKc hDc hE hS hFc (ci := 4) (q0 := 0) rfl rfl) rfl rfl hl.1 rfl (lv_room (Nat.le_of_ble_eq_true rfl)) d_Md_scene_136 ⟨Nat.le_of_ble_eq_true rfl, Nat.le_of_ble_eq_true rfl⟩) hS (fun q _ h => hFc q h) hFc (fun r_28 uu t H1 locs ht hvm hw_32 hB hz1 hk1 hS => ?_)
                      obtain ⟨ma_29, mw_30, mwa_31⟩ := uu
                      obtain ⟨hP1, hD1, hsz1⟩ := hB
                      rw [ht] at hP1 hsz1
                      obtain ⟨hP, hD⟩ := va_join (wr := [(aNx, .inl (kNx, 52650, .inl nx_20))]) (w1 := [(aM, .inr (4, [.int th, .ref aMT, .int (nI mu), .ref aNw, .ref aNx, .int mw_30, .int mwa_31, .int (nI ma_29), .int (nI en), .long mv_18, .int mf_19, .int ml_21])), (aMT, .inl (kMT, 65536, .inl B))]) hP hD [0, 1] [2] rfl rfl (by decide) (by decide) hk1 hFc hP1 hD1
                      generalize H1 = H at hP hS ⊢
                      have hP : va_P (dC, dI) vwCl [(aNx, .inl (kNx, 52650, .inl nx_20)), (aM, .inr (4, [.int th, .ref aMT, .int (nI mu), .ref aNw, .ref aNx, .int mw_30, .int mwa_31, .int (nI ma_29), .int (nI en), .long mv_18, .int mf_19, .int ml_21])), (aMT, .inl (kMT, 65536, .inl B))] H := hP
                      have hD : va_D A [(aNx, .inl (kNx, 52650, .inl nx_20)), (aM, .inr (4, [.int th, .ref aMT, .int (nI mu), .ref aNw, .ref aNx, .int mw_30, .int mwa_31, .int (nI ma_29), .int (nI en), .long mv_18, .int mf_19, .int ml_21])), (aMT, .inl (kMT, 65536, .inl B))] := hD
                      rcases hw_32 with ⟨rfl, hw_32a, hw_32b, e1, e2⟩ | ⟨rfl, hw_32b, hw_32k, hw_32a, e2⟩
                      ·
                        have e1 := e1.symm; subst e1
                        have e2 := e2.symm; subst e2
                        refine lv_if_ne (tgt := 144) hx hb d_Md_scene_139 (by decide) (fun c_33 => ?_) (fun c_33 => ?_)
                        ·
                          refine lv_aload_n hx hb d_Md_scene_144 rfl (lv_at hl 2 rfl) ?_
                          have hPc := hP.sub (ws' := [(aM, .inr (4, [.int th, .ref aMT, .int (nI mu), .ref aNw, .ref aNx, .int mw, .int mwa, .int (nI ma_29), .int (nI en), .long mv_18, .int mf_19, .int ml_21])), (aMT, .inl (kMT, 65536, .inl B))]) [1, 2] rfl
                          have hDc := hD.sub (ws' := [(aM, .inr (4, [.int th, .ref aMT, .int (nI mu), .ref aNw, .ref aNx, .int mw, .int mwa, .int (nI ma_29), .int (nI en), .long mv_18, .int mf_19, .int ml_21])), (aMT, .inl (kMT, 65536, .inl B))]) [1, 2] (by decide) rfl
                          have hKc := hK.sub (tys' := [(kMT, .byte)]) [0] rfl
                          have hFc := va_free (wc := [(aM, .inr (4, [.int th, .ref aMT, .int (nI mu), .ref aNw, .ref aNx, .int mw, .int mwa, .int (nI ma_29), .int (nI en), .long mv_18, .int mf_19, .int ml_21])), (aMT, .inl (kMT, 65536, .inl B))]) hD hS hA [1, 2] rfl
                          refine va_callv (va_runV (As := []) (rest := []) ⟨hx, hb, hml, hown, hts⟩ (c_Md_skip l G dC dI H.size aM th aMT mu aNw aNx mw mwa ma_29 en mv_18 mf_19 ml_21 kMT B (by omega) (by omega)) (cwV 0 hts (gV tw_545 tw_547 ts_22 tw_5 tw_548 rfl) rfl rfl rfl (by decide +kernel) ⟨Nat.le_of_ble_eq_true rfl, Nat.le_of_ble_eq_true rfl⟩) (PW_preV hPc hKc hDc hE hS hFc (ci := 4) (q0 := 0) rfl rfl) rfl rfl hl.1 rfl (lv_room (Nat.le_of_ble_eq_true rfl)) d_Md_scene_145 ⟨Nat.le_of_ble_eq_true rfl, Nat.le_of_ble_eq_true rfl⟩) hS (fun q _ h => hFc q h) hFc (fun uu t H1 locs ht hvm hw_36 hB hz1 hk1 hS => ?_)
                          obtain ⟨ma_35, rfl⟩ : ∃ z, z = uu := ⟨_, rfl⟩
                          obtain ⟨hP1, hD1, hsz1⟩ := hB
                          rw [ht] at hP1 hsz1
                          obtain ⟨hP, hD⟩ := va_join (wr := [(aNx, .inl (kNx, 52650, .inl nx_20))]) (w1 := [(aM, .inr (4, [.int th, .ref aMT, .int (nI mu), .ref aNw, .ref aNx, .int mw, .int mwa, .int (nI ma_35), .int (nI en), .long mv_18, .int mf_19, .int ml_21])), (aMT, .inl (kMT, 65536, .inl B))]) hP hD [1, 2] [0] rfl rfl (by decide) (by decide) hk1 hFc hP1 hD1
                          generalize H1 = H at hP hS ⊢
                          have hP : va_P (dC, dI) vwCl [(aNx, .inl (kNx, 52650, .inl nx_20)), (aM, .inr (4, [.int th, .ref aMT, .int (nI mu), .ref aNw, .ref aNx, .int mw, .int mwa, .int (nI ma_35), .int (nI en), .long mv_18, .int mf_19, .int ml_21])), (aMT, .inl (kMT, 65536, .inl B))] H := hP
                          have hD : va_D A [(aNx, .inl (kNx, 52650, .inl nx_20)), (aM, .inr (4, [.int th, .ref aMT, .int (nI mu), .ref aNw, .ref aNx, .int mw, .int mwa, .int (nI ma_35), .int (nI en), .long mv_18, .int mf_19, .int ml_21])), (aMT, .inl (kMT, 65536, .inl B))] := hD
                          have e1 := hw_36.symm; subst e1
                          have hw_36i := zK_le (B := B) (en := en) (i := ma_29) (by omega)
                          refine lv_aload_n hx hb d_Md_scene_148 rfl (lv_at hl 2 rfl) ?_
                          refine va_get (D := (dC, dI)) (ci := 4) (v := .int (nI (zK B en ma_29))) (C := R_Md) (T := F_Md) (N := 12) hx hb hz i_Md hown hK hP 1 rfl rfl 7 (by decide) (hz _ tw_483) (fun _ h9 => h9) rfl d_Md_scene_149 ?_
                          refine lv_aload_n hx hb d_Md_scene_152 rfl (lv_at hl 2 rfl) ?_
                          refine va_get (D := (dC, dI)) (ci := 4) (v := .int (nI en)) (C := R_Md) (T := F_Md) (N := 12) hx hb hz i_Md hown hK hP 1 rfl rfl 8 (by decide) (hz _ tw_484) (fun _ h9 => h9) rfl d_Md_scene_153 ?_
                          refine lv_icmp_eq (tgt := 171) hx hb d_Md_scene_156 (by decide) (fun c_37 => ?_) (fun c_37 => ?_)
                          ·
                            have c_37 : (zK B en ma_29) = en := (@nI_eq (zK B en ma_29) en (by omega) (by omega)).mp c_37
                            refine lv_iconst (v := 1) hx hb d_Md_scene_171 (by decide) ?_
                            refine lv_goto (tgt := 176) hx hb d_Md_scene_172 (by decide) ?_
                            refine zt_size (fun hzs => ?_)
                            have hP9 := hP.sub (ws' := [(aM, .inr (4, [.int th, .ref aMT, .int (nI mu), .ref aNw, .ref aNx, .int mw, .int mwa, .int (nI (zK B en ma_29)), .int (nI en), .long mv_18, .int mf_19, .int ml_21])), (aMT, .inl (kMT, 65536, .inl B)), (aNx, .inl (kNx, 52650, .inl nx_20))]) [1, 2, 0] rfl
                            have hD9 := hD.sub (ws' := [(aM, .inr (4, [.int th, .ref aMT, .int (nI mu), .ref aNw, .ref aNx, .int mw, .int mwa, .int (nI (zK B en ma_29)), .int (nI en), .long mv_18, .int mf_19, .int ml_21])), (aMT, .inl (kMT, 65536, .inl B)), (aNx, .inl (kNx, 52650, .inl nx_20))]) [1, 2, 0] (by decide) rfl
                            exact W.zret (v := 1) hx hb hr rfl (fun t ht hW => ⟨⟨1, (zK B en ma_29, mw, mwa, mv_18, mf_19, nx_20, ml_21), rfl, Or.inl ⟨rfl, by omega, rfl, rfl, by rw [fin_27]; simp only [mFin, zB_ok, zB_er, hw_32a]; rw [if_pos (by omega)]⟩, by rw [ht]; exact hP9, hD9, by rw [ht]; exact hzs⟩, hS.F ht⟩) hS.2.2 d_Md_scene_176
                          ·
                            have c_37 : ¬ ((zK B en ma_29) = en) := fun z => c_37 ((@nI_eq (zK B en ma_29) en (by omega) (by omega)).mpr z)
                            refine lv_aload_n hx hb d_Md_scene_159 rfl (lv_at hl 2 rfl) ?_
                            refine lv_iconst (v := 1) hx hb d_Md_scene_160 (by decide) ?_
                            refine lv_aload_n hx hb d_Md_scene_161 rfl (lv_at hl 2 rfl) ?_
                            refine va_get (D := (dC, dI)) (ci := 4) (v := .int (nI (zK B en ma_29))) (C := R_Md) (T := F_Md) (N := 12) hx hb hz i_Md hown hK hP 1 rfl rfl 7 (by decide) (hz _ tw_483) (fun _ h9 => h9) rfl d_Md_scene_162 ?_
                            have hPc := hP.sub (ws' := [(aM, .inr (4, [.int th, .ref aMT, .int (nI mu), .ref aNw, .ref aNx, .int mw, .int mwa, .int (nI (zK B en ma_29)), .int (nI en), .long mv_18, .int mf_19, .int ml_21]))]) [1] rfl
                            have hDc := hD.sub (ws' := [(aM, .inr (4, [.int th, .ref aMT, .int (nI mu), .ref aNw, .ref aNx, .int mw, .int mwa, .int (nI (zK B en ma_29)), .int (nI en), .long mv_18, .int mf_19, .int ml_21]))]) [1] (by decide) rfl
                            have hKc := hK.sub (tys' := []) [] rfl
                            have hFc := va_free (wc := [(aM, .inr (4, [.int th, .ref aMT, .int (nI mu), .ref aNw, .ref aNx, .int mw, .int mwa, .int (nI (zK B en ma_29)), .int (nI en), .long mv_18, .int mf_19, .int ml_21]))]) hD hS hA [1] rfl
                            refine va_calli (va_runV (As := [.int 1, .int (nI (zK B en ma_29))]) (rest := []) ⟨hx, hb, hml, hown, hts⟩ (c_Md_fails l G dC dI H.size aM th aMT mu aNw aNx mw mwa (zK B en ma_29) en mv_18 mf_19 ml_21 1 (nI (zK B en ma_29))) (cwV 2 hts (gV tw_549 tw_551 ts_23 tw_5 tw_552 rfl) rfl rfl rfl (by decide +kernel) ⟨Nat.le_of_ble_eq_true rfl, Nat.le_of_ble_eq_true rfl⟩) (PW_preV hPc hKc hDc hE hS hFc (ci := 4) (q0 := 0) rfl rfl) rfl rfl hl.1 rfl (lv_room (Nat.le_of_ble_eq_true rfl)) d_Md_scene_165 ⟨Nat.le_of_ble_eq_true rfl, Nat.le_of_ble_eq_true rfl⟩) hS (fun q _ h => hFc q h) hFc (fun r_38 uu t H1 locs ht hvm hw_41 hB hz1 hk1 hS => ?_)
                            obtain ⟨mw_39, mwa_40⟩ := uu
                            obtain ⟨hP1, hD1, hsz1⟩ := hB
                            rw [ht] at hP1 hsz1
                            obtain ⟨hP, hD⟩ := va_join (wr := [(aNx, .inl (kNx, 52650, .inl nx_20)), (aMT, .inl (kMT, 65536, .inl B))]) (w1 := [(aM, .inr (4, [.int th, .ref aMT, .int (nI mu), .ref aNw, .ref aNx, .int mw_39, .int mwa_40, .int (nI (zK B en ma_29)), .int (nI en), .long mv_18, .int mf_19, .int ml_21]))]) hP hD [1] [0, 2] rfl rfl (by decide) (by decide) hk1 hFc hP1 hD1
                            generalize H1 = H at hP hS ⊢
                            have hP : va_P (dC, dI) vwCl [(aNx, .inl (kNx, 52650, .inl nx_20)), (aMT, .inl (kMT, 65536, .inl B)), (aM, .inr (4, [.int th, .ref aMT, .int (nI mu), .ref aNw, .ref aNx, .int mw_39, .int mwa_40, .int (nI (zK B en ma_29)), .int (nI en), .long mv_18, .int mf_19, .int ml_21]))] H := hP
                            have hD : va_D A [(aNx, .inl (kNx, 52650, .inl nx_20)), (aMT, .inl (kMT, 65536, .inl B)), (aM, .inr (4, [.int th, .ref aMT, .int (nI mu), .ref aNw, .ref aNx, .int mw_39, .int mwa_40, .int (nI (zK B en ma_29)), .int (nI en), .long mv_18, .int mf_19, .int ml_21]))] := hD
                            obtain ⟨e0, e1, e2⟩ := hw_41
                            subst e0
                            have e1 := e1.symm; subst e1
                            have e2 := e2.symm; subst e2
                            refine lv_if_eq (tgt := 175) hx hb d_Md_scene_168 (by decide) (fun c_42 => ?_) (fun c_42 => ?_)
                            ·
                              refine lv_iconst (v := 0) hx hb d_Md_scene_175 (by decide) ?_
                              refine zt_size (fun hzs => ?_)
                              have hP9 := hP.sub (ws' := [(aM, .inr (4, [.int th, .ref aMT, .int (nI mu), .ref aNw, .ref aNx, .int 1, .int (nI (zK B en ma_29)), .int (nI (zK B en ma_29)), .int (nI en), .long mv_18, .int mf_19, .int ml_21])), (aMT, .inl (kMT, 65536, .inl B)), (aNx, .inl (kNx, 52650, .inl nx_20))]) [2, 1, 0] rfl
                              have hD9 := hD.sub (ws' := [(aM, .inr (4, [.int th, .ref aMT, .int (nI mu), .ref aNw, .ref aNx, .int 1, .int (nI (zK B en ma_29)), .int (nI (zK B en ma_29)), .int (nI en), .long mv_18, .int mf_19, .int ml_21])), (aMT, .inl (kMT, 65536, .inl B)), (aNx, .inl (kNx, 52650, .inl nx_20))]) [2, 1, 0] (by decide) rfl
                              exact W.zret (v := 0) hx hb hr rfl (fun t ht hW => ⟨⟨0, (zK B en ma_29, 1, nI (zK B en ma_29), mv_18, mf_19, nx_20, ml_21), rfl, Or.inr ⟨rfl, by omega, _, by rw [fin_27]; simp only [mFin, zB_ok, zB_er, hw_32a]; rw [if_neg (by omega)], rfl⟩, by rw [ht]; exact hP9, hD9, by rw [ht]; exact hzs⟩, hS.F ht⟩) hS.2.2 d_Md_scene_176
                            ·
                              exact absurd (by decide) c_42
                        ·
                          exact absurd c_33 (by decide)
                      ·
                        have e2 := e2.symm; subst e2
                        refine lv_if_ne (tgt := 144) hx hb d_Md_scene_139 (by decide) (fun c_43 => ?_) (fun c_43 => ?_)
                        ·
                          exact absurd (by decide) c_43
                        ·
                          refine lv_iconst (v := 0) hx hb d_Md_scene_142 (by decide) ?_
                          refine zt_size (fun hzs => ?_)
                          have hP9 := hP.sub (ws' := [(aM, .inr (4, [.int th, .ref aMT, .int (nI mu), .ref aNw, .ref aNx, .int mw_30, .int (nI hw_32k), .int (nI ma_29), .int (nI en), .long mv_18, .int mf_19, .int ml_21])), (aMT, .inl (kMT, 65536, .inl B)), (aNx, .inl (kNx, 52650, .inl nx_20))]) [1, 2, 0] rfl
                          have hD9 := hD.sub (ws' := [(aM, .inr (4, [.int th, .ref aMT, .int (nI mu), .ref aNw, .ref aNx, .int mw_30, .int (nI hw_32k), .int (nI ma_29), .int (nI en), .long mv_18, .int mf_19, .int ml_21])), (aMT, .inl (kMT, 65536, .inl B)), (aNx, .inl (kNx, 52650, .inl nx_20))]) [1, 2, 0] (by decide) rfl
                          exact W.zret (v := 0) hx hb hr rfl (fun t ht hW => ⟨⟨0, (ma_29, mw_30, nI hw_32k, mv_18, mf_19, nx_20, ml_21), rfl, Or.inr ⟨rfl, by omega, _, by rw [fin_27]; simp only [mFin, zB_ok, zB_er, hw_32a], rfl⟩, by rw [ht]; exact hP9, hD9, by rw [ht]; exact hzs⟩, hS.F ht⟩) hS.2.2 d_Md_scene_143
                    ·
                      exact absurd (by decide) c_26
                  ·
                    exact absurd (by decide) c_25
                ·
                  have c_24 : ¬ (7 ≤ (pq + 1)) := fun z => c_24 ((@nI_leI 7 (pq + 1) (by omega) (by omega)).mpr z)
                  refine lv_aload_n hx hb d_Md_scene_94 rfl (lv_at hl 1 rfl) ?_
                  refine lv_bipush (v := 44) hx hb d_Md_scene_95 (by decide) ?_
                  have hPc := hP.sub (ws' := [(aM, .inr (4, [.int th, .ref aMT, .int (nI mu), .ref aNw, .ref aNx, .int mw, .int mwa, .int (nI ma_15), .int (nI en), .long mv_18, .int mf_19, .int ml_21])), (aMT, .inl (kMT, 65536, .inl B))]) [0, 1] rfl
                  have hDc := hD.sub (ws' := [(aM, .inr (4, [.int th, .ref aMT, .int (nI mu), .ref aNw, .ref aNx, .int mw, .int mwa, .int (nI ma_15), .int (nI en), .long mv_18, .int mf_19, .int ml_21])), (aMT, .inl (kMT, 65536, .inl B))]) [0, 1] (by decide) rfl
                  have hKc := hK.sub (tys' := [(kMT, .byte)]) [0] rfl
                  have hFc := va_free (wc := [(aM, .inr (4, [.int th, .ref aMT, .int (nI mu), .ref aNw, .ref aNx, .int mw, .int mwa, .int (nI ma_15), .int (nI en), .long mv_18, .int mf_19, .int ml_21])), (aMT, .inl (kMT, 65536, .inl B))]) hD hS hA [0, 1] rfl
                  refine va_calli (va_runV (As := [.int 44]) (rest := []) ⟨hx, hb, hml, hown, hts⟩ (c_Md_comes l G dC dI H.size aM th aMT mu aNw aNx mw mwa ma_15 en mv_18 mf_19 ml_21 kMT B 44 (by omega) (by omega)) (cwV 1 hts (gV tw_541 tw_543 ts_21 tw_5 tw_544 rfl) rfl rfl rfl (by decide +kernel) ⟨Nat.le_of_ble_eq_true rfl, Nat.le_of_ble_eq_true rfl⟩) (PW_preV hPc hKc hDc hE hS hFc (ci := 4) (q0 := 0) rfl rfl) rfl rfl hl.1 rfl (lv_room (Nat.le_of_ble_eq_true rfl)) d_Md_scene_97 ⟨Nat.le_of_ble_eq_true rfl, Nat.le_of_ble_eq_true rfl⟩) hS (fun q _ h => hFc q h) hFc (fun r_44 uu t H1 locs ht hvm hw_46 hB hz1 hk1 hS => ?_)
                  obtain ⟨ma_45, rfl⟩ : ∃ z, z = uu := ⟨_, rfl⟩
                  obtain ⟨hP1, hD1, hsz1⟩ := hB
                  rw [ht] at hP1 hsz1
                  obtain ⟨hP, hD⟩ := va_join (wr := [(aNx, .inl (kNx, 52650, .inl nx_20))]) (w1 := [(aM, .inr (4, [.int th, .ref aMT, .int (nI mu), .ref aNw, .ref aNx, .int mw, .int mwa, .int (nI ma_45), .int (nI en), .long mv_18, .int mf_19, .int ml_21])), (aMT, .inl (kMT, 65536, .inl B))]) hP hD [0, 1] [2] rfl rfl (by decide) (by decide) hk1 hFc hP1 hD1
                  generalize H1 = H at hP hS ⊢
                  have hP : va_P (dC, dI) vwCl [(aNx, .inl (kNx, 52650, .inl nx_20)), (aM, .inr (4, [.int th, .ref aMT, .int (nI mu), .ref aNw, .ref aNx, .int mw, .int mwa, .int (nI ma_45), .int (nI en), .long mv_18, .int mf_19, .int ml_21])), (aMT, .inl (kMT, 65536, .inl B))] H := hP
                  have hD : va_D A [(aNx, .inl (kNx, 52650, .inl nx_20)), (aM, .inr (4, [.int th, .ref aMT, .int (nI mu), .ref aNw, .ref aNx, .int mw, .int mwa, .int (nI ma_45), .int (nI en), .long mv_18, .int mf_19, .int ml_21])), (aMT, .inl (kMT, 65536, .inl B))] := hD
                  have hw_46i := zK_le (B := B) (en := en) (i := ma_15) (by omega)
                  obtain ⟨e1, e2⟩ := hw_46
                  have e1 := e1.symm; subst e1
                  by_cases hs_47 : zK B en ma_15 < en ∧ B (zK B en ma_15) = 44
                  ·
                    rw [if_pos hs_47] at e2; subst e2
                    refine lv_if_eq (tgt := 107) hx hb d_Md_scene_100 (by decide) (fun c_48 => ?_) (fun c_48 => ?_)
                    ·
                      exact absurd c_48 (by decide)
                    ·
                      refine lv_iconst (v := 1) hx hb d_Md_scene_103 (by decide) ?_
                      refine lv_goto (tgt := 108) hx hb d_Md_scene_104 (by decide) ?_
                      refine lv_istore_n (lv' := [(2, .int 1), (1, .int (nI (pq + 1))), (0, .ref aM), (3, .int (nI pq))]) hx hb d_Md_scene_108 rfl hl (by decide) rfl (fun ls hl => ?_)
                      refine lv_aload_n hx hb d_Md_scene_109 rfl (lv_at hl 2 rfl) ?_
                      refine lv_iload_n hx hb d_Md_scene_110 rfl (lv_at hl 0 rfl) ?_
                      refine lv_if_eq (tgt := 123) hx hb d_Md_scene_111 (by decide) (fun c_49 => ?_) (fun c_49 => ?_)
                      ·
                        exact absurd c_49 (by decide)
                      ·
                        refine lv_aload_n hx hb d_Md_scene_114 rfl (lv_at hl 2 rfl) ?_
                        refine va_get (D := (dC, dI)) (ci := 4) (v := .int (nI (zK B en ma_15))) (C := R_Md) (T := F_Md) (N := 12) hx hb hz i_Md hown hK hP 1 rfl rfl 7 (by decide) (hz _ tw_483) (fun _ h9 => h9) rfl d_Md_scene_115 ?_
                        refine lv_iconst (v := 1) hx hb d_Md_scene_118 (by decide) ?_
                        refine lv_iadd hx hb d_Md_scene_119 ?_
                        refine zt_top (nI_add (zK B en ma_15) 1) ?_
                        refine lv_goto (tgt := 127) hx hb d_Md_scene_120 (by decide) ?_
                        refine va_put (D := (dC, dI)) (ci := 4) (v := .int (nI ((zK B en ma_15) + 1))) (ty := .int) (C := R_Md) (T := F_Md) (N := 12) hx hb hz i_Md t_Md t_Md_ok n_Md hown hK hP hD hS 1 rfl rfl 7 (by decide) (hz _ tw_483) (fun _ h9 => h9) rfl (by decide +kernel) rfl rfl (Nat.le_of_ble_eq_true rfl) d_Md_scene_127 (fun H locs hP hD hS => ?_)
                        have hP : va_P (dC, dI) vwCl [(aNx, .inl (kNx, 52650, .inl nx_20)), (aM, .inr (4, [.int th, .ref aMT, .int (nI mu), .ref aNw, .ref aNx, .int mw, .int mwa, .int (nI ((zK B en ma_15) + 1)), .int (nI en), .long mv_18, .int mf_19, .int ml_21])), (aMT, .inl (kMT, 65536, .inl B))] H := hP
                        have hD : va_D A [(aNx, .inl (kNx, 52650, .inl nx_20)), (aM, .inr (4, [.int th, .ref aMT, .int (nI mu), .ref aNw, .ref aNx, .int mw, .int mwa, .int (nI ((zK B en ma_15) + 1)), .int (nI en), .long mv_18, .int mf_19, .int ml_21])), (aMT, .inl (kMT, 65536, .inl B))] := hD
                        refine lv_goto (tgt := 28) hx hb d_Md_scene_130 (by decide) ?_
                        refine lv_iload_n hx hb d_Md_scene_28 rfl (lv_at hl 0 rfl) ?_
                        refine lv_if_eq (tgt := 133) hx hb d_Md_scene_29 (by decide) (fun c_50 => ?_) (fun c_50 => ?_)
                        ·
                          exact absurd c_50 (by decide)
                        ·
                          refine lv_iload_n hx hb d_Md_scene_32 rfl (lv_at hl 1 rfl) ?_
                          refine lv_istore_n (lv' := [(3, .int (nI (pq + 1))), (2, .int 1), (1, .int (nI (pq + 1))), (0, .ref aM)]) hx hb d_Md_scene_33 rfl hl (by decide) rfl (fun ls hl => ?_)
                          exact ih (pq + 1) ((zK B en ma_15) + 1) mv_18 mf_19 ml_21 nx_20 hw_22n (by omega) (by omega) (by omega) hw_22c hw_22d hw_22e (fun z => absurd z (by omega)) (by rw [hI, mParts_go (by omega) hw_11w, hw_22a, zB_ok, if_pos ⟨by omega, hs_47⟩]) _ _ (hP.sub [1, 2, 0] rfl) (hD.sub [1, 2, 0] (by decide) rfl) hS ls (lv_sub hl [3, 0] rfl)
                  ·
                    rw [if_neg hs_47] at e2; subst e2
                    refine lv_if_eq (tgt := 107) hx hb d_Md_scene_100 (by decide) (fun c_51 => ?_) (fun c_51 => ?_)
                    ·
                      refine lv_iconst (v := 0) hx hb d_Md_scene_107 (by decide) ?_
                      refine lv_istore_n (lv' := [(2, .int 0), (1, .int (nI (pq + 1))), (0, .ref aM), (3, .int (nI pq))]) hx hb d_Md_scene_108 rfl hl (by decide) rfl (fun ls hl => ?_)
                      refine lv_aload_n hx hb d_Md_scene_109 rfl (lv_at hl 2 rfl) ?_
                      refine lv_iload_n hx hb d_Md_scene_110 rfl (lv_at hl 0 rfl) ?_
                      refine lv_if_eq (tgt := 123) hx hb d_Md_scene_111 (by decide) (fun c_52 => ?_) (fun c_52 => ?_)
                      ·
                        refine lv_aload_n hx hb d_Md_scene_123 rfl (lv_at hl 2 rfl) ?_
                        refine va_get (D := (dC, dI)) (ci := 4) (v := .int (nI (zK B en ma_15))) (C := R_Md) (T := F_Md) (N := 12) hx hb hz i_Md hown hK hP 1 rfl rfl 7 (by decide) (hz _ tw_483) (fun _ h9 => h9) rfl d_Md_scene_124 ?_
                        refine va_put (D := (dC, dI)) (ci := 4) (v := .int (nI (zK B en ma_15))) (ty := .int) (C := R_Md) (T := F_Md) (N := 12) hx hb hz i_Md t_Md t_Md_ok n_Md hown hK hP hD hS 1 rfl rfl 7 (by decide) (hz _ tw_483) (fun _ h9 => h9) rfl (by decide +kernel) rfl rfl (Nat.le_of_ble_eq_true rfl) d_Md_scene_127 (fun H locs hP hD hS => ?_)
                        have hP : va_P (dC, dI) vwCl [(aNx, .inl (kNx, 52650, .inl nx_20)), (aM, .inr (4, [.int th, .ref aMT, .int (nI mu), .ref aNw, .ref aNx, .int mw, .int mwa, .int (nI (zK B en ma_15)), .int (nI en), .long mv_18, .int mf_19, .int ml_21])), (aMT, .inl (kMT, 65536, .inl B))] H := hP
                        have hD : va_D A [(aNx, .inl (kNx, 52650, .inl nx_20)), (aM, .inr (4, [.int th, .ref aMT, .int (nI mu), .ref aNw, .ref aNx, .int mw, .int mwa, .int (nI (zK B en ma_15)), .int (nI en), .long mv_18, .int mf_19, .int ml_21])), (aMT, .inl (kMT, 65536, .inl B))] := hD
                        refine lv_goto (tgt := 28) hx hb d_Md_scene_130 (by decide) ?_
                        refine lv_iload_n hx hb d_Md_scene_28 rfl (lv_at hl 0 rfl) ?_
                        refine lv_if_eq (tgt := 133) hx hb d_Md_scene_29 (by decide) (fun c_53 => ?_) (fun c_53 => ?_)
                        ·
                          have fin_54 : mRd B en cnt nx (zK B en ma) = mFin B en (hw_22n, zK B en ma_15, nx_20) := by rw [hI, mParts_go (by omega) hw_11w, hw_22a, zB_ok, if_neg (fun z => hs_47 z.2)]
                          refine lv_aload_n hx hb d_Md_scene_133 rfl (lv_at hl 2 rfl) ?_
                          refine lv_bipush (v := 125) hx hb d_Md_scene_134 (by decide) ?_
                          have hPc := hP.sub (ws' := [(aM, .inr (4, [.int th, .ref aMT, .int (nI mu), .ref aNw, .ref aNx, .int mw, .int mwa, .int (nI (zK B en ma_15)), .int (nI en), .long mv_18, .int mf_19, .int ml_21])), (aMT, .inl (kMT, 65536, .inl B))]) [1, 2] rfl
                          have hDc := hD.sub (ws' := [(aM, .inr (4, [.int th, .ref aMT, .int (nI mu), .ref aNw, .ref aNx, .int mw, .int mwa, .int (nI (zK B en ma_15)), .int (nI en), .long mv_18, .int mf_19, .int ml_21])), (aMT, .inl (kMT, 65536, .inl B))]) [1, 2] (by decide) rfl
                          have hKc := hK.sub (tys' := [(kMT, .byte)]) [0] rfl
                          have hFc := va_free (wc := [(aM, .inr (4, [.int th, .ref aMT, .int (nI mu), .ref aNw, .ref aNx, .int mw, .int mwa, .int (nI (zK B en ma_15)), .int (nI en), .long mv_18, .int mf_19, .int ml_21])), (aMT, .inl (kMT, 65536, .inl B))]) hD hS hA [1, 2] rfl
                          refine va_calli (va_runV (As := [.int 125]) (rest := []) ⟨hx, hb, hml, hown, hts⟩ (c_Md_sign l G dC dI H.size aM th aMT mu aNw aNx mw mwa (zK B en ma_15) en mv_18 mf_19 ml_21 kMT B 125 (by omega) (by omega)) (cwV 1 hts (gV tw_537 tw_539 ts_20 tw_5 tw_540 rfl) rfl rfl rfl (by decide +kernel) ⟨Nat.le_of_ble_eq_true rfl, Nat.le_of_ble_eq_true rfl⟩) (PW_preV hPc hKc hDc hE hS hFc (ci := 4) (q0 := 0) rfl rfl) rfl rfl hl.1 rfl (lv_room (Nat.le_of_ble_eq_true rfl)) d_Md_scene_136 ⟨Nat.le_of_ble_eq_true rfl, Nat.le_of_ble_eq_true rfl⟩) hS (fun q _ h => hFc q h) hFc (fun r_55 uu t H1 locs ht hvm hw_59 hB hz1 hk1 hS => ?_)
                          obtain ⟨ma_56, mw_57, mwa_58⟩ := uu
                          obtain ⟨hP1, hD1, hsz1⟩ := hB
                          rw [ht] at hP1 hsz1
                          obtain ⟨hP, hD⟩ := va_join (wr := [(aNx, .inl (kNx, 52650, .inl nx_20))]) (w1 := [(aM, .inr (4, [.int th, .ref aMT, .int (nI mu), .ref aNw, .ref aNx, .int mw_57, .int mwa_58, .int (nI ma_56), .int (nI en), .long mv_18, .int mf_19, .int ml_21])), (aMT, .inl (kMT, 65536, .inl B))]) hP hD [1, 2] [0] rfl rfl (by decide) (by decide) hk1 hFc hP1 hD1
                          generalize H1 = H at hP hS ⊢
                          have hP : va_P (dC, dI) vwCl [(aNx, .inl (kNx, 52650, .inl nx_20)), (aM, .inr (4, [.int th, .ref aMT, .int (nI mu), .ref aNw, .ref aNx, .int mw_57, .int mwa_58, .int (nI ma_56), .int (nI en), .long mv_18, .int mf_19, .int ml_21])), (aMT, .inl (kMT, 65536, .inl B))] H := hP
                          have hD : va_D A [(aNx, .inl (kNx, 52650, .inl nx_20)), (aM, .inr (4, [.int th, .ref aMT, .int (nI mu), .ref aNw, .ref aNx, .int mw_57, .int mwa_58, .int (nI ma_56), .int (nI en), .long mv_18, .int mf_19, .int ml_21])), (aMT, .inl (kMT, 65536, .inl B))] := hD
                          simp only [zK_idem] at hw_59
                          rcases hw_59 with ⟨rfl, hw_59a, hw_59b, e1, e2⟩ | ⟨rfl, hw_59b, hw_59k, hw_59a, e2⟩
                          ·
                            have e1 := e1.symm; subst e1
                            have e2 := e2.symm; subst e2
                            refine lv_if_ne (tgt := 144) hx hb d_Md_scene_139 (by decide) (fun c_60 => ?_) (fun c_60 => ?_)
                            ·
                              refine lv_aload_n hx hb d_Md_scene_144 rfl (lv_at hl 2 rfl) ?_
                              have hPc := hP.sub (ws' := [(aM, .inr (4, [.int th, .ref aMT, .int (nI mu), .ref aNw, .ref aNx, .int mw, .int mwa, .int (nI ma_56), .int (nI en), .long mv_18, .int mf_19, .int ml_21])), (aMT, .inl (kMT, 65536, .inl B))]) [1, 2] rfl
                              have hDc := hD.sub (ws' := [(aM, .inr (4, [.int th, .ref aMT, .int (nI mu), .ref aNw, .ref aNx, .int mw, .int mwa, .int (nI ma_56), .int (nI en), .long mv_18, .int mf_19, .int ml_21])), (aMT, .inl (kMT, 65536, .inl B))]) [1, 2] (by decide) rfl
                              have hKc := hK.sub (tys' := [(kMT, .byte)]) [0] rfl
                              have hFc := va_free (wc := [(aM, .inr (4, [.int th, .ref aMT, .int (nI mu), .ref aNw, .ref aNx, .int mw, .int mwa, .int (nI ma_56), .int (nI en), .long mv_18, .int mf_19, .int ml_21])), (aMT, .inl (kMT, 65536, .inl B))]) hD hS hA [1, 2] rfl
                              refine va_callv (va_runV (As := []) (rest := []) ⟨hx, hb, hml, hown, hts⟩ (c_Md_skip l G dC dI H.size aM th aMT mu aNw aNx mw mwa ma_56 en mv_18 mf_19 ml_21 kMT B (by omega) (by omega)) (cwV 0 hts (gV tw_545 tw_547 ts_22 tw_5 tw_548 rfl) rfl rfl rfl (by decide +kernel) ⟨Nat.le_of_ble_eq_true rfl, Nat.le_of_ble_eq_true rfl⟩) (PW_preV hPc hKc hDc hE hS hFc (ci := 4) (q0 := 0) rfl rfl) rfl rfl hl.1 rfl (lv_room (Nat.le_of_ble_eq_true rfl)) d_Md_scene_145 ⟨Nat.le_of_ble_eq_true rfl, Nat.le_of_ble_eq_true rfl⟩) hS (fun q _ h => hFc q h) hFc (fun uu t H1 locs ht hvm hw_63 hB hz1 hk1 hS => ?_)
                              obtain ⟨ma_62, rfl⟩ : ∃ z, z = uu := ⟨_, rfl⟩
                              obtain ⟨hP1, hD1, hsz1⟩ := hB
                              rw [ht] at hP1 hsz1
                              obtain ⟨hP, hD⟩ := va_join (wr := [(aNx, .inl (kNx, 52650, .inl nx_20))]) (w1 := [(aM, .inr (4, [.int th, .ref aMT, .int (nI mu), .ref aNw, .ref aNx, .int mw, .int mwa, .int (nI ma_62), .int (nI en), .long mv_18, .int mf_19, .int ml_21])), (aMT, .inl (kMT, 65536, .inl B))]) hP hD [1, 2] [0] rfl rfl (by decide) (by decide) hk1 hFc hP1 hD1
                              generalize H1 = H at hP hS ⊢
                              have hP : va_P (dC, dI) vwCl [(aNx, .inl (kNx, 52650, .inl nx_20)), (aM, .inr (4, [.int th, .ref aMT, .int (nI mu), .ref aNw, .ref aNx, .int mw, .int mwa, .int (nI ma_62), .int (nI en), .long mv_18, .int mf_19, .int ml_21])), (aMT, .inl (kMT, 65536, .inl B))] H := hP
                              have hD : va_D A [(aNx, .inl (kNx, 52650, .inl nx_20)), (aM, .inr (4, [.int th, .ref aMT, .int (nI mu), .ref aNw, .ref aNx, .int mw, .int mwa, .int (nI ma_62), .int (nI en), .long mv_18, .int mf_19, .int ml_21])), (aMT, .inl (kMT, 65536, .inl B))] := hD
                              have e1 := hw_63.symm; subst e1
                              have hw_63i := zK_le (B := B) (en := en) (i := ma_56) (by omega)
                              refine lv_aload_n hx hb d_Md_scene_148 rfl (lv_at hl 2 rfl) ?_
                              refine va_get (D := (dC, dI)) (ci := 4) (v := .int (nI (zK B en ma_56))) (C := R_Md) (T := F_Md) (N := 12) hx hb hz i_Md hown hK hP 1 rfl rfl 7 (by decide) (hz _ tw_483) (fun _ h9 => h9) rfl d_Md_scene_149 ?_
                              refine lv_aload_n hx hb d_Md_scene_152 rfl (lv_at hl 2 rfl) ?_
                              refine va_get (D := (dC, dI)) (ci := 4) (v := .int (nI en)) (C := R_Md) (T := F_Md) (N := 12) hx hb hz i_Md hown hK hP 1 rfl rfl 8 (by decide) (hz _ tw_484) (fun _ h9 => h9) rfl d_Md_scene_153 ?_
                              refine lv_icmp_eq (tgt := 171) hx hb d_Md_scene_156 (by decide) (fun c_64 => ?_) (fun c_64 => ?_)
                              ·
                                have c_64 : (zK B en ma_56) = en := (@nI_eq (zK B en ma_56) en (by omega) (by omega)).mp c_64
                                refine lv_iconst (v := 1) hx hb d_Md_scene_171 (by decide) ?_
                                refine lv_goto (tgt := 176) hx hb d_Md_scene_172 (by decide) ?_
                                refine zt_size (fun hzs => ?_)
                                have hP9 := hP.sub (ws' := [(aM, .inr (4, [.int th, .ref aMT, .int (nI mu), .ref aNw, .ref aNx, .int mw, .int mwa, .int (nI (zK B en ma_56)), .int (nI en), .long mv_18, .int mf_19, .int ml_21])), (aMT, .inl (kMT, 65536, .inl B)), (aNx, .inl (kNx, 52650, .inl nx_20))]) [1, 2, 0] rfl
                                have hD9 := hD.sub (ws' := [(aM, .inr (4, [.int th, .ref aMT, .int (nI mu), .ref aNw, .ref aNx, .int mw, .int mwa, .int (nI (zK B en ma_56)), .int (nI en), .long mv_18, .int mf_19, .int ml_21])), (aMT, .inl (kMT, 65536, .inl B)), (aNx, .inl (kNx, 52650, .inl nx_20))]) [1, 2, 0] (by decide) rfl
                                exact W.zret (v := 1) hx hb hr rfl (fun t ht hW => ⟨⟨1, (zK B en ma_56, mw, mwa, mv_18, mf_19, nx_20, ml_21), rfl, Or.inl ⟨rfl, by omega, rfl, rfl, by rw [fin_54]; simp only [mFin, zB_ok, zB_er, hw_59a]; rw [if_pos (by omega)]⟩, by rw [ht]; exact hP9, hD9, by rw [ht]; exact hzs⟩, hS.F ht⟩) hS.2.2 d_Md_scene_176
                              ·
                                have c_64 : ¬ ((zK B en ma_56) = en) := fun z => c_64 ((@nI_eq (zK B en ma_56) en (by omega) (by omega)).mpr z)
                                refine lv_aload_n hx hb d_Md_scene_159 rfl (lv_at hl 2 rfl) ?_
                                refine lv_iconst (v := 1) hx hb d_Md_scene_160 (by decide) ?_
                                refine lv_aload_n hx hb d_Md_scene_161 rfl (lv_at hl 2 rfl) ?_
                                refine va_get (D := (dC, dI)) (ci := 4) (v := .int (nI (zK B en ma_56))) (C := R_Md) (T := F_Md) (N := 12) hx hb hz i_Md hown hK hP 1 rfl rfl 7 (by decide) (hz _ tw_483) (fun _ h9 => h9) rfl d_Md_scene_162 ?_
                                have hPc := hP.sub (ws' := [(aM, .inr (4, [.int th, .ref aMT, .int (nI mu), .ref aNw, .ref aNx, .int mw, .int mwa, .int (nI (zK B en ma_56)), .int (nI en), .long mv_18, .int mf_19, .int ml_21]))]) [1] rfl
                                have hDc := hD.sub (ws' := [(aM, .inr (4, [.int th, .ref aMT, .int (nI mu), .ref aNw, .ref aNx, .int mw, .int mwa, .int (nI (zK B en ma_56)), .int (nI en), .long mv_18, .int mf_19, .int ml_21]))]) [1] (by decide) rfl
                                have hKc := hK.sub (tys' := []) [] rfl
                                have hFc := va_free (wc := [(aM, .inr (4, [.int th, .ref aMT, .int (nI mu), .ref aNw, .ref aNx, .int mw, .int mwa, .int (nI (zK B en ma_56)), .int (nI en), .long mv_18, .int mf_19, .int ml_21]))]) hD hS hA [1] rfl
                                refine va_calli (va_runV (As := [.int 1, .int (nI (zK B en ma_56))]) (rest := []) ⟨hx, hb, hml, hown, hts⟩ (c_Md_fails l G dC dI H.size aM th aMT mu aNw aNx mw mwa (zK B en ma_56) en mv_18 mf_19 ml_21 1 (nI (zK B en ma_56))) (cwV 2 hts (gV tw_549 tw_551 ts_23 tw_5 tw_552 rfl) rfl rfl rfl (by decide +kernel) ⟨Nat.le_of_ble_eq_true rfl, Nat.le_of_ble_eq_true rfl⟩) (PW_preV hPc hKc hDc hE hS hFc (ci := 4) (q0 := 0) rfl rfl) rfl rfl hl.1 rfl (lv_room (Nat.le_of_ble_eq_true rfl)) d_Md_scene_165 ⟨Nat.le_of_ble_eq_true rfl, Nat.le_of_ble_eq_true rfl⟩) hS (fun q _ h => hFc q h) hFc (fun r_65 uu t H1 locs ht hvm hw_68 hB hz1 hk1 hS => ?_)
                                obtain ⟨mw_66, mwa_67⟩ := uu
                                obtain ⟨hP1, hD1, hsz1⟩ := hB
                                rw [ht] at hP1 hsz1
                                obtain ⟨hP, hD⟩ := va_join (wr := [(aNx, .inl (kNx, 52650, .inl nx_20)), (aMT, .inl (kMT, 65536, .inl B))]) (w1 := [(aM, .inr (4, [.int th, .ref aMT, .int (nI mu), .ref aNw, .ref aNx, .int mw_66, .int mwa_67, .int (nI (zK B en ma_56)), .int (nI en), .long mv_18, .int mf_19, .int ml_21]))]) hP hD [1] [0, 2] rfl rfl (by decide) (by decide) hk1 hFc hP1 hD1
                                generalize H1 = H at hP hS ⊢
                                have hP : va_P (dC, dI) vwCl [(aNx, .inl (kNx, 52650, .inl nx_20)), (aMT, .inl (kMT, 65536, .inl B)), (aM, .inr (4, [.int th, .ref aMT, .int (nI mu), .ref aNw, .ref aNx, .int mw_66, .int mwa_67, .int (nI (zK B en ma_56)), .int (nI en), .long mv_18, .int mf_19, .int ml_21]))] H := hP
                                have hD : va_D A [(aNx, .inl (kNx, 52650, .inl nx_20)), (aMT, .inl (kMT, 65536, .inl B)), (aM, .inr (4, [.int th, .ref aMT, .int (nI mu), .ref aNw, .ref aNx, .int mw_66, .int mwa_67, .int (nI (zK B en ma_56)), .int (nI en), .long mv_18, .int mf_19, .int ml_21]))] := hD
                                obtain ⟨e0, e1, e2⟩ := hw_68
                                subst e0
                                have e1 := e1.symm; subst e1
                                have e2 := e2.symm; subst e2
                                refine lv_if_eq (tgt := 175) hx hb d_Md_scene_168 (by decide) (fun c_69 => ?_) (fun c_69 => ?_)
                                ·
                                  refine lv_iconst (v := 0) hx hb d_Md_scene_175 (by decide) ?_
                                  refine zt_size (fun hzs => ?_)
                                  have hP9 := hP.sub (ws' := [(aM, .inr (4, [.int th, .ref aMT, .int (nI mu), .ref aNw, .ref aNx, .int 1, .int (nI (zK B en ma_56)), .int (nI (zK B en ma_56)), .int (nI en), .long mv_18, .int mf_19, .int ml_21])), (aMT, .inl (kMT, 65536, .inl B)), (aNx, .inl (kNx, 52650, .inl nx_20))]) [2, 1, 0] rfl
                                  have hD9 := hD.sub (ws' := [(aM, .inr (4, [.int th, .ref aMT, .int (nI mu), .ref aNw, .ref aNx, .int 1, .int (nI (zK B en ma_56)), .int (nI (zK B en ma_56)), .int (nI en), .long mv_18, .int mf_19, .int ml_21])), (aMT, .inl (kMT, 65536, .inl B)), (aNx, .inl (kNx, 52650, .inl nx_20))]) [2, 1, 0] (by decide) rfl
                                  exact W.zret (v := 0) hx hb hr rfl (fun t ht hW => ⟨⟨0, (zK B en ma_56, 1, nI (zK B en ma_56), mv_18, mf_19, nx_20, ml_21), rfl, Or.inr ⟨rfl, by omega, _, by rw [fin_54]; simp only [mFin, zB_ok, zB_er, hw_59a]; rw [if_neg (by omega)], rfl⟩, by rw [ht]; exact hP9, hD9, by rw [ht]; exact hzs⟩, hS.F ht⟩) hS.2.2 d_Md_scene_176
                                ·
                                  exact absurd (by decide) c_69
                            ·
                              exact absurd c_60 (by decide)
                          ·
                            have e2 := e2.symm; subst e2
                            refine lv_if_ne (tgt := 144) hx hb d_Md_scene_139 (by decide) (fun c_70 => ?_) (fun c_70 => ?_)
                            ·
                              exact absurd (by decide) c_70
                            ·
                              refine lv_iconst (v := 0) hx hb d_Md_scene_142 (by decide) ?_
                              refine zt_size (fun hzs => ?_)
                              have hP9 := hP.sub (ws' := [(aM, .inr (4, [.int th, .ref aMT, .int (nI mu), .ref aNw, .ref aNx, .int mw_57, .int (nI hw_59k), .int (nI ma_56), .int (nI en), .long mv_18, .int mf_19, .int ml_21])), (aMT, .inl (kMT, 65536, .inl B)), (aNx, .inl (kNx, 52650, .inl nx_20))]) [1, 2, 0] rfl
                              have hD9 := hD.sub (ws' := [(aM, .inr (4, [.int th, .ref aMT, .int (nI mu), .ref aNw, .ref aNx, .int mw_57, .int (nI hw_59k), .int (nI ma_56), .int (nI en), .long mv_18, .int mf_19, .int ml_21])), (aMT, .inl (kMT, 65536, .inl B)), (aNx, .inl (kNx, 52650, .inl nx_20))]) [1, 2, 0] (by decide) rfl
                              exact W.zret (v := 0) hx hb hr rfl (fun t ht hW => ⟨⟨0, (ma_56, mw_57, nI hw_59k, mv_18, mf_19, nx_20, ml_21), rfl, Or.inr ⟨rfl, by omega, _, by rw [fin_54]; simp only [mFin, zB_ok, zB_er, hw_59a], rfl⟩, by rw [ht]; exact hP9, hD9, by rw [ht]; exact hzs⟩, hS.F ht⟩) hS.2.2 d_Md_scene_143
                        ·
                          exact absurd (by decide) c_53
                      ·
                        exact absurd (by decide) c_52
                    ·
                      exact absurd (by decide) c_51
              ·
                exact absurd c_23 (by decide)
            ·
              have e2 := e2.symm; subst e2
              refine lv_if_ne (tgt := 84) hx hb d_Md_scene_79 (by decide) (fun c_71 => ?_) (fun c_71 => ?_)
              ·
                exact absurd (by decide) c_71
              ·
                refine lv_iconst (v := 0) hx hb d_Md_scene_82 (by decide) ?_
                refine zt_size (fun hzs => ?_)
                have hP9 := hP.sub (ws' := [(aM, .inr (4, [.int th, .ref aMT, .int (nI mu), .ref aNw, .ref aNx, .int mw_16, .int (nI hw_22k), .int (nI ma_15), .int (nI en), .long mv_18, .int mf_19, .int ml_21])), (aMT, .inl (kMT, 65536, .inl B)), (aNx, .inl (kNx, 52650, .inl nx_20))]) [0, 1, 2] rfl
                have hD9 := hD.sub (ws' := [(aM, .inr (4, [.int th, .ref aMT, .int (nI mu), .ref aNw, .ref aNx, .int mw_16, .int (nI hw_22k), .int (nI ma_15), .int (nI en), .long mv_18, .int mf_19, .int ml_21])), (aMT, .inl (kMT, 65536, .inl B)), (aNx, .inl (kNx, 52650, .inl nx_20))]) [0, 1, 2] (by decide) rfl
                exact W.zret (v := 0) hx hb hr rfl (fun t ht hW => ⟨⟨0, (ma_15, mw_16, nI hw_22k, mv_18, mf_19, nx_20, ml_21), rfl, Or.inr ⟨rfl, by omega, _, by rw [hI, mParts_go (by omega) hw_11w, hw_22a, zB_er], rfl⟩, by rw [ht]; exact hP9, hD9, by rw [ht]; exact hzs⟩, hS.F ht⟩) hS.2.2 d_Md_scene_83
          ·
            exact absurd c_13 (fun z => absurd ((@nI_eq pq 7 (by omega) (by decide)).mp z) (by omega))
        ·
          exact absurd c_12 (by decide)
      ·
        refine lv_if_ne (tgt := 58) hx hb d_Md_scene_49 (by decide) (fun c_72 => ?_) (fun c_72 => ?_)
        ·
          exact absurd (by decide) c_72
        ·
          refine lv_iinc (v := nI (pq + 1)) (lv' := [(3, .int (nI (pq + 1))), (0, .ref aM)]) hx hb d_Md_scene_52 hl (k := 1) rfl (nI_add pq 1) (by decide) rfl (fun ls hl => ?_)
          refine lv_goto (tgt := 34) hx hb d_Md_scene_55 (by decide) ?_
          exact ih (pq + 1) (zK B en ma2) mv2 mf2 ml2 nx2 cn2 (by omega) (by omega) (by omega) hc2 hcm2 (fun j h1 h2 => hz2 j (by omega) h2) (fun _ => zK_idem) (by rw [hI, mParts_no (by omega) hw_11w, zK_idem]) _ _ (hP.sub [1, 2, 0] rfl) (hD.sub [1, 2, 0] (by decide) rfl) hS ls (lv_sub hl [1, 0] rfl)
set_option maxHeartbeats 4000000 in
set_option maxRecDepth 100000 in
theorem c_Md_scene (l : Launch) (G : ZG) (dC : Nat → ClassId) (dI : Nat → Nat → Nat) (sz : Nat) (aM : Nat) (th : Int32) (aMT : Nat) (mu : Nat) (aNw : Nat) (aNx : Nat) (mw : Int32) (mwa : Int32) (ma : Nat) (en : Nat) (mv : Int64) (mf : Int32) (ml : Int32) (kMT : ClassId) (B : Nat → Int32) (kNx : ClassId) (nx : Nat → Int32) (cnt : Nat → Nat) (hen : en ≤ 65536) (hma : ma ≤ en) (hcn : ∀ j, j < 5 → nx j = nI (cnt j)) (hz0 : ∀ j, j < 5 → cnt j = 0) : Met l y_Md_scene w_Md_scene ({ frames := 10, cells := 0, slots := 0, locals := 229 }) (va_Pc [.ref aM] (PW G (dC, dI) [(kMT, .byte), (kNx, .int)] [(aM, .inr (4, [.int th, .ref aMT, .int (nI mu), .ref aNw, .ref aNx, .int mw, .int mwa, .int (nI ma), .int (nI en), .long mv, .int mf, .int ml])), (aMT, .inl (kMT, 65536, .inl B)), (aNx, .inl (kNx, 52650, .inl nx))] sz)) (va_Qi (fun (r : Int32) (uu : Nat × Int32 × Int32 × Int64 × Int32 × (Nat → Int32) × Int32) => (r = 1 ∧ uu.1 ≤ en ∧ uu.2.1 = mw ∧ uu.2.2.1 = mwa ∧ mRd B en cnt nx (zK B en ma) = .ok uu.2.2.2.2.2.1) ∨ (r = 0 ∧ uu.1 ≤ en ∧ ∃ k, mRd B en cnt nx (zK B en ma) = .error (uu.2.1, k) ∧ uu.2.2.1 = nI k)) (fun (uu : Nat × Int32 × Int32 × Int64 × Int32 × (Nat → Int32) × Int32) t => BW (dC, dI) [(aM, .inr (4, [.int th, .ref aMT, .int (nI mu), .ref aNw, .ref aNx, .int uu.2.1, .int uu.2.2.1, .int (nI uu.1), .int (nI en), .long uu.2.2.2.1, .int uu.2.2.2.2.1, .int uu.2.2.2.2.2.2])), (aMT, .inl (kMT, 65536, .inl B)), (aNx, .inl (kNx, 52650, .inl uu.2.2.2.2.2.1))] (va_A [(aM, .inr (4, [.int th, .ref aMT, .int (nI mu), .ref aNw, .ref aNx, .int mw, .int mwa, .int (nI ma), .int (nI en), .long mv, .int mf, .int ml])), (aMT, .inl (kMT, 65536, .inl B)), (aNx, .inl (kNx, 52650, .inl nx))] sz) sz t) (va_A [(aM, .inr (4, [.int th, .ref aMT, .int (nI mu), .ref aNw, .ref aNx, .int mw, .int mwa, .int (nI ma), .int (nI en), .long mv, .int mf, .int ml])), (aMT, .inl (kMT, 65536, .inl B)), (aNx, .inl (kNx, 52650, .inl nx))] sz)) 0 0 (va_A [(aM, .inr (4, [.int th, .ref aMT, .int (nI mu), .ref aNw, .ref aNx, .int mw, .int mwa, .int (nI ma), .int (nI en), .long mv, .int mf, .int ml])), (aMT, .inl (kMT, 65536, .inl B)), (aNx, .inl (kNx, 52650, .inl nx))] sz) := by
  refine Met.ofW (cc := prog_6_method_31_code) (maxL := 4) (ret := (some .boolean)) (by decide) rfl ?_
  intro p e s m args below meth c s₁ Bd hml hv
  obtain ⟨rfl, hsz, hP, hK, hD0, hE⟩ := hv
  have hx := Bd.exec
  have hb := Bd.bytes
  have hr := Bd.returns
  have hts := atoms_spec (ws := w_Md_scene) Bd.pre
  have hown : s.vm.findClass R_Md = some m.cls := findClass_of_methodNamed Bd.named
  have hlocks := Bd.notSynchronized
  have hz : ∀ w ∈ ZW, w.before _ s = true := fun w h => hts w (List.mem_cons_of_mem _ h)
  subst hsz
  have hD := hD0.self (sz := s.heap.size)
  generalize hAe : va_A [(aM, .inr (4, [.int th, .ref aMT, .int (nI mu), .ref aNw, .ref aNx, .int mw, .int mwa, .int (nI ma), .int (nI en), .long mv, .int mf, .int ml])), (aMT, .inl (kMT, 65536, .inl B)), (aNx, .inl (kNx, 52650, .inl nx))] s.heap.size = A at hD hE ⊢
  have hA : ∀ q : Nat, s.heap.size ≤ q → A q := fun q h => by rw [← hAe]; exact Or.inr h
  have hS : va_S A s.heap s.heap [] := va_S.rf
  have hl := lv_entry ([.ref aM]) (n := 4) (Nat.le_of_ble_eq_true rfl)
  rw [lg_entry_eq]
  generalize (lg_sl ([.ref aM]) ++ List.replicate (4 - (lg_sl ([.ref aM])).length) Slot.unset).toArray = ls at hl ⊢
  have hl : lv_has ls 4 [(0, .ref aM)] := hl
  obtain ⟨H, hH⟩ : ∃ z, z = s.heap := ⟨_, rfl⟩
  have hP : va_P (dC, dI) vwCl [(aM, .inr (4, [.int th, .ref aMT, .int (nI mu), .ref aNw, .ref aNx, .int mw, .int mwa, .int (nI ma), .int (nI en), .long mv, .int mf, .int ml])), (aMT, .inl (kMT, 65536, .inl B)), (aNx, .inl (kNx, 52650, .inl nx))] H := by rw [hH]; exact hP
  have hS : va_S A s.heap H [] := by rw [hH]; exact hS
  refine zt_heap hH ?_
  refine lv_aload_n hx hb d_Md_scene_0 rfl (lv_at hl 0 rfl) ?_
  refine lv_bipush (v := 123) hx hb d_Md_scene_1 (by decide) ?_
  have hPc := hP.sub (ws' := [(aM, .inr (4, [.int th, .ref aMT, .int (nI mu), .ref aNw, .ref aNx, .int mw, .int mwa, .int (nI ma), .int (nI en), .long mv, .int mf, .int ml])), (aMT, .inl (kMT, 65536, .inl B))]) [0, 1] rfl
  have hDc := hD.sub (ws' := [(aM, .inr (4, [.int th, .ref aMT, .int (nI mu), .ref aNw, .ref aNx, .int mw, .int mwa, .int (nI ma), .int (nI en), .long mv, .int mf, .int ml])), (aMT, .inl (kMT, 65536, .inl B))]) [0, 1] (by decide) rfl
  have hKc := hK.sub (tys' := [(kMT, .byte)]) [0] rfl
  have hFc := va_free (wc := [(aM, .inr (4, [.int th, .ref aMT, .int (nI mu), .ref aNw, .ref aNx, .int mw, .int mwa, .int (nI ma), .int (nI en), .long mv, .int mf, .int ml])), (aMT, .inl (kMT, 65536, .inl B))]) hD hS hA [0, 1] rfl
  refine va_calli (va_runV (As := [.int 123]) (rest := []) ⟨hx, hb, hml, hown, hts⟩ (c_Md_sign l G dC dI H.size aM th aMT mu aNw aNx mw mwa ma en mv mf ml kMT B 123 (by omega) (by omega)) (cwV 1 hts (gV tw_537 tw_539 ts_20 tw_5 tw_540 rfl) rfl rfl rfl (by decide +kernel) ⟨Nat.le_of_ble_eq_true rfl, Nat.le_of_ble_eq_true rfl⟩) (PW_preV hPc hKc hDc hE hS hFc (ci := 4) (q0 := 0) rfl rfl) rfl rfl hl.1 rfl (lv_room (Nat.le_of_ble_eq_true rfl)) d_Md_scene_3 ⟨Nat.le_of_ble_eq_true rfl, Nat.le_of_ble_eq_true rfl⟩) hS (fun q _ h => hFc q h) hFc (fun r_1 uu t H1 locs ht hvm hw_5 hB hz1 hk1 hS => ?_)
  obtain ⟨ma_2, mw_3, mwa_4⟩ := uu
  obtain ⟨hP1, hD1, hsz1⟩ := hB
  rw [ht] at hP1 hsz1
  obtain ⟨hP, hD⟩ := va_join (wr := [(aNx, .inl (kNx, 52650, .inl nx))]) (w1 := [(aM, .inr (4, [.int th, .ref aMT, .int (nI mu), .ref aNw, .ref aNx, .int mw_3, .int mwa_4, .int (nI ma_2), .int (nI en), .long mv, .int mf, .int ml])), (aMT, .inl (kMT, 65536, .inl B))]) hP hD [0, 1] [2] rfl rfl (by decide) (by decide) hk1 hFc hP1 hD1
  generalize H1 = H at hP hS ⊢
  have hP : va_P (dC, dI) vwCl [(aNx, .inl (kNx, 52650, .inl nx)), (aM, .inr (4, [.int th, .ref aMT, .int (nI mu), .ref aNw, .ref aNx, .int mw_3, .int mwa_4, .int (nI ma_2), .int (nI en), .long mv, .int mf, .int ml])), (aMT, .inl (kMT, 65536, .inl B))] H := hP
  have hD : va_D A [(aNx, .inl (kNx, 52650, .inl nx)), (aM, .inr (4, [.int th, .ref aMT, .int (nI mu), .ref aNw, .ref aNx, .int mw_3, .int mwa_4, .int (nI ma_2), .int (nI en), .long mv, .int mf, .int ml])), (aMT, .inl (kMT, 65536, .inl B))] := hD
  rcases hw_5 with ⟨rfl, hw_5a, hw_5b, e1, e2⟩ | ⟨rfl, hw_5b, hw_5k, hw_5a, e2⟩
  ·
    have e1 := e1.symm; subst e1
    have e2 := e2.symm; subst e2
    refine lv_if_ne (tgt := 11) hx hb d_Md_scene_6 (by decide) (fun c_6 => ?_) (fun c_6 => ?_)
    ·
      refine lv_iconst (v := 0) hx hb d_Md_scene_11 (by decide) ?_
      refine lv_istore_n (lv' := [(1, .int 0), (0, .ref aM)]) hx hb d_Md_scene_12 rfl hl (by decide) rfl (fun ls hl => ?_)
      refine lv_aload_n hx hb d_Md_scene_13 rfl (lv_at hl 1 rfl) ?_
      refine lv_bipush (v := 125) hx hb d_Md_scene_14 (by decide) ?_
      have hPc := hP.sub (ws' := [(aM, .inr (4, [.int th, .ref aMT, .int (nI mu), .ref aNw, .ref aNx, .int mw, .int mwa, .int (nI ma_2), .int (nI en), .long mv, .int mf, .int ml])), (aMT, .inl (kMT, 65536, .inl B))]) [1, 2] rfl
      have hDc := hD.sub (ws' := [(aM, .inr (4, [.int th, .ref aMT, .int (nI mu), .ref aNw, .ref aNx, .int mw, .int mwa, .int (nI ma_2), .int (nI en), .long mv, .int mf, .int ml])), (aMT, .inl (kMT, 65536, .inl B))]) [1, 2] (by decide) rfl
      have hKc := hK.sub (tys' := [(kMT, .byte)]) [0] rfl
      have hFc := va_free (wc := [(aM, .inr (4, [.int th, .ref aMT, .int (nI mu), .ref aNw, .ref aNx, .int mw, .int mwa, .int (nI ma_2), .int (nI en), .long mv, .int mf, .int ml])), (aMT, .inl (kMT, 65536, .inl B))]) hD hS hA [1, 2] rfl
      refine va_calli (va_runV (As := [.int 125]) (rest := []) ⟨hx, hb, hml, hown, hts⟩ (c_Md_comes l G dC dI H.size aM th aMT mu aNw aNx mw mwa ma_2 en mv mf ml kMT B 125 (by omega) (by omega)) (cwV 1 hts (gV tw_541 tw_543 ts_21 tw_5 tw_544 rfl) rfl rfl rfl (by decide +kernel) ⟨Nat.le_of_ble_eq_true rfl, Nat.le_of_ble_eq_true rfl⟩) (PW_preV hPc hKc hDc hE hS hFc (ci := 4) (q0 := 0) rfl rfl) rfl rfl hl.1 rfl (lv_room (Nat.le_of_ble_eq_true rfl)) d_Md_scene_16 ⟨Nat.le_of_ble_eq_true rfl, Nat.le_of_ble_eq_true rfl⟩) hS (fun q _ h => hFc q h) hFc (fun r_7 uu t H1 locs ht hvm hw_9 hB hz1 hk1 hS => ?_)
      obtain ⟨ma_8, rfl⟩ : ∃ z, z = uu := ⟨_, rfl⟩
      obtain ⟨hP1, hD1, hsz1⟩ := hB
      rw [ht] at hP1 hsz1
      obtain ⟨hP, hD⟩ := va_join (wr := [(aNx, .inl (kNx, 52650, .inl nx))]) (w1 := [(aM, .inr (4, [.int th, .ref aMT, .int (nI mu), .ref aNw, .ref aNx, .int mw, .int mwa, .int (nI ma_8), .int (nI en), .long mv, .int mf, .int ml])), (aMT, .inl (kMT, 65536, .inl B))]) hP hD [1, 2] [0] rfl rfl (by decide) (by decide) hk1 hFc hP1 hD1
      generalize H1 = H at hP hS ⊢
      have hP : va_P (dC, dI) vwCl [(aNx, .inl (kNx, 52650, .inl nx)), (aM, .inr (4, [.int th, .ref aMT, .int (nI mu), .ref aNw, .ref aNx, .int mw, .int mwa, .int (nI ma_8), .int (nI en), .long mv, .int mf, .int ml])), (aMT, .inl (kMT, 65536, .inl B))] H := hP
      have hD : va_D A [(aNx, .inl (kNx, 52650, .inl nx)), (aM, .inr (4, [.int th, .ref aMT, .int (nI mu), .ref aNw, .ref aNx, .int mw, .int mwa, .int (nI ma_8), .int (nI en), .long mv, .int mf, .int ml])), (aMT, .inl (kMT, 65536, .inl B))] := hD
      have hw_9i := zK_le (B := B) (en := en) (i := ma_2) (by omega)
      obtain ⟨e1, e2⟩ := hw_9
      have e1 := e1.symm; subst e1
      by_cases hs_10 : zK B en ma_2 < en ∧ B (zK B en ma_2) = 125
      ·
        rw [if_pos hs_10] at e2; subst e2
        refine lv_if_ne (tgt := 26) hx hb d_Md_scene_19 (by decide) (fun c_11 => ?_) (fun c_11 => ?_)
        ·
          refine lv_iconst (v := 0) hx hb d_Md_scene_26 (by decide) ?_
          refine lv_istore_n (lv' := [(2, .int 0), (1, .int 0), (0, .ref aM)]) hx hb d_Md_scene_27 rfl hl (by decide) rfl (fun ls hl => ?_)
          refine lv_iload_n hx hb d_Md_scene_28 rfl (lv_at hl 0 rfl) ?_
          refine lv_if_eq (tgt := 133) hx hb d_Md_scene_29 (by decide) (fun c_12 => ?_) (fun c_12 => ?_)
          ·
            have fin_13 : mRd B en cnt nx (zK B en ma) = mFin B en (cnt, zK B en ma_2, nx) := by simp only [mRd, zB_ok, hw_5a]; rw [if_pos hs_10]
            refine lv_aload_n hx hb d_Md_scene_133 rfl (lv_at hl 2 rfl) ?_
            refine lv_bipush (v := 125) hx hb d_Md_scene_134 (by decide) ?_
            have hPc := hP.sub (ws' := [(aM, .inr (4, [.int th, .ref aMT, .int (nI mu), .ref aNw, .ref aNx, .int mw, .int mwa, .int (nI (zK B en ma_2)), .int (nI en), .long mv, .int mf, .int ml])), (aMT, .inl (kMT, 65536, .inl B))]) [1, 2] rfl
            have hDc := hD.sub (ws' := [(aM, .inr (4, [.int th, .ref aMT, .int (nI mu), .ref aNw, .ref aNx, .int mw, .int mwa, .int (nI (zK B en ma_2)), .int (nI en), .long mv, .int mf, .int ml])), (aMT, .inl (kMT, 65536, .inl B))]) [1, 2] (by decide) rfl
            have hKc := hK.sub (tys' := [(kMT, .byte)]) [0] rfl
            have hFc := va_free (wc := [(aM, .inr (4, [.int th, .ref aMT, .int (nI mu), .ref aNw, .ref aNx, .int mw, .int mwa, .int (nI (zK B en ma_2)), .int (nI en), .long mv, .int mf, .int ml])), (aMT, .inl (kMT, 65536, .inl B))]) hD hS hA [1, 2] rfl
            refine va_calli (va_runV (As := [.int 125]) (rest := []) ⟨hx, hb, hml, hown, hts⟩ (c_Md_sign l G dC dI H.size aM th aMT mu aNw aNx mw mwa (zK B en ma_2) en mv mf ml kMT B 125 (by omega) (by omega)) (cwV 1 hts (gV tw_537 tw_539 ts_20 tw_5 tw_540 rfl) rfl rfl rfl (by decide +kernel) ⟨Nat.le_of_ble_eq_true rfl, Nat.le_of_ble_eq_true rfl⟩) (PW_preV hPc hKc hDc hE hS hFc (ci := 4) (q0 := 0) rfl rfl) rfl rfl hl.1 rfl (lv_room (Nat.le_of_ble_eq_true rfl)) d_Md_scene_136 ⟨Nat.le_of_ble_eq_true rfl, Nat.le_of_ble_eq_true rfl⟩) hS (fun q _ h => hFc q h) hFc (fun r_14 uu t H1 locs ht hvm hw_18 hB hz1 hk1 hS => ?_)
            obtain ⟨ma_15, mw_16, mwa_17⟩ := uu
            obtain ⟨hP1, hD1, hsz1⟩ := hB
            rw [ht] at hP1 hsz1
            obtain ⟨hP, hD⟩ := va_join (wr := [(aNx, .inl (kNx, 52650, .inl nx))]) (w1 := [(aM, .inr (4, [.int th, .ref aMT, .int (nI mu), .ref aNw, .ref aNx, .int mw_16, .int mwa_17, .int (nI ma_15), .int (nI en), .long mv, .int mf, .int ml])), (aMT, .inl (kMT, 65536, .inl B))]) hP hD [1, 2] [0] rfl rfl (by decide) (by decide) hk1 hFc hP1 hD1
            generalize H1 = H at hP hS ⊢
            have hP : va_P (dC, dI) vwCl [(aNx, .inl (kNx, 52650, .inl nx)), (aM, .inr (4, [.int th, .ref aMT, .int (nI mu), .ref aNw, .ref aNx, .int mw_16, .int mwa_17, .int (nI ma_15), .int (nI en), .long mv, .int mf, .int ml])), (aMT, .inl (kMT, 65536, .inl B))] H := hP
            have hD : va_D A [(aNx, .inl (kNx, 52650, .inl nx)), (aM, .inr (4, [.int th, .ref aMT, .int (nI mu), .ref aNw, .ref aNx, .int mw_16, .int mwa_17, .int (nI ma_15), .int (nI en), .long mv, .int mf, .int ml])), (aMT, .inl (kMT, 65536, .inl B))] := hD
            simp only [zK_idem] at hw_18
            rcases hw_18 with ⟨rfl, hw_18a, hw_18b, e1, e2⟩ | ⟨rfl, hw_18b, hw_18k, hw_18a, e2⟩
            ·
              have e1 := e1.symm; subst e1
              have e2 := e2.symm; subst e2
              refine lv_if_ne (tgt := 144) hx hb d_Md_scene_139 (by decide) (fun c_19 => ?_) (fun c_19 => ?_)
              ·
                refine lv_aload_n hx hb d_Md_scene_144 rfl (lv_at hl 2 rfl) ?_
                have hPc := hP.sub (ws' := [(aM, .inr (4, [.int th, .ref aMT, .int (nI mu), .ref aNw, .ref aNx, .int mw, .int mwa, .int (nI ma_15), .int (nI en), .long mv, .int mf, .int ml])), (aMT, .inl (kMT, 65536, .inl B))]) [1, 2] rfl
                have hDc := hD.sub (ws' := [(aM, .inr (4, [.int th, .ref aMT, .int (nI mu), .ref aNw, .ref aNx, .int mw, .int mwa, .int (nI ma_15), .int (nI en), .long mv, .int mf, .int ml])), (aMT, .inl (kMT, 65536, .inl B))]) [1, 2] (by decide) rfl
                have hKc := hK.sub (tys' := [(kMT, .byte)]) [0] rfl
                have hFc := va_free (wc := [(aM, .inr (4, [.int th, .ref aMT, .int (nI mu), .ref aNw, .ref aNx, .int mw, .int mwa, .int (nI ma_15), .int (nI en), .long mv, .int mf, .int ml])), (aMT, .inl (kMT, 65536, .inl B))]) hD hS hA [1, 2] rfl
                refine va_callv (va_runV (As := []) (rest := []) ⟨hx, hb, hml, hown, hts⟩ (c_Md_skip l G dC dI H.size aM th aMT mu aNw aNx mw mwa ma_15 en mv mf ml kMT B (by omega) (by omega)) (cwV 0 hts (gV tw_545 tw_547 ts_22 tw_5 tw_548 rfl) rfl rfl rfl (by decide +kernel) ⟨Nat.le_of_ble_eq_true rfl, Nat.le_of_ble_eq_true rfl⟩) (PW_preV hPc hKc hDc hE hS hFc (ci := 4) (q0 := 0) rfl rfl) rfl rfl hl.1 rfl (lv_room (Nat.le_of_ble_eq_true rfl)) d_Md_scene_145 ⟨Nat.le_of_ble_eq_true rfl, Nat.le_of_ble_eq_true rfl⟩) hS (fun q _ h => hFc q h) hFc (fun uu t H1 locs ht hvm hw_22 hB hz1 hk1 hS => ?_)
                obtain ⟨ma_21, rfl⟩ : ∃ z, z = uu := ⟨_, rfl⟩
                obtain ⟨hP1, hD1, hsz1⟩ := hB
                rw [ht] at hP1 hsz1
                obtain ⟨hP, hD⟩ := va_join (wr := [(aNx, .inl (kNx, 52650, .inl nx))]) (w1 := [(aM, .inr (4, [.int th, .ref aMT, .int (nI mu), .ref aNw, .ref aNx, .int mw, .int mwa, .int (nI ma_21), .int (nI en), .long mv, .int mf, .int ml])), (aMT, .inl (kMT, 65536, .inl B))]) hP hD [1, 2] [0] rfl rfl (by decide) (by decide) hk1 hFc hP1 hD1
                generalize H1 = H at hP hS ⊢
                have hP : va_P (dC, dI) vwCl [(aNx, .inl (kNx, 52650, .inl nx)), (aM, .inr (4, [.int th, .ref aMT, .int (nI mu), .ref aNw, .ref aNx, .int mw, .int mwa, .int (nI ma_21), .int (nI en), .long mv, .int mf, .int ml])), (aMT, .inl (kMT, 65536, .inl B))] H := hP
                have hD : va_D A [(aNx, .inl (kNx, 52650, .inl nx)), (aM, .inr (4, [.int th, .ref aMT, .int (nI mu), .ref aNw, .ref aNx, .int mw, .int mwa, .int (nI ma_21), .int (nI en), .long mv, .int mf, .int ml])), (aMT, .inl (kMT, 65536, .inl B))] := hD
                have e1 := hw_22.symm; subst e1
                have hw_22i := zK_le (B := B) (en := en) (i := ma_15) (by omega)
                refine lv_aload_n hx hb d_Md_scene_148 rfl (lv_at hl 2 rfl) ?_
                refine va_get (D := (dC, dI)) (ci := 4) (v := .int (nI (zK B en ma_15))) (C := R_Md) (T := F_Md) (N := 12) hx hb hz i_Md hown hK hP 1 rfl rfl 7 (by decide) (hz _ tw_483) (fun _ h9 => h9) rfl d_Md_scene_149 ?_
                refine lv_aload_n hx hb d_Md_scene_152 rfl (lv_at hl 2 rfl) ?_
                refine va_get (D := (dC, dI)) (ci := 4) (v := .int (nI en)) (C := R_Md) (T := F_Md) (N := 12) hx hb hz i_Md hown hK hP 1 rfl rfl 8 (by decide) (hz _ tw_484) (fun _ h9 => h9) rfl d_Md_scene_153 ?_
                refine lv_icmp_eq (tgt := 171) hx hb d_Md_scene_156 (by decide) (fun c_23 => ?_) (fun c_23 => ?_)
                ·
                  have c_23 : (zK B en ma_15) = en := (@nI_eq (zK B en ma_15) en (by omega) (by omega)).mp c_23
                  refine lv_iconst (v := 1) hx hb d_Md_scene_171 (by decide) ?_
                  refine lv_goto (tgt := 176) hx hb d_Md_scene_172 (by decide) ?_
                  refine zt_size (fun hzs => ?_)
                  have hP9 := hP.sub (ws' := [(aM, .inr (4, [.int th, .ref aMT, .int (nI mu), .ref aNw, .ref aNx, .int mw, .int mwa, .int (nI (zK B en ma_15)), .int (nI en), .long mv, .int mf, .int ml])), (aMT, .inl (kMT, 65536, .inl B)), (aNx, .inl (kNx, 52650, .inl nx))]) [1, 2, 0] rfl
                  have hD9 := hD.sub (ws' := [(aM, .inr (4, [.int th, .ref aMT, .int (nI mu), .ref aNw, .ref aNx, .int mw, .int mwa, .int (nI (zK B en ma_15)), .int (nI en), .long mv, .int mf, .int ml])), (aMT, .inl (kMT, 65536, .inl B)), (aNx, .inl (kNx, 52650, .inl nx))]) [1, 2, 0] (by decide) rfl
                  exact W.zret (v := 1) hx hb hr rfl (fun t ht hW => ⟨⟨1, (zK B en ma_15, mw, mwa, mv, mf, nx, ml), rfl, Or.inl ⟨rfl, by omega, rfl, rfl, by rw [fin_13]; simp only [mFin, zB_ok, zB_er, hw_18a]; rw [if_pos (by omega)]⟩, by rw [ht]; exact hP9, hD9, by rw [ht]; exact hzs⟩, hS.F ht⟩) hS.2.2 d_Md_scene_176
                ·
                  have c_23 : ¬ ((zK B en ma_15) = en) := fun z => c_23 ((@nI_eq (zK B en ma_15) en (by omega) (by omega)).mpr z)
                  refine lv_aload_n hx hb d_Md_scene_159 rfl (lv_at hl 2 rfl) ?_
                  refine lv_iconst (v := 1) hx hb d_Md_scene_160 (by decide) ?_
                  refine lv_aload_n hx hb d_Md_scene_161 rfl (lv_at hl 2 rfl) ?_
                  refine va_get (D := (dC, dI)) (ci := 4) (v := .int (nI (zK B en ma_15))) (C := R_Md) (T := F_Md) (N := 12) hx hb hz i_Md hown hK hP 1 rfl rfl 7 (by decide) (hz _ tw_483) (fun _ h9 => h9) rfl d_Md_scene_162 ?_
                  have hPc := hP.sub (ws' := [(aM, .inr (4, [.int th, .ref aMT, .int (nI mu), .ref aNw, .ref aNx, .int mw, .int mwa, .int (nI (zK B en ma_15)), .int (nI en), .long mv, .int mf, .int ml]))]) [1] rfl
                  have hDc := hD.sub (ws' := [(aM, .inr (4, [.int th, .ref aMT, .int (nI mu), .ref aNw, .ref aNx, .int mw, .int mwa, .int (nI (zK B en ma_15)), .int (nI en), .long mv, .int mf, .int ml]))]) [1] (by decide) rfl
                  have hKc := hK.sub (tys' := []) [] rfl
                  have hFc := va_free (wc := [(aM, .inr (4, [.int th, .ref aMT, .int (nI mu), .ref aNw, .ref aNx, .int mw, .int mwa, .int (nI (zK B en ma_15)), .int (nI en), .long mv, .int mf, .int ml]))]) hD hS hA [1] rfl
                  refine va_calli (va_runV (As := [.int 1, .int (nI (zK B en ma_15))]) (rest := []) ⟨hx, hb, hml, hown, hts⟩ (c_Md_fails l G dC dI H.size aM th aMT mu aNw aNx mw mwa (zK B en ma_15) en mv mf ml 1 (nI (zK B en ma_15))) (cwV 2 hts (gV tw_549 tw_551 ts_23 tw_5 tw_552 rfl) rfl rfl rfl (by decide +kernel) ⟨Nat.le_of_ble_eq_true rfl, Nat.le_of_ble_eq_true rfl⟩) (PW_preV hPc hKc hDc hE hS hFc (ci := 4) (q0 := 0) rfl rfl) rfl rfl hl.1 rfl (lv_room (Nat.le_of_ble_eq_true rfl)) d_Md_scene_165 ⟨Nat.le_of_ble_eq_true rfl, Nat.le_of_ble_eq_true rfl⟩) hS (fun q _ h => hFc q h) hFc (fun r_24 uu t H1 locs ht hvm hw_27 hB hz1 hk1 hS => ?_)
                  obtain ⟨mw_25, mwa_26⟩ := uu
                  obtain ⟨hP1, hD1, hsz1⟩ := hB
                  rw [ht] at hP1 hsz1
                  obtain ⟨hP, hD⟩ := va_join (wr := [(aNx, .inl (kNx, 52650, .inl nx)), (aMT, .inl (kMT, 65536, .inl B))]) (w1 := [(aM, .inr (4, [.int th, .ref aMT, .int (nI mu), .ref aNw, .ref aNx, .int mw_25, .int mwa_26, .int (nI (zK B en ma_15)), .int (nI en), .long mv, .int mf, .int ml]))]) hP hD [1] [0, 2] rfl rfl (by decide) (by decide) hk1 hFc hP1 hD1
                  generalize H1 = H at hP hS ⊢
                  have hP : va_P (dC, dI) vwCl [(aNx, .inl (kNx, 52650, .inl nx)), (aMT, .inl (kMT, 65536, .inl B)), (aM, .inr (4, [.int th, .ref aMT, .int (nI mu), .ref aNw, .ref aNx, .int mw_25, .int mwa_26, .int (nI (zK B en ma_15)), .int (nI en), .long mv, .int mf, .int ml]))] H := hP
                  have hD : va_D A [(aNx, .inl (kNx, 52650, .inl nx)), (aMT, .inl (kMT, 65536, .inl B)), (aM, .inr (4, [.int th, .ref aMT, .int (nI mu), .ref aNw, .ref aNx, .int mw_25, .int mwa_26, .int (nI (zK B en ma_15)), .int (nI en), .long mv, .int mf, .int ml]))] := hD
                  obtain ⟨e0, e1, e2⟩ := hw_27
                  subst e0
                  have e1 := e1.symm; subst e1
                  have e2 := e2.symm; subst e2
                  refine lv_if_eq (tgt := 175) hx hb d_Md_scene_168 (by decide) (fun c_28 => ?_) (fun c_28 => ?_)
                  ·
                    refine lv_iconst (v := 0) hx hb d_Md_scene_175 (by decide) ?_
                    refine zt_size (fun hzs => ?_)
                    have hP9 := hP.sub (ws' := [(aM, .inr (4, [.int th, .ref aMT, .int (nI mu), .ref aNw, .ref aNx, .int 1, .int (nI (zK B en ma_15)), .int (nI (zK B en ma_15)), .int (nI en), .long mv, .int mf, .int ml])), (aMT, .inl (kMT, 65536, .inl B)), (aNx, .inl (kNx, 52650, .inl nx))]) [2, 1, 0] rfl
                    have hD9 := hD.sub (ws' := [(aM, .inr (4, [.int th, .ref aMT, .int (nI mu), .ref aNw, .ref aNx, .int 1, .int (nI (zK B en ma_15)), .int (nI (zK B en ma_15)), .int (nI en), .long mv, .int mf, .int ml])), (aMT, .inl (kMT, 65536, .inl B)), (aNx, .inl (kNx, 52650, .inl nx))]) [2, 1, 0] (by decide) rfl
                    exact W.zret (v := 0) hx hb hr rfl (fun t ht hW => ⟨⟨0, (zK B en ma_15, 1, nI (zK B en ma_15), mv, mf, nx, ml), rfl, Or.inr ⟨rfl, by omega, _, by rw [fin_13]; simp only [mFin, zB_ok, zB_er, hw_18a]; rw [if_neg (by omega)], rfl⟩, by rw [ht]; exact hP9, hD9, by rw [ht]; exact hzs⟩, hS.F ht⟩) hS.2.2 d_Md_scene_176
                  ·
                    exact absurd (by decide) c_28
              ·
                exact absurd c_19 (by decide)
            ·
              have e2 := e2.symm; subst e2
              refine lv_if_ne (tgt := 144) hx hb d_Md_scene_139 (by decide) (fun c_29 => ?_) (fun c_29 => ?_)
              ·
                exact absurd (by decide) c_29
              ·
                refine lv_iconst (v := 0) hx hb d_Md_scene_142 (by decide) ?_
                refine zt_size (fun hzs => ?_)
                have hP9 := hP.sub (ws' := [(aM, .inr (4, [.int th, .ref aMT, .int (nI mu), .ref aNw, .ref aNx, .int mw_16, .int (nI hw_18k), .int (nI ma_15), .int (nI en), .long mv, .int mf, .int ml])), (aMT, .inl (kMT, 65536, .inl B)), (aNx, .inl (kNx, 52650, .inl nx))]) [1, 2, 0] rfl
                have hD9 := hD.sub (ws' := [(aM, .inr (4, [.int th, .ref aMT, .int (nI mu), .ref aNw, .ref aNx, .int mw_16, .int (nI hw_18k), .int (nI ma_15), .int (nI en), .long mv, .int mf, .int ml])), (aMT, .inl (kMT, 65536, .inl B)), (aNx, .inl (kNx, 52650, .inl nx))]) [1, 2, 0] (by decide) rfl
                exact W.zret (v := 0) hx hb hr rfl (fun t ht hW => ⟨⟨0, (ma_15, mw_16, nI hw_18k, mv, mf, nx, ml), rfl, Or.inr ⟨rfl, by omega, _, by rw [fin_13]; simp only [mFin, zB_ok, zB_er, hw_18a], rfl⟩, by rw [ht]; exact hP9, hD9, by rw [ht]; exact hzs⟩, hS.F ht⟩) hS.2.2 d_Md_scene_143
          ·
            exact absurd (by decide) c_12
        ·
          exact absurd c_11 (by decide)
      ·
        rw [if_neg hs_10] at e2; subst e2
        refine lv_if_ne (tgt := 26) hx hb d_Md_scene_19 (by decide) (fun c_30 => ?_) (fun c_30 => ?_)
        ·
          exact absurd (by decide) c_30
        ·
          refine lv_iconst (v := 1) hx hb d_Md_scene_22 (by decide) ?_
          refine lv_goto (tgt := 27) hx hb d_Md_scene_23 (by decide) ?_
          refine lv_istore_n (lv' := [(2, .int 1), (1, .int 0), (0, .ref aM)]) hx hb d_Md_scene_27 rfl hl (by decide) rfl (fun ls hl => ?_)
          refine lv_iload_n hx hb d_Md_scene_28 rfl (lv_at hl 0 rfl) ?_
          refine lv_if_eq (tgt := 133) hx hb d_Md_scene_29 (by decide) (fun c_31 => ?_) (fun c_31 => ?_)
          ·
            exact absurd c_31 (by decide)
          ·
            refine lv_iload_n hx hb d_Md_scene_32 rfl (lv_at hl 1 rfl) ?_
            refine lv_istore_n (lv' := [(3, .int 0), (2, .int 1), (1, .int 0), (0, .ref aM)]) hx hb d_Md_scene_33 rfl hl (by decide) rfl (fun ls hl => ?_)
            exact lp_Md_scene l G dC dI aM th aMT mu aNw aNx mw mwa ma en mv mf ml kMT B kNx nx cnt hen hma hcn hz0 ⟨hx, hb, hr, hml, hown, hts, hlocks⟩ hA hK hE 8 0 (zK B en ma_2) mv mf ml nx cnt (by omega) (by omega) (by omega) hcn (fun j hj => by rw [hz0 j hj]; omega) (fun j _ hj => hz0 j hj) (fun z => absurd z (by omega)) (by rw [zK_idem]; simp only [mRd, zB_ok, hw_5a]; rw [if_neg hs_10]) _ _ (hP.sub [1, 2, 0] rfl) (hD.sub [1, 2, 0] (by decide) rfl) hS ls (lv_sub hl [3, 0] rfl)
    ·
      exact absurd c_6 (by decide)
  ·
    have e2 := e2.symm; subst e2
    refine lv_if_ne (tgt := 11) hx hb d_Md_scene_6 (by decide) (fun c_32 => ?_) (fun c_32 => ?_)
    ·
      exact absurd (by decide) c_32
    ·
      refine lv_iconst (v := 0) hx hb d_Md_scene_9 (by decide) ?_
      refine zt_size (fun hzs => ?_)
      have hP9 := hP.sub (ws' := [(aM, .inr (4, [.int th, .ref aMT, .int (nI mu), .ref aNw, .ref aNx, .int mw_3, .int (nI hw_5k), .int (nI ma_2), .int (nI en), .long mv, .int mf, .int ml])), (aMT, .inl (kMT, 65536, .inl B)), (aNx, .inl (kNx, 52650, .inl nx))]) [1, 2, 0] rfl
      have hD9 := hD.sub (ws' := [(aM, .inr (4, [.int th, .ref aMT, .int (nI mu), .ref aNw, .ref aNx, .int mw_3, .int (nI hw_5k), .int (nI ma_2), .int (nI en), .long mv, .int mf, .int ml])), (aMT, .inl (kMT, 65536, .inl B)), (aNx, .inl (kNx, 52650, .inl nx))]) [1, 2, 0] (by decide) rfl
      exact W.zret (v := 0) hx hb hr rfl (fun t ht hW => ⟨⟨0, (ma_2, mw_3, nI hw_5k, mv, mf, nx, ml), rfl, Or.inr ⟨rfl, by omega, _, by simp only [mRd, zB_er, hw_5a], rfl⟩, by rw [ht]; exact hP9, hD9, by rw [ht]; exact hzs⟩, hS.F ht⟩) hS.2.2 d_Md_scene_10
