set_option maxHeartbeats 4000000 in
set_option maxRecDepth 100000 in
theorem lp_Rd_takeList (l : Launch) (hst : l.stackTraces = false) (G : ZG) (dC : Nat → ClassId) (dI : Nat → Nat → Nat) (aR : Nat) (aT : Nat) (aS : Nat) (aB : Nat) (u : Nat) (en : Nat) (h : Nat) (na : Int32) (w : Int32) (wa : Int32) (kB : ClassId) (B : Nat → Int32) (aN : Nat) (aC : Nat) (kN : ClassId) (cnt : Nat → Nat) (kC : ClassId) (cel : Nat → Int32) (fm : Int32) (le : Nat) (mo : Nat) (ce : Nat) (low : Int32) (hig : Int32) (hen : en ≤ 65536) (hh : h ≤ en) (hle : le ≤ 3072) (hmo : mo ≤ 3072) (hce : ce + mo ≤ 52035) {p : Program} {e : Env} {s : State} {m : MethodId} {args : Array Value} {below : List Frame} {meth : Method} {c : Code} {A : Nat → Prop} (C0 : zC p s m args meth c prog_2_method_14_code 11 (some .int) R_Rd w_Rd_takeList) (hA : ∀ q : Nat, s.heap.size ≤ q → A q) (hK : va_K (dC, dI) vwCl [(kB, .byte), (kN, .int), (kC, .int)] s) (hE : zE G A s s.heap) (htab : ∀ x ∈ c.exceptionTable.toList, False) : ∀ (n : Nat) (j : Nat) (lw : Int32) (h2 : Nat) (na2 : Int32) (cel2 : Nat → Int32), (j ≤ mo) → (mo + 1 ≤ j + n) → (h2 ≤ en) → (zList B en (decide (fm = 2)) (decide (fm = 1)) le mo ce low hig h cel = zB (zLst B en (decide (fm = 2)) mo ce low hig (mo + 1 - j) j lw h2 cel2) (zTail B en (decide (fm = 1)) le)) → ∀ (H : Heap) (locs : List Loc), va_P (dC, dI) vwCl [(aR, .inr (0, [.ref aT, .ref aS])), (aT, .inr (2, [.ref aB, .int (nI u), .int (nI en), .int (nI h2), .int na2, .int w, .int wa])), (aB, .inl (kB, 65536, .inl B)), (aS, .inr (1, [.ref aN, .ref aC])), (aN, .inl (kN, 5, .inl (fun j => nI (cnt j)))), (aC, .inl (kC, 52035, .inl cel2))] H → va_D A [(aR, .inr (0, [.ref aT, .ref aS])), (aT, .inr (2, [.ref aB, .int (nI u), .int (nI en), .int (nI h2), .int na2, .int w, .int wa])), (aB, .inl (kB, 65536, .inl B)), (aS, .inr (1, [.ref aN, .ref aC])), (aN, .inl (kN, 5, .inl (fun j => nI (cnt j)))), (aC, .inl (kC, 52035, .inl cel2))] → va_S A s.heap H locs → ∀ (ls : Array Slot), lv_has ls 11 [(0, .ref aR), (1, .int fm), (2, .int (nI le)), (3, .int (nI mo)), (4, .int (nI ce)), (5, .int low), (6, .int hig), (7, .int lw), (8, .int (nI j))] → W p l e ({ frames := 8, cells := 1, slots := 6, locals := 128 }) s m args below meth c H locs 0 0 (vx_MQ below (va_Qi (fun (r : Int32) (uu : Nat × Int32 × (Nat → Int32) × Nat) => r = nI uu.2.2.2 ∧ zList B en (decide (fm = 2)) (decide (fm = 1)) le mo ce low hig h cel = .ok (uu.2.2.2, uu.1, uu.2.2.1)) (fun (uu : Nat × Int32 × (Nat → Int32) × Nat) t => BW (dC, dI) [(aR, .inr (0, [.ref aT, .ref aS])), (aT, .inr (2, [.ref aB, .int (nI u), .int (nI en), .int (nI uu.1), .int uu.2.1, .int w, .int wa])), (aB, .inl (kB, 65536, .inl B)), (aS, .inr (1, [.ref aN, .ref aC])), (aN, .inl (kN, 5, .inl (fun j => nI (cnt j)))), (aC, .inl (kC, 52035, .inl uu.2.2.1))] A s.heap.size t) A) (vx_X (fun (uu : Int32 × Nat × Nat × Int32 × (Nat → Nat) × (Nat → Int32)) => zList B en (decide (fm = 2)) (decide (fm = 1)) le mo ce low hig h cel = .error (uu.1, uu.2.1)) (fun E (uu : Int32 × Nat × Nat × Int32 × (Nat → Nat) × (Nat → Int32)) t => E = "java/lang/IllegalArgumentException" ∧ va_P (dC, dI) vwCl [(aR, .inr (0, [.ref aT, .ref aS])), (aT, .inr (2, [.ref aB, .int (nI u), .int (nI en), .int (nI uu.2.2.1), .int uu.2.2.2.1, .int uu.1, .int (nI uu.2.1)])), (aB, .inl (kB, 65536, .inl B)), (aS, .inr (1, [.ref aN, .ref aC])), (aN, .inl (kN, 5, .inl (fun j => nI (uu.2.2.2.2.1 j)))), (aC, .inl (kC, 52035, .inl uu.2.2.2.2.2))] t.heap ∧ va_D A [(aR, .inr (0, [.ref aT, .ref aS])), (aT, .inr (2, [.ref aB, .int (nI u), .int (nI en), .int (nI uu.2.2.1), .int uu.2.2.2.1, .int uu.1, .int (nI uu.2.1)])), (aB, .inl (kB, 65536, .inl B)), (aS, .inr (1, [.ref aN, .ref aC])), (aN, .inl (kN, 5, .inl (fun j => nI (uu.2.2.2.2.1 j)))), (aC, .inl (kC, 52035, .inl uu.2.2.2.2.2))]) A) args s 1 6 A) (F0 m 46 ls []) := by
  obtain ⟨hx, hb, hr, hml, hown, hts, hlocks⟩ := C0
  have hz : ∀ w ∈ ZW, w.before _ s = true := fun w h => hts w (List.mem_cons_of_mem _ h)
  intro n
  induction n with
  | zero =>
    intro j lw h2 na2 cel2 hj hn hh2 hI H locs hP hD hS ls hl
    exact absurd hn (by omega)
  | succ n ih =>
    intro j lw h2 na2 cel2 hj hn hh2 hI H locs hP hD hS ls hl
    refine lv_aload_n hx hb d_Rd_takeList_46 rfl (lv_at hl 0 rfl) ?_
    refine va_get (D := (dC, dI)) (ci := 0) (v := .ref aT) (C := R_Rd) (T := F_Rd) (N := 2) hx hb hz i_Rd hown hK hP 0 rfl rfl 0 (by decide) (hz _ tw_84) (fun _ h9 => h9) rfl d_Rd_takeList_47 ?_
    have hPc := hP.sub (ws' := [(aT, .inr (2, [.ref aB, .int (nI u), .int (nI en), .int (nI h2), .int na2, .int w, .int wa])), (aB, .inl (kB, 65536, .inl B))]) [1, 2] rfl
    have hDc := hD.sub (ws' := [(aT, .inr (2, [.ref aB, .int (nI u), .int (nI en), .int (nI h2), .int na2, .int w, .int wa])), (aB, .inl (kB, 65536, .inl B))]) [1, 2] (by decide) rfl
    have hKc := hK.sub (tys' := [(kB, .byte)]) [0] rfl
    have hFc := va_free (wc := [(aT, .inr (2, [.ref aB, .int (nI u), .int (nI en), .int (nI h2), .int na2, .int w, .int wa])), (aB, .inl (kB, 65536, .inl B))]) hD hS hA [1, 2] rfl
    refine zt_size (fun hzs => ?_)
    refine vx_calli (vx_runV (As := []) (rest := []) ⟨hx, hb, hml, hown, hts⟩ (c_Tp_takeNumber l hst G dC dI H.size aT aB u en h2 na2 w wa kB B (by omega) (by omega)) (cwV 0 hts (gV tw_370 tw_371 tw_372 tw_3 tw_373 rfl) rfl rfl rfl (by decide +kernel) ⟨Nat.le_of_ble_eq_true rfl, Nat.le_of_ble_eq_true rfl⟩) (PW_preV hPc hKc hDc hE hS hFc (ci := 2) (q0 := 0) rfl rfl) rfl rfl hl.1 rfl (lv_room (Nat.le_of_ble_eq_true rfl)) d_Rd_takeList_50 ⟨Nat.le_of_ble_eq_true rfl, Nat.le_of_ble_eq_true rfl⟩) hS (fun q _ h => hFc q h) hFc (fun q _ h => hFc q h) (fun E9 ce9 q9 uu t H1 locs ht hvm hx_9 hB hz1 hk1 hS hce hcv hcl => ?_) (fun r_1 uu t H1 locs ht hvm hw_4 hB hz1 hk1 hS => ?_)
    ·
      obtain ⟨w_5, k_6, h_7, na_8⟩ := uu
      obtain ⟨hEn, hP1, hD1⟩ := hB
      rw [ht] at hP1
      obtain ⟨hP, hD⟩ := va_join (wr := [(aR, .inr (0, [.ref aT, .ref aS])), (aS, .inr (1, [.ref aN, .ref aC])), (aN, .inl (kN, 5, .inl (fun j => nI (cnt j)))), (aC, .inl (kC, 52035, .inl cel2))]) (w1 := [(aT, .inr (2, [.ref aB, .int (nI u), .int (nI en), .int (nI h_7), .int na_8, .int w_5, .int (nI k_6)])), (aB, .inl (kB, 65536, .inl B))]) hP hD [1, 2] [0, 3, 4, 5] rfl rfl (by decide) (by decide) hk1 hFc hP1 hD1
      generalize H1 = H at hP hS hce ⊢
      have hP : va_P (dC, dI) vwCl [(aR, .inr (0, [.ref aT, .ref aS])), (aS, .inr (1, [.ref aN, .ref aC])), (aN, .inl (kN, 5, .inl (fun j => nI (cnt j)))), (aC, .inl (kC, 52035, .inl cel2)), (aT, .inr (2, [.ref aB, .int (nI u), .int (nI en), .int (nI h_7), .int na_8, .int w_5, .int (nI k_6)])), (aB, .inl (kB, 65536, .inl B))] H := hP
      have hD : va_D A [(aR, .inr (0, [.ref aT, .ref aS])), (aS, .inr (1, [.ref aN, .ref aC])), (aN, .inl (kN, 5, .inl (fun j => nI (cnt j)))), (aC, .inl (kC, 52035, .inl cel2)), (aT, .inr (2, [.ref aB, .int (nI u), .int (nI en), .int (nI h_7), .int na_8, .int w_5, .int (nI k_6)])), (aB, .inl (kB, 65536, .inl B))] := hD
      have hP9 := hP.sub (ws' := [(aR, .inr (0, [.ref aT, .ref aS])), (aT, .inr (2, [.ref aB, .int (nI u), .int (nI en), .int (nI h_7), .int na_8, .int w_5, .int (nI k_6)])), (aB, .inl (kB, 65536, .inl B)), (aS, .inr (1, [.ref aN, .ref aC])), (aN, .inl (kN, 5, .inl (fun j => nI (cnt j)))), (aC, .inl (kC, 52035, .inl cel2))]) [0, 4, 5, 1, 2, 3] rfl
      have hD9 := hD.sub (ws' := [(aR, .inr (0, [.ref aT, .ref aS])), (aT, .inr (2, [.ref aB, .int (nI u), .int (nI en), .int (nI h_7), .int na_8, .int w_5, .int (nI k_6)])), (aB, .inl (kB, 65536, .inl B)), (aS, .inr (1, [.ref aN, .ref aC])), (aN, .inl (kN, 5, .inl (fun j => nI (cnt j)))), (aC, .inl (kC, 52035, .inl cel2))]) [0, 4, 5, 1, 2, 3] (by decide) rfl
      exact vx_out (fun x hx => (htab x hx).elim) hlocks hce hcv hcl (fun t ht hvm => ⟨(w_5, k_6, h_7, na_8, cnt, cel2), by rw [hI, zLst_step (by omega), hx_9, zB_er, zB_er], ⟨hEn, by rw [ht]; exact hP9, hD9⟩, hS.F ht⟩) hS.2.2 (by decide) (by decide)
    ·
      obtain ⟨h_2, na_3⟩ := uu
      obtain ⟨hP1, hD1, hsz1⟩ := hB
      rw [ht] at hP1 hsz1
      obtain ⟨hP, hD⟩ := va_join (wr := [(aR, .inr (0, [.ref aT, .ref aS])), (aS, .inr (1, [.ref aN, .ref aC])), (aN, .inl (kN, 5, .inl (fun j => nI (cnt j)))), (aC, .inl (kC, 52035, .inl cel2))]) (w1 := [(aT, .inr (2, [.ref aB, .int (nI u), .int (nI en), .int (nI h_2), .int na_3, .int w, .int wa])), (aB, .inl (kB, 65536, .inl B))]) hP hD [1, 2] [0, 3, 4, 5] rfl rfl (by decide) (by decide) hk1 hFc hP1 hD1
      refine zt_tight (hsz1.trans hzs) ?_
      generalize H1 = H at hP hS ⊢
      have hP : va_P (dC, dI) vwCl [(aR, .inr (0, [.ref aT, .ref aS])), (aS, .inr (1, [.ref aN, .ref aC])), (aN, .inl (kN, 5, .inl (fun j => nI (cnt j)))), (aC, .inl (kC, 52035, .inl cel2)), (aT, .inr (2, [.ref aB, .int (nI u), .int (nI en), .int (nI h_2), .int na_3, .int w, .int wa])), (aB, .inl (kB, 65536, .inl B))] H := hP
      have hD : va_D A [(aR, .inr (0, [.ref aT, .ref aS])), (aS, .inr (1, [.ref aN, .ref aC])), (aN, .inl (kN, 5, .inl (fun j => nI (cnt j)))), (aC, .inl (kC, 52035, .inl cel2)), (aT, .inr (2, [.ref aB, .int (nI u), .int (nI en), .int (nI h_2), .int na_3, .int w, .int wa])), (aB, .inl (kB, 65536, .inl B))] := hD
      obtain ⟨hw_4a, rfl⟩ := hw_4
      have hw_4i := zNum_in (by omega) hw_4a
      refine lv_istore (lv' := [(10, .int r_1), (0, .ref aR), (1, .int fm), (2, .int (nI le)), (3, .int (nI mo)), (4, .int (nI ce)), (5, .int low), (6, .int hig), (7, .int lw), (8, .int (nI j))]) hx hb d_Rd_takeList_53 hl (by decide) rfl (fun ls hl => ?_)
      refine lv_iload hx hb d_Rd_takeList_55 (lv_at hl 9 rfl) ?_
      refine lv_iload_n hx hb d_Rd_takeList_57 rfl (lv_at hl 4 rfl) ?_
      refine lv_icmp_ne (tgt := 76) hx hb d_Rd_takeList_58 (by decide) (fun c_10 => ?_) (fun c_10 => ?_)
      ·
        have c_10 : ¬ (j = mo) := fun z => c_10 ((@nI_eq j mo (by omega) (by omega)).mpr z)
        refine lv_iload hx hb d_Rd_takeList_76 (lv_at hl 0 rfl) ?_
        refine lv_iload hx hb d_Rd_takeList_78 (lv_at hl 8 rfl) ?_
        refine lv_icmp_lt (tgt := 90) hx hb d_Rd_takeList_80 (by decide) (fun c_11 => ?_) (fun c_11 => ?_)
        ·
          refine lv_aload_n hx hb d_Rd_takeList_90 rfl (lv_at hl 1 rfl) ?_
          refine va_get (D := (dC, dI)) (ci := 0) (v := .ref aT) (C := R_Rd) (T := F_Rd) (N := 2) hx hb hz i_Rd hown hK hP 0 rfl rfl 0 (by decide) (hz _ tw_84) (fun _ h9 => h9) rfl d_Rd_takeList_91 ?_
          refine lv_iconst (v := 2) hx hb d_Rd_takeList_94 (by decide) ?_
          refine lv_aload_n hx hb d_Rd_takeList_95 rfl (lv_at hl 1 rfl) ?_
          refine va_get (D := (dC, dI)) (ci := 0) (v := .ref aT) (C := R_Rd) (T := F_Rd) (N := 2) hx hb hz i_Rd hown hK hP 0 rfl rfl 0 (by decide) (hz _ tw_84) (fun _ h9 => h9) rfl d_Rd_takeList_96 ?_
          refine va_getN (D := (dC, dI)) (ci := 2) (v := .int (nI h2)) (C := R_Tp) (T := F_Tp) (N := 7) hx hb hz i_Tp hown hK hP 4 rfl rfl 4 (by decide) (va_Nw.use rfl (hE.1 _ (List.mem_of_getElem? (i := 4) rfl))) (fun _ h9 => h9) rfl d_Rd_takeList_99 ?_
          have hPc := hP.sub (ws' := [(aT, .inr (2, [.ref aB, .int (nI u), .int (nI en), .int (nI h_2), .int (nI h2), .int w, .int wa])), (aB, .inl (kB, 65536, .inl B))]) [4, 5] rfl
          have hDc := hD.sub (ws' := [(aT, .inr (2, [.ref aB, .int (nI u), .int (nI en), .int (nI h_2), .int (nI h2), .int w, .int wa])), (aB, .inl (kB, 65536, .inl B))]) [4, 5] (by decide) rfl
          have hKc := hK.sub (tys' := [(kB, .byte)]) [0] rfl
          have hFc := va_free (wc := [(aT, .inr (2, [.ref aB, .int (nI u), .int (nI en), .int (nI h_2), .int (nI h2), .int w, .int wa])), (aB, .inl (kB, 65536, .inl B))]) hD hS hA [4, 5] rfl
          refine zt_size (fun hzs => ?_)
          refine vx_callv (vx_runV (As := [.int 2, .int (nI h2)]) (rest := []) ⟨hx, hb, hml, hown, hts⟩ (c_Tp_refuse l hst G dC dI H.size aT aB u en h_2 (nI h2) w wa kB B 2 (nI h2)) (cwV 2 hts (gV tw_363 tw_223 tw_224 tw_3 tw_225 rfl) rfl rfl rfl (by decide +kernel) ⟨Nat.le_of_ble_eq_true rfl, Nat.le_of_ble_eq_true rfl⟩) (PW_preV hPc hKc hDc hE hS hFc (ci := 2) (q0 := 0) rfl rfl) rfl rfl hl.1 rfl (lv_room (Nat.le_of_ble_eq_true rfl)) d_Rd_takeList_102 ⟨Nat.le_of_ble_eq_true rfl, Nat.le_of_ble_eq_true rfl⟩) hS (fun q _ h => hFc q h) hFc (fun q _ h => hFc q h) (fun E9 ce9 q9 uu t H1 locs ht hvm hx_16 hB hz1 hk1 hS hce hcv hcl => ?_) (fun uu t H1 locs ht hvm hw_13 hB hz1 hk1 hS => ?_)
          ·
            obtain ⟨w_14, wa_15⟩ := uu
            obtain ⟨hEn, hP1, hD1⟩ := hB
            rw [ht] at hP1
            obtain ⟨hP, hD⟩ := va_join (wr := [(aR, .inr (0, [.ref aT, .ref aS])), (aS, .inr (1, [.ref aN, .ref aC])), (aN, .inl (kN, 5, .inl (fun j => nI (cnt j)))), (aC, .inl (kC, 52035, .inl cel2))]) (w1 := [(aT, .inr (2, [.ref aB, .int (nI u), .int (nI en), .int (nI h_2), .int (nI h2), .int w_14, .int wa_15])), (aB, .inl (kB, 65536, .inl B))]) hP hD [4, 5] [0, 1, 2, 3] rfl rfl (by decide) (by decide) hk1 hFc hP1 hD1
            generalize H1 = H at hP hS hce ⊢
            have hP : va_P (dC, dI) vwCl [(aR, .inr (0, [.ref aT, .ref aS])), (aS, .inr (1, [.ref aN, .ref aC])), (aN, .inl (kN, 5, .inl (fun j => nI (cnt j)))), (aC, .inl (kC, 52035, .inl cel2)), (aT, .inr (2, [.ref aB, .int (nI u), .int (nI en), .int (nI h_2), .int (nI h2), .int w_14, .int wa_15])), (aB, .inl (kB, 65536, .inl B))] H := hP
            have hD : va_D A [(aR, .inr (0, [.ref aT, .ref aS])), (aS, .inr (1, [.ref aN, .ref aC])), (aN, .inl (kN, 5, .inl (fun j => nI (cnt j)))), (aC, .inl (kC, 52035, .inl cel2)), (aT, .inr (2, [.ref aB, .int (nI u), .int (nI en), .int (nI h_2), .int (nI h2), .int w_14, .int wa_15])), (aB, .inl (kB, 65536, .inl B))] := hD
            obtain ⟨rfl, rfl⟩ := hx_16
            have hP9 := hP.sub (ws' := [(aR, .inr (0, [.ref aT, .ref aS])), (aT, .inr (2, [.ref aB, .int (nI u), .int (nI en), .int (nI h_2), .int (nI h2), .int 2, .int (nI h2)])), (aB, .inl (kB, 65536, .inl B)), (aS, .inr (1, [.ref aN, .ref aC])), (aN, .inl (kN, 5, .inl (fun j => nI (cnt j)))), (aC, .inl (kC, 52035, .inl cel2))]) [0, 4, 5, 1, 2, 3] rfl
            have hD9 := hD.sub (ws' := [(aR, .inr (0, [.ref aT, .ref aS])), (aT, .inr (2, [.ref aB, .int (nI u), .int (nI en), .int (nI h_2), .int (nI h2), .int 2, .int (nI h2)])), (aB, .inl (kB, 65536, .inl B)), (aS, .inr (1, [.ref aN, .ref aC])), (aN, .inl (kN, 5, .inl (fun j => nI (cnt j)))), (aC, .inl (kC, 52035, .inl cel2))]) [0, 4, 5, 1, 2, 3] (by decide) rfl
            exact vx_out (fun x hx => (htab x hx).elim) hlocks hce hcv hcl (fun t ht hvm => ⟨(2, h2, h_2, nI h2, cnt, cel2), by rw [hI, zLst_step (by omega), hw_4a, zB_ok, if_neg c_10, if_pos (Or.inl c_11), zB_er], ⟨hEn, by rw [ht]; exact hP9, hD9⟩, hS.F ht⟩) hS.2.2 (by decide) (by decide)
          · exact (hw_13 : False).elim
        ·
          refine lv_iload hx hb d_Rd_takeList_83 (lv_at hl 0 rfl) ?_
          refine lv_iload hx hb d_Rd_takeList_85 (lv_at hl 7 rfl) ?_
          refine lv_icmp_le (tgt := 105) hx hb d_Rd_takeList_87 (by decide) (fun c_17 => ?_) (fun c_17 => ?_)
          ·
            refine lv_aload_n hx hb d_Rd_takeList_105 rfl (lv_at hl 1 rfl) ?_
            refine va_get (D := (dC, dI)) (ci := 0) (v := .ref aS) (C := R_Rd) (T := F_Rd) (N := 2) hx hb hz i_Rd hown hK hP 0 rfl rfl 1 (by decide) (hz _ tw_86) (fun _ h9 => h9) rfl d_Rd_takeList_106 ?_
            refine lv_iload hx hb d_Rd_takeList_109 (lv_at hl 5 rfl) ?_
            refine lv_iload hx hb d_Rd_takeList_111 (lv_at hl 9 rfl) ?_
            refine lv_iadd hx hb d_Rd_takeList_113 ?_
            refine zt_top (nI_add ce j) ?_
            refine lv_iload hx hb d_Rd_takeList_114 (lv_at hl 0 rfl) ?_
            have hPc := hP.sub (ws' := [(aS, .inr (1, [.ref aN, .ref aC])), (aN, .inl (kN, 5, .inl (fun j => nI (cnt j)))), (aC, .inl (kC, 52035, .inl cel2))]) [1, 2, 3] rfl
            have hDc := hD.sub (ws' := [(aS, .inr (1, [.ref aN, .ref aC])), (aN, .inl (kN, 5, .inl (fun j => nI (cnt j)))), (aC, .inl (kC, 52035, .inl cel2))]) [1, 2, 3] (by decide) rfl
            have hKc := hK.sub (tys' := [(kN, .int), (kC, .int)]) [1, 2] rfl
            have hFc := va_free (wc := [(aS, .inr (1, [.ref aN, .ref aC])), (aN, .inl (kN, 5, .inl (fun j => nI (cnt j)))), (aC, .inl (kC, 52035, .inl cel2))]) hD hS hA [1, 2, 3] rfl
            refine va_callv (va_runV (As := [.int (nI (ce + j)), .int r_1]) (rest := []) ⟨hx, hb, hml, hown, hts⟩ (c_Sc_put l G dC dI H.size aS aN aC kN cnt kC cel2 (ce + j) r_1 (by omega)) (cwV 2 hts (gV tw_375 tw_376 tw_377 tw_4 tw_378 rfl) rfl rfl rfl (by decide +kernel) ⟨Nat.le_of_ble_eq_true rfl, Nat.le_of_ble_eq_true rfl⟩) (PW_preV hPc hKc hDc hE hS hFc (ci := 1) (q0 := 0) rfl rfl) rfl rfl hl.1 rfl (lv_room (Nat.le_of_ble_eq_true rfl)) d_Rd_takeList_116 ⟨Nat.le_of_ble_eq_true rfl, Nat.le_of_ble_eq_true rfl⟩) hS (fun q _ h => hFc q h) hFc (fun uu t H1 locs ht hvm hw_20 hB hz1 hk1 hS => ?_)
            obtain ⟨cel_19, rfl⟩ : ∃ z, z = uu := ⟨_, rfl⟩
            obtain ⟨hP1, hD1, hsz1⟩ := hB
            rw [ht] at hP1 hsz1
            obtain ⟨hP, hD⟩ := va_join (wr := [(aR, .inr (0, [.ref aT, .ref aS])), (aT, .inr (2, [.ref aB, .int (nI u), .int (nI en), .int (nI h_2), .int (nI h2), .int w, .int wa])), (aB, .inl (kB, 65536, .inl B))]) (w1 := [(aS, .inr (1, [.ref aN, .ref aC])), (aN, .inl (kN, 5, .inl (fun j => nI (cnt j)))), (aC, .inl (kC, 52035, .inl cel_19))]) hP hD [1, 2, 3] [0, 4, 5] rfl rfl (by decide) (by decide) hk1 hFc hP1 hD1
            generalize H1 = H at hP hS ⊢
            have hP : va_P (dC, dI) vwCl [(aR, .inr (0, [.ref aT, .ref aS])), (aT, .inr (2, [.ref aB, .int (nI u), .int (nI en), .int (nI h_2), .int (nI h2), .int w, .int wa])), (aB, .inl (kB, 65536, .inl B)), (aS, .inr (1, [.ref aN, .ref aC])), (aN, .inl (kN, 5, .inl (fun j => nI (cnt j)))), (aC, .inl (kC, 52035, .inl cel_19))] H := hP
            have hD : va_D A [(aR, .inr (0, [.ref aT, .ref aS])), (aT, .inr (2, [.ref aB, .int (nI u), .int (nI en), .int (nI h_2), .int (nI h2), .int w, .int wa])), (aB, .inl (kB, 65536, .inl B)), (aS, .inr (1, [.ref aN, .ref aC])), (aN, .inl (kN, 5, .inl (fun j => nI (cnt j)))), (aC, .inl (kC, 52035, .inl cel_19))] := hD
            have e3 := hw_20.symm; subst e3
            refine lv_iinc (v := nI (j + 1)) (lv' := [(8, .int (nI (j + 1))), (10, .int r_1), (0, .ref aR), (1, .int fm), (2, .int (nI le)), (3, .int (nI mo)), (4, .int (nI ce)), (5, .int low), (6, .int hig), (7, .int lw)]) hx hb d_Rd_takeList_119 hl (k := 9) rfl (nI_add j 1) (by decide) rfl (fun ls hl => ?_)
            refine lv_iload_n hx hb d_Rd_takeList_122 rfl (lv_at hl 3 rfl) ?_
            refine lv_iconst (v := 2) hx hb d_Rd_takeList_123 (by decide) ?_
            refine lv_icmp_ne (tgt := 134) hx hb d_Rd_takeList_124 (by decide) (fun c_21 => ?_) (fun c_21 => ?_)
            ·
              refine lv_iload hx hb d_Rd_takeList_134 (lv_at hl 7 rfl) ?_
              refine lv_istore (lv' := [(7, .int low), (8, .int (nI (j + 1))), (10, .int r_1), (0, .ref aR), (1, .int fm), (2, .int (nI le)), (3, .int (nI mo)), (4, .int (nI ce)), (5, .int low), (6, .int hig)]) hx hb d_Rd_takeList_136 hl (by decide) rfl (fun ls hl => ?_)
              refine lv_aload_n hx hb d_Rd_takeList_138 rfl (lv_at hl 3 rfl) ?_
              refine va_get (D := (dC, dI)) (ci := 0) (v := .ref aT) (C := R_Rd) (T := F_Rd) (N := 2) hx hb hz i_Rd hown hK hP 0 rfl rfl 0 (by decide) (hz _ tw_84) (fun _ h9 => h9) rfl d_Rd_takeList_139 ?_
              refine lv_bipush (v := 44) hx hb d_Rd_takeList_142 (by decide) ?_
              have hPc := hP.sub (ws' := [(aT, .inr (2, [.ref aB, .int (nI u), .int (nI en), .int (nI h_2), .int (nI h2), .int w, .int wa])), (aB, .inl (kB, 65536, .inl B))]) [1, 2] rfl
              have hDc := hD.sub (ws' := [(aT, .inr (2, [.ref aB, .int (nI u), .int (nI en), .int (nI h_2), .int (nI h2), .int w, .int wa])), (aB, .inl (kB, 65536, .inl B))]) [1, 2] (by decide) rfl
              have hKc := hK.sub (tys' := [(kB, .byte)]) [0] rfl
              have hFc := va_free (wc := [(aT, .inr (2, [.ref aB, .int (nI u), .int (nI en), .int (nI h_2), .int (nI h2), .int w, .int wa])), (aB, .inl (kB, 65536, .inl B))]) hD hS hA [1, 2] rfl
              refine va_calli (va_runV (As := [.int 44]) (rest := []) ⟨hx, hb, hml, hown, hts⟩ (c_Tp_takes l G dC dI H.size aT aB u en h_2 (nI h2) w wa kB B 44 (by omega) (by omega)) (cwV 1 hts (gV tw_379 tw_380 tw_381 tw_3 tw_382 rfl) rfl rfl rfl (by decide +kernel) ⟨Nat.le_of_ble_eq_true rfl, Nat.le_of_ble_eq_true rfl⟩) (PW_preV hPc hKc hDc hE hS hFc (ci := 2) (q0 := 0) rfl rfl) rfl rfl hl.1 rfl (lv_room (Nat.le_of_ble_eq_true rfl)) d_Rd_takeList_144 ⟨Nat.le_of_ble_eq_true rfl, Nat.le_of_ble_eq_true rfl⟩) hS (fun q _ h => hFc q h) hFc (fun r_22 uu t H1 locs ht hvm hw_24 hB hz1 hk1 hS => ?_)
              obtain ⟨h_23, rfl⟩ : ∃ z, z = uu := ⟨_, rfl⟩
              obtain ⟨hP1, hD1, hsz1⟩ := hB
              rw [ht] at hP1 hsz1
              obtain ⟨hP, hD⟩ := va_join (wr := [(aR, .inr (0, [.ref aT, .ref aS])), (aS, .inr (1, [.ref aN, .ref aC])), (aN, .inl (kN, 5, .inl (fun j => nI (cnt j)))), (aC, .inl (kC, 52035, .inl (upd cel2 (ce + j) r_1)))]) (w1 := [(aT, .inr (2, [.ref aB, .int (nI u), .int (nI en), .int (nI h_23), .int (nI h2), .int w, .int wa])), (aB, .inl (kB, 65536, .inl B))]) hP hD [1, 2] [0, 3, 4, 5] rfl rfl (by decide) (by decide) hk1 hFc hP1 hD1
              generalize H1 = H at hP hS ⊢
              have hP : va_P (dC, dI) vwCl [(aR, .inr (0, [.ref aT, .ref aS])), (aS, .inr (1, [.ref aN, .ref aC])), (aN, .inl (kN, 5, .inl (fun j => nI (cnt j)))), (aC, .inl (kC, 52035, .inl (upd cel2 (ce + j) r_1))), (aT, .inr (2, [.ref aB, .int (nI u), .int (nI en), .int (nI h_23), .int (nI h2), .int w, .int wa])), (aB, .inl (kB, 65536, .inl B))] H := hP
              have hD : va_D A [(aR, .inr (0, [.ref aT, .ref aS])), (aS, .inr (1, [.ref aN, .ref aC])), (aN, .inl (kN, 5, .inl (fun j => nI (cnt j)))), (aC, .inl (kC, 52035, .inl (upd cel2 (ce + j) r_1))), (aT, .inr (2, [.ref aB, .int (nI u), .int (nI en), .int (nI h_23), .int (nI h2), .int w, .int wa])), (aB, .inl (kB, 65536, .inl B))] := hD
              by_cases hs_25 : h_2 < en ∧ B h_2 = 44
              ·
                obtain ⟨e1, e2⟩ := hw_24
                rw [if_pos hs_25] at e1 e2; subst e1; have e2 := e2.symm; subst e2
                have hs_25i := zK_le (B := B) (en := en) (i := h_2 + 1) (by omega)
                refine lv_istore (lv' := [(9, .int 1), (7, .int low), (8, .int (nI (j + 1))), (10, .int r_1), (0, .ref aR), (1, .int fm), (2, .int (nI le)), (3, .int (nI mo)), (4, .int (nI ce)), (5, .int low), (6, .int hig)]) hx hb d_Rd_takeList_147 hl (by decide) rfl (fun ls hl => ?_)
                refine lv_goto (tgt := 35) hx hb d_Rd_takeList_149 (by decide) ?_
                refine lv_iload hx hb d_Rd_takeList_35 (lv_at hl 0 rfl) ?_
                refine lv_if_eq (tgt := 152) hx hb d_Rd_takeList_37 (by decide) (fun c_26 => ?_) (fun c_26 => ?_)
                ·
                  exact absurd c_26 (by decide)
                ·
                  refine lv_iload hx hb d_Rd_takeList_40 (lv_at hl 2 rfl) ?_
                  refine lv_iload_n hx hb d_Rd_takeList_42 rfl (lv_at hl 7 rfl) ?_
                  refine lv_icmp_gt (tgt := 152) hx hb d_Rd_takeList_43 (by decide) (fun c_27 => ?_) (fun c_27 => ?_)
                  ·
                    exact absurd c_27 (nI_nlt (a := mo) (b := j + 1) (by omega) (by omega))
                  ·
                    exact ih (j + 1) low (zK B en (h_2 + 1)) (nI h2) (upd cel2 (ce + j) r_1) (by omega) (by omega) (by omega) (by rw [hI, zLst_step (by omega), hw_4a, zB_ok, if_neg c_10, if_neg (fun z => z.elim c_11 (fun z => absurd c_17 (Int32.not_le.mpr z))), if_pos hs_25, if_neg (fun z => c_21 (of_decide_eq_true z))]) _ _ (hP.sub [0, 4, 5, 1, 2, 3] rfl) (hD.sub [0, 4, 5, 1, 2, 3] (by decide) rfl) hS ls (lv_sub hl [4, 5, 6, 7, 8, 9, 10, 1, 2] rfl)
              ·
                obtain ⟨e1, e2⟩ := hw_24
                rw [if_neg hs_25] at e1 e2; subst e1; have e2 := e2.symm; subst e2
                refine lv_istore (lv' := [(9, .int 0), (7, .int low), (8, .int (nI (j + 1))), (10, .int r_1), (0, .ref aR), (1, .int fm), (2, .int (nI le)), (3, .int (nI mo)), (4, .int (nI ce)), (5, .int low), (6, .int hig)]) hx hb d_Rd_takeList_147 hl (by decide) rfl (fun ls hl => ?_)
                refine lv_goto (tgt := 35) hx hb d_Rd_takeList_149 (by decide) ?_
                refine lv_iload hx hb d_Rd_takeList_35 (lv_at hl 0 rfl) ?_
                refine lv_if_eq (tgt := 152) hx hb d_Rd_takeList_37 (by decide) (fun c_28 => ?_) (fun c_28 => ?_)
                ·
                  have tl_29 : zList B en (decide (fm = 2)) (decide (fm = 1)) le mo ce low hig h cel = zTail B en (decide (fm = 1)) le (j + 1, h_2, upd cel2 (ce + j) r_1) := by rw [hI, zLst_step (by omega), hw_4a, zB_ok, if_neg c_10, if_neg (fun z => z.elim c_11 (fun z => absurd c_17 (Int32.not_le.mpr z))), if_neg hs_25, zB_ok]
                  refine lv_iload hx hb d_Rd_takeList_152 (lv_at hl 2 rfl) ?_
                  refine lv_iload_n hx hb d_Rd_takeList_154 rfl (lv_at hl 6 rfl) ?_
                  refine lv_icmp_lt (tgt := 170) hx hb d_Rd_takeList_155 (by decide) (fun c_30 => ?_) (fun c_30 => ?_)
                  ·
                    have c_30 : (j + 1) < le := (@nI_ltI (j + 1) le (by omega) (by omega)).mp c_30
                    refine lv_iconst (v := 1) hx hb d_Rd_takeList_170 (by decide) ?_
                    refine lv_goto (tgt := 175) hx hb d_Rd_takeList_171 (by decide) ?_
                    refine lv_istore (lv' := [(10, .int 1), (9, .int 0), (7, .int low), (8, .int (nI (j + 1))), (0, .ref aR), (1, .int fm), (2, .int (nI le)), (3, .int (nI mo)), (4, .int (nI ce)), (5, .int low), (6, .int hig)]) hx hb d_Rd_takeList_175 hl (by decide) rfl (fun ls hl => ?_)
                    refine lv_iload hx hb d_Rd_takeList_177 (lv_at hl 0 rfl) ?_
                    refine lv_if_eq (tgt := 209) hx hb d_Rd_takeList_179 (by decide) (fun c_31 => ?_) (fun c_31 => ?_)
                    ·
                      exact absurd c_31 (by decide)
                    ·
                      refine lv_aload_n hx hb d_Rd_takeList_182 rfl (lv_at hl 4 rfl) ?_
                      refine va_get (D := (dC, dI)) (ci := 0) (v := .ref aT) (C := R_Rd) (T := F_Rd) (N := 2) hx hb hz i_Rd hown hK hP 0 rfl rfl 0 (by decide) (hz _ tw_84) (fun _ h9 => h9) rfl d_Rd_takeList_183 ?_
                      refine lv_bipush (v := 93) hx hb d_Rd_takeList_186 (by decide) ?_
                      have hPc := hP.sub (ws' := [(aT, .inr (2, [.ref aB, .int (nI u), .int (nI en), .int (nI h_2), .int (nI h2), .int w, .int wa])), (aB, .inl (kB, 65536, .inl B))]) [4, 5] rfl
                      have hDc := hD.sub (ws' := [(aT, .inr (2, [.ref aB, .int (nI u), .int (nI en), .int (nI h_2), .int (nI h2), .int w, .int wa])), (aB, .inl (kB, 65536, .inl B))]) [4, 5] (by decide) rfl
                      have hKc := hK.sub (tys' := [(kB, .byte)]) [0] rfl
                      have hFc := va_free (wc := [(aT, .inr (2, [.ref aB, .int (nI u), .int (nI en), .int (nI h_2), .int (nI h2), .int w, .int wa])), (aB, .inl (kB, 65536, .inl B))]) hD hS hA [4, 5] rfl
                      refine va_calli (va_runV (As := [.int 93]) (rest := []) ⟨hx, hb, hml, hown, hts⟩ (c_Tp_sees l G dC dI H.size aT aB u en h_2 (nI h2) w wa kB B 93 (by omega) (by omega)) (cwV 1 hts (gV tw_291 tw_219 tw_220 tw_3 tw_221 rfl) rfl rfl rfl (by decide +kernel) ⟨Nat.le_of_ble_eq_true rfl, Nat.le_of_ble_eq_true rfl⟩) (PW_preV hPc hKc hDc hE hS hFc (ci := 2) (q0 := 0) rfl rfl) rfl rfl hl.1 rfl (lv_room (Nat.le_of_ble_eq_true rfl)) d_Rd_takeList_188 ⟨Nat.le_of_ble_eq_true rfl, Nat.le_of_ble_eq_true rfl⟩) hS (fun q _ h => hFc q h) hFc (fun r_32 uu t H1 locs ht hvm hw_33 hB hz1 hk1 hS => ?_)
                      obtain ⟨hP1, hD1, hsz1⟩ := hB
                      rw [ht] at hP1 hsz1
                      obtain ⟨hP, hD⟩ := va_join (wr := [(aR, .inr (0, [.ref aT, .ref aS])), (aS, .inr (1, [.ref aN, .ref aC])), (aN, .inl (kN, 5, .inl (fun j => nI (cnt j)))), (aC, .inl (kC, 52035, .inl (upd cel2 (ce + j) r_1)))]) (w1 := [(aT, .inr (2, [.ref aB, .int (nI u), .int (nI en), .int (nI h_2), .int (nI h2), .int w, .int wa])), (aB, .inl (kB, 65536, .inl B))]) hP hD [4, 5] [0, 1, 2, 3] rfl rfl (by decide) (by decide) hk1 hFc hP1 hD1
                      generalize H1 = H at hP hS ⊢
                      have hP : va_P (dC, dI) vwCl [(aR, .inr (0, [.ref aT, .ref aS])), (aS, .inr (1, [.ref aN, .ref aC])), (aN, .inl (kN, 5, .inl (fun j => nI (cnt j)))), (aC, .inl (kC, 52035, .inl (upd cel2 (ce + j) r_1))), (aT, .inr (2, [.ref aB, .int (nI u), .int (nI en), .int (nI h_2), .int (nI h2), .int w, .int wa])), (aB, .inl (kB, 65536, .inl B))] H := hP
                      have hD : va_D A [(aR, .inr (0, [.ref aT, .ref aS])), (aS, .inr (1, [.ref aN, .ref aC])), (aN, .inl (kN, 5, .inl (fun j => nI (cnt j)))), (aC, .inl (kC, 52035, .inl (upd cel2 (ce + j) r_1))), (aT, .inr (2, [.ref aB, .int (nI u), .int (nI en), .int (nI h_2), .int (nI h2), .int w, .int wa])), (aB, .inl (kB, 65536, .inl B))] := hD
                      by_cases hs_34 : h_2 < en ∧ B h_2 = 93
                      ·
                        rw [if_pos hs_34] at hw_33; subst hw_33
                        refine lv_if_eq (tgt := 209) hx hb d_Rd_takeList_191 (by decide) (fun c_35 => ?_) (fun c_35 => ?_)
                        ·
                          exact absurd c_35 (by decide)
                        ·
                          refine lv_aload_n hx hb d_Rd_takeList_194 rfl (lv_at hl 4 rfl) ?_
                          refine va_get (D := (dC, dI)) (ci := 0) (v := .ref aT) (C := R_Rd) (T := F_Rd) (N := 2) hx hb hz i_Rd hown hK hP 0 rfl rfl 0 (by decide) (hz _ tw_84) (fun _ h9 => h9) rfl d_Rd_takeList_195 ?_
                          refine lv_iconst (v := 3) hx hb d_Rd_takeList_198 (by decide) ?_
                          refine lv_aload_n hx hb d_Rd_takeList_199 rfl (lv_at hl 4 rfl) ?_
                          refine va_get (D := (dC, dI)) (ci := 0) (v := .ref aT) (C := R_Rd) (T := F_Rd) (N := 2) hx hb hz i_Rd hown hK hP 0 rfl rfl 0 (by decide) (hz _ tw_84) (fun _ h9 => h9) rfl d_Rd_takeList_200 ?_
                          refine va_getN (D := (dC, dI)) (ci := 2) (v := .int (nI h_2)) (C := R_Tp) (T := F_Tp) (N := 7) hx hb hz i_Tp hown hK hP 4 rfl rfl 3 (by decide) (va_Nw.use rfl (hE.1 _ (List.mem_of_getElem? (i := 3) rfl))) (fun _ h9 => h9) rfl d_Rd_takeList_203 ?_
                          have hPc := hP.sub (ws' := [(aT, .inr (2, [.ref aB, .int (nI u), .int (nI en), .int (nI h_2), .int (nI h2), .int w, .int wa])), (aB, .inl (kB, 65536, .inl B))]) [4, 5] rfl
                          have hDc := hD.sub (ws' := [(aT, .inr (2, [.ref aB, .int (nI u), .int (nI en), .int (nI h_2), .int (nI h2), .int w, .int wa])), (aB, .inl (kB, 65536, .inl B))]) [4, 5] (by decide) rfl
                          have hKc := hK.sub (tys' := [(kB, .byte)]) [0] rfl
                          have hFc := va_free (wc := [(aT, .inr (2, [.ref aB, .int (nI u), .int (nI en), .int (nI h_2), .int (nI h2), .int w, .int wa])), (aB, .inl (kB, 65536, .inl B))]) hD hS hA [4, 5] rfl
                          refine zt_size (fun hzs => ?_)
                          refine vx_callv (vx_runV (As := [.int 3, .int (nI h_2)]) (rest := []) ⟨hx, hb, hml, hown, hts⟩ (c_Tp_refuse l hst G dC dI H.size aT aB u en h_2 (nI h2) w wa kB B 3 (nI h_2)) (cwV 2 hts (gV tw_363 tw_223 tw_224 tw_3 tw_225 rfl) rfl rfl rfl (by decide +kernel) ⟨Nat.le_of_ble_eq_true rfl, Nat.le_of_ble_eq_true rfl⟩) (PW_preV hPc hKc hDc hE hS hFc (ci := 2) (q0 := 0) rfl rfl) rfl rfl hl.1 rfl (lv_room (Nat.le_of_ble_eq_true rfl)) d_Rd_takeList_206 ⟨Nat.le_of_ble_eq_true rfl, Nat.le_of_ble_eq_true rfl⟩) hS (fun q _ h => hFc q h) hFc (fun q _ h => hFc q h) (fun E9 ce9 q9 uu t H1 locs ht hvm hx_40 hB hz1 hk1 hS hce hcv hcl => ?_) (fun uu t H1 locs ht hvm hw_37 hB hz1 hk1 hS => ?_)
                          ·
                            obtain ⟨w_38, wa_39⟩ := uu
                            obtain ⟨hEn, hP1, hD1⟩ := hB
                            rw [ht] at hP1
                            obtain ⟨hP, hD⟩ := va_join (wr := [(aR, .inr (0, [.ref aT, .ref aS])), (aS, .inr (1, [.ref aN, .ref aC])), (aN, .inl (kN, 5, .inl (fun j => nI (cnt j)))), (aC, .inl (kC, 52035, .inl (upd cel2 (ce + j) r_1)))]) (w1 := [(aT, .inr (2, [.ref aB, .int (nI u), .int (nI en), .int (nI h_2), .int (nI h2), .int w_38, .int wa_39])), (aB, .inl (kB, 65536, .inl B))]) hP hD [4, 5] [0, 1, 2, 3] rfl rfl (by decide) (by decide) hk1 hFc hP1 hD1
                            generalize H1 = H at hP hS hce ⊢
                            have hP : va_P (dC, dI) vwCl [(aR, .inr (0, [.ref aT, .ref aS])), (aS, .inr (1, [.ref aN, .ref aC])), (aN, .inl (kN, 5, .inl (fun j => nI (cnt j)))), (aC, .inl (kC, 52035, .inl (upd cel2 (ce + j) r_1))), (aT, .inr (2, [.ref aB, .int (nI u), .int (nI en), .int (nI h_2), .int (nI h2), .int w_38, .int wa_39])), (aB, .inl (kB, 65536, .inl B))] H := hP
                            have hD : va_D A [(aR, .inr (0, [.ref aT, .ref aS])), (aS, .inr (1, [.ref aN, .ref aC])), (aN, .inl (kN, 5, .inl (fun j => nI (cnt j)))), (aC, .inl (kC, 52035, .inl (upd cel2 (ce + j) r_1))), (aT, .inr (2, [.ref aB, .int (nI u), .int (nI en), .int (nI h_2), .int (nI h2), .int w_38, .int wa_39])), (aB, .inl (kB, 65536, .inl B))] := hD
                            obtain ⟨rfl, rfl⟩ := hx_40
                            have hP9 := hP.sub (ws' := [(aR, .inr (0, [.ref aT, .ref aS])), (aT, .inr (2, [.ref aB, .int (nI u), .int (nI en), .int (nI h_2), .int (nI h2), .int 3, .int (nI h_2)])), (aB, .inl (kB, 65536, .inl B)), (aS, .inr (1, [.ref aN, .ref aC])), (aN, .inl (kN, 5, .inl (fun j => nI (cnt j)))), (aC, .inl (kC, 52035, .inl (upd cel2 (ce + j) r_1)))]) [0, 4, 5, 1, 2, 3] rfl
                            have hD9 := hD.sub (ws' := [(aR, .inr (0, [.ref aT, .ref aS])), (aT, .inr (2, [.ref aB, .int (nI u), .int (nI en), .int (nI h_2), .int (nI h2), .int 3, .int (nI h_2)])), (aB, .inl (kB, 65536, .inl B)), (aS, .inr (1, [.ref aN, .ref aC])), (aN, .inl (kN, 5, .inl (fun j => nI (cnt j)))), (aC, .inl (kC, 52035, .inl (upd cel2 (ce + j) r_1)))]) [0, 4, 5, 1, 2, 3] (by decide) rfl
                            exact vx_out (fun x hx => (htab x hx).elim) hlocks hce hcv hcl (fun t ht hvm => ⟨(3, h_2, h_2, nI h2, cnt, upd cel2 (ce + j) r_1), by rw [tl_29]; unfold zTail; rw [if_pos ⟨Or.inl c_30, hs_34⟩], ⟨hEn, by rw [ht]; exact hP9, hD9⟩, hS.F ht⟩) hS.2.2 (by decide) (by decide)
                          · exact (hw_37 : False).elim
                      ·
                        rw [if_neg hs_34] at hw_33; subst hw_33
                        refine lv_if_eq (tgt := 209) hx hb d_Rd_takeList_191 (by decide) (fun c_41 => ?_) (fun c_41 => ?_)
                        ·
                          refine lv_aload_n hx hb d_Rd_takeList_209 rfl (lv_at hl 4 rfl) ?_
                          refine va_get (D := (dC, dI)) (ci := 0) (v := .ref aT) (C := R_Rd) (T := F_Rd) (N := 2) hx hb hz i_Rd hown hK hP 0 rfl rfl 0 (by decide) (hz _ tw_84) (fun _ h9 => h9) rfl d_Rd_takeList_210 ?_
                          refine lv_bipush (v := 93) hx hb d_Rd_takeList_213 (by decide) ?_
                          have hPc := hP.sub (ws' := [(aT, .inr (2, [.ref aB, .int (nI u), .int (nI en), .int (nI h_2), .int (nI h2), .int w, .int wa])), (aB, .inl (kB, 65536, .inl B))]) [4, 5] rfl
                          have hDc := hD.sub (ws' := [(aT, .inr (2, [.ref aB, .int (nI u), .int (nI en), .int (nI h_2), .int (nI h2), .int w, .int wa])), (aB, .inl (kB, 65536, .inl B))]) [4, 5] (by decide) rfl
                          have hKc := hK.sub (tys' := [(kB, .byte)]) [0] rfl
                          have hFc := va_free (wc := [(aT, .inr (2, [.ref aB, .int (nI u), .int (nI en), .int (nI h_2), .int (nI h2), .int w, .int wa])), (aB, .inl (kB, 65536, .inl B))]) hD hS hA [4, 5] rfl
                          refine zt_size (fun hzs => ?_)
                          refine vx_callv (vx_runV (As := [.int 93]) (rest := []) ⟨hx, hb, hml, hown, hts⟩ (c_Tp_mustTake l hst G dC dI H.size aT aB u en h_2 (nI h2) w wa kB B 93 (by omega) (by omega)) (cwV 1 hts (gV tw_214 tw_215 tw_216 tw_3 tw_217 rfl) rfl rfl rfl (by decide +kernel) ⟨Nat.le_of_ble_eq_true rfl, Nat.le_of_ble_eq_true rfl⟩) (PW_preV hPc hKc hDc hE hS hFc (ci := 2) (q0 := 0) rfl rfl) rfl rfl hl.1 rfl (lv_room (Nat.le_of_ble_eq_true rfl)) d_Rd_takeList_215 ⟨Nat.le_of_ble_eq_true rfl, Nat.le_of_ble_eq_true rfl⟩) hS (fun q _ h => hFc q h) hFc (fun q _ h => hFc q h) (fun E9 ce9 q9 uu t H1 locs ht hvm hx_49 hB hz1 hk1 hS hce hcv hcl => ?_) (fun uu t H1 locs ht hvm hw_44 hB hz1 hk1 hS => ?_)
                          ·
                            obtain ⟨w_45, k_46, h_47, na_48⟩ := uu
                            obtain ⟨hEn, hP1, hD1⟩ := hB
                            rw [ht] at hP1
                            obtain ⟨hP, hD⟩ := va_join (wr := [(aR, .inr (0, [.ref aT, .ref aS])), (aS, .inr (1, [.ref aN, .ref aC])), (aN, .inl (kN, 5, .inl (fun j => nI (cnt j)))), (aC, .inl (kC, 52035, .inl (upd cel2 (ce + j) r_1)))]) (w1 := [(aT, .inr (2, [.ref aB, .int (nI u), .int (nI en), .int (nI h_47), .int na_48, .int w_45, .int (nI k_46)])), (aB, .inl (kB, 65536, .inl B))]) hP hD [4, 5] [0, 1, 2, 3] rfl rfl (by decide) (by decide) hk1 hFc hP1 hD1
                            generalize H1 = H at hP hS hce ⊢
                            have hP : va_P (dC, dI) vwCl [(aR, .inr (0, [.ref aT, .ref aS])), (aS, .inr (1, [.ref aN, .ref aC])), (aN, .inl (kN, 5, .inl (fun j => nI (cnt j)))), (aC, .inl (kC, 52035, .inl (upd cel2 (ce + j) r_1))), (aT, .inr (2, [.ref aB, .int (nI u), .int (nI en), .int (nI h_47), .int na_48, .int w_45, .int (nI k_46)])), (aB, .inl (kB, 65536, .inl B))] H := hP
                            have hD : va_D A [(aR, .inr (0, [.ref aT, .ref aS])), (aS, .inr (1, [.ref aN, .ref aC])), (aN, .inl (kN, 5, .inl (fun j => nI (cnt j)))), (aC, .inl (kC, 52035, .inl (upd cel2 (ce + j) r_1))), (aT, .inr (2, [.ref aB, .int (nI u), .int (nI en), .int (nI h_47), .int na_48, .int w_45, .int (nI k_46)])), (aB, .inl (kB, 65536, .inl B))] := hD
                            have hP9 := hP.sub (ws' := [(aR, .inr (0, [.ref aT, .ref aS])), (aT, .inr (2, [.ref aB, .int (nI u), .int (nI en), .int (nI h_47), .int na_48, .int w_45, .int (nI k_46)])), (aB, .inl (kB, 65536, .inl B)), (aS, .inr (1, [.ref aN, .ref aC])), (aN, .inl (kN, 5, .inl (fun j => nI (cnt j)))), (aC, .inl (kC, 52035, .inl (upd cel2 (ce + j) r_1)))]) [0, 4, 5, 1, 2, 3] rfl
                            have hD9 := hD.sub (ws' := [(aR, .inr (0, [.ref aT, .ref aS])), (aT, .inr (2, [.ref aB, .int (nI u), .int (nI en), .int (nI h_47), .int na_48, .int w_45, .int (nI k_46)])), (aB, .inl (kB, 65536, .inl B)), (aS, .inr (1, [.ref aN, .ref aC])), (aN, .inl (kN, 5, .inl (fun j => nI (cnt j)))), (aC, .inl (kC, 52035, .inl (upd cel2 (ce + j) r_1)))]) [0, 4, 5, 1, 2, 3] (by decide) rfl
                            exact vx_out (fun x hx => (htab x hx).elim) hlocks hce hcv hcl (fun t ht hvm => ⟨(w_45, k_46, h_47, na_48, cnt, upd cel2 (ce + j) r_1), by rw [tl_29]; unfold zTail; rw [if_neg (fun z => hs_34 z.2)]; simp only [zB_er, hx_49], ⟨hEn, by rw [ht]; exact hP9, hD9⟩, hS.F ht⟩) hS.2.2 (by decide) (by decide)
                          ·
                            obtain ⟨h_43, rfl⟩ : ∃ z, z = uu := ⟨_, rfl⟩
                            obtain ⟨hP1, hD1, hsz1⟩ := hB
                            rw [ht] at hP1 hsz1
                            obtain ⟨hP, hD⟩ := va_join (wr := [(aR, .inr (0, [.ref aT, .ref aS])), (aS, .inr (1, [.ref aN, .ref aC])), (aN, .inl (kN, 5, .inl (fun j => nI (cnt j)))), (aC, .inl (kC, 52035, .inl (upd cel2 (ce + j) r_1)))]) (w1 := [(aT, .inr (2, [.ref aB, .int (nI u), .int (nI en), .int (nI h_43), .int (nI h2), .int w, .int wa])), (aB, .inl (kB, 65536, .inl B))]) hP hD [4, 5] [0, 1, 2, 3] rfl rfl (by decide) (by decide) hk1 hFc hP1 hD1
                            refine zt_tight (hsz1.trans hzs) ?_
                            generalize H1 = H at hP hS ⊢
                            have hP : va_P (dC, dI) vwCl [(aR, .inr (0, [.ref aT, .ref aS])), (aS, .inr (1, [.ref aN, .ref aC])), (aN, .inl (kN, 5, .inl (fun j => nI (cnt j)))), (aC, .inl (kC, 52035, .inl (upd cel2 (ce + j) r_1))), (aT, .inr (2, [.ref aB, .int (nI u), .int (nI en), .int (nI h_43), .int (nI h2), .int w, .int wa])), (aB, .inl (kB, 65536, .inl B))] H := hP
                            have hD : va_D A [(aR, .inr (0, [.ref aT, .ref aS])), (aS, .inr (1, [.ref aN, .ref aC])), (aN, .inl (kN, 5, .inl (fun j => nI (cnt j)))), (aC, .inl (kC, 52035, .inl (upd cel2 (ce + j) r_1))), (aT, .inr (2, [.ref aB, .int (nI u), .int (nI en), .int (nI h_43), .int (nI h2), .int w, .int wa])), (aB, .inl (kB, 65536, .inl B))] := hD
                            have hw_44i := zMust_in hw_44
                            refine lv_iload hx hb d_Rd_takeList_218 (lv_at hl 3 rfl) ?_
                            refine zt_size (fun hzs => ?_)
                            have hP9 := hP.sub (ws' := [(aR, .inr (0, [.ref aT, .ref aS])), (aT, .inr (2, [.ref aB, .int (nI u), .int (nI en), .int (nI h_43), .int (nI h2), .int w, .int wa])), (aB, .inl (kB, 65536, .inl B)), (aS, .inr (1, [.ref aN, .ref aC])), (aN, .inl (kN, 5, .inl (fun j => nI (cnt j)))), (aC, .inl (kC, 52035, .inl (upd cel2 (ce + j) r_1)))]) [0, 4, 5, 1, 2, 3] rfl
                            have hD9 := hD.sub (ws' := [(aR, .inr (0, [.ref aT, .ref aS])), (aT, .inr (2, [.ref aB, .int (nI u), .int (nI en), .int (nI h_43), .int (nI h2), .int w, .int wa])), (aB, .inl (kB, 65536, .inl B)), (aS, .inr (1, [.ref aN, .ref aC])), (aN, .inl (kN, 5, .inl (fun j => nI (cnt j)))), (aC, .inl (kC, 52035, .inl (upd cel2 (ce + j) r_1)))]) [0, 4, 5, 1, 2, 3] (by decide) rfl
                            refine W.widen (k := 1) (n := 6) (by decide) (by decide) ?_
                            exact vx_ret (W.iret (v := nI (j + 1)) hx hb hr (fun t ht hW => ⟨⟨nI (j + 1), (h_43, nI h2, upd cel2 (ce + j) r_1, j + 1), rfl, ⟨rfl, by rw [tl_29]; unfold zTail; rw [if_neg (fun z => hs_34 z.2)]; simp only [zB_ok, hw_44]⟩, by rw [ht]; exact hP9, hD9, by rw [ht]; exact hzs⟩, hS.F ht⟩) hS.2.2 d_Rd_takeList_220)
                        ·
                          exact absurd (by decide) c_41
                  ·
                    have c_30 : ¬ ((j + 1) < le) := fun z => c_30 ((@nI_ltI (j + 1) le (by omega) (by omega)).mpr z)
                    refine lv_iload_n hx hb d_Rd_takeList_158 rfl (lv_at hl 5 rfl) ?_
                    refine lv_iconst (v := 1) hx hb d_Rd_takeList_159 (by decide) ?_
                    refine lv_icmp_ne (tgt := 174) hx hb d_Rd_takeList_160 (by decide) (fun c_50 => ?_) (fun c_50 => ?_)
                    ·
                      refine lv_iconst (v := 0) hx hb d_Rd_takeList_174 (by decide) ?_
                      refine lv_istore (lv' := [(10, .int 0), (9, .int 0), (7, .int low), (8, .int (nI (j + 1))), (0, .ref aR), (1, .int fm), (2, .int (nI le)), (3, .int (nI mo)), (4, .int (nI ce)), (5, .int low), (6, .int hig)]) hx hb d_Rd_takeList_175 hl (by decide) rfl (fun ls hl => ?_)
                      refine lv_iload hx hb d_Rd_takeList_177 (lv_at hl 0 rfl) ?_
                      refine lv_if_eq (tgt := 209) hx hb d_Rd_takeList_179 (by decide) (fun c_51 => ?_) (fun c_51 => ?_)
                      ·
                        refine lv_aload_n hx hb d_Rd_takeList_209 rfl (lv_at hl 4 rfl) ?_
                        refine va_get (D := (dC, dI)) (ci := 0) (v := .ref aT) (C := R_Rd) (T := F_Rd) (N := 2) hx hb hz i_Rd hown hK hP 0 rfl rfl 0 (by decide) (hz _ tw_84) (fun _ h9 => h9) rfl d_Rd_takeList_210 ?_
                        refine lv_bipush (v := 93) hx hb d_Rd_takeList_213 (by decide) ?_
                        have hPc := hP.sub (ws' := [(aT, .inr (2, [.ref aB, .int (nI u), .int (nI en), .int (nI h_2), .int (nI h2), .int w, .int wa])), (aB, .inl (kB, 65536, .inl B))]) [4, 5] rfl
                        have hDc := hD.sub (ws' := [(aT, .inr (2, [.ref aB, .int (nI u), .int (nI en), .int (nI h_2), .int (nI h2), .int w, .int wa])), (aB, .inl (kB, 65536, .inl B))]) [4, 5] (by decide) rfl
                        have hKc := hK.sub (tys' := [(kB, .byte)]) [0] rfl
                        have hFc := va_free (wc := [(aT, .inr (2, [.ref aB, .int (nI u), .int (nI en), .int (nI h_2), .int (nI h2), .int w, .int wa])), (aB, .inl (kB, 65536, .inl B))]) hD hS hA [4, 5] rfl
                        refine zt_size (fun hzs => ?_)
                        refine vx_callv (vx_runV (As := [.int 93]) (rest := []) ⟨hx, hb, hml, hown, hts⟩ (c_Tp_mustTake l hst G dC dI H.size aT aB u en h_2 (nI h2) w wa kB B 93 (by omega) (by omega)) (cwV 1 hts (gV tw_214 tw_215 tw_216 tw_3 tw_217 rfl) rfl rfl rfl (by decide +kernel) ⟨Nat.le_of_ble_eq_true rfl, Nat.le_of_ble_eq_true rfl⟩) (PW_preV hPc hKc hDc hE hS hFc (ci := 2) (q0 := 0) rfl rfl) rfl rfl hl.1 rfl (lv_room (Nat.le_of_ble_eq_true rfl)) d_Rd_takeList_215 ⟨Nat.le_of_ble_eq_true rfl, Nat.le_of_ble_eq_true rfl⟩) hS (fun q _ h => hFc q h) hFc (fun q _ h => hFc q h) (fun E9 ce9 q9 uu t H1 locs ht hvm hx_59 hB hz1 hk1 hS hce hcv hcl => ?_) (fun uu t H1 locs ht hvm hw_54 hB hz1 hk1 hS => ?_)
                        ·
                          obtain ⟨w_55, k_56, h_57, na_58⟩ := uu
                          obtain ⟨hEn, hP1, hD1⟩ := hB
                          rw [ht] at hP1
                          obtain ⟨hP, hD⟩ := va_join (wr := [(aR, .inr (0, [.ref aT, .ref aS])), (aS, .inr (1, [.ref aN, .ref aC])), (aN, .inl (kN, 5, .inl (fun j => nI (cnt j)))), (aC, .inl (kC, 52035, .inl (upd cel2 (ce + j) r_1)))]) (w1 := [(aT, .inr (2, [.ref aB, .int (nI u), .int (nI en), .int (nI h_57), .int na_58, .int w_55, .int (nI k_56)])), (aB, .inl (kB, 65536, .inl B))]) hP hD [4, 5] [0, 1, 2, 3] rfl rfl (by decide) (by decide) hk1 hFc hP1 hD1
                          generalize H1 = H at hP hS hce ⊢
                          have hP : va_P (dC, dI) vwCl [(aR, .inr (0, [.ref aT, .ref aS])), (aS, .inr (1, [.ref aN, .ref aC])), (aN, .inl (kN, 5, .inl (fun j => nI (cnt j)))), (aC, .inl (kC, 52035, .inl (upd cel2 (ce + j) r_1))), (aT, .inr (2, [.ref aB, .int (nI u), .int (nI en), .int (nI h_57), .int na_58, .int w_55, .int (nI k_56)])), (aB, .inl (kB, 65536, .inl B))] H := hP
                          have hD : va_D A [(aR, .inr (0, [.ref aT, .ref aS])), (aS, .inr (1, [.ref aN, .ref aC])), (aN, .inl (kN, 5, .inl (fun j => nI (cnt j)))), (aC, .inl (kC, 52035, .inl (upd cel2 (ce + j) r_1))), (aT, .inr (2, [.ref aB, .int (nI u), .int (nI en), .int (nI h_57), .int na_58, .int w_55, .int (nI k_56)])), (aB, .inl (kB, 65536, .inl B))] := hD
                          have hP9 := hP.sub (ws' := [(aR, .inr (0, [.ref aT, .ref aS])), (aT, .inr (2, [.ref aB, .int (nI u), .int (nI en), .int (nI h_57), .int na_58, .int w_55, .int (nI k_56)])), (aB, .inl (kB, 65536, .inl B)), (aS, .inr (1, [.ref aN, .ref aC])), (aN, .inl (kN, 5, .inl (fun j => nI (cnt j)))), (aC, .inl (kC, 52035, .inl (upd cel2 (ce + j) r_1)))]) [0, 4, 5, 1, 2, 3] rfl
                          have hD9 := hD.sub (ws' := [(aR, .inr (0, [.ref aT, .ref aS])), (aT, .inr (2, [.ref aB, .int (nI u), .int (nI en), .int (nI h_57), .int na_58, .int w_55, .int (nI k_56)])), (aB, .inl (kB, 65536, .inl B)), (aS, .inr (1, [.ref aN, .ref aC])), (aN, .inl (kN, 5, .inl (fun j => nI (cnt j)))), (aC, .inl (kC, 52035, .inl (upd cel2 (ce + j) r_1)))]) [0, 4, 5, 1, 2, 3] (by decide) rfl
                          exact vx_out (fun x hx => (htab x hx).elim) hlocks hce hcv hcl (fun t ht hvm => ⟨(w_55, k_56, h_57, na_58, cnt, upd cel2 (ce + j) r_1), by rw [tl_29]; unfold zTail; rw [if_neg (fun z => absurd z.1 (fun z => z.elim c_30 (fun z => c_50 (of_decide_eq_true z.1))))]; simp only [zB_er, hx_59], ⟨hEn, by rw [ht]; exact hP9, hD9⟩, hS.F ht⟩) hS.2.2 (by decide) (by decide)
                        ·
                          obtain ⟨h_53, rfl⟩ : ∃ z, z = uu := ⟨_, rfl⟩
                          obtain ⟨hP1, hD1, hsz1⟩ := hB
                          rw [ht] at hP1 hsz1
                          obtain ⟨hP, hD⟩ := va_join (wr := [(aR, .inr (0, [.ref aT, .ref aS])), (aS, .inr (1, [.ref aN, .ref aC])), (aN, .inl (kN, 5, .inl (fun j => nI (cnt j)))), (aC, .inl (kC, 52035, .inl (upd cel2 (ce + j) r_1)))]) (w1 := [(aT, .inr (2, [.ref aB, .int (nI u), .int (nI en), .int (nI h_53), .int (nI h2), .int w, .int wa])), (aB, .inl (kB, 65536, .inl B))]) hP hD [4, 5] [0, 1, 2, 3] rfl rfl (by decide) (by decide) hk1 hFc hP1 hD1
                          refine zt_tight (hsz1.trans hzs) ?_
                          generalize H1 = H at hP hS ⊢
                          have hP : va_P (dC, dI) vwCl [(aR, .inr (0, [.ref aT, .ref aS])), (aS, .inr (1, [.ref aN, .ref aC])), (aN, .inl (kN, 5, .inl (fun j => nI (cnt j)))), (aC, .inl (kC, 52035, .inl (upd cel2 (ce + j) r_1))), (aT, .inr (2, [.ref aB, .int (nI u), .int (nI en), .int (nI h_53), .int (nI h2), .int w, .int wa])), (aB, .inl (kB, 65536, .inl B))] H := hP
                          have hD : va_D A [(aR, .inr (0, [.ref aT, .ref aS])), (aS, .inr (1, [.ref aN, .ref aC])), (aN, .inl (kN, 5, .inl (fun j => nI (cnt j)))), (aC, .inl (kC, 52035, .inl (upd cel2 (ce + j) r_1))), (aT, .inr (2, [.ref aB, .int (nI u), .int (nI en), .int (nI h_53), .int (nI h2), .int w, .int wa])), (aB, .inl (kB, 65536, .inl B))] := hD
                          have hw_54i := zMust_in hw_54
                          refine lv_iload hx hb d_Rd_takeList_218 (lv_at hl 3 rfl) ?_
                          refine zt_size (fun hzs => ?_)
                          have hP9 := hP.sub (ws' := [(aR, .inr (0, [.ref aT, .ref aS])), (aT, .inr (2, [.ref aB, .int (nI u), .int (nI en), .int (nI h_53), .int (nI h2), .int w, .int wa])), (aB, .inl (kB, 65536, .inl B)), (aS, .inr (1, [.ref aN, .ref aC])), (aN, .inl (kN, 5, .inl (fun j => nI (cnt j)))), (aC, .inl (kC, 52035, .inl (upd cel2 (ce + j) r_1)))]) [0, 4, 5, 1, 2, 3] rfl
                          have hD9 := hD.sub (ws' := [(aR, .inr (0, [.ref aT, .ref aS])), (aT, .inr (2, [.ref aB, .int (nI u), .int (nI en), .int (nI h_53), .int (nI h2), .int w, .int wa])), (aB, .inl (kB, 65536, .inl B)), (aS, .inr (1, [.ref aN, .ref aC])), (aN, .inl (kN, 5, .inl (fun j => nI (cnt j)))), (aC, .inl (kC, 52035, .inl (upd cel2 (ce + j) r_1)))]) [0, 4, 5, 1, 2, 3] (by decide) rfl
                          refine W.widen (k := 1) (n := 6) (by decide) (by decide) ?_
                          exact vx_ret (W.iret (v := nI (j + 1)) hx hb hr (fun t ht hW => ⟨⟨nI (j + 1), (h_53, nI h2, upd cel2 (ce + j) r_1, j + 1), rfl, ⟨rfl, by rw [tl_29]; unfold zTail; rw [if_neg (fun z => absurd z.1 (fun z => z.elim c_30 (fun z => c_50 (of_decide_eq_true z.1))))]; simp only [zB_ok, hw_54]⟩, by rw [ht]; exact hP9, hD9, by rw [ht]; exact hzs⟩, hS.F ht⟩) hS.2.2 d_Rd_takeList_220)
                      ·
                        exact absurd (by decide) c_51
                    ·
                      refine lv_iload hx hb d_Rd_takeList_163 (lv_at hl 2 rfl) ?_
                      refine lv_iconst (v := 3) hx hb d_Rd_takeList_165 (by decide) ?_
                      refine lv_irem hx hb d_Rd_takeList_166 (by decide) ?_
                      refine zt_top (pk_rem (a := j + 1) (d := 3) (by omega) (by decide) (by decide)) ?_
                      refine lv_if_eq (tgt := 174) hx hb d_Rd_takeList_167 (by decide) (fun c_60 => ?_) (fun c_60 => ?_)
                      ·
                        have c_60 : ((j + 1) % 3) = 0 := (@nI_eq ((j + 1) % 3) 0 (by omega) (by omega)).mp c_60
                        refine lv_iconst (v := 0) hx hb d_Rd_takeList_174 (by decide) ?_
                        refine lv_istore (lv' := [(10, .int 0), (9, .int 0), (7, .int low), (8, .int (nI (j + 1))), (0, .ref aR), (1, .int fm), (2, .int (nI le)), (3, .int (nI mo)), (4, .int (nI ce)), (5, .int low), (6, .int hig)]) hx hb d_Rd_takeList_175 hl (by decide) rfl (fun ls hl => ?_)
                        refine lv_iload hx hb d_Rd_takeList_177 (lv_at hl 0 rfl) ?_
                        refine lv_if_eq (tgt := 209) hx hb d_Rd_takeList_179 (by decide) (fun c_61 => ?_) (fun c_61 => ?_)
                        ·
                          refine lv_aload_n hx hb d_Rd_takeList_209 rfl (lv_at hl 4 rfl) ?_
                          refine va_get (D := (dC, dI)) (ci := 0) (v := .ref aT) (C := R_Rd) (T := F_Rd) (N := 2) hx hb hz i_Rd hown hK hP 0 rfl rfl 0 (by decide) (hz _ tw_84) (fun _ h9 => h9) rfl d_Rd_takeList_210 ?_
                          refine lv_bipush (v := 93) hx hb d_Rd_takeList_213 (by decide) ?_
                          have hPc := hP.sub (ws' := [(aT, .inr (2, [.ref aB, .int (nI u), .int (nI en), .int (nI h_2), .int (nI h2), .int w, .int wa])), (aB, .inl (kB, 65536, .inl B))]) [4, 5] rfl
                          have hDc := hD.sub (ws' := [(aT, .inr (2, [.ref aB, .int (nI u), .int (nI en), .int (nI h_2), .int (nI h2), .int w, .int wa])), (aB, .inl (kB, 65536, .inl B))]) [4, 5] (by decide) rfl
                          have hKc := hK.sub (tys' := [(kB, .byte)]) [0] rfl
                          have hFc := va_free (wc := [(aT, .inr (2, [.ref aB, .int (nI u), .int (nI en), .int (nI h_2), .int (nI h2), .int w, .int wa])), (aB, .inl (kB, 65536, .inl B))]) hD hS hA [4, 5] rfl
                          refine zt_size (fun hzs => ?_)
                          refine vx_callv (vx_runV (As := [.int 93]) (rest := []) ⟨hx, hb, hml, hown, hts⟩ (c_Tp_mustTake l hst G dC dI H.size aT aB u en h_2 (nI h2) w wa kB B 93 (by omega) (by omega)) (cwV 1 hts (gV tw_214 tw_215 tw_216 tw_3 tw_217 rfl) rfl rfl rfl (by decide +kernel) ⟨Nat.le_of_ble_eq_true rfl, Nat.le_of_ble_eq_true rfl⟩) (PW_preV hPc hKc hDc hE hS hFc (ci := 2) (q0 := 0) rfl rfl) rfl rfl hl.1 rfl (lv_room (Nat.le_of_ble_eq_true rfl)) d_Rd_takeList_215 ⟨Nat.le_of_ble_eq_true rfl, Nat.le_of_ble_eq_true rfl⟩) hS (fun q _ h => hFc q h) hFc (fun q _ h => hFc q h) (fun E9 ce9 q9 uu t H1 locs ht hvm hx_69 hB hz1 hk1 hS hce hcv hcl => ?_) (fun uu t H1 locs ht hvm hw_64 hB hz1 hk1 hS => ?_)
                          ·
                            obtain ⟨w_65, k_66, h_67, na_68⟩ := uu
                            obtain ⟨hEn, hP1, hD1⟩ := hB
                            rw [ht] at hP1
                            obtain ⟨hP, hD⟩ := va_join (wr := [(aR, .inr (0, [.ref aT, .ref aS])), (aS, .inr (1, [.ref aN, .ref aC])), (aN, .inl (kN, 5, .inl (fun j => nI (cnt j)))), (aC, .inl (kC, 52035, .inl (upd cel2 (ce + j) r_1)))]) (w1 := [(aT, .inr (2, [.ref aB, .int (nI u), .int (nI en), .int (nI h_67), .int na_68, .int w_65, .int (nI k_66)])), (aB, .inl (kB, 65536, .inl B))]) hP hD [4, 5] [0, 1, 2, 3] rfl rfl (by decide) (by decide) hk1 hFc hP1 hD1
                            generalize H1 = H at hP hS hce ⊢
                            have hP : va_P (dC, dI) vwCl [(aR, .inr (0, [.ref aT, .ref aS])), (aS, .inr (1, [.ref aN, .ref aC])), (aN, .inl (kN, 5, .inl (fun j => nI (cnt j)))), (aC, .inl (kC, 52035, .inl (upd cel2 (ce + j) r_1))), (aT, .inr (2, [.ref aB, .int (nI u), .int (nI en), .int (nI h_67), .int na_68, .int w_65, .int (nI k_66)])), (aB, .inl (kB, 65536, .inl B))] H := hP
                            have hD : va_D A [(aR, .inr (0, [.ref aT, .ref aS])), (aS, .inr (1, [.ref aN, .ref aC])), (aN, .inl (kN, 5, .inl (fun j => nI (cnt j)))), (aC, .inl (kC, 52035, .inl (upd cel2 (ce + j) r_1))), (aT, .inr (2, [.ref aB, .int (nI u), .int (nI en), .int (nI h_67), .int na_68, .int w_65, .int (nI k_66)])), (aB, .inl (kB, 65536, .inl B))] := hD
                            have hP9 := hP.sub (ws' := [(aR, .inr (0, [.ref aT, .ref aS])), (aT, .inr (2, [.ref aB, .int (nI u), .int (nI en), .int (nI h_67), .int na_68, .int w_65, .int (nI k_66)])), (aB, .inl (kB, 65536, .inl B)), (aS, .inr (1, [.ref aN, .ref aC])), (aN, .inl (kN, 5, .inl (fun j => nI (cnt j)))), (aC, .inl (kC, 52035, .inl (upd cel2 (ce + j) r_1)))]) [0, 4, 5, 1, 2, 3] rfl
                            have hD9 := hD.sub (ws' := [(aR, .inr (0, [.ref aT, .ref aS])), (aT, .inr (2, [.ref aB, .int (nI u), .int (nI en), .int (nI h_67), .int na_68, .int w_65, .int (nI k_66)])), (aB, .inl (kB, 65536, .inl B)), (aS, .inr (1, [.ref aN, .ref aC])), (aN, .inl (kN, 5, .inl (fun j => nI (cnt j)))), (aC, .inl (kC, 52035, .inl (upd cel2 (ce + j) r_1)))]) [0, 4, 5, 1, 2, 3] (by decide) rfl
                            exact vx_out (fun x hx => (htab x hx).elim) hlocks hce hcv hcl (fun t ht hvm => ⟨(w_65, k_66, h_67, na_68, cnt, upd cel2 (ce + j) r_1), by rw [tl_29]; unfold zTail; rw [if_neg (fun z => absurd z.1 (fun z => z.elim c_30 (fun z => z.2 c_60)))]; simp only [zB_er, hx_69], ⟨hEn, by rw [ht]; exact hP9, hD9⟩, hS.F ht⟩) hS.2.2 (by decide) (by decide)
                          ·
                            obtain ⟨h_63, rfl⟩ : ∃ z, z = uu := ⟨_, rfl⟩
                            obtain ⟨hP1, hD1, hsz1⟩ := hB
                            rw [ht] at hP1 hsz1
                            obtain ⟨hP, hD⟩ := va_join (wr := [(aR, .inr (0, [.ref aT, .ref aS])), (aS, .inr (1, [.ref aN, .ref aC])), (aN, .inl (kN, 5, .inl (fun j => nI (cnt j)))), (aC, .inl (kC, 52035, .inl (upd cel2 (ce + j) r_1)))]) (w1 := [(aT, .inr (2, [.ref aB, .int (nI u), .int (nI en), .int (nI h_63), .int (nI h2), .int w, .int wa])), (aB, .inl (kB, 65536, .inl B))]) hP hD [4, 5] [0, 1, 2, 3] rfl rfl (by decide) (by decide) hk1 hFc hP1 hD1
                            refine zt_tight (hsz1.trans hzs) ?_
                            generalize H1 = H at hP hS ⊢
                            have hP : va_P (dC, dI) vwCl [(aR, .inr (0, [.ref aT, .ref aS])), (aS, .inr (1, [.ref aN, .ref aC])), (aN, .inl (kN, 5, .inl (fun j => nI (cnt j)))), (aC, .inl (kC, 52035, .inl (upd cel2 (ce + j) r_1))), (aT, .inr (2, [.ref aB, .int (nI u), .int (nI en), .int (nI h_63), .int (nI h2), .int w, .int wa])), (aB, .inl (kB, 65536, .inl B))] H := hP
                            have hD : va_D A [(aR, .inr (0, [.ref aT, .ref aS])), (aS, .inr (1, [.ref aN, .ref aC])), (aN, .inl (kN, 5, .inl (fun j => nI (cnt j)))), (aC, .inl (kC, 52035, .inl (upd cel2 (ce + j) r_1))), (aT, .inr (2, [.ref aB, .int (nI u), .int (nI en), .int (nI h_63), .int (nI h2), .int w, .int wa])), (aB, .inl (kB, 65536, .inl B))] := hD
                            have hw_64i := zMust_in hw_64
                            refine lv_iload hx hb d_Rd_takeList_218 (lv_at hl 3 rfl) ?_
                            refine zt_size (fun hzs => ?_)
                            have hP9 := hP.sub (ws' := [(aR, .inr (0, [.ref aT, .ref aS])), (aT, .inr (2, [.ref aB, .int (nI u), .int (nI en), .int (nI h_63), .int (nI h2), .int w, .int wa])), (aB, .inl (kB, 65536, .inl B)), (aS, .inr (1, [.ref aN, .ref aC])), (aN, .inl (kN, 5, .inl (fun j => nI (cnt j)))), (aC, .inl (kC, 52035, .inl (upd cel2 (ce + j) r_1)))]) [0, 4, 5, 1, 2, 3] rfl
                            have hD9 := hD.sub (ws' := [(aR, .inr (0, [.ref aT, .ref aS])), (aT, .inr (2, [.ref aB, .int (nI u), .int (nI en), .int (nI h_63), .int (nI h2), .int w, .int wa])), (aB, .inl (kB, 65536, .inl B)), (aS, .inr (1, [.ref aN, .ref aC])), (aN, .inl (kN, 5, .inl (fun j => nI (cnt j)))), (aC, .inl (kC, 52035, .inl (upd cel2 (ce + j) r_1)))]) [0, 4, 5, 1, 2, 3] (by decide) rfl
                            refine W.widen (k := 1) (n := 6) (by decide) (by decide) ?_
                            exact vx_ret (W.iret (v := nI (j + 1)) hx hb hr (fun t ht hW => ⟨⟨nI (j + 1), (h_63, nI h2, upd cel2 (ce + j) r_1, j + 1), rfl, ⟨rfl, by rw [tl_29]; unfold zTail; rw [if_neg (fun z => absurd z.1 (fun z => z.elim c_30 (fun z => z.2 c_60)))]; simp only [zB_ok, hw_64]⟩, by rw [ht]; exact hP9, hD9, by rw [ht]; exact hzs⟩, hS.F ht⟩) hS.2.2 d_Rd_takeList_220)
                        ·
                          exact absurd (by decide) c_61
                      ·
                        have c_60 : ¬ (((j + 1) % 3) = 0) := fun z => c_60 ((@nI_eq ((j + 1) % 3) 0 (by omega) (by omega)).mpr z)
                        refine lv_iconst (v := 1) hx hb d_Rd_takeList_170 (by decide) ?_
                        refine lv_goto (tgt := 175) hx hb d_Rd_takeList_171 (by decide) ?_
                        refine lv_istore (lv' := [(10, .int 1), (9, .int 0), (7, .int low), (8, .int (nI (j + 1))), (0, .ref aR), (1, .int fm), (2, .int (nI le)), (3, .int (nI mo)), (4, .int (nI ce)), (5, .int low), (6, .int hig)]) hx hb d_Rd_takeList_175 hl (by decide) rfl (fun ls hl => ?_)
                        refine lv_iload hx hb d_Rd_takeList_177 (lv_at hl 0 rfl) ?_
                        refine lv_if_eq (tgt := 209) hx hb d_Rd_takeList_179 (by decide) (fun c_70 => ?_) (fun c_70 => ?_)
                        ·
                          exact absurd c_70 (by decide)
                        ·
                          refine lv_aload_n hx hb d_Rd_takeList_182 rfl (lv_at hl 4 rfl) ?_
                          refine va_get (D := (dC, dI)) (ci := 0) (v := .ref aT) (C := R_Rd) (T := F_Rd) (N := 2) hx hb hz i_Rd hown hK hP 0 rfl rfl 0 (by decide) (hz _ tw_84) (fun _ h9 => h9) rfl d_Rd_takeList_183 ?_
                          refine lv_bipush (v := 93) hx hb d_Rd_takeList_186 (by decide) ?_
                          have hPc := hP.sub (ws' := [(aT, .inr (2, [.ref aB, .int (nI u), .int (nI en), .int (nI h_2), .int (nI h2), .int w, .int wa])), (aB, .inl (kB, 65536, .inl B))]) [4, 5] rfl
                          have hDc := hD.sub (ws' := [(aT, .inr (2, [.ref aB, .int (nI u), .int (nI en), .int (nI h_2), .int (nI h2), .int w, .int wa])), (aB, .inl (kB, 65536, .inl B))]) [4, 5] (by decide) rfl
                          have hKc := hK.sub (tys' := [(kB, .byte)]) [0] rfl
                          have hFc := va_free (wc := [(aT, .inr (2, [.ref aB, .int (nI u), .int (nI en), .int (nI h_2), .int (nI h2), .int w, .int wa])), (aB, .inl (kB, 65536, .inl B))]) hD hS hA [4, 5] rfl
                          refine va_calli (va_runV (As := [.int 93]) (rest := []) ⟨hx, hb, hml, hown, hts⟩ (c_Tp_sees l G dC dI H.size aT aB u en h_2 (nI h2) w wa kB B 93 (by omega) (by omega)) (cwV 1 hts (gV tw_291 tw_219 tw_220 tw_3 tw_221 rfl) rfl rfl rfl (by decide +kernel) ⟨Nat.le_of_ble_eq_true rfl, Nat.le_of_ble_eq_true rfl⟩) (PW_preV hPc hKc hDc hE hS hFc (ci := 2) (q0 := 0) rfl rfl) rfl rfl hl.1 rfl (lv_room (Nat.le_of_ble_eq_true rfl)) d_Rd_takeList_188 ⟨Nat.le_of_ble_eq_true rfl, Nat.le_of_ble_eq_true rfl⟩) hS (fun q _ h => hFc q h) hFc (fun r_71 uu t H1 locs ht hvm hw_72 hB hz1 hk1 hS => ?_)
                          obtain ⟨hP1, hD1, hsz1⟩ := hB
                          rw [ht] at hP1 hsz1
                          obtain ⟨hP, hD⟩ := va_join (wr := [(aR, .inr (0, [.ref aT, .ref aS])), (aS, .inr (1, [.ref aN, .ref aC])), (aN, .inl (kN, 5, .inl (fun j => nI (cnt j)))), (aC, .inl (kC, 52035, .inl (upd cel2 (ce + j) r_1)))]) (w1 := [(aT, .inr (2, [.ref aB, .int (nI u), .int (nI en), .int (nI h_2), .int (nI h2), .int w, .int wa])), (aB, .inl (kB, 65536, .inl B))]) hP hD [4, 5] [0, 1, 2, 3] rfl rfl (by decide) (by decide) hk1 hFc hP1 hD1
                          generalize H1 = H at hP hS ⊢
                          have hP : va_P (dC, dI) vwCl [(aR, .inr (0, [.ref aT, .ref aS])), (aS, .inr (1, [.ref aN, .ref aC])), (aN, .inl (kN, 5, .inl (fun j => nI (cnt j)))), (aC, .inl (kC, 52035, .inl (upd cel2 (ce + j) r_1))), (aT, .inr (2, [.ref aB, .int (nI u), .int (nI en), .int (nI h_2), .int (nI h2), .int w, .int wa])), (aB, .inl (kB, 65536, .inl B))] H := hP
                          have hD : va_D A [(aR, .inr (0, [.ref aT, .ref aS])), (aS, .inr (1, [.ref aN, .ref aC])), (aN, .inl (kN, 5, .inl (fun j => nI (cnt j)))), (aC, .inl (kC, 52035, .inl (upd cel2 (ce + j) r_1))), (aT, .inr (2, [.ref aB, .int (nI u), .int (nI en), .int (nI h_2), .int (nI h2), .int w, .int wa])), (aB, .inl (kB, 65536, .inl B))] := hD
                          by_cases hs_73 : h_2 < en ∧ B h_2 = 93
                          ·
                            rw [if_pos hs_73] at hw_72; subst hw_72
                            refine lv_if_eq (tgt := 209) hx hb d_Rd_takeList_191 (by decide) (fun c_74 => ?_) (fun c_74 => ?_)
                            ·
                              exact absurd c_74 (by decide)
                            ·
                              refine lv_aload_n hx hb d_Rd_takeList_194 rfl (lv_at hl 4 rfl) ?_
                              refine va_get (D := (dC, dI)) (ci := 0) (v := .ref aT) (C := R_Rd) (T := F_Rd) (N := 2) hx hb hz i_Rd hown hK hP 0 rfl rfl 0 (by decide) (hz _ tw_84) (fun _ h9 => h9) rfl d_Rd_takeList_195 ?_
                              refine lv_iconst (v := 3) hx hb d_Rd_takeList_198 (by decide) ?_
                              refine lv_aload_n hx hb d_Rd_takeList_199 rfl (lv_at hl 4 rfl) ?_
                              refine va_get (D := (dC, dI)) (ci := 0) (v := .ref aT) (C := R_Rd) (T := F_Rd) (N := 2) hx hb hz i_Rd hown hK hP 0 rfl rfl 0 (by decide) (hz _ tw_84) (fun _ h9 => h9) rfl d_Rd_takeList_200 ?_
                              refine va_getN (D := (dC, dI)) (ci := 2) (v := .int (nI h_2)) (C := R_Tp) (T := F_Tp) (N := 7) hx hb hz i_Tp hown hK hP 4 rfl rfl 3 (by decide) (va_Nw.use rfl (hE.1 _ (List.mem_of_getElem? (i := 3) rfl))) (fun _ h9 => h9) rfl d_Rd_takeList_203 ?_
                              have hPc := hP.sub (ws' := [(aT, .inr (2, [.ref aB, .int (nI u), .int (nI en), .int (nI h_2), .int (nI h2), .int w, .int wa])), (aB, .inl (kB, 65536, .inl B))]) [4, 5] rfl
                              have hDc := hD.sub (ws' := [(aT, .inr (2, [.ref aB, .int (nI u), .int (nI en), .int (nI h_2), .int (nI h2), .int w, .int wa])), (aB, .inl (kB, 65536, .inl B))]) [4, 5] (by decide) rfl
                              have hKc := hK.sub (tys' := [(kB, .byte)]) [0] rfl
                              have hFc := va_free (wc := [(aT, .inr (2, [.ref aB, .int (nI u), .int (nI en), .int (nI h_2), .int (nI h2), .int w, .int wa])), (aB, .inl (kB, 65536, .inl B))]) hD hS hA [4, 5] rfl
                              refine zt_size (fun hzs => ?_)
                              refine vx_callv (vx_runV (As := [.int 3, .int (nI h_2)]) (rest := []) ⟨hx, hb, hml, hown, hts⟩ (c_Tp_refuse l hst G dC dI H.size aT aB u en h_2 (nI h2) w wa kB B 3 (nI h_2)) (cwV 2 hts (gV tw_363 tw_223 tw_224 tw_3 tw_225 rfl) rfl rfl rfl (by decide +kernel) ⟨Nat.le_of_ble_eq_true rfl, Nat.le_of_ble_eq_true rfl⟩) (PW_preV hPc hKc hDc hE hS hFc (ci := 2) (q0 := 0) rfl rfl) rfl rfl hl.1 rfl (lv_room (Nat.le_of_ble_eq_true rfl)) d_Rd_takeList_206 ⟨Nat.le_of_ble_eq_true rfl, Nat.le_of_ble_eq_true rfl⟩) hS (fun q _ h => hFc q h) hFc (fun q _ h => hFc q h) (fun E9 ce9 q9 uu t H1 locs ht hvm hx_79 hB hz1 hk1 hS hce hcv hcl => ?_) (fun uu t H1 locs ht hvm hw_76 hB hz1 hk1 hS => ?_)
                              ·
                                obtain ⟨w_77, wa_78⟩ := uu
                                obtain ⟨hEn, hP1, hD1⟩ := hB
                                rw [ht] at hP1
                                obtain ⟨hP, hD⟩ := va_join (wr := [(aR, .inr (0, [.ref aT, .ref aS])), (aS, .inr (1, [.ref aN, .ref aC])), (aN, .inl (kN, 5, .inl (fun j => nI (cnt j)))), (aC, .inl (kC, 52035, .inl (upd cel2 (ce + j) r_1)))]) (w1 := [(aT, .inr (2, [.ref aB, .int (nI u), .int (nI en), .int (nI h_2), .int (nI h2), .int w_77, .int wa_78])), (aB, .inl (kB, 65536, .inl B))]) hP hD [4, 5] [0, 1, 2, 3] rfl rfl (by decide) (by decide) hk1 hFc hP1 hD1
                                generalize H1 = H at hP hS hce ⊢
                                have hP : va_P (dC, dI) vwCl [(aR, .inr (0, [.ref aT, .ref aS])), (aS, .inr (1, [.ref aN, .ref aC])), (aN, .inl (kN, 5, .inl (fun j => nI (cnt j)))), (aC, .inl (kC, 52035, .inl (upd cel2 (ce + j) r_1))), (aT, .inr (2, [.ref aB, .int (nI u), .int (nI en), .int (nI h_2), .int (nI h2), .int w_77, .int wa_78])), (aB, .inl (kB, 65536, .inl B))] H := hP
                                have hD : va_D A [(aR, .inr (0, [.ref aT, .ref aS])), (aS, .inr (1, [.ref aN, .ref aC])), (aN, .inl (kN, 5, .inl (fun j => nI (cnt j)))), (aC, .inl (kC, 52035, .inl (upd cel2 (ce + j) r_1))), (aT, .inr (2, [.ref aB, .int (nI u), .int (nI en), .int (nI h_2), .int (nI h2), .int w_77, .int wa_78])), (aB, .inl (kB, 65536, .inl B))] := hD
                                obtain ⟨rfl, rfl⟩ := hx_79
                                have hP9 := hP.sub (ws' := [(aR, .inr (0, [.ref aT, .ref aS])), (aT, .inr (2, [.ref aB, .int (nI u), .int (nI en), .int (nI h_2), .int (nI h2), .int 3, .int (nI h_2)])), (aB, .inl (kB, 65536, .inl B)), (aS, .inr (1, [.ref aN, .ref aC])), (aN, .inl (kN, 5, .inl (fun j => nI (cnt j)))), (aC, .inl (kC, 52035, .inl (upd cel2 (ce + j) r_1)))]) [0, 4, 5, 1, 2, 3] rfl
                                have hD9 := hD.sub (ws' := [(aR, .inr (0, [.ref aT, .ref aS])), (aT, .inr (2, [.ref aB, .int (nI u), .int (nI en), .int (nI h_2), .int (nI h2), .int 3, .int (nI h_2)])), (aB, .inl (kB, 65536, .inl B)), (aS, .inr (1, [.ref aN, .ref aC])), (aN, .inl (kN, 5, .inl (fun j => nI (cnt j)))), (aC, .inl (kC, 52035, .inl (upd cel2 (ce + j) r_1)))]) [0, 4, 5, 1, 2, 3] (by decide) rfl
                                exact vx_out (fun x hx => (htab x hx).elim) hlocks hce hcv hcl (fun t ht hvm => ⟨(3, h_2, h_2, nI h2, cnt, upd cel2 (ce + j) r_1), by rw [tl_29]; unfold zTail; rw [if_pos ⟨Or.inr ⟨decide_eq_true c_50, c_60⟩, hs_73⟩], ⟨hEn, by rw [ht]; exact hP9, hD9⟩, hS.F ht⟩) hS.2.2 (by decide) (by decide)
                              · exact (hw_76 : False).elim
                          ·
                            rw [if_neg hs_73] at hw_72; subst hw_72
                            refine lv_if_eq (tgt := 209) hx hb d_Rd_takeList_191 (by decide) (fun c_80 => ?_) (fun c_80 => ?_)
                            ·
                              refine lv_aload_n hx hb d_Rd_takeList_209 rfl (lv_at hl 4 rfl) ?_
                              refine va_get (D := (dC, dI)) (ci := 0) (v := .ref aT) (C := R_Rd) (T := F_Rd) (N := 2) hx hb hz i_Rd hown hK hP 0 rfl rfl 0 (by decide) (hz _ tw_84) (fun _ h9 => h9) rfl d_Rd_takeList_210 ?_
                              refine lv_bipush (v := 93) hx hb d_Rd_takeList_213 (by decide) ?_
                              have hPc := hP.sub (ws' := [(aT, .inr (2, [.ref aB, .int (nI u), .int (nI en), .int (nI h_2), .int (nI h2), .int w, .int wa])), (aB, .inl (kB, 65536, .inl B))]) [4, 5] rfl
                              have hDc := hD.sub (ws' := [(aT, .inr (2, [.ref aB, .int (nI u), .int (nI en), .int (nI h_2), .int (nI h2), .int w, .int wa])), (aB, .inl (kB, 65536, .inl B))]) [4, 5] (by decide) rfl
                              have hKc := hK.sub (tys' := [(kB, .byte)]) [0] rfl
                              have hFc := va_free (wc := [(aT, .inr (2, [.ref aB, .int (nI u), .int (nI en), .int (nI h_2), .int (nI h2), .int w, .int wa])), (aB, .inl (kB, 65536, .inl B))]) hD hS hA [4, 5] rfl
                              refine zt_size (fun hzs => ?_)
                              refine vx_callv (vx_runV (As := [.int 93]) (rest := []) ⟨hx, hb, hml, hown, hts⟩ (c_Tp_mustTake l hst G dC dI H.size aT aB u en h_2 (nI h2) w wa kB B 93 (by omega) (by omega)) (cwV 1 hts (gV tw_214 tw_215 tw_216 tw_3 tw_217 rfl) rfl rfl rfl (by decide +kernel) ⟨Nat.le_of_ble_eq_true rfl, Nat.le_of_ble_eq_true rfl⟩) (PW_preV hPc hKc hDc hE hS hFc (ci := 2) (q0 := 0) rfl rfl) rfl rfl hl.1 rfl (lv_room (Nat.le_of_ble_eq_true rfl)) d_Rd_takeList_215 ⟨Nat.le_of_ble_eq_true rfl, Nat.le_of_ble_eq_true rfl⟩) hS (fun q _ h => hFc q h) hFc (fun q _ h => hFc q h) (fun E9 ce9 q9 uu t H1 locs ht hvm hx_88 hB hz1 hk1 hS hce hcv hcl => ?_) (fun uu t H1 locs ht hvm hw_83 hB hz1 hk1 hS => ?_)
                              ·
                                obtain ⟨w_84, k_85, h_86, na_87⟩ := uu
                                obtain ⟨hEn, hP1, hD1⟩ := hB
                                rw [ht] at hP1
                                obtain ⟨hP, hD⟩ := va_join (wr := [(aR, .inr (0, [.ref aT, .ref aS])), (aS, .inr (1, [.ref aN, .ref aC])), (aN, .inl (kN, 5, .inl (fun j => nI (cnt j)))), (aC, .inl (kC, 52035, .inl (upd cel2 (ce + j) r_1)))]) (w1 := [(aT, .inr (2, [.ref aB, .int (nI u), .int (nI en), .int (nI h_86), .int na_87, .int w_84, .int (nI k_85)])), (aB, .inl (kB, 65536, .inl B))]) hP hD [4, 5] [0, 1, 2, 3] rfl rfl (by decide) (by decide) hk1 hFc hP1 hD1
                                generalize H1 = H at hP hS hce ⊢
                                have hP : va_P (dC, dI) vwCl [(aR, .inr (0, [.ref aT, .ref aS])), (aS, .inr (1, [.ref aN, .ref aC])), (aN, .inl (kN, 5, .inl (fun j => nI (cnt j)))), (aC, .inl (kC, 52035, .inl (upd cel2 (ce + j) r_1))), (aT, .inr (2, [.ref aB, .int (nI u), .int (nI en), .int (nI h_86), .int na_87, .int w_84, .int (nI k_85)])), (aB, .inl (kB, 65536, .inl B))] H := hP
                                have hD : va_D A [(aR, .inr (0, [.ref aT, .ref aS])), (aS, .inr (1, [.ref aN, .ref aC])), (aN, .inl (kN, 5, .inl (fun j => nI (cnt j)))), (aC, .inl (kC, 52035, .inl (upd cel2 (ce + j) r_1))), (aT, .inr (2, [.ref aB, .int (nI u), .int (nI en), .int (nI h_86), .int na_87, .int w_84, .int (nI k_85)])), (aB, .inl (kB, 65536, .inl B))] := hD
                                have hP9 := hP.sub (ws' := [(aR, .inr (0, [.ref aT, .ref aS])), (aT, .inr (2, [.ref aB, .int (nI u), .int (nI en), .int (nI h_86), .int na_87, .int w_84, .int (nI k_85)])), (aB, .inl (kB, 65536, .inl B)), (aS, .inr (1, [.ref aN, .ref aC])), (aN, .inl (kN, 5, .inl (fun j => nI (cnt j)))), (aC, .inl (kC, 52035, .inl (upd cel2 (ce + j) r_1)))]) [0, 4, 5, 1, 2, 3] rfl
                                have hD9 := hD.sub (ws' := [(aR, .inr (0, [.ref aT, .ref aS])), (aT, .inr (2, [.ref aB, .int (nI u), .int (nI en), .int (nI h_86), .int na_87, .int w_84, .int (nI k_85)])), (aB, .inl (kB, 65536, .inl B)), (aS, .inr (1, [.ref aN, .ref aC])), (aN, .inl (kN, 5, .inl (fun j => nI (cnt j)))), (aC, .inl (kC, 52035, .inl (upd cel2 (ce + j) r_1)))]) [0, 4, 5, 1, 2, 3] (by decide) rfl
                                exact vx_out (fun x hx => (htab x hx).elim) hlocks hce hcv hcl (fun t ht hvm => ⟨(w_84, k_85, h_86, na_87, cnt, upd cel2 (ce + j) r_1), by rw [tl_29]; unfold zTail; rw [if_neg (fun z => hs_73 z.2)]; simp only [zB_er, hx_88], ⟨hEn, by rw [ht]; exact hP9, hD9⟩, hS.F ht⟩) hS.2.2 (by decide) (by decide)
                              ·
                                obtain ⟨h_82, rfl⟩ : ∃ z, z = uu := ⟨_, rfl⟩
                                obtain ⟨hP1, hD1, hsz1⟩ := hB
                                rw [ht] at hP1 hsz1
                                obtain ⟨hP, hD⟩ := va_join (wr := [(aR, .inr (0, [.ref aT, .ref aS])), (aS, .inr (1, [.ref aN, .ref aC])), (aN, .inl (kN, 5, .inl (fun j => nI (cnt j)))), (aC, .inl (kC, 52035, .inl (upd cel2 (ce + j) r_1)))]) (w1 := [(aT, .inr (2, [.ref aB, .int (nI u), .int (nI en), .int (nI h_82), .int (nI h2), .int w, .int wa])), (aB, .inl (kB, 65536, .inl B))]) hP hD [4, 5] [0, 1, 2, 3] rfl rfl (by decide) (by decide) hk1 hFc hP1 hD1
                                refine zt_tight (hsz1.trans hzs) ?_
                                generalize H1 = H at hP hS ⊢
                                have hP : va_P (dC, dI) vwCl [(aR, .inr (0, [.ref aT, .ref aS])), (aS, .inr (1, [.ref aN, .ref aC])), (aN, .inl (kN, 5, .inl (fun j => nI (cnt j)))), (aC, .inl (kC, 52035, .inl (upd cel2 (ce + j) r_1))), (aT, .inr (2, [.ref aB, .int (nI u), .int (nI en), .int (nI h_82), .int (nI h2), .int w, .int wa])), (aB, .inl (kB, 65536, .inl B))] H := hP
                                have hD : va_D A [(aR, .inr (0, [.ref aT, .ref aS])), (aS, .inr (1, [.ref aN, .ref aC])), (aN, .inl (kN, 5, .inl (fun j => nI (cnt j)))), (aC, .inl (kC, 52035, .inl (upd cel2 (ce + j) r_1))), (aT, .inr (2, [.ref aB, .int (nI u), .int (nI en), .int (nI h_82), .int (nI h2), .int w, .int wa])), (aB, .inl (kB, 65536, .inl B))] := hD
                                have hw_83i := zMust_in hw_83
                                refine lv_iload hx hb d_Rd_takeList_218 (lv_at hl 3 rfl) ?_
                                refine zt_size (fun hzs => ?_)
                                have hP9 := hP.sub (ws' := [(aR, .inr (0, [.ref aT, .ref aS])), (aT, .inr (2, [.ref aB, .int (nI u), .int (nI en), .int (nI h_82), .int (nI h2), .int w, .int wa])), (aB, .inl (kB, 65536, .inl B)), (aS, .inr (1, [.ref aN, .ref aC])), (aN, .inl (kN, 5, .inl (fun j => nI (cnt j)))), (aC, .inl (kC, 52035, .inl (upd cel2 (ce + j) r_1)))]) [0, 4, 5, 1, 2, 3] rfl
                                have hD9 := hD.sub (ws' := [(aR, .inr (0, [.ref aT, .ref aS])), (aT, .inr (2, [.ref aB, .int (nI u), .int (nI en), .int (nI h_82), .int (nI h2), .int w, .int wa])), (aB, .inl (kB, 65536, .inl B)), (aS, .inr (1, [.ref aN, .ref aC])), (aN, .inl (kN, 5, .inl (fun j => nI (cnt j)))), (aC, .inl (kC, 52035, .inl (upd cel2 (ce + j) r_1)))]) [0, 4, 5, 1, 2, 3] (by decide) rfl
                                refine W.widen (k := 1) (n := 6) (by decide) (by decide) ?_
                                exact vx_ret (W.iret (v := nI (j + 1)) hx hb hr (fun t ht hW => ⟨⟨nI (j + 1), (h_82, nI h2, upd cel2 (ce + j) r_1, j + 1), rfl, ⟨rfl, by rw [tl_29]; unfold zTail; rw [if_neg (fun z => hs_73 z.2)]; simp only [zB_ok, hw_83]⟩, by rw [ht]; exact hP9, hD9, by rw [ht]; exact hzs⟩, hS.F ht⟩) hS.2.2 d_Rd_takeList_220)
                            ·
                              exact absurd (by decide) c_80
                ·
                  exact absurd (by decide) c_28
            ·
              refine lv_iload hx hb d_Rd_takeList_127 (lv_at hl 1 rfl) ?_
              refine lv_iconst (v := 1) hx hb d_Rd_takeList_129 (by decide) ?_
              refine lv_iadd hx hb d_Rd_takeList_130 ?_
              refine lv_goto (tgt := 136) hx hb d_Rd_takeList_131 (by decide) ?_
              refine lv_istore (lv' := [(7, .int (r_1 + 1)), (8, .int (nI (j + 1))), (10, .int r_1), (0, .ref aR), (1, .int fm), (2, .int (nI le)), (3, .int (nI mo)), (4, .int (nI ce)), (5, .int low), (6, .int hig)]) hx hb d_Rd_takeList_136 hl (by decide) rfl (fun ls hl => ?_)
              refine lv_aload_n hx hb d_Rd_takeList_138 rfl (lv_at hl 3 rfl) ?_
              refine va_get (D := (dC, dI)) (ci := 0) (v := .ref aT) (C := R_Rd) (T := F_Rd) (N := 2) hx hb hz i_Rd hown hK hP 0 rfl rfl 0 (by decide) (hz _ tw_84) (fun _ h9 => h9) rfl d_Rd_takeList_139 ?_
              refine lv_bipush (v := 44) hx hb d_Rd_takeList_142 (by decide) ?_
              have hPc := hP.sub (ws' := [(aT, .inr (2, [.ref aB, .int (nI u), .int (nI en), .int (nI h_2), .int (nI h2), .int w, .int wa])), (aB, .inl (kB, 65536, .inl B))]) [1, 2] rfl
              have hDc := hD.sub (ws' := [(aT, .inr (2, [.ref aB, .int (nI u), .int (nI en), .int (nI h_2), .int (nI h2), .int w, .int wa])), (aB, .inl (kB, 65536, .inl B))]) [1, 2] (by decide) rfl
              have hKc := hK.sub (tys' := [(kB, .byte)]) [0] rfl
              have hFc := va_free (wc := [(aT, .inr (2, [.ref aB, .int (nI u), .int (nI en), .int (nI h_2), .int (nI h2), .int w, .int wa])), (aB, .inl (kB, 65536, .inl B))]) hD hS hA [1, 2] rfl
              refine va_calli (va_runV (As := [.int 44]) (rest := []) ⟨hx, hb, hml, hown, hts⟩ (c_Tp_takes l G dC dI H.size aT aB u en h_2 (nI h2) w wa kB B 44 (by omega) (by omega)) (cwV 1 hts (gV tw_379 tw_380 tw_381 tw_3 tw_382 rfl) rfl rfl rfl (by decide +kernel) ⟨Nat.le_of_ble_eq_true rfl, Nat.le_of_ble_eq_true rfl⟩) (PW_preV hPc hKc hDc hE hS hFc (ci := 2) (q0 := 0) rfl rfl) rfl rfl hl.1 rfl (lv_room (Nat.le_of_ble_eq_true rfl)) d_Rd_takeList_144 ⟨Nat.le_of_ble_eq_true rfl, Nat.le_of_ble_eq_true rfl⟩) hS (fun q _ h => hFc q h) hFc (fun r_89 uu t H1 locs ht hvm hw_91 hB hz1 hk1 hS => ?_)
              obtain ⟨h_90, rfl⟩ : ∃ z, z = uu := ⟨_, rfl⟩
              obtain ⟨hP1, hD1, hsz1⟩ := hB
              rw [ht] at hP1 hsz1
              obtain ⟨hP, hD⟩ := va_join (wr := [(aR, .inr (0, [.ref aT, .ref aS])), (aS, .inr (1, [.ref aN, .ref aC])), (aN, .inl (kN, 5, .inl (fun j => nI (cnt j)))), (aC, .inl (kC, 52035, .inl (upd cel2 (ce + j) r_1)))]) (w1 := [(aT, .inr (2, [.ref aB, .int (nI u), .int (nI en), .int (nI h_90), .int (nI h2), .int w, .int wa])), (aB, .inl (kB, 65536, .inl B))]) hP hD [1, 2] [0, 3, 4, 5] rfl rfl (by decide) (by decide) hk1 hFc hP1 hD1
              generalize H1 = H at hP hS ⊢
              have hP : va_P (dC, dI) vwCl [(aR, .inr (0, [.ref aT, .ref aS])), (aS, .inr (1, [.ref aN, .ref aC])), (aN, .inl (kN, 5, .inl (fun j => nI (cnt j)))), (aC, .inl (kC, 52035, .inl (upd cel2 (ce + j) r_1))), (aT, .inr (2, [.ref aB, .int (nI u), .int (nI en), .int (nI h_90), .int (nI h2), .int w, .int wa])), (aB, .inl (kB, 65536, .inl B))] H := hP
              have hD : va_D A [(aR, .inr (0, [.ref aT, .ref aS])), (aS, .inr (1, [.ref aN, .ref aC])), (aN, .inl (kN, 5, .inl (fun j => nI (cnt j)))), (aC, .inl (kC, 52035, .inl (upd cel2 (ce + j) r_1))), (aT, .inr (2, [.ref aB, .int (nI u), .int (nI en), .int (nI h_90), .int (nI h2), .int w, .int wa])), (aB, .inl (kB, 65536, .inl B))] := hD
              by_cases hs_92 : h_2 < en ∧ B h_2 = 44
              ·
                obtain ⟨e1, e2⟩ := hw_91
                rw [if_pos hs_92] at e1 e2; subst e1; have e2 := e2.symm; subst e2
                have hs_92i := zK_le (B := B) (en := en) (i := h_2 + 1) (by omega)
                refine lv_istore (lv' := [(9, .int 1), (7, .int (r_1 + 1)), (8, .int (nI (j + 1))), (10, .int r_1), (0, .ref aR), (1, .int fm), (2, .int (nI le)), (3, .int (nI mo)), (4, .int (nI ce)), (5, .int low), (6, .int hig)]) hx hb d_Rd_takeList_147 hl (by decide) rfl (fun ls hl => ?_)
                refine lv_goto (tgt := 35) hx hb d_Rd_takeList_149 (by decide) ?_
                refine lv_iload hx hb d_Rd_takeList_35 (lv_at hl 0 rfl) ?_
                refine lv_if_eq (tgt := 152) hx hb d_Rd_takeList_37 (by decide) (fun c_93 => ?_) (fun c_93 => ?_)
                ·
                  exact absurd c_93 (by decide)
                ·
                  refine lv_iload hx hb d_Rd_takeList_40 (lv_at hl 2 rfl) ?_
                  refine lv_iload_n hx hb d_Rd_takeList_42 rfl (lv_at hl 7 rfl) ?_
                  refine lv_icmp_gt (tgt := 152) hx hb d_Rd_takeList_43 (by decide) (fun c_94 => ?_) (fun c_94 => ?_)
                  ·
                    exact absurd c_94 (nI_nlt (a := mo) (b := j + 1) (by omega) (by omega))
                  ·
                    exact ih (j + 1) (r_1 + 1) (zK B en (h_2 + 1)) (nI h2) (upd cel2 (ce + j) r_1) (by omega) (by omega) (by omega) (by rw [hI, zLst_step (by omega), hw_4a, zB_ok, if_neg c_10, if_neg (fun z => z.elim c_11 (fun z => absurd c_17 (Int32.not_le.mpr z))), if_pos hs_92, if_pos (decide_eq_true c_21)]) _ _ (hP.sub [0, 4, 5, 1, 2, 3] rfl) (hD.sub [0, 4, 5, 1, 2, 3] (by decide) rfl) hS ls (lv_sub hl [4, 5, 6, 7, 8, 9, 10, 1, 2] rfl)
              ·
                obtain ⟨e1, e2⟩ := hw_91
                rw [if_neg hs_92] at e1 e2; subst e1; have e2 := e2.symm; subst e2
                refine lv_istore (lv' := [(9, .int 0), (7, .int (r_1 + 1)), (8, .int (nI (j + 1))), (10, .int r_1), (0, .ref aR), (1, .int fm), (2, .int (nI le)), (3, .int (nI mo)), (4, .int (nI ce)), (5, .int low), (6, .int hig)]) hx hb d_Rd_takeList_147 hl (by decide) rfl (fun ls hl => ?_)
                refine lv_goto (tgt := 35) hx hb d_Rd_takeList_149 (by decide) ?_
                refine lv_iload hx hb d_Rd_takeList_35 (lv_at hl 0 rfl) ?_
                refine lv_if_eq (tgt := 152) hx hb d_Rd_takeList_37 (by decide) (fun c_95 => ?_) (fun c_95 => ?_)
                ·
                  have tl_96 : zList B en (decide (fm = 2)) (decide (fm = 1)) le mo ce low hig h cel = zTail B en (decide (fm = 1)) le (j + 1, h_2, upd cel2 (ce + j) r_1) := by rw [hI, zLst_step (by omega), hw_4a, zB_ok, if_neg c_10, if_neg (fun z => z.elim c_11 (fun z => absurd c_17 (Int32.not_le.mpr z))), if_neg hs_92, zB_ok]
                  refine lv_iload hx hb d_Rd_takeList_152 (lv_at hl 2 rfl) ?_
                  refine lv_iload_n hx hb d_Rd_takeList_154 rfl (lv_at hl 6 rfl) ?_
                  refine lv_icmp_lt (tgt := 170) hx hb d_Rd_takeList_155 (by decide) (fun c_97 => ?_) (fun c_97 => ?_)
                  ·
                    have c_97 : (j + 1) < le := (@nI_ltI (j + 1) le (by omega) (by omega)).mp c_97
                    refine lv_iconst (v := 1) hx hb d_Rd_takeList_170 (by decide) ?_
                    refine lv_goto (tgt := 175) hx hb d_Rd_takeList_171 (by decide) ?_
                    refine lv_istore (lv' := [(10, .int 1), (9, .int 0), (7, .int (r_1 + 1)), (8, .int (nI (j + 1))), (0, .ref aR), (1, .int fm), (2, .int (nI le)), (3, .int (nI mo)), (4, .int (nI ce)), (5, .int low), (6, .int hig)]) hx hb d_Rd_takeList_175 hl (by decide) rfl (fun ls hl => ?_)
                    refine lv_iload hx hb d_Rd_takeList_177 (lv_at hl 0 rfl) ?_
                    refine lv_if_eq (tgt := 209) hx hb d_Rd_takeList_179 (by decide) (fun c_98 => ?_) (fun c_98 => ?_)
                    ·
                      exact absurd c_98 (by decide)
                    ·
                      refine lv_aload_n hx hb d_Rd_takeList_182 rfl (lv_at hl 4 rfl) ?_
                      refine va_get (D := (dC, dI)) (ci := 0) (v := .ref aT) (C := R_Rd) (T := F_Rd) (N := 2) hx hb hz i_Rd hown hK hP 0 rfl rfl 0 (by decide) (hz _ tw_84) (fun _ h9 => h9) rfl d_Rd_takeList_183 ?_
                      refine lv_bipush (v := 93) hx hb d_Rd_takeList_186 (by decide) ?_
                      have hPc := hP.sub (ws' := [(aT, .inr (2, [.ref aB, .int (nI u), .int (nI en), .int (nI h_2), .int (nI h2), .int w, .int wa])), (aB, .inl (kB, 65536, .inl B))]) [4, 5] rfl
                      have hDc := hD.sub (ws' := [(aT, .inr (2, [.ref aB, .int (nI u), .int (nI en), .int (nI h_2), .int (nI h2), .int w, .int wa])), (aB, .inl (kB, 65536, .inl B))]) [4, 5] (by decide) rfl
                      have hKc := hK.sub (tys' := [(kB, .byte)]) [0] rfl
                      have hFc := va_free (wc := [(aT, .inr (2, [.ref aB, .int (nI u), .int (nI en), .int (nI h_2), .int (nI h2), .int w, .int wa])), (aB, .inl (kB, 65536, .inl B))]) hD hS hA [4, 5] rfl
                      refine va_calli (va_runV (As := [.int 93]) (rest := []) ⟨hx, hb, hml, hown, hts⟩ (c_Tp_sees l G dC dI H.size aT aB u en h_2 (nI h2) w wa kB B 93 (by omega) (by omega)) (cwV 1 hts (gV tw_291 tw_219 tw_220 tw_3 tw_221 rfl) rfl rfl rfl (by decide +kernel) ⟨Nat.le_of_ble_eq_true rfl, Nat.le_of_ble_eq_true rfl⟩) (PW_preV hPc hKc hDc hE hS hFc (ci := 2) (q0 := 0) rfl rfl) rfl rfl hl.1 rfl (lv_room (Nat.le_of_ble_eq_true rfl)) d_Rd_takeList_188 ⟨Nat.le_of_ble_eq_true rfl, Nat.le_of_ble_eq_true rfl⟩) hS (fun q _ h => hFc q h) hFc (fun r_99 uu t H1 locs ht hvm hw_100 hB hz1 hk1 hS => ?_)
                      obtain ⟨hP1, hD1, hsz1⟩ := hB
                      rw [ht] at hP1 hsz1
                      obtain ⟨hP, hD⟩ := va_join (wr := [(aR, .inr (0, [.ref aT, .ref aS])), (aS, .inr (1, [.ref aN, .ref aC])), (aN, .inl (kN, 5, .inl (fun j => nI (cnt j)))), (aC, .inl (kC, 52035, .inl (upd cel2 (ce + j) r_1)))]) (w1 := [(aT, .inr (2, [.ref aB, .int (nI u), .int (nI en), .int (nI h_2), .int (nI h2), .int w, .int wa])), (aB, .inl (kB, 65536, .inl B))]) hP hD [4, 5] [0, 1, 2, 3] rfl rfl (by decide) (by decide) hk1 hFc hP1 hD1
                      generalize H1 = H at hP hS ⊢
                      have hP : va_P (dC, dI) vwCl [(aR, .inr (0, [.ref aT, .ref aS])), (aS, .inr (1, [.ref aN, .ref aC])), (aN, .inl (kN, 5, .inl (fun j => nI (cnt j)))), (aC, .inl (kC, 52035, .inl (upd cel2 (ce + j) r_1))), (aT, .inr (2, [.ref aB, .int (nI u), .int (nI en), .int (nI h_2), .int (nI h2), .int w, .int wa])), (aB, .inl (kB, 65536, .inl B))] H := hP
                      have hD : va_D A [(aR, .inr (0, [.ref aT, .ref aS])), (aS, .inr (1, [.ref aN, .ref aC])), (aN, .inl (kN, 5, .inl (fun j => nI (cnt j)))), (aC, .inl (kC, 52035, .inl (upd cel2 (ce + j) r_1))), (aT, .inr (2, [.ref aB, .int (nI u), .int (nI en), .int (nI h_2), .int (nI h2), .int w, .int wa])), (aB, .inl (kB, 65536, .inl B))] := hD
                      by_cases hs_101 : h_2 < en ∧ B h_2 = 93
                      ·
                        rw [if_pos hs_101] at hw_100; subst hw_100
                        refine lv_if_eq (tgt := 209) hx hb d_Rd_takeList_191 (by decide) (fun c_102 => ?_) (fun c_102 => ?_)
                        ·
                          exact absurd c_102 (by decide)
                        ·
                          refine lv_aload_n hx hb d_Rd_takeList_194 rfl (lv_at hl 4 rfl) ?_
                          refine va_get (D := (dC, dI)) (ci := 0) (v := .ref aT) (C := R_Rd) (T := F_Rd) (N := 2) hx hb hz i_Rd hown hK hP 0 rfl rfl 0 (by decide) (hz _ tw_84) (fun _ h9 => h9) rfl d_Rd_takeList_195 ?_
                          refine lv_iconst (v := 3) hx hb d_Rd_takeList_198 (by decide) ?_
                          refine lv_aload_n hx hb d_Rd_takeList_199 rfl (lv_at hl 4 rfl) ?_
                          refine va_get (D := (dC, dI)) (ci := 0) (v := .ref aT) (C := R_Rd) (T := F_Rd) (N := 2) hx hb hz i_Rd hown hK hP 0 rfl rfl 0 (by decide) (hz _ tw_84) (fun _ h9 => h9) rfl d_Rd_takeList_200 ?_
                          refine va_getN (D := (dC, dI)) (ci := 2) (v := .int (nI h_2)) (C := R_Tp) (T := F_Tp) (N := 7) hx hb hz i_Tp hown hK hP 4 rfl rfl 3 (by decide) (va_Nw.use rfl (hE.1 _ (List.mem_of_getElem? (i := 3) rfl))) (fun _ h9 => h9) rfl d_Rd_takeList_203 ?_
                          have hPc := hP.sub (ws' := [(aT, .inr (2, [.ref aB, .int (nI u), .int (nI en), .int (nI h_2), .int (nI h2), .int w, .int wa])), (aB, .inl (kB, 65536, .inl B))]) [4, 5] rfl
                          have hDc := hD.sub (ws' := [(aT, .inr (2, [.ref aB, .int (nI u), .int (nI en), .int (nI h_2), .int (nI h2), .int w, .int wa])), (aB, .inl (kB, 65536, .inl B))]) [4, 5] (by decide) rfl
                          have hKc := hK.sub (tys' := [(kB, .byte)]) [0] rfl
                          have hFc := va_free (wc := [(aT, .inr (2, [.ref aB, .int (nI u), .int (nI en), .int (nI h_2), .int (nI h2), .int w, .int wa])), (aB, .inl (kB, 65536, .inl B))]) hD hS hA [4, 5] rfl
                          refine zt_size (fun hzs => ?_)
                          refine vx_callv (vx_runV (As := [.int 3, .int (nI h_2)]) (rest := []) ⟨hx, hb, hml, hown, hts⟩ (c_Tp_refuse l hst G dC dI H.size aT aB u en h_2 (nI h2) w wa kB B 3 (nI h_2)) (cwV 2 hts (gV tw_363 tw_223 tw_224 tw_3 tw_225 rfl) rfl rfl rfl (by decide +kernel) ⟨Nat.le_of_ble_eq_true rfl, Nat.le_of_ble_eq_true rfl⟩) (PW_preV hPc hKc hDc hE hS hFc (ci := 2) (q0 := 0) rfl rfl) rfl rfl hl.1 rfl (lv_room (Nat.le_of_ble_eq_true rfl)) d_Rd_takeList_206 ⟨Nat.le_of_ble_eq_true rfl, Nat.le_of_ble_eq_true rfl⟩) hS (fun q _ h => hFc q h) hFc (fun q _ h => hFc q h) (fun E9 ce9 q9 uu t H1 locs ht hvm hx_107 hB hz1 hk1 hS hce hcv hcl => ?_) (fun uu t H1 locs ht hvm hw_104 hB hz1 hk1 hS => ?_)
                          ·
                            obtain ⟨w_105, wa_106⟩ := uu
                            obtain ⟨hEn, hP1, hD1⟩ := hB
                            rw [ht] at hP1
                            obtain ⟨hP, hD⟩ := va_join (wr := [(aR, .inr (0, [.ref aT, .ref aS])), (aS, .inr (1, [.ref aN, .ref aC])), (aN, .inl (kN, 5, .inl (fun j => nI (cnt j)))), (aC, .inl (kC, 52035, .inl (upd cel2 (ce + j) r_1)))]) (w1 := [(aT, .inr (2, [.ref aB, .int (nI u), .int (nI en), .int (nI h_2), .int (nI h2), .int w_105, .int wa_106])), (aB, .inl (kB, 65536, .inl B))]) hP hD [4, 5] [0, 1, 2, 3] rfl rfl (by decide) (by decide) hk1 hFc hP1 hD1
                            generalize H1 = H at hP hS hce ⊢
                            have hP : va_P (dC, dI) vwCl [(aR, .inr (0, [.ref aT, .ref aS])), (aS, .inr (1, [.ref aN, .ref aC])), (aN, .inl (kN, 5, .inl (fun j => nI (cnt j)))), (aC, .inl (kC, 52035, .inl (upd cel2 (ce + j) r_1))), (aT, .inr (2, [.ref aB, .int (nI u), .int (nI en), .int (nI h_2), .int (nI h2), .int w_105, .int wa_106])), (aB, .inl (kB, 65536, .inl B))] H := hP
                            have hD : va_D A [(aR, .inr (0, [.ref aT, .ref aS])), (aS, .inr (1, [.ref aN, .ref aC])), (aN, .inl (kN, 5, .inl (fun j => nI (cnt j)))), (aC, .inl (kC, 52035, .inl (upd cel2 (ce + j) r_1))), (aT, .inr (2, [.ref aB, .int (nI u), .int (nI en), .int (nI h_2), .int (nI h2), .int w_105, .int wa_106])), (aB, .inl (kB, 65536, .inl B))] := hD
                            obtain ⟨rfl, rfl⟩ := hx_107
                            have hP9 := hP.sub (ws' := [(aR, .inr (0, [.ref aT, .ref aS])), (aT, .inr (2, [.ref aB, .int (nI u), .int (nI en), .int (nI h_2), .int (nI h2), .int 3, .int (nI h_2)])), (aB, .inl (kB, 65536, .inl B)), (aS, .inr (1, [.ref aN, .ref aC])), (aN, .inl (kN, 5, .inl (fun j => nI (cnt j)))), (aC, .inl (kC, 52035, .inl (upd cel2 (ce + j) r_1)))]) [0, 4, 5, 1, 2, 3] rfl
                            have hD9 := hD.sub (ws' := [(aR, .inr (0, [.ref aT, .ref aS])), (aT, .inr (2, [.ref aB, .int (nI u), .int (nI en), .int (nI h_2), .int (nI h2), .int 3, .int (nI h_2)])), (aB, .inl (kB, 65536, .inl B)), (aS, .inr (1, [.ref aN, .ref aC])), (aN, .inl (kN, 5, .inl (fun j => nI (cnt j)))), (aC, .inl (kC, 52035, .inl (upd cel2 (ce + j) r_1)))]) [0, 4, 5, 1, 2, 3] (by decide) rfl
                            exact vx_out (fun x hx => (htab x hx).elim) hlocks hce hcv hcl (fun t ht hvm => ⟨(3, h_2, h_2, nI h2, cnt, upd cel2 (ce + j) r_1), by rw [tl_96]; unfold zTail; rw [if_pos ⟨Or.inl c_97, hs_101⟩], ⟨hEn, by rw [ht]; exact hP9, hD9⟩, hS.F ht⟩) hS.2.2 (by decide) (by decide)
                          · exact (hw_104 : False).elim
                      ·
                        rw [if_neg hs_101] at hw_100; subst hw_100
                        refine lv_if_eq (tgt := 209) hx hb d_Rd_takeList_191 (by decide) (fun c_108 => ?_) (fun c_108 => ?_)
                        ·
                          refine lv_aload_n hx hb d_Rd_takeList_209 rfl (lv_at hl 4 rfl) ?_
                          refine va_get (D := (dC, dI)) (ci := 0) (v := .ref aT) (C := R_Rd) (T := F_Rd) (N := 2) hx hb hz i_Rd hown hK hP 0 rfl rfl 0 (by decide) (hz _ tw_84) (fun _ h9 => h9) rfl d_Rd_takeList_210 ?_
                          refine lv_bipush (v := 93) hx hb d_Rd_takeList_213 (by decide) ?_
                          have hPc := hP.sub (ws' := [(aT, .inr (2, [.ref aB, .int (nI u), .int (nI en), .int (nI h_2), .int (nI h2), .int w, .int wa])), (aB, .inl (kB, 65536, .inl B))]) [4, 5] rfl
                          have hDc := hD.sub (ws' := [(aT, .inr (2, [.ref aB, .int (nI u), .int (nI en), .int (nI h_2), .int (nI h2), .int w, .int wa])), (aB, .inl (kB, 65536, .inl B))]) [4, 5] (by decide) rfl
                          have hKc := hK.sub (tys' := [(kB, .byte)]) [0] rfl
                          have hFc := va_free (wc := [(aT, .inr (2, [.ref aB, .int (nI u), .int (nI en), .int (nI h_2), .int (nI h2), .int w, .int wa])), (aB, .inl (kB, 65536, .inl B))]) hD hS hA [4, 5] rfl
                          refine zt_size (fun hzs => ?_)
                          refine vx_callv (vx_runV (As := [.int 93]) (rest := []) ⟨hx, hb, hml, hown, hts⟩ (c_Tp_mustTake l hst G dC dI H.size aT aB u en h_2 (nI h2) w wa kB B 93 (by omega) (by omega)) (cwV 1 hts (gV tw_214 tw_215 tw_216 tw_3 tw_217 rfl) rfl rfl rfl (by decide +kernel) ⟨Nat.le_of_ble_eq_true rfl, Nat.le_of_ble_eq_true rfl⟩) (PW_preV hPc hKc hDc hE hS hFc (ci := 2) (q0 := 0) rfl rfl) rfl rfl hl.1 rfl (lv_room (Nat.le_of_ble_eq_true rfl)) d_Rd_takeList_215 ⟨Nat.le_of_ble_eq_true rfl, Nat.le_of_ble_eq_true rfl⟩) hS (fun q _ h => hFc q h) hFc (fun q _ h => hFc q h) (fun E9 ce9 q9 uu t H1 locs ht hvm hx_116 hB hz1 hk1 hS hce hcv hcl => ?_) (fun uu t H1 locs ht hvm hw_111 hB hz1 hk1 hS => ?_)
                          ·
                            obtain ⟨w_112, k_113, h_114, na_115⟩ := uu
                            obtain ⟨hEn, hP1, hD1⟩ := hB
                            rw [ht] at hP1
                            obtain ⟨hP, hD⟩ := va_join (wr := [(aR, .inr (0, [.ref aT, .ref aS])), (aS, .inr (1, [.ref aN, .ref aC])), (aN, .inl (kN, 5, .inl (fun j => nI (cnt j)))), (aC, .inl (kC, 52035, .inl (upd cel2 (ce + j) r_1)))]) (w1 := [(aT, .inr (2, [.ref aB, .int (nI u), .int (nI en), .int (nI h_114), .int na_115, .int w_112, .int (nI k_113)])), (aB, .inl (kB, 65536, .inl B))]) hP hD [4, 5] [0, 1, 2, 3] rfl rfl (by decide) (by decide) hk1 hFc hP1 hD1
                            generalize H1 = H at hP hS hce ⊢
                            have hP : va_P (dC, dI) vwCl [(aR, .inr (0, [.ref aT, .ref aS])), (aS, .inr (1, [.ref aN, .ref aC])), (aN, .inl (kN, 5, .inl (fun j => nI (cnt j)))), (aC, .inl (kC, 52035, .inl (upd cel2 (ce + j) r_1))), (aT, .inr (2, [.ref aB, .int (nI u), .int (nI en), .int (nI h_114), .int na_115, .int w_112, .int (nI k_113)])), (aB, .inl (kB, 65536, .inl B))] H := hP
                            have hD : va_D A [(aR, .inr (0, [.ref aT, .ref aS])), (aS, .inr (1, [.ref aN, .ref aC])), (aN, .inl (kN, 5, .inl (fun j => nI (cnt j)))), (aC, .inl (kC, 52035, .inl (upd cel2 (ce + j) r_1))), (aT, .inr (2, [.ref aB, .int (nI u), .int (nI en), .int (nI h_114), .int na_115, .int w_112, .int (nI k_113)])), (aB, .inl (kB, 65536, .inl B))] := hD
                            have hP9 := hP.sub (ws' := [(aR, .inr (0, [.ref aT, .ref aS])), (aT, .inr (2, [.ref aB, .int (nI u), .int (nI en), .int (nI h_114), .int na_115, .int w_112, .int (nI k_113)])), (aB, .inl (kB, 65536, .inl B)), (aS, .inr (1, [.ref aN, .ref aC])), (aN, .inl (kN, 5, .inl (fun j => nI (cnt j)))), (aC, .inl (kC, 52035, .inl (upd cel2 (ce + j) r_1)))]) [0, 4, 5, 1, 2, 3] rfl
                            have hD9 := hD.sub (ws' := [(aR, .inr (0, [.ref aT, .ref aS])), (aT, .inr (2, [.ref aB, .int (nI u), .int (nI en), .int (nI h_114), .int na_115, .int w_112, .int (nI k_113)])), (aB, .inl (kB, 65536, .inl B)), (aS, .inr (1, [.ref aN, .ref aC])), (aN, .inl (kN, 5, .inl (fun j => nI (cnt j)))), (aC, .inl (kC, 52035, .inl (upd cel2 (ce + j) r_1)))]) [0, 4, 5, 1, 2, 3] (by decide) rfl
                            exact vx_out (fun x hx => (htab x hx).elim) hlocks hce hcv hcl (fun t ht hvm => ⟨(w_112, k_113, h_114, na_115, cnt, upd cel2 (ce + j) r_1), by rw [tl_96]; unfold zTail; rw [if_neg (fun z => hs_101 z.2)]; simp only [zB_er, hx_116], ⟨hEn, by rw [ht]; exact hP9, hD9⟩, hS.F ht⟩) hS.2.2 (by decide) (by decide)
                          ·
                            obtain ⟨h_110, rfl⟩ : ∃ z, z = uu := ⟨_, rfl⟩
                            obtain ⟨hP1, hD1, hsz1⟩ := hB
                            rw [ht] at hP1 hsz1
                            obtain ⟨hP, hD⟩ := va_join (wr := [(aR, .inr (0, [.ref aT, .ref aS])), (aS, .inr (1, [.ref aN, .ref aC])), (aN, .inl (kN, 5, .inl (fun j => nI (cnt j)))), (aC, .inl (kC, 52035, .inl (upd cel2 (ce + j) r_1)))]) (w1 := [(aT, .inr (2, [.ref aB, .int (nI u), .int (nI en), .int (nI h_110), .int (nI h2), .int w, .int wa])), (aB, .inl (kB, 65536, .inl B))]) hP hD [4, 5] [0, 1, 2, 3] rfl rfl (by decide) (by decide) hk1 hFc hP1 hD1
                            refine zt_tight (hsz1.trans hzs) ?_
                            generalize H1 = H at hP hS ⊢
                            have hP : va_P (dC, dI) vwCl [(aR, .inr (0, [.ref aT, .ref aS])), (aS, .inr (1, [.ref aN, .ref aC])), (aN, .inl (kN, 5, .inl (fun j => nI (cnt j)))), (aC, .inl (kC, 52035, .inl (upd cel2 (ce + j) r_1))), (aT, .inr (2, [.ref aB, .int (nI u), .int (nI en), .int (nI h_110), .int (nI h2), .int w, .int wa])), (aB, .inl (kB, 65536, .inl B))] H := hP
                            have hD : va_D A [(aR, .inr (0, [.ref aT, .ref aS])), (aS, .inr (1, [.ref aN, .ref aC])), (aN, .inl (kN, 5, .inl (fun j => nI (cnt j)))), (aC, .inl (kC, 52035, .inl (upd cel2 (ce + j) r_1))), (aT, .inr (2, [.ref aB, .int (nI u), .int (nI en), .int (nI h_110), .int (nI h2), .int w, .int wa])), (aB, .inl (kB, 65536, .inl B))] := hD
                            have hw_111i := zMust_in hw_111
                            refine lv_iload hx hb d_Rd_takeList_218 (lv_at hl 3 rfl) ?_
                            refine zt_size (fun hzs => ?_)
                            have hP9 := hP.sub (ws' := [(aR, .inr (0, [.ref aT, .ref aS])), (aT, .inr (2, [.ref aB, .int (nI u), .int (nI en), .int (nI h_110), .int (nI h2), .int w, .int wa])), (aB, .inl (kB, 65536, .inl B)), (aS, .inr (1, [.ref aN, .ref aC])), (aN, .inl (kN, 5, .inl (fun j => nI (cnt j)))), (aC, .inl (kC, 52035, .inl (upd cel2 (ce + j) r_1)))]) [0, 4, 5, 1, 2, 3] rfl
                            have hD9 := hD.sub (ws' := [(aR, .inr (0, [.ref aT, .ref aS])), (aT, .inr (2, [.ref aB, .int (nI u), .int (nI en), .int (nI h_110), .int (nI h2), .int w, .int wa])), (aB, .inl (kB, 65536, .inl B)), (aS, .inr (1, [.ref aN, .ref aC])), (aN, .inl (kN, 5, .inl (fun j => nI (cnt j)))), (aC, .inl (kC, 52035, .inl (upd cel2 (ce + j) r_1)))]) [0, 4, 5, 1, 2, 3] (by decide) rfl
                            refine W.widen (k := 1) (n := 6) (by decide) (by decide) ?_
                            exact vx_ret (W.iret (v := nI (j + 1)) hx hb hr (fun t ht hW => ⟨⟨nI (j + 1), (h_110, nI h2, upd cel2 (ce + j) r_1, j + 1), rfl, ⟨rfl, by rw [tl_96]; unfold zTail; rw [if_neg (fun z => hs_101 z.2)]; simp only [zB_ok, hw_111]⟩, by rw [ht]; exact hP9, hD9, by rw [ht]; exact hzs⟩, hS.F ht⟩) hS.2.2 d_Rd_takeList_220)
                        ·
                          exact absurd (by decide) c_108
                  ·
                    have c_97 : ¬ ((j + 1) < le) := fun z => c_97 ((@nI_ltI (j + 1) le (by omega) (by omega)).mpr z)
                    refine lv_iload_n hx hb d_Rd_takeList_158 rfl (lv_at hl 5 rfl) ?_
                    refine lv_iconst (v := 1) hx hb d_Rd_takeList_159 (by decide) ?_
                    refine lv_icmp_ne (tgt := 174) hx hb d_Rd_takeList_160 (by decide) (fun c_117 => ?_) (fun c_117 => ?_)
                    ·
                      refine lv_iconst (v := 0) hx hb d_Rd_takeList_174 (by decide) ?_
                      refine lv_istore (lv' := [(10, .int 0), (9, .int 0), (7, .int (r_1 + 1)), (8, .int (nI (j + 1))), (0, .ref aR), (1, .int fm), (2, .int (nI le)), (3, .int (nI mo)), (4, .int (nI ce)), (5, .int low), (6, .int hig)]) hx hb d_Rd_takeList_175 hl (by decide) rfl (fun ls hl => ?_)
                      refine lv_iload hx hb d_Rd_takeList_177 (lv_at hl 0 rfl) ?_
                      refine lv_if_eq (tgt := 209) hx hb d_Rd_takeList_179 (by decide) (fun c_118 => ?_) (fun c_118 => ?_)
                      ·
                        refine lv_aload_n hx hb d_Rd_takeList_209 rfl (lv_at hl 4 rfl) ?_
                        refine va_get (D := (dC, dI)) (ci := 0) (v := .ref aT) (C := R_Rd) (T := F_Rd) (N := 2) hx hb hz i_Rd hown hK hP 0 rfl rfl 0 (by decide) (hz _ tw_84) (fun _ h9 => h9) rfl d_Rd_takeList_210 ?_
                        refine lv_bipush (v := 93) hx hb d_Rd_takeList_213 (by decide) ?_
                        have hPc := hP.sub (ws' := [(aT, .inr (2, [.ref aB, .int (nI u), .int (nI en), .int (nI h_2), .int (nI h2), .int w, .int wa])), (aB, .inl (kB, 65536, .inl B))]) [4, 5] rfl
                        have hDc := hD.sub (ws' := [(aT, .inr (2, [.ref aB, .int (nI u), .int (nI en), .int (nI h_2), .int (nI h2), .int w, .int wa])), (aB, .inl (kB, 65536, .inl B))]) [4, 5] (by decide) rfl
                        have hKc := hK.sub (tys' := [(kB, .byte)]) [0] rfl
                        have hFc := va_free (wc := [(aT, .inr (2, [.ref aB, .int (nI u), .int (nI en), .int (nI h_2), .int (nI h2), .int w, .int wa])), (aB, .inl (kB, 65536, .inl B))]) hD hS hA [4, 5] rfl
                        refine zt_size (fun hzs => ?_)
                        refine vx_callv (vx_runV (As := [.int 93]) (rest := []) ⟨hx, hb, hml, hown, hts⟩ (c_Tp_mustTake l hst G dC dI H.size aT aB u en h_2 (nI h2) w wa kB B 93 (by omega) (by omega)) (cwV 1 hts (gV tw_214 tw_215 tw_216 tw_3 tw_217 rfl) rfl rfl rfl (by decide +kernel) ⟨Nat.le_of_ble_eq_true rfl, Nat.le_of_ble_eq_true rfl⟩) (PW_preV hPc hKc hDc hE hS hFc (ci := 2) (q0 := 0) rfl rfl) rfl rfl hl.1 rfl (lv_room (Nat.le_of_ble_eq_true rfl)) d_Rd_takeList_215 ⟨Nat.le_of_ble_eq_true rfl, Nat.le_of_ble_eq_true rfl⟩) hS (fun q _ h => hFc q h) hFc (fun q _ h => hFc q h) (fun E9 ce9 q9 uu t H1 locs ht hvm hx_126 hB hz1 hk1 hS hce hcv hcl => ?_) (fun uu t H1 locs ht hvm hw_121 hB hz1 hk1 hS => ?_)
                        ·
                          obtain ⟨w_122, k_123, h_124, na_125⟩ := uu
                          obtain ⟨hEn, hP1, hD1⟩ := hB
                          rw [ht] at hP1
                          obtain ⟨hP, hD⟩ := va_join (wr := [(aR, .inr (0, [.ref aT, .ref aS])), (aS, .inr (1, [.ref aN, .ref aC])), (aN, .inl (kN, 5, .inl (fun j => nI (cnt j)))), (aC, .inl (kC, 52035, .inl (upd cel2 (ce + j) r_1)))]) (w1 := [(aT, .inr (2, [.ref aB, .int (nI u), .int (nI en), .int (nI h_124), .int na_125, .int w_122, .int (nI k_123)])), (aB, .inl (kB, 65536, .inl B))]) hP hD [4, 5] [0, 1, 2, 3] rfl rfl (by decide) (by decide) hk1 hFc hP1 hD1
                          generalize H1 = H at hP hS hce ⊢
                          have hP : va_P (dC, dI) vwCl [(aR, .inr (0, [.ref aT, .ref aS])), (aS, .inr (1, [.ref aN, .ref aC])), (aN, .inl (kN, 5, .inl (fun j => nI (cnt j)))), (aC, .inl (kC, 52035, .inl (upd cel2 (ce + j) r_1))), (aT, .inr (2, [.ref aB, .int (nI u), .int (nI en), .int (nI h_124), .int na_125, .int w_122, .int (nI k_123)])), (aB, .inl (kB, 65536, .inl B))] H := hP
                          have hD : va_D A [(aR, .inr (0, [.ref aT, .ref aS])), (aS, .inr (1, [.ref aN, .ref aC])), (aN, .inl (kN, 5, .inl (fun j => nI (cnt j)))), (aC, .inl (kC, 52035, .inl (upd cel2 (ce + j) r_1))), (aT, .inr (2, [.ref aB, .int (nI u), .int (nI en), .int (nI h_124), .int na_125, .int w_122, .int (nI k_123)])), (aB, .inl (kB, 65536, .inl B))] := hD
                          have hP9 := hP.sub (ws' := [(aR, .inr (0, [.ref aT, .ref aS])), (aT, .inr (2, [.ref aB, .int (nI u), .int (nI en), .int (nI h_124), .int na_125, .int w_122, .int (nI k_123)])), (aB, .inl (kB, 65536, .inl B)), (aS, .inr (1, [.ref aN, .ref aC])), (aN, .inl (kN, 5, .inl (fun j => nI (cnt j)))), (aC, .inl (kC, 52035, .inl (upd cel2 (ce + j) r_1)))]) [0, 4, 5, 1, 2, 3] rfl
                          have hD9 := hD.sub (ws' := [(aR, .inr (0, [.ref aT, .ref aS])), (aT, .inr (2, [.ref aB, .int (nI u), .int (nI en), .int (nI h_124), .int na_125, .int w_122, .int (nI k_123)])), (aB, .inl (kB, 65536, .inl B)), (aS, .inr (1, [.ref aN, .ref aC])), (aN, .inl (kN, 5, .inl (fun j => nI (cnt j)))), (aC, .inl (kC, 52035, .inl (upd cel2 (ce + j) r_1)))]) [0, 4, 5, 1, 2, 3] (by decide) rfl
                          exact vx_out (fun x hx => (htab x hx).elim) hlocks hce hcv hcl (fun t ht hvm => ⟨(w_122, k_123, h_124, na_125, cnt, upd cel2 (ce + j) r_1), by rw [tl_96]; unfold zTail; rw [if_neg (fun z => absurd z.1 (fun z => z.elim c_97 (fun z => c_117 (of_decide_eq_true z.1))))]; simp only [zB_er, hx_126], ⟨hEn, by rw [ht]; exact hP9, hD9⟩, hS.F ht⟩) hS.2.2 (by decide) (by decide)
                        ·
                          obtain ⟨h_120, rfl⟩ : ∃ z, z = uu := ⟨_, rfl⟩
                          obtain ⟨hP1, hD1, hsz1⟩ := hB
                          rw [ht] at hP1 hsz1
                          obtain ⟨hP, hD⟩ := va_join (wr := [(aR, .inr (0, [.ref aT, .ref aS])), (aS, .inr (1, [.ref aN, .ref aC])), (aN, .inl (kN, 5, .inl (fun j => nI (cnt j)))), (aC, .inl (kC, 52035, .inl (upd cel2 (ce + j) r_1)))]) (w1 := [(aT, .inr (2, [.ref aB, .int (nI u), .int (nI en), .int (nI h_120), .int (nI h2), .int w, .int wa])), (aB, .inl (kB, 65536, .inl B))]) hP hD [4, 5] [0, 1, 2, 3] rfl rfl (by decide) (by decide) hk1 hFc hP1 hD1
                          refine zt_tight (hsz1.trans hzs) ?_
                          generalize H1 = H at hP hS ⊢
                          have hP : va_P (dC, dI) vwCl [(aR, .inr (0, [.ref aT, .ref aS])), (aS, .inr (1, [.ref aN, .ref aC])), (aN, .inl (kN, 5, .inl (fun j => nI (cnt j)))), (aC, .inl (kC, 52035, .inl (upd cel2 (ce + j) r_1))), (aT, .inr (2, [.ref aB, .int (nI u), .int (nI en), .int (nI h_120), .int (nI h2), .int w, .int wa])), (aB, .inl (kB, 65536, .inl B))] H := hP
                          have hD : va_D A [(aR, .inr (0, [.ref aT, .ref aS])), (aS, .inr (1, [.ref aN, .ref aC])), (aN, .inl (kN, 5, .inl (fun j => nI (cnt j)))), (aC, .inl (kC, 52035, .inl (upd cel2 (ce + j) r_1))), (aT, .inr (2, [.ref aB, .int (nI u), .int (nI en), .int (nI h_120), .int (nI h2), .int w, .int wa])), (aB, .inl (kB, 65536, .inl B))] := hD
                          have hw_121i := zMust_in hw_121
                          refine lv_iload hx hb d_Rd_takeList_218 (lv_at hl 3 rfl) ?_
                          refine zt_size (fun hzs => ?_)
                          have hP9 := hP.sub (ws' := [(aR, .inr (0, [.ref aT, .ref aS])), (aT, .inr (2, [.ref aB, .int (nI u), .int (nI en), .int (nI h_120), .int (nI h2), .int w, .int wa])), (aB, .inl (kB, 65536, .inl B)), (aS, .inr (1, [.ref aN, .ref aC])), (aN, .inl (kN, 5, .inl (fun j => nI (cnt j)))), (aC, .inl (kC, 52035, .inl (upd cel2 (ce + j) r_1)))]) [0, 4, 5, 1, 2, 3] rfl
                          have hD9 := hD.sub (ws' := [(aR, .inr (0, [.ref aT, .ref aS])), (aT, .inr (2, [.ref aB, .int (nI u), .int (nI en), .int (nI h_120), .int (nI h2), .int w, .int wa])), (aB, .inl (kB, 65536, .inl B)), (aS, .inr (1, [.ref aN, .ref aC])), (aN, .inl (kN, 5, .inl (fun j => nI (cnt j)))), (aC, .inl (kC, 52035, .inl (upd cel2 (ce + j) r_1)))]) [0, 4, 5, 1, 2, 3] (by decide) rfl
                          refine W.widen (k := 1) (n := 6) (by decide) (by decide) ?_
                          exact vx_ret (W.iret (v := nI (j + 1)) hx hb hr (fun t ht hW => ⟨⟨nI (j + 1), (h_120, nI h2, upd cel2 (ce + j) r_1, j + 1), rfl, ⟨rfl, by rw [tl_96]; unfold zTail; rw [if_neg (fun z => absurd z.1 (fun z => z.elim c_97 (fun z => c_117 (of_decide_eq_true z.1))))]; simp only [zB_ok, hw_121]⟩, by rw [ht]; exact hP9, hD9, by rw [ht]; exact hzs⟩, hS.F ht⟩) hS.2.2 d_Rd_takeList_220)
                      ·
                        exact absurd (by decide) c_118
                    ·
                      refine lv_iload hx hb d_Rd_takeList_163 (lv_at hl 2 rfl) ?_
                      refine lv_iconst (v := 3) hx hb d_Rd_takeList_165 (by decide) ?_
                      refine lv_irem hx hb d_Rd_takeList_166 (by decide) ?_
                      refine zt_top (pk_rem (a := j + 1) (d := 3) (by omega) (by decide) (by decide)) ?_
                      refine lv_if_eq (tgt := 174) hx hb d_Rd_takeList_167 (by decide) (fun c_127 => ?_) (fun c_127 => ?_)
                      ·
                        have c_127 : ((j + 1) % 3) = 0 := (@nI_eq ((j + 1) % 3) 0 (by omega) (by omega)).mp c_127
                        refine lv_iconst (v := 0) hx hb d_Rd_takeList_174 (by decide) ?_
                        refine lv_istore (lv' := [(10, .int 0), (9, .int 0), (7, .int (r_1 + 1)), (8, .int (nI (j + 1))), (0, .ref aR), (1, .int fm), (2, .int (nI le)), (3, .int (nI mo)), (4, .int (nI ce)), (5, .int low), (6, .int hig)]) hx hb d_Rd_takeList_175 hl (by decide) rfl (fun ls hl => ?_)
                        refine lv_iload hx hb d_Rd_takeList_177 (lv_at hl 0 rfl) ?_
                        refine lv_if_eq (tgt := 209) hx hb d_Rd_takeList_179 (by decide) (fun c_128 => ?_) (fun c_128 => ?_)
                        ·
                          refine lv_aload_n hx hb d_Rd_takeList_209 rfl (lv_at hl 4 rfl) ?_
                          refine va_get (D := (dC, dI)) (ci := 0) (v := .ref aT) (C := R_Rd) (T := F_Rd) (N := 2) hx hb hz i_Rd hown hK hP 0 rfl rfl 0 (by decide) (hz _ tw_84) (fun _ h9 => h9) rfl d_Rd_takeList_210 ?_
                          refine lv_bipush (v := 93) hx hb d_Rd_takeList_213 (by decide) ?_
                          have hPc := hP.sub (ws' := [(aT, .inr (2, [.ref aB, .int (nI u), .int (nI en), .int (nI h_2), .int (nI h2), .int w, .int wa])), (aB, .inl (kB, 65536, .inl B))]) [4, 5] rfl
                          have hDc := hD.sub (ws' := [(aT, .inr (2, [.ref aB, .int (nI u), .int (nI en), .int (nI h_2), .int (nI h2), .int w, .int wa])), (aB, .inl (kB, 65536, .inl B))]) [4, 5] (by decide) rfl
                          have hKc := hK.sub (tys' := [(kB, .byte)]) [0] rfl
                          have hFc := va_free (wc := [(aT, .inr (2, [.ref aB, .int (nI u), .int (nI en), .int (nI h_2), .int (nI h2), .int w, .int wa])), (aB, .inl (kB, 65536, .inl B))]) hD hS hA [4, 5] rfl
                          refine zt_size (fun hzs => ?_)
                          refine vx_callv (vx_runV (As := [.int 93]) (rest := []) ⟨hx, hb, hml, hown, hts⟩ (c_Tp_mustTake l hst G dC dI H.size aT aB u en h_2 (nI h2) w wa kB B 93 (by omega) (by omega)) (cwV 1 hts (gV tw_214 tw_215 tw_216 tw_3 tw_217 rfl) rfl rfl rfl (by decide +kernel) ⟨Nat.le_of_ble_eq_true rfl, Nat.le_of_ble_eq_true rfl⟩) (PW_preV hPc hKc hDc hE hS hFc (ci := 2) (q0 := 0) rfl rfl) rfl rfl hl.1 rfl (lv_room (Nat.le_of_ble_eq_true rfl)) d_Rd_takeList_215 ⟨Nat.le_of_ble_eq_true rfl, Nat.le_of_ble_eq_true rfl⟩) hS (fun q _ h => hFc q h) hFc (fun q _ h => hFc q h) (fun E9 ce9 q9 uu t H1 locs ht hvm hx_136 hB hz1 hk1 hS hce hcv hcl => ?_) (fun uu t H1 locs ht hvm hw_131 hB hz1 hk1 hS => ?_)
                          ·
                            obtain ⟨w_132, k_133, h_134, na_135⟩ := uu
                            obtain ⟨hEn, hP1, hD1⟩ := hB
                            rw [ht] at hP1
                            obtain ⟨hP, hD⟩ := va_join (wr := [(aR, .inr (0, [.ref aT, .ref aS])), (aS, .inr (1, [.ref aN, .ref aC])), (aN, .inl (kN, 5, .inl (fun j => nI (cnt j)))), (aC, .inl (kC, 52035, .inl (upd cel2 (ce + j) r_1)))]) (w1 := [(aT, .inr (2, [.ref aB, .int (nI u), .int (nI en), .int (nI h_134), .int na_135, .int w_132, .int (nI k_133)])), (aB, .inl (kB, 65536, .inl B))]) hP hD [4, 5] [0, 1, 2, 3] rfl rfl (by decide) (by decide) hk1 hFc hP1 hD1
                            generalize H1 = H at hP hS hce ⊢
                            have hP : va_P (dC, dI) vwCl [(aR, .inr (0, [.ref aT, .ref aS])), (aS, .inr (1, [.ref aN, .ref aC])), (aN, .inl (kN, 5, .inl (fun j => nI (cnt j)))), (aC, .inl (kC, 52035, .inl (upd cel2 (ce + j) r_1))), (aT, .inr (2, [.ref aB, .int (nI u), .int (nI en), .int (nI h_134), .int na_135, .int w_132, .int (nI k_133)])), (aB, .inl (kB, 65536, .inl B))] H := hP
                            have hD : va_D A [(aR, .inr (0, [.ref aT, .ref aS])), (aS, .inr (1, [.ref aN, .ref aC])), (aN, .inl (kN, 5, .inl (fun j => nI (cnt j)))), (aC, .inl (kC, 52035, .inl (upd cel2 (ce + j) r_1))), (aT, .inr (2, [.ref aB, .int (nI u), .int (nI en), .int (nI h_134), .int na_135, .int w_132, .int (nI k_133)])), (aB, .inl (kB, 65536, .inl B))] := hD
                            have hP9 := hP.sub (ws' := [(aR, .inr (0, [.ref aT, .ref aS])), (aT, .inr (2, [.ref aB, .int (nI u), .int (nI en), .int (nI h_134), .int na_135, .int w_132, .int (nI k_133)])), (aB, .inl (kB, 65536, .inl B)), (aS, .inr (1, [.ref aN, .ref aC])), (aN, .inl (kN, 5, .inl (fun j => nI (cnt j)))), (aC, .inl (kC, 52035, .inl (upd cel2 (ce + j) r_1)))]) [0, 4, 5, 1, 2, 3] rfl
                            have hD9 := hD.sub (ws' := [(aR, .inr (0, [.ref aT, .ref aS])), (aT, .inr (2, [.ref aB, .int (nI u), .int (nI en), .int (nI h_134), .int na_135, .int w_132, .int (nI k_133)])), (aB, .inl (kB, 65536, .inl B)), (aS, .inr (1, [.ref aN, .ref aC])), (aN, .inl (kN, 5, .inl (fun j => nI (cnt j)))), (aC, .inl (kC, 52035, .inl (upd cel2 (ce + j) r_1)))]) [0, 4, 5, 1, 2, 3] (by decide) rfl
                            exact vx_out (fun x hx => (htab x hx).elim) hlocks hce hcv hcl (fun t ht hvm => ⟨(w_132, k_133, h_134, na_135, cnt, upd cel2 (ce + j) r_1), by rw [tl_96]; unfold zTail; rw [if_neg (fun z => absurd z.1 (fun z => z.elim c_97 (fun z => z.2 c_127)))]; simp only [zB_er, hx_136], ⟨hEn, by rw [ht]; exact hP9, hD9⟩, hS.F ht⟩) hS.2.2 (by decide) (by decide)
                          ·
                            obtain ⟨h_130, rfl⟩ : ∃ z, z = uu := ⟨_, rfl⟩
                            obtain ⟨hP1, hD1, hsz1⟩ := hB
                            rw [ht] at hP1 hsz1
                            obtain ⟨hP, hD⟩ := va_join (wr := [(aR, .inr (0, [.ref aT, .ref aS])), (aS, .inr (1, [.ref aN, .ref aC])), (aN, .inl (kN, 5, .inl (fun j => nI (cnt j)))), (aC, .inl (kC, 52035, .inl (upd cel2 (ce + j) r_1)))]) (w1 := [(aT, .inr (2, [.ref aB, .int (nI u), .int (nI en), .int (nI h_130), .int (nI h2), .int w, .int wa])), (aB, .inl (kB, 65536, .inl B))]) hP hD [4, 5] [0, 1, 2, 3] rfl rfl (by decide) (by decide) hk1 hFc hP1 hD1
                            refine zt_tight (hsz1.trans hzs) ?_
                            generalize H1 = H at hP hS ⊢
                            have hP : va_P (dC, dI) vwCl [(aR, .inr (0, [.ref aT, .ref aS])), (aS, .inr (1, [.ref aN, .ref aC])), (aN, .inl (kN, 5, .inl (fun j => nI (cnt j)))), (aC, .inl (kC, 52035, .inl (upd cel2 (ce + j) r_1))), (aT, .inr (2, [.ref aB, .int (nI u), .int (nI en), .int (nI h_130), .int (nI h2), .int w, .int wa])), (aB, .inl (kB, 65536, .inl B))] H := hP
                            have hD : va_D A [(aR, .inr (0, [.ref aT, .ref aS])), (aS, .inr (1, [.ref aN, .ref aC])), (aN, .inl (kN, 5, .inl (fun j => nI (cnt j)))), (aC, .inl (kC, 52035, .inl (upd cel2 (ce + j) r_1))), (aT, .inr (2, [.ref aB, .int (nI u), .int (nI en), .int (nI h_130), .int (nI h2), .int w, .int wa])), (aB, .inl (kB, 65536, .inl B))] := hD
                            have hw_131i := zMust_in hw_131
                            refine lv_iload hx hb d_Rd_takeList_218 (lv_at hl 3 rfl) ?_
                            refine zt_size (fun hzs => ?_)
                            have hP9 := hP.sub (ws' := [(aR, .inr (0, [.ref aT, .ref aS])), (aT, .inr (2, [.ref aB, .int (nI u), .int (nI en), .int (nI h_130), .int (nI h2), .int w, .int wa])), (aB, .inl (kB, 65536, .inl B)), (aS, .inr (1, [.ref aN, .ref aC])), (aN, .inl (kN, 5, .inl (fun j => nI (cnt j)))), (aC, .inl (kC, 52035, .inl (upd cel2 (ce + j) r_1)))]) [0, 4, 5, 1, 2, 3] rfl
                            have hD9 := hD.sub (ws' := [(aR, .inr (0, [.ref aT, .ref aS])), (aT, .inr (2, [.ref aB, .int (nI u), .int (nI en), .int (nI h_130), .int (nI h2), .int w, .int wa])), (aB, .inl (kB, 65536, .inl B)), (aS, .inr (1, [.ref aN, .ref aC])), (aN, .inl (kN, 5, .inl (fun j => nI (cnt j)))), (aC, .inl (kC, 52035, .inl (upd cel2 (ce + j) r_1)))]) [0, 4, 5, 1, 2, 3] (by decide) rfl
                            refine W.widen (k := 1) (n := 6) (by decide) (by decide) ?_
                            exact vx_ret (W.iret (v := nI (j + 1)) hx hb hr (fun t ht hW => ⟨⟨nI (j + 1), (h_130, nI h2, upd cel2 (ce + j) r_1, j + 1), rfl, ⟨rfl, by rw [tl_96]; unfold zTail; rw [if_neg (fun z => absurd z.1 (fun z => z.elim c_97 (fun z => z.2 c_127)))]; simp only [zB_ok, hw_131]⟩, by rw [ht]; exact hP9, hD9, by rw [ht]; exact hzs⟩, hS.F ht⟩) hS.2.2 d_Rd_takeList_220)
                        ·
                          exact absurd (by decide) c_128
                      ·
                        have c_127 : ¬ (((j + 1) % 3) = 0) := fun z => c_127 ((@nI_eq ((j + 1) % 3) 0 (by omega) (by omega)).mpr z)
                        refine lv_iconst (v := 1) hx hb d_Rd_takeList_170 (by decide) ?_
                        refine lv_goto (tgt := 175) hx hb d_Rd_takeList_171 (by decide) ?_
                        refine lv_istore (lv' := [(10, .int 1), (9, .int 0), (7, .int (r_1 + 1)), (8, .int (nI (j + 1))), (0, .ref aR), (1, .int fm), (2, .int (nI le)), (3, .int (nI mo)), (4, .int (nI ce)), (5, .int low), (6, .int hig)]) hx hb d_Rd_takeList_175 hl (by decide) rfl (fun ls hl => ?_)
                        refine lv_iload hx hb d_Rd_takeList_177 (lv_at hl 0 rfl) ?_
                        refine lv_if_eq (tgt := 209) hx hb d_Rd_takeList_179 (by decide) (fun c_137 => ?_) (fun c_137 => ?_)
                        ·
                          exact absurd c_137 (by decide)
                        ·
                          refine lv_aload_n hx hb d_Rd_takeList_182 rfl (lv_at hl 4 rfl) ?_
                          refine va_get (D := (dC, dI)) (ci := 0) (v := .ref aT) (C := R_Rd) (T := F_Rd) (N := 2) hx hb hz i_Rd hown hK hP 0 rfl rfl 0 (by decide) (hz _ tw_84) (fun _ h9 => h9) rfl d_Rd_takeList_183 ?_
                          refine lv_bipush (v := 93) hx hb d_Rd_takeList_186 (by decide) ?_
                          have hPc := hP.sub (ws' := [(aT, .inr (2, [.ref aB, .int (nI u), .int (nI en), .int (nI h_2), .int (nI h2), .int w, .int wa])), (aB, .inl (kB, 65536, .inl B))]) [4, 5] rfl
                          have hDc := hD.sub (ws' := [(aT, .inr (2, [.ref aB, .int (nI u), .int (nI en), .int (nI h_2), .int (nI h2), .int w, .int wa])), (aB, .inl (kB, 65536, .inl B))]) [4, 5] (by decide) rfl
                          have hKc := hK.sub (tys' := [(kB, .byte)]) [0] rfl
                          have hFc := va_free (wc := [(aT, .inr (2, [.ref aB, .int (nI u), .int (nI en), .int (nI h_2), .int (nI h2), .int w, .int wa])), (aB, .inl (kB, 65536, .inl B))]) hD hS hA [4, 5] rfl
                          refine va_calli (va_runV (As := [.int 93]) (rest := []) ⟨hx, hb, hml, hown, hts⟩ (c_Tp_sees l G dC dI H.size aT aB u en h_2 (nI h2) w wa kB B 93 (by omega) (by omega)) (cwV 1 hts (gV tw_291 tw_219 tw_220 tw_3 tw_221 rfl) rfl rfl rfl (by decide +kernel) ⟨Nat.le_of_ble_eq_true rfl, Nat.le_of_ble_eq_true rfl⟩) (PW_preV hPc hKc hDc hE hS hFc (ci := 2) (q0 := 0) rfl rfl) rfl rfl hl.1 rfl (lv_room (Nat.le_of_ble_eq_true rfl)) d_Rd_takeList_188 ⟨Nat.le_of_ble_eq_true rfl, Nat.le_of_ble_eq_true rfl⟩) hS (fun q _ h => hFc q h) hFc (fun r_138 uu t H1 locs ht hvm hw_139 hB hz1 hk1 hS => ?_)
                          obtain ⟨hP1, hD1, hsz1⟩ := hB
                          rw [ht] at hP1 hsz1
                          obtain ⟨hP, hD⟩ := va_join (wr := [(aR, .inr (0, [.ref aT, .ref aS])), (aS, .inr (1, [.ref aN, .ref aC])), (aN, .inl (kN, 5, .inl (fun j => nI (cnt j)))), (aC, .inl (kC, 52035, .inl (upd cel2 (ce + j) r_1)))]) (w1 := [(aT, .inr (2, [.ref aB, .int (nI u), .int (nI en), .int (nI h_2), .int (nI h2), .int w, .int wa])), (aB, .inl (kB, 65536, .inl B))]) hP hD [4, 5] [0, 1, 2, 3] rfl rfl (by decide) (by decide) hk1 hFc hP1 hD1
                          generalize H1 = H at hP hS ⊢
                          have hP : va_P (dC, dI) vwCl [(aR, .inr (0, [.ref aT, .ref aS])), (aS, .inr (1, [.ref aN, .ref aC])), (aN, .inl (kN, 5, .inl (fun j => nI (cnt j)))), (aC, .inl (kC, 52035, .inl (upd cel2 (ce + j) r_1))), (aT, .inr (2, [.ref aB, .int (nI u), .int (nI en), .int (nI h_2), .int (nI h2), .int w, .int wa])), (aB, .inl (kB, 65536, .inl B))] H := hP
                          have hD : va_D A [(aR, .inr (0, [.ref aT, .ref aS])), (aS, .inr (1, [.ref aN, .ref aC])), (aN, .inl (kN, 5, .inl (fun j => nI (cnt j)))), (aC, .inl (kC, 52035, .inl (upd cel2 (ce + j) r_1))), (aT, .inr (2, [.ref aB, .int (nI u), .int (nI en), .int (nI h_2), .int (nI h2), .int w, .int wa])), (aB, .inl (kB, 65536, .inl B))] := hD
                          by_cases hs_140 : h_2 < en ∧ B h_2 = 93
                          ·
                            rw [if_pos hs_140] at hw_139; subst hw_139
                            refine lv_if_eq (tgt := 209) hx hb d_Rd_takeList_191 (by decide) (fun c_141 => ?_) (fun c_141 => ?_)
                            ·
                              exact absurd c_141 (by decide)
                            ·
                              refine lv_aload_n hx hb d_Rd_takeList_194 rfl (lv_at hl 4 rfl) ?_
                              refine va_get (D := (dC, dI)) (ci := 0) (v := .ref aT) (C := R_Rd) (T := F_Rd) (N := 2) hx hb hz i_Rd hown hK hP 0 rfl rfl 0 (by decide) (hz _ tw_84) (fun _ h9 => h9) rfl d_Rd_takeList_195 ?_
                              refine lv_iconst (v := 3) hx hb d_Rd_takeList_198 (by decide) ?_
                              refine lv_aload_n hx hb d_Rd_takeList_199 rfl (lv_at hl 4 rfl) ?_
                              refine va_get (D := (dC, dI)) (ci := 0) (v := .ref aT) (C := R_Rd) (T := F_Rd) (N := 2) hx hb hz i_Rd hown hK hP 0 rfl rfl 0 (by decide) (hz _ tw_84) (fun _ h9 => h9) rfl d_Rd_takeList_200 ?_
                              refine va_getN (D := (dC, dI)) (ci := 2) (v := .int (nI h_2)) (C := R_Tp) (T := F_Tp) (N := 7) hx hb hz i_Tp hown hK hP 4 rfl rfl 3 (by decide) (va_Nw.use rfl (hE.1 _ (List.mem_of_getElem? (i := 3) rfl))) (fun _ h9 => h9) rfl d_Rd_takeList_203 ?_
                              have hPc := hP.sub (ws' := [(aT, .inr (2, [.ref aB, .int (nI u), .int (nI en), .int (nI h_2), .int (nI h2), .int w, .int wa])), (aB, .inl (kB, 65536, .inl B))]) [4, 5] rfl
                              have hDc := hD.sub (ws' := [(aT, .inr (2, [.ref aB, .int (nI u), .int (nI en), .int (nI h_2), .int (nI h2), .int w, .int wa])), (aB, .inl (kB, 65536, .inl B))]) [4, 5] (by decide) rfl
                              have hKc := hK.sub (tys' := [(kB, .byte)]) [0] rfl
                              have hFc := va_free (wc := [(aT, .inr (2, [.ref aB, .int (nI u), .int (nI en), .int (nI h_2), .int (nI h2), .int w, .int wa])), (aB, .inl (kB, 65536, .inl B))]) hD hS hA [4, 5] rfl
                              refine zt_size (fun hzs => ?_)
                              refine vx_callv (vx_runV (As := [.int 3, .int (nI h_2)]) (rest := []) ⟨hx, hb, hml, hown, hts⟩ (c_Tp_refuse l hst G dC dI H.size aT aB u en h_2 (nI h2) w wa kB B 3 (nI h_2)) (cwV 2 hts (gV tw_363 tw_223 tw_224 tw_3 tw_225 rfl) rfl rfl rfl (by decide +kernel) ⟨Nat.le_of_ble_eq_true rfl, Nat.le_of_ble_eq_true rfl⟩) (PW_preV hPc hKc hDc hE hS hFc (ci := 2) (q0 := 0) rfl rfl) rfl rfl hl.1 rfl (lv_room (Nat.le_of_ble_eq_true rfl)) d_Rd_takeList_206 ⟨Nat.le_of_ble_eq_true rfl, Nat.le_of_ble_eq_true rfl⟩) hS (fun q _ h => hFc q h) hFc (fun q _ h => hFc q h) (fun E9 ce9 q9 uu t H1 locs ht hvm hx_146 hB hz1 hk1 hS hce hcv hcl => ?_) (fun uu t H1 locs ht hvm hw_143 hB hz1 hk1 hS => ?_)
                              ·
                                obtain ⟨w_144, wa_145⟩ := uu
                                obtain ⟨hEn, hP1, hD1⟩ := hB
                                rw [ht] at hP1
                                obtain ⟨hP, hD⟩ := va_join (wr := [(aR, .inr (0, [.ref aT, .ref aS])), (aS, .inr (1, [.ref aN, .ref aC])), (aN, .inl (kN, 5, .inl (fun j => nI (cnt j)))), (aC, .inl (kC, 52035, .inl (upd cel2 (ce + j) r_1)))]) (w1 := [(aT, .inr (2, [.ref aB, .int (nI u), .int (nI en), .int (nI h_2), .int (nI h2), .int w_144, .int wa_145])), (aB, .inl (kB, 65536, .inl B))]) hP hD [4, 5] [0, 1, 2, 3] rfl rfl (by decide) (by decide) hk1 hFc hP1 hD1
                                generalize H1 = H at hP hS hce ⊢
                                have hP : va_P (dC, dI) vwCl [(aR, .inr (0, [.ref aT, .ref aS])), (aS, .inr (1, [.ref aN, .ref aC])), (aN, .inl (kN, 5, .inl (fun j => nI (cnt j)))), (aC, .inl (kC, 52035, .inl (upd cel2 (ce + j) r_1))), (aT, .inr (2, [.ref aB, .int (nI u), .int (nI en), .int (nI h_2), .int (nI h2), .int w_144, .int wa_145])), (aB, .inl (kB, 65536, .inl B))] H := hP
                                have hD : va_D A [(aR, .inr (0, [.ref aT, .ref aS])), (aS, .inr (1, [.ref aN, .ref aC])), (aN, .inl (kN, 5, .inl (fun j => nI (cnt j)))), (aC, .inl (kC, 52035, .inl (upd cel2 (ce + j) r_1))), (aT, .inr (2, [.ref aB, .int (nI u), .int (nI en), .int (nI h_2), .int (nI h2), .int w_144, .int wa_145])), (aB, .inl (kB, 65536, .inl B))] := hD
                                obtain ⟨rfl, rfl⟩ := hx_146
                                have hP9 := hP.sub (ws' := [(aR, .inr (0, [.ref aT, .ref aS])), (aT, .inr (2, [.ref aB, .int (nI u), .int (nI en), .int (nI h_2), .int (nI h2), .int 3, .int (nI h_2)])), (aB, .inl (kB, 65536, .inl B)), (aS, .inr (1, [.ref aN, .ref aC])), (aN, .inl (kN, 5, .inl (fun j => nI (cnt j)))), (aC, .inl (kC, 52035, .inl (upd cel2 (ce + j) r_1)))]) [0, 4, 5, 1, 2, 3] rfl
                                have hD9 := hD.sub (ws' := [(aR, .inr (0, [.ref aT, .ref aS])), (aT, .inr (2, [.ref aB, .int (nI u), .int (nI en), .int (nI h_2), .int (nI h2), .int 3, .int (nI h_2)])), (aB, .inl (kB, 65536, .inl B)), (aS, .inr (1, [.ref aN, .ref aC])), (aN, .inl (kN, 5, .inl (fun j => nI (cnt j)))), (aC, .inl (kC, 52035, .inl (upd cel2 (ce + j) r_1)))]) [0, 4, 5, 1, 2, 3] (by decide) rfl
                                exact vx_out (fun x hx => (htab x hx).elim) hlocks hce hcv hcl (fun t ht hvm => ⟨(3, h_2, h_2, nI h2, cnt, upd cel2 (ce + j) r_1), by rw [tl_96]; unfold zTail; rw [if_pos ⟨Or.inr ⟨decide_eq_true c_117, c_127⟩, hs_140⟩], ⟨hEn, by rw [ht]; exact hP9, hD9⟩, hS.F ht⟩) hS.2.2 (by decide) (by decide)
                              · exact (hw_143 : False).elim
                          ·
                            rw [if_neg hs_140] at hw_139; subst hw_139
                            refine lv_if_eq (tgt := 209) hx hb d_Rd_takeList_191 (by decide) (fun c_147 => ?_) (fun c_147 => ?_)
                            ·
                              refine lv_aload_n hx hb d_Rd_takeList_209 rfl (lv_at hl 4 rfl) ?_
                              refine va_get (D := (dC, dI)) (ci := 0) (v := .ref aT) (C := R_Rd) (T := F_Rd) (N := 2) hx hb hz i_Rd hown hK hP 0 rfl rfl 0 (by decide) (hz _ tw_84) (fun _ h9 => h9) rfl d_Rd_takeList_210 ?_
                              refine lv_bipush (v := 93) hx hb d_Rd_takeList_213 (by decide) ?_
                              have hPc := hP.sub (ws' := [(aT, .inr (2, [.ref aB, .int (nI u), .int (nI en), .int (nI h_2), .int (nI h2), .int w, .int wa])), (aB, .inl (kB, 65536, .inl B))]) [4, 5] rfl
                              have hDc := hD.sub (ws' := [(aT, .inr (2, [.ref aB, .int (nI u), .int (nI en), .int (nI h_2), .int (nI h2), .int w, .int wa])), (aB, .inl (kB, 65536, .inl B))]) [4, 5] (by decide) rfl
                              have hKc := hK.sub (tys' := [(kB, .byte)]) [0] rfl
                              have hFc := va_free (wc := [(aT, .inr (2, [.ref aB, .int (nI u), .int (nI en), .int (nI h_2), .int (nI h2), .int w, .int wa])), (aB, .inl (kB, 65536, .inl B))]) hD hS hA [4, 5] rfl
                              refine zt_size (fun hzs => ?_)
                              refine vx_callv (vx_runV (As := [.int 93]) (rest := []) ⟨hx, hb, hml, hown, hts⟩ (c_Tp_mustTake l hst G dC dI H.size aT aB u en h_2 (nI h2) w wa kB B 93 (by omega) (by omega)) (cwV 1 hts (gV tw_214 tw_215 tw_216 tw_3 tw_217 rfl) rfl rfl rfl (by decide +kernel) ⟨Nat.le_of_ble_eq_true rfl, Nat.le_of_ble_eq_true rfl⟩) (PW_preV hPc hKc hDc hE hS hFc (ci := 2) (q0 := 0) rfl rfl) rfl rfl hl.1 rfl (lv_room (Nat.le_of_ble_eq_true rfl)) d_Rd_takeList_215 ⟨Nat.le_of_ble_eq_true rfl, Nat.le_of_ble_eq_true rfl⟩) hS (fun q _ h => hFc q h) hFc (fun q _ h => hFc q h) (fun E9 ce9 q9 uu t H1 locs ht hvm hx_155 hB hz1 hk1 hS hce hcv hcl => ?_) (fun uu t H1 locs ht hvm hw_150 hB hz1 hk1 hS => ?_)
                              ·
                                obtain ⟨w_151, k_152, h_153, na_154⟩ := uu
                                obtain ⟨hEn, hP1, hD1⟩ := hB
                                rw [ht] at hP1
                                obtain ⟨hP, hD⟩ := va_join (wr := [(aR, .inr (0, [.ref aT, .ref aS])), (aS, .inr (1, [.ref aN, .ref aC])), (aN, .inl (kN, 5, .inl (fun j => nI (cnt j)))), (aC, .inl (kC, 52035, .inl (upd cel2 (ce + j) r_1)))]) (w1 := [(aT, .inr (2, [.ref aB, .int (nI u), .int (nI en), .int (nI h_153), .int na_154, .int w_151, .int (nI k_152)])), (aB, .inl (kB, 65536, .inl B))]) hP hD [4, 5] [0, 1, 2, 3] rfl rfl (by decide) (by decide) hk1 hFc hP1 hD1
                                generalize H1 = H at hP hS hce ⊢
                                have hP : va_P (dC, dI) vwCl [(aR, .inr (0, [.ref aT, .ref aS])), (aS, .inr (1, [.ref aN, .ref aC])), (aN, .inl (kN, 5, .inl (fun j => nI (cnt j)))), (aC, .inl (kC, 52035, .inl (upd cel2 (ce + j) r_1))), (aT, .inr (2, [.ref aB, .int (nI u), .int (nI en), .int (nI h_153), .int na_154, .int w_151, .int (nI k_152)])), (aB, .inl (kB, 65536, .inl B))] H := hP
                                have hD : va_D A [(aR, .inr (0, [.ref aT, .ref aS])), (aS, .inr (1, [.ref aN, .ref aC])), (aN, .inl (kN, 5, .inl (fun j => nI (cnt j)))), (aC, .inl (kC, 52035, .inl (upd cel2 (ce + j) r_1))), (aT, .inr (2, [.ref aB, .int (nI u), .int (nI en), .int (nI h_153), .int na_154, .int w_151, .int (nI k_152)])), (aB, .inl (kB, 65536, .inl B))] := hD
                                have hP9 := hP.sub (ws' := [(aR, .inr (0, [.ref aT, .ref aS])), (aT, .inr (2, [.ref aB, .int (nI u), .int (nI en), .int (nI h_153), .int na_154, .int w_151, .int (nI k_152)])), (aB, .inl (kB, 65536, .inl B)), (aS, .inr (1, [.ref aN, .ref aC])), (aN, .inl (kN, 5, .inl (fun j => nI (cnt j)))), (aC, .inl (kC, 52035, .inl (upd cel2 (ce + j) r_1)))]) [0, 4, 5, 1, 2, 3] rfl
                                have hD9 := hD.sub (ws' := [(aR, .inr (0, [.ref aT, .ref aS])), (aT, .inr (2, [.ref aB, .int (nI u), .int (nI en), .int (nI h_153), .int na_154, .int w_151, .int (nI k_152)])), (aB, .inl (kB, 65536, .inl B)), (aS, .inr (1, [.ref aN, .ref aC])), (aN, .inl (kN, 5, .inl (fun j => nI (cnt j)))), (aC, .inl (kC, 52035, .inl (upd cel2 (ce + j) r_1)))]) [0, 4, 5, 1, 2, 3] (by decide) rfl
                                exact vx_out (fun x hx => (htab x hx).elim) hlocks hce hcv hcl (fun t ht hvm => ⟨(w_151, k_152, h_153, na_154, cnt, upd cel2 (ce + j) r_1), by rw [tl_96]; unfold zTail; rw [if_neg (fun z => hs_140 z.2)]; simp only [zB_er, hx_155], ⟨hEn, by rw [ht]; exact hP9, hD9⟩, hS.F ht⟩) hS.2.2 (by decide) (by decide)
                              ·
                                obtain ⟨h_149, rfl⟩ : ∃ z, z = uu := ⟨_, rfl⟩
                                obtain ⟨hP1, hD1, hsz1⟩ := hB
                                rw [ht] at hP1 hsz1
                                obtain ⟨hP, hD⟩ := va_join (wr := [(aR, .inr (0, [.ref aT, .ref aS])), (aS, .inr (1, [.ref aN, .ref aC])), (aN, .inl (kN, 5, .inl (fun j => nI (cnt j)))), (aC, .inl (kC, 52035, .inl (upd cel2 (ce + j) r_1)))]) (w1 := [(aT, .inr (2, [.ref aB, .int (nI u), .int (nI en), .int (nI h_149), .int (nI h2), .int w, .int wa])), (aB, .inl (kB, 65536, .inl B))]) hP hD [4, 5] [0, 1, 2, 3] rfl rfl (by decide) (by decide) hk1 hFc hP1 hD1
                                refine zt_tight (hsz1.trans hzs) ?_
                                generalize H1 = H at hP hS ⊢
                                have hP : va_P (dC, dI) vwCl [(aR, .inr (0, [.ref aT, .ref aS])), (aS, .inr (1, [.ref aN, .ref aC])), (aN, .inl (kN, 5, .inl (fun j => nI (cnt j)))), (aC, .inl (kC, 52035, .inl (upd cel2 (ce + j) r_1))), (aT, .inr (2, [.ref aB, .int (nI u), .int (nI en), .int (nI h_149), .int (nI h2), .int w, .int wa])), (aB, .inl (kB, 65536, .inl B))] H := hP
                                have hD : va_D A [(aR, .inr (0, [.ref aT, .ref aS])), (aS, .inr (1, [.ref aN, .ref aC])), (aN, .inl (kN, 5, .inl (fun j => nI (cnt j)))), (aC, .inl (kC, 52035, .inl (upd cel2 (ce + j) r_1))), (aT, .inr (2, [.ref aB, .int (nI u), .int (nI en), .int (nI h_149), .int (nI h2), .int w, .int wa])), (aB, .inl (kB, 65536, .inl B))] := hD
                                have hw_150i := zMust_in hw_150
                                refine lv_iload hx hb d_Rd_takeList_218 (lv_at hl 3 rfl) ?_
                                refine zt_size (fun hzs => ?_)
                                have hP9 := hP.sub (ws' := [(aR, .inr (0, [.ref aT, .ref aS])), (aT, .inr (2, [.ref aB, .int (nI u), .int (nI en), .int (nI h_149), .int (nI h2), .int w, .int wa])), (aB, .inl (kB, 65536, .inl B)), (aS, .inr (1, [.ref aN, .ref aC])), (aN, .inl (kN, 5, .inl (fun j => nI (cnt j)))), (aC, .inl (kC, 52035, .inl (upd cel2 (ce + j) r_1)))]) [0, 4, 5, 1, 2, 3] rfl
                                have hD9 := hD.sub (ws' := [(aR, .inr (0, [.ref aT, .ref aS])), (aT, .inr (2, [.ref aB, .int (nI u), .int (nI en), .int (nI h_149), .int (nI h2), .int w, .int wa])), (aB, .inl (kB, 65536, .inl B)), (aS, .inr (1, [.ref aN, .ref aC])), (aN, .inl (kN, 5, .inl (fun j => nI (cnt j)))), (aC, .inl (kC, 52035, .inl (upd cel2 (ce + j) r_1)))]) [0, 4, 5, 1, 2, 3] (by decide) rfl
                                refine W.widen (k := 1) (n := 6) (by decide) (by decide) ?_
                                exact vx_ret (W.iret (v := nI (j + 1)) hx hb hr (fun t ht hW => ⟨⟨nI (j + 1), (h_149, nI h2, upd cel2 (ce + j) r_1, j + 1), rfl, ⟨rfl, by rw [tl_96]; unfold zTail; rw [if_neg (fun z => hs_140 z.2)]; simp only [zB_ok, hw_150]⟩, by rw [ht]; exact hP9, hD9, by rw [ht]; exact hzs⟩, hS.F ht⟩) hS.2.2 d_Rd_takeList_220)
                            ·
                              exact absurd (by decide) c_147
                ·
                  exact absurd (by decide) c_95
          ·
            refine lv_aload_n hx hb d_Rd_takeList_90 rfl (lv_at hl 1 rfl) ?_
            refine va_get (D := (dC, dI)) (ci := 0) (v := .ref aT) (C := R_Rd) (T := F_Rd) (N := 2) hx hb hz i_Rd hown hK hP 0 rfl rfl 0 (by decide) (hz _ tw_84) (fun _ h9 => h9) rfl d_Rd_takeList_91 ?_
            refine lv_iconst (v := 2) hx hb d_Rd_takeList_94 (by decide) ?_
            refine lv_aload_n hx hb d_Rd_takeList_95 rfl (lv_at hl 1 rfl) ?_
            refine va_get (D := (dC, dI)) (ci := 0) (v := .ref aT) (C := R_Rd) (T := F_Rd) (N := 2) hx hb hz i_Rd hown hK hP 0 rfl rfl 0 (by decide) (hz _ tw_84) (fun _ h9 => h9) rfl d_Rd_takeList_96 ?_
            refine va_getN (D := (dC, dI)) (ci := 2) (v := .int (nI h2)) (C := R_Tp) (T := F_Tp) (N := 7) hx hb hz i_Tp hown hK hP 4 rfl rfl 4 (by decide) (va_Nw.use rfl (hE.1 _ (List.mem_of_getElem? (i := 4) rfl))) (fun _ h9 => h9) rfl d_Rd_takeList_99 ?_
            have hPc := hP.sub (ws' := [(aT, .inr (2, [.ref aB, .int (nI u), .int (nI en), .int (nI h_2), .int (nI h2), .int w, .int wa])), (aB, .inl (kB, 65536, .inl B))]) [4, 5] rfl
            have hDc := hD.sub (ws' := [(aT, .inr (2, [.ref aB, .int (nI u), .int (nI en), .int (nI h_2), .int (nI h2), .int w, .int wa])), (aB, .inl (kB, 65536, .inl B))]) [4, 5] (by decide) rfl
            have hKc := hK.sub (tys' := [(kB, .byte)]) [0] rfl
            have hFc := va_free (wc := [(aT, .inr (2, [.ref aB, .int (nI u), .int (nI en), .int (nI h_2), .int (nI h2), .int w, .int wa])), (aB, .inl (kB, 65536, .inl B))]) hD hS hA [4, 5] rfl
            refine zt_size (fun hzs => ?_)
            refine vx_callv (vx_runV (As := [.int 2, .int (nI h2)]) (rest := []) ⟨hx, hb, hml, hown, hts⟩ (c_Tp_refuse l hst G dC dI H.size aT aB u en h_2 (nI h2) w wa kB B 2 (nI h2)) (cwV 2 hts (gV tw_363 tw_223 tw_224 tw_3 tw_225 rfl) rfl rfl rfl (by decide +kernel) ⟨Nat.le_of_ble_eq_true rfl, Nat.le_of_ble_eq_true rfl⟩) (PW_preV hPc hKc hDc hE hS hFc (ci := 2) (q0 := 0) rfl rfl) rfl rfl hl.1 rfl (lv_room (Nat.le_of_ble_eq_true rfl)) d_Rd_takeList_102 ⟨Nat.le_of_ble_eq_true rfl, Nat.le_of_ble_eq_true rfl⟩) hS (fun q _ h => hFc q h) hFc (fun q _ h => hFc q h) (fun E9 ce9 q9 uu t H1 locs ht hvm hx_160 hB hz1 hk1 hS hce hcv hcl => ?_) (fun uu t H1 locs ht hvm hw_157 hB hz1 hk1 hS => ?_)
            ·
              obtain ⟨w_158, wa_159⟩ := uu
              obtain ⟨hEn, hP1, hD1⟩ := hB
              rw [ht] at hP1
              obtain ⟨hP, hD⟩ := va_join (wr := [(aR, .inr (0, [.ref aT, .ref aS])), (aS, .inr (1, [.ref aN, .ref aC])), (aN, .inl (kN, 5, .inl (fun j => nI (cnt j)))), (aC, .inl (kC, 52035, .inl cel2))]) (w1 := [(aT, .inr (2, [.ref aB, .int (nI u), .int (nI en), .int (nI h_2), .int (nI h2), .int w_158, .int wa_159])), (aB, .inl (kB, 65536, .inl B))]) hP hD [4, 5] [0, 1, 2, 3] rfl rfl (by decide) (by decide) hk1 hFc hP1 hD1
              generalize H1 = H at hP hS hce ⊢
              have hP : va_P (dC, dI) vwCl [(aR, .inr (0, [.ref aT, .ref aS])), (aS, .inr (1, [.ref aN, .ref aC])), (aN, .inl (kN, 5, .inl (fun j => nI (cnt j)))), (aC, .inl (kC, 52035, .inl cel2)), (aT, .inr (2, [.ref aB, .int (nI u), .int (nI en), .int (nI h_2), .int (nI h2), .int w_158, .int wa_159])), (aB, .inl (kB, 65536, .inl B))] H := hP
              have hD : va_D A [(aR, .inr (0, [.ref aT, .ref aS])), (aS, .inr (1, [.ref aN, .ref aC])), (aN, .inl (kN, 5, .inl (fun j => nI (cnt j)))), (aC, .inl (kC, 52035, .inl cel2)), (aT, .inr (2, [.ref aB, .int (nI u), .int (nI en), .int (nI h_2), .int (nI h2), .int w_158, .int wa_159])), (aB, .inl (kB, 65536, .inl B))] := hD
              obtain ⟨rfl, rfl⟩ := hx_160
              have hP9 := hP.sub (ws' := [(aR, .inr (0, [.ref aT, .ref aS])), (aT, .inr (2, [.ref aB, .int (nI u), .int (nI en), .int (nI h_2), .int (nI h2), .int 2, .int (nI h2)])), (aB, .inl (kB, 65536, .inl B)), (aS, .inr (1, [.ref aN, .ref aC])), (aN, .inl (kN, 5, .inl (fun j => nI (cnt j)))), (aC, .inl (kC, 52035, .inl cel2))]) [0, 4, 5, 1, 2, 3] rfl
              have hD9 := hD.sub (ws' := [(aR, .inr (0, [.ref aT, .ref aS])), (aT, .inr (2, [.ref aB, .int (nI u), .int (nI en), .int (nI h_2), .int (nI h2), .int 2, .int (nI h2)])), (aB, .inl (kB, 65536, .inl B)), (aS, .inr (1, [.ref aN, .ref aC])), (aN, .inl (kN, 5, .inl (fun j => nI (cnt j)))), (aC, .inl (kC, 52035, .inl cel2))]) [0, 4, 5, 1, 2, 3] (by decide) rfl
              exact vx_out (fun x hx => (htab x hx).elim) hlocks hce hcv hcl (fun t ht hvm => ⟨(2, h2, h_2, nI h2, cnt, cel2), by rw [hI, zLst_step (by omega), hw_4a, zB_ok, if_neg c_10, if_pos (Or.inr (Int32.not_le.mp c_17)), zB_er], ⟨hEn, by rw [ht]; exact hP9, hD9⟩, hS.F ht⟩) hS.2.2 (by decide) (by decide)
            · exact (hw_157 : False).elim
      ·
        have c_10 : j = mo := (@nI_eq j mo (by omega) (by omega)).mp c_10
        refine lv_aload_n hx hb d_Rd_takeList_61 rfl (lv_at hl 1 rfl) ?_
        refine va_get (D := (dC, dI)) (ci := 0) (v := .ref aT) (C := R_Rd) (T := F_Rd) (N := 2) hx hb hz i_Rd hown hK hP 0 rfl rfl 0 (by decide) (hz _ tw_84) (fun _ h9 => h9) rfl d_Rd_takeList_62 ?_
        refine lv_iconst (v := 3) hx hb d_Rd_takeList_65 (by decide) ?_
        refine lv_aload_n hx hb d_Rd_takeList_66 rfl (lv_at hl 1 rfl) ?_
        refine va_get (D := (dC, dI)) (ci := 0) (v := .ref aT) (C := R_Rd) (T := F_Rd) (N := 2) hx hb hz i_Rd hown hK hP 0 rfl rfl 0 (by decide) (hz _ tw_84) (fun _ h9 => h9) rfl d_Rd_takeList_67 ?_
        refine va_getN (D := (dC, dI)) (ci := 2) (v := .int (nI h2)) (C := R_Tp) (T := F_Tp) (N := 7) hx hb hz i_Tp hown hK hP 4 rfl rfl 4 (by decide) (va_Nw.use rfl (hE.1 _ (List.mem_of_getElem? (i := 4) rfl))) (fun _ h9 => h9) rfl d_Rd_takeList_70 ?_
        have hPc := hP.sub (ws' := [(aT, .inr (2, [.ref aB, .int (nI u), .int (nI en), .int (nI h_2), .int (nI h2), .int w, .int wa])), (aB, .inl (kB, 65536, .inl B))]) [4, 5] rfl
        have hDc := hD.sub (ws' := [(aT, .inr (2, [.ref aB, .int (nI u), .int (nI en), .int (nI h_2), .int (nI h2), .int w, .int wa])), (aB, .inl (kB, 65536, .inl B))]) [4, 5] (by decide) rfl
        have hKc := hK.sub (tys' := [(kB, .byte)]) [0] rfl
        have hFc := va_free (wc := [(aT, .inr (2, [.ref aB, .int (nI u), .int (nI en), .int (nI h_2), .int (nI h2), .int w, .int wa])), (aB, .inl (kB, 65536, .inl B))]) hD hS hA [4, 5] rfl
        refine zt_size (fun hzs => ?_)
        refine vx_callv (vx_runV (As := [.int 3, .int (nI h2)]) (rest := []) ⟨hx, hb, hml, hown, hts⟩ (c_Tp_refuse l hst G dC dI H.size aT aB u en h_2 (nI h2) w wa kB B 3 (nI h2)) (cwV 2 hts (gV tw_363 tw_223 tw_224 tw_3 tw_225 rfl) rfl rfl rfl (by decide +kernel) ⟨Nat.le_of_ble_eq_true rfl, Nat.le_of_ble_eq_true rfl⟩) (PW_preV hPc hKc hDc hE hS hFc (ci := 2) (q0 := 0) rfl rfl) rfl rfl hl.1 rfl (lv_room (Nat.le_of_ble_eq_true rfl)) d_Rd_takeList_73 ⟨Nat.le_of_ble_eq_true rfl, Nat.le_of_ble_eq_true rfl⟩) hS (fun q _ h => hFc q h) hFc (fun q _ h => hFc q h) (fun E9 ce9 q9 uu t H1 locs ht hvm hx_165 hB hz1 hk1 hS hce hcv hcl => ?_) (fun uu t H1 locs ht hvm hw_162 hB hz1 hk1 hS => ?_)
        ·
          obtain ⟨w_163, wa_164⟩ := uu
          obtain ⟨hEn, hP1, hD1⟩ := hB
          rw [ht] at hP1
          obtain ⟨hP, hD⟩ := va_join (wr := [(aR, .inr (0, [.ref aT, .ref aS])), (aS, .inr (1, [.ref aN, .ref aC])), (aN, .inl (kN, 5, .inl (fun j => nI (cnt j)))), (aC, .inl (kC, 52035, .inl cel2))]) (w1 := [(aT, .inr (2, [.ref aB, .int (nI u), .int (nI en), .int (nI h_2), .int (nI h2), .int w_163, .int wa_164])), (aB, .inl (kB, 65536, .inl B))]) hP hD [4, 5] [0, 1, 2, 3] rfl rfl (by decide) (by decide) hk1 hFc hP1 hD1
          generalize H1 = H at hP hS hce ⊢
          have hP : va_P (dC, dI) vwCl [(aR, .inr (0, [.ref aT, .ref aS])), (aS, .inr (1, [.ref aN, .ref aC])), (aN, .inl (kN, 5, .inl (fun j => nI (cnt j)))), (aC, .inl (kC, 52035, .inl cel2)), (aT, .inr (2, [.ref aB, .int (nI u), .int (nI en), .int (nI h_2), .int (nI h2), .int w_163, .int wa_164])), (aB, .inl (kB, 65536, .inl B))] H := hP
          have hD : va_D A [(aR, .inr (0, [.ref aT, .ref aS])), (aS, .inr (1, [.ref aN, .ref aC])), (aN, .inl (kN, 5, .inl (fun j => nI (cnt j)))), (aC, .inl (kC, 52035, .inl cel2)), (aT, .inr (2, [.ref aB, .int (nI u), .int (nI en), .int (nI h_2), .int (nI h2), .int w_163, .int wa_164])), (aB, .inl (kB, 65536, .inl B))] := hD
          obtain ⟨rfl, rfl⟩ := hx_165
          have hP9 := hP.sub (ws' := [(aR, .inr (0, [.ref aT, .ref aS])), (aT, .inr (2, [.ref aB, .int (nI u), .int (nI en), .int (nI h_2), .int (nI h2), .int 3, .int (nI h2)])), (aB, .inl (kB, 65536, .inl B)), (aS, .inr (1, [.ref aN, .ref aC])), (aN, .inl (kN, 5, .inl (fun j => nI (cnt j)))), (aC, .inl (kC, 52035, .inl cel2))]) [0, 4, 5, 1, 2, 3] rfl
          have hD9 := hD.sub (ws' := [(aR, .inr (0, [.ref aT, .ref aS])), (aT, .inr (2, [.ref aB, .int (nI u), .int (nI en), .int (nI h_2), .int (nI h2), .int 3, .int (nI h2)])), (aB, .inl (kB, 65536, .inl B)), (aS, .inr (1, [.ref aN, .ref aC])), (aN, .inl (kN, 5, .inl (fun j => nI (cnt j)))), (aC, .inl (kC, 52035, .inl cel2))]) [0, 4, 5, 1, 2, 3] (by decide) rfl
          exact vx_out (fun x hx => (htab x hx).elim) hlocks hce hcv hcl (fun t ht hvm => ⟨(3, h2, h_2, nI h2, cnt, cel2), by rw [hI, zLst_step (by omega), hw_4a, zB_ok, if_pos c_10, zB_er], ⟨hEn, by rw [ht]; exact hP9, hD9⟩, hS.F ht⟩) hS.2.2 (by decide) (by decide)
        · exact (hw_162 : False).elim
set_option maxHeartbeats 4000000 in
set_option maxRecDepth 100000 in
theorem c_Rd_takeList (l : Launch) (hst : l.stackTraces = false) (G : ZG) (dC : Nat → ClassId) (dI : Nat → Nat → Nat) (sz : Nat) (aR : Nat) (aT : Nat) (aS : Nat) (aB : Nat) (u : Nat) (en : Nat) (h : Nat) (na : Int32) (w : Int32) (wa : Int32) (kB : ClassId) (B : Nat → Int32) (aN : Nat) (aC : Nat) (kN : ClassId) (cnt : Nat → Nat) (kC : ClassId) (cel : Nat → Int32) (fm : Int32) (le : Nat) (mo : Nat) (ce : Nat) (low : Int32) (hig : Int32) (hen : en ≤ 65536) (hh : h ≤ en) (hle : le ≤ 3072) (hmo : mo ≤ 3072) (hce : ce + mo ≤ 52035) : vx_Met l y_Rd_takeList w_Rd_takeList ({ frames := 8, cells := 1, slots := 6, locals := 128 }) (va_Pc [.ref aR, .int fm, .int (nI le), .int (nI mo), .int (nI ce), .int low, .int hig] (PW G (dC, dI) [(kB, .byte), (kN, .int), (kC, .int)] [(aR, .inr (0, [.ref aT, .ref aS])), (aT, .inr (2, [.ref aB, .int (nI u), .int (nI en), .int (nI h), .int na, .int w, .int wa])), (aB, .inl (kB, 65536, .inl B)), (aS, .inr (1, [.ref aN, .ref aC])), (aN, .inl (kN, 5, .inl (fun j => nI (cnt j)))), (aC, .inl (kC, 52035, .inl cel))] sz)) (va_Qi (fun (r : Int32) (uu : Nat × Int32 × (Nat → Int32) × Nat) => r = nI uu.2.2.2 ∧ zList B en (decide (fm = 2)) (decide (fm = 1)) le mo ce low hig h cel = .ok (uu.2.2.2, uu.1, uu.2.2.1)) (fun (uu : Nat × Int32 × (Nat → Int32) × Nat) t => BW (dC, dI) [(aR, .inr (0, [.ref aT, .ref aS])), (aT, .inr (2, [.ref aB, .int (nI u), .int (nI en), .int (nI uu.1), .int uu.2.1, .int w, .int wa])), (aB, .inl (kB, 65536, .inl B)), (aS, .inr (1, [.ref aN, .ref aC])), (aN, .inl (kN, 5, .inl (fun j => nI (cnt j)))), (aC, .inl (kC, 52035, .inl uu.2.2.1))] (va_A [(aR, .inr (0, [.ref aT, .ref aS])), (aT, .inr (2, [.ref aB, .int (nI u), .int (nI en), .int (nI h), .int na, .int w, .int wa])), (aB, .inl (kB, 65536, .inl B)), (aS, .inr (1, [.ref aN, .ref aC])), (aN, .inl (kN, 5, .inl (fun j => nI (cnt j)))), (aC, .inl (kC, 52035, .inl cel))] sz) sz t) (va_A [(aR, .inr (0, [.ref aT, .ref aS])), (aT, .inr (2, [.ref aB, .int (nI u), .int (nI en), .int (nI h), .int na, .int w, .int wa])), (aB, .inl (kB, 65536, .inl B)), (aS, .inr (1, [.ref aN, .ref aC])), (aN, .inl (kN, 5, .inl (fun j => nI (cnt j)))), (aC, .inl (kC, 52035, .inl cel))] sz)) (vx_X (fun (uu : Int32 × Nat × Nat × Int32 × (Nat → Nat) × (Nat → Int32)) => zList B en (decide (fm = 2)) (decide (fm = 1)) le mo ce low hig h cel = .error (uu.1, uu.2.1)) (fun E (uu : Int32 × Nat × Nat × Int32 × (Nat → Nat) × (Nat → Int32)) t => E = "java/lang/IllegalArgumentException" ∧ va_P (dC, dI) vwCl [(aR, .inr (0, [.ref aT, .ref aS])), (aT, .inr (2, [.ref aB, .int (nI u), .int (nI en), .int (nI uu.2.2.1), .int uu.2.2.2.1, .int uu.1, .int (nI uu.2.1)])), (aB, .inl (kB, 65536, .inl B)), (aS, .inr (1, [.ref aN, .ref aC])), (aN, .inl (kN, 5, .inl (fun j => nI (uu.2.2.2.2.1 j)))), (aC, .inl (kC, 52035, .inl uu.2.2.2.2.2))] t.heap ∧ va_D (va_A [(aR, .inr (0, [.ref aT, .ref aS])), (aT, .inr (2, [.ref aB, .int (nI u), .int (nI en), .int (nI h), .int na, .int w, .int wa])), (aB, .inl (kB, 65536, .inl B)), (aS, .inr (1, [.ref aN, .ref aC])), (aN, .inl (kN, 5, .inl (fun j => nI (cnt j)))), (aC, .inl (kC, 52035, .inl cel))] sz) [(aR, .inr (0, [.ref aT, .ref aS])), (aT, .inr (2, [.ref aB, .int (nI u), .int (nI en), .int (nI uu.2.2.1), .int uu.2.2.2.1, .int uu.1, .int (nI uu.2.1)])), (aB, .inl (kB, 65536, .inl B)), (aS, .inr (1, [.ref aN, .ref aC])), (aN, .inl (kN, 5, .inl (fun j => nI (uu.2.2.2.2.1 j)))), (aC, .inl (kC, 52035, .inl uu.2.2.2.2.2))]) (va_A [(aR, .inr (0, [.ref aT, .ref aS])), (aT, .inr (2, [.ref aB, .int (nI u), .int (nI en), .int (nI h), .int na, .int w, .int wa])), (aB, .inl (kB, 65536, .inl B)), (aS, .inr (1, [.ref aN, .ref aC])), (aN, .inl (kN, 5, .inl (fun j => nI (cnt j)))), (aC, .inl (kC, 52035, .inl cel))] sz)) 1 6 (va_A [(aR, .inr (0, [.ref aT, .ref aS])), (aT, .inr (2, [.ref aB, .int (nI u), .int (nI en), .int (nI h), .int na, .int w, .int wa])), (aB, .inl (kB, 65536, .inl B)), (aS, .inr (1, [.ref aN, .ref aC])), (aN, .inl (kN, 5, .inl (fun j => nI (cnt j)))), (aC, .inl (kC, 52035, .inl cel))] sz) := by
  refine vx_ofW (cc := prog_2_method_14_code) (maxL := 11) (ret := (some .int)) (by decide) rfl ?_
  intro p e s m args below meth c s₁ Bd hml htab hv
  obtain ⟨rfl, hsz, hP, hK, hD0, hE⟩ := hv
  have hx := Bd.exec
  have hb := Bd.bytes
  have hr := Bd.returns
  have hts := atoms_spec (ws := w_Rd_takeList) Bd.pre
  have hown : s.vm.findClass R_Rd = some m.cls := findClass_of_methodNamed Bd.named
  have hlocks := Bd.notSynchronized
  have hz : ∀ w ∈ ZW, w.before _ s = true := fun w h => hts w (List.mem_cons_of_mem _ h)
  subst hsz
  have hD := hD0.self (sz := s.heap.size)
  generalize hAe : va_A [(aR, .inr (0, [.ref aT, .ref aS])), (aT, .inr (2, [.ref aB, .int (nI u), .int (nI en), .int (nI h), .int na, .int w, .int wa])), (aB, .inl (kB, 65536, .inl B)), (aS, .inr (1, [.ref aN, .ref aC])), (aN, .inl (kN, 5, .inl (fun j => nI (cnt j)))), (aC, .inl (kC, 52035, .inl cel))] s.heap.size = A at hD hE ⊢
  have hA : ∀ q : Nat, s.heap.size ≤ q → A q := fun q h => by rw [← hAe]; exact Or.inr h
  have hS : va_S A s.heap s.heap [] := va_S.rf
  have hl := lv_entry ([.ref aR, .int fm, .int (nI le), .int (nI mo), .int (nI ce), .int low, .int hig]) (n := 11) (Nat.le_of_ble_eq_true rfl)
  rw [lg_entry_eq]
  generalize (lg_sl ([.ref aR, .int fm, .int (nI le), .int (nI mo), .int (nI ce), .int low, .int hig]) ++ List.replicate (11 - (lg_sl ([.ref aR, .int fm, .int (nI le), .int (nI mo), .int (nI ce), .int low, .int hig])).length) Slot.unset).toArray = ls at hl ⊢
  have hl : lv_has ls 11 [(0, .ref aR), (1, .int fm), (2, .int (nI le)), (3, .int (nI mo)), (4, .int (nI ce)), (5, .int low), (6, .int hig)] := hl
  obtain ⟨H, hH⟩ : ∃ z, z = s.heap := ⟨_, rfl⟩
  have hP : va_P (dC, dI) vwCl [(aR, .inr (0, [.ref aT, .ref aS])), (aT, .inr (2, [.ref aB, .int (nI u), .int (nI en), .int (nI h), .int na, .int w, .int wa])), (aB, .inl (kB, 65536, .inl B)), (aS, .inr (1, [.ref aN, .ref aC])), (aN, .inl (kN, 5, .inl (fun j => nI (cnt j)))), (aC, .inl (kC, 52035, .inl cel))] H := by rw [hH]; exact hP
  have hS : va_S A s.heap H [] := by rw [hH]; exact hS
  refine zt_heap hH ?_
  refine lv_iload hx hb d_Rd_takeList_0 (lv_at hl 5 rfl) ?_
  refine lv_istore (lv' := [(7, .int low), (0, .ref aR), (1, .int fm), (2, .int (nI le)), (3, .int (nI mo)), (4, .int (nI ce)), (5, .int low), (6, .int hig)]) hx hb d_Rd_takeList_2 hl (by decide) rfl (fun ls hl => ?_)
  refine lv_iconst (v := 0) hx hb d_Rd_takeList_4 (by decide) ?_
  refine lv_istore (lv' := [(8, .int 0), (7, .int low), (0, .ref aR), (1, .int fm), (2, .int (nI le)), (3, .int (nI mo)), (4, .int (nI ce)), (5, .int low), (6, .int hig)]) hx hb d_Rd_takeList_5 hl (by decide) rfl (fun ls hl => ?_)
  refine lv_aload_n hx hb d_Rd_takeList_7 rfl (lv_at hl 2 rfl) ?_
  refine va_get (D := (dC, dI)) (ci := 0) (v := .ref aT) (C := R_Rd) (T := F_Rd) (N := 2) hx hb hz i_Rd hown hK hP 0 rfl rfl 0 (by decide) (hz _ tw_84) (fun _ h9 => h9) rfl d_Rd_takeList_8 ?_
  refine lv_bipush (v := 91) hx hb d_Rd_takeList_11 (by decide) ?_
  have hPc := hP.sub (ws' := [(aT, .inr (2, [.ref aB, .int (nI u), .int (nI en), .int (nI h), .int na, .int w, .int wa])), (aB, .inl (kB, 65536, .inl B))]) [1, 2] rfl
  have hDc := hD.sub (ws' := [(aT, .inr (2, [.ref aB, .int (nI u), .int (nI en), .int (nI h), .int na, .int w, .int wa])), (aB, .inl (kB, 65536, .inl B))]) [1, 2] (by decide) rfl
  have hKc := hK.sub (tys' := [(kB, .byte)]) [0] rfl
  have hFc := va_free (wc := [(aT, .inr (2, [.ref aB, .int (nI u), .int (nI en), .int (nI h), .int na, .int w, .int wa])), (aB, .inl (kB, 65536, .inl B))]) hD hS hA [1, 2] rfl
  refine zt_size (fun hzs => ?_)
  refine vx_callv (vx_runV (As := [.int 91]) (rest := []) ⟨hx, hb, hml, hown, hts⟩ (c_Tp_mustTake l hst G dC dI H.size aT aB u en h na w wa kB B 91 (by omega) (by omega)) (cwV 1 hts (gV tw_214 tw_215 tw_216 tw_3 tw_217 rfl) rfl rfl rfl (by decide +kernel) ⟨Nat.le_of_ble_eq_true rfl, Nat.le_of_ble_eq_true rfl⟩) (PW_preV hPc hKc hDc hE hS hFc (ci := 2) (q0 := 0) rfl rfl) rfl rfl hl.1 rfl (lv_room (Nat.le_of_ble_eq_true rfl)) d_Rd_takeList_13 ⟨Nat.le_of_ble_eq_true rfl, Nat.le_of_ble_eq_true rfl⟩) hS (fun q _ h => hFc q h) hFc (fun q _ h => hFc q h) (fun E9 ce9 q9 uu t H1 locs ht hvm hx_8 hB hz1 hk1 hS hce hcv hcl => ?_) (fun uu t H1 locs ht hvm hw_3 hB hz1 hk1 hS => ?_)
  ·
    obtain ⟨w_4, k_5, h_6, na_7⟩ := uu
    obtain ⟨hEn, hP1, hD1⟩ := hB
    rw [ht] at hP1
    obtain ⟨hP, hD⟩ := va_join (wr := [(aR, .inr (0, [.ref aT, .ref aS])), (aS, .inr (1, [.ref aN, .ref aC])), (aN, .inl (kN, 5, .inl (fun j => nI (cnt j)))), (aC, .inl (kC, 52035, .inl cel))]) (w1 := [(aT, .inr (2, [.ref aB, .int (nI u), .int (nI en), .int (nI h_6), .int na_7, .int w_4, .int (nI k_5)])), (aB, .inl (kB, 65536, .inl B))]) hP hD [1, 2] [0, 3, 4, 5] rfl rfl (by decide) (by decide) hk1 hFc hP1 hD1
    generalize H1 = H at hP hS hce ⊢
    have hP : va_P (dC, dI) vwCl [(aR, .inr (0, [.ref aT, .ref aS])), (aS, .inr (1, [.ref aN, .ref aC])), (aN, .inl (kN, 5, .inl (fun j => nI (cnt j)))), (aC, .inl (kC, 52035, .inl cel)), (aT, .inr (2, [.ref aB, .int (nI u), .int (nI en), .int (nI h_6), .int na_7, .int w_4, .int (nI k_5)])), (aB, .inl (kB, 65536, .inl B))] H := hP
    have hD : va_D A [(aR, .inr (0, [.ref aT, .ref aS])), (aS, .inr (1, [.ref aN, .ref aC])), (aN, .inl (kN, 5, .inl (fun j => nI (cnt j)))), (aC, .inl (kC, 52035, .inl cel)), (aT, .inr (2, [.ref aB, .int (nI u), .int (nI en), .int (nI h_6), .int na_7, .int w_4, .int (nI k_5)])), (aB, .inl (kB, 65536, .inl B))] := hD
    have hP9 := hP.sub (ws' := [(aR, .inr (0, [.ref aT, .ref aS])), (aT, .inr (2, [.ref aB, .int (nI u), .int (nI en), .int (nI h_6), .int na_7, .int w_4, .int (nI k_5)])), (aB, .inl (kB, 65536, .inl B)), (aS, .inr (1, [.ref aN, .ref aC])), (aN, .inl (kN, 5, .inl (fun j => nI (cnt j)))), (aC, .inl (kC, 52035, .inl cel))]) [0, 4, 5, 1, 2, 3] rfl
    have hD9 := hD.sub (ws' := [(aR, .inr (0, [.ref aT, .ref aS])), (aT, .inr (2, [.ref aB, .int (nI u), .int (nI en), .int (nI h_6), .int na_7, .int w_4, .int (nI k_5)])), (aB, .inl (kB, 65536, .inl B)), (aS, .inr (1, [.ref aN, .ref aC])), (aN, .inl (kN, 5, .inl (fun j => nI (cnt j)))), (aC, .inl (kC, 52035, .inl cel))]) [0, 4, 5, 1, 2, 3] (by decide) rfl
    exact vx_out (fun x hx => (htab x hx).elim) hlocks hce hcv hcl (fun t ht hvm => ⟨(w_4, k_5, h_6, na_7, cnt, cel), by rw [zList_eq]; simp only [zB_er, hx_8], ⟨hEn, by rw [ht]; exact hP9, hD9⟩, hS.F ht⟩) hS.2.2 (by decide) (by decide)
  ·
    obtain ⟨h_2, rfl⟩ : ∃ z, z = uu := ⟨_, rfl⟩
    obtain ⟨hP1, hD1, hsz1⟩ := hB
    rw [ht] at hP1 hsz1
    obtain ⟨hP, hD⟩ := va_join (wr := [(aR, .inr (0, [.ref aT, .ref aS])), (aS, .inr (1, [.ref aN, .ref aC])), (aN, .inl (kN, 5, .inl (fun j => nI (cnt j)))), (aC, .inl (kC, 52035, .inl cel))]) (w1 := [(aT, .inr (2, [.ref aB, .int (nI u), .int (nI en), .int (nI h_2), .int na, .int w, .int wa])), (aB, .inl (kB, 65536, .inl B))]) hP hD [1, 2] [0, 3, 4, 5] rfl rfl (by decide) (by decide) hk1 hFc hP1 hD1
    refine zt_tight (hsz1.trans hzs) ?_
    generalize H1 = H at hP hS ⊢
    have hP : va_P (dC, dI) vwCl [(aR, .inr (0, [.ref aT, .ref aS])), (aS, .inr (1, [.ref aN, .ref aC])), (aN, .inl (kN, 5, .inl (fun j => nI (cnt j)))), (aC, .inl (kC, 52035, .inl cel)), (aT, .inr (2, [.ref aB, .int (nI u), .int (nI en), .int (nI h_2), .int na, .int w, .int wa])), (aB, .inl (kB, 65536, .inl B))] H := hP
    have hD : va_D A [(aR, .inr (0, [.ref aT, .ref aS])), (aS, .inr (1, [.ref aN, .ref aC])), (aN, .inl (kN, 5, .inl (fun j => nI (cnt j)))), (aC, .inl (kC, 52035, .inl cel)), (aT, .inr (2, [.ref aB, .int (nI u), .int (nI en), .int (nI h_2), .int na, .int w, .int wa])), (aB, .inl (kB, 65536, .inl B))] := hD
    have hw_3i := zMust_in hw_3
    refine lv_aload_n hx hb d_Rd_takeList_16 rfl (lv_at hl 2 rfl) ?_
    refine va_get (D := (dC, dI)) (ci := 0) (v := .ref aT) (C := R_Rd) (T := F_Rd) (N := 2) hx hb hz i_Rd hown hK hP 0 rfl rfl 0 (by decide) (hz _ tw_84) (fun _ h9 => h9) rfl d_Rd_takeList_17 ?_
    refine lv_bipush (v := 93) hx hb d_Rd_takeList_20 (by decide) ?_
    have hPc := hP.sub (ws' := [(aT, .inr (2, [.ref aB, .int (nI u), .int (nI en), .int (nI h_2), .int na, .int w, .int wa])), (aB, .inl (kB, 65536, .inl B))]) [4, 5] rfl
    have hDc := hD.sub (ws' := [(aT, .inr (2, [.ref aB, .int (nI u), .int (nI en), .int (nI h_2), .int na, .int w, .int wa])), (aB, .inl (kB, 65536, .inl B))]) [4, 5] (by decide) rfl
    have hKc := hK.sub (tys' := [(kB, .byte)]) [0] rfl
    have hFc := va_free (wc := [(aT, .inr (2, [.ref aB, .int (nI u), .int (nI en), .int (nI h_2), .int na, .int w, .int wa])), (aB, .inl (kB, 65536, .inl B))]) hD hS hA [4, 5] rfl
    refine va_calli (va_runV (As := [.int 93]) (rest := []) ⟨hx, hb, hml, hown, hts⟩ (c_Tp_sees l G dC dI H.size aT aB u en h_2 na w wa kB B 93 (by omega) (by omega)) (cwV 1 hts (gV tw_291 tw_219 tw_220 tw_3 tw_221 rfl) rfl rfl rfl (by decide +kernel) ⟨Nat.le_of_ble_eq_true rfl, Nat.le_of_ble_eq_true rfl⟩) (PW_preV hPc hKc hDc hE hS hFc (ci := 2) (q0 := 0) rfl rfl) rfl rfl hl.1 rfl (lv_room (Nat.le_of_ble_eq_true rfl)) d_Rd_takeList_22 ⟨Nat.le_of_ble_eq_true rfl, Nat.le_of_ble_eq_true rfl⟩) hS (fun q _ h => hFc q h) hFc (fun r_9 uu t H1 locs ht hvm hw_10 hB hz1 hk1 hS => ?_)
    obtain ⟨hP1, hD1, hsz1⟩ := hB
    rw [ht] at hP1 hsz1
    obtain ⟨hP, hD⟩ := va_join (wr := [(aR, .inr (0, [.ref aT, .ref aS])), (aS, .inr (1, [.ref aN, .ref aC])), (aN, .inl (kN, 5, .inl (fun j => nI (cnt j)))), (aC, .inl (kC, 52035, .inl cel))]) (w1 := [(aT, .inr (2, [.ref aB, .int (nI u), .int (nI en), .int (nI h_2), .int na, .int w, .int wa])), (aB, .inl (kB, 65536, .inl B))]) hP hD [4, 5] [0, 1, 2, 3] rfl rfl (by decide) (by decide) hk1 hFc hP1 hD1
    generalize H1 = H at hP hS ⊢
    have hP : va_P (dC, dI) vwCl [(aR, .inr (0, [.ref aT, .ref aS])), (aS, .inr (1, [.ref aN, .ref aC])), (aN, .inl (kN, 5, .inl (fun j => nI (cnt j)))), (aC, .inl (kC, 52035, .inl cel)), (aT, .inr (2, [.ref aB, .int (nI u), .int (nI en), .int (nI h_2), .int na, .int w, .int wa])), (aB, .inl (kB, 65536, .inl B))] H := hP
    have hD : va_D A [(aR, .inr (0, [.ref aT, .ref aS])), (aS, .inr (1, [.ref aN, .ref aC])), (aN, .inl (kN, 5, .inl (fun j => nI (cnt j)))), (aC, .inl (kC, 52035, .inl cel)), (aT, .inr (2, [.ref aB, .int (nI u), .int (nI en), .int (nI h_2), .int na, .int w, .int wa])), (aB, .inl (kB, 65536, .inl B))] := hD
    by_cases hs_11 : h_2 < en ∧ B h_2 = 93
    ·
      rw [if_pos hs_11] at hw_10; subst hw_10
      refine lv_if_ne (tgt := 32) hx hb d_Rd_takeList_25 (by decide) (fun c_12 => ?_) (fun c_12 => ?_)
      ·
        refine lv_iconst (v := 0) hx hb d_Rd_takeList_32 (by decide) ?_
        refine lv_istore (lv' := [(9, .int 0), (8, .int 0), (7, .int low), (0, .ref aR), (1, .int fm), (2, .int (nI le)), (3, .int (nI mo)), (4, .int (nI ce)), (5, .int low), (6, .int hig)]) hx hb d_Rd_takeList_33 hl (by decide) rfl (fun ls hl => ?_)
        refine lv_iload hx hb d_Rd_takeList_35 (lv_at hl 0 rfl) ?_
        refine lv_if_eq (tgt := 152) hx hb d_Rd_takeList_37 (by decide) (fun c_13 => ?_) (fun c_13 => ?_)
        ·
          have tl_14 : zList B en (decide (fm = 2)) (decide (fm = 1)) le mo ce low hig h cel = zTail B en (decide (fm = 1)) le (0, h_2, cel) := by rw [zList_eq]; simp only [zB_ok, hw_3]; rw [if_pos hs_11, zB_ok]
          refine lv_iload hx hb d_Rd_takeList_152 (lv_at hl 1 rfl) ?_
          refine lv_iload_n hx hb d_Rd_takeList_154 rfl (lv_at hl 5 rfl) ?_
          refine lv_icmp_lt (tgt := 170) hx hb d_Rd_takeList_155 (by decide) (fun c_15 => ?_) (fun c_15 => ?_)
          ·
            have c_15 : 0 < le := (@nI_ltI 0 le (by omega) (by omega)).mp c_15
            refine lv_iconst (v := 1) hx hb d_Rd_takeList_170 (by decide) ?_
            refine lv_goto (tgt := 175) hx hb d_Rd_takeList_171 (by decide) ?_
            refine lv_istore (lv' := [(10, .int 1), (9, .int 0), (8, .int 0), (7, .int low), (0, .ref aR), (1, .int fm), (2, .int (nI le)), (3, .int (nI mo)), (4, .int (nI ce)), (5, .int low), (6, .int hig)]) hx hb d_Rd_takeList_175 hl (by decide) rfl (fun ls hl => ?_)
            refine lv_iload hx hb d_Rd_takeList_177 (lv_at hl 0 rfl) ?_
            refine lv_if_eq (tgt := 209) hx hb d_Rd_takeList_179 (by decide) (fun c_16 => ?_) (fun c_16 => ?_)
            ·
              exact absurd c_16 (by decide)
            ·
              refine lv_aload_n hx hb d_Rd_takeList_182 rfl (lv_at hl 4 rfl) ?_
              refine va_get (D := (dC, dI)) (ci := 0) (v := .ref aT) (C := R_Rd) (T := F_Rd) (N := 2) hx hb hz i_Rd hown hK hP 0 rfl rfl 0 (by decide) (hz _ tw_84) (fun _ h9 => h9) rfl d_Rd_takeList_183 ?_
              refine lv_bipush (v := 93) hx hb d_Rd_takeList_186 (by decide) ?_
              have hPc := hP.sub (ws' := [(aT, .inr (2, [.ref aB, .int (nI u), .int (nI en), .int (nI h_2), .int na, .int w, .int wa])), (aB, .inl (kB, 65536, .inl B))]) [4, 5] rfl
              have hDc := hD.sub (ws' := [(aT, .inr (2, [.ref aB, .int (nI u), .int (nI en), .int (nI h_2), .int na, .int w, .int wa])), (aB, .inl (kB, 65536, .inl B))]) [4, 5] (by decide) rfl
              have hKc := hK.sub (tys' := [(kB, .byte)]) [0] rfl
              have hFc := va_free (wc := [(aT, .inr (2, [.ref aB, .int (nI u), .int (nI en), .int (nI h_2), .int na, .int w, .int wa])), (aB, .inl (kB, 65536, .inl B))]) hD hS hA [4, 5] rfl
              refine va_calli (va_runV (As := [.int 93]) (rest := []) ⟨hx, hb, hml, hown, hts⟩ (c_Tp_sees l G dC dI H.size aT aB u en h_2 na w wa kB B 93 (by omega) (by omega)) (cwV 1 hts (gV tw_291 tw_219 tw_220 tw_3 tw_221 rfl) rfl rfl rfl (by decide +kernel) ⟨Nat.le_of_ble_eq_true rfl, Nat.le_of_ble_eq_true rfl⟩) (PW_preV hPc hKc hDc hE hS hFc (ci := 2) (q0 := 0) rfl rfl) rfl rfl hl.1 rfl (lv_room (Nat.le_of_ble_eq_true rfl)) d_Rd_takeList_188 ⟨Nat.le_of_ble_eq_true rfl, Nat.le_of_ble_eq_true rfl⟩) hS (fun q _ h => hFc q h) hFc (fun r_17 uu t H1 locs ht hvm hw_18 hB hz1 hk1 hS => ?_)
              obtain ⟨hP1, hD1, hsz1⟩ := hB
              rw [ht] at hP1 hsz1
              obtain ⟨hP, hD⟩ := va_join (wr := [(aR, .inr (0, [.ref aT, .ref aS])), (aS, .inr (1, [.ref aN, .ref aC])), (aN, .inl (kN, 5, .inl (fun j => nI (cnt j)))), (aC, .inl (kC, 52035, .inl cel))]) (w1 := [(aT, .inr (2, [.ref aB, .int (nI u), .int (nI en), .int (nI h_2), .int na, .int w, .int wa])), (aB, .inl (kB, 65536, .inl B))]) hP hD [4, 5] [0, 1, 2, 3] rfl rfl (by decide) (by decide) hk1 hFc hP1 hD1
              generalize H1 = H at hP hS ⊢
              have hP : va_P (dC, dI) vwCl [(aR, .inr (0, [.ref aT, .ref aS])), (aS, .inr (1, [.ref aN, .ref aC])), (aN, .inl (kN, 5, .inl (fun j => nI (cnt j)))), (aC, .inl (kC, 52035, .inl cel)), (aT, .inr (2, [.ref aB, .int (nI u), .int (nI en), .int (nI h_2), .int na, .int w, .int wa])), (aB, .inl (kB, 65536, .inl B))] H := hP
              have hD : va_D A [(aR, .inr (0, [.ref aT, .ref aS])), (aS, .inr (1, [.ref aN, .ref aC])), (aN, .inl (kN, 5, .inl (fun j => nI (cnt j)))), (aC, .inl (kC, 52035, .inl cel)), (aT, .inr (2, [.ref aB, .int (nI u), .int (nI en), .int (nI h_2), .int na, .int w, .int wa])), (aB, .inl (kB, 65536, .inl B))] := hD
              by_cases hs_19 : h_2 < en ∧ B h_2 = 93
              ·
                rw [if_pos hs_19] at hw_18; subst hw_18
                refine lv_if_eq (tgt := 209) hx hb d_Rd_takeList_191 (by decide) (fun c_20 => ?_) (fun c_20 => ?_)
                ·
                  exact absurd c_20 (by decide)
                ·
                  refine lv_aload_n hx hb d_Rd_takeList_194 rfl (lv_at hl 4 rfl) ?_
                  refine va_get (D := (dC, dI)) (ci := 0) (v := .ref aT) (C := R_Rd) (T := F_Rd) (N := 2) hx hb hz i_Rd hown hK hP 0 rfl rfl 0 (by decide) (hz _ tw_84) (fun _ h9 => h9) rfl d_Rd_takeList_195 ?_
                  refine lv_iconst (v := 3) hx hb d_Rd_takeList_198 (by decide) ?_
                  refine lv_aload_n hx hb d_Rd_takeList_199 rfl (lv_at hl 4 rfl) ?_
                  refine va_get (D := (dC, dI)) (ci := 0) (v := .ref aT) (C := R_Rd) (T := F_Rd) (N := 2) hx hb hz i_Rd hown hK hP 0 rfl rfl 0 (by decide) (hz _ tw_84) (fun _ h9 => h9) rfl d_Rd_takeList_200 ?_
                  refine va_getN (D := (dC, dI)) (ci := 2) (v := .int (nI h_2)) (C := R_Tp) (T := F_Tp) (N := 7) hx hb hz i_Tp hown hK hP 4 rfl rfl 3 (by decide) (va_Nw.use rfl (hE.1 _ (List.mem_of_getElem? (i := 3) rfl))) (fun _ h9 => h9) rfl d_Rd_takeList_203 ?_
                  have hPc := hP.sub (ws' := [(aT, .inr (2, [.ref aB, .int (nI u), .int (nI en), .int (nI h_2), .int na, .int w, .int wa])), (aB, .inl (kB, 65536, .inl B))]) [4, 5] rfl
                  have hDc := hD.sub (ws' := [(aT, .inr (2, [.ref aB, .int (nI u), .int (nI en), .int (nI h_2), .int na, .int w, .int wa])), (aB, .inl (kB, 65536, .inl B))]) [4, 5] (by decide) rfl
                  have hKc := hK.sub (tys' := [(kB, .byte)]) [0] rfl
                  have hFc := va_free (wc := [(aT, .inr (2, [.ref aB, .int (nI u), .int (nI en), .int (nI h_2), .int na, .int w, .int wa])), (aB, .inl (kB, 65536, .inl B))]) hD hS hA [4, 5] rfl
                  refine zt_size (fun hzs => ?_)
                  refine vx_callv (vx_runV (As := [.int 3, .int (nI h_2)]) (rest := []) ⟨hx, hb, hml, hown, hts⟩ (c_Tp_refuse l hst G dC dI H.size aT aB u en h_2 na w wa kB B 3 (nI h_2)) (cwV 2 hts (gV tw_363 tw_223 tw_224 tw_3 tw_225 rfl) rfl rfl rfl (by decide +kernel) ⟨Nat.le_of_ble_eq_true rfl, Nat.le_of_ble_eq_true rfl⟩) (PW_preV hPc hKc hDc hE hS hFc (ci := 2) (q0 := 0) rfl rfl) rfl rfl hl.1 rfl (lv_room (Nat.le_of_ble_eq_true rfl)) d_Rd_takeList_206 ⟨Nat.le_of_ble_eq_true rfl, Nat.le_of_ble_eq_true rfl⟩) hS (fun q _ h => hFc q h) hFc (fun q _ h => hFc q h) (fun E9 ce9 q9 uu t H1 locs ht hvm hx_25 hB hz1 hk1 hS hce hcv hcl => ?_) (fun uu t H1 locs ht hvm hw_22 hB hz1 hk1 hS => ?_)
                  ·
                    obtain ⟨w_23, wa_24⟩ := uu
                    obtain ⟨hEn, hP1, hD1⟩ := hB
                    rw [ht] at hP1
                    obtain ⟨hP, hD⟩ := va_join (wr := [(aR, .inr (0, [.ref aT, .ref aS])), (aS, .inr (1, [.ref aN, .ref aC])), (aN, .inl (kN, 5, .inl (fun j => nI (cnt j)))), (aC, .inl (kC, 52035, .inl cel))]) (w1 := [(aT, .inr (2, [.ref aB, .int (nI u), .int (nI en), .int (nI h_2), .int na, .int w_23, .int wa_24])), (aB, .inl (kB, 65536, .inl B))]) hP hD [4, 5] [0, 1, 2, 3] rfl rfl (by decide) (by decide) hk1 hFc hP1 hD1
                    generalize H1 = H at hP hS hce ⊢
                    have hP : va_P (dC, dI) vwCl [(aR, .inr (0, [.ref aT, .ref aS])), (aS, .inr (1, [.ref aN, .ref aC])), (aN, .inl (kN, 5, .inl (fun j => nI (cnt j)))), (aC, .inl (kC, 52035, .inl cel)), (aT, .inr (2, [.ref aB, .int (nI u), .int (nI en), .int (nI h_2), .int na, .int w_23, .int wa_24])), (aB, .inl (kB, 65536, .inl B))] H := hP
                    have hD : va_D A [(aR, .inr (0, [.ref aT, .ref aS])), (aS, .inr (1, [.ref aN, .ref aC])), (aN, .inl (kN, 5, .inl (fun j => nI (cnt j)))), (aC, .inl (kC, 52035, .inl cel)), (aT, .inr (2, [.ref aB, .int (nI u), .int (nI en), .int (nI h_2), .int na, .int w_23, .int wa_24])), (aB, .inl (kB, 65536, .inl B))] := hD
                    obtain ⟨rfl, rfl⟩ := hx_25
                    have hP9 := hP.sub (ws' := [(aR, .inr (0, [.ref aT, .ref aS])), (aT, .inr (2, [.ref aB, .int (nI u), .int (nI en), .int (nI h_2), .int na, .int 3, .int (nI h_2)])), (aB, .inl (kB, 65536, .inl B)), (aS, .inr (1, [.ref aN, .ref aC])), (aN, .inl (kN, 5, .inl (fun j => nI (cnt j)))), (aC, .inl (kC, 52035, .inl cel))]) [0, 4, 5, 1, 2, 3] rfl
                    have hD9 := hD.sub (ws' := [(aR, .inr (0, [.ref aT, .ref aS])), (aT, .inr (2, [.ref aB, .int (nI u), .int (nI en), .int (nI h_2), .int na, .int 3, .int (nI h_2)])), (aB, .inl (kB, 65536, .inl B)), (aS, .inr (1, [.ref aN, .ref aC])), (aN, .inl (kN, 5, .inl (fun j => nI (cnt j)))), (aC, .inl (kC, 52035, .inl cel))]) [0, 4, 5, 1, 2, 3] (by decide) rfl
                    exact vx_out (fun x hx => (htab x hx).elim) hlocks hce hcv hcl (fun t ht hvm => ⟨(3, h_2, h_2, na, cnt, cel), by rw [tl_14]; unfold zTail; rw [if_pos ⟨Or.inl c_15, hs_19⟩], ⟨hEn, by rw [ht]; exact hP9, hD9⟩, hS.F ht⟩) hS.2.2 (by decide) (by decide)
                  · exact (hw_22 : False).elim
              ·
                rw [if_neg hs_19] at hw_18; subst hw_18
                refine lv_if_eq (tgt := 209) hx hb d_Rd_takeList_191 (by decide) (fun c_26 => ?_) (fun c_26 => ?_)
                ·
                  refine lv_aload_n hx hb d_Rd_takeList_209 rfl (lv_at hl 4 rfl) ?_
                  refine va_get (D := (dC, dI)) (ci := 0) (v := .ref aT) (C := R_Rd) (T := F_Rd) (N := 2) hx hb hz i_Rd hown hK hP 0 rfl rfl 0 (by decide) (hz _ tw_84) (fun _ h9 => h9) rfl d_Rd_takeList_210 ?_
                  refine lv_bipush (v := 93) hx hb d_Rd_takeList_213 (by decide) ?_
                  have hPc := hP.sub (ws' := [(aT, .inr (2, [.ref aB, .int (nI u), .int (nI en), .int (nI h_2), .int na, .int w, .int wa])), (aB, .inl (kB, 65536, .inl B))]) [4, 5] rfl
                  have hDc := hD.sub (ws' := [(aT, .inr (2, [.ref aB, .int (nI u), .int (nI en), .int (nI h_2), .int na, .int w, .int wa])), (aB, .inl (kB, 65536, .inl B))]) [4, 5] (by decide) rfl
                  have hKc := hK.sub (tys' := [(kB, .byte)]) [0] rfl
                  have hFc := va_free (wc := [(aT, .inr (2, [.ref aB, .int (nI u), .int (nI en), .int (nI h_2), .int na, .int w, .int wa])), (aB, .inl (kB, 65536, .inl B))]) hD hS hA [4, 5] rfl
                  refine zt_size (fun hzs => ?_)
                  refine vx_callv (vx_runV (As := [.int 93]) (rest := []) ⟨hx, hb, hml, hown, hts⟩ (c_Tp_mustTake l hst G dC dI H.size aT aB u en h_2 na w wa kB B 93 (by omega) (by omega)) (cwV 1 hts (gV tw_214 tw_215 tw_216 tw_3 tw_217 rfl) rfl rfl rfl (by decide +kernel) ⟨Nat.le_of_ble_eq_true rfl, Nat.le_of_ble_eq_true rfl⟩) (PW_preV hPc hKc hDc hE hS hFc (ci := 2) (q0 := 0) rfl rfl) rfl rfl hl.1 rfl (lv_room (Nat.le_of_ble_eq_true rfl)) d_Rd_takeList_215 ⟨Nat.le_of_ble_eq_true rfl, Nat.le_of_ble_eq_true rfl⟩) hS (fun q _ h => hFc q h) hFc (fun q _ h => hFc q h) (fun E9 ce9 q9 uu t H1 locs ht hvm hx_34 hB hz1 hk1 hS hce hcv hcl => ?_) (fun uu t H1 locs ht hvm hw_29 hB hz1 hk1 hS => ?_)
                  ·
                    obtain ⟨w_30, k_31, h_32, na_33⟩ := uu
                    obtain ⟨hEn, hP1, hD1⟩ := hB
                    rw [ht] at hP1
                    obtain ⟨hP, hD⟩ := va_join (wr := [(aR, .inr (0, [.ref aT, .ref aS])), (aS, .inr (1, [.ref aN, .ref aC])), (aN, .inl (kN, 5, .inl (fun j => nI (cnt j)))), (aC, .inl (kC, 52035, .inl cel))]) (w1 := [(aT, .inr (2, [.ref aB, .int (nI u), .int (nI en), .int (nI h_32), .int na_33, .int w_30, .int (nI k_31)])), (aB, .inl (kB, 65536, .inl B))]) hP hD [4, 5] [0, 1, 2, 3] rfl rfl (by decide) (by decide) hk1 hFc hP1 hD1
                    generalize H1 = H at hP hS hce ⊢
                    have hP : va_P (dC, dI) vwCl [(aR, .inr (0, [.ref aT, .ref aS])), (aS, .inr (1, [.ref aN, .ref aC])), (aN, .inl (kN, 5, .inl (fun j => nI (cnt j)))), (aC, .inl (kC, 52035, .inl cel)), (aT, .inr (2, [.ref aB, .int (nI u), .int (nI en), .int (nI h_32), .int na_33, .int w_30, .int (nI k_31)])), (aB, .inl (kB, 65536, .inl B))] H := hP
                    have hD : va_D A [(aR, .inr (0, [.ref aT, .ref aS])), (aS, .inr (1, [.ref aN, .ref aC])), (aN, .inl (kN, 5, .inl (fun j => nI (cnt j)))), (aC, .inl (kC, 52035, .inl cel)), (aT, .inr (2, [.ref aB, .int (nI u), .int (nI en), .int (nI h_32), .int na_33, .int w_30, .int (nI k_31)])), (aB, .inl (kB, 65536, .inl B))] := hD
                    have hP9 := hP.sub (ws' := [(aR, .inr (0, [.ref aT, .ref aS])), (aT, .inr (2, [.ref aB, .int (nI u), .int (nI en), .int (nI h_32), .int na_33, .int w_30, .int (nI k_31)])), (aB, .inl (kB, 65536, .inl B)), (aS, .inr (1, [.ref aN, .ref aC])), (aN, .inl (kN, 5, .inl (fun j => nI (cnt j)))), (aC, .inl (kC, 52035, .inl cel))]) [0, 4, 5, 1, 2, 3] rfl
                    have hD9 := hD.sub (ws' := [(aR, .inr (0, [.ref aT, .ref aS])), (aT, .inr (2, [.ref aB, .int (nI u), .int (nI en), .int (nI h_32), .int na_33, .int w_30, .int (nI k_31)])), (aB, .inl (kB, 65536, .inl B)), (aS, .inr (1, [.ref aN, .ref aC])), (aN, .inl (kN, 5, .inl (fun j => nI (cnt j)))), (aC, .inl (kC, 52035, .inl cel))]) [0, 4, 5, 1, 2, 3] (by decide) rfl
                    exact vx_out (fun x hx => (htab x hx).elim) hlocks hce hcv hcl (fun t ht hvm => ⟨(w_30, k_31, h_32, na_33, cnt, cel), by rw [tl_14]; unfold zTail; rw [if_neg (fun z => hs_19 z.2)]; simp only [zB_er, hx_34], ⟨hEn, by rw [ht]; exact hP9, hD9⟩, hS.F ht⟩) hS.2.2 (by decide) (by decide)
                  ·
                    obtain ⟨h_28, rfl⟩ : ∃ z, z = uu := ⟨_, rfl⟩
                    obtain ⟨hP1, hD1, hsz1⟩ := hB
                    rw [ht] at hP1 hsz1
                    obtain ⟨hP, hD⟩ := va_join (wr := [(aR, .inr (0, [.ref aT, .ref aS])), (aS, .inr (1, [.ref aN, .ref aC])), (aN, .inl (kN, 5, .inl (fun j => nI (cnt j)))), (aC, .inl (kC, 52035, .inl cel))]) (w1 := [(aT, .inr (2, [.ref aB, .int (nI u), .int (nI en), .int (nI h_28), .int na, .int w, .int wa])), (aB, .inl (kB, 65536, .inl B))]) hP hD [4, 5] [0, 1, 2, 3] rfl rfl (by decide) (by decide) hk1 hFc hP1 hD1
                    refine zt_tight (hsz1.trans hzs) ?_
                    generalize H1 = H at hP hS ⊢
                    have hP : va_P (dC, dI) vwCl [(aR, .inr (0, [.ref aT, .ref aS])), (aS, .inr (1, [.ref aN, .ref aC])), (aN, .inl (kN, 5, .inl (fun j => nI (cnt j)))), (aC, .inl (kC, 52035, .inl cel)), (aT, .inr (2, [.ref aB, .int (nI u), .int (nI en), .int (nI h_28), .int na, .int w, .int wa])), (aB, .inl (kB, 65536, .inl B))] H := hP
                    have hD : va_D A [(aR, .inr (0, [.ref aT, .ref aS])), (aS, .inr (1, [.ref aN, .ref aC])), (aN, .inl (kN, 5, .inl (fun j => nI (cnt j)))), (aC, .inl (kC, 52035, .inl cel)), (aT, .inr (2, [.ref aB, .int (nI u), .int (nI en), .int (nI h_28), .int na, .int w, .int wa])), (aB, .inl (kB, 65536, .inl B))] := hD
                    have hw_29i := zMust_in hw_29
                    refine lv_iload hx hb d_Rd_takeList_218 (lv_at hl 2 rfl) ?_
                    refine zt_size (fun hzs => ?_)
                    have hP9 := hP.sub (ws' := [(aR, .inr (0, [.ref aT, .ref aS])), (aT, .inr (2, [.ref aB, .int (nI u), .int (nI en), .int (nI h_28), .int na, .int w, .int wa])), (aB, .inl (kB, 65536, .inl B)), (aS, .inr (1, [.ref aN, .ref aC])), (aN, .inl (kN, 5, .inl (fun j => nI (cnt j)))), (aC, .inl (kC, 52035, .inl cel))]) [0, 4, 5, 1, 2, 3] rfl
                    have hD9 := hD.sub (ws' := [(aR, .inr (0, [.ref aT, .ref aS])), (aT, .inr (2, [.ref aB, .int (nI u), .int (nI en), .int (nI h_28), .int na, .int w, .int wa])), (aB, .inl (kB, 65536, .inl B)), (aS, .inr (1, [.ref aN, .ref aC])), (aN, .inl (kN, 5, .inl (fun j => nI (cnt j)))), (aC, .inl (kC, 52035, .inl cel))]) [0, 4, 5, 1, 2, 3] (by decide) rfl
                    refine W.widen (k := 1) (n := 6) (by decide) (by decide) ?_
                    exact vx_ret (W.iret (v := 0) hx hb hr (fun t ht hW => ⟨⟨0, (h_28, na, cel, 0), rfl, ⟨rfl, by rw [tl_14]; unfold zTail; rw [if_neg (fun z => hs_19 z.2)]; simp only [zB_ok, hw_29]⟩, by rw [ht]; exact hP9, hD9, by rw [ht]; exact hzs⟩, hS.F ht⟩) hS.2.2 d_Rd_takeList_220)
                ·
                  exact absurd (by decide) c_26
          ·
            have c_15 : ¬ (0 < le) := fun z => c_15 ((@nI_ltI 0 le (by omega) (by omega)).mpr z)
            refine lv_iload_n hx hb d_Rd_takeList_158 rfl (lv_at hl 4 rfl) ?_
            refine lv_iconst (v := 1) hx hb d_Rd_takeList_159 (by decide) ?_
            refine lv_icmp_ne (tgt := 174) hx hb d_Rd_takeList_160 (by decide) (fun c_35 => ?_) (fun c_35 => ?_)
            ·
              refine lv_iconst (v := 0) hx hb d_Rd_takeList_174 (by decide) ?_
              refine lv_istore (lv' := [(10, .int 0), (9, .int 0), (8, .int 0), (7, .int low), (0, .ref aR), (1, .int fm), (2, .int (nI le)), (3, .int (nI mo)), (4, .int (nI ce)), (5, .int low), (6, .int hig)]) hx hb d_Rd_takeList_175 hl (by decide) rfl (fun ls hl => ?_)
              refine lv_iload hx hb d_Rd_takeList_177 (lv_at hl 0 rfl) ?_
              refine lv_if_eq (tgt := 209) hx hb d_Rd_takeList_179 (by decide) (fun c_36 => ?_) (fun c_36 => ?_)
              ·
                refine lv_aload_n hx hb d_Rd_takeList_209 rfl (lv_at hl 4 rfl) ?_
                refine va_get (D := (dC, dI)) (ci := 0) (v := .ref aT) (C := R_Rd) (T := F_Rd) (N := 2) hx hb hz i_Rd hown hK hP 0 rfl rfl 0 (by decide) (hz _ tw_84) (fun _ h9 => h9) rfl d_Rd_takeList_210 ?_
                refine lv_bipush (v := 93) hx hb d_Rd_takeList_213 (by decide) ?_
                have hPc := hP.sub (ws' := [(aT, .inr (2, [.ref aB, .int (nI u), .int (nI en), .int (nI h_2), .int na, .int w, .int wa])), (aB, .inl (kB, 65536, .inl B))]) [4, 5] rfl
                have hDc := hD.sub (ws' := [(aT, .inr (2, [.ref aB, .int (nI u), .int (nI en), .int (nI h_2), .int na, .int w, .int wa])), (aB, .inl (kB, 65536, .inl B))]) [4, 5] (by decide) rfl
                have hKc := hK.sub (tys' := [(kB, .byte)]) [0] rfl
                have hFc := va_free (wc := [(aT, .inr (2, [.ref aB, .int (nI u), .int (nI en), .int (nI h_2), .int na, .int w, .int wa])), (aB, .inl (kB, 65536, .inl B))]) hD hS hA [4, 5] rfl
                refine zt_size (fun hzs => ?_)
                refine vx_callv (vx_runV (As := [.int 93]) (rest := []) ⟨hx, hb, hml, hown, hts⟩ (c_Tp_mustTake l hst G dC dI H.size aT aB u en h_2 na w wa kB B 93 (by omega) (by omega)) (cwV 1 hts (gV tw_214 tw_215 tw_216 tw_3 tw_217 rfl) rfl rfl rfl (by decide +kernel) ⟨Nat.le_of_ble_eq_true rfl, Nat.le_of_ble_eq_true rfl⟩) (PW_preV hPc hKc hDc hE hS hFc (ci := 2) (q0 := 0) rfl rfl) rfl rfl hl.1 rfl (lv_room (Nat.le_of_ble_eq_true rfl)) d_Rd_takeList_215 ⟨Nat.le_of_ble_eq_true rfl, Nat.le_of_ble_eq_true rfl⟩) hS (fun q _ h => hFc q h) hFc (fun q _ h => hFc q h) (fun E9 ce9 q9 uu t H1 locs ht hvm hx_44 hB hz1 hk1 hS hce hcv hcl => ?_) (fun uu t H1 locs ht hvm hw_39 hB hz1 hk1 hS => ?_)
                ·
                  obtain ⟨w_40, k_41, h_42, na_43⟩ := uu
                  obtain ⟨hEn, hP1, hD1⟩ := hB
                  rw [ht] at hP1
                  obtain ⟨hP, hD⟩ := va_join (wr := [(aR, .inr (0, [.ref aT, .ref aS])), (aS, .inr (1, [.ref aN, .ref aC])), (aN, .inl (kN, 5, .inl (fun j => nI (cnt j)))), (aC, .inl (kC, 52035, .inl cel))]) (w1 := [(aT, .inr (2, [.ref aB, .int (nI u), .int (nI en), .int (nI h_42), .int na_43, .int w_40, .int (nI k_41)])), (aB, .inl (kB, 65536, .inl B))]) hP hD [4, 5] [0, 1, 2, 3] rfl rfl (by decide) (by decide) hk1 hFc hP1 hD1
                  generalize H1 = H at hP hS hce ⊢
                  have hP : va_P (dC, dI) vwCl [(aR, .inr (0, [.ref aT, .ref aS])), (aS, .inr (1, [.ref aN, .ref aC])), (aN, .inl (kN, 5, .inl (fun j => nI (cnt j)))), (aC, .inl (kC, 52035, .inl cel)), (aT, .inr (2, [.ref aB, .int (nI u), .int (nI en), .int (nI h_42), .int na_43, .int w_40, .int (nI k_41)])), (aB, .inl (kB, 65536, .inl B))] H := hP
                  have hD : va_D A [(aR, .inr (0, [.ref aT, .ref aS])), (aS, .inr (1, [.ref aN, .ref aC])), (aN, .inl (kN, 5, .inl (fun j => nI (cnt j)))), (aC, .inl (kC, 52035, .inl cel)), (aT, .inr (2, [.ref aB, .int (nI u), .int (nI en), .int (nI h_42), .int na_43, .int w_40, .int (nI k_41)])), (aB, .inl (kB, 65536, .inl B))] := hD
                  have hP9 := hP.sub (ws' := [(aR, .inr (0, [.ref aT, .ref aS])), (aT, .inr (2, [.ref aB, .int (nI u), .int (nI en), .int (nI h_42), .int na_43, .int w_40, .int (nI k_41)])), (aB, .inl (kB, 65536, .inl B)), (aS, .inr (1, [.ref aN, .ref aC])), (aN, .inl (kN, 5, .inl (fun j => nI (cnt j)))), (aC, .inl (kC, 52035, .inl cel))]) [0, 4, 5, 1, 2, 3] rfl
                  have hD9 := hD.sub (ws' := [(aR, .inr (0, [.ref aT, .ref aS])), (aT, .inr (2, [.ref aB, .int (nI u), .int (nI en), .int (nI h_42), .int na_43, .int w_40, .int (nI k_41)])), (aB, .inl (kB, 65536, .inl B)), (aS, .inr (1, [.ref aN, .ref aC])), (aN, .inl (kN, 5, .inl (fun j => nI (cnt j)))), (aC, .inl (kC, 52035, .inl cel))]) [0, 4, 5, 1, 2, 3] (by decide) rfl
                  exact vx_out (fun x hx => (htab x hx).elim) hlocks hce hcv hcl (fun t ht hvm => ⟨(w_40, k_41, h_42, na_43, cnt, cel), by rw [tl_14]; unfold zTail; rw [if_neg (fun z => absurd z.1 (fun z => z.elim c_15 (fun z => c_35 (of_decide_eq_true z.1))))]; simp only [zB_er, hx_44], ⟨hEn, by rw [ht]; exact hP9, hD9⟩, hS.F ht⟩) hS.2.2 (by decide) (by decide)
                ·
                  obtain ⟨h_38, rfl⟩ : ∃ z, z = uu := ⟨_, rfl⟩
                  obtain ⟨hP1, hD1, hsz1⟩ := hB
                  rw [ht] at hP1 hsz1
                  obtain ⟨hP, hD⟩ := va_join (wr := [(aR, .inr (0, [.ref aT, .ref aS])), (aS, .inr (1, [.ref aN, .ref aC])), (aN, .inl (kN, 5, .inl (fun j => nI (cnt j)))), (aC, .inl (kC, 52035, .inl cel))]) (w1 := [(aT, .inr (2, [.ref aB, .int (nI u), .int (nI en), .int (nI h_38), .int na, .int w, .int wa])), (aB, .inl (kB, 65536, .inl B))]) hP hD [4, 5] [0, 1, 2, 3] rfl rfl (by decide) (by decide) hk1 hFc hP1 hD1
                  refine zt_tight (hsz1.trans hzs) ?_
                  generalize H1 = H at hP hS ⊢
                  have hP : va_P (dC, dI) vwCl [(aR, .inr (0, [.ref aT, .ref aS])), (aS, .inr (1, [.ref aN, .ref aC])), (aN, .inl (kN, 5, .inl (fun j => nI (cnt j)))), (aC, .inl (kC, 52035, .inl cel)), (aT, .inr (2, [.ref aB, .int (nI u), .int (nI en), .int (nI h_38), .int na, .int w, .int wa])), (aB, .inl (kB, 65536, .inl B))] H := hP
                  have hD : va_D A [(aR, .inr (0, [.ref aT, .ref aS])), (aS, .inr (1, [.ref aN, .ref aC])), (aN, .inl (kN, 5, .inl (fun j => nI (cnt j)))), (aC, .inl (kC, 52035, .inl cel)), (aT, .inr (2, [.ref aB, .int (nI u), .int (nI en), .int (nI h_38), .int na, .int w, .int wa])), (aB, .inl (kB, 65536, .inl B))] := hD
                  have hw_39i := zMust_in hw_39
                  refine lv_iload hx hb d_Rd_takeList_218 (lv_at hl 2 rfl) ?_
                  refine zt_size (fun hzs => ?_)
                  have hP9 := hP.sub (ws' := [(aR, .inr (0, [.ref aT, .ref aS])), (aT, .inr (2, [.ref aB, .int (nI u), .int (nI en), .int (nI h_38), .int na, .int w, .int wa])), (aB, .inl (kB, 65536, .inl B)), (aS, .inr (1, [.ref aN, .ref aC])), (aN, .inl (kN, 5, .inl (fun j => nI (cnt j)))), (aC, .inl (kC, 52035, .inl cel))]) [0, 4, 5, 1, 2, 3] rfl
                  have hD9 := hD.sub (ws' := [(aR, .inr (0, [.ref aT, .ref aS])), (aT, .inr (2, [.ref aB, .int (nI u), .int (nI en), .int (nI h_38), .int na, .int w, .int wa])), (aB, .inl (kB, 65536, .inl B)), (aS, .inr (1, [.ref aN, .ref aC])), (aN, .inl (kN, 5, .inl (fun j => nI (cnt j)))), (aC, .inl (kC, 52035, .inl cel))]) [0, 4, 5, 1, 2, 3] (by decide) rfl
                  refine W.widen (k := 1) (n := 6) (by decide) (by decide) ?_
                  exact vx_ret (W.iret (v := 0) hx hb hr (fun t ht hW => ⟨⟨0, (h_38, na, cel, 0), rfl, ⟨rfl, by rw [tl_14]; unfold zTail; rw [if_neg (fun z => absurd z.1 (fun z => z.elim c_15 (fun z => c_35 (of_decide_eq_true z.1))))]; simp only [zB_ok, hw_39]⟩, by rw [ht]; exact hP9, hD9, by rw [ht]; exact hzs⟩, hS.F ht⟩) hS.2.2 d_Rd_takeList_220)
              ·
                exact absurd (by decide) c_36
            ·
              refine lv_iload hx hb d_Rd_takeList_163 (lv_at hl 1 rfl) ?_
              refine lv_iconst (v := 3) hx hb d_Rd_takeList_165 (by decide) ?_
              refine lv_irem hx hb d_Rd_takeList_166 (by decide) ?_
              refine zt_top (pk_rem (a := 0) (d := 3) (by omega) (by decide) (by decide)) ?_
              refine lv_if_eq (tgt := 174) hx hb d_Rd_takeList_167 (by decide) (fun c_45 => ?_) (fun c_45 => ?_)
              ·
                have c_45 : (0 % 3) = 0 := (@nI_eq (0 % 3) 0 (by omega) (by omega)).mp c_45
                refine lv_iconst (v := 0) hx hb d_Rd_takeList_174 (by decide) ?_
                refine lv_istore (lv' := [(10, .int 0), (9, .int 0), (8, .int 0), (7, .int low), (0, .ref aR), (1, .int fm), (2, .int (nI le)), (3, .int (nI mo)), (4, .int (nI ce)), (5, .int low), (6, .int hig)]) hx hb d_Rd_takeList_175 hl (by decide) rfl (fun ls hl => ?_)
                refine lv_iload hx hb d_Rd_takeList_177 (lv_at hl 0 rfl) ?_
                refine lv_if_eq (tgt := 209) hx hb d_Rd_takeList_179 (by decide) (fun c_46 => ?_) (fun c_46 => ?_)
                ·
                  refine lv_aload_n hx hb d_Rd_takeList_209 rfl (lv_at hl 4 rfl) ?_
                  refine va_get (D := (dC, dI)) (ci := 0) (v := .ref aT) (C := R_Rd) (T := F_Rd) (N := 2) hx hb hz i_Rd hown hK hP 0 rfl rfl 0 (by decide) (hz _ tw_84) (fun _ h9 => h9) rfl d_Rd_takeList_210 ?_
                  refine lv_bipush (v := 93) hx hb d_Rd_takeList_213 (by decide) ?_
                  have hPc := hP.sub (ws' := [(aT, .inr (2, [.ref aB, .int (nI u), .int (nI en), .int (nI h_2), .int na, .int w, .int wa])), (aB, .inl (kB, 65536, .inl B))]) [4, 5] rfl
                  have hDc := hD.sub (ws' := [(aT, .inr (2, [.ref aB, .int (nI u), .int (nI en), .int (nI h_2), .int na, .int w, .int wa])), (aB, .inl (kB, 65536, .inl B))]) [4, 5] (by decide) rfl
                  have hKc := hK.sub (tys' := [(kB, .byte)]) [0] rfl
                  have hFc := va_free (wc := [(aT, .inr (2, [.ref aB, .int (nI u), .int (nI en), .int (nI h_2), .int na, .int w, .int wa])), (aB, .inl (kB, 65536, .inl B))]) hD hS hA [4, 5] rfl
                  refine zt_size (fun hzs => ?_)
                  refine vx_callv (vx_runV (As := [.int 93]) (rest := []) ⟨hx, hb, hml, hown, hts⟩ (c_Tp_mustTake l hst G dC dI H.size aT aB u en h_2 na w wa kB B 93 (by omega) (by omega)) (cwV 1 hts (gV tw_214 tw_215 tw_216 tw_3 tw_217 rfl) rfl rfl rfl (by decide +kernel) ⟨Nat.le_of_ble_eq_true rfl, Nat.le_of_ble_eq_true rfl⟩) (PW_preV hPc hKc hDc hE hS hFc (ci := 2) (q0 := 0) rfl rfl) rfl rfl hl.1 rfl (lv_room (Nat.le_of_ble_eq_true rfl)) d_Rd_takeList_215 ⟨Nat.le_of_ble_eq_true rfl, Nat.le_of_ble_eq_true rfl⟩) hS (fun q _ h => hFc q h) hFc (fun q _ h => hFc q h) (fun E9 ce9 q9 uu t H1 locs ht hvm hx_54 hB hz1 hk1 hS hce hcv hcl => ?_) (fun uu t H1 locs ht hvm hw_49 hB hz1 hk1 hS => ?_)
                  ·
                    obtain ⟨w_50, k_51, h_52, na_53⟩ := uu
                    obtain ⟨hEn, hP1, hD1⟩ := hB
                    rw [ht] at hP1
                    obtain ⟨hP, hD⟩ := va_join (wr := [(aR, .inr (0, [.ref aT, .ref aS])), (aS, .inr (1, [.ref aN, .ref aC])), (aN, .inl (kN, 5, .inl (fun j => nI (cnt j)))), (aC, .inl (kC, 52035, .inl cel))]) (w1 := [(aT, .inr (2, [.ref aB, .int (nI u), .int (nI en), .int (nI h_52), .int na_53, .int w_50, .int (nI k_51)])), (aB, .inl (kB, 65536, .inl B))]) hP hD [4, 5] [0, 1, 2, 3] rfl rfl (by decide) (by decide) hk1 hFc hP1 hD1
                    generalize H1 = H at hP hS hce ⊢
                    have hP : va_P (dC, dI) vwCl [(aR, .inr (0, [.ref aT, .ref aS])), (aS, .inr (1, [.ref aN, .ref aC])), (aN, .inl (kN, 5, .inl (fun j => nI (cnt j)))), (aC, .inl (kC, 52035, .inl cel)), (aT, .inr (2, [.ref aB, .int (nI u), .int (nI en), .int (nI h_52), .int na_53, .int w_50, .int (nI k_51)])), (aB, .inl (kB, 65536, .inl B))] H := hP
                    have hD : va_D A [(aR, .inr (0, [.ref aT, .ref aS])), (aS, .inr (1, [.ref aN, .ref aC])), (aN, .inl (kN, 5, .inl (fun j => nI (cnt j)))), (aC, .inl (kC, 52035, .inl cel)), (aT, .inr (2, [.ref aB, .int (nI u), .int (nI en), .int (nI h_52), .int na_53, .int w_50, .int (nI k_51)])), (aB, .inl (kB, 65536, .inl B))] := hD
                    have hP9 := hP.sub (ws' := [(aR, .inr (0, [.ref aT, .ref aS])), (aT, .inr (2, [.ref aB, .int (nI u), .int (nI en), .int (nI h_52), .int na_53, .int w_50, .int (nI k_51)])), (aB, .inl (kB, 65536, .inl B)), (aS, .inr (1, [.ref aN, .ref aC])), (aN, .inl (kN, 5, .inl (fun j => nI (cnt j)))), (aC, .inl (kC, 52035, .inl cel))]) [0, 4, 5, 1, 2, 3] rfl
                    have hD9 := hD.sub (ws' := [(aR, .inr (0, [.ref aT, .ref aS])), (aT, .inr (2, [.ref aB, .int (nI u), .int (nI en), .int (nI h_52), .int na_53, .int w_50, .int (nI k_51)])), (aB, .inl (kB, 65536, .inl B)), (aS, .inr (1, [.ref aN, .ref aC])), (aN, .inl (kN, 5, .inl (fun j => nI (cnt j)))), (aC, .inl (kC, 52035, .inl cel))]) [0, 4, 5, 1, 2, 3] (by decide) rfl
                    exact vx_out (fun x hx => (htab x hx).elim) hlocks hce hcv hcl (fun t ht hvm => ⟨(w_50, k_51, h_52, na_53, cnt, cel), by rw [tl_14]; unfold zTail; rw [if_neg (fun z => absurd z.1 (fun z => z.elim c_15 (fun z => z.2 c_45)))]; simp only [zB_er, hx_54], ⟨hEn, by rw [ht]; exact hP9, hD9⟩, hS.F ht⟩) hS.2.2 (by decide) (by decide)
                  ·
                    obtain ⟨h_48, rfl⟩ : ∃ z, z = uu := ⟨_, rfl⟩
                    obtain ⟨hP1, hD1, hsz1⟩ := hB
                    rw [ht] at hP1 hsz1
                    obtain ⟨hP, hD⟩ := va_join (wr := [(aR, .inr (0, [.ref aT, .ref aS])), (aS, .inr (1, [.ref aN, .ref aC])), (aN, .inl (kN, 5, .inl (fun j => nI (cnt j)))), (aC, .inl (kC, 52035, .inl cel))]) (w1 := [(aT, .inr (2, [.ref aB, .int (nI u), .int (nI en), .int (nI h_48), .int na, .int w, .int wa])), (aB, .inl (kB, 65536, .inl B))]) hP hD [4, 5] [0, 1, 2, 3] rfl rfl (by decide) (by decide) hk1 hFc hP1 hD1
                    refine zt_tight (hsz1.trans hzs) ?_
                    generalize H1 = H at hP hS ⊢
                    have hP : va_P (dC, dI) vwCl [(aR, .inr (0, [.ref aT, .ref aS])), (aS, .inr (1, [.ref aN, .ref aC])), (aN, .inl (kN, 5, .inl (fun j => nI (cnt j)))), (aC, .inl (kC, 52035, .inl cel)), (aT, .inr (2, [.ref aB, .int (nI u), .int (nI en), .int (nI h_48), .int na, .int w, .int wa])), (aB, .inl (kB, 65536, .inl B))] H := hP
                    have hD : va_D A [(aR, .inr (0, [.ref aT, .ref aS])), (aS, .inr (1, [.ref aN, .ref aC])), (aN, .inl (kN, 5, .inl (fun j => nI (cnt j)))), (aC, .inl (kC, 52035, .inl cel)), (aT, .inr (2, [.ref aB, .int (nI u), .int (nI en), .int (nI h_48), .int na, .int w, .int wa])), (aB, .inl (kB, 65536, .inl B))] := hD
                    have hw_49i := zMust_in hw_49
                    refine lv_iload hx hb d_Rd_takeList_218 (lv_at hl 2 rfl) ?_
                    refine zt_size (fun hzs => ?_)
                    have hP9 := hP.sub (ws' := [(aR, .inr (0, [.ref aT, .ref aS])), (aT, .inr (2, [.ref aB, .int (nI u), .int (nI en), .int (nI h_48), .int na, .int w, .int wa])), (aB, .inl (kB, 65536, .inl B)), (aS, .inr (1, [.ref aN, .ref aC])), (aN, .inl (kN, 5, .inl (fun j => nI (cnt j)))), (aC, .inl (kC, 52035, .inl cel))]) [0, 4, 5, 1, 2, 3] rfl
                    have hD9 := hD.sub (ws' := [(aR, .inr (0, [.ref aT, .ref aS])), (aT, .inr (2, [.ref aB, .int (nI u), .int (nI en), .int (nI h_48), .int na, .int w, .int wa])), (aB, .inl (kB, 65536, .inl B)), (aS, .inr (1, [.ref aN, .ref aC])), (aN, .inl (kN, 5, .inl (fun j => nI (cnt j)))), (aC, .inl (kC, 52035, .inl cel))]) [0, 4, 5, 1, 2, 3] (by decide) rfl
                    refine W.widen (k := 1) (n := 6) (by decide) (by decide) ?_
                    exact vx_ret (W.iret (v := 0) hx hb hr (fun t ht hW => ⟨⟨0, (h_48, na, cel, 0), rfl, ⟨rfl, by rw [tl_14]; unfold zTail; rw [if_neg (fun z => absurd z.1 (fun z => z.elim c_15 (fun z => z.2 c_45)))]; simp only [zB_ok, hw_49]⟩, by rw [ht]; exact hP9, hD9, by rw [ht]; exact hzs⟩, hS.F ht⟩) hS.2.2 d_Rd_takeList_220)
                ·
                  exact absurd (by decide) c_46
              ·
                have c_45 : ¬ ((0 % 3) = 0) := fun z => c_45 ((@nI_eq (0 % 3) 0 (by omega) (by omega)).mpr z)
                refine lv_iconst (v := 1) hx hb d_Rd_takeList_170 (by decide) ?_
                refine lv_goto (tgt := 175) hx hb d_Rd_takeList_171 (by decide) ?_
                refine lv_istore (lv' := [(10, .int 1), (9, .int 0), (8, .int 0), (7, .int low), (0, .ref aR), (1, .int fm), (2, .int (nI le)), (3, .int (nI mo)), (4, .int (nI ce)), (5, .int low), (6, .int hig)]) hx hb d_Rd_takeList_175 hl (by decide) rfl (fun ls hl => ?_)
                refine lv_iload hx hb d_Rd_takeList_177 (lv_at hl 0 rfl) ?_
                refine lv_if_eq (tgt := 209) hx hb d_Rd_takeList_179 (by decide) (fun c_55 => ?_) (fun c_55 => ?_)
                ·
                  exact absurd c_55 (by decide)
                ·
                  refine lv_aload_n hx hb d_Rd_takeList_182 rfl (lv_at hl 4 rfl) ?_
                  refine va_get (D := (dC, dI)) (ci := 0) (v := .ref aT) (C := R_Rd) (T := F_Rd) (N := 2) hx hb hz i_Rd hown hK hP 0 rfl rfl 0 (by decide) (hz _ tw_84) (fun _ h9 => h9) rfl d_Rd_takeList_183 ?_
                  refine lv_bipush (v := 93) hx hb d_Rd_takeList_186 (by decide) ?_
                  have hPc := hP.sub (ws' := [(aT, .inr (2, [.ref aB, .int (nI u), .int (nI en), .int (nI h_2), .int na, .int w, .int wa])), (aB, .inl (kB, 65536, .inl B))]) [4, 5] rfl
                  have hDc := hD.sub (ws' := [(aT, .inr (2, [.ref aB, .int (nI u), .int (nI en), .int (nI h_2), .int na, .int w, .int wa])), (aB, .inl (kB, 65536, .inl B))]) [4, 5] (by decide) rfl
                  have hKc := hK.sub (tys' := [(kB, .byte)]) [0] rfl
                  have hFc := va_free (wc := [(aT, .inr (2, [.ref aB, .int (nI u), .int (nI en), .int (nI h_2), .int na, .int w, .int wa])), (aB, .inl (kB, 65536, .inl B))]) hD hS hA [4, 5] rfl
                  refine va_calli (va_runV (As := [.int 93]) (rest := []) ⟨hx, hb, hml, hown, hts⟩ (c_Tp_sees l G dC dI H.size aT aB u en h_2 na w wa kB B 93 (by omega) (by omega)) (cwV 1 hts (gV tw_291 tw_219 tw_220 tw_3 tw_221 rfl) rfl rfl rfl (by decide +kernel) ⟨Nat.le_of_ble_eq_true rfl, Nat.le_of_ble_eq_true rfl⟩) (PW_preV hPc hKc hDc hE hS hFc (ci := 2) (q0 := 0) rfl rfl) rfl rfl hl.1 rfl (lv_room (Nat.le_of_ble_eq_true rfl)) d_Rd_takeList_188 ⟨Nat.le_of_ble_eq_true rfl, Nat.le_of_ble_eq_true rfl⟩) hS (fun q _ h => hFc q h) hFc (fun r_56 uu t H1 locs ht hvm hw_57 hB hz1 hk1 hS => ?_)
                  obtain ⟨hP1, hD1, hsz1⟩ := hB
                  rw [ht] at hP1 hsz1
                  obtain ⟨hP, hD⟩ := va_join (wr := [(aR, .inr (0, [.ref aT, .ref aS])), (aS, .inr (1, [.ref aN, .ref aC])), (aN, .inl (kN, 5, .inl (fun j => nI (cnt j)))), (aC, .inl (kC, 52035, .inl cel))]) (w1 := [(aT, .inr (2, [.ref aB, .int (nI u), .int (nI en), .int (nI h_2), .int na, .int w, .int wa])), (aB, .inl (kB, 65536, .inl B))]) hP hD [4, 5] [0, 1, 2, 3] rfl rfl (by decide) (by decide) hk1 hFc hP1 hD1
                  generalize H1 = H at hP hS ⊢
                  have hP : va_P (dC, dI) vwCl [(aR, .inr (0, [.ref aT, .ref aS])), (aS, .inr (1, [.ref aN, .ref aC])), (aN, .inl (kN, 5, .inl (fun j => nI (cnt j)))), (aC, .inl (kC, 52035, .inl cel)), (aT, .inr (2, [.ref aB, .int (nI u), .int (nI en), .int (nI h_2), .int na, .int w, .int wa])), (aB, .inl (kB, 65536, .inl B))] H := hP
                  have hD : va_D A [(aR, .inr (0, [.ref aT, .ref aS])), (aS, .inr (1, [.ref aN, .ref aC])), (aN, .inl (kN, 5, .inl (fun j => nI (cnt j)))), (aC, .inl (kC, 52035, .inl cel)), (aT, .inr (2, [.ref aB, .int (nI u), .int (nI en), .int (nI h_2), .int na, .int w, .int wa])), (aB, .inl (kB, 65536, .inl B))] := hD
                  by_cases hs_58 : h_2 < en ∧ B h_2 = 93
                  ·
                    rw [if_pos hs_58] at hw_57; subst hw_57
                    refine lv_if_eq (tgt := 209) hx hb d_Rd_takeList_191 (by decide) (fun c_59 => ?_) (fun c_59 => ?_)
                    ·
                      exact absurd c_59 (by decide)
                    ·
                      refine lv_aload_n hx hb d_Rd_takeList_194 rfl (lv_at hl 4 rfl) ?_
                      refine va_get (D := (dC, dI)) (ci := 0) (v := .ref aT) (C := R_Rd) (T := F_Rd) (N := 2) hx hb hz i_Rd hown hK hP 0 rfl rfl 0 (by decide) (hz _ tw_84) (fun _ h9 => h9) rfl d_Rd_takeList_195 ?_
                      refine lv_iconst (v := 3) hx hb d_Rd_takeList_198 (by decide) ?_
                      refine lv_aload_n hx hb d_Rd_takeList_199 rfl (lv_at hl 4 rfl) ?_
                      refine va_get (D := (dC, dI)) (ci := 0) (v := .ref aT) (C := R_Rd) (T := F_Rd) (N := 2) hx hb hz i_Rd hown hK hP 0 rfl rfl 0 (by decide) (hz _ tw_84) (fun _ h9 => h9) rfl d_Rd_takeList_200 ?_
                      refine va_getN (D := (dC, dI)) (ci := 2) (v := .int (nI h_2)) (C := R_Tp) (T := F_Tp) (N := 7) hx hb hz i_Tp hown hK hP 4 rfl rfl 3 (by decide) (va_Nw.use rfl (hE.1 _ (List.mem_of_getElem? (i := 3) rfl))) (fun _ h9 => h9) rfl d_Rd_takeList_203 ?_
                      have hPc := hP.sub (ws' := [(aT, .inr (2, [.ref aB, .int (nI u), .int (nI en), .int (nI h_2), .int na, .int w, .int wa])), (aB, .inl (kB, 65536, .inl B))]) [4, 5] rfl
                      have hDc := hD.sub (ws' := [(aT, .inr (2, [.ref aB, .int (nI u), .int (nI en), .int (nI h_2), .int na, .int w, .int wa])), (aB, .inl (kB, 65536, .inl B))]) [4, 5] (by decide) rfl
                      have hKc := hK.sub (tys' := [(kB, .byte)]) [0] rfl
                      have hFc := va_free (wc := [(aT, .inr (2, [.ref aB, .int (nI u), .int (nI en), .int (nI h_2), .int na, .int w, .int wa])), (aB, .inl (kB, 65536, .inl B))]) hD hS hA [4, 5] rfl
                      refine zt_size (fun hzs => ?_)
                      refine vx_callv (vx_runV (As := [.int 3, .int (nI h_2)]) (rest := []) ⟨hx, hb, hml, hown, hts⟩ (c_Tp_refuse l hst G dC dI H.size aT aB u en h_2 na w wa kB B 3 (nI h_2)) (cwV 2 hts (gV tw_363 tw_223 tw_224 tw_3 tw_225 rfl) rfl rfl rfl (by decide +kernel) ⟨Nat.le_of_ble_eq_true rfl, Nat.le_of_ble_eq_true rfl⟩) (PW_preV hPc hKc hDc hE hS hFc (ci := 2) (q0 := 0) rfl rfl) rfl rfl hl.1 rfl (lv_room (Nat.le_of_ble_eq_true rfl)) d_Rd_takeList_206 ⟨Nat.le_of_ble_eq_true rfl, Nat.le_of_ble_eq_true rfl⟩) hS (fun q _ h => hFc q h) hFc (fun q _ h => hFc q h) (fun E9 ce9 q9 uu t H1 locs ht hvm hx_64 hB hz1 hk1 hS hce hcv hcl => ?_) (fun uu t H1 locs ht hvm hw_61 hB hz1 hk1 hS => ?_)
                      ·
                        obtain ⟨w_62, wa_63⟩ := uu
                        obtain ⟨hEn, hP1, hD1⟩ := hB
                        rw [ht] at hP1
                        obtain ⟨hP, hD⟩ := va_join (wr := [(aR, .inr (0, [.ref aT, .ref aS])), (aS, .inr (1, [.ref aN, .ref aC])), (aN, .inl (kN, 5, .inl (fun j => nI (cnt j)))), (aC, .inl (kC, 52035, .inl cel))]) (w1 := [(aT, .inr (2, [.ref aB, .int (nI u), .int (nI en), .int (nI h_2), .int na, .int w_62, .int wa_63])), (aB, .inl (kB, 65536, .inl B))]) hP hD [4, 5] [0, 1, 2, 3] rfl rfl (by decide) (by decide) hk1 hFc hP1 hD1
                        generalize H1 = H at hP hS hce ⊢
                        have hP : va_P (dC, dI) vwCl [(aR, .inr (0, [.ref aT, .ref aS])), (aS, .inr (1, [.ref aN, .ref aC])), (aN, .inl (kN, 5, .inl (fun j => nI (cnt j)))), (aC, .inl (kC, 52035, .inl cel)), (aT, .inr (2, [.ref aB, .int (nI u), .int (nI en), .int (nI h_2), .int na, .int w_62, .int wa_63])), (aB, .inl (kB, 65536, .inl B))] H := hP
                        have hD : va_D A [(aR, .inr (0, [.ref aT, .ref aS])), (aS, .inr (1, [.ref aN, .ref aC])), (aN, .inl (kN, 5, .inl (fun j => nI (cnt j)))), (aC, .inl (kC, 52035, .inl cel)), (aT, .inr (2, [.ref aB, .int (nI u), .int (nI en), .int (nI h_2), .int na, .int w_62, .int wa_63])), (aB, .inl (kB, 65536, .inl B))] := hD
                        obtain ⟨rfl, rfl⟩ := hx_64
                        have hP9 := hP.sub (ws' := [(aR, .inr (0, [.ref aT, .ref aS])), (aT, .inr (2, [.ref aB, .int (nI u), .int (nI en), .int (nI h_2), .int na, .int 3, .int (nI h_2)])), (aB, .inl (kB, 65536, .inl B)), (aS, .inr (1, [.ref aN, .ref aC])), (aN, .inl (kN, 5, .inl (fun j => nI (cnt j)))), (aC, .inl (kC, 52035, .inl cel))]) [0, 4, 5, 1, 2, 3] rfl
                        have hD9 := hD.sub (ws' := [(aR, .inr (0, [.ref aT, .ref aS])), (aT, .inr (2, [.ref aB, .int (nI u), .int (nI en), .int (nI h_2), .int na, .int 3, .int (nI h_2)])), (aB, .inl (kB, 65536, .inl B)), (aS, .inr (1, [.ref aN, .ref aC])), (aN, .inl (kN, 5, .inl (fun j => nI (cnt j)))), (aC, .inl (kC, 52035, .inl cel))]) [0, 4, 5, 1, 2, 3] (by decide) rfl
                        exact vx_out (fun x hx => (htab x hx).elim) hlocks hce hcv hcl (fun t ht hvm => ⟨(3, h_2, h_2, na, cnt, cel), by rw [tl_14]; unfold zTail; rw [if_pos ⟨Or.inr ⟨decide_eq_true c_35, c_45⟩, hs_58⟩], ⟨hEn, by rw [ht]; exact hP9, hD9⟩, hS.F ht⟩) hS.2.2 (by decide) (by decide)
                      · exact (hw_61 : False).elim
                  ·
                    rw [if_neg hs_58] at hw_57; subst hw_57
                    refine lv_if_eq (tgt := 209) hx hb d_Rd_takeList_191 (by decide) (fun c_65 => ?_) (fun c_65 => ?_)
                    ·
                      refine lv_aload_n hx hb d_Rd_takeList_209 rfl (lv_at hl 4 rfl) ?_
                      refine va_get (D := (dC, dI)) (ci := 0) (v := .ref aT) (C := R_Rd) (T := F_Rd) (N := 2) hx hb hz i_Rd hown hK hP 0 rfl rfl 0 (by decide) (hz _ tw_84) (fun _ h9 => h9) rfl d_Rd_takeList_210 ?_
                      refine lv_bipush (v := 93) hx hb d_Rd_takeList_213 (by decide) ?_
                      have hPc := hP.sub (ws' := [(aT, .inr (2, [.ref aB, .int (nI u), .int (nI en), .int (nI h_2), .int na, .int w, .int wa])), (aB, .inl (kB, 65536, .inl B))]) [4, 5] rfl
                      have hDc := hD.sub (ws' := [(aT, .inr (2, [.ref aB, .int (nI u), .int (nI en), .int (nI h_2), .int na, .int w, .int wa])), (aB, .inl (kB, 65536, .inl B))]) [4, 5] (by decide) rfl
                      have hKc := hK.sub (tys' := [(kB, .byte)]) [0] rfl
                      have hFc := va_free (wc := [(aT, .inr (2, [.ref aB, .int (nI u), .int (nI en), .int (nI h_2), .int na, .int w, .int wa])), (aB, .inl (kB, 65536, .inl B))]) hD hS hA [4, 5] rfl
                      refine zt_size (fun hzs => ?_)
                      refine vx_callv (vx_runV (As := [.int 93]) (rest := []) ⟨hx, hb, hml, hown, hts⟩ (c_Tp_mustTake l hst G dC dI H.size aT aB u en h_2 na w wa kB B 93 (by omega) (by omega)) (cwV 1 hts (gV tw_214 tw_215 tw_216 tw_3 tw_217 rfl) rfl rfl rfl (by decide +kernel) ⟨Nat.le_of_ble_eq_true rfl, Nat.le_of_ble_eq_true rfl⟩) (PW_preV hPc hKc hDc hE hS hFc (ci := 2) (q0 := 0) rfl rfl) rfl rfl hl.1 rfl (lv_room (Nat.le_of_ble_eq_true rfl)) d_Rd_takeList_215 ⟨Nat.le_of_ble_eq_true rfl, Nat.le_of_ble_eq_true rfl⟩) hS (fun q _ h => hFc q h) hFc (fun q _ h => hFc q h) (fun E9 ce9 q9 uu t H1 locs ht hvm hx_73 hB hz1 hk1 hS hce hcv hcl => ?_) (fun uu t H1 locs ht hvm hw_68 hB hz1 hk1 hS => ?_)
                      ·
                        obtain ⟨w_69, k_70, h_71, na_72⟩ := uu
                        obtain ⟨hEn, hP1, hD1⟩ := hB
                        rw [ht] at hP1
                        obtain ⟨hP, hD⟩ := va_join (wr := [(aR, .inr (0, [.ref aT, .ref aS])), (aS, .inr (1, [.ref aN, .ref aC])), (aN, .inl (kN, 5, .inl (fun j => nI (cnt j)))), (aC, .inl (kC, 52035, .inl cel))]) (w1 := [(aT, .inr (2, [.ref aB, .int (nI u), .int (nI en), .int (nI h_71), .int na_72, .int w_69, .int (nI k_70)])), (aB, .inl (kB, 65536, .inl B))]) hP hD [4, 5] [0, 1, 2, 3] rfl rfl (by decide) (by decide) hk1 hFc hP1 hD1
                        generalize H1 = H at hP hS hce ⊢
                        have hP : va_P (dC, dI) vwCl [(aR, .inr (0, [.ref aT, .ref aS])), (aS, .inr (1, [.ref aN, .ref aC])), (aN, .inl (kN, 5, .inl (fun j => nI (cnt j)))), (aC, .inl (kC, 52035, .inl cel)), (aT, .inr (2, [.ref aB, .int (nI u), .int (nI en), .int (nI h_71), .int na_72, .int w_69, .int (nI k_70)])), (aB, .inl (kB, 65536, .inl B))] H := hP
                        have hD : va_D A [(aR, .inr (0, [.ref aT, .ref aS])), (aS, .inr (1, [.ref aN, .ref aC])), (aN, .inl (kN, 5, .inl (fun j => nI (cnt j)))), (aC, .inl (kC, 52035, .inl cel)), (aT, .inr (2, [.ref aB, .int (nI u), .int (nI en), .int (nI h_71), .int na_72, .int w_69, .int (nI k_70)])), (aB, .inl (kB, 65536, .inl B))] := hD
                        have hP9 := hP.sub (ws' := [(aR, .inr (0, [.ref aT, .ref aS])), (aT, .inr (2, [.ref aB, .int (nI u), .int (nI en), .int (nI h_71), .int na_72, .int w_69, .int (nI k_70)])), (aB, .inl (kB, 65536, .inl B)), (aS, .inr (1, [.ref aN, .ref aC])), (aN, .inl (kN, 5, .inl (fun j => nI (cnt j)))), (aC, .inl (kC, 52035, .inl cel))]) [0, 4, 5, 1, 2, 3] rfl
                        have hD9 := hD.sub (ws' := [(aR, .inr (0, [.ref aT, .ref aS])), (aT, .inr (2, [.ref aB, .int (nI u), .int (nI en), .int (nI h_71), .int na_72, .int w_69, .int (nI k_70)])), (aB, .inl (kB, 65536, .inl B)), (aS, .inr (1, [.ref aN, .ref aC])), (aN, .inl (kN, 5, .inl (fun j => nI (cnt j)))), (aC, .inl (kC, 52035, .inl cel))]) [0, 4, 5, 1, 2, 3] (by decide) rfl
                        exact vx_out (fun x hx => (htab x hx).elim) hlocks hce hcv hcl (fun t ht hvm => ⟨(w_69, k_70, h_71, na_72, cnt, cel), by rw [tl_14]; unfold zTail; rw [if_neg (fun z => hs_58 z.2)]; simp only [zB_er, hx_73], ⟨hEn, by rw [ht]; exact hP9, hD9⟩, hS.F ht⟩) hS.2.2 (by decide) (by decide)
                      ·
                        obtain ⟨h_67, rfl⟩ : ∃ z, z = uu := ⟨_, rfl⟩
                        obtain ⟨hP1, hD1, hsz1⟩ := hB
                        rw [ht] at hP1 hsz1
                        obtain ⟨hP, hD⟩ := va_join (wr := [(aR, .inr (0, [.ref aT, .ref aS])), (aS, .inr (1, [.ref aN, .ref aC])), (aN, .inl (kN, 5, .inl (fun j => nI (cnt j)))), (aC, .inl (kC, 52035, .inl cel))]) (w1 := [(aT, .inr (2, [.ref aB, .int (nI u), .int (nI en), .int (nI h_67), .int na, .int w, .int wa])), (aB, .inl (kB, 65536, .inl B))]) hP hD [4, 5] [0, 1, 2, 3] rfl rfl (by decide) (by decide) hk1 hFc hP1 hD1
                        refine zt_tight (hsz1.trans hzs) ?_
                        generalize H1 = H at hP hS ⊢
                        have hP : va_P (dC, dI) vwCl [(aR, .inr (0, [.ref aT, .ref aS])), (aS, .inr (1, [.ref aN, .ref aC])), (aN, .inl (kN, 5, .inl (fun j => nI (cnt j)))), (aC, .inl (kC, 52035, .inl cel)), (aT, .inr (2, [.ref aB, .int (nI u), .int (nI en), .int (nI h_67), .int na, .int w, .int wa])), (aB, .inl (kB, 65536, .inl B))] H := hP
                        have hD : va_D A [(aR, .inr (0, [.ref aT, .ref aS])), (aS, .inr (1, [.ref aN, .ref aC])), (aN, .inl (kN, 5, .inl (fun j => nI (cnt j)))), (aC, .inl (kC, 52035, .inl cel)), (aT, .inr (2, [.ref aB, .int (nI u), .int (nI en), .int (nI h_67), .int na, .int w, .int wa])), (aB, .inl (kB, 65536, .inl B))] := hD
                        have hw_68i := zMust_in hw_68
                        refine lv_iload hx hb d_Rd_takeList_218 (lv_at hl 2 rfl) ?_
                        refine zt_size (fun hzs => ?_)
                        have hP9 := hP.sub (ws' := [(aR, .inr (0, [.ref aT, .ref aS])), (aT, .inr (2, [.ref aB, .int (nI u), .int (nI en), .int (nI h_67), .int na, .int w, .int wa])), (aB, .inl (kB, 65536, .inl B)), (aS, .inr (1, [.ref aN, .ref aC])), (aN, .inl (kN, 5, .inl (fun j => nI (cnt j)))), (aC, .inl (kC, 52035, .inl cel))]) [0, 4, 5, 1, 2, 3] rfl
                        have hD9 := hD.sub (ws' := [(aR, .inr (0, [.ref aT, .ref aS])), (aT, .inr (2, [.ref aB, .int (nI u), .int (nI en), .int (nI h_67), .int na, .int w, .int wa])), (aB, .inl (kB, 65536, .inl B)), (aS, .inr (1, [.ref aN, .ref aC])), (aN, .inl (kN, 5, .inl (fun j => nI (cnt j)))), (aC, .inl (kC, 52035, .inl cel))]) [0, 4, 5, 1, 2, 3] (by decide) rfl
                        refine W.widen (k := 1) (n := 6) (by decide) (by decide) ?_
                        exact vx_ret (W.iret (v := 0) hx hb hr (fun t ht hW => ⟨⟨0, (h_67, na, cel, 0), rfl, ⟨rfl, by rw [tl_14]; unfold zTail; rw [if_neg (fun z => hs_58 z.2)]; simp only [zB_ok, hw_68]⟩, by rw [ht]; exact hP9, hD9, by rw [ht]; exact hzs⟩, hS.F ht⟩) hS.2.2 d_Rd_takeList_220)
                    ·
                      exact absurd (by decide) c_65
        ·
          exact absurd (by decide) c_13
      ·
        exact absurd c_12 (by decide)
    ·
      rw [if_neg hs_11] at hw_10; subst hw_10
      refine lv_if_ne (tgt := 32) hx hb d_Rd_takeList_25 (by decide) (fun c_74 => ?_) (fun c_74 => ?_)
      ·
        exact absurd (by decide) c_74
      ·
        refine lv_iconst (v := 1) hx hb d_Rd_takeList_28 (by decide) ?_
        refine lv_goto (tgt := 33) hx hb d_Rd_takeList_29 (by decide) ?_
        refine lv_istore (lv' := [(9, .int 1), (8, .int 0), (7, .int low), (0, .ref aR), (1, .int fm), (2, .int (nI le)), (3, .int (nI mo)), (4, .int (nI ce)), (5, .int low), (6, .int hig)]) hx hb d_Rd_takeList_33 hl (by decide) rfl (fun ls hl => ?_)
        refine lv_iload hx hb d_Rd_takeList_35 (lv_at hl 0 rfl) ?_
        refine lv_if_eq (tgt := 152) hx hb d_Rd_takeList_37 (by decide) (fun c_75 => ?_) (fun c_75 => ?_)
        ·
          exact absurd c_75 (by decide)
        ·
          refine lv_iload hx hb d_Rd_takeList_40 (lv_at hl 1 rfl) ?_
          refine lv_iload_n hx hb d_Rd_takeList_42 rfl (lv_at hl 6 rfl) ?_
          refine lv_icmp_gt (tgt := 152) hx hb d_Rd_takeList_43 (by decide) (fun c_76 => ?_) (fun c_76 => ?_)
          ·
            exact absurd c_76 (nI_nlt (a := mo) (b := 0) (by omega) (by omega))
          ·
            exact lp_Rd_takeList l hst G dC dI aR aT aS aB u en h na w wa kB B aN aC kN cnt kC cel fm le mo ce low hig hen hh hle hmo hce ⟨hx, hb, hr, hml, hown, hts, hlocks⟩ hA hK hE htab (mo + 1) 0 low h_2 na cel (by omega) (by omega) (by omega) (by rw [zList_eq]; simp only [zB_ok, hw_3]; rw [if_neg hs_11]; rfl) _ _ (hP.sub [0, 4, 5, 1, 2, 3] rfl) (hD.sub [0, 4, 5, 1, 2, 3] (by decide) rfl) hS ls (lv_sub hl [3, 4, 5, 6, 7, 8, 9, 2, 1] rfl)
