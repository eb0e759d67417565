set_option maxHeartbeats 4000000 in
set_option maxRecDepth 100000 in
theorem lp_Rd_takeThings (l : Launch) (hst : l.stackTraces = false) (G : ZG) (dC : Nat → ClassId) (dI : Nat → Nat → Nat) (aR : Nat) (aT : Nat) (aS : Nat) (aB : Nat) (u : Nat) (en : Nat) (h : Nat) (na : Int32) (w : Int32) (wa : Int32) (kB : ClassId) (B : Nat → Int32) (aN : Nat) (aC : Nat) (kN : ClassId) (cnt : Nat → Nat) (kC : ClassId) (cel : Nat → Int32) (ka : Nat) (hen : en ≤ 65536) (hh : h ≤ en) (hka : ka < 5) (hc0 : cnt ka = 0) {p : Program} {e : Env} {s : State} {m : MethodId} {args : Array Value} {below : List Frame} {meth : Method} {c : Code} {A : Nat → Prop} (C0 : zC p s m args meth c prog_2_method_4_code 6 none R_Rd w_Rd_takeThings) (hA : ∀ q : Nat, s.heap.size ≤ q → A q) (hK : va_K (dC, dI) vwCl [(kB, .byte), (kN, .int), (kC, .int)] s) (hE : zE G A s s.heap) (htab : ∀ x ∈ c.exceptionTable.toList, False) : ∀ (n : Nat) (i : Nat) (h2 : Nat) (na2 : Int32) (cel2 : Nat → Int32), (i ≤ zM ka) → (zM ka + 1 ≤ i + n) → (h2 ≤ en) → (zThings B en ka cnt (h, cel) = zB (zThs B en ka cnt (zM ka + 1 - i) i (h2, cel2)) (zEnd B en)) → ∀ (H : Heap) (locs : List Loc), va_P (dC, dI) vwCl [(aR, .inr (0, [.ref aT, .ref aS])), (aT, .inr (2, [.ref aB, .int (nI u), .int (nI en), .int (nI h2), .int na2, .int w, .int wa])), (aB, .inl (kB, 65536, .inl B)), (aS, .inr (1, [.ref aN, .ref aC])), (aN, .inl (kN, 5, .inl (fun j => nI ((zuN cnt ka i) j)))), (aC, .inl (kC, 52035, .inl cel2))] H → va_D A [(aR, .inr (0, [.ref aT, .ref aS])), (aT, .inr (2, [.ref aB, .int (nI u), .int (nI en), .int (nI h2), .int na2, .int w, .int wa])), (aB, .inl (kB, 65536, .inl B)), (aS, .inr (1, [.ref aN, .ref aC])), (aN, .inl (kN, 5, .inl (fun j => nI ((zuN cnt ka i) j)))), (aC, .inl (kC, 52035, .inl cel2))] → va_S A s.heap H locs → ∀ (ls : Array Slot), lv_has ls 6 [(0, .ref aR), (1, .int (nI ka)), (2, .int (nI (zM ka))), (4, .int (nI i))] → W p l e ({ frames := 10, cells := 1, slots := 6, locals := 182 }) s m args below meth c H locs 0 0 (vx_MQ below (va_Qv (fun (uu : Nat × Int32 × (Nat → Nat) × (Nat → Int32) × Nat) => zThings B en ka cnt (h, cel) = .ok (uu.2.2.2.2, uu.1, uu.2.2.2.1) ∧ uu.2.2.1 = zuN cnt ka uu.2.2.2.2) (fun (uu : Nat × Int32 × (Nat → Nat) × (Nat → Int32) × Nat) t => BW (dC, dI) [(aR, .inr (0, [.ref aT, .ref aS])), (aT, .inr (2, [.ref aB, .int (nI u), .int (nI en), .int (nI uu.1), .int uu.2.1, .int w, .int wa])), (aB, .inl (kB, 65536, .inl B)), (aS, .inr (1, [.ref aN, .ref aC])), (aN, .inl (kN, 5, .inl (fun j => nI (uu.2.2.1 j)))), (aC, .inl (kC, 52035, .inl uu.2.2.2.1))] A s.heap.size t) A) (vx_X (fun (uu : Int32 × Nat × Nat × Int32 × (Nat → Nat) × (Nat → Int32)) => zThings B en ka cnt (h, cel) = .error (uu.1, uu.2.1)) (fun E (uu : Int32 × Nat × Nat × Int32 × (Nat → Nat) × (Nat → Int32)) t => E = "java/lang/IllegalArgumentException" ∧ va_P (dC, dI) vwCl [(aR, .inr (0, [.ref aT, .ref aS])), (aT, .inr (2, [.ref aB, .int (nI u), .int (nI en), .int (nI uu.2.2.1), .int uu.2.2.2.1, .int uu.1, .int (nI uu.2.1)])), (aB, .inl (kB, 65536, .inl B)), (aS, .inr (1, [.ref aN, .ref aC])), (aN, .inl (kN, 5, .inl (fun j => nI (uu.2.2.2.2.1 j)))), (aC, .inl (kC, 52035, .inl uu.2.2.2.2.2))] t.heap ∧ va_D A [(aR, .inr (0, [.ref aT, .ref aS])), (aT, .inr (2, [.ref aB, .int (nI u), .int (nI en), .int (nI uu.2.2.1), .int uu.2.2.2.1, .int uu.1, .int (nI uu.2.1)])), (aB, .inl (kB, 65536, .inl B)), (aS, .inr (1, [.ref aN, .ref aC])), (aN, .inl (kN, 5, .inl (fun j => nI (uu.2.2.2.2.1 j)))), (aC, .inl (kC, 52035, .inl uu.2.2.2.2.2))]) A) args s 1 6 A) (F0 m 45 ls []) := by
  obtain ⟨hx, hb, hr, hml, hown, hts, hlocks⟩ := C0
  have hz : ∀ w ∈ ZW, w.before _ s = true := fun w h => hts w (List.mem_cons_of_mem _ h)
  intro n
  induction n with
  | zero =>
    intro i h2 na2 cel2 hi hn hh2 hI H locs hP hD hS ls hl
    exact absurd hn (by omega)
  | succ n ih =>
    intro i h2 na2 cel2 hi hn hh2 hI H locs hP hD hS ls hl
    have hzM := zM_le ka
    refine lv_iload hx hb d_Rd_takeThings_45 (lv_at hl 3 rfl) ?_
    refine lv_iload_n hx hb d_Rd_takeThings_47 rfl (lv_at hl 2 rfl) ?_
    refine lv_icmp_ne (tgt := 82) hx hb d_Rd_takeThings_48 (by decide) (fun c_1 => ?_) (fun c_1 => ?_)
    ·
      have c_1 : ¬ (i = (zM ka)) := fun z => c_1 ((@nI_eq i (zM ka) (by omega) (by omega)).mpr z)
      refine lv_aload_n hx hb d_Rd_takeThings_82 rfl (lv_at hl 0 rfl) ?_
      refine va_get (D := (dC, dI)) (ci := 0) (v := .ref aS) (C := R_Rd) (T := F_Rd) (N := 2) hx hb hz i_Rd hown hK hP 0 rfl rfl 1 (by decide) (hz _ tw_86) (fun _ h9 => h9) rfl d_Rd_takeThings_83 ?_
      refine lv_iload_n hx hb d_Rd_takeThings_86 rfl (lv_at hl 1 rfl) ?_
      have hPc := hP.sub (ws' := [(aS, .inr (1, [.ref aN, .ref aC])), (aN, .inl (kN, 5, .inl (fun j => nI ((zuN cnt ka i) j)))), (aC, .inl (kC, 52035, .inl cel2))]) [3, 4, 5] rfl
      have hDc := hD.sub (ws' := [(aS, .inr (1, [.ref aN, .ref aC])), (aN, .inl (kN, 5, .inl (fun j => nI ((zuN cnt ka i) j)))), (aC, .inl (kC, 52035, .inl cel2))]) [3, 4, 5] (by decide) rfl
      have hKc := hK.sub (tys' := [(kN, .int), (kC, .int)]) [1, 2] rfl
      have hFc := va_free (wc := [(aS, .inr (1, [.ref aN, .ref aC])), (aN, .inl (kN, 5, .inl (fun j => nI ((zuN cnt ka i) j)))), (aC, .inl (kC, 52035, .inl cel2))]) hD hS hA [3, 4, 5] rfl
      refine va_calli (va_runV (As := [.int (nI ka)]) (rest := []) ⟨hx, hb, hml, hown, hts⟩ (c_Sc_add l G dC dI H.size aS aN aC kN (zuN cnt ka i) kC cel2 ka (by omega) (by rw [zuN_s]; omega)) (cwV 1 hts (gV tw_408 tw_409 tw_410 tw_4 tw_411 rfl) rfl rfl rfl (by decide +kernel) ⟨Nat.le_of_ble_eq_true rfl, Nat.le_of_ble_eq_true rfl⟩) (PW_preV hPc hKc hDc hE hS hFc (ci := 1) (q0 := 0) rfl rfl) rfl rfl hl.1 rfl (lv_room (Nat.le_of_ble_eq_true rfl)) d_Rd_takeThings_87 ⟨Nat.le_of_ble_eq_true rfl, Nat.le_of_ble_eq_true rfl⟩) hS (fun q _ h => hFc q h) hFc (fun r_2 uu t H1 locs ht hvm hw_4 hB hz1 hk1 hS => ?_)
      obtain ⟨cnt_3, rfl⟩ : ∃ z, z = uu := ⟨_, rfl⟩
      obtain ⟨hP1, hD1, hsz1⟩ := hB
      rw [ht] at hP1 hsz1
      obtain ⟨hP, hD⟩ := va_join (wr := [(aR, .inr (0, [.ref aT, .ref aS])), (aT, .inr (2, [.ref aB, .int (nI u), .int (nI en), .int (nI h2), .int na2, .int w, .int wa])), (aB, .inl (kB, 65536, .inl B))]) (w1 := [(aS, .inr (1, [.ref aN, .ref aC])), (aN, .inl (kN, 5, .inl (fun j => nI (cnt_3 j)))), (aC, .inl (kC, 52035, .inl cel2))]) hP hD [3, 4, 5] [0, 1, 2] rfl rfl (by decide) (by decide) hk1 hFc hP1 hD1
      generalize H1 = H at hP hS ⊢
      have hP : va_P (dC, dI) vwCl [(aR, .inr (0, [.ref aT, .ref aS])), (aT, .inr (2, [.ref aB, .int (nI u), .int (nI en), .int (nI h2), .int na2, .int w, .int wa])), (aB, .inl (kB, 65536, .inl B)), (aS, .inr (1, [.ref aN, .ref aC])), (aN, .inl (kN, 5, .inl (fun j => nI (cnt_3 j)))), (aC, .inl (kC, 52035, .inl cel2))] H := hP
      have hD : va_D A [(aR, .inr (0, [.ref aT, .ref aS])), (aT, .inr (2, [.ref aB, .int (nI u), .int (nI en), .int (nI h2), .int na2, .int w, .int wa])), (aB, .inl (kB, 65536, .inl B)), (aS, .inr (1, [.ref aN, .ref aC])), (aN, .inl (kN, 5, .inl (fun j => nI (cnt_3 j)))), (aC, .inl (kC, 52035, .inl cel2))] := hD
      rw [zuN_s, zuN_zuN] at hw_4
      obtain ⟨rfl, e4⟩ := hw_4
      have e4 := e4.symm; subst e4
      refine lv_istore (lv' := [(5, .int (nI (zST ka + i * zWD ka))), (0, .ref aR), (1, .int (nI ka)), (2, .int (nI (zM ka))), (4, .int (nI i))]) hx hb d_Rd_takeThings_90 hl (by decide) rfl (fun ls hl => ?_)
      refine lv_iload_n hx hb d_Rd_takeThings_92 rfl (lv_at hl 2 rfl) ?_
      refine lv_if_ne (tgt := 105) hx hb d_Rd_takeThings_93 (by decide) (fun c_5 => ?_) (fun c_5 => ?_)
      ·
        have c_5 : ¬ (ka = 0) := fun z => c_5 ((@nI_eq ka 0 (by omega) (by omega)).mpr z)
        refine lv_iload_n hx hb d_Rd_takeThings_105 rfl (lv_at hl 2 rfl) ?_
        refine lv_iconst (v := 1) hx hb d_Rd_takeThings_106 (by decide) ?_
        refine lv_icmp_ne (tgt := 119) hx hb d_Rd_takeThings_107 (by decide) (fun c_6 => ?_) (fun c_6 => ?_)
        ·
          have c_6 : ¬ (ka = 1) := fun z => c_6 ((@nI_eq ka 1 (by omega) (by omega)).mpr z)
          refine lv_iload_n hx hb d_Rd_takeThings_119 rfl (lv_at hl 2 rfl) ?_
          refine lv_iconst (v := 2) hx hb d_Rd_takeThings_120 (by decide) ?_
          refine lv_icmp_ne (tgt := 133) hx hb d_Rd_takeThings_121 (by decide) (fun c_7 => ?_) (fun c_7 => ?_)
          ·
            have c_7 : ¬ (ka = 2) := fun z => c_7 ((@nI_eq ka 2 (by omega) (by omega)).mpr z)
            refine lv_iload_n hx hb d_Rd_takeThings_133 rfl (lv_at hl 2 rfl) ?_
            refine lv_iconst (v := 3) hx hb d_Rd_takeThings_134 (by decide) ?_
            refine lv_icmp_ne (tgt := 147) hx hb d_Rd_takeThings_135 (by decide) (fun c_8 => ?_) (fun c_8 => ?_)
            ·
              have c_8 : ¬ (ka = 3) := fun z => c_8 ((@nI_eq ka 3 (by omega) (by omega)).mpr z)
              refine lv_aload_n hx hb d_Rd_takeThings_147 rfl (lv_at hl 1 rfl) ?_
              refine lv_iload hx hb d_Rd_takeThings_148 (lv_at hl 0 rfl) ?_
              have hPc := hP.sub (ws' := [(aR, .inr (0, [.ref aT, .ref aS])), (aT, .inr (2, [.ref aB, .int (nI u), .int (nI en), .int (nI h2), .int na2, .int w, .int wa])), (aB, .inl (kB, 65536, .inl B)), (aS, .inr (1, [.ref aN, .ref aC])), (aN, .inl (kN, 5, .inl (fun j => nI ((zuN cnt ka (i + 1)) j)))), (aC, .inl (kC, 52035, .inl cel2))]) [0, 1, 2, 3, 4, 5] rfl
              have hDc := hD.sub (ws' := [(aR, .inr (0, [.ref aT, .ref aS])), (aT, .inr (2, [.ref aB, .int (nI u), .int (nI en), .int (nI h2), .int na2, .int w, .int wa])), (aB, .inl (kB, 65536, .inl B)), (aS, .inr (1, [.ref aN, .ref aC])), (aN, .inl (kN, 5, .inl (fun j => nI ((zuN cnt ka (i + 1)) j)))), (aC, .inl (kC, 52035, .inl cel2))]) [0, 1, 2, 3, 4, 5] (by decide) rfl
              have hKc := hK.sub (tys' := [(kB, .byte), (kN, .int), (kC, .int)]) [0, 1, 2] rfl
              have hFc := va_free (wc := [(aR, .inr (0, [.ref aT, .ref aS])), (aT, .inr (2, [.ref aB, .int (nI u), .int (nI en), .int (nI h2), .int na2, .int w, .int wa])), (aB, .inl (kB, 65536, .inl B)), (aS, .inr (1, [.ref aN, .ref aC])), (aN, .inl (kN, 5, .inl (fun j => nI ((zuN cnt ka (i + 1)) j)))), (aC, .inl (kC, 52035, .inl cel2))]) hD hS hA [0, 1, 2, 3, 4, 5] rfl
              refine zt_size (fun hzs => ?_)
              refine vx_callv (vx_runV (As := [.int (nI (zST ka + i * zWD ka))]) (rest := []) ⟨hx, hb, hml, hown, hts⟩ (c_Rd_takeTrack l hst G dC dI H.size aR aT aS aB u en h2 na2 w wa kB B aN aC kN (zuN cnt ka (i + 1)) kC cel2 (zST ka + i * zWD ka) (by omega) (by omega) (by have q := zcell (ka := ka) (i := i) (by omega) (by omega); rw [show ka = 4 by omega] at q ⊢; exact q)) (cwV 1 hts (gV tw_446 tw_448 ts_17 tw_2 tw_449 rfl) rfl rfl rfl (by decide +kernel) ⟨Nat.le_of_ble_eq_true rfl, Nat.le_of_ble_eq_true rfl⟩) (PW_preV hPc hKc hDc hE hS hFc (ci := 0) (q0 := 0) rfl rfl) rfl rfl hl.1 rfl (lv_room (Nat.le_of_ble_eq_true rfl)) d_Rd_takeThings_150 ⟨Nat.le_of_ble_eq_true rfl, Nat.le_of_ble_eq_true rfl⟩) hS (fun q _ h => hFc q h) hFc (fun q _ h => hFc q h) (fun E9 ce9 q9 uu t H1 locs ht hvm hx_20 hB hz1 hk1 hS hce hcv hcl => ?_) (fun uu t H1 locs ht hvm hw_13 hB hz1 hk1 hS => ?_)
              ·
                obtain ⟨w_14, k_15, h_16, na_17, cnt_18, cel_19⟩ := uu
                obtain ⟨hEn, hP1, hD1⟩ := hB
                rw [ht] at hP1
                obtain ⟨hP, hD⟩ := va_join (wr := []) (w1 := [(aR, .inr (0, [.ref aT, .ref aS])), (aT, .inr (2, [.ref aB, .int (nI u), .int (nI en), .int (nI h_16), .int na_17, .int w_14, .int (nI k_15)])), (aB, .inl (kB, 65536, .inl B)), (aS, .inr (1, [.ref aN, .ref aC])), (aN, .inl (kN, 5, .inl (fun j => nI (cnt_18 j)))), (aC, .inl (kC, 52035, .inl cel_19))]) hP hD [0, 1, 2, 3, 4, 5] [] rfl rfl (by decide) (by decide) hk1 hFc hP1 hD1
                generalize H1 = H at hP hS hce ⊢
                have hP : va_P (dC, dI) vwCl [(aR, .inr (0, [.ref aT, .ref aS])), (aT, .inr (2, [.ref aB, .int (nI u), .int (nI en), .int (nI h_16), .int na_17, .int w_14, .int (nI k_15)])), (aB, .inl (kB, 65536, .inl B)), (aS, .inr (1, [.ref aN, .ref aC])), (aN, .inl (kN, 5, .inl (fun j => nI (cnt_18 j)))), (aC, .inl (kC, 52035, .inl cel_19))] H := hP
                have hD : va_D A [(aR, .inr (0, [.ref aT, .ref aS])), (aT, .inr (2, [.ref aB, .int (nI u), .int (nI en), .int (nI h_16), .int na_17, .int w_14, .int (nI k_15)])), (aB, .inl (kB, 65536, .inl B)), (aS, .inr (1, [.ref aN, .ref aC])), (aN, .inl (kN, 5, .inl (fun j => nI (cnt_18 j)))), (aC, .inl (kC, 52035, .inl cel_19))] := hD
                have hP9 := hP.sub (ws' := [(aR, .inr (0, [.ref aT, .ref aS])), (aT, .inr (2, [.ref aB, .int (nI u), .int (nI en), .int (nI h_16), .int na_17, .int w_14, .int (nI k_15)])), (aB, .inl (kB, 65536, .inl B)), (aS, .inr (1, [.ref aN, .ref aC])), (aN, .inl (kN, 5, .inl (fun j => nI (cnt_18 j)))), (aC, .inl (kC, 52035, .inl cel_19))]) [0, 1, 2, 3, 4, 5] rfl
                have hD9 := hD.sub (ws' := [(aR, .inr (0, [.ref aT, .ref aS])), (aT, .inr (2, [.ref aB, .int (nI u), .int (nI en), .int (nI h_16), .int na_17, .int w_14, .int (nI k_15)])), (aB, .inl (kB, 65536, .inl B)), (aS, .inr (1, [.ref aN, .ref aC])), (aN, .inl (kN, 5, .inl (fun j => nI (cnt_18 j)))), (aC, .inl (kC, 52035, .inl cel_19))]) [0, 1, 2, 3, 4, 5] (by decide) rfl
                exact vx_out (fun x hx => (htab x hx).elim) hlocks hce hcv hcl (fun t ht hvm => ⟨(w_14, k_15, h_16, na_17, cnt_18, cel_19), by rw [hI, zThs_step (by omega), if_neg c_1, show zThing B en ka (zuN cnt ka (i + 1)) (zST ka + i * zWD ka) (h2, cel2) = .error (w_14, k_15) from (by unfold zThing; rw [if_neg c_5, if_neg c_6, if_neg c_7, if_neg c_8]; exact hx_20), zB_er, zB_er], ⟨hEn, by rw [ht]; exact hP9, hD9⟩, hS.F ht⟩) hS.2.2 (by decide) (by decide)
              ·
                obtain ⟨h_10, na_11, cel_12⟩ := uu
                obtain ⟨hP1, hD1, hsz1⟩ := hB
                rw [ht] at hP1 hsz1
                obtain ⟨hP, hD⟩ := va_join (wr := []) (w1 := [(aR, .inr (0, [.ref aT, .ref aS])), (aT, .inr (2, [.ref aB, .int (nI u), .int (nI en), .int (nI h_10), .int na_11, .int w, .int wa])), (aB, .inl (kB, 65536, .inl B)), (aS, .inr (1, [.ref aN, .ref aC])), (aN, .inl (kN, 5, .inl (fun j => nI ((zuN cnt ka (i + 1)) j)))), (aC, .inl (kC, 52035, .inl cel_12))]) hP hD [0, 1, 2, 3, 4, 5] [] rfl rfl (by decide) (by decide) hk1 hFc hP1 hD1
                refine zt_tight (hsz1.trans hzs) ?_
                generalize H1 = H at hP hS ⊢
                have hP : va_P (dC, dI) vwCl [(aR, .inr (0, [.ref aT, .ref aS])), (aT, .inr (2, [.ref aB, .int (nI u), .int (nI en), .int (nI h_10), .int na_11, .int w, .int wa])), (aB, .inl (kB, 65536, .inl B)), (aS, .inr (1, [.ref aN, .ref aC])), (aN, .inl (kN, 5, .inl (fun j => nI ((zuN cnt ka (i + 1)) j)))), (aC, .inl (kC, 52035, .inl cel_12))] H := hP
                have hD : va_D A [(aR, .inr (0, [.ref aT, .ref aS])), (aT, .inr (2, [.ref aB, .int (nI u), .int (nI en), .int (nI h_10), .int na_11, .int w, .int wa])), (aB, .inl (kB, 65536, .inl B)), (aS, .inr (1, [.ref aN, .ref aC])), (aN, .inl (kN, 5, .inl (fun j => nI ((zuN cnt ka (i + 1)) j)))), (aC, .inl (kC, 52035, .inl cel_12))] := hD
                have hw_13i : h_10 ≤ en := zTrack_in hw_13
                have hth_21 : zThing B en ka (zuN cnt ka (i + 1)) (zST ka + i * zWD ka) (h2, cel2) = .ok (h_10, cel_12) := by unfold zThing; rw [if_neg c_5, if_neg c_6, if_neg c_7, if_neg c_8]; exact hw_13
                refine lv_aload_n hx hb d_Rd_takeThings_153 rfl (lv_at hl 1 rfl) ?_
                refine va_get (D := (dC, dI)) (ci := 0) (v := .ref aT) (C := R_Rd) (T := F_Rd) (N := 2) hx hb hz i_Rd hown hK hP 0 rfl rfl 0 (by decide) (hz _ tw_84) (fun _ h9 => h9) rfl d_Rd_takeThings_154 ?_
                refine lv_bipush (v := 125) hx hb d_Rd_takeThings_157 (by decide) ?_
                have hPc := hP.sub (ws' := [(aT, .inr (2, [.ref aB, .int (nI u), .int (nI en), .int (nI h_10), .int na_11, .int w, .int wa])), (aB, .inl (kB, 65536, .inl B))]) [1, 2] rfl
                have hDc := hD.sub (ws' := [(aT, .inr (2, [.ref aB, .int (nI u), .int (nI en), .int (nI h_10), .int na_11, .int w, .int wa])), (aB, .inl (kB, 65536, .inl B))]) [1, 2] (by decide) rfl
                have hKc := hK.sub (tys' := [(kB, .byte)]) [0] rfl
                have hFc := va_free (wc := [(aT, .inr (2, [.ref aB, .int (nI u), .int (nI en), .int (nI h_10), .int na_11, .int w, .int wa])), (aB, .inl (kB, 65536, .inl B))]) hD hS hA [1, 2] rfl
                refine zt_size (fun hzs => ?_)
                refine vx_callv (vx_runV (As := [.int 125]) (rest := []) ⟨hx, hb, hml, hown, hts⟩ (c_Tp_mustTake l hst G dC dI H.size aT aB u en h_10 na_11 w wa kB B 125 (by omega) (by omega)) (cwV 1 hts (gV tw_214 tw_215 tw_216 tw_3 tw_217 rfl) rfl rfl rfl (by decide +kernel) ⟨Nat.le_of_ble_eq_true rfl, Nat.le_of_ble_eq_true rfl⟩) (PW_preV hPc hKc hDc hE hS hFc (ci := 2) (q0 := 0) rfl rfl) rfl rfl hl.1 rfl (lv_room (Nat.le_of_ble_eq_true rfl)) d_Rd_takeThings_159 ⟨Nat.le_of_ble_eq_true rfl, Nat.le_of_ble_eq_true rfl⟩) hS (fun q _ h => hFc q h) hFc (fun q _ h => hFc q h) (fun E9 ce9 q9 uu t H1 locs ht hvm hx_29 hB hz1 hk1 hS hce hcv hcl => ?_) (fun uu t H1 locs ht hvm hw_24 hB hz1 hk1 hS => ?_)
                ·
                  obtain ⟨w_25, k_26, h_27, na_28⟩ := uu
                  obtain ⟨hEn, hP1, hD1⟩ := hB
                  rw [ht] at hP1
                  obtain ⟨hP, hD⟩ := va_join (wr := [(aR, .inr (0, [.ref aT, .ref aS])), (aS, .inr (1, [.ref aN, .ref aC])), (aN, .inl (kN, 5, .inl (fun j => nI ((zuN cnt ka (i + 1)) j)))), (aC, .inl (kC, 52035, .inl cel_12))]) (w1 := [(aT, .inr (2, [.ref aB, .int (nI u), .int (nI en), .int (nI h_27), .int na_28, .int w_25, .int (nI k_26)])), (aB, .inl (kB, 65536, .inl B))]) hP hD [1, 2] [0, 3, 4, 5] rfl rfl (by decide) (by decide) hk1 hFc hP1 hD1
                  generalize H1 = H at hP hS hce ⊢
                  have hP : va_P (dC, dI) vwCl [(aR, .inr (0, [.ref aT, .ref aS])), (aS, .inr (1, [.ref aN, .ref aC])), (aN, .inl (kN, 5, .inl (fun j => nI ((zuN cnt ka (i + 1)) j)))), (aC, .inl (kC, 52035, .inl cel_12)), (aT, .inr (2, [.ref aB, .int (nI u), .int (nI en), .int (nI h_27), .int na_28, .int w_25, .int (nI k_26)])), (aB, .inl (kB, 65536, .inl B))] H := hP
                  have hD : va_D A [(aR, .inr (0, [.ref aT, .ref aS])), (aS, .inr (1, [.ref aN, .ref aC])), (aN, .inl (kN, 5, .inl (fun j => nI ((zuN cnt ka (i + 1)) j)))), (aC, .inl (kC, 52035, .inl cel_12)), (aT, .inr (2, [.ref aB, .int (nI u), .int (nI en), .int (nI h_27), .int na_28, .int w_25, .int (nI k_26)])), (aB, .inl (kB, 65536, .inl B))] := hD
                  have hP9 := hP.sub (ws' := [(aR, .inr (0, [.ref aT, .ref aS])), (aT, .inr (2, [.ref aB, .int (nI u), .int (nI en), .int (nI h_27), .int na_28, .int w_25, .int (nI k_26)])), (aB, .inl (kB, 65536, .inl B)), (aS, .inr (1, [.ref aN, .ref aC])), (aN, .inl (kN, 5, .inl (fun j => nI ((zuN cnt ka (i + 1)) j)))), (aC, .inl (kC, 52035, .inl cel_12))]) [0, 4, 5, 1, 2, 3] rfl
                  have hD9 := hD.sub (ws' := [(aR, .inr (0, [.ref aT, .ref aS])), (aT, .inr (2, [.ref aB, .int (nI u), .int (nI en), .int (nI h_27), .int na_28, .int w_25, .int (nI k_26)])), (aB, .inl (kB, 65536, .inl B)), (aS, .inr (1, [.ref aN, .ref aC])), (aN, .inl (kN, 5, .inl (fun j => nI ((zuN cnt ka (i + 1)) j)))), (aC, .inl (kC, 52035, .inl cel_12))]) [0, 4, 5, 1, 2, 3] (by decide) rfl
                  exact vx_out (fun x hx => (htab x hx).elim) hlocks hce hcv hcl (fun t ht hvm => ⟨(w_25, k_26, h_27, na_28, zuN cnt ka (i + 1), cel_12), by rw [hI, zThs_step (by omega), if_neg c_1, hth_21]; simp only [zB_ok, zB_er, hx_29], ⟨hEn, by rw [ht]; exact hP9, hD9⟩, hS.F ht⟩) hS.2.2 (by decide) (by decide)
                ·
                  obtain ⟨h_23, rfl⟩ : ∃ z, z = uu := ⟨_, rfl⟩
                  obtain ⟨hP1, hD1, hsz1⟩ := hB
                  rw [ht] at hP1 hsz1
                  obtain ⟨hP, hD⟩ := va_join (wr := [(aR, .inr (0, [.ref aT, .ref aS])), (aS, .inr (1, [.ref aN, .ref aC])), (aN, .inl (kN, 5, .inl (fun j => nI ((zuN cnt ka (i + 1)) j)))), (aC, .inl (kC, 52035, .inl cel_12))]) (w1 := [(aT, .inr (2, [.ref aB, .int (nI u), .int (nI en), .int (nI h_23), .int na_11, .int w, .int wa])), (aB, .inl (kB, 65536, .inl B))]) hP hD [1, 2] [0, 3, 4, 5] rfl rfl (by decide) (by decide) hk1 hFc hP1 hD1
                  refine zt_tight (hsz1.trans hzs) ?_
                  generalize H1 = H at hP hS ⊢
                  have hP : va_P (dC, dI) vwCl [(aR, .inr (0, [.ref aT, .ref aS])), (aS, .inr (1, [.ref aN, .ref aC])), (aN, .inl (kN, 5, .inl (fun j => nI ((zuN cnt ka (i + 1)) j)))), (aC, .inl (kC, 52035, .inl cel_12)), (aT, .inr (2, [.ref aB, .int (nI u), .int (nI en), .int (nI h_23), .int na_11, .int w, .int wa])), (aB, .inl (kB, 65536, .inl B))] H := hP
                  have hD : va_D A [(aR, .inr (0, [.ref aT, .ref aS])), (aS, .inr (1, [.ref aN, .ref aC])), (aN, .inl (kN, 5, .inl (fun j => nI ((zuN cnt ka (i + 1)) j)))), (aC, .inl (kC, 52035, .inl cel_12)), (aT, .inr (2, [.ref aB, .int (nI u), .int (nI en), .int (nI h_23), .int na_11, .int w, .int wa])), (aB, .inl (kB, 65536, .inl B))] := hD
                  have hw_24i := zMust_in hw_24
                  refine lv_aload_n hx hb d_Rd_takeThings_162 rfl (lv_at hl 1 rfl) ?_
                  refine va_get (D := (dC, dI)) (ci := 0) (v := .ref aT) (C := R_Rd) (T := F_Rd) (N := 2) hx hb hz i_Rd hown hK hP 0 rfl rfl 0 (by decide) (hz _ tw_84) (fun _ h9 => h9) rfl d_Rd_takeThings_163 ?_
                  refine lv_bipush (v := 44) hx hb d_Rd_takeThings_166 (by decide) ?_
                  have hPc := hP.sub (ws' := [(aT, .inr (2, [.ref aB, .int (nI u), .int (nI en), .int (nI h_23), .int na_11, .int w, .int wa])), (aB, .inl (kB, 65536, .inl B))]) [4, 5] rfl
                  have hDc := hD.sub (ws' := [(aT, .inr (2, [.ref aB, .int (nI u), .int (nI en), .int (nI h_23), .int na_11, .int w, .int wa])), (aB, .inl (kB, 65536, .inl B))]) [4, 5] (by decide) rfl
                  have hKc := hK.sub (tys' := [(kB, .byte)]) [0] rfl
                  have hFc := va_free (wc := [(aT, .inr (2, [.ref aB, .int (nI u), .int (nI en), .int (nI h_23), .int na_11, .int w, .int wa])), (aB, .inl (kB, 65536, .inl B))]) hD hS hA [4, 5] rfl
                  refine va_calli (va_runV (As := [.int 44]) (rest := []) ⟨hx, hb, hml, hown, hts⟩ (c_Tp_takes l G dC dI H.size aT aB u en h_23 na_11 w wa kB B 44 (by omega) (by omega)) (cwV 1 hts (gV tw_379 tw_380 tw_381 tw_3 tw_382 rfl) rfl rfl rfl (by decide +kernel) ⟨Nat.le_of_ble_eq_true rfl, Nat.le_of_ble_eq_true rfl⟩) (PW_preV hPc hKc hDc hE hS hFc (ci := 2) (q0 := 0) rfl rfl) rfl rfl hl.1 rfl (lv_room (Nat.le_of_ble_eq_true rfl)) d_Rd_takeThings_168 ⟨Nat.le_of_ble_eq_true rfl, Nat.le_of_ble_eq_true rfl⟩) hS (fun q _ h => hFc q h) hFc (fun r_30 uu t H1 locs ht hvm hw_32 hB hz1 hk1 hS => ?_)
                  obtain ⟨h_31, rfl⟩ : ∃ z, z = uu := ⟨_, rfl⟩
                  obtain ⟨hP1, hD1, hsz1⟩ := hB
                  rw [ht] at hP1 hsz1
                  obtain ⟨hP, hD⟩ := va_join (wr := [(aR, .inr (0, [.ref aT, .ref aS])), (aS, .inr (1, [.ref aN, .ref aC])), (aN, .inl (kN, 5, .inl (fun j => nI ((zuN cnt ka (i + 1)) j)))), (aC, .inl (kC, 52035, .inl cel_12))]) (w1 := [(aT, .inr (2, [.ref aB, .int (nI u), .int (nI en), .int (nI h_31), .int na_11, .int w, .int wa])), (aB, .inl (kB, 65536, .inl B))]) hP hD [4, 5] [0, 1, 2, 3] rfl rfl (by decide) (by decide) hk1 hFc hP1 hD1
                  generalize H1 = H at hP hS ⊢
                  have hP : va_P (dC, dI) vwCl [(aR, .inr (0, [.ref aT, .ref aS])), (aS, .inr (1, [.ref aN, .ref aC])), (aN, .inl (kN, 5, .inl (fun j => nI ((zuN cnt ka (i + 1)) j)))), (aC, .inl (kC, 52035, .inl cel_12)), (aT, .inr (2, [.ref aB, .int (nI u), .int (nI en), .int (nI h_31), .int na_11, .int w, .int wa])), (aB, .inl (kB, 65536, .inl B))] H := hP
                  have hD : va_D A [(aR, .inr (0, [.ref aT, .ref aS])), (aS, .inr (1, [.ref aN, .ref aC])), (aN, .inl (kN, 5, .inl (fun j => nI ((zuN cnt ka (i + 1)) j)))), (aC, .inl (kC, 52035, .inl cel_12)), (aT, .inr (2, [.ref aB, .int (nI u), .int (nI en), .int (nI h_31), .int na_11, .int w, .int wa])), (aB, .inl (kB, 65536, .inl B))] := hD
                  by_cases hs_33 : h_23 < en ∧ B h_23 = 44
                  ·
                    obtain ⟨e1, e2⟩ := hw_32
                    rw [if_pos hs_33] at e1 e2; subst e1; have e2 := e2.symm; subst e2
                    have hs_33i := zK_le (B := B) (en := en) (i := h_23 + 1) (by omega)
                    refine lv_istore_n (lv' := [(3, .int 1), (5, .int (nI (zST ka + i * zWD ka))), (0, .ref aR), (1, .int (nI ka)), (2, .int (nI (zM ka))), (4, .int (nI i))]) hx hb d_Rd_takeThings_171 rfl hl (by decide) rfl (fun ls hl => ?_)
                    refine lv_iinc (v := nI (i + 1)) (lv' := [(4, .int (nI (i + 1))), (3, .int 1), (5, .int (nI (zST ka + i * zWD ka))), (0, .ref aR), (1, .int (nI ka)), (2, .int (nI (zM ka)))]) hx hb d_Rd_takeThings_172 hl (k := 5) rfl (nI_add i 1) (by decide) rfl (fun ls hl => ?_)
                    refine lv_goto (tgt := 35) hx hb d_Rd_takeThings_175 (by decide) ?_
                    refine lv_iload hx hb d_Rd_takeThings_35 (lv_at hl 0 rfl) ?_
                    refine lv_iload_n hx hb d_Rd_takeThings_37 rfl (lv_at hl 5 rfl) ?_
                    refine lv_icmp_gt (tgt := 178) hx hb d_Rd_takeThings_38 (by decide) (fun c_34 => ?_) (fun c_34 => ?_)
                    ·
                      exact absurd c_34 (nI_nlt (a := zM ka) (b := i + 1) (by omega) (by omega))
                    ·
                      refine lv_iload_n hx hb d_Rd_takeThings_41 rfl (lv_at hl 1 rfl) ?_
                      refine lv_if_eq (tgt := 178) hx hb d_Rd_takeThings_42 (by decide) (fun c_35 => ?_) (fun c_35 => ?_)
                      ·
                        exact absurd c_35 (by decide)
                      ·
                        exact ih (i + 1) (zK B en (h_23 + 1)) na_11 cel_12 (by omega) (by omega) (by omega) (by rw [hI, zThs_step (by omega), if_neg c_1, hth_21]; simp only [zB_ok, hw_24]; rw [if_pos hs_33]) _ _ (hP.sub [0, 4, 5, 1, 2, 3] rfl) (hD.sub [0, 4, 5, 1, 2, 3] (by decide) rfl) hS ls (lv_sub hl [3, 4, 5, 0] rfl)
                  ·
                    obtain ⟨e1, e2⟩ := hw_32
                    rw [if_neg hs_33] at e1 e2; subst e1; have e2 := e2.symm; subst e2
                    refine lv_istore_n (lv' := [(3, .int 0), (5, .int (nI (zST ka + i * zWD ka))), (0, .ref aR), (1, .int (nI ka)), (2, .int (nI (zM ka))), (4, .int (nI i))]) hx hb d_Rd_takeThings_171 rfl hl (by decide) rfl (fun ls hl => ?_)
                    refine lv_iinc (v := nI (i + 1)) (lv' := [(4, .int (nI (i + 1))), (3, .int 0), (5, .int (nI (zST ka + i * zWD ka))), (0, .ref aR), (1, .int (nI ka)), (2, .int (nI (zM ka)))]) hx hb d_Rd_takeThings_172 hl (k := 5) rfl (nI_add i 1) (by decide) rfl (fun ls hl => ?_)
                    refine lv_goto (tgt := 35) hx hb d_Rd_takeThings_175 (by decide) ?_
                    refine lv_iload hx hb d_Rd_takeThings_35 (lv_at hl 0 rfl) ?_
                    refine lv_iload_n hx hb d_Rd_takeThings_37 rfl (lv_at hl 5 rfl) ?_
                    refine lv_icmp_gt (tgt := 178) hx hb d_Rd_takeThings_38 (by decide) (fun c_36 => ?_) (fun c_36 => ?_)
                    ·
                      exact absurd c_36 (nI_nlt (a := zM ka) (b := i + 1) (by omega) (by omega))
                    ·
                      refine lv_iload_n hx hb d_Rd_takeThings_41 rfl (lv_at hl 1 rfl) ?_
                      refine lv_if_eq (tgt := 178) hx hb d_Rd_takeThings_42 (by decide) (fun c_37 => ?_) (fun c_37 => ?_)
                      ·
                        have tl_38 : zThings B en ka cnt (h, cel) = zEnd B en (i + 1, h_23, cel_12) := by rw [hI, zThs_step (by omega), if_neg c_1, hth_21]; simp only [zB_ok, hw_24]; rw [if_neg hs_33, zB_ok]
                        refine lv_aload_n hx hb d_Rd_takeThings_178 rfl (lv_at hl 3 rfl) ?_
                        refine va_get (D := (dC, dI)) (ci := 0) (v := .ref aT) (C := R_Rd) (T := F_Rd) (N := 2) hx hb hz i_Rd hown hK hP 0 rfl rfl 0 (by decide) (hz _ tw_84) (fun _ h9 => h9) rfl d_Rd_takeThings_179 ?_
                        refine lv_bipush (v := 93) hx hb d_Rd_takeThings_182 (by decide) ?_
                        have hPc := hP.sub (ws' := [(aT, .inr (2, [.ref aB, .int (nI u), .int (nI en), .int (nI h_23), .int na_11, .int w, .int wa])), (aB, .inl (kB, 65536, .inl B))]) [4, 5] rfl
                        have hDc := hD.sub (ws' := [(aT, .inr (2, [.ref aB, .int (nI u), .int (nI en), .int (nI h_23), .int na_11, .int w, .int wa])), (aB, .inl (kB, 65536, .inl B))]) [4, 5] (by decide) rfl
                        have hKc := hK.sub (tys' := [(kB, .byte)]) [0] rfl
                        have hFc := va_free (wc := [(aT, .inr (2, [.ref aB, .int (nI u), .int (nI en), .int (nI h_23), .int na_11, .int w, .int wa])), (aB, .inl (kB, 65536, .inl B))]) hD hS hA [4, 5] rfl
                        refine zt_size (fun hzs => ?_)
                        refine vx_callv (vx_runV (As := [.int 93]) (rest := []) ⟨hx, hb, hml, hown, hts⟩ (c_Tp_mustTake l hst G dC dI H.size aT aB u en h_23 na_11 w wa kB B 93 (by omega) (by omega)) (cwV 1 hts (gV tw_214 tw_215 tw_216 tw_3 tw_217 rfl) rfl rfl rfl (by decide +kernel) ⟨Nat.le_of_ble_eq_true rfl, Nat.le_of_ble_eq_true rfl⟩) (PW_preV hPc hKc hDc hE hS hFc (ci := 2) (q0 := 0) rfl rfl) rfl rfl hl.1 rfl (lv_room (Nat.le_of_ble_eq_true rfl)) d_Rd_takeThings_184 ⟨Nat.le_of_ble_eq_true rfl, Nat.le_of_ble_eq_true rfl⟩) hS (fun q _ h => hFc q h) hFc (fun q _ h => hFc q h) (fun E9 ce9 q9 uu t H1 locs ht hvm hx_46 hB hz1 hk1 hS hce hcv hcl => ?_) (fun uu t H1 locs ht hvm hw_41 hB hz1 hk1 hS => ?_)
                        ·
                          obtain ⟨w_42, k_43, h_44, na_45⟩ := uu
                          obtain ⟨hEn, hP1, hD1⟩ := hB
                          rw [ht] at hP1
                          obtain ⟨hP, hD⟩ := va_join (wr := [(aR, .inr (0, [.ref aT, .ref aS])), (aS, .inr (1, [.ref aN, .ref aC])), (aN, .inl (kN, 5, .inl (fun j => nI ((zuN cnt ka (i + 1)) j)))), (aC, .inl (kC, 52035, .inl cel_12))]) (w1 := [(aT, .inr (2, [.ref aB, .int (nI u), .int (nI en), .int (nI h_44), .int na_45, .int w_42, .int (nI k_43)])), (aB, .inl (kB, 65536, .inl B))]) hP hD [4, 5] [0, 1, 2, 3] rfl rfl (by decide) (by decide) hk1 hFc hP1 hD1
                          generalize H1 = H at hP hS hce ⊢
                          have hP : va_P (dC, dI) vwCl [(aR, .inr (0, [.ref aT, .ref aS])), (aS, .inr (1, [.ref aN, .ref aC])), (aN, .inl (kN, 5, .inl (fun j => nI ((zuN cnt ka (i + 1)) j)))), (aC, .inl (kC, 52035, .inl cel_12)), (aT, .inr (2, [.ref aB, .int (nI u), .int (nI en), .int (nI h_44), .int na_45, .int w_42, .int (nI k_43)])), (aB, .inl (kB, 65536, .inl B))] H := hP
                          have hD : va_D A [(aR, .inr (0, [.ref aT, .ref aS])), (aS, .inr (1, [.ref aN, .ref aC])), (aN, .inl (kN, 5, .inl (fun j => nI ((zuN cnt ka (i + 1)) j)))), (aC, .inl (kC, 52035, .inl cel_12)), (aT, .inr (2, [.ref aB, .int (nI u), .int (nI en), .int (nI h_44), .int na_45, .int w_42, .int (nI k_43)])), (aB, .inl (kB, 65536, .inl B))] := hD
                          have hP9 := hP.sub (ws' := [(aR, .inr (0, [.ref aT, .ref aS])), (aT, .inr (2, [.ref aB, .int (nI u), .int (nI en), .int (nI h_44), .int na_45, .int w_42, .int (nI k_43)])), (aB, .inl (kB, 65536, .inl B)), (aS, .inr (1, [.ref aN, .ref aC])), (aN, .inl (kN, 5, .inl (fun j => nI ((zuN cnt ka (i + 1)) j)))), (aC, .inl (kC, 52035, .inl cel_12))]) [0, 4, 5, 1, 2, 3] rfl
                          have hD9 := hD.sub (ws' := [(aR, .inr (0, [.ref aT, .ref aS])), (aT, .inr (2, [.ref aB, .int (nI u), .int (nI en), .int (nI h_44), .int na_45, .int w_42, .int (nI k_43)])), (aB, .inl (kB, 65536, .inl B)), (aS, .inr (1, [.ref aN, .ref aC])), (aN, .inl (kN, 5, .inl (fun j => nI ((zuN cnt ka (i + 1)) j)))), (aC, .inl (kC, 52035, .inl cel_12))]) [0, 4, 5, 1, 2, 3] (by decide) rfl
                          exact vx_out (fun x hx => (htab x hx).elim) hlocks hce hcv hcl (fun t ht hvm => ⟨(w_42, k_43, h_44, na_45, zuN cnt ka (i + 1), cel_12), by rw [tl_38]; simp only [zEnd, zB_er, hx_46], ⟨hEn, by rw [ht]; exact hP9, hD9⟩, hS.F ht⟩) hS.2.2 (by decide) (by decide)
                        ·
                          obtain ⟨h_40, rfl⟩ : ∃ z, z = uu := ⟨_, rfl⟩
                          obtain ⟨hP1, hD1, hsz1⟩ := hB
                          rw [ht] at hP1 hsz1
                          obtain ⟨hP, hD⟩ := va_join (wr := [(aR, .inr (0, [.ref aT, .ref aS])), (aS, .inr (1, [.ref aN, .ref aC])), (aN, .inl (kN, 5, .inl (fun j => nI ((zuN cnt ka (i + 1)) j)))), (aC, .inl (kC, 52035, .inl cel_12))]) (w1 := [(aT, .inr (2, [.ref aB, .int (nI u), .int (nI en), .int (nI h_40), .int na_11, .int w, .int wa])), (aB, .inl (kB, 65536, .inl B))]) hP hD [4, 5] [0, 1, 2, 3] rfl rfl (by decide) (by decide) hk1 hFc hP1 hD1
                          refine zt_tight (hsz1.trans hzs) ?_
                          generalize H1 = H at hP hS ⊢
                          have hP : va_P (dC, dI) vwCl [(aR, .inr (0, [.ref aT, .ref aS])), (aS, .inr (1, [.ref aN, .ref aC])), (aN, .inl (kN, 5, .inl (fun j => nI ((zuN cnt ka (i + 1)) j)))), (aC, .inl (kC, 52035, .inl cel_12)), (aT, .inr (2, [.ref aB, .int (nI u), .int (nI en), .int (nI h_40), .int na_11, .int w, .int wa])), (aB, .inl (kB, 65536, .inl B))] H := hP
                          have hD : va_D A [(aR, .inr (0, [.ref aT, .ref aS])), (aS, .inr (1, [.ref aN, .ref aC])), (aN, .inl (kN, 5, .inl (fun j => nI ((zuN cnt ka (i + 1)) j)))), (aC, .inl (kC, 52035, .inl cel_12)), (aT, .inr (2, [.ref aB, .int (nI u), .int (nI en), .int (nI h_40), .int na_11, .int w, .int wa])), (aB, .inl (kB, 65536, .inl B))] := hD
                          have hw_41i := zMust_in hw_41
                          refine zt_size (fun hzs => ?_)
                          have hP9 := hP.sub (ws' := [(aR, .inr (0, [.ref aT, .ref aS])), (aT, .inr (2, [.ref aB, .int (nI u), .int (nI en), .int (nI h_40), .int na_11, .int w, .int wa])), (aB, .inl (kB, 65536, .inl B)), (aS, .inr (1, [.ref aN, .ref aC])), (aN, .inl (kN, 5, .inl (fun j => nI ((zuN cnt ka (i + 1)) j)))), (aC, .inl (kC, 52035, .inl cel_12))]) [0, 4, 5, 1, 2, 3] rfl
                          have hD9 := hD.sub (ws' := [(aR, .inr (0, [.ref aT, .ref aS])), (aT, .inr (2, [.ref aB, .int (nI u), .int (nI en), .int (nI h_40), .int na_11, .int w, .int wa])), (aB, .inl (kB, 65536, .inl B)), (aS, .inr (1, [.ref aN, .ref aC])), (aN, .inl (kN, 5, .inl (fun j => nI ((zuN cnt ka (i + 1)) j)))), (aC, .inl (kC, 52035, .inl cel_12))]) [0, 4, 5, 1, 2, 3] (by decide) rfl
                          refine W.widen (k := 1) (n := 6) (by decide) (by decide) ?_
                          exact vx_ret (W.vret hx hb hr (fun t ht hW => ⟨⟨(h_40, na_11, zuN cnt ka (i + 1), cel_12, i + 1), rfl, ⟨by rw [tl_38]; simp only [zEnd, zB_ok, hw_41], rfl⟩, by rw [ht]; exact hP9, hD9, by rw [ht]; exact hzs⟩, hS.F ht⟩) hS.2.2 d_Rd_takeThings_187)
                      ·
                        exact absurd (by decide) c_37
            ·
              have c_8 : ka = 3 := (@nI_eq ka 3 (by omega) (by omega)).mp c_8
              refine lv_aload_n hx hb d_Rd_takeThings_138 rfl (lv_at hl 1 rfl) ?_
              refine lv_iload hx hb d_Rd_takeThings_139 (lv_at hl 0 rfl) ?_
              have hPc := hP.sub (ws' := [(aR, .inr (0, [.ref aT, .ref aS])), (aT, .inr (2, [.ref aB, .int (nI u), .int (nI en), .int (nI h2), .int na2, .int w, .int wa])), (aB, .inl (kB, 65536, .inl B)), (aS, .inr (1, [.ref aN, .ref aC])), (aN, .inl (kN, 5, .inl (fun j => nI ((zuN cnt ka (i + 1)) j)))), (aC, .inl (kC, 52035, .inl cel2))]) [0, 1, 2, 3, 4, 5] rfl
              have hDc := hD.sub (ws' := [(aR, .inr (0, [.ref aT, .ref aS])), (aT, .inr (2, [.ref aB, .int (nI u), .int (nI en), .int (nI h2), .int na2, .int w, .int wa])), (aB, .inl (kB, 65536, .inl B)), (aS, .inr (1, [.ref aN, .ref aC])), (aN, .inl (kN, 5, .inl (fun j => nI ((zuN cnt ka (i + 1)) j)))), (aC, .inl (kC, 52035, .inl cel2))]) [0, 1, 2, 3, 4, 5] (by decide) rfl
              have hKc := hK.sub (tys' := [(kB, .byte), (kN, .int), (kC, .int)]) [0, 1, 2] rfl
              have hFc := va_free (wc := [(aR, .inr (0, [.ref aT, .ref aS])), (aT, .inr (2, [.ref aB, .int (nI u), .int (nI en), .int (nI h2), .int na2, .int w, .int wa])), (aB, .inl (kB, 65536, .inl B)), (aS, .inr (1, [.ref aN, .ref aC])), (aN, .inl (kN, 5, .inl (fun j => nI ((zuN cnt ka (i + 1)) j)))), (aC, .inl (kC, 52035, .inl cel2))]) hD hS hA [0, 1, 2, 3, 4, 5] rfl
              refine zt_size (fun hzs => ?_)
              refine vx_callv (vx_runV (As := [.int (nI (zST ka + i * zWD ka))]) (rest := []) ⟨hx, hb, hml, hown, hts⟩ (c_Rd_takeNode l hst G dC dI H.size aR aT aS aB u en h2 na2 w wa kB B aN aC kN (zuN cnt ka (i + 1)) kC cel2 (zST ka + i * zWD ka) (by omega) (by omega) (by have q := zcell (ka := ka) (i := i) (by omega) (by omega); rw [show ka = 3 by omega] at q ⊢; exact q)) (cwV 1 hts (gV tw_439 tw_441 ts_16 tw_2 tw_442 rfl) rfl rfl rfl (by decide +kernel) ⟨Nat.le_of_ble_eq_true rfl, Nat.le_of_ble_eq_true rfl⟩) (PW_preV hPc hKc hDc hE hS hFc (ci := 0) (q0 := 0) rfl rfl) rfl rfl hl.1 rfl (lv_room (Nat.le_of_ble_eq_true rfl)) d_Rd_takeThings_141 ⟨Nat.le_of_ble_eq_true rfl, Nat.le_of_ble_eq_true rfl⟩) hS (fun q _ h => hFc q h) hFc (fun q _ h => hFc q h) (fun E9 ce9 q9 uu t H1 locs ht hvm hx_58 hB hz1 hk1 hS hce hcv hcl => ?_) (fun uu t H1 locs ht hvm hw_51 hB hz1 hk1 hS => ?_)
              ·
                obtain ⟨w_52, k_53, h_54, na_55, cnt_56, cel_57⟩ := uu
                obtain ⟨hEn, hP1, hD1⟩ := hB
                rw [ht] at hP1
                obtain ⟨hP, hD⟩ := va_join (wr := []) (w1 := [(aR, .inr (0, [.ref aT, .ref aS])), (aT, .inr (2, [.ref aB, .int (nI u), .int (nI en), .int (nI h_54), .int na_55, .int w_52, .int (nI k_53)])), (aB, .inl (kB, 65536, .inl B)), (aS, .inr (1, [.ref aN, .ref aC])), (aN, .inl (kN, 5, .inl (fun j => nI (cnt_56 j)))), (aC, .inl (kC, 52035, .inl cel_57))]) hP hD [0, 1, 2, 3, 4, 5] [] rfl rfl (by decide) (by decide) hk1 hFc hP1 hD1
                generalize H1 = H at hP hS hce ⊢
                have hP : va_P (dC, dI) vwCl [(aR, .inr (0, [.ref aT, .ref aS])), (aT, .inr (2, [.ref aB, .int (nI u), .int (nI en), .int (nI h_54), .int na_55, .int w_52, .int (nI k_53)])), (aB, .inl (kB, 65536, .inl B)), (aS, .inr (1, [.ref aN, .ref aC])), (aN, .inl (kN, 5, .inl (fun j => nI (cnt_56 j)))), (aC, .inl (kC, 52035, .inl cel_57))] H := hP
                have hD : va_D A [(aR, .inr (0, [.ref aT, .ref aS])), (aT, .inr (2, [.ref aB, .int (nI u), .int (nI en), .int (nI h_54), .int na_55, .int w_52, .int (nI k_53)])), (aB, .inl (kB, 65536, .inl B)), (aS, .inr (1, [.ref aN, .ref aC])), (aN, .inl (kN, 5, .inl (fun j => nI (cnt_56 j)))), (aC, .inl (kC, 52035, .inl cel_57))] := hD
                have hP9 := hP.sub (ws' := [(aR, .inr (0, [.ref aT, .ref aS])), (aT, .inr (2, [.ref aB, .int (nI u), .int (nI en), .int (nI h_54), .int na_55, .int w_52, .int (nI k_53)])), (aB, .inl (kB, 65536, .inl B)), (aS, .inr (1, [.ref aN, .ref aC])), (aN, .inl (kN, 5, .inl (fun j => nI (cnt_56 j)))), (aC, .inl (kC, 52035, .inl cel_57))]) [0, 1, 2, 3, 4, 5] rfl
                have hD9 := hD.sub (ws' := [(aR, .inr (0, [.ref aT, .ref aS])), (aT, .inr (2, [.ref aB, .int (nI u), .int (nI en), .int (nI h_54), .int na_55, .int w_52, .int (nI k_53)])), (aB, .inl (kB, 65536, .inl B)), (aS, .inr (1, [.ref aN, .ref aC])), (aN, .inl (kN, 5, .inl (fun j => nI (cnt_56 j)))), (aC, .inl (kC, 52035, .inl cel_57))]) [0, 1, 2, 3, 4, 5] (by decide) rfl
                exact vx_out (fun x hx => (htab x hx).elim) hlocks hce hcv hcl (fun t ht hvm => ⟨(w_52, k_53, h_54, na_55, cnt_56, cel_57), by rw [hI, zThs_step (by omega), if_neg c_1, show zThing B en ka (zuN cnt ka (i + 1)) (zST ka + i * zWD ka) (h2, cel2) = .error (w_52, k_53) from (by unfold zThing; rw [if_neg c_5, if_neg c_6, if_neg c_7, if_pos c_8]; exact hx_58), zB_er, zB_er], ⟨hEn, by rw [ht]; exact hP9, hD9⟩, hS.F ht⟩) hS.2.2 (by decide) (by decide)
              ·
                obtain ⟨h_48, na_49, cel_50⟩ := uu
                obtain ⟨hP1, hD1, hsz1⟩ := hB
                rw [ht] at hP1 hsz1
                obtain ⟨hP, hD⟩ := va_join (wr := []) (w1 := [(aR, .inr (0, [.ref aT, .ref aS])), (aT, .inr (2, [.ref aB, .int (nI u), .int (nI en), .int (nI h_48), .int na_49, .int w, .int wa])), (aB, .inl (kB, 65536, .inl B)), (aS, .inr (1, [.ref aN, .ref aC])), (aN, .inl (kN, 5, .inl (fun j => nI ((zuN cnt ka (i + 1)) j)))), (aC, .inl (kC, 52035, .inl cel_50))]) hP hD [0, 1, 2, 3, 4, 5] [] rfl rfl (by decide) (by decide) hk1 hFc hP1 hD1
                refine zt_tight (hsz1.trans hzs) ?_
                generalize H1 = H at hP hS ⊢
                have hP : va_P (dC, dI) vwCl [(aR, .inr (0, [.ref aT, .ref aS])), (aT, .inr (2, [.ref aB, .int (nI u), .int (nI en), .int (nI h_48), .int na_49, .int w, .int wa])), (aB, .inl (kB, 65536, .inl B)), (aS, .inr (1, [.ref aN, .ref aC])), (aN, .inl (kN, 5, .inl (fun j => nI ((zuN cnt ka (i + 1)) j)))), (aC, .inl (kC, 52035, .inl cel_50))] H := hP
                have hD : va_D A [(aR, .inr (0, [.ref aT, .ref aS])), (aT, .inr (2, [.ref aB, .int (nI u), .int (nI en), .int (nI h_48), .int na_49, .int w, .int wa])), (aB, .inl (kB, 65536, .inl B)), (aS, .inr (1, [.ref aN, .ref aC])), (aN, .inl (kN, 5, .inl (fun j => nI ((zuN cnt ka (i + 1)) j)))), (aC, .inl (kC, 52035, .inl cel_50))] := hD
                have hw_51i : h_48 ≤ en := zNode_in hw_51
                have hth_59 : zThing B en ka (zuN cnt ka (i + 1)) (zST ka + i * zWD ka) (h2, cel2) = .ok (h_48, cel_50) := by unfold zThing; rw [if_neg c_5, if_neg c_6, if_neg c_7, if_pos c_8]; exact hw_51
                refine lv_goto (tgt := 153) hx hb d_Rd_takeThings_144 (by decide) ?_
                refine lv_aload_n hx hb d_Rd_takeThings_153 rfl (lv_at hl 1 rfl) ?_
                refine va_get (D := (dC, dI)) (ci := 0) (v := .ref aT) (C := R_Rd) (T := F_Rd) (N := 2) hx hb hz i_Rd hown hK hP 0 rfl rfl 0 (by decide) (hz _ tw_84) (fun _ h9 => h9) rfl d_Rd_takeThings_154 ?_
                refine lv_bipush (v := 125) hx hb d_Rd_takeThings_157 (by decide) ?_
                have hPc := hP.sub (ws' := [(aT, .inr (2, [.ref aB, .int (nI u), .int (nI en), .int (nI h_48), .int na_49, .int w, .int wa])), (aB, .inl (kB, 65536, .inl B))]) [1, 2] rfl
                have hDc := hD.sub (ws' := [(aT, .inr (2, [.ref aB, .int (nI u), .int (nI en), .int (nI h_48), .int na_49, .int w, .int wa])), (aB, .inl (kB, 65536, .inl B))]) [1, 2] (by decide) rfl
                have hKc := hK.sub (tys' := [(kB, .byte)]) [0] rfl
                have hFc := va_free (wc := [(aT, .inr (2, [.ref aB, .int (nI u), .int (nI en), .int (nI h_48), .int na_49, .int w, .int wa])), (aB, .inl (kB, 65536, .inl B))]) hD hS hA [1, 2] rfl
                refine zt_size (fun hzs => ?_)
                refine vx_callv (vx_runV (As := [.int 125]) (rest := []) ⟨hx, hb, hml, hown, hts⟩ (c_Tp_mustTake l hst G dC dI H.size aT aB u en h_48 na_49 w wa kB B 125 (by omega) (by omega)) (cwV 1 hts (gV tw_214 tw_215 tw_216 tw_3 tw_217 rfl) rfl rfl rfl (by decide +kernel) ⟨Nat.le_of_ble_eq_true rfl, Nat.le_of_ble_eq_true rfl⟩) (PW_preV hPc hKc hDc hE hS hFc (ci := 2) (q0 := 0) rfl rfl) rfl rfl hl.1 rfl (lv_room (Nat.le_of_ble_eq_true rfl)) d_Rd_takeThings_159 ⟨Nat.le_of_ble_eq_true rfl, Nat.le_of_ble_eq_true rfl⟩) hS (fun q _ h => hFc q h) hFc (fun q _ h => hFc q h) (fun E9 ce9 q9 uu t H1 locs ht hvm hx_67 hB hz1 hk1 hS hce hcv hcl => ?_) (fun uu t H1 locs ht hvm hw_62 hB hz1 hk1 hS => ?_)
                ·
                  obtain ⟨w_63, k_64, h_65, na_66⟩ := uu
                  obtain ⟨hEn, hP1, hD1⟩ := hB
                  rw [ht] at hP1
                  obtain ⟨hP, hD⟩ := va_join (wr := [(aR, .inr (0, [.ref aT, .ref aS])), (aS, .inr (1, [.ref aN, .ref aC])), (aN, .inl (kN, 5, .inl (fun j => nI ((zuN cnt ka (i + 1)) j)))), (aC, .inl (kC, 52035, .inl cel_50))]) (w1 := [(aT, .inr (2, [.ref aB, .int (nI u), .int (nI en), .int (nI h_65), .int na_66, .int w_63, .int (nI k_64)])), (aB, .inl (kB, 65536, .inl B))]) hP hD [1, 2] [0, 3, 4, 5] rfl rfl (by decide) (by decide) hk1 hFc hP1 hD1
                  generalize H1 = H at hP hS hce ⊢
                  have hP : va_P (dC, dI) vwCl [(aR, .inr (0, [.ref aT, .ref aS])), (aS, .inr (1, [.ref aN, .ref aC])), (aN, .inl (kN, 5, .inl (fun j => nI ((zuN cnt ka (i + 1)) j)))), (aC, .inl (kC, 52035, .inl cel_50)), (aT, .inr (2, [.ref aB, .int (nI u), .int (nI en), .int (nI h_65), .int na_66, .int w_63, .int (nI k_64)])), (aB, .inl (kB, 65536, .inl B))] H := hP
                  have hD : va_D A [(aR, .inr (0, [.ref aT, .ref aS])), (aS, .inr (1, [.ref aN, .ref aC])), (aN, .inl (kN, 5, .inl (fun j => nI ((zuN cnt ka (i + 1)) j)))), (aC, .inl (kC, 52035, .inl cel_50)), (aT, .inr (2, [.ref aB, .int (nI u), .int (nI en), .int (nI h_65), .int na_66, .int w_63, .int (nI k_64)])), (aB, .inl (kB, 65536, .inl B))] := hD
                  have hP9 := hP.sub (ws' := [(aR, .inr (0, [.ref aT, .ref aS])), (aT, .inr (2, [.ref aB, .int (nI u), .int (nI en), .int (nI h_65), .int na_66, .int w_63, .int (nI k_64)])), (aB, .inl (kB, 65536, .inl B)), (aS, .inr (1, [.ref aN, .ref aC])), (aN, .inl (kN, 5, .inl (fun j => nI ((zuN cnt ka (i + 1)) j)))), (aC, .inl (kC, 52035, .inl cel_50))]) [0, 4, 5, 1, 2, 3] rfl
                  have hD9 := hD.sub (ws' := [(aR, .inr (0, [.ref aT, .ref aS])), (aT, .inr (2, [.ref aB, .int (nI u), .int (nI en), .int (nI h_65), .int na_66, .int w_63, .int (nI k_64)])), (aB, .inl (kB, 65536, .inl B)), (aS, .inr (1, [.ref aN, .ref aC])), (aN, .inl (kN, 5, .inl (fun j => nI ((zuN cnt ka (i + 1)) j)))), (aC, .inl (kC, 52035, .inl cel_50))]) [0, 4, 5, 1, 2, 3] (by decide) rfl
                  exact vx_out (fun x hx => (htab x hx).elim) hlocks hce hcv hcl (fun t ht hvm => ⟨(w_63, k_64, h_65, na_66, zuN cnt ka (i + 1), cel_50), by rw [hI, zThs_step (by omega), if_neg c_1, hth_59]; simp only [zB_ok, zB_er, hx_67], ⟨hEn, by rw [ht]; exact hP9, hD9⟩, hS.F ht⟩) hS.2.2 (by decide) (by decide)
                ·
                  obtain ⟨h_61, rfl⟩ : ∃ z, z = uu := ⟨_, rfl⟩
                  obtain ⟨hP1, hD1, hsz1⟩ := hB
                  rw [ht] at hP1 hsz1
                  obtain ⟨hP, hD⟩ := va_join (wr := [(aR, .inr (0, [.ref aT, .ref aS])), (aS, .inr (1, [.ref aN, .ref aC])), (aN, .inl (kN, 5, .inl (fun j => nI ((zuN cnt ka (i + 1)) j)))), (aC, .inl (kC, 52035, .inl cel_50))]) (w1 := [(aT, .inr (2, [.ref aB, .int (nI u), .int (nI en), .int (nI h_61), .int na_49, .int w, .int wa])), (aB, .inl (kB, 65536, .inl B))]) hP hD [1, 2] [0, 3, 4, 5] rfl rfl (by decide) (by decide) hk1 hFc hP1 hD1
                  refine zt_tight (hsz1.trans hzs) ?_
                  generalize H1 = H at hP hS ⊢
                  have hP : va_P (dC, dI) vwCl [(aR, .inr (0, [.ref aT, .ref aS])), (aS, .inr (1, [.ref aN, .ref aC])), (aN, .inl (kN, 5, .inl (fun j => nI ((zuN cnt ka (i + 1)) j)))), (aC, .inl (kC, 52035, .inl cel_50)), (aT, .inr (2, [.ref aB, .int (nI u), .int (nI en), .int (nI h_61), .int na_49, .int w, .int wa])), (aB, .inl (kB, 65536, .inl B))] H := hP
                  have hD : va_D A [(aR, .inr (0, [.ref aT, .ref aS])), (aS, .inr (1, [.ref aN, .ref aC])), (aN, .inl (kN, 5, .inl (fun j => nI ((zuN cnt ka (i + 1)) j)))), (aC, .inl (kC, 52035, .inl cel_50)), (aT, .inr (2, [.ref aB, .int (nI u), .int (nI en), .int (nI h_61), .int na_49, .int w, .int wa])), (aB, .inl (kB, 65536, .inl B))] := hD
                  have hw_62i := zMust_in hw_62
                  refine lv_aload_n hx hb d_Rd_takeThings_162 rfl (lv_at hl 1 rfl) ?_
                  refine va_get (D := (dC, dI)) (ci := 0) (v := .ref aT) (C := R_Rd) (T := F_Rd) (N := 2) hx hb hz i_Rd hown hK hP 0 rfl rfl 0 (by decide) (hz _ tw_84) (fun _ h9 => h9) rfl d_Rd_takeThings_163 ?_
                  refine lv_bipush (v := 44) hx hb d_Rd_takeThings_166 (by decide) ?_
                  have hPc := hP.sub (ws' := [(aT, .inr (2, [.ref aB, .int (nI u), .int (nI en), .int (nI h_61), .int na_49, .int w, .int wa])), (aB, .inl (kB, 65536, .inl B))]) [4, 5] rfl
                  have hDc := hD.sub (ws' := [(aT, .inr (2, [.ref aB, .int (nI u), .int (nI en), .int (nI h_61), .int na_49, .int w, .int wa])), (aB, .inl (kB, 65536, .inl B))]) [4, 5] (by decide) rfl
                  have hKc := hK.sub (tys' := [(kB, .byte)]) [0] rfl
                  have hFc := va_free (wc := [(aT, .inr (2, [.ref aB, .int (nI u), .int (nI en), .int (nI h_61), .int na_49, .int w, .int wa])), (aB, .inl (kB, 65536, .inl B))]) hD hS hA [4, 5] rfl
                  refine va_calli (va_runV (As := [.int 44]) (rest := []) ⟨hx, hb, hml, hown, hts⟩ (c_Tp_takes l G dC dI H.size aT aB u en h_61 na_49 w wa kB B 44 (by omega) (by omega)) (cwV 1 hts (gV tw_379 tw_380 tw_381 tw_3 tw_382 rfl) rfl rfl rfl (by decide +kernel) ⟨Nat.le_of_ble_eq_true rfl, Nat.le_of_ble_eq_true rfl⟩) (PW_preV hPc hKc hDc hE hS hFc (ci := 2) (q0 := 0) rfl rfl) rfl rfl hl.1 rfl (lv_room (Nat.le_of_ble_eq_true rfl)) d_Rd_takeThings_168 ⟨Nat.le_of_ble_eq_true rfl, Nat.le_of_ble_eq_true rfl⟩) hS (fun q _ h => hFc q h) hFc (fun r_68 uu t H1 locs ht hvm hw_70 hB hz1 hk1 hS => ?_)
                  obtain ⟨h_69, rfl⟩ : ∃ z, z = uu := ⟨_, rfl⟩
                  obtain ⟨hP1, hD1, hsz1⟩ := hB
                  rw [ht] at hP1 hsz1
                  obtain ⟨hP, hD⟩ := va_join (wr := [(aR, .inr (0, [.ref aT, .ref aS])), (aS, .inr (1, [.ref aN, .ref aC])), (aN, .inl (kN, 5, .inl (fun j => nI ((zuN cnt ka (i + 1)) j)))), (aC, .inl (kC, 52035, .inl cel_50))]) (w1 := [(aT, .inr (2, [.ref aB, .int (nI u), .int (nI en), .int (nI h_69), .int na_49, .int w, .int wa])), (aB, .inl (kB, 65536, .inl B))]) hP hD [4, 5] [0, 1, 2, 3] rfl rfl (by decide) (by decide) hk1 hFc hP1 hD1
                  generalize H1 = H at hP hS ⊢
                  have hP : va_P (dC, dI) vwCl [(aR, .inr (0, [.ref aT, .ref aS])), (aS, .inr (1, [.ref aN, .ref aC])), (aN, .inl (kN, 5, .inl (fun j => nI ((zuN cnt ka (i + 1)) j)))), (aC, .inl (kC, 52035, .inl cel_50)), (aT, .inr (2, [.ref aB, .int (nI u), .int (nI en), .int (nI h_69), .int na_49, .int w, .int wa])), (aB, .inl (kB, 65536, .inl B))] H := hP
                  have hD : va_D A [(aR, .inr (0, [.ref aT, .ref aS])), (aS, .inr (1, [.ref aN, .ref aC])), (aN, .inl (kN, 5, .inl (fun j => nI ((zuN cnt ka (i + 1)) j)))), (aC, .inl (kC, 52035, .inl cel_50)), (aT, .inr (2, [.ref aB, .int (nI u), .int (nI en), .int (nI h_69), .int na_49, .int w, .int wa])), (aB, .inl (kB, 65536, .inl B))] := hD
                  by_cases hs_71 : h_61 < en ∧ B h_61 = 44
                  ·
                    obtain ⟨e1, e2⟩ := hw_70
                    rw [if_pos hs_71] at e1 e2; subst e1; have e2 := e2.symm; subst e2
                    have hs_71i := zK_le (B := B) (en := en) (i := h_61 + 1) (by omega)
                    refine lv_istore_n (lv' := [(3, .int 1), (5, .int (nI (zST ka + i * zWD ka))), (0, .ref aR), (1, .int (nI ka)), (2, .int (nI (zM ka))), (4, .int (nI i))]) hx hb d_Rd_takeThings_171 rfl hl (by decide) rfl (fun ls hl => ?_)
                    refine lv_iinc (v := nI (i + 1)) (lv' := [(4, .int (nI (i + 1))), (3, .int 1), (5, .int (nI (zST ka + i * zWD ka))), (0, .ref aR), (1, .int (nI ka)), (2, .int (nI (zM ka)))]) hx hb d_Rd_takeThings_172 hl (k := 5) rfl (nI_add i 1) (by decide) rfl (fun ls hl => ?_)
                    refine lv_goto (tgt := 35) hx hb d_Rd_takeThings_175 (by decide) ?_
                    refine lv_iload hx hb d_Rd_takeThings_35 (lv_at hl 0 rfl) ?_
                    refine lv_iload_n hx hb d_Rd_takeThings_37 rfl (lv_at hl 5 rfl) ?_
                    refine lv_icmp_gt (tgt := 178) hx hb d_Rd_takeThings_38 (by decide) (fun c_72 => ?_) (fun c_72 => ?_)
                    ·
                      exact absurd c_72 (nI_nlt (a := zM ka) (b := i + 1) (by omega) (by omega))
                    ·
                      refine lv_iload_n hx hb d_Rd_takeThings_41 rfl (lv_at hl 1 rfl) ?_
                      refine lv_if_eq (tgt := 178) hx hb d_Rd_takeThings_42 (by decide) (fun c_73 => ?_) (fun c_73 => ?_)
                      ·
                        exact absurd c_73 (by decide)
                      ·
                        exact ih (i + 1) (zK B en (h_61 + 1)) na_49 cel_50 (by omega) (by omega) (by omega) (by rw [hI, zThs_step (by omega), if_neg c_1, hth_59]; simp only [zB_ok, hw_62]; rw [if_pos hs_71]) _ _ (hP.sub [0, 4, 5, 1, 2, 3] rfl) (hD.sub [0, 4, 5, 1, 2, 3] (by decide) rfl) hS ls (lv_sub hl [3, 4, 5, 0] rfl)
                  ·
                    obtain ⟨e1, e2⟩ := hw_70
                    rw [if_neg hs_71] at e1 e2; subst e1; have e2 := e2.symm; subst e2
                    refine lv_istore_n (lv' := [(3, .int 0), (5, .int (nI (zST ka + i * zWD ka))), (0, .ref aR), (1, .int (nI ka)), (2, .int (nI (zM ka))), (4, .int (nI i))]) hx hb d_Rd_takeThings_171 rfl hl (by decide) rfl (fun ls hl => ?_)
                    refine lv_iinc (v := nI (i + 1)) (lv' := [(4, .int (nI (i + 1))), (3, .int 0), (5, .int (nI (zST ka + i * zWD ka))), (0, .ref aR), (1, .int (nI ka)), (2, .int (nI (zM ka)))]) hx hb d_Rd_takeThings_172 hl (k := 5) rfl (nI_add i 1) (by decide) rfl (fun ls hl => ?_)
                    refine lv_goto (tgt := 35) hx hb d_Rd_takeThings_175 (by decide) ?_
                    refine lv_iload hx hb d_Rd_takeThings_35 (lv_at hl 0 rfl) ?_
                    refine lv_iload_n hx hb d_Rd_takeThings_37 rfl (lv_at hl 5 rfl) ?_
                    refine lv_icmp_gt (tgt := 178) hx hb d_Rd_takeThings_38 (by decide) (fun c_74 => ?_) (fun c_74 => ?_)
                    ·
                      exact absurd c_74 (nI_nlt (a := zM ka) (b := i + 1) (by omega) (by omega))
                    ·
                      refine lv_iload_n hx hb d_Rd_takeThings_41 rfl (lv_at hl 1 rfl) ?_
                      refine lv_if_eq (tgt := 178) hx hb d_Rd_takeThings_42 (by decide) (fun c_75 => ?_) (fun c_75 => ?_)
                      ·
                        have tl_76 : zThings B en ka cnt (h, cel) = zEnd B en (i + 1, h_61, cel_50) := by rw [hI, zThs_step (by omega), if_neg c_1, hth_59]; simp only [zB_ok, hw_62]; rw [if_neg hs_71, zB_ok]
                        refine lv_aload_n hx hb d_Rd_takeThings_178 rfl (lv_at hl 3 rfl) ?_
                        refine va_get (D := (dC, dI)) (ci := 0) (v := .ref aT) (C := R_Rd) (T := F_Rd) (N := 2) hx hb hz i_Rd hown hK hP 0 rfl rfl 0 (by decide) (hz _ tw_84) (fun _ h9 => h9) rfl d_Rd_takeThings_179 ?_
                        refine lv_bipush (v := 93) hx hb d_Rd_takeThings_182 (by decide) ?_
                        have hPc := hP.sub (ws' := [(aT, .inr (2, [.ref aB, .int (nI u), .int (nI en), .int (nI h_61), .int na_49, .int w, .int wa])), (aB, .inl (kB, 65536, .inl B))]) [4, 5] rfl
                        have hDc := hD.sub (ws' := [(aT, .inr (2, [.ref aB, .int (nI u), .int (nI en), .int (nI h_61), .int na_49, .int w, .int wa])), (aB, .inl (kB, 65536, .inl B))]) [4, 5] (by decide) rfl
                        have hKc := hK.sub (tys' := [(kB, .byte)]) [0] rfl
                        have hFc := va_free (wc := [(aT, .inr (2, [.ref aB, .int (nI u), .int (nI en), .int (nI h_61), .int na_49, .int w, .int wa])), (aB, .inl (kB, 65536, .inl B))]) hD hS hA [4, 5] rfl
                        refine zt_size (fun hzs => ?_)
                        refine vx_callv (vx_runV (As := [.int 93]) (rest := []) ⟨hx, hb, hml, hown, hts⟩ (c_Tp_mustTake l hst G dC dI H.size aT aB u en h_61 na_49 w wa kB B 93 (by omega) (by omega)) (cwV 1 hts (gV tw_214 tw_215 tw_216 tw_3 tw_217 rfl) rfl rfl rfl (by decide +kernel) ⟨Nat.le_of_ble_eq_true rfl, Nat.le_of_ble_eq_true rfl⟩) (PW_preV hPc hKc hDc hE hS hFc (ci := 2) (q0 := 0) rfl rfl) rfl rfl hl.1 rfl (lv_room (Nat.le_of_ble_eq_true rfl)) d_Rd_takeThings_184 ⟨Nat.le_of_ble_eq_true rfl, Nat.le_of_ble_eq_true rfl⟩) hS (fun q _ h => hFc q h) hFc (fun q _ h => hFc q h) (fun E9 ce9 q9 uu t H1 locs ht hvm hx_84 hB hz1 hk1 hS hce hcv hcl => ?_) (fun uu t H1 locs ht hvm hw_79 hB hz1 hk1 hS => ?_)
                        ·
                          obtain ⟨w_80, k_81, h_82, na_83⟩ := uu
                          obtain ⟨hEn, hP1, hD1⟩ := hB
                          rw [ht] at hP1
                          obtain ⟨hP, hD⟩ := va_join (wr := [(aR, .inr (0, [.ref aT, .ref aS])), (aS, .inr (1, [.ref aN, .ref aC])), (aN, .inl (kN, 5, .inl (fun j => nI ((zuN cnt ka (i + 1)) j)))), (aC, .inl (kC, 52035, .inl cel_50))]) (w1 := [(aT, .inr (2, [.ref aB, .int (nI u), .int (nI en), .int (nI h_82), .int na_83, .int w_80, .int (nI k_81)])), (aB, .inl (kB, 65536, .inl B))]) hP hD [4, 5] [0, 1, 2, 3] rfl rfl (by decide) (by decide) hk1 hFc hP1 hD1
                          generalize H1 = H at hP hS hce ⊢
                          have hP : va_P (dC, dI) vwCl [(aR, .inr (0, [.ref aT, .ref aS])), (aS, .inr (1, [.ref aN, .ref aC])), (aN, .inl (kN, 5, .inl (fun j => nI ((zuN cnt ka (i + 1)) j)))), (aC, .inl (kC, 52035, .inl cel_50)), (aT, .inr (2, [.ref aB, .int (nI u), .int (nI en), .int (nI h_82), .int na_83, .int w_80, .int (nI k_81)])), (aB, .inl (kB, 65536, .inl B))] H := hP
                          have hD : va_D A [(aR, .inr (0, [.ref aT, .ref aS])), (aS, .inr (1, [.ref aN, .ref aC])), (aN, .inl (kN, 5, .inl (fun j => nI ((zuN cnt ka (i + 1)) j)))), (aC, .inl (kC, 52035, .inl cel_50)), (aT, .inr (2, [.ref aB, .int (nI u), .int (nI en), .int (nI h_82), .int na_83, .int w_80, .int (nI k_81)])), (aB, .inl (kB, 65536, .inl B))] := hD
                          have hP9 := hP.sub (ws' := [(aR, .inr (0, [.ref aT, .ref aS])), (aT, .inr (2, [.ref aB, .int (nI u), .int (nI en), .int (nI h_82), .int na_83, .int w_80, .int (nI k_81)])), (aB, .inl (kB, 65536, .inl B)), (aS, .inr (1, [.ref aN, .ref aC])), (aN, .inl (kN, 5, .inl (fun j => nI ((zuN cnt ka (i + 1)) j)))), (aC, .inl (kC, 52035, .inl cel_50))]) [0, 4, 5, 1, 2, 3] rfl
                          have hD9 := hD.sub (ws' := [(aR, .inr (0, [.ref aT, .ref aS])), (aT, .inr (2, [.ref aB, .int (nI u), .int (nI en), .int (nI h_82), .int na_83, .int w_80, .int (nI k_81)])), (aB, .inl (kB, 65536, .inl B)), (aS, .inr (1, [.ref aN, .ref aC])), (aN, .inl (kN, 5, .inl (fun j => nI ((zuN cnt ka (i + 1)) j)))), (aC, .inl (kC, 52035, .inl cel_50))]) [0, 4, 5, 1, 2, 3] (by decide) rfl
                          exact vx_out (fun x hx => (htab x hx).elim) hlocks hce hcv hcl (fun t ht hvm => ⟨(w_80, k_81, h_82, na_83, zuN cnt ka (i + 1), cel_50), by rw [tl_76]; simp only [zEnd, zB_er, hx_84], ⟨hEn, by rw [ht]; exact hP9, hD9⟩, hS.F ht⟩) hS.2.2 (by decide) (by decide)
                        ·
                          obtain ⟨h_78, rfl⟩ : ∃ z, z = uu := ⟨_, rfl⟩
                          obtain ⟨hP1, hD1, hsz1⟩ := hB
                          rw [ht] at hP1 hsz1
                          obtain ⟨hP, hD⟩ := va_join (wr := [(aR, .inr (0, [.ref aT, .ref aS])), (aS, .inr (1, [.ref aN, .ref aC])), (aN, .inl (kN, 5, .inl (fun j => nI ((zuN cnt ka (i + 1)) j)))), (aC, .inl (kC, 52035, .inl cel_50))]) (w1 := [(aT, .inr (2, [.ref aB, .int (nI u), .int (nI en), .int (nI h_78), .int na_49, .int w, .int wa])), (aB, .inl (kB, 65536, .inl B))]) hP hD [4, 5] [0, 1, 2, 3] rfl rfl (by decide) (by decide) hk1 hFc hP1 hD1
                          refine zt_tight (hsz1.trans hzs) ?_
                          generalize H1 = H at hP hS ⊢
                          have hP : va_P (dC, dI) vwCl [(aR, .inr (0, [.ref aT, .ref aS])), (aS, .inr (1, [.ref aN, .ref aC])), (aN, .inl (kN, 5, .inl (fun j => nI ((zuN cnt ka (i + 1)) j)))), (aC, .inl (kC, 52035, .inl cel_50)), (aT, .inr (2, [.ref aB, .int (nI u), .int (nI en), .int (nI h_78), .int na_49, .int w, .int wa])), (aB, .inl (kB, 65536, .inl B))] H := hP
                          have hD : va_D A [(aR, .inr (0, [.ref aT, .ref aS])), (aS, .inr (1, [.ref aN, .ref aC])), (aN, .inl (kN, 5, .inl (fun j => nI ((zuN cnt ka (i + 1)) j)))), (aC, .inl (kC, 52035, .inl cel_50)), (aT, .inr (2, [.ref aB, .int (nI u), .int (nI en), .int (nI h_78), .int na_49, .int w, .int wa])), (aB, .inl (kB, 65536, .inl B))] := hD
                          have hw_79i := zMust_in hw_79
                          refine zt_size (fun hzs => ?_)
                          have hP9 := hP.sub (ws' := [(aR, .inr (0, [.ref aT, .ref aS])), (aT, .inr (2, [.ref aB, .int (nI u), .int (nI en), .int (nI h_78), .int na_49, .int w, .int wa])), (aB, .inl (kB, 65536, .inl B)), (aS, .inr (1, [.ref aN, .ref aC])), (aN, .inl (kN, 5, .inl (fun j => nI ((zuN cnt ka (i + 1)) j)))), (aC, .inl (kC, 52035, .inl cel_50))]) [0, 4, 5, 1, 2, 3] rfl
                          have hD9 := hD.sub (ws' := [(aR, .inr (0, [.ref aT, .ref aS])), (aT, .inr (2, [.ref aB, .int (nI u), .int (nI en), .int (nI h_78), .int na_49, .int w, .int wa])), (aB, .inl (kB, 65536, .inl B)), (aS, .inr (1, [.ref aN, .ref aC])), (aN, .inl (kN, 5, .inl (fun j => nI ((zuN cnt ka (i + 1)) j)))), (aC, .inl (kC, 52035, .inl cel_50))]) [0, 4, 5, 1, 2, 3] (by decide) rfl
                          refine W.widen (k := 1) (n := 6) (by decide) (by decide) ?_
                          exact vx_ret (W.vret hx hb hr (fun t ht hW => ⟨⟨(h_78, na_49, zuN cnt ka (i + 1), cel_50, i + 1), rfl, ⟨by rw [tl_76]; simp only [zEnd, zB_ok, hw_79], rfl⟩, by rw [ht]; exact hP9, hD9, by rw [ht]; exact hzs⟩, hS.F ht⟩) hS.2.2 d_Rd_takeThings_187)
                      ·
                        exact absurd (by decide) c_75
          ·
            have c_7 : ka = 2 := (@nI_eq ka 2 (by omega) (by omega)).mp c_7
            refine lv_aload_n hx hb d_Rd_takeThings_124 rfl (lv_at hl 1 rfl) ?_
            refine lv_iload hx hb d_Rd_takeThings_125 (lv_at hl 0 rfl) ?_
            have hPc := hP.sub (ws' := [(aR, .inr (0, [.ref aT, .ref aS])), (aT, .inr (2, [.ref aB, .int (nI u), .int (nI en), .int (nI h2), .int na2, .int w, .int wa])), (aB, .inl (kB, 65536, .inl B)), (aS, .inr (1, [.ref aN, .ref aC])), (aN, .inl (kN, 5, .inl (fun j => nI ((zuN cnt ka (i + 1)) j)))), (aC, .inl (kC, 52035, .inl cel2))]) [0, 1, 2, 3, 4, 5] rfl
            have hDc := hD.sub (ws' := [(aR, .inr (0, [.ref aT, .ref aS])), (aT, .inr (2, [.ref aB, .int (nI u), .int (nI en), .int (nI h2), .int na2, .int w, .int wa])), (aB, .inl (kB, 65536, .inl B)), (aS, .inr (1, [.ref aN, .ref aC])), (aN, .inl (kN, 5, .inl (fun j => nI ((zuN cnt ka (i + 1)) j)))), (aC, .inl (kC, 52035, .inl cel2))]) [0, 1, 2, 3, 4, 5] (by decide) rfl
            have hKc := hK.sub (tys' := [(kB, .byte), (kN, .int), (kC, .int)]) [0, 1, 2] rfl
            have hFc := va_free (wc := [(aR, .inr (0, [.ref aT, .ref aS])), (aT, .inr (2, [.ref aB, .int (nI u), .int (nI en), .int (nI h2), .int na2, .int w, .int wa])), (aB, .inl (kB, 65536, .inl B)), (aS, .inr (1, [.ref aN, .ref aC])), (aN, .inl (kN, 5, .inl (fun j => nI ((zuN cnt ka (i + 1)) j)))), (aC, .inl (kC, 52035, .inl cel2))]) hD hS hA [0, 1, 2, 3, 4, 5] rfl
            refine zt_size (fun hzs => ?_)
            refine vx_callv (vx_runV (As := [.int (nI (zST ka + i * zWD ka))]) (rest := []) ⟨hx, hb, hml, hown, hts⟩ (c_Rd_takeMesh l hst G dC dI H.size aR aT aS aB u en h2 na2 w wa kB B aN aC kN (zuN cnt ka (i + 1)) kC cel2 (zST ka + i * zWD ka) (by omega) (by omega) (by have q := zcell (ka := ka) (i := i) (by omega) (by omega); rw [show ka = 2 by omega] at q ⊢; exact q)) (cwV 1 hts (gV tw_428 tw_430 ts_15 tw_2 tw_431 rfl) rfl rfl rfl (by decide +kernel) ⟨Nat.le_of_ble_eq_true rfl, Nat.le_of_ble_eq_true rfl⟩) (PW_preV hPc hKc hDc hE hS hFc (ci := 0) (q0 := 0) rfl rfl) rfl rfl hl.1 rfl (lv_room (Nat.le_of_ble_eq_true rfl)) d_Rd_takeThings_127 ⟨Nat.le_of_ble_eq_true rfl, Nat.le_of_ble_eq_true rfl⟩) hS (fun q _ h => hFc q h) hFc (fun q _ h => hFc q h) (fun E9 ce9 q9 uu t H1 locs ht hvm hx_96 hB hz1 hk1 hS hce hcv hcl => ?_) (fun uu t H1 locs ht hvm hw_89 hB hz1 hk1 hS => ?_)
            ·
              obtain ⟨w_90, k_91, h_92, na_93, cnt_94, cel_95⟩ := uu
              obtain ⟨hEn, hP1, hD1⟩ := hB
              rw [ht] at hP1
              obtain ⟨hP, hD⟩ := va_join (wr := []) (w1 := [(aR, .inr (0, [.ref aT, .ref aS])), (aT, .inr (2, [.ref aB, .int (nI u), .int (nI en), .int (nI h_92), .int na_93, .int w_90, .int (nI k_91)])), (aB, .inl (kB, 65536, .inl B)), (aS, .inr (1, [.ref aN, .ref aC])), (aN, .inl (kN, 5, .inl (fun j => nI (cnt_94 j)))), (aC, .inl (kC, 52035, .inl cel_95))]) hP hD [0, 1, 2, 3, 4, 5] [] rfl rfl (by decide) (by decide) hk1 hFc hP1 hD1
              generalize H1 = H at hP hS hce ⊢
              have hP : va_P (dC, dI) vwCl [(aR, .inr (0, [.ref aT, .ref aS])), (aT, .inr (2, [.ref aB, .int (nI u), .int (nI en), .int (nI h_92), .int na_93, .int w_90, .int (nI k_91)])), (aB, .inl (kB, 65536, .inl B)), (aS, .inr (1, [.ref aN, .ref aC])), (aN, .inl (kN, 5, .inl (fun j => nI (cnt_94 j)))), (aC, .inl (kC, 52035, .inl cel_95))] H := hP
              have hD : va_D A [(aR, .inr (0, [.ref aT, .ref aS])), (aT, .inr (2, [.ref aB, .int (nI u), .int (nI en), .int (nI h_92), .int na_93, .int w_90, .int (nI k_91)])), (aB, .inl (kB, 65536, .inl B)), (aS, .inr (1, [.ref aN, .ref aC])), (aN, .inl (kN, 5, .inl (fun j => nI (cnt_94 j)))), (aC, .inl (kC, 52035, .inl cel_95))] := hD
              have hP9 := hP.sub (ws' := [(aR, .inr (0, [.ref aT, .ref aS])), (aT, .inr (2, [.ref aB, .int (nI u), .int (nI en), .int (nI h_92), .int na_93, .int w_90, .int (nI k_91)])), (aB, .inl (kB, 65536, .inl B)), (aS, .inr (1, [.ref aN, .ref aC])), (aN, .inl (kN, 5, .inl (fun j => nI (cnt_94 j)))), (aC, .inl (kC, 52035, .inl cel_95))]) [0, 1, 2, 3, 4, 5] rfl
              have hD9 := hD.sub (ws' := [(aR, .inr (0, [.ref aT, .ref aS])), (aT, .inr (2, [.ref aB, .int (nI u), .int (nI en), .int (nI h_92), .int na_93, .int w_90, .int (nI k_91)])), (aB, .inl (kB, 65536, .inl B)), (aS, .inr (1, [.ref aN, .ref aC])), (aN, .inl (kN, 5, .inl (fun j => nI (cnt_94 j)))), (aC, .inl (kC, 52035, .inl cel_95))]) [0, 1, 2, 3, 4, 5] (by decide) rfl
              exact vx_out (fun x hx => (htab x hx).elim) hlocks hce hcv hcl (fun t ht hvm => ⟨(w_90, k_91, h_92, na_93, cnt_94, cel_95), by rw [hI, zThs_step (by omega), if_neg c_1, show zThing B en ka (zuN cnt ka (i + 1)) (zST ka + i * zWD ka) (h2, cel2) = .error (w_90, k_91) from (by unfold zThing; rw [if_neg c_5, if_neg c_6, if_pos c_7]; exact hx_96), zB_er, zB_er], ⟨hEn, by rw [ht]; exact hP9, hD9⟩, hS.F ht⟩) hS.2.2 (by decide) (by decide)
            ·
              obtain ⟨h_86, na_87, cel_88⟩ := uu
              obtain ⟨hP1, hD1, hsz1⟩ := hB
              rw [ht] at hP1 hsz1
              obtain ⟨hP, hD⟩ := va_join (wr := []) (w1 := [(aR, .inr (0, [.ref aT, .ref aS])), (aT, .inr (2, [.ref aB, .int (nI u), .int (nI en), .int (nI h_86), .int na_87, .int w, .int wa])), (aB, .inl (kB, 65536, .inl B)), (aS, .inr (1, [.ref aN, .ref aC])), (aN, .inl (kN, 5, .inl (fun j => nI ((zuN cnt ka (i + 1)) j)))), (aC, .inl (kC, 52035, .inl cel_88))]) hP hD [0, 1, 2, 3, 4, 5] [] rfl rfl (by decide) (by decide) hk1 hFc hP1 hD1
              refine zt_tight (hsz1.trans hzs) ?_
              generalize H1 = H at hP hS ⊢
              have hP : va_P (dC, dI) vwCl [(aR, .inr (0, [.ref aT, .ref aS])), (aT, .inr (2, [.ref aB, .int (nI u), .int (nI en), .int (nI h_86), .int na_87, .int w, .int wa])), (aB, .inl (kB, 65536, .inl B)), (aS, .inr (1, [.ref aN, .ref aC])), (aN, .inl (kN, 5, .inl (fun j => nI ((zuN cnt ka (i + 1)) j)))), (aC, .inl (kC, 52035, .inl cel_88))] H := hP
              have hD : va_D A [(aR, .inr (0, [.ref aT, .ref aS])), (aT, .inr (2, [.ref aB, .int (nI u), .int (nI en), .int (nI h_86), .int na_87, .int w, .int wa])), (aB, .inl (kB, 65536, .inl B)), (aS, .inr (1, [.ref aN, .ref aC])), (aN, .inl (kN, 5, .inl (fun j => nI ((zuN cnt ka (i + 1)) j)))), (aC, .inl (kC, 52035, .inl cel_88))] := hD
              have hw_89i : h_86 ≤ en := zMesh_in hw_89
              have hth_97 : zThing B en ka (zuN cnt ka (i + 1)) (zST ka + i * zWD ka) (h2, cel2) = .ok (h_86, cel_88) := by unfold zThing; rw [if_neg c_5, if_neg c_6, if_pos c_7]; exact hw_89
              refine lv_goto (tgt := 153) hx hb d_Rd_takeThings_130 (by decide) ?_
              refine lv_aload_n hx hb d_Rd_takeThings_153 rfl (lv_at hl 1 rfl) ?_
              refine va_get (D := (dC, dI)) (ci := 0) (v := .ref aT) (C := R_Rd) (T := F_Rd) (N := 2) hx hb hz i_Rd hown hK hP 0 rfl rfl 0 (by decide) (hz _ tw_84) (fun _ h9 => h9) rfl d_Rd_takeThings_154 ?_
              refine lv_bipush (v := 125) hx hb d_Rd_takeThings_157 (by decide) ?_
              have hPc := hP.sub (ws' := [(aT, .inr (2, [.ref aB, .int (nI u), .int (nI en), .int (nI h_86), .int na_87, .int w, .int wa])), (aB, .inl (kB, 65536, .inl B))]) [1, 2] rfl
              have hDc := hD.sub (ws' := [(aT, .inr (2, [.ref aB, .int (nI u), .int (nI en), .int (nI h_86), .int na_87, .int w, .int wa])), (aB, .inl (kB, 65536, .inl B))]) [1, 2] (by decide) rfl
              have hKc := hK.sub (tys' := [(kB, .byte)]) [0] rfl
              have hFc := va_free (wc := [(aT, .inr (2, [.ref aB, .int (nI u), .int (nI en), .int (nI h_86), .int na_87, .int w, .int wa])), (aB, .inl (kB, 65536, .inl B))]) hD hS hA [1, 2] rfl
              refine zt_size (fun hzs => ?_)
              refine vx_callv (vx_runV (As := [.int 125]) (rest := []) ⟨hx, hb, hml, hown, hts⟩ (c_Tp_mustTake l hst G dC dI H.size aT aB u en h_86 na_87 w wa kB B 125 (by omega) (by omega)) (cwV 1 hts (gV tw_214 tw_215 tw_216 tw_3 tw_217 rfl) rfl rfl rfl (by decide +kernel) ⟨Nat.le_of_ble_eq_true rfl, Nat.le_of_ble_eq_true rfl⟩) (PW_preV hPc hKc hDc hE hS hFc (ci := 2) (q0 := 0) rfl rfl) rfl rfl hl.1 rfl (lv_room (Nat.le_of_ble_eq_true rfl)) d_Rd_takeThings_159 ⟨Nat.le_of_ble_eq_true rfl, Nat.le_of_ble_eq_true rfl⟩) hS (fun q _ h => hFc q h) hFc (fun q _ h => hFc q h) (fun E9 ce9 q9 uu t H1 locs ht hvm hx_105 hB hz1 hk1 hS hce hcv hcl => ?_) (fun uu t H1 locs ht hvm hw_100 hB hz1 hk1 hS => ?_)
              ·
                obtain ⟨w_101, k_102, h_103, na_104⟩ := uu
                obtain ⟨hEn, hP1, hD1⟩ := hB
                rw [ht] at hP1
                obtain ⟨hP, hD⟩ := va_join (wr := [(aR, .inr (0, [.ref aT, .ref aS])), (aS, .inr (1, [.ref aN, .ref aC])), (aN, .inl (kN, 5, .inl (fun j => nI ((zuN cnt ka (i + 1)) j)))), (aC, .inl (kC, 52035, .inl cel_88))]) (w1 := [(aT, .inr (2, [.ref aB, .int (nI u), .int (nI en), .int (nI h_103), .int na_104, .int w_101, .int (nI k_102)])), (aB, .inl (kB, 65536, .inl B))]) hP hD [1, 2] [0, 3, 4, 5] rfl rfl (by decide) (by decide) hk1 hFc hP1 hD1
                generalize H1 = H at hP hS hce ⊢
                have hP : va_P (dC, dI) vwCl [(aR, .inr (0, [.ref aT, .ref aS])), (aS, .inr (1, [.ref aN, .ref aC])), (aN, .inl (kN, 5, .inl (fun j => nI ((zuN cnt ka (i + 1)) j)))), (aC, .inl (kC, 52035, .inl cel_88)), (aT, .inr (2, [.ref aB, .int (nI u), .int (nI en), .int (nI h_103), .int na_104, .int w_101, .int (nI k_102)])), (aB, .inl (kB, 65536, .inl B))] H := hP
                have hD : va_D A [(aR, .inr (0, [.ref aT, .ref aS])), (aS, .inr (1, [.ref aN, .ref aC])), (aN, .inl (kN, 5, .inl (fun j => nI ((zuN cnt ka (i + 1)) j)))), (aC, .inl (kC, 52035, .inl cel_88)), (aT, .inr (2, [.ref aB, .int (nI u), .int (nI en), .int (nI h_103), .int na_104, .int w_101, .int (nI k_102)])), (aB, .inl (kB, 65536, .inl B))] := hD
                have hP9 := hP.sub (ws' := [(aR, .inr (0, [.ref aT, .ref aS])), (aT, .inr (2, [.ref aB, .int (nI u), .int (nI en), .int (nI h_103), .int na_104, .int w_101, .int (nI k_102)])), (aB, .inl (kB, 65536, .inl B)), (aS, .inr (1, [.ref aN, .ref aC])), (aN, .inl (kN, 5, .inl (fun j => nI ((zuN cnt ka (i + 1)) j)))), (aC, .inl (kC, 52035, .inl cel_88))]) [0, 4, 5, 1, 2, 3] rfl
                have hD9 := hD.sub (ws' := [(aR, .inr (0, [.ref aT, .ref aS])), (aT, .inr (2, [.ref aB, .int (nI u), .int (nI en), .int (nI h_103), .int na_104, .int w_101, .int (nI k_102)])), (aB, .inl (kB, 65536, .inl B)), (aS, .inr (1, [.ref aN, .ref aC])), (aN, .inl (kN, 5, .inl (fun j => nI ((zuN cnt ka (i + 1)) j)))), (aC, .inl (kC, 52035, .inl cel_88))]) [0, 4, 5, 1, 2, 3] (by decide) rfl
                exact vx_out (fun x hx => (htab x hx).elim) hlocks hce hcv hcl (fun t ht hvm => ⟨(w_101, k_102, h_103, na_104, zuN cnt ka (i + 1), cel_88), by rw [hI, zThs_step (by omega), if_neg c_1, hth_97]; simp only [zB_ok, zB_er, hx_105], ⟨hEn, by rw [ht]; exact hP9, hD9⟩, hS.F ht⟩) hS.2.2 (by decide) (by decide)
              ·
                obtain ⟨h_99, rfl⟩ : ∃ z, z = uu := ⟨_, rfl⟩
                obtain ⟨hP1, hD1, hsz1⟩ := hB
                rw [ht] at hP1 hsz1
                obtain ⟨hP, hD⟩ := va_join (wr := [(aR, .inr (0, [.ref aT, .ref aS])), (aS, .inr (1, [.ref aN, .ref aC])), (aN, .inl (kN, 5, .inl (fun j => nI ((zuN cnt ka (i + 1)) j)))), (aC, .inl (kC, 52035, .inl cel_88))]) (w1 := [(aT, .inr (2, [.ref aB, .int (nI u), .int (nI en), .int (nI h_99), .int na_87, .int w, .int wa])), (aB, .inl (kB, 65536, .inl B))]) hP hD [1, 2] [0, 3, 4, 5] rfl rfl (by decide) (by decide) hk1 hFc hP1 hD1
                refine zt_tight (hsz1.trans hzs) ?_
                generalize H1 = H at hP hS ⊢
                have hP : va_P (dC, dI) vwCl [(aR, .inr (0, [.ref aT, .ref aS])), (aS, .inr (1, [.ref aN, .ref aC])), (aN, .inl (kN, 5, .inl (fun j => nI ((zuN cnt ka (i + 1)) j)))), (aC, .inl (kC, 52035, .inl cel_88)), (aT, .inr (2, [.ref aB, .int (nI u), .int (nI en), .int (nI h_99), .int na_87, .int w, .int wa])), (aB, .inl (kB, 65536, .inl B))] H := hP
                have hD : va_D A [(aR, .inr (0, [.ref aT, .ref aS])), (aS, .inr (1, [.ref aN, .ref aC])), (aN, .inl (kN, 5, .inl (fun j => nI ((zuN cnt ka (i + 1)) j)))), (aC, .inl (kC, 52035, .inl cel_88)), (aT, .inr (2, [.ref aB, .int (nI u), .int (nI en), .int (nI h_99), .int na_87, .int w, .int wa])), (aB, .inl (kB, 65536, .inl B))] := hD
                have hw_100i := zMust_in hw_100
                refine lv_aload_n hx hb d_Rd_takeThings_162 rfl (lv_at hl 1 rfl) ?_
                refine va_get (D := (dC, dI)) (ci := 0) (v := .ref aT) (C := R_Rd) (T := F_Rd) (N := 2) hx hb hz i_Rd hown hK hP 0 rfl rfl 0 (by decide) (hz _ tw_84) (fun _ h9 => h9) rfl d_Rd_takeThings_163 ?_
                refine lv_bipush (v := 44) hx hb d_Rd_takeThings_166 (by decide) ?_
                have hPc := hP.sub (ws' := [(aT, .inr (2, [.ref aB, .int (nI u), .int (nI en), .int (nI h_99), .int na_87, .int w, .int wa])), (aB, .inl (kB, 65536, .inl B))]) [4, 5] rfl
                have hDc := hD.sub (ws' := [(aT, .inr (2, [.ref aB, .int (nI u), .int (nI en), .int (nI h_99), .int na_87, .int w, .int wa])), (aB, .inl (kB, 65536, .inl B))]) [4, 5] (by decide) rfl
                have hKc := hK.sub (tys' := [(kB, .byte)]) [0] rfl
                have hFc := va_free (wc := [(aT, .inr (2, [.ref aB, .int (nI u), .int (nI en), .int (nI h_99), .int na_87, .int w, .int wa])), (aB, .inl (kB, 65536, .inl B))]) hD hS hA [4, 5] rfl
                refine va_calli (va_runV (As := [.int 44]) (rest := []) ⟨hx, hb, hml, hown, hts⟩ (c_Tp_takes l G dC dI H.size aT aB u en h_99 na_87 w wa kB B 44 (by omega) (by omega)) (cwV 1 hts (gV tw_379 tw_380 tw_381 tw_3 tw_382 rfl) rfl rfl rfl (by decide +kernel) ⟨Nat.le_of_ble_eq_true rfl, Nat.le_of_ble_eq_true rfl⟩) (PW_preV hPc hKc hDc hE hS hFc (ci := 2) (q0 := 0) rfl rfl) rfl rfl hl.1 rfl (lv_room (Nat.le_of_ble_eq_true rfl)) d_Rd_takeThings_168 ⟨Nat.le_of_ble_eq_true rfl, Nat.le_of_ble_eq_true rfl⟩) hS (fun q _ h => hFc q h) hFc (fun r_106 uu t H1 locs ht hvm hw_108 hB hz1 hk1 hS => ?_)
                obtain ⟨h_107, rfl⟩ : ∃ z, z = uu := ⟨_, rfl⟩
                obtain ⟨hP1, hD1, hsz1⟩ := hB
                rw [ht] at hP1 hsz1
                obtain ⟨hP, hD⟩ := va_join (wr := [(aR, .inr (0, [.ref aT, .ref aS])), (aS, .inr (1, [.ref aN, .ref aC])), (aN, .inl (kN, 5, .inl (fun j => nI ((zuN cnt ka (i + 1)) j)))), (aC, .inl (kC, 52035, .inl cel_88))]) (w1 := [(aT, .inr (2, [.ref aB, .int (nI u), .int (nI en), .int (nI h_107), .int na_87, .int w, .int wa])), (aB, .inl (kB, 65536, .inl B))]) hP hD [4, 5] [0, 1, 2, 3] rfl rfl (by decide) (by decide) hk1 hFc hP1 hD1
                generalize H1 = H at hP hS ⊢
                have hP : va_P (dC, dI) vwCl [(aR, .inr (0, [.ref aT, .ref aS])), (aS, .inr (1, [.ref aN, .ref aC])), (aN, .inl (kN, 5, .inl (fun j => nI ((zuN cnt ka (i + 1)) j)))), (aC, .inl (kC, 52035, .inl cel_88)), (aT, .inr (2, [.ref aB, .int (nI u), .int (nI en), .int (nI h_107), .int na_87, .int w, .int wa])), (aB, .inl (kB, 65536, .inl B))] H := hP
                have hD : va_D A [(aR, .inr (0, [.ref aT, .ref aS])), (aS, .inr (1, [.ref aN, .ref aC])), (aN, .inl (kN, 5, .inl (fun j => nI ((zuN cnt ka (i + 1)) j)))), (aC, .inl (kC, 52035, .inl cel_88)), (aT, .inr (2, [.ref aB, .int (nI u), .int (nI en), .int (nI h_107), .int na_87, .int w, .int wa])), (aB, .inl (kB, 65536, .inl B))] := hD
                by_cases hs_109 : h_99 < en ∧ B h_99 = 44
                ·
                  obtain ⟨e1, e2⟩ := hw_108
                  rw [if_pos hs_109] at e1 e2; subst e1; have e2 := e2.symm; subst e2
                  have hs_109i := zK_le (B := B) (en := en) (i := h_99 + 1) (by omega)
                  refine lv_istore_n (lv' := [(3, .int 1), (5, .int (nI (zST ka + i * zWD ka))), (0, .ref aR), (1, .int (nI ka)), (2, .int (nI (zM ka))), (4, .int (nI i))]) hx hb d_Rd_takeThings_171 rfl hl (by decide) rfl (fun ls hl => ?_)
                  refine lv_iinc (v := nI (i + 1)) (lv' := [(4, .int (nI (i + 1))), (3, .int 1), (5, .int (nI (zST ka + i * zWD ka))), (0, .ref aR), (1, .int (nI ka)), (2, .int (nI (zM ka)))]) hx hb d_Rd_takeThings_172 hl (k := 5) rfl (nI_add i 1) (by decide) rfl (fun ls hl => ?_)
                  refine lv_goto (tgt := 35) hx hb d_Rd_takeThings_175 (by decide) ?_
                  refine lv_iload hx hb d_Rd_takeThings_35 (lv_at hl 0 rfl) ?_
                  refine lv_iload_n hx hb d_Rd_takeThings_37 rfl (lv_at hl 5 rfl) ?_
                  refine lv_icmp_gt (tgt := 178) hx hb d_Rd_takeThings_38 (by decide) (fun c_110 => ?_) (fun c_110 => ?_)
                  ·
                    exact absurd c_110 (nI_nlt (a := zM ka) (b := i + 1) (by omega) (by omega))
                  ·
                    refine lv_iload_n hx hb d_Rd_takeThings_41 rfl (lv_at hl 1 rfl) ?_
                    refine lv_if_eq (tgt := 178) hx hb d_Rd_takeThings_42 (by decide) (fun c_111 => ?_) (fun c_111 => ?_)
                    ·
                      exact absurd c_111 (by decide)
                    ·
                      exact ih (i + 1) (zK B en (h_99 + 1)) na_87 cel_88 (by omega) (by omega) (by omega) (by rw [hI, zThs_step (by omega), if_neg c_1, hth_97]; simp only [zB_ok, hw_100]; rw [if_pos hs_109]) _ _ (hP.sub [0, 4, 5, 1, 2, 3] rfl) (hD.sub [0, 4, 5, 1, 2, 3] (by decide) rfl) hS ls (lv_sub hl [3, 4, 5, 0] rfl)
                ·
                  obtain ⟨e1, e2⟩ := hw_108
                  rw [if_neg hs_109] at e1 e2; subst e1; have e2 := e2.symm; subst e2
                  refine lv_istore_n (lv' := [(3, .int 0), (5, .int (nI (zST ka + i * zWD ka))), (0, .ref aR), (1, .int (nI ka)), (2, .int (nI (zM ka))), (4, .int (nI i))]) hx hb d_Rd_takeThings_171 rfl hl (by decide) rfl (fun ls hl => ?_)
                  refine lv_iinc (v := nI (i + 1)) (lv' := [(4, .int (nI (i + 1))), (3, .int 0), (5, .int (nI (zST ka + i * zWD ka))), (0, .ref aR), (1, .int (nI ka)), (2, .int (nI (zM ka)))]) hx hb d_Rd_takeThings_172 hl (k := 5) rfl (nI_add i 1) (by decide) rfl (fun ls hl => ?_)
                  refine lv_goto (tgt := 35) hx hb d_Rd_takeThings_175 (by decide) ?_
                  refine lv_iload hx hb d_Rd_takeThings_35 (lv_at hl 0 rfl) ?_
                  refine lv_iload_n hx hb d_Rd_takeThings_37 rfl (lv_at hl 5 rfl) ?_
                  refine lv_icmp_gt (tgt := 178) hx hb d_Rd_takeThings_38 (by decide) (fun c_112 => ?_) (fun c_112 => ?_)
                  ·
                    exact absurd c_112 (nI_nlt (a := zM ka) (b := i + 1) (by omega) (by omega))
                  ·
                    refine lv_iload_n hx hb d_Rd_takeThings_41 rfl (lv_at hl 1 rfl) ?_
                    refine lv_if_eq (tgt := 178) hx hb d_Rd_takeThings_42 (by decide) (fun c_113 => ?_) (fun c_113 => ?_)
                    ·
                      have tl_114 : zThings B en ka cnt (h, cel) = zEnd B en (i + 1, h_99, cel_88) := by rw [hI, zThs_step (by omega), if_neg c_1, hth_97]; simp only [zB_ok, hw_100]; rw [if_neg hs_109, zB_ok]
                      refine lv_aload_n hx hb d_Rd_takeThings_178 rfl (lv_at hl 3 rfl) ?_
                      refine va_get (D := (dC, dI)) (ci := 0) (v := .ref aT) (C := R_Rd) (T := F_Rd) (N := 2) hx hb hz i_Rd hown hK hP 0 rfl rfl 0 (by decide) (hz _ tw_84) (fun _ h9 => h9) rfl d_Rd_takeThings_179 ?_
                      refine lv_bipush (v := 93) hx hb d_Rd_takeThings_182 (by decide) ?_
                      have hPc := hP.sub (ws' := [(aT, .inr (2, [.ref aB, .int (nI u), .int (nI en), .int (nI h_99), .int na_87, .int w, .int wa])), (aB, .inl (kB, 65536, .inl B))]) [4, 5] rfl
                      have hDc := hD.sub (ws' := [(aT, .inr (2, [.ref aB, .int (nI u), .int (nI en), .int (nI h_99), .int na_87, .int w, .int wa])), (aB, .inl (kB, 65536, .inl B))]) [4, 5] (by decide) rfl
                      have hKc := hK.sub (tys' := [(kB, .byte)]) [0] rfl
                      have hFc := va_free (wc := [(aT, .inr (2, [.ref aB, .int (nI u), .int (nI en), .int (nI h_99), .int na_87, .int w, .int wa])), (aB, .inl (kB, 65536, .inl B))]) hD hS hA [4, 5] rfl
                      refine zt_size (fun hzs => ?_)
                      refine vx_callv (vx_runV (As := [.int 93]) (rest := []) ⟨hx, hb, hml, hown, hts⟩ (c_Tp_mustTake l hst G dC dI H.size aT aB u en h_99 na_87 w wa kB B 93 (by omega) (by omega)) (cwV 1 hts (gV tw_214 tw_215 tw_216 tw_3 tw_217 rfl) rfl rfl rfl (by decide +kernel) ⟨Nat.le_of_ble_eq_true rfl, Nat.le_of_ble_eq_true rfl⟩) (PW_preV hPc hKc hDc hE hS hFc (ci := 2) (q0 := 0) rfl rfl) rfl rfl hl.1 rfl (lv_room (Nat.le_of_ble_eq_true rfl)) d_Rd_takeThings_184 ⟨Nat.le_of_ble_eq_true rfl, Nat.le_of_ble_eq_true rfl⟩) hS (fun q _ h => hFc q h) hFc (fun q _ h => hFc q h) (fun E9 ce9 q9 uu t H1 locs ht hvm hx_122 hB hz1 hk1 hS hce hcv hcl => ?_) (fun uu t H1 locs ht hvm hw_117 hB hz1 hk1 hS => ?_)
                      ·
                        obtain ⟨w_118, k_119, h_120, na_121⟩ := uu
                        obtain ⟨hEn, hP1, hD1⟩ := hB
                        rw [ht] at hP1
                        obtain ⟨hP, hD⟩ := va_join (wr := [(aR, .inr (0, [.ref aT, .ref aS])), (aS, .inr (1, [.ref aN, .ref aC])), (aN, .inl (kN, 5, .inl (fun j => nI ((zuN cnt ka (i + 1)) j)))), (aC, .inl (kC, 52035, .inl cel_88))]) (w1 := [(aT, .inr (2, [.ref aB, .int (nI u), .int (nI en), .int (nI h_120), .int na_121, .int w_118, .int (nI k_119)])), (aB, .inl (kB, 65536, .inl B))]) hP hD [4, 5] [0, 1, 2, 3] rfl rfl (by decide) (by decide) hk1 hFc hP1 hD1
                        generalize H1 = H at hP hS hce ⊢
                        have hP : va_P (dC, dI) vwCl [(aR, .inr (0, [.ref aT, .ref aS])), (aS, .inr (1, [.ref aN, .ref aC])), (aN, .inl (kN, 5, .inl (fun j => nI ((zuN cnt ka (i + 1)) j)))), (aC, .inl (kC, 52035, .inl cel_88)), (aT, .inr (2, [.ref aB, .int (nI u), .int (nI en), .int (nI h_120), .int na_121, .int w_118, .int (nI k_119)])), (aB, .inl (kB, 65536, .inl B))] H := hP
                        have hD : va_D A [(aR, .inr (0, [.ref aT, .ref aS])), (aS, .inr (1, [.ref aN, .ref aC])), (aN, .inl (kN, 5, .inl (fun j => nI ((zuN cnt ka (i + 1)) j)))), (aC, .inl (kC, 52035, .inl cel_88)), (aT, .inr (2, [.ref aB, .int (nI u), .int (nI en), .int (nI h_120), .int na_121, .int w_118, .int (nI k_119)])), (aB, .inl (kB, 65536, .inl B))] := hD
                        have hP9 := hP.sub (ws' := [(aR, .inr (0, [.ref aT, .ref aS])), (aT, .inr (2, [.ref aB, .int (nI u), .int (nI en), .int (nI h_120), .int na_121, .int w_118, .int (nI k_119)])), (aB, .inl (kB, 65536, .inl B)), (aS, .inr (1, [.ref aN, .ref aC])), (aN, .inl (kN, 5, .inl (fun j => nI ((zuN cnt ka (i + 1)) j)))), (aC, .inl (kC, 52035, .inl cel_88))]) [0, 4, 5, 1, 2, 3] rfl
                        have hD9 := hD.sub (ws' := [(aR, .inr (0, [.ref aT, .ref aS])), (aT, .inr (2, [.ref aB, .int (nI u), .int (nI en), .int (nI h_120), .int na_121, .int w_118, .int (nI k_119)])), (aB, .inl (kB, 65536, .inl B)), (aS, .inr (1, [.ref aN, .ref aC])), (aN, .inl (kN, 5, .inl (fun j => nI ((zuN cnt ka (i + 1)) j)))), (aC, .inl (kC, 52035, .inl cel_88))]) [0, 4, 5, 1, 2, 3] (by decide) rfl
                        exact vx_out (fun x hx => (htab x hx).elim) hlocks hce hcv hcl (fun t ht hvm => ⟨(w_118, k_119, h_120, na_121, zuN cnt ka (i + 1), cel_88), by rw [tl_114]; simp only [zEnd, zB_er, hx_122], ⟨hEn, by rw [ht]; exact hP9, hD9⟩, hS.F ht⟩) hS.2.2 (by decide) (by decide)
                      ·
                        obtain ⟨h_116, rfl⟩ : ∃ z, z = uu := ⟨_, rfl⟩
                        obtain ⟨hP1, hD1, hsz1⟩ := hB
                        rw [ht] at hP1 hsz1
                        obtain ⟨hP, hD⟩ := va_join (wr := [(aR, .inr (0, [.ref aT, .ref aS])), (aS, .inr (1, [.ref aN, .ref aC])), (aN, .inl (kN, 5, .inl (fun j => nI ((zuN cnt ka (i + 1)) j)))), (aC, .inl (kC, 52035, .inl cel_88))]) (w1 := [(aT, .inr (2, [.ref aB, .int (nI u), .int (nI en), .int (nI h_116), .int na_87, .int w, .int wa])), (aB, .inl (kB, 65536, .inl B))]) hP hD [4, 5] [0, 1, 2, 3] rfl rfl (by decide) (by decide) hk1 hFc hP1 hD1
                        refine zt_tight (hsz1.trans hzs) ?_
                        generalize H1 = H at hP hS ⊢
                        have hP : va_P (dC, dI) vwCl [(aR, .inr (0, [.ref aT, .ref aS])), (aS, .inr (1, [.ref aN, .ref aC])), (aN, .inl (kN, 5, .inl (fun j => nI ((zuN cnt ka (i + 1)) j)))), (aC, .inl (kC, 52035, .inl cel_88)), (aT, .inr (2, [.ref aB, .int (nI u), .int (nI en), .int (nI h_116), .int na_87, .int w, .int wa])), (aB, .inl (kB, 65536, .inl B))] H := hP
                        have hD : va_D A [(aR, .inr (0, [.ref aT, .ref aS])), (aS, .inr (1, [.ref aN, .ref aC])), (aN, .inl (kN, 5, .inl (fun j => nI ((zuN cnt ka (i + 1)) j)))), (aC, .inl (kC, 52035, .inl cel_88)), (aT, .inr (2, [.ref aB, .int (nI u), .int (nI en), .int (nI h_116), .int na_87, .int w, .int wa])), (aB, .inl (kB, 65536, .inl B))] := hD
                        have hw_117i := zMust_in hw_117
                        refine zt_size (fun hzs => ?_)
                        have hP9 := hP.sub (ws' := [(aR, .inr (0, [.ref aT, .ref aS])), (aT, .inr (2, [.ref aB, .int (nI u), .int (nI en), .int (nI h_116), .int na_87, .int w, .int wa])), (aB, .inl (kB, 65536, .inl B)), (aS, .inr (1, [.ref aN, .ref aC])), (aN, .inl (kN, 5, .inl (fun j => nI ((zuN cnt ka (i + 1)) j)))), (aC, .inl (kC, 52035, .inl cel_88))]) [0, 4, 5, 1, 2, 3] rfl
                        have hD9 := hD.sub (ws' := [(aR, .inr (0, [.ref aT, .ref aS])), (aT, .inr (2, [.ref aB, .int (nI u), .int (nI en), .int (nI h_116), .int na_87, .int w, .int wa])), (aB, .inl (kB, 65536, .inl B)), (aS, .inr (1, [.ref aN, .ref aC])), (aN, .inl (kN, 5, .inl (fun j => nI ((zuN cnt ka (i + 1)) j)))), (aC, .inl (kC, 52035, .inl cel_88))]) [0, 4, 5, 1, 2, 3] (by decide) rfl
                        refine W.widen (k := 1) (n := 6) (by decide) (by decide) ?_
                        exact vx_ret (W.vret hx hb hr (fun t ht hW => ⟨⟨(h_116, na_87, zuN cnt ka (i + 1), cel_88, i + 1), rfl, ⟨by rw [tl_114]; simp only [zEnd, zB_ok, hw_117], rfl⟩, by rw [ht]; exact hP9, hD9, by rw [ht]; exact hzs⟩, hS.F ht⟩) hS.2.2 d_Rd_takeThings_187)
                    ·
                      exact absurd (by decide) c_113
        ·
          have c_6 : ka = 1 := (@nI_eq ka 1 (by omega) (by omega)).mp c_6
          refine lv_aload_n hx hb d_Rd_takeThings_110 rfl (lv_at hl 1 rfl) ?_
          refine lv_iload hx hb d_Rd_takeThings_111 (lv_at hl 0 rfl) ?_
          have hPc := hP.sub (ws' := [(aR, .inr (0, [.ref aT, .ref aS])), (aT, .inr (2, [.ref aB, .int (nI u), .int (nI en), .int (nI h2), .int na2, .int w, .int wa])), (aB, .inl (kB, 65536, .inl B)), (aS, .inr (1, [.ref aN, .ref aC])), (aN, .inl (kN, 5, .inl (fun j => nI ((zuN cnt ka (i + 1)) j)))), (aC, .inl (kC, 52035, .inl cel2))]) [0, 1, 2, 3, 4, 5] rfl
          have hDc := hD.sub (ws' := [(aR, .inr (0, [.ref aT, .ref aS])), (aT, .inr (2, [.ref aB, .int (nI u), .int (nI en), .int (nI h2), .int na2, .int w, .int wa])), (aB, .inl (kB, 65536, .inl B)), (aS, .inr (1, [.ref aN, .ref aC])), (aN, .inl (kN, 5, .inl (fun j => nI ((zuN cnt ka (i + 1)) j)))), (aC, .inl (kC, 52035, .inl cel2))]) [0, 1, 2, 3, 4, 5] (by decide) rfl
          have hKc := hK.sub (tys' := [(kB, .byte), (kN, .int), (kC, .int)]) [0, 1, 2] rfl
          have hFc := va_free (wc := [(aR, .inr (0, [.ref aT, .ref aS])), (aT, .inr (2, [.ref aB, .int (nI u), .int (nI en), .int (nI h2), .int na2, .int w, .int wa])), (aB, .inl (kB, 65536, .inl B)), (aS, .inr (1, [.ref aN, .ref aC])), (aN, .inl (kN, 5, .inl (fun j => nI ((zuN cnt ka (i + 1)) j)))), (aC, .inl (kC, 52035, .inl cel2))]) hD hS hA [0, 1, 2, 3, 4, 5] rfl
          refine zt_size (fun hzs => ?_)
          refine vx_callv (vx_runV (As := [.int (nI (zST ka + i * zWD ka))]) (rest := []) ⟨hx, hb, hml, hown, hts⟩ (c_Rd_takeMaterial l hst G dC dI H.size aR aT aS aB u en h2 na2 w wa kB B aN aC kN (zuN cnt ka (i + 1)) kC cel2 (zST ka + i * zWD ka) (by omega) (by omega) (by have q := zcell (ka := ka) (i := i) (by omega) (by omega); rw [show ka = 1 by omega] at q ⊢; exact q)) (cwV 1 hts (gV tw_420 tw_422 ts_14 tw_2 tw_423 rfl) rfl rfl rfl (by decide +kernel) ⟨Nat.le_of_ble_eq_true rfl, Nat.le_of_ble_eq_true rfl⟩) (PW_preV hPc hKc hDc hE hS hFc (ci := 0) (q0 := 0) rfl rfl) rfl rfl hl.1 rfl (lv_room (Nat.le_of_ble_eq_true rfl)) d_Rd_takeThings_113 ⟨Nat.le_of_ble_eq_true rfl, Nat.le_of_ble_eq_true rfl⟩) hS (fun q _ h => hFc q h) hFc (fun q _ h => hFc q h) (fun E9 ce9 q9 uu t H1 locs ht hvm hx_134 hB hz1 hk1 hS hce hcv hcl => ?_) (fun uu t H1 locs ht hvm hw_127 hB hz1 hk1 hS => ?_)
          ·
            obtain ⟨w_128, k_129, h_130, na_131, cnt_132, cel_133⟩ := uu
            obtain ⟨hEn, hP1, hD1⟩ := hB
            rw [ht] at hP1
            obtain ⟨hP, hD⟩ := va_join (wr := []) (w1 := [(aR, .inr (0, [.ref aT, .ref aS])), (aT, .inr (2, [.ref aB, .int (nI u), .int (nI en), .int (nI h_130), .int na_131, .int w_128, .int (nI k_129)])), (aB, .inl (kB, 65536, .inl B)), (aS, .inr (1, [.ref aN, .ref aC])), (aN, .inl (kN, 5, .inl (fun j => nI (cnt_132 j)))), (aC, .inl (kC, 52035, .inl cel_133))]) hP hD [0, 1, 2, 3, 4, 5] [] rfl rfl (by decide) (by decide) hk1 hFc hP1 hD1
            generalize H1 = H at hP hS hce ⊢
            have hP : va_P (dC, dI) vwCl [(aR, .inr (0, [.ref aT, .ref aS])), (aT, .inr (2, [.ref aB, .int (nI u), .int (nI en), .int (nI h_130), .int na_131, .int w_128, .int (nI k_129)])), (aB, .inl (kB, 65536, .inl B)), (aS, .inr (1, [.ref aN, .ref aC])), (aN, .inl (kN, 5, .inl (fun j => nI (cnt_132 j)))), (aC, .inl (kC, 52035, .inl cel_133))] H := hP
            have hD : va_D A [(aR, .inr (0, [.ref aT, .ref aS])), (aT, .inr (2, [.ref aB, .int (nI u), .int (nI en), .int (nI h_130), .int na_131, .int w_128, .int (nI k_129)])), (aB, .inl (kB, 65536, .inl B)), (aS, .inr (1, [.ref aN, .ref aC])), (aN, .inl (kN, 5, .inl (fun j => nI (cnt_132 j)))), (aC, .inl (kC, 52035, .inl cel_133))] := hD
            have hP9 := hP.sub (ws' := [(aR, .inr (0, [.ref aT, .ref aS])), (aT, .inr (2, [.ref aB, .int (nI u), .int (nI en), .int (nI h_130), .int na_131, .int w_128, .int (nI k_129)])), (aB, .inl (kB, 65536, .inl B)), (aS, .inr (1, [.ref aN, .ref aC])), (aN, .inl (kN, 5, .inl (fun j => nI (cnt_132 j)))), (aC, .inl (kC, 52035, .inl cel_133))]) [0, 1, 2, 3, 4, 5] rfl
            have hD9 := hD.sub (ws' := [(aR, .inr (0, [.ref aT, .ref aS])), (aT, .inr (2, [.ref aB, .int (nI u), .int (nI en), .int (nI h_130), .int na_131, .int w_128, .int (nI k_129)])), (aB, .inl (kB, 65536, .inl B)), (aS, .inr (1, [.ref aN, .ref aC])), (aN, .inl (kN, 5, .inl (fun j => nI (cnt_132 j)))), (aC, .inl (kC, 52035, .inl cel_133))]) [0, 1, 2, 3, 4, 5] (by decide) rfl
            exact vx_out (fun x hx => (htab x hx).elim) hlocks hce hcv hcl (fun t ht hvm => ⟨(w_128, k_129, h_130, na_131, cnt_132, cel_133), by rw [hI, zThs_step (by omega), if_neg c_1, show zThing B en ka (zuN cnt ka (i + 1)) (zST ka + i * zWD ka) (h2, cel2) = .error (w_128, k_129) from (by unfold zThing; rw [if_neg c_5, if_pos c_6]; exact hx_134), zB_er, zB_er], ⟨hEn, by rw [ht]; exact hP9, hD9⟩, hS.F ht⟩) hS.2.2 (by decide) (by decide)
          ·
            obtain ⟨h_124, na_125, cel_126⟩ := uu
            obtain ⟨hP1, hD1, hsz1⟩ := hB
            rw [ht] at hP1 hsz1
            obtain ⟨hP, hD⟩ := va_join (wr := []) (w1 := [(aR, .inr (0, [.ref aT, .ref aS])), (aT, .inr (2, [.ref aB, .int (nI u), .int (nI en), .int (nI h_124), .int na_125, .int w, .int wa])), (aB, .inl (kB, 65536, .inl B)), (aS, .inr (1, [.ref aN, .ref aC])), (aN, .inl (kN, 5, .inl (fun j => nI ((zuN cnt ka (i + 1)) j)))), (aC, .inl (kC, 52035, .inl cel_126))]) hP hD [0, 1, 2, 3, 4, 5] [] rfl rfl (by decide) (by decide) hk1 hFc hP1 hD1
            refine zt_tight (hsz1.trans hzs) ?_
            generalize H1 = H at hP hS ⊢
            have hP : va_P (dC, dI) vwCl [(aR, .inr (0, [.ref aT, .ref aS])), (aT, .inr (2, [.ref aB, .int (nI u), .int (nI en), .int (nI h_124), .int na_125, .int w, .int wa])), (aB, .inl (kB, 65536, .inl B)), (aS, .inr (1, [.ref aN, .ref aC])), (aN, .inl (kN, 5, .inl (fun j => nI ((zuN cnt ka (i + 1)) j)))), (aC, .inl (kC, 52035, .inl cel_126))] H := hP
            have hD : va_D A [(aR, .inr (0, [.ref aT, .ref aS])), (aT, .inr (2, [.ref aB, .int (nI u), .int (nI en), .int (nI h_124), .int na_125, .int w, .int wa])), (aB, .inl (kB, 65536, .inl B)), (aS, .inr (1, [.ref aN, .ref aC])), (aN, .inl (kN, 5, .inl (fun j => nI ((zuN cnt ka (i + 1)) j)))), (aC, .inl (kC, 52035, .inl cel_126))] := hD
            have hw_127i : h_124 ≤ en := zMaterial_in hw_127
            have hth_135 : zThing B en ka (zuN cnt ka (i + 1)) (zST ka + i * zWD ka) (h2, cel2) = .ok (h_124, cel_126) := by unfold zThing; rw [if_neg c_5, if_pos c_6]; exact hw_127
            refine lv_goto (tgt := 153) hx hb d_Rd_takeThings_116 (by decide) ?_
            refine lv_aload_n hx hb d_Rd_takeThings_153 rfl (lv_at hl 1 rfl) ?_
            refine va_get (D := (dC, dI)) (ci := 0) (v := .ref aT) (C := R_Rd) (T := F_Rd) (N := 2) hx hb hz i_Rd hown hK hP 0 rfl rfl 0 (by decide) (hz _ tw_84) (fun _ h9 => h9) rfl d_Rd_takeThings_154 ?_
            refine lv_bipush (v := 125) hx hb d_Rd_takeThings_157 (by decide) ?_
            have hPc := hP.sub (ws' := [(aT, .inr (2, [.ref aB, .int (nI u), .int (nI en), .int (nI h_124), .int na_125, .int w, .int wa])), (aB, .inl (kB, 65536, .inl B))]) [1, 2] rfl
            have hDc := hD.sub (ws' := [(aT, .inr (2, [.ref aB, .int (nI u), .int (nI en), .int (nI h_124), .int na_125, .int w, .int wa])), (aB, .inl (kB, 65536, .inl B))]) [1, 2] (by decide) rfl
            have hKc := hK.sub (tys' := [(kB, .byte)]) [0] rfl
            have hFc := va_free (wc := [(aT, .inr (2, [.ref aB, .int (nI u), .int (nI en), .int (nI h_124), .int na_125, .int w, .int wa])), (aB, .inl (kB, 65536, .inl B))]) hD hS hA [1, 2] rfl
            refine zt_size (fun hzs => ?_)
            refine vx_callv (vx_runV (As := [.int 125]) (rest := []) ⟨hx, hb, hml, hown, hts⟩ (c_Tp_mustTake l hst G dC dI H.size aT aB u en h_124 na_125 w wa kB B 125 (by omega) (by omega)) (cwV 1 hts (gV tw_214 tw_215 tw_216 tw_3 tw_217 rfl) rfl rfl rfl (by decide +kernel) ⟨Nat.le_of_ble_eq_true rfl, Nat.le_of_ble_eq_true rfl⟩) (PW_preV hPc hKc hDc hE hS hFc (ci := 2) (q0 := 0) rfl rfl) rfl rfl hl.1 rfl (lv_room (Nat.le_of_ble_eq_true rfl)) d_Rd_takeThings_159 ⟨Nat.le_of_ble_eq_true rfl, Nat.le_of_ble_eq_true rfl⟩) hS (fun q _ h => hFc q h) hFc (fun q _ h => hFc q h) (fun E9 ce9 q9 uu t H1 locs ht hvm hx_143 hB hz1 hk1 hS hce hcv hcl => ?_) (fun uu t H1 locs ht hvm hw_138 hB hz1 hk1 hS => ?_)
            ·
              obtain ⟨w_139, k_140, h_141, na_142⟩ := uu
              obtain ⟨hEn, hP1, hD1⟩ := hB
              rw [ht] at hP1
              obtain ⟨hP, hD⟩ := va_join (wr := [(aR, .inr (0, [.ref aT, .ref aS])), (aS, .inr (1, [.ref aN, .ref aC])), (aN, .inl (kN, 5, .inl (fun j => nI ((zuN cnt ka (i + 1)) j)))), (aC, .inl (kC, 52035, .inl cel_126))]) (w1 := [(aT, .inr (2, [.ref aB, .int (nI u), .int (nI en), .int (nI h_141), .int na_142, .int w_139, .int (nI k_140)])), (aB, .inl (kB, 65536, .inl B))]) hP hD [1, 2] [0, 3, 4, 5] rfl rfl (by decide) (by decide) hk1 hFc hP1 hD1
              generalize H1 = H at hP hS hce ⊢
              have hP : va_P (dC, dI) vwCl [(aR, .inr (0, [.ref aT, .ref aS])), (aS, .inr (1, [.ref aN, .ref aC])), (aN, .inl (kN, 5, .inl (fun j => nI ((zuN cnt ka (i + 1)) j)))), (aC, .inl (kC, 52035, .inl cel_126)), (aT, .inr (2, [.ref aB, .int (nI u), .int (nI en), .int (nI h_141), .int na_142, .int w_139, .int (nI k_140)])), (aB, .inl (kB, 65536, .inl B))] H := hP
              have hD : va_D A [(aR, .inr (0, [.ref aT, .ref aS])), (aS, .inr (1, [.ref aN, .ref aC])), (aN, .inl (kN, 5, .inl (fun j => nI ((zuN cnt ka (i + 1)) j)))), (aC, .inl (kC, 52035, .inl cel_126)), (aT, .inr (2, [.ref aB, .int (nI u), .int (nI en), .int (nI h_141), .int na_142, .int w_139, .int (nI k_140)])), (aB, .inl (kB, 65536, .inl B))] := hD
              have hP9 := hP.sub (ws' := [(aR, .inr (0, [.ref aT, .ref aS])), (aT, .inr (2, [.ref aB, .int (nI u), .int (nI en), .int (nI h_141), .int na_142, .int w_139, .int (nI k_140)])), (aB, .inl (kB, 65536, .inl B)), (aS, .inr (1, [.ref aN, .ref aC])), (aN, .inl (kN, 5, .inl (fun j => nI ((zuN cnt ka (i + 1)) j)))), (aC, .inl (kC, 52035, .inl cel_126))]) [0, 4, 5, 1, 2, 3] rfl
              have hD9 := hD.sub (ws' := [(aR, .inr (0, [.ref aT, .ref aS])), (aT, .inr (2, [.ref aB, .int (nI u), .int (nI en), .int (nI h_141), .int na_142, .int w_139, .int (nI k_140)])), (aB, .inl (kB, 65536, .inl B)), (aS, .inr (1, [.ref aN, .ref aC])), (aN, .inl (kN, 5, .inl (fun j => nI ((zuN cnt ka (i + 1)) j)))), (aC, .inl (kC, 52035, .inl cel_126))]) [0, 4, 5, 1, 2, 3] (by decide) rfl
              exact vx_out (fun x hx => (htab x hx).elim) hlocks hce hcv hcl (fun t ht hvm => ⟨(w_139, k_140, h_141, na_142, zuN cnt ka (i + 1), cel_126), by rw [hI, zThs_step (by omega), if_neg c_1, hth_135]; simp only [zB_ok, zB_er, hx_143], ⟨hEn, by rw [ht]; exact hP9, hD9⟩, hS.F ht⟩) hS.2.2 (by decide) (by decide)
            ·
              obtain ⟨h_137, rfl⟩ : ∃ z, z = uu := ⟨_, rfl⟩
              obtain ⟨hP1, hD1, hsz1⟩ := hB
              rw [ht] at hP1 hsz1
              obtain ⟨hP, hD⟩ := va_join (wr := [(aR, .inr (0, [.ref aT, .ref aS])), (aS, .inr (1, [.ref aN, .ref aC])), (aN, .inl (kN, 5, .inl (fun j => nI ((zuN cnt ka (i + 1)) j)))), (aC, .inl (kC, 52035, .inl cel_126))]) (w1 := [(aT, .inr (2, [.ref aB, .int (nI u), .int (nI en), .int (nI h_137), .int na_125, .int w, .int wa])), (aB, .inl (kB, 65536, .inl B))]) hP hD [1, 2] [0, 3, 4, 5] rfl rfl (by decide) (by decide) hk1 hFc hP1 hD1
              refine zt_tight (hsz1.trans hzs) ?_
              generalize H1 = H at hP hS ⊢
              have hP : va_P (dC, dI) vwCl [(aR, .inr (0, [.ref aT, .ref aS])), (aS, .inr (1, [.ref aN, .ref aC])), (aN, .inl (kN, 5, .inl (fun j => nI ((zuN cnt ka (i + 1)) j)))), (aC, .inl (kC, 52035, .inl cel_126)), (aT, .inr (2, [.ref aB, .int (nI u), .int (nI en), .int (nI h_137), .int na_125, .int w, .int wa])), (aB, .inl (kB, 65536, .inl B))] H := hP
              have hD : va_D A [(aR, .inr (0, [.ref aT, .ref aS])), (aS, .inr (1, [.ref aN, .ref aC])), (aN, .inl (kN, 5, .inl (fun j => nI ((zuN cnt ka (i + 1)) j)))), (aC, .inl (kC, 52035, .inl cel_126)), (aT, .inr (2, [.ref aB, .int (nI u), .int (nI en), .int (nI h_137), .int na_125, .int w, .int wa])), (aB, .inl (kB, 65536, .inl B))] := hD
              have hw_138i := zMust_in hw_138
              refine lv_aload_n hx hb d_Rd_takeThings_162 rfl (lv_at hl 1 rfl) ?_
              refine va_get (D := (dC, dI)) (ci := 0) (v := .ref aT) (C := R_Rd) (T := F_Rd) (N := 2) hx hb hz i_Rd hown hK hP 0 rfl rfl 0 (by decide) (hz _ tw_84) (fun _ h9 => h9) rfl d_Rd_takeThings_163 ?_
              refine lv_bipush (v := 44) hx hb d_Rd_takeThings_166 (by decide) ?_
              have hPc := hP.sub (ws' := [(aT, .inr (2, [.ref aB, .int (nI u), .int (nI en), .int (nI h_137), .int na_125, .int w, .int wa])), (aB, .inl (kB, 65536, .inl B))]) [4, 5] rfl
              have hDc := hD.sub (ws' := [(aT, .inr (2, [.ref aB, .int (nI u), .int (nI en), .int (nI h_137), .int na_125, .int w, .int wa])), (aB, .inl (kB, 65536, .inl B))]) [4, 5] (by decide) rfl
              have hKc := hK.sub (tys' := [(kB, .byte)]) [0] rfl
              have hFc := va_free (wc := [(aT, .inr (2, [.ref aB, .int (nI u), .int (nI en), .int (nI h_137), .int na_125, .int w, .int wa])), (aB, .inl (kB, 65536, .inl B))]) hD hS hA [4, 5] rfl
              refine va_calli (va_runV (As := [.int 44]) (rest := []) ⟨hx, hb, hml, hown, hts⟩ (c_Tp_takes l G dC dI H.size aT aB u en h_137 na_125 w wa kB B 44 (by omega) (by omega)) (cwV 1 hts (gV tw_379 tw_380 tw_381 tw_3 tw_382 rfl) rfl rfl rfl (by decide +kernel) ⟨Nat.le_of_ble_eq_true rfl, Nat.le_of_ble_eq_true rfl⟩) (PW_preV hPc hKc hDc hE hS hFc (ci := 2) (q0 := 0) rfl rfl) rfl rfl hl.1 rfl (lv_room (Nat.le_of_ble_eq_true rfl)) d_Rd_takeThings_168 ⟨Nat.le_of_ble_eq_true rfl, Nat.le_of_ble_eq_true rfl⟩) hS (fun q _ h => hFc q h) hFc (fun r_144 uu t H1 locs ht hvm hw_146 hB hz1 hk1 hS => ?_)
              obtain ⟨h_145, rfl⟩ : ∃ z, z = uu := ⟨_, rfl⟩
              obtain ⟨hP1, hD1, hsz1⟩ := hB
              rw [ht] at hP1 hsz1
              obtain ⟨hP, hD⟩ := va_join (wr := [(aR, .inr (0, [.ref aT, .ref aS])), (aS, .inr (1, [.ref aN, .ref aC])), (aN, .inl (kN, 5, .inl (fun j => nI ((zuN cnt ka (i + 1)) j)))), (aC, .inl (kC, 52035, .inl cel_126))]) (w1 := [(aT, .inr (2, [.ref aB, .int (nI u), .int (nI en), .int (nI h_145), .int na_125, .int w, .int wa])), (aB, .inl (kB, 65536, .inl B))]) hP hD [4, 5] [0, 1, 2, 3] rfl rfl (by decide) (by decide) hk1 hFc hP1 hD1
              generalize H1 = H at hP hS ⊢
              have hP : va_P (dC, dI) vwCl [(aR, .inr (0, [.ref aT, .ref aS])), (aS, .inr (1, [.ref aN, .ref aC])), (aN, .inl (kN, 5, .inl (fun j => nI ((zuN cnt ka (i + 1)) j)))), (aC, .inl (kC, 52035, .inl cel_126)), (aT, .inr (2, [.ref aB, .int (nI u), .int (nI en), .int (nI h_145), .int na_125, .int w, .int wa])), (aB, .inl (kB, 65536, .inl B))] H := hP
              have hD : va_D A [(aR, .inr (0, [.ref aT, .ref aS])), (aS, .inr (1, [.ref aN, .ref aC])), (aN, .inl (kN, 5, .inl (fun j => nI ((zuN cnt ka (i + 1)) j)))), (aC, .inl (kC, 52035, .inl cel_126)), (aT, .inr (2, [.ref aB, .int (nI u), .int (nI en), .int (nI h_145), .int na_125, .int w, .int wa])), (aB, .inl (kB, 65536, .inl B))] := hD
              by_cases hs_147 : h_137 < en ∧ B h_137 = 44
              ·
                obtain ⟨e1, e2⟩ := hw_146
                rw [if_pos hs_147] at e1 e2; subst e1; have e2 := e2.symm; subst e2
                have hs_147i := zK_le (B := B) (en := en) (i := h_137 + 1) (by omega)
                refine lv_istore_n (lv' := [(3, .int 1), (5, .int (nI (zST ka + i * zWD ka))), (0, .ref aR), (1, .int (nI ka)), (2, .int (nI (zM ka))), (4, .int (nI i))]) hx hb d_Rd_takeThings_171 rfl hl (by decide) rfl (fun ls hl => ?_)
                refine lv_iinc (v := nI (i + 1)) (lv' := [(4, .int (nI (i + 1))), (3, .int 1), (5, .int (nI (zST ka + i * zWD ka))), (0, .ref aR), (1, .int (nI ka)), (2, .int (nI (zM ka)))]) hx hb d_Rd_takeThings_172 hl (k := 5) rfl (nI_add i 1) (by decide) rfl (fun ls hl => ?_)
                refine lv_goto (tgt := 35) hx hb d_Rd_takeThings_175 (by decide) ?_
                refine lv_iload hx hb d_Rd_takeThings_35 (lv_at hl 0 rfl) ?_
                refine lv_iload_n hx hb d_Rd_takeThings_37 rfl (lv_at hl 5 rfl) ?_
                refine lv_icmp_gt (tgt := 178) hx hb d_Rd_takeThings_38 (by decide) (fun c_148 => ?_) (fun c_148 => ?_)
                ·
                  exact absurd c_148 (nI_nlt (a := zM ka) (b := i + 1) (by omega) (by omega))
                ·
                  refine lv_iload_n hx hb d_Rd_takeThings_41 rfl (lv_at hl 1 rfl) ?_
                  refine lv_if_eq (tgt := 178) hx hb d_Rd_takeThings_42 (by decide) (fun c_149 => ?_) (fun c_149 => ?_)
                  ·
                    exact absurd c_149 (by decide)
                  ·
                    exact ih (i + 1) (zK B en (h_137 + 1)) na_125 cel_126 (by omega) (by omega) (by omega) (by rw [hI, zThs_step (by omega), if_neg c_1, hth_135]; simp only [zB_ok, hw_138]; rw [if_pos hs_147]) _ _ (hP.sub [0, 4, 5, 1, 2, 3] rfl) (hD.sub [0, 4, 5, 1, 2, 3] (by decide) rfl) hS ls (lv_sub hl [3, 4, 5, 0] rfl)
              ·
                obtain ⟨e1, e2⟩ := hw_146
                rw [if_neg hs_147] at e1 e2; subst e1; have e2 := e2.symm; subst e2
                refine lv_istore_n (lv' := [(3, .int 0), (5, .int (nI (zST ka + i * zWD ka))), (0, .ref aR), (1, .int (nI ka)), (2, .int (nI (zM ka))), (4, .int (nI i))]) hx hb d_Rd_takeThings_171 rfl hl (by decide) rfl (fun ls hl => ?_)
                refine lv_iinc (v := nI (i + 1)) (lv' := [(4, .int (nI (i + 1))), (3, .int 0), (5, .int (nI (zST ka + i * zWD ka))), (0, .ref aR), (1, .int (nI ka)), (2, .int (nI (zM ka)))]) hx hb d_Rd_takeThings_172 hl (k := 5) rfl (nI_add i 1) (by decide) rfl (fun ls hl => ?_)
                refine lv_goto (tgt := 35) hx hb d_Rd_takeThings_175 (by decide) ?_
                refine lv_iload hx hb d_Rd_takeThings_35 (lv_at hl 0 rfl) ?_
                refine lv_iload_n hx hb d_Rd_takeThings_37 rfl (lv_at hl 5 rfl) ?_
                refine lv_icmp_gt (tgt := 178) hx hb d_Rd_takeThings_38 (by decide) (fun c_150 => ?_) (fun c_150 => ?_)
                ·
                  exact absurd c_150 (nI_nlt (a := zM ka) (b := i + 1) (by omega) (by omega))
                ·
                  refine lv_iload_n hx hb d_Rd_takeThings_41 rfl (lv_at hl 1 rfl) ?_
                  refine lv_if_eq (tgt := 178) hx hb d_Rd_takeThings_42 (by decide) (fun c_151 => ?_) (fun c_151 => ?_)
                  ·
                    have tl_152 : zThings B en ka cnt (h, cel) = zEnd B en (i + 1, h_137, cel_126) := by rw [hI, zThs_step (by omega), if_neg c_1, hth_135]; simp only [zB_ok, hw_138]; rw [if_neg hs_147, zB_ok]
                    refine lv_aload_n hx hb d_Rd_takeThings_178 rfl (lv_at hl 3 rfl) ?_
                    refine va_get (D := (dC, dI)) (ci := 0) (v := .ref aT) (C := R_Rd) (T := F_Rd) (N := 2) hx hb hz i_Rd hown hK hP 0 rfl rfl 0 (by decide) (hz _ tw_84) (fun _ h9 => h9) rfl d_Rd_takeThings_179 ?_
                    refine lv_bipush (v := 93) hx hb d_Rd_takeThings_182 (by decide) ?_
                    have hPc := hP.sub (ws' := [(aT, .inr (2, [.ref aB, .int (nI u), .int (nI en), .int (nI h_137), .int na_125, .int w, .int wa])), (aB, .inl (kB, 65536, .inl B))]) [4, 5] rfl
                    have hDc := hD.sub (ws' := [(aT, .inr (2, [.ref aB, .int (nI u), .int (nI en), .int (nI h_137), .int na_125, .int w, .int wa])), (aB, .inl (kB, 65536, .inl B))]) [4, 5] (by decide) rfl
                    have hKc := hK.sub (tys' := [(kB, .byte)]) [0] rfl
                    have hFc := va_free (wc := [(aT, .inr (2, [.ref aB, .int (nI u), .int (nI en), .int (nI h_137), .int na_125, .int w, .int wa])), (aB, .inl (kB, 65536, .inl B))]) hD hS hA [4, 5] rfl
                    refine zt_size (fun hzs => ?_)
                    refine vx_callv (vx_runV (As := [.int 93]) (rest := []) ⟨hx, hb, hml, hown, hts⟩ (c_Tp_mustTake l hst G dC dI H.size aT aB u en h_137 na_125 w wa kB B 93 (by omega) (by omega)) (cwV 1 hts (gV tw_214 tw_215 tw_216 tw_3 tw_217 rfl) rfl rfl rfl (by decide +kernel) ⟨Nat.le_of_ble_eq_true rfl, Nat.le_of_ble_eq_true rfl⟩) (PW_preV hPc hKc hDc hE hS hFc (ci := 2) (q0 := 0) rfl rfl) rfl rfl hl.1 rfl (lv_room (Nat.le_of_ble_eq_true rfl)) d_Rd_takeThings_184 ⟨Nat.le_of_ble_eq_true rfl, Nat.le_of_ble_eq_true rfl⟩) hS (fun q _ h => hFc q h) hFc (fun q _ h => hFc q h) (fun E9 ce9 q9 uu t H1 locs ht hvm hx_160 hB hz1 hk1 hS hce hcv hcl => ?_) (fun uu t H1 locs ht hvm hw_155 hB hz1 hk1 hS => ?_)
                    ·
                      obtain ⟨w_156, k_157, h_158, na_159⟩ := uu
                      obtain ⟨hEn, hP1, hD1⟩ := hB
                      rw [ht] at hP1
                      obtain ⟨hP, hD⟩ := va_join (wr := [(aR, .inr (0, [.ref aT, .ref aS])), (aS, .inr (1, [.ref aN, .ref aC])), (aN, .inl (kN, 5, .inl (fun j => nI ((zuN cnt ka (i + 1)) j)))), (aC, .inl (kC, 52035, .inl cel_126))]) (w1 := [(aT, .inr (2, [.ref aB, .int (nI u), .int (nI en), .int (nI h_158), .int na_159, .int w_156, .int (nI k_157)])), (aB, .inl (kB, 65536, .inl B))]) hP hD [4, 5] [0, 1, 2, 3] rfl rfl (by decide) (by decide) hk1 hFc hP1 hD1
                      generalize H1 = H at hP hS hce ⊢
                      have hP : va_P (dC, dI) vwCl [(aR, .inr (0, [.ref aT, .ref aS])), (aS, .inr (1, [.ref aN, .ref aC])), (aN, .inl (kN, 5, .inl (fun j => nI ((zuN cnt ka (i + 1)) j)))), (aC, .inl (kC, 52035, .inl cel_126)), (aT, .inr (2, [.ref aB, .int (nI u), .int (nI en), .int (nI h_158), .int na_159, .int w_156, .int (nI k_157)])), (aB, .inl (kB, 65536, .inl B))] H := hP
                      have hD : va_D A [(aR, .inr (0, [.ref aT, .ref aS])), (aS, .inr (1, [.ref aN, .ref aC])), (aN, .inl (kN, 5, .inl (fun j => nI ((zuN cnt ka (i + 1)) j)))), (aC, .inl (kC, 52035, .inl cel_126)), (aT, .inr (2, [.ref aB, .int (nI u), .int (nI en), .int (nI h_158), .int na_159, .int w_156, .int (nI k_157)])), (aB, .inl (kB, 65536, .inl B))] := hD
                      have hP9 := hP.sub (ws' := [(aR, .inr (0, [.ref aT, .ref aS])), (aT, .inr (2, [.ref aB, .int (nI u), .int (nI en), .int (nI h_158), .int na_159, .int w_156, .int (nI k_157)])), (aB, .inl (kB, 65536, .inl B)), (aS, .inr (1, [.ref aN, .ref aC])), (aN, .inl (kN, 5, .inl (fun j => nI ((zuN cnt ka (i + 1)) j)))), (aC, .inl (kC, 52035, .inl cel_126))]) [0, 4, 5, 1, 2, 3] rfl
                      have hD9 := hD.sub (ws' := [(aR, .inr (0, [.ref aT, .ref aS])), (aT, .inr (2, [.ref aB, .int (nI u), .int (nI en), .int (nI h_158), .int na_159, .int w_156, .int (nI k_157)])), (aB, .inl (kB, 65536, .inl B)), (aS, .inr (1, [.ref aN, .ref aC])), (aN, .inl (kN, 5, .inl (fun j => nI ((zuN cnt ka (i + 1)) j)))), (aC, .inl (kC, 52035, .inl cel_126))]) [0, 4, 5, 1, 2, 3] (by decide) rfl
                      exact vx_out (fun x hx => (htab x hx).elim) hlocks hce hcv hcl (fun t ht hvm => ⟨(w_156, k_157, h_158, na_159, zuN cnt ka (i + 1), cel_126), by rw [tl_152]; simp only [zEnd, zB_er, hx_160], ⟨hEn, by rw [ht]; exact hP9, hD9⟩, hS.F ht⟩) hS.2.2 (by decide) (by decide)
                    ·
                      obtain ⟨h_154, rfl⟩ : ∃ z, z = uu := ⟨_, rfl⟩
                      obtain ⟨hP1, hD1, hsz1⟩ := hB
                      rw [ht] at hP1 hsz1
                      obtain ⟨hP, hD⟩ := va_join (wr := [(aR, .inr (0, [.ref aT, .ref aS])), (aS, .inr (1, [.ref aN, .ref aC])), (aN, .inl (kN, 5, .inl (fun j => nI ((zuN cnt ka (i + 1)) j)))), (aC, .inl (kC, 52035, .inl cel_126))]) (w1 := [(aT, .inr (2, [.ref aB, .int (nI u), .int (nI en), .int (nI h_154), .int na_125, .int w, .int wa])), (aB, .inl (kB, 65536, .inl B))]) hP hD [4, 5] [0, 1, 2, 3] rfl rfl (by decide) (by decide) hk1 hFc hP1 hD1
                      refine zt_tight (hsz1.trans hzs) ?_
                      generalize H1 = H at hP hS ⊢
                      have hP : va_P (dC, dI) vwCl [(aR, .inr (0, [.ref aT, .ref aS])), (aS, .inr (1, [.ref aN, .ref aC])), (aN, .inl (kN, 5, .inl (fun j => nI ((zuN cnt ka (i + 1)) j)))), (aC, .inl (kC, 52035, .inl cel_126)), (aT, .inr (2, [.ref aB, .int (nI u), .int (nI en), .int (nI h_154), .int na_125, .int w, .int wa])), (aB, .inl (kB, 65536, .inl B))] H := hP
                      have hD : va_D A [(aR, .inr (0, [.ref aT, .ref aS])), (aS, .inr (1, [.ref aN, .ref aC])), (aN, .inl (kN, 5, .inl (fun j => nI ((zuN cnt ka (i + 1)) j)))), (aC, .inl (kC, 52035, .inl cel_126)), (aT, .inr (2, [.ref aB, .int (nI u), .int (nI en), .int (nI h_154), .int na_125, .int w, .int wa])), (aB, .inl (kB, 65536, .inl B))] := hD
                      have hw_155i := zMust_in hw_155
                      refine zt_size (fun hzs => ?_)
                      have hP9 := hP.sub (ws' := [(aR, .inr (0, [.ref aT, .ref aS])), (aT, .inr (2, [.ref aB, .int (nI u), .int (nI en), .int (nI h_154), .int na_125, .int w, .int wa])), (aB, .inl (kB, 65536, .inl B)), (aS, .inr (1, [.ref aN, .ref aC])), (aN, .inl (kN, 5, .inl (fun j => nI ((zuN cnt ka (i + 1)) j)))), (aC, .inl (kC, 52035, .inl cel_126))]) [0, 4, 5, 1, 2, 3] rfl
                      have hD9 := hD.sub (ws' := [(aR, .inr (0, [.ref aT, .ref aS])), (aT, .inr (2, [.ref aB, .int (nI u), .int (nI en), .int (nI h_154), .int na_125, .int w, .int wa])), (aB, .inl (kB, 65536, .inl B)), (aS, .inr (1, [.ref aN, .ref aC])), (aN, .inl (kN, 5, .inl (fun j => nI ((zuN cnt ka (i + 1)) j)))), (aC, .inl (kC, 52035, .inl cel_126))]) [0, 4, 5, 1, 2, 3] (by decide) rfl
                      refine W.widen (k := 1) (n := 6) (by decide) (by decide) ?_
                      exact vx_ret (W.vret hx hb hr (fun t ht hW => ⟨⟨(h_154, na_125, zuN cnt ka (i + 1), cel_126, i + 1), rfl, ⟨by rw [tl_152]; simp only [zEnd, zB_ok, hw_155], rfl⟩, by rw [ht]; exact hP9, hD9, by rw [ht]; exact hzs⟩, hS.F ht⟩) hS.2.2 d_Rd_takeThings_187)
                  ·
                    exact absurd (by decide) c_151
      ·
        have c_5 : ka = 0 := (@nI_eq ka 0 (by omega) (by omega)).mp c_5
        refine lv_aload_n hx hb d_Rd_takeThings_96 rfl (lv_at hl 1 rfl) ?_
        refine lv_iload hx hb d_Rd_takeThings_97 (lv_at hl 0 rfl) ?_
        have hPc := hP.sub (ws' := [(aR, .inr (0, [.ref aT, .ref aS])), (aT, .inr (2, [.ref aB, .int (nI u), .int (nI en), .int (nI h2), .int na2, .int w, .int wa])), (aB, .inl (kB, 65536, .inl B)), (aS, .inr (1, [.ref aN, .ref aC])), (aN, .inl (kN, 5, .inl (fun j => nI ((zuN cnt ka (i + 1)) j)))), (aC, .inl (kC, 52035, .inl cel2))]) [0, 1, 2, 3, 4, 5] rfl
        have hDc := hD.sub (ws' := [(aR, .inr (0, [.ref aT, .ref aS])), (aT, .inr (2, [.ref aB, .int (nI u), .int (nI en), .int (nI h2), .int na2, .int w, .int wa])), (aB, .inl (kB, 65536, .inl B)), (aS, .inr (1, [.ref aN, .ref aC])), (aN, .inl (kN, 5, .inl (fun j => nI ((zuN cnt ka (i + 1)) j)))), (aC, .inl (kC, 52035, .inl cel2))]) [0, 1, 2, 3, 4, 5] (by decide) rfl
        have hKc := hK.sub (tys' := [(kB, .byte), (kN, .int), (kC, .int)]) [0, 1, 2] rfl
        have hFc := va_free (wc := [(aR, .inr (0, [.ref aT, .ref aS])), (aT, .inr (2, [.ref aB, .int (nI u), .int (nI en), .int (nI h2), .int na2, .int w, .int wa])), (aB, .inl (kB, 65536, .inl B)), (aS, .inr (1, [.ref aN, .ref aC])), (aN, .inl (kN, 5, .inl (fun j => nI ((zuN cnt ka (i + 1)) j)))), (aC, .inl (kC, 52035, .inl cel2))]) hD hS hA [0, 1, 2, 3, 4, 5] rfl
        refine zt_size (fun hzs => ?_)
        refine vx_callv (vx_runV (As := [.int (nI (zST ka + i * zWD ka))]) (rest := []) ⟨hx, hb, hml, hown, hts⟩ (c_Rd_takeTexture l hst G dC dI H.size aR aT aS aB u en h2 na2 w wa kB B aN aC kN (zuN cnt ka (i + 1)) kC cel2 (zST ka + i * zWD ka) (by omega) (by omega) (by have q := zcell (ka := ka) (i := i) (by omega) (by omega); rw [show ka = 0 by omega] at q ⊢; exact q)) (cwV 1 hts (gV tw_412 tw_414 ts_13 tw_2 tw_415 rfl) rfl rfl rfl (by decide +kernel) ⟨Nat.le_of_ble_eq_true rfl, Nat.le_of_ble_eq_true rfl⟩) (PW_preV hPc hKc hDc hE hS hFc (ci := 0) (q0 := 0) rfl rfl) rfl rfl hl.1 rfl (lv_room (Nat.le_of_ble_eq_true rfl)) d_Rd_takeThings_99 ⟨Nat.le_of_ble_eq_true rfl, Nat.le_of_ble_eq_true rfl⟩) hS (fun q _ h => hFc q h) hFc (fun q _ h => hFc q h) (fun E9 ce9 q9 uu t H1 locs ht hvm hx_172 hB hz1 hk1 hS hce hcv hcl => ?_) (fun uu t H1 locs ht hvm hw_165 hB hz1 hk1 hS => ?_)
        ·
          obtain ⟨w_166, k_167, h_168, na_169, cnt_170, cel_171⟩ := uu
          obtain ⟨hEn, hP1, hD1⟩ := hB
          rw [ht] at hP1
          obtain ⟨hP, hD⟩ := va_join (wr := []) (w1 := [(aR, .inr (0, [.ref aT, .ref aS])), (aT, .inr (2, [.ref aB, .int (nI u), .int (nI en), .int (nI h_168), .int na_169, .int w_166, .int (nI k_167)])), (aB, .inl (kB, 65536, .inl B)), (aS, .inr (1, [.ref aN, .ref aC])), (aN, .inl (kN, 5, .inl (fun j => nI (cnt_170 j)))), (aC, .inl (kC, 52035, .inl cel_171))]) hP hD [0, 1, 2, 3, 4, 5] [] rfl rfl (by decide) (by decide) hk1 hFc hP1 hD1
          generalize H1 = H at hP hS hce ⊢
          have hP : va_P (dC, dI) vwCl [(aR, .inr (0, [.ref aT, .ref aS])), (aT, .inr (2, [.ref aB, .int (nI u), .int (nI en), .int (nI h_168), .int na_169, .int w_166, .int (nI k_167)])), (aB, .inl (kB, 65536, .inl B)), (aS, .inr (1, [.ref aN, .ref aC])), (aN, .inl (kN, 5, .inl (fun j => nI (cnt_170 j)))), (aC, .inl (kC, 52035, .inl cel_171))] H := hP
          have hD : va_D A [(aR, .inr (0, [.ref aT, .ref aS])), (aT, .inr (2, [.ref aB, .int (nI u), .int (nI en), .int (nI h_168), .int na_169, .int w_166, .int (nI k_167)])), (aB, .inl (kB, 65536, .inl B)), (aS, .inr (1, [.ref aN, .ref aC])), (aN, .inl (kN, 5, .inl (fun j => nI (cnt_170 j)))), (aC, .inl (kC, 52035, .inl cel_171))] := hD
          have hP9 := hP.sub (ws' := [(aR, .inr (0, [.ref aT, .ref aS])), (aT, .inr (2, [.ref aB, .int (nI u), .int (nI en), .int (nI h_168), .int na_169, .int w_166, .int (nI k_167)])), (aB, .inl (kB, 65536, .inl B)), (aS, .inr (1, [.ref aN, .ref aC])), (aN, .inl (kN, 5, .inl (fun j => nI (cnt_170 j)))), (aC, .inl (kC, 52035, .inl cel_171))]) [0, 1, 2, 3, 4, 5] rfl
          have hD9 := hD.sub (ws' := [(aR, .inr (0, [.ref aT, .ref aS])), (aT, .inr (2, [.ref aB, .int (nI u), .int (nI en), .int (nI h_168), .int na_169, .int w_166, .int (nI k_167)])), (aB, .inl (kB, 65536, .inl B)), (aS, .inr (1, [.ref aN, .ref aC])), (aN, .inl (kN, 5, .inl (fun j => nI (cnt_170 j)))), (aC, .inl (kC, 52035, .inl cel_171))]) [0, 1, 2, 3, 4, 5] (by decide) rfl
          exact vx_out (fun x hx => (htab x hx).elim) hlocks hce hcv hcl (fun t ht hvm => ⟨(w_166, k_167, h_168, na_169, cnt_170, cel_171), by rw [hI, zThs_step (by omega), if_neg c_1, show zThing B en ka (zuN cnt ka (i + 1)) (zST ka + i * zWD ka) (h2, cel2) = .error (w_166, k_167) from (by unfold zThing; rw [if_pos c_5]; exact hx_172), zB_er, zB_er], ⟨hEn, by rw [ht]; exact hP9, hD9⟩, hS.F ht⟩) hS.2.2 (by decide) (by decide)
        ·
          obtain ⟨h_162, na_163, cel_164⟩ := uu
          obtain ⟨hP1, hD1, hsz1⟩ := hB
          rw [ht] at hP1 hsz1
          obtain ⟨hP, hD⟩ := va_join (wr := []) (w1 := [(aR, .inr (0, [.ref aT, .ref aS])), (aT, .inr (2, [.ref aB, .int (nI u), .int (nI en), .int (nI h_162), .int na_163, .int w, .int wa])), (aB, .inl (kB, 65536, .inl B)), (aS, .inr (1, [.ref aN, .ref aC])), (aN, .inl (kN, 5, .inl (fun j => nI ((zuN cnt ka (i + 1)) j)))), (aC, .inl (kC, 52035, .inl cel_164))]) hP hD [0, 1, 2, 3, 4, 5] [] rfl rfl (by decide) (by decide) hk1 hFc hP1 hD1
          refine zt_tight (hsz1.trans hzs) ?_
          generalize H1 = H at hP hS ⊢
          have hP : va_P (dC, dI) vwCl [(aR, .inr (0, [.ref aT, .ref aS])), (aT, .inr (2, [.ref aB, .int (nI u), .int (nI en), .int (nI h_162), .int na_163, .int w, .int wa])), (aB, .inl (kB, 65536, .inl B)), (aS, .inr (1, [.ref aN, .ref aC])), (aN, .inl (kN, 5, .inl (fun j => nI ((zuN cnt ka (i + 1)) j)))), (aC, .inl (kC, 52035, .inl cel_164))] H := hP
          have hD : va_D A [(aR, .inr (0, [.ref aT, .ref aS])), (aT, .inr (2, [.ref aB, .int (nI u), .int (nI en), .int (nI h_162), .int na_163, .int w, .int wa])), (aB, .inl (kB, 65536, .inl B)), (aS, .inr (1, [.ref aN, .ref aC])), (aN, .inl (kN, 5, .inl (fun j => nI ((zuN cnt ka (i + 1)) j)))), (aC, .inl (kC, 52035, .inl cel_164))] := hD
          have hw_165i : h_162 ≤ en := zTexture_in hw_165
          have hth_173 : zThing B en ka (zuN cnt ka (i + 1)) (zST ka + i * zWD ka) (h2, cel2) = .ok (h_162, cel_164) := by unfold zThing; rw [if_pos c_5]; exact hw_165
          refine lv_goto (tgt := 153) hx hb d_Rd_takeThings_102 (by decide) ?_
          refine lv_aload_n hx hb d_Rd_takeThings_153 rfl (lv_at hl 1 rfl) ?_
          refine va_get (D := (dC, dI)) (ci := 0) (v := .ref aT) (C := R_Rd) (T := F_Rd) (N := 2) hx hb hz i_Rd hown hK hP 0 rfl rfl 0 (by decide) (hz _ tw_84) (fun _ h9 => h9) rfl d_Rd_takeThings_154 ?_
          refine lv_bipush (v := 125) hx hb d_Rd_takeThings_157 (by decide) ?_
          have hPc := hP.sub (ws' := [(aT, .inr (2, [.ref aB, .int (nI u), .int (nI en), .int (nI h_162), .int na_163, .int w, .int wa])), (aB, .inl (kB, 65536, .inl B))]) [1, 2] rfl
          have hDc := hD.sub (ws' := [(aT, .inr (2, [.ref aB, .int (nI u), .int (nI en), .int (nI h_162), .int na_163, .int w, .int wa])), (aB, .inl (kB, 65536, .inl B))]) [1, 2] (by decide) rfl
          have hKc := hK.sub (tys' := [(kB, .byte)]) [0] rfl
          have hFc := va_free (wc := [(aT, .inr (2, [.ref aB, .int (nI u), .int (nI en), .int (nI h_162), .int na_163, .int w, .int wa])), (aB, .inl (kB, 65536, .inl B))]) hD hS hA [1, 2] rfl
          refine zt_size (fun hzs => ?_)
          refine vx_callv (vx_runV (As := [.int 125]) (rest := []) ⟨hx, hb, hml, hown, hts⟩ (c_Tp_mustTake l hst G dC dI H.size aT aB u en h_162 na_163 w wa kB B 125 (by omega) (by omega)) (cwV 1 hts (gV tw_214 tw_215 tw_216 tw_3 tw_217 rfl) rfl rfl rfl (by decide +kernel) ⟨Nat.le_of_ble_eq_true rfl, Nat.le_of_ble_eq_true rfl⟩) (PW_preV hPc hKc hDc hE hS hFc (ci := 2) (q0 := 0) rfl rfl) rfl rfl hl.1 rfl (lv_room (Nat.le_of_ble_eq_true rfl)) d_Rd_takeThings_159 ⟨Nat.le_of_ble_eq_true rfl, Nat.le_of_ble_eq_true rfl⟩) hS (fun q _ h => hFc q h) hFc (fun q _ h => hFc q h) (fun E9 ce9 q9 uu t H1 locs ht hvm hx_181 hB hz1 hk1 hS hce hcv hcl => ?_) (fun uu t H1 locs ht hvm hw_176 hB hz1 hk1 hS => ?_)
          ·
            obtain ⟨w_177, k_178, h_179, na_180⟩ := uu
            obtain ⟨hEn, hP1, hD1⟩ := hB
            rw [ht] at hP1
            obtain ⟨hP, hD⟩ := va_join (wr := [(aR, .inr (0, [.ref aT, .ref aS])), (aS, .inr (1, [.ref aN, .ref aC])), (aN, .inl (kN, 5, .inl (fun j => nI ((zuN cnt ka (i + 1)) j)))), (aC, .inl (kC, 52035, .inl cel_164))]) (w1 := [(aT, .inr (2, [.ref aB, .int (nI u), .int (nI en), .int (nI h_179), .int na_180, .int w_177, .int (nI k_178)])), (aB, .inl (kB, 65536, .inl B))]) hP hD [1, 2] [0, 3, 4, 5] rfl rfl (by decide) (by decide) hk1 hFc hP1 hD1
            generalize H1 = H at hP hS hce ⊢
            have hP : va_P (dC, dI) vwCl [(aR, .inr (0, [.ref aT, .ref aS])), (aS, .inr (1, [.ref aN, .ref aC])), (aN, .inl (kN, 5, .inl (fun j => nI ((zuN cnt ka (i + 1)) j)))), (aC, .inl (kC, 52035, .inl cel_164)), (aT, .inr (2, [.ref aB, .int (nI u), .int (nI en), .int (nI h_179), .int na_180, .int w_177, .int (nI k_178)])), (aB, .inl (kB, 65536, .inl B))] H := hP
            have hD : va_D A [(aR, .inr (0, [.ref aT, .ref aS])), (aS, .inr (1, [.ref aN, .ref aC])), (aN, .inl (kN, 5, .inl (fun j => nI ((zuN cnt ka (i + 1)) j)))), (aC, .inl (kC, 52035, .inl cel_164)), (aT, .inr (2, [.ref aB, .int (nI u), .int (nI en), .int (nI h_179), .int na_180, .int w_177, .int (nI k_178)])), (aB, .inl (kB, 65536, .inl B))] := hD
            have hP9 := hP.sub (ws' := [(aR, .inr (0, [.ref aT, .ref aS])), (aT, .inr (2, [.ref aB, .int (nI u), .int (nI en), .int (nI h_179), .int na_180, .int w_177, .int (nI k_178)])), (aB, .inl (kB, 65536, .inl B)), (aS, .inr (1, [.ref aN, .ref aC])), (aN, .inl (kN, 5, .inl (fun j => nI ((zuN cnt ka (i + 1)) j)))), (aC, .inl (kC, 52035, .inl cel_164))]) [0, 4, 5, 1, 2, 3] rfl
            have hD9 := hD.sub (ws' := [(aR, .inr (0, [.ref aT, .ref aS])), (aT, .inr (2, [.ref aB, .int (nI u), .int (nI en), .int (nI h_179), .int na_180, .int w_177, .int (nI k_178)])), (aB, .inl (kB, 65536, .inl B)), (aS, .inr (1, [.ref aN, .ref aC])), (aN, .inl (kN, 5, .inl (fun j => nI ((zuN cnt ka (i + 1)) j)))), (aC, .inl (kC, 52035, .inl cel_164))]) [0, 4, 5, 1, 2, 3] (by decide) rfl
            exact vx_out (fun x hx => (htab x hx).elim) hlocks hce hcv hcl (fun t ht hvm => ⟨(w_177, k_178, h_179, na_180, zuN cnt ka (i + 1), cel_164), by rw [hI, zThs_step (by omega), if_neg c_1, hth_173]; simp only [zB_ok, zB_er, hx_181], ⟨hEn, by rw [ht]; exact hP9, hD9⟩, hS.F ht⟩) hS.2.2 (by decide) (by decide)
          ·
            obtain ⟨h_175, rfl⟩ : ∃ z, z = uu := ⟨_, rfl⟩
            obtain ⟨hP1, hD1, hsz1⟩ := hB
            rw [ht] at hP1 hsz1
            obtain ⟨hP, hD⟩ := va_join (wr := [(aR, .inr (0, [.ref aT, .ref aS])), (aS, .inr (1, [.ref aN, .ref aC])), (aN, .inl (kN, 5, .inl (fun j => nI ((zuN cnt ka (i + 1)) j)))), (aC, .inl (kC, 52035, .inl cel_164))]) (w1 := [(aT, .inr (2, [.ref aB, .int (nI u), .int (nI en), .int (nI h_175), .int na_163, .int w, .int wa])), (aB, .inl (kB, 65536, .inl B))]) hP hD [1, 2] [0, 3, 4, 5] rfl rfl (by decide) (by decide) hk1 hFc hP1 hD1
            refine zt_tight (hsz1.trans hzs) ?_
            generalize H1 = H at hP hS ⊢
            have hP : va_P (dC, dI) vwCl [(aR, .inr (0, [.ref aT, .ref aS])), (aS, .inr (1, [.ref aN, .ref aC])), (aN, .inl (kN, 5, .inl (fun j => nI ((zuN cnt ka (i + 1)) j)))), (aC, .inl (kC, 52035, .inl cel_164)), (aT, .inr (2, [.ref aB, .int (nI u), .int (nI en), .int (nI h_175), .int na_163, .int w, .int wa])), (aB, .inl (kB, 65536, .inl B))] H := hP
            have hD : va_D A [(aR, .inr (0, [.ref aT, .ref aS])), (aS, .inr (1, [.ref aN, .ref aC])), (aN, .inl (kN, 5, .inl (fun j => nI ((zuN cnt ka (i + 1)) j)))), (aC, .inl (kC, 52035, .inl cel_164)), (aT, .inr (2, [.ref aB, .int (nI u), .int (nI en), .int (nI h_175), .int na_163, .int w, .int wa])), (aB, .inl (kB, 65536, .inl B))] := hD
            have hw_176i := zMust_in hw_176
            refine lv_aload_n hx hb d_Rd_takeThings_162 rfl (lv_at hl 1 rfl) ?_
            refine va_get (D := (dC, dI)) (ci := 0) (v := .ref aT) (C := R_Rd) (T := F_Rd) (N := 2) hx hb hz i_Rd hown hK hP 0 rfl rfl 0 (by decide) (hz _ tw_84) (fun _ h9 => h9) rfl d_Rd_takeThings_163 ?_
            refine lv_bipush (v := 44) hx hb d_Rd_takeThings_166 (by decide) ?_
            have hPc := hP.sub (ws' := [(aT, .inr (2, [.ref aB, .int (nI u), .int (nI en), .int (nI h_175), .int na_163, .int w, .int wa])), (aB, .inl (kB, 65536, .inl B))]) [4, 5] rfl
            have hDc := hD.sub (ws' := [(aT, .inr (2, [.ref aB, .int (nI u), .int (nI en), .int (nI h_175), .int na_163, .int w, .int wa])), (aB, .inl (kB, 65536, .inl B))]) [4, 5] (by decide) rfl
            have hKc := hK.sub (tys' := [(kB, .byte)]) [0] rfl
            have hFc := va_free (wc := [(aT, .inr (2, [.ref aB, .int (nI u), .int (nI en), .int (nI h_175), .int na_163, .int w, .int wa])), (aB, .inl (kB, 65536, .inl B))]) hD hS hA [4, 5] rfl
            refine va_calli (va_runV (As := [.int 44]) (rest := []) ⟨hx, hb, hml, hown, hts⟩ (c_Tp_takes l G dC dI H.size aT aB u en h_175 na_163 w wa kB B 44 (by omega) (by omega)) (cwV 1 hts (gV tw_379 tw_380 tw_381 tw_3 tw_382 rfl) rfl rfl rfl (by decide +kernel) ⟨Nat.le_of_ble_eq_true rfl, Nat.le_of_ble_eq_true rfl⟩) (PW_preV hPc hKc hDc hE hS hFc (ci := 2) (q0 := 0) rfl rfl) rfl rfl hl.1 rfl (lv_room (Nat.le_of_ble_eq_true rfl)) d_Rd_takeThings_168 ⟨Nat.le_of_ble_eq_true rfl, Nat.le_of_ble_eq_true rfl⟩) hS (fun q _ h => hFc q h) hFc (fun r_182 uu t H1 locs ht hvm hw_184 hB hz1 hk1 hS => ?_)
            obtain ⟨h_183, rfl⟩ : ∃ z, z = uu := ⟨_, rfl⟩
            obtain ⟨hP1, hD1, hsz1⟩ := hB
            rw [ht] at hP1 hsz1
            obtain ⟨hP, hD⟩ := va_join (wr := [(aR, .inr (0, [.ref aT, .ref aS])), (aS, .inr (1, [.ref aN, .ref aC])), (aN, .inl (kN, 5, .inl (fun j => nI ((zuN cnt ka (i + 1)) j)))), (aC, .inl (kC, 52035, .inl cel_164))]) (w1 := [(aT, .inr (2, [.ref aB, .int (nI u), .int (nI en), .int (nI h_183), .int na_163, .int w, .int wa])), (aB, .inl (kB, 65536, .inl B))]) hP hD [4, 5] [0, 1, 2, 3] rfl rfl (by decide) (by decide) hk1 hFc hP1 hD1
            generalize H1 = H at hP hS ⊢
            have hP : va_P (dC, dI) vwCl [(aR, .inr (0, [.ref aT, .ref aS])), (aS, .inr (1, [.ref aN, .ref aC])), (aN, .inl (kN, 5, .inl (fun j => nI ((zuN cnt ka (i + 1)) j)))), (aC, .inl (kC, 52035, .inl cel_164)), (aT, .inr (2, [.ref aB, .int (nI u), .int (nI en), .int (nI h_183), .int na_163, .int w, .int wa])), (aB, .inl (kB, 65536, .inl B))] H := hP
            have hD : va_D A [(aR, .inr (0, [.ref aT, .ref aS])), (aS, .inr (1, [.ref aN, .ref aC])), (aN, .inl (kN, 5, .inl (fun j => nI ((zuN cnt ka (i + 1)) j)))), (aC, .inl (kC, 52035, .inl cel_164)), (aT, .inr (2, [.ref aB, .int (nI u), .int (nI en), .int (nI h_183), .int na_163, .int w, .int wa])), (aB, .inl (kB, 65536, .inl B))] := hD
            by_cases hs_185 : h_175 < en ∧ B h_175 = 44
            ·
              obtain ⟨e1, e2⟩ := hw_184
              rw [if_pos hs_185] at e1 e2; subst e1; have e2 := e2.symm; subst e2
              have hs_185i := zK_le (B := B) (en := en) (i := h_175 + 1) (by omega)
              refine lv_istore_n (lv' := [(3, .int 1), (5, .int (nI (zST ka + i * zWD ka))), (0, .ref aR), (1, .int (nI ka)), (2, .int (nI (zM ka))), (4, .int (nI i))]) hx hb d_Rd_takeThings_171 rfl hl (by decide) rfl (fun ls hl => ?_)
              refine lv_iinc (v := nI (i + 1)) (lv' := [(4, .int (nI (i + 1))), (3, .int 1), (5, .int (nI (zST ka + i * zWD ka))), (0, .ref aR), (1, .int (nI ka)), (2, .int (nI (zM ka)))]) hx hb d_Rd_takeThings_172 hl (k := 5) rfl (nI_add i 1) (by decide) rfl (fun ls hl => ?_)
              refine lv_goto (tgt := 35) hx hb d_Rd_takeThings_175 (by decide) ?_
              refine lv_iload hx hb d_Rd_takeThings_35 (lv_at hl 0 rfl) ?_
              refine lv_iload_n hx hb d_Rd_takeThings_37 rfl (lv_at hl 5 rfl) ?_
              refine lv_icmp_gt (tgt := 178) hx hb d_Rd_takeThings_38 (by decide) (fun c_186 => ?_) (fun c_186 => ?_)
              ·
                exact absurd c_186 (nI_nlt (a := zM ka) (b := i + 1) (by omega) (by omega))
              ·
                refine lv_iload_n hx hb d_Rd_takeThings_41 rfl (lv_at hl 1 rfl) ?_
                refine lv_if_eq (tgt := 178) hx hb d_Rd_takeThings_42 (by decide) (fun c_187 => ?_) (fun c_187 => ?_)
                ·
                  exact absurd c_187 (by decide)
                ·
                  exact ih (i + 1) (zK B en (h_175 + 1)) na_163 cel_164 (by omega) (by omega) (by omega) (by rw [hI, zThs_step (by omega), if_neg c_1, hth_173]; simp only [zB_ok, hw_176]; rw [if_pos hs_185]) _ _ (hP.sub [0, 4, 5, 1, 2, 3] rfl) (hD.sub [0, 4, 5, 1, 2, 3] (by decide) rfl) hS ls (lv_sub hl [3, 4, 5, 0] rfl)
            ·
              obtain ⟨e1, e2⟩ := hw_184
              rw [if_neg hs_185] at e1 e2; subst e1; have e2 := e2.symm; subst e2
              refine lv_istore_n (lv' := [(3, .int 0), (5, .int (nI (zST ka + i * zWD ka))), (0, .ref aR), (1, .int (nI ka)), (2, .int (nI (zM ka))), (4, .int (nI i))]) hx hb d_Rd_takeThings_171 rfl hl (by decide) rfl (fun ls hl => ?_)
              refine lv_iinc (v := nI (i + 1)) (lv' := [(4, .int (nI (i + 1))), (3, .int 0), (5, .int (nI (zST ka + i * zWD ka))), (0, .ref aR), (1, .int (nI ka)), (2, .int (nI (zM ka)))]) hx hb d_Rd_takeThings_172 hl (k := 5) rfl (nI_add i 1) (by decide) rfl (fun ls hl => ?_)
              refine lv_goto (tgt := 35) hx hb d_Rd_takeThings_175 (by decide) ?_
              refine lv_iload hx hb d_Rd_takeThings_35 (lv_at hl 0 rfl) ?_
              refine lv_iload_n hx hb d_Rd_takeThings_37 rfl (lv_at hl 5 rfl) ?_
              refine lv_icmp_gt (tgt := 178) hx hb d_Rd_takeThings_38 (by decide) (fun c_188 => ?_) (fun c_188 => ?_)
              ·
                exact absurd c_188 (nI_nlt (a := zM ka) (b := i + 1) (by omega) (by omega))
              ·
                refine lv_iload_n hx hb d_Rd_takeThings_41 rfl (lv_at hl 1 rfl) ?_
                refine lv_if_eq (tgt := 178) hx hb d_Rd_takeThings_42 (by decide) (fun c_189 => ?_) (fun c_189 => ?_)
                ·
                  have tl_190 : zThings B en ka cnt (h, cel) = zEnd B en (i + 1, h_175, cel_164) := by rw [hI, zThs_step (by omega), if_neg c_1, hth_173]; simp only [zB_ok, hw_176]; rw [if_neg hs_185, zB_ok]
                  refine lv_aload_n hx hb d_Rd_takeThings_178 rfl (lv_at hl 3 rfl) ?_
                  refine va_get (D := (dC, dI)) (ci := 0) (v := .ref aT) (C := R_Rd) (T := F_Rd) (N := 2) hx hb hz i_Rd hown hK hP 0 rfl rfl 0 (by decide) (hz _ tw_84) (fun _ h9 => h9) rfl d_Rd_takeThings_179 ?_
                  refine lv_bipush (v := 93) hx hb d_Rd_takeThings_182 (by decide) ?_
                  have hPc := hP.sub (ws' := [(aT, .inr (2, [.ref aB, .int (nI u), .int (nI en), .int (nI h_175), .int na_163, .int w, .int wa])), (aB, .inl (kB, 65536, .inl B))]) [4, 5] rfl
                  have hDc := hD.sub (ws' := [(aT, .inr (2, [.ref aB, .int (nI u), .int (nI en), .int (nI h_175), .int na_163, .int w, .int wa])), (aB, .inl (kB, 65536, .inl B))]) [4, 5] (by decide) rfl
                  have hKc := hK.sub (tys' := [(kB, .byte)]) [0] rfl
                  have hFc := va_free (wc := [(aT, .inr (2, [.ref aB, .int (nI u), .int (nI en), .int (nI h_175), .int na_163, .int w, .int wa])), (aB, .inl (kB, 65536, .inl B))]) hD hS hA [4, 5] rfl
                  refine zt_size (fun hzs => ?_)
                  refine vx_callv (vx_runV (As := [.int 93]) (rest := []) ⟨hx, hb, hml, hown, hts⟩ (c_Tp_mustTake l hst G dC dI H.size aT aB u en h_175 na_163 w wa kB B 93 (by omega) (by omega)) (cwV 1 hts (gV tw_214 tw_215 tw_216 tw_3 tw_217 rfl) rfl rfl rfl (by decide +kernel) ⟨Nat.le_of_ble_eq_true rfl, Nat.le_of_ble_eq_true rfl⟩) (PW_preV hPc hKc hDc hE hS hFc (ci := 2) (q0 := 0) rfl rfl) rfl rfl hl.1 rfl (lv_room (Nat.le_of_ble_eq_true rfl)) d_Rd_takeThings_184 ⟨Nat.le_of_ble_eq_true rfl, Nat.le_of_ble_eq_true rfl⟩) hS (fun q _ h => hFc q h) hFc (fun q _ h => hFc q h) (fun E9 ce9 q9 uu t H1 locs ht hvm hx_198 hB hz1 hk1 hS hce hcv hcl => ?_) (fun uu t H1 locs ht hvm hw_193 hB hz1 hk1 hS => ?_)
                  ·
                    obtain ⟨w_194, k_195, h_196, na_197⟩ := uu
                    obtain ⟨hEn, hP1, hD1⟩ := hB
                    rw [ht] at hP1
                    obtain ⟨hP, hD⟩ := va_join (wr := [(aR, .inr (0, [.ref aT, .ref aS])), (aS, .inr (1, [.ref aN, .ref aC])), (aN, .inl (kN, 5, .inl (fun j => nI ((zuN cnt ka (i + 1)) j)))), (aC, .inl (kC, 52035, .inl cel_164))]) (w1 := [(aT, .inr (2, [.ref aB, .int (nI u), .int (nI en), .int (nI h_196), .int na_197, .int w_194, .int (nI k_195)])), (aB, .inl (kB, 65536, .inl B))]) hP hD [4, 5] [0, 1, 2, 3] rfl rfl (by decide) (by decide) hk1 hFc hP1 hD1
                    generalize H1 = H at hP hS hce ⊢
                    have hP : va_P (dC, dI) vwCl [(aR, .inr (0, [.ref aT, .ref aS])), (aS, .inr (1, [.ref aN, .ref aC])), (aN, .inl (kN, 5, .inl (fun j => nI ((zuN cnt ka (i + 1)) j)))), (aC, .inl (kC, 52035, .inl cel_164)), (aT, .inr (2, [.ref aB, .int (nI u), .int (nI en), .int (nI h_196), .int na_197, .int w_194, .int (nI k_195)])), (aB, .inl (kB, 65536, .inl B))] H := hP
                    have hD : va_D A [(aR, .inr (0, [.ref aT, .ref aS])), (aS, .inr (1, [.ref aN, .ref aC])), (aN, .inl (kN, 5, .inl (fun j => nI ((zuN cnt ka (i + 1)) j)))), (aC, .inl (kC, 52035, .inl cel_164)), (aT, .inr (2, [.ref aB, .int (nI u), .int (nI en), .int (nI h_196), .int na_197, .int w_194, .int (nI k_195)])), (aB, .inl (kB, 65536, .inl B))] := hD
                    have hP9 := hP.sub (ws' := [(aR, .inr (0, [.ref aT, .ref aS])), (aT, .inr (2, [.ref aB, .int (nI u), .int (nI en), .int (nI h_196), .int na_197, .int w_194, .int (nI k_195)])), (aB, .inl (kB, 65536, .inl B)), (aS, .inr (1, [.ref aN, .ref aC])), (aN, .inl (kN, 5, .inl (fun j => nI ((zuN cnt ka (i + 1)) j)))), (aC, .inl (kC, 52035, .inl cel_164))]) [0, 4, 5, 1, 2, 3] rfl
                    have hD9 := hD.sub (ws' := [(aR, .inr (0, [.ref aT, .ref aS])), (aT, .inr (2, [.ref aB, .int (nI u), .int (nI en), .int (nI h_196), .int na_197, .int w_194, .int (nI k_195)])), (aB, .inl (kB, 65536, .inl B)), (aS, .inr (1, [.ref aN, .ref aC])), (aN, .inl (kN, 5, .inl (fun j => nI ((zuN cnt ka (i + 1)) j)))), (aC, .inl (kC, 52035, .inl cel_164))]) [0, 4, 5, 1, 2, 3] (by decide) rfl
                    exact vx_out (fun x hx => (htab x hx).elim) hlocks hce hcv hcl (fun t ht hvm => ⟨(w_194, k_195, h_196, na_197, zuN cnt ka (i + 1), cel_164), by rw [tl_190]; simp only [zEnd, zB_er, hx_198], ⟨hEn, by rw [ht]; exact hP9, hD9⟩, hS.F ht⟩) hS.2.2 (by decide) (by decide)
                  ·
                    obtain ⟨h_192, rfl⟩ : ∃ z, z = uu := ⟨_, rfl⟩
                    obtain ⟨hP1, hD1, hsz1⟩ := hB
                    rw [ht] at hP1 hsz1
                    obtain ⟨hP, hD⟩ := va_join (wr := [(aR, .inr (0, [.ref aT, .ref aS])), (aS, .inr (1, [.ref aN, .ref aC])), (aN, .inl (kN, 5, .inl (fun j => nI ((zuN cnt ka (i + 1)) j)))), (aC, .inl (kC, 52035, .inl cel_164))]) (w1 := [(aT, .inr (2, [.ref aB, .int (nI u), .int (nI en), .int (nI h_192), .int na_163, .int w, .int wa])), (aB, .inl (kB, 65536, .inl B))]) hP hD [4, 5] [0, 1, 2, 3] rfl rfl (by decide) (by decide) hk1 hFc hP1 hD1
                    refine zt_tight (hsz1.trans hzs) ?_
                    generalize H1 = H at hP hS ⊢
                    have hP : va_P (dC, dI) vwCl [(aR, .inr (0, [.ref aT, .ref aS])), (aS, .inr (1, [.ref aN, .ref aC])), (aN, .inl (kN, 5, .inl (fun j => nI ((zuN cnt ka (i + 1)) j)))), (aC, .inl (kC, 52035, .inl cel_164)), (aT, .inr (2, [.ref aB, .int (nI u), .int (nI en), .int (nI h_192), .int na_163, .int w, .int wa])), (aB, .inl (kB, 65536, .inl B))] H := hP
                    have hD : va_D A [(aR, .inr (0, [.ref aT, .ref aS])), (aS, .inr (1, [.ref aN, .ref aC])), (aN, .inl (kN, 5, .inl (fun j => nI ((zuN cnt ka (i + 1)) j)))), (aC, .inl (kC, 52035, .inl cel_164)), (aT, .inr (2, [.ref aB, .int (nI u), .int (nI en), .int (nI h_192), .int na_163, .int w, .int wa])), (aB, .inl (kB, 65536, .inl B))] := hD
                    have hw_193i := zMust_in hw_193
                    refine zt_size (fun hzs => ?_)
                    have hP9 := hP.sub (ws' := [(aR, .inr (0, [.ref aT, .ref aS])), (aT, .inr (2, [.ref aB, .int (nI u), .int (nI en), .int (nI h_192), .int na_163, .int w, .int wa])), (aB, .inl (kB, 65536, .inl B)), (aS, .inr (1, [.ref aN, .ref aC])), (aN, .inl (kN, 5, .inl (fun j => nI ((zuN cnt ka (i + 1)) j)))), (aC, .inl (kC, 52035, .inl cel_164))]) [0, 4, 5, 1, 2, 3] rfl
                    have hD9 := hD.sub (ws' := [(aR, .inr (0, [.ref aT, .ref aS])), (aT, .inr (2, [.ref aB, .int (nI u), .int (nI en), .int (nI h_192), .int na_163, .int w, .int wa])), (aB, .inl (kB, 65536, .inl B)), (aS, .inr (1, [.ref aN, .ref aC])), (aN, .inl (kN, 5, .inl (fun j => nI ((zuN cnt ka (i + 1)) j)))), (aC, .inl (kC, 52035, .inl cel_164))]) [0, 4, 5, 1, 2, 3] (by decide) rfl
                    refine W.widen (k := 1) (n := 6) (by decide) (by decide) ?_
                    exact vx_ret (W.vret hx hb hr (fun t ht hW => ⟨⟨(h_192, na_163, zuN cnt ka (i + 1), cel_164, i + 1), rfl, ⟨by rw [tl_190]; simp only [zEnd, zB_ok, hw_193], rfl⟩, by rw [ht]; exact hP9, hD9, by rw [ht]; exact hzs⟩, hS.F ht⟩) hS.2.2 d_Rd_takeThings_187)
                ·
                  exact absurd (by decide) c_189
    ·
      have c_1 : i = (zM ka) := (@nI_eq i (zM ka) (by omega) (by omega)).mp c_1
      refine lv_aload_n hx hb d_Rd_takeThings_51 rfl (lv_at hl 0 rfl) ?_
      refine va_get (D := (dC, dI)) (ci := 0) (v := .ref aT) (C := R_Rd) (T := F_Rd) (N := 2) hx hb hz i_Rd hown hK hP 0 rfl rfl 0 (by decide) (hz _ tw_84) (fun _ h9 => h9) rfl d_Rd_takeThings_52 ?_
      refine lv_aload_n hx hb d_Rd_takeThings_55 rfl (lv_at hl 0 rfl) ?_
      refine va_get (D := (dC, dI)) (ci := 0) (v := .ref aT) (C := R_Rd) (T := F_Rd) (N := 2) hx hb hz i_Rd hown hK hP 0 rfl rfl 0 (by decide) (hz _ tw_84) (fun _ h9 => h9) rfl d_Rd_takeThings_56 ?_
      refine lv_bipush (v := 123) hx hb d_Rd_takeThings_59 (by decide) ?_
      have hPc := hP.sub (ws' := [(aT, .inr (2, [.ref aB, .int (nI u), .int (nI en), .int (nI h2), .int na2, .int w, .int wa])), (aB, .inl (kB, 65536, .inl B))]) [1, 2] rfl
      have hDc := hD.sub (ws' := [(aT, .inr (2, [.ref aB, .int (nI u), .int (nI en), .int (nI h2), .int na2, .int w, .int wa])), (aB, .inl (kB, 65536, .inl B))]) [1, 2] (by decide) rfl
      have hKc := hK.sub (tys' := [(kB, .byte)]) [0] rfl
      have hFc := va_free (wc := [(aT, .inr (2, [.ref aB, .int (nI u), .int (nI en), .int (nI h2), .int na2, .int w, .int wa])), (aB, .inl (kB, 65536, .inl B))]) hD hS hA [1, 2] rfl
      refine va_calli (va_runV (As := [.int 123]) (rest := [.ref aT]) ⟨hx, hb, hml, hown, hts⟩ (c_Tp_sees l G dC dI H.size aT aB u en h2 na2 w wa kB B 123 (by omega) (by omega)) (cwV 1 hts (gV tw_291 tw_219 tw_220 tw_3 tw_221 rfl) rfl rfl rfl (by decide +kernel) ⟨Nat.le_of_ble_eq_true rfl, Nat.le_of_ble_eq_true rfl⟩) (PW_preV hPc hKc hDc hE hS hFc (ci := 2) (q0 := 0) rfl rfl) rfl rfl hl.1 rfl (lv_room (Nat.le_of_ble_eq_true rfl)) d_Rd_takeThings_61 ⟨Nat.le_of_ble_eq_true rfl, Nat.le_of_ble_eq_true rfl⟩) hS (fun q _ h => hFc q h) hFc (fun r_199 uu t H1 locs ht hvm hw_200 hB hz1 hk1 hS => ?_)
      obtain ⟨hP1, hD1, hsz1⟩ := hB
      rw [ht] at hP1 hsz1
      obtain ⟨hP, hD⟩ := va_join (wr := [(aR, .inr (0, [.ref aT, .ref aS])), (aS, .inr (1, [.ref aN, .ref aC])), (aN, .inl (kN, 5, .inl (fun j => nI ((zuN cnt ka i) j)))), (aC, .inl (kC, 52035, .inl cel2))]) (w1 := [(aT, .inr (2, [.ref aB, .int (nI u), .int (nI en), .int (nI h2), .int na2, .int w, .int wa])), (aB, .inl (kB, 65536, .inl B))]) hP hD [1, 2] [0, 3, 4, 5] rfl rfl (by decide) (by decide) hk1 hFc hP1 hD1
      generalize H1 = H at hP hS ⊢
      have hP : va_P (dC, dI) vwCl [(aR, .inr (0, [.ref aT, .ref aS])), (aS, .inr (1, [.ref aN, .ref aC])), (aN, .inl (kN, 5, .inl (fun j => nI ((zuN cnt ka i) j)))), (aC, .inl (kC, 52035, .inl cel2)), (aT, .inr (2, [.ref aB, .int (nI u), .int (nI en), .int (nI h2), .int na2, .int w, .int wa])), (aB, .inl (kB, 65536, .inl B))] H := hP
      have hD : va_D A [(aR, .inr (0, [.ref aT, .ref aS])), (aS, .inr (1, [.ref aN, .ref aC])), (aN, .inl (kN, 5, .inl (fun j => nI ((zuN cnt ka i) j)))), (aC, .inl (kC, 52035, .inl cel2)), (aT, .inr (2, [.ref aB, .int (nI u), .int (nI en), .int (nI h2), .int na2, .int w, .int wa])), (aB, .inl (kB, 65536, .inl B))] := hD
      by_cases hs_201 : h2 < en ∧ B h2 = 123
      ·
        rw [if_pos hs_201] at hw_200; subst hw_200
        refine lv_if_eq (tgt := 71) hx hb d_Rd_takeThings_64 (by decide) (fun c_202 => ?_) (fun c_202 => ?_)
        ·
          exact absurd c_202 (by decide)
        ·
          refine lv_iconst (v := 3) hx hb d_Rd_takeThings_67 (by decide) ?_
          refine lv_goto (tgt := 72) hx hb d_Rd_takeThings_68 (by decide) ?_
          refine lv_aload_n hx hb d_Rd_takeThings_72 rfl (lv_at hl 0 rfl) ?_
          refine va_get (D := (dC, dI)) (ci := 0) (v := .ref aT) (C := R_Rd) (T := F_Rd) (N := 2) hx hb hz i_Rd hown hK hP 0 rfl rfl 0 (by decide) (hz _ tw_84) (fun _ h9 => h9) rfl d_Rd_takeThings_73 ?_
          refine va_getN (D := (dC, dI)) (ci := 2) (v := .int (nI h2)) (C := R_Tp) (T := F_Tp) (N := 7) hx hb hz i_Tp hown hK hP 4 rfl rfl 3 (by decide) (va_Nw.use rfl (hE.1 _ (List.mem_of_getElem? (i := 3) rfl))) (fun _ h9 => h9) rfl d_Rd_takeThings_76 ?_
          have hPc := hP.sub (ws' := [(aT, .inr (2, [.ref aB, .int (nI u), .int (nI en), .int (nI h2), .int na2, .int w, .int wa])), (aB, .inl (kB, 65536, .inl B))]) [4, 5] rfl
          have hDc := hD.sub (ws' := [(aT, .inr (2, [.ref aB, .int (nI u), .int (nI en), .int (nI h2), .int na2, .int w, .int wa])), (aB, .inl (kB, 65536, .inl B))]) [4, 5] (by decide) rfl
          have hKc := hK.sub (tys' := [(kB, .byte)]) [0] rfl
          have hFc := va_free (wc := [(aT, .inr (2, [.ref aB, .int (nI u), .int (nI en), .int (nI h2), .int na2, .int w, .int wa])), (aB, .inl (kB, 65536, .inl B))]) hD hS hA [4, 5] rfl
          refine zt_size (fun hzs => ?_)
          refine vx_callv (vx_runV (As := [.int 3, .int (nI h2)]) (rest := []) ⟨hx, hb, hml, hown, hts⟩ (c_Tp_refuse l hst G dC dI H.size aT aB u en h2 na2 w wa kB B 3 (nI h2)) (cwV 2 hts (gV tw_363 tw_223 tw_224 tw_3 tw_225 rfl) rfl rfl rfl (by decide +kernel) ⟨Nat.le_of_ble_eq_true rfl, Nat.le_of_ble_eq_true rfl⟩) (PW_preV hPc hKc hDc hE hS hFc (ci := 2) (q0 := 0) rfl rfl) rfl rfl hl.1 rfl (lv_room (Nat.le_of_ble_eq_true rfl)) d_Rd_takeThings_79 ⟨Nat.le_of_ble_eq_true rfl, Nat.le_of_ble_eq_true rfl⟩) hS (fun q _ h => hFc q h) hFc (fun q _ h => hFc q h) (fun E9 ce9 q9 uu t H1 locs ht hvm hx_207 hB hz1 hk1 hS hce hcv hcl => ?_) (fun uu t H1 locs ht hvm hw_204 hB hz1 hk1 hS => ?_)
          ·
            obtain ⟨w_205, wa_206⟩ := uu
            obtain ⟨hEn, hP1, hD1⟩ := hB
            rw [ht] at hP1
            obtain ⟨hP, hD⟩ := va_join (wr := [(aR, .inr (0, [.ref aT, .ref aS])), (aS, .inr (1, [.ref aN, .ref aC])), (aN, .inl (kN, 5, .inl (fun j => nI ((zuN cnt ka i) j)))), (aC, .inl (kC, 52035, .inl cel2))]) (w1 := [(aT, .inr (2, [.ref aB, .int (nI u), .int (nI en), .int (nI h2), .int na2, .int w_205, .int wa_206])), (aB, .inl (kB, 65536, .inl B))]) hP hD [4, 5] [0, 1, 2, 3] rfl rfl (by decide) (by decide) hk1 hFc hP1 hD1
            generalize H1 = H at hP hS hce ⊢
            have hP : va_P (dC, dI) vwCl [(aR, .inr (0, [.ref aT, .ref aS])), (aS, .inr (1, [.ref aN, .ref aC])), (aN, .inl (kN, 5, .inl (fun j => nI ((zuN cnt ka i) j)))), (aC, .inl (kC, 52035, .inl cel2)), (aT, .inr (2, [.ref aB, .int (nI u), .int (nI en), .int (nI h2), .int na2, .int w_205, .int wa_206])), (aB, .inl (kB, 65536, .inl B))] H := hP
            have hD : va_D A [(aR, .inr (0, [.ref aT, .ref aS])), (aS, .inr (1, [.ref aN, .ref aC])), (aN, .inl (kN, 5, .inl (fun j => nI ((zuN cnt ka i) j)))), (aC, .inl (kC, 52035, .inl cel2)), (aT, .inr (2, [.ref aB, .int (nI u), .int (nI en), .int (nI h2), .int na2, .int w_205, .int wa_206])), (aB, .inl (kB, 65536, .inl B))] := hD
            obtain ⟨rfl, rfl⟩ := hx_207
            have hP9 := hP.sub (ws' := [(aR, .inr (0, [.ref aT, .ref aS])), (aT, .inr (2, [.ref aB, .int (nI u), .int (nI en), .int (nI h2), .int na2, .int 3, .int (nI h2)])), (aB, .inl (kB, 65536, .inl B)), (aS, .inr (1, [.ref aN, .ref aC])), (aN, .inl (kN, 5, .inl (fun j => nI ((zuN cnt ka i) j)))), (aC, .inl (kC, 52035, .inl cel2))]) [0, 4, 5, 1, 2, 3] rfl
            have hD9 := hD.sub (ws' := [(aR, .inr (0, [.ref aT, .ref aS])), (aT, .inr (2, [.ref aB, .int (nI u), .int (nI en), .int (nI h2), .int na2, .int 3, .int (nI h2)])), (aB, .inl (kB, 65536, .inl B)), (aS, .inr (1, [.ref aN, .ref aC])), (aN, .inl (kN, 5, .inl (fun j => nI ((zuN cnt ka i) j)))), (aC, .inl (kC, 52035, .inl cel2))]) [0, 4, 5, 1, 2, 3] (by decide) rfl
            exact vx_out (fun x hx => (htab x hx).elim) hlocks hce hcv hcl (fun t ht hvm => ⟨(3, h2, h2, na2, zuN cnt ka i, cel2), by rw [hI, zThs_step (by omega), if_pos c_1, zB_er, if_pos hs_201], ⟨hEn, by rw [ht]; exact hP9, hD9⟩, hS.F ht⟩) hS.2.2 (by decide) (by decide)
          · exact (hw_204 : False).elim
      ·
        rw [if_neg hs_201] at hw_200; subst hw_200
        refine lv_if_eq (tgt := 71) hx hb d_Rd_takeThings_64 (by decide) (fun c_208 => ?_) (fun c_208 => ?_)
        ·
          refine lv_iconst (v := 1) hx hb d_Rd_takeThings_71 (by decide) ?_
          refine lv_aload_n hx hb d_Rd_takeThings_72 rfl (lv_at hl 0 rfl) ?_
          refine va_get (D := (dC, dI)) (ci := 0) (v := .ref aT) (C := R_Rd) (T := F_Rd) (N := 2) hx hb hz i_Rd hown hK hP 0 rfl rfl 0 (by decide) (hz _ tw_84) (fun _ h9 => h9) rfl d_Rd_takeThings_73 ?_
          refine va_getN (D := (dC, dI)) (ci := 2) (v := .int (nI h2)) (C := R_Tp) (T := F_Tp) (N := 7) hx hb hz i_Tp hown hK hP 4 rfl rfl 3 (by decide) (va_Nw.use rfl (hE.1 _ (List.mem_of_getElem? (i := 3) rfl))) (fun _ h9 => h9) rfl d_Rd_takeThings_76 ?_
          have hPc := hP.sub (ws' := [(aT, .inr (2, [.ref aB, .int (nI u), .int (nI en), .int (nI h2), .int na2, .int w, .int wa])), (aB, .inl (kB, 65536, .inl B))]) [4, 5] rfl
          have hDc := hD.sub (ws' := [(aT, .inr (2, [.ref aB, .int (nI u), .int (nI en), .int (nI h2), .int na2, .int w, .int wa])), (aB, .inl (kB, 65536, .inl B))]) [4, 5] (by decide) rfl
          have hKc := hK.sub (tys' := [(kB, .byte)]) [0] rfl
          have hFc := va_free (wc := [(aT, .inr (2, [.ref aB, .int (nI u), .int (nI en), .int (nI h2), .int na2, .int w, .int wa])), (aB, .inl (kB, 65536, .inl B))]) hD hS hA [4, 5] rfl
          refine zt_size (fun hzs => ?_)
          refine vx_callv (vx_runV (As := [.int 1, .int (nI h2)]) (rest := []) ⟨hx, hb, hml, hown, hts⟩ (c_Tp_refuse l hst G dC dI H.size aT aB u en h2 na2 w wa kB B 1 (nI h2)) (cwV 2 hts (gV tw_363 tw_223 tw_224 tw_3 tw_225 rfl) rfl rfl rfl (by decide +kernel) ⟨Nat.le_of_ble_eq_true rfl, Nat.le_of_ble_eq_true rfl⟩) (PW_preV hPc hKc hDc hE hS hFc (ci := 2) (q0 := 0) rfl rfl) rfl rfl hl.1 rfl (lv_room (Nat.le_of_ble_eq_true rfl)) d_Rd_takeThings_79 ⟨Nat.le_of_ble_eq_true rfl, Nat.le_of_ble_eq_true rfl⟩) hS (fun q _ h => hFc q h) hFc (fun q _ h => hFc q h) (fun E9 ce9 q9 uu t H1 locs ht hvm hx_213 hB hz1 hk1 hS hce hcv hcl => ?_) (fun uu t H1 locs ht hvm hw_210 hB hz1 hk1 hS => ?_)
          ·
            obtain ⟨w_211, wa_212⟩ := uu
            obtain ⟨hEn, hP1, hD1⟩ := hB
            rw [ht] at hP1
            obtain ⟨hP, hD⟩ := va_join (wr := [(aR, .inr (0, [.ref aT, .ref aS])), (aS, .inr (1, [.ref aN, .ref aC])), (aN, .inl (kN, 5, .inl (fun j => nI ((zuN cnt ka i) j)))), (aC, .inl (kC, 52035, .inl cel2))]) (w1 := [(aT, .inr (2, [.ref aB, .int (nI u), .int (nI en), .int (nI h2), .int na2, .int w_211, .int wa_212])), (aB, .inl (kB, 65536, .inl B))]) hP hD [4, 5] [0, 1, 2, 3] rfl rfl (by decide) (by decide) hk1 hFc hP1 hD1
            generalize H1 = H at hP hS hce ⊢
            have hP : va_P (dC, dI) vwCl [(aR, .inr (0, [.ref aT, .ref aS])), (aS, .inr (1, [.ref aN, .ref aC])), (aN, .inl (kN, 5, .inl (fun j => nI ((zuN cnt ka i) j)))), (aC, .inl (kC, 52035, .inl cel2)), (aT, .inr (2, [.ref aB, .int (nI u), .int (nI en), .int (nI h2), .int na2, .int w_211, .int wa_212])), (aB, .inl (kB, 65536, .inl B))] H := hP
            have hD : va_D A [(aR, .inr (0, [.ref aT, .ref aS])), (aS, .inr (1, [.ref aN, .ref aC])), (aN, .inl (kN, 5, .inl (fun j => nI ((zuN cnt ka i) j)))), (aC, .inl (kC, 52035, .inl cel2)), (aT, .inr (2, [.ref aB, .int (nI u), .int (nI en), .int (nI h2), .int na2, .int w_211, .int wa_212])), (aB, .inl (kB, 65536, .inl B))] := hD
            obtain ⟨rfl, rfl⟩ := hx_213
            have hP9 := hP.sub (ws' := [(aR, .inr (0, [.ref aT, .ref aS])), (aT, .inr (2, [.ref aB, .int (nI u), .int (nI en), .int (nI h2), .int na2, .int 1, .int (nI h2)])), (aB, .inl (kB, 65536, .inl B)), (aS, .inr (1, [.ref aN, .ref aC])), (aN, .inl (kN, 5, .inl (fun j => nI ((zuN cnt ka i) j)))), (aC, .inl (kC, 52035, .inl cel2))]) [0, 4, 5, 1, 2, 3] rfl
            have hD9 := hD.sub (ws' := [(aR, .inr (0, [.ref aT, .ref aS])), (aT, .inr (2, [.ref aB, .int (nI u), .int (nI en), .int (nI h2), .int na2, .int 1, .int (nI h2)])), (aB, .inl (kB, 65536, .inl B)), (aS, .inr (1, [.ref aN, .ref aC])), (aN, .inl (kN, 5, .inl (fun j => nI ((zuN cnt ka i) j)))), (aC, .inl (kC, 52035, .inl cel2))]) [0, 4, 5, 1, 2, 3] (by decide) rfl
            exact vx_out (fun x hx => (htab x hx).elim) hlocks hce hcv hcl (fun t ht hvm => ⟨(1, h2, h2, na2, zuN cnt ka i, cel2), by rw [hI, zThs_step (by omega), if_pos c_1, zB_er, if_neg hs_201], ⟨hEn, by rw [ht]; exact hP9, hD9⟩, hS.F ht⟩) hS.2.2 (by decide) (by decide)
          · exact (hw_210 : False).elim
        ·
          exact absurd (by decide) c_208
set_option maxHeartbeats 4000000 in
set_option maxRecDepth 100000 in
theorem c_Rd_takeThings (l : Launch) (hst : l.stackTraces = false) (G : ZG) (dC : Nat → ClassId) (dI : Nat → Nat → Nat) (sz : Nat) (aR : Nat) (aT : Nat) (aS : Nat) (aB : Nat) (u : Nat) (en : Nat) (h : Nat) (na : Int32) (w : Int32) (wa : Int32) (kB : ClassId) (B : Nat → Int32) (aN : Nat) (aC : Nat) (kN : ClassId) (cnt : Nat → Nat) (kC : ClassId) (cel : Nat → Int32) (ka : Nat) (hen : en ≤ 65536) (hh : h ≤ en) (hka : ka < 5) (hc0 : cnt ka = 0) : vx_Met l y_Rd_takeThings w_Rd_takeThings ({ frames := 10, cells := 1, slots := 6, locals := 182 }) (va_Pc [.ref aR, .int (nI ka)] (PW G (dC, dI) [(kB, .byte), (kN, .int), (kC, .int)] [(aR, .inr (0, [.ref aT, .ref aS])), (aT, .inr (2, [.ref aB, .int (nI u), .int (nI en), .int (nI h), .int na, .int w, .int wa])), (aB, .inl (kB, 65536, .inl B)), (aS, .inr (1, [.ref aN, .ref aC])), (aN, .inl (kN, 5, .inl (fun j => nI (cnt j)))), (aC, .inl (kC, 52035, .inl cel))] sz)) (va_Qv (fun (uu : Nat × Int32 × (Nat → Nat) × (Nat → Int32) × Nat) => zThings B en ka cnt (h, cel) = .ok (uu.2.2.2.2, uu.1, uu.2.2.2.1) ∧ uu.2.2.1 = zuN cnt ka uu.2.2.2.2) (fun (uu : Nat × Int32 × (Nat → Nat) × (Nat → Int32) × Nat) t => BW (dC, dI) [(aR, .inr (0, [.ref aT, .ref aS])), (aT, .inr (2, [.ref aB, .int (nI u), .int (nI en), .int (nI uu.1), .int uu.2.1, .int w, .int wa])), (aB, .inl (kB, 65536, .inl B)), (aS, .inr (1, [.ref aN, .ref aC])), (aN, .inl (kN, 5, .inl (fun j => nI (uu.2.2.1 j)))), (aC, .inl (kC, 52035, .inl uu.2.2.2.1))] (va_A [(aR, .inr (0, [.ref aT, .ref aS])), (aT, .inr (2, [.ref aB, .int (nI u), .int (nI en), .int (nI h), .int na, .int w, .int wa])), (aB, .inl (kB, 65536, .inl B)), (aS, .inr (1, [.ref aN, .ref aC])), (aN, .inl (kN, 5, .inl (fun j => nI (cnt j)))), (aC, .inl (kC, 52035, .inl cel))] sz) sz t) (va_A [(aR, .inr (0, [.ref aT, .ref aS])), (aT, .inr (2, [.ref aB, .int (nI u), .int (nI en), .int (nI h), .int na, .int w, .int wa])), (aB, .inl (kB, 65536, .inl B)), (aS, .inr (1, [.ref aN, .ref aC])), (aN, .inl (kN, 5, .inl (fun j => nI (cnt j)))), (aC, .inl (kC, 52035, .inl cel))] sz)) (vx_X (fun (uu : Int32 × Nat × Nat × Int32 × (Nat → Nat) × (Nat → Int32)) => zThings B en ka cnt (h, cel) = .error (uu.1, uu.2.1)) (fun E (uu : Int32 × Nat × Nat × Int32 × (Nat → Nat) × (Nat → Int32)) t => E = "java/lang/IllegalArgumentException" ∧ va_P (dC, dI) vwCl [(aR, .inr (0, [.ref aT, .ref aS])), (aT, .inr (2, [.ref aB, .int (nI u), .int (nI en), .int (nI uu.2.2.1), .int uu.2.2.2.1, .int uu.1, .int (nI uu.2.1)])), (aB, .inl (kB, 65536, .inl B)), (aS, .inr (1, [.ref aN, .ref aC])), (aN, .inl (kN, 5, .inl (fun j => nI (uu.2.2.2.2.1 j)))), (aC, .inl (kC, 52035, .inl uu.2.2.2.2.2))] t.heap ∧ va_D (va_A [(aR, .inr (0, [.ref aT, .ref aS])), (aT, .inr (2, [.ref aB, .int (nI u), .int (nI en), .int (nI h), .int na, .int w, .int wa])), (aB, .inl (kB, 65536, .inl B)), (aS, .inr (1, [.ref aN, .ref aC])), (aN, .inl (kN, 5, .inl (fun j => nI (cnt j)))), (aC, .inl (kC, 52035, .inl cel))] sz) [(aR, .inr (0, [.ref aT, .ref aS])), (aT, .inr (2, [.ref aB, .int (nI u), .int (nI en), .int (nI uu.2.2.1), .int uu.2.2.2.1, .int uu.1, .int (nI uu.2.1)])), (aB, .inl (kB, 65536, .inl B)), (aS, .inr (1, [.ref aN, .ref aC])), (aN, .inl (kN, 5, .inl (fun j => nI (uu.2.2.2.2.1 j)))), (aC, .inl (kC, 52035, .inl uu.2.2.2.2.2))]) (va_A [(aR, .inr (0, [.ref aT, .ref aS])), (aT, .inr (2, [.ref aB, .int (nI u), .int (nI en), .int (nI h), .int na, .int w, .int wa])), (aB, .inl (kB, 65536, .inl B)), (aS, .inr (1, [.ref aN, .ref aC])), (aN, .inl (kN, 5, .inl (fun j => nI (cnt j)))), (aC, .inl (kC, 52035, .inl cel))] sz)) 1 6 (va_A [(aR, .inr (0, [.ref aT, .ref aS])), (aT, .inr (2, [.ref aB, .int (nI u), .int (nI en), .int (nI h), .int na, .int w, .int wa])), (aB, .inl (kB, 65536, .inl B)), (aS, .inr (1, [.ref aN, .ref aC])), (aN, .inl (kN, 5, .inl (fun j => nI (cnt j)))), (aC, .inl (kC, 52035, .inl cel))] sz) := by
  refine vx_ofW (cc := prog_2_method_4_code) (maxL := 6) (ret := none) (by decide) rfl ?_
  intro p e s m args below meth c s₁ Bd hml htab hv
  obtain ⟨rfl, hsz, hP, hK, hD0, hE⟩ := hv
  have hx := Bd.exec
  have hb := Bd.bytes
  have hr := Bd.returns
  have hts := atoms_spec (ws := w_Rd_takeThings) Bd.pre
  have hown : s.vm.findClass R_Rd = some m.cls := findClass_of_methodNamed Bd.named
  have hlocks := Bd.notSynchronized
  have hz : ∀ w ∈ ZW, w.before _ s = true := fun w h => hts w (List.mem_cons_of_mem _ h)
  subst hsz
  have hD := hD0.self (sz := s.heap.size)
  generalize hAe : va_A [(aR, .inr (0, [.ref aT, .ref aS])), (aT, .inr (2, [.ref aB, .int (nI u), .int (nI en), .int (nI h), .int na, .int w, .int wa])), (aB, .inl (kB, 65536, .inl B)), (aS, .inr (1, [.ref aN, .ref aC])), (aN, .inl (kN, 5, .inl (fun j => nI (cnt j)))), (aC, .inl (kC, 52035, .inl cel))] s.heap.size = A at hD hE ⊢
  have hA : ∀ q : Nat, s.heap.size ≤ q → A q := fun q h => by rw [← hAe]; exact Or.inr h
  have hS : va_S A s.heap s.heap [] := va_S.rf
  have hl := lv_entry ([.ref aR, .int (nI ka)]) (n := 6) (Nat.le_of_ble_eq_true rfl)
  rw [lg_entry_eq]
  generalize (lg_sl ([.ref aR, .int (nI ka)]) ++ List.replicate (6 - (lg_sl ([.ref aR, .int (nI ka)])).length) Slot.unset).toArray = ls at hl ⊢
  have hl : lv_has ls 6 [(0, .ref aR), (1, .int (nI ka))] := hl
  obtain ⟨H, hH⟩ : ∃ z, z = s.heap := ⟨_, rfl⟩
  have hP : va_P (dC, dI) vwCl [(aR, .inr (0, [.ref aT, .ref aS])), (aT, .inr (2, [.ref aB, .int (nI u), .int (nI en), .int (nI h), .int na, .int w, .int wa])), (aB, .inl (kB, 65536, .inl B)), (aS, .inr (1, [.ref aN, .ref aC])), (aN, .inl (kN, 5, .inl (fun j => nI (cnt j)))), (aC, .inl (kC, 52035, .inl cel))] H := by rw [hH]; exact hP
  have hS : va_S A s.heap H [] := by rw [hH]; exact hS
  refine zt_heap hH ?_
  have hzM := zM_le ka
  refine lv_iload_n hx hb d_Rd_takeThings_0 rfl (lv_at hl 1 rfl) ?_
  have hPc := hP.sub (ws' := []) [] rfl
  have hDc := hD.sub (ws' := []) [] (by decide) rfl
  have hKc := hK.sub (tys' := []) [] rfl
  have hFc := va_free (wc := []) hD hS hA [] rfl
  refine va_calli (va_runS (As := [.int (nI ka)]) (rest := []) ⟨hx, hb, hml, hown, hts⟩ (c_Sc_mostOf l G dC dI H.size ka (by omega)) (va_cwS 1 hts (gS tw_403 tw_404 tw_4 tw_405) rfl rfl rfl (by decide +kernel) ⟨Nat.le_of_ble_eq_true rfl, Nat.le_of_ble_eq_true rfl⟩) (PW_preS hPc hKc hDc hE hS hFc) rfl rfl hl.1 rfl (lv_room (Nat.le_of_ble_eq_true rfl)) d_Rd_takeThings_1 ⟨Nat.le_of_ble_eq_true rfl, Nat.le_of_ble_eq_true rfl⟩) hS (fun q _ h => hFc q h) hFc (fun r_1 uu t H1 locs ht hvm hw_2 hB hz1 hk1 hS => ?_)
  obtain ⟨hP1, hD1, hsz1⟩ := hB
  rw [ht] at hP1 hsz1
  obtain ⟨hP, hD⟩ := va_join (wr := [(aR, .inr (0, [.ref aT, .ref aS])), (aT, .inr (2, [.ref aB, .int (nI u), .int (nI en), .int (nI h), .int na, .int w, .int wa])), (aB, .inl (kB, 65536, .inl B)), (aS, .inr (1, [.ref aN, .ref aC])), (aN, .inl (kN, 5, .inl (fun j => nI (cnt j)))), (aC, .inl (kC, 52035, .inl cel))]) (w1 := []) hP hD [] [0, 1, 2, 3, 4, 5] rfl rfl (by decide) (by decide) hk1 hFc hP1 hD1
  generalize H1 = H at hP hS ⊢
  have hP : va_P (dC, dI) vwCl [(aR, .inr (0, [.ref aT, .ref aS])), (aT, .inr (2, [.ref aB, .int (nI u), .int (nI en), .int (nI h), .int na, .int w, .int wa])), (aB, .inl (kB, 65536, .inl B)), (aS, .inr (1, [.ref aN, .ref aC])), (aN, .inl (kN, 5, .inl (fun j => nI (cnt j)))), (aC, .inl (kC, 52035, .inl cel))] H := hP
  have hD : va_D A [(aR, .inr (0, [.ref aT, .ref aS])), (aT, .inr (2, [.ref aB, .int (nI u), .int (nI en), .int (nI h), .int na, .int w, .int wa])), (aB, .inl (kB, 65536, .inl B)), (aS, .inr (1, [.ref aN, .ref aC])), (aN, .inl (kN, 5, .inl (fun j => nI (cnt j)))), (aC, .inl (kC, 52035, .inl cel))] := hD
  subst hw_2
  refine lv_istore_n (lv' := [(2, .int (nI (zM ka))), (0, .ref aR), (1, .int (nI ka))]) hx hb d_Rd_takeThings_4 rfl hl (by decide) rfl (fun ls hl => ?_)
  refine lv_aload_n hx hb d_Rd_takeThings_5 rfl (lv_at hl 1 rfl) ?_
  refine va_get (D := (dC, dI)) (ci := 0) (v := .ref aT) (C := R_Rd) (T := F_Rd) (N := 2) hx hb hz i_Rd hown hK hP 0 rfl rfl 0 (by decide) (hz _ tw_84) (fun _ h9 => h9) rfl d_Rd_takeThings_6 ?_
  refine lv_bipush (v := 91) hx hb d_Rd_takeThings_9 (by decide) ?_
  have hPc := hP.sub (ws' := [(aT, .inr (2, [.ref aB, .int (nI u), .int (nI en), .int (nI h), .int na, .int w, .int wa])), (aB, .inl (kB, 65536, .inl B))]) [1, 2] rfl
  have hDc := hD.sub (ws' := [(aT, .inr (2, [.ref aB, .int (nI u), .int (nI en), .int (nI h), .int na, .int w, .int wa])), (aB, .inl (kB, 65536, .inl B))]) [1, 2] (by decide) rfl
  have hKc := hK.sub (tys' := [(kB, .byte)]) [0] rfl
  have hFc := va_free (wc := [(aT, .inr (2, [.ref aB, .int (nI u), .int (nI en), .int (nI h), .int na, .int w, .int wa])), (aB, .inl (kB, 65536, .inl B))]) hD hS hA [1, 2] rfl
  refine zt_size (fun hzs => ?_)
  refine vx_callv (vx_runV (As := [.int 91]) (rest := []) ⟨hx, hb, hml, hown, hts⟩ (c_Tp_mustTake l hst G dC dI H.size aT aB u en h na w wa kB B 91 (by omega) (by omega)) (cwV 1 hts (gV tw_214 tw_215 tw_216 tw_3 tw_217 rfl) rfl rfl rfl (by decide +kernel) ⟨Nat.le_of_ble_eq_true rfl, Nat.le_of_ble_eq_true rfl⟩) (PW_preV hPc hKc hDc hE hS hFc (ci := 2) (q0 := 0) rfl rfl) rfl rfl hl.1 rfl (lv_room (Nat.le_of_ble_eq_true rfl)) d_Rd_takeThings_11 ⟨Nat.le_of_ble_eq_true rfl, Nat.le_of_ble_eq_true rfl⟩) hS (fun q _ h => hFc q h) hFc (fun q _ h => hFc q h) (fun E9 ce9 q9 uu t H1 locs ht hvm hx_10 hB hz1 hk1 hS hce hcv hcl => ?_) (fun uu t H1 locs ht hvm hw_5 hB hz1 hk1 hS => ?_)
  ·
    obtain ⟨w_6, k_7, h_8, na_9⟩ := uu
    obtain ⟨hEn, hP1, hD1⟩ := hB
    rw [ht] at hP1
    obtain ⟨hP, hD⟩ := va_join (wr := [(aR, .inr (0, [.ref aT, .ref aS])), (aS, .inr (1, [.ref aN, .ref aC])), (aN, .inl (kN, 5, .inl (fun j => nI (cnt j)))), (aC, .inl (kC, 52035, .inl cel))]) (w1 := [(aT, .inr (2, [.ref aB, .int (nI u), .int (nI en), .int (nI h_8), .int na_9, .int w_6, .int (nI k_7)])), (aB, .inl (kB, 65536, .inl B))]) hP hD [1, 2] [0, 3, 4, 5] rfl rfl (by decide) (by decide) hk1 hFc hP1 hD1
    generalize H1 = H at hP hS hce ⊢
    have hP : va_P (dC, dI) vwCl [(aR, .inr (0, [.ref aT, .ref aS])), (aS, .inr (1, [.ref aN, .ref aC])), (aN, .inl (kN, 5, .inl (fun j => nI (cnt j)))), (aC, .inl (kC, 52035, .inl cel)), (aT, .inr (2, [.ref aB, .int (nI u), .int (nI en), .int (nI h_8), .int na_9, .int w_6, .int (nI k_7)])), (aB, .inl (kB, 65536, .inl B))] H := hP
    have hD : va_D A [(aR, .inr (0, [.ref aT, .ref aS])), (aS, .inr (1, [.ref aN, .ref aC])), (aN, .inl (kN, 5, .inl (fun j => nI (cnt j)))), (aC, .inl (kC, 52035, .inl cel)), (aT, .inr (2, [.ref aB, .int (nI u), .int (nI en), .int (nI h_8), .int na_9, .int w_6, .int (nI k_7)])), (aB, .inl (kB, 65536, .inl B))] := hD
    have hP9 := hP.sub (ws' := [(aR, .inr (0, [.ref aT, .ref aS])), (aT, .inr (2, [.ref aB, .int (nI u), .int (nI en), .int (nI h_8), .int na_9, .int w_6, .int (nI k_7)])), (aB, .inl (kB, 65536, .inl B)), (aS, .inr (1, [.ref aN, .ref aC])), (aN, .inl (kN, 5, .inl (fun j => nI (cnt j)))), (aC, .inl (kC, 52035, .inl cel))]) [0, 4, 5, 1, 2, 3] rfl
    have hD9 := hD.sub (ws' := [(aR, .inr (0, [.ref aT, .ref aS])), (aT, .inr (2, [.ref aB, .int (nI u), .int (nI en), .int (nI h_8), .int na_9, .int w_6, .int (nI k_7)])), (aB, .inl (kB, 65536, .inl B)), (aS, .inr (1, [.ref aN, .ref aC])), (aN, .inl (kN, 5, .inl (fun j => nI (cnt j)))), (aC, .inl (kC, 52035, .inl cel))]) [0, 4, 5, 1, 2, 3] (by decide) rfl
    exact vx_out (fun x hx => (htab x hx).elim) hlocks hce hcv hcl (fun t ht hvm => ⟨(w_6, k_7, h_8, na_9, cnt, cel), by unfold zThings; simp only [zB_er, hx_10], ⟨hEn, by rw [ht]; exact hP9, hD9⟩, hS.F ht⟩) hS.2.2 (by decide) (by decide)
  ·
    obtain ⟨h_4, rfl⟩ : ∃ z, z = uu := ⟨_, rfl⟩
    obtain ⟨hP1, hD1, hsz1⟩ := hB
    rw [ht] at hP1 hsz1
    obtain ⟨hP, hD⟩ := va_join (wr := [(aR, .inr (0, [.ref aT, .ref aS])), (aS, .inr (1, [.ref aN, .ref aC])), (aN, .inl (kN, 5, .inl (fun j => nI (cnt j)))), (aC, .inl (kC, 52035, .inl cel))]) (w1 := [(aT, .inr (2, [.ref aB, .int (nI u), .int (nI en), .int (nI h_4), .int na, .int w, .int wa])), (aB, .inl (kB, 65536, .inl B))]) hP hD [1, 2] [0, 3, 4, 5] rfl rfl (by decide) (by decide) hk1 hFc hP1 hD1
    refine zt_tight (hsz1.trans hzs) ?_
    generalize H1 = H at hP hS ⊢
    have hP : va_P (dC, dI) vwCl [(aR, .inr (0, [.ref aT, .ref aS])), (aS, .inr (1, [.ref aN, .ref aC])), (aN, .inl (kN, 5, .inl (fun j => nI (cnt j)))), (aC, .inl (kC, 52035, .inl cel)), (aT, .inr (2, [.ref aB, .int (nI u), .int (nI en), .int (nI h_4), .int na, .int w, .int wa])), (aB, .inl (kB, 65536, .inl B))] H := hP
    have hD : va_D A [(aR, .inr (0, [.ref aT, .ref aS])), (aS, .inr (1, [.ref aN, .ref aC])), (aN, .inl (kN, 5, .inl (fun j => nI (cnt j)))), (aC, .inl (kC, 52035, .inl cel)), (aT, .inr (2, [.ref aB, .int (nI u), .int (nI en), .int (nI h_4), .int na, .int w, .int wa])), (aB, .inl (kB, 65536, .inl B))] := hD
    have hw_5i := zMust_in hw_5
    refine lv_aload_n hx hb d_Rd_takeThings_14 rfl (lv_at hl 1 rfl) ?_
    refine va_get (D := (dC, dI)) (ci := 0) (v := .ref aT) (C := R_Rd) (T := F_Rd) (N := 2) hx hb hz i_Rd hown hK hP 0 rfl rfl 0 (by decide) (hz _ tw_84) (fun _ h9 => h9) rfl d_Rd_takeThings_15 ?_
    refine lv_bipush (v := 93) hx hb d_Rd_takeThings_18 (by decide) ?_
    have hPc := hP.sub (ws' := [(aT, .inr (2, [.ref aB, .int (nI u), .int (nI en), .int (nI h_4), .int na, .int w, .int wa])), (aB, .inl (kB, 65536, .inl B))]) [4, 5] rfl
    have hDc := hD.sub (ws' := [(aT, .inr (2, [.ref aB, .int (nI u), .int (nI en), .int (nI h_4), .int na, .int w, .int wa])), (aB, .inl (kB, 65536, .inl B))]) [4, 5] (by decide) rfl
    have hKc := hK.sub (tys' := [(kB, .byte)]) [0] rfl
    have hFc := va_free (wc := [(aT, .inr (2, [.ref aB, .int (nI u), .int (nI en), .int (nI h_4), .int na, .int w, .int wa])), (aB, .inl (kB, 65536, .inl B))]) hD hS hA [4, 5] rfl
    refine va_calli (va_runV (As := [.int 93]) (rest := []) ⟨hx, hb, hml, hown, hts⟩ (c_Tp_sees l G dC dI H.size aT aB u en h_4 na w wa kB B 93 (by omega) (by omega)) (cwV 1 hts (gV tw_291 tw_219 tw_220 tw_3 tw_221 rfl) rfl rfl rfl (by decide +kernel) ⟨Nat.le_of_ble_eq_true rfl, Nat.le_of_ble_eq_true rfl⟩) (PW_preV hPc hKc hDc hE hS hFc (ci := 2) (q0 := 0) rfl rfl) rfl rfl hl.1 rfl (lv_room (Nat.le_of_ble_eq_true rfl)) d_Rd_takeThings_20 ⟨Nat.le_of_ble_eq_true rfl, Nat.le_of_ble_eq_true rfl⟩) hS (fun q _ h => hFc q h) hFc (fun r_11 uu t H1 locs ht hvm hw_12 hB hz1 hk1 hS => ?_)
    obtain ⟨hP1, hD1, hsz1⟩ := hB
    rw [ht] at hP1 hsz1
    obtain ⟨hP, hD⟩ := va_join (wr := [(aR, .inr (0, [.ref aT, .ref aS])), (aS, .inr (1, [.ref aN, .ref aC])), (aN, .inl (kN, 5, .inl (fun j => nI (cnt j)))), (aC, .inl (kC, 52035, .inl cel))]) (w1 := [(aT, .inr (2, [.ref aB, .int (nI u), .int (nI en), .int (nI h_4), .int na, .int w, .int wa])), (aB, .inl (kB, 65536, .inl B))]) hP hD [4, 5] [0, 1, 2, 3] rfl rfl (by decide) (by decide) hk1 hFc hP1 hD1
    generalize H1 = H at hP hS ⊢
    have hP : va_P (dC, dI) vwCl [(aR, .inr (0, [.ref aT, .ref aS])), (aS, .inr (1, [.ref aN, .ref aC])), (aN, .inl (kN, 5, .inl (fun j => nI (cnt j)))), (aC, .inl (kC, 52035, .inl cel)), (aT, .inr (2, [.ref aB, .int (nI u), .int (nI en), .int (nI h_4), .int na, .int w, .int wa])), (aB, .inl (kB, 65536, .inl B))] H := hP
    have hD : va_D A [(aR, .inr (0, [.ref aT, .ref aS])), (aS, .inr (1, [.ref aN, .ref aC])), (aN, .inl (kN, 5, .inl (fun j => nI (cnt j)))), (aC, .inl (kC, 52035, .inl cel)), (aT, .inr (2, [.ref aB, .int (nI u), .int (nI en), .int (nI h_4), .int na, .int w, .int wa])), (aB, .inl (kB, 65536, .inl B))] := hD
    by_cases hs_13 : h_4 < en ∧ B h_4 = 93
    ·
      rw [if_pos hs_13] at hw_12; subst hw_12
      refine lv_if_ne (tgt := 30) hx hb d_Rd_takeThings_23 (by decide) (fun c_14 => ?_) (fun c_14 => ?_)
      ·
        refine lv_iconst (v := 0) hx hb d_Rd_takeThings_30 (by decide) ?_
        refine lv_istore_n (lv' := [(3, .int 0), (2, .int (nI (zM ka))), (0, .ref aR), (1, .int (nI ka))]) hx hb d_Rd_takeThings_31 rfl hl (by decide) rfl (fun ls hl => ?_)
        refine lv_iconst (v := 0) hx hb d_Rd_takeThings_32 (by decide) ?_
        refine lv_istore (lv' := [(4, .int 0), (3, .int 0), (2, .int (nI (zM ka))), (0, .ref aR), (1, .int (nI ka))]) hx hb d_Rd_takeThings_33 hl (by decide) rfl (fun ls hl => ?_)
        refine lv_iload hx hb d_Rd_takeThings_35 (lv_at hl 0 rfl) ?_
        refine lv_iload_n hx hb d_Rd_takeThings_37 rfl (lv_at hl 2 rfl) ?_
        refine lv_icmp_gt (tgt := 178) hx hb d_Rd_takeThings_38 (by decide) (fun c_15 => ?_) (fun c_15 => ?_)
        ·
          exact absurd c_15 (nI_nlt (a := zM ka) (b := 0) (by omega) (by omega))
        ·
          refine lv_iload_n hx hb d_Rd_takeThings_41 rfl (lv_at hl 1 rfl) ?_
          refine lv_if_eq (tgt := 178) hx hb d_Rd_takeThings_42 (by decide) (fun c_16 => ?_) (fun c_16 => ?_)
          ·
            have tl_17 : zThings B en ka cnt (h, cel) = zEnd B en (0, h_4, cel) := by unfold zThings; simp only [zB_ok, hw_5]; rw [if_pos hs_13, zB_ok]
            refine lv_aload_n hx hb d_Rd_takeThings_178 rfl (lv_at hl 3 rfl) ?_
            refine va_get (D := (dC, dI)) (ci := 0) (v := .ref aT) (C := R_Rd) (T := F_Rd) (N := 2) hx hb hz i_Rd hown hK hP 0 rfl rfl 0 (by decide) (hz _ tw_84) (fun _ h9 => h9) rfl d_Rd_takeThings_179 ?_
            refine lv_bipush (v := 93) hx hb d_Rd_takeThings_182 (by decide) ?_
            have hPc := hP.sub (ws' := [(aT, .inr (2, [.ref aB, .int (nI u), .int (nI en), .int (nI h_4), .int na, .int w, .int wa])), (aB, .inl (kB, 65536, .inl B))]) [4, 5] rfl
            have hDc := hD.sub (ws' := [(aT, .inr (2, [.ref aB, .int (nI u), .int (nI en), .int (nI h_4), .int na, .int w, .int wa])), (aB, .inl (kB, 65536, .inl B))]) [4, 5] (by decide) rfl
            have hKc := hK.sub (tys' := [(kB, .byte)]) [0] rfl
            have hFc := va_free (wc := [(aT, .inr (2, [.ref aB, .int (nI u), .int (nI en), .int (nI h_4), .int na, .int w, .int wa])), (aB, .inl (kB, 65536, .inl B))]) hD hS hA [4, 5] rfl
            refine zt_size (fun hzs => ?_)
            refine vx_callv (vx_runV (As := [.int 93]) (rest := []) ⟨hx, hb, hml, hown, hts⟩ (c_Tp_mustTake l hst G dC dI H.size aT aB u en h_4 na w wa kB B 93 (by omega) (by omega)) (cwV 1 hts (gV tw_214 tw_215 tw_216 tw_3 tw_217 rfl) rfl rfl rfl (by decide +kernel) ⟨Nat.le_of_ble_eq_true rfl, Nat.le_of_ble_eq_true rfl⟩) (PW_preV hPc hKc hDc hE hS hFc (ci := 2) (q0 := 0) rfl rfl) rfl rfl hl.1 rfl (lv_room (Nat.le_of_ble_eq_true rfl)) d_Rd_takeThings_184 ⟨Nat.le_of_ble_eq_true rfl, Nat.le_of_ble_eq_true rfl⟩) hS (fun q _ h => hFc q h) hFc (fun q _ h => hFc q h) (fun E9 ce9 q9 uu t H1 locs ht hvm hx_25 hB hz1 hk1 hS hce hcv hcl => ?_) (fun uu t H1 locs ht hvm hw_20 hB hz1 hk1 hS => ?_)
            ·
              obtain ⟨w_21, k_22, h_23, na_24⟩ := uu
              obtain ⟨hEn, hP1, hD1⟩ := hB
              rw [ht] at hP1
              obtain ⟨hP, hD⟩ := va_join (wr := [(aR, .inr (0, [.ref aT, .ref aS])), (aS, .inr (1, [.ref aN, .ref aC])), (aN, .inl (kN, 5, .inl (fun j => nI (cnt j)))), (aC, .inl (kC, 52035, .inl cel))]) (w1 := [(aT, .inr (2, [.ref aB, .int (nI u), .int (nI en), .int (nI h_23), .int na_24, .int w_21, .int (nI k_22)])), (aB, .inl (kB, 65536, .inl B))]) hP hD [4, 5] [0, 1, 2, 3] rfl rfl (by decide) (by decide) hk1 hFc hP1 hD1
              generalize H1 = H at hP hS hce ⊢
              have hP : va_P (dC, dI) vwCl [(aR, .inr (0, [.ref aT, .ref aS])), (aS, .inr (1, [.ref aN, .ref aC])), (aN, .inl (kN, 5, .inl (fun j => nI (cnt j)))), (aC, .inl (kC, 52035, .inl cel)), (aT, .inr (2, [.ref aB, .int (nI u), .int (nI en), .int (nI h_23), .int na_24, .int w_21, .int (nI k_22)])), (aB, .inl (kB, 65536, .inl B))] H := hP
              have hD : va_D A [(aR, .inr (0, [.ref aT, .ref aS])), (aS, .inr (1, [.ref aN, .ref aC])), (aN, .inl (kN, 5, .inl (fun j => nI (cnt j)))), (aC, .inl (kC, 52035, .inl cel)), (aT, .inr (2, [.ref aB, .int (nI u), .int (nI en), .int (nI h_23), .int na_24, .int w_21, .int (nI k_22)])), (aB, .inl (kB, 65536, .inl B))] := hD
              have hP9 := hP.sub (ws' := [(aR, .inr (0, [.ref aT, .ref aS])), (aT, .inr (2, [.ref aB, .int (nI u), .int (nI en), .int (nI h_23), .int na_24, .int w_21, .int (nI k_22)])), (aB, .inl (kB, 65536, .inl B)), (aS, .inr (1, [.ref aN, .ref aC])), (aN, .inl (kN, 5, .inl (fun j => nI (cnt j)))), (aC, .inl (kC, 52035, .inl cel))]) [0, 4, 5, 1, 2, 3] rfl
              have hD9 := hD.sub (ws' := [(aR, .inr (0, [.ref aT, .ref aS])), (aT, .inr (2, [.ref aB, .int (nI u), .int (nI en), .int (nI h_23), .int na_24, .int w_21, .int (nI k_22)])), (aB, .inl (kB, 65536, .inl B)), (aS, .inr (1, [.ref aN, .ref aC])), (aN, .inl (kN, 5, .inl (fun j => nI (cnt j)))), (aC, .inl (kC, 52035, .inl cel))]) [0, 4, 5, 1, 2, 3] (by decide) rfl
              exact vx_out (fun x hx => (htab x hx).elim) hlocks hce hcv hcl (fun t ht hvm => ⟨(w_21, k_22, h_23, na_24, cnt, cel), by rw [tl_17]; simp only [zEnd, zB_er, hx_25], ⟨hEn, by rw [ht]; exact hP9, hD9⟩, hS.F ht⟩) hS.2.2 (by decide) (by decide)
            ·
              obtain ⟨h_19, rfl⟩ : ∃ z, z = uu := ⟨_, rfl⟩
              obtain ⟨hP1, hD1, hsz1⟩ := hB
              rw [ht] at hP1 hsz1
              obtain ⟨hP, hD⟩ := va_join (wr := [(aR, .inr (0, [.ref aT, .ref aS])), (aS, .inr (1, [.ref aN, .ref aC])), (aN, .inl (kN, 5, .inl (fun j => nI (cnt j)))), (aC, .inl (kC, 52035, .inl cel))]) (w1 := [(aT, .inr (2, [.ref aB, .int (nI u), .int (nI en), .int (nI h_19), .int na, .int w, .int wa])), (aB, .inl (kB, 65536, .inl B))]) hP hD [4, 5] [0, 1, 2, 3] rfl rfl (by decide) (by decide) hk1 hFc hP1 hD1
              refine zt_tight (hsz1.trans hzs) ?_
              generalize H1 = H at hP hS ⊢
              have hP : va_P (dC, dI) vwCl [(aR, .inr (0, [.ref aT, .ref aS])), (aS, .inr (1, [.ref aN, .ref aC])), (aN, .inl (kN, 5, .inl (fun j => nI (cnt j)))), (aC, .inl (kC, 52035, .inl cel)), (aT, .inr (2, [.ref aB, .int (nI u), .int (nI en), .int (nI h_19), .int na, .int w, .int wa])), (aB, .inl (kB, 65536, .inl B))] H := hP
              have hD : va_D A [(aR, .inr (0, [.ref aT, .ref aS])), (aS, .inr (1, [.ref aN, .ref aC])), (aN, .inl (kN, 5, .inl (fun j => nI (cnt j)))), (aC, .inl (kC, 52035, .inl cel)), (aT, .inr (2, [.ref aB, .int (nI u), .int (nI en), .int (nI h_19), .int na, .int w, .int wa])), (aB, .inl (kB, 65536, .inl B))] := hD
              have hw_20i := zMust_in hw_20
              refine zt_size (fun hzs => ?_)
              have hP9 := hP.sub (ws' := [(aR, .inr (0, [.ref aT, .ref aS])), (aT, .inr (2, [.ref aB, .int (nI u), .int (nI en), .int (nI h_19), .int na, .int w, .int wa])), (aB, .inl (kB, 65536, .inl B)), (aS, .inr (1, [.ref aN, .ref aC])), (aN, .inl (kN, 5, .inl (fun j => nI (cnt j)))), (aC, .inl (kC, 52035, .inl cel))]) [0, 4, 5, 1, 2, 3] rfl
              have hD9 := hD.sub (ws' := [(aR, .inr (0, [.ref aT, .ref aS])), (aT, .inr (2, [.ref aB, .int (nI u), .int (nI en), .int (nI h_19), .int na, .int w, .int wa])), (aB, .inl (kB, 65536, .inl B)), (aS, .inr (1, [.ref aN, .ref aC])), (aN, .inl (kN, 5, .inl (fun j => nI (cnt j)))), (aC, .inl (kC, 52035, .inl cel))]) [0, 4, 5, 1, 2, 3] (by decide) rfl
              refine W.widen (k := 1) (n := 6) (by decide) (by decide) ?_
              exact vx_ret (W.vret hx hb hr (fun t ht hW => ⟨⟨(h_19, na, cnt, cel, 0), rfl, ⟨by rw [tl_17]; simp only [zEnd, zB_ok, hw_20], (zuN_id hc0).symm⟩, by rw [ht]; exact hP9, hD9, by rw [ht]; exact hzs⟩, hS.F ht⟩) hS.2.2 d_Rd_takeThings_187)
          ·
            exact absurd (by decide) c_16
      ·
        exact absurd c_14 (by decide)
    ·
      rw [if_neg hs_13] at hw_12; subst hw_12
      refine lv_if_ne (tgt := 30) hx hb d_Rd_takeThings_23 (by decide) (fun c_26 => ?_) (fun c_26 => ?_)
      ·
        exact absurd (by decide) c_26
      ·
        refine lv_iconst (v := 1) hx hb d_Rd_takeThings_26 (by decide) ?_
        refine lv_goto (tgt := 31) hx hb d_Rd_takeThings_27 (by decide) ?_
        refine lv_istore_n (lv' := [(3, .int 1), (2, .int (nI (zM ka))), (0, .ref aR), (1, .int (nI ka))]) hx hb d_Rd_takeThings_31 rfl hl (by decide) rfl (fun ls hl => ?_)
        refine lv_iconst (v := 0) hx hb d_Rd_takeThings_32 (by decide) ?_
        refine lv_istore (lv' := [(4, .int 0), (3, .int 1), (2, .int (nI (zM ka))), (0, .ref aR), (1, .int (nI ka))]) hx hb d_Rd_takeThings_33 hl (by decide) rfl (fun ls hl => ?_)
        refine lv_iload hx hb d_Rd_takeThings_35 (lv_at hl 0 rfl) ?_
        refine lv_iload_n hx hb d_Rd_takeThings_37 rfl (lv_at hl 2 rfl) ?_
        refine lv_icmp_gt (tgt := 178) hx hb d_Rd_takeThings_38 (by decide) (fun c_27 => ?_) (fun c_27 => ?_)
        ·
          exact absurd c_27 (nI_nlt (a := zM ka) (b := 0) (by omega) (by omega))
        ·
          refine lv_iload_n hx hb d_Rd_takeThings_41 rfl (lv_at hl 1 rfl) ?_
          refine lv_if_eq (tgt := 178) hx hb d_Rd_takeThings_42 (by decide) (fun c_28 => ?_) (fun c_28 => ?_)
          ·
            exact absurd c_28 (by decide)
          ·
            rw [show cnt = zuN cnt ka 0 from (zuN_id hc0).symm] at hP hD
            exact lp_Rd_takeThings l hst G dC dI aR aT aS aB u en h na w wa kB B aN aC kN cnt kC cel ka hen hh hka hc0 ⟨hx, hb, hr, hml, hown, hts, hlocks⟩ hA hK hE htab (zM ka + 1) 0 h_4 na cel (by omega) (by omega) (by omega) (by unfold zThings; simp only [zB_ok, hw_5]; rw [if_neg hs_13]; rfl) _ _ (hP.sub [0, 4, 5, 1, 2, 3] rfl) (hD.sub [0, 4, 5, 1, 2, 3] (by decide) rfl) hS ls (lv_sub hl [3, 4, 2, 0] rfl)
