set_option maxHeartbeats 4000000 in
set_option maxRecDepth 100000 in
theorem lp_Rd_read (l : Launch) (hst : l.stackTraces = false) (G : ZG) (dC : Nat → ClassId) (dI : Nat → Nat → Nat) (aR : Nat) (aT : Nat) (aB : Nat) (u : Nat) (en : Nat) (h : Nat) (na : Int32) (w : Int32) (wa : Int32) (kB : ClassId) (B : Nat → Int32) (aS : Nat) (aN : Nat) (aC : Nat) (kN : ClassId) (cnt : Nat → Nat) (kC : ClassId) (cel : Nat → Int32) (aO : Nat) (hu : u ≤ 65536) {p : Program} {e : Env} {s : State} {m : MethodId} {args : Array Value} {below : List Frame} {meth : Method} {c : Code} {A : Nat → Prop} (C0 : zC p s m args meth c prog_2_method_2_code 4 (some (.object "SceneText$Scene")) R_Rd w_Rd_read) (hA : ∀ q : Nat, s.heap.size ≤ q → A q) (hK : va_K (dC, dI) vwCl [(kB, .byte), (kN, .int), (kC, .int)] s) (hE : zE G A s s.heap) (htab : ∀ x ∈ c.exceptionTable.toList, False) : ∀ (n : Nat) (p2 : Nat) (fl : Int32) (fb : Bool) (h2 : Nat) (na2 : Int32) (cnt2 : Nat → Nat) (cel2 : Nat → Int32), ((fl = 0 ∧ fb = false) ∨ (fl = 1 ∧ fb = true)) → (p2 ≤ 7) → (8 ≤ p2 + n) → (h2 ≤ u) → (∀ j, p2 ≤ j → j < 5 → cnt2 j = 0) → (zRead B u (zC0 cnt) (zV0 cel) = zB (zParts B u (7 - p2) p2 fb (cnt2, h2, cel2)) (zFin B u)) → ∀ (H : Heap) (locs : List Loc), va_P (dC, dI) vwCl [(aR, .inr (0, [.ref aT, .ref aS])), (aT, .inr (2, [.ref aB, .int (nI 0), .int (nI u), .int (nI h2), .int na2, .int 0, .int 0])), (aB, .inl (kB, 65536, .inl B)), (aS, .inr (1, [.ref aN, .ref aC])), (aN, .inl (kN, 5, .inl (fun j => nI (cnt2 j)))), (aC, .inl (kC, 52035, .inl cel2))] H → va_D A [(aR, .inr (0, [.ref aT, .ref aS])), (aT, .inr (2, [.ref aB, .int (nI 0), .int (nI u), .int (nI h2), .int na2, .int 0, .int 0])), (aB, .inl (kB, 65536, .inl B)), (aS, .inr (1, [.ref aN, .ref aC])), (aN, .inl (kN, 5, .inl (fun j => nI (cnt2 j)))), (aC, .inl (kC, 52035, .inl cel2))] → va_S A s.heap H locs → ∀ (ls : Array Slot), lv_has ls 4 [(0, .ref aR), (1, .ref aO), (2, .int fl), (3, .int (nI p2))] → W p l e ({ frames := 11, cells := 1, slots := 6, locals := 207 }) s m args below meth c H locs 0 0 (vx_MQ below (va_Qr (fun (uu : Nat × Nat × Nat × Int32 × Int32 × Int32 × (Nat → Nat) × (Nat → Int32) × Nat) => zRead B u (zC0 cnt) (zV0 cel) = .ok (uu.2.2.2.2.2.2.1, uu.2.2.2.2.2.2.2.1) ∧ uu.1 = 0 ∧ uu.2.2.2.2.1 = 0 ∧ uu.2.2.2.2.2.1 = 0 ∧ uu.2.2.2.2.2.2.2.2 = aO) (fun (uu : Nat × Nat × Nat × Int32 × Int32 × Int32 × (Nat → Nat) × (Nat → Int32) × Nat) (ra : Nat) t => ra = aS ∧ BW (dC, dI) [(aR, .inr (0, [.ref aT, .ref uu.2.2.2.2.2.2.2.2])), (aT, .inr (2, [.ref aB, .int (nI uu.1), .int (nI uu.2.1), .int (nI uu.2.2.1), .int uu.2.2.2.1, .int uu.2.2.2.2.1, .int uu.2.2.2.2.2.1])), (aB, .inl (kB, 65536, .inl B)), (aS, .inr (1, [.ref aN, .ref aC])), (aN, .inl (kN, 5, .inl (fun j => nI (uu.2.2.2.2.2.2.1 j)))), (aC, .inl (kC, 52035, .inl uu.2.2.2.2.2.2.2.1))] A s.heap.size t) A) (vx_X (fun (uu : Int32 × Nat × Nat × Int32 × (Nat → Nat) × (Nat → Int32) × Nat × Nat) => zRead B u (zC0 cnt) (zV0 cel) = .error (uu.1, uu.2.1) ∧ uu.2.2.2.2.2.2.1 = 0) (fun E (uu : Int32 × Nat × Nat × Int32 × (Nat → Nat) × (Nat → Int32) × Nat × Nat) t => E = "java/lang/IllegalArgumentException" ∧ va_P (dC, dI) vwCl [(aR, .inr (0, [.ref aT, .ref aS])), (aT, .inr (2, [.ref aB, .int (nI uu.2.2.2.2.2.2.1), .int (nI uu.2.2.2.2.2.2.2), .int (nI uu.2.2.1), .int uu.2.2.2.1, .int uu.1, .int (nI uu.2.1)])), (aB, .inl (kB, 65536, .inl B)), (aS, .inr (1, [.ref aN, .ref aC])), (aN, .inl (kN, 5, .inl (fun j => nI (uu.2.2.2.2.1 j)))), (aC, .inl (kC, 52035, .inl uu.2.2.2.2.2.1))] t.heap ∧ va_D A [(aR, .inr (0, [.ref aT, .ref aS])), (aT, .inr (2, [.ref aB, .int (nI uu.2.2.2.2.2.2.1), .int (nI uu.2.2.2.2.2.2.2), .int (nI uu.2.2.1), .int uu.2.2.2.1, .int uu.1, .int (nI uu.2.1)])), (aB, .inl (kB, 65536, .inl B)), (aS, .inr (1, [.ref aN, .ref aC])), (aN, .inl (kN, 5, .inl (fun j => nI (uu.2.2.2.2.1 j)))), (aC, .inl (kC, 52035, .inl uu.2.2.2.2.2.1))]) A) args s 1 6 A) (F0 m 43 ls []) := by
  obtain ⟨hx, hb, hr, hml, hown, hts, hlocks⟩ := C0
  have hz : ∀ w ∈ ZW, w.before _ s = true := fun w h => hts w (List.mem_cons_of_mem _ h)
  intro n
  induction n with
  | zero =>
    intro p2 fl fb h2 na2 cnt2 cel2 hfl hp hn hh2 hcz hI H locs hP hD hS ls hl
    exact absurd hn (by omega)
  | succ n ih =>
    intro p2 fl fb h2 na2 cnt2 cel2 hfl hp hn hh2 hcz hI H locs hP hD hS ls hl
    refine lv_iload_n hx hb d_Rd_read_43 rfl (lv_at hl 3 rfl) ?_
    refine lv_bipush (v := 7) hx hb d_Rd_read_44 (by decide) ?_
    refine lv_icmp_ge (tgt := 136) hx hb d_Rd_read_46 (by decide) (fun c_1 => ?_) (fun c_1 => ?_)
    ·
      have c_1 : 7 ≤ p2 := (@nI_leI 7 p2 (by omega) (by omega)).mp c_1
      rcases hfl with ⟨rfl, rfl⟩ | ⟨rfl, rfl⟩
      ·
        refine lv_iload_n hx hb d_Rd_read_136 rfl (lv_at hl 2 rfl) ?_
        refine lv_if_eq (tgt := 155) hx hb d_Rd_read_137 (by decide) (fun c_2 => ?_) (fun c_2 => ?_)
        ·
          refine lv_aload_n hx hb d_Rd_read_155 rfl (lv_at hl 0 rfl) ?_
          refine va_get (D := (dC, dI)) (ci := 0) (v := .ref aT) (C := R_Rd) (T := F_Rd) (N := 2) hx hb hz i_Rd hown hK hP 0 rfl rfl 0 (by decide) (hz _ tw_84) (fun _ h9 => h9) rfl d_Rd_read_156 ?_
          refine lv_bipush (v := 125) hx hb d_Rd_read_159 (by decide) ?_
          have hPc := hP.sub (ws' := [(aT, .inr (2, [.ref aB, .int (nI 0), .int (nI u), .int (nI h2), .int na2, .int 0, .int 0])), (aB, .inl (kB, 65536, .inl B))]) [1, 2] rfl
          have hDc := hD.sub (ws' := [(aT, .inr (2, [.ref aB, .int (nI 0), .int (nI u), .int (nI h2), .int na2, .int 0, .int 0])), (aB, .inl (kB, 65536, .inl B))]) [1, 2] (by decide) rfl
          have hKc := hK.sub (tys' := [(kB, .byte)]) [0] rfl
          have hFc := va_free (wc := [(aT, .inr (2, [.ref aB, .int (nI 0), .int (nI u), .int (nI h2), .int na2, .int 0, .int 0])), (aB, .inl (kB, 65536, .inl B))]) hD hS hA [1, 2] rfl
          refine zt_size (fun hzs => ?_)
          refine vx_callv (vx_runV (As := [.int 125]) (rest := []) ⟨hx, hb, hml, hown, hts⟩ (c_Tp_mustTake l hst G dC dI H.size aT aB 0 u h2 na2 0 0 kB B 125 (by omega) (by omega)) (cwV 1 hts (gV tw_214 tw_215 tw_216 tw_3 tw_217 rfl) rfl rfl rfl (by decide +kernel) ⟨Nat.le_of_ble_eq_true rfl, Nat.le_of_ble_eq_true rfl⟩) (PW_preV hPc hKc hDc hE hS hFc (ci := 2) (q0 := 0) rfl rfl) rfl rfl hl.1 rfl (lv_room (Nat.le_of_ble_eq_true rfl)) d_Rd_read_161 ⟨Nat.le_of_ble_eq_true rfl, Nat.le_of_ble_eq_true rfl⟩) hS (fun q _ h => hFc q h) hFc (fun q _ h => hFc q h) (fun E9 ce9 q9 uu t H1 locs ht hvm hx_10 hB hz1 hk1 hS hce hcv hcl => ?_) (fun uu t H1 locs ht hvm hw_5 hB hz1 hk1 hS => ?_)
          ·
            obtain ⟨w_6, k_7, h_8, na_9⟩ := uu
            obtain ⟨hEn, hP1, hD1⟩ := hB
            rw [ht] at hP1
            obtain ⟨hP, hD⟩ := va_join (wr := [(aR, .inr (0, [.ref aT, .ref aS])), (aS, .inr (1, [.ref aN, .ref aC])), (aN, .inl (kN, 5, .inl (fun j => nI (cnt2 j)))), (aC, .inl (kC, 52035, .inl cel2))]) (w1 := [(aT, .inr (2, [.ref aB, .int (nI 0), .int (nI u), .int (nI h_8), .int na_9, .int w_6, .int (nI k_7)])), (aB, .inl (kB, 65536, .inl B))]) hP hD [1, 2] [0, 3, 4, 5] rfl rfl (by decide) (by decide) hk1 hFc hP1 hD1
            generalize H1 = H at hP hS hce ⊢
            have hP : va_P (dC, dI) vwCl [(aR, .inr (0, [.ref aT, .ref aS])), (aS, .inr (1, [.ref aN, .ref aC])), (aN, .inl (kN, 5, .inl (fun j => nI (cnt2 j)))), (aC, .inl (kC, 52035, .inl cel2)), (aT, .inr (2, [.ref aB, .int (nI 0), .int (nI u), .int (nI h_8), .int na_9, .int w_6, .int (nI k_7)])), (aB, .inl (kB, 65536, .inl B))] H := hP
            have hD : va_D A [(aR, .inr (0, [.ref aT, .ref aS])), (aS, .inr (1, [.ref aN, .ref aC])), (aN, .inl (kN, 5, .inl (fun j => nI (cnt2 j)))), (aC, .inl (kC, 52035, .inl cel2)), (aT, .inr (2, [.ref aB, .int (nI 0), .int (nI u), .int (nI h_8), .int na_9, .int w_6, .int (nI k_7)])), (aB, .inl (kB, 65536, .inl B))] := hD
            have hP9 := hP.sub (ws' := [(aR, .inr (0, [.ref aT, .ref aS])), (aT, .inr (2, [.ref aB, .int (nI 0), .int (nI u), .int (nI h_8), .int na_9, .int w_6, .int (nI k_7)])), (aB, .inl (kB, 65536, .inl B)), (aS, .inr (1, [.ref aN, .ref aC])), (aN, .inl (kN, 5, .inl (fun j => nI (cnt2 j)))), (aC, .inl (kC, 52035, .inl cel2))]) [0, 4, 5, 1, 2, 3] rfl
            have hD9 := hD.sub (ws' := [(aR, .inr (0, [.ref aT, .ref aS])), (aT, .inr (2, [.ref aB, .int (nI 0), .int (nI u), .int (nI h_8), .int na_9, .int w_6, .int (nI k_7)])), (aB, .inl (kB, 65536, .inl B)), (aS, .inr (1, [.ref aN, .ref aC])), (aN, .inl (kN, 5, .inl (fun j => nI (cnt2 j)))), (aC, .inl (kC, 52035, .inl cel2))]) [0, 4, 5, 1, 2, 3] (by decide) rfl
            exact vx_out (fun x hx => (htab x hx).elim) hlocks hce hcv hcl (fun t ht hvm => ⟨(w_6, k_7, h_8, na_9, cnt2, cel2, 0, u), ⟨by rw [hI, show 7 - p2 = 0 by omega]; simp only [zParts, zB_ok, zB_er, zFin, hx_10]; rw [if_neg (by decide)], rfl⟩, ⟨hEn, by rw [ht]; exact hP9, hD9⟩, hS.F ht⟩) hS.2.2 (by decide) (by decide)
          ·
            obtain ⟨h_4, rfl⟩ : ∃ z, z = uu := ⟨_, rfl⟩
            obtain ⟨hP1, hD1, hsz1⟩ := hB
            rw [ht] at hP1 hsz1
            obtain ⟨hP, hD⟩ := va_join (wr := [(aR, .inr (0, [.ref aT, .ref aS])), (aS, .inr (1, [.ref aN, .ref aC])), (aN, .inl (kN, 5, .inl (fun j => nI (cnt2 j)))), (aC, .inl (kC, 52035, .inl cel2))]) (w1 := [(aT, .inr (2, [.ref aB, .int (nI 0), .int (nI u), .int (nI h_4), .int na2, .int 0, .int 0])), (aB, .inl (kB, 65536, .inl B))]) hP hD [1, 2] [0, 3, 4, 5] rfl rfl (by decide) (by decide) hk1 hFc hP1 hD1
            refine zt_tight (hsz1.trans hzs) ?_
            generalize H1 = H at hP hS ⊢
            have hP : va_P (dC, dI) vwCl [(aR, .inr (0, [.ref aT, .ref aS])), (aS, .inr (1, [.ref aN, .ref aC])), (aN, .inl (kN, 5, .inl (fun j => nI (cnt2 j)))), (aC, .inl (kC, 52035, .inl cel2)), (aT, .inr (2, [.ref aB, .int (nI 0), .int (nI u), .int (nI h_4), .int na2, .int 0, .int 0])), (aB, .inl (kB, 65536, .inl B))] H := hP
            have hD : va_D A [(aR, .inr (0, [.ref aT, .ref aS])), (aS, .inr (1, [.ref aN, .ref aC])), (aN, .inl (kN, 5, .inl (fun j => nI (cnt2 j)))), (aC, .inl (kC, 52035, .inl cel2)), (aT, .inr (2, [.ref aB, .int (nI 0), .int (nI u), .int (nI h_4), .int na2, .int 0, .int 0])), (aB, .inl (kB, 65536, .inl B))] := hD
            have hw_5i := zMust_in hw_5
            refine lv_aload_n hx hb d_Rd_read_164 rfl (lv_at hl 0 rfl) ?_
            refine va_get (D := (dC, dI)) (ci := 0) (v := .ref aT) (C := R_Rd) (T := F_Rd) (N := 2) hx hb hz i_Rd hown hK hP 0 rfl rfl 0 (by decide) (hz _ tw_84) (fun _ h9 => h9) rfl d_Rd_read_165 ?_
            have hPc := hP.sub (ws' := [(aT, .inr (2, [.ref aB, .int (nI 0), .int (nI u), .int (nI h_4), .int na2, .int 0, .int 0])), (aB, .inl (kB, 65536, .inl B))]) [4, 5] rfl
            have hDc := hD.sub (ws' := [(aT, .inr (2, [.ref aB, .int (nI 0), .int (nI u), .int (nI h_4), .int na2, .int 0, .int 0])), (aB, .inl (kB, 65536, .inl B))]) [4, 5] (by decide) rfl
            have hKc := hK.sub (tys' := [(kB, .byte)]) [0] rfl
            have hFc := va_free (wc := [(aT, .inr (2, [.ref aB, .int (nI 0), .int (nI u), .int (nI h_4), .int na2, .int 0, .int 0])), (aB, .inl (kB, 65536, .inl B))]) hD hS hA [4, 5] rfl
            refine va_calli (va_runV (As := []) (rest := []) ⟨hx, hb, hml, hown, hts⟩ (c_Tp_isDone l G dC dI H.size aT aB 0 u h_4 na2 0 0 kB B (by omega) (by omega)) (cwV 0 hts (gV tw_456 tw_457 tw_458 tw_3 tw_459 rfl) rfl rfl rfl (by decide +kernel) ⟨Nat.le_of_ble_eq_true rfl, Nat.le_of_ble_eq_true rfl⟩) (PW_preV hPc hKc hDc hE hS hFc (ci := 2) (q0 := 0) rfl rfl) rfl rfl hl.1 rfl (lv_room (Nat.le_of_ble_eq_true rfl)) d_Rd_read_168 ⟨Nat.le_of_ble_eq_true rfl, Nat.le_of_ble_eq_true rfl⟩) hS (fun q _ h => hFc q h) hFc (fun r_11 uu t H1 locs ht hvm hw_12 hB hz1 hk1 hS => ?_)
            obtain ⟨hP1, hD1, hsz1⟩ := hB
            rw [ht] at hP1 hsz1
            obtain ⟨hP, hD⟩ := va_join (wr := [(aR, .inr (0, [.ref aT, .ref aS])), (aS, .inr (1, [.ref aN, .ref aC])), (aN, .inl (kN, 5, .inl (fun j => nI (cnt2 j)))), (aC, .inl (kC, 52035, .inl cel2))]) (w1 := [(aT, .inr (2, [.ref aB, .int (nI 0), .int (nI u), .int (nI h_4), .int na2, .int 0, .int 0])), (aB, .inl (kB, 65536, .inl B))]) hP hD [4, 5] [0, 1, 2, 3] rfl rfl (by decide) (by decide) hk1 hFc hP1 hD1
            generalize H1 = H at hP hS ⊢
            have hP : va_P (dC, dI) vwCl [(aR, .inr (0, [.ref aT, .ref aS])), (aS, .inr (1, [.ref aN, .ref aC])), (aN, .inl (kN, 5, .inl (fun j => nI (cnt2 j)))), (aC, .inl (kC, 52035, .inl cel2)), (aT, .inr (2, [.ref aB, .int (nI 0), .int (nI u), .int (nI h_4), .int na2, .int 0, .int 0])), (aB, .inl (kB, 65536, .inl B))] H := hP
            have hD : va_D A [(aR, .inr (0, [.ref aT, .ref aS])), (aS, .inr (1, [.ref aN, .ref aC])), (aN, .inl (kN, 5, .inl (fun j => nI (cnt2 j)))), (aC, .inl (kC, 52035, .inl cel2)), (aT, .inr (2, [.ref aB, .int (nI 0), .int (nI u), .int (nI h_4), .int na2, .int 0, .int 0])), (aB, .inl (kB, 65536, .inl B))] := hD
            by_cases hd_13 : u ≤ h_4
            ·
              rw [if_pos hd_13] at hw_12; subst hw_12
              refine lv_if_ne (tgt := 189) hx hb d_Rd_read_171 (by decide) (fun c_14 => ?_) (fun c_14 => ?_)
              ·
                refine lv_aload_n hx hb d_Rd_read_189 rfl (lv_at hl 0 rfl) ?_
                refine va_get (D := (dC, dI)) (ci := 0) (v := .ref aS) (C := R_Rd) (T := F_Rd) (N := 2) hx hb hz i_Rd hown hK hP 0 rfl rfl 1 (by decide) (hz _ tw_86) (fun _ h9 => h9) rfl d_Rd_read_190 ?_
                refine lv_astore_n (lv' := [(3, .ref aS), (0, .ref aR), (1, .ref aO), (2, .int 0)]) hx hb d_Rd_read_193 rfl hl (by decide) rfl (fun ls hl => ?_)
                refine lv_aload_n hx hb d_Rd_read_194 rfl (lv_at hl 1 rfl) ?_
                refine lv_aload_n hx hb d_Rd_read_195 rfl (lv_at hl 2 rfl) ?_
                refine va_put (D := (dC, dI)) (ci := 0) (v := .ref aO) (ty := .object "SceneText$Scene") (C := R_Rd) (T := F_Rd) (N := 2) hx hb hz i_Rd t_Rd t_Rd_ok n_Rd hown hK hP hD hS 0 rfl rfl 1 (by decide) (hz _ tw_86) (fun _ h9 => h9) rfl (by decide +kernel) rfl rfl (Nat.le_of_ble_eq_true rfl) d_Rd_read_196 (fun H locs hP hD hS => ?_)
                have hP : va_P (dC, dI) vwCl [(aR, .inr (0, [.ref aT, .ref aO])), (aS, .inr (1, [.ref aN, .ref aC])), (aN, .inl (kN, 5, .inl (fun j => nI (cnt2 j)))), (aC, .inl (kC, 52035, .inl cel2)), (aT, .inr (2, [.ref aB, .int (nI 0), .int (nI u), .int (nI h_4), .int na2, .int 0, .int 0])), (aB, .inl (kB, 65536, .inl B))] H := hP
                have hD : va_D A [(aR, .inr (0, [.ref aT, .ref aO])), (aS, .inr (1, [.ref aN, .ref aC])), (aN, .inl (kN, 5, .inl (fun j => nI (cnt2 j)))), (aC, .inl (kC, 52035, .inl cel2)), (aT, .inr (2, [.ref aB, .int (nI 0), .int (nI u), .int (nI h_4), .int na2, .int 0, .int 0])), (aB, .inl (kB, 65536, .inl B))] := hD
                refine lv_aload_n hx hb d_Rd_read_199 rfl (lv_at hl 0 rfl) ?_
                refine zt_size (fun hzs => ?_)
                have hP9 := hP.sub (ws' := [(aR, .inr (0, [.ref aT, .ref aO])), (aT, .inr (2, [.ref aB, .int (nI 0), .int (nI u), .int (nI h_4), .int na2, .int 0, .int 0])), (aB, .inl (kB, 65536, .inl B)), (aS, .inr (1, [.ref aN, .ref aC])), (aN, .inl (kN, 5, .inl (fun j => nI (cnt2 j)))), (aC, .inl (kC, 52035, .inl cel2))]) [0, 4, 5, 1, 2, 3] rfl
                have hD9 := hD.sub (ws' := [(aR, .inr (0, [.ref aT, .ref aO])), (aT, .inr (2, [.ref aB, .int (nI 0), .int (nI u), .int (nI h_4), .int na2, .int 0, .int 0])), (aB, .inl (kB, 65536, .inl B)), (aS, .inr (1, [.ref aN, .ref aC])), (aN, .inl (kN, 5, .inl (fun j => nI (cnt2 j)))), (aC, .inl (kC, 52035, .inl cel2))]) [0, 4, 5, 1, 2, 3] (by decide) rfl
                refine W.widen (k := 1) (n := 6) (by decide) (by decide) ?_
                exact vx_ret (W.aret (v := .ref aS) hx hb hr (Or.inl ⟨_, rfl⟩) (Or.inr ⟨_, rfl⟩) (fun t ht hW => ⟨⟨(0, u, h_4, na2, 0, 0, cnt2, cel2, aO), aS, rfl, ⟨by rw [hI, show 7 - p2 = 0 by omega]; simp only [zParts, zB_ok, zFin, hw_5]; rw [if_neg (by decide), if_pos hd_13], rfl, rfl, rfl, rfl⟩, rfl, by rw [ht]; exact hP9, hD9, by rw [ht]; exact hzs⟩, hS.F ht⟩) hS.2.2 d_Rd_read_200)
              ·
                exact absurd c_14 (by decide)
            ·
              rw [if_neg hd_13] at hw_12; subst hw_12
              refine lv_if_ne (tgt := 189) hx hb d_Rd_read_171 (by decide) (fun c_15 => ?_) (fun c_15 => ?_)
              ·
                exact absurd (by decide) c_15
              ·
                refine lv_aload_n hx hb d_Rd_read_174 rfl (lv_at hl 0 rfl) ?_
                refine va_get (D := (dC, dI)) (ci := 0) (v := .ref aT) (C := R_Rd) (T := F_Rd) (N := 2) hx hb hz i_Rd hown hK hP 0 rfl rfl 0 (by decide) (hz _ tw_84) (fun _ h9 => h9) rfl d_Rd_read_175 ?_
                refine lv_iconst (v := 1) hx hb d_Rd_read_178 (by decide) ?_
                refine lv_aload_n hx hb d_Rd_read_179 rfl (lv_at hl 0 rfl) ?_
                refine va_get (D := (dC, dI)) (ci := 0) (v := .ref aT) (C := R_Rd) (T := F_Rd) (N := 2) hx hb hz i_Rd hown hK hP 0 rfl rfl 0 (by decide) (hz _ tw_84) (fun _ h9 => h9) rfl d_Rd_read_180 ?_
                refine va_getN (D := (dC, dI)) (ci := 2) (v := .int (nI h_4)) (C := R_Tp) (T := F_Tp) (N := 7) hx hb hz i_Tp hown hK hP 4 rfl rfl 3 (by decide) (va_Nw.use rfl (hE.1 _ (List.mem_of_getElem? (i := 3) rfl))) (fun _ h9 => h9) rfl d_Rd_read_183 ?_
                have hPc := hP.sub (ws' := [(aT, .inr (2, [.ref aB, .int (nI 0), .int (nI u), .int (nI h_4), .int na2, .int 0, .int 0])), (aB, .inl (kB, 65536, .inl B))]) [4, 5] rfl
                have hDc := hD.sub (ws' := [(aT, .inr (2, [.ref aB, .int (nI 0), .int (nI u), .int (nI h_4), .int na2, .int 0, .int 0])), (aB, .inl (kB, 65536, .inl B))]) [4, 5] (by decide) rfl
                have hKc := hK.sub (tys' := [(kB, .byte)]) [0] rfl
                have hFc := va_free (wc := [(aT, .inr (2, [.ref aB, .int (nI 0), .int (nI u), .int (nI h_4), .int na2, .int 0, .int 0])), (aB, .inl (kB, 65536, .inl B))]) hD hS hA [4, 5] rfl
                refine zt_size (fun hzs => ?_)
                refine vx_callv (vx_runV (As := [.int 1, .int (nI h_4)]) (rest := []) ⟨hx, hb, hml, hown, hts⟩ (c_Tp_refuse l hst G dC dI H.size aT aB 0 u h_4 na2 0 0 kB B 1 (nI h_4)) (cwV 2 hts (gV tw_363 tw_223 tw_224 tw_3 tw_225 rfl) rfl rfl rfl (by decide +kernel) ⟨Nat.le_of_ble_eq_true rfl, Nat.le_of_ble_eq_true rfl⟩) (PW_preV hPc hKc hDc hE hS hFc (ci := 2) (q0 := 0) rfl rfl) rfl rfl hl.1 rfl (lv_room (Nat.le_of_ble_eq_true rfl)) d_Rd_read_186 ⟨Nat.le_of_ble_eq_true rfl, Nat.le_of_ble_eq_true rfl⟩) hS (fun q _ h => hFc q h) hFc (fun q _ h => hFc q h) (fun E9 ce9 q9 uu t H1 locs ht hvm hx_20 hB hz1 hk1 hS hce hcv hcl => ?_) (fun uu t H1 locs ht hvm hw_17 hB hz1 hk1 hS => ?_)
                ·
                  obtain ⟨w_18, wa_19⟩ := uu
                  obtain ⟨hEn, hP1, hD1⟩ := hB
                  rw [ht] at hP1
                  obtain ⟨hP, hD⟩ := va_join (wr := [(aR, .inr (0, [.ref aT, .ref aS])), (aS, .inr (1, [.ref aN, .ref aC])), (aN, .inl (kN, 5, .inl (fun j => nI (cnt2 j)))), (aC, .inl (kC, 52035, .inl cel2))]) (w1 := [(aT, .inr (2, [.ref aB, .int (nI 0), .int (nI u), .int (nI h_4), .int na2, .int w_18, .int wa_19])), (aB, .inl (kB, 65536, .inl B))]) hP hD [4, 5] [0, 1, 2, 3] rfl rfl (by decide) (by decide) hk1 hFc hP1 hD1
                  generalize H1 = H at hP hS hce ⊢
                  have hP : va_P (dC, dI) vwCl [(aR, .inr (0, [.ref aT, .ref aS])), (aS, .inr (1, [.ref aN, .ref aC])), (aN, .inl (kN, 5, .inl (fun j => nI (cnt2 j)))), (aC, .inl (kC, 52035, .inl cel2)), (aT, .inr (2, [.ref aB, .int (nI 0), .int (nI u), .int (nI h_4), .int na2, .int w_18, .int wa_19])), (aB, .inl (kB, 65536, .inl B))] H := hP
                  have hD : va_D A [(aR, .inr (0, [.ref aT, .ref aS])), (aS, .inr (1, [.ref aN, .ref aC])), (aN, .inl (kN, 5, .inl (fun j => nI (cnt2 j)))), (aC, .inl (kC, 52035, .inl cel2)), (aT, .inr (2, [.ref aB, .int (nI 0), .int (nI u), .int (nI h_4), .int na2, .int w_18, .int wa_19])), (aB, .inl (kB, 65536, .inl B))] := hD
                  obtain ⟨rfl, rfl⟩ := hx_20
                  have hP9 := hP.sub (ws' := [(aR, .inr (0, [.ref aT, .ref aS])), (aT, .inr (2, [.ref aB, .int (nI 0), .int (nI u), .int (nI h_4), .int na2, .int 1, .int (nI h_4)])), (aB, .inl (kB, 65536, .inl B)), (aS, .inr (1, [.ref aN, .ref aC])), (aN, .inl (kN, 5, .inl (fun j => nI (cnt2 j)))), (aC, .inl (kC, 52035, .inl cel2))]) [0, 4, 5, 1, 2, 3] rfl
                  have hD9 := hD.sub (ws' := [(aR, .inr (0, [.ref aT, .ref aS])), (aT, .inr (2, [.ref aB, .int (nI 0), .int (nI u), .int (nI h_4), .int na2, .int 1, .int (nI h_4)])), (aB, .inl (kB, 65536, .inl B)), (aS, .inr (1, [.ref aN, .ref aC])), (aN, .inl (kN, 5, .inl (fun j => nI (cnt2 j)))), (aC, .inl (kC, 52035, .inl cel2))]) [0, 4, 5, 1, 2, 3] (by decide) rfl
                  exact vx_out (fun x hx => (htab x hx).elim) hlocks hce hcv hcl (fun t ht hvm => ⟨(1, h_4, h_4, na2, cnt2, cel2, 0, u), ⟨by rw [hI, show 7 - p2 = 0 by omega]; simp only [zParts, zB_ok, zFin, hw_5]; rw [if_neg (by decide), if_neg hd_13], rfl⟩, ⟨hEn, by rw [ht]; exact hP9, hD9⟩, hS.F ht⟩) hS.2.2 (by decide) (by decide)
                · exact (hw_17 : False).elim
        ·
          exact absurd (by decide) c_2
      ·
        refine lv_iload_n hx hb d_Rd_read_136 rfl (lv_at hl 2 rfl) ?_
        refine lv_if_eq (tgt := 155) hx hb d_Rd_read_137 (by decide) (fun c_21 => ?_) (fun c_21 => ?_)
        ·
          exact absurd c_21 (by decide)
        ·
          refine lv_aload_n hx hb d_Rd_read_140 rfl (lv_at hl 0 rfl) ?_
          refine va_get (D := (dC, dI)) (ci := 0) (v := .ref aT) (C := R_Rd) (T := F_Rd) (N := 2) hx hb hz i_Rd hown hK hP 0 rfl rfl 0 (by decide) (hz _ tw_84) (fun _ h9 => h9) rfl d_Rd_read_141 ?_
          refine lv_iconst (v := 1) hx hb d_Rd_read_144 (by decide) ?_
          refine lv_aload_n hx hb d_Rd_read_145 rfl (lv_at hl 0 rfl) ?_
          refine va_get (D := (dC, dI)) (ci := 0) (v := .ref aT) (C := R_Rd) (T := F_Rd) (N := 2) hx hb hz i_Rd hown hK hP 0 rfl rfl 0 (by decide) (hz _ tw_84) (fun _ h9 => h9) rfl d_Rd_read_146 ?_
          refine va_getN (D := (dC, dI)) (ci := 2) (v := .int (nI h2)) (C := R_Tp) (T := F_Tp) (N := 7) hx hb hz i_Tp hown hK hP 1 rfl rfl 3 (by decide) (va_Nw.use rfl (hE.1 _ (List.mem_of_getElem? (i := 3) rfl))) (fun _ h9 => h9) rfl d_Rd_read_149 ?_
          have hPc := hP.sub (ws' := [(aT, .inr (2, [.ref aB, .int (nI 0), .int (nI u), .int (nI h2), .int na2, .int 0, .int 0])), (aB, .inl (kB, 65536, .inl B))]) [1, 2] rfl
          have hDc := hD.sub (ws' := [(aT, .inr (2, [.ref aB, .int (nI 0), .int (nI u), .int (nI h2), .int na2, .int 0, .int 0])), (aB, .inl (kB, 65536, .inl B))]) [1, 2] (by decide) rfl
          have hKc := hK.sub (tys' := [(kB, .byte)]) [0] rfl
          have hFc := va_free (wc := [(aT, .inr (2, [.ref aB, .int (nI 0), .int (nI u), .int (nI h2), .int na2, .int 0, .int 0])), (aB, .inl (kB, 65536, .inl B))]) hD hS hA [1, 2] rfl
          refine zt_size (fun hzs => ?_)
          refine vx_callv (vx_runV (As := [.int 1, .int (nI h2)]) (rest := []) ⟨hx, hb, hml, hown, hts⟩ (c_Tp_refuse l hst G dC dI H.size aT aB 0 u h2 na2 0 0 kB B 1 (nI h2)) (cwV 2 hts (gV tw_363 tw_223 tw_224 tw_3 tw_225 rfl) rfl rfl rfl (by decide +kernel) ⟨Nat.le_of_ble_eq_true rfl, Nat.le_of_ble_eq_true rfl⟩) (PW_preV hPc hKc hDc hE hS hFc (ci := 2) (q0 := 0) rfl rfl) rfl rfl hl.1 rfl (lv_room (Nat.le_of_ble_eq_true rfl)) d_Rd_read_152 ⟨Nat.le_of_ble_eq_true rfl, Nat.le_of_ble_eq_true rfl⟩) hS (fun q _ h => hFc q h) hFc (fun q _ h => hFc q h) (fun E9 ce9 q9 uu t H1 locs ht hvm hx_26 hB hz1 hk1 hS hce hcv hcl => ?_) (fun uu t H1 locs ht hvm hw_23 hB hz1 hk1 hS => ?_)
          ·
            obtain ⟨w_24, wa_25⟩ := uu
            obtain ⟨hEn, hP1, hD1⟩ := hB
            rw [ht] at hP1
            obtain ⟨hP, hD⟩ := va_join (wr := [(aR, .inr (0, [.ref aT, .ref aS])), (aS, .inr (1, [.ref aN, .ref aC])), (aN, .inl (kN, 5, .inl (fun j => nI (cnt2 j)))), (aC, .inl (kC, 52035, .inl cel2))]) (w1 := [(aT, .inr (2, [.ref aB, .int (nI 0), .int (nI u), .int (nI h2), .int na2, .int w_24, .int wa_25])), (aB, .inl (kB, 65536, .inl B))]) hP hD [1, 2] [0, 3, 4, 5] rfl rfl (by decide) (by decide) hk1 hFc hP1 hD1
            generalize H1 = H at hP hS hce ⊢
            have hP : va_P (dC, dI) vwCl [(aR, .inr (0, [.ref aT, .ref aS])), (aS, .inr (1, [.ref aN, .ref aC])), (aN, .inl (kN, 5, .inl (fun j => nI (cnt2 j)))), (aC, .inl (kC, 52035, .inl cel2)), (aT, .inr (2, [.ref aB, .int (nI 0), .int (nI u), .int (nI h2), .int na2, .int w_24, .int wa_25])), (aB, .inl (kB, 65536, .inl B))] H := hP
            have hD : va_D A [(aR, .inr (0, [.ref aT, .ref aS])), (aS, .inr (1, [.ref aN, .ref aC])), (aN, .inl (kN, 5, .inl (fun j => nI (cnt2 j)))), (aC, .inl (kC, 52035, .inl cel2)), (aT, .inr (2, [.ref aB, .int (nI 0), .int (nI u), .int (nI h2), .int na2, .int w_24, .int wa_25])), (aB, .inl (kB, 65536, .inl B))] := hD
            obtain ⟨rfl, rfl⟩ := hx_26
            have hP9 := hP.sub (ws' := [(aR, .inr (0, [.ref aT, .ref aS])), (aT, .inr (2, [.ref aB, .int (nI 0), .int (nI u), .int (nI h2), .int na2, .int 1, .int (nI h2)])), (aB, .inl (kB, 65536, .inl B)), (aS, .inr (1, [.ref aN, .ref aC])), (aN, .inl (kN, 5, .inl (fun j => nI (cnt2 j)))), (aC, .inl (kC, 52035, .inl cel2))]) [0, 4, 5, 1, 2, 3] rfl
            have hD9 := hD.sub (ws' := [(aR, .inr (0, [.ref aT, .ref aS])), (aT, .inr (2, [.ref aB, .int (nI 0), .int (nI u), .int (nI h2), .int na2, .int 1, .int (nI h2)])), (aB, .inl (kB, 65536, .inl B)), (aS, .inr (1, [.ref aN, .ref aC])), (aN, .inl (kN, 5, .inl (fun j => nI (cnt2 j)))), (aC, .inl (kC, 52035, .inl cel2))]) [0, 4, 5, 1, 2, 3] (by decide) rfl
            exact vx_out (fun x hx => (htab x hx).elim) hlocks hce hcv hcl (fun t ht hvm => ⟨(1, h2, h2, na2, cnt2, cel2, 0, u), ⟨by rw [hI, show 7 - p2 = 0 by omega]; simp only [zParts, zB_ok, zFin]; rw [if_pos trivial], rfl⟩, ⟨hEn, by rw [ht]; exact hP9, hD9⟩, hS.F ht⟩) hS.2.2 (by decide) (by decide)
          · exact (hw_23 : False).elim
    ·
      have c_1 : ¬ (7 ≤ p2) := fun z => c_1 ((@nI_leI 7 p2 (by omega) (by omega)).mpr z)
      rcases hfl with ⟨rfl, rfl⟩ | ⟨rfl, rfl⟩
      ·
        refine lv_iload_n hx hb d_Rd_read_49 rfl (lv_at hl 2 rfl) ?_
        refine lv_if_eq (tgt := 130) hx hb d_Rd_read_50 (by decide) (fun c_27 => ?_) (fun c_27 => ?_)
        ·
          refine lv_iinc (v := nI (p2 + 1)) (lv' := [(3, .int (nI (p2 + 1))), (0, .ref aR), (1, .ref aO), (2, .int 0)]) hx hb d_Rd_read_130 hl (k := 3) rfl (nI_add p2 1) (by decide) rfl (fun ls hl => ?_)
          refine lv_goto (tgt := 43) hx hb d_Rd_read_133 (by decide) ?_
          exact ih (p2 + 1) 0 false h2 na2 cnt2 cel2 (Or.inl ⟨rfl, rfl⟩) (by omega) (by omega) (by omega) (fun j h1 h2 => hcz j (by omega) h2) (by rw [hI, zParts_step (by omega), if_pos rfl]) _ _ (hP.sub [0, 1, 2, 3, 4, 5] rfl) (hD.sub [0, 1, 2, 3, 4, 5] (by decide) rfl) hS ls (lv_sub hl [1, 2, 3, 0] rfl)
        ·
          exact absurd (by decide) c_27
      ·
        refine lv_iload_n hx hb d_Rd_read_49 rfl (lv_at hl 2 rfl) ?_
        refine lv_if_eq (tgt := 130) hx hb d_Rd_read_50 (by decide) (fun c_28 => ?_) (fun c_28 => ?_)
        ·
          exact absurd c_28 (by decide)
        ·
          refine lv_aload_n hx hb d_Rd_read_53 rfl (lv_at hl 0 rfl) ?_
          refine va_get (D := (dC, dI)) (ci := 0) (v := .ref aT) (C := R_Rd) (T := F_Rd) (N := 2) hx hb hz i_Rd hown hK hP 0 rfl rfl 0 (by decide) (hz _ tw_84) (fun _ h9 => h9) rfl d_Rd_read_54 ?_
          refine lv_iload_n hx hb d_Rd_read_57 rfl (lv_at hl 3 rfl) ?_
          have hPc := hP.sub (ws' := []) [] rfl
          have hDc := hD.sub (ws' := []) [] (by decide) rfl
          have hKc := hK.sub (tys' := []) [] rfl
          have hFc := va_free (wc := []) hD hS hA [] rfl
          refine va_callr (va_runS (As := [.int (nI p2)]) (rest := [.ref aT]) ⟨hx, hb, hml, hown, hts⟩ (c_Rd_partName l G dC dI H.size p2 (by omega)) (va_cwS 1 hts (gS tw_292 tw_293 tw_2 tw_294) rfl rfl rfl (by decide +kernel) ⟨Nat.le_of_ble_eq_true rfl, Nat.le_of_ble_eq_true rfl⟩) (PW_preS hPc hKc hDc hE hS hFc) rfl rfl hl.1 rfl (lv_room (Nat.le_of_ble_eq_true rfl)) d_Rd_read_58 ⟨Nat.le_of_ble_eq_true rfl, Nat.le_of_ble_eq_true rfl⟩) hS (fun q _ h => hFc q h) hFc (fun uu r_29 t H1 locs ht hvm hw_30 hB hz1 hk1 hS => ?_)
          obtain ⟨hra, hP1, hD1, hsz1⟩ := hB
          rw [ht] at hP1 hsz1
          obtain ⟨hP, hD⟩ := va_join (wr := [(aR, .inr (0, [.ref aT, .ref aS])), (aT, .inr (2, [.ref aB, .int (nI 0), .int (nI u), .int (nI h2), .int na2, .int 0, .int 0])), (aB, .inl (kB, 65536, .inl B)), (aS, .inr (1, [.ref aN, .ref aC])), (aN, .inl (kN, 5, .inl (fun j => nI (cnt2 j)))), (aC, .inl (kC, 52035, .inl cel2))]) (w1 := []) hP hD [] [0, 1, 2, 3, 4, 5] rfl rfl (by decide) (by decide) hk1 hFc hP1 hD1
          generalize H1 = H at hP hS ⊢
          have hP : va_P (dC, dI) vwCl [(aR, .inr (0, [.ref aT, .ref aS])), (aT, .inr (2, [.ref aB, .int (nI 0), .int (nI u), .int (nI h2), .int na2, .int 0, .int 0])), (aB, .inl (kB, 65536, .inl B)), (aS, .inr (1, [.ref aN, .ref aC])), (aN, .inl (kN, 5, .inl (fun j => nI (cnt2 j)))), (aC, .inl (kC, 52035, .inl cel2))] H := hP
          have hD : va_D A [(aR, .inr (0, [.ref aT, .ref aS])), (aT, .inr (2, [.ref aB, .int (nI 0), .int (nI u), .int (nI h2), .int na2, .int 0, .int 0])), (aB, .inl (kB, 65536, .inl B)), (aS, .inr (1, [.ref aN, .ref aC])), (aN, .inl (kN, 5, .inl (fun j => nI (cnt2 j)))), (aC, .inl (kC, 52035, .inl cel2))] := hD
          subst hra
          have hPc := hP.sub (ws' := [(aT, .inr (2, [.ref aB, .int (nI 0), .int (nI u), .int (nI h2), .int na2, .int 0, .int 0])), (aB, .inl (kB, 65536, .inl B))]) [1, 2] rfl
          have hDc := hD.sub (ws' := [(aT, .inr (2, [.ref aB, .int (nI 0), .int (nI u), .int (nI h2), .int na2, .int 0, .int 0])), (aB, .inl (kB, 65536, .inl B))]) [1, 2] (by decide) rfl
          have hKc := hK.sub (tys' := [(kB, .byte)]) [0] rfl
          have hFc := va_free (wc := [(aT, .inr (2, [.ref aB, .int (nI 0), .int (nI u), .int (nI h2), .int na2, .int 0, .int 0])), (aB, .inl (kB, 65536, .inl B))]) hD hS hA [1, 2] rfl
          refine va_calli (va_runV (As := [.ref (G.2.1 (p2 + 1))]) (rest := []) ⟨hx, hb, hml, hown, hts⟩ (c_Tp_takesWord l G dC dI H.size aT aB 0 u h2 na2 0 0 kB B (p2 + 1) (by omega) (by omega) (by omega) (zSb_len _)) (cwV 1 hts (gV tw_302 tw_303 tw_304 tw_3 tw_305 rfl) rfl rfl rfl (by decide +kernel) ⟨Nat.le_of_ble_eq_true rfl, Nat.le_of_ble_eq_true rfl⟩) (PW_preV hPc hKc hDc hE hS hFc (ci := 2) (q0 := 0) rfl rfl) rfl rfl hl.1 rfl (lv_room (Nat.le_of_ble_eq_true rfl)) d_Rd_read_61 ⟨Nat.le_of_ble_eq_true rfl, Nat.le_of_ble_eq_true rfl⟩) hS (fun q _ h => hFc q h) hFc (fun r_31 uu t H1 locs ht hvm hw_33 hB hz1 hk1 hS => ?_)
          obtain ⟨h_32, rfl⟩ : ∃ z, z = uu := ⟨_, rfl⟩
          obtain ⟨hP1, hD1, hsz1⟩ := hB
          rw [ht] at hP1 hsz1
          obtain ⟨hP, hD⟩ := va_join (wr := [(aR, .inr (0, [.ref aT, .ref aS])), (aS, .inr (1, [.ref aN, .ref aC])), (aN, .inl (kN, 5, .inl (fun j => nI (cnt2 j)))), (aC, .inl (kC, 52035, .inl cel2))]) (w1 := [(aT, .inr (2, [.ref aB, .int (nI 0), .int (nI u), .int (nI h_32), .int na2, .int 0, .int 0])), (aB, .inl (kB, 65536, .inl B))]) hP hD [1, 2] [0, 3, 4, 5] rfl rfl (by decide) (by decide) hk1 hFc hP1 hD1
          generalize H1 = H at hP hS ⊢
          have hP : va_P (dC, dI) vwCl [(aR, .inr (0, [.ref aT, .ref aS])), (aS, .inr (1, [.ref aN, .ref aC])), (aN, .inl (kN, 5, .inl (fun j => nI (cnt2 j)))), (aC, .inl (kC, 52035, .inl cel2)), (aT, .inr (2, [.ref aB, .int (nI 0), .int (nI u), .int (nI h_32), .int na2, .int 0, .int 0])), (aB, .inl (kB, 65536, .inl B))] H := hP
          have hD : va_D A [(aR, .inr (0, [.ref aT, .ref aS])), (aS, .inr (1, [.ref aN, .ref aC])), (aN, .inl (kN, 5, .inl (fun j => nI (cnt2 j)))), (aC, .inl (kC, 52035, .inl cel2)), (aT, .inr (2, [.ref aB, .int (nI 0), .int (nI u), .int (nI h_32), .int na2, .int 0, .int 0])), (aB, .inl (kB, 65536, .inl B))] := hD
          rcases hw_33 with ⟨rfl, hw_33w⟩ | ⟨rfl, e9, hw_33w⟩
          ·
            have hw_33i := zWord_in hw_33w
            refine lv_if_eq (tgt := 130) hx hb d_Rd_read_64 (by decide) (fun c_34 => ?_) (fun c_34 => ?_)
            ·
              exact absurd c_34 (by decide)
            ·
              refine lv_aload_n hx hb d_Rd_read_67 rfl (lv_at hl 0 rfl) ?_
              refine va_get (D := (dC, dI)) (ci := 0) (v := .ref aT) (C := R_Rd) (T := F_Rd) (N := 2) hx hb hz i_Rd hown hK hP 0 rfl rfl 0 (by decide) (hz _ tw_84) (fun _ h9 => h9) rfl d_Rd_read_68 ?_
              refine lv_bipush (v := 58) hx hb d_Rd_read_71 (by decide) ?_
              have hPc := hP.sub (ws' := [(aT, .inr (2, [.ref aB, .int (nI 0), .int (nI u), .int (nI h_32), .int na2, .int 0, .int 0])), (aB, .inl (kB, 65536, .inl B))]) [4, 5] rfl
              have hDc := hD.sub (ws' := [(aT, .inr (2, [.ref aB, .int (nI 0), .int (nI u), .int (nI h_32), .int na2, .int 0, .int 0])), (aB, .inl (kB, 65536, .inl B))]) [4, 5] (by decide) rfl
              have hKc := hK.sub (tys' := [(kB, .byte)]) [0] rfl
              have hFc := va_free (wc := [(aT, .inr (2, [.ref aB, .int (nI 0), .int (nI u), .int (nI h_32), .int na2, .int 0, .int 0])), (aB, .inl (kB, 65536, .inl B))]) hD hS hA [4, 5] rfl
              refine zt_size (fun hzs => ?_)
              refine vx_callv (vx_runV (As := [.int 58]) (rest := []) ⟨hx, hb, hml, hown, hts⟩ (c_Tp_mustTake l hst G dC dI H.size aT aB 0 u h_32 na2 0 0 kB B 58 (by omega) (by omega)) (cwV 1 hts (gV tw_214 tw_215 tw_216 tw_3 tw_217 rfl) rfl rfl rfl (by decide +kernel) ⟨Nat.le_of_ble_eq_true rfl, Nat.le_of_ble_eq_true rfl⟩) (PW_preV hPc hKc hDc hE hS hFc (ci := 2) (q0 := 0) rfl rfl) rfl rfl hl.1 rfl (lv_room (Nat.le_of_ble_eq_true rfl)) d_Rd_read_73 ⟨Nat.le_of_ble_eq_true rfl, Nat.le_of_ble_eq_true rfl⟩) hS (fun q _ h => hFc q h) hFc (fun q _ h => hFc q h) (fun E9 ce9 q9 uu t H1 locs ht hvm hx_42 hB hz1 hk1 hS hce hcv hcl => ?_) (fun uu t H1 locs ht hvm hw_37 hB hz1 hk1 hS => ?_)
              ·
                obtain ⟨w_38, k_39, h_40, na_41⟩ := uu
                obtain ⟨hEn, hP1, hD1⟩ := hB
                rw [ht] at hP1
                obtain ⟨hP, hD⟩ := va_join (wr := [(aR, .inr (0, [.ref aT, .ref aS])), (aS, .inr (1, [.ref aN, .ref aC])), (aN, .inl (kN, 5, .inl (fun j => nI (cnt2 j)))), (aC, .inl (kC, 52035, .inl cel2))]) (w1 := [(aT, .inr (2, [.ref aB, .int (nI 0), .int (nI u), .int (nI h_40), .int na_41, .int w_38, .int (nI k_39)])), (aB, .inl (kB, 65536, .inl B))]) hP hD [4, 5] [0, 1, 2, 3] rfl rfl (by decide) (by decide) hk1 hFc hP1 hD1
                generalize H1 = H at hP hS hce ⊢
                have hP : va_P (dC, dI) vwCl [(aR, .inr (0, [.ref aT, .ref aS])), (aS, .inr (1, [.ref aN, .ref aC])), (aN, .inl (kN, 5, .inl (fun j => nI (cnt2 j)))), (aC, .inl (kC, 52035, .inl cel2)), (aT, .inr (2, [.ref aB, .int (nI 0), .int (nI u), .int (nI h_40), .int na_41, .int w_38, .int (nI k_39)])), (aB, .inl (kB, 65536, .inl B))] H := hP
                have hD : va_D A [(aR, .inr (0, [.ref aT, .ref aS])), (aS, .inr (1, [.ref aN, .ref aC])), (aN, .inl (kN, 5, .inl (fun j => nI (cnt2 j)))), (aC, .inl (kC, 52035, .inl cel2)), (aT, .inr (2, [.ref aB, .int (nI 0), .int (nI u), .int (nI h_40), .int na_41, .int w_38, .int (nI k_39)])), (aB, .inl (kB, 65536, .inl B))] := hD
                have hP9 := hP.sub (ws' := [(aR, .inr (0, [.ref aT, .ref aS])), (aT, .inr (2, [.ref aB, .int (nI 0), .int (nI u), .int (nI h_40), .int na_41, .int w_38, .int (nI k_39)])), (aB, .inl (kB, 65536, .inl B)), (aS, .inr (1, [.ref aN, .ref aC])), (aN, .inl (kN, 5, .inl (fun j => nI (cnt2 j)))), (aC, .inl (kC, 52035, .inl cel2))]) [0, 4, 5, 1, 2, 3] rfl
                have hD9 := hD.sub (ws' := [(aR, .inr (0, [.ref aT, .ref aS])), (aT, .inr (2, [.ref aB, .int (nI 0), .int (nI u), .int (nI h_40), .int na_41, .int w_38, .int (nI k_39)])), (aB, .inl (kB, 65536, .inl B)), (aS, .inr (1, [.ref aN, .ref aC])), (aN, .inl (kN, 5, .inl (fun j => nI (cnt2 j)))), (aC, .inl (kC, 52035, .inl cel2))]) [0, 4, 5, 1, 2, 3] (by decide) rfl
                exact vx_out (fun x hx => (htab x hx).elim) hlocks hce hcv hcl (fun t ht hvm => ⟨(w_38, k_39, h_40, na_41, cnt2, cel2, 0, u), ⟨by rw [hI, zParts_step (by omega), if_neg (by decide)]; simp only [hw_33w, zB_er, hx_42], rfl⟩, ⟨hEn, by rw [ht]; exact hP9, hD9⟩, hS.F ht⟩) hS.2.2 (by decide) (by decide)
              ·
                obtain ⟨h_36, rfl⟩ : ∃ z, z = uu := ⟨_, rfl⟩
                obtain ⟨hP1, hD1, hsz1⟩ := hB
                rw [ht] at hP1 hsz1
                obtain ⟨hP, hD⟩ := va_join (wr := [(aR, .inr (0, [.ref aT, .ref aS])), (aS, .inr (1, [.ref aN, .ref aC])), (aN, .inl (kN, 5, .inl (fun j => nI (cnt2 j)))), (aC, .inl (kC, 52035, .inl cel2))]) (w1 := [(aT, .inr (2, [.ref aB, .int (nI 0), .int (nI u), .int (nI h_36), .int na2, .int 0, .int 0])), (aB, .inl (kB, 65536, .inl B))]) hP hD [4, 5] [0, 1, 2, 3] rfl rfl (by decide) (by decide) hk1 hFc hP1 hD1
                refine zt_tight (hsz1.trans hzs) ?_
                generalize H1 = H at hP hS ⊢
                have hP : va_P (dC, dI) vwCl [(aR, .inr (0, [.ref aT, .ref aS])), (aS, .inr (1, [.ref aN, .ref aC])), (aN, .inl (kN, 5, .inl (fun j => nI (cnt2 j)))), (aC, .inl (kC, 52035, .inl cel2)), (aT, .inr (2, [.ref aB, .int (nI 0), .int (nI u), .int (nI h_36), .int na2, .int 0, .int 0])), (aB, .inl (kB, 65536, .inl B))] H := hP
                have hD : va_D A [(aR, .inr (0, [.ref aT, .ref aS])), (aS, .inr (1, [.ref aN, .ref aC])), (aN, .inl (kN, 5, .inl (fun j => nI (cnt2 j)))), (aC, .inl (kC, 52035, .inl cel2)), (aT, .inr (2, [.ref aB, .int (nI 0), .int (nI u), .int (nI h_36), .int na2, .int 0, .int 0])), (aB, .inl (kB, 65536, .inl B))] := hD
                have hw_37i := zMust_in hw_37
                refine lv_iload_n hx hb d_Rd_read_76 rfl (lv_at hl 3 rfl) ?_
                refine lv_iconst (v := 5) hx hb d_Rd_read_77 (by decide) ?_
                refine lv_icmp_ne (tgt := 88) hx hb d_Rd_read_78 (by decide) (fun c_43 => ?_) (fun c_43 => ?_)
                ·
                  have c_43 : ¬ (p2 = 5) := fun z => c_43 ((@nI_eq p2 5 (by omega) (by omega)).mpr z)
                  refine lv_iload_n hx hb d_Rd_read_88 rfl (lv_at hl 3 rfl) ?_
                  refine lv_bipush (v := 6) hx hb d_Rd_read_89 (by decide) ?_
                  refine lv_icmp_ne (tgt := 101) hx hb d_Rd_read_91 (by decide) (fun c_44 => ?_) (fun c_44 => ?_)
                  ·
                    have c_44 : ¬ (p2 = 6) := fun z => c_44 ((@nI_eq p2 6 (by omega) (by omega)).mpr z)
                    refine lv_aload_n hx hb d_Rd_read_101 rfl (lv_at hl 0 rfl) ?_
                    refine lv_iload_n hx hb d_Rd_read_102 rfl (lv_at hl 3 rfl) ?_
                    have hPc := hP.sub (ws' := [(aR, .inr (0, [.ref aT, .ref aS])), (aT, .inr (2, [.ref aB, .int (nI 0), .int (nI u), .int (nI h_36), .int na2, .int 0, .int 0])), (aB, .inl (kB, 65536, .inl B)), (aS, .inr (1, [.ref aN, .ref aC])), (aN, .inl (kN, 5, .inl (fun j => nI (cnt2 j)))), (aC, .inl (kC, 52035, .inl cel2))]) [0, 4, 5, 1, 2, 3] rfl
                    have hDc := hD.sub (ws' := [(aR, .inr (0, [.ref aT, .ref aS])), (aT, .inr (2, [.ref aB, .int (nI 0), .int (nI u), .int (nI h_36), .int na2, .int 0, .int 0])), (aB, .inl (kB, 65536, .inl B)), (aS, .inr (1, [.ref aN, .ref aC])), (aN, .inl (kN, 5, .inl (fun j => nI (cnt2 j)))), (aC, .inl (kC, 52035, .inl cel2))]) [0, 4, 5, 1, 2, 3] (by decide) rfl
                    have hKc := hK.sub (tys' := [(kB, .byte), (kN, .int), (kC, .int)]) [0, 1, 2] rfl
                    have hFc := va_free (wc := [(aR, .inr (0, [.ref aT, .ref aS])), (aT, .inr (2, [.ref aB, .int (nI 0), .int (nI u), .int (nI h_36), .int na2, .int 0, .int 0])), (aB, .inl (kB, 65536, .inl B)), (aS, .inr (1, [.ref aN, .ref aC])), (aN, .inl (kN, 5, .inl (fun j => nI (cnt2 j)))), (aC, .inl (kC, 52035, .inl cel2))]) hD hS hA [0, 4, 5, 1, 2, 3] rfl
                    refine zt_size (fun hzs => ?_)
                    refine vx_callv (vx_runV (As := [.int (nI p2)]) (rest := []) ⟨hx, hb, hml, hown, hts⟩ (c_Rd_takeThings l hst G dC dI H.size aR aT aS aB 0 u h_36 na2 0 0 kB B aN aC kN cnt2 kC cel2 p2 (by omega) (by omega) (by omega) (hcz p2 (Nat.le_refl _) (by omega))) (cwV 1 hts (gV tw_399 tw_401 ts_12 tw_2 tw_402 rfl) rfl rfl rfl (by decide +kernel) ⟨Nat.le_of_ble_eq_true rfl, Nat.le_of_ble_eq_true rfl⟩) (PW_preV hPc hKc hDc hE hS hFc (ci := 0) (q0 := 0) rfl rfl) rfl rfl hl.1 rfl (lv_room (Nat.le_of_ble_eq_true rfl)) d_Rd_read_103 ⟨Nat.le_of_ble_eq_true rfl, Nat.le_of_ble_eq_true rfl⟩) hS (fun q _ h => hFc q h) hFc (fun q _ h => hFc q h) (fun E9 ce9 q9 uu t H1 locs ht hvm hx_58 hB hz1 hk1 hS hce hcv hcl => ?_) (fun uu t H1 locs ht hvm hw_51 hB hz1 hk1 hS => ?_)
                    ·
                      obtain ⟨w_52, k_53, h_54, na_55, cnt_56, cel_57⟩ := uu
                      obtain ⟨hEn, hP1, hD1⟩ := hB
                      rw [ht] at hP1
                      obtain ⟨hP, hD⟩ := va_join (wr := []) (w1 := [(aR, .inr (0, [.ref aT, .ref aS])), (aT, .inr (2, [.ref aB, .int (nI 0), .int (nI u), .int (nI h_54), .int na_55, .int w_52, .int (nI k_53)])), (aB, .inl (kB, 65536, .inl B)), (aS, .inr (1, [.ref aN, .ref aC])), (aN, .inl (kN, 5, .inl (fun j => nI (cnt_56 j)))), (aC, .inl (kC, 52035, .inl cel_57))]) hP hD [0, 4, 5, 1, 2, 3] [] rfl rfl (by decide) (by decide) hk1 hFc hP1 hD1
                      generalize H1 = H at hP hS hce ⊢
                      have hP : va_P (dC, dI) vwCl [(aR, .inr (0, [.ref aT, .ref aS])), (aT, .inr (2, [.ref aB, .int (nI 0), .int (nI u), .int (nI h_54), .int na_55, .int w_52, .int (nI k_53)])), (aB, .inl (kB, 65536, .inl B)), (aS, .inr (1, [.ref aN, .ref aC])), (aN, .inl (kN, 5, .inl (fun j => nI (cnt_56 j)))), (aC, .inl (kC, 52035, .inl cel_57))] H := hP
                      have hD : va_D A [(aR, .inr (0, [.ref aT, .ref aS])), (aT, .inr (2, [.ref aB, .int (nI 0), .int (nI u), .int (nI h_54), .int na_55, .int w_52, .int (nI k_53)])), (aB, .inl (kB, 65536, .inl B)), (aS, .inr (1, [.ref aN, .ref aC])), (aN, .inl (kN, 5, .inl (fun j => nI (cnt_56 j)))), (aC, .inl (kC, 52035, .inl cel_57))] := hD
                      have hP9 := hP.sub (ws' := [(aR, .inr (0, [.ref aT, .ref aS])), (aT, .inr (2, [.ref aB, .int (nI 0), .int (nI u), .int (nI h_54), .int na_55, .int w_52, .int (nI k_53)])), (aB, .inl (kB, 65536, .inl B)), (aS, .inr (1, [.ref aN, .ref aC])), (aN, .inl (kN, 5, .inl (fun j => nI (cnt_56 j)))), (aC, .inl (kC, 52035, .inl cel_57))]) [0, 1, 2, 3, 4, 5] rfl
                      have hD9 := hD.sub (ws' := [(aR, .inr (0, [.ref aT, .ref aS])), (aT, .inr (2, [.ref aB, .int (nI 0), .int (nI u), .int (nI h_54), .int na_55, .int w_52, .int (nI k_53)])), (aB, .inl (kB, 65536, .inl B)), (aS, .inr (1, [.ref aN, .ref aC])), (aN, .inl (kN, 5, .inl (fun j => nI (cnt_56 j)))), (aC, .inl (kC, 52035, .inl cel_57))]) [0, 1, 2, 3, 4, 5] (by decide) rfl
                      exact vx_out (fun x hx => (htab x hx).elim) hlocks hce hcv hcl (fun t ht hvm => ⟨(w_52, k_53, h_54, na_55, cnt_56, cel_57, 0, u), ⟨by rw [hI, zParts_step (by omega), if_neg (by decide)]; simp only [hw_33w, zB_ok, hw_37]; rw [show zPart B u p2 cnt2 (h_36, cel2) = .error (w_52, k_53) from (by unfold zPart; rw [if_neg c_43, if_neg c_44, hx_58, zB_er]), zB_er, zB_er], rfl⟩, ⟨hEn, by rw [ht]; exact hP9, hD9⟩, hS.F ht⟩) hS.2.2 (by decide) (by decide)
                    ·
                      obtain ⟨h_46, na_47, cnt_48, cel_49, n_50⟩ := uu
                      obtain ⟨hP1, hD1, hsz1⟩ := hB
                      rw [ht] at hP1 hsz1
                      obtain ⟨hP, hD⟩ := va_join (wr := []) (w1 := [(aR, .inr (0, [.ref aT, .ref aS])), (aT, .inr (2, [.ref aB, .int (nI 0), .int (nI u), .int (nI h_46), .int na_47, .int 0, .int 0])), (aB, .inl (kB, 65536, .inl B)), (aS, .inr (1, [.ref aN, .ref aC])), (aN, .inl (kN, 5, .inl (fun j => nI (cnt_48 j)))), (aC, .inl (kC, 52035, .inl cel_49))]) hP hD [0, 4, 5, 1, 2, 3] [] rfl rfl (by decide) (by decide) hk1 hFc hP1 hD1
                      refine zt_tight (hsz1.trans hzs) ?_
                      generalize H1 = H at hP hS ⊢
                      have hP : va_P (dC, dI) vwCl [(aR, .inr (0, [.ref aT, .ref aS])), (aT, .inr (2, [.ref aB, .int (nI 0), .int (nI u), .int (nI h_46), .int na_47, .int 0, .int 0])), (aB, .inl (kB, 65536, .inl B)), (aS, .inr (1, [.ref aN, .ref aC])), (aN, .inl (kN, 5, .inl (fun j => nI (cnt_48 j)))), (aC, .inl (kC, 52035, .inl cel_49))] H := hP
                      have hD : va_D A [(aR, .inr (0, [.ref aT, .ref aS])), (aT, .inr (2, [.ref aB, .int (nI 0), .int (nI u), .int (nI h_46), .int na_47, .int 0, .int 0])), (aB, .inl (kB, 65536, .inl B)), (aS, .inr (1, [.ref aN, .ref aC])), (aN, .inl (kN, 5, .inl (fun j => nI (cnt_48 j)))), (aC, .inl (kC, 52035, .inl cel_49))] := hD
                      have hw_51i : h_46 ≤ u := zThings_in hw_51.1
                      dsimp only at hw_51
                      obtain ⟨hw_51a, e5⟩ := hw_51
                      have e5 := e5.symm; subst e5
                      have hpt_59 : zPart B u p2 cnt2 (h_36, cel2) = .ok (zuN cnt2 p2 n_50, h_46, cel_49) := by unfold zPart; rw [if_neg c_43, if_neg c_44, hw_51a, zB_ok]
                      refine lv_iload_n hx hb d_Rd_read_106 rfl (lv_at hl 3 rfl) ?_
                      refine lv_bipush (v := 6) hx hb d_Rd_read_107 (by decide) ?_
                      refine lv_icmp_ge (tgt := 128) hx hb d_Rd_read_109 (by decide) (fun c_60 => ?_) (fun c_60 => ?_)
                      ·
                        have c_60 : 6 ≤ p2 := (@nI_leI 6 p2 (by omega) (by omega)).mp c_60
                        refine lv_iconst (v := 0) hx hb d_Rd_read_128 (by decide) ?_
                        refine lv_istore_n (lv' := [(2, .int 0), (0, .ref aR), (1, .ref aO), (3, .int (nI p2))]) hx hb d_Rd_read_129 rfl hl (by decide) rfl (fun ls hl => ?_)
                        refine lv_iinc (v := nI (p2 + 1)) (lv' := [(3, .int (nI (p2 + 1))), (2, .int 0), (0, .ref aR), (1, .ref aO)]) hx hb d_Rd_read_130 hl (k := 3) rfl (nI_add p2 1) (by decide) rfl (fun ls hl => ?_)
                        refine lv_goto (tgt := 43) hx hb d_Rd_read_133 (by decide) ?_
                        exact ih (p2 + 1) 0 false h_46 na_47 (zuN cnt2 p2 n_50) cel_49 (Or.inl ⟨rfl, rfl⟩) (by omega) (by omega) (by omega) (fun j h1 h2 => by rw [zuN_n (by omega)]; exact hcz j (by omega) h2) (by rw [hI, zParts_step (by omega), if_neg (by decide)]; simp only [hw_33w, zB_ok, hw_37, hpt_59]; rw [if_neg (fun z => absurd z.1 (by omega))]) _ _ (hP.sub [0, 1, 2, 3, 4, 5] rfl) (hD.sub [0, 1, 2, 3, 4, 5] (by decide) rfl) hS ls (lv_sub hl [2, 3, 1, 0] rfl)
                      ·
                        have c_60 : ¬ (6 ≤ p2) := fun z => c_60 ((@nI_leI 6 p2 (by omega) (by omega)).mpr z)
                        refine lv_aload_n hx hb d_Rd_read_112 rfl (lv_at hl 0 rfl) ?_
                        refine va_get (D := (dC, dI)) (ci := 0) (v := .ref aT) (C := R_Rd) (T := F_Rd) (N := 2) hx hb hz i_Rd hown hK hP 0 rfl rfl 0 (by decide) (hz _ tw_84) (fun _ h9 => h9) rfl d_Rd_read_113 ?_
                        refine lv_bipush (v := 44) hx hb d_Rd_read_116 (by decide) ?_
                        have hPc := hP.sub (ws' := [(aT, .inr (2, [.ref aB, .int (nI 0), .int (nI u), .int (nI h_46), .int na_47, .int 0, .int 0])), (aB, .inl (kB, 65536, .inl B))]) [1, 2] rfl
                        have hDc := hD.sub (ws' := [(aT, .inr (2, [.ref aB, .int (nI 0), .int (nI u), .int (nI h_46), .int na_47, .int 0, .int 0])), (aB, .inl (kB, 65536, .inl B))]) [1, 2] (by decide) rfl
                        have hKc := hK.sub (tys' := [(kB, .byte)]) [0] rfl
                        have hFc := va_free (wc := [(aT, .inr (2, [.ref aB, .int (nI 0), .int (nI u), .int (nI h_46), .int na_47, .int 0, .int 0])), (aB, .inl (kB, 65536, .inl B))]) hD hS hA [1, 2] rfl
                        refine va_calli (va_runV (As := [.int 44]) (rest := []) ⟨hx, hb, hml, hown, hts⟩ (c_Tp_takes l G dC dI H.size aT aB 0 u h_46 na_47 0 0 kB B 44 (by omega) (by omega)) (cwV 1 hts (gV tw_379 tw_380 tw_381 tw_3 tw_382 rfl) rfl rfl rfl (by decide +kernel) ⟨Nat.le_of_ble_eq_true rfl, Nat.le_of_ble_eq_true rfl⟩) (PW_preV hPc hKc hDc hE hS hFc (ci := 2) (q0 := 0) rfl rfl) rfl rfl hl.1 rfl (lv_room (Nat.le_of_ble_eq_true rfl)) d_Rd_read_118 ⟨Nat.le_of_ble_eq_true rfl, Nat.le_of_ble_eq_true rfl⟩) hS (fun q _ h => hFc q h) hFc (fun r_61 uu t H1 locs ht hvm hw_63 hB hz1 hk1 hS => ?_)
                        obtain ⟨h_62, rfl⟩ : ∃ z, z = uu := ⟨_, rfl⟩
                        obtain ⟨hP1, hD1, hsz1⟩ := hB
                        rw [ht] at hP1 hsz1
                        obtain ⟨hP, hD⟩ := va_join (wr := [(aR, .inr (0, [.ref aT, .ref aS])), (aS, .inr (1, [.ref aN, .ref aC])), (aN, .inl (kN, 5, .inl (fun j => nI ((zuN cnt2 p2 n_50) j)))), (aC, .inl (kC, 52035, .inl cel_49))]) (w1 := [(aT, .inr (2, [.ref aB, .int (nI 0), .int (nI u), .int (nI h_62), .int na_47, .int 0, .int 0])), (aB, .inl (kB, 65536, .inl B))]) hP hD [1, 2] [0, 3, 4, 5] rfl rfl (by decide) (by decide) hk1 hFc hP1 hD1
                        generalize H1 = H at hP hS ⊢
                        have hP : va_P (dC, dI) vwCl [(aR, .inr (0, [.ref aT, .ref aS])), (aS, .inr (1, [.ref aN, .ref aC])), (aN, .inl (kN, 5, .inl (fun j => nI ((zuN cnt2 p2 n_50) j)))), (aC, .inl (kC, 52035, .inl cel_49)), (aT, .inr (2, [.ref aB, .int (nI 0), .int (nI u), .int (nI h_62), .int na_47, .int 0, .int 0])), (aB, .inl (kB, 65536, .inl B))] H := hP
                        have hD : va_D A [(aR, .inr (0, [.ref aT, .ref aS])), (aS, .inr (1, [.ref aN, .ref aC])), (aN, .inl (kN, 5, .inl (fun j => nI ((zuN cnt2 p2 n_50) j)))), (aC, .inl (kC, 52035, .inl cel_49)), (aT, .inr (2, [.ref aB, .int (nI 0), .int (nI u), .int (nI h_62), .int na_47, .int 0, .int 0])), (aB, .inl (kB, 65536, .inl B))] := hD
                        by_cases hs_64 : h_46 < u ∧ B h_46 = 44
                        ·
                          obtain ⟨e1, e2⟩ := hw_63
                          rw [if_pos hs_64] at e1 e2; subst e1; have e2 := e2.symm; subst e2
                          have hs_64i := zK_le (B := B) (en := u) (i := h_46 + 1) (by omega)
                          refine lv_if_eq (tgt := 128) hx hb d_Rd_read_121 (by decide) (fun c_65 => ?_) (fun c_65 => ?_)
                          ·
                            exact absurd c_65 (by decide)
                          ·
                            refine lv_iconst (v := 1) hx hb d_Rd_read_124 (by decide) ?_
                            refine lv_goto (tgt := 129) hx hb d_Rd_read_125 (by decide) ?_
                            refine lv_istore_n (lv' := [(2, .int 1), (0, .ref aR), (1, .ref aO), (3, .int (nI p2))]) hx hb d_Rd_read_129 rfl hl (by decide) rfl (fun ls hl => ?_)
                            refine lv_iinc (v := nI (p2 + 1)) (lv' := [(3, .int (nI (p2 + 1))), (2, .int 1), (0, .ref aR), (1, .ref aO)]) hx hb d_Rd_read_130 hl (k := 3) rfl (nI_add p2 1) (by decide) rfl (fun ls hl => ?_)
                            refine lv_goto (tgt := 43) hx hb d_Rd_read_133 (by decide) ?_
                            exact ih (p2 + 1) 1 true (zK B u (h_46 + 1)) na_47 (zuN cnt2 p2 n_50) cel_49 (Or.inr ⟨rfl, rfl⟩) (by omega) (by omega) (by omega) (fun j h1 h2 => by rw [zuN_n (by omega)]; exact hcz j (by omega) h2) (by rw [hI, zParts_step (by omega), if_neg (by decide)]; simp only [hw_33w, zB_ok, hw_37, hpt_59]; rw [if_pos ⟨by omega, hs_64⟩]) _ _ (hP.sub [0, 4, 5, 1, 2, 3] rfl) (hD.sub [0, 4, 5, 1, 2, 3] (by decide) rfl) hS ls (lv_sub hl [2, 3, 1, 0] rfl)
                        ·
                          obtain ⟨e1, e2⟩ := hw_63
                          rw [if_neg hs_64] at e1 e2; subst e1; have e2 := e2.symm; subst e2
                          refine lv_if_eq (tgt := 128) hx hb d_Rd_read_121 (by decide) (fun c_66 => ?_) (fun c_66 => ?_)
                          ·
                            refine lv_iconst (v := 0) hx hb d_Rd_read_128 (by decide) ?_
                            refine lv_istore_n (lv' := [(2, .int 0), (0, .ref aR), (1, .ref aO), (3, .int (nI p2))]) hx hb d_Rd_read_129 rfl hl (by decide) rfl (fun ls hl => ?_)
                            refine lv_iinc (v := nI (p2 + 1)) (lv' := [(3, .int (nI (p2 + 1))), (2, .int 0), (0, .ref aR), (1, .ref aO)]) hx hb d_Rd_read_130 hl (k := 3) rfl (nI_add p2 1) (by decide) rfl (fun ls hl => ?_)
                            refine lv_goto (tgt := 43) hx hb d_Rd_read_133 (by decide) ?_
                            exact ih (p2 + 1) 0 false h_46 na_47 (zuN cnt2 p2 n_50) cel_49 (Or.inl ⟨rfl, rfl⟩) (by omega) (by omega) (by omega) (fun j h1 h2 => by rw [zuN_n (by omega)]; exact hcz j (by omega) h2) (by rw [hI, zParts_step (by omega), if_neg (by decide)]; simp only [hw_33w, zB_ok, hw_37, hpt_59]; rw [if_neg (fun z => hs_64 z.2)]) _ _ (hP.sub [0, 4, 5, 1, 2, 3] rfl) (hD.sub [0, 4, 5, 1, 2, 3] (by decide) rfl) hS ls (lv_sub hl [2, 3, 1, 0] rfl)
                          ·
                            exact absurd (by decide) c_66
                  ·
                    have c_44 : p2 = 6 := (@nI_eq p2 6 (by omega) (by omega)).mp c_44
                    refine lv_aload_n hx hb d_Rd_read_94 rfl (lv_at hl 0 rfl) ?_
                    have hPc := hP.sub (ws' := [(aR, .inr (0, [.ref aT, .ref aS])), (aT, .inr (2, [.ref aB, .int (nI 0), .int (nI u), .int (nI h_36), .int na2, .int 0, .int 0])), (aB, .inl (kB, 65536, .inl B)), (aS, .inr (1, [.ref aN, .ref aC])), (aN, .inl (kN, 5, .inl (fun j => nI (cnt2 j)))), (aC, .inl (kC, 52035, .inl cel2))]) [0, 4, 5, 1, 2, 3] rfl
                    have hDc := hD.sub (ws' := [(aR, .inr (0, [.ref aT, .ref aS])), (aT, .inr (2, [.ref aB, .int (nI 0), .int (nI u), .int (nI h_36), .int na2, .int 0, .int 0])), (aB, .inl (kB, 65536, .inl B)), (aS, .inr (1, [.ref aN, .ref aC])), (aN, .inl (kN, 5, .inl (fun j => nI (cnt2 j)))), (aC, .inl (kC, 52035, .inl cel2))]) [0, 4, 5, 1, 2, 3] (by decide) rfl
                    have hKc := hK.sub (tys' := [(kB, .byte), (kN, .int), (kC, .int)]) [0, 1, 2] rfl
                    have hFc := va_free (wc := [(aR, .inr (0, [.ref aT, .ref aS])), (aT, .inr (2, [.ref aB, .int (nI 0), .int (nI u), .int (nI h_36), .int na2, .int 0, .int 0])), (aB, .inl (kB, 65536, .inl B)), (aS, .inr (1, [.ref aN, .ref aC])), (aN, .inl (kN, 5, .inl (fun j => nI (cnt2 j)))), (aC, .inl (kC, 52035, .inl cel2))]) hD hS hA [0, 4, 5, 1, 2, 3] rfl
                    refine zt_size (fun hzs => ?_)
                    refine vx_callv (vx_runV (As := []) (rest := []) ⟨hx, hb, hml, hown, hts⟩ (c_Rd_takeLight l hst G dC dI H.size aR aT aS aB 0 u h_36 na2 0 0 kB B aN aC kN cnt2 kC cel2 (by omega) (by omega)) (cwV 0 hts (gV tw_391 tw_393 ts_11 tw_2 tw_394 rfl) rfl rfl rfl (by decide +kernel) ⟨Nat.le_of_ble_eq_true rfl, Nat.le_of_ble_eq_true rfl⟩) (PW_preV hPc hKc hDc hE hS hFc (ci := 0) (q0 := 0) rfl rfl) rfl rfl hl.1 rfl (lv_room (Nat.le_of_ble_eq_true rfl)) d_Rd_read_95 ⟨Nat.le_of_ble_eq_true rfl, Nat.le_of_ble_eq_true rfl⟩) hS (fun q _ h => hFc q h) hFc (fun q _ h => hFc q h) (fun E9 ce9 q9 uu t H1 locs ht hvm hx_78 hB hz1 hk1 hS hce hcv hcl => ?_) (fun uu t H1 locs ht hvm hw_71 hB hz1 hk1 hS => ?_)
                    ·
                      obtain ⟨w_72, k_73, h_74, na_75, cnt_76, cel_77⟩ := uu
                      obtain ⟨hEn, hP1, hD1⟩ := hB
                      rw [ht] at hP1
                      obtain ⟨hP, hD⟩ := va_join (wr := []) (w1 := [(aR, .inr (0, [.ref aT, .ref aS])), (aT, .inr (2, [.ref aB, .int (nI 0), .int (nI u), .int (nI h_74), .int na_75, .int w_72, .int (nI k_73)])), (aB, .inl (kB, 65536, .inl B)), (aS, .inr (1, [.ref aN, .ref aC])), (aN, .inl (kN, 5, .inl (fun j => nI (cnt_76 j)))), (aC, .inl (kC, 52035, .inl cel_77))]) hP hD [0, 4, 5, 1, 2, 3] [] rfl rfl (by decide) (by decide) hk1 hFc hP1 hD1
                      generalize H1 = H at hP hS hce ⊢
                      have hP : va_P (dC, dI) vwCl [(aR, .inr (0, [.ref aT, .ref aS])), (aT, .inr (2, [.ref aB, .int (nI 0), .int (nI u), .int (nI h_74), .int na_75, .int w_72, .int (nI k_73)])), (aB, .inl (kB, 65536, .inl B)), (aS, .inr (1, [.ref aN, .ref aC])), (aN, .inl (kN, 5, .inl (fun j => nI (cnt_76 j)))), (aC, .inl (kC, 52035, .inl cel_77))] H := hP
                      have hD : va_D A [(aR, .inr (0, [.ref aT, .ref aS])), (aT, .inr (2, [.ref aB, .int (nI 0), .int (nI u), .int (nI h_74), .int na_75, .int w_72, .int (nI k_73)])), (aB, .inl (kB, 65536, .inl B)), (aS, .inr (1, [.ref aN, .ref aC])), (aN, .inl (kN, 5, .inl (fun j => nI (cnt_76 j)))), (aC, .inl (kC, 52035, .inl cel_77))] := hD
                      have hP9 := hP.sub (ws' := [(aR, .inr (0, [.ref aT, .ref aS])), (aT, .inr (2, [.ref aB, .int (nI 0), .int (nI u), .int (nI h_74), .int na_75, .int w_72, .int (nI k_73)])), (aB, .inl (kB, 65536, .inl B)), (aS, .inr (1, [.ref aN, .ref aC])), (aN, .inl (kN, 5, .inl (fun j => nI (cnt_76 j)))), (aC, .inl (kC, 52035, .inl cel_77))]) [0, 1, 2, 3, 4, 5] rfl
                      have hD9 := hD.sub (ws' := [(aR, .inr (0, [.ref aT, .ref aS])), (aT, .inr (2, [.ref aB, .int (nI 0), .int (nI u), .int (nI h_74), .int na_75, .int w_72, .int (nI k_73)])), (aB, .inl (kB, 65536, .inl B)), (aS, .inr (1, [.ref aN, .ref aC])), (aN, .inl (kN, 5, .inl (fun j => nI (cnt_76 j)))), (aC, .inl (kC, 52035, .inl cel_77))]) [0, 1, 2, 3, 4, 5] (by decide) rfl
                      exact vx_out (fun x hx => (htab x hx).elim) hlocks hce hcv hcl (fun t ht hvm => ⟨(w_72, k_73, h_74, na_75, cnt_76, cel_77, 0, u), ⟨by rw [hI, zParts_step (by omega), if_neg (by decide)]; simp only [hw_33w, zB_ok, hw_37]; rw [show zPart B u p2 cnt2 (h_36, cel2) = .error (w_72, k_73) from (by unfold zPart; rw [if_neg c_43, if_pos c_44, hx_78, zB_er]), zB_er, zB_er], rfl⟩, ⟨hEn, by rw [ht]; exact hP9, hD9⟩, hS.F ht⟩) hS.2.2 (by decide) (by decide)
                    ·
                      obtain ⟨h_68, na_69, cel_70⟩ := uu
                      obtain ⟨hP1, hD1, hsz1⟩ := hB
                      rw [ht] at hP1 hsz1
                      obtain ⟨hP, hD⟩ := va_join (wr := []) (w1 := [(aR, .inr (0, [.ref aT, .ref aS])), (aT, .inr (2, [.ref aB, .int (nI 0), .int (nI u), .int (nI h_68), .int na_69, .int 0, .int 0])), (aB, .inl (kB, 65536, .inl B)), (aS, .inr (1, [.ref aN, .ref aC])), (aN, .inl (kN, 5, .inl (fun j => nI (cnt2 j)))), (aC, .inl (kC, 52035, .inl cel_70))]) hP hD [0, 4, 5, 1, 2, 3] [] rfl rfl (by decide) (by decide) hk1 hFc hP1 hD1
                      refine zt_tight (hsz1.trans hzs) ?_
                      generalize H1 = H at hP hS ⊢
                      have hP : va_P (dC, dI) vwCl [(aR, .inr (0, [.ref aT, .ref aS])), (aT, .inr (2, [.ref aB, .int (nI 0), .int (nI u), .int (nI h_68), .int na_69, .int 0, .int 0])), (aB, .inl (kB, 65536, .inl B)), (aS, .inr (1, [.ref aN, .ref aC])), (aN, .inl (kN, 5, .inl (fun j => nI (cnt2 j)))), (aC, .inl (kC, 52035, .inl cel_70))] H := hP
                      have hD : va_D A [(aR, .inr (0, [.ref aT, .ref aS])), (aT, .inr (2, [.ref aB, .int (nI 0), .int (nI u), .int (nI h_68), .int na_69, .int 0, .int 0])), (aB, .inl (kB, 65536, .inl B)), (aS, .inr (1, [.ref aN, .ref aC])), (aN, .inl (kN, 5, .inl (fun j => nI (cnt2 j)))), (aC, .inl (kC, 52035, .inl cel_70))] := hD
                      have hw_71i : h_68 ≤ u := zLight_in hw_71
                      have hpt_79 : zPart B u p2 cnt2 (h_36, cel2) = .ok (cnt2, h_68, cel_70) := by unfold zPart; rw [if_neg c_43, if_pos c_44, hw_71, zB_ok]
                      refine lv_goto (tgt := 106) hx hb d_Rd_read_98 (by decide) ?_
                      refine lv_iload_n hx hb d_Rd_read_106 rfl (lv_at hl 3 rfl) ?_
                      refine lv_bipush (v := 6) hx hb d_Rd_read_107 (by decide) ?_
                      refine lv_icmp_ge (tgt := 128) hx hb d_Rd_read_109 (by decide) (fun c_80 => ?_) (fun c_80 => ?_)
                      ·
                        have c_80 : 6 ≤ p2 := (@nI_leI 6 p2 (by omega) (by omega)).mp c_80
                        refine lv_iconst (v := 0) hx hb d_Rd_read_128 (by decide) ?_
                        refine lv_istore_n (lv' := [(2, .int 0), (0, .ref aR), (1, .ref aO), (3, .int (nI p2))]) hx hb d_Rd_read_129 rfl hl (by decide) rfl (fun ls hl => ?_)
                        refine lv_iinc (v := nI (p2 + 1)) (lv' := [(3, .int (nI (p2 + 1))), (2, .int 0), (0, .ref aR), (1, .ref aO)]) hx hb d_Rd_read_130 hl (k := 3) rfl (nI_add p2 1) (by decide) rfl (fun ls hl => ?_)
                        refine lv_goto (tgt := 43) hx hb d_Rd_read_133 (by decide) ?_
                        exact ih (p2 + 1) 0 false h_68 na_69 cnt2 cel_70 (Or.inl ⟨rfl, rfl⟩) (by omega) (by omega) (by omega) (fun j h1 h2 => hcz j (by omega) h2) (by rw [hI, zParts_step (by omega), if_neg (by decide)]; simp only [hw_33w, zB_ok, hw_37, hpt_79]; rw [if_neg (fun z => absurd z.1 (by omega))]) _ _ (hP.sub [0, 1, 2, 3, 4, 5] rfl) (hD.sub [0, 1, 2, 3, 4, 5] (by decide) rfl) hS ls (lv_sub hl [2, 3, 1, 0] rfl)
                      ·
                        have c_80 : ¬ (6 ≤ p2) := fun z => c_80 ((@nI_leI 6 p2 (by omega) (by omega)).mpr z)
                        refine lv_aload_n hx hb d_Rd_read_112 rfl (lv_at hl 0 rfl) ?_
                        refine va_get (D := (dC, dI)) (ci := 0) (v := .ref aT) (C := R_Rd) (T := F_Rd) (N := 2) hx hb hz i_Rd hown hK hP 0 rfl rfl 0 (by decide) (hz _ tw_84) (fun _ h9 => h9) rfl d_Rd_read_113 ?_
                        refine lv_bipush (v := 44) hx hb d_Rd_read_116 (by decide) ?_
                        have hPc := hP.sub (ws' := [(aT, .inr (2, [.ref aB, .int (nI 0), .int (nI u), .int (nI h_68), .int na_69, .int 0, .int 0])), (aB, .inl (kB, 65536, .inl B))]) [1, 2] rfl
                        have hDc := hD.sub (ws' := [(aT, .inr (2, [.ref aB, .int (nI 0), .int (nI u), .int (nI h_68), .int na_69, .int 0, .int 0])), (aB, .inl (kB, 65536, .inl B))]) [1, 2] (by decide) rfl
                        have hKc := hK.sub (tys' := [(kB, .byte)]) [0] rfl
                        have hFc := va_free (wc := [(aT, .inr (2, [.ref aB, .int (nI 0), .int (nI u), .int (nI h_68), .int na_69, .int 0, .int 0])), (aB, .inl (kB, 65536, .inl B))]) hD hS hA [1, 2] rfl
                        refine va_calli (va_runV (As := [.int 44]) (rest := []) ⟨hx, hb, hml, hown, hts⟩ (c_Tp_takes l G dC dI H.size aT aB 0 u h_68 na_69 0 0 kB B 44 (by omega) (by omega)) (cwV 1 hts (gV tw_379 tw_380 tw_381 tw_3 tw_382 rfl) rfl rfl rfl (by decide +kernel) ⟨Nat.le_of_ble_eq_true rfl, Nat.le_of_ble_eq_true rfl⟩) (PW_preV hPc hKc hDc hE hS hFc (ci := 2) (q0 := 0) rfl rfl) rfl rfl hl.1 rfl (lv_room (Nat.le_of_ble_eq_true rfl)) d_Rd_read_118 ⟨Nat.le_of_ble_eq_true rfl, Nat.le_of_ble_eq_true rfl⟩) hS (fun q _ h => hFc q h) hFc (fun r_81 uu t H1 locs ht hvm hw_83 hB hz1 hk1 hS => ?_)
                        obtain ⟨h_82, rfl⟩ : ∃ z, z = uu := ⟨_, rfl⟩
                        obtain ⟨hP1, hD1, hsz1⟩ := hB
                        rw [ht] at hP1 hsz1
                        obtain ⟨hP, hD⟩ := va_join (wr := [(aR, .inr (0, [.ref aT, .ref aS])), (aS, .inr (1, [.ref aN, .ref aC])), (aN, .inl (kN, 5, .inl (fun j => nI (cnt2 j)))), (aC, .inl (kC, 52035, .inl cel_70))]) (w1 := [(aT, .inr (2, [.ref aB, .int (nI 0), .int (nI u), .int (nI h_82), .int na_69, .int 0, .int 0])), (aB, .inl (kB, 65536, .inl B))]) hP hD [1, 2] [0, 3, 4, 5] rfl rfl (by decide) (by decide) hk1 hFc hP1 hD1
                        generalize H1 = H at hP hS ⊢
                        have hP : va_P (dC, dI) vwCl [(aR, .inr (0, [.ref aT, .ref aS])), (aS, .inr (1, [.ref aN, .ref aC])), (aN, .inl (kN, 5, .inl (fun j => nI (cnt2 j)))), (aC, .inl (kC, 52035, .inl cel_70)), (aT, .inr (2, [.ref aB, .int (nI 0), .int (nI u), .int (nI h_82), .int na_69, .int 0, .int 0])), (aB, .inl (kB, 65536, .inl B))] H := hP
                        have hD : va_D A [(aR, .inr (0, [.ref aT, .ref aS])), (aS, .inr (1, [.ref aN, .ref aC])), (aN, .inl (kN, 5, .inl (fun j => nI (cnt2 j)))), (aC, .inl (kC, 52035, .inl cel_70)), (aT, .inr (2, [.ref aB, .int (nI 0), .int (nI u), .int (nI h_82), .int na_69, .int 0, .int 0])), (aB, .inl (kB, 65536, .inl B))] := hD
                        by_cases hs_84 : h_68 < u ∧ B h_68 = 44
                        ·
                          obtain ⟨e1, e2⟩ := hw_83
                          rw [if_pos hs_84] at e1 e2; subst e1; have e2 := e2.symm; subst e2
                          have hs_84i := zK_le (B := B) (en := u) (i := h_68 + 1) (by omega)
                          refine lv_if_eq (tgt := 128) hx hb d_Rd_read_121 (by decide) (fun c_85 => ?_) (fun c_85 => ?_)
                          ·
                            exact absurd c_85 (by decide)
                          ·
                            refine lv_iconst (v := 1) hx hb d_Rd_read_124 (by decide) ?_
                            refine lv_goto (tgt := 129) hx hb d_Rd_read_125 (by decide) ?_
                            refine lv_istore_n (lv' := [(2, .int 1), (0, .ref aR), (1, .ref aO), (3, .int (nI p2))]) hx hb d_Rd_read_129 rfl hl (by decide) rfl (fun ls hl => ?_)
                            refine lv_iinc (v := nI (p2 + 1)) (lv' := [(3, .int (nI (p2 + 1))), (2, .int 1), (0, .ref aR), (1, .ref aO)]) hx hb d_Rd_read_130 hl (k := 3) rfl (nI_add p2 1) (by decide) rfl (fun ls hl => ?_)
                            refine lv_goto (tgt := 43) hx hb d_Rd_read_133 (by decide) ?_
                            exact ih (p2 + 1) 1 true (zK B u (h_68 + 1)) na_69 cnt2 cel_70 (Or.inr ⟨rfl, rfl⟩) (by omega) (by omega) (by omega) (fun j h1 h2 => hcz j (by omega) h2) (by rw [hI, zParts_step (by omega), if_neg (by decide)]; simp only [hw_33w, zB_ok, hw_37, hpt_79]; rw [if_pos ⟨by omega, hs_84⟩]) _ _ (hP.sub [0, 4, 5, 1, 2, 3] rfl) (hD.sub [0, 4, 5, 1, 2, 3] (by decide) rfl) hS ls (lv_sub hl [2, 3, 1, 0] rfl)
                        ·
                          obtain ⟨e1, e2⟩ := hw_83
                          rw [if_neg hs_84] at e1 e2; subst e1; have e2 := e2.symm; subst e2
                          refine lv_if_eq (tgt := 128) hx hb d_Rd_read_121 (by decide) (fun c_86 => ?_) (fun c_86 => ?_)
                          ·
                            refine lv_iconst (v := 0) hx hb d_Rd_read_128 (by decide) ?_
                            refine lv_istore_n (lv' := [(2, .int 0), (0, .ref aR), (1, .ref aO), (3, .int (nI p2))]) hx hb d_Rd_read_129 rfl hl (by decide) rfl (fun ls hl => ?_)
                            refine lv_iinc (v := nI (p2 + 1)) (lv' := [(3, .int (nI (p2 + 1))), (2, .int 0), (0, .ref aR), (1, .ref aO)]) hx hb d_Rd_read_130 hl (k := 3) rfl (nI_add p2 1) (by decide) rfl (fun ls hl => ?_)
                            refine lv_goto (tgt := 43) hx hb d_Rd_read_133 (by decide) ?_
                            exact ih (p2 + 1) 0 false h_68 na_69 cnt2 cel_70 (Or.inl ⟨rfl, rfl⟩) (by omega) (by omega) (by omega) (fun j h1 h2 => hcz j (by omega) h2) (by rw [hI, zParts_step (by omega), if_neg (by decide)]; simp only [hw_33w, zB_ok, hw_37, hpt_79]; rw [if_neg (fun z => hs_84 z.2)]) _ _ (hP.sub [0, 4, 5, 1, 2, 3] rfl) (hD.sub [0, 4, 5, 1, 2, 3] (by decide) rfl) hS ls (lv_sub hl [2, 3, 1, 0] rfl)
                          ·
                            exact absurd (by decide) c_86
                ·
                  have c_43 : p2 = 5 := (@nI_eq p2 5 (by omega) (by omega)).mp c_43
                  refine lv_aload_n hx hb d_Rd_read_81 rfl (lv_at hl 0 rfl) ?_
                  have hPc := hP.sub (ws' := [(aR, .inr (0, [.ref aT, .ref aS])), (aT, .inr (2, [.ref aB, .int (nI 0), .int (nI u), .int (nI h_36), .int na2, .int 0, .int 0])), (aB, .inl (kB, 65536, .inl B)), (aS, .inr (1, [.ref aN, .ref aC])), (aN, .inl (kN, 5, .inl (fun j => nI (cnt2 j)))), (aC, .inl (kC, 52035, .inl cel2))]) [0, 4, 5, 1, 2, 3] rfl
                  have hDc := hD.sub (ws' := [(aR, .inr (0, [.ref aT, .ref aS])), (aT, .inr (2, [.ref aB, .int (nI 0), .int (nI u), .int (nI h_36), .int na2, .int 0, .int 0])), (aB, .inl (kB, 65536, .inl B)), (aS, .inr (1, [.ref aN, .ref aC])), (aN, .inl (kN, 5, .inl (fun j => nI (cnt2 j)))), (aC, .inl (kC, 52035, .inl cel2))]) [0, 4, 5, 1, 2, 3] (by decide) rfl
                  have hKc := hK.sub (tys' := [(kB, .byte), (kN, .int), (kC, .int)]) [0, 1, 2] rfl
                  have hFc := va_free (wc := [(aR, .inr (0, [.ref aT, .ref aS])), (aT, .inr (2, [.ref aB, .int (nI 0), .int (nI u), .int (nI h_36), .int na2, .int 0, .int 0])), (aB, .inl (kB, 65536, .inl B)), (aS, .inr (1, [.ref aN, .ref aC])), (aN, .inl (kN, 5, .inl (fun j => nI (cnt2 j)))), (aC, .inl (kC, 52035, .inl cel2))]) hD hS hA [0, 4, 5, 1, 2, 3] rfl
                  refine zt_size (fun hzs => ?_)
                  refine vx_callv (vx_runV (As := []) (rest := []) ⟨hx, hb, hml, hown, hts⟩ (c_Rd_takeCamera l hst G dC dI H.size aR aT aS aB 0 u h_36 na2 0 0 kB B aN aC kN cnt2 kC cel2 (by omega) (by omega)) (cwV 0 hts (gV tw_354 tw_356 ts_7 tw_2 tw_357 rfl) rfl rfl rfl (by decide +kernel) ⟨Nat.le_of_ble_eq_true rfl, Nat.le_of_ble_eq_true rfl⟩) (PW_preV hPc hKc hDc hE hS hFc (ci := 0) (q0 := 0) rfl rfl) rfl rfl hl.1 rfl (lv_room (Nat.le_of_ble_eq_true rfl)) d_Rd_read_82 ⟨Nat.le_of_ble_eq_true rfl, Nat.le_of_ble_eq_true rfl⟩) hS (fun q _ h => hFc q h) hFc (fun q _ h => hFc q h) (fun E9 ce9 q9 uu t H1 locs ht hvm hx_98 hB hz1 hk1 hS hce hcv hcl => ?_) (fun uu t H1 locs ht hvm hw_91 hB hz1 hk1 hS => ?_)
                  ·
                    obtain ⟨w_92, k_93, h_94, na_95, cnt_96, cel_97⟩ := uu
                    obtain ⟨hEn, hP1, hD1⟩ := hB
                    rw [ht] at hP1
                    obtain ⟨hP, hD⟩ := va_join (wr := []) (w1 := [(aR, .inr (0, [.ref aT, .ref aS])), (aT, .inr (2, [.ref aB, .int (nI 0), .int (nI u), .int (nI h_94), .int na_95, .int w_92, .int (nI k_93)])), (aB, .inl (kB, 65536, .inl B)), (aS, .inr (1, [.ref aN, .ref aC])), (aN, .inl (kN, 5, .inl (fun j => nI (cnt_96 j)))), (aC, .inl (kC, 52035, .inl cel_97))]) hP hD [0, 4, 5, 1, 2, 3] [] rfl rfl (by decide) (by decide) hk1 hFc hP1 hD1
                    generalize H1 = H at hP hS hce ⊢
                    have hP : va_P (dC, dI) vwCl [(aR, .inr (0, [.ref aT, .ref aS])), (aT, .inr (2, [.ref aB, .int (nI 0), .int (nI u), .int (nI h_94), .int na_95, .int w_92, .int (nI k_93)])), (aB, .inl (kB, 65536, .inl B)), (aS, .inr (1, [.ref aN, .ref aC])), (aN, .inl (kN, 5, .inl (fun j => nI (cnt_96 j)))), (aC, .inl (kC, 52035, .inl cel_97))] H := hP
                    have hD : va_D A [(aR, .inr (0, [.ref aT, .ref aS])), (aT, .inr (2, [.ref aB, .int (nI 0), .int (nI u), .int (nI h_94), .int na_95, .int w_92, .int (nI k_93)])), (aB, .inl (kB, 65536, .inl B)), (aS, .inr (1, [.ref aN, .ref aC])), (aN, .inl (kN, 5, .inl (fun j => nI (cnt_96 j)))), (aC, .inl (kC, 52035, .inl cel_97))] := hD
                    have hP9 := hP.sub (ws' := [(aR, .inr (0, [.ref aT, .ref aS])), (aT, .inr (2, [.ref aB, .int (nI 0), .int (nI u), .int (nI h_94), .int na_95, .int w_92, .int (nI k_93)])), (aB, .inl (kB, 65536, .inl B)), (aS, .inr (1, [.ref aN, .ref aC])), (aN, .inl (kN, 5, .inl (fun j => nI (cnt_96 j)))), (aC, .inl (kC, 52035, .inl cel_97))]) [0, 1, 2, 3, 4, 5] rfl
                    have hD9 := hD.sub (ws' := [(aR, .inr (0, [.ref aT, .ref aS])), (aT, .inr (2, [.ref aB, .int (nI 0), .int (nI u), .int (nI h_94), .int na_95, .int w_92, .int (nI k_93)])), (aB, .inl (kB, 65536, .inl B)), (aS, .inr (1, [.ref aN, .ref aC])), (aN, .inl (kN, 5, .inl (fun j => nI (cnt_96 j)))), (aC, .inl (kC, 52035, .inl cel_97))]) [0, 1, 2, 3, 4, 5] (by decide) rfl
                    exact vx_out (fun x hx => (htab x hx).elim) hlocks hce hcv hcl (fun t ht hvm => ⟨(w_92, k_93, h_94, na_95, cnt_96, cel_97, 0, u), ⟨by rw [hI, zParts_step (by omega), if_neg (by decide)]; simp only [hw_33w, zB_ok, hw_37]; rw [show zPart B u p2 cnt2 (h_36, cel2) = .error (w_92, k_93) from (by unfold zPart; rw [if_pos c_43, hx_98, zB_er]), zB_er, zB_er], rfl⟩, ⟨hEn, by rw [ht]; exact hP9, hD9⟩, hS.F ht⟩) hS.2.2 (by decide) (by decide)
                  ·
                    obtain ⟨h_88, na_89, cel_90⟩ := uu
                    obtain ⟨hP1, hD1, hsz1⟩ := hB
                    rw [ht] at hP1 hsz1
                    obtain ⟨hP, hD⟩ := va_join (wr := []) (w1 := [(aR, .inr (0, [.ref aT, .ref aS])), (aT, .inr (2, [.ref aB, .int (nI 0), .int (nI u), .int (nI h_88), .int na_89, .int 0, .int 0])), (aB, .inl (kB, 65536, .inl B)), (aS, .inr (1, [.ref aN, .ref aC])), (aN, .inl (kN, 5, .inl (fun j => nI (cnt2 j)))), (aC, .inl (kC, 52035, .inl cel_90))]) hP hD [0, 4, 5, 1, 2, 3] [] rfl rfl (by decide) (by decide) hk1 hFc hP1 hD1
                    refine zt_tight (hsz1.trans hzs) ?_
                    generalize H1 = H at hP hS ⊢
                    have hP : va_P (dC, dI) vwCl [(aR, .inr (0, [.ref aT, .ref aS])), (aT, .inr (2, [.ref aB, .int (nI 0), .int (nI u), .int (nI h_88), .int na_89, .int 0, .int 0])), (aB, .inl (kB, 65536, .inl B)), (aS, .inr (1, [.ref aN, .ref aC])), (aN, .inl (kN, 5, .inl (fun j => nI (cnt2 j)))), (aC, .inl (kC, 52035, .inl cel_90))] H := hP
                    have hD : va_D A [(aR, .inr (0, [.ref aT, .ref aS])), (aT, .inr (2, [.ref aB, .int (nI 0), .int (nI u), .int (nI h_88), .int na_89, .int 0, .int 0])), (aB, .inl (kB, 65536, .inl B)), (aS, .inr (1, [.ref aN, .ref aC])), (aN, .inl (kN, 5, .inl (fun j => nI (cnt2 j)))), (aC, .inl (kC, 52035, .inl cel_90))] := hD
                    have hw_91i : h_88 ≤ u := zCamera_in hw_91
                    have hpt_99 : zPart B u p2 cnt2 (h_36, cel2) = .ok (cnt2, h_88, cel_90) := by unfold zPart; rw [if_pos c_43, hw_91, zB_ok]
                    refine lv_goto (tgt := 106) hx hb d_Rd_read_85 (by decide) ?_
                    refine lv_iload_n hx hb d_Rd_read_106 rfl (lv_at hl 3 rfl) ?_
                    refine lv_bipush (v := 6) hx hb d_Rd_read_107 (by decide) ?_
                    refine lv_icmp_ge (tgt := 128) hx hb d_Rd_read_109 (by decide) (fun c_100 => ?_) (fun c_100 => ?_)
                    ·
                      have c_100 : 6 ≤ p2 := (@nI_leI 6 p2 (by omega) (by omega)).mp c_100
                      refine lv_iconst (v := 0) hx hb d_Rd_read_128 (by decide) ?_
                      refine lv_istore_n (lv' := [(2, .int 0), (0, .ref aR), (1, .ref aO), (3, .int (nI p2))]) hx hb d_Rd_read_129 rfl hl (by decide) rfl (fun ls hl => ?_)
                      refine lv_iinc (v := nI (p2 + 1)) (lv' := [(3, .int (nI (p2 + 1))), (2, .int 0), (0, .ref aR), (1, .ref aO)]) hx hb d_Rd_read_130 hl (k := 3) rfl (nI_add p2 1) (by decide) rfl (fun ls hl => ?_)
                      refine lv_goto (tgt := 43) hx hb d_Rd_read_133 (by decide) ?_
                      exact ih (p2 + 1) 0 false h_88 na_89 cnt2 cel_90 (Or.inl ⟨rfl, rfl⟩) (by omega) (by omega) (by omega) (fun j h1 h2 => hcz j (by omega) h2) (by rw [hI, zParts_step (by omega), if_neg (by decide)]; simp only [hw_33w, zB_ok, hw_37, hpt_99]; rw [if_neg (fun z => absurd z.1 (by omega))]) _ _ (hP.sub [0, 1, 2, 3, 4, 5] rfl) (hD.sub [0, 1, 2, 3, 4, 5] (by decide) rfl) hS ls (lv_sub hl [2, 3, 1, 0] rfl)
                    ·
                      have c_100 : ¬ (6 ≤ p2) := fun z => c_100 ((@nI_leI 6 p2 (by omega) (by omega)).mpr z)
                      refine lv_aload_n hx hb d_Rd_read_112 rfl (lv_at hl 0 rfl) ?_
                      refine va_get (D := (dC, dI)) (ci := 0) (v := .ref aT) (C := R_Rd) (T := F_Rd) (N := 2) hx hb hz i_Rd hown hK hP 0 rfl rfl 0 (by decide) (hz _ tw_84) (fun _ h9 => h9) rfl d_Rd_read_113 ?_
                      refine lv_bipush (v := 44) hx hb d_Rd_read_116 (by decide) ?_
                      have hPc := hP.sub (ws' := [(aT, .inr (2, [.ref aB, .int (nI 0), .int (nI u), .int (nI h_88), .int na_89, .int 0, .int 0])), (aB, .inl (kB, 65536, .inl B))]) [1, 2] rfl
                      have hDc := hD.sub (ws' := [(aT, .inr (2, [.ref aB, .int (nI 0), .int (nI u), .int (nI h_88), .int na_89, .int 0, .int 0])), (aB, .inl (kB, 65536, .inl B))]) [1, 2] (by decide) rfl
                      have hKc := hK.sub (tys' := [(kB, .byte)]) [0] rfl
                      have hFc := va_free (wc := [(aT, .inr (2, [.ref aB, .int (nI 0), .int (nI u), .int (nI h_88), .int na_89, .int 0, .int 0])), (aB, .inl (kB, 65536, .inl B))]) hD hS hA [1, 2] rfl
                      refine va_calli (va_runV (As := [.int 44]) (rest := []) ⟨hx, hb, hml, hown, hts⟩ (c_Tp_takes l G dC dI H.size aT aB 0 u h_88 na_89 0 0 kB B 44 (by omega) (by omega)) (cwV 1 hts (gV tw_379 tw_380 tw_381 tw_3 tw_382 rfl) rfl rfl rfl (by decide +kernel) ⟨Nat.le_of_ble_eq_true rfl, Nat.le_of_ble_eq_true rfl⟩) (PW_preV hPc hKc hDc hE hS hFc (ci := 2) (q0 := 0) rfl rfl) rfl rfl hl.1 rfl (lv_room (Nat.le_of_ble_eq_true rfl)) d_Rd_read_118 ⟨Nat.le_of_ble_eq_true rfl, Nat.le_of_ble_eq_true rfl⟩) hS (fun q _ h => hFc q h) hFc (fun r_101 uu t H1 locs ht hvm hw_103 hB hz1 hk1 hS => ?_)
                      obtain ⟨h_102, rfl⟩ : ∃ z, z = uu := ⟨_, rfl⟩
                      obtain ⟨hP1, hD1, hsz1⟩ := hB
                      rw [ht] at hP1 hsz1
                      obtain ⟨hP, hD⟩ := va_join (wr := [(aR, .inr (0, [.ref aT, .ref aS])), (aS, .inr (1, [.ref aN, .ref aC])), (aN, .inl (kN, 5, .inl (fun j => nI (cnt2 j)))), (aC, .inl (kC, 52035, .inl cel_90))]) (w1 := [(aT, .inr (2, [.ref aB, .int (nI 0), .int (nI u), .int (nI h_102), .int na_89, .int 0, .int 0])), (aB, .inl (kB, 65536, .inl B))]) hP hD [1, 2] [0, 3, 4, 5] rfl rfl (by decide) (by decide) hk1 hFc hP1 hD1
                      generalize H1 = H at hP hS ⊢
                      have hP : va_P (dC, dI) vwCl [(aR, .inr (0, [.ref aT, .ref aS])), (aS, .inr (1, [.ref aN, .ref aC])), (aN, .inl (kN, 5, .inl (fun j => nI (cnt2 j)))), (aC, .inl (kC, 52035, .inl cel_90)), (aT, .inr (2, [.ref aB, .int (nI 0), .int (nI u), .int (nI h_102), .int na_89, .int 0, .int 0])), (aB, .inl (kB, 65536, .inl B))] H := hP
                      have hD : va_D A [(aR, .inr (0, [.ref aT, .ref aS])), (aS, .inr (1, [.ref aN, .ref aC])), (aN, .inl (kN, 5, .inl (fun j => nI (cnt2 j)))), (aC, .inl (kC, 52035, .inl cel_90)), (aT, .inr (2, [.ref aB, .int (nI 0), .int (nI u), .int (nI h_102), .int na_89, .int 0, .int 0])), (aB, .inl (kB, 65536, .inl B))] := hD
                      by_cases hs_104 : h_88 < u ∧ B h_88 = 44
                      ·
                        obtain ⟨e1, e2⟩ := hw_103
                        rw [if_pos hs_104] at e1 e2; subst e1; have e2 := e2.symm; subst e2
                        have hs_104i := zK_le (B := B) (en := u) (i := h_88 + 1) (by omega)
                        refine lv_if_eq (tgt := 128) hx hb d_Rd_read_121 (by decide) (fun c_105 => ?_) (fun c_105 => ?_)
                        ·
                          exact absurd c_105 (by decide)
                        ·
                          refine lv_iconst (v := 1) hx hb d_Rd_read_124 (by decide) ?_
                          refine lv_goto (tgt := 129) hx hb d_Rd_read_125 (by decide) ?_
                          refine lv_istore_n (lv' := [(2, .int 1), (0, .ref aR), (1, .ref aO), (3, .int (nI p2))]) hx hb d_Rd_read_129 rfl hl (by decide) rfl (fun ls hl => ?_)
                          refine lv_iinc (v := nI (p2 + 1)) (lv' := [(3, .int (nI (p2 + 1))), (2, .int 1), (0, .ref aR), (1, .ref aO)]) hx hb d_Rd_read_130 hl (k := 3) rfl (nI_add p2 1) (by decide) rfl (fun ls hl => ?_)
                          refine lv_goto (tgt := 43) hx hb d_Rd_read_133 (by decide) ?_
                          exact ih (p2 + 1) 1 true (zK B u (h_88 + 1)) na_89 cnt2 cel_90 (Or.inr ⟨rfl, rfl⟩) (by omega) (by omega) (by omega) (fun j h1 h2 => hcz j (by omega) h2) (by rw [hI, zParts_step (by omega), if_neg (by decide)]; simp only [hw_33w, zB_ok, hw_37, hpt_99]; rw [if_pos ⟨by omega, hs_104⟩]) _ _ (hP.sub [0, 4, 5, 1, 2, 3] rfl) (hD.sub [0, 4, 5, 1, 2, 3] (by decide) rfl) hS ls (lv_sub hl [2, 3, 1, 0] rfl)
                      ·
                        obtain ⟨e1, e2⟩ := hw_103
                        rw [if_neg hs_104] at e1 e2; subst e1; have e2 := e2.symm; subst e2
                        refine lv_if_eq (tgt := 128) hx hb d_Rd_read_121 (by decide) (fun c_106 => ?_) (fun c_106 => ?_)
                        ·
                          refine lv_iconst (v := 0) hx hb d_Rd_read_128 (by decide) ?_
                          refine lv_istore_n (lv' := [(2, .int 0), (0, .ref aR), (1, .ref aO), (3, .int (nI p2))]) hx hb d_Rd_read_129 rfl hl (by decide) rfl (fun ls hl => ?_)
                          refine lv_iinc (v := nI (p2 + 1)) (lv' := [(3, .int (nI (p2 + 1))), (2, .int 0), (0, .ref aR), (1, .ref aO)]) hx hb d_Rd_read_130 hl (k := 3) rfl (nI_add p2 1) (by decide) rfl (fun ls hl => ?_)
                          refine lv_goto (tgt := 43) hx hb d_Rd_read_133 (by decide) ?_
                          exact ih (p2 + 1) 0 false h_88 na_89 cnt2 cel_90 (Or.inl ⟨rfl, rfl⟩) (by omega) (by omega) (by omega) (fun j h1 h2 => hcz j (by omega) h2) (by rw [hI, zParts_step (by omega), if_neg (by decide)]; simp only [hw_33w, zB_ok, hw_37, hpt_99]; rw [if_neg (fun z => hs_104 z.2)]) _ _ (hP.sub [0, 4, 5, 1, 2, 3] rfl) (hD.sub [0, 4, 5, 1, 2, 3] (by decide) rfl) hS ls (lv_sub hl [2, 3, 1, 0] rfl)
                        ·
                          exact absurd (by decide) c_106
          ·
            have e9 := e9.symm; subst e9
            refine lv_if_eq (tgt := 130) hx hb d_Rd_read_64 (by decide) (fun c_107 => ?_) (fun c_107 => ?_)
            ·
              refine lv_iinc (v := nI (p2 + 1)) (lv' := [(3, .int (nI (p2 + 1))), (0, .ref aR), (1, .ref aO), (2, .int 1)]) hx hb d_Rd_read_130 hl (k := 3) rfl (nI_add p2 1) (by decide) rfl (fun ls hl => ?_)
              refine lv_goto (tgt := 43) hx hb d_Rd_read_133 (by decide) ?_
              exact ih (p2 + 1) 1 true h2 na2 cnt2 cel2 (Or.inr ⟨rfl, rfl⟩) (by omega) (by omega) (by omega) (fun j h1 h2 => hcz j (by omega) h2) (by rw [hI, zParts_step (by omega), if_neg (by decide)]; simp only [hw_33w]) _ _ (hP.sub [0, 4, 5, 1, 2, 3] rfl) (hD.sub [0, 4, 5, 1, 2, 3] (by decide) rfl) hS ls (lv_sub hl [1, 2, 3, 0] rfl)
            ·
              exact absurd (by decide) c_107
set_option maxHeartbeats 4000000 in
set_option maxRecDepth 100000 in
theorem c_Rd_read (l : Launch) (hst : l.stackTraces = false) (G : ZG) (dC : Nat → ClassId) (dI : Nat → Nat → Nat) (sz : Nat) (aR : Nat) (aT : Nat) (aB : Nat) (u : Nat) (en : Nat) (h : Nat) (na : Int32) (w : Int32) (wa : Int32) (kB : ClassId) (B : Nat → Int32) (aS : Nat) (aN : Nat) (aC : Nat) (kN : ClassId) (cnt : Nat → Nat) (kC : ClassId) (cel : Nat → Int32) (aO : Nat) (hu : u ≤ 65536) : vx_Met l y_Rd_read w_Rd_read ({ frames := 11, cells := 1, slots := 6, locals := 207 }) (va_Pc [.ref aR, .ref aO] (PW G (dC, dI) [(kB, .byte), (kN, .int), (kC, .int)] [(aR, .inr (0, [.ref aT, .ref aS])), (aT, .inr (2, [.ref aB, .int (nI u), .int (nI en), .int (nI h), .int na, .int w, .int wa])), (aB, .inl (kB, 65536, .inl B)), (aS, .inr (1, [.ref aN, .ref aC])), (aN, .inl (kN, 5, .inl (fun j => nI (cnt j)))), (aC, .inl (kC, 52035, .inl cel))] sz)) (va_Qr (fun (uu : Nat × Nat × Nat × Int32 × Int32 × Int32 × (Nat → Nat) × (Nat → Int32) × Nat) => zRead B u (zC0 cnt) (zV0 cel) = .ok (uu.2.2.2.2.2.2.1, uu.2.2.2.2.2.2.2.1) ∧ uu.1 = 0 ∧ uu.2.2.2.2.1 = 0 ∧ uu.2.2.2.2.2.1 = 0 ∧ uu.2.2.2.2.2.2.2.2 = aO) (fun (uu : Nat × Nat × Nat × Int32 × Int32 × Int32 × (Nat → Nat) × (Nat → Int32) × Nat) (ra : Nat) t => ra = aS ∧ BW (dC, dI) [(aR, .inr (0, [.ref aT, .ref uu.2.2.2.2.2.2.2.2])), (aT, .inr (2, [.ref aB, .int (nI uu.1), .int (nI uu.2.1), .int (nI uu.2.2.1), .int uu.2.2.2.1, .int uu.2.2.2.2.1, .int uu.2.2.2.2.2.1])), (aB, .inl (kB, 65536, .inl B)), (aS, .inr (1, [.ref aN, .ref aC])), (aN, .inl (kN, 5, .inl (fun j => nI (uu.2.2.2.2.2.2.1 j)))), (aC, .inl (kC, 52035, .inl uu.2.2.2.2.2.2.2.1))] (va_A [(aR, .inr (0, [.ref aT, .ref aS])), (aT, .inr (2, [.ref aB, .int (nI u), .int (nI en), .int (nI h), .int na, .int w, .int wa])), (aB, .inl (kB, 65536, .inl B)), (aS, .inr (1, [.ref aN, .ref aC])), (aN, .inl (kN, 5, .inl (fun j => nI (cnt j)))), (aC, .inl (kC, 52035, .inl cel))] sz) sz t) (va_A [(aR, .inr (0, [.ref aT, .ref aS])), (aT, .inr (2, [.ref aB, .int (nI u), .int (nI en), .int (nI h), .int na, .int w, .int wa])), (aB, .inl (kB, 65536, .inl B)), (aS, .inr (1, [.ref aN, .ref aC])), (aN, .inl (kN, 5, .inl (fun j => nI (cnt j)))), (aC, .inl (kC, 52035, .inl cel))] sz)) (vx_X (fun (uu : Int32 × Nat × Nat × Int32 × (Nat → Nat) × (Nat → Int32) × Nat × Nat) => zRead B u (zC0 cnt) (zV0 cel) = .error (uu.1, uu.2.1) ∧ uu.2.2.2.2.2.2.1 = 0) (fun E (uu : Int32 × Nat × Nat × Int32 × (Nat → Nat) × (Nat → Int32) × Nat × Nat) t => E = "java/lang/IllegalArgumentException" ∧ va_P (dC, dI) vwCl [(aR, .inr (0, [.ref aT, .ref aS])), (aT, .inr (2, [.ref aB, .int (nI uu.2.2.2.2.2.2.1), .int (nI uu.2.2.2.2.2.2.2), .int (nI uu.2.2.1), .int uu.2.2.2.1, .int uu.1, .int (nI uu.2.1)])), (aB, .inl (kB, 65536, .inl B)), (aS, .inr (1, [.ref aN, .ref aC])), (aN, .inl (kN, 5, .inl (fun j => nI (uu.2.2.2.2.1 j)))), (aC, .inl (kC, 52035, .inl uu.2.2.2.2.2.1))] t.heap ∧ va_D (va_A [(aR, .inr (0, [.ref aT, .ref aS])), (aT, .inr (2, [.ref aB, .int (nI u), .int (nI en), .int (nI h), .int na, .int w, .int wa])), (aB, .inl (kB, 65536, .inl B)), (aS, .inr (1, [.ref aN, .ref aC])), (aN, .inl (kN, 5, .inl (fun j => nI (cnt j)))), (aC, .inl (kC, 52035, .inl cel))] sz) [(aR, .inr (0, [.ref aT, .ref aS])), (aT, .inr (2, [.ref aB, .int (nI uu.2.2.2.2.2.2.1), .int (nI uu.2.2.2.2.2.2.2), .int (nI uu.2.2.1), .int uu.2.2.2.1, .int uu.1, .int (nI uu.2.1)])), (aB, .inl (kB, 65536, .inl B)), (aS, .inr (1, [.ref aN, .ref aC])), (aN, .inl (kN, 5, .inl (fun j => nI (uu.2.2.2.2.1 j)))), (aC, .inl (kC, 52035, .inl uu.2.2.2.2.2.1))]) (va_A [(aR, .inr (0, [.ref aT, .ref aS])), (aT, .inr (2, [.ref aB, .int (nI u), .int (nI en), .int (nI h), .int na, .int w, .int wa])), (aB, .inl (kB, 65536, .inl B)), (aS, .inr (1, [.ref aN, .ref aC])), (aN, .inl (kN, 5, .inl (fun j => nI (cnt j)))), (aC, .inl (kC, 52035, .inl cel))] sz)) 1 6 (va_A [(aR, .inr (0, [.ref aT, .ref aS])), (aT, .inr (2, [.ref aB, .int (nI u), .int (nI en), .int (nI h), .int na, .int w, .int wa])), (aB, .inl (kB, 65536, .inl B)), (aS, .inr (1, [.ref aN, .ref aC])), (aN, .inl (kN, 5, .inl (fun j => nI (cnt j)))), (aC, .inl (kC, 52035, .inl cel))] sz) := by
  refine vx_ofW (cc := prog_2_method_2_code) (maxL := 4) (ret := (some (.object "SceneText$Scene"))) (by decide) rfl ?_
  intro p e s m args below meth c s₁ Bd hml htab hv
  obtain ⟨rfl, hsz, hP, hK, hD0, hE⟩ := hv
  have hx := Bd.exec
  have hb := Bd.bytes
  have hr := Bd.returns
  have hts := atoms_spec (ws := w_Rd_read) Bd.pre
  have hown : s.vm.findClass R_Rd = some m.cls := findClass_of_methodNamed Bd.named
  have hlocks := Bd.notSynchronized
  have hz : ∀ w ∈ ZW, w.before _ s = true := fun w h => hts w (List.mem_cons_of_mem _ h)
  subst hsz
  have hD := hD0.self (sz := s.heap.size)
  generalize hAe : va_A [(aR, .inr (0, [.ref aT, .ref aS])), (aT, .inr (2, [.ref aB, .int (nI u), .int (nI en), .int (nI h), .int na, .int w, .int wa])), (aB, .inl (kB, 65536, .inl B)), (aS, .inr (1, [.ref aN, .ref aC])), (aN, .inl (kN, 5, .inl (fun j => nI (cnt j)))), (aC, .inl (kC, 52035, .inl cel))] s.heap.size = A at hD hE ⊢
  have hA : ∀ q : Nat, s.heap.size ≤ q → A q := fun q h => by rw [← hAe]; exact Or.inr h
  have hS : va_S A s.heap s.heap [] := va_S.rf
  have hl := lv_entry ([.ref aR, .ref aO]) (n := 4) (Nat.le_of_ble_eq_true rfl)
  rw [lg_entry_eq]
  generalize (lg_sl ([.ref aR, .ref aO]) ++ List.replicate (4 - (lg_sl ([.ref aR, .ref aO])).length) Slot.unset).toArray = ls at hl ⊢
  have hl : lv_has ls 4 [(0, .ref aR), (1, .ref aO)] := hl
  obtain ⟨H, hH⟩ : ∃ z, z = s.heap := ⟨_, rfl⟩
  have hP : va_P (dC, dI) vwCl [(aR, .inr (0, [.ref aT, .ref aS])), (aT, .inr (2, [.ref aB, .int (nI u), .int (nI en), .int (nI h), .int na, .int w, .int wa])), (aB, .inl (kB, 65536, .inl B)), (aS, .inr (1, [.ref aN, .ref aC])), (aN, .inl (kN, 5, .inl (fun j => nI (cnt j)))), (aC, .inl (kC, 52035, .inl cel))] H := by rw [hH]; exact hP
  have hS : va_S A s.heap H [] := by rw [hH]; exact hS
  refine zt_heap hH ?_
  refine lv_aload_n hx hb d_Rd_read_0 rfl (lv_at hl 0 rfl) ?_
  refine va_get (D := (dC, dI)) (ci := 0) (v := .ref aT) (C := R_Rd) (T := F_Rd) (N := 2) hx hb hz i_Rd hown hK hP 0 rfl rfl 0 (by decide) (hz _ tw_84) (fun _ h9 => h9) rfl d_Rd_read_1 ?_
  have hPc := hP.sub (ws' := [(aT, .inr (2, [.ref aB, .int (nI u), .int (nI en), .int (nI h), .int na, .int w, .int wa])), (aB, .inl (kB, 65536, .inl B))]) [1, 2] rfl
  have hDc := hD.sub (ws' := [(aT, .inr (2, [.ref aB, .int (nI u), .int (nI en), .int (nI h), .int na, .int w, .int wa])), (aB, .inl (kB, 65536, .inl B))]) [1, 2] (by decide) rfl
  have hKc := hK.sub (tys' := [(kB, .byte)]) [0] rfl
  have hFc := va_free (wc := [(aT, .inr (2, [.ref aB, .int (nI u), .int (nI en), .int (nI h), .int na, .int w, .int wa])), (aB, .inl (kB, 65536, .inl B))]) hD hS hA [1, 2] rfl
  refine va_callv (va_runV (As := []) (rest := []) ⟨hx, hb, hml, hown, hts⟩ (c_Tp_begin l G dC dI H.size aT aB u en h na w wa kB B (by omega)) (cwV 0 hts (gV tw_205 tw_206 tw_207 tw_3 tw_208 rfl) rfl rfl rfl (by decide +kernel) ⟨Nat.le_of_ble_eq_true rfl, Nat.le_of_ble_eq_true rfl⟩) (PW_preV hPc hKc hDc hE hS hFc (ci := 2) (q0 := 0) rfl rfl) rfl rfl hl.1 rfl (lv_room (Nat.le_of_ble_eq_true rfl)) d_Rd_read_4 ⟨Nat.le_of_ble_eq_true rfl, Nat.le_of_ble_eq_true rfl⟩) hS (fun q _ h => hFc q h) hFc (fun uu t H1 locs ht hvm hw_7 hB hz1 hk1 hS => ?_)
  obtain ⟨u_2, en_3, h_4, w_5, wa_6⟩ := uu
  obtain ⟨hP1, hD1, hsz1⟩ := hB
  rw [ht] at hP1 hsz1
  obtain ⟨hP, hD⟩ := va_join (wr := [(aR, .inr (0, [.ref aT, .ref aS])), (aS, .inr (1, [.ref aN, .ref aC])), (aN, .inl (kN, 5, .inl (fun j => nI (cnt j)))), (aC, .inl (kC, 52035, .inl cel))]) (w1 := [(aT, .inr (2, [.ref aB, .int (nI u_2), .int (nI en_3), .int (nI h_4), .int na, .int w_5, .int wa_6])), (aB, .inl (kB, 65536, .inl B))]) hP hD [1, 2] [0, 3, 4, 5] rfl rfl (by decide) (by decide) hk1 hFc hP1 hD1
  generalize H1 = H at hP hS ⊢
  have hP : va_P (dC, dI) vwCl [(aR, .inr (0, [.ref aT, .ref aS])), (aS, .inr (1, [.ref aN, .ref aC])), (aN, .inl (kN, 5, .inl (fun j => nI (cnt j)))), (aC, .inl (kC, 52035, .inl cel)), (aT, .inr (2, [.ref aB, .int (nI u_2), .int (nI en_3), .int (nI h_4), .int na, .int w_5, .int wa_6])), (aB, .inl (kB, 65536, .inl B))] H := hP
  have hD : va_D A [(aR, .inr (0, [.ref aT, .ref aS])), (aS, .inr (1, [.ref aN, .ref aC])), (aN, .inl (kN, 5, .inl (fun j => nI (cnt j)))), (aC, .inl (kC, 52035, .inl cel)), (aT, .inr (2, [.ref aB, .int (nI u_2), .int (nI en_3), .int (nI h_4), .int na, .int w_5, .int wa_6])), (aB, .inl (kB, 65536, .inl B))] := hD
  obtain ⟨e1, e2, e3, e4, e5⟩ := hw_7
  have e1 := e1.symm; subst e1
  have e2 := e2.symm; subst e2
  have e3 := e3.symm; subst e3
  have e4 := e4.symm; subst e4
  have e5 := e5.symm; subst e5
  have hk0 := zK_le (B := B) (en := u) (i := 0) (by omega)
  refine lv_aload_n hx hb d_Rd_read_7 rfl (lv_at hl 0 rfl) ?_
  refine va_get (D := (dC, dI)) (ci := 0) (v := .ref aS) (C := R_Rd) (T := F_Rd) (N := 2) hx hb hz i_Rd hown hK hP 0 rfl rfl 1 (by decide) (hz _ tw_86) (fun _ h9 => h9) rfl d_Rd_read_8 ?_
  have hPc := hP.sub (ws' := [(aS, .inr (1, [.ref aN, .ref aC])), (aN, .inl (kN, 5, .inl (fun j => nI (cnt j)))), (aC, .inl (kC, 52035, .inl cel))]) [1, 2, 3] rfl
  have hDc := hD.sub (ws' := [(aS, .inr (1, [.ref aN, .ref aC])), (aN, .inl (kN, 5, .inl (fun j => nI (cnt j)))), (aC, .inl (kC, 52035, .inl cel))]) [1, 2, 3] (by decide) rfl
  have hKc := hK.sub (tys' := [(kN, .int), (kC, .int)]) [1, 2] rfl
  have hFc := va_free (wc := [(aS, .inr (1, [.ref aN, .ref aC])), (aN, .inl (kN, 5, .inl (fun j => nI (cnt j)))), (aC, .inl (kC, 52035, .inl cel))]) hD hS hA [1, 2, 3] rfl
  refine va_callv (va_runV (As := []) (rest := []) ⟨hx, hb, hml, hown, hts⟩ (c_Sc_clear l G dC dI H.size aS aN aC kN cnt kC cel) (cwV 0 hts (gV tw_213 tw_71 tw_72 tw_4 tw_73 rfl) rfl rfl rfl (by decide +kernel) ⟨Nat.le_of_ble_eq_true rfl, Nat.le_of_ble_eq_true rfl⟩) (PW_preV hPc hKc hDc hE hS hFc (ci := 1) (q0 := 0) rfl rfl) rfl rfl hl.1 rfl (lv_room (Nat.le_of_ble_eq_true rfl)) d_Rd_read_11 ⟨Nat.le_of_ble_eq_true rfl, Nat.le_of_ble_eq_true rfl⟩) hS (fun q _ h => hFc q h) hFc (fun uu t H1 locs ht hvm hw_11 hB hz1 hk1 hS => ?_)
  obtain ⟨cnt_9, cel_10⟩ := uu
  obtain ⟨hP1, hD1, hsz1⟩ := hB
  rw [ht] at hP1 hsz1
  obtain ⟨hP, hD⟩ := va_join (wr := [(aR, .inr (0, [.ref aT, .ref aS])), (aT, .inr (2, [.ref aB, .int (nI 0), .int (nI u), .int (nI (zK B u 0)), .int na, .int 0, .int 0])), (aB, .inl (kB, 65536, .inl B))]) (w1 := [(aS, .inr (1, [.ref aN, .ref aC])), (aN, .inl (kN, 5, .inl (fun j => nI (cnt_9 j)))), (aC, .inl (kC, 52035, .inl cel_10))]) hP hD [1, 2, 3] [0, 4, 5] rfl rfl (by decide) (by decide) hk1 hFc hP1 hD1
  generalize H1 = H at hP hS ⊢
  have hP : va_P (dC, dI) vwCl [(aR, .inr (0, [.ref aT, .ref aS])), (aT, .inr (2, [.ref aB, .int (nI 0), .int (nI u), .int (nI (zK B u 0)), .int na, .int 0, .int 0])), (aB, .inl (kB, 65536, .inl B)), (aS, .inr (1, [.ref aN, .ref aC])), (aN, .inl (kN, 5, .inl (fun j => nI (cnt_9 j)))), (aC, .inl (kC, 52035, .inl cel_10))] H := hP
  have hD : va_D A [(aR, .inr (0, [.ref aT, .ref aS])), (aT, .inr (2, [.ref aB, .int (nI 0), .int (nI u), .int (nI (zK B u 0)), .int na, .int 0, .int 0])), (aB, .inl (kB, 65536, .inl B)), (aS, .inr (1, [.ref aN, .ref aC])), (aN, .inl (kN, 5, .inl (fun j => nI (cnt_9 j)))), (aC, .inl (kC, 52035, .inl cel_10))] := hD
  obtain ⟨e1, e2⟩ := hw_11
  have e1 := e1.symm; subst e1
  have e2 := e2.symm; subst e2
  refine lv_aload_n hx hb d_Rd_read_14 rfl (lv_at hl 0 rfl) ?_
  refine va_get (D := (dC, dI)) (ci := 0) (v := .ref aT) (C := R_Rd) (T := F_Rd) (N := 2) hx hb hz i_Rd hown hK hP 0 rfl rfl 0 (by decide) (hz _ tw_84) (fun _ h9 => h9) rfl d_Rd_read_15 ?_
  refine lv_bipush (v := 123) hx hb d_Rd_read_18 (by decide) ?_
  have hPc := hP.sub (ws' := [(aT, .inr (2, [.ref aB, .int (nI 0), .int (nI u), .int (nI (zK B u 0)), .int na, .int 0, .int 0])), (aB, .inl (kB, 65536, .inl B))]) [1, 2] rfl
  have hDc := hD.sub (ws' := [(aT, .inr (2, [.ref aB, .int (nI 0), .int (nI u), .int (nI (zK B u 0)), .int na, .int 0, .int 0])), (aB, .inl (kB, 65536, .inl B))]) [1, 2] (by decide) rfl
  have hKc := hK.sub (tys' := [(kB, .byte)]) [0] rfl
  have hFc := va_free (wc := [(aT, .inr (2, [.ref aB, .int (nI 0), .int (nI u), .int (nI (zK B u 0)), .int na, .int 0, .int 0])), (aB, .inl (kB, 65536, .inl B))]) hD hS hA [1, 2] rfl
  refine zt_size (fun hzs => ?_)
  refine vx_callv (vx_runV (As := [.int 123]) (rest := []) ⟨hx, hb, hml, hown, hts⟩ (c_Tp_mustTake l hst G dC dI H.size aT aB 0 u (zK B u 0) na 0 0 kB B 123 (by omega) (by omega)) (cwV 1 hts (gV tw_214 tw_215 tw_216 tw_3 tw_217 rfl) rfl rfl rfl (by decide +kernel) ⟨Nat.le_of_ble_eq_true rfl, Nat.le_of_ble_eq_true rfl⟩) (PW_preV hPc hKc hDc hE hS hFc (ci := 2) (q0 := 0) rfl rfl) rfl rfl hl.1 rfl (lv_room (Nat.le_of_ble_eq_true rfl)) d_Rd_read_20 ⟨Nat.le_of_ble_eq_true rfl, Nat.le_of_ble_eq_true rfl⟩) hS (fun q _ h => hFc q h) hFc (fun q _ h => hFc q h) (fun E9 ce9 q9 uu t H1 locs ht hvm hx_19 hB hz1 hk1 hS hce hcv hcl => ?_) (fun uu t H1 locs ht hvm hw_14 hB hz1 hk1 hS => ?_)
  ·
    obtain ⟨w_15, k_16, h_17, na_18⟩ := uu
    obtain ⟨hEn, hP1, hD1⟩ := hB
    rw [ht] at hP1
    obtain ⟨hP, hD⟩ := va_join (wr := [(aR, .inr (0, [.ref aT, .ref aS])), (aS, .inr (1, [.ref aN, .ref aC])), (aN, .inl (kN, 5, .inl (fun j => nI ((zC0 cnt) j)))), (aC, .inl (kC, 52035, .inl (zV0 cel)))]) (w1 := [(aT, .inr (2, [.ref aB, .int (nI 0), .int (nI u), .int (nI h_17), .int na_18, .int w_15, .int (nI k_16)])), (aB, .inl (kB, 65536, .inl B))]) hP hD [1, 2] [0, 3, 4, 5] rfl rfl (by decide) (by decide) hk1 hFc hP1 hD1
    generalize H1 = H at hP hS hce ⊢
    have hP : va_P (dC, dI) vwCl [(aR, .inr (0, [.ref aT, .ref aS])), (aS, .inr (1, [.ref aN, .ref aC])), (aN, .inl (kN, 5, .inl (fun j => nI ((zC0 cnt) j)))), (aC, .inl (kC, 52035, .inl (zV0 cel))), (aT, .inr (2, [.ref aB, .int (nI 0), .int (nI u), .int (nI h_17), .int na_18, .int w_15, .int (nI k_16)])), (aB, .inl (kB, 65536, .inl B))] H := hP
    have hD : va_D A [(aR, .inr (0, [.ref aT, .ref aS])), (aS, .inr (1, [.ref aN, .ref aC])), (aN, .inl (kN, 5, .inl (fun j => nI ((zC0 cnt) j)))), (aC, .inl (kC, 52035, .inl (zV0 cel))), (aT, .inr (2, [.ref aB, .int (nI 0), .int (nI u), .int (nI h_17), .int na_18, .int w_15, .int (nI k_16)])), (aB, .inl (kB, 65536, .inl B))] := hD
    have hP9 := hP.sub (ws' := [(aR, .inr (0, [.ref aT, .ref aS])), (aT, .inr (2, [.ref aB, .int (nI 0), .int (nI u), .int (nI h_17), .int na_18, .int w_15, .int (nI k_16)])), (aB, .inl (kB, 65536, .inl B)), (aS, .inr (1, [.ref aN, .ref aC])), (aN, .inl (kN, 5, .inl (fun j => nI ((zC0 cnt) j)))), (aC, .inl (kC, 52035, .inl (zV0 cel)))]) [0, 4, 5, 1, 2, 3] rfl
    have hD9 := hD.sub (ws' := [(aR, .inr (0, [.ref aT, .ref aS])), (aT, .inr (2, [.ref aB, .int (nI 0), .int (nI u), .int (nI h_17), .int na_18, .int w_15, .int (nI k_16)])), (aB, .inl (kB, 65536, .inl B)), (aS, .inr (1, [.ref aN, .ref aC])), (aN, .inl (kN, 5, .inl (fun j => nI ((zC0 cnt) j)))), (aC, .inl (kC, 52035, .inl (zV0 cel)))]) [0, 4, 5, 1, 2, 3] (by decide) rfl
    exact vx_out (fun x hx => (htab x hx).elim) hlocks hce hcv hcl (fun t ht hvm => ⟨(w_15, k_16, h_17, na_18, zC0 cnt, zV0 cel, 0, u), ⟨by unfold zRead; simp only [zB_er, hx_19], rfl⟩, ⟨hEn, by rw [ht]; exact hP9, hD9⟩, hS.F ht⟩) hS.2.2 (by decide) (by decide)
  ·
    obtain ⟨h_13, rfl⟩ : ∃ z, z = uu := ⟨_, rfl⟩
    obtain ⟨hP1, hD1, hsz1⟩ := hB
    rw [ht] at hP1 hsz1
    obtain ⟨hP, hD⟩ := va_join (wr := [(aR, .inr (0, [.ref aT, .ref aS])), (aS, .inr (1, [.ref aN, .ref aC])), (aN, .inl (kN, 5, .inl (fun j => nI ((zC0 cnt) j)))), (aC, .inl (kC, 52035, .inl (zV0 cel)))]) (w1 := [(aT, .inr (2, [.ref aB, .int (nI 0), .int (nI u), .int (nI h_13), .int na, .int 0, .int 0])), (aB, .inl (kB, 65536, .inl B))]) hP hD [1, 2] [0, 3, 4, 5] rfl rfl (by decide) (by decide) hk1 hFc hP1 hD1
    refine zt_tight (hsz1.trans hzs) ?_
    generalize H1 = H at hP hS ⊢
    have hP : va_P (dC, dI) vwCl [(aR, .inr (0, [.ref aT, .ref aS])), (aS, .inr (1, [.ref aN, .ref aC])), (aN, .inl (kN, 5, .inl (fun j => nI ((zC0 cnt) j)))), (aC, .inl (kC, 52035, .inl (zV0 cel))), (aT, .inr (2, [.ref aB, .int (nI 0), .int (nI u), .int (nI h_13), .int na, .int 0, .int 0])), (aB, .inl (kB, 65536, .inl B))] H := hP
    have hD : va_D A [(aR, .inr (0, [.ref aT, .ref aS])), (aS, .inr (1, [.ref aN, .ref aC])), (aN, .inl (kN, 5, .inl (fun j => nI ((zC0 cnt) j)))), (aC, .inl (kC, 52035, .inl (zV0 cel))), (aT, .inr (2, [.ref aB, .int (nI 0), .int (nI u), .int (nI h_13), .int na, .int 0, .int 0])), (aB, .inl (kB, 65536, .inl B))] := hD
    have hw_14i := zMust_in hw_14
    refine lv_aload_n hx hb d_Rd_read_23 rfl (lv_at hl 0 rfl) ?_
    refine va_get (D := (dC, dI)) (ci := 0) (v := .ref aT) (C := R_Rd) (T := F_Rd) (N := 2) hx hb hz i_Rd hown hK hP 0 rfl rfl 0 (by decide) (hz _ tw_84) (fun _ h9 => h9) rfl d_Rd_read_24 ?_
    refine lv_bipush (v := 125) hx hb d_Rd_read_27 (by decide) ?_
    have hPc := hP.sub (ws' := [(aT, .inr (2, [.ref aB, .int (nI 0), .int (nI u), .int (nI h_13), .int na, .int 0, .int 0])), (aB, .inl (kB, 65536, .inl B))]) [4, 5] rfl
    have hDc := hD.sub (ws' := [(aT, .inr (2, [.ref aB, .int (nI 0), .int (nI u), .int (nI h_13), .int na, .int 0, .int 0])), (aB, .inl (kB, 65536, .inl B))]) [4, 5] (by decide) rfl
    have hKc := hK.sub (tys' := [(kB, .byte)]) [0] rfl
    have hFc := va_free (wc := [(aT, .inr (2, [.ref aB, .int (nI 0), .int (nI u), .int (nI h_13), .int na, .int 0, .int 0])), (aB, .inl (kB, 65536, .inl B))]) hD hS hA [4, 5] rfl
    refine va_calli (va_runV (As := [.int 125]) (rest := []) ⟨hx, hb, hml, hown, hts⟩ (c_Tp_sees l G dC dI H.size aT aB 0 u h_13 na 0 0 kB B 125 (by omega) (by omega)) (cwV 1 hts (gV tw_291 tw_219 tw_220 tw_3 tw_221 rfl) rfl rfl rfl (by decide +kernel) ⟨Nat.le_of_ble_eq_true rfl, Nat.le_of_ble_eq_true rfl⟩) (PW_preV hPc hKc hDc hE hS hFc (ci := 2) (q0 := 0) rfl rfl) rfl rfl hl.1 rfl (lv_room (Nat.le_of_ble_eq_true rfl)) d_Rd_read_29 ⟨Nat.le_of_ble_eq_true rfl, Nat.le_of_ble_eq_true rfl⟩) hS (fun q _ h => hFc q h) hFc (fun r_20 uu t H1 locs ht hvm hw_21 hB hz1 hk1 hS => ?_)
    obtain ⟨hP1, hD1, hsz1⟩ := hB
    rw [ht] at hP1 hsz1
    obtain ⟨hP, hD⟩ := va_join (wr := [(aR, .inr (0, [.ref aT, .ref aS])), (aS, .inr (1, [.ref aN, .ref aC])), (aN, .inl (kN, 5, .inl (fun j => nI ((zC0 cnt) j)))), (aC, .inl (kC, 52035, .inl (zV0 cel)))]) (w1 := [(aT, .inr (2, [.ref aB, .int (nI 0), .int (nI u), .int (nI h_13), .int na, .int 0, .int 0])), (aB, .inl (kB, 65536, .inl B))]) hP hD [4, 5] [0, 1, 2, 3] rfl rfl (by decide) (by decide) hk1 hFc hP1 hD1
    generalize H1 = H at hP hS ⊢
    have hP : va_P (dC, dI) vwCl [(aR, .inr (0, [.ref aT, .ref aS])), (aS, .inr (1, [.ref aN, .ref aC])), (aN, .inl (kN, 5, .inl (fun j => nI ((zC0 cnt) j)))), (aC, .inl (kC, 52035, .inl (zV0 cel))), (aT, .inr (2, [.ref aB, .int (nI 0), .int (nI u), .int (nI h_13), .int na, .int 0, .int 0])), (aB, .inl (kB, 65536, .inl B))] H := hP
    have hD : va_D A [(aR, .inr (0, [.ref aT, .ref aS])), (aS, .inr (1, [.ref aN, .ref aC])), (aN, .inl (kN, 5, .inl (fun j => nI ((zC0 cnt) j)))), (aC, .inl (kC, 52035, .inl (zV0 cel))), (aT, .inr (2, [.ref aB, .int (nI 0), .int (nI u), .int (nI h_13), .int na, .int 0, .int 0])), (aB, .inl (kB, 65536, .inl B))] := hD
    by_cases hs_22 : h_13 < u ∧ B h_13 = 125
    ·
      rw [if_pos hs_22] at hw_21; subst hw_21
      refine lv_if_ne (tgt := 39) hx hb d_Rd_read_32 (by decide) (fun c_23 => ?_) (fun c_23 => ?_)
      ·
        refine lv_iconst (v := 0) hx hb d_Rd_read_39 (by decide) ?_
        refine lv_istore_n (lv' := [(2, .int 0), (0, .ref aR), (1, .ref aO)]) hx hb d_Rd_read_40 rfl hl (by decide) rfl (fun ls hl => ?_)
        refine lv_iconst (v := 0) hx hb d_Rd_read_41 (by decide) ?_
        refine lv_istore_n (lv' := [(3, .int 0), (2, .int 0), (0, .ref aR), (1, .ref aO)]) hx hb d_Rd_read_42 rfl hl (by decide) rfl (fun ls hl => ?_)
        exact lp_Rd_read l hst G dC dI aR aT aB u en h na w wa kB B aS aN aC kN cnt kC cel aO hu ⟨hx, hb, hr, hml, hown, hts, hlocks⟩ hA hK hE htab 8 0 0 false h_13 na (zC0 cnt) (zV0 cel) (Or.inl ⟨rfl, rfl⟩) (by omega) (by omega) (by omega) (fun j _ h => zC0_z h) (by unfold zRead; simp only [zB_ok, hw_14]; rw [if_pos hs_22]) _ _ (hP.sub [0, 4, 5, 1, 2, 3] rfl) (hD.sub [0, 4, 5, 1, 2, 3] (by decide) rfl) hS ls (lv_sub hl [2, 3, 1, 0] rfl)
      ·
        exact absurd c_23 (by decide)
    ·
      rw [if_neg hs_22] at hw_21; subst hw_21
      refine lv_if_ne (tgt := 39) hx hb d_Rd_read_32 (by decide) (fun c_24 => ?_) (fun c_24 => ?_)
      ·
        exact absurd (by decide) c_24
      ·
        refine lv_iconst (v := 1) hx hb d_Rd_read_35 (by decide) ?_
        refine lv_goto (tgt := 40) hx hb d_Rd_read_36 (by decide) ?_
        refine lv_istore_n (lv' := [(2, .int 1), (0, .ref aR), (1, .ref aO)]) hx hb d_Rd_read_40 rfl hl (by decide) rfl (fun ls hl => ?_)
        refine lv_iconst (v := 0) hx hb d_Rd_read_41 (by decide) ?_
        refine lv_istore_n (lv' := [(3, .int 0), (2, .int 1), (0, .ref aR), (1, .ref aO)]) hx hb d_Rd_read_42 rfl hl (by decide) rfl (fun ls hl => ?_)
        exact lp_Rd_read l hst G dC dI aR aT aB u en h na w wa kB B aS aN aC kN cnt kC cel aO hu ⟨hx, hb, hr, hml, hown, hts, hlocks⟩ hA hK hE htab 8 0 1 true h_13 na (zC0 cnt) (zV0 cel) (Or.inr ⟨rfl, rfl⟩) (by omega) (by omega) (by omega) (fun j _ h => zC0_z h) (by unfold zRead; simp only [zB_ok, hw_14]; rw [if_neg hs_22]) _ _ (hP.sub [0, 4, 5, 1, 2, 3] rfl) (hD.sub [0, 4, 5, 1, 2, 3] (by decide) rfl) hS ls (lv_sub hl [2, 3, 1, 0] rfl)
