set_option maxHeartbeats 8000000 in
set_option maxRecDepth 100000 in
/-- the law, from its entry -/
theorem whole_start {p : Program} {e : Env} {s : State} {m : MethodId} {below : List Frame} {meth : Method} {c : Code} (l : Launch) (hst : l.stackTraces = false) {b L : Nat} {xs : Nat → Int32} (hL : L ≤ 3072) (C0 : lw_At p s m meth c b L xs) : W p l e room_1 s m #[Value.ref b] below meth c s.heap [] 0 0 (lw_Z below #[Value.ref b] s) (entryFrame m ([Value.ref b] : List Value).toArray 7) := by
  obtain ⟨hx, hb, hr, hml, hown, hts0, hX, hbl, hlocks, hgv⟩ := id C0
  have hz : ∀ w ∈ ZW, w.before #[Value.ref b] s = true := fun w h => hts0 w (List.mem_filter.mp h).1
  have hts : ∀ w ∈ (Cond.initialized "SceneTextLaw" :: ZW), w.before #[Value.ref b] s = true := fun w h => (List.mem_cons.mp h).elim (fun q9 => by rw [q9]; exact hz _ tw_0) (hz w)
  obtain ⟨G, hE⟩ := zE_start hts0 hgv
  obtain ⟨c0, iS0, hKn0⟩ := u_known (C := R_Rd) (T := F_Rd) (N := 2) (n := 2) hz i_Rd (hz _ tw_23)
  obtain ⟨c1, iS1, hKn1⟩ := u_known (C := R_Sc) (T := F_Sc) (N := 2) (n := 2) hz i_Sc (hz _ tw_64)
  obtain ⟨c2, iS2, hKn2⟩ := u_known (C := R_Tp) (T := F_Tp) (N := 7) (n := 7) hz i_Tp (hz _ tw_29)
  obtain ⟨c3, iS3, hKn3⟩ := u_known (C := R_St) (T := F_St) (N := 2) (n := 2) hz i_St (hz _ tw_15)
  obtain ⟨c4, iS4, hKn4⟩ := u_known (C := R_Md) (T := F_Md) (N := 12) (n := 12) hz i_Md (hz _ tw_461)
  obtain ⟨dC, dI, hKc⟩ : ∃ (dC : Nat → ClassId) (dI : Nat → Nat → Nat), ∀ (k : Nat) (q : vw_C), vwCl[k]? = some q → u_Kn s q.1 q.2.1 q.2.2 (dC k) (dI k) := by
    refine ⟨fun k => if k = 0 then c0 else if k = 1 then c1 else if k = 2 then c2 else if k = 3 then c3 else c4, fun k => if k = 0 then iS0 else if k = 1 then iS1 else if k = 2 then iS2 else if k = 3 then iS3 else iS4, ?_⟩
    intro k q hq
    match k, hq with
    | 0, hq => cases hq; exact hKn0
    | 1, hq => cases hq; exact hKn1
    | 2, hq => cases hq; exact hKn2
    | 3, hq => cases hq; exact hKn3
    | 4, hq => cases hq; exact hKn4
    | k + 5, hq => simp [vwCl] at hq
  obtain ⟨A, hAe⟩ : ∃ A : Nat → Prop, A = (fun q : Nat => s.heap.size ≤ q) := ⟨_, rfl⟩
  rw [← hAe] at hE
  have hA : ∀ q : Nat, s.heap.size ≤ q → A q := fun q h => by rw [hAe]; exact h
  have hS : va_S A s.heap s.heap [] := va_S.rf
  have hK : va_K (dC, dI) vwCl [] s := ⟨hKc, fun k q h => by simp at h⟩
  have hP : va_P (dC, dI) vwCl [] s.heap := fun k q h => by simp at h
  have hD : va_D A [] := ⟨fun i j p q h => by simp at h, fun k q h => by simp at h⟩
  have hl := lv_entry ([.ref b]) (n := 7) (Nat.le_of_ble_eq_true rfl)
  rw [lg_entry_eq]
  generalize (lg_sl ([.ref b]) ++ List.replicate (7 - (lg_sl ([.ref b])).length) Slot.unset).toArray = ls at hl ⊢
  have hl : lv_has ls 7 [(0, .ref b)] := hl
  obtain ⟨H, hH⟩ : ∃ z, z = s.heap := ⟨_, rfl⟩
  have hP : va_P (dC, dI) vwCl [] H := by rw [hH]; exact hP
  have hS : va_S A s.heap H [] := by rw [hH]; exact hS
  refine zt_heap hH ?_
  refine va_new (ci := 3) (fs := [.null, .null]) (C := R_St) (T := F_St) (N := 2) hx hb hz i_St t_St t_St_ok hown (hz _ tw_14) (hz _ tw_15) (hz _ tw_1) hK hP hD hS hA rfl (fun j hj => by rcases (show j = 0 ∨ j = 1 by omega) with rfl | rfl <;> rfl) (Nat.le_of_ble_eq_true rfl) (Nat.le_of_ble_eq_true rfl) d_law_0 (fun q_1 H hP hD hS => ?_)
  have hP : va_P (dC, dI) vwCl [(q_1, .inr (3, [.null, .null]))] H := hP
  have hD : va_D A [(q_1, .inr (3, [.null, .null]))] := hD
  refine lv_dup hx hb d_law_3 rfl ?_
  have hPc := hP.sub (ws' := [(q_1, .inr (3, [.null, .null]))]) [0] rfl
  have hDc := hD.sub (ws' := [(q_1, .inr (3, [.null, .null]))]) [0] (by decide) rfl
  have hKc := hK.sub (tys' := []) [] rfl
  have hFc := va_free (wc := [(q_1, .inr (3, [.null, .null]))]) hD hS hA [0] rfl
  refine va_callv (va_runI (As := []) (rest := [.ref q_1]) ⟨hx, hb, hml, hown, hts⟩ (c_St_init l G dC dI H.size q_1) (cwI 0 hts (gI tw_18) rfl rfl rfl (hz _ tw_1) (hz _ tw_16) (hz _ tw_17) rfl (by decide +kernel) ⟨Nat.le_of_ble_eq_true rfl, Nat.le_of_ble_eq_true rfl⟩) (PW_preS hPc hKc hDc hE hS hFc) rfl rfl hl.1 rfl (lv_room (Nat.le_of_ble_eq_true rfl)) d_law_4 ⟨Nat.le_of_ble_eq_true rfl, Nat.le_of_ble_eq_true rfl⟩) hS (fun q _ h => hFc q h) hFc (fun uu t H1 locs ht hvm hw hB hz1 hk1 hS => ?_)
  obtain ⟨aR_2, aT_3, aB_4, kB_5, aS_6, aN_7, kN_8, aC_9, kC_10, aS2_11, aN2_12, kN2_13, aC2_14, kC2_15⟩ := uu
  obtain ⟨hP1, hD1, hK1⟩ := hB
  rw [ht] at hP1
  have hK1 := va_K.moved hvm.symm hK1
  obtain ⟨hP, hD⟩ := va_join (wr := []) (w1 := [(q_1, .inr (3, [.ref aR_2, .ref aS2_11])), (aR_2, .inr (0, [.ref aT_3, .ref aS_6])), (aT_3, .inr (2, [.ref aB_4, .int (nI 0), .int (nI 0), .int (nI 0), .int 0, .int 0, .int 0])), (aB_4, .inl (kB_5, 65536, .inl (fun _ => 0))), (aS_6, .inr (1, [.ref aN_7, .ref aC_9])), (aN_7, .inl (kN_8, 5, .inl (fun j => nI ((zC0 (fun _ => 0)) j)))), (aC_9, .inl (kC_10, 52035, .inl (zV0 (fun _ => 0)))), (aS2_11, .inr (1, [.ref aN2_12, .ref aC2_14])), (aN2_12, .inl (kN2_13, 5, .inl (fun j => nI ((zC0 (fun _ => 0)) j)))), (aC2_14, .inl (kC2_15, 52035, .inl (zV0 (fun _ => 0))))]) hP hD [0] [] rfl rfl (by decide) (by decide) hk1 hFc hP1 hD1
  have hK := (hK.sub (tys' := []) [] rfl).app hK1
  generalize H1 = H at hP hS ⊢
  have hP : va_P (dC, dI) vwCl [(q_1, .inr (3, [.ref aR_2, .ref aS2_11])), (aR_2, .inr (0, [.ref aT_3, .ref aS_6])), (aT_3, .inr (2, [.ref aB_4, .int (nI 0), .int (nI 0), .int (nI 0), .int 0, .int 0, .int 0])), (aB_4, .inl (kB_5, 65536, .inl (fun _ => 0))), (aS_6, .inr (1, [.ref aN_7, .ref aC_9])), (aN_7, .inl (kN_8, 5, .inl (fun j => nI ((zC0 (fun _ => 0)) j)))), (aC_9, .inl (kC_10, 52035, .inl (zV0 (fun _ => 0)))), (aS2_11, .inr (1, [.ref aN2_12, .ref aC2_14])), (aN2_12, .inl (kN2_13, 5, .inl (fun j => nI ((zC0 (fun _ => 0)) j)))), (aC2_14, .inl (kC2_15, 52035, .inl (zV0 (fun _ => 0))))] H := hP
  have hD : va_D A [(q_1, .inr (3, [.ref aR_2, .ref aS2_11])), (aR_2, .inr (0, [.ref aT_3, .ref aS_6])), (aT_3, .inr (2, [.ref aB_4, .int (nI 0), .int (nI 0), .int (nI 0), .int 0, .int 0, .int 0])), (aB_4, .inl (kB_5, 65536, .inl (fun _ => 0))), (aS_6, .inr (1, [.ref aN_7, .ref aC_9])), (aN_7, .inl (kN_8, 5, .inl (fun j => nI ((zC0 (fun _ => 0)) j)))), (aC_9, .inl (kC_10, 52035, .inl (zV0 (fun _ => 0)))), (aS2_11, .inr (1, [.ref aN2_12, .ref aC2_14])), (aN2_12, .inl (kN2_13, 5, .inl (fun j => nI ((zC0 (fun _ => 0)) j)))), (aC2_14, .inl (kC2_15, 52035, .inl (zV0 (fun _ => 0))))] := hD
  have hK : va_K (dC, dI) vwCl [(kB_5, .byte), (kN_8, .int), (kC_10, .int), (kN2_13, .int), (kC2_15, .int)] s := hK
  refine lv_astore_n (lv' := [(1, .ref q_1), (0, .ref b)]) hx hb d_law_7 rfl hl (by decide) rfl (fun ls hl => ?_)
  refine va_new (ci := 4) (fs := [.int 0, .null, .int (nI 0), .null, .null, .int 0, .int 0, .int (nI 0), .int (nI 0), .long 0, .int 0, .int 0]) (C := R_Md) (T := F_Md) (N := 12) hx hb hz i_Md t_Md t_Md_ok hown (hz _ tw_460) (hz _ tw_461) (hz _ tw_5) hK hP hD hS hA rfl (fun j hj => by rcases (show j = 0 ∨ j = 1 ∨ j = 2 ∨ j = 3 ∨ j = 4 ∨ j = 5 ∨ j = 6 ∨ j = 7 ∨ j = 8 ∨ j = 9 ∨ j = 10 ∨ j = 11 by omega) with rfl | rfl | rfl | rfl | rfl | rfl | rfl | rfl | rfl | rfl | rfl | rfl <;> rfl) (Nat.le_of_ble_eq_true rfl) (Nat.le_of_ble_eq_true rfl) d_law_8 (fun q_16 H hP hD hS => ?_)
  have hP : va_P (dC, dI) vwCl [(q_1, .inr (3, [.ref aR_2, .ref aS2_11])), (aR_2, .inr (0, [.ref aT_3, .ref aS_6])), (aT_3, .inr (2, [.ref aB_4, .int (nI 0), .int (nI 0), .int (nI 0), .int 0, .int 0, .int 0])), (aB_4, .inl (kB_5, 65536, .inl (fun _ => 0))), (aS_6, .inr (1, [.ref aN_7, .ref aC_9])), (aN_7, .inl (kN_8, 5, .inl (fun j => nI ((zC0 (fun _ => 0)) j)))), (aC_9, .inl (kC_10, 52035, .inl (zV0 (fun _ => 0)))), (aS2_11, .inr (1, [.ref aN2_12, .ref aC2_14])), (aN2_12, .inl (kN2_13, 5, .inl (fun j => nI ((zC0 (fun _ => 0)) j)))), (aC2_14, .inl (kC2_15, 52035, .inl (zV0 (fun _ => 0)))), (q_16, .inr (4, [.int 0, .null, .int (nI 0), .null, .null, .int 0, .int 0, .int (nI 0), .int (nI 0), .long 0, .int 0, .int 0]))] H := hP
  have hD : va_D A [(q_1, .inr (3, [.ref aR_2, .ref aS2_11])), (aR_2, .inr (0, [.ref aT_3, .ref aS_6])), (aT_3, .inr (2, [.ref aB_4, .int (nI 0), .int (nI 0), .int (nI 0), .int 0, .int 0, .int 0])), (aB_4, .inl (kB_5, 65536, .inl (fun _ => 0))), (aS_6, .inr (1, [.ref aN_7, .ref aC_9])), (aN_7, .inl (kN_8, 5, .inl (fun j => nI ((zC0 (fun _ => 0)) j)))), (aC_9, .inl (kC_10, 52035, .inl (zV0 (fun _ => 0)))), (aS2_11, .inr (1, [.ref aN2_12, .ref aC2_14])), (aN2_12, .inl (kN2_13, 5, .inl (fun j => nI ((zC0 (fun _ => 0)) j)))), (aC2_14, .inl (kC2_15, 52035, .inl (zV0 (fun _ => 0)))), (q_16, .inr (4, [.int 0, .null, .int (nI 0), .null, .null, .int 0, .int 0, .int (nI 0), .int (nI 0), .long 0, .int 0, .int 0]))] := hD
  refine lv_dup hx hb d_law_11 rfl ?_
  have hPc := hP.sub (ws' := [(q_16, .inr (4, [.int 0, .null, .int (nI 0), .null, .null, .int 0, .int 0, .int (nI 0), .int (nI 0), .long 0, .int 0, .int 0]))]) [10] rfl
  have hDc := hD.sub (ws' := [(q_16, .inr (4, [.int 0, .null, .int (nI 0), .null, .null, .int 0, .int 0, .int (nI 0), .int (nI 0), .long 0, .int 0, .int 0]))]) [10] (by decide) rfl
  have hKc := hK.sub (tys' := []) [] rfl
  have hFc := va_free (wc := [(q_16, .inr (4, [.int 0, .null, .int (nI 0), .null, .null, .int 0, .int 0, .int (nI 0), .int (nI 0), .long 0, .int 0, .int 0]))]) hD hS hA [10] rfl
  refine va_callv (va_runI (As := []) (rest := [.ref q_16]) ⟨hx, hb, hml, hown, hts⟩ (c_Md_init l G dC dI H.size q_16) (cwI 0 hts (gI tw_464) rfl rfl rfl (hz _ tw_5) (hz _ tw_462) (hz _ tw_463) rfl (by decide +kernel) ⟨Nat.le_of_ble_eq_true rfl, Nat.le_of_ble_eq_true rfl⟩) (PW_preS hPc hKc hDc hE hS hFc) rfl rfl hl.1 rfl (lv_room (Nat.le_of_ble_eq_true rfl)) d_law_12 ⟨Nat.le_of_ble_eq_true rfl, Nat.le_of_ble_eq_true rfl⟩) hS (fun q _ h => hFc q h) hFc (fun uu t H1 locs ht hvm hw hB hz1 hk1 hS => ?_)
  obtain ⟨aMT_17, kMT_18, aNw_19, kNw_20, aNx_21, kNx_22⟩ := uu
  obtain ⟨hP1, hD1, hK1⟩ := hB
  rw [ht] at hP1
  have hK1 := va_K.moved hvm.symm hK1
  obtain ⟨hP, hD⟩ := va_join (wr := [(q_1, .inr (3, [.ref aR_2, .ref aS2_11])), (aR_2, .inr (0, [.ref aT_3, .ref aS_6])), (aT_3, .inr (2, [.ref aB_4, .int (nI 0), .int (nI 0), .int (nI 0), .int 0, .int 0, .int 0])), (aB_4, .inl (kB_5, 65536, .inl (fun _ => 0))), (aS_6, .inr (1, [.ref aN_7, .ref aC_9])), (aN_7, .inl (kN_8, 5, .inl (fun j => nI ((zC0 (fun _ => 0)) j)))), (aC_9, .inl (kC_10, 52035, .inl (zV0 (fun _ => 0)))), (aS2_11, .inr (1, [.ref aN2_12, .ref aC2_14])), (aN2_12, .inl (kN2_13, 5, .inl (fun j => nI ((zC0 (fun _ => 0)) j)))), (aC2_14, .inl (kC2_15, 52035, .inl (zV0 (fun _ => 0))))]) (w1 := [(q_16, .inr (4, [.int 0, .ref aMT_17, .int (nI 0), .ref aNx_21, .ref aNw_19, .int 0, .int 0, .int (nI 0), .int (nI 0), .long 0, .int 0, .int 0])), (aMT_17, .inl (kMT_18, 65536, .inl (fun _ => 0))), (aNw_19, .inl (kNw_20, 52650, .inl (fun _ => 0))), (aNx_21, .inl (kNx_22, 52650, .inl (zN (fun _ => 0))))]) hP hD [10] [0, 1, 2, 3, 4, 5, 6, 7, 8, 9] rfl rfl (by decide) (by decide) hk1 hFc hP1 hD1
  have hK := (hK.sub (tys' := [(kB_5, .byte), (kN_8, .int), (kC_10, .int), (kN2_13, .int), (kC2_15, .int)]) [0, 1, 2, 3, 4] rfl).app hK1
  generalize H1 = H at hP hS ⊢
  have hP : va_P (dC, dI) vwCl [(q_1, .inr (3, [.ref aR_2, .ref aS2_11])), (aR_2, .inr (0, [.ref aT_3, .ref aS_6])), (aT_3, .inr (2, [.ref aB_4, .int (nI 0), .int (nI 0), .int (nI 0), .int 0, .int 0, .int 0])), (aB_4, .inl (kB_5, 65536, .inl (fun _ => 0))), (aS_6, .inr (1, [.ref aN_7, .ref aC_9])), (aN_7, .inl (kN_8, 5, .inl (fun j => nI ((zC0 (fun _ => 0)) j)))), (aC_9, .inl (kC_10, 52035, .inl (zV0 (fun _ => 0)))), (aS2_11, .inr (1, [.ref aN2_12, .ref aC2_14])), (aN2_12, .inl (kN2_13, 5, .inl (fun j => nI ((zC0 (fun _ => 0)) j)))), (aC2_14, .inl (kC2_15, 52035, .inl (zV0 (fun _ => 0)))), (q_16, .inr (4, [.int 0, .ref aMT_17, .int (nI 0), .ref aNx_21, .ref aNw_19, .int 0, .int 0, .int (nI 0), .int (nI 0), .long 0, .int 0, .int 0])), (aMT_17, .inl (kMT_18, 65536, .inl (fun _ => 0))), (aNw_19, .inl (kNw_20, 52650, .inl (fun _ => 0))), (aNx_21, .inl (kNx_22, 52650, .inl (zN (fun _ => 0))))] H := hP
  have hD : va_D A [(q_1, .inr (3, [.ref aR_2, .ref aS2_11])), (aR_2, .inr (0, [.ref aT_3, .ref aS_6])), (aT_3, .inr (2, [.ref aB_4, .int (nI 0), .int (nI 0), .int (nI 0), .int 0, .int 0, .int 0])), (aB_4, .inl (kB_5, 65536, .inl (fun _ => 0))), (aS_6, .inr (1, [.ref aN_7, .ref aC_9])), (aN_7, .inl (kN_8, 5, .inl (fun j => nI ((zC0 (fun _ => 0)) j)))), (aC_9, .inl (kC_10, 52035, .inl (zV0 (fun _ => 0)))), (aS2_11, .inr (1, [.ref aN2_12, .ref aC2_14])), (aN2_12, .inl (kN2_13, 5, .inl (fun j => nI ((zC0 (fun _ => 0)) j)))), (aC2_14, .inl (kC2_15, 52035, .inl (zV0 (fun _ => 0)))), (q_16, .inr (4, [.int 0, .ref aMT_17, .int (nI 0), .ref aNx_21, .ref aNw_19, .int 0, .int 0, .int (nI 0), .int (nI 0), .long 0, .int 0, .int 0])), (aMT_17, .inl (kMT_18, 65536, .inl (fun _ => 0))), (aNw_19, .inl (kNw_20, 52650, .inl (fun _ => 0))), (aNx_21, .inl (kNx_22, 52650, .inl (zN (fun _ => 0))))] := hD
  have hK : va_K (dC, dI) vwCl [(kB_5, .byte), (kN_8, .int), (kC_10, .int), (kN2_13, .int), (kC2_15, .int), (kMT_18, .byte), (kNw_20, .int), (kNx_22, .int)] s := hK
  refine lv_astore_n (lv' := [(2, .ref q_16), (1, .ref q_1), (0, .ref b)]) hx hb d_law_15 rfl hl (by decide) rfl (fun ls hl => ?_)
  refine lv_iconst (v := 1) hx hb d_law_16 (by decide) ?_
  refine va_newa (atype := .long) (ty := .long) (N' := 1) (a0 := (1, .inr (.inl (fun _ => 0)))) hx hb (hz _ tw_704) rfl hK hP hD hS hA (fun _ => rfl) (by decide) (by decide) (by decide) (Nat.le_of_ble_eq_true rfl) (Nat.le_of_ble_eq_true rfl) d_law_17 (fun q_23 ck_24 H hK hP hD hS => ?_)
  have hP : va_P (dC, dI) vwCl [(q_1, .inr (3, [.ref aR_2, .ref aS2_11])), (aR_2, .inr (0, [.ref aT_3, .ref aS_6])), (aT_3, .inr (2, [.ref aB_4, .int (nI 0), .int (nI 0), .int (nI 0), .int 0, .int 0, .int 0])), (aB_4, .inl (kB_5, 65536, .inl (fun _ => 0))), (aS_6, .inr (1, [.ref aN_7, .ref aC_9])), (aN_7, .inl (kN_8, 5, .inl (fun j => nI ((zC0 (fun _ => 0)) j)))), (aC_9, .inl (kC_10, 52035, .inl (zV0 (fun _ => 0)))), (aS2_11, .inr (1, [.ref aN2_12, .ref aC2_14])), (aN2_12, .inl (kN2_13, 5, .inl (fun j => nI ((zC0 (fun _ => 0)) j)))), (aC2_14, .inl (kC2_15, 52035, .inl (zV0 (fun _ => 0)))), (q_16, .inr (4, [.int 0, .ref aMT_17, .int (nI 0), .ref aNx_21, .ref aNw_19, .int 0, .int 0, .int (nI 0), .int (nI 0), .long 0, .int 0, .int 0])), (aMT_17, .inl (kMT_18, 65536, .inl (fun _ => 0))), (aNw_19, .inl (kNw_20, 52650, .inl (fun _ => 0))), (aNx_21, .inl (kNx_22, 52650, .inl (zN (fun _ => 0)))), (q_23, .inl (ck_24, 1, .inr (.inl (fun _ => 0))))] H := hP
  have hD : va_D A [(q_1, .inr (3, [.ref aR_2, .ref aS2_11])), (aR_2, .inr (0, [.ref aT_3, .ref aS_6])), (aT_3, .inr (2, [.ref aB_4, .int (nI 0), .int (nI 0), .int (nI 0), .int 0, .int 0, .int 0])), (aB_4, .inl (kB_5, 65536, .inl (fun _ => 0))), (aS_6, .inr (1, [.ref aN_7, .ref aC_9])), (aN_7, .inl (kN_8, 5, .inl (fun j => nI ((zC0 (fun _ => 0)) j)))), (aC_9, .inl (kC_10, 52035, .inl (zV0 (fun _ => 0)))), (aS2_11, .inr (1, [.ref aN2_12, .ref aC2_14])), (aN2_12, .inl (kN2_13, 5, .inl (fun j => nI ((zC0 (fun _ => 0)) j)))), (aC2_14, .inl (kC2_15, 52035, .inl (zV0 (fun _ => 0)))), (q_16, .inr (4, [.int 0, .ref aMT_17, .int (nI 0), .ref aNx_21, .ref aNw_19, .int 0, .int 0, .int (nI 0), .int (nI 0), .long 0, .int 0, .int 0])), (aMT_17, .inl (kMT_18, 65536, .inl (fun _ => 0))), (aNw_19, .inl (kNw_20, 52650, .inl (fun _ => 0))), (aNx_21, .inl (kNx_22, 52650, .inl (zN (fun _ => 0)))), (q_23, .inl (ck_24, 1, .inr (.inl (fun _ => 0))))] := hD
  have hK : va_K (dC, dI) vwCl [(kB_5, .byte), (kN_8, .int), (kC_10, .int), (kN2_13, .int), (kC2_15, .int), (kMT_18, .byte), (kNw_20, .int), (kNx_22, .int), (ck_24, .long)] s := hK
  refine lv_astore_n (lv' := [(3, .ref q_23), (2, .ref q_16), (1, .ref q_1), (0, .ref b)]) hx hb d_law_19 rfl hl (by decide) rfl (fun ls hl => ?_)
  refine lv_iconst (v := 0) hx hb d_law_20 (by decide) ?_
  refine lv_istore (lv' := [(4, .int 0), (3, .ref q_23), (2, .ref q_16), (1, .ref q_1), (0, .ref b)]) hx hb d_law_21 hl (by decide) rfl (fun ls hl => ?_)
  refine W.widen (k := 15 + 0) (n := 340480 + 6 * 0) (Nat.le_of_ble_eq_true rfl) (Nat.le_of_ble_eq_true rfl) ?_
  subst hAe
  exact law_loop hst hL C0 hE (L + 1) 0 q_1 aR_2 aT_3 aB_4 0 0 0 0 0 0 kB_5 (fun _ => 0) aS_6 aN_7 aC_9 kN_8 (zC0 (fun _ => 0)) kC_10 (zV0 (fun _ => 0)) aS2_11 aN2_12 aC2_14 kN2_13 (zC0 (fun _ => 0)) kC2_15 (zV0 (fun _ => 0)) q_16 0 aMT_17 0 0 0 0 0 kMT_18 aNx_21 kNx_22 (zN (fun _ => 0)) aNw_19 kNw_20 (fun _ => 0) q_23 ck_24 (fun _ => 0) (by omega) (by omega) (by omega) (zN_good (fun _ hj => zC0_z hj)) _ _ (hK.sub [0, 1, 2, 3, 4, 5, 7, 6, 8] rfl) (hP.sub [0, 1, 2, 3, 4, 5, 6, 7, 8, 9, 10, 11, 13, 12, 14] rfl) (hD.sub [0, 1, 2, 3, 4, 5, 6, 7, 8, 9, 10, 11, 13, 12, 14] (by decide) rfl) hS ls (lv_sub hl [4, 3, 2, 1, 0] rfl)
