set_option maxHeartbeats 4000000 in
set_option maxRecDepth 100000 in
theorem c_Md_thing (l : Launch) (G : ZG) (dC : Nat → ClassId) (dI : Nat → Nat → Nat) (sz : Nat) (aM : Nat) (th : Int32) (aMT : Nat) (mu : Nat) (aNw : Nat) (aNx : Nat) (mw : Int32) (mwa : Int32) (ma : Nat) (en : Nat) (mv : Int64) (mf : Int32) (ml : Int32) (kMT : ClassId) (B : Nat → Int32) (kNx : ClassId) (nx : Nat → Int32) (cnt : Nat → Nat) (ka : Nat) (kk : Nat) (hen : en ≤ 65536) (hma : ma ≤ en) (hka : ka < 5) (hkk : kk ≤ zM ka) (hbr : kk = zM ka → ¬ (zK B en ma < en ∧ B (zK B en ma) = 123)) (hcn : ∀ j, j < 5 → nx j = nI (cnt j)) (hcm : ∀ j, j < 5 → cnt j ≤ zM j) : Met l y_Md_thing w_Md_thing ({ frames := 7, cells := 0, slots := 0, locals := 161 }) (va_Pc [.ref aM, .int (nI ka), .int (nI kk)] (PW G (dC, dI) [(kMT, .byte), (kNx, .int)] [(aM, .inr (4, [.int th, .ref aMT, .int (nI mu), .ref aNw, .ref aNx, .int mw, .int mwa, .int (nI ma), .int (nI en), .long mv, .int mf, .int ml])), (aMT, .inl (kMT, 65536, .inl B)), (aNx, .inl (kNx, 52650, .inl nx))] sz)) (va_Qi (fun (r : Int32) (uu : Nat × Int32 × Int32 × Int64 × Int32 × (Nat → Int32) × Int32) => (r = 1 ∧ uu.1 ≤ en ∧ uu.2.1 = mw ∧ uu.2.2.1 = mwa ∧ mThing B en ka cnt kk (zK B en ma, nx) = .ok (zK B en uu.1, uu.2.2.2.2.2.1)) ∨ (r = 0 ∧ uu.1 ≤ en ∧ ∃ k, mThing B en ka cnt kk (zK B en ma, nx) = .error (uu.2.1, k) ∧ uu.2.2.1 = nI k)) (fun (uu : Nat × Int32 × Int32 × Int64 × Int32 × (Nat → Int32) × Int32) t => BW (dC, dI) [(aM, .inr (4, [.int th, .ref aMT, .int (nI mu), .ref aNw, .ref aNx, .int uu.2.1, .int uu.2.2.1, .int (nI uu.1), .int (nI en), .long uu.2.2.2.1, .int uu.2.2.2.2.1, .int uu.2.2.2.2.2.2])), (aMT, .inl (kMT, 65536, .inl B)), (aNx, .inl (kNx, 52650, .inl uu.2.2.2.2.2.1))] (va_A [(aM, .inr (4, [.int th, .ref aMT, .int (nI mu), .ref aNw, .ref aNx, .int mw, .int mwa, .int (nI ma), .int (nI en), .long mv, .int mf, .int ml])), (aMT, .inl (kMT, 65536, .inl B)), (aNx, .inl (kNx, 52650, .inl nx))] sz) sz t) (va_A [(aM, .inr (4, [.int th, .ref aMT, .int (nI mu), .ref aNw, .ref aNx, .int mw, .int mwa, .int (nI ma), .int (nI en), .long mv, .int mf, .int ml])), (aMT, .inl (kMT, 65536, .inl B)), (aNx, .inl (kNx, 52650, .inl nx))] sz)) 0 0 (va_A [(aM, .inr (4, [.int th, .ref aMT, .int (nI mu), .ref aNw, .ref aNx, .int mw, .int mwa, .int (nI ma), .int (nI en), .long mv, .int mf, .int ml])), (aMT, .inl (kMT, 65536, .inl B)), (aNx, .inl (kNx, 52650, .inl nx))] sz) := by
  refine Met.ofW (cc := prog_6_method_25_code) (maxL := 4) (ret := (some .boolean)) (by decide) rfl ?_
  intro p e s m args below meth c s₁ Bd hml hv
  obtain ⟨rfl, hsz, hP, hK, hD0, hE⟩ := hv
  have hx := Bd.exec
  have hb := Bd.bytes
  have hr := Bd.returns
  have hts := atoms_spec (ws := w_Md_thing) Bd.pre
  have hown : s.vm.findClass R_Md = some m.cls := findClass_of_methodNamed Bd.named
  have hlocks := Bd.notSynchronized
  have hz : ∀ w ∈ ZW, w.before _ s = true := fun w h => hts w (List.mem_cons_of_mem _ h)
  subst hsz
  have hD := hD0.self (sz := s.heap.size)
  generalize hAe : va_A [(aM, .inr (4, [.int th, .ref aMT, .int (nI mu), .ref aNw, .ref aNx, .int mw, .int mwa, .int (nI ma), .int (nI en), .long mv, .int mf, .int ml])), (aMT, .inl (kMT, 65536, .inl B)), (aNx, .inl (kNx, 52650, .inl nx))] s.heap.size = A at hD hE ⊢
  have hA : ∀ q : Nat, s.heap.size ≤ q → A q := fun q h => by rw [← hAe]; exact Or.inr h
  have hS : va_S A s.heap s.heap [] := va_S.rf
  have hl := lv_entry ([.ref aM, .int (nI ka), .int (nI kk)]) (n := 4) (Nat.le_of_ble_eq_true rfl)
  rw [lg_entry_eq]
  generalize (lg_sl ([.ref aM, .int (nI ka), .int (nI kk)]) ++ List.replicate (4 - (lg_sl ([.ref aM, .int (nI ka), .int (nI kk)])).length) Slot.unset).toArray = ls at hl ⊢
  have hl : lv_has ls 4 [(0, .ref aM), (1, .int (nI ka)), (2, .int (nI kk))] := hl
  obtain ⟨H, hH⟩ : ∃ z, z = s.heap := ⟨_, rfl⟩
  have hP : va_P (dC, dI) vwCl [(aM, .inr (4, [.int th, .ref aMT, .int (nI mu), .ref aNw, .ref aNx, .int mw, .int mwa, .int (nI ma), .int (nI en), .long mv, .int mf, .int ml])), (aMT, .inl (kMT, 65536, .inl B)), (aNx, .inl (kNx, 52650, .inl nx))] H := by rw [hH]; exact hP
  have hS : va_S A s.heap H [] := by rw [hH]; exact hS
  refine zt_heap hH ?_
  refine lv_aload_n hx hb d_Md_thing_0 rfl (lv_at hl 0 rfl) ?_
  refine lv_bipush (v := 123) hx hb d_Md_thing_1 (by decide) ?_
  have hPc := hP.sub (ws' := [(aM, .inr (4, [.int th, .ref aMT, .int (nI mu), .ref aNw, .ref aNx, .int mw, .int mwa, .int (nI ma), .int (nI en), .long mv, .int mf, .int ml])), (aMT, .inl (kMT, 65536, .inl B))]) [0, 1] rfl
  have hDc := hD.sub (ws' := [(aM, .inr (4, [.int th, .ref aMT, .int (nI mu), .ref aNw, .ref aNx, .int mw, .int mwa, .int (nI ma), .int (nI en), .long mv, .int mf, .int ml])), (aMT, .inl (kMT, 65536, .inl B))]) [0, 1] (by decide) rfl
  have hKc := hK.sub (tys' := [(kMT, .byte)]) [0] rfl
  have hFc := va_free (wc := [(aM, .inr (4, [.int th, .ref aMT, .int (nI mu), .ref aNw, .ref aNx, .int mw, .int mwa, .int (nI ma), .int (nI en), .long mv, .int mf, .int ml])), (aMT, .inl (kMT, 65536, .inl B))]) hD hS hA [0, 1] rfl
  refine va_calli (va_runV (As := [.int 123]) (rest := []) ⟨hx, hb, hml, hown, hts⟩ (c_Md_sign l G dC dI H.size aM th aMT mu aNw aNx mw mwa ma en mv mf ml kMT B 123 (by omega) (by omega)) (cwV 1 hts (gV tw_537 tw_539 ts_20 tw_5 tw_540 rfl) rfl rfl rfl (by decide +kernel) ⟨Nat.le_of_ble_eq_true rfl, Nat.le_of_ble_eq_true rfl⟩) (PW_preV hPc hKc hDc hE hS hFc (ci := 4) (q0 := 0) rfl rfl) rfl rfl hl.1 rfl (lv_room (Nat.le_of_ble_eq_true rfl)) d_Md_thing_3 ⟨Nat.le_of_ble_eq_true rfl, Nat.le_of_ble_eq_true rfl⟩) hS (fun q _ h => hFc q h) hFc (fun r_1 uu t H1 locs ht hvm hw_5 hB hz1 hk1 hS => ?_)
  obtain ⟨ma_2, mw_3, mwa_4⟩ := uu
  obtain ⟨hP1, hD1, hsz1⟩ := hB
  rw [ht] at hP1 hsz1
  obtain ⟨hP, hD⟩ := va_join (wr := [(aNx, .inl (kNx, 52650, .inl nx))]) (w1 := [(aM, .inr (4, [.int th, .ref aMT, .int (nI mu), .ref aNw, .ref aNx, .int mw_3, .int mwa_4, .int (nI ma_2), .int (nI en), .long mv, .int mf, .int ml])), (aMT, .inl (kMT, 65536, .inl B))]) hP hD [0, 1] [2] rfl rfl (by decide) (by decide) hk1 hFc hP1 hD1
  generalize H1 = H at hP hS ⊢
  have hP : va_P (dC, dI) vwCl [(aNx, .inl (kNx, 52650, .inl nx)), (aM, .inr (4, [.int th, .ref aMT, .int (nI mu), .ref aNw, .ref aNx, .int mw_3, .int mwa_4, .int (nI ma_2), .int (nI en), .long mv, .int mf, .int ml])), (aMT, .inl (kMT, 65536, .inl B))] H := hP
  have hD : va_D A [(aNx, .inl (kNx, 52650, .inl nx)), (aM, .inr (4, [.int th, .ref aMT, .int (nI mu), .ref aNw, .ref aNx, .int mw_3, .int mwa_4, .int (nI ma_2), .int (nI en), .long mv, .int mf, .int ml])), (aMT, .inl (kMT, 65536, .inl B))] := hD
  rcases hw_5 with ⟨rfl, hw_5a, hw_5b, e1, e2⟩ | ⟨rfl, hw_5b, hw_5k, hw_5a, e2⟩
  ·
    have e1 := e1.symm; subst e1
    have e2 := e2.symm; subst e2
    refine lv_if_ne (tgt := 11) hx hb d_Md_thing_6 (by decide) (fun c_6 => ?_) (fun c_6 => ?_)
    ·
      have hlt : kk < zM ka := (Nat.lt_or_ge kk (zM ka)).elim id (fun q9 => absurd (zMust_b hw_5a) (hbr (Nat.le_antisymm hkk q9)))
      refine lv_iload_n hx hb d_Md_thing_11 rfl (lv_at hl 1 rfl) ?_
      refine lv_if_ne (tgt := 23) hx hb d_Md_thing_12 (by decide) (fun c_7 => ?_) (fun c_7 => ?_)
      ·
        have c_7 : ¬ (ka = 0) := fun z => c_7 ((@nI_eq ka 0 (by omega) (by omega)).mpr z)
        refine lv_iload_n hx hb d_Md_thing_23 rfl (lv_at hl 1 rfl) ?_
        refine lv_iconst (v := 1) hx hb d_Md_thing_24 (by decide) ?_
        refine lv_icmp_ne (tgt := 36) hx hb d_Md_thing_25 (by decide) (fun c_8 => ?_) (fun c_8 => ?_)
        ·
          have c_8 : ¬ (ka = 1) := fun z => c_8 ((@nI_eq ka 1 (by omega) (by omega)).mpr z)
          refine lv_iload_n hx hb d_Md_thing_36 rfl (lv_at hl 1 rfl) ?_
          refine lv_iconst (v := 2) hx hb d_Md_thing_37 (by decide) ?_
          refine lv_icmp_ne (tgt := 49) hx hb d_Md_thing_38 (by decide) (fun c_9 => ?_) (fun c_9 => ?_)
          ·
            have c_9 : ¬ (ka = 2) := fun z => c_9 ((@nI_eq ka 2 (by omega) (by omega)).mpr z)
            refine lv_iload_n hx hb d_Md_thing_49 rfl (lv_at hl 1 rfl) ?_
            refine lv_iconst (v := 3) hx hb d_Md_thing_50 (by decide) ?_
            refine lv_icmp_ne (tgt := 62) hx hb d_Md_thing_51 (by decide) (fun c_10 => ?_) (fun c_10 => ?_)
            ·
              have c_10 : ¬ (ka = 3) := fun z => c_10 ((@nI_eq ka 3 (by omega) (by omega)).mpr z)
              refine lv_aload_n hx hb d_Md_thing_62 rfl (lv_at hl 0 rfl) ?_
              refine lv_iload_n hx hb d_Md_thing_63 rfl (lv_at hl 2 rfl) ?_
              have hPc := hP.sub (ws' := [(aM, .inr (4, [.int th, .ref aMT, .int (nI mu), .ref aNw, .ref aNx, .int mw, .int mwa, .int (nI ma_2), .int (nI en), .long mv, .int mf, .int ml])), (aMT, .inl (kMT, 65536, .inl B)), (aNx, .inl (kNx, 52650, .inl nx))]) [1, 2, 0] rfl
              have hDc := hD.sub (ws' := [(aM, .inr (4, [.int th, .ref aMT, .int (nI mu), .ref aNw, .ref aNx, .int mw, .int mwa, .int (nI ma_2), .int (nI en), .long mv, .int mf, .int ml])), (aMT, .inl (kMT, 65536, .inl B)), (aNx, .inl (kNx, 52650, .inl nx))]) [1, 2, 0] (by decide) rfl
              have hKc := hK.sub (tys' := [(kMT, .byte), (kNx, .int)]) [0, 1] rfl
              have hFc := va_free (wc := [(aM, .inr (4, [.int th, .ref aMT, .int (nI mu), .ref aNw, .ref aNx, .int mw, .int mwa, .int (nI ma_2), .int (nI en), .long mv, .int mf, .int ml])), (aMT, .inl (kMT, 65536, .inl B)), (aNx, .inl (kNx, 52650, .inl nx))]) hD hS hA [1, 2, 0] rfl
              refine va_calli (va_runV (As := [.int (nI kk)]) (rest := []) ⟨hx, hb, hml, hown, hts⟩ (c_Md_track l G dC dI H.size aM th aMT mu aNw aNx mw mwa ma_2 en mv mf ml kMT B kNx nx (cnt 3) kk (by omega) (by omega) (by have q9 := hlt; rw [show ka = 4 by omega] at q9; exact q9) (Nat.le_trans (hcm 3 (by decide)) (by decide)) (hcn 3 (by decide))) (cwV 1 hts (gV tw_669 tw_671 ts_42 tw_5 tw_672 rfl) rfl rfl rfl (by decide +kernel) ⟨Nat.le_of_ble_eq_true rfl, Nat.le_of_ble_eq_true rfl⟩) (PW_preV hPc hKc hDc hE hS hFc (ci := 4) (q0 := 0) rfl rfl) rfl rfl hl.1 rfl (lv_room (Nat.le_of_ble_eq_true rfl)) d_Md_thing_64 ⟨Nat.le_of_ble_eq_true rfl, Nat.le_of_ble_eq_true rfl⟩) hS (fun q _ h => hFc q h) hFc (fun r_11 uu t H1 locs ht hvm hw_19 hB hz1 hk1 hS => ?_)
              obtain ⟨ma_12, mw_13, mwa_14, mv_15, mf_16, nx_17, ml_18⟩ := uu
              obtain ⟨hP1, hD1, hsz1⟩ := hB
              rw [ht] at hP1 hsz1
              obtain ⟨hP, hD⟩ := va_join (wr := []) (w1 := [(aM, .inr (4, [.int th, .ref aMT, .int (nI mu), .ref aNw, .ref aNx, .int mw_13, .int mwa_14, .int (nI ma_12), .int (nI en), .long mv_15, .int mf_16, .int ml_18])), (aMT, .inl (kMT, 65536, .inl B)), (aNx, .inl (kNx, 52650, .inl nx_17))]) hP hD [1, 2, 0] [] rfl rfl (by decide) (by decide) hk1 hFc hP1 hD1
              generalize H1 = H at hP hS ⊢
              have hP : va_P (dC, dI) vwCl [(aM, .inr (4, [.int th, .ref aMT, .int (nI mu), .ref aNw, .ref aNx, .int mw_13, .int mwa_14, .int (nI ma_12), .int (nI en), .long mv_15, .int mf_16, .int ml_18])), (aMT, .inl (kMT, 65536, .inl B)), (aNx, .inl (kNx, 52650, .inl nx_17))] H := hP
              have hD : va_D A [(aM, .inr (4, [.int th, .ref aMT, .int (nI mu), .ref aNw, .ref aNx, .int mw_13, .int mwa_14, .int (nI ma_12), .int (nI en), .long mv_15, .int mf_16, .int ml_18])), (aMT, .inl (kMT, 65536, .inl B)), (aNx, .inl (kNx, 52650, .inl nx_17))] := hD
              rcases hw_19 with ⟨rfl, hw_19b, e1, e2, hw_19a⟩ | ⟨rfl, hw_19b, hw_19k, hw_19a, e2⟩
              ·
                have e1 := e1.symm; subst e1
                have e2 := e2.symm; subst e2
                refine lv_istore_n (lv' := [(3, .int 1), (0, .ref aM), (1, .int (nI ka)), (2, .int (nI kk))]) hx hb d_Md_thing_67 rfl hl (by decide) rfl (fun ls hl => ?_)
                refine lv_iload_n hx hb d_Md_thing_68 rfl (lv_at hl 0 rfl) ?_
                refine lv_if_eq (tgt := 85) hx hb d_Md_thing_69 (by decide) (fun c_20 => ?_) (fun c_20 => ?_)
                ·
                  exact absurd c_20 (by decide)
                ·
                  refine lv_aload_n hx hb d_Md_thing_72 rfl (lv_at hl 1 rfl) ?_
                  refine lv_bipush (v := 125) hx hb d_Md_thing_73 (by decide) ?_
                  have hPc := hP.sub (ws' := [(aM, .inr (4, [.int th, .ref aMT, .int (nI mu), .ref aNw, .ref aNx, .int mw, .int mwa, .int (nI ma_12), .int (nI en), .long mv_15, .int mf_16, .int ml_18])), (aMT, .inl (kMT, 65536, .inl B))]) [0, 1] rfl
                  have hDc := hD.sub (ws' := [(aM, .inr (4, [.int th, .ref aMT, .int (nI mu), .ref aNw, .ref aNx, .int mw, .int mwa, .int (nI ma_12), .int (nI en), .long mv_15, .int mf_16, .int ml_18])), (aMT, .inl (kMT, 65536, .inl B))]) [0, 1] (by decide) rfl
                  have hKc := hK.sub (tys' := [(kMT, .byte)]) [0] rfl
                  have hFc := va_free (wc := [(aM, .inr (4, [.int th, .ref aMT, .int (nI mu), .ref aNw, .ref aNx, .int mw, .int mwa, .int (nI ma_12), .int (nI en), .long mv_15, .int mf_16, .int ml_18])), (aMT, .inl (kMT, 65536, .inl B))]) hD hS hA [0, 1] rfl
                  refine va_calli (va_runV (As := [.int 125]) (rest := []) ⟨hx, hb, hml, hown, hts⟩ (c_Md_sign l G dC dI H.size aM th aMT mu aNw aNx mw mwa ma_12 en mv_15 mf_16 ml_18 kMT B 125 (by omega) (by omega)) (cwV 1 hts (gV tw_537 tw_539 ts_20 tw_5 tw_540 rfl) rfl rfl rfl (by decide +kernel) ⟨Nat.le_of_ble_eq_true rfl, Nat.le_of_ble_eq_true rfl⟩) (PW_preV hPc hKc hDc hE hS hFc (ci := 4) (q0 := 0) rfl rfl) rfl rfl hl.1 rfl (lv_room (Nat.le_of_ble_eq_true rfl)) d_Md_thing_75 ⟨Nat.le_of_ble_eq_true rfl, Nat.le_of_ble_eq_true rfl⟩) hS (fun q _ h => hFc q h) hFc (fun r_21 uu t H1 locs ht hvm hw_25 hB hz1 hk1 hS => ?_)
                  obtain ⟨ma_22, mw_23, mwa_24⟩ := uu
                  obtain ⟨hP1, hD1, hsz1⟩ := hB
                  rw [ht] at hP1 hsz1
                  obtain ⟨hP, hD⟩ := va_join (wr := [(aNx, .inl (kNx, 52650, .inl nx_17))]) (w1 := [(aM, .inr (4, [.int th, .ref aMT, .int (nI mu), .ref aNw, .ref aNx, .int mw_23, .int mwa_24, .int (nI ma_22), .int (nI en), .long mv_15, .int mf_16, .int ml_18])), (aMT, .inl (kMT, 65536, .inl B))]) hP hD [0, 1] [2] rfl rfl (by decide) (by decide) hk1 hFc hP1 hD1
                  generalize H1 = H at hP hS ⊢
                  have hP : va_P (dC, dI) vwCl [(aNx, .inl (kNx, 52650, .inl nx_17)), (aM, .inr (4, [.int th, .ref aMT, .int (nI mu), .ref aNw, .ref aNx, .int mw_23, .int mwa_24, .int (nI ma_22), .int (nI en), .long mv_15, .int mf_16, .int ml_18])), (aMT, .inl (kMT, 65536, .inl B))] H := hP
                  have hD : va_D A [(aNx, .inl (kNx, 52650, .inl nx_17)), (aM, .inr (4, [.int th, .ref aMT, .int (nI mu), .ref aNw, .ref aNx, .int mw_23, .int mwa_24, .int (nI ma_22), .int (nI en), .long mv_15, .int mf_16, .int ml_18])), (aMT, .inl (kMT, 65536, .inl B))] := hD
                  rcases hw_25 with ⟨rfl, hw_25a, hw_25b, e1, e2⟩ | ⟨rfl, hw_25b, hw_25k, hw_25a, e2⟩
                  ·
                    have e1 := e1.symm; subst e1
                    have e2 := e2.symm; subst e2
                    refine lv_if_eq (tgt := 85) hx hb d_Md_thing_78 (by decide) (fun c_26 => ?_) (fun c_26 => ?_)
                    ·
                      exact absurd c_26 (by decide)
                    ·
                      refine lv_iconst (v := 1) hx hb d_Md_thing_81 (by decide) ?_
                      refine lv_goto (tgt := 86) hx hb d_Md_thing_82 (by decide) ?_
                      refine zt_size (fun hzs => ?_)
                      have hP9 := hP.sub (ws' := [(aM, .inr (4, [.int th, .ref aMT, .int (nI mu), .ref aNw, .ref aNx, .int mw, .int mwa, .int (nI ma_22), .int (nI en), .long mv_15, .int mf_16, .int ml_18])), (aMT, .inl (kMT, 65536, .inl B)), (aNx, .inl (kNx, 52650, .inl nx_17))]) [1, 2, 0] rfl
                      have hD9 := hD.sub (ws' := [(aM, .inr (4, [.int th, .ref aMT, .int (nI mu), .ref aNw, .ref aNx, .int mw, .int mwa, .int (nI ma_22), .int (nI en), .long mv_15, .int mf_16, .int ml_18])), (aMT, .inl (kMT, 65536, .inl B)), (aNx, .inl (kNx, 52650, .inl nx_17))]) [1, 2, 0] (by decide) rfl
                      exact W.zret (v := 1) hx hb hr rfl (fun t ht hW => ⟨⟨1, (ma_22, mw, mwa, mv_15, mf_16, nx_17, ml_18), rfl, Or.inl ⟨rfl, by omega, rfl, rfl, by simp only [mThing, mBody, if_neg c_7, if_neg c_8, if_neg c_9, if_neg c_10, hw_5a, hw_19a, hw_25a, zB_ok]⟩, by rw [ht]; exact hP9, hD9, by rw [ht]; exact hzs⟩, hS.F ht⟩) hS.2.2 d_Md_thing_86
                  ·
                    have e2 := e2.symm; subst e2
                    refine lv_if_eq (tgt := 85) hx hb d_Md_thing_78 (by decide) (fun c_27 => ?_) (fun c_27 => ?_)
                    ·
                      refine lv_iconst (v := 0) hx hb d_Md_thing_85 (by decide) ?_
                      refine zt_size (fun hzs => ?_)
                      have hP9 := hP.sub (ws' := [(aM, .inr (4, [.int th, .ref aMT, .int (nI mu), .ref aNw, .ref aNx, .int mw_23, .int (nI hw_25k), .int (nI ma_22), .int (nI en), .long mv_15, .int mf_16, .int ml_18])), (aMT, .inl (kMT, 65536, .inl B)), (aNx, .inl (kNx, 52650, .inl nx_17))]) [1, 2, 0] rfl
                      have hD9 := hD.sub (ws' := [(aM, .inr (4, [.int th, .ref aMT, .int (nI mu), .ref aNw, .ref aNx, .int mw_23, .int (nI hw_25k), .int (nI ma_22), .int (nI en), .long mv_15, .int mf_16, .int ml_18])), (aMT, .inl (kMT, 65536, .inl B)), (aNx, .inl (kNx, 52650, .inl nx_17))]) [1, 2, 0] (by decide) rfl
                      exact W.zret (v := 0) hx hb hr rfl (fun t ht hW => ⟨⟨0, (ma_22, mw_23, nI hw_25k, mv_15, mf_16, nx_17, ml_18), rfl, Or.inr ⟨rfl, by omega, _, by simp only [mThing, mBody, if_neg c_7, if_neg c_8, if_neg c_9, if_neg c_10, hw_5a, hw_19a, hw_25a, zB_ok, zB_er], rfl⟩, by rw [ht]; exact hP9, hD9, by rw [ht]; exact hzs⟩, hS.F ht⟩) hS.2.2 d_Md_thing_86
                    ·
                      exact absurd (by decide) c_27
              ·
                have e2 := e2.symm; subst e2
                refine lv_istore_n (lv' := [(3, .int 0), (0, .ref aM), (1, .int (nI ka)), (2, .int (nI kk))]) hx hb d_Md_thing_67 rfl hl (by decide) rfl (fun ls hl => ?_)
                refine lv_iload_n hx hb d_Md_thing_68 rfl (lv_at hl 0 rfl) ?_
                refine lv_if_eq (tgt := 85) hx hb d_Md_thing_69 (by decide) (fun c_28 => ?_) (fun c_28 => ?_)
                ·
                  refine lv_iconst (v := 0) hx hb d_Md_thing_85 (by decide) ?_
                  refine zt_size (fun hzs => ?_)
                  have hP9 := hP.sub (ws' := [(aM, .inr (4, [.int th, .ref aMT, .int (nI mu), .ref aNw, .ref aNx, .int mw_13, .int (nI hw_19k), .int (nI ma_12), .int (nI en), .long mv_15, .int mf_16, .int ml_18])), (aMT, .inl (kMT, 65536, .inl B)), (aNx, .inl (kNx, 52650, .inl nx_17))]) [0, 1, 2] rfl
                  have hD9 := hD.sub (ws' := [(aM, .inr (4, [.int th, .ref aMT, .int (nI mu), .ref aNw, .ref aNx, .int mw_13, .int (nI hw_19k), .int (nI ma_12), .int (nI en), .long mv_15, .int mf_16, .int ml_18])), (aMT, .inl (kMT, 65536, .inl B)), (aNx, .inl (kNx, 52650, .inl nx_17))]) [0, 1, 2] (by decide) rfl
                  exact W.zret (v := 0) hx hb hr rfl (fun t ht hW => ⟨⟨0, (ma_12, mw_13, nI hw_19k, mv_15, mf_16, nx_17, ml_18), rfl, Or.inr ⟨rfl, by omega, _, by simp only [mThing, mBody, if_neg c_7, if_neg c_8, if_neg c_9, if_neg c_10, hw_5a, hw_19a, zB_ok, zB_er], rfl⟩, by rw [ht]; exact hP9, hD9, by rw [ht]; exact hzs⟩, hS.F ht⟩) hS.2.2 d_Md_thing_86
                ·
                  exact absurd (by decide) c_28
            ·
              have c_10 : ka = 3 := (@nI_eq ka 3 (by omega) (by omega)).mp c_10
              refine lv_aload_n hx hb d_Md_thing_54 rfl (lv_at hl 0 rfl) ?_
              refine lv_iload_n hx hb d_Md_thing_55 rfl (lv_at hl 2 rfl) ?_
              have hPc := hP.sub (ws' := [(aM, .inr (4, [.int th, .ref aMT, .int (nI mu), .ref aNw, .ref aNx, .int mw, .int mwa, .int (nI ma_2), .int (nI en), .long mv, .int mf, .int ml])), (aMT, .inl (kMT, 65536, .inl B)), (aNx, .inl (kNx, 52650, .inl nx))]) [1, 2, 0] rfl
              have hDc := hD.sub (ws' := [(aM, .inr (4, [.int th, .ref aMT, .int (nI mu), .ref aNw, .ref aNx, .int mw, .int mwa, .int (nI ma_2), .int (nI en), .long mv, .int mf, .int ml])), (aMT, .inl (kMT, 65536, .inl B)), (aNx, .inl (kNx, 52650, .inl nx))]) [1, 2, 0] (by decide) rfl
              have hKc := hK.sub (tys' := [(kMT, .byte), (kNx, .int)]) [0, 1] rfl
              have hFc := va_free (wc := [(aM, .inr (4, [.int th, .ref aMT, .int (nI mu), .ref aNw, .ref aNx, .int mw, .int mwa, .int (nI ma_2), .int (nI en), .long mv, .int mf, .int ml])), (aMT, .inl (kMT, 65536, .inl B)), (aNx, .inl (kNx, 52650, .inl nx))]) hD hS hA [1, 2, 0] rfl
              refine va_calli (va_runV (As := [.int (nI kk)]) (rest := []) ⟨hx, hb, hml, hown, hts⟩ (c_Md_node l G dC dI H.size aM th aMT mu aNw aNx mw mwa ma_2 en mv mf ml kMT B kNx nx (cnt 2) kk (by omega) (by omega) (by have q9 := hlt; rw [show ka = 3 by omega] at q9; exact q9) (Nat.le_trans (hcm 2 (by decide)) (by decide)) (hcn 2 (by decide))) (cwV 1 hts (gV tw_661 tw_663 ts_41 tw_5 tw_664 rfl) rfl rfl rfl (by decide +kernel) ⟨Nat.le_of_ble_eq_true rfl, Nat.le_of_ble_eq_true rfl⟩) (PW_preV hPc hKc hDc hE hS hFc (ci := 4) (q0 := 0) rfl rfl) rfl rfl hl.1 rfl (lv_room (Nat.le_of_ble_eq_true rfl)) d_Md_thing_56 ⟨Nat.le_of_ble_eq_true rfl, Nat.le_of_ble_eq_true rfl⟩) hS (fun q _ h => hFc q h) hFc (fun r_29 uu t H1 locs ht hvm hw_37 hB hz1 hk1 hS => ?_)
              obtain ⟨ma_30, mw_31, mwa_32, mv_33, mf_34, nx_35, ml_36⟩ := uu
              obtain ⟨hP1, hD1, hsz1⟩ := hB
              rw [ht] at hP1 hsz1
              obtain ⟨hP, hD⟩ := va_join (wr := []) (w1 := [(aM, .inr (4, [.int th, .ref aMT, .int (nI mu), .ref aNw, .ref aNx, .int mw_31, .int mwa_32, .int (nI ma_30), .int (nI en), .long mv_33, .int mf_34, .int ml_36])), (aMT, .inl (kMT, 65536, .inl B)), (aNx, .inl (kNx, 52650, .inl nx_35))]) hP hD [1, 2, 0] [] rfl rfl (by decide) (by decide) hk1 hFc hP1 hD1
              generalize H1 = H at hP hS ⊢
              have hP : va_P (dC, dI) vwCl [(aM, .inr (4, [.int th, .ref aMT, .int (nI mu), .ref aNw, .ref aNx, .int mw_31, .int mwa_32, .int (nI ma_30), .int (nI en), .long mv_33, .int mf_34, .int ml_36])), (aMT, .inl (kMT, 65536, .inl B)), (aNx, .inl (kNx, 52650, .inl nx_35))] H := hP
              have hD : va_D A [(aM, .inr (4, [.int th, .ref aMT, .int (nI mu), .ref aNw, .ref aNx, .int mw_31, .int mwa_32, .int (nI ma_30), .int (nI en), .long mv_33, .int mf_34, .int ml_36])), (aMT, .inl (kMT, 65536, .inl B)), (aNx, .inl (kNx, 52650, .inl nx_35))] := hD
              rcases hw_37 with ⟨rfl, hw_37b, e1, e2, hw_37a⟩ | ⟨rfl, hw_37b, hw_37k, hw_37a, e2⟩
              ·
                have e1 := e1.symm; subst e1
                have e2 := e2.symm; subst e2
                refine lv_goto (tgt := 67) hx hb d_Md_thing_59 (by decide) ?_
                refine lv_istore_n (lv' := [(3, .int 1), (0, .ref aM), (1, .int (nI ka)), (2, .int (nI kk))]) hx hb d_Md_thing_67 rfl hl (by decide) rfl (fun ls hl => ?_)
                refine lv_iload_n hx hb d_Md_thing_68 rfl (lv_at hl 0 rfl) ?_
                refine lv_if_eq (tgt := 85) hx hb d_Md_thing_69 (by decide) (fun c_38 => ?_) (fun c_38 => ?_)
                ·
                  exact absurd c_38 (by decide)
                ·
                  refine lv_aload_n hx hb d_Md_thing_72 rfl (lv_at hl 1 rfl) ?_
                  refine lv_bipush (v := 125) hx hb d_Md_thing_73 (by decide) ?_
                  have hPc := hP.sub (ws' := [(aM, .inr (4, [.int th, .ref aMT, .int (nI mu), .ref aNw, .ref aNx, .int mw, .int mwa, .int (nI ma_30), .int (nI en), .long mv_33, .int mf_34, .int ml_36])), (aMT, .inl (kMT, 65536, .inl B))]) [0, 1] rfl
                  have hDc := hD.sub (ws' := [(aM, .inr (4, [.int th, .ref aMT, .int (nI mu), .ref aNw, .ref aNx, .int mw, .int mwa, .int (nI ma_30), .int (nI en), .long mv_33, .int mf_34, .int ml_36])), (aMT, .inl (kMT, 65536, .inl B))]) [0, 1] (by decide) rfl
                  have hKc := hK.sub (tys' := [(kMT, .byte)]) [0] rfl
                  have hFc := va_free (wc := [(aM, .inr (4, [.int th, .ref aMT, .int (nI mu), .ref aNw, .ref aNx, .int mw, .int mwa, .int (nI ma_30), .int (nI en), .long mv_33, .int mf_34, .int ml_36])), (aMT, .inl (kMT, 65536, .inl B))]) hD hS hA [0, 1] rfl
                  refine va_calli (va_runV (As := [.int 125]) (rest := []) ⟨hx, hb, hml, hown, hts⟩ (c_Md_sign l G dC dI H.size aM th aMT mu aNw aNx mw mwa ma_30 en mv_33 mf_34 ml_36 kMT B 125 (by omega) (by omega)) (cwV 1 hts (gV tw_537 tw_539 ts_20 tw_5 tw_540 rfl) rfl rfl rfl (by decide +kernel) ⟨Nat.le_of_ble_eq_true rfl, Nat.le_of_ble_eq_true rfl⟩) (PW_preV hPc hKc hDc hE hS hFc (ci := 4) (q0 := 0) rfl rfl) rfl rfl hl.1 rfl (lv_room (Nat.le_of_ble_eq_true rfl)) d_Md_thing_75 ⟨Nat.le_of_ble_eq_true rfl, Nat.le_of_ble_eq_true rfl⟩) hS (fun q _ h => hFc q h) hFc (fun r_39 uu t H1 locs ht hvm hw_43 hB hz1 hk1 hS => ?_)
                  obtain ⟨ma_40, mw_41, mwa_42⟩ := uu
                  obtain ⟨hP1, hD1, hsz1⟩ := hB
                  rw [ht] at hP1 hsz1
                  obtain ⟨hP, hD⟩ := va_join (wr := [(aNx, .inl (kNx, 52650, .inl nx_35))]) (w1 := [(aM, .inr (4, [.int th, .ref aMT, .int (nI mu), .ref aNw, .ref aNx, .int mw_41, .int mwa_42, .int (nI ma_40), .int (nI en), .long mv_33, .int mf_34, .int ml_36])), (aMT, .inl (kMT, 65536, .inl B))]) hP hD [0, 1] [2] rfl rfl (by decide) (by decide) hk1 hFc hP1 hD1
                  generalize H1 = H at hP hS ⊢
                  have hP : va_P (dC, dI) vwCl [(aNx, .inl (kNx, 52650, .inl nx_35)), (aM, .inr (4, [.int th, .ref aMT, .int (nI mu), .ref aNw, .ref aNx, .int mw_41, .int mwa_42, .int (nI ma_40), .int (nI en), .long mv_33, .int mf_34, .int ml_36])), (aMT, .inl (kMT, 65536, .inl B))] H := hP
                  have hD : va_D A [(aNx, .inl (kNx, 52650, .inl nx_35)), (aM, .inr (4, [.int th, .ref aMT, .int (nI mu), .ref aNw, .ref aNx, .int mw_41, .int mwa_42, .int (nI ma_40), .int (nI en), .long mv_33, .int mf_34, .int ml_36])), (aMT, .inl (kMT, 65536, .inl B))] := hD
                  rcases hw_43 with ⟨rfl, hw_43a, hw_43b, e1, e2⟩ | ⟨rfl, hw_43b, hw_43k, hw_43a, e2⟩
                  ·
                    have e1 := e1.symm; subst e1
                    have e2 := e2.symm; subst e2
                    refine lv_if_eq (tgt := 85) hx hb d_Md_thing_78 (by decide) (fun c_44 => ?_) (fun c_44 => ?_)
                    ·
                      exact absurd c_44 (by decide)
                    ·
                      refine lv_iconst (v := 1) hx hb d_Md_thing_81 (by decide) ?_
                      refine lv_goto (tgt := 86) hx hb d_Md_thing_82 (by decide) ?_
                      refine zt_size (fun hzs => ?_)
                      have hP9 := hP.sub (ws' := [(aM, .inr (4, [.int th, .ref aMT, .int (nI mu), .ref aNw, .ref aNx, .int mw, .int mwa, .int (nI ma_40), .int (nI en), .long mv_33, .int mf_34, .int ml_36])), (aMT, .inl (kMT, 65536, .inl B)), (aNx, .inl (kNx, 52650, .inl nx_35))]) [1, 2, 0] rfl
                      have hD9 := hD.sub (ws' := [(aM, .inr (4, [.int th, .ref aMT, .int (nI mu), .ref aNw, .ref aNx, .int mw, .int mwa, .int (nI ma_40), .int (nI en), .long mv_33, .int mf_34, .int ml_36])), (aMT, .inl (kMT, 65536, .inl B)), (aNx, .inl (kNx, 52650, .inl nx_35))]) [1, 2, 0] (by decide) rfl
                      exact W.zret (v := 1) hx hb hr rfl (fun t ht hW => ⟨⟨1, (ma_40, mw, mwa, mv_33, mf_34, nx_35, ml_36), rfl, Or.inl ⟨rfl, by omega, rfl, rfl, by simp only [mThing, mBody, if_neg c_7, if_neg c_8, if_neg c_9, if_pos c_10, hw_5a, hw_37a, hw_43a, zB_ok]⟩, by rw [ht]; exact hP9, hD9, by rw [ht]; exact hzs⟩, hS.F ht⟩) hS.2.2 d_Md_thing_86
                  ·
                    have e2 := e2.symm; subst e2
                    refine lv_if_eq (tgt := 85) hx hb d_Md_thing_78 (by decide) (fun c_45 => ?_) (fun c_45 => ?_)
                    ·
                      refine lv_iconst (v := 0) hx hb d_Md_thing_85 (by decide) ?_
                      refine zt_size (fun hzs => ?_)
                      have hP9 := hP.sub (ws' := [(aM, .inr (4, [.int th, .ref aMT, .int (nI mu), .ref aNw, .ref aNx, .int mw_41, .int (nI hw_43k), .int (nI ma_40), .int (nI en), .long mv_33, .int mf_34, .int ml_36])), (aMT, .inl (kMT, 65536, .inl B)), (aNx, .inl (kNx, 52650, .inl nx_35))]) [1, 2, 0] rfl
                      have hD9 := hD.sub (ws' := [(aM, .inr (4, [.int th, .ref aMT, .int (nI mu), .ref aNw, .ref aNx, .int mw_41, .int (nI hw_43k), .int (nI ma_40), .int (nI en), .long mv_33, .int mf_34, .int ml_36])), (aMT, .inl (kMT, 65536, .inl B)), (aNx, .inl (kNx, 52650, .inl nx_35))]) [1, 2, 0] (by decide) rfl
                      exact W.zret (v := 0) hx hb hr rfl (fun t ht hW => ⟨⟨0, (ma_40, mw_41, nI hw_43k, mv_33, mf_34, nx_35, ml_36), rfl, Or.inr ⟨rfl, by omega, _, by simp only [mThing, mBody, if_neg c_7, if_neg c_8, if_neg c_9, if_pos c_10, hw_5a, hw_37a, hw_43a, zB_ok, zB_er], rfl⟩, by rw [ht]; exact hP9, hD9, by rw [ht]; exact hzs⟩, hS.F ht⟩) hS.2.2 d_Md_thing_86
                    ·
                      exact absurd (by decide) c_45
              ·
                have e2 := e2.symm; subst e2
                refine lv_goto (tgt := 67) hx hb d_Md_thing_59 (by decide) ?_
                refine lv_istore_n (lv' := [(3, .int 0), (0, .ref aM), (1, .int (nI ka)), (2, .int (nI kk))]) hx hb d_Md_thing_67 rfl hl (by decide) rfl (fun ls hl => ?_)
                refine lv_iload_n hx hb d_Md_thing_68 rfl (lv_at hl 0 rfl) ?_
                refine lv_if_eq (tgt := 85) hx hb d_Md_thing_69 (by decide) (fun c_46 => ?_) (fun c_46 => ?_)
                ·
                  refine lv_iconst (v := 0) hx hb d_Md_thing_85 (by decide) ?_
                  refine zt_size (fun hzs => ?_)
                  have hP9 := hP.sub (ws' := [(aM, .inr (4, [.int th, .ref aMT, .int (nI mu), .ref aNw, .ref aNx, .int mw_31, .int (nI hw_37k), .int (nI ma_30), .int (nI en), .long mv_33, .int mf_34, .int ml_36])), (aMT, .inl (kMT, 65536, .inl B)), (aNx, .inl (kNx, 52650, .inl nx_35))]) [0, 1, 2] rfl
                  have hD9 := hD.sub (ws' := [(aM, .inr (4, [.int th, .ref aMT, .int (nI mu), .ref aNw, .ref aNx, .int mw_31, .int (nI hw_37k), .int (nI ma_30), .int (nI en), .long mv_33, .int mf_34, .int ml_36])), (aMT, .inl (kMT, 65536, .inl B)), (aNx, .inl (kNx, 52650, .inl nx_35))]) [0, 1, 2] (by decide) rfl
                  exact W.zret (v := 0) hx hb hr rfl (fun t ht hW => ⟨⟨0, (ma_30, mw_31, nI hw_37k, mv_33, mf_34, nx_35, ml_36), rfl, Or.inr ⟨rfl, by omega, _, by simp only [mThing, mBody, if_neg c_7, if_neg c_8, if_neg c_9, if_pos c_10, hw_5a, hw_37a, zB_ok, zB_er], rfl⟩, by rw [ht]; exact hP9, hD9, by rw [ht]; exact hzs⟩, hS.F ht⟩) hS.2.2 d_Md_thing_86
                ·
                  exact absurd (by decide) c_46
          ·
            have c_9 : ka = 2 := (@nI_eq ka 2 (by omega) (by omega)).mp c_9
            refine lv_aload_n hx hb d_Md_thing_41 rfl (lv_at hl 0 rfl) ?_
            refine lv_iload_n hx hb d_Md_thing_42 rfl (lv_at hl 2 rfl) ?_
            have hPc := hP.sub (ws' := [(aM, .inr (4, [.int th, .ref aMT, .int (nI mu), .ref aNw, .ref aNx, .int mw, .int mwa, .int (nI ma_2), .int (nI en), .long mv, .int mf, .int ml])), (aMT, .inl (kMT, 65536, .inl B)), (aNx, .inl (kNx, 52650, .inl nx))]) [1, 2, 0] rfl
            have hDc := hD.sub (ws' := [(aM, .inr (4, [.int th, .ref aMT, .int (nI mu), .ref aNw, .ref aNx, .int mw, .int mwa, .int (nI ma_2), .int (nI en), .long mv, .int mf, .int ml])), (aMT, .inl (kMT, 65536, .inl B)), (aNx, .inl (kNx, 52650, .inl nx))]) [1, 2, 0] (by decide) rfl
            have hKc := hK.sub (tys' := [(kMT, .byte), (kNx, .int)]) [0, 1] rfl
            have hFc := va_free (wc := [(aM, .inr (4, [.int th, .ref aMT, .int (nI mu), .ref aNw, .ref aNx, .int mw, .int mwa, .int (nI ma_2), .int (nI en), .long mv, .int mf, .int ml])), (aMT, .inl (kMT, 65536, .inl B)), (aNx, .inl (kNx, 52650, .inl nx))]) hD hS hA [1, 2, 0] rfl
            refine va_calli (va_runV (As := [.int (nI kk)]) (rest := []) ⟨hx, hb, hml, hown, hts⟩ (c_Md_mesh l G dC dI H.size aM th aMT mu aNw aNx mw mwa ma_2 en mv mf ml kMT B kNx nx (cnt 1) kk (by omega) (by omega) (by have q9 := hlt; rw [show ka = 2 by omega] at q9; exact q9) (Nat.le_trans (hcm 1 (by decide)) (by decide)) (hcn 1 (by decide))) (cwV 1 hts (gV tw_649 tw_651 ts_40 tw_5 tw_652 rfl) rfl rfl rfl (by decide +kernel) ⟨Nat.le_of_ble_eq_true rfl, Nat.le_of_ble_eq_true rfl⟩) (PW_preV hPc hKc hDc hE hS hFc (ci := 4) (q0 := 0) rfl rfl) rfl rfl hl.1 rfl (lv_room (Nat.le_of_ble_eq_true rfl)) d_Md_thing_43 ⟨Nat.le_of_ble_eq_true rfl, Nat.le_of_ble_eq_true rfl⟩) hS (fun q _ h => hFc q h) hFc (fun r_47 uu t H1 locs ht hvm hw_55 hB hz1 hk1 hS => ?_)
            obtain ⟨ma_48, mw_49, mwa_50, mv_51, mf_52, nx_53, ml_54⟩ := uu
            obtain ⟨hP1, hD1, hsz1⟩ := hB
            rw [ht] at hP1 hsz1
            obtain ⟨hP, hD⟩ := va_join (wr := []) (w1 := [(aM, .inr (4, [.int th, .ref aMT, .int (nI mu), .ref aNw, .ref aNx, .int mw_49, .int mwa_50, .int (nI ma_48), .int (nI en), .long mv_51, .int mf_52, .int ml_54])), (aMT, .inl (kMT, 65536, .inl B)), (aNx, .inl (kNx, 52650, .inl nx_53))]) hP hD [1, 2, 0] [] rfl rfl (by decide) (by decide) hk1 hFc hP1 hD1
            generalize H1 = H at hP hS ⊢
            have hP : va_P (dC, dI) vwCl [(aM, .inr (4, [.int th, .ref aMT, .int (nI mu), .ref aNw, .ref aNx, .int mw_49, .int mwa_50, .int (nI ma_48), .int (nI en), .long mv_51, .int mf_52, .int ml_54])), (aMT, .inl (kMT, 65536, .inl B)), (aNx, .inl (kNx, 52650, .inl nx_53))] H := hP
            have hD : va_D A [(aM, .inr (4, [.int th, .ref aMT, .int (nI mu), .ref aNw, .ref aNx, .int mw_49, .int mwa_50, .int (nI ma_48), .int (nI en), .long mv_51, .int mf_52, .int ml_54])), (aMT, .inl (kMT, 65536, .inl B)), (aNx, .inl (kNx, 52650, .inl nx_53))] := hD
            rcases hw_55 with ⟨rfl, hw_55b, e1, e2, hw_55a⟩ | ⟨rfl, hw_55b, hw_55k, hw_55a, e2⟩
            ·
              have e1 := e1.symm; subst e1
              have e2 := e2.symm; subst e2
              refine lv_goto (tgt := 67) hx hb d_Md_thing_46 (by decide) ?_
              refine lv_istore_n (lv' := [(3, .int 1), (0, .ref aM), (1, .int (nI ka)), (2, .int (nI kk))]) hx hb d_Md_thing_67 rfl hl (by decide) rfl (fun ls hl => ?_)
              refine lv_iload_n hx hb d_Md_thing_68 rfl (lv_at hl 0 rfl) ?_
              refine lv_if_eq (tgt := 85) hx hb d_Md_thing_69 (by decide) (fun c_56 => ?_) (fun c_56 => ?_)
              ·
                exact absurd c_56 (by decide)
              ·
                refine lv_aload_n hx hb d_Md_thing_72 rfl (lv_at hl 1 rfl) ?_
                refine lv_bipush (v := 125) hx hb d_Md_thing_73 (by decide) ?_
                have hPc := hP.sub (ws' := [(aM, .inr (4, [.int th, .ref aMT, .int (nI mu), .ref aNw, .ref aNx, .int mw, .int mwa, .int (nI ma_48), .int (nI en), .long mv_51, .int mf_52, .int ml_54])), (aMT, .inl (kMT, 65536, .inl B))]) [0, 1] rfl
                have hDc := hD.sub (ws' := [(aM, .inr (4, [.int th, .ref aMT, .int (nI mu), .ref aNw, .ref aNx, .int mw, .int mwa, .int (nI ma_48), .int (nI en), .long mv_51, .int mf_52, .int ml_54])), (aMT, .inl (kMT, 65536, .inl B))]) [0, 1] (by decide) rfl
                have hKc := hK.sub (tys' := [(kMT, .byte)]) [0] rfl
                have hFc := va_free (wc := [(aM, .inr (4, [.int th, .ref aMT, .int (nI mu), .ref aNw, .ref aNx, .int mw, .int mwa, .int (nI ma_48), .int (nI en), .long mv_51, .int mf_52, .int ml_54])), (aMT, .inl (kMT, 65536, .inl B))]) hD hS hA [0, 1] rfl
                refine va_calli (va_runV (As := [.int 125]) (rest := []) ⟨hx, hb, hml, hown, hts⟩ (c_Md_sign l G dC dI H.size aM th aMT mu aNw aNx mw mwa ma_48 en mv_51 mf_52 ml_54 kMT B 125 (by omega) (by omega)) (cwV 1 hts (gV tw_537 tw_539 ts_20 tw_5 tw_540 rfl) rfl rfl rfl (by decide +kernel) ⟨Nat.le_of_ble_eq_true rfl, Nat.le_of_ble_eq_true rfl⟩) (PW_preV hPc hKc hDc hE hS hFc (ci := 4) (q0 := 0) rfl rfl) rfl rfl hl.1 rfl (lv_room (Nat.le_of_ble_eq_true rfl)) d_Md_thing_75 ⟨Nat.le_of_ble_eq_true rfl, Nat.le_of_ble_eq_true rfl⟩) hS (fun q _ h => hFc q h) hFc (fun r_57 uu t H1 locs ht hvm hw_61 hB hz1 hk1 hS => ?_)
                obtain ⟨ma_58, mw_59, mwa_60⟩ := uu
                obtain ⟨hP1, hD1, hsz1⟩ := hB
                rw [ht] at hP1 hsz1
                obtain ⟨hP, hD⟩ := va_join (wr := [(aNx, .inl (kNx, 52650, .inl nx_53))]) (w1 := [(aM, .inr (4, [.int th, .ref aMT, .int (nI mu), .ref aNw, .ref aNx, .int mw_59, .int mwa_60, .int (nI ma_58), .int (nI en), .long mv_51, .int mf_52, .int ml_54])), (aMT, .inl (kMT, 65536, .inl B))]) hP hD [0, 1] [2] rfl rfl (by decide) (by decide) hk1 hFc hP1 hD1
                generalize H1 = H at hP hS ⊢
                have hP : va_P (dC, dI) vwCl [(aNx, .inl (kNx, 52650, .inl nx_53)), (aM, .inr (4, [.int th, .ref aMT, .int (nI mu), .ref aNw, .ref aNx, .int mw_59, .int mwa_60, .int (nI ma_58), .int (nI en), .long mv_51, .int mf_52, .int ml_54])), (aMT, .inl (kMT, 65536, .inl B))] H := hP
                have hD : va_D A [(aNx, .inl (kNx, 52650, .inl nx_53)), (aM, .inr (4, [.int th, .ref aMT, .int (nI mu), .ref aNw, .ref aNx, .int mw_59, .int mwa_60, .int (nI ma_58), .int (nI en), .long mv_51, .int mf_52, .int ml_54])), (aMT, .inl (kMT, 65536, .inl B))] := hD
                rcases hw_61 with ⟨rfl, hw_61a, hw_61b, e1, e2⟩ | ⟨rfl, hw_61b, hw_61k, hw_61a, e2⟩
                ·
                  have e1 := e1.symm; subst e1
                  have e2 := e2.symm; subst e2
                  refine lv_if_eq (tgt := 85) hx hb d_Md_thing_78 (by decide) (fun c_62 => ?_) (fun c_62 => ?_)
                  ·
                    exact absurd c_62 (by decide)
                  ·
                    refine lv_iconst (v := 1) hx hb d_Md_thing_81 (by decide) ?_
                    refine lv_goto (tgt := 86) hx hb d_Md_thing_82 (by decide) ?_
                    refine zt_size (fun hzs => ?_)
                    have hP9 := hP.sub (ws' := [(aM, .inr (4, [.int th, .ref aMT, .int (nI mu), .ref aNw, .ref aNx, .int mw, .int mwa, .int (nI ma_58), .int (nI en), .long mv_51, .int mf_52, .int ml_54])), (aMT, .inl (kMT, 65536, .inl B)), (aNx, .inl (kNx, 52650, .inl nx_53))]) [1, 2, 0] rfl
                    have hD9 := hD.sub (ws' := [(aM, .inr (4, [.int th, .ref aMT, .int (nI mu), .ref aNw, .ref aNx, .int mw, .int mwa, .int (nI ma_58), .int (nI en), .long mv_51, .int mf_52, .int ml_54])), (aMT, .inl (kMT, 65536, .inl B)), (aNx, .inl (kNx, 52650, .inl nx_53))]) [1, 2, 0] (by decide) rfl
                    exact W.zret (v := 1) hx hb hr rfl (fun t ht hW => ⟨⟨1, (ma_58, mw, mwa, mv_51, mf_52, nx_53, ml_54), rfl, Or.inl ⟨rfl, by omega, rfl, rfl, by simp only [mThing, mBody, if_neg c_7, if_neg c_8, if_pos c_9, hw_5a, hw_55a, hw_61a, zB_ok]⟩, by rw [ht]; exact hP9, hD9, by rw [ht]; exact hzs⟩, hS.F ht⟩) hS.2.2 d_Md_thing_86
                ·
                  have e2 := e2.symm; subst e2
                  refine lv_if_eq (tgt := 85) hx hb d_Md_thing_78 (by decide) (fun c_63 => ?_) (fun c_63 => ?_)
                  ·
                    refine lv_iconst (v := 0) hx hb d_Md_thing_85 (by decide) ?_
                    refine zt_size (fun hzs => ?_)
                    have hP9 := hP.sub (ws' := [(aM, .inr (4, [.int th, .ref aMT, .int (nI mu), .ref aNw, .ref aNx, .int mw_59, .int (nI hw_61k), .int (nI ma_58), .int (nI en), .long mv_51, .int mf_52, .int ml_54])), (aMT, .inl (kMT, 65536, .inl B)), (aNx, .inl (kNx, 52650, .inl nx_53))]) [1, 2, 0] rfl
                    have hD9 := hD.sub (ws' := [(aM, .inr (4, [.int th, .ref aMT, .int (nI mu), .ref aNw, .ref aNx, .int mw_59, .int (nI hw_61k), .int (nI ma_58), .int (nI en), .long mv_51, .int mf_52, .int ml_54])), (aMT, .inl (kMT, 65536, .inl B)), (aNx, .inl (kNx, 52650, .inl nx_53))]) [1, 2, 0] (by decide) rfl
                    exact W.zret (v := 0) hx hb hr rfl (fun t ht hW => ⟨⟨0, (ma_58, mw_59, nI hw_61k, mv_51, mf_52, nx_53, ml_54), rfl, Or.inr ⟨rfl, by omega, _, by simp only [mThing, mBody, if_neg c_7, if_neg c_8, if_pos c_9, hw_5a, hw_55a, hw_61a, zB_ok, zB_er], rfl⟩, by rw [ht]; exact hP9, hD9, by rw [ht]; exact hzs⟩, hS.F ht⟩) hS.2.2 d_Md_thing_86
                  ·
                    exact absurd (by decide) c_63
            ·
              have e2 := e2.symm; subst e2
              refine lv_goto (tgt := 67) hx hb d_Md_thing_46 (by decide) ?_
              refine lv_istore_n (lv' := [(3, .int 0), (0, .ref aM), (1, .int (nI ka)), (2, .int (nI kk))]) hx hb d_Md_thing_67 rfl hl (by decide) rfl (fun ls hl => ?_)
              refine lv_iload_n hx hb d_Md_thing_68 rfl (lv_at hl 0 rfl) ?_
              refine lv_if_eq (tgt := 85) hx hb d_Md_thing_69 (by decide) (fun c_64 => ?_) (fun c_64 => ?_)
              ·
                refine lv_iconst (v := 0) hx hb d_Md_thing_85 (by decide) ?_
                refine zt_size (fun hzs => ?_)
                have hP9 := hP.sub (ws' := [(aM, .inr (4, [.int th, .ref aMT, .int (nI mu), .ref aNw, .ref aNx, .int mw_49, .int (nI hw_55k), .int (nI ma_48), .int (nI en), .long mv_51, .int mf_52, .int ml_54])), (aMT, .inl (kMT, 65536, .inl B)), (aNx, .inl (kNx, 52650, .inl nx_53))]) [0, 1, 2] rfl
                have hD9 := hD.sub (ws' := [(aM, .inr (4, [.int th, .ref aMT, .int (nI mu), .ref aNw, .ref aNx, .int mw_49, .int (nI hw_55k), .int (nI ma_48), .int (nI en), .long mv_51, .int mf_52, .int ml_54])), (aMT, .inl (kMT, 65536, .inl B)), (aNx, .inl (kNx, 52650, .inl nx_53))]) [0, 1, 2] (by decide) rfl
                exact W.zret (v := 0) hx hb hr rfl (fun t ht hW => ⟨⟨0, (ma_48, mw_49, nI hw_55k, mv_51, mf_52, nx_53, ml_54), rfl, Or.inr ⟨rfl, by omega, _, by simp only [mThing, mBody, if_neg c_7, if_neg c_8, if_pos c_9, hw_5a, hw_55a, zB_ok, zB_er], rfl⟩, by rw [ht]; exact hP9, hD9, by rw [ht]; exact hzs⟩, hS.F ht⟩) hS.2.2 d_Md_thing_86
              ·
                exact absurd (by decide) c_64
        ·
          have c_8 : ka = 1 := (@nI_eq ka 1 (by omega) (by omega)).mp c_8
          refine lv_aload_n hx hb d_Md_thing_28 rfl (lv_at hl 0 rfl) ?_
          refine lv_iload_n hx hb d_Md_thing_29 rfl (lv_at hl 2 rfl) ?_
          have hPc := hP.sub (ws' := [(aM, .inr (4, [.int th, .ref aMT, .int (nI mu), .ref aNw, .ref aNx, .int mw, .int mwa, .int (nI ma_2), .int (nI en), .long mv, .int mf, .int ml])), (aMT, .inl (kMT, 65536, .inl B)), (aNx, .inl (kNx, 52650, .inl nx))]) [1, 2, 0] rfl
          have hDc := hD.sub (ws' := [(aM, .inr (4, [.int th, .ref aMT, .int (nI mu), .ref aNw, .ref aNx, .int mw, .int mwa, .int (nI ma_2), .int (nI en), .long mv, .int mf, .int ml])), (aMT, .inl (kMT, 65536, .inl B)), (aNx, .inl (kNx, 52650, .inl nx))]) [1, 2, 0] (by decide) rfl
          have hKc := hK.sub (tys' := [(kMT, .byte), (kNx, .int)]) [0, 1] rfl
          have hFc := va_free (wc := [(aM, .inr (4, [.int th, .ref aMT, .int (nI mu), .ref aNw, .ref aNx, .int mw, .int mwa, .int (nI ma_2), .int (nI en), .long mv, .int mf, .int ml])), (aMT, .inl (kMT, 65536, .inl B)), (aNx, .inl (kNx, 52650, .inl nx))]) hD hS hA [1, 2, 0] rfl
          refine va_calli (va_runV (As := [.int (nI kk)]) (rest := []) ⟨hx, hb, hml, hown, hts⟩ (c_Md_material l G dC dI H.size aM th aMT mu aNw aNx mw mwa ma_2 en mv mf ml kMT B kNx nx (cnt 0) kk (by omega) (by omega) (by have q9 := hlt; rw [show ka = 1 by omega] at q9; exact q9) (Nat.le_trans (hcm 0 (by decide)) (by decide)) (hcn 0 (by decide))) (cwV 1 hts (gV tw_642 tw_644 ts_39 tw_5 tw_645 rfl) rfl rfl rfl (by decide +kernel) ⟨Nat.le_of_ble_eq_true rfl, Nat.le_of_ble_eq_true rfl⟩) (PW_preV hPc hKc hDc hE hS hFc (ci := 4) (q0 := 0) rfl rfl) rfl rfl hl.1 rfl (lv_room (Nat.le_of_ble_eq_true rfl)) d_Md_thing_30 ⟨Nat.le_of_ble_eq_true rfl, Nat.le_of_ble_eq_true rfl⟩) hS (fun q _ h => hFc q h) hFc (fun r_65 uu t H1 locs ht hvm hw_73 hB hz1 hk1 hS => ?_)
          obtain ⟨ma_66, mw_67, mwa_68, mv_69, mf_70, nx_71, ml_72⟩ := uu
          obtain ⟨hP1, hD1, hsz1⟩ := hB
          rw [ht] at hP1 hsz1
          obtain ⟨hP, hD⟩ := va_join (wr := []) (w1 := [(aM, .inr (4, [.int th, .ref aMT, .int (nI mu), .ref aNw, .ref aNx, .int mw_67, .int mwa_68, .int (nI ma_66), .int (nI en), .long mv_69, .int mf_70, .int ml_72])), (aMT, .inl (kMT, 65536, .inl B)), (aNx, .inl (kNx, 52650, .inl nx_71))]) hP hD [1, 2, 0] [] rfl rfl (by decide) (by decide) hk1 hFc hP1 hD1
          generalize H1 = H at hP hS ⊢
          have hP : va_P (dC, dI) vwCl [(aM, .inr (4, [.int th, .ref aMT, .int (nI mu), .ref aNw, .ref aNx, .int mw_67, .int mwa_68, .int (nI ma_66), .int (nI en), .long mv_69, .int mf_70, .int ml_72])), (aMT, .inl (kMT, 65536, .inl B)), (aNx, .inl (kNx, 52650, .inl nx_71))] H := hP
          have hD : va_D A [(aM, .inr (4, [.int th, .ref aMT, .int (nI mu), .ref aNw, .ref aNx, .int mw_67, .int mwa_68, .int (nI ma_66), .int (nI en), .long mv_69, .int mf_70, .int ml_72])), (aMT, .inl (kMT, 65536, .inl B)), (aNx, .inl (kNx, 52650, .inl nx_71))] := hD
          rcases hw_73 with ⟨rfl, hw_73b, e1, e2, hw_73a⟩ | ⟨rfl, hw_73b, hw_73k, hw_73a, e2⟩
          ·
            have e1 := e1.symm; subst e1
            have e2 := e2.symm; subst e2
            refine lv_goto (tgt := 67) hx hb d_Md_thing_33 (by decide) ?_
            refine lv_istore_n (lv' := [(3, .int 1), (0, .ref aM), (1, .int (nI ka)), (2, .int (nI kk))]) hx hb d_Md_thing_67 rfl hl (by decide) rfl (fun ls hl => ?_)
            refine lv_iload_n hx hb d_Md_thing_68 rfl (lv_at hl 0 rfl) ?_
            refine lv_if_eq (tgt := 85) hx hb d_Md_thing_69 (by decide) (fun c_74 => ?_) (fun c_74 => ?_)
            ·
              exact absurd c_74 (by decide)
            ·
              refine lv_aload_n hx hb d_Md_thing_72 rfl (lv_at hl 1 rfl) ?_
              refine lv_bipush (v := 125) hx hb d_Md_thing_73 (by decide) ?_
              have hPc := hP.sub (ws' := [(aM, .inr (4, [.int th, .ref aMT, .int (nI mu), .ref aNw, .ref aNx, .int mw, .int mwa, .int (nI ma_66), .int (nI en), .long mv_69, .int mf_70, .int ml_72])), (aMT, .inl (kMT, 65536, .inl B))]) [0, 1] rfl
              have hDc := hD.sub (ws' := [(aM, .inr (4, [.int th, .ref aMT, .int (nI mu), .ref aNw, .ref aNx, .int mw, .int mwa, .int (nI ma_66), .int (nI en), .long mv_69, .int mf_70, .int ml_72])), (aMT, .inl (kMT, 65536, .inl B))]) [0, 1] (by decide) rfl
              have hKc := hK.sub (tys' := [(kMT, .byte)]) [0] rfl
              have hFc := va_free (wc := [(aM, .inr (4, [.int th, .ref aMT, .int (nI mu), .ref aNw, .ref aNx, .int mw, .int mwa, .int (nI ma_66), .int (nI en), .long mv_69, .int mf_70, .int ml_72])), (aMT, .inl (kMT, 65536, .inl B))]) hD hS hA [0, 1] rfl
              refine va_calli (va_runV (As := [.int 125]) (rest := []) ⟨hx, hb, hml, hown, hts⟩ (c_Md_sign l G dC dI H.size aM th aMT mu aNw aNx mw mwa ma_66 en mv_69 mf_70 ml_72 kMT B 125 (by omega) (by omega)) (cwV 1 hts (gV tw_537 tw_539 ts_20 tw_5 tw_540 rfl) rfl rfl rfl (by decide +kernel) ⟨Nat.le_of_ble_eq_true rfl, Nat.le_of_ble_eq_true rfl⟩) (PW_preV hPc hKc hDc hE hS hFc (ci := 4) (q0 := 0) rfl rfl) rfl rfl hl.1 rfl (lv_room (Nat.le_of_ble_eq_true rfl)) d_Md_thing_75 ⟨Nat.le_of_ble_eq_true rfl, Nat.le_of_ble_eq_true rfl⟩) hS (fun q _ h => hFc q h) hFc (fun r_75 uu t H1 locs ht hvm hw_79 hB hz1 hk1 hS => ?_)
              obtain ⟨ma_76, mw_77, mwa_78⟩ := uu
              obtain ⟨hP1, hD1, hsz1⟩ := hB
              rw [ht] at hP1 hsz1
              obtain ⟨hP, hD⟩ := va_join (wr := [(aNx, .inl (kNx, 52650, .inl nx_71))]) (w1 := [(aM, .inr (4, [.int th, .ref aMT, .int (nI mu), .ref aNw, .ref aNx, .int mw_77, .int mwa_78, .int (nI ma_76), .int (nI en), .long mv_69, .int mf_70, .int ml_72])), (aMT, .inl (kMT, 65536, .inl B))]) hP hD [0, 1] [2] rfl rfl (by decide) (by decide) hk1 hFc hP1 hD1
              generalize H1 = H at hP hS ⊢
              have hP : va_P (dC, dI) vwCl [(aNx, .inl (kNx, 52650, .inl nx_71)), (aM, .inr (4, [.int th, .ref aMT, .int (nI mu), .ref aNw, .ref aNx, .int mw_77, .int mwa_78, .int (nI ma_76), .int (nI en), .long mv_69, .int mf_70, .int ml_72])), (aMT, .inl (kMT, 65536, .inl B))] H := hP
              have hD : va_D A [(aNx, .inl (kNx, 52650, .inl nx_71)), (aM, .inr (4, [.int th, .ref aMT, .int (nI mu), .ref aNw, .ref aNx, .int mw_77, .int mwa_78, .int (nI ma_76), .int (nI en), .long mv_69, .int mf_70, .int ml_72])), (aMT, .inl (kMT, 65536, .inl B))] := hD
              rcases hw_79 with ⟨rfl, hw_79a, hw_79b, e1, e2⟩ | ⟨rfl, hw_79b, hw_79k, hw_79a, e2⟩
              ·
                have e1 := e1.symm; subst e1
                have e2 := e2.symm; subst e2
                refine lv_if_eq (tgt := 85) hx hb d_Md_thing_78 (by decide) (fun c_80 => ?_) (fun c_80 => ?_)
                ·
                  exact absurd c_80 (by decide)
                ·
                  refine lv_iconst (v := 1) hx hb d_Md_thing_81 (by decide) ?_
                  refine lv_goto (tgt := 86) hx hb d_Md_thing_82 (by decide) ?_
                  refine zt_size (fun hzs => ?_)
                  have hP9 := hP.sub (ws' := [(aM, .inr (4, [.int th, .ref aMT, .int (nI mu), .ref aNw, .ref aNx, .int mw, .int mwa, .int (nI ma_76), .int (nI en), .long mv_69, .int mf_70, .int ml_72])), (aMT, .inl (kMT, 65536, .inl B)), (aNx, .inl (kNx, 52650, .inl nx_71))]) [1, 2, 0] rfl
                  have hD9 := hD.sub (ws' := [(aM, .inr (4, [.int th, .ref aMT, .int (nI mu), .ref aNw, .ref aNx, .int mw, .int mwa, .int (nI ma_76), .int (nI en), .long mv_69, .int mf_70, .int ml_72])), (aMT, .inl (kMT, 65536, .inl B)), (aNx, .inl (kNx, 52650, .inl nx_71))]) [1, 2, 0] (by decide) rfl
                  exact W.zret (v := 1) hx hb hr rfl (fun t ht hW => ⟨⟨1, (ma_76, mw, mwa, mv_69, mf_70, nx_71, ml_72), rfl, Or.inl ⟨rfl, by omega, rfl, rfl, by simp only [mThing, mBody, if_neg c_7, if_pos c_8, hw_5a, hw_73a, hw_79a, zB_ok]⟩, by rw [ht]; exact hP9, hD9, by rw [ht]; exact hzs⟩, hS.F ht⟩) hS.2.2 d_Md_thing_86
              ·
                have e2 := e2.symm; subst e2
                refine lv_if_eq (tgt := 85) hx hb d_Md_thing_78 (by decide) (fun c_81 => ?_) (fun c_81 => ?_)
                ·
                  refine lv_iconst (v := 0) hx hb d_Md_thing_85 (by decide) ?_
                  refine zt_size (fun hzs => ?_)
                  have hP9 := hP.sub (ws' := [(aM, .inr (4, [.int th, .ref aMT, .int (nI mu), .ref aNw, .ref aNx, .int mw_77, .int (nI hw_79k), .int (nI ma_76), .int (nI en), .long mv_69, .int mf_70, .int ml_72])), (aMT, .inl (kMT, 65536, .inl B)), (aNx, .inl (kNx, 52650, .inl nx_71))]) [1, 2, 0] rfl
                  have hD9 := hD.sub (ws' := [(aM, .inr (4, [.int th, .ref aMT, .int (nI mu), .ref aNw, .ref aNx, .int mw_77, .int (nI hw_79k), .int (nI ma_76), .int (nI en), .long mv_69, .int mf_70, .int ml_72])), (aMT, .inl (kMT, 65536, .inl B)), (aNx, .inl (kNx, 52650, .inl nx_71))]) [1, 2, 0] (by decide) rfl
                  exact W.zret (v := 0) hx hb hr rfl (fun t ht hW => ⟨⟨0, (ma_76, mw_77, nI hw_79k, mv_69, mf_70, nx_71, ml_72), rfl, Or.inr ⟨rfl, by omega, _, by simp only [mThing, mBody, if_neg c_7, if_pos c_8, hw_5a, hw_73a, hw_79a, zB_ok, zB_er], rfl⟩, by rw [ht]; exact hP9, hD9, by rw [ht]; exact hzs⟩, hS.F ht⟩) hS.2.2 d_Md_thing_86
                ·
                  exact absurd (by decide) c_81
          ·
            have e2 := e2.symm; subst e2
            refine lv_goto (tgt := 67) hx hb d_Md_thing_33 (by decide) ?_
            refine lv_istore_n (lv' := [(3, .int 0), (0, .ref aM), (1, .int (nI ka)), (2, .int (nI kk))]) hx hb d_Md_thing_67 rfl hl (by decide) rfl (fun ls hl => ?_)
            refine lv_iload_n hx hb d_Md_thing_68 rfl (lv_at hl 0 rfl) ?_
            refine lv_if_eq (tgt := 85) hx hb d_Md_thing_69 (by decide) (fun c_82 => ?_) (fun c_82 => ?_)
            ·
              refine lv_iconst (v := 0) hx hb d_Md_thing_85 (by decide) ?_
              refine zt_size (fun hzs => ?_)
              have hP9 := hP.sub (ws' := [(aM, .inr (4, [.int th, .ref aMT, .int (nI mu), .ref aNw, .ref aNx, .int mw_67, .int (nI hw_73k), .int (nI ma_66), .int (nI en), .long mv_69, .int mf_70, .int ml_72])), (aMT, .inl (kMT, 65536, .inl B)), (aNx, .inl (kNx, 52650, .inl nx_71))]) [0, 1, 2] rfl
              have hD9 := hD.sub (ws' := [(aM, .inr (4, [.int th, .ref aMT, .int (nI mu), .ref aNw, .ref aNx, .int mw_67, .int (nI hw_73k), .int (nI ma_66), .int (nI en), .long mv_69, .int mf_70, .int ml_72])), (aMT, .inl (kMT, 65536, .inl B)), (aNx, .inl (kNx, 52650, .inl nx_71))]) [0, 1, 2] (by decide) rfl
              exact W.zret (v := 0) hx hb hr rfl (fun t ht hW => ⟨⟨0, (ma_66, mw_67, nI hw_73k, mv_69, mf_70, nx_71, ml_72), rfl, Or.inr ⟨rfl, by omega, _, by simp only [mThing, mBody, if_neg c_7, if_pos c_8, hw_5a, hw_73a, zB_ok, zB_er], rfl⟩, by rw [ht]; exact hP9, hD9, by rw [ht]; exact hzs⟩, hS.F ht⟩) hS.2.2 d_Md_thing_86
            ·
              exact absurd (by decide) c_82
      ·
        have c_7 : ka = 0 := (@nI_eq ka 0 (by omega) (by omega)).mp c_7
        refine lv_aload_n hx hb d_Md_thing_15 rfl (lv_at hl 0 rfl) ?_
        refine lv_iload_n hx hb d_Md_thing_16 rfl (lv_at hl 2 rfl) ?_
        have hPc := hP.sub (ws' := [(aM, .inr (4, [.int th, .ref aMT, .int (nI mu), .ref aNw, .ref aNx, .int mw, .int mwa, .int (nI ma_2), .int (nI en), .long mv, .int mf, .int ml])), (aMT, .inl (kMT, 65536, .inl B)), (aNx, .inl (kNx, 52650, .inl nx))]) [1, 2, 0] rfl
        have hDc := hD.sub (ws' := [(aM, .inr (4, [.int th, .ref aMT, .int (nI mu), .ref aNw, .ref aNx, .int mw, .int mwa, .int (nI ma_2), .int (nI en), .long mv, .int mf, .int ml])), (aMT, .inl (kMT, 65536, .inl B)), (aNx, .inl (kNx, 52650, .inl nx))]) [1, 2, 0] (by decide) rfl
        have hKc := hK.sub (tys' := [(kMT, .byte), (kNx, .int)]) [0, 1] rfl
        have hFc := va_free (wc := [(aM, .inr (4, [.int th, .ref aMT, .int (nI mu), .ref aNw, .ref aNx, .int mw, .int mwa, .int (nI ma_2), .int (nI en), .long mv, .int mf, .int ml])), (aMT, .inl (kMT, 65536, .inl B)), (aNx, .inl (kNx, 52650, .inl nx))]) hD hS hA [1, 2, 0] rfl
        refine va_calli (va_runV (As := [.int (nI kk)]) (rest := []) ⟨hx, hb, hml, hown, hts⟩ (c_Md_texture l G dC dI H.size aM th aMT mu aNw aNx mw mwa ma_2 en mv mf ml kMT B kNx nx kk (by omega) (by omega) (by have q9 := hlt; rw [show ka = 0 by omega] at q9; exact q9)) (cwV 1 hts (gV tw_634 tw_636 ts_38 tw_5 tw_637 rfl) rfl rfl rfl (by decide +kernel) ⟨Nat.le_of_ble_eq_true rfl, Nat.le_of_ble_eq_true rfl⟩) (PW_preV hPc hKc hDc hE hS hFc (ci := 4) (q0 := 0) rfl rfl) rfl rfl hl.1 rfl (lv_room (Nat.le_of_ble_eq_true rfl)) d_Md_thing_17 ⟨Nat.le_of_ble_eq_true rfl, Nat.le_of_ble_eq_true rfl⟩) hS (fun q _ h => hFc q h) hFc (fun r_83 uu t H1 locs ht hvm hw_91 hB hz1 hk1 hS => ?_)
        obtain ⟨ma_84, mw_85, mwa_86, mv_87, mf_88, nx_89, ml_90⟩ := uu
        obtain ⟨hP1, hD1, hsz1⟩ := hB
        rw [ht] at hP1 hsz1
        obtain ⟨hP, hD⟩ := va_join (wr := []) (w1 := [(aM, .inr (4, [.int th, .ref aMT, .int (nI mu), .ref aNw, .ref aNx, .int mw_85, .int mwa_86, .int (nI ma_84), .int (nI en), .long mv_87, .int mf_88, .int ml_90])), (aMT, .inl (kMT, 65536, .inl B)), (aNx, .inl (kNx, 52650, .inl nx_89))]) hP hD [1, 2, 0] [] rfl rfl (by decide) (by decide) hk1 hFc hP1 hD1
        generalize H1 = H at hP hS ⊢
        have hP : va_P (dC, dI) vwCl [(aM, .inr (4, [.int th, .ref aMT, .int (nI mu), .ref aNw, .ref aNx, .int mw_85, .int mwa_86, .int (nI ma_84), .int (nI en), .long mv_87, .int mf_88, .int ml_90])), (aMT, .inl (kMT, 65536, .inl B)), (aNx, .inl (kNx, 52650, .inl nx_89))] H := hP
        have hD : va_D A [(aM, .inr (4, [.int th, .ref aMT, .int (nI mu), .ref aNw, .ref aNx, .int mw_85, .int mwa_86, .int (nI ma_84), .int (nI en), .long mv_87, .int mf_88, .int ml_90])), (aMT, .inl (kMT, 65536, .inl B)), (aNx, .inl (kNx, 52650, .inl nx_89))] := hD
        rcases hw_91 with ⟨rfl, hw_91b, e1, e2, hw_91a⟩ | ⟨rfl, hw_91b, hw_91k, hw_91a, e2⟩
        ·
          have e1 := e1.symm; subst e1
          have e2 := e2.symm; subst e2
          refine lv_goto (tgt := 67) hx hb d_Md_thing_20 (by decide) ?_
          refine lv_istore_n (lv' := [(3, .int 1), (0, .ref aM), (1, .int (nI ka)), (2, .int (nI kk))]) hx hb d_Md_thing_67 rfl hl (by decide) rfl (fun ls hl => ?_)
          refine lv_iload_n hx hb d_Md_thing_68 rfl (lv_at hl 0 rfl) ?_
          refine lv_if_eq (tgt := 85) hx hb d_Md_thing_69 (by decide) (fun c_92 => ?_) (fun c_92 => ?_)
          ·
            exact absurd c_92 (by decide)
          ·
            refine lv_aload_n hx hb d_Md_thing_72 rfl (lv_at hl 1 rfl) ?_
            refine lv_bipush (v := 125) hx hb d_Md_thing_73 (by decide) ?_
            have hPc := hP.sub (ws' := [(aM, .inr (4, [.int th, .ref aMT, .int (nI mu), .ref aNw, .ref aNx, .int mw, .int mwa, .int (nI ma_84), .int (nI en), .long mv_87, .int mf_88, .int ml_90])), (aMT, .inl (kMT, 65536, .inl B))]) [0, 1] rfl
            have hDc := hD.sub (ws' := [(aM, .inr (4, [.int th, .ref aMT, .int (nI mu), .ref aNw, .ref aNx, .int mw, .int mwa, .int (nI ma_84), .int (nI en), .long mv_87, .int mf_88, .int ml_90])), (aMT, .inl (kMT, 65536, .inl B))]) [0, 1] (by decide) rfl
            have hKc := hK.sub (tys' := [(kMT, .byte)]) [0] rfl
            have hFc := va_free (wc := [(aM, .inr (4, [.int th, .ref aMT, .int (nI mu), .ref aNw, .ref aNx, .int mw, .int mwa, .int (nI ma_84), .int (nI en), .long mv_87, .int mf_88, .int ml_90])), (aMT, .inl (kMT, 65536, .inl B))]) hD hS hA [0, 1] rfl
            refine va_calli (va_runV (As := [.int 125]) (rest := []) ⟨hx, hb, hml, hown, hts⟩ (c_Md_sign l G dC dI H.size aM th aMT mu aNw aNx mw mwa ma_84 en mv_87 mf_88 ml_90 kMT B 125 (by omega) (by omega)) (cwV 1 hts (gV tw_537 tw_539 ts_20 tw_5 tw_540 rfl) rfl rfl rfl (by decide +kernel) ⟨Nat.le_of_ble_eq_true rfl, Nat.le_of_ble_eq_true rfl⟩) (PW_preV hPc hKc hDc hE hS hFc (ci := 4) (q0 := 0) rfl rfl) rfl rfl hl.1 rfl (lv_room (Nat.le_of_ble_eq_true rfl)) d_Md_thing_75 ⟨Nat.le_of_ble_eq_true rfl, Nat.le_of_ble_eq_true rfl⟩) hS (fun q _ h => hFc q h) hFc (fun r_93 uu t H1 locs ht hvm hw_97 hB hz1 hk1 hS => ?_)
            obtain ⟨ma_94, mw_95, mwa_96⟩ := uu
            obtain ⟨hP1, hD1, hsz1⟩ := hB
            rw [ht] at hP1 hsz1
            obtain ⟨hP, hD⟩ := va_join (wr := [(aNx, .inl (kNx, 52650, .inl nx_89))]) (w1 := [(aM, .inr (4, [.int th, .ref aMT, .int (nI mu), .ref aNw, .ref aNx, .int mw_95, .int mwa_96, .int (nI ma_94), .int (nI en), .long mv_87, .int mf_88, .int ml_90])), (aMT, .inl (kMT, 65536, .inl B))]) hP hD [0, 1] [2] rfl rfl (by decide) (by decide) hk1 hFc hP1 hD1
            generalize H1 = H at hP hS ⊢
            have hP : va_P (dC, dI) vwCl [(aNx, .inl (kNx, 52650, .inl nx_89)), (aM, .inr (4, [.int th, .ref aMT, .int (nI mu), .ref aNw, .ref aNx, .int mw_95, .int mwa_96, .int (nI ma_94), .int (nI en), .long mv_87, .int mf_88, .int ml_90])), (aMT, .inl (kMT, 65536, .inl B))] H := hP
            have hD : va_D A [(aNx, .inl (kNx, 52650, .inl nx_89)), (aM, .inr (4, [.int th, .ref aMT, .int (nI mu), .ref aNw, .ref aNx, .int mw_95, .int mwa_96, .int (nI ma_94), .int (nI en), .long mv_87, .int mf_88, .int ml_90])), (aMT, .inl (kMT, 65536, .inl B))] := hD
            rcases hw_97 with ⟨rfl, hw_97a, hw_97b, e1, e2⟩ | ⟨rfl, hw_97b, hw_97k, hw_97a, e2⟩
            ·
              have e1 := e1.symm; subst e1
              have e2 := e2.symm; subst e2
              refine lv_if_eq (tgt := 85) hx hb d_Md_thing_78 (by decide) (fun c_98 => ?_) (fun c_98 => ?_)
              ·
                exact absurd c_98 (by decide)
              ·
                refine lv_iconst (v := 1) hx hb d_Md_thing_81 (by decide) ?_
                refine lv_goto (tgt := 86) hx hb d_Md_thing_82 (by decide) ?_
                refine zt_size (fun hzs => ?_)
                have hP9 := hP.sub (ws' := [(aM, .inr (4, [.int th, .ref aMT, .int (nI mu), .ref aNw, .ref aNx, .int mw, .int mwa, .int (nI ma_94), .int (nI en), .long mv_87, .int mf_88, .int ml_90])), (aMT, .inl (kMT, 65536, .inl B)), (aNx, .inl (kNx, 52650, .inl nx_89))]) [1, 2, 0] rfl
                have hD9 := hD.sub (ws' := [(aM, .inr (4, [.int th, .ref aMT, .int (nI mu), .ref aNw, .ref aNx, .int mw, .int mwa, .int (nI ma_94), .int (nI en), .long mv_87, .int mf_88, .int ml_90])), (aMT, .inl (kMT, 65536, .inl B)), (aNx, .inl (kNx, 52650, .inl nx_89))]) [1, 2, 0] (by decide) rfl
                exact W.zret (v := 1) hx hb hr rfl (fun t ht hW => ⟨⟨1, (ma_94, mw, mwa, mv_87, mf_88, nx_89, ml_90), rfl, Or.inl ⟨rfl, by omega, rfl, rfl, by simp only [mThing, mBody, if_pos c_7, hw_5a, hw_91a, hw_97a, zB_ok]⟩, by rw [ht]; exact hP9, hD9, by rw [ht]; exact hzs⟩, hS.F ht⟩) hS.2.2 d_Md_thing_86
            ·
              have e2 := e2.symm; subst e2
              refine lv_if_eq (tgt := 85) hx hb d_Md_thing_78 (by decide) (fun c_99 => ?_) (fun c_99 => ?_)
              ·
                refine lv_iconst (v := 0) hx hb d_Md_thing_85 (by decide) ?_
                refine zt_size (fun hzs => ?_)
                have hP9 := hP.sub (ws' := [(aM, .inr (4, [.int th, .ref aMT, .int (nI mu), .ref aNw, .ref aNx, .int mw_95, .int (nI hw_97k), .int (nI ma_94), .int (nI en), .long mv_87, .int mf_88, .int ml_90])), (aMT, .inl (kMT, 65536, .inl B)), (aNx, .inl (kNx, 52650, .inl nx_89))]) [1, 2, 0] rfl
                have hD9 := hD.sub (ws' := [(aM, .inr (4, [.int th, .ref aMT, .int (nI mu), .ref aNw, .ref aNx, .int mw_95, .int (nI hw_97k), .int (nI ma_94), .int (nI en), .long mv_87, .int mf_88, .int ml_90])), (aMT, .inl (kMT, 65536, .inl B)), (aNx, .inl (kNx, 52650, .inl nx_89))]) [1, 2, 0] (by decide) rfl
                exact W.zret (v := 0) hx hb hr rfl (fun t ht hW => ⟨⟨0, (ma_94, mw_95, nI hw_97k, mv_87, mf_88, nx_89, ml_90), rfl, Or.inr ⟨rfl, by omega, _, by simp only [mThing, mBody, if_pos c_7, hw_5a, hw_91a, hw_97a, zB_ok, zB_er], rfl⟩, by rw [ht]; exact hP9, hD9, by rw [ht]; exact hzs⟩, hS.F ht⟩) hS.2.2 d_Md_thing_86
              ·
                exact absurd (by decide) c_99
        ·
          have e2 := e2.symm; subst e2
          refine lv_goto (tgt := 67) hx hb d_Md_thing_20 (by decide) ?_
          refine lv_istore_n (lv' := [(3, .int 0), (0, .ref aM), (1, .int (nI ka)), (2, .int (nI kk))]) hx hb d_Md_thing_67 rfl hl (by decide) rfl (fun ls hl => ?_)
          refine lv_iload_n hx hb d_Md_thing_68 rfl (lv_at hl 0 rfl) ?_
          refine lv_if_eq (tgt := 85) hx hb d_Md_thing_69 (by decide) (fun c_100 => ?_) (fun c_100 => ?_)
          ·
            refine lv_iconst (v := 0) hx hb d_Md_thing_85 (by decide) ?_
            refine zt_size (fun hzs => ?_)
            have hP9 := hP.sub (ws' := [(aM, .inr (4, [.int th, .ref aMT, .int (nI mu), .ref aNw, .ref aNx, .int mw_85, .int (nI hw_91k), .int (nI ma_84), .int (nI en), .long mv_87, .int mf_88, .int ml_90])), (aMT, .inl (kMT, 65536, .inl B)), (aNx, .inl (kNx, 52650, .inl nx_89))]) [0, 1, 2] rfl
            have hD9 := hD.sub (ws' := [(aM, .inr (4, [.int th, .ref aMT, .int (nI mu), .ref aNw, .ref aNx, .int mw_85, .int (nI hw_91k), .int (nI ma_84), .int (nI en), .long mv_87, .int mf_88, .int ml_90])), (aMT, .inl (kMT, 65536, .inl B)), (aNx, .inl (kNx, 52650, .inl nx_89))]) [0, 1, 2] (by decide) rfl
            exact W.zret (v := 0) hx hb hr rfl (fun t ht hW => ⟨⟨0, (ma_84, mw_85, nI hw_91k, mv_87, mf_88, nx_89, ml_90), rfl, Or.inr ⟨rfl, by omega, _, by simp only [mThing, mBody, if_pos c_7, hw_5a, hw_91a, zB_ok, zB_er], rfl⟩, by rw [ht]; exact hP9, hD9, by rw [ht]; exact hzs⟩, hS.F ht⟩) hS.2.2 d_Md_thing_86
          ·
            exact absurd (by decide) c_100
    ·
      exact absurd c_6 (by decide)
  ·
    have e2 := e2.symm; subst e2
    refine lv_if_ne (tgt := 11) hx hb d_Md_thing_6 (by decide) (fun c_101 => ?_) (fun c_101 => ?_)
    ·
      exact absurd (by decide) c_101
    ·
      refine lv_iconst (v := 0) hx hb d_Md_thing_9 (by decide) ?_
      refine zt_size (fun hzs => ?_)
      have hP9 := hP.sub (ws' := [(aM, .inr (4, [.int th, .ref aMT, .int (nI mu), .ref aNw, .ref aNx, .int mw_3, .int (nI hw_5k), .int (nI ma_2), .int (nI en), .long mv, .int mf, .int ml])), (aMT, .inl (kMT, 65536, .inl B)), (aNx, .inl (kNx, 52650, .inl nx))]) [1, 2, 0] rfl
      have hD9 := hD.sub (ws' := [(aM, .inr (4, [.int th, .ref aMT, .int (nI mu), .ref aNw, .ref aNx, .int mw_3, .int (nI hw_5k), .int (nI ma_2), .int (nI en), .long mv, .int mf, .int ml])), (aMT, .inl (kMT, 65536, .inl B)), (aNx, .inl (kNx, 52650, .inl nx))]) [1, 2, 0] (by decide) rfl
      exact W.zret (v := 0) hx hb hr rfl (fun t ht hW => ⟨⟨0, (ma_2, mw_3, nI hw_5k, mv, mf, nx, ml), rfl, Or.inr ⟨rfl, by omega, _, by simp only [mThing, mBody, hw_5a, zB_ok, zB_er], rfl⟩, by rw [ht]; exact hP9, hD9, by rw [ht]; exact hzs⟩, hS.F ht⟩) hS.2.2 d_Md_thing_10
