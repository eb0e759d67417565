def mNode (B : Nat → Int32) (en kk nm : Nat) (s : Nat × (Nat → Int32)) : Except (Int32 × Nat) (Nat × (Nat → Int32)) := zB (mNumK B en (zSb 25) (47816 + 11 * kk) (-1) (nI kk - 1) s) fun a => zB (zMust B en 44 a.2.1) fun h1 =>  zB (mNumK B en (zSb 26) (47816 + 11 * kk + 1) (-1) (nI nm - 1) (h1, a.2.2)) fun b => zB (zMust B en 44 b.2.1) fun h2 =>  zB (mListK B en (zSb 8) false false 3 3 (47816 + 11 * kk + 2) (-nI 4194304) (nI 4194304) (h2, b.2.2)) fun d => zB (zMust B en 44 d.2.1) fun h3 =>  zB (mListK B en (zSb 9) false false 3 3 (47816 + 11 * kk + 5) (-nI 1048576) (nI 1048576) (h3, d.2.2)) fun f => zB (zMust B en 44 f.2.1) fun h4 =>  zB (mListK B en (zSb 27) false false 3 3 (47816 + 11 * kk + 8) (-nI 1048576) (nI 1048576) (h4, f.2.2)) fun g => .ok g.2
def mMaterial (B : Nat → Int32) (en kk nt : Nat) (s : Nat × (Nat → Int32)) : Except (Int32 × Nat) (Nat × (Nat → Int32)) := zB (mListK B en (zSb 17) false false 4 4 (24648 + 8 * kk) 0 255 s) fun a => zB (zMust B en 44 a.2.1) fun h1 =>  zB (mNumK B en (zSb 18) (24648 + 8 * kk + 4) (-1) (nI nt - 1) (h1, a.2.2)) fun b => zB (zMust B en 44 b.2.1) fun h2 =>  zB (mNumK B en (zSb 19) (24648 + 8 * kk + 5) 0 1 (h2, b.2.2)) fun d => .ok d.2
set_option maxHeartbeats 4000000 in
set_option maxRecDepth 100000 in
theorem c_Md_node (l : Launch) (G : ZG) (dC : Nat → ClassId) (dI : Nat → Nat → Nat) (sz : Nat) (aM : Nat) (th : Int32) (aMT : Nat) (mu : Nat) (aNw : Nat) (aNx : Nat) (mw : Int32) (mwa : Int32) (ma : Nat) (en : Nat) (mv : Int64) (mf : Int32) (ml : Int32) (kMT : ClassId) (B : Nat → Int32) (kNx : ClassId) (nx : Nat → Int32) (nm : Nat) (kk : Nat) (hen : en ≤ 65536) (hma : ma ≤ en) (hkk : kk < 48) (hnm : nm ≤ 48) (hn2 : nx 2 = nI nm) : Met l y_Md_node w_Md_node ({ frames := 6, cells := 0, slots := 0, locals := 139 }) (va_Pc [.ref aM, .int (nI kk)] (PW G (dC, dI) [(kMT, .byte), (kNx, .int)] [(aM, .inr (4, [.int th, .ref aMT, .int (nI mu), .ref aNw, .ref aNx, .int mw, .int mwa, .int (nI ma), .int (nI en), .long mv, .int mf, .int ml])), (aMT, .inl (kMT, 65536, .inl B)), (aNx, .inl (kNx, 52650, .inl nx))] sz)) (va_Qi (fun (r : Int32) (uu : Nat × Int32 × Int32 × Int64 × Int32 × (Nat → Int32) × Int32) => (r = 1 ∧ uu.1 ≤ en ∧ uu.2.1 = mw ∧ uu.2.2.1 = mwa ∧ mNode B en kk nm (zK B en ma, nx) = .ok (zK B en uu.1, uu.2.2.2.2.2.1)) ∨ (r = 0 ∧ uu.1 ≤ en ∧ ∃ k, mNode B en kk nm (zK B en ma, nx) = .error (uu.2.1, k) ∧ uu.2.2.1 = nI k)) (fun (uu : Nat × Int32 × Int32 × Int64 × Int32 × (Nat → Int32) × Int32) t => BW (dC, dI) [(aM, .inr (4, [.int th, .ref aMT, .int (nI mu), .ref aNw, .ref aNx, .int uu.2.1, .int uu.2.2.1, .int (nI uu.1), .int (nI en), .long uu.2.2.2.1, .int uu.2.2.2.2.1, .int uu.2.2.2.2.2.2])), (aMT, .inl (kMT, 65536, .inl B)), (aNx, .inl (kNx, 52650, .inl uu.2.2.2.2.2.1))] (va_A [(aM, .inr (4, [.int th, .ref aMT, .int (nI mu), .ref aNw, .ref aNx, .int mw, .int mwa, .int (nI ma), .int (nI en), .long mv, .int mf, .int ml])), (aMT, .inl (kMT, 65536, .inl B)), (aNx, .inl (kNx, 52650, .inl nx))] sz) sz t) (va_A [(aM, .inr (4, [.int th, .ref aMT, .int (nI mu), .ref aNw, .ref aNx, .int mw, .int mwa, .int (nI ma), .int (nI en), .long mv, .int mf, .int ml])), (aMT, .inl (kMT, 65536, .inl B)), (aNx, .inl (kNx, 52650, .inl nx))] sz)) 0 0 (va_A [(aM, .inr (4, [.int th, .ref aMT, .int (nI mu), .ref aNw, .ref aNx, .int mw, .int mwa, .int (nI ma), .int (nI en), .long mv, .int mf, .int ml])), (aMT, .inl (kMT, 65536, .inl B)), (aNx, .inl (kNx, 52650, .inl nx))] sz) := by
  refine Met.ofW (cc := prog_6_method_23_code) (maxL := 3) (ret := (some .boolean)) (by decide) rfl ?_
  intro p e s m args below meth c s₁ Bd hml hv
  obtain ⟨rfl, hsz, hP, hK, hD0, hE⟩ := hv
  have hx := Bd.exec
  have hb := Bd.bytes
  have hr := Bd.returns
  have hts := atoms_spec (ws := w_Md_node) Bd.pre
  have hown : s.vm.findClass R_Md = some m.cls := findClass_of_methodNamed Bd.named
  have hlocks := Bd.notSynchronized
  have hz : ∀ w ∈ ZW, w.before _ s = true := fun w h => hts w (List.mem_cons_of_mem _ h)
  subst hsz
  have hD := hD0.self (sz := s.heap.size)
  generalize hAe : va_A [(aM, .inr (4, [.int th, .ref aMT, .int (nI mu), .ref aNw, .ref aNx, .int mw, .int mwa, .int (nI ma), .int (nI en), .long mv, .int mf, .int ml])), (aMT, .inl (kMT, 65536, .inl B)), (aNx, .inl (kNx, 52650, .inl nx))] s.heap.size = A at hD hE ⊢
  have hA : ∀ q : Nat, s.heap.size ≤ q → A q := fun q h => by rw [← hAe]; exact Or.inr h
  have hS : va_S A s.heap s.heap [] := va_S.rf
  have hl := lv_entry ([.ref aM, .int (nI kk)]) (n := 3) (Nat.le_of_ble_eq_true rfl)
  rw [lg_entry_eq]
  generalize (lg_sl ([.ref aM, .int (nI kk)]) ++ List.replicate (3 - (lg_sl ([.ref aM, .int (nI kk)])).length) Slot.unset).toArray = ls at hl ⊢
  have hl : lv_has ls 3 [(0, .ref aM), (1, .int (nI kk))] := hl
  obtain ⟨H, hH⟩ : ∃ z, z = s.heap := ⟨_, rfl⟩
  have hP : va_P (dC, dI) vwCl [(aM, .inr (4, [.int th, .ref aMT, .int (nI mu), .ref aNw, .ref aNx, .int mw, .int mwa, .int (nI ma), .int (nI en), .long mv, .int mf, .int ml])), (aMT, .inl (kMT, 65536, .inl B)), (aNx, .inl (kNx, 52650, .inl nx))] H := by rw [hH]; exact hP
  have hS : va_S A s.heap H [] := by rw [hH]; exact hS
  refine zt_heap hH ?_
  refine lv_ldc (v := 47816) hx hb hown (hz _ tw_665) d_Md_node_0 ?_
  refine lv_bipush (v := 11) hx hb d_Md_node_2 (by decide) ?_
  refine lv_iload_n hx hb d_Md_node_4 rfl (lv_at hl 1 rfl) ?_
  refine lv_imul hx hb d_Md_node_5 ?_
  refine zt_top (pk_mul 11 kk) ?_
  refine lv_iadd hx hb d_Md_node_6 ?_
  refine zt_top (nI_add 47816 (11 * kk)) ?_
  refine lv_istore_n (lv' := [(2, .int (nI (47816 + (11 * kk)))), (0, .ref aM), (1, .int (nI kk))]) hx hb d_Md_node_7 rfl hl (by decide) rfl (fun ls hl => ?_)
  refine lv_aload_n hx hb d_Md_node_8 rfl (lv_at hl 1 rfl) ?_
  refine lv_ldc2 (v := zWv 25) hx hb hown (hz _ tw_666) d_Md_node_9 ?_
  refine lv_iload_n hx hb d_Md_node_12 rfl (lv_at hl 0 rfl) ?_
  refine lv_iconst (v := -1) hx hb d_Md_node_13 (by decide) ?_
  refine lv_iload_n hx hb d_Md_node_14 rfl (lv_at hl 2 rfl) ?_
  refine lv_iconst (v := 1) hx hb d_Md_node_15 (by decide) ?_
  refine lv_isub hx hb d_Md_node_16 ?_
  have hPc := hP.sub (ws' := [(aM, .inr (4, [.int th, .ref aMT, .int (nI mu), .ref aNw, .ref aNx, .int mw, .int mwa, .int (nI ma), .int (nI en), .long mv, .int mf, .int ml])), (aMT, .inl (kMT, 65536, .inl B)), (aNx, .inl (kNx, 52650, .inl nx))]) [0, 1, 2] rfl
  have hDc := hD.sub (ws' := [(aM, .inr (4, [.int th, .ref aMT, .int (nI mu), .ref aNw, .ref aNx, .int mw, .int mwa, .int (nI ma), .int (nI en), .long mv, .int mf, .int ml])), (aMT, .inl (kMT, 65536, .inl B)), (aNx, .inl (kNx, 52650, .inl nx))]) [0, 1, 2] (by decide) rfl
  have hKc := hK.sub (tys' := [(kMT, .byte), (kNx, .int)]) [0, 1] rfl
  have hFc := va_free (wc := [(aM, .inr (4, [.int th, .ref aMT, .int (nI mu), .ref aNw, .ref aNx, .int mw, .int mwa, .int (nI ma), .int (nI en), .long mv, .int mf, .int ml])), (aMT, .inl (kMT, 65536, .inl B)), (aNx, .inl (kNx, 52650, .inl nx))]) hD hS hA [0, 1, 2] rfl
  refine va_calli (va_runV (As := [.long (zWv 25), .int (nI (47816 + (11 * kk))), .int (-1), .int ((nI kk) - 1)]) (rest := []) ⟨hx, hb, hml, hown, hts⟩ (c_Md_named l G dC dI H.size aM th aMT mu aNw aNx mw mwa ma en mv mf ml kMT B kNx nx 25 (47816 + (11 * kk)) (-1) ((nI kk) - 1) (by omega) (by omega) (by decide) (by decide) (zSb_len _) (by omega) (by decide) (by decide) (by rw [show nI kk - 1 = nI kk - nI 1 from rfl, pk_sub_toInt (by omega) (by omega)]; omega) (by rw [show nI kk - 1 = nI kk - nI 1 from rfl, pk_sub_toInt (by omega) (by omega)]; omega)) (cwV 4 hts (gV tw_611 tw_613 ts_33 tw_5 tw_614 rfl) rfl rfl rfl (by decide +kernel) ⟨Nat.le_of_ble_eq_true rfl, Nat.le_of_ble_eq_true rfl⟩) (PW_preV hPc hKc hDc hE hS hFc (ci := 4) (q0 := 0) rfl rfl) rfl rfl hl.1 rfl (lv_room (Nat.le_of_ble_eq_true rfl)) d_Md_node_17 ⟨Nat.le_of_ble_eq_true rfl, Nat.le_of_ble_eq_true rfl⟩) hS (fun q _ h => hFc q h) hFc (fun r_1 uu t H1 locs ht hvm hw_8 hB hz1 hk1 hS => ?_)
  obtain ⟨ma_2, mw_3, mwa_4, mv_5, mf_6, nx_7⟩ := uu
  obtain ⟨hP1, hD1, hsz1⟩ := hB
  rw [ht] at hP1 hsz1
  obtain ⟨hP, hD⟩ := va_join (wr := []) (w1 := [(aM, .inr (4, [.int th, .ref aMT, .int (nI mu), .ref aNw, .ref aNx, .int mw_3, .int mwa_4, .int (nI ma_2), .int (nI en), .long mv_5, .int mf_6, .int ml])), (aMT, .inl (kMT, 65536, .inl B)), (aNx, .inl (kNx, 52650, .inl nx_7))]) hP hD [0, 1, 2] [] rfl rfl (by decide) (by decide) hk1 hFc hP1 hD1
  generalize H1 = H at hP hS ⊢
  have hP : va_P (dC, dI) vwCl [(aM, .inr (4, [.int th, .ref aMT, .int (nI mu), .ref aNw, .ref aNx, .int mw_3, .int mwa_4, .int (nI ma_2), .int (nI en), .long mv_5, .int mf_6, .int ml])), (aMT, .inl (kMT, 65536, .inl B)), (aNx, .inl (kNx, 52650, .inl nx_7))] H := hP
  have hD : va_D A [(aM, .inr (4, [.int th, .ref aMT, .int (nI mu), .ref aNw, .ref aNx, .int mw_3, .int mwa_4, .int (nI ma_2), .int (nI en), .long mv_5, .int mf_6, .int ml])), (aMT, .inl (kMT, 65536, .inl B)), (aNx, .inl (kNx, 52650, .inl nx_7))] := hD
  rcases hw_8 with ⟨rfl, hw_8b, e1, e2, hw_8v, hw_8a, e3⟩ | ⟨rfl, hw_8b, hw_8k, hw_8a, e2⟩
  ·
    have e1 := e1.symm; subst e1
    have e2 := e2.symm; subst e2
    have e3 := e3.symm; subst e3
    refine lv_if_eq (tgt := 131) hx hb d_Md_node_20 (by decide) (fun c_9 => ?_) (fun c_9 => ?_)
    ·
      exact absurd c_9 (by decide)
    ·
      refine lv_aload_n hx hb d_Md_node_23 rfl (lv_at hl 1 rfl) ?_
      refine lv_bipush (v := 44) hx hb d_Md_node_24 (by decide) ?_
      have hPc := hP.sub (ws' := [(aM, .inr (4, [.int th, .ref aMT, .int (nI mu), .ref aNw, .ref aNx, .int mw, .int mwa, .int (nI ma_2), .int (nI en), .long mv_5, .int mf_6, .int ml])), (aMT, .inl (kMT, 65536, .inl B))]) [0, 1] rfl
      have hDc := hD.sub (ws' := [(aM, .inr (4, [.int th, .ref aMT, .int (nI mu), .ref aNw, .ref aNx, .int mw, .int mwa, .int (nI ma_2), .int (nI en), .long mv_5, .int mf_6, .int ml])), (aMT, .inl (kMT, 65536, .inl B))]) [0, 1] (by decide) rfl
      have hKc := hK.sub (tys' := [(kMT, .byte)]) [0] rfl
      have hFc := va_free (wc := [(aM, .inr (4, [.int th, .ref aMT, .int (nI mu), .ref aNw, .ref aNx, .int mw, .int mwa, .int (nI ma_2), .int (nI en), .long mv_5, .int mf_6, .int ml])), (aMT, .inl (kMT, 65536, .inl B))]) hD hS hA [0, 1] rfl
      refine va_calli (va_runV (As := [.int 44]) (rest := []) ⟨hx, hb, hml, hown, hts⟩ (c_Md_sign l G dC dI H.size aM th aMT mu aNw aNx mw mwa ma_2 en mv_5 mf_6 ml kMT B 44 (by omega) (by omega)) (cwV 1 hts (gV tw_537 tw_539 ts_20 tw_5 tw_540 rfl) rfl rfl rfl (by decide +kernel) ⟨Nat.le_of_ble_eq_true rfl, Nat.le_of_ble_eq_true rfl⟩) (PW_preV hPc hKc hDc hE hS hFc (ci := 4) (q0 := 0) rfl rfl) rfl rfl hl.1 rfl (lv_room (Nat.le_of_ble_eq_true rfl)) d_Md_node_26 ⟨Nat.le_of_ble_eq_true rfl, Nat.le_of_ble_eq_true rfl⟩) hS (fun q _ h => hFc q h) hFc (fun r_10 uu t H1 locs ht hvm hw_14 hB hz1 hk1 hS => ?_)
      obtain ⟨ma_11, mw_12, mwa_13⟩ := uu
      obtain ⟨hP1, hD1, hsz1⟩ := hB
      rw [ht] at hP1 hsz1
      obtain ⟨hP, hD⟩ := va_join (wr := [(aNx, .inl (kNx, 52650, .inl (upd nx (47816 + (11 * kk)) hw_8v)))]) (w1 := [(aM, .inr (4, [.int th, .ref aMT, .int (nI mu), .ref aNw, .ref aNx, .int mw_12, .int mwa_13, .int (nI ma_11), .int (nI en), .long mv_5, .int mf_6, .int ml])), (aMT, .inl (kMT, 65536, .inl B))]) hP hD [0, 1] [2] rfl rfl (by decide) (by decide) hk1 hFc hP1 hD1
      generalize H1 = H at hP hS ⊢
      have hP : va_P (dC, dI) vwCl [(aNx, .inl (kNx, 52650, .inl (upd nx (47816 + (11 * kk)) hw_8v))), (aM, .inr (4, [.int th, .ref aMT, .int (nI mu), .ref aNw, .ref aNx, .int mw_12, .int mwa_13, .int (nI ma_11), .int (nI en), .long mv_5, .int mf_6, .int ml])), (aMT, .inl (kMT, 65536, .inl B))] H := hP
      have hD : va_D A [(aNx, .inl (kNx, 52650, .inl (upd nx (47816 + (11 * kk)) hw_8v))), (aM, .inr (4, [.int th, .ref aMT, .int (nI mu), .ref aNw, .ref aNx, .int mw_12, .int mwa_13, .int (nI ma_11), .int (nI en), .long mv_5, .int mf_6, .int ml])), (aMT, .inl (kMT, 65536, .inl B))] := hD
      rcases hw_14 with ⟨rfl, hw_14a, hw_14b, e1, e2⟩ | ⟨rfl, hw_14b, hw_14k, hw_14a, e2⟩
      ·
        have e1 := e1.symm; subst e1
        have e2 := e2.symm; subst e2
        refine lv_if_eq (tgt := 131) hx hb d_Md_node_29 (by decide) (fun c_15 => ?_) (fun c_15 => ?_)
        ·
          exact absurd c_15 (by decide)
        ·
          refine lv_aload_n hx hb d_Md_node_32 rfl (lv_at hl 1 rfl) ?_
          refine lv_ldc2 (v := zWv 26) hx hb hown (hz _ tw_667) d_Md_node_33 ?_
          refine lv_iload_n hx hb d_Md_node_36 rfl (lv_at hl 0 rfl) ?_
          refine lv_iconst (v := 1) hx hb d_Md_node_37 (by decide) ?_
          refine lv_iadd hx hb d_Md_node_38 ?_
          refine zt_top (nI_add (47816 + (11 * kk)) 1) ?_
          refine lv_iconst (v := -1) hx hb d_Md_node_39 (by decide) ?_
          refine lv_aload_n hx hb d_Md_node_40 rfl (lv_at hl 1 rfl) ?_
          refine va_get (D := (dC, dI)) (ci := 4) (v := .ref aNx) (C := R_Md) (T := F_Md) (N := 12) hx hb hz i_Md hown hK hP 1 rfl rfl 4 (by decide) (hz _ tw_480) (fun _ h9 => h9) rfl d_Md_node_41 ?_
          refine lv_iconst (v := 2) hx hb d_Md_node_44 (by decide) ?_
          refine va_iald (D := (dC, dI)) (i := nI 2) hx hb hK hP 0 1 rfl rfl (vp_in_nI (by omega) (by decide)) d_Md_node_45 ?_
          refine zt_top (by rw [nI_clamp (by omega)]) ?_
          refine zt_top (y := nI nm) (by rw [pk_un (by omega)]; exact hn2) ?_
          refine lv_iconst (v := 1) hx hb d_Md_node_46 (by decide) ?_
          refine lv_isub hx hb d_Md_node_47 ?_
          have hPc := hP.sub (ws' := [(aM, .inr (4, [.int th, .ref aMT, .int (nI mu), .ref aNw, .ref aNx, .int mw, .int mwa, .int (nI ma_11), .int (nI en), .long mv_5, .int mf_6, .int ml])), (aMT, .inl (kMT, 65536, .inl B)), (aNx, .inl (kNx, 52650, .inl (upd nx (47816 + (11 * kk)) hw_8v)))]) [1, 2, 0] rfl
          have hDc := hD.sub (ws' := [(aM, .inr (4, [.int th, .ref aMT, .int (nI mu), .ref aNw, .ref aNx, .int mw, .int mwa, .int (nI ma_11), .int (nI en), .long mv_5, .int mf_6, .int ml])), (aMT, .inl (kMT, 65536, .inl B)), (aNx, .inl (kNx, 52650, .inl (upd nx (47816 + (11 * kk)) hw_8v)))]) [1, 2, 0] (by decide) rfl
          have hKc := hK.sub (tys' := [(kMT, .byte), (kNx, .int)]) [0, 1] rfl
          have hFc := va_free (wc := [(aM, .inr (4, [.int th, .ref aMT, .int (nI mu), .ref aNw, .ref aNx, .int mw, .int mwa, .int (nI ma_11), .int (nI en), .long mv_5, .int mf_6, .int ml])), (aMT, .inl (kMT, 65536, .inl B)), (aNx, .inl (kNx, 52650, .inl (upd nx (47816 + (11 * kk)) hw_8v)))]) hD hS hA [1, 2, 0] rfl
          refine va_calli (va_runV (As := [.long (zWv 26), .int (nI ((47816 + (11 * kk)) + 1)), .int (-1), .int ((nI nm) - 1)]) (rest := []) ⟨hx, hb, hml, hown, hts⟩ (c_Md_named l G dC dI H.size aM th aMT mu aNw aNx mw mwa ma_11 en mv_5 mf_6 ml kMT B kNx (upd nx (47816 + (11 * kk)) hw_8v) 26 ((47816 + (11 * kk)) + 1) (-1) ((nI nm) - 1) (by omega) (by omega) (by decide) (by decide) (zSb_len _) (by omega) (by decide) (by decide) (by rw [show nI nm - 1 = nI nm - nI 1 from rfl, pk_sub_toInt (by omega) (by omega)]; omega) (by rw [show nI nm - 1 = nI nm - nI 1 from rfl, pk_sub_toInt (by omega) (by omega)]; omega)) (cwV 4 hts (gV tw_611 tw_613 ts_33 tw_5 tw_614 rfl) rfl rfl rfl (by decide +kernel) ⟨Nat.le_of_ble_eq_true rfl, Nat.le_of_ble_eq_true rfl⟩) (PW_preV hPc hKc hDc hE hS hFc (ci := 4) (q0 := 0) rfl rfl) rfl rfl hl.1 rfl (lv_room (Nat.le_of_ble_eq_true rfl)) d_Md_node_48 ⟨Nat.le_of_ble_eq_true rfl, Nat.le_of_ble_eq_true rfl⟩) hS (fun q _ h => hFc q h) hFc (fun r_16 uu t H1 locs ht hvm hw_23 hB hz1 hk1 hS => ?_)
          obtain ⟨ma_17, mw_18, mwa_19, mv_20, mf_21, nx_22⟩ := uu
          obtain ⟨hP1, hD1, hsz1⟩ := hB
          rw [ht] at hP1 hsz1
          obtain ⟨hP, hD⟩ := va_join (wr := []) (w1 := [(aM, .inr (4, [.int th, .ref aMT, .int (nI mu), .ref aNw, .ref aNx, .int mw_18, .int mwa_19, .int (nI ma_17), .int (nI en), .long mv_20, .int mf_21, .int ml])), (aMT, .inl (kMT, 65536, .inl B)), (aNx, .inl (kNx, 52650, .inl nx_22))]) hP hD [1, 2, 0] [] rfl rfl (by decide) (by decide) hk1 hFc hP1 hD1
          generalize H1 = H at hP hS ⊢
          have hP : va_P (dC, dI) vwCl [(aM, .inr (4, [.int th, .ref aMT, .int (nI mu), .ref aNw, .ref aNx, .int mw_18, .int mwa_19, .int (nI ma_17), .int (nI en), .long mv_20, .int mf_21, .int ml])), (aMT, .inl (kMT, 65536, .inl B)), (aNx, .inl (kNx, 52650, .inl nx_22))] H := hP
          have hD : va_D A [(aM, .inr (4, [.int th, .ref aMT, .int (nI mu), .ref aNw, .ref aNx, .int mw_18, .int mwa_19, .int (nI ma_17), .int (nI en), .long mv_20, .int mf_21, .int ml])), (aMT, .inl (kMT, 65536, .inl B)), (aNx, .inl (kNx, 52650, .inl nx_22))] := hD
          rcases hw_23 with ⟨rfl, hw_23b, e1, e2, hw_23v, hw_23a, e3⟩ | ⟨rfl, hw_23b, hw_23k, hw_23a, e2⟩
          ·
            have e1 := e1.symm; subst e1
            have e2 := e2.symm; subst e2
            have e3 := e3.symm; subst e3
            refine lv_if_eq (tgt := 131) hx hb d_Md_node_51 (by decide) (fun c_24 => ?_) (fun c_24 => ?_)
            ·
              exact absurd c_24 (by decide)
            ·
              refine lv_aload_n hx hb d_Md_node_54 rfl (lv_at hl 1 rfl) ?_
              refine lv_bipush (v := 44) hx hb d_Md_node_55 (by decide) ?_
              have hPc := hP.sub (ws' := [(aM, .inr (4, [.int th, .ref aMT, .int (nI mu), .ref aNw, .ref aNx, .int mw, .int mwa, .int (nI ma_17), .int (nI en), .long mv_20, .int mf_21, .int ml])), (aMT, .inl (kMT, 65536, .inl B))]) [0, 1] rfl
              have hDc := hD.sub (ws' := [(aM, .inr (4, [.int th, .ref aMT, .int (nI mu), .ref aNw, .ref aNx, .int mw, .int mwa, .int (nI ma_17), .int (nI en), .long mv_20, .int mf_21, .int ml])), (aMT, .inl (kMT, 65536, .inl B))]) [0, 1] (by decide) rfl
              have hKc := hK.sub (tys' := [(kMT, .byte)]) [0] rfl
              have hFc := va_free (wc := [(aM, .inr (4, [.int th, .ref aMT, .int (nI mu), .ref aNw, .ref aNx, .int mw, .int mwa, .int (nI ma_17), .int (nI en), .long mv_20, .int mf_21, .int ml])), (aMT, .inl (kMT, 65536, .inl B))]) hD hS hA [0, 1] rfl
              refine va_calli (va_runV (As := [.int 44]) (rest := []) ⟨hx, hb, hml, hown, hts⟩ (c_Md_sign l G dC dI H.size aM th aMT mu aNw aNx mw mwa ma_17 en mv_20 mf_21 ml kMT B 44 (by omega) (by omega)) (cwV 1 hts (gV tw_537 tw_539 ts_20 tw_5 tw_540 rfl) rfl rfl rfl (by decide +kernel) ⟨Nat.le_of_ble_eq_true rfl, Nat.le_of_ble_eq_true rfl⟩) (PW_preV hPc hKc hDc hE hS hFc (ci := 4) (q0 := 0) rfl rfl) rfl rfl hl.1 rfl (lv_room (Nat.le_of_ble_eq_true rfl)) d_Md_node_57 ⟨Nat.le_of_ble_eq_true rfl, Nat.le_of_ble_eq_true rfl⟩) hS (fun q _ h => hFc q h) hFc (fun r_25 uu t H1 locs ht hvm hw_29 hB hz1 hk1 hS => ?_)
              obtain ⟨ma_26, mw_27, mwa_28⟩ := uu
              obtain ⟨hP1, hD1, hsz1⟩ := hB
              rw [ht] at hP1 hsz1
              obtain ⟨hP, hD⟩ := va_join (wr := [(aNx, .inl (kNx, 52650, .inl (upd (upd nx (47816 + (11 * kk)) hw_8v) ((47816 + (11 * kk)) + 1) hw_23v)))]) (w1 := [(aM, .inr (4, [.int th, .ref aMT, .int (nI mu), .ref aNw, .ref aNx, .int mw_27, .int mwa_28, .int (nI ma_26), .int (nI en), .long mv_20, .int mf_21, .int ml])), (aMT, .inl (kMT, 65536, .inl B))]) hP hD [0, 1] [2] rfl rfl (by decide) (by decide) hk1 hFc hP1 hD1
              generalize H1 = H at hP hS ⊢
              have hP : va_P (dC, dI) vwCl [(aNx, .inl (kNx, 52650, .inl (upd (upd nx (47816 + (11 * kk)) hw_8v) ((47816 + (11 * kk)) + 1) hw_23v))), (aM, .inr (4, [.int th, .ref aMT, .int (nI mu), .ref aNw, .ref aNx, .int mw_27, .int mwa_28, .int (nI ma_26), .int (nI en), .long mv_20, .int mf_21, .int ml])), (aMT, .inl (kMT, 65536, .inl B))] H := hP
              have hD : va_D A [(aNx, .inl (kNx, 52650, .inl (upd (upd nx (47816 + (11 * kk)) hw_8v) ((47816 + (11 * kk)) + 1) hw_23v))), (aM, .inr (4, [.int th, .ref aMT, .int (nI mu), .ref aNw, .ref aNx, .int mw_27, .int mwa_28, .int (nI ma_26), .int (nI en), .long mv_20, .int mf_21, .int ml])), (aMT, .inl (kMT, 65536, .inl B))] := hD
              rcases hw_29 with ⟨rfl, hw_29a, hw_29b, e1, e2⟩ | ⟨rfl, hw_29b, hw_29k, hw_29a, e2⟩
              ·
                have e1 := e1.symm; subst e1
                have e2 := e2.symm; subst e2
                refine lv_if_eq (tgt := 131) hx hb d_Md_node_60 (by decide) (fun c_30 => ?_) (fun c_30 => ?_)
                ·
                  exact absurd c_30 (by decide)
                ·
                  refine lv_aload_n hx hb d_Md_node_63 rfl (lv_at hl 1 rfl) ?_
                  refine lv_ldc2 (v := zWv 8) hx hb hown (hz _ tw_585) d_Md_node_64 ?_
                  refine lv_iload_n hx hb d_Md_node_67 rfl (lv_at hl 0 rfl) ?_
                  refine lv_iconst (v := 2) hx hb d_Md_node_68 (by decide) ?_
                  refine lv_iadd hx hb d_Md_node_69 ?_
                  refine zt_top (nI_add (47816 + (11 * kk)) 2) ?_
                  refine lv_ldc (v := 4194304) hx hb hown (hz _ tw_587) d_Md_node_70 ?_
                  have hPc := hP.sub (ws' := [(aM, .inr (4, [.int th, .ref aMT, .int (nI mu), .ref aNw, .ref aNx, .int mw, .int mwa, .int (nI ma_26), .int (nI en), .long mv_20, .int mf_21, .int ml])), (aMT, .inl (kMT, 65536, .inl B)), (aNx, .inl (kNx, 52650, .inl (upd (upd nx (47816 + (11 * kk)) hw_8v) ((47816 + (11 * kk)) + 1) hw_23v)))]) [1, 2, 0] rfl
                  have hDc := hD.sub (ws' := [(aM, .inr (4, [.int th, .ref aMT, .int (nI mu), .ref aNw, .ref aNx, .int mw, .int mwa, .int (nI ma_26), .int (nI en), .long mv_20, .int mf_21, .int ml])), (aMT, .inl (kMT, 65536, .inl B)), (aNx, .inl (kNx, 52650, .inl (upd (upd nx (47816 + (11 * kk)) hw_8v) ((47816 + (11 * kk)) + 1) hw_23v)))]) [1, 2, 0] (by decide) rfl
                  have hKc := hK.sub (tys' := [(kMT, .byte), (kNx, .int)]) [0, 1] rfl
                  have hFc := va_free (wc := [(aM, .inr (4, [.int th, .ref aMT, .int (nI mu), .ref aNw, .ref aNx, .int mw, .int mwa, .int (nI ma_26), .int (nI en), .long mv_20, .int mf_21, .int ml])), (aMT, .inl (kMT, 65536, .inl B)), (aNx, .inl (kNx, 52650, .inl (upd (upd nx (47816 + (11 * kk)) hw_8v) ((47816 + (11 * kk)) + 1) hw_23v)))]) hD hS hA [1, 2, 0] rfl
                  refine va_calli (va_runV (As := [.long (zWv 8), .int (nI ((47816 + (11 * kk)) + 2)), .int (nI 4194304)]) (rest := []) ⟨hx, hb, hml, hown, hts⟩ (c_Md_three l G dC dI H.size aM th aMT mu aNw aNx mw mwa ma_26 en mv_20 mf_21 ml kMT B kNx (upd (upd nx (47816 + (11 * kk)) hw_8v) ((47816 + (11 * kk)) + 1) hw_23v) 8 ((47816 + (11 * kk)) + 2) 4194304 (by omega) (by omega) (by decide) (by decide) (zSb_len _) (by omega) (by omega)) (cwV 3 hts (gV tw_588 tw_590 ts_29 tw_5 tw_591 rfl) rfl rfl rfl (by decide +kernel) ⟨Nat.le_of_ble_eq_true rfl, Nat.le_of_ble_eq_true rfl⟩) (PW_preV hPc hKc hDc hE hS hFc (ci := 4) (q0 := 0) rfl rfl) rfl rfl hl.1 rfl (lv_room (Nat.le_of_ble_eq_true rfl)) d_Md_node_72 ⟨Nat.le_of_ble_eq_true rfl, Nat.le_of_ble_eq_true rfl⟩) hS (fun q _ h => hFc q h) hFc (fun r_31 uu t H1 locs ht hvm hw_39 hB hz1 hk1 hS => ?_)
                  obtain ⟨ma_32, mw_33, mwa_34, mv_35, mf_36, nx_37, ml_38⟩ := uu
                  obtain ⟨hP1, hD1, hsz1⟩ := hB
                  rw [ht] at hP1 hsz1
                  obtain ⟨hP, hD⟩ := va_join (wr := []) (w1 := [(aM, .inr (4, [.int th, .ref aMT, .int (nI mu), .ref aNw, .ref aNx, .int mw_33, .int mwa_34, .int (nI ma_32), .int (nI en), .long mv_35, .int mf_36, .int ml_38])), (aMT, .inl (kMT, 65536, .inl B)), (aNx, .inl (kNx, 52650, .inl nx_37))]) hP hD [1, 2, 0] [] rfl rfl (by decide) (by decide) hk1 hFc hP1 hD1
                  generalize H1 = H at hP hS ⊢
                  have hP : va_P (dC, dI) vwCl [(aM, .inr (4, [.int th, .ref aMT, .int (nI mu), .ref aNw, .ref aNx, .int mw_33, .int mwa_34, .int (nI ma_32), .int (nI en), .long mv_35, .int mf_36, .int ml_38])), (aMT, .inl (kMT, 65536, .inl B)), (aNx, .inl (kNx, 52650, .inl nx_37))] H := hP
                  have hD : va_D A [(aM, .inr (4, [.int th, .ref aMT, .int (nI mu), .ref aNw, .ref aNx, .int mw_33, .int mwa_34, .int (nI ma_32), .int (nI en), .long mv_35, .int mf_36, .int ml_38])), (aMT, .inl (kMT, 65536, .inl B)), (aNx, .inl (kNx, 52650, .inl nx_37))] := hD
                  simp only [zf01, zf11, zg13, zg33, decide_true, decide_false] at hw_39
                  rcases hw_39 with ⟨rfl, hw_39b, e1, e2, hw_39n, hw_39a, e3⟩ | ⟨rfl, hw_39b, hw_39k, hw_39a, e2⟩
                  ·
                    have e1 := e1.symm; subst e1
                    have e2 := e2.symm; subst e2
                    have e3 := e3.symm; subst e3
                    refine lv_if_eq (tgt := 131) hx hb d_Md_node_75 (by decide) (fun c_40 => ?_) (fun c_40 => ?_)
                    ·
                      exact absurd c_40 (by decide)
                    ·
                      refine lv_aload_n hx hb d_Md_node_78 rfl (lv_at hl 1 rfl) ?_
                      refine lv_bipush (v := 44) hx hb d_Md_node_79 (by decide) ?_
                      have hPc := hP.sub (ws' := [(aM, .inr (4, [.int th, .ref aMT, .int (nI mu), .ref aNw, .ref aNx, .int mw, .int mwa, .int (nI ma_32), .int (nI en), .long mv_35, .int mf_36, .int (nI hw_39n)])), (aMT, .inl (kMT, 65536, .inl B))]) [0, 1] rfl
                      have hDc := hD.sub (ws' := [(aM, .inr (4, [.int th, .ref aMT, .int (nI mu), .ref aNw, .ref aNx, .int mw, .int mwa, .int (nI ma_32), .int (nI en), .long mv_35, .int mf_36, .int (nI hw_39n)])), (aMT, .inl (kMT, 65536, .inl B))]) [0, 1] (by decide) rfl
                      have hKc := hK.sub (tys' := [(kMT, .byte)]) [0] rfl
                      have hFc := va_free (wc := [(aM, .inr (4, [.int th, .ref aMT, .int (nI mu), .ref aNw, .ref aNx, .int mw, .int mwa, .int (nI ma_32), .int (nI en), .long mv_35, .int mf_36, .int (nI hw_39n)])), (aMT, .inl (kMT, 65536, .inl B))]) hD hS hA [0, 1] rfl
                      refine va_calli (va_runV (As := [.int 44]) (rest := []) ⟨hx, hb, hml, hown, hts⟩ (c_Md_sign l G dC dI H.size aM th aMT mu aNw aNx mw mwa ma_32 en mv_35 mf_36 (nI hw_39n) kMT B 44 (by omega) (by omega)) (cwV 1 hts (gV tw_537 tw_539 ts_20 tw_5 tw_540 rfl) rfl rfl rfl (by decide +kernel) ⟨Nat.le_of_ble_eq_true rfl, Nat.le_of_ble_eq_true rfl⟩) (PW_preV hPc hKc hDc hE hS hFc (ci := 4) (q0 := 0) rfl rfl) rfl rfl hl.1 rfl (lv_room (Nat.le_of_ble_eq_true rfl)) d_Md_node_81 ⟨Nat.le_of_ble_eq_true rfl, Nat.le_of_ble_eq_true rfl⟩) hS (fun q _ h => hFc q h) hFc (fun r_41 uu t H1 locs ht hvm hw_45 hB hz1 hk1 hS => ?_)
                      obtain ⟨ma_42, mw_43, mwa_44⟩ := uu
                      obtain ⟨hP1, hD1, hsz1⟩ := hB
                      rw [ht] at hP1 hsz1
                      obtain ⟨hP, hD⟩ := va_join (wr := [(aNx, .inl (kNx, 52650, .inl nx_37))]) (w1 := [(aM, .inr (4, [.int th, .ref aMT, .int (nI mu), .ref aNw, .ref aNx, .int mw_43, .int mwa_44, .int (nI ma_42), .int (nI en), .long mv_35, .int mf_36, .int (nI hw_39n)])), (aMT, .inl (kMT, 65536, .inl B))]) hP hD [0, 1] [2] rfl rfl (by decide) (by decide) hk1 hFc hP1 hD1
                      generalize H1 = H at hP hS ⊢
                      have hP : va_P (dC, dI) vwCl [(aNx, .inl (kNx, 52650, .inl nx_37)), (aM, .inr (4, [.int th, .ref aMT, .int (nI mu), .ref aNw, .ref aNx, .int mw_43, .int mwa_44, .int (nI ma_42), .int (nI en), .long mv_35, .int mf_36, .int (nI hw_39n)])), (aMT, .inl (kMT, 65536, .inl B))] H := hP
                      have hD : va_D A [(aNx, .inl (kNx, 52650, .inl nx_37)), (aM, .inr (4, [.int th, .ref aMT, .int (nI mu), .ref aNw, .ref aNx, .int mw_43, .int mwa_44, .int (nI ma_42), .int (nI en), .long mv_35, .int mf_36, .int (nI hw_39n)])), (aMT, .inl (kMT, 65536, .inl B))] := hD
                      rcases hw_45 with ⟨rfl, hw_45a, hw_45b, e1, e2⟩ | ⟨rfl, hw_45b, hw_45k, hw_45a, e2⟩
                      ·
                        have e1 := e1.symm; subst e1
                        have e2 := e2.symm; subst e2
                        refine lv_if_eq (tgt := 131) hx hb d_Md_node_84 (by decide) (fun c_46 => ?_) (fun c_46 => ?_)
                        ·
                          exact absurd c_46 (by decide)
                        ·
                          refine lv_aload_n hx hb d_Md_node_87 rfl (lv_at hl 1 rfl) ?_
                          refine lv_ldc2 (v := zWv 9) hx hb hown (hz _ tw_607) d_Md_node_88 ?_
                          refine lv_iload_n hx hb d_Md_node_91 rfl (lv_at hl 0 rfl) ?_
                          refine lv_iconst (v := 5) hx hb d_Md_node_92 (by decide) ?_
                          refine lv_iadd hx hb d_Md_node_93 ?_
                          refine zt_top (nI_add (47816 + (11 * kk)) 5) ?_
                          refine lv_ldc (v := 1048576) hx hb hown (hz _ tw_609) d_Md_node_94 ?_
                          have hPc := hP.sub (ws' := [(aM, .inr (4, [.int th, .ref aMT, .int (nI mu), .ref aNw, .ref aNx, .int mw, .int mwa, .int (nI ma_42), .int (nI en), .long mv_35, .int mf_36, .int (nI hw_39n)])), (aMT, .inl (kMT, 65536, .inl B)), (aNx, .inl (kNx, 52650, .inl nx_37))]) [1, 2, 0] rfl
                          have hDc := hD.sub (ws' := [(aM, .inr (4, [.int th, .ref aMT, .int (nI mu), .ref aNw, .ref aNx, .int mw, .int mwa, .int (nI ma_42), .int (nI en), .long mv_35, .int mf_36, .int (nI hw_39n)])), (aMT, .inl (kMT, 65536, .inl B)), (aNx, .inl (kNx, 52650, .inl nx_37))]) [1, 2, 0] (by decide) rfl
                          have hKc := hK.sub (tys' := [(kMT, .byte), (kNx, .int)]) [0, 1] rfl
                          have hFc := va_free (wc := [(aM, .inr (4, [.int th, .ref aMT, .int (nI mu), .ref aNw, .ref aNx, .int mw, .int mwa, .int (nI ma_42), .int (nI en), .long mv_35, .int mf_36, .int (nI hw_39n)])), (aMT, .inl (kMT, 65536, .inl B)), (aNx, .inl (kNx, 52650, .inl nx_37))]) hD hS hA [1, 2, 0] rfl
                          refine va_calli (va_runV (As := [.long (zWv 9), .int (nI ((47816 + (11 * kk)) + 5)), .int (nI 1048576)]) (rest := []) ⟨hx, hb, hml, hown, hts⟩ (c_Md_three l G dC dI H.size aM th aMT mu aNw aNx mw mwa ma_42 en mv_35 mf_36 (nI hw_39n) kMT B kNx nx_37 9 ((47816 + (11 * kk)) + 5) 1048576 (by omega) (by omega) (by decide) (by decide) (zSb_len _) (by omega) (by omega)) (cwV 3 hts (gV tw_588 tw_590 ts_29 tw_5 tw_591 rfl) rfl rfl rfl (by decide +kernel) ⟨Nat.le_of_ble_eq_true rfl, Nat.le_of_ble_eq_true rfl⟩) (PW_preV hPc hKc hDc hE hS hFc (ci := 4) (q0 := 0) rfl rfl) rfl rfl hl.1 rfl (lv_room (Nat.le_of_ble_eq_true rfl)) d_Md_node_96 ⟨Nat.le_of_ble_eq_true rfl, Nat.le_of_ble_eq_true rfl⟩) hS (fun q _ h => hFc q h) hFc (fun r_47 uu t H1 locs ht hvm hw_55 hB hz1 hk1 hS => ?_)
                          obtain ⟨ma_48, mw_49, mwa_50, mv_51, mf_52, nx_53, ml_54⟩ := uu
                          obtain ⟨hP1, hD1, hsz1⟩ := hB
                          rw [ht] at hP1 hsz1
                          obtain ⟨hP, hD⟩ := va_join (wr := []) (w1 := [(aM, .inr (4, [.int th, .ref aMT, .int (nI mu), .ref aNw, .ref aNx, .int mw_49, .int mwa_50, .int (nI ma_48), .int (nI en), .long mv_51, .int mf_52, .int ml_54])), (aMT, .inl (kMT, 65536, .inl B)), (aNx, .inl (kNx, 52650, .inl nx_53))]) hP hD [1, 2, 0] [] rfl rfl (by decide) (by decide) hk1 hFc hP1 hD1
                          generalize H1 = H at hP hS ⊢
                          have hP : va_P (dC, dI) vwCl [(aM, .inr (4, [.int th, .ref aMT, .int (nI mu), .ref aNw, .ref aNx, .int mw_49, .int mwa_50, .int (nI ma_48), .int (nI en), .long mv_51, .int mf_52, .int ml_54])), (aMT, .inl (kMT, 65536, .inl B)), (aNx, .inl (kNx, 52650, .inl nx_53))] H := hP
                          have hD : va_D A [(aM, .inr (4, [.int th, .ref aMT, .int (nI mu), .ref aNw, .ref aNx, .int mw_49, .int mwa_50, .int (nI ma_48), .int (nI en), .long mv_51, .int mf_52, .int ml_54])), (aMT, .inl (kMT, 65536, .inl B)), (aNx, .inl (kNx, 52650, .inl nx_53))] := hD
                          simp only [zf01, zf11, zg13, zg33, decide_true, decide_false] at hw_55
                          rcases hw_55 with ⟨rfl, hw_55b, e1, e2, hw_55n, hw_55a, e3⟩ | ⟨rfl, hw_55b, hw_55k, hw_55a, e2⟩
                          ·
                            have e1 := e1.symm; subst e1
                            have e2 := e2.symm; subst e2
                            have e3 := e3.symm; subst e3
                            refine lv_if_eq (tgt := 131) hx hb d_Md_node_99 (by decide) (fun c_56 => ?_) (fun c_56 => ?_)
                            ·
                              exact absurd c_56 (by decide)
                            ·
                              refine lv_aload_n hx hb d_Md_node_102 rfl (lv_at hl 1 rfl) ?_
                              refine lv_bipush (v := 44) hx hb d_Md_node_103 (by decide) ?_
                              have hPc := hP.sub (ws' := [(aM, .inr (4, [.int th, .ref aMT, .int (nI mu), .ref aNw, .ref aNx, .int mw, .int mwa, .int (nI ma_48), .int (nI en), .long mv_51, .int mf_52, .int (nI hw_55n)])), (aMT, .inl (kMT, 65536, .inl B))]) [0, 1] rfl
                              have hDc := hD.sub (ws' := [(aM, .inr (4, [.int th, .ref aMT, .int (nI mu), .ref aNw, .ref aNx, .int mw, .int mwa, .int (nI ma_48), .int (nI en), .long mv_51, .int mf_52, .int (nI hw_55n)])), (aMT, .inl (kMT, 65536, .inl B))]) [0, 1] (by decide) rfl
                              have hKc := hK.sub (tys' := [(kMT, .byte)]) [0] rfl
                              have hFc := va_free (wc := [(aM, .inr (4, [.int th, .ref aMT, .int (nI mu), .ref aNw, .ref aNx, .int mw, .int mwa, .int (nI ma_48), .int (nI en), .long mv_51, .int mf_52, .int (nI hw_55n)])), (aMT, .inl (kMT, 65536, .inl B))]) hD hS hA [0, 1] rfl
                              refine va_calli (va_runV (As := [.int 44]) (rest := []) ⟨hx, hb, hml, hown, hts⟩ (c_Md_sign l G dC dI H.size aM th aMT mu aNw aNx mw mwa ma_48 en mv_51 mf_52 (nI hw_55n) kMT B 44 (by omega) (by omega)) (cwV 1 hts (gV tw_537 tw_539 ts_20 tw_5 tw_540 rfl) rfl rfl rfl (by decide +kernel) ⟨Nat.le_of_ble_eq_true rfl, Nat.le_of_ble_eq_true rfl⟩) (PW_preV hPc hKc hDc hE hS hFc (ci := 4) (q0 := 0) rfl rfl) rfl rfl hl.1 rfl (lv_room (Nat.le_of_ble_eq_true rfl)) d_Md_node_105 ⟨Nat.le_of_ble_eq_true rfl, Nat.le_of_ble_eq_true rfl⟩) hS (fun q _ h => hFc q h) hFc (fun r_57 uu t H1 locs ht hvm hw_61 hB hz1 hk1 hS => ?_)
                              obtain ⟨ma_58, mw_59, mwa_60⟩ := uu
                              obtain ⟨hP1, hD1, hsz1⟩ := hB
                              rw [ht] at hP1 hsz1
                              obtain ⟨hP, hD⟩ := va_join (wr := [(aNx, .inl (kNx, 52650, .inl nx_53))]) (w1 := [(aM, .inr (4, [.int th, .ref aMT, .int (nI mu), .ref aNw, .ref aNx, .int mw_59, .int mwa_60, .int (nI ma_58), .int (nI en), .long mv_51, .int mf_52, .int (nI hw_55n)])), (aMT, .inl (kMT, 65536, .inl B))]) hP hD [0, 1] [2] rfl rfl (by decide) (by decide) hk1 hFc hP1 hD1
                              generalize H1 = H at hP hS ⊢
                              have hP : va_P (dC, dI) vwCl [(aNx, .inl (kNx, 52650, .inl nx_53)), (aM, .inr (4, [.int th, .ref aMT, .int (nI mu), .ref aNw, .ref aNx, .int mw_59, .int mwa_60, .int (nI ma_58), .int (nI en), .long mv_51, .int mf_52, .int (nI hw_55n)])), (aMT, .inl (kMT, 65536, .inl B))] H := hP
                              have hD : va_D A [(aNx, .inl (kNx, 52650, .inl nx_53)), (aM, .inr (4, [.int th, .ref aMT, .int (nI mu), .ref aNw, .ref aNx, .int mw_59, .int mwa_60, .int (nI ma_58), .int (nI en), .long mv_51, .int mf_52, .int (nI hw_55n)])), (aMT, .inl (kMT, 65536, .inl B))] := hD
                              rcases hw_61 with ⟨rfl, hw_61a, hw_61b, e1, e2⟩ | ⟨rfl, hw_61b, hw_61k, hw_61a, e2⟩
                              ·
                                have e1 := e1.symm; subst e1
                                have e2 := e2.symm; subst e2
                                refine lv_if_eq (tgt := 131) hx hb d_Md_node_108 (by decide) (fun c_62 => ?_) (fun c_62 => ?_)
                                ·
                                  exact absurd c_62 (by decide)
                                ·
                                  refine lv_aload_n hx hb d_Md_node_111 rfl (lv_at hl 1 rfl) ?_
                                  refine lv_ldc2 (v := zWv 27) hx hb hown (hz _ tw_668) d_Md_node_112 ?_
                                  refine lv_iload_n hx hb d_Md_node_115 rfl (lv_at hl 0 rfl) ?_
                                  refine lv_bipush (v := 8) hx hb d_Md_node_116 (by decide) ?_
                                  refine lv_iadd hx hb d_Md_node_118 ?_
                                  refine zt_top (nI_add (47816 + (11 * kk)) 8) ?_
                                  refine lv_ldc (v := 1048576) hx hb hown (hz _ tw_609) d_Md_node_119 ?_
                                  have hPc := hP.sub (ws' := [(aM, .inr (4, [.int th, .ref aMT, .int (nI mu), .ref aNw, .ref aNx, .int mw, .int mwa, .int (nI ma_58), .int (nI en), .long mv_51, .int mf_52, .int (nI hw_55n)])), (aMT, .inl (kMT, 65536, .inl B)), (aNx, .inl (kNx, 52650, .inl nx_53))]) [1, 2, 0] rfl
                                  have hDc := hD.sub (ws' := [(aM, .inr (4, [.int th, .ref aMT, .int (nI mu), .ref aNw, .ref aNx, .int mw, .int mwa, .int (nI ma_58), .int (nI en), .long mv_51, .int mf_52, .int (nI hw_55n)])), (aMT, .inl (kMT, 65536, .inl B)), (aNx, .inl (kNx, 52650, .inl nx_53))]) [1, 2, 0] (by decide) rfl
                                  have hKc := hK.sub (tys' := [(kMT, .byte), (kNx, .int)]) [0, 1] rfl
                                  have hFc := va_free (wc := [(aM, .inr (4, [.int th, .ref aMT, .int (nI mu), .ref aNw, .ref aNx, .int mw, .int mwa, .int (nI ma_58), .int (nI en), .long mv_51, .int mf_52, .int (nI hw_55n)])), (aMT, .inl (kMT, 65536, .inl B)), (aNx, .inl (kNx, 52650, .inl nx_53))]) hD hS hA [1, 2, 0] rfl
                                  refine va_calli (va_runV (As := [.long (zWv 27), .int (nI ((47816 + (11 * kk)) + 8)), .int (nI 1048576)]) (rest := []) ⟨hx, hb, hml, hown, hts⟩ (c_Md_three l G dC dI H.size aM th aMT mu aNw aNx mw mwa ma_58 en mv_51 mf_52 (nI hw_55n) kMT B kNx nx_53 27 ((47816 + (11 * kk)) + 8) 1048576 (by omega) (by omega) (by decide) (by decide) (zSb_len _) (by omega) (by omega)) (cwV 3 hts (gV tw_588 tw_590 ts_29 tw_5 tw_591 rfl) rfl rfl rfl (by decide +kernel) ⟨Nat.le_of_ble_eq_true rfl, Nat.le_of_ble_eq_true rfl⟩) (PW_preV hPc hKc hDc hE hS hFc (ci := 4) (q0 := 0) rfl rfl) rfl rfl hl.1 rfl (lv_room (Nat.le_of_ble_eq_true rfl)) d_Md_node_121 ⟨Nat.le_of_ble_eq_true rfl, Nat.le_of_ble_eq_true rfl⟩) hS (fun q _ h => hFc q h) hFc (fun r_63 uu t H1 locs ht hvm hw_71 hB hz1 hk1 hS => ?_)
                                  obtain ⟨ma_64, mw_65, mwa_66, mv_67, mf_68, nx_69, ml_70⟩ := uu
                                  obtain ⟨hP1, hD1, hsz1⟩ := hB
                                  rw [ht] at hP1 hsz1
                                  obtain ⟨hP, hD⟩ := va_join (wr := []) (w1 := [(aM, .inr (4, [.int th, .ref aMT, .int (nI mu), .ref aNw, .ref aNx, .int mw_65, .int mwa_66, .int (nI ma_64), .int (nI en), .long mv_67, .int mf_68, .int ml_70])), (aMT, .inl (kMT, 65536, .inl B)), (aNx, .inl (kNx, 52650, .inl nx_69))]) hP hD [1, 2, 0] [] rfl rfl (by decide) (by decide) hk1 hFc hP1 hD1
                                  generalize H1 = H at hP hS ⊢
                                  have hP : va_P (dC, dI) vwCl [(aM, .inr (4, [.int th, .ref aMT, .int (nI mu), .ref aNw, .ref aNx, .int mw_65, .int mwa_66, .int (nI ma_64), .int (nI en), .long mv_67, .int mf_68, .int ml_70])), (aMT, .inl (kMT, 65536, .inl B)), (aNx, .inl (kNx, 52650, .inl nx_69))] H := hP
                                  have hD : va_D A [(aM, .inr (4, [.int th, .ref aMT, .int (nI mu), .ref aNw, .ref aNx, .int mw_65, .int mwa_66, .int (nI ma_64), .int (nI en), .long mv_67, .int mf_68, .int ml_70])), (aMT, .inl (kMT, 65536, .inl B)), (aNx, .inl (kNx, 52650, .inl nx_69))] := hD
                                  simp only [zf01, zf11, zg13, zg33, decide_true, decide_false] at hw_71
                                  rcases hw_71 with ⟨rfl, hw_71b, e1, e2, hw_71n, hw_71a, e3⟩ | ⟨rfl, hw_71b, hw_71k, hw_71a, e2⟩
                                  ·
                                    have e1 := e1.symm; subst e1
                                    have e2 := e2.symm; subst e2
                                    have e3 := e3.symm; subst e3
                                    refine lv_if_eq (tgt := 131) hx hb d_Md_node_124 (by decide) (fun c_72 => ?_) (fun c_72 => ?_)
                                    ·
                                      exact absurd c_72 (by decide)
                                    ·
                                      refine lv_iconst (v := 1) hx hb d_Md_node_127 (by decide) ?_
                                      refine lv_goto (tgt := 132) hx hb d_Md_node_128 (by decide) ?_
                                      refine zt_size (fun hzs => ?_)
                                      have hP9 := hP.sub (ws' := [(aM, .inr (4, [.int th, .ref aMT, .int (nI mu), .ref aNw, .ref aNx, .int mw, .int mwa, .int (nI ma_64), .int (nI en), .long mv_67, .int mf_68, .int (nI hw_71n)])), (aMT, .inl (kMT, 65536, .inl B)), (aNx, .inl (kNx, 52650, .inl nx_69))]) [0, 1, 2] rfl
                                      have hD9 := hD.sub (ws' := [(aM, .inr (4, [.int th, .ref aMT, .int (nI mu), .ref aNw, .ref aNx, .int mw, .int mwa, .int (nI ma_64), .int (nI en), .long mv_67, .int mf_68, .int (nI hw_71n)])), (aMT, .inl (kMT, 65536, .inl B)), (aNx, .inl (kNx, 52650, .inl nx_69))]) [0, 1, 2] (by decide) rfl
                                      exact W.zret (v := 1) hx hb hr rfl (fun t ht hW => ⟨⟨1, (ma_64, mw, mwa, mv_67, mf_68, nx_69, nI hw_71n), rfl, Or.inl ⟨rfl, by omega, rfl, rfl, by simp only [mNode, mListK, mNumK, zB_ok, hw_8a, hw_14a, hw_23a, hw_29a, hw_39a, hw_45a, hw_55a, hw_61a, hw_71a]⟩, by rw [ht]; exact hP9, hD9, by rw [ht]; exact hzs⟩, hS.F ht⟩) hS.2.2 d_Md_node_132
                                  ·
                                    have e2 := e2.symm; subst e2
                                    refine lv_if_eq (tgt := 131) hx hb d_Md_node_124 (by decide) (fun c_73 => ?_) (fun c_73 => ?_)
                                    ·
                                      refine lv_iconst (v := 0) hx hb d_Md_node_131 (by decide) ?_
                                      refine zt_size (fun hzs => ?_)
                                      have hP9 := hP.sub (ws' := [(aM, .inr (4, [.int th, .ref aMT, .int (nI mu), .ref aNw, .ref aNx, .int mw_65, .int (nI hw_71k), .int (nI ma_64), .int (nI en), .long mv_67, .int mf_68, .int ml_70])), (aMT, .inl (kMT, 65536, .inl B)), (aNx, .inl (kNx, 52650, .inl nx_69))]) [0, 1, 2] rfl
                                      have hD9 := hD.sub (ws' := [(aM, .inr (4, [.int th, .ref aMT, .int (nI mu), .ref aNw, .ref aNx, .int mw_65, .int (nI hw_71k), .int (nI ma_64), .int (nI en), .long mv_67, .int mf_68, .int ml_70])), (aMT, .inl (kMT, 65536, .inl B)), (aNx, .inl (kNx, 52650, .inl nx_69))]) [0, 1, 2] (by decide) rfl
                                      exact W.zret (v := 0) hx hb hr rfl (fun t ht hW => ⟨⟨0, (ma_64, mw_65, nI hw_71k, mv_67, mf_68, nx_69, ml_70), rfl, Or.inr ⟨rfl, by omega, _, by simp only [mNode, mListK, mNumK, zB_ok, zB_er, hw_8a, hw_14a, hw_23a, hw_29a, hw_39a, hw_45a, hw_55a, hw_61a, hw_71a], rfl⟩, by rw [ht]; exact hP9, hD9, by rw [ht]; exact hzs⟩, hS.F ht⟩) hS.2.2 d_Md_node_132
                                    ·
                                      exact absurd (by decide) c_73
                              ·
                                have e2 := e2.symm; subst e2
                                refine lv_if_eq (tgt := 131) hx hb d_Md_node_108 (by decide) (fun c_74 => ?_) (fun c_74 => ?_)
                                ·
                                  refine lv_iconst (v := 0) hx hb d_Md_node_131 (by decide) ?_
                                  refine zt_size (fun hzs => ?_)
                                  have hP9 := hP.sub (ws' := [(aM, .inr (4, [.int th, .ref aMT, .int (nI mu), .ref aNw, .ref aNx, .int mw_59, .int (nI hw_61k), .int (nI ma_58), .int (nI en), .long mv_51, .int mf_52, .int (nI hw_55n)])), (aMT, .inl (kMT, 65536, .inl B)), (aNx, .inl (kNx, 52650, .inl nx_53))]) [1, 2, 0] rfl
                                  have hD9 := hD.sub (ws' := [(aM, .inr (4, [.int th, .ref aMT, .int (nI mu), .ref aNw, .ref aNx, .int mw_59, .int (nI hw_61k), .int (nI ma_58), .int (nI en), .long mv_51, .int mf_52, .int (nI hw_55n)])), (aMT, .inl (kMT, 65536, .inl B)), (aNx, .inl (kNx, 52650, .inl nx_53))]) [1, 2, 0] (by decide) rfl
                                  exact W.zret (v := 0) hx hb hr rfl (fun t ht hW => ⟨⟨0, (ma_58, mw_59, nI hw_61k, mv_51, mf_52, nx_53, nI hw_55n), rfl, Or.inr ⟨rfl, by omega, _, by simp only [mNode, mListK, mNumK, zB_ok, zB_er, hw_8a, hw_14a, hw_23a, hw_29a, hw_39a, hw_45a, hw_55a, hw_61a], rfl⟩, by rw [ht]; exact hP9, hD9, by rw [ht]; exact hzs⟩, hS.F ht⟩) hS.2.2 d_Md_node_132
                                ·
                                  exact absurd (by decide) c_74
                          ·
                            have e2 := e2.symm; subst e2
                            refine lv_if_eq (tgt := 131) hx hb d_Md_node_99 (by decide) (fun c_75 => ?_) (fun c_75 => ?_)
                            ·
                              refine lv_iconst (v := 0) hx hb d_Md_node_131 (by decide) ?_
                              refine zt_size (fun hzs => ?_)
                              have hP9 := hP.sub (ws' := [(aM, .inr (4, [.int th, .ref aMT, .int (nI mu), .ref aNw, .ref aNx, .int mw_49, .int (nI hw_55k), .int (nI ma_48), .int (nI en), .long mv_51, .int mf_52, .int ml_54])), (aMT, .inl (kMT, 65536, .inl B)), (aNx, .inl (kNx, 52650, .inl nx_53))]) [0, 1, 2] rfl
                              have hD9 := hD.sub (ws' := [(aM, .inr (4, [.int th, .ref aMT, .int (nI mu), .ref aNw, .ref aNx, .int mw_49, .int (nI hw_55k), .int (nI ma_48), .int (nI en), .long mv_51, .int mf_52, .int ml_54])), (aMT, .inl (kMT, 65536, .inl B)), (aNx, .inl (kNx, 52650, .inl nx_53))]) [0, 1, 2] (by decide) rfl
                              exact W.zret (v := 0) hx hb hr rfl (fun t ht hW => ⟨⟨0, (ma_48, mw_49, nI hw_55k, mv_51, mf_52, nx_53, ml_54), rfl, Or.inr ⟨rfl, by omega, _, by simp only [mNode, mListK, mNumK, zB_ok, zB_er, hw_8a, hw_14a, hw_23a, hw_29a, hw_39a, hw_45a, hw_55a], rfl⟩, by rw [ht]; exact hP9, hD9, by rw [ht]; exact hzs⟩, hS.F ht⟩) hS.2.2 d_Md_node_132
                            ·
                              exact absurd (by decide) c_75
                      ·
                        have e2 := e2.symm; subst e2
                        refine lv_if_eq (tgt := 131) hx hb d_Md_node_84 (by decide) (fun c_76 => ?_) (fun c_76 => ?_)
                        ·
                          refine lv_iconst (v := 0) hx hb d_Md_node_131 (by decide) ?_
                          refine zt_size (fun hzs => ?_)
                          have hP9 := hP.sub (ws' := [(aM, .inr (4, [.int th, .ref aMT, .int (nI mu), .ref aNw, .ref aNx, .int mw_43, .int (nI hw_45k), .int (nI ma_42), .int (nI en), .long mv_35, .int mf_36, .int (nI hw_39n)])), (aMT, .inl (kMT, 65536, .inl B)), (aNx, .inl (kNx, 52650, .inl nx_37))]) [1, 2, 0] rfl
                          have hD9 := hD.sub (ws' := [(aM, .inr (4, [.int th, .ref aMT, .int (nI mu), .ref aNw, .ref aNx, .int mw_43, .int (nI hw_45k), .int (nI ma_42), .int (nI en), .long mv_35, .int mf_36, .int (nI hw_39n)])), (aMT, .inl (kMT, 65536, .inl B)), (aNx, .inl (kNx, 52650, .inl nx_37))]) [1, 2, 0] (by decide) rfl
                          exact W.zret (v := 0) hx hb hr rfl (fun t ht hW => ⟨⟨0, (ma_42, mw_43, nI hw_45k, mv_35, mf_36, nx_37, nI hw_39n), rfl, Or.inr ⟨rfl, by omega, _, by simp only [mNode, mListK, mNumK, zB_ok, zB_er, hw_8a, hw_14a, hw_23a, hw_29a, hw_39a, hw_45a], rfl⟩, by rw [ht]; exact hP9, hD9, by rw [ht]; exact hzs⟩, hS.F ht⟩) hS.2.2 d_Md_node_132
                        ·
                          exact absurd (by decide) c_76
                  ·
                    have e2 := e2.symm; subst e2
                    refine lv_if_eq (tgt := 131) hx hb d_Md_node_75 (by decide) (fun c_77 => ?_) (fun c_77 => ?_)
                    ·
                      refine lv_iconst (v := 0) hx hb d_Md_node_131 (by decide) ?_
                      refine zt_size (fun hzs => ?_)
                      have hP9 := hP.sub (ws' := [(aM, .inr (4, [.int th, .ref aMT, .int (nI mu), .ref aNw, .ref aNx, .int mw_33, .int (nI hw_39k), .int (nI ma_32), .int (nI en), .long mv_35, .int mf_36, .int ml_38])), (aMT, .inl (kMT, 65536, .inl B)), (aNx, .inl (kNx, 52650, .inl nx_37))]) [0, 1, 2] rfl
                      have hD9 := hD.sub (ws' := [(aM, .inr (4, [.int th, .ref aMT, .int (nI mu), .ref aNw, .ref aNx, .int mw_33, .int (nI hw_39k), .int (nI ma_32), .int (nI en), .long mv_35, .int mf_36, .int ml_38])), (aMT, .inl (kMT, 65536, .inl B)), (aNx, .inl (kNx, 52650, .inl nx_37))]) [0, 1, 2] (by decide) rfl
                      exact W.zret (v := 0) hx hb hr rfl (fun t ht hW => ⟨⟨0, (ma_32, mw_33, nI hw_39k, mv_35, mf_36, nx_37, ml_38), rfl, Or.inr ⟨rfl, by omega, _, by simp only [mNode, mListK, mNumK, zB_ok, zB_er, hw_8a, hw_14a, hw_23a, hw_29a, hw_39a], rfl⟩, by rw [ht]; exact hP9, hD9, by rw [ht]; exact hzs⟩, hS.F ht⟩) hS.2.2 d_Md_node_132
                    ·
                      exact absurd (by decide) c_77
              ·
                have e2 := e2.symm; subst e2
                refine lv_if_eq (tgt := 131) hx hb d_Md_node_60 (by decide) (fun c_78 => ?_) (fun c_78 => ?_)
                ·
                  refine lv_iconst (v := 0) hx hb d_Md_node_131 (by decide) ?_
                  refine zt_size (fun hzs => ?_)
                  have hP9 := hP.sub (ws' := [(aM, .inr (4, [.int th, .ref aMT, .int (nI mu), .ref aNw, .ref aNx, .int mw_27, .int (nI hw_29k), .int (nI ma_26), .int (nI en), .long mv_20, .int mf_21, .int ml])), (aMT, .inl (kMT, 65536, .inl B)), (aNx, .inl (kNx, 52650, .inl (upd (upd nx (47816 + (11 * kk)) hw_8v) ((47816 + (11 * kk)) + 1) hw_23v)))]) [1, 2, 0] rfl
                  have hD9 := hD.sub (ws' := [(aM, .inr (4, [.int th, .ref aMT, .int (nI mu), .ref aNw, .ref aNx, .int mw_27, .int (nI hw_29k), .int (nI ma_26), .int (nI en), .long mv_20, .int mf_21, .int ml])), (aMT, .inl (kMT, 65536, .inl B)), (aNx, .inl (kNx, 52650, .inl (upd (upd nx (47816 + (11 * kk)) hw_8v) ((47816 + (11 * kk)) + 1) hw_23v)))]) [1, 2, 0] (by decide) rfl
                  exact W.zret (v := 0) hx hb hr rfl (fun t ht hW => ⟨⟨0, (ma_26, mw_27, nI hw_29k, mv_20, mf_21, upd (upd nx (47816 + (11 * kk)) hw_8v) ((47816 + (11 * kk)) + 1) hw_23v, ml), rfl, Or.inr ⟨rfl, by omega, _, by simp only [mNode, mListK, mNumK, zB_ok, zB_er, hw_8a, hw_14a, hw_23a, hw_29a], rfl⟩, by rw [ht]; exact hP9, hD9, by rw [ht]; exact hzs⟩, hS.F ht⟩) hS.2.2 d_Md_node_132
                ·
                  exact absurd (by decide) c_78
          ·
            have e2 := e2.symm; subst e2
            refine lv_if_eq (tgt := 131) hx hb d_Md_node_51 (by decide) (fun c_79 => ?_) (fun c_79 => ?_)
            ·
              refine lv_iconst (v := 0) hx hb d_Md_node_131 (by decide) ?_
              refine zt_size (fun hzs => ?_)
              have hP9 := hP.sub (ws' := [(aM, .inr (4, [.int th, .ref aMT, .int (nI mu), .ref aNw, .ref aNx, .int mw_18, .int (nI hw_23k), .int (nI ma_17), .int (nI en), .long mv_20, .int mf_21, .int ml])), (aMT, .inl (kMT, 65536, .inl B)), (aNx, .inl (kNx, 52650, .inl nx_22))]) [0, 1, 2] rfl
              have hD9 := hD.sub (ws' := [(aM, .inr (4, [.int th, .ref aMT, .int (nI mu), .ref aNw, .ref aNx, .int mw_18, .int (nI hw_23k), .int (nI ma_17), .int (nI en), .long mv_20, .int mf_21, .int ml])), (aMT, .inl (kMT, 65536, .inl B)), (aNx, .inl (kNx, 52650, .inl nx_22))]) [0, 1, 2] (by decide) rfl
              exact W.zret (v := 0) hx hb hr rfl (fun t ht hW => ⟨⟨0, (ma_17, mw_18, nI hw_23k, mv_20, mf_21, nx_22, ml), rfl, Or.inr ⟨rfl, by omega, _, by simp only [mNode, mListK, mNumK, zB_ok, zB_er, hw_8a, hw_14a, hw_23a], rfl⟩, by rw [ht]; exact hP9, hD9, by rw [ht]; exact hzs⟩, hS.F ht⟩) hS.2.2 d_Md_node_132
            ·
              exact absurd (by decide) c_79
      ·
        have e2 := e2.symm; subst e2
        refine lv_if_eq (tgt := 131) hx hb d_Md_node_29 (by decide) (fun c_80 => ?_) (fun c_80 => ?_)
        ·
          refine lv_iconst (v := 0) hx hb d_Md_node_131 (by decide) ?_
          refine zt_size (fun hzs => ?_)
          have hP9 := hP.sub (ws' := [(aM, .inr (4, [.int th, .ref aMT, .int (nI mu), .ref aNw, .ref aNx, .int mw_12, .int (nI hw_14k), .int (nI ma_11), .int (nI en), .long mv_5, .int mf_6, .int ml])), (aMT, .inl (kMT, 65536, .inl B)), (aNx, .inl (kNx, 52650, .inl (upd nx (47816 + (11 * kk)) hw_8v)))]) [1, 2, 0] rfl
          have hD9 := hD.sub (ws' := [(aM, .inr (4, [.int th, .ref aMT, .int (nI mu), .ref aNw, .ref aNx, .int mw_12, .int (nI hw_14k), .int (nI ma_11), .int (nI en), .long mv_5, .int mf_6, .int ml])), (aMT, .inl (kMT, 65536, .inl B)), (aNx, .inl (kNx, 52650, .inl (upd nx (47816 + (11 * kk)) hw_8v)))]) [1, 2, 0] (by decide) rfl
          exact W.zret (v := 0) hx hb hr rfl (fun t ht hW => ⟨⟨0, (ma_11, mw_12, nI hw_14k, mv_5, mf_6, upd nx (47816 + (11 * kk)) hw_8v, ml), rfl, Or.inr ⟨rfl, by omega, _, by simp only [mNode, mListK, mNumK, zB_ok, zB_er, hw_8a, hw_14a], rfl⟩, by rw [ht]; exact hP9, hD9, by rw [ht]; exact hzs⟩, hS.F ht⟩) hS.2.2 d_Md_node_132
        ·
          exact absurd (by decide) c_80
  ·
    have e2 := e2.symm; subst e2
    refine lv_if_eq (tgt := 131) hx hb d_Md_node_20 (by decide) (fun c_81 => ?_) (fun c_81 => ?_)
    ·
      refine lv_iconst (v := 0) hx hb d_Md_node_131 (by decide) ?_
      refine zt_size (fun hzs => ?_)
      have hP9 := hP.sub (ws' := [(aM, .inr (4, [.int th, .ref aMT, .int (nI mu), .ref aNw, .ref aNx, .int mw_3, .int (nI hw_8k), .int (nI ma_2), .int (nI en), .long mv_5, .int mf_6, .int ml])), (aMT, .inl (kMT, 65536, .inl B)), (aNx, .inl (kNx, 52650, .inl nx_7))]) [0, 1, 2] rfl
      have hD9 := hD.sub (ws' := [(aM, .inr (4, [.int th, .ref aMT, .int (nI mu), .ref aNw, .ref aNx, .int mw_3, .int (nI hw_8k), .int (nI ma_2), .int (nI en), .long mv_5, .int mf_6, .int ml])), (aMT, .inl (kMT, 65536, .inl B)), (aNx, .inl (kNx, 52650, .inl nx_7))]) [0, 1, 2] (by decide) rfl
      exact W.zret (v := 0) hx hb hr rfl (fun t ht hW => ⟨⟨0, (ma_2, mw_3, nI hw_8k, mv_5, mf_6, nx_7, ml), rfl, Or.inr ⟨rfl, by omega, _, by simp only [mNode, mListK, mNumK, zB_ok, zB_er, hw_8a], rfl⟩, by rw [ht]; exact hP9, hD9, by rw [ht]; exact hzs⟩, hS.F ht⟩) hS.2.2 d_Md_node_132
    ·
      exact absurd (by decide) c_81
