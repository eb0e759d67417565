/-- a list leaves the cells before it alone -/
theorem zLst_lo {B : Nat → Int32} {en : Nat} {gr : Bool} {mo ce : Nat} {low hi : Int32} : ∀ (k n : Nat) (lw : Int32) (h : Nat) (cel : Nat → Int32) (n2 h2 : Nat) (cel2 : Nat → Int32), zLst B en gr mo ce low hi k n lw h cel = .ok (n2, h2, cel2) → ∀ q, q < ce → cel2 q = cel q := by
  intro k
  induction k with
  | zero => intro n lw h cel n2 h2 cel2 he q hq; cases he; rfl
  | succ k ih =>
    intro n lw h cel n2 h2 cel2 he q hq
    obtain ⟨v, e1, e2⟩ := zB_okI he
    split at e2
    · cases e2
    · split at e2
      · cases e2
      · split at e2
        · rw [ih _ _ _ _ _ _ _ e2 q hq, pk_un (by omega)]
        · cases e2; rw [pk_un (by omega)]
theorem zList_lo {B : Nat → Int32} {en : Nat} {gr w3 : Bool} {le mo ce : Nat} {low hi : Int32} {h : Nat} {cel : Nat → Int32} {n2 h2 : Nat} {cel2 : Nat → Int32} (he : zList B en gr w3 le mo ce low hi h cel = .ok (n2, h2, cel2)) : ∀ q, q < ce → cel2 q = cel q := by
  rw [zList_eq] at he
  obtain ⟨h1, e1, e2⟩ := zB_okI he
  obtain ⟨q, e3, e4⟩ := zB_okI e2
  obtain ⟨n, h3, cel3⟩ := q
  unfold zTail at e4
  split at e4
  · cases e4
  · obtain ⟨h4, e5, e6⟩ := zB_okI e4
    cases e6
    split at e3
    · cases e3; intro q _; rfl
    · exact zLst_lo _ _ _ _ _ _ _ _ e3
theorem zLK_lo {B : Nat → Int32} {en : Nat} {wd : List Int32} {hk : Nat} {gr w3 : Bool} {le mo ce : Nat} {low hi : Int32} {cel : Nat → Int32} {n2 h2 : Nat} {cel2 : Nat → Int32} (he : (zB (zKey B en wd hk) fun h1 => zList B en gr w3 le mo ce low hi h1 cel) = .ok (n2, h2, cel2)) : ∀ q, q < ce → cel2 q = cel q := by
  obtain ⟨h1, e1, e2⟩ := zB_okI he
  exact zList_lo e2
set_option maxHeartbeats 4000000 in
set_option maxRecDepth 100000 in
theorem c_Md_material (l : Launch) (G : ZG) (dC : Nat → ClassId) (dI : Nat → Nat → Nat) (sz : Nat) (aM : Nat) (th : Int32) (aMT : Nat) (mu : Nat) (aNw : Nat) (aNx : Nat) (mw : Int32) (mwa : Int32) (ma : Nat) (en : Nat) (mv : Int64) (mf : Int32) (ml : Int32) (kMT : ClassId) (B : Nat → Int32) (kNx : ClassId) (nx : Nat → Int32) (nt : Nat) (kk : Nat) (hen : en ≤ 65536) (hma : ma ≤ en) (hkk : kk < 16) (hnt : nt ≤ 48) (hn0 : nx 0 = nI nt) : Met l y_Md_material w_Md_material ({ frames := 5, cells := 0, slots := 0, locals := 115 }) (va_Pc [.ref aM, .int (nI kk)] (PW G (dC, dI) [(kMT, .byte), (kNx, .int)] [(aM, .inr (4, [.int th, .ref aMT, .int (nI mu), .ref aNw, .ref aNx, .int mw, .int mwa, .int (nI ma), .int (nI en), .long mv, .int mf, .int ml])), (aMT, .inl (kMT, 65536, .inl B)), (aNx, .inl (kNx, 52650, .inl nx))] sz)) (va_Qi (fun (r : Int32) (uu : Nat × Int32 × Int32 × Int64 × Int32 × (Nat → Int32) × Int32) => (r = 1 ∧ uu.1 ≤ en ∧ uu.2.1 = mw ∧ uu.2.2.1 = mwa ∧ mMaterial B en kk nt (zK B en ma, nx) = .ok (zK B en uu.1, uu.2.2.2.2.2.1)) ∨ (r = 0 ∧ uu.1 ≤ en ∧ ∃ k, mMaterial B en kk nt (zK B en ma, nx) = .error (uu.2.1, k) ∧ uu.2.2.1 = nI k)) (fun (uu : Nat × Int32 × Int32 × Int64 × Int32 × (Nat → Int32) × Int32) t => BW (dC, dI) [(aM, .inr (4, [.int th, .ref aMT, .int (nI mu), .ref aNw, .ref aNx, .int uu.2.1, .int uu.2.2.1, .int (nI uu.1), .int (nI en), .long uu.2.2.2.1, .int uu.2.2.2.2.1, .int uu.2.2.2.2.2.2])), (aMT, .inl (kMT, 65536, .inl B)), (aNx, .inl (kNx, 52650, .inl uu.2.2.2.2.2.1))] (va_A [(aM, .inr (4, [.int th, .ref aMT, .int (nI mu), .ref aNw, .ref aNx, .int mw, .int mwa, .int (nI ma), .int (nI en), .long mv, .int mf, .int ml])), (aMT, .inl (kMT, 65536, .inl B)), (aNx, .inl (kNx, 52650, .inl nx))] sz) sz t) (va_A [(aM, .inr (4, [.int th, .ref aMT, .int (nI mu), .ref aNw, .ref aNx, .int mw, .int mwa, .int (nI ma), .int (nI en), .long mv, .int mf, .int ml])), (aMT, .inl (kMT, 65536, .inl B)), (aNx, .inl (kNx, 52650, .inl nx))] sz)) 0 0 (va_A [(aM, .inr (4, [.int th, .ref aMT, .int (nI mu), .ref aNw, .ref aNx, .int mw, .int mwa, .int (nI ma), .int (nI en), .long mv, .int mf, .int ml])), (aMT, .inl (kMT, 65536, .inl B)), (aNx, .inl (kNx, 52650, .inl nx))] sz) := by
  refine Met.ofW (cc := prog_6_method_21_code) (maxL := 3) (ret := (some .boolean)) (by decide) rfl ?_
  intro p e s m args below meth c s₁ Bd hml hv
  obtain ⟨rfl, hsz, hP, hK, hD0, hE⟩ := hv
  have hx := Bd.exec
  have hb := Bd.bytes
  have hr := Bd.returns
  have hts := atoms_spec (ws := w_Md_material) Bd.pre
  have hown : s.vm.findClass R_Md = some m.cls := findClass_of_methodNamed Bd.named
  have hlocks := Bd.notSynchronized
  have hz : ∀ w ∈ ZW, w.before _ s = true := fun w h => hts w (List.mem_cons_of_mem _ h)
  subst hsz
  have hD := hD0.self (sz := s.heap.size)
  generalize hAe : va_A [(aM, .inr (4, [.int th, .ref aMT, .int (nI mu), .ref aNw, .ref aNx, .int mw, .int mwa, .int (nI ma), .int (nI en), .long mv, .int mf, .int ml])), (aMT, .inl (kMT, 65536, .inl B)), (aNx, .inl (kNx, 52650, .inl nx))] s.heap.size = A at hD hE ⊢
  have hA : ∀ q : Nat, s.heap.size ≤ q → A q := fun q h => by rw [← hAe]; exact Or.inr h
  have hS : va_S A s.heap s.heap [] := va_S.rf
  have hl := lv_entry ([.ref aM, .int (nI kk)]) (n := 3) (Nat.le_of_ble_eq_true rfl)
  rw [lg_entry_eq]
  generalize (lg_sl ([.ref aM, .int (nI kk)]) ++ List.replicate (3 - (lg_sl ([.ref aM, .int (nI kk)])).length) Slot.unset).toArray = ls at hl ⊢
  have hl : lv_has ls 3 [(0, .ref aM), (1, .int (nI kk))] := hl
  obtain ⟨H, hH⟩ : ∃ z, z = s.heap := ⟨_, rfl⟩
  have hP : va_P (dC, dI) vwCl [(aM, .inr (4, [.int th, .ref aMT, .int (nI mu), .ref aNw, .ref aNx, .int mw, .int mwa, .int (nI ma), .int (nI en), .long mv, .int mf, .int ml])), (aMT, .inl (kMT, 65536, .inl B)), (aNx, .inl (kNx, 52650, .inl nx))] H := by rw [hH]; exact hP
  have hS : va_S A s.heap H [] := by rw [hH]; exact hS
  refine zt_heap hH ?_
  refine lv_sipush (v := 24648) hx hb d_Md_material_0 (by decide) ?_
  refine lv_bipush (v := 8) hx hb d_Md_material_3 (by decide) ?_
  refine lv_iload_n hx hb d_Md_material_5 rfl (lv_at hl 1 rfl) ?_
  refine lv_imul hx hb d_Md_material_6 ?_
  refine zt_top (pk_mul 8 kk) ?_
  refine lv_iadd hx hb d_Md_material_7 ?_
  refine zt_top (nI_add 24648 (8 * kk)) ?_
  refine lv_istore_n (lv' := [(2, .int (nI (24648 + (8 * kk)))), (0, .ref aM), (1, .int (nI kk))]) hx hb d_Md_material_8 rfl hl (by decide) rfl (fun ls hl => ?_)
  refine lv_aload_n hx hb d_Md_material_9 rfl (lv_at hl 1 rfl) ?_
  refine lv_ldc2 (v := zWv 17) hx hb hown (hz _ tw_646) d_Md_material_10 ?_
  refine lv_iload_n hx hb d_Md_material_13 rfl (lv_at hl 0 rfl) ?_
  refine lv_iconst (v := 4) hx hb d_Md_material_14 (by decide) ?_
  refine lv_iconst (v := 4) hx hb d_Md_material_15 (by decide) ?_
  refine lv_iconst (v := 1) hx hb d_Md_material_16 (by decide) ?_
  refine lv_iconst (v := 0) hx hb d_Md_material_17 (by decide) ?_
  refine lv_sipush (v := 255) hx hb d_Md_material_18 (by decide) ?_
  refine lv_iconst (v := 0) hx hb d_Md_material_21 (by decide) ?_
  have hPc := hP.sub (ws' := [(aM, .inr (4, [.int th, .ref aMT, .int (nI mu), .ref aNw, .ref aNx, .int mw, .int mwa, .int (nI ma), .int (nI en), .long mv, .int mf, .int ml])), (aMT, .inl (kMT, 65536, .inl B)), (aNx, .inl (kNx, 52650, .inl nx))]) [0, 1, 2] rfl
  have hDc := hD.sub (ws' := [(aM, .inr (4, [.int th, .ref aMT, .int (nI mu), .ref aNw, .ref aNx, .int mw, .int mwa, .int (nI ma), .int (nI en), .long mv, .int mf, .int ml])), (aMT, .inl (kMT, 65536, .inl B)), (aNx, .inl (kNx, 52650, .inl nx))]) [0, 1, 2] (by decide) rfl
  have hKc := hK.sub (tys' := [(kMT, .byte), (kNx, .int)]) [0, 1] rfl
  have hFc := va_free (wc := [(aM, .inr (4, [.int th, .ref aMT, .int (nI mu), .ref aNw, .ref aNx, .int mw, .int mwa, .int (nI ma), .int (nI en), .long mv, .int mf, .int ml])), (aMT, .inl (kMT, 65536, .inl B)), (aNx, .inl (kNx, 52650, .inl nx))]) hD hS hA [0, 1, 2] rfl
  refine va_calli (va_runV (As := [.long (zWv 17), .int (nI (24648 + (8 * kk))), .int (nI 4), .int (nI 4), .int (nI 1), .int 0, .int 255, .int 0]) (rest := []) ⟨hx, hb, hml, hown, hts⟩ (c_Md_list l G dC dI H.size aM th aMT mu aNw aNx mw mwa ma en mv mf ml kMT B kNx nx 17 (24648 + (8 * kk)) 4 4 1 0 255 0 (by omega) (by omega) (by decide) (by decide) (zSb_len _) (by omega) (by omega) (by omega) (Or.inl rfl) (Or.inl rfl) (by decide) (by decide) (by decide) (by decide)) (cwV 8 hts (gV tw_592 tw_594 ts_30 tw_5 tw_595 rfl) rfl rfl rfl (by decide +kernel) ⟨Nat.le_of_ble_eq_true rfl, Nat.le_of_ble_eq_true rfl⟩) (PW_preV hPc hKc hDc hE hS hFc (ci := 4) (q0 := 0) rfl rfl) rfl rfl hl.1 rfl (lv_room (Nat.le_of_ble_eq_true rfl)) d_Md_material_22 ⟨Nat.le_of_ble_eq_true rfl, Nat.le_of_ble_eq_true rfl⟩) hS (fun q _ h => hFc q h) hFc (fun r_1 uu t H1 locs ht hvm hw_9 hB hz1 hk1 hS => ?_)
  obtain ⟨ma_2, mw_3, mwa_4, mv_5, mf_6, nx_7, ml_8⟩ := uu
  obtain ⟨hP1, hD1, hsz1⟩ := hB
  rw [ht] at hP1 hsz1
  obtain ⟨hP, hD⟩ := va_join (wr := []) (w1 := [(aM, .inr (4, [.int th, .ref aMT, .int (nI mu), .ref aNw, .ref aNx, .int mw_3, .int mwa_4, .int (nI ma_2), .int (nI en), .long mv_5, .int mf_6, .int ml_8])), (aMT, .inl (kMT, 65536, .inl B)), (aNx, .inl (kNx, 52650, .inl nx_7))]) hP hD [0, 1, 2] [] rfl rfl (by decide) (by decide) hk1 hFc hP1 hD1
  generalize H1 = H at hP hS ⊢
  have hP : va_P (dC, dI) vwCl [(aM, .inr (4, [.int th, .ref aMT, .int (nI mu), .ref aNw, .ref aNx, .int mw_3, .int mwa_4, .int (nI ma_2), .int (nI en), .long mv_5, .int mf_6, .int ml_8])), (aMT, .inl (kMT, 65536, .inl B)), (aNx, .inl (kNx, 52650, .inl nx_7))] H := hP
  have hD : va_D A [(aM, .inr (4, [.int th, .ref aMT, .int (nI mu), .ref aNw, .ref aNx, .int mw_3, .int mwa_4, .int (nI ma_2), .int (nI en), .long mv_5, .int mf_6, .int ml_8])), (aMT, .inl (kMT, 65536, .inl B)), (aNx, .inl (kNx, 52650, .inl nx_7))] := hD
  simp only [zf01, zf11, zg13, zg33, decide_true, decide_false] at hw_9
  rcases hw_9 with ⟨rfl, hw_9b, e1, e2, hw_9n, hw_9a, e3⟩ | ⟨rfl, hw_9b, hw_9k, hw_9a, e2⟩
  ·
    have e1 := e1.symm; subst e1
    have e2 := e2.symm; subst e2
    have e3 := e3.symm; subst e3
    refine lv_if_eq (tgt := 87) hx hb d_Md_material_25 (by decide) (fun c_10 => ?_) (fun c_10 => ?_)
    ·
      exact absurd c_10 (by decide)
    ·
      refine lv_aload_n hx hb d_Md_material_28 rfl (lv_at hl 1 rfl) ?_
      refine lv_bipush (v := 44) hx hb d_Md_material_29 (by decide) ?_
      have hPc := hP.sub (ws' := [(aM, .inr (4, [.int th, .ref aMT, .int (nI mu), .ref aNw, .ref aNx, .int mw, .int mwa, .int (nI ma_2), .int (nI en), .long mv_5, .int mf_6, .int (nI hw_9n)])), (aMT, .inl (kMT, 65536, .inl B))]) [0, 1] rfl
      have hDc := hD.sub (ws' := [(aM, .inr (4, [.int th, .ref aMT, .int (nI mu), .ref aNw, .ref aNx, .int mw, .int mwa, .int (nI ma_2), .int (nI en), .long mv_5, .int mf_6, .int (nI hw_9n)])), (aMT, .inl (kMT, 65536, .inl B))]) [0, 1] (by decide) rfl
      have hKc := hK.sub (tys' := [(kMT, .byte)]) [0] rfl
      have hFc := va_free (wc := [(aM, .inr (4, [.int th, .ref aMT, .int (nI mu), .ref aNw, .ref aNx, .int mw, .int mwa, .int (nI ma_2), .int (nI en), .long mv_5, .int mf_6, .int (nI hw_9n)])), (aMT, .inl (kMT, 65536, .inl B))]) hD hS hA [0, 1] rfl
      refine va_calli (va_runV (As := [.int 44]) (rest := []) ⟨hx, hb, hml, hown, hts⟩ (c_Md_sign l G dC dI H.size aM th aMT mu aNw aNx mw mwa ma_2 en mv_5 mf_6 (nI hw_9n) kMT B 44 (by omega) (by omega)) (cwV 1 hts (gV tw_537 tw_539 ts_20 tw_5 tw_540 rfl) rfl rfl rfl (by decide +kernel) ⟨Nat.le_of_ble_eq_true rfl, Nat.le_of_ble_eq_true rfl⟩) (PW_preV hPc hKc hDc hE hS hFc (ci := 4) (q0 := 0) rfl rfl) rfl rfl hl.1 rfl (lv_room (Nat.le_of_ble_eq_true rfl)) d_Md_material_31 ⟨Nat.le_of_ble_eq_true rfl, Nat.le_of_ble_eq_true rfl⟩) hS (fun q _ h => hFc q h) hFc (fun r_11 uu t H1 locs ht hvm hw_15 hB hz1 hk1 hS => ?_)
      obtain ⟨ma_12, mw_13, mwa_14⟩ := uu
      obtain ⟨hP1, hD1, hsz1⟩ := hB
      rw [ht] at hP1 hsz1
      obtain ⟨hP, hD⟩ := va_join (wr := [(aNx, .inl (kNx, 52650, .inl nx_7))]) (w1 := [(aM, .inr (4, [.int th, .ref aMT, .int (nI mu), .ref aNw, .ref aNx, .int mw_13, .int mwa_14, .int (nI ma_12), .int (nI en), .long mv_5, .int mf_6, .int (nI hw_9n)])), (aMT, .inl (kMT, 65536, .inl B))]) hP hD [0, 1] [2] rfl rfl (by decide) (by decide) hk1 hFc hP1 hD1
      generalize H1 = H at hP hS ⊢
      have hP : va_P (dC, dI) vwCl [(aNx, .inl (kNx, 52650, .inl nx_7)), (aM, .inr (4, [.int th, .ref aMT, .int (nI mu), .ref aNw, .ref aNx, .int mw_13, .int mwa_14, .int (nI ma_12), .int (nI en), .long mv_5, .int mf_6, .int (nI hw_9n)])), (aMT, .inl (kMT, 65536, .inl B))] H := hP
      have hD : va_D A [(aNx, .inl (kNx, 52650, .inl nx_7)), (aM, .inr (4, [.int th, .ref aMT, .int (nI mu), .ref aNw, .ref aNx, .int mw_13, .int mwa_14, .int (nI ma_12), .int (nI en), .long mv_5, .int mf_6, .int (nI hw_9n)])), (aMT, .inl (kMT, 65536, .inl B))] := hD
      rcases hw_15 with ⟨rfl, hw_15a, hw_15b, e1, e2⟩ | ⟨rfl, hw_15b, hw_15k, hw_15a, e2⟩
      ·
        have e1 := e1.symm; subst e1
        have e2 := e2.symm; subst e2
        refine lv_if_eq (tgt := 87) hx hb d_Md_material_34 (by decide) (fun c_16 => ?_) (fun c_16 => ?_)
        ·
          exact absurd c_16 (by decide)
        ·
          refine lv_aload_n hx hb d_Md_material_37 rfl (lv_at hl 1 rfl) ?_
          refine lv_ldc2 (v := zWv 18) hx hb hown (hz _ tw_647) d_Md_material_38 ?_
          refine lv_iload_n hx hb d_Md_material_41 rfl (lv_at hl 0 rfl) ?_
          refine lv_iconst (v := 4) hx hb d_Md_material_42 (by decide) ?_
          refine lv_iadd hx hb d_Md_material_43 ?_
          refine zt_top (nI_add (24648 + (8 * kk)) 4) ?_
          refine lv_iconst (v := -1) hx hb d_Md_material_44 (by decide) ?_
          refine lv_aload_n hx hb d_Md_material_45 rfl (lv_at hl 1 rfl) ?_
          refine va_get (D := (dC, dI)) (ci := 4) (v := .ref aNx) (C := R_Md) (T := F_Md) (N := 12) hx hb hz i_Md hown hK hP 1 rfl rfl 4 (by decide) (hz _ tw_480) (fun _ h9 => h9) rfl d_Md_material_46 ?_
          refine lv_iconst (v := 0) hx hb d_Md_material_49 (by decide) ?_
          refine va_iald (D := (dC, dI)) (i := nI 0) hx hb hK hP 0 1 rfl rfl (vp_in_nI (by omega) (by decide)) d_Md_material_50 ?_
          refine zt_top (by rw [nI_clamp (by omega)]) ?_
          refine zt_top (y := nI nt) (by rw [zLK_lo hw_9a 0 (by omega)]; exact hn0) ?_
          refine lv_iconst (v := 1) hx hb d_Md_material_51 (by decide) ?_
          refine lv_isub hx hb d_Md_material_52 ?_
          have hPc := hP.sub (ws' := [(aM, .inr (4, [.int th, .ref aMT, .int (nI mu), .ref aNw, .ref aNx, .int mw, .int mwa, .int (nI ma_12), .int (nI en), .long mv_5, .int mf_6, .int (nI hw_9n)])), (aMT, .inl (kMT, 65536, .inl B)), (aNx, .inl (kNx, 52650, .inl nx_7))]) [1, 2, 0] rfl
          have hDc := hD.sub (ws' := [(aM, .inr (4, [.int th, .ref aMT, .int (nI mu), .ref aNw, .ref aNx, .int mw, .int mwa, .int (nI ma_12), .int (nI en), .long mv_5, .int mf_6, .int (nI hw_9n)])), (aMT, .inl (kMT, 65536, .inl B)), (aNx, .inl (kNx, 52650, .inl nx_7))]) [1, 2, 0] (by decide) rfl
          have hKc := hK.sub (tys' := [(kMT, .byte), (kNx, .int)]) [0, 1] rfl
          have hFc := va_free (wc := [(aM, .inr (4, [.int th, .ref aMT, .int (nI mu), .ref aNw, .ref aNx, .int mw, .int mwa, .int (nI ma_12), .int (nI en), .long mv_5, .int mf_6, .int (nI hw_9n)])), (aMT, .inl (kMT, 65536, .inl B)), (aNx, .inl (kNx, 52650, .inl nx_7))]) hD hS hA [1, 2, 0] rfl
          refine va_calli (va_runV (As := [.long (zWv 18), .int (nI ((24648 + (8 * kk)) + 4)), .int (-1), .int ((nI nt) - 1)]) (rest := []) ⟨hx, hb, hml, hown, hts⟩ (c_Md_named l G dC dI H.size aM th aMT mu aNw aNx mw mwa ma_12 en mv_5 mf_6 (nI hw_9n) kMT B kNx nx_7 18 ((24648 + (8 * kk)) + 4) (-1) ((nI nt) - 1) (by omega) (by omega) (by decide) (by decide) (zSb_len _) (by omega) (by decide) (by decide) (by rw [show nI nt - 1 = nI nt - nI 1 from rfl, pk_sub_toInt (by omega) (by omega)]; omega) (by rw [show nI nt - 1 = nI nt - nI 1 from rfl, pk_sub_toInt (by omega) (by omega)]; omega)) (cwV 4 hts (gV tw_611 tw_613 ts_33 tw_5 tw_614 rfl) rfl rfl rfl (by decide +kernel) ⟨Nat.le_of_ble_eq_true rfl, Nat.le_of_ble_eq_true rfl⟩) (PW_preV hPc hKc hDc hE hS hFc (ci := 4) (q0 := 0) rfl rfl) rfl rfl hl.1 rfl (lv_room (Nat.le_of_ble_eq_true rfl)) d_Md_material_53 ⟨Nat.le_of_ble_eq_true rfl, Nat.le_of_ble_eq_true rfl⟩) hS (fun q _ h => hFc q h) hFc (fun r_17 uu t H1 locs ht hvm hw_24 hB hz1 hk1 hS => ?_)
          obtain ⟨ma_18, mw_19, mwa_20, mv_21, mf_22, nx_23⟩ := uu
          obtain ⟨hP1, hD1, hsz1⟩ := hB
          rw [ht] at hP1 hsz1
          obtain ⟨hP, hD⟩ := va_join (wr := []) (w1 := [(aM, .inr (4, [.int th, .ref aMT, .int (nI mu), .ref aNw, .ref aNx, .int mw_19, .int mwa_20, .int (nI ma_18), .int (nI en), .long mv_21, .int mf_22, .int (nI hw_9n)])), (aMT, .inl (kMT, 65536, .inl B)), (aNx, .inl (kNx, 52650, .inl nx_23))]) hP hD [1, 2, 0] [] rfl rfl (by decide) (by decide) hk1 hFc hP1 hD1
          generalize H1 = H at hP hS ⊢
          have hP : va_P (dC, dI) vwCl [(aM, .inr (4, [.int th, .ref aMT, .int (nI mu), .ref aNw, .ref aNx, .int mw_19, .int mwa_20, .int (nI ma_18), .int (nI en), .long mv_21, .int mf_22, .int (nI hw_9n)])), (aMT, .inl (kMT, 65536, .inl B)), (aNx, .inl (kNx, 52650, .inl nx_23))] H := hP
          have hD : va_D A [(aM, .inr (4, [.int th, .ref aMT, .int (nI mu), .ref aNw, .ref aNx, .int mw_19, .int mwa_20, .int (nI ma_18), .int (nI en), .long mv_21, .int mf_22, .int (nI hw_9n)])), (aMT, .inl (kMT, 65536, .inl B)), (aNx, .inl (kNx, 52650, .inl nx_23))] := hD
          rcases hw_24 with ⟨rfl, hw_24b, e1, e2, hw_24v, hw_24a, e3⟩ | ⟨rfl, hw_24b, hw_24k, hw_24a, e2⟩
          ·
            have e1 := e1.symm; subst e1
            have e2 := e2.symm; subst e2
            have e3 := e3.symm; subst e3
            refine lv_if_eq (tgt := 87) hx hb d_Md_material_56 (by decide) (fun c_25 => ?_) (fun c_25 => ?_)
            ·
              exact absurd c_25 (by decide)
            ·
              refine lv_aload_n hx hb d_Md_material_59 rfl (lv_at hl 1 rfl) ?_
              refine lv_bipush (v := 44) hx hb d_Md_material_60 (by decide) ?_
              have hPc := hP.sub (ws' := [(aM, .inr (4, [.int th, .ref aMT, .int (nI mu), .ref aNw, .ref aNx, .int mw, .int mwa, .int (nI ma_18), .int (nI en), .long mv_21, .int mf_22, .int (nI hw_9n)])), (aMT, .inl (kMT, 65536, .inl B))]) [0, 1] rfl
              have hDc := hD.sub (ws' := [(aM, .inr (4, [.int th, .ref aMT, .int (nI mu), .ref aNw, .ref aNx, .int mw, .int mwa, .int (nI ma_18), .int (nI en), .long mv_21, .int mf_22, .int (nI hw_9n)])), (aMT, .inl (kMT, 65536, .inl B))]) [0, 1] (by decide) rfl
              have hKc := hK.sub (tys' := [(kMT, .byte)]) [0] rfl
              have hFc := va_free (wc := [(aM, .inr (4, [.int th, .ref aMT, .int (nI mu), .ref aNw, .ref aNx, .int mw, .int mwa, .int (nI ma_18), .int (nI en), .long mv_21, .int mf_22, .int (nI hw_9n)])), (aMT, .inl (kMT, 65536, .inl B))]) hD hS hA [0, 1] rfl
              refine va_calli (va_runV (As := [.int 44]) (rest := []) ⟨hx, hb, hml, hown, hts⟩ (c_Md_sign l G dC dI H.size aM th aMT mu aNw aNx mw mwa ma_18 en mv_21 mf_22 (nI hw_9n) kMT B 44 (by omega) (by omega)) (cwV 1 hts (gV tw_537 tw_539 ts_20 tw_5 tw_540 rfl) rfl rfl rfl (by decide +kernel) ⟨Nat.le_of_ble_eq_true rfl, Nat.le_of_ble_eq_true rfl⟩) (PW_preV hPc hKc hDc hE hS hFc (ci := 4) (q0 := 0) rfl rfl) rfl rfl hl.1 rfl (lv_room (Nat.le_of_ble_eq_true rfl)) d_Md_material_62 ⟨Nat.le_of_ble_eq_true rfl, Nat.le_of_ble_eq_true rfl⟩) hS (fun q _ h => hFc q h) hFc (fun r_26 uu t H1 locs ht hvm hw_30 hB hz1 hk1 hS => ?_)
              obtain ⟨ma_27, mw_28, mwa_29⟩ := uu
              obtain ⟨hP1, hD1, hsz1⟩ := hB
              rw [ht] at hP1 hsz1
              obtain ⟨hP, hD⟩ := va_join (wr := [(aNx, .inl (kNx, 52650, .inl (upd nx_7 ((24648 + (8 * kk)) + 4) hw_24v)))]) (w1 := [(aM, .inr (4, [.int th, .ref aMT, .int (nI mu), .ref aNw, .ref aNx, .int mw_28, .int mwa_29, .int (nI ma_27), .int (nI en), .long mv_21, .int mf_22, .int (nI hw_9n)])), (aMT, .inl (kMT, 65536, .inl B))]) hP hD [0, 1] [2] rfl rfl (by decide) (by decide) hk1 hFc hP1 hD1
              generalize H1 = H at hP hS ⊢
              have hP : va_P (dC, dI) vwCl [(aNx, .inl (kNx, 52650, .inl (upd nx_7 ((24648 + (8 * kk)) + 4) hw_24v))), (aM, .inr (4, [.int th, .ref aMT, .int (nI mu), .ref aNw, .ref aNx, .int mw_28, .int mwa_29, .int (nI ma_27), .int (nI en), .long mv_21, .int mf_22, .int (nI hw_9n)])), (aMT, .inl (kMT, 65536, .inl B))] H := hP
              have hD : va_D A [(aNx, .inl (kNx, 52650, .inl (upd nx_7 ((24648 + (8 * kk)) + 4) hw_24v))), (aM, .inr (4, [.int th, .ref aMT, .int (nI mu), .ref aNw, .ref aNx, .int mw_28, .int mwa_29, .int (nI ma_27), .int (nI en), .long mv_21, .int mf_22, .int (nI hw_9n)])), (aMT, .inl (kMT, 65536, .inl B))] := hD
              rcases hw_30 with ⟨rfl, hw_30a, hw_30b, e1, e2⟩ | ⟨rfl, hw_30b, hw_30k, hw_30a, e2⟩
              ·
                have e1 := e1.symm; subst e1
                have e2 := e2.symm; subst e2
                refine lv_if_eq (tgt := 87) hx hb d_Md_material_65 (by decide) (fun c_31 => ?_) (fun c_31 => ?_)
                ·
                  exact absurd c_31 (by decide)
                ·
                  refine lv_aload_n hx hb d_Md_material_68 rfl (lv_at hl 1 rfl) ?_
                  refine lv_ldc2 (v := zWv 19) hx hb hown (hz _ tw_648) d_Md_material_69 ?_
                  refine lv_iload_n hx hb d_Md_material_72 rfl (lv_at hl 0 rfl) ?_
                  refine lv_iconst (v := 5) hx hb d_Md_material_73 (by decide) ?_
                  refine lv_iadd hx hb d_Md_material_74 ?_
                  refine zt_top (nI_add (24648 + (8 * kk)) 5) ?_
                  refine lv_iconst (v := 0) hx hb d_Md_material_75 (by decide) ?_
                  refine lv_iconst (v := 1) hx hb d_Md_material_76 (by decide) ?_
                  have hPc := hP.sub (ws' := [(aM, .inr (4, [.int th, .ref aMT, .int (nI mu), .ref aNw, .ref aNx, .int mw, .int mwa, .int (nI ma_27), .int (nI en), .long mv_21, .int mf_22, .int (nI hw_9n)])), (aMT, .inl (kMT, 65536, .inl B)), (aNx, .inl (kNx, 52650, .inl (upd nx_7 ((24648 + (8 * kk)) + 4) hw_24v)))]) [1, 2, 0] rfl
                  have hDc := hD.sub (ws' := [(aM, .inr (4, [.int th, .ref aMT, .int (nI mu), .ref aNw, .ref aNx, .int mw, .int mwa, .int (nI ma_27), .int (nI en), .long mv_21, .int mf_22, .int (nI hw_9n)])), (aMT, .inl (kMT, 65536, .inl B)), (aNx, .inl (kNx, 52650, .inl (upd nx_7 ((24648 + (8 * kk)) + 4) hw_24v)))]) [1, 2, 0] (by decide) rfl
                  have hKc := hK.sub (tys' := [(kMT, .byte), (kNx, .int)]) [0, 1] rfl
                  have hFc := va_free (wc := [(aM, .inr (4, [.int th, .ref aMT, .int (nI mu), .ref aNw, .ref aNx, .int mw, .int mwa, .int (nI ma_27), .int (nI en), .long mv_21, .int mf_22, .int (nI hw_9n)])), (aMT, .inl (kMT, 65536, .inl B)), (aNx, .inl (kNx, 52650, .inl (upd nx_7 ((24648 + (8 * kk)) + 4) hw_24v)))]) hD hS hA [1, 2, 0] rfl
                  refine va_calli (va_runV (As := [.long (zWv 19), .int (nI ((24648 + (8 * kk)) + 5)), .int 0, .int 1]) (rest := []) ⟨hx, hb, hml, hown, hts⟩ (c_Md_named l G dC dI H.size aM th aMT mu aNw aNx mw mwa ma_27 en mv_21 mf_22 (nI hw_9n) kMT B kNx (upd nx_7 ((24648 + (8 * kk)) + 4) hw_24v) 19 ((24648 + (8 * kk)) + 5) 0 1 (by omega) (by omega) (by decide) (by decide) (zSb_len _) (by omega) (by decide) (by decide) (by decide) (by decide)) (cwV 4 hts (gV tw_611 tw_613 ts_33 tw_5 tw_614 rfl) rfl rfl rfl (by decide +kernel) ⟨Nat.le_of_ble_eq_true rfl, Nat.le_of_ble_eq_true rfl⟩) (PW_preV hPc hKc hDc hE hS hFc (ci := 4) (q0 := 0) rfl rfl) rfl rfl hl.1 rfl (lv_room (Nat.le_of_ble_eq_true rfl)) d_Md_material_77 ⟨Nat.le_of_ble_eq_true rfl, Nat.le_of_ble_eq_true rfl⟩) hS (fun q _ h => hFc q h) hFc (fun r_32 uu t H1 locs ht hvm hw_39 hB hz1 hk1 hS => ?_)
                  obtain ⟨ma_33, mw_34, mwa_35, mv_36, mf_37, nx_38⟩ := uu
                  obtain ⟨hP1, hD1, hsz1⟩ := hB
                  rw [ht] at hP1 hsz1
                  obtain ⟨hP, hD⟩ := va_join (wr := []) (w1 := [(aM, .inr (4, [.int th, .ref aMT, .int (nI mu), .ref aNw, .ref aNx, .int mw_34, .int mwa_35, .int (nI ma_33), .int (nI en), .long mv_36, .int mf_37, .int (nI hw_9n)])), (aMT, .inl (kMT, 65536, .inl B)), (aNx, .inl (kNx, 52650, .inl nx_38))]) hP hD [1, 2, 0] [] rfl rfl (by decide) (by decide) hk1 hFc hP1 hD1
                  generalize H1 = H at hP hS ⊢
                  have hP : va_P (dC, dI) vwCl [(aM, .inr (4, [.int th, .ref aMT, .int (nI mu), .ref aNw, .ref aNx, .int mw_34, .int mwa_35, .int (nI ma_33), .int (nI en), .long mv_36, .int mf_37, .int (nI hw_9n)])), (aMT, .inl (kMT, 65536, .inl B)), (aNx, .inl (kNx, 52650, .inl nx_38))] H := hP
                  have hD : va_D A [(aM, .inr (4, [.int th, .ref aMT, .int (nI mu), .ref aNw, .ref aNx, .int mw_34, .int mwa_35, .int (nI ma_33), .int (nI en), .long mv_36, .int mf_37, .int (nI hw_9n)])), (aMT, .inl (kMT, 65536, .inl B)), (aNx, .inl (kNx, 52650, .inl nx_38))] := hD
                  rcases hw_39 with ⟨rfl, hw_39b, e1, e2, hw_39v, hw_39a, e3⟩ | ⟨rfl, hw_39b, hw_39k, hw_39a, e2⟩
                  ·
                    have e1 := e1.symm; subst e1
                    have e2 := e2.symm; subst e2
                    have e3 := e3.symm; subst e3
                    refine lv_if_eq (tgt := 87) hx hb d_Md_material_80 (by decide) (fun c_40 => ?_) (fun c_40 => ?_)
                    ·
                      exact absurd c_40 (by decide)
                    ·
                      refine lv_iconst (v := 1) hx hb d_Md_material_83 (by decide) ?_
                      refine lv_goto (tgt := 88) hx hb d_Md_material_84 (by decide) ?_
                      refine zt_size (fun hzs => ?_)
                      have hP9 := hP.sub (ws' := [(aM, .inr (4, [.int th, .ref aMT, .int (nI mu), .ref aNw, .ref aNx, .int mw, .int mwa, .int (nI ma_33), .int (nI en), .long mv_36, .int mf_37, .int (nI hw_9n)])), (aMT, .inl (kMT, 65536, .inl B)), (aNx, .inl (kNx, 52650, .inl (upd (upd nx_7 ((24648 + (8 * kk)) + 4) hw_24v) ((24648 + (8 * kk)) + 5) hw_39v)))]) [0, 1, 2] rfl
                      have hD9 := hD.sub (ws' := [(aM, .inr (4, [.int th, .ref aMT, .int (nI mu), .ref aNw, .ref aNx, .int mw, .int mwa, .int (nI ma_33), .int (nI en), .long mv_36, .int mf_37, .int (nI hw_9n)])), (aMT, .inl (kMT, 65536, .inl B)), (aNx, .inl (kNx, 52650, .inl (upd (upd nx_7 ((24648 + (8 * kk)) + 4) hw_24v) ((24648 + (8 * kk)) + 5) hw_39v)))]) [0, 1, 2] (by decide) rfl
                      exact W.zret (v := 1) hx hb hr rfl (fun t ht hW => ⟨⟨1, (ma_33, mw, mwa, mv_36, mf_37, upd (upd nx_7 ((24648 + (8 * kk)) + 4) hw_24v) ((24648 + (8 * kk)) + 5) hw_39v, nI hw_9n), rfl, Or.inl ⟨rfl, by omega, rfl, rfl, by simp only [mMaterial, mListK, mNumK, zB_ok, hw_9a, hw_15a, hw_24a, hw_30a, hw_39a]⟩, by rw [ht]; exact hP9, hD9, by rw [ht]; exact hzs⟩, hS.F ht⟩) hS.2.2 d_Md_material_88
                  ·
                    have e2 := e2.symm; subst e2
                    refine lv_if_eq (tgt := 87) hx hb d_Md_material_80 (by decide) (fun c_41 => ?_) (fun c_41 => ?_)
                    ·
                      refine lv_iconst (v := 0) hx hb d_Md_material_87 (by decide) ?_
                      refine zt_size (fun hzs => ?_)
                      have hP9 := hP.sub (ws' := [(aM, .inr (4, [.int th, .ref aMT, .int (nI mu), .ref aNw, .ref aNx, .int mw_34, .int (nI hw_39k), .int (nI ma_33), .int (nI en), .long mv_36, .int mf_37, .int (nI hw_9n)])), (aMT, .inl (kMT, 65536, .inl B)), (aNx, .inl (kNx, 52650, .inl nx_38))]) [0, 1, 2] rfl
                      have hD9 := hD.sub (ws' := [(aM, .inr (4, [.int th, .ref aMT, .int (nI mu), .ref aNw, .ref aNx, .int mw_34, .int (nI hw_39k), .int (nI ma_33), .int (nI en), .long mv_36, .int mf_37, .int (nI hw_9n)])), (aMT, .inl (kMT, 65536, .inl B)), (aNx, .inl (kNx, 52650, .inl nx_38))]) [0, 1, 2] (by decide) rfl
                      exact W.zret (v := 0) hx hb hr rfl (fun t ht hW => ⟨⟨0, (ma_33, mw_34, nI hw_39k, mv_36, mf_37, nx_38, nI hw_9n), rfl, Or.inr ⟨rfl, by omega, _, by simp only [mMaterial, mListK, mNumK, zB_ok, zB_er, hw_9a, hw_15a, hw_24a, hw_30a, hw_39a], rfl⟩, by rw [ht]; exact hP9, hD9, by rw [ht]; exact hzs⟩, hS.F ht⟩) hS.2.2 d_Md_material_88
                    ·
                      exact absurd (by decide) c_41
              ·
                have e2 := e2.symm; subst e2
                refine lv_if_eq (tgt := 87) hx hb d_Md_material_65 (by decide) (fun c_42 => ?_) (fun c_42 => ?_)
                ·
                  refine lv_iconst (v := 0) hx hb d_Md_material_87 (by decide) ?_
                  refine zt_size (fun hzs => ?_)
                  have hP9 := hP.sub (ws' := [(aM, .inr (4, [.int th, .ref aMT, .int (nI mu), .ref aNw, .ref aNx, .int mw_28, .int (nI hw_30k), .int (nI ma_27), .int (nI en), .long mv_21, .int mf_22, .int (nI hw_9n)])), (aMT, .inl (kMT, 65536, .inl B)), (aNx, .inl (kNx, 52650, .inl (upd nx_7 ((24648 + (8 * kk)) + 4) hw_24v)))]) [1, 2, 0] rfl
                  have hD9 := hD.sub (ws' := [(aM, .inr (4, [.int th, .ref aMT, .int (nI mu), .ref aNw, .ref aNx, .int mw_28, .int (nI hw_30k), .int (nI ma_27), .int (nI en), .long mv_21, .int mf_22, .int (nI hw_9n)])), (aMT, .inl (kMT, 65536, .inl B)), (aNx, .inl (kNx, 52650, .inl (upd nx_7 ((24648 + (8 * kk)) + 4) hw_24v)))]) [1, 2, 0] (by decide) rfl
                  exact W.zret (v := 0) hx hb hr rfl (fun t ht hW => ⟨⟨0, (ma_27, mw_28, nI hw_30k, mv_21, mf_22, upd nx_7 ((24648 + (8 * kk)) + 4) hw_24v, nI hw_9n), rfl, Or.inr ⟨rfl, by omega, _, by simp only [mMaterial, mListK, mNumK, zB_ok, zB_er, hw_9a, hw_15a, hw_24a, hw_30a], rfl⟩, by rw [ht]; exact hP9, hD9, by rw [ht]; exact hzs⟩, hS.F ht⟩) hS.2.2 d_Md_material_88
                ·
                  exact absurd (by decide) c_42
          ·
            have e2 := e2.symm; subst e2
            refine lv_if_eq (tgt := 87) hx hb d_Md_material_56 (by decide) (fun c_43 => ?_) (fun c_43 => ?_)
            ·
              refine lv_iconst (v := 0) hx hb d_Md_material_87 (by decide) ?_
              refine zt_size (fun hzs => ?_)
              have hP9 := hP.sub (ws' := [(aM, .inr (4, [.int th, .ref aMT, .int (nI mu), .ref aNw, .ref aNx, .int mw_19, .int (nI hw_24k), .int (nI ma_18), .int (nI en), .long mv_21, .int mf_22, .int (nI hw_9n)])), (aMT, .inl (kMT, 65536, .inl B)), (aNx, .inl (kNx, 52650, .inl nx_23))]) [0, 1, 2] rfl
              have hD9 := hD.sub (ws' := [(aM, .inr (4, [.int th, .ref aMT, .int (nI mu), .ref aNw, .ref aNx, .int mw_19, .int (nI hw_24k), .int (nI ma_18), .int (nI en), .long mv_21, .int mf_22, .int (nI hw_9n)])), (aMT, .inl (kMT, 65536, .inl B)), (aNx, .inl (kNx, 52650, .inl nx_23))]) [0, 1, 2] (by decide) rfl
              exact W.zret (v := 0) hx hb hr rfl (fun t ht hW => ⟨⟨0, (ma_18, mw_19, nI hw_24k, mv_21, mf_22, nx_23, nI hw_9n), rfl, Or.inr ⟨rfl, by omega, _, by simp only [mMaterial, mListK, mNumK, zB_ok, zB_er, hw_9a, hw_15a, hw_24a], rfl⟩, by rw [ht]; exact hP9, hD9, by rw [ht]; exact hzs⟩, hS.F ht⟩) hS.2.2 d_Md_material_88
            ·
              exact absurd (by decide) c_43
      ·
        have e2 := e2.symm; subst e2
        refine lv_if_eq (tgt := 87) hx hb d_Md_material_34 (by decide) (fun c_44 => ?_) (fun c_44 => ?_)
        ·
          refine lv_iconst (v := 0) hx hb d_Md_material_87 (by decide) ?_
          refine zt_size (fun hzs => ?_)
          have hP9 := hP.sub (ws' := [(aM, .inr (4, [.int th, .ref aMT, .int (nI mu), .ref aNw, .ref aNx, .int mw_13, .int (nI hw_15k), .int (nI ma_12), .int (nI en), .long mv_5, .int mf_6, .int (nI hw_9n)])), (aMT, .inl (kMT, 65536, .inl B)), (aNx, .inl (kNx, 52650, .inl nx_7))]) [1, 2, 0] rfl
          have hD9 := hD.sub (ws' := [(aM, .inr (4, [.int th, .ref aMT, .int (nI mu), .ref aNw, .ref aNx, .int mw_13, .int (nI hw_15k), .int (nI ma_12), .int (nI en), .long mv_5, .int mf_6, .int (nI hw_9n)])), (aMT, .inl (kMT, 65536, .inl B)), (aNx, .inl (kNx, 52650, .inl nx_7))]) [1, 2, 0] (by decide) rfl
          exact W.zret (v := 0) hx hb hr rfl (fun t ht hW => ⟨⟨0, (ma_12, mw_13, nI hw_15k, mv_5, mf_6, nx_7, nI hw_9n), rfl, Or.inr ⟨rfl, by omega, _, by simp only [mMaterial, mListK, mNumK, zB_ok, zB_er, hw_9a, hw_15a], rfl⟩, by rw [ht]; exact hP9, hD9, by rw [ht]; exact hzs⟩, hS.F ht⟩) hS.2.2 d_Md_material_88
        ·
          exact absurd (by decide) c_44
  ·
    have e2 := e2.symm; subst e2
    refine lv_if_eq (tgt := 87) hx hb d_Md_material_25 (by decide) (fun c_45 => ?_) (fun c_45 => ?_)
    ·
      refine lv_iconst (v := 0) hx hb d_Md_material_87 (by decide) ?_
      refine zt_size (fun hzs => ?_)
      have hP9 := hP.sub (ws' := [(aM, .inr (4, [.int th, .ref aMT, .int (nI mu), .ref aNw, .ref aNx, .int mw_3, .int (nI hw_9k), .int (nI ma_2), .int (nI en), .long mv_5, .int mf_6, .int ml_8])), (aMT, .inl (kMT, 65536, .inl B)), (aNx, .inl (kNx, 52650, .inl nx_7))]) [0, 1, 2] rfl
      have hD9 := hD.sub (ws' := [(aM, .inr (4, [.int th, .ref aMT, .int (nI mu), .ref aNw, .ref aNx, .int mw_3, .int (nI hw_9k), .int (nI ma_2), .int (nI en), .long mv_5, .int mf_6, .int ml_8])), (aMT, .inl (kMT, 65536, .inl B)), (aNx, .inl (kNx, 52650, .inl nx_7))]) [0, 1, 2] (by decide) rfl
      exact W.zret (v := 0) hx hb hr rfl (fun t ht hW => ⟨⟨0, (ma_2, mw_3, nI hw_9k, mv_5, mf_6, nx_7, ml_8), rfl, Or.inr ⟨rfl, by omega, _, by simp only [mMaterial, mListK, mNumK, zB_ok, zB_er, hw_9a], rfl⟩, by rw [ht]; exact hP9, hD9, by rw [ht]; exact hzs⟩, hS.F ht⟩) hS.2.2 d_Md_material_88
    ·
      exact absurd (by decide) c_45
