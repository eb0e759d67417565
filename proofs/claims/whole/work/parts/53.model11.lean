theorem zLK_in {B : Nat → Int32} {en : Nat} {wd : List Int32} {hk : Nat} {gr w3 : Bool} {le mo ce : Nat} {low hi : Int32} {cel : Nat → Int32} {n2 h2 : Nat} {cel2 : Nat → Int32} (he : (zB (zKey B en wd hk) fun h1 => zList B en gr w3 le mo ce low hi h1 cel) = .ok (n2, h2, cel2)) : le ≤ n2 ∧ n2 ≤ mo ∧ (w3 = true → n2 % 3 = 0) := by
  obtain ⟨h1, e1, e2⟩ := zB_okI he
  have k1 : h1 ≤ en := by
    unfold zKey at e1
    split at e1
    · cases e1
    · exact (zMust_in e1).2
  have := zList_in k1 e2
  exact ⟨this.2.2.1, this.2.2.2.1, this.2.2.2.2⟩
def mMesh (B : Nat → Int32) (en kk nm : Nat) (s : Nat × (Nat → Int32)) : Except (Int32 × Nat) (Nat × (Nat → Int32)) := zB (mNumK B en (zSb 20) (24776 + 1440 * kk) 0 (nI nm - 1) s) fun a => zB (zMust B en 44 a.2.1) fun h1 =>  zB (mListK B en (zSb 21) false true 3 384 (24776 + 1440 * kk + 16) (-1048576) 1048576 (h1, a.2.2)) fun b => zB (zMust B en 44 b.2.1) fun h2 =>  zB (mListK B en (zSb 22) false false (3 * (b.1 / 3)) (3 * (b.1 / 3)) (24776 + 1440 * kk + 400) (-65536) 65536 (h2, upd b.2.2 (24776 + 1440 * kk + 1) (nI (b.1 / 3)))) fun d => zB (zMust B en 44 d.2.1) fun h3 =>  zB (mListK B en (zSb 23) false false (2 * (b.1 / 3)) (2 * (b.1 / 3)) (24776 + 1440 * kk + 784) (-131072) 131072 (h3, d.2.2)) fun f => zB (zMust B en 44 f.2.1) fun h4 =>  zB (mListK B en (zSb 24) false true 3 384 (24776 + 1440 * kk + 1040) 0 (nI (b.1 / 3) - 1) (h4, f.2.2)) fun g => .ok (g.2.1, upd g.2.2 (24776 + 1440 * kk + 2) (nI (g.1 / 3)))
set_option maxHeartbeats 4000000 in
set_option maxRecDepth 100000 in
theorem c_Md_mesh (l : Launch) (G : ZG) (dC : Nat → ClassId) (dI : Nat → Nat → Nat) (sz : Nat) (aM : Nat) (th : Int32) (aMT : Nat) (mu : Nat) (aNw : Nat) (aNx : Nat) (mw : Int32) (mwa : Int32) (ma : Nat) (en : Nat) (mv : Int64) (mf : Int32) (ml : Int32) (kMT : ClassId) (B : Nat → Int32) (kNx : ClassId) (nx : Nat → Int32) (nm : Nat) (kk : Nat) (hen : en ≤ 65536) (hma : ma ≤ en) (hkk : kk < 16) (hnm : nm ≤ 48) (hn1 : nx 1 = nI nm) : Met l y_Md_mesh w_Md_mesh ({ frames := 5, cells := 0, slots := 0, locals := 115 }) (va_Pc [.ref aM, .int (nI kk)] (PW G (dC, dI) [(kMT, .byte), (kNx, .int)] [(aM, .inr (4, [.int th, .ref aMT, .int (nI mu), .ref aNw, .ref aNx, .int mw, .int mwa, .int (nI ma), .int (nI en), .long mv, .int mf, .int ml])), (aMT, .inl (kMT, 65536, .inl B)), (aNx, .inl (kNx, 52650, .inl nx))] sz)) (va_Qi (fun (r : Int32) (uu : Nat × Int32 × Int32 × Int64 × Int32 × (Nat → Int32) × Int32) => (r = 1 ∧ uu.1 ≤ en ∧ uu.2.1 = mw ∧ uu.2.2.1 = mwa ∧ mMesh B en kk nm (zK B en ma, nx) = .ok (zK B en uu.1, uu.2.2.2.2.2.1)) ∨ (r = 0 ∧ uu.1 ≤ en ∧ ∃ k, mMesh B en kk nm (zK B en ma, nx) = .error (uu.2.1, k) ∧ uu.2.2.1 = nI k)) (fun (uu : Nat × Int32 × Int32 × Int64 × Int32 × (Nat → Int32) × Int32) t => BW (dC, dI) [(aM, .inr (4, [.int th, .ref aMT, .int (nI mu), .ref aNw, .ref aNx, .int uu.2.1, .int uu.2.2.1, .int (nI uu.1), .int (nI en), .long uu.2.2.2.1, .int uu.2.2.2.2.1, .int uu.2.2.2.2.2.2])), (aMT, .inl (kMT, 65536, .inl B)), (aNx, .inl (kNx, 52650, .inl uu.2.2.2.2.2.1))] (va_A [(aM, .inr (4, [.int th, .ref aMT, .int (nI mu), .ref aNw, .ref aNx, .int mw, .int mwa, .int (nI ma), .int (nI en), .long mv, .int mf, .int ml])), (aMT, .inl (kMT, 65536, .inl B)), (aNx, .inl (kNx, 52650, .inl nx))] sz) sz t) (va_A [(aM, .inr (4, [.int th, .ref aMT, .int (nI mu), .ref aNw, .ref aNx, .int mw, .int mwa, .int (nI ma), .int (nI en), .long mv, .int mf, .int ml])), (aMT, .inl (kMT, 65536, .inl B)), (aNx, .inl (kNx, 52650, .inl nx))] sz)) 0 0 (va_A [(aM, .inr (4, [.int th, .ref aMT, .int (nI mu), .ref aNw, .ref aNx, .int mw, .int mwa, .int (nI ma), .int (nI en), .long mv, .int mf, .int ml])), (aMT, .inl (kMT, 65536, .inl B)), (aNx, .inl (kNx, 52650, .inl nx))] sz) := by
  refine Met.ofW (cc := prog_6_method_22_code) (maxL := 4) (ret := (some .boolean)) (by decide) rfl ?_
  intro p e s m args below meth c s₁ Bd hml hv
  obtain ⟨rfl, hsz, hP, hK, hD0, hE⟩ := hv
  have hx := Bd.exec
  have hb := Bd.bytes
  have hr := Bd.returns
  have hts := atoms_spec (ws := w_Md_mesh) Bd.pre
  have hown : s.vm.findClass R_Md = some m.cls := findClass_of_methodNamed Bd.named
  have hlocks := Bd.notSynchronized
  have hz : ∀ w ∈ ZW, w.before _ s = true := fun w h => hts w (List.mem_cons_of_mem _ h)
  subst hsz
  have hD := hD0.self (sz := s.heap.size)
  generalize hAe : va_A [(aM, .inr (4, [.int th, .ref aMT, .int (nI mu), .ref aNw, .ref aNx, .int mw, .int mwa, .int (nI ma), .int (nI en), .long mv, .int mf, .int ml])), (aMT, .inl (kMT, 65536, .inl B)), (aNx, .inl (kNx, 52650, .inl nx))] s.heap.size = A at hD hE ⊢
  have hA : ∀ q : Nat, s.heap.size ≤ q → A q := fun q h => by rw [← hAe]; exact Or.inr h
  have hS : va_S A s.heap s.heap [] := va_S.rf
  have hl := lv_entry ([.ref aM, .int (nI kk)]) (n := 4) (Nat.le_of_ble_eq_true rfl)
  rw [lg_entry_eq]
  generalize (lg_sl ([.ref aM, .int (nI kk)]) ++ List.replicate (4 - (lg_sl ([.ref aM, .int (nI kk)])).length) Slot.unset).toArray = ls at hl ⊢
  have hl : lv_has ls 4 [(0, .ref aM), (1, .int (nI kk))] := hl
  obtain ⟨H, hH⟩ : ∃ z, z = s.heap := ⟨_, rfl⟩
  have hP : va_P (dC, dI) vwCl [(aM, .inr (4, [.int th, .ref aMT, .int (nI mu), .ref aNw, .ref aNx, .int mw, .int mwa, .int (nI ma), .int (nI en), .long mv, .int mf, .int ml])), (aMT, .inl (kMT, 65536, .inl B)), (aNx, .inl (kNx, 52650, .inl nx))] H := by rw [hH]; exact hP
  have hS : va_S A s.heap H [] := by rw [hH]; exact hS
  refine zt_heap hH ?_
  refine lv_sipush (v := 24776) hx hb d_Md_mesh_0 (by decide) ?_
  refine lv_sipush (v := 1440) hx hb d_Md_mesh_3 (by decide) ?_
  refine lv_iload_n hx hb d_Md_mesh_6 rfl (lv_at hl 1 rfl) ?_
  refine lv_imul hx hb d_Md_mesh_7 ?_
  refine zt_top (pk_mul 1440 kk) ?_
  refine lv_iadd hx hb d_Md_mesh_8 ?_
  refine zt_top (nI_add 24776 (1440 * kk)) ?_
  refine lv_istore_n (lv' := [(2, .int (nI (24776 + (1440 * kk)))), (0, .ref aM), (1, .int (nI kk))]) hx hb d_Md_mesh_9 rfl hl (by decide) rfl (fun ls hl => ?_)
  refine lv_aload_n hx hb d_Md_mesh_10 rfl (lv_at hl 1 rfl) ?_
  refine lv_ldc2 (v := zWv 20) hx hb hown (hz _ tw_653) d_Md_mesh_11 ?_
  refine lv_iload_n hx hb d_Md_mesh_14 rfl (lv_at hl 0 rfl) ?_
  refine lv_iconst (v := 0) hx hb d_Md_mesh_15 (by decide) ?_
  refine lv_aload_n hx hb d_Md_mesh_16 rfl (lv_at hl 1 rfl) ?_
  refine va_get (D := (dC, dI)) (ci := 4) (v := .ref aNx) (C := R_Md) (T := F_Md) (N := 12) hx hb hz i_Md hown hK hP 0 rfl rfl 4 (by decide) (hz _ tw_480) (fun _ h9 => h9) rfl d_Md_mesh_17 ?_
  refine lv_iconst (v := 1) hx hb d_Md_mesh_20 (by decide) ?_
  refine va_iald (D := (dC, dI)) (i := nI 1) hx hb hK hP 2 1 rfl rfl (vp_in_nI (by omega) (by decide)) d_Md_mesh_21 ?_
  refine zt_top (by rw [nI_clamp (by omega)]) ?_
  refine zt_top (y := nI nm) (hn1) ?_
  refine lv_iconst (v := 1) hx hb d_Md_mesh_22 (by decide) ?_
  refine lv_isub hx hb d_Md_mesh_23 ?_
  have hPc := hP.sub (ws' := [(aM, .inr (4, [.int th, .ref aMT, .int (nI mu), .ref aNw, .ref aNx, .int mw, .int mwa, .int (nI ma), .int (nI en), .long mv, .int mf, .int ml])), (aMT, .inl (kMT, 65536, .inl B)), (aNx, .inl (kNx, 52650, .inl nx))]) [0, 1, 2] rfl
  have hDc := hD.sub (ws' := [(aM, .inr (4, [.int th, .ref aMT, .int (nI mu), .ref aNw, .ref aNx, .int mw, .int mwa, .int (nI ma), .int (nI en), .long mv, .int mf, .int ml])), (aMT, .inl (kMT, 65536, .inl B)), (aNx, .inl (kNx, 52650, .inl nx))]) [0, 1, 2] (by decide) rfl
  have hKc := hK.sub (tys' := [(kMT, .byte), (kNx, .int)]) [0, 1] rfl
  have hFc := va_free (wc := [(aM, .inr (4, [.int th, .ref aMT, .int (nI mu), .ref aNw, .ref aNx, .int mw, .int mwa, .int (nI ma), .int (nI en), .long mv, .int mf, .int ml])), (aMT, .inl (kMT, 65536, .inl B)), (aNx, .inl (kNx, 52650, .inl nx))]) hD hS hA [0, 1, 2] rfl
  refine va_calli (va_runV (As := [.long (zWv 20), .int (nI (24776 + (1440 * kk))), .int 0, .int ((nI nm) - 1)]) (rest := []) ⟨hx, hb, hml, hown, hts⟩ (c_Md_named l G dC dI H.size aM th aMT mu aNw aNx mw mwa ma en mv mf ml kMT B kNx nx 20 (24776 + (1440 * kk)) 0 ((nI nm) - 1) (by omega) (by omega) (by decide) (by decide) (zSb_len _) (by omega) (by decide) (by decide) (by rw [show nI nm - 1 = nI nm - nI 1 from rfl, pk_sub_toInt (by omega) (by omega)]; omega) (by rw [show nI nm - 1 = nI nm - nI 1 from rfl, pk_sub_toInt (by omega) (by omega)]; omega)) (cwV 4 hts (gV tw_611 tw_613 ts_33 tw_5 tw_614 rfl) rfl rfl rfl (by decide +kernel) ⟨Nat.le_of_ble_eq_true rfl, Nat.le_of_ble_eq_true rfl⟩) (PW_preV hPc hKc hDc hE hS hFc (ci := 4) (q0 := 0) rfl rfl) rfl rfl hl.1 rfl (lv_room (Nat.le_of_ble_eq_true rfl)) d_Md_mesh_24 ⟨Nat.le_of_ble_eq_true rfl, Nat.le_of_ble_eq_true rfl⟩) hS (fun q _ h => hFc q h) hFc (fun r_1 uu t H1 locs ht hvm hw_8 hB hz1 hk1 hS => ?_)
  obtain ⟨ma_2, mw_3, mwa_4, mv_5, mf_6, nx_7⟩ := uu
  obtain ⟨hP1, hD1, hsz1⟩ := hB
  rw [ht] at hP1 hsz1
  obtain ⟨hP, hD⟩ := va_join (wr := []) (w1 := [(aM, .inr (4, [.int th, .ref aMT, .int (nI mu), .ref aNw, .ref aNx, .int mw_3, .int mwa_4, .int (nI ma_2), .int (nI en), .long mv_5, .int mf_6, .int ml])), (aMT, .inl (kMT, 65536, .inl B)), (aNx, .inl (kNx, 52650, .inl nx_7))]) hP hD [0, 1, 2] [] rfl rfl (by decide) (by decide) hk1 hFc hP1 hD1
  generalize H1 = H at hP hS ⊢
  have hP : va_P (dC, dI) vwCl [(aM, .inr (4, [.int th, .ref aMT, .int (nI mu), .ref aNw, .ref aNx, .int mw_3, .int mwa_4, .int (nI ma_2), .int (nI en), .long mv_5, .int mf_6, .int ml])), (aMT, .inl (kMT, 65536, .inl B)), (aNx, .inl (kNx, 52650, .inl nx_7))] H := hP
  have hD : va_D A [(aM, .inr (4, [.int th, .ref aMT, .int (nI mu), .ref aNw, .ref aNx, .int mw_3, .int mwa_4, .int (nI ma_2), .int (nI en), .long mv_5, .int mf_6, .int ml])), (aMT, .inl (kMT, 65536, .inl B)), (aNx, .inl (kNx, 52650, .inl nx_7))] := hD
  rcases hw_8 with ⟨rfl, hw_8b, e1, e2, hw_8v, hw_8a, e3⟩ | ⟨rfl, hw_8b, hw_8k, hw_8a, e2⟩
  ·
    have e1 := e1.symm; subst e1
    have e2 := e2.symm; subst e2
    have e3 := e3.symm; subst e3
    refine lv_if_eq (tgt := 63) hx hb d_Md_mesh_27 (by decide) (fun c_9 => ?_) (fun c_9 => ?_)
    ·
      exact absurd c_9 (by decide)
    ·
      refine lv_aload_n hx hb d_Md_mesh_30 rfl (lv_at hl 1 rfl) ?_
      refine lv_bipush (v := 44) hx hb d_Md_mesh_31 (by decide) ?_
      have hPc := hP.sub (ws' := [(aM, .inr (4, [.int th, .ref aMT, .int (nI mu), .ref aNw, .ref aNx, .int mw, .int mwa, .int (nI ma_2), .int (nI en), .long mv_5, .int mf_6, .int ml])), (aMT, .inl (kMT, 65536, .inl B))]) [0, 1] rfl
      have hDc := hD.sub (ws' := [(aM, .inr (4, [.int th, .ref aMT, .int (nI mu), .ref aNw, .ref aNx, .int mw, .int mwa, .int (nI ma_2), .int (nI en), .long mv_5, .int mf_6, .int ml])), (aMT, .inl (kMT, 65536, .inl B))]) [0, 1] (by decide) rfl
      have hKc := hK.sub (tys' := [(kMT, .byte)]) [0] rfl
      have hFc := va_free (wc := [(aM, .inr (4, [.int th, .ref aMT, .int (nI mu), .ref aNw, .ref aNx, .int mw, .int mwa, .int (nI ma_2), .int (nI en), .long mv_5, .int mf_6, .int ml])), (aMT, .inl (kMT, 65536, .inl B))]) hD hS hA [0, 1] rfl
      refine va_calli (va_runV (As := [.int 44]) (rest := []) ⟨hx, hb, hml, hown, hts⟩ (c_Md_sign l G dC dI H.size aM th aMT mu aNw aNx mw mwa ma_2 en mv_5 mf_6 ml kMT B 44 (by omega) (by omega)) (cwV 1 hts (gV tw_537 tw_539 ts_20 tw_5 tw_540 rfl) rfl rfl rfl (by decide +kernel) ⟨Nat.le_of_ble_eq_true rfl, Nat.le_of_ble_eq_true rfl⟩) (PW_preV hPc hKc hDc hE hS hFc (ci := 4) (q0 := 0) rfl rfl) rfl rfl hl.1 rfl (lv_room (Nat.le_of_ble_eq_true rfl)) d_Md_mesh_33 ⟨Nat.le_of_ble_eq_true rfl, Nat.le_of_ble_eq_true rfl⟩) hS (fun q _ h => hFc q h) hFc (fun r_10 uu t H1 locs ht hvm hw_14 hB hz1 hk1 hS => ?_)
      obtain ⟨ma_11, mw_12, mwa_13⟩ := uu
      obtain ⟨hP1, hD1, hsz1⟩ := hB
      rw [ht] at hP1 hsz1
      obtain ⟨hP, hD⟩ := va_join (wr := [(aNx, .inl (kNx, 52650, .inl (upd nx (24776 + (1440 * kk)) hw_8v)))]) (w1 := [(aM, .inr (4, [.int th, .ref aMT, .int (nI mu), .ref aNw, .ref aNx, .int mw_12, .int mwa_13, .int (nI ma_11), .int (nI en), .long mv_5, .int mf_6, .int ml])), (aMT, .inl (kMT, 65536, .inl B))]) hP hD [0, 1] [2] rfl rfl (by decide) (by decide) hk1 hFc hP1 hD1
      generalize H1 = H at hP hS ⊢
      have hP : va_P (dC, dI) vwCl [(aNx, .inl (kNx, 52650, .inl (upd nx (24776 + (1440 * kk)) hw_8v))), (aM, .inr (4, [.int th, .ref aMT, .int (nI mu), .ref aNw, .ref aNx, .int mw_12, .int mwa_13, .int (nI ma_11), .int (nI en), .long mv_5, .int mf_6, .int ml])), (aMT, .inl (kMT, 65536, .inl B))] H := hP
      have hD : va_D A [(aNx, .inl (kNx, 52650, .inl (upd nx (24776 + (1440 * kk)) hw_8v))), (aM, .inr (4, [.int th, .ref aMT, .int (nI mu), .ref aNw, .ref aNx, .int mw_12, .int mwa_13, .int (nI ma_11), .int (nI en), .long mv_5, .int mf_6, .int ml])), (aMT, .inl (kMT, 65536, .inl B))] := hD
      rcases hw_14 with ⟨rfl, hw_14a, hw_14b, e1, e2⟩ | ⟨rfl, hw_14b, hw_14k, hw_14a, e2⟩
      ·
        have e1 := e1.symm; subst e1
        have e2 := e2.symm; subst e2
        refine lv_if_eq (tgt := 63) hx hb d_Md_mesh_36 (by decide) (fun c_15 => ?_) (fun c_15 => ?_)
        ·
          exact absurd c_15 (by decide)
        ·
          refine lv_aload_n hx hb d_Md_mesh_39 rfl (lv_at hl 1 rfl) ?_
          refine lv_ldc2 (v := zWv 21) hx hb hown (hz _ tw_654) d_Md_mesh_40 ?_
          refine lv_iload_n hx hb d_Md_mesh_43 rfl (lv_at hl 0 rfl) ?_
          refine lv_bipush (v := 16) hx hb d_Md_mesh_44 (by decide) ?_
          refine lv_iadd hx hb d_Md_mesh_46 ?_
          refine zt_top (nI_add (24776 + (1440 * kk)) 16) ?_
          refine lv_iconst (v := 3) hx hb d_Md_mesh_47 (by decide) ?_
          refine lv_sipush (v := 384) hx hb d_Md_mesh_48 (by decide) ?_
          refine lv_iconst (v := 3) hx hb d_Md_mesh_51 (by decide) ?_
          refine lv_ldc (v := -1048576) hx hb hown (hz _ tw_655) d_Md_mesh_52 ?_
          refine lv_ldc (v := 1048576) hx hb hown (hz _ tw_609) d_Md_mesh_54 ?_
          refine lv_iconst (v := 0) hx hb d_Md_mesh_56 (by decide) ?_
          have hPc := hP.sub (ws' := [(aM, .inr (4, [.int th, .ref aMT, .int (nI mu), .ref aNw, .ref aNx, .int mw, .int mwa, .int (nI ma_11), .int (nI en), .long mv_5, .int mf_6, .int ml])), (aMT, .inl (kMT, 65536, .inl B)), (aNx, .inl (kNx, 52650, .inl (upd nx (24776 + (1440 * kk)) hw_8v)))]) [1, 2, 0] rfl
          have hDc := hD.sub (ws' := [(aM, .inr (4, [.int th, .ref aMT, .int (nI mu), .ref aNw, .ref aNx, .int mw, .int mwa, .int (nI ma_11), .int (nI en), .long mv_5, .int mf_6, .int ml])), (aMT, .inl (kMT, 65536, .inl B)), (aNx, .inl (kNx, 52650, .inl (upd nx (24776 + (1440 * kk)) hw_8v)))]) [1, 2, 0] (by decide) rfl
          have hKc := hK.sub (tys' := [(kMT, .byte), (kNx, .int)]) [0, 1] rfl
          have hFc := va_free (wc := [(aM, .inr (4, [.int th, .ref aMT, .int (nI mu), .ref aNw, .ref aNx, .int mw, .int mwa, .int (nI ma_11), .int (nI en), .long mv_5, .int mf_6, .int ml])), (aMT, .inl (kMT, 65536, .inl B)), (aNx, .inl (kNx, 52650, .inl (upd nx (24776 + (1440 * kk)) hw_8v)))]) hD hS hA [1, 2, 0] rfl
          refine va_calli (va_runV (As := [.long (zWv 21), .int (nI ((24776 + (1440 * kk)) + 16)), .int (nI 3), .int (nI 384), .int (nI 3), .int (-1048576), .int 1048576, .int 0]) (rest := []) ⟨hx, hb, hml, hown, hts⟩ (c_Md_list l G dC dI H.size aM th aMT mu aNw aNx mw mwa ma_11 en mv_5 mf_6 ml kMT B kNx (upd nx (24776 + (1440 * kk)) hw_8v) 21 ((24776 + (1440 * kk)) + 16) 3 384 3 (-1048576) 1048576 0 (by omega) (by omega) (by decide) (by decide) (zSb_len _) (by omega) (by omega) (by omega) (Or.inr rfl) (Or.inl rfl) (by decide) (by decide) (by decide) (by decide)) (cwV 8 hts (gV tw_592 tw_594 ts_30 tw_5 tw_595 rfl) rfl rfl rfl (by decide +kernel) ⟨Nat.le_of_ble_eq_true rfl, Nat.le_of_ble_eq_true rfl⟩) (PW_preV hPc hKc hDc hE hS hFc (ci := 4) (q0 := 0) rfl rfl) rfl rfl hl.1 rfl (lv_room (Nat.le_of_ble_eq_true rfl)) d_Md_mesh_57 ⟨Nat.le_of_ble_eq_true rfl, Nat.le_of_ble_eq_true rfl⟩) hS (fun q _ h => hFc q h) hFc (fun r_16 uu t H1 locs ht hvm hw_24 hB hz1 hk1 hS => ?_)
          obtain ⟨ma_17, mw_18, mwa_19, mv_20, mf_21, nx_22, ml_23⟩ := uu
          obtain ⟨hP1, hD1, hsz1⟩ := hB
          rw [ht] at hP1 hsz1
          obtain ⟨hP, hD⟩ := va_join (wr := []) (w1 := [(aM, .inr (4, [.int th, .ref aMT, .int (nI mu), .ref aNw, .ref aNx, .int mw_18, .int mwa_19, .int (nI ma_17), .int (nI en), .long mv_20, .int mf_21, .int ml_23])), (aMT, .inl (kMT, 65536, .inl B)), (aNx, .inl (kNx, 52650, .inl nx_22))]) hP hD [1, 2, 0] [] rfl rfl (by decide) (by decide) hk1 hFc hP1 hD1
          generalize H1 = H at hP hS ⊢
          have hP : va_P (dC, dI) vwCl [(aM, .inr (4, [.int th, .ref aMT, .int (nI mu), .ref aNw, .ref aNx, .int mw_18, .int mwa_19, .int (nI ma_17), .int (nI en), .long mv_20, .int mf_21, .int ml_23])), (aMT, .inl (kMT, 65536, .inl B)), (aNx, .inl (kNx, 52650, .inl nx_22))] H := hP
          have hD : va_D A [(aM, .inr (4, [.int th, .ref aMT, .int (nI mu), .ref aNw, .ref aNx, .int mw_18, .int mwa_19, .int (nI ma_17), .int (nI en), .long mv_20, .int mf_21, .int ml_23])), (aMT, .inl (kMT, 65536, .inl B)), (aNx, .inl (kNx, 52650, .inl nx_22))] := hD
          simp only [zf01, zf11, zg13, zg33, decide_true, decide_false] at hw_24
          rcases hw_24 with ⟨rfl, hw_24b, e1, e2, hw_24n, hw_24a, e3⟩ | ⟨rfl, hw_24b, hw_24k, hw_24a, e2⟩
          ·
            have e1 := e1.symm; subst e1
            have e2 := e2.symm; subst e2
            have e3 := e3.symm; subst e3
            have hw_24i := zLK_in hw_24a
            refine lv_if_ne (tgt := 65) hx hb d_Md_mesh_60 (by decide) (fun c_25 => ?_) (fun c_25 => ?_)
            ·
              refine lv_aload_n hx hb d_Md_mesh_65 rfl (lv_at hl 1 rfl) ?_
              refine va_get (D := (dC, dI)) (ci := 4) (v := .int (nI hw_24n)) (C := R_Md) (T := F_Md) (N := 12) hx hb hz i_Md hown hK hP 0 rfl rfl 11 (by decide) (hz _ tw_487) (fun _ h9 => h9) rfl d_Md_mesh_66 ?_
              refine lv_iconst (v := 3) hx hb d_Md_mesh_69 (by decide) ?_
              refine lv_idiv hx hb d_Md_mesh_70 (by decide) ?_
              refine zt_top (pk_div (a := hw_24n) (d := 3) (by omega) (by decide) (by decide)) ?_
              refine lv_istore_n (lv' := [(3, .int (nI (hw_24n / 3))), (2, .int (nI (24776 + (1440 * kk)))), (0, .ref aM), (1, .int (nI kk))]) hx hb d_Md_mesh_71 rfl hl (by decide) rfl (fun ls hl => ?_)
              refine lv_aload_n hx hb d_Md_mesh_72 rfl (lv_at hl 2 rfl) ?_
              refine va_get (D := (dC, dI)) (ci := 4) (v := .ref aNx) (C := R_Md) (T := F_Md) (N := 12) hx hb hz i_Md hown hK hP 0 rfl rfl 4 (by decide) (hz _ tw_480) (fun _ h9 => h9) rfl d_Md_mesh_73 ?_
              refine lv_iload_n hx hb d_Md_mesh_76 rfl (lv_at hl 1 rfl) ?_
              refine lv_iconst (v := 1) hx hb d_Md_mesh_77 (by decide) ?_
              refine lv_iadd hx hb d_Md_mesh_78 ?_
              refine zt_top (nI_add (24776 + (1440 * kk)) 1) ?_
              refine lv_iload_n hx hb d_Md_mesh_79 rfl (lv_at hl 0 rfl) ?_
              refine va_iast (D := (dC, dI)) (i := nI ((24776 + (1440 * kk)) + 1)) (x := nI (hw_24n / 3)) hx hb hK hP hD hS 2 1 rfl rfl (vp_in_nI (by omega) (by decide)) d_Md_mesh_80 (fun H locs hP hD hS => ?_)
              rw [nI_clamp (by omega)] at hP hD
              have hP : va_P (dC, dI) vwCl [(aM, .inr (4, [.int th, .ref aMT, .int (nI mu), .ref aNw, .ref aNx, .int mw, .int mwa, .int (nI ma_17), .int (nI en), .long mv_20, .int mf_21, .int (nI hw_24n)])), (aMT, .inl (kMT, 65536, .inl B)), (aNx, .inl (kNx, 52650, .inl (upd nx_22 ((24776 + (1440 * kk)) + 1) (nI (hw_24n / 3)))))] H := hP
              have hD : va_D A [(aM, .inr (4, [.int th, .ref aMT, .int (nI mu), .ref aNw, .ref aNx, .int mw, .int mwa, .int (nI ma_17), .int (nI en), .long mv_20, .int mf_21, .int (nI hw_24n)])), (aMT, .inl (kMT, 65536, .inl B)), (aNx, .inl (kNx, 52650, .inl (upd nx_22 ((24776 + (1440 * kk)) + 1) (nI (hw_24n / 3)))))] := hD
              refine lv_aload_n hx hb d_Md_mesh_81 rfl (lv_at hl 2 rfl) ?_
              refine lv_bipush (v := 44) hx hb d_Md_mesh_82 (by decide) ?_
              have hPc := hP.sub (ws' := [(aM, .inr (4, [.int th, .ref aMT, .int (nI mu), .ref aNw, .ref aNx, .int mw, .int mwa, .int (nI ma_17), .int (nI en), .long mv_20, .int mf_21, .int (nI hw_24n)])), (aMT, .inl (kMT, 65536, .inl B))]) [0, 1] rfl
              have hDc := hD.sub (ws' := [(aM, .inr (4, [.int th, .ref aMT, .int (nI mu), .ref aNw, .ref aNx, .int mw, .int mwa, .int (nI ma_17), .int (nI en), .long mv_20, .int mf_21, .int (nI hw_24n)])), (aMT, .inl (kMT, 65536, .inl B))]) [0, 1] (by decide) rfl
              have hKc := hK.sub (tys' := [(kMT, .byte)]) [0] rfl
              have hFc := va_free (wc := [(aM, .inr (4, [.int th, .ref aMT, .int (nI mu), .ref aNw, .ref aNx, .int mw, .int mwa, .int (nI ma_17), .int (nI en), .long mv_20, .int mf_21, .int (nI hw_24n)])), (aMT, .inl (kMT, 65536, .inl B))]) hD hS hA [0, 1] rfl
              refine va_calli (va_runV (As := [.int 44]) (rest := []) ⟨hx, hb, hml, hown, hts⟩ (c_Md_sign l G dC dI H.size aM th aMT mu aNw aNx mw mwa ma_17 en mv_20 mf_21 (nI hw_24n) kMT B 44 (by omega) (by omega)) (cwV 1 hts (gV tw_537 tw_539 ts_20 tw_5 tw_540 rfl) rfl rfl rfl (by decide +kernel) ⟨Nat.le_of_ble_eq_true rfl, Nat.le_of_ble_eq_true rfl⟩) (PW_preV hPc hKc hDc hE hS hFc (ci := 4) (q0 := 0) rfl rfl) rfl rfl hl.1 rfl (lv_room (Nat.le_of_ble_eq_true rfl)) d_Md_mesh_84 ⟨Nat.le_of_ble_eq_true rfl, Nat.le_of_ble_eq_true rfl⟩) hS (fun q _ h => hFc q h) hFc (fun r_26 uu t H1 locs ht hvm hw_30 hB hz1 hk1 hS => ?_)
              obtain ⟨ma_27, mw_28, mwa_29⟩ := uu
              obtain ⟨hP1, hD1, hsz1⟩ := hB
              rw [ht] at hP1 hsz1
              obtain ⟨hP, hD⟩ := va_join (wr := [(aNx, .inl (kNx, 52650, .inl (upd nx_22 ((24776 + (1440 * kk)) + 1) (nI (hw_24n / 3)))))]) (w1 := [(aM, .inr (4, [.int th, .ref aMT, .int (nI mu), .ref aNw, .ref aNx, .int mw_28, .int mwa_29, .int (nI ma_27), .int (nI en), .long mv_20, .int mf_21, .int (nI hw_24n)])), (aMT, .inl (kMT, 65536, .inl B))]) hP hD [0, 1] [2] rfl rfl (by decide) (by decide) hk1 hFc hP1 hD1
              generalize H1 = H at hP hS ⊢
              have hP : va_P (dC, dI) vwCl [(aNx, .inl (kNx, 52650, .inl (upd nx_22 ((24776 + (1440 * kk)) + 1) (nI (hw_24n / 3))))), (aM, .inr (4, [.int th, .ref aMT, .int (nI mu), .ref aNw, .ref aNx, .int mw_28, .int mwa_29, .int (nI ma_27), .int (nI en), .long mv_20, .int mf_21, .int (nI hw_24n)])), (aMT, .inl (kMT, 65536, .inl B))] H := hP
              have hD : va_D A [(aNx, .inl (kNx, 52650, .inl (upd nx_22 ((24776 + (1440 * kk)) + 1) (nI (hw_24n / 3))))), (aM, .inr (4, [.int th, .ref aMT, .int (nI mu), .ref aNw, .ref aNx, .int mw_28, .int mwa_29, .int (nI ma_27), .int (nI en), .long mv_20, .int mf_21, .int (nI hw_24n)])), (aMT, .inl (kMT, 65536, .inl B))] := hD
              rcases hw_30 with ⟨rfl, hw_30a, hw_30b, e1, e2⟩ | ⟨rfl, hw_30b, hw_30k, hw_30a, e2⟩
              ·
                have e1 := e1.symm; subst e1
                have e2 := e2.symm; subst e2
                refine lv_if_eq (tgt := 117) hx hb d_Md_mesh_87 (by decide) (fun c_31 => ?_) (fun c_31 => ?_)
                ·
                  exact absurd c_31 (by decide)
                ·
                  refine lv_aload_n hx hb d_Md_mesh_90 rfl (lv_at hl 2 rfl) ?_
                  refine lv_ldc2 (v := zWv 22) hx hb hown (hz _ tw_656) d_Md_mesh_91 ?_
                  refine lv_iload_n hx hb d_Md_mesh_94 rfl (lv_at hl 1 rfl) ?_
                  refine lv_sipush (v := 400) hx hb d_Md_mesh_95 (by decide) ?_
                  refine lv_iadd hx hb d_Md_mesh_98 ?_
                  refine zt_top (nI_add (24776 + (1440 * kk)) 400) ?_
                  refine lv_iconst (v := 3) hx hb d_Md_mesh_99 (by decide) ?_
                  refine lv_iload_n hx hb d_Md_mesh_100 rfl (lv_at hl 0 rfl) ?_
                  refine lv_imul hx hb d_Md_mesh_101 ?_
                  refine zt_top (pk_mul 3 (hw_24n / 3)) ?_
                  refine lv_iconst (v := 3) hx hb d_Md_mesh_102 (by decide) ?_
                  refine lv_iload_n hx hb d_Md_mesh_103 rfl (lv_at hl 0 rfl) ?_
                  refine lv_imul hx hb d_Md_mesh_104 ?_
                  refine zt_top (pk_mul 3 (hw_24n / 3)) ?_
                  refine lv_iconst (v := 1) hx hb d_Md_mesh_105 (by decide) ?_
                  refine lv_ldc (v := -65536) hx hb hown (hz _ tw_474) d_Md_mesh_106 ?_
                  refine lv_ldc (v := 65536) hx hb hown (hz _ tw_466) d_Md_mesh_108 ?_
                  refine lv_iconst (v := 0) hx hb d_Md_mesh_110 (by decide) ?_
                  have hPc := hP.sub (ws' := [(aM, .inr (4, [.int th, .ref aMT, .int (nI mu), .ref aNw, .ref aNx, .int mw, .int mwa, .int (nI ma_27), .int (nI en), .long mv_20, .int mf_21, .int (nI hw_24n)])), (aMT, .inl (kMT, 65536, .inl B)), (aNx, .inl (kNx, 52650, .inl (upd nx_22 ((24776 + (1440 * kk)) + 1) (nI (hw_24n / 3)))))]) [1, 2, 0] rfl
                  have hDc := hD.sub (ws' := [(aM, .inr (4, [.int th, .ref aMT, .int (nI mu), .ref aNw, .ref aNx, .int mw, .int mwa, .int (nI ma_27), .int (nI en), .long mv_20, .int mf_21, .int (nI hw_24n)])), (aMT, .inl (kMT, 65536, .inl B)), (aNx, .inl (kNx, 52650, .inl (upd nx_22 ((24776 + (1440 * kk)) + 1) (nI (hw_24n / 3)))))]) [1, 2, 0] (by decide) rfl
                  have hKc := hK.sub (tys' := [(kMT, .byte), (kNx, .int)]) [0, 1] rfl
                  have hFc := va_free (wc := [(aM, .inr (4, [.int th, .ref aMT, .int (nI mu), .ref aNw, .ref aNx, .int mw, .int mwa, .int (nI ma_27), .int (nI en), .long mv_20, .int mf_21, .int (nI hw_24n)])), (aMT, .inl (kMT, 65536, .inl B)), (aNx, .inl (kNx, 52650, .inl (upd nx_22 ((24776 + (1440 * kk)) + 1) (nI (hw_24n / 3)))))]) hD hS hA [1, 2, 0] rfl
                  refine va_calli (va_runV (As := [.long (zWv 22), .int (nI ((24776 + (1440 * kk)) + 400)), .int (nI (3 * (hw_24n / 3))), .int (nI (3 * (hw_24n / 3))), .int (nI 1), .int (-65536), .int 65536, .int 0]) (rest := []) ⟨hx, hb, hml, hown, hts⟩ (c_Md_list l G dC dI H.size aM th aMT mu aNw aNx mw mwa ma_27 en mv_20 mf_21 (nI hw_24n) kMT B kNx (upd nx_22 ((24776 + (1440 * kk)) + 1) (nI (hw_24n / 3))) 22 ((24776 + (1440 * kk)) + 400) (3 * (hw_24n / 3)) (3 * (hw_24n / 3)) 1 (-65536) 65536 0 (by omega) (by omega) (by decide) (by decide) (zSb_len _) (by omega) (by omega) (by omega) (Or.inl rfl) (Or.inl rfl) (by decide) (by decide) (by decide) (by decide)) (cwV 8 hts (gV tw_592 tw_594 ts_30 tw_5 tw_595 rfl) rfl rfl rfl (by decide +kernel) ⟨Nat.le_of_ble_eq_true rfl, Nat.le_of_ble_eq_true rfl⟩) (PW_preV hPc hKc hDc hE hS hFc (ci := 4) (q0 := 0) rfl rfl) rfl rfl hl.1 rfl (lv_room (Nat.le_of_ble_eq_true rfl)) d_Md_mesh_111 ⟨Nat.le_of_ble_eq_true rfl, Nat.le_of_ble_eq_true rfl⟩) hS (fun q _ h => hFc q h) hFc (fun r_32 uu t H1 locs ht hvm hw_40 hB hz1 hk1 hS => ?_)
                  obtain ⟨ma_33, mw_34, mwa_35, mv_36, mf_37, nx_38, ml_39⟩ := uu
                  obtain ⟨hP1, hD1, hsz1⟩ := hB
                  rw [ht] at hP1 hsz1
                  obtain ⟨hP, hD⟩ := va_join (wr := []) (w1 := [(aM, .inr (4, [.int th, .ref aMT, .int (nI mu), .ref aNw, .ref aNx, .int mw_34, .int mwa_35, .int (nI ma_33), .int (nI en), .long mv_36, .int mf_37, .int ml_39])), (aMT, .inl (kMT, 65536, .inl B)), (aNx, .inl (kNx, 52650, .inl nx_38))]) hP hD [1, 2, 0] [] rfl rfl (by decide) (by decide) hk1 hFc hP1 hD1
                  generalize H1 = H at hP hS ⊢
                  have hP : va_P (dC, dI) vwCl [(aM, .inr (4, [.int th, .ref aMT, .int (nI mu), .ref aNw, .ref aNx, .int mw_34, .int mwa_35, .int (nI ma_33), .int (nI en), .long mv_36, .int mf_37, .int ml_39])), (aMT, .inl (kMT, 65536, .inl B)), (aNx, .inl (kNx, 52650, .inl nx_38))] H := hP
                  have hD : va_D A [(aM, .inr (4, [.int th, .ref aMT, .int (nI mu), .ref aNw, .ref aNx, .int mw_34, .int mwa_35, .int (nI ma_33), .int (nI en), .long mv_36, .int mf_37, .int ml_39])), (aMT, .inl (kMT, 65536, .inl B)), (aNx, .inl (kNx, 52650, .inl nx_38))] := hD
                  simp only [zf01, zf11, zg13, zg33, decide_true, decide_false] at hw_40
                  rcases hw_40 with ⟨rfl, hw_40b, e1, e2, hw_40n, hw_40a, e3⟩ | ⟨rfl, hw_40b, hw_40k, hw_40a, e2⟩
                  ·
                    have e1 := e1.symm; subst e1
                    have e2 := e2.symm; subst e2
                    have e3 := e3.symm; subst e3
                    have hw_40i := zLK_in hw_40a
                    refine lv_if_ne (tgt := 119) hx hb d_Md_mesh_114 (by decide) (fun c_41 => ?_) (fun c_41 => ?_)
                    ·
                      refine lv_aload_n hx hb d_Md_mesh_119 rfl (lv_at hl 2 rfl) ?_
                      refine lv_bipush (v := 44) hx hb d_Md_mesh_120 (by decide) ?_
                      have hPc := hP.sub (ws' := [(aM, .inr (4, [.int th, .ref aMT, .int (nI mu), .ref aNw, .ref aNx, .int mw, .int mwa, .int (nI ma_33), .int (nI en), .long mv_36, .int mf_37, .int (nI hw_40n)])), (aMT, .inl (kMT, 65536, .inl B))]) [0, 1] rfl
                      have hDc := hD.sub (ws' := [(aM, .inr (4, [.int th, .ref aMT, .int (nI mu), .ref aNw, .ref aNx, .int mw, .int mwa, .int (nI ma_33), .int (nI en), .long mv_36, .int mf_37, .int (nI hw_40n)])), (aMT, .inl (kMT, 65536, .inl B))]) [0, 1] (by decide) rfl
                      have hKc := hK.sub (tys' := [(kMT, .byte)]) [0] rfl
                      have hFc := va_free (wc := [(aM, .inr (4, [.int th, .ref aMT, .int (nI mu), .ref aNw, .ref aNx, .int mw, .int mwa, .int (nI ma_33), .int (nI en), .long mv_36, .int mf_37, .int (nI hw_40n)])), (aMT, .inl (kMT, 65536, .inl B))]) hD hS hA [0, 1] rfl
                      refine va_calli (va_runV (As := [.int 44]) (rest := []) ⟨hx, hb, hml, hown, hts⟩ (c_Md_sign l G dC dI H.size aM th aMT mu aNw aNx mw mwa ma_33 en mv_36 mf_37 (nI hw_40n) kMT B 44 (by omega) (by omega)) (cwV 1 hts (gV tw_537 tw_539 ts_20 tw_5 tw_540 rfl) rfl rfl rfl (by decide +kernel) ⟨Nat.le_of_ble_eq_true rfl, Nat.le_of_ble_eq_true rfl⟩) (PW_preV hPc hKc hDc hE hS hFc (ci := 4) (q0 := 0) rfl rfl) rfl rfl hl.1 rfl (lv_room (Nat.le_of_ble_eq_true rfl)) d_Md_mesh_122 ⟨Nat.le_of_ble_eq_true rfl, Nat.le_of_ble_eq_true rfl⟩) hS (fun q _ h => hFc q h) hFc (fun r_42 uu t H1 locs ht hvm hw_46 hB hz1 hk1 hS => ?_)
                      obtain ⟨ma_43, mw_44, mwa_45⟩ := uu
                      obtain ⟨hP1, hD1, hsz1⟩ := hB
                      rw [ht] at hP1 hsz1
                      obtain ⟨hP, hD⟩ := va_join (wr := [(aNx, .inl (kNx, 52650, .inl nx_38))]) (w1 := [(aM, .inr (4, [.int th, .ref aMT, .int (nI mu), .ref aNw, .ref aNx, .int mw_44, .int mwa_45, .int (nI ma_43), .int (nI en), .long mv_36, .int mf_37, .int (nI hw_40n)])), (aMT, .inl (kMT, 65536, .inl B))]) hP hD [0, 1] [2] rfl rfl (by decide) (by decide) hk1 hFc hP1 hD1
                      generalize H1 = H at hP hS ⊢
                      have hP : va_P (dC, dI) vwCl [(aNx, .inl (kNx, 52650, .inl nx_38)), (aM, .inr (4, [.int th, .ref aMT, .int (nI mu), .ref aNw, .ref aNx, .int mw_44, .int mwa_45, .int (nI ma_43), .int (nI en), .long mv_36, .int mf_37, .int (nI hw_40n)])), (aMT, .inl (kMT, 65536, .inl B))] H := hP
                      have hD : va_D A [(aNx, .inl (kNx, 52650, .inl nx_38)), (aM, .inr (4, [.int th, .ref aMT, .int (nI mu), .ref aNw, .ref aNx, .int mw_44, .int mwa_45, .int (nI ma_43), .int (nI en), .long mv_36, .int mf_37, .int (nI hw_40n)])), (aMT, .inl (kMT, 65536, .inl B))] := hD
                      rcases hw_46 with ⟨rfl, hw_46a, hw_46b, e1, e2⟩ | ⟨rfl, hw_46b, hw_46k, hw_46a, e2⟩
                      ·
                        have e1 := e1.symm; subst e1
                        have e2 := e2.symm; subst e2
                        refine lv_if_eq (tgt := 155) hx hb d_Md_mesh_125 (by decide) (fun c_47 => ?_) (fun c_47 => ?_)
                        ·
                          exact absurd c_47 (by decide)
                        ·
                          refine lv_aload_n hx hb d_Md_mesh_128 rfl (lv_at hl 2 rfl) ?_
                          refine lv_ldc2 (v := zWv 23) hx hb hown (hz _ tw_657) d_Md_mesh_129 ?_
                          refine lv_iload_n hx hb d_Md_mesh_132 rfl (lv_at hl 1 rfl) ?_
                          refine lv_sipush (v := 784) hx hb d_Md_mesh_133 (by decide) ?_
                          refine lv_iadd hx hb d_Md_mesh_136 ?_
                          refine zt_top (nI_add (24776 + (1440 * kk)) 784) ?_
                          refine lv_iconst (v := 2) hx hb d_Md_mesh_137 (by decide) ?_
                          refine lv_iload_n hx hb d_Md_mesh_138 rfl (lv_at hl 0 rfl) ?_
                          refine lv_imul hx hb d_Md_mesh_139 ?_
                          refine zt_top (pk_mul 2 (hw_24n / 3)) ?_
                          refine lv_iconst (v := 2) hx hb d_Md_mesh_140 (by decide) ?_
                          refine lv_iload_n hx hb d_Md_mesh_141 rfl (lv_at hl 0 rfl) ?_
                          refine lv_imul hx hb d_Md_mesh_142 ?_
                          refine zt_top (pk_mul 2 (hw_24n / 3)) ?_
                          refine lv_iconst (v := 1) hx hb d_Md_mesh_143 (by decide) ?_
                          refine lv_ldc (v := -131072) hx hb hown (hz _ tw_658) d_Md_mesh_144 ?_
                          refine lv_ldc (v := 131072) hx hb hown (hz _ tw_659) d_Md_mesh_146 ?_
                          refine lv_iconst (v := 0) hx hb d_Md_mesh_148 (by decide) ?_
                          have hPc := hP.sub (ws' := [(aM, .inr (4, [.int th, .ref aMT, .int (nI mu), .ref aNw, .ref aNx, .int mw, .int mwa, .int (nI ma_43), .int (nI en), .long mv_36, .int mf_37, .int (nI hw_40n)])), (aMT, .inl (kMT, 65536, .inl B)), (aNx, .inl (kNx, 52650, .inl nx_38))]) [1, 2, 0] rfl
                          have hDc := hD.sub (ws' := [(aM, .inr (4, [.int th, .ref aMT, .int (nI mu), .ref aNw, .ref aNx, .int mw, .int mwa, .int (nI ma_43), .int (nI en), .long mv_36, .int mf_37, .int (nI hw_40n)])), (aMT, .inl (kMT, 65536, .inl B)), (aNx, .inl (kNx, 52650, .inl nx_38))]) [1, 2, 0] (by decide) rfl
                          have hKc := hK.sub (tys' := [(kMT, .byte), (kNx, .int)]) [0, 1] rfl
                          have hFc := va_free (wc := [(aM, .inr (4, [.int th, .ref aMT, .int (nI mu), .ref aNw, .ref aNx, .int mw, .int mwa, .int (nI ma_43), .int (nI en), .long mv_36, .int mf_37, .int (nI hw_40n)])), (aMT, .inl (kMT, 65536, .inl B)), (aNx, .inl (kNx, 52650, .inl nx_38))]) hD hS hA [1, 2, 0] rfl
                          refine va_calli (va_runV (As := [.long (zWv 23), .int (nI ((24776 + (1440 * kk)) + 784)), .int (nI (2 * (hw_24n / 3))), .int (nI (2 * (hw_24n / 3))), .int (nI 1), .int (-131072), .int 131072, .int 0]) (rest := []) ⟨hx, hb, hml, hown, hts⟩ (c_Md_list l G dC dI H.size aM th aMT mu aNw aNx mw mwa ma_43 en mv_36 mf_37 (nI hw_40n) kMT B kNx nx_38 23 ((24776 + (1440 * kk)) + 784) (2 * (hw_24n / 3)) (2 * (hw_24n / 3)) 1 (-131072) 131072 0 (by omega) (by omega) (by decide) (by decide) (zSb_len _) (by omega) (by omega) (by omega) (Or.inl rfl) (Or.inl rfl) (by decide) (by decide) (by decide) (by decide)) (cwV 8 hts (gV tw_592 tw_594 ts_30 tw_5 tw_595 rfl) rfl rfl rfl (by decide +kernel) ⟨Nat.le_of_ble_eq_true rfl, Nat.le_of_ble_eq_true rfl⟩) (PW_preV hPc hKc hDc hE hS hFc (ci := 4) (q0 := 0) rfl rfl) rfl rfl hl.1 rfl (lv_room (Nat.le_of_ble_eq_true rfl)) d_Md_mesh_149 ⟨Nat.le_of_ble_eq_true rfl, Nat.le_of_ble_eq_true rfl⟩) hS (fun q _ h => hFc q h) hFc (fun r_48 uu t H1 locs ht hvm hw_56 hB hz1 hk1 hS => ?_)
                          obtain ⟨ma_49, mw_50, mwa_51, mv_52, mf_53, nx_54, ml_55⟩ := uu
                          obtain ⟨hP1, hD1, hsz1⟩ := hB
                          rw [ht] at hP1 hsz1
                          obtain ⟨hP, hD⟩ := va_join (wr := []) (w1 := [(aM, .inr (4, [.int th, .ref aMT, .int (nI mu), .ref aNw, .ref aNx, .int mw_50, .int mwa_51, .int (nI ma_49), .int (nI en), .long mv_52, .int mf_53, .int ml_55])), (aMT, .inl (kMT, 65536, .inl B)), (aNx, .inl (kNx, 52650, .inl nx_54))]) hP hD [1, 2, 0] [] rfl rfl (by decide) (by decide) hk1 hFc hP1 hD1
                          generalize H1 = H at hP hS ⊢
                          have hP : va_P (dC, dI) vwCl [(aM, .inr (4, [.int th, .ref aMT, .int (nI mu), .ref aNw, .ref aNx, .int mw_50, .int mwa_51, .int (nI ma_49), .int (nI en), .long mv_52, .int mf_53, .int ml_55])), (aMT, .inl (kMT, 65536, .inl B)), (aNx, .inl (kNx, 52650, .inl nx_54))] H := hP
                          have hD : va_D A [(aM, .inr (4, [.int th, .ref aMT, .int (nI mu), .ref aNw, .ref aNx, .int mw_50, .int mwa_51, .int (nI ma_49), .int (nI en), .long mv_52, .int mf_53, .int ml_55])), (aMT, .inl (kMT, 65536, .inl B)), (aNx, .inl (kNx, 52650, .inl nx_54))] := hD
                          simp only [zf01, zf11, zg13, zg33, decide_true, decide_false] at hw_56
                          rcases hw_56 with ⟨rfl, hw_56b, e1, e2, hw_56n, hw_56a, e3⟩ | ⟨rfl, hw_56b, hw_56k, hw_56a, e2⟩
                          ·
                            have e1 := e1.symm; subst e1
                            have e2 := e2.symm; subst e2
                            have e3 := e3.symm; subst e3
                            have hw_56i := zLK_in hw_56a
                            refine lv_if_ne (tgt := 157) hx hb d_Md_mesh_152 (by decide) (fun c_57 => ?_) (fun c_57 => ?_)
                            ·
                              refine lv_aload_n hx hb d_Md_mesh_157 rfl (lv_at hl 2 rfl) ?_
                              refine lv_bipush (v := 44) hx hb d_Md_mesh_158 (by decide) ?_
                              have hPc := hP.sub (ws' := [(aM, .inr (4, [.int th, .ref aMT, .int (nI mu), .ref aNw, .ref aNx, .int mw, .int mwa, .int (nI ma_49), .int (nI en), .long mv_52, .int mf_53, .int (nI hw_56n)])), (aMT, .inl (kMT, 65536, .inl B))]) [0, 1] rfl
                              have hDc := hD.sub (ws' := [(aM, .inr (4, [.int th, .ref aMT, .int (nI mu), .ref aNw, .ref aNx, .int mw, .int mwa, .int (nI ma_49), .int (nI en), .long mv_52, .int mf_53, .int (nI hw_56n)])), (aMT, .inl (kMT, 65536, .inl B))]) [0, 1] (by decide) rfl
                              have hKc := hK.sub (tys' := [(kMT, .byte)]) [0] rfl
                              have hFc := va_free (wc := [(aM, .inr (4, [.int th, .ref aMT, .int (nI mu), .ref aNw, .ref aNx, .int mw, .int mwa, .int (nI ma_49), .int (nI en), .long mv_52, .int mf_53, .int (nI hw_56n)])), (aMT, .inl (kMT, 65536, .inl B))]) hD hS hA [0, 1] rfl
                              refine va_calli (va_runV (As := [.int 44]) (rest := []) ⟨hx, hb, hml, hown, hts⟩ (c_Md_sign l G dC dI H.size aM th aMT mu aNw aNx mw mwa ma_49 en mv_52 mf_53 (nI hw_56n) kMT B 44 (by omega) (by omega)) (cwV 1 hts (gV tw_537 tw_539 ts_20 tw_5 tw_540 rfl) rfl rfl rfl (by decide +kernel) ⟨Nat.le_of_ble_eq_true rfl, Nat.le_of_ble_eq_true rfl⟩) (PW_preV hPc hKc hDc hE hS hFc (ci := 4) (q0 := 0) rfl rfl) rfl rfl hl.1 rfl (lv_room (Nat.le_of_ble_eq_true rfl)) d_Md_mesh_160 ⟨Nat.le_of_ble_eq_true rfl, Nat.le_of_ble_eq_true rfl⟩) hS (fun q _ h => hFc q h) hFc (fun r_58 uu t H1 locs ht hvm hw_62 hB hz1 hk1 hS => ?_)
                              obtain ⟨ma_59, mw_60, mwa_61⟩ := uu
                              obtain ⟨hP1, hD1, hsz1⟩ := hB
                              rw [ht] at hP1 hsz1
                              obtain ⟨hP, hD⟩ := va_join (wr := [(aNx, .inl (kNx, 52650, .inl nx_54))]) (w1 := [(aM, .inr (4, [.int th, .ref aMT, .int (nI mu), .ref aNw, .ref aNx, .int mw_60, .int mwa_61, .int (nI ma_59), .int (nI en), .long mv_52, .int mf_53, .int (nI hw_56n)])), (aMT, .inl (kMT, 65536, .inl B))]) hP hD [0, 1] [2] rfl rfl (by decide) (by decide) hk1 hFc hP1 hD1
                              generalize H1 = H at hP hS ⊢
                              have hP : va_P (dC, dI) vwCl [(aNx, .inl (kNx, 52650, .inl nx_54)), (aM, .inr (4, [.int th, .ref aMT, .int (nI mu), .ref aNw, .ref aNx, .int mw_60, .int mwa_61, .int (nI ma_59), .int (nI en), .long mv_52, .int mf_53, .int (nI hw_56n)])), (aMT, .inl (kMT, 65536, .inl B))] H := hP
                              have hD : va_D A [(aNx, .inl (kNx, 52650, .inl nx_54)), (aM, .inr (4, [.int th, .ref aMT, .int (nI mu), .ref aNw, .ref aNx, .int mw_60, .int mwa_61, .int (nI ma_59), .int (nI en), .long mv_52, .int mf_53, .int (nI hw_56n)])), (aMT, .inl (kMT, 65536, .inl B))] := hD
                              rcases hw_62 with ⟨rfl, hw_62a, hw_62b, e1, e2⟩ | ⟨rfl, hw_62b, hw_62k, hw_62a, e2⟩
                              ·
                                have e1 := e1.symm; subst e1
                                have e2 := e2.symm; subst e2
                                refine lv_if_eq (tgt := 191) hx hb d_Md_mesh_163 (by decide) (fun c_63 => ?_) (fun c_63 => ?_)
                                ·
                                  exact absurd c_63 (by decide)
                                ·
                                  refine lv_aload_n hx hb d_Md_mesh_166 rfl (lv_at hl 2 rfl) ?_
                                  refine lv_ldc2 (v := zWv 24) hx hb hown (hz _ tw_660) d_Md_mesh_167 ?_
                                  refine lv_iload_n hx hb d_Md_mesh_170 rfl (lv_at hl 1 rfl) ?_
                                  refine lv_sipush (v := 1040) hx hb d_Md_mesh_171 (by decide) ?_
                                  refine lv_iadd hx hb d_Md_mesh_174 ?_
                                  refine zt_top (nI_add (24776 + (1440 * kk)) 1040) ?_
                                  refine lv_iconst (v := 3) hx hb d_Md_mesh_175 (by decide) ?_
                                  refine lv_sipush (v := 384) hx hb d_Md_mesh_176 (by decide) ?_
                                  refine lv_iconst (v := 3) hx hb d_Md_mesh_179 (by decide) ?_
                                  refine lv_iconst (v := 0) hx hb d_Md_mesh_180 (by decide) ?_
                                  refine lv_iload_n hx hb d_Md_mesh_181 rfl (lv_at hl 0 rfl) ?_
                                  refine lv_iconst (v := 1) hx hb d_Md_mesh_182 (by decide) ?_
                                  refine lv_isub hx hb d_Md_mesh_183 ?_
                                  refine lv_iconst (v := 0) hx hb d_Md_mesh_184 (by decide) ?_
                                  have hPc := hP.sub (ws' := [(aM, .inr (4, [.int th, .ref aMT, .int (nI mu), .ref aNw, .ref aNx, .int mw, .int mwa, .int (nI ma_59), .int (nI en), .long mv_52, .int mf_53, .int (nI hw_56n)])), (aMT, .inl (kMT, 65536, .inl B)), (aNx, .inl (kNx, 52650, .inl nx_54))]) [1, 2, 0] rfl
                                  have hDc := hD.sub (ws' := [(aM, .inr (4, [.int th, .ref aMT, .int (nI mu), .ref aNw, .ref aNx, .int mw, .int mwa, .int (nI ma_59), .int (nI en), .long mv_52, .int mf_53, .int (nI hw_56n)])), (aMT, .inl (kMT, 65536, .inl B)), (aNx, .inl (kNx, 52650, .inl nx_54))]) [1, 2, 0] (by decide) rfl
                                  have hKc := hK.sub (tys' := [(kMT, .byte), (kNx, .int)]) [0, 1] rfl
                                  have hFc := va_free (wc := [(aM, .inr (4, [.int th, .ref aMT, .int (nI mu), .ref aNw, .ref aNx, .int mw, .int mwa, .int (nI ma_59), .int (nI en), .long mv_52, .int mf_53, .int (nI hw_56n)])), (aMT, .inl (kMT, 65536, .inl B)), (aNx, .inl (kNx, 52650, .inl nx_54))]) hD hS hA [1, 2, 0] rfl
                                  refine va_calli (va_runV (As := [.long (zWv 24), .int (nI ((24776 + (1440 * kk)) + 1040)), .int (nI 3), .int (nI 384), .int (nI 3), .int 0, .int ((nI (hw_24n / 3)) - 1), .int 0]) (rest := []) ⟨hx, hb, hml, hown, hts⟩ (c_Md_list l G dC dI H.size aM th aMT mu aNw aNx mw mwa ma_59 en mv_52 mf_53 (nI hw_56n) kMT B kNx nx_54 24 ((24776 + (1440 * kk)) + 1040) 3 384 3 0 ((nI (hw_24n / 3)) - 1) 0 (by omega) (by omega) (by decide) (by decide) (zSb_len _) (by omega) (by omega) (by omega) (Or.inr rfl) (Or.inl rfl) (by decide) (by decide) (by rw [show nI (hw_24n / 3) - 1 = nI (hw_24n / 3) - nI 1 from rfl, pk_sub_toInt (by omega) (by omega)]; omega) (by rw [show nI (hw_24n / 3) - 1 = nI (hw_24n / 3) - nI 1 from rfl, pk_sub_toInt (by omega) (by omega)]; omega)) (cwV 8 hts (gV tw_592 tw_594 ts_30 tw_5 tw_595 rfl) rfl rfl rfl (by decide +kernel) ⟨Nat.le_of_ble_eq_true rfl, Nat.le_of_ble_eq_true rfl⟩) (PW_preV hPc hKc hDc hE hS hFc (ci := 4) (q0 := 0) rfl rfl) rfl rfl hl.1 rfl (lv_room (Nat.le_of_ble_eq_true rfl)) d_Md_mesh_185 ⟨Nat.le_of_ble_eq_true rfl, Nat.le_of_ble_eq_true rfl⟩) hS (fun q _ h => hFc q h) hFc (fun r_64 uu t H1 locs ht hvm hw_72 hB hz1 hk1 hS => ?_)
                                  obtain ⟨ma_65, mw_66, mwa_67, mv_68, mf_69, nx_70, ml_71⟩ := uu
                                  obtain ⟨hP1, hD1, hsz1⟩ := hB
                                  rw [ht] at hP1 hsz1
                                  obtain ⟨hP, hD⟩ := va_join (wr := []) (w1 := [(aM, .inr (4, [.int th, .ref aMT, .int (nI mu), .ref aNw, .ref aNx, .int mw_66, .int mwa_67, .int (nI ma_65), .int (nI en), .long mv_68, .int mf_69, .int ml_71])), (aMT, .inl (kMT, 65536, .inl B)), (aNx, .inl (kNx, 52650, .inl nx_70))]) hP hD [1, 2, 0] [] rfl rfl (by decide) (by decide) hk1 hFc hP1 hD1
                                  generalize H1 = H at hP hS ⊢
                                  have hP : va_P (dC, dI) vwCl [(aM, .inr (4, [.int th, .ref aMT, .int (nI mu), .ref aNw, .ref aNx, .int mw_66, .int mwa_67, .int (nI ma_65), .int (nI en), .long mv_68, .int mf_69, .int ml_71])), (aMT, .inl (kMT, 65536, .inl B)), (aNx, .inl (kNx, 52650, .inl nx_70))] H := hP
                                  have hD : va_D A [(aM, .inr (4, [.int th, .ref aMT, .int (nI mu), .ref aNw, .ref aNx, .int mw_66, .int mwa_67, .int (nI ma_65), .int (nI en), .long mv_68, .int mf_69, .int ml_71])), (aMT, .inl (kMT, 65536, .inl B)), (aNx, .inl (kNx, 52650, .inl nx_70))] := hD
                                  simp only [zf01, zf11, zg13, zg33, decide_true, decide_false] at hw_72
                                  rcases hw_72 with ⟨rfl, hw_72b, e1, e2, hw_72n, hw_72a, e3⟩ | ⟨rfl, hw_72b, hw_72k, hw_72a, e2⟩
                                  ·
                                    have e1 := e1.symm; subst e1
                                    have e2 := e2.symm; subst e2
                                    have e3 := e3.symm; subst e3
                                    have hw_72i := zLK_in hw_72a
                                    refine lv_if_ne (tgt := 193) hx hb d_Md_mesh_188 (by decide) (fun c_73 => ?_) (fun c_73 => ?_)
                                    ·
                                      refine lv_aload_n hx hb d_Md_mesh_193 rfl (lv_at hl 2 rfl) ?_
                                      refine va_get (D := (dC, dI)) (ci := 4) (v := .ref aNx) (C := R_Md) (T := F_Md) (N := 12) hx hb hz i_Md hown hK hP 0 rfl rfl 4 (by decide) (hz _ tw_480) (fun _ h9 => h9) rfl d_Md_mesh_194 ?_
                                      refine lv_iload_n hx hb d_Md_mesh_197 rfl (lv_at hl 1 rfl) ?_
                                      refine lv_iconst (v := 2) hx hb d_Md_mesh_198 (by decide) ?_
                                      refine lv_iadd hx hb d_Md_mesh_199 ?_
                                      refine zt_top (nI_add (24776 + (1440 * kk)) 2) ?_
                                      refine lv_aload_n hx hb d_Md_mesh_200 rfl (lv_at hl 2 rfl) ?_
                                      refine va_get (D := (dC, dI)) (ci := 4) (v := .int (nI hw_72n)) (C := R_Md) (T := F_Md) (N := 12) hx hb hz i_Md hown hK hP 0 rfl rfl 11 (by decide) (hz _ tw_487) (fun _ h9 => h9) rfl d_Md_mesh_201 ?_
                                      refine lv_iconst (v := 3) hx hb d_Md_mesh_204 (by decide) ?_
                                      refine lv_idiv hx hb d_Md_mesh_205 (by decide) ?_
                                      refine zt_top (pk_div (a := hw_72n) (d := 3) (by omega) (by decide) (by decide)) ?_
                                      refine va_iast (D := (dC, dI)) (i := nI ((24776 + (1440 * kk)) + 2)) (x := nI (hw_72n / 3)) hx hb hK hP hD hS 2 1 rfl rfl (vp_in_nI (by omega) (by decide)) d_Md_mesh_206 (fun H locs hP hD hS => ?_)
                                      rw [nI_clamp (by omega)] at hP hD
                                      have hP : va_P (dC, dI) vwCl [(aM, .inr (4, [.int th, .ref aMT, .int (nI mu), .ref aNw, .ref aNx, .int mw, .int mwa, .int (nI ma_65), .int (nI en), .long mv_68, .int mf_69, .int (nI hw_72n)])), (aMT, .inl (kMT, 65536, .inl B)), (aNx, .inl (kNx, 52650, .inl (upd nx_70 ((24776 + (1440 * kk)) + 2) (nI (hw_72n / 3)))))] H := hP
                                      have hD : va_D A [(aM, .inr (4, [.int th, .ref aMT, .int (nI mu), .ref aNw, .ref aNx, .int mw, .int mwa, .int (nI ma_65), .int (nI en), .long mv_68, .int mf_69, .int (nI hw_72n)])), (aMT, .inl (kMT, 65536, .inl B)), (aNx, .inl (kNx, 52650, .inl (upd nx_70 ((24776 + (1440 * kk)) + 2) (nI (hw_72n / 3)))))] := hD
                                      refine lv_iconst (v := 1) hx hb d_Md_mesh_207 (by decide) ?_
                                      refine zt_size (fun hzs => ?_)
                                      have hP9 := hP.sub (ws' := [(aM, .inr (4, [.int th, .ref aMT, .int (nI mu), .ref aNw, .ref aNx, .int mw, .int mwa, .int (nI ma_65), .int (nI en), .long mv_68, .int mf_69, .int (nI hw_72n)])), (aMT, .inl (kMT, 65536, .inl B)), (aNx, .inl (kNx, 52650, .inl (upd nx_70 ((24776 + (1440 * kk)) + 2) (nI (hw_72n / 3)))))]) [0, 1, 2] rfl
                                      have hD9 := hD.sub (ws' := [(aM, .inr (4, [.int th, .ref aMT, .int (nI mu), .ref aNw, .ref aNx, .int mw, .int mwa, .int (nI ma_65), .int (nI en), .long mv_68, .int mf_69, .int (nI hw_72n)])), (aMT, .inl (kMT, 65536, .inl B)), (aNx, .inl (kNx, 52650, .inl (upd nx_70 ((24776 + (1440 * kk)) + 2) (nI (hw_72n / 3)))))]) [0, 1, 2] (by decide) rfl
                                      exact W.zret (v := 1) hx hb hr rfl (fun t ht hW => ⟨⟨1, (ma_65, mw, mwa, mv_68, mf_69, upd nx_70 ((24776 + (1440 * kk)) + 2) (nI (hw_72n / 3)), nI hw_72n), rfl, Or.inl ⟨rfl, by omega, rfl, rfl, by simp only [mMesh, mListK, mNumK, zB_ok, hw_8a, hw_14a, hw_24a, hw_30a, hw_40a, hw_46a, hw_56a, hw_62a, hw_72a]⟩, by rw [ht]; exact hP9, hD9, by rw [ht]; exact hzs⟩, hS.F ht⟩) hS.2.2 d_Md_mesh_208
                                    ·
                                      exact absurd c_73 (by decide)
                                  ·
                                    have e2 := e2.symm; subst e2
                                    refine lv_if_ne (tgt := 193) hx hb d_Md_mesh_188 (by decide) (fun c_74 => ?_) (fun c_74 => ?_)
                                    ·
                                      exact absurd (by decide) c_74
                                    ·
                                      refine lv_iconst (v := 0) hx hb d_Md_mesh_191 (by decide) ?_
                                      refine zt_size (fun hzs => ?_)
                                      have hP9 := hP.sub (ws' := [(aM, .inr (4, [.int th, .ref aMT, .int (nI mu), .ref aNw, .ref aNx, .int mw_66, .int (nI hw_72k), .int (nI ma_65), .int (nI en), .long mv_68, .int mf_69, .int ml_71])), (aMT, .inl (kMT, 65536, .inl B)), (aNx, .inl (kNx, 52650, .inl nx_70))]) [0, 1, 2] rfl
                                      have hD9 := hD.sub (ws' := [(aM, .inr (4, [.int th, .ref aMT, .int (nI mu), .ref aNw, .ref aNx, .int mw_66, .int (nI hw_72k), .int (nI ma_65), .int (nI en), .long mv_68, .int mf_69, .int ml_71])), (aMT, .inl (kMT, 65536, .inl B)), (aNx, .inl (kNx, 52650, .inl nx_70))]) [0, 1, 2] (by decide) rfl
                                      exact W.zret (v := 0) hx hb hr rfl (fun t ht hW => ⟨⟨0, (ma_65, mw_66, nI hw_72k, mv_68, mf_69, nx_70, ml_71), rfl, Or.inr ⟨rfl, by omega, _, by simp only [mMesh, mListK, mNumK, zB_ok, zB_er, hw_8a, hw_14a, hw_24a, hw_30a, hw_40a, hw_46a, hw_56a, hw_62a, hw_72a], rfl⟩, by rw [ht]; exact hP9, hD9, by rw [ht]; exact hzs⟩, hS.F ht⟩) hS.2.2 d_Md_mesh_192
                              ·
                                have e2 := e2.symm; subst e2
                                refine lv_if_eq (tgt := 191) hx hb d_Md_mesh_163 (by decide) (fun c_75 => ?_) (fun c_75 => ?_)
                                ·
                                  refine lv_iconst (v := 0) hx hb d_Md_mesh_191 (by decide) ?_
                                  refine zt_size (fun hzs => ?_)
                                  have hP9 := hP.sub (ws' := [(aM, .inr (4, [.int th, .ref aMT, .int (nI mu), .ref aNw, .ref aNx, .int mw_60, .int (nI hw_62k), .int (nI ma_59), .int (nI en), .long mv_52, .int mf_53, .int (nI hw_56n)])), (aMT, .inl (kMT, 65536, .inl B)), (aNx, .inl (kNx, 52650, .inl nx_54))]) [1, 2, 0] rfl
                                  have hD9 := hD.sub (ws' := [(aM, .inr (4, [.int th, .ref aMT, .int (nI mu), .ref aNw, .ref aNx, .int mw_60, .int (nI hw_62k), .int (nI ma_59), .int (nI en), .long mv_52, .int mf_53, .int (nI hw_56n)])), (aMT, .inl (kMT, 65536, .inl B)), (aNx, .inl (kNx, 52650, .inl nx_54))]) [1, 2, 0] (by decide) rfl
                                  exact W.zret (v := 0) hx hb hr rfl (fun t ht hW => ⟨⟨0, (ma_59, mw_60, nI hw_62k, mv_52, mf_53, nx_54, nI hw_56n), rfl, Or.inr ⟨rfl, by omega, _, by simp only [mMesh, mListK, mNumK, zB_ok, zB_er, hw_8a, hw_14a, hw_24a, hw_30a, hw_40a, hw_46a, hw_56a, hw_62a], rfl⟩, by rw [ht]; exact hP9, hD9, by rw [ht]; exact hzs⟩, hS.F ht⟩) hS.2.2 d_Md_mesh_192
                                ·
                                  exact absurd (by decide) c_75
                            ·
                              exact absurd c_57 (by decide)
                          ·
                            have e2 := e2.symm; subst e2
                            refine lv_if_ne (tgt := 157) hx hb d_Md_mesh_152 (by decide) (fun c_76 => ?_) (fun c_76 => ?_)
                            ·
                              exact absurd (by decide) c_76
                            ·
                              refine lv_iconst (v := 0) hx hb d_Md_mesh_155 (by decide) ?_
                              refine zt_size (fun hzs => ?_)
                              have hP9 := hP.sub (ws' := [(aM, .inr (4, [.int th, .ref aMT, .int (nI mu), .ref aNw, .ref aNx, .int mw_50, .int (nI hw_56k), .int (nI ma_49), .int (nI en), .long mv_52, .int mf_53, .int ml_55])), (aMT, .inl (kMT, 65536, .inl B)), (aNx, .inl (kNx, 52650, .inl nx_54))]) [0, 1, 2] rfl
                              have hD9 := hD.sub (ws' := [(aM, .inr (4, [.int th, .ref aMT, .int (nI mu), .ref aNw, .ref aNx, .int mw_50, .int (nI hw_56k), .int (nI ma_49), .int (nI en), .long mv_52, .int mf_53, .int ml_55])), (aMT, .inl (kMT, 65536, .inl B)), (aNx, .inl (kNx, 52650, .inl nx_54))]) [0, 1, 2] (by decide) rfl
                              exact W.zret (v := 0) hx hb hr rfl (fun t ht hW => ⟨⟨0, (ma_49, mw_50, nI hw_56k, mv_52, mf_53, nx_54, ml_55), rfl, Or.inr ⟨rfl, by omega, _, by simp only [mMesh, mListK, mNumK, zB_ok, zB_er, hw_8a, hw_14a, hw_24a, hw_30a, hw_40a, hw_46a, hw_56a], rfl⟩, by rw [ht]; exact hP9, hD9, by rw [ht]; exact hzs⟩, hS.F ht⟩) hS.2.2 d_Md_mesh_156
                      ·
                        have e2 := e2.symm; subst e2
                        refine lv_if_eq (tgt := 155) hx hb d_Md_mesh_125 (by decide) (fun c_77 => ?_) (fun c_77 => ?_)
                        ·
                          refine lv_iconst (v := 0) hx hb d_Md_mesh_155 (by decide) ?_
                          refine zt_size (fun hzs => ?_)
                          have hP9 := hP.sub (ws' := [(aM, .inr (4, [.int th, .ref aMT, .int (nI mu), .ref aNw, .ref aNx, .int mw_44, .int (nI hw_46k), .int (nI ma_43), .int (nI en), .long mv_36, .int mf_37, .int (nI hw_40n)])), (aMT, .inl (kMT, 65536, .inl B)), (aNx, .inl (kNx, 52650, .inl nx_38))]) [1, 2, 0] rfl
                          have hD9 := hD.sub (ws' := [(aM, .inr (4, [.int th, .ref aMT, .int (nI mu), .ref aNw, .ref aNx, .int mw_44, .int (nI hw_46k), .int (nI ma_43), .int (nI en), .long mv_36, .int mf_37, .int (nI hw_40n)])), (aMT, .inl (kMT, 65536, .inl B)), (aNx, .inl (kNx, 52650, .inl nx_38))]) [1, 2, 0] (by decide) rfl
                          exact W.zret (v := 0) hx hb hr rfl (fun t ht hW => ⟨⟨0, (ma_43, mw_44, nI hw_46k, mv_36, mf_37, nx_38, nI hw_40n), rfl, Or.inr ⟨rfl, by omega, _, by simp only [mMesh, mListK, mNumK, zB_ok, zB_er, hw_8a, hw_14a, hw_24a, hw_30a, hw_40a, hw_46a], rfl⟩, by rw [ht]; exact hP9, hD9, by rw [ht]; exact hzs⟩, hS.F ht⟩) hS.2.2 d_Md_mesh_156
                        ·
                          exact absurd (by decide) c_77
                    ·
                      exact absurd c_41 (by decide)
                  ·
                    have e2 := e2.symm; subst e2
                    refine lv_if_ne (tgt := 119) hx hb d_Md_mesh_114 (by decide) (fun c_78 => ?_) (fun c_78 => ?_)
                    ·
                      exact absurd (by decide) c_78
                    ·
                      refine lv_iconst (v := 0) hx hb d_Md_mesh_117 (by decide) ?_
                      refine zt_size (fun hzs => ?_)
                      have hP9 := hP.sub (ws' := [(aM, .inr (4, [.int th, .ref aMT, .int (nI mu), .ref aNw, .ref aNx, .int mw_34, .int (nI hw_40k), .int (nI ma_33), .int (nI en), .long mv_36, .int mf_37, .int ml_39])), (aMT, .inl (kMT, 65536, .inl B)), (aNx, .inl (kNx, 52650, .inl nx_38))]) [0, 1, 2] rfl
                      have hD9 := hD.sub (ws' := [(aM, .inr (4, [.int th, .ref aMT, .int (nI mu), .ref aNw, .ref aNx, .int mw_34, .int (nI hw_40k), .int (nI ma_33), .int (nI en), .long mv_36, .int mf_37, .int ml_39])), (aMT, .inl (kMT, 65536, .inl B)), (aNx, .inl (kNx, 52650, .inl nx_38))]) [0, 1, 2] (by decide) rfl
                      exact W.zret (v := 0) hx hb hr rfl (fun t ht hW => ⟨⟨0, (ma_33, mw_34, nI hw_40k, mv_36, mf_37, nx_38, ml_39), rfl, Or.inr ⟨rfl, by omega, _, by simp only [mMesh, mListK, mNumK, zB_ok, zB_er, hw_8a, hw_14a, hw_24a, hw_30a, hw_40a], rfl⟩, by rw [ht]; exact hP9, hD9, by rw [ht]; exact hzs⟩, hS.F ht⟩) hS.2.2 d_Md_mesh_118
              ·
                have e2 := e2.symm; subst e2
                refine lv_if_eq (tgt := 117) hx hb d_Md_mesh_87 (by decide) (fun c_79 => ?_) (fun c_79 => ?_)
                ·
                  refine lv_iconst (v := 0) hx hb d_Md_mesh_117 (by decide) ?_
                  refine zt_size (fun hzs => ?_)
                  have hP9 := hP.sub (ws' := [(aM, .inr (4, [.int th, .ref aMT, .int (nI mu), .ref aNw, .ref aNx, .int mw_28, .int (nI hw_30k), .int (nI ma_27), .int (nI en), .long mv_20, .int mf_21, .int (nI hw_24n)])), (aMT, .inl (kMT, 65536, .inl B)), (aNx, .inl (kNx, 52650, .inl (upd nx_22 ((24776 + (1440 * kk)) + 1) (nI (hw_24n / 3)))))]) [1, 2, 0] rfl
                  have hD9 := hD.sub (ws' := [(aM, .inr (4, [.int th, .ref aMT, .int (nI mu), .ref aNw, .ref aNx, .int mw_28, .int (nI hw_30k), .int (nI ma_27), .int (nI en), .long mv_20, .int mf_21, .int (nI hw_24n)])), (aMT, .inl (kMT, 65536, .inl B)), (aNx, .inl (kNx, 52650, .inl (upd nx_22 ((24776 + (1440 * kk)) + 1) (nI (hw_24n / 3)))))]) [1, 2, 0] (by decide) rfl
                  exact W.zret (v := 0) hx hb hr rfl (fun t ht hW => ⟨⟨0, (ma_27, mw_28, nI hw_30k, mv_20, mf_21, upd nx_22 ((24776 + (1440 * kk)) + 1) (nI (hw_24n / 3)), nI hw_24n), rfl, Or.inr ⟨rfl, by omega, _, by simp only [mMesh, mListK, mNumK, zB_ok, zB_er, hw_8a, hw_14a, hw_24a, hw_30a], rfl⟩, by rw [ht]; exact hP9, hD9, by rw [ht]; exact hzs⟩, hS.F ht⟩) hS.2.2 d_Md_mesh_118
                ·
                  exact absurd (by decide) c_79
            ·
              exact absurd c_25 (by decide)
          ·
            have e2 := e2.symm; subst e2
            refine lv_if_ne (tgt := 65) hx hb d_Md_mesh_60 (by decide) (fun c_80 => ?_) (fun c_80 => ?_)
            ·
              exact absurd (by decide) c_80
            ·
              refine lv_iconst (v := 0) hx hb d_Md_mesh_63 (by decide) ?_
              refine zt_size (fun hzs => ?_)
              have hP9 := hP.sub (ws' := [(aM, .inr (4, [.int th, .ref aMT, .int (nI mu), .ref aNw, .ref aNx, .int mw_18, .int (nI hw_24k), .int (nI ma_17), .int (nI en), .long mv_20, .int mf_21, .int ml_23])), (aMT, .inl (kMT, 65536, .inl B)), (aNx, .inl (kNx, 52650, .inl nx_22))]) [0, 1, 2] rfl
              have hD9 := hD.sub (ws' := [(aM, .inr (4, [.int th, .ref aMT, .int (nI mu), .ref aNw, .ref aNx, .int mw_18, .int (nI hw_24k), .int (nI ma_17), .int (nI en), .long mv_20, .int mf_21, .int ml_23])), (aMT, .inl (kMT, 65536, .inl B)), (aNx, .inl (kNx, 52650, .inl nx_22))]) [0, 1, 2] (by decide) rfl
              exact W.zret (v := 0) hx hb hr rfl (fun t ht hW => ⟨⟨0, (ma_17, mw_18, nI hw_24k, mv_20, mf_21, nx_22, ml_23), rfl, Or.inr ⟨rfl, by omega, _, by simp only [mMesh, mListK, mNumK, zB_ok, zB_er, hw_8a, hw_14a, hw_24a], rfl⟩, by rw [ht]; exact hP9, hD9, by rw [ht]; exact hzs⟩, hS.F ht⟩) hS.2.2 d_Md_mesh_64
      ·
        have e2 := e2.symm; subst e2
        refine lv_if_eq (tgt := 63) hx hb d_Md_mesh_36 (by decide) (fun c_81 => ?_) (fun c_81 => ?_)
        ·
          refine lv_iconst (v := 0) hx hb d_Md_mesh_63 (by decide) ?_
          refine zt_size (fun hzs => ?_)
          have hP9 := hP.sub (ws' := [(aM, .inr (4, [.int th, .ref aMT, .int (nI mu), .ref aNw, .ref aNx, .int mw_12, .int (nI hw_14k), .int (nI ma_11), .int (nI en), .long mv_5, .int mf_6, .int ml])), (aMT, .inl (kMT, 65536, .inl B)), (aNx, .inl (kNx, 52650, .inl (upd nx (24776 + (1440 * kk)) hw_8v)))]) [1, 2, 0] rfl
          have hD9 := hD.sub (ws' := [(aM, .inr (4, [.int th, .ref aMT, .int (nI mu), .ref aNw, .ref aNx, .int mw_12, .int (nI hw_14k), .int (nI ma_11), .int (nI en), .long mv_5, .int mf_6, .int ml])), (aMT, .inl (kMT, 65536, .inl B)), (aNx, .inl (kNx, 52650, .inl (upd nx (24776 + (1440 * kk)) hw_8v)))]) [1, 2, 0] (by decide) rfl
          exact W.zret (v := 0) hx hb hr rfl (fun t ht hW => ⟨⟨0, (ma_11, mw_12, nI hw_14k, mv_5, mf_6, upd nx (24776 + (1440 * kk)) hw_8v, ml), rfl, Or.inr ⟨rfl, by omega, _, by simp only [mMesh, mListK, mNumK, zB_ok, zB_er, hw_8a, hw_14a], rfl⟩, by rw [ht]; exact hP9, hD9, by rw [ht]; exact hzs⟩, hS.F ht⟩) hS.2.2 d_Md_mesh_64
        ·
          exact absurd (by decide) c_81
  ·
    have e2 := e2.symm; subst e2
    refine lv_if_eq (tgt := 63) hx hb d_Md_mesh_27 (by decide) (fun c_82 => ?_) (fun c_82 => ?_)
    ·
      refine lv_iconst (v := 0) hx hb d_Md_mesh_63 (by decide) ?_
      refine zt_size (fun hzs => ?_)
      have hP9 := hP.sub (ws' := [(aM, .inr (4, [.int th, .ref aMT, .int (nI mu), .ref aNw, .ref aNx, .int mw_3, .int (nI hw_8k), .int (nI ma_2), .int (nI en), .long mv_5, .int mf_6, .int ml])), (aMT, .inl (kMT, 65536, .inl B)), (aNx, .inl (kNx, 52650, .inl nx_7))]) [0, 1, 2] rfl
      have hD9 := hD.sub (ws' := [(aM, .inr (4, [.int th, .ref aMT, .int (nI mu), .ref aNw, .ref aNx, .int mw_3, .int (nI hw_8k), .int (nI ma_2), .int (nI en), .long mv_5, .int mf_6, .int ml])), (aMT, .inl (kMT, 65536, .inl B)), (aNx, .inl (kNx, 52650, .inl nx_7))]) [0, 1, 2] (by decide) rfl
      exact W.zret (v := 0) hx hb hr rfl (fun t ht hW => ⟨⟨0, (ma_2, mw_3, nI hw_8k, mv_5, mf_6, nx_7, ml), rfl, Or.inr ⟨rfl, by omega, _, by simp only [mMesh, mListK, mNumK, zB_ok, zB_er, hw_8a], rfl⟩, by rw [ht]; exact hP9, hD9, by rw [ht]; exact hzs⟩, hS.F ht⟩) hS.2.2 d_Md_mesh_64
    ·
      exact absurd (by decide) c_82
