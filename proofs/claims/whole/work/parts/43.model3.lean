set_option maxHeartbeats 4000000 in
set_option maxRecDepth 100000 in
theorem lp_Md_isWord (l : Launch) (G : ZG) (dC : Nat → ClassId) (dI : Nat → Nat → Nat) (aM : Nat) (th : Int32) (aMT : Nat) (mu : Nat) (aNw : Nat) (aNx : Nat) (mw : Int32) (mwa : Int32) (ma : Nat) (en : Nat) (mv : Int64) (mf : Int32) (ml : Int32) (kMT : ClassId) (B : Nat → Int32) (ks : Nat) (hen : en ≤ 65536) (hma : ma ≤ en) (hks1 : 1 ≤ ks) (hks : ks < 33) (hL : (zSb ks).length ≤ 17) {p : Program} {e : Env} {s : State} {m : MethodId} {args : Array Value} {below : List Frame} {meth : Method} {c : Code} {A : Nat → Prop} (C0 : zC p s m args meth c prog_6_method_12_code 5 (some .boolean) R_Md w_Md_isWord) (hA : ∀ q : Nat, s.heap.size ≤ q → A q) (hK : va_K (dC, dI) vwCl [(kMT, .byte)] s) (hE : zE G A s s.heap) : ∀ (n : Nat) (i : Nat), (i ≤ (zSb ks).length) → ((zSb ks).length + 1 ≤ i + n) → (∀ j, j < i → B (zK B en ma + 1 + j) = (zSb ks).getD j 0) → (zK B en ma + 1 + (zSb ks).length < en) → (B (zK B en ma) = 34) → (B (zK B en ma + 1 + (zSb ks).length) = 34) → (zK B en ma ≤ en) → ∀ (H : Heap) (locs : List Loc), va_P (dC, dI) vwCl [(aM, .inr (4, [.int th, .ref aMT, .int (nI mu), .ref aNw, .ref aNx, .int mw, .int mwa, .int (nI (zK B en ma)), .int (nI en), .long mv, .int mf, .int ml])), (aMT, .inl (kMT, 65536, .inl B))] H → va_D A [(aM, .inr (4, [.int th, .ref aMT, .int (nI mu), .ref aNw, .ref aNx, .int mw, .int mwa, .int (nI (zK B en ma)), .int (nI en), .long mv, .int mf, .int ml])), (aMT, .inl (kMT, 65536, .inl B))] → va_S A s.heap H locs → ∀ (ls : Array Slot), lv_has ls 5 [(0, .ref aM), (1, .long (zWv ks)), (3, .int (nI ((zSb ks).length))), (4, .int (nI i))] → W p l e ({ frames := 1, cells := 0, slots := 0, locals := 22 }) s m args below meth c H locs 0 0 (MQ below (va_Qi (fun (r : Int32) (uu : Nat) => uu = zK B en ma ∧ ((r = 1 ∧ zWord B en (zSb ks) (zK B en ma) = some (zK B en (zK B en ma + 1 + (zSb ks).length + 1)) ∧ zK B en ma + 1 + (zSb ks).length < en) ∨ (r = 0 ∧ zWord B en (zSb ks) (zK B en ma) = none))) (fun (uu : Nat) t => BW (dC, dI) [(aM, .inr (4, [.int th, .ref aMT, .int (nI mu), .ref aNw, .ref aNx, .int mw, .int mwa, .int (nI uu), .int (nI en), .long mv, .int mf, .int ml])), (aMT, .inl (kMT, 65536, .inl B))] A s.heap.size t) A) args s 0 0 A) (F0 m 61 ls []) := by
  obtain ⟨hx, hb, hr, hml, hown, hts, hlocks⟩ := C0
  have hz : ∀ w ∈ ZW, w.before _ s = true := fun w h => hts w (List.mem_cons_of_mem _ h)
  intro n
  induction n with
  | zero =>
    intro i hi hn ha hq1 hq2 hq3 hz0 H locs hP hD hS ls hl
    exact absurd hn (by omega)
  | succ n ih =>
    intro i hi hn ha hq1 hq2 hq3 hz0 H locs hP hD hS ls hl
    refine lv_iload hx hb d_Md_isWord_61 (lv_at hl 3 rfl) ?_
    refine lv_iload_n hx hb d_Md_isWord_63 rfl (lv_at hl 2 rfl) ?_
    refine lv_icmp_ge (tgt := 108) hx hb d_Md_isWord_64 (by decide) (fun c_1 => ?_) (fun c_1 => ?_)
    ·
      have c_1 : ((zSb ks).length) ≤ i := (@nI_leI ((zSb ks).length) i (by omega) (by omega)).mp c_1
      refine lv_iconst (v := 1) hx hb d_Md_isWord_108 (by decide) ?_
      refine zt_size (fun hzs => ?_)
      have hP9 := hP.sub (ws' := [(aM, .inr (4, [.int th, .ref aMT, .int (nI mu), .ref aNw, .ref aNx, .int mw, .int mwa, .int (nI (zK B en ma)), .int (nI en), .long mv, .int mf, .int ml])), (aMT, .inl (kMT, 65536, .inl B))]) [0, 1] rfl
      have hD9 := hD.sub (ws' := [(aM, .inr (4, [.int th, .ref aMT, .int (nI mu), .ref aNw, .ref aNx, .int mw, .int mwa, .int (nI (zK B en ma)), .int (nI en), .long mv, .int mf, .int ml])), (aMT, .inl (kMT, 65536, .inl B))]) [0, 1] (by decide) rfl
      exact W.zret (v := 1) hx hb hr rfl (fun t ht hW => ⟨⟨1, zK B en ma, rfl, ⟨rfl, Or.inl ⟨rfl, by unfold zWord; rw [if_pos ⟨hq1, hq2, hq3, fun j hj => ha j (by omega)⟩], hq1⟩⟩, by rw [ht]; exact hP9, hD9, by rw [ht]; exact hzs⟩, hS.F ht⟩) hS.2.2 d_Md_isWord_109
    ·
      have c_1 : ¬ (((zSb ks).length) ≤ i) := fun z => c_1 ((@nI_leI ((zSb ks).length) i (by omega) (by omega)).mpr z)
      refine lv_aload_n hx hb d_Md_isWord_67 rfl (lv_at hl 0 rfl) ?_
      refine va_get (D := (dC, dI)) (ci := 4) (v := .ref aMT) (C := R_Md) (T := F_Md) (N := 12) hx hb hz i_Md hown hK hP 0 rfl rfl 1 (by decide) (hz _ tw_477) (fun _ h9 => h9) rfl d_Md_isWord_68 ?_
      refine lv_aload_n hx hb d_Md_isWord_71 rfl (lv_at hl 0 rfl) ?_
      refine va_get (D := (dC, dI)) (ci := 4) (v := .int (nI (zK B en ma))) (C := R_Md) (T := F_Md) (N := 12) hx hb hz i_Md hown hK hP 0 rfl rfl 7 (by decide) (hz _ tw_483) (fun _ h9 => h9) rfl d_Md_isWord_72 ?_
      refine lv_iconst (v := 1) hx hb d_Md_isWord_75 (by decide) ?_
      refine lv_iadd hx hb d_Md_isWord_76 ?_
      refine zt_top (nI_add (zK B en ma) 1) ?_
      refine lv_iload hx hb d_Md_isWord_77 (lv_at hl 3 rfl) ?_
      refine lv_iadd hx hb d_Md_isWord_79 ?_
      refine zt_top (nI_add ((zK B en ma) + 1) i) ?_
      refine va_bald (D := (dC, dI)) (i := nI (((zK B en ma) + 1) + i)) hx hb hK hP 1 0 rfl rfl (vp_in_nI (by omega) (by decide)) d_Md_isWord_80 ?_
      refine zt_top (by rw [nI_clamp (by omega)]) ?_
      refine lv_i2l (v := (B (((zK B en ma) + 1) + i)).toInt64) hx hb d_Md_isWord_81 rfl ?_
      refine lv_ldc2 (v := 96) hx hb hown (hz _ tw_571) d_Md_isWord_82 ?_
      refine lv_lload_n hx hb d_Md_isWord_85 rfl (lv_at hl 1 rfl) ?_
      refine lv_iconst (v := 5) hx hb d_Md_isWord_86 (by decide) ?_
      refine lv_iload hx hb d_Md_isWord_87 (lv_at hl 3 rfl) ?_
      refine lv_imul hx hb d_Md_isWord_89 ?_
      refine zt_top (pk_mul 5 i) ?_
      refine lv_lshr (v := (zWv ks) >>> ((nI (5 * i)).toInt64 &&& 63)) hx hb d_Md_isWord_90 rfl ?_
      refine lv_ldc2 (v := 31) hx hb hown (hz _ tw_572) d_Md_isWord_91 ?_
      refine lv_land hx hb d_Md_isWord_94 ?_
      refine lv_ladd hx hb d_Md_isWord_95 ?_
      refine W.lcmp hx hb d_Md_isWord_96 ?_
      refine lv_if_eq (tgt := 102) hx hb d_Md_isWord_97 (by decide) (fun c_2 => ?_) (fun c_2 => ?_)
      ·
        refine lv_iinc (v := nI (i + 1)) (lv' := [(4, .int (nI (i + 1))), (0, .ref aM), (1, .long (zWv ks)), (3, .int (nI ((zSb ks).length)))]) hx hb d_Md_isWord_102 hl (k := 3) rfl (nI_add i 1) (by decide) rfl (fun ls hl => ?_)
        refine lv_goto (tgt := 61) hx hb d_Md_isWord_105 (by decide) ?_
        exact ih (i + 1) (by omega) (by omega) (fun j hj => (Nat.lt_or_ge j i).elim (fun q => ha j q) (fun q => by rw [show j = i by omega]; exact z64 (((lg_cmp_eq _ _).mp c_2).trans (zW_ch ks hks hks1 i (by omega))))) hq1 hq2 hq3 hz0 _ _ (hP.sub [0, 1] rfl) (hD.sub [0, 1] (by decide) rfl) hS ls (lv_sub hl [1, 2, 3, 0] rfl)
      ·
        refine lv_iconst (v := 0) hx hb d_Md_isWord_100 (by decide) ?_
        refine zt_size (fun hzs => ?_)
        have hP9 := hP.sub (ws' := [(aM, .inr (4, [.int th, .ref aMT, .int (nI mu), .ref aNw, .ref aNx, .int mw, .int mwa, .int (nI (zK B en ma)), .int (nI en), .long mv, .int mf, .int ml])), (aMT, .inl (kMT, 65536, .inl B))]) [0, 1] rfl
        have hD9 := hD.sub (ws' := [(aM, .inr (4, [.int th, .ref aMT, .int (nI mu), .ref aNw, .ref aNx, .int mw, .int mwa, .int (nI (zK B en ma)), .int (nI en), .long mv, .int mf, .int ml])), (aMT, .inl (kMT, 65536, .inl B))]) [0, 1] (by decide) rfl
        exact W.zret (v := 0) hx hb hr rfl (fun t ht hW => ⟨⟨0, zK B en ma, rfl, ⟨rfl, Or.inr ⟨rfl, by unfold zWord; rw [if_neg (fun z => c_2 ((lg_cmp_eq _ _).mpr (by rw [z.2.2.2 i (by omega)]; exact (zW_ch ks hks hks1 i (by omega)).symm)))]⟩⟩, by rw [ht]; exact hP9, hD9, by rw [ht]; exact hzs⟩, hS.F ht⟩) hS.2.2 d_Md_isWord_101
set_option maxHeartbeats 4000000 in
set_option maxRecDepth 100000 in
theorem c_Md_isWord (l : Launch) (G : ZG) (dC : Nat → ClassId) (dI : Nat → Nat → Nat) (sz : Nat) (aM : Nat) (th : Int32) (aMT : Nat) (mu : Nat) (aNw : Nat) (aNx : Nat) (mw : Int32) (mwa : Int32) (ma : Nat) (en : Nat) (mv : Int64) (mf : Int32) (ml : Int32) (kMT : ClassId) (B : Nat → Int32) (ks : Nat) (hen : en ≤ 65536) (hma : ma ≤ en) (hks1 : 1 ≤ ks) (hks : ks < 33) (hL : (zSb ks).length ≤ 17) : Met l y_Md_isWord w_Md_isWord ({ frames := 1, cells := 0, slots := 0, locals := 22 }) (va_Pc [.ref aM, .long (zWv ks)] (PW G (dC, dI) [(kMT, .byte)] [(aM, .inr (4, [.int th, .ref aMT, .int (nI mu), .ref aNw, .ref aNx, .int mw, .int mwa, .int (nI ma), .int (nI en), .long mv, .int mf, .int ml])), (aMT, .inl (kMT, 65536, .inl B))] sz)) (va_Qi (fun (r : Int32) (uu : Nat) => uu = zK B en ma ∧ ((r = 1 ∧ zWord B en (zSb ks) (zK B en ma) = some (zK B en (zK B en ma + 1 + (zSb ks).length + 1)) ∧ zK B en ma + 1 + (zSb ks).length < en) ∨ (r = 0 ∧ zWord B en (zSb ks) (zK B en ma) = none))) (fun (uu : Nat) t => BW (dC, dI) [(aM, .inr (4, [.int th, .ref aMT, .int (nI mu), .ref aNw, .ref aNx, .int mw, .int mwa, .int (nI uu), .int (nI en), .long mv, .int mf, .int ml])), (aMT, .inl (kMT, 65536, .inl B))] (va_A [(aM, .inr (4, [.int th, .ref aMT, .int (nI mu), .ref aNw, .ref aNx, .int mw, .int mwa, .int (nI ma), .int (nI en), .long mv, .int mf, .int ml])), (aMT, .inl (kMT, 65536, .inl B))] sz) sz t) (va_A [(aM, .inr (4, [.int th, .ref aMT, .int (nI mu), .ref aNw, .ref aNx, .int mw, .int mwa, .int (nI ma), .int (nI en), .long mv, .int mf, .int ml])), (aMT, .inl (kMT, 65536, .inl B))] sz)) 0 0 (va_A [(aM, .inr (4, [.int th, .ref aMT, .int (nI mu), .ref aNw, .ref aNx, .int mw, .int mwa, .int (nI ma), .int (nI en), .long mv, .int mf, .int ml])), (aMT, .inl (kMT, 65536, .inl B))] sz) := by
  refine Met.ofW (cc := prog_6_method_12_code) (maxL := 5) (ret := (some .boolean)) (by decide) rfl ?_
  intro p e s m args below meth c s₁ Bd hml hv
  obtain ⟨rfl, hsz, hP, hK, hD0, hE⟩ := hv
  have hx := Bd.exec
  have hb := Bd.bytes
  have hr := Bd.returns
  have hts := atoms_spec (ws := w_Md_isWord) Bd.pre
  have hown : s.vm.findClass R_Md = some m.cls := findClass_of_methodNamed Bd.named
  have hlocks := Bd.notSynchronized
  have hz : ∀ w ∈ ZW, w.before _ s = true := fun w h => hts w (List.mem_cons_of_mem _ h)
  subst hsz
  have hD := hD0.self (sz := s.heap.size)
  generalize hAe : va_A [(aM, .inr (4, [.int th, .ref aMT, .int (nI mu), .ref aNw, .ref aNx, .int mw, .int mwa, .int (nI ma), .int (nI en), .long mv, .int mf, .int ml])), (aMT, .inl (kMT, 65536, .inl B))] s.heap.size = A at hD hE ⊢
  have hA : ∀ q : Nat, s.heap.size ≤ q → A q := fun q h => by rw [← hAe]; exact Or.inr h
  have hS : va_S A s.heap s.heap [] := va_S.rf
  have hl := lv_entry ([.ref aM, .long (zWv ks)]) (n := 5) (Nat.le_of_ble_eq_true rfl)
  rw [lg_entry_eq]
  generalize (lg_sl ([.ref aM, .long (zWv ks)]) ++ List.replicate (5 - (lg_sl ([.ref aM, .long (zWv ks)])).length) Slot.unset).toArray = ls at hl ⊢
  have hl : lv_has ls 5 [(0, .ref aM), (1, .long (zWv ks))] := hl
  obtain ⟨H, hH⟩ : ∃ z, z = s.heap := ⟨_, rfl⟩
  have hP : va_P (dC, dI) vwCl [(aM, .inr (4, [.int th, .ref aMT, .int (nI mu), .ref aNw, .ref aNx, .int mw, .int mwa, .int (nI ma), .int (nI en), .long mv, .int mf, .int ml])), (aMT, .inl (kMT, 65536, .inl B))] H := by rw [hH]; exact hP
  have hS : va_S A s.heap H [] := by rw [hH]; exact hS
  refine zt_heap hH ?_
  refine lv_aload_n hx hb d_Md_isWord_0 rfl (lv_at hl 0 rfl) ?_
  have hPc := hP.sub (ws' := [(aM, .inr (4, [.int th, .ref aMT, .int (nI mu), .ref aNw, .ref aNx, .int mw, .int mwa, .int (nI ma), .int (nI en), .long mv, .int mf, .int ml])), (aMT, .inl (kMT, 65536, .inl B))]) [0, 1] rfl
  have hDc := hD.sub (ws' := [(aM, .inr (4, [.int th, .ref aMT, .int (nI mu), .ref aNw, .ref aNx, .int mw, .int mwa, .int (nI ma), .int (nI en), .long mv, .int mf, .int ml])), (aMT, .inl (kMT, 65536, .inl B))]) [0, 1] (by decide) rfl
  have hKc := hK.sub (tys' := [(kMT, .byte)]) [0] rfl
  have hFc := va_free (wc := [(aM, .inr (4, [.int th, .ref aMT, .int (nI mu), .ref aNw, .ref aNx, .int mw, .int mwa, .int (nI ma), .int (nI en), .long mv, .int mf, .int ml])), (aMT, .inl (kMT, 65536, .inl B))]) hD hS hA [0, 1] rfl
  refine va_callv (va_runV (As := []) (rest := []) ⟨hx, hb, hml, hown, hts⟩ (c_Md_skip l G dC dI H.size aM th aMT mu aNw aNx mw mwa ma en mv mf ml kMT B (by omega) (by omega)) (cwV 0 hts (gV tw_545 tw_547 ts_22 tw_5 tw_548 rfl) rfl rfl rfl (by decide +kernel) ⟨Nat.le_of_ble_eq_true rfl, Nat.le_of_ble_eq_true rfl⟩) (PW_preV hPc hKc hDc hE hS hFc (ci := 4) (q0 := 0) rfl rfl) rfl rfl hl.1 rfl (lv_room (Nat.le_of_ble_eq_true rfl)) d_Md_isWord_1 ⟨Nat.le_of_ble_eq_true rfl, Nat.le_of_ble_eq_true rfl⟩) hS (fun q _ h => hFc q h) hFc (fun uu t H1 locs ht hvm hw_3 hB hz1 hk1 hS => ?_)
  obtain ⟨ma_2, rfl⟩ : ∃ z, z = uu := ⟨_, rfl⟩
  obtain ⟨hP1, hD1, hsz1⟩ := hB
  rw [ht] at hP1 hsz1
  obtain ⟨hP, hD⟩ := va_join (wr := []) (w1 := [(aM, .inr (4, [.int th, .ref aMT, .int (nI mu), .ref aNw, .ref aNx, .int mw, .int mwa, .int (nI ma_2), .int (nI en), .long mv, .int mf, .int ml])), (aMT, .inl (kMT, 65536, .inl B))]) hP hD [0, 1] [] rfl rfl (by decide) (by decide) hk1 hFc hP1 hD1
  generalize H1 = H at hP hS ⊢
  have hP : va_P (dC, dI) vwCl [(aM, .inr (4, [.int th, .ref aMT, .int (nI mu), .ref aNw, .ref aNx, .int mw, .int mwa, .int (nI ma_2), .int (nI en), .long mv, .int mf, .int ml])), (aMT, .inl (kMT, 65536, .inl B))] H := hP
  have hD : va_D A [(aM, .inr (4, [.int th, .ref aMT, .int (nI mu), .ref aNw, .ref aNx, .int mw, .int mwa, .int (nI ma_2), .int (nI en), .long mv, .int mf, .int ml])), (aMT, .inl (kMT, 65536, .inl B))] := hD
  have e1 := hw_3.symm; subst e1
  have hw_3i := zK_le (B := B) (en := en) (i := ma) (by omega)
  refine lv_lload_n hx hb d_Md_isWord_4 rfl (lv_at hl 1 rfl) ?_
  have hPc := hP.sub (ws' := []) [] rfl
  have hDc := hD.sub (ws' := []) [] (by decide) rfl
  have hKc := hK.sub (tys' := []) [] rfl
  have hFc := va_free (wc := []) hD hS hA [] rfl
  refine va_calli (va_runS (As := [.long (zWv ks)]) (rest := []) ⟨hx, hb, hml, hown, hts⟩ (c_Md_letters l G dC dI H.size ks (by omega) (by omega) (by omega)) (va_cwS 1 hts (gS tw_568 tw_569 tw_5 tw_570) rfl rfl rfl (by decide +kernel) ⟨Nat.le_of_ble_eq_true rfl, Nat.le_of_ble_eq_true rfl⟩) (PW_preS hPc hKc hDc hE hS hFc) rfl rfl hl.1 rfl (lv_room (Nat.le_of_ble_eq_true rfl)) d_Md_isWord_5 ⟨Nat.le_of_ble_eq_true rfl, Nat.le_of_ble_eq_true rfl⟩) hS (fun q _ h => hFc q h) hFc (fun r_4 uu t H1 locs ht hvm hw_5 hB hz1 hk1 hS => ?_)
  obtain ⟨hP1, hD1, hsz1⟩ := hB
  rw [ht] at hP1 hsz1
  obtain ⟨hP, hD⟩ := va_join (wr := [(aM, .inr (4, [.int th, .ref aMT, .int (nI mu), .ref aNw, .ref aNx, .int mw, .int mwa, .int (nI (zK B en ma)), .int (nI en), .long mv, .int mf, .int ml])), (aMT, .inl (kMT, 65536, .inl B))]) (w1 := []) hP hD [] [0, 1] rfl rfl (by decide) (by decide) hk1 hFc hP1 hD1
  generalize H1 = H at hP hS ⊢
  have hP : va_P (dC, dI) vwCl [(aM, .inr (4, [.int th, .ref aMT, .int (nI mu), .ref aNw, .ref aNx, .int mw, .int mwa, .int (nI (zK B en ma)), .int (nI en), .long mv, .int mf, .int ml])), (aMT, .inl (kMT, 65536, .inl B))] H := hP
  have hD : va_D A [(aM, .inr (4, [.int th, .ref aMT, .int (nI mu), .ref aNw, .ref aNx, .int mw, .int mwa, .int (nI (zK B en ma)), .int (nI en), .long mv, .int mf, .int ml])), (aMT, .inl (kMT, 65536, .inl B))] := hD
  subst hw_5
  refine lv_istore_n (lv' := [(3, .int (nI ((zSb ks).length))), (0, .ref aM), (1, .long (zWv ks))]) hx hb d_Md_isWord_8 rfl hl (by decide) rfl (fun ls hl => ?_)
  refine lv_aload_n hx hb d_Md_isWord_9 rfl (lv_at hl 1 rfl) ?_
  refine va_get (D := (dC, dI)) (ci := 4) (v := .int (nI (zK B en ma))) (C := R_Md) (T := F_Md) (N := 12) hx hb hz i_Md hown hK hP 0 rfl rfl 7 (by decide) (hz _ tw_483) (fun _ h9 => h9) rfl d_Md_isWord_10 ?_
  refine lv_iload_n hx hb d_Md_isWord_13 rfl (lv_at hl 0 rfl) ?_
  refine lv_iadd hx hb d_Md_isWord_14 ?_
  refine zt_top (nI_add (zK B en ma) ((zSb ks).length)) ?_
  refine lv_iconst (v := 2) hx hb d_Md_isWord_15 (by decide) ?_
  refine lv_iadd hx hb d_Md_isWord_16 ?_
  refine zt_top (nI_add ((zK B en ma) + ((zSb ks).length)) 2) ?_
  refine lv_aload_n hx hb d_Md_isWord_17 rfl (lv_at hl 1 rfl) ?_
  refine va_get (D := (dC, dI)) (ci := 4) (v := .int (nI en)) (C := R_Md) (T := F_Md) (N := 12) hx hb hz i_Md hown hK hP 0 rfl rfl 8 (by decide) (hz _ tw_484) (fun _ h9 => h9) rfl d_Md_isWord_18 ?_
  refine lv_icmp_gt (tgt := 56) hx hb d_Md_isWord_21 (by decide) (fun c_6 => ?_) (fun c_6 => ?_)
  ·
    have c_6 : en < (((zK B en ma) + ((zSb ks).length)) + 2) := (@nI_ltI en (((zK B en ma) + ((zSb ks).length)) + 2) (by omega) (by omega)).mp c_6
    refine lv_iconst (v := 0) hx hb d_Md_isWord_56 (by decide) ?_
    refine zt_size (fun hzs => ?_)
    have hP9 := hP.sub (ws' := [(aM, .inr (4, [.int th, .ref aMT, .int (nI mu), .ref aNw, .ref aNx, .int mw, .int mwa, .int (nI (zK B en ma)), .int (nI en), .long mv, .int mf, .int ml])), (aMT, .inl (kMT, 65536, .inl B))]) [0, 1] rfl
    have hD9 := hD.sub (ws' := [(aM, .inr (4, [.int th, .ref aMT, .int (nI mu), .ref aNw, .ref aNx, .int mw, .int mwa, .int (nI (zK B en ma)), .int (nI en), .long mv, .int mf, .int ml])), (aMT, .inl (kMT, 65536, .inl B))]) [0, 1] (by decide) rfl
    exact W.zret (v := 0) hx hb hr rfl (fun t ht hW => ⟨⟨0, zK B en ma, rfl, ⟨rfl, Or.inr ⟨rfl, by unfold zWord; rw [if_neg (fun z => absurd z.1 (by omega))]⟩⟩, by rw [ht]; exact hP9, hD9, by rw [ht]; exact hzs⟩, hS.F ht⟩) hS.2.2 d_Md_isWord_57
  ·
    have c_6 : ¬ (en < (((zK B en ma) + ((zSb ks).length)) + 2)) := fun z => c_6 ((@nI_ltI en (((zK B en ma) + ((zSb ks).length)) + 2) (by omega) (by omega)).mpr z)
    refine lv_aload_n hx hb d_Md_isWord_24 rfl (lv_at hl 1 rfl) ?_
    refine va_get (D := (dC, dI)) (ci := 4) (v := .ref aMT) (C := R_Md) (T := F_Md) (N := 12) hx hb hz i_Md hown hK hP 0 rfl rfl 1 (by decide) (hz _ tw_477) (fun _ h9 => h9) rfl d_Md_isWord_25 ?_
    refine lv_aload_n hx hb d_Md_isWord_28 rfl (lv_at hl 1 rfl) ?_
    refine va_get (D := (dC, dI)) (ci := 4) (v := .int (nI (zK B en ma))) (C := R_Md) (T := F_Md) (N := 12) hx hb hz i_Md hown hK hP 0 rfl rfl 7 (by decide) (hz _ tw_483) (fun _ h9 => h9) rfl d_Md_isWord_29 ?_
    refine va_bald (D := (dC, dI)) (i := nI (zK B en ma)) hx hb hK hP 1 0 rfl rfl (vp_in_nI (by omega) (by decide)) d_Md_isWord_32 ?_
    refine zt_top (by rw [nI_clamp (by omega)]) ?_
    refine lv_bipush (v := 34) hx hb d_Md_isWord_33 (by decide) ?_
    refine lv_icmp_ne (tgt := 56) hx hb d_Md_isWord_35 (by decide) (fun c_7 => ?_) (fun c_7 => ?_)
    ·
      refine lv_iconst (v := 0) hx hb d_Md_isWord_56 (by decide) ?_
      refine zt_size (fun hzs => ?_)
      have hP9 := hP.sub (ws' := [(aM, .inr (4, [.int th, .ref aMT, .int (nI mu), .ref aNw, .ref aNx, .int mw, .int mwa, .int (nI (zK B en ma)), .int (nI en), .long mv, .int mf, .int ml])), (aMT, .inl (kMT, 65536, .inl B))]) [0, 1] rfl
      have hD9 := hD.sub (ws' := [(aM, .inr (4, [.int th, .ref aMT, .int (nI mu), .ref aNw, .ref aNx, .int mw, .int mwa, .int (nI (zK B en ma)), .int (nI en), .long mv, .int mf, .int ml])), (aMT, .inl (kMT, 65536, .inl B))]) [0, 1] (by decide) rfl
      exact W.zret (v := 0) hx hb hr rfl (fun t ht hW => ⟨⟨0, zK B en ma, rfl, ⟨rfl, Or.inr ⟨rfl, by unfold zWord; rw [if_neg (fun z => c_7 z.2.1)]⟩⟩, by rw [ht]; exact hP9, hD9, by rw [ht]; exact hzs⟩, hS.F ht⟩) hS.2.2 d_Md_isWord_57
    ·
      refine lv_aload_n hx hb d_Md_isWord_38 rfl (lv_at hl 1 rfl) ?_
      refine va_get (D := (dC, dI)) (ci := 4) (v := .ref aMT) (C := R_Md) (T := F_Md) (N := 12) hx hb hz i_Md hown hK hP 0 rfl rfl 1 (by decide) (hz _ tw_477) (fun _ h9 => h9) rfl d_Md_isWord_39 ?_
      refine lv_aload_n hx hb d_Md_isWord_42 rfl (lv_at hl 1 rfl) ?_
      refine va_get (D := (dC, dI)) (ci := 4) (v := .int (nI (zK B en ma))) (C := R_Md) (T := F_Md) (N := 12) hx hb hz i_Md hown hK hP 0 rfl rfl 7 (by decide) (hz _ tw_483) (fun _ h9 => h9) rfl d_Md_isWord_43 ?_
      refine lv_iload_n hx hb d_Md_isWord_46 rfl (lv_at hl 0 rfl) ?_
      refine lv_iadd hx hb d_Md_isWord_47 ?_
      refine zt_top (nI_add (zK B en ma) ((zSb ks).length)) ?_
      refine lv_iconst (v := 1) hx hb d_Md_isWord_48 (by decide) ?_
      refine lv_iadd hx hb d_Md_isWord_49 ?_
      refine zt_top (nI_add ((zK B en ma) + ((zSb ks).length)) 1) ?_
      refine va_bald (D := (dC, dI)) (i := nI (((zK B en ma) + ((zSb ks).length)) + 1)) hx hb hK hP 1 0 rfl rfl (vp_in_nI (by omega) (by decide)) d_Md_isWord_50 ?_
      refine zt_top (by rw [nI_clamp (by omega)]) ?_
      refine lv_bipush (v := 34) hx hb d_Md_isWord_51 (by decide) ?_
      refine lv_icmp_eq (tgt := 58) hx hb d_Md_isWord_53 (by decide) (fun c_8 => ?_) (fun c_8 => ?_)
      ·
        refine lv_iconst (v := 0) hx hb d_Md_isWord_58 (by decide) ?_
        refine lv_istore (lv' := [(4, .int 0), (3, .int (nI ((zSb ks).length))), (0, .ref aM), (1, .long (zWv ks))]) hx hb d_Md_isWord_59 hl (by decide) rfl (fun ls hl => ?_)
        exact lp_Md_isWord l G dC dI aM th aMT mu aNw aNx mw mwa ma en mv mf ml kMT B ks hen hma hks1 hks hL ⟨hx, hb, hr, hml, hown, hts, hlocks⟩ hA hK hE ((zSb ks).length + 1) 0 (by omega) (by omega) (fun j hj => absurd hj (by omega)) (by omega) c_7 (by rw [show zK B en ma + 1 + (zSb ks).length = zK B en ma + (zSb ks).length + 1 by omega]; exact c_8) (by omega) _ _ (hP.sub [0, 1] rfl) (hD.sub [0, 1] (by decide) rfl) hS ls (lv_sub hl [2, 3, 1, 0] rfl)
      ·
        refine lv_iconst (v := 0) hx hb d_Md_isWord_56 (by decide) ?_
        refine zt_size (fun hzs => ?_)
        have hP9 := hP.sub (ws' := [(aM, .inr (4, [.int th, .ref aMT, .int (nI mu), .ref aNw, .ref aNx, .int mw, .int mwa, .int (nI (zK B en ma)), .int (nI en), .long mv, .int mf, .int ml])), (aMT, .inl (kMT, 65536, .inl B))]) [0, 1] rfl
        have hD9 := hD.sub (ws' := [(aM, .inr (4, [.int th, .ref aMT, .int (nI mu), .ref aNw, .ref aNx, .int mw, .int mwa, .int (nI (zK B en ma)), .int (nI en), .long mv, .int mf, .int ml])), (aMT, .inl (kMT, 65536, .inl B))]) [0, 1] (by decide) rfl
        exact W.zret (v := 0) hx hb hr rfl (fun t ht hW => ⟨⟨0, zK B en ma, rfl, ⟨rfl, Or.inr ⟨rfl, by unfold zWord; rw [if_neg (fun z => c_8 (by rw [show zK B en ma + (zSb ks).length + 1 = zK B en ma + 1 + (zSb ks).length by omega]; exact z.2.2.1))]⟩⟩, by rw [ht]; exact hP9, hD9, by rw [ht]; exact hzs⟩, hS.F ht⟩) hS.2.2 d_Md_isWord_57
