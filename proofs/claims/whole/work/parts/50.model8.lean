theorem zg13 : decide ((1 : Nat) = 3) = false := by decide
theorem zg33 : decide ((3 : Nat) = 3) = true := by decide
/-- a number and a list of the reference: the word, then it -/
def mNumK (B : Nat → Int32) (en : Nat) (wd : List Int32) (q : Nat) (lo hi : Int32) (s : Nat × (Nat → Int32)) : Except (Int32 × Nat) (Int32 × Nat × (Nat → Int32)) := zB (zB (zKey B en wd s.1) (zRNum B en lo hi)) fun v => .ok (v.1, v.2, upd s.2 q v.1)
def mListK (B : Nat → Int32) (en : Nat) (wd : List Int32) (gr w3 : Bool) (le mo q : Nat) (lo hi : Int32) (s : Nat × (Nat → Int32)) : Except (Int32 × Nat) (Nat × Nat × (Nat → Int32)) := zB (zKey B en wd s.1) fun h1 => zList B en gr w3 le mo q lo hi h1 s.2
set_option maxHeartbeats 4000000 in
set_option maxRecDepth 100000 in
theorem c_Md_three (l : Launch) (G : ZG) (dC : Nat → ClassId) (dI : Nat → Nat → Nat) (sz : Nat) (aM : Nat) (th : Int32) (aMT : Nat) (mu : Nat) (aNw : Nat) (aNx : Nat) (mw : Int32) (mwa : Int32) (ma : Nat) (en : Nat) (mv : Int64) (mf : Int32) (ml : Int32) (kMT : ClassId) (B : Nat → Int32) (kNx : ClassId) (nx : Nat → Int32) (ks : Nat) (pl : Nat) (mm : Nat) (hen : en ≤ 65536) (hma : ma ≤ en) (hks1 : 1 ≤ ks) (hks : ks < 33) (hL : (zSb ks).length ≤ 17) (hpl : pl + 3 ≤ 52650) (hmm : mm < 100000000) : Met l y_Md_three w_Md_three ({ frames := 5, cells := 0, slots := 0, locals := 115 }) (va_Pc [.ref aM, .long (zWv ks), .int (nI pl), .int (nI mm)] (PW G (dC, dI) [(kMT, .byte), (kNx, .int)] [(aM, .inr (4, [.int th, .ref aMT, .int (nI mu), .ref aNw, .ref aNx, .int mw, .int mwa, .int (nI ma), .int (nI en), .long mv, .int mf, .int ml])), (aMT, .inl (kMT, 65536, .inl B)), (aNx, .inl (kNx, 52650, .inl nx))] sz)) (va_Qi (fun (r : Int32) (uu : Nat × Int32 × Int32 × Int64 × Int32 × (Nat → Int32) × Int32) => (r = 1 ∧ uu.1 ≤ en ∧ uu.2.1 = mw ∧ uu.2.2.1 = mwa ∧ ∃ n, (zB (zKey B en (zSb ks) (zK B en ma)) fun h1 => zList B en false false 3 3 pl (-nI mm) (nI mm) h1 nx) = .ok (n, zK B en uu.1, uu.2.2.2.2.2.1) ∧ uu.2.2.2.2.2.2 = nI n) ∨ (r = 0 ∧ uu.1 ≤ en ∧ ∃ k, (zB (zKey B en (zSb ks) (zK B en ma)) fun h1 => zList B en false false 3 3 pl (-nI mm) (nI mm) h1 nx) = .error (uu.2.1, k) ∧ uu.2.2.1 = nI k)) (fun (uu : Nat × Int32 × Int32 × Int64 × Int32 × (Nat → Int32) × Int32) t => BW (dC, dI) [(aM, .inr (4, [.int th, .ref aMT, .int (nI mu), .ref aNw, .ref aNx, .int uu.2.1, .int uu.2.2.1, .int (nI uu.1), .int (nI en), .long uu.2.2.2.1, .int uu.2.2.2.2.1, .int uu.2.2.2.2.2.2])), (aMT, .inl (kMT, 65536, .inl B)), (aNx, .inl (kNx, 52650, .inl uu.2.2.2.2.2.1))] (va_A [(aM, .inr (4, [.int th, .ref aMT, .int (nI mu), .ref aNw, .ref aNx, .int mw, .int mwa, .int (nI ma), .int (nI en), .long mv, .int mf, .int ml])), (aMT, .inl (kMT, 65536, .inl B)), (aNx, .inl (kNx, 52650, .inl nx))] sz) sz t) (va_A [(aM, .inr (4, [.int th, .ref aMT, .int (nI mu), .ref aNw, .ref aNx, .int mw, .int mwa, .int (nI ma), .int (nI en), .long mv, .int mf, .int ml])), (aMT, .inl (kMT, 65536, .inl B)), (aNx, .inl (kNx, 52650, .inl nx))] sz)) 0 0 (va_A [(aM, .inr (4, [.int th, .ref aMT, .int (nI mu), .ref aNw, .ref aNx, .int mw, .int mwa, .int (nI ma), .int (nI en), .long mv, .int mf, .int ml])), (aMT, .inl (kMT, 65536, .inl B)), (aNx, .inl (kNx, 52650, .inl nx))] sz) := by
  refine Met.ofW (cc := prog_6_method_19_code) (maxL := 5) (ret := (some .boolean)) (by decide) rfl ?_
  intro p e s m args below meth c s₁ Bd hml hv
  obtain ⟨rfl, hsz, hP, hK, hD0, hE⟩ := hv
  have hx := Bd.exec
  have hb := Bd.bytes
  have hr := Bd.returns
  have hts := atoms_spec (ws := w_Md_three) Bd.pre
  have hown : s.vm.findClass R_Md = some m.cls := findClass_of_methodNamed Bd.named
  have hlocks := Bd.notSynchronized
  have hz : ∀ w ∈ ZW, w.before _ s = true := fun w h => hts w (List.mem_cons_of_mem _ h)
  subst hsz
  have hD := hD0.self (sz := s.heap.size)
  generalize hAe : va_A [(aM, .inr (4, [.int th, .ref aMT, .int (nI mu), .ref aNw, .ref aNx, .int mw, .int mwa, .int (nI ma), .int (nI en), .long mv, .int mf, .int ml])), (aMT, .inl (kMT, 65536, .inl B)), (aNx, .inl (kNx, 52650, .inl nx))] s.heap.size = A at hD hE ⊢
  have hA : ∀ q : Nat, s.heap.size ≤ q → A q := fun q h => by rw [← hAe]; exact Or.inr h
  have hS : va_S A s.heap s.heap [] := va_S.rf
  have hl := lv_entry ([.ref aM, .long (zWv ks), .int (nI pl), .int (nI mm)]) (n := 5) (Nat.le_of_ble_eq_true rfl)
  rw [lg_entry_eq]
  generalize (lg_sl ([.ref aM, .long (zWv ks), .int (nI pl), .int (nI mm)]) ++ List.replicate (5 - (lg_sl ([.ref aM, .long (zWv ks), .int (nI pl), .int (nI mm)])).length) Slot.unset).toArray = ls at hl ⊢
  have hl : lv_has ls 5 [(0, .ref aM), (1, .long (zWv ks)), (3, .int (nI pl)), (4, .int (nI mm))] := hl
  obtain ⟨H, hH⟩ : ∃ z, z = s.heap := ⟨_, rfl⟩
  have hP : va_P (dC, dI) vwCl [(aM, .inr (4, [.int th, .ref aMT, .int (nI mu), .ref aNw, .ref aNx, .int mw, .int mwa, .int (nI ma), .int (nI en), .long mv, .int mf, .int ml])), (aMT, .inl (kMT, 65536, .inl B)), (aNx, .inl (kNx, 52650, .inl nx))] H := by rw [hH]; exact hP
  have hS : va_S A s.heap H [] := by rw [hH]; exact hS
  refine zt_heap hH ?_
  refine lv_aload_n hx hb d_Md_three_0 rfl (lv_at hl 0 rfl) ?_
  refine lv_lload_n hx hb d_Md_three_1 rfl (lv_at hl 1 rfl) ?_
  refine lv_iload_n hx hb d_Md_three_2 rfl (lv_at hl 2 rfl) ?_
  refine lv_iconst (v := 3) hx hb d_Md_three_3 (by decide) ?_
  refine lv_iconst (v := 3) hx hb d_Md_three_4 (by decide) ?_
  refine lv_iconst (v := 1) hx hb d_Md_three_5 (by decide) ?_
  refine lv_iload hx hb d_Md_three_6 (lv_at hl 3 rfl) ?_
  refine lv_ineg hx hb d_Md_three_8 ?_
  refine lv_iload hx hb d_Md_three_9 (lv_at hl 3 rfl) ?_
  refine lv_iconst (v := 0) hx hb d_Md_three_11 (by decide) ?_
  have hPc := hP.sub (ws' := [(aM, .inr (4, [.int th, .ref aMT, .int (nI mu), .ref aNw, .ref aNx, .int mw, .int mwa, .int (nI ma), .int (nI en), .long mv, .int mf, .int ml])), (aMT, .inl (kMT, 65536, .inl B)), (aNx, .inl (kNx, 52650, .inl nx))]) [0, 1, 2] rfl
  have hDc := hD.sub (ws' := [(aM, .inr (4, [.int th, .ref aMT, .int (nI mu), .ref aNw, .ref aNx, .int mw, .int mwa, .int (nI ma), .int (nI en), .long mv, .int mf, .int ml])), (aMT, .inl (kMT, 65536, .inl B)), (aNx, .inl (kNx, 52650, .inl nx))]) [0, 1, 2] (by decide) rfl
  have hKc := hK.sub (tys' := [(kMT, .byte), (kNx, .int)]) [0, 1] rfl
  have hFc := va_free (wc := [(aM, .inr (4, [.int th, .ref aMT, .int (nI mu), .ref aNw, .ref aNx, .int mw, .int mwa, .int (nI ma), .int (nI en), .long mv, .int mf, .int ml])), (aMT, .inl (kMT, 65536, .inl B)), (aNx, .inl (kNx, 52650, .inl nx))]) hD hS hA [0, 1, 2] rfl
  refine va_calli (va_runV (As := [.long (zWv ks), .int (nI pl), .int (nI 3), .int (nI 3), .int (nI 1), .int (-(nI mm)), .int (nI mm), .int 0]) (rest := []) ⟨hx, hb, hml, hown, hts⟩ (c_Md_list l G dC dI H.size aM th aMT mu aNw aNx mw mwa ma en mv mf ml kMT B kNx nx ks pl 3 3 1 (-(nI mm)) (nI mm) 0 (by omega) (by omega) hks1 hks (zSb_len _) (by omega) (by omega) (by omega) (Or.inl rfl) (Or.inl rfl) (by rw [sb_negT (by omega)]; omega) (by rw [sb_negT (by omega)]; omega) (by rw [nI_toInt (by omega)]; omega) (by rw [nI_toInt (by omega)]; omega)) (cwV 8 hts (gV tw_592 tw_594 ts_30 tw_5 tw_595 rfl) rfl rfl rfl (by decide +kernel) ⟨Nat.le_of_ble_eq_true rfl, Nat.le_of_ble_eq_true rfl⟩) (PW_preV hPc hKc hDc hE hS hFc (ci := 4) (q0 := 0) rfl rfl) rfl rfl hl.1 rfl (lv_room (Nat.le_of_ble_eq_true rfl)) d_Md_three_12 ⟨Nat.le_of_ble_eq_true rfl, Nat.le_of_ble_eq_true rfl⟩) hS (fun q _ h => hFc q h) hFc (fun r_1 uu t H1 locs ht hvm hw_9 hB hz1 hk1 hS => ?_)
  obtain ⟨ma_2, mw_3, mwa_4, mv_5, mf_6, nx_7, ml_8⟩ := uu
  obtain ⟨hP1, hD1, hsz1⟩ := hB
  rw [ht] at hP1 hsz1
  obtain ⟨hP, hD⟩ := va_join (wr := []) (w1 := [(aM, .inr (4, [.int th, .ref aMT, .int (nI mu), .ref aNw, .ref aNx, .int mw_3, .int mwa_4, .int (nI ma_2), .int (nI en), .long mv_5, .int mf_6, .int ml_8])), (aMT, .inl (kMT, 65536, .inl B)), (aNx, .inl (kNx, 52650, .inl nx_7))]) hP hD [0, 1, 2] [] rfl rfl (by decide) (by decide) hk1 hFc hP1 hD1
  generalize H1 = H at hP hS ⊢
  have hP : va_P (dC, dI) vwCl [(aM, .inr (4, [.int th, .ref aMT, .int (nI mu), .ref aNw, .ref aNx, .int mw_3, .int mwa_4, .int (nI ma_2), .int (nI en), .long mv_5, .int mf_6, .int ml_8])), (aMT, .inl (kMT, 65536, .inl B)), (aNx, .inl (kNx, 52650, .inl nx_7))] H := hP
  have hD : va_D A [(aM, .inr (4, [.int th, .ref aMT, .int (nI mu), .ref aNw, .ref aNx, .int mw_3, .int mwa_4, .int (nI ma_2), .int (nI en), .long mv_5, .int mf_6, .int ml_8])), (aMT, .inl (kMT, 65536, .inl B)), (aNx, .inl (kNx, 52650, .inl nx_7))] := hD
  simp only [zf01, zf11, zg13, zg33, decide_true, decide_false] at hw_9
  rcases hw_9 with ⟨rfl, hw_9b, e1, e2, hw_9n, hw_9a, e3⟩ | ⟨rfl, hw_9b, hw_9k, hw_9a, e2⟩
  ·
    have e1 := e1.symm; subst e1
    have e2 := e2.symm; subst e2
    have e3 := e3.symm; subst e3
    refine zt_size (fun hzs => ?_)
    have hP9 := hP.sub (ws' := [(aM, .inr (4, [.int th, .ref aMT, .int (nI mu), .ref aNw, .ref aNx, .int mw, .int mwa, .int (nI ma_2), .int (nI en), .long mv_5, .int mf_6, .int (nI hw_9n)])), (aMT, .inl (kMT, 65536, .inl B)), (aNx, .inl (kNx, 52650, .inl nx_7))]) [0, 1, 2] rfl
    have hD9 := hD.sub (ws' := [(aM, .inr (4, [.int th, .ref aMT, .int (nI mu), .ref aNw, .ref aNx, .int mw, .int mwa, .int (nI ma_2), .int (nI en), .long mv_5, .int mf_6, .int (nI hw_9n)])), (aMT, .inl (kMT, 65536, .inl B)), (aNx, .inl (kNx, 52650, .inl nx_7))]) [0, 1, 2] (by decide) rfl
    exact W.zret (v := 1) hx hb hr rfl (fun t ht hW => ⟨⟨1, (ma_2, mw, mwa, mv_5, mf_6, nx_7, nI hw_9n), rfl, Or.inl ⟨rfl, by omega, rfl, rfl, _, hw_9a, rfl⟩, by rw [ht]; exact hP9, hD9, by rw [ht]; exact hzs⟩, hS.F ht⟩) hS.2.2 d_Md_three_15
  ·
    have e2 := e2.symm; subst e2
    refine zt_size (fun hzs => ?_)
    have hP9 := hP.sub (ws' := [(aM, .inr (4, [.int th, .ref aMT, .int (nI mu), .ref aNw, .ref aNx, .int mw_3, .int (nI hw_9k), .int (nI ma_2), .int (nI en), .long mv_5, .int mf_6, .int ml_8])), (aMT, .inl (kMT, 65536, .inl B)), (aNx, .inl (kNx, 52650, .inl nx_7))]) [0, 1, 2] rfl
    have hD9 := hD.sub (ws' := [(aM, .inr (4, [.int th, .ref aMT, .int (nI mu), .ref aNw, .ref aNx, .int mw_3, .int (nI hw_9k), .int (nI ma_2), .int (nI en), .long mv_5, .int mf_6, .int ml_8])), (aMT, .inl (kMT, 65536, .inl B)), (aNx, .inl (kNx, 52650, .inl nx_7))]) [0, 1, 2] (by decide) rfl
    exact W.zret (v := 0) hx hb hr rfl (fun t ht hW => ⟨⟨0, (ma_2, mw_3, nI hw_9k, mv_5, mf_6, nx_7, ml_8), rfl, Or.inr ⟨rfl, by omega, _, hw_9a, rfl⟩, by rw [ht]; exact hP9, hD9, by rw [ht]; exact hzs⟩, hS.F ht⟩) hS.2.2 d_Md_three_15
def mLight (B : Nat → Int32) (en : Nat) (s : Nat × (Nat → Int32)) : Except (Int32 × Nat) (Nat × (Nat → Int32)) := zB (zMust B en 123 s.1) fun h0 => zB (mListK B en (zSb 11) false false 3 3 52639 (-nI 65536) (nI 65536) (h0, s.2)) fun a => zB (zMust B en 44 a.2.1) fun h1 => zB (mNumK B en (zSb 12) 52642 0 65536 (h1, a.2.2)) fun b => zB (zMust B en 125 b.2.1) fun h2 => .ok (h2, b.2.2)
def mCamera (B : Nat → Int32) (en : Nat) (s : Nat × (Nat → Int32)) : Except (Int32 × Nat) (Nat × (Nat → Int32)) := zB (zMust B en 123 s.1) fun h0 => zB (mListK B en (zSb 8) false false 3 3 52632 (-nI 4194304) (nI 4194304) (h0, s.2)) fun a => zB (zMust B en 44 a.2.1) fun h1 => zB (mListK B en (zSb 9) false false 3 3 52635 (-nI 1048576) (nI 1048576) (h1, a.2.2)) fun b => zB (zMust B en 44 b.2.1) fun h2 => zB (mNumK B en (zSb 10) 52638 8 512 (h2, b.2.2)) fun d => zB (zMust B en 125 d.2.1) fun h3 => .ok (h3, d.2.2)
set_option maxHeartbeats 4000000 in
set_option maxRecDepth 100000 in
theorem c_Md_light (l : Launch) (G : ZG) (dC : Nat → ClassId) (dI : Nat → Nat → Nat) (sz : Nat) (aM : Nat) (th : Int32) (aMT : Nat) (mu : Nat) (aNw : Nat) (aNx : Nat) (mw : Int32) (mwa : Int32) (ma : Nat) (en : Nat) (mv : Int64) (mf : Int32) (ml : Int32) (kMT : ClassId) (B : Nat → Int32) (kNx : ClassId) (nx : Nat → Int32) (hen : en ≤ 65536) (hma : ma ≤ en) : Met l y_Md_light w_Md_light ({ frames := 6, cells := 0, slots := 0, locals := 139 }) (va_Pc [.ref aM] (PW G (dC, dI) [(kMT, .byte), (kNx, .int)] [(aM, .inr (4, [.int th, .ref aMT, .int (nI mu), .ref aNw, .ref aNx, .int mw, .int mwa, .int (nI ma), .int (nI en), .long mv, .int mf, .int ml])), (aMT, .inl (kMT, 65536, .inl B)), (aNx, .inl (kNx, 52650, .inl nx))] sz)) (va_Qi (fun (r : Int32) (uu : Nat × Int32 × Int32 × Int64 × Int32 × (Nat → Int32) × Int32) => (r = 1 ∧ uu.1 ≤ en ∧ uu.2.1 = mw ∧ uu.2.2.1 = mwa ∧ mLight B en (zK B en ma, nx) = .ok (zK B en uu.1, uu.2.2.2.2.2.1)) ∨ (r = 0 ∧ uu.1 ≤ en ∧ ∃ k, mLight B en (zK B en ma, nx) = .error (uu.2.1, k) ∧ uu.2.2.1 = nI k)) (fun (uu : Nat × Int32 × Int32 × Int64 × Int32 × (Nat → Int32) × Int32) t => BW (dC, dI) [(aM, .inr (4, [.int th, .ref aMT, .int (nI mu), .ref aNw, .ref aNx, .int uu.2.1, .int uu.2.2.1, .int (nI uu.1), .int (nI en), .long uu.2.2.2.1, .int uu.2.2.2.2.1, .int uu.2.2.2.2.2.2])), (aMT, .inl (kMT, 65536, .inl B)), (aNx, .inl (kNx, 52650, .inl uu.2.2.2.2.2.1))] (va_A [(aM, .inr (4, [.int th, .ref aMT, .int (nI mu), .ref aNw, .ref aNx, .int mw, .int mwa, .int (nI ma), .int (nI en), .long mv, .int mf, .int ml])), (aMT, .inl (kMT, 65536, .inl B)), (aNx, .inl (kNx, 52650, .inl nx))] sz) sz t) (va_A [(aM, .inr (4, [.int th, .ref aMT, .int (nI mu), .ref aNw, .ref aNx, .int mw, .int mwa, .int (nI ma), .int (nI en), .long mv, .int mf, .int ml])), (aMT, .inl (kMT, 65536, .inl B)), (aNx, .inl (kNx, 52650, .inl nx))] sz)) 0 0 (va_A [(aM, .inr (4, [.int th, .ref aMT, .int (nI mu), .ref aNw, .ref aNx, .int mw, .int mwa, .int (nI ma), .int (nI en), .long mv, .int mf, .int ml])), (aMT, .inl (kMT, 65536, .inl B)), (aNx, .inl (kNx, 52650, .inl nx))] sz) := by
  refine Met.ofW (cc := prog_6_method_28_code) (maxL := 1) (ret := (some .boolean)) (by decide) rfl ?_
  intro p e s m args below meth c s₁ Bd hml hv
  obtain ⟨rfl, hsz, hP, hK, hD0, hE⟩ := hv
  have hx := Bd.exec
  have hb := Bd.bytes
  have hr := Bd.returns
  have hts := atoms_spec (ws := w_Md_light) Bd.pre
  have hown : s.vm.findClass R_Md = some m.cls := findClass_of_methodNamed Bd.named
  have hlocks := Bd.notSynchronized
  have hz : ∀ w ∈ ZW, w.before _ s = true := fun w h => hts w (List.mem_cons_of_mem _ h)
  subst hsz
  have hD := hD0.self (sz := s.heap.size)
  generalize hAe : va_A [(aM, .inr (4, [.int th, .ref aMT, .int (nI mu), .ref aNw, .ref aNx, .int mw, .int mwa, .int (nI ma), .int (nI en), .long mv, .int mf, .int ml])), (aMT, .inl (kMT, 65536, .inl B)), (aNx, .inl (kNx, 52650, .inl nx))] s.heap.size = A at hD hE ⊢
  have hA : ∀ q : Nat, s.heap.size ≤ q → A q := fun q h => by rw [← hAe]; exact Or.inr h
  have hS : va_S A s.heap s.heap [] := va_S.rf
  have hl := lv_entry ([.ref aM]) (n := 1) (Nat.le_of_ble_eq_true rfl)
  rw [lg_entry_eq]
  generalize (lg_sl ([.ref aM]) ++ List.replicate (1 - (lg_sl ([.ref aM])).length) Slot.unset).toArray = ls at hl ⊢
  have hl : lv_has ls 1 [(0, .ref aM)] := hl
  obtain ⟨H, hH⟩ : ∃ z, z = s.heap := ⟨_, rfl⟩
  have hP : va_P (dC, dI) vwCl [(aM, .inr (4, [.int th, .ref aMT, .int (nI mu), .ref aNw, .ref aNx, .int mw, .int mwa, .int (nI ma), .int (nI en), .long mv, .int mf, .int ml])), (aMT, .inl (kMT, 65536, .inl B)), (aNx, .inl (kNx, 52650, .inl nx))] H := by rw [hH]; exact hP
  have hS : va_S A s.heap H [] := by rw [hH]; exact hS
  refine zt_heap hH ?_
  refine lv_aload_n hx hb d_Md_light_0 rfl (lv_at hl 0 rfl) ?_
  refine lv_bipush (v := 123) hx hb d_Md_light_1 (by decide) ?_
  have hPc := hP.sub (ws' := [(aM, .inr (4, [.int th, .ref aMT, .int (nI mu), .ref aNw, .ref aNx, .int mw, .int mwa, .int (nI ma), .int (nI en), .long mv, .int mf, .int ml])), (aMT, .inl (kMT, 65536, .inl B))]) [0, 1] rfl
  have hDc := hD.sub (ws' := [(aM, .inr (4, [.int th, .ref aMT, .int (nI mu), .ref aNw, .ref aNx, .int mw, .int mwa, .int (nI ma), .int (nI en), .long mv, .int mf, .int ml])), (aMT, .inl (kMT, 65536, .inl B))]) [0, 1] (by decide) rfl
  have hKc := hK.sub (tys' := [(kMT, .byte)]) [0] rfl
  have hFc := va_free (wc := [(aM, .inr (4, [.int th, .ref aMT, .int (nI mu), .ref aNw, .ref aNx, .int mw, .int mwa, .int (nI ma), .int (nI en), .long mv, .int mf, .int ml])), (aMT, .inl (kMT, 65536, .inl B))]) hD hS hA [0, 1] rfl
  refine va_calli (va_runV (As := [.int 123]) (rest := []) ⟨hx, hb, hml, hown, hts⟩ (c_Md_sign l G dC dI H.size aM th aMT mu aNw aNx mw mwa ma en mv mf ml kMT B 123 (by omega) (by omega)) (cwV 1 hts (gV tw_537 tw_539 ts_20 tw_5 tw_540 rfl) rfl rfl rfl (by decide +kernel) ⟨Nat.le_of_ble_eq_true rfl, Nat.le_of_ble_eq_true rfl⟩) (PW_preV hPc hKc hDc hE hS hFc (ci := 4) (q0 := 0) rfl rfl) rfl rfl hl.1 rfl (lv_room (Nat.le_of_ble_eq_true rfl)) d_Md_light_3 ⟨Nat.le_of_ble_eq_true rfl, Nat.le_of_ble_eq_true rfl⟩) hS (fun q _ h => hFc q h) hFc (fun r_1 uu t H1 locs ht hvm hw_5 hB hz1 hk1 hS => ?_)
  obtain ⟨ma_2, mw_3, mwa_4⟩ := uu
  obtain ⟨hP1, hD1, hsz1⟩ := hB
  rw [ht] at hP1 hsz1
  obtain ⟨hP, hD⟩ := va_join (wr := [(aNx, .inl (kNx, 52650, .inl nx))]) (w1 := [(aM, .inr (4, [.int th, .ref aMT, .int (nI mu), .ref aNw, .ref aNx, .int mw_3, .int mwa_4, .int (nI ma_2), .int (nI en), .long mv, .int mf, .int ml])), (aMT, .inl (kMT, 65536, .inl B))]) hP hD [0, 1] [2] rfl rfl (by decide) (by decide) hk1 hFc hP1 hD1
  generalize H1 = H at hP hS ⊢
  have hP : va_P (dC, dI) vwCl [(aNx, .inl (kNx, 52650, .inl nx)), (aM, .inr (4, [.int th, .ref aMT, .int (nI mu), .ref aNw, .ref aNx, .int mw_3, .int mwa_4, .int (nI ma_2), .int (nI en), .long mv, .int mf, .int ml])), (aMT, .inl (kMT, 65536, .inl B))] H := hP
  have hD : va_D A [(aNx, .inl (kNx, 52650, .inl nx)), (aM, .inr (4, [.int th, .ref aMT, .int (nI mu), .ref aNw, .ref aNx, .int mw_3, .int mwa_4, .int (nI ma_2), .int (nI en), .long mv, .int mf, .int ml])), (aMT, .inl (kMT, 65536, .inl B))] := hD
  rcases hw_5 with ⟨rfl, hw_5a, hw_5b, e1, e2⟩ | ⟨rfl, hw_5b, hw_5k, hw_5a, e2⟩
  ·
    have e1 := e1.symm; subst e1
    have e2 := e2.symm; subst e2
    refine lv_if_eq (tgt := 60) hx hb d_Md_light_6 (by decide) (fun c_6 => ?_) (fun c_6 => ?_)
    ·
      exact absurd c_6 (by decide)
    ·
      refine lv_aload_n hx hb d_Md_light_9 rfl (lv_at hl 0 rfl) ?_
      refine lv_ldc2 (v := zWv 11) hx hb hown (hz _ tw_623) d_Md_light_10 ?_
      refine lv_ldc (v := 52639) hx hb hown (hz _ tw_624) d_Md_light_13 ?_
      refine lv_ldc (v := 65536) hx hb hown (hz _ tw_466) d_Md_light_15 ?_
      have hPc := hP.sub (ws' := [(aM, .inr (4, [.int th, .ref aMT, .int (nI mu), .ref aNw, .ref aNx, .int mw, .int mwa, .int (nI ma_2), .int (nI en), .long mv, .int mf, .int ml])), (aMT, .inl (kMT, 65536, .inl B)), (aNx, .inl (kNx, 52650, .inl nx))]) [1, 2, 0] rfl
      have hDc := hD.sub (ws' := [(aM, .inr (4, [.int th, .ref aMT, .int (nI mu), .ref aNw, .ref aNx, .int mw, .int mwa, .int (nI ma_2), .int (nI en), .long mv, .int mf, .int ml])), (aMT, .inl (kMT, 65536, .inl B)), (aNx, .inl (kNx, 52650, .inl nx))]) [1, 2, 0] (by decide) rfl
      have hKc := hK.sub (tys' := [(kMT, .byte), (kNx, .int)]) [0, 1] rfl
      have hFc := va_free (wc := [(aM, .inr (4, [.int th, .ref aMT, .int (nI mu), .ref aNw, .ref aNx, .int mw, .int mwa, .int (nI ma_2), .int (nI en), .long mv, .int mf, .int ml])), (aMT, .inl (kMT, 65536, .inl B)), (aNx, .inl (kNx, 52650, .inl nx))]) hD hS hA [1, 2, 0] rfl
      refine va_calli (va_runV (As := [.long (zWv 11), .int (nI 52639), .int (nI 65536)]) (rest := []) ⟨hx, hb, hml, hown, hts⟩ (c_Md_three l G dC dI H.size aM th aMT mu aNw aNx mw mwa ma_2 en mv mf ml kMT B kNx nx 11 52639 65536 (by omega) (by omega) (by decide) (by decide) (zSb_len _) (by omega) (by omega)) (cwV 3 hts (gV tw_588 tw_590 ts_29 tw_5 tw_591 rfl) rfl rfl rfl (by decide +kernel) ⟨Nat.le_of_ble_eq_true rfl, Nat.le_of_ble_eq_true rfl⟩) (PW_preV hPc hKc hDc hE hS hFc (ci := 4) (q0 := 0) rfl rfl) rfl rfl hl.1 rfl (lv_room (Nat.le_of_ble_eq_true rfl)) d_Md_light_17 ⟨Nat.le_of_ble_eq_true rfl, Nat.le_of_ble_eq_true rfl⟩) hS (fun q _ h => hFc q h) hFc (fun r_7 uu t H1 locs ht hvm hw_15 hB hz1 hk1 hS => ?_)
      obtain ⟨ma_8, mw_9, mwa_10, mv_11, mf_12, nx_13, ml_14⟩ := uu
      obtain ⟨hP1, hD1, hsz1⟩ := hB
      rw [ht] at hP1 hsz1
      obtain ⟨hP, hD⟩ := va_join (wr := []) (w1 := [(aM, .inr (4, [.int th, .ref aMT, .int (nI mu), .ref aNw, .ref aNx, .int mw_9, .int mwa_10, .int (nI ma_8), .int (nI en), .long mv_11, .int mf_12, .int ml_14])), (aMT, .inl (kMT, 65536, .inl B)), (aNx, .inl (kNx, 52650, .inl nx_13))]) hP hD [1, 2, 0] [] rfl rfl (by decide) (by decide) hk1 hFc hP1 hD1
      generalize H1 = H at hP hS ⊢
      have hP : va_P (dC, dI) vwCl [(aM, .inr (4, [.int th, .ref aMT, .int (nI mu), .ref aNw, .ref aNx, .int mw_9, .int mwa_10, .int (nI ma_8), .int (nI en), .long mv_11, .int mf_12, .int ml_14])), (aMT, .inl (kMT, 65536, .inl B)), (aNx, .inl (kNx, 52650, .inl nx_13))] H := hP
      have hD : va_D A [(aM, .inr (4, [.int th, .ref aMT, .int (nI mu), .ref aNw, .ref aNx, .int mw_9, .int mwa_10, .int (nI ma_8), .int (nI en), .long mv_11, .int mf_12, .int ml_14])), (aMT, .inl (kMT, 65536, .inl B)), (aNx, .inl (kNx, 52650, .inl nx_13))] := hD
      simp only [zf01, zf11, zg13, zg33, decide_true, decide_false] at hw_15
      rcases hw_15 with ⟨rfl, hw_15b, e1, e2, hw_15n, hw_15a, e3⟩ | ⟨rfl, hw_15b, hw_15k, hw_15a, e2⟩
      ·
        have e1 := e1.symm; subst e1
        have e2 := e2.symm; subst e2
        have e3 := e3.symm; subst e3
        refine lv_if_eq (tgt := 60) hx hb d_Md_light_20 (by decide) (fun c_16 => ?_) (fun c_16 => ?_)
        ·
          exact absurd c_16 (by decide)
        ·
          refine lv_aload_n hx hb d_Md_light_23 rfl (lv_at hl 0 rfl) ?_
          refine lv_bipush (v := 44) hx hb d_Md_light_24 (by decide) ?_
          have hPc := hP.sub (ws' := [(aM, .inr (4, [.int th, .ref aMT, .int (nI mu), .ref aNw, .ref aNx, .int mw, .int mwa, .int (nI ma_8), .int (nI en), .long mv_11, .int mf_12, .int (nI hw_15n)])), (aMT, .inl (kMT, 65536, .inl B))]) [0, 1] rfl
          have hDc := hD.sub (ws' := [(aM, .inr (4, [.int th, .ref aMT, .int (nI mu), .ref aNw, .ref aNx, .int mw, .int mwa, .int (nI ma_8), .int (nI en), .long mv_11, .int mf_12, .int (nI hw_15n)])), (aMT, .inl (kMT, 65536, .inl B))]) [0, 1] (by decide) rfl
          have hKc := hK.sub (tys' := [(kMT, .byte)]) [0] rfl
          have hFc := va_free (wc := [(aM, .inr (4, [.int th, .ref aMT, .int (nI mu), .ref aNw, .ref aNx, .int mw, .int mwa, .int (nI ma_8), .int (nI en), .long mv_11, .int mf_12, .int (nI hw_15n)])), (aMT, .inl (kMT, 65536, .inl B))]) hD hS hA [0, 1] rfl
          refine va_calli (va_runV (As := [.int 44]) (rest := []) ⟨hx, hb, hml, hown, hts⟩ (c_Md_sign l G dC dI H.size aM th aMT mu aNw aNx mw mwa ma_8 en mv_11 mf_12 (nI hw_15n) kMT B 44 (by omega) (by omega)) (cwV 1 hts (gV tw_537 tw_539 ts_20 tw_5 tw_540 rfl) rfl rfl rfl (by decide +kernel) ⟨Nat.le_of_ble_eq_true rfl, Nat.le_of_ble_eq_true rfl⟩) (PW_preV hPc hKc hDc hE hS hFc (ci := 4) (q0 := 0) rfl rfl) rfl rfl hl.1 rfl (lv_room (Nat.le_of_ble_eq_true rfl)) d_Md_light_26 ⟨Nat.le_of_ble_eq_true rfl, Nat.le_of_ble_eq_true rfl⟩) hS (fun q _ h => hFc q h) hFc (fun r_17 uu t H1 locs ht hvm hw_21 hB hz1 hk1 hS => ?_)
          obtain ⟨ma_18, mw_19, mwa_20⟩ := uu
          obtain ⟨hP1, hD1, hsz1⟩ := hB
          rw [ht] at hP1 hsz1
          obtain ⟨hP, hD⟩ := va_join (wr := [(aNx, .inl (kNx, 52650, .inl nx_13))]) (w1 := [(aM, .inr (4, [.int th, .ref aMT, .int (nI mu), .ref aNw, .ref aNx, .int mw_19, .int mwa_20, .int (nI ma_18), .int (nI en), .long mv_11, .int mf_12, .int (nI hw_15n)])), (aMT, .inl (kMT, 65536, .inl B))]) hP hD [0, 1] [2] rfl rfl (by decide) (by decide) hk1 hFc hP1 hD1
          generalize H1 = H at hP hS ⊢
          have hP : va_P (dC, dI) vwCl [(aNx, .inl (kNx, 52650, .inl nx_13)), (aM, .inr (4, [.int th, .ref aMT, .int (nI mu), .ref aNw, .ref aNx, .int mw_19, .int mwa_20, .int (nI ma_18), .int (nI en), .long mv_11, .int mf_12, .int (nI hw_15n)])), (aMT, .inl (kMT, 65536, .inl B))] H := hP
          have hD : va_D A [(aNx, .inl (kNx, 52650, .inl nx_13)), (aM, .inr (4, [.int th, .ref aMT, .int (nI mu), .ref aNw, .ref aNx, .int mw_19, .int mwa_20, .int (nI ma_18), .int (nI en), .long mv_11, .int mf_12, .int (nI hw_15n)])), (aMT, .inl (kMT, 65536, .inl B))] := hD
          rcases hw_21 with ⟨rfl, hw_21a, hw_21b, e1, e2⟩ | ⟨rfl, hw_21b, hw_21k, hw_21a, e2⟩
          ·
            have e1 := e1.symm; subst e1
            have e2 := e2.symm; subst e2
            refine lv_if_eq (tgt := 60) hx hb d_Md_light_29 (by decide) (fun c_22 => ?_) (fun c_22 => ?_)
            ·
              exact absurd c_22 (by decide)
            ·
              refine lv_aload_n hx hb d_Md_light_32 rfl (lv_at hl 0 rfl) ?_
              refine lv_ldc2 (v := zWv 12) hx hb hown (hz _ tw_625) d_Md_light_33 ?_
              refine lv_ldc (v := 52642) hx hb hown (hz _ tw_475) d_Md_light_36 ?_
              refine lv_iconst (v := 0) hx hb d_Md_light_38 (by decide) ?_
              refine lv_ldc (v := 65536) hx hb hown (hz _ tw_466) d_Md_light_39 ?_
              have hPc := hP.sub (ws' := [(aM, .inr (4, [.int th, .ref aMT, .int (nI mu), .ref aNw, .ref aNx, .int mw, .int mwa, .int (nI ma_18), .int (nI en), .long mv_11, .int mf_12, .int (nI hw_15n)])), (aMT, .inl (kMT, 65536, .inl B)), (aNx, .inl (kNx, 52650, .inl nx_13))]) [1, 2, 0] rfl
              have hDc := hD.sub (ws' := [(aM, .inr (4, [.int th, .ref aMT, .int (nI mu), .ref aNw, .ref aNx, .int mw, .int mwa, .int (nI ma_18), .int (nI en), .long mv_11, .int mf_12, .int (nI hw_15n)])), (aMT, .inl (kMT, 65536, .inl B)), (aNx, .inl (kNx, 52650, .inl nx_13))]) [1, 2, 0] (by decide) rfl
              have hKc := hK.sub (tys' := [(kMT, .byte), (kNx, .int)]) [0, 1] rfl
              have hFc := va_free (wc := [(aM, .inr (4, [.int th, .ref aMT, .int (nI mu), .ref aNw, .ref aNx, .int mw, .int mwa, .int (nI ma_18), .int (nI en), .long mv_11, .int mf_12, .int (nI hw_15n)])), (aMT, .inl (kMT, 65536, .inl B)), (aNx, .inl (kNx, 52650, .inl nx_13))]) hD hS hA [1, 2, 0] rfl
              refine va_calli (va_runV (As := [.long (zWv 12), .int (nI 52642), .int 0, .int 65536]) (rest := []) ⟨hx, hb, hml, hown, hts⟩ (c_Md_named l G dC dI H.size aM th aMT mu aNw aNx mw mwa ma_18 en mv_11 mf_12 (nI hw_15n) kMT B kNx nx_13 12 52642 0 65536 (by omega) (by omega) (by decide) (by decide) (zSb_len _) (by omega) (by decide) (by decide) (by decide) (by decide)) (cwV 4 hts (gV tw_611 tw_613 ts_33 tw_5 tw_614 rfl) rfl rfl rfl (by decide +kernel) ⟨Nat.le_of_ble_eq_true rfl, Nat.le_of_ble_eq_true rfl⟩) (PW_preV hPc hKc hDc hE hS hFc (ci := 4) (q0 := 0) rfl rfl) rfl rfl hl.1 rfl (lv_room (Nat.le_of_ble_eq_true rfl)) d_Md_light_41 ⟨Nat.le_of_ble_eq_true rfl, Nat.le_of_ble_eq_true rfl⟩) hS (fun q _ h => hFc q h) hFc (fun r_23 uu t H1 locs ht hvm hw_30 hB hz1 hk1 hS => ?_)
              obtain ⟨ma_24, mw_25, mwa_26, mv_27, mf_28, nx_29⟩ := uu
              obtain ⟨hP1, hD1, hsz1⟩ := hB
              rw [ht] at hP1 hsz1
              obtain ⟨hP, hD⟩ := va_join (wr := []) (w1 := [(aM, .inr (4, [.int th, .ref aMT, .int (nI mu), .ref aNw, .ref aNx, .int mw_25, .int mwa_26, .int (nI ma_24), .int (nI en), .long mv_27, .int mf_28, .int (nI hw_15n)])), (aMT, .inl (kMT, 65536, .inl B)), (aNx, .inl (kNx, 52650, .inl nx_29))]) hP hD [1, 2, 0] [] rfl rfl (by decide) (by decide) hk1 hFc hP1 hD1
              generalize H1 = H at hP hS ⊢
              have hP : va_P (dC, dI) vwCl [(aM, .inr (4, [.int th, .ref aMT, .int (nI mu), .ref aNw, .ref aNx, .int mw_25, .int mwa_26, .int (nI ma_24), .int (nI en), .long mv_27, .int mf_28, .int (nI hw_15n)])), (aMT, .inl (kMT, 65536, .inl B)), (aNx, .inl (kNx, 52650, .inl nx_29))] H := hP
              have hD : va_D A [(aM, .inr (4, [.int th, .ref aMT, .int (nI mu), .ref aNw, .ref aNx, .int mw_25, .int mwa_26, .int (nI ma_24), .int (nI en), .long mv_27, .int mf_28, .int (nI hw_15n)])), (aMT, .inl (kMT, 65536, .inl B)), (aNx, .inl (kNx, 52650, .inl nx_29))] := hD
              rcases hw_30 with ⟨rfl, hw_30b, e1, e2, hw_30v, hw_30a, e3⟩ | ⟨rfl, hw_30b, hw_30k, hw_30a, e2⟩
              ·
                have e1 := e1.symm; subst e1
                have e2 := e2.symm; subst e2
                have e3 := e3.symm; subst e3
                refine lv_if_eq (tgt := 60) hx hb d_Md_light_44 (by decide) (fun c_31 => ?_) (fun c_31 => ?_)
                ·
                  exact absurd c_31 (by decide)
                ·
                  refine lv_aload_n hx hb d_Md_light_47 rfl (lv_at hl 0 rfl) ?_
                  refine lv_bipush (v := 125) hx hb d_Md_light_48 (by decide) ?_
                  have hPc := hP.sub (ws' := [(aM, .inr (4, [.int th, .ref aMT, .int (nI mu), .ref aNw, .ref aNx, .int mw, .int mwa, .int (nI ma_24), .int (nI en), .long mv_27, .int mf_28, .int (nI hw_15n)])), (aMT, .inl (kMT, 65536, .inl B))]) [0, 1] rfl
                  have hDc := hD.sub (ws' := [(aM, .inr (4, [.int th, .ref aMT, .int (nI mu), .ref aNw, .ref aNx, .int mw, .int mwa, .int (nI ma_24), .int (nI en), .long mv_27, .int mf_28, .int (nI hw_15n)])), (aMT, .inl (kMT, 65536, .inl B))]) [0, 1] (by decide) rfl
                  have hKc := hK.sub (tys' := [(kMT, .byte)]) [0] rfl
                  have hFc := va_free (wc := [(aM, .inr (4, [.int th, .ref aMT, .int (nI mu), .ref aNw, .ref aNx, .int mw, .int mwa, .int (nI ma_24), .int (nI en), .long mv_27, .int mf_28, .int (nI hw_15n)])), (aMT, .inl (kMT, 65536, .inl B))]) hD hS hA [0, 1] rfl
                  refine va_calli (va_runV (As := [.int 125]) (rest := []) ⟨hx, hb, hml, hown, hts⟩ (c_Md_sign l G dC dI H.size aM th aMT mu aNw aNx mw mwa ma_24 en mv_27 mf_28 (nI hw_15n) kMT B 125 (by omega) (by omega)) (cwV 1 hts (gV tw_537 tw_539 ts_20 tw_5 tw_540 rfl) rfl rfl rfl (by decide +kernel) ⟨Nat.le_of_ble_eq_true rfl, Nat.le_of_ble_eq_true rfl⟩) (PW_preV hPc hKc hDc hE hS hFc (ci := 4) (q0 := 0) rfl rfl) rfl rfl hl.1 rfl (lv_room (Nat.le_of_ble_eq_true rfl)) d_Md_light_50 ⟨Nat.le_of_ble_eq_true rfl, Nat.le_of_ble_eq_true rfl⟩) hS (fun q _ h => hFc q h) hFc (fun r_32 uu t H1 locs ht hvm hw_36 hB hz1 hk1 hS => ?_)
                  obtain ⟨ma_33, mw_34, mwa_35⟩ := uu
                  obtain ⟨hP1, hD1, hsz1⟩ := hB
                  rw [ht] at hP1 hsz1
                  obtain ⟨hP, hD⟩ := va_join (wr := [(aNx, .inl (kNx, 52650, .inl (upd nx_13 52642 hw_30v)))]) (w1 := [(aM, .inr (4, [.int th, .ref aMT, .int (nI mu), .ref aNw, .ref aNx, .int mw_34, .int mwa_35, .int (nI ma_33), .int (nI en), .long mv_27, .int mf_28, .int (nI hw_15n)])), (aMT, .inl (kMT, 65536, .inl B))]) hP hD [0, 1] [2] rfl rfl (by decide) (by decide) hk1 hFc hP1 hD1
                  generalize H1 = H at hP hS ⊢
                  have hP : va_P (dC, dI) vwCl [(aNx, .inl (kNx, 52650, .inl (upd nx_13 52642 hw_30v))), (aM, .inr (4, [.int th, .ref aMT, .int (nI mu), .ref aNw, .ref aNx, .int mw_34, .int mwa_35, .int (nI ma_33), .int (nI en), .long mv_27, .int mf_28, .int (nI hw_15n)])), (aMT, .inl (kMT, 65536, .inl B))] H := hP
                  have hD : va_D A [(aNx, .inl (kNx, 52650, .inl (upd nx_13 52642 hw_30v))), (aM, .inr (4, [.int th, .ref aMT, .int (nI mu), .ref aNw, .ref aNx, .int mw_34, .int mwa_35, .int (nI ma_33), .int (nI en), .long mv_27, .int mf_28, .int (nI hw_15n)])), (aMT, .inl (kMT, 65536, .inl B))] := hD
                  rcases hw_36 with ⟨rfl, hw_36a, hw_36b, e1, e2⟩ | ⟨rfl, hw_36b, hw_36k, hw_36a, e2⟩
                  ·
                    have e1 := e1.symm; subst e1
                    have e2 := e2.symm; subst e2
                    refine lv_if_eq (tgt := 60) hx hb d_Md_light_53 (by decide) (fun c_37 => ?_) (fun c_37 => ?_)
                    ·
                      exact absurd c_37 (by decide)
                    ·
                      refine lv_iconst (v := 1) hx hb d_Md_light_56 (by decide) ?_
                      refine lv_goto (tgt := 61) hx hb d_Md_light_57 (by decide) ?_
                      refine zt_size (fun hzs => ?_)
                      have hP9 := hP.sub (ws' := [(aM, .inr (4, [.int th, .ref aMT, .int (nI mu), .ref aNw, .ref aNx, .int mw, .int mwa, .int (nI ma_33), .int (nI en), .long mv_27, .int mf_28, .int (nI hw_15n)])), (aMT, .inl (kMT, 65536, .inl B)), (aNx, .inl (kNx, 52650, .inl (upd nx_13 52642 hw_30v)))]) [1, 2, 0] rfl
                      have hD9 := hD.sub (ws' := [(aM, .inr (4, [.int th, .ref aMT, .int (nI mu), .ref aNw, .ref aNx, .int mw, .int mwa, .int (nI ma_33), .int (nI en), .long mv_27, .int mf_28, .int (nI hw_15n)])), (aMT, .inl (kMT, 65536, .inl B)), (aNx, .inl (kNx, 52650, .inl (upd nx_13 52642 hw_30v)))]) [1, 2, 0] (by decide) rfl
                      exact W.zret (v := 1) hx hb hr rfl (fun t ht hW => ⟨⟨1, (ma_33, mw, mwa, mv_27, mf_28, upd nx_13 52642 hw_30v, nI hw_15n), rfl, Or.inl ⟨rfl, by omega, rfl, rfl, by simp only [mLight, mListK, mNumK, zB_ok, hw_5a, hw_15a, hw_21a, hw_30a, hw_36a]⟩, by rw [ht]; exact hP9, hD9, by rw [ht]; exact hzs⟩, hS.F ht⟩) hS.2.2 d_Md_light_61
                  ·
                    have e2 := e2.symm; subst e2
                    refine lv_if_eq (tgt := 60) hx hb d_Md_light_53 (by decide) (fun c_38 => ?_) (fun c_38 => ?_)
                    ·
                      refine lv_iconst (v := 0) hx hb d_Md_light_60 (by decide) ?_
                      refine zt_size (fun hzs => ?_)
                      have hP9 := hP.sub (ws' := [(aM, .inr (4, [.int th, .ref aMT, .int (nI mu), .ref aNw, .ref aNx, .int mw_34, .int (nI hw_36k), .int (nI ma_33), .int (nI en), .long mv_27, .int mf_28, .int (nI hw_15n)])), (aMT, .inl (kMT, 65536, .inl B)), (aNx, .inl (kNx, 52650, .inl (upd nx_13 52642 hw_30v)))]) [1, 2, 0] rfl
                      have hD9 := hD.sub (ws' := [(aM, .inr (4, [.int th, .ref aMT, .int (nI mu), .ref aNw, .ref aNx, .int mw_34, .int (nI hw_36k), .int (nI ma_33), .int (nI en), .long mv_27, .int mf_28, .int (nI hw_15n)])), (aMT, .inl (kMT, 65536, .inl B)), (aNx, .inl (kNx, 52650, .inl (upd nx_13 52642 hw_30v)))]) [1, 2, 0] (by decide) rfl
                      exact W.zret (v := 0) hx hb hr rfl (fun t ht hW => ⟨⟨0, (ma_33, mw_34, nI hw_36k, mv_27, mf_28, upd nx_13 52642 hw_30v, nI hw_15n), rfl, Or.inr ⟨rfl, by omega, _, by simp only [mLight, mListK, mNumK, zB_ok, zB_er, hw_5a, hw_15a, hw_21a, hw_30a, hw_36a], rfl⟩, by rw [ht]; exact hP9, hD9, by rw [ht]; exact hzs⟩, hS.F ht⟩) hS.2.2 d_Md_light_61
                    ·
                      exact absurd (by decide) c_38
              ·
                have e2 := e2.symm; subst e2
                refine lv_if_eq (tgt := 60) hx hb d_Md_light_44 (by decide) (fun c_39 => ?_) (fun c_39 => ?_)
                ·
                  refine lv_iconst (v := 0) hx hb d_Md_light_60 (by decide) ?_
                  refine zt_size (fun hzs => ?_)
                  have hP9 := hP.sub (ws' := [(aM, .inr (4, [.int th, .ref aMT, .int (nI mu), .ref aNw, .ref aNx, .int mw_25, .int (nI hw_30k), .int (nI ma_24), .int (nI en), .long mv_27, .int mf_28, .int (nI hw_15n)])), (aMT, .inl (kMT, 65536, .inl B)), (aNx, .inl (kNx, 52650, .inl nx_29))]) [0, 1, 2] rfl
                  have hD9 := hD.sub (ws' := [(aM, .inr (4, [.int th, .ref aMT, .int (nI mu), .ref aNw, .ref aNx, .int mw_25, .int (nI hw_30k), .int (nI ma_24), .int (nI en), .long mv_27, .int mf_28, .int (nI hw_15n)])), (aMT, .inl (kMT, 65536, .inl B)), (aNx, .inl (kNx, 52650, .inl nx_29))]) [0, 1, 2] (by decide) rfl
                  exact W.zret (v := 0) hx hb hr rfl (fun t ht hW => ⟨⟨0, (ma_24, mw_25, nI hw_30k, mv_27, mf_28, nx_29, nI hw_15n), rfl, Or.inr ⟨rfl, by omega, _, by simp only [mLight, mListK, mNumK, zB_ok, zB_er, hw_5a, hw_15a, hw_21a, hw_30a], rfl⟩, by rw [ht]; exact hP9, hD9, by rw [ht]; exact hzs⟩, hS.F ht⟩) hS.2.2 d_Md_light_61
                ·
                  exact absurd (by decide) c_39
          ·
            have e2 := e2.symm; subst e2
            refine lv_if_eq (tgt := 60) hx hb d_Md_light_29 (by decide) (fun c_40 => ?_) (fun c_40 => ?_)
            ·
              refine lv_iconst (v := 0) hx hb d_Md_light_60 (by decide) ?_
              refine zt_size (fun hzs => ?_)
              have hP9 := hP.sub (ws' := [(aM, .inr (4, [.int th, .ref aMT, .int (nI mu), .ref aNw, .ref aNx, .int mw_19, .int (nI hw_21k), .int (nI ma_18), .int (nI en), .long mv_11, .int mf_12, .int (nI hw_15n)])), (aMT, .inl (kMT, 65536, .inl B)), (aNx, .inl (kNx, 52650, .inl nx_13))]) [1, 2, 0] rfl
              have hD9 := hD.sub (ws' := [(aM, .inr (4, [.int th, .ref aMT, .int (nI mu), .ref aNw, .ref aNx, .int mw_19, .int (nI hw_21k), .int (nI ma_18), .int (nI en), .long mv_11, .int mf_12, .int (nI hw_15n)])), (aMT, .inl (kMT, 65536, .inl B)), (aNx, .inl (kNx, 52650, .inl nx_13))]) [1, 2, 0] (by decide) rfl
              exact W.zret (v := 0) hx hb hr rfl (fun t ht hW => ⟨⟨0, (ma_18, mw_19, nI hw_21k, mv_11, mf_12, nx_13, nI hw_15n), rfl, Or.inr ⟨rfl, by omega, _, by simp only [mLight, mListK, mNumK, zB_ok, zB_er, hw_5a, hw_15a, hw_21a], rfl⟩, by rw [ht]; exact hP9, hD9, by rw [ht]; exact hzs⟩, hS.F ht⟩) hS.2.2 d_Md_light_61
            ·
              exact absurd (by decide) c_40
      ·
        have e2 := e2.symm; subst e2
        refine lv_if_eq (tgt := 60) hx hb d_Md_light_20 (by decide) (fun c_41 => ?_) (fun c_41 => ?_)
        ·
          refine lv_iconst (v := 0) hx hb d_Md_light_60 (by decide) ?_
          refine zt_size (fun hzs => ?_)
          have hP9 := hP.sub (ws' := [(aM, .inr (4, [.int th, .ref aMT, .int (nI mu), .ref aNw, .ref aNx, .int mw_9, .int (nI hw_15k), .int (nI ma_8), .int (nI en), .long mv_11, .int mf_12, .int ml_14])), (aMT, .inl (kMT, 65536, .inl B)), (aNx, .inl (kNx, 52650, .inl nx_13))]) [0, 1, 2] rfl
          have hD9 := hD.sub (ws' := [(aM, .inr (4, [.int th, .ref aMT, .int (nI mu), .ref aNw, .ref aNx, .int mw_9, .int (nI hw_15k), .int (nI ma_8), .int (nI en), .long mv_11, .int mf_12, .int ml_14])), (aMT, .inl (kMT, 65536, .inl B)), (aNx, .inl (kNx, 52650, .inl nx_13))]) [0, 1, 2] (by decide) rfl
          exact W.zret (v := 0) hx hb hr rfl (fun t ht hW => ⟨⟨0, (ma_8, mw_9, nI hw_15k, mv_11, mf_12, nx_13, ml_14), rfl, Or.inr ⟨rfl, by omega, _, by simp only [mLight, mListK, mNumK, zB_ok, zB_er, hw_5a, hw_15a], rfl⟩, by rw [ht]; exact hP9, hD9, by rw [ht]; exact hzs⟩, hS.F ht⟩) hS.2.2 d_Md_light_61
        ·
          exact absurd (by decide) c_41
  ·
    have e2 := e2.symm; subst e2
    refine lv_if_eq (tgt := 60) hx hb d_Md_light_6 (by decide) (fun c_42 => ?_) (fun c_42 => ?_)
    ·
      refine lv_iconst (v := 0) hx hb d_Md_light_60 (by decide) ?_
      refine zt_size (fun hzs => ?_)
      have hP9 := hP.sub (ws' := [(aM, .inr (4, [.int th, .ref aMT, .int (nI mu), .ref aNw, .ref aNx, .int mw_3, .int (nI hw_5k), .int (nI ma_2), .int (nI en), .long mv, .int mf, .int ml])), (aMT, .inl (kMT, 65536, .inl B)), (aNx, .inl (kNx, 52650, .inl nx))]) [1, 2, 0] rfl
      have hD9 := hD.sub (ws' := [(aM, .inr (4, [.int th, .ref aMT, .int (nI mu), .ref aNw, .ref aNx, .int mw_3, .int (nI hw_5k), .int (nI ma_2), .int (nI en), .long mv, .int mf, .int ml])), (aMT, .inl (kMT, 65536, .inl B)), (aNx, .inl (kNx, 52650, .inl nx))]) [1, 2, 0] (by decide) rfl
      exact W.zret (v := 0) hx hb hr rfl (fun t ht hW => ⟨⟨0, (ma_2, mw_3, nI hw_5k, mv, mf, nx, ml), rfl, Or.inr ⟨rfl, by omega, _, by simp only [mLight, mListK, mNumK, zB_ok, zB_er, hw_5a], rfl⟩, by rw [ht]; exact hP9, hD9, by rw [ht]; exact hzs⟩, hS.F ht⟩) hS.2.2 d_Md_light_61
    ·
      exact absurd (by decide) c_42
set_option maxHeartbeats 4000000 in
set_option maxRecDepth 100000 in
theorem c_Md_camera (l : Launch) (G : ZG) (dC : Nat → ClassId) (dI : Nat → Nat → Nat) (sz : Nat) (aM : Nat) (th : Int32) (aMT : Nat) (mu : Nat) (aNw : Nat) (aNx : Nat) (mw : Int32) (mwa : Int32) (ma : Nat) (en : Nat) (mv : Int64) (mf : Int32) (ml : Int32) (kMT : ClassId) (B : Nat → Int32) (kNx : ClassId) (nx : Nat → Int32) (hen : en ≤ 65536) (hma : ma ≤ en) : Met l y_Md_camera w_Md_camera ({ frames := 6, cells := 0, slots := 0, locals := 139 }) (va_Pc [.ref aM] (PW G (dC, dI) [(kMT, .byte), (kNx, .int)] [(aM, .inr (4, [.int th, .ref aMT, .int (nI mu), .ref aNw, .ref aNx, .int mw, .int mwa, .int (nI ma), .int (nI en), .long mv, .int mf, .int ml])), (aMT, .inl (kMT, 65536, .inl B)), (aNx, .inl (kNx, 52650, .inl nx))] sz)) (va_Qi (fun (r : Int32) (uu : Nat × Int32 × Int32 × Int64 × Int32 × (Nat → Int32) × Int32) => (r = 1 ∧ uu.1 ≤ en ∧ uu.2.1 = mw ∧ uu.2.2.1 = mwa ∧ mCamera B en (zK B en ma, nx) = .ok (zK B en uu.1, uu.2.2.2.2.2.1)) ∨ (r = 0 ∧ uu.1 ≤ en ∧ ∃ k, mCamera B en (zK B en ma, nx) = .error (uu.2.1, k) ∧ uu.2.2.1 = nI k)) (fun (uu : Nat × Int32 × Int32 × Int64 × Int32 × (Nat → Int32) × Int32) t => BW (dC, dI) [(aM, .inr (4, [.int th, .ref aMT, .int (nI mu), .ref aNw, .ref aNx, .int uu.2.1, .int uu.2.2.1, .int (nI uu.1), .int (nI en), .long uu.2.2.2.1, .int uu.2.2.2.2.1, .int uu.2.2.2.2.2.2])), (aMT, .inl (kMT, 65536, .inl B)), (aNx, .inl (kNx, 52650, .inl uu.2.2.2.2.2.1))] (va_A [(aM, .inr (4, [.int th, .ref aMT, .int (nI mu), .ref aNw, .ref aNx, .int mw, .int mwa, .int (nI ma), .int (nI en), .long mv, .int mf, .int ml])), (aMT, .inl (kMT, 65536, .inl B)), (aNx, .inl (kNx, 52650, .inl nx))] sz) sz t) (va_A [(aM, .inr (4, [.int th, .ref aMT, .int (nI mu), .ref aNw, .ref aNx, .int mw, .int mwa, .int (nI ma), .int (nI en), .long mv, .int mf, .int ml])), (aMT, .inl (kMT, 65536, .inl B)), (aNx, .inl (kNx, 52650, .inl nx))] sz)) 0 0 (va_A [(aM, .inr (4, [.int th, .ref aMT, .int (nI mu), .ref aNw, .ref aNx, .int mw, .int mwa, .int (nI ma), .int (nI en), .long mv, .int mf, .int ml])), (aMT, .inl (kMT, 65536, .inl B)), (aNx, .inl (kNx, 52650, .inl nx))] sz) := by
  refine Met.ofW (cc := prog_6_method_27_code) (maxL := 1) (ret := (some .boolean)) (by decide) rfl ?_
  intro p e s m args below meth c s₁ Bd hml hv
  obtain ⟨rfl, hsz, hP, hK, hD0, hE⟩ := hv
  have hx := Bd.exec
  have hb := Bd.bytes
  have hr := Bd.returns
  have hts := atoms_spec (ws := w_Md_camera) Bd.pre
  have hown : s.vm.findClass R_Md = some m.cls := findClass_of_methodNamed Bd.named
  have hlocks := Bd.notSynchronized
  have hz : ∀ w ∈ ZW, w.before _ s = true := fun w h => hts w (List.mem_cons_of_mem _ h)
  subst hsz
  have hD := hD0.self (sz := s.heap.size)
  generalize hAe : va_A [(aM, .inr (4, [.int th, .ref aMT, .int (nI mu), .ref aNw, .ref aNx, .int mw, .int mwa, .int (nI ma), .int (nI en), .long mv, .int mf, .int ml])), (aMT, .inl (kMT, 65536, .inl B)), (aNx, .inl (kNx, 52650, .inl nx))] s.heap.size = A at hD hE ⊢
  have hA : ∀ q : Nat, s.heap.size ≤ q → A q := fun q h => by rw [← hAe]; exact Or.inr h
  have hS : va_S A s.heap s.heap [] := va_S.rf
  have hl := lv_entry ([.ref aM]) (n := 1) (Nat.le_of_ble_eq_true rfl)
  rw [lg_entry_eq]
  generalize (lg_sl ([.ref aM]) ++ List.replicate (1 - (lg_sl ([.ref aM])).length) Slot.unset).toArray = ls at hl ⊢
  have hl : lv_has ls 1 [(0, .ref aM)] := hl
  obtain ⟨H, hH⟩ : ∃ z, z = s.heap := ⟨_, rfl⟩
  have hP : va_P (dC, dI) vwCl [(aM, .inr (4, [.int th, .ref aMT, .int (nI mu), .ref aNw, .ref aNx, .int mw, .int mwa, .int (nI ma), .int (nI en), .long mv, .int mf, .int ml])), (aMT, .inl (kMT, 65536, .inl B)), (aNx, .inl (kNx, 52650, .inl nx))] H := by rw [hH]; exact hP
  have hS : va_S A s.heap H [] := by rw [hH]; exact hS
  refine zt_heap hH ?_
  refine lv_aload_n hx hb d_Md_camera_0 rfl (lv_at hl 0 rfl) ?_
  refine lv_bipush (v := 123) hx hb d_Md_camera_1 (by decide) ?_
  have hPc := hP.sub (ws' := [(aM, .inr (4, [.int th, .ref aMT, .int (nI mu), .ref aNw, .ref aNx, .int mw, .int mwa, .int (nI ma), .int (nI en), .long mv, .int mf, .int ml])), (aMT, .inl (kMT, 65536, .inl B))]) [0, 1] rfl
  have hDc := hD.sub (ws' := [(aM, .inr (4, [.int th, .ref aMT, .int (nI mu), .ref aNw, .ref aNx, .int mw, .int mwa, .int (nI ma), .int (nI en), .long mv, .int mf, .int ml])), (aMT, .inl (kMT, 65536, .inl B))]) [0, 1] (by decide) rfl
  have hKc := hK.sub (tys' := [(kMT, .byte)]) [0] rfl
  have hFc := va_free (wc := [(aM, .inr (4, [.int th, .ref aMT, .int (nI mu), .ref aNw, .ref aNx, .int mw, .int mwa, .int (nI ma), .int (nI en), .long mv, .int mf, .int ml])), (aMT, .inl (kMT, 65536, .inl B))]) hD hS hA [0, 1] rfl
  refine va_calli (va_runV (As := [.int 123]) (rest := []) ⟨hx, hb, hml, hown, hts⟩ (c_Md_sign l G dC dI H.size aM th aMT mu aNw aNx mw mwa ma en mv mf ml kMT B 123 (by omega) (by omega)) (cwV 1 hts (gV tw_537 tw_539 ts_20 tw_5 tw_540 rfl) rfl rfl rfl (by decide +kernel) ⟨Nat.le_of_ble_eq_true rfl, Nat.le_of_ble_eq_true rfl⟩) (PW_preV hPc hKc hDc hE hS hFc (ci := 4) (q0 := 0) rfl rfl) rfl rfl hl.1 rfl (lv_room (Nat.le_of_ble_eq_true rfl)) d_Md_camera_3 ⟨Nat.le_of_ble_eq_true rfl, Nat.le_of_ble_eq_true rfl⟩) hS (fun q _ h => hFc q h) hFc (fun r_1 uu t H1 locs ht hvm hw_5 hB hz1 hk1 hS => ?_)
  obtain ⟨ma_2, mw_3, mwa_4⟩ := uu
  obtain ⟨hP1, hD1, hsz1⟩ := hB
  rw [ht] at hP1 hsz1
  obtain ⟨hP, hD⟩ := va_join (wr := [(aNx, .inl (kNx, 52650, .inl nx))]) (w1 := [(aM, .inr (4, [.int th, .ref aMT, .int (nI mu), .ref aNw, .ref aNx, .int mw_3, .int mwa_4, .int (nI ma_2), .int (nI en), .long mv, .int mf, .int ml])), (aMT, .inl (kMT, 65536, .inl B))]) hP hD [0, 1] [2] rfl rfl (by decide) (by decide) hk1 hFc hP1 hD1
  generalize H1 = H at hP hS ⊢
  have hP : va_P (dC, dI) vwCl [(aNx, .inl (kNx, 52650, .inl nx)), (aM, .inr (4, [.int th, .ref aMT, .int (nI mu), .ref aNw, .ref aNx, .int mw_3, .int mwa_4, .int (nI ma_2), .int (nI en), .long mv, .int mf, .int ml])), (aMT, .inl (kMT, 65536, .inl B))] H := hP
  have hD : va_D A [(aNx, .inl (kNx, 52650, .inl nx)), (aM, .inr (4, [.int th, .ref aMT, .int (nI mu), .ref aNw, .ref aNx, .int mw_3, .int mwa_4, .int (nI ma_2), .int (nI en), .long mv, .int mf, .int ml])), (aMT, .inl (kMT, 65536, .inl B))] := hD
  rcases hw_5 with ⟨rfl, hw_5a, hw_5b, e1, e2⟩ | ⟨rfl, hw_5b, hw_5k, hw_5a, e2⟩
  ·
    have e1 := e1.symm; subst e1
    have e2 := e2.symm; subst e2
    refine lv_if_eq (tgt := 85) hx hb d_Md_camera_6 (by decide) (fun c_6 => ?_) (fun c_6 => ?_)
    ·
      exact absurd c_6 (by decide)
    ·
      refine lv_aload_n hx hb d_Md_camera_9 rfl (lv_at hl 0 rfl) ?_
      refine lv_ldc2 (v := zWv 8) hx hb hown (hz _ tw_585) d_Md_camera_10 ?_
      refine lv_ldc (v := 52632) hx hb hown (hz _ tw_586) d_Md_camera_13 ?_
      refine lv_ldc (v := 4194304) hx hb hown (hz _ tw_587) d_Md_camera_15 ?_
      have hPc := hP.sub (ws' := [(aM, .inr (4, [.int th, .ref aMT, .int (nI mu), .ref aNw, .ref aNx, .int mw, .int mwa, .int (nI ma_2), .int (nI en), .long mv, .int mf, .int ml])), (aMT, .inl (kMT, 65536, .inl B)), (aNx, .inl (kNx, 52650, .inl nx))]) [1, 2, 0] rfl
      have hDc := hD.sub (ws' := [(aM, .inr (4, [.int th, .ref aMT, .int (nI mu), .ref aNw, .ref aNx, .int mw, .int mwa, .int (nI ma_2), .int (nI en), .long mv, .int mf, .int ml])), (aMT, .inl (kMT, 65536, .inl B)), (aNx, .inl (kNx, 52650, .inl nx))]) [1, 2, 0] (by decide) rfl
      have hKc := hK.sub (tys' := [(kMT, .byte), (kNx, .int)]) [0, 1] rfl
      have hFc := va_free (wc := [(aM, .inr (4, [.int th, .ref aMT, .int (nI mu), .ref aNw, .ref aNx, .int mw, .int mwa, .int (nI ma_2), .int (nI en), .long mv, .int mf, .int ml])), (aMT, .inl (kMT, 65536, .inl B)), (aNx, .inl (kNx, 52650, .inl nx))]) hD hS hA [1, 2, 0] rfl
      refine va_calli (va_runV (As := [.long (zWv 8), .int (nI 52632), .int (nI 4194304)]) (rest := []) ⟨hx, hb, hml, hown, hts⟩ (c_Md_three l G dC dI H.size aM th aMT mu aNw aNx mw mwa ma_2 en mv mf ml kMT B kNx nx 8 52632 4194304 (by omega) (by omega) (by decide) (by decide) (zSb_len _) (by omega) (by omega)) (cwV 3 hts (gV tw_588 tw_590 ts_29 tw_5 tw_591 rfl) rfl rfl rfl (by decide +kernel) ⟨Nat.le_of_ble_eq_true rfl, Nat.le_of_ble_eq_true rfl⟩) (PW_preV hPc hKc hDc hE hS hFc (ci := 4) (q0 := 0) rfl rfl) rfl rfl hl.1 rfl (lv_room (Nat.le_of_ble_eq_true rfl)) d_Md_camera_17 ⟨Nat.le_of_ble_eq_true rfl, Nat.le_of_ble_eq_true rfl⟩) hS (fun q _ h => hFc q h) hFc (fun r_7 uu t H1 locs ht hvm hw_15 hB hz1 hk1 hS => ?_)
      obtain ⟨ma_8, mw_9, mwa_10, mv_11, mf_12, nx_13, ml_14⟩ := uu
      obtain ⟨hP1, hD1, hsz1⟩ := hB
      rw [ht] at hP1 hsz1
      obtain ⟨hP, hD⟩ := va_join (wr := []) (w1 := [(aM, .inr (4, [.int th, .ref aMT, .int (nI mu), .ref aNw, .ref aNx, .int mw_9, .int mwa_10, .int (nI ma_8), .int (nI en), .long mv_11, .int mf_12, .int ml_14])), (aMT, .inl (kMT, 65536, .inl B)), (aNx, .inl (kNx, 52650, .inl nx_13))]) hP hD [1, 2, 0] [] rfl rfl (by decide) (by decide) hk1 hFc hP1 hD1
      generalize H1 = H at hP hS ⊢
      have hP : va_P (dC, dI) vwCl [(aM, .inr (4, [.int th, .ref aMT, .int (nI mu), .ref aNw, .ref aNx, .int mw_9, .int mwa_10, .int (nI ma_8), .int (nI en), .long mv_11, .int mf_12, .int ml_14])), (aMT, .inl (kMT, 65536, .inl B)), (aNx, .inl (kNx, 52650, .inl nx_13))] H := hP
      have hD : va_D A [(aM, .inr (4, [.int th, .ref aMT, .int (nI mu), .ref aNw, .ref aNx, .int mw_9, .int mwa_10, .int (nI ma_8), .int (nI en), .long mv_11, .int mf_12, .int ml_14])), (aMT, .inl (kMT, 65536, .inl B)), (aNx, .inl (kNx, 52650, .inl nx_13))] := hD
      simp only [zf01, zf11, zg13, zg33, decide_true, decide_false] at hw_15
      rcases hw_15 with ⟨rfl, hw_15b, e1, e2, hw_15n, hw_15a, e3⟩ | ⟨rfl, hw_15b, hw_15k, hw_15a, e2⟩
      ·
        have e1 := e1.symm; subst e1
        have e2 := e2.symm; subst e2
        have e3 := e3.symm; subst e3
        refine lv_if_eq (tgt := 85) hx hb d_Md_camera_20 (by decide) (fun c_16 => ?_) (fun c_16 => ?_)
        ·
          exact absurd c_16 (by decide)
        ·
          refine lv_aload_n hx hb d_Md_camera_23 rfl (lv_at hl 0 rfl) ?_
          refine lv_bipush (v := 44) hx hb d_Md_camera_24 (by decide) ?_
          have hPc := hP.sub (ws' := [(aM, .inr (4, [.int th, .ref aMT, .int (nI mu), .ref aNw, .ref aNx, .int mw, .int mwa, .int (nI ma_8), .int (nI en), .long mv_11, .int mf_12, .int (nI hw_15n)])), (aMT, .inl (kMT, 65536, .inl B))]) [0, 1] rfl
          have hDc := hD.sub (ws' := [(aM, .inr (4, [.int th, .ref aMT, .int (nI mu), .ref aNw, .ref aNx, .int mw, .int mwa, .int (nI ma_8), .int (nI en), .long mv_11, .int mf_12, .int (nI hw_15n)])), (aMT, .inl (kMT, 65536, .inl B))]) [0, 1] (by decide) rfl
          have hKc := hK.sub (tys' := [(kMT, .byte)]) [0] rfl
          have hFc := va_free (wc := [(aM, .inr (4, [.int th, .ref aMT, .int (nI mu), .ref aNw, .ref aNx, .int mw, .int mwa, .int (nI ma_8), .int (nI en), .long mv_11, .int mf_12, .int (nI hw_15n)])), (aMT, .inl (kMT, 65536, .inl B))]) hD hS hA [0, 1] rfl
          refine va_calli (va_runV (As := [.int 44]) (rest := []) ⟨hx, hb, hml, hown, hts⟩ (c_Md_sign l G dC dI H.size aM th aMT mu aNw aNx mw mwa ma_8 en mv_11 mf_12 (nI hw_15n) kMT B 44 (by omega) (by omega)) (cwV 1 hts (gV tw_537 tw_539 ts_20 tw_5 tw_540 rfl) rfl rfl rfl (by decide +kernel) ⟨Nat.le_of_ble_eq_true rfl, Nat.le_of_ble_eq_true rfl⟩) (PW_preV hPc hKc hDc hE hS hFc (ci := 4) (q0 := 0) rfl rfl) rfl rfl hl.1 rfl (lv_room (Nat.le_of_ble_eq_true rfl)) d_Md_camera_26 ⟨Nat.le_of_ble_eq_true rfl, Nat.le_of_ble_eq_true rfl⟩) hS (fun q _ h => hFc q h) hFc (fun r_17 uu t H1 locs ht hvm hw_21 hB hz1 hk1 hS => ?_)
          obtain ⟨ma_18, mw_19, mwa_20⟩ := uu
          obtain ⟨hP1, hD1, hsz1⟩ := hB
          rw [ht] at hP1 hsz1
          obtain ⟨hP, hD⟩ := va_join (wr := [(aNx, .inl (kNx, 52650, .inl nx_13))]) (w1 := [(aM, .inr (4, [.int th, .ref aMT, .int (nI mu), .ref aNw, .ref aNx, .int mw_19, .int mwa_20, .int (nI ma_18), .int (nI en), .long mv_11, .int mf_12, .int (nI hw_15n)])), (aMT, .inl (kMT, 65536, .inl B))]) hP hD [0, 1] [2] rfl rfl (by decide) (by decide) hk1 hFc hP1 hD1
          generalize H1 = H at hP hS ⊢
          have hP : va_P (dC, dI) vwCl [(aNx, .inl (kNx, 52650, .inl nx_13)), (aM, .inr (4, [.int th, .ref aMT, .int (nI mu), .ref aNw, .ref aNx, .int mw_19, .int mwa_20, .int (nI ma_18), .int (nI en), .long mv_11, .int mf_12, .int (nI hw_15n)])), (aMT, .inl (kMT, 65536, .inl B))] H := hP
          have hD : va_D A [(aNx, .inl (kNx, 52650, .inl nx_13)), (aM, .inr (4, [.int th, .ref aMT, .int (nI mu), .ref aNw, .ref aNx, .int mw_19, .int mwa_20, .int (nI ma_18), .int (nI en), .long mv_11, .int mf_12, .int (nI hw_15n)])), (aMT, .inl (kMT, 65536, .inl B))] := hD
          rcases hw_21 with ⟨rfl, hw_21a, hw_21b, e1, e2⟩ | ⟨rfl, hw_21b, hw_21k, hw_21a, e2⟩
          ·
            have e1 := e1.symm; subst e1
            have e2 := e2.symm; subst e2
            refine lv_if_eq (tgt := 85) hx hb d_Md_camera_29 (by decide) (fun c_22 => ?_) (fun c_22 => ?_)
            ·
              exact absurd c_22 (by decide)
            ·
              refine lv_aload_n hx hb d_Md_camera_32 rfl (lv_at hl 0 rfl) ?_
              refine lv_ldc2 (v := zWv 9) hx hb hown (hz _ tw_607) d_Md_camera_33 ?_
              refine lv_ldc (v := 52635) hx hb hown (hz _ tw_608) d_Md_camera_36 ?_
              refine lv_ldc (v := 1048576) hx hb hown (hz _ tw_609) d_Md_camera_38 ?_
              have hPc := hP.sub (ws' := [(aM, .inr (4, [.int th, .ref aMT, .int (nI mu), .ref aNw, .ref aNx, .int mw, .int mwa, .int (nI ma_18), .int (nI en), .long mv_11, .int mf_12, .int (nI hw_15n)])), (aMT, .inl (kMT, 65536, .inl B)), (aNx, .inl (kNx, 52650, .inl nx_13))]) [1, 2, 0] rfl
              have hDc := hD.sub (ws' := [(aM, .inr (4, [.int th, .ref aMT, .int (nI mu), .ref aNw, .ref aNx, .int mw, .int mwa, .int (nI ma_18), .int (nI en), .long mv_11, .int mf_12, .int (nI hw_15n)])), (aMT, .inl (kMT, 65536, .inl B)), (aNx, .inl (kNx, 52650, .inl nx_13))]) [1, 2, 0] (by decide) rfl
              have hKc := hK.sub (tys' := [(kMT, .byte), (kNx, .int)]) [0, 1] rfl
              have hFc := va_free (wc := [(aM, .inr (4, [.int th, .ref aMT, .int (nI mu), .ref aNw, .ref aNx, .int mw, .int mwa, .int (nI ma_18), .int (nI en), .long mv_11, .int mf_12, .int (nI hw_15n)])), (aMT, .inl (kMT, 65536, .inl B)), (aNx, .inl (kNx, 52650, .inl nx_13))]) hD hS hA [1, 2, 0] rfl
              refine va_calli (va_runV (As := [.long (zWv 9), .int (nI 52635), .int (nI 1048576)]) (rest := []) ⟨hx, hb, hml, hown, hts⟩ (c_Md_three l G dC dI H.size aM th aMT mu aNw aNx mw mwa ma_18 en mv_11 mf_12 (nI hw_15n) kMT B kNx nx_13 9 52635 1048576 (by omega) (by omega) (by decide) (by decide) (zSb_len _) (by omega) (by omega)) (cwV 3 hts (gV tw_588 tw_590 ts_29 tw_5 tw_591 rfl) rfl rfl rfl (by decide +kernel) ⟨Nat.le_of_ble_eq_true rfl, Nat.le_of_ble_eq_true rfl⟩) (PW_preV hPc hKc hDc hE hS hFc (ci := 4) (q0 := 0) rfl rfl) rfl rfl hl.1 rfl (lv_room (Nat.le_of_ble_eq_true rfl)) d_Md_camera_40 ⟨Nat.le_of_ble_eq_true rfl, Nat.le_of_ble_eq_true rfl⟩) hS (fun q _ h => hFc q h) hFc (fun r_23 uu t H1 locs ht hvm hw_31 hB hz1 hk1 hS => ?_)
              obtain ⟨ma_24, mw_25, mwa_26, mv_27, mf_28, nx_29, ml_30⟩ := uu
              obtain ⟨hP1, hD1, hsz1⟩ := hB
              rw [ht] at hP1 hsz1
              obtain ⟨hP, hD⟩ := va_join (wr := []) (w1 := [(aM, .inr (4, [.int th, .ref aMT, .int (nI mu), .ref aNw, .ref aNx, .int mw_25, .int mwa_26, .int (nI ma_24), .int (nI en), .long mv_27, .int mf_28, .int ml_30])), (aMT, .inl (kMT, 65536, .inl B)), (aNx, .inl (kNx, 52650, .inl nx_29))]) hP hD [1, 2, 0] [] rfl rfl (by decide) (by decide) hk1 hFc hP1 hD1
              generalize H1 = H at hP hS ⊢
              have hP : va_P (dC, dI) vwCl [(aM, .inr (4, [.int th, .ref aMT, .int (nI mu), .ref aNw, .ref aNx, .int mw_25, .int mwa_26, .int (nI ma_24), .int (nI en), .long mv_27, .int mf_28, .int ml_30])), (aMT, .inl (kMT, 65536, .inl B)), (aNx, .inl (kNx, 52650, .inl nx_29))] H := hP
              have hD : va_D A [(aM, .inr (4, [.int th, .ref aMT, .int (nI mu), .ref aNw, .ref aNx, .int mw_25, .int mwa_26, .int (nI ma_24), .int (nI en), .long mv_27, .int mf_28, .int ml_30])), (aMT, .inl (kMT, 65536, .inl B)), (aNx, .inl (kNx, 52650, .inl nx_29))] := hD
              simp only [zf01, zf11, zg13, zg33, decide_true, decide_false] at hw_31
              rcases hw_31 with ⟨rfl, hw_31b, e1, e2, hw_31n, hw_31a, e3⟩ | ⟨rfl, hw_31b, hw_31k, hw_31a, e2⟩
              ·
                have e1 := e1.symm; subst e1
                have e2 := e2.symm; subst e2
                have e3 := e3.symm; subst e3
                refine lv_if_eq (tgt := 85) hx hb d_Md_camera_43 (by decide) (fun c_32 => ?_) (fun c_32 => ?_)
                ·
                  exact absurd c_32 (by decide)
                ·
                  refine lv_aload_n hx hb d_Md_camera_46 rfl (lv_at hl 0 rfl) ?_
                  refine lv_bipush (v := 44) hx hb d_Md_camera_47 (by decide) ?_
                  have hPc := hP.sub (ws' := [(aM, .inr (4, [.int th, .ref aMT, .int (nI mu), .ref aNw, .ref aNx, .int mw, .int mwa, .int (nI ma_24), .int (nI en), .long mv_27, .int mf_28, .int (nI hw_31n)])), (aMT, .inl (kMT, 65536, .inl B))]) [0, 1] rfl
                  have hDc := hD.sub (ws' := [(aM, .inr (4, [.int th, .ref aMT, .int (nI mu), .ref aNw, .ref aNx, .int mw, .int mwa, .int (nI ma_24), .int (nI en), .long mv_27, .int mf_28, .int (nI hw_31n)])), (aMT, .inl (kMT, 65536, .inl B))]) [0, 1] (by decide) rfl
                  have hKc := hK.sub (tys' := [(kMT, .byte)]) [0] rfl
                  have hFc := va_free (wc := [(aM, .inr (4, [.int th, .ref aMT, .int (nI mu), .ref aNw, .ref aNx, .int mw, .int mwa, .int (nI ma_24), .int (nI en), .long mv_27, .int mf_28, .int (nI hw_31n)])), (aMT, .inl (kMT, 65536, .inl B))]) hD hS hA [0, 1] rfl
                  refine va_calli (va_runV (As := [.int 44]) (rest := []) ⟨hx, hb, hml, hown, hts⟩ (c_Md_sign l G dC dI H.size aM th aMT mu aNw aNx mw mwa ma_24 en mv_27 mf_28 (nI hw_31n) kMT B 44 (by omega) (by omega)) (cwV 1 hts (gV tw_537 tw_539 ts_20 tw_5 tw_540 rfl) rfl rfl rfl (by decide +kernel) ⟨Nat.le_of_ble_eq_true rfl, Nat.le_of_ble_eq_true rfl⟩) (PW_preV hPc hKc hDc hE hS hFc (ci := 4) (q0 := 0) rfl rfl) rfl rfl hl.1 rfl (lv_room (Nat.le_of_ble_eq_true rfl)) d_Md_camera_49 ⟨Nat.le_of_ble_eq_true rfl, Nat.le_of_ble_eq_true rfl⟩) hS (fun q _ h => hFc q h) hFc (fun r_33 uu t H1 locs ht hvm hw_37 hB hz1 hk1 hS => ?_)
                  obtain ⟨ma_34, mw_35, mwa_36⟩ := uu
                  obtain ⟨hP1, hD1, hsz1⟩ := hB
                  rw [ht] at hP1 hsz1
                  obtain ⟨hP, hD⟩ := va_join (wr := [(aNx, .inl (kNx, 52650, .inl nx_29))]) (w1 := [(aM, .inr (4, [.int th, .ref aMT, .int (nI mu), .ref aNw, .ref aNx, .int mw_35, .int mwa_36, .int (nI ma_34), .int (nI en), .long mv_27, .int mf_28, .int (nI hw_31n)])), (aMT, .inl (kMT, 65536, .inl B))]) hP hD [0, 1] [2] rfl rfl (by decide) (by decide) hk1 hFc hP1 hD1
                  generalize H1 = H at hP hS ⊢
                  have hP : va_P (dC, dI) vwCl [(aNx, .inl (kNx, 52650, .inl nx_29)), (aM, .inr (4, [.int th, .ref aMT, .int (nI mu), .ref aNw, .ref aNx, .int mw_35, .int mwa_36, .int (nI ma_34), .int (nI en), .long mv_27, .int mf_28, .int (nI hw_31n)])), (aMT, .inl (kMT, 65536, .inl B))] H := hP
                  have hD : va_D A [(aNx, .inl (kNx, 52650, .inl nx_29)), (aM, .inr (4, [.int th, .ref aMT, .int (nI mu), .ref aNw, .ref aNx, .int mw_35, .int mwa_36, .int (nI ma_34), .int (nI en), .long mv_27, .int mf_28, .int (nI hw_31n)])), (aMT, .inl (kMT, 65536, .inl B))] := hD
                  rcases hw_37 with ⟨rfl, hw_37a, hw_37b, e1, e2⟩ | ⟨rfl, hw_37b, hw_37k, hw_37a, e2⟩
                  ·
                    have e1 := e1.symm; subst e1
                    have e2 := e2.symm; subst e2
                    refine lv_if_eq (tgt := 85) hx hb d_Md_camera_52 (by decide) (fun c_38 => ?_) (fun c_38 => ?_)
                    ·
                      exact absurd c_38 (by decide)
                    ·
                      refine lv_aload_n hx hb d_Md_camera_55 rfl (lv_at hl 0 rfl) ?_
                      refine lv_ldc2 (v := zWv 10) hx hb hown (hz _ tw_610) d_Md_camera_56 ?_
                      refine lv_ldc (v := 52638) hx hb hown (hz _ tw_472) d_Md_camera_59 ?_
                      refine lv_bipush (v := 8) hx hb d_Md_camera_61 (by decide) ?_
                      refine lv_sipush (v := 512) hx hb d_Md_camera_63 (by decide) ?_
                      have hPc := hP.sub (ws' := [(aM, .inr (4, [.int th, .ref aMT, .int (nI mu), .ref aNw, .ref aNx, .int mw, .int mwa, .int (nI ma_34), .int (nI en), .long mv_27, .int mf_28, .int (nI hw_31n)])), (aMT, .inl (kMT, 65536, .inl B)), (aNx, .inl (kNx, 52650, .inl nx_29))]) [1, 2, 0] rfl
                      have hDc := hD.sub (ws' := [(aM, .inr (4, [.int th, .ref aMT, .int (nI mu), .ref aNw, .ref aNx, .int mw, .int mwa, .int (nI ma_34), .int (nI en), .long mv_27, .int mf_28, .int (nI hw_31n)])), (aMT, .inl (kMT, 65536, .inl B)), (aNx, .inl (kNx, 52650, .inl nx_29))]) [1, 2, 0] (by decide) rfl
                      have hKc := hK.sub (tys' := [(kMT, .byte), (kNx, .int)]) [0, 1] rfl
                      have hFc := va_free (wc := [(aM, .inr (4, [.int th, .ref aMT, .int (nI mu), .ref aNw, .ref aNx, .int mw, .int mwa, .int (nI ma_34), .int (nI en), .long mv_27, .int mf_28, .int (nI hw_31n)])), (aMT, .inl (kMT, 65536, .inl B)), (aNx, .inl (kNx, 52650, .inl nx_29))]) hD hS hA [1, 2, 0] rfl
                      refine va_calli (va_runV (As := [.long (zWv 10), .int (nI 52638), .int 8, .int 512]) (rest := []) ⟨hx, hb, hml, hown, hts⟩ (c_Md_named l G dC dI H.size aM th aMT mu aNw aNx mw mwa ma_34 en mv_27 mf_28 (nI hw_31n) kMT B kNx nx_29 10 52638 8 512 (by omega) (by omega) (by decide) (by decide) (zSb_len _) (by omega) (by decide) (by decide) (by decide) (by decide)) (cwV 4 hts (gV tw_611 tw_613 ts_33 tw_5 tw_614 rfl) rfl rfl rfl (by decide +kernel) ⟨Nat.le_of_ble_eq_true rfl, Nat.le_of_ble_eq_true rfl⟩) (PW_preV hPc hKc hDc hE hS hFc (ci := 4) (q0 := 0) rfl rfl) rfl rfl hl.1 rfl (lv_room (Nat.le_of_ble_eq_true rfl)) d_Md_camera_66 ⟨Nat.le_of_ble_eq_true rfl, Nat.le_of_ble_eq_true rfl⟩) hS (fun q _ h => hFc q h) hFc (fun r_39 uu t H1 locs ht hvm hw_46 hB hz1 hk1 hS => ?_)
                      obtain ⟨ma_40, mw_41, mwa_42, mv_43, mf_44, nx_45⟩ := uu
                      obtain ⟨hP1, hD1, hsz1⟩ := hB
                      rw [ht] at hP1 hsz1
                      obtain ⟨hP, hD⟩ := va_join (wr := []) (w1 := [(aM, .inr (4, [.int th, .ref aMT, .int (nI mu), .ref aNw, .ref aNx, .int mw_41, .int mwa_42, .int (nI ma_40), .int (nI en), .long mv_43, .int mf_44, .int (nI hw_31n)])), (aMT, .inl (kMT, 65536, .inl B)), (aNx, .inl (kNx, 52650, .inl nx_45))]) hP hD [1, 2, 0] [] rfl rfl (by decide) (by decide) hk1 hFc hP1 hD1
                      generalize H1 = H at hP hS ⊢
                      have hP : va_P (dC, dI) vwCl [(aM, .inr (4, [.int th, .ref aMT, .int (nI mu), .ref aNw, .ref aNx, .int mw_41, .int mwa_42, .int (nI ma_40), .int (nI en), .long mv_43, .int mf_44, .int (nI hw_31n)])), (aMT, .inl (kMT, 65536, .inl B)), (aNx, .inl (kNx, 52650, .inl nx_45))] H := hP
                      have hD : va_D A [(aM, .inr (4, [.int th, .ref aMT, .int (nI mu), .ref aNw, .ref aNx, .int mw_41, .int mwa_42, .int (nI ma_40), .int (nI en), .long mv_43, .int mf_44, .int (nI hw_31n)])), (aMT, .inl (kMT, 65536, .inl B)), (aNx, .inl (kNx, 52650, .inl nx_45))] := hD
                      rcases hw_46 with ⟨rfl, hw_46b, e1, e2, hw_46v, hw_46a, e3⟩ | ⟨rfl, hw_46b, hw_46k, hw_46a, e2⟩
                      ·
                        have e1 := e1.symm; subst e1
                        have e2 := e2.symm; subst e2
                        have e3 := e3.symm; subst e3
                        refine lv_if_eq (tgt := 85) hx hb d_Md_camera_69 (by decide) (fun c_47 => ?_) (fun c_47 => ?_)
                        ·
                          exact absurd c_47 (by decide)
                        ·
                          refine lv_aload_n hx hb d_Md_camera_72 rfl (lv_at hl 0 rfl) ?_
                          refine lv_bipush (v := 125) hx hb d_Md_camera_73 (by decide) ?_
                          have hPc := hP.sub (ws' := [(aM, .inr (4, [.int th, .ref aMT, .int (nI mu), .ref aNw, .ref aNx, .int mw, .int mwa, .int (nI ma_40), .int (nI en), .long mv_43, .int mf_44, .int (nI hw_31n)])), (aMT, .inl (kMT, 65536, .inl B))]) [0, 1] rfl
                          have hDc := hD.sub (ws' := [(aM, .inr (4, [.int th, .ref aMT, .int (nI mu), .ref aNw, .ref aNx, .int mw, .int mwa, .int (nI ma_40), .int (nI en), .long mv_43, .int mf_44, .int (nI hw_31n)])), (aMT, .inl (kMT, 65536, .inl B))]) [0, 1] (by decide) rfl
                          have hKc := hK.sub (tys' := [(kMT, .byte)]) [0] rfl
                          have hFc := va_free (wc := [(aM, .inr (4, [.int th, .ref aMT, .int (nI mu), .ref aNw, .ref aNx, .int mw, .int mwa, .int (nI ma_40), .int (nI en), .long mv_43, .int mf_44, .int (nI hw_31n)])), (aMT, .inl (kMT, 65536, .inl B))]) hD hS hA [0, 1] rfl
                          refine va_calli (va_runV (As := [.int 125]) (rest := []) ⟨hx, hb, hml, hown, hts⟩ (c_Md_sign l G dC dI H.size aM th aMT mu aNw aNx mw mwa ma_40 en mv_43 mf_44 (nI hw_31n) kMT B 125 (by omega) (by omega)) (cwV 1 hts (gV tw_537 tw_539 ts_20 tw_5 tw_540 rfl) rfl rfl rfl (by decide +kernel) ⟨Nat.le_of_ble_eq_true rfl, Nat.le_of_ble_eq_true rfl⟩) (PW_preV hPc hKc hDc hE hS hFc (ci := 4) (q0 := 0) rfl rfl) rfl rfl hl.1 rfl (lv_room (Nat.le_of_ble_eq_true rfl)) d_Md_camera_75 ⟨Nat.le_of_ble_eq_true rfl, Nat.le_of_ble_eq_true rfl⟩) hS (fun q _ h => hFc q h) hFc (fun r_48 uu t H1 locs ht hvm hw_52 hB hz1 hk1 hS => ?_)
                          obtain ⟨ma_49, mw_50, mwa_51⟩ := uu
                          obtain ⟨hP1, hD1, hsz1⟩ := hB
                          rw [ht] at hP1 hsz1
                          obtain ⟨hP, hD⟩ := va_join (wr := [(aNx, .inl (kNx, 52650, .inl (upd nx_29 52638 hw_46v)))]) (w1 := [(aM, .inr (4, [.int th, .ref aMT, .int (nI mu), .ref aNw, .ref aNx, .int mw_50, .int mwa_51, .int (nI ma_49), .int (nI en), .long mv_43, .int mf_44, .int (nI hw_31n)])), (aMT, .inl (kMT, 65536, .inl B))]) hP hD [0, 1] [2] rfl rfl (by decide) (by decide) hk1 hFc hP1 hD1
                          generalize H1 = H at hP hS ⊢
                          have hP : va_P (dC, dI) vwCl [(aNx, .inl (kNx, 52650, .inl (upd nx_29 52638 hw_46v))), (aM, .inr (4, [.int th, .ref aMT, .int (nI mu), .ref aNw, .ref aNx, .int mw_50, .int mwa_51, .int (nI ma_49), .int (nI en), .long mv_43, .int mf_44, .int (nI hw_31n)])), (aMT, .inl (kMT, 65536, .inl B))] H := hP
                          have hD : va_D A [(aNx, .inl (kNx, 52650, .inl (upd nx_29 52638 hw_46v))), (aM, .inr (4, [.int th, .ref aMT, .int (nI mu), .ref aNw, .ref aNx, .int mw_50, .int mwa_51, .int (nI ma_49), .int (nI en), .long mv_43, .int mf_44, .int (nI hw_31n)])), (aMT, .inl (kMT, 65536, .inl B))] := hD
                          rcases hw_52 with ⟨rfl, hw_52a, hw_52b, e1, e2⟩ | ⟨rfl, hw_52b, hw_52k, hw_52a, e2⟩
                          ·
                            have e1 := e1.symm; subst e1
                            have e2 := e2.symm; subst e2
                            refine lv_if_eq (tgt := 85) hx hb d_Md_camera_78 (by decide) (fun c_53 => ?_) (fun c_53 => ?_)
                            ·
                              exact absurd c_53 (by decide)
                            ·
                              refine lv_iconst (v := 1) hx hb d_Md_camera_81 (by decide) ?_
                              refine lv_goto (tgt := 86) hx hb d_Md_camera_82 (by decide) ?_
                              refine zt_size (fun hzs => ?_)
                              have hP9 := hP.sub (ws' := [(aM, .inr (4, [.int th, .ref aMT, .int (nI mu), .ref aNw, .ref aNx, .int mw, .int mwa, .int (nI ma_49), .int (nI en), .long mv_43, .int mf_44, .int (nI hw_31n)])), (aMT, .inl (kMT, 65536, .inl B)), (aNx, .inl (kNx, 52650, .inl (upd nx_29 52638 hw_46v)))]) [1, 2, 0] rfl
                              have hD9 := hD.sub (ws' := [(aM, .inr (4, [.int th, .ref aMT, .int (nI mu), .ref aNw, .ref aNx, .int mw, .int mwa, .int (nI ma_49), .int (nI en), .long mv_43, .int mf_44, .int (nI hw_31n)])), (aMT, .inl (kMT, 65536, .inl B)), (aNx, .inl (kNx, 52650, .inl (upd nx_29 52638 hw_46v)))]) [1, 2, 0] (by decide) rfl
                              exact W.zret (v := 1) hx hb hr rfl (fun t ht hW => ⟨⟨1, (ma_49, mw, mwa, mv_43, mf_44, upd nx_29 52638 hw_46v, nI hw_31n), rfl, Or.inl ⟨rfl, by omega, rfl, rfl, by simp only [mCamera, mListK, mNumK, zB_ok, hw_5a, hw_15a, hw_21a, hw_31a, hw_37a, hw_46a, hw_52a]⟩, by rw [ht]; exact hP9, hD9, by rw [ht]; exact hzs⟩, hS.F ht⟩) hS.2.2 d_Md_camera_86
                          ·
                            have e2 := e2.symm; subst e2
                            refine lv_if_eq (tgt := 85) hx hb d_Md_camera_78 (by decide) (fun c_54 => ?_) (fun c_54 => ?_)
                            ·
                              refine lv_iconst (v := 0) hx hb d_Md_camera_85 (by decide) ?_
                              refine zt_size (fun hzs => ?_)
                              have hP9 := hP.sub (ws' := [(aM, .inr (4, [.int th, .ref aMT, .int (nI mu), .ref aNw, .ref aNx, .int mw_50, .int (nI hw_52k), .int (nI ma_49), .int (nI en), .long mv_43, .int mf_44, .int (nI hw_31n)])), (aMT, .inl (kMT, 65536, .inl B)), (aNx, .inl (kNx, 52650, .inl (upd nx_29 52638 hw_46v)))]) [1, 2, 0] rfl
                              have hD9 := hD.sub (ws' := [(aM, .inr (4, [.int th, .ref aMT, .int (nI mu), .ref aNw, .ref aNx, .int mw_50, .int (nI hw_52k), .int (nI ma_49), .int (nI en), .long mv_43, .int mf_44, .int (nI hw_31n)])), (aMT, .inl (kMT, 65536, .inl B)), (aNx, .inl (kNx, 52650, .inl (upd nx_29 52638 hw_46v)))]) [1, 2, 0] (by decide) rfl
                              exact W.zret (v := 0) hx hb hr rfl (fun t ht hW => ⟨⟨0, (ma_49, mw_50, nI hw_52k, mv_43, mf_44, upd nx_29 52638 hw_46v, nI hw_31n), rfl, Or.inr ⟨rfl, by omega, _, by simp only [mCamera, mListK, mNumK, zB_ok, zB_er, hw_5a, hw_15a, hw_21a, hw_31a, hw_37a, hw_46a, hw_52a], rfl⟩, by rw [ht]; exact hP9, hD9, by rw [ht]; exact hzs⟩, hS.F ht⟩) hS.2.2 d_Md_camera_86
                            ·
                              exact absurd (by decide) c_54
                      ·
                        have e2 := e2.symm; subst e2
                        refine lv_if_eq (tgt := 85) hx hb d_Md_camera_69 (by decide) (fun c_55 => ?_) (fun c_55 => ?_)
                        ·
                          refine lv_iconst (v := 0) hx hb d_Md_camera_85 (by decide) ?_
                          refine zt_size (fun hzs => ?_)
                          have hP9 := hP.sub (ws' := [(aM, .inr (4, [.int th, .ref aMT, .int (nI mu), .ref aNw, .ref aNx, .int mw_41, .int (nI hw_46k), .int (nI ma_40), .int (nI en), .long mv_43, .int mf_44, .int (nI hw_31n)])), (aMT, .inl (kMT, 65536, .inl B)), (aNx, .inl (kNx, 52650, .inl nx_45))]) [0, 1, 2] rfl
                          have hD9 := hD.sub (ws' := [(aM, .inr (4, [.int th, .ref aMT, .int (nI mu), .ref aNw, .ref aNx, .int mw_41, .int (nI hw_46k), .int (nI ma_40), .int (nI en), .long mv_43, .int mf_44, .int (nI hw_31n)])), (aMT, .inl (kMT, 65536, .inl B)), (aNx, .inl (kNx, 52650, .inl nx_45))]) [0, 1, 2] (by decide) rfl
                          exact W.zret (v := 0) hx hb hr rfl (fun t ht hW => ⟨⟨0, (ma_40, mw_41, nI hw_46k, mv_43, mf_44, nx_45, nI hw_31n), rfl, Or.inr ⟨rfl, by omega, _, by simp only [mCamera, mListK, mNumK, zB_ok, zB_er, hw_5a, hw_15a, hw_21a, hw_31a, hw_37a, hw_46a], rfl⟩, by rw [ht]; exact hP9, hD9, by rw [ht]; exact hzs⟩, hS.F ht⟩) hS.2.2 d_Md_camera_86
                        ·
                          exact absurd (by decide) c_55
                  ·
                    have e2 := e2.symm; subst e2
                    refine lv_if_eq (tgt := 85) hx hb d_Md_camera_52 (by decide) (fun c_56 => ?_) (fun c_56 => ?_)
                    ·
                      refine lv_iconst (v := 0) hx hb d_Md_camera_85 (by decide) ?_
                      refine zt_size (fun hzs => ?_)
                      have hP9 := hP.sub (ws' := [(aM, .inr (4, [.int th, .ref aMT, .int (nI mu), .ref aNw, .ref aNx, .int mw_35, .int (nI hw_37k), .int (nI ma_34), .int (nI en), .long mv_27, .int mf_28, .int (nI hw_31n)])), (aMT, .inl (kMT, 65536, .inl B)), (aNx, .inl (kNx, 52650, .inl nx_29))]) [1, 2, 0] rfl
                      have hD9 := hD.sub (ws' := [(aM, .inr (4, [.int th, .ref aMT, .int (nI mu), .ref aNw, .ref aNx, .int mw_35, .int (nI hw_37k), .int (nI ma_34), .int (nI en), .long mv_27, .int mf_28, .int (nI hw_31n)])), (aMT, .inl (kMT, 65536, .inl B)), (aNx, .inl (kNx, 52650, .inl nx_29))]) [1, 2, 0] (by decide) rfl
                      exact W.zret (v := 0) hx hb hr rfl (fun t ht hW => ⟨⟨0, (ma_34, mw_35, nI hw_37k, mv_27, mf_28, nx_29, nI hw_31n), rfl, Or.inr ⟨rfl, by omega, _, by simp only [mCamera, mListK, mNumK, zB_ok, zB_er, hw_5a, hw_15a, hw_21a, hw_31a, hw_37a], rfl⟩, by rw [ht]; exact hP9, hD9, by rw [ht]; exact hzs⟩, hS.F ht⟩) hS.2.2 d_Md_camera_86
                    ·
                      exact absurd (by decide) c_56
              ·
                have e2 := e2.symm; subst e2
                refine lv_if_eq (tgt := 85) hx hb d_Md_camera_43 (by decide) (fun c_57 => ?_) (fun c_57 => ?_)
                ·
                  refine lv_iconst (v := 0) hx hb d_Md_camera_85 (by decide) ?_
                  refine zt_size (fun hzs => ?_)
                  have hP9 := hP.sub (ws' := [(aM, .inr (4, [.int th, .ref aMT, .int (nI mu), .ref aNw, .ref aNx, .int mw_25, .int (nI hw_31k), .int (nI ma_24), .int (nI en), .long mv_27, .int mf_28, .int ml_30])), (aMT, .inl (kMT, 65536, .inl B)), (aNx, .inl (kNx, 52650, .inl nx_29))]) [0, 1, 2] rfl
                  have hD9 := hD.sub (ws' := [(aM, .inr (4, [.int th, .ref aMT, .int (nI mu), .ref aNw, .ref aNx, .int mw_25, .int (nI hw_31k), .int (nI ma_24), .int (nI en), .long mv_27, .int mf_28, .int ml_30])), (aMT, .inl (kMT, 65536, .inl B)), (aNx, .inl (kNx, 52650, .inl nx_29))]) [0, 1, 2] (by decide) rfl
                  exact W.zret (v := 0) hx hb hr rfl (fun t ht hW => ⟨⟨0, (ma_24, mw_25, nI hw_31k, mv_27, mf_28, nx_29, ml_30), rfl, Or.inr ⟨rfl, by omega, _, by simp only [mCamera, mListK, mNumK, zB_ok, zB_er, hw_5a, hw_15a, hw_21a, hw_31a], rfl⟩, by rw [ht]; exact hP9, hD9, by rw [ht]; exact hzs⟩, hS.F ht⟩) hS.2.2 d_Md_camera_86
                ·
                  exact absurd (by decide) c_57
          ·
            have e2 := e2.symm; subst e2
            refine lv_if_eq (tgt := 85) hx hb d_Md_camera_29 (by decide) (fun c_58 => ?_) (fun c_58 => ?_)
            ·
              refine lv_iconst (v := 0) hx hb d_Md_camera_85 (by decide) ?_
              refine zt_size (fun hzs => ?_)
              have hP9 := hP.sub (ws' := [(aM, .inr (4, [.int th, .ref aMT, .int (nI mu), .ref aNw, .ref aNx, .int mw_19, .int (nI hw_21k), .int (nI ma_18), .int (nI en), .long mv_11, .int mf_12, .int (nI hw_15n)])), (aMT, .inl (kMT, 65536, .inl B)), (aNx, .inl (kNx, 52650, .inl nx_13))]) [1, 2, 0] rfl
              have hD9 := hD.sub (ws' := [(aM, .inr (4, [.int th, .ref aMT, .int (nI mu), .ref aNw, .ref aNx, .int mw_19, .int (nI hw_21k), .int (nI ma_18), .int (nI en), .long mv_11, .int mf_12, .int (nI hw_15n)])), (aMT, .inl (kMT, 65536, .inl B)), (aNx, .inl (kNx, 52650, .inl nx_13))]) [1, 2, 0] (by decide) rfl
              exact W.zret (v := 0) hx hb hr rfl (fun t ht hW => ⟨⟨0, (ma_18, mw_19, nI hw_21k, mv_11, mf_12, nx_13, nI hw_15n), rfl, Or.inr ⟨rfl, by omega, _, by simp only [mCamera, mListK, mNumK, zB_ok, zB_er, hw_5a, hw_15a, hw_21a], rfl⟩, by rw [ht]; exact hP9, hD9, by rw [ht]; exact hzs⟩, hS.F ht⟩) hS.2.2 d_Md_camera_86
            ·
              exact absurd (by decide) c_58
      ·
        have e2 := e2.symm; subst e2
        refine lv_if_eq (tgt := 85) hx hb d_Md_camera_20 (by decide) (fun c_59 => ?_) (fun c_59 => ?_)
        ·
          refine lv_iconst (v := 0) hx hb d_Md_camera_85 (by decide) ?_
          refine zt_size (fun hzs => ?_)
          have hP9 := hP.sub (ws' := [(aM, .inr (4, [.int th, .ref aMT, .int (nI mu), .ref aNw, .ref aNx, .int mw_9, .int (nI hw_15k), .int (nI ma_8), .int (nI en), .long mv_11, .int mf_12, .int ml_14])), (aMT, .inl (kMT, 65536, .inl B)), (aNx, .inl (kNx, 52650, .inl nx_13))]) [0, 1, 2] rfl
          have hD9 := hD.sub (ws' := [(aM, .inr (4, [.int th, .ref aMT, .int (nI mu), .ref aNw, .ref aNx, .int mw_9, .int (nI hw_15k), .int (nI ma_8), .int (nI en), .long mv_11, .int mf_12, .int ml_14])), (aMT, .inl (kMT, 65536, .inl B)), (aNx, .inl (kNx, 52650, .inl nx_13))]) [0, 1, 2] (by decide) rfl
          exact W.zret (v := 0) hx hb hr rfl (fun t ht hW => ⟨⟨0, (ma_8, mw_9, nI hw_15k, mv_11, mf_12, nx_13, ml_14), rfl, Or.inr ⟨rfl, by omega, _, by simp only [mCamera, mListK, mNumK, zB_ok, zB_er, hw_5a, hw_15a], rfl⟩, by rw [ht]; exact hP9, hD9, by rw [ht]; exact hzs⟩, hS.F ht⟩) hS.2.2 d_Md_camera_86
        ·
          exact absurd (by decide) c_59
  ·
    have e2 := e2.symm; subst e2
    refine lv_if_eq (tgt := 85) hx hb d_Md_camera_6 (by decide) (fun c_60 => ?_) (fun c_60 => ?_)
    ·
      refine lv_iconst (v := 0) hx hb d_Md_camera_85 (by decide) ?_
      refine zt_size (fun hzs => ?_)
      have hP9 := hP.sub (ws' := [(aM, .inr (4, [.int th, .ref aMT, .int (nI mu), .ref aNw, .ref aNx, .int mw_3, .int (nI hw_5k), .int (nI ma_2), .int (nI en), .long mv, .int mf, .int ml])), (aMT, .inl (kMT, 65536, .inl B)), (aNx, .inl (kNx, 52650, .inl nx))]) [1, 2, 0] rfl
      have hD9 := hD.sub (ws' := [(aM, .inr (4, [.int th, .ref aMT, .int (nI mu), .ref aNw, .ref aNx, .int mw_3, .int (nI hw_5k), .int (nI ma_2), .int (nI en), .long mv, .int mf, .int ml])), (aMT, .inl (kMT, 65536, .inl B)), (aNx, .inl (kNx, 52650, .inl nx))]) [1, 2, 0] (by decide) rfl
      exact W.zret (v := 0) hx hb hr rfl (fun t ht hW => ⟨⟨0, (ma_2, mw_3, nI hw_5k, mv, mf, nx, ml), rfl, Or.inr ⟨rfl, by omega, _, by simp only [mCamera, mListK, mNumK, zB_ok, zB_er, hw_5a], rfl⟩, by rw [ht]; exact hP9, hD9, by rw [ht]; exact hzs⟩, hS.F ht⟩) hS.2.2 d_Md_camera_86
    ·
      exact absurd (by decide) c_60
