set_option maxHeartbeats 4000000 in
set_option maxRecDepth 100000 in
theorem lp_Tp_takesWord (l : Launch) (G : ZG) (dC : Nat → ClassId) (dI : Nat → Nat → Nat) (aT : Nat) (aB : Nat) (u : Nat) (en : Nat) (h : Nat) (na : Int32) (w : Int32) (wa : Int32) (kB : ClassId) (B : Nat → Int32) (ks : Nat) (hen : en ≤ 65536) (hh : h ≤ en) (hks : ks < 33) (hL : (zSb ks).length ≤ 17) {p : Program} {e : Env} {s : State} {m : MethodId} {args : Array Value} {below : List Frame} {meth : Method} {c : Code} {A : Nat → Prop} (C0 : zC p s m args meth c prog_4_method_11_code 5 (some .boolean) R_Tp w_Tp_takesWord) (hA : ∀ q : Nat, s.heap.size ≤ q → A q) (hK : va_K (dC, dI) vwCl [(kB, .byte)] s) (hE : zE G A s s.heap) : ∀ (n : Nat) (i : Nat), (i ≤ (zSb ks).length) → ((zSb ks).length + 1 ≤ i + n) → (∀ j, j < i → B (h + 1 + j) = (zSb ks).getD j 0) → (h + 1 + (zSb ks).length < en) → (B h = 34) → (B (h + 1 + (zSb ks).length) = 34) → ∀ (H : Heap) (locs : List Loc), va_P (dC, dI) vwCl [(aT, .inr (2, [.ref aB, .int (nI u), .int (nI en), .int (nI h), .int na, .int w, .int wa])), (aB, .inl (kB, 65536, .inl B))] H → va_D A [(aT, .inr (2, [.ref aB, .int (nI u), .int (nI en), .int (nI h), .int na, .int w, .int wa])), (aB, .inl (kB, 65536, .inl B))] → va_S A s.heap H locs → ∀ (ls : Array Slot), lv_has ls 5 [(0, .ref aT), (1, .ref (G.2.1 ks)), (2, .int (nI ((zSb ks).length))), (3, .int (nI (h + 1 + (zSb ks).length))), (4, .int (nI i))] → W p l e ({ frames := 4, cells := 0, slots := 0, locals := 85 }) s m args below meth c H locs 0 0 (MQ below (va_Qi (fun (r : Int32) (uu : Nat) => (r = 1 ∧ zWord B en (zSb ks) h = some uu) ∨ (r = 0 ∧ uu = h ∧ zWord B en (zSb ks) h = none)) (fun (uu : Nat) t => BW (dC, dI) [(aT, .inr (2, [.ref aB, .int (nI u), .int (nI en), .int (nI uu), .int na, .int w, .int wa])), (aB, .inl (kB, 65536, .inl B))] A s.heap.size t) A) args s 0 0 A) (F0 m 52 ls []) := by
  obtain ⟨hx, hb, hr, hml, hown, hts, hlocks⟩ := C0
  have hz : ∀ w ∈ ZW, w.before _ s = true := fun w h => hts w (List.mem_cons_of_mem _ h)
  intro n
  induction n with
  | zero =>
    intro i hi hn ha hq1 hq2 hq3 H locs hP hD hS ls hl
    exact absurd hn (by omega)
  | succ n ih =>
    intro i hi hn ha hq1 hq2 hq3 H locs hP hD hS ls hl
    refine lv_iload hx hb d_Tp_takesWord_52 (lv_at hl 4 rfl) ?_
    refine lv_iload_n hx hb d_Tp_takesWord_54 rfl (lv_at hl 2 rfl) ?_
    refine lv_icmp_ge (tgt := 89) hx hb d_Tp_takesWord_55 (by decide) (fun c_1 => ?_) (fun c_1 => ?_)
    ·
      have c_1 : ((zSb ks).length) ≤ i := (@nI_leI ((zSb ks).length) i (by omega) (by omega)).mp c_1
      refine lv_aload_n hx hb d_Tp_takesWord_89 rfl (lv_at hl 0 rfl) ?_
      refine lv_iload_n hx hb d_Tp_takesWord_90 rfl (lv_at hl 3 rfl) ?_
      refine lv_iconst (v := 1) hx hb d_Tp_takesWord_91 (by decide) ?_
      refine lv_iadd hx hb d_Tp_takesWord_92 ?_
      refine zt_top (nI_add (h + 1 + (zSb ks).length) 1) ?_
      have hPc := hP.sub (ws' := [(aT, .inr (2, [.ref aB, .int (nI u), .int (nI en), .int (nI h), .int na, .int w, .int wa])), (aB, .inl (kB, 65536, .inl B))]) [0, 1] rfl
      have hDc := hD.sub (ws' := [(aT, .inr (2, [.ref aB, .int (nI u), .int (nI en), .int (nI h), .int na, .int w, .int wa])), (aB, .inl (kB, 65536, .inl B))]) [0, 1] (by decide) rfl
      have hKc := hK.sub (tys' := [(kB, .byte)]) [0] rfl
      have hFc := va_free (wc := [(aT, .inr (2, [.ref aB, .int (nI u), .int (nI en), .int (nI h), .int na, .int w, .int wa])), (aB, .inl (kB, 65536, .inl B))]) hD hS hA [0, 1] rfl
      refine va_callv (va_runV (As := [.int (nI ((h + 1 + (zSb ks).length) + 1))]) (rest := []) ⟨hx, hb, hml, hown, hts⟩ (c_Tp_goOnFrom l G dC dI H.size aT aB u en h na w wa kB B ((h + 1 + (zSb ks).length) + 1) (by omega) (by omega)) (cwV 1 hts (gV tw_209 tw_211 ts_5 tw_3 tw_212 rfl) rfl rfl rfl (by decide +kernel) ⟨Nat.le_of_ble_eq_true rfl, Nat.le_of_ble_eq_true rfl⟩) (PW_preV hPc hKc hDc hE hS hFc (ci := 2) (q0 := 0) rfl rfl) rfl rfl hl.1 rfl (lv_room (Nat.le_of_ble_eq_true rfl)) d_Tp_takesWord_93 ⟨Nat.le_of_ble_eq_true rfl, Nat.le_of_ble_eq_true rfl⟩) hS (fun q _ h => hFc q h) hFc (fun uu t H1 locs ht hvm hw_4 hB hz1 hk1 hS => ?_)
      obtain ⟨h_3, rfl⟩ : ∃ z, z = uu := ⟨_, rfl⟩
      obtain ⟨hP1, hD1, hsz1⟩ := hB
      rw [ht] at hP1 hsz1
      obtain ⟨hP, hD⟩ := va_join (wr := []) (w1 := [(aT, .inr (2, [.ref aB, .int (nI u), .int (nI en), .int (nI h_3), .int na, .int w, .int wa])), (aB, .inl (kB, 65536, .inl B))]) hP hD [0, 1] [] rfl rfl (by decide) (by decide) hk1 hFc hP1 hD1
      generalize H1 = H at hP hS ⊢
      have hP : va_P (dC, dI) vwCl [(aT, .inr (2, [.ref aB, .int (nI u), .int (nI en), .int (nI h_3), .int na, .int w, .int wa])), (aB, .inl (kB, 65536, .inl B))] H := hP
      have hD : va_D A [(aT, .inr (2, [.ref aB, .int (nI u), .int (nI en), .int (nI h_3), .int na, .int w, .int wa])), (aB, .inl (kB, 65536, .inl B))] := hD
      refine lv_iconst (v := 1) hx hb d_Tp_takesWord_96 (by decide) ?_
      refine zt_size (fun hzs => ?_)
      have hP9 := hP.sub (ws' := [(aT, .inr (2, [.ref aB, .int (nI u), .int (nI en), .int (nI h_3), .int na, .int w, .int wa])), (aB, .inl (kB, 65536, .inl B))]) [0, 1] rfl
      have hD9 := hD.sub (ws' := [(aT, .inr (2, [.ref aB, .int (nI u), .int (nI en), .int (nI h_3), .int na, .int w, .int wa])), (aB, .inl (kB, 65536, .inl B))]) [0, 1] (by decide) rfl
      exact W.zret (v := 1) hx hb hr rfl (fun t ht hW => ⟨⟨1, h_3, rfl, Or.inl ⟨rfl, by unfold zWord; rw [if_pos ⟨hq1, hq2, hq3, fun j hj => ha j (by omega)⟩, hw_4]⟩, by rw [ht]; exact hP9, hD9, by rw [ht]; exact hzs⟩, hS.F ht⟩) hS.2.2 d_Tp_takesWord_97
    ·
      have c_1 : ¬ (((zSb ks).length) ≤ i) := fun z => c_1 ((@nI_leI ((zSb ks).length) i (by omega) (by omega)).mpr z)
      refine lv_aload_n hx hb d_Tp_takesWord_58 rfl (lv_at hl 0 rfl) ?_
      refine va_get (D := (dC, dI)) (ci := 2) (v := .ref aB) (C := R_Tp) (T := F_Tp) (N := 7) hx hb hz i_Tp hown hK hP 0 rfl rfl 0 (by decide) (hz _ tw_35) (fun _ h9 => h9) rfl d_Tp_takesWord_59 ?_
      refine lv_aload_n hx hb d_Tp_takesWord_62 rfl (lv_at hl 0 rfl) ?_
      refine va_get (D := (dC, dI)) (ci := 2) (v := .int (nI h)) (C := R_Tp) (T := F_Tp) (N := 7) hx hb hz i_Tp hown hK hP 0 rfl rfl 3 (by decide) (hz _ tw_39) (fun _ h9 => h9) rfl d_Tp_takesWord_63 ?_
      refine lv_iconst (v := 1) hx hb d_Tp_takesWord_66 (by decide) ?_
      refine lv_iadd hx hb d_Tp_takesWord_67 ?_
      refine zt_top (nI_add h 1) ?_
      refine lv_iload hx hb d_Tp_takesWord_68 (lv_at hl 4 rfl) ?_
      refine lv_iadd hx hb d_Tp_takesWord_70 ?_
      refine zt_top (nI_add (h + 1) i) ?_
      refine va_bald (D := (dC, dI)) (i := nI ((h + 1) + i)) hx hb hK hP 1 0 rfl rfl (vp_in_nI (by omega) (by decide)) d_Tp_takesWord_71 ?_
      refine zt_top (by rw [nI_clamp (by omega)]) ?_
      refine lv_aload_n hx hb d_Tp_takesWord_72 rfl (lv_at hl 1 rfl) ?_
      refine lv_iload hx hb d_Tp_takesWord_73 (lv_at hl 4 rfl) ?_
      have hPc := hP.sub (ws' := []) [] rfl
      have hDc := hD.sub (ws' := []) [] (by decide) rfl
      have hKc := hK.sub (tys' := []) [] rfl
      have hFc := va_free (wc := []) hD hS hA [] rfl
      refine va_calli (va_runV (As := [.int (nI i)]) (rest := [.int (B ((h + 1) + i))]) ⟨hx, hb, hml, hown, hts⟩ (c_JS_charAt l G dC dI H.size ks i (by omega) (by omega) (by omega)) (cwV 1 hts (gV tw_316 tw_317 tw_318 tw_10 tw_319 rfl) rfl rfl rfl (by decide +kernel) ⟨Nat.le_of_ble_eq_true rfl, Nat.le_of_ble_eq_true rfl⟩) (PW_preO (hE.2.2.2.2.2.2.2 ks hks).1.1 hPc hKc hDc hE hS hFc) rfl rfl hl.1 rfl (lv_room (Nat.le_of_ble_eq_true rfl)) d_Tp_takesWord_75 ⟨Nat.le_of_ble_eq_true rfl, Nat.le_of_ble_eq_true rfl⟩) hS (fun q _ h => hFc q h) hFc (fun r_5 uu t H1 locs ht hvm hw_6 hB hz1 hk1 hS => ?_)
      obtain ⟨hP1, hD1, hsz1⟩ := hB
      rw [ht] at hP1 hsz1
      obtain ⟨hP, hD⟩ := va_join (wr := [(aT, .inr (2, [.ref aB, .int (nI u), .int (nI en), .int (nI h), .int na, .int w, .int wa])), (aB, .inl (kB, 65536, .inl B))]) (w1 := []) hP hD [] [0, 1] rfl rfl (by decide) (by decide) hk1 hFc hP1 hD1
      generalize H1 = H at hP hS ⊢
      have hP : va_P (dC, dI) vwCl [(aT, .inr (2, [.ref aB, .int (nI u), .int (nI en), .int (nI h), .int na, .int w, .int wa])), (aB, .inl (kB, 65536, .inl B))] H := hP
      have hD : va_D A [(aT, .inr (2, [.ref aB, .int (nI u), .int (nI en), .int (nI h), .int na, .int w, .int wa])), (aB, .inl (kB, 65536, .inl B))] := hD
      refine lv_icmp_eq (tgt := 83) hx hb d_Tp_takesWord_78 (by decide) (fun c_7 => ?_) (fun c_7 => ?_)
      ·
        refine lv_iinc (v := nI (i + 1)) (lv' := [(4, .int (nI (i + 1))), (0, .ref aT), (1, .ref (G.2.1 ks)), (2, .int (nI ((zSb ks).length))), (3, .int (nI (h + 1 + (zSb ks).length)))]) hx hb d_Tp_takesWord_83 hl (k := 4) rfl (nI_add i 1) (by decide) rfl (fun ls hl => ?_)
        refine lv_goto (tgt := 52) hx hb d_Tp_takesWord_86 (by decide) ?_
        exact ih (i + 1) (by omega) (by omega) (fun j hj => (Nat.lt_or_ge j i).elim (fun q => ha j q) (fun q => by rw [show j = i by omega]; exact c_7.trans hw_6)) hq1 hq2 hq3 _ _ (hP.sub [0, 1] rfl) (hD.sub [0, 1] (by decide) rfl) hS ls (lv_sub hl [1, 2, 3, 4, 0] rfl)
      ·
        refine lv_iconst (v := 0) hx hb d_Tp_takesWord_81 (by decide) ?_
        refine zt_size (fun hzs => ?_)
        have hP9 := hP.sub (ws' := [(aT, .inr (2, [.ref aB, .int (nI u), .int (nI en), .int (nI h), .int na, .int w, .int wa])), (aB, .inl (kB, 65536, .inl B))]) [0, 1] rfl
        have hD9 := hD.sub (ws' := [(aT, .inr (2, [.ref aB, .int (nI u), .int (nI en), .int (nI h), .int na, .int w, .int wa])), (aB, .inl (kB, 65536, .inl B))]) [0, 1] (by decide) rfl
        exact W.zret (v := 0) hx hb hr rfl (fun t ht hW => ⟨⟨0, h, rfl, Or.inr ⟨rfl, rfl, by unfold zWord; rw [if_neg (fun z => c_7 ((z.2.2.2 i (by omega)).trans hw_6.symm))]⟩, by rw [ht]; exact hP9, hD9, by rw [ht]; exact hzs⟩, hS.F ht⟩) hS.2.2 d_Tp_takesWord_82
set_option maxHeartbeats 4000000 in
set_option maxRecDepth 100000 in
theorem c_Tp_takesWord (l : Launch) (G : ZG) (dC : Nat → ClassId) (dI : Nat → Nat → Nat) (sz : Nat) (aT : Nat) (aB : Nat) (u : Nat) (en : Nat) (h : Nat) (na : Int32) (w : Int32) (wa : Int32) (kB : ClassId) (B : Nat → Int32) (ks : Nat) (hen : en ≤ 65536) (hh : h ≤ en) (hks : ks < 33) (hL : (zSb ks).length ≤ 17) : Met l y_Tp_takesWord w_Tp_takesWord ({ frames := 4, cells := 0, slots := 0, locals := 85 }) (va_Pc [.ref aT, .ref (G.2.1 ks)] (PW G (dC, dI) [(kB, .byte)] [(aT, .inr (2, [.ref aB, .int (nI u), .int (nI en), .int (nI h), .int na, .int w, .int wa])), (aB, .inl (kB, 65536, .inl B))] sz)) (va_Qi (fun (r : Int32) (uu : Nat) => (r = 1 ∧ zWord B en (zSb ks) h = some uu) ∨ (r = 0 ∧ uu = h ∧ zWord B en (zSb ks) h = none)) (fun (uu : Nat) t => BW (dC, dI) [(aT, .inr (2, [.ref aB, .int (nI u), .int (nI en), .int (nI uu), .int na, .int w, .int wa])), (aB, .inl (kB, 65536, .inl B))] (va_A [(aT, .inr (2, [.ref aB, .int (nI u), .int (nI en), .int (nI h), .int na, .int w, .int wa])), (aB, .inl (kB, 65536, .inl B))] sz) sz t) (va_A [(aT, .inr (2, [.ref aB, .int (nI u), .int (nI en), .int (nI h), .int na, .int w, .int wa])), (aB, .inl (kB, 65536, .inl B))] sz)) 0 0 (va_A [(aT, .inr (2, [.ref aB, .int (nI u), .int (nI en), .int (nI h), .int na, .int w, .int wa])), (aB, .inl (kB, 65536, .inl B))] sz) := by
  refine Met.ofW (cc := prog_4_method_11_code) (maxL := 5) (ret := (some .boolean)) (by decide) rfl ?_
  intro p e s m args below meth c s₁ Bd hml hv
  obtain ⟨rfl, hsz, hP, hK, hD0, hE⟩ := hv
  have hx := Bd.exec
  have hb := Bd.bytes
  have hr := Bd.returns
  have hts := atoms_spec (ws := w_Tp_takesWord) Bd.pre
  have hown : s.vm.findClass R_Tp = some m.cls := findClass_of_methodNamed Bd.named
  have hlocks := Bd.notSynchronized
  have hz : ∀ w ∈ ZW, w.before _ s = true := fun w h => hts w (List.mem_cons_of_mem _ h)
  subst hsz
  have hD := hD0.self (sz := s.heap.size)
  generalize hAe : va_A [(aT, .inr (2, [.ref aB, .int (nI u), .int (nI en), .int (nI h), .int na, .int w, .int wa])), (aB, .inl (kB, 65536, .inl B))] s.heap.size = A at hD hE ⊢
  have hA : ∀ q : Nat, s.heap.size ≤ q → A q := fun q h => by rw [← hAe]; exact Or.inr h
  have hS : va_S A s.heap s.heap [] := va_S.rf
  have hl := lv_entry ([.ref aT, .ref (G.2.1 ks)]) (n := 5) (Nat.le_of_ble_eq_true rfl)
  rw [lg_entry_eq]
  generalize (lg_sl ([.ref aT, .ref (G.2.1 ks)]) ++ List.replicate (5 - (lg_sl ([.ref aT, .ref (G.2.1 ks)])).length) Slot.unset).toArray = ls at hl ⊢
  have hl : lv_has ls 5 [(0, .ref aT), (1, .ref (G.2.1 ks))] := hl
  obtain ⟨H, hH⟩ : ∃ z, z = s.heap := ⟨_, rfl⟩
  have hP : va_P (dC, dI) vwCl [(aT, .inr (2, [.ref aB, .int (nI u), .int (nI en), .int (nI h), .int na, .int w, .int wa])), (aB, .inl (kB, 65536, .inl B))] H := by rw [hH]; exact hP
  have hS : va_S A s.heap H [] := by rw [hH]; exact hS
  refine zt_heap hH ?_
  refine lv_aload_n hx hb d_Tp_takesWord_0 rfl (lv_at hl 1 rfl) ?_
  have hPc := hP.sub (ws' := []) [] rfl
  have hDc := hD.sub (ws' := []) [] (by decide) rfl
  have hKc := hK.sub (tys' := []) [] rfl
  have hFc := va_free (wc := []) hD hS hA [] rfl
  refine va_calli (va_runV (As := []) (rest := []) ⟨hx, hb, hml, hown, hts⟩ (c_JS_length l G dC dI H.size ks (by omega) (by omega)) (cwV 0 hts (gV tw_306 tw_307 tw_308 tw_10 tw_309 rfl) rfl rfl rfl (by decide +kernel) ⟨Nat.le_of_ble_eq_true rfl, Nat.le_of_ble_eq_true rfl⟩) (PW_preO (hE.2.2.2.2.2.2.2 ks hks).1.1 hPc hKc hDc hE hS hFc) rfl rfl hl.1 rfl (lv_room (Nat.le_of_ble_eq_true rfl)) d_Tp_takesWord_1 ⟨Nat.le_of_ble_eq_true rfl, Nat.le_of_ble_eq_true rfl⟩) hS (fun q _ h => hFc q h) hFc (fun r_1 uu t H1 locs ht hvm hw_2 hB hz1 hk1 hS => ?_)
  obtain ⟨hP1, hD1, hsz1⟩ := hB
  rw [ht] at hP1 hsz1
  obtain ⟨hP, hD⟩ := va_join (wr := [(aT, .inr (2, [.ref aB, .int (nI u), .int (nI en), .int (nI h), .int na, .int w, .int wa])), (aB, .inl (kB, 65536, .inl B))]) (w1 := []) hP hD [] [0, 1] rfl rfl (by decide) (by decide) hk1 hFc hP1 hD1
  generalize H1 = H at hP hS ⊢
  have hP : va_P (dC, dI) vwCl [(aT, .inr (2, [.ref aB, .int (nI u), .int (nI en), .int (nI h), .int na, .int w, .int wa])), (aB, .inl (kB, 65536, .inl B))] H := hP
  have hD : va_D A [(aT, .inr (2, [.ref aB, .int (nI u), .int (nI en), .int (nI h), .int na, .int w, .int wa])), (aB, .inl (kB, 65536, .inl B))] := hD
  subst hw_2
  refine lv_istore_n (lv' := [(2, .int (nI ((zSb ks).length))), (0, .ref aT), (1, .ref (G.2.1 ks))]) hx hb d_Tp_takesWord_4 rfl hl (by decide) rfl (fun ls hl => ?_)
  refine lv_aload_n hx hb d_Tp_takesWord_5 rfl (lv_at hl 1 rfl) ?_
  refine va_get (D := (dC, dI)) (ci := 2) (v := .int (nI h)) (C := R_Tp) (T := F_Tp) (N := 7) hx hb hz i_Tp hown hK hP 0 rfl rfl 3 (by decide) (hz _ tw_39) (fun _ h9 => h9) rfl d_Tp_takesWord_6 ?_
  refine lv_iconst (v := 1) hx hb d_Tp_takesWord_9 (by decide) ?_
  refine lv_iadd hx hb d_Tp_takesWord_10 ?_
  refine zt_top (nI_add h 1) ?_
  refine lv_iload_n hx hb d_Tp_takesWord_11 rfl (lv_at hl 0 rfl) ?_
  refine lv_iadd hx hb d_Tp_takesWord_12 ?_
  refine zt_top (nI_add (h + 1) ((zSb ks).length)) ?_
  refine lv_istore_n (lv' := [(3, .int (nI ((h + 1) + ((zSb ks).length)))), (2, .int (nI ((zSb ks).length))), (0, .ref aT), (1, .ref (G.2.1 ks))]) hx hb d_Tp_takesWord_13 rfl hl (by decide) rfl (fun ls hl => ?_)
  refine lv_iload_n hx hb d_Tp_takesWord_14 rfl (lv_at hl 0 rfl) ?_
  refine lv_aload_n hx hb d_Tp_takesWord_15 rfl (lv_at hl 2 rfl) ?_
  refine va_get (D := (dC, dI)) (ci := 2) (v := .int (nI en)) (C := R_Tp) (T := F_Tp) (N := 7) hx hb hz i_Tp hown hK hP 0 rfl rfl 2 (by decide) (hz _ tw_38) (fun _ h9 => h9) rfl d_Tp_takesWord_16 ?_
  refine lv_icmp_ge (tgt := 47) hx hb d_Tp_takesWord_19 (by decide) (fun c_3 => ?_) (fun c_3 => ?_)
  ·
    have c_3 : en ≤ ((h + 1) + ((zSb ks).length)) := (@nI_leI en ((h + 1) + ((zSb ks).length)) (by omega) (by omega)).mp c_3
    refine lv_iconst (v := 0) hx hb d_Tp_takesWord_47 (by decide) ?_
    refine zt_size (fun hzs => ?_)
    have hP9 := hP.sub (ws' := [(aT, .inr (2, [.ref aB, .int (nI u), .int (nI en), .int (nI h), .int na, .int w, .int wa])), (aB, .inl (kB, 65536, .inl B))]) [0, 1] rfl
    have hD9 := hD.sub (ws' := [(aT, .inr (2, [.ref aB, .int (nI u), .int (nI en), .int (nI h), .int na, .int w, .int wa])), (aB, .inl (kB, 65536, .inl B))]) [0, 1] (by decide) rfl
    exact W.zret (v := 0) hx hb hr rfl (fun t ht hW => ⟨⟨0, h, rfl, Or.inr ⟨rfl, rfl, by unfold zWord; rw [if_neg (fun z => absurd z.1 (by omega))]⟩, by rw [ht]; exact hP9, hD9, by rw [ht]; exact hzs⟩, hS.F ht⟩) hS.2.2 d_Tp_takesWord_48
  ·
    have c_3 : ¬ (en ≤ ((h + 1) + ((zSb ks).length))) := fun z => c_3 ((@nI_leI en ((h + 1) + ((zSb ks).length)) (by omega) (by omega)).mpr z)
    refine lv_aload_n hx hb d_Tp_takesWord_22 rfl (lv_at hl 2 rfl) ?_
    refine va_get (D := (dC, dI)) (ci := 2) (v := .ref aB) (C := R_Tp) (T := F_Tp) (N := 7) hx hb hz i_Tp hown hK hP 0 rfl rfl 0 (by decide) (hz _ tw_35) (fun _ h9 => h9) rfl d_Tp_takesWord_23 ?_
    refine lv_aload_n hx hb d_Tp_takesWord_26 rfl (lv_at hl 2 rfl) ?_
    refine va_get (D := (dC, dI)) (ci := 2) (v := .int (nI h)) (C := R_Tp) (T := F_Tp) (N := 7) hx hb hz i_Tp hown hK hP 0 rfl rfl 3 (by decide) (hz _ tw_39) (fun _ h9 => h9) rfl d_Tp_takesWord_27 ?_
    refine va_bald (D := (dC, dI)) (i := nI h) hx hb hK hP 1 0 rfl rfl (vp_in_nI (by omega) (by decide)) d_Tp_takesWord_30 ?_
    refine zt_top (by rw [nI_clamp (by omega)]) ?_
    refine lv_bipush (v := 34) hx hb d_Tp_takesWord_31 (by decide) ?_
    refine lv_icmp_ne (tgt := 47) hx hb d_Tp_takesWord_33 (by decide) (fun c_4 => ?_) (fun c_4 => ?_)
    ·
      refine lv_iconst (v := 0) hx hb d_Tp_takesWord_47 (by decide) ?_
      refine zt_size (fun hzs => ?_)
      have hP9 := hP.sub (ws' := [(aT, .inr (2, [.ref aB, .int (nI u), .int (nI en), .int (nI h), .int na, .int w, .int wa])), (aB, .inl (kB, 65536, .inl B))]) [0, 1] rfl
      have hD9 := hD.sub (ws' := [(aT, .inr (2, [.ref aB, .int (nI u), .int (nI en), .int (nI h), .int na, .int w, .int wa])), (aB, .inl (kB, 65536, .inl B))]) [0, 1] (by decide) rfl
      exact W.zret (v := 0) hx hb hr rfl (fun t ht hW => ⟨⟨0, h, rfl, Or.inr ⟨rfl, rfl, by unfold zWord; rw [if_neg (fun z => c_4 z.2.1)]⟩, by rw [ht]; exact hP9, hD9, by rw [ht]; exact hzs⟩, hS.F ht⟩) hS.2.2 d_Tp_takesWord_48
    ·
      refine lv_aload_n hx hb d_Tp_takesWord_36 rfl (lv_at hl 2 rfl) ?_
      refine va_get (D := (dC, dI)) (ci := 2) (v := .ref aB) (C := R_Tp) (T := F_Tp) (N := 7) hx hb hz i_Tp hown hK hP 0 rfl rfl 0 (by decide) (hz _ tw_35) (fun _ h9 => h9) rfl d_Tp_takesWord_37 ?_
      refine lv_iload_n hx hb d_Tp_takesWord_40 rfl (lv_at hl 0 rfl) ?_
      refine va_bald (D := (dC, dI)) (i := nI ((h + 1) + ((zSb ks).length))) hx hb hK hP 1 0 rfl rfl (vp_in_nI (by omega) (by decide)) d_Tp_takesWord_41 ?_
      refine zt_top (by rw [nI_clamp (by omega)]) ?_
      refine lv_bipush (v := 34) hx hb d_Tp_takesWord_42 (by decide) ?_
      refine lv_icmp_eq (tgt := 49) hx hb d_Tp_takesWord_44 (by decide) (fun c_5 => ?_) (fun c_5 => ?_)
      ·
        refine lv_iconst (v := 0) hx hb d_Tp_takesWord_49 (by decide) ?_
        refine lv_istore (lv' := [(4, .int 0), (3, .int (nI ((h + 1) + ((zSb ks).length)))), (2, .int (nI ((zSb ks).length))), (0, .ref aT), (1, .ref (G.2.1 ks))]) hx hb d_Tp_takesWord_50 hl (by decide) rfl (fun ls hl => ?_)
        exact lp_Tp_takesWord l G dC dI aT aB u en h na w wa kB B ks hen hh hks hL ⟨hx, hb, hr, hml, hown, hts, hlocks⟩ hA hK hE ((zSb ks).length + 1) 0 (by omega) (by omega) (fun j hj => absurd hj (by omega)) (by omega) c_4 c_5 _ _ (hP.sub [0, 1] rfl) (hD.sub [0, 1] (by decide) rfl) hS ls (lv_sub hl [3, 4, 2, 1, 0] rfl)
      ·
        refine lv_iconst (v := 0) hx hb d_Tp_takesWord_47 (by decide) ?_
        refine zt_size (fun hzs => ?_)
        have hP9 := hP.sub (ws' := [(aT, .inr (2, [.ref aB, .int (nI u), .int (nI en), .int (nI h), .int na, .int w, .int wa])), (aB, .inl (kB, 65536, .inl B))]) [0, 1] rfl
        have hD9 := hD.sub (ws' := [(aT, .inr (2, [.ref aB, .int (nI u), .int (nI en), .int (nI h), .int na, .int w, .int wa])), (aB, .inl (kB, 65536, .inl B))]) [0, 1] (by decide) rfl
        exact W.zret (v := 0) hx hb hr rfl (fun t ht hW => ⟨⟨0, h, rfl, Or.inr ⟨rfl, rfl, by unfold zWord; rw [if_neg (fun z => c_5 z.2.2.1)]⟩, by rw [ht]; exact hP9, hD9, by rw [ht]; exact hzs⟩, hS.F ht⟩) hS.2.2 d_Tp_takesWord_48
