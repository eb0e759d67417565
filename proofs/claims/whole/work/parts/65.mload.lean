set_option maxHeartbeats 4000000 in
set_option maxRecDepth 100000 in
theorem lp_Md_nothing (l : Launch) (G : ZG) (dC : Nat → ClassId) (dI : Nat → Nat → Nat) (aM : Nat) (th : Int32) (aMT : Nat) (mu : Nat) (aNw : Nat) (aNx : Nat) (mw : Int32) (mwa : Int32) (ma : Nat) (en : Nat) (mv : Int64) (mf : Int32) (ml : Int32) (kNx : ClassId) (nx : Nat → Int32) {p : Program} {e : Env} {s : State} {m : MethodId} {args : Array Value} {below : List Frame} {meth : Method} {c : Code} {A : Nat → Prop} (C0 : zC p s m args meth c prog_6_method_3_code 2 none R_Md w_Md_nothing) (hA : ∀ q : Nat, s.heap.size ≤ q → A q) (hK : va_K (dC, dI) vwCl [(kNx, .int)] s) (hE : zE G A s s.heap) : ∀ (n : Nat) (i : Nat), (i ≤ 52650) → (52651 ≤ i + n) → ∀ (H : Heap) (locs : List Loc), va_P (dC, dI) vwCl [(aM, .inr (4, [.int th, .ref aMT, .int (nI mu), .ref aNw, .ref aNx, .int mw, .int mwa, .int (nI ma), .int (nI en), .long mv, .int mf, .int ml])), (aNx, .inl (kNx, 52650, .inl (zZ nx i)))] H → va_D A [(aM, .inr (4, [.int th, .ref aMT, .int (nI mu), .ref aNw, .ref aNx, .int mw, .int mwa, .int (nI ma), .int (nI en), .long mv, .int mf, .int ml])), (aNx, .inl (kNx, 52650, .inl (zZ nx i)))] → va_S A s.heap H locs → ∀ (ls : Array Slot), lv_has ls 2 [(0, .ref aM), (1, .int (nI i))] → W p l e ({ frames := 0, cells := 0, slots := 0, locals := 0 }) s m args below meth c H locs 0 0 (MQ below (va_Qv (fun (uu : (Nat → Int32)) => uu = zN nx) (fun (uu : (Nat → Int32)) t => BW (dC, dI) [(aM, .inr (4, [.int th, .ref aMT, .int (nI mu), .ref aNw, .ref aNx, .int mw, .int mwa, .int (nI ma), .int (nI en), .long mv, .int mf, .int ml])), (aNx, .inl (kNx, 52650, .inl uu))] A s.heap.size t) A) args s 0 0 A) (F0 m 2 ls []) := by
  obtain ⟨hx, hb, hr, hml, hown, hts, hlocks⟩ := C0
  have hz : ∀ w ∈ ZW, w.before _ s = true := fun w h => hts w (List.mem_cons_of_mem _ h)
  intro n
  induction n with
  | zero =>
    intro i hi hn H locs hP hD hS ls hl
    exact absurd hn (by omega)
  | succ n ih =>
    intro i hi hn H locs hP hD hS ls hl
    refine lv_iload_n hx hb d_Md_nothing_2 rfl (lv_at hl 1 rfl) ?_
    refine lv_aload_n hx hb d_Md_nothing_3 rfl (lv_at hl 0 rfl) ?_
    refine va_get (D := (dC, dI)) (ci := 4) (v := .ref aNx) (C := R_Md) (T := F_Md) (N := 12) hx hb hz i_Md hown hK hP 0 rfl rfl 4 (by decide) (hz _ tw_480) (fun _ h9 => h9) rfl d_Md_nothing_4 ?_
    refine va_alen (D := (dC, dI)) (v := nI 52650) hx hb hK hP 1 0 rfl rfl rfl d_Md_nothing_7 ?_
    refine lv_icmp_ge (tgt := 24) hx hb d_Md_nothing_8 (by decide) (fun c_1 => ?_) (fun c_1 => ?_)
    ·
      have c_1 : 52650 ≤ i := (@nI_leI 52650 i (by omega) (by omega)).mp c_1
      have ei : i = 52650 := by omega
      subst ei
      have hl : lv_has ls 2 [(0, .ref aM), (1, .int (nI 52650))] := lv_sub hl [0, 1] rfl
      refine lv_aload_n hx hb d_Md_nothing_24 rfl (lv_at hl 0 rfl) ?_
      refine va_get (D := (dC, dI)) (ci := 4) (v := .ref aNx) (C := R_Md) (T := F_Md) (N := 12) hx hb hz i_Md hown hK hP 0 rfl rfl 4 (by decide) (hz _ tw_480) (fun _ h9 => h9) rfl d_Md_nothing_25 ?_
      refine lv_ldc (v := 52638) hx hb hown (hz _ tw_472) d_Md_nothing_28 ?_
      refine lv_bipush (v := 32) hx hb d_Md_nothing_30 (by decide) ?_
      refine va_iast (D := (dC, dI)) (i := nI 52638) (x := 32) hx hb hK hP hD hS 1 0 rfl rfl (vp_in_nI (by omega) (by decide)) d_Md_nothing_32 (fun H locs hP hD hS => ?_)
      rw [nI_clamp (by omega)] at hP hD
      have hP : va_P (dC, dI) vwCl [(aM, .inr (4, [.int th, .ref aMT, .int (nI mu), .ref aNw, .ref aNx, .int mw, .int mwa, .int (nI ma), .int (nI en), .long mv, .int mf, .int ml])), (aNx, .inl (kNx, 52650, .inl (upd (zZ nx 52650) 52638 32)))] H := hP
      have hD : va_D A [(aM, .inr (4, [.int th, .ref aMT, .int (nI mu), .ref aNw, .ref aNx, .int mw, .int mwa, .int (nI ma), .int (nI en), .long mv, .int mf, .int ml])), (aNx, .inl (kNx, 52650, .inl (upd (zZ nx 52650) 52638 32)))] := hD
      refine lv_aload_n hx hb d_Md_nothing_33 rfl (lv_at hl 0 rfl) ?_
      refine va_get (D := (dC, dI)) (ci := 4) (v := .ref aNx) (C := R_Md) (T := F_Md) (N := 12) hx hb hz i_Md hown hK hP 0 rfl rfl 4 (by decide) (hz _ tw_480) (fun _ h9 => h9) rfl d_Md_nothing_34 ?_
      refine lv_ldc (v := 52641) hx hb hown (hz _ tw_473) d_Md_nothing_37 ?_
      refine lv_ldc (v := -65536) hx hb hown (hz _ tw_474) d_Md_nothing_39 ?_
      refine va_iast (D := (dC, dI)) (i := nI 52641) (x := (-65536)) hx hb hK hP hD hS 1 0 rfl rfl (vp_in_nI (by omega) (by decide)) d_Md_nothing_41 (fun H locs hP hD hS => ?_)
      rw [nI_clamp (by omega)] at hP hD
      have hP : va_P (dC, dI) vwCl [(aM, .inr (4, [.int th, .ref aMT, .int (nI mu), .ref aNw, .ref aNx, .int mw, .int mwa, .int (nI ma), .int (nI en), .long mv, .int mf, .int ml])), (aNx, .inl (kNx, 52650, .inl (upd (upd (zZ nx 52650) 52638 32) 52641 (-65536))))] H := hP
      have hD : va_D A [(aM, .inr (4, [.int th, .ref aMT, .int (nI mu), .ref aNw, .ref aNx, .int mw, .int mwa, .int (nI ma), .int (nI en), .long mv, .int mf, .int ml])), (aNx, .inl (kNx, 52650, .inl (upd (upd (zZ nx 52650) 52638 32) 52641 (-65536))))] := hD
      refine lv_aload_n hx hb d_Md_nothing_42 rfl (lv_at hl 0 rfl) ?_
      refine va_get (D := (dC, dI)) (ci := 4) (v := .ref aNx) (C := R_Md) (T := F_Md) (N := 12) hx hb hz i_Md hown hK hP 0 rfl rfl 4 (by decide) (hz _ tw_480) (fun _ h9 => h9) rfl d_Md_nothing_43 ?_
      refine lv_ldc (v := 52642) hx hb hown (hz _ tw_475) d_Md_nothing_46 ?_
      refine lv_sipush (v := 16384) hx hb d_Md_nothing_48 (by decide) ?_
      refine va_iast (D := (dC, dI)) (i := nI 52642) (x := 16384) hx hb hK hP hD hS 1 0 rfl rfl (vp_in_nI (by omega) (by decide)) d_Md_nothing_51 (fun H locs hP hD hS => ?_)
      rw [nI_clamp (by omega)] at hP hD
      have hP : va_P (dC, dI) vwCl [(aM, .inr (4, [.int th, .ref aMT, .int (nI mu), .ref aNw, .ref aNx, .int mw, .int mwa, .int (nI ma), .int (nI en), .long mv, .int mf, .int ml])), (aNx, .inl (kNx, 52650, .inl (upd (upd (upd (zZ nx 52650) 52638 32) 52641 (-65536)) 52642 16384)))] H := hP
      have hD : va_D A [(aM, .inr (4, [.int th, .ref aMT, .int (nI mu), .ref aNw, .ref aNx, .int mw, .int mwa, .int (nI ma), .int (nI en), .long mv, .int mf, .int ml])), (aNx, .inl (kNx, 52650, .inl (upd (upd (upd (zZ nx 52650) 52638 32) 52641 (-65536)) 52642 16384)))] := hD
      refine zt_size (fun hzs => ?_)
      have hP9 := hP.sub (ws' := [(aM, .inr (4, [.int th, .ref aMT, .int (nI mu), .ref aNw, .ref aNx, .int mw, .int mwa, .int (nI ma), .int (nI en), .long mv, .int mf, .int ml])), (aNx, .inl (kNx, 52650, .inl (upd (upd (upd (zZ nx 52650) 52638 32) 52641 (-65536)) 52642 16384)))]) [0, 1] rfl
      have hD9 := hD.sub (ws' := [(aM, .inr (4, [.int th, .ref aMT, .int (nI mu), .ref aNw, .ref aNx, .int mw, .int mwa, .int (nI ma), .int (nI en), .long mv, .int mf, .int ml])), (aNx, .inl (kNx, 52650, .inl (upd (upd (upd (zZ nx 52650) 52638 32) 52641 (-65536)) 52642 16384)))]) [0, 1] (by decide) rfl
      exact W.vret hx hb hr (fun t ht hW => ⟨⟨upd (upd (upd (zZ nx 52650) 52638 32) 52641 (-65536)) 52642 16384, rfl, rfl, by rw [ht]; exact hP9, hD9, by rw [ht]; exact hzs⟩, hS.F ht⟩) hS.2.2 d_Md_nothing_52
    ·
      have c_1 : ¬ (52650 ≤ i) := fun z => c_1 ((@nI_leI 52650 i (by omega) (by omega)).mpr z)
      refine lv_aload_n hx hb d_Md_nothing_11 rfl (lv_at hl 0 rfl) ?_
      refine va_get (D := (dC, dI)) (ci := 4) (v := .ref aNx) (C := R_Md) (T := F_Md) (N := 12) hx hb hz i_Md hown hK hP 0 rfl rfl 4 (by decide) (hz _ tw_480) (fun _ h9 => h9) rfl d_Md_nothing_12 ?_
      refine lv_iload_n hx hb d_Md_nothing_15 rfl (lv_at hl 1 rfl) ?_
      refine lv_iconst (v := 0) hx hb d_Md_nothing_16 (by decide) ?_
      refine va_iast (D := (dC, dI)) (i := nI i) (x := 0) hx hb hK hP hD hS 1 0 rfl rfl (vp_in_nI (by omega) (by decide)) d_Md_nothing_17 (fun H locs hP hD hS => ?_)
      rw [nI_clamp (by omega)] at hP hD
      have hP : va_P (dC, dI) vwCl [(aM, .inr (4, [.int th, .ref aMT, .int (nI mu), .ref aNw, .ref aNx, .int mw, .int mwa, .int (nI ma), .int (nI en), .long mv, .int mf, .int ml])), (aNx, .inl (kNx, 52650, .inl (upd (zZ nx i) i 0)))] H := hP
      have hD : va_D A [(aM, .inr (4, [.int th, .ref aMT, .int (nI mu), .ref aNw, .ref aNx, .int mw, .int mwa, .int (nI ma), .int (nI en), .long mv, .int mf, .int ml])), (aNx, .inl (kNx, 52650, .inl (upd (zZ nx i) i 0)))] := hD
      refine lv_iinc (v := nI (i + 1)) (lv' := [(1, .int (nI (i + 1))), (0, .ref aM)]) hx hb d_Md_nothing_18 hl (k := 1) rfl (nI_add i 1) (by decide) rfl (fun ls hl => ?_)
      refine lv_goto (tgt := 2) hx hb d_Md_nothing_21 (by decide) ?_
      rw [zZ_upd] at hP hD
      have hP : va_P (dC, dI) vwCl [(aM, .inr (4, [.int th, .ref aMT, .int (nI mu), .ref aNw, .ref aNx, .int mw, .int mwa, .int (nI ma), .int (nI en), .long mv, .int mf, .int ml])), (aNx, .inl (kNx, 52650, .inl (zZ nx (i + 1))))] H := hP
      have hD : va_D A [(aM, .inr (4, [.int th, .ref aMT, .int (nI mu), .ref aNw, .ref aNx, .int mw, .int mwa, .int (nI ma), .int (nI en), .long mv, .int mf, .int ml])), (aNx, .inl (kNx, 52650, .inl (zZ nx (i + 1))))] := hD
      exact ih (i + 1) (by omega) (by omega) _ _ (hP.sub [0, 1] rfl) (hD.sub [0, 1] (by decide) rfl) hS ls (lv_sub hl [1, 0] rfl)
set_option maxHeartbeats 4000000 in
set_option maxRecDepth 100000 in
theorem c_Md_nothing (l : Launch) (G : ZG) (dC : Nat → ClassId) (dI : Nat → Nat → Nat) (sz : Nat) (aM : Nat) (th : Int32) (aMT : Nat) (mu : Nat) (aNw : Nat) (aNx : Nat) (mw : Int32) (mwa : Int32) (ma : Nat) (en : Nat) (mv : Int64) (mf : Int32) (ml : Int32) (kNx : ClassId) (nx : Nat → Int32) : Met l y_Md_nothing w_Md_nothing ({ frames := 0, cells := 0, slots := 0, locals := 0 }) (va_Pc [.ref aM] (PW G (dC, dI) [(kNx, .int)] [(aM, .inr (4, [.int th, .ref aMT, .int (nI mu), .ref aNw, .ref aNx, .int mw, .int mwa, .int (nI ma), .int (nI en), .long mv, .int mf, .int ml])), (aNx, .inl (kNx, 52650, .inl nx))] sz)) (va_Qv (fun (uu : (Nat → Int32)) => uu = zN nx) (fun (uu : (Nat → Int32)) t => BW (dC, dI) [(aM, .inr (4, [.int th, .ref aMT, .int (nI mu), .ref aNw, .ref aNx, .int mw, .int mwa, .int (nI ma), .int (nI en), .long mv, .int mf, .int ml])), (aNx, .inl (kNx, 52650, .inl uu))] (va_A [(aM, .inr (4, [.int th, .ref aMT, .int (nI mu), .ref aNw, .ref aNx, .int mw, .int mwa, .int (nI ma), .int (nI en), .long mv, .int mf, .int ml])), (aNx, .inl (kNx, 52650, .inl nx))] sz) sz t) (va_A [(aM, .inr (4, [.int th, .ref aMT, .int (nI mu), .ref aNw, .ref aNx, .int mw, .int mwa, .int (nI ma), .int (nI en), .long mv, .int mf, .int ml])), (aNx, .inl (kNx, 52650, .inl nx))] sz)) 0 0 (va_A [(aM, .inr (4, [.int th, .ref aMT, .int (nI mu), .ref aNw, .ref aNx, .int mw, .int mwa, .int (nI ma), .int (nI en), .long mv, .int mf, .int ml])), (aNx, .inl (kNx, 52650, .inl nx))] sz) := by
  refine Met.ofW (cc := prog_6_method_3_code) (maxL := 2) (ret := none) (by decide) rfl ?_
  intro p e s m args below meth c s₁ Bd hml hv
  obtain ⟨rfl, hsz, hP, hK, hD0, hE⟩ := hv
  have hx := Bd.exec
  have hb := Bd.bytes
  have hr := Bd.returns
  have hts := atoms_spec (ws := w_Md_nothing) Bd.pre
  have hown : s.vm.findClass R_Md = some m.cls := findClass_of_methodNamed Bd.named
  have hlocks := Bd.notSynchronized
  have hz : ∀ w ∈ ZW, w.before _ s = true := fun w h => hts w (List.mem_cons_of_mem _ h)
  subst hsz
  have hD := hD0.self (sz := s.heap.size)
  generalize hAe : va_A [(aM, .inr (4, [.int th, .ref aMT, .int (nI mu), .ref aNw, .ref aNx, .int mw, .int mwa, .int (nI ma), .int (nI en), .long mv, .int mf, .int ml])), (aNx, .inl (kNx, 52650, .inl nx))] s.heap.size = A at hD hE ⊢
  have hA : ∀ q : Nat, s.heap.size ≤ q → A q := fun q h => by rw [← hAe]; exact Or.inr h
  have hS : va_S A s.heap s.heap [] := va_S.rf
  have hl := lv_entry ([.ref aM]) (n := 2) (Nat.le_of_ble_eq_true rfl)
  rw [lg_entry_eq]
  generalize (lg_sl ([.ref aM]) ++ List.replicate (2 - (lg_sl ([.ref aM])).length) Slot.unset).toArray = ls at hl ⊢
  have hl : lv_has ls 2 [(0, .ref aM)] := hl
  obtain ⟨H, hH⟩ : ∃ z, z = s.heap := ⟨_, rfl⟩
  have hP : va_P (dC, dI) vwCl [(aM, .inr (4, [.int th, .ref aMT, .int (nI mu), .ref aNw, .ref aNx, .int mw, .int mwa, .int (nI ma), .int (nI en), .long mv, .int mf, .int ml])), (aNx, .inl (kNx, 52650, .inl nx))] H := by rw [hH]; exact hP
  have hS : va_S A s.heap H [] := by rw [hH]; exact hS
  refine zt_heap hH ?_
  refine lv_iconst (v := 0) hx hb d_Md_nothing_0 (by decide) ?_
  refine lv_istore_n (lv' := [(1, .int 0), (0, .ref aM)]) hx hb d_Md_nothing_1 rfl hl (by decide) rfl (fun ls hl => ?_)
  have hP : va_P (dC, dI) vwCl [(aM, .inr (4, [.int th, .ref aMT, .int (nI mu), .ref aNw, .ref aNx, .int mw, .int mwa, .int (nI ma), .int (nI en), .long mv, .int mf, .int ml])), (aNx, .inl (kNx, 52650, .inl (zZ nx 0)))] H := by rw [zZ_0]; exact hP
  have hD : va_D A [(aM, .inr (4, [.int th, .ref aMT, .int (nI mu), .ref aNw, .ref aNx, .int mw, .int mwa, .int (nI ma), .int (nI en), .long mv, .int mf, .int ml])), (aNx, .inl (kNx, 52650, .inl (zZ nx 0)))] := by rw [zZ_0]; exact hD
  exact lp_Md_nothing l G dC dI aM th aMT mu aNw aNx mw mwa ma en mv mf ml kNx nx ⟨hx, hb, hr, hml, hown, hts, hlocks⟩ hA hK hE 52651 0 (by omega) (by omega) _ _ (hP.sub [0, 1] rfl) (hD.sub [0, 1] (by decide) rfl) hS ls (lv_sub hl [1, 0] rfl)
set_option maxHeartbeats 4000000 in
set_option maxRecDepth 100000 in
theorem c_Md_load (l : Launch) (G : ZG) (dC : Nat → ClassId) (dI : Nat → Nat → Nat) (sz : Nat) (aM : Nat) (th : Int32) (aMT : Nat) (mu : Nat) (mw : Int32) (mwa : Int32) (ma : Nat) (en : Nat) (mv : Int64) (mf : Int32) (ml : Int32) (kMT : ClassId) (B : Nat → Int32) (aNw : Nat) (kNw : ClassId) (nw : Nat → Int32) (aNx : Nat) (kNx : ClassId) (nx : Nat → Int32) (cnt : Nat → Nat) (hmu : mu ≤ 65536) (hz0 : ∀ j, j < 5 → cnt j = 0) : Met l y_Md_load w_Md_load ({ frames := 11, cells := 0, slots := 0, locals := 252 }) (va_Pc [.ref aM] (PW G (dC, dI) [(kMT, .byte), (kNw, .int), (kNx, .int)] [(aM, .inr (4, [.int th, .ref aMT, .int (nI mu), .ref aNw, .ref aNx, .int mw, .int mwa, .int (nI ma), .int (nI en), .long mv, .int mf, .int ml])), (aMT, .inl (kMT, 65536, .inl B)), (aNw, .inl (kNw, 52650, .inl nw)), (aNx, .inl (kNx, 52650, .inl nx))] sz)) (va_Qi (fun (r : Int32) (uu : Int32 × Nat × Nat × Nat × Int32 × Int32 × Nat × Nat × Int64 × Int32 × Int32 × (Nat → Int32)) => uu.2.1 = 0 ∧ ((uu.1 = 0 ∧ mRead B mu cnt (zN nx) = .ok uu.2.2.2.2.2.2.2.2.2.2.2 ∧ uu.2.2.2.2.1 = 0 ∧ uu.2.2.2.2.2.1 = 0 ∧ uu.2.2.1 = aNx ∧ uu.2.2.2.1 = aNw ∧ r = uu.2.2.2.2.2.2.2.2.2.2.2 3) ∨ (uu.1 = 1 ∧ r = 0 ∧ uu.2.2.1 = aNw ∧ uu.2.2.2.1 = aNx ∧ ∃ k, mRead B mu cnt (zN nx) = .error (uu.2.2.2.2.1, k) ∧ uu.2.2.2.2.2.1 = nI k))) (fun (uu : Int32 × Nat × Nat × Nat × Int32 × Int32 × Nat × Nat × Int64 × Int32 × Int32 × (Nat → Int32)) t => BW (dC, dI) [(aM, .inr (4, [.int uu.1, .ref aMT, .int (nI uu.2.1), .ref uu.2.2.1, .ref uu.2.2.2.1, .int uu.2.2.2.2.1, .int uu.2.2.2.2.2.1, .int (nI uu.2.2.2.2.2.2.1), .int (nI uu.2.2.2.2.2.2.2.1), .long uu.2.2.2.2.2.2.2.2.1, .int uu.2.2.2.2.2.2.2.2.2.1, .int uu.2.2.2.2.2.2.2.2.2.2.1])), (aMT, .inl (kMT, 65536, .inl B)), (aNw, .inl (kNw, 52650, .inl nw)), (aNx, .inl (kNx, 52650, .inl uu.2.2.2.2.2.2.2.2.2.2.2))] (va_A [(aM, .inr (4, [.int th, .ref aMT, .int (nI mu), .ref aNw, .ref aNx, .int mw, .int mwa, .int (nI ma), .int (nI en), .long mv, .int mf, .int ml])), (aMT, .inl (kMT, 65536, .inl B)), (aNw, .inl (kNw, 52650, .inl nw)), (aNx, .inl (kNx, 52650, .inl nx))] sz) sz t) (va_A [(aM, .inr (4, [.int th, .ref aMT, .int (nI mu), .ref aNw, .ref aNx, .int mw, .int mwa, .int (nI ma), .int (nI en), .long mv, .int mf, .int ml])), (aMT, .inl (kMT, 65536, .inl B)), (aNw, .inl (kNw, 52650, .inl nw)), (aNx, .inl (kNx, 52650, .inl nx))] sz)) 0 0 (va_A [(aM, .inr (4, [.int th, .ref aMT, .int (nI mu), .ref aNw, .ref aNx, .int mw, .int mwa, .int (nI ma), .int (nI en), .long mv, .int mf, .int ml])), (aMT, .inl (kMT, 65536, .inl B)), (aNw, .inl (kNw, 52650, .inl nw)), (aNx, .inl (kNx, 52650, .inl nx))] sz) := by
  refine Met.ofW (cc := prog_6_method_32_code) (maxL := 3) (ret := (some .int)) (by decide) rfl ?_
  intro p e s m args below meth c s₁ Bd hml hv
  obtain ⟨rfl, hsz, hP, hK, hD0, hE⟩ := hv
  have hx := Bd.exec
  have hb := Bd.bytes
  have hr := Bd.returns
  have hts := atoms_spec (ws := w_Md_load) Bd.pre
  have hown : s.vm.findClass R_Md = some m.cls := findClass_of_methodNamed Bd.named
  have hlocks := Bd.notSynchronized
  have hz : ∀ w ∈ ZW, w.before _ s = true := fun w h => hts w (List.mem_cons_of_mem _ h)
  subst hsz
  have hD := hD0.self (sz := s.heap.size)
  generalize hAe : va_A [(aM, .inr (4, [.int th, .ref aMT, .int (nI mu), .ref aNw, .ref aNx, .int mw, .int mwa, .int (nI ma), .int (nI en), .long mv, .int mf, .int ml])), (aMT, .inl (kMT, 65536, .inl B)), (aNw, .inl (kNw, 52650, .inl nw)), (aNx, .inl (kNx, 52650, .inl nx))] s.heap.size = A at hD hE ⊢
  have hA : ∀ q : Nat, s.heap.size ≤ q → A q := fun q h => by rw [← hAe]; exact Or.inr h
  have hS : va_S A s.heap s.heap [] := va_S.rf
  have hl := lv_entry ([.ref aM]) (n := 3) (Nat.le_of_ble_eq_true rfl)
  rw [lg_entry_eq]
  generalize (lg_sl ([.ref aM]) ++ List.replicate (3 - (lg_sl ([.ref aM])).length) Slot.unset).toArray = ls at hl ⊢
  have hl : lv_has ls 3 [(0, .ref aM)] := hl
  obtain ⟨H, hH⟩ : ∃ z, z = s.heap := ⟨_, rfl⟩
  have hP : va_P (dC, dI) vwCl [(aM, .inr (4, [.int th, .ref aMT, .int (nI mu), .ref aNw, .ref aNx, .int mw, .int mwa, .int (nI ma), .int (nI en), .long mv, .int mf, .int ml])), (aMT, .inl (kMT, 65536, .inl B)), (aNw, .inl (kNw, 52650, .inl nw)), (aNx, .inl (kNx, 52650, .inl nx))] H := by rw [hH]; exact hP
  have hS : va_S A s.heap H [] := by rw [hH]; exact hS
  refine zt_heap hH ?_
  refine lv_aload_n hx hb d_Md_load_0 rfl (lv_at hl 0 rfl) ?_
  refine lv_iconst (v := 0) hx hb d_Md_load_1 (by decide) ?_
  refine va_put (D := (dC, dI)) (ci := 4) (v := .int 0) (ty := .int) (C := R_Md) (T := F_Md) (N := 12) hx hb hz i_Md t_Md t_Md_ok n_Md hown hK hP hD hS 0 rfl rfl 5 (by decide) (hz _ tw_481) (fun _ h9 => h9) rfl (by decide +kernel) rfl rfl (Nat.le_of_ble_eq_true rfl) d_Md_load_2 (fun H locs hP hD hS => ?_)
  have hP : va_P (dC, dI) vwCl [(aM, .inr (4, [.int th, .ref aMT, .int (nI mu), .ref aNw, .ref aNx, .int 0, .int mwa, .int (nI ma), .int (nI en), .long mv, .int mf, .int ml])), (aMT, .inl (kMT, 65536, .inl B)), (aNw, .inl (kNw, 52650, .inl nw)), (aNx, .inl (kNx, 52650, .inl nx))] H := hP
  have hD : va_D A [(aM, .inr (4, [.int th, .ref aMT, .int (nI mu), .ref aNw, .ref aNx, .int 0, .int mwa, .int (nI ma), .int (nI en), .long mv, .int mf, .int ml])), (aMT, .inl (kMT, 65536, .inl B)), (aNw, .inl (kNw, 52650, .inl nw)), (aNx, .inl (kNx, 52650, .inl nx))] := hD
  refine lv_aload_n hx hb d_Md_load_5 rfl (lv_at hl 0 rfl) ?_
  refine lv_iconst (v := 0) hx hb d_Md_load_6 (by decide) ?_
  refine va_put (D := (dC, dI)) (ci := 4) (v := .int 0) (ty := .int) (C := R_Md) (T := F_Md) (N := 12) hx hb hz i_Md t_Md t_Md_ok n_Md hown hK hP hD hS 0 rfl rfl 6 (by decide) (hz _ tw_482) (fun _ h9 => h9) rfl (by decide +kernel) rfl rfl (Nat.le_of_ble_eq_true rfl) d_Md_load_7 (fun H locs hP hD hS => ?_)
  have hP : va_P (dC, dI) vwCl [(aM, .inr (4, [.int th, .ref aMT, .int (nI mu), .ref aNw, .ref aNx, .int 0, .int 0, .int (nI ma), .int (nI en), .long mv, .int mf, .int ml])), (aMT, .inl (kMT, 65536, .inl B)), (aNw, .inl (kNw, 52650, .inl nw)), (aNx, .inl (kNx, 52650, .inl nx))] H := hP
  have hD : va_D A [(aM, .inr (4, [.int th, .ref aMT, .int (nI mu), .ref aNw, .ref aNx, .int 0, .int 0, .int (nI ma), .int (nI en), .long mv, .int mf, .int ml])), (aMT, .inl (kMT, 65536, .inl B)), (aNw, .inl (kNw, 52650, .inl nw)), (aNx, .inl (kNx, 52650, .inl nx))] := hD
  refine lv_aload_n hx hb d_Md_load_10 rfl (lv_at hl 0 rfl) ?_
  refine lv_iconst (v := 0) hx hb d_Md_load_11 (by decide) ?_
  refine va_put (D := (dC, dI)) (ci := 4) (v := .int 0) (ty := .int) (C := R_Md) (T := F_Md) (N := 12) hx hb hz i_Md t_Md t_Md_ok n_Md hown hK hP hD hS 0 rfl rfl 7 (by decide) (hz _ tw_483) (fun _ h9 => h9) rfl (by decide +kernel) rfl rfl (Nat.le_of_ble_eq_true rfl) d_Md_load_12 (fun H locs hP hD hS => ?_)
  have hP : va_P (dC, dI) vwCl [(aM, .inr (4, [.int th, .ref aMT, .int (nI mu), .ref aNw, .ref aNx, .int 0, .int 0, .int (nI 0), .int (nI en), .long mv, .int mf, .int ml])), (aMT, .inl (kMT, 65536, .inl B)), (aNw, .inl (kNw, 52650, .inl nw)), (aNx, .inl (kNx, 52650, .inl nx))] H := hP
  have hD : va_D A [(aM, .inr (4, [.int th, .ref aMT, .int (nI mu), .ref aNw, .ref aNx, .int 0, .int 0, .int (nI 0), .int (nI en), .long mv, .int mf, .int ml])), (aMT, .inl (kMT, 65536, .inl B)), (aNw, .inl (kNw, 52650, .inl nw)), (aNx, .inl (kNx, 52650, .inl nx))] := hD
  refine lv_aload_n hx hb d_Md_load_15 rfl (lv_at hl 0 rfl) ?_
  refine lv_aload_n hx hb d_Md_load_16 rfl (lv_at hl 0 rfl) ?_
  refine va_get (D := (dC, dI)) (ci := 4) (v := .int (nI mu)) (C := R_Md) (T := F_Md) (N := 12) hx hb hz i_Md hown hK hP 0 rfl rfl 2 (by decide) (hz _ tw_478) (fun _ h9 => h9) rfl d_Md_load_17 ?_
  refine va_put (D := (dC, dI)) (ci := 4) (v := .int (nI mu)) (ty := .int) (C := R_Md) (T := F_Md) (N := 12) hx hb hz i_Md t_Md t_Md_ok n_Md hown hK hP hD hS 0 rfl rfl 8 (by decide) (hz _ tw_484) (fun _ h9 => h9) rfl (by decide +kernel) rfl rfl (Nat.le_of_ble_eq_true rfl) d_Md_load_20 (fun H locs hP hD hS => ?_)
  have hP : va_P (dC, dI) vwCl [(aM, .inr (4, [.int th, .ref aMT, .int (nI mu), .ref aNw, .ref aNx, .int 0, .int 0, .int (nI 0), .int (nI mu), .long mv, .int mf, .int ml])), (aMT, .inl (kMT, 65536, .inl B)), (aNw, .inl (kNw, 52650, .inl nw)), (aNx, .inl (kNx, 52650, .inl nx))] H := hP
  have hD : va_D A [(aM, .inr (4, [.int th, .ref aMT, .int (nI mu), .ref aNw, .ref aNx, .int 0, .int 0, .int (nI 0), .int (nI mu), .long mv, .int mf, .int ml])), (aMT, .inl (kMT, 65536, .inl B)), (aNw, .inl (kNw, 52650, .inl nw)), (aNx, .inl (kNx, 52650, .inl nx))] := hD
  refine lv_aload_n hx hb d_Md_load_23 rfl (lv_at hl 0 rfl) ?_
  refine lv_iconst (v := 0) hx hb d_Md_load_24 (by decide) ?_
  refine va_put (D := (dC, dI)) (ci := 4) (v := .int 0) (ty := .int) (C := R_Md) (T := F_Md) (N := 12) hx hb hz i_Md t_Md t_Md_ok n_Md hown hK hP hD hS 0 rfl rfl 2 (by decide) (hz _ tw_478) (fun _ h9 => h9) rfl (by decide +kernel) rfl rfl (Nat.le_of_ble_eq_true rfl) d_Md_load_25 (fun H locs hP hD hS => ?_)
  have hP : va_P (dC, dI) vwCl [(aM, .inr (4, [.int th, .ref aMT, .int (nI 0), .ref aNw, .ref aNx, .int 0, .int 0, .int (nI 0), .int (nI mu), .long mv, .int mf, .int ml])), (aMT, .inl (kMT, 65536, .inl B)), (aNw, .inl (kNw, 52650, .inl nw)), (aNx, .inl (kNx, 52650, .inl nx))] H := hP
  have hD : va_D A [(aM, .inr (4, [.int th, .ref aMT, .int (nI 0), .ref aNw, .ref aNx, .int 0, .int 0, .int (nI 0), .int (nI mu), .long mv, .int mf, .int ml])), (aMT, .inl (kMT, 65536, .inl B)), (aNw, .inl (kNw, 52650, .inl nw)), (aNx, .inl (kNx, 52650, .inl nx))] := hD
  refine lv_aload_n hx hb d_Md_load_28 rfl (lv_at hl 0 rfl) ?_
  have hPc := hP.sub (ws' := [(aM, .inr (4, [.int th, .ref aMT, .int (nI 0), .ref aNw, .ref aNx, .int 0, .int 0, .int (nI 0), .int (nI mu), .long mv, .int mf, .int ml])), (aNx, .inl (kNx, 52650, .inl nx))]) [0, 3] rfl
  have hDc := hD.sub (ws' := [(aM, .inr (4, [.int th, .ref aMT, .int (nI 0), .ref aNw, .ref aNx, .int 0, .int 0, .int (nI 0), .int (nI mu), .long mv, .int mf, .int ml])), (aNx, .inl (kNx, 52650, .inl nx))]) [0, 3] (by decide) rfl
  have hKc := hK.sub (tys' := [(kNx, .int)]) [2] rfl
  have hFc := va_free (wc := [(aM, .inr (4, [.int th, .ref aMT, .int (nI 0), .ref aNw, .ref aNx, .int 0, .int 0, .int (nI 0), .int (nI mu), .long mv, .int mf, .int ml])), (aNx, .inl (kNx, 52650, .inl nx))]) hD hS hA [0, 3] rfl
  refine va_callv (va_runV (As := []) (rest := []) ⟨hx, hb, hml, hown, hts⟩ (c_Md_nothing l G dC dI H.size aM th aMT 0 aNw aNx 0 0 0 mu mv mf ml kNx nx) (cwV 0 hts (gV tw_468 tw_470 ts_18 tw_5 tw_471 rfl) rfl rfl rfl (by decide +kernel) ⟨Nat.le_of_ble_eq_true rfl, Nat.le_of_ble_eq_true rfl⟩) (PW_preV hPc hKc hDc hE hS hFc (ci := 4) (q0 := 0) rfl rfl) rfl rfl hl.1 rfl (lv_room (Nat.le_of_ble_eq_true rfl)) d_Md_load_29 ⟨Nat.le_of_ble_eq_true rfl, Nat.le_of_ble_eq_true rfl⟩) hS (fun q _ h => hFc q h) hFc (fun uu t H1 locs ht hvm hw_3 hB hz1 hk1 hS => ?_)
  obtain ⟨nx_2, rfl⟩ : ∃ z, z = uu := ⟨_, rfl⟩
  obtain ⟨hP1, hD1, hsz1⟩ := hB
  rw [ht] at hP1 hsz1
  obtain ⟨hP, hD⟩ := va_join (wr := [(aMT, .inl (kMT, 65536, .inl B)), (aNw, .inl (kNw, 52650, .inl nw))]) (w1 := [(aM, .inr (4, [.int th, .ref aMT, .int (nI 0), .ref aNw, .ref aNx, .int 0, .int 0, .int (nI 0), .int (nI mu), .long mv, .int mf, .int ml])), (aNx, .inl (kNx, 52650, .inl nx_2))]) hP hD [0, 3] [1, 2] rfl rfl (by decide) (by decide) hk1 hFc hP1 hD1
  generalize H1 = H at hP hS ⊢
  have hP : va_P (dC, dI) vwCl [(aMT, .inl (kMT, 65536, .inl B)), (aNw, .inl (kNw, 52650, .inl nw)), (aM, .inr (4, [.int th, .ref aMT, .int (nI 0), .ref aNw, .ref aNx, .int 0, .int 0, .int (nI 0), .int (nI mu), .long mv, .int mf, .int ml])), (aNx, .inl (kNx, 52650, .inl nx_2))] H := hP
  have hD : va_D A [(aMT, .inl (kMT, 65536, .inl B)), (aNw, .inl (kNw, 52650, .inl nw)), (aM, .inr (4, [.int th, .ref aMT, .int (nI 0), .ref aNw, .ref aNx, .int 0, .int 0, .int (nI 0), .int (nI mu), .long mv, .int mf, .int ml])), (aNx, .inl (kNx, 52650, .inl nx_2))] := hD
  have e1 := hw_3.symm; subst e1
  refine lv_aload_n hx hb d_Md_load_32 rfl (lv_at hl 0 rfl) ?_
  have hPc := hP.sub (ws' := [(aM, .inr (4, [.int th, .ref aMT, .int (nI 0), .ref aNw, .ref aNx, .int 0, .int 0, .int (nI 0), .int (nI mu), .long mv, .int mf, .int ml])), (aMT, .inl (kMT, 65536, .inl B)), (aNx, .inl (kNx, 52650, .inl (zN nx)))]) [2, 0, 3] rfl
  have hDc := hD.sub (ws' := [(aM, .inr (4, [.int th, .ref aMT, .int (nI 0), .ref aNw, .ref aNx, .int 0, .int 0, .int (nI 0), .int (nI mu), .long mv, .int mf, .int ml])), (aMT, .inl (kMT, 65536, .inl B)), (aNx, .inl (kNx, 52650, .inl (zN nx)))]) [2, 0, 3] (by decide) rfl
  have hKc := hK.sub (tys' := [(kMT, .byte), (kNx, .int)]) [0, 2] rfl
  have hFc := va_free (wc := [(aM, .inr (4, [.int th, .ref aMT, .int (nI 0), .ref aNw, .ref aNx, .int 0, .int 0, .int (nI 0), .int (nI mu), .long mv, .int mf, .int ml])), (aMT, .inl (kMT, 65536, .inl B)), (aNx, .inl (kNx, 52650, .inl (zN nx)))]) hD hS hA [2, 0, 3] rfl
  refine va_calli (va_runV (As := []) (rest := []) ⟨hx, hb, hml, hown, hts⟩ (c_Md_scene l G dC dI H.size aM th aMT 0 aNw aNx 0 0 0 mu mv mf ml kMT B kNx (zN nx) cnt (by omega) (by omega) (fun j hj => by rw [hz0 j hj, zN_0 (by omega)]; rfl) hz0) (cwV 0 hts (gV tw_533 tw_535 ts_19 tw_5 tw_536 rfl) rfl rfl rfl (by decide +kernel) ⟨Nat.le_of_ble_eq_true rfl, Nat.le_of_ble_eq_true rfl⟩) (PW_preV hPc hKc hDc hE hS hFc (ci := 4) (q0 := 0) rfl rfl) rfl rfl hl.1 rfl (lv_room (Nat.le_of_ble_eq_true rfl)) d_Md_load_33 ⟨Nat.le_of_ble_eq_true rfl, Nat.le_of_ble_eq_true rfl⟩) hS (fun q _ h => hFc q h) hFc (fun r_4 uu t H1 locs ht hvm hw_12 hB hz1 hk1 hS => ?_)
  obtain ⟨ma_5, mw_6, mwa_7, mv_8, mf_9, nx_10, ml_11⟩ := uu
  obtain ⟨hP1, hD1, hsz1⟩ := hB
  rw [ht] at hP1 hsz1
  obtain ⟨hP, hD⟩ := va_join (wr := [(aNw, .inl (kNw, 52650, .inl nw))]) (w1 := [(aM, .inr (4, [.int th, .ref aMT, .int (nI 0), .ref aNw, .ref aNx, .int mw_6, .int mwa_7, .int (nI ma_5), .int (nI mu), .long mv_8, .int mf_9, .int ml_11])), (aMT, .inl (kMT, 65536, .inl B)), (aNx, .inl (kNx, 52650, .inl nx_10))]) hP hD [2, 0, 3] [1] rfl rfl (by decide) (by decide) hk1 hFc hP1 hD1
  generalize H1 = H at hP hS ⊢
  have hP : va_P (dC, dI) vwCl [(aNw, .inl (kNw, 52650, .inl nw)), (aM, .inr (4, [.int th, .ref aMT, .int (nI 0), .ref aNw, .ref aNx, .int mw_6, .int mwa_7, .int (nI ma_5), .int (nI mu), .long mv_8, .int mf_9, .int ml_11])), (aMT, .inl (kMT, 65536, .inl B)), (aNx, .inl (kNx, 52650, .inl nx_10))] H := hP
  have hD : va_D A [(aNw, .inl (kNw, 52650, .inl nw)), (aM, .inr (4, [.int th, .ref aMT, .int (nI 0), .ref aNw, .ref aNx, .int mw_6, .int mwa_7, .int (nI ma_5), .int (nI mu), .long mv_8, .int mf_9, .int ml_11])), (aMT, .inl (kMT, 65536, .inl B)), (aNx, .inl (kNx, 52650, .inl nx_10))] := hD
  rcases hw_12 with ⟨rfl, hw_12b, e1, e2, hw_12a⟩ | ⟨rfl, hw_12b, hw_12k, hw_12a, e2⟩
  ·
    have e1 := e1.symm; subst e1
    have e2 := e2.symm; subst e2
    refine lv_istore_n (lv' := [(1, .int 1), (0, .ref aM)]) hx hb d_Md_load_36 rfl hl (by decide) rfl (fun ls hl => ?_)
    refine lv_aload_n hx hb d_Md_load_37 rfl (lv_at hl 1 rfl) ?_
    refine lv_iload_n hx hb d_Md_load_38 rfl (lv_at hl 0 rfl) ?_
    refine lv_if_eq (tgt := 46) hx hb d_Md_load_39 (by decide) (fun c_13 => ?_) (fun c_13 => ?_)
    ·
      exact absurd c_13 (by decide)
    ·
      refine lv_iconst (v := 0) hx hb d_Md_load_42 (by decide) ?_
      refine lv_goto (tgt := 47) hx hb d_Md_load_43 (by decide) ?_
      refine va_put (D := (dC, dI)) (ci := 4) (v := .int 0) (ty := .int) (C := R_Md) (T := F_Md) (N := 12) hx hb hz i_Md t_Md t_Md_ok n_Md hown hK hP hD hS 1 rfl rfl 0 (by decide) (hz _ tw_476) (fun _ h9 => h9) rfl (by decide +kernel) rfl rfl (Nat.le_of_ble_eq_true rfl) d_Md_load_47 (fun H locs hP hD hS => ?_)
      have hP : va_P (dC, dI) vwCl [(aNw, .inl (kNw, 52650, .inl nw)), (aM, .inr (4, [.int 0, .ref aMT, .int (nI 0), .ref aNw, .ref aNx, .int 0, .int 0, .int (nI ma_5), .int (nI mu), .long mv_8, .int mf_9, .int ml_11])), (aMT, .inl (kMT, 65536, .inl B)), (aNx, .inl (kNx, 52650, .inl nx_10))] H := hP
      have hD : va_D A [(aNw, .inl (kNw, 52650, .inl nw)), (aM, .inr (4, [.int 0, .ref aMT, .int (nI 0), .ref aNw, .ref aNx, .int 0, .int 0, .int (nI ma_5), .int (nI mu), .long mv_8, .int mf_9, .int ml_11])), (aMT, .inl (kMT, 65536, .inl B)), (aNx, .inl (kNx, 52650, .inl nx_10))] := hD
      refine lv_iload_n hx hb d_Md_load_50 rfl (lv_at hl 0 rfl) ?_
      refine lv_if_ne (tgt := 56) hx hb d_Md_load_51 (by decide) (fun c_14 => ?_) (fun c_14 => ?_)
      ·
        refine lv_aload_n hx hb d_Md_load_56 rfl (lv_at hl 1 rfl) ?_
        refine va_get (D := (dC, dI)) (ci := 4) (v := .ref aNw) (C := R_Md) (T := F_Md) (N := 12) hx hb hz i_Md hown hK hP 1 rfl rfl 3 (by decide) (hz _ tw_479) (fun _ h9 => h9) rfl d_Md_load_57 ?_
        refine lv_astore_n (lv' := [(2, .ref aNw), (1, .int 1), (0, .ref aM)]) hx hb d_Md_load_60 rfl hl (by decide) rfl (fun ls hl => ?_)
        refine lv_aload_n hx hb d_Md_load_61 rfl (lv_at hl 2 rfl) ?_
        refine lv_aload_n hx hb d_Md_load_62 rfl (lv_at hl 2 rfl) ?_
        refine va_get (D := (dC, dI)) (ci := 4) (v := .ref aNx) (C := R_Md) (T := F_Md) (N := 12) hx hb hz i_Md hown hK hP 1 rfl rfl 4 (by decide) (hz _ tw_480) (fun _ h9 => h9) rfl d_Md_load_63 ?_
        refine va_put (D := (dC, dI)) (ci := 4) (v := .ref aNx) (ty := .array .int) (C := R_Md) (T := F_Md) (N := 12) hx hb hz i_Md t_Md t_Md_ok n_Md hown hK hP hD hS 1 rfl rfl 3 (by decide) (hz _ tw_479) (fun _ h9 => h9) rfl (by decide +kernel) rfl rfl (Nat.le_of_ble_eq_true rfl) d_Md_load_66 (fun H locs hP hD hS => ?_)
        have hP : va_P (dC, dI) vwCl [(aNw, .inl (kNw, 52650, .inl nw)), (aM, .inr (4, [.int 0, .ref aMT, .int (nI 0), .ref aNx, .ref aNx, .int 0, .int 0, .int (nI ma_5), .int (nI mu), .long mv_8, .int mf_9, .int ml_11])), (aMT, .inl (kMT, 65536, .inl B)), (aNx, .inl (kNx, 52650, .inl nx_10))] H := hP
        have hD : va_D A [(aNw, .inl (kNw, 52650, .inl nw)), (aM, .inr (4, [.int 0, .ref aMT, .int (nI 0), .ref aNx, .ref aNx, .int 0, .int 0, .int (nI ma_5), .int (nI mu), .long mv_8, .int mf_9, .int ml_11])), (aMT, .inl (kMT, 65536, .inl B)), (aNx, .inl (kNx, 52650, .inl nx_10))] := hD
        refine lv_aload_n hx hb d_Md_load_69 rfl (lv_at hl 2 rfl) ?_
        refine lv_aload_n hx hb d_Md_load_70 rfl (lv_at hl 0 rfl) ?_
        refine va_put (D := (dC, dI)) (ci := 4) (v := .ref aNw) (ty := .array .int) (C := R_Md) (T := F_Md) (N := 12) hx hb hz i_Md t_Md t_Md_ok n_Md hown hK hP hD hS 1 rfl rfl 4 (by decide) (hz _ tw_480) (fun _ h9 => h9) rfl (by decide +kernel) rfl rfl (Nat.le_of_ble_eq_true rfl) d_Md_load_71 (fun H locs hP hD hS => ?_)
        have hP : va_P (dC, dI) vwCl [(aNw, .inl (kNw, 52650, .inl nw)), (aM, .inr (4, [.int 0, .ref aMT, .int (nI 0), .ref aNx, .ref aNw, .int 0, .int 0, .int (nI ma_5), .int (nI mu), .long mv_8, .int mf_9, .int ml_11])), (aMT, .inl (kMT, 65536, .inl B)), (aNx, .inl (kNx, 52650, .inl nx_10))] H := hP
        have hD : va_D A [(aNw, .inl (kNw, 52650, .inl nw)), (aM, .inr (4, [.int 0, .ref aMT, .int (nI 0), .ref aNx, .ref aNw, .int 0, .int 0, .int (nI ma_5), .int (nI mu), .long mv_8, .int mf_9, .int ml_11])), (aMT, .inl (kMT, 65536, .inl B)), (aNx, .inl (kNx, 52650, .inl nx_10))] := hD
        refine lv_aload_n hx hb d_Md_load_74 rfl (lv_at hl 2 rfl) ?_
        refine va_get (D := (dC, dI)) (ci := 4) (v := .ref aNx) (C := R_Md) (T := F_Md) (N := 12) hx hb hz i_Md hown hK hP 1 rfl rfl 3 (by decide) (hz _ tw_479) (fun _ h9 => h9) rfl d_Md_load_75 ?_
        refine lv_iconst (v := 3) hx hb d_Md_load_78 (by decide) ?_
        refine va_iald (D := (dC, dI)) (i := nI 3) hx hb hK hP 3 2 rfl rfl (vp_in_nI (by omega) (by decide)) d_Md_load_79 ?_
        refine zt_top (by rw [nI_clamp (by omega)]) ?_
        refine zt_size (fun hzs => ?_)
        have hP9 := hP.sub (ws' := [(aM, .inr (4, [.int 0, .ref aMT, .int (nI 0), .ref aNx, .ref aNw, .int 0, .int 0, .int (nI ma_5), .int (nI mu), .long mv_8, .int mf_9, .int ml_11])), (aMT, .inl (kMT, 65536, .inl B)), (aNw, .inl (kNw, 52650, .inl nw)), (aNx, .inl (kNx, 52650, .inl nx_10))]) [1, 2, 0, 3] rfl
        have hD9 := hD.sub (ws' := [(aM, .inr (4, [.int 0, .ref aMT, .int (nI 0), .ref aNx, .ref aNw, .int 0, .int 0, .int (nI ma_5), .int (nI mu), .long mv_8, .int mf_9, .int ml_11])), (aMT, .inl (kMT, 65536, .inl B)), (aNw, .inl (kNw, 52650, .inl nw)), (aNx, .inl (kNx, 52650, .inl nx_10))]) [1, 2, 0, 3] (by decide) rfl
        exact W.iret (v := nx_10 3) hx hb hr (fun t ht hW => ⟨⟨nx_10 3, (0, 0, aNx, aNw, 0, 0, ma_5, mu, mv_8, mf_9, ml_11, nx_10), rfl, ⟨rfl, Or.inl ⟨rfl, hw_12a, rfl, rfl, rfl, rfl, rfl⟩⟩, by rw [ht]; exact hP9, hD9, by rw [ht]; exact hzs⟩, hS.F ht⟩) hS.2.2 d_Md_load_80
      ·
        exact absurd c_14 (by decide)
  ·
    have e2 := e2.symm; subst e2
    refine lv_istore_n (lv' := [(1, .int 0), (0, .ref aM)]) hx hb d_Md_load_36 rfl hl (by decide) rfl (fun ls hl => ?_)
    refine lv_aload_n hx hb d_Md_load_37 rfl (lv_at hl 1 rfl) ?_
    refine lv_iload_n hx hb d_Md_load_38 rfl (lv_at hl 0 rfl) ?_
    refine lv_if_eq (tgt := 46) hx hb d_Md_load_39 (by decide) (fun c_15 => ?_) (fun c_15 => ?_)
    ·
      refine lv_iconst (v := 1) hx hb d_Md_load_46 (by decide) ?_
      refine va_put (D := (dC, dI)) (ci := 4) (v := .int 1) (ty := .int) (C := R_Md) (T := F_Md) (N := 12) hx hb hz i_Md t_Md t_Md_ok n_Md hown hK hP hD hS 1 rfl rfl 0 (by decide) (hz _ tw_476) (fun _ h9 => h9) rfl (by decide +kernel) rfl rfl (Nat.le_of_ble_eq_true rfl) d_Md_load_47 (fun H locs hP hD hS => ?_)
      have hP : va_P (dC, dI) vwCl [(aNw, .inl (kNw, 52650, .inl nw)), (aM, .inr (4, [.int 1, .ref aMT, .int (nI 0), .ref aNw, .ref aNx, .int mw_6, .int (nI hw_12k), .int (nI ma_5), .int (nI mu), .long mv_8, .int mf_9, .int ml_11])), (aMT, .inl (kMT, 65536, .inl B)), (aNx, .inl (kNx, 52650, .inl nx_10))] H := hP
      have hD : va_D A [(aNw, .inl (kNw, 52650, .inl nw)), (aM, .inr (4, [.int 1, .ref aMT, .int (nI 0), .ref aNw, .ref aNx, .int mw_6, .int (nI hw_12k), .int (nI ma_5), .int (nI mu), .long mv_8, .int mf_9, .int ml_11])), (aMT, .inl (kMT, 65536, .inl B)), (aNx, .inl (kNx, 52650, .inl nx_10))] := hD
      refine lv_iload_n hx hb d_Md_load_50 rfl (lv_at hl 0 rfl) ?_
      refine lv_if_ne (tgt := 56) hx hb d_Md_load_51 (by decide) (fun c_16 => ?_) (fun c_16 => ?_)
      ·
        exact absurd (by decide) c_16
      ·
        refine lv_iconst (v := 0) hx hb d_Md_load_54 (by decide) ?_
        refine zt_size (fun hzs => ?_)
        have hP9 := hP.sub (ws' := [(aM, .inr (4, [.int 1, .ref aMT, .int (nI 0), .ref aNw, .ref aNx, .int mw_6, .int (nI hw_12k), .int (nI ma_5), .int (nI mu), .long mv_8, .int mf_9, .int ml_11])), (aMT, .inl (kMT, 65536, .inl B)), (aNw, .inl (kNw, 52650, .inl nw)), (aNx, .inl (kNx, 52650, .inl nx_10))]) [1, 2, 0, 3] rfl
        have hD9 := hD.sub (ws' := [(aM, .inr (4, [.int 1, .ref aMT, .int (nI 0), .ref aNw, .ref aNx, .int mw_6, .int (nI hw_12k), .int (nI ma_5), .int (nI mu), .long mv_8, .int mf_9, .int ml_11])), (aMT, .inl (kMT, 65536, .inl B)), (aNw, .inl (kNw, 52650, .inl nw)), (aNx, .inl (kNx, 52650, .inl nx_10))]) [1, 2, 0, 3] (by decide) rfl
        exact W.iret (v := 0) hx hb hr (fun t ht hW => ⟨⟨0, (1, 0, aNw, aNx, mw_6, nI hw_12k, ma_5, mu, mv_8, mf_9, ml_11, nx_10), rfl, ⟨rfl, Or.inr ⟨rfl, rfl, rfl, rfl, _, hw_12a, rfl⟩⟩, by rw [ht]; exact hP9, hD9, by rw [ht]; exact hzs⟩, hS.F ht⟩) hS.2.2 d_Md_load_55
    ·
      exact absurd (by decide) c_15
