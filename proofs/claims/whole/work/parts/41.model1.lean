set_option maxHeartbeats 4000000 in
set_option maxRecDepth 100000 in
theorem c_Md_fails (l : Launch) (G : ZG) (dC : Nat → ClassId) (dI : Nat → Nat → Nat) (sz : Nat) (aM : Nat) (th : Int32) (aMT : Nat) (mu : Nat) (aNw : Nat) (aNx : Nat) (mw : Int32) (mwa : Int32) (ma : Nat) (en : Nat) (mv : Int64) (mf : Int32) (ml : Int32) (wt : Int32) (wh : Int32) : Met l y_Md_fails w_Md_fails ({ frames := 0, cells := 0, slots := 0, locals := 0 }) (va_Pc [.ref aM, .int wt, .int wh] (PW G (dC, dI) [] [(aM, .inr (4, [.int th, .ref aMT, .int (nI mu), .ref aNw, .ref aNx, .int mw, .int mwa, .int (nI ma), .int (nI en), .long mv, .int mf, .int ml]))] sz)) (va_Qi (fun (r : Int32) (uu : Int32 × Int32) => r = 0 ∧ uu.1 = wt ∧ uu.2 = wh) (fun (uu : Int32 × Int32) t => BW (dC, dI) [(aM, .inr (4, [.int th, .ref aMT, .int (nI mu), .ref aNw, .ref aNx, .int uu.1, .int uu.2, .int (nI ma), .int (nI en), .long mv, .int mf, .int ml]))] (va_A [(aM, .inr (4, [.int th, .ref aMT, .int (nI mu), .ref aNw, .ref aNx, .int mw, .int mwa, .int (nI ma), .int (nI en), .long mv, .int mf, .int ml]))] sz) sz t) (va_A [(aM, .inr (4, [.int th, .ref aMT, .int (nI mu), .ref aNw, .ref aNx, .int mw, .int mwa, .int (nI ma), .int (nI en), .long mv, .int mf, .int ml]))] sz)) 0 0 (va_A [(aM, .inr (4, [.int th, .ref aMT, .int (nI mu), .ref aNw, .ref aNx, .int mw, .int mwa, .int (nI ma), .int (nI en), .long mv, .int mf, .int ml]))] sz) := by
  refine Met.ofW (cc := prog_6_method_7_code) (maxL := 3) (ret := (some .boolean)) (by decide) rfl ?_
  intro p e s m args below meth c s₁ Bd hml hv
  obtain ⟨rfl, hsz, hP, hK, hD0, hE⟩ := hv
  have hx := Bd.exec
  have hb := Bd.bytes
  have hr := Bd.returns
  have hts := atoms_spec (ws := w_Md_fails) Bd.pre
  have hown : s.vm.findClass R_Md = some m.cls := findClass_of_methodNamed Bd.named
  have hlocks := Bd.notSynchronized
  have hz : ∀ w ∈ ZW, w.before _ s = true := fun w h => hts w (List.mem_cons_of_mem _ h)
  subst hsz
  have hD := hD0.self (sz := s.heap.size)
  generalize hAe : va_A [(aM, .inr (4, [.int th, .ref aMT, .int (nI mu), .ref aNw, .ref aNx, .int mw, .int mwa, .int (nI ma), .int (nI en), .long mv, .int mf, .int ml]))] s.heap.size = A at hD hE ⊢
  have hA : ∀ q : Nat, s.heap.size ≤ q → A q := fun q h => by rw [← hAe]; exact Or.inr h
  have hS : va_S A s.heap s.heap [] := va_S.rf
  have hl := lv_entry ([.ref aM, .int wt, .int wh]) (n := 3) (Nat.le_of_ble_eq_true rfl)
  rw [lg_entry_eq]
  generalize (lg_sl ([.ref aM, .int wt, .int wh]) ++ List.replicate (3 - (lg_sl ([.ref aM, .int wt, .int wh])).length) Slot.unset).toArray = ls at hl ⊢
  have hl : lv_has ls 3 [(0, .ref aM), (1, .int wt), (2, .int wh)] := hl
  obtain ⟨H, hH⟩ : ∃ z, z = s.heap := ⟨_, rfl⟩
  have hP : va_P (dC, dI) vwCl [(aM, .inr (4, [.int th, .ref aMT, .int (nI mu), .ref aNw, .ref aNx, .int mw, .int mwa, .int (nI ma), .int (nI en), .long mv, .int mf, .int ml]))] H := by rw [hH]; exact hP
  have hS : va_S A s.heap H [] := by rw [hH]; exact hS
  refine zt_heap hH ?_
  refine lv_aload_n hx hb d_Md_fails_0 rfl (lv_at hl 0 rfl) ?_
  refine lv_iload_n hx hb d_Md_fails_1 rfl (lv_at hl 1 rfl) ?_
  refine va_put (D := (dC, dI)) (ci := 4) (v := .int wt) (ty := .int) (C := R_Md) (T := F_Md) (N := 12) hx hb hz i_Md t_Md t_Md_ok n_Md hown hK hP hD hS 0 rfl rfl 5 (by decide) (hz _ tw_481) (fun _ h9 => h9) rfl (by decide +kernel) rfl rfl (Nat.le_of_ble_eq_true rfl) d_Md_fails_2 (fun H locs hP hD hS => ?_)
  have hP : va_P (dC, dI) vwCl [(aM, .inr (4, [.int th, .ref aMT, .int (nI mu), .ref aNw, .ref aNx, .int wt, .int mwa, .int (nI ma), .int (nI en), .long mv, .int mf, .int ml]))] H := hP
  have hD : va_D A [(aM, .inr (4, [.int th, .ref aMT, .int (nI mu), .ref aNw, .ref aNx, .int wt, .int mwa, .int (nI ma), .int (nI en), .long mv, .int mf, .int ml]))] := hD
  refine lv_aload_n hx hb d_Md_fails_5 rfl (lv_at hl 0 rfl) ?_
  refine lv_iload_n hx hb d_Md_fails_6 rfl (lv_at hl 2 rfl) ?_
  refine va_put (D := (dC, dI)) (ci := 4) (v := .int wh) (ty := .int) (C := R_Md) (T := F_Md) (N := 12) hx hb hz i_Md t_Md t_Md_ok n_Md hown hK hP hD hS 0 rfl rfl 6 (by decide) (hz _ tw_482) (fun _ h9 => h9) rfl (by decide +kernel) rfl rfl (Nat.le_of_ble_eq_true rfl) d_Md_fails_7 (fun H locs hP hD hS => ?_)
  have hP : va_P (dC, dI) vwCl [(aM, .inr (4, [.int th, .ref aMT, .int (nI mu), .ref aNw, .ref aNx, .int wt, .int wh, .int (nI ma), .int (nI en), .long mv, .int mf, .int ml]))] H := hP
  have hD : va_D A [(aM, .inr (4, [.int th, .ref aMT, .int (nI mu), .ref aNw, .ref aNx, .int wt, .int wh, .int (nI ma), .int (nI en), .long mv, .int mf, .int ml]))] := hD
  refine lv_iconst (v := 0) hx hb d_Md_fails_10 (by decide) ?_
  refine zt_size (fun hzs => ?_)
  have hP9 := hP.sub (ws' := [(aM, .inr (4, [.int th, .ref aMT, .int (nI mu), .ref aNw, .ref aNx, .int wt, .int wh, .int (nI ma), .int (nI en), .long mv, .int mf, .int ml]))]) [0] rfl
  have hD9 := hD.sub (ws' := [(aM, .inr (4, [.int th, .ref aMT, .int (nI mu), .ref aNw, .ref aNx, .int wt, .int wh, .int (nI ma), .int (nI en), .long mv, .int mf, .int ml]))]) [0] (by decide) rfl
  exact W.zret (v := 0) hx hb hr rfl (fun t ht hW => ⟨⟨0, (wt, wh), rfl, ⟨rfl, rfl, rfl⟩, by rw [ht]; exact hP9, hD9, by rw [ht]; exact hzs⟩, hS.F ht⟩) hS.2.2 d_Md_fails_11
set_option maxHeartbeats 4000000 in
set_option maxRecDepth 100000 in
theorem lp_Md_skip (l : Launch) (G : ZG) (dC : Nat → ClassId) (dI : Nat → Nat → Nat) (aM : Nat) (th : Int32) (aMT : Nat) (mu : Nat) (aNw : Nat) (aNx : Nat) (mw : Int32) (mwa : Int32) (ma : Nat) (en : Nat) (mv : Int64) (mf : Int32) (ml : Int32) (kMT : ClassId) (B : Nat → Int32) (hen : en ≤ 65536) (hma : ma ≤ en) {p : Program} {e : Env} {s : State} {m : MethodId} {args : Array Value} {below : List Frame} {meth : Method} {c : Code} {A : Nat → Prop} (C0 : zC p s m args meth c prog_6_method_8_code 1 none R_Md w_Md_skip) (hA : ∀ q : Nat, s.heap.size ≤ q → A q) (hK : va_K (dC, dI) vwCl [(kMT, .byte)] s) (hE : zE G A s s.heap) : ∀ (n : Nat) (i : Nat), (i ≤ en) → (en + 1 ≤ i + n) → (zK B en i = zK B en ma) → ∀ (H : Heap) (locs : List Loc), va_P (dC, dI) vwCl [(aM, .inr (4, [.int th, .ref aMT, .int (nI mu), .ref aNw, .ref aNx, .int mw, .int mwa, .int (nI i), .int (nI en), .long mv, .int mf, .int ml])), (aMT, .inl (kMT, 65536, .inl B))] H → va_D A [(aM, .inr (4, [.int th, .ref aMT, .int (nI mu), .ref aNw, .ref aNx, .int mw, .int mwa, .int (nI i), .int (nI en), .long mv, .int mf, .int ml])), (aMT, .inl (kMT, 65536, .inl B))] → va_S A s.heap H locs → ∀ (ls : Array Slot), lv_has ls 1 [(0, .ref aM)] → W p l e ({ frames := 0, cells := 0, slots := 0, locals := 0 }) s m args below meth c H locs 0 0 (MQ below (va_Qv (fun (uu : Nat) => uu = zK B en ma) (fun (uu : Nat) t => BW (dC, dI) [(aM, .inr (4, [.int th, .ref aMT, .int (nI mu), .ref aNw, .ref aNx, .int mw, .int mwa, .int (nI uu), .int (nI en), .long mv, .int mf, .int ml])), (aMT, .inl (kMT, 65536, .inl B))] A s.heap.size t) A) args s 0 0 A) (F0 m 0 ls []) := by
  obtain ⟨hx, hb, hr, hml, hown, hts, hlocks⟩ := C0
  have hz : ∀ w ∈ ZW, w.before _ s = true := fun w h => hts w (List.mem_cons_of_mem _ h)
  intro n
  induction n with
  | zero =>
    intro i hi hn hk H locs hP hD hS ls hl
    exact absurd hn (by omega)
  | succ n ih =>
    intro i hi hn hk H locs hP hD hS ls hl
    refine lv_aload_n hx hb d_Md_skip_0 rfl (lv_at hl 0 rfl) ?_
    refine va_get (D := (dC, dI)) (ci := 4) (v := .int (nI i)) (C := R_Md) (T := F_Md) (N := 12) hx hb hz i_Md hown hK hP 0 rfl rfl 7 (by decide) (hz _ tw_483) (fun _ h9 => h9) rfl d_Md_skip_1 ?_
    refine lv_aload_n hx hb d_Md_skip_4 rfl (lv_at hl 0 rfl) ?_
    refine va_get (D := (dC, dI)) (ci := 4) (v := .int (nI en)) (C := R_Md) (T := F_Md) (N := 12) hx hb hz i_Md hown hK hP 0 rfl rfl 8 (by decide) (hz _ tw_484) (fun _ h9 => h9) rfl d_Md_skip_5 ?_
    refine lv_icmp_ge (tgt := 80) hx hb d_Md_skip_8 (by decide) (fun c_1 => ?_) (fun c_1 => ?_)
    ·
      have c_1 : en ≤ i := (@nI_leI en i (by omega) (by omega)).mp c_1
      refine zt_size (fun hzs => ?_)
      have hP9 := hP.sub (ws' := [(aM, .inr (4, [.int th, .ref aMT, .int (nI mu), .ref aNw, .ref aNx, .int mw, .int mwa, .int (nI i), .int (nI en), .long mv, .int mf, .int ml])), (aMT, .inl (kMT, 65536, .inl B))]) [0, 1] rfl
      have hD9 := hD.sub (ws' := [(aM, .inr (4, [.int th, .ref aMT, .int (nI mu), .ref aNw, .ref aNx, .int mw, .int mwa, .int (nI i), .int (nI en), .long mv, .int mf, .int ml])), (aMT, .inl (kMT, 65536, .inl B))]) [0, 1] (by decide) rfl
      exact W.vret hx hb hr (fun t ht hW => ⟨⟨i, rfl, by rw [← hk]; exact (zK_no (fun z => absurd z.1 (by omega))).symm, by rw [ht]; exact hP9, hD9, by rw [ht]; exact hzs⟩, hS.F ht⟩) hS.2.2 d_Md_skip_80
    ·
      have c_1 : ¬ (en ≤ i) := fun z => c_1 ((@nI_leI en i (by omega) (by omega)).mpr z)
      refine lv_aload_n hx hb d_Md_skip_11 rfl (lv_at hl 0 rfl) ?_
      refine va_get (D := (dC, dI)) (ci := 4) (v := .ref aMT) (C := R_Md) (T := F_Md) (N := 12) hx hb hz i_Md hown hK hP 0 rfl rfl 1 (by decide) (hz _ tw_477) (fun _ h9 => h9) rfl d_Md_skip_12 ?_
      refine lv_aload_n hx hb d_Md_skip_15 rfl (lv_at hl 0 rfl) ?_
      refine va_get (D := (dC, dI)) (ci := 4) (v := .int (nI i)) (C := R_Md) (T := F_Md) (N := 12) hx hb hz i_Md hown hK hP 0 rfl rfl 7 (by decide) (hz _ tw_483) (fun _ h9 => h9) rfl d_Md_skip_16 ?_
      refine va_bald (D := (dC, dI)) (i := nI i) hx hb hK hP 1 0 rfl rfl (vp_in_nI (by omega) (by decide)) d_Md_skip_19 ?_
      refine zt_top (by rw [nI_clamp (by omega)]) ?_
      refine lv_bipush (v := 32) hx hb d_Md_skip_20 (by decide) ?_
      refine lv_icmp_eq (tgt := 67) hx hb d_Md_skip_22 (by decide) (fun c_2 => ?_) (fun c_2 => ?_)
      ·
        refine lv_aload_n hx hb d_Md_skip_67 rfl (lv_at hl 0 rfl) ?_
        refine lv_dup hx hb d_Md_skip_68 rfl ?_
        refine va_get (D := (dC, dI)) (ci := 4) (v := .int (nI i)) (C := R_Md) (T := F_Md) (N := 12) hx hb hz i_Md hown hK hP 0 rfl rfl 7 (by decide) (hz _ tw_483) (fun _ h9 => h9) rfl d_Md_skip_69 ?_
        refine lv_iconst (v := 1) hx hb d_Md_skip_72 (by decide) ?_
        refine lv_iadd hx hb d_Md_skip_73 ?_
        refine zt_top (nI_add i 1) ?_
        refine va_put (D := (dC, dI)) (ci := 4) (v := .int (nI (i + 1))) (ty := .int) (C := R_Md) (T := F_Md) (N := 12) hx hb hz i_Md t_Md t_Md_ok n_Md hown hK hP hD hS 0 rfl rfl 7 (by decide) (hz _ tw_483) (fun _ h9 => h9) rfl (by decide +kernel) rfl rfl (Nat.le_of_ble_eq_true rfl) d_Md_skip_74 (fun H locs hP hD hS => ?_)
        have hP : va_P (dC, dI) vwCl [(aM, .inr (4, [.int th, .ref aMT, .int (nI mu), .ref aNw, .ref aNx, .int mw, .int mwa, .int (nI (i + 1)), .int (nI en), .long mv, .int mf, .int ml])), (aMT, .inl (kMT, 65536, .inl B))] H := hP
        have hD : va_D A [(aM, .inr (4, [.int th, .ref aMT, .int (nI mu), .ref aNw, .ref aNx, .int mw, .int mwa, .int (nI (i + 1)), .int (nI en), .long mv, .int mf, .int ml])), (aMT, .inl (kMT, 65536, .inl B))] := hD
        refine lv_goto (tgt := 0) hx hb d_Md_skip_77 (by decide) ?_
        exact ih (i + 1) (by omega) (by omega) ((zK_go (by omega) (Or.inl c_2)).symm.trans hk) _ _ (hP.sub [0, 1] rfl) (hD.sub [0, 1] (by decide) rfl) hS ls (lv_sub hl [0] rfl)
      ·
        refine lv_aload_n hx hb d_Md_skip_25 rfl (lv_at hl 0 rfl) ?_
        refine va_get (D := (dC, dI)) (ci := 4) (v := .ref aMT) (C := R_Md) (T := F_Md) (N := 12) hx hb hz i_Md hown hK hP 0 rfl rfl 1 (by decide) (hz _ tw_477) (fun _ h9 => h9) rfl d_Md_skip_26 ?_
        refine lv_aload_n hx hb d_Md_skip_29 rfl (lv_at hl 0 rfl) ?_
        refine va_get (D := (dC, dI)) (ci := 4) (v := .int (nI i)) (C := R_Md) (T := F_Md) (N := 12) hx hb hz i_Md hown hK hP 0 rfl rfl 7 (by decide) (hz _ tw_483) (fun _ h9 => h9) rfl d_Md_skip_30 ?_
        refine va_bald (D := (dC, dI)) (i := nI i) hx hb hK hP 1 0 rfl rfl (vp_in_nI (by omega) (by decide)) d_Md_skip_33 ?_
        refine zt_top (by rw [nI_clamp (by omega)]) ?_
        refine lv_bipush (v := 10) hx hb d_Md_skip_34 (by decide) ?_
        refine lv_icmp_eq (tgt := 67) hx hb d_Md_skip_36 (by decide) (fun c_3 => ?_) (fun c_3 => ?_)
        ·
          refine lv_aload_n hx hb d_Md_skip_67 rfl (lv_at hl 0 rfl) ?_
          refine lv_dup hx hb d_Md_skip_68 rfl ?_
          refine va_get (D := (dC, dI)) (ci := 4) (v := .int (nI i)) (C := R_Md) (T := F_Md) (N := 12) hx hb hz i_Md hown hK hP 0 rfl rfl 7 (by decide) (hz _ tw_483) (fun _ h9 => h9) rfl d_Md_skip_69 ?_
          refine lv_iconst (v := 1) hx hb d_Md_skip_72 (by decide) ?_
          refine lv_iadd hx hb d_Md_skip_73 ?_
          refine zt_top (nI_add i 1) ?_
          refine va_put (D := (dC, dI)) (ci := 4) (v := .int (nI (i + 1))) (ty := .int) (C := R_Md) (T := F_Md) (N := 12) hx hb hz i_Md t_Md t_Md_ok n_Md hown hK hP hD hS 0 rfl rfl 7 (by decide) (hz _ tw_483) (fun _ h9 => h9) rfl (by decide +kernel) rfl rfl (Nat.le_of_ble_eq_true rfl) d_Md_skip_74 (fun H locs hP hD hS => ?_)
          have hP : va_P (dC, dI) vwCl [(aM, .inr (4, [.int th, .ref aMT, .int (nI mu), .ref aNw, .ref aNx, .int mw, .int mwa, .int (nI (i + 1)), .int (nI en), .long mv, .int mf, .int ml])), (aMT, .inl (kMT, 65536, .inl B))] H := hP
          have hD : va_D A [(aM, .inr (4, [.int th, .ref aMT, .int (nI mu), .ref aNw, .ref aNx, .int mw, .int mwa, .int (nI (i + 1)), .int (nI en), .long mv, .int mf, .int ml])), (aMT, .inl (kMT, 65536, .inl B))] := hD
          refine lv_goto (tgt := 0) hx hb d_Md_skip_77 (by decide) ?_
          exact ih (i + 1) (by omega) (by omega) ((zK_go (by omega) (Or.inr (Or.inl c_3))).symm.trans hk) _ _ (hP.sub [0, 1] rfl) (hD.sub [0, 1] (by decide) rfl) hS ls (lv_sub hl [0] rfl)
        ·
          refine lv_aload_n hx hb d_Md_skip_39 rfl (lv_at hl 0 rfl) ?_
          refine va_get (D := (dC, dI)) (ci := 4) (v := .ref aMT) (C := R_Md) (T := F_Md) (N := 12) hx hb hz i_Md hown hK hP 0 rfl rfl 1 (by decide) (hz _ tw_477) (fun _ h9 => h9) rfl d_Md_skip_40 ?_
          refine lv_aload_n hx hb d_Md_skip_43 rfl (lv_at hl 0 rfl) ?_
          refine va_get (D := (dC, dI)) (ci := 4) (v := .int (nI i)) (C := R_Md) (T := F_Md) (N := 12) hx hb hz i_Md hown hK hP 0 rfl rfl 7 (by decide) (hz _ tw_483) (fun _ h9 => h9) rfl d_Md_skip_44 ?_
          refine va_bald (D := (dC, dI)) (i := nI i) hx hb hK hP 1 0 rfl rfl (vp_in_nI (by omega) (by decide)) d_Md_skip_47 ?_
          refine zt_top (by rw [nI_clamp (by omega)]) ?_
          refine lv_bipush (v := 13) hx hb d_Md_skip_48 (by decide) ?_
          refine lv_icmp_eq (tgt := 67) hx hb d_Md_skip_50 (by decide) (fun c_4 => ?_) (fun c_4 => ?_)
          ·
            refine lv_aload_n hx hb d_Md_skip_67 rfl (lv_at hl 0 rfl) ?_
            refine lv_dup hx hb d_Md_skip_68 rfl ?_
            refine va_get (D := (dC, dI)) (ci := 4) (v := .int (nI i)) (C := R_Md) (T := F_Md) (N := 12) hx hb hz i_Md hown hK hP 0 rfl rfl 7 (by decide) (hz _ tw_483) (fun _ h9 => h9) rfl d_Md_skip_69 ?_
            refine lv_iconst (v := 1) hx hb d_Md_skip_72 (by decide) ?_
            refine lv_iadd hx hb d_Md_skip_73 ?_
            refine zt_top (nI_add i 1) ?_
            refine va_put (D := (dC, dI)) (ci := 4) (v := .int (nI (i + 1))) (ty := .int) (C := R_Md) (T := F_Md) (N := 12) hx hb hz i_Md t_Md t_Md_ok n_Md hown hK hP hD hS 0 rfl rfl 7 (by decide) (hz _ tw_483) (fun _ h9 => h9) rfl (by decide +kernel) rfl rfl (Nat.le_of_ble_eq_true rfl) d_Md_skip_74 (fun H locs hP hD hS => ?_)
            have hP : va_P (dC, dI) vwCl [(aM, .inr (4, [.int th, .ref aMT, .int (nI mu), .ref aNw, .ref aNx, .int mw, .int mwa, .int (nI (i + 1)), .int (nI en), .long mv, .int mf, .int ml])), (aMT, .inl (kMT, 65536, .inl B))] H := hP
            have hD : va_D A [(aM, .inr (4, [.int th, .ref aMT, .int (nI mu), .ref aNw, .ref aNx, .int mw, .int mwa, .int (nI (i + 1)), .int (nI en), .long mv, .int mf, .int ml])), (aMT, .inl (kMT, 65536, .inl B))] := hD
            refine lv_goto (tgt := 0) hx hb d_Md_skip_77 (by decide) ?_
            exact ih (i + 1) (by omega) (by omega) ((zK_go (by omega) (Or.inr (Or.inr (Or.inl c_4)))).symm.trans hk) _ _ (hP.sub [0, 1] rfl) (hD.sub [0, 1] (by decide) rfl) hS ls (lv_sub hl [0] rfl)
          ·
            refine lv_aload_n hx hb d_Md_skip_53 rfl (lv_at hl 0 rfl) ?_
            refine va_get (D := (dC, dI)) (ci := 4) (v := .ref aMT) (C := R_Md) (T := F_Md) (N := 12) hx hb hz i_Md hown hK hP 0 rfl rfl 1 (by decide) (hz _ tw_477) (fun _ h9 => h9) rfl d_Md_skip_54 ?_
            refine lv_aload_n hx hb d_Md_skip_57 rfl (lv_at hl 0 rfl) ?_
            refine va_get (D := (dC, dI)) (ci := 4) (v := .int (nI i)) (C := R_Md) (T := F_Md) (N := 12) hx hb hz i_Md hown hK hP 0 rfl rfl 7 (by decide) (hz _ tw_483) (fun _ h9 => h9) rfl d_Md_skip_58 ?_
            refine va_bald (D := (dC, dI)) (i := nI i) hx hb hK hP 1 0 rfl rfl (vp_in_nI (by omega) (by decide)) d_Md_skip_61 ?_
            refine zt_top (by rw [nI_clamp (by omega)]) ?_
            refine lv_bipush (v := 9) hx hb d_Md_skip_62 (by decide) ?_
            refine lv_icmp_ne (tgt := 80) hx hb d_Md_skip_64 (by decide) (fun c_5 => ?_) (fun c_5 => ?_)
            ·
              refine zt_size (fun hzs => ?_)
              have hP9 := hP.sub (ws' := [(aM, .inr (4, [.int th, .ref aMT, .int (nI mu), .ref aNw, .ref aNx, .int mw, .int mwa, .int (nI i), .int (nI en), .long mv, .int mf, .int ml])), (aMT, .inl (kMT, 65536, .inl B))]) [0, 1] rfl
              have hD9 := hD.sub (ws' := [(aM, .inr (4, [.int th, .ref aMT, .int (nI mu), .ref aNw, .ref aNx, .int mw, .int mwa, .int (nI i), .int (nI en), .long mv, .int mf, .int ml])), (aMT, .inl (kMT, 65536, .inl B))]) [0, 1] (by decide) rfl
              exact W.vret hx hb hr (fun t ht hW => ⟨⟨i, rfl, by rw [← hk]; exact (zK_no (fun z => z.2.elim c_2 (fun z => z.elim c_3 (fun z => z.elim c_4 c_5)))).symm, by rw [ht]; exact hP9, hD9, by rw [ht]; exact hzs⟩, hS.F ht⟩) hS.2.2 d_Md_skip_80
            ·
              refine lv_aload_n hx hb d_Md_skip_67 rfl (lv_at hl 0 rfl) ?_
              refine lv_dup hx hb d_Md_skip_68 rfl ?_
              refine va_get (D := (dC, dI)) (ci := 4) (v := .int (nI i)) (C := R_Md) (T := F_Md) (N := 12) hx hb hz i_Md hown hK hP 0 rfl rfl 7 (by decide) (hz _ tw_483) (fun _ h9 => h9) rfl d_Md_skip_69 ?_
              refine lv_iconst (v := 1) hx hb d_Md_skip_72 (by decide) ?_
              refine lv_iadd hx hb d_Md_skip_73 ?_
              refine zt_top (nI_add i 1) ?_
              refine va_put (D := (dC, dI)) (ci := 4) (v := .int (nI (i + 1))) (ty := .int) (C := R_Md) (T := F_Md) (N := 12) hx hb hz i_Md t_Md t_Md_ok n_Md hown hK hP hD hS 0 rfl rfl 7 (by decide) (hz _ tw_483) (fun _ h9 => h9) rfl (by decide +kernel) rfl rfl (Nat.le_of_ble_eq_true rfl) d_Md_skip_74 (fun H locs hP hD hS => ?_)
              have hP : va_P (dC, dI) vwCl [(aM, .inr (4, [.int th, .ref aMT, .int (nI mu), .ref aNw, .ref aNx, .int mw, .int mwa, .int (nI (i + 1)), .int (nI en), .long mv, .int mf, .int ml])), (aMT, .inl (kMT, 65536, .inl B))] H := hP
              have hD : va_D A [(aM, .inr (4, [.int th, .ref aMT, .int (nI mu), .ref aNw, .ref aNx, .int mw, .int mwa, .int (nI (i + 1)), .int (nI en), .long mv, .int mf, .int ml])), (aMT, .inl (kMT, 65536, .inl B))] := hD
              refine lv_goto (tgt := 0) hx hb d_Md_skip_77 (by decide) ?_
              exact ih (i + 1) (by omega) (by omega) ((zK_go (by omega) (Or.inr (Or.inr (Or.inr c_5)))).symm.trans hk) _ _ (hP.sub [0, 1] rfl) (hD.sub [0, 1] (by decide) rfl) hS ls (lv_sub hl [0] rfl)
set_option maxHeartbeats 4000000 in
set_option maxRecDepth 100000 in
theorem c_Md_skip (l : Launch) (G : ZG) (dC : Nat → ClassId) (dI : Nat → Nat → Nat) (sz : Nat) (aM : Nat) (th : Int32) (aMT : Nat) (mu : Nat) (aNw : Nat) (aNx : Nat) (mw : Int32) (mwa : Int32) (ma : Nat) (en : Nat) (mv : Int64) (mf : Int32) (ml : Int32) (kMT : ClassId) (B : Nat → Int32) (hen : en ≤ 65536) (hma : ma ≤ en) : Met l y_Md_skip w_Md_skip ({ frames := 0, cells := 0, slots := 0, locals := 0 }) (va_Pc [.ref aM] (PW G (dC, dI) [(kMT, .byte)] [(aM, .inr (4, [.int th, .ref aMT, .int (nI mu), .ref aNw, .ref aNx, .int mw, .int mwa, .int (nI ma), .int (nI en), .long mv, .int mf, .int ml])), (aMT, .inl (kMT, 65536, .inl B))] sz)) (va_Qv (fun (uu : Nat) => uu = zK B en ma) (fun (uu : Nat) t => BW (dC, dI) [(aM, .inr (4, [.int th, .ref aMT, .int (nI mu), .ref aNw, .ref aNx, .int mw, .int mwa, .int (nI uu), .int (nI en), .long mv, .int mf, .int ml])), (aMT, .inl (kMT, 65536, .inl B))] (va_A [(aM, .inr (4, [.int th, .ref aMT, .int (nI mu), .ref aNw, .ref aNx, .int mw, .int mwa, .int (nI ma), .int (nI en), .long mv, .int mf, .int ml])), (aMT, .inl (kMT, 65536, .inl B))] sz) sz t) (va_A [(aM, .inr (4, [.int th, .ref aMT, .int (nI mu), .ref aNw, .ref aNx, .int mw, .int mwa, .int (nI ma), .int (nI en), .long mv, .int mf, .int ml])), (aMT, .inl (kMT, 65536, .inl B))] sz)) 0 0 (va_A [(aM, .inr (4, [.int th, .ref aMT, .int (nI mu), .ref aNw, .ref aNx, .int mw, .int mwa, .int (nI ma), .int (nI en), .long mv, .int mf, .int ml])), (aMT, .inl (kMT, 65536, .inl B))] sz) := by
  refine Met.ofW (cc := prog_6_method_8_code) (maxL := 1) (ret := none) (by decide) rfl ?_
  intro p e s m args below meth c s₁ Bd hml hv
  obtain ⟨rfl, hsz, hP, hK, hD0, hE⟩ := hv
  have hx := Bd.exec
  have hb := Bd.bytes
  have hr := Bd.returns
  have hts := atoms_spec (ws := w_Md_skip) Bd.pre
  have hown : s.vm.findClass R_Md = some m.cls := findClass_of_methodNamed Bd.named
  have hlocks := Bd.notSynchronized
  have hz : ∀ w ∈ ZW, w.before _ s = true := fun w h => hts w (List.mem_cons_of_mem _ h)
  subst hsz
  have hD := hD0.self (sz := s.heap.size)
  generalize hAe : va_A [(aM, .inr (4, [.int th, .ref aMT, .int (nI mu), .ref aNw, .ref aNx, .int mw, .int mwa, .int (nI ma), .int (nI en), .long mv, .int mf, .int ml])), (aMT, .inl (kMT, 65536, .inl B))] s.heap.size = A at hD hE ⊢
  have hA : ∀ q : Nat, s.heap.size ≤ q → A q := fun q h => by rw [← hAe]; exact Or.inr h
  have hS : va_S A s.heap s.heap [] := va_S.rf
  have hl := lv_entry ([.ref aM]) (n := 1) (Nat.le_of_ble_eq_true rfl)
  rw [lg_entry_eq]
  generalize (lg_sl ([.ref aM]) ++ List.replicate (1 - (lg_sl ([.ref aM])).length) Slot.unset).toArray = ls at hl ⊢
  have hl : lv_has ls 1 [(0, .ref aM)] := hl
  obtain ⟨H, hH⟩ : ∃ z, z = s.heap := ⟨_, rfl⟩
  have hP : va_P (dC, dI) vwCl [(aM, .inr (4, [.int th, .ref aMT, .int (nI mu), .ref aNw, .ref aNx, .int mw, .int mwa, .int (nI ma), .int (nI en), .long mv, .int mf, .int ml])), (aMT, .inl (kMT, 65536, .inl B))] H := by rw [hH]; exact hP
  have hS : va_S A s.heap H [] := by rw [hH]; exact hS
  refine zt_heap hH ?_
  exact lp_Md_skip l G dC dI aM th aMT mu aNw aNx mw mwa ma en mv mf ml kMT B hen hma ⟨hx, hb, hr, hml, hown, hts, hlocks⟩ hA hK hE (en + 1) ma hma (by omega) rfl _ _ (hP.sub [0, 1] rfl) (hD.sub [0, 1] (by decide) rfl) hS ls (lv_sub hl [0] rfl)
set_option maxHeartbeats 4000000 in
set_option maxRecDepth 100000 in
theorem c_Md_comes (l : Launch) (G : ZG) (dC : Nat → ClassId) (dI : Nat → Nat → Nat) (sz : Nat) (aM : Nat) (th : Int32) (aMT : Nat) (mu : Nat) (aNw : Nat) (aNx : Nat) (mw : Int32) (mwa : Int32) (ma : Nat) (en : Nat) (mv : Int64) (mf : Int32) (ml : Int32) (kMT : ClassId) (B : Nat → Int32) (sg : Int32) (hen : en ≤ 65536) (hma : ma ≤ en) : Met l y_Md_comes w_Md_comes ({ frames := 1, cells := 0, slots := 0, locals := 20 }) (va_Pc [.ref aM, .int sg] (PW G (dC, dI) [(kMT, .byte)] [(aM, .inr (4, [.int th, .ref aMT, .int (nI mu), .ref aNw, .ref aNx, .int mw, .int mwa, .int (nI ma), .int (nI en), .long mv, .int mf, .int ml])), (aMT, .inl (kMT, 65536, .inl B))] sz)) (va_Qi (fun (r : Int32) (uu : Nat) => uu = zK B en ma ∧ r = if zK B en ma < en ∧ B (zK B en ma) = sg then 1 else 0) (fun (uu : Nat) t => BW (dC, dI) [(aM, .inr (4, [.int th, .ref aMT, .int (nI mu), .ref aNw, .ref aNx, .int mw, .int mwa, .int (nI uu), .int (nI en), .long mv, .int mf, .int ml])), (aMT, .inl (kMT, 65536, .inl B))] (va_A [(aM, .inr (4, [.int th, .ref aMT, .int (nI mu), .ref aNw, .ref aNx, .int mw, .int mwa, .int (nI ma), .int (nI en), .long mv, .int mf, .int ml])), (aMT, .inl (kMT, 65536, .inl B))] sz) sz t) (va_A [(aM, .inr (4, [.int th, .ref aMT, .int (nI mu), .ref aNw, .ref aNx, .int mw, .int mwa, .int (nI ma), .int (nI en), .long mv, .int mf, .int ml])), (aMT, .inl (kMT, 65536, .inl B))] sz)) 0 0 (va_A [(aM, .inr (4, [.int th, .ref aMT, .int (nI mu), .ref aNw, .ref aNx, .int mw, .int mwa, .int (nI ma), .int (nI en), .long mv, .int mf, .int ml])), (aMT, .inl (kMT, 65536, .inl B))] sz) := by
  refine Met.ofW (cc := prog_6_method_9_code) (maxL := 2) (ret := (some .boolean)) (by decide) rfl ?_
  intro p e s m args below meth c s₁ Bd hml hv
  obtain ⟨rfl, hsz, hP, hK, hD0, hE⟩ := hv
  have hx := Bd.exec
  have hb := Bd.bytes
  have hr := Bd.returns
  have hts := atoms_spec (ws := w_Md_comes) Bd.pre
  have hown : s.vm.findClass R_Md = some m.cls := findClass_of_methodNamed Bd.named
  have hlocks := Bd.notSynchronized
  have hz : ∀ w ∈ ZW, w.before _ s = true := fun w h => hts w (List.mem_cons_of_mem _ h)
  subst hsz
  have hD := hD0.self (sz := s.heap.size)
  generalize hAe : va_A [(aM, .inr (4, [.int th, .ref aMT, .int (nI mu), .ref aNw, .ref aNx, .int mw, .int mwa, .int (nI ma), .int (nI en), .long mv, .int mf, .int ml])), (aMT, .inl (kMT, 65536, .inl B))] s.heap.size = A at hD hE ⊢
  have hA : ∀ q : Nat, s.heap.size ≤ q → A q := fun q h => by rw [← hAe]; exact Or.inr h
  have hS : va_S A s.heap s.heap [] := va_S.rf
  have hl := lv_entry ([.ref aM, .int sg]) (n := 2) (Nat.le_of_ble_eq_true rfl)
  rw [lg_entry_eq]
  generalize (lg_sl ([.ref aM, .int sg]) ++ List.replicate (2 - (lg_sl ([.ref aM, .int sg])).length) Slot.unset).toArray = ls at hl ⊢
  have hl : lv_has ls 2 [(0, .ref aM), (1, .int sg)] := hl
  obtain ⟨H, hH⟩ : ∃ z, z = s.heap := ⟨_, rfl⟩
  have hP : va_P (dC, dI) vwCl [(aM, .inr (4, [.int th, .ref aMT, .int (nI mu), .ref aNw, .ref aNx, .int mw, .int mwa, .int (nI ma), .int (nI en), .long mv, .int mf, .int ml])), (aMT, .inl (kMT, 65536, .inl B))] H := by rw [hH]; exact hP
  have hS : va_S A s.heap H [] := by rw [hH]; exact hS
  refine zt_heap hH ?_
  refine lv_aload_n hx hb d_Md_comes_0 rfl (lv_at hl 0 rfl) ?_
  have hPc := hP.sub (ws' := [(aM, .inr (4, [.int th, .ref aMT, .int (nI mu), .ref aNw, .ref aNx, .int mw, .int mwa, .int (nI ma), .int (nI en), .long mv, .int mf, .int ml])), (aMT, .inl (kMT, 65536, .inl B))]) [0, 1] rfl
  have hDc := hD.sub (ws' := [(aM, .inr (4, [.int th, .ref aMT, .int (nI mu), .ref aNw, .ref aNx, .int mw, .int mwa, .int (nI ma), .int (nI en), .long mv, .int mf, .int ml])), (aMT, .inl (kMT, 65536, .inl B))]) [0, 1] (by decide) rfl
  have hKc := hK.sub (tys' := [(kMT, .byte)]) [0] rfl
  have hFc := va_free (wc := [(aM, .inr (4, [.int th, .ref aMT, .int (nI mu), .ref aNw, .ref aNx, .int mw, .int mwa, .int (nI ma), .int (nI en), .long mv, .int mf, .int ml])), (aMT, .inl (kMT, 65536, .inl B))]) hD hS hA [0, 1] rfl
  refine va_callv (va_runV (As := []) (rest := []) ⟨hx, hb, hml, hown, hts⟩ (c_Md_skip l G dC dI H.size aM th aMT mu aNw aNx mw mwa ma en mv mf ml kMT B (by omega) (by omega)) (cwV 0 hts (gV tw_545 tw_547 ts_22 tw_5 tw_548 rfl) rfl rfl rfl (by decide +kernel) ⟨Nat.le_of_ble_eq_true rfl, Nat.le_of_ble_eq_true rfl⟩) (PW_preV hPc hKc hDc hE hS hFc (ci := 4) (q0 := 0) rfl rfl) rfl rfl hl.1 rfl (lv_room (Nat.le_of_ble_eq_true rfl)) d_Md_comes_1 ⟨Nat.le_of_ble_eq_true rfl, Nat.le_of_ble_eq_true rfl⟩) hS (fun q _ h => hFc q h) hFc (fun uu t H1 locs ht hvm hw_3 hB hz1 hk1 hS => ?_)
  obtain ⟨ma_2, rfl⟩ : ∃ z, z = uu := ⟨_, rfl⟩
  obtain ⟨hP1, hD1, hsz1⟩ := hB
  rw [ht] at hP1 hsz1
  obtain ⟨hP, hD⟩ := va_join (wr := []) (w1 := [(aM, .inr (4, [.int th, .ref aMT, .int (nI mu), .ref aNw, .ref aNx, .int mw, .int mwa, .int (nI ma_2), .int (nI en), .long mv, .int mf, .int ml])), (aMT, .inl (kMT, 65536, .inl B))]) hP hD [0, 1] [] rfl rfl (by decide) (by decide) hk1 hFc hP1 hD1
  generalize H1 = H at hP hS ⊢
  have hP : va_P (dC, dI) vwCl [(aM, .inr (4, [.int th, .ref aMT, .int (nI mu), .ref aNw, .ref aNx, .int mw, .int mwa, .int (nI ma_2), .int (nI en), .long mv, .int mf, .int ml])), (aMT, .inl (kMT, 65536, .inl B))] H := hP
  have hD : va_D A [(aM, .inr (4, [.int th, .ref aMT, .int (nI mu), .ref aNw, .ref aNx, .int mw, .int mwa, .int (nI ma_2), .int (nI en), .long mv, .int mf, .int ml])), (aMT, .inl (kMT, 65536, .inl B))] := hD
  have e1 := hw_3.symm; subst e1
  have hw_3i := zK_le (B := B) (en := en) (i := ma) (by omega)
  refine lv_aload_n hx hb d_Md_comes_4 rfl (lv_at hl 0 rfl) ?_
  refine va_get (D := (dC, dI)) (ci := 4) (v := .int (nI (zK B en ma))) (C := R_Md) (T := F_Md) (N := 12) hx hb hz i_Md hown hK hP 0 rfl rfl 7 (by decide) (hz _ tw_483) (fun _ h9 => h9) rfl d_Md_comes_5 ?_
  refine lv_aload_n hx hb d_Md_comes_8 rfl (lv_at hl 0 rfl) ?_
  refine va_get (D := (dC, dI)) (ci := 4) (v := .int (nI en)) (C := R_Md) (T := F_Md) (N := 12) hx hb hz i_Md hown hK hP 0 rfl rfl 8 (by decide) (hz _ tw_484) (fun _ h9 => h9) rfl d_Md_comes_9 ?_
  refine lv_icmp_ge (tgt := 32) hx hb d_Md_comes_12 (by decide) (fun c_4 => ?_) (fun c_4 => ?_)
  ·
    have c_4 : en ≤ (zK B en ma) := (@nI_leI en (zK B en ma) (by omega) (by omega)).mp c_4
    refine lv_iconst (v := 0) hx hb d_Md_comes_32 (by decide) ?_
    refine zt_size (fun hzs => ?_)
    have hP9 := hP.sub (ws' := [(aM, .inr (4, [.int th, .ref aMT, .int (nI mu), .ref aNw, .ref aNx, .int mw, .int mwa, .int (nI (zK B en ma)), .int (nI en), .long mv, .int mf, .int ml])), (aMT, .inl (kMT, 65536, .inl B))]) [0, 1] rfl
    have hD9 := hD.sub (ws' := [(aM, .inr (4, [.int th, .ref aMT, .int (nI mu), .ref aNw, .ref aNx, .int mw, .int mwa, .int (nI (zK B en ma)), .int (nI en), .long mv, .int mf, .int ml])), (aMT, .inl (kMT, 65536, .inl B))]) [0, 1] (by decide) rfl
    exact W.zret (v := 0) hx hb hr rfl (fun t ht hW => ⟨⟨0, zK B en ma, rfl, ⟨rfl, by rw [if_neg (fun z => absurd z.1 (by omega))]⟩, by rw [ht]; exact hP9, hD9, by rw [ht]; exact hzs⟩, hS.F ht⟩) hS.2.2 d_Md_comes_33
  ·
    have c_4 : ¬ (en ≤ (zK B en ma)) := fun z => c_4 ((@nI_leI en (zK B en ma) (by omega) (by omega)).mpr z)
    refine lv_aload_n hx hb d_Md_comes_15 rfl (lv_at hl 0 rfl) ?_
    refine va_get (D := (dC, dI)) (ci := 4) (v := .ref aMT) (C := R_Md) (T := F_Md) (N := 12) hx hb hz i_Md hown hK hP 0 rfl rfl 1 (by decide) (hz _ tw_477) (fun _ h9 => h9) rfl d_Md_comes_16 ?_
    refine lv_aload_n hx hb d_Md_comes_19 rfl (lv_at hl 0 rfl) ?_
    refine va_get (D := (dC, dI)) (ci := 4) (v := .int (nI (zK B en ma))) (C := R_Md) (T := F_Md) (N := 12) hx hb hz i_Md hown hK hP 0 rfl rfl 7 (by decide) (hz _ tw_483) (fun _ h9 => h9) rfl d_Md_comes_20 ?_
    refine va_bald (D := (dC, dI)) (i := nI (zK B en ma)) hx hb hK hP 1 0 rfl rfl (vp_in_nI (by omega) (by decide)) d_Md_comes_23 ?_
    refine zt_top (by rw [nI_clamp (by omega)]) ?_
    refine lv_iload_n hx hb d_Md_comes_24 rfl (lv_at hl 1 rfl) ?_
    refine lv_icmp_ne (tgt := 32) hx hb d_Md_comes_25 (by decide) (fun c_5 => ?_) (fun c_5 => ?_)
    ·
      refine lv_iconst (v := 0) hx hb d_Md_comes_32 (by decide) ?_
      refine zt_size (fun hzs => ?_)
      have hP9 := hP.sub (ws' := [(aM, .inr (4, [.int th, .ref aMT, .int (nI mu), .ref aNw, .ref aNx, .int mw, .int mwa, .int (nI (zK B en ma)), .int (nI en), .long mv, .int mf, .int ml])), (aMT, .inl (kMT, 65536, .inl B))]) [0, 1] rfl
      have hD9 := hD.sub (ws' := [(aM, .inr (4, [.int th, .ref aMT, .int (nI mu), .ref aNw, .ref aNx, .int mw, .int mwa, .int (nI (zK B en ma)), .int (nI en), .long mv, .int mf, .int ml])), (aMT, .inl (kMT, 65536, .inl B))]) [0, 1] (by decide) rfl
      exact W.zret (v := 0) hx hb hr rfl (fun t ht hW => ⟨⟨0, zK B en ma, rfl, ⟨rfl, by rw [if_neg (fun z => c_5 z.2)]⟩, by rw [ht]; exact hP9, hD9, by rw [ht]; exact hzs⟩, hS.F ht⟩) hS.2.2 d_Md_comes_33
    ·
      refine lv_iconst (v := 1) hx hb d_Md_comes_28 (by decide) ?_
      refine lv_goto (tgt := 33) hx hb d_Md_comes_29 (by decide) ?_
      refine zt_size (fun hzs => ?_)
      have hP9 := hP.sub (ws' := [(aM, .inr (4, [.int th, .ref aMT, .int (nI mu), .ref aNw, .ref aNx, .int mw, .int mwa, .int (nI (zK B en ma)), .int (nI en), .long mv, .int mf, .int ml])), (aMT, .inl (kMT, 65536, .inl B))]) [0, 1] rfl
      have hD9 := hD.sub (ws' := [(aM, .inr (4, [.int th, .ref aMT, .int (nI mu), .ref aNw, .ref aNx, .int mw, .int mwa, .int (nI (zK B en ma)), .int (nI en), .long mv, .int mf, .int ml])), (aMT, .inl (kMT, 65536, .inl B))]) [0, 1] (by decide) rfl
      exact W.zret (v := 1) hx hb hr rfl (fun t ht hW => ⟨⟨1, zK B en ma, rfl, ⟨rfl, by rw [if_pos ⟨by omega, c_5⟩]⟩, by rw [ht]; exact hP9, hD9, by rw [ht]; exact hzs⟩, hS.F ht⟩) hS.2.2 d_Md_comes_33
set_option maxHeartbeats 4000000 in
set_option maxRecDepth 100000 in
theorem c_Md_sign (l : Launch) (G : ZG) (dC : Nat → ClassId) (dI : Nat → Nat → Nat) (sz : Nat) (aM : Nat) (th : Int32) (aMT : Nat) (mu : Nat) (aNw : Nat) (aNx : Nat) (mw : Int32) (mwa : Int32) (ma : Nat) (en : Nat) (mv : Int64) (mf : Int32) (ml : Int32) (kMT : ClassId) (B : Nat → Int32) (sg : Int32) (hen : en ≤ 65536) (hma : ma ≤ en) : Met l y_Md_sign w_Md_sign ({ frames := 2, cells := 0, slots := 0, locals := 41 }) (va_Pc [.ref aM, .int sg] (PW G (dC, dI) [(kMT, .byte)] [(aM, .inr (4, [.int th, .ref aMT, .int (nI mu), .ref aNw, .ref aNx, .int mw, .int mwa, .int (nI ma), .int (nI en), .long mv, .int mf, .int ml])), (aMT, .inl (kMT, 65536, .inl B))] sz)) (va_Qi (fun (r : Int32) (uu : Nat × Int32 × Int32) => (r = 1 ∧ zMust B en sg (zK B en ma) = .ok (zK B en uu.1) ∧ uu.1 ≤ en ∧ uu.2.1 = mw ∧ uu.2.2 = mwa) ∨ (r = 0 ∧ uu.1 ≤ en ∧ ∃ k, zMust B en sg (zK B en ma) = .error (uu.2.1, k) ∧ uu.2.2 = nI k)) (fun (uu : Nat × Int32 × Int32) t => BW (dC, dI) [(aM, .inr (4, [.int th, .ref aMT, .int (nI mu), .ref aNw, .ref aNx, .int uu.2.1, .int uu.2.2, .int (nI uu.1), .int (nI en), .long mv, .int mf, .int ml])), (aMT, .inl (kMT, 65536, .inl B))] (va_A [(aM, .inr (4, [.int th, .ref aMT, .int (nI mu), .ref aNw, .ref aNx, .int mw, .int mwa, .int (nI ma), .int (nI en), .long mv, .int mf, .int ml])), (aMT, .inl (kMT, 65536, .inl B))] sz) sz t) (va_A [(aM, .inr (4, [.int th, .ref aMT, .int (nI mu), .ref aNw, .ref aNx, .int mw, .int mwa, .int (nI ma), .int (nI en), .long mv, .int mf, .int ml])), (aMT, .inl (kMT, 65536, .inl B))] sz)) 0 0 (va_A [(aM, .inr (4, [.int th, .ref aMT, .int (nI mu), .ref aNw, .ref aNx, .int mw, .int mwa, .int (nI ma), .int (nI en), .long mv, .int mf, .int ml])), (aMT, .inl (kMT, 65536, .inl B))] sz) := by
  refine Met.ofW (cc := prog_6_method_10_code) (maxL := 2) (ret := (some .boolean)) (by decide) rfl ?_
  intro p e s m args below meth c s₁ Bd hml hv
  obtain ⟨rfl, hsz, hP, hK, hD0, hE⟩ := hv
  have hx := Bd.exec
  have hb := Bd.bytes
  have hr := Bd.returns
  have hts := atoms_spec (ws := w_Md_sign) Bd.pre
  have hown : s.vm.findClass R_Md = some m.cls := findClass_of_methodNamed Bd.named
  have hlocks := Bd.notSynchronized
  have hz : ∀ w ∈ ZW, w.before _ s = true := fun w h => hts w (List.mem_cons_of_mem _ h)
  subst hsz
  have hD := hD0.self (sz := s.heap.size)
  generalize hAe : va_A [(aM, .inr (4, [.int th, .ref aMT, .int (nI mu), .ref aNw, .ref aNx, .int mw, .int mwa, .int (nI ma), .int (nI en), .long mv, .int mf, .int ml])), (aMT, .inl (kMT, 65536, .inl B))] s.heap.size = A at hD hE ⊢
  have hA : ∀ q : Nat, s.heap.size ≤ q → A q := fun q h => by rw [← hAe]; exact Or.inr h
  have hS : va_S A s.heap s.heap [] := va_S.rf
  have hl := lv_entry ([.ref aM, .int sg]) (n := 2) (Nat.le_of_ble_eq_true rfl)
  rw [lg_entry_eq]
  generalize (lg_sl ([.ref aM, .int sg]) ++ List.replicate (2 - (lg_sl ([.ref aM, .int sg])).length) Slot.unset).toArray = ls at hl ⊢
  have hl : lv_has ls 2 [(0, .ref aM), (1, .int sg)] := hl
  obtain ⟨H, hH⟩ : ∃ z, z = s.heap := ⟨_, rfl⟩
  have hP : va_P (dC, dI) vwCl [(aM, .inr (4, [.int th, .ref aMT, .int (nI mu), .ref aNw, .ref aNx, .int mw, .int mwa, .int (nI ma), .int (nI en), .long mv, .int mf, .int ml])), (aMT, .inl (kMT, 65536, .inl B))] H := by rw [hH]; exact hP
  have hS : va_S A s.heap H [] := by rw [hH]; exact hS
  refine zt_heap hH ?_
  refine lv_aload_n hx hb d_Md_sign_0 rfl (lv_at hl 0 rfl) ?_
  refine lv_iload_n hx hb d_Md_sign_1 rfl (lv_at hl 1 rfl) ?_
  have hPc := hP.sub (ws' := [(aM, .inr (4, [.int th, .ref aMT, .int (nI mu), .ref aNw, .ref aNx, .int mw, .int mwa, .int (nI ma), .int (nI en), .long mv, .int mf, .int ml])), (aMT, .inl (kMT, 65536, .inl B))]) [0, 1] rfl
  have hDc := hD.sub (ws' := [(aM, .inr (4, [.int th, .ref aMT, .int (nI mu), .ref aNw, .ref aNx, .int mw, .int mwa, .int (nI ma), .int (nI en), .long mv, .int mf, .int ml])), (aMT, .inl (kMT, 65536, .inl B))]) [0, 1] (by decide) rfl
  have hKc := hK.sub (tys' := [(kMT, .byte)]) [0] rfl
  have hFc := va_free (wc := [(aM, .inr (4, [.int th, .ref aMT, .int (nI mu), .ref aNw, .ref aNx, .int mw, .int mwa, .int (nI ma), .int (nI en), .long mv, .int mf, .int ml])), (aMT, .inl (kMT, 65536, .inl B))]) hD hS hA [0, 1] rfl
  refine va_calli (va_runV (As := [.int sg]) (rest := []) ⟨hx, hb, hml, hown, hts⟩ (c_Md_comes l G dC dI H.size aM th aMT mu aNw aNx mw mwa ma en mv mf ml kMT B sg (by omega) (by omega)) (cwV 1 hts (gV tw_541 tw_543 ts_21 tw_5 tw_544 rfl) rfl rfl rfl (by decide +kernel) ⟨Nat.le_of_ble_eq_true rfl, Nat.le_of_ble_eq_true rfl⟩) (PW_preV hPc hKc hDc hE hS hFc (ci := 4) (q0 := 0) rfl rfl) rfl rfl hl.1 rfl (lv_room (Nat.le_of_ble_eq_true rfl)) d_Md_sign_2 ⟨Nat.le_of_ble_eq_true rfl, Nat.le_of_ble_eq_true rfl⟩) hS (fun q _ h => hFc q h) hFc (fun r_1 uu t H1 locs ht hvm hw_3 hB hz1 hk1 hS => ?_)
  obtain ⟨ma_2, rfl⟩ : ∃ z, z = uu := ⟨_, rfl⟩
  obtain ⟨hP1, hD1, hsz1⟩ := hB
  rw [ht] at hP1 hsz1
  obtain ⟨hP, hD⟩ := va_join (wr := []) (w1 := [(aM, .inr (4, [.int th, .ref aMT, .int (nI mu), .ref aNw, .ref aNx, .int mw, .int mwa, .int (nI ma_2), .int (nI en), .long mv, .int mf, .int ml])), (aMT, .inl (kMT, 65536, .inl B))]) hP hD [0, 1] [] rfl rfl (by decide) (by decide) hk1 hFc hP1 hD1
  generalize H1 = H at hP hS ⊢
  have hP : va_P (dC, dI) vwCl [(aM, .inr (4, [.int th, .ref aMT, .int (nI mu), .ref aNw, .ref aNx, .int mw, .int mwa, .int (nI ma_2), .int (nI en), .long mv, .int mf, .int ml])), (aMT, .inl (kMT, 65536, .inl B))] H := hP
  have hD : va_D A [(aM, .inr (4, [.int th, .ref aMT, .int (nI mu), .ref aNw, .ref aNx, .int mw, .int mwa, .int (nI ma_2), .int (nI en), .long mv, .int mf, .int ml])), (aMT, .inl (kMT, 65536, .inl B))] := hD
  have hw_3i := zK_le (B := B) (en := en) (i := ma) (by omega)
  obtain ⟨e1, e2⟩ := hw_3
  have e1 := e1.symm; subst e1
  by_cases hs_4 : zK B en ma < en ∧ B (zK B en ma) = sg
  ·
    rw [if_pos hs_4] at e2; subst e2
    refine lv_if_ne (tgt := 18) hx hb d_Md_sign_5 (by decide) (fun c_5 => ?_) (fun c_5 => ?_)
    ·
      refine lv_aload_n hx hb d_Md_sign_18 rfl (lv_at hl 0 rfl) ?_
      refine lv_dup hx hb d_Md_sign_19 rfl ?_
      refine va_get (D := (dC, dI)) (ci := 4) (v := .int (nI (zK B en ma))) (C := R_Md) (T := F_Md) (N := 12) hx hb hz i_Md hown hK hP 0 rfl rfl 7 (by decide) (hz _ tw_483) (fun _ h9 => h9) rfl d_Md_sign_20 ?_
      refine lv_iconst (v := 1) hx hb d_Md_sign_23 (by decide) ?_
      refine lv_iadd hx hb d_Md_sign_24 ?_
      refine zt_top (nI_add (zK B en ma) 1) ?_
      refine va_put (D := (dC, dI)) (ci := 4) (v := .int (nI ((zK B en ma) + 1))) (ty := .int) (C := R_Md) (T := F_Md) (N := 12) hx hb hz i_Md t_Md t_Md_ok n_Md hown hK hP hD hS 0 rfl rfl 7 (by decide) (hz _ tw_483) (fun _ h9 => h9) rfl (by decide +kernel) rfl rfl (Nat.le_of_ble_eq_true rfl) d_Md_sign_25 (fun H locs hP hD hS => ?_)
      have hP : va_P (dC, dI) vwCl [(aM, .inr (4, [.int th, .ref aMT, .int (nI mu), .ref aNw, .ref aNx, .int mw, .int mwa, .int (nI ((zK B en ma) + 1)), .int (nI en), .long mv, .int mf, .int ml])), (aMT, .inl (kMT, 65536, .inl B))] H := hP
      have hD : va_D A [(aM, .inr (4, [.int th, .ref aMT, .int (nI mu), .ref aNw, .ref aNx, .int mw, .int mwa, .int (nI ((zK B en ma) + 1)), .int (nI en), .long mv, .int mf, .int ml])), (aMT, .inl (kMT, 65536, .inl B))] := hD
      refine lv_iconst (v := 1) hx hb d_Md_sign_28 (by decide) ?_
      refine zt_size (fun hzs => ?_)
      have hP9 := hP.sub (ws' := [(aM, .inr (4, [.int th, .ref aMT, .int (nI mu), .ref aNw, .ref aNx, .int mw, .int mwa, .int (nI ((zK B en ma) + 1)), .int (nI en), .long mv, .int mf, .int ml])), (aMT, .inl (kMT, 65536, .inl B))]) [0, 1] rfl
      have hD9 := hD.sub (ws' := [(aM, .inr (4, [.int th, .ref aMT, .int (nI mu), .ref aNw, .ref aNx, .int mw, .int mwa, .int (nI ((zK B en ma) + 1)), .int (nI en), .long mv, .int mf, .int ml])), (aMT, .inl (kMT, 65536, .inl B))]) [0, 1] (by decide) rfl
      exact W.zret (v := 1) hx hb hr rfl (fun t ht hW => ⟨⟨1, ((zK B en ma) + 1, mw, mwa), rfl, Or.inl ⟨rfl, by unfold zMust; rw [if_pos hs_4], by omega, rfl, rfl⟩, by rw [ht]; exact hP9, hD9, by rw [ht]; exact hzs⟩, hS.F ht⟩) hS.2.2 d_Md_sign_29
    ·
      exact absurd c_5 (by decide)
  ·
    rw [if_neg hs_4] at e2; subst e2
    refine lv_if_ne (tgt := 18) hx hb d_Md_sign_5 (by decide) (fun c_6 => ?_) (fun c_6 => ?_)
    ·
      exact absurd (by decide) c_6
    ·
      refine lv_aload_n hx hb d_Md_sign_8 rfl (lv_at hl 0 rfl) ?_
      refine lv_iconst (v := 1) hx hb d_Md_sign_9 (by decide) ?_
      refine lv_aload_n hx hb d_Md_sign_10 rfl (lv_at hl 0 rfl) ?_
      refine va_get (D := (dC, dI)) (ci := 4) (v := .int (nI (zK B en ma))) (C := R_Md) (T := F_Md) (N := 12) hx hb hz i_Md hown hK hP 0 rfl rfl 7 (by decide) (hz _ tw_483) (fun _ h9 => h9) rfl d_Md_sign_11 ?_
      have hPc := hP.sub (ws' := [(aM, .inr (4, [.int th, .ref aMT, .int (nI mu), .ref aNw, .ref aNx, .int mw, .int mwa, .int (nI (zK B en ma)), .int (nI en), .long mv, .int mf, .int ml]))]) [0] rfl
      have hDc := hD.sub (ws' := [(aM, .inr (4, [.int th, .ref aMT, .int (nI mu), .ref aNw, .ref aNx, .int mw, .int mwa, .int (nI (zK B en ma)), .int (nI en), .long mv, .int mf, .int ml]))]) [0] (by decide) rfl
      have hKc := hK.sub (tys' := []) [] rfl
      have hFc := va_free (wc := [(aM, .inr (4, [.int th, .ref aMT, .int (nI mu), .ref aNw, .ref aNx, .int mw, .int mwa, .int (nI (zK B en ma)), .int (nI en), .long mv, .int mf, .int ml]))]) hD hS hA [0] rfl
      refine va_calli (va_runV (As := [.int 1, .int (nI (zK B en ma))]) (rest := []) ⟨hx, hb, hml, hown, hts⟩ (c_Md_fails l G dC dI H.size aM th aMT mu aNw aNx mw mwa (zK B en ma) en mv mf ml 1 (nI (zK B en ma))) (cwV 2 hts (gV tw_549 tw_551 ts_23 tw_5 tw_552 rfl) rfl rfl rfl (by decide +kernel) ⟨Nat.le_of_ble_eq_true rfl, Nat.le_of_ble_eq_true rfl⟩) (PW_preV hPc hKc hDc hE hS hFc (ci := 4) (q0 := 0) rfl rfl) rfl rfl hl.1 rfl (lv_room (Nat.le_of_ble_eq_true rfl)) d_Md_sign_14 ⟨Nat.le_of_ble_eq_true rfl, Nat.le_of_ble_eq_true rfl⟩) hS (fun q _ h => hFc q h) hFc (fun r_7 uu t H1 locs ht hvm hw_10 hB hz1 hk1 hS => ?_)
      obtain ⟨mw_8, mwa_9⟩ := uu
      obtain ⟨hP1, hD1, hsz1⟩ := hB
      rw [ht] at hP1 hsz1
      obtain ⟨hP, hD⟩ := va_join (wr := [(aMT, .inl (kMT, 65536, .inl B))]) (w1 := [(aM, .inr (4, [.int th, .ref aMT, .int (nI mu), .ref aNw, .ref aNx, .int mw_8, .int mwa_9, .int (nI (zK B en ma)), .int (nI en), .long mv, .int mf, .int ml]))]) hP hD [0] [1] rfl rfl (by decide) (by decide) hk1 hFc hP1 hD1
      generalize H1 = H at hP hS ⊢
      have hP : va_P (dC, dI) vwCl [(aMT, .inl (kMT, 65536, .inl B)), (aM, .inr (4, [.int th, .ref aMT, .int (nI mu), .ref aNw, .ref aNx, .int mw_8, .int mwa_9, .int (nI (zK B en ma)), .int (nI en), .long mv, .int mf, .int ml]))] H := hP
      have hD : va_D A [(aMT, .inl (kMT, 65536, .inl B)), (aM, .inr (4, [.int th, .ref aMT, .int (nI mu), .ref aNw, .ref aNx, .int mw_8, .int mwa_9, .int (nI (zK B en ma)), .int (nI en), .long mv, .int mf, .int ml]))] := hD
      obtain ⟨e0, e1, e2⟩ := hw_10
      subst e0
      have e1 := e1.symm; subst e1
      have e2 := e2.symm; subst e2
      refine zt_size (fun hzs => ?_)
      have hP9 := hP.sub (ws' := [(aM, .inr (4, [.int th, .ref aMT, .int (nI mu), .ref aNw, .ref aNx, .int 1, .int (nI (zK B en ma)), .int (nI (zK B en ma)), .int (nI en), .long mv, .int mf, .int ml])), (aMT, .inl (kMT, 65536, .inl B))]) [1, 0] rfl
      have hD9 := hD.sub (ws' := [(aM, .inr (4, [.int th, .ref aMT, .int (nI mu), .ref aNw, .ref aNx, .int 1, .int (nI (zK B en ma)), .int (nI (zK B en ma)), .int (nI en), .long mv, .int mf, .int ml])), (aMT, .inl (kMT, 65536, .inl B))]) [1, 0] (by decide) rfl
      exact W.zret (v := 0) hx hb hr rfl (fun t ht hW => ⟨⟨0, (zK B en ma, 1, nI (zK B en ma)), rfl, Or.inr ⟨rfl, by omega, _, by unfold zMust; rw [if_neg hs_4], rfl⟩, by rw [ht]; exact hP9, hD9, by rw [ht]; exact hzs⟩, hS.F ht⟩) hS.2.2 d_Md_sign_17
set_option maxHeartbeats 4000000 in
set_option maxRecDepth 100000 in
theorem c_Md_isDigit (l : Launch) (G : ZG) (dC : Nat → ClassId) (dI : Nat → Nat → Nat) (sz : Nat) (aM : Nat) (th : Int32) (aMT : Nat) (mu : Nat) (aNw : Nat) (aNx : Nat) (mw : Int32) (mwa : Int32) (ma : Nat) (en : Nat) (mv : Int64) (mf : Int32) (ml : Int32) (kMT : ClassId) (B : Nat → Int32) (q : Nat) (hen : en ≤ 65536) (hq : q ≤ en) : Met l y_Md_isDigit w_Md_isDigit ({ frames := 0, cells := 0, slots := 0, locals := 0 }) (va_Pc [.ref aM, .int (nI q)] (PW G (dC, dI) [(kMT, .byte)] [(aM, .inr (4, [.int th, .ref aMT, .int (nI mu), .ref aNw, .ref aNx, .int mw, .int mwa, .int (nI ma), .int (nI en), .long mv, .int mf, .int ml])), (aMT, .inl (kMT, 65536, .inl B))] sz)) (va_Qi (fun (r : Int32) (uu : Unit) => r = if q < en ∧ ¬ B q < 48 ∧ ¬ 57 < B q then 1 else 0) (fun (uu : Unit) t => BW (dC, dI) [(aM, .inr (4, [.int th, .ref aMT, .int (nI mu), .ref aNw, .ref aNx, .int mw, .int mwa, .int (nI ma), .int (nI en), .long mv, .int mf, .int ml])), (aMT, .inl (kMT, 65536, .inl B))] (va_A [(aM, .inr (4, [.int th, .ref aMT, .int (nI mu), .ref aNw, .ref aNx, .int mw, .int mwa, .int (nI ma), .int (nI en), .long mv, .int mf, .int ml])), (aMT, .inl (kMT, 65536, .inl B))] sz) sz t) (va_A [(aM, .inr (4, [.int th, .ref aMT, .int (nI mu), .ref aNw, .ref aNx, .int mw, .int mwa, .int (nI ma), .int (nI en), .long mv, .int mf, .int ml])), (aMT, .inl (kMT, 65536, .inl B))] sz)) 0 0 (va_A [(aM, .inr (4, [.int th, .ref aMT, .int (nI mu), .ref aNw, .ref aNx, .int mw, .int mwa, .int (nI ma), .int (nI en), .long mv, .int mf, .int ml])), (aMT, .inl (kMT, 65536, .inl B))] sz) := by
  refine Met.ofW (cc := prog_6_method_14_code) (maxL := 2) (ret := (some .boolean)) (by decide) rfl ?_
  intro p e s m args below meth c s₁ Bd hml hv
  obtain ⟨rfl, hsz, hP, hK, hD0, hE⟩ := hv
  have hx := Bd.exec
  have hb := Bd.bytes
  have hr := Bd.returns
  have hts := atoms_spec (ws := w_Md_isDigit) Bd.pre
  have hown : s.vm.findClass R_Md = some m.cls := findClass_of_methodNamed Bd.named
  have hlocks := Bd.notSynchronized
  have hz : ∀ w ∈ ZW, w.before _ s = true := fun w h => hts w (List.mem_cons_of_mem _ h)
  subst hsz
  have hD := hD0.self (sz := s.heap.size)
  generalize hAe : va_A [(aM, .inr (4, [.int th, .ref aMT, .int (nI mu), .ref aNw, .ref aNx, .int mw, .int mwa, .int (nI ma), .int (nI en), .long mv, .int mf, .int ml])), (aMT, .inl (kMT, 65536, .inl B))] s.heap.size = A at hD hE ⊢
  have hA : ∀ q : Nat, s.heap.size ≤ q → A q := fun q h => by rw [← hAe]; exact Or.inr h
  have hS : va_S A s.heap s.heap [] := va_S.rf
  have hl := lv_entry ([.ref aM, .int (nI q)]) (n := 2) (Nat.le_of_ble_eq_true rfl)
  rw [lg_entry_eq]
  generalize (lg_sl ([.ref aM, .int (nI q)]) ++ List.replicate (2 - (lg_sl ([.ref aM, .int (nI q)])).length) Slot.unset).toArray = ls at hl ⊢
  have hl : lv_has ls 2 [(0, .ref aM), (1, .int (nI q))] := hl
  obtain ⟨H, hH⟩ : ∃ z, z = s.heap := ⟨_, rfl⟩
  have hP : va_P (dC, dI) vwCl [(aM, .inr (4, [.int th, .ref aMT, .int (nI mu), .ref aNw, .ref aNx, .int mw, .int mwa, .int (nI ma), .int (nI en), .long mv, .int mf, .int ml])), (aMT, .inl (kMT, 65536, .inl B))] H := by rw [hH]; exact hP
  have hS : va_S A s.heap H [] := by rw [hH]; exact hS
  refine zt_heap hH ?_
  refine lv_iload_n hx hb d_Md_isDigit_0 rfl (lv_at hl 1 rfl) ?_
  refine lv_aload_n hx hb d_Md_isDigit_1 rfl (lv_at hl 0 rfl) ?_
  refine va_get (D := (dC, dI)) (ci := 4) (v := .int (nI en)) (C := R_Md) (T := F_Md) (N := 12) hx hb hz i_Md hown hK hP 0 rfl rfl 8 (by decide) (hz _ tw_484) (fun _ h9 => h9) rfl d_Md_isDigit_2 ?_
  refine lv_icmp_ge (tgt := 34) hx hb d_Md_isDigit_5 (by decide) (fun c_1 => ?_) (fun c_1 => ?_)
  ·
    have c_1 : en ≤ q := (@nI_leI en q (by omega) (by omega)).mp c_1
    refine lv_iconst (v := 0) hx hb d_Md_isDigit_34 (by decide) ?_
    refine zt_size (fun hzs => ?_)
    have hP9 := hP.sub (ws' := [(aM, .inr (4, [.int th, .ref aMT, .int (nI mu), .ref aNw, .ref aNx, .int mw, .int mwa, .int (nI ma), .int (nI en), .long mv, .int mf, .int ml])), (aMT, .inl (kMT, 65536, .inl B))]) [0, 1] rfl
    have hD9 := hD.sub (ws' := [(aM, .inr (4, [.int th, .ref aMT, .int (nI mu), .ref aNw, .ref aNx, .int mw, .int mwa, .int (nI ma), .int (nI en), .long mv, .int mf, .int ml])), (aMT, .inl (kMT, 65536, .inl B))]) [0, 1] (by decide) rfl
    exact W.zret (v := 0) hx hb hr rfl (fun t ht hW => ⟨⟨0, (), rfl, by rw [if_neg (fun z => absurd z.1 (by omega))], by rw [ht]; exact hP9, hD9, by rw [ht]; exact hzs⟩, hS.F ht⟩) hS.2.2 d_Md_isDigit_35
  ·
    have c_1 : ¬ (en ≤ q) := fun z => c_1 ((@nI_leI en q (by omega) (by omega)).mpr z)
    refine lv_aload_n hx hb d_Md_isDigit_8 rfl (lv_at hl 0 rfl) ?_
    refine va_get (D := (dC, dI)) (ci := 4) (v := .ref aMT) (C := R_Md) (T := F_Md) (N := 12) hx hb hz i_Md hown hK hP 0 rfl rfl 1 (by decide) (hz _ tw_477) (fun _ h9 => h9) rfl d_Md_isDigit_9 ?_
    refine lv_iload_n hx hb d_Md_isDigit_12 rfl (lv_at hl 1 rfl) ?_
    refine va_bald (D := (dC, dI)) (i := nI q) hx hb hK hP 1 0 rfl rfl (vp_in_nI (by omega) (by decide)) d_Md_isDigit_13 ?_
    refine zt_top (by rw [nI_clamp (by omega)]) ?_
    refine lv_bipush (v := 48) hx hb d_Md_isDigit_14 (by decide) ?_
    refine lv_icmp_lt (tgt := 34) hx hb d_Md_isDigit_16 (by decide) (fun c_2 => ?_) (fun c_2 => ?_)
    ·
      refine lv_iconst (v := 0) hx hb d_Md_isDigit_34 (by decide) ?_
      refine zt_size (fun hzs => ?_)
      have hP9 := hP.sub (ws' := [(aM, .inr (4, [.int th, .ref aMT, .int (nI mu), .ref aNw, .ref aNx, .int mw, .int mwa, .int (nI ma), .int (nI en), .long mv, .int mf, .int ml])), (aMT, .inl (kMT, 65536, .inl B))]) [0, 1] rfl
      have hD9 := hD.sub (ws' := [(aM, .inr (4, [.int th, .ref aMT, .int (nI mu), .ref aNw, .ref aNx, .int mw, .int mwa, .int (nI ma), .int (nI en), .long mv, .int mf, .int ml])), (aMT, .inl (kMT, 65536, .inl B))]) [0, 1] (by decide) rfl
      exact W.zret (v := 0) hx hb hr rfl (fun t ht hW => ⟨⟨0, (), rfl, by rw [if_neg (fun z => z.2.1 c_2)], by rw [ht]; exact hP9, hD9, by rw [ht]; exact hzs⟩, hS.F ht⟩) hS.2.2 d_Md_isDigit_35
    ·
      refine lv_aload_n hx hb d_Md_isDigit_19 rfl (lv_at hl 0 rfl) ?_
      refine va_get (D := (dC, dI)) (ci := 4) (v := .ref aMT) (C := R_Md) (T := F_Md) (N := 12) hx hb hz i_Md hown hK hP 0 rfl rfl 1 (by decide) (hz _ tw_477) (fun _ h9 => h9) rfl d_Md_isDigit_20 ?_
      refine lv_iload_n hx hb d_Md_isDigit_23 rfl (lv_at hl 1 rfl) ?_
      refine va_bald (D := (dC, dI)) (i := nI q) hx hb hK hP 1 0 rfl rfl (vp_in_nI (by omega) (by decide)) d_Md_isDigit_24 ?_
      refine zt_top (by rw [nI_clamp (by omega)]) ?_
      refine lv_bipush (v := 57) hx hb d_Md_isDigit_25 (by decide) ?_
      refine lv_icmp_gt (tgt := 34) hx hb d_Md_isDigit_27 (by decide) (fun c_3 => ?_) (fun c_3 => ?_)
      ·
        refine lv_iconst (v := 0) hx hb d_Md_isDigit_34 (by decide) ?_
        refine zt_size (fun hzs => ?_)
        have hP9 := hP.sub (ws' := [(aM, .inr (4, [.int th, .ref aMT, .int (nI mu), .ref aNw, .ref aNx, .int mw, .int mwa, .int (nI ma), .int (nI en), .long mv, .int mf, .int ml])), (aMT, .inl (kMT, 65536, .inl B))]) [0, 1] rfl
        have hD9 := hD.sub (ws' := [(aM, .inr (4, [.int th, .ref aMT, .int (nI mu), .ref aNw, .ref aNx, .int mw, .int mwa, .int (nI ma), .int (nI en), .long mv, .int mf, .int ml])), (aMT, .inl (kMT, 65536, .inl B))]) [0, 1] (by decide) rfl
        exact W.zret (v := 0) hx hb hr rfl (fun t ht hW => ⟨⟨0, (), rfl, by rw [if_neg (fun z => z.2.2 c_3)], by rw [ht]; exact hP9, hD9, by rw [ht]; exact hzs⟩, hS.F ht⟩) hS.2.2 d_Md_isDigit_35
      ·
        refine lv_iconst (v := 1) hx hb d_Md_isDigit_30 (by decide) ?_
        refine lv_goto (tgt := 35) hx hb d_Md_isDigit_31 (by decide) ?_
        refine zt_size (fun hzs => ?_)
        have hP9 := hP.sub (ws' := [(aM, .inr (4, [.int th, .ref aMT, .int (nI mu), .ref aNw, .ref aNx, .int mw, .int mwa, .int (nI ma), .int (nI en), .long mv, .int mf, .int ml])), (aMT, .inl (kMT, 65536, .inl B))]) [0, 1] rfl
        have hD9 := hD.sub (ws' := [(aM, .inr (4, [.int th, .ref aMT, .int (nI mu), .ref aNw, .ref aNx, .int mw, .int mwa, .int (nI ma), .int (nI en), .long mv, .int mf, .int ml])), (aMT, .inl (kMT, 65536, .inl B))]) [0, 1] (by decide) rfl
        exact W.zret (v := 1) hx hb hr rfl (fun t ht hW => ⟨⟨1, (), rfl, by rw [if_pos ⟨by omega, c_2, c_3⟩], by rw [ht]; exact hP9, hD9, by rw [ht]; exact hzs⟩, hS.F ht⟩) hS.2.2 d_Md_isDigit_35
