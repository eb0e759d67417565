set_option maxHeartbeats 4000000 in
set_option maxRecDepth 100000 in
theorem lp_Tp_goOnFrom (l : Launch) (G : ZG) (dC : Nat → ClassId) (dI : Nat → Nat → Nat) (aT : Nat) (aB : Nat) (u : Nat) (en : Nat) (h : Nat) (na : Int32) (w : Int32) (wa : Int32) (kB : ClassId) (B : Nat → Int32) (pl : Nat) (hen : en ≤ 65536) (hpl : pl ≤ en) {p : Program} {e : Env} {s : State} {m : MethodId} {args : Array Value} {below : List Frame} {meth : Method} {c : Code} {A : Nat → Prop} (C0 : zC p s m args meth c prog_4_method_13_code 3 none R_Tp w_Tp_goOnFrom) (hA : ∀ q : Nat, s.heap.size ≤ q → A q) (hK : va_K (dC, dI) vwCl [(kB, .byte)] s) (hE : zE G A s s.heap) : ∀ (n : Nat) (i : Nat), (i ≤ en) → (en + 1 ≤ i + n) → (zK B en i = zK B en pl) → ∀ (H : Heap) (locs : List Loc), va_P (dC, dI) vwCl [(aT, .inr (2, [.ref aB, .int (nI u), .int (nI en), .int (nI h), .int na, .int w, .int wa])), (aB, .inl (kB, 65536, .inl B))] H → va_D A [(aT, .inr (2, [.ref aB, .int (nI u), .int (nI en), .int (nI h), .int na, .int w, .int wa])), (aB, .inl (kB, 65536, .inl B))] → va_S A s.heap H locs → ∀ (ls : Array Slot), lv_has ls 3 [(0, .ref aT), (1, .int (nI pl)), (2, .int (nI i))] → W p l e ({ frames := 0, cells := 0, slots := 0, locals := 0 }) s m args below meth c H locs 0 0 (MQ below (va_Qv (fun (uu : Nat) => uu = zK B en pl) (fun (uu : Nat) t => BW (dC, dI) [(aT, .inr (2, [.ref aB, .int (nI u), .int (nI en), .int (nI uu), .int na, .int w, .int wa])), (aB, .inl (kB, 65536, .inl B))] A s.heap.size t) A) args s 0 0 A) (F0 m 2 ls []) := by
  obtain ⟨hx, hb, hr, hml, hown, hts, hlocks⟩ := C0
  have hz : ∀ w ∈ ZW, w.before _ s = true := fun w h => hts w (List.mem_cons_of_mem _ h)
  intro n
  induction n with
  | zero =>
    intro i hi hn hk H locs hP hD hS ls hl
    exact absurd hn (by omega)
  | succ n ih =>
    intro i hi hn hk H locs hP hD hS ls hl
    refine lv_iload_n hx hb d_Tp_goOnFrom_2 rfl (lv_at hl 2 rfl) ?_
    refine lv_aload_n hx hb d_Tp_goOnFrom_3 rfl (lv_at hl 0 rfl) ?_
    refine va_get (D := (dC, dI)) (ci := 2) (v := .int (nI en)) (C := R_Tp) (T := F_Tp) (N := 7) hx hb hz i_Tp hown hK hP 0 rfl rfl 2 (by decide) (hz _ tw_38) (fun _ h9 => h9) rfl d_Tp_goOnFrom_4 ?_
    refine lv_icmp_ge (tgt := 60) hx hb d_Tp_goOnFrom_7 (by decide) (fun c_1 => ?_) (fun c_1 => ?_)
    ·
      have c_1 : en ≤ i := (@nI_leI en i (by omega) (by omega)).mp c_1
      refine lv_aload_n hx hb d_Tp_goOnFrom_60 rfl (lv_at hl 0 rfl) ?_
      refine lv_iload_n hx hb d_Tp_goOnFrom_61 rfl (lv_at hl 2 rfl) ?_
      refine va_put (D := (dC, dI)) (ci := 2) (v := .int (nI i)) (ty := .int) (C := R_Tp) (T := F_Tp) (N := 7) hx hb hz i_Tp t_Tp t_Tp_ok n_Tp hown hK hP hD hS 0 rfl rfl 3 (by decide) (hz _ tw_39) (fun _ h9 => h9) rfl (by decide +kernel) rfl rfl (Nat.le_of_ble_eq_true rfl) d_Tp_goOnFrom_62 (fun H locs hP hD hS => ?_)
      have hP : va_P (dC, dI) vwCl [(aT, .inr (2, [.ref aB, .int (nI u), .int (nI en), .int (nI i), .int na, .int w, .int wa])), (aB, .inl (kB, 65536, .inl B))] H := hP
      have hD : va_D A [(aT, .inr (2, [.ref aB, .int (nI u), .int (nI en), .int (nI i), .int na, .int w, .int wa])), (aB, .inl (kB, 65536, .inl B))] := hD
      refine zt_size (fun hzs => ?_)
      have hP9 := hP.sub (ws' := [(aT, .inr (2, [.ref aB, .int (nI u), .int (nI en), .int (nI i), .int na, .int w, .int wa])), (aB, .inl (kB, 65536, .inl B))]) [0, 1] rfl
      have hD9 := hD.sub (ws' := [(aT, .inr (2, [.ref aB, .int (nI u), .int (nI en), .int (nI i), .int na, .int w, .int wa])), (aB, .inl (kB, 65536, .inl B))]) [0, 1] (by decide) rfl
      exact W.vret hx hb hr (fun t ht hW => ⟨⟨i, rfl, by rw [← hk]; exact (zK_no (fun z => absurd z.1 (by omega))).symm, by rw [ht]; exact hP9, hD9, by rw [ht]; exact hzs⟩, hS.F ht⟩) hS.2.2 d_Tp_goOnFrom_65
    ·
      have c_1 : ¬ (en ≤ i) := fun z => c_1 ((@nI_leI en i (by omega) (by omega)).mpr z)
      refine lv_aload_n hx hb d_Tp_goOnFrom_10 rfl (lv_at hl 0 rfl) ?_
      refine va_get (D := (dC, dI)) (ci := 2) (v := .ref aB) (C := R_Tp) (T := F_Tp) (N := 7) hx hb hz i_Tp hown hK hP 0 rfl rfl 0 (by decide) (hz _ tw_35) (fun _ h9 => h9) rfl d_Tp_goOnFrom_11 ?_
      refine lv_iload_n hx hb d_Tp_goOnFrom_14 rfl (lv_at hl 2 rfl) ?_
      refine va_bald (D := (dC, dI)) (i := nI i) hx hb hK hP 1 0 rfl rfl (vp_in_nI (by omega) (by decide)) d_Tp_goOnFrom_15 ?_
      refine zt_top (by rw [nI_clamp (by omega)]) ?_
      refine lv_bipush (v := 32) hx hb d_Tp_goOnFrom_16 (by decide) ?_
      refine lv_icmp_eq (tgt := 54) hx hb d_Tp_goOnFrom_18 (by decide) (fun c_2 => ?_) (fun c_2 => ?_)
      ·
        refine lv_iinc (v := nI (i + 1)) (lv' := [(2, .int (nI (i + 1))), (0, .ref aT), (1, .int (nI pl))]) hx hb d_Tp_goOnFrom_54 hl (k := 2) rfl (nI_add i 1) (by decide) rfl (fun ls hl => ?_)
        refine lv_goto (tgt := 2) hx hb d_Tp_goOnFrom_57 (by decide) ?_
        exact ih (i + 1) (by omega) (by omega) ((zK_go (by omega) (Or.inl c_2)).symm.trans hk) _ _ (hP.sub [0, 1] rfl) (hD.sub [0, 1] (by decide) rfl) hS ls (lv_sub hl [1, 2, 0] rfl)
      ·
        refine lv_aload_n hx hb d_Tp_goOnFrom_21 rfl (lv_at hl 0 rfl) ?_
        refine va_get (D := (dC, dI)) (ci := 2) (v := .ref aB) (C := R_Tp) (T := F_Tp) (N := 7) hx hb hz i_Tp hown hK hP 0 rfl rfl 0 (by decide) (hz _ tw_35) (fun _ h9 => h9) rfl d_Tp_goOnFrom_22 ?_
        refine lv_iload_n hx hb d_Tp_goOnFrom_25 rfl (lv_at hl 2 rfl) ?_
        refine va_bald (D := (dC, dI)) (i := nI i) hx hb hK hP 1 0 rfl rfl (vp_in_nI (by omega) (by decide)) d_Tp_goOnFrom_26 ?_
        refine zt_top (by rw [nI_clamp (by omega)]) ?_
        refine lv_bipush (v := 10) hx hb d_Tp_goOnFrom_27 (by decide) ?_
        refine lv_icmp_eq (tgt := 54) hx hb d_Tp_goOnFrom_29 (by decide) (fun c_3 => ?_) (fun c_3 => ?_)
        ·
          refine lv_iinc (v := nI (i + 1)) (lv' := [(2, .int (nI (i + 1))), (0, .ref aT), (1, .int (nI pl))]) hx hb d_Tp_goOnFrom_54 hl (k := 2) rfl (nI_add i 1) (by decide) rfl (fun ls hl => ?_)
          refine lv_goto (tgt := 2) hx hb d_Tp_goOnFrom_57 (by decide) ?_
          exact ih (i + 1) (by omega) (by omega) ((zK_go (by omega) (Or.inr (Or.inl c_3))).symm.trans hk) _ _ (hP.sub [0, 1] rfl) (hD.sub [0, 1] (by decide) rfl) hS ls (lv_sub hl [1, 2, 0] rfl)
        ·
          refine lv_aload_n hx hb d_Tp_goOnFrom_32 rfl (lv_at hl 0 rfl) ?_
          refine va_get (D := (dC, dI)) (ci := 2) (v := .ref aB) (C := R_Tp) (T := F_Tp) (N := 7) hx hb hz i_Tp hown hK hP 0 rfl rfl 0 (by decide) (hz _ tw_35) (fun _ h9 => h9) rfl d_Tp_goOnFrom_33 ?_
          refine lv_iload_n hx hb d_Tp_goOnFrom_36 rfl (lv_at hl 2 rfl) ?_
          refine va_bald (D := (dC, dI)) (i := nI i) hx hb hK hP 1 0 rfl rfl (vp_in_nI (by omega) (by decide)) d_Tp_goOnFrom_37 ?_
          refine zt_top (by rw [nI_clamp (by omega)]) ?_
          refine lv_bipush (v := 13) hx hb d_Tp_goOnFrom_38 (by decide) ?_
          refine lv_icmp_eq (tgt := 54) hx hb d_Tp_goOnFrom_40 (by decide) (fun c_4 => ?_) (fun c_4 => ?_)
          ·
            refine lv_iinc (v := nI (i + 1)) (lv' := [(2, .int (nI (i + 1))), (0, .ref aT), (1, .int (nI pl))]) hx hb d_Tp_goOnFrom_54 hl (k := 2) rfl (nI_add i 1) (by decide) rfl (fun ls hl => ?_)
            refine lv_goto (tgt := 2) hx hb d_Tp_goOnFrom_57 (by decide) ?_
            exact ih (i + 1) (by omega) (by omega) ((zK_go (by omega) (Or.inr (Or.inr (Or.inl c_4)))).symm.trans hk) _ _ (hP.sub [0, 1] rfl) (hD.sub [0, 1] (by decide) rfl) hS ls (lv_sub hl [1, 2, 0] rfl)
          ·
            refine lv_aload_n hx hb d_Tp_goOnFrom_43 rfl (lv_at hl 0 rfl) ?_
            refine va_get (D := (dC, dI)) (ci := 2) (v := .ref aB) (C := R_Tp) (T := F_Tp) (N := 7) hx hb hz i_Tp hown hK hP 0 rfl rfl 0 (by decide) (hz _ tw_35) (fun _ h9 => h9) rfl d_Tp_goOnFrom_44 ?_
            refine lv_iload_n hx hb d_Tp_goOnFrom_47 rfl (lv_at hl 2 rfl) ?_
            refine va_bald (D := (dC, dI)) (i := nI i) hx hb hK hP 1 0 rfl rfl (vp_in_nI (by omega) (by decide)) d_Tp_goOnFrom_48 ?_
            refine zt_top (by rw [nI_clamp (by omega)]) ?_
            refine lv_bipush (v := 9) hx hb d_Tp_goOnFrom_49 (by decide) ?_
            refine lv_icmp_ne (tgt := 60) hx hb d_Tp_goOnFrom_51 (by decide) (fun c_5 => ?_) (fun c_5 => ?_)
            ·
              refine lv_aload_n hx hb d_Tp_goOnFrom_60 rfl (lv_at hl 0 rfl) ?_
              refine lv_iload_n hx hb d_Tp_goOnFrom_61 rfl (lv_at hl 2 rfl) ?_
              refine va_put (D := (dC, dI)) (ci := 2) (v := .int (nI i)) (ty := .int) (C := R_Tp) (T := F_Tp) (N := 7) hx hb hz i_Tp t_Tp t_Tp_ok n_Tp hown hK hP hD hS 0 rfl rfl 3 (by decide) (hz _ tw_39) (fun _ h9 => h9) rfl (by decide +kernel) rfl rfl (Nat.le_of_ble_eq_true rfl) d_Tp_goOnFrom_62 (fun H locs hP hD hS => ?_)
              have hP : va_P (dC, dI) vwCl [(aT, .inr (2, [.ref aB, .int (nI u), .int (nI en), .int (nI i), .int na, .int w, .int wa])), (aB, .inl (kB, 65536, .inl B))] H := hP
              have hD : va_D A [(aT, .inr (2, [.ref aB, .int (nI u), .int (nI en), .int (nI i), .int na, .int w, .int wa])), (aB, .inl (kB, 65536, .inl B))] := hD
              refine zt_size (fun hzs => ?_)
              have hP9 := hP.sub (ws' := [(aT, .inr (2, [.ref aB, .int (nI u), .int (nI en), .int (nI i), .int na, .int w, .int wa])), (aB, .inl (kB, 65536, .inl B))]) [0, 1] rfl
              have hD9 := hD.sub (ws' := [(aT, .inr (2, [.ref aB, .int (nI u), .int (nI en), .int (nI i), .int na, .int w, .int wa])), (aB, .inl (kB, 65536, .inl B))]) [0, 1] (by decide) rfl
              exact W.vret hx hb hr (fun t ht hW => ⟨⟨i, rfl, by rw [← hk]; exact (zK_no (fun z => z.2.elim c_2 (fun z => z.elim c_3 (fun z => z.elim c_4 c_5)))).symm, by rw [ht]; exact hP9, hD9, by rw [ht]; exact hzs⟩, hS.F ht⟩) hS.2.2 d_Tp_goOnFrom_65
            ·
              refine lv_iinc (v := nI (i + 1)) (lv' := [(2, .int (nI (i + 1))), (0, .ref aT), (1, .int (nI pl))]) hx hb d_Tp_goOnFrom_54 hl (k := 2) rfl (nI_add i 1) (by decide) rfl (fun ls hl => ?_)
              refine lv_goto (tgt := 2) hx hb d_Tp_goOnFrom_57 (by decide) ?_
              exact ih (i + 1) (by omega) (by omega) ((zK_go (by omega) (Or.inr (Or.inr (Or.inr c_5)))).symm.trans hk) _ _ (hP.sub [0, 1] rfl) (hD.sub [0, 1] (by decide) rfl) hS ls (lv_sub hl [1, 2, 0] rfl)
set_option maxHeartbeats 4000000 in
set_option maxRecDepth 100000 in
theorem c_Tp_goOnFrom (l : Launch) (G : ZG) (dC : Nat → ClassId) (dI : Nat → Nat → Nat) (sz : Nat) (aT : Nat) (aB : Nat) (u : Nat) (en : Nat) (h : Nat) (na : Int32) (w : Int32) (wa : Int32) (kB : ClassId) (B : Nat → Int32) (pl : Nat) (hen : en ≤ 65536) (hpl : pl ≤ en) : Met l y_Tp_goOnFrom w_Tp_goOnFrom ({ frames := 0, cells := 0, slots := 0, locals := 0 }) (va_Pc [.ref aT, .int (nI pl)] (PW G (dC, dI) [(kB, .byte)] [(aT, .inr (2, [.ref aB, .int (nI u), .int (nI en), .int (nI h), .int na, .int w, .int wa])), (aB, .inl (kB, 65536, .inl B))] sz)) (va_Qv (fun (uu : Nat) => uu = zK B en pl) (fun (uu : Nat) t => BW (dC, dI) [(aT, .inr (2, [.ref aB, .int (nI u), .int (nI en), .int (nI uu), .int na, .int w, .int wa])), (aB, .inl (kB, 65536, .inl B))] (va_A [(aT, .inr (2, [.ref aB, .int (nI u), .int (nI en), .int (nI h), .int na, .int w, .int wa])), (aB, .inl (kB, 65536, .inl B))] sz) sz t) (va_A [(aT, .inr (2, [.ref aB, .int (nI u), .int (nI en), .int (nI h), .int na, .int w, .int wa])), (aB, .inl (kB, 65536, .inl B))] sz)) 0 0 (va_A [(aT, .inr (2, [.ref aB, .int (nI u), .int (nI en), .int (nI h), .int na, .int w, .int wa])), (aB, .inl (kB, 65536, .inl B))] sz) := by
  refine Met.ofW (cc := prog_4_method_13_code) (maxL := 3) (ret := none) (by decide) rfl ?_
  intro p e s m args below meth c s₁ Bd hml hv
  obtain ⟨rfl, hsz, hP, hK, hD0, hE⟩ := hv
  have hx := Bd.exec
  have hb := Bd.bytes
  have hr := Bd.returns
  have hts := atoms_spec (ws := w_Tp_goOnFrom) Bd.pre
  have hown : s.vm.findClass R_Tp = some m.cls := findClass_of_methodNamed Bd.named
  have hlocks := Bd.notSynchronized
  have hz : ∀ w ∈ ZW, w.before _ s = true := fun w h => hts w (List.mem_cons_of_mem _ h)
  subst hsz
  have hD := hD0.self (sz := s.heap.size)
  generalize hAe : va_A [(aT, .inr (2, [.ref aB, .int (nI u), .int (nI en), .int (nI h), .int na, .int w, .int wa])), (aB, .inl (kB, 65536, .inl B))] s.heap.size = A at hD hE ⊢
  have hA : ∀ q : Nat, s.heap.size ≤ q → A q := fun q h => by rw [← hAe]; exact Or.inr h
  have hS : va_S A s.heap s.heap [] := va_S.rf
  have hl := lv_entry ([.ref aT, .int (nI pl)]) (n := 3) (Nat.le_of_ble_eq_true rfl)
  rw [lg_entry_eq]
  generalize (lg_sl ([.ref aT, .int (nI pl)]) ++ List.replicate (3 - (lg_sl ([.ref aT, .int (nI pl)])).length) Slot.unset).toArray = ls at hl ⊢
  have hl : lv_has ls 3 [(0, .ref aT), (1, .int (nI pl))] := hl
  obtain ⟨H, hH⟩ : ∃ z, z = s.heap := ⟨_, rfl⟩
  have hP : va_P (dC, dI) vwCl [(aT, .inr (2, [.ref aB, .int (nI u), .int (nI en), .int (nI h), .int na, .int w, .int wa])), (aB, .inl (kB, 65536, .inl B))] H := by rw [hH]; exact hP
  have hS : va_S A s.heap H [] := by rw [hH]; exact hS
  refine zt_heap hH ?_
  refine lv_iload_n hx hb d_Tp_goOnFrom_0 rfl (lv_at hl 1 rfl) ?_
  refine lv_istore_n (lv' := [(2, .int (nI pl)), (0, .ref aT), (1, .int (nI pl))]) hx hb d_Tp_goOnFrom_1 rfl hl (by decide) rfl (fun ls hl => ?_)
  exact lp_Tp_goOnFrom l G dC dI aT aB u en h na w wa kB B pl hen hpl ⟨hx, hb, hr, hml, hown, hts, hlocks⟩ hA hK hE (en + 1) pl hpl (by omega) rfl _ _ (hP.sub [0, 1] rfl) (hD.sub [0, 1] (by decide) rfl) hS ls (lv_sub hl [1, 2, 0] rfl)
set_option maxHeartbeats 4000000 in
set_option maxRecDepth 100000 in
theorem c_Tp_begin (l : Launch) (G : ZG) (dC : Nat → ClassId) (dI : Nat → Nat → Nat) (sz : Nat) (aT : Nat) (aB : Nat) (u : Nat) (en : Nat) (h : Nat) (na : Int32) (w : Int32) (wa : Int32) (kB : ClassId) (B : Nat → Int32) (hu : u ≤ 65536) : Met l y_Tp_begin w_Tp_begin ({ frames := 1, cells := 0, slots := 0, locals := 22 }) (va_Pc [.ref aT] (PW G (dC, dI) [(kB, .byte)] [(aT, .inr (2, [.ref aB, .int (nI u), .int (nI en), .int (nI h), .int na, .int w, .int wa])), (aB, .inl (kB, 65536, .inl B))] sz)) (va_Qv (fun (uu : Nat × Nat × Nat × Int32 × Int32) => uu.1 = 0 ∧ uu.2.1 = u ∧ uu.2.2.1 = zK B u 0 ∧ uu.2.2.2.1 = 0 ∧ uu.2.2.2.2 = 0) (fun (uu : Nat × Nat × Nat × Int32 × Int32) t => BW (dC, dI) [(aT, .inr (2, [.ref aB, .int (nI uu.1), .int (nI uu.2.1), .int (nI uu.2.2.1), .int na, .int uu.2.2.2.1, .int uu.2.2.2.2])), (aB, .inl (kB, 65536, .inl B))] (va_A [(aT, .inr (2, [.ref aB, .int (nI u), .int (nI en), .int (nI h), .int na, .int w, .int wa])), (aB, .inl (kB, 65536, .inl B))] sz) sz t) (va_A [(aT, .inr (2, [.ref aB, .int (nI u), .int (nI en), .int (nI h), .int na, .int w, .int wa])), (aB, .inl (kB, 65536, .inl B))] sz)) 0 0 (va_A [(aT, .inr (2, [.ref aB, .int (nI u), .int (nI en), .int (nI h), .int na, .int w, .int wa])), (aB, .inl (kB, 65536, .inl B))] sz) := by
  refine Met.ofW (cc := prog_4_method_5_code) (maxL := 1) (ret := none) (by decide) rfl ?_
  intro p e s m args below meth c s₁ Bd hml hv
  obtain ⟨rfl, hsz, hP, hK, hD0, hE⟩ := hv
  have hx := Bd.exec
  have hb := Bd.bytes
  have hr := Bd.returns
  have hts := atoms_spec (ws := w_Tp_begin) Bd.pre
  have hown : s.vm.findClass R_Tp = some m.cls := findClass_of_methodNamed Bd.named
  have hlocks := Bd.notSynchronized
  have hz : ∀ w ∈ ZW, w.before _ s = true := fun w h => hts w (List.mem_cons_of_mem _ h)
  subst hsz
  have hD := hD0.self (sz := s.heap.size)
  generalize hAe : va_A [(aT, .inr (2, [.ref aB, .int (nI u), .int (nI en), .int (nI h), .int na, .int w, .int wa])), (aB, .inl (kB, 65536, .inl B))] s.heap.size = A at hD hE ⊢
  have hA : ∀ q : Nat, s.heap.size ≤ q → A q := fun q h => by rw [← hAe]; exact Or.inr h
  have hS : va_S A s.heap s.heap [] := va_S.rf
  have hl := lv_entry ([.ref aT]) (n := 1) (Nat.le_of_ble_eq_true rfl)
  rw [lg_entry_eq]
  generalize (lg_sl ([.ref aT]) ++ List.replicate (1 - (lg_sl ([.ref aT])).length) Slot.unset).toArray = ls at hl ⊢
  have hl : lv_has ls 1 [(0, .ref aT)] := hl
  obtain ⟨H, hH⟩ : ∃ z, z = s.heap := ⟨_, rfl⟩
  have hP : va_P (dC, dI) vwCl [(aT, .inr (2, [.ref aB, .int (nI u), .int (nI en), .int (nI h), .int na, .int w, .int wa])), (aB, .inl (kB, 65536, .inl B))] H := by rw [hH]; exact hP
  have hS : va_S A s.heap H [] := by rw [hH]; exact hS
  refine zt_heap hH ?_
  refine lv_aload_n hx hb d_Tp_begin_0 rfl (lv_at hl 0 rfl) ?_
  refine lv_aload_n hx hb d_Tp_begin_1 rfl (lv_at hl 0 rfl) ?_
  refine va_get (D := (dC, dI)) (ci := 2) (v := .int (nI u)) (C := R_Tp) (T := F_Tp) (N := 7) hx hb hz i_Tp hown hK hP 0 rfl rfl 1 (by decide) (hz _ tw_36) (fun _ h9 => h9) rfl d_Tp_begin_2 ?_
  refine va_put (D := (dC, dI)) (ci := 2) (v := .int (nI u)) (ty := .int) (C := R_Tp) (T := F_Tp) (N := 7) hx hb hz i_Tp t_Tp t_Tp_ok n_Tp hown hK hP hD hS 0 rfl rfl 2 (by decide) (hz _ tw_38) (fun _ h9 => h9) rfl (by decide +kernel) rfl rfl (Nat.le_of_ble_eq_true rfl) d_Tp_begin_5 (fun H locs hP hD hS => ?_)
  have hP : va_P (dC, dI) vwCl [(aT, .inr (2, [.ref aB, .int (nI u), .int (nI u), .int (nI h), .int na, .int w, .int wa])), (aB, .inl (kB, 65536, .inl B))] H := hP
  have hD : va_D A [(aT, .inr (2, [.ref aB, .int (nI u), .int (nI u), .int (nI h), .int na, .int w, .int wa])), (aB, .inl (kB, 65536, .inl B))] := hD
  refine lv_aload_n hx hb d_Tp_begin_8 rfl (lv_at hl 0 rfl) ?_
  refine lv_iconst (v := 0) hx hb d_Tp_begin_9 (by decide) ?_
  refine va_put (D := (dC, dI)) (ci := 2) (v := .int 0) (ty := .int) (C := R_Tp) (T := F_Tp) (N := 7) hx hb hz i_Tp t_Tp t_Tp_ok n_Tp hown hK hP hD hS 0 rfl rfl 1 (by decide) (hz _ tw_36) (fun _ h9 => h9) rfl (by decide +kernel) rfl rfl (Nat.le_of_ble_eq_true rfl) d_Tp_begin_10 (fun H locs hP hD hS => ?_)
  have hP : va_P (dC, dI) vwCl [(aT, .inr (2, [.ref aB, .int (nI 0), .int (nI u), .int (nI h), .int na, .int w, .int wa])), (aB, .inl (kB, 65536, .inl B))] H := hP
  have hD : va_D A [(aT, .inr (2, [.ref aB, .int (nI 0), .int (nI u), .int (nI h), .int na, .int w, .int wa])), (aB, .inl (kB, 65536, .inl B))] := hD
  refine lv_aload_n hx hb d_Tp_begin_13 rfl (lv_at hl 0 rfl) ?_
  refine lv_iconst (v := 0) hx hb d_Tp_begin_14 (by decide) ?_
  refine va_put (D := (dC, dI)) (ci := 2) (v := .int 0) (ty := .int) (C := R_Tp) (T := F_Tp) (N := 7) hx hb hz i_Tp t_Tp t_Tp_ok n_Tp hown hK hP hD hS 0 rfl rfl 5 (by decide) (hz _ tw_43) (fun _ h9 => h9) rfl (by decide +kernel) rfl rfl (Nat.le_of_ble_eq_true rfl) d_Tp_begin_15 (fun H locs hP hD hS => ?_)
  have hP : va_P (dC, dI) vwCl [(aT, .inr (2, [.ref aB, .int (nI 0), .int (nI u), .int (nI h), .int na, .int 0, .int wa])), (aB, .inl (kB, 65536, .inl B))] H := hP
  have hD : va_D A [(aT, .inr (2, [.ref aB, .int (nI 0), .int (nI u), .int (nI h), .int na, .int 0, .int wa])), (aB, .inl (kB, 65536, .inl B))] := hD
  refine lv_aload_n hx hb d_Tp_begin_18 rfl (lv_at hl 0 rfl) ?_
  refine lv_iconst (v := 0) hx hb d_Tp_begin_19 (by decide) ?_
  refine va_put (D := (dC, dI)) (ci := 2) (v := .int 0) (ty := .int) (C := R_Tp) (T := F_Tp) (N := 7) hx hb hz i_Tp t_Tp t_Tp_ok n_Tp hown hK hP hD hS 0 rfl rfl 6 (by decide) (hz _ tw_45) (fun _ h9 => h9) rfl (by decide +kernel) rfl rfl (Nat.le_of_ble_eq_true rfl) d_Tp_begin_20 (fun H locs hP hD hS => ?_)
  have hP : va_P (dC, dI) vwCl [(aT, .inr (2, [.ref aB, .int (nI 0), .int (nI u), .int (nI h), .int na, .int 0, .int 0])), (aB, .inl (kB, 65536, .inl B))] H := hP
  have hD : va_D A [(aT, .inr (2, [.ref aB, .int (nI 0), .int (nI u), .int (nI h), .int na, .int 0, .int 0])), (aB, .inl (kB, 65536, .inl B))] := hD
  refine lv_aload_n hx hb d_Tp_begin_23 rfl (lv_at hl 0 rfl) ?_
  refine lv_iconst (v := 0) hx hb d_Tp_begin_24 (by decide) ?_
  have hPc := hP.sub (ws' := [(aT, .inr (2, [.ref aB, .int (nI 0), .int (nI u), .int (nI h), .int na, .int 0, .int 0])), (aB, .inl (kB, 65536, .inl B))]) [0, 1] rfl
  have hDc := hD.sub (ws' := [(aT, .inr (2, [.ref aB, .int (nI 0), .int (nI u), .int (nI h), .int na, .int 0, .int 0])), (aB, .inl (kB, 65536, .inl B))]) [0, 1] (by decide) rfl
  have hKc := hK.sub (tys' := [(kB, .byte)]) [0] rfl
  have hFc := va_free (wc := [(aT, .inr (2, [.ref aB, .int (nI 0), .int (nI u), .int (nI h), .int na, .int 0, .int 0])), (aB, .inl (kB, 65536, .inl B))]) hD hS hA [0, 1] rfl
  refine va_callv (va_runV (As := [.int (nI 0)]) (rest := []) ⟨hx, hb, hml, hown, hts⟩ (c_Tp_goOnFrom l G dC dI H.size aT aB 0 u h na 0 0 kB B 0 (by omega) (by omega)) (cwV 1 hts (gV tw_209 tw_211 ts_5 tw_3 tw_212 rfl) rfl rfl rfl (by decide +kernel) ⟨Nat.le_of_ble_eq_true rfl, Nat.le_of_ble_eq_true rfl⟩) (PW_preV hPc hKc hDc hE hS hFc (ci := 2) (q0 := 0) rfl rfl) rfl rfl hl.1 rfl (lv_room (Nat.le_of_ble_eq_true rfl)) d_Tp_begin_25 ⟨Nat.le_of_ble_eq_true rfl, Nat.le_of_ble_eq_true rfl⟩) hS (fun q _ h => hFc q h) hFc (fun uu t H1 locs ht hvm hw_3 hB hz1 hk1 hS => ?_)
  obtain ⟨h_2, rfl⟩ : ∃ z, z = uu := ⟨_, rfl⟩
  obtain ⟨hP1, hD1, hsz1⟩ := hB
  rw [ht] at hP1 hsz1
  obtain ⟨hP, hD⟩ := va_join (wr := []) (w1 := [(aT, .inr (2, [.ref aB, .int (nI 0), .int (nI u), .int (nI h_2), .int na, .int 0, .int 0])), (aB, .inl (kB, 65536, .inl B))]) hP hD [0, 1] [] rfl rfl (by decide) (by decide) hk1 hFc hP1 hD1
  generalize H1 = H at hP hS ⊢
  have hP : va_P (dC, dI) vwCl [(aT, .inr (2, [.ref aB, .int (nI 0), .int (nI u), .int (nI h_2), .int na, .int 0, .int 0])), (aB, .inl (kB, 65536, .inl B))] H := hP
  have hD : va_D A [(aT, .inr (2, [.ref aB, .int (nI 0), .int (nI u), .int (nI h_2), .int na, .int 0, .int 0])), (aB, .inl (kB, 65536, .inl B))] := hD
  refine zt_size (fun hzs => ?_)
  have hP9 := hP.sub (ws' := [(aT, .inr (2, [.ref aB, .int (nI 0), .int (nI u), .int (nI h_2), .int na, .int 0, .int 0])), (aB, .inl (kB, 65536, .inl B))]) [0, 1] rfl
  have hD9 := hD.sub (ws' := [(aT, .inr (2, [.ref aB, .int (nI 0), .int (nI u), .int (nI h_2), .int na, .int 0, .int 0])), (aB, .inl (kB, 65536, .inl B))]) [0, 1] (by decide) rfl
  exact W.vret hx hb hr (fun t ht hW => ⟨⟨(0, u, h_2, 0, 0), rfl, ⟨rfl, rfl, hw_3, rfl, rfl⟩, by rw [ht]; exact hP9, hD9, by rw [ht]; exact hzs⟩, hS.F ht⟩) hS.2.2 d_Tp_begin_28
theorem zx_tb : ∀ w ∈ (vx_atS R_Tp 44 "java/lang/IllegalArgumentException" ["java/lang/RuntimeException", "java/lang/Exception"]).filter goodWord, w ∈ lw_tbl := by decide +kernel
theorem zx_in : ∀ w ∈ (vx_atS R_Tp 44 "java/lang/IllegalArgumentException" ["java/lang/RuntimeException", "java/lang/Exception"]).filter goodWord, w ∈ ZW := fun w h => List.mem_filter.mpr ⟨zx_tb w h, (List.mem_filter.mp h).2⟩
theorem zx_ca : ∀ w ∈ (vx_atS R_Tp 44 "java/lang/IllegalArgumentException" ["java/lang/RuntimeException", "java/lang/Exception"]).filter (fun w => !goodWord w), w ∈ zCa := by decide +kernel
theorem zx_on : ∀ w ∈ zCa, w.onTables = true := by decide +kernel
theorem zx_ot : ∀ w ∈ Cond.classLink R_Tp 40 "java/lang/IllegalArgumentException" :: Cond.initialized "java/lang/IllegalArgumentException" :: vx_atS R_Tp 44 "java/lang/IllegalArgumentException" ["java/lang/RuntimeException", "java/lang/Exception"], vx_ot w = true := by decide +kernel
set_option maxHeartbeats 4000000 in
set_option maxRecDepth 100000 in
theorem c_Tp_refuse (l : Launch) (hst : l.stackTraces = false) (G : ZG) (dC : Nat → ClassId) (dI : Nat → Nat → Nat) (sz : Nat) (aT : Nat) (aB : Nat) (u : Nat) (en : Nat) (h : Nat) (na : Int32) (w : Int32) (wa : Int32) (kB : ClassId) (B : Nat → Int32) (wt : Int32) (wh : Int32) : vx_Met l y_Tp_refuse w_Tp_refuse ({ frames := 6, cells := 1, slots := 6, locals := 82 }) (va_Pc [.ref aT, .int wt, .int wh] (PW G (dC, dI) [(kB, .byte)] [(aT, .inr (2, [.ref aB, .int (nI u), .int (nI en), .int (nI h), .int na, .int w, .int wa])), (aB, .inl (kB, 65536, .inl B))] sz)) (va_Qv (fun (uu : Unit) => False) (fun (uu : Unit) t => BW (dC, dI) [(aT, .inr (2, [.ref aB, .int (nI u), .int (nI en), .int (nI h), .int na, .int w, .int wa])), (aB, .inl (kB, 65536, .inl B))] (va_A [(aT, .inr (2, [.ref aB, .int (nI u), .int (nI en), .int (nI h), .int na, .int w, .int wa])), (aB, .inl (kB, 65536, .inl B))] sz) sz t) (va_A [(aT, .inr (2, [.ref aB, .int (nI u), .int (nI en), .int (nI h), .int na, .int w, .int wa])), (aB, .inl (kB, 65536, .inl B))] sz)) (vx_X (fun (uu : Int32 × Int32) => uu.1 = wt ∧ uu.2 = wh) (fun E (uu : Int32 × Int32) t => E = "java/lang/IllegalArgumentException" ∧ va_P (dC, dI) vwCl [(aT, .inr (2, [.ref aB, .int (nI u), .int (nI en), .int (nI h), .int na, .int uu.1, .int uu.2])), (aB, .inl (kB, 65536, .inl B))] t.heap ∧ va_D (va_A [(aT, .inr (2, [.ref aB, .int (nI u), .int (nI en), .int (nI h), .int na, .int w, .int wa])), (aB, .inl (kB, 65536, .inl B))] sz) [(aT, .inr (2, [.ref aB, .int (nI u), .int (nI en), .int (nI h), .int na, .int uu.1, .int uu.2])), (aB, .inl (kB, 65536, .inl B))]) (va_A [(aT, .inr (2, [.ref aB, .int (nI u), .int (nI en), .int (nI h), .int na, .int w, .int wa])), (aB, .inl (kB, 65536, .inl B))] sz)) 1 6 (va_A [(aT, .inr (2, [.ref aB, .int (nI u), .int (nI en), .int (nI h), .int na, .int w, .int wa])), (aB, .inl (kB, 65536, .inl B))] sz) := by
  refine vx_ofW (cc := prog_4_method_6_code) (maxL := 3) (ret := none) (by decide) rfl ?_
  intro p e s m args below meth c s₁ Bd hml htab hv
  obtain ⟨rfl, hsz, hP, hK, hD0, hE⟩ := hv
  have hx := Bd.exec
  have hb := Bd.bytes
  have hr := Bd.returns
  have hts := atoms_spec (ws := w_Tp_refuse) Bd.pre
  have hown : s.vm.findClass R_Tp = some m.cls := findClass_of_methodNamed Bd.named
  have hlocks := Bd.notSynchronized
  have hz : ∀ w ∈ ZW, w.before _ s = true := fun w h => hts w (List.mem_cons_of_mem _ h)
  subst hsz
  have hD := hD0.self (sz := s.heap.size)
  generalize hAe : va_A [(aT, .inr (2, [.ref aB, .int (nI u), .int (nI en), .int (nI h), .int na, .int w, .int wa])), (aB, .inl (kB, 65536, .inl B))] s.heap.size = A at hD hE ⊢
  have hA : ∀ q : Nat, s.heap.size ≤ q → A q := fun q h => by rw [← hAe]; exact Or.inr h
  have hS : va_S A s.heap s.heap [] := va_S.rf
  have hl := lv_entry ([.ref aT, .int wt, .int wh]) (n := 3) (Nat.le_of_ble_eq_true rfl)
  rw [lg_entry_eq]
  generalize (lg_sl ([.ref aT, .int wt, .int wh]) ++ List.replicate (3 - (lg_sl ([.ref aT, .int wt, .int wh])).length) Slot.unset).toArray = ls at hl ⊢
  have hl : lv_has ls 3 [(0, .ref aT), (1, .int wt), (2, .int wh)] := hl
  obtain ⟨H, hH⟩ : ∃ z, z = s.heap := ⟨_, rfl⟩
  have hP : va_P (dC, dI) vwCl [(aT, .inr (2, [.ref aB, .int (nI u), .int (nI en), .int (nI h), .int na, .int w, .int wa])), (aB, .inl (kB, 65536, .inl B))] H := by rw [hH]; exact hP
  have hS : va_S A s.heap H [] := by rw [hH]; exact hS
  refine zt_heap hH ?_
  refine lv_aload_n hx hb d_Tp_refuse_0 rfl (lv_at hl 0 rfl) ?_
  refine lv_iload_n hx hb d_Tp_refuse_1 rfl (lv_at hl 1 rfl) ?_
  refine va_put (D := (dC, dI)) (ci := 2) (v := .int wt) (ty := .int) (C := R_Tp) (T := F_Tp) (N := 7) hx hb hz i_Tp t_Tp t_Tp_ok n_Tp hown hK hP hD hS 0 rfl rfl 5 (by decide) (hz _ tw_43) (fun _ h9 => h9) rfl (by decide +kernel) rfl rfl (Nat.le_of_ble_eq_true rfl) d_Tp_refuse_2 (fun H locs hP hD hS => ?_)
  have hP : va_P (dC, dI) vwCl [(aT, .inr (2, [.ref aB, .int (nI u), .int (nI en), .int (nI h), .int na, .int wt, .int wa])), (aB, .inl (kB, 65536, .inl B))] H := hP
  have hD : va_D A [(aT, .inr (2, [.ref aB, .int (nI u), .int (nI en), .int (nI h), .int na, .int wt, .int wa])), (aB, .inl (kB, 65536, .inl B))] := hD
  refine lv_aload_n hx hb d_Tp_refuse_5 rfl (lv_at hl 0 rfl) ?_
  refine lv_iload_n hx hb d_Tp_refuse_6 rfl (lv_at hl 2 rfl) ?_
  refine va_put (D := (dC, dI)) (ci := 2) (v := .int wh) (ty := .int) (C := R_Tp) (T := F_Tp) (N := 7) hx hb hz i_Tp t_Tp t_Tp_ok n_Tp hown hK hP hD hS 0 rfl rfl 6 (by decide) (hz _ tw_45) (fun _ h9 => h9) rfl (by decide +kernel) rfl rfl (Nat.le_of_ble_eq_true rfl) d_Tp_refuse_7 (fun H locs hP hD hS => ?_)
  have hP : va_P (dC, dI) vwCl [(aT, .inr (2, [.ref aB, .int (nI u), .int (nI en), .int (nI h), .int na, .int wt, .int wh])), (aB, .inl (kB, 65536, .inl B))] H := hP
  have hD : va_D A [(aT, .inr (2, [.ref aB, .int (nI u), .int (nI en), .int (nI h), .int na, .int wt, .int wh])), (aB, .inl (kB, 65536, .inl B))] := hD
  have hP9 := hP.sub (ws' := [(aT, .inr (2, [.ref aB, .int (nI u), .int (nI en), .int (nI h), .int na, .int wt, .int wh])), (aB, .inl (kB, 65536, .inl B))]) [0, 1] rfl
  have hD9 := hD.sub (ws' := [(aT, .inr (2, [.ref aB, .int (nI u), .int (nI en), .int (nI h), .int na, .int wt, .int wh])), (aB, .inl (kB, 65536, .inl B))]) [0, 1] (by decide) rfl
  exact vx_throwS (own := R_Tp) (cls := "java/lang/IllegalArgumentException") (text := "the text is wrong") (names := ["java/lang/RuntimeException", "java/lang/Exception"]) (ik := 40) (is := 42) (ic := 44) (A := A) (sa := G.2.1 0) hx hb hst hown (by decide +kernel) (by decide +kernel) (hz _ tw_226) (hz _ tw_9) (hE.2.2.2.2.2.2.2 0 (by decide)).2 (vx_hat (B := zCa) (fun w h => hz w (zx_in w h)) zx_ca (fun w h => va_Nw.use (zx_on w h) (hE.2.1 w h))) zx_ot hE.2.2.1 hE.2.2.2.1 hS (hl.1.trans hml.symm) d_Tp_refuse_10 d_Tp_refuse_13 d_Tp_refuse_14 d_Tp_refuse_16 d_Tp_refuse_19 (fun x hx => (htab x hx).elim) (by decide) (by decide) (by decide) (by decide) hlocks (fun t hvm hsz hk => ⟨(wt, wh), ⟨rfl, rfl⟩, ⟨rfl, va_P.kept hP9 (fun k q h => hk _ (va_at.lt (hP9 k q h))), hD9⟩, ⟨Nat.le_trans hS.1 hsz, fun q h1 h2 => (hk q (Nat.lt_of_lt_of_le h1 hS.1)).trans (hS.2.1 q h1 h2)⟩⟩) hS.2.2 (by decide) (by decide)
