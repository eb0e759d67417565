set_option maxHeartbeats 4000000 in
set_option maxRecDepth 100000 in
theorem c_Tp_hasRoom (l : Launch) (G : ZG) (dC : Nat → ClassId) (dI : Nat → Nat → Nat) (sz : Nat) (aT : Nat) (aB : Nat) (u : Nat) (en : Nat) (h : Nat) (na : Int32) (w : Int32) (wa : Int32) (kB : ClassId) (B : Nat → Int32) (hu : u ≤ 65536) : Met l y_Tp_hasRoom w_Tp_hasRoom ({ frames := 0, cells := 0, slots := 0, locals := 0 }) (va_Pc [.ref aT] (PW G (dC, dI) [(kB, .byte)] [(aT, .inr (2, [.ref aB, .int (nI u), .int (nI en), .int (nI h), .int na, .int w, .int wa])), (aB, .inl (kB, 65536, .inl B))] sz)) (va_Qi (fun (r : Int32) (uu : Unit) => r = if u ≤ 65516 then 1 else 0) (fun (uu : Unit) t => BW (dC, dI) [(aT, .inr (2, [.ref aB, .int (nI u), .int (nI en), .int (nI h), .int na, .int w, .int wa])), (aB, .inl (kB, 65536, .inl B))] (va_A [(aT, .inr (2, [.ref aB, .int (nI u), .int (nI en), .int (nI h), .int na, .int w, .int wa])), (aB, .inl (kB, 65536, .inl B))] sz) sz t) (va_A [(aT, .inr (2, [.ref aB, .int (nI u), .int (nI en), .int (nI h), .int na, .int w, .int wa])), (aB, .inl (kB, 65536, .inl B))] sz)) 0 0 (va_A [(aT, .inr (2, [.ref aB, .int (nI u), .int (nI en), .int (nI h), .int na, .int w, .int wa])), (aB, .inl (kB, 65536, .inl B))] sz) := by
  refine Met.ofW (cc := prog_4_method_2_code) (maxL := 1) (ret := (some .boolean)) (by decide) rfl ?_
  intro p e s m args below meth c s₁ Bd hml hv
  obtain ⟨rfl, hsz, hP, hK, hD0, hE⟩ := hv
  have hx := Bd.exec
  have hb := Bd.bytes
  have hr := Bd.returns
  have hts := atoms_spec (ws := w_Tp_hasRoom) Bd.pre
  have hown : s.vm.findClass R_Tp = some m.cls := findClass_of_methodNamed Bd.named
  have hlocks := Bd.notSynchronized
  have hz : ∀ w ∈ ZW, w.before _ s = true := fun w h => hts w (List.mem_cons_of_mem _ h)
  subst hsz
  have hD := hD0.self (sz := s.heap.size)
  generalize hAe : va_A [(aT, .inr (2, [.ref aB, .int (nI u), .int (nI en), .int (nI h), .int na, .int w, .int wa])), (aB, .inl (kB, 65536, .inl B))] s.heap.size = A at hD hE ⊢
  have hA : ∀ q : Nat, s.heap.size ≤ q → A q := fun q h => by rw [← hAe]; exact Or.inr h
  have hS : va_S A s.heap s.heap [] := va_S.rf
  have hl := lv_entry ([.ref aT]) (n := 1) (Nat.le_of_ble_eq_true rfl)
  rw [lg_entry_eq]
  generalize (lg_sl ([.ref aT]) ++ List.replicate (1 - (lg_sl ([.ref aT])).length) Slot.unset).toArray = ls at hl ⊢
  have hl : lv_has ls 1 [(0, .ref aT)] := hl
  obtain ⟨H, hH⟩ : ∃ z, z = s.heap := ⟨_, rfl⟩
  have hP : va_P (dC, dI) vwCl [(aT, .inr (2, [.ref aB, .int (nI u), .int (nI en), .int (nI h), .int na, .int w, .int wa])), (aB, .inl (kB, 65536, .inl B))] H := by rw [hH]; exact hP
  have hS : va_S A s.heap H [] := by rw [hH]; exact hS
  refine zt_heap hH ?_
  refine lv_aload_n hx hb d_Tp_hasRoom_0 rfl (lv_at hl 0 rfl) ?_
  refine va_get (D := (dC, dI)) (ci := 2) (v := .int (nI u)) (C := R_Tp) (T := F_Tp) (N := 7) hx hb hz i_Tp hown hK hP 0 rfl rfl 1 (by decide) (hz _ tw_36) (fun _ h9 => h9) rfl d_Tp_hasRoom_1 ?_
  refine lv_ldc (v := 65516) hx hb hown (hz _ tw_109) d_Tp_hasRoom_4 ?_
  refine lv_icmp_gt (tgt := 13) hx hb d_Tp_hasRoom_6 (by decide) (fun c_1 => ?_) (fun c_1 => ?_)
  ·
    have c_1 : 65516 < u := (@nI_ltI 65516 u (by omega) (by omega)).mp c_1
    refine lv_iconst (v := 0) hx hb d_Tp_hasRoom_13 (by decide) ?_
    refine zt_size (fun hzs => ?_)
    have hP9 := hP.sub (ws' := [(aT, .inr (2, [.ref aB, .int (nI u), .int (nI en), .int (nI h), .int na, .int w, .int wa])), (aB, .inl (kB, 65536, .inl B))]) [0, 1] rfl
    have hD9 := hD.sub (ws' := [(aT, .inr (2, [.ref aB, .int (nI u), .int (nI en), .int (nI h), .int na, .int w, .int wa])), (aB, .inl (kB, 65536, .inl B))]) [0, 1] (by decide) rfl
    exact W.zret (v := 0) hx hb hr rfl (fun t ht hW => ⟨⟨0, (), rfl, by rw [if_neg (by omega)], by rw [ht]; exact hP9, hD9, by rw [ht]; exact hzs⟩, hS.F ht⟩) hS.2.2 d_Tp_hasRoom_14
  ·
    have c_1 : ¬ (65516 < u) := fun z => c_1 ((@nI_ltI 65516 u (by omega) (by omega)).mpr z)
    refine lv_iconst (v := 1) hx hb d_Tp_hasRoom_9 (by decide) ?_
    refine lv_goto (tgt := 14) hx hb d_Tp_hasRoom_10 (by decide) ?_
    refine zt_size (fun hzs => ?_)
    have hP9 := hP.sub (ws' := [(aT, .inr (2, [.ref aB, .int (nI u), .int (nI en), .int (nI h), .int na, .int w, .int wa])), (aB, .inl (kB, 65536, .inl B))]) [0, 1] rfl
    have hD9 := hD.sub (ws' := [(aT, .inr (2, [.ref aB, .int (nI u), .int (nI en), .int (nI h), .int na, .int w, .int wa])), (aB, .inl (kB, 65536, .inl B))]) [0, 1] (by decide) rfl
    exact W.zret (v := 1) hx hb hr rfl (fun t ht hW => ⟨⟨1, (), rfl, by rw [if_pos (by omega)], by rw [ht]; exact hP9, hD9, by rw [ht]; exact hzs⟩, hS.F ht⟩) hS.2.2 d_Tp_hasRoom_14
set_option maxHeartbeats 4000000 in
set_option maxRecDepth 100000 in
theorem c_Tp_cut (l : Launch) (G : ZG) (dC : Nat → ClassId) (dI : Nat → Nat → Nat) (sz : Nat) (aT : Nat) (aB : Nat) (u : Nat) (en : Nat) (h : Nat) (na : Int32) (w : Int32) (wa : Int32) (kB : ClassId) (B : Nat → Int32) (nn : Int32) (hu : u ≤ 65536) : Met l y_Tp_cut w_Tp_cut ({ frames := 0, cells := 0, slots := 0, locals := 0 }) (va_Pc [.ref aT, .int nn] (PW G (dC, dI) [(kB, .byte)] [(aT, .inr (2, [.ref aB, .int (nI u), .int (nI en), .int (nI h), .int na, .int w, .int wa])), (aB, .inl (kB, 65536, .inl B))] sz)) (va_Qi (fun (r : Int32) (uu : Nat) => (r = 1 ∧ uu ≤ u ∧ nn = nI uu) ∨ (r = 0 ∧ uu = u ∧ (nn < 0 ∨ nI u < nn))) (fun (uu : Nat) t => BW (dC, dI) [(aT, .inr (2, [.ref aB, .int (nI uu), .int (nI en), .int (nI h), .int na, .int w, .int wa])), (aB, .inl (kB, 65536, .inl B))] (va_A [(aT, .inr (2, [.ref aB, .int (nI u), .int (nI en), .int (nI h), .int na, .int w, .int wa])), (aB, .inl (kB, 65536, .inl B))] sz) sz t) (va_A [(aT, .inr (2, [.ref aB, .int (nI u), .int (nI en), .int (nI h), .int na, .int w, .int wa])), (aB, .inl (kB, 65536, .inl B))] sz)) 0 0 (va_A [(aT, .inr (2, [.ref aB, .int (nI u), .int (nI en), .int (nI h), .int na, .int w, .int wa])), (aB, .inl (kB, 65536, .inl B))] sz) := by
  refine Met.ofW (cc := prog_4_method_4_code) (maxL := 2) (ret := (some .boolean)) (by decide) rfl ?_
  intro p e s m args below meth c s₁ Bd hml hv
  obtain ⟨rfl, hsz, hP, hK, hD0, hE⟩ := hv
  have hx := Bd.exec
  have hb := Bd.bytes
  have hr := Bd.returns
  have hts := atoms_spec (ws := w_Tp_cut) Bd.pre
  have hown : s.vm.findClass R_Tp = some m.cls := findClass_of_methodNamed Bd.named
  have hlocks := Bd.notSynchronized
  have hz : ∀ w ∈ ZW, w.before _ s = true := fun w h => hts w (List.mem_cons_of_mem _ h)
  subst hsz
  have hD := hD0.self (sz := s.heap.size)
  generalize hAe : va_A [(aT, .inr (2, [.ref aB, .int (nI u), .int (nI en), .int (nI h), .int na, .int w, .int wa])), (aB, .inl (kB, 65536, .inl B))] s.heap.size = A at hD hE ⊢
  have hA : ∀ q : Nat, s.heap.size ≤ q → A q := fun q h => by rw [← hAe]; exact Or.inr h
  have hS : va_S A s.heap s.heap [] := va_S.rf
  have hl := lv_entry ([.ref aT, .int nn]) (n := 2) (Nat.le_of_ble_eq_true rfl)
  rw [lg_entry_eq]
  generalize (lg_sl ([.ref aT, .int nn]) ++ List.replicate (2 - (lg_sl ([.ref aT, .int nn])).length) Slot.unset).toArray = ls at hl ⊢
  have hl : lv_has ls 2 [(0, .ref aT), (1, .int nn)] := hl
  obtain ⟨H, hH⟩ : ∃ z, z = s.heap := ⟨_, rfl⟩
  have hP : va_P (dC, dI) vwCl [(aT, .inr (2, [.ref aB, .int (nI u), .int (nI en), .int (nI h), .int na, .int w, .int wa])), (aB, .inl (kB, 65536, .inl B))] H := by rw [hH]; exact hP
  have hS : va_S A s.heap H [] := by rw [hH]; exact hS
  refine zt_heap hH ?_
  refine lv_iload_n hx hb d_Tp_cut_0 rfl (lv_at hl 1 rfl) ?_
  refine lv_if_lt (tgt := 12) hx hb d_Tp_cut_1 (by decide) (fun c_1 => ?_) (fun c_1 => ?_)
  ·
    refine lv_iconst (v := 0) hx hb d_Tp_cut_12 (by decide) ?_
    refine zt_size (fun hzs => ?_)
    have hP9 := hP.sub (ws' := [(aT, .inr (2, [.ref aB, .int (nI u), .int (nI en), .int (nI h), .int na, .int w, .int wa])), (aB, .inl (kB, 65536, .inl B))]) [0, 1] rfl
    have hD9 := hD.sub (ws' := [(aT, .inr (2, [.ref aB, .int (nI u), .int (nI en), .int (nI h), .int na, .int w, .int wa])), (aB, .inl (kB, 65536, .inl B))]) [0, 1] (by decide) rfl
    exact W.zret (v := 0) hx hb hr rfl (fun t ht hW => ⟨⟨0, u, rfl, Or.inr ⟨rfl, rfl, Or.inl c_1⟩, by rw [ht]; exact hP9, hD9, by rw [ht]; exact hzs⟩, hS.F ht⟩) hS.2.2 d_Tp_cut_13
  ·
    refine lv_iload_n hx hb d_Tp_cut_4 rfl (lv_at hl 1 rfl) ?_
    refine lv_aload_n hx hb d_Tp_cut_5 rfl (lv_at hl 0 rfl) ?_
    refine va_get (D := (dC, dI)) (ci := 2) (v := .int (nI u)) (C := R_Tp) (T := F_Tp) (N := 7) hx hb hz i_Tp hown hK hP 0 rfl rfl 1 (by decide) (hz _ tw_36) (fun _ h9 => h9) rfl d_Tp_cut_6 ?_
    refine lv_icmp_le (tgt := 14) hx hb d_Tp_cut_9 (by decide) (fun c_2 => ?_) (fun c_2 => ?_)
    ·
      obtain ⟨j, hj, rfl⟩ := nI_of c_1
      have hju : j ≤ u := (nI_leI hj (by omega)).mp c_2
      refine lv_aload_n hx hb d_Tp_cut_14 rfl (lv_at hl 0 rfl) ?_
      refine lv_iload_n hx hb d_Tp_cut_15 rfl (lv_at hl 1 rfl) ?_
      refine va_put (D := (dC, dI)) (ci := 2) (v := .int (nI j)) (ty := .int) (C := R_Tp) (T := F_Tp) (N := 7) hx hb hz i_Tp t_Tp t_Tp_ok n_Tp hown hK hP hD hS 0 rfl rfl 1 (by decide) (hz _ tw_36) (fun _ h9 => h9) rfl (by decide +kernel) rfl rfl (Nat.le_of_ble_eq_true rfl) d_Tp_cut_16 (fun H locs hP hD hS => ?_)
      have hP : va_P (dC, dI) vwCl [(aT, .inr (2, [.ref aB, .int (nI j), .int (nI en), .int (nI h), .int na, .int w, .int wa])), (aB, .inl (kB, 65536, .inl B))] H := hP
      have hD : va_D A [(aT, .inr (2, [.ref aB, .int (nI j), .int (nI en), .int (nI h), .int na, .int w, .int wa])), (aB, .inl (kB, 65536, .inl B))] := hD
      refine lv_iconst (v := 1) hx hb d_Tp_cut_19 (by decide) ?_
      refine zt_size (fun hzs => ?_)
      have hP9 := hP.sub (ws' := [(aT, .inr (2, [.ref aB, .int (nI j), .int (nI en), .int (nI h), .int na, .int w, .int wa])), (aB, .inl (kB, 65536, .inl B))]) [0, 1] rfl
      have hD9 := hD.sub (ws' := [(aT, .inr (2, [.ref aB, .int (nI j), .int (nI en), .int (nI h), .int na, .int w, .int wa])), (aB, .inl (kB, 65536, .inl B))]) [0, 1] (by decide) rfl
      exact W.zret (v := 1) hx hb hr rfl (fun t ht hW => ⟨⟨1, j, rfl, Or.inl ⟨rfl, hju, rfl⟩, by rw [ht]; exact hP9, hD9, by rw [ht]; exact hzs⟩, hS.F ht⟩) hS.2.2 d_Tp_cut_20
    ·
      refine lv_iconst (v := 0) hx hb d_Tp_cut_12 (by decide) ?_
      refine zt_size (fun hzs => ?_)
      have hP9 := hP.sub (ws' := [(aT, .inr (2, [.ref aB, .int (nI u), .int (nI en), .int (nI h), .int na, .int w, .int wa])), (aB, .inl (kB, 65536, .inl B))]) [0, 1] rfl
      have hD9 := hD.sub (ws' := [(aT, .inr (2, [.ref aB, .int (nI u), .int (nI en), .int (nI h), .int na, .int w, .int wa])), (aB, .inl (kB, 65536, .inl B))]) [0, 1] (by decide) rfl
      exact W.zret (v := 0) hx hb hr rfl (fun t ht hW => ⟨⟨0, u, rfl, Or.inr ⟨rfl, rfl, Or.inr (by first | exact c_2 | exact Int32.not_le.mp c_2)⟩, by rw [ht]; exact hP9, hD9, by rw [ht]; exact hzs⟩, hS.F ht⟩) hS.2.2 d_Tp_cut_13
set_option maxHeartbeats 4000000 in
set_option maxRecDepth 100000 in
theorem c_Tp_sees (l : Launch) (G : ZG) (dC : Nat → ClassId) (dI : Nat → Nat → Nat) (sz : Nat) (aT : Nat) (aB : Nat) (u : Nat) (en : Nat) (h : Nat) (na : Int32) (w : Int32) (wa : Int32) (kB : ClassId) (B : Nat → Int32) (mk : Int32) (hen : en ≤ 65536) (hh : h ≤ en) : Met l y_Tp_sees w_Tp_sees ({ frames := 0, cells := 0, slots := 0, locals := 0 }) (va_Pc [.ref aT, .int mk] (PW G (dC, dI) [(kB, .byte)] [(aT, .inr (2, [.ref aB, .int (nI u), .int (nI en), .int (nI h), .int na, .int w, .int wa])), (aB, .inl (kB, 65536, .inl B))] sz)) (va_Qi (fun (r : Int32) (uu : Unit) => r = if h < en ∧ B h = mk then 1 else 0) (fun (uu : Unit) t => BW (dC, dI) [(aT, .inr (2, [.ref aB, .int (nI u), .int (nI en), .int (nI h), .int na, .int w, .int wa])), (aB, .inl (kB, 65536, .inl B))] (va_A [(aT, .inr (2, [.ref aB, .int (nI u), .int (nI en), .int (nI h), .int na, .int w, .int wa])), (aB, .inl (kB, 65536, .inl B))] sz) sz t) (va_A [(aT, .inr (2, [.ref aB, .int (nI u), .int (nI en), .int (nI h), .int na, .int w, .int wa])), (aB, .inl (kB, 65536, .inl B))] sz)) 0 0 (va_A [(aT, .inr (2, [.ref aB, .int (nI u), .int (nI en), .int (nI h), .int na, .int w, .int wa])), (aB, .inl (kB, 65536, .inl B))] sz) := by
  refine Met.ofW (cc := prog_4_method_8_code) (maxL := 2) (ret := (some .boolean)) (by decide) rfl ?_
  intro p e s m args below meth c s₁ Bd hml hv
  obtain ⟨rfl, hsz, hP, hK, hD0, hE⟩ := hv
  have hx := Bd.exec
  have hb := Bd.bytes
  have hr := Bd.returns
  have hts := atoms_spec (ws := w_Tp_sees) Bd.pre
  have hown : s.vm.findClass R_Tp = some m.cls := findClass_of_methodNamed Bd.named
  have hlocks := Bd.notSynchronized
  have hz : ∀ w ∈ ZW, w.before _ s = true := fun w h => hts w (List.mem_cons_of_mem _ h)
  subst hsz
  have hD := hD0.self (sz := s.heap.size)
  generalize hAe : va_A [(aT, .inr (2, [.ref aB, .int (nI u), .int (nI en), .int (nI h), .int na, .int w, .int wa])), (aB, .inl (kB, 65536, .inl B))] s.heap.size = A at hD hE ⊢
  have hA : ∀ q : Nat, s.heap.size ≤ q → A q := fun q h => by rw [← hAe]; exact Or.inr h
  have hS : va_S A s.heap s.heap [] := va_S.rf
  have hl := lv_entry ([.ref aT, .int mk]) (n := 2) (Nat.le_of_ble_eq_true rfl)
  rw [lg_entry_eq]
  generalize (lg_sl ([.ref aT, .int mk]) ++ List.replicate (2 - (lg_sl ([.ref aT, .int mk])).length) Slot.unset).toArray = ls at hl ⊢
  have hl : lv_has ls 2 [(0, .ref aT), (1, .int mk)] := hl
  obtain ⟨H, hH⟩ : ∃ z, z = s.heap := ⟨_, rfl⟩
  have hP : va_P (dC, dI) vwCl [(aT, .inr (2, [.ref aB, .int (nI u), .int (nI en), .int (nI h), .int na, .int w, .int wa])), (aB, .inl (kB, 65536, .inl B))] H := by rw [hH]; exact hP
  have hS : va_S A s.heap H [] := by rw [hH]; exact hS
  refine zt_heap hH ?_
  refine lv_aload_n hx hb d_Tp_sees_0 rfl (lv_at hl 0 rfl) ?_
  refine va_get (D := (dC, dI)) (ci := 2) (v := .int (nI h)) (C := R_Tp) (T := F_Tp) (N := 7) hx hb hz i_Tp hown hK hP 0 rfl rfl 3 (by decide) (hz _ tw_39) (fun _ h9 => h9) rfl d_Tp_sees_1 ?_
  refine lv_aload_n hx hb d_Tp_sees_4 rfl (lv_at hl 0 rfl) ?_
  refine va_get (D := (dC, dI)) (ci := 2) (v := .int (nI en)) (C := R_Tp) (T := F_Tp) (N := 7) hx hb hz i_Tp hown hK hP 0 rfl rfl 2 (by decide) (hz _ tw_38) (fun _ h9 => h9) rfl d_Tp_sees_5 ?_
  refine lv_icmp_ge (tgt := 28) hx hb d_Tp_sees_8 (by decide) (fun c_1 => ?_) (fun c_1 => ?_)
  ·
    have c_1 : en ≤ h := (@nI_leI en h (by omega) (by omega)).mp c_1
    refine lv_iconst (v := 0) hx hb d_Tp_sees_28 (by decide) ?_
    refine zt_size (fun hzs => ?_)
    have hP9 := hP.sub (ws' := [(aT, .inr (2, [.ref aB, .int (nI u), .int (nI en), .int (nI h), .int na, .int w, .int wa])), (aB, .inl (kB, 65536, .inl B))]) [0, 1] rfl
    have hD9 := hD.sub (ws' := [(aT, .inr (2, [.ref aB, .int (nI u), .int (nI en), .int (nI h), .int na, .int w, .int wa])), (aB, .inl (kB, 65536, .inl B))]) [0, 1] (by decide) rfl
    exact W.zret (v := 0) hx hb hr rfl (fun t ht hW => ⟨⟨0, (), rfl, by rw [if_neg (fun z => absurd z.1 (by omega))], by rw [ht]; exact hP9, hD9, by rw [ht]; exact hzs⟩, hS.F ht⟩) hS.2.2 d_Tp_sees_29
  ·
    have c_1 : ¬ (en ≤ h) := fun z => c_1 ((@nI_leI en h (by omega) (by omega)).mpr z)
    refine lv_aload_n hx hb d_Tp_sees_11 rfl (lv_at hl 0 rfl) ?_
    refine va_get (D := (dC, dI)) (ci := 2) (v := .ref aB) (C := R_Tp) (T := F_Tp) (N := 7) hx hb hz i_Tp hown hK hP 0 rfl rfl 0 (by decide) (hz _ tw_35) (fun _ h9 => h9) rfl d_Tp_sees_12 ?_
    refine lv_aload_n hx hb d_Tp_sees_15 rfl (lv_at hl 0 rfl) ?_
    refine va_get (D := (dC, dI)) (ci := 2) (v := .int (nI h)) (C := R_Tp) (T := F_Tp) (N := 7) hx hb hz i_Tp hown hK hP 0 rfl rfl 3 (by decide) (hz _ tw_39) (fun _ h9 => h9) rfl d_Tp_sees_16 ?_
    refine va_bald (D := (dC, dI)) (i := nI h) hx hb hK hP 1 0 rfl rfl (vp_in_nI (by omega) (by decide)) d_Tp_sees_19 ?_
    refine zt_top (by rw [nI_clamp (by omega)]) ?_
    refine lv_iload_n hx hb d_Tp_sees_20 rfl (lv_at hl 1 rfl) ?_
    refine lv_icmp_ne (tgt := 28) hx hb d_Tp_sees_21 (by decide) (fun c_2 => ?_) (fun c_2 => ?_)
    ·
      refine lv_iconst (v := 0) hx hb d_Tp_sees_28 (by decide) ?_
      refine zt_size (fun hzs => ?_)
      have hP9 := hP.sub (ws' := [(aT, .inr (2, [.ref aB, .int (nI u), .int (nI en), .int (nI h), .int na, .int w, .int wa])), (aB, .inl (kB, 65536, .inl B))]) [0, 1] rfl
      have hD9 := hD.sub (ws' := [(aT, .inr (2, [.ref aB, .int (nI u), .int (nI en), .int (nI h), .int na, .int w, .int wa])), (aB, .inl (kB, 65536, .inl B))]) [0, 1] (by decide) rfl
      exact W.zret (v := 0) hx hb hr rfl (fun t ht hW => ⟨⟨0, (), rfl, by rw [if_neg (fun z => c_2 z.2)], by rw [ht]; exact hP9, hD9, by rw [ht]; exact hzs⟩, hS.F ht⟩) hS.2.2 d_Tp_sees_29
    ·
      refine lv_iconst (v := 1) hx hb d_Tp_sees_24 (by decide) ?_
      refine lv_goto (tgt := 29) hx hb d_Tp_sees_25 (by decide) ?_
      refine zt_size (fun hzs => ?_)
      have hP9 := hP.sub (ws' := [(aT, .inr (2, [.ref aB, .int (nI u), .int (nI en), .int (nI h), .int na, .int w, .int wa])), (aB, .inl (kB, 65536, .inl B))]) [0, 1] rfl
      have hD9 := hD.sub (ws' := [(aT, .inr (2, [.ref aB, .int (nI u), .int (nI en), .int (nI h), .int na, .int w, .int wa])), (aB, .inl (kB, 65536, .inl B))]) [0, 1] (by decide) rfl
      exact W.zret (v := 1) hx hb hr rfl (fun t ht hW => ⟨⟨1, (), rfl, by rw [if_pos ⟨by omega, c_2⟩], by rw [ht]; exact hP9, hD9, by rw [ht]; exact hzs⟩, hS.F ht⟩) hS.2.2 d_Tp_sees_29
