set_option maxHeartbeats 4000000 in
set_option maxRecDepth 100000 in
theorem c_Md_count (l : Launch) (G : ZG) (dC : Nat → ClassId) (dI : Nat → Nat → Nat) (sz : Nat) (aM : Nat) (th : Int32) (aMT : Nat) (mu : Nat) (aNw : Nat) (aNx : Nat) (mw : Int32) (mwa : Int32) (ma : Nat) (en : Nat) (mv : Int64) (mf : Int32) (ml : Int32) (kNw : ClassId) (nw : Nat → Int32) (qi : Int32) : Met l y_Md_count w_Md_count ({ frames := 0, cells := 0, slots := 0, locals := 0 }) (va_Pc [.ref aM, .int qi] (PW G (dC, dI) [(kNw, .int)] [(aM, .inr (4, [.int th, .ref aMT, .int (nI mu), .ref aNw, .ref aNx, .int mw, .int mwa, .int (nI ma), .int (nI en), .long mv, .int mf, .int ml])), (aNw, .inl (kNw, 52650, .inl nw))] sz)) (va_Qi (fun (r : Int32) (uu : Int32) => uu = 0 ∧ r = if zIn qi 5 then nw qi.toNatClampNeg else -1) (fun (uu : Int32) t => BW (dC, dI) [(aM, .inr (4, [.int uu, .ref aMT, .int (nI mu), .ref aNw, .ref aNx, .int mw, .int mwa, .int (nI ma), .int (nI en), .long mv, .int mf, .int ml])), (aNw, .inl (kNw, 52650, .inl nw))] (va_A [(aM, .inr (4, [.int th, .ref aMT, .int (nI mu), .ref aNw, .ref aNx, .int mw, .int mwa, .int (nI ma), .int (nI en), .long mv, .int mf, .int ml])), (aNw, .inl (kNw, 52650, .inl nw))] sz) sz t) (va_A [(aM, .inr (4, [.int th, .ref aMT, .int (nI mu), .ref aNw, .ref aNx, .int mw, .int mwa, .int (nI ma), .int (nI en), .long mv, .int mf, .int ml])), (aNw, .inl (kNw, 52650, .inl nw))] sz)) 0 0 (va_A [(aM, .inr (4, [.int th, .ref aMT, .int (nI mu), .ref aNw, .ref aNx, .int mw, .int mwa, .int (nI ma), .int (nI en), .long mv, .int mf, .int ml])), (aNw, .inl (kNw, 52650, .inl nw))] sz) := by
  refine Met.ofW (cc := prog_6_method_34_code) (maxL := 2) (ret := (some .int)) (by decide) rfl ?_
  intro p e s m args below meth c s₁ Bd hml hv
  obtain ⟨rfl, hsz, hP, hK, hD0, hE⟩ := hv
  have hx := Bd.exec
  have hb := Bd.bytes
  have hr := Bd.returns
  have hts := atoms_spec (ws := w_Md_count) Bd.pre
  have hown : s.vm.findClass R_Md = some m.cls := findClass_of_methodNamed Bd.named
  have hlocks := Bd.notSynchronized
  have hz : ∀ w ∈ ZW, w.before _ s = true := fun w h => hts w (List.mem_cons_of_mem _ h)
  subst hsz
  have hD := hD0.self (sz := s.heap.size)
  generalize hAe : va_A [(aM, .inr (4, [.int th, .ref aMT, .int (nI mu), .ref aNw, .ref aNx, .int mw, .int mwa, .int (nI ma), .int (nI en), .long mv, .int mf, .int ml])), (aNw, .inl (kNw, 52650, .inl nw))] s.heap.size = A at hD hE ⊢
  have hA : ∀ q : Nat, s.heap.size ≤ q → A q := fun q h => by rw [← hAe]; exact Or.inr h
  have hS : va_S A s.heap s.heap [] := va_S.rf
  have hl := lv_entry ([.ref aM, .int qi]) (n := 2) (Nat.le_of_ble_eq_true rfl)
  rw [lg_entry_eq]
  generalize (lg_sl ([.ref aM, .int qi]) ++ List.replicate (2 - (lg_sl ([.ref aM, .int qi])).length) Slot.unset).toArray = ls at hl ⊢
  have hl : lv_has ls 2 [(0, .ref aM), (1, .int qi)] := hl
  obtain ⟨H, hH⟩ : ∃ z, z = s.heap := ⟨_, rfl⟩
  have hP : va_P (dC, dI) vwCl [(aM, .inr (4, [.int th, .ref aMT, .int (nI mu), .ref aNw, .ref aNx, .int mw, .int mwa, .int (nI ma), .int (nI en), .long mv, .int mf, .int ml])), (aNw, .inl (kNw, 52650, .inl nw))] H := by rw [hH]; exact hP
  have hS : va_S A s.heap H [] := by rw [hH]; exact hS
  refine zt_heap hH ?_
  by_cases hki : zIn qi 5
  ·
    obtain ⟨qj, hqj, rfl⟩ := zIn_of (by decide) hki
    refine lv_aload_n hx hb d_Md_count_0 rfl (lv_at hl 0 rfl) ?_
    refine lv_iconst (v := 0) hx hb d_Md_count_1 (by decide) ?_
    refine va_put (D := (dC, dI)) (ci := 4) (v := .int 0) (ty := .int) (C := R_Md) (T := F_Md) (N := 12) hx hb hz i_Md t_Md t_Md_ok n_Md hown hK hP hD hS 0 rfl rfl 0 (by decide) (hz _ tw_476) (fun _ h9 => h9) rfl (by decide +kernel) rfl rfl (Nat.le_of_ble_eq_true rfl) d_Md_count_2 (fun H locs hP hD hS => ?_)
    have hP : va_P (dC, dI) vwCl [(aM, .inr (4, [.int 0, .ref aMT, .int (nI mu), .ref aNw, .ref aNx, .int mw, .int mwa, .int (nI ma), .int (nI en), .long mv, .int mf, .int ml])), (aNw, .inl (kNw, 52650, .inl nw))] H := hP
    have hD : va_D A [(aM, .inr (4, [.int 0, .ref aMT, .int (nI mu), .ref aNw, .ref aNx, .int mw, .int mwa, .int (nI ma), .int (nI en), .long mv, .int mf, .int ml])), (aNw, .inl (kNw, 52650, .inl nw))] := hD
    refine lv_iload_n hx hb d_Md_count_5 rfl (lv_at hl 1 rfl) ?_
    refine lv_if_lt (tgt := 23) hx hb d_Md_count_6 (by decide) (fun c_1 => ?_) (fun c_1 => ?_)
    ·
      exact absurd c_1 (nI_pos (by omega))
    ·
      refine lv_iload_n hx hb d_Md_count_9 rfl (lv_at hl 1 rfl) ?_
      refine lv_iconst (v := 5) hx hb d_Md_count_10 (by decide) ?_
      refine lv_icmp_ge (tgt := 23) hx hb d_Md_count_11 (by decide) (fun c_2 => ?_) (fun c_2 => ?_)
      ·
        exact absurd c_2 (nI_ge (a := qj) (b := 5) hqj (by decide))
      ·
        refine lv_aload_n hx hb d_Md_count_14 rfl (lv_at hl 0 rfl) ?_
        refine va_get (D := (dC, dI)) (ci := 4) (v := .ref aNw) (C := R_Md) (T := F_Md) (N := 12) hx hb hz i_Md hown hK hP 0 rfl rfl 3 (by decide) (hz _ tw_479) (fun _ h9 => h9) rfl d_Md_count_15 ?_
        refine lv_iload_n hx hb d_Md_count_18 rfl (lv_at hl 1 rfl) ?_
        refine va_iald (D := (dC, dI)) (i := nI qj) hx hb hK hP 1 0 rfl rfl (vp_in_nI (by omega) (by decide)) d_Md_count_19 ?_
        refine zt_top (by rw [nI_clamp (by omega)]) ?_
        refine lv_goto (tgt := 24) hx hb d_Md_count_20 (by decide) ?_
        refine zt_size (fun hzs => ?_)
        have hP9 := hP.sub (ws' := [(aM, .inr (4, [.int 0, .ref aMT, .int (nI mu), .ref aNw, .ref aNx, .int mw, .int mwa, .int (nI ma), .int (nI en), .long mv, .int mf, .int ml])), (aNw, .inl (kNw, 52650, .inl nw))]) [0, 1] rfl
        have hD9 := hD.sub (ws' := [(aM, .inr (4, [.int 0, .ref aMT, .int (nI mu), .ref aNw, .ref aNx, .int mw, .int mwa, .int (nI ma), .int (nI en), .long mv, .int mf, .int ml])), (aNw, .inl (kNw, 52650, .inl nw))]) [0, 1] (by decide) rfl
        exact W.iret (v := nw qj) hx hb hr (fun t ht hW => ⟨⟨nw qj, 0, rfl, ⟨rfl, by rw [if_pos hki, nI_clamp (by omega)]⟩, by rw [ht]; exact hP9, hD9, by rw [ht]; exact hzs⟩, hS.F ht⟩) hS.2.2 d_Md_count_24
  ·
    refine lv_aload_n hx hb d_Md_count_0 rfl (lv_at hl 0 rfl) ?_
    refine lv_iconst (v := 0) hx hb d_Md_count_1 (by decide) ?_
    refine va_put (D := (dC, dI)) (ci := 4) (v := .int 0) (ty := .int) (C := R_Md) (T := F_Md) (N := 12) hx hb hz i_Md t_Md t_Md_ok n_Md hown hK hP hD hS 0 rfl rfl 0 (by decide) (hz _ tw_476) (fun _ h9 => h9) rfl (by decide +kernel) rfl rfl (Nat.le_of_ble_eq_true rfl) d_Md_count_2 (fun H locs hP hD hS => ?_)
    have hP : va_P (dC, dI) vwCl [(aM, .inr (4, [.int 0, .ref aMT, .int (nI mu), .ref aNw, .ref aNx, .int mw, .int mwa, .int (nI ma), .int (nI en), .long mv, .int mf, .int ml])), (aNw, .inl (kNw, 52650, .inl nw))] H := hP
    have hD : va_D A [(aM, .inr (4, [.int 0, .ref aMT, .int (nI mu), .ref aNw, .ref aNx, .int mw, .int mwa, .int (nI ma), .int (nI en), .long mv, .int mf, .int ml])), (aNw, .inl (kNw, 52650, .inl nw))] := hD
    refine lv_iload_n hx hb d_Md_count_5 rfl (lv_at hl 1 rfl) ?_
    refine lv_if_lt (tgt := 23) hx hb d_Md_count_6 (by decide) (fun c_3 => ?_) (fun c_3 => ?_)
    ·
      refine lv_iconst (v := -1) hx hb d_Md_count_23 (by decide) ?_
      refine zt_size (fun hzs => ?_)
      have hP9 := hP.sub (ws' := [(aM, .inr (4, [.int 0, .ref aMT, .int (nI mu), .ref aNw, .ref aNx, .int mw, .int mwa, .int (nI ma), .int (nI en), .long mv, .int mf, .int ml])), (aNw, .inl (kNw, 52650, .inl nw))]) [0, 1] rfl
      have hD9 := hD.sub (ws' := [(aM, .inr (4, [.int 0, .ref aMT, .int (nI mu), .ref aNw, .ref aNx, .int mw, .int mwa, .int (nI ma), .int (nI en), .long mv, .int mf, .int ml])), (aNw, .inl (kNw, 52650, .inl nw))]) [0, 1] (by decide) rfl
      exact W.iret (v := (-1)) hx hb hr (fun t ht hW => ⟨⟨(-1), 0, rfl, ⟨rfl, by rw [if_neg hki]⟩, by rw [ht]; exact hP9, hD9, by rw [ht]; exact hzs⟩, hS.F ht⟩) hS.2.2 d_Md_count_24
    ·
      refine lv_iload_n hx hb d_Md_count_9 rfl (lv_at hl 1 rfl) ?_
      refine lv_iconst (v := 5) hx hb d_Md_count_10 (by decide) ?_
      refine lv_icmp_ge (tgt := 23) hx hb d_Md_count_11 (by decide) (fun c_4 => ?_) (fun c_4 => ?_)
      ·
        refine lv_iconst (v := -1) hx hb d_Md_count_23 (by decide) ?_
        refine zt_size (fun hzs => ?_)
        have hP9 := hP.sub (ws' := [(aM, .inr (4, [.int 0, .ref aMT, .int (nI mu), .ref aNw, .ref aNx, .int mw, .int mwa, .int (nI ma), .int (nI en), .long mv, .int mf, .int ml])), (aNw, .inl (kNw, 52650, .inl nw))]) [0, 1] rfl
        have hD9 := hD.sub (ws' := [(aM, .inr (4, [.int 0, .ref aMT, .int (nI mu), .ref aNw, .ref aNx, .int mw, .int mwa, .int (nI ma), .int (nI en), .long mv, .int mf, .int ml])), (aNw, .inl (kNw, 52650, .inl nw))]) [0, 1] (by decide) rfl
        exact W.iret (v := (-1)) hx hb hr (fun t ht hW => ⟨⟨(-1), 0, rfl, ⟨rfl, by rw [if_neg hki]⟩, by rw [ht]; exact hP9, hD9, by rw [ht]; exact hzs⟩, hS.F ht⟩) hS.2.2 d_Md_count_24
      ·
        exact absurd (Int32.not_lt.mp (fun z => hki ⟨c_3, z⟩)) c_4
set_option maxHeartbeats 4000000 in
set_option maxRecDepth 100000 in
theorem c_Md_view (l : Launch) (G : ZG) (dC : Nat → ClassId) (dI : Nat → Nat → Nat) (sz : Nat) (aM : Nat) (th : Int32) (aMT : Nat) (mu : Nat) (aNw : Nat) (aNx : Nat) (mw : Int32) (mwa : Int32) (ma : Nat) (en : Nat) (mv : Int64) (mf : Int32) (ml : Int32) (kNw : ClassId) (nw : Nat → Int32) (qi : Int32) : Met l y_Md_view w_Md_view ({ frames := 0, cells := 0, slots := 0, locals := 0 }) (va_Pc [.ref aM, .int qi] (PW G (dC, dI) [(kNw, .int)] [(aM, .inr (4, [.int th, .ref aMT, .int (nI mu), .ref aNw, .ref aNx, .int mw, .int mwa, .int (nI ma), .int (nI en), .long mv, .int mf, .int ml])), (aNw, .inl (kNw, 52650, .inl nw))] sz)) (va_Qi (fun (r : Int32) (uu : Int32) => uu = 0 ∧ r = if zIn qi 11 then nw (52632 + qi.toNatClampNeg) else 0) (fun (uu : Int32) t => BW (dC, dI) [(aM, .inr (4, [.int uu, .ref aMT, .int (nI mu), .ref aNw, .ref aNx, .int mw, .int mwa, .int (nI ma), .int (nI en), .long mv, .int mf, .int ml])), (aNw, .inl (kNw, 52650, .inl nw))] (va_A [(aM, .inr (4, [.int th, .ref aMT, .int (nI mu), .ref aNw, .ref aNx, .int mw, .int mwa, .int (nI ma), .int (nI en), .long mv, .int mf, .int ml])), (aNw, .inl (kNw, 52650, .inl nw))] sz) sz t) (va_A [(aM, .inr (4, [.int th, .ref aMT, .int (nI mu), .ref aNw, .ref aNx, .int mw, .int mwa, .int (nI ma), .int (nI en), .long mv, .int mf, .int ml])), (aNw, .inl (kNw, 52650, .inl nw))] sz)) 0 0 (va_A [(aM, .inr (4, [.int th, .ref aMT, .int (nI mu), .ref aNw, .ref aNx, .int mw, .int mwa, .int (nI ma), .int (nI en), .long mv, .int mf, .int ml])), (aNw, .inl (kNw, 52650, .inl nw))] sz) := by
  refine Met.ofW (cc := prog_6_method_38_code) (maxL := 2) (ret := (some .int)) (by decide) rfl ?_
  intro p e s m args below meth c s₁ Bd hml hv
  obtain ⟨rfl, hsz, hP, hK, hD0, hE⟩ := hv
  have hx := Bd.exec
  have hb := Bd.bytes
  have hr := Bd.returns
  have hts := atoms_spec (ws := w_Md_view) Bd.pre
  have hown : s.vm.findClass R_Md = some m.cls := findClass_of_methodNamed Bd.named
  have hlocks := Bd.notSynchronized
  have hz : ∀ w ∈ ZW, w.before _ s = true := fun w h => hts w (List.mem_cons_of_mem _ h)
  subst hsz
  have hD := hD0.self (sz := s.heap.size)
  generalize hAe : va_A [(aM, .inr (4, [.int th, .ref aMT, .int (nI mu), .ref aNw, .ref aNx, .int mw, .int mwa, .int (nI ma), .int (nI en), .long mv, .int mf, .int ml])), (aNw, .inl (kNw, 52650, .inl nw))] s.heap.size = A at hD hE ⊢
  have hA : ∀ q : Nat, s.heap.size ≤ q → A q := fun q h => by rw [← hAe]; exact Or.inr h
  have hS : va_S A s.heap s.heap [] := va_S.rf
  have hl := lv_entry ([.ref aM, .int qi]) (n := 2) (Nat.le_of_ble_eq_true rfl)
  rw [lg_entry_eq]
  generalize (lg_sl ([.ref aM, .int qi]) ++ List.replicate (2 - (lg_sl ([.ref aM, .int qi])).length) Slot.unset).toArray = ls at hl ⊢
  have hl : lv_has ls 2 [(0, .ref aM), (1, .int qi)] := hl
  obtain ⟨H, hH⟩ : ∃ z, z = s.heap := ⟨_, rfl⟩
  have hP : va_P (dC, dI) vwCl [(aM, .inr (4, [.int th, .ref aMT, .int (nI mu), .ref aNw, .ref aNx, .int mw, .int mwa, .int (nI ma), .int (nI en), .long mv, .int mf, .int ml])), (aNw, .inl (kNw, 52650, .inl nw))] H := by rw [hH]; exact hP
  have hS : va_S A s.heap H [] := by rw [hH]; exact hS
  refine zt_heap hH ?_
  by_cases hki : zIn qi 11
  ·
    obtain ⟨qj, hqj, rfl⟩ := zIn_of (by decide) hki
    refine lv_aload_n hx hb d_Md_view_0 rfl (lv_at hl 0 rfl) ?_
    refine lv_iconst (v := 0) hx hb d_Md_view_1 (by decide) ?_
    refine va_put (D := (dC, dI)) (ci := 4) (v := .int 0) (ty := .int) (C := R_Md) (T := F_Md) (N := 12) hx hb hz i_Md t_Md t_Md_ok n_Md hown hK hP hD hS 0 rfl rfl 0 (by decide) (hz _ tw_476) (fun _ h9 => h9) rfl (by decide +kernel) rfl rfl (Nat.le_of_ble_eq_true rfl) d_Md_view_2 (fun H locs hP hD hS => ?_)
    have hP : va_P (dC, dI) vwCl [(aM, .inr (4, [.int 0, .ref aMT, .int (nI mu), .ref aNw, .ref aNx, .int mw, .int mwa, .int (nI ma), .int (nI en), .long mv, .int mf, .int ml])), (aNw, .inl (kNw, 52650, .inl nw))] H := hP
    have hD : va_D A [(aM, .inr (4, [.int 0, .ref aMT, .int (nI mu), .ref aNw, .ref aNx, .int mw, .int mwa, .int (nI ma), .int (nI en), .long mv, .int mf, .int ml])), (aNw, .inl (kNw, 52650, .inl nw))] := hD
    refine lv_iload_n hx hb d_Md_view_5 rfl (lv_at hl 1 rfl) ?_
    refine lv_if_lt (tgt := 27) hx hb d_Md_view_6 (by decide) (fun c_1 => ?_) (fun c_1 => ?_)
    ·
      exact absurd c_1 (nI_pos (by omega))
    ·
      refine lv_iload_n hx hb d_Md_view_9 rfl (lv_at hl 1 rfl) ?_
      refine lv_bipush (v := 11) hx hb d_Md_view_10 (by decide) ?_
      refine lv_icmp_ge (tgt := 27) hx hb d_Md_view_12 (by decide) (fun c_2 => ?_) (fun c_2 => ?_)
      ·
        exact absurd c_2 (nI_ge (a := qj) (b := 11) hqj (by decide))
      ·
        refine lv_aload_n hx hb d_Md_view_15 rfl (lv_at hl 0 rfl) ?_
        refine va_get (D := (dC, dI)) (ci := 4) (v := .ref aNw) (C := R_Md) (T := F_Md) (N := 12) hx hb hz i_Md hown hK hP 0 rfl rfl 3 (by decide) (hz _ tw_479) (fun _ h9 => h9) rfl d_Md_view_16 ?_
        refine lv_ldc (v := 52632) hx hb hown (hz _ tw_586) d_Md_view_19 ?_
        refine lv_iload_n hx hb d_Md_view_21 rfl (lv_at hl 1 rfl) ?_
        refine lv_iadd hx hb d_Md_view_22 ?_
        refine zt_top (nI_add 52632 qj) ?_
        refine va_iald (D := (dC, dI)) (i := nI (52632 + qj)) hx hb hK hP 1 0 rfl rfl (vp_in_nI (by omega) (by decide)) d_Md_view_23 ?_
        refine zt_top (by rw [nI_clamp (by omega)]) ?_
        refine lv_goto (tgt := 28) hx hb d_Md_view_24 (by decide) ?_
        refine zt_size (fun hzs => ?_)
        have hP9 := hP.sub (ws' := [(aM, .inr (4, [.int 0, .ref aMT, .int (nI mu), .ref aNw, .ref aNx, .int mw, .int mwa, .int (nI ma), .int (nI en), .long mv, .int mf, .int ml])), (aNw, .inl (kNw, 52650, .inl nw))]) [0, 1] rfl
        have hD9 := hD.sub (ws' := [(aM, .inr (4, [.int 0, .ref aMT, .int (nI mu), .ref aNw, .ref aNx, .int mw, .int mwa, .int (nI ma), .int (nI en), .long mv, .int mf, .int ml])), (aNw, .inl (kNw, 52650, .inl nw))]) [0, 1] (by decide) rfl
        exact W.iret (v := nw (52632 + qj)) hx hb hr (fun t ht hW => ⟨⟨nw (52632 + qj), 0, rfl, ⟨rfl, by rw [if_pos hki, nI_clamp (by omega)]⟩, by rw [ht]; exact hP9, hD9, by rw [ht]; exact hzs⟩, hS.F ht⟩) hS.2.2 d_Md_view_28
  ·
    refine lv_aload_n hx hb d_Md_view_0 rfl (lv_at hl 0 rfl) ?_
    refine lv_iconst (v := 0) hx hb d_Md_view_1 (by decide) ?_
    refine va_put (D := (dC, dI)) (ci := 4) (v := .int 0) (ty := .int) (C := R_Md) (T := F_Md) (N := 12) hx hb hz i_Md t_Md t_Md_ok n_Md hown hK hP hD hS 0 rfl rfl 0 (by decide) (hz _ tw_476) (fun _ h9 => h9) rfl (by decide +kernel) rfl rfl (Nat.le_of_ble_eq_true rfl) d_Md_view_2 (fun H locs hP hD hS => ?_)
    have hP : va_P (dC, dI) vwCl [(aM, .inr (4, [.int 0, .ref aMT, .int (nI mu), .ref aNw, .ref aNx, .int mw, .int mwa, .int (nI ma), .int (nI en), .long mv, .int mf, .int ml])), (aNw, .inl (kNw, 52650, .inl nw))] H := hP
    have hD : va_D A [(aM, .inr (4, [.int 0, .ref aMT, .int (nI mu), .ref aNw, .ref aNx, .int mw, .int mwa, .int (nI ma), .int (nI en), .long mv, .int mf, .int ml])), (aNw, .inl (kNw, 52650, .inl nw))] := hD
    refine lv_iload_n hx hb d_Md_view_5 rfl (lv_at hl 1 rfl) ?_
    refine lv_if_lt (tgt := 27) hx hb d_Md_view_6 (by decide) (fun c_3 => ?_) (fun c_3 => ?_)
    ·
      refine lv_iconst (v := 0) hx hb d_Md_view_27 (by decide) ?_
      refine zt_size (fun hzs => ?_)
      have hP9 := hP.sub (ws' := [(aM, .inr (4, [.int 0, .ref aMT, .int (nI mu), .ref aNw, .ref aNx, .int mw, .int mwa, .int (nI ma), .int (nI en), .long mv, .int mf, .int ml])), (aNw, .inl (kNw, 52650, .inl nw))]) [0, 1] rfl
      have hD9 := hD.sub (ws' := [(aM, .inr (4, [.int 0, .ref aMT, .int (nI mu), .ref aNw, .ref aNx, .int mw, .int mwa, .int (nI ma), .int (nI en), .long mv, .int mf, .int ml])), (aNw, .inl (kNw, 52650, .inl nw))]) [0, 1] (by decide) rfl
      exact W.iret (v := 0) hx hb hr (fun t ht hW => ⟨⟨0, 0, rfl, ⟨rfl, by rw [if_neg hki]⟩, by rw [ht]; exact hP9, hD9, by rw [ht]; exact hzs⟩, hS.F ht⟩) hS.2.2 d_Md_view_28
    ·
      refine lv_iload_n hx hb d_Md_view_9 rfl (lv_at hl 1 rfl) ?_
      refine lv_bipush (v := 11) hx hb d_Md_view_10 (by decide) ?_
      refine lv_icmp_ge (tgt := 27) hx hb d_Md_view_12 (by decide) (fun c_4 => ?_) (fun c_4 => ?_)
      ·
        refine lv_iconst (v := 0) hx hb d_Md_view_27 (by decide) ?_
        refine zt_size (fun hzs => ?_)
        have hP9 := hP.sub (ws' := [(aM, .inr (4, [.int 0, .ref aMT, .int (nI mu), .ref aNw, .ref aNx, .int mw, .int mwa, .int (nI ma), .int (nI en), .long mv, .int mf, .int ml])), (aNw, .inl (kNw, 52650, .inl nw))]) [0, 1] rfl
        have hD9 := hD.sub (ws' := [(aM, .inr (4, [.int 0, .ref aMT, .int (nI mu), .ref aNw, .ref aNx, .int mw, .int mwa, .int (nI ma), .int (nI en), .long mv, .int mf, .int ml])), (aNw, .inl (kNw, 52650, .inl nw))]) [0, 1] (by decide) rfl
        exact W.iret (v := 0) hx hb hr (fun t ht hW => ⟨⟨0, 0, rfl, ⟨rfl, by rw [if_neg hki]⟩, by rw [ht]; exact hP9, hD9, by rw [ht]; exact hzs⟩, hS.F ht⟩) hS.2.2 d_Md_view_28
      ·
        exact absurd (Int32.not_lt.mp (fun z => hki ⟨c_3, z⟩)) c_4
