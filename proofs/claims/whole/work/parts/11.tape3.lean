set_option maxHeartbeats 4000000 in
set_option maxRecDepth 100000 in
theorem c_Tp_isDone (l : Launch) (G : ZG) (dC : Nat → ClassId) (dI : Nat → Nat → Nat) (sz : Nat) (aT : Nat) (aB : Nat) (u : Nat) (en : Nat) (h : Nat) (na : Int32) (w : Int32) (wa : Int32) (kB : ClassId) (B : Nat → Int32) (hen : en ≤ 65536) (hh : h ≤ en) : Met l y_Tp_isDone w_Tp_isDone ({ frames := 0, cells := 0, slots := 0, locals := 0 }) (va_Pc [.ref aT] (PW G (dC, dI) [(kB, .byte)] [(aT, .inr (2, [.ref aB, .int (nI u), .int (nI en), .int (nI h), .int na, .int w, .int wa])), (aB, .inl (kB, 65536, .inl B))] sz)) (va_Qi (fun (r : Int32) (uu : Unit) => r = if en ≤ h then 1 else 0) (fun (uu : Unit) t => BW (dC, dI) [(aT, .inr (2, [.ref aB, .int (nI u), .int (nI en), .int (nI h), .int na, .int w, .int wa])), (aB, .inl (kB, 65536, .inl B))] (va_A [(aT, .inr (2, [.ref aB, .int (nI u), .int (nI en), .int (nI h), .int na, .int w, .int wa])), (aB, .inl (kB, 65536, .inl B))] sz) sz t) (va_A [(aT, .inr (2, [.ref aB, .int (nI u), .int (nI en), .int (nI h), .int na, .int w, .int wa])), (aB, .inl (kB, 65536, .inl B))] sz)) 0 0 (va_A [(aT, .inr (2, [.ref aB, .int (nI u), .int (nI en), .int (nI h), .int na, .int w, .int wa])), (aB, .inl (kB, 65536, .inl B))] sz) := by
  refine Met.ofW (cc := prog_4_method_7_code) (maxL := 1) (ret := (some .boolean)) (by decide) rfl ?_
  intro p e s m args below meth c s₁ Bd hml hv
  obtain ⟨rfl, hsz, hP, hK, hD0, hE⟩ := hv
  have hx := Bd.exec
  have hb := Bd.bytes
  have hr := Bd.returns
  have hts := atoms_spec (ws := w_Tp_isDone) Bd.pre
  have hown : s.vm.findClass R_Tp = some m.cls := findClass_of_methodNamed Bd.named
  have hlocks := Bd.notSynchronized
  have hz : ∀ w ∈ ZW, w.before _ s = true := fun w h => hts w (List.mem_cons_of_mem _ h)
  subst hsz
  have hD := hD0.self (sz := s.heap.size)
  generalize hAe : va_A [(aT, .inr (2, [.ref aB, .int (nI u), .int (nI en), .int (nI h), .int na, .int w, .int wa])), (aB, .inl (kB, 65536, .inl B))] s.heap.size = A at hD hE ⊢
  have hA : ∀ q : Nat, s.heap.size ≤ q → A q := fun q h => by rw [← hAe]; exact Or.inr h
  have hS : va_S A s.heap s.heap [] := va_S.rf
  have hl := lv_entry ([.ref aT]) (n := 1) (Nat.le_of_ble_eq_true rfl)
  rw [lg_entry_eq]
  generalize (lg_sl ([.ref aT]) ++ List.replicate (1 - (lg_sl ([.ref aT])).length) Slot.unset).toArray = ls at hl ⊢
  have hl : lv_has ls 1 [(0, .ref aT)] := hl
  obtain ⟨H, hH⟩ : ∃ z, z = s.heap := ⟨_, rfl⟩
  have hP : va_P (dC, dI) vwCl [(aT, .inr (2, [.ref aB, .int (nI u), .int (nI en), .int (nI h), .int na, .int w, .int wa])), (aB, .inl (kB, 65536, .inl B))] H := by rw [hH]; exact hP
  have hS : va_S A s.heap H [] := by rw [hH]; exact hS
  refine zt_heap hH ?_
  refine lv_aload_n hx hb d_Tp_isDone_0 rfl (lv_at hl 0 rfl) ?_
  refine va_get (D := (dC, dI)) (ci := 2) (v := .int (nI h)) (C := R_Tp) (T := F_Tp) (N := 7) hx hb hz i_Tp hown hK hP 0 rfl rfl 3 (by decide) (hz _ tw_39) (fun _ h9 => h9) rfl d_Tp_isDone_1 ?_
  refine lv_aload_n hx hb d_Tp_isDone_4 rfl (lv_at hl 0 rfl) ?_
  refine va_get (D := (dC, dI)) (ci := 2) (v := .int (nI en)) (C := R_Tp) (T := F_Tp) (N := 7) hx hb hz i_Tp hown hK hP 0 rfl rfl 2 (by decide) (hz _ tw_38) (fun _ h9 => h9) rfl d_Tp_isDone_5 ?_
  refine lv_icmp_lt (tgt := 15) hx hb d_Tp_isDone_8 (by decide) (fun c_1 => ?_) (fun c_1 => ?_)
  ·
    have c_1 : h < en := (@nI_ltI h en (by omega) (by omega)).mp c_1
    refine lv_iconst (v := 0) hx hb d_Tp_isDone_15 (by decide) ?_
    refine zt_size (fun hzs => ?_)
    have hP9 := hP.sub (ws' := [(aT, .inr (2, [.ref aB, .int (nI u), .int (nI en), .int (nI h), .int na, .int w, .int wa])), (aB, .inl (kB, 65536, .inl B))]) [0, 1] rfl
    have hD9 := hD.sub (ws' := [(aT, .inr (2, [.ref aB, .int (nI u), .int (nI en), .int (nI h), .int na, .int w, .int wa])), (aB, .inl (kB, 65536, .inl B))]) [0, 1] (by decide) rfl
    exact W.zret (v := 0) hx hb hr rfl (fun t ht hW => ⟨⟨0, (), rfl, by rw [if_neg (by omega)], by rw [ht]; exact hP9, hD9, by rw [ht]; exact hzs⟩, hS.F ht⟩) hS.2.2 d_Tp_isDone_16
  ·
    have c_1 : ¬ (h < en) := fun z => c_1 ((@nI_ltI h en (by omega) (by omega)).mpr z)
    refine lv_iconst (v := 1) hx hb d_Tp_isDone_11 (by decide) ?_
    refine lv_goto (tgt := 16) hx hb d_Tp_isDone_12 (by decide) ?_
    refine zt_size (fun hzs => ?_)
    have hP9 := hP.sub (ws' := [(aT, .inr (2, [.ref aB, .int (nI u), .int (nI en), .int (nI h), .int na, .int w, .int wa])), (aB, .inl (kB, 65536, .inl B))]) [0, 1] rfl
    have hD9 := hD.sub (ws' := [(aT, .inr (2, [.ref aB, .int (nI u), .int (nI en), .int (nI h), .int na, .int w, .int wa])), (aB, .inl (kB, 65536, .inl B))]) [0, 1] (by decide) rfl
    exact W.zret (v := 1) hx hb hr rfl (fun t ht hW => ⟨⟨1, (), rfl, by rw [if_pos (by omega)], by rw [ht]; exact hP9, hD9, by rw [ht]; exact hzs⟩, hS.F ht⟩) hS.2.2 d_Tp_isDone_16
set_option maxHeartbeats 4000000 in
set_option maxRecDepth 100000 in
theorem c_Tp_takes (l : Launch) (G : ZG) (dC : Nat → ClassId) (dI : Nat → Nat → Nat) (sz : Nat) (aT : Nat) (aB : Nat) (u : Nat) (en : Nat) (h : Nat) (na : Int32) (w : Int32) (wa : Int32) (kB : ClassId) (B : Nat → Int32) (mk : Int32) (hen : en ≤ 65536) (hh : h ≤ en) : Met l y_Tp_takes w_Tp_takes ({ frames := 1, cells := 0, slots := 0, locals := 22 }) (va_Pc [.ref aT, .int mk] (PW G (dC, dI) [(kB, .byte)] [(aT, .inr (2, [.ref aB, .int (nI u), .int (nI en), .int (nI h), .int na, .int w, .int wa])), (aB, .inl (kB, 65536, .inl B))] sz)) (va_Qi (fun (r : Int32) (uu : Nat) => r = (if h < en ∧ B h = mk then 1 else 0) ∧ uu = (if h < en ∧ B h = mk then zK B en (h + 1) else h)) (fun (uu : Nat) t => BW (dC, dI) [(aT, .inr (2, [.ref aB, .int (nI u), .int (nI en), .int (nI uu), .int na, .int w, .int wa])), (aB, .inl (kB, 65536, .inl B))] (va_A [(aT, .inr (2, [.ref aB, .int (nI u), .int (nI en), .int (nI h), .int na, .int w, .int wa])), (aB, .inl (kB, 65536, .inl B))] sz) sz t) (va_A [(aT, .inr (2, [.ref aB, .int (nI u), .int (nI en), .int (nI h), .int na, .int w, .int wa])), (aB, .inl (kB, 65536, .inl B))] sz)) 0 0 (va_A [(aT, .inr (2, [.ref aB, .int (nI u), .int (nI en), .int (nI h), .int na, .int w, .int wa])), (aB, .inl (kB, 65536, .inl B))] sz) := by
  refine Met.ofW (cc := prog_4_method_9_code) (maxL := 3) (ret := (some .boolean)) (by decide) rfl ?_
  intro p e s m args below meth c s₁ Bd hml hv
  obtain ⟨rfl, hsz, hP, hK, hD0, hE⟩ := hv
  have hx := Bd.exec
  have hb := Bd.bytes
  have hr := Bd.returns
  have hts := atoms_spec (ws := w_Tp_takes) Bd.pre
  have hown : s.vm.findClass R_Tp = some m.cls := findClass_of_methodNamed Bd.named
  have hlocks := Bd.notSynchronized
  have hz : ∀ w ∈ ZW, w.before _ s = true := fun w h => hts w (List.mem_cons_of_mem _ h)
  subst hsz
  have hD := hD0.self (sz := s.heap.size)
  generalize hAe : va_A [(aT, .inr (2, [.ref aB, .int (nI u), .int (nI en), .int (nI h), .int na, .int w, .int wa])), (aB, .inl (kB, 65536, .inl B))] s.heap.size = A at hD hE ⊢
  have hA : ∀ q : Nat, s.heap.size ≤ q → A q := fun q h => by rw [← hAe]; exact Or.inr h
  have hS : va_S A s.heap s.heap [] := va_S.rf
  have hl := lv_entry ([.ref aT, .int mk]) (n := 3) (Nat.le_of_ble_eq_true rfl)
  rw [lg_entry_eq]
  generalize (lg_sl ([.ref aT, .int mk]) ++ List.replicate (3 - (lg_sl ([.ref aT, .int mk])).length) Slot.unset).toArray = ls at hl ⊢
  have hl : lv_has ls 3 [(0, .ref aT), (1, .int mk)] := hl
  obtain ⟨H, hH⟩ : ∃ z, z = s.heap := ⟨_, rfl⟩
  have hP : va_P (dC, dI) vwCl [(aT, .inr (2, [.ref aB, .int (nI u), .int (nI en), .int (nI h), .int na, .int w, .int wa])), (aB, .inl (kB, 65536, .inl B))] H := by rw [hH]; exact hP
  have hS : va_S A s.heap H [] := by rw [hH]; exact hS
  refine zt_heap hH ?_
  refine lv_aload_n hx hb d_Tp_takes_0 rfl (lv_at hl 0 rfl) ?_
  refine lv_iload_n hx hb d_Tp_takes_1 rfl (lv_at hl 1 rfl) ?_
  have hPc := hP.sub (ws' := [(aT, .inr (2, [.ref aB, .int (nI u), .int (nI en), .int (nI h), .int na, .int w, .int wa])), (aB, .inl (kB, 65536, .inl B))]) [0, 1] rfl
  have hDc := hD.sub (ws' := [(aT, .inr (2, [.ref aB, .int (nI u), .int (nI en), .int (nI h), .int na, .int w, .int wa])), (aB, .inl (kB, 65536, .inl B))]) [0, 1] (by decide) rfl
  have hKc := hK.sub (tys' := [(kB, .byte)]) [0] rfl
  have hFc := va_free (wc := [(aT, .inr (2, [.ref aB, .int (nI u), .int (nI en), .int (nI h), .int na, .int w, .int wa])), (aB, .inl (kB, 65536, .inl B))]) hD hS hA [0, 1] rfl
  refine va_calli (va_runV (As := [.int mk]) (rest := []) ⟨hx, hb, hml, hown, hts⟩ (c_Tp_sees l G dC dI H.size aT aB u en h na w wa kB B mk (by omega) (by omega)) (cwV 1 hts (gV tw_218 tw_219 tw_220 tw_3 tw_221 rfl) rfl rfl rfl (by decide +kernel) ⟨Nat.le_of_ble_eq_true rfl, Nat.le_of_ble_eq_true rfl⟩) (PW_preV hPc hKc hDc hE hS hFc (ci := 2) (q0 := 0) rfl rfl) rfl rfl hl.1 rfl (lv_room (Nat.le_of_ble_eq_true rfl)) d_Tp_takes_2 ⟨Nat.le_of_ble_eq_true rfl, Nat.le_of_ble_eq_true rfl⟩) hS (fun q _ h => hFc q h) hFc (fun r_1 uu t H1 locs ht hvm hw_2 hB hz1 hk1 hS => ?_)
  obtain ⟨hP1, hD1, hsz1⟩ := hB
  rw [ht] at hP1 hsz1
  obtain ⟨hP, hD⟩ := va_join (wr := []) (w1 := [(aT, .inr (2, [.ref aB, .int (nI u), .int (nI en), .int (nI h), .int na, .int w, .int wa])), (aB, .inl (kB, 65536, .inl B))]) hP hD [0, 1] [] rfl rfl (by decide) (by decide) hk1 hFc hP1 hD1
  generalize H1 = H at hP hS ⊢
  have hP : va_P (dC, dI) vwCl [(aT, .inr (2, [.ref aB, .int (nI u), .int (nI en), .int (nI h), .int na, .int w, .int wa])), (aB, .inl (kB, 65536, .inl B))] H := hP
  have hD : va_D A [(aT, .inr (2, [.ref aB, .int (nI u), .int (nI en), .int (nI h), .int na, .int w, .int wa])), (aB, .inl (kB, 65536, .inl B))] := hD
  by_cases hs_3 : h < en ∧ B h = mk
  ·
    rw [if_pos hs_3] at hw_2; subst hw_2
    refine lv_istore_n (lv' := [(2, .int 1), (0, .ref aT), (1, .int mk)]) hx hb d_Tp_takes_5 rfl hl (by decide) rfl (fun ls hl => ?_)
    refine lv_iload_n hx hb d_Tp_takes_6 rfl (lv_at hl 0 rfl) ?_
    refine lv_if_eq (tgt := 20) hx hb d_Tp_takes_7 (by decide) (fun c_4 => ?_) (fun c_4 => ?_)
    ·
      exact absurd c_4 (by decide)
    ·
      refine lv_aload_n hx hb d_Tp_takes_10 rfl (lv_at hl 1 rfl) ?_
      refine lv_aload_n hx hb d_Tp_takes_11 rfl (lv_at hl 1 rfl) ?_
      refine va_get (D := (dC, dI)) (ci := 2) (v := .int (nI h)) (C := R_Tp) (T := F_Tp) (N := 7) hx hb hz i_Tp hown hK hP 0 rfl rfl 3 (by decide) (hz _ tw_39) (fun _ h9 => h9) rfl d_Tp_takes_12 ?_
      refine lv_iconst (v := 1) hx hb d_Tp_takes_15 (by decide) ?_
      refine lv_iadd hx hb d_Tp_takes_16 ?_
      refine zt_top (nI_add h 1) ?_
      have hPc := hP.sub (ws' := [(aT, .inr (2, [.ref aB, .int (nI u), .int (nI en), .int (nI h), .int na, .int w, .int wa])), (aB, .inl (kB, 65536, .inl B))]) [0, 1] rfl
      have hDc := hD.sub (ws' := [(aT, .inr (2, [.ref aB, .int (nI u), .int (nI en), .int (nI h), .int na, .int w, .int wa])), (aB, .inl (kB, 65536, .inl B))]) [0, 1] (by decide) rfl
      have hKc := hK.sub (tys' := [(kB, .byte)]) [0] rfl
      have hFc := va_free (wc := [(aT, .inr (2, [.ref aB, .int (nI u), .int (nI en), .int (nI h), .int na, .int w, .int wa])), (aB, .inl (kB, 65536, .inl B))]) hD hS hA [0, 1] rfl
      refine va_callv (va_runV (As := [.int (nI (h + 1))]) (rest := []) ⟨hx, hb, hml, hown, hts⟩ (c_Tp_goOnFrom l G dC dI H.size aT aB u en h na w wa kB B (h + 1) (by omega) (by omega)) (cwV 1 hts (gV tw_209 tw_211 ts_5 tw_3 tw_212 rfl) rfl rfl rfl (by decide +kernel) ⟨Nat.le_of_ble_eq_true rfl, Nat.le_of_ble_eq_true rfl⟩) (PW_preV hPc hKc hDc hE hS hFc (ci := 2) (q0 := 0) rfl rfl) rfl rfl hl.1 rfl (lv_room (Nat.le_of_ble_eq_true rfl)) d_Tp_takes_17 ⟨Nat.le_of_ble_eq_true rfl, Nat.le_of_ble_eq_true rfl⟩) hS (fun q _ h => hFc q h) hFc (fun uu t H1 locs ht hvm hw_7 hB hz1 hk1 hS => ?_)
      obtain ⟨h_6, rfl⟩ : ∃ z, z = uu := ⟨_, rfl⟩
      obtain ⟨hP1, hD1, hsz1⟩ := hB
      rw [ht] at hP1 hsz1
      obtain ⟨hP, hD⟩ := va_join (wr := []) (w1 := [(aT, .inr (2, [.ref aB, .int (nI u), .int (nI en), .int (nI h_6), .int na, .int w, .int wa])), (aB, .inl (kB, 65536, .inl B))]) hP hD [0, 1] [] rfl rfl (by decide) (by decide) hk1 hFc hP1 hD1
      generalize H1 = H at hP hS ⊢
      have hP : va_P (dC, dI) vwCl [(aT, .inr (2, [.ref aB, .int (nI u), .int (nI en), .int (nI h_6), .int na, .int w, .int wa])), (aB, .inl (kB, 65536, .inl B))] H := hP
      have hD : va_D A [(aT, .inr (2, [.ref aB, .int (nI u), .int (nI en), .int (nI h_6), .int na, .int w, .int wa])), (aB, .inl (kB, 65536, .inl B))] := hD
      refine lv_iload_n hx hb d_Tp_takes_20 rfl (lv_at hl 0 rfl) ?_
      refine zt_size (fun hzs => ?_)
      have hP9 := hP.sub (ws' := [(aT, .inr (2, [.ref aB, .int (nI u), .int (nI en), .int (nI h_6), .int na, .int w, .int wa])), (aB, .inl (kB, 65536, .inl B))]) [0, 1] rfl
      have hD9 := hD.sub (ws' := [(aT, .inr (2, [.ref aB, .int (nI u), .int (nI en), .int (nI h_6), .int na, .int w, .int wa])), (aB, .inl (kB, 65536, .inl B))]) [0, 1] (by decide) rfl
      exact W.zret (v := 1) hx hb hr rfl (fun t ht hW => ⟨⟨1, h_6, rfl, ⟨by rw [if_pos hs_3], by rw [if_pos hs_3]; exact hw_7⟩, by rw [ht]; exact hP9, hD9, by rw [ht]; exact hzs⟩, hS.F ht⟩) hS.2.2 d_Tp_takes_21
  ·
    rw [if_neg hs_3] at hw_2; subst hw_2
    refine lv_istore_n (lv' := [(2, .int 0), (0, .ref aT), (1, .int mk)]) hx hb d_Tp_takes_5 rfl hl (by decide) rfl (fun ls hl => ?_)
    refine lv_iload_n hx hb d_Tp_takes_6 rfl (lv_at hl 0 rfl) ?_
    refine lv_if_eq (tgt := 20) hx hb d_Tp_takes_7 (by decide) (fun c_8 => ?_) (fun c_8 => ?_)
    ·
      refine lv_iload_n hx hb d_Tp_takes_20 rfl (lv_at hl 0 rfl) ?_
      refine zt_size (fun hzs => ?_)
      have hP9 := hP.sub (ws' := [(aT, .inr (2, [.ref aB, .int (nI u), .int (nI en), .int (nI h), .int na, .int w, .int wa])), (aB, .inl (kB, 65536, .inl B))]) [0, 1] rfl
      have hD9 := hD.sub (ws' := [(aT, .inr (2, [.ref aB, .int (nI u), .int (nI en), .int (nI h), .int na, .int w, .int wa])), (aB, .inl (kB, 65536, .inl B))]) [0, 1] (by decide) rfl
      exact W.zret (v := 0) hx hb hr rfl (fun t ht hW => ⟨⟨0, h, rfl, ⟨by rw [if_neg hs_3], by rw [if_neg hs_3]⟩, by rw [ht]; exact hP9, hD9, by rw [ht]; exact hzs⟩, hS.F ht⟩) hS.2.2 d_Tp_takes_21
    ·
      exact absurd (by decide) c_8
set_option maxHeartbeats 4000000 in
set_option maxRecDepth 100000 in
theorem c_Tp_mustTake (l : Launch) (hst : l.stackTraces = false) (G : ZG) (dC : Nat → ClassId) (dI : Nat → Nat → Nat) (sz : Nat) (aT : Nat) (aB : Nat) (u : Nat) (en : Nat) (h : Nat) (na : Int32) (w : Int32) (wa : Int32) (kB : ClassId) (B : Nat → Int32) (mk : Int32) (hen : en ≤ 65536) (hh : h ≤ en) : vx_Met l y_Tp_mustTake w_Tp_mustTake ({ frames := 7, cells := 1, slots := 6, locals := 104 }) (va_Pc [.ref aT, .int mk] (PW G (dC, dI) [(kB, .byte)] [(aT, .inr (2, [.ref aB, .int (nI u), .int (nI en), .int (nI h), .int na, .int w, .int wa])), (aB, .inl (kB, 65536, .inl B))] sz)) (va_Qv (fun (uu : Nat) => zMust B en mk h = .ok uu) (fun (uu : Nat) t => BW (dC, dI) [(aT, .inr (2, [.ref aB, .int (nI u), .int (nI en), .int (nI uu), .int na, .int w, .int wa])), (aB, .inl (kB, 65536, .inl B))] (va_A [(aT, .inr (2, [.ref aB, .int (nI u), .int (nI en), .int (nI h), .int na, .int w, .int wa])), (aB, .inl (kB, 65536, .inl B))] sz) sz t) (va_A [(aT, .inr (2, [.ref aB, .int (nI u), .int (nI en), .int (nI h), .int na, .int w, .int wa])), (aB, .inl (kB, 65536, .inl B))] sz)) (vx_X (fun (uu : Int32 × Nat × Nat × Int32) => zMust B en mk h = .error (uu.1, uu.2.1)) (fun E (uu : Int32 × Nat × Nat × Int32) t => E = "java/lang/IllegalArgumentException" ∧ va_P (dC, dI) vwCl [(aT, .inr (2, [.ref aB, .int (nI u), .int (nI en), .int (nI uu.2.2.1), .int uu.2.2.2, .int uu.1, .int (nI uu.2.1)])), (aB, .inl (kB, 65536, .inl B))] t.heap ∧ va_D (va_A [(aT, .inr (2, [.ref aB, .int (nI u), .int (nI en), .int (nI h), .int na, .int w, .int wa])), (aB, .inl (kB, 65536, .inl B))] sz) [(aT, .inr (2, [.ref aB, .int (nI u), .int (nI en), .int (nI uu.2.2.1), .int uu.2.2.2, .int uu.1, .int (nI uu.2.1)])), (aB, .inl (kB, 65536, .inl B))]) (va_A [(aT, .inr (2, [.ref aB, .int (nI u), .int (nI en), .int (nI h), .int na, .int w, .int wa])), (aB, .inl (kB, 65536, .inl B))] sz)) 1 6 (va_A [(aT, .inr (2, [.ref aB, .int (nI u), .int (nI en), .int (nI h), .int na, .int w, .int wa])), (aB, .inl (kB, 65536, .inl B))] sz) := by
  refine vx_ofW (cc := prog_4_method_10_code) (maxL := 2) (ret := none) (by decide) rfl ?_
  intro p e s m args below meth c s₁ Bd hml htab hv
  obtain ⟨rfl, hsz, hP, hK, hD0, hE⟩ := hv
  have hx := Bd.exec
  have hb := Bd.bytes
  have hr := Bd.returns
  have hts := atoms_spec (ws := w_Tp_mustTake) Bd.pre
  have hown : s.vm.findClass R_Tp = some m.cls := findClass_of_methodNamed Bd.named
  have hlocks := Bd.notSynchronized
  have hz : ∀ w ∈ ZW, w.before _ s = true := fun w h => hts w (List.mem_cons_of_mem _ h)
  subst hsz
  have hD := hD0.self (sz := s.heap.size)
  generalize hAe : va_A [(aT, .inr (2, [.ref aB, .int (nI u), .int (nI en), .int (nI h), .int na, .int w, .int wa])), (aB, .inl (kB, 65536, .inl B))] s.heap.size = A at hD hE ⊢
  have hA : ∀ q : Nat, s.heap.size ≤ q → A q := fun q h => by rw [← hAe]; exact Or.inr h
  have hS : va_S A s.heap s.heap [] := va_S.rf
  have hl := lv_entry ([.ref aT, .int mk]) (n := 2) (Nat.le_of_ble_eq_true rfl)
  rw [lg_entry_eq]
  generalize (lg_sl ([.ref aT, .int mk]) ++ List.replicate (2 - (lg_sl ([.ref aT, .int mk])).length) Slot.unset).toArray = ls at hl ⊢
  have hl : lv_has ls 2 [(0, .ref aT), (1, .int mk)] := hl
  obtain ⟨H, hH⟩ : ∃ z, z = s.heap := ⟨_, rfl⟩
  have hP : va_P (dC, dI) vwCl [(aT, .inr (2, [.ref aB, .int (nI u), .int (nI en), .int (nI h), .int na, .int w, .int wa])), (aB, .inl (kB, 65536, .inl B))] H := by rw [hH]; exact hP
  have hS : va_S A s.heap H [] := by rw [hH]; exact hS
  refine zt_heap hH ?_
  refine lv_aload_n hx hb d_Tp_mustTake_0 rfl (lv_at hl 0 rfl) ?_
  refine lv_iload_n hx hb d_Tp_mustTake_1 rfl (lv_at hl 1 rfl) ?_
  have hPc := hP.sub (ws' := [(aT, .inr (2, [.ref aB, .int (nI u), .int (nI en), .int (nI h), .int na, .int w, .int wa])), (aB, .inl (kB, 65536, .inl B))]) [0, 1] rfl
  have hDc := hD.sub (ws' := [(aT, .inr (2, [.ref aB, .int (nI u), .int (nI en), .int (nI h), .int na, .int w, .int wa])), (aB, .inl (kB, 65536, .inl B))]) [0, 1] (by decide) rfl
  have hKc := hK.sub (tys' := [(kB, .byte)]) [0] rfl
  have hFc := va_free (wc := [(aT, .inr (2, [.ref aB, .int (nI u), .int (nI en), .int (nI h), .int na, .int w, .int wa])), (aB, .inl (kB, 65536, .inl B))]) hD hS hA [0, 1] rfl
  refine va_calli (va_runV (As := [.int mk]) (rest := []) ⟨hx, hb, hml, hown, hts⟩ (c_Tp_sees l G dC dI H.size aT aB u en h na w wa kB B mk (by omega) (by omega)) (cwV 1 hts (gV tw_218 tw_219 tw_220 tw_3 tw_221 rfl) rfl rfl rfl (by decide +kernel) ⟨Nat.le_of_ble_eq_true rfl, Nat.le_of_ble_eq_true rfl⟩) (PW_preV hPc hKc hDc hE hS hFc (ci := 2) (q0 := 0) rfl rfl) rfl rfl hl.1 rfl (lv_room (Nat.le_of_ble_eq_true rfl)) d_Tp_mustTake_2 ⟨Nat.le_of_ble_eq_true rfl, Nat.le_of_ble_eq_true rfl⟩) hS (fun q _ h => hFc q h) hFc (fun r_1 uu t H1 locs ht hvm hw_2 hB hz1 hk1 hS => ?_)
  obtain ⟨hP1, hD1, hsz1⟩ := hB
  rw [ht] at hP1 hsz1
  obtain ⟨hP, hD⟩ := va_join (wr := []) (w1 := [(aT, .inr (2, [.ref aB, .int (nI u), .int (nI en), .int (nI h), .int na, .int w, .int wa])), (aB, .inl (kB, 65536, .inl B))]) hP hD [0, 1] [] rfl rfl (by decide) (by decide) hk1 hFc hP1 hD1
  generalize H1 = H at hP hS ⊢
  have hP : va_P (dC, dI) vwCl [(aT, .inr (2, [.ref aB, .int (nI u), .int (nI en), .int (nI h), .int na, .int w, .int wa])), (aB, .inl (kB, 65536, .inl B))] H := hP
  have hD : va_D A [(aT, .inr (2, [.ref aB, .int (nI u), .int (nI en), .int (nI h), .int na, .int w, .int wa])), (aB, .inl (kB, 65536, .inl B))] := hD
  by_cases hs_3 : h < en ∧ B h = mk
  ·
    rw [if_pos hs_3] at hw_2; subst hw_2
    refine lv_if_ne (tgt := 17) hx hb d_Tp_mustTake_5 (by decide) (fun c_4 => ?_) (fun c_4 => ?_)
    ·
      refine lv_aload_n hx hb d_Tp_mustTake_17 rfl (lv_at hl 0 rfl) ?_
      refine lv_aload_n hx hb d_Tp_mustTake_18 rfl (lv_at hl 0 rfl) ?_
      refine va_get (D := (dC, dI)) (ci := 2) (v := .int (nI h)) (C := R_Tp) (T := F_Tp) (N := 7) hx hb hz i_Tp hown hK hP 0 rfl rfl 3 (by decide) (hz _ tw_39) (fun _ h9 => h9) rfl d_Tp_mustTake_19 ?_
      refine lv_iconst (v := 1) hx hb d_Tp_mustTake_22 (by decide) ?_
      refine lv_iadd hx hb d_Tp_mustTake_23 ?_
      refine zt_top (nI_add h 1) ?_
      have hPc := hP.sub (ws' := [(aT, .inr (2, [.ref aB, .int (nI u), .int (nI en), .int (nI h), .int na, .int w, .int wa])), (aB, .inl (kB, 65536, .inl B))]) [0, 1] rfl
      have hDc := hD.sub (ws' := [(aT, .inr (2, [.ref aB, .int (nI u), .int (nI en), .int (nI h), .int na, .int w, .int wa])), (aB, .inl (kB, 65536, .inl B))]) [0, 1] (by decide) rfl
      have hKc := hK.sub (tys' := [(kB, .byte)]) [0] rfl
      have hFc := va_free (wc := [(aT, .inr (2, [.ref aB, .int (nI u), .int (nI en), .int (nI h), .int na, .int w, .int wa])), (aB, .inl (kB, 65536, .inl B))]) hD hS hA [0, 1] rfl
      refine va_callv (va_runV (As := [.int (nI (h + 1))]) (rest := []) ⟨hx, hb, hml, hown, hts⟩ (c_Tp_goOnFrom l G dC dI H.size aT aB u en h na w wa kB B (h + 1) (by omega) (by omega)) (cwV 1 hts (gV tw_209 tw_211 ts_5 tw_3 tw_212 rfl) rfl rfl rfl (by decide +kernel) ⟨Nat.le_of_ble_eq_true rfl, Nat.le_of_ble_eq_true rfl⟩) (PW_preV hPc hKc hDc hE hS hFc (ci := 2) (q0 := 0) rfl rfl) rfl rfl hl.1 rfl (lv_room (Nat.le_of_ble_eq_true rfl)) d_Tp_mustTake_24 ⟨Nat.le_of_ble_eq_true rfl, Nat.le_of_ble_eq_true rfl⟩) hS (fun q _ h => hFc q h) hFc (fun uu t H1 locs ht hvm hw_7 hB hz1 hk1 hS => ?_)
      obtain ⟨h_6, rfl⟩ : ∃ z, z = uu := ⟨_, rfl⟩
      obtain ⟨hP1, hD1, hsz1⟩ := hB
      rw [ht] at hP1 hsz1
      obtain ⟨hP, hD⟩ := va_join (wr := []) (w1 := [(aT, .inr (2, [.ref aB, .int (nI u), .int (nI en), .int (nI h_6), .int na, .int w, .int wa])), (aB, .inl (kB, 65536, .inl B))]) hP hD [0, 1] [] rfl rfl (by decide) (by decide) hk1 hFc hP1 hD1
      generalize H1 = H at hP hS ⊢
      have hP : va_P (dC, dI) vwCl [(aT, .inr (2, [.ref aB, .int (nI u), .int (nI en), .int (nI h_6), .int na, .int w, .int wa])), (aB, .inl (kB, 65536, .inl B))] H := hP
      have hD : va_D A [(aT, .inr (2, [.ref aB, .int (nI u), .int (nI en), .int (nI h_6), .int na, .int w, .int wa])), (aB, .inl (kB, 65536, .inl B))] := hD
      refine zt_size (fun hzs => ?_)
      have hP9 := hP.sub (ws' := [(aT, .inr (2, [.ref aB, .int (nI u), .int (nI en), .int (nI h_6), .int na, .int w, .int wa])), (aB, .inl (kB, 65536, .inl B))]) [0, 1] rfl
      have hD9 := hD.sub (ws' := [(aT, .inr (2, [.ref aB, .int (nI u), .int (nI en), .int (nI h_6), .int na, .int w, .int wa])), (aB, .inl (kB, 65536, .inl B))]) [0, 1] (by decide) rfl
      refine W.widen (k := 1) (n := 6) (by decide) (by decide) ?_
      exact vx_ret (W.vret hx hb hr (fun t ht hW => ⟨⟨h_6, rfl, by unfold zMust; rw [if_pos hs_3, hw_7], by rw [ht]; exact hP9, hD9, by rw [ht]; exact hzs⟩, hS.F ht⟩) hS.2.2 d_Tp_mustTake_27)
    ·
      exact absurd c_4 (by decide)
  ·
    rw [if_neg hs_3] at hw_2; subst hw_2
    refine lv_if_ne (tgt := 17) hx hb d_Tp_mustTake_5 (by decide) (fun c_8 => ?_) (fun c_8 => ?_)
    ·
      exact absurd (by decide) c_8
    ·
      refine lv_aload_n hx hb d_Tp_mustTake_8 rfl (lv_at hl 0 rfl) ?_
      refine lv_iconst (v := 1) hx hb d_Tp_mustTake_9 (by decide) ?_
      refine lv_aload_n hx hb d_Tp_mustTake_10 rfl (lv_at hl 0 rfl) ?_
      refine va_get (D := (dC, dI)) (ci := 2) (v := .int (nI h)) (C := R_Tp) (T := F_Tp) (N := 7) hx hb hz i_Tp hown hK hP 0 rfl rfl 3 (by decide) (hz _ tw_39) (fun _ h9 => h9) rfl d_Tp_mustTake_11 ?_
      have hPc := hP.sub (ws' := [(aT, .inr (2, [.ref aB, .int (nI u), .int (nI en), .int (nI h), .int na, .int w, .int wa])), (aB, .inl (kB, 65536, .inl B))]) [0, 1] rfl
      have hDc := hD.sub (ws' := [(aT, .inr (2, [.ref aB, .int (nI u), .int (nI en), .int (nI h), .int na, .int w, .int wa])), (aB, .inl (kB, 65536, .inl B))]) [0, 1] (by decide) rfl
      have hKc := hK.sub (tys' := [(kB, .byte)]) [0] rfl
      have hFc := va_free (wc := [(aT, .inr (2, [.ref aB, .int (nI u), .int (nI en), .int (nI h), .int na, .int w, .int wa])), (aB, .inl (kB, 65536, .inl B))]) hD hS hA [0, 1] rfl
      refine zt_size (fun hzs => ?_)
      refine vx_callv (vx_runV (As := [.int 1, .int (nI h)]) (rest := []) ⟨hx, hb, hml, hown, hts⟩ (c_Tp_refuse l hst G dC dI H.size aT aB u en h na w wa kB B 1 (nI h)) (cwV 2 hts (gV tw_222 tw_223 tw_224 tw_3 tw_225 rfl) rfl rfl rfl (by decide +kernel) ⟨Nat.le_of_ble_eq_true rfl, Nat.le_of_ble_eq_true rfl⟩) (PW_preV hPc hKc hDc hE hS hFc (ci := 2) (q0 := 0) rfl rfl) rfl rfl hl.1 rfl (lv_room (Nat.le_of_ble_eq_true rfl)) d_Tp_mustTake_14 ⟨Nat.le_of_ble_eq_true rfl, Nat.le_of_ble_eq_true rfl⟩) hS (fun q _ h => hFc q h) hFc (fun q _ h => hFc q h) (fun E9 ce9 q9 uu t H1 locs ht hvm hx_13 hB hz1 hk1 hS hce hcv hcl => ?_) (fun uu t H1 locs ht hvm hw_10 hB hz1 hk1 hS => ?_)
      ·
        obtain ⟨w_11, wa_12⟩ := uu
        obtain ⟨hEn, hP1, hD1⟩ := hB
        rw [ht] at hP1
        obtain ⟨hP, hD⟩ := va_join (wr := []) (w1 := [(aT, .inr (2, [.ref aB, .int (nI u), .int (nI en), .int (nI h), .int na, .int w_11, .int wa_12])), (aB, .inl (kB, 65536, .inl B))]) hP hD [0, 1] [] rfl rfl (by decide) (by decide) hk1 hFc hP1 hD1
        generalize H1 = H at hP hS hce ⊢
        have hP : va_P (dC, dI) vwCl [(aT, .inr (2, [.ref aB, .int (nI u), .int (nI en), .int (nI h), .int na, .int w_11, .int wa_12])), (aB, .inl (kB, 65536, .inl B))] H := hP
        have hD : va_D A [(aT, .inr (2, [.ref aB, .int (nI u), .int (nI en), .int (nI h), .int na, .int w_11, .int wa_12])), (aB, .inl (kB, 65536, .inl B))] := hD
        obtain ⟨rfl, rfl⟩ := hx_13
        have hP9 := hP.sub (ws' := [(aT, .inr (2, [.ref aB, .int (nI u), .int (nI en), .int (nI h), .int na, .int 1, .int (nI h)])), (aB, .inl (kB, 65536, .inl B))]) [0, 1] rfl
        have hD9 := hD.sub (ws' := [(aT, .inr (2, [.ref aB, .int (nI u), .int (nI en), .int (nI h), .int na, .int 1, .int (nI h)])), (aB, .inl (kB, 65536, .inl B))]) [0, 1] (by decide) rfl
        exact vx_out (fun x hx => (htab x hx).elim) hlocks hce hcv hcl (fun t ht hvm => ⟨(1, h, h, na), by unfold zMust; rw [if_neg hs_3], ⟨hEn, by rw [ht]; exact hP9, hD9⟩, hS.F ht⟩) hS.2.2 (by decide) (by decide)
      · exact (hw_10 : False).elim
/-- a byte of four, as the array keeps it -/
def zPb (x k : Int32) : Int32 := vp_nar .byte (x.toUInt32 >>> (k.toUInt32 &&& Int32.toUInt32 31)).toInt32.toInt8.toInt32
def zP4 (B : Nat → Int32) (u : Nat) (x : Int32) : Nat → Int32 := upd (upd (upd (upd B u (zPb x 24)) (u + 1) (zPb x 16)) (u + 1 + 1) (zPb x 8)) (u + 1 + 1 + 1) (zPb x 0)
set_option maxHeartbeats 4000000 in
set_option maxRecDepth 100000 in
theorem c_Tp_put (l : Launch) (G : ZG) (dC : Nat → ClassId) (dI : Nat → Nat → Nat) (sz : Nat) (aT : Nat) (aB : Nat) (u : Nat) (en : Nat) (h : Nat) (na : Int32) (w : Int32) (wa : Int32) (kB : ClassId) (B : Nat → Int32) (fo : Int32) (hu : u + 4 ≤ 65536) : Met l y_Tp_put w_Tp_put ({ frames := 0, cells := 0, slots := 0, locals := 0 }) (va_Pc [.ref aT, .int fo] (PW G (dC, dI) [(kB, .byte)] [(aT, .inr (2, [.ref aB, .int (nI u), .int (nI en), .int (nI h), .int na, .int w, .int wa])), (aB, .inl (kB, 65536, .inl B))] sz)) (va_Qv (fun (uu : Nat × (Nat → Int32)) => uu.1 = u + 4 ∧ uu.2 = zP4 B u fo) (fun (uu : Nat × (Nat → Int32)) t => BW (dC, dI) [(aT, .inr (2, [.ref aB, .int (nI uu.1), .int (nI en), .int (nI h), .int na, .int w, .int wa])), (aB, .inl (kB, 65536, .inl uu.2))] (va_A [(aT, .inr (2, [.ref aB, .int (nI u), .int (nI en), .int (nI h), .int na, .int w, .int wa])), (aB, .inl (kB, 65536, .inl B))] sz) sz t) (va_A [(aT, .inr (2, [.ref aB, .int (nI u), .int (nI en), .int (nI h), .int na, .int w, .int wa])), (aB, .inl (kB, 65536, .inl B))] sz)) 0 0 (va_A [(aT, .inr (2, [.ref aB, .int (nI u), .int (nI en), .int (nI h), .int na, .int w, .int wa])), (aB, .inl (kB, 65536, .inl B))] sz) := by
  refine Met.ofW (cc := prog_4_method_3_code) (maxL := 3) (ret := none) (by decide) rfl ?_
  intro p e s m args below meth c s₁ Bd hml hv
  obtain ⟨rfl, hsz, hP, hK, hD0, hE⟩ := hv
  have hx := Bd.exec
  have hb := Bd.bytes
  have hr := Bd.returns
  have hts := atoms_spec (ws := w_Tp_put) Bd.pre
  have hown : s.vm.findClass R_Tp = some m.cls := findClass_of_methodNamed Bd.named
  have hlocks := Bd.notSynchronized
  have hz : ∀ w ∈ ZW, w.before _ s = true := fun w h => hts w (List.mem_cons_of_mem _ h)
  subst hsz
  have hD := hD0.self (sz := s.heap.size)
  generalize hAe : va_A [(aT, .inr (2, [.ref aB, .int (nI u), .int (nI en), .int (nI h), .int na, .int w, .int wa])), (aB, .inl (kB, 65536, .inl B))] s.heap.size = A at hD hE ⊢
  have hA : ∀ q : Nat, s.heap.size ≤ q → A q := fun q h => by rw [← hAe]; exact Or.inr h
  have hS : va_S A s.heap s.heap [] := va_S.rf
  have hl := lv_entry ([.ref aT, .int fo]) (n := 3) (Nat.le_of_ble_eq_true rfl)
  rw [lg_entry_eq]
  generalize (lg_sl ([.ref aT, .int fo]) ++ List.replicate (3 - (lg_sl ([.ref aT, .int fo])).length) Slot.unset).toArray = ls at hl ⊢
  have hl : lv_has ls 3 [(0, .ref aT), (1, .int fo)] := hl
  obtain ⟨H, hH⟩ : ∃ z, z = s.heap := ⟨_, rfl⟩
  have hP : va_P (dC, dI) vwCl [(aT, .inr (2, [.ref aB, .int (nI u), .int (nI en), .int (nI h), .int na, .int w, .int wa])), (aB, .inl (kB, 65536, .inl B))] H := by rw [hH]; exact hP
  have hS : va_S A s.heap H [] := by rw [hH]; exact hS
  refine zt_heap hH ?_
  refine lv_bipush (v := 24) hx hb d_Tp_put_0 (by decide) ?_
  refine lv_istore_n (lv' := [(2, .int 24), (0, .ref aT), (1, .int fo)]) hx hb d_Tp_put_2 rfl hl (by decide) rfl (fun ls hl => ?_)
  refine lv_iload_n hx hb d_Tp_put_3 rfl (lv_at hl 0 rfl) ?_
  refine lv_if_lt (tgt := 45) hx hb d_Tp_put_4 (by decide) (fun c_1 => ?_) (fun c_1 => ?_)
  ·
    exact absurd c_1 (by decide)
  ·
    refine lv_aload_n hx hb d_Tp_put_7 rfl (lv_at hl 1 rfl) ?_
    refine va_get (D := (dC, dI)) (ci := 2) (v := .int (nI u)) (C := R_Tp) (T := F_Tp) (N := 7) hx hb hz i_Tp hown hK hP 0 rfl rfl 1 (by decide) (hz _ tw_36) (fun _ h9 => h9) rfl d_Tp_put_8 ?_
    refine lv_ldc (v := 65536) hx hb hown (hz _ tw_34) d_Tp_put_11 ?_
    refine lv_icmp_ge (tgt := 45) hx hb d_Tp_put_13 (by decide) (fun c_2 => ?_) (fun c_2 => ?_)
    ·
      exact absurd c_2 (nI_ge (a := u) (b := 65536) (by omega) (by decide))
    ·
      refine lv_aload_n hx hb d_Tp_put_16 rfl (lv_at hl 1 rfl) ?_
      refine va_get (D := (dC, dI)) (ci := 2) (v := .ref aB) (C := R_Tp) (T := F_Tp) (N := 7) hx hb hz i_Tp hown hK hP 0 rfl rfl 0 (by decide) (hz _ tw_35) (fun _ h9 => h9) rfl d_Tp_put_17 ?_
      refine lv_aload_n hx hb d_Tp_put_20 rfl (lv_at hl 1 rfl) ?_
      refine va_get (D := (dC, dI)) (ci := 2) (v := .int (nI u)) (C := R_Tp) (T := F_Tp) (N := 7) hx hb hz i_Tp hown hK hP 0 rfl rfl 1 (by decide) (hz _ tw_36) (fun _ h9 => h9) rfl d_Tp_put_21 ?_
      refine lv_iload_n hx hb d_Tp_put_24 rfl (lv_at hl 2 rfl) ?_
      refine lv_iload_n hx hb d_Tp_put_25 rfl (lv_at hl 0 rfl) ?_
      refine lv_iushr (v := (fo.toUInt32 >>> ((24 : Int32).toUInt32 &&& Int32.toUInt32 31)).toInt32) hx hb d_Tp_put_26 rfl ?_
      refine lv_i2b (v := ((fo.toUInt32 >>> ((24 : Int32).toUInt32 &&& Int32.toUInt32 31)).toInt32).toInt8.toInt32) hx hb d_Tp_put_27 rfl ?_
      refine va_bast (D := (dC, dI)) (i := nI u) (x := ((fo.toUInt32 >>> ((24 : Int32).toUInt32 &&& Int32.toUInt32 31)).toInt32).toInt8.toInt32) hx hb hK hP hD hS 1 0 rfl rfl (vp_in_nI (by omega) (by decide)) d_Tp_put_28 (fun H locs hP hD hS => ?_)
      rw [nI_clamp (by omega)] at hP hD
      have hP : va_P (dC, dI) vwCl [(aT, .inr (2, [.ref aB, .int (nI u), .int (nI en), .int (nI h), .int na, .int w, .int wa])), (aB, .inl (kB, 65536, .inl (upd B u (vp_nar .byte (((fo.toUInt32 >>> ((24 : Int32).toUInt32 &&& Int32.toUInt32 31)).toInt32).toInt8.toInt32)))))] H := hP
      have hD : va_D A [(aT, .inr (2, [.ref aB, .int (nI u), .int (nI en), .int (nI h), .int na, .int w, .int wa])), (aB, .inl (kB, 65536, .inl (upd B u (vp_nar .byte (((fo.toUInt32 >>> ((24 : Int32).toUInt32 &&& Int32.toUInt32 31)).toInt32).toInt8.toInt32)))))] := hD
      refine lv_aload_n hx hb d_Tp_put_29 rfl (lv_at hl 1 rfl) ?_
      refine lv_dup hx hb d_Tp_put_30 rfl ?_
      refine va_get (D := (dC, dI)) (ci := 2) (v := .int (nI u)) (C := R_Tp) (T := F_Tp) (N := 7) hx hb hz i_Tp hown hK hP 0 rfl rfl 1 (by decide) (hz _ tw_36) (fun _ h9 => h9) rfl d_Tp_put_31 ?_
      refine lv_iconst (v := 1) hx hb d_Tp_put_34 (by decide) ?_
      refine lv_iadd hx hb d_Tp_put_35 ?_
      refine zt_top (nI_add u 1) ?_
      refine va_put (D := (dC, dI)) (ci := 2) (v := .int (nI (u + 1))) (ty := .int) (C := R_Tp) (T := F_Tp) (N := 7) hx hb hz i_Tp t_Tp t_Tp_ok n_Tp hown hK hP hD hS 0 rfl rfl 1 (by decide) (hz _ tw_36) (fun _ h9 => h9) rfl (by decide +kernel) rfl rfl (Nat.le_of_ble_eq_true rfl) d_Tp_put_36 (fun H locs hP hD hS => ?_)
      have hP : va_P (dC, dI) vwCl [(aT, .inr (2, [.ref aB, .int (nI (u + 1)), .int (nI en), .int (nI h), .int na, .int w, .int wa])), (aB, .inl (kB, 65536, .inl (upd B u (vp_nar .byte (((fo.toUInt32 >>> ((24 : Int32).toUInt32 &&& Int32.toUInt32 31)).toInt32).toInt8.toInt32)))))] H := hP
      have hD : va_D A [(aT, .inr (2, [.ref aB, .int (nI (u + 1)), .int (nI en), .int (nI h), .int na, .int w, .int wa])), (aB, .inl (kB, 65536, .inl (upd B u (vp_nar .byte (((fo.toUInt32 >>> ((24 : Int32).toUInt32 &&& Int32.toUInt32 31)).toInt32).toInt8.toInt32)))))] := hD
      refine lv_iinc (v := 16) (lv' := [(2, .int 16), (0, .ref aT), (1, .int fo)]) hx hb d_Tp_put_39 hl (k := 0) rfl (by decide) (by decide) rfl (fun ls hl => ?_)
      refine lv_goto (tgt := 3) hx hb d_Tp_put_42 (by decide) ?_
      refine lv_iload_n hx hb d_Tp_put_3 rfl (lv_at hl 0 rfl) ?_
      refine lv_if_lt (tgt := 45) hx hb d_Tp_put_4 (by decide) (fun c_3 => ?_) (fun c_3 => ?_)
      ·
        exact absurd c_3 (by decide)
      ·
        refine lv_aload_n hx hb d_Tp_put_7 rfl (lv_at hl 1 rfl) ?_
        refine va_get (D := (dC, dI)) (ci := 2) (v := .int (nI (u + 1))) (C := R_Tp) (T := F_Tp) (N := 7) hx hb hz i_Tp hown hK hP 0 rfl rfl 1 (by decide) (hz _ tw_36) (fun _ h9 => h9) rfl d_Tp_put_8 ?_
        refine lv_ldc (v := 65536) hx hb hown (hz _ tw_34) d_Tp_put_11 ?_
        refine lv_icmp_ge (tgt := 45) hx hb d_Tp_put_13 (by decide) (fun c_4 => ?_) (fun c_4 => ?_)
        ·
          exact absurd c_4 (nI_ge (a := u + 1) (b := 65536) (by omega) (by decide))
        ·
          refine lv_aload_n hx hb d_Tp_put_16 rfl (lv_at hl 1 rfl) ?_
          refine va_get (D := (dC, dI)) (ci := 2) (v := .ref aB) (C := R_Tp) (T := F_Tp) (N := 7) hx hb hz i_Tp hown hK hP 0 rfl rfl 0 (by decide) (hz _ tw_35) (fun _ h9 => h9) rfl d_Tp_put_17 ?_
          refine lv_aload_n hx hb d_Tp_put_20 rfl (lv_at hl 1 rfl) ?_
          refine va_get (D := (dC, dI)) (ci := 2) (v := .int (nI (u + 1))) (C := R_Tp) (T := F_Tp) (N := 7) hx hb hz i_Tp hown hK hP 0 rfl rfl 1 (by decide) (hz _ tw_36) (fun _ h9 => h9) rfl d_Tp_put_21 ?_
          refine lv_iload_n hx hb d_Tp_put_24 rfl (lv_at hl 2 rfl) ?_
          refine lv_iload_n hx hb d_Tp_put_25 rfl (lv_at hl 0 rfl) ?_
          refine lv_iushr (v := (fo.toUInt32 >>> ((16 : Int32).toUInt32 &&& Int32.toUInt32 31)).toInt32) hx hb d_Tp_put_26 rfl ?_
          refine lv_i2b (v := ((fo.toUInt32 >>> ((16 : Int32).toUInt32 &&& Int32.toUInt32 31)).toInt32).toInt8.toInt32) hx hb d_Tp_put_27 rfl ?_
          refine va_bast (D := (dC, dI)) (i := nI (u + 1)) (x := ((fo.toUInt32 >>> ((16 : Int32).toUInt32 &&& Int32.toUInt32 31)).toInt32).toInt8.toInt32) hx hb hK hP hD hS 1 0 rfl rfl (vp_in_nI (by omega) (by decide)) d_Tp_put_28 (fun H locs hP hD hS => ?_)
          rw [nI_clamp (by omega)] at hP hD
          have hP : va_P (dC, dI) vwCl [(aT, .inr (2, [.ref aB, .int (nI (u + 1)), .int (nI en), .int (nI h), .int na, .int w, .int wa])), (aB, .inl (kB, 65536, .inl (upd (upd B u (vp_nar .byte (((fo.toUInt32 >>> ((24 : Int32).toUInt32 &&& Int32.toUInt32 31)).toInt32).toInt8.toInt32))) (u + 1) (vp_nar .byte (((fo.toUInt32 >>> ((16 : Int32).toUInt32 &&& Int32.toUInt32 31)).toInt32).toInt8.toInt32)))))] H := hP
          have hD : va_D A [(aT, .inr (2, [.ref aB, .int (nI (u + 1)), .int (nI en), .int (nI h), .int na, .int w, .int wa])), (aB, .inl (kB, 65536, .inl (upd (upd B u (vp_nar .byte (((fo.toUInt32 >>> ((24 : Int32).toUInt32 &&& Int32.toUInt32 31)).toInt32).toInt8.toInt32))) (u + 1) (vp_nar .byte (((fo.toUInt32 >>> ((16 : Int32).toUInt32 &&& Int32.toUInt32 31)).toInt32).toInt8.toInt32)))))] := hD
          refine lv_aload_n hx hb d_Tp_put_29 rfl (lv_at hl 1 rfl) ?_
          refine lv_dup hx hb d_Tp_put_30 rfl ?_
          refine va_get (D := (dC, dI)) (ci := 2) (v := .int (nI (u + 1))) (C := R_Tp) (T := F_Tp) (N := 7) hx hb hz i_Tp hown hK hP 0 rfl rfl 1 (by decide) (hz _ tw_36) (fun _ h9 => h9) rfl d_Tp_put_31 ?_
          refine lv_iconst (v := 1) hx hb d_Tp_put_34 (by decide) ?_
          refine lv_iadd hx hb d_Tp_put_35 ?_
          refine zt_top (nI_add (u + 1) 1) ?_
          refine va_put (D := (dC, dI)) (ci := 2) (v := .int (nI ((u + 1) + 1))) (ty := .int) (C := R_Tp) (T := F_Tp) (N := 7) hx hb hz i_Tp t_Tp t_Tp_ok n_Tp hown hK hP hD hS 0 rfl rfl 1 (by decide) (hz _ tw_36) (fun _ h9 => h9) rfl (by decide +kernel) rfl rfl (Nat.le_of_ble_eq_true rfl) d_Tp_put_36 (fun H locs hP hD hS => ?_)
          have hP : va_P (dC, dI) vwCl [(aT, .inr (2, [.ref aB, .int (nI ((u + 1) + 1)), .int (nI en), .int (nI h), .int na, .int w, .int wa])), (aB, .inl (kB, 65536, .inl (upd (upd B u (vp_nar .byte (((fo.toUInt32 >>> ((24 : Int32).toUInt32 &&& Int32.toUInt32 31)).toInt32).toInt8.toInt32))) (u + 1) (vp_nar .byte (((fo.toUInt32 >>> ((16 : Int32).toUInt32 &&& Int32.toUInt32 31)).toInt32).toInt8.toInt32)))))] H := hP
          have hD : va_D A [(aT, .inr (2, [.ref aB, .int (nI ((u + 1) + 1)), .int (nI en), .int (nI h), .int na, .int w, .int wa])), (aB, .inl (kB, 65536, .inl (upd (upd B u (vp_nar .byte (((fo.toUInt32 >>> ((24 : Int32).toUInt32 &&& Int32.toUInt32 31)).toInt32).toInt8.toInt32))) (u + 1) (vp_nar .byte (((fo.toUInt32 >>> ((16 : Int32).toUInt32 &&& Int32.toUInt32 31)).toInt32).toInt8.toInt32)))))] := hD
          refine lv_iinc (v := 8) (lv' := [(2, .int 8), (0, .ref aT), (1, .int fo)]) hx hb d_Tp_put_39 hl (k := 0) rfl (by decide) (by decide) rfl (fun ls hl => ?_)
          refine lv_goto (tgt := 3) hx hb d_Tp_put_42 (by decide) ?_
          refine lv_iload_n hx hb d_Tp_put_3 rfl (lv_at hl 0 rfl) ?_
          refine lv_if_lt (tgt := 45) hx hb d_Tp_put_4 (by decide) (fun c_5 => ?_) (fun c_5 => ?_)
          ·
            exact absurd c_5 (by decide)
          ·
            refine lv_aload_n hx hb d_Tp_put_7 rfl (lv_at hl 1 rfl) ?_
            refine va_get (D := (dC, dI)) (ci := 2) (v := .int (nI ((u + 1) + 1))) (C := R_Tp) (T := F_Tp) (N := 7) hx hb hz i_Tp hown hK hP 0 rfl rfl 1 (by decide) (hz _ tw_36) (fun _ h9 => h9) rfl d_Tp_put_8 ?_
            refine lv_ldc (v := 65536) hx hb hown (hz _ tw_34) d_Tp_put_11 ?_
            refine lv_icmp_ge (tgt := 45) hx hb d_Tp_put_13 (by decide) (fun c_6 => ?_) (fun c_6 => ?_)
            ·
              exact absurd c_6 (nI_ge (a := (u + 1) + 1) (b := 65536) (by omega) (by decide))
            ·
              refine lv_aload_n hx hb d_Tp_put_16 rfl (lv_at hl 1 rfl) ?_
              refine va_get (D := (dC, dI)) (ci := 2) (v := .ref aB) (C := R_Tp) (T := F_Tp) (N := 7) hx hb hz i_Tp hown hK hP 0 rfl rfl 0 (by decide) (hz _ tw_35) (fun _ h9 => h9) rfl d_Tp_put_17 ?_
              refine lv_aload_n hx hb d_Tp_put_20 rfl (lv_at hl 1 rfl) ?_
              refine va_get (D := (dC, dI)) (ci := 2) (v := .int (nI ((u + 1) + 1))) (C := R_Tp) (T := F_Tp) (N := 7) hx hb hz i_Tp hown hK hP 0 rfl rfl 1 (by decide) (hz _ tw_36) (fun _ h9 => h9) rfl d_Tp_put_21 ?_
              refine lv_iload_n hx hb d_Tp_put_24 rfl (lv_at hl 2 rfl) ?_
              refine lv_iload_n hx hb d_Tp_put_25 rfl (lv_at hl 0 rfl) ?_
              refine lv_iushr (v := (fo.toUInt32 >>> ((8 : Int32).toUInt32 &&& Int32.toUInt32 31)).toInt32) hx hb d_Tp_put_26 rfl ?_
              refine lv_i2b (v := ((fo.toUInt32 >>> ((8 : Int32).toUInt32 &&& Int32.toUInt32 31)).toInt32).toInt8.toInt32) hx hb d_Tp_put_27 rfl ?_
              refine va_bast (D := (dC, dI)) (i := nI ((u + 1) + 1)) (x := ((fo.toUInt32 >>> ((8 : Int32).toUInt32 &&& Int32.toUInt32 31)).toInt32).toInt8.toInt32) hx hb hK hP hD hS 1 0 rfl rfl (vp_in_nI (by omega) (by decide)) d_Tp_put_28 (fun H locs hP hD hS => ?_)
              rw [nI_clamp (by omega)] at hP hD
              have hP : va_P (dC, dI) vwCl [(aT, .inr (2, [.ref aB, .int (nI ((u + 1) + 1)), .int (nI en), .int (nI h), .int na, .int w, .int wa])), (aB, .inl (kB, 65536, .inl (upd (upd (upd B u (vp_nar .byte (((fo.toUInt32 >>> ((24 : Int32).toUInt32 &&& Int32.toUInt32 31)).toInt32).toInt8.toInt32))) (u + 1) (vp_nar .byte (((fo.toUInt32 >>> ((16 : Int32).toUInt32 &&& Int32.toUInt32 31)).toInt32).toInt8.toInt32))) ((u + 1) + 1) (vp_nar .byte (((fo.toUInt32 >>> ((8 : Int32).toUInt32 &&& Int32.toUInt32 31)).toInt32).toInt8.toInt32)))))] H := hP
              have hD : va_D A [(aT, .inr (2, [.ref aB, .int (nI ((u + 1) + 1)), .int (nI en), .int (nI h), .int na, .int w, .int wa])), (aB, .inl (kB, 65536, .inl (upd (upd (upd B u (vp_nar .byte (((fo.toUInt32 >>> ((24 : Int32).toUInt32 &&& Int32.toUInt32 31)).toInt32).toInt8.toInt32))) (u + 1) (vp_nar .byte (((fo.toUInt32 >>> ((16 : Int32).toUInt32 &&& Int32.toUInt32 31)).toInt32).toInt8.toInt32))) ((u + 1) + 1) (vp_nar .byte (((fo.toUInt32 >>> ((8 : Int32).toUInt32 &&& Int32.toUInt32 31)).toInt32).toInt8.toInt32)))))] := hD
              refine lv_aload_n hx hb d_Tp_put_29 rfl (lv_at hl 1 rfl) ?_
              refine lv_dup hx hb d_Tp_put_30 rfl ?_
              refine va_get (D := (dC, dI)) (ci := 2) (v := .int (nI ((u + 1) + 1))) (C := R_Tp) (T := F_Tp) (N := 7) hx hb hz i_Tp hown hK hP 0 rfl rfl 1 (by decide) (hz _ tw_36) (fun _ h9 => h9) rfl d_Tp_put_31 ?_
              refine lv_iconst (v := 1) hx hb d_Tp_put_34 (by decide) ?_
              refine lv_iadd hx hb d_Tp_put_35 ?_
              refine zt_top (nI_add ((u + 1) + 1) 1) ?_
              refine va_put (D := (dC, dI)) (ci := 2) (v := .int (nI (((u + 1) + 1) + 1))) (ty := .int) (C := R_Tp) (T := F_Tp) (N := 7) hx hb hz i_Tp t_Tp t_Tp_ok n_Tp hown hK hP hD hS 0 rfl rfl 1 (by decide) (hz _ tw_36) (fun _ h9 => h9) rfl (by decide +kernel) rfl rfl (Nat.le_of_ble_eq_true rfl) d_Tp_put_36 (fun H locs hP hD hS => ?_)
              have hP : va_P (dC, dI) vwCl [(aT, .inr (2, [.ref aB, .int (nI (((u + 1) + 1) + 1)), .int (nI en), .int (nI h), .int na, .int w, .int wa])), (aB, .inl (kB, 65536, .inl (upd (upd (upd B u (vp_nar .byte (((fo.toUInt32 >>> ((24 : Int32).toUInt32 &&& Int32.toUInt32 31)).toInt32).toInt8.toInt32))) (u + 1) (vp_nar .byte (((fo.toUInt32 >>> ((16 : Int32).toUInt32 &&& Int32.toUInt32 31)).toInt32).toInt8.toInt32))) ((u + 1) + 1) (vp_nar .byte (((fo.toUInt32 >>> ((8 : Int32).toUInt32 &&& Int32.toUInt32 31)).toInt32).toInt8.toInt32)))))] H := hP
              have hD : va_D A [(aT, .inr (2, [.ref aB, .int (nI (((u + 1) + 1) + 1)), .int (nI en), .int (nI h), .int na, .int w, .int wa])), (aB, .inl (kB, 65536, .inl (upd (upd (upd B u (vp_nar .byte (((fo.toUInt32 >>> ((24 : Int32).toUInt32 &&& Int32.toUInt32 31)).toInt32).toInt8.toInt32))) (u + 1) (vp_nar .byte (((fo.toUInt32 >>> ((16 : Int32).toUInt32 &&& Int32.toUInt32 31)).toInt32).toInt8.toInt32))) ((u + 1) + 1) (vp_nar .byte (((fo.toUInt32 >>> ((8 : Int32).toUInt32 &&& Int32.toUInt32 31)).toInt32).toInt8.toInt32)))))] := hD
              refine lv_iinc (v := 0) (lv' := [(2, .int 0), (0, .ref aT), (1, .int fo)]) hx hb d_Tp_put_39 hl (k := 0) rfl (by decide) (by decide) rfl (fun ls hl => ?_)
              refine lv_goto (tgt := 3) hx hb d_Tp_put_42 (by decide) ?_
              refine lv_iload_n hx hb d_Tp_put_3 rfl (lv_at hl 0 rfl) ?_
              refine lv_if_lt (tgt := 45) hx hb d_Tp_put_4 (by decide) (fun c_7 => ?_) (fun c_7 => ?_)
              ·
                exact absurd c_7 (by decide)
              ·
                refine lv_aload_n hx hb d_Tp_put_7 rfl (lv_at hl 1 rfl) ?_
                refine va_get (D := (dC, dI)) (ci := 2) (v := .int (nI (((u + 1) + 1) + 1))) (C := R_Tp) (T := F_Tp) (N := 7) hx hb hz i_Tp hown hK hP 0 rfl rfl 1 (by decide) (hz _ tw_36) (fun _ h9 => h9) rfl d_Tp_put_8 ?_
                refine lv_ldc (v := 65536) hx hb hown (hz _ tw_34) d_Tp_put_11 ?_
                refine lv_icmp_ge (tgt := 45) hx hb d_Tp_put_13 (by decide) (fun c_8 => ?_) (fun c_8 => ?_)
                ·
                  exact absurd c_8 (nI_ge (a := ((u + 1) + 1) + 1) (b := 65536) (by omega) (by decide))
                ·
                  refine lv_aload_n hx hb d_Tp_put_16 rfl (lv_at hl 1 rfl) ?_
                  refine va_get (D := (dC, dI)) (ci := 2) (v := .ref aB) (C := R_Tp) (T := F_Tp) (N := 7) hx hb hz i_Tp hown hK hP 0 rfl rfl 0 (by decide) (hz _ tw_35) (fun _ h9 => h9) rfl d_Tp_put_17 ?_
                  refine lv_aload_n hx hb d_Tp_put_20 rfl (lv_at hl 1 rfl) ?_
                  refine va_get (D := (dC, dI)) (ci := 2) (v := .int (nI (((u + 1) + 1) + 1))) (C := R_Tp) (T := F_Tp) (N := 7) hx hb hz i_Tp hown hK hP 0 rfl rfl 1 (by decide) (hz _ tw_36) (fun _ h9 => h9) rfl d_Tp_put_21 ?_
                  refine lv_iload_n hx hb d_Tp_put_24 rfl (lv_at hl 2 rfl) ?_
                  refine lv_iload_n hx hb d_Tp_put_25 rfl (lv_at hl 0 rfl) ?_
                  refine lv_iushr (v := (fo.toUInt32 >>> ((0 : Int32).toUInt32 &&& Int32.toUInt32 31)).toInt32) hx hb d_Tp_put_26 rfl ?_
                  refine lv_i2b (v := ((fo.toUInt32 >>> ((0 : Int32).toUInt32 &&& Int32.toUInt32 31)).toInt32).toInt8.toInt32) hx hb d_Tp_put_27 rfl ?_
                  refine va_bast (D := (dC, dI)) (i := nI (((u + 1) + 1) + 1)) (x := ((fo.toUInt32 >>> ((0 : Int32).toUInt32 &&& Int32.toUInt32 31)).toInt32).toInt8.toInt32) hx hb hK hP hD hS 1 0 rfl rfl (vp_in_nI (by omega) (by decide)) d_Tp_put_28 (fun H locs hP hD hS => ?_)
                  rw [nI_clamp (by omega)] at hP hD
                  have hP : va_P (dC, dI) vwCl [(aT, .inr (2, [.ref aB, .int (nI (((u + 1) + 1) + 1)), .int (nI en), .int (nI h), .int na, .int w, .int wa])), (aB, .inl (kB, 65536, .inl (upd (upd (upd (upd B u (vp_nar .byte (((fo.toUInt32 >>> ((24 : Int32).toUInt32 &&& Int32.toUInt32 31)).toInt32).toInt8.toInt32))) (u + 1) (vp_nar .byte (((fo.toUInt32 >>> ((16 : Int32).toUInt32 &&& Int32.toUInt32 31)).toInt32).toInt8.toInt32))) ((u + 1) + 1) (vp_nar .byte (((fo.toUInt32 >>> ((8 : Int32).toUInt32 &&& Int32.toUInt32 31)).toInt32).toInt8.toInt32))) (((u + 1) + 1) + 1) (vp_nar .byte (((fo.toUInt32 >>> ((0 : Int32).toUInt32 &&& Int32.toUInt32 31)).toInt32).toInt8.toInt32)))))] H := hP
                  have hD : va_D A [(aT, .inr (2, [.ref aB, .int (nI (((u + 1) + 1) + 1)), .int (nI en), .int (nI h), .int na, .int w, .int wa])), (aB, .inl (kB, 65536, .inl (upd (upd (upd (upd B u (vp_nar .byte (((fo.toUInt32 >>> ((24 : Int32).toUInt32 &&& Int32.toUInt32 31)).toInt32).toInt8.toInt32))) (u + 1) (vp_nar .byte (((fo.toUInt32 >>> ((16 : Int32).toUInt32 &&& Int32.toUInt32 31)).toInt32).toInt8.toInt32))) ((u + 1) + 1) (vp_nar .byte (((fo.toUInt32 >>> ((8 : Int32).toUInt32 &&& Int32.toUInt32 31)).toInt32).toInt8.toInt32))) (((u + 1) + 1) + 1) (vp_nar .byte (((fo.toUInt32 >>> ((0 : Int32).toUInt32 &&& Int32.toUInt32 31)).toInt32).toInt8.toInt32)))))] := hD
                  refine lv_aload_n hx hb d_Tp_put_29 rfl (lv_at hl 1 rfl) ?_
                  refine lv_dup hx hb d_Tp_put_30 rfl ?_
                  refine va_get (D := (dC, dI)) (ci := 2) (v := .int (nI (((u + 1) + 1) + 1))) (C := R_Tp) (T := F_Tp) (N := 7) hx hb hz i_Tp hown hK hP 0 rfl rfl 1 (by decide) (hz _ tw_36) (fun _ h9 => h9) rfl d_Tp_put_31 ?_
                  refine lv_iconst (v := 1) hx hb d_Tp_put_34 (by decide) ?_
                  refine lv_iadd hx hb d_Tp_put_35 ?_
                  refine zt_top (nI_add (((u + 1) + 1) + 1) 1) ?_
                  refine va_put (D := (dC, dI)) (ci := 2) (v := .int (nI ((((u + 1) + 1) + 1) + 1))) (ty := .int) (C := R_Tp) (T := F_Tp) (N := 7) hx hb hz i_Tp t_Tp t_Tp_ok n_Tp hown hK hP hD hS 0 rfl rfl 1 (by decide) (hz _ tw_36) (fun _ h9 => h9) rfl (by decide +kernel) rfl rfl (Nat.le_of_ble_eq_true rfl) d_Tp_put_36 (fun H locs hP hD hS => ?_)
                  have hP : va_P (dC, dI) vwCl [(aT, .inr (2, [.ref aB, .int (nI ((((u + 1) + 1) + 1) + 1)), .int (nI en), .int (nI h), .int na, .int w, .int wa])), (aB, .inl (kB, 65536, .inl (upd (upd (upd (upd B u (vp_nar .byte (((fo.toUInt32 >>> ((24 : Int32).toUInt32 &&& Int32.toUInt32 31)).toInt32).toInt8.toInt32))) (u + 1) (vp_nar .byte (((fo.toUInt32 >>> ((16 : Int32).toUInt32 &&& Int32.toUInt32 31)).toInt32).toInt8.toInt32))) ((u + 1) + 1) (vp_nar .byte (((fo.toUInt32 >>> ((8 : Int32).toUInt32 &&& Int32.toUInt32 31)).toInt32).toInt8.toInt32))) (((u + 1) + 1) + 1) (vp_nar .byte (((fo.toUInt32 >>> ((0 : Int32).toUInt32 &&& Int32.toUInt32 31)).toInt32).toInt8.toInt32)))))] H := hP
                  have hD : va_D A [(aT, .inr (2, [.ref aB, .int (nI ((((u + 1) + 1) + 1) + 1)), .int (nI en), .int (nI h), .int na, .int w, .int wa])), (aB, .inl (kB, 65536, .inl (upd (upd (upd (upd B u (vp_nar .byte (((fo.toUInt32 >>> ((24 : Int32).toUInt32 &&& Int32.toUInt32 31)).toInt32).toInt8.toInt32))) (u + 1) (vp_nar .byte (((fo.toUInt32 >>> ((16 : Int32).toUInt32 &&& Int32.toUInt32 31)).toInt32).toInt8.toInt32))) ((u + 1) + 1) (vp_nar .byte (((fo.toUInt32 >>> ((8 : Int32).toUInt32 &&& Int32.toUInt32 31)).toInt32).toInt8.toInt32))) (((u + 1) + 1) + 1) (vp_nar .byte (((fo.toUInt32 >>> ((0 : Int32).toUInt32 &&& Int32.toUInt32 31)).toInt32).toInt8.toInt32)))))] := hD
                  refine lv_iinc (v := (-8)) (lv' := [(2, .int (-8)), (0, .ref aT), (1, .int fo)]) hx hb d_Tp_put_39 hl (k := 0) rfl (by decide) (by decide) rfl (fun ls hl => ?_)
                  refine lv_goto (tgt := 3) hx hb d_Tp_put_42 (by decide) ?_
                  refine lv_iload_n hx hb d_Tp_put_3 rfl (lv_at hl 0 rfl) ?_
                  refine lv_if_lt (tgt := 45) hx hb d_Tp_put_4 (by decide) (fun c_9 => ?_) (fun c_9 => ?_)
                  ·
                    refine zt_size (fun hzs => ?_)
                    have hP9 := hP.sub (ws' := [(aT, .inr (2, [.ref aB, .int (nI ((((u + 1) + 1) + 1) + 1)), .int (nI en), .int (nI h), .int na, .int w, .int wa])), (aB, .inl (kB, 65536, .inl (upd (upd (upd (upd B u (vp_nar .byte (((fo.toUInt32 >>> ((24 : Int32).toUInt32 &&& Int32.toUInt32 31)).toInt32).toInt8.toInt32))) (u + 1) (vp_nar .byte (((fo.toUInt32 >>> ((16 : Int32).toUInt32 &&& Int32.toUInt32 31)).toInt32).toInt8.toInt32))) ((u + 1) + 1) (vp_nar .byte (((fo.toUInt32 >>> ((8 : Int32).toUInt32 &&& Int32.toUInt32 31)).toInt32).toInt8.toInt32))) (((u + 1) + 1) + 1) (vp_nar .byte (((fo.toUInt32 >>> ((0 : Int32).toUInt32 &&& Int32.toUInt32 31)).toInt32).toInt8.toInt32)))))]) [0, 1] rfl
                    have hD9 := hD.sub (ws' := [(aT, .inr (2, [.ref aB, .int (nI ((((u + 1) + 1) + 1) + 1)), .int (nI en), .int (nI h), .int na, .int w, .int wa])), (aB, .inl (kB, 65536, .inl (upd (upd (upd (upd B u (vp_nar .byte (((fo.toUInt32 >>> ((24 : Int32).toUInt32 &&& Int32.toUInt32 31)).toInt32).toInt8.toInt32))) (u + 1) (vp_nar .byte (((fo.toUInt32 >>> ((16 : Int32).toUInt32 &&& Int32.toUInt32 31)).toInt32).toInt8.toInt32))) ((u + 1) + 1) (vp_nar .byte (((fo.toUInt32 >>> ((8 : Int32).toUInt32 &&& Int32.toUInt32 31)).toInt32).toInt8.toInt32))) (((u + 1) + 1) + 1) (vp_nar .byte (((fo.toUInt32 >>> ((0 : Int32).toUInt32 &&& Int32.toUInt32 31)).toInt32).toInt8.toInt32)))))]) [0, 1] (by decide) rfl
                    exact W.vret hx hb hr (fun t ht hW => ⟨⟨((((u + 1) + 1) + 1) + 1, upd (upd (upd (upd B u (vp_nar .byte (((fo.toUInt32 >>> ((24 : Int32).toUInt32 &&& Int32.toUInt32 31)).toInt32).toInt8.toInt32))) (u + 1) (vp_nar .byte (((fo.toUInt32 >>> ((16 : Int32).toUInt32 &&& Int32.toUInt32 31)).toInt32).toInt8.toInt32))) ((u + 1) + 1) (vp_nar .byte (((fo.toUInt32 >>> ((8 : Int32).toUInt32 &&& Int32.toUInt32 31)).toInt32).toInt8.toInt32))) (((u + 1) + 1) + 1) (vp_nar .byte (((fo.toUInt32 >>> ((0 : Int32).toUInt32 &&& Int32.toUInt32 31)).toInt32).toInt8.toInt32))), rfl, ⟨rfl, rfl⟩, by rw [ht]; exact hP9, hD9, by rw [ht]; exact hzs⟩, hS.F ht⟩) hS.2.2 d_Tp_put_45
                  ·
                    exact absurd (by decide) c_9
