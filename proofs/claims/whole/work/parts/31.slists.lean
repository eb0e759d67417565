def zMLen (cnt : Nat → Nat) (cel : Nat → Int32) (k li : Int32) : Int32 := if li = 0 ∨ li = 1 then 3 * zFact cnt cel 2 k 1 else if li = 2 then 2 * zFact cnt cel 2 k 1 else if li = 3 then 3 * zFact cnt cel 2 k 2 else 0
def zLLen (cnt : Nat → Nat) (cel : Nat → Int32) (kd k li : Int32) : Int32 := if kd = 0 then (if li = 0 then 3 * zFact cnt cel 0 k 0 * zFact cnt cel 0 k 0 else 0) else if kd = 2 then zMLen cnt cel k li else if kd = 4 then (if li = 0 then zFact cnt cel 4 k 3 else if li = 1 then 3 * zFact cnt cel 4 k 3 else 0) else 0
def zLSt (kd li : Int32) : Int32 := if kd = 0 then 3 else if kd = 4 then (if li = 0 then 4 else 36) else if li = 0 then 3 else if li = 1 then 387 else if li = 2 then 771 else 1027
set_option maxHeartbeats 4000000 in
set_option maxRecDepth 100000 in
theorem c_Sc_listStart (l : Launch) (G : ZG) (dC : Nat → ClassId) (dI : Nat → Nat → Nat) (sz : Nat) (kd : Int32) (li : Int32) : Met l y_Sc_listStart w_Sc_listStart ({ frames := 0, cells := 0, slots := 0, locals := 0 }) (va_Pc [.int kd, .int li] (PW G (dC, dI) [] [] sz)) (va_Qi (fun (r : Int32) (uu : Unit) => r = zLSt kd li) (fun (uu : Unit) t => BW (dC, dI) [] (va_A [] sz) sz t) (va_A [] sz)) 0 0 (va_A [] sz) := by
  refine Met.ofW (cc := prog_3_method_15_code) (maxL := 2) (ret := (some .int)) (by decide) rfl ?_
  intro p e s m args below meth c s₁ Bd hml hv
  obtain ⟨rfl, hsz, hP, hK, hD0, hE⟩ := hv
  have hx := Bd.exec
  have hb := Bd.bytes
  have hr := Bd.returns
  have hts := atoms_spec (ws := w_Sc_listStart) Bd.pre
  have hown : s.vm.findClass R_Sc = some m.cls := findClass_of_methodNamed Bd.named
  have hlocks := Bd.notSynchronized
  have hz : ∀ w ∈ ZW, w.before _ s = true := fun w h => hts w (List.mem_cons_of_mem _ h)
  subst hsz
  have hD := hD0.self (sz := s.heap.size)
  generalize hAe : va_A [] s.heap.size = A at hD hE ⊢
  have hA : ∀ q : Nat, s.heap.size ≤ q → A q := fun q h => by rw [← hAe]; exact Or.inr h
  have hS : va_S A s.heap s.heap [] := va_S.rf
  have hl := lv_entry ([.int kd, .int li]) (n := 2) (Nat.le_of_ble_eq_true rfl)
  rw [lg_entry_eq]
  generalize (lg_sl ([.int kd, .int li]) ++ List.replicate (2 - (lg_sl ([.int kd, .int li])).length) Slot.unset).toArray = ls at hl ⊢
  have hl : lv_has ls 2 [(0, .int kd), (1, .int li)] := hl
  obtain ⟨H, hH⟩ : ∃ z, z = s.heap := ⟨_, rfl⟩
  have hP : va_P (dC, dI) vwCl [] H := by rw [hH]; exact hP
  have hS : va_S A s.heap H [] := by rw [hH]; exact hS
  refine zt_heap hH ?_
  refine lv_iload_n hx hb d_Sc_listStart_0 rfl (lv_at hl 0 rfl) ?_
  refine lv_if_ne (tgt := 6) hx hb d_Sc_listStart_1 (by decide) (fun c_1 => ?_) (fun c_1 => ?_)
  ·
    refine lv_iload_n hx hb d_Sc_listStart_6 rfl (lv_at hl 0 rfl) ?_
    refine lv_iconst (v := 4) hx hb d_Sc_listStart_7 (by decide) ?_
    refine lv_icmp_ne (tgt := 22) hx hb d_Sc_listStart_8 (by decide) (fun c_2 => ?_) (fun c_2 => ?_)
    ·
      refine lv_iload_n hx hb d_Sc_listStart_22 rfl (lv_at hl 1 rfl) ?_
      by_cases hv_3 : li = 0
      ·
        subst hv_3
        refine lv_tableIn (off := 25) (tgt := 48) hx hb d_Sc_listStart_23 (by decide) (by decide) (by decide) (by decide) ?_
        refine lv_iconst (v := 3) hx hb d_Sc_listStart_48 (by decide) ?_
        refine zt_size (fun hzs => ?_)
        have hP9 := hP.sub (ws' := []) [] rfl
        have hD9 := hD.sub (ws' := []) [] (by decide) rfl
        exact W.iret (v := 3) hx hb hr (fun t ht hW => ⟨⟨3, (), rfl, by unfold zLSt; rw [if_neg c_1, if_neg c_2, if_pos rfl], by rw [ht]; exact hP9, hD9, by rw [ht]; exact hzs⟩, hS.F ht⟩) hS.2.2 d_Sc_listStart_49
      ·
        by_cases hv_4 : li = 1
        ·
          subst hv_4
          refine lv_tableIn (off := 27) (tgt := 50) hx hb d_Sc_listStart_23 (by decide) (by decide) (by decide) (by decide) ?_
          refine lv_sipush (v := 387) hx hb d_Sc_listStart_50 (by decide) ?_
          refine zt_size (fun hzs => ?_)
          have hP9 := hP.sub (ws' := []) [] rfl
          have hD9 := hD.sub (ws' := []) [] (by decide) rfl
          exact W.iret (v := 387) hx hb hr (fun t ht hW => ⟨⟨387, (), rfl, by unfold zLSt; rw [if_neg c_1, if_neg c_2, if_neg (by decide), if_pos rfl], by rw [ht]; exact hP9, hD9, by rw [ht]; exact hzs⟩, hS.F ht⟩) hS.2.2 d_Sc_listStart_53
        ·
          by_cases hv_5 : li = 2
          ·
            subst hv_5
            refine lv_tableIn (off := 31) (tgt := 54) hx hb d_Sc_listStart_23 (by decide) (by decide) (by decide) (by decide) ?_
            refine lv_sipush (v := 771) hx hb d_Sc_listStart_54 (by decide) ?_
            refine zt_size (fun hzs => ?_)
            have hP9 := hP.sub (ws' := []) [] rfl
            have hD9 := hD.sub (ws' := []) [] (by decide) rfl
            exact W.iret (v := 771) hx hb hr (fun t ht hW => ⟨⟨771, (), rfl, by unfold zLSt; rw [if_neg c_1, if_neg c_2, if_neg (by decide), if_neg (by decide), if_pos rfl], by rw [ht]; exact hP9, hD9, by rw [ht]; exact hzs⟩, hS.F ht⟩) hS.2.2 d_Sc_listStart_57
          ·
            refine lv_tableOut (tgt := 58) hx hb d_Sc_listStart_23 (by have q0 := lv_neT (a := 0) hv_3 (by decide); have q1 := lv_neT (a := 1) hv_4 (by decide); have q2 := lv_neT (a := 2) hv_5 (by decide); omega) (by decide) ?_
            refine lv_sipush (v := 1027) hx hb d_Sc_listStart_58 (by decide) ?_
            refine zt_size (fun hzs => ?_)
            have hP9 := hP.sub (ws' := []) [] rfl
            have hD9 := hD.sub (ws' := []) [] (by decide) rfl
            exact W.iret (v := 1027) hx hb hr (fun t ht hW => ⟨⟨1027, (), rfl, by unfold zLSt; rw [if_neg c_1, if_neg c_2, if_neg hv_3, if_neg hv_4, if_neg hv_5], by rw [ht]; exact hP9, hD9, by rw [ht]; exact hzs⟩, hS.F ht⟩) hS.2.2 d_Sc_listStart_61
    ·
      refine lv_iload_n hx hb d_Sc_listStart_11 rfl (lv_at hl 1 rfl) ?_
      refine lv_if_ne (tgt := 19) hx hb d_Sc_listStart_12 (by decide) (fun c_6 => ?_) (fun c_6 => ?_)
      ·
        refine lv_bipush (v := 36) hx hb d_Sc_listStart_19 (by decide) ?_
        refine zt_size (fun hzs => ?_)
        have hP9 := hP.sub (ws' := []) [] rfl
        have hD9 := hD.sub (ws' := []) [] (by decide) rfl
        exact W.iret (v := 36) hx hb hr (fun t ht hW => ⟨⟨36, (), rfl, by unfold zLSt; rw [if_neg c_1, if_pos c_2, if_neg c_6], by rw [ht]; exact hP9, hD9, by rw [ht]; exact hzs⟩, hS.F ht⟩) hS.2.2 d_Sc_listStart_21
      ·
        refine lv_iconst (v := 4) hx hb d_Sc_listStart_15 (by decide) ?_
        refine lv_goto (tgt := 21) hx hb d_Sc_listStart_16 (by decide) ?_
        refine zt_size (fun hzs => ?_)
        have hP9 := hP.sub (ws' := []) [] rfl
        have hD9 := hD.sub (ws' := []) [] (by decide) rfl
        exact W.iret (v := 4) hx hb hr (fun t ht hW => ⟨⟨4, (), rfl, by unfold zLSt; rw [if_neg c_1, if_pos c_2, if_pos c_6], by rw [ht]; exact hP9, hD9, by rw [ht]; exact hzs⟩, hS.F ht⟩) hS.2.2 d_Sc_listStart_21
  ·
    refine lv_iconst (v := 3) hx hb d_Sc_listStart_4 (by decide) ?_
    refine zt_size (fun hzs => ?_)
    have hP9 := hP.sub (ws' := []) [] rfl
    have hD9 := hD.sub (ws' := []) [] (by decide) rfl
    exact W.iret (v := 3) hx hb hr (fun t ht hW => ⟨⟨3, (), rfl, by unfold zLSt; rw [if_pos c_1], by rw [ht]; exact hP9, hD9, by rw [ht]; exact hzs⟩, hS.F ht⟩) hS.2.2 d_Sc_listStart_5
set_option maxHeartbeats 4000000 in
set_option maxRecDepth 100000 in
theorem c_Sc_meshListLength (l : Launch) (G : ZG) (dC : Nat → ClassId) (dI : Nat → Nat → Nat) (sz : Nat) (aS : Nat) (aN : Nat) (aC : Nat) (kN : ClassId) (cnt : Nat → Nat) (kC : ClassId) (cel : Nat → Int32) (ki : Int32) (li : Int32) (hc : ∀ j, j < 5 → cnt j ≤ zM j) : Met l y_Sc_meshListLength w_Sc_meshListLength ({ frames := 3, cells := 0, slots := 0, locals := 66 }) (va_Pc [.ref aS, .int ki, .int li] (PW G (dC, dI) [(kN, .int), (kC, .int)] [(aS, .inr (1, [.ref aN, .ref aC])), (aN, .inl (kN, 5, .inl (fun j => nI (cnt j)))), (aC, .inl (kC, 52035, .inl cel))] sz)) (va_Qi (fun (r : Int32) (uu : Unit) => r = zMLen cnt cel ki li) (fun (uu : Unit) t => BW (dC, dI) [(aS, .inr (1, [.ref aN, .ref aC])), (aN, .inl (kN, 5, .inl (fun j => nI (cnt j)))), (aC, .inl (kC, 52035, .inl cel))] (va_A [(aS, .inr (1, [.ref aN, .ref aC])), (aN, .inl (kN, 5, .inl (fun j => nI (cnt j)))), (aC, .inl (kC, 52035, .inl cel))] sz) sz t) (va_A [(aS, .inr (1, [.ref aN, .ref aC])), (aN, .inl (kN, 5, .inl (fun j => nI (cnt j)))), (aC, .inl (kC, 52035, .inl cel))] sz)) 0 0 (va_A [(aS, .inr (1, [.ref aN, .ref aC])), (aN, .inl (kN, 5, .inl (fun j => nI (cnt j)))), (aC, .inl (kC, 52035, .inl cel))] sz) := by
  refine Met.ofW (cc := prog_3_method_14_code) (maxL := 4) (ret := (some .int)) (by decide) rfl ?_
  intro p e s m args below meth c s₁ Bd hml hv
  obtain ⟨rfl, hsz, hP, hK, hD0, hE⟩ := hv
  have hx := Bd.exec
  have hb := Bd.bytes
  have hr := Bd.returns
  have hts := atoms_spec (ws := w_Sc_meshListLength) Bd.pre
  have hown : s.vm.findClass R_Sc = some m.cls := findClass_of_methodNamed Bd.named
  have hlocks := Bd.notSynchronized
  have hz : ∀ w ∈ ZW, w.before _ s = true := fun w h => hts w (List.mem_cons_of_mem _ h)
  subst hsz
  have hD := hD0.self (sz := s.heap.size)
  generalize hAe : va_A [(aS, .inr (1, [.ref aN, .ref aC])), (aN, .inl (kN, 5, .inl (fun j => nI (cnt j)))), (aC, .inl (kC, 52035, .inl cel))] s.heap.size = A at hD hE ⊢
  have hA : ∀ q : Nat, s.heap.size ≤ q → A q := fun q h => by rw [← hAe]; exact Or.inr h
  have hS : va_S A s.heap s.heap [] := va_S.rf
  have hl := lv_entry ([.ref aS, .int ki, .int li]) (n := 4) (Nat.le_of_ble_eq_true rfl)
  rw [lg_entry_eq]
  generalize (lg_sl ([.ref aS, .int ki, .int li]) ++ List.replicate (4 - (lg_sl ([.ref aS, .int ki, .int li])).length) Slot.unset).toArray = ls at hl ⊢
  have hl : lv_has ls 4 [(0, .ref aS), (1, .int ki), (2, .int li)] := hl
  obtain ⟨H, hH⟩ : ∃ z, z = s.heap := ⟨_, rfl⟩
  have hP : va_P (dC, dI) vwCl [(aS, .inr (1, [.ref aN, .ref aC])), (aN, .inl (kN, 5, .inl (fun j => nI (cnt j)))), (aC, .inl (kC, 52035, .inl cel))] H := by rw [hH]; exact hP
  have hS : va_S A s.heap H [] := by rw [hH]; exact hS
  refine zt_heap hH ?_
  refine lv_aload_n hx hb d_Sc_meshListLength_0 rfl (lv_at hl 0 rfl) ?_
  refine lv_iconst (v := 2) hx hb d_Sc_meshListLength_1 (by decide) ?_
  refine lv_iload_n hx hb d_Sc_meshListLength_2 rfl (lv_at hl 1 rfl) ?_
  refine lv_iconst (v := 1) hx hb d_Sc_meshListLength_3 (by decide) ?_
  have hPc := hP.sub (ws' := [(aS, .inr (1, [.ref aN, .ref aC])), (aN, .inl (kN, 5, .inl (fun j => nI (cnt j)))), (aC, .inl (kC, 52035, .inl cel))]) [0, 1, 2] rfl
  have hDc := hD.sub (ws' := [(aS, .inr (1, [.ref aN, .ref aC])), (aN, .inl (kN, 5, .inl (fun j => nI (cnt j)))), (aC, .inl (kC, 52035, .inl cel))]) [0, 1, 2] (by decide) rfl
  have hKc := hK.sub (tys' := [(kN, .int), (kC, .int)]) [0, 1] rfl
  have hFc := va_free (wc := [(aS, .inr (1, [.ref aN, .ref aC])), (aN, .inl (kN, 5, .inl (fun j => nI (cnt j)))), (aC, .inl (kC, 52035, .inl cel))]) hD hS hA [0, 1, 2] rfl
  refine va_calli (va_runV (As := [.int 2, .int ki, .int 1]) (rest := []) ⟨hx, hb, hml, hown, hts⟩ (c_Sc_fact l G dC dI H.size aS aN aC kN cnt kC cel 2 ki 1 hc) (cwV 3 hts (gV tw_177 tw_143 tw_144 tw_4 tw_145 rfl) rfl rfl rfl (by decide +kernel) ⟨Nat.le_of_ble_eq_true rfl, Nat.le_of_ble_eq_true rfl⟩) (PW_preV hPc hKc hDc hE hS hFc (ci := 1) (q0 := 0) rfl rfl) rfl rfl hl.1 rfl (lv_room (Nat.le_of_ble_eq_true rfl)) d_Sc_meshListLength_4 ⟨Nat.le_of_ble_eq_true rfl, Nat.le_of_ble_eq_true rfl⟩) hS (fun q _ h => hFc q h) hFc (fun r_1 uu t H1 locs ht hvm hw_2 hB hz1 hk1 hS => ?_)
  obtain ⟨hP1, hD1, hsz1⟩ := hB
  rw [ht] at hP1 hsz1
  obtain ⟨hP, hD⟩ := va_join (wr := []) (w1 := [(aS, .inr (1, [.ref aN, .ref aC])), (aN, .inl (kN, 5, .inl (fun j => nI (cnt j)))), (aC, .inl (kC, 52035, .inl cel))]) hP hD [0, 1, 2] [] rfl rfl (by decide) (by decide) hk1 hFc hP1 hD1
  generalize H1 = H at hP hS ⊢
  have hP : va_P (dC, dI) vwCl [(aS, .inr (1, [.ref aN, .ref aC])), (aN, .inl (kN, 5, .inl (fun j => nI (cnt j)))), (aC, .inl (kC, 52035, .inl cel))] H := hP
  have hD : va_D A [(aS, .inr (1, [.ref aN, .ref aC])), (aN, .inl (kN, 5, .inl (fun j => nI (cnt j)))), (aC, .inl (kC, 52035, .inl cel))] := hD
  subst hw_2
  refine lv_istore_n (lv' := [(3, .int (zFact cnt cel 2 ki 1)), (0, .ref aS), (1, .int ki), (2, .int li)]) hx hb d_Sc_meshListLength_7 rfl hl (by decide) rfl (fun ls hl => ?_)
  refine lv_iload_n hx hb d_Sc_meshListLength_8 rfl (lv_at hl 3 rfl) ?_
  by_cases hv_3 : li = 0
  ·
    subst hv_3
    refine lv_tableIn (off := 31) (tgt := 40) hx hb d_Sc_meshListLength_9 (by decide) (by decide) (by decide) (by decide) ?_
    refine lv_iconst (v := 3) hx hb d_Sc_meshListLength_40 (by decide) ?_
    refine lv_iload_n hx hb d_Sc_meshListLength_41 rfl (lv_at hl 0 rfl) ?_
    refine lv_imul hx hb d_Sc_meshListLength_42 ?_
    refine zt_size (fun hzs => ?_)
    have hP9 := hP.sub (ws' := [(aS, .inr (1, [.ref aN, .ref aC])), (aN, .inl (kN, 5, .inl (fun j => nI (cnt j)))), (aC, .inl (kC, 52035, .inl cel))]) [0, 1, 2] rfl
    have hD9 := hD.sub (ws' := [(aS, .inr (1, [.ref aN, .ref aC])), (aN, .inl (kN, 5, .inl (fun j => nI (cnt j)))), (aC, .inl (kC, 52035, .inl cel))]) [0, 1, 2] (by decide) rfl
    exact W.iret (v := 3 * (zFact cnt cel 2 ki 1)) hx hb hr (fun t ht hW => ⟨⟨3 * (zFact cnt cel 2 ki 1), (), rfl, by unfold zMLen; rw [if_pos (Or.inl rfl)], by rw [ht]; exact hP9, hD9, by rw [ht]; exact hzs⟩, hS.F ht⟩) hS.2.2 d_Sc_meshListLength_43
  ·
    by_cases hv_4 : li = 1
    ·
      subst hv_4
      refine lv_tableIn (off := 31) (tgt := 40) hx hb d_Sc_meshListLength_9 (by decide) (by decide) (by decide) (by decide) ?_
      refine lv_iconst (v := 3) hx hb d_Sc_meshListLength_40 (by decide) ?_
      refine lv_iload_n hx hb d_Sc_meshListLength_41 rfl (lv_at hl 0 rfl) ?_
      refine lv_imul hx hb d_Sc_meshListLength_42 ?_
      refine zt_size (fun hzs => ?_)
      have hP9 := hP.sub (ws' := [(aS, .inr (1, [.ref aN, .ref aC])), (aN, .inl (kN, 5, .inl (fun j => nI (cnt j)))), (aC, .inl (kC, 52035, .inl cel))]) [0, 1, 2] rfl
      have hD9 := hD.sub (ws' := [(aS, .inr (1, [.ref aN, .ref aC])), (aN, .inl (kN, 5, .inl (fun j => nI (cnt j)))), (aC, .inl (kC, 52035, .inl cel))]) [0, 1, 2] (by decide) rfl
      exact W.iret (v := 3 * (zFact cnt cel 2 ki 1)) hx hb hr (fun t ht hW => ⟨⟨3 * (zFact cnt cel 2 ki 1), (), rfl, by unfold zMLen; rw [if_pos (Or.inr rfl)], by rw [ht]; exact hP9, hD9, by rw [ht]; exact hzs⟩, hS.F ht⟩) hS.2.2 d_Sc_meshListLength_43
    ·
      by_cases hv_5 : li = 2
      ·
        subst hv_5
        refine lv_tableIn (off := 35) (tgt := 44) hx hb d_Sc_meshListLength_9 (by decide) (by decide) (by decide) (by decide) ?_
        refine lv_iconst (v := 2) hx hb d_Sc_meshListLength_44 (by decide) ?_
        refine lv_iload_n hx hb d_Sc_meshListLength_45 rfl (lv_at hl 0 rfl) ?_
        refine lv_imul hx hb d_Sc_meshListLength_46 ?_
        refine zt_size (fun hzs => ?_)
        have hP9 := hP.sub (ws' := [(aS, .inr (1, [.ref aN, .ref aC])), (aN, .inl (kN, 5, .inl (fun j => nI (cnt j)))), (aC, .inl (kC, 52035, .inl cel))]) [0, 1, 2] rfl
        have hD9 := hD.sub (ws' := [(aS, .inr (1, [.ref aN, .ref aC])), (aN, .inl (kN, 5, .inl (fun j => nI (cnt j)))), (aC, .inl (kC, 52035, .inl cel))]) [0, 1, 2] (by decide) rfl
        exact W.iret (v := 2 * (zFact cnt cel 2 ki 1)) hx hb hr (fun t ht hW => ⟨⟨2 * (zFact cnt cel 2 ki 1), (), rfl, by unfold zMLen; rw [if_neg (by decide), if_pos rfl], by rw [ht]; exact hP9, hD9, by rw [ht]; exact hzs⟩, hS.F ht⟩) hS.2.2 d_Sc_meshListLength_47
      ·
        by_cases hv_6 : li = 3
        ·
          subst hv_6
          refine lv_tableIn (off := 39) (tgt := 48) hx hb d_Sc_meshListLength_9 (by decide) (by decide) (by decide) (by decide) ?_
          refine lv_iconst (v := 3) hx hb d_Sc_meshListLength_48 (by decide) ?_
          refine lv_aload_n hx hb d_Sc_meshListLength_49 rfl (lv_at hl 1 rfl) ?_
          refine lv_iconst (v := 2) hx hb d_Sc_meshListLength_50 (by decide) ?_
          refine lv_iload_n hx hb d_Sc_meshListLength_51 rfl (lv_at hl 2 rfl) ?_
          refine lv_iconst (v := 2) hx hb d_Sc_meshListLength_52 (by decide) ?_
          have hPc := hP.sub (ws' := [(aS, .inr (1, [.ref aN, .ref aC])), (aN, .inl (kN, 5, .inl (fun j => nI (cnt j)))), (aC, .inl (kC, 52035, .inl cel))]) [0, 1, 2] rfl
          have hDc := hD.sub (ws' := [(aS, .inr (1, [.ref aN, .ref aC])), (aN, .inl (kN, 5, .inl (fun j => nI (cnt j)))), (aC, .inl (kC, 52035, .inl cel))]) [0, 1, 2] (by decide) rfl
          have hKc := hK.sub (tys' := [(kN, .int), (kC, .int)]) [0, 1] rfl
          have hFc := va_free (wc := [(aS, .inr (1, [.ref aN, .ref aC])), (aN, .inl (kN, 5, .inl (fun j => nI (cnt j)))), (aC, .inl (kC, 52035, .inl cel))]) hD hS hA [0, 1, 2] rfl
          refine va_calli (va_runV (As := [.int 2, .int ki, .int 2]) (rest := [.int 3]) ⟨hx, hb, hml, hown, hts⟩ (c_Sc_fact l G dC dI H.size aS aN aC kN cnt kC cel 2 ki 2 hc) (cwV 3 hts (gV tw_177 tw_143 tw_144 tw_4 tw_145 rfl) rfl rfl rfl (by decide +kernel) ⟨Nat.le_of_ble_eq_true rfl, Nat.le_of_ble_eq_true rfl⟩) (PW_preV hPc hKc hDc hE hS hFc (ci := 1) (q0 := 0) rfl rfl) rfl rfl hl.1 rfl (lv_room (Nat.le_of_ble_eq_true rfl)) d_Sc_meshListLength_53 ⟨Nat.le_of_ble_eq_true rfl, Nat.le_of_ble_eq_true rfl⟩) hS (fun q _ h => hFc q h) hFc (fun r_7 uu t H1 locs ht hvm hw_8 hB hz1 hk1 hS => ?_)
          obtain ⟨hP1, hD1, hsz1⟩ := hB
          rw [ht] at hP1 hsz1
          obtain ⟨hP, hD⟩ := va_join (wr := []) (w1 := [(aS, .inr (1, [.ref aN, .ref aC])), (aN, .inl (kN, 5, .inl (fun j => nI (cnt j)))), (aC, .inl (kC, 52035, .inl cel))]) hP hD [0, 1, 2] [] rfl rfl (by decide) (by decide) hk1 hFc hP1 hD1
          generalize H1 = H at hP hS ⊢
          have hP : va_P (dC, dI) vwCl [(aS, .inr (1, [.ref aN, .ref aC])), (aN, .inl (kN, 5, .inl (fun j => nI (cnt j)))), (aC, .inl (kC, 52035, .inl cel))] H := hP
          have hD : va_D A [(aS, .inr (1, [.ref aN, .ref aC])), (aN, .inl (kN, 5, .inl (fun j => nI (cnt j)))), (aC, .inl (kC, 52035, .inl cel))] := hD
          subst hw_8
          refine lv_imul hx hb d_Sc_meshListLength_56 ?_
          refine zt_size (fun hzs => ?_)
          have hP9 := hP.sub (ws' := [(aS, .inr (1, [.ref aN, .ref aC])), (aN, .inl (kN, 5, .inl (fun j => nI (cnt j)))), (aC, .inl (kC, 52035, .inl cel))]) [0, 1, 2] rfl
          have hD9 := hD.sub (ws' := [(aS, .inr (1, [.ref aN, .ref aC])), (aN, .inl (kN, 5, .inl (fun j => nI (cnt j)))), (aC, .inl (kC, 52035, .inl cel))]) [0, 1, 2] (by decide) rfl
          exact W.iret (v := 3 * (zFact cnt cel 2 ki 2)) hx hb hr (fun t ht hW => ⟨⟨3 * (zFact cnt cel 2 ki 2), (), rfl, by unfold zMLen; rw [if_neg (by decide), if_neg (by decide), if_pos rfl], by rw [ht]; exact hP9, hD9, by rw [ht]; exact hzs⟩, hS.F ht⟩) hS.2.2 d_Sc_meshListLength_57
        ·
          refine lv_tableOut (tgt := 58) hx hb d_Sc_meshListLength_9 (by have q0 := lv_neT (a := 0) hv_3 (by decide); have q1 := lv_neT (a := 1) hv_4 (by decide); have q2 := lv_neT (a := 2) hv_5 (by decide); have q3 := lv_neT (a := 3) hv_6 (by decide); omega) (by decide) ?_
          refine lv_iconst (v := 0) hx hb d_Sc_meshListLength_58 (by decide) ?_
          refine zt_size (fun hzs => ?_)
          have hP9 := hP.sub (ws' := [(aS, .inr (1, [.ref aN, .ref aC])), (aN, .inl (kN, 5, .inl (fun j => nI (cnt j)))), (aC, .inl (kC, 52035, .inl cel))]) [0, 1, 2] rfl
          have hD9 := hD.sub (ws' := [(aS, .inr (1, [.ref aN, .ref aC])), (aN, .inl (kN, 5, .inl (fun j => nI (cnt j)))), (aC, .inl (kC, 52035, .inl cel))]) [0, 1, 2] (by decide) rfl
          exact W.iret (v := 0) hx hb hr (fun t ht hW => ⟨⟨0, (), rfl, by unfold zMLen; rw [if_neg (fun z => z.elim hv_3 hv_4), if_neg hv_5, if_neg hv_6], by rw [ht]; exact hP9, hD9, by rw [ht]; exact hzs⟩, hS.F ht⟩) hS.2.2 d_Sc_meshListLength_59
set_option maxHeartbeats 4000000 in
set_option maxRecDepth 100000 in
theorem c_Sc_listLength (l : Launch) (G : ZG) (dC : Nat → ClassId) (dI : Nat → Nat → Nat) (sz : Nat) (aS : Nat) (aN : Nat) (aC : Nat) (kN : ClassId) (cnt : Nat → Nat) (kC : ClassId) (cel : Nat → Int32) (kd : Int32) (ki : Int32) (li : Int32) (hc : ∀ j, j < 5 → cnt j ≤ zM j) : Met l y_Sc_listLength w_Sc_listLength ({ frames := 4, cells := 0, slots := 0, locals := 89 }) (va_Pc [.ref aS, .int kd, .int ki, .int li] (PW G (dC, dI) [(kN, .int), (kC, .int)] [(aS, .inr (1, [.ref aN, .ref aC])), (aN, .inl (kN, 5, .inl (fun j => nI (cnt j)))), (aC, .inl (kC, 52035, .inl cel))] sz)) (va_Qi (fun (r : Int32) (uu : Unit) => r = zLLen cnt cel kd ki li) (fun (uu : Unit) t => BW (dC, dI) [(aS, .inr (1, [.ref aN, .ref aC])), (aN, .inl (kN, 5, .inl (fun j => nI (cnt j)))), (aC, .inl (kC, 52035, .inl cel))] (va_A [(aS, .inr (1, [.ref aN, .ref aC])), (aN, .inl (kN, 5, .inl (fun j => nI (cnt j)))), (aC, .inl (kC, 52035, .inl cel))] sz) sz t) (va_A [(aS, .inr (1, [.ref aN, .ref aC])), (aN, .inl (kN, 5, .inl (fun j => nI (cnt j)))), (aC, .inl (kC, 52035, .inl cel))] sz)) 0 0 (va_A [(aS, .inr (1, [.ref aN, .ref aC])), (aN, .inl (kN, 5, .inl (fun j => nI (cnt j)))), (aC, .inl (kC, 52035, .inl cel))] sz) := by
  refine Met.ofW (cc := prog_3_method_13_code) (maxL := 6) (ret := (some .int)) (by decide) rfl ?_
  intro p e s m args below meth c s₁ Bd hml hv
  obtain ⟨rfl, hsz, hP, hK, hD0, hE⟩ := hv
  have hx := Bd.exec
  have hb := Bd.bytes
  have hr := Bd.returns
  have hts := atoms_spec (ws := w_Sc_listLength) Bd.pre
  have hown : s.vm.findClass R_Sc = some m.cls := findClass_of_methodNamed Bd.named
  have hlocks := Bd.notSynchronized
  have hz : ∀ w ∈ ZW, w.before _ s = true := fun w h => hts w (List.mem_cons_of_mem _ h)
  subst hsz
  have hD := hD0.self (sz := s.heap.size)
  generalize hAe : va_A [(aS, .inr (1, [.ref aN, .ref aC])), (aN, .inl (kN, 5, .inl (fun j => nI (cnt j)))), (aC, .inl (kC, 52035, .inl cel))] s.heap.size = A at hD hE ⊢
  have hA : ∀ q : Nat, s.heap.size ≤ q → A q := fun q h => by rw [← hAe]; exact Or.inr h
  have hS : va_S A s.heap s.heap [] := va_S.rf
  have hl := lv_entry ([.ref aS, .int kd, .int ki, .int li]) (n := 6) (Nat.le_of_ble_eq_true rfl)
  rw [lg_entry_eq]
  generalize (lg_sl ([.ref aS, .int kd, .int ki, .int li]) ++ List.replicate (6 - (lg_sl ([.ref aS, .int kd, .int ki, .int li])).length) Slot.unset).toArray = ls at hl ⊢
  have hl : lv_has ls 6 [(0, .ref aS), (1, .int kd), (2, .int ki), (3, .int li)] := hl
  obtain ⟨H, hH⟩ : ∃ z, z = s.heap := ⟨_, rfl⟩
  have hP : va_P (dC, dI) vwCl [(aS, .inr (1, [.ref aN, .ref aC])), (aN, .inl (kN, 5, .inl (fun j => nI (cnt j)))), (aC, .inl (kC, 52035, .inl cel))] H := by rw [hH]; exact hP
  have hS : va_S A s.heap H [] := by rw [hH]; exact hS
  refine zt_heap hH ?_
  refine lv_iload_n hx hb d_Sc_listLength_0 rfl (lv_at hl 1 rfl) ?_
  by_cases hv_1 : kd = 0
  ·
    subst hv_1
    refine lv_tableIn (off := 35) (tgt := 36) hx hb d_Sc_listLength_1 (by decide) (by decide) (by decide) (by decide) ?_
    refine lv_aload_n hx hb d_Sc_listLength_36 rfl (lv_at hl 0 rfl) ?_
    refine lv_iload_n hx hb d_Sc_listLength_37 rfl (lv_at hl 1 rfl) ?_
    refine lv_iload_n hx hb d_Sc_listLength_38 rfl (lv_at hl 2 rfl) ?_
    refine lv_iconst (v := 0) hx hb d_Sc_listLength_39 (by decide) ?_
    have hPc := hP.sub (ws' := [(aS, .inr (1, [.ref aN, .ref aC])), (aN, .inl (kN, 5, .inl (fun j => nI (cnt j)))), (aC, .inl (kC, 52035, .inl cel))]) [0, 1, 2] rfl
    have hDc := hD.sub (ws' := [(aS, .inr (1, [.ref aN, .ref aC])), (aN, .inl (kN, 5, .inl (fun j => nI (cnt j)))), (aC, .inl (kC, 52035, .inl cel))]) [0, 1, 2] (by decide) rfl
    have hKc := hK.sub (tys' := [(kN, .int), (kC, .int)]) [0, 1] rfl
    have hFc := va_free (wc := [(aS, .inr (1, [.ref aN, .ref aC])), (aN, .inl (kN, 5, .inl (fun j => nI (cnt j)))), (aC, .inl (kC, 52035, .inl cel))]) hD hS hA [0, 1, 2] rfl
    refine va_calli (va_runV (As := [.int 0, .int ki, .int 0]) (rest := []) ⟨hx, hb, hml, hown, hts⟩ (c_Sc_fact l G dC dI H.size aS aN aC kN cnt kC cel 0 ki 0 hc) (cwV 3 hts (gV tw_177 tw_143 tw_144 tw_4 tw_145 rfl) rfl rfl rfl (by decide +kernel) ⟨Nat.le_of_ble_eq_true rfl, Nat.le_of_ble_eq_true rfl⟩) (PW_preV hPc hKc hDc hE hS hFc (ci := 1) (q0 := 0) rfl rfl) rfl rfl hl.1 rfl (lv_room (Nat.le_of_ble_eq_true rfl)) d_Sc_listLength_40 ⟨Nat.le_of_ble_eq_true rfl, Nat.le_of_ble_eq_true rfl⟩) hS (fun q _ h => hFc q h) hFc (fun r_2 uu t H1 locs ht hvm hw_3 hB hz1 hk1 hS => ?_)
    obtain ⟨hP1, hD1, hsz1⟩ := hB
    rw [ht] at hP1 hsz1
    obtain ⟨hP, hD⟩ := va_join (wr := []) (w1 := [(aS, .inr (1, [.ref aN, .ref aC])), (aN, .inl (kN, 5, .inl (fun j => nI (cnt j)))), (aC, .inl (kC, 52035, .inl cel))]) hP hD [0, 1, 2] [] rfl rfl (by decide) (by decide) hk1 hFc hP1 hD1
    generalize H1 = H at hP hS ⊢
    have hP : va_P (dC, dI) vwCl [(aS, .inr (1, [.ref aN, .ref aC])), (aN, .inl (kN, 5, .inl (fun j => nI (cnt j)))), (aC, .inl (kC, 52035, .inl cel))] H := hP
    have hD : va_D A [(aS, .inr (1, [.ref aN, .ref aC])), (aN, .inl (kN, 5, .inl (fun j => nI (cnt j)))), (aC, .inl (kC, 52035, .inl cel))] := hD
    subst hw_3
    refine lv_istore (lv' := [(4, .int (zFact cnt cel 0 ki 0)), (0, .ref aS), (1, .int 0), (2, .int ki), (3, .int li)]) hx hb d_Sc_listLength_43 hl (by decide) rfl (fun ls hl => ?_)
    refine lv_iload_n hx hb d_Sc_listLength_45 rfl (lv_at hl 4 rfl) ?_
    refine lv_if_ne (tgt := 59) hx hb d_Sc_listLength_46 (by decide) (fun c_4 => ?_) (fun c_4 => ?_)
    ·
      refine lv_iconst (v := 0) hx hb d_Sc_listLength_59 (by decide) ?_
      refine zt_size (fun hzs => ?_)
      have hP9 := hP.sub (ws' := [(aS, .inr (1, [.ref aN, .ref aC])), (aN, .inl (kN, 5, .inl (fun j => nI (cnt j)))), (aC, .inl (kC, 52035, .inl cel))]) [0, 1, 2] rfl
      have hD9 := hD.sub (ws' := [(aS, .inr (1, [.ref aN, .ref aC])), (aN, .inl (kN, 5, .inl (fun j => nI (cnt j)))), (aC, .inl (kC, 52035, .inl cel))]) [0, 1, 2] (by decide) rfl
      exact W.iret (v := 0) hx hb hr (fun t ht hW => ⟨⟨0, (), rfl, by unfold zLLen; rw [if_pos rfl, if_neg c_4], by rw [ht]; exact hP9, hD9, by rw [ht]; exact hzs⟩, hS.F ht⟩) hS.2.2 d_Sc_listLength_60
    ·
      refine lv_iconst (v := 3) hx hb d_Sc_listLength_49 (by decide) ?_
      refine lv_iload hx hb d_Sc_listLength_50 (lv_at hl 0 rfl) ?_
      refine lv_imul hx hb d_Sc_listLength_52 ?_
      refine lv_iload hx hb d_Sc_listLength_53 (lv_at hl 0 rfl) ?_
      refine lv_imul hx hb d_Sc_listLength_55 ?_
      refine lv_goto (tgt := 60) hx hb d_Sc_listLength_56 (by decide) ?_
      refine zt_size (fun hzs => ?_)
      have hP9 := hP.sub (ws' := [(aS, .inr (1, [.ref aN, .ref aC])), (aN, .inl (kN, 5, .inl (fun j => nI (cnt j)))), (aC, .inl (kC, 52035, .inl cel))]) [0, 1, 2] rfl
      have hD9 := hD.sub (ws' := [(aS, .inr (1, [.ref aN, .ref aC])), (aN, .inl (kN, 5, .inl (fun j => nI (cnt j)))), (aC, .inl (kC, 52035, .inl cel))]) [0, 1, 2] (by decide) rfl
      exact W.iret (v := (3 * (zFact cnt cel 0 ki 0)) * (zFact cnt cel 0 ki 0)) hx hb hr (fun t ht hW => ⟨⟨(3 * (zFact cnt cel 0 ki 0)) * (zFact cnt cel 0 ki 0), (), rfl, by unfold zLLen; rw [if_pos rfl, if_pos c_4], by rw [ht]; exact hP9, hD9, by rw [ht]; exact hzs⟩, hS.F ht⟩) hS.2.2 d_Sc_listLength_60
  ·
    by_cases hv_5 : kd = 1
    ·
      subst hv_5
      refine lv_tableIn (off := 99) (tgt := 100) hx hb d_Sc_listLength_1 (by decide) (by decide) (by decide) (by decide) ?_
      refine lv_iconst (v := 0) hx hb d_Sc_listLength_100 (by decide) ?_
      refine zt_size (fun hzs => ?_)
      have hP9 := hP.sub (ws' := [(aS, .inr (1, [.ref aN, .ref aC])), (aN, .inl (kN, 5, .inl (fun j => nI (cnt j)))), (aC, .inl (kC, 52035, .inl cel))]) [0, 1, 2] rfl
      have hD9 := hD.sub (ws' := [(aS, .inr (1, [.ref aN, .ref aC])), (aN, .inl (kN, 5, .inl (fun j => nI (cnt j)))), (aC, .inl (kC, 52035, .inl cel))]) [0, 1, 2] (by decide) rfl
      exact W.iret (v := 0) hx hb hr (fun t ht hW => ⟨⟨0, (), rfl, by unfold zLLen; rw [if_neg (by decide), if_neg (by decide), if_neg (by decide)], by rw [ht]; exact hP9, hD9, by rw [ht]; exact hzs⟩, hS.F ht⟩) hS.2.2 d_Sc_listLength_101
    ·
      by_cases hv_6 : kd = 2
      ·
        subst hv_6
        refine lv_tableIn (off := 60) (tgt := 61) hx hb d_Sc_listLength_1 (by decide) (by decide) (by decide) (by decide) ?_
        refine lv_aload_n hx hb d_Sc_listLength_61 rfl (lv_at hl 0 rfl) ?_
        refine lv_iload_n hx hb d_Sc_listLength_62 rfl (lv_at hl 2 rfl) ?_
        refine lv_iload_n hx hb d_Sc_listLength_63 rfl (lv_at hl 3 rfl) ?_
        have hPc := hP.sub (ws' := [(aS, .inr (1, [.ref aN, .ref aC])), (aN, .inl (kN, 5, .inl (fun j => nI (cnt j)))), (aC, .inl (kC, 52035, .inl cel))]) [0, 1, 2] rfl
        have hDc := hD.sub (ws' := [(aS, .inr (1, [.ref aN, .ref aC])), (aN, .inl (kN, 5, .inl (fun j => nI (cnt j)))), (aC, .inl (kC, 52035, .inl cel))]) [0, 1, 2] (by decide) rfl
        have hKc := hK.sub (tys' := [(kN, .int), (kC, .int)]) [0, 1] rfl
        have hFc := va_free (wc := [(aS, .inr (1, [.ref aN, .ref aC])), (aN, .inl (kN, 5, .inl (fun j => nI (cnt j)))), (aC, .inl (kC, 52035, .inl cel))]) hD hS hA [0, 1, 2] rfl
        refine va_calli (va_runV (As := [.int ki, .int li]) (rest := []) ⟨hx, hb, hml, hown, hts⟩ (c_Sc_meshListLength l G dC dI H.size aS aN aC kN cnt kC cel ki li hc) (cwV 2 hts (gV tw_178 tw_180 ts_4 tw_4 tw_181 rfl) rfl rfl rfl (by decide +kernel) ⟨Nat.le_of_ble_eq_true rfl, Nat.le_of_ble_eq_true rfl⟩) (PW_preV hPc hKc hDc hE hS hFc (ci := 1) (q0 := 0) rfl rfl) rfl rfl hl.1 rfl (lv_room (Nat.le_of_ble_eq_true rfl)) d_Sc_listLength_64 ⟨Nat.le_of_ble_eq_true rfl, Nat.le_of_ble_eq_true rfl⟩) hS (fun q _ h => hFc q h) hFc (fun r_7 uu t H1 locs ht hvm hw_8 hB hz1 hk1 hS => ?_)
        obtain ⟨hP1, hD1, hsz1⟩ := hB
        rw [ht] at hP1 hsz1
        obtain ⟨hP, hD⟩ := va_join (wr := []) (w1 := [(aS, .inr (1, [.ref aN, .ref aC])), (aN, .inl (kN, 5, .inl (fun j => nI (cnt j)))), (aC, .inl (kC, 52035, .inl cel))]) hP hD [0, 1, 2] [] rfl rfl (by decide) (by decide) hk1 hFc hP1 hD1
        generalize H1 = H at hP hS ⊢
        have hP : va_P (dC, dI) vwCl [(aS, .inr (1, [.ref aN, .ref aC])), (aN, .inl (kN, 5, .inl (fun j => nI (cnt j)))), (aC, .inl (kC, 52035, .inl cel))] H := hP
        have hD : va_D A [(aS, .inr (1, [.ref aN, .ref aC])), (aN, .inl (kN, 5, .inl (fun j => nI (cnt j)))), (aC, .inl (kC, 52035, .inl cel))] := hD
        refine zt_size (fun hzs => ?_)
        have hP9 := hP.sub (ws' := [(aS, .inr (1, [.ref aN, .ref aC])), (aN, .inl (kN, 5, .inl (fun j => nI (cnt j)))), (aC, .inl (kC, 52035, .inl cel))]) [0, 1, 2] rfl
        have hD9 := hD.sub (ws' := [(aS, .inr (1, [.ref aN, .ref aC])), (aN, .inl (kN, 5, .inl (fun j => nI (cnt j)))), (aC, .inl (kC, 52035, .inl cel))]) [0, 1, 2] (by decide) rfl
        exact W.iret (v := r_7) hx hb hr (fun t ht hW => ⟨⟨r_7, (), rfl, by unfold zLLen; rw [if_neg (by decide), if_pos rfl]; exact hw_8, by rw [ht]; exact hP9, hD9, by rw [ht]; exact hzs⟩, hS.F ht⟩) hS.2.2 d_Sc_listLength_67
      ·
        by_cases hv_9 : kd = 3
        ·
          subst hv_9
          refine lv_tableIn (off := 99) (tgt := 100) hx hb d_Sc_listLength_1 (by decide) (by decide) (by decide) (by decide) ?_
          refine lv_iconst (v := 0) hx hb d_Sc_listLength_100 (by decide) ?_
          refine zt_size (fun hzs => ?_)
          have hP9 := hP.sub (ws' := [(aS, .inr (1, [.ref aN, .ref aC])), (aN, .inl (kN, 5, .inl (fun j => nI (cnt j)))), (aC, .inl (kC, 52035, .inl cel))]) [0, 1, 2] rfl
          have hD9 := hD.sub (ws' := [(aS, .inr (1, [.ref aN, .ref aC])), (aN, .inl (kN, 5, .inl (fun j => nI (cnt j)))), (aC, .inl (kC, 52035, .inl cel))]) [0, 1, 2] (by decide) rfl
          exact W.iret (v := 0) hx hb hr (fun t ht hW => ⟨⟨0, (), rfl, by unfold zLLen; rw [if_neg (by decide), if_neg (by decide), if_neg (by decide)], by rw [ht]; exact hP9, hD9, by rw [ht]; exact hzs⟩, hS.F ht⟩) hS.2.2 d_Sc_listLength_101
        ·
          by_cases hv_10 : kd = 4
          ·
            subst hv_10
            refine lv_tableIn (off := 67) (tgt := 68) hx hb d_Sc_listLength_1 (by decide) (by decide) (by decide) (by decide) ?_
            refine lv_aload_n hx hb d_Sc_listLength_68 rfl (lv_at hl 0 rfl) ?_
            refine lv_iload_n hx hb d_Sc_listLength_69 rfl (lv_at hl 1 rfl) ?_
            refine lv_iload_n hx hb d_Sc_listLength_70 rfl (lv_at hl 2 rfl) ?_
            refine lv_iconst (v := 3) hx hb d_Sc_listLength_71 (by decide) ?_
            have hPc := hP.sub (ws' := [(aS, .inr (1, [.ref aN, .ref aC])), (aN, .inl (kN, 5, .inl (fun j => nI (cnt j)))), (aC, .inl (kC, 52035, .inl cel))]) [0, 1, 2] rfl
            have hDc := hD.sub (ws' := [(aS, .inr (1, [.ref aN, .ref aC])), (aN, .inl (kN, 5, .inl (fun j => nI (cnt j)))), (aC, .inl (kC, 52035, .inl cel))]) [0, 1, 2] (by decide) rfl
            have hKc := hK.sub (tys' := [(kN, .int), (kC, .int)]) [0, 1] rfl
            have hFc := va_free (wc := [(aS, .inr (1, [.ref aN, .ref aC])), (aN, .inl (kN, 5, .inl (fun j => nI (cnt j)))), (aC, .inl (kC, 52035, .inl cel))]) hD hS hA [0, 1, 2] rfl
            refine va_calli (va_runV (As := [.int 4, .int ki, .int 3]) (rest := []) ⟨hx, hb, hml, hown, hts⟩ (c_Sc_fact l G dC dI H.size aS aN aC kN cnt kC cel 4 ki 3 hc) (cwV 3 hts (gV tw_177 tw_143 tw_144 tw_4 tw_145 rfl) rfl rfl rfl (by decide +kernel) ⟨Nat.le_of_ble_eq_true rfl, Nat.le_of_ble_eq_true rfl⟩) (PW_preV hPc hKc hDc hE hS hFc (ci := 1) (q0 := 0) rfl rfl) rfl rfl hl.1 rfl (lv_room (Nat.le_of_ble_eq_true rfl)) d_Sc_listLength_72 ⟨Nat.le_of_ble_eq_true rfl, Nat.le_of_ble_eq_true rfl⟩) hS (fun q _ h => hFc q h) hFc (fun r_11 uu t H1 locs ht hvm hw_12 hB hz1 hk1 hS => ?_)
            obtain ⟨hP1, hD1, hsz1⟩ := hB
            rw [ht] at hP1 hsz1
            obtain ⟨hP, hD⟩ := va_join (wr := []) (w1 := [(aS, .inr (1, [.ref aN, .ref aC])), (aN, .inl (kN, 5, .inl (fun j => nI (cnt j)))), (aC, .inl (kC, 52035, .inl cel))]) hP hD [0, 1, 2] [] rfl rfl (by decide) (by decide) hk1 hFc hP1 hD1
            generalize H1 = H at hP hS ⊢
            have hP : va_P (dC, dI) vwCl [(aS, .inr (1, [.ref aN, .ref aC])), (aN, .inl (kN, 5, .inl (fun j => nI (cnt j)))), (aC, .inl (kC, 52035, .inl cel))] H := hP
            have hD : va_D A [(aS, .inr (1, [.ref aN, .ref aC])), (aN, .inl (kN, 5, .inl (fun j => nI (cnt j)))), (aC, .inl (kC, 52035, .inl cel))] := hD
            subst hw_12
            refine lv_istore (lv' := [(5, .int (zFact cnt cel 4 ki 3)), (0, .ref aS), (1, .int 4), (2, .int ki), (3, .int li)]) hx hb d_Sc_listLength_75 hl (by decide) rfl (fun ls hl => ?_)
            refine lv_iload_n hx hb d_Sc_listLength_77 rfl (lv_at hl 4 rfl) ?_
            refine lv_if_ne (tgt := 86) hx hb d_Sc_listLength_78 (by decide) (fun c_13 => ?_) (fun c_13 => ?_)
            ·
              refine lv_iload_n hx hb d_Sc_listLength_86 rfl (lv_at hl 4 rfl) ?_
              refine lv_iconst (v := 1) hx hb d_Sc_listLength_87 (by decide) ?_
              refine lv_icmp_ne (tgt := 98) hx hb d_Sc_listLength_88 (by decide) (fun c_14 => ?_) (fun c_14 => ?_)
              ·
                refine lv_iconst (v := 0) hx hb d_Sc_listLength_98 (by decide) ?_
                refine zt_size (fun hzs => ?_)
                have hP9 := hP.sub (ws' := [(aS, .inr (1, [.ref aN, .ref aC])), (aN, .inl (kN, 5, .inl (fun j => nI (cnt j)))), (aC, .inl (kC, 52035, .inl cel))]) [0, 1, 2] rfl
                have hD9 := hD.sub (ws' := [(aS, .inr (1, [.ref aN, .ref aC])), (aN, .inl (kN, 5, .inl (fun j => nI (cnt j)))), (aC, .inl (kC, 52035, .inl cel))]) [0, 1, 2] (by decide) rfl
                exact W.iret (v := 0) hx hb hr (fun t ht hW => ⟨⟨0, (), rfl, by unfold zLLen; rw [if_neg (by decide), if_neg (by decide), if_pos rfl, if_neg c_13, if_neg c_14], by rw [ht]; exact hP9, hD9, by rw [ht]; exact hzs⟩, hS.F ht⟩) hS.2.2 d_Sc_listLength_99
              ·
                refine lv_iconst (v := 3) hx hb d_Sc_listLength_91 (by decide) ?_
                refine lv_iload hx hb d_Sc_listLength_92 (lv_at hl 0 rfl) ?_
                refine lv_imul hx hb d_Sc_listLength_94 ?_
                refine lv_goto (tgt := 99) hx hb d_Sc_listLength_95 (by decide) ?_
                refine zt_size (fun hzs => ?_)
                have hP9 := hP.sub (ws' := [(aS, .inr (1, [.ref aN, .ref aC])), (aN, .inl (kN, 5, .inl (fun j => nI (cnt j)))), (aC, .inl (kC, 52035, .inl cel))]) [0, 1, 2] rfl
                have hD9 := hD.sub (ws' := [(aS, .inr (1, [.ref aN, .ref aC])), (aN, .inl (kN, 5, .inl (fun j => nI (cnt j)))), (aC, .inl (kC, 52035, .inl cel))]) [0, 1, 2] (by decide) rfl
                exact W.iret (v := 3 * (zFact cnt cel 4 ki 3)) hx hb hr (fun t ht hW => ⟨⟨3 * (zFact cnt cel 4 ki 3), (), rfl, by unfold zLLen; rw [if_neg (by decide), if_neg (by decide), if_pos rfl, if_neg c_13, if_pos c_14], by rw [ht]; exact hP9, hD9, by rw [ht]; exact hzs⟩, hS.F ht⟩) hS.2.2 d_Sc_listLength_99
            ·
              refine lv_iload hx hb d_Sc_listLength_81 (lv_at hl 0 rfl) ?_
              refine lv_goto (tgt := 99) hx hb d_Sc_listLength_83 (by decide) ?_
              refine zt_size (fun hzs => ?_)
              have hP9 := hP.sub (ws' := [(aS, .inr (1, [.ref aN, .ref aC])), (aN, .inl (kN, 5, .inl (fun j => nI (cnt j)))), (aC, .inl (kC, 52035, .inl cel))]) [0, 1, 2] rfl
              have hD9 := hD.sub (ws' := [(aS, .inr (1, [.ref aN, .ref aC])), (aN, .inl (kN, 5, .inl (fun j => nI (cnt j)))), (aC, .inl (kC, 52035, .inl cel))]) [0, 1, 2] (by decide) rfl
              exact W.iret (v := zFact cnt cel 4 ki 3) hx hb hr (fun t ht hW => ⟨⟨zFact cnt cel 4 ki 3, (), rfl, by unfold zLLen; rw [if_neg (by decide), if_neg (by decide), if_pos rfl, if_pos c_13], by rw [ht]; exact hP9, hD9, by rw [ht]; exact hzs⟩, hS.F ht⟩) hS.2.2 d_Sc_listLength_99
          ·
            refine lv_tableOut (tgt := 100) hx hb d_Sc_listLength_1 (by have q0 := lv_neT (a := 0) hv_1 (by decide); have q1 := lv_neT (a := 1) hv_5 (by decide); have q2 := lv_neT (a := 2) hv_6 (by decide); have q3 := lv_neT (a := 3) hv_9 (by decide); have q4 := lv_neT (a := 4) hv_10 (by decide); omega) (by decide) ?_
            refine lv_iconst (v := 0) hx hb d_Sc_listLength_100 (by decide) ?_
            refine zt_size (fun hzs => ?_)
            have hP9 := hP.sub (ws' := [(aS, .inr (1, [.ref aN, .ref aC])), (aN, .inl (kN, 5, .inl (fun j => nI (cnt j)))), (aC, .inl (kC, 52035, .inl cel))]) [0, 1, 2] rfl
            have hD9 := hD.sub (ws' := [(aS, .inr (1, [.ref aN, .ref aC])), (aN, .inl (kN, 5, .inl (fun j => nI (cnt j)))), (aC, .inl (kC, 52035, .inl cel))]) [0, 1, 2] (by decide) rfl
            exact W.iret (v := 0) hx hb hr (fun t ht hW => ⟨⟨0, (), rfl, by unfold zLLen; rw [if_neg hv_1, if_neg hv_6, if_neg hv_10], by rw [ht]; exact hP9, hD9, by rw [ht]; exact hzs⟩, hS.F ht⟩) hS.2.2 d_Sc_listLength_101
