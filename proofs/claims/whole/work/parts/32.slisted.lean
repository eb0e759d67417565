theorem zFact_0 {cnt : Nat → Nat} {cel : Nat → Int32} {kd k wh : Int32} (h : ¬ zHs cnt kd k) : zFact cnt cel kd k wh = 0 := by
  unfold zFact; rw [if_neg (fun z => h ⟨z.1, z.2.1⟩)]
theorem zLLen_0 {cnt : Nat → Nat} {cel : Nat → Int32} {kd k li : Int32} (h : ¬ zHs cnt kd k) : zLLen cnt cel kd k li = 0 := by
  unfold zLLen
  split
  · rename_i e; subst e; rw [zFact_0 h]; split <;> decide
  · split
    · rename_i e; subst e; unfold zMLen; rw [zFact_0 h, zFact_0 h]; split
      · decide
      · split
        · decide
        · split <;> decide
    · split
      · rename_i e; subst e; rw [zFact_0 h]; split
        · rfl
        · split <;> decide
      · rfl
def zCq (cel : Nat → Int32) (q : Int32) : Int32 := if zIn q 52035 then cel q.toNatClampNeg else 0
def zLd (cnt : Nat → Nat) (cel : Nat → Int32) (kd k li i : Int32) : Int32 := if ¬ i < 0 ∧ i < zLLen cnt cel kd k li then zCq cel (nI (zST kd.toNatClampNeg + k.toNatClampNeg * zWD kd.toNatClampNeg) + zLSt kd li + i) else 0
set_option maxHeartbeats 4000000 in
set_option maxRecDepth 100000 in
theorem c_Sc_listed (l : Launch) (G : ZG) (dC : Nat → ClassId) (dI : Nat → Nat → Nat) (sz : Nat) (aS : Nat) (aN : Nat) (aC : Nat) (kN : ClassId) (cnt : Nat → Nat) (kC : ClassId) (cel : Nat → Int32) (kd : Int32) (ki : Int32) (li : Int32) (ii : Int32) (hc : ∀ j, j < 5 → cnt j ≤ zM j) : Met l y_Sc_listed w_Sc_listed ({ frames := 5, cells := 0, slots := 0, locals := 114 }) (va_Pc [.ref aS, .int kd, .int ki, .int li, .int ii] (PW G (dC, dI) [(kN, .int), (kC, .int)] [(aS, .inr (1, [.ref aN, .ref aC])), (aN, .inl (kN, 5, .inl (fun j => nI (cnt j)))), (aC, .inl (kC, 52035, .inl cel))] sz)) (va_Qi (fun (r : Int32) (uu : Unit) => r = zLd cnt cel kd ki li ii) (fun (uu : Unit) t => BW (dC, dI) [(aS, .inr (1, [.ref aN, .ref aC])), (aN, .inl (kN, 5, .inl (fun j => nI (cnt j)))), (aC, .inl (kC, 52035, .inl cel))] (va_A [(aS, .inr (1, [.ref aN, .ref aC])), (aN, .inl (kN, 5, .inl (fun j => nI (cnt j)))), (aC, .inl (kC, 52035, .inl cel))] sz) sz t) (va_A [(aS, .inr (1, [.ref aN, .ref aC])), (aN, .inl (kN, 5, .inl (fun j => nI (cnt j)))), (aC, .inl (kC, 52035, .inl cel))] sz)) 0 0 (va_A [(aS, .inr (1, [.ref aN, .ref aC])), (aN, .inl (kN, 5, .inl (fun j => nI (cnt j)))), (aC, .inl (kC, 52035, .inl cel))] sz) := by
  refine Met.ofW (cc := prog_3_method_8_code) (maxL := 5) (ret := (some .int)) (by decide) rfl ?_
  intro p e s m args below meth c s₁ Bd hml hv
  obtain ⟨rfl, hsz, hP, hK, hD0, hE⟩ := hv
  have hx := Bd.exec
  have hb := Bd.bytes
  have hr := Bd.returns
  have hts := atoms_spec (ws := w_Sc_listed) Bd.pre
  have hown : s.vm.findClass R_Sc = some m.cls := findClass_of_methodNamed Bd.named
  have hlocks := Bd.notSynchronized
  have hz : ∀ w ∈ ZW, w.before _ s = true := fun w h => hts w (List.mem_cons_of_mem _ h)
  subst hsz
  have hD := hD0.self (sz := s.heap.size)
  generalize hAe : va_A [(aS, .inr (1, [.ref aN, .ref aC])), (aN, .inl (kN, 5, .inl (fun j => nI (cnt j)))), (aC, .inl (kC, 52035, .inl cel))] s.heap.size = A at hD hE ⊢
  have hA : ∀ q : Nat, s.heap.size ≤ q → A q := fun q h => by rw [← hAe]; exact Or.inr h
  have hS : va_S A s.heap s.heap [] := va_S.rf
  have hl := lv_entry ([.ref aS, .int kd, .int ki, .int li, .int ii]) (n := 5) (Nat.le_of_ble_eq_true rfl)
  rw [lg_entry_eq]
  generalize (lg_sl ([.ref aS, .int kd, .int ki, .int li, .int ii]) ++ List.replicate (5 - (lg_sl ([.ref aS, .int kd, .int ki, .int li, .int ii])).length) Slot.unset).toArray = ls at hl ⊢
  have hl : lv_has ls 5 [(0, .ref aS), (1, .int kd), (2, .int ki), (3, .int li), (4, .int ii)] := hl
  obtain ⟨H, hH⟩ : ∃ z, z = s.heap := ⟨_, rfl⟩
  have hP : va_P (dC, dI) vwCl [(aS, .inr (1, [.ref aN, .ref aC])), (aN, .inl (kN, 5, .inl (fun j => nI (cnt j)))), (aC, .inl (kC, 52035, .inl cel))] H := by rw [hH]; exact hP
  have hS : va_S A s.heap H [] := by rw [hH]; exact hS
  refine zt_heap hH ?_
  refine lv_iload hx hb d_Sc_listed_0 (lv_at hl 4 rfl) ?_
  refine lv_if_lt (tgt := 17) hx hb d_Sc_listed_2 (by decide) (fun c_1 => ?_) (fun c_1 => ?_)
  ·
    refine lv_iconst (v := 0) hx hb d_Sc_listed_17 (by decide) ?_
    refine zt_size (fun hzs => ?_)
    have hP9 := hP.sub (ws' := [(aS, .inr (1, [.ref aN, .ref aC])), (aN, .inl (kN, 5, .inl (fun j => nI (cnt j)))), (aC, .inl (kC, 52035, .inl cel))]) [0, 1, 2] rfl
    have hD9 := hD.sub (ws' := [(aS, .inr (1, [.ref aN, .ref aC])), (aN, .inl (kN, 5, .inl (fun j => nI (cnt j)))), (aC, .inl (kC, 52035, .inl cel))]) [0, 1, 2] (by decide) rfl
    exact W.iret (v := 0) hx hb hr (fun t ht hW => ⟨⟨0, (), rfl, by unfold zLd; rw [if_neg (fun z => z.1 c_1)], by rw [ht]; exact hP9, hD9, by rw [ht]; exact hzs⟩, hS.F ht⟩) hS.2.2 d_Sc_listed_18
  ·
    refine lv_iload hx hb d_Sc_listed_5 (lv_at hl 4 rfl) ?_
    refine lv_aload_n hx hb d_Sc_listed_7 rfl (lv_at hl 0 rfl) ?_
    refine lv_iload_n hx hb d_Sc_listed_8 rfl (lv_at hl 1 rfl) ?_
    refine lv_iload_n hx hb d_Sc_listed_9 rfl (lv_at hl 2 rfl) ?_
    refine lv_iload_n hx hb d_Sc_listed_10 rfl (lv_at hl 3 rfl) ?_
    have hPc := hP.sub (ws' := [(aS, .inr (1, [.ref aN, .ref aC])), (aN, .inl (kN, 5, .inl (fun j => nI (cnt j)))), (aC, .inl (kC, 52035, .inl cel))]) [0, 1, 2] rfl
    have hDc := hD.sub (ws' := [(aS, .inr (1, [.ref aN, .ref aC])), (aN, .inl (kN, 5, .inl (fun j => nI (cnt j)))), (aC, .inl (kC, 52035, .inl cel))]) [0, 1, 2] (by decide) rfl
    have hKc := hK.sub (tys' := [(kN, .int), (kC, .int)]) [0, 1] rfl
    have hFc := va_free (wc := [(aS, .inr (1, [.ref aN, .ref aC])), (aN, .inl (kN, 5, .inl (fun j => nI (cnt j)))), (aC, .inl (kC, 52035, .inl cel))]) hD hS hA [0, 1, 2] rfl
    refine va_calli (va_runV (As := [.int kd, .int ki, .int li]) (rest := [.int ii]) ⟨hx, hb, hml, hown, hts⟩ (c_Sc_listLength l G dC dI H.size aS aN aC kN cnt kC cel kd ki li hc) (cwV 3 hts (gV tw_173 tw_175 ts_3 tw_4 tw_176 rfl) rfl rfl rfl (by decide +kernel) ⟨Nat.le_of_ble_eq_true rfl, Nat.le_of_ble_eq_true rfl⟩) (PW_preV hPc hKc hDc hE hS hFc (ci := 1) (q0 := 0) rfl rfl) rfl rfl hl.1 rfl (lv_room (Nat.le_of_ble_eq_true rfl)) d_Sc_listed_11 ⟨Nat.le_of_ble_eq_true rfl, Nat.le_of_ble_eq_true rfl⟩) hS (fun q _ h => hFc q h) hFc (fun r_2 uu t H1 locs ht hvm hw_3 hB hz1 hk1 hS => ?_)
    obtain ⟨hP1, hD1, hsz1⟩ := hB
    rw [ht] at hP1 hsz1
    obtain ⟨hP, hD⟩ := va_join (wr := []) (w1 := [(aS, .inr (1, [.ref aN, .ref aC])), (aN, .inl (kN, 5, .inl (fun j => nI (cnt j)))), (aC, .inl (kC, 52035, .inl cel))]) hP hD [0, 1, 2] [] rfl rfl (by decide) (by decide) hk1 hFc hP1 hD1
    generalize H1 = H at hP hS ⊢
    have hP : va_P (dC, dI) vwCl [(aS, .inr (1, [.ref aN, .ref aC])), (aN, .inl (kN, 5, .inl (fun j => nI (cnt j)))), (aC, .inl (kC, 52035, .inl cel))] H := hP
    have hD : va_D A [(aS, .inr (1, [.ref aN, .ref aC])), (aN, .inl (kN, 5, .inl (fun j => nI (cnt j)))), (aC, .inl (kC, 52035, .inl cel))] := hD
    subst hw_3
    refine lv_icmp_lt (tgt := 19) hx hb d_Sc_listed_14 (by decide) (fun c_4 => ?_) (fun c_4 => ?_)
    ·
      have hhs : zHs cnt kd ki := by
        by_cases q : zHs cnt kd ki
        · exact q
        · have z := c_4
          rw [zLLen_0 q] at z
          exact absurd z c_1
      have hif : zLd cnt cel kd ki li ii = zCq cel (nI (zST kd.toNatClampNeg + ki.toNatClampNeg * zWD kd.toNatClampNeg) + zLSt kd li + ii) := by unfold zLd; rw [if_pos ⟨c_1, c_4⟩]
      obtain ⟨fa, fb, hfa, hfb, rfl, rfl⟩ := zHs_of hc hhs
      have hm1 := hc fa hfa
      have hm2 := zM_le fa
      refine lv_aload_n hx hb d_Sc_listed_19 rfl (lv_at hl 0 rfl) ?_
      refine lv_aload_n hx hb d_Sc_listed_20 rfl (lv_at hl 0 rfl) ?_
      refine lv_iload_n hx hb d_Sc_listed_21 rfl (lv_at hl 1 rfl) ?_
      refine lv_iload_n hx hb d_Sc_listed_22 rfl (lv_at hl 2 rfl) ?_
      have hPc := hP.sub (ws' := [(aS, .inr (1, [.ref aN, .ref aC])), (aN, .inl (kN, 5, .inl (fun j => nI (cnt j)))), (aC, .inl (kC, 52035, .inl cel))]) [0, 1, 2] rfl
      have hDc := hD.sub (ws' := [(aS, .inr (1, [.ref aN, .ref aC])), (aN, .inl (kN, 5, .inl (fun j => nI (cnt j)))), (aC, .inl (kC, 52035, .inl cel))]) [0, 1, 2] (by decide) rfl
      have hKc := hK.sub (tys' := [(kN, .int), (kC, .int)]) [0, 1] rfl
      have hFc := va_free (wc := [(aS, .inr (1, [.ref aN, .ref aC])), (aN, .inl (kN, 5, .inl (fun j => nI (cnt j)))), (aC, .inl (kC, 52035, .inl cel))]) hD hS hA [0, 1, 2] rfl
      refine va_calli (va_runV (As := [.int (nI fa), .int (nI fb)]) (rest := [.ref aS]) ⟨hx, hb, hml, hown, hts⟩ (c_Sc_firstCell l G dC dI H.size aS aN aC kN cnt kC cel fa fb (by omega)) (cwV 2 hts (gV tw_153 tw_155 ts_1 tw_4 tw_156 rfl) rfl rfl rfl (by decide +kernel) ⟨Nat.le_of_ble_eq_true rfl, Nat.le_of_ble_eq_true rfl⟩) (PW_preV hPc hKc hDc hE hS hFc (ci := 1) (q0 := 0) rfl rfl) rfl rfl hl.1 rfl (lv_room (Nat.le_of_ble_eq_true rfl)) d_Sc_listed_23 ⟨Nat.le_of_ble_eq_true rfl, Nat.le_of_ble_eq_true rfl⟩) hS (fun q _ h => hFc q h) hFc (fun r_5 uu t H1 locs ht hvm hw_6 hB hz1 hk1 hS => ?_)
      obtain ⟨hP1, hD1, hsz1⟩ := hB
      rw [ht] at hP1 hsz1
      obtain ⟨hP, hD⟩ := va_join (wr := []) (w1 := [(aS, .inr (1, [.ref aN, .ref aC])), (aN, .inl (kN, 5, .inl (fun j => nI (cnt j)))), (aC, .inl (kC, 52035, .inl cel))]) hP hD [0, 1, 2] [] rfl rfl (by decide) (by decide) hk1 hFc hP1 hD1
      generalize H1 = H at hP hS ⊢
      have hP : va_P (dC, dI) vwCl [(aS, .inr (1, [.ref aN, .ref aC])), (aN, .inl (kN, 5, .inl (fun j => nI (cnt j)))), (aC, .inl (kC, 52035, .inl cel))] H := hP
      have hD : va_D A [(aS, .inr (1, [.ref aN, .ref aC])), (aN, .inl (kN, 5, .inl (fun j => nI (cnt j)))), (aC, .inl (kC, 52035, .inl cel))] := hD
      subst hw_6
      refine lv_iload_n hx hb d_Sc_listed_26 rfl (lv_at hl 1 rfl) ?_
      refine lv_iload_n hx hb d_Sc_listed_27 rfl (lv_at hl 3 rfl) ?_
      have hPc := hP.sub (ws' := []) [] rfl
      have hDc := hD.sub (ws' := []) [] (by decide) rfl
      have hKc := hK.sub (tys' := []) [] rfl
      have hFc := va_free (wc := []) hD hS hA [] rfl
      refine va_calli (va_runS (As := [.int (nI fa), .int li]) (rest := [.int (nI (zST fa + fb * zWD fa)), .ref aS]) ⟨hx, hb, hml, hown, hts⟩ (c_Sc_listStart l G dC dI H.size (nI fa) li) (va_cwS 2 hts (gS tw_182 tw_183 tw_4 tw_184) rfl rfl rfl (by decide +kernel) ⟨Nat.le_of_ble_eq_true rfl, Nat.le_of_ble_eq_true rfl⟩) (PW_preS hPc hKc hDc hE hS hFc) rfl rfl hl.1 rfl (lv_room (Nat.le_of_ble_eq_true rfl)) d_Sc_listed_28 ⟨Nat.le_of_ble_eq_true rfl, Nat.le_of_ble_eq_true rfl⟩) hS (fun q _ h => hFc q h) hFc (fun r_7 uu t H1 locs ht hvm hw_8 hB hz1 hk1 hS => ?_)
      obtain ⟨hP1, hD1, hsz1⟩ := hB
      rw [ht] at hP1 hsz1
      obtain ⟨hP, hD⟩ := va_join (wr := [(aS, .inr (1, [.ref aN, .ref aC])), (aN, .inl (kN, 5, .inl (fun j => nI (cnt j)))), (aC, .inl (kC, 52035, .inl cel))]) (w1 := []) hP hD [] [0, 1, 2] rfl rfl (by decide) (by decide) hk1 hFc hP1 hD1
      generalize H1 = H at hP hS ⊢
      have hP : va_P (dC, dI) vwCl [(aS, .inr (1, [.ref aN, .ref aC])), (aN, .inl (kN, 5, .inl (fun j => nI (cnt j)))), (aC, .inl (kC, 52035, .inl cel))] H := hP
      have hD : va_D A [(aS, .inr (1, [.ref aN, .ref aC])), (aN, .inl (kN, 5, .inl (fun j => nI (cnt j)))), (aC, .inl (kC, 52035, .inl cel))] := hD
      subst hw_8
      refine lv_iadd hx hb d_Sc_listed_31 ?_
      refine lv_iload hx hb d_Sc_listed_32 (lv_at hl 4 rfl) ?_
      refine lv_iadd hx hb d_Sc_listed_34 ?_
      have hPc := hP.sub (ws' := [(aS, .inr (1, [.ref aN, .ref aC])), (aN, .inl (kN, 5, .inl (fun j => nI (cnt j)))), (aC, .inl (kC, 52035, .inl cel))]) [0, 1, 2] rfl
      have hDc := hD.sub (ws' := [(aS, .inr (1, [.ref aN, .ref aC])), (aN, .inl (kN, 5, .inl (fun j => nI (cnt j)))), (aC, .inl (kC, 52035, .inl cel))]) [0, 1, 2] (by decide) rfl
      have hKc := hK.sub (tys' := [(kN, .int), (kC, .int)]) [0, 1] rfl
      have hFc := va_free (wc := [(aS, .inr (1, [.ref aN, .ref aC])), (aN, .inl (kN, 5, .inl (fun j => nI (cnt j)))), (aC, .inl (kC, 52035, .inl cel))]) hD hS hA [0, 1, 2] rfl
      refine va_calli (va_runV (As := [.int (((nI (zST fa + fb * zWD fa)) + (zLSt (nI fa) li)) + ii)]) (rest := []) ⟨hx, hb, hml, hown, hts⟩ (c_Sc_cell l G dC dI H.size aS aN aC kN cnt kC cel (((nI (zST fa + fb * zWD fa)) + (zLSt (nI fa) li)) + ii)) (cwV 1 hts (gV tw_161 tw_163 ts_2 tw_4 tw_164 rfl) rfl rfl rfl (by decide +kernel) ⟨Nat.le_of_ble_eq_true rfl, Nat.le_of_ble_eq_true rfl⟩) (PW_preV hPc hKc hDc hE hS hFc (ci := 1) (q0 := 0) rfl rfl) rfl rfl hl.1 rfl (lv_room (Nat.le_of_ble_eq_true rfl)) d_Sc_listed_35 ⟨Nat.le_of_ble_eq_true rfl, Nat.le_of_ble_eq_true rfl⟩) hS (fun q _ h => hFc q h) hFc (fun r_9 uu t H1 locs ht hvm hw_10 hB hz1 hk1 hS => ?_)
      obtain ⟨hP1, hD1, hsz1⟩ := hB
      rw [ht] at hP1 hsz1
      obtain ⟨hP, hD⟩ := va_join (wr := []) (w1 := [(aS, .inr (1, [.ref aN, .ref aC])), (aN, .inl (kN, 5, .inl (fun j => nI (cnt j)))), (aC, .inl (kC, 52035, .inl cel))]) hP hD [0, 1, 2] [] rfl rfl (by decide) (by decide) hk1 hFc hP1 hD1
      generalize H1 = H at hP hS ⊢
      have hP : va_P (dC, dI) vwCl [(aS, .inr (1, [.ref aN, .ref aC])), (aN, .inl (kN, 5, .inl (fun j => nI (cnt j)))), (aC, .inl (kC, 52035, .inl cel))] H := hP
      have hD : va_D A [(aS, .inr (1, [.ref aN, .ref aC])), (aN, .inl (kN, 5, .inl (fun j => nI (cnt j)))), (aC, .inl (kC, 52035, .inl cel))] := hD
      refine zt_size (fun hzs => ?_)
      have hP9 := hP.sub (ws' := [(aS, .inr (1, [.ref aN, .ref aC])), (aN, .inl (kN, 5, .inl (fun j => nI (cnt j)))), (aC, .inl (kC, 52035, .inl cel))]) [0, 1, 2] rfl
      have hD9 := hD.sub (ws' := [(aS, .inr (1, [.ref aN, .ref aC])), (aN, .inl (kN, 5, .inl (fun j => nI (cnt j)))), (aC, .inl (kC, 52035, .inl cel))]) [0, 1, 2] (by decide) rfl
      exact W.iret (v := r_9) hx hb hr (fun t ht hW => ⟨⟨r_9, (), rfl, by rw [hif, nI_clamp (show fa < 2 ^ 31 by omega), nI_clamp (show fb < 2 ^ 31 by omega)]; exact hw_10, by rw [ht]; exact hP9, hD9, by rw [ht]; exact hzs⟩, hS.F ht⟩) hS.2.2 d_Sc_listed_38
    ·
      refine lv_iconst (v := 0) hx hb d_Sc_listed_17 (by decide) ?_
      refine zt_size (fun hzs => ?_)
      have hP9 := hP.sub (ws' := [(aS, .inr (1, [.ref aN, .ref aC])), (aN, .inl (kN, 5, .inl (fun j => nI (cnt j)))), (aC, .inl (kC, 52035, .inl cel))]) [0, 1, 2] rfl
      have hD9 := hD.sub (ws' := [(aS, .inr (1, [.ref aN, .ref aC])), (aN, .inl (kN, 5, .inl (fun j => nI (cnt j)))), (aC, .inl (kC, 52035, .inl cel))]) [0, 1, 2] (by decide) rfl
      exact W.iret (v := 0) hx hb hr (fun t ht hW => ⟨⟨0, (), rfl, by unfold zLd; rw [if_neg (fun z => c_4 z.2)], by rw [ht]; exact hP9, hD9, by rw [ht]; exact hzs⟩, hS.F ht⟩) hS.2.2 d_Sc_listed_18
