/-- x is one of 0 .. n - 1 -/
abbrev zIn (x : Int32) (n : Nat) : Prop := ¬ x < 0 ∧ x < nI n
theorem zIn_nI {j n : Nat} (h : j < n) (hn : n < 2 ^ 31) : zIn (nI j) n := ⟨nI_pos (by omega), nI_lt h hn⟩
theorem zIn_of {x : Int32} {n : Nat} (hn : n < 2 ^ 31) (h : zIn x n) : ∃ j : Nat, j < n ∧ x = nI j := by
  obtain ⟨j, hj, rfl⟩ := nI_of h.1
  exact ⟨j, (nI_ltI hj hn).mp h.2, rfl⟩
def zHow (cnt : Nat → Nat) (kd : Int32) : Int32 := if zIn kd 5 then nI (cnt kd.toNatClampNeg) else -1
theorem zHow_n {cnt : Nat → Nat} {ka : Nat} (h : ka < 5) : zHow cnt (nI ka) = nI (cnt ka) := by
  unfold zHow; rw [if_pos (zIn_nI h (by decide)), nI_clamp (by omega)]
theorem zHow_o {cnt : Nat → Nat} {kd : Int32} (h : ¬ zIn kd 5) : zHow cnt kd = -1 := by unfold zHow; rw [if_neg h]
def zHs (cnt : Nat → Nat) (kd k : Int32) : Prop := zIn kd 5 ∧ zIn k (cnt kd.toNatClampNeg)
theorem zHs_of {cnt : Nat → Nat} {kd k : Int32} (hc : ∀ j, j < 5 → cnt j ≤ zM j) (h : zHs cnt kd k) : ∃ a b : Nat, a < 5 ∧ b < cnt a ∧ kd = nI a ∧ k = nI b := by
  obtain ⟨a, ha, rfl⟩ := zIn_of (by decide) h.1
  have h2 := h.2
  rw [nI_clamp (by omega)] at h2
  have := hc a ha
  have := zM_le a
  obtain ⟨b, hb, rfl⟩ := zIn_of (by omega) h2
  exact ⟨a, b, ha, hb, rfl, rfl⟩
theorem zHs_nI {cnt : Nat → Nat} (hc : ∀ j, j < 5 → cnt j ≤ zM j) {a b : Nat} (ha : a < 5) (hb : b < cnt a) : zHs cnt (nI a) (nI b) := by
  have := hc a ha
  have := zM_le a
  refine ⟨zIn_nI ha (by decide), ?_⟩
  rw [nI_clamp (by omega)]
  exact zIn_nI hb (by omega)
theorem zHs_iff {cnt : Nat → Nat} {kd k : Int32} : zHs cnt kd k ↔ ¬ k < 0 ∧ k < zHow cnt kd := by
  constructor
  · intro h
    unfold zHow
    rw [if_pos h.1]
    exact h.2
  · intro h
    by_cases hk : zIn kd 5
    · refine ⟨hk, h.1, ?_⟩
      have h2 := h.2
      unfold zHow at h2
      rw [if_pos hk] at h2
      exact h2
    · rw [zHow_o hk] at h
      refine absurd h.2 (fun z => ?_)
      have z1 := h.1
      rw [Int32.lt_iff_toInt_lt] at z z1
      have e0 : (0 : Int32).toInt = 0 := by decide
      have e1 : (-1 : Int32).toInt = -1 := by decide
      rw [e0] at z1
      rw [e1] at z
      omega
set_option maxHeartbeats 4000000 in
set_option maxRecDepth 100000 in
theorem c_Sc_howMany (l : Launch) (G : ZG) (dC : Nat → ClassId) (dI : Nat → Nat → Nat) (sz : Nat) (aS : Nat) (aN : Nat) (aC : Nat) (kN : ClassId) (cnt : Nat → Nat) (kC : ClassId) (cel : Nat → Int32) (kd : Int32) : Met l y_Sc_howMany w_Sc_howMany ({ frames := 0, cells := 0, slots := 0, locals := 0 }) (va_Pc [.ref aS, .int kd] (PW G (dC, dI) [(kN, .int), (kC, .int)] [(aS, .inr (1, [.ref aN, .ref aC])), (aN, .inl (kN, 5, .inl (fun j => nI (cnt j)))), (aC, .inl (kC, 52035, .inl cel))] sz)) (va_Qi (fun (r : Int32) (uu : Unit) => r = zHow cnt kd) (fun (uu : Unit) t => BW (dC, dI) [(aS, .inr (1, [.ref aN, .ref aC])), (aN, .inl (kN, 5, .inl (fun j => nI (cnt j)))), (aC, .inl (kC, 52035, .inl cel))] (va_A [(aS, .inr (1, [.ref aN, .ref aC])), (aN, .inl (kN, 5, .inl (fun j => nI (cnt j)))), (aC, .inl (kC, 52035, .inl cel))] sz) sz t) (va_A [(aS, .inr (1, [.ref aN, .ref aC])), (aN, .inl (kN, 5, .inl (fun j => nI (cnt j)))), (aC, .inl (kC, 52035, .inl cel))] sz)) 0 0 (va_A [(aS, .inr (1, [.ref aN, .ref aC])), (aN, .inl (kN, 5, .inl (fun j => nI (cnt j)))), (aC, .inl (kC, 52035, .inl cel))] sz) := by
  refine Met.ofW (cc := prog_3_method_6_code) (maxL := 2) (ret := (some .int)) (by decide) rfl ?_
  intro p e s m args below meth c s₁ Bd hml hv
  obtain ⟨rfl, hsz, hP, hK, hD0, hE⟩ := hv
  have hx := Bd.exec
  have hb := Bd.bytes
  have hr := Bd.returns
  have hts := atoms_spec (ws := w_Sc_howMany) Bd.pre
  have hown : s.vm.findClass R_Sc = some m.cls := findClass_of_methodNamed Bd.named
  have hlocks := Bd.notSynchronized
  have hz : ∀ w ∈ ZW, w.before _ s = true := fun w h => hts w (List.mem_cons_of_mem _ h)
  subst hsz
  have hD := hD0.self (sz := s.heap.size)
  generalize hAe : va_A [(aS, .inr (1, [.ref aN, .ref aC])), (aN, .inl (kN, 5, .inl (fun j => nI (cnt j)))), (aC, .inl (kC, 52035, .inl cel))] s.heap.size = A at hD hE ⊢
  have hA : ∀ q : Nat, s.heap.size ≤ q → A q := fun q h => by rw [← hAe]; exact Or.inr h
  have hS : va_S A s.heap s.heap [] := va_S.rf
  have hl := lv_entry ([.ref aS, .int kd]) (n := 2) (Nat.le_of_ble_eq_true rfl)
  rw [lg_entry_eq]
  generalize (lg_sl ([.ref aS, .int kd]) ++ List.replicate (2 - (lg_sl ([.ref aS, .int kd])).length) Slot.unset).toArray = ls at hl ⊢
  have hl : lv_has ls 2 [(0, .ref aS), (1, .int kd)] := hl
  obtain ⟨H, hH⟩ : ∃ z, z = s.heap := ⟨_, rfl⟩
  have hP : va_P (dC, dI) vwCl [(aS, .inr (1, [.ref aN, .ref aC])), (aN, .inl (kN, 5, .inl (fun j => nI (cnt j)))), (aC, .inl (kC, 52035, .inl cel))] H := by rw [hH]; exact hP
  have hS : va_S A s.heap H [] := by rw [hH]; exact hS
  refine zt_heap hH ?_
  by_cases hki : zIn kd 5
  ·
    obtain ⟨ka, hka, rfl⟩ := zIn_of (by decide) hki
    refine lv_iload_n hx hb d_Sc_howMany_0 rfl (lv_at hl 1 rfl) ?_
    refine lv_if_lt (tgt := 9) hx hb d_Sc_howMany_1 (by decide) (fun c_1 => ?_) (fun c_1 => ?_)
    ·
      exact absurd c_1 (nI_pos (by omega))
    ·
      refine lv_iload_n hx hb d_Sc_howMany_4 rfl (lv_at hl 1 rfl) ?_
      refine lv_iconst (v := 5) hx hb d_Sc_howMany_5 (by decide) ?_
      refine lv_icmp_lt (tgt := 13) hx hb d_Sc_howMany_6 (by decide) (fun c_2 => ?_) (fun c_2 => ?_)
      ·
        refine lv_aload_n hx hb d_Sc_howMany_13 rfl (lv_at hl 0 rfl) ?_
        refine va_get (D := (dC, dI)) (ci := 1) (v := .ref aN) (C := R_Sc) (T := F_Sc) (N := 2) hx hb hz i_Sc hown hK hP 0 rfl rfl 0 (by decide) (hz _ tw_76) (fun _ h9 => h9) rfl d_Sc_howMany_14 ?_
        refine lv_iload_n hx hb d_Sc_howMany_17 rfl (lv_at hl 1 rfl) ?_
        refine va_iald (D := (dC, dI)) (i := nI ka) hx hb hK hP 1 0 rfl rfl (vp_in_nI (by omega) (by decide)) d_Sc_howMany_18 ?_
        refine zt_top (by rw [nI_clamp (by omega)]) ?_
        refine zt_size (fun hzs => ?_)
        have hP9 := hP.sub (ws' := [(aS, .inr (1, [.ref aN, .ref aC])), (aN, .inl (kN, 5, .inl (fun j => nI (cnt j)))), (aC, .inl (kC, 52035, .inl cel))]) [0, 1, 2] rfl
        have hD9 := hD.sub (ws' := [(aS, .inr (1, [.ref aN, .ref aC])), (aN, .inl (kN, 5, .inl (fun j => nI (cnt j)))), (aC, .inl (kC, 52035, .inl cel))]) [0, 1, 2] (by decide) rfl
        exact W.iret (v := nI (cnt ka)) hx hb hr (fun t ht hW => ⟨⟨nI (cnt ka), (), rfl, (zHow_n hka).symm, by rw [ht]; exact hP9, hD9, by rw [ht]; exact hzs⟩, hS.F ht⟩) hS.2.2 d_Sc_howMany_19
      ·
        exact absurd (nI_lt (a := ka) (b := 5) hka (by decide)) c_2
  ·
    refine lv_iload_n hx hb d_Sc_howMany_0 rfl (lv_at hl 1 rfl) ?_
    refine lv_if_lt (tgt := 9) hx hb d_Sc_howMany_1 (by decide) (fun c_3 => ?_) (fun c_3 => ?_)
    ·
      refine lv_iconst (v := -1) hx hb d_Sc_howMany_9 (by decide) ?_
      refine lv_goto (tgt := 19) hx hb d_Sc_howMany_10 (by decide) ?_
      refine zt_size (fun hzs => ?_)
      have hP9 := hP.sub (ws' := [(aS, .inr (1, [.ref aN, .ref aC])), (aN, .inl (kN, 5, .inl (fun j => nI (cnt j)))), (aC, .inl (kC, 52035, .inl cel))]) [0, 1, 2] rfl
      have hD9 := hD.sub (ws' := [(aS, .inr (1, [.ref aN, .ref aC])), (aN, .inl (kN, 5, .inl (fun j => nI (cnt j)))), (aC, .inl (kC, 52035, .inl cel))]) [0, 1, 2] (by decide) rfl
      exact W.iret (v := (-1)) hx hb hr (fun t ht hW => ⟨⟨(-1), (), rfl, (zHow_o hki).symm, by rw [ht]; exact hP9, hD9, by rw [ht]; exact hzs⟩, hS.F ht⟩) hS.2.2 d_Sc_howMany_19
    ·
      refine lv_iload_n hx hb d_Sc_howMany_4 rfl (lv_at hl 1 rfl) ?_
      refine lv_iconst (v := 5) hx hb d_Sc_howMany_5 (by decide) ?_
      refine lv_icmp_lt (tgt := 13) hx hb d_Sc_howMany_6 (by decide) (fun c_4 => ?_) (fun c_4 => ?_)
      ·
        exact absurd c_4 (fun z => hki ⟨c_3, z⟩)
      ·
        refine lv_iconst (v := -1) hx hb d_Sc_howMany_9 (by decide) ?_
        refine lv_goto (tgt := 19) hx hb d_Sc_howMany_10 (by decide) ?_
        refine zt_size (fun hzs => ?_)
        have hP9 := hP.sub (ws' := [(aS, .inr (1, [.ref aN, .ref aC])), (aN, .inl (kN, 5, .inl (fun j => nI (cnt j)))), (aC, .inl (kC, 52035, .inl cel))]) [0, 1, 2] rfl
        have hD9 := hD.sub (ws' := [(aS, .inr (1, [.ref aN, .ref aC])), (aN, .inl (kN, 5, .inl (fun j => nI (cnt j)))), (aC, .inl (kC, 52035, .inl cel))]) [0, 1, 2] (by decide) rfl
        exact W.iret (v := (-1)) hx hb hr (fun t ht hW => ⟨⟨(-1), (), rfl, (zHow_o hki).symm, by rw [ht]; exact hP9, hD9, by rw [ht]; exact hzs⟩, hS.F ht⟩) hS.2.2 d_Sc_howMany_19
set_option maxHeartbeats 4000000 in
set_option maxRecDepth 100000 in
theorem c_Sc_has (l : Launch) (G : ZG) (dC : Nat → ClassId) (dI : Nat → Nat → Nat) (sz : Nat) (aS : Nat) (aN : Nat) (aC : Nat) (kN : ClassId) (cnt : Nat → Nat) (kC : ClassId) (cel : Nat → Int32) (kd : Int32) (ki : Int32) : Met l y_Sc_has w_Sc_has ({ frames := 1, cells := 0, slots := 0, locals := 21 }) (va_Pc [.ref aS, .int kd, .int ki] (PW G (dC, dI) [(kN, .int), (kC, .int)] [(aS, .inr (1, [.ref aN, .ref aC])), (aN, .inl (kN, 5, .inl (fun j => nI (cnt j)))), (aC, .inl (kC, 52035, .inl cel))] sz)) (va_Qi (fun (r : Int32) (uu : Unit) => (r = 1 ∧ zHs cnt kd ki) ∨ (r = 0 ∧ ¬ zHs cnt kd ki)) (fun (uu : Unit) t => BW (dC, dI) [(aS, .inr (1, [.ref aN, .ref aC])), (aN, .inl (kN, 5, .inl (fun j => nI (cnt j)))), (aC, .inl (kC, 52035, .inl cel))] (va_A [(aS, .inr (1, [.ref aN, .ref aC])), (aN, .inl (kN, 5, .inl (fun j => nI (cnt j)))), (aC, .inl (kC, 52035, .inl cel))] sz) sz t) (va_A [(aS, .inr (1, [.ref aN, .ref aC])), (aN, .inl (kN, 5, .inl (fun j => nI (cnt j)))), (aC, .inl (kC, 52035, .inl cel))] sz)) 0 0 (va_A [(aS, .inr (1, [.ref aN, .ref aC])), (aN, .inl (kN, 5, .inl (fun j => nI (cnt j)))), (aC, .inl (kC, 52035, .inl cel))] sz) := by
  refine Met.ofW (cc := prog_3_method_10_code) (maxL := 3) (ret := (some .boolean)) (by decide) rfl ?_
  intro p e s m args below meth c s₁ Bd hml hv
  obtain ⟨rfl, hsz, hP, hK, hD0, hE⟩ := hv
  have hx := Bd.exec
  have hb := Bd.bytes
  have hr := Bd.returns
  have hts := atoms_spec (ws := w_Sc_has) Bd.pre
  have hown : s.vm.findClass R_Sc = some m.cls := findClass_of_methodNamed Bd.named
  have hlocks := Bd.notSynchronized
  have hz : ∀ w ∈ ZW, w.before _ s = true := fun w h => hts w (List.mem_cons_of_mem _ h)
  subst hsz
  have hD := hD0.self (sz := s.heap.size)
  generalize hAe : va_A [(aS, .inr (1, [.ref aN, .ref aC])), (aN, .inl (kN, 5, .inl (fun j => nI (cnt j)))), (aC, .inl (kC, 52035, .inl cel))] s.heap.size = A at hD hE ⊢
  have hA : ∀ q : Nat, s.heap.size ≤ q → A q := fun q h => by rw [← hAe]; exact Or.inr h
  have hS : va_S A s.heap s.heap [] := va_S.rf
  have hl := lv_entry ([.ref aS, .int kd, .int ki]) (n := 3) (Nat.le_of_ble_eq_true rfl)
  rw [lg_entry_eq]
  generalize (lg_sl ([.ref aS, .int kd, .int ki]) ++ List.replicate (3 - (lg_sl ([.ref aS, .int kd, .int ki])).length) Slot.unset).toArray = ls at hl ⊢
  have hl : lv_has ls 3 [(0, .ref aS), (1, .int kd), (2, .int ki)] := hl
  obtain ⟨H, hH⟩ : ∃ z, z = s.heap := ⟨_, rfl⟩
  have hP : va_P (dC, dI) vwCl [(aS, .inr (1, [.ref aN, .ref aC])), (aN, .inl (kN, 5, .inl (fun j => nI (cnt j)))), (aC, .inl (kC, 52035, .inl cel))] H := by rw [hH]; exact hP
  have hS : va_S A s.heap H [] := by rw [hH]; exact hS
  refine zt_heap hH ?_
  refine lv_iload_n hx hb d_Sc_has_0 rfl (lv_at hl 2 rfl) ?_
  refine lv_if_lt (tgt := 17) hx hb d_Sc_has_1 (by decide) (fun c_1 => ?_) (fun c_1 => ?_)
  ·
    refine lv_iconst (v := 0) hx hb d_Sc_has_17 (by decide) ?_
    refine zt_size (fun hzs => ?_)
    have hP9 := hP.sub (ws' := [(aS, .inr (1, [.ref aN, .ref aC])), (aN, .inl (kN, 5, .inl (fun j => nI (cnt j)))), (aC, .inl (kC, 52035, .inl cel))]) [0, 1, 2] rfl
    have hD9 := hD.sub (ws' := [(aS, .inr (1, [.ref aN, .ref aC])), (aN, .inl (kN, 5, .inl (fun j => nI (cnt j)))), (aC, .inl (kC, 52035, .inl cel))]) [0, 1, 2] (by decide) rfl
    exact W.zret (v := 0) hx hb hr rfl (fun t ht hW => ⟨⟨0, (), rfl, Or.inr ⟨rfl, fun z => (zHs_iff.mp z).1 c_1⟩, by rw [ht]; exact hP9, hD9, by rw [ht]; exact hzs⟩, hS.F ht⟩) hS.2.2 d_Sc_has_18
  ·
    refine lv_iload_n hx hb d_Sc_has_4 rfl (lv_at hl 2 rfl) ?_
    refine lv_aload_n hx hb d_Sc_has_5 rfl (lv_at hl 0 rfl) ?_
    refine lv_iload_n hx hb d_Sc_has_6 rfl (lv_at hl 1 rfl) ?_
    have hPc := hP.sub (ws' := [(aS, .inr (1, [.ref aN, .ref aC])), (aN, .inl (kN, 5, .inl (fun j => nI (cnt j)))), (aC, .inl (kC, 52035, .inl cel))]) [0, 1, 2] rfl
    have hDc := hD.sub (ws' := [(aS, .inr (1, [.ref aN, .ref aC])), (aN, .inl (kN, 5, .inl (fun j => nI (cnt j)))), (aC, .inl (kC, 52035, .inl cel))]) [0, 1, 2] (by decide) rfl
    have hKc := hK.sub (tys' := [(kN, .int), (kC, .int)]) [0, 1] rfl
    have hFc := va_free (wc := [(aS, .inr (1, [.ref aN, .ref aC])), (aN, .inl (kN, 5, .inl (fun j => nI (cnt j)))), (aC, .inl (kC, 52035, .inl cel))]) hD hS hA [0, 1, 2] rfl
    refine va_calli (va_runV (As := [.int kd]) (rest := [.int ki]) ⟨hx, hb, hml, hown, hts⟩ (c_Sc_howMany l G dC dI H.size aS aN aC kN cnt kC cel kd) (cwV 1 hts (gV tw_150 tw_135 tw_136 tw_4 tw_137 rfl) rfl rfl rfl (by decide +kernel) ⟨Nat.le_of_ble_eq_true rfl, Nat.le_of_ble_eq_true rfl⟩) (PW_preV hPc hKc hDc hE hS hFc (ci := 1) (q0 := 0) rfl rfl) rfl rfl hl.1 rfl (lv_room (Nat.le_of_ble_eq_true rfl)) d_Sc_has_7 ⟨Nat.le_of_ble_eq_true rfl, Nat.le_of_ble_eq_true rfl⟩) hS (fun q _ h => hFc q h) hFc (fun r_2 uu t H1 locs ht hvm hw_3 hB hz1 hk1 hS => ?_)
    obtain ⟨hP1, hD1, hsz1⟩ := hB
    rw [ht] at hP1 hsz1
    obtain ⟨hP, hD⟩ := va_join (wr := []) (w1 := [(aS, .inr (1, [.ref aN, .ref aC])), (aN, .inl (kN, 5, .inl (fun j => nI (cnt j)))), (aC, .inl (kC, 52035, .inl cel))]) hP hD [0, 1, 2] [] rfl rfl (by decide) (by decide) hk1 hFc hP1 hD1
    generalize H1 = H at hP hS ⊢
    have hP : va_P (dC, dI) vwCl [(aS, .inr (1, [.ref aN, .ref aC])), (aN, .inl (kN, 5, .inl (fun j => nI (cnt j)))), (aC, .inl (kC, 52035, .inl cel))] H := hP
    have hD : va_D A [(aS, .inr (1, [.ref aN, .ref aC])), (aN, .inl (kN, 5, .inl (fun j => nI (cnt j)))), (aC, .inl (kC, 52035, .inl cel))] := hD
    subst hw_3
    refine lv_icmp_ge (tgt := 17) hx hb d_Sc_has_10 (by decide) (fun c_4 => ?_) (fun c_4 => ?_)
    ·
      refine lv_iconst (v := 0) hx hb d_Sc_has_17 (by decide) ?_
      refine zt_size (fun hzs => ?_)
      have hP9 := hP.sub (ws' := [(aS, .inr (1, [.ref aN, .ref aC])), (aN, .inl (kN, 5, .inl (fun j => nI (cnt j)))), (aC, .inl (kC, 52035, .inl cel))]) [0, 1, 2] rfl
      have hD9 := hD.sub (ws' := [(aS, .inr (1, [.ref aN, .ref aC])), (aN, .inl (kN, 5, .inl (fun j => nI (cnt j)))), (aC, .inl (kC, 52035, .inl cel))]) [0, 1, 2] (by decide) rfl
      exact W.zret (v := 0) hx hb hr rfl (fun t ht hW => ⟨⟨0, (), rfl, Or.inr ⟨rfl, fun z => absurd c_4 (Int32.not_le.mpr (zHs_iff.mp z).2)⟩, by rw [ht]; exact hP9, hD9, by rw [ht]; exact hzs⟩, hS.F ht⟩) hS.2.2 d_Sc_has_18
    ·
      refine lv_iconst (v := 1) hx hb d_Sc_has_13 (by decide) ?_
      refine lv_goto (tgt := 18) hx hb d_Sc_has_14 (by decide) ?_
      refine zt_size (fun hzs => ?_)
      have hP9 := hP.sub (ws' := [(aS, .inr (1, [.ref aN, .ref aC])), (aN, .inl (kN, 5, .inl (fun j => nI (cnt j)))), (aC, .inl (kC, 52035, .inl cel))]) [0, 1, 2] rfl
      have hD9 := hD.sub (ws' := [(aS, .inr (1, [.ref aN, .ref aC])), (aN, .inl (kN, 5, .inl (fun j => nI (cnt j)))), (aC, .inl (kC, 52035, .inl cel))]) [0, 1, 2] (by decide) rfl
      exact W.zret (v := 1) hx hb hr rfl (fun t ht hW => ⟨⟨1, (), rfl, Or.inl ⟨rfl, zHs_iff.mpr ⟨c_1, Int32.not_le.mp c_4⟩⟩, by rw [ht]; exact hP9, hD9, by rw [ht]; exact hzs⟩, hS.F ht⟩) hS.2.2 d_Sc_has_18
set_option maxHeartbeats 4000000 in
set_option maxRecDepth 100000 in
theorem c_Sc_cell (l : Launch) (G : ZG) (dC : Nat → ClassId) (dI : Nat → Nat → Nat) (sz : Nat) (aS : Nat) (aN : Nat) (aC : Nat) (kN : ClassId) (cnt : Nat → Nat) (kC : ClassId) (cel : Nat → Int32) (qi : Int32) : Met l y_Sc_cell w_Sc_cell ({ frames := 0, cells := 0, slots := 0, locals := 0 }) (va_Pc [.ref aS, .int qi] (PW G (dC, dI) [(kN, .int), (kC, .int)] [(aS, .inr (1, [.ref aN, .ref aC])), (aN, .inl (kN, 5, .inl (fun j => nI (cnt j)))), (aC, .inl (kC, 52035, .inl cel))] sz)) (va_Qi (fun (r : Int32) (uu : Unit) => r = if zIn qi 52035 then cel qi.toNatClampNeg else 0) (fun (uu : Unit) t => BW (dC, dI) [(aS, .inr (1, [.ref aN, .ref aC])), (aN, .inl (kN, 5, .inl (fun j => nI (cnt j)))), (aC, .inl (kC, 52035, .inl cel))] (va_A [(aS, .inr (1, [.ref aN, .ref aC])), (aN, .inl (kN, 5, .inl (fun j => nI (cnt j)))), (aC, .inl (kC, 52035, .inl cel))] sz) sz t) (va_A [(aS, .inr (1, [.ref aN, .ref aC])), (aN, .inl (kN, 5, .inl (fun j => nI (cnt j)))), (aC, .inl (kC, 52035, .inl cel))] sz)) 0 0 (va_A [(aS, .inr (1, [.ref aN, .ref aC])), (aN, .inl (kN, 5, .inl (fun j => nI (cnt j)))), (aC, .inl (kC, 52035, .inl cel))] sz) := by
  refine Met.ofW (cc := prog_3_method_11_code) (maxL := 2) (ret := (some .int)) (by decide) rfl ?_
  intro p e s m args below meth c s₁ Bd hml hv
  obtain ⟨rfl, hsz, hP, hK, hD0, hE⟩ := hv
  have hx := Bd.exec
  have hb := Bd.bytes
  have hr := Bd.returns
  have hts := atoms_spec (ws := w_Sc_cell) Bd.pre
  have hown : s.vm.findClass R_Sc = some m.cls := findClass_of_methodNamed Bd.named
  have hlocks := Bd.notSynchronized
  have hz : ∀ w ∈ ZW, w.before _ s = true := fun w h => hts w (List.mem_cons_of_mem _ h)
  subst hsz
  have hD := hD0.self (sz := s.heap.size)
  generalize hAe : va_A [(aS, .inr (1, [.ref aN, .ref aC])), (aN, .inl (kN, 5, .inl (fun j => nI (cnt j)))), (aC, .inl (kC, 52035, .inl cel))] s.heap.size = A at hD hE ⊢
  have hA : ∀ q : Nat, s.heap.size ≤ q → A q := fun q h => by rw [← hAe]; exact Or.inr h
  have hS : va_S A s.heap s.heap [] := va_S.rf
  have hl := lv_entry ([.ref aS, .int qi]) (n := 2) (Nat.le_of_ble_eq_true rfl)
  rw [lg_entry_eq]
  generalize (lg_sl ([.ref aS, .int qi]) ++ List.replicate (2 - (lg_sl ([.ref aS, .int qi])).length) Slot.unset).toArray = ls at hl ⊢
  have hl : lv_has ls 2 [(0, .ref aS), (1, .int qi)] := hl
  obtain ⟨H, hH⟩ : ∃ z, z = s.heap := ⟨_, rfl⟩
  have hP : va_P (dC, dI) vwCl [(aS, .inr (1, [.ref aN, .ref aC])), (aN, .inl (kN, 5, .inl (fun j => nI (cnt j)))), (aC, .inl (kC, 52035, .inl cel))] H := by rw [hH]; exact hP
  have hS : va_S A s.heap H [] := by rw [hH]; exact hS
  refine zt_heap hH ?_
  by_cases hki : zIn qi 52035
  ·
    obtain ⟨qj, hqj, rfl⟩ := zIn_of (by decide) hki
    refine lv_iload_n hx hb d_Sc_cell_0 rfl (lv_at hl 1 rfl) ?_
    refine lv_if_lt (tgt := 10) hx hb d_Sc_cell_1 (by decide) (fun c_1 => ?_) (fun c_1 => ?_)
    ·
      exact absurd c_1 (nI_pos (by omega))
    ·
      refine lv_iload_n hx hb d_Sc_cell_4 rfl (lv_at hl 1 rfl) ?_
      refine lv_ldc (v := 52035) hx hb hown (hz _ tw_69) d_Sc_cell_5 ?_
      refine lv_icmp_lt (tgt := 14) hx hb d_Sc_cell_7 (by decide) (fun c_2 => ?_) (fun c_2 => ?_)
      ·
        refine lv_aload_n hx hb d_Sc_cell_14 rfl (lv_at hl 0 rfl) ?_
        refine va_get (D := (dC, dI)) (ci := 1) (v := .ref aC) (C := R_Sc) (T := F_Sc) (N := 2) hx hb hz i_Sc hown hK hP 0 rfl rfl 1 (by decide) (hz _ tw_77) (fun _ h9 => h9) rfl d_Sc_cell_15 ?_
        refine lv_iload_n hx hb d_Sc_cell_18 rfl (lv_at hl 1 rfl) ?_
        refine va_iald (D := (dC, dI)) (i := nI qj) hx hb hK hP 2 1 rfl rfl (vp_in_nI (by omega) (by decide)) d_Sc_cell_19 ?_
        refine zt_top (by rw [nI_clamp (by omega)]) ?_
        refine zt_size (fun hzs => ?_)
        have hP9 := hP.sub (ws' := [(aS, .inr (1, [.ref aN, .ref aC])), (aN, .inl (kN, 5, .inl (fun j => nI (cnt j)))), (aC, .inl (kC, 52035, .inl cel))]) [0, 1, 2] rfl
        have hD9 := hD.sub (ws' := [(aS, .inr (1, [.ref aN, .ref aC])), (aN, .inl (kN, 5, .inl (fun j => nI (cnt j)))), (aC, .inl (kC, 52035, .inl cel))]) [0, 1, 2] (by decide) rfl
        exact W.iret (v := cel qj) hx hb hr (fun t ht hW => ⟨⟨cel qj, (), rfl, by rw [if_pos hki, nI_clamp (by omega)], by rw [ht]; exact hP9, hD9, by rw [ht]; exact hzs⟩, hS.F ht⟩) hS.2.2 d_Sc_cell_20
      ·
        exact absurd (nI_lt (a := qj) (b := 52035) hqj (by decide)) c_2
  ·
    refine lv_iload_n hx hb d_Sc_cell_0 rfl (lv_at hl 1 rfl) ?_
    refine lv_if_lt (tgt := 10) hx hb d_Sc_cell_1 (by decide) (fun c_3 => ?_) (fun c_3 => ?_)
    ·
      refine lv_iconst (v := 0) hx hb d_Sc_cell_10 (by decide) ?_
      refine lv_goto (tgt := 20) hx hb d_Sc_cell_11 (by decide) ?_
      refine zt_size (fun hzs => ?_)
      have hP9 := hP.sub (ws' := [(aS, .inr (1, [.ref aN, .ref aC])), (aN, .inl (kN, 5, .inl (fun j => nI (cnt j)))), (aC, .inl (kC, 52035, .inl cel))]) [0, 1, 2] rfl
      have hD9 := hD.sub (ws' := [(aS, .inr (1, [.ref aN, .ref aC])), (aN, .inl (kN, 5, .inl (fun j => nI (cnt j)))), (aC, .inl (kC, 52035, .inl cel))]) [0, 1, 2] (by decide) rfl
      exact W.iret (v := 0) hx hb hr (fun t ht hW => ⟨⟨0, (), rfl, by rw [if_neg hki], by rw [ht]; exact hP9, hD9, by rw [ht]; exact hzs⟩, hS.F ht⟩) hS.2.2 d_Sc_cell_20
    ·
      refine lv_iload_n hx hb d_Sc_cell_4 rfl (lv_at hl 1 rfl) ?_
      refine lv_ldc (v := 52035) hx hb hown (hz _ tw_69) d_Sc_cell_5 ?_
      refine lv_icmp_lt (tgt := 14) hx hb d_Sc_cell_7 (by decide) (fun c_4 => ?_) (fun c_4 => ?_)
      ·
        exact absurd c_4 (fun z => hki ⟨c_3, z⟩)
      ·
        refine lv_iconst (v := 0) hx hb d_Sc_cell_10 (by decide) ?_
        refine lv_goto (tgt := 20) hx hb d_Sc_cell_11 (by decide) ?_
        refine zt_size (fun hzs => ?_)
        have hP9 := hP.sub (ws' := [(aS, .inr (1, [.ref aN, .ref aC])), (aN, .inl (kN, 5, .inl (fun j => nI (cnt j)))), (aC, .inl (kC, 52035, .inl cel))]) [0, 1, 2] rfl
        have hD9 := hD.sub (ws' := [(aS, .inr (1, [.ref aN, .ref aC])), (aN, .inl (kN, 5, .inl (fun j => nI (cnt j)))), (aC, .inl (kC, 52035, .inl cel))]) [0, 1, 2] (by decide) rfl
        exact W.iret (v := 0) hx hb hr (fun t ht hW => ⟨⟨0, (), rfl, by rw [if_neg hki], by rw [ht]; exact hP9, hD9, by rw [ht]; exact hzs⟩, hS.F ht⟩) hS.2.2 d_Sc_cell_20
set_option maxHeartbeats 4000000 in
set_option maxRecDepth 100000 in
theorem c_Sc_seen (l : Launch) (G : ZG) (dC : Nat → ClassId) (dI : Nat → Nat → Nat) (sz : Nat) (aS : Nat) (aN : Nat) (aC : Nat) (kN : ClassId) (cnt : Nat → Nat) (kC : ClassId) (cel : Nat → Int32) (qi : Int32) : Met l y_Sc_seen w_Sc_seen ({ frames := 0, cells := 0, slots := 0, locals := 0 }) (va_Pc [.ref aS, .int qi] (PW G (dC, dI) [(kN, .int), (kC, .int)] [(aS, .inr (1, [.ref aN, .ref aC])), (aN, .inl (kN, 5, .inl (fun j => nI (cnt j)))), (aC, .inl (kC, 52035, .inl cel))] sz)) (va_Qi (fun (r : Int32) (uu : Unit) => r = if zIn qi 11 then cel qi.toNatClampNeg else 0) (fun (uu : Unit) t => BW (dC, dI) [(aS, .inr (1, [.ref aN, .ref aC])), (aN, .inl (kN, 5, .inl (fun j => nI (cnt j)))), (aC, .inl (kC, 52035, .inl cel))] (va_A [(aS, .inr (1, [.ref aN, .ref aC])), (aN, .inl (kN, 5, .inl (fun j => nI (cnt j)))), (aC, .inl (kC, 52035, .inl cel))] sz) sz t) (va_A [(aS, .inr (1, [.ref aN, .ref aC])), (aN, .inl (kN, 5, .inl (fun j => nI (cnt j)))), (aC, .inl (kC, 52035, .inl cel))] sz)) 0 0 (va_A [(aS, .inr (1, [.ref aN, .ref aC])), (aN, .inl (kN, 5, .inl (fun j => nI (cnt j)))), (aC, .inl (kC, 52035, .inl cel))] sz) := by
  refine Met.ofW (cc := prog_3_method_9_code) (maxL := 2) (ret := (some .int)) (by decide) rfl ?_
  intro p e s m args below meth c s₁ Bd hml hv
  obtain ⟨rfl, hsz, hP, hK, hD0, hE⟩ := hv
  have hx := Bd.exec
  have hb := Bd.bytes
  have hr := Bd.returns
  have hts := atoms_spec (ws := w_Sc_seen) Bd.pre
  have hown : s.vm.findClass R_Sc = some m.cls := findClass_of_methodNamed Bd.named
  have hlocks := Bd.notSynchronized
  have hz : ∀ w ∈ ZW, w.before _ s = true := fun w h => hts w (List.mem_cons_of_mem _ h)
  subst hsz
  have hD := hD0.self (sz := s.heap.size)
  generalize hAe : va_A [(aS, .inr (1, [.ref aN, .ref aC])), (aN, .inl (kN, 5, .inl (fun j => nI (cnt j)))), (aC, .inl (kC, 52035, .inl cel))] s.heap.size = A at hD hE ⊢
  have hA : ∀ q : Nat, s.heap.size ≤ q → A q := fun q h => by rw [← hAe]; exact Or.inr h
  have hS : va_S A s.heap s.heap [] := va_S.rf
  have hl := lv_entry ([.ref aS, .int qi]) (n := 2) (Nat.le_of_ble_eq_true rfl)
  rw [lg_entry_eq]
  generalize (lg_sl ([.ref aS, .int qi]) ++ List.replicate (2 - (lg_sl ([.ref aS, .int qi])).length) Slot.unset).toArray = ls at hl ⊢
  have hl : lv_has ls 2 [(0, .ref aS), (1, .int qi)] := hl
  obtain ⟨H, hH⟩ : ∃ z, z = s.heap := ⟨_, rfl⟩
  have hP : va_P (dC, dI) vwCl [(aS, .inr (1, [.ref aN, .ref aC])), (aN, .inl (kN, 5, .inl (fun j => nI (cnt j)))), (aC, .inl (kC, 52035, .inl cel))] H := by rw [hH]; exact hP
  have hS : va_S A s.heap H [] := by rw [hH]; exact hS
  refine zt_heap hH ?_
  by_cases hki : zIn qi 11
  ·
    obtain ⟨qj, hqj, rfl⟩ := zIn_of (by decide) hki
    refine lv_iload_n hx hb d_Sc_seen_0 rfl (lv_at hl 1 rfl) ?_
    refine lv_if_lt (tgt := 10) hx hb d_Sc_seen_1 (by decide) (fun c_1 => ?_) (fun c_1 => ?_)
    ·
      exact absurd c_1 (nI_pos (by omega))
    ·
      refine lv_iload_n hx hb d_Sc_seen_4 rfl (lv_at hl 1 rfl) ?_
      refine lv_bipush (v := 11) hx hb d_Sc_seen_5 (by decide) ?_
      refine lv_icmp_lt (tgt := 14) hx hb d_Sc_seen_7 (by decide) (fun c_2 => ?_) (fun c_2 => ?_)
      ·
        refine lv_aload_n hx hb d_Sc_seen_14 rfl (lv_at hl 0 rfl) ?_
        refine va_get (D := (dC, dI)) (ci := 1) (v := .ref aC) (C := R_Sc) (T := F_Sc) (N := 2) hx hb hz i_Sc hown hK hP 0 rfl rfl 1 (by decide) (hz _ tw_77) (fun _ h9 => h9) rfl d_Sc_seen_15 ?_
        refine lv_iload_n hx hb d_Sc_seen_18 rfl (lv_at hl 1 rfl) ?_
        refine va_iald (D := (dC, dI)) (i := nI qj) hx hb hK hP 2 1 rfl rfl (vp_in_nI (by omega) (by decide)) d_Sc_seen_19 ?_
        refine zt_top (by rw [nI_clamp (by omega)]) ?_
        refine zt_size (fun hzs => ?_)
        have hP9 := hP.sub (ws' := [(aS, .inr (1, [.ref aN, .ref aC])), (aN, .inl (kN, 5, .inl (fun j => nI (cnt j)))), (aC, .inl (kC, 52035, .inl cel))]) [0, 1, 2] rfl
        have hD9 := hD.sub (ws' := [(aS, .inr (1, [.ref aN, .ref aC])), (aN, .inl (kN, 5, .inl (fun j => nI (cnt j)))), (aC, .inl (kC, 52035, .inl cel))]) [0, 1, 2] (by decide) rfl
        exact W.iret (v := cel qj) hx hb hr (fun t ht hW => ⟨⟨cel qj, (), rfl, by rw [if_pos hki, nI_clamp (by omega)], by rw [ht]; exact hP9, hD9, by rw [ht]; exact hzs⟩, hS.F ht⟩) hS.2.2 d_Sc_seen_20
      ·
        exact absurd (nI_lt (a := qj) (b := 11) hqj (by decide)) c_2
  ·
    refine lv_iload_n hx hb d_Sc_seen_0 rfl (lv_at hl 1 rfl) ?_
    refine lv_if_lt (tgt := 10) hx hb d_Sc_seen_1 (by decide) (fun c_3 => ?_) (fun c_3 => ?_)
    ·
      refine lv_iconst (v := 0) hx hb d_Sc_seen_10 (by decide) ?_
      refine lv_goto (tgt := 20) hx hb d_Sc_seen_11 (by decide) ?_
      refine zt_size (fun hzs => ?_)
      have hP9 := hP.sub (ws' := [(aS, .inr (1, [.ref aN, .ref aC])), (aN, .inl (kN, 5, .inl (fun j => nI (cnt j)))), (aC, .inl (kC, 52035, .inl cel))]) [0, 1, 2] rfl
      have hD9 := hD.sub (ws' := [(aS, .inr (1, [.ref aN, .ref aC])), (aN, .inl (kN, 5, .inl (fun j => nI (cnt j)))), (aC, .inl (kC, 52035, .inl cel))]) [0, 1, 2] (by decide) rfl
      exact W.iret (v := 0) hx hb hr (fun t ht hW => ⟨⟨0, (), rfl, by rw [if_neg hki], by rw [ht]; exact hP9, hD9, by rw [ht]; exact hzs⟩, hS.F ht⟩) hS.2.2 d_Sc_seen_20
    ·
      refine lv_iload_n hx hb d_Sc_seen_4 rfl (lv_at hl 1 rfl) ?_
      refine lv_bipush (v := 11) hx hb d_Sc_seen_5 (by decide) ?_
      refine lv_icmp_lt (tgt := 14) hx hb d_Sc_seen_7 (by decide) (fun c_4 => ?_) (fun c_4 => ?_)
      ·
        exact absurd c_4 (fun z => hki ⟨c_3, z⟩)
      ·
        refine lv_iconst (v := 0) hx hb d_Sc_seen_10 (by decide) ?_
        refine lv_goto (tgt := 20) hx hb d_Sc_seen_11 (by decide) ?_
        refine zt_size (fun hzs => ?_)
        have hP9 := hP.sub (ws' := [(aS, .inr (1, [.ref aN, .ref aC])), (aN, .inl (kN, 5, .inl (fun j => nI (cnt j)))), (aC, .inl (kC, 52035, .inl cel))]) [0, 1, 2] rfl
        have hD9 := hD.sub (ws' := [(aS, .inr (1, [.ref aN, .ref aC])), (aN, .inl (kN, 5, .inl (fun j => nI (cnt j)))), (aC, .inl (kC, 52035, .inl cel))]) [0, 1, 2] (by decide) rfl
        exact W.iret (v := 0) hx hb hr (fun t ht hW => ⟨⟨0, (), rfl, by rw [if_neg hki], by rw [ht]; exact hP9, hD9, by rw [ht]; exact hzs⟩, hS.F ht⟩) hS.2.2 d_Sc_seen_20
/-- a fact of a thing -/
def zFact (cnt : Nat → Nat) (cel : Nat → Int32) (kd k wh : Int32) : Int32 := if zIn kd 5 ∧ zIn k (cnt kd.toNatClampNeg) ∧ zIn wh (zFT kd.toNatClampNeg) then cel (zST kd.toNatClampNeg + k.toNatClampNeg * zWD kd.toNatClampNeg + wh.toNatClampNeg) else 0
theorem zFT_le (a : Nat) : zFT a ≤ 11 := by unfold zFT; split <;> decide
theorem zFW {a : Nat} (h : a < 5) : zFT a ≤ zWD a := (by decide : ∀ a, a < 5 → zFT a ≤ zWD a) a h
set_option maxHeartbeats 4000000 in
set_option maxRecDepth 100000 in
theorem c_Sc_fact (l : Launch) (G : ZG) (dC : Nat → ClassId) (dI : Nat → Nat → Nat) (sz : Nat) (aS : Nat) (aN : Nat) (aC : Nat) (kN : ClassId) (cnt : Nat → Nat) (kC : ClassId) (cel : Nat → Int32) (kd : Int32) (ki : Int32) (wh : Int32) (hc : ∀ j, j < 5 → cnt j ≤ zM j) : Met l y_Sc_fact w_Sc_fact ({ frames := 2, cells := 0, slots := 0, locals := 43 }) (va_Pc [.ref aS, .int kd, .int ki, .int wh] (PW G (dC, dI) [(kN, .int), (kC, .int)] [(aS, .inr (1, [.ref aN, .ref aC])), (aN, .inl (kN, 5, .inl (fun j => nI (cnt j)))), (aC, .inl (kC, 52035, .inl cel))] sz)) (va_Qi (fun (r : Int32) (uu : Unit) => r = zFact cnt cel kd ki wh) (fun (uu : Unit) t => BW (dC, dI) [(aS, .inr (1, [.ref aN, .ref aC])), (aN, .inl (kN, 5, .inl (fun j => nI (cnt j)))), (aC, .inl (kC, 52035, .inl cel))] (va_A [(aS, .inr (1, [.ref aN, .ref aC])), (aN, .inl (kN, 5, .inl (fun j => nI (cnt j)))), (aC, .inl (kC, 52035, .inl cel))] sz) sz t) (va_A [(aS, .inr (1, [.ref aN, .ref aC])), (aN, .inl (kN, 5, .inl (fun j => nI (cnt j)))), (aC, .inl (kC, 52035, .inl cel))] sz)) 0 0 (va_A [(aS, .inr (1, [.ref aN, .ref aC])), (aN, .inl (kN, 5, .inl (fun j => nI (cnt j)))), (aC, .inl (kC, 52035, .inl cel))] sz) := by
  refine Met.ofW (cc := prog_3_method_7_code) (maxL := 4) (ret := (some .int)) (by decide) rfl ?_
  intro p e s m args below meth c s₁ Bd hml hv
  obtain ⟨rfl, hsz, hP, hK, hD0, hE⟩ := hv
  have hx := Bd.exec
  have hb := Bd.bytes
  have hr := Bd.returns
  have hts := atoms_spec (ws := w_Sc_fact) Bd.pre
  have hown : s.vm.findClass R_Sc = some m.cls := findClass_of_methodNamed Bd.named
  have hlocks := Bd.notSynchronized
  have hz : ∀ w ∈ ZW, w.before _ s = true := fun w h => hts w (List.mem_cons_of_mem _ h)
  subst hsz
  have hD := hD0.self (sz := s.heap.size)
  generalize hAe : va_A [(aS, .inr (1, [.ref aN, .ref aC])), (aN, .inl (kN, 5, .inl (fun j => nI (cnt j)))), (aC, .inl (kC, 52035, .inl cel))] s.heap.size = A at hD hE ⊢
  have hA : ∀ q : Nat, s.heap.size ≤ q → A q := fun q h => by rw [← hAe]; exact Or.inr h
  have hS : va_S A s.heap s.heap [] := va_S.rf
  have hl := lv_entry ([.ref aS, .int kd, .int ki, .int wh]) (n := 4) (Nat.le_of_ble_eq_true rfl)
  rw [lg_entry_eq]
  generalize (lg_sl ([.ref aS, .int kd, .int ki, .int wh]) ++ List.replicate (4 - (lg_sl ([.ref aS, .int kd, .int ki, .int wh])).length) Slot.unset).toArray = ls at hl ⊢
  have hl : lv_has ls 4 [(0, .ref aS), (1, .int kd), (2, .int ki), (3, .int wh)] := hl
  obtain ⟨H, hH⟩ : ∃ z, z = s.heap := ⟨_, rfl⟩
  have hP : va_P (dC, dI) vwCl [(aS, .inr (1, [.ref aN, .ref aC])), (aN, .inl (kN, 5, .inl (fun j => nI (cnt j)))), (aC, .inl (kC, 52035, .inl cel))] H := by rw [hH]; exact hP
  have hS : va_S A s.heap H [] := by rw [hH]; exact hS
  refine zt_heap hH ?_
  refine lv_aload_n hx hb d_Sc_fact_0 rfl (lv_at hl 0 rfl) ?_
  refine lv_iload_n hx hb d_Sc_fact_1 rfl (lv_at hl 1 rfl) ?_
  refine lv_iload_n hx hb d_Sc_fact_2 rfl (lv_at hl 2 rfl) ?_
  have hPc := hP.sub (ws' := [(aS, .inr (1, [.ref aN, .ref aC])), (aN, .inl (kN, 5, .inl (fun j => nI (cnt j)))), (aC, .inl (kC, 52035, .inl cel))]) [0, 1, 2] rfl
  have hDc := hD.sub (ws' := [(aS, .inr (1, [.ref aN, .ref aC])), (aN, .inl (kN, 5, .inl (fun j => nI (cnt j)))), (aC, .inl (kC, 52035, .inl cel))]) [0, 1, 2] (by decide) rfl
  have hKc := hK.sub (tys' := [(kN, .int), (kC, .int)]) [0, 1] rfl
  have hFc := va_free (wc := [(aS, .inr (1, [.ref aN, .ref aC])), (aN, .inl (kN, 5, .inl (fun j => nI (cnt j)))), (aC, .inl (kC, 52035, .inl cel))]) hD hS hA [0, 1, 2] rfl
  refine va_calli (va_runV (As := [.int kd, .int ki]) (rest := []) ⟨hx, hb, hml, hown, hts⟩ (c_Sc_has l G dC dI H.size aS aN aC kN cnt kC cel kd ki) (cwV 2 hts (gV tw_146 tw_148 ts_0 tw_4 tw_149 rfl) rfl rfl rfl (by decide +kernel) ⟨Nat.le_of_ble_eq_true rfl, Nat.le_of_ble_eq_true rfl⟩) (PW_preV hPc hKc hDc hE hS hFc (ci := 1) (q0 := 0) rfl rfl) rfl rfl hl.1 rfl (lv_room (Nat.le_of_ble_eq_true rfl)) d_Sc_fact_3 ⟨Nat.le_of_ble_eq_true rfl, Nat.le_of_ble_eq_true rfl⟩) hS (fun q _ h => hFc q h) hFc (fun r_1 uu t H1 locs ht hvm hw_2 hB hz1 hk1 hS => ?_)
  obtain ⟨hP1, hD1, hsz1⟩ := hB
  rw [ht] at hP1 hsz1
  obtain ⟨hP, hD⟩ := va_join (wr := []) (w1 := [(aS, .inr (1, [.ref aN, .ref aC])), (aN, .inl (kN, 5, .inl (fun j => nI (cnt j)))), (aC, .inl (kC, 52035, .inl cel))]) hP hD [0, 1, 2] [] rfl rfl (by decide) (by decide) hk1 hFc hP1 hD1
  generalize H1 = H at hP hS ⊢
  have hP : va_P (dC, dI) vwCl [(aS, .inr (1, [.ref aN, .ref aC])), (aN, .inl (kN, 5, .inl (fun j => nI (cnt j)))), (aC, .inl (kC, 52035, .inl cel))] H := hP
  have hD : va_D A [(aS, .inr (1, [.ref aN, .ref aC])), (aN, .inl (kN, 5, .inl (fun j => nI (cnt j)))), (aC, .inl (kC, 52035, .inl cel))] := hD
  rcases hw_2 with ⟨rfl, hhs⟩ | ⟨rfl, hhs⟩
  ·
    obtain ⟨fa, fb, hfa, hfb, rfl, rfl⟩ := zHs_of hc hhs
    have hm1 := hc fa hfa
    have hm2 := zM_le fa
    have hm3 := zFT_le fa
    have hm4 := zcell hfa (Nat.lt_of_lt_of_le hfb hm1)
    have hm5 := zFW hfa
    have h2s := hhs.2
    rw [nI_clamp (by omega)] at h2s
    refine lv_if_eq (tgt := 22) hx hb d_Sc_fact_6 (by decide) (fun c_3 => ?_) (fun c_3 => ?_)
    ·
      exact absurd c_3 (by decide)
    ·
      refine lv_iload_n hx hb d_Sc_fact_9 rfl (lv_at hl 3 rfl) ?_
      refine lv_if_lt (tgt := 22) hx hb d_Sc_fact_10 (by decide) (fun c_4 => ?_) (fun c_4 => ?_)
      ·
        refine lv_iconst (v := 0) hx hb d_Sc_fact_22 (by decide) ?_
        refine zt_size (fun hzs => ?_)
        have hP9 := hP.sub (ws' := [(aS, .inr (1, [.ref aN, .ref aC])), (aN, .inl (kN, 5, .inl (fun j => nI (cnt j)))), (aC, .inl (kC, 52035, .inl cel))]) [0, 1, 2] rfl
        have hD9 := hD.sub (ws' := [(aS, .inr (1, [.ref aN, .ref aC])), (aN, .inl (kN, 5, .inl (fun j => nI (cnt j)))), (aC, .inl (kC, 52035, .inl cel))]) [0, 1, 2] (by decide) rfl
        exact W.iret (v := 0) hx hb hr (fun t ht hW => ⟨⟨0, (), rfl, by unfold zFact; rw [if_neg (fun z => z.2.2.1 c_4)], by rw [ht]; exact hP9, hD9, by rw [ht]; exact hzs⟩, hS.F ht⟩) hS.2.2 d_Sc_fact_23
      ·
        refine lv_iload_n hx hb d_Sc_fact_13 rfl (lv_at hl 3 rfl) ?_
        refine va_gets hx hb (hE.2.2.2.2.1 1 (by decide)).1 hS hown (hz _ tw_151) (fun _ h9 => h9) d_Sc_fact_14 ?_
        refine lv_iload_n hx hb d_Sc_fact_17 rfl (lv_at hl 1 rfl) ?_
        refine va_ti (i := nI fa) (v := .int ((zTl 1).getD fa 0)) hx hb (hE.2.2.2.2.1 1 (by decide)).2 hS (vp_in_nI (n := fa) (N := 5) (by omega) (by decide)) (by rw [nI_clamp (by omega)]) d_Sc_fact_18 ?_
        refine zt_top (zFT_ok fa (by omega)) ?_
        refine lv_icmp_lt (tgt := 24) hx hb d_Sc_fact_19 (by decide) (fun c_5 => ?_) (fun c_5 => ?_)
        ·
          obtain ⟨fc, hfc, rfl⟩ := zIn_of (by omega) (show zIn wh (zFT fa) from ⟨c_4, c_5⟩)
          have hin : zIn (nI fa) 5 ∧ zIn (nI fb) (cnt (nI fa).toNatClampNeg) ∧ zIn (nI fc) (zFT (nI fa).toNatClampNeg) := ⟨hhs.1, hhs.2, by rw [nI_clamp (by omega)]; exact ⟨c_4, c_5⟩⟩
          refine lv_aload_n hx hb d_Sc_fact_24 rfl (lv_at hl 0 rfl) ?_
          refine lv_aload_n hx hb d_Sc_fact_25 rfl (lv_at hl 0 rfl) ?_
          refine lv_iload_n hx hb d_Sc_fact_26 rfl (lv_at hl 1 rfl) ?_
          refine lv_iload_n hx hb d_Sc_fact_27 rfl (lv_at hl 2 rfl) ?_
          have hPc := hP.sub (ws' := [(aS, .inr (1, [.ref aN, .ref aC])), (aN, .inl (kN, 5, .inl (fun j => nI (cnt j)))), (aC, .inl (kC, 52035, .inl cel))]) [0, 1, 2] rfl
          have hDc := hD.sub (ws' := [(aS, .inr (1, [.ref aN, .ref aC])), (aN, .inl (kN, 5, .inl (fun j => nI (cnt j)))), (aC, .inl (kC, 52035, .inl cel))]) [0, 1, 2] (by decide) rfl
          have hKc := hK.sub (tys' := [(kN, .int), (kC, .int)]) [0, 1] rfl
          have hFc := va_free (wc := [(aS, .inr (1, [.ref aN, .ref aC])), (aN, .inl (kN, 5, .inl (fun j => nI (cnt j)))), (aC, .inl (kC, 52035, .inl cel))]) hD hS hA [0, 1, 2] rfl
          refine va_calli (va_runV (As := [.int (nI fa), .int (nI fb)]) (rest := [.ref aS]) ⟨hx, hb, hml, hown, hts⟩ (c_Sc_firstCell l G dC dI H.size aS aN aC kN cnt kC cel fa fb (by omega)) (cwV 2 hts (gV tw_153 tw_155 ts_1 tw_4 tw_156 rfl) rfl rfl rfl (by decide +kernel) ⟨Nat.le_of_ble_eq_true rfl, Nat.le_of_ble_eq_true rfl⟩) (PW_preV hPc hKc hDc hE hS hFc (ci := 1) (q0 := 0) rfl rfl) rfl rfl hl.1 rfl (lv_room (Nat.le_of_ble_eq_true rfl)) d_Sc_fact_28 ⟨Nat.le_of_ble_eq_true rfl, Nat.le_of_ble_eq_true rfl⟩) hS (fun q _ h => hFc q h) hFc (fun r_6 uu t H1 locs ht hvm hw_7 hB hz1 hk1 hS => ?_)
          obtain ⟨hP1, hD1, hsz1⟩ := hB
          rw [ht] at hP1 hsz1
          obtain ⟨hP, hD⟩ := va_join (wr := []) (w1 := [(aS, .inr (1, [.ref aN, .ref aC])), (aN, .inl (kN, 5, .inl (fun j => nI (cnt j)))), (aC, .inl (kC, 52035, .inl cel))]) hP hD [0, 1, 2] [] rfl rfl (by decide) (by decide) hk1 hFc hP1 hD1
          generalize H1 = H at hP hS ⊢
          have hP : va_P (dC, dI) vwCl [(aS, .inr (1, [.ref aN, .ref aC])), (aN, .inl (kN, 5, .inl (fun j => nI (cnt j)))), (aC, .inl (kC, 52035, .inl cel))] H := hP
          have hD : va_D A [(aS, .inr (1, [.ref aN, .ref aC])), (aN, .inl (kN, 5, .inl (fun j => nI (cnt j)))), (aC, .inl (kC, 52035, .inl cel))] := hD
          subst hw_7
          refine lv_iload_n hx hb d_Sc_fact_31 rfl (lv_at hl 3 rfl) ?_
          refine lv_iadd hx hb d_Sc_fact_32 ?_
          refine zt_top (nI_add (zST fa + fb * zWD fa) fc) ?_
          have hPc := hP.sub (ws' := [(aS, .inr (1, [.ref aN, .ref aC])), (aN, .inl (kN, 5, .inl (fun j => nI (cnt j)))), (aC, .inl (kC, 52035, .inl cel))]) [0, 1, 2] rfl
          have hDc := hD.sub (ws' := [(aS, .inr (1, [.ref aN, .ref aC])), (aN, .inl (kN, 5, .inl (fun j => nI (cnt j)))), (aC, .inl (kC, 52035, .inl cel))]) [0, 1, 2] (by decide) rfl
          have hKc := hK.sub (tys' := [(kN, .int), (kC, .int)]) [0, 1] rfl
          have hFc := va_free (wc := [(aS, .inr (1, [.ref aN, .ref aC])), (aN, .inl (kN, 5, .inl (fun j => nI (cnt j)))), (aC, .inl (kC, 52035, .inl cel))]) hD hS hA [0, 1, 2] rfl
          refine va_calli (va_runV (As := [.int (nI ((zST fa + fb * zWD fa) + fc))]) (rest := []) ⟨hx, hb, hml, hown, hts⟩ (c_Sc_cell l G dC dI H.size aS aN aC kN cnt kC cel (nI ((zST fa + fb * zWD fa) + fc))) (cwV 1 hts (gV tw_161 tw_163 ts_2 tw_4 tw_164 rfl) rfl rfl rfl (by decide +kernel) ⟨Nat.le_of_ble_eq_true rfl, Nat.le_of_ble_eq_true rfl⟩) (PW_preV hPc hKc hDc hE hS hFc (ci := 1) (q0 := 0) rfl rfl) rfl rfl hl.1 rfl (lv_room (Nat.le_of_ble_eq_true rfl)) d_Sc_fact_33 ⟨Nat.le_of_ble_eq_true rfl, Nat.le_of_ble_eq_true rfl⟩) hS (fun q _ h => hFc q h) hFc (fun r_8 uu t H1 locs ht hvm hw_9 hB hz1 hk1 hS => ?_)
          obtain ⟨hP1, hD1, hsz1⟩ := hB
          rw [ht] at hP1 hsz1
          obtain ⟨hP, hD⟩ := va_join (wr := []) (w1 := [(aS, .inr (1, [.ref aN, .ref aC])), (aN, .inl (kN, 5, .inl (fun j => nI (cnt j)))), (aC, .inl (kC, 52035, .inl cel))]) hP hD [0, 1, 2] [] rfl rfl (by decide) (by decide) hk1 hFc hP1 hD1
          generalize H1 = H at hP hS ⊢
          have hP : va_P (dC, dI) vwCl [(aS, .inr (1, [.ref aN, .ref aC])), (aN, .inl (kN, 5, .inl (fun j => nI (cnt j)))), (aC, .inl (kC, 52035, .inl cel))] H := hP
          have hD : va_D A [(aS, .inr (1, [.ref aN, .ref aC])), (aN, .inl (kN, 5, .inl (fun j => nI (cnt j)))), (aC, .inl (kC, 52035, .inl cel))] := hD
          refine zt_size (fun hzs => ?_)
          have hP9 := hP.sub (ws' := [(aS, .inr (1, [.ref aN, .ref aC])), (aN, .inl (kN, 5, .inl (fun j => nI (cnt j)))), (aC, .inl (kC, 52035, .inl cel))]) [0, 1, 2] rfl
          have hD9 := hD.sub (ws' := [(aS, .inr (1, [.ref aN, .ref aC])), (aN, .inl (kN, 5, .inl (fun j => nI (cnt j)))), (aC, .inl (kC, 52035, .inl cel))]) [0, 1, 2] (by decide) rfl
          exact W.iret (v := r_8) hx hb hr (fun t ht hW => ⟨⟨r_8, (), rfl, by rw [hw_9, if_pos (zIn_nI (by omega) (by decide))]; unfold zFact; rw [if_pos hin, nI_clamp (show fa < 2 ^ 31 by omega), nI_clamp (show fb < 2 ^ 31 by omega), nI_clamp (show fc < 2 ^ 31 by omega), nI_clamp (show _ < 2 ^ 31 by omega)], by rw [ht]; exact hP9, hD9, by rw [ht]; exact hzs⟩, hS.F ht⟩) hS.2.2 d_Sc_fact_36
        ·
          refine lv_iconst (v := 0) hx hb d_Sc_fact_22 (by decide) ?_
          refine zt_size (fun hzs => ?_)
          have hP9 := hP.sub (ws' := [(aS, .inr (1, [.ref aN, .ref aC])), (aN, .inl (kN, 5, .inl (fun j => nI (cnt j)))), (aC, .inl (kC, 52035, .inl cel))]) [0, 1, 2] rfl
          have hD9 := hD.sub (ws' := [(aS, .inr (1, [.ref aN, .ref aC])), (aN, .inl (kN, 5, .inl (fun j => nI (cnt j)))), (aC, .inl (kC, 52035, .inl cel))]) [0, 1, 2] (by decide) rfl
          exact W.iret (v := 0) hx hb hr (fun t ht hW => ⟨⟨0, (), rfl, by unfold zFact; rw [nI_clamp (show fa < 2 ^ 31 by omega), if_neg (fun z => c_5 z.2.2.2)], by rw [ht]; exact hP9, hD9, by rw [ht]; exact hzs⟩, hS.F ht⟩) hS.2.2 d_Sc_fact_23
  ·
    refine lv_if_eq (tgt := 22) hx hb d_Sc_fact_6 (by decide) (fun c_10 => ?_) (fun c_10 => ?_)
    ·
      refine lv_iconst (v := 0) hx hb d_Sc_fact_22 (by decide) ?_
      refine zt_size (fun hzs => ?_)
      have hP9 := hP.sub (ws' := [(aS, .inr (1, [.ref aN, .ref aC])), (aN, .inl (kN, 5, .inl (fun j => nI (cnt j)))), (aC, .inl (kC, 52035, .inl cel))]) [0, 1, 2] rfl
      have hD9 := hD.sub (ws' := [(aS, .inr (1, [.ref aN, .ref aC])), (aN, .inl (kN, 5, .inl (fun j => nI (cnt j)))), (aC, .inl (kC, 52035, .inl cel))]) [0, 1, 2] (by decide) rfl
      exact W.iret (v := 0) hx hb hr (fun t ht hW => ⟨⟨0, (), rfl, by unfold zFact; rw [if_neg (fun z => hhs ⟨z.1, z.2.1⟩)], by rw [ht]; exact hP9, hD9, by rw [ht]; exact hzs⟩, hS.F ht⟩) hS.2.2 d_Sc_fact_23
    ·
      exact absurd (by decide) c_10
