/-- the limits, facts, starts, widths of the kinds -/
def zM : Nat → Nat := fun k => match k with
  | 0 => 8 | 1 => 16 | 2 => 16 | 3 => 48 | _ => 32
def zFT : Nat → Nat := fun k => match k with
  | 0 => 3 | 1 => 6 | 2 => 3 | 3 => 11 | _ => 4
def zST : Nat → Nat := fun k => match k with
  | 0 => 11 | 1 => 24611 | 2 => 24707 | 3 => 47283 | _ => 47811
def zWD : Nat → Nat := fun k => match k with
  | 0 => 3075 | 1 => 6 | 2 => 1411 | 3 => 11 | _ => 132
theorem zM_ok (k : Nat) (h : k < 5) : (zTl 4).getD k 0 = nI (zM k) := (by decide : ∀ k, k < 5 → (zTl 4).getD k 0 = nI (zM k)) k h
theorem zFT_ok (k : Nat) (h : k < 5) : (zTl 1).getD k 0 = nI (zFT k) := (by decide : ∀ k, k < 5 → (zTl 1).getD k 0 = nI (zFT k)) k h
theorem zST_ok (k : Nat) (h : k < 5) : (zTl 2).getD k 0 = nI (zST k) := (by decide : ∀ k, k < 5 → (zTl 2).getD k 0 = nI (zST k)) k h
theorem zWD_ok (k : Nat) (h : k < 5) : (zTl 3).getD k 0 = nI (zWD k) := (by decide : ∀ k, k < 5 → (zTl 3).getD k 0 = nI (zWD k)) k h
theorem zM_le (k : Nat) : zM k ≤ 48 := by unfold zM; split <;> decide
def zuN (f : Nat → Nat) (k x : Nat) : Nat → Nat := fun j => if j = k then x else f j
theorem zuN_upd {f : Nat → Nat} {k x : Nat} : upd (fun j => nI (f j)) k (nI x) = fun j => nI (zuN f k x j) := by
  funext j; unfold zuN upd; split <;> rfl
theorem zuN_s {f : Nat → Nat} {k x : Nat} : zuN f k x k = x := if_pos rfl
theorem zuN_n {f : Nat → Nat} {k x j : Nat} (h : j ≠ k) : zuN f k x j = f j := if_neg h
def zC0 (cnt : Nat → Nat) : Nat → Nat := zuN (zuN (zuN (zuN (zuN cnt 0 0) 1 0) 2 0) 3 0) 4 0
def zV0 (cel : Nat → Int32) : Nat → Int32 := upd (upd (upd (upd (upd (upd (upd (upd (upd (upd (upd cel 0 ((zTl 0).getD 0 0)) 1 ((zTl 0).getD 1 0)) 2 ((zTl 0).getD 2 0)) 3 ((zTl 0).getD 3 0)) 4 ((zTl 0).getD 4 0)) 5 ((zTl 0).getD 5 0)) 6 ((zTl 0).getD 6 0)) 7 ((zTl 0).getD 7 0)) 8 ((zTl 0).getD 8 0)) 9 ((zTl 0).getD 9 0)) 10 ((zTl 0).getD 10 0)
set_option maxHeartbeats 4000000 in
set_option maxRecDepth 100000 in
theorem c_Sc_clear (l : Launch) (G : ZG) (dC : Nat → ClassId) (dI : Nat → Nat → Nat) (sz : Nat) (aS : Nat) (aN : Nat) (aC : Nat) (kN : ClassId) (cnt : Nat → Nat) (kC : ClassId) (cel : Nat → Int32) : Met l y_Sc_clear w_Sc_clear ({ frames := 0, cells := 0, slots := 0, locals := 0 }) (va_Pc [.ref aS] (PW G (dC, dI) [(kN, .int), (kC, .int)] [(aS, .inr (1, [.ref aN, .ref aC])), (aN, .inl (kN, 5, .inl (fun j => nI (cnt j)))), (aC, .inl (kC, 52035, .inl cel))] sz)) (va_Qv (fun (uu : (Nat → Nat) × (Nat → Int32)) => uu.1 = zC0 cnt ∧ uu.2 = zV0 cel) (fun (uu : (Nat → Nat) × (Nat → Int32)) t => BW (dC, dI) [(aS, .inr (1, [.ref aN, .ref aC])), (aN, .inl (kN, 5, .inl (fun j => nI (uu.1 j)))), (aC, .inl (kC, 52035, .inl uu.2))] (va_A [(aS, .inr (1, [.ref aN, .ref aC])), (aN, .inl (kN, 5, .inl (fun j => nI (cnt j)))), (aC, .inl (kC, 52035, .inl cel))] sz) sz t) (va_A [(aS, .inr (1, [.ref aN, .ref aC])), (aN, .inl (kN, 5, .inl (fun j => nI (cnt j)))), (aC, .inl (kC, 52035, .inl cel))] sz)) 0 0 (va_A [(aS, .inr (1, [.ref aN, .ref aC])), (aN, .inl (kN, 5, .inl (fun j => nI (cnt j)))), (aC, .inl (kC, 52035, .inl cel))] sz) := by
  refine Met.ofW (cc := prog_3_method_2_code) (maxL := 2) (ret := none) (by decide) rfl ?_
  intro p e s m args below meth c s₁ Bd hml hv
  obtain ⟨rfl, hsz, hP, hK, hD0, hE⟩ := hv
  have hx := Bd.exec
  have hb := Bd.bytes
  have hr := Bd.returns
  have hts := atoms_spec (ws := w_Sc_clear) Bd.pre
  have hown : s.vm.findClass R_Sc = some m.cls := findClass_of_methodNamed Bd.named
  have hlocks := Bd.notSynchronized
  have hz : ∀ w ∈ ZW, w.before _ s = true := fun w h => hts w (List.mem_cons_of_mem _ h)
  subst hsz
  have hD := hD0.self (sz := s.heap.size)
  generalize hAe : va_A [(aS, .inr (1, [.ref aN, .ref aC])), (aN, .inl (kN, 5, .inl (fun j => nI (cnt j)))), (aC, .inl (kC, 52035, .inl cel))] s.heap.size = A at hD hE ⊢
  have hA : ∀ q : Nat, s.heap.size ≤ q → A q := fun q h => by rw [← hAe]; exact Or.inr h
  have hS : va_S A s.heap s.heap [] := va_S.rf
  have hl := lv_entry ([.ref aS]) (n := 2) (Nat.le_of_ble_eq_true rfl)
  rw [lg_entry_eq]
  generalize (lg_sl ([.ref aS]) ++ List.replicate (2 - (lg_sl ([.ref aS])).length) Slot.unset).toArray = ls at hl ⊢
  have hl : lv_has ls 2 [(0, .ref aS)] := hl
  obtain ⟨H, hH⟩ : ∃ z, z = s.heap := ⟨_, rfl⟩
  have hP : va_P (dC, dI) vwCl [(aS, .inr (1, [.ref aN, .ref aC])), (aN, .inl (kN, 5, .inl (fun j => nI (cnt j)))), (aC, .inl (kC, 52035, .inl cel))] H := by rw [hH]; exact hP
  have hS : va_S A s.heap H [] := by rw [hH]; exact hS
  refine zt_heap hH ?_
  refine lv_iconst (v := 0) hx hb d_Sc_clear_0 (by decide) ?_
  refine lv_istore_n (lv' := [(1, .int 0), (0, .ref aS)]) hx hb d_Sc_clear_1 rfl hl (by decide) rfl (fun ls hl => ?_)
  refine lv_iload_n hx hb d_Sc_clear_2 rfl (lv_at hl 0 rfl) ?_
  refine lv_iconst (v := 5) hx hb d_Sc_clear_3 (by decide) ?_
  refine lv_icmp_ge (tgt := 20) hx hb d_Sc_clear_4 (by decide) (fun c_1 => ?_) (fun c_1 => ?_)
  ·
    exact absurd c_1 (by decide)
  ·
    refine lv_aload_n hx hb d_Sc_clear_7 rfl (lv_at hl 1 rfl) ?_
    refine va_get (D := (dC, dI)) (ci := 1) (v := .ref aN) (C := R_Sc) (T := F_Sc) (N := 2) hx hb hz i_Sc hown hK hP 0 rfl rfl 0 (by decide) (hz _ tw_76) (fun _ h9 => h9) rfl d_Sc_clear_8 ?_
    refine lv_iload_n hx hb d_Sc_clear_11 rfl (lv_at hl 0 rfl) ?_
    refine lv_iconst (v := 0) hx hb d_Sc_clear_12 (by decide) ?_
    refine va_iast (D := (dC, dI)) (i := nI 0) (x := nI 0) hx hb hK hP hD hS 1 0 rfl rfl (vp_in_nI (by omega) (by decide)) d_Sc_clear_13 (fun H locs hP hD hS => ?_)
    rw [nI_clamp (by omega)] at hP hD
    rw [zuN_upd] at hP hD
    have hP : va_P (dC, dI) vwCl [(aS, .inr (1, [.ref aN, .ref aC])), (aN, .inl (kN, 5, .inl (fun j => nI ((zuN cnt 0 0) j)))), (aC, .inl (kC, 52035, .inl cel))] H := hP
    have hD : va_D A [(aS, .inr (1, [.ref aN, .ref aC])), (aN, .inl (kN, 5, .inl (fun j => nI ((zuN cnt 0 0) j)))), (aC, .inl (kC, 52035, .inl cel))] := hD
    refine lv_iinc (v := 1) (lv' := [(1, .int 1), (0, .ref aS)]) hx hb d_Sc_clear_14 hl (k := 0) rfl (by decide) (by decide) rfl (fun ls hl => ?_)
    refine lv_goto (tgt := 2) hx hb d_Sc_clear_17 (by decide) ?_
    refine lv_iload_n hx hb d_Sc_clear_2 rfl (lv_at hl 0 rfl) ?_
    refine lv_iconst (v := 5) hx hb d_Sc_clear_3 (by decide) ?_
    refine lv_icmp_ge (tgt := 20) hx hb d_Sc_clear_4 (by decide) (fun c_2 => ?_) (fun c_2 => ?_)
    ·
      exact absurd c_2 (by decide)
    ·
      refine lv_aload_n hx hb d_Sc_clear_7 rfl (lv_at hl 1 rfl) ?_
      refine va_get (D := (dC, dI)) (ci := 1) (v := .ref aN) (C := R_Sc) (T := F_Sc) (N := 2) hx hb hz i_Sc hown hK hP 0 rfl rfl 0 (by decide) (hz _ tw_76) (fun _ h9 => h9) rfl d_Sc_clear_8 ?_
      refine lv_iload_n hx hb d_Sc_clear_11 rfl (lv_at hl 0 rfl) ?_
      refine lv_iconst (v := 0) hx hb d_Sc_clear_12 (by decide) ?_
      refine va_iast (D := (dC, dI)) (i := nI 1) (x := nI 0) hx hb hK hP hD hS 1 0 rfl rfl (vp_in_nI (by omega) (by decide)) d_Sc_clear_13 (fun H locs hP hD hS => ?_)
      rw [nI_clamp (by omega)] at hP hD
      rw [zuN_upd] at hP hD
      have hP : va_P (dC, dI) vwCl [(aS, .inr (1, [.ref aN, .ref aC])), (aN, .inl (kN, 5, .inl (fun j => nI ((zuN (zuN cnt 0 0) 1 0) j)))), (aC, .inl (kC, 52035, .inl cel))] H := hP
      have hD : va_D A [(aS, .inr (1, [.ref aN, .ref aC])), (aN, .inl (kN, 5, .inl (fun j => nI ((zuN (zuN cnt 0 0) 1 0) j)))), (aC, .inl (kC, 52035, .inl cel))] := hD
      refine lv_iinc (v := 2) (lv' := [(1, .int 2), (0, .ref aS)]) hx hb d_Sc_clear_14 hl (k := 0) rfl (by decide) (by decide) rfl (fun ls hl => ?_)
      refine lv_goto (tgt := 2) hx hb d_Sc_clear_17 (by decide) ?_
      refine lv_iload_n hx hb d_Sc_clear_2 rfl (lv_at hl 0 rfl) ?_
      refine lv_iconst (v := 5) hx hb d_Sc_clear_3 (by decide) ?_
      refine lv_icmp_ge (tgt := 20) hx hb d_Sc_clear_4 (by decide) (fun c_3 => ?_) (fun c_3 => ?_)
      ·
        exact absurd c_3 (by decide)
      ·
        refine lv_aload_n hx hb d_Sc_clear_7 rfl (lv_at hl 1 rfl) ?_
        refine va_get (D := (dC, dI)) (ci := 1) (v := .ref aN) (C := R_Sc) (T := F_Sc) (N := 2) hx hb hz i_Sc hown hK hP 0 rfl rfl 0 (by decide) (hz _ tw_76) (fun _ h9 => h9) rfl d_Sc_clear_8 ?_
        refine lv_iload_n hx hb d_Sc_clear_11 rfl (lv_at hl 0 rfl) ?_
        refine lv_iconst (v := 0) hx hb d_Sc_clear_12 (by decide) ?_
        refine va_iast (D := (dC, dI)) (i := nI 2) (x := nI 0) hx hb hK hP hD hS 1 0 rfl rfl (vp_in_nI (by omega) (by decide)) d_Sc_clear_13 (fun H locs hP hD hS => ?_)
        rw [nI_clamp (by omega)] at hP hD
        rw [zuN_upd] at hP hD
        have hP : va_P (dC, dI) vwCl [(aS, .inr (1, [.ref aN, .ref aC])), (aN, .inl (kN, 5, .inl (fun j => nI ((zuN (zuN (zuN cnt 0 0) 1 0) 2 0) j)))), (aC, .inl (kC, 52035, .inl cel))] H := hP
        have hD : va_D A [(aS, .inr (1, [.ref aN, .ref aC])), (aN, .inl (kN, 5, .inl (fun j => nI ((zuN (zuN (zuN cnt 0 0) 1 0) 2 0) j)))), (aC, .inl (kC, 52035, .inl cel))] := hD
        refine lv_iinc (v := 3) (lv' := [(1, .int 3), (0, .ref aS)]) hx hb d_Sc_clear_14 hl (k := 0) rfl (by decide) (by decide) rfl (fun ls hl => ?_)
        refine lv_goto (tgt := 2) hx hb d_Sc_clear_17 (by decide) ?_
        refine lv_iload_n hx hb d_Sc_clear_2 rfl (lv_at hl 0 rfl) ?_
        refine lv_iconst (v := 5) hx hb d_Sc_clear_3 (by decide) ?_
        refine lv_icmp_ge (tgt := 20) hx hb d_Sc_clear_4 (by decide) (fun c_4 => ?_) (fun c_4 => ?_)
        ·
          exact absurd c_4 (by decide)
        ·
          refine lv_aload_n hx hb d_Sc_clear_7 rfl (lv_at hl 1 rfl) ?_
          refine va_get (D := (dC, dI)) (ci := 1) (v := .ref aN) (C := R_Sc) (T := F_Sc) (N := 2) hx hb hz i_Sc hown hK hP 0 rfl rfl 0 (by decide) (hz _ tw_76) (fun _ h9 => h9) rfl d_Sc_clear_8 ?_
          refine lv_iload_n hx hb d_Sc_clear_11 rfl (lv_at hl 0 rfl) ?_
          refine lv_iconst (v := 0) hx hb d_Sc_clear_12 (by decide) ?_
          refine va_iast (D := (dC, dI)) (i := nI 3) (x := nI 0) hx hb hK hP hD hS 1 0 rfl rfl (vp_in_nI (by omega) (by decide)) d_Sc_clear_13 (fun H locs hP hD hS => ?_)
          rw [nI_clamp (by omega)] at hP hD
          rw [zuN_upd] at hP hD
          have hP : va_P (dC, dI) vwCl [(aS, .inr (1, [.ref aN, .ref aC])), (aN, .inl (kN, 5, .inl (fun j => nI ((zuN (zuN (zuN (zuN cnt 0 0) 1 0) 2 0) 3 0) j)))), (aC, .inl (kC, 52035, .inl cel))] H := hP
          have hD : va_D A [(aS, .inr (1, [.ref aN, .ref aC])), (aN, .inl (kN, 5, .inl (fun j => nI ((zuN (zuN (zuN (zuN cnt 0 0) 1 0) 2 0) 3 0) j)))), (aC, .inl (kC, 52035, .inl cel))] := hD
          refine lv_iinc (v := 4) (lv' := [(1, .int 4), (0, .ref aS)]) hx hb d_Sc_clear_14 hl (k := 0) rfl (by decide) (by decide) rfl (fun ls hl => ?_)
          refine lv_goto (tgt := 2) hx hb d_Sc_clear_17 (by decide) ?_
          refine lv_iload_n hx hb d_Sc_clear_2 rfl (lv_at hl 0 rfl) ?_
          refine lv_iconst (v := 5) hx hb d_Sc_clear_3 (by decide) ?_
          refine lv_icmp_ge (tgt := 20) hx hb d_Sc_clear_4 (by decide) (fun c_5 => ?_) (fun c_5 => ?_)
          ·
            exact absurd c_5 (by decide)
          ·
            refine lv_aload_n hx hb d_Sc_clear_7 rfl (lv_at hl 1 rfl) ?_
            refine va_get (D := (dC, dI)) (ci := 1) (v := .ref aN) (C := R_Sc) (T := F_Sc) (N := 2) hx hb hz i_Sc hown hK hP 0 rfl rfl 0 (by decide) (hz _ tw_76) (fun _ h9 => h9) rfl d_Sc_clear_8 ?_
            refine lv_iload_n hx hb d_Sc_clear_11 rfl (lv_at hl 0 rfl) ?_
            refine lv_iconst (v := 0) hx hb d_Sc_clear_12 (by decide) ?_
            refine va_iast (D := (dC, dI)) (i := nI 4) (x := nI 0) hx hb hK hP hD hS 1 0 rfl rfl (vp_in_nI (by omega) (by decide)) d_Sc_clear_13 (fun H locs hP hD hS => ?_)
            rw [nI_clamp (by omega)] at hP hD
            rw [zuN_upd] at hP hD
            have hP : va_P (dC, dI) vwCl [(aS, .inr (1, [.ref aN, .ref aC])), (aN, .inl (kN, 5, .inl (fun j => nI ((zuN (zuN (zuN (zuN (zuN cnt 0 0) 1 0) 2 0) 3 0) 4 0) j)))), (aC, .inl (kC, 52035, .inl cel))] H := hP
            have hD : va_D A [(aS, .inr (1, [.ref aN, .ref aC])), (aN, .inl (kN, 5, .inl (fun j => nI ((zuN (zuN (zuN (zuN (zuN cnt 0 0) 1 0) 2 0) 3 0) 4 0) j)))), (aC, .inl (kC, 52035, .inl cel))] := hD
            refine lv_iinc (v := 5) (lv' := [(1, .int 5), (0, .ref aS)]) hx hb d_Sc_clear_14 hl (k := 0) rfl (by decide) (by decide) rfl (fun ls hl => ?_)
            refine lv_goto (tgt := 2) hx hb d_Sc_clear_17 (by decide) ?_
            refine lv_iload_n hx hb d_Sc_clear_2 rfl (lv_at hl 0 rfl) ?_
            refine lv_iconst (v := 5) hx hb d_Sc_clear_3 (by decide) ?_
            refine lv_icmp_ge (tgt := 20) hx hb d_Sc_clear_4 (by decide) (fun c_6 => ?_) (fun c_6 => ?_)
            ·
              refine lv_iconst (v := 0) hx hb d_Sc_clear_20 (by decide) ?_
              refine lv_istore_n (lv' := [(1, .int 0), (0, .ref aS)]) hx hb d_Sc_clear_21 rfl hl (by decide) rfl (fun ls hl => ?_)
              refine lv_iload_n hx hb d_Sc_clear_22 rfl (lv_at hl 0 rfl) ?_
              refine lv_bipush (v := 11) hx hb d_Sc_clear_23 (by decide) ?_
              refine lv_icmp_ge (tgt := 45) hx hb d_Sc_clear_25 (by decide) (fun c_7 => ?_) (fun c_7 => ?_)
              ·
                exact absurd c_7 (by decide)
              ·
                refine lv_aload_n hx hb d_Sc_clear_28 rfl (lv_at hl 1 rfl) ?_
                refine va_get (D := (dC, dI)) (ci := 1) (v := .ref aC) (C := R_Sc) (T := F_Sc) (N := 2) hx hb hz i_Sc hown hK hP 0 rfl rfl 1 (by decide) (hz _ tw_77) (fun _ h9 => h9) rfl d_Sc_clear_29 ?_
                refine lv_iload_n hx hb d_Sc_clear_32 rfl (lv_at hl 0 rfl) ?_
                refine va_gets hx hb (hE.2.2.2.2.1 0 (by decide)).1 hS hown (hz _ tw_74) (fun _ h9 => h9) d_Sc_clear_33 ?_
                refine lv_iload_n hx hb d_Sc_clear_36 rfl (lv_at hl 0 rfl) ?_
                refine va_ti (i := nI 0) (v := .int ((zTl 0).getD 0 0)) hx hb (hE.2.2.2.2.1 0 (by decide)).2 hS (vp_in_nI (n := 0) (N := 11) (by omega) (by decide)) (by rw [nI_clamp (by omega)]) d_Sc_clear_37 ?_
                refine va_iast (D := (dC, dI)) (i := nI 0) (x := (zTl 0).getD 0 0) hx hb hK hP hD hS 2 1 rfl rfl (vp_in_nI (by omega) (by decide)) d_Sc_clear_38 (fun H locs hP hD hS => ?_)
                rw [nI_clamp (by omega)] at hP hD
                have hP : va_P (dC, dI) vwCl [(aS, .inr (1, [.ref aN, .ref aC])), (aN, .inl (kN, 5, .inl (fun j => nI ((zuN (zuN (zuN (zuN (zuN cnt 0 0) 1 0) 2 0) 3 0) 4 0) j)))), (aC, .inl (kC, 52035, .inl (upd cel 0 ((zTl 0).getD 0 0))))] H := hP
                have hD : va_D A [(aS, .inr (1, [.ref aN, .ref aC])), (aN, .inl (kN, 5, .inl (fun j => nI ((zuN (zuN (zuN (zuN (zuN cnt 0 0) 1 0) 2 0) 3 0) 4 0) j)))), (aC, .inl (kC, 52035, .inl (upd cel 0 ((zTl 0).getD 0 0))))] := hD
                refine lv_iinc (v := 1) (lv' := [(1, .int 1), (0, .ref aS)]) hx hb d_Sc_clear_39 hl (k := 0) rfl (by decide) (by decide) rfl (fun ls hl => ?_)
                refine lv_goto (tgt := 22) hx hb d_Sc_clear_42 (by decide) ?_
                refine lv_iload_n hx hb d_Sc_clear_22 rfl (lv_at hl 0 rfl) ?_
                refine lv_bipush (v := 11) hx hb d_Sc_clear_23 (by decide) ?_
                refine lv_icmp_ge (tgt := 45) hx hb d_Sc_clear_25 (by decide) (fun c_8 => ?_) (fun c_8 => ?_)
                ·
                  exact absurd c_8 (by decide)
                ·
                  refine lv_aload_n hx hb d_Sc_clear_28 rfl (lv_at hl 1 rfl) ?_
                  refine va_get (D := (dC, dI)) (ci := 1) (v := .ref aC) (C := R_Sc) (T := F_Sc) (N := 2) hx hb hz i_Sc hown hK hP 0 rfl rfl 1 (by decide) (hz _ tw_77) (fun _ h9 => h9) rfl d_Sc_clear_29 ?_
                  refine lv_iload_n hx hb d_Sc_clear_32 rfl (lv_at hl 0 rfl) ?_
                  refine va_gets hx hb (hE.2.2.2.2.1 0 (by decide)).1 hS hown (hz _ tw_74) (fun _ h9 => h9) d_Sc_clear_33 ?_
                  refine lv_iload_n hx hb d_Sc_clear_36 rfl (lv_at hl 0 rfl) ?_
                  refine va_ti (i := nI 1) (v := .int ((zTl 0).getD 1 0)) hx hb (hE.2.2.2.2.1 0 (by decide)).2 hS (vp_in_nI (n := 1) (N := 11) (by omega) (by decide)) (by rw [nI_clamp (by omega)]) d_Sc_clear_37 ?_
                  refine va_iast (D := (dC, dI)) (i := nI 1) (x := (zTl 0).getD 1 0) hx hb hK hP hD hS 2 1 rfl rfl (vp_in_nI (by omega) (by decide)) d_Sc_clear_38 (fun H locs hP hD hS => ?_)
                  rw [nI_clamp (by omega)] at hP hD
                  have hP : va_P (dC, dI) vwCl [(aS, .inr (1, [.ref aN, .ref aC])), (aN, .inl (kN, 5, .inl (fun j => nI ((zuN (zuN (zuN (zuN (zuN cnt 0 0) 1 0) 2 0) 3 0) 4 0) j)))), (aC, .inl (kC, 52035, .inl (upd (upd cel 0 ((zTl 0).getD 0 0)) 1 ((zTl 0).getD 1 0))))] H := hP
                  have hD : va_D A [(aS, .inr (1, [.ref aN, .ref aC])), (aN, .inl (kN, 5, .inl (fun j => nI ((zuN (zuN (zuN (zuN (zuN cnt 0 0) 1 0) 2 0) 3 0) 4 0) j)))), (aC, .inl (kC, 52035, .inl (upd (upd cel 0 ((zTl 0).getD 0 0)) 1 ((zTl 0).getD 1 0))))] := hD
                  refine lv_iinc (v := 2) (lv' := [(1, .int 2), (0, .ref aS)]) hx hb d_Sc_clear_39 hl (k := 0) rfl (by decide) (by decide) rfl (fun ls hl => ?_)
                  refine lv_goto (tgt := 22) hx hb d_Sc_clear_42 (by decide) ?_
                  refine lv_iload_n hx hb d_Sc_clear_22 rfl (lv_at hl 0 rfl) ?_
                  refine lv_bipush (v := 11) hx hb d_Sc_clear_23 (by decide) ?_
                  refine lv_icmp_ge (tgt := 45) hx hb d_Sc_clear_25 (by decide) (fun c_9 => ?_) (fun c_9 => ?_)
                  ·
                    exact absurd c_9 (by decide)
                  ·
                    refine lv_aload_n hx hb d_Sc_clear_28 rfl (lv_at hl 1 rfl) ?_
                    refine va_get (D := (dC, dI)) (ci := 1) (v := .ref aC) (C := R_Sc) (T := F_Sc) (N := 2) hx hb hz i_Sc hown hK hP 0 rfl rfl 1 (by decide) (hz _ tw_77) (fun _ h9 => h9) rfl d_Sc_clear_29 ?_
                    refine lv_iload_n hx hb d_Sc_clear_32 rfl (lv_at hl 0 rfl) ?_
                    refine va_gets hx hb (hE.2.2.2.2.1 0 (by decide)).1 hS hown (hz _ tw_74) (fun _ h9 => h9) d_Sc_clear_33 ?_
                    refine lv_iload_n hx hb d_Sc_clear_36 rfl (lv_at hl 0 rfl) ?_
                    refine va_ti (i := nI 2) (v := .int ((zTl 0).getD 2 0)) hx hb (hE.2.2.2.2.1 0 (by decide)).2 hS (vp_in_nI (n := 2) (N := 11) (by omega) (by decide)) (by rw [nI_clamp (by omega)]) d_Sc_clear_37 ?_
                    refine va_iast (D := (dC, dI)) (i := nI 2) (x := (zTl 0).getD 2 0) hx hb hK hP hD hS 2 1 rfl rfl (vp_in_nI (by omega) (by decide)) d_Sc_clear_38 (fun H locs hP hD hS => ?_)
                    rw [nI_clamp (by omega)] at hP hD
                    have hP : va_P (dC, dI) vwCl [(aS, .inr (1, [.ref aN, .ref aC])), (aN, .inl (kN, 5, .inl (fun j => nI ((zuN (zuN (zuN (zuN (zuN cnt 0 0) 1 0) 2 0) 3 0) 4 0) j)))), (aC, .inl (kC, 52035, .inl (upd (upd (upd cel 0 ((zTl 0).getD 0 0)) 1 ((zTl 0).getD 1 0)) 2 ((zTl 0).getD 2 0))))] H := hP
                    have hD : va_D A [(aS, .inr (1, [.ref aN, .ref aC])), (aN, .inl (kN, 5, .inl (fun j => nI ((zuN (zuN (zuN (zuN (zuN cnt 0 0) 1 0) 2 0) 3 0) 4 0) j)))), (aC, .inl (kC, 52035, .inl (upd (upd (upd cel 0 ((zTl 0).getD 0 0)) 1 ((zTl 0).getD 1 0)) 2 ((zTl 0).getD 2 0))))] := hD
                    refine lv_iinc (v := 3) (lv' := [(1, .int 3), (0, .ref aS)]) hx hb d_Sc_clear_39 hl (k := 0) rfl (by decide) (by decide) rfl (fun ls hl => ?_)
                    refine lv_goto (tgt := 22) hx hb d_Sc_clear_42 (by decide) ?_
                    refine lv_iload_n hx hb d_Sc_clear_22 rfl (lv_at hl 0 rfl) ?_
                    refine lv_bipush (v := 11) hx hb d_Sc_clear_23 (by decide) ?_
                    refine lv_icmp_ge (tgt := 45) hx hb d_Sc_clear_25 (by decide) (fun c_10 => ?_) (fun c_10 => ?_)
                    ·
                      exact absurd c_10 (by decide)
                    ·
                      refine lv_aload_n hx hb d_Sc_clear_28 rfl (lv_at hl 1 rfl) ?_
                      refine va_get (D := (dC, dI)) (ci := 1) (v := .ref aC) (C := R_Sc) (T := F_Sc) (N := 2) hx hb hz i_Sc hown hK hP 0 rfl rfl 1 (by decide) (hz _ tw_77) (fun _ h9 => h9) rfl d_Sc_clear_29 ?_
                      refine lv_iload_n hx hb d_Sc_clear_32 rfl (lv_at hl 0 rfl) ?_
                      refine va_gets hx hb (hE.2.2.2.2.1 0 (by decide)).1 hS hown (hz _ tw_74) (fun _ h9 => h9) d_Sc_clear_33 ?_
                      refine lv_iload_n hx hb d_Sc_clear_36 rfl (lv_at hl 0 rfl) ?_
                      refine va_ti (i := nI 3) (v := .int ((zTl 0).getD 3 0)) hx hb (hE.2.2.2.2.1 0 (by decide)).2 hS (vp_in_nI (n := 3) (N := 11) (by omega) (by decide)) (by rw [nI_clamp (by omega)]) d_Sc_clear_37 ?_
                      refine va_iast (D := (dC, dI)) (i := nI 3) (x := (zTl 0).getD 3 0) hx hb hK hP hD hS 2 1 rfl rfl (vp_in_nI (by omega) (by decide)) d_Sc_clear_38 (fun H locs hP hD hS => ?_)
                      rw [nI_clamp (by omega)] at hP hD
                      have hP : va_P (dC, dI) vwCl [(aS, .inr (1, [.ref aN, .ref aC])), (aN, .inl (kN, 5, .inl (fun j => nI ((zuN (zuN (zuN (zuN (zuN cnt 0 0) 1 0) 2 0) 3 0) 4 0) j)))), (aC, .inl (kC, 52035, .inl (upd (upd (upd (upd cel 0 ((zTl 0).getD 0 0)) 1 ((zTl 0).getD 1 0)) 2 ((zTl 0).getD 2 0)) 3 ((zTl 0).getD 3 0))))] H := hP
                      have hD : va_D A [(aS, .inr (1, [.ref aN, .ref aC])), (aN, .inl (kN, 5, .inl (fun j => nI ((zuN (zuN (zuN (zuN (zuN cnt 0 0) 1 0) 2 0) 3 0) 4 0) j)))), (aC, .inl (kC, 52035, .inl (upd (upd (upd (upd cel 0 ((zTl 0).getD 0 0)) 1 ((zTl 0).getD 1 0)) 2 ((zTl 0).getD 2 0)) 3 ((zTl 0).getD 3 0))))] := hD
                      refine lv_iinc (v := 4) (lv' := [(1, .int 4), (0, .ref aS)]) hx hb d_Sc_clear_39 hl (k := 0) rfl (by decide) (by decide) rfl (fun ls hl => ?_)
                      refine lv_goto (tgt := 22) hx hb d_Sc_clear_42 (by decide) ?_
                      refine lv_iload_n hx hb d_Sc_clear_22 rfl (lv_at hl 0 rfl) ?_
                      refine lv_bipush (v := 11) hx hb d_Sc_clear_23 (by decide) ?_
                      refine lv_icmp_ge (tgt := 45) hx hb d_Sc_clear_25 (by decide) (fun c_11 => ?_) (fun c_11 => ?_)
                      ·
                        exact absurd c_11 (by decide)
                      ·
                        refine lv_aload_n hx hb d_Sc_clear_28 rfl (lv_at hl 1 rfl) ?_
                        refine va_get (D := (dC, dI)) (ci := 1) (v := .ref aC) (C := R_Sc) (T := F_Sc) (N := 2) hx hb hz i_Sc hown hK hP 0 rfl rfl 1 (by decide) (hz _ tw_77) (fun _ h9 => h9) rfl d_Sc_clear_29 ?_
                        refine lv_iload_n hx hb d_Sc_clear_32 rfl (lv_at hl 0 rfl) ?_
                        refine va_gets hx hb (hE.2.2.2.2.1 0 (by decide)).1 hS hown (hz _ tw_74) (fun _ h9 => h9) d_Sc_clear_33 ?_
                        refine lv_iload_n hx hb d_Sc_clear_36 rfl (lv_at hl 0 rfl) ?_
                        refine va_ti (i := nI 4) (v := .int ((zTl 0).getD 4 0)) hx hb (hE.2.2.2.2.1 0 (by decide)).2 hS (vp_in_nI (n := 4) (N := 11) (by omega) (by decide)) (by rw [nI_clamp (by omega)]) d_Sc_clear_37 ?_
                        refine va_iast (D := (dC, dI)) (i := nI 4) (x := (zTl 0).getD 4 0) hx hb hK hP hD hS 2 1 rfl rfl (vp_in_nI (by omega) (by decide)) d_Sc_clear_38 (fun H locs hP hD hS => ?_)
                        rw [nI_clamp (by omega)] at hP hD
                        have hP : va_P (dC, dI) vwCl [(aS, .inr (1, [.ref aN, .ref aC])), (aN, .inl (kN, 5, .inl (fun j => nI ((zuN (zuN (zuN (zuN (zuN cnt 0 0) 1 0) 2 0) 3 0) 4 0) j)))), (aC, .inl (kC, 52035, .inl (upd (upd (upd (upd (upd cel 0 ((zTl 0).getD 0 0)) 1 ((zTl 0).getD 1 0)) 2 ((zTl 0).getD 2 0)) 3 ((zTl 0).getD 3 0)) 4 ((zTl 0).getD 4 0))))] H := hP
                        have hD : va_D A [(aS, .inr (1, [.ref aN, .ref aC])), (aN, .inl (kN, 5, .inl (fun j => nI ((zuN (zuN (zuN (zuN (zuN cnt 0 0) 1 0) 2 0) 3 0) 4 0) j)))), (aC, .inl (kC, 52035, .inl (upd (upd (upd (upd (upd cel 0 ((zTl 0).getD 0 0)) 1 ((zTl 0).getD 1 0)) 2 ((zTl 0).getD 2 0)) 3 ((zTl 0).getD 3 0)) 4 ((zTl 0).getD 4 0))))] := hD
                        refine lv_iinc (v := 5) (lv' := [(1, .int 5), (0, .ref aS)]) hx hb d_Sc_clear_39 hl (k := 0) rfl (by decide) (by decide) rfl (fun ls hl => ?_)
                        refine lv_goto (tgt := 22) hx hb d_Sc_clear_42 (by decide) ?_
                        refine lv_iload_n hx hb d_Sc_clear_22 rfl (lv_at hl 0 rfl) ?_
                        refine lv_bipush (v := 11) hx hb d_Sc_clear_23 (by decide) ?_
                        refine lv_icmp_ge (tgt := 45) hx hb d_Sc_clear_25 (by decide) (fun c_12 => ?_) (fun c_12 => ?_)
                        ·
                          exact absurd c_12 (by decide)
                        ·
                          refine lv_aload_n hx hb d_Sc_clear_28 rfl (lv_at hl 1 rfl) ?_
                          refine va_get (D := (dC, dI)) (ci := 1) (v := .ref aC) (C := R_Sc) (T := F_Sc) (N := 2) hx hb hz i_Sc hown hK hP 0 rfl rfl 1 (by decide) (hz _ tw_77) (fun _ h9 => h9) rfl d_Sc_clear_29 ?_
                          refine lv_iload_n hx hb d_Sc_clear_32 rfl (lv_at hl 0 rfl) ?_
                          refine va_gets hx hb (hE.2.2.2.2.1 0 (by decide)).1 hS hown (hz _ tw_74) (fun _ h9 => h9) d_Sc_clear_33 ?_
                          refine lv_iload_n hx hb d_Sc_clear_36 rfl (lv_at hl 0 rfl) ?_
                          refine va_ti (i := nI 5) (v := .int ((zTl 0).getD 5 0)) hx hb (hE.2.2.2.2.1 0 (by decide)).2 hS (vp_in_nI (n := 5) (N := 11) (by omega) (by decide)) (by rw [nI_clamp (by omega)]) d_Sc_clear_37 ?_
                          refine va_iast (D := (dC, dI)) (i := nI 5) (x := (zTl 0).getD 5 0) hx hb hK hP hD hS 2 1 rfl rfl (vp_in_nI (by omega) (by decide)) d_Sc_clear_38 (fun H locs hP hD hS => ?_)
                          rw [nI_clamp (by omega)] at hP hD
                          have hP : va_P (dC, dI) vwCl [(aS, .inr (1, [.ref aN, .ref aC])), (aN, .inl (kN, 5, .inl (fun j => nI ((zuN (zuN (zuN (zuN (zuN cnt 0 0) 1 0) 2 0) 3 0) 4 0) j)))), (aC, .inl (kC, 52035, .inl (upd (upd (upd (upd (upd (upd cel 0 ((zTl 0).getD 0 0)) 1 ((zTl 0).getD 1 0)) 2 ((zTl 0).getD 2 0)) 3 ((zTl 0).getD 3 0)) 4 ((zTl 0).getD 4 0)) 5 ((zTl 0).getD 5 0))))] H := hP
                          have hD : va_D A [(aS, .inr (1, [.ref aN, .ref aC])), (aN, .inl (kN, 5, .inl (fun j => nI ((zuN (zuN (zuN (zuN (zuN cnt 0 0) 1 0) 2 0) 3 0) 4 0) j)))), (aC, .inl (kC, 52035, .inl (upd (upd (upd (upd (upd (upd cel 0 ((zTl 0).getD 0 0)) 1 ((zTl 0).getD 1 0)) 2 ((zTl 0).getD 2 0)) 3 ((zTl 0).getD 3 0)) 4 ((zTl 0).getD 4 0)) 5 ((zTl 0).getD 5 0))))] := hD
                          refine lv_iinc (v := 6) (lv' := [(1, .int 6), (0, .ref aS)]) hx hb d_Sc_clear_39 hl (k := 0) rfl (by decide) (by decide) rfl (fun ls hl => ?_)
                          refine lv_goto (tgt := 22) hx hb d_Sc_clear_42 (by decide) ?_
                          refine lv_iload_n hx hb d_Sc_clear_22 rfl (lv_at hl 0 rfl) ?_
                          refine lv_bipush (v := 11) hx hb d_Sc_clear_23 (by decide) ?_
                          refine lv_icmp_ge (tgt := 45) hx hb d_Sc_clear_25 (by decide) (fun c_13 => ?_) (fun c_13 => ?_)
                          ·
                            exact absurd c_13 (by decide)
                          ·
                            refine lv_aload_n hx hb d_Sc_clear_28 rfl (lv_at hl 1 rfl) ?_
                            refine va_get (D := (dC, dI)) (ci := 1) (v := .ref aC) (C := R_Sc) (T := F_Sc) (N := 2) hx hb hz i_Sc hown hK hP 0 rfl rfl 1 (by decide) (hz _ tw_77) (fun _ h9 => h9) rfl d_Sc_clear_29 ?_
                            refine lv_iload_n hx hb d_Sc_clear_32 rfl (lv_at hl 0 rfl) ?_
                            refine va_gets hx hb (hE.2.2.2.2.1 0 (by decide)).1 hS hown (hz _ tw_74) (fun _ h9 => h9) d_Sc_clear_33 ?_
                            refine lv_iload_n hx hb d_Sc_clear_36 rfl (lv_at hl 0 rfl) ?_
                            refine va_ti (i := nI 6) (v := .int ((zTl 0).getD 6 0)) hx hb (hE.2.2.2.2.1 0 (by decide)).2 hS (vp_in_nI (n := 6) (N := 11) (by omega) (by decide)) (by rw [nI_clamp (by omega)]) d_Sc_clear_37 ?_
                            refine va_iast (D := (dC, dI)) (i := nI 6) (x := (zTl 0).getD 6 0) hx hb hK hP hD hS 2 1 rfl rfl (vp_in_nI (by omega) (by decide)) d_Sc_clear_38 (fun H locs hP hD hS => ?_)
                            rw [nI_clamp (by omega)] at hP hD
                            have hP : va_P (dC, dI) vwCl [(aS, .inr (1, [.ref aN, .ref aC])), (aN, .inl (kN, 5, .inl (fun j => nI ((zuN (zuN (zuN (zuN (zuN cnt 0 0) 1 0) 2 0) 3 0) 4 0) j)))), (aC, .inl (kC, 52035, .inl (upd (upd (upd (upd (upd (upd (upd cel 0 ((zTl 0).getD 0 0)) 1 ((zTl 0).getD 1 0)) 2 ((zTl 0).getD 2 0)) 3 ((zTl 0).getD 3 0)) 4 ((zTl 0).getD 4 0)) 5 ((zTl 0).getD 5 0)) 6 ((zTl 0).getD 6 0))))] H := hP
                            have hD : va_D A [(aS, .inr (1, [.ref aN, .ref aC])), (aN, .inl (kN, 5, .inl (fun j => nI ((zuN (zuN (zuN (zuN (zuN cnt 0 0) 1 0) 2 0) 3 0) 4 0) j)))), (aC, .inl (kC, 52035, .inl (upd (upd (upd (upd (upd (upd (upd cel 0 ((zTl 0).getD 0 0)) 1 ((zTl 0).getD 1 0)) 2 ((zTl 0).getD 2 0)) 3 ((zTl 0).getD 3 0)) 4 ((zTl 0).getD 4 0)) 5 ((zTl 0).getD 5 0)) 6 ((zTl 0).getD 6 0))))] := hD
                            refine lv_iinc (v := 7) (lv' := [(1, .int 7), (0, .ref aS)]) hx hb d_Sc_clear_39 hl (k := 0) rfl (by decide) (by decide) rfl (fun ls hl => ?_)
                            refine lv_goto (tgt := 22) hx hb d_Sc_clear_42 (by decide) ?_
                            refine lv_iload_n hx hb d_Sc_clear_22 rfl (lv_at hl 0 rfl) ?_
                            refine lv_bipush (v := 11) hx hb d_Sc_clear_23 (by decide) ?_
                            refine lv_icmp_ge (tgt := 45) hx hb d_Sc_clear_25 (by decide) (fun c_14 => ?_) (fun c_14 => ?_)
                            ·
                              exact absurd c_14 (by decide)
                            ·
                              refine lv_aload_n hx hb d_Sc_clear_28 rfl (lv_at hl 1 rfl) ?_
                              refine va_get (D := (dC, dI)) (ci := 1) (v := .ref aC) (C := R_Sc) (T := F_Sc) (N := 2) hx hb hz i_Sc hown hK hP 0 rfl rfl 1 (by decide) (hz _ tw_77) (fun _ h9 => h9) rfl d_Sc_clear_29 ?_
                              refine lv_iload_n hx hb d_Sc_clear_32 rfl (lv_at hl 0 rfl) ?_
                              refine va_gets hx hb (hE.2.2.2.2.1 0 (by decide)).1 hS hown (hz _ tw_74) (fun _ h9 => h9) d_Sc_clear_33 ?_
                              refine lv_iload_n hx hb d_Sc_clear_36 rfl (lv_at hl 0 rfl) ?_
                              refine va_ti (i := nI 7) (v := .int ((zTl 0).getD 7 0)) hx hb (hE.2.2.2.2.1 0 (by decide)).2 hS (vp_in_nI (n := 7) (N := 11) (by omega) (by decide)) (by rw [nI_clamp (by omega)]) d_Sc_clear_37 ?_
                              refine va_iast (D := (dC, dI)) (i := nI 7) (x := (zTl 0).getD 7 0) hx hb hK hP hD hS 2 1 rfl rfl (vp_in_nI (by omega) (by decide)) d_Sc_clear_38 (fun H locs hP hD hS => ?_)
                              rw [nI_clamp (by omega)] at hP hD
                              have hP : va_P (dC, dI) vwCl [(aS, .inr (1, [.ref aN, .ref aC])), (aN, .inl (kN, 5, .inl (fun j => nI ((zuN (zuN (zuN (zuN (zuN cnt 0 0) 1 0) 2 0) 3 0) 4 0) j)))), (aC, .inl (kC, 52035, .inl (upd (upd (upd (upd (upd (upd (upd (upd cel 0 ((zTl 0).getD 0 0)) 1 ((zTl 0).getD 1 0)) 2 ((zTl 0).getD 2 0)) 3 ((zTl 0).getD 3 0)) 4 ((zTl 0).getD 4 0)) 5 ((zTl 0).getD 5 0)) 6 ((zTl 0).getD 6 0)) 7 ((zTl 0).getD 7 0))))] H := hP
                              have hD : va_D A [(aS, .inr (1, [.ref aN, .ref aC])), (aN, .inl (kN, 5, .inl (fun j => nI ((zuN (zuN (zuN (zuN (zuN cnt 0 0) 1 0) 2 0) 3 0) 4 0) j)))), (aC, .inl (kC, 52035, .inl (upd (upd (upd (upd (upd (upd (upd (upd cel 0 ((zTl 0).getD 0 0)) 1 ((zTl 0).getD 1 0)) 2 ((zTl 0).getD 2 0)) 3 ((zTl 0).getD 3 0)) 4 ((zTl 0).getD 4 0)) 5 ((zTl 0).getD 5 0)) 6 ((zTl 0).getD 6 0)) 7 ((zTl 0).getD 7 0))))] := hD
                              refine lv_iinc (v := 8) (lv' := [(1, .int 8), (0, .ref aS)]) hx hb d_Sc_clear_39 hl (k := 0) rfl (by decide) (by decide) rfl (fun ls hl => ?_)
                              refine lv_goto (tgt := 22) hx hb d_Sc_clear_42 (by decide) ?_
                              refine lv_iload_n hx hb d_Sc_clear_22 rfl (lv_at hl 0 rfl) ?_
                              refine lv_bipush (v := 11) hx hb d_Sc_clear_23 (by decide) ?_
                              refine lv_icmp_ge (tgt := 45) hx hb d_Sc_clear_25 (by decide) (fun c_15 => ?_) (fun c_15 => ?_)
                              ·
                                exact absurd c_15 (by decide)
                              ·
                                refine lv_aload_n hx hb d_Sc_clear_28 rfl (lv_at hl 1 rfl) ?_
                                refine va_get (D := (dC, dI)) (ci := 1) (v := .ref aC) (C := R_Sc) (T := F_Sc) (N := 2) hx hb hz i_Sc hown hK hP 0 rfl rfl 1 (by decide) (hz _ tw_77) (fun _ h9 => h9) rfl d_Sc_clear_29 ?_
                                refine lv_iload_n hx hb d_Sc_clear_32 rfl (lv_at hl 0 rfl) ?_
                                refine va_gets hx hb (hE.2.2.2.2.1 0 (by decide)).1 hS hown (hz _ tw_74) (fun _ h9 => h9) d_Sc_clear_33 ?_
                                refine lv_iload_n hx hb d_Sc_clear_36 rfl (lv_at hl 0 rfl) ?_
                                refine va_ti (i := nI 8) (v := .int ((zTl 0).getD 8 0)) hx hb (hE.2.2.2.2.1 0 (by decide)).2 hS (vp_in_nI (n := 8) (N := 11) (by omega) (by decide)) (by rw [nI_clamp (by omega)]) d_Sc_clear_37 ?_
                                refine va_iast (D := (dC, dI)) (i := nI 8) (x := (zTl 0).getD 8 0) hx hb hK hP hD hS 2 1 rfl rfl (vp_in_nI (by omega) (by decide)) d_Sc_clear_38 (fun H locs hP hD hS => ?_)
                                rw [nI_clamp (by omega)] at hP hD
                                have hP : va_P (dC, dI) vwCl [(aS, .inr (1, [.ref aN, .ref aC])), (aN, .inl (kN, 5, .inl (fun j => nI ((zuN (zuN (zuN (zuN (zuN cnt 0 0) 1 0) 2 0) 3 0) 4 0) j)))), (aC, .inl (kC, 52035, .inl (upd (upd (upd (upd (upd (upd (upd (upd (upd cel 0 ((zTl 0).getD 0 0)) 1 ((zTl 0).getD 1 0)) 2 ((zTl 0).getD 2 0)) 3 ((zTl 0).getD 3 0)) 4 ((zTl 0).getD 4 0)) 5 ((zTl 0).getD 5 0)) 6 ((zTl 0).getD 6 0)) 7 ((zTl 0).getD 7 0)) 8 ((zTl 0).getD 8 0))))] H := hP
                                have hD : va_D A [(aS, .inr (1, [.ref aN, .ref aC])), (aN, .inl (kN, 5, .inl (fun j => nI ((zuN (zuN (zuN (zuN (zuN cnt 0 0) 1 0) 2 0) 3 0) 4 0) j)))), (aC, .inl (kC, 52035, .inl (upd (upd (upd (upd (upd (upd (upd (upd (upd cel 0 ((zTl 0).getD 0 0)) 1 ((zTl 0).getD 1 0)) 2 ((zTl 0).getD 2 0)) 3 ((zTl 0).getD 3 0)) 4 ((zTl 0).getD 4 0)) 5 ((zTl 0).getD 5 0)) 6 ((zTl 0).getD 6 0)) 7 ((zTl 0).getD 7 0)) 8 ((zTl 0).getD 8 0))))] := hD
                                refine lv_iinc (v := 9) (lv' := [(1, .int 9), (0, .ref aS)]) hx hb d_Sc_clear_39 hl (k := 0) rfl (by decide) (by decide) rfl (fun ls hl => ?_)
                                refine lv_goto (tgt := 22) hx hb d_Sc_clear_42 (by decide) ?_
                                refine lv_iload_n hx hb d_Sc_clear_22 rfl (lv_at hl 0 rfl) ?_
                                refine lv_bipush (v := 11) hx hb d_Sc_clear_23 (by decide) ?_
                                refine lv_icmp_ge (tgt := 45) hx hb d_Sc_clear_25 (by decide) (fun c_16 => ?_) (fun c_16 => ?_)
                                ·
                                  exact absurd c_16 (by decide)
                                ·
                                  refine lv_aload_n hx hb d_Sc_clear_28 rfl (lv_at hl 1 rfl) ?_
                                  refine va_get (D := (dC, dI)) (ci := 1) (v := .ref aC) (C := R_Sc) (T := F_Sc) (N := 2) hx hb hz i_Sc hown hK hP 0 rfl rfl 1 (by decide) (hz _ tw_77) (fun _ h9 => h9) rfl d_Sc_clear_29 ?_
                                  refine lv_iload_n hx hb d_Sc_clear_32 rfl (lv_at hl 0 rfl) ?_
                                  refine va_gets hx hb (hE.2.2.2.2.1 0 (by decide)).1 hS hown (hz _ tw_74) (fun _ h9 => h9) d_Sc_clear_33 ?_
                                  refine lv_iload_n hx hb d_Sc_clear_36 rfl (lv_at hl 0 rfl) ?_
                                  refine va_ti (i := nI 9) (v := .int ((zTl 0).getD 9 0)) hx hb (hE.2.2.2.2.1 0 (by decide)).2 hS (vp_in_nI (n := 9) (N := 11) (by omega) (by decide)) (by rw [nI_clamp (by omega)]) d_Sc_clear_37 ?_
                                  refine va_iast (D := (dC, dI)) (i := nI 9) (x := (zTl 0).getD 9 0) hx hb hK hP hD hS 2 1 rfl rfl (vp_in_nI (by omega) (by decide)) d_Sc_clear_38 (fun H locs hP hD hS => ?_)
                                  rw [nI_clamp (by omega)] at hP hD
                                  have hP : va_P (dC, dI) vwCl [(aS, .inr (1, [.ref aN, .ref aC])), (aN, .inl (kN, 5, .inl (fun j => nI ((zuN (zuN (zuN (zuN (zuN cnt 0 0) 1 0) 2 0) 3 0) 4 0) j)))), (aC, .inl (kC, 52035, .inl (upd (upd (upd (upd (upd (upd (upd (upd (upd (upd cel 0 ((zTl 0).getD 0 0)) 1 ((zTl 0).getD 1 0)) 2 ((zTl 0).getD 2 0)) 3 ((zTl 0).getD 3 0)) 4 ((zTl 0).getD 4 0)) 5 ((zTl 0).getD 5 0)) 6 ((zTl 0).getD 6 0)) 7 ((zTl 0).getD 7 0)) 8 ((zTl 0).getD 8 0)) 9 ((zTl 0).getD 9 0))))] H := hP
                                  have hD : va_D A [(aS, .inr (1, [.ref aN, .ref aC])), (aN, .inl (kN, 5, .inl (fun j => nI ((zuN (zuN (zuN (zuN (zuN cnt 0 0) 1 0) 2 0) 3 0) 4 0) j)))), (aC, .inl (kC, 52035, .inl (upd (upd (upd (upd (upd (upd (upd (upd (upd (upd cel 0 ((zTl 0).getD 0 0)) 1 ((zTl 0).getD 1 0)) 2 ((zTl 0).getD 2 0)) 3 ((zTl 0).getD 3 0)) 4 ((zTl 0).getD 4 0)) 5 ((zTl 0).getD 5 0)) 6 ((zTl 0).getD 6 0)) 7 ((zTl 0).getD 7 0)) 8 ((zTl 0).getD 8 0)) 9 ((zTl 0).getD 9 0))))] := hD
                                  refine lv_iinc (v := 10) (lv' := [(1, .int 10), (0, .ref aS)]) hx hb d_Sc_clear_39 hl (k := 0) rfl (by decide) (by decide) rfl (fun ls hl => ?_)
                                  refine lv_goto (tgt := 22) hx hb d_Sc_clear_42 (by decide) ?_
                                  refine lv_iload_n hx hb d_Sc_clear_22 rfl (lv_at hl 0 rfl) ?_
                                  refine lv_bipush (v := 11) hx hb d_Sc_clear_23 (by decide) ?_
                                  refine lv_icmp_ge (tgt := 45) hx hb d_Sc_clear_25 (by decide) (fun c_17 => ?_) (fun c_17 => ?_)
                                  ·
                                    exact absurd c_17 (by decide)
                                  ·
                                    refine lv_aload_n hx hb d_Sc_clear_28 rfl (lv_at hl 1 rfl) ?_
                                    refine va_get (D := (dC, dI)) (ci := 1) (v := .ref aC) (C := R_Sc) (T := F_Sc) (N := 2) hx hb hz i_Sc hown hK hP 0 rfl rfl 1 (by decide) (hz _ tw_77) (fun _ h9 => h9) rfl d_Sc_clear_29 ?_
                                    refine lv_iload_n hx hb d_Sc_clear_32 rfl (lv_at hl 0 rfl) ?_
                                    refine va_gets hx hb (hE.2.2.2.2.1 0 (by decide)).1 hS hown (hz _ tw_74) (fun _ h9 => h9) d_Sc_clear_33 ?_
                                    refine lv_iload_n hx hb d_Sc_clear_36 rfl (lv_at hl 0 rfl) ?_
                                    refine va_ti (i := nI 10) (v := .int ((zTl 0).getD 10 0)) hx hb (hE.2.2.2.2.1 0 (by decide)).2 hS (vp_in_nI (n := 10) (N := 11) (by omega) (by decide)) (by rw [nI_clamp (by omega)]) d_Sc_clear_37 ?_
                                    refine va_iast (D := (dC, dI)) (i := nI 10) (x := (zTl 0).getD 10 0) hx hb hK hP hD hS 2 1 rfl rfl (vp_in_nI (by omega) (by decide)) d_Sc_clear_38 (fun H locs hP hD hS => ?_)
                                    rw [nI_clamp (by omega)] at hP hD
                                    have hP : va_P (dC, dI) vwCl [(aS, .inr (1, [.ref aN, .ref aC])), (aN, .inl (kN, 5, .inl (fun j => nI ((zuN (zuN (zuN (zuN (zuN cnt 0 0) 1 0) 2 0) 3 0) 4 0) j)))), (aC, .inl (kC, 52035, .inl (upd (upd (upd (upd (upd (upd (upd (upd (upd (upd (upd cel 0 ((zTl 0).getD 0 0)) 1 ((zTl 0).getD 1 0)) 2 ((zTl 0).getD 2 0)) 3 ((zTl 0).getD 3 0)) 4 ((zTl 0).getD 4 0)) 5 ((zTl 0).getD 5 0)) 6 ((zTl 0).getD 6 0)) 7 ((zTl 0).getD 7 0)) 8 ((zTl 0).getD 8 0)) 9 ((zTl 0).getD 9 0)) 10 ((zTl 0).getD 10 0))))] H := hP
                                    have hD : va_D A [(aS, .inr (1, [.ref aN, .ref aC])), (aN, .inl (kN, 5, .inl (fun j => nI ((zuN (zuN (zuN (zuN (zuN cnt 0 0) 1 0) 2 0) 3 0) 4 0) j)))), (aC, .inl (kC, 52035, .inl (upd (upd (upd (upd (upd (upd (upd (upd (upd (upd (upd cel 0 ((zTl 0).getD 0 0)) 1 ((zTl 0).getD 1 0)) 2 ((zTl 0).getD 2 0)) 3 ((zTl 0).getD 3 0)) 4 ((zTl 0).getD 4 0)) 5 ((zTl 0).getD 5 0)) 6 ((zTl 0).getD 6 0)) 7 ((zTl 0).getD 7 0)) 8 ((zTl 0).getD 8 0)) 9 ((zTl 0).getD 9 0)) 10 ((zTl 0).getD 10 0))))] := hD
                                    refine lv_iinc (v := 11) (lv' := [(1, .int 11), (0, .ref aS)]) hx hb d_Sc_clear_39 hl (k := 0) rfl (by decide) (by decide) rfl (fun ls hl => ?_)
                                    refine lv_goto (tgt := 22) hx hb d_Sc_clear_42 (by decide) ?_
                                    refine lv_iload_n hx hb d_Sc_clear_22 rfl (lv_at hl 0 rfl) ?_
                                    refine lv_bipush (v := 11) hx hb d_Sc_clear_23 (by decide) ?_
                                    refine lv_icmp_ge (tgt := 45) hx hb d_Sc_clear_25 (by decide) (fun c_18 => ?_) (fun c_18 => ?_)
                                    ·
                                      refine zt_size (fun hzs => ?_)
                                      have hP9 := hP.sub (ws' := [(aS, .inr (1, [.ref aN, .ref aC])), (aN, .inl (kN, 5, .inl (fun j => nI ((zuN (zuN (zuN (zuN (zuN cnt 0 0) 1 0) 2 0) 3 0) 4 0) j)))), (aC, .inl (kC, 52035, .inl (upd (upd (upd (upd (upd (upd (upd (upd (upd (upd (upd cel 0 ((zTl 0).getD 0 0)) 1 ((zTl 0).getD 1 0)) 2 ((zTl 0).getD 2 0)) 3 ((zTl 0).getD 3 0)) 4 ((zTl 0).getD 4 0)) 5 ((zTl 0).getD 5 0)) 6 ((zTl 0).getD 6 0)) 7 ((zTl 0).getD 7 0)) 8 ((zTl 0).getD 8 0)) 9 ((zTl 0).getD 9 0)) 10 ((zTl 0).getD 10 0))))]) [0, 1, 2] rfl
                                      have hD9 := hD.sub (ws' := [(aS, .inr (1, [.ref aN, .ref aC])), (aN, .inl (kN, 5, .inl (fun j => nI ((zuN (zuN (zuN (zuN (zuN cnt 0 0) 1 0) 2 0) 3 0) 4 0) j)))), (aC, .inl (kC, 52035, .inl (upd (upd (upd (upd (upd (upd (upd (upd (upd (upd (upd cel 0 ((zTl 0).getD 0 0)) 1 ((zTl 0).getD 1 0)) 2 ((zTl 0).getD 2 0)) 3 ((zTl 0).getD 3 0)) 4 ((zTl 0).getD 4 0)) 5 ((zTl 0).getD 5 0)) 6 ((zTl 0).getD 6 0)) 7 ((zTl 0).getD 7 0)) 8 ((zTl 0).getD 8 0)) 9 ((zTl 0).getD 9 0)) 10 ((zTl 0).getD 10 0))))]) [0, 1, 2] (by decide) rfl
                                      exact W.vret hx hb hr (fun t ht hW => ⟨⟨(zuN (zuN (zuN (zuN (zuN cnt 0 0) 1 0) 2 0) 3 0) 4 0, upd (upd (upd (upd (upd (upd (upd (upd (upd (upd (upd cel 0 ((zTl 0).getD 0 0)) 1 ((zTl 0).getD 1 0)) 2 ((zTl 0).getD 2 0)) 3 ((zTl 0).getD 3 0)) 4 ((zTl 0).getD 4 0)) 5 ((zTl 0).getD 5 0)) 6 ((zTl 0).getD 6 0)) 7 ((zTl 0).getD 7 0)) 8 ((zTl 0).getD 8 0)) 9 ((zTl 0).getD 9 0)) 10 ((zTl 0).getD 10 0)), rfl, ⟨rfl, rfl⟩, by rw [ht]; exact hP9, hD9, by rw [ht]; exact hzs⟩, hS.F ht⟩) hS.2.2 d_Sc_clear_45
                                    ·
                                      exact absurd (by decide) c_18
            ·
              exact absurd (by decide) c_6
set_option maxHeartbeats 4000000 in
set_option maxRecDepth 100000 in
theorem c_Sc_firstCell (l : Launch) (G : ZG) (dC : Nat → ClassId) (dI : Nat → Nat → Nat) (sz : Nat) (aS : Nat) (aN : Nat) (aC : Nat) (kN : ClassId) (cnt : Nat → Nat) (kC : ClassId) (cel : Nat → Int32) (ka : Nat) (kk : Nat) (hka : ka < 5) : Met l y_Sc_firstCell w_Sc_firstCell ({ frames := 0, cells := 0, slots := 0, locals := 0 }) (va_Pc [.ref aS, .int (nI ka), .int (nI kk)] (PW G (dC, dI) [(kN, .int), (kC, .int)] [(aS, .inr (1, [.ref aN, .ref aC])), (aN, .inl (kN, 5, .inl (fun j => nI (cnt j)))), (aC, .inl (kC, 52035, .inl cel))] sz)) (va_Qi (fun (r : Int32) (uu : Unit) => r = nI (zST ka + kk * zWD ka)) (fun (uu : Unit) t => BW (dC, dI) [(aS, .inr (1, [.ref aN, .ref aC])), (aN, .inl (kN, 5, .inl (fun j => nI (cnt j)))), (aC, .inl (kC, 52035, .inl cel))] (va_A [(aS, .inr (1, [.ref aN, .ref aC])), (aN, .inl (kN, 5, .inl (fun j => nI (cnt j)))), (aC, .inl (kC, 52035, .inl cel))] sz) sz t) (va_A [(aS, .inr (1, [.ref aN, .ref aC])), (aN, .inl (kN, 5, .inl (fun j => nI (cnt j)))), (aC, .inl (kC, 52035, .inl cel))] sz)) 0 0 (va_A [(aS, .inr (1, [.ref aN, .ref aC])), (aN, .inl (kN, 5, .inl (fun j => nI (cnt j)))), (aC, .inl (kC, 52035, .inl cel))] sz) := by
  refine Met.ofW (cc := prog_3_method_12_code) (maxL := 3) (ret := (some .int)) (by decide) rfl ?_
  intro p e s m args below meth c s₁ Bd hml hv
  obtain ⟨rfl, hsz, hP, hK, hD0, hE⟩ := hv
  have hx := Bd.exec
  have hb := Bd.bytes
  have hr := Bd.returns
  have hts := atoms_spec (ws := w_Sc_firstCell) Bd.pre
  have hown : s.vm.findClass R_Sc = some m.cls := findClass_of_methodNamed Bd.named
  have hlocks := Bd.notSynchronized
  have hz : ∀ w ∈ ZW, w.before _ s = true := fun w h => hts w (List.mem_cons_of_mem _ h)
  subst hsz
  have hD := hD0.self (sz := s.heap.size)
  generalize hAe : va_A [(aS, .inr (1, [.ref aN, .ref aC])), (aN, .inl (kN, 5, .inl (fun j => nI (cnt j)))), (aC, .inl (kC, 52035, .inl cel))] s.heap.size = A at hD hE ⊢
  have hA : ∀ q : Nat, s.heap.size ≤ q → A q := fun q h => by rw [← hAe]; exact Or.inr h
  have hS : va_S A s.heap s.heap [] := va_S.rf
  have hl := lv_entry ([.ref aS, .int (nI ka), .int (nI kk)]) (n := 3) (Nat.le_of_ble_eq_true rfl)
  rw [lg_entry_eq]
  generalize (lg_sl ([.ref aS, .int (nI ka), .int (nI kk)]) ++ List.replicate (3 - (lg_sl ([.ref aS, .int (nI ka), .int (nI kk)])).length) Slot.unset).toArray = ls at hl ⊢
  have hl : lv_has ls 3 [(0, .ref aS), (1, .int (nI ka)), (2, .int (nI kk))] := hl
  obtain ⟨H, hH⟩ : ∃ z, z = s.heap := ⟨_, rfl⟩
  have hP : va_P (dC, dI) vwCl [(aS, .inr (1, [.ref aN, .ref aC])), (aN, .inl (kN, 5, .inl (fun j => nI (cnt j)))), (aC, .inl (kC, 52035, .inl cel))] H := by rw [hH]; exact hP
  have hS : va_S A s.heap H [] := by rw [hH]; exact hS
  refine zt_heap hH ?_
  refine lv_iload_n hx hb d_Sc_firstCell_0 rfl (lv_at hl 1 rfl) ?_
  refine lv_if_lt (tgt := 9) hx hb d_Sc_firstCell_1 (by decide) (fun c_1 => ?_) (fun c_1 => ?_)
  ·
    exact absurd c_1 (nI_pos (by omega))
  ·
    refine lv_iload_n hx hb d_Sc_firstCell_4 rfl (lv_at hl 1 rfl) ?_
    refine lv_iconst (v := 5) hx hb d_Sc_firstCell_5 (by decide) ?_
    refine lv_icmp_lt (tgt := 13) hx hb d_Sc_firstCell_6 (by decide) (fun c_2 => ?_) (fun c_2 => ?_)
    ·
      refine va_gets hx hb (hE.2.2.2.2.1 2 (by decide)).1 hS hown (hz _ tw_157) (fun _ h9 => h9) d_Sc_firstCell_13 ?_
      refine lv_iload_n hx hb d_Sc_firstCell_16 rfl (lv_at hl 1 rfl) ?_
      refine va_ti (i := nI ka) (v := .int ((zTl 2).getD ka 0)) hx hb (hE.2.2.2.2.1 2 (by decide)).2 hS (vp_in_nI (n := ka) (N := 5) (by omega) (by decide)) (by rw [nI_clamp (by omega)]) d_Sc_firstCell_17 ?_
      refine zt_top (zST_ok ka (by omega)) ?_
      refine lv_iload_n hx hb d_Sc_firstCell_18 rfl (lv_at hl 2 rfl) ?_
      refine va_gets hx hb (hE.2.2.2.2.1 3 (by decide)).1 hS hown (hz _ tw_159) (fun _ h9 => h9) d_Sc_firstCell_19 ?_
      refine lv_iload_n hx hb d_Sc_firstCell_22 rfl (lv_at hl 1 rfl) ?_
      refine va_ti (i := nI ka) (v := .int ((zTl 3).getD ka 0)) hx hb (hE.2.2.2.2.1 3 (by decide)).2 hS (vp_in_nI (n := ka) (N := 5) (by omega) (by decide)) (by rw [nI_clamp (by omega)]) d_Sc_firstCell_23 ?_
      refine zt_top (zWD_ok ka (by omega)) ?_
      refine lv_imul hx hb d_Sc_firstCell_24 ?_
      refine zt_top (pk_mul kk (zWD ka)) ?_
      refine lv_iadd hx hb d_Sc_firstCell_25 ?_
      refine zt_top (nI_add (zST ka) (kk * (zWD ka))) ?_
      refine zt_size (fun hzs => ?_)
      have hP9 := hP.sub (ws' := [(aS, .inr (1, [.ref aN, .ref aC])), (aN, .inl (kN, 5, .inl (fun j => nI (cnt j)))), (aC, .inl (kC, 52035, .inl cel))]) [0, 1, 2] rfl
      have hD9 := hD.sub (ws' := [(aS, .inr (1, [.ref aN, .ref aC])), (aN, .inl (kN, 5, .inl (fun j => nI (cnt j)))), (aC, .inl (kC, 52035, .inl cel))]) [0, 1, 2] (by decide) rfl
      exact W.iret (v := nI ((zST ka) + (kk * (zWD ka)))) hx hb hr (fun t ht hW => ⟨⟨nI ((zST ka) + (kk * (zWD ka))), (), rfl, rfl, by rw [ht]; exact hP9, hD9, by rw [ht]; exact hzs⟩, hS.F ht⟩) hS.2.2 d_Sc_firstCell_26
    ·
      exact absurd (nI_lt (a := ka) (b := 5) hka (by decide)) c_2
set_option maxHeartbeats 4000000 in
set_option maxRecDepth 100000 in
theorem c_Sc_howManyN (l : Launch) (G : ZG) (dC : Nat → ClassId) (dI : Nat → Nat → Nat) (sz : Nat) (aS : Nat) (aN : Nat) (aC : Nat) (kN : ClassId) (cnt : Nat → Nat) (kC : ClassId) (cel : Nat → Int32) (ka : Nat) (hka : ka < 5) : Met l y_Sc_howMany w_Sc_howMany ({ frames := 0, cells := 0, slots := 0, locals := 0 }) (va_Pc [.ref aS, .int (nI ka)] (PW G (dC, dI) [(kN, .int), (kC, .int)] [(aS, .inr (1, [.ref aN, .ref aC])), (aN, .inl (kN, 5, .inl (fun j => nI (cnt j)))), (aC, .inl (kC, 52035, .inl cel))] sz)) (va_Qi (fun (r : Int32) (uu : Unit) => r = nI (cnt ka)) (fun (uu : Unit) t => BW (dC, dI) [(aS, .inr (1, [.ref aN, .ref aC])), (aN, .inl (kN, 5, .inl (fun j => nI (cnt j)))), (aC, .inl (kC, 52035, .inl cel))] (va_A [(aS, .inr (1, [.ref aN, .ref aC])), (aN, .inl (kN, 5, .inl (fun j => nI (cnt j)))), (aC, .inl (kC, 52035, .inl cel))] sz) sz t) (va_A [(aS, .inr (1, [.ref aN, .ref aC])), (aN, .inl (kN, 5, .inl (fun j => nI (cnt j)))), (aC, .inl (kC, 52035, .inl cel))] sz)) 0 0 (va_A [(aS, .inr (1, [.ref aN, .ref aC])), (aN, .inl (kN, 5, .inl (fun j => nI (cnt j)))), (aC, .inl (kC, 52035, .inl cel))] sz) := by
  refine Met.ofW (cc := prog_3_method_6_code) (maxL := 2) (ret := (some .int)) (by decide) rfl ?_
  intro p e s m args below meth c s₁ Bd hml hv
  obtain ⟨rfl, hsz, hP, hK, hD0, hE⟩ := hv
  have hx := Bd.exec
  have hb := Bd.bytes
  have hr := Bd.returns
  have hts := atoms_spec (ws := w_Sc_howMany) Bd.pre
  have hown : s.vm.findClass R_Sc = some m.cls := findClass_of_methodNamed Bd.named
  have hlocks := Bd.notSynchronized
  have hz : ∀ w ∈ ZW, w.before _ s = true := fun w h => hts w (List.mem_cons_of_mem _ h)
  subst hsz
  have hD := hD0.self (sz := s.heap.size)
  generalize hAe : va_A [(aS, .inr (1, [.ref aN, .ref aC])), (aN, .inl (kN, 5, .inl (fun j => nI (cnt j)))), (aC, .inl (kC, 52035, .inl cel))] s.heap.size = A at hD hE ⊢
  have hA : ∀ q : Nat, s.heap.size ≤ q → A q := fun q h => by rw [← hAe]; exact Or.inr h
  have hS : va_S A s.heap s.heap [] := va_S.rf
  have hl := lv_entry ([.ref aS, .int (nI ka)]) (n := 2) (Nat.le_of_ble_eq_true rfl)
  rw [lg_entry_eq]
  generalize (lg_sl ([.ref aS, .int (nI ka)]) ++ List.replicate (2 - (lg_sl ([.ref aS, .int (nI ka)])).length) Slot.unset).toArray = ls at hl ⊢
  have hl : lv_has ls 2 [(0, .ref aS), (1, .int (nI ka))] := hl
  obtain ⟨H, hH⟩ : ∃ z, z = s.heap := ⟨_, rfl⟩
  have hP : va_P (dC, dI) vwCl [(aS, .inr (1, [.ref aN, .ref aC])), (aN, .inl (kN, 5, .inl (fun j => nI (cnt j)))), (aC, .inl (kC, 52035, .inl cel))] H := by rw [hH]; exact hP
  have hS : va_S A s.heap H [] := by rw [hH]; exact hS
  refine zt_heap hH ?_
  refine lv_iload_n hx hb d_Sc_howMany_0 rfl (lv_at hl 1 rfl) ?_
  refine lv_if_lt (tgt := 9) hx hb d_Sc_howMany_1 (by decide) (fun c_1 => ?_) (fun c_1 => ?_)
  ·
    exact absurd c_1 (nI_pos (by omega))
  ·
    refine lv_iload_n hx hb d_Sc_howMany_4 rfl (lv_at hl 1 rfl) ?_
    refine lv_iconst (v := 5) hx hb d_Sc_howMany_5 (by decide) ?_
    refine lv_icmp_lt (tgt := 13) hx hb d_Sc_howMany_6 (by decide) (fun c_2 => ?_) (fun c_2 => ?_)
    ·
      refine lv_aload_n hx hb d_Sc_howMany_13 rfl (lv_at hl 0 rfl) ?_
      refine va_get (D := (dC, dI)) (ci := 1) (v := .ref aN) (C := R_Sc) (T := F_Sc) (N := 2) hx hb hz i_Sc hown hK hP 0 rfl rfl 0 (by decide) (hz _ tw_76) (fun _ h9 => h9) rfl d_Sc_howMany_14 ?_
      refine lv_iload_n hx hb d_Sc_howMany_17 rfl (lv_at hl 1 rfl) ?_
      refine va_iald (D := (dC, dI)) (i := nI ka) hx hb hK hP 1 0 rfl rfl (vp_in_nI (by omega) (by decide)) d_Sc_howMany_18 ?_
      refine zt_top (by rw [nI_clamp (by omega)]) ?_
      refine zt_size (fun hzs => ?_)
      have hP9 := hP.sub (ws' := [(aS, .inr (1, [.ref aN, .ref aC])), (aN, .inl (kN, 5, .inl (fun j => nI (cnt j)))), (aC, .inl (kC, 52035, .inl cel))]) [0, 1, 2] rfl
      have hD9 := hD.sub (ws' := [(aS, .inr (1, [.ref aN, .ref aC])), (aN, .inl (kN, 5, .inl (fun j => nI (cnt j)))), (aC, .inl (kC, 52035, .inl cel))]) [0, 1, 2] (by decide) rfl
      exact W.iret (v := nI (cnt ka)) hx hb hr (fun t ht hW => ⟨⟨nI (cnt ka), (), rfl, rfl, by rw [ht]; exact hP9, hD9, by rw [ht]; exact hzs⟩, hS.F ht⟩) hS.2.2 d_Sc_howMany_19
    ·
      exact absurd (nI_lt (a := ka) (b := 5) hka (by decide)) c_2
set_option maxHeartbeats 4000000 in
set_option maxRecDepth 100000 in
theorem c_Sc_mostOf (l : Launch) (G : ZG) (dC : Nat → ClassId) (dI : Nat → Nat → Nat) (sz : Nat) (ka : Nat) (hka : ka < 5) : Met l y_Sc_mostOf w_Sc_mostOf ({ frames := 0, cells := 0, slots := 0, locals := 0 }) (va_Pc [.int (nI ka)] (PW G (dC, dI) [] [] sz)) (va_Qi (fun (r : Int32) (uu : Unit) => r = nI (zM ka)) (fun (uu : Unit) t => BW (dC, dI) [] (va_A [] sz) sz t) (va_A [] sz)) 0 0 (va_A [] sz) := by
  refine Met.ofW (cc := prog_3_method_5_code) (maxL := 1) (ret := (some .int)) (by decide) rfl ?_
  intro p e s m args below meth c s₁ Bd hml hv
  obtain ⟨rfl, hsz, hP, hK, hD0, hE⟩ := hv
  have hx := Bd.exec
  have hb := Bd.bytes
  have hr := Bd.returns
  have hts := atoms_spec (ws := w_Sc_mostOf) Bd.pre
  have hown : s.vm.findClass R_Sc = some m.cls := findClass_of_methodNamed Bd.named
  have hlocks := Bd.notSynchronized
  have hz : ∀ w ∈ ZW, w.before _ s = true := fun w h => hts w (List.mem_cons_of_mem _ h)
  subst hsz
  have hD := hD0.self (sz := s.heap.size)
  generalize hAe : va_A [] s.heap.size = A at hD hE ⊢
  have hA : ∀ q : Nat, s.heap.size ≤ q → A q := fun q h => by rw [← hAe]; exact Or.inr h
  have hS : va_S A s.heap s.heap [] := va_S.rf
  have hl := lv_entry ([.int (nI ka)]) (n := 1) (Nat.le_of_ble_eq_true rfl)
  rw [lg_entry_eq]
  generalize (lg_sl ([.int (nI ka)]) ++ List.replicate (1 - (lg_sl ([.int (nI ka)])).length) Slot.unset).toArray = ls at hl ⊢
  have hl : lv_has ls 1 [(0, .int (nI ka))] := hl
  obtain ⟨H, hH⟩ : ∃ z, z = s.heap := ⟨_, rfl⟩
  have hP : va_P (dC, dI) vwCl [] H := by rw [hH]; exact hP
  have hS : va_S A s.heap H [] := by rw [hH]; exact hS
  refine zt_heap hH ?_
  refine lv_iload_n hx hb d_Sc_mostOf_0 rfl (lv_at hl 0 rfl) ?_
  refine lv_if_lt (tgt := 9) hx hb d_Sc_mostOf_1 (by decide) (fun c_1 => ?_) (fun c_1 => ?_)
  ·
    exact absurd c_1 (nI_pos (by omega))
  ·
    refine lv_iload_n hx hb d_Sc_mostOf_4 rfl (lv_at hl 0 rfl) ?_
    refine lv_iconst (v := 5) hx hb d_Sc_mostOf_5 (by decide) ?_
    refine lv_icmp_lt (tgt := 13) hx hb d_Sc_mostOf_6 (by decide) (fun c_2 => ?_) (fun c_2 => ?_)
    ·
      refine va_gets hx hb (hE.2.2.2.2.1 4 (by decide)).1 hS hown (hz _ tw_406) (fun _ h9 => h9) d_Sc_mostOf_13 ?_
      refine lv_iload_n hx hb d_Sc_mostOf_16 rfl (lv_at hl 0 rfl) ?_
      refine va_ti (i := nI ka) (v := .int ((zTl 4).getD ka 0)) hx hb (hE.2.2.2.2.1 4 (by decide)).2 hS (vp_in_nI (n := ka) (N := 5) (by omega) (by decide)) (by rw [nI_clamp (by omega)]) d_Sc_mostOf_17 ?_
      refine zt_top (zM_ok ka (by omega)) ?_
      refine zt_size (fun hzs => ?_)
      have hP9 := hP.sub (ws' := []) [] rfl
      have hD9 := hD.sub (ws' := []) [] (by decide) rfl
      exact W.iret (v := nI (zM ka)) hx hb hr (fun t ht hW => ⟨⟨nI (zM ka), (), rfl, rfl, by rw [ht]; exact hP9, hD9, by rw [ht]; exact hzs⟩, hS.F ht⟩) hS.2.2 d_Sc_mostOf_18
    ·
      exact absurd (nI_lt (a := ka) (b := 5) hka (by decide)) c_2
set_option maxHeartbeats 4000000 in
set_option maxRecDepth 100000 in
theorem c_Sc_put (l : Launch) (G : ZG) (dC : Nat → ClassId) (dI : Nat → Nat → Nat) (sz : Nat) (aS : Nat) (aN : Nat) (aC : Nat) (kN : ClassId) (cnt : Nat → Nat) (kC : ClassId) (cel : Nat → Int32) (qc : Nat) (vl : Int32) (hqc : qc < 52035) : Met l y_Sc_put w_Sc_put ({ frames := 0, cells := 0, slots := 0, locals := 0 }) (va_Pc [.ref aS, .int (nI qc), .int vl] (PW G (dC, dI) [(kN, .int), (kC, .int)] [(aS, .inr (1, [.ref aN, .ref aC])), (aN, .inl (kN, 5, .inl (fun j => nI (cnt j)))), (aC, .inl (kC, 52035, .inl cel))] sz)) (va_Qv (fun (uu : (Nat → Int32)) => uu = upd cel qc vl) (fun (uu : (Nat → Int32)) t => BW (dC, dI) [(aS, .inr (1, [.ref aN, .ref aC])), (aN, .inl (kN, 5, .inl (fun j => nI (cnt j)))), (aC, .inl (kC, 52035, .inl uu))] (va_A [(aS, .inr (1, [.ref aN, .ref aC])), (aN, .inl (kN, 5, .inl (fun j => nI (cnt j)))), (aC, .inl (kC, 52035, .inl cel))] sz) sz t) (va_A [(aS, .inr (1, [.ref aN, .ref aC])), (aN, .inl (kN, 5, .inl (fun j => nI (cnt j)))), (aC, .inl (kC, 52035, .inl cel))] sz)) 0 0 (va_A [(aS, .inr (1, [.ref aN, .ref aC])), (aN, .inl (kN, 5, .inl (fun j => nI (cnt j)))), (aC, .inl (kC, 52035, .inl cel))] sz) := by
  refine Met.ofW (cc := prog_3_method_4_code) (maxL := 3) (ret := none) (by decide) rfl ?_
  intro p e s m args below meth c s₁ Bd hml hv
  obtain ⟨rfl, hsz, hP, hK, hD0, hE⟩ := hv
  have hx := Bd.exec
  have hb := Bd.bytes
  have hr := Bd.returns
  have hts := atoms_spec (ws := w_Sc_put) Bd.pre
  have hown : s.vm.findClass R_Sc = some m.cls := findClass_of_methodNamed Bd.named
  have hlocks := Bd.notSynchronized
  have hz : ∀ w ∈ ZW, w.before _ s = true := fun w h => hts w (List.mem_cons_of_mem _ h)
  subst hsz
  have hD := hD0.self (sz := s.heap.size)
  generalize hAe : va_A [(aS, .inr (1, [.ref aN, .ref aC])), (aN, .inl (kN, 5, .inl (fun j => nI (cnt j)))), (aC, .inl (kC, 52035, .inl cel))] s.heap.size = A at hD hE ⊢
  have hA : ∀ q : Nat, s.heap.size ≤ q → A q := fun q h => by rw [← hAe]; exact Or.inr h
  have hS : va_S A s.heap s.heap [] := va_S.rf
  have hl := lv_entry ([.ref aS, .int (nI qc), .int vl]) (n := 3) (Nat.le_of_ble_eq_true rfl)
  rw [lg_entry_eq]
  generalize (lg_sl ([.ref aS, .int (nI qc), .int vl]) ++ List.replicate (3 - (lg_sl ([.ref aS, .int (nI qc), .int vl])).length) Slot.unset).toArray = ls at hl ⊢
  have hl : lv_has ls 3 [(0, .ref aS), (1, .int (nI qc)), (2, .int vl)] := hl
  obtain ⟨H, hH⟩ : ∃ z, z = s.heap := ⟨_, rfl⟩
  have hP : va_P (dC, dI) vwCl [(aS, .inr (1, [.ref aN, .ref aC])), (aN, .inl (kN, 5, .inl (fun j => nI (cnt j)))), (aC, .inl (kC, 52035, .inl cel))] H := by rw [hH]; exact hP
  have hS : va_S A s.heap H [] := by rw [hH]; exact hS
  refine zt_heap hH ?_
  refine lv_iload_n hx hb d_Sc_put_0 rfl (lv_at hl 1 rfl) ?_
  refine lv_if_lt (tgt := 17) hx hb d_Sc_put_1 (by decide) (fun c_1 => ?_) (fun c_1 => ?_)
  ·
    exact absurd c_1 (nI_pos (by omega))
  ·
    refine lv_iload_n hx hb d_Sc_put_4 rfl (lv_at hl 1 rfl) ?_
    refine lv_ldc (v := 52035) hx hb hown (hz _ tw_69) d_Sc_put_5 ?_
    refine lv_icmp_ge (tgt := 17) hx hb d_Sc_put_7 (by decide) (fun c_2 => ?_) (fun c_2 => ?_)
    ·
      exact absurd c_2 (nI_ge (a := qc) (b := 52035) hqc (by decide))
    ·
      refine lv_aload_n hx hb d_Sc_put_10 rfl (lv_at hl 0 rfl) ?_
      refine va_get (D := (dC, dI)) (ci := 1) (v := .ref aC) (C := R_Sc) (T := F_Sc) (N := 2) hx hb hz i_Sc hown hK hP 0 rfl rfl 1 (by decide) (hz _ tw_77) (fun _ h9 => h9) rfl d_Sc_put_11 ?_
      refine lv_iload_n hx hb d_Sc_put_14 rfl (lv_at hl 1 rfl) ?_
      refine lv_iload_n hx hb d_Sc_put_15 rfl (lv_at hl 2 rfl) ?_
      refine va_iast (D := (dC, dI)) (i := nI qc) (x := vl) hx hb hK hP hD hS 2 1 rfl rfl (vp_in_nI (by omega) (by decide)) d_Sc_put_16 (fun H locs hP hD hS => ?_)
      rw [nI_clamp (by omega)] at hP hD
      have hP : va_P (dC, dI) vwCl [(aS, .inr (1, [.ref aN, .ref aC])), (aN, .inl (kN, 5, .inl (fun j => nI (cnt j)))), (aC, .inl (kC, 52035, .inl (upd cel qc vl)))] H := hP
      have hD : va_D A [(aS, .inr (1, [.ref aN, .ref aC])), (aN, .inl (kN, 5, .inl (fun j => nI (cnt j)))), (aC, .inl (kC, 52035, .inl (upd cel qc vl)))] := hD
      refine zt_size (fun hzs => ?_)
      have hP9 := hP.sub (ws' := [(aS, .inr (1, [.ref aN, .ref aC])), (aN, .inl (kN, 5, .inl (fun j => nI (cnt j)))), (aC, .inl (kC, 52035, .inl (upd cel qc vl)))]) [0, 1, 2] rfl
      have hD9 := hD.sub (ws' := [(aS, .inr (1, [.ref aN, .ref aC])), (aN, .inl (kN, 5, .inl (fun j => nI (cnt j)))), (aC, .inl (kC, 52035, .inl (upd cel qc vl)))]) [0, 1, 2] (by decide) rfl
      exact W.vret hx hb hr (fun t ht hW => ⟨⟨upd cel qc vl, rfl, rfl, by rw [ht]; exact hP9, hD9, by rw [ht]; exact hzs⟩, hS.F ht⟩) hS.2.2 d_Sc_put_17
set_option maxHeartbeats 4000000 in
set_option maxRecDepth 100000 in
theorem c_Sc_add (l : Launch) (G : ZG) (dC : Nat → ClassId) (dI : Nat → Nat → Nat) (sz : Nat) (aS : Nat) (aN : Nat) (aC : Nat) (kN : ClassId) (cnt : Nat → Nat) (kC : ClassId) (cel : Nat → Int32) (ka : Nat) (hka : ka < 5) (hlt : cnt ka < zM ka) : Met l y_Sc_add w_Sc_add ({ frames := 1, cells := 0, slots := 0, locals := 22 }) (va_Pc [.ref aS, .int (nI ka)] (PW G (dC, dI) [(kN, .int), (kC, .int)] [(aS, .inr (1, [.ref aN, .ref aC])), (aN, .inl (kN, 5, .inl (fun j => nI (cnt j)))), (aC, .inl (kC, 52035, .inl cel))] sz)) (va_Qi (fun (r : Int32) (uu : (Nat → Nat)) => r = nI (zST ka + cnt ka * zWD ka) ∧ uu = zuN cnt ka (cnt ka + 1)) (fun (uu : (Nat → Nat)) t => BW (dC, dI) [(aS, .inr (1, [.ref aN, .ref aC])), (aN, .inl (kN, 5, .inl (fun j => nI (uu j)))), (aC, .inl (kC, 52035, .inl cel))] (va_A [(aS, .inr (1, [.ref aN, .ref aC])), (aN, .inl (kN, 5, .inl (fun j => nI (cnt j)))), (aC, .inl (kC, 52035, .inl cel))] sz) sz t) (va_A [(aS, .inr (1, [.ref aN, .ref aC])), (aN, .inl (kN, 5, .inl (fun j => nI (cnt j)))), (aC, .inl (kC, 52035, .inl cel))] sz)) 0 0 (va_A [(aS, .inr (1, [.ref aN, .ref aC])), (aN, .inl (kN, 5, .inl (fun j => nI (cnt j)))), (aC, .inl (kC, 52035, .inl cel))] sz) := by
  refine Met.ofW (cc := prog_3_method_3_code) (maxL := 2) (ret := (some .int)) (by decide) rfl ?_
  intro p e s m args below meth c s₁ Bd hml hv
  obtain ⟨rfl, hsz, hP, hK, hD0, hE⟩ := hv
  have hx := Bd.exec
  have hb := Bd.bytes
  have hr := Bd.returns
  have hts := atoms_spec (ws := w_Sc_add) Bd.pre
  have hown : s.vm.findClass R_Sc = some m.cls := findClass_of_methodNamed Bd.named
  have hlocks := Bd.notSynchronized
  have hz : ∀ w ∈ ZW, w.before _ s = true := fun w h => hts w (List.mem_cons_of_mem _ h)
  subst hsz
  have hD := hD0.self (sz := s.heap.size)
  generalize hAe : va_A [(aS, .inr (1, [.ref aN, .ref aC])), (aN, .inl (kN, 5, .inl (fun j => nI (cnt j)))), (aC, .inl (kC, 52035, .inl cel))] s.heap.size = A at hD hE ⊢
  have hA : ∀ q : Nat, s.heap.size ≤ q → A q := fun q h => by rw [← hAe]; exact Or.inr h
  have hS : va_S A s.heap s.heap [] := va_S.rf
  have hl := lv_entry ([.ref aS, .int (nI ka)]) (n := 2) (Nat.le_of_ble_eq_true rfl)
  rw [lg_entry_eq]
  generalize (lg_sl ([.ref aS, .int (nI ka)]) ++ List.replicate (2 - (lg_sl ([.ref aS, .int (nI ka)])).length) Slot.unset).toArray = ls at hl ⊢
  have hl : lv_has ls 2 [(0, .ref aS), (1, .int (nI ka))] := hl
  obtain ⟨H, hH⟩ : ∃ z, z = s.heap := ⟨_, rfl⟩
  have hP : va_P (dC, dI) vwCl [(aS, .inr (1, [.ref aN, .ref aC])), (aN, .inl (kN, 5, .inl (fun j => nI (cnt j)))), (aC, .inl (kC, 52035, .inl cel))] H := by rw [hH]; exact hP
  have hS : va_S A s.heap H [] := by rw [hH]; exact hS
  refine zt_heap hH ?_
  refine lv_iload_n hx hb d_Sc_add_0 rfl (lv_at hl 1 rfl) ?_
  refine lv_if_lt (tgt := 23) hx hb d_Sc_add_1 (by decide) (fun c_1 => ?_) (fun c_1 => ?_)
  ·
    exact absurd c_1 (nI_pos (by omega))
  ·
    refine lv_iload_n hx hb d_Sc_add_4 rfl (lv_at hl 1 rfl) ?_
    refine lv_iconst (v := 5) hx hb d_Sc_add_5 (by decide) ?_
    refine lv_icmp_ge (tgt := 23) hx hb d_Sc_add_6 (by decide) (fun c_2 => ?_) (fun c_2 => ?_)
    ·
      exact absurd c_2 (nI_ge (a := ka) (b := 5) hka (by decide))
    ·
      refine lv_aload_n hx hb d_Sc_add_9 rfl (lv_at hl 0 rfl) ?_
      refine va_get (D := (dC, dI)) (ci := 1) (v := .ref aN) (C := R_Sc) (T := F_Sc) (N := 2) hx hb hz i_Sc hown hK hP 0 rfl rfl 0 (by decide) (hz _ tw_76) (fun _ h9 => h9) rfl d_Sc_add_10 ?_
      refine lv_iload_n hx hb d_Sc_add_13 rfl (lv_at hl 1 rfl) ?_
      refine va_iald (D := (dC, dI)) (i := nI ka) hx hb hK hP 1 0 rfl rfl (vp_in_nI (by omega) (by decide)) d_Sc_add_14 ?_
      refine zt_top (by rw [nI_clamp (by omega)]) ?_
      refine va_gets hx hb (hE.2.2.2.2.1 4 (by decide)).1 hS hown (hz _ tw_406) (fun _ h9 => h9) d_Sc_add_15 ?_
      refine lv_iload_n hx hb d_Sc_add_18 rfl (lv_at hl 1 rfl) ?_
      refine va_ti (i := nI ka) (v := .int ((zTl 4).getD ka 0)) hx hb (hE.2.2.2.2.1 4 (by decide)).2 hS (vp_in_nI (n := ka) (N := 5) (by omega) (by decide)) (by rw [nI_clamp (by omega)]) d_Sc_add_19 ?_
      refine zt_top (zM_ok ka (by omega)) ?_
      refine lv_icmp_lt (tgt := 25) hx hb d_Sc_add_20 (by decide) (fun c_3 => ?_) (fun c_3 => ?_)
      ·
        refine lv_aload_n hx hb d_Sc_add_25 rfl (lv_at hl 0 rfl) ?_
        refine va_get (D := (dC, dI)) (ci := 1) (v := .ref aN) (C := R_Sc) (T := F_Sc) (N := 2) hx hb hz i_Sc hown hK hP 0 rfl rfl 0 (by decide) (hz _ tw_76) (fun _ h9 => h9) rfl d_Sc_add_26 ?_
        refine lv_iload_n hx hb d_Sc_add_29 rfl (lv_at hl 1 rfl) ?_
        refine lv_dup2_11 hx hb d_Sc_add_30 rfl rfl ?_
        refine va_iald (D := (dC, dI)) (i := nI ka) hx hb hK hP 1 0 rfl rfl (vp_in_nI (by omega) (by decide)) d_Sc_add_31 ?_
        refine zt_top (by rw [nI_clamp (by omega)]) ?_
        refine lv_iconst (v := 1) hx hb d_Sc_add_32 (by decide) ?_
        refine lv_iadd hx hb d_Sc_add_33 ?_
        refine zt_top (nI_add (cnt ka) 1) ?_
        refine va_iast (D := (dC, dI)) (i := nI ka) (x := nI ((cnt ka) + 1)) hx hb hK hP hD hS 1 0 rfl rfl (vp_in_nI (by omega) (by decide)) d_Sc_add_34 (fun H locs hP hD hS => ?_)
        rw [nI_clamp (by omega)] at hP hD
        rw [zuN_upd] at hP hD
        have hP : va_P (dC, dI) vwCl [(aS, .inr (1, [.ref aN, .ref aC])), (aN, .inl (kN, 5, .inl (fun j => nI ((zuN cnt ka ((cnt ka) + 1)) j)))), (aC, .inl (kC, 52035, .inl cel))] H := hP
        have hD : va_D A [(aS, .inr (1, [.ref aN, .ref aC])), (aN, .inl (kN, 5, .inl (fun j => nI ((zuN cnt ka ((cnt ka) + 1)) j)))), (aC, .inl (kC, 52035, .inl cel))] := hD
        refine lv_aload_n hx hb d_Sc_add_35 rfl (lv_at hl 0 rfl) ?_
        refine lv_iload_n hx hb d_Sc_add_36 rfl (lv_at hl 1 rfl) ?_
        refine lv_aload_n hx hb d_Sc_add_37 rfl (lv_at hl 0 rfl) ?_
        refine va_get (D := (dC, dI)) (ci := 1) (v := .ref aN) (C := R_Sc) (T := F_Sc) (N := 2) hx hb hz i_Sc hown hK hP 0 rfl rfl 0 (by decide) (hz _ tw_76) (fun _ h9 => h9) rfl d_Sc_add_38 ?_
        refine lv_iload_n hx hb d_Sc_add_41 rfl (lv_at hl 1 rfl) ?_
        refine va_iald (D := (dC, dI)) (i := nI ka) hx hb hK hP 1 0 rfl rfl (vp_in_nI (by omega) (by decide)) d_Sc_add_42 ?_
        refine zt_top (by rw [nI_clamp (by omega)]) ?_
        refine zt_top (by rw [zuN_s]) ?_
        refine lv_iconst (v := 1) hx hb d_Sc_add_43 (by decide) ?_
        refine lv_isub hx hb d_Sc_add_44 ?_
        refine zt_top (nI_pred (cnt ka)) ?_
        have hPc := hP.sub (ws' := [(aS, .inr (1, [.ref aN, .ref aC])), (aN, .inl (kN, 5, .inl (fun j => nI ((zuN cnt ka ((cnt ka) + 1)) j)))), (aC, .inl (kC, 52035, .inl cel))]) [0, 1, 2] rfl
        have hDc := hD.sub (ws' := [(aS, .inr (1, [.ref aN, .ref aC])), (aN, .inl (kN, 5, .inl (fun j => nI ((zuN cnt ka ((cnt ka) + 1)) j)))), (aC, .inl (kC, 52035, .inl cel))]) [0, 1, 2] (by decide) rfl
        have hKc := hK.sub (tys' := [(kN, .int), (kC, .int)]) [0, 1] rfl
        have hFc := va_free (wc := [(aS, .inr (1, [.ref aN, .ref aC])), (aN, .inl (kN, 5, .inl (fun j => nI ((zuN cnt ka ((cnt ka) + 1)) j)))), (aC, .inl (kC, 52035, .inl cel))]) hD hS hA [0, 1, 2] rfl
        refine va_calli (va_runV (As := [.int (nI ka), .int (nI (cnt ka))]) (rest := []) ⟨hx, hb, hml, hown, hts⟩ (c_Sc_firstCell l G dC dI H.size aS aN aC kN (zuN cnt ka ((cnt ka) + 1)) kC cel ka (cnt ka) (by omega)) (cwV 2 hts (gV tw_153 tw_155 ts_1 tw_4 tw_156 rfl) rfl rfl rfl (by decide +kernel) ⟨Nat.le_of_ble_eq_true rfl, Nat.le_of_ble_eq_true rfl⟩) (PW_preV hPc hKc hDc hE hS hFc (ci := 1) (q0 := 0) rfl rfl) rfl rfl hl.1 rfl (lv_room (Nat.le_of_ble_eq_true rfl)) d_Sc_add_45 ⟨Nat.le_of_ble_eq_true rfl, Nat.le_of_ble_eq_true rfl⟩) hS (fun q _ h => hFc q h) hFc (fun r_4 uu t H1 locs ht hvm hw_5 hB hz1 hk1 hS => ?_)
        obtain ⟨hP1, hD1, hsz1⟩ := hB
        rw [ht] at hP1 hsz1
        obtain ⟨hP, hD⟩ := va_join (wr := []) (w1 := [(aS, .inr (1, [.ref aN, .ref aC])), (aN, .inl (kN, 5, .inl (fun j => nI ((zuN cnt ka ((cnt ka) + 1)) j)))), (aC, .inl (kC, 52035, .inl cel))]) hP hD [0, 1, 2] [] rfl rfl (by decide) (by decide) hk1 hFc hP1 hD1
        generalize H1 = H at hP hS ⊢
        have hP : va_P (dC, dI) vwCl [(aS, .inr (1, [.ref aN, .ref aC])), (aN, .inl (kN, 5, .inl (fun j => nI ((zuN cnt ka ((cnt ka) + 1)) j)))), (aC, .inl (kC, 52035, .inl cel))] H := hP
        have hD : va_D A [(aS, .inr (1, [.ref aN, .ref aC])), (aN, .inl (kN, 5, .inl (fun j => nI ((zuN cnt ka ((cnt ka) + 1)) j)))), (aC, .inl (kC, 52035, .inl cel))] := hD
        refine zt_size (fun hzs => ?_)
        have hP9 := hP.sub (ws' := [(aS, .inr (1, [.ref aN, .ref aC])), (aN, .inl (kN, 5, .inl (fun j => nI ((zuN cnt ka ((cnt ka) + 1)) j)))), (aC, .inl (kC, 52035, .inl cel))]) [0, 1, 2] rfl
        have hD9 := hD.sub (ws' := [(aS, .inr (1, [.ref aN, .ref aC])), (aN, .inl (kN, 5, .inl (fun j => nI ((zuN cnt ka ((cnt ka) + 1)) j)))), (aC, .inl (kC, 52035, .inl cel))]) [0, 1, 2] (by decide) rfl
        exact W.iret (v := r_4) hx hb hr (fun t ht hW => ⟨⟨r_4, zuN cnt ka ((cnt ka) + 1), rfl, ⟨hw_5, rfl⟩, by rw [ht]; exact hP9, hD9, by rw [ht]; exact hzs⟩, hS.F ht⟩) hS.2.2 d_Sc_add_48
      ·
        exact absurd (nI_lt hlt (by have := zM_le ka; omega)) c_3
