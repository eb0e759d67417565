set_option maxHeartbeats 4000000 in
set_option maxRecDepth 100000 in
theorem c_Md_is (l : Launch) (G : ZG) (dC : Nat → ClassId) (dI : Nat → Nat → Nat) (sz : Nat) (aM : Nat) (th : Int32) (aMT : Nat) (mu : Nat) (aNw : Nat) (aNx : Nat) (mw : Int32) (mwa : Int32) (ma : Nat) (en : Nat) (mv : Int64) (mf : Int32) (ml : Int32) (kNw : ClassId) (nw : Nat → Int32) (cnt : Nat → Nat) (kd : Int32) (ki : Int32) (hcn : ∀ j, j < 5 → nw j = nI (cnt j)) (hcm : ∀ j, j < 5 → cnt j ≤ zM j) : Met l y_Md_is w_Md_is ({ frames := 0, cells := 0, slots := 0, locals := 0 }) (va_Pc [.ref aM, .int kd, .int ki] (PW G (dC, dI) [(kNw, .int)] [(aM, .inr (4, [.int th, .ref aMT, .int (nI mu), .ref aNw, .ref aNx, .int mw, .int mwa, .int (nI ma), .int (nI en), .long mv, .int mf, .int ml])), (aNw, .inl (kNw, 52650, .inl nw))] sz)) (va_Qi (fun (r : Int32) (uu : Unit) => (r = 1 ∧ zHs cnt kd ki) ∨ (r = 0 ∧ ¬ zHs cnt kd ki)) (fun (uu : Unit) t => BW (dC, dI) [(aM, .inr (4, [.int th, .ref aMT, .int (nI mu), .ref aNw, .ref aNx, .int mw, .int mwa, .int (nI ma), .int (nI en), .long mv, .int mf, .int ml])), (aNw, .inl (kNw, 52650, .inl nw))] (va_A [(aM, .inr (4, [.int th, .ref aMT, .int (nI mu), .ref aNw, .ref aNx, .int mw, .int mwa, .int (nI ma), .int (nI en), .long mv, .int mf, .int ml])), (aNw, .inl (kNw, 52650, .inl nw))] sz) sz t) (va_A [(aM, .inr (4, [.int th, .ref aMT, .int (nI mu), .ref aNw, .ref aNx, .int mw, .int mwa, .int (nI ma), .int (nI en), .long mv, .int mf, .int ml])), (aNw, .inl (kNw, 52650, .inl nw))] sz)) 0 0 (va_A [(aM, .inr (4, [.int th, .ref aMT, .int (nI mu), .ref aNw, .ref aNx, .int mw, .int mwa, .int (nI ma), .int (nI en), .long mv, .int mf, .int ml])), (aNw, .inl (kNw, 52650, .inl nw))] sz) := by
  refine Met.ofW (cc := prog_6_method_35_code) (maxL := 3) (ret := (some .boolean)) (by decide) rfl ?_
  intro p e s m args below meth c s₁ Bd hml hv
  obtain ⟨rfl, hsz, hP, hK, hD0, hE⟩ := hv
  have hx := Bd.exec
  have hb := Bd.bytes
  have hr := Bd.returns
  have hts := atoms_spec (ws := w_Md_is) Bd.pre
  have hown : s.vm.findClass R_Md = some m.cls := findClass_of_methodNamed Bd.named
  have hlocks := Bd.notSynchronized
  have hz : ∀ w ∈ ZW, w.before _ s = true := fun w h => hts w (List.mem_cons_of_mem _ h)
  subst hsz
  have hD := hD0.self (sz := s.heap.size)
  generalize hAe : va_A [(aM, .inr (4, [.int th, .ref aMT, .int (nI mu), .ref aNw, .ref aNx, .int mw, .int mwa, .int (nI ma), .int (nI en), .long mv, .int mf, .int ml])), (aNw, .inl (kNw, 52650, .inl nw))] s.heap.size = A at hD hE ⊢
  have hA : ∀ q : Nat, s.heap.size ≤ q → A q := fun q h => by rw [← hAe]; exact Or.inr h
  have hS : va_S A s.heap s.heap [] := va_S.rf
  have hl := lv_entry ([.ref aM, .int kd, .int ki]) (n := 3) (Nat.le_of_ble_eq_true rfl)
  rw [lg_entry_eq]
  generalize (lg_sl ([.ref aM, .int kd, .int ki]) ++ List.replicate (3 - (lg_sl ([.ref aM, .int kd, .int ki])).length) Slot.unset).toArray = ls at hl ⊢
  have hl : lv_has ls 3 [(0, .ref aM), (1, .int kd), (2, .int ki)] := hl
  obtain ⟨H, hH⟩ : ∃ z, z = s.heap := ⟨_, rfl⟩
  have hP : va_P (dC, dI) vwCl [(aM, .inr (4, [.int th, .ref aMT, .int (nI mu), .ref aNw, .ref aNx, .int mw, .int mwa, .int (nI ma), .int (nI en), .long mv, .int mf, .int ml])), (aNw, .inl (kNw, 52650, .inl nw))] H := by rw [hH]; exact hP
  have hS : va_S A s.heap H [] := by rw [hH]; exact hS
  refine zt_heap hH ?_
  by_cases hh : zHs cnt kd ki
  ·
    have hh0 := hh
    obtain ⟨ja, jb, hja, hjb, rfl, rfl⟩ := zHs_of hcm hh
    have hca := hcm ja hja
    have hz9 := zM_le ja
    refine lv_iload_n hx hb d_Md_is_0 rfl (lv_at hl 1 rfl) ?_
    refine lv_if_lt (tgt := 27) hx hb d_Md_is_1 (by decide) (fun c_1 => ?_) (fun c_1 => ?_)
    ·
      exact absurd c_1 (nI_pos (by omega))
    ·
      refine lv_iload_n hx hb d_Md_is_4 rfl (lv_at hl 1 rfl) ?_
      refine lv_iconst (v := 5) hx hb d_Md_is_5 (by decide) ?_
      refine lv_icmp_ge (tgt := 27) hx hb d_Md_is_6 (by decide) (fun c_2 => ?_) (fun c_2 => ?_)
      ·
        exact absurd c_2 (nI_ge (a := ja) (b := 5) hja (by decide))
      ·
        refine lv_iload_n hx hb d_Md_is_9 rfl (lv_at hl 2 rfl) ?_
        refine lv_if_lt (tgt := 27) hx hb d_Md_is_10 (by decide) (fun c_3 => ?_) (fun c_3 => ?_)
        ·
          exact absurd c_3 (nI_pos (by omega))
        ·
          refine lv_iload_n hx hb d_Md_is_13 rfl (lv_at hl 2 rfl) ?_
          refine lv_aload_n hx hb d_Md_is_14 rfl (lv_at hl 0 rfl) ?_
          refine va_get (D := (dC, dI)) (ci := 4) (v := .ref aNw) (C := R_Md) (T := F_Md) (N := 12) hx hb hz i_Md hown hK hP 0 rfl rfl 3 (by decide) (hz _ tw_479) (fun _ h9 => h9) rfl d_Md_is_15 ?_
          refine lv_iload_n hx hb d_Md_is_18 rfl (lv_at hl 1 rfl) ?_
          refine va_iald (D := (dC, dI)) (i := nI ja) hx hb hK hP 1 0 rfl rfl (vp_in_nI (by omega) (by decide)) d_Md_is_19 ?_
          refine zt_top (by rw [nI_clamp (by omega)]) ?_
          refine zt_top (y := nI (cnt ja)) (hcn ja hja) ?_
          refine lv_icmp_ge (tgt := 27) hx hb d_Md_is_20 (by decide) (fun c_4 => ?_) (fun c_4 => ?_)
          ·
            exact absurd c_4 (nI_ge hjb (by omega))
          ·
            refine lv_iconst (v := 1) hx hb d_Md_is_23 (by decide) ?_
            refine lv_goto (tgt := 28) hx hb d_Md_is_24 (by decide) ?_
            refine zt_size (fun hzs => ?_)
            have hP9 := hP.sub (ws' := [(aM, .inr (4, [.int th, .ref aMT, .int (nI mu), .ref aNw, .ref aNx, .int mw, .int mwa, .int (nI ma), .int (nI en), .long mv, .int mf, .int ml])), (aNw, .inl (kNw, 52650, .inl nw))]) [0, 1] rfl
            have hD9 := hD.sub (ws' := [(aM, .inr (4, [.int th, .ref aMT, .int (nI mu), .ref aNw, .ref aNx, .int mw, .int mwa, .int (nI ma), .int (nI en), .long mv, .int mf, .int ml])), (aNw, .inl (kNw, 52650, .inl nw))]) [0, 1] (by decide) rfl
            exact W.zret (v := 1) hx hb hr rfl (fun t ht hW => ⟨⟨1, (), rfl, Or.inl ⟨rfl, hh0⟩, by rw [ht]; exact hP9, hD9, by rw [ht]; exact hzs⟩, hS.F ht⟩) hS.2.2 d_Md_is_28
  ·
    refine lv_iload_n hx hb d_Md_is_0 rfl (lv_at hl 1 rfl) ?_
    refine lv_if_lt (tgt := 27) hx hb d_Md_is_1 (by decide) (fun c_5 => ?_) (fun c_5 => ?_)
    ·
      refine lv_iconst (v := 0) hx hb d_Md_is_27 (by decide) ?_
      refine zt_size (fun hzs => ?_)
      have hP9 := hP.sub (ws' := [(aM, .inr (4, [.int th, .ref aMT, .int (nI mu), .ref aNw, .ref aNx, .int mw, .int mwa, .int (nI ma), .int (nI en), .long mv, .int mf, .int ml])), (aNw, .inl (kNw, 52650, .inl nw))]) [0, 1] rfl
      have hD9 := hD.sub (ws' := [(aM, .inr (4, [.int th, .ref aMT, .int (nI mu), .ref aNw, .ref aNx, .int mw, .int mwa, .int (nI ma), .int (nI en), .long mv, .int mf, .int ml])), (aNw, .inl (kNw, 52650, .inl nw))]) [0, 1] (by decide) rfl
      exact W.zret (v := 0) hx hb hr rfl (fun t ht hW => ⟨⟨0, (), rfl, Or.inr ⟨rfl, hh⟩, by rw [ht]; exact hP9, hD9, by rw [ht]; exact hzs⟩, hS.F ht⟩) hS.2.2 d_Md_is_28
    ·
      refine lv_iload_n hx hb d_Md_is_4 rfl (lv_at hl 1 rfl) ?_
      refine lv_iconst (v := 5) hx hb d_Md_is_5 (by decide) ?_
      refine lv_icmp_ge (tgt := 27) hx hb d_Md_is_6 (by decide) (fun c_6 => ?_) (fun c_6 => ?_)
      ·
        refine lv_iconst (v := 0) hx hb d_Md_is_27 (by decide) ?_
        refine zt_size (fun hzs => ?_)
        have hP9 := hP.sub (ws' := [(aM, .inr (4, [.int th, .ref aMT, .int (nI mu), .ref aNw, .ref aNx, .int mw, .int mwa, .int (nI ma), .int (nI en), .long mv, .int mf, .int ml])), (aNw, .inl (kNw, 52650, .inl nw))]) [0, 1] rfl
        have hD9 := hD.sub (ws' := [(aM, .inr (4, [.int th, .ref aMT, .int (nI mu), .ref aNw, .ref aNx, .int mw, .int mwa, .int (nI ma), .int (nI en), .long mv, .int mf, .int ml])), (aNw, .inl (kNw, 52650, .inl nw))]) [0, 1] (by decide) rfl
        exact W.zret (v := 0) hx hb hr rfl (fun t ht hW => ⟨⟨0, (), rfl, Or.inr ⟨rfl, hh⟩, by rw [ht]; exact hP9, hD9, by rw [ht]; exact hzs⟩, hS.F ht⟩) hS.2.2 d_Md_is_28
      ·
        obtain ⟨ja, hja, rfl⟩ := zIn_of (x := kd) (n := 5) (by decide) ⟨c_5, Int32.not_le.mp c_6⟩
        have hca := hcm ja hja
        have hz9 := zM_le ja
        refine lv_iload_n hx hb d_Md_is_9 rfl (lv_at hl 2 rfl) ?_
        refine lv_if_lt (tgt := 27) hx hb d_Md_is_10 (by decide) (fun c_7 => ?_) (fun c_7 => ?_)
        ·
          refine lv_iconst (v := 0) hx hb d_Md_is_27 (by decide) ?_
          refine zt_size (fun hzs => ?_)
          have hP9 := hP.sub (ws' := [(aM, .inr (4, [.int th, .ref aMT, .int (nI mu), .ref aNw, .ref aNx, .int mw, .int mwa, .int (nI ma), .int (nI en), .long mv, .int mf, .int ml])), (aNw, .inl (kNw, 52650, .inl nw))]) [0, 1] rfl
          have hD9 := hD.sub (ws' := [(aM, .inr (4, [.int th, .ref aMT, .int (nI mu), .ref aNw, .ref aNx, .int mw, .int mwa, .int (nI ma), .int (nI en), .long mv, .int mf, .int ml])), (aNw, .inl (kNw, 52650, .inl nw))]) [0, 1] (by decide) rfl
          exact W.zret (v := 0) hx hb hr rfl (fun t ht hW => ⟨⟨0, (), rfl, Or.inr ⟨rfl, hh⟩, by rw [ht]; exact hP9, hD9, by rw [ht]; exact hzs⟩, hS.F ht⟩) hS.2.2 d_Md_is_28
        ·
          refine lv_iload_n hx hb d_Md_is_13 rfl (lv_at hl 2 rfl) ?_
          refine lv_aload_n hx hb d_Md_is_14 rfl (lv_at hl 0 rfl) ?_
          refine va_get (D := (dC, dI)) (ci := 4) (v := .ref aNw) (C := R_Md) (T := F_Md) (N := 12) hx hb hz i_Md hown hK hP 0 rfl rfl 3 (by decide) (hz _ tw_479) (fun _ h9 => h9) rfl d_Md_is_15 ?_
          refine lv_iload_n hx hb d_Md_is_18 rfl (lv_at hl 1 rfl) ?_
          refine va_iald (D := (dC, dI)) (i := nI ja) hx hb hK hP 1 0 rfl rfl (vp_in_nI (by omega) (by decide)) d_Md_is_19 ?_
          refine zt_top (by rw [nI_clamp (by omega)]) ?_
          refine zt_top (y := nI (cnt ja)) (hcn ja hja) ?_
          refine lv_icmp_ge (tgt := 27) hx hb d_Md_is_20 (by decide) (fun c_8 => ?_) (fun c_8 => ?_)
          ·
            refine lv_iconst (v := 0) hx hb d_Md_is_27 (by decide) ?_
            refine zt_size (fun hzs => ?_)
            have hP9 := hP.sub (ws' := [(aM, .inr (4, [.int th, .ref aMT, .int (nI mu), .ref aNw, .ref aNx, .int mw, .int mwa, .int (nI ma), .int (nI en), .long mv, .int mf, .int ml])), (aNw, .inl (kNw, 52650, .inl nw))]) [0, 1] rfl
            have hD9 := hD.sub (ws' := [(aM, .inr (4, [.int th, .ref aMT, .int (nI mu), .ref aNw, .ref aNx, .int mw, .int mwa, .int (nI ma), .int (nI en), .long mv, .int mf, .int ml])), (aNw, .inl (kNw, 52650, .inl nw))]) [0, 1] (by decide) rfl
            exact W.zret (v := 0) hx hb hr rfl (fun t ht hW => ⟨⟨0, (), rfl, Or.inr ⟨rfl, hh⟩, by rw [ht]; exact hP9, hD9, by rw [ht]; exact hzs⟩, hS.F ht⟩) hS.2.2 d_Md_is_28
          ·
            exact absurd (Int32.not_lt.mp (fun z => hh ⟨zIn_nI hja (by decide), by rw [nI_clamp (by omega)]; exact ⟨c_7, z⟩⟩)) c_8
