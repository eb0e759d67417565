set_option maxHeartbeats 4000000 in
set_option maxRecDepth 100000 in
theorem c_Md_at (l : Launch) (G : ZG) (dC : Nat → ClassId) (dI : Nat → Nat → Nat) (sz : Nat) (aM : Nat) (th : Int32) (aMT : Nat) (mu : Nat) (aNw : Nat) (aNx : Nat) (mw : Int32) (mwa : Int32) (ma : Nat) (en : Nat) (mv : Int64) (mf : Int32) (ml : Int32) (kNw : ClassId) (nw : Nat → Int32) (cnt : Nat → Nat) (cel : Nat → Int32) (kd : Int32) (ki : Int32) (li : Int32) (ii : Int32) (hg : zGood cnt cel nw) : Met l y_Md_at w_Md_at ({ frames := 1, cells := 0, slots := 0, locals := 22 }) (va_Pc [.ref aM, .int kd, .int ki, .int li, .int ii] (PW G (dC, dI) [(kNw, .int)] [(aM, .inr (4, [.int th, .ref aMT, .int (nI mu), .ref aNw, .ref aNx, .int mw, .int mwa, .int (nI ma), .int (nI en), .long mv, .int mf, .int ml])), (aNw, .inl (kNw, 52650, .inl nw))] sz)) (va_Qi (fun (r : Int32) (uu : Int32) => uu = 0 ∧ r = zLd cnt cel kd ki li ii) (fun (uu : Int32) t => BW (dC, dI) [(aM, .inr (4, [.int uu, .ref aMT, .int (nI mu), .ref aNw, .ref aNx, .int mw, .int mwa, .int (nI ma), .int (nI en), .long mv, .int mf, .int ml])), (aNw, .inl (kNw, 52650, .inl nw))] (va_A [(aM, .inr (4, [.int th, .ref aMT, .int (nI mu), .ref aNw, .ref aNx, .int mw, .int mwa, .int (nI ma), .int (nI en), .long mv, .int mf, .int ml])), (aNw, .inl (kNw, 52650, .inl nw))] sz) sz t) (va_A [(aM, .inr (4, [.int th, .ref aMT, .int (nI mu), .ref aNw, .ref aNx, .int mw, .int mwa, .int (nI ma), .int (nI en), .long mv, .int mf, .int ml])), (aNw, .inl (kNw, 52650, .inl nw))] sz)) 0 0 (va_A [(aM, .inr (4, [.int th, .ref aMT, .int (nI mu), .ref aNw, .ref aNx, .int mw, .int mwa, .int (nI ma), .int (nI en), .long mv, .int mf, .int ml])), (aNw, .inl (kNw, 52650, .inl nw))] sz) := by
  refine Met.ofW (cc := prog_6_method_37_code) (maxL := 7) (ret := (some .int)) (by decide) rfl ?_
  intro p e s m args below meth c s₁ Bd hml hv
  obtain ⟨rfl, hsz, hP, hK, hD0, hE⟩ := hv
  have hx := Bd.exec
  have hb := Bd.bytes
  have hr := Bd.returns
  have hts := atoms_spec (ws := w_Md_at) Bd.pre
  have hown : s.vm.findClass R_Md = some m.cls := findClass_of_methodNamed Bd.named
  have hlocks := Bd.notSynchronized
  have hz : ∀ w ∈ ZW, w.before _ s = true := fun w h => hts w (List.mem_cons_of_mem _ h)
  subst hsz
  have hD := hD0.self (sz := s.heap.size)
  generalize hAe : va_A [(aM, .inr (4, [.int th, .ref aMT, .int (nI mu), .ref aNw, .ref aNx, .int mw, .int mwa, .int (nI ma), .int (nI en), .long mv, .int mf, .int ml])), (aNw, .inl (kNw, 52650, .inl nw))] s.heap.size = A at hD hE ⊢
  have hA : ∀ q : Nat, s.heap.size ≤ q → A q := fun q h => by rw [← hAe]; exact Or.inr h
  have hS : va_S A s.heap s.heap [] := va_S.rf
  have hl := lv_entry ([.ref aM, .int kd, .int ki, .int li, .int ii]) (n := 7) (Nat.le_of_ble_eq_true rfl)
  rw [lg_entry_eq]
  generalize (lg_sl ([.ref aM, .int kd, .int ki, .int li, .int ii]) ++ List.replicate (7 - (lg_sl ([.ref aM, .int kd, .int ki, .int li, .int ii])).length) Slot.unset).toArray = ls at hl ⊢
  have hl : lv_has ls 7 [(0, .ref aM), (1, .int kd), (2, .int ki), (3, .int li), (4, .int ii)] := hl
  obtain ⟨H, hH⟩ : ∃ z, z = s.heap := ⟨_, rfl⟩
  have hP : va_P (dC, dI) vwCl [(aM, .inr (4, [.int th, .ref aMT, .int (nI mu), .ref aNw, .ref aNx, .int mw, .int mwa, .int (nI ma), .int (nI en), .long mv, .int mf, .int ml])), (aNw, .inl (kNw, 52650, .inl nw))] H := by rw [hH]; exact hP
  have hS : va_S A s.heap H [] := by rw [hH]; exact hS
  refine zt_heap hH ?_
  refine lv_aload_n hx hb d_Md_at_0 rfl (lv_at hl 0 rfl) ?_
  refine lv_iconst (v := 0) hx hb d_Md_at_1 (by decide) ?_
  refine va_put (D := (dC, dI)) (ci := 4) (v := .int 0) (ty := .int) (C := R_Md) (T := F_Md) (N := 12) hx hb hz i_Md t_Md t_Md_ok n_Md hown hK hP hD hS 0 rfl rfl 0 (by decide) (hz _ tw_476) (fun _ h9 => h9) rfl (by decide +kernel) rfl rfl (Nat.le_of_ble_eq_true rfl) d_Md_at_2 (fun H locs hP hD hS => ?_)
  have hP : va_P (dC, dI) vwCl [(aM, .inr (4, [.int 0, .ref aMT, .int (nI mu), .ref aNw, .ref aNx, .int mw, .int mwa, .int (nI ma), .int (nI en), .long mv, .int mf, .int ml])), (aNw, .inl (kNw, 52650, .inl nw))] H := hP
  have hD : va_D A [(aM, .inr (4, [.int 0, .ref aMT, .int (nI mu), .ref aNw, .ref aNx, .int mw, .int mwa, .int (nI ma), .int (nI en), .long mv, .int mf, .int ml])), (aNw, .inl (kNw, 52650, .inl nw))] := hD
  refine lv_aload_n hx hb d_Md_at_5 rfl (lv_at hl 0 rfl) ?_
  refine lv_iload_n hx hb d_Md_at_6 rfl (lv_at hl 1 rfl) ?_
  refine lv_iload_n hx hb d_Md_at_7 rfl (lv_at hl 2 rfl) ?_
  have hPc := hP.sub (ws' := [(aM, .inr (4, [.int 0, .ref aMT, .int (nI mu), .ref aNw, .ref aNx, .int mw, .int mwa, .int (nI ma), .int (nI en), .long mv, .int mf, .int ml])), (aNw, .inl (kNw, 52650, .inl nw))]) [0, 1] rfl
  have hDc := hD.sub (ws' := [(aM, .inr (4, [.int 0, .ref aMT, .int (nI mu), .ref aNw, .ref aNx, .int mw, .int mwa, .int (nI ma), .int (nI en), .long mv, .int mf, .int ml])), (aNw, .inl (kNw, 52650, .inl nw))]) [0, 1] (by decide) rfl
  have hKc := hK.sub (tys' := [(kNw, .int)]) [0] rfl
  have hFc := va_free (wc := [(aM, .inr (4, [.int 0, .ref aMT, .int (nI mu), .ref aNw, .ref aNx, .int mw, .int mwa, .int (nI ma), .int (nI en), .long mv, .int mf, .int ml])), (aNw, .inl (kNw, 52650, .inl nw))]) hD hS hA [0, 1] rfl
  refine va_calli (va_runV (As := [.int kd, .int ki]) (rest := []) ⟨hx, hb, hml, hown, hts⟩ (c_Md_is l G dC dI H.size aM 0 aMT mu aNw aNx mw mwa ma en mv mf ml kNw nw cnt kd ki hg.2.1 hg.1) (cwV 2 hts (gV tw_692 tw_694 ts_43 tw_5 tw_695 rfl) rfl rfl rfl (by decide +kernel) ⟨Nat.le_of_ble_eq_true rfl, Nat.le_of_ble_eq_true rfl⟩) (PW_preV hPc hKc hDc hE hS hFc (ci := 4) (q0 := 0) rfl rfl) rfl rfl hl.1 rfl (lv_room (Nat.le_of_ble_eq_true rfl)) d_Md_at_8 ⟨Nat.le_of_ble_eq_true rfl, Nat.le_of_ble_eq_true rfl⟩) hS (fun q _ h => hFc q h) hFc (fun r_1 uu t H1 locs ht hvm hw_2 hB hz1 hk1 hS => ?_)
  obtain ⟨hP1, hD1, hsz1⟩ := hB
  rw [ht] at hP1 hsz1
  obtain ⟨hP, hD⟩ := va_join (wr := []) (w1 := [(aM, .inr (4, [.int 0, .ref aMT, .int (nI mu), .ref aNw, .ref aNx, .int mw, .int mwa, .int (nI ma), .int (nI en), .long mv, .int mf, .int ml])), (aNw, .inl (kNw, 52650, .inl nw))]) hP hD [0, 1] [] rfl rfl (by decide) (by decide) hk1 hFc hP1 hD1
  generalize H1 = H at hP hS ⊢
  have hP : va_P (dC, dI) vwCl [(aM, .inr (4, [.int 0, .ref aMT, .int (nI mu), .ref aNw, .ref aNx, .int mw, .int mwa, .int (nI ma), .int (nI en), .long mv, .int mf, .int ml])), (aNw, .inl (kNw, 52650, .inl nw))] H := hP
  have hD : va_D A [(aM, .inr (4, [.int 0, .ref aMT, .int (nI mu), .ref aNw, .ref aNx, .int mw, .int mwa, .int (nI ma), .int (nI en), .long mv, .int mf, .int ml])), (aNw, .inl (kNw, 52650, .inl nw))] := hD
  rcases hw_2 with ⟨rfl, hw_2a⟩ | ⟨rfl, hw_2a⟩
  ·
    refine lv_if_eq (tgt := 19) hx hb d_Md_at_11 (by decide) (fun c_3 => ?_) (fun c_3 => ?_)
    ·
      exact absurd c_3 (by decide)
    ·
      refine lv_iload hx hb d_Md_at_14 (lv_at hl 4 rfl) ?_
      refine lv_if_ge (tgt := 21) hx hb d_Md_at_16 (by decide) (fun c_4 => ?_) (fun c_4 => ?_)
      ·
        obtain ⟨ja, jb, hja, hjb, rfl, rfl⟩ := zHs_of hg.1 hw_2a
        obtain ⟨jj, hjj, rfl⟩ := nI_of (Int32.not_lt.mpr c_4)
        rcases (show ja = 0 ∨ ja = 1 ∨ ja = 2 ∨ ja = 3 ∨ ja = 4 by omega) with rfl | rfl | rfl | rfl | rfl
        ·
          have hl : lv_has ls 7 [(0, .ref aM), (1, .int 0), (2, .int (nI jb)), (3, .int li), (4, .int (nI jj))] := hl
          have hb8 : jb < 8 := Nat.lt_of_lt_of_le hjb (hg.1 0 (by decide))
          have hth := hg.2.2.2 0 jb (by decide) hjb
          obtain ⟨sd, hsd, h1, hls⟩ := hth.2
          have hsm : nw (8 + 3080 * jb) = nI sd := (hth.1 0 (by decide)).trans h1
          have hsq := zsq hsd
          refine lv_iload_n hx hb d_Md_at_21 rfl (lv_at hl 1 rfl) ?_
          refine lv_if_ne (tgt := 79) hx hb d_Md_at_22 (by decide) (fun c_5 => ?_) (fun c_5 => ?_)
          ·
            exact absurd (by decide) c_5
          ·
            refine lv_bipush (v := 8) hx hb d_Md_at_25 (by decide) ?_
            refine lv_sipush (v := 3080) hx hb d_Md_at_27 (by decide) ?_
            refine lv_iload_n hx hb d_Md_at_30 rfl (lv_at hl 2 rfl) ?_
            refine lv_imul hx hb d_Md_at_31 ?_
            refine zt_top (pk_mul 3080 jb) ?_
            refine lv_iadd hx hb d_Md_at_32 ?_
            refine zt_top (nI_add 8 (3080 * jb)) ?_
            refine lv_istore (lv' := [(5, .int (nI (8 + (3080 * jb)))), (0, .ref aM), (1, .int 0), (2, .int (nI jb)), (3, .int li), (4, .int (nI jj))]) hx hb d_Md_at_33 hl (by decide) rfl (fun ls hl => ?_)
            refine lv_iload_n hx hb d_Md_at_35 rfl (lv_at hl 4 rfl) ?_
            refine lv_if_ne (tgt := 77) hx hb d_Md_at_36 (by decide) (fun c_6 => ?_) (fun c_6 => ?_)
            ·
              refine lv_iconst (v := 0) hx hb d_Md_at_77 (by decide) ?_
              refine zt_size (fun hzs => ?_)
              have hP9 := hP.sub (ws' := [(aM, .inr (4, [.int 0, .ref aMT, .int (nI mu), .ref aNw, .ref aNx, .int mw, .int mwa, .int (nI ma), .int (nI en), .long mv, .int mf, .int ml])), (aNw, .inl (kNw, 52650, .inl nw))]) [0, 1] rfl
              have hD9 := hD.sub (ws' := [(aM, .inr (4, [.int 0, .ref aMT, .int (nI mu), .ref aNw, .ref aNx, .int mw, .int mwa, .int (nI ma), .int (nI en), .long mv, .int mf, .int ml])), (aNw, .inl (kNw, 52650, .inl nw))]) [0, 1] (by decide) rfl
              exact W.iret (v := 0) hx hb hr (fun t ht hW => ⟨⟨0, 0, rfl, ⟨rfl, by rw [zLd_0 hg.1 hjb hjj hsd h1, if_neg (fun z => c_6 z.1)]⟩, by rw [ht]; exact hP9, hD9, by rw [ht]; exact hzs⟩, hS.F ht⟩) hS.2.2 d_Md_at_78
            ·
              refine lv_iload hx hb d_Md_at_39 (lv_at hl 5 rfl) ?_
              refine lv_iconst (v := 3) hx hb d_Md_at_41 (by decide) ?_
              refine lv_aload_n hx hb d_Md_at_42 rfl (lv_at hl 1 rfl) ?_
              refine va_get (D := (dC, dI)) (ci := 4) (v := .ref aNw) (C := R_Md) (T := F_Md) (N := 12) hx hb hz i_Md hown hK hP 0 rfl rfl 3 (by decide) (hz _ tw_479) (fun _ h9 => h9) rfl d_Md_at_43 ?_
              refine lv_iload hx hb d_Md_at_46 (lv_at hl 0 rfl) ?_
              refine va_iald (D := (dC, dI)) (i := nI (8 + (3080 * jb))) hx hb hK hP 1 0 rfl rfl (vp_in_nI (by omega) (by decide)) d_Md_at_48 ?_
              refine zt_top (by rw [nI_clamp (by omega)]) ?_
              refine zt_top (y := nI sd) (hsm) ?_
              refine lv_imul hx hb d_Md_at_49 ?_
              refine zt_top (pk_mul 3 sd) ?_
              refine lv_aload_n hx hb d_Md_at_50 rfl (lv_at hl 1 rfl) ?_
              refine va_get (D := (dC, dI)) (ci := 4) (v := .ref aNw) (C := R_Md) (T := F_Md) (N := 12) hx hb hz i_Md hown hK hP 0 rfl rfl 3 (by decide) (hz _ tw_479) (fun _ h9 => h9) rfl d_Md_at_51 ?_
              refine lv_iload hx hb d_Md_at_54 (lv_at hl 0 rfl) ?_
              refine va_iald (D := (dC, dI)) (i := nI (8 + (3080 * jb))) hx hb hK hP 1 0 rfl rfl (vp_in_nI (by omega) (by decide)) d_Md_at_56 ?_
              refine zt_top (by rw [nI_clamp (by omega)]) ?_
              refine zt_top (y := nI sd) (hsm) ?_
              refine lv_imul hx hb d_Md_at_57 ?_
              refine zt_top (pk_mul (3 * sd) sd) ?_
              refine lv_icmp_ge (tgt := 77) hx hb d_Md_at_58 (by decide) (fun c_7 => ?_) (fun c_7 => ?_)
              ·
                have c_7 : ((3 * sd) * sd) ≤ jj := (@nI_leI ((3 * sd) * sd) jj (by omega) (by omega)).mp c_7
                refine lv_iconst (v := 0) hx hb d_Md_at_77 (by decide) ?_
                refine zt_size (fun hzs => ?_)
                have hP9 := hP.sub (ws' := [(aM, .inr (4, [.int 0, .ref aMT, .int (nI mu), .ref aNw, .ref aNx, .int mw, .int mwa, .int (nI ma), .int (nI en), .long mv, .int mf, .int ml])), (aNw, .inl (kNw, 52650, .inl nw))]) [0, 1] rfl
                have hD9 := hD.sub (ws' := [(aM, .inr (4, [.int 0, .ref aMT, .int (nI mu), .ref aNw, .ref aNx, .int mw, .int mwa, .int (nI ma), .int (nI en), .long mv, .int mf, .int ml])), (aNw, .inl (kNw, 52650, .inl nw))]) [0, 1] (by decide) rfl
                exact W.iret (v := 0) hx hb hr (fun t ht hW => ⟨⟨0, 0, rfl, ⟨rfl, by rw [zLd_0 hg.1 hjb hjj hsd h1, if_neg (fun z => absurd z.2 (by omega))]⟩, by rw [ht]; exact hP9, hD9, by rw [ht]; exact hzs⟩, hS.F ht⟩) hS.2.2 d_Md_at_78
              ·
                have c_7 : ¬ (((3 * sd) * sd) ≤ jj) := fun z => c_7 ((@nI_leI ((3 * sd) * sd) jj (by omega) (by omega)).mpr z)
                refine lv_aload_n hx hb d_Md_at_61 rfl (lv_at hl 1 rfl) ?_
                refine va_get (D := (dC, dI)) (ci := 4) (v := .ref aNw) (C := R_Md) (T := F_Md) (N := 12) hx hb hz i_Md hown hK hP 0 rfl rfl 3 (by decide) (hz _ tw_479) (fun _ h9 => h9) rfl d_Md_at_62 ?_
                refine lv_iload hx hb d_Md_at_65 (lv_at hl 0 rfl) ?_
                refine lv_bipush (v := 8) hx hb d_Md_at_67 (by decide) ?_
                refine lv_iadd hx hb d_Md_at_69 ?_
                refine zt_top (nI_add (8 + (3080 * jb)) 8) ?_
                refine lv_iload hx hb d_Md_at_70 (lv_at hl 5 rfl) ?_
                refine lv_iadd hx hb d_Md_at_72 ?_
                refine zt_top (nI_add ((8 + (3080 * jb)) + 8) jj) ?_
                refine va_iald (D := (dC, dI)) (i := nI (((8 + (3080 * jb)) + 8) + jj)) hx hb hK hP 1 0 rfl rfl (vp_in_nI (by omega) (by decide)) d_Md_at_73 ?_
                refine zt_top (by rw [nI_clamp (by omega)]) ?_
                refine lv_goto (tgt := 78) hx hb d_Md_at_74 (by decide) ?_
                refine zt_size (fun hzs => ?_)
                have hP9 := hP.sub (ws' := [(aM, .inr (4, [.int 0, .ref aMT, .int (nI mu), .ref aNw, .ref aNx, .int mw, .int mwa, .int (nI ma), .int (nI en), .long mv, .int mf, .int ml])), (aNw, .inl (kNw, 52650, .inl nw))]) [0, 1] rfl
                have hD9 := hD.sub (ws' := [(aM, .inr (4, [.int 0, .ref aMT, .int (nI mu), .ref aNw, .ref aNx, .int mw, .int mwa, .int (nI ma), .int (nI en), .long mv, .int mf, .int ml])), (aNw, .inl (kNw, 52650, .inl nw))]) [0, 1] (by decide) rfl
                exact W.iret (v := nw (((8 + (3080 * jb)) + 8) + jj)) hx hb hr (fun t ht hW => ⟨⟨nw (((8 + (3080 * jb)) + 8) + jj), 0, rfl, ⟨rfl, by rw [zLd_0 hg.1 hjb hjj hsd h1, if_pos ⟨c_6, by omega⟩]; exact (show nw (((8 + (3080 * jb)) + 8) + jj) = nw (8 + 3080 * jb + 8 + jj) by rw [show (((8 + (3080 * jb)) + 8) + jj) = 8 + 3080 * jb + 8 + jj by omega]).trans (hls jj (by omega))⟩, by rw [ht]; exact hP9, hD9, by rw [ht]; exact hzs⟩, hS.F ht⟩) hS.2.2 d_Md_at_78
        ·
          have hl : lv_has ls 7 [(0, .ref aM), (1, .int 1), (2, .int (nI jb)), (3, .int li), (4, .int (nI jj))] := hl
          have hb8 : jb < 16 := Nat.lt_of_lt_of_le hjb (hg.1 1 (by decide))
          have hth := hg.2.2.2 1 jb (by decide) hjb
          refine lv_iload_n hx hb d_Md_at_21 rfl (lv_at hl 1 rfl) ?_
          refine lv_if_ne (tgt := 79) hx hb d_Md_at_22 (by decide) (fun c_8 => ?_) (fun c_8 => ?_)
          ·
            refine lv_iload_n hx hb d_Md_at_79 rfl (lv_at hl 1 rfl) ?_
            refine lv_iconst (v := 2) hx hb d_Md_at_80 (by decide) ?_
            refine lv_icmp_ne (tgt := 223) hx hb d_Md_at_81 (by decide) (fun c_9 => ?_) (fun c_9 => ?_)
            ·
              refine lv_iload_n hx hb d_Md_at_223 rfl (lv_at hl 1 rfl) ?_
              refine lv_iconst (v := 4) hx hb d_Md_at_224 (by decide) ?_
              refine lv_icmp_ne (tgt := 314) hx hb d_Md_at_225 (by decide) (fun c_10 => ?_) (fun c_10 => ?_)
              ·
                refine lv_iconst (v := 0) hx hb d_Md_at_314 (by decide) ?_
                refine zt_size (fun hzs => ?_)
                have hP9 := hP.sub (ws' := [(aM, .inr (4, [.int 0, .ref aMT, .int (nI mu), .ref aNw, .ref aNx, .int mw, .int mwa, .int (nI ma), .int (nI en), .long mv, .int mf, .int ml])), (aNw, .inl (kNw, 52650, .inl nw))]) [0, 1] rfl
                have hD9 := hD.sub (ws' := [(aM, .inr (4, [.int 0, .ref aMT, .int (nI mu), .ref aNw, .ref aNx, .int mw, .int mwa, .int (nI ma), .int (nI en), .long mv, .int mf, .int ml])), (aNw, .inl (kNw, 52650, .inl nw))]) [0, 1] (by decide) rfl
                exact W.iret (v := 0) hx hb hr (fun t ht hW => ⟨⟨0, 0, rfl, ⟨rfl, (zLd_1 hg.1 (Or.inl rfl) hjb hjj).symm⟩, by rw [ht]; exact hP9, hD9, by rw [ht]; exact hzs⟩, hS.F ht⟩) hS.2.2 d_Md_at_315
              ·
                exact absurd c_10 (by decide)
            ·
              exact absurd c_9 (by decide)
          ·
            exact absurd c_8 (by decide)
        ·
          have hl : lv_has ls 7 [(0, .ref aM), (1, .int 2), (2, .int (nI jb)), (3, .int li), (4, .int (nI jj))] := hl
          have hb8 : jb < 16 := Nat.lt_of_lt_of_le hjb (hg.1 2 (by decide))
          have hth := hg.2.2.2 2 jb (by decide) hjb
          obtain ⟨np, nf, hnp, hnf, h1, h2, hl1, hl2, hl3, hl4⟩ := hth.2
          have hs1 : nw (24776 + 1440 * jb + 1) = nI np := (hth.1 1 (by decide)).trans h1
          have hs2 : nw (24776 + 1440 * jb + 2) = nI nf := (hth.1 2 (by decide)).trans h2
          refine lv_iload_n hx hb d_Md_at_21 rfl (lv_at hl 1 rfl) ?_
          refine lv_if_ne (tgt := 79) hx hb d_Md_at_22 (by decide) (fun c_11 => ?_) (fun c_11 => ?_)
          ·
            refine lv_iload_n hx hb d_Md_at_79 rfl (lv_at hl 1 rfl) ?_
            refine lv_iconst (v := 2) hx hb d_Md_at_80 (by decide) ?_
            refine lv_icmp_ne (tgt := 223) hx hb d_Md_at_81 (by decide) (fun c_12 => ?_) (fun c_12 => ?_)
            ·
              exact absurd (by decide) c_12
            ·
              refine lv_sipush (v := 24776) hx hb d_Md_at_84 (by decide) ?_
              refine lv_sipush (v := 1440) hx hb d_Md_at_87 (by decide) ?_
              refine lv_iload_n hx hb d_Md_at_90 rfl (lv_at hl 2 rfl) ?_
              refine lv_imul hx hb d_Md_at_91 ?_
              refine zt_top (pk_mul 1440 jb) ?_
              refine lv_iadd hx hb d_Md_at_92 ?_
              refine zt_top (nI_add 24776 (1440 * jb)) ?_
              refine lv_istore (lv' := [(5, .int (nI (24776 + (1440 * jb)))), (0, .ref aM), (1, .int 2), (2, .int (nI jb)), (3, .int li), (4, .int (nI jj))]) hx hb d_Md_at_93 hl (by decide) rfl (fun ls hl => ?_)
              refine lv_aload_n hx hb d_Md_at_95 rfl (lv_at hl 1 rfl) ?_
              refine va_get (D := (dC, dI)) (ci := 4) (v := .ref aNw) (C := R_Md) (T := F_Md) (N := 12) hx hb hz i_Md hown hK hP 0 rfl rfl 3 (by decide) (hz _ tw_479) (fun _ h9 => h9) rfl d_Md_at_96 ?_
              refine lv_iload hx hb d_Md_at_99 (lv_at hl 0 rfl) ?_
              refine lv_iconst (v := 1) hx hb d_Md_at_101 (by decide) ?_
              refine lv_iadd hx hb d_Md_at_102 ?_
              refine zt_top (nI_add (24776 + (1440 * jb)) 1) ?_
              refine va_iald (D := (dC, dI)) (i := nI ((24776 + (1440 * jb)) + 1)) hx hb hK hP 1 0 rfl rfl (vp_in_nI (by omega) (by decide)) d_Md_at_103 ?_
              refine zt_top (by rw [nI_clamp (by omega)]) ?_
              refine zt_top (y := nI np) (hs1) ?_
              refine lv_istore (lv' := [(6, .int (nI np)), (5, .int (nI (24776 + (1440 * jb)))), (0, .ref aM), (1, .int 2), (2, .int (nI jb)), (3, .int li), (4, .int (nI jj))]) hx hb d_Md_at_104 hl (by decide) rfl (fun ls hl => ?_)
              refine lv_iload_n hx hb d_Md_at_106 rfl (lv_at hl 5 rfl) ?_
              refine lv_if_eq (tgt := 115) hx hb d_Md_at_107 (by decide) (fun c_13 => ?_) (fun c_13 => ?_)
              ·
                subst c_13
                refine lv_iload hx hb d_Md_at_115 (lv_at hl 6 rfl) ?_
                refine lv_iconst (v := 3) hx hb d_Md_at_117 (by decide) ?_
                refine lv_iload hx hb d_Md_at_118 (lv_at hl 0 rfl) ?_
                refine lv_imul hx hb d_Md_at_120 ?_
                refine zt_top (pk_mul 3 np) ?_
                refine lv_icmp_ge (tgt := 146) hx hb d_Md_at_121 (by decide) (fun c_14 => ?_) (fun c_14 => ?_)
                ·
                  have c_14 : (3 * np) ≤ jj := (@nI_leI (3 * np) jj (by omega) (by omega)).mp c_14
                  refine lv_iconst (v := 0) hx hb d_Md_at_146 (by decide) ?_
                  refine zt_size (fun hzs => ?_)
                  have hP9 := hP.sub (ws' := [(aM, .inr (4, [.int 0, .ref aMT, .int (nI mu), .ref aNw, .ref aNx, .int mw, .int mwa, .int (nI ma), .int (nI en), .long mv, .int mf, .int ml])), (aNw, .inl (kNw, 52650, .inl nw))]) [0, 1] rfl
                  have hD9 := hD.sub (ws' := [(aM, .inr (4, [.int 0, .ref aMT, .int (nI mu), .ref aNw, .ref aNx, .int mw, .int mwa, .int (nI ma), .int (nI en), .long mv, .int mf, .int ml])), (aNw, .inl (kNw, 52650, .inl nw))]) [0, 1] (by decide) rfl
                  exact W.iret (v := 0) hx hb hr (fun t ht hW => ⟨⟨0, 0, rfl, ⟨rfl, by rw [zLd_2 hg.1 hjb hjj hnp hnf h1 h2, if_pos rfl, if_neg (by omega)]⟩, by rw [ht]; exact hP9, hD9, by rw [ht]; exact hzs⟩, hS.F ht⟩) hS.2.2 d_Md_at_147
                ·
                  have c_14 : ¬ ((3 * np) ≤ jj) := fun z => c_14 ((@nI_leI (3 * np) jj (by omega) (by omega)).mpr z)
                  refine lv_aload_n hx hb d_Md_at_124 rfl (lv_at hl 2 rfl) ?_
                  refine va_get (D := (dC, dI)) (ci := 4) (v := .ref aNw) (C := R_Md) (T := F_Md) (N := 12) hx hb hz i_Md hown hK hP 0 rfl rfl 3 (by decide) (hz _ tw_479) (fun _ h9 => h9) rfl d_Md_at_125 ?_
                  refine lv_iload hx hb d_Md_at_128 (lv_at hl 1 rfl) ?_
                  refine lv_bipush (v := 16) hx hb d_Md_at_130 (by decide) ?_
                  refine lv_iadd hx hb d_Md_at_132 ?_
                  refine zt_top (nI_add (24776 + (1440 * jb)) 16) ?_
                  refine lv_sipush (v := 384) hx hb d_Md_at_133 (by decide) ?_
                  refine lv_iload_n hx hb d_Md_at_136 rfl (lv_at hl 5 rfl) ?_
                  refine lv_imul hx hb d_Md_at_137 ?_
                  refine zt_top (y := 0) (by decide) ?_
                  refine lv_iadd hx hb d_Md_at_138 ?_
                  refine zt_top (nI_add ((24776 + (1440 * jb)) + 16) 0) ?_
                  refine lv_iload hx hb d_Md_at_139 (lv_at hl 6 rfl) ?_
                  refine lv_iadd hx hb d_Md_at_141 ?_
                  refine zt_top (nI_add (((24776 + (1440 * jb)) + 16) + 0) jj) ?_
                  refine va_iald (D := (dC, dI)) (i := nI ((((24776 + (1440 * jb)) + 16) + 0) + jj)) hx hb hK hP 1 0 rfl rfl (vp_in_nI (by omega) (by decide)) d_Md_at_142 ?_
                  refine zt_top (by rw [nI_clamp (by omega)]) ?_
                  refine lv_goto (tgt := 147) hx hb d_Md_at_143 (by decide) ?_
                  refine zt_size (fun hzs => ?_)
                  have hP9 := hP.sub (ws' := [(aM, .inr (4, [.int 0, .ref aMT, .int (nI mu), .ref aNw, .ref aNx, .int mw, .int mwa, .int (nI ma), .int (nI en), .long mv, .int mf, .int ml])), (aNw, .inl (kNw, 52650, .inl nw))]) [0, 1] rfl
                  have hD9 := hD.sub (ws' := [(aM, .inr (4, [.int 0, .ref aMT, .int (nI mu), .ref aNw, .ref aNx, .int mw, .int mwa, .int (nI ma), .int (nI en), .long mv, .int mf, .int ml])), (aNw, .inl (kNw, 52650, .inl nw))]) [0, 1] (by decide) rfl
                  exact W.iret (v := nw ((((24776 + (1440 * jb)) + 16) + 0) + jj)) hx hb hr (fun t ht hW => ⟨⟨nw ((((24776 + (1440 * jb)) + 16) + 0) + jj), 0, rfl, ⟨rfl, by rw [zLd_2 hg.1 hjb hjj hnp hnf h1 h2, if_pos rfl, if_pos (by omega)]; exact (show nw ((((24776 + (1440 * jb)) + 16) + 0) + jj) = nw (24776 + 1440 * jb + 16 + jj) by rw [show ((((24776 + (1440 * jb)) + 16) + 0) + jj) = 24776 + 1440 * jb + 16 + jj by omega]).trans (hl1 jj (by omega))⟩, by rw [ht]; exact hP9, hD9, by rw [ht]; exact hzs⟩, hS.F ht⟩) hS.2.2 d_Md_at_147
              ·
                refine lv_iload_n hx hb d_Md_at_110 rfl (lv_at hl 5 rfl) ?_
                refine lv_iconst (v := 1) hx hb d_Md_at_111 (by decide) ?_
                refine lv_icmp_ne (tgt := 148) hx hb d_Md_at_112 (by decide) (fun c_15 => ?_) (fun c_15 => ?_)
                ·
                  refine lv_iload_n hx hb d_Md_at_148 rfl (lv_at hl 5 rfl) ?_
                  refine lv_iconst (v := 2) hx hb d_Md_at_149 (by decide) ?_
                  refine lv_icmp_ne (tgt := 183) hx hb d_Md_at_150 (by decide) (fun c_16 => ?_) (fun c_16 => ?_)
                  ·
                    refine lv_iload_n hx hb d_Md_at_183 rfl (lv_at hl 5 rfl) ?_
                    refine lv_iconst (v := 3) hx hb d_Md_at_184 (by decide) ?_
                    refine lv_icmp_ne (tgt := 221) hx hb d_Md_at_185 (by decide) (fun c_17 => ?_) (fun c_17 => ?_)
                    ·
                      refine lv_iconst (v := 0) hx hb d_Md_at_221 (by decide) ?_
                      refine zt_size (fun hzs => ?_)
                      have hP9 := hP.sub (ws' := [(aM, .inr (4, [.int 0, .ref aMT, .int (nI mu), .ref aNw, .ref aNx, .int mw, .int mwa, .int (nI ma), .int (nI en), .long mv, .int mf, .int ml])), (aNw, .inl (kNw, 52650, .inl nw))]) [0, 1] rfl
                      have hD9 := hD.sub (ws' := [(aM, .inr (4, [.int 0, .ref aMT, .int (nI mu), .ref aNw, .ref aNx, .int mw, .int mwa, .int (nI ma), .int (nI en), .long mv, .int mf, .int ml])), (aNw, .inl (kNw, 52650, .inl nw))]) [0, 1] (by decide) rfl
                      exact W.iret (v := 0) hx hb hr (fun t ht hW => ⟨⟨0, 0, rfl, ⟨rfl, by rw [zLd_2 hg.1 hjb hjj hnp hnf h1 h2, if_neg c_13, if_neg c_15, if_neg c_16, if_neg c_17]⟩, by rw [ht]; exact hP9, hD9, by rw [ht]; exact hzs⟩, hS.F ht⟩) hS.2.2 d_Md_at_222
                    ·
                      refine lv_iload hx hb d_Md_at_188 (lv_at hl 6 rfl) ?_
                      refine lv_iconst (v := 3) hx hb d_Md_at_190 (by decide) ?_
                      refine lv_aload_n hx hb d_Md_at_191 rfl (lv_at hl 2 rfl) ?_
                      refine va_get (D := (dC, dI)) (ci := 4) (v := .ref aNw) (C := R_Md) (T := F_Md) (N := 12) hx hb hz i_Md hown hK hP 0 rfl rfl 3 (by decide) (hz _ tw_479) (fun _ h9 => h9) rfl d_Md_at_192 ?_
                      refine lv_iload hx hb d_Md_at_195 (lv_at hl 1 rfl) ?_
                      refine lv_iconst (v := 2) hx hb d_Md_at_197 (by decide) ?_
                      refine lv_iadd hx hb d_Md_at_198 ?_
                      refine zt_top (nI_add (24776 + (1440 * jb)) 2) ?_
                      refine va_iald (D := (dC, dI)) (i := nI ((24776 + (1440 * jb)) + 2)) hx hb hK hP 1 0 rfl rfl (vp_in_nI (by omega) (by decide)) d_Md_at_199 ?_
                      refine zt_top (by rw [nI_clamp (by omega)]) ?_
                      refine zt_top (y := nI nf) (hs2) ?_
                      refine lv_imul hx hb d_Md_at_200 ?_
                      refine zt_top (pk_mul 3 nf) ?_
                      refine lv_icmp_ge (tgt := 221) hx hb d_Md_at_201 (by decide) (fun c_18 => ?_) (fun c_18 => ?_)
                      ·
                        have c_18 : (3 * nf) ≤ jj := (@nI_leI (3 * nf) jj (by omega) (by omega)).mp c_18
                        refine lv_iconst (v := 0) hx hb d_Md_at_221 (by decide) ?_
                        refine zt_size (fun hzs => ?_)
                        have hP9 := hP.sub (ws' := [(aM, .inr (4, [.int 0, .ref aMT, .int (nI mu), .ref aNw, .ref aNx, .int mw, .int mwa, .int (nI ma), .int (nI en), .long mv, .int mf, .int ml])), (aNw, .inl (kNw, 52650, .inl nw))]) [0, 1] rfl
                        have hD9 := hD.sub (ws' := [(aM, .inr (4, [.int 0, .ref aMT, .int (nI mu), .ref aNw, .ref aNx, .int mw, .int mwa, .int (nI ma), .int (nI en), .long mv, .int mf, .int ml])), (aNw, .inl (kNw, 52650, .inl nw))]) [0, 1] (by decide) rfl
                        exact W.iret (v := 0) hx hb hr (fun t ht hW => ⟨⟨0, 0, rfl, ⟨rfl, by rw [zLd_2 hg.1 hjb hjj hnp hnf h1 h2, if_neg c_13, if_neg c_15, if_neg c_16, if_pos c_17, if_neg (by omega)]⟩, by rw [ht]; exact hP9, hD9, by rw [ht]; exact hzs⟩, hS.F ht⟩) hS.2.2 d_Md_at_222
                      ·
                        have c_18 : ¬ ((3 * nf) ≤ jj) := fun z => c_18 ((@nI_leI (3 * nf) jj (by omega) (by omega)).mpr z)
                        refine lv_aload_n hx hb d_Md_at_204 rfl (lv_at hl 2 rfl) ?_
                        refine va_get (D := (dC, dI)) (ci := 4) (v := .ref aNw) (C := R_Md) (T := F_Md) (N := 12) hx hb hz i_Md hown hK hP 0 rfl rfl 3 (by decide) (hz _ tw_479) (fun _ h9 => h9) rfl d_Md_at_205 ?_
                        refine lv_iload hx hb d_Md_at_208 (lv_at hl 1 rfl) ?_
                        refine lv_sipush (v := 1040) hx hb d_Md_at_210 (by decide) ?_
                        refine lv_iadd hx hb d_Md_at_213 ?_
                        refine zt_top (nI_add (24776 + (1440 * jb)) 1040) ?_
                        refine lv_iload hx hb d_Md_at_214 (lv_at hl 6 rfl) ?_
                        refine lv_iadd hx hb d_Md_at_216 ?_
                        refine zt_top (nI_add ((24776 + (1440 * jb)) + 1040) jj) ?_
                        refine va_iald (D := (dC, dI)) (i := nI (((24776 + (1440 * jb)) + 1040) + jj)) hx hb hK hP 1 0 rfl rfl (vp_in_nI (by omega) (by decide)) d_Md_at_217 ?_
                        refine zt_top (by rw [nI_clamp (by omega)]) ?_
                        refine lv_goto (tgt := 222) hx hb d_Md_at_218 (by decide) ?_
                        refine zt_size (fun hzs => ?_)
                        have hP9 := hP.sub (ws' := [(aM, .inr (4, [.int 0, .ref aMT, .int (nI mu), .ref aNw, .ref aNx, .int mw, .int mwa, .int (nI ma), .int (nI en), .long mv, .int mf, .int ml])), (aNw, .inl (kNw, 52650, .inl nw))]) [0, 1] rfl
                        have hD9 := hD.sub (ws' := [(aM, .inr (4, [.int 0, .ref aMT, .int (nI mu), .ref aNw, .ref aNx, .int mw, .int mwa, .int (nI ma), .int (nI en), .long mv, .int mf, .int ml])), (aNw, .inl (kNw, 52650, .inl nw))]) [0, 1] (by decide) rfl
                        exact W.iret (v := nw (((24776 + (1440 * jb)) + 1040) + jj)) hx hb hr (fun t ht hW => ⟨⟨nw (((24776 + (1440 * jb)) + 1040) + jj), 0, rfl, ⟨rfl, by rw [zLd_2 hg.1 hjb hjj hnp hnf h1 h2, if_neg c_13, if_neg c_15, if_neg c_16, if_pos c_17, if_pos (by omega)]; exact (show nw (((24776 + (1440 * jb)) + 1040) + jj) = nw (24776 + 1440 * jb + 1040 + jj) by rw [show (((24776 + (1440 * jb)) + 1040) + jj) = 24776 + 1440 * jb + 1040 + jj by omega]).trans (hl4 jj (by omega))⟩, by rw [ht]; exact hP9, hD9, by rw [ht]; exact hzs⟩, hS.F ht⟩) hS.2.2 d_Md_at_222
                  ·
                    refine lv_iload hx hb d_Md_at_153 (lv_at hl 6 rfl) ?_
                    refine lv_iconst (v := 2) hx hb d_Md_at_155 (by decide) ?_
                    refine lv_iload hx hb d_Md_at_156 (lv_at hl 0 rfl) ?_
                    refine lv_imul hx hb d_Md_at_158 ?_
                    refine zt_top (pk_mul 2 np) ?_
                    refine lv_icmp_ge (tgt := 179) hx hb d_Md_at_159 (by decide) (fun c_19 => ?_) (fun c_19 => ?_)
                    ·
                      have c_19 : (2 * np) ≤ jj := (@nI_leI (2 * np) jj (by omega) (by omega)).mp c_19
                      refine lv_iconst (v := 0) hx hb d_Md_at_179 (by decide) ?_
                      refine lv_goto (tgt := 222) hx hb d_Md_at_180 (by decide) ?_
                      refine zt_size (fun hzs => ?_)
                      have hP9 := hP.sub (ws' := [(aM, .inr (4, [.int 0, .ref aMT, .int (nI mu), .ref aNw, .ref aNx, .int mw, .int mwa, .int (nI ma), .int (nI en), .long mv, .int mf, .int ml])), (aNw, .inl (kNw, 52650, .inl nw))]) [0, 1] rfl
                      have hD9 := hD.sub (ws' := [(aM, .inr (4, [.int 0, .ref aMT, .int (nI mu), .ref aNw, .ref aNx, .int mw, .int mwa, .int (nI ma), .int (nI en), .long mv, .int mf, .int ml])), (aNw, .inl (kNw, 52650, .inl nw))]) [0, 1] (by decide) rfl
                      exact W.iret (v := 0) hx hb hr (fun t ht hW => ⟨⟨0, 0, rfl, ⟨rfl, by rw [zLd_2 hg.1 hjb hjj hnp hnf h1 h2, if_neg c_13, if_neg c_15, if_pos c_16, if_neg (by omega)]⟩, by rw [ht]; exact hP9, hD9, by rw [ht]; exact hzs⟩, hS.F ht⟩) hS.2.2 d_Md_at_222
                    ·
                      have c_19 : ¬ ((2 * np) ≤ jj) := fun z => c_19 ((@nI_leI (2 * np) jj (by omega) (by omega)).mpr z)
                      refine lv_aload_n hx hb d_Md_at_162 rfl (lv_at hl 2 rfl) ?_
                      refine va_get (D := (dC, dI)) (ci := 4) (v := .ref aNw) (C := R_Md) (T := F_Md) (N := 12) hx hb hz i_Md hown hK hP 0 rfl rfl 3 (by decide) (hz _ tw_479) (fun _ h9 => h9) rfl d_Md_at_163 ?_
                      refine lv_iload hx hb d_Md_at_166 (lv_at hl 1 rfl) ?_
                      refine lv_sipush (v := 784) hx hb d_Md_at_168 (by decide) ?_
                      refine lv_iadd hx hb d_Md_at_171 ?_
                      refine zt_top (nI_add (24776 + (1440 * jb)) 784) ?_
                      refine lv_iload hx hb d_Md_at_172 (lv_at hl 6 rfl) ?_
                      refine lv_iadd hx hb d_Md_at_174 ?_
                      refine zt_top (nI_add ((24776 + (1440 * jb)) + 784) jj) ?_
                      refine va_iald (D := (dC, dI)) (i := nI (((24776 + (1440 * jb)) + 784) + jj)) hx hb hK hP 1 0 rfl rfl (vp_in_nI (by omega) (by decide)) d_Md_at_175 ?_
                      refine zt_top (by rw [nI_clamp (by omega)]) ?_
                      refine lv_goto (tgt := 222) hx hb d_Md_at_176 (by decide) ?_
                      refine zt_size (fun hzs => ?_)
                      have hP9 := hP.sub (ws' := [(aM, .inr (4, [.int 0, .ref aMT, .int (nI mu), .ref aNw, .ref aNx, .int mw, .int mwa, .int (nI ma), .int (nI en), .long mv, .int mf, .int ml])), (aNw, .inl (kNw, 52650, .inl nw))]) [0, 1] rfl
                      have hD9 := hD.sub (ws' := [(aM, .inr (4, [.int 0, .ref aMT, .int (nI mu), .ref aNw, .ref aNx, .int mw, .int mwa, .int (nI ma), .int (nI en), .long mv, .int mf, .int ml])), (aNw, .inl (kNw, 52650, .inl nw))]) [0, 1] (by decide) rfl
                      exact W.iret (v := nw (((24776 + (1440 * jb)) + 784) + jj)) hx hb hr (fun t ht hW => ⟨⟨nw (((24776 + (1440 * jb)) + 784) + jj), 0, rfl, ⟨rfl, by rw [zLd_2 hg.1 hjb hjj hnp hnf h1 h2, if_neg c_13, if_neg c_15, if_pos c_16, if_pos (by omega)]; exact (show nw (((24776 + (1440 * jb)) + 784) + jj) = nw (24776 + 1440 * jb + 784 + jj) by rw [show (((24776 + (1440 * jb)) + 784) + jj) = 24776 + 1440 * jb + 784 + jj by omega]).trans (hl3 jj (by omega))⟩, by rw [ht]; exact hP9, hD9, by rw [ht]; exact hzs⟩, hS.F ht⟩) hS.2.2 d_Md_at_222
                ·
                  subst c_15
                  refine lv_iload hx hb d_Md_at_115 (lv_at hl 6 rfl) ?_
                  refine lv_iconst (v := 3) hx hb d_Md_at_117 (by decide) ?_
                  refine lv_iload hx hb d_Md_at_118 (lv_at hl 0 rfl) ?_
                  refine lv_imul hx hb d_Md_at_120 ?_
                  refine zt_top (pk_mul 3 np) ?_
                  refine lv_icmp_ge (tgt := 146) hx hb d_Md_at_121 (by decide) (fun c_20 => ?_) (fun c_20 => ?_)
                  ·
                    have c_20 : (3 * np) ≤ jj := (@nI_leI (3 * np) jj (by omega) (by omega)).mp c_20
                    refine lv_iconst (v := 0) hx hb d_Md_at_146 (by decide) ?_
                    refine zt_size (fun hzs => ?_)
                    have hP9 := hP.sub (ws' := [(aM, .inr (4, [.int 0, .ref aMT, .int (nI mu), .ref aNw, .ref aNx, .int mw, .int mwa, .int (nI ma), .int (nI en), .long mv, .int mf, .int ml])), (aNw, .inl (kNw, 52650, .inl nw))]) [0, 1] rfl
                    have hD9 := hD.sub (ws' := [(aM, .inr (4, [.int 0, .ref aMT, .int (nI mu), .ref aNw, .ref aNx, .int mw, .int mwa, .int (nI ma), .int (nI en), .long mv, .int mf, .int ml])), (aNw, .inl (kNw, 52650, .inl nw))]) [0, 1] (by decide) rfl
                    exact W.iret (v := 0) hx hb hr (fun t ht hW => ⟨⟨0, 0, rfl, ⟨rfl, by rw [zLd_2 hg.1 hjb hjj hnp hnf h1 h2, if_neg (by decide), if_pos rfl, if_neg (by omega)]⟩, by rw [ht]; exact hP9, hD9, by rw [ht]; exact hzs⟩, hS.F ht⟩) hS.2.2 d_Md_at_147
                  ·
                    have c_20 : ¬ ((3 * np) ≤ jj) := fun z => c_20 ((@nI_leI (3 * np) jj (by omega) (by omega)).mpr z)
                    refine lv_aload_n hx hb d_Md_at_124 rfl (lv_at hl 2 rfl) ?_
                    refine va_get (D := (dC, dI)) (ci := 4) (v := .ref aNw) (C := R_Md) (T := F_Md) (N := 12) hx hb hz i_Md hown hK hP 0 rfl rfl 3 (by decide) (hz _ tw_479) (fun _ h9 => h9) rfl d_Md_at_125 ?_
                    refine lv_iload hx hb d_Md_at_128 (lv_at hl 1 rfl) ?_
                    refine lv_bipush (v := 16) hx hb d_Md_at_130 (by decide) ?_
                    refine lv_iadd hx hb d_Md_at_132 ?_
                    refine zt_top (nI_add (24776 + (1440 * jb)) 16) ?_
                    refine lv_sipush (v := 384) hx hb d_Md_at_133 (by decide) ?_
                    refine lv_iload_n hx hb d_Md_at_136 rfl (lv_at hl 5 rfl) ?_
                    refine lv_imul hx hb d_Md_at_137 ?_
                    refine zt_top (y := 384) (by decide) ?_
                    refine lv_iadd hx hb d_Md_at_138 ?_
                    refine zt_top (nI_add ((24776 + (1440 * jb)) + 16) 384) ?_
                    refine lv_iload hx hb d_Md_at_139 (lv_at hl 6 rfl) ?_
                    refine lv_iadd hx hb d_Md_at_141 ?_
                    refine zt_top (nI_add (((24776 + (1440 * jb)) + 16) + 384) jj) ?_
                    refine va_iald (D := (dC, dI)) (i := nI ((((24776 + (1440 * jb)) + 16) + 384) + jj)) hx hb hK hP 1 0 rfl rfl (vp_in_nI (by omega) (by decide)) d_Md_at_142 ?_
                    refine zt_top (by rw [nI_clamp (by omega)]) ?_
                    refine lv_goto (tgt := 147) hx hb d_Md_at_143 (by decide) ?_
                    refine zt_size (fun hzs => ?_)
                    have hP9 := hP.sub (ws' := [(aM, .inr (4, [.int 0, .ref aMT, .int (nI mu), .ref aNw, .ref aNx, .int mw, .int mwa, .int (nI ma), .int (nI en), .long mv, .int mf, .int ml])), (aNw, .inl (kNw, 52650, .inl nw))]) [0, 1] rfl
                    have hD9 := hD.sub (ws' := [(aM, .inr (4, [.int 0, .ref aMT, .int (nI mu), .ref aNw, .ref aNx, .int mw, .int mwa, .int (nI ma), .int (nI en), .long mv, .int mf, .int ml])), (aNw, .inl (kNw, 52650, .inl nw))]) [0, 1] (by decide) rfl
                    exact W.iret (v := nw ((((24776 + (1440 * jb)) + 16) + 384) + jj)) hx hb hr (fun t ht hW => ⟨⟨nw ((((24776 + (1440 * jb)) + 16) + 384) + jj), 0, rfl, ⟨rfl, by rw [zLd_2 hg.1 hjb hjj hnp hnf h1 h2, if_neg (by decide), if_pos rfl, if_pos (by omega)]; exact (show nw ((((24776 + (1440 * jb)) + 16) + 384) + jj) = nw (24776 + 1440 * jb + 400 + jj) by rw [show ((((24776 + (1440 * jb)) + 16) + 384) + jj) = 24776 + 1440 * jb + 400 + jj by omega]).trans (hl2 jj (by omega))⟩, by rw [ht]; exact hP9, hD9, by rw [ht]; exact hzs⟩, hS.F ht⟩) hS.2.2 d_Md_at_147
          ·
            exact absurd c_11 (by decide)
        ·
          have hl : lv_has ls 7 [(0, .ref aM), (1, .int 3), (2, .int (nI jb)), (3, .int li), (4, .int (nI jj))] := hl
          have hb8 : jb < 48 := Nat.lt_of_lt_of_le hjb (hg.1 3 (by decide))
          have hth := hg.2.2.2 3 jb (by decide) hjb
          refine lv_iload_n hx hb d_Md_at_21 rfl (lv_at hl 1 rfl) ?_
          refine lv_if_ne (tgt := 79) hx hb d_Md_at_22 (by decide) (fun c_21 => ?_) (fun c_21 => ?_)
          ·
            refine lv_iload_n hx hb d_Md_at_79 rfl (lv_at hl 1 rfl) ?_
            refine lv_iconst (v := 2) hx hb d_Md_at_80 (by decide) ?_
            refine lv_icmp_ne (tgt := 223) hx hb d_Md_at_81 (by decide) (fun c_22 => ?_) (fun c_22 => ?_)
            ·
              refine lv_iload_n hx hb d_Md_at_223 rfl (lv_at hl 1 rfl) ?_
              refine lv_iconst (v := 4) hx hb d_Md_at_224 (by decide) ?_
              refine lv_icmp_ne (tgt := 314) hx hb d_Md_at_225 (by decide) (fun c_23 => ?_) (fun c_23 => ?_)
              ·
                refine lv_iconst (v := 0) hx hb d_Md_at_314 (by decide) ?_
                refine zt_size (fun hzs => ?_)
                have hP9 := hP.sub (ws' := [(aM, .inr (4, [.int 0, .ref aMT, .int (nI mu), .ref aNw, .ref aNx, .int mw, .int mwa, .int (nI ma), .int (nI en), .long mv, .int mf, .int ml])), (aNw, .inl (kNw, 52650, .inl nw))]) [0, 1] rfl
                have hD9 := hD.sub (ws' := [(aM, .inr (4, [.int 0, .ref aMT, .int (nI mu), .ref aNw, .ref aNx, .int mw, .int mwa, .int (nI ma), .int (nI en), .long mv, .int mf, .int ml])), (aNw, .inl (kNw, 52650, .inl nw))]) [0, 1] (by decide) rfl
                exact W.iret (v := 0) hx hb hr (fun t ht hW => ⟨⟨0, 0, rfl, ⟨rfl, (zLd_1 hg.1 (Or.inr rfl) hjb hjj).symm⟩, by rw [ht]; exact hP9, hD9, by rw [ht]; exact hzs⟩, hS.F ht⟩) hS.2.2 d_Md_at_315
              ·
                exact absurd c_23 (by decide)
            ·
              exact absurd c_22 (by decide)
          ·
            exact absurd c_21 (by decide)
        ·
          have hl : lv_has ls 7 [(0, .ref aM), (1, .int 4), (2, .int (nI jb)), (3, .int li), (4, .int (nI jj))] := hl
          have hb8 : jb < 32 := Nat.lt_of_lt_of_le hjb (hg.1 4 (by decide))
          have hth := hg.2.2.2 4 jb (by decide) hjb
          obtain ⟨nk, hnk, h1, hl1, hl2⟩ := hth.2
          have hs1 : nw (48344 + 134 * jb + 3) = nI nk := (hth.1 3 (by decide)).trans h1
          refine lv_iload_n hx hb d_Md_at_21 rfl (lv_at hl 1 rfl) ?_
          refine lv_if_ne (tgt := 79) hx hb d_Md_at_22 (by decide) (fun c_24 => ?_) (fun c_24 => ?_)
          ·
            refine lv_iload_n hx hb d_Md_at_79 rfl (lv_at hl 1 rfl) ?_
            refine lv_iconst (v := 2) hx hb d_Md_at_80 (by decide) ?_
            refine lv_icmp_ne (tgt := 223) hx hb d_Md_at_81 (by decide) (fun c_25 => ?_) (fun c_25 => ?_)
            ·
              refine lv_iload_n hx hb d_Md_at_223 rfl (lv_at hl 1 rfl) ?_
              refine lv_iconst (v := 4) hx hb d_Md_at_224 (by decide) ?_
              refine lv_icmp_ne (tgt := 314) hx hb d_Md_at_225 (by decide) (fun c_26 => ?_) (fun c_26 => ?_)
              ·
                exact absurd (by decide) c_26
              ·
                refine lv_ldc (v := 48344) hx hb hown (hz _ tw_673) d_Md_at_228 ?_
                refine lv_sipush (v := 134) hx hb d_Md_at_230 (by decide) ?_
                refine lv_iload_n hx hb d_Md_at_233 rfl (lv_at hl 2 rfl) ?_
                refine lv_imul hx hb d_Md_at_234 ?_
                refine zt_top (pk_mul 134 jb) ?_
                refine lv_iadd hx hb d_Md_at_235 ?_
                refine zt_top (nI_add 48344 (134 * jb)) ?_
                refine lv_istore (lv' := [(5, .int (nI (48344 + (134 * jb)))), (0, .ref aM), (1, .int 4), (2, .int (nI jb)), (3, .int li), (4, .int (nI jj))]) hx hb d_Md_at_236 hl (by decide) rfl (fun ls hl => ?_)
                refine lv_iload_n hx hb d_Md_at_238 rfl (lv_at hl 4 rfl) ?_
                refine lv_if_ne (tgt := 275) hx hb d_Md_at_239 (by decide) (fun c_27 => ?_) (fun c_27 => ?_)
                ·
                  refine lv_iload_n hx hb d_Md_at_275 rfl (lv_at hl 4 rfl) ?_
                  refine lv_iconst (v := 1) hx hb d_Md_at_276 (by decide) ?_
                  refine lv_icmp_ne (tgt := 312) hx hb d_Md_at_277 (by decide) (fun c_28 => ?_) (fun c_28 => ?_)
                  ·
                    refine lv_iconst (v := 0) hx hb d_Md_at_312 (by decide) ?_
                    refine zt_size (fun hzs => ?_)
                    have hP9 := hP.sub (ws' := [(aM, .inr (4, [.int 0, .ref aMT, .int (nI mu), .ref aNw, .ref aNx, .int mw, .int mwa, .int (nI ma), .int (nI en), .long mv, .int mf, .int ml])), (aNw, .inl (kNw, 52650, .inl nw))]) [0, 1] rfl
                    have hD9 := hD.sub (ws' := [(aM, .inr (4, [.int 0, .ref aMT, .int (nI mu), .ref aNw, .ref aNx, .int mw, .int mwa, .int (nI ma), .int (nI en), .long mv, .int mf, .int ml])), (aNw, .inl (kNw, 52650, .inl nw))]) [0, 1] (by decide) rfl
                    exact W.iret (v := 0) hx hb hr (fun t ht hW => ⟨⟨0, 0, rfl, ⟨rfl, by rw [zLd_4 hg.1 hjb hjj hnk h1, if_neg c_27, if_neg c_28]⟩, by rw [ht]; exact hP9, hD9, by rw [ht]; exact hzs⟩, hS.F ht⟩) hS.2.2 d_Md_at_313
                  ·
                    refine lv_iload hx hb d_Md_at_280 (lv_at hl 5 rfl) ?_
                    refine lv_iconst (v := 3) hx hb d_Md_at_282 (by decide) ?_
                    refine lv_aload_n hx hb d_Md_at_283 rfl (lv_at hl 1 rfl) ?_
                    refine va_get (D := (dC, dI)) (ci := 4) (v := .ref aNw) (C := R_Md) (T := F_Md) (N := 12) hx hb hz i_Md hown hK hP 0 rfl rfl 3 (by decide) (hz _ tw_479) (fun _ h9 => h9) rfl d_Md_at_284 ?_
                    refine lv_iload hx hb d_Md_at_287 (lv_at hl 0 rfl) ?_
                    refine lv_iconst (v := 3) hx hb d_Md_at_289 (by decide) ?_
                    refine lv_iadd hx hb d_Md_at_290 ?_
                    refine zt_top (nI_add (48344 + (134 * jb)) 3) ?_
                    refine va_iald (D := (dC, dI)) (i := nI ((48344 + (134 * jb)) + 3)) hx hb hK hP 1 0 rfl rfl (vp_in_nI (by omega) (by decide)) d_Md_at_291 ?_
                    refine zt_top (by rw [nI_clamp (by omega)]) ?_
                    refine zt_top (y := nI nk) (hs1) ?_
                    refine lv_imul hx hb d_Md_at_292 ?_
                    refine zt_top (pk_mul 3 nk) ?_
                    refine lv_icmp_ge (tgt := 312) hx hb d_Md_at_293 (by decide) (fun c_29 => ?_) (fun c_29 => ?_)
                    ·
                      have c_29 : (3 * nk) ≤ jj := (@nI_leI (3 * nk) jj (by omega) (by omega)).mp c_29
                      refine lv_iconst (v := 0) hx hb d_Md_at_312 (by decide) ?_
                      refine zt_size (fun hzs => ?_)
                      have hP9 := hP.sub (ws' := [(aM, .inr (4, [.int 0, .ref aMT, .int (nI mu), .ref aNw, .ref aNx, .int mw, .int mwa, .int (nI ma), .int (nI en), .long mv, .int mf, .int ml])), (aNw, .inl (kNw, 52650, .inl nw))]) [0, 1] rfl
                      have hD9 := hD.sub (ws' := [(aM, .inr (4, [.int 0, .ref aMT, .int (nI mu), .ref aNw, .ref aNx, .int mw, .int mwa, .int (nI ma), .int (nI en), .long mv, .int mf, .int ml])), (aNw, .inl (kNw, 52650, .inl nw))]) [0, 1] (by decide) rfl
                      exact W.iret (v := 0) hx hb hr (fun t ht hW => ⟨⟨0, 0, rfl, ⟨rfl, by rw [zLd_4 hg.1 hjb hjj hnk h1, if_neg c_27, if_pos c_28, if_neg (by omega)]⟩, by rw [ht]; exact hP9, hD9, by rw [ht]; exact hzs⟩, hS.F ht⟩) hS.2.2 d_Md_at_313
                    ·
                      have c_29 : ¬ ((3 * nk) ≤ jj) := fun z => c_29 ((@nI_leI (3 * nk) jj (by omega) (by omega)).mpr z)
                      refine lv_aload_n hx hb d_Md_at_296 rfl (lv_at hl 1 rfl) ?_
                      refine va_get (D := (dC, dI)) (ci := 4) (v := .ref aNw) (C := R_Md) (T := F_Md) (N := 12) hx hb hz i_Md hown hK hP 0 rfl rfl 3 (by decide) (hz _ tw_479) (fun _ h9 => h9) rfl d_Md_at_297 ?_
                      refine lv_iload hx hb d_Md_at_300 (lv_at hl 0 rfl) ?_
                      refine lv_bipush (v := 36) hx hb d_Md_at_302 (by decide) ?_
                      refine lv_iadd hx hb d_Md_at_304 ?_
                      refine zt_top (nI_add (48344 + (134 * jb)) 36) ?_
                      refine lv_iload hx hb d_Md_at_305 (lv_at hl 5 rfl) ?_
                      refine lv_iadd hx hb d_Md_at_307 ?_
                      refine zt_top (nI_add ((48344 + (134 * jb)) + 36) jj) ?_
                      refine va_iald (D := (dC, dI)) (i := nI (((48344 + (134 * jb)) + 36) + jj)) hx hb hK hP 1 0 rfl rfl (vp_in_nI (by omega) (by decide)) d_Md_at_308 ?_
                      refine zt_top (by rw [nI_clamp (by omega)]) ?_
                      refine lv_goto (tgt := 313) hx hb d_Md_at_309 (by decide) ?_
                      refine zt_size (fun hzs => ?_)
                      have hP9 := hP.sub (ws' := [(aM, .inr (4, [.int 0, .ref aMT, .int (nI mu), .ref aNw, .ref aNx, .int mw, .int mwa, .int (nI ma), .int (nI en), .long mv, .int mf, .int ml])), (aNw, .inl (kNw, 52650, .inl nw))]) [0, 1] rfl
                      have hD9 := hD.sub (ws' := [(aM, .inr (4, [.int 0, .ref aMT, .int (nI mu), .ref aNw, .ref aNx, .int mw, .int mwa, .int (nI ma), .int (nI en), .long mv, .int mf, .int ml])), (aNw, .inl (kNw, 52650, .inl nw))]) [0, 1] (by decide) rfl
                      exact W.iret (v := nw (((48344 + (134 * jb)) + 36) + jj)) hx hb hr (fun t ht hW => ⟨⟨nw (((48344 + (134 * jb)) + 36) + jj), 0, rfl, ⟨rfl, by rw [zLd_4 hg.1 hjb hjj hnk h1, if_neg c_27, if_pos c_28, if_pos (by omega)]; exact (show nw (((48344 + (134 * jb)) + 36) + jj) = nw (48344 + 134 * jb + 36 + jj) by rw [show (((48344 + (134 * jb)) + 36) + jj) = 48344 + 134 * jb + 36 + jj by omega]).trans (hl2 jj (by omega))⟩, by rw [ht]; exact hP9, hD9, by rw [ht]; exact hzs⟩, hS.F ht⟩) hS.2.2 d_Md_at_313
                ·
                  refine lv_iload hx hb d_Md_at_242 (lv_at hl 5 rfl) ?_
                  refine lv_aload_n hx hb d_Md_at_244 rfl (lv_at hl 1 rfl) ?_
                  refine va_get (D := (dC, dI)) (ci := 4) (v := .ref aNw) (C := R_Md) (T := F_Md) (N := 12) hx hb hz i_Md hown hK hP 0 rfl rfl 3 (by decide) (hz _ tw_479) (fun _ h9 => h9) rfl d_Md_at_245 ?_
                  refine lv_iload hx hb d_Md_at_248 (lv_at hl 0 rfl) ?_
                  refine lv_iconst (v := 3) hx hb d_Md_at_250 (by decide) ?_
                  refine lv_iadd hx hb d_Md_at_251 ?_
                  refine zt_top (nI_add (48344 + (134 * jb)) 3) ?_
                  refine va_iald (D := (dC, dI)) (i := nI ((48344 + (134 * jb)) + 3)) hx hb hK hP 1 0 rfl rfl (vp_in_nI (by omega) (by decide)) d_Md_at_252 ?_
                  refine zt_top (by rw [nI_clamp (by omega)]) ?_
                  refine zt_top (y := nI nk) (hs1) ?_
                  refine lv_icmp_ge (tgt := 271) hx hb d_Md_at_253 (by decide) (fun c_30 => ?_) (fun c_30 => ?_)
                  ·
                    have c_30 : nk ≤ jj := (@nI_leI nk jj (by omega) (by omega)).mp c_30
                    refine lv_iconst (v := 0) hx hb d_Md_at_271 (by decide) ?_
                    refine lv_goto (tgt := 313) hx hb d_Md_at_272 (by decide) ?_
                    refine zt_size (fun hzs => ?_)
                    have hP9 := hP.sub (ws' := [(aM, .inr (4, [.int 0, .ref aMT, .int (nI mu), .ref aNw, .ref aNx, .int mw, .int mwa, .int (nI ma), .int (nI en), .long mv, .int mf, .int ml])), (aNw, .inl (kNw, 52650, .inl nw))]) [0, 1] rfl
                    have hD9 := hD.sub (ws' := [(aM, .inr (4, [.int 0, .ref aMT, .int (nI mu), .ref aNw, .ref aNx, .int mw, .int mwa, .int (nI ma), .int (nI en), .long mv, .int mf, .int ml])), (aNw, .inl (kNw, 52650, .inl nw))]) [0, 1] (by decide) rfl
                    exact W.iret (v := 0) hx hb hr (fun t ht hW => ⟨⟨0, 0, rfl, ⟨rfl, by rw [zLd_4 hg.1 hjb hjj hnk h1, if_pos c_27, if_neg (by omega)]⟩, by rw [ht]; exact hP9, hD9, by rw [ht]; exact hzs⟩, hS.F ht⟩) hS.2.2 d_Md_at_313
                  ·
                    have c_30 : ¬ (nk ≤ jj) := fun z => c_30 ((@nI_leI nk jj (by omega) (by omega)).mpr z)
                    refine lv_aload_n hx hb d_Md_at_256 rfl (lv_at hl 1 rfl) ?_
                    refine va_get (D := (dC, dI)) (ci := 4) (v := .ref aNw) (C := R_Md) (T := F_Md) (N := 12) hx hb hz i_Md hown hK hP 0 rfl rfl 3 (by decide) (hz _ tw_479) (fun _ h9 => h9) rfl d_Md_at_257 ?_
                    refine lv_iload hx hb d_Md_at_260 (lv_at hl 0 rfl) ?_
                    refine lv_iconst (v := 4) hx hb d_Md_at_262 (by decide) ?_
                    refine lv_iadd hx hb d_Md_at_263 ?_
                    refine zt_top (nI_add (48344 + (134 * jb)) 4) ?_
                    refine lv_iload hx hb d_Md_at_264 (lv_at hl 5 rfl) ?_
                    refine lv_iadd hx hb d_Md_at_266 ?_
                    refine zt_top (nI_add ((48344 + (134 * jb)) + 4) jj) ?_
                    refine va_iald (D := (dC, dI)) (i := nI (((48344 + (134 * jb)) + 4) + jj)) hx hb hK hP 1 0 rfl rfl (vp_in_nI (by omega) (by decide)) d_Md_at_267 ?_
                    refine zt_top (by rw [nI_clamp (by omega)]) ?_
                    refine lv_goto (tgt := 313) hx hb d_Md_at_268 (by decide) ?_
                    refine zt_size (fun hzs => ?_)
                    have hP9 := hP.sub (ws' := [(aM, .inr (4, [.int 0, .ref aMT, .int (nI mu), .ref aNw, .ref aNx, .int mw, .int mwa, .int (nI ma), .int (nI en), .long mv, .int mf, .int ml])), (aNw, .inl (kNw, 52650, .inl nw))]) [0, 1] rfl
                    have hD9 := hD.sub (ws' := [(aM, .inr (4, [.int 0, .ref aMT, .int (nI mu), .ref aNw, .ref aNx, .int mw, .int mwa, .int (nI ma), .int (nI en), .long mv, .int mf, .int ml])), (aNw, .inl (kNw, 52650, .inl nw))]) [0, 1] (by decide) rfl
                    exact W.iret (v := nw (((48344 + (134 * jb)) + 4) + jj)) hx hb hr (fun t ht hW => ⟨⟨nw (((48344 + (134 * jb)) + 4) + jj), 0, rfl, ⟨rfl, by rw [zLd_4 hg.1 hjb hjj hnk h1, if_pos c_27, if_pos (by omega)]; exact (show nw (((48344 + (134 * jb)) + 4) + jj) = nw (48344 + 134 * jb + 4 + jj) by rw [show (((48344 + (134 * jb)) + 4) + jj) = 48344 + 134 * jb + 4 + jj by omega]).trans (hl1 jj (by omega))⟩, by rw [ht]; exact hP9, hD9, by rw [ht]; exact hzs⟩, hS.F ht⟩) hS.2.2 d_Md_at_313
            ·
              exact absurd c_25 (by decide)
          ·
            exact absurd c_24 (by decide)
      ·
        refine lv_iconst (v := 0) hx hb d_Md_at_19 (by decide) ?_
        refine zt_size (fun hzs => ?_)
        have hP9 := hP.sub (ws' := [(aM, .inr (4, [.int 0, .ref aMT, .int (nI mu), .ref aNw, .ref aNx, .int mw, .int mwa, .int (nI ma), .int (nI en), .long mv, .int mf, .int ml])), (aNw, .inl (kNw, 52650, .inl nw))]) [0, 1] rfl
        have hD9 := hD.sub (ws' := [(aM, .inr (4, [.int 0, .ref aMT, .int (nI mu), .ref aNw, .ref aNx, .int mw, .int mwa, .int (nI ma), .int (nI en), .long mv, .int mf, .int ml])), (aNw, .inl (kNw, 52650, .inl nw))]) [0, 1] (by decide) rfl
        exact W.iret (v := 0) hx hb hr (fun t ht hW => ⟨⟨0, 0, rfl, ⟨rfl, (zLd_neg (Int32.not_le.mp c_4)).symm⟩, by rw [ht]; exact hP9, hD9, by rw [ht]; exact hzs⟩, hS.F ht⟩) hS.2.2 d_Md_at_20
  ·
    refine lv_if_eq (tgt := 19) hx hb d_Md_at_11 (by decide) (fun c_31 => ?_) (fun c_31 => ?_)
    ·
      refine lv_iconst (v := 0) hx hb d_Md_at_19 (by decide) ?_
      refine zt_size (fun hzs => ?_)
      have hP9 := hP.sub (ws' := [(aM, .inr (4, [.int 0, .ref aMT, .int (nI mu), .ref aNw, .ref aNx, .int mw, .int mwa, .int (nI ma), .int (nI en), .long mv, .int mf, .int ml])), (aNw, .inl (kNw, 52650, .inl nw))]) [0, 1] rfl
      have hD9 := hD.sub (ws' := [(aM, .inr (4, [.int 0, .ref aMT, .int (nI mu), .ref aNw, .ref aNx, .int mw, .int mwa, .int (nI ma), .int (nI en), .long mv, .int mf, .int ml])), (aNw, .inl (kNw, 52650, .inl nw))]) [0, 1] (by decide) rfl
      exact W.iret (v := 0) hx hb hr (fun t ht hW => ⟨⟨0, 0, rfl, ⟨rfl, (zLd_no hw_2a).symm⟩, by rw [ht]; exact hP9, hD9, by rw [ht]; exact hzs⟩, hS.F ht⟩) hS.2.2 d_Md_at_20
    ·
      exact absurd (by decide) c_31
