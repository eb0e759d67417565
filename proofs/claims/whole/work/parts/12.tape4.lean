set_option maxHeartbeats 4000000 in
set_option maxRecDepth 100000 in
theorem lp_Tp_takeNumber (l : Launch) (hst : l.stackTraces = false) (G : ZG) (dC : Nat → ClassId) (dI : Nat → Nat → Nat) (aT : Nat) (aB : Nat) (u : Nat) (en : Nat) (h : Nat) (na : Int32) (w : Int32) (wa : Int32) (kB : ClassId) (B : Nat → Int32) (hen : en ≤ 65536) (hh : h ≤ en) {p : Program} {e : Env} {s : State} {m : MethodId} {args : Array Value} {below : List Frame} {meth : Method} {c : Code} {A : Nat → Prop} (C0 : zC p s m args meth c prog_4_method_12_code 5 (some .int) R_Tp w_Tp_takeNumber) (hA : ∀ q : Nat, s.heap.size ≤ q → A q) (hK : va_K (dC, dI) vwCl [(kB, .byte)] s) (hE : zE G A s s.heap) (htab : ∀ x ∈ c.exceptionTable.toList, False) : ∀ (n : Nat) (mi : Int32) (f : Nat) (i : Nat) (v : Int32), ((mi = 1 ∧ (h < en ∧ B h = 45)) ∨ (mi = 0 ∧ ¬ (h < en ∧ B h = 45))) → (f = zFd B en h) → (i ≤ en) → (f ≤ i) → (en + 1 ≤ i + n) → (zD B en i v = zD B en f 0) → ∀ (H : Heap) (locs : List Loc), va_P (dC, dI) vwCl [(aT, .inr (2, [.ref aB, .int (nI u), .int (nI en), .int (nI h), .int na, .int w, .int wa])), (aB, .inl (kB, 65536, .inl B))] H → va_D A [(aT, .inr (2, [.ref aB, .int (nI u), .int (nI en), .int (nI h), .int na, .int w, .int wa])), (aB, .inl (kB, 65536, .inl B))] → va_S A s.heap H locs → ∀ (ls : Array Slot), lv_has ls 5 [(0, .ref aT), (1, .int mi), (2, .int (nI f)), (3, .int v), (4, .int (nI i))] → W p l e ({ frames := 7, cells := 1, slots := 6, locals := 104 }) s m args below meth c H locs 0 0 (vx_MQ below (va_Qi (fun (r : Int32) (uu : Nat × Int32) => zNum B en h = .ok (r, uu.1) ∧ uu.2 = nI h) (fun (uu : Nat × Int32) t => BW (dC, dI) [(aT, .inr (2, [.ref aB, .int (nI u), .int (nI en), .int (nI uu.1), .int uu.2, .int w, .int wa])), (aB, .inl (kB, 65536, .inl B))] A s.heap.size t) A) (vx_X (fun (uu : Int32 × Nat × Nat × Int32) => zNum B en h = .error (uu.1, uu.2.1)) (fun E (uu : Int32 × Nat × Nat × Int32) t => E = "java/lang/IllegalArgumentException" ∧ va_P (dC, dI) vwCl [(aT, .inr (2, [.ref aB, .int (nI u), .int (nI en), .int (nI uu.2.2.1), .int uu.2.2.2, .int uu.1, .int (nI uu.2.1)])), (aB, .inl (kB, 65536, .inl B))] t.heap ∧ va_D A [(aT, .inr (2, [.ref aB, .int (nI u), .int (nI en), .int (nI uu.2.2.1), .int uu.2.2.2, .int uu.1, .int (nI uu.2.1)])), (aB, .inl (kB, 65536, .inl B))]) A) args s 1 6 A) (F0 m 30 ls []) := by
  obtain ⟨hx, hb, hr, hml, hown, hts, hlocks⟩ := C0
  have hz : ∀ w ∈ ZW, w.before _ s = true := fun w h => hts w (List.mem_cons_of_mem _ h)
  intro n
  induction n with
  | zero =>
    intro mi f i v hmi hf hi hfi hn hd H locs hP hD hS ls hl
    exact absurd hn (by omega)
  | succ n ih =>
    intro mi f i v hmi hf hi hfi hn hd H locs hP hD hS ls hl
    refine lv_iload hx hb d_Tp_takeNumber_30 (lv_at hl 4 rfl) ?_
    refine lv_aload_n hx hb d_Tp_takeNumber_32 rfl (lv_at hl 0 rfl) ?_
    refine va_get (D := (dC, dI)) (ci := 2) (v := .int (nI en)) (C := R_Tp) (T := F_Tp) (N := 7) hx hb hz i_Tp hown hK hP 0 rfl rfl 2 (by decide) (hz _ tw_38) (fun _ h9 => h9) rfl d_Tp_takeNumber_33 ?_
    refine lv_icmp_ge (tgt := 91) hx hb d_Tp_takeNumber_36 (by decide) (fun c_1 => ?_) (fun c_1 => ?_)
    ·
      have c_1 : en ≤ i := (@nI_leI en i (by omega) (by omega)).mp c_1
      refine lv_iload hx hb d_Tp_takeNumber_91 (lv_at hl 4 rfl) ?_
      refine lv_iload_n hx hb d_Tp_takeNumber_93 rfl (lv_at hl 2 rfl) ?_
      refine lv_icmp_ne (tgt := 106) hx hb d_Tp_takeNumber_94 (by decide) (fun c_2 => ?_) (fun c_2 => ?_)
      ·
        have c_2 : ¬ (i = f) := fun z => c_2 ((@nI_eq i f (by omega) (by omega)).mpr z)
        refine lv_aload_n hx hb d_Tp_takeNumber_106 rfl (lv_at hl 0 rfl) ?_
        refine lv_aload_n hx hb d_Tp_takeNumber_107 rfl (lv_at hl 0 rfl) ?_
        refine va_get (D := (dC, dI)) (ci := 2) (v := .int (nI h)) (C := R_Tp) (T := F_Tp) (N := 7) hx hb hz i_Tp hown hK hP 0 rfl rfl 3 (by decide) (hz _ tw_39) (fun _ h9 => h9) rfl d_Tp_takeNumber_108 ?_
        refine va_put (D := (dC, dI)) (ci := 2) (v := .int (nI h)) (ty := .int) (C := R_Tp) (T := F_Tp) (N := 7) hx hb hz i_Tp t_Tp t_Tp_ok n_Tp hown hK hP hD hS 0 rfl rfl 4 (by decide) (hz _ tw_41) (fun _ h9 => h9) rfl (by decide +kernel) rfl rfl (Nat.le_of_ble_eq_true rfl) d_Tp_takeNumber_111 (fun H locs hP hD hS => ?_)
        have hP : va_P (dC, dI) vwCl [(aT, .inr (2, [.ref aB, .int (nI u), .int (nI en), .int (nI h), .int (nI h), .int w, .int wa])), (aB, .inl (kB, 65536, .inl B))] H := hP
        have hD : va_D A [(aT, .inr (2, [.ref aB, .int (nI u), .int (nI en), .int (nI h), .int (nI h), .int w, .int wa])), (aB, .inl (kB, 65536, .inl B))] := hD
        refine lv_aload_n hx hb d_Tp_takeNumber_114 rfl (lv_at hl 0 rfl) ?_
        refine lv_iload hx hb d_Tp_takeNumber_115 (lv_at hl 4 rfl) ?_
        have hPc := hP.sub (ws' := [(aT, .inr (2, [.ref aB, .int (nI u), .int (nI en), .int (nI h), .int (nI h), .int w, .int wa])), (aB, .inl (kB, 65536, .inl B))]) [0, 1] rfl
        have hDc := hD.sub (ws' := [(aT, .inr (2, [.ref aB, .int (nI u), .int (nI en), .int (nI h), .int (nI h), .int w, .int wa])), (aB, .inl (kB, 65536, .inl B))]) [0, 1] (by decide) rfl
        have hKc := hK.sub (tys' := [(kB, .byte)]) [0] rfl
        have hFc := va_free (wc := [(aT, .inr (2, [.ref aB, .int (nI u), .int (nI en), .int (nI h), .int (nI h), .int w, .int wa])), (aB, .inl (kB, 65536, .inl B))]) hD hS hA [0, 1] rfl
        refine va_callv (va_runV (As := [.int (nI i)]) (rest := []) ⟨hx, hb, hml, hown, hts⟩ (c_Tp_goOnFrom l G dC dI H.size aT aB u en h (nI h) w wa kB B i (by omega) (by omega)) (cwV 1 hts (gV tw_209 tw_211 ts_5 tw_3 tw_212 rfl) rfl rfl rfl (by decide +kernel) ⟨Nat.le_of_ble_eq_true rfl, Nat.le_of_ble_eq_true rfl⟩) (PW_preV hPc hKc hDc hE hS hFc (ci := 2) (q0 := 0) rfl rfl) rfl rfl hl.1 rfl (lv_room (Nat.le_of_ble_eq_true rfl)) d_Tp_takeNumber_117 ⟨Nat.le_of_ble_eq_true rfl, Nat.le_of_ble_eq_true rfl⟩) hS (fun q _ h => hFc q h) hFc (fun uu t H1 locs ht hvm hw_5 hB hz1 hk1 hS => ?_)
        obtain ⟨h_4, rfl⟩ : ∃ z, z = uu := ⟨_, rfl⟩
        obtain ⟨hP1, hD1, hsz1⟩ := hB
        rw [ht] at hP1 hsz1
        obtain ⟨hP, hD⟩ := va_join (wr := []) (w1 := [(aT, .inr (2, [.ref aB, .int (nI u), .int (nI en), .int (nI h_4), .int (nI h), .int w, .int wa])), (aB, .inl (kB, 65536, .inl B))]) hP hD [0, 1] [] rfl rfl (by decide) (by decide) hk1 hFc hP1 hD1
        generalize H1 = H at hP hS ⊢
        have hP : va_P (dC, dI) vwCl [(aT, .inr (2, [.ref aB, .int (nI u), .int (nI en), .int (nI h_4), .int (nI h), .int w, .int wa])), (aB, .inl (kB, 65536, .inl B))] H := hP
        have hD : va_D A [(aT, .inr (2, [.ref aB, .int (nI u), .int (nI en), .int (nI h_4), .int (nI h), .int w, .int wa])), (aB, .inl (kB, 65536, .inl B))] := hD
        rcases hmi with ⟨rfl, hm⟩ | ⟨rfl, hm⟩
        ·
          refine lv_iload_n hx hb d_Tp_takeNumber_120 rfl (lv_at hl 1 rfl) ?_
          refine lv_if_eq (tgt := 129) hx hb d_Tp_takeNumber_121 (by decide) (fun c_6 => ?_) (fun c_6 => ?_)
          ·
            exact absurd c_6 (by decide)
          ·
            refine lv_iload_n hx hb d_Tp_takeNumber_124 rfl (lv_at hl 3 rfl) ?_
            refine lv_ineg hx hb d_Tp_takeNumber_125 ?_
            refine lv_goto (tgt := 130) hx hb d_Tp_takeNumber_126 (by decide) ?_
            refine zt_size (fun hzs => ?_)
            have hP9 := hP.sub (ws' := [(aT, .inr (2, [.ref aB, .int (nI u), .int (nI en), .int (nI h_4), .int (nI h), .int w, .int wa])), (aB, .inl (kB, 65536, .inl B))]) [0, 1] rfl
            have hD9 := hD.sub (ws' := [(aT, .inr (2, [.ref aB, .int (nI u), .int (nI en), .int (nI h_4), .int (nI h), .int w, .int wa])), (aB, .inl (kB, 65536, .inl B))]) [0, 1] (by decide) rfl
            refine W.widen (k := 1) (n := 6) (by decide) (by decide) ?_
            exact vx_ret (W.iret (v := -v) hx hb hr (fun t ht hW => ⟨⟨-v, (h_4, nI h), rfl, ⟨by unfold zNum; rw [← hf, ← hd, zD_no (fun z => absurd z.1 (by omega)), if_neg c_2, if_pos hm, hw_5], rfl⟩, by rw [ht]; exact hP9, hD9, by rw [ht]; exact hzs⟩, hS.F ht⟩) hS.2.2 d_Tp_takeNumber_130)
        ·
          refine lv_iload_n hx hb d_Tp_takeNumber_120 rfl (lv_at hl 1 rfl) ?_
          refine lv_if_eq (tgt := 129) hx hb d_Tp_takeNumber_121 (by decide) (fun c_7 => ?_) (fun c_7 => ?_)
          ·
            refine lv_iload_n hx hb d_Tp_takeNumber_129 rfl (lv_at hl 3 rfl) ?_
            refine zt_size (fun hzs => ?_)
            have hP9 := hP.sub (ws' := [(aT, .inr (2, [.ref aB, .int (nI u), .int (nI en), .int (nI h_4), .int (nI h), .int w, .int wa])), (aB, .inl (kB, 65536, .inl B))]) [0, 1] rfl
            have hD9 := hD.sub (ws' := [(aT, .inr (2, [.ref aB, .int (nI u), .int (nI en), .int (nI h_4), .int (nI h), .int w, .int wa])), (aB, .inl (kB, 65536, .inl B))]) [0, 1] (by decide) rfl
            refine W.widen (k := 1) (n := 6) (by decide) (by decide) ?_
            exact vx_ret (W.iret (v := v) hx hb hr (fun t ht hW => ⟨⟨v, (h_4, nI h), rfl, ⟨by unfold zNum; rw [← hf, ← hd, zD_no (fun z => absurd z.1 (by omega)), if_neg c_2, if_neg hm, hw_5], rfl⟩, by rw [ht]; exact hP9, hD9, by rw [ht]; exact hzs⟩, hS.F ht⟩) hS.2.2 d_Tp_takeNumber_130)
          ·
            exact absurd (by decide) c_7
      ·
        have c_2 : i = f := (@nI_eq i f (by omega) (by omega)).mp c_2
        refine lv_aload_n hx hb d_Tp_takeNumber_97 rfl (lv_at hl 0 rfl) ?_
        refine lv_iconst (v := 1) hx hb d_Tp_takeNumber_98 (by decide) ?_
        refine lv_aload_n hx hb d_Tp_takeNumber_99 rfl (lv_at hl 0 rfl) ?_
        refine va_get (D := (dC, dI)) (ci := 2) (v := .int (nI h)) (C := R_Tp) (T := F_Tp) (N := 7) hx hb hz i_Tp hown hK hP 0 rfl rfl 3 (by decide) (hz _ tw_39) (fun _ h9 => h9) rfl d_Tp_takeNumber_100 ?_
        have hPc := hP.sub (ws' := [(aT, .inr (2, [.ref aB, .int (nI u), .int (nI en), .int (nI h), .int na, .int w, .int wa])), (aB, .inl (kB, 65536, .inl B))]) [0, 1] rfl
        have hDc := hD.sub (ws' := [(aT, .inr (2, [.ref aB, .int (nI u), .int (nI en), .int (nI h), .int na, .int w, .int wa])), (aB, .inl (kB, 65536, .inl B))]) [0, 1] (by decide) rfl
        have hKc := hK.sub (tys' := [(kB, .byte)]) [0] rfl
        have hFc := va_free (wc := [(aT, .inr (2, [.ref aB, .int (nI u), .int (nI en), .int (nI h), .int na, .int w, .int wa])), (aB, .inl (kB, 65536, .inl B))]) hD hS hA [0, 1] rfl
        refine zt_size (fun hzs => ?_)
        refine vx_callv (vx_runV (As := [.int 1, .int (nI h)]) (rest := []) ⟨hx, hb, hml, hown, hts⟩ (c_Tp_refuse l hst G dC dI H.size aT aB u en h na w wa kB B 1 (nI h)) (cwV 2 hts (gV tw_222 tw_223 tw_224 tw_3 tw_225 rfl) rfl rfl rfl (by decide +kernel) ⟨Nat.le_of_ble_eq_true rfl, Nat.le_of_ble_eq_true rfl⟩) (PW_preV hPc hKc hDc hE hS hFc (ci := 2) (q0 := 0) rfl rfl) rfl rfl hl.1 rfl (lv_room (Nat.le_of_ble_eq_true rfl)) d_Tp_takeNumber_103 ⟨Nat.le_of_ble_eq_true rfl, Nat.le_of_ble_eq_true rfl⟩) hS (fun q _ h => hFc q h) hFc (fun q _ h => hFc q h) (fun E9 ce9 q9 uu t H1 locs ht hvm hx_12 hB hz1 hk1 hS hce hcv hcl => ?_) (fun uu t H1 locs ht hvm hw_9 hB hz1 hk1 hS => ?_)
        ·
          obtain ⟨w_10, wa_11⟩ := uu
          obtain ⟨hEn, hP1, hD1⟩ := hB
          rw [ht] at hP1
          obtain ⟨hP, hD⟩ := va_join (wr := []) (w1 := [(aT, .inr (2, [.ref aB, .int (nI u), .int (nI en), .int (nI h), .int na, .int w_10, .int wa_11])), (aB, .inl (kB, 65536, .inl B))]) hP hD [0, 1] [] rfl rfl (by decide) (by decide) hk1 hFc hP1 hD1
          generalize H1 = H at hP hS hce ⊢
          have hP : va_P (dC, dI) vwCl [(aT, .inr (2, [.ref aB, .int (nI u), .int (nI en), .int (nI h), .int na, .int w_10, .int wa_11])), (aB, .inl (kB, 65536, .inl B))] H := hP
          have hD : va_D A [(aT, .inr (2, [.ref aB, .int (nI u), .int (nI en), .int (nI h), .int na, .int w_10, .int wa_11])), (aB, .inl (kB, 65536, .inl B))] := hD
          obtain ⟨rfl, rfl⟩ := hx_12
          have hP9 := hP.sub (ws' := [(aT, .inr (2, [.ref aB, .int (nI u), .int (nI en), .int (nI h), .int na, .int 1, .int (nI h)])), (aB, .inl (kB, 65536, .inl B))]) [0, 1] rfl
          have hD9 := hD.sub (ws' := [(aT, .inr (2, [.ref aB, .int (nI u), .int (nI en), .int (nI h), .int na, .int 1, .int (nI h)])), (aB, .inl (kB, 65536, .inl B))]) [0, 1] (by decide) rfl
          exact vx_out (fun x hx => (htab x hx).elim) hlocks hce hcv hcl (fun t ht hvm => ⟨(1, h, h, na), by unfold zNum; rw [← hf, ← hd, zD_no (fun z => absurd z.1 (by omega)), if_pos c_2], ⟨hEn, by rw [ht]; exact hP9, hD9⟩, hS.F ht⟩) hS.2.2 (by decide) (by decide)
        · exact (hw_9 : False).elim
    ·
      have c_1 : ¬ (en ≤ i) := fun z => c_1 ((@nI_leI en i (by omega) (by omega)).mpr z)
      refine lv_aload_n hx hb d_Tp_takeNumber_39 rfl (lv_at hl 0 rfl) ?_
      refine va_get (D := (dC, dI)) (ci := 2) (v := .ref aB) (C := R_Tp) (T := F_Tp) (N := 7) hx hb hz i_Tp hown hK hP 0 rfl rfl 0 (by decide) (hz _ tw_35) (fun _ h9 => h9) rfl d_Tp_takeNumber_40 ?_
      refine lv_iload hx hb d_Tp_takeNumber_43 (lv_at hl 4 rfl) ?_
      refine va_bald (D := (dC, dI)) (i := nI i) hx hb hK hP 1 0 rfl rfl (vp_in_nI (by omega) (by decide)) d_Tp_takeNumber_45 ?_
      refine zt_top (by rw [nI_clamp (by omega)]) ?_
      refine lv_bipush (v := 48) hx hb d_Tp_takeNumber_46 (by decide) ?_
      refine lv_icmp_lt (tgt := 91) hx hb d_Tp_takeNumber_48 (by decide) (fun c_13 => ?_) (fun c_13 => ?_)
      ·
        refine lv_iload hx hb d_Tp_takeNumber_91 (lv_at hl 4 rfl) ?_
        refine lv_iload_n hx hb d_Tp_takeNumber_93 rfl (lv_at hl 2 rfl) ?_
        refine lv_icmp_ne (tgt := 106) hx hb d_Tp_takeNumber_94 (by decide) (fun c_14 => ?_) (fun c_14 => ?_)
        ·
          have c_14 : ¬ (i = f) := fun z => c_14 ((@nI_eq i f (by omega) (by omega)).mpr z)
          refine lv_aload_n hx hb d_Tp_takeNumber_106 rfl (lv_at hl 0 rfl) ?_
          refine lv_aload_n hx hb d_Tp_takeNumber_107 rfl (lv_at hl 0 rfl) ?_
          refine va_get (D := (dC, dI)) (ci := 2) (v := .int (nI h)) (C := R_Tp) (T := F_Tp) (N := 7) hx hb hz i_Tp hown hK hP 0 rfl rfl 3 (by decide) (hz _ tw_39) (fun _ h9 => h9) rfl d_Tp_takeNumber_108 ?_
          refine va_put (D := (dC, dI)) (ci := 2) (v := .int (nI h)) (ty := .int) (C := R_Tp) (T := F_Tp) (N := 7) hx hb hz i_Tp t_Tp t_Tp_ok n_Tp hown hK hP hD hS 0 rfl rfl 4 (by decide) (hz _ tw_41) (fun _ h9 => h9) rfl (by decide +kernel) rfl rfl (Nat.le_of_ble_eq_true rfl) d_Tp_takeNumber_111 (fun H locs hP hD hS => ?_)
          have hP : va_P (dC, dI) vwCl [(aT, .inr (2, [.ref aB, .int (nI u), .int (nI en), .int (nI h), .int (nI h), .int w, .int wa])), (aB, .inl (kB, 65536, .inl B))] H := hP
          have hD : va_D A [(aT, .inr (2, [.ref aB, .int (nI u), .int (nI en), .int (nI h), .int (nI h), .int w, .int wa])), (aB, .inl (kB, 65536, .inl B))] := hD
          refine lv_aload_n hx hb d_Tp_takeNumber_114 rfl (lv_at hl 0 rfl) ?_
          refine lv_iload hx hb d_Tp_takeNumber_115 (lv_at hl 4 rfl) ?_
          have hPc := hP.sub (ws' := [(aT, .inr (2, [.ref aB, .int (nI u), .int (nI en), .int (nI h), .int (nI h), .int w, .int wa])), (aB, .inl (kB, 65536, .inl B))]) [0, 1] rfl
          have hDc := hD.sub (ws' := [(aT, .inr (2, [.ref aB, .int (nI u), .int (nI en), .int (nI h), .int (nI h), .int w, .int wa])), (aB, .inl (kB, 65536, .inl B))]) [0, 1] (by decide) rfl
          have hKc := hK.sub (tys' := [(kB, .byte)]) [0] rfl
          have hFc := va_free (wc := [(aT, .inr (2, [.ref aB, .int (nI u), .int (nI en), .int (nI h), .int (nI h), .int w, .int wa])), (aB, .inl (kB, 65536, .inl B))]) hD hS hA [0, 1] rfl
          refine va_callv (va_runV (As := [.int (nI i)]) (rest := []) ⟨hx, hb, hml, hown, hts⟩ (c_Tp_goOnFrom l G dC dI H.size aT aB u en h (nI h) w wa kB B i (by omega) (by omega)) (cwV 1 hts (gV tw_209 tw_211 ts_5 tw_3 tw_212 rfl) rfl rfl rfl (by decide +kernel) ⟨Nat.le_of_ble_eq_true rfl, Nat.le_of_ble_eq_true rfl⟩) (PW_preV hPc hKc hDc hE hS hFc (ci := 2) (q0 := 0) rfl rfl) rfl rfl hl.1 rfl (lv_room (Nat.le_of_ble_eq_true rfl)) d_Tp_takeNumber_117 ⟨Nat.le_of_ble_eq_true rfl, Nat.le_of_ble_eq_true rfl⟩) hS (fun q _ h => hFc q h) hFc (fun uu t H1 locs ht hvm hw_17 hB hz1 hk1 hS => ?_)
          obtain ⟨h_16, rfl⟩ : ∃ z, z = uu := ⟨_, rfl⟩
          obtain ⟨hP1, hD1, hsz1⟩ := hB
          rw [ht] at hP1 hsz1
          obtain ⟨hP, hD⟩ := va_join (wr := []) (w1 := [(aT, .inr (2, [.ref aB, .int (nI u), .int (nI en), .int (nI h_16), .int (nI h), .int w, .int wa])), (aB, .inl (kB, 65536, .inl B))]) hP hD [0, 1] [] rfl rfl (by decide) (by decide) hk1 hFc hP1 hD1
          generalize H1 = H at hP hS ⊢
          have hP : va_P (dC, dI) vwCl [(aT, .inr (2, [.ref aB, .int (nI u), .int (nI en), .int (nI h_16), .int (nI h), .int w, .int wa])), (aB, .inl (kB, 65536, .inl B))] H := hP
          have hD : va_D A [(aT, .inr (2, [.ref aB, .int (nI u), .int (nI en), .int (nI h_16), .int (nI h), .int w, .int wa])), (aB, .inl (kB, 65536, .inl B))] := hD
          rcases hmi with ⟨rfl, hm⟩ | ⟨rfl, hm⟩
          ·
            refine lv_iload_n hx hb d_Tp_takeNumber_120 rfl (lv_at hl 1 rfl) ?_
            refine lv_if_eq (tgt := 129) hx hb d_Tp_takeNumber_121 (by decide) (fun c_18 => ?_) (fun c_18 => ?_)
            ·
              exact absurd c_18 (by decide)
            ·
              refine lv_iload_n hx hb d_Tp_takeNumber_124 rfl (lv_at hl 3 rfl) ?_
              refine lv_ineg hx hb d_Tp_takeNumber_125 ?_
              refine lv_goto (tgt := 130) hx hb d_Tp_takeNumber_126 (by decide) ?_
              refine zt_size (fun hzs => ?_)
              have hP9 := hP.sub (ws' := [(aT, .inr (2, [.ref aB, .int (nI u), .int (nI en), .int (nI h_16), .int (nI h), .int w, .int wa])), (aB, .inl (kB, 65536, .inl B))]) [0, 1] rfl
              have hD9 := hD.sub (ws' := [(aT, .inr (2, [.ref aB, .int (nI u), .int (nI en), .int (nI h_16), .int (nI h), .int w, .int wa])), (aB, .inl (kB, 65536, .inl B))]) [0, 1] (by decide) rfl
              refine W.widen (k := 1) (n := 6) (by decide) (by decide) ?_
              exact vx_ret (W.iret (v := -v) hx hb hr (fun t ht hW => ⟨⟨-v, (h_16, nI h), rfl, ⟨by unfold zNum; rw [← hf, ← hd, zD_no (fun z => z.2.1 c_13), if_neg c_14, if_pos hm, hw_17], rfl⟩, by rw [ht]; exact hP9, hD9, by rw [ht]; exact hzs⟩, hS.F ht⟩) hS.2.2 d_Tp_takeNumber_130)
          ·
            refine lv_iload_n hx hb d_Tp_takeNumber_120 rfl (lv_at hl 1 rfl) ?_
            refine lv_if_eq (tgt := 129) hx hb d_Tp_takeNumber_121 (by decide) (fun c_19 => ?_) (fun c_19 => ?_)
            ·
              refine lv_iload_n hx hb d_Tp_takeNumber_129 rfl (lv_at hl 3 rfl) ?_
              refine zt_size (fun hzs => ?_)
              have hP9 := hP.sub (ws' := [(aT, .inr (2, [.ref aB, .int (nI u), .int (nI en), .int (nI h_16), .int (nI h), .int w, .int wa])), (aB, .inl (kB, 65536, .inl B))]) [0, 1] rfl
              have hD9 := hD.sub (ws' := [(aT, .inr (2, [.ref aB, .int (nI u), .int (nI en), .int (nI h_16), .int (nI h), .int w, .int wa])), (aB, .inl (kB, 65536, .inl B))]) [0, 1] (by decide) rfl
              refine W.widen (k := 1) (n := 6) (by decide) (by decide) ?_
              exact vx_ret (W.iret (v := v) hx hb hr (fun t ht hW => ⟨⟨v, (h_16, nI h), rfl, ⟨by unfold zNum; rw [← hf, ← hd, zD_no (fun z => z.2.1 c_13), if_neg c_14, if_neg hm, hw_17], rfl⟩, by rw [ht]; exact hP9, hD9, by rw [ht]; exact hzs⟩, hS.F ht⟩) hS.2.2 d_Tp_takeNumber_130)
            ·
              exact absurd (by decide) c_19
        ·
          have c_14 : i = f := (@nI_eq i f (by omega) (by omega)).mp c_14
          refine lv_aload_n hx hb d_Tp_takeNumber_97 rfl (lv_at hl 0 rfl) ?_
          refine lv_iconst (v := 1) hx hb d_Tp_takeNumber_98 (by decide) ?_
          refine lv_aload_n hx hb d_Tp_takeNumber_99 rfl (lv_at hl 0 rfl) ?_
          refine va_get (D := (dC, dI)) (ci := 2) (v := .int (nI h)) (C := R_Tp) (T := F_Tp) (N := 7) hx hb hz i_Tp hown hK hP 0 rfl rfl 3 (by decide) (hz _ tw_39) (fun _ h9 => h9) rfl d_Tp_takeNumber_100 ?_
          have hPc := hP.sub (ws' := [(aT, .inr (2, [.ref aB, .int (nI u), .int (nI en), .int (nI h), .int na, .int w, .int wa])), (aB, .inl (kB, 65536, .inl B))]) [0, 1] rfl
          have hDc := hD.sub (ws' := [(aT, .inr (2, [.ref aB, .int (nI u), .int (nI en), .int (nI h), .int na, .int w, .int wa])), (aB, .inl (kB, 65536, .inl B))]) [0, 1] (by decide) rfl
          have hKc := hK.sub (tys' := [(kB, .byte)]) [0] rfl
          have hFc := va_free (wc := [(aT, .inr (2, [.ref aB, .int (nI u), .int (nI en), .int (nI h), .int na, .int w, .int wa])), (aB, .inl (kB, 65536, .inl B))]) hD hS hA [0, 1] rfl
          refine zt_size (fun hzs => ?_)
          refine vx_callv (vx_runV (As := [.int 1, .int (nI h)]) (rest := []) ⟨hx, hb, hml, hown, hts⟩ (c_Tp_refuse l hst G dC dI H.size aT aB u en h na w wa kB B 1 (nI h)) (cwV 2 hts (gV tw_222 tw_223 tw_224 tw_3 tw_225 rfl) rfl rfl rfl (by decide +kernel) ⟨Nat.le_of_ble_eq_true rfl, Nat.le_of_ble_eq_true rfl⟩) (PW_preV hPc hKc hDc hE hS hFc (ci := 2) (q0 := 0) rfl rfl) rfl rfl hl.1 rfl (lv_room (Nat.le_of_ble_eq_true rfl)) d_Tp_takeNumber_103 ⟨Nat.le_of_ble_eq_true rfl, Nat.le_of_ble_eq_true rfl⟩) hS (fun q _ h => hFc q h) hFc (fun q _ h => hFc q h) (fun E9 ce9 q9 uu t H1 locs ht hvm hx_24 hB hz1 hk1 hS hce hcv hcl => ?_) (fun uu t H1 locs ht hvm hw_21 hB hz1 hk1 hS => ?_)
          ·
            obtain ⟨w_22, wa_23⟩ := uu
            obtain ⟨hEn, hP1, hD1⟩ := hB
            rw [ht] at hP1
            obtain ⟨hP, hD⟩ := va_join (wr := []) (w1 := [(aT, .inr (2, [.ref aB, .int (nI u), .int (nI en), .int (nI h), .int na, .int w_22, .int wa_23])), (aB, .inl (kB, 65536, .inl B))]) hP hD [0, 1] [] rfl rfl (by decide) (by decide) hk1 hFc hP1 hD1
            generalize H1 = H at hP hS hce ⊢
            have hP : va_P (dC, dI) vwCl [(aT, .inr (2, [.ref aB, .int (nI u), .int (nI en), .int (nI h), .int na, .int w_22, .int wa_23])), (aB, .inl (kB, 65536, .inl B))] H := hP
            have hD : va_D A [(aT, .inr (2, [.ref aB, .int (nI u), .int (nI en), .int (nI h), .int na, .int w_22, .int wa_23])), (aB, .inl (kB, 65536, .inl B))] := hD
            obtain ⟨rfl, rfl⟩ := hx_24
            have hP9 := hP.sub (ws' := [(aT, .inr (2, [.ref aB, .int (nI u), .int (nI en), .int (nI h), .int na, .int 1, .int (nI h)])), (aB, .inl (kB, 65536, .inl B))]) [0, 1] rfl
            have hD9 := hD.sub (ws' := [(aT, .inr (2, [.ref aB, .int (nI u), .int (nI en), .int (nI h), .int na, .int 1, .int (nI h)])), (aB, .inl (kB, 65536, .inl B))]) [0, 1] (by decide) rfl
            exact vx_out (fun x hx => (htab x hx).elim) hlocks hce hcv hcl (fun t ht hvm => ⟨(1, h, h, na), by unfold zNum; rw [← hf, ← hd, zD_no (fun z => z.2.1 c_13), if_pos c_14], ⟨hEn, by rw [ht]; exact hP9, hD9⟩, hS.F ht⟩) hS.2.2 (by decide) (by decide)
          · exact (hw_21 : False).elim
      ·
        refine lv_aload_n hx hb d_Tp_takeNumber_51 rfl (lv_at hl 0 rfl) ?_
        refine va_get (D := (dC, dI)) (ci := 2) (v := .ref aB) (C := R_Tp) (T := F_Tp) (N := 7) hx hb hz i_Tp hown hK hP 0 rfl rfl 0 (by decide) (hz _ tw_35) (fun _ h9 => h9) rfl d_Tp_takeNumber_52 ?_
        refine lv_iload hx hb d_Tp_takeNumber_55 (lv_at hl 4 rfl) ?_
        refine va_bald (D := (dC, dI)) (i := nI i) hx hb hK hP 1 0 rfl rfl (vp_in_nI (by omega) (by decide)) d_Tp_takeNumber_57 ?_
        refine zt_top (by rw [nI_clamp (by omega)]) ?_
        refine lv_bipush (v := 57) hx hb d_Tp_takeNumber_58 (by decide) ?_
        refine lv_icmp_gt (tgt := 91) hx hb d_Tp_takeNumber_60 (by decide) (fun c_25 => ?_) (fun c_25 => ?_)
        ·
          refine lv_iload hx hb d_Tp_takeNumber_91 (lv_at hl 4 rfl) ?_
          refine lv_iload_n hx hb d_Tp_takeNumber_93 rfl (lv_at hl 2 rfl) ?_
          refine lv_icmp_ne (tgt := 106) hx hb d_Tp_takeNumber_94 (by decide) (fun c_26 => ?_) (fun c_26 => ?_)
          ·
            have c_26 : ¬ (i = f) := fun z => c_26 ((@nI_eq i f (by omega) (by omega)).mpr z)
            refine lv_aload_n hx hb d_Tp_takeNumber_106 rfl (lv_at hl 0 rfl) ?_
            refine lv_aload_n hx hb d_Tp_takeNumber_107 rfl (lv_at hl 0 rfl) ?_
            refine va_get (D := (dC, dI)) (ci := 2) (v := .int (nI h)) (C := R_Tp) (T := F_Tp) (N := 7) hx hb hz i_Tp hown hK hP 0 rfl rfl 3 (by decide) (hz _ tw_39) (fun _ h9 => h9) rfl d_Tp_takeNumber_108 ?_
            refine va_put (D := (dC, dI)) (ci := 2) (v := .int (nI h)) (ty := .int) (C := R_Tp) (T := F_Tp) (N := 7) hx hb hz i_Tp t_Tp t_Tp_ok n_Tp hown hK hP hD hS 0 rfl rfl 4 (by decide) (hz _ tw_41) (fun _ h9 => h9) rfl (by decide +kernel) rfl rfl (Nat.le_of_ble_eq_true rfl) d_Tp_takeNumber_111 (fun H locs hP hD hS => ?_)
            have hP : va_P (dC, dI) vwCl [(aT, .inr (2, [.ref aB, .int (nI u), .int (nI en), .int (nI h), .int (nI h), .int w, .int wa])), (aB, .inl (kB, 65536, .inl B))] H := hP
            have hD : va_D A [(aT, .inr (2, [.ref aB, .int (nI u), .int (nI en), .int (nI h), .int (nI h), .int w, .int wa])), (aB, .inl (kB, 65536, .inl B))] := hD
            refine lv_aload_n hx hb d_Tp_takeNumber_114 rfl (lv_at hl 0 rfl) ?_
            refine lv_iload hx hb d_Tp_takeNumber_115 (lv_at hl 4 rfl) ?_
            have hPc := hP.sub (ws' := [(aT, .inr (2, [.ref aB, .int (nI u), .int (nI en), .int (nI h), .int (nI h), .int w, .int wa])), (aB, .inl (kB, 65536, .inl B))]) [0, 1] rfl
            have hDc := hD.sub (ws' := [(aT, .inr (2, [.ref aB, .int (nI u), .int (nI en), .int (nI h), .int (nI h), .int w, .int wa])), (aB, .inl (kB, 65536, .inl B))]) [0, 1] (by decide) rfl
            have hKc := hK.sub (tys' := [(kB, .byte)]) [0] rfl
            have hFc := va_free (wc := [(aT, .inr (2, [.ref aB, .int (nI u), .int (nI en), .int (nI h), .int (nI h), .int w, .int wa])), (aB, .inl (kB, 65536, .inl B))]) hD hS hA [0, 1] rfl
            refine va_callv (va_runV (As := [.int (nI i)]) (rest := []) ⟨hx, hb, hml, hown, hts⟩ (c_Tp_goOnFrom l G dC dI H.size aT aB u en h (nI h) w wa kB B i (by omega) (by omega)) (cwV 1 hts (gV tw_209 tw_211 ts_5 tw_3 tw_212 rfl) rfl rfl rfl (by decide +kernel) ⟨Nat.le_of_ble_eq_true rfl, Nat.le_of_ble_eq_true rfl⟩) (PW_preV hPc hKc hDc hE hS hFc (ci := 2) (q0 := 0) rfl rfl) rfl rfl hl.1 rfl (lv_room (Nat.le_of_ble_eq_true rfl)) d_Tp_takeNumber_117 ⟨Nat.le_of_ble_eq_true rfl, Nat.le_of_ble_eq_true rfl⟩) hS (fun q _ h => hFc q h) hFc (fun uu t H1 locs ht hvm hw_29 hB hz1 hk1 hS => ?_)
            obtain ⟨h_28, rfl⟩ : ∃ z, z = uu := ⟨_, rfl⟩
            obtain ⟨hP1, hD1, hsz1⟩ := hB
            rw [ht] at hP1 hsz1
            obtain ⟨hP, hD⟩ := va_join (wr := []) (w1 := [(aT, .inr (2, [.ref aB, .int (nI u), .int (nI en), .int (nI h_28), .int (nI h), .int w, .int wa])), (aB, .inl (kB, 65536, .inl B))]) hP hD [0, 1] [] rfl rfl (by decide) (by decide) hk1 hFc hP1 hD1
            generalize H1 = H at hP hS ⊢
            have hP : va_P (dC, dI) vwCl [(aT, .inr (2, [.ref aB, .int (nI u), .int (nI en), .int (nI h_28), .int (nI h), .int w, .int wa])), (aB, .inl (kB, 65536, .inl B))] H := hP
            have hD : va_D A [(aT, .inr (2, [.ref aB, .int (nI u), .int (nI en), .int (nI h_28), .int (nI h), .int w, .int wa])), (aB, .inl (kB, 65536, .inl B))] := hD
            rcases hmi with ⟨rfl, hm⟩ | ⟨rfl, hm⟩
            ·
              refine lv_iload_n hx hb d_Tp_takeNumber_120 rfl (lv_at hl 1 rfl) ?_
              refine lv_if_eq (tgt := 129) hx hb d_Tp_takeNumber_121 (by decide) (fun c_30 => ?_) (fun c_30 => ?_)
              ·
                exact absurd c_30 (by decide)
              ·
                refine lv_iload_n hx hb d_Tp_takeNumber_124 rfl (lv_at hl 3 rfl) ?_
                refine lv_ineg hx hb d_Tp_takeNumber_125 ?_
                refine lv_goto (tgt := 130) hx hb d_Tp_takeNumber_126 (by decide) ?_
                refine zt_size (fun hzs => ?_)
                have hP9 := hP.sub (ws' := [(aT, .inr (2, [.ref aB, .int (nI u), .int (nI en), .int (nI h_28), .int (nI h), .int w, .int wa])), (aB, .inl (kB, 65536, .inl B))]) [0, 1] rfl
                have hD9 := hD.sub (ws' := [(aT, .inr (2, [.ref aB, .int (nI u), .int (nI en), .int (nI h_28), .int (nI h), .int w, .int wa])), (aB, .inl (kB, 65536, .inl B))]) [0, 1] (by decide) rfl
                refine W.widen (k := 1) (n := 6) (by decide) (by decide) ?_
                exact vx_ret (W.iret (v := -v) hx hb hr (fun t ht hW => ⟨⟨-v, (h_28, nI h), rfl, ⟨by unfold zNum; rw [← hf, ← hd, zD_no (fun z => z.2.2 c_25), if_neg c_26, if_pos hm, hw_29], rfl⟩, by rw [ht]; exact hP9, hD9, by rw [ht]; exact hzs⟩, hS.F ht⟩) hS.2.2 d_Tp_takeNumber_130)
            ·
              refine lv_iload_n hx hb d_Tp_takeNumber_120 rfl (lv_at hl 1 rfl) ?_
              refine lv_if_eq (tgt := 129) hx hb d_Tp_takeNumber_121 (by decide) (fun c_31 => ?_) (fun c_31 => ?_)
              ·
                refine lv_iload_n hx hb d_Tp_takeNumber_129 rfl (lv_at hl 3 rfl) ?_
                refine zt_size (fun hzs => ?_)
                have hP9 := hP.sub (ws' := [(aT, .inr (2, [.ref aB, .int (nI u), .int (nI en), .int (nI h_28), .int (nI h), .int w, .int wa])), (aB, .inl (kB, 65536, .inl B))]) [0, 1] rfl
                have hD9 := hD.sub (ws' := [(aT, .inr (2, [.ref aB, .int (nI u), .int (nI en), .int (nI h_28), .int (nI h), .int w, .int wa])), (aB, .inl (kB, 65536, .inl B))]) [0, 1] (by decide) rfl
                refine W.widen (k := 1) (n := 6) (by decide) (by decide) ?_
                exact vx_ret (W.iret (v := v) hx hb hr (fun t ht hW => ⟨⟨v, (h_28, nI h), rfl, ⟨by unfold zNum; rw [← hf, ← hd, zD_no (fun z => z.2.2 c_25), if_neg c_26, if_neg hm, hw_29], rfl⟩, by rw [ht]; exact hP9, hD9, by rw [ht]; exact hzs⟩, hS.F ht⟩) hS.2.2 d_Tp_takeNumber_130)
              ·
                exact absurd (by decide) c_31
          ·
            have c_26 : i = f := (@nI_eq i f (by omega) (by omega)).mp c_26
            refine lv_aload_n hx hb d_Tp_takeNumber_97 rfl (lv_at hl 0 rfl) ?_
            refine lv_iconst (v := 1) hx hb d_Tp_takeNumber_98 (by decide) ?_
            refine lv_aload_n hx hb d_Tp_takeNumber_99 rfl (lv_at hl 0 rfl) ?_
            refine va_get (D := (dC, dI)) (ci := 2) (v := .int (nI h)) (C := R_Tp) (T := F_Tp) (N := 7) hx hb hz i_Tp hown hK hP 0 rfl rfl 3 (by decide) (hz _ tw_39) (fun _ h9 => h9) rfl d_Tp_takeNumber_100 ?_
            have hPc := hP.sub (ws' := [(aT, .inr (2, [.ref aB, .int (nI u), .int (nI en), .int (nI h), .int na, .int w, .int wa])), (aB, .inl (kB, 65536, .inl B))]) [0, 1] rfl
            have hDc := hD.sub (ws' := [(aT, .inr (2, [.ref aB, .int (nI u), .int (nI en), .int (nI h), .int na, .int w, .int wa])), (aB, .inl (kB, 65536, .inl B))]) [0, 1] (by decide) rfl
            have hKc := hK.sub (tys' := [(kB, .byte)]) [0] rfl
            have hFc := va_free (wc := [(aT, .inr (2, [.ref aB, .int (nI u), .int (nI en), .int (nI h), .int na, .int w, .int wa])), (aB, .inl (kB, 65536, .inl B))]) hD hS hA [0, 1] rfl
            refine zt_size (fun hzs => ?_)
            refine vx_callv (vx_runV (As := [.int 1, .int (nI h)]) (rest := []) ⟨hx, hb, hml, hown, hts⟩ (c_Tp_refuse l hst G dC dI H.size aT aB u en h na w wa kB B 1 (nI h)) (cwV 2 hts (gV tw_222 tw_223 tw_224 tw_3 tw_225 rfl) rfl rfl rfl (by decide +kernel) ⟨Nat.le_of_ble_eq_true rfl, Nat.le_of_ble_eq_true rfl⟩) (PW_preV hPc hKc hDc hE hS hFc (ci := 2) (q0 := 0) rfl rfl) rfl rfl hl.1 rfl (lv_room (Nat.le_of_ble_eq_true rfl)) d_Tp_takeNumber_103 ⟨Nat.le_of_ble_eq_true rfl, Nat.le_of_ble_eq_true rfl⟩) hS (fun q _ h => hFc q h) hFc (fun q _ h => hFc q h) (fun E9 ce9 q9 uu t H1 locs ht hvm hx_36 hB hz1 hk1 hS hce hcv hcl => ?_) (fun uu t H1 locs ht hvm hw_33 hB hz1 hk1 hS => ?_)
            ·
              obtain ⟨w_34, wa_35⟩ := uu
              obtain ⟨hEn, hP1, hD1⟩ := hB
              rw [ht] at hP1
              obtain ⟨hP, hD⟩ := va_join (wr := []) (w1 := [(aT, .inr (2, [.ref aB, .int (nI u), .int (nI en), .int (nI h), .int na, .int w_34, .int wa_35])), (aB, .inl (kB, 65536, .inl B))]) hP hD [0, 1] [] rfl rfl (by decide) (by decide) hk1 hFc hP1 hD1
              generalize H1 = H at hP hS hce ⊢
              have hP : va_P (dC, dI) vwCl [(aT, .inr (2, [.ref aB, .int (nI u), .int (nI en), .int (nI h), .int na, .int w_34, .int wa_35])), (aB, .inl (kB, 65536, .inl B))] H := hP
              have hD : va_D A [(aT, .inr (2, [.ref aB, .int (nI u), .int (nI en), .int (nI h), .int na, .int w_34, .int wa_35])), (aB, .inl (kB, 65536, .inl B))] := hD
              obtain ⟨rfl, rfl⟩ := hx_36
              have hP9 := hP.sub (ws' := [(aT, .inr (2, [.ref aB, .int (nI u), .int (nI en), .int (nI h), .int na, .int 1, .int (nI h)])), (aB, .inl (kB, 65536, .inl B))]) [0, 1] rfl
              have hD9 := hD.sub (ws' := [(aT, .inr (2, [.ref aB, .int (nI u), .int (nI en), .int (nI h), .int na, .int 1, .int (nI h)])), (aB, .inl (kB, 65536, .inl B))]) [0, 1] (by decide) rfl
              exact vx_out (fun x hx => (htab x hx).elim) hlocks hce hcv hcl (fun t ht hvm => ⟨(1, h, h, na), by unfold zNum; rw [← hf, ← hd, zD_no (fun z => z.2.2 c_25), if_pos c_26], ⟨hEn, by rw [ht]; exact hP9, hD9⟩, hS.F ht⟩) hS.2.2 (by decide) (by decide)
            · exact (hw_33 : False).elim
        ·
          refine lv_iload_n hx hb d_Tp_takeNumber_63 rfl (lv_at hl 3 rfl) ?_
          refine lv_ldc (v := 100000000) hx hb hown (hz _ tw_374) d_Tp_takeNumber_64 ?_
          refine lv_icmp_ge (tgt := 85) hx hb d_Tp_takeNumber_66 (by decide) (fun c_37 => ?_) (fun c_37 => ?_)
          ·
            refine lv_iinc (v := nI (i + 1)) (lv' := [(4, .int (nI (i + 1))), (0, .ref aT), (1, .int mi), (2, .int (nI f)), (3, .int v)]) hx hb d_Tp_takeNumber_85 hl (k := 4) rfl (nI_add i 1) (by decide) rfl (fun ls hl => ?_)
            refine lv_goto (tgt := 30) hx hb d_Tp_takeNumber_88 (by decide) ?_
            exact ih mi f (i + 1) v hmi hf (by omega) (by omega) (by omega) (by rw [← hd, zD_go (by omega) c_13 c_25, if_neg (Int32.not_lt.mpr c_37)]) _ _ (hP.sub [0, 1] rfl) (hD.sub [0, 1] (by decide) rfl) hS ls (lv_sub hl [1, 2, 3, 4, 0] rfl)
          ·
            refine lv_iload_n hx hb d_Tp_takeNumber_69 rfl (lv_at hl 3 rfl) ?_
            refine lv_bipush (v := 10) hx hb d_Tp_takeNumber_70 (by decide) ?_
            refine lv_imul hx hb d_Tp_takeNumber_72 ?_
            refine lv_aload_n hx hb d_Tp_takeNumber_73 rfl (lv_at hl 0 rfl) ?_
            refine va_get (D := (dC, dI)) (ci := 2) (v := .ref aB) (C := R_Tp) (T := F_Tp) (N := 7) hx hb hz i_Tp hown hK hP 0 rfl rfl 0 (by decide) (hz _ tw_35) (fun _ h9 => h9) rfl d_Tp_takeNumber_74 ?_
            refine lv_iload hx hb d_Tp_takeNumber_77 (lv_at hl 4 rfl) ?_
            refine va_bald (D := (dC, dI)) (i := nI i) hx hb hK hP 1 0 rfl rfl (vp_in_nI (by omega) (by decide)) d_Tp_takeNumber_79 ?_
            refine zt_top (by rw [nI_clamp (by omega)]) ?_
            refine lv_bipush (v := 48) hx hb d_Tp_takeNumber_80 (by decide) ?_
            refine lv_isub hx hb d_Tp_takeNumber_82 ?_
            refine lv_iadd hx hb d_Tp_takeNumber_83 ?_
            refine lv_istore_n (lv' := [(3, .int ((v * 10) + ((B i) - 48))), (0, .ref aT), (1, .int mi), (2, .int (nI f)), (4, .int (nI i))]) hx hb d_Tp_takeNumber_84 rfl hl (by decide) rfl (fun ls hl => ?_)
            refine lv_iinc (v := nI (i + 1)) (lv' := [(4, .int (nI (i + 1))), (3, .int ((v * 10) + ((B i) - 48))), (0, .ref aT), (1, .int mi), (2, .int (nI f))]) hx hb d_Tp_takeNumber_85 hl (k := 4) rfl (nI_add i 1) (by decide) rfl (fun ls hl => ?_)
            refine lv_goto (tgt := 30) hx hb d_Tp_takeNumber_88 (by decide) ?_
            exact ih mi f (i + 1) ((v * 10) + ((B i) - 48)) hmi hf (by omega) (by omega) (by omega) (by rw [← hd, zD_go (by omega) c_13 c_25, if_pos (Int32.not_le.mp c_37)]) _ _ (hP.sub [0, 1] rfl) (hD.sub [0, 1] (by decide) rfl) hS ls (lv_sub hl [2, 3, 4, 1, 0] rfl)
set_option maxHeartbeats 4000000 in
set_option maxRecDepth 100000 in
theorem c_Tp_takeNumber (l : Launch) (hst : l.stackTraces = false) (G : ZG) (dC : Nat → ClassId) (dI : Nat → Nat → Nat) (sz : Nat) (aT : Nat) (aB : Nat) (u : Nat) (en : Nat) (h : Nat) (na : Int32) (w : Int32) (wa : Int32) (kB : ClassId) (B : Nat → Int32) (hen : en ≤ 65536) (hh : h ≤ en) : vx_Met l y_Tp_takeNumber w_Tp_takeNumber ({ frames := 7, cells := 1, slots := 6, locals := 104 }) (va_Pc [.ref aT] (PW G (dC, dI) [(kB, .byte)] [(aT, .inr (2, [.ref aB, .int (nI u), .int (nI en), .int (nI h), .int na, .int w, .int wa])), (aB, .inl (kB, 65536, .inl B))] sz)) (va_Qi (fun (r : Int32) (uu : Nat × Int32) => zNum B en h = .ok (r, uu.1) ∧ uu.2 = nI h) (fun (uu : Nat × Int32) t => BW (dC, dI) [(aT, .inr (2, [.ref aB, .int (nI u), .int (nI en), .int (nI uu.1), .int uu.2, .int w, .int wa])), (aB, .inl (kB, 65536, .inl B))] (va_A [(aT, .inr (2, [.ref aB, .int (nI u), .int (nI en), .int (nI h), .int na, .int w, .int wa])), (aB, .inl (kB, 65536, .inl B))] sz) sz t) (va_A [(aT, .inr (2, [.ref aB, .int (nI u), .int (nI en), .int (nI h), .int na, .int w, .int wa])), (aB, .inl (kB, 65536, .inl B))] sz)) (vx_X (fun (uu : Int32 × Nat × Nat × Int32) => zNum B en h = .error (uu.1, uu.2.1)) (fun E (uu : Int32 × Nat × Nat × Int32) t => E = "java/lang/IllegalArgumentException" ∧ va_P (dC, dI) vwCl [(aT, .inr (2, [.ref aB, .int (nI u), .int (nI en), .int (nI uu.2.2.1), .int uu.2.2.2, .int uu.1, .int (nI uu.2.1)])), (aB, .inl (kB, 65536, .inl B))] t.heap ∧ va_D (va_A [(aT, .inr (2, [.ref aB, .int (nI u), .int (nI en), .int (nI h), .int na, .int w, .int wa])), (aB, .inl (kB, 65536, .inl B))] sz) [(aT, .inr (2, [.ref aB, .int (nI u), .int (nI en), .int (nI uu.2.2.1), .int uu.2.2.2, .int uu.1, .int (nI uu.2.1)])), (aB, .inl (kB, 65536, .inl B))]) (va_A [(aT, .inr (2, [.ref aB, .int (nI u), .int (nI en), .int (nI h), .int na, .int w, .int wa])), (aB, .inl (kB, 65536, .inl B))] sz)) 1 6 (va_A [(aT, .inr (2, [.ref aB, .int (nI u), .int (nI en), .int (nI h), .int na, .int w, .int wa])), (aB, .inl (kB, 65536, .inl B))] sz) := by
  refine vx_ofW (cc := prog_4_method_12_code) (maxL := 5) (ret := (some .int)) (by decide) rfl ?_
  intro p e s m args below meth c s₁ Bd hml htab hv
  obtain ⟨rfl, hsz, hP, hK, hD0, hE⟩ := hv
  have hx := Bd.exec
  have hb := Bd.bytes
  have hr := Bd.returns
  have hts := atoms_spec (ws := w_Tp_takeNumber) Bd.pre
  have hown : s.vm.findClass R_Tp = some m.cls := findClass_of_methodNamed Bd.named
  have hlocks := Bd.notSynchronized
  have hz : ∀ w ∈ ZW, w.before _ s = true := fun w h => hts w (List.mem_cons_of_mem _ h)
  subst hsz
  have hD := hD0.self (sz := s.heap.size)
  generalize hAe : va_A [(aT, .inr (2, [.ref aB, .int (nI u), .int (nI en), .int (nI h), .int na, .int w, .int wa])), (aB, .inl (kB, 65536, .inl B))] s.heap.size = A at hD hE ⊢
  have hA : ∀ q : Nat, s.heap.size ≤ q → A q := fun q h => by rw [← hAe]; exact Or.inr h
  have hS : va_S A s.heap s.heap [] := va_S.rf
  have hl := lv_entry ([.ref aT]) (n := 5) (Nat.le_of_ble_eq_true rfl)
  rw [lg_entry_eq]
  generalize (lg_sl ([.ref aT]) ++ List.replicate (5 - (lg_sl ([.ref aT])).length) Slot.unset).toArray = ls at hl ⊢
  have hl : lv_has ls 5 [(0, .ref aT)] := hl
  obtain ⟨H, hH⟩ : ∃ z, z = s.heap := ⟨_, rfl⟩
  have hP : va_P (dC, dI) vwCl [(aT, .inr (2, [.ref aB, .int (nI u), .int (nI en), .int (nI h), .int na, .int w, .int wa])), (aB, .inl (kB, 65536, .inl B))] H := by rw [hH]; exact hP
  have hS : va_S A s.heap H [] := by rw [hH]; exact hS
  refine zt_heap hH ?_
  refine lv_aload_n hx hb d_Tp_takeNumber_0 rfl (lv_at hl 0 rfl) ?_
  refine lv_bipush (v := 45) hx hb d_Tp_takeNumber_1 (by decide) ?_
  have hPc := hP.sub (ws' := [(aT, .inr (2, [.ref aB, .int (nI u), .int (nI en), .int (nI h), .int na, .int w, .int wa])), (aB, .inl (kB, 65536, .inl B))]) [0, 1] rfl
  have hDc := hD.sub (ws' := [(aT, .inr (2, [.ref aB, .int (nI u), .int (nI en), .int (nI h), .int na, .int w, .int wa])), (aB, .inl (kB, 65536, .inl B))]) [0, 1] (by decide) rfl
  have hKc := hK.sub (tys' := [(kB, .byte)]) [0] rfl
  have hFc := va_free (wc := [(aT, .inr (2, [.ref aB, .int (nI u), .int (nI en), .int (nI h), .int na, .int w, .int wa])), (aB, .inl (kB, 65536, .inl B))]) hD hS hA [0, 1] rfl
  refine va_calli (va_runV (As := [.int 45]) (rest := []) ⟨hx, hb, hml, hown, hts⟩ (c_Tp_sees l G dC dI H.size aT aB u en h na w wa kB B 45 (by omega) (by omega)) (cwV 1 hts (gV tw_218 tw_219 tw_220 tw_3 tw_221 rfl) rfl rfl rfl (by decide +kernel) ⟨Nat.le_of_ble_eq_true rfl, Nat.le_of_ble_eq_true rfl⟩) (PW_preV hPc hKc hDc hE hS hFc (ci := 2) (q0 := 0) rfl rfl) rfl rfl hl.1 rfl (lv_room (Nat.le_of_ble_eq_true rfl)) d_Tp_takeNumber_3 ⟨Nat.le_of_ble_eq_true rfl, Nat.le_of_ble_eq_true rfl⟩) hS (fun q _ h => hFc q h) hFc (fun r_1 uu t H1 locs ht hvm hw_2 hB hz1 hk1 hS => ?_)
  obtain ⟨hP1, hD1, hsz1⟩ := hB
  rw [ht] at hP1 hsz1
  obtain ⟨hP, hD⟩ := va_join (wr := []) (w1 := [(aT, .inr (2, [.ref aB, .int (nI u), .int (nI en), .int (nI h), .int na, .int w, .int wa])), (aB, .inl (kB, 65536, .inl B))]) hP hD [0, 1] [] rfl rfl (by decide) (by decide) hk1 hFc hP1 hD1
  generalize H1 = H at hP hS ⊢
  have hP : va_P (dC, dI) vwCl [(aT, .inr (2, [.ref aB, .int (nI u), .int (nI en), .int (nI h), .int na, .int w, .int wa])), (aB, .inl (kB, 65536, .inl B))] H := hP
  have hD : va_D A [(aT, .inr (2, [.ref aB, .int (nI u), .int (nI en), .int (nI h), .int na, .int w, .int wa])), (aB, .inl (kB, 65536, .inl B))] := hD
  by_cases hs_3 : h < en ∧ B h = 45
  ·
    rw [if_pos hs_3] at hw_2; subst hw_2
    refine lv_istore_n (lv' := [(1, .int 1), (0, .ref aT)]) hx hb d_Tp_takeNumber_6 rfl hl (by decide) rfl (fun ls hl => ?_)
    refine lv_iload_n hx hb d_Tp_takeNumber_7 rfl (lv_at hl 0 rfl) ?_
    refine lv_if_eq (tgt := 20) hx hb d_Tp_takeNumber_8 (by decide) (fun c_4 => ?_) (fun c_4 => ?_)
    ·
      exact absurd c_4 (by decide)
    ·
      refine lv_aload_n hx hb d_Tp_takeNumber_11 rfl (lv_at hl 1 rfl) ?_
      refine va_get (D := (dC, dI)) (ci := 2) (v := .int (nI h)) (C := R_Tp) (T := F_Tp) (N := 7) hx hb hz i_Tp hown hK hP 0 rfl rfl 3 (by decide) (hz _ tw_39) (fun _ h9 => h9) rfl d_Tp_takeNumber_12 ?_
      refine lv_iconst (v := 1) hx hb d_Tp_takeNumber_15 (by decide) ?_
      refine lv_iadd hx hb d_Tp_takeNumber_16 ?_
      refine zt_top (nI_add h 1) ?_
      refine lv_goto (tgt := 24) hx hb d_Tp_takeNumber_17 (by decide) ?_
      refine lv_istore_n (lv' := [(2, .int (nI (h + 1))), (1, .int 1), (0, .ref aT)]) hx hb d_Tp_takeNumber_24 rfl hl (by decide) rfl (fun ls hl => ?_)
      refine lv_iconst (v := 0) hx hb d_Tp_takeNumber_25 (by decide) ?_
      refine lv_istore_n (lv' := [(3, .int 0), (2, .int (nI (h + 1))), (1, .int 1), (0, .ref aT)]) hx hb d_Tp_takeNumber_26 rfl hl (by decide) rfl (fun ls hl => ?_)
      refine lv_iload_n hx hb d_Tp_takeNumber_27 rfl (lv_at hl 1 rfl) ?_
      refine lv_istore (lv' := [(4, .int (nI (h + 1))), (3, .int 0), (2, .int (nI (h + 1))), (1, .int 1), (0, .ref aT)]) hx hb d_Tp_takeNumber_28 hl (by decide) rfl (fun ls hl => ?_)
      exact lp_Tp_takeNumber l hst G dC dI aT aB u en h na w wa kB B hen hh ⟨hx, hb, hr, hml, hown, hts, hlocks⟩ hA hK hE htab (en + 1) 1 (h + 1) (h + 1) 0 (Or.inl ⟨rfl, hs_3⟩) (by unfold zFd; rw [if_pos hs_3]) (by omega) (by omega) (by omega) rfl _ _ (hP.sub [0, 1] rfl) (hD.sub [0, 1] (by decide) rfl) hS ls (lv_sub hl [4, 3, 2, 1, 0] rfl)
  ·
    rw [if_neg hs_3] at hw_2; subst hw_2
    refine lv_istore_n (lv' := [(1, .int 0), (0, .ref aT)]) hx hb d_Tp_takeNumber_6 rfl hl (by decide) rfl (fun ls hl => ?_)
    refine lv_iload_n hx hb d_Tp_takeNumber_7 rfl (lv_at hl 0 rfl) ?_
    refine lv_if_eq (tgt := 20) hx hb d_Tp_takeNumber_8 (by decide) (fun c_5 => ?_) (fun c_5 => ?_)
    ·
      refine lv_aload_n hx hb d_Tp_takeNumber_20 rfl (lv_at hl 1 rfl) ?_
      refine va_get (D := (dC, dI)) (ci := 2) (v := .int (nI h)) (C := R_Tp) (T := F_Tp) (N := 7) hx hb hz i_Tp hown hK hP 0 rfl rfl 3 (by decide) (hz _ tw_39) (fun _ h9 => h9) rfl d_Tp_takeNumber_21 ?_
      refine lv_istore_n (lv' := [(2, .int (nI h)), (1, .int 0), (0, .ref aT)]) hx hb d_Tp_takeNumber_24 rfl hl (by decide) rfl (fun ls hl => ?_)
      refine lv_iconst (v := 0) hx hb d_Tp_takeNumber_25 (by decide) ?_
      refine lv_istore_n (lv' := [(3, .int 0), (2, .int (nI h)), (1, .int 0), (0, .ref aT)]) hx hb d_Tp_takeNumber_26 rfl hl (by decide) rfl (fun ls hl => ?_)
      refine lv_iload_n hx hb d_Tp_takeNumber_27 rfl (lv_at hl 1 rfl) ?_
      refine lv_istore (lv' := [(4, .int (nI h)), (3, .int 0), (2, .int (nI h)), (1, .int 0), (0, .ref aT)]) hx hb d_Tp_takeNumber_28 hl (by decide) rfl (fun ls hl => ?_)
      exact lp_Tp_takeNumber l hst G dC dI aT aB u en h na w wa kB B hen hh ⟨hx, hb, hr, hml, hown, hts, hlocks⟩ hA hK hE htab (en + 1) 0 h h 0 (Or.inr ⟨rfl, hs_3⟩) (by unfold zFd; rw [if_neg hs_3]) (by omega) (by omega) (by omega) rfl _ _ (hP.sub [0, 1] rfl) (hD.sub [0, 1] (by decide) rfl) hS ls (lv_sub hl [4, 3, 2, 1, 0] rfl)
    ·
      exact absurd (by decide) c_5
