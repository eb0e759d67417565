set_option maxHeartbeats 8000000 in
set_option maxRecDepth 100000 in
/-- the law's loop: it calls are done, both sides stand alike -/
theorem law_loop {p : Program} {l : Launch} (hst : l.stackTraces = false) {e : Env} {s : State} {m : MethodId} {below : List Frame} {meth : Method} {c : Code} {G : ZG} {dC : Nat → ClassId} {dI : Nat → Nat → Nat} {b L : Nat} {xs : Nat → Int32} (hL : L ≤ 3072) (C0 : lw_At p s m meth c b L xs) (hE : zE G (fun q : Nat => s.heap.size ≤ q) s s.heap) :
    ∀ (n it : Nat) (aX : Nat) (aR : Nat) (aT : Nat) (aB : Nat) (u : Nat) (en : Nat) (h : Nat) (na : Int32) (w : Int32) (wa : Int32) (kB : ClassId) (B : Nat → Int32) (aS : Nat) (aN : Nat) (aC : Nat) (kN : ClassId) (cnt : Nat → Nat) (kC : ClassId) (cel : Nat → Int32) (aS2 : Nat) (aN2 : Nat) (aC2 : Nat) (kN2 : ClassId) (cntb : Nat → Nat) (kC2 : ClassId) (celb : Nat → Int32) (aM : Nat) (th : Int32) (aMT : Nat) (ma : Nat) (enm : Nat) (mv : Int64) (mf : Int32) (ml : Int32) (kMT : ClassId) (aNw : Nat) (kNw : ClassId) (nw : Nat → Int32) (aNx : Nat) (kNx : ClassId) (nx : Nat → Int32) (aLO : Nat) (kLO : ClassId) (vo : Nat → Int64), 6 * it ≤ L → L + 1 ≤ 6 * it + 6 * n → u ≤ 65536 → zGood cntb celb nw → ∀ (H : Heap) (locs : List Loc), va_K (dC, dI) vwCl [(kB, .byte), (kN, .int), (kC, .int), (kN2, .int), (kC2, .int), (kMT, .byte), (kNw, .int), (kNx, .int), (kLO, .long)] s → va_P (dC, dI) vwCl [(aX, .inr (3, [.ref aR, .ref aS2])), (aR, .inr (0, [.ref aT, .ref aS])), (aT, .inr (2, [.ref aB, .int (nI u), .int (nI en), .int (nI h), .int na, .int w, .int wa])), (aB, .inl (kB, 65536, .inl B)), (aS, .inr (1, [.ref aN, .ref aC])), (aN, .inl (kN, 5, .inl (fun j => nI (cnt j)))), (aC, .inl (kC, 52035, .inl cel)), (aS2, .inr (1, [.ref aN2, .ref aC2])), (aN2, .inl (kN2, 5, .inl (fun j => nI (cntb j)))), (aC2, .inl (kC2, 52035, .inl celb)), (aM, .inr (4, [.int th, .ref aMT, .int (nI u), .ref aNw, .ref aNx, .int w, .int wa, .int (nI ma), .int (nI enm), .long mv, .int mf, .int ml])), (aMT, .inl (kMT, 65536, .inl B)), (aNw, .inl (kNw, 52650, .inl nw)), (aNx, .inl (kNx, 52650, .inl nx)), (aLO, .inl (kLO, 1, .inr (.inl vo)))] H → va_D (fun q : Nat => s.heap.size ≤ q) [(aX, .inr (3, [.ref aR, .ref aS2])), (aR, .inr (0, [.ref aT, .ref aS])), (aT, .inr (2, [.ref aB, .int (nI u), .int (nI en), .int (nI h), .int na, .int w, .int wa])), (aB, .inl (kB, 65536, .inl B)), (aS, .inr (1, [.ref aN, .ref aC])), (aN, .inl (kN, 5, .inl (fun j => nI (cnt j)))), (aC, .inl (kC, 52035, .inl cel)), (aS2, .inr (1, [.ref aN2, .ref aC2])), (aN2, .inl (kN2, 5, .inl (fun j => nI (cntb j)))), (aC2, .inl (kC2, 52035, .inl celb)), (aM, .inr (4, [.int th, .ref aMT, .int (nI u), .ref aNw, .ref aNx, .int w, .int wa, .int (nI ma), .int (nI enm), .long mv, .int mf, .int ml])), (aMT, .inl (kMT, 65536, .inl B)), (aNw, .inl (kNw, 52650, .inl nw)), (aNx, .inl (kNx, 52650, .inl nx)), (aLO, .inl (kLO, 1, .inr (.inl vo)))] → va_S (fun q : Nat => s.heap.size ≤ q) s.heap H locs → ∀ (ls : Array Slot), lv_has ls 7 [(0, .ref b), (1, .ref aX), (2, .ref aM), (3, .ref aLO), (4, .int (nI (6 * it)))] → W p l e room_1 s m #[Value.ref b] below meth c H locs (15 + it) (340480 + 6 * it) (lw_Z below #[Value.ref b] s) (F0 m 23 ls []) := by
  obtain ⟨hx, hb, hr, hml, hown, hts0, hX, hbl, hlocks, hgv⟩ := C0
  have hz : ∀ w ∈ ZW, w.before #[Value.ref b] s = true := fun w h => hts0 w (List.mem_filter.mp h).1
  have hts : ∀ w ∈ (Cond.initialized "SceneTextLaw" :: ZW), w.before #[Value.ref b] s = true := fun w h => (List.mem_cons.mp h).elim (fun q9 => by rw [q9]; exact hz _ tw_0) (hz w)
  generalize hAe : (fun q : Nat => s.heap.size ≤ q) = A at hE ⊢
  have hA : ∀ q : Nat, s.heap.size ≤ q → A q := fun q h => by rw [← hAe]; exact h
  have hbA : ¬ A b := by rw [← hAe]; exact Nat.not_le.mpr hbl
  intro n
  induction n with
  | zero => intro it aX aR aT aB u en h na w wa kB B aS aN aC kN cnt kC cel aS2 aN2 aC2 kN2 cntb kC2 celb aM th aMT ma enm mv mf ml kMT aNw kNw nw aNx kNx nx aLO kLO vo h1 h2; exact absurd h2 (by omega)
  | succ n ih =>
    intro it aX aR aT aB u en h na w wa kB B aS aN aC kN cnt kC cel aS2 aN2 aC2 kN2 cntb kC2 celb aM th aMT ma enm mv mf ml kMT aNw kNw nw aNx kNx nx aLO kLO vo hit hn hu hg H locs hK hP hD hS ls hl
    refine lv_iload hx hb d_law_23 (lv_at hl 4 rfl) ?_
    refine lv_aload_n hx hb d_law_25 rfl (lv_at hl 0 rfl) ?_
    refine va_slen hx hb hX hbl hbA hS d_law_26 ?_
    refine zt_top (y := nI L) rfl ?_
    refine lv_bipush (v := 6) hx hb d_law_27 (by decide) ?_
    refine lv_isub hx hb d_law_29 ?_
    refine lv_icmp_gt (tgt := 438) hx hb d_law_30 (by decide) (fun c_1 => ?_) (fun c_1 => ?_)
    ·
      refine lv_iconst (v := 1) hx hb d_law_438 (by decide) ?_
      refine va_forget (fun q hq => by have z9 := hS.2.2 q hq; rw [← hAe] at z9; exact z9) ?_
      refine W.widen (k := 601024) (n := 7293034) (by omega) (by omega) ?_
      exact lw_ret hx hb hr hlocks d_law_439
    ·
      have hlt : 6 * it + 6 ≤ L := zlaw_lt hL (by omega) c_1
      refine lv_aload_n hx hb d_law_33 rfl (lv_at hl 0 rfl) ?_
      refine lv_iload hx hb d_law_34 (lv_at hl 4 rfl) ?_
      refine va_sld (i := nI (6 * it)) hx hb hX hbl hbA hS (vp_in_nI (by omega) (by omega)) d_law_36 ?_
      refine zt_top (by rw [nI_clamp (by omega)]) ?_
      refine lv_bipush (v := 15) hx hb d_law_37 (by decide) ?_
      refine lv_iand hx hb d_law_39 ?_
      generalize hsel : (xs (6 * it)) &&& 15 = sel
      by_cases hv_2 : sel = 0
      ·
        subst hv_2
        refine lv_tableIn (off := 52) (tgt := 92) hx hb d_law_40 (by decide) (by decide) (by decide) (by decide) ?_
        refine lv_aload_n hx hb d_law_92 rfl (lv_at hl 1 rfl) ?_
        refine lv_aload_n hx hb d_law_93 rfl (lv_at hl 0 rfl) ?_
        refine lv_iload hx hb d_law_94 (lv_at hl 4 rfl) ?_
        refine lv_iconst (v := 1) hx hb d_law_96 (by decide) ?_
        refine lv_iadd hx hb d_law_97 ?_
        refine zt_top (nI_add (6 * it) 1) ?_
        refine va_sld (i := nI ((6 * it) + 1)) hx hb hX hbl hbA hS (vp_in_nI (by omega) (by omega)) d_law_98 ?_
        refine zt_top (by rw [nI_clamp (by omega)]) ?_
        refine lv_aload_n hx hb d_law_99 rfl (lv_at hl 0 rfl) ?_
        refine lv_iload hx hb d_law_100 (lv_at hl 4 rfl) ?_
        refine lv_iconst (v := 2) hx hb d_law_102 (by decide) ?_
        refine lv_iadd hx hb d_law_103 ?_
        refine zt_top (nI_add (6 * it) 2) ?_
        refine va_sld (i := nI ((6 * it) + 2)) hx hb hX hbl hbA hS (vp_in_nI (by omega) (by omega)) d_law_104 ?_
        refine zt_top (by rw [nI_clamp (by omega)]) ?_
        refine lv_aload_n hx hb d_law_105 rfl (lv_at hl 0 rfl) ?_
        refine lv_iload hx hb d_law_106 (lv_at hl 4 rfl) ?_
        refine lv_iconst (v := 3) hx hb d_law_108 (by decide) ?_
        refine lv_iadd hx hb d_law_109 ?_
        refine zt_top (nI_add (6 * it) 3) ?_
        refine va_sld (i := nI ((6 * it) + 3)) hx hb hX hbl hbA hS (vp_in_nI (by omega) (by omega)) d_law_110 ?_
        refine zt_top (by rw [nI_clamp (by omega)]) ?_
        refine lv_aload_n hx hb d_law_111 rfl (lv_at hl 0 rfl) ?_
        refine lv_iload hx hb d_law_112 (lv_at hl 4 rfl) ?_
        refine lv_iconst (v := 4) hx hb d_law_114 (by decide) ?_
        refine lv_iadd hx hb d_law_115 ?_
        refine zt_top (nI_add (6 * it) 4) ?_
        refine va_sld (i := nI ((6 * it) + 4)) hx hb hX hbl hbA hS (vp_in_nI (by omega) (by omega)) d_law_116 ?_
        refine zt_top (by rw [nI_clamp (by omega)]) ?_
        refine lv_aload_n hx hb d_law_117 rfl (lv_at hl 0 rfl) ?_
        refine lv_iload hx hb d_law_118 (lv_at hl 4 rfl) ?_
        refine lv_iconst (v := 5) hx hb d_law_120 (by decide) ?_
        refine lv_iadd hx hb d_law_121 ?_
        refine zt_top (nI_add (6 * it) 5) ?_
        refine va_sld (i := nI ((6 * it) + 5)) hx hb hX hbl hbA hS (vp_in_nI (by omega) (by omega)) d_law_122 ?_
        refine zt_top (by rw [nI_clamp (by omega)]) ?_
        have hPc := hP.sub (ws' := [(aX, .inr (3, [.ref aR, .ref aS2])), (aR, .inr (0, [.ref aT, .ref aS])), (aT, .inr (2, [.ref aB, .int (nI u), .int (nI en), .int (nI h), .int na, .int w, .int wa])), (aB, .inl (kB, 65536, .inl B)), (aS, .inr (1, [.ref aN, .ref aC])), (aN, .inl (kN, 5, .inl (fun j => nI (cnt j)))), (aC, .inl (kC, 52035, .inl cel)), (aS2, .inr (1, [.ref aN2, .ref aC2])), (aN2, .inl (kN2, 5, .inl (fun j => nI (cntb j)))), (aC2, .inl (kC2, 52035, .inl celb))]) [0, 1, 2, 3, 4, 5, 6, 7, 8, 9] rfl
        have hDc := hD.sub (ws' := [(aX, .inr (3, [.ref aR, .ref aS2])), (aR, .inr (0, [.ref aT, .ref aS])), (aT, .inr (2, [.ref aB, .int (nI u), .int (nI en), .int (nI h), .int na, .int w, .int wa])), (aB, .inl (kB, 65536, .inl B)), (aS, .inr (1, [.ref aN, .ref aC])), (aN, .inl (kN, 5, .inl (fun j => nI (cnt j)))), (aC, .inl (kC, 52035, .inl cel)), (aS2, .inr (1, [.ref aN2, .ref aC2])), (aN2, .inl (kN2, 5, .inl (fun j => nI (cntb j)))), (aC2, .inl (kC2, 52035, .inl celb))]) [0, 1, 2, 3, 4, 5, 6, 7, 8, 9] (by decide) rfl
        have hKc := hK.sub (tys' := [(kB, .byte), (kN, .int), (kC, .int), (kN2, .int), (kC2, .int)]) [0, 1, 2, 3, 4] rfl
        have hFc := va_free (wc := [(aX, .inr (3, [.ref aR, .ref aS2])), (aR, .inr (0, [.ref aT, .ref aS])), (aT, .inr (2, [.ref aB, .int (nI u), .int (nI en), .int (nI h), .int na, .int w, .int wa])), (aB, .inl (kB, 65536, .inl B)), (aS, .inr (1, [.ref aN, .ref aC])), (aN, .inl (kN, 5, .inl (fun j => nI (cnt j)))), (aC, .inl (kC, 52035, .inl cel)), (aS2, .inr (1, [.ref aN2, .ref aC2])), (aN2, .inl (kN2, 5, .inl (fun j => nI (cntb j)))), (aC2, .inl (kC2, 52035, .inl celb))]) hD hS hA [0, 1, 2, 3, 4, 5, 6, 7, 8, 9] rfl
        refine va_calli (va_runV (As := [.int (xs ((6 * it) + 1)), .int (xs ((6 * it) + 2)), .int (xs ((6 * it) + 3)), .int (xs ((6 * it) + 4)), .int (xs ((6 * it) + 5))]) (rest := []) ⟨hx, hb, hml, hown, hts⟩ (c_St_feed l G dC dI H.size aX aR aT aB u en h na w wa kB B aS aN aC kN cnt kC cel aS2 aN2 aC2 kN2 cntb kC2 celb (xs ((6 * it) + 1)) (xs ((6 * it) + 2)) (xs ((6 * it) + 3)) (xs ((6 * it) + 4)) (xs ((6 * it) + 5)) hu) (cwV 5 hts (gV tw_101 tw_102 tw_103 tw_1 tw_104 rfl) rfl rfl rfl (by decide +kernel) ⟨Nat.le_of_ble_eq_true rfl, Nat.le_of_ble_eq_true rfl⟩) (PW_preV hPc hKc hDc hE hS hFc (ci := 3) (q0 := 0) rfl rfl) rfl rfl hl.1 rfl (lv_room (Nat.le_of_ble_eq_true rfl)) d_law_123 ⟨(by show _ ≤ 601024; omega), (by show _ ≤ 7293034; omega)⟩) hS (fun q _ h => hFc q h) hFc (fun r_3 uu t H1 locs ht hvm hw_6 hB hz1 hk1 hS => ?_)
        obtain ⟨u_4, B_5⟩ := uu
        obtain ⟨hP1, hD1, hsz1⟩ := hB
        rw [ht] at hP1 hsz1
        obtain ⟨hP, hD⟩ := va_join (wr := [(aM, .inr (4, [.int th, .ref aMT, .int (nI u), .ref aNw, .ref aNx, .int w, .int wa, .int (nI ma), .int (nI enm), .long mv, .int mf, .int ml])), (aMT, .inl (kMT, 65536, .inl B)), (aNw, .inl (kNw, 52650, .inl nw)), (aNx, .inl (kNx, 52650, .inl nx)), (aLO, .inl (kLO, 1, .inr (.inl vo)))]) (w1 := [(aX, .inr (3, [.ref aR, .ref aS2])), (aR, .inr (0, [.ref aT, .ref aS])), (aT, .inr (2, [.ref aB, .int (nI u_4), .int (nI en), .int (nI h), .int na, .int w, .int wa])), (aB, .inl (kB, 65536, .inl B_5)), (aS, .inr (1, [.ref aN, .ref aC])), (aN, .inl (kN, 5, .inl (fun j => nI (cnt j)))), (aC, .inl (kC, 52035, .inl cel)), (aS2, .inr (1, [.ref aN2, .ref aC2])), (aN2, .inl (kN2, 5, .inl (fun j => nI (cntb j)))), (aC2, .inl (kC2, 52035, .inl celb))]) hP hD [0, 1, 2, 3, 4, 5, 6, 7, 8, 9] [10, 11, 12, 13, 14] rfl rfl (by decide) (by decide) hk1 hFc hP1 hD1
        generalize H1 = H at hP hS ⊢
        have hP : va_P (dC, dI) vwCl [(aM, .inr (4, [.int th, .ref aMT, .int (nI u), .ref aNw, .ref aNx, .int w, .int wa, .int (nI ma), .int (nI enm), .long mv, .int mf, .int ml])), (aMT, .inl (kMT, 65536, .inl B)), (aNw, .inl (kNw, 52650, .inl nw)), (aNx, .inl (kNx, 52650, .inl nx)), (aLO, .inl (kLO, 1, .inr (.inl vo))), (aX, .inr (3, [.ref aR, .ref aS2])), (aR, .inr (0, [.ref aT, .ref aS])), (aT, .inr (2, [.ref aB, .int (nI u_4), .int (nI en), .int (nI h), .int na, .int w, .int wa])), (aB, .inl (kB, 65536, .inl B_5)), (aS, .inr (1, [.ref aN, .ref aC])), (aN, .inl (kN, 5, .inl (fun j => nI (cnt j)))), (aC, .inl (kC, 52035, .inl cel)), (aS2, .inr (1, [.ref aN2, .ref aC2])), (aN2, .inl (kN2, 5, .inl (fun j => nI (cntb j)))), (aC2, .inl (kC2, 52035, .inl celb))] H := hP
        have hD : va_D A [(aM, .inr (4, [.int th, .ref aMT, .int (nI u), .ref aNw, .ref aNx, .int w, .int wa, .int (nI ma), .int (nI enm), .long mv, .int mf, .int ml])), (aMT, .inl (kMT, 65536, .inl B)), (aNw, .inl (kNw, 52650, .inl nw)), (aNx, .inl (kNx, 52650, .inl nx)), (aLO, .inl (kLO, 1, .inr (.inl vo))), (aX, .inr (3, [.ref aR, .ref aS2])), (aR, .inr (0, [.ref aT, .ref aS])), (aT, .inr (2, [.ref aB, .int (nI u_4), .int (nI en), .int (nI h), .int na, .int w, .int wa])), (aB, .inl (kB, 65536, .inl B_5)), (aS, .inr (1, [.ref aN, .ref aC])), (aN, .inl (kN, 5, .inl (fun j => nI (cnt j)))), (aC, .inl (kC, 52035, .inl cel)), (aS2, .inr (1, [.ref aN2, .ref aC2])), (aN2, .inl (kN2, 5, .inl (fun j => nI (cntb j)))), (aC2, .inl (kC2, 52035, .inl celb))] := hD
        refine lv_aload_n hx hb d_law_126 rfl (lv_at hl 2 rfl) ?_
        refine lv_aload_n hx hb d_law_127 rfl (lv_at hl 0 rfl) ?_
        refine lv_iload hx hb d_law_128 (lv_at hl 4 rfl) ?_
        refine lv_iconst (v := 1) hx hb d_law_130 (by decide) ?_
        refine lv_iadd hx hb d_law_131 ?_
        refine zt_top (nI_add (6 * it) 1) ?_
        refine va_sld (i := nI ((6 * it) + 1)) hx hb hX hbl hbA hS (vp_in_nI (by omega) (by omega)) d_law_132 ?_
        refine zt_top (by rw [nI_clamp (by omega)]) ?_
        refine lv_aload_n hx hb d_law_133 rfl (lv_at hl 0 rfl) ?_
        refine lv_iload hx hb d_law_134 (lv_at hl 4 rfl) ?_
        refine lv_iconst (v := 2) hx hb d_law_136 (by decide) ?_
        refine lv_iadd hx hb d_law_137 ?_
        refine zt_top (nI_add (6 * it) 2) ?_
        refine va_sld (i := nI ((6 * it) + 2)) hx hb hX hbl hbA hS (vp_in_nI (by omega) (by omega)) d_law_138 ?_
        refine zt_top (by rw [nI_clamp (by omega)]) ?_
        refine lv_aload_n hx hb d_law_139 rfl (lv_at hl 0 rfl) ?_
        refine lv_iload hx hb d_law_140 (lv_at hl 4 rfl) ?_
        refine lv_iconst (v := 3) hx hb d_law_142 (by decide) ?_
        refine lv_iadd hx hb d_law_143 ?_
        refine zt_top (nI_add (6 * it) 3) ?_
        refine va_sld (i := nI ((6 * it) + 3)) hx hb hX hbl hbA hS (vp_in_nI (by omega) (by omega)) d_law_144 ?_
        refine zt_top (by rw [nI_clamp (by omega)]) ?_
        refine lv_aload_n hx hb d_law_145 rfl (lv_at hl 0 rfl) ?_
        refine lv_iload hx hb d_law_146 (lv_at hl 4 rfl) ?_
        refine lv_iconst (v := 4) hx hb d_law_148 (by decide) ?_
        refine lv_iadd hx hb d_law_149 ?_
        refine zt_top (nI_add (6 * it) 4) ?_
        refine va_sld (i := nI ((6 * it) + 4)) hx hb hX hbl hbA hS (vp_in_nI (by omega) (by omega)) d_law_150 ?_
        refine zt_top (by rw [nI_clamp (by omega)]) ?_
        refine lv_aload_n hx hb d_law_151 rfl (lv_at hl 0 rfl) ?_
        refine lv_iload hx hb d_law_152 (lv_at hl 4 rfl) ?_
        refine lv_iconst (v := 5) hx hb d_law_154 (by decide) ?_
        refine lv_iadd hx hb d_law_155 ?_
        refine zt_top (nI_add (6 * it) 5) ?_
        refine va_sld (i := nI ((6 * it) + 5)) hx hb hX hbl hbA hS (vp_in_nI (by omega) (by omega)) d_law_156 ?_
        refine zt_top (by rw [nI_clamp (by omega)]) ?_
        have hPc := hP.sub (ws' := [(aM, .inr (4, [.int th, .ref aMT, .int (nI u), .ref aNw, .ref aNx, .int w, .int wa, .int (nI ma), .int (nI enm), .long mv, .int mf, .int ml])), (aMT, .inl (kMT, 65536, .inl B))]) [0, 1] rfl
        have hDc := hD.sub (ws' := [(aM, .inr (4, [.int th, .ref aMT, .int (nI u), .ref aNw, .ref aNx, .int w, .int wa, .int (nI ma), .int (nI enm), .long mv, .int mf, .int ml])), (aMT, .inl (kMT, 65536, .inl B))]) [0, 1] (by decide) rfl
        have hKc := hK.sub (tys' := [(kMT, .byte)]) [5] rfl
        have hFc := va_free (wc := [(aM, .inr (4, [.int th, .ref aMT, .int (nI u), .ref aNw, .ref aNx, .int w, .int wa, .int (nI ma), .int (nI enm), .long mv, .int mf, .int ml])), (aMT, .inl (kMT, 65536, .inl B))]) hD hS hA [0, 1] rfl
        refine va_calli (va_runV (As := [.int (xs ((6 * it) + 1)), .int (xs ((6 * it) + 2)), .int (xs ((6 * it) + 3)), .int (xs ((6 * it) + 4)), .int (xs ((6 * it) + 5))]) (rest := [.int r_3]) ⟨hx, hb, hml, hown, hts⟩ (c_Md_feed l G dC dI H.size aM th aMT u aNw aNx w wa ma enm mv mf ml kMT B (xs ((6 * it) + 1)) (xs ((6 * it) + 2)) (xs ((6 * it) + 3)) (xs ((6 * it) + 4)) (xs ((6 * it) + 5)) hu) (cwV 5 hts (gV tw_517 tw_518 tw_519 tw_5 tw_520 rfl) rfl rfl rfl (by decide +kernel) ⟨Nat.le_of_ble_eq_true rfl, Nat.le_of_ble_eq_true rfl⟩) (PW_preV hPc hKc hDc hE hS hFc (ci := 4) (q0 := 0) rfl rfl) rfl rfl hl.1 rfl (lv_room (Nat.le_of_ble_eq_true rfl)) d_law_157 ⟨(by show _ ≤ 601024; omega), (by show _ ≤ 7293034; omega)⟩) hS (fun q _ h => hFc q h) hFc (fun r_7 uu t H1 locs ht hvm hw_11 hB hz1 hk1 hS => ?_)
        obtain ⟨th_8, mu_9, B_10⟩ := uu
        obtain ⟨hP1, hD1, hsz1⟩ := hB
        rw [ht] at hP1 hsz1
        obtain ⟨hP, hD⟩ := va_join (wr := [(aNw, .inl (kNw, 52650, .inl nw)), (aNx, .inl (kNx, 52650, .inl nx)), (aLO, .inl (kLO, 1, .inr (.inl vo))), (aX, .inr (3, [.ref aR, .ref aS2])), (aR, .inr (0, [.ref aT, .ref aS])), (aT, .inr (2, [.ref aB, .int (nI u_4), .int (nI en), .int (nI h), .int na, .int w, .int wa])), (aB, .inl (kB, 65536, .inl B_5)), (aS, .inr (1, [.ref aN, .ref aC])), (aN, .inl (kN, 5, .inl (fun j => nI (cnt j)))), (aC, .inl (kC, 52035, .inl cel)), (aS2, .inr (1, [.ref aN2, .ref aC2])), (aN2, .inl (kN2, 5, .inl (fun j => nI (cntb j)))), (aC2, .inl (kC2, 52035, .inl celb))]) (w1 := [(aM, .inr (4, [.int th_8, .ref aMT, .int (nI mu_9), .ref aNw, .ref aNx, .int w, .int wa, .int (nI ma), .int (nI enm), .long mv, .int mf, .int ml])), (aMT, .inl (kMT, 65536, .inl B_10))]) hP hD [0, 1] [2, 3, 4, 5, 6, 7, 8, 9, 10, 11, 12, 13, 14] rfl rfl (by decide) (by decide) hk1 hFc hP1 hD1
        generalize H1 = H at hP hS ⊢
        have hP : va_P (dC, dI) vwCl [(aNw, .inl (kNw, 52650, .inl nw)), (aNx, .inl (kNx, 52650, .inl nx)), (aLO, .inl (kLO, 1, .inr (.inl vo))), (aX, .inr (3, [.ref aR, .ref aS2])), (aR, .inr (0, [.ref aT, .ref aS])), (aT, .inr (2, [.ref aB, .int (nI u_4), .int (nI en), .int (nI h), .int na, .int w, .int wa])), (aB, .inl (kB, 65536, .inl B_5)), (aS, .inr (1, [.ref aN, .ref aC])), (aN, .inl (kN, 5, .inl (fun j => nI (cnt j)))), (aC, .inl (kC, 52035, .inl cel)), (aS2, .inr (1, [.ref aN2, .ref aC2])), (aN2, .inl (kN2, 5, .inl (fun j => nI (cntb j)))), (aC2, .inl (kC2, 52035, .inl celb)), (aM, .inr (4, [.int th_8, .ref aMT, .int (nI mu_9), .ref aNw, .ref aNx, .int w, .int wa, .int (nI ma), .int (nI enm), .long mv, .int mf, .int ml])), (aMT, .inl (kMT, 65536, .inl B_10))] H := hP
        have hD : va_D A [(aNw, .inl (kNw, 52650, .inl nw)), (aNx, .inl (kNx, 52650, .inl nx)), (aLO, .inl (kLO, 1, .inr (.inl vo))), (aX, .inr (3, [.ref aR, .ref aS2])), (aR, .inr (0, [.ref aT, .ref aS])), (aT, .inr (2, [.ref aB, .int (nI u_4), .int (nI en), .int (nI h), .int na, .int w, .int wa])), (aB, .inl (kB, 65536, .inl B_5)), (aS, .inr (1, [.ref aN, .ref aC])), (aN, .inl (kN, 5, .inl (fun j => nI (cnt j)))), (aC, .inl (kC, 52035, .inl cel)), (aS2, .inr (1, [.ref aN2, .ref aC2])), (aN2, .inl (kN2, 5, .inl (fun j => nI (cntb j)))), (aC2, .inl (kC2, 52035, .inl celb)), (aM, .inr (4, [.int th_8, .ref aMT, .int (nI mu_9), .ref aNw, .ref aNx, .int w, .int wa, .int (nI ma), .int (nI enm), .long mv, .int mf, .int ml])), (aMT, .inl (kMT, 65536, .inl B_10))] := hD
        by_cases hro : u ≤ 65516
        ·
          obtain ⟨-, e1, e2, e3⟩ := hw_6.resolve_right (fun z => z.1 hro)
          obtain ⟨-, e4, e5, e6⟩ := hw_11.2.resolve_right (fun z => z.1 hro)
          have e1 := e1.symm; subst e1
          have e2 := e2.symm; subst e2
          have e3 := e3.symm; subst e3
          have e4 := e4.symm; subst e4
          have e5 := e5.symm; subst e5
          have e6 := e6.symm; subst e6
          refine lv_icmp_eq (tgt := 432) hx hb d_law_160 (by decide) (fun c_12 => ?_) (fun c_12 => ?_)
          ·
            refine lv_iinc (v := nI (6 * it + 6)) (lv' := [(4, .int (nI (6 * it + 6))), (0, .ref b), (1, .ref aX), (2, .ref aM), (3, .ref aLO)]) hx hb d_law_432 hl (k := 4) rfl (nI_add (6 * it) 6) (by decide) rfl (fun ls hl => ?_)
            refine lv_goto (tgt := 23) hx hb d_law_435 (by decide) ?_
            refine W.widen (k := 15 + (it + 1)) (n := 340480 + 6 * (it + 1)) (by omega) (by omega) ?_
            exact ih (it + 1) aX aR aT aB (u + 20) en h na w wa kB (zFeed B u (xs ((6 * it) + 1)) (xs ((6 * it) + 2)) (xs ((6 * it) + 3)) (xs ((6 * it) + 4)) (xs ((6 * it) + 5))) aS aN aC kN cnt kC cel aS2 aN2 aC2 kN2 cntb kC2 celb aM th_8 aMT ma enm mv mf ml kMT aNw kNw nw aNx kNx nx aLO kLO vo (by omega) (by omega) (by omega) hg _ _ (hK.sub [0, 1, 2, 3, 4, 5, 6, 7, 8] rfl) (hP.sub [3, 4, 5, 6, 7, 8, 9, 10, 11, 12, 13, 14, 0, 1, 2] rfl) (hD.sub [3, 4, 5, 6, 7, 8, 9, 10, 11, 12, 13, 14, 0, 1, 2] (by decide) rfl) hS ls (lv_sub hl [1, 2, 3, 4, 0] rfl)
          ·
            exact absurd (by decide) c_12
        ·
          obtain ⟨-, e1, e2, e3⟩ := hw_6.resolve_left (fun z => hro z.1)
          obtain ⟨-, e4, e5, e6⟩ := hw_11.2.resolve_left (fun z => hro z.1)
          have e1 := e1.symm; subst e1
          have e2 := e2.symm; subst e2
          have e3 := e3.symm; subst e3
          have e4 := e4.symm; subst e4
          have e5 := e5.symm; subst e5
          have e6 := e6.symm; subst e6
          refine lv_icmp_eq (tgt := 432) hx hb d_law_160 (by decide) (fun c_13 => ?_) (fun c_13 => ?_)
          ·
            refine lv_iinc (v := nI (6 * it + 6)) (lv' := [(4, .int (nI (6 * it + 6))), (0, .ref b), (1, .ref aX), (2, .ref aM), (3, .ref aLO)]) hx hb d_law_432 hl (k := 4) rfl (nI_add (6 * it) 6) (by decide) rfl (fun ls hl => ?_)
            refine lv_goto (tgt := 23) hx hb d_law_435 (by decide) ?_
            refine W.widen (k := 15 + (it + 1)) (n := 340480 + 6 * (it + 1)) (by omega) (by omega) ?_
            exact ih (it + 1) aX aR aT aB u en h na w wa kB B aS aN aC kN cnt kC cel aS2 aN2 aC2 kN2 cntb kC2 celb aM th_8 aMT ma enm mv mf ml kMT aNw kNw nw aNx kNx nx aLO kLO vo (by omega) (by omega) hu hg _ _ (hK.sub [0, 1, 2, 3, 4, 5, 6, 7, 8] rfl) (hP.sub [3, 4, 5, 6, 7, 8, 9, 10, 11, 12, 13, 14, 0, 1, 2] rfl) (hD.sub [3, 4, 5, 6, 7, 8, 9, 10, 11, 12, 13, 14, 0, 1, 2] (by decide) rfl) hS ls (lv_sub hl [1, 2, 3, 4, 0] rfl)
          ·
            exact absurd (by decide) c_13
      ·
        by_cases hv_14 : sel = 1
        ·
          subst hv_14
          refine lv_tableIn (off := 125) (tgt := 165) hx hb d_law_40 (by decide) (by decide) (by decide) (by decide) ?_
          refine lv_aload_n hx hb d_law_165 rfl (lv_at hl 1 rfl) ?_
          refine lv_aload_n hx hb d_law_166 rfl (lv_at hl 0 rfl) ?_
          refine lv_iload hx hb d_law_167 (lv_at hl 4 rfl) ?_
          refine lv_iconst (v := 1) hx hb d_law_169 (by decide) ?_
          refine lv_iadd hx hb d_law_170 ?_
          refine zt_top (nI_add (6 * it) 1) ?_
          refine va_sld (i := nI ((6 * it) + 1)) hx hb hX hbl hbA hS (vp_in_nI (by omega) (by omega)) d_law_171 ?_
          refine zt_top (by rw [nI_clamp (by omega)]) ?_
          have hPc := hP.sub (ws' := [(aX, .inr (3, [.ref aR, .ref aS2])), (aR, .inr (0, [.ref aT, .ref aS])), (aT, .inr (2, [.ref aB, .int (nI u), .int (nI en), .int (nI h), .int na, .int w, .int wa])), (aB, .inl (kB, 65536, .inl B)), (aS, .inr (1, [.ref aN, .ref aC])), (aN, .inl (kN, 5, .inl (fun j => nI (cnt j)))), (aC, .inl (kC, 52035, .inl cel)), (aS2, .inr (1, [.ref aN2, .ref aC2])), (aN2, .inl (kN2, 5, .inl (fun j => nI (cntb j)))), (aC2, .inl (kC2, 52035, .inl celb))]) [0, 1, 2, 3, 4, 5, 6, 7, 8, 9] rfl
          have hDc := hD.sub (ws' := [(aX, .inr (3, [.ref aR, .ref aS2])), (aR, .inr (0, [.ref aT, .ref aS])), (aT, .inr (2, [.ref aB, .int (nI u), .int (nI en), .int (nI h), .int na, .int w, .int wa])), (aB, .inl (kB, 65536, .inl B)), (aS, .inr (1, [.ref aN, .ref aC])), (aN, .inl (kN, 5, .inl (fun j => nI (cnt j)))), (aC, .inl (kC, 52035, .inl cel)), (aS2, .inr (1, [.ref aN2, .ref aC2])), (aN2, .inl (kN2, 5, .inl (fun j => nI (cntb j)))), (aC2, .inl (kC2, 52035, .inl celb))]) [0, 1, 2, 3, 4, 5, 6, 7, 8, 9] (by decide) rfl
          have hKc := hK.sub (tys' := [(kB, .byte), (kN, .int), (kC, .int), (kN2, .int), (kC2, .int)]) [0, 1, 2, 3, 4] rfl
          have hFc := va_free (wc := [(aX, .inr (3, [.ref aR, .ref aS2])), (aR, .inr (0, [.ref aT, .ref aS])), (aT, .inr (2, [.ref aB, .int (nI u), .int (nI en), .int (nI h), .int na, .int w, .int wa])), (aB, .inl (kB, 65536, .inl B)), (aS, .inr (1, [.ref aN, .ref aC])), (aN, .inl (kN, 5, .inl (fun j => nI (cnt j)))), (aC, .inl (kC, 52035, .inl cel)), (aS2, .inr (1, [.ref aN2, .ref aC2])), (aN2, .inl (kN2, 5, .inl (fun j => nI (cntb j)))), (aC2, .inl (kC2, 52035, .inl celb))]) hD hS hA [0, 1, 2, 3, 4, 5, 6, 7, 8, 9] rfl
          refine va_calli (va_runV (As := [.int (xs ((6 * it) + 1))]) (rest := []) ⟨hx, hb, hml, hown, hts⟩ (c_St_end l G dC dI H.size aX aR aT aB u en h na w wa kB B aS aN aC kN cnt kC cel aS2 aN2 aC2 kN2 cntb kC2 celb (xs ((6 * it) + 1)) hu) (cwV 1 hts (gV tw_114 tw_115 tw_116 tw_1 tw_117 rfl) rfl rfl rfl (by decide +kernel) ⟨Nat.le_of_ble_eq_true rfl, Nat.le_of_ble_eq_true rfl⟩) (PW_preV hPc hKc hDc hE hS hFc (ci := 3) (q0 := 0) rfl rfl) rfl rfl hl.1 rfl (lv_room (Nat.le_of_ble_eq_true rfl)) d_law_172 ⟨(by show _ ≤ 601024; omega), (by show _ ≤ 7293034; omega)⟩) hS (fun q _ h => hFc q h) hFc (fun r_15 uu t H1 locs ht hvm hw_17 hB hz1 hk1 hS => ?_)
          obtain ⟨u_16, rfl⟩ : ∃ z, z = uu := ⟨_, rfl⟩
          obtain ⟨hP1, hD1, hsz1⟩ := hB
          rw [ht] at hP1 hsz1
          obtain ⟨hP, hD⟩ := va_join (wr := [(aM, .inr (4, [.int th, .ref aMT, .int (nI u), .ref aNw, .ref aNx, .int w, .int wa, .int (nI ma), .int (nI enm), .long mv, .int mf, .int ml])), (aMT, .inl (kMT, 65536, .inl B)), (aNw, .inl (kNw, 52650, .inl nw)), (aNx, .inl (kNx, 52650, .inl nx)), (aLO, .inl (kLO, 1, .inr (.inl vo)))]) (w1 := [(aX, .inr (3, [.ref aR, .ref aS2])), (aR, .inr (0, [.ref aT, .ref aS])), (aT, .inr (2, [.ref aB, .int (nI u_16), .int (nI en), .int (nI h), .int na, .int w, .int wa])), (aB, .inl (kB, 65536, .inl B)), (aS, .inr (1, [.ref aN, .ref aC])), (aN, .inl (kN, 5, .inl (fun j => nI (cnt j)))), (aC, .inl (kC, 52035, .inl cel)), (aS2, .inr (1, [.ref aN2, .ref aC2])), (aN2, .inl (kN2, 5, .inl (fun j => nI (cntb j)))), (aC2, .inl (kC2, 52035, .inl celb))]) hP hD [0, 1, 2, 3, 4, 5, 6, 7, 8, 9] [10, 11, 12, 13, 14] rfl rfl (by decide) (by decide) hk1 hFc hP1 hD1
          generalize H1 = H at hP hS ⊢
          have hP : va_P (dC, dI) vwCl [(aM, .inr (4, [.int th, .ref aMT, .int (nI u), .ref aNw, .ref aNx, .int w, .int wa, .int (nI ma), .int (nI enm), .long mv, .int mf, .int ml])), (aMT, .inl (kMT, 65536, .inl B)), (aNw, .inl (kNw, 52650, .inl nw)), (aNx, .inl (kNx, 52650, .inl nx)), (aLO, .inl (kLO, 1, .inr (.inl vo))), (aX, .inr (3, [.ref aR, .ref aS2])), (aR, .inr (0, [.ref aT, .ref aS])), (aT, .inr (2, [.ref aB, .int (nI u_16), .int (nI en), .int (nI h), .int na, .int w, .int wa])), (aB, .inl (kB, 65536, .inl B)), (aS, .inr (1, [.ref aN, .ref aC])), (aN, .inl (kN, 5, .inl (fun j => nI (cnt j)))), (aC, .inl (kC, 52035, .inl cel)), (aS2, .inr (1, [.ref aN2, .ref aC2])), (aN2, .inl (kN2, 5, .inl (fun j => nI (cntb j)))), (aC2, .inl (kC2, 52035, .inl celb))] H := hP
          have hD : va_D A [(aM, .inr (4, [.int th, .ref aMT, .int (nI u), .ref aNw, .ref aNx, .int w, .int wa, .int (nI ma), .int (nI enm), .long mv, .int mf, .int ml])), (aMT, .inl (kMT, 65536, .inl B)), (aNw, .inl (kNw, 52650, .inl nw)), (aNx, .inl (kNx, 52650, .inl nx)), (aLO, .inl (kLO, 1, .inr (.inl vo))), (aX, .inr (3, [.ref aR, .ref aS2])), (aR, .inr (0, [.ref aT, .ref aS])), (aT, .inr (2, [.ref aB, .int (nI u_16), .int (nI en), .int (nI h), .int na, .int w, .int wa])), (aB, .inl (kB, 65536, .inl B)), (aS, .inr (1, [.ref aN, .ref aC])), (aN, .inl (kN, 5, .inl (fun j => nI (cnt j)))), (aC, .inl (kC, 52035, .inl cel)), (aS2, .inr (1, [.ref aN2, .ref aC2])), (aN2, .inl (kN2, 5, .inl (fun j => nI (cntb j)))), (aC2, .inl (kC2, 52035, .inl celb))] := hD
          refine lv_aload_n hx hb d_law_175 rfl (lv_at hl 2 rfl) ?_
          refine lv_aload_n hx hb d_law_176 rfl (lv_at hl 0 rfl) ?_
          refine lv_iload hx hb d_law_177 (lv_at hl 4 rfl) ?_
          refine lv_iconst (v := 1) hx hb d_law_179 (by decide) ?_
          refine lv_iadd hx hb d_law_180 ?_
          refine zt_top (nI_add (6 * it) 1) ?_
          refine va_sld (i := nI ((6 * it) + 1)) hx hb hX hbl hbA hS (vp_in_nI (by omega) (by omega)) d_law_181 ?_
          refine zt_top (by rw [nI_clamp (by omega)]) ?_
          have hPc := hP.sub (ws' := [(aM, .inr (4, [.int th, .ref aMT, .int (nI u), .ref aNw, .ref aNx, .int w, .int wa, .int (nI ma), .int (nI enm), .long mv, .int mf, .int ml]))]) [0] rfl
          have hDc := hD.sub (ws' := [(aM, .inr (4, [.int th, .ref aMT, .int (nI u), .ref aNw, .ref aNx, .int w, .int wa, .int (nI ma), .int (nI enm), .long mv, .int mf, .int ml]))]) [0] (by decide) rfl
          have hKc := hK.sub (tys' := []) [] rfl
          have hFc := va_free (wc := [(aM, .inr (4, [.int th, .ref aMT, .int (nI u), .ref aNw, .ref aNx, .int w, .int wa, .int (nI ma), .int (nI enm), .long mv, .int mf, .int ml]))]) hD hS hA [0] rfl
          refine va_calli (va_runV (As := [.int (xs ((6 * it) + 1))]) (rest := [.int r_15]) ⟨hx, hb, hml, hown, hts⟩ (c_Md_end l G dC dI H.size aM th aMT u aNw aNx w wa ma enm mv mf ml (xs ((6 * it) + 1)) hu) (cwV 1 hts (gV tw_521 tw_522 tw_523 tw_5 tw_524 rfl) rfl rfl rfl (by decide +kernel) ⟨Nat.le_of_ble_eq_true rfl, Nat.le_of_ble_eq_true rfl⟩) (PW_preV hPc hKc hDc hE hS hFc (ci := 4) (q0 := 0) rfl rfl) rfl rfl hl.1 rfl (lv_room (Nat.le_of_ble_eq_true rfl)) d_law_182 ⟨(by show _ ≤ 601024; omega), (by show _ ≤ 7293034; omega)⟩) hS (fun q _ h => hFc q h) hFc (fun r_18 uu t H1 locs ht hvm hw_21 hB hz1 hk1 hS => ?_)
          obtain ⟨th_19, mu_20⟩ := uu
          obtain ⟨hP1, hD1, hsz1⟩ := hB
          rw [ht] at hP1 hsz1
          obtain ⟨hP, hD⟩ := va_join (wr := [(aMT, .inl (kMT, 65536, .inl B)), (aNw, .inl (kNw, 52650, .inl nw)), (aNx, .inl (kNx, 52650, .inl nx)), (aLO, .inl (kLO, 1, .inr (.inl vo))), (aX, .inr (3, [.ref aR, .ref aS2])), (aR, .inr (0, [.ref aT, .ref aS])), (aT, .inr (2, [.ref aB, .int (nI u_16), .int (nI en), .int (nI h), .int na, .int w, .int wa])), (aB, .inl (kB, 65536, .inl B)), (aS, .inr (1, [.ref aN, .ref aC])), (aN, .inl (kN, 5, .inl (fun j => nI (cnt j)))), (aC, .inl (kC, 52035, .inl cel)), (aS2, .inr (1, [.ref aN2, .ref aC2])), (aN2, .inl (kN2, 5, .inl (fun j => nI (cntb j)))), (aC2, .inl (kC2, 52035, .inl celb))]) (w1 := [(aM, .inr (4, [.int th_19, .ref aMT, .int (nI mu_20), .ref aNw, .ref aNx, .int w, .int wa, .int (nI ma), .int (nI enm), .long mv, .int mf, .int ml]))]) hP hD [0] [1, 2, 3, 4, 5, 6, 7, 8, 9, 10, 11, 12, 13, 14] rfl rfl (by decide) (by decide) hk1 hFc hP1 hD1
          generalize H1 = H at hP hS ⊢
          have hP : va_P (dC, dI) vwCl [(aMT, .inl (kMT, 65536, .inl B)), (aNw, .inl (kNw, 52650, .inl nw)), (aNx, .inl (kNx, 52650, .inl nx)), (aLO, .inl (kLO, 1, .inr (.inl vo))), (aX, .inr (3, [.ref aR, .ref aS2])), (aR, .inr (0, [.ref aT, .ref aS])), (aT, .inr (2, [.ref aB, .int (nI u_16), .int (nI en), .int (nI h), .int na, .int w, .int wa])), (aB, .inl (kB, 65536, .inl B)), (aS, .inr (1, [.ref aN, .ref aC])), (aN, .inl (kN, 5, .inl (fun j => nI (cnt j)))), (aC, .inl (kC, 52035, .inl cel)), (aS2, .inr (1, [.ref aN2, .ref aC2])), (aN2, .inl (kN2, 5, .inl (fun j => nI (cntb j)))), (aC2, .inl (kC2, 52035, .inl celb)), (aM, .inr (4, [.int th_19, .ref aMT, .int (nI mu_20), .ref aNw, .ref aNx, .int w, .int wa, .int (nI ma), .int (nI enm), .long mv, .int mf, .int ml]))] H := hP
          have hD : va_D A [(aMT, .inl (kMT, 65536, .inl B)), (aNw, .inl (kNw, 52650, .inl nw)), (aNx, .inl (kNx, 52650, .inl nx)), (aLO, .inl (kLO, 1, .inr (.inl vo))), (aX, .inr (3, [.ref aR, .ref aS2])), (aR, .inr (0, [.ref aT, .ref aS])), (aT, .inr (2, [.ref aB, .int (nI u_16), .int (nI en), .int (nI h), .int na, .int w, .int wa])), (aB, .inl (kB, 65536, .inl B)), (aS, .inr (1, [.ref aN, .ref aC])), (aN, .inl (kN, 5, .inl (fun j => nI (cnt j)))), (aC, .inl (kC, 52035, .inl cel)), (aS2, .inr (1, [.ref aN2, .ref aC2])), (aN2, .inl (kN2, 5, .inl (fun j => nI (cntb j)))), (aC2, .inl (kC2, 52035, .inl celb)), (aM, .inr (4, [.int th_19, .ref aMT, .int (nI mu_20), .ref aNw, .ref aNx, .int w, .int wa, .int (nI ma), .int (nI enm), .long mv, .int mf, .int ml]))] := hD
          obtain ⟨e1, e2, e3⟩ := zEnd_eq hu hw_17 hw_21.2
          have e1 := e1.symm; subst e1
          have e2 := e2.symm; subst e2
          refine lv_icmp_eq (tgt := 432) hx hb d_law_185 (by decide) (fun c_22 => ?_) (fun c_22 => ?_)
          ·
            refine lv_iinc (v := nI (6 * it + 6)) (lv' := [(4, .int (nI (6 * it + 6))), (0, .ref b), (1, .ref aX), (2, .ref aM), (3, .ref aLO)]) hx hb d_law_432 hl (k := 4) rfl (nI_add (6 * it) 6) (by decide) rfl (fun ls hl => ?_)
            refine lv_goto (tgt := 23) hx hb d_law_435 (by decide) ?_
            refine W.widen (k := 15 + (it + 1)) (n := 340480 + 6 * (it + 1)) (by omega) (by omega) ?_
            exact ih (it + 1) aX aR aT aB u_16 en h na w wa kB B aS aN aC kN cnt kC cel aS2 aN2 aC2 kN2 cntb kC2 celb aM th_19 aMT ma enm mv mf ml kMT aNw kNw nw aNx kNx nx aLO kLO vo (by omega) (by omega) (by omega) hg _ _ (hK.sub [0, 1, 2, 3, 4, 5, 6, 7, 8] rfl) (hP.sub [4, 5, 6, 7, 8, 9, 10, 11, 12, 13, 14, 0, 1, 2, 3] rfl) (hD.sub [4, 5, 6, 7, 8, 9, 10, 11, 12, 13, 14, 0, 1, 2, 3] (by decide) rfl) hS ls (lv_sub hl [1, 2, 3, 4, 0] rfl)
          ·
            exact absurd rfl c_22
        ·
          by_cases hv_23 : sel = 2
          ·
            subst hv_23
            refine lv_tableIn (off := 150) (tgt := 190) hx hb d_law_40 (by decide) (by decide) (by decide) (by decide) ?_
            refine lv_aload_n hx hb d_law_190 rfl (lv_at hl 1 rfl) ?_
            have hPc := hP.sub (ws' := [(aX, .inr (3, [.ref aR, .ref aS2])), (aR, .inr (0, [.ref aT, .ref aS])), (aT, .inr (2, [.ref aB, .int (nI u), .int (nI en), .int (nI h), .int na, .int w, .int wa])), (aB, .inl (kB, 65536, .inl B)), (aS, .inr (1, [.ref aN, .ref aC])), (aN, .inl (kN, 5, .inl (fun j => nI (cnt j)))), (aC, .inl (kC, 52035, .inl cel)), (aS2, .inr (1, [.ref aN2, .ref aC2])), (aN2, .inl (kN2, 5, .inl (fun j => nI (cntb j)))), (aC2, .inl (kC2, 52035, .inl celb))]) [0, 1, 2, 3, 4, 5, 6, 7, 8, 9] rfl
            have hDc := hD.sub (ws' := [(aX, .inr (3, [.ref aR, .ref aS2])), (aR, .inr (0, [.ref aT, .ref aS])), (aT, .inr (2, [.ref aB, .int (nI u), .int (nI en), .int (nI h), .int na, .int w, .int wa])), (aB, .inl (kB, 65536, .inl B)), (aS, .inr (1, [.ref aN, .ref aC])), (aN, .inl (kN, 5, .inl (fun j => nI (cnt j)))), (aC, .inl (kC, 52035, .inl cel)), (aS2, .inr (1, [.ref aN2, .ref aC2])), (aN2, .inl (kN2, 5, .inl (fun j => nI (cntb j)))), (aC2, .inl (kC2, 52035, .inl celb))]) [0, 1, 2, 3, 4, 5, 6, 7, 8, 9] (by decide) rfl
            have hKc := hK.sub (tys' := [(kB, .byte), (kN, .int), (kC, .int), (kN2, .int), (kC2, .int)]) [0, 1, 2, 3, 4] rfl
            have hFc := va_free (wc := [(aX, .inr (3, [.ref aR, .ref aS2])), (aR, .inr (0, [.ref aT, .ref aS])), (aT, .inr (2, [.ref aB, .int (nI u), .int (nI en), .int (nI h), .int na, .int w, .int wa])), (aB, .inl (kB, 65536, .inl B)), (aS, .inr (1, [.ref aN, .ref aC])), (aN, .inl (kN, 5, .inl (fun j => nI (cnt j)))), (aC, .inl (kC, 52035, .inl cel)), (aS2, .inr (1, [.ref aN2, .ref aC2])), (aN2, .inl (kN2, 5, .inl (fun j => nI (cntb j)))), (aC2, .inl (kC2, 52035, .inl celb))]) hD hS hA [0, 1, 2, 3, 4, 5, 6, 7, 8, 9] rfl
            refine va_calli (va_runV (As := []) (rest := []) ⟨hx, hb, hml, hown, hts⟩ (c_St_size l G dC dI H.size aX aR aT aB u en h na w wa kB B aS aN aC kN cnt kC cel aS2 aN2 aC2 kN2 cntb kC2 celb) (cwV 0 hts (gV tw_122 tw_123 tw_124 tw_1 tw_125 rfl) rfl rfl rfl (by decide +kernel) ⟨Nat.le_of_ble_eq_true rfl, Nat.le_of_ble_eq_true rfl⟩) (PW_preV hPc hKc hDc hE hS hFc (ci := 3) (q0 := 0) rfl rfl) rfl rfl hl.1 rfl (lv_room (Nat.le_of_ble_eq_true rfl)) d_law_191 ⟨(by show _ ≤ 601024; omega), (by show _ ≤ 7293034; omega)⟩) hS (fun q _ h => hFc q h) hFc (fun r_24 uu t H1 locs ht hvm hw_25 hB hz1 hk1 hS => ?_)
            obtain ⟨hP1, hD1, hsz1⟩ := hB
            rw [ht] at hP1 hsz1
            obtain ⟨hP, hD⟩ := va_join (wr := [(aM, .inr (4, [.int th, .ref aMT, .int (nI u), .ref aNw, .ref aNx, .int w, .int wa, .int (nI ma), .int (nI enm), .long mv, .int mf, .int ml])), (aMT, .inl (kMT, 65536, .inl B)), (aNw, .inl (kNw, 52650, .inl nw)), (aNx, .inl (kNx, 52650, .inl nx)), (aLO, .inl (kLO, 1, .inr (.inl vo)))]) (w1 := [(aX, .inr (3, [.ref aR, .ref aS2])), (aR, .inr (0, [.ref aT, .ref aS])), (aT, .inr (2, [.ref aB, .int (nI u), .int (nI en), .int (nI h), .int na, .int w, .int wa])), (aB, .inl (kB, 65536, .inl B)), (aS, .inr (1, [.ref aN, .ref aC])), (aN, .inl (kN, 5, .inl (fun j => nI (cnt j)))), (aC, .inl (kC, 52035, .inl cel)), (aS2, .inr (1, [.ref aN2, .ref aC2])), (aN2, .inl (kN2, 5, .inl (fun j => nI (cntb j)))), (aC2, .inl (kC2, 52035, .inl celb))]) hP hD [0, 1, 2, 3, 4, 5, 6, 7, 8, 9] [10, 11, 12, 13, 14] rfl rfl (by decide) (by decide) hk1 hFc hP1 hD1
            generalize H1 = H at hP hS ⊢
            have hP : va_P (dC, dI) vwCl [(aM, .inr (4, [.int th, .ref aMT, .int (nI u), .ref aNw, .ref aNx, .int w, .int wa, .int (nI ma), .int (nI enm), .long mv, .int mf, .int ml])), (aMT, .inl (kMT, 65536, .inl B)), (aNw, .inl (kNw, 52650, .inl nw)), (aNx, .inl (kNx, 52650, .inl nx)), (aLO, .inl (kLO, 1, .inr (.inl vo))), (aX, .inr (3, [.ref aR, .ref aS2])), (aR, .inr (0, [.ref aT, .ref aS])), (aT, .inr (2, [.ref aB, .int (nI u), .int (nI en), .int (nI h), .int na, .int w, .int wa])), (aB, .inl (kB, 65536, .inl B)), (aS, .inr (1, [.ref aN, .ref aC])), (aN, .inl (kN, 5, .inl (fun j => nI (cnt j)))), (aC, .inl (kC, 52035, .inl cel)), (aS2, .inr (1, [.ref aN2, .ref aC2])), (aN2, .inl (kN2, 5, .inl (fun j => nI (cntb j)))), (aC2, .inl (kC2, 52035, .inl celb))] H := hP
            have hD : va_D A [(aM, .inr (4, [.int th, .ref aMT, .int (nI u), .ref aNw, .ref aNx, .int w, .int wa, .int (nI ma), .int (nI enm), .long mv, .int mf, .int ml])), (aMT, .inl (kMT, 65536, .inl B)), (aNw, .inl (kNw, 52650, .inl nw)), (aNx, .inl (kNx, 52650, .inl nx)), (aLO, .inl (kLO, 1, .inr (.inl vo))), (aX, .inr (3, [.ref aR, .ref aS2])), (aR, .inr (0, [.ref aT, .ref aS])), (aT, .inr (2, [.ref aB, .int (nI u), .int (nI en), .int (nI h), .int na, .int w, .int wa])), (aB, .inl (kB, 65536, .inl B)), (aS, .inr (1, [.ref aN, .ref aC])), (aN, .inl (kN, 5, .inl (fun j => nI (cnt j)))), (aC, .inl (kC, 52035, .inl cel)), (aS2, .inr (1, [.ref aN2, .ref aC2])), (aN2, .inl (kN2, 5, .inl (fun j => nI (cntb j)))), (aC2, .inl (kC2, 52035, .inl celb))] := hD
            refine lv_aload_n hx hb d_law_194 rfl (lv_at hl 2 rfl) ?_
            have hPc := hP.sub (ws' := [(aM, .inr (4, [.int th, .ref aMT, .int (nI u), .ref aNw, .ref aNx, .int w, .int wa, .int (nI ma), .int (nI enm), .long mv, .int mf, .int ml]))]) [0] rfl
            have hDc := hD.sub (ws' := [(aM, .inr (4, [.int th, .ref aMT, .int (nI u), .ref aNw, .ref aNx, .int w, .int wa, .int (nI ma), .int (nI enm), .long mv, .int mf, .int ml]))]) [0] (by decide) rfl
            have hKc := hK.sub (tys' := []) [] rfl
            have hFc := va_free (wc := [(aM, .inr (4, [.int th, .ref aMT, .int (nI u), .ref aNw, .ref aNx, .int w, .int wa, .int (nI ma), .int (nI enm), .long mv, .int mf, .int ml]))]) hD hS hA [0] rfl
            refine va_calli (va_runV (As := []) (rest := [.int r_24]) ⟨hx, hb, hml, hown, hts⟩ (c_Md_size l G dC dI H.size aM th aMT u aNw aNx w wa ma enm mv mf ml) (cwV 0 hts (gV tw_525 tw_526 tw_527 tw_5 tw_528 rfl) rfl rfl rfl (by decide +kernel) ⟨Nat.le_of_ble_eq_true rfl, Nat.le_of_ble_eq_true rfl⟩) (PW_preV hPc hKc hDc hE hS hFc (ci := 4) (q0 := 0) rfl rfl) rfl rfl hl.1 rfl (lv_room (Nat.le_of_ble_eq_true rfl)) d_law_195 ⟨(by show _ ≤ 601024; omega), (by show _ ≤ 7293034; omega)⟩) hS (fun q _ h => hFc q h) hFc (fun r_26 uu t H1 locs ht hvm hw_28 hB hz1 hk1 hS => ?_)
            obtain ⟨th_27, rfl⟩ : ∃ z, z = uu := ⟨_, rfl⟩
            obtain ⟨hP1, hD1, hsz1⟩ := hB
            rw [ht] at hP1 hsz1
            obtain ⟨hP, hD⟩ := va_join (wr := [(aMT, .inl (kMT, 65536, .inl B)), (aNw, .inl (kNw, 52650, .inl nw)), (aNx, .inl (kNx, 52650, .inl nx)), (aLO, .inl (kLO, 1, .inr (.inl vo))), (aX, .inr (3, [.ref aR, .ref aS2])), (aR, .inr (0, [.ref aT, .ref aS])), (aT, .inr (2, [.ref aB, .int (nI u), .int (nI en), .int (nI h), .int na, .int w, .int wa])), (aB, .inl (kB, 65536, .inl B)), (aS, .inr (1, [.ref aN, .ref aC])), (aN, .inl (kN, 5, .inl (fun j => nI (cnt j)))), (aC, .inl (kC, 52035, .inl cel)), (aS2, .inr (1, [.ref aN2, .ref aC2])), (aN2, .inl (kN2, 5, .inl (fun j => nI (cntb j)))), (aC2, .inl (kC2, 52035, .inl celb))]) (w1 := [(aM, .inr (4, [.int th_27, .ref aMT, .int (nI u), .ref aNw, .ref aNx, .int w, .int wa, .int (nI ma), .int (nI enm), .long mv, .int mf, .int ml]))]) hP hD [0] [1, 2, 3, 4, 5, 6, 7, 8, 9, 10, 11, 12, 13, 14] rfl rfl (by decide) (by decide) hk1 hFc hP1 hD1
            generalize H1 = H at hP hS ⊢
            have hP : va_P (dC, dI) vwCl [(aMT, .inl (kMT, 65536, .inl B)), (aNw, .inl (kNw, 52650, .inl nw)), (aNx, .inl (kNx, 52650, .inl nx)), (aLO, .inl (kLO, 1, .inr (.inl vo))), (aX, .inr (3, [.ref aR, .ref aS2])), (aR, .inr (0, [.ref aT, .ref aS])), (aT, .inr (2, [.ref aB, .int (nI u), .int (nI en), .int (nI h), .int na, .int w, .int wa])), (aB, .inl (kB, 65536, .inl B)), (aS, .inr (1, [.ref aN, .ref aC])), (aN, .inl (kN, 5, .inl (fun j => nI (cnt j)))), (aC, .inl (kC, 52035, .inl cel)), (aS2, .inr (1, [.ref aN2, .ref aC2])), (aN2, .inl (kN2, 5, .inl (fun j => nI (cntb j)))), (aC2, .inl (kC2, 52035, .inl celb)), (aM, .inr (4, [.int th_27, .ref aMT, .int (nI u), .ref aNw, .ref aNx, .int w, .int wa, .int (nI ma), .int (nI enm), .long mv, .int mf, .int ml]))] H := hP
            have hD : va_D A [(aMT, .inl (kMT, 65536, .inl B)), (aNw, .inl (kNw, 52650, .inl nw)), (aNx, .inl (kNx, 52650, .inl nx)), (aLO, .inl (kLO, 1, .inr (.inl vo))), (aX, .inr (3, [.ref aR, .ref aS2])), (aR, .inr (0, [.ref aT, .ref aS])), (aT, .inr (2, [.ref aB, .int (nI u), .int (nI en), .int (nI h), .int na, .int w, .int wa])), (aB, .inl (kB, 65536, .inl B)), (aS, .inr (1, [.ref aN, .ref aC])), (aN, .inl (kN, 5, .inl (fun j => nI (cnt j)))), (aC, .inl (kC, 52035, .inl cel)), (aS2, .inr (1, [.ref aN2, .ref aC2])), (aN2, .inl (kN2, 5, .inl (fun j => nI (cntb j)))), (aC2, .inl (kC2, 52035, .inl celb)), (aM, .inr (4, [.int th_27, .ref aMT, .int (nI u), .ref aNw, .ref aNx, .int w, .int wa, .int (nI ma), .int (nI enm), .long mv, .int mf, .int ml]))] := hD
            refine lv_icmp_eq (tgt := 432) hx hb d_law_198 (by decide) (fun c_29 => ?_) (fun c_29 => ?_)
            ·
              refine lv_iinc (v := nI (6 * it + 6)) (lv' := [(4, .int (nI (6 * it + 6))), (0, .ref b), (1, .ref aX), (2, .ref aM), (3, .ref aLO)]) hx hb d_law_432 hl (k := 4) rfl (nI_add (6 * it) 6) (by decide) rfl (fun ls hl => ?_)
              refine lv_goto (tgt := 23) hx hb d_law_435 (by decide) ?_
              refine W.widen (k := 15 + (it + 1)) (n := 340480 + 6 * (it + 1)) (by omega) (by omega) ?_
              exact ih (it + 1) aX aR aT aB u en h na w wa kB B aS aN aC kN cnt kC cel aS2 aN2 aC2 kN2 cntb kC2 celb aM th_27 aMT ma enm mv mf ml kMT aNw kNw nw aNx kNx nx aLO kLO vo (by omega) (by omega) hu hg _ _ (hK.sub [0, 1, 2, 3, 4, 5, 6, 7, 8] rfl) (hP.sub [4, 5, 6, 7, 8, 9, 10, 11, 12, 13, 14, 0, 1, 2, 3] rfl) (hD.sub [4, 5, 6, 7, 8, 9, 10, 11, 12, 13, 14, 0, 1, 2, 3] (by decide) rfl) hS ls (lv_sub hl [1, 2, 3, 4, 0] rfl)
            ·
              exact absurd (hw_25.trans hw_28.1.symm) c_29
          ·
            by_cases hv_30 : sel = 3
            ·
              subst hv_30
              refine lv_tableIn (off := 163) (tgt := 203) hx hb d_law_40 (by decide) (by decide) (by decide) (by decide) ?_
              refine lv_aload_n hx hb d_law_203 rfl (lv_at hl 1 rfl) ?_
              refine lv_aload_n hx hb d_law_204 rfl (lv_at hl 3 rfl) ?_
              have hPc := hP.sub (ws' := [(aX, .inr (3, [.ref aR, .ref aS2])), (aR, .inr (0, [.ref aT, .ref aS])), (aT, .inr (2, [.ref aB, .int (nI u), .int (nI en), .int (nI h), .int na, .int w, .int wa])), (aB, .inl (kB, 65536, .inl B)), (aS, .inr (1, [.ref aN, .ref aC])), (aN, .inl (kN, 5, .inl (fun j => nI (cnt j)))), (aC, .inl (kC, 52035, .inl cel)), (aS2, .inr (1, [.ref aN2, .ref aC2])), (aN2, .inl (kN2, 5, .inl (fun j => nI (cntb j)))), (aC2, .inl (kC2, 52035, .inl celb)), (aLO, .inl (kLO, 1, .inr (.inl vo)))]) [0, 1, 2, 3, 4, 5, 6, 7, 8, 9, 14] rfl
              have hDc := hD.sub (ws' := [(aX, .inr (3, [.ref aR, .ref aS2])), (aR, .inr (0, [.ref aT, .ref aS])), (aT, .inr (2, [.ref aB, .int (nI u), .int (nI en), .int (nI h), .int na, .int w, .int wa])), (aB, .inl (kB, 65536, .inl B)), (aS, .inr (1, [.ref aN, .ref aC])), (aN, .inl (kN, 5, .inl (fun j => nI (cnt j)))), (aC, .inl (kC, 52035, .inl cel)), (aS2, .inr (1, [.ref aN2, .ref aC2])), (aN2, .inl (kN2, 5, .inl (fun j => nI (cntb j)))), (aC2, .inl (kC2, 52035, .inl celb)), (aLO, .inl (kLO, 1, .inr (.inl vo)))]) [0, 1, 2, 3, 4, 5, 6, 7, 8, 9, 14] (by decide) rfl
              have hKc := hK.sub (tys' := [(kB, .byte), (kN, .int), (kC, .int), (kN2, .int), (kC2, .int), (kLO, .long)]) [0, 1, 2, 3, 4, 8] rfl
              have hFc := va_free (wc := [(aX, .inr (3, [.ref aR, .ref aS2])), (aR, .inr (0, [.ref aT, .ref aS])), (aT, .inr (2, [.ref aB, .int (nI u), .int (nI en), .int (nI h), .int na, .int w, .int wa])), (aB, .inl (kB, 65536, .inl B)), (aS, .inr (1, [.ref aN, .ref aC])), (aN, .inl (kN, 5, .inl (fun j => nI (cnt j)))), (aC, .inl (kC, 52035, .inl cel)), (aS2, .inr (1, [.ref aN2, .ref aC2])), (aN2, .inl (kN2, 5, .inl (fun j => nI (cntb j)))), (aC2, .inl (kC2, 52035, .inl celb)), (aLO, .inl (kLO, 1, .inr (.inl vo)))]) hD hS hA [0, 1, 2, 3, 4, 5, 6, 7, 8, 9, 14] rfl
              refine va_calli (vx_runSW (As := [.ref aX, .ref aLO]) (rest := []) ⟨hx, hb, hml, hown, hts⟩ (c_Lw_load l hst G dC dI H.size aX aR aT aB u en h na w wa kB B aS aN aC kN cnt kC cel aS2 aN2 aC2 kN2 cntb kC2 celb aLO kLO vo hu) (vx_cwSW (hh := [(0, 8, 11, 13)]) 2 hts (gSW tw_193 tw_194 tw_0 tw_195) rfl rfl rfl (by decide +kernel) ⟨Nat.le_of_ble_eq_true rfl, Nat.le_of_ble_eq_true rfl⟩) (PW_preS hPc hKc hDc hE hS hFc) rfl rfl hl.1 rfl (lv_room (Nat.le_of_ble_eq_true rfl)) d_law_205 ⟨(by show _ ≤ 601024; omega), (by show _ ≤ 7293034; omega)⟩) hS (fun q _ h => hFc q h) hFc (fun r_31 uu t H1 locs ht hvm hw_43 hB hz1 hk1 hS => ?_)
              obtain ⟨u_32, en_33, h_34, na_35, w_36, wa_37, cnt_38, cel_39, aD_40, aE_41, vo_42⟩ := uu
              obtain ⟨hP1, hD1, hsz1⟩ := hB
              rw [ht] at hP1 hsz1
              obtain ⟨hP, hD⟩ := va_join (wr := [(aM, .inr (4, [.int th, .ref aMT, .int (nI u), .ref aNw, .ref aNx, .int w, .int wa, .int (nI ma), .int (nI enm), .long mv, .int mf, .int ml])), (aMT, .inl (kMT, 65536, .inl B)), (aNw, .inl (kNw, 52650, .inl nw)), (aNx, .inl (kNx, 52650, .inl nx))]) (w1 := [(aX, .inr (3, [.ref aR, .ref aE_41])), (aR, .inr (0, [.ref aT, .ref aD_40])), (aT, .inr (2, [.ref aB, .int (nI u_32), .int (nI en_33), .int (nI h_34), .int na_35, .int w_36, .int wa_37])), (aB, .inl (kB, 65536, .inl B)), (aS, .inr (1, [.ref aN, .ref aC])), (aN, .inl (kN, 5, .inl (fun j => nI (cnt_38 j)))), (aC, .inl (kC, 52035, .inl cel_39)), (aS2, .inr (1, [.ref aN2, .ref aC2])), (aN2, .inl (kN2, 5, .inl (fun j => nI (cntb j)))), (aC2, .inl (kC2, 52035, .inl celb)), (aLO, .inl (kLO, 1, .inr (.inl vo_42)))]) hP hD [0, 1, 2, 3, 4, 5, 6, 7, 8, 9, 14] [10, 11, 12, 13] rfl rfl (by decide) (by decide) hk1 hFc hP1 hD1
              generalize H1 = H at hP hS ⊢
              have hP : va_P (dC, dI) vwCl [(aM, .inr (4, [.int th, .ref aMT, .int (nI u), .ref aNw, .ref aNx, .int w, .int wa, .int (nI ma), .int (nI enm), .long mv, .int mf, .int ml])), (aMT, .inl (kMT, 65536, .inl B)), (aNw, .inl (kNw, 52650, .inl nw)), (aNx, .inl (kNx, 52650, .inl nx)), (aX, .inr (3, [.ref aR, .ref aE_41])), (aR, .inr (0, [.ref aT, .ref aD_40])), (aT, .inr (2, [.ref aB, .int (nI u_32), .int (nI en_33), .int (nI h_34), .int na_35, .int w_36, .int wa_37])), (aB, .inl (kB, 65536, .inl B)), (aS, .inr (1, [.ref aN, .ref aC])), (aN, .inl (kN, 5, .inl (fun j => nI (cnt_38 j)))), (aC, .inl (kC, 52035, .inl cel_39)), (aS2, .inr (1, [.ref aN2, .ref aC2])), (aN2, .inl (kN2, 5, .inl (fun j => nI (cntb j)))), (aC2, .inl (kC2, 52035, .inl celb)), (aLO, .inl (kLO, 1, .inr (.inl vo_42)))] H := hP
              have hD : va_D A [(aM, .inr (4, [.int th, .ref aMT, .int (nI u), .ref aNw, .ref aNx, .int w, .int wa, .int (nI ma), .int (nI enm), .long mv, .int mf, .int ml])), (aMT, .inl (kMT, 65536, .inl B)), (aNw, .inl (kNw, 52650, .inl nw)), (aNx, .inl (kNx, 52650, .inl nx)), (aX, .inr (3, [.ref aR, .ref aE_41])), (aR, .inr (0, [.ref aT, .ref aD_40])), (aT, .inr (2, [.ref aB, .int (nI u_32), .int (nI en_33), .int (nI h_34), .int na_35, .int w_36, .int wa_37])), (aB, .inl (kB, 65536, .inl B)), (aS, .inr (1, [.ref aN, .ref aC])), (aN, .inl (kN, 5, .inl (fun j => nI (cnt_38 j)))), (aC, .inl (kC, 52035, .inl cel_39)), (aS2, .inr (1, [.ref aN2, .ref aC2])), (aN2, .inl (kN2, 5, .inl (fun j => nI (cntb j)))), (aC2, .inl (kC2, 52035, .inl celb)), (aLO, .inl (kLO, 1, .inr (.inl vo_42)))] := hD
              obtain ⟨eu, hw_43⟩ := hw_43
              subst eu
              refine lv_istore (lv' := [(5, .int r_31), (0, .ref b), (1, .ref aX), (2, .ref aM), (3, .ref aLO), (4, .int (nI (6 * it)))]) hx hb d_law_208 hl (by decide) rfl (fun ls hl => ?_)
              refine lv_aload_n hx hb d_law_210 rfl (lv_at hl 3 rfl) ?_
              have hPc := hP.sub (ws' := [(aM, .inr (4, [.int th, .ref aMT, .int (nI u), .ref aNw, .ref aNx, .int w, .int wa, .int (nI ma), .int (nI enm), .long mv, .int mf, .int ml])), (aMT, .inl (kMT, 65536, .inl B)), (aNw, .inl (kNw, 52650, .inl nw)), (aNx, .inl (kNx, 52650, .inl nx))]) [0, 1, 2, 3] rfl
              have hDc := hD.sub (ws' := [(aM, .inr (4, [.int th, .ref aMT, .int (nI u), .ref aNw, .ref aNx, .int w, .int wa, .int (nI ma), .int (nI enm), .long mv, .int mf, .int ml])), (aMT, .inl (kMT, 65536, .inl B)), (aNw, .inl (kNw, 52650, .inl nw)), (aNx, .inl (kNx, 52650, .inl nx))]) [0, 1, 2, 3] (by decide) rfl
              have hKc := hK.sub (tys' := [(kMT, .byte), (kNw, .int), (kNx, .int)]) [5, 6, 7] rfl
              have hFc := va_free (wc := [(aM, .inr (4, [.int th, .ref aMT, .int (nI u), .ref aNw, .ref aNx, .int w, .int wa, .int (nI ma), .int (nI enm), .long mv, .int mf, .int ml])), (aMT, .inl (kMT, 65536, .inl B)), (aNw, .inl (kNw, 52650, .inl nw)), (aNx, .inl (kNx, 52650, .inl nx))]) hD hS hA [0, 1, 2, 3] rfl
              refine va_calli (va_runV (As := []) (rest := []) ⟨hx, hb, hml, hown, hts⟩ (c_Md_load l G dC dI H.size aM th aMT u w wa ma enm mv mf ml kMT B aNw kNw nw aNx kNx nx (zC0 cnt) hu (fun _ hj => zC0_z hj)) (cwV 0 hts (gV tw_529 tw_530 tw_531 tw_5 tw_532 rfl) rfl rfl rfl (by decide +kernel) ⟨Nat.le_of_ble_eq_true rfl, Nat.le_of_ble_eq_true rfl⟩) (PW_preV hPc hKc hDc hE hS hFc (ci := 4) (q0 := 0) rfl rfl) rfl rfl hl.1 rfl (lv_room (Nat.le_of_ble_eq_true rfl)) d_law_211 ⟨(by show _ ≤ 601024; omega), (by show _ ≤ 7293034; omega)⟩) hS (fun q _ h => hFc q h) hFc (fun r_44 uu t H1 locs ht hvm hw_57 hB hz1 hk1 hS => ?_)
              obtain ⟨th_45, mu_46, aP_47, aQ_48, mw_49, mwa_50, ma_51, en_52, mv_53, mf_54, ml_55, nx_56⟩ := uu
              obtain ⟨hP1, hD1, hsz1⟩ := hB
              rw [ht] at hP1 hsz1
              obtain ⟨hP, hD⟩ := va_join (wr := [(aX, .inr (3, [.ref aR, .ref aE_41])), (aR, .inr (0, [.ref aT, .ref aD_40])), (aT, .inr (2, [.ref aB, .int (nI 0), .int (nI en_33), .int (nI h_34), .int na_35, .int w_36, .int wa_37])), (aB, .inl (kB, 65536, .inl B)), (aS, .inr (1, [.ref aN, .ref aC])), (aN, .inl (kN, 5, .inl (fun j => nI (cnt_38 j)))), (aC, .inl (kC, 52035, .inl cel_39)), (aS2, .inr (1, [.ref aN2, .ref aC2])), (aN2, .inl (kN2, 5, .inl (fun j => nI (cntb j)))), (aC2, .inl (kC2, 52035, .inl celb)), (aLO, .inl (kLO, 1, .inr (.inl vo_42)))]) (w1 := [(aM, .inr (4, [.int th_45, .ref aMT, .int (nI mu_46), .ref aP_47, .ref aQ_48, .int mw_49, .int mwa_50, .int (nI ma_51), .int (nI en_52), .long mv_53, .int mf_54, .int ml_55])), (aMT, .inl (kMT, 65536, .inl B)), (aNw, .inl (kNw, 52650, .inl nw)), (aNx, .inl (kNx, 52650, .inl nx_56))]) hP hD [0, 1, 2, 3] [4, 5, 6, 7, 8, 9, 10, 11, 12, 13, 14] rfl rfl (by decide) (by decide) hk1 hFc hP1 hD1
              generalize H1 = H at hP hS ⊢
              have hP : va_P (dC, dI) vwCl [(aX, .inr (3, [.ref aR, .ref aE_41])), (aR, .inr (0, [.ref aT, .ref aD_40])), (aT, .inr (2, [.ref aB, .int (nI 0), .int (nI en_33), .int (nI h_34), .int na_35, .int w_36, .int wa_37])), (aB, .inl (kB, 65536, .inl B)), (aS, .inr (1, [.ref aN, .ref aC])), (aN, .inl (kN, 5, .inl (fun j => nI (cnt_38 j)))), (aC, .inl (kC, 52035, .inl cel_39)), (aS2, .inr (1, [.ref aN2, .ref aC2])), (aN2, .inl (kN2, 5, .inl (fun j => nI (cntb j)))), (aC2, .inl (kC2, 52035, .inl celb)), (aLO, .inl (kLO, 1, .inr (.inl vo_42))), (aM, .inr (4, [.int th_45, .ref aMT, .int (nI mu_46), .ref aP_47, .ref aQ_48, .int mw_49, .int mwa_50, .int (nI ma_51), .int (nI en_52), .long mv_53, .int mf_54, .int ml_55])), (aMT, .inl (kMT, 65536, .inl B)), (aNw, .inl (kNw, 52650, .inl nw)), (aNx, .inl (kNx, 52650, .inl nx_56))] H := hP
              have hD : va_D A [(aX, .inr (3, [.ref aR, .ref aE_41])), (aR, .inr (0, [.ref aT, .ref aD_40])), (aT, .inr (2, [.ref aB, .int (nI 0), .int (nI en_33), .int (nI h_34), .int na_35, .int w_36, .int wa_37])), (aB, .inl (kB, 65536, .inl B)), (aS, .inr (1, [.ref aN, .ref aC])), (aN, .inl (kN, 5, .inl (fun j => nI (cnt_38 j)))), (aC, .inl (kC, 52035, .inl cel_39)), (aS2, .inr (1, [.ref aN2, .ref aC2])), (aN2, .inl (kN2, 5, .inl (fun j => nI (cntb j)))), (aC2, .inl (kC2, 52035, .inl celb)), (aLO, .inl (kLO, 1, .inr (.inl vo_42))), (aM, .inr (4, [.int th_45, .ref aMT, .int (nI mu_46), .ref aP_47, .ref aQ_48, .int mw_49, .int mwa_50, .int (nI ma_51), .int (nI en_52), .long mv_53, .int mf_54, .int ml_55])), (aMT, .inl (kMT, 65536, .inl B)), (aNw, .inl (kNw, 52650, .inl nw)), (aNx, .inl (kNx, 52650, .inl nx_56))] := hD
              obtain ⟨em, hw_57⟩ := hw_57
              subst em
              have hsim := zSim_load (B := B) (u := u) (cnt := cnt) (cel := cel) (nx := nx)
              rcases hw_43 with ⟨e0, hzr, e1, e2, e3, e4, hvo⟩ | ⟨e0, e3, e4, kq, hzr, e2⟩
              ·
                rcases hw_57 with ⟨g0, hmr, g1, g2, g3, g4, g5⟩ | ⟨g0, g5, g3, g4, km, hmr, g2⟩
                ·
                  have hg2 := zSim_oo hsim hzr hmr
                  dsimp only at hg2
                  have e0 := e0.symm; subst e0
                  have e1 := e1.symm; subst e1
                  have e2 := e2.symm; subst e2
                  have e3 := e3.symm; subst e3
                  have e4 := e4.symm; subst e4
                  have g0 := g0.symm; subst g0
                  have g1 := g1.symm; subst g1
                  have g2 := g2.symm; subst g2
                  have g3 := g3.symm; subst g3
                  have g4 := g4.symm; subst g4
                  have g5 := g5.symm; subst g5
                  refine lv_istore (lv' := [(6, .int (nx_56 3)), (5, .int 0), (0, .ref b), (1, .ref aX), (2, .ref aM), (3, .ref aLO), (4, .int (nI (6 * it)))]) hx hb d_law_214 hl (by decide) rfl (fun ls hl => ?_)
                  refine lv_aload_n hx hb d_law_216 rfl (lv_at hl 4 rfl) ?_
                  have hPc := hP.sub (ws' := [(aM, .inr (4, [.int 0, .ref aMT, .int (nI 0), .ref aNx, .ref aNw, .int 0, .int 0, .int (nI ma_51), .int (nI en_52), .long mv_53, .int mf_54, .int ml_55]))]) [11] rfl
                  have hDc := hD.sub (ws' := [(aM, .inr (4, [.int 0, .ref aMT, .int (nI 0), .ref aNx, .ref aNw, .int 0, .int 0, .int (nI ma_51), .int (nI en_52), .long mv_53, .int mf_54, .int ml_55]))]) [11] (by decide) rfl
                  have hKc := hK.sub (tys' := []) [] rfl
                  have hFc := va_free (wc := [(aM, .inr (4, [.int 0, .ref aMT, .int (nI 0), .ref aNx, .ref aNw, .int 0, .int 0, .int (nI ma_51), .int (nI en_52), .long mv_53, .int mf_54, .int ml_55]))]) hD hS hA [11] rfl
                  refine va_calli (va_runV (As := []) (rest := []) ⟨hx, hb, hml, hown, hts⟩ (c_Md_thrown l G dC dI H.size aM 0 aMT 0 aNx aNw 0 0 ma_51 en_52 mv_53 mf_54 ml_55) (cwV 0 hts (gV tw_513 tw_514 tw_515 tw_5 tw_516 rfl) rfl rfl rfl (by decide +kernel) ⟨Nat.le_of_ble_eq_true rfl, Nat.le_of_ble_eq_true rfl⟩) (PW_preV hPc hKc hDc hE hS hFc (ci := 4) (q0 := 0) rfl rfl) rfl rfl hl.1 rfl (lv_room (Nat.le_of_ble_eq_true rfl)) d_law_217 ⟨(by show _ ≤ 601024; omega), (by show _ ≤ 7293034; omega)⟩) hS (fun q _ h => hFc q h) hFc (fun r_58 uu t H1 locs ht hvm hw_59 hB hz1 hk1 hS => ?_)
                  obtain ⟨hP1, hD1, hsz1⟩ := hB
                  rw [ht] at hP1 hsz1
                  obtain ⟨hP, hD⟩ := va_join (wr := [(aX, .inr (3, [.ref aR, .ref aS])), (aR, .inr (0, [.ref aT, .ref aS2])), (aT, .inr (2, [.ref aB, .int (nI 0), .int (nI en_33), .int (nI h_34), .int na_35, .int 0, .int 0])), (aB, .inl (kB, 65536, .inl B)), (aS, .inr (1, [.ref aN, .ref aC])), (aN, .inl (kN, 5, .inl (fun j => nI (cnt_38 j)))), (aC, .inl (kC, 52035, .inl cel_39)), (aS2, .inr (1, [.ref aN2, .ref aC2])), (aN2, .inl (kN2, 5, .inl (fun j => nI (cntb j)))), (aC2, .inl (kC2, 52035, .inl celb)), (aLO, .inl (kLO, 1, .inr (.inl vo_42))), (aMT, .inl (kMT, 65536, .inl B)), (aNw, .inl (kNw, 52650, .inl nw)), (aNx, .inl (kNx, 52650, .inl nx_56))]) (w1 := [(aM, .inr (4, [.int 0, .ref aMT, .int (nI 0), .ref aNx, .ref aNw, .int 0, .int 0, .int (nI ma_51), .int (nI en_52), .long mv_53, .int mf_54, .int ml_55]))]) hP hD [11] [0, 1, 2, 3, 4, 5, 6, 7, 8, 9, 10, 12, 13, 14] rfl rfl (by decide) (by decide) hk1 hFc hP1 hD1
                  generalize H1 = H at hP hS ⊢
                  have hP : va_P (dC, dI) vwCl [(aX, .inr (3, [.ref aR, .ref aS])), (aR, .inr (0, [.ref aT, .ref aS2])), (aT, .inr (2, [.ref aB, .int (nI 0), .int (nI en_33), .int (nI h_34), .int na_35, .int 0, .int 0])), (aB, .inl (kB, 65536, .inl B)), (aS, .inr (1, [.ref aN, .ref aC])), (aN, .inl (kN, 5, .inl (fun j => nI (cnt_38 j)))), (aC, .inl (kC, 52035, .inl cel_39)), (aS2, .inr (1, [.ref aN2, .ref aC2])), (aN2, .inl (kN2, 5, .inl (fun j => nI (cntb j)))), (aC2, .inl (kC2, 52035, .inl celb)), (aLO, .inl (kLO, 1, .inr (.inl vo_42))), (aMT, .inl (kMT, 65536, .inl B)), (aNw, .inl (kNw, 52650, .inl nw)), (aNx, .inl (kNx, 52650, .inl nx_56)), (aM, .inr (4, [.int 0, .ref aMT, .int (nI 0), .ref aNx, .ref aNw, .int 0, .int 0, .int (nI ma_51), .int (nI en_52), .long mv_53, .int mf_54, .int ml_55]))] H := hP
                  have hD : va_D A [(aX, .inr (3, [.ref aR, .ref aS])), (aR, .inr (0, [.ref aT, .ref aS2])), (aT, .inr (2, [.ref aB, .int (nI 0), .int (nI en_33), .int (nI h_34), .int na_35, .int 0, .int 0])), (aB, .inl (kB, 65536, .inl B)), (aS, .inr (1, [.ref aN, .ref aC])), (aN, .inl (kN, 5, .inl (fun j => nI (cnt_38 j)))), (aC, .inl (kC, 52035, .inl cel_39)), (aS2, .inr (1, [.ref aN2, .ref aC2])), (aN2, .inl (kN2, 5, .inl (fun j => nI (cntb j)))), (aC2, .inl (kC2, 52035, .inl celb)), (aLO, .inl (kLO, 1, .inr (.inl vo_42))), (aMT, .inl (kMT, 65536, .inl B)), (aNw, .inl (kNw, 52650, .inl nw)), (aNx, .inl (kNx, 52650, .inl nx_56)), (aM, .inr (4, [.int 0, .ref aMT, .int (nI 0), .ref aNx, .ref aNw, .int 0, .int 0, .int (nI ma_51), .int (nI en_52), .long mv_53, .int mf_54, .int ml_55]))] := hD
                  subst hw_59
                  refine lv_iload hx hb d_law_220 (lv_at hl 1 rfl) ?_
                  refine lv_icmp_eq (tgt := 227) hx hb d_law_222 (by decide) (fun c_60 => ?_) (fun c_60 => ?_)
                  ·
                    refine lv_iload hx hb d_law_227 (lv_at hl 1 rfl) ?_
                    refine lv_if_ne (tgt := 244) hx hb d_law_229 (by decide) (fun c_61 => ?_) (fun c_61 => ?_)
                    ·
                      exact absurd (by decide) c_61
                    ·
                      refine lv_aload_n hx hb d_law_232 rfl (lv_at hl 5 rfl) ?_
                      refine lv_iconst (v := 0) hx hb d_law_233 (by decide) ?_
                      refine va_lald (D := (dC, dI)) (i := 0) hx hb hK hP 10 8 rfl rfl (vp_in_nI (n := 0) (N := 1) (by decide) (by decide)) d_law_234 ?_
                      refine lv_iload hx hb d_law_235 (lv_at hl 0 rfl) ?_
                      refine lv_i2l (v := (nx_56 3).toInt64) hx hb d_law_237 rfl ?_
                      refine W.lcmp hx hb d_law_238 ?_
                      refine lv_if_eq (tgt := 244) hx hb d_law_239 (by decide) (fun c_62 => ?_) (fun c_62 => ?_)
                      ·
                        refine lv_goto (tgt := 432) hx hb d_law_244 (by decide) ?_
                        refine lv_iinc (v := nI (6 * it + 6)) (lv' := [(4, .int (nI (6 * it + 6))), (6, .int (nx_56 3)), (5, .int 0), (0, .ref b), (1, .ref aX), (2, .ref aM), (3, .ref aLO)]) hx hb d_law_432 hl (k := 6) rfl (nI_add (6 * it) 6) (by decide) rfl (fun ls hl => ?_)
                        refine lv_goto (tgt := 23) hx hb d_law_435 (by decide) ?_
                        refine W.widen (k := 15 + (it + 1)) (n := 340480 + 6 * (it + 1)) (by omega) (by omega) ?_
                        exact ih (it + 1) aX aR aT aB 0 en_33 h_34 na_35 0 0 kB B aS2 aN2 aC2 kN2 cntb kC2 celb aS aN aC kN cnt_38 kC cel_39 aM 0 aMT ma_51 en_52 mv_53 mf_54 ml_55 kMT aNx kNx nx_56 aNw kNw nw aLO kLO vo_42 (by omega) (by omega) (by omega) hg2 _ _ (hK.sub [0, 3, 4, 1, 2, 5, 7, 6, 8] rfl) (hP.sub [0, 1, 2, 3, 7, 8, 9, 4, 5, 6, 14, 11, 13, 12, 10] rfl) (hD.sub [0, 1, 2, 3, 7, 8, 9, 4, 5, 6, 14, 11, 13, 12, 10] (by decide) rfl) hS ls (lv_sub hl [3, 4, 5, 6, 0] rfl)
                      ·
                        exact absurd ((lg_cmp_eq _ _).mpr (hvo.trans (congrArg Int32.toInt64 (hg2.2.1 3 (by decide)).symm))) c_62
                  ·
                    exact absurd (by decide) c_60
                ·
                  exact (zSim_oe hsim hzr hmr).elim
              ·
                rcases hw_57 with ⟨g0, hmr, g1, g2, g3, g4, g5⟩ | ⟨g0, g5, g3, g4, km, hmr, g2⟩
                ·
                  exact (zSim_eo hsim hzr hmr).elim
                ·
                  have hee := zSim_ee hsim hzr hmr
                  obtain ⟨ew, ek⟩ := Prod.mk.inj hee
                  have ew := ew.symm; subst ew
                  have ek := ek.symm; subst ek
                  have e0 := e0.symm; subst e0
                  have e2 := e2.symm; subst e2
                  have e3 := e3.symm; subst e3
                  have e4 := e4.symm; subst e4
                  have g0 := g0.symm; subst g0
                  have g2 := g2.symm; subst g2
                  have g3 := g3.symm; subst g3
                  have g4 := g4.symm; subst g4
                  have g5 := g5.symm; subst g5
                  refine lv_istore (lv' := [(6, .int 0), (5, .int 1), (0, .ref b), (1, .ref aX), (2, .ref aM), (3, .ref aLO), (4, .int (nI (6 * it)))]) hx hb d_law_214 hl (by decide) rfl (fun ls hl => ?_)
                  refine lv_aload_n hx hb d_law_216 rfl (lv_at hl 4 rfl) ?_
                  have hPc := hP.sub (ws' := [(aM, .inr (4, [.int 1, .ref aMT, .int (nI 0), .ref aNw, .ref aNx, .int w_36, .int (nI kq), .int (nI ma_51), .int (nI en_52), .long mv_53, .int mf_54, .int ml_55]))]) [11] rfl
                  have hDc := hD.sub (ws' := [(aM, .inr (4, [.int 1, .ref aMT, .int (nI 0), .ref aNw, .ref aNx, .int w_36, .int (nI kq), .int (nI ma_51), .int (nI en_52), .long mv_53, .int mf_54, .int ml_55]))]) [11] (by decide) rfl
                  have hKc := hK.sub (tys' := []) [] rfl
                  have hFc := va_free (wc := [(aM, .inr (4, [.int 1, .ref aMT, .int (nI 0), .ref aNw, .ref aNx, .int w_36, .int (nI kq), .int (nI ma_51), .int (nI en_52), .long mv_53, .int mf_54, .int ml_55]))]) hD hS hA [11] rfl
                  refine va_calli (va_runV (As := []) (rest := []) ⟨hx, hb, hml, hown, hts⟩ (c_Md_thrown l G dC dI H.size aM 1 aMT 0 aNw aNx w_36 (nI kq) ma_51 en_52 mv_53 mf_54 ml_55) (cwV 0 hts (gV tw_513 tw_514 tw_515 tw_5 tw_516 rfl) rfl rfl rfl (by decide +kernel) ⟨Nat.le_of_ble_eq_true rfl, Nat.le_of_ble_eq_true rfl⟩) (PW_preV hPc hKc hDc hE hS hFc (ci := 4) (q0 := 0) rfl rfl) rfl rfl hl.1 rfl (lv_room (Nat.le_of_ble_eq_true rfl)) d_law_217 ⟨(by show _ ≤ 601024; omega), (by show _ ≤ 7293034; omega)⟩) hS (fun q _ h => hFc q h) hFc (fun r_63 uu t H1 locs ht hvm hw_64 hB hz1 hk1 hS => ?_)
                  obtain ⟨hP1, hD1, hsz1⟩ := hB
                  rw [ht] at hP1 hsz1
                  obtain ⟨hP, hD⟩ := va_join (wr := [(aX, .inr (3, [.ref aR, .ref aS2])), (aR, .inr (0, [.ref aT, .ref aS])), (aT, .inr (2, [.ref aB, .int (nI 0), .int (nI en_33), .int (nI h_34), .int na_35, .int w_36, .int (nI kq)])), (aB, .inl (kB, 65536, .inl B)), (aS, .inr (1, [.ref aN, .ref aC])), (aN, .inl (kN, 5, .inl (fun j => nI (cnt_38 j)))), (aC, .inl (kC, 52035, .inl cel_39)), (aS2, .inr (1, [.ref aN2, .ref aC2])), (aN2, .inl (kN2, 5, .inl (fun j => nI (cntb j)))), (aC2, .inl (kC2, 52035, .inl celb)), (aLO, .inl (kLO, 1, .inr (.inl vo_42))), (aMT, .inl (kMT, 65536, .inl B)), (aNw, .inl (kNw, 52650, .inl nw)), (aNx, .inl (kNx, 52650, .inl nx_56))]) (w1 := [(aM, .inr (4, [.int 1, .ref aMT, .int (nI 0), .ref aNw, .ref aNx, .int w_36, .int (nI kq), .int (nI ma_51), .int (nI en_52), .long mv_53, .int mf_54, .int ml_55]))]) hP hD [11] [0, 1, 2, 3, 4, 5, 6, 7, 8, 9, 10, 12, 13, 14] rfl rfl (by decide) (by decide) hk1 hFc hP1 hD1
                  generalize H1 = H at hP hS ⊢
                  have hP : va_P (dC, dI) vwCl [(aX, .inr (3, [.ref aR, .ref aS2])), (aR, .inr (0, [.ref aT, .ref aS])), (aT, .inr (2, [.ref aB, .int (nI 0), .int (nI en_33), .int (nI h_34), .int na_35, .int w_36, .int (nI kq)])), (aB, .inl (kB, 65536, .inl B)), (aS, .inr (1, [.ref aN, .ref aC])), (aN, .inl (kN, 5, .inl (fun j => nI (cnt_38 j)))), (aC, .inl (kC, 52035, .inl cel_39)), (aS2, .inr (1, [.ref aN2, .ref aC2])), (aN2, .inl (kN2, 5, .inl (fun j => nI (cntb j)))), (aC2, .inl (kC2, 52035, .inl celb)), (aLO, .inl (kLO, 1, .inr (.inl vo_42))), (aMT, .inl (kMT, 65536, .inl B)), (aNw, .inl (kNw, 52650, .inl nw)), (aNx, .inl (kNx, 52650, .inl nx_56)), (aM, .inr (4, [.int 1, .ref aMT, .int (nI 0), .ref aNw, .ref aNx, .int w_36, .int (nI kq), .int (nI ma_51), .int (nI en_52), .long mv_53, .int mf_54, .int ml_55]))] H := hP
                  have hD : va_D A [(aX, .inr (3, [.ref aR, .ref aS2])), (aR, .inr (0, [.ref aT, .ref aS])), (aT, .inr (2, [.ref aB, .int (nI 0), .int (nI en_33), .int (nI h_34), .int na_35, .int w_36, .int (nI kq)])), (aB, .inl (kB, 65536, .inl B)), (aS, .inr (1, [.ref aN, .ref aC])), (aN, .inl (kN, 5, .inl (fun j => nI (cnt_38 j)))), (aC, .inl (kC, 52035, .inl cel_39)), (aS2, .inr (1, [.ref aN2, .ref aC2])), (aN2, .inl (kN2, 5, .inl (fun j => nI (cntb j)))), (aC2, .inl (kC2, 52035, .inl celb)), (aLO, .inl (kLO, 1, .inr (.inl vo_42))), (aMT, .inl (kMT, 65536, .inl B)), (aNw, .inl (kNw, 52650, .inl nw)), (aNx, .inl (kNx, 52650, .inl nx_56)), (aM, .inr (4, [.int 1, .ref aMT, .int (nI 0), .ref aNw, .ref aNx, .int w_36, .int (nI kq), .int (nI ma_51), .int (nI en_52), .long mv_53, .int mf_54, .int ml_55]))] := hD
                  subst hw_64
                  refine lv_iload hx hb d_law_220 (lv_at hl 1 rfl) ?_
                  refine lv_icmp_eq (tgt := 227) hx hb d_law_222 (by decide) (fun c_65 => ?_) (fun c_65 => ?_)
                  ·
                    refine lv_iload hx hb d_law_227 (lv_at hl 1 rfl) ?_
                    refine lv_if_ne (tgt := 244) hx hb d_law_229 (by decide) (fun c_66 => ?_) (fun c_66 => ?_)
                    ·
                      refine lv_goto (tgt := 432) hx hb d_law_244 (by decide) ?_
                      refine lv_iinc (v := nI (6 * it + 6)) (lv' := [(4, .int (nI (6 * it + 6))), (6, .int 0), (5, .int 1), (0, .ref b), (1, .ref aX), (2, .ref aM), (3, .ref aLO)]) hx hb d_law_432 hl (k := 6) rfl (nI_add (6 * it) 6) (by decide) rfl (fun ls hl => ?_)
                      refine lv_goto (tgt := 23) hx hb d_law_435 (by decide) ?_
                      refine W.widen (k := 15 + (it + 1)) (n := 340480 + 6 * (it + 1)) (by omega) (by omega) ?_
                      exact ih (it + 1) aX aR aT aB 0 en_33 h_34 na_35 w_36 (nI kq) kB B aS aN aC kN cnt_38 kC cel_39 aS2 aN2 aC2 kN2 cntb kC2 celb aM 1 aMT ma_51 en_52 mv_53 mf_54 ml_55 kMT aNw kNw nw aNx kNx nx_56 aLO kLO vo_42 (by omega) (by omega) (by omega) hg _ _ (hK.sub [0, 1, 2, 3, 4, 5, 6, 7, 8] rfl) (hP.sub [0, 1, 2, 3, 4, 5, 6, 7, 8, 9, 14, 11, 12, 13, 10] rfl) (hD.sub [0, 1, 2, 3, 4, 5, 6, 7, 8, 9, 14, 11, 12, 13, 10] (by decide) rfl) hS ls (lv_sub hl [3, 4, 5, 6, 0] rfl)
                    ·
                      exact absurd c_66 (by decide)
                  ·
                    exact absurd (by decide) c_65
            ·
              by_cases hv_67 : sel = 4
              ·
                subst hv_67
                refine lv_tableIn (off := 207) (tgt := 247) hx hb d_law_40 (by decide) (by decide) (by decide) (by decide) ?_
                refine lv_aload_n hx hb d_law_247 rfl (lv_at hl 1 rfl) ?_
                refine lv_aload_n hx hb d_law_248 rfl (lv_at hl 0 rfl) ?_
                refine lv_iload hx hb d_law_249 (lv_at hl 4 rfl) ?_
                refine lv_iconst (v := 1) hx hb d_law_251 (by decide) ?_
                refine lv_iadd hx hb d_law_252 ?_
                refine zt_top (nI_add (6 * it) 1) ?_
                refine va_sld (i := nI ((6 * it) + 1)) hx hb hX hbl hbA hS (vp_in_nI (by omega) (by omega)) d_law_253 ?_
                refine zt_top (by rw [nI_clamp (by omega)]) ?_
                have hPc := hP.sub (ws' := [(aX, .inr (3, [.ref aR, .ref aS2])), (aR, .inr (0, [.ref aT, .ref aS])), (aT, .inr (2, [.ref aB, .int (nI u), .int (nI en), .int (nI h), .int na, .int w, .int wa])), (aB, .inl (kB, 65536, .inl B)), (aS, .inr (1, [.ref aN, .ref aC])), (aN, .inl (kN, 5, .inl (fun j => nI (cnt j)))), (aC, .inl (kC, 52035, .inl cel)), (aS2, .inr (1, [.ref aN2, .ref aC2])), (aN2, .inl (kN2, 5, .inl (fun j => nI (cntb j)))), (aC2, .inl (kC2, 52035, .inl celb))]) [0, 1, 2, 3, 4, 5, 6, 7, 8, 9] rfl
                have hDc := hD.sub (ws' := [(aX, .inr (3, [.ref aR, .ref aS2])), (aR, .inr (0, [.ref aT, .ref aS])), (aT, .inr (2, [.ref aB, .int (nI u), .int (nI en), .int (nI h), .int na, .int w, .int wa])), (aB, .inl (kB, 65536, .inl B)), (aS, .inr (1, [.ref aN, .ref aC])), (aN, .inl (kN, 5, .inl (fun j => nI (cnt j)))), (aC, .inl (kC, 52035, .inl cel)), (aS2, .inr (1, [.ref aN2, .ref aC2])), (aN2, .inl (kN2, 5, .inl (fun j => nI (cntb j)))), (aC2, .inl (kC2, 52035, .inl celb))]) [0, 1, 2, 3, 4, 5, 6, 7, 8, 9] (by decide) rfl
                have hKc := hK.sub (tys' := [(kB, .byte), (kN, .int), (kC, .int), (kN2, .int), (kC2, .int)]) [0, 1, 2, 3, 4] rfl
                have hFc := va_free (wc := [(aX, .inr (3, [.ref aR, .ref aS2])), (aR, .inr (0, [.ref aT, .ref aS])), (aT, .inr (2, [.ref aB, .int (nI u), .int (nI en), .int (nI h), .int na, .int w, .int wa])), (aB, .inl (kB, 65536, .inl B)), (aS, .inr (1, [.ref aN, .ref aC])), (aN, .inl (kN, 5, .inl (fun j => nI (cnt j)))), (aC, .inl (kC, 52035, .inl cel)), (aS2, .inr (1, [.ref aN2, .ref aC2])), (aN2, .inl (kN2, 5, .inl (fun j => nI (cntb j)))), (aC2, .inl (kC2, 52035, .inl celb))]) hD hS hA [0, 1, 2, 3, 4, 5, 6, 7, 8, 9] rfl
                refine va_calli (va_runV (As := [.int (xs ((6 * it) + 1))]) (rest := []) ⟨hx, hb, hml, hown, hts⟩ (c_St_error l G dC dI H.size aX aR aT aB u en h na w wa kB B aS aN aC kN cnt kC cel aS2 aN2 aC2 kN2 cntb kC2 celb (xs ((6 * it) + 1))) (cwV 1 hts (gV tw_126 tw_127 tw_128 tw_1 tw_129 rfl) rfl rfl rfl (by decide +kernel) ⟨Nat.le_of_ble_eq_true rfl, Nat.le_of_ble_eq_true rfl⟩) (PW_preV hPc hKc hDc hE hS hFc (ci := 3) (q0 := 0) rfl rfl) rfl rfl hl.1 rfl (lv_room (Nat.le_of_ble_eq_true rfl)) d_law_254 ⟨(by show _ ≤ 601024; omega), (by show _ ≤ 7293034; omega)⟩) hS (fun q _ h => hFc q h) hFc (fun r_68 uu t H1 locs ht hvm hw_69 hB hz1 hk1 hS => ?_)
                obtain ⟨hP1, hD1, hsz1⟩ := hB
                rw [ht] at hP1 hsz1
                obtain ⟨hP, hD⟩ := va_join (wr := [(aM, .inr (4, [.int th, .ref aMT, .int (nI u), .ref aNw, .ref aNx, .int w, .int wa, .int (nI ma), .int (nI enm), .long mv, .int mf, .int ml])), (aMT, .inl (kMT, 65536, .inl B)), (aNw, .inl (kNw, 52650, .inl nw)), (aNx, .inl (kNx, 52650, .inl nx)), (aLO, .inl (kLO, 1, .inr (.inl vo)))]) (w1 := [(aX, .inr (3, [.ref aR, .ref aS2])), (aR, .inr (0, [.ref aT, .ref aS])), (aT, .inr (2, [.ref aB, .int (nI u), .int (nI en), .int (nI h), .int na, .int w, .int wa])), (aB, .inl (kB, 65536, .inl B)), (aS, .inr (1, [.ref aN, .ref aC])), (aN, .inl (kN, 5, .inl (fun j => nI (cnt j)))), (aC, .inl (kC, 52035, .inl cel)), (aS2, .inr (1, [.ref aN2, .ref aC2])), (aN2, .inl (kN2, 5, .inl (fun j => nI (cntb j)))), (aC2, .inl (kC2, 52035, .inl celb))]) hP hD [0, 1, 2, 3, 4, 5, 6, 7, 8, 9] [10, 11, 12, 13, 14] rfl rfl (by decide) (by decide) hk1 hFc hP1 hD1
                generalize H1 = H at hP hS ⊢
                have hP : va_P (dC, dI) vwCl [(aM, .inr (4, [.int th, .ref aMT, .int (nI u), .ref aNw, .ref aNx, .int w, .int wa, .int (nI ma), .int (nI enm), .long mv, .int mf, .int ml])), (aMT, .inl (kMT, 65536, .inl B)), (aNw, .inl (kNw, 52650, .inl nw)), (aNx, .inl (kNx, 52650, .inl nx)), (aLO, .inl (kLO, 1, .inr (.inl vo))), (aX, .inr (3, [.ref aR, .ref aS2])), (aR, .inr (0, [.ref aT, .ref aS])), (aT, .inr (2, [.ref aB, .int (nI u), .int (nI en), .int (nI h), .int na, .int w, .int wa])), (aB, .inl (kB, 65536, .inl B)), (aS, .inr (1, [.ref aN, .ref aC])), (aN, .inl (kN, 5, .inl (fun j => nI (cnt j)))), (aC, .inl (kC, 52035, .inl cel)), (aS2, .inr (1, [.ref aN2, .ref aC2])), (aN2, .inl (kN2, 5, .inl (fun j => nI (cntb j)))), (aC2, .inl (kC2, 52035, .inl celb))] H := hP
                have hD : va_D A [(aM, .inr (4, [.int th, .ref aMT, .int (nI u), .ref aNw, .ref aNx, .int w, .int wa, .int (nI ma), .int (nI enm), .long mv, .int mf, .int ml])), (aMT, .inl (kMT, 65536, .inl B)), (aNw, .inl (kNw, 52650, .inl nw)), (aNx, .inl (kNx, 52650, .inl nx)), (aLO, .inl (kLO, 1, .inr (.inl vo))), (aX, .inr (3, [.ref aR, .ref aS2])), (aR, .inr (0, [.ref aT, .ref aS])), (aT, .inr (2, [.ref aB, .int (nI u), .int (nI en), .int (nI h), .int na, .int w, .int wa])), (aB, .inl (kB, 65536, .inl B)), (aS, .inr (1, [.ref aN, .ref aC])), (aN, .inl (kN, 5, .inl (fun j => nI (cnt j)))), (aC, .inl (kC, 52035, .inl cel)), (aS2, .inr (1, [.ref aN2, .ref aC2])), (aN2, .inl (kN2, 5, .inl (fun j => nI (cntb j)))), (aC2, .inl (kC2, 52035, .inl celb))] := hD
                refine lv_aload_n hx hb d_law_257 rfl (lv_at hl 2 rfl) ?_
                refine lv_aload_n hx hb d_law_258 rfl (lv_at hl 0 rfl) ?_
                refine lv_iload hx hb d_law_259 (lv_at hl 4 rfl) ?_
                refine lv_iconst (v := 1) hx hb d_law_261 (by decide) ?_
                refine lv_iadd hx hb d_law_262 ?_
                refine zt_top (nI_add (6 * it) 1) ?_
                refine va_sld (i := nI ((6 * it) + 1)) hx hb hX hbl hbA hS (vp_in_nI (by omega) (by omega)) d_law_263 ?_
                refine zt_top (by rw [nI_clamp (by omega)]) ?_
                have hPc := hP.sub (ws' := [(aM, .inr (4, [.int th, .ref aMT, .int (nI u), .ref aNw, .ref aNx, .int w, .int wa, .int (nI ma), .int (nI enm), .long mv, .int mf, .int ml]))]) [0] rfl
                have hDc := hD.sub (ws' := [(aM, .inr (4, [.int th, .ref aMT, .int (nI u), .ref aNw, .ref aNx, .int w, .int wa, .int (nI ma), .int (nI enm), .long mv, .int mf, .int ml]))]) [0] (by decide) rfl
                have hKc := hK.sub (tys' := []) [] rfl
                have hFc := va_free (wc := [(aM, .inr (4, [.int th, .ref aMT, .int (nI u), .ref aNw, .ref aNx, .int w, .int wa, .int (nI ma), .int (nI enm), .long mv, .int mf, .int ml]))]) hD hS hA [0] rfl
                refine va_calli (va_runV (As := [.int (xs ((6 * it) + 1))]) (rest := [.int r_68]) ⟨hx, hb, hml, hown, hts⟩ (c_Md_error l G dC dI H.size aM th aMT u aNw aNx w wa ma enm mv mf ml (xs ((6 * it) + 1))) (cwV 1 hts (gV tw_680 tw_681 tw_682 tw_5 tw_683 rfl) rfl rfl rfl (by decide +kernel) ⟨Nat.le_of_ble_eq_true rfl, Nat.le_of_ble_eq_true rfl⟩) (PW_preV hPc hKc hDc hE hS hFc (ci := 4) (q0 := 0) rfl rfl) rfl rfl hl.1 rfl (lv_room (Nat.le_of_ble_eq_true rfl)) d_law_264 ⟨(by show _ ≤ 601024; omega), (by show _ ≤ 7293034; omega)⟩) hS (fun q _ h => hFc q h) hFc (fun r_70 uu t H1 locs ht hvm hw_72 hB hz1 hk1 hS => ?_)
                obtain ⟨th_71, rfl⟩ : ∃ z, z = uu := ⟨_, rfl⟩
                obtain ⟨hP1, hD1, hsz1⟩ := hB
                rw [ht] at hP1 hsz1
                obtain ⟨hP, hD⟩ := va_join (wr := [(aMT, .inl (kMT, 65536, .inl B)), (aNw, .inl (kNw, 52650, .inl nw)), (aNx, .inl (kNx, 52650, .inl nx)), (aLO, .inl (kLO, 1, .inr (.inl vo))), (aX, .inr (3, [.ref aR, .ref aS2])), (aR, .inr (0, [.ref aT, .ref aS])), (aT, .inr (2, [.ref aB, .int (nI u), .int (nI en), .int (nI h), .int na, .int w, .int wa])), (aB, .inl (kB, 65536, .inl B)), (aS, .inr (1, [.ref aN, .ref aC])), (aN, .inl (kN, 5, .inl (fun j => nI (cnt j)))), (aC, .inl (kC, 52035, .inl cel)), (aS2, .inr (1, [.ref aN2, .ref aC2])), (aN2, .inl (kN2, 5, .inl (fun j => nI (cntb j)))), (aC2, .inl (kC2, 52035, .inl celb))]) (w1 := [(aM, .inr (4, [.int th_71, .ref aMT, .int (nI u), .ref aNw, .ref aNx, .int w, .int wa, .int (nI ma), .int (nI enm), .long mv, .int mf, .int ml]))]) hP hD [0] [1, 2, 3, 4, 5, 6, 7, 8, 9, 10, 11, 12, 13, 14] rfl rfl (by decide) (by decide) hk1 hFc hP1 hD1
                generalize H1 = H at hP hS ⊢
                have hP : va_P (dC, dI) vwCl [(aMT, .inl (kMT, 65536, .inl B)), (aNw, .inl (kNw, 52650, .inl nw)), (aNx, .inl (kNx, 52650, .inl nx)), (aLO, .inl (kLO, 1, .inr (.inl vo))), (aX, .inr (3, [.ref aR, .ref aS2])), (aR, .inr (0, [.ref aT, .ref aS])), (aT, .inr (2, [.ref aB, .int (nI u), .int (nI en), .int (nI h), .int na, .int w, .int wa])), (aB, .inl (kB, 65536, .inl B)), (aS, .inr (1, [.ref aN, .ref aC])), (aN, .inl (kN, 5, .inl (fun j => nI (cnt j)))), (aC, .inl (kC, 52035, .inl cel)), (aS2, .inr (1, [.ref aN2, .ref aC2])), (aN2, .inl (kN2, 5, .inl (fun j => nI (cntb j)))), (aC2, .inl (kC2, 52035, .inl celb)), (aM, .inr (4, [.int th_71, .ref aMT, .int (nI u), .ref aNw, .ref aNx, .int w, .int wa, .int (nI ma), .int (nI enm), .long mv, .int mf, .int ml]))] H := hP
                have hD : va_D A [(aMT, .inl (kMT, 65536, .inl B)), (aNw, .inl (kNw, 52650, .inl nw)), (aNx, .inl (kNx, 52650, .inl nx)), (aLO, .inl (kLO, 1, .inr (.inl vo))), (aX, .inr (3, [.ref aR, .ref aS2])), (aR, .inr (0, [.ref aT, .ref aS])), (aT, .inr (2, [.ref aB, .int (nI u), .int (nI en), .int (nI h), .int na, .int w, .int wa])), (aB, .inl (kB, 65536, .inl B)), (aS, .inr (1, [.ref aN, .ref aC])), (aN, .inl (kN, 5, .inl (fun j => nI (cnt j)))), (aC, .inl (kC, 52035, .inl cel)), (aS2, .inr (1, [.ref aN2, .ref aC2])), (aN2, .inl (kN2, 5, .inl (fun j => nI (cntb j)))), (aC2, .inl (kC2, 52035, .inl celb)), (aM, .inr (4, [.int th_71, .ref aMT, .int (nI u), .ref aNw, .ref aNx, .int w, .int wa, .int (nI ma), .int (nI enm), .long mv, .int mf, .int ml]))] := hD
                refine lv_icmp_eq (tgt := 432) hx hb d_law_267 (by decide) (fun c_73 => ?_) (fun c_73 => ?_)
                ·
                  refine lv_iinc (v := nI (6 * it + 6)) (lv' := [(4, .int (nI (6 * it + 6))), (0, .ref b), (1, .ref aX), (2, .ref aM), (3, .ref aLO)]) hx hb d_law_432 hl (k := 4) rfl (nI_add (6 * it) 6) (by decide) rfl (fun ls hl => ?_)
                  refine lv_goto (tgt := 23) hx hb d_law_435 (by decide) ?_
                  refine W.widen (k := 15 + (it + 1)) (n := 340480 + 6 * (it + 1)) (by omega) (by omega) ?_
                  exact ih (it + 1) aX aR aT aB u en h na w wa kB B aS aN aC kN cnt kC cel aS2 aN2 aC2 kN2 cntb kC2 celb aM th_71 aMT ma enm mv mf ml kMT aNw kNw nw aNx kNx nx aLO kLO vo (by omega) (by omega) hu hg _ _ (hK.sub [0, 1, 2, 3, 4, 5, 6, 7, 8] rfl) (hP.sub [4, 5, 6, 7, 8, 9, 10, 11, 12, 13, 14, 0, 1, 2, 3] rfl) (hD.sub [4, 5, 6, 7, 8, 9, 10, 11, 12, 13, 14, 0, 1, 2, 3] (by decide) rfl) hS ls (lv_sub hl [1, 2, 3, 4, 0] rfl)
                ·
                  exact absurd (hw_69.trans hw_72.2.symm) c_73
              ·
                by_cases hv_74 : sel = 5
                ·
                  subst hv_74
                  refine lv_tableIn (off := 232) (tgt := 272) hx hb d_law_40 (by decide) (by decide) (by decide) (by decide) ?_
                  refine lv_aload_n hx hb d_law_272 rfl (lv_at hl 1 rfl) ?_
                  refine lv_aload_n hx hb d_law_273 rfl (lv_at hl 0 rfl) ?_
                  refine lv_iload hx hb d_law_274 (lv_at hl 4 rfl) ?_
                  refine lv_iconst (v := 1) hx hb d_law_276 (by decide) ?_
                  refine lv_iadd hx hb d_law_277 ?_
                  refine zt_top (nI_add (6 * it) 1) ?_
                  refine va_sld (i := nI ((6 * it) + 1)) hx hb hX hbl hbA hS (vp_in_nI (by omega) (by omega)) d_law_278 ?_
                  refine zt_top (by rw [nI_clamp (by omega)]) ?_
                  have hPc := hP.sub (ws' := [(aX, .inr (3, [.ref aR, .ref aS2])), (aR, .inr (0, [.ref aT, .ref aS])), (aT, .inr (2, [.ref aB, .int (nI u), .int (nI en), .int (nI h), .int na, .int w, .int wa])), (aB, .inl (kB, 65536, .inl B)), (aS, .inr (1, [.ref aN, .ref aC])), (aN, .inl (kN, 5, .inl (fun j => nI (cnt j)))), (aC, .inl (kC, 52035, .inl cel)), (aS2, .inr (1, [.ref aN2, .ref aC2])), (aN2, .inl (kN2, 5, .inl (fun j => nI (cntb j)))), (aC2, .inl (kC2, 52035, .inl celb))]) [0, 1, 2, 3, 4, 5, 6, 7, 8, 9] rfl
                  have hDc := hD.sub (ws' := [(aX, .inr (3, [.ref aR, .ref aS2])), (aR, .inr (0, [.ref aT, .ref aS])), (aT, .inr (2, [.ref aB, .int (nI u), .int (nI en), .int (nI h), .int na, .int w, .int wa])), (aB, .inl (kB, 65536, .inl B)), (aS, .inr (1, [.ref aN, .ref aC])), (aN, .inl (kN, 5, .inl (fun j => nI (cnt j)))), (aC, .inl (kC, 52035, .inl cel)), (aS2, .inr (1, [.ref aN2, .ref aC2])), (aN2, .inl (kN2, 5, .inl (fun j => nI (cntb j)))), (aC2, .inl (kC2, 52035, .inl celb))]) [0, 1, 2, 3, 4, 5, 6, 7, 8, 9] (by decide) rfl
                  have hKc := hK.sub (tys' := [(kB, .byte), (kN, .int), (kC, .int), (kN2, .int), (kC2, .int)]) [0, 1, 2, 3, 4] rfl
                  have hFc := va_free (wc := [(aX, .inr (3, [.ref aR, .ref aS2])), (aR, .inr (0, [.ref aT, .ref aS])), (aT, .inr (2, [.ref aB, .int (nI u), .int (nI en), .int (nI h), .int na, .int w, .int wa])), (aB, .inl (kB, 65536, .inl B)), (aS, .inr (1, [.ref aN, .ref aC])), (aN, .inl (kN, 5, .inl (fun j => nI (cnt j)))), (aC, .inl (kC, 52035, .inl cel)), (aS2, .inr (1, [.ref aN2, .ref aC2])), (aN2, .inl (kN2, 5, .inl (fun j => nI (cntb j)))), (aC2, .inl (kC2, 52035, .inl celb))]) hD hS hA [0, 1, 2, 3, 4, 5, 6, 7, 8, 9] rfl
                  refine va_calli (va_runV (As := [.int (xs ((6 * it) + 1))]) (rest := []) ⟨hx, hb, hml, hown, hts⟩ (c_St_count l G dC dI H.size aX aR aT aB u en h na w wa kB B aS aN aC kN cnt kC cel aS2 aN2 aC2 kN2 cntb kC2 celb (xs ((6 * it) + 1))) (cwV 1 hts (gV tw_130 tw_131 tw_132 tw_1 tw_133 rfl) rfl rfl rfl (by decide +kernel) ⟨Nat.le_of_ble_eq_true rfl, Nat.le_of_ble_eq_true rfl⟩) (PW_preV hPc hKc hDc hE hS hFc (ci := 3) (q0 := 0) rfl rfl) rfl rfl hl.1 rfl (lv_room (Nat.le_of_ble_eq_true rfl)) d_law_279 ⟨(by show _ ≤ 601024; omega), (by show _ ≤ 7293034; omega)⟩) hS (fun q _ h => hFc q h) hFc (fun r_75 uu t H1 locs ht hvm hw_76 hB hz1 hk1 hS => ?_)
                  obtain ⟨hP1, hD1, hsz1⟩ := hB
                  rw [ht] at hP1 hsz1
                  obtain ⟨hP, hD⟩ := va_join (wr := [(aM, .inr (4, [.int th, .ref aMT, .int (nI u), .ref aNw, .ref aNx, .int w, .int wa, .int (nI ma), .int (nI enm), .long mv, .int mf, .int ml])), (aMT, .inl (kMT, 65536, .inl B)), (aNw, .inl (kNw, 52650, .inl nw)), (aNx, .inl (kNx, 52650, .inl nx)), (aLO, .inl (kLO, 1, .inr (.inl vo)))]) (w1 := [(aX, .inr (3, [.ref aR, .ref aS2])), (aR, .inr (0, [.ref aT, .ref aS])), (aT, .inr (2, [.ref aB, .int (nI u), .int (nI en), .int (nI h), .int na, .int w, .int wa])), (aB, .inl (kB, 65536, .inl B)), (aS, .inr (1, [.ref aN, .ref aC])), (aN, .inl (kN, 5, .inl (fun j => nI (cnt j)))), (aC, .inl (kC, 52035, .inl cel)), (aS2, .inr (1, [.ref aN2, .ref aC2])), (aN2, .inl (kN2, 5, .inl (fun j => nI (cntb j)))), (aC2, .inl (kC2, 52035, .inl celb))]) hP hD [0, 1, 2, 3, 4, 5, 6, 7, 8, 9] [10, 11, 12, 13, 14] rfl rfl (by decide) (by decide) hk1 hFc hP1 hD1
                  generalize H1 = H at hP hS ⊢
                  have hP : va_P (dC, dI) vwCl [(aM, .inr (4, [.int th, .ref aMT, .int (nI u), .ref aNw, .ref aNx, .int w, .int wa, .int (nI ma), .int (nI enm), .long mv, .int mf, .int ml])), (aMT, .inl (kMT, 65536, .inl B)), (aNw, .inl (kNw, 52650, .inl nw)), (aNx, .inl (kNx, 52650, .inl nx)), (aLO, .inl (kLO, 1, .inr (.inl vo))), (aX, .inr (3, [.ref aR, .ref aS2])), (aR, .inr (0, [.ref aT, .ref aS])), (aT, .inr (2, [.ref aB, .int (nI u), .int (nI en), .int (nI h), .int na, .int w, .int wa])), (aB, .inl (kB, 65536, .inl B)), (aS, .inr (1, [.ref aN, .ref aC])), (aN, .inl (kN, 5, .inl (fun j => nI (cnt j)))), (aC, .inl (kC, 52035, .inl cel)), (aS2, .inr (1, [.ref aN2, .ref aC2])), (aN2, .inl (kN2, 5, .inl (fun j => nI (cntb j)))), (aC2, .inl (kC2, 52035, .inl celb))] H := hP
                  have hD : va_D A [(aM, .inr (4, [.int th, .ref aMT, .int (nI u), .ref aNw, .ref aNx, .int w, .int wa, .int (nI ma), .int (nI enm), .long mv, .int mf, .int ml])), (aMT, .inl (kMT, 65536, .inl B)), (aNw, .inl (kNw, 52650, .inl nw)), (aNx, .inl (kNx, 52650, .inl nx)), (aLO, .inl (kLO, 1, .inr (.inl vo))), (aX, .inr (3, [.ref aR, .ref aS2])), (aR, .inr (0, [.ref aT, .ref aS])), (aT, .inr (2, [.ref aB, .int (nI u), .int (nI en), .int (nI h), .int na, .int w, .int wa])), (aB, .inl (kB, 65536, .inl B)), (aS, .inr (1, [.ref aN, .ref aC])), (aN, .inl (kN, 5, .inl (fun j => nI (cnt j)))), (aC, .inl (kC, 52035, .inl cel)), (aS2, .inr (1, [.ref aN2, .ref aC2])), (aN2, .inl (kN2, 5, .inl (fun j => nI (cntb j)))), (aC2, .inl (kC2, 52035, .inl celb))] := hD
                  refine lv_aload_n hx hb d_law_282 rfl (lv_at hl 2 rfl) ?_
                  refine lv_aload_n hx hb d_law_283 rfl (lv_at hl 0 rfl) ?_
                  refine lv_iload hx hb d_law_284 (lv_at hl 4 rfl) ?_
                  refine lv_iconst (v := 1) hx hb d_law_286 (by decide) ?_
                  refine lv_iadd hx hb d_law_287 ?_
                  refine zt_top (nI_add (6 * it) 1) ?_
                  refine va_sld (i := nI ((6 * it) + 1)) hx hb hX hbl hbA hS (vp_in_nI (by omega) (by omega)) d_law_288 ?_
                  refine zt_top (by rw [nI_clamp (by omega)]) ?_
                  have hPc := hP.sub (ws' := [(aM, .inr (4, [.int th, .ref aMT, .int (nI u), .ref aNw, .ref aNx, .int w, .int wa, .int (nI ma), .int (nI enm), .long mv, .int mf, .int ml])), (aNw, .inl (kNw, 52650, .inl nw))]) [0, 2] rfl
                  have hDc := hD.sub (ws' := [(aM, .inr (4, [.int th, .ref aMT, .int (nI u), .ref aNw, .ref aNx, .int w, .int wa, .int (nI ma), .int (nI enm), .long mv, .int mf, .int ml])), (aNw, .inl (kNw, 52650, .inl nw))]) [0, 2] (by decide) rfl
                  have hKc := hK.sub (tys' := [(kNw, .int)]) [6] rfl
                  have hFc := va_free (wc := [(aM, .inr (4, [.int th, .ref aMT, .int (nI u), .ref aNw, .ref aNx, .int w, .int wa, .int (nI ma), .int (nI enm), .long mv, .int mf, .int ml])), (aNw, .inl (kNw, 52650, .inl nw))]) hD hS hA [0, 2] rfl
                  refine va_calli (va_runV (As := [.int (xs ((6 * it) + 1))]) (rest := [.int r_75]) ⟨hx, hb, hml, hown, hts⟩ (c_Md_count l G dC dI H.size aM th aMT u aNw aNx w wa ma enm mv mf ml kNw nw (xs ((6 * it) + 1))) (cwV 1 hts (gV tw_684 tw_685 tw_686 tw_5 tw_687 rfl) rfl rfl rfl (by decide +kernel) ⟨Nat.le_of_ble_eq_true rfl, Nat.le_of_ble_eq_true rfl⟩) (PW_preV hPc hKc hDc hE hS hFc (ci := 4) (q0 := 0) rfl rfl) rfl rfl hl.1 rfl (lv_room (Nat.le_of_ble_eq_true rfl)) d_law_289 ⟨(by show _ ≤ 601024; omega), (by show _ ≤ 7293034; omega)⟩) hS (fun q _ h => hFc q h) hFc (fun r_77 uu t H1 locs ht hvm hw_79 hB hz1 hk1 hS => ?_)
                  obtain ⟨th_78, rfl⟩ : ∃ z, z = uu := ⟨_, rfl⟩
                  obtain ⟨hP1, hD1, hsz1⟩ := hB
                  rw [ht] at hP1 hsz1
                  obtain ⟨hP, hD⟩ := va_join (wr := [(aMT, .inl (kMT, 65536, .inl B)), (aNx, .inl (kNx, 52650, .inl nx)), (aLO, .inl (kLO, 1, .inr (.inl vo))), (aX, .inr (3, [.ref aR, .ref aS2])), (aR, .inr (0, [.ref aT, .ref aS])), (aT, .inr (2, [.ref aB, .int (nI u), .int (nI en), .int (nI h), .int na, .int w, .int wa])), (aB, .inl (kB, 65536, .inl B)), (aS, .inr (1, [.ref aN, .ref aC])), (aN, .inl (kN, 5, .inl (fun j => nI (cnt j)))), (aC, .inl (kC, 52035, .inl cel)), (aS2, .inr (1, [.ref aN2, .ref aC2])), (aN2, .inl (kN2, 5, .inl (fun j => nI (cntb j)))), (aC2, .inl (kC2, 52035, .inl celb))]) (w1 := [(aM, .inr (4, [.int th_78, .ref aMT, .int (nI u), .ref aNw, .ref aNx, .int w, .int wa, .int (nI ma), .int (nI enm), .long mv, .int mf, .int ml])), (aNw, .inl (kNw, 52650, .inl nw))]) hP hD [0, 2] [1, 3, 4, 5, 6, 7, 8, 9, 10, 11, 12, 13, 14] rfl rfl (by decide) (by decide) hk1 hFc hP1 hD1
                  generalize H1 = H at hP hS ⊢
                  have hP : va_P (dC, dI) vwCl [(aMT, .inl (kMT, 65536, .inl B)), (aNx, .inl (kNx, 52650, .inl nx)), (aLO, .inl (kLO, 1, .inr (.inl vo))), (aX, .inr (3, [.ref aR, .ref aS2])), (aR, .inr (0, [.ref aT, .ref aS])), (aT, .inr (2, [.ref aB, .int (nI u), .int (nI en), .int (nI h), .int na, .int w, .int wa])), (aB, .inl (kB, 65536, .inl B)), (aS, .inr (1, [.ref aN, .ref aC])), (aN, .inl (kN, 5, .inl (fun j => nI (cnt j)))), (aC, .inl (kC, 52035, .inl cel)), (aS2, .inr (1, [.ref aN2, .ref aC2])), (aN2, .inl (kN2, 5, .inl (fun j => nI (cntb j)))), (aC2, .inl (kC2, 52035, .inl celb)), (aM, .inr (4, [.int th_78, .ref aMT, .int (nI u), .ref aNw, .ref aNx, .int w, .int wa, .int (nI ma), .int (nI enm), .long mv, .int mf, .int ml])), (aNw, .inl (kNw, 52650, .inl nw))] H := hP
                  have hD : va_D A [(aMT, .inl (kMT, 65536, .inl B)), (aNx, .inl (kNx, 52650, .inl nx)), (aLO, .inl (kLO, 1, .inr (.inl vo))), (aX, .inr (3, [.ref aR, .ref aS2])), (aR, .inr (0, [.ref aT, .ref aS])), (aT, .inr (2, [.ref aB, .int (nI u), .int (nI en), .int (nI h), .int na, .int w, .int wa])), (aB, .inl (kB, 65536, .inl B)), (aS, .inr (1, [.ref aN, .ref aC])), (aN, .inl (kN, 5, .inl (fun j => nI (cnt j)))), (aC, .inl (kC, 52035, .inl cel)), (aS2, .inr (1, [.ref aN2, .ref aC2])), (aN2, .inl (kN2, 5, .inl (fun j => nI (cntb j)))), (aC2, .inl (kC2, 52035, .inl celb)), (aM, .inr (4, [.int th_78, .ref aMT, .int (nI u), .ref aNw, .ref aNx, .int w, .int wa, .int (nI ma), .int (nI enm), .long mv, .int mf, .int ml])), (aNw, .inl (kNw, 52650, .inl nw))] := hD
                  refine lv_icmp_eq (tgt := 432) hx hb d_law_292 (by decide) (fun c_80 => ?_) (fun c_80 => ?_)
                  ·
                    refine lv_iinc (v := nI (6 * it + 6)) (lv' := [(4, .int (nI (6 * it + 6))), (0, .ref b), (1, .ref aX), (2, .ref aM), (3, .ref aLO)]) hx hb d_law_432 hl (k := 4) rfl (nI_add (6 * it) 6) (by decide) rfl (fun ls hl => ?_)
                    refine lv_goto (tgt := 23) hx hb d_law_435 (by decide) ?_
                    refine W.widen (k := 15 + (it + 1)) (n := 340480 + 6 * (it + 1)) (by omega) (by omega) ?_
                    exact ih (it + 1) aX aR aT aB u en h na w wa kB B aS aN aC kN cnt kC cel aS2 aN2 aC2 kN2 cntb kC2 celb aM th_78 aMT ma enm mv mf ml kMT aNw kNw nw aNx kNx nx aLO kLO vo (by omega) (by omega) hu hg _ _ (hK.sub [0, 1, 2, 3, 4, 5, 6, 7, 8] rfl) (hP.sub [3, 4, 5, 6, 7, 8, 9, 10, 11, 12, 13, 0, 14, 1, 2] rfl) (hD.sub [3, 4, 5, 6, 7, 8, 9, 10, 11, 12, 13, 0, 14, 1, 2] (by decide) rfl) hS ls (lv_sub hl [1, 2, 3, 4, 0] rfl)
                  ·
                    exact absurd (hw_76.trans (hw_79.2.trans (zcount_eq hg)).symm) c_80
                ·
                  by_cases hv_81 : sel = 6
                  ·
                    subst hv_81
                    refine lv_tableIn (off := 257) (tgt := 297) hx hb d_law_40 (by decide) (by decide) (by decide) (by decide) ?_
                    refine lv_aload_n hx hb d_law_297 rfl (lv_at hl 1 rfl) ?_
                    refine lv_aload_n hx hb d_law_298 rfl (lv_at hl 0 rfl) ?_
                    refine lv_iload hx hb d_law_299 (lv_at hl 4 rfl) ?_
                    refine lv_iconst (v := 1) hx hb d_law_301 (by decide) ?_
                    refine lv_iadd hx hb d_law_302 ?_
                    refine zt_top (nI_add (6 * it) 1) ?_
                    refine va_sld (i := nI ((6 * it) + 1)) hx hb hX hbl hbA hS (vp_in_nI (by omega) (by omega)) d_law_303 ?_
                    refine zt_top (by rw [nI_clamp (by omega)]) ?_
                    refine lv_aload_n hx hb d_law_304 rfl (lv_at hl 0 rfl) ?_
                    refine lv_iload hx hb d_law_305 (lv_at hl 4 rfl) ?_
                    refine lv_iconst (v := 2) hx hb d_law_307 (by decide) ?_
                    refine lv_iadd hx hb d_law_308 ?_
                    refine zt_top (nI_add (6 * it) 2) ?_
                    refine va_sld (i := nI ((6 * it) + 2)) hx hb hX hbl hbA hS (vp_in_nI (by omega) (by omega)) d_law_309 ?_
                    refine zt_top (by rw [nI_clamp (by omega)]) ?_
                    refine lv_aload_n hx hb d_law_310 rfl (lv_at hl 0 rfl) ?_
                    refine lv_iload hx hb d_law_311 (lv_at hl 4 rfl) ?_
                    refine lv_iconst (v := 3) hx hb d_law_313 (by decide) ?_
                    refine lv_iadd hx hb d_law_314 ?_
                    refine zt_top (nI_add (6 * it) 3) ?_
                    refine va_sld (i := nI ((6 * it) + 3)) hx hb hX hbl hbA hS (vp_in_nI (by omega) (by omega)) d_law_315 ?_
                    refine zt_top (by rw [nI_clamp (by omega)]) ?_
                    have hPc := hP.sub (ws' := [(aX, .inr (3, [.ref aR, .ref aS2])), (aR, .inr (0, [.ref aT, .ref aS])), (aT, .inr (2, [.ref aB, .int (nI u), .int (nI en), .int (nI h), .int na, .int w, .int wa])), (aB, .inl (kB, 65536, .inl B)), (aS, .inr (1, [.ref aN, .ref aC])), (aN, .inl (kN, 5, .inl (fun j => nI (cnt j)))), (aC, .inl (kC, 52035, .inl cel)), (aS2, .inr (1, [.ref aN2, .ref aC2])), (aN2, .inl (kN2, 5, .inl (fun j => nI (cntb j)))), (aC2, .inl (kC2, 52035, .inl celb))]) [0, 1, 2, 3, 4, 5, 6, 7, 8, 9] rfl
                    have hDc := hD.sub (ws' := [(aX, .inr (3, [.ref aR, .ref aS2])), (aR, .inr (0, [.ref aT, .ref aS])), (aT, .inr (2, [.ref aB, .int (nI u), .int (nI en), .int (nI h), .int na, .int w, .int wa])), (aB, .inl (kB, 65536, .inl B)), (aS, .inr (1, [.ref aN, .ref aC])), (aN, .inl (kN, 5, .inl (fun j => nI (cnt j)))), (aC, .inl (kC, 52035, .inl cel)), (aS2, .inr (1, [.ref aN2, .ref aC2])), (aN2, .inl (kN2, 5, .inl (fun j => nI (cntb j)))), (aC2, .inl (kC2, 52035, .inl celb))]) [0, 1, 2, 3, 4, 5, 6, 7, 8, 9] (by decide) rfl
                    have hKc := hK.sub (tys' := [(kB, .byte), (kN, .int), (kC, .int), (kN2, .int), (kC2, .int)]) [0, 1, 2, 3, 4] rfl
                    have hFc := va_free (wc := [(aX, .inr (3, [.ref aR, .ref aS2])), (aR, .inr (0, [.ref aT, .ref aS])), (aT, .inr (2, [.ref aB, .int (nI u), .int (nI en), .int (nI h), .int na, .int w, .int wa])), (aB, .inl (kB, 65536, .inl B)), (aS, .inr (1, [.ref aN, .ref aC])), (aN, .inl (kN, 5, .inl (fun j => nI (cnt j)))), (aC, .inl (kC, 52035, .inl cel)), (aS2, .inr (1, [.ref aN2, .ref aC2])), (aN2, .inl (kN2, 5, .inl (fun j => nI (cntb j)))), (aC2, .inl (kC2, 52035, .inl celb))]) hD hS hA [0, 1, 2, 3, 4, 5, 6, 7, 8, 9] rfl
                    refine va_calli (va_runV (As := [.int (xs ((6 * it) + 1)), .int (xs ((6 * it) + 2)), .int (xs ((6 * it) + 3))]) (rest := []) ⟨hx, hb, hml, hown, hts⟩ (c_St_about l G dC dI H.size aX aR aT aB u en h na w wa kB B aS aN aC kN cnt kC cel aS2 aN2 aC2 kN2 cntb kC2 celb (xs ((6 * it) + 1)) (xs ((6 * it) + 2)) (xs ((6 * it) + 3)) hg.1) (cwV 3 hts (gV tw_138 tw_139 tw_140 tw_1 tw_141 rfl) rfl rfl rfl (by decide +kernel) ⟨Nat.le_of_ble_eq_true rfl, Nat.le_of_ble_eq_true rfl⟩) (PW_preV hPc hKc hDc hE hS hFc (ci := 3) (q0 := 0) rfl rfl) rfl rfl hl.1 rfl (lv_room (Nat.le_of_ble_eq_true rfl)) d_law_316 ⟨(by show _ ≤ 601024; omega), (by show _ ≤ 7293034; omega)⟩) hS (fun q _ h => hFc q h) hFc (fun r_82 uu t H1 locs ht hvm hw_83 hB hz1 hk1 hS => ?_)
                    obtain ⟨hP1, hD1, hsz1⟩ := hB
                    rw [ht] at hP1 hsz1
                    obtain ⟨hP, hD⟩ := va_join (wr := [(aM, .inr (4, [.int th, .ref aMT, .int (nI u), .ref aNw, .ref aNx, .int w, .int wa, .int (nI ma), .int (nI enm), .long mv, .int mf, .int ml])), (aMT, .inl (kMT, 65536, .inl B)), (aNw, .inl (kNw, 52650, .inl nw)), (aNx, .inl (kNx, 52650, .inl nx)), (aLO, .inl (kLO, 1, .inr (.inl vo)))]) (w1 := [(aX, .inr (3, [.ref aR, .ref aS2])), (aR, .inr (0, [.ref aT, .ref aS])), (aT, .inr (2, [.ref aB, .int (nI u), .int (nI en), .int (nI h), .int na, .int w, .int wa])), (aB, .inl (kB, 65536, .inl B)), (aS, .inr (1, [.ref aN, .ref aC])), (aN, .inl (kN, 5, .inl (fun j => nI (cnt j)))), (aC, .inl (kC, 52035, .inl cel)), (aS2, .inr (1, [.ref aN2, .ref aC2])), (aN2, .inl (kN2, 5, .inl (fun j => nI (cntb j)))), (aC2, .inl (kC2, 52035, .inl celb))]) hP hD [0, 1, 2, 3, 4, 5, 6, 7, 8, 9] [10, 11, 12, 13, 14] rfl rfl (by decide) (by decide) hk1 hFc hP1 hD1
                    generalize H1 = H at hP hS ⊢
                    have hP : va_P (dC, dI) vwCl [(aM, .inr (4, [.int th, .ref aMT, .int (nI u), .ref aNw, .ref aNx, .int w, .int wa, .int (nI ma), .int (nI enm), .long mv, .int mf, .int ml])), (aMT, .inl (kMT, 65536, .inl B)), (aNw, .inl (kNw, 52650, .inl nw)), (aNx, .inl (kNx, 52650, .inl nx)), (aLO, .inl (kLO, 1, .inr (.inl vo))), (aX, .inr (3, [.ref aR, .ref aS2])), (aR, .inr (0, [.ref aT, .ref aS])), (aT, .inr (2, [.ref aB, .int (nI u), .int (nI en), .int (nI h), .int na, .int w, .int wa])), (aB, .inl (kB, 65536, .inl B)), (aS, .inr (1, [.ref aN, .ref aC])), (aN, .inl (kN, 5, .inl (fun j => nI (cnt j)))), (aC, .inl (kC, 52035, .inl cel)), (aS2, .inr (1, [.ref aN2, .ref aC2])), (aN2, .inl (kN2, 5, .inl (fun j => nI (cntb j)))), (aC2, .inl (kC2, 52035, .inl celb))] H := hP
                    have hD : va_D A [(aM, .inr (4, [.int th, .ref aMT, .int (nI u), .ref aNw, .ref aNx, .int w, .int wa, .int (nI ma), .int (nI enm), .long mv, .int mf, .int ml])), (aMT, .inl (kMT, 65536, .inl B)), (aNw, .inl (kNw, 52650, .inl nw)), (aNx, .inl (kNx, 52650, .inl nx)), (aLO, .inl (kLO, 1, .inr (.inl vo))), (aX, .inr (3, [.ref aR, .ref aS2])), (aR, .inr (0, [.ref aT, .ref aS])), (aT, .inr (2, [.ref aB, .int (nI u), .int (nI en), .int (nI h), .int na, .int w, .int wa])), (aB, .inl (kB, 65536, .inl B)), (aS, .inr (1, [.ref aN, .ref aC])), (aN, .inl (kN, 5, .inl (fun j => nI (cnt j)))), (aC, .inl (kC, 52035, .inl cel)), (aS2, .inr (1, [.ref aN2, .ref aC2])), (aN2, .inl (kN2, 5, .inl (fun j => nI (cntb j)))), (aC2, .inl (kC2, 52035, .inl celb))] := hD
                    refine lv_aload_n hx hb d_law_319 rfl (lv_at hl 2 rfl) ?_
                    refine lv_aload_n hx hb d_law_320 rfl (lv_at hl 0 rfl) ?_
                    refine lv_iload hx hb d_law_321 (lv_at hl 4 rfl) ?_
                    refine lv_iconst (v := 1) hx hb d_law_323 (by decide) ?_
                    refine lv_iadd hx hb d_law_324 ?_
                    refine zt_top (nI_add (6 * it) 1) ?_
                    refine va_sld (i := nI ((6 * it) + 1)) hx hb hX hbl hbA hS (vp_in_nI (by omega) (by omega)) d_law_325 ?_
                    refine zt_top (by rw [nI_clamp (by omega)]) ?_
                    refine lv_aload_n hx hb d_law_326 rfl (lv_at hl 0 rfl) ?_
                    refine lv_iload hx hb d_law_327 (lv_at hl 4 rfl) ?_
                    refine lv_iconst (v := 2) hx hb d_law_329 (by decide) ?_
                    refine lv_iadd hx hb d_law_330 ?_
                    refine zt_top (nI_add (6 * it) 2) ?_
                    refine va_sld (i := nI ((6 * it) + 2)) hx hb hX hbl hbA hS (vp_in_nI (by omega) (by omega)) d_law_331 ?_
                    refine zt_top (by rw [nI_clamp (by omega)]) ?_
                    refine lv_aload_n hx hb d_law_332 rfl (lv_at hl 0 rfl) ?_
                    refine lv_iload hx hb d_law_333 (lv_at hl 4 rfl) ?_
                    refine lv_iconst (v := 3) hx hb d_law_335 (by decide) ?_
                    refine lv_iadd hx hb d_law_336 ?_
                    refine zt_top (nI_add (6 * it) 3) ?_
                    refine va_sld (i := nI ((6 * it) + 3)) hx hb hX hbl hbA hS (vp_in_nI (by omega) (by omega)) d_law_337 ?_
                    refine zt_top (by rw [nI_clamp (by omega)]) ?_
                    have hPc := hP.sub (ws' := [(aM, .inr (4, [.int th, .ref aMT, .int (nI u), .ref aNw, .ref aNx, .int w, .int wa, .int (nI ma), .int (nI enm), .long mv, .int mf, .int ml])), (aNw, .inl (kNw, 52650, .inl nw))]) [0, 2] rfl
                    have hDc := hD.sub (ws' := [(aM, .inr (4, [.int th, .ref aMT, .int (nI u), .ref aNw, .ref aNx, .int w, .int wa, .int (nI ma), .int (nI enm), .long mv, .int mf, .int ml])), (aNw, .inl (kNw, 52650, .inl nw))]) [0, 2] (by decide) rfl
                    have hKc := hK.sub (tys' := [(kNw, .int)]) [6] rfl
                    have hFc := va_free (wc := [(aM, .inr (4, [.int th, .ref aMT, .int (nI u), .ref aNw, .ref aNx, .int w, .int wa, .int (nI ma), .int (nI enm), .long mv, .int mf, .int ml])), (aNw, .inl (kNw, 52650, .inl nw))]) hD hS hA [0, 2] rfl
                    refine va_calli (va_runV (As := [.int (xs ((6 * it) + 1)), .int (xs ((6 * it) + 2)), .int (xs ((6 * it) + 3))]) (rest := [.int r_82]) ⟨hx, hb, hml, hown, hts⟩ (c_Md_about l G dC dI H.size aM th aMT u aNw aNx w wa ma enm mv mf ml kNw nw cntb celb (xs ((6 * it) + 1)) (xs ((6 * it) + 2)) (xs ((6 * it) + 3)) hg) (cwV 3 hts (gV tw_688 tw_689 tw_690 tw_5 tw_691 rfl) rfl rfl rfl (by decide +kernel) ⟨Nat.le_of_ble_eq_true rfl, Nat.le_of_ble_eq_true rfl⟩) (PW_preV hPc hKc hDc hE hS hFc (ci := 4) (q0 := 0) rfl rfl) rfl rfl hl.1 rfl (lv_room (Nat.le_of_ble_eq_true rfl)) d_law_338 ⟨(by show _ ≤ 601024; omega), (by show _ ≤ 7293034; omega)⟩) hS (fun q _ h => hFc q h) hFc (fun r_84 uu t H1 locs ht hvm hw_86 hB hz1 hk1 hS => ?_)
                    obtain ⟨th_85, rfl⟩ : ∃ z, z = uu := ⟨_, rfl⟩
                    obtain ⟨hP1, hD1, hsz1⟩ := hB
                    rw [ht] at hP1 hsz1
                    obtain ⟨hP, hD⟩ := va_join (wr := [(aMT, .inl (kMT, 65536, .inl B)), (aNx, .inl (kNx, 52650, .inl nx)), (aLO, .inl (kLO, 1, .inr (.inl vo))), (aX, .inr (3, [.ref aR, .ref aS2])), (aR, .inr (0, [.ref aT, .ref aS])), (aT, .inr (2, [.ref aB, .int (nI u), .int (nI en), .int (nI h), .int na, .int w, .int wa])), (aB, .inl (kB, 65536, .inl B)), (aS, .inr (1, [.ref aN, .ref aC])), (aN, .inl (kN, 5, .inl (fun j => nI (cnt j)))), (aC, .inl (kC, 52035, .inl cel)), (aS2, .inr (1, [.ref aN2, .ref aC2])), (aN2, .inl (kN2, 5, .inl (fun j => nI (cntb j)))), (aC2, .inl (kC2, 52035, .inl celb))]) (w1 := [(aM, .inr (4, [.int th_85, .ref aMT, .int (nI u), .ref aNw, .ref aNx, .int w, .int wa, .int (nI ma), .int (nI enm), .long mv, .int mf, .int ml])), (aNw, .inl (kNw, 52650, .inl nw))]) hP hD [0, 2] [1, 3, 4, 5, 6, 7, 8, 9, 10, 11, 12, 13, 14] rfl rfl (by decide) (by decide) hk1 hFc hP1 hD1
                    generalize H1 = H at hP hS ⊢
                    have hP : va_P (dC, dI) vwCl [(aMT, .inl (kMT, 65536, .inl B)), (aNx, .inl (kNx, 52650, .inl nx)), (aLO, .inl (kLO, 1, .inr (.inl vo))), (aX, .inr (3, [.ref aR, .ref aS2])), (aR, .inr (0, [.ref aT, .ref aS])), (aT, .inr (2, [.ref aB, .int (nI u), .int (nI en), .int (nI h), .int na, .int w, .int wa])), (aB, .inl (kB, 65536, .inl B)), (aS, .inr (1, [.ref aN, .ref aC])), (aN, .inl (kN, 5, .inl (fun j => nI (cnt j)))), (aC, .inl (kC, 52035, .inl cel)), (aS2, .inr (1, [.ref aN2, .ref aC2])), (aN2, .inl (kN2, 5, .inl (fun j => nI (cntb j)))), (aC2, .inl (kC2, 52035, .inl celb)), (aM, .inr (4, [.int th_85, .ref aMT, .int (nI u), .ref aNw, .ref aNx, .int w, .int wa, .int (nI ma), .int (nI enm), .long mv, .int mf, .int ml])), (aNw, .inl (kNw, 52650, .inl nw))] H := hP
                    have hD : va_D A [(aMT, .inl (kMT, 65536, .inl B)), (aNx, .inl (kNx, 52650, .inl nx)), (aLO, .inl (kLO, 1, .inr (.inl vo))), (aX, .inr (3, [.ref aR, .ref aS2])), (aR, .inr (0, [.ref aT, .ref aS])), (aT, .inr (2, [.ref aB, .int (nI u), .int (nI en), .int (nI h), .int na, .int w, .int wa])), (aB, .inl (kB, 65536, .inl B)), (aS, .inr (1, [.ref aN, .ref aC])), (aN, .inl (kN, 5, .inl (fun j => nI (cnt j)))), (aC, .inl (kC, 52035, .inl cel)), (aS2, .inr (1, [.ref aN2, .ref aC2])), (aN2, .inl (kN2, 5, .inl (fun j => nI (cntb j)))), (aC2, .inl (kC2, 52035, .inl celb)), (aM, .inr (4, [.int th_85, .ref aMT, .int (nI u), .ref aNw, .ref aNx, .int w, .int wa, .int (nI ma), .int (nI enm), .long mv, .int mf, .int ml])), (aNw, .inl (kNw, 52650, .inl nw))] := hD
                    refine lv_icmp_eq (tgt := 432) hx hb d_law_341 (by decide) (fun c_87 => ?_) (fun c_87 => ?_)
                    ·
                      refine lv_iinc (v := nI (6 * it + 6)) (lv' := [(4, .int (nI (6 * it + 6))), (0, .ref b), (1, .ref aX), (2, .ref aM), (3, .ref aLO)]) hx hb d_law_432 hl (k := 4) rfl (nI_add (6 * it) 6) (by decide) rfl (fun ls hl => ?_)
                      refine lv_goto (tgt := 23) hx hb d_law_435 (by decide) ?_
                      refine W.widen (k := 15 + (it + 1)) (n := 340480 + 6 * (it + 1)) (by omega) (by omega) ?_
                      exact ih (it + 1) aX aR aT aB u en h na w wa kB B aS aN aC kN cnt kC cel aS2 aN2 aC2 kN2 cntb kC2 celb aM th_85 aMT ma enm mv mf ml kMT aNw kNw nw aNx kNx nx aLO kLO vo (by omega) (by omega) hu hg _ _ (hK.sub [0, 1, 2, 3, 4, 5, 6, 7, 8] rfl) (hP.sub [3, 4, 5, 6, 7, 8, 9, 10, 11, 12, 13, 0, 14, 1, 2] rfl) (hD.sub [3, 4, 5, 6, 7, 8, 9, 10, 11, 12, 13, 0, 14, 1, 2] (by decide) rfl) hS ls (lv_sub hl [1, 2, 3, 4, 0] rfl)
                    ·
                      exact absurd (hw_83.trans hw_86.2.symm) c_87
                  ·
                    by_cases hv_88 : sel = 7
                    ·
                      subst hv_88
                      refine lv_tableIn (off := 306) (tgt := 346) hx hb d_law_40 (by decide) (by decide) (by decide) (by decide) ?_
                      refine lv_aload_n hx hb d_law_346 rfl (lv_at hl 1 rfl) ?_
                      refine lv_aload_n hx hb d_law_347 rfl (lv_at hl 0 rfl) ?_
                      refine lv_iload hx hb d_law_348 (lv_at hl 4 rfl) ?_
                      refine lv_iconst (v := 1) hx hb d_law_350 (by decide) ?_
                      refine lv_iadd hx hb d_law_351 ?_
                      refine zt_top (nI_add (6 * it) 1) ?_
                      refine va_sld (i := nI ((6 * it) + 1)) hx hb hX hbl hbA hS (vp_in_nI (by omega) (by omega)) d_law_352 ?_
                      refine zt_top (by rw [nI_clamp (by omega)]) ?_
                      refine lv_aload_n hx hb d_law_353 rfl (lv_at hl 0 rfl) ?_
                      refine lv_iload hx hb d_law_354 (lv_at hl 4 rfl) ?_
                      refine lv_iconst (v := 2) hx hb d_law_356 (by decide) ?_
                      refine lv_iadd hx hb d_law_357 ?_
                      refine zt_top (nI_add (6 * it) 2) ?_
                      refine va_sld (i := nI ((6 * it) + 2)) hx hb hX hbl hbA hS (vp_in_nI (by omega) (by omega)) d_law_358 ?_
                      refine zt_top (by rw [nI_clamp (by omega)]) ?_
                      refine lv_aload_n hx hb d_law_359 rfl (lv_at hl 0 rfl) ?_
                      refine lv_iload hx hb d_law_360 (lv_at hl 4 rfl) ?_
                      refine lv_iconst (v := 3) hx hb d_law_362 (by decide) ?_
                      refine lv_iadd hx hb d_law_363 ?_
                      refine zt_top (nI_add (6 * it) 3) ?_
                      refine va_sld (i := nI ((6 * it) + 3)) hx hb hX hbl hbA hS (vp_in_nI (by omega) (by omega)) d_law_364 ?_
                      refine zt_top (by rw [nI_clamp (by omega)]) ?_
                      refine lv_aload_n hx hb d_law_365 rfl (lv_at hl 0 rfl) ?_
                      refine lv_iload hx hb d_law_366 (lv_at hl 4 rfl) ?_
                      refine lv_iconst (v := 4) hx hb d_law_368 (by decide) ?_
                      refine lv_iadd hx hb d_law_369 ?_
                      refine zt_top (nI_add (6 * it) 4) ?_
                      refine va_sld (i := nI ((6 * it) + 4)) hx hb hX hbl hbA hS (vp_in_nI (by omega) (by omega)) d_law_370 ?_
                      refine zt_top (by rw [nI_clamp (by omega)]) ?_
                      have hPc := hP.sub (ws' := [(aX, .inr (3, [.ref aR, .ref aS2])), (aR, .inr (0, [.ref aT, .ref aS])), (aT, .inr (2, [.ref aB, .int (nI u), .int (nI en), .int (nI h), .int na, .int w, .int wa])), (aB, .inl (kB, 65536, .inl B)), (aS, .inr (1, [.ref aN, .ref aC])), (aN, .inl (kN, 5, .inl (fun j => nI (cnt j)))), (aC, .inl (kC, 52035, .inl cel)), (aS2, .inr (1, [.ref aN2, .ref aC2])), (aN2, .inl (kN2, 5, .inl (fun j => nI (cntb j)))), (aC2, .inl (kC2, 52035, .inl celb))]) [0, 1, 2, 3, 4, 5, 6, 7, 8, 9] rfl
                      have hDc := hD.sub (ws' := [(aX, .inr (3, [.ref aR, .ref aS2])), (aR, .inr (0, [.ref aT, .ref aS])), (aT, .inr (2, [.ref aB, .int (nI u), .int (nI en), .int (nI h), .int na, .int w, .int wa])), (aB, .inl (kB, 65536, .inl B)), (aS, .inr (1, [.ref aN, .ref aC])), (aN, .inl (kN, 5, .inl (fun j => nI (cnt j)))), (aC, .inl (kC, 52035, .inl cel)), (aS2, .inr (1, [.ref aN2, .ref aC2])), (aN2, .inl (kN2, 5, .inl (fun j => nI (cntb j)))), (aC2, .inl (kC2, 52035, .inl celb))]) [0, 1, 2, 3, 4, 5, 6, 7, 8, 9] (by decide) rfl
                      have hKc := hK.sub (tys' := [(kB, .byte), (kN, .int), (kC, .int), (kN2, .int), (kC2, .int)]) [0, 1, 2, 3, 4] rfl
                      have hFc := va_free (wc := [(aX, .inr (3, [.ref aR, .ref aS2])), (aR, .inr (0, [.ref aT, .ref aS])), (aT, .inr (2, [.ref aB, .int (nI u), .int (nI en), .int (nI h), .int na, .int w, .int wa])), (aB, .inl (kB, 65536, .inl B)), (aS, .inr (1, [.ref aN, .ref aC])), (aN, .inl (kN, 5, .inl (fun j => nI (cnt j)))), (aC, .inl (kC, 52035, .inl cel)), (aS2, .inr (1, [.ref aN2, .ref aC2])), (aN2, .inl (kN2, 5, .inl (fun j => nI (cntb j)))), (aC2, .inl (kC2, 52035, .inl celb))]) hD hS hA [0, 1, 2, 3, 4, 5, 6, 7, 8, 9] rfl
                      refine va_calli (va_runV (As := [.int (xs ((6 * it) + 1)), .int (xs ((6 * it) + 2)), .int (xs ((6 * it) + 3)), .int (xs ((6 * it) + 4))]) (rest := []) ⟨hx, hb, hml, hown, hts⟩ (c_St_at l G dC dI H.size aX aR aT aB u en h na w wa kB B aS aN aC kN cnt kC cel aS2 aN2 aC2 kN2 cntb kC2 celb (xs ((6 * it) + 1)) (xs ((6 * it) + 2)) (xs ((6 * it) + 3)) (xs ((6 * it) + 4)) hg.1) (cwV 4 hts (gV tw_165 tw_166 tw_167 tw_1 tw_168 rfl) rfl rfl rfl (by decide +kernel) ⟨Nat.le_of_ble_eq_true rfl, Nat.le_of_ble_eq_true rfl⟩) (PW_preV hPc hKc hDc hE hS hFc (ci := 3) (q0 := 0) rfl rfl) rfl rfl hl.1 rfl (lv_room (Nat.le_of_ble_eq_true rfl)) d_law_371 ⟨(by show _ ≤ 601024; omega), (by show _ ≤ 7293034; omega)⟩) hS (fun q _ h => hFc q h) hFc (fun r_89 uu t H1 locs ht hvm hw_90 hB hz1 hk1 hS => ?_)
                      obtain ⟨hP1, hD1, hsz1⟩ := hB
                      rw [ht] at hP1 hsz1
                      obtain ⟨hP, hD⟩ := va_join (wr := [(aM, .inr (4, [.int th, .ref aMT, .int (nI u), .ref aNw, .ref aNx, .int w, .int wa, .int (nI ma), .int (nI enm), .long mv, .int mf, .int ml])), (aMT, .inl (kMT, 65536, .inl B)), (aNw, .inl (kNw, 52650, .inl nw)), (aNx, .inl (kNx, 52650, .inl nx)), (aLO, .inl (kLO, 1, .inr (.inl vo)))]) (w1 := [(aX, .inr (3, [.ref aR, .ref aS2])), (aR, .inr (0, [.ref aT, .ref aS])), (aT, .inr (2, [.ref aB, .int (nI u), .int (nI en), .int (nI h), .int na, .int w, .int wa])), (aB, .inl (kB, 65536, .inl B)), (aS, .inr (1, [.ref aN, .ref aC])), (aN, .inl (kN, 5, .inl (fun j => nI (cnt j)))), (aC, .inl (kC, 52035, .inl cel)), (aS2, .inr (1, [.ref aN2, .ref aC2])), (aN2, .inl (kN2, 5, .inl (fun j => nI (cntb j)))), (aC2, .inl (kC2, 52035, .inl celb))]) hP hD [0, 1, 2, 3, 4, 5, 6, 7, 8, 9] [10, 11, 12, 13, 14] rfl rfl (by decide) (by decide) hk1 hFc hP1 hD1
                      generalize H1 = H at hP hS ⊢
                      have hP : va_P (dC, dI) vwCl [(aM, .inr (4, [.int th, .ref aMT, .int (nI u), .ref aNw, .ref aNx, .int w, .int wa, .int (nI ma), .int (nI enm), .long mv, .int mf, .int ml])), (aMT, .inl (kMT, 65536, .inl B)), (aNw, .inl (kNw, 52650, .inl nw)), (aNx, .inl (kNx, 52650, .inl nx)), (aLO, .inl (kLO, 1, .inr (.inl vo))), (aX, .inr (3, [.ref aR, .ref aS2])), (aR, .inr (0, [.ref aT, .ref aS])), (aT, .inr (2, [.ref aB, .int (nI u), .int (nI en), .int (nI h), .int na, .int w, .int wa])), (aB, .inl (kB, 65536, .inl B)), (aS, .inr (1, [.ref aN, .ref aC])), (aN, .inl (kN, 5, .inl (fun j => nI (cnt j)))), (aC, .inl (kC, 52035, .inl cel)), (aS2, .inr (1, [.ref aN2, .ref aC2])), (aN2, .inl (kN2, 5, .inl (fun j => nI (cntb j)))), (aC2, .inl (kC2, 52035, .inl celb))] H := hP
                      have hD : va_D A [(aM, .inr (4, [.int th, .ref aMT, .int (nI u), .ref aNw, .ref aNx, .int w, .int wa, .int (nI ma), .int (nI enm), .long mv, .int mf, .int ml])), (aMT, .inl (kMT, 65536, .inl B)), (aNw, .inl (kNw, 52650, .inl nw)), (aNx, .inl (kNx, 52650, .inl nx)), (aLO, .inl (kLO, 1, .inr (.inl vo))), (aX, .inr (3, [.ref aR, .ref aS2])), (aR, .inr (0, [.ref aT, .ref aS])), (aT, .inr (2, [.ref aB, .int (nI u), .int (nI en), .int (nI h), .int na, .int w, .int wa])), (aB, .inl (kB, 65536, .inl B)), (aS, .inr (1, [.ref aN, .ref aC])), (aN, .inl (kN, 5, .inl (fun j => nI (cnt j)))), (aC, .inl (kC, 52035, .inl cel)), (aS2, .inr (1, [.ref aN2, .ref aC2])), (aN2, .inl (kN2, 5, .inl (fun j => nI (cntb j)))), (aC2, .inl (kC2, 52035, .inl celb))] := hD
                      refine lv_aload_n hx hb d_law_374 rfl (lv_at hl 2 rfl) ?_
                      refine lv_aload_n hx hb d_law_375 rfl (lv_at hl 0 rfl) ?_
                      refine lv_iload hx hb d_law_376 (lv_at hl 4 rfl) ?_
                      refine lv_iconst (v := 1) hx hb d_law_378 (by decide) ?_
                      refine lv_iadd hx hb d_law_379 ?_
                      refine zt_top (nI_add (6 * it) 1) ?_
                      refine va_sld (i := nI ((6 * it) + 1)) hx hb hX hbl hbA hS (vp_in_nI (by omega) (by omega)) d_law_380 ?_
                      refine zt_top (by rw [nI_clamp (by omega)]) ?_
                      refine lv_aload_n hx hb d_law_381 rfl (lv_at hl 0 rfl) ?_
                      refine lv_iload hx hb d_law_382 (lv_at hl 4 rfl) ?_
                      refine lv_iconst (v := 2) hx hb d_law_384 (by decide) ?_
                      refine lv_iadd hx hb d_law_385 ?_
                      refine zt_top (nI_add (6 * it) 2) ?_
                      refine va_sld (i := nI ((6 * it) + 2)) hx hb hX hbl hbA hS (vp_in_nI (by omega) (by omega)) d_law_386 ?_
                      refine zt_top (by rw [nI_clamp (by omega)]) ?_
                      refine lv_aload_n hx hb d_law_387 rfl (lv_at hl 0 rfl) ?_
                      refine lv_iload hx hb d_law_388 (lv_at hl 4 rfl) ?_
                      refine lv_iconst (v := 3) hx hb d_law_390 (by decide) ?_
                      refine lv_iadd hx hb d_law_391 ?_
                      refine zt_top (nI_add (6 * it) 3) ?_
                      refine va_sld (i := nI ((6 * it) + 3)) hx hb hX hbl hbA hS (vp_in_nI (by omega) (by omega)) d_law_392 ?_
                      refine zt_top (by rw [nI_clamp (by omega)]) ?_
                      refine lv_aload_n hx hb d_law_393 rfl (lv_at hl 0 rfl) ?_
                      refine lv_iload hx hb d_law_394 (lv_at hl 4 rfl) ?_
                      refine lv_iconst (v := 4) hx hb d_law_396 (by decide) ?_
                      refine lv_iadd hx hb d_law_397 ?_
                      refine zt_top (nI_add (6 * it) 4) ?_
                      refine va_sld (i := nI ((6 * it) + 4)) hx hb hX hbl hbA hS (vp_in_nI (by omega) (by omega)) d_law_398 ?_
                      refine zt_top (by rw [nI_clamp (by omega)]) ?_
                      have hPc := hP.sub (ws' := [(aM, .inr (4, [.int th, .ref aMT, .int (nI u), .ref aNw, .ref aNx, .int w, .int wa, .int (nI ma), .int (nI enm), .long mv, .int mf, .int ml])), (aNw, .inl (kNw, 52650, .inl nw))]) [0, 2] rfl
                      have hDc := hD.sub (ws' := [(aM, .inr (4, [.int th, .ref aMT, .int (nI u), .ref aNw, .ref aNx, .int w, .int wa, .int (nI ma), .int (nI enm), .long mv, .int mf, .int ml])), (aNw, .inl (kNw, 52650, .inl nw))]) [0, 2] (by decide) rfl
                      have hKc := hK.sub (tys' := [(kNw, .int)]) [6] rfl
                      have hFc := va_free (wc := [(aM, .inr (4, [.int th, .ref aMT, .int (nI u), .ref aNw, .ref aNx, .int w, .int wa, .int (nI ma), .int (nI enm), .long mv, .int mf, .int ml])), (aNw, .inl (kNw, 52650, .inl nw))]) hD hS hA [0, 2] rfl
                      refine va_calli (va_runV (As := [.int (xs ((6 * it) + 1)), .int (xs ((6 * it) + 2)), .int (xs ((6 * it) + 3)), .int (xs ((6 * it) + 4))]) (rest := [.int r_89]) ⟨hx, hb, hml, hown, hts⟩ (c_Md_at l G dC dI H.size aM th aMT u aNw aNx w wa ma enm mv mf ml kNw nw cntb celb (xs ((6 * it) + 1)) (xs ((6 * it) + 2)) (xs ((6 * it) + 3)) (xs ((6 * it) + 4)) hg) (cwV 4 hts (gV tw_696 tw_697 tw_698 tw_5 tw_699 rfl) rfl rfl rfl (by decide +kernel) ⟨Nat.le_of_ble_eq_true rfl, Nat.le_of_ble_eq_true rfl⟩) (PW_preV hPc hKc hDc hE hS hFc (ci := 4) (q0 := 0) rfl rfl) rfl rfl hl.1 rfl (lv_room (Nat.le_of_ble_eq_true rfl)) d_law_399 ⟨(by show _ ≤ 601024; omega), (by show _ ≤ 7293034; omega)⟩) hS (fun q _ h => hFc q h) hFc (fun r_91 uu t H1 locs ht hvm hw_93 hB hz1 hk1 hS => ?_)
                      obtain ⟨th_92, rfl⟩ : ∃ z, z = uu := ⟨_, rfl⟩
                      obtain ⟨hP1, hD1, hsz1⟩ := hB
                      rw [ht] at hP1 hsz1
                      obtain ⟨hP, hD⟩ := va_join (wr := [(aMT, .inl (kMT, 65536, .inl B)), (aNx, .inl (kNx, 52650, .inl nx)), (aLO, .inl (kLO, 1, .inr (.inl vo))), (aX, .inr (3, [.ref aR, .ref aS2])), (aR, .inr (0, [.ref aT, .ref aS])), (aT, .inr (2, [.ref aB, .int (nI u), .int (nI en), .int (nI h), .int na, .int w, .int wa])), (aB, .inl (kB, 65536, .inl B)), (aS, .inr (1, [.ref aN, .ref aC])), (aN, .inl (kN, 5, .inl (fun j => nI (cnt j)))), (aC, .inl (kC, 52035, .inl cel)), (aS2, .inr (1, [.ref aN2, .ref aC2])), (aN2, .inl (kN2, 5, .inl (fun j => nI (cntb j)))), (aC2, .inl (kC2, 52035, .inl celb))]) (w1 := [(aM, .inr (4, [.int th_92, .ref aMT, .int (nI u), .ref aNw, .ref aNx, .int w, .int wa, .int (nI ma), .int (nI enm), .long mv, .int mf, .int ml])), (aNw, .inl (kNw, 52650, .inl nw))]) hP hD [0, 2] [1, 3, 4, 5, 6, 7, 8, 9, 10, 11, 12, 13, 14] rfl rfl (by decide) (by decide) hk1 hFc hP1 hD1
                      generalize H1 = H at hP hS ⊢
                      have hP : va_P (dC, dI) vwCl [(aMT, .inl (kMT, 65536, .inl B)), (aNx, .inl (kNx, 52650, .inl nx)), (aLO, .inl (kLO, 1, .inr (.inl vo))), (aX, .inr (3, [.ref aR, .ref aS2])), (aR, .inr (0, [.ref aT, .ref aS])), (aT, .inr (2, [.ref aB, .int (nI u), .int (nI en), .int (nI h), .int na, .int w, .int wa])), (aB, .inl (kB, 65536, .inl B)), (aS, .inr (1, [.ref aN, .ref aC])), (aN, .inl (kN, 5, .inl (fun j => nI (cnt j)))), (aC, .inl (kC, 52035, .inl cel)), (aS2, .inr (1, [.ref aN2, .ref aC2])), (aN2, .inl (kN2, 5, .inl (fun j => nI (cntb j)))), (aC2, .inl (kC2, 52035, .inl celb)), (aM, .inr (4, [.int th_92, .ref aMT, .int (nI u), .ref aNw, .ref aNx, .int w, .int wa, .int (nI ma), .int (nI enm), .long mv, .int mf, .int ml])), (aNw, .inl (kNw, 52650, .inl nw))] H := hP
                      have hD : va_D A [(aMT, .inl (kMT, 65536, .inl B)), (aNx, .inl (kNx, 52650, .inl nx)), (aLO, .inl (kLO, 1, .inr (.inl vo))), (aX, .inr (3, [.ref aR, .ref aS2])), (aR, .inr (0, [.ref aT, .ref aS])), (aT, .inr (2, [.ref aB, .int (nI u), .int (nI en), .int (nI h), .int na, .int w, .int wa])), (aB, .inl (kB, 65536, .inl B)), (aS, .inr (1, [.ref aN, .ref aC])), (aN, .inl (kN, 5, .inl (fun j => nI (cnt j)))), (aC, .inl (kC, 52035, .inl cel)), (aS2, .inr (1, [.ref aN2, .ref aC2])), (aN2, .inl (kN2, 5, .inl (fun j => nI (cntb j)))), (aC2, .inl (kC2, 52035, .inl celb)), (aM, .inr (4, [.int th_92, .ref aMT, .int (nI u), .ref aNw, .ref aNx, .int w, .int wa, .int (nI ma), .int (nI enm), .long mv, .int mf, .int ml])), (aNw, .inl (kNw, 52650, .inl nw))] := hD
                      refine lv_icmp_eq (tgt := 432) hx hb d_law_402 (by decide) (fun c_94 => ?_) (fun c_94 => ?_)
                      ·
                        refine lv_iinc (v := nI (6 * it + 6)) (lv' := [(4, .int (nI (6 * it + 6))), (0, .ref b), (1, .ref aX), (2, .ref aM), (3, .ref aLO)]) hx hb d_law_432 hl (k := 4) rfl (nI_add (6 * it) 6) (by decide) rfl (fun ls hl => ?_)
                        refine lv_goto (tgt := 23) hx hb d_law_435 (by decide) ?_
                        refine W.widen (k := 15 + (it + 1)) (n := 340480 + 6 * (it + 1)) (by omega) (by omega) ?_
                        exact ih (it + 1) aX aR aT aB u en h na w wa kB B aS aN aC kN cnt kC cel aS2 aN2 aC2 kN2 cntb kC2 celb aM th_92 aMT ma enm mv mf ml kMT aNw kNw nw aNx kNx nx aLO kLO vo (by omega) (by omega) hu hg _ _ (hK.sub [0, 1, 2, 3, 4, 5, 6, 7, 8] rfl) (hP.sub [3, 4, 5, 6, 7, 8, 9, 10, 11, 12, 13, 0, 14, 1, 2] rfl) (hD.sub [3, 4, 5, 6, 7, 8, 9, 10, 11, 12, 13, 0, 14, 1, 2] (by decide) rfl) hS ls (lv_sub hl [1, 2, 3, 4, 0] rfl)
                      ·
                        exact absurd (hw_90.trans hw_93.2.symm) c_94
                    ·
                      by_cases hv_95 : sel = 8
                      ·
                        subst hv_95
                        refine lv_tableIn (off := 367) (tgt := 407) hx hb d_law_40 (by decide) (by decide) (by decide) (by decide) ?_
                        refine lv_aload_n hx hb d_law_407 rfl (lv_at hl 1 rfl) ?_
                        refine lv_aload_n hx hb d_law_408 rfl (lv_at hl 0 rfl) ?_
                        refine lv_iload hx hb d_law_409 (lv_at hl 4 rfl) ?_
                        refine lv_iconst (v := 1) hx hb d_law_411 (by decide) ?_
                        refine lv_iadd hx hb d_law_412 ?_
                        refine zt_top (nI_add (6 * it) 1) ?_
                        refine va_sld (i := nI ((6 * it) + 1)) hx hb hX hbl hbA hS (vp_in_nI (by omega) (by omega)) d_law_413 ?_
                        refine zt_top (by rw [nI_clamp (by omega)]) ?_
                        have hPc := hP.sub (ws' := [(aX, .inr (3, [.ref aR, .ref aS2])), (aR, .inr (0, [.ref aT, .ref aS])), (aT, .inr (2, [.ref aB, .int (nI u), .int (nI en), .int (nI h), .int na, .int w, .int wa])), (aB, .inl (kB, 65536, .inl B)), (aS, .inr (1, [.ref aN, .ref aC])), (aN, .inl (kN, 5, .inl (fun j => nI (cnt j)))), (aC, .inl (kC, 52035, .inl cel)), (aS2, .inr (1, [.ref aN2, .ref aC2])), (aN2, .inl (kN2, 5, .inl (fun j => nI (cntb j)))), (aC2, .inl (kC2, 52035, .inl celb))]) [0, 1, 2, 3, 4, 5, 6, 7, 8, 9] rfl
                        have hDc := hD.sub (ws' := [(aX, .inr (3, [.ref aR, .ref aS2])), (aR, .inr (0, [.ref aT, .ref aS])), (aT, .inr (2, [.ref aB, .int (nI u), .int (nI en), .int (nI h), .int na, .int w, .int wa])), (aB, .inl (kB, 65536, .inl B)), (aS, .inr (1, [.ref aN, .ref aC])), (aN, .inl (kN, 5, .inl (fun j => nI (cnt j)))), (aC, .inl (kC, 52035, .inl cel)), (aS2, .inr (1, [.ref aN2, .ref aC2])), (aN2, .inl (kN2, 5, .inl (fun j => nI (cntb j)))), (aC2, .inl (kC2, 52035, .inl celb))]) [0, 1, 2, 3, 4, 5, 6, 7, 8, 9] (by decide) rfl
                        have hKc := hK.sub (tys' := [(kB, .byte), (kN, .int), (kC, .int), (kN2, .int), (kC2, .int)]) [0, 1, 2, 3, 4] rfl
                        have hFc := va_free (wc := [(aX, .inr (3, [.ref aR, .ref aS2])), (aR, .inr (0, [.ref aT, .ref aS])), (aT, .inr (2, [.ref aB, .int (nI u), .int (nI en), .int (nI h), .int na, .int w, .int wa])), (aB, .inl (kB, 65536, .inl B)), (aS, .inr (1, [.ref aN, .ref aC])), (aN, .inl (kN, 5, .inl (fun j => nI (cnt j)))), (aC, .inl (kC, 52035, .inl cel)), (aS2, .inr (1, [.ref aN2, .ref aC2])), (aN2, .inl (kN2, 5, .inl (fun j => nI (cntb j)))), (aC2, .inl (kC2, 52035, .inl celb))]) hD hS hA [0, 1, 2, 3, 4, 5, 6, 7, 8, 9] rfl
                        refine va_calli (va_runV (As := [.int (xs ((6 * it) + 1))]) (rest := []) ⟨hx, hb, hml, hown, hts⟩ (c_St_view l G dC dI H.size aX aR aT aB u en h na w wa kB B aS aN aC kN cnt kC cel aS2 aN2 aC2 kN2 cntb kC2 celb (xs ((6 * it) + 1))) (cwV 1 hts (gV tw_185 tw_186 tw_187 tw_1 tw_188 rfl) rfl rfl rfl (by decide +kernel) ⟨Nat.le_of_ble_eq_true rfl, Nat.le_of_ble_eq_true rfl⟩) (PW_preV hPc hKc hDc hE hS hFc (ci := 3) (q0 := 0) rfl rfl) rfl rfl hl.1 rfl (lv_room (Nat.le_of_ble_eq_true rfl)) d_law_414 ⟨(by show _ ≤ 601024; omega), (by show _ ≤ 7293034; omega)⟩) hS (fun q _ h => hFc q h) hFc (fun r_96 uu t H1 locs ht hvm hw_97 hB hz1 hk1 hS => ?_)
                        obtain ⟨hP1, hD1, hsz1⟩ := hB
                        rw [ht] at hP1 hsz1
                        obtain ⟨hP, hD⟩ := va_join (wr := [(aM, .inr (4, [.int th, .ref aMT, .int (nI u), .ref aNw, .ref aNx, .int w, .int wa, .int (nI ma), .int (nI enm), .long mv, .int mf, .int ml])), (aMT, .inl (kMT, 65536, .inl B)), (aNw, .inl (kNw, 52650, .inl nw)), (aNx, .inl (kNx, 52650, .inl nx)), (aLO, .inl (kLO, 1, .inr (.inl vo)))]) (w1 := [(aX, .inr (3, [.ref aR, .ref aS2])), (aR, .inr (0, [.ref aT, .ref aS])), (aT, .inr (2, [.ref aB, .int (nI u), .int (nI en), .int (nI h), .int na, .int w, .int wa])), (aB, .inl (kB, 65536, .inl B)), (aS, .inr (1, [.ref aN, .ref aC])), (aN, .inl (kN, 5, .inl (fun j => nI (cnt j)))), (aC, .inl (kC, 52035, .inl cel)), (aS2, .inr (1, [.ref aN2, .ref aC2])), (aN2, .inl (kN2, 5, .inl (fun j => nI (cntb j)))), (aC2, .inl (kC2, 52035, .inl celb))]) hP hD [0, 1, 2, 3, 4, 5, 6, 7, 8, 9] [10, 11, 12, 13, 14] rfl rfl (by decide) (by decide) hk1 hFc hP1 hD1
                        generalize H1 = H at hP hS ⊢
                        have hP : va_P (dC, dI) vwCl [(aM, .inr (4, [.int th, .ref aMT, .int (nI u), .ref aNw, .ref aNx, .int w, .int wa, .int (nI ma), .int (nI enm), .long mv, .int mf, .int ml])), (aMT, .inl (kMT, 65536, .inl B)), (aNw, .inl (kNw, 52650, .inl nw)), (aNx, .inl (kNx, 52650, .inl nx)), (aLO, .inl (kLO, 1, .inr (.inl vo))), (aX, .inr (3, [.ref aR, .ref aS2])), (aR, .inr (0, [.ref aT, .ref aS])), (aT, .inr (2, [.ref aB, .int (nI u), .int (nI en), .int (nI h), .int na, .int w, .int wa])), (aB, .inl (kB, 65536, .inl B)), (aS, .inr (1, [.ref aN, .ref aC])), (aN, .inl (kN, 5, .inl (fun j => nI (cnt j)))), (aC, .inl (kC, 52035, .inl cel)), (aS2, .inr (1, [.ref aN2, .ref aC2])), (aN2, .inl (kN2, 5, .inl (fun j => nI (cntb j)))), (aC2, .inl (kC2, 52035, .inl celb))] H := hP
                        have hD : va_D A [(aM, .inr (4, [.int th, .ref aMT, .int (nI u), .ref aNw, .ref aNx, .int w, .int wa, .int (nI ma), .int (nI enm), .long mv, .int mf, .int ml])), (aMT, .inl (kMT, 65536, .inl B)), (aNw, .inl (kNw, 52650, .inl nw)), (aNx, .inl (kNx, 52650, .inl nx)), (aLO, .inl (kLO, 1, .inr (.inl vo))), (aX, .inr (3, [.ref aR, .ref aS2])), (aR, .inr (0, [.ref aT, .ref aS])), (aT, .inr (2, [.ref aB, .int (nI u), .int (nI en), .int (nI h), .int na, .int w, .int wa])), (aB, .inl (kB, 65536, .inl B)), (aS, .inr (1, [.ref aN, .ref aC])), (aN, .inl (kN, 5, .inl (fun j => nI (cnt j)))), (aC, .inl (kC, 52035, .inl cel)), (aS2, .inr (1, [.ref aN2, .ref aC2])), (aN2, .inl (kN2, 5, .inl (fun j => nI (cntb j)))), (aC2, .inl (kC2, 52035, .inl celb))] := hD
                        refine lv_aload_n hx hb d_law_417 rfl (lv_at hl 2 rfl) ?_
                        refine lv_aload_n hx hb d_law_418 rfl (lv_at hl 0 rfl) ?_
                        refine lv_iload hx hb d_law_419 (lv_at hl 4 rfl) ?_
                        refine lv_iconst (v := 1) hx hb d_law_421 (by decide) ?_
                        refine lv_iadd hx hb d_law_422 ?_
                        refine zt_top (nI_add (6 * it) 1) ?_
                        refine va_sld (i := nI ((6 * it) + 1)) hx hb hX hbl hbA hS (vp_in_nI (by omega) (by omega)) d_law_423 ?_
                        refine zt_top (by rw [nI_clamp (by omega)]) ?_
                        have hPc := hP.sub (ws' := [(aM, .inr (4, [.int th, .ref aMT, .int (nI u), .ref aNw, .ref aNx, .int w, .int wa, .int (nI ma), .int (nI enm), .long mv, .int mf, .int ml])), (aNw, .inl (kNw, 52650, .inl nw))]) [0, 2] rfl
                        have hDc := hD.sub (ws' := [(aM, .inr (4, [.int th, .ref aMT, .int (nI u), .ref aNw, .ref aNx, .int w, .int wa, .int (nI ma), .int (nI enm), .long mv, .int mf, .int ml])), (aNw, .inl (kNw, 52650, .inl nw))]) [0, 2] (by decide) rfl
                        have hKc := hK.sub (tys' := [(kNw, .int)]) [6] rfl
                        have hFc := va_free (wc := [(aM, .inr (4, [.int th, .ref aMT, .int (nI u), .ref aNw, .ref aNx, .int w, .int wa, .int (nI ma), .int (nI enm), .long mv, .int mf, .int ml])), (aNw, .inl (kNw, 52650, .inl nw))]) hD hS hA [0, 2] rfl
                        refine va_calli (va_runV (As := [.int (xs ((6 * it) + 1))]) (rest := [.int r_96]) ⟨hx, hb, hml, hown, hts⟩ (c_Md_view l G dC dI H.size aM th aMT u aNw aNx w wa ma enm mv mf ml kNw nw (xs ((6 * it) + 1))) (cwV 1 hts (gV tw_700 tw_701 tw_702 tw_5 tw_703 rfl) rfl rfl rfl (by decide +kernel) ⟨Nat.le_of_ble_eq_true rfl, Nat.le_of_ble_eq_true rfl⟩) (PW_preV hPc hKc hDc hE hS hFc (ci := 4) (q0 := 0) rfl rfl) rfl rfl hl.1 rfl (lv_room (Nat.le_of_ble_eq_true rfl)) d_law_424 ⟨(by show _ ≤ 601024; omega), (by show _ ≤ 7293034; omega)⟩) hS (fun q _ h => hFc q h) hFc (fun r_98 uu t H1 locs ht hvm hw_100 hB hz1 hk1 hS => ?_)
                        obtain ⟨th_99, rfl⟩ : ∃ z, z = uu := ⟨_, rfl⟩
                        obtain ⟨hP1, hD1, hsz1⟩ := hB
                        rw [ht] at hP1 hsz1
                        obtain ⟨hP, hD⟩ := va_join (wr := [(aMT, .inl (kMT, 65536, .inl B)), (aNx, .inl (kNx, 52650, .inl nx)), (aLO, .inl (kLO, 1, .inr (.inl vo))), (aX, .inr (3, [.ref aR, .ref aS2])), (aR, .inr (0, [.ref aT, .ref aS])), (aT, .inr (2, [.ref aB, .int (nI u), .int (nI en), .int (nI h), .int na, .int w, .int wa])), (aB, .inl (kB, 65536, .inl B)), (aS, .inr (1, [.ref aN, .ref aC])), (aN, .inl (kN, 5, .inl (fun j => nI (cnt j)))), (aC, .inl (kC, 52035, .inl cel)), (aS2, .inr (1, [.ref aN2, .ref aC2])), (aN2, .inl (kN2, 5, .inl (fun j => nI (cntb j)))), (aC2, .inl (kC2, 52035, .inl celb))]) (w1 := [(aM, .inr (4, [.int th_99, .ref aMT, .int (nI u), .ref aNw, .ref aNx, .int w, .int wa, .int (nI ma), .int (nI enm), .long mv, .int mf, .int ml])), (aNw, .inl (kNw, 52650, .inl nw))]) hP hD [0, 2] [1, 3, 4, 5, 6, 7, 8, 9, 10, 11, 12, 13, 14] rfl rfl (by decide) (by decide) hk1 hFc hP1 hD1
                        generalize H1 = H at hP hS ⊢
                        have hP : va_P (dC, dI) vwCl [(aMT, .inl (kMT, 65536, .inl B)), (aNx, .inl (kNx, 52650, .inl nx)), (aLO, .inl (kLO, 1, .inr (.inl vo))), (aX, .inr (3, [.ref aR, .ref aS2])), (aR, .inr (0, [.ref aT, .ref aS])), (aT, .inr (2, [.ref aB, .int (nI u), .int (nI en), .int (nI h), .int na, .int w, .int wa])), (aB, .inl (kB, 65536, .inl B)), (aS, .inr (1, [.ref aN, .ref aC])), (aN, .inl (kN, 5, .inl (fun j => nI (cnt j)))), (aC, .inl (kC, 52035, .inl cel)), (aS2, .inr (1, [.ref aN2, .ref aC2])), (aN2, .inl (kN2, 5, .inl (fun j => nI (cntb j)))), (aC2, .inl (kC2, 52035, .inl celb)), (aM, .inr (4, [.int th_99, .ref aMT, .int (nI u), .ref aNw, .ref aNx, .int w, .int wa, .int (nI ma), .int (nI enm), .long mv, .int mf, .int ml])), (aNw, .inl (kNw, 52650, .inl nw))] H := hP
                        have hD : va_D A [(aMT, .inl (kMT, 65536, .inl B)), (aNx, .inl (kNx, 52650, .inl nx)), (aLO, .inl (kLO, 1, .inr (.inl vo))), (aX, .inr (3, [.ref aR, .ref aS2])), (aR, .inr (0, [.ref aT, .ref aS])), (aT, .inr (2, [.ref aB, .int (nI u), .int (nI en), .int (nI h), .int na, .int w, .int wa])), (aB, .inl (kB, 65536, .inl B)), (aS, .inr (1, [.ref aN, .ref aC])), (aN, .inl (kN, 5, .inl (fun j => nI (cnt j)))), (aC, .inl (kC, 52035, .inl cel)), (aS2, .inr (1, [.ref aN2, .ref aC2])), (aN2, .inl (kN2, 5, .inl (fun j => nI (cntb j)))), (aC2, .inl (kC2, 52035, .inl celb)), (aM, .inr (4, [.int th_99, .ref aMT, .int (nI u), .ref aNw, .ref aNx, .int w, .int wa, .int (nI ma), .int (nI enm), .long mv, .int mf, .int ml])), (aNw, .inl (kNw, 52650, .inl nw))] := hD
                        refine lv_icmp_eq (tgt := 432) hx hb d_law_427 (by decide) (fun c_101 => ?_) (fun c_101 => ?_)
                        ·
                          refine lv_iinc (v := nI (6 * it + 6)) (lv' := [(4, .int (nI (6 * it + 6))), (0, .ref b), (1, .ref aX), (2, .ref aM), (3, .ref aLO)]) hx hb d_law_432 hl (k := 4) rfl (nI_add (6 * it) 6) (by decide) rfl (fun ls hl => ?_)
                          refine lv_goto (tgt := 23) hx hb d_law_435 (by decide) ?_
                          refine W.widen (k := 15 + (it + 1)) (n := 340480 + 6 * (it + 1)) (by omega) (by omega) ?_
                          exact ih (it + 1) aX aR aT aB u en h na w wa kB B aS aN aC kN cnt kC cel aS2 aN2 aC2 kN2 cntb kC2 celb aM th_99 aMT ma enm mv mf ml kMT aNw kNw nw aNx kNx nx aLO kLO vo (by omega) (by omega) hu hg _ _ (hK.sub [0, 1, 2, 3, 4, 5, 6, 7, 8] rfl) (hP.sub [3, 4, 5, 6, 7, 8, 9, 10, 11, 12, 13, 0, 14, 1, 2] rfl) (hD.sub [3, 4, 5, 6, 7, 8, 9, 10, 11, 12, 13, 0, 14, 1, 2] (by decide) rfl) hS ls (lv_sub hl [1, 2, 3, 4, 0] rfl)
                        ·
                          exact absurd (hw_97.trans (hw_100.2.trans (zview_eq hg)).symm) c_101
                      ·
                        refine lv_tableOut (tgt := 432) hx hb d_law_40 (by have q0 := lv_neT (a := 0) hv_2 (by decide); have q1 := lv_neT (a := 1) hv_14 (by decide); have q2 := lv_neT (a := 2) hv_23 (by decide); have q3 := lv_neT (a := 3) hv_30 (by decide); have q4 := lv_neT (a := 4) hv_67 (by decide); have q5 := lv_neT (a := 5) hv_74 (by decide); have q6 := lv_neT (a := 6) hv_81 (by decide); have q7 := lv_neT (a := 7) hv_88 (by decide); have q8 := lv_neT (a := 8) hv_95 (by decide); omega) (by decide) ?_
                        refine lv_iinc (v := nI (6 * it + 6)) (lv' := [(4, .int (nI (6 * it + 6))), (0, .ref b), (1, .ref aX), (2, .ref aM), (3, .ref aLO)]) hx hb d_law_432 hl (k := 4) rfl (nI_add (6 * it) 6) (by decide) rfl (fun ls hl => ?_)
                        refine lv_goto (tgt := 23) hx hb d_law_435 (by decide) ?_
                        refine W.widen (k := 15 + (it + 1)) (n := 340480 + 6 * (it + 1)) (by omega) (by omega) ?_
                        exact ih (it + 1) aX aR aT aB u en h na w wa kB B aS aN aC kN cnt kC cel aS2 aN2 aC2 kN2 cntb kC2 celb aM th aMT ma enm mv mf ml kMT aNw kNw nw aNx kNx nx aLO kLO vo (by omega) (by omega) hu hg _ _ (hK.sub [0, 1, 2, 3, 4, 5, 6, 7, 8] rfl) (hP.sub [0, 1, 2, 3, 4, 5, 6, 7, 8, 9, 10, 11, 12, 13, 14] rfl) (hD.sub [0, 1, 2, 3, 4, 5, 6, 7, 8, 9, 10, 11, 12, 13, 14] (by decide) rfl) hS ls (lv_sub hl [1, 2, 3, 4, 0] rfl)
