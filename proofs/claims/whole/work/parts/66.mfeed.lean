/-! The reference's bytes of a feed are the class's. -/
theorem zsh_aux (x : BitVec 32) (n : Nat) (h : n ≤ 24) : (x.sshiftRight n).signExtend 8 = (x >>> n).signExtend 8 := by
  ext i hi
  rw [BitVec.getElem_signExtend, BitVec.getElem_signExtend, dif_pos (by omega), dif_pos (by omega), BitVec.getElem_sshiftRight, BitVec.getElem_ushiftRight, dif_pos (by omega), BitVec.getLsbD_eq_getElem (by omega)]
theorem zsh24 (x : Int32) : (x >>> (nI 24 &&& 31)).toInt8 = (x.toUInt32 >>> ((24 : Int32).toUInt32 &&& Int32.toUInt32 31)).toInt32.toInt8 := Int8.toBitVec_inj.mp (zsh_aux x.toBitVec 24 (by decide))
theorem zsh16 (x : Int32) : (x >>> (nI 16 &&& 31)).toInt8 = (x.toUInt32 >>> ((16 : Int32).toUInt32 &&& Int32.toUInt32 31)).toInt32.toInt8 := Int8.toBitVec_inj.mp (zsh_aux x.toBitVec 16 (by decide))
theorem zsh8 (x : Int32) : (x >>> (nI 8 &&& 31)).toInt8 = (x.toUInt32 >>> ((8 : Int32).toUInt32 &&& Int32.toUInt32 31)).toInt32.toInt8 := Int8.toBitVec_inj.mp (zsh_aux x.toBitVec 8 (by decide))
theorem zsh0 (x : Int32) : (x >>> (nI 0 &&& 31)).toInt8 = (x.toUInt32 >>> ((0 : Int32).toUInt32 &&& Int32.toUInt32 31)).toInt32.toInt8 := Int8.toBitVec_inj.mp (zsh_aux x.toBitVec 0 (by decide))
def zFw (f1 f2 f3 f4 f5 : Int32) (k : Nat) : Int32 := if k < 4 then f1 else if k < 8 then f2 else if k < 12 then f3 else if k < 16 then f4 else f5
def zFb (v : Int32) (k : Nat) : Int32 := vp_nar .byte (v >>> (nI (24 - 8 * (k % 4)) &&& 31)).toInt8.toInt32
def zFm (B : Nat → Int32) (u : Nat) (f1 f2 f3 f4 f5 : Int32) : Nat → Nat → Int32
  | 0 => B
  | k + 1 => upd (zFm B u f1 f2 f3 f4 f5 k) (u + k) (zFb (zFw f1 f2 f3 f4 f5 k) k)
theorem zFm_4 {B : Nat → Int32} {u : Nat} {f1 f2 f3 f4 f5 v : Int32} {k : Nat} (hk : k % 4 = 0) (h : ∀ j, j < 4 → zFw f1 f2 f3 f4 f5 (k + j) = v) : zFm B u f1 f2 f3 f4 f5 (k + 4) = zP4 (zFm B u f1 f2 f3 f4 f5 k) (u + k) v := by
  show upd (upd (upd (upd (zFm B u f1 f2 f3 f4 f5 k) (u + k) (zFb (zFw f1 f2 f3 f4 f5 (k + 0)) k)) (u + k + 1) (zFb (zFw f1 f2 f3 f4 f5 (k + 1)) (k + 1))) (u + k + 1 + 1) (zFb (zFw f1 f2 f3 f4 f5 (k + 2)) (k + 2))) (u + k + 1 + 1 + 1) (zFb (zFw f1 f2 f3 f4 f5 (k + 3)) (k + 3)) = _
  rw [h 0 (by omega), h 1 (by omega), h 2 (by omega), h 3 (by omega)]
  unfold zP4 zPb zFb
  rw [show 24 - 8 * (k % 4) = 24 by omega, show 24 - 8 * ((k + 1) % 4) = 16 by omega, show 24 - 8 * ((k + 2) % 4) = 8 by omega, show 24 - 8 * ((k + 3) % 4) = 0 by omega, zsh24, zsh16, zsh8, zsh0]
theorem zFm_20 (B : Nat → Int32) (u : Nat) (f1 f2 f3 f4 f5 : Int32) : zFm B u f1 f2 f3 f4 f5 20 = zFeed B u f1 f2 f3 f4 f5 := by
  unfold zFeed
  rw [zFm_4 (k := 16) (v := f5) rfl (fun j hj => by unfold zFw; rw [if_neg (by omega), if_neg (by omega), if_neg (by omega), if_neg (by omega)]),
    zFm_4 (k := 12) (v := f4) rfl (fun j hj => by unfold zFw; rw [if_neg (by omega), if_neg (by omega), if_neg (by omega), if_pos (by omega)]),
    zFm_4 (k := 8) (v := f3) rfl (fun j hj => by unfold zFw; rw [if_neg (by omega), if_neg (by omega), if_pos (by omega)]),
    zFm_4 (k := 4) (v := f2) rfl (fun j hj => by unfold zFw; rw [if_neg (by omega), if_pos (by omega)]),
    zFm_4 (k := 0) (v := f1) rfl (fun j hj => by unfold zFw; rw [if_pos (by omega)])]
  rfl
theorem zFm_go {B : Nat → Int32} {u : Nat} {f1 f2 f3 f4 f5 v : Int32} {k : Nat} (h : zFw f1 f2 f3 f4 f5 k = v) : upd (zFm B u f1 f2 f3 f4 f5 k) (u + k) (vp_nar .byte (v >>> (nI (24 - 8 * (k % 4)) &&& 31)).toInt8.toInt32) = zFm B u f1 f2 f3 f4 f5 (k + 1) := by
  rw [← h]; rfl
set_option maxHeartbeats 4000000 in
set_option maxRecDepth 100000 in
theorem lp_Md_feed (l : Launch) (G : ZG) (dC : Nat → ClassId) (dI : Nat → Nat → Nat) (aM : Nat) (th : Int32) (aMT : Nat) (mu : Nat) (aNw : Nat) (aNx : Nat) (mw : Int32) (mwa : Int32) (ma : Nat) (en : Nat) (mv : Int64) (mf : Int32) (ml : Int32) (kMT : ClassId) (B : Nat → Int32) (f1 : Int32) (f2 : Int32) (f3 : Int32) (f4 : Int32) (f5 : Int32) (hmu : mu ≤ 65536) {p : Program} {e : Env} {s : State} {m : MethodId} {args : Array Value} {below : List Frame} {meth : Method} {c : Code} {A : Nat → Prop} (C0 : zC p s m args meth c prog_6_method_4_code 8 (some .boolean) R_Md w_Md_feed) (hA : ∀ q : Nat, s.heap.size ≤ q → A q) (hK : va_K (dC, dI) vwCl [(kMT, .byte)] s) (hE : zE G A s s.heap) : ∀ (n : Nat) (kq : Nat), (kq ≤ 20) → (21 ≤ kq + n) → (mu + 20 ≤ 65536) → ∀ (H : Heap) (locs : List Loc), va_P (dC, dI) vwCl [(aM, .inr (4, [.int 0, .ref aMT, .int (nI (mu + kq)), .ref aNw, .ref aNx, .int mw, .int mwa, .int (nI ma), .int (nI en), .long mv, .int mf, .int ml])), (aMT, .inl (kMT, 65536, .inl (zFm B mu f1 f2 f3 f4 f5 kq)))] H → va_D A [(aM, .inr (4, [.int 0, .ref aMT, .int (nI (mu + kq)), .ref aNw, .ref aNx, .int mw, .int mwa, .int (nI ma), .int (nI en), .long mv, .int mf, .int ml])), (aMT, .inl (kMT, 65536, .inl (zFm B mu f1 f2 f3 f4 f5 kq)))] → va_S A s.heap H locs → ∀ (ls : Array Slot), lv_has ls 8 [(0, .ref aM), (1, .int f1), (2, .int f2), (3, .int f3), (4, .int f4), (5, .int f5), (6, .int (nI kq))] → W p l e ({ frames := 0, cells := 0, slots := 0, locals := 0 }) s m args below meth c H locs 0 0 (MQ below (va_Qi (fun (r : Int32) (uu : Int32 × Nat × (Nat → Int32)) => uu.1 = 0 ∧ ((mu ≤ 65516 ∧ r = 1 ∧ uu.2.1 = mu + 20 ∧ uu.2.2 = zFeed B mu f1 f2 f3 f4 f5) ∨ (¬ mu ≤ 65516 ∧ r = 0 ∧ uu.2.1 = mu ∧ uu.2.2 = B))) (fun (uu : Int32 × Nat × (Nat → Int32)) t => BW (dC, dI) [(aM, .inr (4, [.int uu.1, .ref aMT, .int (nI uu.2.1), .ref aNw, .ref aNx, .int mw, .int mwa, .int (nI ma), .int (nI en), .long mv, .int mf, .int ml])), (aMT, .inl (kMT, 65536, .inl uu.2.2))] A s.heap.size t) A) args s 0 0 A) (F0 m 22 ls []) := by
  obtain ⟨hx, hb, hr, hml, hown, hts, hlocks⟩ := C0
  have hz : ∀ w ∈ ZW, w.before _ s = true := fun w h => hts w (List.mem_cons_of_mem _ h)
  intro n
  induction n with
  | zero =>
    intro kq hkq hn hu20 H locs hP hD hS ls hl
    exact absurd hn (by omega)
  | succ n ih =>
    intro kq hkq hn hu20 H locs hP hD hS ls hl
    refine lv_iload hx hb d_Md_feed_22 (lv_at hl 6 rfl) ?_
    refine lv_bipush (v := 20) hx hb d_Md_feed_24 (by decide) ?_
    refine lv_icmp_ge (tgt := 116) hx hb d_Md_feed_26 (by decide) (fun c_1 => ?_) (fun c_1 => ?_)
    ·
      have c_1 : 20 ≤ kq := (@nI_leI 20 kq (by omega) (by omega)).mp c_1
      refine lv_iconst (v := 1) hx hb d_Md_feed_116 (by decide) ?_
      refine zt_size (fun hzs => ?_)
      have hP9 := hP.sub (ws' := [(aM, .inr (4, [.int 0, .ref aMT, .int (nI (mu + kq)), .ref aNw, .ref aNx, .int mw, .int mwa, .int (nI ma), .int (nI en), .long mv, .int mf, .int ml])), (aMT, .inl (kMT, 65536, .inl (zFm B mu f1 f2 f3 f4 f5 kq)))]) [0, 1] rfl
      have hD9 := hD.sub (ws' := [(aM, .inr (4, [.int 0, .ref aMT, .int (nI (mu + kq)), .ref aNw, .ref aNx, .int mw, .int mwa, .int (nI ma), .int (nI en), .long mv, .int mf, .int ml])), (aMT, .inl (kMT, 65536, .inl (zFm B mu f1 f2 f3 f4 f5 kq)))]) [0, 1] (by decide) rfl
      exact W.zret (v := 1) hx hb hr rfl (fun t ht hW => ⟨⟨1, (0, mu + kq, zFm B mu f1 f2 f3 f4 f5 kq), rfl, ⟨rfl, Or.inl ⟨by omega, rfl, by show mu + kq = mu + 20; omega, by show zFm B mu f1 f2 f3 f4 f5 kq = _; rw [show kq = 20 by omega]; exact zFm_20 B mu f1 f2 f3 f4 f5⟩⟩, by rw [ht]; exact hP9, hD9, by rw [ht]; exact hzs⟩, hS.F ht⟩) hS.2.2 d_Md_feed_117
    ·
      have c_1 : ¬ (20 ≤ kq) := fun z => c_1 ((@nI_leI 20 kq (by omega) (by omega)).mpr z)
      refine lv_iload hx hb d_Md_feed_29 (lv_at hl 6 rfl) ?_
      refine lv_iconst (v := 4) hx hb d_Md_feed_31 (by decide) ?_
      refine lv_icmp_ge (tgt := 39) hx hb d_Md_feed_32 (by decide) (fun c_2 => ?_) (fun c_2 => ?_)
      ·
        have c_2 : 4 ≤ kq := (@nI_leI 4 kq (by omega) (by omega)).mp c_2
        refine lv_iload hx hb d_Md_feed_39 (lv_at hl 6 rfl) ?_
        refine lv_bipush (v := 8) hx hb d_Md_feed_41 (by decide) ?_
        refine lv_icmp_ge (tgt := 50) hx hb d_Md_feed_43 (by decide) (fun c_3 => ?_) (fun c_3 => ?_)
        ·
          have c_3 : 8 ≤ kq := (@nI_leI 8 kq (by omega) (by omega)).mp c_3
          refine lv_iload hx hb d_Md_feed_50 (lv_at hl 6 rfl) ?_
          refine lv_bipush (v := 12) hx hb d_Md_feed_52 (by decide) ?_
          refine lv_icmp_ge (tgt := 61) hx hb d_Md_feed_54 (by decide) (fun c_4 => ?_) (fun c_4 => ?_)
          ·
            have c_4 : 12 ≤ kq := (@nI_leI 12 kq (by omega) (by omega)).mp c_4
            refine lv_iload hx hb d_Md_feed_61 (lv_at hl 6 rfl) ?_
            refine lv_bipush (v := 16) hx hb d_Md_feed_63 (by decide) ?_
            refine lv_icmp_ge (tgt := 73) hx hb d_Md_feed_65 (by decide) (fun c_5 => ?_) (fun c_5 => ?_)
            ·
              have c_5 : 16 ≤ kq := (@nI_leI 16 kq (by omega) (by omega)).mp c_5
              refine lv_iload hx hb d_Md_feed_73 (lv_at hl 5 rfl) ?_
              refine lv_istore (lv' := [(7, .int f5), (0, .ref aM), (1, .int f1), (2, .int f2), (3, .int f3), (4, .int f4), (5, .int f5), (6, .int (nI kq))]) hx hb d_Md_feed_75 hl (by decide) rfl (fun ls hl => ?_)
              refine lv_aload_n hx hb d_Md_feed_77 rfl (lv_at hl 1 rfl) ?_
              refine va_get (D := (dC, dI)) (ci := 4) (v := .ref aMT) (C := R_Md) (T := F_Md) (N := 12) hx hb hz i_Md hown hK hP 0 rfl rfl 1 (by decide) (hz _ tw_477) (fun _ h9 => h9) rfl d_Md_feed_78 ?_
              refine lv_aload_n hx hb d_Md_feed_81 rfl (lv_at hl 1 rfl) ?_
              refine va_get (D := (dC, dI)) (ci := 4) (v := .int (nI (mu + kq))) (C := R_Md) (T := F_Md) (N := 12) hx hb hz i_Md hown hK hP 0 rfl rfl 2 (by decide) (hz _ tw_478) (fun _ h9 => h9) rfl d_Md_feed_82 ?_
              refine lv_iload hx hb d_Md_feed_85 (lv_at hl 0 rfl) ?_
              refine lv_bipush (v := 24) hx hb d_Md_feed_87 (by decide) ?_
              refine lv_bipush (v := 8) hx hb d_Md_feed_89 (by decide) ?_
              refine lv_iload hx hb d_Md_feed_91 (lv_at hl 7 rfl) ?_
              refine lv_iconst (v := 4) hx hb d_Md_feed_93 (by decide) ?_
              refine lv_irem hx hb d_Md_feed_94 (by decide) ?_
              refine zt_top (pk_rem (a := kq) (d := 4) (by omega) (by decide) (by decide)) ?_
              refine lv_imul hx hb d_Md_feed_95 ?_
              refine zt_top (pk_mul 8 (kq % 4)) ?_
              refine lv_isub hx hb d_Md_feed_96 ?_
              refine zt_top (pk_sub (a := 24) (b := 8 * (kq % 4)) (by omega)) ?_
              refine lv_ishr hx hb d_Md_feed_97 ?_
              refine lv_i2b (v := (f5 >>> (nI (24 - 8 * (kq % 4)) &&& 31)).toInt8.toInt32) hx hb d_Md_feed_98 rfl ?_
              refine va_bast (D := (dC, dI)) (i := nI (mu + kq)) (x := (f5 >>> (nI (24 - 8 * (kq % 4)) &&& 31)).toInt8.toInt32) hx hb hK hP hD hS 1 0 rfl rfl (vp_in_nI (by omega) (by decide)) d_Md_feed_99 (fun H locs hP hD hS => ?_)
              rw [nI_clamp (by omega)] at hP hD
              have hP : va_P (dC, dI) vwCl [(aM, .inr (4, [.int 0, .ref aMT, .int (nI (mu + kq)), .ref aNw, .ref aNx, .int mw, .int mwa, .int (nI ma), .int (nI en), .long mv, .int mf, .int ml])), (aMT, .inl (kMT, 65536, .inl (upd (zFm B mu f1 f2 f3 f4 f5 kq) (mu + kq) (vp_nar .byte ((f5 >>> (nI (24 - 8 * (kq % 4)) &&& 31)).toInt8.toInt32)))))] H := hP
              have hD : va_D A [(aM, .inr (4, [.int 0, .ref aMT, .int (nI (mu + kq)), .ref aNw, .ref aNx, .int mw, .int mwa, .int (nI ma), .int (nI en), .long mv, .int mf, .int ml])), (aMT, .inl (kMT, 65536, .inl (upd (zFm B mu f1 f2 f3 f4 f5 kq) (mu + kq) (vp_nar .byte ((f5 >>> (nI (24 - 8 * (kq % 4)) &&& 31)).toInt8.toInt32)))))] := hD
              refine lv_aload_n hx hb d_Md_feed_100 rfl (lv_at hl 1 rfl) ?_
              refine lv_dup hx hb d_Md_feed_101 rfl ?_
              refine va_get (D := (dC, dI)) (ci := 4) (v := .int (nI (mu + kq))) (C := R_Md) (T := F_Md) (N := 12) hx hb hz i_Md hown hK hP 0 rfl rfl 2 (by decide) (hz _ tw_478) (fun _ h9 => h9) rfl d_Md_feed_102 ?_
              refine lv_iconst (v := 1) hx hb d_Md_feed_105 (by decide) ?_
              refine lv_iadd hx hb d_Md_feed_106 ?_
              refine zt_top (nI_add (mu + kq) 1) ?_
              refine va_put (D := (dC, dI)) (ci := 4) (v := .int (nI ((mu + kq) + 1))) (ty := .int) (C := R_Md) (T := F_Md) (N := 12) hx hb hz i_Md t_Md t_Md_ok n_Md hown hK hP hD hS 0 rfl rfl 2 (by decide) (hz _ tw_478) (fun _ h9 => h9) rfl (by decide +kernel) rfl rfl (Nat.le_of_ble_eq_true rfl) d_Md_feed_107 (fun H locs hP hD hS => ?_)
              have hP : va_P (dC, dI) vwCl [(aM, .inr (4, [.int 0, .ref aMT, .int (nI ((mu + kq) + 1)), .ref aNw, .ref aNx, .int mw, .int mwa, .int (nI ma), .int (nI en), .long mv, .int mf, .int ml])), (aMT, .inl (kMT, 65536, .inl (upd (zFm B mu f1 f2 f3 f4 f5 kq) (mu + kq) (vp_nar .byte ((f5 >>> (nI (24 - 8 * (kq % 4)) &&& 31)).toInt8.toInt32)))))] H := hP
              have hD : va_D A [(aM, .inr (4, [.int 0, .ref aMT, .int (nI ((mu + kq) + 1)), .ref aNw, .ref aNx, .int mw, .int mwa, .int (nI ma), .int (nI en), .long mv, .int mf, .int ml])), (aMT, .inl (kMT, 65536, .inl (upd (zFm B mu f1 f2 f3 f4 f5 kq) (mu + kq) (vp_nar .byte ((f5 >>> (nI (24 - 8 * (kq % 4)) &&& 31)).toInt8.toInt32)))))] := hD
              refine lv_iinc (v := nI (kq + 1)) (lv' := [(6, .int (nI (kq + 1))), (7, .int f5), (0, .ref aM), (1, .int f1), (2, .int f2), (3, .int f3), (4, .int f4), (5, .int f5)]) hx hb d_Md_feed_110 hl (k := 7) rfl (nI_add kq 1) (by decide) rfl (fun ls hl => ?_)
              refine lv_goto (tgt := 22) hx hb d_Md_feed_113 (by decide) ?_
              rw [zFm_go (show zFw f1 f2 f3 f4 f5 kq = f5 by unfold zFw; rw [if_neg (by omega), if_neg (by omega), if_neg (by omega), if_neg (by omega)])] at hP hD
              have hP : va_P (dC, dI) vwCl [(aM, .inr (4, [.int 0, .ref aMT, .int (nI (mu + (kq + 1))), .ref aNw, .ref aNx, .int mw, .int mwa, .int (nI ma), .int (nI en), .long mv, .int mf, .int ml])), (aMT, .inl (kMT, 65536, .inl (zFm B mu f1 f2 f3 f4 f5 (kq + 1))))] H := hP
              have hD : va_D A [(aM, .inr (4, [.int 0, .ref aMT, .int (nI (mu + (kq + 1))), .ref aNw, .ref aNx, .int mw, .int mwa, .int (nI ma), .int (nI en), .long mv, .int mf, .int ml])), (aMT, .inl (kMT, 65536, .inl (zFm B mu f1 f2 f3 f4 f5 (kq + 1))))] := hD
              exact ih (kq + 1) (by omega) (by omega) hu20 _ _ (hP.sub [0, 1] rfl) (hD.sub [0, 1] (by decide) rfl) hS ls (lv_sub hl [2, 3, 4, 5, 6, 7, 0] rfl)
            ·
              have c_5 : ¬ (16 ≤ kq) := fun z => c_5 ((@nI_leI 16 kq (by omega) (by omega)).mpr z)
              refine lv_iload hx hb d_Md_feed_68 (lv_at hl 4 rfl) ?_
              refine lv_goto (tgt := 75) hx hb d_Md_feed_70 (by decide) ?_
              refine lv_istore (lv' := [(7, .int f4), (0, .ref aM), (1, .int f1), (2, .int f2), (3, .int f3), (4, .int f4), (5, .int f5), (6, .int (nI kq))]) hx hb d_Md_feed_75 hl (by decide) rfl (fun ls hl => ?_)
              refine lv_aload_n hx hb d_Md_feed_77 rfl (lv_at hl 1 rfl) ?_
              refine va_get (D := (dC, dI)) (ci := 4) (v := .ref aMT) (C := R_Md) (T := F_Md) (N := 12) hx hb hz i_Md hown hK hP 0 rfl rfl 1 (by decide) (hz _ tw_477) (fun _ h9 => h9) rfl d_Md_feed_78 ?_
              refine lv_aload_n hx hb d_Md_feed_81 rfl (lv_at hl 1 rfl) ?_
              refine va_get (D := (dC, dI)) (ci := 4) (v := .int (nI (mu + kq))) (C := R_Md) (T := F_Md) (N := 12) hx hb hz i_Md hown hK hP 0 rfl rfl 2 (by decide) (hz _ tw_478) (fun _ h9 => h9) rfl d_Md_feed_82 ?_
              refine lv_iload hx hb d_Md_feed_85 (lv_at hl 0 rfl) ?_
              refine lv_bipush (v := 24) hx hb d_Md_feed_87 (by decide) ?_
              refine lv_bipush (v := 8) hx hb d_Md_feed_89 (by decide) ?_
              refine lv_iload hx hb d_Md_feed_91 (lv_at hl 7 rfl) ?_
              refine lv_iconst (v := 4) hx hb d_Md_feed_93 (by decide) ?_
              refine lv_irem hx hb d_Md_feed_94 (by decide) ?_
              refine zt_top (pk_rem (a := kq) (d := 4) (by omega) (by decide) (by decide)) ?_
              refine lv_imul hx hb d_Md_feed_95 ?_
              refine zt_top (pk_mul 8 (kq % 4)) ?_
              refine lv_isub hx hb d_Md_feed_96 ?_
              refine zt_top (pk_sub (a := 24) (b := 8 * (kq % 4)) (by omega)) ?_
              refine lv_ishr hx hb d_Md_feed_97 ?_
              refine lv_i2b (v := (f4 >>> (nI (24 - 8 * (kq % 4)) &&& 31)).toInt8.toInt32) hx hb d_Md_feed_98 rfl ?_
              refine va_bast (D := (dC, dI)) (i := nI (mu + kq)) (x := (f4 >>> (nI (24 - 8 * (kq % 4)) &&& 31)).toInt8.toInt32) hx hb hK hP hD hS 1 0 rfl rfl (vp_in_nI (by omega) (by decide)) d_Md_feed_99 (fun H locs hP hD hS => ?_)
              rw [nI_clamp (by omega)] at hP hD
              have hP : va_P (dC, dI) vwCl [(aM, .inr (4, [.int 0, .ref aMT, .int (nI (mu + kq)), .ref aNw, .ref aNx, .int mw, .int mwa, .int (nI ma), .int (nI en), .long mv, .int mf, .int ml])), (aMT, .inl (kMT, 65536, .inl (upd (zFm B mu f1 f2 f3 f4 f5 kq) (mu + kq) (vp_nar .byte ((f4 >>> (nI (24 - 8 * (kq % 4)) &&& 31)).toInt8.toInt32)))))] H := hP
              have hD : va_D A [(aM, .inr (4, [.int 0, .ref aMT, .int (nI (mu + kq)), .ref aNw, .ref aNx, .int mw, .int mwa, .int (nI ma), .int (nI en), .long mv, .int mf, .int ml])), (aMT, .inl (kMT, 65536, .inl (upd (zFm B mu f1 f2 f3 f4 f5 kq) (mu + kq) (vp_nar .byte ((f4 >>> (nI (24 - 8 * (kq % 4)) &&& 31)).toInt8.toInt32)))))] := hD
              refine lv_aload_n hx hb d_Md_feed_100 rfl (lv_at hl 1 rfl) ?_
              refine lv_dup hx hb d_Md_feed_101 rfl ?_
              refine va_get (D := (dC, dI)) (ci := 4) (v := .int (nI (mu + kq))) (C := R_Md) (T := F_Md) (N := 12) hx hb hz i_Md hown hK hP 0 rfl rfl 2 (by decide) (hz _ tw_478) (fun _ h9 => h9) rfl d_Md_feed_102 ?_
              refine lv_iconst (v := 1) hx hb d_Md_feed_105 (by decide) ?_
              refine lv_iadd hx hb d_Md_feed_106 ?_
              refine zt_top (nI_add (mu + kq) 1) ?_
              refine va_put (D := (dC, dI)) (ci := 4) (v := .int (nI ((mu + kq) + 1))) (ty := .int) (C := R_Md) (T := F_Md) (N := 12) hx hb hz i_Md t_Md t_Md_ok n_Md hown hK hP hD hS 0 rfl rfl 2 (by decide) (hz _ tw_478) (fun _ h9 => h9) rfl (by decide +kernel) rfl rfl (Nat.le_of_ble_eq_true rfl) d_Md_feed_107 (fun H locs hP hD hS => ?_)
              have hP : va_P (dC, dI) vwCl [(aM, .inr (4, [.int 0, .ref aMT, .int (nI ((mu + kq) + 1)), .ref aNw, .ref aNx, .int mw, .int mwa, .int (nI ma), .int (nI en), .long mv, .int mf, .int ml])), (aMT, .inl (kMT, 65536, .inl (upd (zFm B mu f1 f2 f3 f4 f5 kq) (mu + kq) (vp_nar .byte ((f4 >>> (nI (24 - 8 * (kq % 4)) &&& 31)).toInt8.toInt32)))))] H := hP
              have hD : va_D A [(aM, .inr (4, [.int 0, .ref aMT, .int (nI ((mu + kq) + 1)), .ref aNw, .ref aNx, .int mw, .int mwa, .int (nI ma), .int (nI en), .long mv, .int mf, .int ml])), (aMT, .inl (kMT, 65536, .inl (upd (zFm B mu f1 f2 f3 f4 f5 kq) (mu + kq) (vp_nar .byte ((f4 >>> (nI (24 - 8 * (kq % 4)) &&& 31)).toInt8.toInt32)))))] := hD
              refine lv_iinc (v := nI (kq + 1)) (lv' := [(6, .int (nI (kq + 1))), (7, .int f4), (0, .ref aM), (1, .int f1), (2, .int f2), (3, .int f3), (4, .int f4), (5, .int f5)]) hx hb d_Md_feed_110 hl (k := 7) rfl (nI_add kq 1) (by decide) rfl (fun ls hl => ?_)
              refine lv_goto (tgt := 22) hx hb d_Md_feed_113 (by decide) ?_
              rw [zFm_go (show zFw f1 f2 f3 f4 f5 kq = f4 by unfold zFw; rw [if_neg (by omega), if_neg (by omega), if_neg (by omega), if_pos (by omega)])] at hP hD
              have hP : va_P (dC, dI) vwCl [(aM, .inr (4, [.int 0, .ref aMT, .int (nI (mu + (kq + 1))), .ref aNw, .ref aNx, .int mw, .int mwa, .int (nI ma), .int (nI en), .long mv, .int mf, .int ml])), (aMT, .inl (kMT, 65536, .inl (zFm B mu f1 f2 f3 f4 f5 (kq + 1))))] H := hP
              have hD : va_D A [(aM, .inr (4, [.int 0, .ref aMT, .int (nI (mu + (kq + 1))), .ref aNw, .ref aNx, .int mw, .int mwa, .int (nI ma), .int (nI en), .long mv, .int mf, .int ml])), (aMT, .inl (kMT, 65536, .inl (zFm B mu f1 f2 f3 f4 f5 (kq + 1))))] := hD
              exact ih (kq + 1) (by omega) (by omega) hu20 _ _ (hP.sub [0, 1] rfl) (hD.sub [0, 1] (by decide) rfl) hS ls (lv_sub hl [2, 3, 4, 5, 6, 7, 0] rfl)
          ·
            have c_4 : ¬ (12 ≤ kq) := fun z => c_4 ((@nI_leI 12 kq (by omega) (by omega)).mpr z)
            refine lv_iload_n hx hb d_Md_feed_57 rfl (lv_at hl 3 rfl) ?_
            refine lv_goto (tgt := 75) hx hb d_Md_feed_58 (by decide) ?_
            refine lv_istore (lv' := [(7, .int f3), (0, .ref aM), (1, .int f1), (2, .int f2), (3, .int f3), (4, .int f4), (5, .int f5), (6, .int (nI kq))]) hx hb d_Md_feed_75 hl (by decide) rfl (fun ls hl => ?_)
            refine lv_aload_n hx hb d_Md_feed_77 rfl (lv_at hl 1 rfl) ?_
            refine va_get (D := (dC, dI)) (ci := 4) (v := .ref aMT) (C := R_Md) (T := F_Md) (N := 12) hx hb hz i_Md hown hK hP 0 rfl rfl 1 (by decide) (hz _ tw_477) (fun _ h9 => h9) rfl d_Md_feed_78 ?_
            refine lv_aload_n hx hb d_Md_feed_81 rfl (lv_at hl 1 rfl) ?_
            refine va_get (D := (dC, dI)) (ci := 4) (v := .int (nI (mu + kq))) (C := R_Md) (T := F_Md) (N := 12) hx hb hz i_Md hown hK hP 0 rfl rfl 2 (by decide) (hz _ tw_478) (fun _ h9 => h9) rfl d_Md_feed_82 ?_
            refine lv_iload hx hb d_Md_feed_85 (lv_at hl 0 rfl) ?_
            refine lv_bipush (v := 24) hx hb d_Md_feed_87 (by decide) ?_
            refine lv_bipush (v := 8) hx hb d_Md_feed_89 (by decide) ?_
            refine lv_iload hx hb d_Md_feed_91 (lv_at hl 7 rfl) ?_
            refine lv_iconst (v := 4) hx hb d_Md_feed_93 (by decide) ?_
            refine lv_irem hx hb d_Md_feed_94 (by decide) ?_
            refine zt_top (pk_rem (a := kq) (d := 4) (by omega) (by decide) (by decide)) ?_
            refine lv_imul hx hb d_Md_feed_95 ?_
            refine zt_top (pk_mul 8 (kq % 4)) ?_
            refine lv_isub hx hb d_Md_feed_96 ?_
            refine zt_top (pk_sub (a := 24) (b := 8 * (kq % 4)) (by omega)) ?_
            refine lv_ishr hx hb d_Md_feed_97 ?_
            refine lv_i2b (v := (f3 >>> (nI (24 - 8 * (kq % 4)) &&& 31)).toInt8.toInt32) hx hb d_Md_feed_98 rfl ?_
            refine va_bast (D := (dC, dI)) (i := nI (mu + kq)) (x := (f3 >>> (nI (24 - 8 * (kq % 4)) &&& 31)).toInt8.toInt32) hx hb hK hP hD hS 1 0 rfl rfl (vp_in_nI (by omega) (by decide)) d_Md_feed_99 (fun H locs hP hD hS => ?_)
            rw [nI_clamp (by omega)] at hP hD
            have hP : va_P (dC, dI) vwCl [(aM, .inr (4, [.int 0, .ref aMT, .int (nI (mu + kq)), .ref aNw, .ref aNx, .int mw, .int mwa, .int (nI ma), .int (nI en), .long mv, .int mf, .int ml])), (aMT, .inl (kMT, 65536, .inl (upd (zFm B mu f1 f2 f3 f4 f5 kq) (mu + kq) (vp_nar .byte ((f3 >>> (nI (24 - 8 * (kq % 4)) &&& 31)).toInt8.toInt32)))))] H := hP
            have hD : va_D A [(aM, .inr (4, [.int 0, .ref aMT, .int (nI (mu + kq)), .ref aNw, .ref aNx, .int mw, .int mwa, .int (nI ma), .int (nI en), .long mv, .int mf, .int ml])), (aMT, .inl (kMT, 65536, .inl (upd (zFm B mu f1 f2 f3 f4 f5 kq) (mu + kq) (vp_nar .byte ((f3 >>> (nI (24 - 8 * (kq % 4)) &&& 31)).toInt8.toInt32)))))] := hD
            refine lv_aload_n hx hb d_Md_feed_100 rfl (lv_at hl 1 rfl) ?_
            refine lv_dup hx hb d_Md_feed_101 rfl ?_
            refine va_get (D := (dC, dI)) (ci := 4) (v := .int (nI (mu + kq))) (C := R_Md) (T := F_Md) (N := 12) hx hb hz i_Md hown hK hP 0 rfl rfl 2 (by decide) (hz _ tw_478) (fun _ h9 => h9) rfl d_Md_feed_102 ?_
            refine lv_iconst (v := 1) hx hb d_Md_feed_105 (by decide) ?_
            refine lv_iadd hx hb d_Md_feed_106 ?_
            refine zt_top (nI_add (mu + kq) 1) ?_
            refine va_put (D := (dC, dI)) (ci := 4) (v := .int (nI ((mu + kq) + 1))) (ty := .int) (C := R_Md) (T := F_Md) (N := 12) hx hb hz i_Md t_Md t_Md_ok n_Md hown hK hP hD hS 0 rfl rfl 2 (by decide) (hz _ tw_478) (fun _ h9 => h9) rfl (by decide +kernel) rfl rfl (Nat.le_of_ble_eq_true rfl) d_Md_feed_107 (fun H locs hP hD hS => ?_)
            have hP : va_P (dC, dI) vwCl [(aM, .inr (4, [.int 0, .ref aMT, .int (nI ((mu + kq) + 1)), .ref aNw, .ref aNx, .int mw, .int mwa, .int (nI ma), .int (nI en), .long mv, .int mf, .int ml])), (aMT, .inl (kMT, 65536, .inl (upd (zFm B mu f1 f2 f3 f4 f5 kq) (mu + kq) (vp_nar .byte ((f3 >>> (nI (24 - 8 * (kq % 4)) &&& 31)).toInt8.toInt32)))))] H := hP
            have hD : va_D A [(aM, .inr (4, [.int 0, .ref aMT, .int (nI ((mu + kq) + 1)), .ref aNw, .ref aNx, .int mw, .int mwa, .int (nI ma), .int (nI en), .long mv, .int mf, .int ml])), (aMT, .inl (kMT, 65536, .inl (upd (zFm B mu f1 f2 f3 f4 f5 kq) (mu + kq) (vp_nar .byte ((f3 >>> (nI (24 - 8 * (kq % 4)) &&& 31)).toInt8.toInt32)))))] := hD
            refine lv_iinc (v := nI (kq + 1)) (lv' := [(6, .int (nI (kq + 1))), (7, .int f3), (0, .ref aM), (1, .int f1), (2, .int f2), (3, .int f3), (4, .int f4), (5, .int f5)]) hx hb d_Md_feed_110 hl (k := 7) rfl (nI_add kq 1) (by decide) rfl (fun ls hl => ?_)
            refine lv_goto (tgt := 22) hx hb d_Md_feed_113 (by decide) ?_
            rw [zFm_go (show zFw f1 f2 f3 f4 f5 kq = f3 by unfold zFw; rw [if_neg (by omega), if_neg (by omega), if_pos (by omega)])] at hP hD
            have hP : va_P (dC, dI) vwCl [(aM, .inr (4, [.int 0, .ref aMT, .int (nI (mu + (kq + 1))), .ref aNw, .ref aNx, .int mw, .int mwa, .int (nI ma), .int (nI en), .long mv, .int mf, .int ml])), (aMT, .inl (kMT, 65536, .inl (zFm B mu f1 f2 f3 f4 f5 (kq + 1))))] H := hP
            have hD : va_D A [(aM, .inr (4, [.int 0, .ref aMT, .int (nI (mu + (kq + 1))), .ref aNw, .ref aNx, .int mw, .int mwa, .int (nI ma), .int (nI en), .long mv, .int mf, .int ml])), (aMT, .inl (kMT, 65536, .inl (zFm B mu f1 f2 f3 f4 f5 (kq + 1))))] := hD
            exact ih (kq + 1) (by omega) (by omega) hu20 _ _ (hP.sub [0, 1] rfl) (hD.sub [0, 1] (by decide) rfl) hS ls (lv_sub hl [2, 3, 4, 5, 6, 7, 0] rfl)
        ·
          have c_3 : ¬ (8 ≤ kq) := fun z => c_3 ((@nI_leI 8 kq (by omega) (by omega)).mpr z)
          refine lv_iload_n hx hb d_Md_feed_46 rfl (lv_at hl 2 rfl) ?_
          refine lv_goto (tgt := 75) hx hb d_Md_feed_47 (by decide) ?_
          refine lv_istore (lv' := [(7, .int f2), (0, .ref aM), (1, .int f1), (2, .int f2), (3, .int f3), (4, .int f4), (5, .int f5), (6, .int (nI kq))]) hx hb d_Md_feed_75 hl (by decide) rfl (fun ls hl => ?_)
          refine lv_aload_n hx hb d_Md_feed_77 rfl (lv_at hl 1 rfl) ?_
          refine va_get (D := (dC, dI)) (ci := 4) (v := .ref aMT) (C := R_Md) (T := F_Md) (N := 12) hx hb hz i_Md hown hK hP 0 rfl rfl 1 (by decide) (hz _ tw_477) (fun _ h9 => h9) rfl d_Md_feed_78 ?_
          refine lv_aload_n hx hb d_Md_feed_81 rfl (lv_at hl 1 rfl) ?_
          refine va_get (D := (dC, dI)) (ci := 4) (v := .int (nI (mu + kq))) (C := R_Md) (T := F_Md) (N := 12) hx hb hz i_Md hown hK hP 0 rfl rfl 2 (by decide) (hz _ tw_478) (fun _ h9 => h9) rfl d_Md_feed_82 ?_
          refine lv_iload hx hb d_Md_feed_85 (lv_at hl 0 rfl) ?_
          refine lv_bipush (v := 24) hx hb d_Md_feed_87 (by decide) ?_
          refine lv_bipush (v := 8) hx hb d_Md_feed_89 (by decide) ?_
          refine lv_iload hx hb d_Md_feed_91 (lv_at hl 7 rfl) ?_
          refine lv_iconst (v := 4) hx hb d_Md_feed_93 (by decide) ?_
          refine lv_irem hx hb d_Md_feed_94 (by decide) ?_
          refine zt_top (pk_rem (a := kq) (d := 4) (by omega) (by decide) (by decide)) ?_
          refine lv_imul hx hb d_Md_feed_95 ?_
          refine zt_top (pk_mul 8 (kq % 4)) ?_
          refine lv_isub hx hb d_Md_feed_96 ?_
          refine zt_top (pk_sub (a := 24) (b := 8 * (kq % 4)) (by omega)) ?_
          refine lv_ishr hx hb d_Md_feed_97 ?_
          refine lv_i2b (v := (f2 >>> (nI (24 - 8 * (kq % 4)) &&& 31)).toInt8.toInt32) hx hb d_Md_feed_98 rfl ?_
          refine va_bast (D := (dC, dI)) (i := nI (mu + kq)) (x := (f2 >>> (nI (24 - 8 * (kq % 4)) &&& 31)).toInt8.toInt32) hx hb hK hP hD hS 1 0 rfl rfl (vp_in_nI (by omega) (by decide)) d_Md_feed_99 (fun H locs hP hD hS => ?_)
          rw [nI_clamp (by omega)] at hP hD
          have hP : va_P (dC, dI) vwCl [(aM, .inr (4, [.int 0, .ref aMT, .int (nI (mu + kq)), .ref aNw, .ref aNx, .int mw, .int mwa, .int (nI ma), .int (nI en), .long mv, .int mf, .int ml])), (aMT, .inl (kMT, 65536, .inl (upd (zFm B mu f1 f2 f3 f4 f5 kq) (mu + kq) (vp_nar .byte ((f2 >>> (nI (24 - 8 * (kq % 4)) &&& 31)).toInt8.toInt32)))))] H := hP
          have hD : va_D A [(aM, .inr (4, [.int 0, .ref aMT, .int (nI (mu + kq)), .ref aNw, .ref aNx, .int mw, .int mwa, .int (nI ma), .int (nI en), .long mv, .int mf, .int ml])), (aMT, .inl (kMT, 65536, .inl (upd (zFm B mu f1 f2 f3 f4 f5 kq) (mu + kq) (vp_nar .byte ((f2 >>> (nI (24 - 8 * (kq % 4)) &&& 31)).toInt8.toInt32)))))] := hD
          refine lv_aload_n hx hb d_Md_feed_100 rfl (lv_at hl 1 rfl) ?_
          refine lv_dup hx hb d_Md_feed_101 rfl ?_
          refine va_get (D := (dC, dI)) (ci := 4) (v := .int (nI (mu + kq))) (C := R_Md) (T := F_Md) (N := 12) hx hb hz i_Md hown hK hP 0 rfl rfl 2 (by decide) (hz _ tw_478) (fun _ h9 => h9) rfl d_Md_feed_102 ?_
          refine lv_iconst (v := 1) hx hb d_Md_feed_105 (by decide) ?_
          refine lv_iadd hx hb d_Md_feed_106 ?_
          refine zt_top (nI_add (mu + kq) 1) ?_
          refine va_put (D := (dC, dI)) (ci := 4) (v := .int (nI ((mu + kq) + 1))) (ty := .int) (C := R_Md) (T := F_Md) (N := 12) hx hb hz i_Md t_Md t_Md_ok n_Md hown hK hP hD hS 0 rfl rfl 2 (by decide) (hz _ tw_478) (fun _ h9 => h9) rfl (by decide +kernel) rfl rfl (Nat.le_of_ble_eq_true rfl) d_Md_feed_107 (fun H locs hP hD hS => ?_)
          have hP : va_P (dC, dI) vwCl [(aM, .inr (4, [.int 0, .ref aMT, .int (nI ((mu + kq) + 1)), .ref aNw, .ref aNx, .int mw, .int mwa, .int (nI ma), .int (nI en), .long mv, .int mf, .int ml])), (aMT, .inl (kMT, 65536, .inl (upd (zFm B mu f1 f2 f3 f4 f5 kq) (mu + kq) (vp_nar .byte ((f2 >>> (nI (24 - 8 * (kq % 4)) &&& 31)).toInt8.toInt32)))))] H := hP
          have hD : va_D A [(aM, .inr (4, [.int 0, .ref aMT, .int (nI ((mu + kq) + 1)), .ref aNw, .ref aNx, .int mw, .int mwa, .int (nI ma), .int (nI en), .long mv, .int mf, .int ml])), (aMT, .inl (kMT, 65536, .inl (upd (zFm B mu f1 f2 f3 f4 f5 kq) (mu + kq) (vp_nar .byte ((f2 >>> (nI (24 - 8 * (kq % 4)) &&& 31)).toInt8.toInt32)))))] := hD
          refine lv_iinc (v := nI (kq + 1)) (lv' := [(6, .int (nI (kq + 1))), (7, .int f2), (0, .ref aM), (1, .int f1), (2, .int f2), (3, .int f3), (4, .int f4), (5, .int f5)]) hx hb d_Md_feed_110 hl (k := 7) rfl (nI_add kq 1) (by decide) rfl (fun ls hl => ?_)
          refine lv_goto (tgt := 22) hx hb d_Md_feed_113 (by decide) ?_
          rw [zFm_go (show zFw f1 f2 f3 f4 f5 kq = f2 by unfold zFw; rw [if_neg (by omega), if_pos (by omega)])] at hP hD
          have hP : va_P (dC, dI) vwCl [(aM, .inr (4, [.int 0, .ref aMT, .int (nI (mu + (kq + 1))), .ref aNw, .ref aNx, .int mw, .int mwa, .int (nI ma), .int (nI en), .long mv, .int mf, .int ml])), (aMT, .inl (kMT, 65536, .inl (zFm B mu f1 f2 f3 f4 f5 (kq + 1))))] H := hP
          have hD : va_D A [(aM, .inr (4, [.int 0, .ref aMT, .int (nI (mu + (kq + 1))), .ref aNw, .ref aNx, .int mw, .int mwa, .int (nI ma), .int (nI en), .long mv, .int mf, .int ml])), (aMT, .inl (kMT, 65536, .inl (zFm B mu f1 f2 f3 f4 f5 (kq + 1))))] := hD
          exact ih (kq + 1) (by omega) (by omega) hu20 _ _ (hP.sub [0, 1] rfl) (hD.sub [0, 1] (by decide) rfl) hS ls (lv_sub hl [2, 3, 4, 5, 6, 7, 0] rfl)
      ·
        have c_2 : ¬ (4 ≤ kq) := fun z => c_2 ((@nI_leI 4 kq (by omega) (by omega)).mpr z)
        refine lv_iload_n hx hb d_Md_feed_35 rfl (lv_at hl 1 rfl) ?_
        refine lv_goto (tgt := 75) hx hb d_Md_feed_36 (by decide) ?_
        refine lv_istore (lv' := [(7, .int f1), (0, .ref aM), (1, .int f1), (2, .int f2), (3, .int f3), (4, .int f4), (5, .int f5), (6, .int (nI kq))]) hx hb d_Md_feed_75 hl (by decide) rfl (fun ls hl => ?_)
        refine lv_aload_n hx hb d_Md_feed_77 rfl (lv_at hl 1 rfl) ?_
        refine va_get (D := (dC, dI)) (ci := 4) (v := .ref aMT) (C := R_Md) (T := F_Md) (N := 12) hx hb hz i_Md hown hK hP 0 rfl rfl 1 (by decide) (hz _ tw_477) (fun _ h9 => h9) rfl d_Md_feed_78 ?_
        refine lv_aload_n hx hb d_Md_feed_81 rfl (lv_at hl 1 rfl) ?_
        refine va_get (D := (dC, dI)) (ci := 4) (v := .int (nI (mu + kq))) (C := R_Md) (T := F_Md) (N := 12) hx hb hz i_Md hown hK hP 0 rfl rfl 2 (by decide) (hz _ tw_478) (fun _ h9 => h9) rfl d_Md_feed_82 ?_
        refine lv_iload hx hb d_Md_feed_85 (lv_at hl 0 rfl) ?_
        refine lv_bipush (v := 24) hx hb d_Md_feed_87 (by decide) ?_
        refine lv_bipush (v := 8) hx hb d_Md_feed_89 (by decide) ?_
        refine lv_iload hx hb d_Md_feed_91 (lv_at hl 7 rfl) ?_
        refine lv_iconst (v := 4) hx hb d_Md_feed_93 (by decide) ?_
        refine lv_irem hx hb d_Md_feed_94 (by decide) ?_
        refine zt_top (pk_rem (a := kq) (d := 4) (by omega) (by decide) (by decide)) ?_
        refine lv_imul hx hb d_Md_feed_95 ?_
        refine zt_top (pk_mul 8 (kq % 4)) ?_
        refine lv_isub hx hb d_Md_feed_96 ?_
        refine zt_top (pk_sub (a := 24) (b := 8 * (kq % 4)) (by omega)) ?_
        refine lv_ishr hx hb d_Md_feed_97 ?_
        refine lv_i2b (v := (f1 >>> (nI (24 - 8 * (kq % 4)) &&& 31)).toInt8.toInt32) hx hb d_Md_feed_98 rfl ?_
        refine va_bast (D := (dC, dI)) (i := nI (mu + kq)) (x := (f1 >>> (nI (24 - 8 * (kq % 4)) &&& 31)).toInt8.toInt32) hx hb hK hP hD hS 1 0 rfl rfl (vp_in_nI (by omega) (by decide)) d_Md_feed_99 (fun H locs hP hD hS => ?_)
        rw [nI_clamp (by omega)] at hP hD
        have hP : va_P (dC, dI) vwCl [(aM, .inr (4, [.int 0, .ref aMT, .int (nI (mu + kq)), .ref aNw, .ref aNx, .int mw, .int mwa, .int (nI ma), .int (nI en), .long mv, .int mf, .int ml])), (aMT, .inl (kMT, 65536, .inl (upd (zFm B mu f1 f2 f3 f4 f5 kq) (mu + kq) (vp_nar .byte ((f1 >>> (nI (24 - 8 * (kq % 4)) &&& 31)).toInt8.toInt32)))))] H := hP
        have hD : va_D A [(aM, .inr (4, [.int 0, .ref aMT, .int (nI (mu + kq)), .ref aNw, .ref aNx, .int mw, .int mwa, .int (nI ma), .int (nI en), .long mv, .int mf, .int ml])), (aMT, .inl (kMT, 65536, .inl (upd (zFm B mu f1 f2 f3 f4 f5 kq) (mu + kq) (vp_nar .byte ((f1 >>> (nI (24 - 8 * (kq % 4)) &&& 31)).toInt8.toInt32)))))] := hD
        refine lv_aload_n hx hb d_Md_feed_100 rfl (lv_at hl 1 rfl) ?_
        refine lv_dup hx hb d_Md_feed_101 rfl ?_
        refine va_get (D := (dC, dI)) (ci := 4) (v := .int (nI (mu + kq))) (C := R_Md) (T := F_Md) (N := 12) hx hb hz i_Md hown hK hP 0 rfl rfl 2 (by decide) (hz _ tw_478) (fun _ h9 => h9) rfl d_Md_feed_102 ?_
        refine lv_iconst (v := 1) hx hb d_Md_feed_105 (by decide) ?_
        refine lv_iadd hx hb d_Md_feed_106 ?_
        refine zt_top (nI_add (mu + kq) 1) ?_
        refine va_put (D := (dC, dI)) (ci := 4) (v := .int (nI ((mu + kq) + 1))) (ty := .int) (C := R_Md) (T := F_Md) (N := 12) hx hb hz i_Md t_Md t_Md_ok n_Md hown hK hP hD hS 0 rfl rfl 2 (by decide) (hz _ tw_478) (fun _ h9 => h9) rfl (by decide +kernel) rfl rfl (Nat.le_of_ble_eq_true rfl) d_Md_feed_107 (fun H locs hP hD hS => ?_)
        have hP : va_P (dC, dI) vwCl [(aM, .inr (4, [.int 0, .ref aMT, .int (nI ((mu + kq) + 1)), .ref aNw, .ref aNx, .int mw, .int mwa, .int (nI ma), .int (nI en), .long mv, .int mf, .int ml])), (aMT, .inl (kMT, 65536, .inl (upd (zFm B mu f1 f2 f3 f4 f5 kq) (mu + kq) (vp_nar .byte ((f1 >>> (nI (24 - 8 * (kq % 4)) &&& 31)).toInt8.toInt32)))))] H := hP
        have hD : va_D A [(aM, .inr (4, [.int 0, .ref aMT, .int (nI ((mu + kq) + 1)), .ref aNw, .ref aNx, .int mw, .int mwa, .int (nI ma), .int (nI en), .long mv, .int mf, .int ml])), (aMT, .inl (kMT, 65536, .inl (upd (zFm B mu f1 f2 f3 f4 f5 kq) (mu + kq) (vp_nar .byte ((f1 >>> (nI (24 - 8 * (kq % 4)) &&& 31)).toInt8.toInt32)))))] := hD
        refine lv_iinc (v := nI (kq + 1)) (lv' := [(6, .int (nI (kq + 1))), (7, .int f1), (0, .ref aM), (1, .int f1), (2, .int f2), (3, .int f3), (4, .int f4), (5, .int f5)]) hx hb d_Md_feed_110 hl (k := 7) rfl (nI_add kq 1) (by decide) rfl (fun ls hl => ?_)
        refine lv_goto (tgt := 22) hx hb d_Md_feed_113 (by decide) ?_
        rw [zFm_go (show zFw f1 f2 f3 f4 f5 kq = f1 by unfold zFw; rw [if_pos (by omega)])] at hP hD
        have hP : va_P (dC, dI) vwCl [(aM, .inr (4, [.int 0, .ref aMT, .int (nI (mu + (kq + 1))), .ref aNw, .ref aNx, .int mw, .int mwa, .int (nI ma), .int (nI en), .long mv, .int mf, .int ml])), (aMT, .inl (kMT, 65536, .inl (zFm B mu f1 f2 f3 f4 f5 (kq + 1))))] H := hP
        have hD : va_D A [(aM, .inr (4, [.int 0, .ref aMT, .int (nI (mu + (kq + 1))), .ref aNw, .ref aNx, .int mw, .int mwa, .int (nI ma), .int (nI en), .long mv, .int mf, .int ml])), (aMT, .inl (kMT, 65536, .inl (zFm B mu f1 f2 f3 f4 f5 (kq + 1))))] := hD
        exact ih (kq + 1) (by omega) (by omega) hu20 _ _ (hP.sub [0, 1] rfl) (hD.sub [0, 1] (by decide) rfl) hS ls (lv_sub hl [2, 3, 4, 5, 6, 7, 0] rfl)
set_option maxHeartbeats 4000000 in
set_option maxRecDepth 100000 in
theorem c_Md_feed (l : Launch) (G : ZG) (dC : Nat → ClassId) (dI : Nat → Nat → Nat) (sz : Nat) (aM : Nat) (th : Int32) (aMT : Nat) (mu : Nat) (aNw : Nat) (aNx : Nat) (mw : Int32) (mwa : Int32) (ma : Nat) (en : Nat) (mv : Int64) (mf : Int32) (ml : Int32) (kMT : ClassId) (B : Nat → Int32) (f1 : Int32) (f2 : Int32) (f3 : Int32) (f4 : Int32) (f5 : Int32) (hmu : mu ≤ 65536) : Met l y_Md_feed w_Md_feed ({ frames := 0, cells := 0, slots := 0, locals := 0 }) (va_Pc [.ref aM, .int f1, .int f2, .int f3, .int f4, .int f5] (PW G (dC, dI) [(kMT, .byte)] [(aM, .inr (4, [.int th, .ref aMT, .int (nI mu), .ref aNw, .ref aNx, .int mw, .int mwa, .int (nI ma), .int (nI en), .long mv, .int mf, .int ml])), (aMT, .inl (kMT, 65536, .inl B))] sz)) (va_Qi (fun (r : Int32) (uu : Int32 × Nat × (Nat → Int32)) => uu.1 = 0 ∧ ((mu ≤ 65516 ∧ r = 1 ∧ uu.2.1 = mu + 20 ∧ uu.2.2 = zFeed B mu f1 f2 f3 f4 f5) ∨ (¬ mu ≤ 65516 ∧ r = 0 ∧ uu.2.1 = mu ∧ uu.2.2 = B))) (fun (uu : Int32 × Nat × (Nat → Int32)) t => BW (dC, dI) [(aM, .inr (4, [.int uu.1, .ref aMT, .int (nI uu.2.1), .ref aNw, .ref aNx, .int mw, .int mwa, .int (nI ma), .int (nI en), .long mv, .int mf, .int ml])), (aMT, .inl (kMT, 65536, .inl uu.2.2))] (va_A [(aM, .inr (4, [.int th, .ref aMT, .int (nI mu), .ref aNw, .ref aNx, .int mw, .int mwa, .int (nI ma), .int (nI en), .long mv, .int mf, .int ml])), (aMT, .inl (kMT, 65536, .inl B))] sz) sz t) (va_A [(aM, .inr (4, [.int th, .ref aMT, .int (nI mu), .ref aNw, .ref aNx, .int mw, .int mwa, .int (nI ma), .int (nI en), .long mv, .int mf, .int ml])), (aMT, .inl (kMT, 65536, .inl B))] sz)) 0 0 (va_A [(aM, .inr (4, [.int th, .ref aMT, .int (nI mu), .ref aNw, .ref aNx, .int mw, .int mwa, .int (nI ma), .int (nI en), .long mv, .int mf, .int ml])), (aMT, .inl (kMT, 65536, .inl B))] sz) := by
  refine Met.ofW (cc := prog_6_method_4_code) (maxL := 8) (ret := (some .boolean)) (by decide) rfl ?_
  intro p e s m args below meth c s₁ Bd hml hv
  obtain ⟨rfl, hsz, hP, hK, hD0, hE⟩ := hv
  have hx := Bd.exec
  have hb := Bd.bytes
  have hr := Bd.returns
  have hts := atoms_spec (ws := w_Md_feed) Bd.pre
  have hown : s.vm.findClass R_Md = some m.cls := findClass_of_methodNamed Bd.named
  have hlocks := Bd.notSynchronized
  have hz : ∀ w ∈ ZW, w.before _ s = true := fun w h => hts w (List.mem_cons_of_mem _ h)
  subst hsz
  have hD := hD0.self (sz := s.heap.size)
  generalize hAe : va_A [(aM, .inr (4, [.int th, .ref aMT, .int (nI mu), .ref aNw, .ref aNx, .int mw, .int mwa, .int (nI ma), .int (nI en), .long mv, .int mf, .int ml])), (aMT, .inl (kMT, 65536, .inl B))] s.heap.size = A at hD hE ⊢
  have hA : ∀ q : Nat, s.heap.size ≤ q → A q := fun q h => by rw [← hAe]; exact Or.inr h
  have hS : va_S A s.heap s.heap [] := va_S.rf
  have hl := lv_entry ([.ref aM, .int f1, .int f2, .int f3, .int f4, .int f5]) (n := 8) (Nat.le_of_ble_eq_true rfl)
  rw [lg_entry_eq]
  generalize (lg_sl ([.ref aM, .int f1, .int f2, .int f3, .int f4, .int f5]) ++ List.replicate (8 - (lg_sl ([.ref aM, .int f1, .int f2, .int f3, .int f4, .int f5])).length) Slot.unset).toArray = ls at hl ⊢
  have hl : lv_has ls 8 [(0, .ref aM), (1, .int f1), (2, .int f2), (3, .int f3), (4, .int f4), (5, .int f5)] := hl
  obtain ⟨H, hH⟩ : ∃ z, z = s.heap := ⟨_, rfl⟩
  have hP : va_P (dC, dI) vwCl [(aM, .inr (4, [.int th, .ref aMT, .int (nI mu), .ref aNw, .ref aNx, .int mw, .int mwa, .int (nI ma), .int (nI en), .long mv, .int mf, .int ml])), (aMT, .inl (kMT, 65536, .inl B))] H := by rw [hH]; exact hP
  have hS : va_S A s.heap H [] := by rw [hH]; exact hS
  refine zt_heap hH ?_
  refine lv_aload_n hx hb d_Md_feed_0 rfl (lv_at hl 0 rfl) ?_
  refine lv_iconst (v := 0) hx hb d_Md_feed_1 (by decide) ?_
  refine va_put (D := (dC, dI)) (ci := 4) (v := .int 0) (ty := .int) (C := R_Md) (T := F_Md) (N := 12) hx hb hz i_Md t_Md t_Md_ok n_Md hown hK hP hD hS 0 rfl rfl 0 (by decide) (hz _ tw_476) (fun _ h9 => h9) rfl (by decide +kernel) rfl rfl (Nat.le_of_ble_eq_true rfl) d_Md_feed_2 (fun H locs hP hD hS => ?_)
  have hP : va_P (dC, dI) vwCl [(aM, .inr (4, [.int 0, .ref aMT, .int (nI mu), .ref aNw, .ref aNx, .int mw, .int mwa, .int (nI ma), .int (nI en), .long mv, .int mf, .int ml])), (aMT, .inl (kMT, 65536, .inl B))] H := hP
  have hD : va_D A [(aM, .inr (4, [.int 0, .ref aMT, .int (nI mu), .ref aNw, .ref aNx, .int mw, .int mwa, .int (nI ma), .int (nI en), .long mv, .int mf, .int ml])), (aMT, .inl (kMT, 65536, .inl B))] := hD
  refine lv_aload_n hx hb d_Md_feed_5 rfl (lv_at hl 0 rfl) ?_
  refine va_get (D := (dC, dI)) (ci := 4) (v := .int (nI mu)) (C := R_Md) (T := F_Md) (N := 12) hx hb hz i_Md hown hK hP 0 rfl rfl 2 (by decide) (hz _ tw_478) (fun _ h9 => h9) rfl d_Md_feed_6 ?_
  refine lv_bipush (v := 20) hx hb d_Md_feed_9 (by decide) ?_
  refine lv_iadd hx hb d_Md_feed_11 ?_
  refine zt_top (nI_add mu 20) ?_
  refine lv_ldc (v := 65536) hx hb hown (hz _ tw_466) d_Md_feed_12 ?_
  refine lv_icmp_le (tgt := 19) hx hb d_Md_feed_14 (by decide) (fun c_1 => ?_) (fun c_1 => ?_)
  ·
    have c_1 : (mu + 20) ≤ 65536 := (@nI_leI (mu + 20) 65536 (by omega) (by omega)).mp c_1
    refine lv_iconst (v := 0) hx hb d_Md_feed_19 (by decide) ?_
    refine lv_istore (lv' := [(6, .int 0), (0, .ref aM), (1, .int f1), (2, .int f2), (3, .int f3), (4, .int f4), (5, .int f5)]) hx hb d_Md_feed_20 hl (by decide) rfl (fun ls hl => ?_)
    exact lp_Md_feed l G dC dI aM th aMT mu aNw aNx mw mwa ma en mv mf ml kMT B f1 f2 f3 f4 f5 hmu ⟨hx, hb, hr, hml, hown, hts, hlocks⟩ hA hK hE 21 0 (by omega) (by omega) c_1 _ _ (hP.sub [0, 1] rfl) (hD.sub [0, 1] (by decide) rfl) hS ls (lv_sub hl [1, 2, 3, 4, 5, 6, 0] rfl)
  ·
    have c_1 : ¬ ((mu + 20) ≤ 65536) := fun z => c_1 ((@nI_leI (mu + 20) 65536 (by omega) (by omega)).mpr z)
    refine lv_iconst (v := 0) hx hb d_Md_feed_17 (by decide) ?_
    refine zt_size (fun hzs => ?_)
    have hP9 := hP.sub (ws' := [(aM, .inr (4, [.int 0, .ref aMT, .int (nI mu), .ref aNw, .ref aNx, .int mw, .int mwa, .int (nI ma), .int (nI en), .long mv, .int mf, .int ml])), (aMT, .inl (kMT, 65536, .inl B))]) [0, 1] rfl
    have hD9 := hD.sub (ws' := [(aM, .inr (4, [.int 0, .ref aMT, .int (nI mu), .ref aNw, .ref aNx, .int mw, .int mwa, .int (nI ma), .int (nI en), .long mv, .int mf, .int ml])), (aMT, .inl (kMT, 65536, .inl B))]) [0, 1] (by decide) rfl
    exact W.zret (v := 0) hx hb hr rfl (fun t ht hW => ⟨⟨0, (0, mu, B), rfl, ⟨rfl, Or.inr ⟨by omega, rfl, rfl, rfl⟩⟩, by rw [ht]; exact hP9, hD9, by rw [ht]; exact hzs⟩, hS.F ht⟩) hS.2.2 d_Md_feed_18
