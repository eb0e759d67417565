/-- the reference's digits -/
def zDm (B : Nat → Int32) (en : Nat) : Nat → Nat → Int64 → Nat × Int64
  | 0, i, V => (i, V)
  | n + 1, i, V => if i < en ∧ ¬ B i < 48 ∧ ¬ 57 < B i then zDm B en n (i + 1) (if lg_cmp V 1000000000000 ≤ 0 then 10 * V + (B i).toInt64 - 48 else V) else (i, V)
def zE1 (B : Nat → Int32) (en i : Nat) (V : Int64) : Nat × Int64 := zDm B en (en - i) i V
theorem zE1_go {B : Nat → Int32} {en i : Nat} {V : Int64} (h : i < en ∧ ¬ B i < 48 ∧ ¬ 57 < B i) : zE1 B en i V = zE1 B en (i + 1) (if lg_cmp V 1000000000000 ≤ 0 then 10 * V + (B i).toInt64 - 48 else V) := by
  unfold zE1
  rw [show en - i = (en - (i + 1)) + 1 by omega]
  show (if i < en ∧ ¬ B i < 48 ∧ ¬ 57 < B i then zDm B en (en - (i + 1)) (i + 1) (if lg_cmp V 1000000000000 ≤ 0 then 10 * V + (B i).toInt64 - 48 else V) else (i, V)) = _
  rw [if_pos h]
theorem zE1_no {B : Nat → Int32} {en i : Nat} {V : Int64} (h : ¬ (i < en ∧ ¬ B i < 48 ∧ ¬ 57 < B i)) : zE1 B en i V = (i, V) := by
  unfold zE1
  cases hn : en - i with
  | zero => rfl
  | succ n =>
    show (if i < en ∧ ¬ B i < 48 ∧ ¬ 57 < B i then zDm B en n (i + 1) (if lg_cmp V 1000000000000 ≤ 0 then 10 * V + (B i).toInt64 - 48 else V) else (i, V)) = _
    rw [if_neg h]
set_option maxHeartbeats 4000000 in
set_option maxRecDepth 100000 in
theorem lp_Md_number (l : Launch) (G : ZG) (dC : Nat → ClassId) (dI : Nat → Nat → Nat) (aM : Nat) (th : Int32) (aMT : Nat) (mu : Nat) (aNw : Nat) (aNx : Nat) (mw : Int32) (mwa : Int32) (ma : Nat) (en : Nat) (mv : Int64) (mf : Int32) (ml : Int32) (kMT : ClassId) (B : Nat → Int32) (hen : en ≤ 65536) (hma : ma ≤ en) {p : Program} {e : Env} {s : State} {m : MethodId} {args : Array Value} {below : List Frame} {meth : Method} {c : Code} {A : Nat → Prop} (C0 : zC p s m args meth c prog_6_method_15_code 3 (some .boolean) R_Md w_Md_number) (hA : ∀ q : Nat, s.heap.size ≤ q → A q) (hK : va_K (dC, dI) vwCl [(kMT, .byte)] s) (hE : zE G A s s.heap) : ∀ (n : Nat) (mi : Int32) (i : Nat) (V : Int64), ((mi = 1 ∧ (zK B en ma < en ∧ B (zK B en ma) = 45)) ∨ (mi = 0 ∧ ¬ (zK B en ma < en ∧ B (zK B en ma) = 45))) → ((zFd B en (zK B en ma)) < en ∧ ¬ B (zFd B en (zK B en ma)) < 48 ∧ ¬ 57 < B (zFd B en (zK B en ma))) → (i ≤ en) → (en + 1 ≤ i + n) → (zK B en ma ≤ en) → (zE1 B en i V = zE1 B en (zFd B en (zK B en ma)) 0) → ∀ (H : Heap) (locs : List Loc), va_P (dC, dI) vwCl [(aM, .inr (4, [.int th, .ref aMT, .int (nI mu), .ref aNw, .ref aNx, .int mw, .int mwa, .int (nI (zK B en ma)), .int (nI en), .long V, .int (nI (zK B en ma)), .int ml])), (aMT, .inl (kMT, 65536, .inl B))] H → va_D A [(aM, .inr (4, [.int th, .ref aMT, .int (nI mu), .ref aNw, .ref aNx, .int mw, .int mwa, .int (nI (zK B en ma)), .int (nI en), .long V, .int (nI (zK B en ma)), .int ml])), (aMT, .inl (kMT, 65536, .inl B))] → va_S A s.heap H locs → ∀ (ls : Array Slot), lv_has ls 3 [(0, .ref aM), (1, .int mi), (2, .int (nI i))] → W p l e ({ frames := 1, cells := 0, slots := 0, locals := 22 }) s m args below meth c H locs 0 0 (MQ below (va_Qi (fun (r : Int32) (uu : Nat × Int32 × Int32 × Int64 × Int32) => (r = 1 ∧ ((zFd B en (zK B en ma)) < en ∧ ¬ B (zFd B en (zK B en ma)) < 48 ∧ ¬ 57 < B (zFd B en (zK B en ma))) ∧ uu.1 = (zE1 B en (zFd B en (zK B en ma)) 0).1 ∧ uu.1 ≤ en ∧ uu.2.2.2.1 = (if zK B en ma < en ∧ B (zK B en ma) = 45 then - (zE1 B en (zFd B en (zK B en ma)) 0).2 else (zE1 B en (zFd B en (zK B en ma)) 0).2) ∧ uu.2.2.2.2 = nI (zK B en ma) ∧ uu.2.1 = mw ∧ uu.2.2.1 = mwa) ∨ (r = 0 ∧ ¬ ((zFd B en (zK B en ma)) < en ∧ ¬ B (zFd B en (zK B en ma)) < 48 ∧ ¬ 57 < B (zFd B en (zK B en ma))) ∧ uu.1 ≤ en ∧ uu.2.1 = 1 ∧ uu.2.2.1 = nI (zK B en ma))) (fun (uu : Nat × Int32 × Int32 × Int64 × Int32) t => BW (dC, dI) [(aM, .inr (4, [.int th, .ref aMT, .int (nI mu), .ref aNw, .ref aNx, .int uu.2.1, .int uu.2.2.1, .int (nI uu.1), .int (nI en), .long uu.2.2.2.1, .int uu.2.2.2.2, .int ml])), (aMT, .inl (kMT, 65536, .inl B))] A s.heap.size t) A) args s 0 0 A) (F0 m 84 ls []) := by
  obtain ⟨hx, hb, hr, hml, hown, hts, hlocks⟩ := C0
  have hz : ∀ w ∈ ZW, w.before _ s = true := fun w h => hts w (List.mem_cons_of_mem _ h)
  intro n
  induction n with
  | zero =>
    intro mi i V hmi hd0 hi hn hz0 hd H locs hP hD hS ls hl
    exact absurd hn (by omega)
  | succ n ih =>
    intro mi i V hmi hd0 hi hn hz0 hd H locs hP hD hS ls hl
    refine lv_aload_n hx hb d_Md_number_84 rfl (lv_at hl 0 rfl) ?_
    refine lv_iload_n hx hb d_Md_number_85 rfl (lv_at hl 2 rfl) ?_
    have hPc := hP.sub (ws' := [(aM, .inr (4, [.int th, .ref aMT, .int (nI mu), .ref aNw, .ref aNx, .int mw, .int mwa, .int (nI (zK B en ma)), .int (nI en), .long V, .int (nI (zK B en ma)), .int ml])), (aMT, .inl (kMT, 65536, .inl B))]) [0, 1] rfl
    have hDc := hD.sub (ws' := [(aM, .inr (4, [.int th, .ref aMT, .int (nI mu), .ref aNw, .ref aNx, .int mw, .int mwa, .int (nI (zK B en ma)), .int (nI en), .long V, .int (nI (zK B en ma)), .int ml])), (aMT, .inl (kMT, 65536, .inl B))]) [0, 1] (by decide) rfl
    have hKc := hK.sub (tys' := [(kMT, .byte)]) [0] rfl
    have hFc := va_free (wc := [(aM, .inr (4, [.int th, .ref aMT, .int (nI mu), .ref aNw, .ref aNx, .int mw, .int mwa, .int (nI (zK B en ma)), .int (nI en), .long V, .int (nI (zK B en ma)), .int ml])), (aMT, .inl (kMT, 65536, .inl B))]) hD hS hA [0, 1] rfl
    refine va_calli (va_runV (As := [.int (nI i)]) (rest := []) ⟨hx, hb, hml, hown, hts⟩ (c_Md_isDigit l G dC dI H.size aM th aMT mu aNw aNx mw mwa (zK B en ma) en V (nI (zK B en ma)) ml kMT B i (by omega) (by omega)) (cwV 1 hts (gV tw_600 tw_602 ts_32 tw_5 tw_603 rfl) rfl rfl rfl (by decide +kernel) ⟨Nat.le_of_ble_eq_true rfl, Nat.le_of_ble_eq_true rfl⟩) (PW_preV hPc hKc hDc hE hS hFc (ci := 4) (q0 := 0) rfl rfl) rfl rfl hl.1 rfl (lv_room (Nat.le_of_ble_eq_true rfl)) d_Md_number_86 ⟨Nat.le_of_ble_eq_true rfl, Nat.le_of_ble_eq_true rfl⟩) hS (fun q _ h => hFc q h) hFc (fun r_1 uu t H1 locs ht hvm hw_2 hB hz1 hk1 hS => ?_)
    obtain ⟨hP1, hD1, hsz1⟩ := hB
    rw [ht] at hP1 hsz1
    obtain ⟨hP, hD⟩ := va_join (wr := []) (w1 := [(aM, .inr (4, [.int th, .ref aMT, .int (nI mu), .ref aNw, .ref aNx, .int mw, .int mwa, .int (nI (zK B en ma)), .int (nI en), .long V, .int (nI (zK B en ma)), .int ml])), (aMT, .inl (kMT, 65536, .inl B))]) hP hD [0, 1] [] rfl rfl (by decide) (by decide) hk1 hFc hP1 hD1
    generalize H1 = H at hP hS ⊢
    have hP : va_P (dC, dI) vwCl [(aM, .inr (4, [.int th, .ref aMT, .int (nI mu), .ref aNw, .ref aNx, .int mw, .int mwa, .int (nI (zK B en ma)), .int (nI en), .long V, .int (nI (zK B en ma)), .int ml])), (aMT, .inl (kMT, 65536, .inl B))] H := hP
    have hD : va_D A [(aM, .inr (4, [.int th, .ref aMT, .int (nI mu), .ref aNw, .ref aNx, .int mw, .int mwa, .int (nI (zK B en ma)), .int (nI en), .long V, .int (nI (zK B en ma)), .int ml])), (aMT, .inl (kMT, 65536, .inl B))] := hD
    by_cases hs_3 : i < en ∧ ¬ B i < 48 ∧ ¬ 57 < B i
    ·
      rw [if_pos hs_3] at hw_2; subst hw_2
      refine lv_if_eq (tgt := 140) hx hb d_Md_number_89 (by decide) (fun c_4 => ?_) (fun c_4 => ?_)
      ·
        exact absurd c_4 (by decide)
      ·
        refine lv_aload_n hx hb d_Md_number_92 rfl (lv_at hl 0 rfl) ?_
        refine lv_aload_n hx hb d_Md_number_93 rfl (lv_at hl 0 rfl) ?_
        refine va_get (D := (dC, dI)) (ci := 4) (v := .long V) (C := R_Md) (T := F_Md) (N := 12) hx hb hz i_Md hown hK hP 0 rfl rfl 9 (by decide) (hz _ tw_485) (fun _ h9 => h9) rfl d_Md_number_94 ?_
        refine lv_ldc2 (v := 1000000000000) hx hb hown (hz _ tw_604) d_Md_number_97 ?_
        refine W.lcmp hx hb d_Md_number_100 ?_
        refine lv_if_le (tgt := 111) hx hb d_Md_number_101 (by decide) (fun c_5 => ?_) (fun c_5 => ?_)
        ·
          refine lv_ldc2 (v := 10) hx hb hown (hz _ tw_605) d_Md_number_111 ?_
          refine lv_aload_n hx hb d_Md_number_114 rfl (lv_at hl 0 rfl) ?_
          refine va_get (D := (dC, dI)) (ci := 4) (v := .long V) (C := R_Md) (T := F_Md) (N := 12) hx hb hz i_Md hown hK hP 0 rfl rfl 9 (by decide) (hz _ tw_485) (fun _ h9 => h9) rfl d_Md_number_115 ?_
          refine lv_lmul hx hb d_Md_number_118 ?_
          refine lv_aload_n hx hb d_Md_number_119 rfl (lv_at hl 0 rfl) ?_
          refine va_get (D := (dC, dI)) (ci := 4) (v := .ref aMT) (C := R_Md) (T := F_Md) (N := 12) hx hb hz i_Md hown hK hP 0 rfl rfl 1 (by decide) (hz _ tw_477) (fun _ h9 => h9) rfl d_Md_number_120 ?_
          refine lv_iload_n hx hb d_Md_number_123 rfl (lv_at hl 2 rfl) ?_
          refine va_bald (D := (dC, dI)) (i := nI i) hx hb hK hP 1 0 rfl rfl (vp_in_nI (by omega) (by decide)) d_Md_number_124 ?_
          refine zt_top (by rw [nI_clamp (by omega)]) ?_
          refine lv_i2l (v := (B i).toInt64) hx hb d_Md_number_125 rfl ?_
          refine lv_ladd hx hb d_Md_number_126 ?_
          refine lv_ldc2 (v := 48) hx hb hown (hz _ tw_606) d_Md_number_127 ?_
          refine lv_lsub hx hb d_Md_number_130 ?_
          refine va_put (D := (dC, dI)) (ci := 4) (v := .long (((10 * V) + ((B i).toInt64)) - 48)) (ty := .long) (C := R_Md) (T := F_Md) (N := 12) hx hb hz i_Md t_Md t_Md_ok n_Md hown hK hP hD hS 0 rfl rfl 9 (by decide) (hz _ tw_485) (fun _ h9 => h9) rfl (by decide +kernel) rfl rfl (Nat.le_of_ble_eq_true rfl) d_Md_number_131 (fun H locs hP hD hS => ?_)
          have hP : va_P (dC, dI) vwCl [(aM, .inr (4, [.int th, .ref aMT, .int (nI mu), .ref aNw, .ref aNx, .int mw, .int mwa, .int (nI (zK B en ma)), .int (nI en), .long (((10 * V) + ((B i).toInt64)) - 48), .int (nI (zK B en ma)), .int ml])), (aMT, .inl (kMT, 65536, .inl B))] H := hP
          have hD : va_D A [(aM, .inr (4, [.int th, .ref aMT, .int (nI mu), .ref aNw, .ref aNx, .int mw, .int mwa, .int (nI (zK B en ma)), .int (nI en), .long (((10 * V) + ((B i).toInt64)) - 48), .int (nI (zK B en ma)), .int ml])), (aMT, .inl (kMT, 65536, .inl B))] := hD
          refine lv_iinc (v := nI (i + 1)) (lv' := [(2, .int (nI (i + 1))), (0, .ref aM), (1, .int mi)]) hx hb d_Md_number_134 hl (k := 2) rfl (nI_add i 1) (by decide) rfl (fun ls hl => ?_)
          refine lv_goto (tgt := 84) hx hb d_Md_number_137 (by decide) ?_
          exact ih mi (i + 1) (((10 * V) + ((B i).toInt64)) - 48) hmi hd0 (by omega) (by omega) hz0 (by rw [← hd, zE1_go hs_3, if_pos c_5]) _ _ (hP.sub [0, 1] rfl) (hD.sub [0, 1] (by decide) rfl) hS ls (lv_sub hl [1, 2, 0] rfl)
        ·
          refine lv_aload_n hx hb d_Md_number_104 rfl (lv_at hl 0 rfl) ?_
          refine va_get (D := (dC, dI)) (ci := 4) (v := .long V) (C := R_Md) (T := F_Md) (N := 12) hx hb hz i_Md hown hK hP 0 rfl rfl 9 (by decide) (hz _ tw_485) (fun _ h9 => h9) rfl d_Md_number_105 ?_
          refine lv_goto (tgt := 131) hx hb d_Md_number_108 (by decide) ?_
          refine va_put (D := (dC, dI)) (ci := 4) (v := .long V) (ty := .long) (C := R_Md) (T := F_Md) (N := 12) hx hb hz i_Md t_Md t_Md_ok n_Md hown hK hP hD hS 0 rfl rfl 9 (by decide) (hz _ tw_485) (fun _ h9 => h9) rfl (by decide +kernel) rfl rfl (Nat.le_of_ble_eq_true rfl) d_Md_number_131 (fun H locs hP hD hS => ?_)
          have hP : va_P (dC, dI) vwCl [(aM, .inr (4, [.int th, .ref aMT, .int (nI mu), .ref aNw, .ref aNx, .int mw, .int mwa, .int (nI (zK B en ma)), .int (nI en), .long V, .int (nI (zK B en ma)), .int ml])), (aMT, .inl (kMT, 65536, .inl B))] H := hP
          have hD : va_D A [(aM, .inr (4, [.int th, .ref aMT, .int (nI mu), .ref aNw, .ref aNx, .int mw, .int mwa, .int (nI (zK B en ma)), .int (nI en), .long V, .int (nI (zK B en ma)), .int ml])), (aMT, .inl (kMT, 65536, .inl B))] := hD
          refine lv_iinc (v := nI (i + 1)) (lv' := [(2, .int (nI (i + 1))), (0, .ref aM), (1, .int mi)]) hx hb d_Md_number_134 hl (k := 2) rfl (nI_add i 1) (by decide) rfl (fun ls hl => ?_)
          refine lv_goto (tgt := 84) hx hb d_Md_number_137 (by decide) ?_
          exact ih mi (i + 1) V hmi hd0 (by omega) (by omega) hz0 (by rw [← hd, zE1_go hs_3, if_neg c_5]) _ _ (hP.sub [0, 1] rfl) (hD.sub [0, 1] (by decide) rfl) hS ls (lv_sub hl [1, 2, 0] rfl)
    ·
      rw [if_neg hs_3] at hw_2; subst hw_2
      refine lv_if_eq (tgt := 140) hx hb d_Md_number_89 (by decide) (fun c_6 => ?_) (fun c_6 => ?_)
      ·
        rcases hmi with ⟨rfl, hm⟩ | ⟨rfl, hm⟩
        ·
          refine lv_aload_n hx hb d_Md_number_140 rfl (lv_at hl 0 rfl) ?_
          refine lv_iload_n hx hb d_Md_number_141 rfl (lv_at hl 1 rfl) ?_
          refine lv_if_eq (tgt := 153) hx hb d_Md_number_142 (by decide) (fun c_7 => ?_) (fun c_7 => ?_)
          ·
            exact absurd c_7 (by decide)
          ·
            refine lv_aload_n hx hb d_Md_number_145 rfl (lv_at hl 0 rfl) ?_
            refine va_get (D := (dC, dI)) (ci := 4) (v := .long V) (C := R_Md) (T := F_Md) (N := 12) hx hb hz i_Md hown hK hP 0 rfl rfl 9 (by decide) (hz _ tw_485) (fun _ h9 => h9) rfl d_Md_number_146 ?_
            refine lv_lneg hx hb d_Md_number_149 ?_
            refine lv_goto (tgt := 157) hx hb d_Md_number_150 (by decide) ?_
            refine va_put (D := (dC, dI)) (ci := 4) (v := .long (-V)) (ty := .long) (C := R_Md) (T := F_Md) (N := 12) hx hb hz i_Md t_Md t_Md_ok n_Md hown hK hP hD hS 0 rfl rfl 9 (by decide) (hz _ tw_485) (fun _ h9 => h9) rfl (by decide +kernel) rfl rfl (Nat.le_of_ble_eq_true rfl) d_Md_number_157 (fun H locs hP hD hS => ?_)
            have hP : va_P (dC, dI) vwCl [(aM, .inr (4, [.int th, .ref aMT, .int (nI mu), .ref aNw, .ref aNx, .int mw, .int mwa, .int (nI (zK B en ma)), .int (nI en), .long (-V), .int (nI (zK B en ma)), .int ml])), (aMT, .inl (kMT, 65536, .inl B))] H := hP
            have hD : va_D A [(aM, .inr (4, [.int th, .ref aMT, .int (nI mu), .ref aNw, .ref aNx, .int mw, .int mwa, .int (nI (zK B en ma)), .int (nI en), .long (-V), .int (nI (zK B en ma)), .int ml])), (aMT, .inl (kMT, 65536, .inl B))] := hD
            refine lv_aload_n hx hb d_Md_number_160 rfl (lv_at hl 0 rfl) ?_
            refine lv_iload_n hx hb d_Md_number_161 rfl (lv_at hl 2 rfl) ?_
            refine va_put (D := (dC, dI)) (ci := 4) (v := .int (nI i)) (ty := .int) (C := R_Md) (T := F_Md) (N := 12) hx hb hz i_Md t_Md t_Md_ok n_Md hown hK hP hD hS 0 rfl rfl 7 (by decide) (hz _ tw_483) (fun _ h9 => h9) rfl (by decide +kernel) rfl rfl (Nat.le_of_ble_eq_true rfl) d_Md_number_162 (fun H locs hP hD hS => ?_)
            have hP : va_P (dC, dI) vwCl [(aM, .inr (4, [.int th, .ref aMT, .int (nI mu), .ref aNw, .ref aNx, .int mw, .int mwa, .int (nI i), .int (nI en), .long (-V), .int (nI (zK B en ma)), .int ml])), (aMT, .inl (kMT, 65536, .inl B))] H := hP
            have hD : va_D A [(aM, .inr (4, [.int th, .ref aMT, .int (nI mu), .ref aNw, .ref aNx, .int mw, .int mwa, .int (nI i), .int (nI en), .long (-V), .int (nI (zK B en ma)), .int ml])), (aMT, .inl (kMT, 65536, .inl B))] := hD
            refine lv_iconst (v := 1) hx hb d_Md_number_165 (by decide) ?_
            refine zt_size (fun hzs => ?_)
            have hP9 := hP.sub (ws' := [(aM, .inr (4, [.int th, .ref aMT, .int (nI mu), .ref aNw, .ref aNx, .int mw, .int mwa, .int (nI i), .int (nI en), .long (-V), .int (nI (zK B en ma)), .int ml])), (aMT, .inl (kMT, 65536, .inl B))]) [0, 1] rfl
            have hD9 := hD.sub (ws' := [(aM, .inr (4, [.int th, .ref aMT, .int (nI mu), .ref aNw, .ref aNx, .int mw, .int mwa, .int (nI i), .int (nI en), .long (-V), .int (nI (zK B en ma)), .int ml])), (aMT, .inl (kMT, 65536, .inl B))]) [0, 1] (by decide) rfl
            exact W.zret (v := 1) hx hb hr rfl (fun t ht hW => ⟨⟨1, (i, mw, mwa, -V, nI (zK B en ma)), rfl, Or.inl ⟨rfl, hd0, by rw [← hd, zE1_no hs_3], by omega, by rw [if_pos hm, ← hd, zE1_no hs_3], rfl, rfl, rfl⟩, by rw [ht]; exact hP9, hD9, by rw [ht]; exact hzs⟩, hS.F ht⟩) hS.2.2 d_Md_number_166
        ·
          refine lv_aload_n hx hb d_Md_number_140 rfl (lv_at hl 0 rfl) ?_
          refine lv_iload_n hx hb d_Md_number_141 rfl (lv_at hl 1 rfl) ?_
          refine lv_if_eq (tgt := 153) hx hb d_Md_number_142 (by decide) (fun c_8 => ?_) (fun c_8 => ?_)
          ·
            refine lv_aload_n hx hb d_Md_number_153 rfl (lv_at hl 0 rfl) ?_
            refine va_get (D := (dC, dI)) (ci := 4) (v := .long V) (C := R_Md) (T := F_Md) (N := 12) hx hb hz i_Md hown hK hP 0 rfl rfl 9 (by decide) (hz _ tw_485) (fun _ h9 => h9) rfl d_Md_number_154 ?_
            refine va_put (D := (dC, dI)) (ci := 4) (v := .long V) (ty := .long) (C := R_Md) (T := F_Md) (N := 12) hx hb hz i_Md t_Md t_Md_ok n_Md hown hK hP hD hS 0 rfl rfl 9 (by decide) (hz _ tw_485) (fun _ h9 => h9) rfl (by decide +kernel) rfl rfl (Nat.le_of_ble_eq_true rfl) d_Md_number_157 (fun H locs hP hD hS => ?_)
            have hP : va_P (dC, dI) vwCl [(aM, .inr (4, [.int th, .ref aMT, .int (nI mu), .ref aNw, .ref aNx, .int mw, .int mwa, .int (nI (zK B en ma)), .int (nI en), .long V, .int (nI (zK B en ma)), .int ml])), (aMT, .inl (kMT, 65536, .inl B))] H := hP
            have hD : va_D A [(aM, .inr (4, [.int th, .ref aMT, .int (nI mu), .ref aNw, .ref aNx, .int mw, .int mwa, .int (nI (zK B en ma)), .int (nI en), .long V, .int (nI (zK B en ma)), .int ml])), (aMT, .inl (kMT, 65536, .inl B))] := hD
            refine lv_aload_n hx hb d_Md_number_160 rfl (lv_at hl 0 rfl) ?_
            refine lv_iload_n hx hb d_Md_number_161 rfl (lv_at hl 2 rfl) ?_
            refine va_put (D := (dC, dI)) (ci := 4) (v := .int (nI i)) (ty := .int) (C := R_Md) (T := F_Md) (N := 12) hx hb hz i_Md t_Md t_Md_ok n_Md hown hK hP hD hS 0 rfl rfl 7 (by decide) (hz _ tw_483) (fun _ h9 => h9) rfl (by decide +kernel) rfl rfl (Nat.le_of_ble_eq_true rfl) d_Md_number_162 (fun H locs hP hD hS => ?_)
            have hP : va_P (dC, dI) vwCl [(aM, .inr (4, [.int th, .ref aMT, .int (nI mu), .ref aNw, .ref aNx, .int mw, .int mwa, .int (nI i), .int (nI en), .long V, .int (nI (zK B en ma)), .int ml])), (aMT, .inl (kMT, 65536, .inl B))] H := hP
            have hD : va_D A [(aM, .inr (4, [.int th, .ref aMT, .int (nI mu), .ref aNw, .ref aNx, .int mw, .int mwa, .int (nI i), .int (nI en), .long V, .int (nI (zK B en ma)), .int ml])), (aMT, .inl (kMT, 65536, .inl B))] := hD
            refine lv_iconst (v := 1) hx hb d_Md_number_165 (by decide) ?_
            refine zt_size (fun hzs => ?_)
            have hP9 := hP.sub (ws' := [(aM, .inr (4, [.int th, .ref aMT, .int (nI mu), .ref aNw, .ref aNx, .int mw, .int mwa, .int (nI i), .int (nI en), .long V, .int (nI (zK B en ma)), .int ml])), (aMT, .inl (kMT, 65536, .inl B))]) [0, 1] rfl
            have hD9 := hD.sub (ws' := [(aM, .inr (4, [.int th, .ref aMT, .int (nI mu), .ref aNw, .ref aNx, .int mw, .int mwa, .int (nI i), .int (nI en), .long V, .int (nI (zK B en ma)), .int ml])), (aMT, .inl (kMT, 65536, .inl B))]) [0, 1] (by decide) rfl
            exact W.zret (v := 1) hx hb hr rfl (fun t ht hW => ⟨⟨1, (i, mw, mwa, V, nI (zK B en ma)), rfl, Or.inl ⟨rfl, hd0, by rw [← hd, zE1_no hs_3], by omega, by rw [if_neg hm, ← hd, zE1_no hs_3], rfl, rfl, rfl⟩, by rw [ht]; exact hP9, hD9, by rw [ht]; exact hzs⟩, hS.F ht⟩) hS.2.2 d_Md_number_166
          ·
            exact absurd (by decide) c_8
      ·
        exact absurd (by decide) c_6
set_option maxHeartbeats 4000000 in
set_option maxRecDepth 100000 in
theorem c_Md_number (l : Launch) (G : ZG) (dC : Nat → ClassId) (dI : Nat → Nat → Nat) (sz : Nat) (aM : Nat) (th : Int32) (aMT : Nat) (mu : Nat) (aNw : Nat) (aNx : Nat) (mw : Int32) (mwa : Int32) (ma : Nat) (en : Nat) (mv : Int64) (mf : Int32) (ml : Int32) (kMT : ClassId) (B : Nat → Int32) (hen : en ≤ 65536) (hma : ma ≤ en) : Met l y_Md_number w_Md_number ({ frames := 1, cells := 0, slots := 0, locals := 22 }) (va_Pc [.ref aM] (PW G (dC, dI) [(kMT, .byte)] [(aM, .inr (4, [.int th, .ref aMT, .int (nI mu), .ref aNw, .ref aNx, .int mw, .int mwa, .int (nI ma), .int (nI en), .long mv, .int mf, .int ml])), (aMT, .inl (kMT, 65536, .inl B))] sz)) (va_Qi (fun (r : Int32) (uu : Nat × Int32 × Int32 × Int64 × Int32) => (r = 1 ∧ ((zFd B en (zK B en ma)) < en ∧ ¬ B (zFd B en (zK B en ma)) < 48 ∧ ¬ 57 < B (zFd B en (zK B en ma))) ∧ uu.1 = (zE1 B en (zFd B en (zK B en ma)) 0).1 ∧ uu.1 ≤ en ∧ uu.2.2.2.1 = (if zK B en ma < en ∧ B (zK B en ma) = 45 then - (zE1 B en (zFd B en (zK B en ma)) 0).2 else (zE1 B en (zFd B en (zK B en ma)) 0).2) ∧ uu.2.2.2.2 = nI (zK B en ma) ∧ uu.2.1 = mw ∧ uu.2.2.1 = mwa) ∨ (r = 0 ∧ ¬ ((zFd B en (zK B en ma)) < en ∧ ¬ B (zFd B en (zK B en ma)) < 48 ∧ ¬ 57 < B (zFd B en (zK B en ma))) ∧ uu.1 ≤ en ∧ uu.2.1 = 1 ∧ uu.2.2.1 = nI (zK B en ma))) (fun (uu : Nat × Int32 × Int32 × Int64 × Int32) t => BW (dC, dI) [(aM, .inr (4, [.int th, .ref aMT, .int (nI mu), .ref aNw, .ref aNx, .int uu.2.1, .int uu.2.2.1, .int (nI uu.1), .int (nI en), .long uu.2.2.2.1, .int uu.2.2.2.2, .int ml])), (aMT, .inl (kMT, 65536, .inl B))] (va_A [(aM, .inr (4, [.int th, .ref aMT, .int (nI mu), .ref aNw, .ref aNx, .int mw, .int mwa, .int (nI ma), .int (nI en), .long mv, .int mf, .int ml])), (aMT, .inl (kMT, 65536, .inl B))] sz) sz t) (va_A [(aM, .inr (4, [.int th, .ref aMT, .int (nI mu), .ref aNw, .ref aNx, .int mw, .int mwa, .int (nI ma), .int (nI en), .long mv, .int mf, .int ml])), (aMT, .inl (kMT, 65536, .inl B))] sz)) 0 0 (va_A [(aM, .inr (4, [.int th, .ref aMT, .int (nI mu), .ref aNw, .ref aNx, .int mw, .int mwa, .int (nI ma), .int (nI en), .long mv, .int mf, .int ml])), (aMT, .inl (kMT, 65536, .inl B))] sz) := by
  refine Met.ofW (cc := prog_6_method_15_code) (maxL := 3) (ret := (some .boolean)) (by decide) rfl ?_
  intro p e s m args below meth c s₁ Bd hml hv
  obtain ⟨rfl, hsz, hP, hK, hD0, hE⟩ := hv
  have hx := Bd.exec
  have hb := Bd.bytes
  have hr := Bd.returns
  have hts := atoms_spec (ws := w_Md_number) Bd.pre
  have hown : s.vm.findClass R_Md = some m.cls := findClass_of_methodNamed Bd.named
  have hlocks := Bd.notSynchronized
  have hz : ∀ w ∈ ZW, w.before _ s = true := fun w h => hts w (List.mem_cons_of_mem _ h)
  subst hsz
  have hD := hD0.self (sz := s.heap.size)
  generalize hAe : va_A [(aM, .inr (4, [.int th, .ref aMT, .int (nI mu), .ref aNw, .ref aNx, .int mw, .int mwa, .int (nI ma), .int (nI en), .long mv, .int mf, .int ml])), (aMT, .inl (kMT, 65536, .inl B))] s.heap.size = A at hD hE ⊢
  have hA : ∀ q : Nat, s.heap.size ≤ q → A q := fun q h => by rw [← hAe]; exact Or.inr h
  have hS : va_S A s.heap s.heap [] := va_S.rf
  have hl := lv_entry ([.ref aM]) (n := 3) (Nat.le_of_ble_eq_true rfl)
  rw [lg_entry_eq]
  generalize (lg_sl ([.ref aM]) ++ List.replicate (3 - (lg_sl ([.ref aM])).length) Slot.unset).toArray = ls at hl ⊢
  have hl : lv_has ls 3 [(0, .ref aM)] := hl
  obtain ⟨H, hH⟩ : ∃ z, z = s.heap := ⟨_, rfl⟩
  have hP : va_P (dC, dI) vwCl [(aM, .inr (4, [.int th, .ref aMT, .int (nI mu), .ref aNw, .ref aNx, .int mw, .int mwa, .int (nI ma), .int (nI en), .long mv, .int mf, .int ml])), (aMT, .inl (kMT, 65536, .inl B))] H := by rw [hH]; exact hP
  have hS : va_S A s.heap H [] := by rw [hH]; exact hS
  refine zt_heap hH ?_
  refine lv_aload_n hx hb d_Md_number_0 rfl (lv_at hl 0 rfl) ?_
  have hPc := hP.sub (ws' := [(aM, .inr (4, [.int th, .ref aMT, .int (nI mu), .ref aNw, .ref aNx, .int mw, .int mwa, .int (nI ma), .int (nI en), .long mv, .int mf, .int ml])), (aMT, .inl (kMT, 65536, .inl B))]) [0, 1] rfl
  have hDc := hD.sub (ws' := [(aM, .inr (4, [.int th, .ref aMT, .int (nI mu), .ref aNw, .ref aNx, .int mw, .int mwa, .int (nI ma), .int (nI en), .long mv, .int mf, .int ml])), (aMT, .inl (kMT, 65536, .inl B))]) [0, 1] (by decide) rfl
  have hKc := hK.sub (tys' := [(kMT, .byte)]) [0] rfl
  have hFc := va_free (wc := [(aM, .inr (4, [.int th, .ref aMT, .int (nI mu), .ref aNw, .ref aNx, .int mw, .int mwa, .int (nI ma), .int (nI en), .long mv, .int mf, .int ml])), (aMT, .inl (kMT, 65536, .inl B))]) hD hS hA [0, 1] rfl
  refine va_callv (va_runV (As := []) (rest := []) ⟨hx, hb, hml, hown, hts⟩ (c_Md_skip l G dC dI H.size aM th aMT mu aNw aNx mw mwa ma en mv mf ml kMT B (by omega) (by omega)) (cwV 0 hts (gV tw_545 tw_547 ts_22 tw_5 tw_548 rfl) rfl rfl rfl (by decide +kernel) ⟨Nat.le_of_ble_eq_true rfl, Nat.le_of_ble_eq_true rfl⟩) (PW_preV hPc hKc hDc hE hS hFc (ci := 4) (q0 := 0) rfl rfl) rfl rfl hl.1 rfl (lv_room (Nat.le_of_ble_eq_true rfl)) d_Md_number_1 ⟨Nat.le_of_ble_eq_true rfl, Nat.le_of_ble_eq_true rfl⟩) hS (fun q _ h => hFc q h) hFc (fun uu t H1 locs ht hvm hw_3 hB hz1 hk1 hS => ?_)
  obtain ⟨ma_2, rfl⟩ : ∃ z, z = uu := ⟨_, rfl⟩
  obtain ⟨hP1, hD1, hsz1⟩ := hB
  rw [ht] at hP1 hsz1
  obtain ⟨hP, hD⟩ := va_join (wr := []) (w1 := [(aM, .inr (4, [.int th, .ref aMT, .int (nI mu), .ref aNw, .ref aNx, .int mw, .int mwa, .int (nI ma_2), .int (nI en), .long mv, .int mf, .int ml])), (aMT, .inl (kMT, 65536, .inl B))]) hP hD [0, 1] [] rfl rfl (by decide) (by decide) hk1 hFc hP1 hD1
  generalize H1 = H at hP hS ⊢
  have hP : va_P (dC, dI) vwCl [(aM, .inr (4, [.int th, .ref aMT, .int (nI mu), .ref aNw, .ref aNx, .int mw, .int mwa, .int (nI ma_2), .int (nI en), .long mv, .int mf, .int ml])), (aMT, .inl (kMT, 65536, .inl B))] H := hP
  have hD : va_D A [(aM, .inr (4, [.int th, .ref aMT, .int (nI mu), .ref aNw, .ref aNx, .int mw, .int mwa, .int (nI ma_2), .int (nI en), .long mv, .int mf, .int ml])), (aMT, .inl (kMT, 65536, .inl B))] := hD
  have e1 := hw_3.symm; subst e1
  have hw_3i := zK_le (B := B) (en := en) (i := ma) (by omega)
  refine lv_aload_n hx hb d_Md_number_4 rfl (lv_at hl 0 rfl) ?_
  refine lv_aload_n hx hb d_Md_number_5 rfl (lv_at hl 0 rfl) ?_
  refine va_get (D := (dC, dI)) (ci := 4) (v := .int (nI (zK B en ma))) (C := R_Md) (T := F_Md) (N := 12) hx hb hz i_Md hown hK hP 0 rfl rfl 7 (by decide) (hz _ tw_483) (fun _ h9 => h9) rfl d_Md_number_6 ?_
  refine va_put (D := (dC, dI)) (ci := 4) (v := .int (nI (zK B en ma))) (ty := .int) (C := R_Md) (T := F_Md) (N := 12) hx hb hz i_Md t_Md t_Md_ok n_Md hown hK hP hD hS 0 rfl rfl 10 (by decide) (hz _ tw_486) (fun _ h9 => h9) rfl (by decide +kernel) rfl rfl (Nat.le_of_ble_eq_true rfl) d_Md_number_9 (fun H locs hP hD hS => ?_)
  have hP : va_P (dC, dI) vwCl [(aM, .inr (4, [.int th, .ref aMT, .int (nI mu), .ref aNw, .ref aNx, .int mw, .int mwa, .int (nI (zK B en ma)), .int (nI en), .long mv, .int (nI (zK B en ma)), .int ml])), (aMT, .inl (kMT, 65536, .inl B))] H := hP
  have hD : va_D A [(aM, .inr (4, [.int th, .ref aMT, .int (nI mu), .ref aNw, .ref aNx, .int mw, .int mwa, .int (nI (zK B en ma)), .int (nI en), .long mv, .int (nI (zK B en ma)), .int ml])), (aMT, .inl (kMT, 65536, .inl B))] := hD
  refine lv_aload_n hx hb d_Md_number_12 rfl (lv_at hl 0 rfl) ?_
  refine va_get (D := (dC, dI)) (ci := 4) (v := .int (nI (zK B en ma))) (C := R_Md) (T := F_Md) (N := 12) hx hb hz i_Md hown hK hP 0 rfl rfl 7 (by decide) (hz _ tw_483) (fun _ h9 => h9) rfl d_Md_number_13 ?_
  refine lv_aload_n hx hb d_Md_number_16 rfl (lv_at hl 0 rfl) ?_
  refine va_get (D := (dC, dI)) (ci := 4) (v := .int (nI en)) (C := R_Md) (T := F_Md) (N := 12) hx hb hz i_Md hown hK hP 0 rfl rfl 8 (by decide) (hz _ tw_484) (fun _ h9 => h9) rfl d_Md_number_17 ?_
  refine lv_icmp_ge (tgt := 41) hx hb d_Md_number_20 (by decide) (fun c_4 => ?_) (fun c_4 => ?_)
  ·
    have c_4 : en ≤ (zK B en ma) := (@nI_leI en (zK B en ma) (by omega) (by omega)).mp c_4
    refine lv_iconst (v := 0) hx hb d_Md_number_41 (by decide) ?_
    refine lv_istore_n (lv' := [(1, .int 0), (0, .ref aM)]) hx hb d_Md_number_42 rfl hl (by decide) rfl (fun ls hl => ?_)
    refine lv_iload_n hx hb d_Md_number_43 rfl (lv_at hl 0 rfl) ?_
    refine lv_if_eq (tgt := 56) hx hb d_Md_number_44 (by decide) (fun c_5 => ?_) (fun c_5 => ?_)
    ·
      refine lv_aload_n hx hb d_Md_number_56 rfl (lv_at hl 1 rfl) ?_
      refine va_get (D := (dC, dI)) (ci := 4) (v := .int (nI (zK B en ma))) (C := R_Md) (T := F_Md) (N := 12) hx hb hz i_Md hown hK hP 0 rfl rfl 7 (by decide) (hz _ tw_483) (fun _ h9 => h9) rfl d_Md_number_57 ?_
      refine lv_istore_n (lv' := [(2, .int (nI (zK B en ma))), (1, .int 0), (0, .ref aM)]) hx hb d_Md_number_60 rfl hl (by decide) rfl (fun ls hl => ?_)
      have hfd : zFd B en (zK B en ma) = (zK B en ma) := by unfold zFd; rw [if_neg (fun z => absurd z.1 (by omega))]
      refine lv_aload_n hx hb d_Md_number_61 rfl (lv_at hl 2 rfl) ?_
      refine lv_iload_n hx hb d_Md_number_62 rfl (lv_at hl 0 rfl) ?_
      have hPc := hP.sub (ws' := [(aM, .inr (4, [.int th, .ref aMT, .int (nI mu), .ref aNw, .ref aNx, .int mw, .int mwa, .int (nI (zK B en ma)), .int (nI en), .long mv, .int (nI (zK B en ma)), .int ml])), (aMT, .inl (kMT, 65536, .inl B))]) [0, 1] rfl
      have hDc := hD.sub (ws' := [(aM, .inr (4, [.int th, .ref aMT, .int (nI mu), .ref aNw, .ref aNx, .int mw, .int mwa, .int (nI (zK B en ma)), .int (nI en), .long mv, .int (nI (zK B en ma)), .int ml])), (aMT, .inl (kMT, 65536, .inl B))]) [0, 1] (by decide) rfl
      have hKc := hK.sub (tys' := [(kMT, .byte)]) [0] rfl
      have hFc := va_free (wc := [(aM, .inr (4, [.int th, .ref aMT, .int (nI mu), .ref aNw, .ref aNx, .int mw, .int mwa, .int (nI (zK B en ma)), .int (nI en), .long mv, .int (nI (zK B en ma)), .int ml])), (aMT, .inl (kMT, 65536, .inl B))]) hD hS hA [0, 1] rfl
      refine va_calli (va_runV (As := [.int (nI (zK B en ma))]) (rest := []) ⟨hx, hb, hml, hown, hts⟩ (c_Md_isDigit l G dC dI H.size aM th aMT mu aNw aNx mw mwa (zK B en ma) en mv (nI (zK B en ma)) ml kMT B (zK B en ma) (by omega) (by omega)) (cwV 1 hts (gV tw_600 tw_602 ts_32 tw_5 tw_603 rfl) rfl rfl rfl (by decide +kernel) ⟨Nat.le_of_ble_eq_true rfl, Nat.le_of_ble_eq_true rfl⟩) (PW_preV hPc hKc hDc hE hS hFc (ci := 4) (q0 := 0) rfl rfl) rfl rfl hl.1 rfl (lv_room (Nat.le_of_ble_eq_true rfl)) d_Md_number_63 ⟨Nat.le_of_ble_eq_true rfl, Nat.le_of_ble_eq_true rfl⟩) hS (fun q _ h => hFc q h) hFc (fun r_6 uu t H1 locs ht hvm hw_7 hB hz1 hk1 hS => ?_)
      obtain ⟨hP1, hD1, hsz1⟩ := hB
      rw [ht] at hP1 hsz1
      obtain ⟨hP, hD⟩ := va_join (wr := []) (w1 := [(aM, .inr (4, [.int th, .ref aMT, .int (nI mu), .ref aNw, .ref aNx, .int mw, .int mwa, .int (nI (zK B en ma)), .int (nI en), .long mv, .int (nI (zK B en ma)), .int ml])), (aMT, .inl (kMT, 65536, .inl B))]) hP hD [0, 1] [] rfl rfl (by decide) (by decide) hk1 hFc hP1 hD1
      generalize H1 = H at hP hS ⊢
      have hP : va_P (dC, dI) vwCl [(aM, .inr (4, [.int th, .ref aMT, .int (nI mu), .ref aNw, .ref aNx, .int mw, .int mwa, .int (nI (zK B en ma)), .int (nI en), .long mv, .int (nI (zK B en ma)), .int ml])), (aMT, .inl (kMT, 65536, .inl B))] H := hP
      have hD : va_D A [(aM, .inr (4, [.int th, .ref aMT, .int (nI mu), .ref aNw, .ref aNx, .int mw, .int mwa, .int (nI (zK B en ma)), .int (nI en), .long mv, .int (nI (zK B en ma)), .int ml])), (aMT, .inl (kMT, 65536, .inl B))] := hD
      by_cases hs_8 : (zK B en ma) < en ∧ ¬ B (zK B en ma) < 48 ∧ ¬ 57 < B (zK B en ma)
      ·
        rw [if_pos hs_8] at hw_7; subst hw_7
        refine lv_if_ne (tgt := 79) hx hb d_Md_number_66 (by decide) (fun c_9 => ?_) (fun c_9 => ?_)
        ·
          refine lv_aload_n hx hb d_Md_number_79 rfl (lv_at hl 2 rfl) ?_
          refine lv_lconst (v := 0) hx hb d_Md_number_80 rfl ?_
          refine va_put (D := (dC, dI)) (ci := 4) (v := .long 0) (ty := .long) (C := R_Md) (T := F_Md) (N := 12) hx hb hz i_Md t_Md t_Md_ok n_Md hown hK hP hD hS 0 rfl rfl 9 (by decide) (hz _ tw_485) (fun _ h9 => h9) rfl (by decide +kernel) rfl rfl (Nat.le_of_ble_eq_true rfl) d_Md_number_81 (fun H locs hP hD hS => ?_)
          have hP : va_P (dC, dI) vwCl [(aM, .inr (4, [.int th, .ref aMT, .int (nI mu), .ref aNw, .ref aNx, .int mw, .int mwa, .int (nI (zK B en ma)), .int (nI en), .long 0, .int (nI (zK B en ma)), .int ml])), (aMT, .inl (kMT, 65536, .inl B))] H := hP
          have hD : va_D A [(aM, .inr (4, [.int th, .ref aMT, .int (nI mu), .ref aNw, .ref aNx, .int mw, .int mwa, .int (nI (zK B en ma)), .int (nI en), .long 0, .int (nI (zK B en ma)), .int ml])), (aMT, .inl (kMT, 65536, .inl B))] := hD
          exact lp_Md_number l G dC dI aM th aMT mu aNw aNx mw mwa ma en mv mf ml kMT B hen hma ⟨hx, hb, hr, hml, hown, hts, hlocks⟩ hA hK hE (en + 1) 0 (zK B en ma) 0 (Or.inr ⟨rfl, fun z => absurd z.1 (by omega)⟩) (by rw [hfd]; exact hs_8) (by omega) (by omega) (by omega) (by rw [hfd]) _ _ (hP.sub [0, 1] rfl) (hD.sub [0, 1] (by decide) rfl) hS ls (lv_sub hl [2, 1, 0] rfl)
        ·
          exact absurd c_9 (by decide)
      ·
        rw [if_neg hs_8] at hw_7; subst hw_7
        refine lv_if_ne (tgt := 79) hx hb d_Md_number_66 (by decide) (fun c_10 => ?_) (fun c_10 => ?_)
        ·
          exact absurd (by decide) c_10
        ·
          refine lv_aload_n hx hb d_Md_number_69 rfl (lv_at hl 2 rfl) ?_
          refine lv_iconst (v := 1) hx hb d_Md_number_70 (by decide) ?_
          refine lv_aload_n hx hb d_Md_number_71 rfl (lv_at hl 2 rfl) ?_
          refine va_get (D := (dC, dI)) (ci := 4) (v := .int (nI (zK B en ma))) (C := R_Md) (T := F_Md) (N := 12) hx hb hz i_Md hown hK hP 0 rfl rfl 10 (by decide) (hz _ tw_486) (fun _ h9 => h9) rfl d_Md_number_72 ?_
          have hPc := hP.sub (ws' := [(aM, .inr (4, [.int th, .ref aMT, .int (nI mu), .ref aNw, .ref aNx, .int mw, .int mwa, .int (nI (zK B en ma)), .int (nI en), .long mv, .int (nI (zK B en ma)), .int ml]))]) [0] rfl
          have hDc := hD.sub (ws' := [(aM, .inr (4, [.int th, .ref aMT, .int (nI mu), .ref aNw, .ref aNx, .int mw, .int mwa, .int (nI (zK B en ma)), .int (nI en), .long mv, .int (nI (zK B en ma)), .int ml]))]) [0] (by decide) rfl
          have hKc := hK.sub (tys' := []) [] rfl
          have hFc := va_free (wc := [(aM, .inr (4, [.int th, .ref aMT, .int (nI mu), .ref aNw, .ref aNx, .int mw, .int mwa, .int (nI (zK B en ma)), .int (nI en), .long mv, .int (nI (zK B en ma)), .int ml]))]) hD hS hA [0] rfl
          refine va_calli (va_runV (As := [.int 1, .int (nI (zK B en ma))]) (rest := []) ⟨hx, hb, hml, hown, hts⟩ (c_Md_fails l G dC dI H.size aM th aMT mu aNw aNx mw mwa (zK B en ma) en mv (nI (zK B en ma)) ml 1 (nI (zK B en ma))) (cwV 2 hts (gV tw_549 tw_551 ts_23 tw_5 tw_552 rfl) rfl rfl rfl (by decide +kernel) ⟨Nat.le_of_ble_eq_true rfl, Nat.le_of_ble_eq_true rfl⟩) (PW_preV hPc hKc hDc hE hS hFc (ci := 4) (q0 := 0) rfl rfl) rfl rfl hl.1 rfl (lv_room (Nat.le_of_ble_eq_true rfl)) d_Md_number_75 ⟨Nat.le_of_ble_eq_true rfl, Nat.le_of_ble_eq_true rfl⟩) hS (fun q _ h => hFc q h) hFc (fun r_11 uu t H1 locs ht hvm hw_14 hB hz1 hk1 hS => ?_)
          obtain ⟨mw_12, mwa_13⟩ := uu
          obtain ⟨hP1, hD1, hsz1⟩ := hB
          rw [ht] at hP1 hsz1
          obtain ⟨hP, hD⟩ := va_join (wr := [(aMT, .inl (kMT, 65536, .inl B))]) (w1 := [(aM, .inr (4, [.int th, .ref aMT, .int (nI mu), .ref aNw, .ref aNx, .int mw_12, .int mwa_13, .int (nI (zK B en ma)), .int (nI en), .long mv, .int (nI (zK B en ma)), .int ml]))]) hP hD [0] [1] rfl rfl (by decide) (by decide) hk1 hFc hP1 hD1
          generalize H1 = H at hP hS ⊢
          have hP : va_P (dC, dI) vwCl [(aMT, .inl (kMT, 65536, .inl B)), (aM, .inr (4, [.int th, .ref aMT, .int (nI mu), .ref aNw, .ref aNx, .int mw_12, .int mwa_13, .int (nI (zK B en ma)), .int (nI en), .long mv, .int (nI (zK B en ma)), .int ml]))] H := hP
          have hD : va_D A [(aMT, .inl (kMT, 65536, .inl B)), (aM, .inr (4, [.int th, .ref aMT, .int (nI mu), .ref aNw, .ref aNx, .int mw_12, .int mwa_13, .int (nI (zK B en ma)), .int (nI en), .long mv, .int (nI (zK B en ma)), .int ml]))] := hD
          obtain ⟨e0, e1, e2⟩ := hw_14
          subst e0
          have e1 := e1.symm; subst e1
          have e2 := e2.symm; subst e2
          refine zt_size (fun hzs => ?_)
          have hP9 := hP.sub (ws' := [(aM, .inr (4, [.int th, .ref aMT, .int (nI mu), .ref aNw, .ref aNx, .int 1, .int (nI (zK B en ma)), .int (nI (zK B en ma)), .int (nI en), .long mv, .int (nI (zK B en ma)), .int ml])), (aMT, .inl (kMT, 65536, .inl B))]) [1, 0] rfl
          have hD9 := hD.sub (ws' := [(aM, .inr (4, [.int th, .ref aMT, .int (nI mu), .ref aNw, .ref aNx, .int 1, .int (nI (zK B en ma)), .int (nI (zK B en ma)), .int (nI en), .long mv, .int (nI (zK B en ma)), .int ml])), (aMT, .inl (kMT, 65536, .inl B))]) [1, 0] (by decide) rfl
          exact W.zret (v := 0) hx hb hr rfl (fun t ht hW => ⟨⟨0, (zK B en ma, 1, nI (zK B en ma), mv, nI (zK B en ma)), rfl, Or.inr ⟨rfl, by rw [hfd]; exact hs_8, by omega, rfl, rfl⟩, by rw [ht]; exact hP9, hD9, by rw [ht]; exact hzs⟩, hS.F ht⟩) hS.2.2 d_Md_number_78
    ·
      exact absurd (by decide) c_5
  ·
    have c_4 : ¬ (en ≤ (zK B en ma)) := fun z => c_4 ((@nI_leI en (zK B en ma) (by omega) (by omega)).mpr z)
    refine lv_aload_n hx hb d_Md_number_23 rfl (lv_at hl 0 rfl) ?_
    refine va_get (D := (dC, dI)) (ci := 4) (v := .ref aMT) (C := R_Md) (T := F_Md) (N := 12) hx hb hz i_Md hown hK hP 0 rfl rfl 1 (by decide) (hz _ tw_477) (fun _ h9 => h9) rfl d_Md_number_24 ?_
    refine lv_aload_n hx hb d_Md_number_27 rfl (lv_at hl 0 rfl) ?_
    refine va_get (D := (dC, dI)) (ci := 4) (v := .int (nI (zK B en ma))) (C := R_Md) (T := F_Md) (N := 12) hx hb hz i_Md hown hK hP 0 rfl rfl 7 (by decide) (hz _ tw_483) (fun _ h9 => h9) rfl d_Md_number_28 ?_
    refine va_bald (D := (dC, dI)) (i := nI (zK B en ma)) hx hb hK hP 1 0 rfl rfl (vp_in_nI (by omega) (by decide)) d_Md_number_31 ?_
    refine zt_top (by rw [nI_clamp (by omega)]) ?_
    refine lv_bipush (v := 45) hx hb d_Md_number_32 (by decide) ?_
    refine lv_icmp_ne (tgt := 41) hx hb d_Md_number_34 (by decide) (fun c_15 => ?_) (fun c_15 => ?_)
    ·
      refine lv_iconst (v := 0) hx hb d_Md_number_41 (by decide) ?_
      refine lv_istore_n (lv' := [(1, .int 0), (0, .ref aM)]) hx hb d_Md_number_42 rfl hl (by decide) rfl (fun ls hl => ?_)
      refine lv_iload_n hx hb d_Md_number_43 rfl (lv_at hl 0 rfl) ?_
      refine lv_if_eq (tgt := 56) hx hb d_Md_number_44 (by decide) (fun c_16 => ?_) (fun c_16 => ?_)
      ·
        refine lv_aload_n hx hb d_Md_number_56 rfl (lv_at hl 1 rfl) ?_
        refine va_get (D := (dC, dI)) (ci := 4) (v := .int (nI (zK B en ma))) (C := R_Md) (T := F_Md) (N := 12) hx hb hz i_Md hown hK hP 0 rfl rfl 7 (by decide) (hz _ tw_483) (fun _ h9 => h9) rfl d_Md_number_57 ?_
        refine lv_istore_n (lv' := [(2, .int (nI (zK B en ma))), (1, .int 0), (0, .ref aM)]) hx hb d_Md_number_60 rfl hl (by decide) rfl (fun ls hl => ?_)
        have hfd : zFd B en (zK B en ma) = (zK B en ma) := by unfold zFd; rw [if_neg (fun z => c_15 z.2)]
        refine lv_aload_n hx hb d_Md_number_61 rfl (lv_at hl 2 rfl) ?_
        refine lv_iload_n hx hb d_Md_number_62 rfl (lv_at hl 0 rfl) ?_
        have hPc := hP.sub (ws' := [(aM, .inr (4, [.int th, .ref aMT, .int (nI mu), .ref aNw, .ref aNx, .int mw, .int mwa, .int (nI (zK B en ma)), .int (nI en), .long mv, .int (nI (zK B en ma)), .int ml])), (aMT, .inl (kMT, 65536, .inl B))]) [0, 1] rfl
        have hDc := hD.sub (ws' := [(aM, .inr (4, [.int th, .ref aMT, .int (nI mu), .ref aNw, .ref aNx, .int mw, .int mwa, .int (nI (zK B en ma)), .int (nI en), .long mv, .int (nI (zK B en ma)), .int ml])), (aMT, .inl (kMT, 65536, .inl B))]) [0, 1] (by decide) rfl
        have hKc := hK.sub (tys' := [(kMT, .byte)]) [0] rfl
        have hFc := va_free (wc := [(aM, .inr (4, [.int th, .ref aMT, .int (nI mu), .ref aNw, .ref aNx, .int mw, .int mwa, .int (nI (zK B en ma)), .int (nI en), .long mv, .int (nI (zK B en ma)), .int ml])), (aMT, .inl (kMT, 65536, .inl B))]) hD hS hA [0, 1] rfl
        refine va_calli (va_runV (As := [.int (nI (zK B en ma))]) (rest := []) ⟨hx, hb, hml, hown, hts⟩ (c_Md_isDigit l G dC dI H.size aM th aMT mu aNw aNx mw mwa (zK B en ma) en mv (nI (zK B en ma)) ml kMT B (zK B en ma) (by omega) (by omega)) (cwV 1 hts (gV tw_600 tw_602 ts_32 tw_5 tw_603 rfl) rfl rfl rfl (by decide +kernel) ⟨Nat.le_of_ble_eq_true rfl, Nat.le_of_ble_eq_true rfl⟩) (PW_preV hPc hKc hDc hE hS hFc (ci := 4) (q0 := 0) rfl rfl) rfl rfl hl.1 rfl (lv_room (Nat.le_of_ble_eq_true rfl)) d_Md_number_63 ⟨Nat.le_of_ble_eq_true rfl, Nat.le_of_ble_eq_true rfl⟩) hS (fun q _ h => hFc q h) hFc (fun r_17 uu t H1 locs ht hvm hw_18 hB hz1 hk1 hS => ?_)
        obtain ⟨hP1, hD1, hsz1⟩ := hB
        rw [ht] at hP1 hsz1
        obtain ⟨hP, hD⟩ := va_join (wr := []) (w1 := [(aM, .inr (4, [.int th, .ref aMT, .int (nI mu), .ref aNw, .ref aNx, .int mw, .int mwa, .int (nI (zK B en ma)), .int (nI en), .long mv, .int (nI (zK B en ma)), .int ml])), (aMT, .inl (kMT, 65536, .inl B))]) hP hD [0, 1] [] rfl rfl (by decide) (by decide) hk1 hFc hP1 hD1
        generalize H1 = H at hP hS ⊢
        have hP : va_P (dC, dI) vwCl [(aM, .inr (4, [.int th, .ref aMT, .int (nI mu), .ref aNw, .ref aNx, .int mw, .int mwa, .int (nI (zK B en ma)), .int (nI en), .long mv, .int (nI (zK B en ma)), .int ml])), (aMT, .inl (kMT, 65536, .inl B))] H := hP
        have hD : va_D A [(aM, .inr (4, [.int th, .ref aMT, .int (nI mu), .ref aNw, .ref aNx, .int mw, .int mwa, .int (nI (zK B en ma)), .int (nI en), .long mv, .int (nI (zK B en ma)), .int ml])), (aMT, .inl (kMT, 65536, .inl B))] := hD
        by_cases hs_19 : (zK B en ma) < en ∧ ¬ B (zK B en ma) < 48 ∧ ¬ 57 < B (zK B en ma)
        ·
          rw [if_pos hs_19] at hw_18; subst hw_18
          refine lv_if_ne (tgt := 79) hx hb d_Md_number_66 (by decide) (fun c_20 => ?_) (fun c_20 => ?_)
          ·
            refine lv_aload_n hx hb d_Md_number_79 rfl (lv_at hl 2 rfl) ?_
            refine lv_lconst (v := 0) hx hb d_Md_number_80 rfl ?_
            refine va_put (D := (dC, dI)) (ci := 4) (v := .long 0) (ty := .long) (C := R_Md) (T := F_Md) (N := 12) hx hb hz i_Md t_Md t_Md_ok n_Md hown hK hP hD hS 0 rfl rfl 9 (by decide) (hz _ tw_485) (fun _ h9 => h9) rfl (by decide +kernel) rfl rfl (Nat.le_of_ble_eq_true rfl) d_Md_number_81 (fun H locs hP hD hS => ?_)
            have hP : va_P (dC, dI) vwCl [(aM, .inr (4, [.int th, .ref aMT, .int (nI mu), .ref aNw, .ref aNx, .int mw, .int mwa, .int (nI (zK B en ma)), .int (nI en), .long 0, .int (nI (zK B en ma)), .int ml])), (aMT, .inl (kMT, 65536, .inl B))] H := hP
            have hD : va_D A [(aM, .inr (4, [.int th, .ref aMT, .int (nI mu), .ref aNw, .ref aNx, .int mw, .int mwa, .int (nI (zK B en ma)), .int (nI en), .long 0, .int (nI (zK B en ma)), .int ml])), (aMT, .inl (kMT, 65536, .inl B))] := hD
            exact lp_Md_number l G dC dI aM th aMT mu aNw aNx mw mwa ma en mv mf ml kMT B hen hma ⟨hx, hb, hr, hml, hown, hts, hlocks⟩ hA hK hE (en + 1) 0 (zK B en ma) 0 (Or.inr ⟨rfl, fun z => c_15 z.2⟩) (by rw [hfd]; exact hs_19) (by omega) (by omega) (by omega) (by rw [hfd]) _ _ (hP.sub [0, 1] rfl) (hD.sub [0, 1] (by decide) rfl) hS ls (lv_sub hl [2, 1, 0] rfl)
          ·
            exact absurd c_20 (by decide)
        ·
          rw [if_neg hs_19] at hw_18; subst hw_18
          refine lv_if_ne (tgt := 79) hx hb d_Md_number_66 (by decide) (fun c_21 => ?_) (fun c_21 => ?_)
          ·
            exact absurd (by decide) c_21
          ·
            refine lv_aload_n hx hb d_Md_number_69 rfl (lv_at hl 2 rfl) ?_
            refine lv_iconst (v := 1) hx hb d_Md_number_70 (by decide) ?_
            refine lv_aload_n hx hb d_Md_number_71 rfl (lv_at hl 2 rfl) ?_
            refine va_get (D := (dC, dI)) (ci := 4) (v := .int (nI (zK B en ma))) (C := R_Md) (T := F_Md) (N := 12) hx hb hz i_Md hown hK hP 0 rfl rfl 10 (by decide) (hz _ tw_486) (fun _ h9 => h9) rfl d_Md_number_72 ?_
            have hPc := hP.sub (ws' := [(aM, .inr (4, [.int th, .ref aMT, .int (nI mu), .ref aNw, .ref aNx, .int mw, .int mwa, .int (nI (zK B en ma)), .int (nI en), .long mv, .int (nI (zK B en ma)), .int ml]))]) [0] rfl
            have hDc := hD.sub (ws' := [(aM, .inr (4, [.int th, .ref aMT, .int (nI mu), .ref aNw, .ref aNx, .int mw, .int mwa, .int (nI (zK B en ma)), .int (nI en), .long mv, .int (nI (zK B en ma)), .int ml]))]) [0] (by decide) rfl
            have hKc := hK.sub (tys' := []) [] rfl
            have hFc := va_free (wc := [(aM, .inr (4, [.int th, .ref aMT, .int (nI mu), .ref aNw, .ref aNx, .int mw, .int mwa, .int (nI (zK B en ma)), .int (nI en), .long mv, .int (nI (zK B en ma)), .int ml]))]) hD hS hA [0] rfl
            refine va_calli (va_runV (As := [.int 1, .int (nI (zK B en ma))]) (rest := []) ⟨hx, hb, hml, hown, hts⟩ (c_Md_fails l G dC dI H.size aM th aMT mu aNw aNx mw mwa (zK B en ma) en mv (nI (zK B en ma)) ml 1 (nI (zK B en ma))) (cwV 2 hts (gV tw_549 tw_551 ts_23 tw_5 tw_552 rfl) rfl rfl rfl (by decide +kernel) ⟨Nat.le_of_ble_eq_true rfl, Nat.le_of_ble_eq_true rfl⟩) (PW_preV hPc hKc hDc hE hS hFc (ci := 4) (q0 := 0) rfl rfl) rfl rfl hl.1 rfl (lv_room (Nat.le_of_ble_eq_true rfl)) d_Md_number_75 ⟨Nat.le_of_ble_eq_true rfl, Nat.le_of_ble_eq_true rfl⟩) hS (fun q _ h => hFc q h) hFc (fun r_22 uu t H1 locs ht hvm hw_25 hB hz1 hk1 hS => ?_)
            obtain ⟨mw_23, mwa_24⟩ := uu
            obtain ⟨hP1, hD1, hsz1⟩ := hB
            rw [ht] at hP1 hsz1
            obtain ⟨hP, hD⟩ := va_join (wr := [(aMT, .inl (kMT, 65536, .inl B))]) (w1 := [(aM, .inr (4, [.int th, .ref aMT, .int (nI mu), .ref aNw, .ref aNx, .int mw_23, .int mwa_24, .int (nI (zK B en ma)), .int (nI en), .long mv, .int (nI (zK B en ma)), .int ml]))]) hP hD [0] [1] rfl rfl (by decide) (by decide) hk1 hFc hP1 hD1
            generalize H1 = H at hP hS ⊢
            have hP : va_P (dC, dI) vwCl [(aMT, .inl (kMT, 65536, .inl B)), (aM, .inr (4, [.int th, .ref aMT, .int (nI mu), .ref aNw, .ref aNx, .int mw_23, .int mwa_24, .int (nI (zK B en ma)), .int (nI en), .long mv, .int (nI (zK B en ma)), .int ml]))] H := hP
            have hD : va_D A [(aMT, .inl (kMT, 65536, .inl B)), (aM, .inr (4, [.int th, .ref aMT, .int (nI mu), .ref aNw, .ref aNx, .int mw_23, .int mwa_24, .int (nI (zK B en ma)), .int (nI en), .long mv, .int (nI (zK B en ma)), .int ml]))] := hD
            obtain ⟨e0, e1, e2⟩ := hw_25
            subst e0
            have e1 := e1.symm; subst e1
            have e2 := e2.symm; subst e2
            refine zt_size (fun hzs => ?_)
            have hP9 := hP.sub (ws' := [(aM, .inr (4, [.int th, .ref aMT, .int (nI mu), .ref aNw, .ref aNx, .int 1, .int (nI (zK B en ma)), .int (nI (zK B en ma)), .int (nI en), .long mv, .int (nI (zK B en ma)), .int ml])), (aMT, .inl (kMT, 65536, .inl B))]) [1, 0] rfl
            have hD9 := hD.sub (ws' := [(aM, .inr (4, [.int th, .ref aMT, .int (nI mu), .ref aNw, .ref aNx, .int 1, .int (nI (zK B en ma)), .int (nI (zK B en ma)), .int (nI en), .long mv, .int (nI (zK B en ma)), .int ml])), (aMT, .inl (kMT, 65536, .inl B))]) [1, 0] (by decide) rfl
            exact W.zret (v := 0) hx hb hr rfl (fun t ht hW => ⟨⟨0, (zK B en ma, 1, nI (zK B en ma), mv, nI (zK B en ma)), rfl, Or.inr ⟨rfl, by rw [hfd]; exact hs_19, by omega, rfl, rfl⟩, by rw [ht]; exact hP9, hD9, by rw [ht]; exact hzs⟩, hS.F ht⟩) hS.2.2 d_Md_number_78
      ·
        exact absurd (by decide) c_16
    ·
      refine lv_iconst (v := 1) hx hb d_Md_number_37 (by decide) ?_
      refine lv_goto (tgt := 42) hx hb d_Md_number_38 (by decide) ?_
      refine lv_istore_n (lv' := [(1, .int 1), (0, .ref aM)]) hx hb d_Md_number_42 rfl hl (by decide) rfl (fun ls hl => ?_)
      refine lv_iload_n hx hb d_Md_number_43 rfl (lv_at hl 0 rfl) ?_
      refine lv_if_eq (tgt := 56) hx hb d_Md_number_44 (by decide) (fun c_26 => ?_) (fun c_26 => ?_)
      ·
        exact absurd c_26 (by decide)
      ·
        refine lv_aload_n hx hb d_Md_number_47 rfl (lv_at hl 1 rfl) ?_
        refine va_get (D := (dC, dI)) (ci := 4) (v := .int (nI (zK B en ma))) (C := R_Md) (T := F_Md) (N := 12) hx hb hz i_Md hown hK hP 0 rfl rfl 7 (by decide) (hz _ tw_483) (fun _ h9 => h9) rfl d_Md_number_48 ?_
        refine lv_iconst (v := 1) hx hb d_Md_number_51 (by decide) ?_
        refine lv_iadd hx hb d_Md_number_52 ?_
        refine zt_top (nI_add (zK B en ma) 1) ?_
        refine lv_goto (tgt := 60) hx hb d_Md_number_53 (by decide) ?_
        refine lv_istore_n (lv' := [(2, .int (nI ((zK B en ma) + 1))), (1, .int 1), (0, .ref aM)]) hx hb d_Md_number_60 rfl hl (by decide) rfl (fun ls hl => ?_)
        have hfd : zFd B en (zK B en ma) = (zK B en ma + 1) := by unfold zFd; rw [if_pos (⟨by omega, c_15⟩)]
        refine lv_aload_n hx hb d_Md_number_61 rfl (lv_at hl 2 rfl) ?_
        refine lv_iload_n hx hb d_Md_number_62 rfl (lv_at hl 0 rfl) ?_
        have hPc := hP.sub (ws' := [(aM, .inr (4, [.int th, .ref aMT, .int (nI mu), .ref aNw, .ref aNx, .int mw, .int mwa, .int (nI (zK B en ma)), .int (nI en), .long mv, .int (nI (zK B en ma)), .int ml])), (aMT, .inl (kMT, 65536, .inl B))]) [0, 1] rfl
        have hDc := hD.sub (ws' := [(aM, .inr (4, [.int th, .ref aMT, .int (nI mu), .ref aNw, .ref aNx, .int mw, .int mwa, .int (nI (zK B en ma)), .int (nI en), .long mv, .int (nI (zK B en ma)), .int ml])), (aMT, .inl (kMT, 65536, .inl B))]) [0, 1] (by decide) rfl
        have hKc := hK.sub (tys' := [(kMT, .byte)]) [0] rfl
        have hFc := va_free (wc := [(aM, .inr (4, [.int th, .ref aMT, .int (nI mu), .ref aNw, .ref aNx, .int mw, .int mwa, .int (nI (zK B en ma)), .int (nI en), .long mv, .int (nI (zK B en ma)), .int ml])), (aMT, .inl (kMT, 65536, .inl B))]) hD hS hA [0, 1] rfl
        refine va_calli (va_runV (As := [.int (nI ((zK B en ma) + 1))]) (rest := []) ⟨hx, hb, hml, hown, hts⟩ (c_Md_isDigit l G dC dI H.size aM th aMT mu aNw aNx mw mwa (zK B en ma) en mv (nI (zK B en ma)) ml kMT B ((zK B en ma) + 1) (by omega) (by omega)) (cwV 1 hts (gV tw_600 tw_602 ts_32 tw_5 tw_603 rfl) rfl rfl rfl (by decide +kernel) ⟨Nat.le_of_ble_eq_true rfl, Nat.le_of_ble_eq_true rfl⟩) (PW_preV hPc hKc hDc hE hS hFc (ci := 4) (q0 := 0) rfl rfl) rfl rfl hl.1 rfl (lv_room (Nat.le_of_ble_eq_true rfl)) d_Md_number_63 ⟨Nat.le_of_ble_eq_true rfl, Nat.le_of_ble_eq_true rfl⟩) hS (fun q _ h => hFc q h) hFc (fun r_27 uu t H1 locs ht hvm hw_28 hB hz1 hk1 hS => ?_)
        obtain ⟨hP1, hD1, hsz1⟩ := hB
        rw [ht] at hP1 hsz1
        obtain ⟨hP, hD⟩ := va_join (wr := []) (w1 := [(aM, .inr (4, [.int th, .ref aMT, .int (nI mu), .ref aNw, .ref aNx, .int mw, .int mwa, .int (nI (zK B en ma)), .int (nI en), .long mv, .int (nI (zK B en ma)), .int ml])), (aMT, .inl (kMT, 65536, .inl B))]) hP hD [0, 1] [] rfl rfl (by decide) (by decide) hk1 hFc hP1 hD1
        generalize H1 = H at hP hS ⊢
        have hP : va_P (dC, dI) vwCl [(aM, .inr (4, [.int th, .ref aMT, .int (nI mu), .ref aNw, .ref aNx, .int mw, .int mwa, .int (nI (zK B en ma)), .int (nI en), .long mv, .int (nI (zK B en ma)), .int ml])), (aMT, .inl (kMT, 65536, .inl B))] H := hP
        have hD : va_D A [(aM, .inr (4, [.int th, .ref aMT, .int (nI mu), .ref aNw, .ref aNx, .int mw, .int mwa, .int (nI (zK B en ma)), .int (nI en), .long mv, .int (nI (zK B en ma)), .int ml])), (aMT, .inl (kMT, 65536, .inl B))] := hD
        by_cases hs_29 : (zK B en ma + 1) < en ∧ ¬ B (zK B en ma + 1) < 48 ∧ ¬ 57 < B (zK B en ma + 1)
        ·
          rw [if_pos hs_29] at hw_28; subst hw_28
          refine lv_if_ne (tgt := 79) hx hb d_Md_number_66 (by decide) (fun c_30 => ?_) (fun c_30 => ?_)
          ·
            refine lv_aload_n hx hb d_Md_number_79 rfl (lv_at hl 2 rfl) ?_
            refine lv_lconst (v := 0) hx hb d_Md_number_80 rfl ?_
            refine va_put (D := (dC, dI)) (ci := 4) (v := .long 0) (ty := .long) (C := R_Md) (T := F_Md) (N := 12) hx hb hz i_Md t_Md t_Md_ok n_Md hown hK hP hD hS 0 rfl rfl 9 (by decide) (hz _ tw_485) (fun _ h9 => h9) rfl (by decide +kernel) rfl rfl (Nat.le_of_ble_eq_true rfl) d_Md_number_81 (fun H locs hP hD hS => ?_)
            have hP : va_P (dC, dI) vwCl [(aM, .inr (4, [.int th, .ref aMT, .int (nI mu), .ref aNw, .ref aNx, .int mw, .int mwa, .int (nI (zK B en ma)), .int (nI en), .long 0, .int (nI (zK B en ma)), .int ml])), (aMT, .inl (kMT, 65536, .inl B))] H := hP
            have hD : va_D A [(aM, .inr (4, [.int th, .ref aMT, .int (nI mu), .ref aNw, .ref aNx, .int mw, .int mwa, .int (nI (zK B en ma)), .int (nI en), .long 0, .int (nI (zK B en ma)), .int ml])), (aMT, .inl (kMT, 65536, .inl B))] := hD
            exact lp_Md_number l G dC dI aM th aMT mu aNw aNx mw mwa ma en mv mf ml kMT B hen hma ⟨hx, hb, hr, hml, hown, hts, hlocks⟩ hA hK hE (en + 1) 1 (zK B en ma + 1) 0 (Or.inl ⟨rfl, ⟨by omega, c_15⟩⟩) (by rw [hfd]; exact hs_29) (by omega) (by omega) (by omega) (by rw [hfd]) _ _ (hP.sub [0, 1] rfl) (hD.sub [0, 1] (by decide) rfl) hS ls (lv_sub hl [2, 1, 0] rfl)
          ·
            exact absurd c_30 (by decide)
        ·
          rw [if_neg hs_29] at hw_28; subst hw_28
          refine lv_if_ne (tgt := 79) hx hb d_Md_number_66 (by decide) (fun c_31 => ?_) (fun c_31 => ?_)
          ·
            exact absurd (by decide) c_31
          ·
            refine lv_aload_n hx hb d_Md_number_69 rfl (lv_at hl 2 rfl) ?_
            refine lv_iconst (v := 1) hx hb d_Md_number_70 (by decide) ?_
            refine lv_aload_n hx hb d_Md_number_71 rfl (lv_at hl 2 rfl) ?_
            refine va_get (D := (dC, dI)) (ci := 4) (v := .int (nI (zK B en ma))) (C := R_Md) (T := F_Md) (N := 12) hx hb hz i_Md hown hK hP 0 rfl rfl 10 (by decide) (hz _ tw_486) (fun _ h9 => h9) rfl d_Md_number_72 ?_
            have hPc := hP.sub (ws' := [(aM, .inr (4, [.int th, .ref aMT, .int (nI mu), .ref aNw, .ref aNx, .int mw, .int mwa, .int (nI (zK B en ma)), .int (nI en), .long mv, .int (nI (zK B en ma)), .int ml]))]) [0] rfl
            have hDc := hD.sub (ws' := [(aM, .inr (4, [.int th, .ref aMT, .int (nI mu), .ref aNw, .ref aNx, .int mw, .int mwa, .int (nI (zK B en ma)), .int (nI en), .long mv, .int (nI (zK B en ma)), .int ml]))]) [0] (by decide) rfl
            have hKc := hK.sub (tys' := []) [] rfl
            have hFc := va_free (wc := [(aM, .inr (4, [.int th, .ref aMT, .int (nI mu), .ref aNw, .ref aNx, .int mw, .int mwa, .int (nI (zK B en ma)), .int (nI en), .long mv, .int (nI (zK B en ma)), .int ml]))]) hD hS hA [0] rfl
            refine va_calli (va_runV (As := [.int 1, .int (nI (zK B en ma))]) (rest := []) ⟨hx, hb, hml, hown, hts⟩ (c_Md_fails l G dC dI H.size aM th aMT mu aNw aNx mw mwa (zK B en ma) en mv (nI (zK B en ma)) ml 1 (nI (zK B en ma))) (cwV 2 hts (gV tw_549 tw_551 ts_23 tw_5 tw_552 rfl) rfl rfl rfl (by decide +kernel) ⟨Nat.le_of_ble_eq_true rfl, Nat.le_of_ble_eq_true rfl⟩) (PW_preV hPc hKc hDc hE hS hFc (ci := 4) (q0 := 0) rfl rfl) rfl rfl hl.1 rfl (lv_room (Nat.le_of_ble_eq_true rfl)) d_Md_number_75 ⟨Nat.le_of_ble_eq_true rfl, Nat.le_of_ble_eq_true rfl⟩) hS (fun q _ h => hFc q h) hFc (fun r_32 uu t H1 locs ht hvm hw_35 hB hz1 hk1 hS => ?_)
            obtain ⟨mw_33, mwa_34⟩ := uu
            obtain ⟨hP1, hD1, hsz1⟩ := hB
            rw [ht] at hP1 hsz1
            obtain ⟨hP, hD⟩ := va_join (wr := [(aMT, .inl (kMT, 65536, .inl B))]) (w1 := [(aM, .inr (4, [.int th, .ref aMT, .int (nI mu), .ref aNw, .ref aNx, .int mw_33, .int mwa_34, .int (nI (zK B en ma)), .int (nI en), .long mv, .int (nI (zK B en ma)), .int ml]))]) hP hD [0] [1] rfl rfl (by decide) (by decide) hk1 hFc hP1 hD1
            generalize H1 = H at hP hS ⊢
            have hP : va_P (dC, dI) vwCl [(aMT, .inl (kMT, 65536, .inl B)), (aM, .inr (4, [.int th, .ref aMT, .int (nI mu), .ref aNw, .ref aNx, .int mw_33, .int mwa_34, .int (nI (zK B en ma)), .int (nI en), .long mv, .int (nI (zK B en ma)), .int ml]))] H := hP
            have hD : va_D A [(aMT, .inl (kMT, 65536, .inl B)), (aM, .inr (4, [.int th, .ref aMT, .int (nI mu), .ref aNw, .ref aNx, .int mw_33, .int mwa_34, .int (nI (zK B en ma)), .int (nI en), .long mv, .int (nI (zK B en ma)), .int ml]))] := hD
            obtain ⟨e0, e1, e2⟩ := hw_35
            subst e0
            have e1 := e1.symm; subst e1
            have e2 := e2.symm; subst e2
            refine zt_size (fun hzs => ?_)
            have hP9 := hP.sub (ws' := [(aM, .inr (4, [.int th, .ref aMT, .int (nI mu), .ref aNw, .ref aNx, .int 1, .int (nI (zK B en ma)), .int (nI (zK B en ma)), .int (nI en), .long mv, .int (nI (zK B en ma)), .int ml])), (aMT, .inl (kMT, 65536, .inl B))]) [1, 0] rfl
            have hD9 := hD.sub (ws' := [(aM, .inr (4, [.int th, .ref aMT, .int (nI mu), .ref aNw, .ref aNx, .int 1, .int (nI (zK B en ma)), .int (nI (zK B en ma)), .int (nI en), .long mv, .int (nI (zK B en ma)), .int ml])), (aMT, .inl (kMT, 65536, .inl B))]) [1, 0] (by decide) rfl
            exact W.zret (v := 0) hx hb hr rfl (fun t ht hW => ⟨⟨0, (zK B en ma, 1, nI (zK B en ma), mv, nI (zK B en ma)), rfl, Or.inr ⟨rfl, by rw [hfd]; exact hs_29, by omega, rfl, rfl⟩, by rw [ht]; exact hP9, hD9, by rw [ht]; exact hzs⟩, hS.F ht⟩) hS.2.2 d_Md_number_78
