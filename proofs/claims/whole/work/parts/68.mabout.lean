/-! What the class answers of a thing's numbers, by plain places. -/
theorem zFact_nn {cnt : Nat → Nat} {cel : Nat → Int32} {a b f : Nat} (hc : ∀ j, j < 5 → cnt j ≤ zM j) (ha : a < 5) (hb : b < cnt a) (hf : f < 2 ^ 31) : zFact cnt cel (nI a) (nI b) (nI f) = if f < zFT a then cel (zST a + b * zWD a + f) else 0 := by
  have h1 := hc a ha
  have h2 := zM_le a
  have h3 := zFT_le a
  unfold zFact
  rw [nI_clamp (show a < 2 ^ 31 by omega), nI_clamp (show b < 2 ^ 31 by omega), nI_clamp hf]
  by_cases c : f < zFT a
  · rw [if_pos c, if_pos ⟨zIn_nI ha (by omega), zIn_nI hb (by omega), zIn_nI c (by omega)⟩]
  · rw [if_neg c, if_neg (fun z => c ((nI_ltI hf (by omega)).mp z.2.2.2))]
theorem zLd_core {cnt : Nat → Nat} {cel : Nat → Int32} {a b L S j : Nat} {li : Int32} (hc : ∀ j, j < 5 → cnt j ≤ zM j) (ha : a < 5) (hb : b < cnt a) (hj : j < 2 ^ 31) (hL : zLLen cnt cel (nI a) (nI b) li = nI L) (hS : 0 < L → zLSt (nI a) li = nI S) (hr : S + L ≤ zWD a) : zLd cnt cel (nI a) (nI b) li (nI j) = if j < L then cel (zST a + b * zWD a + S + j) else 0 := by
  have h1 := hc a ha
  have h2 := zM_le a
  have h4 := zcell ha (Nat.lt_of_lt_of_le hb h1)
  unfold zLd
  rw [hL]
  by_cases c : j < L
  · rw [if_pos c, if_pos ⟨nI_pos (by omega), nI_lt c (by omega)⟩, hS (by omega), nI_clamp (show a < 2 ^ 31 by omega), nI_clamp (show b < 2 ^ 31 by omega), nI_add, nI_add]
    unfold zCq
    rw [if_pos (zIn_nI (by omega) (by omega)), nI_clamp (by omega)]
  · rw [if_neg c, if_neg (fun z => c ((nI_ltI (by omega) (by omega)).mp z.2))]
theorem zLd_no {cnt : Nat → Nat} {cel : Nat → Int32} {kd k li ii : Int32} (h : ¬ zHs cnt kd k) : zLd cnt cel kd k li ii = 0 := by
  unfold zLd
  rw [zLLen_0 h, if_neg (fun z => z.1 z.2)]
theorem zLd_neg {cnt : Nat → Nat} {cel : Nat → Int32} {kd k li ii : Int32} (h : ii < 0) : zLd cnt cel kd k li ii = 0 := by
  unfold zLd
  rw [if_neg (fun z => z.1 h)]
theorem zLd_0 {cnt : Nat → Nat} {cel : Nat → Int32} {b sd j : Nat} {li : Int32} (hc : ∀ j, j < 5 → cnt j ≤ zM j) (hb : b < cnt 0) (hj : j < 2 ^ 31) (hs : sd ≤ 32) (h1 : cel (11 + b * 3075) = nI sd) : zLd cnt cel (nI 0) (nI b) li (nI j) = if li = 0 ∧ j < 3 * sd * sd then cel (11 + b * 3075 + 3 + j) else 0 := by
  have hq := zsq hs
  have f0 : zFact cnt cel 0 (nI b) 0 = nI sd := (zFact_nn (a := 0) (f := 0) hc (by decide) hb (by decide)).trans h1
  have e : zLLen cnt cel (nI 0) (nI b) li = if li = 0 then nI (3 * sd * sd) else 0 := by
    show (if (0 : Int32) = 0 then (if li = 0 then 3 * zFact cnt cel 0 (nI b) 0 * zFact cnt cel 0 (nI b) 0 else 0) else _) = _
    rw [if_pos rfl, f0]
    split
    · rw [show (3 : Int32) = nI 3 from rfl, pk_mul, pk_mul]
    · rfl
  by_cases c : li = 0
  · rw [if_pos c] at e
    rw [zLd_core (S := 3) hc (by decide) hb hj e (fun _ => rfl) (by show 3 + 3 * sd * sd ≤ 3075; omega)]
    by_cases d : j < 3 * sd * sd
    · rw [if_pos d, if_pos ⟨c, d⟩]; rfl
    · rw [if_neg d, if_neg (fun z => d z.2)]
  · rw [if_neg c] at e
    rw [zLd_core (L := 0) (S := 0) hc (by decide) hb hj e (fun z => absurd z (by omega)) (by decide), if_neg (by omega), if_neg (fun z => c z.1)]
theorem zLd_1 {cnt : Nat → Nat} {cel : Nat → Int32} {a b j : Nat} {li : Int32} (hc : ∀ j, j < 5 → cnt j ≤ zM j) (ha : a = 1 ∨ a = 3) (hb : b < cnt a) (hj : j < 2 ^ 31) : zLd cnt cel (nI a) (nI b) li (nI j) = 0 := by
  have e : zLLen cnt cel (nI a) (nI b) li = nI 0 := by
    unfold zLLen
    rcases ha with rfl | rfl
    · rw [if_neg (by decide), if_neg (by decide), if_neg (by decide)]; rfl
    · rw [if_neg (by decide), if_neg (by decide), if_neg (by decide)]; rfl
  rw [zLd_core (L := 0) (S := 0) hc (by omega) hb hj e (fun z => absurd z (by omega)) (Nat.zero_le _), if_neg (by omega)]
theorem zLd_2 {cnt : Nat → Nat} {cel : Nat → Int32} {b np nf j : Nat} {li : Int32} (hc : ∀ j, j < 5 → cnt j ≤ zM j) (hb : b < cnt 2) (hj : j < 2 ^ 31) (hp : np ≤ 128) (hf : nf ≤ 128) (h1 : cel (24707 + b * 1411 + 1) = nI np) (h2 : cel (24707 + b * 1411 + 2) = nI nf) : zLd cnt cel (nI 2) (nI b) li (nI j) =
    if li = 0 then (if j < 3 * np then cel (24707 + b * 1411 + 3 + j) else 0) else if li = 1 then (if j < 3 * np then cel (24707 + b * 1411 + 387 + j) else 0) else if li = 2 then (if j < 2 * np then cel (24707 + b * 1411 + 771 + j) else 0) else if li = 3 then (if j < 3 * nf then cel (24707 + b * 1411 + 1027 + j) else 0) else 0 := by
  have f1 : zFact cnt cel 2 (nI b) 1 = nI np := (zFact_nn (a := 2) (f := 1) hc (by decide) hb (by decide)).trans h1
  have f2 : zFact cnt cel 2 (nI b) 2 = nI nf := (zFact_nn (a := 2) (f := 2) hc (by decide) hb (by decide)).trans h2
  have e : zLLen cnt cel (nI 2) (nI b) li = if li = 0 ∨ li = 1 then nI (3 * np) else if li = 2 then nI (2 * np) else if li = 3 then nI (3 * nf) else 0 := by
    unfold zLLen
    rw [if_neg (by decide), if_pos (by decide)]
    unfold zMLen
    rw [f1, f2, show (3 : Int32) = nI 3 from rfl, show (2 : Int32) = nI 2 from rfl, pk_mul, pk_mul, pk_mul]
  have st : zLSt (nI 2) li = if li = 0 then 3 else if li = 1 then 387 else if li = 2 then 771 else 1027 := by
    unfold zLSt
    rw [if_neg (by decide), if_neg (by decide)]
  by_cases c0 : li = 0
  · rw [if_pos c0]
    rw [if_pos (Or.inl c0)] at e
    rw [if_pos c0] at st
    exact zLd_core (S := 3) hc (by decide) hb hj e (fun _ => st) (by show 3 + 3 * np ≤ 1411; omega)
  · rw [if_neg c0]
    rw [if_neg c0] at st
    by_cases c1 : li = 1
    · rw [if_pos c1]
      rw [if_pos (Or.inr c1)] at e
      rw [if_pos c1] at st
      exact zLd_core (S := 387) hc (by decide) hb hj e (fun _ => st) (by show 387 + 3 * np ≤ 1411; omega)
    · rw [if_neg c1]
      rw [if_neg c1] at st
      rw [if_neg (fun z => z.elim c0 c1)] at e
      by_cases c2 : li = 2
      · rw [if_pos c2]
        rw [if_pos c2] at e st
        exact zLd_core (S := 771) hc (by decide) hb hj e (fun _ => st) (by show 771 + 2 * np ≤ 1411; omega)
      · rw [if_neg c2]
        rw [if_neg c2] at e st
        by_cases c3 : li = 3
        · rw [if_pos c3]
          rw [if_pos c3] at e
          exact zLd_core (S := 1027) hc (by decide) hb hj e (fun _ => st) (by show 1027 + 3 * nf ≤ 1411; omega)
        · rw [if_neg c3]
          rw [if_neg c3] at e
          rw [zLd_core (L := 0) (S := 0) hc (by decide) hb hj e (fun z => absurd z (by omega)) (by decide), if_neg (by omega)]
theorem zLd_4 {cnt : Nat → Nat} {cel : Nat → Int32} {b nk j : Nat} {li : Int32} (hc : ∀ j, j < 5 → cnt j ≤ zM j) (hb : b < cnt 4) (hj : j < 2 ^ 31) (hk : nk ≤ 32) (h1 : cel (47811 + b * 132 + 3) = nI nk) : zLd cnt cel (nI 4) (nI b) li (nI j) =
    if li = 0 then (if j < nk then cel (47811 + b * 132 + 4 + j) else 0) else if li = 1 then (if j < 3 * nk then cel (47811 + b * 132 + 36 + j) else 0) else 0 := by
  have f1 : zFact cnt cel 4 (nI b) 3 = nI nk := (zFact_nn (a := 4) (f := 3) hc (by decide) hb (by decide)).trans h1
  have e : zLLen cnt cel (nI 4) (nI b) li = if li = 0 then nI nk else if li = 1 then nI (3 * nk) else 0 := by
    unfold zLLen
    rw [if_neg (by decide), if_neg (by decide), if_pos (by decide), f1, show (3 : Int32) = nI 3 from rfl, pk_mul]
  have st : zLSt (nI 4) li = if li = 0 then 4 else 36 := by
    unfold zLSt
    rw [if_neg (by decide), if_pos (by decide)]
  by_cases c0 : li = 0
  · rw [if_pos c0]
    rw [if_pos c0] at e st
    exact zLd_core (S := 4) hc (by decide) hb hj e (fun _ => st) (by show 4 + nk ≤ 132; omega)
  · rw [if_neg c0]
    rw [if_neg c0] at e st
    by_cases c1 : li = 1
    · rw [if_pos c1]
      rw [if_pos c1] at e
      exact zLd_core (S := 36) hc (by decide) hb hj e (fun _ => st) (by show 36 + 3 * nk ≤ 132; omega)
    · rw [if_neg c1]
      rw [if_neg c1] at e
      rw [zLd_core (L := 0) (S := 0) hc (by decide) hb hj e (fun z => absurd z (by omega)) (by decide), if_neg (by omega)]
theorem zFact_neg {cnt : Nat → Nat} {cel : Nat → Int32} {kd k wh : Int32} (h : wh < 0) : zFact cnt cel kd k wh = 0 := by
  unfold zFact
  rw [if_neg (fun z => z.2.2.1 h)]
set_option maxHeartbeats 4000000 in
set_option maxRecDepth 100000 in
theorem c_Md_about (l : Launch) (G : ZG) (dC : Nat → ClassId) (dI : Nat → Nat → Nat) (sz : Nat) (aM : Nat) (th : Int32) (aMT : Nat) (mu : Nat) (aNw : Nat) (aNx : Nat) (mw : Int32) (mwa : Int32) (ma : Nat) (en : Nat) (mv : Int64) (mf : Int32) (ml : Int32) (kNw : ClassId) (nw : Nat → Int32) (cnt : Nat → Nat) (cel : Nat → Int32) (kd : Int32) (ki : Int32) (wh : Int32) (hg : zGood cnt cel nw) : Met l y_Md_about w_Md_about ({ frames := 1, cells := 0, slots := 0, locals := 22 }) (va_Pc [.ref aM, .int kd, .int ki, .int wh] (PW G (dC, dI) [(kNw, .int)] [(aM, .inr (4, [.int th, .ref aMT, .int (nI mu), .ref aNw, .ref aNx, .int mw, .int mwa, .int (nI ma), .int (nI en), .long mv, .int mf, .int ml])), (aNw, .inl (kNw, 52650, .inl nw))] sz)) (va_Qi (fun (r : Int32) (uu : Int32) => uu = 0 ∧ r = zFact cnt cel kd ki wh) (fun (uu : Int32) t => BW (dC, dI) [(aM, .inr (4, [.int uu, .ref aMT, .int (nI mu), .ref aNw, .ref aNx, .int mw, .int mwa, .int (nI ma), .int (nI en), .long mv, .int mf, .int ml])), (aNw, .inl (kNw, 52650, .inl nw))] (va_A [(aM, .inr (4, [.int th, .ref aMT, .int (nI mu), .ref aNw, .ref aNx, .int mw, .int mwa, .int (nI ma), .int (nI en), .long mv, .int mf, .int ml])), (aNw, .inl (kNw, 52650, .inl nw))] sz) sz t) (va_A [(aM, .inr (4, [.int th, .ref aMT, .int (nI mu), .ref aNw, .ref aNx, .int mw, .int mwa, .int (nI ma), .int (nI en), .long mv, .int mf, .int ml])), (aNw, .inl (kNw, 52650, .inl nw))] sz)) 0 0 (va_A [(aM, .inr (4, [.int th, .ref aMT, .int (nI mu), .ref aNw, .ref aNx, .int mw, .int mwa, .int (nI ma), .int (nI en), .long mv, .int mf, .int ml])), (aNw, .inl (kNw, 52650, .inl nw))] sz) := by
  refine Met.ofW (cc := prog_6_method_36_code) (maxL := 4) (ret := (some .int)) (by decide) rfl ?_
  intro p e s m args below meth c s₁ Bd hml hv
  obtain ⟨rfl, hsz, hP, hK, hD0, hE⟩ := hv
  have hx := Bd.exec
  have hb := Bd.bytes
  have hr := Bd.returns
  have hts := atoms_spec (ws := w_Md_about) Bd.pre
  have hown : s.vm.findClass R_Md = some m.cls := findClass_of_methodNamed Bd.named
  have hlocks := Bd.notSynchronized
  have hz : ∀ w ∈ ZW, w.before _ s = true := fun w h => hts w (List.mem_cons_of_mem _ h)
  subst hsz
  have hD := hD0.self (sz := s.heap.size)
  generalize hAe : va_A [(aM, .inr (4, [.int th, .ref aMT, .int (nI mu), .ref aNw, .ref aNx, .int mw, .int mwa, .int (nI ma), .int (nI en), .long mv, .int mf, .int ml])), (aNw, .inl (kNw, 52650, .inl nw))] s.heap.size = A at hD hE ⊢
  have hA : ∀ q : Nat, s.heap.size ≤ q → A q := fun q h => by rw [← hAe]; exact Or.inr h
  have hS : va_S A s.heap s.heap [] := va_S.rf
  have hl := lv_entry ([.ref aM, .int kd, .int ki, .int wh]) (n := 4) (Nat.le_of_ble_eq_true rfl)
  rw [lg_entry_eq]
  generalize (lg_sl ([.ref aM, .int kd, .int ki, .int wh]) ++ List.replicate (4 - (lg_sl ([.ref aM, .int kd, .int ki, .int wh])).length) Slot.unset).toArray = ls at hl ⊢
  have hl : lv_has ls 4 [(0, .ref aM), (1, .int kd), (2, .int ki), (3, .int wh)] := hl
  obtain ⟨H, hH⟩ : ∃ z, z = s.heap := ⟨_, rfl⟩
  have hP : va_P (dC, dI) vwCl [(aM, .inr (4, [.int th, .ref aMT, .int (nI mu), .ref aNw, .ref aNx, .int mw, .int mwa, .int (nI ma), .int (nI en), .long mv, .int mf, .int ml])), (aNw, .inl (kNw, 52650, .inl nw))] H := by rw [hH]; exact hP
  have hS : va_S A s.heap H [] := by rw [hH]; exact hS
  refine zt_heap hH ?_
  refine lv_aload_n hx hb d_Md_about_0 rfl (lv_at hl 0 rfl) ?_
  refine lv_iconst (v := 0) hx hb d_Md_about_1 (by decide) ?_
  refine va_put (D := (dC, dI)) (ci := 4) (v := .int 0) (ty := .int) (C := R_Md) (T := F_Md) (N := 12) hx hb hz i_Md t_Md t_Md_ok n_Md hown hK hP hD hS 0 rfl rfl 0 (by decide) (hz _ tw_476) (fun _ h9 => h9) rfl (by decide +kernel) rfl rfl (Nat.le_of_ble_eq_true rfl) d_Md_about_2 (fun H locs hP hD hS => ?_)
  have hP : va_P (dC, dI) vwCl [(aM, .inr (4, [.int 0, .ref aMT, .int (nI mu), .ref aNw, .ref aNx, .int mw, .int mwa, .int (nI ma), .int (nI en), .long mv, .int mf, .int ml])), (aNw, .inl (kNw, 52650, .inl nw))] H := hP
  have hD : va_D A [(aM, .inr (4, [.int 0, .ref aMT, .int (nI mu), .ref aNw, .ref aNx, .int mw, .int mwa, .int (nI ma), .int (nI en), .long mv, .int mf, .int ml])), (aNw, .inl (kNw, 52650, .inl nw))] := hD
  refine lv_aload_n hx hb d_Md_about_5 rfl (lv_at hl 0 rfl) ?_
  refine lv_iload_n hx hb d_Md_about_6 rfl (lv_at hl 1 rfl) ?_
  refine lv_iload_n hx hb d_Md_about_7 rfl (lv_at hl 2 rfl) ?_
  have hPc := hP.sub (ws' := [(aM, .inr (4, [.int 0, .ref aMT, .int (nI mu), .ref aNw, .ref aNx, .int mw, .int mwa, .int (nI ma), .int (nI en), .long mv, .int mf, .int ml])), (aNw, .inl (kNw, 52650, .inl nw))]) [0, 1] rfl
  have hDc := hD.sub (ws' := [(aM, .inr (4, [.int 0, .ref aMT, .int (nI mu), .ref aNw, .ref aNx, .int mw, .int mwa, .int (nI ma), .int (nI en), .long mv, .int mf, .int ml])), (aNw, .inl (kNw, 52650, .inl nw))]) [0, 1] (by decide) rfl
  have hKc := hK.sub (tys' := [(kNw, .int)]) [0] rfl
  have hFc := va_free (wc := [(aM, .inr (4, [.int 0, .ref aMT, .int (nI mu), .ref aNw, .ref aNx, .int mw, .int mwa, .int (nI ma), .int (nI en), .long mv, .int mf, .int ml])), (aNw, .inl (kNw, 52650, .inl nw))]) hD hS hA [0, 1] rfl
  refine va_calli (va_runV (As := [.int kd, .int ki]) (rest := []) ⟨hx, hb, hml, hown, hts⟩ (c_Md_is l G dC dI H.size aM 0 aMT mu aNw aNx mw mwa ma en mv mf ml kNw nw cnt kd ki hg.2.1 hg.1) (cwV 2 hts (gV tw_692 tw_694 ts_43 tw_5 tw_695 rfl) rfl rfl rfl (by decide +kernel) ⟨Nat.le_of_ble_eq_true rfl, Nat.le_of_ble_eq_true rfl⟩) (PW_preV hPc hKc hDc hE hS hFc (ci := 4) (q0 := 0) rfl rfl) rfl rfl hl.1 rfl (lv_room (Nat.le_of_ble_eq_true rfl)) d_Md_about_8 ⟨Nat.le_of_ble_eq_true rfl, Nat.le_of_ble_eq_true rfl⟩) hS (fun q _ h => hFc q h) hFc (fun r_1 uu t H1 locs ht hvm hw_2 hB hz1 hk1 hS => ?_)
  obtain ⟨hP1, hD1, hsz1⟩ := hB
  rw [ht] at hP1 hsz1
  obtain ⟨hP, hD⟩ := va_join (wr := []) (w1 := [(aM, .inr (4, [.int 0, .ref aMT, .int (nI mu), .ref aNw, .ref aNx, .int mw, .int mwa, .int (nI ma), .int (nI en), .long mv, .int mf, .int ml])), (aNw, .inl (kNw, 52650, .inl nw))]) hP hD [0, 1] [] rfl rfl (by decide) (by decide) hk1 hFc hP1 hD1
  generalize H1 = H at hP hS ⊢
  have hP : va_P (dC, dI) vwCl [(aM, .inr (4, [.int 0, .ref aMT, .int (nI mu), .ref aNw, .ref aNx, .int mw, .int mwa, .int (nI ma), .int (nI en), .long mv, .int mf, .int ml])), (aNw, .inl (kNw, 52650, .inl nw))] H := hP
  have hD : va_D A [(aM, .inr (4, [.int 0, .ref aMT, .int (nI mu), .ref aNw, .ref aNx, .int mw, .int mwa, .int (nI ma), .int (nI en), .long mv, .int mf, .int ml])), (aNw, .inl (kNw, 52650, .inl nw))] := hD
  rcases hw_2 with ⟨rfl, hw_2a⟩ | ⟨rfl, hw_2a⟩
  ·
    refine lv_if_eq (tgt := 18) hx hb d_Md_about_11 (by decide) (fun c_3 => ?_) (fun c_3 => ?_)
    ·
      exact absurd c_3 (by decide)
    ·
      refine lv_iload_n hx hb d_Md_about_14 rfl (lv_at hl 3 rfl) ?_
      refine lv_if_ge (tgt := 20) hx hb d_Md_about_15 (by decide) (fun c_4 => ?_) (fun c_4 => ?_)
      ·
        obtain ⟨ja, jb, hja, hjb, rfl, rfl⟩ := zHs_of hg.1 hw_2a
        obtain ⟨jf, hjf, rfl⟩ := nI_of (Int32.not_lt.mpr c_4)
        rcases (show ja = 0 ∨ ja = 1 ∨ ja = 2 ∨ ja = 3 ∨ ja = 4 by omega) with rfl | rfl | rfl | rfl | rfl
        ·
          have hl : lv_has ls 4 [(0, .ref aM), (1, .int 0), (2, .int (nI jb)), (3, .int (nI jf))] := hl
          have hb8 : jb < 8 := Nat.lt_of_lt_of_le hjb (hg.1 0 (by decide))
          have hth := hg.2.2.2 0 jb (by decide) hjb
          refine lv_iload_n hx hb d_Md_about_20 rfl (lv_at hl 1 rfl) ?_
          refine lv_tableIn (off := 31) (tgt := 52) hx hb d_Md_about_21 (by decide) (by decide) (by decide) (by decide) ?_
          refine lv_iload_n hx hb d_Md_about_52 rfl (lv_at hl 3 rfl) ?_
          refine lv_iconst (v := 3) hx hb d_Md_about_53 (by decide) ?_
          refine lv_icmp_ge (tgt := 75) hx hb d_Md_about_54 (by decide) (fun c_5 => ?_) (fun c_5 => ?_)
          ·
            have c_5 : 3 ≤ jf := (@nI_leI 3 jf (by omega) (by omega)).mp c_5
            refine lv_iconst (v := 0) hx hb d_Md_about_75 (by decide) ?_
            refine zt_size (fun hzs => ?_)
            have hP9 := hP.sub (ws' := [(aM, .inr (4, [.int 0, .ref aMT, .int (nI mu), .ref aNw, .ref aNx, .int mw, .int mwa, .int (nI ma), .int (nI en), .long mv, .int mf, .int ml])), (aNw, .inl (kNw, 52650, .inl nw))]) [0, 1] rfl
            have hD9 := hD.sub (ws' := [(aM, .inr (4, [.int 0, .ref aMT, .int (nI mu), .ref aNw, .ref aNx, .int mw, .int mwa, .int (nI ma), .int (nI en), .long mv, .int mf, .int ml])), (aNw, .inl (kNw, 52650, .inl nw))]) [0, 1] (by decide) rfl
            exact W.iret (v := 0) hx hb hr (fun t ht hW => ⟨⟨0, 0, rfl, ⟨rfl, by rw [zFact_nn hg.1 (by decide) hjb hjf, if_neg (show ¬ jf < zFT 0 by show ¬ jf < 3; omega)]⟩, by rw [ht]; exact hP9, hD9, by rw [ht]; exact hzs⟩, hS.F ht⟩) hS.2.2 d_Md_about_76
          ·
            have c_5 : ¬ (3 ≤ jf) := fun z => c_5 ((@nI_leI 3 jf (by omega) (by omega)).mpr z)
            refine lv_aload_n hx hb d_Md_about_57 rfl (lv_at hl 0 rfl) ?_
            refine va_get (D := (dC, dI)) (ci := 4) (v := .ref aNw) (C := R_Md) (T := F_Md) (N := 12) hx hb hz i_Md hown hK hP 0 rfl rfl 3 (by decide) (hz _ tw_479) (fun _ h9 => h9) rfl d_Md_about_58 ?_
            refine lv_bipush (v := 8) hx hb d_Md_about_61 (by decide) ?_
            refine lv_sipush (v := 3080) hx hb d_Md_about_63 (by decide) ?_
            refine lv_iload_n hx hb d_Md_about_66 rfl (lv_at hl 2 rfl) ?_
            refine lv_imul hx hb d_Md_about_67 ?_
            refine zt_top (pk_mul 3080 jb) ?_
            refine lv_iadd hx hb d_Md_about_68 ?_
            refine zt_top (nI_add 8 (3080 * jb)) ?_
            refine lv_iload_n hx hb d_Md_about_69 rfl (lv_at hl 3 rfl) ?_
            refine lv_iadd hx hb d_Md_about_70 ?_
            refine zt_top (nI_add (8 + (3080 * jb)) jf) ?_
            refine va_iald (D := (dC, dI)) (i := nI ((8 + (3080 * jb)) + jf)) hx hb hK hP 1 0 rfl rfl (vp_in_nI (by omega) (by decide)) d_Md_about_71 ?_
            refine zt_top (by rw [nI_clamp (by omega)]) ?_
            refine lv_goto (tgt := 76) hx hb d_Md_about_72 (by decide) ?_
            refine zt_size (fun hzs => ?_)
            have hP9 := hP.sub (ws' := [(aM, .inr (4, [.int 0, .ref aMT, .int (nI mu), .ref aNw, .ref aNx, .int mw, .int mwa, .int (nI ma), .int (nI en), .long mv, .int mf, .int ml])), (aNw, .inl (kNw, 52650, .inl nw))]) [0, 1] rfl
            have hD9 := hD.sub (ws' := [(aM, .inr (4, [.int 0, .ref aMT, .int (nI mu), .ref aNw, .ref aNx, .int mw, .int mwa, .int (nI ma), .int (nI en), .long mv, .int mf, .int ml])), (aNw, .inl (kNw, 52650, .inl nw))]) [0, 1] (by decide) rfl
            exact W.iret (v := nw ((8 + (3080 * jb)) + jf)) hx hb hr (fun t ht hW => ⟨⟨nw ((8 + (3080 * jb)) + jf), 0, rfl, ⟨rfl, by rw [zFact_nn hg.1 (by decide) hjb hjf, if_pos (show jf < zFT 0 by show jf < 3; omega)]; exact hth.1 jf (by show jf < 3; omega)⟩, by rw [ht]; exact hP9, hD9, by rw [ht]; exact hzs⟩, hS.F ht⟩) hS.2.2 d_Md_about_76
        ·
          have hl : lv_has ls 4 [(0, .ref aM), (1, .int 1), (2, .int (nI jb)), (3, .int (nI jf))] := hl
          have hb8 : jb < 16 := Nat.lt_of_lt_of_le hjb (hg.1 1 (by decide))
          have hth := hg.2.2.2 1 jb (by decide) hjb
          refine lv_iload_n hx hb d_Md_about_20 rfl (lv_at hl 1 rfl) ?_
          refine lv_tableIn (off := 56) (tgt := 77) hx hb d_Md_about_21 (by decide) (by decide) (by decide) (by decide) ?_
          refine lv_iload_n hx hb d_Md_about_77 rfl (lv_at hl 3 rfl) ?_
          refine lv_bipush (v := 6) hx hb d_Md_about_78 (by decide) ?_
          refine lv_icmp_ge (tgt := 101) hx hb d_Md_about_80 (by decide) (fun c_6 => ?_) (fun c_6 => ?_)
          ·
            have c_6 : 6 ≤ jf := (@nI_leI 6 jf (by omega) (by omega)).mp c_6
            refine lv_iconst (v := 0) hx hb d_Md_about_101 (by decide) ?_
            refine zt_size (fun hzs => ?_)
            have hP9 := hP.sub (ws' := [(aM, .inr (4, [.int 0, .ref aMT, .int (nI mu), .ref aNw, .ref aNx, .int mw, .int mwa, .int (nI ma), .int (nI en), .long mv, .int mf, .int ml])), (aNw, .inl (kNw, 52650, .inl nw))]) [0, 1] rfl
            have hD9 := hD.sub (ws' := [(aM, .inr (4, [.int 0, .ref aMT, .int (nI mu), .ref aNw, .ref aNx, .int mw, .int mwa, .int (nI ma), .int (nI en), .long mv, .int mf, .int ml])), (aNw, .inl (kNw, 52650, .inl nw))]) [0, 1] (by decide) rfl
            exact W.iret (v := 0) hx hb hr (fun t ht hW => ⟨⟨0, 0, rfl, ⟨rfl, by rw [zFact_nn hg.1 (by decide) hjb hjf, if_neg (show ¬ jf < zFT 1 by show ¬ jf < 6; omega)]⟩, by rw [ht]; exact hP9, hD9, by rw [ht]; exact hzs⟩, hS.F ht⟩) hS.2.2 d_Md_about_102
          ·
            have c_6 : ¬ (6 ≤ jf) := fun z => c_6 ((@nI_leI 6 jf (by omega) (by omega)).mpr z)
            refine lv_aload_n hx hb d_Md_about_83 rfl (lv_at hl 0 rfl) ?_
            refine va_get (D := (dC, dI)) (ci := 4) (v := .ref aNw) (C := R_Md) (T := F_Md) (N := 12) hx hb hz i_Md hown hK hP 0 rfl rfl 3 (by decide) (hz _ tw_479) (fun _ h9 => h9) rfl d_Md_about_84 ?_
            refine lv_sipush (v := 24648) hx hb d_Md_about_87 (by decide) ?_
            refine lv_bipush (v := 8) hx hb d_Md_about_90 (by decide) ?_
            refine lv_iload_n hx hb d_Md_about_92 rfl (lv_at hl 2 rfl) ?_
            refine lv_imul hx hb d_Md_about_93 ?_
            refine zt_top (pk_mul 8 jb) ?_
            refine lv_iadd hx hb d_Md_about_94 ?_
            refine zt_top (nI_add 24648 (8 * jb)) ?_
            refine lv_iload_n hx hb d_Md_about_95 rfl (lv_at hl 3 rfl) ?_
            refine lv_iadd hx hb d_Md_about_96 ?_
            refine zt_top (nI_add (24648 + (8 * jb)) jf) ?_
            refine va_iald (D := (dC, dI)) (i := nI ((24648 + (8 * jb)) + jf)) hx hb hK hP 1 0 rfl rfl (vp_in_nI (by omega) (by decide)) d_Md_about_97 ?_
            refine zt_top (by rw [nI_clamp (by omega)]) ?_
            refine lv_goto (tgt := 102) hx hb d_Md_about_98 (by decide) ?_
            refine zt_size (fun hzs => ?_)
            have hP9 := hP.sub (ws' := [(aM, .inr (4, [.int 0, .ref aMT, .int (nI mu), .ref aNw, .ref aNx, .int mw, .int mwa, .int (nI ma), .int (nI en), .long mv, .int mf, .int ml])), (aNw, .inl (kNw, 52650, .inl nw))]) [0, 1] rfl
            have hD9 := hD.sub (ws' := [(aM, .inr (4, [.int 0, .ref aMT, .int (nI mu), .ref aNw, .ref aNx, .int mw, .int mwa, .int (nI ma), .int (nI en), .long mv, .int mf, .int ml])), (aNw, .inl (kNw, 52650, .inl nw))]) [0, 1] (by decide) rfl
            exact W.iret (v := nw ((24648 + (8 * jb)) + jf)) hx hb hr (fun t ht hW => ⟨⟨nw ((24648 + (8 * jb)) + jf), 0, rfl, ⟨rfl, by rw [zFact_nn hg.1 (by decide) hjb hjf, if_pos (show jf < zFT 1 by show jf < 6; omega)]; exact hth.1 jf (by show jf < 6; omega)⟩, by rw [ht]; exact hP9, hD9, by rw [ht]; exact hzs⟩, hS.F ht⟩) hS.2.2 d_Md_about_102
        ·
          have hl : lv_has ls 4 [(0, .ref aM), (1, .int 2), (2, .int (nI jb)), (3, .int (nI jf))] := hl
          have hb8 : jb < 16 := Nat.lt_of_lt_of_le hjb (hg.1 2 (by decide))
          have hth := hg.2.2.2 2 jb (by decide) hjb
          refine lv_iload_n hx hb d_Md_about_20 rfl (lv_at hl 1 rfl) ?_
          refine lv_tableIn (off := 82) (tgt := 103) hx hb d_Md_about_21 (by decide) (by decide) (by decide) (by decide) ?_
          refine lv_iload_n hx hb d_Md_about_103 rfl (lv_at hl 3 rfl) ?_
          refine lv_iconst (v := 3) hx hb d_Md_about_104 (by decide) ?_
          refine lv_icmp_ge (tgt := 127) hx hb d_Md_about_105 (by decide) (fun c_7 => ?_) (fun c_7 => ?_)
          ·
            have c_7 : 3 ≤ jf := (@nI_leI 3 jf (by omega) (by omega)).mp c_7
            refine lv_iconst (v := 0) hx hb d_Md_about_127 (by decide) ?_
            refine zt_size (fun hzs => ?_)
            have hP9 := hP.sub (ws' := [(aM, .inr (4, [.int 0, .ref aMT, .int (nI mu), .ref aNw, .ref aNx, .int mw, .int mwa, .int (nI ma), .int (nI en), .long mv, .int mf, .int ml])), (aNw, .inl (kNw, 52650, .inl nw))]) [0, 1] rfl
            have hD9 := hD.sub (ws' := [(aM, .inr (4, [.int 0, .ref aMT, .int (nI mu), .ref aNw, .ref aNx, .int mw, .int mwa, .int (nI ma), .int (nI en), .long mv, .int mf, .int ml])), (aNw, .inl (kNw, 52650, .inl nw))]) [0, 1] (by decide) rfl
            exact W.iret (v := 0) hx hb hr (fun t ht hW => ⟨⟨0, 0, rfl, ⟨rfl, by rw [zFact_nn hg.1 (by decide) hjb hjf, if_neg (show ¬ jf < zFT 2 by show ¬ jf < 3; omega)]⟩, by rw [ht]; exact hP9, hD9, by rw [ht]; exact hzs⟩, hS.F ht⟩) hS.2.2 d_Md_about_128
          ·
            have c_7 : ¬ (3 ≤ jf) := fun z => c_7 ((@nI_leI 3 jf (by omega) (by omega)).mpr z)
            refine lv_aload_n hx hb d_Md_about_108 rfl (lv_at hl 0 rfl) ?_
            refine va_get (D := (dC, dI)) (ci := 4) (v := .ref aNw) (C := R_Md) (T := F_Md) (N := 12) hx hb hz i_Md hown hK hP 0 rfl rfl 3 (by decide) (hz _ tw_479) (fun _ h9 => h9) rfl d_Md_about_109 ?_
            refine lv_sipush (v := 24776) hx hb d_Md_about_112 (by decide) ?_
            refine lv_sipush (v := 1440) hx hb d_Md_about_115 (by decide) ?_
            refine lv_iload_n hx hb d_Md_about_118 rfl (lv_at hl 2 rfl) ?_
            refine lv_imul hx hb d_Md_about_119 ?_
            refine zt_top (pk_mul 1440 jb) ?_
            refine lv_iadd hx hb d_Md_about_120 ?_
            refine zt_top (nI_add 24776 (1440 * jb)) ?_
            refine lv_iload_n hx hb d_Md_about_121 rfl (lv_at hl 3 rfl) ?_
            refine lv_iadd hx hb d_Md_about_122 ?_
            refine zt_top (nI_add (24776 + (1440 * jb)) jf) ?_
            refine va_iald (D := (dC, dI)) (i := nI ((24776 + (1440 * jb)) + jf)) hx hb hK hP 1 0 rfl rfl (vp_in_nI (by omega) (by decide)) d_Md_about_123 ?_
            refine zt_top (by rw [nI_clamp (by omega)]) ?_
            refine lv_goto (tgt := 128) hx hb d_Md_about_124 (by decide) ?_
            refine zt_size (fun hzs => ?_)
            have hP9 := hP.sub (ws' := [(aM, .inr (4, [.int 0, .ref aMT, .int (nI mu), .ref aNw, .ref aNx, .int mw, .int mwa, .int (nI ma), .int (nI en), .long mv, .int mf, .int ml])), (aNw, .inl (kNw, 52650, .inl nw))]) [0, 1] rfl
            have hD9 := hD.sub (ws' := [(aM, .inr (4, [.int 0, .ref aMT, .int (nI mu), .ref aNw, .ref aNx, .int mw, .int mwa, .int (nI ma), .int (nI en), .long mv, .int mf, .int ml])), (aNw, .inl (kNw, 52650, .inl nw))]) [0, 1] (by decide) rfl
            exact W.iret (v := nw ((24776 + (1440 * jb)) + jf)) hx hb hr (fun t ht hW => ⟨⟨nw ((24776 + (1440 * jb)) + jf), 0, rfl, ⟨rfl, by rw [zFact_nn hg.1 (by decide) hjb hjf, if_pos (show jf < zFT 2 by show jf < 3; omega)]; exact hth.1 jf (by show jf < 3; omega)⟩, by rw [ht]; exact hP9, hD9, by rw [ht]; exact hzs⟩, hS.F ht⟩) hS.2.2 d_Md_about_128
        ·
          have hl : lv_has ls 4 [(0, .ref aM), (1, .int 3), (2, .int (nI jb)), (3, .int (nI jf))] := hl
          have hb8 : jb < 48 := Nat.lt_of_lt_of_le hjb (hg.1 3 (by decide))
          have hth := hg.2.2.2 3 jb (by decide) hjb
          refine lv_iload_n hx hb d_Md_about_20 rfl (lv_at hl 1 rfl) ?_
          refine lv_tableIn (off := 108) (tgt := 129) hx hb d_Md_about_21 (by decide) (by decide) (by decide) (by decide) ?_
          refine lv_iload_n hx hb d_Md_about_129 rfl (lv_at hl 3 rfl) ?_
          refine lv_bipush (v := 11) hx hb d_Md_about_130 (by decide) ?_
          refine lv_icmp_ge (tgt := 152) hx hb d_Md_about_132 (by decide) (fun c_8 => ?_) (fun c_8 => ?_)
          ·
            have c_8 : 11 ≤ jf := (@nI_leI 11 jf (by omega) (by omega)).mp c_8
            refine lv_iconst (v := 0) hx hb d_Md_about_152 (by decide) ?_
            refine zt_size (fun hzs => ?_)
            have hP9 := hP.sub (ws' := [(aM, .inr (4, [.int 0, .ref aMT, .int (nI mu), .ref aNw, .ref aNx, .int mw, .int mwa, .int (nI ma), .int (nI en), .long mv, .int mf, .int ml])), (aNw, .inl (kNw, 52650, .inl nw))]) [0, 1] rfl
            have hD9 := hD.sub (ws' := [(aM, .inr (4, [.int 0, .ref aMT, .int (nI mu), .ref aNw, .ref aNx, .int mw, .int mwa, .int (nI ma), .int (nI en), .long mv, .int mf, .int ml])), (aNw, .inl (kNw, 52650, .inl nw))]) [0, 1] (by decide) rfl
            exact W.iret (v := 0) hx hb hr (fun t ht hW => ⟨⟨0, 0, rfl, ⟨rfl, by rw [zFact_nn hg.1 (by decide) hjb hjf, if_neg (show ¬ jf < zFT 3 by show ¬ jf < 11; omega)]⟩, by rw [ht]; exact hP9, hD9, by rw [ht]; exact hzs⟩, hS.F ht⟩) hS.2.2 d_Md_about_153
          ·
            have c_8 : ¬ (11 ≤ jf) := fun z => c_8 ((@nI_leI 11 jf (by omega) (by omega)).mpr z)
            refine lv_aload_n hx hb d_Md_about_135 rfl (lv_at hl 0 rfl) ?_
            refine va_get (D := (dC, dI)) (ci := 4) (v := .ref aNw) (C := R_Md) (T := F_Md) (N := 12) hx hb hz i_Md hown hK hP 0 rfl rfl 3 (by decide) (hz _ tw_479) (fun _ h9 => h9) rfl d_Md_about_136 ?_
            refine lv_ldc (v := 47816) hx hb hown (hz _ tw_665) d_Md_about_139 ?_
            refine lv_bipush (v := 11) hx hb d_Md_about_141 (by decide) ?_
            refine lv_iload_n hx hb d_Md_about_143 rfl (lv_at hl 2 rfl) ?_
            refine lv_imul hx hb d_Md_about_144 ?_
            refine zt_top (pk_mul 11 jb) ?_
            refine lv_iadd hx hb d_Md_about_145 ?_
            refine zt_top (nI_add 47816 (11 * jb)) ?_
            refine lv_iload_n hx hb d_Md_about_146 rfl (lv_at hl 3 rfl) ?_
            refine lv_iadd hx hb d_Md_about_147 ?_
            refine zt_top (nI_add (47816 + (11 * jb)) jf) ?_
            refine va_iald (D := (dC, dI)) (i := nI ((47816 + (11 * jb)) + jf)) hx hb hK hP 1 0 rfl rfl (vp_in_nI (by omega) (by decide)) d_Md_about_148 ?_
            refine zt_top (by rw [nI_clamp (by omega)]) ?_
            refine lv_goto (tgt := 153) hx hb d_Md_about_149 (by decide) ?_
            refine zt_size (fun hzs => ?_)
            have hP9 := hP.sub (ws' := [(aM, .inr (4, [.int 0, .ref aMT, .int (nI mu), .ref aNw, .ref aNx, .int mw, .int mwa, .int (nI ma), .int (nI en), .long mv, .int mf, .int ml])), (aNw, .inl (kNw, 52650, .inl nw))]) [0, 1] rfl
            have hD9 := hD.sub (ws' := [(aM, .inr (4, [.int 0, .ref aMT, .int (nI mu), .ref aNw, .ref aNx, .int mw, .int mwa, .int (nI ma), .int (nI en), .long mv, .int mf, .int ml])), (aNw, .inl (kNw, 52650, .inl nw))]) [0, 1] (by decide) rfl
            exact W.iret (v := nw ((47816 + (11 * jb)) + jf)) hx hb hr (fun t ht hW => ⟨⟨nw ((47816 + (11 * jb)) + jf), 0, rfl, ⟨rfl, by rw [zFact_nn hg.1 (by decide) hjb hjf, if_pos (show jf < zFT 3 by show jf < 11; omega)]; exact hth.1 jf (by show jf < 11; omega)⟩, by rw [ht]; exact hP9, hD9, by rw [ht]; exact hzs⟩, hS.F ht⟩) hS.2.2 d_Md_about_153
        ·
          have hl : lv_has ls 4 [(0, .ref aM), (1, .int 4), (2, .int (nI jb)), (3, .int (nI jf))] := hl
          have hb8 : jb < 32 := Nat.lt_of_lt_of_le hjb (hg.1 4 (by decide))
          have hth := hg.2.2.2 4 jb (by decide) hjb
          refine lv_iload_n hx hb d_Md_about_20 rfl (lv_at hl 1 rfl) ?_
          refine lv_tableOut (tgt := 154) hx hb d_Md_about_21 (by decide) (by decide) ?_
          refine lv_iload_n hx hb d_Md_about_154 rfl (lv_at hl 3 rfl) ?_
          refine lv_iconst (v := 4) hx hb d_Md_about_155 (by decide) ?_
          refine lv_icmp_ge (tgt := 177) hx hb d_Md_about_156 (by decide) (fun c_9 => ?_) (fun c_9 => ?_)
          ·
            have c_9 : 4 ≤ jf := (@nI_leI 4 jf (by omega) (by omega)).mp c_9
            refine lv_iconst (v := 0) hx hb d_Md_about_177 (by decide) ?_
            refine zt_size (fun hzs => ?_)
            have hP9 := hP.sub (ws' := [(aM, .inr (4, [.int 0, .ref aMT, .int (nI mu), .ref aNw, .ref aNx, .int mw, .int mwa, .int (nI ma), .int (nI en), .long mv, .int mf, .int ml])), (aNw, .inl (kNw, 52650, .inl nw))]) [0, 1] rfl
            have hD9 := hD.sub (ws' := [(aM, .inr (4, [.int 0, .ref aMT, .int (nI mu), .ref aNw, .ref aNx, .int mw, .int mwa, .int (nI ma), .int (nI en), .long mv, .int mf, .int ml])), (aNw, .inl (kNw, 52650, .inl nw))]) [0, 1] (by decide) rfl
            exact W.iret (v := 0) hx hb hr (fun t ht hW => ⟨⟨0, 0, rfl, ⟨rfl, by rw [zFact_nn hg.1 (by decide) hjb hjf, if_neg (show ¬ jf < zFT 4 by show ¬ jf < 4; omega)]⟩, by rw [ht]; exact hP9, hD9, by rw [ht]; exact hzs⟩, hS.F ht⟩) hS.2.2 d_Md_about_178
          ·
            have c_9 : ¬ (4 ≤ jf) := fun z => c_9 ((@nI_leI 4 jf (by omega) (by omega)).mpr z)
            refine lv_aload_n hx hb d_Md_about_159 rfl (lv_at hl 0 rfl) ?_
            refine va_get (D := (dC, dI)) (ci := 4) (v := .ref aNw) (C := R_Md) (T := F_Md) (N := 12) hx hb hz i_Md hown hK hP 0 rfl rfl 3 (by decide) (hz _ tw_479) (fun _ h9 => h9) rfl d_Md_about_160 ?_
            refine lv_ldc (v := 48344) hx hb hown (hz _ tw_673) d_Md_about_163 ?_
            refine lv_sipush (v := 134) hx hb d_Md_about_165 (by decide) ?_
            refine lv_iload_n hx hb d_Md_about_168 rfl (lv_at hl 2 rfl) ?_
            refine lv_imul hx hb d_Md_about_169 ?_
            refine zt_top (pk_mul 134 jb) ?_
            refine lv_iadd hx hb d_Md_about_170 ?_
            refine zt_top (nI_add 48344 (134 * jb)) ?_
            refine lv_iload_n hx hb d_Md_about_171 rfl (lv_at hl 3 rfl) ?_
            refine lv_iadd hx hb d_Md_about_172 ?_
            refine zt_top (nI_add (48344 + (134 * jb)) jf) ?_
            refine va_iald (D := (dC, dI)) (i := nI ((48344 + (134 * jb)) + jf)) hx hb hK hP 1 0 rfl rfl (vp_in_nI (by omega) (by decide)) d_Md_about_173 ?_
            refine zt_top (by rw [nI_clamp (by omega)]) ?_
            refine lv_goto (tgt := 178) hx hb d_Md_about_174 (by decide) ?_
            refine zt_size (fun hzs => ?_)
            have hP9 := hP.sub (ws' := [(aM, .inr (4, [.int 0, .ref aMT, .int (nI mu), .ref aNw, .ref aNx, .int mw, .int mwa, .int (nI ma), .int (nI en), .long mv, .int mf, .int ml])), (aNw, .inl (kNw, 52650, .inl nw))]) [0, 1] rfl
            have hD9 := hD.sub (ws' := [(aM, .inr (4, [.int 0, .ref aMT, .int (nI mu), .ref aNw, .ref aNx, .int mw, .int mwa, .int (nI ma), .int (nI en), .long mv, .int mf, .int ml])), (aNw, .inl (kNw, 52650, .inl nw))]) [0, 1] (by decide) rfl
            exact W.iret (v := nw ((48344 + (134 * jb)) + jf)) hx hb hr (fun t ht hW => ⟨⟨nw ((48344 + (134 * jb)) + jf), 0, rfl, ⟨rfl, by rw [zFact_nn hg.1 (by decide) hjb hjf, if_pos (show jf < zFT 4 by show jf < 4; omega)]; exact hth.1 jf (by show jf < 4; omega)⟩, by rw [ht]; exact hP9, hD9, by rw [ht]; exact hzs⟩, hS.F ht⟩) hS.2.2 d_Md_about_178
      ·
        refine lv_iconst (v := 0) hx hb d_Md_about_18 (by decide) ?_
        refine zt_size (fun hzs => ?_)
        have hP9 := hP.sub (ws' := [(aM, .inr (4, [.int 0, .ref aMT, .int (nI mu), .ref aNw, .ref aNx, .int mw, .int mwa, .int (nI ma), .int (nI en), .long mv, .int mf, .int ml])), (aNw, .inl (kNw, 52650, .inl nw))]) [0, 1] rfl
        have hD9 := hD.sub (ws' := [(aM, .inr (4, [.int 0, .ref aMT, .int (nI mu), .ref aNw, .ref aNx, .int mw, .int mwa, .int (nI ma), .int (nI en), .long mv, .int mf, .int ml])), (aNw, .inl (kNw, 52650, .inl nw))]) [0, 1] (by decide) rfl
        exact W.iret (v := 0) hx hb hr (fun t ht hW => ⟨⟨0, 0, rfl, ⟨rfl, (zFact_neg (Int32.not_le.mp c_4)).symm⟩, by rw [ht]; exact hP9, hD9, by rw [ht]; exact hzs⟩, hS.F ht⟩) hS.2.2 d_Md_about_19
  ·
    refine lv_if_eq (tgt := 18) hx hb d_Md_about_11 (by decide) (fun c_10 => ?_) (fun c_10 => ?_)
    ·
      refine lv_iconst (v := 0) hx hb d_Md_about_18 (by decide) ?_
      refine zt_size (fun hzs => ?_)
      have hP9 := hP.sub (ws' := [(aM, .inr (4, [.int 0, .ref aMT, .int (nI mu), .ref aNw, .ref aNx, .int mw, .int mwa, .int (nI ma), .int (nI en), .long mv, .int mf, .int ml])), (aNw, .inl (kNw, 52650, .inl nw))]) [0, 1] rfl
      have hD9 := hD.sub (ws' := [(aM, .inr (4, [.int 0, .ref aMT, .int (nI mu), .ref aNw, .ref aNx, .int mw, .int mwa, .int (nI ma), .int (nI en), .long mv, .int mf, .int ml])), (aNw, .inl (kNw, 52650, .inl nw))]) [0, 1] (by decide) rfl
      exact W.iret (v := 0) hx hb hr (fun t ht hW => ⟨⟨0, 0, rfl, ⟨rfl, (zFact_0 hw_2a).symm⟩, by rw [ht]; exact hP9, hD9, by rw [ht]; exact hzs⟩, hS.F ht⟩) hS.2.2 d_Md_about_19
    ·
      exact absurd (by decide) c_10
