/-- the word k as the reference has it: five bits a letter -/
def zWv : Nat → Int64 := fun k => match k with
  | 0 => 0
  | 1 => 658830418100
  | 2 => 21304432578605
  | 3 => 643058861
  | 4 => 20091374
  | 5 => 649168468
  | 6 => 52605987
  | 7 => 21241132
  | 8 => 186861
  | 9 => 477876
  | 10 => 20614630
  | 11 => 153148916
  | 12 => 21950138785
  | 13 => 168243
  | 14 => 525911
  | 15 => 662003
  | 16 => 650305716
  | 17 => 626504163
  | 18 => 5995389108
  | 19 => 283106
  | 20 => 413711650861
  | 21 => 658974192
  | 22 => 20805241326
  | 23 => 642876816
  | 24 => 20089894
  | 25 => 685951024
  | 26 => 281773
  | 27 => 190771
  | 28 => 168430
  | 29 => 656663
  | 30 => 24040
  | 31 => 20100404
  | _ => 643477558
theorem zW_ne : ∀ ks, ks < 33 → 1 ≤ ks → ∀ n, n < (zSb ks).length → ¬ zWv ks >>> ((nI (5 * n)).toInt64 &&& 63) = 0 := by decide +kernel
theorem zW_eq : ∀ ks, ks < 33 → 1 ≤ ks → zWv ks >>> ((nI (5 * (zSb ks).length)).toInt64 &&& 63) = 0 := by decide +kernel
theorem zW_ch : ∀ ks, ks < 33 → 1 ≤ ks → ∀ n, n < (zSb ks).length → 96 + ((zWv ks >>> ((nI (5 * n)).toInt64 &&& 63)) &&& 31) = ((zSb ks).getD n 0).toInt64 := by decide +kernel
theorem z64 {a b : Int32} (h : a.toInt64 = b.toInt64) : a = b := by
  have := congrArg Int64.toInt h
  rw [Int32.toInt_toInt64, Int32.toInt_toInt64] at this
  exact Int32.toInt_inj.mp this
/-- a word and its colon -/
def zKey (B : Nat → Int32) (en : Nat) (wd : List Int32) (h : Nat) : Except (Int32 × Nat) Nat := match zWord B en wd h with
  | none => .error (1, h)
  | some h2 => zMust B en 58 h2
theorem zName_key (B : Nat → Int32) (en : Nat) (mk : Int32) (wd : List Int32) (h : Nat) : zName B en mk wd h = zB (zMust B en mk h) (zKey B en wd) := rfl
set_option maxHeartbeats 4000000 in
set_option maxRecDepth 100000 in
theorem lp_Md_letters (l : Launch) (G : ZG) (dC : Nat → ClassId) (dI : Nat → Nat → Nat) (ks : Nat) (hks1 : 1 ≤ ks) (hks : ks < 33) (hL : (zSb ks).length ≤ 17) {p : Program} {e : Env} {s : State} {m : MethodId} {args : Array Value} {below : List Frame} {meth : Method} {c : Code} {A : Nat → Prop} (C0 : zC p s m args meth c prog_6_method_11_code 3 (some .int) R_Md w_Md_letters) (hA : ∀ q : Nat, s.heap.size ≤ q → A q) (hK : va_K (dC, dI) vwCl [] s) (hE : zE G A s s.heap) : ∀ (n : Nat) (i : Nat), (i ≤ (zSb ks).length) → ((zSb ks).length + 1 ≤ i + n) → ∀ (H : Heap) (locs : List Loc), va_P (dC, dI) vwCl [] H → va_D A [] → va_S A s.heap H locs → ∀ (ls : Array Slot), lv_has ls 3 [(0, .long (zWv ks)), (2, .int (nI i))] → W p l e ({ frames := 0, cells := 0, slots := 0, locals := 0 }) s m args below meth c H locs 0 0 (MQ below (va_Qi (fun (r : Int32) (uu : Unit) => r = nI (zSb ks).length) (fun (uu : Unit) t => BW (dC, dI) [] A s.heap.size t) A) args s 0 0 A) (F0 m 2 ls []) := by
  obtain ⟨hx, hb, hr, hml, hown, hts, hlocks⟩ := C0
  have hz : ∀ w ∈ ZW, w.before _ s = true := fun w h => hts w (List.mem_cons_of_mem _ h)
  intro n
  induction n with
  | zero =>
    intro i hi hn H locs hP hD hS ls hl
    exact absurd hn (by omega)
  | succ n ih =>
    intro i hi hn H locs hP hD hS ls hl
    refine lv_lload_n hx hb d_Md_letters_2 rfl (lv_at hl 0 rfl) ?_
    refine lv_iconst (v := 5) hx hb d_Md_letters_3 (by decide) ?_
    refine lv_iload_n hx hb d_Md_letters_4 rfl (lv_at hl 1 rfl) ?_
    refine lv_imul hx hb d_Md_letters_5 ?_
    refine zt_top (pk_mul 5 i) ?_
    refine lv_lshr (v := (zWv ks) >>> ((nI (5 * i)).toInt64 &&& 63)) hx hb d_Md_letters_6 rfl ?_
    refine lv_lconst (v := 0) hx hb d_Md_letters_7 rfl ?_
    refine W.lcmp hx hb d_Md_letters_8 ?_
    refine lv_if_eq (tgt := 18) hx hb d_Md_letters_9 (by decide) (fun c_1 => ?_) (fun c_1 => ?_)
    ·
      refine lv_iload_n hx hb d_Md_letters_18 rfl (lv_at hl 1 rfl) ?_
      refine zt_size (fun hzs => ?_)
      have hP9 := hP.sub (ws' := []) [] rfl
      have hD9 := hD.sub (ws' := []) [] (by decide) rfl
      exact W.iret (v := nI i) hx hb hr (fun t ht hW => ⟨⟨nI i, (), rfl, by rcases Nat.lt_or_ge i (zSb ks).length with q | q; exact absurd ((lg_cmp_eq _ _).mp c_1) (zW_ne ks hks hks1 i q); rw [show i = (zSb ks).length by omega], by rw [ht]; exact hP9, hD9, by rw [ht]; exact hzs⟩, hS.F ht⟩) hS.2.2 d_Md_letters_19
    ·
      refine lv_iinc (v := nI (i + 1)) (lv' := [(2, .int (nI (i + 1))), (0, .long (zWv ks))]) hx hb d_Md_letters_12 hl (k := 1) rfl (nI_add i 1) (by decide) rfl (fun ls hl => ?_)
      refine lv_goto (tgt := 2) hx hb d_Md_letters_15 (by decide) ?_
      exact ih (i + 1) (by rcases Nat.lt_or_ge i (zSb ks).length with q | q; exact q; exact absurd ((lg_cmp_eq _ _).mpr (by rw [show i = (zSb ks).length by omega]; exact zW_eq ks hks hks1)) c_1) (by omega) _ _ (hP.sub [] rfl) (hD.sub [] (by decide) rfl) hS ls (lv_sub hl [1, 0] rfl)
set_option maxHeartbeats 4000000 in
set_option maxRecDepth 100000 in
theorem c_Md_letters (l : Launch) (G : ZG) (dC : Nat → ClassId) (dI : Nat → Nat → Nat) (sz : Nat) (ks : Nat) (hks1 : 1 ≤ ks) (hks : ks < 33) (hL : (zSb ks).length ≤ 17) : Met l y_Md_letters w_Md_letters ({ frames := 0, cells := 0, slots := 0, locals := 0 }) (va_Pc [.long (zWv ks)] (PW G (dC, dI) [] [] sz)) (va_Qi (fun (r : Int32) (uu : Unit) => r = nI (zSb ks).length) (fun (uu : Unit) t => BW (dC, dI) [] (va_A [] sz) sz t) (va_A [] sz)) 0 0 (va_A [] sz) := by
  refine Met.ofW (cc := prog_6_method_11_code) (maxL := 3) (ret := (some .int)) (by decide) rfl ?_
  intro p e s m args below meth c s₁ Bd hml hv
  obtain ⟨rfl, hsz, hP, hK, hD0, hE⟩ := hv
  have hx := Bd.exec
  have hb := Bd.bytes
  have hr := Bd.returns
  have hts := atoms_spec (ws := w_Md_letters) Bd.pre
  have hown : s.vm.findClass R_Md = some m.cls := findClass_of_methodNamed Bd.named
  have hlocks := Bd.notSynchronized
  have hz : ∀ w ∈ ZW, w.before _ s = true := fun w h => hts w (List.mem_cons_of_mem _ h)
  subst hsz
  have hD := hD0.self (sz := s.heap.size)
  generalize hAe : va_A [] s.heap.size = A at hD hE ⊢
  have hA : ∀ q : Nat, s.heap.size ≤ q → A q := fun q h => by rw [← hAe]; exact Or.inr h
  have hS : va_S A s.heap s.heap [] := va_S.rf
  have hl := lv_entry ([.long (zWv ks)]) (n := 3) (Nat.le_of_ble_eq_true rfl)
  rw [lg_entry_eq]
  generalize (lg_sl ([.long (zWv ks)]) ++ List.replicate (3 - (lg_sl ([.long (zWv ks)])).length) Slot.unset).toArray = ls at hl ⊢
  have hl : lv_has ls 3 [(0, .long (zWv ks))] := hl
  obtain ⟨H, hH⟩ : ∃ z, z = s.heap := ⟨_, rfl⟩
  have hP : va_P (dC, dI) vwCl [] H := by rw [hH]; exact hP
  have hS : va_S A s.heap H [] := by rw [hH]; exact hS
  refine zt_heap hH ?_
  refine lv_iconst (v := 0) hx hb d_Md_letters_0 (by decide) ?_
  refine lv_istore_n (lv' := [(2, .int 0), (0, .long (zWv ks))]) hx hb d_Md_letters_1 rfl hl (by decide) rfl (fun ls hl => ?_)
  exact lp_Md_letters l G dC dI ks hks1 hks hL ⟨hx, hb, hr, hml, hown, hts, hlocks⟩ hA hK hE ((zSb ks).length + 1) 0 (by omega) (by omega) _ _ (hP.sub [] rfl) (hD.sub [] (by decide) rfl) hS ls (lv_sub hl [1, 0] rfl)
