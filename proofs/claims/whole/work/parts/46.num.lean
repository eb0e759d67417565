/-! The reference's long number and the class's int: the same within the limits. -/
def zVn (v : Int32) (V : Int64) : Prop := ∃ a A : Nat, v = nI a ∧ V = lN A ∧ a ≤ 999999999 ∧ A ≤ 10000000000009 ∧ (a = A ∨ (100000000 ≤ a ∧ 100000000 ≤ A))
theorem z_dig {b : Int32} (h : ¬ b < 48) (h2 : ¬ 57 < b) : ∃ d : Nat, d ≤ 9 ∧ b = nI (48 + d) := by
  have e48 : (48 : Int32).toInt = 48 := by decide
  have e57 : (57 : Int32).toInt = 57 := by decide
  rw [Int32.lt_iff_toInt_lt] at h h2
  rw [e48] at h
  rw [e57] at h2
  have h0 : ¬ b < 0 := by rw [Int32.lt_iff_toInt_lt, Int32.toInt_zero]; omega
  obtain ⟨j, hj, rfl⟩ := nI_of h0
  rw [nI_toInt hj] at h h2
  exact ⟨j - 48, by omega, by rw [show 48 + (j - 48) = j by omega]⟩
theorem zVn_step {b v : Int32} {V : Int64} (hb : ¬ b < 48) (hb2 : ¬ 57 < b) (h : zVn v V) : zVn (if v < 100000000 then v * 10 + (b - 48) else v) (if lg_cmp V 1000000000000 ≤ 0 then 10 * V + b.toInt64 - 48 else V) := by
  obtain ⟨a, A, rfl, rfl, h1, h2, h3⟩ := h
  obtain ⟨d, hd, rfl⟩ := z_dig hb hb2
  have ev : (nI a < (100000000 : Int32)) ↔ a < 100000000 := nI_ltI (a := a) (b := 100000000) (by omega) (by decide)
  have eV : lg_cmp (lN A) 1000000000000 ≤ 0 ↔ A ≤ 1000000000000 := (lg_cmp_le _ _).trans (pk_lLE (a := A) (b := 1000000000000) (by omega) (by decide))
  have c1 : nI a * 10 + (nI (48 + d) - 48) = nI (a * 10 + d) := by
    rw [show nI (48 + d) - 48 = nI d from (pk_sub (a := 48 + d) (b := 48) (by omega)).trans (by rw [show 48 + d - 48 = d by omega]), show nI a * 10 = nI (a * 10) from pk_mul a 10, nI_add]
  have c2 : 10 * lN A + (nI (48 + d)).toInt64 - 48 = lN (10 * A + d) := by
    rw [nI_l (by omega), show 10 * lN A = lN (10 * A) from lN_mul 10 A, lN_add, show lN (10 * A + (48 + d)) - 48 = lN (10 * A + (48 + d) - 48) from lN_sub (a := 10 * A + (48 + d)) (b := 48) (by omega), show 10 * A + (48 + d) - 48 = 10 * A + d by omega]
  by_cases q : a < 100000000
  · rw [if_pos (ev.mpr q), c1]
    have hA : A ≤ 1000000000000 := by omega
    rw [if_pos (eV.mpr hA), c2]
    exact ⟨a * 10 + d, 10 * A + d, rfl, rfl, by omega, by omega, by omega⟩
  · rw [if_neg (fun z => q (ev.mp z))]
    by_cases q2 : A ≤ 1000000000000
    · rw [if_pos (eV.mpr q2), c2]
      exact ⟨a, 10 * A + d, rfl, rfl, by omega, by omega, by omega⟩
    · rw [if_neg (fun z => q2 (eV.mp z))]
      exact ⟨a, A, rfl, rfl, by omega, by omega, by omega⟩
theorem zDm_zDg {B : Nat → Int32} {en : Nat} : ∀ (n i : Nat) (v : Int32) (V : Int64), zVn v V → (zDm B en n i V).1 = (zDg B en n i v).1 ∧ zVn (zDg B en n i v).2 (zDm B en n i V).2 := by
  intro n
  induction n with
  | zero => intro i v V h; exact ⟨rfl, h⟩
  | succ n ih =>
    intro i v V h
    unfold zDm zDg
    by_cases c : i < en ∧ ¬ B i < 48 ∧ ¬ 57 < B i
    · rw [if_pos c, if_pos c]; exact ih _ _ _ (zVn_step c.2.1 c.2.2 h)
    · rw [if_neg c, if_neg c]; exact ⟨rfl, h⟩
/-- same number, or both beyond every limit on the same side -/
def zVal (v : Int32) (V : Int64) : Prop := V.toInt = v.toInt ∨ (100000000 ≤ V.toInt ∧ 100000000 ≤ v.toInt) ∨ (V.toInt ≤ -100000000 ∧ v.toInt ≤ -100000000)
theorem zVn_val {v : Int32} {V : Int64} (h : zVn v V) : zVal v V ∧ zVal (-v) (-V) := by
  obtain ⟨a, A, rfl, rfl, h1, h2, h3⟩ := h
  have e1 : (nI a).toInt = a := nI_toInt (by omega)
  have e2 : (lN A).toInt = A := pk_lT (by omega)
  have e3 : (-nI a).toInt = -(a : Int) := sb_negT (by omega)
  have e4 : (-lN A).toInt = -(A : Int) := by
    rw [Int64.toInt_neg, e2]
    exact Int.bmod_eq_of_le (by omega) (by omega)
  unfold zVal
  rw [e1, e2, e3, e4]
  omega
theorem zVal_lt {v lo : Int32} {V : Int64} (h : zVal v V) (h1 : -100000000 < lo.toInt) (h2 : lo.toInt < 100000000) : V < lo.toInt64 ↔ v < lo := by
  rw [Int64.lt_iff_toInt_lt, Int32.lt_iff_toInt_lt, Int32.toInt_toInt64]
  unfold zVal at h
  omega
theorem zVal_gt {v hi : Int32} {V : Int64} (h : zVal v V) (h1 : -100000000 < hi.toInt) (h2 : hi.toInt < 100000000) : hi.toInt64 < V ↔ hi < v := by
  rw [Int64.lt_iff_toInt_lt, Int32.lt_iff_toInt_lt, Int32.toInt_toInt64]
  unfold zVal at h
  omega
theorem zVal_eq {v lo hi : Int32} {V : Int64} (h : zVal v V) (h1 : -100000000 < lo.toInt) (h2 : hi.toInt < 100000000) (h3 : ¬ v < lo) (h4 : ¬ hi < v) : V.toInt32 = v := by
  rw [Int32.lt_iff_toInt_lt] at h3 h4
  unfold zVal at h
  have e : V.toInt = v.toInt := by omega
  have : V = v.toInt64 := Int64.toInt_inj.mp (by rw [Int32.toInt_toInt64]; exact e)
  rw [this]
  exact Int32.toInt32_toInt64 v
/-- the number's answer in the class's words -/
theorem zNum_ok {B : Nat → Int32} {en h : Nat} (hh : h ≤ en) (hd : zFd B en h < en ∧ ¬ B (zFd B en h) < 48 ∧ ¬ 57 < B (zFd B en h)) : ∃ v, zNum B en h = .ok (v, zK B en (zE1 B en (zFd B en h) 0).1) ∧ zVal v (if h < en ∧ B h = 45 then - (zE1 B en (zFd B en h) 0).2 else (zE1 B en (zFd B en h) 0).2) := by
  have q := zDm_zDg (B := B) (en := en) (en - zFd B en h) (zFd B en h) 0 0 ⟨0, 0, rfl, rfl, by omega, by omega, Or.inl rfl⟩
  have q1 : (zE1 B en (zFd B en h) 0).1 = (zD B en (zFd B en h) 0).1 := q.1
  have q2 : zVn (zD B en (zFd B en h) 0).2 (zE1 B en (zFd B en h) 0).2 := q.2
  have ne : ¬ (zD B en (zFd B en h) 0).1 = zFd B en h := by
    rw [zD_go hd.1 hd.2.1 hd.2.2]
    have := zD_in (B := B) (en := en) (i := zFd B en h + 1) (v := if (0 : Int32) < 100000000 then 0 * 10 + (B (zFd B en h) - 48) else 0) hd.1
    omega
  unfold zNum
  rw [if_neg ne, q1]
  refine ⟨_, rfl, ?_⟩
  by_cases c : h < en ∧ B h = 45
  · rw [if_pos c, if_pos c]; exact (zVn_val q2).2
  · rw [if_neg c, if_neg c]; exact (zVn_val q2).1
theorem zNum_no {B : Nat → Int32} {en h : Nat} (hd : ¬ (zFd B en h < en ∧ ¬ B (zFd B en h) < 48 ∧ ¬ 57 < B (zFd B en h))) : zNum B en h = .error (1, h) := by
  unfold zNum
  rw [zD_no hd, if_pos rfl]
