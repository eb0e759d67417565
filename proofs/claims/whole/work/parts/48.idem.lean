/-! Blanks are skipped once for all; a list's limits in the reference's words. -/
theorem zK_stop {B : Nat → Int32} {en : Nat} : ∀ (n x : Nat), en - x = n → ¬ (zK B en x < en ∧ (B (zK B en x) = 32 ∨ B (zK B en x) = 10 ∨ B (zK B en x) = 13 ∨ B (zK B en x) = 9)) := by
  intro n
  induction n with
  | zero =>
    intro x hx z
    rw [zK_no (fun q => absurd q.1 (by omega))] at z
    omega
  | succ n ih =>
    intro x hx
    by_cases c : x < en ∧ (B x = 32 ∨ B x = 10 ∨ B x = 13 ∨ B x = 9)
    · rw [zK_go c.1 c.2]; exact ih (x + 1) (by omega)
    · rw [zK_no c]; exact c
theorem zK_idem {B : Nat → Int32} {en x : Nat} : zK B en (zK B en x) = zK B en x := zK_no (zK_stop _ x rfl)
/-- the limit from below of a list's next number: the reference's three tests are the class's two -/
theorem zgrow {v low lw hi pv : Int32} {gr : Bool} {j : Nat} (h0 : j = 0 ∨ gr = false → lw = low) (h1 : ¬ j = 0 → gr = true → lw = pv + 1 ∧ ¬ pv < low ∧ ¬ hi < pv) (hh : hi.toInt < 100000000) (hl : -100000000 < low.toInt) :
    (v < lw ∨ hi < v) ↔ (v < low ∨ hi < v ∨ (gr = true ∧ ¬ j = 0 ∧ ¬ pv < v)) := by
  by_cases c : j = 0 ∨ gr = false
  · rw [h0 c]
    constructor
    · rintro (z | z)
      · exact Or.inl z
      · exact Or.inr (Or.inl z)
    · rintro (z | z | ⟨z1, z2, z3⟩)
      · exact Or.inl z
      · exact Or.inr z
      · rcases c with c | c
        · exact absurd c z2
        · rw [c] at z1; cases z1
  · have hj : ¬ j = 0 := fun z => c (Or.inl z)
    have hg : gr = true := by cases gr with
      | true => rfl
      | false => exact absurd (Or.inr rfl) c
    obtain ⟨e, p1, p2⟩ := h1 hj hg
    have k : (pv + 1).toInt = pv.toInt + 1 := by
      rw [Int32.lt_iff_toInt_lt] at p1 p2
      rw [Int32.toInt_add, show (1 : Int32).toInt = 1 by decide]
      exact Int.bmod_eq_of_le (by omega) (by omega)
    rw [Int32.lt_iff_toInt_lt] at p1 p2
    constructor
    · rintro (z | z)
      · rw [e, Int32.lt_iff_toInt_lt, k] at z
        refine Or.inr (Or.inr ⟨hg, hj, ?_⟩)
        rw [Int32.lt_iff_toInt_lt]; omega
      · exact Or.inr (Or.inl z)
    · rintro (z | z | ⟨-, -, z⟩)
      · refine Or.inl ?_
        rw [Int32.lt_iff_toInt_lt] at z
        rw [e, Int32.lt_iff_toInt_lt, k]; omega
      · exact Or.inr z
      · refine Or.inl ?_
        rw [Int32.lt_iff_toInt_lt] at z
        rw [e, Int32.lt_iff_toInt_lt, k]; omega
