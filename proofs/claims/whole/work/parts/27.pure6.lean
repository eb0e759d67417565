/-! The whole text. -/
theorem zThings_in {B : Nat → Int32} {en ka : Nat} {cnt : Nat → Nat} {s : Nat × (Nat → Int32)} {a : Nat × Nat × (Nat → Int32)} (he : zThings B en ka cnt s = .ok a) : a.2.1 ≤ en := by
  obtain ⟨h1, e1, e2⟩ := zB_okI he
  obtain ⟨q, e3, e4⟩ := zB_okI e2
  obtain ⟨h3, e5, e6⟩ := zB_okI e4
  cases e6
  exact (zMust_in e5).2
theorem zC0_z {cnt : Nat → Nat} {j : Nat} (h : j < 5) : zC0 cnt j = 0 := by
  unfold zC0 zuN
  rcases (show j = 0 ∨ j = 1 ∨ j = 2 ∨ j = 3 ∨ j = 4 by omega) with rfl | rfl | rfl | rfl | rfl <;> rfl
def zPart (B : Nat → Int32) (en p : Nat) (cnt : Nat → Nat) (s : Nat × (Nat → Int32)) : Except (Int32 × Nat) ((Nat → Nat) × Nat × (Nat → Int32)) :=
  if p = 5 then zB (zCamera B en s) fun t => .ok (cnt, t.1, t.2) else if p = 6 then zB (zLight B en s) fun t => .ok (cnt, t.1, t.2) else
  zB (zThings B en p cnt s) fun t => .ok (zuN cnt p t.1, t.2.1, t.2.2)
/-- the parts from p on; fl: whether one must come -/
def zParts (B : Nat → Int32) (en : Nat) : Nat → Nat → Bool → (Nat → Nat) × Nat × (Nat → Int32) → Except (Int32 × Nat) (Bool × (Nat → Nat) × Nat × (Nat → Int32))
  | 0, _, fl, s => .ok (fl, s)
  | f + 1, p, fl, s => if fl = false then zParts B en f (p + 1) false s else match zWord B en (zSb (p + 1)) s.2.1 with
    | none => zParts B en f (p + 1) true s
    | some h1 => zB (zMust B en 58 h1) fun h2 => zB (zPart B en p s.1 (h2, s.2.2)) fun t =>
        if p < 6 ∧ (t.2.1 < en ∧ B t.2.1 = 44) then zParts B en f (p + 1) true (t.1, zK B en (t.2.1 + 1), t.2.2) else zParts B en f (p + 1) false t
theorem zParts_step {B : Nat → Int32} {en p : Nat} {fl : Bool} {s : (Nat → Nat) × Nat × (Nat → Int32)} (hp : p < 7) : zParts B en (7 - p) p fl s =
    if fl = false then zParts B en (7 - (p + 1)) (p + 1) false s else match zWord B en (zSb (p + 1)) s.2.1 with
    | none => zParts B en (7 - (p + 1)) (p + 1) true s
    | some h1 => zB (zMust B en 58 h1) fun h2 => zB (zPart B en p s.1 (h2, s.2.2)) fun t =>
        if p < 6 ∧ (t.2.1 < en ∧ B t.2.1 = 44) then zParts B en (7 - (p + 1)) (p + 1) true (t.1, zK B en (t.2.1 + 1), t.2.2) else zParts B en (7 - (p + 1)) (p + 1) false t := by
  rw [show 7 - p = (7 - (p + 1)) + 1 by omega]
  rfl
def zFin (B : Nat → Int32) (en : Nat) (q : Bool × (Nat → Nat) × Nat × (Nat → Int32)) : Except (Int32 × Nat) ((Nat → Nat) × (Nat → Int32)) :=
  if q.1 = true then .error (1, q.2.2.1) else zB (zMust B en 125 q.2.2.1) fun h2 => if en ≤ h2 then .ok (q.2.1, q.2.2.2) else .error (1, h2)
/-- a text of en bytes: the scene's counts and cells, or what is wrong and where -/
def zRead (B : Nat → Int32) (en : Nat) (cnt : Nat → Nat) (cel : Nat → Int32) : Except (Int32 × Nat) ((Nat → Nat) × (Nat → Int32)) :=
  zB (zMust B en 123 (zK B en 0)) fun h1 => zB (zParts B en 7 0 (if h1 < en ∧ B h1 = 125 then false else true) (cnt, h1, cel)) (zFin B en)
