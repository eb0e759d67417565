/-! More of the reader as mathematics. -/
theorem zB_okI {α β : Type} {x : Except (Int32 × Nat) α} {f : α → Except (Int32 × Nat) β} {b : β} (h : zB x f = .ok b) : ∃ a, x = .ok a ∧ f a = .ok b := by
  cases x with
  | ok a => exact ⟨a, rfl, h⟩
  | error q => cases h
theorem zName_in {B : Nat → Int32} {en h h2 : Nat} {mk : Int32} {wd : List Int32} (he : zName B en mk wd h = .ok h2) : h < h2 ∧ h2 ≤ en := by
  obtain ⟨h1, e1, e2⟩ := zB_okI he
  have a1 := zMust_in e1
  cases hw : zWord B en wd h1 with
  | none => rw [hw] at e2; cases e2
  | some h3 =>
    rw [hw] at e2
    have a2 := zWord_in hw
    have a3 := zMust_in e2
    omega
theorem zRNum_in {B : Nat → Int32} {en h h2 : Nat} {lo hi v : Int32} (hh : h ≤ en) (he : zRNum B en lo hi h = .ok (v, h2)) : h < h2 ∧ h2 ≤ en := by
  obtain ⟨q, e1, e2⟩ := zB_okI he
  split at e2
  · cases e2
  · cases e2; exact zNum_in hh e1
theorem zRNum_lim {B : Nat → Int32} {en h h2 : Nat} {lo hi v : Int32} (he : zRNum B en lo hi h = .ok (v, h2)) : ¬ v < lo ∧ ¬ hi < v := by
  obtain ⟨q, e1, e2⟩ := zB_okI he
  split at e2
  · cases e2
  · rename_i hc
    cases e2; exact ⟨fun z => hc (Or.inl z), fun z => hc (Or.inr z)⟩
/-- behind a list's numbers: how many there must be, and its ] -/
def zTail (B : Nat → Int32) (en : Nat) (w3 : Bool) (least : Nat) (q : Nat × Nat × (Nat → Int32)) : Except (Int32 × Nat) (Nat × Nat × (Nat → Int32)) :=
  if (q.1 < least ∨ (w3 = true ∧ ¬ q.1 % 3 = 0)) ∧ (q.2.1 < en ∧ B q.2.1 = 93) then .error (3, q.2.1) else
  zB (zMust B en 93 q.2.1) fun h3 => .ok (q.1, h3, q.2.2)
theorem zList_eq (B : Nat → Int32) (en : Nat) (gr w3 : Bool) (least most cell : Nat) (low hi : Int32) (h : Nat) (cel : Nat → Int32) : zList B en gr w3 least most cell low hi h cel =
  zB (zMust B en 91 h) fun h1 => zB (if h1 < en ∧ B h1 = 93 then .ok (0, h1, cel) else zLst B en gr most cell low hi (most + 1) 0 low h1 cel) (zTail B en w3 least) := rfl
theorem zLst_step {B : Nat → Int32} {en : Nat} {gr : Bool} {most cell : Nat} {low hi : Int32} {j : Nat} {lw : Int32} {h : Nat} {cel : Nat → Int32} (hj : j ≤ most) : zLst B en gr most cell low hi (most + 1 - j) j lw h cel =
    zB (zNum B en h) fun q => if j = most then .error (3, h) else if q.1 < lw ∨ hi < q.1 then .error (2, h) else
      if q.2 < en ∧ B q.2 = 44 then zLst B en gr most cell low hi (most + 1 - (j + 1)) (j + 1) (if gr = true then q.1 + 1 else low) (zK B en (q.2 + 1)) (upd cel (cell + j) q.1) else .ok (j + 1, q.2, upd cel (cell + j) q.1) := by
  rw [show most + 1 - j = (most + 1 - (j + 1)) + 1 by omega]
  rfl
