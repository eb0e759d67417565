/-! The class's reader as mathematics: bytes B, the text's end en, places h. -/
def zSk (B : Nat → Int32) (en : Nat) : Nat → Nat → Nat
  | 0, i => i
  | n + 1, i => if i < en ∧ (B i = 32 ∨ B i = 10 ∨ B i = 13 ∨ B i = 9) then zSk B en n (i + 1) else i
/-- the first place from i on that is no blank, or the end -/
def zK (B : Nat → Int32) (en i : Nat) : Nat := zSk B en (en - i) i
theorem zK_go {B : Nat → Int32} {en i : Nat} (h : i < en) (hb : B i = 32 ∨ B i = 10 ∨ B i = 13 ∨ B i = 9) : zK B en i = zK B en (i + 1) := by
  unfold zK
  rw [show en - i = (en - (i + 1)) + 1 by omega]
  show (if i < en ∧ (B i = 32 ∨ B i = 10 ∨ B i = 13 ∨ B i = 9) then zSk B en (en - (i + 1)) (i + 1) else i) = _
  rw [if_pos ⟨h, hb⟩]
theorem zK_no {B : Nat → Int32} {en i : Nat} (h : ¬ (i < en ∧ (B i = 32 ∨ B i = 10 ∨ B i = 13 ∨ B i = 9))) : zK B en i = i := by
  unfold zK
  cases hn : en - i with
  | zero => rfl
  | succ n =>
    show (if i < en ∧ (B i = 32 ∨ B i = 10 ∨ B i = 13 ∨ B i = 9) then zSk B en n (i + 1) else i) = _
    rw [if_neg h]
theorem zSk_in {B : Nat → Int32} {en : Nat} : ∀ (n i : Nat), i ≤ en → i ≤ zSk B en n i ∧ zSk B en n i ≤ en := by
  intro n
  induction n with
  | zero => intro i h; exact ⟨Nat.le_refl _, h⟩
  | succ n ih =>
    intro i h
    show i ≤ (if i < en ∧ (B i = 32 ∨ B i = 10 ∨ B i = 13 ∨ B i = 9) then zSk B en n (i + 1) else i) ∧ (if i < en ∧ (B i = 32 ∨ B i = 10 ∨ B i = 13 ∨ B i = 9) then zSk B en n (i + 1) else i) ≤ en
    split
    · rename_i hc
      have := ih (i + 1) hc.1
      omega
    · exact ⟨Nat.le_refl _, h⟩
theorem zK_le {B : Nat → Int32} {en i : Nat} (h : i ≤ en) : zK B en i ≤ en := (zSk_in _ _ h).2
theorem zK_ge {B : Nat → Int32} {en i : Nat} (h : i ≤ en) : i ≤ zK B en i := (zSk_in _ _ h).1
/-- one thing after another, up to the first wrong one -/
def zB {α β : Type} (x : Except (Int32 × Nat) α) (f : α → Except (Int32 × Nat) β) : Except (Int32 × Nat) β := match x with
  | .ok a => f a
  | .error q => .error q
theorem zB_ok {α β : Type} {a : α} {f : α → Except (Int32 × Nat) β} : zB (.ok a) f = f a := rfl
theorem zB_er {α β : Type} {q : Int32 × Nat} {f : α → Except (Int32 × Nat) β} : zB (.error q) f = .error q := rfl
/-- the mark mk is taken, and the blanks behind it -/
def zMust (B : Nat → Int32) (en : Nat) (mk : Int32) (h : Nat) : Except (Int32 × Nat) Nat := if h < en ∧ B h = mk then .ok (zK B en (h + 1)) else .error (1, h)
/-- the word wd in quotes is taken -/
def zWord (B : Nat → Int32) (en : Nat) (wd : List Int32) (h : Nat) : Option Nat :=
  if h + 1 + wd.length < en ∧ B h = 34 ∧ B (h + 1 + wd.length) = 34 ∧ (∀ i, i < wd.length → B (h + 1 + i) = wd.getD i 0) then some (zK B en (h + 1 + wd.length + 1)) else none
/-- digits from i on; v: the number so far -/
def zDg (B : Nat → Int32) (en : Nat) : Nat → Nat → Int32 → Nat × Int32
  | 0, i, v => (i, v)
  | n + 1, i, v => if i < en ∧ ¬ B i < 48 ∧ ¬ 57 < B i then zDg B en n (i + 1) (if v < 100000000 then v * 10 + (B i - 48) else v) else (i, v)
def zD (B : Nat → Int32) (en i : Nat) (v : Int32) : Nat × Int32 := zDg B en (en - i) i v
theorem zD_go {B : Nat → Int32} {en i : Nat} {v : Int32} (h : i < en) (h1 : ¬ B i < 48) (h2 : ¬ 57 < B i) : zD B en i v = zD B en (i + 1) (if v < 100000000 then v * 10 + (B i - 48) else v) := by
  unfold zD
  rw [show en - i = (en - (i + 1)) + 1 by omega]
  show (if i < en ∧ ¬ B i < 48 ∧ ¬ 57 < B i then zDg B en (en - (i + 1)) (i + 1) (if v < 100000000 then v * 10 + (B i - 48) else v) else (i, v)) = _
  rw [if_pos ⟨h, h1, h2⟩]
theorem zD_no {B : Nat → Int32} {en i : Nat} {v : Int32} (h : ¬ (i < en ∧ ¬ B i < 48 ∧ ¬ 57 < B i)) : zD B en i v = (i, v) := by
  unfold zD
  cases hn : en - i with
  | zero => rfl
  | succ n =>
    show (if i < en ∧ ¬ B i < 48 ∧ ¬ 57 < B i then zDg B en n (i + 1) (if v < 100000000 then v * 10 + (B i - 48) else v) else (i, v)) = _
    rw [if_neg h]
theorem zDg_in {B : Nat → Int32} {en : Nat} : ∀ (n i : Nat) (v : Int32), i ≤ en → i ≤ (zDg B en n i v).1 ∧ (zDg B en n i v).1 ≤ en := by
  intro n
  induction n with
  | zero => intro i v h; exact ⟨Nat.le_refl _, h⟩
  | succ n ih =>
    intro i v h
    show i ≤ (if i < en ∧ ¬ B i < 48 ∧ ¬ 57 < B i then zDg B en n (i + 1) (if v < 100000000 then v * 10 + (B i - 48) else v) else (i, v)).1 ∧ (if i < en ∧ ¬ B i < 48 ∧ ¬ 57 < B i then zDg B en n (i + 1) (if v < 100000000 then v * 10 + (B i - 48) else v) else (i, v)).1 ≤ en
    split
    · rename_i hc
      have := ih (i + 1) (if v < 100000000 then v * 10 + (B i - 48) else v) hc.1
      omega
    · exact ⟨Nat.le_refl _, h⟩
/-- where a number's digits begin -/
def zFd (B : Nat → Int32) (en h : Nat) : Nat := if h < en ∧ B h = 45 then h + 1 else h
/-- a number: its value and the place behind it and its blanks -/
def zNum (B : Nat → Int32) (en h : Nat) : Except (Int32 × Nat) (Int32 × Nat) :=
  if (zD B en (zFd B en h) 0).1 = zFd B en h then .error (1, h) else .ok (if h < en ∧ B h = 45 then - (zD B en (zFd B en h) 0).2 else (zD B en (zFd B en h) 0).2, zK B en (zD B en (zFd B en h) 0).1)
theorem zFd_in {B : Nat → Int32} {en h : Nat} (hh : h ≤ en) : h ≤ zFd B en h ∧ zFd B en h ≤ en ∧ zFd B en h ≤ h + 1 := by
  unfold zFd
  split
  · rename_i hc
    omega
  · omega
theorem zD_in {B : Nat → Int32} {en i : Nat} {v : Int32} (h : i ≤ en) : i ≤ (zD B en i v).1 ∧ (zD B en i v).1 ≤ en := zDg_in _ _ _ h
theorem zNum_in {B : Nat → Int32} {en h : Nat} (hh : h ≤ en) {v : Int32} {h2 : Nat} (he : zNum B en h = .ok (v, h2)) : h < h2 ∧ h2 ≤ en := by
  unfold zNum at he
  split at he
  · cases he
  · rename_i hc
    have f := zFd_in (B := B) hh
    have d := zD_in (B := B) (v := 0) f.2.1
    cases he
    have k1 := zK_ge (B := B) d.2
    have k2 := zK_le (B := B) d.2
    omega
theorem zNum_er {B : Nat → Int32} {en h : Nat} {q : Int32 × Nat} (he : zNum B en h = .error q) : q = (1, h) := by
  unfold zNum at he
  split at he
  · cases he; rfl
  · cases he
theorem zMust_in {B : Nat → Int32} {en h h2 : Nat} {mk : Int32} (he : zMust B en mk h = .ok h2) : h < h2 ∧ h2 ≤ en := by
  unfold zMust at he
  split at he
  · rename_i hc
    cases he
    have k1 := zK_ge (B := B) (show h + 1 ≤ en from hc.1)
    have k2 := zK_le (B := B) (show h + 1 ≤ en from hc.1)
    omega
  · cases he
theorem zWord_in {B : Nat → Int32} {en h h2 : Nat} {wd : List Int32} (he : zWord B en wd h = some h2) : h < h2 ∧ h2 ≤ en := by
  unfold zWord at he
  split at he
  · rename_i hc
    cases he
    have k1 := zK_ge (B := B) (show h + 1 + wd.length + 1 ≤ en from hc.1)
    have k2 := zK_le (B := B) (show h + 1 + wd.length + 1 ≤ en from hc.1)
    omega
  · cases he
/-- a part's name with the mark before it -/
def zName (B : Nat → Int32) (en : Nat) (mk : Int32) (wd : List Int32) (h : Nat) : Except (Int32 × Nat) Nat :=
  zB (zMust B en mk h) fun h1 => match zWord B en wd h1 with
    | none => .error (1, h1)
    | some h2 => zMust B en 58 h2
/-- a number within lo .. hi -/
def zRNum (B : Nat → Int32) (en : Nat) (lo hi : Int32) (h : Nat) : Except (Int32 × Nat) (Int32 × Nat) :=
  zB (zNum B en h) fun q => if q.1 < lo ∨ hi < q.1 then .error (2, h) else .ok q
/-- a list's numbers from the n-th on (k: how many may come yet, and one): how many, the place, the cells -/
def zLst (B : Nat → Int32) (en : Nat) (gr : Bool) (most cell : Nat) (low hi : Int32) : Nat → Nat → Int32 → Nat → (Nat → Int32) → Except (Int32 × Nat) (Nat × Nat × (Nat → Int32))
  | 0, n, _, h, cel => .ok (n, h, cel)
  | k + 1, n, lw, h, cel => zB (zNum B en h) fun q =>
      if n = most then .error (3, h) else
      if q.1 < lw ∨ hi < q.1 then .error (2, h) else
      if q.2 < en ∧ B q.2 = 44 then zLst B en gr most cell low hi k (n + 1) (if gr = true then q.1 + 1 else low) (zK B en (q.2 + 1)) (upd cel (cell + n) q.1)
      else .ok (n + 1, q.2, upd cel (cell + n) q.1)
/-- a list of numbers: gr: they grow; w3: whole threes -/
def zList (B : Nat → Int32) (en : Nat) (gr w3 : Bool) (least most cell : Nat) (low hi : Int32) (h : Nat) (cel : Nat → Int32) : Except (Int32 × Nat) (Nat × Nat × (Nat → Int32)) :=
  zB (zMust B en 91 h) fun h1 =>
  zB (if h1 < en ∧ B h1 = 93 then .ok (0, h1, cel) else zLst B en gr most cell low hi (most + 1) 0 low h1 cel) fun q =>
  if (q.1 < least ∨ (w3 = true ∧ ¬ q.1 % 3 = 0)) ∧ (q.2.1 < en ∧ B q.2.1 = 93) then .error (3, q.2.1) else
  zB (zMust B en 93 q.2.1) fun h3 => .ok (q.1, h3, q.2.2)
