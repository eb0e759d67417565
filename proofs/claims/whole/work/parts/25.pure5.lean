/-! Where each part of a thing ends, and the lists of things. -/
theorem zNumP_in {B : Nat → Int32} {en : Nat} {mk : Int32} {wd : List Int32} {q : Nat} {lo hi : Int32} {s : Nat × (Nat → Int32)} {a : Int32 × Nat × (Nat → Int32)} (he : zNumP B en mk wd q lo hi s = .ok a) : a.2.1 ≤ en := by
  obtain ⟨h1, e1, e2⟩ := zB_okI he
  obtain ⟨v, e3, e4⟩ := zB_okI e2
  cases e4
  obtain ⟨v1, v2⟩ := v
  exact (zRNum_in (zName_in e1).2 e3).2
theorem zListP_in {B : Nat → Int32} {en : Nat} {mk : Int32} {wd : List Int32} {gr w3 : Bool} {le mo q : Nat} {lo hi : Int32} {s : Nat × (Nat → Int32)} {a : Nat × Nat × (Nat → Int32)} (he : zListP B en mk wd gr w3 le mo q lo hi s = .ok a) : a.2.1 ≤ en := by
  obtain ⟨h1, e1, e2⟩ := zB_okI he
  obtain ⟨a1, a2, a3⟩ := a
  exact (zList_in (zName_in e1).2 e2).2.1
theorem zLight_in {B : Nat → Int32} {en : Nat} {s t : Nat × (Nat → Int32)} (he : zLight B en s = .ok t) : t.1 ≤ en := by
  obtain ⟨a, e1, e2⟩ := zB_okI he
  obtain ⟨b, e3, e4⟩ := zB_okI e2
  obtain ⟨d, e5, e6⟩ := zB_okI e4
  cases e6
  exact (zMust_in e5).2
theorem zCamera_in {B : Nat → Int32} {en : Nat} {s t : Nat × (Nat → Int32)} (he : zCamera B en s = .ok t) : t.1 ≤ en := by
  obtain ⟨a, e1, e2⟩ := zB_okI he
  obtain ⟨b, e3, e4⟩ := zB_okI e2
  obtain ⟨d, e5, e6⟩ := zB_okI e4
  obtain ⟨f, e7, e8⟩ := zB_okI e6
  cases e8
  exact (zMust_in e7).2
theorem zMaterial_in {B : Nat → Int32} {en nt c : Nat} {s t : Nat × (Nat → Int32)} (he : zMaterial B en nt c s = .ok t) : t.1 ≤ en := by
  obtain ⟨a, e1, e2⟩ := zB_okI he
  obtain ⟨b, e3, e4⟩ := zB_okI e2
  obtain ⟨d, e5, e6⟩ := zB_okI e4
  cases e6
  exact zNumP_in e5
theorem zNode_in {B : Nat → Int32} {en nn nm c : Nat} {s t : Nat × (Nat → Int32)} (he : zNode B en nn nm c s = .ok t) : t.1 ≤ en := by
  obtain ⟨a, e1, e2⟩ := zB_okI he
  obtain ⟨b, e3, e4⟩ := zB_okI e2
  obtain ⟨d, e5, e6⟩ := zB_okI e4
  obtain ⟨f, e7, e8⟩ := zB_okI e6
  obtain ⟨g, e9, e10⟩ := zB_okI e8
  cases e10
  exact zListP_in e9
theorem zTexture_in {B : Nat → Int32} {en c : Nat} {s t : Nat × (Nat → Int32)} (he : zTexture B en c s = .ok t) : t.1 ≤ en := by
  obtain ⟨h1, e1, e2⟩ := zB_okI he
  obtain ⟨v, e3, e4⟩ := zB_okI e2
  split at e4
  · obtain ⟨a, e5, e6⟩ := zB_okI e4
    obtain ⟨b, e7, e8⟩ := zB_okI e6
    obtain ⟨d, e9, e10⟩ := zB_okI e8
    cases e10
    exact zListP_in e9
  · cases e4
theorem zMesh_in {B : Nat → Int32} {en nm c : Nat} {s t : Nat × (Nat → Int32)} (he : zMesh B en nm c s = .ok t) : t.1 ≤ en := by
  obtain ⟨a, e1, e2⟩ := zB_okI he
  obtain ⟨b, e3, e4⟩ := zB_okI e2
  obtain ⟨d, e5, e6⟩ := zB_okI e4
  obtain ⟨f, e7, e8⟩ := zB_okI e6
  obtain ⟨g, e9, e10⟩ := zB_okI e8
  cases e10
  exact zListP_in e9
theorem zTrack_in {B : Nat → Int32} {en nn c : Nat} {s t : Nat × (Nat → Int32)} (he : zTrack B en nn c s = .ok t) : t.1 ≤ en := by
  obtain ⟨a, e1, e2⟩ := zB_okI he
  obtain ⟨b, e3, e4⟩ := zB_okI e2
  obtain ⟨d, e5, e6⟩ := zB_okI e4
  obtain ⟨f, e7, e8⟩ := zB_okI e6
  obtain ⟨g, e9, e10⟩ := zB_okI e8
  cases e10
  exact zListP_in e9
/-- a thing of the kind ka at the cell c; cnt: how many there are of each kind, it counted -/
def zThing (B : Nat → Int32) (en ka : Nat) (cnt : Nat → Nat) (c : Nat) (s : Nat × (Nat → Int32)) : Except (Int32 × Nat) (Nat × (Nat → Int32)) :=
  if ka = 0 then zTexture B en c s else if ka = 1 then zMaterial B en (cnt 0) c s else if ka = 2 then zMesh B en (cnt 1) c s else if ka = 3 then zNode B en (cnt 3) (cnt 2) c s else zTrack B en (cnt 3) c s
/-- the things of the kind ka from the i-th on: how many, the place, the cells -/
def zThs (B : Nat → Int32) (en ka : Nat) (cnt : Nat → Nat) : Nat → Nat → Nat × (Nat → Int32) → Except (Int32 × Nat) (Nat × Nat × (Nat → Int32))
  | 0, i, s => .ok (i, s.1, s.2)
  | f + 1, i, s => if i = zM ka then .error (if s.1 < en ∧ B s.1 = 123 then 3 else 1, s.1) else
      zB (zThing B en ka (zuN cnt ka (i + 1)) (zST ka + i * zWD ka) s) fun t => zB (zMust B en 125 t.1) fun h2 =>
      if h2 < en ∧ B h2 = 44 then zThs B en ka cnt f (i + 1) (zK B en (h2 + 1), t.2) else .ok (i + 1, h2, t.2)
def zEnd (B : Nat → Int32) (en : Nat) (q : Nat × Nat × (Nat → Int32)) : Except (Int32 × Nat) (Nat × Nat × (Nat → Int32)) := zB (zMust B en 93 q.2.1) fun h3 => .ok (q.1, h3, q.2.2)
def zThings (B : Nat → Int32) (en ka : Nat) (cnt : Nat → Nat) (s : Nat × (Nat → Int32)) : Except (Int32 × Nat) (Nat × Nat × (Nat → Int32)) :=
  zB (zMust B en 91 s.1) fun h1 => zB (if h1 < en ∧ B h1 = 93 then .ok (0, h1, s.2) else zThs B en ka cnt (zM ka + 1) 0 (h1, s.2)) (zEnd B en)
theorem zThs_step {B : Nat → Int32} {en ka : Nat} {cnt : Nat → Nat} {i : Nat} {s : Nat × (Nat → Int32)} (hi : i ≤ zM ka) : zThs B en ka cnt (zM ka + 1 - i) i s =
    if i = zM ka then .error (if s.1 < en ∧ B s.1 = 123 then 3 else 1, s.1) else
      zB (zThing B en ka (zuN cnt ka (i + 1)) (zST ka + i * zWD ka) s) fun t => zB (zMust B en 125 t.1) fun h2 =>
      if h2 < en ∧ B h2 = 44 then zThs B en ka cnt (zM ka + 1 - (i + 1)) (i + 1) (zK B en (h2 + 1), t.2) else .ok (i + 1, h2, t.2) := by
  rw [show zM ka + 1 - i = (zM ka + 1 - (i + 1)) + 1 by omega]
  rfl
theorem zuN_zuN {f : Nat → Nat} {k x y : Nat} : zuN (zuN f k x) k y = zuN f k y := by
  funext j; unfold zuN; split <;> rfl
theorem zuN_id {f : Nat → Nat} {k x : Nat} (h : f k = x) : zuN f k x = f := by
  funext j; unfold zuN; split
  · rename_i e; rw [e, h]
  · rfl
theorem zcell {ka i : Nat} (hk : ka < 5) (hi : i < zM ka) : zST ka + i * zWD ka + zWD ka ≤ 52035 := by
  rcases (show ka = 0 ∨ ka = 1 ∨ ka = 2 ∨ ka = 3 ∨ ka = 4 by omega) with rfl | rfl | rfl | rfl | rfl
  · have h : i < 8 := hi
    show 11 + i * 3075 + 3075 ≤ 52035
    omega
  · have h : i < 16 := hi
    show 24611 + i * 6 + 6 ≤ 52035
    omega
  · have h : i < 16 := hi
    show 24707 + i * 1411 + 1411 ≤ 52035
    omega
  · have h : i < 48 := hi
    show 47283 + i * 11 + 11 ≤ 52035
    omega
  · have h : i < 32 := hi
    show 47811 + i * 132 + 132 ≤ 52035
    omega
