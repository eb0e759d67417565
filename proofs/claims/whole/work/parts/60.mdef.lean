/-! The reference's things, parts and whole text as mathematics. -/
def mBody (B : Nat → Int32) (en ka : Nat) (cnt : Nat → Nat) (kk : Nat) (s : Nat × (Nat → Int32)) : Except (Int32 × Nat) (Nat × (Nat → Int32)) :=
  if ka = 0 then mTexture B en kk s else if ka = 1 then mMaterial B en kk (cnt 0) s else if ka = 2 then mMesh B en kk (cnt 1) s else if ka = 3 then mNode B en kk (cnt 2) s else mTrack B en kk (cnt 3) s
def mThing (B : Nat → Int32) (en ka : Nat) (cnt : Nat → Nat) (kk : Nat) (s : Nat × (Nat → Int32)) : Except (Int32 × Nat) (Nat × (Nat → Int32)) :=
  zB (zMust B en 123 s.1) fun h0 => zB (mBody B en ka cnt kk (h0, s.2)) fun t => zB (zMust B en 125 t.1) fun h2 => .ok (h2, t.2)
def mThs (B : Nat → Int32) (en ka : Nat) (cnt : Nat → Nat) : Nat → Nat → Nat × (Nat → Int32) → Except (Int32 × Nat) (Nat × Nat × (Nat → Int32))
  | 0, i, s => .ok (i, s.1, s.2)
  | f + 1, i, s => if (s.1 < en ∧ B s.1 = 123) ∧ i = zM ka then .error (3, s.1) else
      zB (mThing B en ka (zuN cnt ka i) i s) fun t =>
      if t.1 < en ∧ B t.1 = 44 then mThs B en ka cnt f (i + 1) (zK B en (t.1 + 1), upd t.2 ka (nI (i + 1))) else .ok (i + 1, t.1, upd t.2 ka (nI (i + 1)))
def mThings (B : Nat → Int32) (en ka : Nat) (cnt : Nat → Nat) (s : Nat × (Nat → Int32)) : Except (Int32 × Nat) (Nat × Nat × (Nat → Int32)) :=
  zB (zMust B en 91 s.1) fun h1 => zB (if h1 < en ∧ B h1 = 93 then .ok (0, h1, s.2) else mThs B en ka cnt (zM ka + 1) 0 (h1, s.2)) (zEnd B en)
theorem mThs_step {B : Nat → Int32} {en ka : Nat} {cnt : Nat → Nat} {i : Nat} {s : Nat × (Nat → Int32)} (hi : i ≤ zM ka) : mThs B en ka cnt (zM ka + 1 - i) i s =
    if (s.1 < en ∧ B s.1 = 123) ∧ i = zM ka then .error (3, s.1) else
      zB (mThing B en ka (zuN cnt ka i) i s) fun t =>
      if t.1 < en ∧ B t.1 = 44 then mThs B en ka cnt (zM ka + 1 - (i + 1)) (i + 1) (zK B en (t.1 + 1), upd t.2 ka (nI (i + 1))) else .ok (i + 1, t.1, upd t.2 ka (nI (i + 1))) := by
  rw [show zM ka + 1 - i = (zM ka + 1 - (i + 1)) + 1 by omega]
  rfl
def mPart (B : Nat → Int32) (en p : Nat) (cnt : Nat → Nat) (s : Nat × (Nat → Int32)) : Except (Int32 × Nat) ((Nat → Nat) × Nat × (Nat → Int32)) :=
  if p = 5 then zB (mCamera B en s) fun t => .ok (cnt, t.1, t.2) else if p = 6 then zB (mLight B en s) fun t => .ok (cnt, t.1, t.2) else
  zB (mThings B en p cnt s) fun t => .ok (zuN cnt p t.1, t.2.1, t.2.2)
def mFin (B : Nat → Int32) (en : Nat) (t : (Nat → Nat) × Nat × (Nat → Int32)) : Except (Int32 × Nat) (Nat → Int32) :=
  zB (zMust B en 125 t.2.1) fun h2 => if en ≤ h2 then .ok t.2.2 else .error (1, h2)
def mParts (B : Nat → Int32) (en : Nat) : Nat → Nat → (Nat → Nat) × Nat × (Nat → Int32) → Except (Int32 × Nat) (Nat → Int32)
  | 0, _, s => .error (1, s.2.1)
  | f + 1, p, s => match zWord B en (zSb (p + 1)) s.2.1 with
    | none => mParts B en f (p + 1) s
    | some h1 => zB (zMust B en 58 h1) fun h2 => zB (mPart B en p s.1 (h2, s.2.2)) fun t =>
        if p < 6 ∧ (t.2.1 < en ∧ B t.2.1 = 44) then mParts B en f (p + 1) (t.1, zK B en (t.2.1 + 1), t.2.2) else mFin B en t
theorem mParts_step {B : Nat → Int32} {en p : Nat} {s : (Nat → Nat) × Nat × (Nat → Int32)} (hp : p < 7) : mParts B en (7 - p) p s = match zWord B en (zSb (p + 1)) s.2.1 with
    | none => mParts B en (7 - (p + 1)) (p + 1) s
    | some h1 => zB (zMust B en 58 h1) fun h2 => zB (mPart B en p s.1 (h2, s.2.2)) fun t =>
        if p < 6 ∧ (t.2.1 < en ∧ B t.2.1 = 44) then mParts B en (7 - (p + 1)) (p + 1) (t.1, zK B en (t.2.1 + 1), t.2.2) else mFin B en t := by
  rw [show 7 - p = (7 - (p + 1)) + 1 by omega]
  rfl
/-- the reference's text from h on, over the cells nx -/
def mRd (B : Nat → Int32) (en : Nat) (cnt : Nat → Nat) (nx : Nat → Int32) (h : Nat) : Except (Int32 × Nat) (Nat → Int32) :=
  zB (zMust B en 123 h) fun h1 => if h1 < en ∧ B h1 = 125 then mFin B en (cnt, h1, nx) else mParts B en 7 0 (cnt, h1, nx)
/-- a text of en bytes, read by the reference over the cells nx: the cells, or what is wrong and where -/
def mRead (B : Nat → Int32) (en : Nat) (cnt : Nat → Nat) (nx : Nat → Int32) : Except (Int32 × Nat) (Nat → Int32) := mRd B en cnt nx (zK B en 0)
theorem zSim_thing {B : Nat → Int32} {en ka : Nat} {cnt : Nat → Nat} {k h : Nat} {cel nx : Nat → Int32} (hka : ka < 5) : zSim (fun a b => a.1 = b.1 ∧ zThR ka k cel nx a.2 b.2) (zThing B en ka (zuN cnt ka (k + 1)) (zST ka + k * zWD ka) (h, cel)) (zB (zMust B en 123 h) fun h0 => mBody B en ka (zuN cnt ka k) k (h0, nx)) := by
  rcases (show ka = 0 ∨ ka = 1 ∨ ka = 2 ∨ ka = 3 ∨ ka = 4 by omega) with rfl | rfl | rfl | rfl | rfl
  · exact zSim_texture B en k h cel nx
  · exact zSim_material B en (cnt 0) k h cel nx
  · exact zSim_mesh B en (cnt 1) k h cel nx
  · exact zSim_node B en (cnt 2) k h cel nx
  · exact zSim_track B en (cnt 3) k h cel nx
/-- a thing's cells alone count -/
theorem zTh_keep {ka k : Nat} {cel nx cel' nx' : Nat → Int32} (hka : ka < 5) (h : zTh ka k cel nx) (h1 : ∀ q, zST ka + k * zWD ka ≤ q → q < zST ka + k * zWD ka + zWD ka → cel' q = cel q) (h2 : ∀ q, zMS ka + zMW ka * k ≤ q → q < zMS ka + zMW ka * k + zMW ka → nx' q = nx q) : zTh ka k cel' nx' := by
  rcases (show ka = 0 ∨ ka = 1 ∨ ka = 2 ∨ ka = 3 ∨ ka = 4 by omega) with rfl | rfl | rfl | rfl | rfl
  · obtain ⟨g0, sd, g1, g2, g3⟩ := h
    have hq := zsq g1
    change ∀ q, 11 + k * 3075 ≤ q → q < 11 + k * 3075 + 3075 → cel' q = cel q at h1
    change ∀ q, 8 + 3080 * k ≤ q → q < 8 + 3080 * k + 3080 → nx' q = nx q at h2
    refine ⟨fun j hj => ?_, sd, g1, ?_, fun j hj => ?_⟩
    · change j < 3 at hj
      exact (h2 (8 + 3080 * k + j) (by omega) (by omega)).trans ((g0 j hj).trans (h1 (11 + k * 3075 + j) (by omega) (by omega)).symm)
    · exact (h1 _ (by omega) (by omega)).trans g2
    · exact (h2 _ (by omega) (by omega)).trans ((g3 j hj).trans (h1 _ (by omega) (by omega)).symm)
  · obtain ⟨g0, -⟩ := h
    change ∀ q, 24611 + k * 6 ≤ q → q < 24611 + k * 6 + 6 → cel' q = cel q at h1
    change ∀ q, 24648 + 8 * k ≤ q → q < 24648 + 8 * k + 8 → nx' q = nx q at h2
    refine ⟨fun j hj => ?_, trivial⟩
    change j < 6 at hj
    exact (h2 (24648 + 8 * k + j) (by omega) (by omega)).trans ((g0 j hj).trans (h1 (24611 + k * 6 + j) (by omega) (by omega)).symm)
  · obtain ⟨g0, np, nf, g1, g2, g3, g4, g5, g6, g7, g8⟩ := h
    change ∀ q, 24707 + k * 1411 ≤ q → q < 24707 + k * 1411 + 1411 → cel' q = cel q at h1
    change ∀ q, 24776 + 1440 * k ≤ q → q < 24776 + 1440 * k + 1440 → nx' q = nx q at h2
    refine ⟨fun j hj => ?_, np, nf, g1, g2, ?_, ?_, fun j hj => ?_, fun j hj => ?_, fun j hj => ?_, fun j hj => ?_⟩
    · change j < 3 at hj
      exact (h2 (24776 + 1440 * k + j) (by omega) (by omega)).trans ((g0 j hj).trans (h1 (24707 + k * 1411 + j) (by omega) (by omega)).symm)
    · exact (h1 _ (by omega) (by omega)).trans g3
    · exact (h1 _ (by omega) (by omega)).trans g4
    · exact (h2 _ (by omega) (by omega)).trans ((g5 j hj).trans (h1 _ (by omega) (by omega)).symm)
    · exact (h2 _ (by omega) (by omega)).trans ((g6 j hj).trans (h1 _ (by omega) (by omega)).symm)
    · exact (h2 _ (by omega) (by omega)).trans ((g7 j hj).trans (h1 _ (by omega) (by omega)).symm)
    · exact (h2 _ (by omega) (by omega)).trans ((g8 j hj).trans (h1 _ (by omega) (by omega)).symm)
  · obtain ⟨g0, -⟩ := h
    change ∀ q, 47283 + k * 11 ≤ q → q < 47283 + k * 11 + 11 → cel' q = cel q at h1
    change ∀ q, 47816 + 11 * k ≤ q → q < 47816 + 11 * k + 11 → nx' q = nx q at h2
    refine ⟨fun j hj => ?_, trivial⟩
    change j < 11 at hj
    exact (h2 (47816 + 11 * k + j) (by omega) (by omega)).trans ((g0 j hj).trans (h1 (47283 + k * 11 + j) (by omega) (by omega)).symm)
  · obtain ⟨g0, nk, g1, g2, g3, g4⟩ := h
    change ∀ q, 47811 + k * 132 ≤ q → q < 47811 + k * 132 + 132 → cel' q = cel q at h1
    change ∀ q, 48344 + 134 * k ≤ q → q < 48344 + 134 * k + 134 → nx' q = nx q at h2
    refine ⟨fun j hj => ?_, nk, g1, ?_, fun j hj => ?_, fun j hj => ?_⟩
    · change j < 4 at hj
      exact (h2 (48344 + 134 * k + j) (by omega) (by omega)).trans ((g0 j hj).trans (h1 (47811 + k * 132 + j) (by omega) (by omega)).symm)
    · exact (h1 _ (by omega) (by omega)).trans g2
    · exact (h2 _ (by omega) (by omega)).trans ((g3 j hj).trans (h1 _ (by omega) (by omega)).symm)
    · exact (h2 _ (by omega) (by omega)).trans ((g4 j hj).trans (h1 _ (by omega) (by omega)).symm)
/-- two things don't share a cell -/
theorem zapart {a b i k : Nat} (ha : a < 5) (hb : b < 5) (hi : i < zM a) (hk : k < zM b) (hn : ¬ (a = b ∧ i = k)) : (zST a + i * zWD a + zWD a ≤ zST b + k * zWD b ∨ zST b + k * zWD b + zWD b ≤ zST a + i * zWD a) ∧ (zMS a + zMW a * i + zMW a ≤ zMS b + zMW b * k ∨ zMS b + zMW b * k + zMW b ≤ zMS a + zMW a * i) := by
  rcases (show a = 0 ∨ a = 1 ∨ a = 2 ∨ a = 3 ∨ a = 4 by omega) with rfl | rfl | rfl | rfl | rfl <;> rcases (show b = 0 ∨ b = 1 ∨ b = 2 ∨ b = 3 ∨ b = 4 by omega) with rfl | rfl | rfl | rfl | rfl <;> simp only [zM, zST, zWD, zMS, zMW] at hi hk ⊢ <;> omega
theorem zMbound {a i : Nat} (ha : a < 5) (hi : i < zM a) : 8 ≤ zMS a + zMW a * i ∧ zMS a + zMW a * i + zMW a ≤ 52632 ∧ 11 ≤ zST a + i * zWD a := by
  rcases (show a = 0 ∨ a = 1 ∨ a = 2 ∨ a = 3 ∨ a = 4 by omega) with rfl | rfl | rfl | rfl | rfl <;> simp only [zM, zST, zWD, zMS, zMW] at hi ⊢ <;> omega
/-- the scene is the same on both sides -/
def zGood (cnt : Nat → Nat) (cel nx : Nat → Int32) : Prop := (∀ j, j < 5 → cnt j ≤ zM j) ∧ (∀ j, j < 5 → nx j = nI (cnt j)) ∧ zEq cel nx 0 52632 11 ∧ ∀ ka k, ka < 5 → k < cnt ka → zTh ka k cel nx
theorem zGood_step {ka i : Nat} {cnt : Nat → Nat} {cel nx cel' nx' : Nat → Int32} (hka : ka < 5) (hi : i < zM ka) (g : zGood (zuN cnt ka i) cel nx) (r : zThR ka i cel nx cel' nx') : zGood (zuN cnt ka (i + 1)) cel' (upd nx' ka (nI (i + 1))) := by
  obtain ⟨g1, g2, g3, g4⟩ := g
  obtain ⟨r1, r2, r3⟩ := r
  have hb := zMbound hka hi
  refine ⟨fun j hj => ?_, fun j hj => ?_, fun j hj => ?_, fun kb k hkb hk => ?_⟩
  · by_cases e : j = ka
    · rw [e, zuN_s]; omega
    · have := g1 j hj
      rw [zuN_n e] at this
      rw [zuN_n e]; exact this
  · by_cases e : j = ka
    · rw [e, zuN_s, pk_us]
    · have := g2 j hj
      rw [zuN_n e] at this
      rw [zuN_n e, pk_un e, r2 j (by omega)]; exact this
  · rw [pk_un (by omega), r2 _ (by omega), r1 _ (by omega)]; exact g3 j hj
  · by_cases e : kb = ka
    · subst e
      rw [zuN_s] at hk
      by_cases e2 : k = i
      · subst e2
        exact zTh_keep hkb r3 (fun q _ _ => rfl) (fun q h1 h2 => pk_un (by omega))
      · have hk2 : k < zM kb := by omega
        have hb2 := zMbound hkb hk2
        have ap := zapart hkb hkb hi hk2 (by omega)
        refine zTh_keep hkb (g4 kb k hkb (by rw [zuN_s]; omega)) (fun q h1 h2 => r1 q (by omega)) (fun q h1 h2 => ?_)
        rw [pk_un (by omega), r2 q (by omega)]
    · rw [zuN_n e] at hk
      have hm := g1 kb hkb
      rw [zuN_n e] at hm
      have hk2 : k < zM kb := by omega
      have hb2 := zMbound hkb hk2
      have ap := zapart hka hkb hi hk2 (by omega)
      refine zTh_keep hkb (g4 kb k hkb (by rw [zuN_n e]; exact hk)) (fun q h1 h2 => r1 q (by omega)) (fun q h1 h2 => ?_)
      rw [pk_un (by omega), r2 q (by omega)]
theorem zSim_ths {B : Nat → Int32} {en ka : Nat} {cnt : Nat → Nat} (hka : ka < 5) : ∀ (f i h : Nat) (cel nx : Nat → Int32), i + f = zM ka + 1 → zGood (zuN cnt ka i) cel nx → zSim (fun a b => a.1 = b.1 ∧ a.2.1 = b.2.1 ∧ zGood (zuN cnt ka a.1) a.2.2 b.2.2) (zThs B en ka cnt f i (h, cel)) (mThs B en ka cnt f i (h, nx)) := by
  intro f
  induction f with
  | zero => intro i h cel nx hf g; exact zSim_ok ⟨rfl, rfl, g⟩
  | succ f ih =>
    intro i h cel nx hf g
    simp only [zThs, mThs]
    by_cases e : i = zM ka
    · rw [if_pos e]
      by_cases b : h < en ∧ B h = 123
      · rw [if_pos b, if_pos ⟨b, e⟩]; exact zSim_er
      · rw [if_neg b, if_neg (fun z => b z.1)]
        simp only [mThing, zMust]
        rw [if_neg b]
        exact zSim_er
    · rw [if_neg e, if_neg (fun z => e z.2)]
      simp only [mThing]
      rw [← zB_as (zMust B en 123 h), zB_as (zB (zMust B en 123 h) _)]
      refine zSim_t (zSim_thing hka) fun a b _ _ r => ?_
      obtain ⟨a1, a2⟩ := a
      obtain ⟨b1, b2⟩ := b
      obtain ⟨rfl, r⟩ := r
      simp only [zB_as, zB_ok]
      refine zSim_b fun h2 _ => ?_
      have g' := zGood_step hka (by omega) g r
      split
      · exact ih _ _ _ _ (by omega) g'
      · exact zSim_ok ⟨rfl, rfl, g'⟩
theorem zSim_things {B : Nat → Int32} {en ka : Nat} {cnt : Nat → Nat} {h : Nat} {cel nx : Nat → Int32} (hka : ka < 5) (h0 : cnt ka = 0) (g : zGood cnt cel nx) : zSim (fun a b => a.1 = b.1 ∧ a.2.1 = b.2.1 ∧ zGood (zuN cnt ka a.1) a.2.2 b.2.2) (zThings B en ka cnt (h, cel)) (mThings B en ka cnt (h, nx)) := by
  have g0 : zGood (zuN cnt ka 0) cel nx := by rw [zuN_id h0]; exact g
  unfold zThings mThings
  refine zSim_b fun h1 _ => ?_
  have hs : zSim (fun a b => a.1 = b.1 ∧ a.2.1 = b.2.1 ∧ zGood (zuN cnt ka a.1) a.2.2 b.2.2) (if h1 < en ∧ B h1 = 93 then .ok (0, h1, cel) else zThs B en ka cnt (zM ka + 1) 0 (h1, cel)) (if h1 < en ∧ B h1 = 93 then .ok (0, h1, nx) else mThs B en ka cnt (zM ka + 1) 0 (h1, nx)) := by
    split
    · exact zSim_ok ⟨rfl, rfl, g0⟩
    · exact zSim_ths hka _ _ _ _ _ (by omega) g0
  refine zSim_t hs fun a b _ _ r => ?_
  obtain ⟨a1, a2, a3⟩ := a
  obtain ⟨b1, b2, b3⟩ := b
  obtain ⟨rfl, rfl, r⟩ := r
  simp only [zEnd]
  exact zSim_b fun h3 _ => zSim_ok ⟨rfl, rfl, r⟩
theorem zGood_view {cnt : Nat → Nat} {cel nx cel' nx' : Nat → Int32} (g : zGood cnt cel nx) (h1 : ∀ q, 11 ≤ q → cel' q = cel q) (h2 : ∀ q, q < 52632 → nx' q = nx q) (h3 : zEq cel' nx' 0 52632 11) : zGood cnt cel' nx' := by
  obtain ⟨g1, g2, g3, g4⟩ := g
  refine ⟨g1, fun j hj => (h2 j (by omega)).trans (g2 j hj), h3, fun ka k hka hk => ?_⟩
  have hb := zMbound hka (Nat.lt_of_lt_of_le hk (g1 ka hka))
  exact zTh_keep hka (g4 ka k hka hk) (fun q a1 a2 => h1 q (by omega)) (fun q a1 a2 => h2 q (by omega))
theorem zSim_light {B : Nat → Int32} {en : Nat} {cnt : Nat → Nat} {h : Nat} {cel nx : Nat → Int32} (g : zGood cnt cel nx) : zSim (fun a b => a.1 = b.1 ∧ zGood cnt a.2 b.2) (zLight B en (h, cel)) (mLight B en (h, nx)) := by
  simp only [zLight, mLight, zNumP_eq, zListP_eq, mNumK_eq, mListK_eq, zB_as, zB_ok, zpos1]
  refine zSim_b fun h1 _ => zSim_b fun r hr => zSim_b fun h2 _ => zSim_b fun a _ => zSim_b fun h3 _ => zSim_ok ⟨rfl, ?_⟩
  dsimp only
  have i1 := zKL_in hr
  rw [show r.1 = 3 by omega]
  refine zGood_view g (fun q hq => ?_) (fun q hq => ?_) (fun j hj => ?_)
  · rw [pk_un (by omega), zOv_out (by omega)]
  · rw [pk_un (by omega), zOv_out (by omega)]
  · by_cases c : j = 10
    · subst c; rw [pk_us]; exact pk_us.symm
    · rw [pk_un (by omega), pk_un (by omega)]
      by_cases d : 7 ≤ j
      · rw [show 52632 + j = 52639 + (j - 7) by omega, show 0 + j = 7 + (j - 7) by omega, zOv_in (by omega), zOv_in (by omega)]
      · rw [zOv_out (by omega), zOv_out (by omega)]; exact g.2.2.1 j hj
theorem zSim_camera {B : Nat → Int32} {en : Nat} {cnt : Nat → Nat} {h : Nat} {cel nx : Nat → Int32} (g : zGood cnt cel nx) : zSim (fun a b => a.1 = b.1 ∧ zGood cnt a.2 b.2) (zCamera B en (h, cel)) (mCamera B en (h, nx)) := by
  simp only [zCamera, mCamera, zNumP_eq, zListP_eq, mNumK_eq, mListK_eq, zB_as, zB_ok, zpos2, zpos3]
  refine zSim_b fun h1 _ => zSim_b fun r hr => zSim_b fun h2 _ => zSim_b fun r2 hr2 => zSim_b fun h3 _ => zSim_b fun a _ => zSim_b fun h4 _ => zSim_ok ⟨rfl, ?_⟩
  dsimp only
  have i1 := zKL_in hr
  have i2 := zKL_in hr2
  rw [show r.1 = 3 by omega, show r2.1 = 3 by omega]
  refine zGood_view g (fun q hq => ?_) (fun q hq => ?_) (fun j hj => ?_)
  · rw [pk_un (by omega), zOv_out (by omega), zOv_out (by omega)]
  · rw [pk_un (by omega), zOv_out (by omega), zOv_out (by omega)]
  · by_cases c : j = 6
    · subst c; rw [pk_us]; exact pk_us.symm
    · rw [pk_un (by omega), pk_un (by omega)]
      by_cases d : 3 ≤ j ∧ j < 6
      · rw [show 52632 + j = 52635 + (j - 3) by omega, show 0 + j = 3 + (j - 3) by omega, zOv_in (by omega), zOv_in (by omega)]
      · rw [zOv_out (by omega), zOv_out (c := 0 + j) (by omega)]
        by_cases d2 : j < 3
        · rw [zOv_in d2, zOv_in d2]
        · rw [zOv_out (by omega), zOv_out (by omega)]; exact g.2.2.1 j hj
theorem zSim_part {B : Nat → Int32} {en p : Nat} {cnt : Nat → Nat} {h : Nat} {cel nx : Nat → Int32} (hp : p < 7) (h0 : ∀ j, p ≤ j → j < 5 → cnt j = 0) (g : zGood cnt cel nx) : zSim (fun a b => a.1 = b.1 ∧ a.2.1 = b.2.1 ∧ zGood a.1 a.2.2 b.2.2 ∧ ∀ j, p + 1 ≤ j → j < 5 → a.1 j = 0) (zPart B en p cnt (h, cel)) (mPart B en p cnt (h, nx)) := by
  unfold zPart mPart
  split
  · refine zSim_t (zSim_camera g) fun a b _ _ r => zSim_ok ⟨rfl, r.1, r.2, fun j h1 h2 => ?_⟩
    omega
  · split
    · refine zSim_t (zSim_light g) fun a b _ _ r => zSim_ok ⟨rfl, r.1, r.2, fun j h1 h2 => ?_⟩
      omega
    · refine zSim_t (zSim_things (by omega) (h0 p (by omega) (by omega)) g) fun a b _ _ r => ?_
      obtain ⟨a1, a2, a3⟩ := a
      obtain ⟨b1, b2, b3⟩ := b
      obtain ⟨rfl, rfl, r⟩ := r
      refine zSim_ok ⟨rfl, rfl, r, fun j h1 h2 => ?_⟩
      dsimp only
      rw [zuN_n (by omega)]; exact h0 j (by omega) h2
theorem zParts_f {B : Nat → Int32} {en : Nat} {s : (Nat → Nat) × Nat × (Nat → Int32)} : ∀ (f p : Nat), zParts B en f p false s = .ok (false, s) := by
  intro f
  induction f with
  | zero => intro p; rfl
  | succ f ih => intro p; simp only [zParts, if_true]; exact ih _
theorem zSim_fin {B : Nat → Int32} {en : Nat} {cnt : Nat → Nat} {h : Nat} {cel nx : Nat → Int32} (g : zGood cnt cel nx) : zSim (fun a b => zGood a.1 a.2 b) (zFin B en (false, cnt, h, cel)) (mFin B en (cnt, h, nx)) := by
  unfold zFin mFin
  dsimp only
  rw [if_neg (by decide)]
  refine zSim_b fun h2 _ => ?_
  split
  · exact zSim_ok g
  · exact zSim_er
theorem zSim_parts {B : Nat → Int32} {en : Nat} : ∀ (f p : Nat) (cnt : Nat → Nat) (h : Nat) (cel nx : Nat → Int32), p + f = 7 → (∀ j, p ≤ j → j < 5 → cnt j = 0) → zGood cnt cel nx → zSim (fun a b => zGood a.1 a.2 b) (zB (zParts B en f p true (cnt, h, cel)) (zFin B en)) (mParts B en f p (cnt, h, nx)) := by
  intro f
  induction f with
  | zero => intro p cnt h cel nx hp h0 g; exact zSim_er
  | succ f ih =>
    intro p cnt h cel nx hp h0 g
    simp only [zParts, mParts]
    rw [if_neg (by decide)]
    cases hw : zWord B en (zSb (p + 1)) h with
    | none => exact ih _ _ _ _ _ (by omega) (fun j a b => h0 j (by omega) b) g
    | some h1 =>
      simp only [zB_as]
      refine zSim_b fun h2 _ => zSim_t (zSim_part (by omega) h0 g) fun a b _ _ r => ?_
      obtain ⟨a1, a2, a3⟩ := a
      obtain ⟨b1, b2, b3⟩ := b
      obtain ⟨rfl, rfl, r, r0⟩ := r
      dsimp only
      split
      · exact ih _ _ _ _ _ (by omega) r0 r
      · rw [zParts_f, zB_ok]; exact zSim_fin r
/-- both sides read a text alike -/
theorem zSim_read {B : Nat → Int32} {en : Nat} {cnt : Nat → Nat} {cel nx : Nat → Int32} (h0 : ∀ j, j < 5 → cnt j = 0) (g : zGood cnt cel nx) : zSim (fun a b => zGood a.1 a.2 b) (zRead B en cnt cel) (mRead B en cnt nx) := by
  unfold zRead mRead mRd
  refine zSim_b fun h1 _ => ?_
  split
  · rw [zParts_f, zB_ok]; exact zSim_fin g
  · exact zSim_parts 7 0 _ _ _ _ rfl (fun j _ b => h0 j b) g
theorem zMust_b {B : Nat → Int32} {en : Nat} {mk : Int32} {h h2 : Nat} (he : zMust B en mk h = .ok h2) : h < en ∧ B h = mk := by
  unfold zMust at he
  split at he
  · assumption
  · cases he
theorem mThing_b {B : Nat → Int32} {en ka : Nat} {cnt : Nat → Nat} {kk h : Nat} {nx : Nat → Int32} {t : Nat × (Nat → Int32)} (he : mThing B en ka cnt kk (h, nx) = .ok t) : h < en ∧ B h = 123 := by
  obtain ⟨h0, e1, e2⟩ := zB_okI he
  exact zMust_b e1
theorem zMS8 (ka : Nat) : 8 ≤ zMS ka := by unfold zMS; split <;> decide
theorem mThing_lo {B : Nat → Int32} {en ka : Nat} {cnt : Nat → Nat} {i h h2 : Nat} {nx nx' : Nat → Int32} (hka : ka < 5) (he : mThing B en ka (zuN cnt ka i) i (h, nx) = .ok (h2, nx')) : ∀ q, q < 8 → nx' q = nx q := by
  intro q hq
  obtain ⟨h0, e1, e2⟩ := zB_okI he
  obtain ⟨u, e3, e4⟩ := zB_okI e2
  obtain ⟨h3, e5, e6⟩ := zB_okI e4
  cases e6
  have hs := zSim_thing (B := B) (en := en) (cnt := cnt) (k := i) (h := h) (cel := nx) (nx := nx) hka
  dsimp only at e1 e3
  rw [e1, zB_ok, e3] at hs
  rcases hs with ⟨q, _, e⟩ | ⟨a, b, _, eb, r⟩
  · cases e
  · cases eb
    have := zMS8 ka
    exact r.2.2.1 q (by omega)
theorem zcn_step {cnt : Nat → Nat} {ka i x : Nat} {nx nx' : Nat → Int32} (h : ∀ j, j < 5 → nx j = nI (zuN cnt ka i j)) (h2 : ∀ q, q < 8 → nx' q = nx q) : ∀ j, j < 5 → upd nx' ka (nI x) j = nI (zuN cnt ka x j) := by
  intro j hj
  by_cases e : j = ka
  · rw [e, pk_us, zuN_s]
  · rw [pk_un e, zuN_n e, h2 j (by omega), h j hj, zuN_n e]
theorem zuN_le {cnt : Nat → Nat} {ka i : Nat} (hi : i ≤ zM ka) (h : ∀ j, j < 5 → cnt j ≤ zM j) : ∀ j, j < 5 → zuN cnt ka i j ≤ zM j := by
  intro j hj
  by_cases e : j = ka
  · rw [e, zuN_s]; exact hi
  · rw [zuN_n e]; exact h j hj
theorem mLight_lo {B : Nat → Int32} {en : Nat} {s t : Nat × (Nat → Int32)} (he : mLight B en s = .ok t) : ∀ q, q < 52632 → t.2 q = s.2 q := by
  intro q hq
  simp only [mLight, mNumK_eq, mListK_eq, zB_as, zB_ok] at he
  obtain ⟨_, _, he⟩ := zB_okI he
  obtain ⟨_, _, he⟩ := zB_okI he
  obtain ⟨_, _, he⟩ := zB_okI he
  obtain ⟨_, _, he⟩ := zB_okI he
  obtain ⟨_, _, he⟩ := zB_okI he
  cases he
  dsimp only
  rw [pk_un (by omega), zOv_out (by omega)]
theorem mCamera_lo {B : Nat → Int32} {en : Nat} {s t : Nat × (Nat → Int32)} (he : mCamera B en s = .ok t) : ∀ q, q < 52632 → t.2 q = s.2 q := by
  intro q hq
  simp only [mCamera, mNumK_eq, mListK_eq, zB_as, zB_ok] at he
  obtain ⟨_, _, he⟩ := zB_okI he
  obtain ⟨_, _, he⟩ := zB_okI he
  obtain ⟨_, _, he⟩ := zB_okI he
  obtain ⟨_, _, he⟩ := zB_okI he
  obtain ⟨_, _, he⟩ := zB_okI he
  obtain ⟨_, _, he⟩ := zB_okI he
  obtain ⟨_, _, he⟩ := zB_okI he
  cases he
  dsimp only
  rw [pk_un (by omega), zOv_out (by omega), zOv_out (by omega)]
theorem zKey_w {B : Nat → Int32} {en : Nat} {wd : List Int32} {h h1 : Nat} (hw : zWord B en wd h = some h1) : zKey B en wd h = zMust B en 58 h1 := by
  unfold zKey; rw [hw]
theorem mParts_go {B : Nat → Int32} {en p h h1 : Nat} {cn : Nat → Nat} {nx : Nat → Int32} (hp : p < 7) (hw : zWord B en (zSb (p + 1)) h = some h1) : mParts B en (7 - p) p (cn, h, nx) = zB (zB (zKey B en (zSb (p + 1)) h) fun h2 => mPart B en p cn (h2, nx)) fun t =>
    if p < 6 ∧ (t.2.1 < en ∧ B t.2.1 = 44) then mParts B en (7 - (p + 1)) (p + 1) (t.1, zK B en (t.2.1 + 1), t.2.2) else mFin B en t := by
  rw [mParts_step hp, zKey_w hw]
  dsimp only
  rw [hw]
  dsimp only
  rw [zB_as]
theorem mParts_no {B : Nat → Int32} {en p h : Nat} {cn : Nat → Nat} {nx : Nat → Int32} (hp : p < 7) (hw : zWord B en (zSb (p + 1)) h = none) : mParts B en (7 - p) p (cn, h, nx) = mParts B en (7 - (p + 1)) (p + 1) (cn, h, nx) := by
  rw [mParts_step hp]
  dsimp only
  rw [hw]
theorem mParts_7 {B : Nat → Int32} {en p h : Nat} {cn : Nat → Nat} {nx : Nat → Int32} (hp : p = 7) : mParts B en (7 - p) p (cn, h, nx) = .error (1, h) := by
  subst hp; rfl
/-- the first n cells nothing -/
def zZ (nx : Nat → Int32) (n : Nat) : Nat → Int32 := fun j => if j < n then 0 else nx j
theorem zZ_0 {nx : Nat → Int32} : zZ nx 0 = nx := by funext j; exact if_neg (by omega)
theorem zZ_upd {nx : Nat → Int32} {i : Nat} : upd (zZ nx i) i 0 = zZ nx (i + 1) := by
  funext j
  simp only [upd, zZ]
  by_cases e : j = i
  · rw [if_pos e, if_pos (by omega)]
  · rw [if_neg e]
    by_cases d : j < i
    · rw [if_pos d, if_pos (by omega)]
    · rw [if_neg d, if_neg (by omega)]
/-- the reference's cells of an empty scene -/
def zN (nx : Nat → Int32) : Nat → Int32 := upd (upd (upd (zZ nx 52650) 52638 32) 52641 (-65536)) 52642 16384
theorem zN_0 {nx : Nat → Int32} {j : Nat} (h : j < 52638) : zN nx j = 0 := by
  unfold zN; rw [pk_un (by omega), pk_un (by omega), pk_un (by omega)]; exact if_pos (by omega)
theorem zN_good {cnt : Nat → Nat} {cel nx : Nat → Int32} (h0 : ∀ j, j < 5 → cnt j = 0) : zGood cnt (zV0 cel) (zN nx) := by
  refine ⟨fun j hj => by rw [h0 j hj]; omega, fun j hj => by rw [h0 j hj, zN_0 (by omega)]; rfl, fun j hj => ?_, fun ka k hka hk => by rw [h0 ka hka] at hk; omega⟩
  rcases (show j = 0 ∨ j = 1 ∨ j = 2 ∨ j = 3 ∨ j = 4 ∨ j = 5 ∨ j = 6 ∨ j = 7 ∨ j = 8 ∨ j = 9 ∨ j = 10 by omega) with rfl | rfl | rfl | rfl | rfl | rfl | rfl | rfl | rfl | rfl | rfl <;> rfl
