/-! Both sides read the same numbers: what they read, and the cells it goes to, apart. -/
theorem zB_as {α β γ : Type} (x : Except (Int32 × Nat) α) (f : α → Except (Int32 × Nat) β) (g : β → Except (Int32 × Nat) γ) : zB (zB x f) g = zB x fun a => zB (f a) g := by cases x <;> rfl
/-- the cells cel with n numbers vs laid over them from q on -/
def zOv (cel : Nat → Int32) (q n : Nat) (vs : Nat → Int32) : Nat → Int32 := fun c => if q ≤ c ∧ c < q + n then vs (c - q) else cel c
theorem zOv_in {cel vs : Nat → Int32} {q n j : Nat} (h : j < n) : zOv cel q n vs (q + j) = vs j := by
  unfold zOv; rw [if_pos (by omega), show q + j - q = j by omega]
theorem zOv_out {cel vs : Nat → Int32} {q n c : Nat} (h : c < q ∨ q + n ≤ c) : zOv cel q n vs c = cel c := by
  unfold zOv; rw [if_neg (by omega)]
theorem zOv_0 {cel vs : Nat → Int32} {q : Nat} : zOv cel q 0 vs = cel := by
  funext c; exact zOv_out (by omega)
theorem zOv_upd {cel vs : Nat → Int32} {q n : Nat} {v : Int32} : upd (zOv cel q n vs) (q + n) v = zOv cel q (n + 1) (upd vs (0 + n) v) := by
  funext c
  simp only [upd, zOv]
  by_cases e : c = q + n
  · rw [if_pos e, if_pos (by omega), if_pos (by omega)]
  · rw [if_neg e]
    by_cases i : q ≤ c ∧ c < q + n
    · rw [if_pos i, if_pos (by omega), if_neg (by omega)]
    · rw [if_neg i, if_neg (by omega)]
theorem zLst_ov {B : Nat → Int32} {en : Nat} {gr : Bool} {mo q : Nat} {low hi : Int32} {cel : Nat → Int32} : ∀ (k n : Nat) (lw : Int32) (h : Nat) (vs : Nat → Int32), zLst B en gr mo q low hi k n lw h (zOv cel q n vs) = zB (zLst B en gr mo 0 low hi k n lw h vs) fun r => .ok (r.1, r.2.1, zOv cel q r.1 r.2.2) := by
  intro k
  induction k with
  | zero => intro n lw h vs; rfl
  | succ k ih =>
    intro n lw h vs
    simp only [zLst, zB_as]
    congr 1
    funext v
    split
    · rfl
    · split
      · rfl
      · split
        · rw [zOv_upd, ih]
        · rw [zOv_upd]; rfl
theorem zTail_ov {B : Nat → Int32} {en : Nat} {w3 : Bool} {le : Nat} {cel : Nat → Int32} {q : Nat} (r : Nat × Nat × (Nat → Int32)) : zTail B en w3 le (r.1, r.2.1, zOv cel q r.1 r.2.2) = zB (zTail B en w3 le r) fun r => .ok (r.1, r.2.1, zOv cel q r.1 r.2.2) := by
  unfold zTail
  split
  · rfl
  · rw [zB_as]; rfl
theorem zList_ov {B : Nat → Int32} {en : Nat} {gr w3 : Bool} {le mo q : Nat} {low hi : Int32} {h : Nat} {cel : Nat → Int32} : zList B en gr w3 le mo q low hi h cel = zB (zList B en gr w3 le mo 0 low hi h (fun _ => 0)) fun r => .ok (r.1, r.2.1, zOv cel q r.1 r.2.2) := by
  rw [zList_eq, zList_eq, zB_as]
  congr 1
  funext h1
  rw [zB_as]
  split
  · rw [zB_ok, zB_ok, ← zTail_ov, zOv_0]
  · have e := zLst_ov (B := B) (en := en) (gr := gr) (mo := mo) (q := q) (low := low) (hi := hi) (cel := cel) (mo + 1) 0 low h1 (fun _ => 0)
    rw [zOv_0] at e
    rw [e, zB_as]
    congr 1
    funext r
    rw [zB_ok, zTail_ov]
/-- a word and the list, or the number, behind it -/
def zKL (B : Nat → Int32) (en : Nat) (wd : List Int32) (gr w3 : Bool) (le mo : Nat) (lo hi : Int32) (h : Nat) : Except (Int32 × Nat) (Nat × Nat × (Nat → Int32)) := zB (zKey B en wd h) fun h1 => zList B en gr w3 le mo 0 lo hi h1 (fun _ => 0)
def zKN (B : Nat → Int32) (en : Nat) (wd : List Int32) (lo hi : Int32) (h : Nat) : Except (Int32 × Nat) (Int32 × Nat) := zB (zKey B en wd h) (zRNum B en lo hi)
theorem zKL_in {B : Nat → Int32} {en : Nat} {wd : List Int32} {gr w3 : Bool} {le mo : Nat} {lo hi : Int32} {h : Nat} {r : Nat × Nat × (Nat → Int32)} (he : zKL B en wd gr w3 le mo lo hi h = .ok r) : le ≤ r.1 ∧ r.1 ≤ mo ∧ (w3 = true → r.1 % 3 = 0) := zLK_in (show (zB (zKey B en wd h) fun h1 => zList B en gr w3 le mo 0 lo hi h1 (fun _ => 0)) = .ok (r.1, r.2.1, r.2.2) from he)
theorem zKN_lim {B : Nat → Int32} {en : Nat} {wd : List Int32} {lo hi : Int32} {h : Nat} {v : Int32 × Nat} (he : zKN B en wd lo hi h = .ok v) : ¬ v.1 < lo ∧ ¬ hi < v.1 := by
  obtain ⟨h1, e1, e2⟩ := zB_okI he
  exact zRNum_lim (h2 := v.2) e2
theorem mListK_eq {B : Nat → Int32} {en : Nat} {wd : List Int32} {gr w3 : Bool} {le mo q : Nat} {lo hi : Int32} {s : Nat × (Nat → Int32)} : mListK B en wd gr w3 le mo q lo hi s = zB (zKL B en wd gr w3 le mo lo hi s.1) fun r => .ok (r.1, r.2.1, zOv s.2 q r.1 r.2.2) := by
  unfold mListK zKL
  rw [zB_as]
  congr 1
  funext h1
  exact zList_ov
theorem mNumK_eq {B : Nat → Int32} {en : Nat} {wd : List Int32} {q : Nat} {lo hi : Int32} {s : Nat × (Nat → Int32)} : mNumK B en wd q lo hi s = zB (zKN B en wd lo hi s.1) fun v => .ok (v.1, v.2, upd s.2 q v.1) := rfl
theorem zListP_eq {B : Nat → Int32} {en : Nat} {mk : Int32} {wd : List Int32} {gr w3 : Bool} {le mo q : Nat} {lo hi : Int32} {s : Nat × (Nat → Int32)} : zListP B en mk wd gr w3 le mo q lo hi s = zB (zMust B en mk s.1) fun h => zB (zKL B en wd gr w3 le mo lo hi h) fun r => .ok (r.1, r.2.1, zOv s.2 q r.1 r.2.2) := by
  unfold zListP zKL
  rw [zName_key, zB_as]
  congr 1
  funext h1
  rw [zB_as]
  congr 1
  funext h2
  exact zList_ov
theorem zNumP_eq {B : Nat → Int32} {en : Nat} {mk : Int32} {wd : List Int32} {q : Nat} {lo hi : Int32} {s : Nat × (Nat → Int32)} : zNumP B en mk wd q lo hi s = zB (zMust B en mk s.1) fun h => zB (zKN B en wd lo hi h) fun v => .ok (v.1, v.2, upd s.2 q v.1) := by
  unfold zNumP zKN
  rw [zName_key, zB_as]
  congr 1
  funext h1
  rw [zB_as]
/-- both wrong alike, or both right and R -/
def zSim {α β : Type} (R : α → β → Prop) (x : Except (Int32 × Nat) α) (y : Except (Int32 × Nat) β) : Prop := (∃ q, x = .error q ∧ y = .error q) ∨ ∃ a b, x = .ok a ∧ y = .ok b ∧ R a b
theorem zSim_ok {α β : Type} {R : α → β → Prop} {a : α} {b : β} (h : R a b) : zSim R (.ok a) (.ok b) := Or.inr ⟨a, b, rfl, rfl, h⟩
theorem zSim_er {α β : Type} {R : α → β → Prop} {q : Int32 × Nat} : zSim R (.error q : Except (Int32 × Nat) α) (.error q : Except (Int32 × Nat) β) := Or.inl ⟨q, rfl, rfl⟩
theorem zSim_b {α β γ : Type} {R : β → γ → Prop} {x : Except (Int32 × Nat) α} {f : α → Except (Int32 × Nat) β} {g : α → Except (Int32 × Nat) γ} (h : ∀ a, x = .ok a → zSim R (f a) (g a)) : zSim R (zB x f) (zB x g) := by
  cases x with
  | ok a => exact h a rfl
  | error q => exact zSim_er
theorem zSim_t {α β γ δ : Type} {R : α → β → Prop} {S : γ → δ → Prop} {x : Except (Int32 × Nat) α} {y : Except (Int32 × Nat) β} {f : α → Except (Int32 × Nat) γ} {g : β → Except (Int32 × Nat) δ} (h : zSim R x y) (k : ∀ a b, x = .ok a → y = .ok b → R a b → zSim S (f a) (g b)) : zSim S (zB x f) (zB y g) := by
  rcases h with ⟨q, e1, e2⟩ | ⟨a, b, e1, e2, r⟩
  · rw [e1, e2]; exact zSim_er
  · rw [e1, e2]; exact k a b e1 e2 r
/-- where the reference's things begin, and how many cells each has -/
def zMS : Nat → Nat := fun k => match k with
  | 0 => 8 | 1 => 24648 | 2 => 24776 | 3 => 47816 | _ => 48344
def zMW : Nat → Nat := fun k => match k with
  | 0 => 3080 | 1 => 8 | 2 => 1440 | 3 => 11 | _ => 134
/-- n numbers from a on of the one are those from b on of the other -/
def zEq (cel nx : Nat → Int32) (a b n : Nat) : Prop := ∀ j, j < n → nx (b + j) = cel (a + j)
/-- the lists of a thing -/
def zLs (ka k : Nat) (cel nx : Nat → Int32) : Prop :=
  if ka = 0 then ∃ sd, sd ≤ 32 ∧ cel (11 + k * 3075) = nI sd ∧ zEq cel nx (11 + k * 3075 + 3) (8 + 3080 * k + 8) (3 * sd * sd)
  else if ka = 2 then ∃ np nf, np ≤ 128 ∧ nf ≤ 128 ∧ cel (24707 + k * 1411 + 1) = nI np ∧ cel (24707 + k * 1411 + 2) = nI nf ∧ zEq cel nx (24707 + k * 1411 + 3) (24776 + 1440 * k + 16) (3 * np) ∧ zEq cel nx (24707 + k * 1411 + 387) (24776 + 1440 * k + 400) (3 * np) ∧ zEq cel nx (24707 + k * 1411 + 771) (24776 + 1440 * k + 784) (2 * np) ∧ zEq cel nx (24707 + k * 1411 + 1027) (24776 + 1440 * k + 1040) (3 * nf)
  else if ka = 4 then ∃ nk, nk ≤ 32 ∧ cel (47811 + k * 132 + 3) = nI nk ∧ zEq cel nx (47811 + k * 132 + 4) (48344 + 134 * k + 4) nk ∧ zEq cel nx (47811 + k * 132 + 36) (48344 + 134 * k + 36) (3 * nk)
  else True
/-- the k-th thing of the kind ka is the same on both sides -/
def zTh (ka k : Nat) (cel nx : Nat → Int32) : Prop := zEq cel nx (zST ka + k * zWD ka) (zMS ka + zMW ka * k) (zFT ka) ∧ zLs ka k cel nx
/-- what a thing read leaves: the cells outside it as they were, it itself the same on both sides -/
def zThR (ka k : Nat) (cel nx cel' nx' : Nat → Int32) : Prop := (∀ q, (q < zST ka + k * zWD ka ∨ zST ka + k * zWD ka + zWD ka ≤ q) → cel' q = cel q) ∧ (∀ q, (q < zMS ka + zMW ka * k ∨ zMS ka + zMW ka * k + zMW ka ≤ q) → nx' q = nx q) ∧ zTh ka k cel' nx'
theorem zpos1 : nI 65536 = 65536 := by decide
theorem zpos2 : nI 1048576 = 1048576 := by decide
theorem zpos3 : nI 4194304 = 4194304 := by decide
theorem zsub2 (k : Nat) : nI (k + 1) - 2 = nI k - 1 := by
  rw [← nI_add]
  show nI k + 1 - (1 + 1) = nI k - 1
  rw [Int32.sub_eq_add_neg, Int32.sub_eq_add_neg, Int32.add_assoc]
  congr 1
/-- a read through laid cells -/
theorem zgo1 {f : Nat → Int32} {k c : Nat} {x : Int32} (h : c ≠ k) : upd f k x c = f c := if_neg h
theorem zSim_texture (B : Nat → Int32) (en k h : Nat) (cel nx : Nat → Int32) : zSim (fun a b => a.1 = b.1 ∧ zThR 0 k cel nx a.2 b.2) (zTexture B en (11 + k * 3075) (h, cel)) (zB (zMust B en 123 h) fun h0 => mTexture B en k (h0, nx)) := by
  simp only [zTexture, mTexture, zNumP_eq, zListP_eq, mNumK_eq, mListK_eq, zName_key, zB_as, zB_ok]
  refine zSim_b fun h1 _ => zSim_b fun h2 _ => zSim_b fun v hv => ?_
  have hl := zRNum_lim (h2 := v.2) hv
  obtain ⟨sd, hs1, hs2, es⟩ := zside hl.1 hl.2
  split
  · refine zSim_b fun h3 _ => zSim_b fun a _ => zSim_b fun h4 _ => zSim_b fun b _ => zSim_b fun h5 _ => zSim_b fun r hr => zSim_ok ⟨rfl, ?_⟩
    dsimp only
    have hi := zKL_in hr
    rw [es, nI_clamp (by omega)] at hi
    have hq := zsq hs2
    have hn : r.1 = 3 * sd * sd := by omega
    generalize hm : 3 * sd * sd = m at hn hq
    rw [hn, es]
    refine ⟨fun q hq => ?_, fun q hq => ?_, fun j hj => ?_, ?_⟩
    · change q < 11 + k * 3075 ∨ 11 + k * 3075 + 3075 ≤ q at hq
      rw [zOv_out (by omega), pk_un (by omega), pk_un (by omega), pk_un (by omega)]
    · change q < 8 + 3080 * k ∨ 8 + 3080 * k + 3080 ≤ q at hq
      rw [zOv_out (by omega), pk_un (by omega), pk_un (by omega), pk_un (by omega)]
    · change j < 3 at hj
      show _ = zOv _ _ _ _ (11 + k * 3075 + j)
      show zOv _ _ _ _ (8 + 3080 * k + j) = _
      rw [zOv_out (by omega), zOv_out (by omega)]
      rcases (show j = 0 ∨ j = 1 ∨ j = 2 by omega) with rfl | rfl | rfl
      · simp only [Nat.add_zero]; rw [pk_un (by omega), pk_un (by omega), pk_us, pk_un (by omega), pk_un (by omega), pk_us]
      · rw [pk_un (by omega), pk_us, pk_un (by omega), pk_us]
      · rw [pk_us, pk_us]
    · refine ⟨sd, hs2, ?_, fun j hj => ?_⟩
      · rw [zOv_out (by omega), pk_un (by omega), pk_un (by omega), pk_us]
      · rw [hm] at hj
        rw [zOv_in hj, zOv_in hj]
  · exact zSim_er
theorem zSim_material (B : Nat → Int32) (en nt k h : Nat) (cel nx : Nat → Int32) : zSim (fun a b => a.1 = b.1 ∧ zThR 1 k cel nx a.2 b.2) (zMaterial B en nt (24611 + k * 6) (h, cel)) (zB (zMust B en 123 h) fun h0 => mMaterial B en k nt (h0, nx)) := by
  simp only [zMaterial, mMaterial, zNumP_eq, zListP_eq, mNumK_eq, mListK_eq, zB_as, zB_ok]
  refine zSim_b fun h1 _ => zSim_b fun r hr => zSim_b fun h3 _ => zSim_b fun a _ => zSim_b fun h4 _ => zSim_b fun b _ => zSim_ok ⟨rfl, ?_⟩
  dsimp only
  have hi := zKL_in hr
  have hn : r.1 = 4 := by omega
  rw [hn]
  refine ⟨fun q hq => ?_, fun q hq => ?_, fun j hj => ?_, trivial⟩
  · change q < 24611 + k * 6 ∨ 24611 + k * 6 + 6 ≤ q at hq
    rw [pk_un (by omega), pk_un (by omega), zOv_out (by omega)]
  · change q < 24648 + 8 * k ∨ 24648 + 8 * k + 8 ≤ q at hq
    rw [pk_un (by omega), pk_un (by omega), zOv_out (by omega)]
  · change j < 6 at hj
    show _ = upd _ _ _ (24611 + k * 6 + j)
    show upd _ _ _ (24648 + 8 * k + j) = _
    by_cases c : j < 4
    · rw [pk_un (by omega), pk_un (by omega), pk_un (by omega), pk_un (by omega), zOv_in c, zOv_in c]
    · rcases (show j = 4 ∨ j = 5 by omega) with rfl | rfl
      · rw [pk_un (by omega), pk_us, pk_un (by omega), pk_us]
      · rw [pk_us, pk_us]
theorem zSim_node (B : Nat → Int32) (en nm k h : Nat) (cel nx : Nat → Int32) : zSim (fun a b => a.1 = b.1 ∧ zThR 3 k cel nx a.2 b.2) (zNode B en (k + 1) nm (47283 + k * 11) (h, cel)) (zB (zMust B en 123 h) fun h0 => mNode B en k nm (h0, nx)) := by
  simp only [zNode, mNode, zNumP_eq, zListP_eq, mNumK_eq, mListK_eq, zB_as, zB_ok, zpos2, zpos3, zsub2]
  refine zSim_b fun h1 _ => zSim_b fun a _ => zSim_b fun h2 _ => zSim_b fun b _ => zSim_b fun h3 _ => zSim_b fun r1 g1 => zSim_b fun h4 _ => zSim_b fun r2 g2 => zSim_b fun h5 _ => zSim_b fun r3 g3 => zSim_ok ⟨rfl, ?_⟩
  dsimp only
  have i1 := zKL_in g1
  have i2 := zKL_in g2
  have i3 := zKL_in g3
  rw [show r1.1 = 3 by omega, show r2.1 = 3 by omega, show r3.1 = 3 by omega]
  refine ⟨fun q hq => ?_, fun q hq => ?_, fun j hj => ?_, trivial⟩
  · change q < 47283 + k * 11 ∨ 47283 + k * 11 + 11 ≤ q at hq
    rw [zOv_out (by omega), zOv_out (by omega), zOv_out (by omega), pk_un (by omega), pk_un (by omega)]
  · change q < 47816 + 11 * k ∨ 47816 + 11 * k + 11 ≤ q at hq
    rw [zOv_out (by omega), zOv_out (by omega), zOv_out (by omega), pk_un (by omega), pk_un (by omega)]
  · change j < 11 at hj
    show _ = zOv _ _ _ _ (47283 + k * 11 + j)
    show zOv _ _ _ _ (47816 + 11 * k + j) = _
    by_cases c3 : 8 ≤ j
    · rw [show 47816 + 11 * k + j = 47816 + 11 * k + 8 + (j - 8) by omega, show 47283 + k * 11 + j = 47283 + k * 11 + 8 + (j - 8) by omega, zOv_in (by omega), zOv_in (by omega)]
    · rw [zOv_out (by omega), zOv_out (c := 47283 + k * 11 + j) (by omega)]
      by_cases c2 : 5 ≤ j
      · rw [show 47816 + 11 * k + j = 47816 + 11 * k + 5 + (j - 5) by omega, show 47283 + k * 11 + j = 47283 + k * 11 + 5 + (j - 5) by omega, zOv_in (by omega), zOv_in (by omega)]
      · rw [zOv_out (by omega), zOv_out (c := 47283 + k * 11 + j) (by omega)]
        by_cases c1 : 2 ≤ j
        · rw [show 47816 + 11 * k + j = 47816 + 11 * k + 2 + (j - 2) by omega, show 47283 + k * 11 + j = 47283 + k * 11 + 2 + (j - 2) by omega, zOv_in (by omega), zOv_in (by omega)]
        · rw [zOv_out (by omega), zOv_out (c := 47283 + k * 11 + j) (by omega)]
          rcases (show j = 0 ∨ j = 1 by omega) with rfl | rfl
          · simp only [Nat.add_zero]; rw [pk_un (by omega), pk_us, pk_un (by omega), pk_us]
          · rw [pk_us, pk_us]
theorem zSim_mesh (B : Nat → Int32) (en nm k h : Nat) (cel nx : Nat → Int32) : zSim (fun a b => a.1 = b.1 ∧ zThR 2 k cel nx a.2 b.2) (zMesh B en nm (24707 + k * 1411) (h, cel)) (zB (zMust B en 123 h) fun h0 => mMesh B en k nm (h0, nx)) := by
  simp only [zMesh, mMesh, zNumP_eq, zListP_eq, mNumK_eq, mListK_eq, zB_as, zB_ok]
  refine zSim_b fun h1 _ => zSim_b fun a _ => zSim_b fun h2 _ => zSim_b fun r1 g1 => zSim_b fun h3 _ => zSim_b fun r2 g2 => zSim_b fun h4 _ => zSim_b fun r3 g3 => zSim_b fun h5 _ => zSim_b fun r4 g4 => zSim_ok ⟨rfl, ?_⟩
  dsimp only
  have i1 := zKL_in g1
  have i2 := zKL_in g2
  have i3 := zKL_in g3
  have i4 := zKL_in g4
  have j1 := i1.2.2 rfl
  have j4 := i4.2.2 rfl
  obtain ⟨np, hnp⟩ : ∃ z, z = r1.1 / 3 := ⟨_, rfl⟩
  obtain ⟨nf, hnf⟩ : ∃ z, z = r4.1 / 3 := ⟨_, rfl⟩
  rw [← hnp] at i2 i3
  rw [← hnp, ← hnf, show r1.1 = 3 * np by omega, show r2.1 = 3 * np by omega, show r3.1 = 2 * np by omega, show r4.1 = 3 * nf by omega]
  have u1 : np ≤ 128 := by omega
  have u2 : nf ≤ 128 := by omega
  refine ⟨fun q hq => ?_, fun q hq => ?_, fun j hj => ?_, ?_⟩
  · change q < 24707 + k * 1411 ∨ 24707 + k * 1411 + 1411 ≤ q at hq
    rw [pk_un (by omega), pk_un (by omega), zOv_out (by omega), zOv_out (by omega), zOv_out (by omega), zOv_out (by omega), pk_un (by omega)]
  · change q < 24776 + 1440 * k ∨ 24776 + 1440 * k + 1440 ≤ q at hq
    rw [pk_un (by omega), zOv_out (by omega), zOv_out (by omega), zOv_out (by omega), pk_un (by omega), zOv_out (by omega), pk_un (by omega)]
  · change j < 3 at hj
    show _ = upd _ _ _ (24707 + k * 1411 + j)
    show upd _ _ _ (24776 + 1440 * k + j) = _
    rcases (show j = 0 ∨ j = 1 ∨ j = 2 by omega) with rfl | rfl | rfl
    · simp only [Nat.add_zero]; rw [pk_un (by omega), zOv_out (by omega), zOv_out (by omega), zOv_out (by omega), pk_un (by omega), zOv_out (by omega), pk_us, pk_un (by omega), pk_un (by omega), zOv_out (by omega), zOv_out (by omega), zOv_out (by omega), zOv_out (by omega), pk_us]
    · rw [pk_un (by omega), zOv_out (by omega), zOv_out (by omega), zOv_out (by omega), pk_us, pk_un (by omega), pk_us]
    · rw [pk_us, pk_us]
  · refine ⟨np, nf, u1, u2, ?_, ?_, fun j hj => ?_, fun j hj => ?_, fun j hj => ?_, fun j hj => ?_⟩
    · rw [pk_un (by omega), pk_us]
    · rw [pk_us]
    · rw [pk_un (by omega), zOv_out (by omega), zOv_out (by omega), zOv_out (by omega), pk_un (by omega), zOv_in hj, pk_un (by omega), pk_un (by omega), zOv_out (by omega), zOv_out (by omega), zOv_out (by omega), zOv_in hj]
    · rw [pk_un (by omega), zOv_out (by omega), zOv_out (by omega), zOv_in hj, pk_un (by omega), pk_un (by omega), zOv_out (by omega), zOv_out (by omega), zOv_in hj]
    · rw [pk_un (by omega), zOv_out (by omega), zOv_in hj, pk_un (by omega), pk_un (by omega), zOv_out (by omega), zOv_in hj]
    · rw [pk_un (by omega), zOv_in hj, pk_un (by omega), pk_un (by omega), zOv_in hj]
theorem zSim_track (B : Nat → Int32) (en nn k h : Nat) (cel nx : Nat → Int32) : zSim (fun a b => a.1 = b.1 ∧ zThR 4 k cel nx a.2 b.2) (zTrack B en nn (47811 + k * 132) (h, cel)) (zB (zMust B en 123 h) fun h0 => mTrack B en k nn (h0, nx)) := by
  simp only [zTrack, mTrack, zNumP_eq, zListP_eq, mNumK_eq, mListK_eq, zB_as, zB_ok]
  refine zSim_b fun h1 _ => zSim_b fun a _ => zSim_b fun h2 _ => zSim_b fun b _ => zSim_b fun h3 _ => zSim_b fun d _ => zSim_b fun h4 _ => zSim_b fun r1 g1 => zSim_b fun h5 _ => zSim_b fun r2 g2 => zSim_ok ⟨rfl, ?_⟩
  dsimp only
  have i1 := zKL_in g1
  have i2 := zKL_in g2
  obtain ⟨nk, hnk⟩ : ∃ z, z = r1.1 := ⟨_, rfl⟩
  rw [← hnk] at i1 i2
  rw [← hnk, show r2.1 = 3 * nk by omega]
  refine ⟨fun q hq => ?_, fun q hq => ?_, fun j hj => ?_, ?_⟩
  · change q < 47811 + k * 132 ∨ 47811 + k * 132 + 132 ≤ q at hq
    rw [pk_un (by omega), zOv_out (by omega), zOv_out (by omega), pk_un (by omega), pk_un (by omega), pk_un (by omega)]
  · change q < 48344 + 134 * k ∨ 48344 + 134 * k + 134 ≤ q at hq
    rw [zOv_out (by omega), pk_un (by omega), zOv_out (by omega), pk_un (by omega), pk_un (by omega), pk_un (by omega)]
  · change j < 4 at hj
    show _ = upd _ _ _ (47811 + k * 132 + j)
    show zOv _ _ _ _ (48344 + 134 * k + j) = _
    rw [zOv_out (by omega)]
    rcases (show j = 0 ∨ j = 1 ∨ j = 2 ∨ j = 3 by omega) with rfl | rfl | rfl | rfl
    · simp only [Nat.add_zero]; rw [pk_un (by omega), zOv_out (by omega), pk_un (by omega), pk_un (by omega), pk_us, pk_un (by omega), zOv_out (by omega), zOv_out (by omega), pk_un (by omega), pk_un (by omega), pk_us]
    · rw [pk_un (by omega), zOv_out (by omega), pk_un (by omega), pk_us, pk_un (by omega), zOv_out (by omega), zOv_out (by omega), pk_un (by omega), pk_us]
    · rw [pk_un (by omega), zOv_out (by omega), pk_us, pk_un (by omega), zOv_out (by omega), zOv_out (by omega), pk_us]
    · rw [pk_us, pk_us]
  · refine ⟨nk, by omega, ?_, fun j hj => ?_, fun j hj => ?_⟩
    · rw [pk_us]
    · rw [zOv_out (by omega), pk_un (by omega), zOv_in hj, pk_un (by omega), zOv_out (by omega), zOv_in hj]
    · rw [zOv_in hj, pk_un (by omega), zOv_in hj]
