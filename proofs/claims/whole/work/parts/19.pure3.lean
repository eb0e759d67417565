/-! The things, part by part: h the place, c the thing's first cell, cel the cells. -/
/-- a number of a part: its name with the mark before it, then the number into the cell q -/
def zNumP (B : Nat → Int32) (en : Nat) (mk : Int32) (wd : List Int32) (q : Nat) (lo hi : Int32) (s : Nat × (Nat → Int32)) : Except (Int32 × Nat) (Int32 × Nat × (Nat → Int32)) :=
  zB (zName B en mk wd s.1) fun h1 => zB (zRNum B en lo hi h1) fun v => .ok (v.1, v.2, upd s.2 q v.1)
def zListP (B : Nat → Int32) (en : Nat) (mk : Int32) (wd : List Int32) (gr w3 : Bool) (le mo q : Nat) (lo hi : Int32) (s : Nat × (Nat → Int32)) : Except (Int32 × Nat) (Nat × Nat × (Nat → Int32)) :=
  zB (zName B en mk wd s.1) fun h1 => zList B en gr w3 le mo q lo hi h1 s.2
theorem zLst_in {B : Nat → Int32} {en : Nat} {gr : Bool} {most cell : Nat} {low hi : Int32} : ∀ (k n : Nat) (lw : Int32) (h : Nat) (cel : Nat → Int32) (n2 h2 : Nat) (cel2 : Nat → Int32), n + k = most + 1 → h ≤ en → zLst B en gr most cell low hi k n lw h cel = .ok (n2, h2, cel2) → h ≤ h2 ∧ h2 ≤ en ∧ n ≤ n2 ∧ (n2 ≤ most ∨ k = 0) := by
  intro k
  induction k with
  | zero => intro n lw h cel n2 h2 cel2 hk hh he; cases he; exact ⟨Nat.le_refl _, hh, Nat.le_refl _, Or.inr rfl⟩
  | succ k ih =>
    intro n lw h cel n2 h2 cel2 hk hh he
    obtain ⟨q, e1, e2⟩ := zB_okI he
    obtain ⟨v, h1⟩ := q
    have a1 := zNum_in hh e1
    dsimp only at e2
    split at e2
    · cases e2
    · rename_i hn
      split at e2
      · cases e2
      · split at e2
        · rename_i hc
          have a2 := zK_le (B := B) (show h1 + 1 ≤ en from hc.1)
          have a3 := zK_ge (B := B) (show h1 + 1 ≤ en from hc.1)
          have a4 := ih (n + 1) _ _ _ n2 h2 cel2 (by omega) a2 e2
          omega
        · cases e2; omega
theorem zList_in {B : Nat → Int32} {en : Nat} {gr w3 : Bool} {le mo ce : Nat} {low hi : Int32} {h : Nat} {cel : Nat → Int32} {n2 h2 : Nat} {cel2 : Nat → Int32} (hh : h ≤ en) (he : zList B en gr w3 le mo ce low hi h cel = .ok (n2, h2, cel2)) : h < h2 ∧ h2 ≤ en ∧ le ≤ n2 ∧ n2 ≤ mo ∧ (w3 = true → n2 % 3 = 0) := by
  rw [zList_eq] at he
  obtain ⟨h1, e1, e2⟩ := zB_okI he
  have a1 := zMust_in e1
  obtain ⟨q, e3, e4⟩ := zB_okI e2
  obtain ⟨n, h3, cel3⟩ := q
  have a2 : h1 ≤ h3 ∧ h3 ≤ en ∧ n ≤ mo := by
    split at e3
    · cases e3; omega
    · have := zLst_in _ _ _ _ _ _ _ _ (by omega) a1.2 e3
      omega
  unfold zTail at e4
  dsimp only at e4
  split at e4
  · cases e4
  · rename_i hc
    obtain ⟨h4, e5, e6⟩ := zB_okI e4
    cases e6
    have a3 := zMust_in e5
    have a4 : h3 < en ∧ B h3 = 93 := by
      unfold zMust at e5
      split at e5
      · assumption
      · cases e5
    refine ⟨by omega, by omega, ?_, a2.2.2, ?_⟩
    · rcases Nat.lt_or_ge n2 le with z | z
      · exact absurd ⟨Or.inl z, a4⟩ hc
      · exact z
    · intro z
      by_cases m : n2 % 3 = 0
      · exact m
      · exact absurd ⟨Or.inr ⟨z, m⟩, a4⟩ hc
/-- the light: TOWARD, AMBIENT -/
def zLight (B : Nat → Int32) (en : Nat) (s : Nat × (Nat → Int32)) : Except (Int32 × Nat) (Nat × (Nat → Int32)) :=
  zB (zListP B en 123 (zSb 11) false false 3 3 7 (-65536) 65536 s) fun a => zB (zNumP B en 44 (zSb 12) 10 0 65536 a.2) fun b => zB (zMust B en 125 b.2.1) fun h => .ok (h, b.2.2)
/-- the camera: MOVE, TURN, FOCUS -/
def zCamera (B : Nat → Int32) (en : Nat) (s : Nat × (Nat → Int32)) : Except (Int32 × Nat) (Nat × (Nat → Int32)) :=
  zB (zListP B en 123 (zSb 8) false false 3 3 0 (-4194304) 4194304 s) fun a => zB (zListP B en 44 (zSb 9) false false 3 3 3 (-1048576) 1048576 a.2) fun b => zB (zNumP B en 44 (zSb 10) 6 8 512 b.2) fun d => zB (zMust B en 125 d.2.1) fun h => .ok (h, d.2.2)
/-- a material at the cell c; nt: how many textures -/
def zMaterial (B : Nat → Int32) (en nt c : Nat) (s : Nat × (Nat → Int32)) : Except (Int32 × Nat) (Nat × (Nat → Int32)) :=
  zB (zListP B en 123 (zSb 17) false false 4 4 c 0 255 s) fun a => zB (zNumP B en 44 (zSb 18) (c + 4) (-1) (nI nt - 1) a.2) fun b => zB (zNumP B en 44 (zSb 19) (c + 5) 0 1 b.2) fun d => .ok d.2
/-- a node; nn: how many nodes with it, nm: how many meshes -/
def zNode (B : Nat → Int32) (en nn nm c : Nat) (s : Nat × (Nat → Int32)) : Except (Int32 × Nat) (Nat × (Nat → Int32)) :=
  zB (zNumP B en 123 (zSb 25) c (-1) (nI nn - 2) s) fun a => zB (zNumP B en 44 (zSb 26) (c + 1) (-1) (nI nm - 1) a.2) fun b => zB (zListP B en 44 (zSb 8) false false 3 3 (c + 2) (-4194304) 4194304 b.2) fun d => zB (zListP B en 44 (zSb 9) false false 3 3 (c + 5) (-1048576) 1048576 d.2) fun f => zB (zListP B en 44 (zSb 27) false false 3 3 (c + 8) (-1048576) 1048576 f.2) fun g => .ok g.2
theorem zf02 : decide ((0 : Int32) = 2) = false := by decide
theorem zf01 : decide ((0 : Int32) = 1) = false := by decide
theorem zf11 : decide ((1 : Int32) = 1) = true := by decide
theorem zf12 : decide ((1 : Int32) = 2) = false := by decide
theorem zf21 : decide ((2 : Int32) = 1) = false := by decide
theorem zf22 : decide ((2 : Int32) = 2) = true := by decide
