theorem zside {r : Int32} (h1 : ¬ r < 1) (h2 : ¬ 32 < r) : ∃ j : Nat, 1 ≤ j ∧ j ≤ 32 ∧ r = nI j := by
  have e1 : (1 : Int32).toInt = 1 := by decide
  have e32 : (32 : Int32).toInt = 32 := by decide
  rw [Int32.lt_iff_toInt_lt] at h1 h2
  rw [e1] at h1
  rw [e32] at h2
  have h0 : ¬ r < 0 := by rw [Int32.lt_iff_toInt_lt, Int32.toInt_zero]; omega
  obtain ⟨j, hj, rfl⟩ := nI_of h0
  rw [nI_toInt hj] at h1 h2
  exact ⟨j, by omega, by omega, rfl⟩
theorem zsq {j : Nat} (h : j ≤ 32) : 3 * j * j ≤ 3072 := by
  have := Nat.mul_le_mul (Nat.mul_le_mul_left 3 h) h
  omega
/-- a texture at the cell c -/
def zTexture (B : Nat → Int32) (en c : Nat) (s : Nat × (Nat → Int32)) : Except (Int32 × Nat) (Nat × (Nat → Int32)) :=
  zB (zName B en 123 (zSb 13) s.1) fun h1 => zB (zRNum B en 1 32 h1) fun v => if v.1 &&& (v.1 - 1) = 0 then
    zB (zNumP B en 44 (zSb 14) (c + 1) 0 2 (v.2, upd s.2 c v.1)) fun a => zB (zNumP B en 44 (zSb 15) (c + 2) 0 1 a.2) fun b => zB (zListP B en 44 (zSb 16) false false (3 * v.1.toNatClampNeg * v.1.toNatClampNeg) (3 * v.1.toNatClampNeg * v.1.toNatClampNeg) (c + 3) 0 255 b.2) fun d => .ok d.2
  else .error (2, h1)
/-- a mesh; nm: how many materials -/
def zMesh (B : Nat → Int32) (en nm c : Nat) (s : Nat × (Nat → Int32)) : Except (Int32 × Nat) (Nat × (Nat → Int32)) :=
  zB (zNumP B en 123 (zSb 20) c 0 (nI nm - 1) s) fun a => zB (zListP B en 44 (zSb 21) false true 3 384 (c + 3) (-1048576) 1048576 a.2) fun b => zB (zListP B en 44 (zSb 22) false false (3 * (b.1 / 3)) (3 * (b.1 / 3)) (c + 387) (-65536) 65536 b.2) fun d => zB (zListP B en 44 (zSb 23) false false (2 * (b.1 / 3)) (2 * (b.1 / 3)) (c + 771) (-131072) 131072 d.2) fun f => zB (zListP B en 44 (zSb 24) false true 3 384 (c + 1027) 0 (nI (b.1 / 3) - 1) f.2) fun g => .ok (g.2.1, upd (upd g.2.2 (c + 1) (nI (b.1 / 3))) (c + 2) (nI (g.1 / 3)))
/-- a track; nn: how many nodes -/
def zTrack (B : Nat → Int32) (en nn c : Nat) (s : Nat × (Nat → Int32)) : Except (Int32 × Nat) (Nat × (Nat → Int32)) :=
  zB (zNumP B en 123 (zSb 28) c 0 (nI nn - 1) s) fun a => zB (zNumP B en 44 (zSb 29) (c + 1) 0 2 a.2) fun b => zB (zNumP B en 44 (zSb 30) (c + 2) 0 2 b.2) fun d => zB (zListP B en 44 (zSb 31) true false 1 32 (c + 4) 0 1000000 d.2) fun f => zB (zListP B en 44 (zSb 32) false false (3 * f.1) (3 * f.1) (c + 36) (-(if b.1 = 0 then 4194304 else 1048576)) (if b.1 = 0 then 4194304 else 1048576) f.2) fun g => .ok (g.2.1, upd g.2.2 (c + 3) (nI f.1))
