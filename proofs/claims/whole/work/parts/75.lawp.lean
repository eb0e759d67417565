/-! The law's comparisons. -/
theorem zlaw_lt {L i : Nat} (hL : L ≤ 3072) (hi : i ≤ 3078) (h : ¬ nI L - 6 < nI i) : i + 6 ≤ L := by
  rw [Int32.lt_iff_toInt_lt, show nI L - 6 = nI L - nI 6 from rfl, pk_sub_toInt (by omega) (by omega), nI_toInt (by omega)] at h
  omega
theorem zEnd_eq {u u1 u2 : Nat} {nn r1 r2 : Int32} (hu : u ≤ 65536) (h1 : (r1 = 1 ∧ u1 ≤ u ∧ nn = nI u1) ∨ (r1 = 0 ∧ u1 = u ∧ (nn < 0 ∨ nI u < nn))) (h2 : (r2 = 1 ∧ u2 ≤ u ∧ nn = nI u2) ∨ (r2 = 0 ∧ u2 = u ∧ (nn < 0 ∨ nI u < nn))) : r2 = r1 ∧ u2 = u1 ∧ u1 ≤ u := by
  have no : ∀ j, j ≤ u → nn = nI j → ¬ (nn < 0 ∨ nI u < nn) := by
    rintro j hj rfl (z | z)
    · exact nI_pos (by omega) z
    · have := (nI_ltI (by omega) (by omega)).mp z
      omega
  rcases h1 with ⟨a1, a2, a3⟩ | ⟨a1, a2, a3⟩
  · rcases h2 with ⟨b1, b2, b3⟩ | ⟨b1, b2, b3⟩
    · rw [a3] at b3
      exact ⟨b1.trans a1.symm, ((nI_eq (by omega) (by omega)).mp b3).symm, a2⟩
    · exact absurd b3 (no u1 a2 a3)
  · rcases h2 with ⟨b1, b2, b3⟩ | ⟨b1, b2, b3⟩
    · exact absurd a3 (no u2 b2 b3)
    · exact ⟨b1.trans a1.symm, b2.trans a2.symm, by omega⟩
theorem zcount_eq {cnt : Nat → Nat} {cel nw : Nat → Int32} {q : Int32} (g : zGood cnt cel nw) : (if zIn q 5 then nw q.toNatClampNeg else -1) = zHow cnt q := by
  unfold zHow
  split
  · rename_i h
    obtain ⟨j, hj, rfl⟩ := zIn_of (by decide) h
    rw [nI_clamp (by omega)]; exact g.2.1 j hj
  · rfl
theorem zview_eq {cnt : Nat → Nat} {cel nw : Nat → Int32} {q : Int32} (g : zGood cnt cel nw) : (if zIn q 11 then nw (52632 + q.toNatClampNeg) else 0) = if zIn q 11 then cel q.toNatClampNeg else 0 := by
  split
  · rename_i h
    obtain ⟨j, hj, rfl⟩ := zIn_of (by decide) h
    rw [nI_clamp (by omega), g.2.2.1 j hj, show 0 + j = j by omega]
  · rfl
/-- the two sides' reads of one text over any old cells -/
theorem zSim_load {B : Nat → Int32} {u : Nat} {cnt : Nat → Nat} {cel nx : Nat → Int32} : zSim (fun a b => zGood a.1 a.2 b) (zRead B u (zC0 cnt) (zV0 cel)) (mRead B u (zC0 cnt) (zN nx)) := zSim_read (fun _ hj => zC0_z hj) (zN_good (fun _ hj => zC0_z hj))
theorem zSim_oo {α β : Type} {R : α → β → Prop} {x : Except (Int32 × Nat) α} {y : Except (Int32 × Nat) β} {a : α} {b : β} (h : zSim R x y) (hx : x = .ok a) (hy : y = .ok b) : R a b := by
  subst hx; subst hy
  rcases h with ⟨q, e1, e2⟩ | ⟨a', b', e1, e2, r⟩
  · cases e1
  · cases e1; cases e2; exact r
theorem zSim_oe {α β : Type} {R : α → β → Prop} {x : Except (Int32 × Nat) α} {y : Except (Int32 × Nat) β} {a : α} {q : Int32 × Nat} (h : zSim R x y) (hx : x = .ok a) (hy : y = .error q) : False := by
  subst hx; subst hy
  rcases h with ⟨q, e1, e2⟩ | ⟨a', b', e1, e2, r⟩
  · cases e1
  · cases e2
theorem zSim_eo {α β : Type} {R : α → β → Prop} {x : Except (Int32 × Nat) α} {y : Except (Int32 × Nat) β} {b : β} {q : Int32 × Nat} (h : zSim R x y) (hx : x = .error q) (hy : y = .ok b) : False := by
  subst hx; subst hy
  rcases h with ⟨q, e1, e2⟩ | ⟨a', b', e1, e2, r⟩
  · cases e2
  · cases e1
theorem zSim_ee {α β : Type} {R : α → β → Prop} {x : Except (Int32 × Nat) α} {y : Except (Int32 × Nat) β} {q1 q2 : Int32 × Nat} (h : zSim R x y) (hx : x = .error q1) (hy : y = .error q2) : q2 = q1 := by
  subst hx; subst hy
  rcases h with ⟨q, e1, e2⟩ | ⟨a', b', e1, e2, r⟩
  · cases e1; cases e2; rfl
  · cases e1
