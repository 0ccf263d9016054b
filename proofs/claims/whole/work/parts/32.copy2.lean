/-! SCENES COPIED -/
section C32
variable {sc : Nat × (Nat → Int32)} {m : Nat → Int → Int} {r : Nat → Nat → Value} {T : jx_H} {σ : jx_H}
def cpW (m : Nat → Int → Int) (K : Nat) (L : Nat → Int → Int) (e : Nat → Int) : Nat → Nat → Int → Int
  | 0 => m
  | v + 1 => jW (cpW m K L e v) (K + v) (L v) (e v)
theorem jW_U {i b : Nat} {L : Int → Int} {e : Int} {f : Int → Int} (h1 : b ≠ jwl i) (h2 : b ≠ jwa i) : jW (jU m b f) i L e = jU (jW m i L e) b f := by
  unfold jW
  rw [jU_ne h2.symm, jU_comm h1, jU_comm h2]
theorem cpW_ne {K b : Nat} {L : Nat → Int → Int} {e : Nat → Int} (h : ∀ i, b ≠ jwl i ∧ b ≠ jwa i) : ∀ v, cpW m K L e v b = m b
  | 0 => rfl
  | v + 1 => by
    show jW (cpW m K L e v) (K + v) (L v) (e v) b = m b
    rw [jW_ne (h _).1 (h _).2, cpW_ne h v]
theorem jwS (i : Nat) : (1 ≠ jwl i ∧ 1 ≠ jwa i) ∧ (17 ≠ jwl i ∧ 17 ≠ jwa i) ∧ (2 ≠ jwl i ∧ 2 ≠ jwa i) ∧ (18 ≠ jwl i ∧ 18 ≠ jwa i) := by
  unfold jwl jwa
  split
  · omega
  · split <;> omega
theorem jWk.cp {K j : Nat} {L0 : Nat → Int → Int} {e0 : Nat → Int} {s n k e : Int} {L : Int → Int} (hj : j < 13) : ∀ v, K + v ≤ 13 → (∀ i, i < v → j ≠ K + i) → jWk m j s n k L e → jWk (cpW m K L0 e0 v) j s n k L e
  | 0, _, _, g => g
  | v + 1, hv, hne, g => jWk.o (jWk.cp hj v (by omega) (fun i hi => hne i (by omega)) g) hj (by omega) (hne v (by omega)) (L0 v) (e0 v)
theorem jWk.u {j b : Nat} {s n k e : Int} {L : Int → Int} {f : Int → Int} (g : jWk m j s n k L e) (h1 : b ≠ jwl j) (h2 : b ≠ jwa j) (h3 : b ≠ jws j) : jWk (jU m b f) j s n k L e := by
  unfold jWk jStr at *
  rw [jU_ne h1.symm, jU_ne h2.symm, jU_ne h3.symm]
  exact g
theorem jZ.cp {K j : Nat} {L0 : Nat → Int → Int} {e0 : Nat → Int} (hj : j < 13) : ∀ v, K + v ≤ 13 → (∀ i, i < v → j ≠ K + i) → jZ m j → jZ (cpW m K L0 e0 v) j
  | 0, _, _, g => g
  | v + 1, hv, hne, g => by
    have q := jZ.cp (L0 := L0) (e0 := e0) hj v (by omega) (fun i hi => hne i (by omega)) g
    intro p hp
    have h := jw_inj hj (show K + v < 13 by omega) (hne v (by omega))
    show jW (cpW m K L0 e0 v) (K + v) (L0 v) (e0 v) (jwl j) p = 0
    rw [jW_ne h.1 (jw_ne hj (show K + v < 13 by omega)).2.1]
    exact q p hp
end C32
