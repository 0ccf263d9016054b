/-! SCENES COPIED -/
section C32
variable {sc : Nat × (Nat → Int32)} {m : Nat → Int → Int} {r : Nat → Nat → Value} {T : jx_H} {σ : jx_H}
def cpW (m : Nat → Int → Int) (K : Nat) (L : Nat → Int → Int) (e : Nat → Int) : Nat → Nat → Int → Int
  | 0 => m
  | v + 1 => jW (cpW m K L e v) (K + v) (L v) (e v)
theorem jW_U {i b : Nat} {L : Int → Int} {e : Int} {f : Int → Int} (h1 : b ≠ jwl i) (h2 : b ≠ jwa i) : jW (jU m b f) i L e = jU (jW m i L e) b f := by
  unfold jW
  rw [jU_ne h2.symm, jU_comm h1, jU_comm h2]
theorem cpW_ne {K b : Nat} {L : Nat → Int → Int} {e : Nat → Int} (h : ∀ i, b ≠ jwl i ∧ b ≠ jwa i) : ∀ v, cpW m K L e v b = m b
  | 0 => rfl
  | v + 1 => by
    show jW (cpW m K L e v) (K + v) (L v) (e v) b = m b
    rw [jW_ne (h _).1 (h _).2, cpW_ne h v]
theorem jwS (i : Nat) : (1 ≠ jwl i ∧ 1 ≠ jwa i) ∧ (19 ≠ jwl i ∧ 19 ≠ jwa i) ∧ (2 ≠ jwl i ∧ 2 ≠ jwa i) ∧ (20 ≠ jwl i ∧ 20 ≠ jwa i) := by
  unfold jwl jwa
  split
  · omega
  · split <;> omega
theorem jWk.cp {K j : Nat} {L0 : Nat → Int → Int} {e0 : Nat → Int} {s n k e : Int} {L : Int → Int} (hj : j < 13) : ∀ v, K + v ≤ 13 → (∀ i, i < v → j ≠ K + i) → jWk m j s n k L e → jWk (cpW m K L0 e0 v) j s n k L e
  | 0, _, _, g => g
  | v + 1, hv, hne, g => jWk.o (jWk.cp hj v (by omega) (fun i hi => hne i (by omega)) g) hj (by omega) (hne v (by omega)) (L0 v) (e0 v)
theorem jWk.u {j b : Nat} {s n k e : Int} {L : Int → Int} {f : Int → Int} (g : jWk m j s n k L e) (h1 : b ≠ jwl j) (h2 : b ≠ jwa j) (h3 : b ≠ jws j) : jWk (jU m b f) j s n k L e := by
  unfold jWk jStr at *
  rw [jU_ne h1.symm, jU_ne h2.symm, jU_ne h3.symm]
  exact g
theorem jZ.cp {K j : Nat} {L0 : Nat → Int → Int} {e0 : Nat → Int} (hj : j < 13) : ∀ v, K + v ≤ 13 → (∀ i, i < v → j ≠ K + i) → jZ m j → jZ (cpW m K L0 e0 v) j
  | 0, _, _, g => g
  | v + 1, hv, hne, g => by
    have q := jZ.cp (L0 := L0) (e0 := e0) hj v (by omega) (fun i hi => hne i (by omega)) g
    intro p hp
    have h := jw_inj hj (show K + v < 13 by omega) (hne v (by omega))
    show jW (cpW m K L0 e0 v) (K + v) (L0 v) (e0 v) (jwl j) p = 0
    rw [jW_ne h.1 (jw_ne hj (show K + v < 13 by omega)).2.1]
    exact q p hp
def cpA_n (m : Nat → Int → Int) (s n k : Int) (L : Nat → Int → Int) (e : Nat → Int) (v : Nat) : Nat → Int → Int := jU (cpW (jSt m 2 s n k) 0 L e v) 1 (ju (m 1) 2 v)
theorem cpA_n_P {s n k : Int} {L : Nat → Int → Int} {e : Nat → Int} (v : Nat) : cpA_n m s n k L e v 19 = m 19 := by
  unfold cpA_n jSt
  rw [jU_ne (by decide), cpW_ne (fun i => by have := jwS i; omega), jU_ne (by decide)]
theorem cpA_n_S {s n k : Int} {L : Nat → Int → Int} {e : Nat → Int} (v : Nat) : cpA_n m s n k L e v 1 = ju (m 1) 2 v := by
  unfold cpA_n
  rw [jU_same]
theorem cpA_n_w {s n k s' n' k' e' : Int} {L : Nat → Int → Int} {e : Nat → Int} {L' : Int → Int} {i v : Nat} (g : jWk m (6 + i) s' n' k' L' e') (hi : i < 6) (hv : v ≤ 6) : jWk (cpA_n m s n k L e v) (6 + i) s' n' k' L' e' := by
  have hs : ∀ i ∈ List.range 6, 2 ≠ jws (6 + i) ∧ 1 ≠ jws (6 + i) := by decide
  have hs := hs i (List.mem_range.mpr hi)
  have hj := jwS (6 + i)
  unfold cpA_n jSt
  exact jWk.u (jWk.cp (by omega) v (by omega) (fun i hi => by omega) (jWk.u g (by omega) (by omega) hs.1)) (by omega) (by omega) hs.2
theorem cpA_n_z {s n k : Int} {L : Nat → Int → Int} {e : Nat → Int} {v : Nat} (z : jZ m (0 + v)) (hv : v < 6) : jZ (cpA_n m s n k L e v) (0 + v) := by
  have hj := jwS (0 + v)
  intro p hp
  unfold cpA_n jSt
  rw [jU_ne (by omega)]
  refine jZ.cp (by omega) v (by omega) (fun i hi => by omega) ?_ p hp
  intro p hp
  rw [jU_ne (by omega)]
  exact z p hp
theorem cpA_n_s {s n k : Int} {L : Nat → Int → Int} {e : Nat → Int} (v : Nat) (hv : v < 6) : jU (jW (cpA_n m s n k L e v) (0 + v) (L v) (e v)) 1 (ju (jW (cpA_n m s n k L e v) (0 + v) (L v) (e v) 1) 2 ((v : Int) + 1)) = cpA_n m s n k L e (v + 1) := by
  have hj := jwS (0 + v)
  have h1 : jW (cpA_n m s n k L e v) (0 + v) (L v) (e v) 1 = ju (m 1) 2 v := by rw [jW_ne (by omega) (by omega), cpA_n_S]
  rw [h1, ju_ju]
  unfold cpA_n
  rw [jW_U (by omega) (by omega), jU_jU]
  rfl
def cpA_t (m : Nat → Int → Int) (s n k : Int) (L : Nat → Int → Int) (e : Nat → Int) (v : Nat) : Nat → Int → Int := jU (cpW (jSt m 20 s n k) 6 L e v) 19 (ju (m 19) 2 v)
theorem cpA_t_P {s n k : Int} {L : Nat → Int → Int} {e : Nat → Int} (v : Nat) : cpA_t m s n k L e v 1 = m 1 := by
  unfold cpA_t jSt
  rw [jU_ne (by decide), cpW_ne (fun i => by have := jwS i; omega), jU_ne (by decide)]
theorem cpA_t_S {s n k : Int} {L : Nat → Int → Int} {e : Nat → Int} (v : Nat) : cpA_t m s n k L e v 19 = ju (m 19) 2 v := by
  unfold cpA_t
  rw [jU_same]
theorem cpA_t_w {s n k s' n' k' e' : Int} {L : Nat → Int → Int} {e : Nat → Int} {L' : Int → Int} {i v : Nat} (g : jWk m (0 + i) s' n' k' L' e') (hi : i < 6) (hv : v ≤ 6) : jWk (cpA_t m s n k L e v) (0 + i) s' n' k' L' e' := by
  have hs : ∀ i ∈ List.range 6, 20 ≠ jws (0 + i) ∧ 19 ≠ jws (0 + i) := by decide
  have hs := hs i (List.mem_range.mpr hi)
  have hj := jwS (0 + i)
  unfold cpA_t jSt
  exact jWk.u (jWk.cp (by omega) v (by omega) (fun i hi => by omega) (jWk.u g (by omega) (by omega) hs.1)) (by omega) (by omega) hs.2
theorem cpA_t_z {s n k : Int} {L : Nat → Int → Int} {e : Nat → Int} {v : Nat} (z : jZ m (6 + v)) (hv : v < 6) : jZ (cpA_t m s n k L e v) (6 + v) := by
  have hj := jwS (6 + v)
  intro p hp
  unfold cpA_t jSt
  rw [jU_ne (by omega)]
  refine jZ.cp (by omega) v (by omega) (fun i hi => by omega) ?_ p hp
  intro p hp
  rw [jU_ne (by omega)]
  exact z p hp
theorem cpA_t_s {s n k : Int} {L : Nat → Int → Int} {e : Nat → Int} (v : Nat) (hv : v < 6) : jU (jW (cpA_t m s n k L e v) (6 + v) (L v) (e v)) 19 (ju (jW (cpA_t m s n k L e v) (6 + v) (L v) (e v) 19) 2 ((v : Int) + 1)) = cpA_t m s n k L e (v + 1) := by
  have hj := jwS (6 + v)
  have h1 : jW (cpA_t m s n k L e v) (6 + v) (L v) (e v) 19 = ju (m 19) 2 v := by rw [jW_ne (by omega) (by omega), cpA_t_S]
  rw [h1, ju_ju]
  unfold cpA_t
  rw [jW_U (by omega) (by omega), jU_jU]
  rfl
end C32
