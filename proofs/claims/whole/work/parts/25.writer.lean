/-! THE WRITER -/
section C25
variable {sc : Nat × (Nat → Int32)} {m : Nat → Int → Int} {r : Nat → Nat → Value} {T : jx_H} {σ : jx_H}
theorem jT_get (m : Nat → Int → Int) (r : Nat → Nat → Value) (T : jx_H) (c : jx_C) : (jh m r (T ++ [c]))[62 + T.length]? = some c := by
  rw [jh_tail, List.getElem?_concat_length]
theorem jT_set (m : Nat → Int → Int) (r : Nat → Nat → Value) (T : jx_H) (c c' : jx_C) : (jh m r (T ++ [c])).set (62 + T.length) c' = jh m r (T ++ [c']) := by
  rw [jh_sett, jnew_set]
def jR37 (m : Nat → Int → Int) (q : (Int → Int) × Int) : Nat → Int → Int := jU (jU m 40 q.1) 39 (ju (m 39) 1 q.2)
def jQ37 (m : Nat → Int → Int) (q : (Int → Int) × Int) : Prop := m 40 = q.1 ∧ m 39 1 = q.2 ∧ 0 ≤ q.2 ∧ q.2 ≤ 110
theorem jR37_ne {m : Nat → Int → Int} {q : (Int → Int) × Int} {b : Nat} (h1 : b ≠ 39) (h2 : b ≠ 40) : jR37 m q b = m b := by
  unfold jR37
  rw [jU_ne h1, jU_ne h2]
theorem jQ37_R (m : Nat → Int → Int) {q : (Int → Int) × Int} (h0 : 0 ≤ q.2) (h1 : q.2 ≤ 110) : jQ37 (jR37 m q) q := by
  refine ⟨?_, ?_, h0, h1⟩
  · unfold jR37
    rw [jU_ne (by decide), jU_same]
  · unfold jR37
    rw [jU_same, ju_same]
theorem jR37_R (m : Nat → Int → Int) (q q' : (Int → Int) × Int) : jR37 (jR37 m q) q' = jR37 m q' := by
  unfold jR37
  rw [jU_same, ju_ju, jU_comm (a := 39) (b := 40) (by decide), jU_jU, jU_jU]
theorem jR37_self {m : Nat → Int → Int} {q : (Int → Int) × Int} (g : jQ37 m q) : jR37 m q = m := by
  unfold jR37
  rw [← g.1, ← g.2.1, jU_self, ju_self, jU_self]
theorem jh_row37 {q : (Int → Int) × Int} (g : jQ37 m q) : jRw (jh m r T) 39 40 110 q.1 q.2 := by
  refine ⟨?_, ?_, by decide, g.2.2.1, g.2.2.2, by decide⟩
  · rw [jh_at rfl, ← g.2.1]; rfl
  · rw [jh_at rfl, ← g.1]; rfl
theorem jh_rs37 (f : Int → Int) (z : Int) : jRs (jh m r T) 39 40 110 f z = jh (jR37 m (f, z)) r T := by
  unfold jRs jR37
  rw [show jA 110 f = jc 40 f (r 40) from rfl, jh_set rfl]
  rw [show ((3, [.ref 40, .int (jI z)]) : jx_C) = jc 39 (ju (m 39) 1 z) (r 39) by
    show _ = ((3, [.ref 40, .int (jI (ju (m 39) 1 z 1))]) : jx_C)
    rw [ju_same]]
  rw [jh_set rfl]
theorem jWk.R37 {i : Nat} (hi : i < 13) {s n k e : Int} {L : Int → Int} (g : jWk m i s n k L e) (q : (Int → Int) × Int) : jWk (jR37 m q) i s n k L e := by
  have h : ∀ i ∈ List.range 13, jwa i ≠ 39 ∧ jwa i ≠ 40 ∧ jwl i ≠ 39 ∧ jwl i ≠ 40 ∧ jws i ≠ 39 ∧ jws i ≠ 40 := by decide
  obtain ⟨h1, h2, h3, h4, h5, h6⟩ := h i (List.mem_range.mpr hi)
  unfold jWk jStr at *
  rw [jR37_ne h1 h2, jR37_ne h3 h4, jR37_ne h5 h6]
  exact g
theorem k37_add {q : (Int → Int) × Int} (g : jQ37 m q) {x : Int} (hx : -2147483648 ≤ x ∧ x ≤ 2147483647) : jq sc 1 jm_X3_add [.ref 39, .int (jI x)] (jh m r T) (jP (some (.int (jI (jb (decide (q.2 < 110)))))) (jh (jR37 m (fRA 110 q x)) r T)) := by
  have := k_radd (sc := sc) (jh_row37 (r := r) (T := T) g) hx
  rwa [jh_rs37] at this
theorem k37_addMany {q : (Int → Int) × Int} (g : jQ37 m q) {x t : Int} (hx : -2147483648 ≤ x ∧ x ≤ 2147483647) (ht : -2147483648 ≤ t ∧ t ≤ 1000) : jq sc 2 jm_X3_addMany [.ref 39, .int (jI x), .int (jI t)] (jh m r T) (jP none (jh (jR37 m (fRAl 110 q (List.replicate t.toNat x))) r T)) := by
  have := k_raddMany (sc := sc) (jh_row37 (r := r) (T := T) g) hx ht
  rwa [jh_rs37] at this
theorem k37_clear {q : (Int → Int) × Int} (g : jQ37 m q) : jq sc 1 jm_X3_clear [.ref 39] (jh m r T) (jP none (jh (jR37 m (q.1, 0)) r T)) := by
  have := k_rclear (sc := sc) (jh_row37 (r := r) (T := T) g)
  rwa [jh_rs37] at this
theorem k37_at {q : (Int → Int) × Int} (g : jQ37 m q) {i : Int} (hi : -2147483648 ≤ i ∧ i ≤ 2147483647) : jq sc 2 jm_X3_at [.ref 39, .int (jI i)] (jh m r T) (jP (some (.int (jI (fRAt q.1 q.2 i)))) (jh m r T)) := k_rat (jh_row37 g) hi
theorem k37_has {q : (Int → Int) × Int} (g : jQ37 m q) {i : Int} (hi : -2147483648 ≤ i ∧ i ≤ 2147483647) : jq sc 1 jm_X3_has [.ref 39, .int (jI i)] (jh m r T) (jP (some (.int (jI (jb (fRH q.2 i))))) (jh m r T)) := k_rhas (jh_row37 g) hi
def jR35 (m : Nat → Int → Int) (q : (Int → Int) × Int) : Nat → Int → Int := jU (jU m 38 q.1) 37 (ju (m 37) 1 q.2)
def jQ35 (m : Nat → Int → Int) (q : (Int → Int) × Int) : Prop := m 38 = q.1 ∧ m 37 1 = q.2 ∧ 0 ≤ q.2 ∧ q.2 ≤ 72
theorem jR35_ne {m : Nat → Int → Int} {q : (Int → Int) × Int} {b : Nat} (h1 : b ≠ 37) (h2 : b ≠ 38) : jR35 m q b = m b := by
  unfold jR35
  rw [jU_ne h1, jU_ne h2]
theorem jQ35_R (m : Nat → Int → Int) {q : (Int → Int) × Int} (h0 : 0 ≤ q.2) (h1 : q.2 ≤ 72) : jQ35 (jR35 m q) q := by
  refine ⟨?_, ?_, h0, h1⟩
  · unfold jR35
    rw [jU_ne (by decide), jU_same]
  · unfold jR35
    rw [jU_same, ju_same]
theorem jR35_R (m : Nat → Int → Int) (q q' : (Int → Int) × Int) : jR35 (jR35 m q) q' = jR35 m q' := by
  unfold jR35
  rw [jU_same, ju_ju, jU_comm (a := 37) (b := 38) (by decide), jU_jU, jU_jU]
theorem jR35_self {m : Nat → Int → Int} {q : (Int → Int) × Int} (g : jQ35 m q) : jR35 m q = m := by
  unfold jR35
  rw [← g.1, ← g.2.1, jU_self, ju_self, jU_self]
theorem jh_row35 {q : (Int → Int) × Int} (g : jQ35 m q) : jRw (jh m r T) 37 38 72 q.1 q.2 := by
  refine ⟨?_, ?_, by decide, g.2.2.1, g.2.2.2, by decide⟩
  · rw [jh_at rfl, ← g.2.1]; rfl
  · rw [jh_at rfl, ← g.1]; rfl
theorem jh_rs35 (f : Int → Int) (z : Int) : jRs (jh m r T) 37 38 72 f z = jh (jR35 m (f, z)) r T := by
  unfold jRs jR35
  rw [show jA 72 f = jc 38 f (r 38) from rfl, jh_set rfl]
  rw [show ((3, [.ref 38, .int (jI z)]) : jx_C) = jc 37 (ju (m 37) 1 z) (r 37) by
    show _ = ((3, [.ref 38, .int (jI (ju (m 37) 1 z 1))]) : jx_C)
    rw [ju_same]]
  rw [jh_set rfl]
theorem jWk.R35 {i : Nat} (hi : i < 13) {s n k e : Int} {L : Int → Int} (g : jWk m i s n k L e) (q : (Int → Int) × Int) : jWk (jR35 m q) i s n k L e := by
  have h : ∀ i ∈ List.range 13, jwa i ≠ 37 ∧ jwa i ≠ 38 ∧ jwl i ≠ 37 ∧ jwl i ≠ 38 ∧ jws i ≠ 37 ∧ jws i ≠ 38 := by decide
  obtain ⟨h1, h2, h3, h4, h5, h6⟩ := h i (List.mem_range.mpr hi)
  unfold jWk jStr at *
  rw [jR35_ne h1 h2, jR35_ne h3 h4, jR35_ne h5 h6]
  exact g
theorem k35_add {q : (Int → Int) × Int} (g : jQ35 m q) {x : Int} (hx : -2147483648 ≤ x ∧ x ≤ 2147483647) : jq sc 1 jm_X3_add [.ref 37, .int (jI x)] (jh m r T) (jP (some (.int (jI (jb (decide (q.2 < 72)))))) (jh (jR35 m (fRA 72 q x)) r T)) := by
  have := k_radd (sc := sc) (jh_row35 (r := r) (T := T) g) hx
  rwa [jh_rs35] at this
theorem k35_addMany {q : (Int → Int) × Int} (g : jQ35 m q) {x t : Int} (hx : -2147483648 ≤ x ∧ x ≤ 2147483647) (ht : -2147483648 ≤ t ∧ t ≤ 1000) : jq sc 2 jm_X3_addMany [.ref 37, .int (jI x), .int (jI t)] (jh m r T) (jP none (jh (jR35 m (fRAl 72 q (List.replicate t.toNat x))) r T)) := by
  have := k_raddMany (sc := sc) (jh_row35 (r := r) (T := T) g) hx ht
  rwa [jh_rs35] at this
theorem k35_clear {q : (Int → Int) × Int} (g : jQ35 m q) : jq sc 1 jm_X3_clear [.ref 37] (jh m r T) (jP none (jh (jR35 m (q.1, 0)) r T)) := by
  have := k_rclear (sc := sc) (jh_row35 (r := r) (T := T) g)
  rwa [jh_rs35] at this
theorem k35_at {q : (Int → Int) × Int} (g : jQ35 m q) {i : Int} (hi : -2147483648 ≤ i ∧ i ≤ 2147483647) : jq sc 2 jm_X3_at [.ref 37, .int (jI i)] (jh m r T) (jP (some (.int (jI (fRAt q.1 q.2 i)))) (jh m r T)) := k_rat (jh_row35 g) hi
theorem k35_has {q : (Int → Int) × Int} (g : jQ35 m q) {i : Int} (hi : -2147483648 ≤ i ∧ i ≤ 2147483647) : jq sc 1 jm_X3_has [.ref 37, .int (jI i)] (jh m r T) (jP (some (.int (jI (jb (fRH q.2 i))))) (jh m r T)) := k_rhas (jh_row35 g) hi
def jR39 (m : Nat → Int → Int) (q : (Int → Int) × Int) : Nat → Int → Int := jU (jU m 42 q.1) 41 (ju (m 41) 1 q.2)
def jQ39 (m : Nat → Int → Int) (q : (Int → Int) × Int) : Prop := m 42 = q.1 ∧ m 41 1 = q.2 ∧ 0 ≤ q.2 ∧ q.2 ≤ 324
theorem jR39_ne {m : Nat → Int → Int} {q : (Int → Int) × Int} {b : Nat} (h1 : b ≠ 41) (h2 : b ≠ 42) : jR39 m q b = m b := by
  unfold jR39
  rw [jU_ne h1, jU_ne h2]
theorem jQ39_R (m : Nat → Int → Int) {q : (Int → Int) × Int} (h0 : 0 ≤ q.2) (h1 : q.2 ≤ 324) : jQ39 (jR39 m q) q := by
  refine ⟨?_, ?_, h0, h1⟩
  · unfold jR39
    rw [jU_ne (by decide), jU_same]
  · unfold jR39
    rw [jU_same, ju_same]
theorem jR39_R (m : Nat → Int → Int) (q q' : (Int → Int) × Int) : jR39 (jR39 m q) q' = jR39 m q' := by
  unfold jR39
  rw [jU_same, ju_ju, jU_comm (a := 41) (b := 42) (by decide), jU_jU, jU_jU]
theorem jR39_self {m : Nat → Int → Int} {q : (Int → Int) × Int} (g : jQ39 m q) : jR39 m q = m := by
  unfold jR39
  rw [← g.1, ← g.2.1, jU_self, ju_self, jU_self]
theorem jh_row39 {q : (Int → Int) × Int} (g : jQ39 m q) : jRw (jh m r T) 41 42 324 q.1 q.2 := by
  refine ⟨?_, ?_, by decide, g.2.2.1, g.2.2.2, by decide⟩
  · rw [jh_at rfl, ← g.2.1]; rfl
  · rw [jh_at rfl, ← g.1]; rfl
theorem jh_rs39 (f : Int → Int) (z : Int) : jRs (jh m r T) 41 42 324 f z = jh (jR39 m (f, z)) r T := by
  unfold jRs jR39
  rw [show jA 324 f = jc 42 f (r 42) from rfl, jh_set rfl]
  rw [show ((3, [.ref 42, .int (jI z)]) : jx_C) = jc 41 (ju (m 41) 1 z) (r 41) by
    show _ = ((3, [.ref 42, .int (jI (ju (m 41) 1 z 1))]) : jx_C)
    rw [ju_same]]
  rw [jh_set rfl]
theorem jWk.R39 {i : Nat} (hi : i < 13) {s n k e : Int} {L : Int → Int} (g : jWk m i s n k L e) (q : (Int → Int) × Int) : jWk (jR39 m q) i s n k L e := by
  have h : ∀ i ∈ List.range 13, jwa i ≠ 41 ∧ jwa i ≠ 42 ∧ jwl i ≠ 41 ∧ jwl i ≠ 42 ∧ jws i ≠ 41 ∧ jws i ≠ 42 := by decide
  obtain ⟨h1, h2, h3, h4, h5, h6⟩ := h i (List.mem_range.mpr hi)
  unfold jWk jStr at *
  rw [jR39_ne h1 h2, jR39_ne h3 h4, jR39_ne h5 h6]
  exact g
theorem k39_add {q : (Int → Int) × Int} (g : jQ39 m q) {x : Int} (hx : -2147483648 ≤ x ∧ x ≤ 2147483647) : jq sc 1 jm_X3_add [.ref 41, .int (jI x)] (jh m r T) (jP (some (.int (jI (jb (decide (q.2 < 324)))))) (jh (jR39 m (fRA 324 q x)) r T)) := by
  have := k_radd (sc := sc) (jh_row39 (r := r) (T := T) g) hx
  rwa [jh_rs39] at this
theorem k39_addMany {q : (Int → Int) × Int} (g : jQ39 m q) {x t : Int} (hx : -2147483648 ≤ x ∧ x ≤ 2147483647) (ht : -2147483648 ≤ t ∧ t ≤ 1000) : jq sc 2 jm_X3_addMany [.ref 41, .int (jI x), .int (jI t)] (jh m r T) (jP none (jh (jR39 m (fRAl 324 q (List.replicate t.toNat x))) r T)) := by
  have := k_raddMany (sc := sc) (jh_row39 (r := r) (T := T) g) hx ht
  rwa [jh_rs39] at this
theorem k39_clear {q : (Int → Int) × Int} (g : jQ39 m q) : jq sc 1 jm_X3_clear [.ref 41] (jh m r T) (jP none (jh (jR39 m (q.1, 0)) r T)) := by
  have := k_rclear (sc := sc) (jh_row39 (r := r) (T := T) g)
  rwa [jh_rs39] at this
theorem k39_at {q : (Int → Int) × Int} (g : jQ39 m q) {i : Int} (hi : -2147483648 ≤ i ∧ i ≤ 2147483647) : jq sc 2 jm_X3_at [.ref 41, .int (jI i)] (jh m r T) (jP (some (.int (jI (fRAt q.1 q.2 i)))) (jh m r T)) := k_rat (jh_row39 g) hi
theorem k39_has {q : (Int → Int) × Int} (g : jQ39 m q) {i : Int} (hi : -2147483648 ≤ i ∧ i ≤ 2147483647) : jq sc 1 jm_X3_has [.ref 41, .int (jI i)] (jh m r T) (jP (some (.int (jI (jb (fRH q.2 i))))) (jh m r T)) := k_rhas (jh_row39 g) hi
def wLamp (s n k : Int) (L : Int → Int) (at_ : Int) : List Int := List.replicate (min (fSh s n L at_) (k - fSh s n L at_)).toNat (if fSh s n L at_ ≤ k - fSh s n L at_ then 0 else 1)
def wCell (i : Nat) (at_ lo hi : Int) : jx_C := (10, [.ref (jwa i), .ref 39, .int (jI at_), .int (jI lo), .int (jI hi)])
theorem k_turnLamp {i : Nat} (hi : i < 13) {s n k e at_ lo hi_ : Int} {L : Int → Int} {q : (Int → Int) × Int} (g : jWk m i s n k L e) (gq : jQ37 m q) (h1 : -100 ≤ at_ ∧ at_ ≤ 100) (h2 : -100 ≤ lo ∧ lo ≤ 100) (h3 : -100 ≤ hi_ ∧ hi_ ≤ 100) : jq sc 5 jm_X10_turnLamp [.ref (62 + T.length)] (jh m r (T ++ [wCell i at_ lo hi_])) (jP none (jh (jR37 m (fRAl 110 q (wLamp s n k L at_))) r (T ++ [wCell i at_ (min lo at_) (max hi_ at_)]))) := by
  have gk : 2 ≤ k ∧ k ≤ 5 := g.1.2.2
  have gs := fSh_i (s := s) (n := n) g.2.2.2.1 (by omega) at_
  unfold wCell
  refine je_in jb_X10_turnLamp rfl (ls := [_, _, _]) rfl ?_
  refine je_ps jb_X10_turnLamp 2 (pc' := 2) (ls' := [_, _, _]) (st' := [_, _]) rfl ?_
  refine je_get jb_X10_turnLamp rfl (pc' := 5) rfl (jT_get _ _ _ _) (by rfl) (by rfl) ?_
  refine je_ps jb_X10_turnLamp 1 (pc' := 6) (ls' := [_, _, _]) (st' := [_, _, _]) rfl ?_
  refine je_get jb_X10_turnLamp rfl (pc' := 9) rfl (jT_get _ _ _ _) (by rfl) (by rfl) ?_
  refine je_min jb_X10_turnLamp rfl (pc' := 12) rfl rfl rfl (by first | omega | exact (hM _ _).1 | exact (hM _ _).2) (by first | omega | exact (hM _ _).1 | exact (hM _ _).2) (by first | omega | exact (hM _ _).1 | exact (hM _ _).2) (by first | omega | exact (hM _ _).1 | exact (hM _ _).2) ?_
  refine je_put jb_X10_turnLamp rfl (pc' := 15) rfl (jT_get _ _ _ _) (by rfl) (by rfl) (by rfl) (by rfl) ?_
  rw [jT_set]
  refine je_ps jb_X10_turnLamp 2 (pc' := 17) (ls' := [_, _, _]) (st' := [_, _]) rfl ?_
  refine je_get jb_X10_turnLamp rfl (pc' := 20) rfl (jT_get _ _ _ _) (by rfl) (by rfl) ?_
  refine je_ps jb_X10_turnLamp 1 (pc' := 21) (ls' := [_, _, _]) (st' := [_, _, _]) rfl ?_
  refine je_get jb_X10_turnLamp rfl (pc' := 24) rfl (jT_get _ _ _ _) (by rfl) (by rfl) ?_
  refine je_max jb_X10_turnLamp rfl (pc' := 27) rfl rfl rfl (by first | omega | exact (hM _ _).1 | exact (hM _ _).2) (by first | omega | exact (hM _ _).1 | exact (hM _ _).2) (by first | omega | exact (hM _ _).1 | exact (hM _ _).2) (by first | omega | exact (hM _ _).1 | exact (hM _ _).2) ?_
  refine je_put jb_X10_turnLamp rfl (pc' := 30) rfl (jT_get _ _ _ _) (by rfl) (by rfl) (by rfl) (by rfl) ?_
  rw [jT_set]
  refine je_ps jb_X10_turnLamp 1 (pc' := 31) (ls' := [_, _, _]) (st' := [_]) rfl ?_
  refine je_get jb_X10_turnLamp rfl (pc' := 34) rfl (jT_get _ _ _ _) (by rfl) (by rfl) ?_
  refine je_ps jb_X10_turnLamp 1 (pc' := 35) (ls' := [_, _, _]) (st' := [_, _]) rfl ?_
  refine je_get jb_X10_turnLamp rfl (pc' := 38) rfl (jT_get _ _ _ _) (by rfl) (by rfl) ?_
  refine je_cvP' jb_X10_turnLamp rfl (pc' := 41) rfl (by first | exact jh_V hi g | exact jh_V hi (g0.R37 hi _) | exact jh_walk hi) (by rfl) (by first | decide | exact Nat.ble_eq_true_of_le (by omega)) (k_shows hi g (by omega)) (st' := [_]) rfl ?_
  refine je_ps jb_X10_turnLamp 2 (pc' := 43) (ls' := [_, _, _]) (st' := [_]) rfl ?_
  refine je_get jb_X10_turnLamp rfl (pc' := 46) rfl (jT_get _ _ _ _) (by rfl) (by rfl) ?_
  refine je_get jb_X10_turnLamp rfl (pc' := 49) rfl (by first | exact jh_V hi g | exact jh_V hi (g0.R37 hi _) | exact jh_walk hi) (by rfl) (by rfl) ?_
  refine je_get jb_X10_turnLamp rfl (pc' := 52) rfl (jh_VS hi g) (by rfl) (by rfl) ?_
  refine je_ps jb_X10_turnLamp 1 (pc' := 53) (ls' := [_, _, _]) (st' := [_, _]) rfl ?_
  refine je_isub jb_X10_turnLamp rfl (pc' := 54) rfl ?_
  refine je_ps jb_X10_turnLamp 2 (pc' := 56) (ls' := [_, _, _]) (st' := [_]) rfl ?_
  refine je_get jb_X10_turnLamp rfl (pc' := 59) rfl (jT_get _ _ _ _) (by rfl) (by rfl) ?_
  refine je_ps jb_X10_turnLamp 2 (pc' := 61) (ls' := [_, _, _]) (st' := [_, _, _]) rfl ?_
  refine je_icmpgt jb_X10_turnLamp rfl (t := 68) rfl (pc' := 64) rfl (by first | omega | exact (hM _ _).1 | exact (hM _ _).2) (by first | omega | exact (hM _ _).1 | exact (hM _ _).2) (by first | omega | exact (hM _ _).1 | exact (hM _ _).2) (by first | omega | exact (hM _ _).1 | exact (hM _ _).2) (fun c61 => ?_) (fun c61 => ?_)
  · refine je_ps jb_X10_turnLamp 3 (pc' := 71) (ls' := [_, _, _]) (st' := [_, _, _, _]) rfl ?_
    refine je_min jb_X10_turnLamp rfl (pc' := 74) rfl rfl rfl (by first | omega | exact (hM _ _).1 | exact (hM _ _).2) (by first | omega | exact (hM _ _).1 | exact (hM _ _).2) (by first | omega | exact (hM _ _).1 | exact (hM _ _).2) (by first | omega | exact (hM _ _).1 | exact (hM _ _).2) ?_
    refine je_cvP' jb_X10_turnLamp rfl (pc' := 77) rfl ((jh_row37 gq).1) (by rfl) (by first | decide | exact Nat.ble_eq_true_of_le (by omega)) (k37_addMany gq (by omega) (by omega)) (st' := []) rfl ?_
    exact je_ret jb_X10_turnLamp rfl (by rfl) ⟨rfl, by unfold wLamp; first | (rw [if_pos (by omega)]; rfl) | (rw [if_neg (by omega)]; rfl)⟩
  · refine je_ps jb_X10_turnLamp 4 (pc' := 71) (ls' := [_, _, _]) (st' := [_, _, _, _]) rfl ?_
    refine je_min jb_X10_turnLamp rfl (pc' := 74) rfl rfl rfl (by first | omega | exact (hM _ _).1 | exact (hM _ _).2) (by first | omega | exact (hM _ _).1 | exact (hM _ _).2) (by first | omega | exact (hM _ _).1 | exact (hM _ _).2) (by first | omega | exact (hM _ _).1 | exact (hM _ _).2) ?_
    refine je_cvP' jb_X10_turnLamp rfl (pc' := 77) rfl ((jh_row37 gq).1) (by rfl) (by first | decide | exact Nat.ble_eq_true_of_le (by omega)) (k37_addMany gq (by omega) (by omega)) (st' := []) rfl ?_
    exact je_ret jb_X10_turnLamp rfl (by rfl) ⟨rfl, by unfold wLamp; first | (rw [if_pos (by omega)]; rfl) | (rw [if_neg (by omega)]; rfl)⟩
/-- the writer's state: the row, where it is, how far it was -/
def wStep (s n k : Int) (L : Int → Int) (b : Int) (w : ((Int → Int) × Int) × Int × Int × Int) : ((Int → Int) × Int) × Int × Int × Int :=
  if w.2.1 + b < w.2.2.1 ∨ w.2.2.2 < w.2.1 + b then (fRAl 110 (fRA 110 w.1 (if 0 < b then 2 else 3)) (wLamp s n k L (w.2.1 + b)), w.2.1 + b, min w.2.2.1 (w.2.1 + b), max w.2.2.2 (w.2.1 + b)) else (fRA 110 w.1 (if 0 < b then 2 else 3), w.2.1 + b, w.2.2.1, w.2.2.2)
def wIt (s n k : Int) (L : Int → Int) (b : Int) (w : ((Int → Int) × Int) × Int × Int × Int) : Nat → ((Int → Int) × Int) × Int × Int × Int
  | 0 => w
  | v + 1 => wStep s n k L b (wIt s n k L b w v)
def wGo (s n k : Int) (L : Int → Int) (goal : Int) (w : ((Int → Int) × Int) × Int × Int × Int) : ((Int → Int) × Int) × Int × Int × Int := wIt s n k L (if w.2.1 < goal then 1 else -1) w (jabs (goal - w.2.1)).toNat
def wOk (w : ((Int → Int) × Int) × Int × Int × Int) : Prop := (0 ≤ w.1.2 ∧ w.1.2 ≤ 110) ∧ (-24 ≤ w.2.1 ∧ w.2.1 ≤ 24) ∧ (-24 ≤ w.2.2.1 ∧ w.2.2.1 ≤ 24) ∧ (-24 ≤ w.2.2.2 ∧ w.2.2.2 ≤ 24)
theorem wIt_i {s n k b : Int} {L : Int → Int} {w : ((Int → Int) × Int) × Int × Int × Int} (h : wOk w) (hb : b = 1 ∨ b = -1) : ∀ v : Nat, -24 ≤ w.2.1 + b * v ∧ w.2.1 + b * v ≤ 24 → (wIt s n k L b w v).2.1 = w.2.1 + b * v ∧ wOk (wIt s n k L b w v)
  | 0, _ => ⟨by show w.2.1 = _; simp, h⟩
  | v + 1, hv => by
    have e : b * ((v + 1 : Nat) : Int) = b * v + b := by
      rw [show ((v + 1 : Nat) : Int) = (v : Int) + 1 from rfl, Int.mul_add, Int.mul_one]
    have hv' : -24 ≤ w.2.1 + b * v ∧ w.2.1 + b * v ≤ 24 := by
      obtain ⟨_, h2, _⟩ := h
      rcases hb with hb | hb <;> subst hb <;> omega
    obtain ⟨q1, q2⟩ := wIt_i (s := s) (n := n) (k := k) (L := L) h hb v hv'
    obtain ⟨r1, r2, r3, r4⟩ := q2
    have ra := fRA_i (N := 110) (q := (wIt s n k L b w v).1) (x := if 0 < b then 2 else 3) r1
    have rb := fRAl_i (N := 110) (wLamp s n k L ((wIt s n k L b w v).2.1 + b)) (q := fRA 110 (wIt s n k L b w v).1 (if 0 < b then 2 else 3)) ra
    show (wStep s n k L b (wIt s n k L b w v)).2.1 = _ ∧ wOk (wStep s n k L b (wIt s n k L b w v))
    unfold wStep
    split
    · refine ⟨by show (wIt s n k L b w v).2.1 + b = _; omega, rb, ?_, ?_, ?_⟩
      · show -24 ≤ (wIt s n k L b w v).2.1 + b ∧ (wIt s n k L b w v).2.1 + b ≤ 24
        omega
      · show -24 ≤ min (wIt s n k L b w v).2.2.1 ((wIt s n k L b w v).2.1 + b) ∧ min (wIt s n k L b w v).2.2.1 ((wIt s n k L b w v).2.1 + b) ≤ 24
        omega
      · show -24 ≤ max (wIt s n k L b w v).2.2.2 ((wIt s n k L b w v).2.1 + b) ∧ max (wIt s n k L b w v).2.2.2 ((wIt s n k L b w v).2.1 + b) ≤ 24
        omega
    · refine ⟨by show (wIt s n k L b w v).2.1 + b = _; omega, ra, ?_, r3, r4⟩
      show -24 ≤ (wIt s n k L b w v).2.1 + b ∧ (wIt s n k L b w v).2.1 + b ≤ 24
      omega
def wH (m : Nat → Int → Int) (r : Nat → Nat → Value) (T : jx_H) (i : Nat) (w : ((Int → Int) × Int) × Int × Int × Int) : jx_H := jh (jR37 m w.1) r (T ++ [wCell i w.2.1 w.2.2.1 w.2.2.2])
theorem k_goTo_p {i : Nat} (hi : i < 13) {s n k e goal : Int} {L : Int → Int} {w : ((Int → Int) × Int) × Int × Int × Int} (g : jWk m i s n k L e) (hw : wOk w) (hg : -24 ≤ goal ∧ goal ≤ 24) (hgt : w.2.1<goal) : jq sc 6 jm_X10_goTo [.ref (62 + T.length), .int (jI goal)] (wH m r T i w) (jP none (wH m r T i (wIt s n k L 1 w (jabs (goal - w.2.1)).toNat))) := by
  have g0 := g
  have w2 := hw.2.1
  have ga := jabs_c (goal - w.2.1)
  refine je_in jb_X10_goTo rfl (ls := [_, _, _, _, _]) rfl ?_
  unfold wH wCell
  refine je_ps jb_X10_goTo 2 (pc' := 2) (ls' := [_, _, _, _, _]) (st' := [_, _]) rfl ?_
  refine je_get jb_X10_goTo rfl (pc' := 5) rfl (jT_get _ _ _ _) (by rfl) (by rfl) ?_
  refine je_isub jb_X10_goTo rfl (pc' := 6) rfl ?_
  refine je_abs jb_X10_goTo rfl (pc' := 9) rfl rfl rfl (by first | omega | exact (hM _ _).1 | exact (hM _ _).2) (by first | omega | exact (hM _ _).1 | exact (hM _ _).2) ?_
  refine je_ps jb_X10_goTo 3 (pc' := 12) (ls' := [_, _, _, _, _]) (st' := [_, _]) rfl ?_
  refine je_get jb_X10_goTo rfl (pc' := 15) rfl (jT_get _ _ _ _) (by rfl) (by rfl) ?_
  refine je_icmple jb_X10_goTo rfl (t := 22) rfl (pc' := 18) rfl (by first | omega | exact (hM _ _).1 | exact (hM _ _).2) (by first | omega | exact (hM _ _).1 | exact (hM _ _).2) (by first | omega | exact (hM _ _).1 | exact (hM _ _).2) (by first | omega | exact (hM _ _).1 | exact (hM _ _).2) (fun c15 => ?_) (fun c15 => ?_)
  · first | (exfalso; omega) | (cases c15; done) | (exfalso; simp_all; done)
  · refine je_ps jb_X10_goTo 5 (pc' := 27) (ls' := [_, _, _, _, _]) (st' := []) rfl ?_
    refine je_loop (fun (v : Nat) ls σ' => ls = [.ref (62 + T.length), .int (jI goal), .int (jI (jabs (goal - w.2.1))), .int (jI 1), .int (jI v)] ∧ σ' = jh (jR37 m (wIt s n k L 1 w v).1) r (T ++ [(10, [.ref (jwa i), .ref 39, .int (jI (wIt s n k L 1 w v).2.1), .int (jI (wIt s n k L 1 w v).2.2.1), .int (jI (wIt s n k L 1 w v).2.2.2)])])) ((jabs (goal - w.2.1)).toNat) ⟨rfl, rfl⟩ (fun v hv ls σ' gv kv => ?_) (fun ls σ' gv => ?_)
    · obtain ⟨rfl, rfl⟩ := gv
      have hit := wIt_i (s := s) (n := n) (k := k) (L := L) (b := 1) hw (by omega) v (by omega)
      obtain ⟨hi1, hi2, hi3, hi4, hi5⟩ := hit
      have gq := jQ37_R m hi2.1 hi2.2
      have ra := fRA_i (N := 110) (q := (wIt s n k L 1 w v).1) (x := if (0 : Int) < 1 then 2 else 3) hi2
      have g := g0.R37 hi (wIt s n k L 1 w v).1
      have gs : wIt s n k L 1 w (v + 1) = wStep s n k L 1 (wIt s n k L 1 w v) := rfl
      refine je_ps jb_X10_goTo 2 (pc' := 30) (ls' := [_, _, _, _, _]) (st' := [_, _]) rfl ?_
      refine je_icmpge jb_X10_goTo rfl (t := 92) rfl (pc' := 33) rfl (by first | omega | exact (hM _ _).1 | exact (hM _ _).2) (by first | omega | exact (hM _ _).1 | exact (hM _ _).2) (by first | omega | exact (hM _ _).1 | exact (hM _ _).2) (by first | omega | exact (hM _ _).1 | exact (hM _ _).2) (fun c30 => ?_) (fun c30 => ?_)
      · first | (exfalso; omega) | (cases c30; done) | (exfalso; simp_all; done)
      · refine je_ps jb_X10_goTo 1 (pc' := 34) (ls' := [_, _, _, _, _]) (st' := [_]) rfl ?_
        refine je_get jb_X10_goTo rfl (pc' := 37) rfl (jT_get _ _ _ _) (by rfl) (by rfl) ?_
        refine je_ps jb_X10_goTo 1 (pc' := 38) (ls' := [_, _, _, _, _]) (st' := [_, _]) rfl ?_
        refine je_ifle jb_X10_goTo rfl (t := 45) rfl (pc' := 41) rfl (by first | omega | exact (hM _ _).1 | exact (hM _ _).2) (by first | omega | exact (hM _ _).1 | exact (hM _ _).2) (fun c38 => ?_) (fun c38 => ?_)
        · first | (exfalso; omega) | (cases c38; done) | (exfalso; simp_all; done)
        · refine je_ps jb_X10_goTo 2 (pc' := 46) (ls' := [_, _, _, _, _]) (st' := [_, _]) rfl ?_
          refine je_cvP' jb_X10_goTo rfl (pc' := 49) rfl ((jh_row37 gq).1) (by rfl) (by first | decide | exact Nat.ble_eq_true_of_le (by omega)) (k37_add gq (by omega)) (st' := [_]) rfl ?_
          refine je_ps jb_X10_goTo 1 (pc' := 50) (ls' := [_, _, _, _, _]) (st' := []) rfl ?_
          have gq := jQ37_R m ra.1 ra.2
          have g := g0.R37 hi (fRA 110 (wIt s n k L 1 w v).1 (if (0 : Int) < 1 then 2 else 3))
          rw [jR37_R]
          refine je_ps jb_X10_goTo 2 (pc' := 52) (ls' := [_, _, _, _, _]) (st' := [_, _]) rfl ?_
          refine je_get jb_X10_goTo rfl (pc' := 55) rfl (jT_get _ _ _ _) (by rfl) (by rfl) ?_
          refine je_ps jb_X10_goTo 1 (pc' := 56) (ls' := [_, _, _, _, _]) (st' := [_, _, _]) rfl ?_
          refine je_iadd jb_X10_goTo rfl (pc' := 57) rfl ?_
          refine je_put jb_X10_goTo rfl (pc' := 60) rfl (jT_get _ _ _ _) (by rfl) (by rfl) (by rfl) (by rfl) ?_
          rw [jT_set]
          refine je_ps jb_X10_goTo 1 (pc' := 61) (ls' := [_, _, _, _, _]) (st' := [_]) rfl ?_
          refine je_get jb_X10_goTo rfl (pc' := 64) rfl (jT_get _ _ _ _) (by rfl) (by rfl) ?_
          refine je_ps jb_X10_goTo 1 (pc' := 65) (ls' := [_, _, _, _, _]) (st' := [_, _]) rfl ?_
          refine je_get jb_X10_goTo rfl (pc' := 68) rfl (jT_get _ _ _ _) (by rfl) (by rfl) ?_
          refine je_icmplt jb_X10_goTo rfl (t := 82) rfl (pc' := 71) rfl (by first | omega | exact (hM _ _).1 | exact (hM _ _).2) (by first | omega | exact (hM _ _).1 | exact (hM _ _).2) (by first | omega | exact (hM _ _).1 | exact (hM _ _).2) (by first | omega | exact (hM _ _).1 | exact (hM _ _).2) (fun c68 => ?_) (fun c68 => ?_)
          · refine je_ps jb_X10_goTo 1 (pc' := 83) (ls' := [_, _, _, _, _]) (st' := [_]) rfl ?_
            refine je_cvP' jb_X10_goTo rfl (pc' := 86) rfl (jT_get _ _ _ _) (by rfl) (by first | decide | exact Nat.ble_eq_true_of_le (by omega)) (k_turnLamp hi g gq (by omega) (by omega) (by omega)) (st' := []) rfl ?_
            refine je_iinc jb_X10_goTo rfl (pc' := 89) rfl rfl (ls' := [_, _, _, _, _]) rfl ?_
            refine je_ps jb_X10_goTo 1 (pc' := 27) (ls' := [_, _, _, _, _]) (st' := []) rfl ?_
            rw [gs] at kv
            unfold wStep at kv
            first | (rw [if_pos (by omega)] at kv; refine kv _ _ ⟨rfl, ?_⟩; rw [jR37_R]; rfl) | (rw [if_neg (by omega)] at kv; refine kv _ _ ⟨rfl, ?_⟩; rfl)
          · refine je_ps jb_X10_goTo 1 (pc' := 72) (ls' := [_, _, _, _, _]) (st' := [_]) rfl ?_
            refine je_get jb_X10_goTo rfl (pc' := 75) rfl (jT_get _ _ _ _) (by rfl) (by rfl) ?_
            refine je_ps jb_X10_goTo 1 (pc' := 76) (ls' := [_, _, _, _, _]) (st' := [_, _]) rfl ?_
            refine je_get jb_X10_goTo rfl (pc' := 79) rfl (jT_get _ _ _ _) (by rfl) (by rfl) ?_
            refine je_icmple jb_X10_goTo rfl (t := 86) rfl (pc' := 82) rfl (by first | omega | exact (hM _ _).1 | exact (hM _ _).2) (by first | omega | exact (hM _ _).1 | exact (hM _ _).2) (by first | omega | exact (hM _ _).1 | exact (hM _ _).2) (by first | omega | exact (hM _ _).1 | exact (hM _ _).2) (fun c79 => ?_) (fun c79 => ?_)
            · refine je_iinc jb_X10_goTo rfl (pc' := 89) rfl rfl (ls' := [_, _, _, _, _]) rfl ?_
              refine je_ps jb_X10_goTo 1 (pc' := 27) (ls' := [_, _, _, _, _]) (st' := []) rfl ?_
              rw [gs] at kv
              unfold wStep at kv
              first | (rw [if_pos (by omega)] at kv; refine kv _ _ ⟨rfl, ?_⟩; rw [jR37_R]; rfl) | (rw [if_neg (by omega)] at kv; refine kv _ _ ⟨rfl, ?_⟩; rfl)
            · refine je_ps jb_X10_goTo 1 (pc' := 83) (ls' := [_, _, _, _, _]) (st' := [_]) rfl ?_
              refine je_cvP' jb_X10_goTo rfl (pc' := 86) rfl (jT_get _ _ _ _) (by rfl) (by first | decide | exact Nat.ble_eq_true_of_le (by omega)) (k_turnLamp hi g gq (by omega) (by omega) (by omega)) (st' := []) rfl ?_
              refine je_iinc jb_X10_goTo rfl (pc' := 89) rfl rfl (ls' := [_, _, _, _, _]) rfl ?_
              refine je_ps jb_X10_goTo 1 (pc' := 27) (ls' := [_, _, _, _, _]) (st' := []) rfl ?_
              rw [gs] at kv
              unfold wStep at kv
              first | (rw [if_pos (by omega)] at kv; refine kv _ _ ⟨rfl, ?_⟩; rw [jR37_R]; rfl) | (rw [if_neg (by omega)] at kv; refine kv _ _ ⟨rfl, ?_⟩; rfl)
    · obtain ⟨rfl, rfl⟩ := gv
      refine je_ps jb_X10_goTo 2 (pc' := 30) (ls' := [_, _, _, _, _]) (st' := [_, _]) rfl ?_
      refine je_icmpge jb_X10_goTo rfl (t := 92) rfl (pc' := 33) rfl (by first | omega | exact (hM _ _).1 | exact (hM _ _).2) (by first | omega | exact (hM _ _).1 | exact (hM _ _).2) (by first | omega | exact (hM _ _).1 | exact (hM _ _).2) (by first | omega | exact (hM _ _).1 | exact (hM _ _).2) (fun c30 => ?_) (fun c30 => ?_)
      · exact je_ret jb_X10_goTo rfl (by rfl) ⟨by (first | rfl | (refine jv_t ?_; simp only [decide_eq_true_eq]; omega) | (refine jv_f ?_; simp only [decide_eq_false_iff_not]; omega) | (refine jv_I ?_; omega)), by (first | rfl | (refine jv_t ?_; simp only [decide_eq_true_eq]; omega) | (refine jv_f ?_; simp only [decide_eq_false_iff_not]; omega) | (refine jv_I ?_; omega))⟩
      · first | (exfalso; omega) | (cases c30; done) | (exfalso; simp_all; done)
theorem k_goTo_q {i : Nat} (hi : i < 13) {s n k e goal : Int} {L : Int → Int} {w : ((Int → Int) × Int) × Int × Int × Int} (g : jWk m i s n k L e) (hw : wOk w) (hg : -24 ≤ goal ∧ goal ≤ 24) (hgt : ¬w.2.1<goal) : jq sc 6 jm_X10_goTo [.ref (62 + T.length), .int (jI goal)] (wH m r T i w) (jP none (wH m r T i (wIt s n k L (-1) w (jabs (goal - w.2.1)).toNat))) := by
  have g0 := g
  have w2 := hw.2.1
  have ga := jabs_c (goal - w.2.1)
  refine je_in jb_X10_goTo rfl (ls := [_, _, _, _, _]) rfl ?_
  unfold wH wCell
  refine je_ps jb_X10_goTo 2 (pc' := 2) (ls' := [_, _, _, _, _]) (st' := [_, _]) rfl ?_
  refine je_get jb_X10_goTo rfl (pc' := 5) rfl (jT_get _ _ _ _) (by rfl) (by rfl) ?_
  refine je_isub jb_X10_goTo rfl (pc' := 6) rfl ?_
  refine je_abs jb_X10_goTo rfl (pc' := 9) rfl rfl rfl (by first | omega | exact (hM _ _).1 | exact (hM _ _).2) (by first | omega | exact (hM _ _).1 | exact (hM _ _).2) ?_
  refine je_ps jb_X10_goTo 3 (pc' := 12) (ls' := [_, _, _, _, _]) (st' := [_, _]) rfl ?_
  refine je_get jb_X10_goTo rfl (pc' := 15) rfl (jT_get _ _ _ _) (by rfl) (by rfl) ?_
  refine je_icmple jb_X10_goTo rfl (t := 22) rfl (pc' := 18) rfl (by first | omega | exact (hM _ _).1 | exact (hM _ _).2) (by first | omega | exact (hM _ _).1 | exact (hM _ _).2) (by first | omega | exact (hM _ _).1 | exact (hM _ _).2) (by first | omega | exact (hM _ _).1 | exact (hM _ _).2) (fun c15 => ?_) (fun c15 => ?_)
  · refine je_ps jb_X10_goTo 4 (pc' := 27) (ls' := [_, _, _, _, _]) (st' := []) rfl ?_
    refine je_loop (fun (v : Nat) ls σ' => ls = [.ref (62 + T.length), .int (jI goal), .int (jI (jabs (goal - w.2.1))), .int (jI (-1)), .int (jI v)] ∧ σ' = jh (jR37 m (wIt s n k L (-1) w v).1) r (T ++ [(10, [.ref (jwa i), .ref 39, .int (jI (wIt s n k L (-1) w v).2.1), .int (jI (wIt s n k L (-1) w v).2.2.1), .int (jI (wIt s n k L (-1) w v).2.2.2)])])) ((jabs (goal - w.2.1)).toNat) ⟨rfl, rfl⟩ (fun v hv ls σ' gv kv => ?_) (fun ls σ' gv => ?_)
    · obtain ⟨rfl, rfl⟩ := gv
      have hit := wIt_i (s := s) (n := n) (k := k) (L := L) (b := (-1)) hw (by omega) v (by omega)
      obtain ⟨hi1, hi2, hi3, hi4, hi5⟩ := hit
      have gq := jQ37_R m hi2.1 hi2.2
      have ra := fRA_i (N := 110) (q := (wIt s n k L (-1) w v).1) (x := if (0 : Int) < (-1) then 2 else 3) hi2
      have g := g0.R37 hi (wIt s n k L (-1) w v).1
      have gs : wIt s n k L (-1) w (v + 1) = wStep s n k L (-1) (wIt s n k L (-1) w v) := rfl
      refine je_ps jb_X10_goTo 2 (pc' := 30) (ls' := [_, _, _, _, _]) (st' := [_, _]) rfl ?_
      refine je_icmpge jb_X10_goTo rfl (t := 92) rfl (pc' := 33) rfl (by first | omega | exact (hM _ _).1 | exact (hM _ _).2) (by first | omega | exact (hM _ _).1 | exact (hM _ _).2) (by first | omega | exact (hM _ _).1 | exact (hM _ _).2) (by first | omega | exact (hM _ _).1 | exact (hM _ _).2) (fun c30 => ?_) (fun c30 => ?_)
      · first | (exfalso; omega) | (cases c30; done) | (exfalso; simp_all; done)
      · refine je_ps jb_X10_goTo 1 (pc' := 34) (ls' := [_, _, _, _, _]) (st' := [_]) rfl ?_
        refine je_get jb_X10_goTo rfl (pc' := 37) rfl (jT_get _ _ _ _) (by rfl) (by rfl) ?_
        refine je_ps jb_X10_goTo 1 (pc' := 38) (ls' := [_, _, _, _, _]) (st' := [_, _]) rfl ?_
        refine je_ifle jb_X10_goTo rfl (t := 45) rfl (pc' := 41) rfl (by first | omega | exact (hM _ _).1 | exact (hM _ _).2) (by first | omega | exact (hM _ _).1 | exact (hM _ _).2) (fun c38 => ?_) (fun c38 => ?_)
        · refine je_ps jb_X10_goTo 1 (pc' := 46) (ls' := [_, _, _, _, _]) (st' := [_, _]) rfl ?_
          refine je_cvP' jb_X10_goTo rfl (pc' := 49) rfl ((jh_row37 gq).1) (by rfl) (by first | decide | exact Nat.ble_eq_true_of_le (by omega)) (k37_add gq (by omega)) (st' := [_]) rfl ?_
          refine je_ps jb_X10_goTo 1 (pc' := 50) (ls' := [_, _, _, _, _]) (st' := []) rfl ?_
          have gq := jQ37_R m ra.1 ra.2
          have g := g0.R37 hi (fRA 110 (wIt s n k L (-1) w v).1 (if (0 : Int) < (-1) then 2 else 3))
          rw [jR37_R]
          refine je_ps jb_X10_goTo 2 (pc' := 52) (ls' := [_, _, _, _, _]) (st' := [_, _]) rfl ?_
          refine je_get jb_X10_goTo rfl (pc' := 55) rfl (jT_get _ _ _ _) (by rfl) (by rfl) ?_
          refine je_ps jb_X10_goTo 1 (pc' := 56) (ls' := [_, _, _, _, _]) (st' := [_, _, _]) rfl ?_
          refine je_iadd jb_X10_goTo rfl (pc' := 57) rfl ?_
          refine je_put jb_X10_goTo rfl (pc' := 60) rfl (jT_get _ _ _ _) (by rfl) (by rfl) (by rfl) (by rfl) ?_
          rw [jT_set]
          refine je_ps jb_X10_goTo 1 (pc' := 61) (ls' := [_, _, _, _, _]) (st' := [_]) rfl ?_
          refine je_get jb_X10_goTo rfl (pc' := 64) rfl (jT_get _ _ _ _) (by rfl) (by rfl) ?_
          refine je_ps jb_X10_goTo 1 (pc' := 65) (ls' := [_, _, _, _, _]) (st' := [_, _]) rfl ?_
          refine je_get jb_X10_goTo rfl (pc' := 68) rfl (jT_get _ _ _ _) (by rfl) (by rfl) ?_
          refine je_icmplt jb_X10_goTo rfl (t := 82) rfl (pc' := 71) rfl (by first | omega | exact (hM _ _).1 | exact (hM _ _).2) (by first | omega | exact (hM _ _).1 | exact (hM _ _).2) (by first | omega | exact (hM _ _).1 | exact (hM _ _).2) (by first | omega | exact (hM _ _).1 | exact (hM _ _).2) (fun c68 => ?_) (fun c68 => ?_)
          · refine je_ps jb_X10_goTo 1 (pc' := 83) (ls' := [_, _, _, _, _]) (st' := [_]) rfl ?_
            refine je_cvP' jb_X10_goTo rfl (pc' := 86) rfl (jT_get _ _ _ _) (by rfl) (by first | decide | exact Nat.ble_eq_true_of_le (by omega)) (k_turnLamp hi g gq (by omega) (by omega) (by omega)) (st' := []) rfl ?_
            refine je_iinc jb_X10_goTo rfl (pc' := 89) rfl rfl (ls' := [_, _, _, _, _]) rfl ?_
            refine je_ps jb_X10_goTo 1 (pc' := 27) (ls' := [_, _, _, _, _]) (st' := []) rfl ?_
            rw [gs] at kv
            unfold wStep at kv
            first | (rw [if_pos (by omega)] at kv; refine kv _ _ ⟨rfl, ?_⟩; rw [jR37_R]; rfl) | (rw [if_neg (by omega)] at kv; refine kv _ _ ⟨rfl, ?_⟩; rfl)
          · refine je_ps jb_X10_goTo 1 (pc' := 72) (ls' := [_, _, _, _, _]) (st' := [_]) rfl ?_
            refine je_get jb_X10_goTo rfl (pc' := 75) rfl (jT_get _ _ _ _) (by rfl) (by rfl) ?_
            refine je_ps jb_X10_goTo 1 (pc' := 76) (ls' := [_, _, _, _, _]) (st' := [_, _]) rfl ?_
            refine je_get jb_X10_goTo rfl (pc' := 79) rfl (jT_get _ _ _ _) (by rfl) (by rfl) ?_
            refine je_icmple jb_X10_goTo rfl (t := 86) rfl (pc' := 82) rfl (by first | omega | exact (hM _ _).1 | exact (hM _ _).2) (by first | omega | exact (hM _ _).1 | exact (hM _ _).2) (by first | omega | exact (hM _ _).1 | exact (hM _ _).2) (by first | omega | exact (hM _ _).1 | exact (hM _ _).2) (fun c79 => ?_) (fun c79 => ?_)
            · refine je_iinc jb_X10_goTo rfl (pc' := 89) rfl rfl (ls' := [_, _, _, _, _]) rfl ?_
              refine je_ps jb_X10_goTo 1 (pc' := 27) (ls' := [_, _, _, _, _]) (st' := []) rfl ?_
              rw [gs] at kv
              unfold wStep at kv
              first | (rw [if_pos (by omega)] at kv; refine kv _ _ ⟨rfl, ?_⟩; rw [jR37_R]; rfl) | (rw [if_neg (by omega)] at kv; refine kv _ _ ⟨rfl, ?_⟩; rfl)
            · refine je_ps jb_X10_goTo 1 (pc' := 83) (ls' := [_, _, _, _, _]) (st' := [_]) rfl ?_
              refine je_cvP' jb_X10_goTo rfl (pc' := 86) rfl (jT_get _ _ _ _) (by rfl) (by first | decide | exact Nat.ble_eq_true_of_le (by omega)) (k_turnLamp hi g gq (by omega) (by omega) (by omega)) (st' := []) rfl ?_
              refine je_iinc jb_X10_goTo rfl (pc' := 89) rfl rfl (ls' := [_, _, _, _, _]) rfl ?_
              refine je_ps jb_X10_goTo 1 (pc' := 27) (ls' := [_, _, _, _, _]) (st' := []) rfl ?_
              rw [gs] at kv
              unfold wStep at kv
              first | (rw [if_pos (by omega)] at kv; refine kv _ _ ⟨rfl, ?_⟩; rw [jR37_R]; rfl) | (rw [if_neg (by omega)] at kv; refine kv _ _ ⟨rfl, ?_⟩; rfl)
        · first | (exfalso; omega) | (cases c38; done) | (exfalso; simp_all; done)
    · obtain ⟨rfl, rfl⟩ := gv
      refine je_ps jb_X10_goTo 2 (pc' := 30) (ls' := [_, _, _, _, _]) (st' := [_, _]) rfl ?_
      refine je_icmpge jb_X10_goTo rfl (t := 92) rfl (pc' := 33) rfl (by first | omega | exact (hM _ _).1 | exact (hM _ _).2) (by first | omega | exact (hM _ _).1 | exact (hM _ _).2) (by first | omega | exact (hM _ _).1 | exact (hM _ _).2) (by first | omega | exact (hM _ _).1 | exact (hM _ _).2) (fun c30 => ?_) (fun c30 => ?_)
      · exact je_ret jb_X10_goTo rfl (by rfl) ⟨by (first | rfl | (refine jv_t ?_; simp only [decide_eq_true_eq]; omega) | (refine jv_f ?_; simp only [decide_eq_false_iff_not]; omega) | (refine jv_I ?_; omega)), by (first | rfl | (refine jv_t ?_; simp only [decide_eq_true_eq]; omega) | (refine jv_f ?_; simp only [decide_eq_false_iff_not]; omega) | (refine jv_I ?_; omega))⟩
      · first | (exfalso; omega) | (cases c30; done) | (exfalso; simp_all; done)
  · first | (exfalso; omega) | (cases c15; done) | (exfalso; simp_all; done)
theorem k_goTo {i : Nat} (hi : i < 13) {s n k e goal : Int} {L : Int → Int} {w : ((Int → Int) × Int) × Int × Int × Int} (g : jWk m i s n k L e) (hw : wOk w) (hg : -24 ≤ goal ∧ goal ≤ 24) : jq sc 6 jm_X10_goTo [.ref (62 + T.length), .int (jI goal)] (wH m r T i w) (jP none (wH m r T i (wGo s n k L goal w))) := by
  unfold wGo
  by_cases h : w.2.1 < goal
  · rw [if_pos h]
    exact k_goTo_p hi g hw hg h
  · rw [if_neg h]
    exact k_goTo_q hi g hw hg h
end C25
