/-! ORDERS: powers one behind another, told plainly -/
section C38
theorem fSum_c {f g : Int → Int} : ∀ v : Nat, (∀ p : Nat, p < v → f (p : Int) = g (p : Int)) → fSum f v = fSum g v
  | 0, _ => rfl
  | v + 1, h => by
    show fSum f v + f (v : Int) = fSum g v + g (v : Int)
    rw [fSum_c v (fun p hp => h p (by omega)), h v (by omega)]
theorem fSum_0 {f : Int → Int} : ∀ v : Nat, (∀ p : Nat, p < v → f (p : Int) = 0) → fSum f v = 0
  | 0, _ => rfl
  | v + 1, h => by
    show fSum f v + f (v : Int) = 0
    rw [fSum_0 v (fun p hp => h p (by omega)), h v (by omega)]
    rfl
theorem fSum_more {f : Int → Int} {a : Nat} : ∀ j : Nat, (∀ p : Nat, a ≤ p → p < a + j → f (p : Int) = 0) → fSum f (a + j) = fSum f a
  | 0, _ => rfl
  | j + 1, h => by
    show fSum f (a + j) + f ((a + j : Nat) : Int) = fSum f a
    rw [fSum_more j (fun p h1 h2 => h p h1 (by omega)), h (a + j) (by omega) (by omega), Int.add_zero]
theorem fSum_list (f : Int → Int) : ∀ v : Nat, fSum f v = ((List.range v).map (fun p : Nat => f (p : Int))).sum
  | 0 => rfl
  | v + 1 => by
    show fSum f v + f (v : Int) = _
    rw [List.range_succ, List.map_append, List.sum_append_int, fSum_list f v]
    simp
theorem fSum_filter (P : Nat → Bool) (f : Int → Int) : ∀ v : Nat, fSum (fun p => if P p.toNat = true then f p else 0) v = (((List.range v).filter P).map (fun p : Nat => f (p : Int))).sum
  | 0 => rfl
  | v + 1 => by
    show fSum (fun p => if P p.toNat = true then f p else 0) v + (if P ((v : Int).toNat) = true then f (v : Int) else 0) = _
    rw [List.range_succ, List.filter_append, List.map_append, List.sum_append_int, fSum_filter P f v, Int.toNat_natCast]
    cases h : P v <;> simp [h]
theorem perm_sum {l l' : List Int} (h : l.Perm l') : l.sum = l'.sum := by
  induction h with
  | nil => rfl
  | cons x _ ih => simp only [List.sum_cons, ih]
  | swap x y l => simp only [List.sum_cons]; omega
  | trans _ _ ih1 ih2 => exact ih1.trans ih2
theorem fSum_add (f : Int → Int) (a : Nat) : ∀ b : Nat, fSum f (a + b) = fSum f a + fSum (fun p => f ((a : Int) + p)) b
  | 0 => by show fSum f a = fSum f a + 0; omega
  | b + 1 => by
    show fSum f (a + b) + f ((a + b : Nat) : Int) = fSum f a + (fSum (fun p => f ((a : Int) + p)) b + f ((a : Int) + (b : Int)))
    rw [fSum_add f a b, show ((a + b : Nat) : Int) = (a : Int) + (b : Int) by omega]
    omega
/-- numbers found by trying all -/
theorem o_fin1 : ∀ n : Nat, n < 9 → ∀ e : Nat, e < n → 1 ≤ fGcd (e : Int) (n : Int) ∧ fGcd (e : Int) (n : Int) ≤ n ∧ (n : Int) % fGcd (e : Int) (n : Int) = 0 := by decide +kernel
theorem o_fin2 : ∀ n : Nat, n < 9 → ∀ e : Nat, e < n → ∀ q : Nat, q < 41 → (((q : Int) * e) % n = 0 ↔ q % (n / (fGcd (e : Int) (n : Int)).toNat) = 0) := by decide +kernel
theorem o_fin3 : ∀ n : Nat, n < 9 → ∀ e : Nat, e < n → ∀ x : Nat, x < n → ((List.range (n / (fGcd (e : Int) (n : Int)).toNat)).map (fun t : Nat => (((x : Int) - t * e) % n).toNat)).isPerm ((List.range n).filter (fun c => c % (fGcd (e : Int) (n : Int)).toNat == x % (fGcd (e : Int) (n : Int)).toNat)) = true := by decide +kernel
/-- one walk TIMES itself, again and again -/
def oP (s n k : Int) (L : Int → Int) (e : Int) : Nat → (Int → Int) × Int
  | 0 => (L, e)
  | j + 1 => (fMulL s n k (oP s n k L e j).1 (oP s n k L e j).2 L 25, fRe s n (oP s n k L e j).2 e)
theorem fRe_C {n k c b : Int} (h : fS 1 n k) : fC 1 n (fRe 1 n c b) := by
  unfold fRe fC
  unfold fS at h
  rw [if_pos rfl, show fLo 1 = 0 from rfl]
  have := Int.emod_nonneg (c + b) (show n ≠ 0 by omega)
  have := Int.emod_lt_of_pos (c + b) (show 0 < n by omega)
  omega
theorem oP_ok {s n k e : Int} {L : Int → Int} (h : fS s n k) (hL : fL n k L) (he : fC s n e) (hse : s = 0 → e = 0) : ∀ j, fL n k (oP s n k L e j).1 ∧ fC s n (oP s n k L e j).2 ∧ (s = 0 → (oP s n k L e j).2 = 0)
  | 0 => ⟨hL, he, hse⟩
  | j + 1 => by
    have q := oP_ok h hL he hse j
    refine ⟨fMulL_ok h q.1 _, ?_, fun hs => ?_⟩
    · have gs := h
      unfold fS at gs
      by_cases h0 : s = 0
      · show fC s n (fRe s n (oP s n k L e j).2 e)
        rw [q.2.2 h0, hse h0]
        have : fRe s n 0 0 = 0 := by unfold fRe; rw [if_neg (by omega)]; rfl
        rw [this]
        exact fC_0 h
      · have h1 : s = 1 := by omega
        subst h1
        exact fRe_C h
    · show fRe s n (oP s n k L e j).2 e = 0
      rw [q.2.2 hs, hse hs]
      unfold fRe
      rw [if_neg (by omega)]
      rfl
theorem fMul_all {s n k e e2 : Int} {L L2 : Int → Int} (h : fS s n k) (he : fC s n e) (hL2 : fL n k L2) (h0 : s = 0 → e = 0 ∧ e2 = 0) : fMul s n k L e L2 e2 = (true, fMulL s n k L e L2 25, fRe s n e e2) := by
  unfold fMul
  have gs := h
  unfold fS at gs
  rw [if_pos]
  by_cases q : s = 0
  · obtain ⟨q1, q2⟩ := h0 q
    subst q1; subst q2; subst q
    have e1 : ∀ c, fRe 0 n c 0 = c := fun c => by unfold fRe; rw [if_neg (by omega), Int.add_zero]
    refine ⟨?_, fFit_iff.mpr fun p h1 h2 h3 => ?_⟩
    · rw [e1]
      exact decide_eq_true (fC_0 h)
    · rw [e1]
      refine decide_eq_true ?_
      by_cases hp : n ≤ p
      · have := hL2.2 p hp
        omega
      · omega
  · have h1 : s = 1 := by omega
    subst h1
    exact ⟨decide_eq_true (fRe_C h), fFit_iff.mpr fun p _ _ _ => decide_eq_true (fRe_C h)⟩
theorem oP_s {s n k e : Int} {L : Int → Int} (h : fS s n k) (hL : fL n k L) (he : fC s n e) (hse : s = 0 → e = 0) (j : Nat) : fMul s n k (oP s n k L e j).1 (oP s n k L e j).2 L e = (true, oP s n k L e (j + 1)) := by
  have q := oP_ok h hL he hse j
  rw [fMul_all h q.2.1 hL (fun hs => ⟨q.2.2 hs, hse hs⟩)]
  rfl
/-- what a product shows at a corner -/
theorem fMulL_free {s n k e : Int} {L L2 : Int → Int} (h : fS s n k) : ∀ (v q : Nat), (q : Int) < n → v ≤ q → fC s n (fRe s n (fLo s + (q : Int)) e) → fMulL s n k L e L2 v (fRe s n (fLo s + (q : Int)) e - fLo s) = L (fRe s n (fLo s + (q : Int)) e - fLo s)
  | 0, _, _, _, _ => rfl
  | v + 1, q, hq, hv, hc => by
    have ih := fMulL_free (L := L) (L2 := L2) h v q hq (by omega) hc
    show fTu s n k (fMulL s n k L e L2 v) (fRe s n (fLo s + (v : Int)) e) _ _ = _
    have pl := fPl_i h (fRe s n (fLo s + (v : Int)) e)
    unfold fTu
    split
    · rename_i h1
      rw [ju_ne]
      · exact ih
      · intro e2
        have e1 : fPl s n (fRe s n (fLo s + (v : Int)) e) = fRe s n (fLo s + (v : Int)) e - fLo s := by
          rcases pl with q1 | q1
          · exact q1.2.1
          · rw [h1] at q1; exact absurd q1.1 (by decide)
        rw [e1] at e2
        have := fRe_inj (b := e) (p := q) (q := v) h hq (by omega) (by omega)
        omega
    · exact ih
theorem fMulL_at {s n k e : Int} {L L2 : Int → Int} (h : fS s n k) : ∀ (v q : Nat), (v : Int) ≤ n → q < v → fC s n (fRe s n (fLo s + (q : Int)) e) → fMulL s n k L e L2 v (fRe s n (fLo s + (q : Int)) e - fLo s) = (L (fRe s n (fLo s + (q : Int)) e - fLo s) + L2 (q : Int)) % k
  | 0, _, _, h1, _ => by omega
  | v + 1, q, hv, hq, hc => by
    have gs := h
    unfold fS at gs
    show fTu s n k (fMulL s n k L e L2 v) (fRe s n (fLo s + (v : Int)) e) (fAt L2 (v : Int)) _ = _
    rw [fAt_in (by omega)]
    by_cases e1 : q = v
    · subst e1
      rw [fTu_at hc, ju_same, fMulL_free h q q (by omega) (Nat.le_refl _) hc]
    · have ih := fMulL_at (L := L) (L2 := L2) h v q (by omega) (by omega) hc
      have pl := fPl_i h (fRe s n (fLo s + (v : Int)) e)
      unfold fTu
      split
      · rename_i h1
        rw [ju_ne]
        · exact ih
        · intro e2
          have e3 : fPl s n (fRe s n (fLo s + (v : Int)) e) = fRe s n (fLo s + (v : Int)) e - fLo s := by
            rcases pl with q1 | q1
            · exact q1.2.1
            · rw [h1] at q1; exact absurd q1.1 (by decide)
          rw [e3] at e2
          have := fRe_inj (b := e) (p := q) (q := v) h (by omega) (by omega) (by omega)
          omega
      · exact ih
theorem fMulL_ring {n k e : Int} {L L2 : Int → Int} (h : fS 1 n k) (hL : fL n k L) (hL2 : fL n k L2) {x : Int} (h0 : 0 ≤ x) (h1 : x < n) : fMulL 1 n k L e L2 25 x = (L x + L2 ((x - e) % n)) % k := by
  have gs := h
  unfold fS at gs
  have a1 := Int.emod_nonneg (x - e) (show n ≠ 0 by omega)
  have a2 := Int.emod_lt_of_pos (x - e) (show 0 < n by omega)
  obtain ⟨q, hq⟩ := Int.eq_ofNat_of_zero_le a1
  have e1 : fRe 1 n (fLo 1 + (q : Int)) e - fLo 1 = x := by
    unfold fRe
    rw [if_pos rfl, show fLo 1 = 0 from rfl, Int.zero_add, ← hq, Int.emod_add_emod, Int.sub_add_cancel, Int.emod_eq_of_lt h0 h1]
    omega
  have q1 := fMulL_at (L := L) (L2 := L2) (e := e) h n.toNat q (by omega) (by omega) (fRe_C h)
  rw [e1, ← fMulL_25 h hL hL2, ← hq] at q1
  exact q1
theorem fMulL_line {n k : Int} {L L2 : Int → Int} (h : fS 0 n k) {x : Int} (h0 : 0 ≤ x) (h1 : x < 25) : fMulL 0 n k L 0 L2 25 x = (L x + L2 x) % k := by
  have gs := h
  unfold fS at gs
  obtain ⟨q, hq⟩ := Int.eq_ofNat_of_zero_le h0
  have e1 : fRe 0 n (fLo 0 + (q : Int)) 0 = fLo 0 + (q : Int) := by
    unfold fRe
    rw [if_neg (by omega), Int.add_zero]
  have q1 := fMulL_at (L := L) (L2 := L2) (e := 0) h 25 q (by omega) (by omega) (by rw [e1]; unfold fC; omega)
  rw [e1, show fLo 0 + (q : Int) - fLo 0 = (q : Int) by omega, ← hq] at q1
  exact q1
def oS (n : Int) (L : Int → Int) (e : Int) (x : Int) : Nat → Int := fSum (fun t => L ((x - t * e) % n))
theorem oP_ring {n k e : Int} {L : Int → Int} (h : fS 1 n k) (hL : fL n k L) (he : fC 1 n e) : ∀ j : Nat, (oP 1 n k L e j).2 = (((j : Int) + 1) * e) % n ∧ ∀ x : Int, 0 ≤ x → x < n → (oP 1 n k L e j).1 x = oS n L e x (j + 1) % k
  | 0 => by
    have gs := h
    unfold fS at gs
    unfold fC at he
    rw [show fLo 1 = 0 from rfl] at he
    refine ⟨?_, fun x h0 h1 => ?_⟩
    · show e = _
      rw [show ((0 : Nat) : Int) + 1 = 1 from rfl, Int.one_mul, Int.emod_eq_of_lt (by omega) (by omega)]
    · show L x = (0 + L ((x - ((0 : Nat) : Int) * e) % n)) % k
      have q := hL.1 x
      rw [show ((0 : Nat) : Int) * e = 0 from Int.zero_mul e, Int.sub_zero, Int.zero_add, Int.emod_eq_of_lt h0 h1, Int.emod_eq_of_lt q.1 q.2]
  | j + 1 => by
    have ih := oP_ring h hL he j
    have ok := oP_ok h hL he (fun hs => by cases hs) j
    have em : ((((j + 1 : Nat) : Int)) + 1) * e = ((j : Int) + 1) * e + e := by
      rw [show (((j + 1 : Nat) : Int)) + 1 = ((j : Int) + 1) + 1 by omega, Int.add_mul, Int.one_mul]
    refine ⟨?_, fun x h0 h1 => ?_⟩
    · show fRe 1 n (oP 1 n k L e j).2 e = _
      unfold fRe
      rw [if_pos rfl, ih.1, Int.emod_add_emod, em]
    · show fMulL 1 n k (oP 1 n k L e j).1 (oP 1 n k L e j).2 L 25 x = (oS n L e x (j + 1) + L ((x - ((j + 1 : Nat) : Int) * e) % n)) % k
      rw [fMulL_ring h ok.1 hL h0 h1, ih.2 x h0 h1, ih.1, Int.sub_emod_emod, Int.emod_add_emod]
      rfl
theorem oP_line {n k : Int} {L : Int → Int} (h : fS 0 n k) (hL : fL n k L) : ∀ j : Nat, (oP 0 n k L 0 j).2 = 0 ∧ ∀ x : Int, 0 ≤ x → x < 25 → (oP 0 n k L 0 j).1 x = (((j : Int) + 1) * L x) % k
  | 0 => by
    refine ⟨rfl, fun x h0 h1 => ?_⟩
    have q := hL.1 x
    show L x = _
    rw [show ((0 : Nat) : Int) + 1 = 1 from rfl, Int.one_mul, Int.emod_eq_of_lt q.1 q.2]
  | j + 1 => by
    have ih := oP_line h hL j
    refine ⟨?_, fun x h0 h1 => ?_⟩
    · show fRe 0 n (oP 0 n k L 0 j).2 0 = 0
      rw [ih.1]
      unfold fRe
      rw [if_neg (by omega)]
      rfl
    · show fMulL 0 n k (oP 0 n k L 0 j).1 (oP 0 n k L 0 j).2 L 25 x = _
      rw [ih.1, fMulL_line h h0 h1, ih.2 x h0 h1, Int.emod_add_emod]
      rw [show (((j + 1 : Nat) : Int)) + 1 = ((j : Int) + 1) + 1 by omega, Int.add_mul ((j : Int) + 1) 1, Int.one_mul]
end C38
