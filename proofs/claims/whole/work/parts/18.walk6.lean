/-! THE CLASS'S WALK, sums, likes, orders -/
section C18
variable {sc : Nat × (Nat → Int32)} {m : Nat → Int → Int} {r : Nat → Nat → Value} {T : jx_H} {σ : jx_H}
def fNz (L : Int → Int) : Nat := fFst (fun q => decide (L (q : Int) ≠ 0)) 0 25
theorem k_firstLit {i : Nat} (hi : i < 13) {s n k e : Int} {L : Int → Int} (g : jWk m i s n k L e) : jq sc 1 jm_X8_firstLit [.ref (jwa i)] (jh m r T) (jP (some (.int (jI (fNz L)))) (jh m r T)) := by
  have gk : 2 ≤ k ∧ k ≤ 5 := g.1.2.2
  refine je_in jb_X8_firstLit rfl (ls := [_, _]) rfl ?_
  refine je_ps jb_X8_firstLit 2 (pc' := 2) (ls' := [_, _]) (st' := []) rfl ?_
  refine je_loop (fun (v : Nat) ls σ' => ls = [.ref (jwa i), .int (jI v)] ∧ σ' = jh m r T ∧ ∀ q, q < v → decide (L (q : Int) ≠ 0) = false) (25) ⟨rfl, rfl, fun q hq => by omega⟩ (fun v hv ls σ' gv kv => ?_) (fun ls σ' gv => ?_)
  · obtain ⟨rfl, rfl, fv⟩ := gv
    have gq := g.2.2.2.1.1 (v : Int)
    refine je_ps jb_X8_firstLit 2 (pc' := 4) (ls' := [_, _]) (st' := [_, _]) rfl ?_
    refine je_get jb_X8_firstLit rfl (pc' := 7) rfl (by first | exact jh_V hi g | exact jh_V hi (g0.R37 hi _) | exact jh_walk hi) (by rfl) (by rfl) ?_
    refine je_alen jb_X8_firstLit rfl (pc' := 8) rfl (jh_VL hi g) ?_
    refine je_icmpge jb_X8_firstLit rfl (t := 26) rfl (pc' := 11) rfl (by first | omega | exact (hM _ _).1 | exact (hM _ _).2) (by first | omega | exact (hM _ _).1 | exact (hM _ _).2) (by first | omega | exact (hM _ _).1 | exact (hM _ _).2) (by first | omega | exact (hM _ _).1 | exact (hM _ _).2) (fun c8 => ?_) (fun c8 => ?_)
    · first | (exfalso; omega) | (cases c8; done) | (exfalso; simp_all; done)
    · refine je_ps jb_X8_firstLit 1 (pc' := 12) (ls' := [_, _]) (st' := [_]) rfl ?_
      refine je_get jb_X8_firstLit rfl (pc' := 15) rfl (by first | exact jh_V hi g | exact jh_V hi (g0.R37 hi _) | exact jh_walk hi) (by rfl) (by rfl) ?_
      refine je_ps jb_X8_firstLit 1 (pc' := 16) (ls' := [_, _]) (st' := [_, _]) rfl ?_
      refine je_iald jb_X8_firstLit rfl (pc' := 17) rfl (jh_VL hi g) (by first | omega | exact (hM _ _).1 | exact (hM _ _).2) (by first | omega | exact (hM _ _).1 | exact (hM _ _).2) (by first | omega | exact (hM _ _).1 | exact (hM _ _).2) ?_
      refine je_ifne jb_X8_firstLit rfl (t := 26) rfl (pc' := 20) rfl (by first | omega | exact (hM _ _).1 | exact (hM _ _).2) (by first | omega | exact (hM _ _).1 | exact (hM _ _).2) (fun c17 => ?_) (fun c17 => ?_)
      · refine je_ps jb_X8_firstLit 1 (pc' := 27) (ls' := [_, _]) (st' := [_]) rfl ?_
        first | (have q : fNz L = v := fFst_hit (P := fun q => decide (L (q : Int) ≠ 0)) (decide_eq_true (by omega)) 25 0 (by omega) (by omega) (fun q _ hq => fv q hq); rw [q]; exact je_ret jb_X8_firstLit rfl (by rfl) ⟨rfl, rfl⟩) | (have q : fNz L = 0 + 25 := fFst_none 25 0 (fun q _ hq => fv q (by omega)); rw [q]; exact je_ret jb_X8_firstLit rfl (by rfl) ⟨rfl, rfl⟩)
      · refine je_iinc jb_X8_firstLit rfl (pc' := 23) rfl rfl (ls' := [_, _]) rfl ?_
        refine je_ps jb_X8_firstLit 1 (pc' := 2) (ls' := [_, _]) (st' := []) rfl ?_
        refine kv _ _ ⟨rfl, rfl, fun q hq => ?_⟩
        by_cases h : q = v
        · subst h; exact decide_eq_false (by omega)
        · exact fv q (by omega)
  · obtain ⟨rfl, rfl, fv⟩ := gv
    refine je_ps jb_X8_firstLit 2 (pc' := 4) (ls' := [_, _]) (st' := [_, _]) rfl ?_
    refine je_get jb_X8_firstLit rfl (pc' := 7) rfl (by first | exact jh_V hi g | exact jh_V hi (g0.R37 hi _) | exact jh_walk hi) (by rfl) (by rfl) ?_
    refine je_alen jb_X8_firstLit rfl (pc' := 8) rfl (jh_VL hi g) ?_
    refine je_icmpge jb_X8_firstLit rfl (t := 26) rfl (pc' := 11) rfl (by first | omega | exact (hM _ _).1 | exact (hM _ _).2) (by first | omega | exact (hM _ _).1 | exact (hM _ _).2) (by first | omega | exact (hM _ _).1 | exact (hM _ _).2) (by first | omega | exact (hM _ _).1 | exact (hM _ _).2) (fun c8 => ?_) (fun c8 => ?_)
    · refine je_ps jb_X8_firstLit 1 (pc' := 27) (ls' := [_, _]) (st' := [_]) rfl ?_
      first | (have q : fNz L = v := fFst_hit (P := fun q => decide (L (q : Int) ≠ 0)) (decide_eq_true (by omega)) 25 0 (by omega) (by omega) (fun q _ hq => fv q hq); rw [q]; exact je_ret jb_X8_firstLit rfl (by rfl) ⟨rfl, rfl⟩) | (have q : fNz L = 0 + 25 := fFst_none 25 0 (fun q _ hq => fv q (by omega)); rw [q]; exact je_ret jb_X8_firstLit rfl (by rfl) ⟨rfl, rfl⟩)
    · first | (exfalso; omega) | (cases c8; done) | (exfalso; simp_all; done)
def fMvl (L1 L2 : Int → Int) : Bool := fAll (fun q => decide (fAt L1 (fNz L1 + (q : Int)) = fAt L2 (fNz L2 + (q : Int)))) 25
theorem k_isMovedLike {i j : Nat} (hi : i < 13) (hj : j < 13) {s n k e e2 : Int} {L L2 : Int → Int} (g : jWk m i s n k L e) (g2 : jWk m j s n k L2 e2) : jq sc 2 jm_X8_isMovedLike [.ref (jwa i), .ref (jwa j)] (jh m r T) (jP (some (.int (jI (jb (fMvl L L2))))) (jh m r T)) := by
  have gk : 2 ≤ k ∧ k ≤ 5 := g.1.2.2
  have b1 := fFst_le (fun q => decide (L (q : Int) ≠ 0)) 25 0
  have b2 := fFst_le (fun q => decide (L2 (q : Int) ≠ 0)) 25 0
  have b1 : fNz L ≤ 25 := by unfold fNz; omega
  have b2 : fNz L2 ≤ 25 := by unfold fNz; omega
  refine je_in jb_X8_isMovedLike rfl (ls := [_, _, _, _, _]) rfl ?_
  refine je_ps jb_X8_isMovedLike 1 (pc' := 1) (ls' := [_, _, _, _, _]) (st' := [_]) rfl ?_
  refine je_cvP' jb_X8_isMovedLike rfl (pc' := 4) rfl (by first | exact jh_V hi g | exact jh_V hi (g0.R37 hi _) | exact jh_walk hi) (by rfl) (by first | decide | exact Nat.ble_eq_true_of_le (by omega)) (k_firstLit hi g) (st' := [_]) rfl ?_
  refine je_ps jb_X8_isMovedLike 2 (pc' := 6) (ls' := [_, _, _, _, _]) (st' := [_]) rfl ?_
  refine je_cvP' jb_X8_isMovedLike rfl (pc' := 9) rfl (by first | exact jh_V hj g2 | exact jh_V hj (g0.R37 hj _) | exact jh_walk hj) (by rfl) (by first | decide | exact Nat.ble_eq_true_of_le (by omega)) (k_firstLit hj g2) (st' := [_]) rfl ?_
  refine je_ps jb_X8_isMovedLike 3 (pc' := 13) (ls' := [_, _, _, _, _]) (st' := []) rfl ?_
  refine je_loop (fun (v : Nat) ls σ' => ls = [.ref (jwa i), .ref (jwa j), .int (jI (fNz L)), .int (jI (fNz L2)), .int (jI v)] ∧ σ' = jh m r T ∧ ∀ q, q < v → decide (fAt L (fNz L + (q : Int)) = fAt L2 (fNz L2 + (q : Int))) = true) (25) ⟨rfl, rfl, fun q hq => by omega⟩ (fun v hv ls σ' gv kv => ?_) (fun ls σ' gv => ?_)
  · obtain ⟨rfl, rfl, fv⟩ := gv
    have ga := fAt_i g.2.2.2.1 (show 0 < k by omega) (fNz L + (v : Int))
    have gb := fAt_i g2.2.2.2.1 (show 0 < k by omega) (fNz L2 + (v : Int))
    refine je_ps jb_X8_isMovedLike 2 (pc' := 16) (ls' := [_, _, _, _, _]) (st' := [_, _]) rfl ?_
    refine je_get jb_X8_isMovedLike rfl (pc' := 19) rfl (by first | exact jh_V hi g | exact jh_V hi (g0.R37 hi _) | exact jh_walk hi) (by rfl) (by rfl) ?_
    refine je_alen jb_X8_isMovedLike rfl (pc' := 20) rfl (jh_VL hi g) ?_
    refine je_icmpge jb_X8_isMovedLike rfl (t := 50) rfl (pc' := 23) rfl (by first | omega | exact (hM _ _).1 | exact (hM _ _).2) (by first | omega | exact (hM _ _).1 | exact (hM _ _).2) (by first | omega | exact (hM _ _).1 | exact (hM _ _).2) (by first | omega | exact (hM _ _).1 | exact (hM _ _).2) (fun c20 => ?_) (fun c20 => ?_)
    · first | (exfalso; omega) | (cases c20; done) | (exfalso; simp_all; done)
    · refine je_ps jb_X8_isMovedLike 3 (pc' := 27) (ls' := [_, _, _, _, _]) (st' := [_, _, _]) rfl ?_
      refine je_iadd jb_X8_isMovedLike rfl (pc' := 28) rfl ?_
      refine je_cvP' jb_X8_isMovedLike rfl (pc' := 31) rfl (by first | exact jh_V hi g | exact jh_V hi (g0.R37 hi _) | exact jh_walk hi) (by rfl) (by first | decide | exact Nat.ble_eq_true_of_le (by omega)) (k_at hi g (by omega)) (st' := [_]) rfl ?_
      refine je_ps jb_X8_isMovedLike 3 (pc' := 35) (ls' := [_, _, _, _, _]) (st' := [_, _, _, _]) rfl ?_
      refine je_iadd jb_X8_isMovedLike rfl (pc' := 36) rfl ?_
      refine je_cvP' jb_X8_isMovedLike rfl (pc' := 39) rfl (by first | exact jh_V hj g2 | exact jh_V hj (g0.R37 hj _) | exact jh_walk hj) (by rfl) (by first | decide | exact Nat.ble_eq_true_of_le (by omega)) (k_at hj g2 (by omega)) (st' := [_, _]) rfl ?_
      refine je_icmpeq jb_X8_isMovedLike rfl (t := 44) rfl (pc' := 42) rfl (by first | omega | exact (hM _ _).1 | exact (hM _ _).2) (by first | omega | exact (hM _ _).1 | exact (hM _ _).2) (by first | omega | exact (hM _ _).1 | exact (hM _ _).2) (by first | omega | exact (hM _ _).1 | exact (hM _ _).2) (fun c39 => ?_) (fun c39 => ?_)
      · refine je_iinc jb_X8_isMovedLike rfl (pc' := 47) rfl rfl (ls' := [_, _, _, _, _]) rfl ?_
        refine je_ps jb_X8_isMovedLike 1 (pc' := 13) (ls' := [_, _, _, _, _]) (st' := []) rfl ?_
        refine kv _ _ ⟨rfl, rfl, fun q hq => ?_⟩
        by_cases h : q = v
        · subst h; exact decide_eq_true (by omega)
        · exact fv q (by omega)
      · refine je_ps jb_X8_isMovedLike 1 (pc' := 43) (ls' := [_, _, _, _, _]) (st' := [_]) rfl ?_
        exact je_ret jb_X8_isMovedLike rfl (by rfl) ⟨jv_f (fAll_f hv (decide_eq_false (by omega))), rfl⟩
  · obtain ⟨rfl, rfl, fv⟩ := gv
    refine je_ps jb_X8_isMovedLike 2 (pc' := 16) (ls' := [_, _, _, _, _]) (st' := [_, _]) rfl ?_
    refine je_get jb_X8_isMovedLike rfl (pc' := 19) rfl (by first | exact jh_V hi g | exact jh_V hi (g0.R37 hi _) | exact jh_walk hi) (by rfl) (by rfl) ?_
    refine je_alen jb_X8_isMovedLike rfl (pc' := 20) rfl (jh_VL hi g) ?_
    refine je_icmpge jb_X8_isMovedLike rfl (t := 50) rfl (pc' := 23) rfl (by first | omega | exact (hM _ _).1 | exact (hM _ _).2) (by first | omega | exact (hM _ _).1 | exact (hM _ _).2) (by first | omega | exact (hM _ _).1 | exact (hM _ _).2) (by first | omega | exact (hM _ _).1 | exact (hM _ _).2) (fun c20 => ?_) (fun c20 => ?_)
    · refine je_ps jb_X8_isMovedLike 1 (pc' := 51) (ls' := [_, _, _, _, _]) (st' := [_]) rfl ?_
      exact je_ret jb_X8_isMovedLike rfl (by rfl) ⟨jv_t (fAll_t fv), rfl⟩
    · first | (exfalso; omega) | (cases c20; done) | (exfalso; simp_all; done)
def fGd (a b : Int) : Nat → Int
  | 0 => 1
  | d + 1 => if 1 < (d + 1 : Int) ∧ a % (d + 1 : Int) = 0 ∧ b % (d + 1 : Int) = 0 then (d + 1 : Int) else fGd a b d
theorem fGd_s (a b : Int) (d : Nat) : fGd a b (d + 1) = if 1 < (d + 1 : Int) ∧ a % (d + 1 : Int) = 0 ∧ b % (d + 1 : Int) = 0 then (d + 1 : Int) else fGd a b d := rfl
def fGcd (a b : Int) : Int := fGd a b (max a b).toNat
theorem fGd_i (a b : Int) : ∀ d : Nat, 1 ≤ fGd a b d ∧ fGd a b d ≤ max 1 (d : Int)
  | 0 => ⟨Int.le_refl 1, by show (1 : Int) ≤ max 1 ((0 : Nat) : Int); omega⟩
  | d + 1 => by
    have q := fGd_i a b d
    unfold fGd
    split <;> omega
theorem c_X11_greatestDivisor {a b : Int} (ha : 0 ≤ a ∧ a ≤ 100000) (hb : 0 ≤ b ∧ b ≤ 100000) : jq sc 1 jm_X11_greatestDivisor [.int (jI a), .int (jI b)] σ (jP (some (.int (jI (fGcd a b)))) σ) := by
  unfold fGcd
  refine je_in jb_X11_greatestDivisor rfl (ls := [_, _, _]) rfl ?_
  refine je_ps jb_X11_greatestDivisor 2 (pc' := 2) (ls' := [_, _, _]) (st' := [_, _]) rfl ?_
  refine je_max jb_X11_greatestDivisor rfl (pc' := 5) rfl rfl rfl (by first | omega | exact (hM _ _).1 | exact (hM _ _).2) (by first | omega | exact (hM _ _).1 | exact (hM _ _).2) (by first | omega | exact (hM _ _).1 | exact (hM _ _).2) (by first | omega | exact (hM _ _).1 | exact (hM _ _).2) ?_
  refine je_ps jb_X11_greatestDivisor 1 (pc' := 6) (ls' := [_, _, _]) (st' := []) rfl ?_
  refine je_loop (fun (v : Nat) ls σ' => ls = [.int (jI a), .int (jI b), .int (jI (max a b - (v : Int)))] ∧ σ' = σ ∧ fGd a b (max a b).toNat = fGd a b ((max a b).toNat - v)) ((max a b - 1).toNat) ⟨by rw [show max a b - ((0 : Nat) : Int) = max a b by omega], rfl, rfl⟩ (fun v hv ls σ' gv kv => ?_) (fun ls σ' gv => ?_)
  · obtain ⟨rfl, rfl, fv⟩ := gv
    obtain ⟨w, hw⟩ : ∃ w : Nat, (max a b).toNat - v = w + 1 := ⟨(max a b).toNat - v - 1, by omega⟩
    have hw2 : max a b - (v : Int) = (w : Int) + 1 := by omega
    rw [hw2]
    rw [hw] at fv
    have g1 := Int.emod_nonneg a (show (w : Int) + 1 ≠ 0 by omega)
    have g2 := Int.emod_lt_of_pos a (show 0 < (w : Int) + 1 by omega)
    have g3 := Int.emod_nonneg b (show (w : Int) + 1 ≠ 0 by omega)
    have g4 := Int.emod_lt_of_pos b (show 0 < (w : Int) + 1 by omega)
    refine je_ps jb_X11_greatestDivisor 2 (pc' := 8) (ls' := [_, _, _]) (st' := [_, _]) rfl ?_
    refine je_icmple jb_X11_greatestDivisor rfl (t := 31) rfl (pc' := 11) rfl (by first | omega | exact (hM _ _).1 | exact (hM _ _).2) (by first | omega | exact (hM _ _).1 | exact (hM _ _).2) (by first | omega | exact (hM _ _).1 | exact (hM _ _).2) (by first | omega | exact (hM _ _).1 | exact (hM _ _).2) (fun c8 => ?_) (fun c8 => ?_)
    · first | (exfalso; omega) | (cases c8; done) | (exfalso; simp_all; done)
    · refine je_ps jb_X11_greatestDivisor 2 (pc' := 13) (ls' := [_, _, _]) (st' := [_, _]) rfl ?_
      refine je_irem jb_X11_greatestDivisor rfl (pc' := 14) rfl (by first | omega | exact (hM _ _).1 | exact (hM _ _).2) (by first | omega | exact (hM _ _).1 | exact (hM _ _).2) (by first | omega | exact (hM _ _).1 | exact (hM _ _).2) (by first | omega | exact (hM _ _).1 | exact (hM _ _).2) ?_
      refine je_ifne jb_X11_greatestDivisor rfl (t := 25) rfl (pc' := 17) rfl (by first | omega | exact (hM _ _).1 | exact (hM _ _).2) (by first | omega | exact (hM _ _).1 | exact (hM _ _).2) (fun c14 => ?_) (fun c14 => ?_)
      · refine je_iinc jb_X11_greatestDivisor rfl (pc' := 28) rfl rfl (ls' := [_, _, _]) rfl ?_
        refine je_ps jb_X11_greatestDivisor 1 (pc' := 6) (ls' := [_, _, _]) (st' := []) rfl ?_
        refine kv _ _ ⟨?_, rfl, ?_⟩
        · rw [show (w : Int) + 1 + -1 = max a b - ((v + 1 : Nat) : Int) by omega]
        · rw [fv, show (max a b).toNat - (v + 1) = w by omega, fGd_s, if_neg (by omega)]
      · refine je_ps jb_X11_greatestDivisor 2 (pc' := 19) (ls' := [_, _, _]) (st' := [_, _]) rfl ?_
        refine je_irem jb_X11_greatestDivisor rfl (pc' := 20) rfl (by first | omega | exact (hM _ _).1 | exact (hM _ _).2) (by first | omega | exact (hM _ _).1 | exact (hM _ _).2) (by first | omega | exact (hM _ _).1 | exact (hM _ _).2) (by first | omega | exact (hM _ _).1 | exact (hM _ _).2) ?_
        refine je_ifne jb_X11_greatestDivisor rfl (t := 25) rfl (pc' := 23) rfl (by first | omega | exact (hM _ _).1 | exact (hM _ _).2) (by first | omega | exact (hM _ _).1 | exact (hM _ _).2) (fun c20 => ?_) (fun c20 => ?_)
        · refine je_iinc jb_X11_greatestDivisor rfl (pc' := 28) rfl rfl (ls' := [_, _, _]) rfl ?_
          refine je_ps jb_X11_greatestDivisor 1 (pc' := 6) (ls' := [_, _, _]) (st' := []) rfl ?_
          refine kv _ _ ⟨?_, rfl, ?_⟩
          · rw [show (w : Int) + 1 + -1 = max a b - ((v + 1 : Nat) : Int) by omega]
          · rw [fv, show (max a b).toNat - (v + 1) = w by omega, fGd_s, if_neg (by omega)]
        · refine je_ps jb_X11_greatestDivisor 1 (pc' := 24) (ls' := [_, _, _]) (st' := [_]) rfl ?_
          exact je_ret jb_X11_greatestDivisor rfl (by rfl) ⟨jv_I (by rw [fv, fGd_s, if_pos (by omega)]), rfl⟩
  · obtain ⟨rfl, rfl, fv⟩ := gv
    refine je_ps jb_X11_greatestDivisor 2 (pc' := 8) (ls' := [_, _, _]) (st' := [_, _]) rfl ?_
    refine je_icmple jb_X11_greatestDivisor rfl (t := 31) rfl (pc' := 11) rfl (by first | omega | exact (hM _ _).1 | exact (hM _ _).2) (by first | omega | exact (hM _ _).1 | exact (hM _ _).2) (by first | omega | exact (hM _ _).1 | exact (hM _ _).2) (by first | omega | exact (hM _ _).1 | exact (hM _ _).2) (fun c8 => ?_) (fun c8 => ?_)
    · refine je_ps jb_X11_greatestDivisor 1 (pc' := 32) (ls' := [_, _, _]) (st' := [_]) rfl ?_
      exact je_ret jb_X11_greatestDivisor rfl (by rfl) ⟨jv_I (by rw [fv]; rcases (by omega : (max a b).toNat - (max a b - 1).toNat = 0 ∨ (max a b).toNat - (max a b - 1).toNat = 1) with h | h <;> rw [h] <;> simp [fGd]), rfl⟩
    · first | (exfalso; omega) | (cases c8; done) | (exfalso; simp_all; done)
def fMany (s n e : Int) : Int := if s = 0 then jabs e else fGcd e n
theorem fMany_i {s n k e : Int} (h : fS s n k) (he : fC s n e) : 0 ≤ fMany s n e ∧ fMany s n e ≤ 25 ∧ (s = 1 → 1 ≤ fMany s n e) := by
  have gc := fC_i h he
  have gl := fLo_c s
  unfold fS at h
  unfold fC at he
  unfold fMany
  split
  · have := jabs_c e
    omega
  · have := fGd_i e n (max e n).toNat
    unfold fGcd
    omega
theorem k_sumsCount {i : Nat} (hi : i < 13) {s n k e : Int} {L : Int → Int} (g : jWk m i s n k L e) : jq sc 2 jm_X8_sumsCount [.ref (jwa i)] (jh m r T) (jP (some (.int (jI (fMany s n e)))) (jh m r T)) := by
  have gc := fC_i g.1.2 g.2.2.2.2
  have gl := fLo_c s
  have gs := g.1.2
  have he := g.2.2.2.2
  unfold fS at gs
  unfold fC at he
  refine je_in jb_X8_sumsCount rfl (ls := [_]) rfl ?_
  refine je_ps jb_X8_sumsCount 1 (pc' := 1) (ls' := [_]) (st' := [_]) rfl ?_
  refine je_get jb_X8_sumsCount rfl (pc' := 4) rfl (by first | exact jh_V hi g | exact jh_V hi (g0.R37 hi _) | exact jh_walk hi) (by rfl) (by rfl) ?_
  refine je_cvP' jb_X8_sumsCount rfl (pc' := 7) rfl (jh_VS hi g) (by rfl) (by first | decide | exact Nat.ble_eq_true_of_le (by omega)) (c_X5_isLine hi g.1) (st' := [_]) rfl ?_
  refine je_ifeqb jb_X8_sumsCount rfl (t := 20) rfl (pc' := 10) rfl (fun c7 => ?_) (fun c7 => ?_)
  · have c7' := of_decide_eq_false c7
    refine je_ps jb_X8_sumsCount 1 (pc' := 21) (ls' := [_]) (st' := [_]) rfl ?_
    refine je_get jb_X8_sumsCount rfl (pc' := 24) rfl (by first | exact jh_V hi g | exact jh_V hi (g0.R37 hi _) | exact jh_walk hi) (by rfl) (by rfl) ?_
    refine je_ps jb_X8_sumsCount 1 (pc' := 25) (ls' := [_]) (st' := [_, _]) rfl ?_
    refine je_get jb_X8_sumsCount rfl (pc' := 28) rfl (by first | exact jh_V hi g | exact jh_V hi (g0.R37 hi _) | exact jh_walk hi) (by rfl) (by rfl) ?_
    refine je_get jb_X8_sumsCount rfl (pc' := 31) rfl (jh_VS hi g) (by rfl) (by rfl) ?_
    refine je_csP' jb_X8_sumsCount rfl (pc' := 34) rfl (by rfl) (by first | decide | exact Nat.ble_eq_true_of_le (by omega)) (c_X11_greatestDivisor (by omega) (by omega)) (st' := [_]) rfl ?_
    first | exact je_ret jb_X8_sumsCount rfl (by rfl) ⟨jv_I (by unfold fMany; rw [if_pos (of_decide_eq_true c7)]), rfl⟩ | exact je_ret jb_X8_sumsCount rfl (by rfl) ⟨jv_I (by unfold fMany; rw [if_neg (of_decide_eq_false c7)]), rfl⟩
  · refine je_ps jb_X8_sumsCount 1 (pc' := 11) (ls' := [_]) (st' := [_]) rfl ?_
    refine je_get jb_X8_sumsCount rfl (pc' := 14) rfl (by first | exact jh_V hi g | exact jh_V hi (g0.R37 hi _) | exact jh_walk hi) (by rfl) (by rfl) ?_
    refine je_abs jb_X8_sumsCount rfl (pc' := 17) rfl rfl rfl (by first | omega | exact (hM _ _).1 | exact (hM _ _).2) (by first | omega | exact (hM _ _).1 | exact (hM _ _).2) ?_
    refine je_ps jb_X8_sumsCount 1 (pc' := 34) (ls' := [_]) (st' := [_]) rfl ?_
    first | exact je_ret jb_X8_sumsCount rfl (by rfl) ⟨jv_I (by unfold fMany; rw [if_pos (of_decide_eq_true c7)]), rfl⟩ | exact je_ret jb_X8_sumsCount rfl (by rfl) ⟨jv_I (by unfold fMany; rw [if_neg (of_decide_eq_false c7)]), rfl⟩
def fSm0 (s : Int) (L : Int → Int) (j many : Int) : Nat → Int := fSum (fun p => if (fLo s + p) % many = j then L p else 0)
def fSm (s k : Int) (L : Int → Int) (j many : Int) : Int := fSm0 s L j many 25 % k
theorem fSm0_i {s n k j many : Int} {L : Int → Int} (hL : fL n k L) (v : Nat) : 0 ≤ fSm0 s L j many v ∧ fSm0 s L j many v ≤ k * v :=
  fSum_b (f := fun p => if (fLo s + p) % many = j then L p else 0) (B := k) (fun p => by
    have := hL.1 p
    show 0 ≤ (if (fLo s + p) % many = j then L p else 0) ∧ (if (fLo s + p) % many = j then L p else 0) ≤ k
    split <;> omega) v
theorem fSm_i {s k j many : Int} {L : Int → Int} (hk : 0 < k) : 0 ≤ fSm s k L j many ∧ fSm s k L j many < k := ⟨Int.emod_nonneg _ (by omega), Int.emod_lt_of_pos _ hk⟩
theorem k_sumAt {i : Nat} (hi : i < 13) {s n k e j many : Int} {L : Int → Int} (g : jWk m i s n k L e) (hj : -2147483648 ≤ j ∧ j ≤ 2147483647) (hm : 1 ≤ many ∧ many ≤ 1000) : jq sc 2 jm_X8_sumAt [.ref (jwa i), .int (jI j), .int (jI many)] (jh m r T) (jP (some (.int (jI (fSm s k L j many)))) (jh m r T)) := by
  have gl := fLo_c s
  have gk : 2 ≤ k ∧ k ≤ 5 := g.1.2.2
  have g25 := fSm0_i (s := s) (j := j) (many := many) g.2.2.2.1 25
  refine je_in jb_X8_sumAt rfl (ls := [_, _, _, _, _]) rfl ?_
  refine je_ps jb_X8_sumAt 4 (pc' := 5) (ls' := [_, _, _, _, _]) (st' := []) rfl ?_
  refine je_loop (fun (v : Nat) ls σ' => ls = [.ref (jwa i), .int (jI j), .int (jI many), .int (jI (fSm0 s L j many v)), .int (jI v)] ∧ σ' = jh m r T) (25) ⟨rfl, rfl⟩ (fun v hv ls σ' gv kv => ?_) (fun ls σ' gv => ?_)
  · obtain ⟨rfl, rfl⟩ := gv
    have gq := g.2.2.2.1.1 (v : Int)
    have g1 := Int.emod_nonneg (fLo s + (v : Int)) (show many ≠ 0 by omega)
    have g2 := Int.emod_lt_of_pos (fLo s + (v : Int)) (show 0 < many by omega)
    have gz : fSm0 s L j many (v + 1) = fSm0 s L j many v + (if (fLo s + (v : Int)) % many = j then L v else 0) := rfl
    refine je_ps jb_X8_sumAt 2 (pc' := 8) (ls' := [_, _, _, _, _]) (st' := [_, _]) rfl ?_
    refine je_get jb_X8_sumAt rfl (pc' := 11) rfl (by first | exact jh_V hi g | exact jh_V hi (g0.R37 hi _) | exact jh_walk hi) (by rfl) (by rfl) ?_
    refine je_alen jb_X8_sumAt rfl (pc' := 12) rfl (jh_VL hi g) ?_
    refine je_icmpge jb_X8_sumAt rfl (t := 49) rfl (pc' := 15) rfl (by first | omega | exact (hM _ _).1 | exact (hM _ _).2) (by first | omega | exact (hM _ _).1 | exact (hM _ _).2) (by first | omega | exact (hM _ _).1 | exact (hM _ _).2) (by first | omega | exact (hM _ _).1 | exact (hM _ _).2) (fun c12 => ?_) (fun c12 => ?_)
    · first | (exfalso; omega) | (cases c12; done) | (exfalso; simp_all; done)
    · refine je_ps jb_X8_sumAt 1 (pc' := 16) (ls' := [_, _, _, _, _]) (st' := [_]) rfl ?_
      refine je_get jb_X8_sumAt rfl (pc' := 19) rfl (by first | exact jh_V hi g | exact jh_V hi (g0.R37 hi _) | exact jh_walk hi) (by rfl) (by rfl) ?_
      refine je_cvP' jb_X8_sumAt rfl (pc' := 22) rfl (jh_VS hi g) (by rfl) (by first | decide | exact Nat.ble_eq_true_of_le (by omega)) (c_X5_least hi g.1) (st' := [_]) rfl ?_
      refine je_ps jb_X8_sumAt 1 (pc' := 24) (ls' := [_, _, _, _, _]) (st' := [_, _]) rfl ?_
      refine je_iadd jb_X8_sumAt rfl (pc' := 25) rfl ?_
      refine je_ps jb_X8_sumAt 1 (pc' := 26) (ls' := [_, _, _, _, _]) (st' := [_, _]) rfl ?_
      refine je_csP' jb_X8_sumAt rfl (pc' := 29) rfl (by rfl) (by first | decide | exact Nat.ble_eq_true_of_le (by omega)) (c_X11_around (by omega) (by omega) (by omega) (by omega)) (st' := [_]) rfl ?_
      refine je_ps jb_X8_sumAt 1 (pc' := 30) (ls' := [_, _, _, _, _]) (st' := [_, _]) rfl ?_
      refine je_icmpne jb_X8_sumAt rfl (t := 43) rfl (pc' := 33) rfl (by first | omega | exact (hM _ _).1 | exact (hM _ _).2) (by first | omega | exact (hM _ _).1 | exact (hM _ _).2) (by first | omega | exact (hM _ _).1 | exact (hM _ _).2) (by first | omega | exact (hM _ _).1 | exact (hM _ _).2) (fun c30 => ?_) (fun c30 => ?_)
      · refine je_iinc jb_X8_sumAt rfl (pc' := 46) rfl rfl (ls' := [_, _, _, _, _]) rfl ?_
        refine je_ps jb_X8_sumAt 1 (pc' := 5) (ls' := [_, _, _, _, _]) (st' := []) rfl ?_
        rw [gz] at kv
        first | (rw [if_pos (by omega)] at kv; exact kv _ _ ⟨rfl, rfl⟩) | (rw [if_neg (by omega), Int.add_zero] at kv; exact kv _ _ ⟨rfl, rfl⟩)
      · refine je_ps jb_X8_sumAt 2 (pc' := 35) (ls' := [_, _, _, _, _]) (st' := [_, _]) rfl ?_
        refine je_get jb_X8_sumAt rfl (pc' := 38) rfl (by first | exact jh_V hi g | exact jh_V hi (g0.R37 hi _) | exact jh_walk hi) (by rfl) (by rfl) ?_
        refine je_ps jb_X8_sumAt 1 (pc' := 40) (ls' := [_, _, _, _, _]) (st' := [_, _, _]) rfl ?_
        refine je_iald jb_X8_sumAt rfl (pc' := 41) rfl (jh_VL hi g) (by first | omega | exact (hM _ _).1 | exact (hM _ _).2) (by first | omega | exact (hM _ _).1 | exact (hM _ _).2) (by first | omega | exact (hM _ _).1 | exact (hM _ _).2) ?_
        refine je_iadd jb_X8_sumAt rfl (pc' := 42) rfl ?_
        refine je_ps jb_X8_sumAt 1 (pc' := 43) (ls' := [_, _, _, _, _]) (st' := []) rfl ?_
        refine je_iinc jb_X8_sumAt rfl (pc' := 46) rfl rfl (ls' := [_, _, _, _, _]) rfl ?_
        refine je_ps jb_X8_sumAt 1 (pc' := 5) (ls' := [_, _, _, _, _]) (st' := []) rfl ?_
        rw [gz] at kv
        first | (rw [if_pos (by omega)] at kv; exact kv _ _ ⟨rfl, rfl⟩) | (rw [if_neg (by omega), Int.add_zero] at kv; exact kv _ _ ⟨rfl, rfl⟩)
  · obtain ⟨rfl, rfl⟩ := gv
    refine je_ps jb_X8_sumAt 2 (pc' := 8) (ls' := [_, _, _, _, _]) (st' := [_, _]) rfl ?_
    refine je_get jb_X8_sumAt rfl (pc' := 11) rfl (by first | exact jh_V hi g | exact jh_V hi (g0.R37 hi _) | exact jh_walk hi) (by rfl) (by rfl) ?_
    refine je_alen jb_X8_sumAt rfl (pc' := 12) rfl (jh_VL hi g) ?_
    refine je_icmpge jb_X8_sumAt rfl (t := 49) rfl (pc' := 15) rfl (by first | omega | exact (hM _ _).1 | exact (hM _ _).2) (by first | omega | exact (hM _ _).1 | exact (hM _ _).2) (by first | omega | exact (hM _ _).1 | exact (hM _ _).2) (by first | omega | exact (hM _ _).1 | exact (hM _ _).2) (fun c12 => ?_) (fun c12 => ?_)
    · refine je_ps jb_X8_sumAt 2 (pc' := 51) (ls' := [_, _, _, _, _]) (st' := [_, _]) rfl ?_
      refine je_get jb_X8_sumAt rfl (pc' := 54) rfl (by first | exact jh_V hi g | exact jh_V hi (g0.R37 hi _) | exact jh_walk hi) (by rfl) (by rfl) ?_
      refine je_get jb_X8_sumAt rfl (pc' := 57) rfl (jh_VS hi g) (by rfl) (by rfl) ?_
      refine je_csP' jb_X8_sumAt rfl (pc' := 60) rfl (by rfl) (by first | decide | exact Nat.ble_eq_true_of_le (by omega)) (c_X11_around (by omega) (by omega) (by omega) (by omega)) (st' := [_]) rfl ?_
      exact je_ret jb_X8_sumAt rfl (by rfl) ⟨by (first | rfl | (refine jv_t ?_; simp only [decide_eq_true_eq]; omega) | (refine jv_f ?_; simp only [decide_eq_false_iff_not]; omega) | (refine jv_I ?_; omega)), by (first | rfl | (refine jv_t ?_; simp only [decide_eq_true_eq]; omega) | (refine jv_f ?_; simp only [decide_eq_false_iff_not]; omega) | (refine jv_I ?_; omega))⟩
    · first | (exfalso; omega) | (cases c12; done) | (exfalso; simp_all; done)
def fSml (s k : Int) (L L2 : Int → Int) (many : Int) : Bool := fAny (fun b => fAll (fun q => decide (fSm s k L (q : Int) many = fSm s k L2 (((q : Int) + (b : Int)) % many) many)) many.toNat) many.toNat
theorem k_isSummedLike {i j : Nat} (hi : i < 13) (hj : j < 13) {s n k e e2 many : Int} {L L2 : Int → Int} (g : jWk m i s n k L e) (g2 : jWk m j s n k L2 e2) (hm : 1 ≤ many ∧ many ≤ 1000) : jq sc 3 jm_X8_isSummedLike [.ref (jwa i), .ref (jwa j), .int (jI many)] (jh m r T) (jP (some (.int (jI (jb (fSml s k L L2 many))))) (jh m r T)) := by
  have gk : 2 ≤ k ∧ k ≤ 5 := g.1.2.2
  refine je_in jb_X8_isSummedLike rfl (ls := [_, _, _, _, _]) rfl ?_
  refine je_ps jb_X8_isSummedLike 2 (pc' := 2) (ls' := [_, _, _, _, _]) (st' := []) rfl ?_
  refine je_loop (fun (b : Nat) ls σ' => ∃ x, ls = [.ref (jwa i), .ref (jwa j), .int (jI many), .int (jI b), x] ∧ σ' = jh m r T ∧ ∀ q, q < b → fAll (fun p => decide (fSm s k L (p : Int) many = fSm s k L2 (((p : Int) + (q : Int)) % many) many)) many.toNat = false) (many.toNat) ⟨_, rfl, rfl, fun q hq => by omega⟩ (fun b hb ls σ' gb kb => ?_) (fun ls σ' gb => ?_)
  · obtain ⟨x, rfl, rfl, fb⟩ := gb
    refine je_ps jb_X8_isSummedLike 2 (pc' := 4) (ls' := [_, _, _, _, _]) (st' := [_, _]) rfl ?_
    refine je_icmpge jb_X8_isSummedLike rfl (t := 59) rfl (pc' := 7) rfl (by first | omega | exact (hM _ _).1 | exact (hM _ _).2) (by first | omega | exact (hM _ _).1 | exact (hM _ _).2) (by first | omega | exact (hM _ _).1 | exact (hM _ _).2) (by first | omega | exact (hM _ _).1 | exact (hM _ _).2) (fun c4 => ?_) (fun c4 => ?_)
    · first | (exfalso; omega) | (cases c4; done) | (exfalso; simp_all; done)
    · refine je_ps jb_X8_isSummedLike 2 (pc' := 10) (ls' := [_, _, _, _, _]) (st' := []) rfl ?_
      refine je_loop (fun (v : Nat) ls σ' => ls = [.ref (jwa i), .ref (jwa j), .int (jI many), .int (jI b), .int (jI v)] ∧ σ' = jh m r T ∧ ∀ q, q < v → decide (fSm s k L (q : Int) many = fSm s k L2 (((q : Int) + (b : Int)) % many) many) = true) (many.toNat) ⟨rfl, rfl, fun q hq => by omega⟩ (fun v hv ls σ' gv kv => ?_) (fun ls σ' gv => ?_)
      · obtain ⟨rfl, rfl, fv⟩ := gv
        have g3 := Int.emod_nonneg ((v : Int) + (b : Int)) (show many ≠ 0 by omega)
        have g4 := Int.emod_lt_of_pos ((v : Int) + (b : Int)) (show 0 < many by omega)
        have g5 := fSm_i (s := s) (L := L) (j := (v : Int)) (many := many) (show 0 < k by omega)
        have g6 := fSm_i (s := s) (L := L2) (j := ((v : Int) + (b : Int)) % many) (many := many) (show 0 < k by omega)
        refine je_ps jb_X8_isSummedLike 2 (pc' := 13) (ls' := [_, _, _, _, _]) (st' := [_, _]) rfl ?_
        refine je_icmpge jb_X8_isSummedLike rfl (t := 45) rfl (pc' := 16) rfl (by first | omega | exact (hM _ _).1 | exact (hM _ _).2) (by first | omega | exact (hM _ _).1 | exact (hM _ _).2) (by first | omega | exact (hM _ _).1 | exact (hM _ _).2) (by first | omega | exact (hM _ _).1 | exact (hM _ _).2) (fun c13 => ?_) (fun c13 => ?_)
        · first | (exfalso; omega) | (cases c13; done) | (exfalso; simp_all; done)
        · refine je_ps jb_X8_isSummedLike 3 (pc' := 20) (ls' := [_, _, _, _, _]) (st' := [_, _, _]) rfl ?_
          refine je_cvP' jb_X8_isSummedLike rfl (pc' := 23) rfl (by first | exact jh_V hi g | exact jh_V hi (g0.R37 hi _) | exact jh_walk hi) (by rfl) (by first | decide | exact Nat.ble_eq_true_of_le (by omega)) (k_sumAt hi g (by omega) (by omega)) (st' := [_]) rfl ?_
          refine je_ps jb_X8_isSummedLike 3 (pc' := 27) (ls' := [_, _, _, _, _]) (st' := [_, _, _, _]) rfl ?_
          refine je_iadd jb_X8_isSummedLike rfl (pc' := 28) rfl ?_
          refine je_ps jb_X8_isSummedLike 1 (pc' := 29) (ls' := [_, _, _, _, _]) (st' := [_, _, _, _]) rfl ?_
          refine je_csP' jb_X8_isSummedLike rfl (pc' := 32) rfl (by rfl) (by first | decide | exact Nat.ble_eq_true_of_le (by omega)) (c_X11_around (by omega) (by omega) (by omega) (by omega)) (st' := [_, _, _]) rfl ?_
          refine je_ps jb_X8_isSummedLike 1 (pc' := 33) (ls' := [_, _, _, _, _]) (st' := [_, _, _, _]) rfl ?_
          refine je_cvP' jb_X8_isSummedLike rfl (pc' := 36) rfl (by first | exact jh_V hj g2 | exact jh_V hj (g0.R37 hj _) | exact jh_walk hj) (by rfl) (by first | decide | exact Nat.ble_eq_true_of_le (by omega)) (k_sumAt hj g2 (by omega) (by omega)) (st' := [_, _]) rfl ?_
          refine je_icmpne jb_X8_isSummedLike rfl (t := 45) rfl (pc' := 39) rfl (by first | omega | exact (hM _ _).1 | exact (hM _ _).2) (by first | omega | exact (hM _ _).1 | exact (hM _ _).2) (by first | omega | exact (hM _ _).1 | exact (hM _ _).2) (by first | omega | exact (hM _ _).1 | exact (hM _ _).2) (fun c36 => ?_) (fun c36 => ?_)
          · refine je_ps jb_X8_isSummedLike 2 (pc' := 48) (ls' := [_, _, _, _, _]) (st' := [_, _]) rfl ?_
            refine je_icmpne jb_X8_isSummedLike rfl (t := 53) rfl (pc' := 51) rfl (by first | omega | exact (hM _ _).1 | exact (hM _ _).2) (by first | omega | exact (hM _ _).1 | exact (hM _ _).2) (by first | omega | exact (hM _ _).1 | exact (hM _ _).2) (by first | omega | exact (hM _ _).1 | exact (hM _ _).2) (fun c48 => ?_) (fun c48 => ?_)
            · refine je_iinc jb_X8_isSummedLike rfl (pc' := 56) rfl rfl (ls' := [_, _, _, _, _]) rfl ?_
              refine je_ps jb_X8_isSummedLike 1 (pc' := 2) (ls' := [_, _, _, _, _]) (st' := []) rfl ?_
              first | (exfalso; omega) | (refine kb _ _ ⟨_, rfl, rfl, fun q hq => ?_⟩; by_cases h : q = b <;> first | (subst h; exact fAll_f hv (decide_eq_false (by omega))) | exact fb q (by omega))
            · refine je_ps jb_X8_isSummedLike 1 (pc' := 52) (ls' := [_, _, _, _, _]) (st' := [_]) rfl ?_
              first | (exfalso; omega) | exact je_ret jb_X8_isSummedLike rfl (by rfl) ⟨jv_t (fAny_t hb (fAll_t fv)), rfl⟩
          · refine je_iinc jb_X8_isSummedLike rfl (pc' := 42) rfl rfl (ls' := [_, _, _, _, _]) rfl ?_
            refine je_ps jb_X8_isSummedLike 1 (pc' := 10) (ls' := [_, _, _, _, _]) (st' := []) rfl ?_
            refine kv _ _ ⟨rfl, rfl, fun q hq => ?_⟩
            by_cases h : q = v
            · subst h; exact decide_eq_true (by omega)
            · exact fv q (by omega)
      · obtain ⟨rfl, rfl, fv⟩ := gv
        refine je_ps jb_X8_isSummedLike 2 (pc' := 13) (ls' := [_, _, _, _, _]) (st' := [_, _]) rfl ?_
        refine je_icmpge jb_X8_isSummedLike rfl (t := 45) rfl (pc' := 16) rfl (by first | omega | exact (hM _ _).1 | exact (hM _ _).2) (by first | omega | exact (hM _ _).1 | exact (hM _ _).2) (by first | omega | exact (hM _ _).1 | exact (hM _ _).2) (by first | omega | exact (hM _ _).1 | exact (hM _ _).2) (fun c13 => ?_) (fun c13 => ?_)
        · refine je_ps jb_X8_isSummedLike 2 (pc' := 48) (ls' := [_, _, _, _, _]) (st' := [_, _]) rfl ?_
          refine je_icmpne jb_X8_isSummedLike rfl (t := 53) rfl (pc' := 51) rfl (by first | omega | exact (hM _ _).1 | exact (hM _ _).2) (by first | omega | exact (hM _ _).1 | exact (hM _ _).2) (by first | omega | exact (hM _ _).1 | exact (hM _ _).2) (by first | omega | exact (hM _ _).1 | exact (hM _ _).2) (fun c48 => ?_) (fun c48 => ?_)
          · refine je_iinc jb_X8_isSummedLike rfl (pc' := 56) rfl rfl (ls' := [_, _, _, _, _]) rfl ?_
            refine je_ps jb_X8_isSummedLike 1 (pc' := 2) (ls' := [_, _, _, _, _]) (st' := []) rfl ?_
            first | (exfalso; omega) | (refine kb _ _ ⟨_, rfl, rfl, fun q hq => ?_⟩; by_cases h : q = b <;> first | (subst h; exact fAll_f hv (decide_eq_false (by omega))) | exact fb q (by omega))
          · refine je_ps jb_X8_isSummedLike 1 (pc' := 52) (ls' := [_, _, _, _, _]) (st' := [_]) rfl ?_
            first | (exfalso; omega) | exact je_ret jb_X8_isSummedLike rfl (by rfl) ⟨jv_t (fAny_t hb (fAll_t fv)), rfl⟩
        · first | (exfalso; omega) | (cases c13; done) | (exfalso; simp_all; done)
  · obtain ⟨x, rfl, rfl, fb⟩ := gb
    refine je_ps jb_X8_isSummedLike 2 (pc' := 4) (ls' := [_, _, _, _, _]) (st' := [_, _]) rfl ?_
    refine je_icmpge jb_X8_isSummedLike rfl (t := 59) rfl (pc' := 7) rfl (by first | omega | exact (hM _ _).1 | exact (hM _ _).2) (by first | omega | exact (hM _ _).1 | exact (hM _ _).2) (by first | omega | exact (hM _ _).1 | exact (hM _ _).2) (by first | omega | exact (hM _ _).1 | exact (hM _ _).2) (fun c4 => ?_) (fun c4 => ?_)
    · refine je_ps jb_X8_isSummedLike 1 (pc' := 60) (ls' := [_, _, _, _, _]) (st' := [_]) rfl ?_
      exact je_ret jb_X8_isSummedLike rfl (by rfl) ⟨jv_f (fAny_f fb), rfl⟩
    · first | (exfalso; omega) | (cases c4; done) | (exfalso; simp_all; done)
def fLike (s n k : Int) (L : Int → Int) (e : Int) (L2 : Int → Int) (e2 : Int) : Bool := if e = e2 then (if fMany s n e = 0 then fMvl L L2 else fSml s k L L2 (fMany s n e)) else false
theorem k_isLike {i j : Nat} (hi : i < 13) (hj : j < 13) {s n k e e2 : Int} {L L2 : Int → Int} (g : jWk m i s n k L e) (g2 : jWk m j s n k L2 e2) : jq sc 4 jm_X8_isLike [.ref (jwa i), .ref (jwa j)] (jh m r T) (jP (some (.int (jI (jb (fLike s n k L e L2 e2))))) (jh m r T)) := by
  have gc := fC_i g.1.2 g.2.2.2.2
  have gd := fC_i g2.1.2 g2.2.2.2.2
  have gm := fMany_i g.1.2 g.2.2.2.2
  unfold fLike
  refine je_in jb_X8_isLike rfl (ls := [_, _, _]) rfl ?_
  refine je_ps jb_X8_isLike 1 (pc' := 1) (ls' := [_, _, _]) (st' := [_]) rfl ?_
  refine je_get jb_X8_isLike rfl (pc' := 4) rfl (by first | exact jh_V hi g | exact jh_V hi (g0.R37 hi _) | exact jh_walk hi) (by rfl) (by rfl) ?_
  refine je_ps jb_X8_isLike 1 (pc' := 5) (ls' := [_, _, _]) (st' := [_, _]) rfl ?_
  refine je_get jb_X8_isLike rfl (pc' := 8) rfl (by first | exact jh_V hj g2 | exact jh_V hj (g0.R37 hj _) | exact jh_walk hj) (by rfl) (by rfl) ?_
  refine je_icmpeq jb_X8_isLike rfl (t := 13) rfl (pc' := 11) rfl (by first | omega | exact (hM _ _).1 | exact (hM _ _).2) (by first | omega | exact (hM _ _).1 | exact (hM _ _).2) (by first | omega | exact (hM _ _).1 | exact (hM _ _).2) (by first | omega | exact (hM _ _).1 | exact (hM _ _).2) (fun c8 => ?_) (fun c8 => ?_)
  · refine je_ps jb_X8_isLike 1 (pc' := 14) (ls' := [_, _, _]) (st' := [_]) rfl ?_
    refine je_cvP' jb_X8_isLike rfl (pc' := 17) rfl (by first | exact jh_V hi g | exact jh_V hi (g0.R37 hi _) | exact jh_walk hi) (by rfl) (by first | decide | exact Nat.ble_eq_true_of_le (by omega)) (k_sumsCount hi g) (st' := [_]) rfl ?_
    refine je_ps jb_X8_isLike 2 (pc' := 19) (ls' := [_, _, _]) (st' := [_]) rfl ?_
    refine je_ifne jb_X8_isLike rfl (t := 30) rfl (pc' := 22) rfl (by first | omega | exact (hM _ _).1 | exact (hM _ _).2) (by first | omega | exact (hM _ _).1 | exact (hM _ _).2) (fun c19 => ?_) (fun c19 => ?_)
    · refine je_ps jb_X8_isLike 3 (pc' := 33) (ls' := [_, _, _]) (st' := [_, _, _]) rfl ?_
      refine je_cvP' jb_X8_isLike rfl (pc' := 36) rfl (by first | exact jh_V hi g | exact jh_V hi (g0.R37 hi _) | exact jh_walk hi) (by rfl) (by first | decide | exact Nat.ble_eq_true_of_le (by omega)) (k_isSummedLike hi hj g g2 (by omega)) (st' := [_]) rfl ?_
      rw [if_pos (by omega)]
      first | (rw [if_pos (by omega)]; exact je_retb jb_X8_isLike rfl ⟨rfl, rfl⟩) | (rw [if_neg (by omega)]; exact je_retb jb_X8_isLike rfl ⟨rfl, rfl⟩)
    · refine je_ps jb_X8_isLike 2 (pc' := 24) (ls' := [_, _, _]) (st' := [_, _]) rfl ?_
      refine je_cvP' jb_X8_isLike rfl (pc' := 27) rfl (by first | exact jh_V hi g | exact jh_V hi (g0.R37 hi _) | exact jh_walk hi) (by rfl) (by first | decide | exact Nat.ble_eq_true_of_le (by omega)) (k_isMovedLike hi hj g g2) (st' := [_]) rfl ?_
      refine je_ps jb_X8_isLike 1 (pc' := 36) (ls' := [_, _, _]) (st' := [_]) rfl ?_
      rw [if_pos (by omega)]
      first | (rw [if_pos (by omega)]; exact je_retb jb_X8_isLike rfl ⟨rfl, rfl⟩) | (rw [if_neg (by omega)]; exact je_retb jb_X8_isLike rfl ⟨rfl, rfl⟩)
  · refine je_ps jb_X8_isLike 1 (pc' := 12) (ls' := [_, _, _]) (st' := [_]) rfl ?_
    rw [if_neg (by omega)]
    exact je_ret jb_X8_isLike rfl (by rfl) ⟨rfl, rfl⟩
def fVan (s k : Int) (L : Int → Int) (q many : Int) : Bool := fAll (fun j => decide ((fSm s k L (j : Int) many * q) % k = 0)) many.toNat
theorem k_vanishes {i : Nat} (hi : i < 13) {s n k e q many : Int} {L : Int → Int} (g : jWk m i s n k L e) (hq : 0 ≤ q ∧ q ≤ 100) (hm : 0 ≤ many ∧ many ≤ 1000) : jq sc 3 jm_X8_vanishes [.ref (jwa i), .int (jI q), .int (jI many)] (jh m r T) (jP (some (.int (jI (jb (fVan s k L q many))))) (jh m r T)) := by
  have gk : 2 ≤ k ∧ k ≤ 5 := g.1.2.2
  refine je_in jb_X8_vanishes rfl (ls := [_, _, _, _]) rfl ?_
  refine je_ps jb_X8_vanishes 2 (pc' := 2) (ls' := [_, _, _, _]) (st' := []) rfl ?_
  refine je_loop (fun (v : Nat) ls σ' => ls = [.ref (jwa i), .int (jI q), .int (jI many), .int (jI v)] ∧ σ' = jh m r T ∧ ∀ p, p < v → decide ((fSm s k L (p : Int) many * q) % k = 0) = true) (many.toNat) ⟨rfl, rfl, fun q hq => by omega⟩ (fun v hv ls σ' gv kv => ?_) (fun ls σ' gv => ?_)
  · obtain ⟨rfl, rfl, fv⟩ := gv
    have g5 := fSm_i (s := s) (L := L) (j := (v : Int)) (many := many) (show 0 < k by omega)
    have g6 : 0 ≤ fSm s k L (v : Int) many * q ∧ fSm s k L (v : Int) many * q ≤ 5 * 100 := ⟨Int.mul_nonneg g5.1 hq.1, Int.mul_le_mul (by omega) hq.2 hq.1 (by omega)⟩
    have g7 := Int.emod_nonneg (fSm s k L (v : Int) many * q) (show k ≠ 0 by omega)
    have g8 := Int.emod_lt_of_pos (fSm s k L (v : Int) many * q) (show 0 < k by omega)
    refine je_ps jb_X8_vanishes 2 (pc' := 4) (ls' := [_, _, _, _]) (st' := [_, _]) rfl ?_
    refine je_icmpge jb_X8_vanishes rfl (t := 36) rfl (pc' := 7) rfl (by first | omega | exact (hM _ _).1 | exact (hM _ _).2) (by first | omega | exact (hM _ _).1 | exact (hM _ _).2) (by first | omega | exact (hM _ _).1 | exact (hM _ _).2) (by first | omega | exact (hM _ _).1 | exact (hM _ _).2) (fun c4 => ?_) (fun c4 => ?_)
    · first | (exfalso; omega) | (cases c4; done) | (exfalso; simp_all; done)
    · refine je_ps jb_X8_vanishes 3 (pc' := 10) (ls' := [_, _, _, _]) (st' := [_, _, _]) rfl ?_
      refine je_cvP' jb_X8_vanishes rfl (pc' := 13) rfl (by first | exact jh_V hi g | exact jh_V hi (g0.R37 hi _) | exact jh_walk hi) (by rfl) (by first | decide | exact Nat.ble_eq_true_of_le (by omega)) (k_sumAt hi g (by omega) (by omega)) (st' := [_]) rfl ?_
      refine je_ps jb_X8_vanishes 1 (pc' := 14) (ls' := [_, _, _, _]) (st' := [_, _]) rfl ?_
      refine je_imul jb_X8_vanishes rfl (pc' := 15) rfl ?_
      refine je_ps jb_X8_vanishes 1 (pc' := 16) (ls' := [_, _, _, _]) (st' := [_, _]) rfl ?_
      refine je_get jb_X8_vanishes rfl (pc' := 19) rfl (by first | exact jh_V hi g | exact jh_V hi (g0.R37 hi _) | exact jh_walk hi) (by rfl) (by rfl) ?_
      refine je_get jb_X8_vanishes rfl (pc' := 22) rfl (jh_VS hi g) (by rfl) (by rfl) ?_
      refine je_csP' jb_X8_vanishes rfl (pc' := 25) rfl (by rfl) (by first | decide | exact Nat.ble_eq_true_of_le (by omega)) (c_X11_around (by omega) (by omega) (by omega) (by omega)) (st' := [_]) rfl ?_
      refine je_ifeq jb_X8_vanishes rfl (t := 30) rfl (pc' := 28) rfl (by first | omega | exact (hM _ _).1 | exact (hM _ _).2) (by first | omega | exact (hM _ _).1 | exact (hM _ _).2) (fun c25 => ?_) (fun c25 => ?_)
      · refine je_iinc jb_X8_vanishes rfl (pc' := 33) rfl rfl (ls' := [_, _, _, _]) rfl ?_
        refine je_ps jb_X8_vanishes 1 (pc' := 2) (ls' := [_, _, _, _]) (st' := []) rfl ?_
        refine kv _ _ ⟨rfl, rfl, fun q hq => ?_⟩
        by_cases h : q = v
        · subst h; exact decide_eq_true (by assumption)
        · exact fv q (by omega)
      · refine je_ps jb_X8_vanishes 1 (pc' := 29) (ls' := [_, _, _, _]) (st' := [_]) rfl ?_
        exact je_ret jb_X8_vanishes rfl (by rfl) ⟨jv_f (fAll_f hv (decide_eq_false (by assumption))), rfl⟩
  · obtain ⟨rfl, rfl, fv⟩ := gv
    refine je_ps jb_X8_vanishes 2 (pc' := 4) (ls' := [_, _, _, _]) (st' := [_, _]) rfl ?_
    refine je_icmpge jb_X8_vanishes rfl (t := 36) rfl (pc' := 7) rfl (by first | omega | exact (hM _ _).1 | exact (hM _ _).2) (by first | omega | exact (hM _ _).1 | exact (hM _ _).2) (by first | omega | exact (hM _ _).1 | exact (hM _ _).2) (by first | omega | exact (hM _ _).1 | exact (hM _ _).2) (fun c4 => ?_) (fun c4 => ?_)
    · refine je_ps jb_X8_vanishes 1 (pc' := 37) (ls' := [_, _, _, _]) (st' := [_]) rfl ?_
      exact je_ret jb_X8_vanishes rfl (by rfl) ⟨jv_t (fAll_t fv), rfl⟩
    · first | (exfalso; omega) | (cases c4; done) | (exfalso; simp_all; done)
def fOrd (s n k : Int) (L : Int → Int) (e : Int) : Int :=
  if s = 0 ∧ e ≠ 0 then -9 else
  let many := if s = 0 then n else fMany s n e
  let v := fFst (fun q => fVan s k L ((q : Int) + 1) many) 0 k.toNat
  if v < k.toNat then n / max many 1 * ((v : Int) + 1) else -9
theorem fOrd_at {s n k e : Int} {L : Int → Int} {v : Nat} (h : ¬ (s = 0 ∧ e ≠ 0)) (hv : v < k.toNat) (h1 : fVan s k L ((v : Int) + 1) (if s = 0 then n else fMany s n e) = true) (h2 : ∀ q : Nat, q < v → fVan s k L ((q : Int) + 1) (if s = 0 then n else fMany s n e) = false) : fOrd s n k L e = n / max (if s = 0 then n else fMany s n e) 1 * ((v : Int) + 1) := by
  unfold fOrd
  rw [if_neg h]
  have q : fFst (fun q => fVan s k L ((q : Int) + 1) (if s = 0 then n else fMany s n e)) 0 k.toNat = v := fFst_hit (P := fun q : Nat => fVan s k L ((q : Int) + 1) (if s = 0 then n else fMany s n e)) h1 _ 0 (by omega) (by omega) (fun q _ hq => h2 q hq)
  simp only [q]
  rw [if_pos hv]
theorem fOrd_no {s n k e : Int} {L : Int → Int} (h : ¬ (s = 0 ∧ e ≠ 0)) (h2 : ∀ q : Nat, q < k.toNat → fVan s k L ((q : Int) + 1) (if s = 0 then n else fMany s n e) = false) : fOrd s n k L e = -9 := by
  unfold fOrd
  rw [if_neg h]
  have q : fFst (fun q => fVan s k L ((q : Int) + 1) (if s = 0 then n else fMany s n e)) 0 k.toNat = 0 + k.toNat := fFst_none (P := fun q : Nat => fVan s k L ((q : Int) + 1) (if s = 0 then n else fMany s n e)) _ 0 (fun q _ hq => h2 q (by omega))
  simp only [q]
  rw [if_neg (by omega)]
theorem k_order {i : Nat} (hi : i < 13) {s n k e : Int} {L : Int → Int} (g : jWk m i s n k L e) : jq sc 4 jm_X8_order [.ref (jwa i)] (jh m r T) (jP (some (.int (jI (fOrd s n k L e)))) (jh m r T)) := by
  have gc := fC_i g.1.2 g.2.2.2.2
  have gm := fMany_i g.1.2 g.2.2.2.2
  have gs := g.1.2
  unfold fS at gs
  refine je_in jb_X8_order rfl (ls := [_, _, _, _]) rfl ?_
  refine je_ps jb_X8_order 1 (pc' := 1) (ls' := [_, _, _, _]) (st' := [_]) rfl ?_
  refine je_get jb_X8_order rfl (pc' := 4) rfl (by first | exact jh_V hi g | exact jh_V hi (g0.R37 hi _) | exact jh_walk hi) (by rfl) (by rfl) ?_
  refine je_cvP' jb_X8_order rfl (pc' := 7) rfl (jh_VS hi g) (by rfl) (by first | decide | exact Nat.ble_eq_true_of_le (by omega)) (c_X5_isLine hi g.1) (st' := [_]) rfl ?_
  refine je_ifeqb jb_X8_order rfl (t := 20) rfl (pc' := 10) rfl (fun c7 => ?_) (fun c7 => ?_)
  · refine je_ps jb_X8_order 1 (pc' := 21) (ls' := [_, _, _, _]) (st' := [_]) rfl ?_
    refine je_get jb_X8_order rfl (pc' := 24) rfl (by first | exact jh_V hi g | exact jh_V hi (g0.R37 hi _) | exact jh_walk hi) (by rfl) (by rfl) ?_
    refine je_cvP' jb_X8_order rfl (pc' := 27) rfl (jh_VS hi g) (by rfl) (by first | decide | exact Nat.ble_eq_true_of_le (by omega)) (c_X5_isLine hi g.1) (st' := [_]) rfl ?_
    refine je_ifeqb jb_X8_order rfl (t := 40) rfl (pc' := 30) rfl (fun c27 => ?_) (fun c27 => ?_)
    · have cs := of_decide_eq_false c27
      refine je_ps jb_X8_order 1 (pc' := 41) (ls' := [_, _, _, _]) (st' := [_]) rfl ?_
      refine je_cvP' jb_X8_order rfl (pc' := 44) rfl (by first | exact jh_V hi g | exact jh_V hi (g0.R37 hi _) | exact jh_walk hi) (by rfl) (by first | decide | exact Nat.ble_eq_true_of_le (by omega)) (k_sumsCount hi g) (st' := [_]) rfl ?_
      refine je_ps jb_X8_order 2 (pc' := 46) (ls' := [_, _, _, _]) (st' := [_]) rfl ?_
      refine je_get jb_X8_order rfl (pc' := 49) rfl (by first | exact jh_V hi g | exact jh_V hi (g0.R37 hi _) | exact jh_walk hi) (by rfl) (by rfl) ?_
      refine je_get jb_X8_order rfl (pc' := 52) rfl (jh_VS hi g) (by rfl) (by rfl) ?_
      refine je_ps jb_X8_order 2 (pc' := 54) (ls' := [_, _, _, _]) (st' := [_, _, _]) rfl ?_
      refine je_max jb_X8_order rfl (pc' := 57) rfl rfl rfl (by first | omega | exact (hM _ _).1 | exact (hM _ _).2) (by first | omega | exact (hM _ _).1 | exact (hM _ _).2) (by first | omega | exact (hM _ _).1 | exact (hM _ _).2) (by first | omega | exact (hM _ _).1 | exact (hM _ _).2) ?_
      refine je_idiv jb_X8_order rfl (pc' := 58) rfl (by first | omega | exact (hM _ _).1 | exact (hM _ _).2) (by first | omega | exact (hM _ _).1 | exact (hM _ _).2) (by first | omega | exact (hM _ _).1 | exact (hM _ _).2) (by first | omega | exact (hM _ _).1 | exact (hM _ _).2) ?_
      refine je_ps jb_X8_order 3 (pc' := 61) (ls' := [_, _, _, _]) (st' := []) rfl ?_
      refine je_loop (fun (v : Nat) ls σ' => ls = [.ref (jwa i), .int (jI (if s = 0 then n else fMany s n e)), .int (jI (n / max (if s = 0 then n else fMany s n e) 1)), .int (jI ((v : Int) + 1))] ∧ σ' = jh m r T ∧ ∀ q, q < v → fVan s k L ((q : Int) + 1) (if s = 0 then n else fMany s n e) = false) (k.toNat) ⟨by first | (rw [if_pos cs]; rfl) | (rw [if_neg cs]; rfl), rfl, fun q hq => by omega⟩ (fun v hv ls σ' gv kv => ?_) (fun ls σ' gv => ?_)
      · obtain ⟨rfl, rfl, fv⟩ := gv
        have gd : 0 ≤ (if s = 0 then n else fMany s n e) ∧ (if s = 0 then n else fMany s n e) ≤ 25 := by split <;> omega
        refine je_ps jb_X8_order 2 (pc' := 63) (ls' := [_, _, _, _]) (st' := [_, _]) rfl ?_
        refine je_get jb_X8_order rfl (pc' := 66) rfl (by first | exact jh_V hi g | exact jh_V hi (g0.R37 hi _) | exact jh_walk hi) (by rfl) (by rfl) ?_
        refine je_get jb_X8_order rfl (pc' := 69) rfl (jh_VS hi g) (by rfl) (by rfl) ?_
        refine je_icmpgt jb_X8_order rfl (t := 91) rfl (pc' := 72) rfl (by first | omega | exact (hM _ _).1 | exact (hM _ _).2) (by first | omega | exact (hM _ _).1 | exact (hM _ _).2) (by first | omega | exact (hM _ _).1 | exact (hM _ _).2) (by first | omega | exact (hM _ _).1 | exact (hM _ _).2) (fun c69 => ?_) (fun c69 => ?_)
        · first | (exfalso; omega) | (cases c69; done) | (exfalso; simp_all; done)
        · refine je_ps jb_X8_order 3 (pc' := 75) (ls' := [_, _, _, _]) (st' := [_, _, _]) rfl ?_
          refine je_cvP' jb_X8_order rfl (pc' := 78) rfl (by first | exact jh_V hi g | exact jh_V hi (g0.R37 hi _) | exact jh_walk hi) (by rfl) (by first | decide | exact Nat.ble_eq_true_of_le (by omega)) (k_vanishes hi g (by omega) (by omega)) (st' := [_]) rfl ?_
          refine je_ifeqb jb_X8_order rfl (t := 85) rfl (pc' := 81) rfl (fun c78 => ?_) (fun c78 => ?_)
          · refine je_iinc jb_X8_order rfl (pc' := 88) rfl rfl (ls' := [_, _, _, _]) rfl ?_
            refine je_ps jb_X8_order 1 (pc' := 61) (ls' := [_, _, _, _]) (st' := []) rfl ?_
            refine kv _ _ ⟨rfl, rfl, fun q hq => ?_⟩
            by_cases h : q = v
            · subst h; assumption
            · exact fv q (by omega)
          · refine je_ps jb_X8_order 2 (pc' := 83) (ls' := [_, _, _, _]) (st' := [_, _]) rfl ?_
            refine je_imul jb_X8_order rfl (pc' := 84) rfl ?_
            rw [fOrd_at (by rintro ⟨q1, q2⟩; first | exact q2 c14 | exact of_decide_eq_false c7 q1) hv c78 fv]
            exact je_ret jb_X8_order rfl (by rfl) ⟨rfl, rfl⟩
      · obtain ⟨rfl, rfl, fv⟩ := gv
        have gd : 0 ≤ (if s = 0 then n else fMany s n e) ∧ (if s = 0 then n else fMany s n e) ≤ 25 := by split <;> omega
        refine je_ps jb_X8_order 2 (pc' := 63) (ls' := [_, _, _, _]) (st' := [_, _]) rfl ?_
        refine je_get jb_X8_order rfl (pc' := 66) rfl (by first | exact jh_V hi g | exact jh_V hi (g0.R37 hi _) | exact jh_walk hi) (by rfl) (by rfl) ?_
        refine je_get jb_X8_order rfl (pc' := 69) rfl (jh_VS hi g) (by rfl) (by rfl) ?_
        refine je_icmpgt jb_X8_order rfl (t := 91) rfl (pc' := 72) rfl (by first | omega | exact (hM _ _).1 | exact (hM _ _).2) (by first | omega | exact (hM _ _).1 | exact (hM _ _).2) (by first | omega | exact (hM _ _).1 | exact (hM _ _).2) (by first | omega | exact (hM _ _).1 | exact (hM _ _).2) (fun c69 => ?_) (fun c69 => ?_)
        · refine je_ps jb_X8_order 1 (pc' := 93) (ls' := [_, _, _, _]) (st' := [_]) rfl ?_
          rw [fOrd_no (by rintro ⟨q1, q2⟩; first | exact q2 c14 | exact of_decide_eq_false c7 q1) fv]
          exact je_ret jb_X8_order rfl (by rfl) ⟨rfl, rfl⟩
        · first | (exfalso; omega) | (cases c69; done) | (exfalso; simp_all; done)
    · have cs := of_decide_eq_true c27
      refine je_ps jb_X8_order 1 (pc' := 31) (ls' := [_, _, _, _]) (st' := [_]) rfl ?_
      refine je_get jb_X8_order rfl (pc' := 34) rfl (by first | exact jh_V hi g | exact jh_V hi (g0.R37 hi _) | exact jh_walk hi) (by rfl) (by rfl) ?_
      refine je_get jb_X8_order rfl (pc' := 37) rfl (jh_VS hi g) (by rfl) (by rfl) ?_
      refine je_ps jb_X8_order 3 (pc' := 46) (ls' := [_, _, _, _]) (st' := [_]) rfl ?_
      refine je_get jb_X8_order rfl (pc' := 49) rfl (by first | exact jh_V hi g | exact jh_V hi (g0.R37 hi _) | exact jh_walk hi) (by rfl) (by rfl) ?_
      refine je_get jb_X8_order rfl (pc' := 52) rfl (jh_VS hi g) (by rfl) (by rfl) ?_
      refine je_ps jb_X8_order 2 (pc' := 54) (ls' := [_, _, _, _]) (st' := [_, _, _]) rfl ?_
      refine je_max jb_X8_order rfl (pc' := 57) rfl rfl rfl (by first | omega | exact (hM _ _).1 | exact (hM _ _).2) (by first | omega | exact (hM _ _).1 | exact (hM _ _).2) (by first | omega | exact (hM _ _).1 | exact (hM _ _).2) (by first | omega | exact (hM _ _).1 | exact (hM _ _).2) ?_
      refine je_idiv jb_X8_order rfl (pc' := 58) rfl (by first | omega | exact (hM _ _).1 | exact (hM _ _).2) (by first | omega | exact (hM _ _).1 | exact (hM _ _).2) (by first | omega | exact (hM _ _).1 | exact (hM _ _).2) (by first | omega | exact (hM _ _).1 | exact (hM _ _).2) ?_
      refine je_ps jb_X8_order 3 (pc' := 61) (ls' := [_, _, _, _]) (st' := []) rfl ?_
      refine je_loop (fun (v : Nat) ls σ' => ls = [.ref (jwa i), .int (jI (if s = 0 then n else fMany s n e)), .int (jI (n / max (if s = 0 then n else fMany s n e) 1)), .int (jI ((v : Int) + 1))] ∧ σ' = jh m r T ∧ ∀ q, q < v → fVan s k L ((q : Int) + 1) (if s = 0 then n else fMany s n e) = false) (k.toNat) ⟨by first | (rw [if_pos cs]; rfl) | (rw [if_neg cs]; rfl), rfl, fun q hq => by omega⟩ (fun v hv ls σ' gv kv => ?_) (fun ls σ' gv => ?_)
      · obtain ⟨rfl, rfl, fv⟩ := gv
        have gd : 0 ≤ (if s = 0 then n else fMany s n e) ∧ (if s = 0 then n else fMany s n e) ≤ 25 := by split <;> omega
        refine je_ps jb_X8_order 2 (pc' := 63) (ls' := [_, _, _, _]) (st' := [_, _]) rfl ?_
        refine je_get jb_X8_order rfl (pc' := 66) rfl (by first | exact jh_V hi g | exact jh_V hi (g0.R37 hi _) | exact jh_walk hi) (by rfl) (by rfl) ?_
        refine je_get jb_X8_order rfl (pc' := 69) rfl (jh_VS hi g) (by rfl) (by rfl) ?_
        refine je_icmpgt jb_X8_order rfl (t := 91) rfl (pc' := 72) rfl (by first | omega | exact (hM _ _).1 | exact (hM _ _).2) (by first | omega | exact (hM _ _).1 | exact (hM _ _).2) (by first | omega | exact (hM _ _).1 | exact (hM _ _).2) (by first | omega | exact (hM _ _).1 | exact (hM _ _).2) (fun c69 => ?_) (fun c69 => ?_)
        · first | (exfalso; omega) | (cases c69; done) | (exfalso; simp_all; done)
        · refine je_ps jb_X8_order 3 (pc' := 75) (ls' := [_, _, _, _]) (st' := [_, _, _]) rfl ?_
          refine je_cvP' jb_X8_order rfl (pc' := 78) rfl (by first | exact jh_V hi g | exact jh_V hi (g0.R37 hi _) | exact jh_walk hi) (by rfl) (by first | decide | exact Nat.ble_eq_true_of_le (by omega)) (k_vanishes hi g (by omega) (by omega)) (st' := [_]) rfl ?_
          refine je_ifeqb jb_X8_order rfl (t := 85) rfl (pc' := 81) rfl (fun c78 => ?_) (fun c78 => ?_)
          · refine je_iinc jb_X8_order rfl (pc' := 88) rfl rfl (ls' := [_, _, _, _]) rfl ?_
            refine je_ps jb_X8_order 1 (pc' := 61) (ls' := [_, _, _, _]) (st' := []) rfl ?_
            refine kv _ _ ⟨rfl, rfl, fun q hq => ?_⟩
            by_cases h : q = v
            · subst h; assumption
            · exact fv q (by omega)
          · refine je_ps jb_X8_order 2 (pc' := 83) (ls' := [_, _, _, _]) (st' := [_, _]) rfl ?_
            refine je_imul jb_X8_order rfl (pc' := 84) rfl ?_
            rw [fOrd_at (by rintro ⟨q1, q2⟩; first | exact q2 c14 | exact of_decide_eq_false c7 q1) hv c78 fv]
            exact je_ret jb_X8_order rfl (by rfl) ⟨rfl, rfl⟩
      · obtain ⟨rfl, rfl, fv⟩ := gv
        have gd : 0 ≤ (if s = 0 then n else fMany s n e) ∧ (if s = 0 then n else fMany s n e) ≤ 25 := by split <;> omega
        refine je_ps jb_X8_order 2 (pc' := 63) (ls' := [_, _, _, _]) (st' := [_, _]) rfl ?_
        refine je_get jb_X8_order rfl (pc' := 66) rfl (by first | exact jh_V hi g | exact jh_V hi (g0.R37 hi _) | exact jh_walk hi) (by rfl) (by rfl) ?_
        refine je_get jb_X8_order rfl (pc' := 69) rfl (jh_VS hi g) (by rfl) (by rfl) ?_
        refine je_icmpgt jb_X8_order rfl (t := 91) rfl (pc' := 72) rfl (by first | omega | exact (hM _ _).1 | exact (hM _ _).2) (by first | omega | exact (hM _ _).1 | exact (hM _ _).2) (by first | omega | exact (hM _ _).1 | exact (hM _ _).2) (by first | omega | exact (hM _ _).1 | exact (hM _ _).2) (fun c69 => ?_) (fun c69 => ?_)
        · refine je_ps jb_X8_order 1 (pc' := 93) (ls' := [_, _, _, _]) (st' := [_]) rfl ?_
          rw [fOrd_no (by rintro ⟨q1, q2⟩; first | exact q2 c14 | exact of_decide_eq_false c7 q1) fv]
          exact je_ret jb_X8_order rfl (by rfl) ⟨rfl, rfl⟩
        · first | (exfalso; omega) | (cases c69; done) | (exfalso; simp_all; done)
  · refine je_ps jb_X8_order 1 (pc' := 11) (ls' := [_, _, _, _]) (st' := [_]) rfl ?_
    refine je_get jb_X8_order rfl (pc' := 14) rfl (by first | exact jh_V hi g | exact jh_V hi (g0.R37 hi _) | exact jh_walk hi) (by rfl) (by rfl) ?_
    refine je_ifeq jb_X8_order rfl (t := 20) rfl (pc' := 17) rfl (by first | omega | exact (hM _ _).1 | exact (hM _ _).2) (by first | omega | exact (hM _ _).1 | exact (hM _ _).2) (fun c14 => ?_) (fun c14 => ?_)
    · refine je_ps jb_X8_order 1 (pc' := 21) (ls' := [_, _, _, _]) (st' := [_]) rfl ?_
      refine je_get jb_X8_order rfl (pc' := 24) rfl (by first | exact jh_V hi g | exact jh_V hi (g0.R37 hi _) | exact jh_walk hi) (by rfl) (by rfl) ?_
      refine je_cvP' jb_X8_order rfl (pc' := 27) rfl (jh_VS hi g) (by rfl) (by first | decide | exact Nat.ble_eq_true_of_le (by omega)) (c_X5_isLine hi g.1) (st' := [_]) rfl ?_
      refine je_ifeqb jb_X8_order rfl (t := 40) rfl (pc' := 30) rfl (fun c27 => ?_) (fun c27 => ?_)
      · have cs := of_decide_eq_false c27
        refine je_ps jb_X8_order 1 (pc' := 41) (ls' := [_, _, _, _]) (st' := [_]) rfl ?_
        refine je_cvP' jb_X8_order rfl (pc' := 44) rfl (by first | exact jh_V hi g | exact jh_V hi (g0.R37 hi _) | exact jh_walk hi) (by rfl) (by first | decide | exact Nat.ble_eq_true_of_le (by omega)) (k_sumsCount hi g) (st' := [_]) rfl ?_
        refine je_ps jb_X8_order 2 (pc' := 46) (ls' := [_, _, _, _]) (st' := [_]) rfl ?_
        refine je_get jb_X8_order rfl (pc' := 49) rfl (by first | exact jh_V hi g | exact jh_V hi (g0.R37 hi _) | exact jh_walk hi) (by rfl) (by rfl) ?_
        refine je_get jb_X8_order rfl (pc' := 52) rfl (jh_VS hi g) (by rfl) (by rfl) ?_
        refine je_ps jb_X8_order 2 (pc' := 54) (ls' := [_, _, _, _]) (st' := [_, _, _]) rfl ?_
        refine je_max jb_X8_order rfl (pc' := 57) rfl rfl rfl (by first | omega | exact (hM _ _).1 | exact (hM _ _).2) (by first | omega | exact (hM _ _).1 | exact (hM _ _).2) (by first | omega | exact (hM _ _).1 | exact (hM _ _).2) (by first | omega | exact (hM _ _).1 | exact (hM _ _).2) ?_
        refine je_idiv jb_X8_order rfl (pc' := 58) rfl (by first | omega | exact (hM _ _).1 | exact (hM _ _).2) (by first | omega | exact (hM _ _).1 | exact (hM _ _).2) (by first | omega | exact (hM _ _).1 | exact (hM _ _).2) (by first | omega | exact (hM _ _).1 | exact (hM _ _).2) ?_
        refine je_ps jb_X8_order 3 (pc' := 61) (ls' := [_, _, _, _]) (st' := []) rfl ?_
        refine je_loop (fun (v : Nat) ls σ' => ls = [.ref (jwa i), .int (jI (if s = 0 then n else fMany s n e)), .int (jI (n / max (if s = 0 then n else fMany s n e) 1)), .int (jI ((v : Int) + 1))] ∧ σ' = jh m r T ∧ ∀ q, q < v → fVan s k L ((q : Int) + 1) (if s = 0 then n else fMany s n e) = false) (k.toNat) ⟨by first | (rw [if_pos cs]; rfl) | (rw [if_neg cs]; rfl), rfl, fun q hq => by omega⟩ (fun v hv ls σ' gv kv => ?_) (fun ls σ' gv => ?_)
        · obtain ⟨rfl, rfl, fv⟩ := gv
          have gd : 0 ≤ (if s = 0 then n else fMany s n e) ∧ (if s = 0 then n else fMany s n e) ≤ 25 := by split <;> omega
          refine je_ps jb_X8_order 2 (pc' := 63) (ls' := [_, _, _, _]) (st' := [_, _]) rfl ?_
          refine je_get jb_X8_order rfl (pc' := 66) rfl (by first | exact jh_V hi g | exact jh_V hi (g0.R37 hi _) | exact jh_walk hi) (by rfl) (by rfl) ?_
          refine je_get jb_X8_order rfl (pc' := 69) rfl (jh_VS hi g) (by rfl) (by rfl) ?_
          refine je_icmpgt jb_X8_order rfl (t := 91) rfl (pc' := 72) rfl (by first | omega | exact (hM _ _).1 | exact (hM _ _).2) (by first | omega | exact (hM _ _).1 | exact (hM _ _).2) (by first | omega | exact (hM _ _).1 | exact (hM _ _).2) (by first | omega | exact (hM _ _).1 | exact (hM _ _).2) (fun c69 => ?_) (fun c69 => ?_)
          · first | (exfalso; omega) | (cases c69; done) | (exfalso; simp_all; done)
          · refine je_ps jb_X8_order 3 (pc' := 75) (ls' := [_, _, _, _]) (st' := [_, _, _]) rfl ?_
            refine je_cvP' jb_X8_order rfl (pc' := 78) rfl (by first | exact jh_V hi g | exact jh_V hi (g0.R37 hi _) | exact jh_walk hi) (by rfl) (by first | decide | exact Nat.ble_eq_true_of_le (by omega)) (k_vanishes hi g (by omega) (by omega)) (st' := [_]) rfl ?_
            refine je_ifeqb jb_X8_order rfl (t := 85) rfl (pc' := 81) rfl (fun c78 => ?_) (fun c78 => ?_)
            · refine je_iinc jb_X8_order rfl (pc' := 88) rfl rfl (ls' := [_, _, _, _]) rfl ?_
              refine je_ps jb_X8_order 1 (pc' := 61) (ls' := [_, _, _, _]) (st' := []) rfl ?_
              refine kv _ _ ⟨rfl, rfl, fun q hq => ?_⟩
              by_cases h : q = v
              · subst h; assumption
              · exact fv q (by omega)
            · refine je_ps jb_X8_order 2 (pc' := 83) (ls' := [_, _, _, _]) (st' := [_, _]) rfl ?_
              refine je_imul jb_X8_order rfl (pc' := 84) rfl ?_
              rw [fOrd_at (by rintro ⟨q1, q2⟩; first | exact q2 c14 | exact of_decide_eq_false c7 q1) hv c78 fv]
              exact je_ret jb_X8_order rfl (by rfl) ⟨rfl, rfl⟩
        · obtain ⟨rfl, rfl, fv⟩ := gv
          have gd : 0 ≤ (if s = 0 then n else fMany s n e) ∧ (if s = 0 then n else fMany s n e) ≤ 25 := by split <;> omega
          refine je_ps jb_X8_order 2 (pc' := 63) (ls' := [_, _, _, _]) (st' := [_, _]) rfl ?_
          refine je_get jb_X8_order rfl (pc' := 66) rfl (by first | exact jh_V hi g | exact jh_V hi (g0.R37 hi _) | exact jh_walk hi) (by rfl) (by rfl) ?_
          refine je_get jb_X8_order rfl (pc' := 69) rfl (jh_VS hi g) (by rfl) (by rfl) ?_
          refine je_icmpgt jb_X8_order rfl (t := 91) rfl (pc' := 72) rfl (by first | omega | exact (hM _ _).1 | exact (hM _ _).2) (by first | omega | exact (hM _ _).1 | exact (hM _ _).2) (by first | omega | exact (hM _ _).1 | exact (hM _ _).2) (by first | omega | exact (hM _ _).1 | exact (hM _ _).2) (fun c69 => ?_) (fun c69 => ?_)
          · refine je_ps jb_X8_order 1 (pc' := 93) (ls' := [_, _, _, _]) (st' := [_]) rfl ?_
            rw [fOrd_no (by rintro ⟨q1, q2⟩; first | exact q2 c14 | exact of_decide_eq_false c7 q1) fv]
            exact je_ret jb_X8_order rfl (by rfl) ⟨rfl, rfl⟩
          · first | (exfalso; omega) | (cases c69; done) | (exfalso; simp_all; done)
      · have cs := of_decide_eq_true c27
        refine je_ps jb_X8_order 1 (pc' := 31) (ls' := [_, _, _, _]) (st' := [_]) rfl ?_
        refine je_get jb_X8_order rfl (pc' := 34) rfl (by first | exact jh_V hi g | exact jh_V hi (g0.R37 hi _) | exact jh_walk hi) (by rfl) (by rfl) ?_
        refine je_get jb_X8_order rfl (pc' := 37) rfl (jh_VS hi g) (by rfl) (by rfl) ?_
        refine je_ps jb_X8_order 3 (pc' := 46) (ls' := [_, _, _, _]) (st' := [_]) rfl ?_
        refine je_get jb_X8_order rfl (pc' := 49) rfl (by first | exact jh_V hi g | exact jh_V hi (g0.R37 hi _) | exact jh_walk hi) (by rfl) (by rfl) ?_
        refine je_get jb_X8_order rfl (pc' := 52) rfl (jh_VS hi g) (by rfl) (by rfl) ?_
        refine je_ps jb_X8_order 2 (pc' := 54) (ls' := [_, _, _, _]) (st' := [_, _, _]) rfl ?_
        refine je_max jb_X8_order rfl (pc' := 57) rfl rfl rfl (by first | omega | exact (hM _ _).1 | exact (hM _ _).2) (by first | omega | exact (hM _ _).1 | exact (hM _ _).2) (by first | omega | exact (hM _ _).1 | exact (hM _ _).2) (by first | omega | exact (hM _ _).1 | exact (hM _ _).2) ?_
        refine je_idiv jb_X8_order rfl (pc' := 58) rfl (by first | omega | exact (hM _ _).1 | exact (hM _ _).2) (by first | omega | exact (hM _ _).1 | exact (hM _ _).2) (by first | omega | exact (hM _ _).1 | exact (hM _ _).2) (by first | omega | exact (hM _ _).1 | exact (hM _ _).2) ?_
        refine je_ps jb_X8_order 3 (pc' := 61) (ls' := [_, _, _, _]) (st' := []) rfl ?_
        refine je_loop (fun (v : Nat) ls σ' => ls = [.ref (jwa i), .int (jI (if s = 0 then n else fMany s n e)), .int (jI (n / max (if s = 0 then n else fMany s n e) 1)), .int (jI ((v : Int) + 1))] ∧ σ' = jh m r T ∧ ∀ q, q < v → fVan s k L ((q : Int) + 1) (if s = 0 then n else fMany s n e) = false) (k.toNat) ⟨by first | (rw [if_pos cs]; rfl) | (rw [if_neg cs]; rfl), rfl, fun q hq => by omega⟩ (fun v hv ls σ' gv kv => ?_) (fun ls σ' gv => ?_)
        · obtain ⟨rfl, rfl, fv⟩ := gv
          have gd : 0 ≤ (if s = 0 then n else fMany s n e) ∧ (if s = 0 then n else fMany s n e) ≤ 25 := by split <;> omega
          refine je_ps jb_X8_order 2 (pc' := 63) (ls' := [_, _, _, _]) (st' := [_, _]) rfl ?_
          refine je_get jb_X8_order rfl (pc' := 66) rfl (by first | exact jh_V hi g | exact jh_V hi (g0.R37 hi _) | exact jh_walk hi) (by rfl) (by rfl) ?_
          refine je_get jb_X8_order rfl (pc' := 69) rfl (jh_VS hi g) (by rfl) (by rfl) ?_
          refine je_icmpgt jb_X8_order rfl (t := 91) rfl (pc' := 72) rfl (by first | omega | exact (hM _ _).1 | exact (hM _ _).2) (by first | omega | exact (hM _ _).1 | exact (hM _ _).2) (by first | omega | exact (hM _ _).1 | exact (hM _ _).2) (by first | omega | exact (hM _ _).1 | exact (hM _ _).2) (fun c69 => ?_) (fun c69 => ?_)
          · first | (exfalso; omega) | (cases c69; done) | (exfalso; simp_all; done)
          · refine je_ps jb_X8_order 3 (pc' := 75) (ls' := [_, _, _, _]) (st' := [_, _, _]) rfl ?_
            refine je_cvP' jb_X8_order rfl (pc' := 78) rfl (by first | exact jh_V hi g | exact jh_V hi (g0.R37 hi _) | exact jh_walk hi) (by rfl) (by first | decide | exact Nat.ble_eq_true_of_le (by omega)) (k_vanishes hi g (by omega) (by omega)) (st' := [_]) rfl ?_
            refine je_ifeqb jb_X8_order rfl (t := 85) rfl (pc' := 81) rfl (fun c78 => ?_) (fun c78 => ?_)
            · refine je_iinc jb_X8_order rfl (pc' := 88) rfl rfl (ls' := [_, _, _, _]) rfl ?_
              refine je_ps jb_X8_order 1 (pc' := 61) (ls' := [_, _, _, _]) (st' := []) rfl ?_
              refine kv _ _ ⟨rfl, rfl, fun q hq => ?_⟩
              by_cases h : q = v
              · subst h; assumption
              · exact fv q (by omega)
            · refine je_ps jb_X8_order 2 (pc' := 83) (ls' := [_, _, _, _]) (st' := [_, _]) rfl ?_
              refine je_imul jb_X8_order rfl (pc' := 84) rfl ?_
              rw [fOrd_at (by rintro ⟨q1, q2⟩; first | exact q2 c14 | exact of_decide_eq_false c7 q1) hv c78 fv]
              exact je_ret jb_X8_order rfl (by rfl) ⟨rfl, rfl⟩
        · obtain ⟨rfl, rfl, fv⟩ := gv
          have gd : 0 ≤ (if s = 0 then n else fMany s n e) ∧ (if s = 0 then n else fMany s n e) ≤ 25 := by split <;> omega
          refine je_ps jb_X8_order 2 (pc' := 63) (ls' := [_, _, _, _]) (st' := [_, _]) rfl ?_
          refine je_get jb_X8_order rfl (pc' := 66) rfl (by first | exact jh_V hi g | exact jh_V hi (g0.R37 hi _) | exact jh_walk hi) (by rfl) (by rfl) ?_
          refine je_get jb_X8_order rfl (pc' := 69) rfl (jh_VS hi g) (by rfl) (by rfl) ?_
          refine je_icmpgt jb_X8_order rfl (t := 91) rfl (pc' := 72) rfl (by first | omega | exact (hM _ _).1 | exact (hM _ _).2) (by first | omega | exact (hM _ _).1 | exact (hM _ _).2) (by first | omega | exact (hM _ _).1 | exact (hM _ _).2) (by first | omega | exact (hM _ _).1 | exact (hM _ _).2) (fun c69 => ?_) (fun c69 => ?_)
          · refine je_ps jb_X8_order 1 (pc' := 93) (ls' := [_, _, _, _]) (st' := [_]) rfl ?_
            rw [fOrd_no (by rintro ⟨q1, q2⟩; first | exact q2 c14 | exact of_decide_eq_false c7 q1) fv]
            exact je_ret jb_X8_order rfl (by rfl) ⟨rfl, rfl⟩
          · first | (exfalso; omega) | (cases c69; done) | (exfalso; simp_all; done)
    · refine je_ps jb_X8_order 1 (pc' := 19) (ls' := [_, _, _, _]) (st' := [_]) rfl ?_
      unfold fOrd
      rw [if_pos ⟨of_decide_eq_true c7, by omega⟩]
      exact je_ret jb_X8_order rfl (by rfl) ⟨rfl, rfl⟩
end C18
