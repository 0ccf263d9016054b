/-! THE CLASS'S WALK, products, inverses, powers -/
section C15
variable {sc : Nat × (Nat → Int32)} {m : Nat → Int → Int} {r : Nat → Nat → Value} {T : jx_H} {σ : jx_H}
theorem fL_0 {s n k : Int} (h : fS s n k) : fL n k (fun _ => 0) := by
  unfold fS at h
  exact ⟨fun _ => ⟨Int.le_refl 0, by show (0 : Int) < k; omega⟩, fun _ _ => rfl⟩
theorem fAt_i {n k : Int} {L : Int → Int} (h : fL n k L) (hk : 0 < k) (p : Int) : 0 ≤ fAt L p ∧ fAt L p < k := by
  unfold fAt
  split
  · exact h.1 p
  · omega
theorem fSh_i {s n k : Int} {L : Int → Int} (h : fL n k L) (hk : 0 < k) (p : Int) : 0 ≤ fSh s n L p ∧ fSh s n L p < k := fAt_i h hk _
/-- does it fit, moved -/
def fFitP (s n : Int) (L : Int → Int) (b : Int) : Prop := ∀ p : Int, 0 ≤ p → p < 25 → 0 < L p → fHas s n (fRe s n (fLo s + p) b) = true
def fFit (s n : Int) (L : Int → Int) (b : Int) : Bool := (List.range 25).all fun q => !decide (0 < L (q : Int)) || fHas s n (fRe s n (fLo s + (q : Int)) b)
theorem fFit_iff {s n : Int} {L : Int → Int} {b : Int} : fFit s n L b = true ↔ fFitP s n L b := by
  unfold fFit
  rw [List.all_eq_true]
  constructor
  · intro h p h1 h2 h3
    have q := h p.toNat (List.mem_range.mpr (by omega))
    rw [show ((p.toNat : Nat) : Int) = p by omega] at q
    simpa [h3] using q
  · intro h q hq
    have := List.mem_range.mp hq
    by_cases h3 : 0 < L (q : Int)
    · simp [h3, h q (by omega) (by omega) h3]
    · simp [h3]
theorem fFit_f {s n : Int} {L : Int → Int} {b : Int} (h : ¬ fFitP s n L b) : fFit s n L b = false := by
  cases hq : fFit s n L b with
  | false => rfl
  | true => exact absurd (fFit_iff.mp hq) h
def fMulL (s n k : Int) (L : Int → Int) (e : Int) (L2 : Int → Int) : Nat → (Int → Int)
  | 0 => L
  | v + 1 => fTu s n k (fMulL s n k L e L2 v) (fRe s n (fLo s + (v : Int)) e) (fAt L2 (v : Int))
theorem fMulL_ok {s n k e : Int} {L L2 : Int → Int} (h : fS s n k) (hL : fL n k L) : ∀ v, fL n k (fMulL s n k L e L2 v)
  | 0 => hL
  | v + 1 => fTu_ok h (fMulL_ok h hL v)
def fMul (s n k : Int) (L : Int → Int) (e : Int) (L2 : Int → Int) (e2 : Int) : Bool × (Int → Int) × Int :=
  if fHas s n (fRe s n e e2) = true ∧ fFit s n L2 e = true then (true, fMulL s n k L e L2 25, fRe s n e e2) else (false, L, e)
theorem fMul_ok {s n k e e2 : Int} {L L2 : Int → Int} (h : fS s n k) (hL : fL n k L) (he : fC s n e) : fL n k (fMul s n k L e L2 e2).2.1 ∧ fC s n (fMul s n k L e L2 e2).2.2 := by
  unfold fMul
  split
  · rename_i h1
    exact ⟨fMulL_ok h hL _, fHas_t h1.1⟩
  · exact ⟨hL, he⟩
/-- the other way -/
def fInvL (s n k : Int) (L2 : Int → Int) (e2 : Int) : Nat → (Int → Int)
  | 0 => fun _ => 0
  | v + 1 => fTu s n k (fInvL s n k L2 e2 v) (fRe s n (fLo s + (v : Int)) (-e2)) (-(fAt L2 (v : Int)))
theorem fInvL_0 (s n k : Int) (L2 : Int → Int) (e2 : Int) : fInvL s n k L2 e2 0 = fun _ => 0 := rfl
theorem fInvL_ok {s n k e2 : Int} {L2 : Int → Int} (h : fS s n k) : ∀ v, fL n k (fInvL s n k L2 e2 v)
  | 0 => by rw [fInvL_0]; exact fL_0 h
  | v + 1 => fTu_ok h (fInvL_ok h v)
theorem fRe_neg {s n k e : Int} (h : fS s n k) (he : fC s n e) : fC s n (fRe s n 0 (-e)) := by
  have gl := fLo_c s
  unfold fC at *
  unfold fRe
  unfold fS at h
  by_cases h1 : s = 1
  · rw [if_pos h1]
    have := Int.emod_nonneg (0 + -e) (show n ≠ 0 by omega)
    have := Int.emod_lt_of_pos (0 + -e) (show 0 < n by omega)
    omega
  · rw [if_neg h1]
    omega
def fPow (s n k : Int) (L2 : Int → Int) (e2 : Int) : Nat → Bool × (Int → Int) × Int
  | 0 => (true, fun _ => 0, 0)
  | v + 1 => if (fPow s n k L2 e2 v).1 = true then fMul s n k (fPow s n k L2 e2 v).2.1 (fPow s n k L2 e2 v).2.2 L2 e2 else fPow s n k L2 e2 v
theorem fC_0 {s n k : Int} (h : fS s n k) : fC s n 0 := by
  have gl := fLo_c s
  unfold fC
  unfold fS at h
  omega
theorem fPow_ok {s n k e2 : Int} {L2 : Int → Int} (h : fS s n k) : ∀ v, fL n k (fPow s n k L2 e2 v).2.1 ∧ fC s n (fPow s n k L2 e2 v).2.2
  | 0 => ⟨fL_0 h, fC_0 h⟩
  | v + 1 => by
    have q := fPow_ok (L2 := L2) (e2 := e2) h v
    unfold fPow
    split
    · exact fMul_ok h q.1 q.2
    · exact q
theorem fPow_stay {s n k e2 : Int} {L2 : Int → Int} {v : Nat} (h : (fPow s n k L2 e2 v).1 = false) : ∀ w, v ≤ w → fPow s n k L2 e2 w = fPow s n k L2 e2 v
  | 0, hw => by
    have : v = 0 := by omega
    rw [this]
  | w + 1, hw => by
    by_cases h1 : v = w + 1
    · rw [h1]
    · have q := fPow_stay h w (by omega)
      show (if (fPow s n k L2 e2 w).1 = true then _ else fPow s n k L2 e2 w) = _
      rw [q, h]
      rfl
/-- what a walk may hold beyond its lamps' places doesn't count: there is nothing -/
def jZ (m : Nat → Int → Int) (i : Nat) : Prop := ∀ p : Int, ¬ (0 ≤ p ∧ p < 25) → m (jwl i) p = 0
theorem jF_Z {i : Nat} {g : Int → Int} (h : jZ m i) (hg : ∀ p : Int, ¬ (0 ≤ p ∧ p < 25) → g p = 0) : jF (m (jwl i)) g 25 = g := by
  funext p
  unfold jF
  by_cases h1 : 0 ≤ p ∧ p < 25
  · rw [if_pos h1]
  · rw [if_neg h1, h p h1, hg p h1]
theorem k_clear {i : Nat} (hi : i < 13) (z : jZ m i) : jq sc 1 jm_X8_clear [.ref (jwa i)] (jh m r T) (jP none (jh (jW m i (fun _ => 0) 0) r T)) := by
  refine jq_eq (c_X8_clear hi) rfl (jh_eq ?_)
  rw [jF_Z z (fun _ _ => rfl)]
  rfl
theorem k_copyFrom {i j : Nat} (hi : i < 13) (z : jZ m i) (hj : j < 13) {s n k e : Int} {L : Int → Int} (g : jWk m j s n k L e) (hij : j ≠ i) (zj : ∀ p : Int, ¬ (0 ≤ p ∧ p < 25) → L p = 0) : jq sc 2 jm_X8_copyFrom [.ref (jwa i), .ref (jwa j)] (jh m r T) (jP none (jh (jW m i L e) r T)) := by
  have g0 := g
  refine je_in jb_X8_copyFrom rfl (ls := [_, _, _]) rfl ?_
  refine je_ps jb_X8_copyFrom 2 (pc' := 2) (ls' := [_, _, _]) (st' := []) rfl ?_
  refine je_loop (fun (v : Nat) ls σ' => ls = [.ref (jwa i), .ref (jwa j), .int (jI v)] ∧ σ' = jh (jW m i (jF (m (jwl i)) L v) (m (jwa i) 2)) r T) (25) ⟨rfl, jh_eq (by rw [show ((0 : Nat) : Int) = 0 from rfl, jF_0, jW_0 hi])⟩ (fun v hv ls σ' gv kv => ?_) (fun ls σ' gv => ?_)
  · obtain ⟨rfl, rfl⟩ := gv
    have g := jWk.o (m := m) g0 hj hi hij (jF (m (jwl i)) L v) (m (jwa i) 2)
    refine je_ps jb_X8_copyFrom 2 (pc' := 4) (ls' := [_, _, _]) (st' := [_, _]) rfl ?_
    refine je_get jb_X8_copyFrom rfl (pc' := 7) rfl (jh_walk hi) (by rfl) (by rfl) ?_
    refine je_alen jb_X8_copyFrom rfl (pc' := 8) rfl (jh_lamps hi) ?_
    refine je_icmpge jb_X8_copyFrom rfl (t := 28) rfl (pc' := 11) rfl (by first | omega | exact (hM _ _).1 | exact (hM _ _).2) (by first | omega | exact (hM _ _).1 | exact (hM _ _).2) (by first | omega | exact (hM _ _).1 | exact (hM _ _).2) (by first | omega | exact (hM _ _).1 | exact (hM _ _).2) (fun c8 => ?_) (fun c8 => ?_)
    · first | (exfalso; omega) | (cases c8; done) | (exfalso; simp_all; done)
    · refine je_ps jb_X8_copyFrom 1 (pc' := 12) (ls' := [_, _, _]) (st' := [_]) rfl ?_
      refine je_get jb_X8_copyFrom rfl (pc' := 15) rfl (jh_walk hi) (by rfl) (by rfl) ?_
      refine je_ps jb_X8_copyFrom 3 (pc' := 18) (ls' := [_, _, _]) (st' := [_, _, _, _]) rfl ?_
      refine je_cvP' jb_X8_copyFrom rfl (pc' := 21) rfl (by first | exact jh_V hj g | exact jh_V hj (g0.R37 hj _) | exact jh_walk hj) (by rfl) (by first | decide | exact Nat.ble_eq_true_of_le (by omega)) (k_at hj g (by omega)) (st' := [_, _, _]) rfl ?_
      refine je_iastI jb_X8_copyFrom rfl (pc' := 22) rfl (jwl_lt hi) (fun _ => jc_lamps hi _ _) (by first | omega | exact (hM _ _).1 | exact (hM _ _).2) (by first | omega | exact (hM _ _).1 | exact (hM _ _).2) (by first | omega | exact (hM _ _).1 | exact (hM _ _).2) ?_
      refine je_iinc jb_X8_copyFrom rfl (pc' := 25) rfl rfl (ls' := [_, _, _]) rfl ?_
      refine je_ps jb_X8_copyFrom 1 (pc' := 2) (ls' := [_, _, _]) (st' := []) rfl ?_
      exact kv _ _ ⟨rfl, jh_eq (by rw [jW_L hi, jW_l hi, show fAt L (v : Int) = L v by unfold fAt; rw [if_pos (by omega)], jF_s _ _ _ (by omega)]; rfl)⟩
  · obtain ⟨rfl, rfl⟩ := gv
    have g := jWk.o (m := m) g0 hj hi hij (jF (m (jwl i)) L (25 : Nat)) (m (jwa i) 2)
    refine je_ps jb_X8_copyFrom 2 (pc' := 4) (ls' := [_, _, _]) (st' := [_, _]) rfl ?_
    refine je_get jb_X8_copyFrom rfl (pc' := 7) rfl (jh_walk hi) (by rfl) (by rfl) ?_
    refine je_alen jb_X8_copyFrom rfl (pc' := 8) rfl (jh_lamps hi) ?_
    refine je_icmpge jb_X8_copyFrom rfl (t := 28) rfl (pc' := 11) rfl (by first | omega | exact (hM _ _).1 | exact (hM _ _).2) (by first | omega | exact (hM _ _).1 | exact (hM _ _).2) (by first | omega | exact (hM _ _).1 | exact (hM _ _).2) (by first | omega | exact (hM _ _).1 | exact (hM _ _).2) (fun c8 => ?_) (fun c8 => ?_)
    · refine je_ps jb_X8_copyFrom 2 (pc' := 30) (ls' := [_, _, _]) (st' := [_, _]) rfl ?_
      refine je_get jb_X8_copyFrom rfl (pc' := 33) rfl (by first | exact jh_V hj g | exact jh_V hj (g0.R37 hj _) | exact jh_walk hj) (by rfl) (by rfl) ?_
      refine je_pute jb_X8_copyFrom rfl (pc' := 36) rfl hi (by rfl) (by rfl) ?_
      exact je_ret jb_X8_copyFrom rfl (by rfl) ⟨rfl, jh_eq (by rw [jW_a, show ((25 : Nat) : Int) = 25 from rfl, jF_Z z zj])⟩
    · first | (exfalso; omega) | (cases c8; done) | (exfalso; simp_all; done)
theorem k_fitsMoved {i : Nat} (hi : i < 13) {s n k e b : Int} {L : Int → Int} (g : jWk m i s n k L e) (hb : -12 ≤ b ∧ b ≤ 12) : jq sc 3 jm_X8_fitsMoved [.ref (jwa i), .int (jI b)] (jh m r T) (jP (some (.int (jI (jb (fFit s n L b))))) (jh m r T)) := by
  have gl := fLo_c s
  have gs := g.1.2
  have gk : 2 ≤ k ∧ k ≤ 5 := gs.2
  refine je_in jb_X8_fitsMoved rfl (ls := [_, _, _]) rfl ?_
  refine je_ps jb_X8_fitsMoved 2 (pc' := 2) (ls' := [_, _, _]) (st' := []) rfl ?_
  refine je_loop (fun (v : Nat) ls σ' => ls = [.ref (jwa i), .int (jI b), .int (jI v)] ∧ σ' = jh m r T ∧ (∀ p : Int, 0 ≤ p → p < v → 0 < L p → fHas s n (fRe s n (fLo s + p) b) = true)) (25) ⟨rfl, rfl, fun p h1 h2 => by omega⟩ (fun v hv ls σ' gv kv => ?_) (fun ls σ' gv => ?_)
  · obtain ⟨rfl, rfl, fv⟩ := gv
    have gq := g.2.2.2.1.1 (v : Int)
    have gr := fRe_i (c := fLo s + (v : Int)) (b := b) gs (by omega) (by omega)
    refine je_ps jb_X8_fitsMoved 2 (pc' := 4) (ls' := [_, _, _]) (st' := [_, _]) rfl ?_
    refine je_get jb_X8_fitsMoved rfl (pc' := 7) rfl (by first | exact jh_V hi g | exact jh_V hi (g0.R37 hi _) | exact jh_walk hi) (by rfl) (by rfl) ?_
    refine je_alen jb_X8_fitsMoved rfl (pc' := 8) rfl (jh_VL hi g) ?_
    refine je_icmpge jb_X8_fitsMoved rfl (t := 55) rfl (pc' := 11) rfl (by first | omega | exact (hM _ _).1 | exact (hM _ _).2) (by first | omega | exact (hM _ _).1 | exact (hM _ _).2) (by first | omega | exact (hM _ _).1 | exact (hM _ _).2) (by first | omega | exact (hM _ _).1 | exact (hM _ _).2) (fun c8 => ?_) (fun c8 => ?_)
    · first | (exfalso; omega) | (cases c8; done) | (exfalso; simp_all; done)
    · refine je_ps jb_X8_fitsMoved 1 (pc' := 12) (ls' := [_, _, _]) (st' := [_]) rfl ?_
      refine je_get jb_X8_fitsMoved rfl (pc' := 15) rfl (by first | exact jh_V hi g | exact jh_V hi (g0.R37 hi _) | exact jh_walk hi) (by rfl) (by rfl) ?_
      refine je_ps jb_X8_fitsMoved 1 (pc' := 16) (ls' := [_, _, _]) (st' := [_, _]) rfl ?_
      refine je_iald jb_X8_fitsMoved rfl (pc' := 17) rfl (jh_VL hi g) (by first | omega | exact (hM _ _).1 | exact (hM _ _).2) (by first | omega | exact (hM _ _).1 | exact (hM _ _).2) (by first | omega | exact (hM _ _).1 | exact (hM _ _).2) ?_
      refine je_ifle jb_X8_fitsMoved rfl (t := 49) rfl (pc' := 20) rfl (by first | omega | exact (hM _ _).1 | exact (hM _ _).2) (by first | omega | exact (hM _ _).1 | exact (hM _ _).2) (fun c17 => ?_) (fun c17 => ?_)
      · refine je_iinc jb_X8_fitsMoved rfl (pc' := 52) rfl rfl (ls' := [_, _, _]) rfl ?_
        refine je_ps jb_X8_fitsMoved 1 (pc' := 2) (ls' := [_, _, _]) (st' := []) rfl ?_
        refine kv _ _ ⟨rfl, rfl, fun p h1 h2 h3 => ?_⟩
        by_cases h4 : p = v
        · subst h4
          first | assumption | (exfalso; omega)
        · exact fv p h1 (by omega) h3
      · refine je_ps jb_X8_fitsMoved 1 (pc' := 21) (ls' := [_, _, _]) (st' := [_]) rfl ?_
        refine je_get jb_X8_fitsMoved rfl (pc' := 24) rfl (by first | exact jh_V hi g | exact jh_V hi (g0.R37 hi _) | exact jh_walk hi) (by rfl) (by rfl) ?_
        refine je_ps jb_X8_fitsMoved 1 (pc' := 25) (ls' := [_, _, _]) (st' := [_, _]) rfl ?_
        refine je_get jb_X8_fitsMoved rfl (pc' := 28) rfl (by first | exact jh_V hi g | exact jh_V hi (g0.R37 hi _) | exact jh_walk hi) (by rfl) (by rfl) ?_
        refine je_ps jb_X8_fitsMoved 1 (pc' := 29) (ls' := [_, _, _]) (st' := [_, _, _]) rfl ?_
        refine je_get jb_X8_fitsMoved rfl (pc' := 32) rfl (by first | exact jh_V hi g | exact jh_V hi (g0.R37 hi _) | exact jh_walk hi) (by rfl) (by rfl) ?_
        refine je_cvP' jb_X8_fitsMoved rfl (pc' := 35) rfl (jh_VS hi g) (by rfl) (by first | decide | exact Nat.ble_eq_true_of_le (by omega)) (c_X5_least hi g.1) (st' := [_, _, _]) rfl ?_
        refine je_ps jb_X8_fitsMoved 1 (pc' := 36) (ls' := [_, _, _]) (st' := [_, _, _, _]) rfl ?_
        refine je_iadd jb_X8_fitsMoved rfl (pc' := 37) rfl ?_
        refine je_ps jb_X8_fitsMoved 1 (pc' := 38) (ls' := [_, _, _]) (st' := [_, _, _, _]) rfl ?_
        refine je_cvP' jb_X8_fitsMoved rfl (pc' := 41) rfl (jh_VS hi g) (by rfl) (by first | decide | exact Nat.ble_eq_true_of_le (by omega)) (c_X5_reach hi g.1 (by omega) (by omega)) (st' := [_, _]) rfl ?_
        refine je_cvP' jb_X8_fitsMoved rfl (pc' := 44) rfl (jh_VS hi g) (by rfl) (by first | decide | exact Nat.ble_eq_true_of_le (by omega)) (c_X5_has hi g.1 (by omega)) (st' := [_]) rfl ?_
        refine je_ifneb jb_X8_fitsMoved rfl (t := 49) rfl (pc' := 47) rfl (fun c44 => ?_) (fun c44 => ?_)
        · refine je_iinc jb_X8_fitsMoved rfl (pc' := 52) rfl rfl (ls' := [_, _, _]) rfl ?_
          refine je_ps jb_X8_fitsMoved 1 (pc' := 2) (ls' := [_, _, _]) (st' := []) rfl ?_
          refine kv _ _ ⟨rfl, rfl, fun p h1 h2 h3 => ?_⟩
          by_cases h4 : p = v
          · subst h4
            first | assumption | (exfalso; omega)
          · exact fv p h1 (by omega) h3
        · refine je_ps jb_X8_fitsMoved 1 (pc' := 48) (ls' := [_, _, _]) (st' := [_]) rfl ?_
          exact je_ret jb_X8_fitsMoved rfl (by rfl) ⟨jv_f (fFit_f (fun hq => by have := hq v (by omega) (by omega) (by omega); rw [c44] at this; cases this)), rfl⟩
  · obtain ⟨rfl, rfl, fv⟩ := gv
    refine je_ps jb_X8_fitsMoved 2 (pc' := 4) (ls' := [_, _, _]) (st' := [_, _]) rfl ?_
    refine je_get jb_X8_fitsMoved rfl (pc' := 7) rfl (by first | exact jh_V hi g | exact jh_V hi (g0.R37 hi _) | exact jh_walk hi) (by rfl) (by rfl) ?_
    refine je_alen jb_X8_fitsMoved rfl (pc' := 8) rfl (jh_VL hi g) ?_
    refine je_icmpge jb_X8_fitsMoved rfl (t := 55) rfl (pc' := 11) rfl (by first | omega | exact (hM _ _).1 | exact (hM _ _).2) (by first | omega | exact (hM _ _).1 | exact (hM _ _).2) (by first | omega | exact (hM _ _).1 | exact (hM _ _).2) (by first | omega | exact (hM _ _).1 | exact (hM _ _).2) (fun c8 => ?_) (fun c8 => ?_)
    · refine je_ps jb_X8_fitsMoved 1 (pc' := 56) (ls' := [_, _, _]) (st' := [_]) rfl ?_
      exact je_ret jb_X8_fitsMoved rfl (by rfl) ⟨jv_t (fFit_iff.mpr fv), rfl⟩
    · first | (exfalso; omega) | (cases c8; done) | (exfalso; simp_all; done)
theorem k_multiplyBy {i j : Nat} (hi : i < 13) (hj : j < 13) (hij : j ≠ i) {s n k e e2 : Int} {L L2 : Int → Int} (g : jWk m i s n k L e) (g2 : jWk m j s n k L2 e2) : jq sc 5 jm_X8_multiplyBy [.ref (jwa i), .ref (jwa j)] (jh m r T) (jP (some (.int (jI (jb (fMul s n k L e L2 e2).1)))) (jh (jW m i (fMul s n k L e L2 e2).2.1 (fMul s n k L e L2 e2).2.2) r T)) := by
  have gl := fLo_c s
  have gs := g.1.2
  have gk : 2 ≤ k ∧ k ≤ 5 := gs.2
  have gc := fC_i gs g.2.2.2.2
  have gd := fC_i gs g2.2.2.2.2
  have gr0 := fRe_i (c := e) (b := e2) gs (by omega) (by omega)
  have g0 := g
  have g20 := g2
  refine je_in jb_X8_multiplyBy rfl (ls := [_, _, _, _, _]) rfl ?_
  refine je_ps jb_X8_multiplyBy 1 (pc' := 1) (ls' := [_, _, _, _, _]) (st' := [_]) rfl ?_
  refine je_get jb_X8_multiplyBy rfl (pc' := 4) rfl (by first | exact jh_V hi g | exact jh_V hi (g0.R37 hi _) | exact jh_walk hi) (by rfl) (by rfl) ?_
  refine je_ps jb_X8_multiplyBy 1 (pc' := 5) (ls' := [_, _, _, _, _]) (st' := [_, _]) rfl ?_
  refine je_get jb_X8_multiplyBy rfl (pc' := 8) rfl (by first | exact jh_V hi g | exact jh_V hi (g0.R37 hi _) | exact jh_walk hi) (by rfl) (by rfl) ?_
  refine je_ps jb_X8_multiplyBy 1 (pc' := 9) (ls' := [_, _, _, _, _]) (st' := [_, _, _]) rfl ?_
  refine je_get jb_X8_multiplyBy rfl (pc' := 12) rfl (by first | exact jh_V hj g2 | exact jh_V hj (g0.R37 hj _) | exact jh_walk hj) (by rfl) (by rfl) ?_
  refine je_cvP' jb_X8_multiplyBy rfl (pc' := 15) rfl (jh_VS hi g) (by rfl) (by first | decide | exact Nat.ble_eq_true_of_le (by omega)) (c_X5_reach hi g.1 (by omega) (by omega)) (st' := [_]) rfl ?_
  refine je_ps jb_X8_multiplyBy 2 (pc' := 17) (ls' := [_, _, _, _, _]) (st' := [_]) rfl ?_
  refine je_get jb_X8_multiplyBy rfl (pc' := 20) rfl (by first | exact jh_V hi g | exact jh_V hi (g0.R37 hi _) | exact jh_walk hi) (by rfl) (by rfl) ?_
  refine je_ps jb_X8_multiplyBy 1 (pc' := 21) (ls' := [_, _, _, _, _]) (st' := [_, _]) rfl ?_
  refine je_cvP' jb_X8_multiplyBy rfl (pc' := 24) rfl (jh_VS hi g) (by rfl) (by first | decide | exact Nat.ble_eq_true_of_le (by omega)) (c_X5_has hi g.1 (by omega)) (st' := [_]) rfl ?_
  refine je_ifeqb jb_X8_multiplyBy rfl (t := 38) rfl (pc' := 27) rfl (fun c24 => ?_) (fun c24 => ?_)
  · refine je_ps jb_X8_multiplyBy 1 (pc' := 39) (ls' := [_, _, _, _, _]) (st' := [_]) rfl ?_
    have q : fMul s n k L e L2 e2 = (false, L, e) := by unfold fMul; rw [if_neg (by rintro ⟨q1, q2⟩; simp_all)]
    rw [q]
    exact je_ret jb_X8_multiplyBy rfl (by rfl) ⟨rfl, jh_eq (by rw [← g.2.1, ← g.2.2.1, jW_0 hi])⟩
  · refine je_ps jb_X8_multiplyBy 2 (pc' := 29) (ls' := [_, _, _, _, _]) (st' := [_, _]) rfl ?_
    refine je_get jb_X8_multiplyBy rfl (pc' := 32) rfl (by first | exact jh_V hi g | exact jh_V hi (g0.R37 hi _) | exact jh_walk hi) (by rfl) (by rfl) ?_
    refine je_cvP' jb_X8_multiplyBy rfl (pc' := 35) rfl (by first | exact jh_V hj g2 | exact jh_V hj (g0.R37 hj _) | exact jh_walk hj) (by rfl) (by first | decide | exact Nat.ble_eq_true_of_le (by omega)) (k_fitsMoved hj g2 (by omega)) (st' := [_]) rfl ?_
    refine je_ifneb jb_X8_multiplyBy rfl (t := 40) rfl (pc' := 38) rfl (fun c35 => ?_) (fun c35 => ?_)
    · refine je_ps jb_X8_multiplyBy 2 (pc' := 42) (ls' := [_, _, _, _, _]) (st' := []) rfl ?_
      refine je_loop (fun (v : Nat) ls σ' => ∃ x, ls = [.ref (jwa i), .ref (jwa j), .int (jI (fRe s n e e2)), .int (jI v), x] ∧ σ' = jh (jW m i (fMulL s n k L e L2 v) e) r T) (25) ⟨_, rfl, jh_eq (by rw [← g.2.2.1, show fMulL s n k L (m (jwa i) 2) L2 0 = m (jwl i) from g.2.1.symm, jW_0 hi])⟩ (fun v hv ls σ' gv kv => ?_) (fun ls σ' gv => ?_)
      · obtain ⟨x, rfl, rfl⟩ := gv
        have g := jWk.w (m := m) g0.1 hi (fMulL_ok (e := e) (L2 := L2) gs g0.2.2.2.1 v) g0.2.2.2.2
        have g2 := jWk.o (m := m) g20 hj hi hij (fMulL s n k L e L2 v) e
        have gr := fRe_i (c := fLo s + (v : Int)) (b := e) gs (by omega) (by omega)
        have ga := fAt_i g20.2.2.2.1 (show 0 < k by omega) (v : Int)
        refine je_ps jb_X8_multiplyBy 2 (pc' := 44) (ls' := [_, _, _, _, _]) (st' := [_, _]) rfl ?_
        refine je_get jb_X8_multiplyBy rfl (pc' := 47) rfl (by first | exact jh_V hi g | exact jh_V hi (g0.R37 hi _) | exact jh_walk hi) (by rfl) (by rfl) ?_
        refine je_alen jb_X8_multiplyBy rfl (pc' := 48) rfl (jh_VL hi g) ?_
        refine je_icmpge jb_X8_multiplyBy rfl (t := 90) rfl (pc' := 51) rfl (by first | omega | exact (hM _ _).1 | exact (hM _ _).2) (by first | omega | exact (hM _ _).1 | exact (hM _ _).2) (by first | omega | exact (hM _ _).1 | exact (hM _ _).2) (by first | omega | exact (hM _ _).1 | exact (hM _ _).2) (fun c48 => ?_) (fun c48 => ?_)
        · first | (exfalso; omega) | (cases c48; done) | (exfalso; simp_all; done)
        · refine je_ps jb_X8_multiplyBy 1 (pc' := 52) (ls' := [_, _, _, _, _]) (st' := [_]) rfl ?_
          refine je_get jb_X8_multiplyBy rfl (pc' := 55) rfl (by first | exact jh_V hi g | exact jh_V hi (g0.R37 hi _) | exact jh_walk hi) (by rfl) (by rfl) ?_
          refine je_ps jb_X8_multiplyBy 1 (pc' := 56) (ls' := [_, _, _, _, _]) (st' := [_, _]) rfl ?_
          refine je_get jb_X8_multiplyBy rfl (pc' := 59) rfl (by first | exact jh_V hi g | exact jh_V hi (g0.R37 hi _) | exact jh_walk hi) (by rfl) (by rfl) ?_
          refine je_cvP' jb_X8_multiplyBy rfl (pc' := 62) rfl (jh_VS hi g) (by rfl) (by first | decide | exact Nat.ble_eq_true_of_le (by omega)) (c_X5_least hi g.1) (st' := [_, _]) rfl ?_
          refine je_ps jb_X8_multiplyBy 1 (pc' := 63) (ls' := [_, _, _, _, _]) (st' := [_, _, _]) rfl ?_
          refine je_iadd jb_X8_multiplyBy rfl (pc' := 64) rfl ?_
          refine je_ps jb_X8_multiplyBy 1 (pc' := 65) (ls' := [_, _, _, _, _]) (st' := [_, _, _]) rfl ?_
          refine je_get jb_X8_multiplyBy rfl (pc' := 68) rfl (by first | exact jh_V hi g | exact jh_V hi (g0.R37 hi _) | exact jh_walk hi) (by rfl) (by rfl) ?_
          refine je_cvP' jb_X8_multiplyBy rfl (pc' := 71) rfl (jh_VS hi g) (by rfl) (by first | decide | exact Nat.ble_eq_true_of_le (by omega)) (c_X5_reach hi g.1 (by omega) (by omega)) (st' := [_]) rfl ?_
          refine je_ps jb_X8_multiplyBy 5 (pc' := 78) (ls' := [_, _, _, _, _]) (st' := [_, _, _, _]) rfl ?_
          refine je_cvP' jb_X8_multiplyBy rfl (pc' := 81) rfl (by first | exact jh_V hj g2 | exact jh_V hj (g0.R37 hj _) | exact jh_walk hj) (by rfl) (by first | decide | exact Nat.ble_eq_true_of_le (by omega)) (k_at hj g2 (by omega)) (st' := [_, _, _]) rfl ?_
          refine je_cvP' jb_X8_multiplyBy rfl (pc' := 84) rfl (by first | exact jh_V hi g | exact jh_V hi (g0.R37 hi _) | exact jh_walk hi) (by rfl) (by first | decide | exact Nat.ble_eq_true_of_le (by omega)) (k_turn hi g (by omega) (by omega)) (st' := []) rfl ?_
          refine je_iinc jb_X8_multiplyBy rfl (pc' := 87) rfl rfl (ls' := [_, _, _, _, _]) rfl ?_
          refine je_ps jb_X8_multiplyBy 1 (pc' := 42) (ls' := [_, _, _, _, _]) (st' := []) rfl ?_
          exact kv _ _ ⟨_, rfl, jh_eq (by rw [jW_W hi]; rfl)⟩
      · obtain ⟨x, rfl, rfl⟩ := gv
        have g := jWk.w (m := m) g0.1 hi (fMulL_ok (e := e) (L2 := L2) gs g0.2.2.2.1 25) g0.2.2.2.2
        refine je_ps jb_X8_multiplyBy 2 (pc' := 44) (ls' := [_, _, _, _, _]) (st' := [_, _]) rfl ?_
        refine je_get jb_X8_multiplyBy rfl (pc' := 47) rfl (by first | exact jh_V hi g | exact jh_V hi (g0.R37 hi _) | exact jh_walk hi) (by rfl) (by rfl) ?_
        refine je_alen jb_X8_multiplyBy rfl (pc' := 48) rfl (jh_VL hi g) ?_
        refine je_icmpge jb_X8_multiplyBy rfl (t := 90) rfl (pc' := 51) rfl (by first | omega | exact (hM _ _).1 | exact (hM _ _).2) (by first | omega | exact (hM _ _).1 | exact (hM _ _).2) (by first | omega | exact (hM _ _).1 | exact (hM _ _).2) (by first | omega | exact (hM _ _).1 | exact (hM _ _).2) (fun c48 => ?_) (fun c48 => ?_)
        · refine je_ps jb_X8_multiplyBy 2 (pc' := 92) (ls' := [_, _, _, _, _]) (st' := [_, _]) rfl ?_
          refine je_pute jb_X8_multiplyBy rfl (pc' := 95) rfl hi (by rfl) (by rfl) ?_
          refine je_ps jb_X8_multiplyBy 1 (pc' := 96) (ls' := [_, _, _, _, _]) (st' := [_]) rfl ?_
          have q : fMul s n k L e L2 e2 = (true, fMulL s n k L e L2 25, fRe s n e e2) := by unfold fMul; rw [if_pos ⟨c24, c35⟩]
          rw [q]
          exact je_ret jb_X8_multiplyBy rfl (by rfl) ⟨rfl, jh_eq (by rw [jW_a])⟩
        · first | (exfalso; omega) | (cases c48; done) | (exfalso; simp_all; done)
    · refine je_ps jb_X8_multiplyBy 1 (pc' := 39) (ls' := [_, _, _, _, _]) (st' := [_]) rfl ?_
      have q : fMul s n k L e L2 e2 = (false, L, e) := by unfold fMul; rw [if_neg (by rintro ⟨q1, q2⟩; simp_all)]
      rw [q]
      exact je_ret jb_X8_multiplyBy rfl (by rfl) ⟨rfl, jh_eq (by rw [← g.2.1, ← g.2.2.1, jW_0 hi])⟩
theorem k_becomeInverseOf {i j : Nat} (hi : i < 13) (hj : j < 13) (hij : j ≠ i) (zi : jZ m i) {s n k e2 : Int} {L2 : Int → Int} (gi : jStr m i s n k) (g2 : jWk m j s n k L2 e2) : jq sc 5 jm_X8_becomeInverseOf [.ref (jwa i), .ref (jwa j)] (jh m r T) (jP (some (.int (jI (jb (fFit s n L2 (-e2)))))) (jh (if fFit s n L2 (-e2) = true then jW m i (fInvL s n k L2 e2 25) (fRe s n 0 (-e2)) else m) r T)) := by
  have gl := fLo_c s
  have gs := g2.1.2
  have gk : 2 ≤ k ∧ k ≤ 5 := gs.2
  have gd := fC_i gs g2.2.2.2.2
  have g20 := g2
  refine je_in jb_X8_becomeInverseOf rfl (ls := [_, _, _, _]) rfl ?_
  refine je_ps jb_X8_becomeInverseOf 2 (pc' := 2) (ls' := [_, _, _, _]) (st' := [_, _]) rfl ?_
  refine je_get jb_X8_becomeInverseOf rfl (pc' := 5) rfl (by first | exact jh_V hj g2 | exact jh_V hj (g0.R37 hj _) | exact jh_walk hj) (by rfl) (by rfl) ?_
  refine je_ineg jb_X8_becomeInverseOf rfl (pc' := 6) rfl ?_
  refine je_cvP' jb_X8_becomeInverseOf rfl (pc' := 9) rfl (by first | exact jh_V hj g2 | exact jh_V hj (g0.R37 hj _) | exact jh_walk hj) (by rfl) (by first | decide | exact Nat.ble_eq_true_of_le (by omega)) (k_fitsMoved hj g2 (by omega)) (st' := [_]) rfl ?_
  refine je_ifneb jb_X8_becomeInverseOf rfl (t := 14) rfl (pc' := 12) rfl (fun c9 => ?_) (fun c9 => ?_)
  · refine je_ps jb_X8_becomeInverseOf 1 (pc' := 15) (ls' := [_, _, _, _]) (st' := [_]) rfl ?_
    refine je_cvP' jb_X8_becomeInverseOf rfl (pc' := 18) rfl (by first | exact jh_V hi g | exact jh_V hi (g0.R37 hi _) | exact jh_walk hi) (by rfl) (by first | decide | exact Nat.ble_eq_true_of_le (by omega)) (k_clear hi zi) (st' := []) rfl ?_
    refine je_ps jb_X8_becomeInverseOf 2 (pc' := 20) (ls' := [_, _, _, _]) (st' := []) rfl ?_
    refine je_loop (fun (v : Nat) ls σ' => ∃ x, ls = [.ref (jwa i), .ref (jwa j), .int (jI v), x] ∧ σ' = jh (jW m i (fInvL s n k L2 e2 v) 0) r T) (25) ⟨_, rfl, rfl⟩ (fun v hv ls σ' gv kv => ?_) (fun ls σ' gv => ?_)
    · obtain ⟨x, rfl, rfl⟩ := gv
      have g := jWk.w (m := m) gi hi (fInvL_ok (e2 := e2) (L2 := L2) gs v) (fC_0 gs)
      have g2 := jWk.o (m := m) g20 hj hi hij (fInvL s n k L2 e2 v) 0
      have gr := fRe_i (c := fLo s + (v : Int)) (b := -e2) gs (by omega) (by omega)
      have ga := fAt_i g20.2.2.2.1 (show 0 < k by omega) (v : Int)
      refine je_ps jb_X8_becomeInverseOf 2 (pc' := 22) (ls' := [_, _, _, _]) (st' := [_, _]) rfl ?_
      refine je_get jb_X8_becomeInverseOf rfl (pc' := 25) rfl (by first | exact jh_V hi g | exact jh_V hi (g0.R37 hi _) | exact jh_walk hi) (by rfl) (by rfl) ?_
      refine je_alen jb_X8_becomeInverseOf rfl (pc' := 26) rfl (jh_VL hi g) ?_
      refine je_icmpge jb_X8_becomeInverseOf rfl (t := 68) rfl (pc' := 29) rfl (by first | omega | exact (hM _ _).1 | exact (hM _ _).2) (by first | omega | exact (hM _ _).1 | exact (hM _ _).2) (by first | omega | exact (hM _ _).1 | exact (hM _ _).2) (by first | omega | exact (hM _ _).1 | exact (hM _ _).2) (fun c26 => ?_) (fun c26 => ?_)
      · first | (exfalso; omega) | (cases c26; done) | (exfalso; simp_all; done)
      · refine je_ps jb_X8_becomeInverseOf 1 (pc' := 30) (ls' := [_, _, _, _]) (st' := [_]) rfl ?_
        refine je_get jb_X8_becomeInverseOf rfl (pc' := 33) rfl (by first | exact jh_V hi g | exact jh_V hi (g0.R37 hi _) | exact jh_walk hi) (by rfl) (by rfl) ?_
        refine je_ps jb_X8_becomeInverseOf 1 (pc' := 34) (ls' := [_, _, _, _]) (st' := [_, _]) rfl ?_
        refine je_get jb_X8_becomeInverseOf rfl (pc' := 37) rfl (by first | exact jh_V hi g | exact jh_V hi (g0.R37 hi _) | exact jh_walk hi) (by rfl) (by rfl) ?_
        refine je_cvP' jb_X8_becomeInverseOf rfl (pc' := 40) rfl (jh_VS hi g) (by rfl) (by first | decide | exact Nat.ble_eq_true_of_le (by omega)) (c_X5_least hi g.1) (st' := [_, _]) rfl ?_
        refine je_ps jb_X8_becomeInverseOf 1 (pc' := 41) (ls' := [_, _, _, _]) (st' := [_, _, _]) rfl ?_
        refine je_iadd jb_X8_becomeInverseOf rfl (pc' := 42) rfl ?_
        refine je_ps jb_X8_becomeInverseOf 1 (pc' := 43) (ls' := [_, _, _, _]) (st' := [_, _, _]) rfl ?_
        refine je_get jb_X8_becomeInverseOf rfl (pc' := 46) rfl (by first | exact jh_V hj g2 | exact jh_V hj (g0.R37 hj _) | exact jh_walk hj) (by rfl) (by rfl) ?_
        refine je_ineg jb_X8_becomeInverseOf rfl (pc' := 47) rfl ?_
        refine je_cvP' jb_X8_becomeInverseOf rfl (pc' := 50) rfl (jh_VS hi g) (by rfl) (by first | decide | exact Nat.ble_eq_true_of_le (by omega)) (c_X5_reach hi g.1 (by omega) (by omega)) (st' := [_]) rfl ?_
        refine je_ps jb_X8_becomeInverseOf 5 (pc' := 55) (ls' := [_, _, _, _]) (st' := [_, _, _, _]) rfl ?_
        refine je_cvP' jb_X8_becomeInverseOf rfl (pc' := 58) rfl (by first | exact jh_V hj g2 | exact jh_V hj (g0.R37 hj _) | exact jh_walk hj) (by rfl) (by first | decide | exact Nat.ble_eq_true_of_le (by omega)) (k_at hj g2 (by omega)) (st' := [_, _, _]) rfl ?_
        refine je_ineg jb_X8_becomeInverseOf rfl (pc' := 59) rfl ?_
        refine je_cvP' jb_X8_becomeInverseOf rfl (pc' := 62) rfl (by first | exact jh_V hi g | exact jh_V hi (g0.R37 hi _) | exact jh_walk hi) (by rfl) (by first | decide | exact Nat.ble_eq_true_of_le (by omega)) (k_turn hi g (by omega) (by omega)) (st' := []) rfl ?_
        refine je_iinc jb_X8_becomeInverseOf rfl (pc' := 65) rfl rfl (ls' := [_, _, _, _]) rfl ?_
        refine je_ps jb_X8_becomeInverseOf 1 (pc' := 20) (ls' := [_, _, _, _]) (st' := []) rfl ?_
        exact kv _ _ ⟨_, rfl, jh_eq (by rw [jW_W hi]; rfl)⟩
    · obtain ⟨x, rfl, rfl⟩ := gv
      have g := jWk.w (m := m) gi hi (fInvL_ok (e2 := e2) (L2 := L2) gs 25) (fC_0 gs)
      have g2 := jWk.o (m := m) g20 hj hi hij (fInvL s n k L2 e2 25) 0
      refine je_ps jb_X8_becomeInverseOf 2 (pc' := 22) (ls' := [_, _, _, _]) (st' := [_, _]) rfl ?_
      refine je_get jb_X8_becomeInverseOf rfl (pc' := 25) rfl (by first | exact jh_V hi g | exact jh_V hi (g0.R37 hi _) | exact jh_walk hi) (by rfl) (by rfl) ?_
      refine je_alen jb_X8_becomeInverseOf rfl (pc' := 26) rfl (jh_VL hi g) ?_
      refine je_icmpge jb_X8_becomeInverseOf rfl (t := 68) rfl (pc' := 29) rfl (by first | omega | exact (hM _ _).1 | exact (hM _ _).2) (by first | omega | exact (hM _ _).1 | exact (hM _ _).2) (by first | omega | exact (hM _ _).1 | exact (hM _ _).2) (by first | omega | exact (hM _ _).1 | exact (hM _ _).2) (fun c26 => ?_) (fun c26 => ?_)
      · refine je_ps jb_X8_becomeInverseOf 2 (pc' := 70) (ls' := [_, _, _, _]) (st' := [_, _]) rfl ?_
        refine je_get jb_X8_becomeInverseOf rfl (pc' := 73) rfl (by first | exact jh_V hi g | exact jh_V hi (g0.R37 hi _) | exact jh_walk hi) (by rfl) (by rfl) ?_
        refine je_ps jb_X8_becomeInverseOf 2 (pc' := 75) (ls' := [_, _, _, _]) (st' := [_, _, _, _]) rfl ?_
        refine je_get jb_X8_becomeInverseOf rfl (pc' := 78) rfl (by first | exact jh_V hj g2 | exact jh_V hj (g0.R37 hj _) | exact jh_walk hj) (by rfl) (by rfl) ?_
        refine je_ineg jb_X8_becomeInverseOf rfl (pc' := 79) rfl ?_
        refine je_cvP' jb_X8_becomeInverseOf rfl (pc' := 82) rfl (jh_VS hi g) (by rfl) (by first | decide | exact Nat.ble_eq_true_of_le (by omega)) (c_X5_reach hi g.1 (by omega) (by omega)) (st' := [_, _]) rfl ?_
        refine je_pute jb_X8_becomeInverseOf rfl (pc' := 85) rfl hi (by rfl) (by rfl) ?_
        refine je_ps jb_X8_becomeInverseOf 1 (pc' := 86) (ls' := [_, _, _, _]) (st' := [_]) rfl ?_
        rw [c9]
        exact je_ret jb_X8_becomeInverseOf rfl (by rfl) ⟨rfl, jh_eq (by rw [jW_a, if_pos rfl])⟩
      · first | (exfalso; omega) | (cases c26; done) | (exfalso; simp_all; done)
  · refine je_ps jb_X8_becomeInverseOf 1 (pc' := 13) (ls' := [_, _, _, _]) (st' := [_]) rfl ?_
    rw [c9]
    exact je_ret jb_X8_becomeInverseOf rfl (by rfl) ⟨rfl, rfl⟩
theorem k_becomePowerOf {i j : Nat} (hi : i < 13) (hj : j < 13) (hij : j ≠ i) (zi : jZ m i) {s n k e2 : Int} {L2 : Int → Int} (gi : jStr m i s n k) (g2 : jWk m j s n k L2 e2) {K : Nat} (hK : K ≤ 1000) : jq sc 6 jm_X8_becomePowerOf [.ref (jwa i), .ref (jwa j), .int (jI K)] (jh m r T) (jP (some (.int (jI (jb (fPow s n k L2 e2 K).1)))) (jh (jW m i (fPow s n k L2 e2 K).2.1 (fPow s n k L2 e2 K).2.2) r T)) := by
  have gs := g2.1.2
  have g20 := g2
  refine je_in jb_X8_becomePowerOf rfl (ls := [_, _, _, _]) rfl ?_
  refine je_ps jb_X8_becomePowerOf 1 (pc' := 1) (ls' := [_, _, _, _]) (st' := [_]) rfl ?_
  refine je_cvP' jb_X8_becomePowerOf rfl (pc' := 4) rfl (by first | exact jh_V hi g | exact jh_V hi (g0.R37 hi _) | exact jh_walk hi) (by rfl) (by first | decide | exact Nat.ble_eq_true_of_le (by omega)) (k_clear hi zi) (st' := []) rfl ?_
  refine je_ps jb_X8_becomePowerOf 2 (pc' := 6) (ls' := [_, _, _, _]) (st' := []) rfl ?_
  refine je_loop (fun (v : Nat) ls σ' => ls = [.ref (jwa i), .ref (jwa j), .int (jI K), .int (jI v)] ∧ σ' = jh (jW m i (fPow s n k L2 e2 v).2.1 (fPow s n k L2 e2 v).2.2) r T ∧ (fPow s n k L2 e2 v).1 = true) (K) ⟨rfl, rfl, rfl⟩ (fun v hv ls σ' gv kv => ?_) (fun ls σ' gv => ?_)
  · obtain ⟨rfl, rfl, fv⟩ := gv
    have gq := fPow_ok (L2 := L2) (e2 := e2) gs v
    have g := jWk.w (m := m) gi hi gq.1 gq.2
    have g2 := jWk.o (m := m) g20 hj hi hij (fPow s n k L2 e2 v).2.1 (fPow s n k L2 e2 v).2.2
    have ge : fPow s n k L2 e2 (v + 1) = fMul s n k (fPow s n k L2 e2 v).2.1 (fPow s n k L2 e2 v).2.2 L2 e2 := if_pos fv
    refine je_ps jb_X8_becomePowerOf 2 (pc' := 8) (ls' := [_, _, _, _]) (st' := [_, _]) rfl ?_
    refine je_icmpge jb_X8_becomePowerOf rfl (t := 27) rfl (pc' := 11) rfl (by first | omega | exact (hM _ _).1 | exact (hM _ _).2) (by first | omega | exact (hM _ _).1 | exact (hM _ _).2) (by first | omega | exact (hM _ _).1 | exact (hM _ _).2) (by first | omega | exact (hM _ _).1 | exact (hM _ _).2) (fun c8 => ?_) (fun c8 => ?_)
    · first | (exfalso; omega) | (cases c8; done) | (exfalso; simp_all; done)
    · refine je_ps jb_X8_becomePowerOf 2 (pc' := 13) (ls' := [_, _, _, _]) (st' := [_, _]) rfl ?_
      refine je_cvP' jb_X8_becomePowerOf rfl (pc' := 16) rfl (by first | exact jh_V hi g | exact jh_V hi (g0.R37 hi _) | exact jh_walk hi) (by rfl) (by first | decide | exact Nat.ble_eq_true_of_le (by omega)) (k_multiplyBy hi hj hij g g2) (st' := [_]) rfl ?_
      refine je_ifneb jb_X8_becomePowerOf rfl (t := 21) rfl (pc' := 19) rfl (fun c16 => ?_) (fun c16 => ?_)
      · refine je_iinc jb_X8_becomePowerOf rfl (pc' := 24) rfl rfl (ls' := [_, _, _, _]) rfl ?_
        refine je_ps jb_X8_becomePowerOf 1 (pc' := 6) (ls' := [_, _, _, _]) (st' := []) rfl ?_
        refine kv _ _ ⟨rfl, jh_eq (by rw [jW_W hi, ge]), by rw [ge]; assumption⟩
      · refine je_ps jb_X8_becomePowerOf 1 (pc' := 20) (ls' := [_, _, _, _]) (st' := [_]) rfl ?_
        have gw := fPow_stay (show (fPow s n k L2 e2 (v + 1)).1 = false by rw [ge]; assumption) K (by omega)
        rw [gw, ge, c16]
        exact je_ret jb_X8_becomePowerOf rfl (by rfl) ⟨rfl, jh_eq (by rw [jW_W hi])⟩
  · obtain ⟨rfl, rfl, fv⟩ := gv
    refine je_ps jb_X8_becomePowerOf 2 (pc' := 8) (ls' := [_, _, _, _]) (st' := [_, _]) rfl ?_
    refine je_icmpge jb_X8_becomePowerOf rfl (t := 27) rfl (pc' := 11) rfl (by first | omega | exact (hM _ _).1 | exact (hM _ _).2) (by first | omega | exact (hM _ _).1 | exact (hM _ _).2) (by first | omega | exact (hM _ _).1 | exact (hM _ _).2) (by first | omega | exact (hM _ _).1 | exact (hM _ _).2) (fun c8 => ?_) (fun c8 => ?_)
    · refine je_ps jb_X8_becomePowerOf 1 (pc' := 28) (ls' := [_, _, _, _]) (st' := [_]) rfl ?_
      rw [fv]
      exact je_ret jb_X8_becomePowerOf rfl (by rfl) ⟨rfl, rfl⟩
    · first | (exfalso; omega) | (cases c8; done) | (exfalso; simp_all; done)
theorem k_becomeDifference {i j l : Nat} (hi : i < 13) (hj : j < 13) (hl : l < 13) (hij : j ≠ i) (hil : l ≠ i) (zi : jZ m i) {s n k e1 e2 : Int} {L1 L2 : Int → Int} (gi : jStr m i s n k) (g1 : jWk m j s n k L1 e1) (g2 : jWk m l s n k L2 e2) : jq sc 2 jm_X8_becomeDifference [.ref (jwa i), .ref (jwa j), .ref (jwa l)] (jh m r T) (jP none (jh (jW m i (fun p => (fAt L2 p - fAt L1 p) % k) e2) r T)) := by
  have gs := g2.1.2
  have gk : 2 ≤ k ∧ k ≤ 5 := gs.2
  have g20 := g2
  have g10 := g1
  refine je_in jb_X8_becomeDifference rfl (ls := [_, _, _, _, _]) rfl ?_
  refine je_ps jb_X8_becomeDifference 2 (pc' := 2) (ls' := [_, _, _, _, _]) (st' := []) rfl ?_
  refine je_loop (fun (v : Nat) ls σ' => ∃ x, ls = [.ref (jwa i), .ref (jwa j), .ref (jwa l), .int (jI v), x] ∧ σ' = jh (jW m i (jF (m (jwl i)) (fun p => (fAt L2 p - fAt L1 p) % k) v) (m (jwa i) 2)) r T) (25) ⟨_, rfl, jh_eq (by rw [show ((0 : Nat) : Int) = 0 from rfl, jF_0, jW_0 hi])⟩ (fun v hv ls σ' gv kv => ?_) (fun ls σ' gv => ?_)
  · obtain ⟨x, rfl, rfl⟩ := gv
    have g1 := jWk.o (m := m) g10 hj hi hij (jF (m (jwl i)) (fun p => (fAt L2 p - fAt L1 p) % k) v) (m (jwa i) 2)
    have g2 := jWk.o (m := m) g20 hl hi hil (jF (m (jwl i)) (fun p => (fAt L2 p - fAt L1 p) % k) v) (m (jwa i) 2)
    have gS := gi.w hi hi (jF (m (jwl i)) (fun p => (fAt L2 p - fAt L1 p) % k) v) (m (jwa i) 2)
    have ga := fAt_i g20.2.2.2.1 (show 0 < k by omega) (v : Int)
    have gb := fAt_i g10.2.2.2.1 (show 0 < k by omega) (v : Int)
    have gS3 := gS.1.2.2
    refine je_ps jb_X8_becomeDifference 2 (pc' := 4) (ls' := [_, _, _, _, _]) (st' := [_, _]) rfl ?_
    refine je_get jb_X8_becomeDifference rfl (pc' := 7) rfl (jh_walk hi) (by rfl) (by rfl) ?_
    refine je_alen jb_X8_becomeDifference rfl (pc' := 8) rfl (jh_lamps hi) ?_
    refine je_icmpge jb_X8_becomeDifference rfl (t := 48) rfl (pc' := 11) rfl (by first | omega | exact (hM _ _).1 | exact (hM _ _).2) (by first | omega | exact (hM _ _).1 | exact (hM _ _).2) (by first | omega | exact (hM _ _).1 | exact (hM _ _).2) (by first | omega | exact (hM _ _).1 | exact (hM _ _).2) (fun c8 => ?_) (fun c8 => ?_)
    · first | (exfalso; omega) | (cases c8; done) | (exfalso; simp_all; done)
    · refine je_ps jb_X8_becomeDifference 2 (pc' := 13) (ls' := [_, _, _, _, _]) (st' := [_, _]) rfl ?_
      refine je_cvP' jb_X8_becomeDifference rfl (pc' := 16) rfl (by first | exact jh_V hl g2 | exact jh_V hl (g0.R37 hl _) | exact jh_walk hl) (by rfl) (by first | decide | exact Nat.ble_eq_true_of_le (by omega)) (k_at hl g2 (by omega)) (st' := [_]) rfl ?_
      refine je_ps jb_X8_becomeDifference 2 (pc' := 18) (ls' := [_, _, _, _, _]) (st' := [_, _, _]) rfl ?_
      refine je_cvP' jb_X8_becomeDifference rfl (pc' := 21) rfl (by first | exact jh_V hj g1 | exact jh_V hj (g0.R37 hj _) | exact jh_walk hj) (by rfl) (by first | decide | exact Nat.ble_eq_true_of_le (by omega)) (k_at hj g1 (by omega)) (st' := [_, _]) rfl ?_
      refine je_isub jb_X8_becomeDifference rfl (pc' := 22) rfl ?_
      refine je_ps jb_X8_becomeDifference 2 (pc' := 25) (ls' := [_, _, _, _, _]) (st' := [_]) rfl ?_
      refine je_get jb_X8_becomeDifference rfl (pc' := 28) rfl (jh_walk hi) (by rfl) (by rfl) ?_
      refine je_ps jb_X8_becomeDifference 3 (pc' := 32) (ls' := [_, _, _, _, _]) (st' := [_, _, _, _]) rfl ?_
      refine je_get jb_X8_becomeDifference rfl (pc' := 35) rfl (jh_walk hi) (by rfl) (by rfl) ?_
      refine je_get jb_X8_becomeDifference rfl (pc' := 38) rfl (jh_str hi) (by rfl) (by rfl) ?_
      refine je_csP' jb_X8_becomeDifference rfl (pc' := 41) rfl (by rfl) (by first | decide | exact Nat.ble_eq_true_of_le (by omega)) (c_X11_around (by omega) (by omega) (by omega) (by omega)) (st' := [_, _, _]) rfl ?_
      refine je_iastI jb_X8_becomeDifference rfl (pc' := 42) rfl (jwl_lt hi) (fun _ => jc_lamps hi _ _) (by first | omega | exact (hM _ _).1 | exact (hM _ _).2) (by first | omega | exact (hM _ _).1 | exact (hM _ _).2) (by first | omega | exact (hM _ _).1 | exact (hM _ _).2) ?_
      refine je_iinc jb_X8_becomeDifference rfl (pc' := 45) rfl rfl (ls' := [_, _, _, _, _]) rfl ?_
      refine je_ps jb_X8_becomeDifference 1 (pc' := 2) (ls' := [_, _, _, _, _]) (st' := []) rfl ?_
      exact kv _ _ ⟨_, rfl, jh_eq (by rw [gS3, jW_L hi, jW_l hi, jF_s _ (fun p => (fAt L2 p - fAt L1 p) % k) _ (by omega)]; rfl)⟩
  · obtain ⟨x, rfl, rfl⟩ := gv
    have g2 := jWk.o (m := m) g20 hl hi hil (jF (m (jwl i)) (fun p => (fAt L2 p - fAt L1 p) % k) (25 : Nat)) (m (jwa i) 2)
    refine je_ps jb_X8_becomeDifference 2 (pc' := 4) (ls' := [_, _, _, _, _]) (st' := [_, _]) rfl ?_
    refine je_get jb_X8_becomeDifference rfl (pc' := 7) rfl (jh_walk hi) (by rfl) (by rfl) ?_
    refine je_alen jb_X8_becomeDifference rfl (pc' := 8) rfl (jh_lamps hi) ?_
    refine je_icmpge jb_X8_becomeDifference rfl (t := 48) rfl (pc' := 11) rfl (by first | omega | exact (hM _ _).1 | exact (hM _ _).2) (by first | omega | exact (hM _ _).1 | exact (hM _ _).2) (by first | omega | exact (hM _ _).1 | exact (hM _ _).2) (by first | omega | exact (hM _ _).1 | exact (hM _ _).2) (fun c8 => ?_) (fun c8 => ?_)
    · refine je_ps jb_X8_becomeDifference 2 (pc' := 50) (ls' := [_, _, _, _, _]) (st' := [_, _]) rfl ?_
      refine je_get jb_X8_becomeDifference rfl (pc' := 53) rfl (by first | exact jh_V hl g2 | exact jh_V hl (g0.R37 hl _) | exact jh_walk hl) (by rfl) (by rfl) ?_
      refine je_pute jb_X8_becomeDifference rfl (pc' := 56) rfl hi (by rfl) (by rfl) ?_
      exact je_ret jb_X8_becomeDifference rfl (by rfl) ⟨rfl, jh_eq (by rw [jW_a, show ((25 : Nat) : Int) = 25 from rfl, jF_Z zi (fun p hp => by simp only [fAt, if_neg hp]; simp)])⟩
    · first | (exfalso; omega) | (cases c8; done) | (exfalso; simp_all; done)
end C15
