/-! THE OTHER SIDE: divisors, sums, likes -/
section C46
variable {sc : Nat × (Nat → Int32)} {m : Nat → Int → Int} {r : Nat → Nat → Value} {T : jx_H} {σ : jx_H}
def dE (a b : Int) : Nat → Int × Int
  | 0 => (a, b)
  | v + 1 => ((dE a b v).2, (dE a b v).1 % (dE a b v).2)
theorem dE_i {a b : Int} (ha : 0 ≤ a ∧ a ≤ 25) (hb : 0 ≤ b ∧ b ≤ 25) : ∀ v, (0 ≤ (dE a b v).1 ∧ (dE a b v).1 ≤ 25) ∧ 0 ≤ (dE a b v).2 ∧ (dE a b v).2 ≤ 25
  | 0 => ⟨ha, hb⟩
  | v + 1 => by
    have q := dE_i ha hb v
    refine ⟨q.2, ?_⟩
    show 0 ≤ (dE a b v).1 % (dE a b v).2 ∧ (dE a b v).1 % (dE a b v).2 ≤ 25
    by_cases h : (dE a b v).2 = 0
    · rw [h, Int.emod_zero]
      exact q.1
    · have h1 := Int.emod_nonneg (dE a b v).1 h
      have h2 := Int.emod_lt_of_pos (dE a b v).1 (show 0 < (dE a b v).2 by omega)
      omega
theorem o_fin4 : ∀ a : Nat, a < 26 → ∀ b : Nat, b < 26 → 1 ≤ b → (dE (a : Int) (b : Int) (fFst (fun w => decide ((dE (a : Int) (b : Int) w).2 = 0)) 0 10)).2 = 0 ∧ (dE (a : Int) (b : Int) (fFst (fun w => decide ((dE (a : Int) (b : Int) w).2 = 0)) 0 10)).1 = fGcd (a : Int) (b : Int) := by decide +kernel
theorem fFst_sp {P : Nat → Bool} : ∀ f p, p ≤ fFst P p f ∧ fFst P p f ≤ p + f ∧ (∀ q, p ≤ q → q < fFst P p f → P q = false) ∧ (fFst P p f < p + f → P (fFst P p f) = true) := by
  intro f
  induction f with
  | zero => exact fun p => ⟨Nat.le_refl p, Nat.le_refl p, fun q h1 h2 => absurd (show q < p from h2) (by omega), fun h => absurd (show p < p + 0 from h) (by omega)⟩
  | succ f ih =>
    intro p
    unfold fFst
    by_cases h : P p = true
    · rw [if_pos h]
      exact ⟨by omega, by omega, fun q h1 h2 => by omega, fun _ => h⟩
    · rw [if_neg h]
      obtain ⟨i1, i2, i3, i4⟩ := ih (p + 1)
      refine ⟨by omega, by omega, fun q h1 h2 => ?_, fun h2 => i4 (by omega)⟩
      by_cases e : p = q
      · subst e
        exact Bool.not_eq_true _ ▸ h
      · exact i3 q (by omega) h2
theorem c_X12_divisor {a b : Int} (ha : 0 ≤ a ∧ a ≤ 25) (hb : 1 ≤ b ∧ b ≤ 25) : jq sc 1 jm_X12_divisor [.int (jI a), .int (jI b)] σ (jP (some (.int (jI (fGcd a b)))) σ) := by
  obtain ⟨a', rfl⟩ := Int.eq_ofNat_of_zero_le ha.1
  obtain ⟨b', rfl⟩ := Int.eq_ofNat_of_zero_le (show 0 ≤ b by omega)
  obtain ⟨e1, e2⟩ := o_fin4 a' (by omega) b' (by omega) (by omega)
  obtain ⟨-, -, i3, -⟩ := fFst_sp (P := fun w => decide ((dE (a' : Int) (b' : Int) w).2 = 0)) 10 0
  generalize fFst (fun w => decide ((dE (a' : Int) (b' : Int) w).2 = 0)) 0 10 = N at *
  have j1 : jabs (a' : Int) = a' := by have := jabs_c (a' : Int); omega
  have j2 : jabs (b' : Int) = b' := by have := jabs_c (b' : Int); omega
  refine je_in jb_X12_divisor rfl (ls := [_, _, _, _, _]) rfl ?_
  refine je_ps jb_X12_divisor 1 (pc' := 1) (ls' := [_, _, _, _, _]) (st' := [_]) rfl ?_
  refine je_abs jb_X12_divisor rfl (pc' := 4) rfl rfl rfl (by first | omega | exact (hM _ _).1 | exact (hM _ _).2) (by first | omega | exact (hM _ _).1 | exact (hM _ _).2) ?_
  refine je_ps jb_X12_divisor 2 (pc' := 6) (ls' := [_, _, _, _, _]) (st' := [_]) rfl ?_
  refine je_abs jb_X12_divisor rfl (pc' := 9) rfl rfl rfl (by first | omega | exact (hM _ _).1 | exact (hM _ _).2) (by first | omega | exact (hM _ _).1 | exact (hM _ _).2) ?_
  refine je_ps jb_X12_divisor 1 (pc' := 10) (ls' := [_, _, _, _, _]) (st' := []) rfl ?_
  refine je_loop (fun (v : Nat) ls σ' => ∃ x, ls = [.int (jI (a' : Int)), .int (jI (b' : Int)), .int (jI (dE (a' : Int) (b' : Int) v).1), .int (jI (dE (a' : Int) (b' : Int) v).2), x] ∧ σ' = σ) (N) ⟨_, by rw [j1, j2]; rfl, rfl⟩ (fun v hv ls σ' gv kv => ?_) (fun ls σ' gv => ?_)
  · obtain ⟨x, rfl, rfl⟩ := gv
    have gi := dE_i (a := (a' : Int)) (b := (b' : Int)) ha (by omega) v
    have gz := of_decide_eq_false (i3 v (by omega) hv)
    refine je_ps jb_X12_divisor 1 (pc' := 11) (ls' := [_, _, _, _, _]) (st' := [_]) rfl ?_
    refine je_ifeq jb_X12_divisor rfl (t := 27) rfl (pc' := 14) rfl (by first | omega | exact (hM _ _).1 | exact (hM _ _).2) (by first | omega | exact (hM _ _).1 | exact (hM _ _).2) (fun c11 => ?_) (fun c11 => ?_)
    · first | (exfalso; omega) | (cases c11; done) | (exfalso; simp_all; done)
    · refine je_ps jb_X12_divisor 2 (pc' := 16) (ls' := [_, _, _, _, _]) (st' := [_, _]) rfl ?_
      refine je_irem jb_X12_divisor rfl (pc' := 17) rfl (by first | omega | exact (hM _ _).1 | exact (hM _ _).2) (by first | omega | exact (hM _ _).1 | exact (hM _ _).2) (by first | omega | exact (hM _ _).1 | exact (hM _ _).2) (by first | omega | exact (hM _ _).1 | exact (hM _ _).2) ?_
      refine je_ps jb_X12_divisor 6 (pc' := 10) (ls' := [_, _, _, _, _]) (st' := []) rfl ?_
      exact kv _ _ ⟨_, rfl, rfl⟩
  · obtain ⟨x, rfl, rfl⟩ := gv
    have gi := dE_i (a := (a' : Int)) (b := (b' : Int)) ha (by omega) N
    refine je_ps jb_X12_divisor 1 (pc' := 11) (ls' := [_, _, _, _, _]) (st' := [_]) rfl ?_
    refine je_ifeq jb_X12_divisor rfl (t := 27) rfl (pc' := 14) rfl (by first | omega | exact (hM _ _).1 | exact (hM _ _).2) (by first | omega | exact (hM _ _).1 | exact (hM _ _).2) (fun c11 => ?_) (fun c11 => ?_)
    · refine je_ps jb_X12_divisor 1 (pc' := 28) (ls' := [_, _, _, _, _]) (st' := [_]) rfl ?_
      rw [e2]
      exact je_ret jb_X12_divisor rfl (by rfl) ⟨rfl, rfl⟩
    · first | (exfalso; omega) | (cases c11; done) | (exfalso; simp_all; done)
theorem k_gsumMany {w s n k e : Int} {L : Int → Int} (g : gWk m w s n k L e) : jq sc 2 jm_X12_sumMany [.ref 45, .int (jI w)] (jh m r T) (jP (some (.int (jI (fMany s n e)))) (jh m r T)) := by
  have gs := g.1.2
  have gc := fC_i gs g.2.2.2.2.2
  have he := g.2.2.2.2.2
  have hw := g.2.1
  have ge := g.2.2.2.1
  have gl := fLo_c s
  unfold fS at gs
  unfold fC at he
  obtain ⟨q1, q2, q3, q4⟩ := g.1.1
  refine je_in jb_X12_sumMany rfl (ls := [_, _]) rfl ?_
  refine je_ps jb_X12_sumMany 1 (pc' := 1) (ls' := [_, _]) (st' := [_]) rfl ?_
  refine je_get jb_X12_sumMany rfl (pc' := 4) rfl (jh_at (a := 45) rfl) (by rfl) (by rfl) ?_
  refine je_ifeq jb_X12_sumMany rfl (t := 23) rfl (pc' := 7) rfl (by first | omega | exact (hM _ _).1 | exact (hM _ _).2) (by first | omega | exact (hM _ _).1 | exact (hM _ _).2) (fun c4 => ?_) (fun c4 => ?_)
  · refine je_ps jb_X12_sumMany 1 (pc' := 24) (ls' := [_, _]) (st' := [_]) rfl ?_
    refine je_get jb_X12_sumMany rfl (pc' := 27) rfl (jh_at (a := 45) rfl) (by rfl) (by rfl) ?_
    refine je_ps jb_X12_sumMany 1 (pc' := 28) (ls' := [_, _]) (st' := [_, _]) rfl ?_
    refine je_iald jb_X12_sumMany rfl (pc' := 29) rfl (n := 9) (f := _) (jh_at (a := 48) rfl) (by first | omega | exact (hM _ _).1 | exact (hM _ _).2) (by first | omega | exact (hM _ _).1 | exact (hM _ _).2) (by first | omega | exact (hM _ _).1 | exact (hM _ _).2) ?_
    rw [ge]
    refine je_abs jb_X12_sumMany rfl (pc' := 32) rfl rfl rfl (by first | omega | exact (hM _ _).1 | exact (hM _ _).2) (by first | omega | exact (hM _ _).1 | exact (hM _ _).2) ?_
    first | exact je_ret jb_X12_sumMany rfl (by rfl) ⟨jv_I (by unfold fMany; rw [if_pos (by omega)]), rfl⟩ | exact je_ret jb_X12_sumMany rfl (by rfl) ⟨jv_I (by unfold fMany; rw [if_neg (by omega)]), rfl⟩
  · refine je_ps jb_X12_sumMany 1 (pc' := 8) (ls' := [_, _]) (st' := [_]) rfl ?_
    refine je_get jb_X12_sumMany rfl (pc' := 11) rfl (jh_at (a := 45) rfl) (by rfl) (by rfl) ?_
    refine je_ps jb_X12_sumMany 1 (pc' := 12) (ls' := [_, _]) (st' := [_, _]) rfl ?_
    refine je_iald jb_X12_sumMany rfl (pc' := 13) rfl (n := 9) (f := _) (jh_at (a := 48) rfl) (by first | omega | exact (hM _ _).1 | exact (hM _ _).2) (by first | omega | exact (hM _ _).1 | exact (hM _ _).2) (by first | omega | exact (hM _ _).1 | exact (hM _ _).2) ?_
    rw [ge]
    refine je_ps jb_X12_sumMany 1 (pc' := 14) (ls' := [_, _]) (st' := [_, _]) rfl ?_
    refine je_get jb_X12_sumMany rfl (pc' := 17) rfl (jh_at (a := 45) rfl) (by rfl) (by rfl) ?_
    rw [q2]
    refine je_csP' jb_X12_sumMany rfl (pc' := 20) rfl (by rfl) (by first | decide | exact Nat.ble_eq_true_of_le (by omega)) (c_X12_divisor (by omega) (by omega)) (st' := [_]) rfl ?_
    refine je_ps jb_X12_sumMany 1 (pc' := 32) (ls' := [_, _]) (st' := [_]) rfl ?_
    first | exact je_ret jb_X12_sumMany rfl (by rfl) ⟨jv_I (by unfold fMany; rw [if_pos (by omega)]), rfl⟩ | exact je_ret jb_X12_sumMany rfl (by rfl) ⟨jv_I (by unfold fMany; rw [if_neg (by omega)]), rfl⟩
theorem fSm0_n {s n k j many : Int} {L : Int → Int} (hL : fL n k L) (hn : 0 ≤ n ∧ n ≤ 25) : fSm0 s L j many 25 = fSm0 s L j many n.toNat := by
  have e : n.toNat + (25 - n.toNat) = 25 := by omega
  rw [← e]
  unfold fSm0
  refine fSum_more _ (fun p h1 h2 => ?_)
  rw [hL.2 p (by omega)]
  split <;> rfl
theorem k_gsum {w s n k e j many : Int} {L : Int → Int} (g : gWk m w s n k L e) (hj : -2147483648 ≤ j ∧ j ≤ 2147483647) (hm : 1 ≤ many ∧ many ≤ 1000) : jq sc 2 jm_X12_sum [.ref 45, .int (jI w), .int (jI j), .int (jI many)] (jh m r T) (jP (some (.int (jI (fSm s k L j many)))) (jh m r T)) := by
  have gl := fLo_c s
  have gs := g.1.2
  have gn := fS_n gs
  have gk : 2 ≤ k ∧ k ≤ 5 := gs.2
  obtain ⟨q1, q2, q3, q4⟩ := g.1.1
  have hL := g.2.2.2.2.1
  have g25 := fSm0_i (s := s) (j := j) (many := many) hL n.toNat
  have gb : k * ((n.toNat : Nat) : Int) ≤ 5 * 25 := Int.mul_le_mul (by omega) (by omega) (by omega) (by omega)
  unfold fSm
  rw [fSm0_n hL (by omega)]
  refine je_in jb_X12_sum rfl (ls := [_, _, _, _, _, _]) rfl ?_
  refine je_ps jb_X12_sum 3 (pc' := 4) (ls' := [_, _, _, _, _, _]) (st' := [_]) rfl ?_
  refine je_get jb_X12_sum rfl (pc' := 7) rfl (jh_at (a := 45) rfl) (by rfl) (by rfl) ?_
  refine je_ps jb_X12_sum 1 (pc' := 9) (ls' := [_, _, _, _, _, _]) (st' := []) rfl ?_
  refine je_loop (fun (v : Nat) ls σ' => ls = [.ref 45, .int (jI w), .int (jI j), .int (jI many), .int (jI (fSm0 s L j many v)), .int (jI (fLo s + (v : Int)))] ∧ σ' = jh m r T) (n.toNat) ⟨by rw [q3, show fLo s + ((0 : Nat) : Int) = fLo s by omega]; rfl, rfl⟩ (fun v hv ls σ' gv kv => ?_) (fun ls σ' gv => ?_)
  · obtain ⟨rfl, rfl⟩ := gv
    have gq := hL.1 (v : Int)
    have g1 := Int.emod_nonneg (fLo s + (v : Int)) (show many ≠ 0 by omega)
    have g2 := Int.emod_lt_of_pos (fLo s + (v : Int)) (show 0 < many by omega)
    have gz : fSm0 s L j many (v + 1) = fSm0 s L j many v + (if (fLo s + (v : Int)) % many = j then L v else 0) := rfl
    refine je_ps jb_X12_sum 2 (pc' := 12) (ls' := [_, _, _, _, _, _]) (st' := [_, _]) rfl ?_
    refine je_get jb_X12_sum rfl (pc' := 15) rfl (jh_at (a := 45) rfl) (by rfl) (by rfl) ?_
    refine je_ps jb_X12_sum 1 (pc' := 16) (ls' := [_, _, _, _, _, _]) (st' := [_, _, _]) rfl ?_
    refine je_get jb_X12_sum rfl (pc' := 19) rfl (jh_at (a := 45) rfl) (by rfl) (by rfl) ?_
    refine je_iadd jb_X12_sum rfl (pc' := 20) rfl ?_
    refine je_icmpge jb_X12_sum rfl (t := 55) rfl (pc' := 23) rfl (by first | omega | exact (hM _ _).1 | exact (hM _ _).2) (by first | omega | exact (hM _ _).1 | exact (hM _ _).2) (by first | omega | exact (hM _ _).1 | exact (hM _ _).2) (by first | omega | exact (hM _ _).1 | exact (hM _ _).2) (fun c20 => ?_) (fun c20 => ?_)
    · first | (exfalso; omega) | (cases c20; done) | (exfalso; simp_all; done)
    · refine je_ps jb_X12_sum 3 (pc' := 28) (ls' := [_, _, _, _, _, _]) (st' := [_, _, _]) rfl ?_
      refine je_fm jb_X12_sum rfl (pc' := 31) rfl rfl rfl (by first | omega | exact (hM _ _).1 | exact (hM _ _).2) (by first | omega | exact (hM _ _).1 | exact (hM _ _).2) (by first | omega | exact (hM _ _).1 | exact (hM _ _).2) (by first | omega | exact (hM _ _).1 | exact (hM _ _).2) ?_
      refine je_ps jb_X12_sum 1 (pc' := 32) (ls' := [_, _, _, _, _, _]) (st' := [_, _, _]) rfl ?_
      refine je_icmpne jb_X12_sum rfl (t := 45) rfl (pc' := 35) rfl (by first | omega | exact (hM _ _).1 | exact (hM _ _).2) (by first | omega | exact (hM _ _).1 | exact (hM _ _).2) (by first | omega | exact (hM _ _).1 | exact (hM _ _).2) (by first | omega | exact (hM _ _).1 | exact (hM _ _).2) (fun c32 => ?_) (fun c32 => ?_)
      · refine je_ps jb_X12_sum 1 (pc' := 46) (ls' := [_, _, _, _, _, _]) (st' := [_, _]) rfl ?_
        refine je_iadd jb_X12_sum rfl (pc' := 47) rfl ?_
        refine je_ps jb_X12_sum 1 (pc' := 49) (ls' := [_, _, _, _, _, _]) (st' := []) rfl ?_
        refine je_iinc jb_X12_sum rfl (pc' := 52) rfl rfl (ls' := [_, _, _, _, _, _]) rfl ?_
        refine je_ps jb_X12_sum 1 (pc' := 9) (ls' := [_, _, _, _, _, _]) (st' := []) rfl ?_
        refine kv _ _ ⟨?_, rfl⟩
        rw [gz, show fLo s + ((v + 1 : Nat) : Int) = fLo s + (v : Int) + 1 by omega]
        first | (rw [if_pos (by omega)]; done) | (rw [if_neg (by omega)]; done)
      · refine je_ps jb_X12_sum 3 (pc' := 39) (ls' := [_, _, _, _, _, _]) (st' := [_, _, _, _]) rfl ?_
        refine je_cvP' jb_X12_sum rfl (pc' := 42) rfl (jh_at (a := 45) rfl) (by rfl) (by first | decide | exact Nat.ble_eq_true_of_le (by omega)) (k_gat g (by unfold fC; omega)) (st' := [_, _]) rfl ?_
        rw [show fLo s + (v : Int) - fLo s = (v : Int) by omega]
        refine je_ps jb_X12_sum 1 (pc' := 46) (ls' := [_, _, _, _, _, _]) (st' := [_, _]) rfl ?_
        refine je_iadd jb_X12_sum rfl (pc' := 47) rfl ?_
        refine je_ps jb_X12_sum 1 (pc' := 49) (ls' := [_, _, _, _, _, _]) (st' := []) rfl ?_
        refine je_iinc jb_X12_sum rfl (pc' := 52) rfl rfl (ls' := [_, _, _, _, _, _]) rfl ?_
        refine je_ps jb_X12_sum 1 (pc' := 9) (ls' := [_, _, _, _, _, _]) (st' := []) rfl ?_
        refine kv _ _ ⟨?_, rfl⟩
        rw [gz, show fLo s + ((v + 1 : Nat) : Int) = fLo s + (v : Int) + 1 by omega]
        first | (rw [if_pos (by omega)]; done) | (rw [if_neg (by omega)]; done)
  · obtain ⟨rfl, rfl⟩ := gv
    refine je_ps jb_X12_sum 2 (pc' := 12) (ls' := [_, _, _, _, _, _]) (st' := [_, _]) rfl ?_
    refine je_get jb_X12_sum rfl (pc' := 15) rfl (jh_at (a := 45) rfl) (by rfl) (by rfl) ?_
    refine je_ps jb_X12_sum 1 (pc' := 16) (ls' := [_, _, _, _, _, _]) (st' := [_, _, _]) rfl ?_
    refine je_get jb_X12_sum rfl (pc' := 19) rfl (jh_at (a := 45) rfl) (by rfl) (by rfl) ?_
    refine je_iadd jb_X12_sum rfl (pc' := 20) rfl ?_
    refine je_icmpge jb_X12_sum rfl (t := 55) rfl (pc' := 23) rfl (by first | omega | exact (hM _ _).1 | exact (hM _ _).2) (by first | omega | exact (hM _ _).1 | exact (hM _ _).2) (by first | omega | exact (hM _ _).1 | exact (hM _ _).2) (by first | omega | exact (hM _ _).1 | exact (hM _ _).2) (fun c20 => ?_) (fun c20 => ?_)
    · refine je_ps jb_X12_sum 2 (pc' := 58) (ls' := [_, _, _, _, _, _]) (st' := [_, _]) rfl ?_
      refine je_get jb_X12_sum rfl (pc' := 61) rfl (jh_at (a := 45) rfl) (by rfl) (by rfl) ?_
      rw [q4]
      refine je_irem jb_X12_sum rfl (pc' := 62) rfl (by first | omega | exact (hM _ _).1 | exact (hM _ _).2) (by first | omega | exact (hM _ _).1 | exact (hM _ _).2) (by first | omega | exact (hM _ _).1 | exact (hM _ _).2) (by first | omega | exact (hM _ _).1 | exact (hM _ _).2) ?_
      exact je_ret jb_X12_sum rfl (by rfl) ⟨by (first | rfl | (refine jv_t ?_; simp only [decide_eq_true_eq]; omega) | (refine jv_f ?_; simp only [decide_eq_false_iff_not]; omega) | (refine jv_I ?_; omega)), by (first | rfl | (refine jv_t ?_; simp only [decide_eq_true_eq]; omega) | (refine jv_f ?_; simp only [decide_eq_false_iff_not]; omega) | (refine jv_I ?_; omega))⟩
    · first | (exfalso; omega) | (cases c20; done) | (exfalso; simp_all; done)
theorem k_gisTurned {w w2 s n k e e2 many : Int} {b : Nat} {L L2 : Int → Int} (g : gWk m w s n k L e) (g2 : gWk m w2 s n k L2 e2) (hm : 1 ≤ many ∧ many ≤ 1000) (hb : b ≤ 1000) : jq sc 3 jm_X12_isTurned [.ref 45, .int (jI w), .int (jI w2), .int (jI b), .int (jI many)] (jh m r T) (jP (some (.int (jI (jb (fAll (fun q => decide (fSm s k L (q : Int) many = fSm s k L2 (((q : Int) + (b : Int)) % many) many)) many.toNat))))) (jh m r T)) := by
  have gk : 2 ≤ k ∧ k ≤ 5 := g.1.2.2
  refine je_in jb_X12_isTurned rfl (ls := [_, _, _, _, _, _, _]) rfl ?_
  refine je_ps jb_X12_isTurned 4 (pc' := 6) (ls' := [_, _, _, _, _, _, _]) (st' := []) rfl ?_
  refine je_loop (fun (v : Nat) ls σ' => ls = [.ref 45, .int (jI w), .int (jI w2), .int (jI b), .int (jI many), .int (jI (jb (fAll (fun q => decide (fSm s k L (q : Int) many = fSm s k L2 (((q : Int) + (b : Int)) % many) many)) v))), .int (jI v)] ∧ σ' = jh m r T) (many.toNat) ⟨rfl, rfl⟩ (fun v hv ls σ' gv kv => ?_) (fun ls σ' gv => ?_)
  · obtain ⟨rfl, rfl⟩ := gv
    have g3 := Int.emod_nonneg ((v : Int) + (b : Int)) (show many ≠ 0 by omega)
    have g4 := Int.emod_lt_of_pos ((v : Int) + (b : Int)) (show 0 < many by omega)
    have g5 := fSm_i (s := s) (L := L) (j := (v : Int)) (many := many) (show 0 < k by omega)
    have g6 := fSm_i (s := s) (L := L2) (j := ((v : Int) + (b : Int)) % many) (many := many) (show 0 < k by omega)
    have gz := fAll_s (fun q => decide (fSm s k L (q : Int) many = fSm s k L2 (((q : Int) + (b : Int)) % many) many)) v
    refine je_ps jb_X12_isTurned 2 (pc' := 10) (ls' := [_, _, _, _, _, _, _]) (st' := [_, _]) rfl ?_
    refine je_icmpge jb_X12_isTurned rfl (t := 57) rfl (pc' := 13) rfl (by first | omega | exact (hM _ _).1 | exact (hM _ _).2) (by first | omega | exact (hM _ _).1 | exact (hM _ _).2) (by first | omega | exact (hM _ _).1 | exact (hM _ _).2) (by first | omega | exact (hM _ _).1 | exact (hM _ _).2) (fun c10 => ?_) (fun c10 => ?_)
    · first | (exfalso; omega) | (cases c10; done) | (exfalso; simp_all; done)
    · refine je_ps jb_X12_isTurned 1 (pc' := 15) (ls' := [_, _, _, _, _, _, _]) (st' := [_]) rfl ?_
      refine je_ifeqb jb_X12_isTurned rfl (t := 48) rfl (pc' := 18) rfl (fun c15 => ?_) (fun c15 => ?_)
      · refine je_ps jb_X12_isTurned 2 (pc' := 51) (ls' := [_, _, _, _, _, _, _]) (st' := []) rfl ?_
        refine je_iinc jb_X12_isTurned rfl (pc' := 54) rfl rfl (ls' := [_, _, _, _, _, _, _]) rfl ?_
        refine je_ps jb_X12_isTurned 1 (pc' := 6) (ls' := [_, _, _, _, _, _, _]) (st' := []) rfl ?_
        refine kv _ _ ⟨?_, rfl⟩
        rw [gz]
        first | (rw [c15]; rfl) | (rw [c15, decide_eq_true (by omega)]; rfl) | (rw [c15, decide_eq_false (by omega)]; rfl)
      · refine je_ps jb_X12_isTurned 4 (pc' := 24) (ls' := [_, _, _, _, _, _, _]) (st' := [_, _, _, _]) rfl ?_
        refine je_cvP' jb_X12_isTurned rfl (pc' := 27) rfl (jh_at (a := 45) rfl) (by rfl) (by first | decide | exact Nat.ble_eq_true_of_le (by omega)) (k_gsum g (by omega) (by omega)) (st' := [_]) rfl ?_
        refine je_ps jb_X12_isTurned 4 (pc' := 32) (ls' := [_, _, _, _, _, _, _]) (st' := [_, _, _, _, _]) rfl ?_
        refine je_iadd jb_X12_isTurned rfl (pc' := 33) rfl ?_
        refine je_ps jb_X12_isTurned 1 (pc' := 35) (ls' := [_, _, _, _, _, _, _]) (st' := [_, _, _, _, _]) rfl ?_
        refine je_irem jb_X12_isTurned rfl (pc' := 36) rfl (by first | omega | exact (hM _ _).1 | exact (hM _ _).2) (by first | omega | exact (hM _ _).1 | exact (hM _ _).2) (by first | omega | exact (hM _ _).1 | exact (hM _ _).2) (by first | omega | exact (hM _ _).1 | exact (hM _ _).2) ?_
        refine je_ps jb_X12_isTurned 1 (pc' := 38) (ls' := [_, _, _, _, _, _, _]) (st' := [_, _, _, _, _]) rfl ?_
        refine je_cvP' jb_X12_isTurned rfl (pc' := 41) rfl (jh_at (a := 45) rfl) (by rfl) (by first | decide | exact Nat.ble_eq_true_of_le (by omega)) (k_gsum g2 (by omega) (by omega)) (st' := [_, _]) rfl ?_
        refine je_icmpne jb_X12_isTurned rfl (t := 48) rfl (pc' := 44) rfl (by first | omega | exact (hM _ _).1 | exact (hM _ _).2) (by first | omega | exact (hM _ _).1 | exact (hM _ _).2) (by first | omega | exact (hM _ _).1 | exact (hM _ _).2) (by first | omega | exact (hM _ _).1 | exact (hM _ _).2) (fun c41 => ?_) (fun c41 => ?_)
        · refine je_ps jb_X12_isTurned 2 (pc' := 51) (ls' := [_, _, _, _, _, _, _]) (st' := []) rfl ?_
          refine je_iinc jb_X12_isTurned rfl (pc' := 54) rfl rfl (ls' := [_, _, _, _, _, _, _]) rfl ?_
          refine je_ps jb_X12_isTurned 1 (pc' := 6) (ls' := [_, _, _, _, _, _, _]) (st' := []) rfl ?_
          refine kv _ _ ⟨?_, rfl⟩
          rw [gz]
          first | (rw [c15]; rfl) | (rw [c15, decide_eq_true (by omega)]; rfl) | (rw [c15, decide_eq_false (by omega)]; rfl)
        · refine je_ps jb_X12_isTurned 3 (pc' := 51) (ls' := [_, _, _, _, _, _, _]) (st' := []) rfl ?_
          refine je_iinc jb_X12_isTurned rfl (pc' := 54) rfl rfl (ls' := [_, _, _, _, _, _, _]) rfl ?_
          refine je_ps jb_X12_isTurned 1 (pc' := 6) (ls' := [_, _, _, _, _, _, _]) (st' := []) rfl ?_
          refine kv _ _ ⟨?_, rfl⟩
          rw [gz]
          first | (rw [c15]; rfl) | (rw [c15, decide_eq_true (by omega)]; rfl) | (rw [c15, decide_eq_false (by omega)]; rfl)
  · obtain ⟨rfl, rfl⟩ := gv
    refine je_ps jb_X12_isTurned 2 (pc' := 10) (ls' := [_, _, _, _, _, _, _]) (st' := [_, _]) rfl ?_
    refine je_icmpge jb_X12_isTurned rfl (t := 57) rfl (pc' := 13) rfl (by first | omega | exact (hM _ _).1 | exact (hM _ _).2) (by first | omega | exact (hM _ _).1 | exact (hM _ _).2) (by first | omega | exact (hM _ _).1 | exact (hM _ _).2) (by first | omega | exact (hM _ _).1 | exact (hM _ _).2) (fun c10 => ?_) (fun c10 => ?_)
    · refine je_ps jb_X12_isTurned 1 (pc' := 59) (ls' := [_, _, _, _, _, _, _]) (st' := [_]) rfl ?_
      exact je_retb jb_X12_isTurned rfl ⟨rfl, rfl⟩
    · first | (exfalso; omega) | (cases c10; done) | (exfalso; simp_all; done)
def mvP (L L2 : Int → Int) (b : Int) (q : Nat) : Bool := decide (fAt L (-25 + (q : Int)) = fAt L2 (-25 + (q : Int) + b))
theorem fSh_line {L : Int → Int} (c : Int) : fAt L (c + 12) = if fHas 0 25 c = true then L (c - fLo 0) else 0 := by
  have e0 : fLo 0 = -12 := rfl
  unfold fAt fHas
  rw [e0]
  by_cases h : 0 ≤ c + 12 ∧ c + 12 < 25
  · rw [if_pos h, if_pos (decide_eq_true (by omega)), show c - -12 = c + 12 by omega]
  · rw [if_neg h, if_neg (by rw [decide_eq_false (by omega)]; decide)]
theorem k_gisMoved {w w2 k e e2 b : Int} {L L2 : Int → Int} (g : gWk m w 0 25 k L e) (g2 : gWk m w2 0 25 k L2 e2) (hb : -100 ≤ b ∧ b ≤ 100) : jq sc 3 jm_X12_isMoved [.ref 45, .int (jI w), .int (jI w2), .int (jI b)] (jh m r T) (jP (some (.int (jI (jb (fAll (mvP L L2 b) 75))))) (jh m r T)) := by
  have gk : 2 ≤ k ∧ k ≤ 5 := g.1.2.2
  have e0 : fLo 0 = -12 := rfl
  obtain ⟨q1, q2, q3, q4⟩ := g.1.1
  refine je_in jb_X12_isMoved rfl (ls := [_, _, _, _, _, _, _, _]) rfl ?_
  refine je_ps jb_X12_isMoved 3 (pc' := 4) (ls' := [_, _, _, _, _, _, _, _]) (st' := [_]) rfl ?_
  refine je_get jb_X12_isMoved rfl (pc' := 7) rfl (jh_at (a := 45) rfl) (by rfl) (by rfl) ?_
  refine je_ps jb_X12_isMoved 1 (pc' := 9) (ls' := [_, _, _, _, _, _, _, _]) (st' := [_, _]) rfl ?_
  refine je_isub jb_X12_isMoved rfl (pc' := 10) rfl ?_
  refine je_ps jb_X12_isMoved 1 (pc' := 12) (ls' := [_, _, _, _, _, _, _, _]) (st' := []) rfl ?_
  refine je_loop (fun (v : Nat) ls σ' => ∃ x6 x7, ls = [.ref 45, .int (jI w), .int (jI w2), .int (jI b), .int (jI (jb (fAll (mvP L L2 b) v))), .int (jI (-37 + (v : Int))), x6, x7] ∧ σ' = jh m r T) (75) ⟨_, _, by rw [q3, e0]; rfl, rfl⟩ (fun v hv ls σ' gv kv => ?_) (fun ls σ' gv => ?_)
  · obtain ⟨x6, x7, rfl, rfl⟩ := gv
    have gq := g.2.2.2.2.1.1 (-37 + (v : Int) - fLo 0)
    have gr := g2.2.2.2.2.1.1 (-37 + (v : Int) + b - fLo 0)
    have gz := fAll_s (mvP L L2 b) v
    have z1 := fSh_line (L := L) (-37 + (v : Int))
    have z2 := fSh_line (L := L2) (-37 + (v : Int) + b)
    rw [show -37 + (v : Int) + 12 = -25 + (v : Int) by omega] at z1
    rw [show -37 + (v : Int) + b + 12 = -25 + (v : Int) + b by omega] at z2
    refine je_ps jb_X12_isMoved 2 (pc' := 15) (ls' := [_, _, _, _, _, _, _, _]) (st' := [_, _]) rfl ?_
    refine je_get jb_X12_isMoved rfl (pc' := 18) rfl (jh_at (a := 45) rfl) (by rfl) (by rfl) ?_
    refine je_ps jb_X12_isMoved 1 (pc' := 20) (ls' := [_, _, _, _, _, _, _, _]) (st' := [_, _, _]) rfl ?_
    refine je_iadd jb_X12_isMoved rfl (pc' := 21) rfl ?_
    refine je_icmpge jb_X12_isMoved rfl (t := 97) rfl (pc' := 24) rfl (by first | omega | exact (hM _ _).1 | exact (hM _ _).2) (by first | omega | exact (hM _ _).1 | exact (hM _ _).2) (by first | omega | exact (hM _ _).1 | exact (hM _ _).2) (by first | omega | exact (hM _ _).1 | exact (hM _ _).2) (fun c21 => ?_) (fun c21 => ?_)
    · first | (exfalso; omega) | (cases c21; done) | (exfalso; simp_all; done)
    · refine je_ps jb_X12_isMoved 2 (pc' := 27) (ls' := [_, _, _, _, _, _, _, _]) (st' := [_, _]) rfl ?_
      refine je_cvP' jb_X12_isMoved rfl (pc' := 30) rfl (jh_at (a := 45) rfl) (by rfl) (by first | decide | exact Nat.ble_eq_true_of_le (by omega)) (c_X12_isCorner g.1 (by omega)) (st' := [_]) rfl ?_
      refine je_ifeqb jb_X12_isMoved rfl (t := 43) rfl (pc' := 33) rfl (fun c30 => ?_) (fun c30 => ?_)
      · refine je_ps jb_X12_isMoved 5 (pc' := 50) (ls' := [_, _, _, _, _, _, _, _]) (st' := [_, _, _]) rfl ?_
        refine je_iadd jb_X12_isMoved rfl (pc' := 51) rfl ?_
        refine je_cvP' jb_X12_isMoved rfl (pc' := 54) rfl (jh_at (a := 45) rfl) (by rfl) (by first | decide | exact Nat.ble_eq_true_of_le (by omega)) (c_X12_isCorner g.1 (by omega)) (st' := [_]) rfl ?_
        refine je_ifeqb jb_X12_isMoved rfl (t := 69) rfl (pc' := 57) rfl (fun c54 => ?_) (fun c54 => ?_)
        · refine je_ps jb_X12_isMoved 3 (pc' := 74) (ls' := [_, _, _, _, _, _, _, _]) (st' := [_]) rfl ?_
          refine je_ifeqb jb_X12_isMoved rfl (t := 88) rfl (pc' := 77) rfl (fun c74 => ?_) (fun c74 => ?_)
          · refine je_ps jb_X12_isMoved 2 (pc' := 91) (ls' := [_, _, _, _, _, _, _, _]) (st' := []) rfl ?_
            refine je_iinc jb_X12_isMoved rfl (pc' := 94) rfl rfl (ls' := [_, _, _, _, _, _, _, _]) rfl ?_
            refine je_ps jb_X12_isMoved 1 (pc' := 12) (ls' := [_, _, _, _, _, _, _, _]) (st' := []) rfl ?_
            have zz : mvP L L2 b v = decide (fAt L (-25 + (v : Int)) = fAt L2 (-25 + (v : Int) + b)) := rfl
            first | rw [if_pos c30] at z1 | rw [if_neg (by rw [c30]; decide)] at z1
            first | rw [if_pos c54] at z2 | rw [if_neg (by rw [c54]; decide)] at z2
            exact kv _ _ ⟨_, _, (by rw [gz, zz, z1, z2, show -37 + ((v + 1 : Nat) : Int) = -37 + (v : Int) + 1 by omega]; first | (rw [c74]; rfl) | (rw [c74, decide_eq_true (by omega)]; rfl) | (rw [c74, decide_eq_false (by omega)]; rfl)), rfl⟩
          · refine je_ps jb_X12_isMoved 2 (pc' := 81) (ls' := [_, _, _, _, _, _, _, _]) (st' := [_, _]) rfl ?_
            refine je_icmpne jb_X12_isMoved rfl (t := 88) rfl (pc' := 84) rfl (by first | omega | exact (hM _ _).1 | exact (hM _ _).2) (by first | omega | exact (hM _ _).1 | exact (hM _ _).2) (by first | omega | exact (hM _ _).1 | exact (hM _ _).2) (by first | omega | exact (hM _ _).1 | exact (hM _ _).2) (fun c81 => ?_) (fun c81 => ?_)
            · refine je_ps jb_X12_isMoved 2 (pc' := 91) (ls' := [_, _, _, _, _, _, _, _]) (st' := []) rfl ?_
              refine je_iinc jb_X12_isMoved rfl (pc' := 94) rfl rfl (ls' := [_, _, _, _, _, _, _, _]) rfl ?_
              refine je_ps jb_X12_isMoved 1 (pc' := 12) (ls' := [_, _, _, _, _, _, _, _]) (st' := []) rfl ?_
              have zz : mvP L L2 b v = decide (fAt L (-25 + (v : Int)) = fAt L2 (-25 + (v : Int) + b)) := rfl
              first | rw [if_pos c30] at z1 | rw [if_neg (by rw [c30]; decide)] at z1
              first | rw [if_pos c54] at z2 | rw [if_neg (by rw [c54]; decide)] at z2
              exact kv _ _ ⟨_, _, (by rw [gz, zz, z1, z2, show -37 + ((v + 1 : Nat) : Int) = -37 + (v : Int) + 1 by omega]; first | (rw [c74]; rfl) | (rw [c74, decide_eq_true (by omega)]; rfl) | (rw [c74, decide_eq_false (by omega)]; rfl)), rfl⟩
            · refine je_ps jb_X12_isMoved 3 (pc' := 91) (ls' := [_, _, _, _, _, _, _, _]) (st' := []) rfl ?_
              refine je_iinc jb_X12_isMoved rfl (pc' := 94) rfl rfl (ls' := [_, _, _, _, _, _, _, _]) rfl ?_
              refine je_ps jb_X12_isMoved 1 (pc' := 12) (ls' := [_, _, _, _, _, _, _, _]) (st' := []) rfl ?_
              have zz : mvP L L2 b v = decide (fAt L (-25 + (v : Int)) = fAt L2 (-25 + (v : Int) + b)) := rfl
              first | rw [if_pos c30] at z1 | rw [if_neg (by rw [c30]; decide)] at z1
              first | rw [if_pos c54] at z2 | rw [if_neg (by rw [c54]; decide)] at z2
              exact kv _ _ ⟨_, _, (by rw [gz, zz, z1, z2, show -37 + ((v + 1 : Nat) : Int) = -37 + (v : Int) + 1 by omega]; first | (rw [c74]; rfl) | (rw [c74, decide_eq_true (by omega)]; rfl) | (rw [c74, decide_eq_false (by omega)]; rfl)), rfl⟩
        · refine je_ps jb_X12_isMoved 4 (pc' := 62) (ls' := [_, _, _, _, _, _, _, _]) (st' := [_, _, _, _]) rfl ?_
          refine je_iadd jb_X12_isMoved rfl (pc' := 63) rfl ?_
          refine je_cvP' jb_X12_isMoved rfl (pc' := 66) rfl (jh_at (a := 45) rfl) (by rfl) (by first | decide | exact Nat.ble_eq_true_of_le (by omega)) (k_gat g2 (fHas_t c54)) (st' := [_]) rfl ?_
          refine je_ps jb_X12_isMoved 3 (pc' := 74) (ls' := [_, _, _, _, _, _, _, _]) (st' := [_]) rfl ?_
          refine je_ifeqb jb_X12_isMoved rfl (t := 88) rfl (pc' := 77) rfl (fun c74 => ?_) (fun c74 => ?_)
          · refine je_ps jb_X12_isMoved 2 (pc' := 91) (ls' := [_, _, _, _, _, _, _, _]) (st' := []) rfl ?_
            refine je_iinc jb_X12_isMoved rfl (pc' := 94) rfl rfl (ls' := [_, _, _, _, _, _, _, _]) rfl ?_
            refine je_ps jb_X12_isMoved 1 (pc' := 12) (ls' := [_, _, _, _, _, _, _, _]) (st' := []) rfl ?_
            have zz : mvP L L2 b v = decide (fAt L (-25 + (v : Int)) = fAt L2 (-25 + (v : Int) + b)) := rfl
            first | rw [if_pos c30] at z1 | rw [if_neg (by rw [c30]; decide)] at z1
            first | rw [if_pos c54] at z2 | rw [if_neg (by rw [c54]; decide)] at z2
            exact kv _ _ ⟨_, _, (by rw [gz, zz, z1, z2, show -37 + ((v + 1 : Nat) : Int) = -37 + (v : Int) + 1 by omega]; first | (rw [c74]; rfl) | (rw [c74, decide_eq_true (by omega)]; rfl) | (rw [c74, decide_eq_false (by omega)]; rfl)), rfl⟩
          · refine je_ps jb_X12_isMoved 2 (pc' := 81) (ls' := [_, _, _, _, _, _, _, _]) (st' := [_, _]) rfl ?_
            refine je_icmpne jb_X12_isMoved rfl (t := 88) rfl (pc' := 84) rfl (by first | omega | exact (hM _ _).1 | exact (hM _ _).2) (by first | omega | exact (hM _ _).1 | exact (hM _ _).2) (by first | omega | exact (hM _ _).1 | exact (hM _ _).2) (by first | omega | exact (hM _ _).1 | exact (hM _ _).2) (fun c81 => ?_) (fun c81 => ?_)
            · refine je_ps jb_X12_isMoved 2 (pc' := 91) (ls' := [_, _, _, _, _, _, _, _]) (st' := []) rfl ?_
              refine je_iinc jb_X12_isMoved rfl (pc' := 94) rfl rfl (ls' := [_, _, _, _, _, _, _, _]) rfl ?_
              refine je_ps jb_X12_isMoved 1 (pc' := 12) (ls' := [_, _, _, _, _, _, _, _]) (st' := []) rfl ?_
              have zz : mvP L L2 b v = decide (fAt L (-25 + (v : Int)) = fAt L2 (-25 + (v : Int) + b)) := rfl
              first | rw [if_pos c30] at z1 | rw [if_neg (by rw [c30]; decide)] at z1
              first | rw [if_pos c54] at z2 | rw [if_neg (by rw [c54]; decide)] at z2
              exact kv _ _ ⟨_, _, (by rw [gz, zz, z1, z2, show -37 + ((v + 1 : Nat) : Int) = -37 + (v : Int) + 1 by omega]; first | (rw [c74]; rfl) | (rw [c74, decide_eq_true (by omega)]; rfl) | (rw [c74, decide_eq_false (by omega)]; rfl)), rfl⟩
            · refine je_ps jb_X12_isMoved 3 (pc' := 91) (ls' := [_, _, _, _, _, _, _, _]) (st' := []) rfl ?_
              refine je_iinc jb_X12_isMoved rfl (pc' := 94) rfl rfl (ls' := [_, _, _, _, _, _, _, _]) rfl ?_
              refine je_ps jb_X12_isMoved 1 (pc' := 12) (ls' := [_, _, _, _, _, _, _, _]) (st' := []) rfl ?_
              have zz : mvP L L2 b v = decide (fAt L (-25 + (v : Int)) = fAt L2 (-25 + (v : Int) + b)) := rfl
              first | rw [if_pos c30] at z1 | rw [if_neg (by rw [c30]; decide)] at z1
              first | rw [if_pos c54] at z2 | rw [if_neg (by rw [c54]; decide)] at z2
              exact kv _ _ ⟨_, _, (by rw [gz, zz, z1, z2, show -37 + ((v + 1 : Nat) : Int) = -37 + (v : Int) + 1 by omega]; first | (rw [c74]; rfl) | (rw [c74, decide_eq_true (by omega)]; rfl) | (rw [c74, decide_eq_false (by omega)]; rfl)), rfl⟩
      · refine je_ps jb_X12_isMoved 3 (pc' := 37) (ls' := [_, _, _, _, _, _, _, _]) (st' := [_, _, _]) rfl ?_
        refine je_cvP' jb_X12_isMoved rfl (pc' := 40) rfl (jh_at (a := 45) rfl) (by rfl) (by first | decide | exact Nat.ble_eq_true_of_le (by omega)) (k_gat g (fHas_t c30)) (st' := [_]) rfl ?_
        refine je_ps jb_X12_isMoved 5 (pc' := 50) (ls' := [_, _, _, _, _, _, _, _]) (st' := [_, _, _]) rfl ?_
        refine je_iadd jb_X12_isMoved rfl (pc' := 51) rfl ?_
        refine je_cvP' jb_X12_isMoved rfl (pc' := 54) rfl (jh_at (a := 45) rfl) (by rfl) (by first | decide | exact Nat.ble_eq_true_of_le (by omega)) (c_X12_isCorner g.1 (by omega)) (st' := [_]) rfl ?_
        refine je_ifeqb jb_X12_isMoved rfl (t := 69) rfl (pc' := 57) rfl (fun c54 => ?_) (fun c54 => ?_)
        · refine je_ps jb_X12_isMoved 3 (pc' := 74) (ls' := [_, _, _, _, _, _, _, _]) (st' := [_]) rfl ?_
          refine je_ifeqb jb_X12_isMoved rfl (t := 88) rfl (pc' := 77) rfl (fun c74 => ?_) (fun c74 => ?_)
          · refine je_ps jb_X12_isMoved 2 (pc' := 91) (ls' := [_, _, _, _, _, _, _, _]) (st' := []) rfl ?_
            refine je_iinc jb_X12_isMoved rfl (pc' := 94) rfl rfl (ls' := [_, _, _, _, _, _, _, _]) rfl ?_
            refine je_ps jb_X12_isMoved 1 (pc' := 12) (ls' := [_, _, _, _, _, _, _, _]) (st' := []) rfl ?_
            have zz : mvP L L2 b v = decide (fAt L (-25 + (v : Int)) = fAt L2 (-25 + (v : Int) + b)) := rfl
            first | rw [if_pos c30] at z1 | rw [if_neg (by rw [c30]; decide)] at z1
            first | rw [if_pos c54] at z2 | rw [if_neg (by rw [c54]; decide)] at z2
            exact kv _ _ ⟨_, _, (by rw [gz, zz, z1, z2, show -37 + ((v + 1 : Nat) : Int) = -37 + (v : Int) + 1 by omega]; first | (rw [c74]; rfl) | (rw [c74, decide_eq_true (by omega)]; rfl) | (rw [c74, decide_eq_false (by omega)]; rfl)), rfl⟩
          · refine je_ps jb_X12_isMoved 2 (pc' := 81) (ls' := [_, _, _, _, _, _, _, _]) (st' := [_, _]) rfl ?_
            refine je_icmpne jb_X12_isMoved rfl (t := 88) rfl (pc' := 84) rfl (by first | omega | exact (hM _ _).1 | exact (hM _ _).2) (by first | omega | exact (hM _ _).1 | exact (hM _ _).2) (by first | omega | exact (hM _ _).1 | exact (hM _ _).2) (by first | omega | exact (hM _ _).1 | exact (hM _ _).2) (fun c81 => ?_) (fun c81 => ?_)
            · refine je_ps jb_X12_isMoved 2 (pc' := 91) (ls' := [_, _, _, _, _, _, _, _]) (st' := []) rfl ?_
              refine je_iinc jb_X12_isMoved rfl (pc' := 94) rfl rfl (ls' := [_, _, _, _, _, _, _, _]) rfl ?_
              refine je_ps jb_X12_isMoved 1 (pc' := 12) (ls' := [_, _, _, _, _, _, _, _]) (st' := []) rfl ?_
              have zz : mvP L L2 b v = decide (fAt L (-25 + (v : Int)) = fAt L2 (-25 + (v : Int) + b)) := rfl
              first | rw [if_pos c30] at z1 | rw [if_neg (by rw [c30]; decide)] at z1
              first | rw [if_pos c54] at z2 | rw [if_neg (by rw [c54]; decide)] at z2
              exact kv _ _ ⟨_, _, (by rw [gz, zz, z1, z2, show -37 + ((v + 1 : Nat) : Int) = -37 + (v : Int) + 1 by omega]; first | (rw [c74]; rfl) | (rw [c74, decide_eq_true (by omega)]; rfl) | (rw [c74, decide_eq_false (by omega)]; rfl)), rfl⟩
            · refine je_ps jb_X12_isMoved 3 (pc' := 91) (ls' := [_, _, _, _, _, _, _, _]) (st' := []) rfl ?_
              refine je_iinc jb_X12_isMoved rfl (pc' := 94) rfl rfl (ls' := [_, _, _, _, _, _, _, _]) rfl ?_
              refine je_ps jb_X12_isMoved 1 (pc' := 12) (ls' := [_, _, _, _, _, _, _, _]) (st' := []) rfl ?_
              have zz : mvP L L2 b v = decide (fAt L (-25 + (v : Int)) = fAt L2 (-25 + (v : Int) + b)) := rfl
              first | rw [if_pos c30] at z1 | rw [if_neg (by rw [c30]; decide)] at z1
              first | rw [if_pos c54] at z2 | rw [if_neg (by rw [c54]; decide)] at z2
              exact kv _ _ ⟨_, _, (by rw [gz, zz, z1, z2, show -37 + ((v + 1 : Nat) : Int) = -37 + (v : Int) + 1 by omega]; first | (rw [c74]; rfl) | (rw [c74, decide_eq_true (by omega)]; rfl) | (rw [c74, decide_eq_false (by omega)]; rfl)), rfl⟩
        · refine je_ps jb_X12_isMoved 4 (pc' := 62) (ls' := [_, _, _, _, _, _, _, _]) (st' := [_, _, _, _]) rfl ?_
          refine je_iadd jb_X12_isMoved rfl (pc' := 63) rfl ?_
          refine je_cvP' jb_X12_isMoved rfl (pc' := 66) rfl (jh_at (a := 45) rfl) (by rfl) (by first | decide | exact Nat.ble_eq_true_of_le (by omega)) (k_gat g2 (fHas_t c54)) (st' := [_]) rfl ?_
          refine je_ps jb_X12_isMoved 3 (pc' := 74) (ls' := [_, _, _, _, _, _, _, _]) (st' := [_]) rfl ?_
          refine je_ifeqb jb_X12_isMoved rfl (t := 88) rfl (pc' := 77) rfl (fun c74 => ?_) (fun c74 => ?_)
          · refine je_ps jb_X12_isMoved 2 (pc' := 91) (ls' := [_, _, _, _, _, _, _, _]) (st' := []) rfl ?_
            refine je_iinc jb_X12_isMoved rfl (pc' := 94) rfl rfl (ls' := [_, _, _, _, _, _, _, _]) rfl ?_
            refine je_ps jb_X12_isMoved 1 (pc' := 12) (ls' := [_, _, _, _, _, _, _, _]) (st' := []) rfl ?_
            have zz : mvP L L2 b v = decide (fAt L (-25 + (v : Int)) = fAt L2 (-25 + (v : Int) + b)) := rfl
            first | rw [if_pos c30] at z1 | rw [if_neg (by rw [c30]; decide)] at z1
            first | rw [if_pos c54] at z2 | rw [if_neg (by rw [c54]; decide)] at z2
            exact kv _ _ ⟨_, _, (by rw [gz, zz, z1, z2, show -37 + ((v + 1 : Nat) : Int) = -37 + (v : Int) + 1 by omega]; first | (rw [c74]; rfl) | (rw [c74, decide_eq_true (by omega)]; rfl) | (rw [c74, decide_eq_false (by omega)]; rfl)), rfl⟩
          · refine je_ps jb_X12_isMoved 2 (pc' := 81) (ls' := [_, _, _, _, _, _, _, _]) (st' := [_, _]) rfl ?_
            refine je_icmpne jb_X12_isMoved rfl (t := 88) rfl (pc' := 84) rfl (by first | omega | exact (hM _ _).1 | exact (hM _ _).2) (by first | omega | exact (hM _ _).1 | exact (hM _ _).2) (by first | omega | exact (hM _ _).1 | exact (hM _ _).2) (by first | omega | exact (hM _ _).1 | exact (hM _ _).2) (fun c81 => ?_) (fun c81 => ?_)
            · refine je_ps jb_X12_isMoved 2 (pc' := 91) (ls' := [_, _, _, _, _, _, _, _]) (st' := []) rfl ?_
              refine je_iinc jb_X12_isMoved rfl (pc' := 94) rfl rfl (ls' := [_, _, _, _, _, _, _, _]) rfl ?_
              refine je_ps jb_X12_isMoved 1 (pc' := 12) (ls' := [_, _, _, _, _, _, _, _]) (st' := []) rfl ?_
              have zz : mvP L L2 b v = decide (fAt L (-25 + (v : Int)) = fAt L2 (-25 + (v : Int) + b)) := rfl
              first | rw [if_pos c30] at z1 | rw [if_neg (by rw [c30]; decide)] at z1
              first | rw [if_pos c54] at z2 | rw [if_neg (by rw [c54]; decide)] at z2
              exact kv _ _ ⟨_, _, (by rw [gz, zz, z1, z2, show -37 + ((v + 1 : Nat) : Int) = -37 + (v : Int) + 1 by omega]; first | (rw [c74]; rfl) | (rw [c74, decide_eq_true (by omega)]; rfl) | (rw [c74, decide_eq_false (by omega)]; rfl)), rfl⟩
            · refine je_ps jb_X12_isMoved 3 (pc' := 91) (ls' := [_, _, _, _, _, _, _, _]) (st' := []) rfl ?_
              refine je_iinc jb_X12_isMoved rfl (pc' := 94) rfl rfl (ls' := [_, _, _, _, _, _, _, _]) rfl ?_
              refine je_ps jb_X12_isMoved 1 (pc' := 12) (ls' := [_, _, _, _, _, _, _, _]) (st' := []) rfl ?_
              have zz : mvP L L2 b v = decide (fAt L (-25 + (v : Int)) = fAt L2 (-25 + (v : Int) + b)) := rfl
              first | rw [if_pos c30] at z1 | rw [if_neg (by rw [c30]; decide)] at z1
              first | rw [if_pos c54] at z2 | rw [if_neg (by rw [c54]; decide)] at z2
              exact kv _ _ ⟨_, _, (by rw [gz, zz, z1, z2, show -37 + ((v + 1 : Nat) : Int) = -37 + (v : Int) + 1 by omega]; first | (rw [c74]; rfl) | (rw [c74, decide_eq_true (by omega)]; rfl) | (rw [c74, decide_eq_false (by omega)]; rfl)), rfl⟩
  · obtain ⟨x6, x7, rfl, rfl⟩ := gv
    refine je_ps jb_X12_isMoved 2 (pc' := 15) (ls' := [_, _, _, _, _, _, _, _]) (st' := [_, _]) rfl ?_
    refine je_get jb_X12_isMoved rfl (pc' := 18) rfl (jh_at (a := 45) rfl) (by rfl) (by rfl) ?_
    refine je_ps jb_X12_isMoved 1 (pc' := 20) (ls' := [_, _, _, _, _, _, _, _]) (st' := [_, _, _]) rfl ?_
    refine je_iadd jb_X12_isMoved rfl (pc' := 21) rfl ?_
    refine je_icmpge jb_X12_isMoved rfl (t := 97) rfl (pc' := 24) rfl (by first | omega | exact (hM _ _).1 | exact (hM _ _).2) (by first | omega | exact (hM _ _).1 | exact (hM _ _).2) (by first | omega | exact (hM _ _).1 | exact (hM _ _).2) (by first | omega | exact (hM _ _).1 | exact (hM _ _).2) (fun c21 => ?_) (fun c21 => ?_)
    · refine je_ps jb_X12_isMoved 1 (pc' := 99) (ls' := [_, _, _, _, _, _, _, _]) (st' := [_]) rfl ?_
      exact je_retb jb_X12_isMoved rfl ⟨rfl, rfl⟩
    · first | (exfalso; omega) | (cases c21; done) | (exfalso; simp_all; done)
theorem fNz_sp (L : Int → Int) : fNz L ≤ 25 ∧ (∀ p : Nat, p < fNz L → L (p : Int) = 0) ∧ (fNz L < 25 → L (fNz L : Int) ≠ 0) := by
  obtain ⟨-, i2, i3, i4⟩ := fFst_sp (P := fun q => decide (L (q : Int) ≠ 0)) 25 0
  refine ⟨by unfold fNz; omega, fun p hp => ?_, fun h => of_decide_eq_true (i4 (by unfold fNz at h; omega))⟩
  have := of_decide_eq_false (i3 p (by omega) hp)
  omega
theorem fAt_z {L : Int → Int} {z : Nat} (h : ∀ p : Nat, p < z → L (p : Int) = 0) {p : Int} (hp : p < z) : fAt L p = 0 := by
  unfold fAt
  split
  · have := h p.toNat (by omega)
    rwa [show ((p.toNat : Nat) : Int) = p by omega] at this
  · rfl
theorem fAt_o {L : Int → Int} {p : Int} (hp : 25 ≤ p) : fAt L p = 0 := by
  unfold fAt
  rw [if_neg (by omega)]
theorem like_line (L L2 : Int → Int) : fMvl L L2 = fAny (fun q => fAll (mvP L L2 ((q : Int) - 24)) 75) 49 := by
  obtain ⟨a1, a2, a3⟩ := fNz_sp L
  obtain ⟨b1, b2, b3⟩ := fNz_sp L2
  refine bool_ext ?_
  unfold fMvl
  rw [fAll_iff]
  generalize fNz L = z at *
  generalize fNz L2 = y at *
  constructor
  · intro h
    have h' : ∀ q : Nat, q < 25 → fAt L (z + (q : Int)) = fAt L2 (y + (q : Int)) := fun q hq => of_decide_eq_true (h q hq)
    by_cases hz : z = 25
    · have hy : y = 25 := by
        by_cases c : y < 25
        · have h0 := h' 0 (by omega)
          rw [fAt_o (by omega), fAt_in (by omega)] at h0
          have := b3 c
          rw [show (y : Int) + ((0 : Nat) : Int) = (y : Int) by omega] at h0
          omega
        · omega
      refine fAny_t (v := 24) (by omega) (fAll_t fun q hq => decide_eq_true ?_)
      by_cases c : -25 + (q : Int) < 25
      · rw [fAt_z a2 (by omega), fAt_z b2 (by omega)]
      · rw [fAt_o (by omega), fAt_o (by omega)]
    · have h0 := h' 0 (by omega)
      have hz2 := a3 (by omega)
      rw [show (z : Int) + ((0 : Nat) : Int) = (z : Int) by omega, fAt_in (by omega)] at h0
      have hy : y < 25 := by
        by_cases c : y < 25
        · exact c
        · rw [fAt_o (by omega)] at h0
          omega
      refine fAny_t (v := 24 + y - z) (by omega) (fAll_t fun q hq => decide_eq_true ?_)
      rw [show ((24 + y - z : Nat) : Int) - 24 = (y : Int) - (z : Int) by omega]
      by_cases c : -25 + (q : Int) < z
      · rw [fAt_z a2 c, fAt_z b2 (by omega)]
      · by_cases c2 : -25 + (q : Int) - z < 25
        · have := h' (-25 + (q : Int) - z).toNat (by omega)
          rw [show (z : Int) + (((-25 + (q : Int) - z).toNat : Nat) : Int) = -25 + (q : Int) by omega, show (y : Int) + (((-25 + (q : Int) - z).toNat : Nat) : Int) = -25 + (q : Int) + ((y : Int) - (z : Int)) by omega] at this
          exact this
        · rw [fAt_o (by omega), fAt_o (by omega)]
  · intro h
    obtain ⟨v, hv, h2⟩ := List.any_eq_true.mp h
    have hv := List.mem_range.mp hv
    have key : ∀ p : Int, -25 ≤ p → p < 50 → fAt L p = fAt L2 (p + ((v : Int) - 24)) := by
      intro p p0 p1
      have := of_decide_eq_true (fAll_at h2 (v := (p + 25).toNat) (by omega))
      rwa [show -25 + (((p + 25).toNat : Nat) : Int) = p by omega] at this
    intro q hq
    refine decide_eq_true ?_
    by_cases hz : z = 25
    · have hy : y = 25 := by
        by_cases c : y < 25
        · have h3 := key ((y : Int) - ((v : Int) - 24)) (by omega) (by omega)
          rw [show (y : Int) - ((v : Int) - 24) + ((v : Int) - 24) = (y : Int) by omega, fAt_in (L := L2) (by omega)] at h3
          have h4 := b3 c
          have h5 : fAt L ((y : Int) - ((v : Int) - 24)) = 0 := by
            by_cases c2 : (y : Int) - ((v : Int) - 24) < 25
            · exact fAt_z a2 (by omega)
            · exact fAt_o (by omega)
          omega
        · omega
      rw [fAt_o (by omega), fAt_o (by omega)]
    · have hz2 := a3 (by omega)
      have h3 := key (z : Int) (by omega) (by omega)
      rw [fAt_in (L := L) (by omega)] at h3
      have hr : 0 ≤ (z : Int) + ((v : Int) - 24) ∧ (z : Int) + ((v : Int) - 24) < 25 := by
        by_cases c : 0 ≤ (z : Int) + ((v : Int) - 24) ∧ (z : Int) + ((v : Int) - 24) < 25
        · exact c
        · unfold fAt at h3
          rw [if_neg c] at h3
          omega
      rw [fAt_in hr] at h3
      have hy : (y : Int) = (z : Int) + ((v : Int) - 24) := by
        rcases (by omega : (y : Int) = (z : Int) + ((v : Int) - 24) ∨ (y : Int) < (z : Int) + ((v : Int) - 24) ∨ (z : Int) + ((v : Int) - 24) < (y : Int)) with c | c | c
        · exact c
        · have h4 := key ((y : Int) - ((v : Int) - 24)) (by omega) (by omega)
          rw [show (y : Int) - ((v : Int) - 24) + ((v : Int) - 24) = (y : Int) by omega, fAt_in (L := L2) (by omega), fAt_z a2 (by omega)] at h4
          have := b3 (by omega)
          omega
        · have h4 := fAt_z b2 c
          rw [fAt_in hr] at h4
          omega
      have h4 := key ((z : Int) + (q : Int)) (by omega) (by omega)
      rw [h4, show (z : Int) + (q : Int) + ((v : Int) - 24) = (y : Int) + (q : Int) by omega]
theorem k_gisLike {w w2 s n k e e2 : Int} {L L2 : Int → Int} (g : gWk m w s n k L e) (g2 : gWk m w2 s n k L2 e2) : jq sc 4 jm_X12_isLike [.ref 45, .int (jI w), .int (jI w2)] (jh m r T) (jP (some (.int (jI (jb (fLike s n k L e L2 e2))))) (jh m r T)) := by
  have gc := fC_i g.1.2 g.2.2.2.2.2
  have gd := fC_i g2.1.2 g2.2.2.2.2.2
  have gm := fMany_i g.1.2 g.2.2.2.2.2
  have hw := g.2.1
  have hw2 := g2.2.1
  have ge := g.2.2.2.1
  have ge2 := g2.2.2.2.1
  have gs := g.1.2
  unfold fS at gs
  unfold fLike
  by_cases hm : fMany s n e = 0
  · have hs : s = 0 := by omega
    subst hs
    have hn : n = 25 := by omega
    subst hn
    rw [hm, if_pos rfl, like_line]
    refine je_in jb_X12_isLike rfl (ls := [_, _, _, _, _, _]) rfl ?_
    refine je_ps jb_X12_isLike 1 (pc' := 1) (ls' := [_, _, _, _, _, _]) (st' := [_]) rfl ?_
    refine je_get jb_X12_isLike rfl (pc' := 4) rfl (jh_at (a := 45) rfl) (by rfl) (by rfl) ?_
    refine je_ps jb_X12_isLike 1 (pc' := 5) (ls' := [_, _, _, _, _, _]) (st' := [_, _]) rfl ?_
    refine je_iald jb_X12_isLike rfl (pc' := 6) rfl (n := 9) (f := _) (jh_at (a := 48) rfl) (by first | omega | exact (hM _ _).1 | exact (hM _ _).2) (by first | omega | exact (hM _ _).1 | exact (hM _ _).2) (by first | omega | exact (hM _ _).1 | exact (hM _ _).2) ?_
    rw [ge]
    refine je_ps jb_X12_isLike 1 (pc' := 7) (ls' := [_, _, _, _, _, _]) (st' := [_, _]) rfl ?_
    refine je_get jb_X12_isLike rfl (pc' := 10) rfl (jh_at (a := 45) rfl) (by rfl) (by rfl) ?_
    refine je_ps jb_X12_isLike 1 (pc' := 11) (ls' := [_, _, _, _, _, _]) (st' := [_, _, _]) rfl ?_
    refine je_iald jb_X12_isLike rfl (pc' := 12) rfl (n := 9) (f := _) (jh_at (a := 48) rfl) (by first | omega | exact (hM _ _).1 | exact (hM _ _).2) (by first | omega | exact (hM _ _).1 | exact (hM _ _).2) (by first | omega | exact (hM _ _).1 | exact (hM _ _).2) ?_
    rw [ge2]
    refine je_icmpeq jb_X12_isLike rfl (t := 17) rfl (pc' := 15) rfl (by first | omega | exact (hM _ _).1 | exact (hM _ _).2) (by first | omega | exact (hM _ _).1 | exact (hM _ _).2) (by first | omega | exact (hM _ _).1 | exact (hM _ _).2) (by first | omega | exact (hM _ _).1 | exact (hM _ _).2) (fun c12 => ?_) (fun c12 => ?_)
    · refine je_ps jb_X12_isLike 2 (pc' := 19) (ls' := [_, _, _, _, _, _]) (st' := [_, _]) rfl ?_
      refine je_cvP' jb_X12_isLike rfl (pc' := 22) rfl (jh_at (a := 45) rfl) (by rfl) (by first | decide | exact Nat.ble_eq_true_of_le (by omega)) (k_gsumMany g) (st' := [_]) rfl ?_
      refine je_ps jb_X12_isLike 2 (pc' := 24) (ls' := [_, _, _, _, _, _]) (st' := [_]) rfl ?_
      refine je_ifne jb_X12_isLike rfl (t := 73) rfl (pc' := 27) rfl (by first | omega | exact (hM _ _).1 | exact (hM _ _).2) (by first | omega | exact (hM _ _).1 | exact (hM _ _).2) (fun c24 => ?_) (fun c24 => ?_)
      · exfalso; omega
      · refine je_ps jb_X12_isLike 4 (pc' := 34) (ls' := [_, _, _, _, _, _]) (st' := []) rfl ?_
        refine je_loop (fun (v : Nat) ls σ' => ls = [.ref 45, .int (jI w), .int (jI w2), .int (jI (fMany 0 25 e)), .int (jI (jb (fAny (fun q => fAll (mvP L L2 ((q : Int) - 24)) 75) v))), .int (jI ((v : Int) - 24))] ∧ σ' = jh m r T) (49) ⟨rfl, rfl⟩ (fun v hv ls σ' gv kv => ?_) (fun ls σ' gv => ?_)
        · obtain ⟨rfl, rfl⟩ := gv
          have gz := fAny_s (fun q => fAll (mvP L L2 ((q : Int) - 24)) 75) v
          refine je_ps jb_X12_isLike 2 (pc' := 38) (ls' := [_, _, _, _, _, _]) (st' := [_, _]) rfl ?_
          refine je_icmpge jb_X12_isLike rfl (t := 70) rfl (pc' := 41) rfl (by first | omega | exact (hM _ _).1 | exact (hM _ _).2) (by first | omega | exact (hM _ _).1 | exact (hM _ _).2) (by first | omega | exact (hM _ _).1 | exact (hM _ _).2) (by first | omega | exact (hM _ _).1 | exact (hM _ _).2) (fun c38 => ?_) (fun c38 => ?_)
          · first | (exfalso; omega) | (cases c38; done) | (exfalso; simp_all; done)
          · refine je_ps jb_X12_isLike 1 (pc' := 43) (ls' := [_, _, _, _, _, _]) (st' := [_]) rfl ?_
            refine je_ifneb jb_X12_isLike rfl (t := 57) rfl (pc' := 46) rfl (fun c43 => ?_) (fun c43 => ?_)
            · refine je_ps jb_X12_isLike 3 (pc' := 64) (ls' := [_, _, _, _, _, _]) (st' := []) rfl ?_
              refine je_iinc jb_X12_isLike rfl (pc' := 67) rfl rfl (ls' := [_, _, _, _, _, _]) rfl ?_
              refine je_ps jb_X12_isLike 1 (pc' := 34) (ls' := [_, _, _, _, _, _]) (st' := []) rfl ?_
              refine kv _ _ ⟨?_, rfl⟩
              rw [gz, show ((v + 1 : Nat) : Int) - 24 = (v : Int) - 24 + 1 by omega]
              first | (rw [c43]; rfl) | (rw [c43, c54]; rfl)
            · refine je_ps jb_X12_isLike 4 (pc' := 51) (ls' := [_, _, _, _, _, _]) (st' := [_, _, _, _]) rfl ?_
              refine je_cvP' jb_X12_isLike rfl (pc' := 54) rfl (jh_at (a := 45) rfl) (by rfl) (by first | decide | exact Nat.ble_eq_true_of_le (by omega)) (k_gisMoved g g2 (by omega)) (st' := [_]) rfl ?_
              refine je_ifeqb jb_X12_isLike rfl (t := 61) rfl (pc' := 57) rfl (fun c54 => ?_) (fun c54 => ?_)
              · refine je_ps jb_X12_isLike 2 (pc' := 64) (ls' := [_, _, _, _, _, _]) (st' := []) rfl ?_
                refine je_iinc jb_X12_isLike rfl (pc' := 67) rfl rfl (ls' := [_, _, _, _, _, _]) rfl ?_
                refine je_ps jb_X12_isLike 1 (pc' := 34) (ls' := [_, _, _, _, _, _]) (st' := []) rfl ?_
                refine kv _ _ ⟨?_, rfl⟩
                rw [gz, show ((v + 1 : Nat) : Int) - 24 = (v : Int) - 24 + 1 by omega]
                first | (rw [c43]; rfl) | (rw [c43, c54]; rfl)
              · refine je_ps jb_X12_isLike 3 (pc' := 64) (ls' := [_, _, _, _, _, _]) (st' := []) rfl ?_
                refine je_iinc jb_X12_isLike rfl (pc' := 67) rfl rfl (ls' := [_, _, _, _, _, _]) rfl ?_
                refine je_ps jb_X12_isLike 1 (pc' := 34) (ls' := [_, _, _, _, _, _]) (st' := []) rfl ?_
                refine kv _ _ ⟨?_, rfl⟩
                rw [gz, show ((v + 1 : Nat) : Int) - 24 = (v : Int) - 24 + 1 by omega]
                first | (rw [c43]; rfl) | (rw [c43, c54]; rfl)
        · obtain ⟨rfl, rfl⟩ := gv
          refine je_ps jb_X12_isLike 2 (pc' := 38) (ls' := [_, _, _, _, _, _]) (st' := [_, _]) rfl ?_
          refine je_icmpge jb_X12_isLike rfl (t := 70) rfl (pc' := 41) rfl (by first | omega | exact (hM _ _).1 | exact (hM _ _).2) (by first | omega | exact (hM _ _).1 | exact (hM _ _).2) (by first | omega | exact (hM _ _).1 | exact (hM _ _).2) (by first | omega | exact (hM _ _).1 | exact (hM _ _).2) (fun c38 => ?_) (fun c38 => ?_)
          · refine je_ps jb_X12_isLike 1 (pc' := 72) (ls' := [_, _, _, _, _, _]) (st' := [_]) rfl ?_
            rw [if_pos (by omega)]
            exact je_retb jb_X12_isLike rfl ⟨rfl, rfl⟩
          · first | (exfalso; omega) | (cases c38; done) | (exfalso; simp_all; done)
    · refine je_ps jb_X12_isLike 1 (pc' := 16) (ls' := [_, _, _, _, _, _]) (st' := [_]) rfl ?_
      rw [if_neg (by omega)]
      exact je_ret jb_X12_isLike rfl (by rfl) ⟨rfl, rfl⟩
  · rw [if_neg hm]
    unfold fSml
    refine je_in jb_X12_isLike rfl (ls := [_, _, _, _, _, _]) rfl ?_
    refine je_ps jb_X12_isLike 1 (pc' := 1) (ls' := [_, _, _, _, _, _]) (st' := [_]) rfl ?_
    refine je_get jb_X12_isLike rfl (pc' := 4) rfl (jh_at (a := 45) rfl) (by rfl) (by rfl) ?_
    refine je_ps jb_X12_isLike 1 (pc' := 5) (ls' := [_, _, _, _, _, _]) (st' := [_, _]) rfl ?_
    refine je_iald jb_X12_isLike rfl (pc' := 6) rfl (n := 9) (f := _) (jh_at (a := 48) rfl) (by first | omega | exact (hM _ _).1 | exact (hM _ _).2) (by first | omega | exact (hM _ _).1 | exact (hM _ _).2) (by first | omega | exact (hM _ _).1 | exact (hM _ _).2) ?_
    rw [ge]
    refine je_ps jb_X12_isLike 1 (pc' := 7) (ls' := [_, _, _, _, _, _]) (st' := [_, _]) rfl ?_
    refine je_get jb_X12_isLike rfl (pc' := 10) rfl (jh_at (a := 45) rfl) (by rfl) (by rfl) ?_
    refine je_ps jb_X12_isLike 1 (pc' := 11) (ls' := [_, _, _, _, _, _]) (st' := [_, _, _]) rfl ?_
    refine je_iald jb_X12_isLike rfl (pc' := 12) rfl (n := 9) (f := _) (jh_at (a := 48) rfl) (by first | omega | exact (hM _ _).1 | exact (hM _ _).2) (by first | omega | exact (hM _ _).1 | exact (hM _ _).2) (by first | omega | exact (hM _ _).1 | exact (hM _ _).2) ?_
    rw [ge2]
    refine je_icmpeq jb_X12_isLike rfl (t := 17) rfl (pc' := 15) rfl (by first | omega | exact (hM _ _).1 | exact (hM _ _).2) (by first | omega | exact (hM _ _).1 | exact (hM _ _).2) (by first | omega | exact (hM _ _).1 | exact (hM _ _).2) (by first | omega | exact (hM _ _).1 | exact (hM _ _).2) (fun c12 => ?_) (fun c12 => ?_)
    · refine je_ps jb_X12_isLike 2 (pc' := 19) (ls' := [_, _, _, _, _, _]) (st' := [_, _]) rfl ?_
      refine je_cvP' jb_X12_isLike rfl (pc' := 22) rfl (jh_at (a := 45) rfl) (by rfl) (by first | decide | exact Nat.ble_eq_true_of_le (by omega)) (k_gsumMany g) (st' := [_]) rfl ?_
      refine je_ps jb_X12_isLike 2 (pc' := 24) (ls' := [_, _, _, _, _, _]) (st' := [_]) rfl ?_
      refine je_ifne jb_X12_isLike rfl (t := 73) rfl (pc' := 27) rfl (by first | omega | exact (hM _ _).1 | exact (hM _ _).2) (by first | omega | exact (hM _ _).1 | exact (hM _ _).2) (fun c24 => ?_) (fun c24 => ?_)
      · refine je_ps jb_X12_isLike 4 (pc' := 79) (ls' := [_, _, _, _, _, _]) (st' := []) rfl ?_
        refine je_loop (fun (v : Nat) ls σ' => ls = [.ref 45, .int (jI w), .int (jI w2), .int (jI (fMany s n e)), .int (jI (jb (fAny (fun b => fAll (fun q => decide (fSm s k L (q : Int) (fMany s n e) = fSm s k L2 (((q : Int) + (b : Int)) % (fMany s n e)) (fMany s n e))) (fMany s n e).toNat) v))), .int (jI v)] ∧ σ' = jh m r T) ((fMany s n e).toNat) ⟨rfl, rfl⟩ (fun v hv ls σ' gv kv => ?_) (fun ls σ' gv => ?_)
        · obtain ⟨rfl, rfl⟩ := gv
          have gz := fAny_s (fun b => fAll (fun q => decide (fSm s k L (q : Int) (fMany s n e) = fSm s k L2 (((q : Int) + (b : Int)) % (fMany s n e)) (fMany s n e))) (fMany s n e).toNat) v
          refine je_ps jb_X12_isLike 2 (pc' := 82) (ls' := [_, _, _, _, _, _]) (st' := [_, _]) rfl ?_
          refine je_icmpge jb_X12_isLike rfl (t := 115) rfl (pc' := 85) rfl (by first | omega | exact (hM _ _).1 | exact (hM _ _).2) (by first | omega | exact (hM _ _).1 | exact (hM _ _).2) (by first | omega | exact (hM _ _).1 | exact (hM _ _).2) (by first | omega | exact (hM _ _).1 | exact (hM _ _).2) (fun c82 => ?_) (fun c82 => ?_)
          · first | (exfalso; omega) | (cases c82; done) | (exfalso; simp_all; done)
          · refine je_ps jb_X12_isLike 1 (pc' := 87) (ls' := [_, _, _, _, _, _]) (st' := [_]) rfl ?_
            refine je_ifneb jb_X12_isLike rfl (t := 102) rfl (pc' := 90) rfl (fun c87 => ?_) (fun c87 => ?_)
            · refine je_ps jb_X12_isLike 3 (pc' := 109) (ls' := [_, _, _, _, _, _]) (st' := []) rfl ?_
              refine je_iinc jb_X12_isLike rfl (pc' := 112) rfl rfl (ls' := [_, _, _, _, _, _]) rfl ?_
              refine je_ps jb_X12_isLike 1 (pc' := 79) (ls' := [_, _, _, _, _, _]) (st' := []) rfl ?_
              refine kv _ _ ⟨?_, rfl⟩
              rw [gz]
              first | (rw [c87]; rfl) | (rw [c87, c99]; rfl)
            · refine je_ps jb_X12_isLike 5 (pc' := 96) (ls' := [_, _, _, _, _, _]) (st' := [_, _, _, _, _]) rfl ?_
              refine je_cvP' jb_X12_isLike rfl (pc' := 99) rfl (jh_at (a := 45) rfl) (by rfl) (by first | decide | exact Nat.ble_eq_true_of_le (by omega)) (k_gisTurned g g2 (by omega) (by omega)) (st' := [_]) rfl ?_
              refine je_ifeqb jb_X12_isLike rfl (t := 106) rfl (pc' := 102) rfl (fun c99 => ?_) (fun c99 => ?_)
              · refine je_ps jb_X12_isLike 2 (pc' := 109) (ls' := [_, _, _, _, _, _]) (st' := []) rfl ?_
                refine je_iinc jb_X12_isLike rfl (pc' := 112) rfl rfl (ls' := [_, _, _, _, _, _]) rfl ?_
                refine je_ps jb_X12_isLike 1 (pc' := 79) (ls' := [_, _, _, _, _, _]) (st' := []) rfl ?_
                refine kv _ _ ⟨?_, rfl⟩
                rw [gz]
                first | (rw [c87]; rfl) | (rw [c87, c99]; rfl)
              · refine je_ps jb_X12_isLike 3 (pc' := 109) (ls' := [_, _, _, _, _, _]) (st' := []) rfl ?_
                refine je_iinc jb_X12_isLike rfl (pc' := 112) rfl rfl (ls' := [_, _, _, _, _, _]) rfl ?_
                refine je_ps jb_X12_isLike 1 (pc' := 79) (ls' := [_, _, _, _, _, _]) (st' := []) rfl ?_
                refine kv _ _ ⟨?_, rfl⟩
                rw [gz]
                first | (rw [c87]; rfl) | (rw [c87, c99]; rfl)
        · obtain ⟨rfl, rfl⟩ := gv
          refine je_ps jb_X12_isLike 2 (pc' := 82) (ls' := [_, _, _, _, _, _]) (st' := [_, _]) rfl ?_
          refine je_icmpge jb_X12_isLike rfl (t := 115) rfl (pc' := 85) rfl (by first | omega | exact (hM _ _).1 | exact (hM _ _).2) (by first | omega | exact (hM _ _).1 | exact (hM _ _).2) (by first | omega | exact (hM _ _).1 | exact (hM _ _).2) (by first | omega | exact (hM _ _).1 | exact (hM _ _).2) (fun c82 => ?_) (fun c82 => ?_)
          · refine je_ps jb_X12_isLike 1 (pc' := 117) (ls' := [_, _, _, _, _, _]) (st' := [_]) rfl ?_
            rw [if_pos (by omega)]
            exact je_retb jb_X12_isLike rfl ⟨rfl, rfl⟩
          · first | (exfalso; omega) | (cases c82; done) | (exfalso; simp_all; done)
      · exfalso; omega
    · refine je_ps jb_X12_isLike 1 (pc' := 16) (ls' := [_, _, _, _, _, _]) (st' := [_]) rfl ?_
      rw [if_neg (by omega)]
      exact je_ret jb_X12_isLike rfl (by rfl) ⟨rfl, rfl⟩
end C46
