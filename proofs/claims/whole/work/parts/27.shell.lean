/-! THE SHELL -/
section C27
variable {sc : Nat × (Nat → Int32)} {m : Nat → Int → Int} {r : Nat → Nat → Value} {T : jx_H} {σ : jx_H} {a b N : Nat} {f : Int → Int} {z : Int}
def fCd (s n : Int) (L : Int → Int) (e : Int) : Nat → Int
  | 0 => e - (if s = 0 then -5 else 0)
  | v + 1 => fCd s n L e v * 5 + fSh s n L ((if s = 0 then -5 else 0) + (v : Int))
def fCode (s n : Int) (L : Int → Int) (e : Int) : Int := fCd s n L e (if s = 0 then 11 else n).toNat
theorem k_nearCode_p {i : Nat} (hi : i < 13) {s n k e : Int} {L : Int → Int} (g : jWk m i s n k L e) (hs : s=0) : jq sc 5 jm_X8_nearCode [.ref (jwa i)] (jh m r T) (jP (some (.int (jI (fCode s n L e)))) (jh m r T)) := by
  have gs := g.1.2
  unfold fS at gs
  have hF : (if s = 0 then (-5 : Int) else 0) = (-5) := if_pos hs
  have hK : (if s = 0 then (11 : Int) else n) = 11 := if_pos hs
  have e0 : fCd s n L e 0 = e - (-5) := by rw [← hF]; rfl
  refine je_in jb_X8_nearCode rfl (ls := [_, _, _, _, _]) rfl ?_
  refine je_ps jb_X8_nearCode 1 (pc' := 1) (ls' := [_, _, _, _, _]) (st' := [_]) rfl ?_
  refine je_get jb_X8_nearCode rfl (pc' := 4) rfl (by first | exact jh_V hi g | exact jh_V hi (g0.R37 hi _) | exact jh_walk hi) (by rfl) (by rfl) ?_
  refine je_cvP' jb_X8_nearCode rfl (pc' := 7) rfl (jh_VS hi g) (by rfl) (by first | decide | exact Nat.ble_eq_true_of_le (by omega)) (c_X5_isLine hi g.1) (st' := [_]) rfl ?_
  refine je_ifeqb jb_X8_nearCode rfl (t := 15) rfl (pc' := 10) rfl (fun c7 => ?_) (fun c7 => ?_)
  · first | (exfalso; omega) | (cases c7; done) | (exfalso; simp_all; done)
  · refine je_ps jb_X8_nearCode 4 (pc' := 18) (ls' := [_, _, _, _, _]) (st' := [_]) rfl ?_
    refine je_get jb_X8_nearCode rfl (pc' := 21) rfl (by first | exact jh_V hi g | exact jh_V hi (g0.R37 hi _) | exact jh_walk hi) (by rfl) (by rfl) ?_
    refine je_cvP' jb_X8_nearCode rfl (pc' := 24) rfl (jh_VS hi g) (by rfl) (by first | decide | exact Nat.ble_eq_true_of_le (by omega)) (c_X5_isLine hi g.1) (st' := [_]) rfl ?_
    refine je_ifeqb jb_X8_nearCode rfl (t := 31) rfl (pc' := 27) rfl (fun c24 => ?_) (fun c24 => ?_)
    · first | (exfalso; omega) | (cases c24; done) | (exfalso; simp_all; done)
    · refine je_ps jb_X8_nearCode 4 (pc' := 42) (ls' := [_, _, _, _, _]) (st' := [_]) rfl ?_
      refine je_get jb_X8_nearCode rfl (pc' := 45) rfl (by first | exact jh_V hi g | exact jh_V hi (g0.R37 hi _) | exact jh_walk hi) (by rfl) (by rfl) ?_
      refine je_ps jb_X8_nearCode 1 (pc' := 46) (ls' := [_, _, _, _, _]) (st' := [_, _]) rfl ?_
      refine je_isub jb_X8_nearCode rfl (pc' := 47) rfl ?_
      refine je_ps jb_X8_nearCode 3 (pc' := 51) (ls' := [_, _, _, _, _]) (st' := []) rfl ?_
      refine je_loop (fun (v : Nat) ls σ' => ls = [.ref (jwa i), .int (jI (-5)), .int (jI 5), .int (jI (fCd s n L e v)), .int (jI ((-5) + (v : Int)))] ∧ σ' = jh m r T) (Int.toNat 11) ⟨by rw [e0, show (-5) + ((0 : Nat) : Int) = (-5) by omega], rfl⟩ (fun v hv ls σ' gv kv => ?_) (fun ls σ' gv => ?_)
      · obtain ⟨rfl, rfl⟩ := gv
        have gz : fCd s n L e (v + 1) = fCd s n L e v * 5 + fSh s n L ((-5) + (v : Int)) := by rw [← hF]; rfl
        refine je_ps jb_X8_nearCode 2 (pc' := 54) (ls' := [_, _, _, _, _]) (st' := [_, _]) rfl ?_
        refine je_icmpgt jb_X8_nearCode rfl (t := 74) rfl (pc' := 57) rfl (by first | omega | exact (hM _ _).1 | exact (hM _ _).2) (by first | omega | exact (hM _ _).1 | exact (hM _ _).2) (by first | omega | exact (hM _ _).1 | exact (hM _ _).2) (by first | omega | exact (hM _ _).1 | exact (hM _ _).2) (fun c54 => ?_) (fun c54 => ?_)
        · first | (exfalso; omega) | (cases c54; done) | (exfalso; simp_all; done)
        · refine je_ps jb_X8_nearCode 2 (pc' := 59) (ls' := [_, _, _, _, _]) (st' := [_, _]) rfl ?_
          refine je_imul jb_X8_nearCode rfl (pc' := 60) rfl ?_
          refine je_ps jb_X8_nearCode 2 (pc' := 63) (ls' := [_, _, _, _, _]) (st' := [_, _, _]) rfl ?_
          refine je_cvP' jb_X8_nearCode rfl (pc' := 66) rfl (by first | exact jh_V hi g | exact jh_V hi (g0.R37 hi _) | exact jh_walk hi) (by rfl) (by first | decide | exact Nat.ble_eq_true_of_le (by omega)) (k_shows hi g (by omega)) (st' := [_, _]) rfl ?_
          refine je_iadd jb_X8_nearCode rfl (pc' := 67) rfl ?_
          refine je_ps jb_X8_nearCode 1 (pc' := 68) (ls' := [_, _, _, _, _]) (st' := []) rfl ?_
          refine je_iinc jb_X8_nearCode rfl (pc' := 71) rfl rfl (ls' := [_, _, _, _, _]) rfl ?_
          refine je_ps jb_X8_nearCode 1 (pc' := 51) (ls' := [_, _, _, _, _]) (st' := []) rfl ?_
          refine kv _ _ ⟨by rw [gz, show (-5) + ((v + 1 : Nat) : Int) = (-5) + (v : Int) + 1 by omega], rfl⟩
      · obtain ⟨rfl, rfl⟩ := gv
        refine je_ps jb_X8_nearCode 2 (pc' := 54) (ls' := [_, _, _, _, _]) (st' := [_, _]) rfl ?_
        refine je_icmpgt jb_X8_nearCode rfl (t := 74) rfl (pc' := 57) rfl (by first | omega | exact (hM _ _).1 | exact (hM _ _).2) (by first | omega | exact (hM _ _).1 | exact (hM _ _).2) (by first | omega | exact (hM _ _).1 | exact (hM _ _).2) (by first | omega | exact (hM _ _).1 | exact (hM _ _).2) (fun c54 => ?_) (fun c54 => ?_)
        · refine je_ps jb_X8_nearCode 1 (pc' := 75) (ls' := [_, _, _, _, _]) (st' := [_]) rfl ?_
          exact je_ret jb_X8_nearCode rfl (by rfl) ⟨by unfold fCode; rw [hK], rfl⟩
        · first | (exfalso; omega) | (cases c54; done) | (exfalso; simp_all; done)
theorem k_nearCode_q {i : Nat} (hi : i < 13) {s n k e : Int} {L : Int → Int} (g : jWk m i s n k L e) (hs : ¬s=0) : jq sc 5 jm_X8_nearCode [.ref (jwa i)] (jh m r T) (jP (some (.int (jI (fCode s n L e)))) (jh m r T)) := by
  have gs := g.1.2
  unfold fS at gs
  have hF : (if s = 0 then (-5 : Int) else 0) = 0 := if_neg hs
  have hK : (if s = 0 then (11 : Int) else n) = n := if_neg hs
  have e0 : fCd s n L e 0 = e - 0 := by rw [← hF]; rfl
  refine je_in jb_X8_nearCode rfl (ls := [_, _, _, _, _]) rfl ?_
  refine je_ps jb_X8_nearCode 1 (pc' := 1) (ls' := [_, _, _, _, _]) (st' := [_]) rfl ?_
  refine je_get jb_X8_nearCode rfl (pc' := 4) rfl (by first | exact jh_V hi g | exact jh_V hi (g0.R37 hi _) | exact jh_walk hi) (by rfl) (by rfl) ?_
  refine je_cvP' jb_X8_nearCode rfl (pc' := 7) rfl (jh_VS hi g) (by rfl) (by first | decide | exact Nat.ble_eq_true_of_le (by omega)) (c_X5_isLine hi g.1) (st' := [_]) rfl ?_
  refine je_ifeqb jb_X8_nearCode rfl (t := 15) rfl (pc' := 10) rfl (fun c7 => ?_) (fun c7 => ?_)
  · refine je_ps jb_X8_nearCode 3 (pc' := 18) (ls' := [_, _, _, _, _]) (st' := [_]) rfl ?_
    refine je_get jb_X8_nearCode rfl (pc' := 21) rfl (by first | exact jh_V hi g | exact jh_V hi (g0.R37 hi _) | exact jh_walk hi) (by rfl) (by rfl) ?_
    refine je_cvP' jb_X8_nearCode rfl (pc' := 24) rfl (jh_VS hi g) (by rfl) (by first | decide | exact Nat.ble_eq_true_of_le (by omega)) (c_X5_isLine hi g.1) (st' := [_]) rfl ?_
    refine je_ifeqb jb_X8_nearCode rfl (t := 31) rfl (pc' := 27) rfl (fun c24 => ?_) (fun c24 => ?_)
    · refine je_ps jb_X8_nearCode 1 (pc' := 32) (ls' := [_, _, _, _, _]) (st' := [_]) rfl ?_
      refine je_get jb_X8_nearCode rfl (pc' := 35) rfl (by first | exact jh_V hi g | exact jh_V hi (g0.R37 hi _) | exact jh_walk hi) (by rfl) (by rfl) ?_
      refine je_get jb_X8_nearCode rfl (pc' := 38) rfl (jh_VS hi g) (by rfl) (by rfl) ?_
      refine je_ps jb_X8_nearCode 1 (pc' := 39) (ls' := [_, _, _, _, _]) (st' := [_, _]) rfl ?_
      refine je_isub jb_X8_nearCode rfl (pc' := 40) rfl ?_
      refine je_ps jb_X8_nearCode 2 (pc' := 42) (ls' := [_, _, _, _, _]) (st' := [_]) rfl ?_
      refine je_get jb_X8_nearCode rfl (pc' := 45) rfl (by first | exact jh_V hi g | exact jh_V hi (g0.R37 hi _) | exact jh_walk hi) (by rfl) (by rfl) ?_
      refine je_ps jb_X8_nearCode 1 (pc' := 46) (ls' := [_, _, _, _, _]) (st' := [_, _]) rfl ?_
      refine je_isub jb_X8_nearCode rfl (pc' := 47) rfl ?_
      refine je_ps jb_X8_nearCode 3 (pc' := 51) (ls' := [_, _, _, _, _]) (st' := []) rfl ?_
      refine je_loop (fun (v : Nat) ls σ' => ls = [.ref (jwa i), .int (jI 0), .int (jI (n-1)), .int (jI (fCd s n L e v)), .int (jI (0 + (v : Int)))] ∧ σ' = jh m r T) (Int.toNat n) ⟨by rw [e0, show 0 + ((0 : Nat) : Int) = 0 by omega], rfl⟩ (fun v hv ls σ' gv kv => ?_) (fun ls σ' gv => ?_)
      · obtain ⟨rfl, rfl⟩ := gv
        have gz : fCd s n L e (v + 1) = fCd s n L e v * 5 + fSh s n L (0 + (v : Int)) := by rw [← hF]; rfl
        refine je_ps jb_X8_nearCode 2 (pc' := 54) (ls' := [_, _, _, _, _]) (st' := [_, _]) rfl ?_
        refine je_icmpgt jb_X8_nearCode rfl (t := 74) rfl (pc' := 57) rfl (by first | omega | exact (hM _ _).1 | exact (hM _ _).2) (by first | omega | exact (hM _ _).1 | exact (hM _ _).2) (by first | omega | exact (hM _ _).1 | exact (hM _ _).2) (by first | omega | exact (hM _ _).1 | exact (hM _ _).2) (fun c54 => ?_) (fun c54 => ?_)
        · first | (exfalso; omega) | (cases c54; done) | (exfalso; simp_all; done)
        · refine je_ps jb_X8_nearCode 2 (pc' := 59) (ls' := [_, _, _, _, _]) (st' := [_, _]) rfl ?_
          refine je_imul jb_X8_nearCode rfl (pc' := 60) rfl ?_
          refine je_ps jb_X8_nearCode 2 (pc' := 63) (ls' := [_, _, _, _, _]) (st' := [_, _, _]) rfl ?_
          refine je_cvP' jb_X8_nearCode rfl (pc' := 66) rfl (by first | exact jh_V hi g | exact jh_V hi (g0.R37 hi _) | exact jh_walk hi) (by rfl) (by first | decide | exact Nat.ble_eq_true_of_le (by omega)) (k_shows hi g (by omega)) (st' := [_, _]) rfl ?_
          refine je_iadd jb_X8_nearCode rfl (pc' := 67) rfl ?_
          refine je_ps jb_X8_nearCode 1 (pc' := 68) (ls' := [_, _, _, _, _]) (st' := []) rfl ?_
          refine je_iinc jb_X8_nearCode rfl (pc' := 71) rfl rfl (ls' := [_, _, _, _, _]) rfl ?_
          refine je_ps jb_X8_nearCode 1 (pc' := 51) (ls' := [_, _, _, _, _]) (st' := []) rfl ?_
          refine kv _ _ ⟨by rw [gz, show 0 + ((v + 1 : Nat) : Int) = 0 + (v : Int) + 1 by omega], rfl⟩
      · obtain ⟨rfl, rfl⟩ := gv
        refine je_ps jb_X8_nearCode 2 (pc' := 54) (ls' := [_, _, _, _, _]) (st' := [_, _]) rfl ?_
        refine je_icmpgt jb_X8_nearCode rfl (t := 74) rfl (pc' := 57) rfl (by first | omega | exact (hM _ _).1 | exact (hM _ _).2) (by first | omega | exact (hM _ _).1 | exact (hM _ _).2) (by first | omega | exact (hM _ _).1 | exact (hM _ _).2) (by first | omega | exact (hM _ _).1 | exact (hM _ _).2) (fun c54 => ?_) (fun c54 => ?_)
        · refine je_ps jb_X8_nearCode 1 (pc' := 75) (ls' := [_, _, _, _, _]) (st' := [_]) rfl ?_
          exact je_ret jb_X8_nearCode rfl (by rfl) ⟨by unfold fCode; rw [hK], rfl⟩
        · first | (exfalso; omega) | (cases c54; done) | (exfalso; simp_all; done)
    · first | (exfalso; omega) | (cases c24; done) | (exfalso; simp_all; done)
  · first | (exfalso; omega) | (cases c7; done) | (exfalso; simp_all; done)
theorem k_nearCode {i : Nat} (hi : i < 13) {s n k e : Int} {L : Int → Int} (g : jWk m i s n k L e) : jq sc 5 jm_X8_nearCode [.ref (jwa i)] (jh m r T) (jP (some (.int (jI (fCode s n L e)))) (jh m r T)) := by
  by_cases h : s = 0
  · exact k_nearCode_p hi g h
  · exact k_nearCode_q hi g h
/-- one number more, if it isn't there -/
def fRO (q : (Int → Int) × Int) (x : Int) : (Int → Int) × Int := if fAny (fun p => decide (q.1 (p : Int) = x)) q.2.toNat = true then q else fRA 324 q x
theorem k39_addOnce {q : (Int → Int) × Int} (gq : jQ39 m q) (hf : ∀ p, -2147483648 ≤ q.1 p ∧ q.1 p ≤ 2147483647) {x : Int} (hx : -2147483648 ≤ x ∧ x ≤ 2147483647) : jq sc 2 jm_X3_addOnce [.ref 41, .int (jI x)] (jh m r T) (jP none (jh (jR39 m (fRO q x)) r T)) := by
  have g := jh_row39 (r := r) (T := T) gq
  have gz := g.2.2.2
  refine je_in jb_X3_addOnce rfl (ls := [_, _, _]) rfl ?_
  refine je_ps jb_X3_addOnce 2 (pc' := 2) (ls' := [_, _, _]) (st' := []) rfl ?_
  refine je_loop (fun (v : Nat) ls σ' => ls = [.ref 41, .int (jI x), .int (jI v)] ∧ σ' = jh m r T ∧ ∀ p, p < v → decide (q.1 (p : Int) = x) = false) (q.2.toNat) ⟨rfl, rfl, fun q hq => by omega⟩ (fun v hv ls σ' gv kv => ?_) (fun ls σ' gv => ?_)
  · obtain ⟨rfl, rfl, fv⟩ := gv
    have gr := hf (v : Int)
    refine je_ps jb_X3_addOnce 2 (pc' := 4) (ls' := [_, _, _]) (st' := [_, _]) rfl ?_
    refine je_get jb_X3_addOnce rfl (pc' := 7) rfl (g.1) (by rfl) (by rfl) ?_
    refine je_icmpge jb_X3_addOnce rfl (t := 36) rfl (pc' := 10) rfl (by first | omega | exact (hM _ _).1 | exact (hM _ _).2) (by first | omega | exact (hM _ _).1 | exact (hM _ _).2) (by first | omega | exact (hM _ _).1 | exact (hM _ _).2) (by first | omega | exact (hM _ _).1 | exact (hM _ _).2) (fun c7 => ?_) (fun c7 => ?_)
    · first | (exfalso; omega) | (cases c7; done) | (exfalso; simp_all; done)
    · refine je_ps jb_X3_addOnce 2 (pc' := 12) (ls' := [_, _, _]) (st' := [_, _]) rfl ?_
      refine je_get jb_X3_addOnce rfl (pc' := 15) rfl (g.1) (by rfl) (by rfl) ?_
      refine je_alen jb_X3_addOnce rfl (pc' := 16) rfl (g.2.1) ?_
      refine je_icmpge jb_X3_addOnce rfl (t := 36) rfl (pc' := 19) rfl (by first | omega | exact (hM _ _).1 | exact (hM _ _).2) (by first | omega | exact (hM _ _).1 | exact (hM _ _).2) (by first | omega | exact (hM _ _).1 | exact (hM _ _).2) (by first | omega | exact (hM _ _).1 | exact (hM _ _).2) (fun c16 => ?_) (fun c16 => ?_)
      · first | (exfalso; omega) | (cases c16; done) | (exfalso; simp_all; done)
      · refine je_ps jb_X3_addOnce 1 (pc' := 20) (ls' := [_, _, _]) (st' := [_]) rfl ?_
        refine je_get jb_X3_addOnce rfl (pc' := 23) rfl (g.1) (by rfl) (by rfl) ?_
        refine je_ps jb_X3_addOnce 1 (pc' := 24) (ls' := [_, _, _]) (st' := [_, _]) rfl ?_
        refine je_iald jb_X3_addOnce rfl (pc' := 25) rfl (g.2.1) (by first | omega | exact (hM _ _).1 | exact (hM _ _).2) (by first | omega | exact (hM _ _).1 | exact (hM _ _).2) (by first | omega | exact (hM _ _).1 | exact (hM _ _).2) ?_
        refine je_ps jb_X3_addOnce 1 (pc' := 26) (ls' := [_, _, _]) (st' := [_, _]) rfl ?_
        refine je_icmpne jb_X3_addOnce rfl (t := 30) rfl (pc' := 29) rfl (by first | omega | exact (hM _ _).1 | exact (hM _ _).2) (by first | omega | exact (hM _ _).1 | exact (hM _ _).2) (by first | omega | exact (hM _ _).1 | exact (hM _ _).2) (by first | omega | exact (hM _ _).1 | exact (hM _ _).2) (fun c26 => ?_) (fun c26 => ?_)
        · refine je_iinc jb_X3_addOnce rfl (pc' := 33) rfl rfl (ls' := [_, _, _]) rfl ?_
          refine je_ps jb_X3_addOnce 1 (pc' := 2) (ls' := [_, _, _]) (st' := []) rfl ?_
          refine kv _ _ ⟨rfl, rfl, fun q hq => ?_⟩
          by_cases h : q = v
          · subst h; exact decide_eq_false (by omega)
          · exact fv q (by omega)
        · exact je_ret jb_X3_addOnce rfl (by rfl) ⟨rfl, jh_eq (by rw [fRO, if_pos (fAny_t hv (decide_eq_true (by omega))), jR39_self gq])⟩
  · obtain ⟨rfl, rfl, fv⟩ := gv
    refine je_ps jb_X3_addOnce 2 (pc' := 4) (ls' := [_, _, _]) (st' := [_, _]) rfl ?_
    refine je_get jb_X3_addOnce rfl (pc' := 7) rfl (g.1) (by rfl) (by rfl) ?_
    refine je_icmpge jb_X3_addOnce rfl (t := 36) rfl (pc' := 10) rfl (by first | omega | exact (hM _ _).1 | exact (hM _ _).2) (by first | omega | exact (hM _ _).1 | exact (hM _ _).2) (by first | omega | exact (hM _ _).1 | exact (hM _ _).2) (by first | omega | exact (hM _ _).1 | exact (hM _ _).2) (fun c7 => ?_) (fun c7 => ?_)
    · refine je_ps jb_X3_addOnce 2 (pc' := 38) (ls' := [_, _, _]) (st' := [_, _]) rfl ?_
      refine je_cvP' jb_X3_addOnce rfl (pc' := 41) rfl (g.1) (by rfl) (by first | decide | exact Nat.ble_eq_true_of_le (by omega)) (k39_add gq (by omega)) (st' := [_]) rfl ?_
      refine je_ps jb_X3_addOnce 1 (pc' := 42) (ls' := [_, _, _]) (st' := []) rfl ?_
      exact je_ret jb_X3_addOnce rfl (by rfl) ⟨rfl, jh_eq (by rw [fRO, if_neg (by rw [fAny_f fv]; decide)])⟩
    · first | (exfalso; omega) | (cases c7; done) | (exfalso; simp_all; done)
end C27
