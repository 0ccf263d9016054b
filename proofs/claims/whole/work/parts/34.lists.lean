/-! LISTS OF NUMBERS -/
section C34
variable {sc : Nat × (Nat → Int32)} {m : Nat → Int → Int} {r : Nat → Nat → Value} {T : jx_H} {σ : jx_H}
theorem jlt3 {P : Nat → Prop} (h0 : P 0) (h1 : P 1) (h2 : P 2) {i : Nat} (hi : i < 3) : P i := by
  rcases (by omega : i = 0 ∨ i = 1 ∨ i = 2) with h | h | h <;> subst h <;> assumption
theorem listAt_t {a l : Nat} (hl : l < 3) (hr : r 43 l = .ref a) : jq sc 2 jm_X11_listAt [.ref 0, .int (jI (l : Int))] (jh m r T) (jP (some (.ref a)) (jh m r T)) := by
  have h1 : decide (0 ≤ (l : Int) ∧ (l : Int) < 3) = true := decide_eq_true (by omega)
  refine je_in jb_X11_listAt rfl (ls := [_, _]) rfl ?_
  refine je_ps jb_X11_listAt 2 (pc' := 2) (ls' := [_, _]) (st' := [_, _]) rfl ?_
  refine je_cvP' jb_X11_listAt rfl (pc' := 5) rfl (jh_at (a := 0) rfl) (by rfl) (by first | decide | exact Nat.ble_eq_true_of_le (by omega)) (c_X11_isList (by omega)) (st' := [_]) rfl ?_
  rw [h1]
  refine je_ifeqb jb_X11_listAt rfl (t := 17) rfl (pc' := 8) rfl (fun c5 => ?_) (fun c5 => ?_)
  · exact absurd c5 (by decide)
  · refine je_ps jb_X11_listAt 1 (pc' := 9) (ls' := [_, _]) (st' := [_]) rfl ?_
    refine je_get jb_X11_listAt rfl (pc' := 12) rfl (jh_at (a := 0) rfl) (by rfl) (by rfl) ?_
    refine je_ps jb_X11_listAt 1 (pc' := 13) (ls' := [_, _]) (st' := [_, _]) rfl ?_
    refine je_aaln jb_X11_listAt rfl (pc' := 14) rfl (jh_at (a := 43) rfl) rfl (n := 3) rfl (by first | omega | exact (hM _ _).1 | exact (hM _ _).2) (by first | omega | exact (hM _ _).1 | exact (hM _ _).2) (by first | omega | exact (hM _ _).1 | exact (hM _ _).2) ((jlt3 (P := fun i => (_ : List Value)[((i : Int)).toNat]? = some (r 43 i)) rfl rfl rfl hl).trans (congrArg some hr)) ?_
    refine je_ps jb_X11_listAt 1 (pc' := 18) (ls' := [_, _]) (st' := [_]) rfl ?_
    exact je_ret jb_X11_listAt rfl (by rfl) ⟨by (first | rfl | (refine jv_t ?_; simp only [decide_eq_true_eq]; omega) | (refine jv_f ?_; simp only [decide_eq_false_iff_not]; omega) | (refine jv_I ?_; omega)), by (first | rfl | (refine jv_t ?_; simp only [decide_eq_true_eq]; omega) | (refine jv_f ?_; simp only [decide_eq_false_iff_not]; omega) | (refine jv_I ?_; omega))⟩
theorem listAt_n {l : Nat} (hl : l < 3) (hr : r 43 l = .null) : jq sc 2 jm_X11_listAt [.ref 0, .int (jI (l : Int))] (jh m r T) (jP (some .null) (jh m r T)) := by
  have h1 : decide (0 ≤ (l : Int) ∧ (l : Int) < 3) = true := decide_eq_true (by omega)
  refine je_in jb_X11_listAt rfl (ls := [_, _]) rfl ?_
  refine je_ps jb_X11_listAt 2 (pc' := 2) (ls' := [_, _]) (st' := [_, _]) rfl ?_
  refine je_cvP' jb_X11_listAt rfl (pc' := 5) rfl (jh_at (a := 0) rfl) (by rfl) (by first | decide | exact Nat.ble_eq_true_of_le (by omega)) (c_X11_isList (by omega)) (st' := [_]) rfl ?_
  rw [h1]
  refine je_ifeqb jb_X11_listAt rfl (t := 17) rfl (pc' := 8) rfl (fun c5 => ?_) (fun c5 => ?_)
  · exact absurd c5 (by decide)
  · refine je_ps jb_X11_listAt 1 (pc' := 9) (ls' := [_, _]) (st' := [_]) rfl ?_
    refine je_get jb_X11_listAt rfl (pc' := 12) rfl (jh_at (a := 0) rfl) (by rfl) (by rfl) ?_
    refine je_ps jb_X11_listAt 1 (pc' := 13) (ls' := [_, _]) (st' := [_, _]) rfl ?_
    refine je_aaln jb_X11_listAt rfl (pc' := 14) rfl (jh_at (a := 43) rfl) rfl (n := 3) rfl (by first | omega | exact (hM _ _).1 | exact (hM _ _).2) (by first | omega | exact (hM _ _).1 | exact (hM _ _).2) (by first | omega | exact (hM _ _).1 | exact (hM _ _).2) ((jlt3 (P := fun i => (_ : List Value)[((i : Int)).toNat]? = some (r 43 i)) rfl rfl rfl hl).trans (congrArg some hr)) ?_
    refine je_ps jb_X11_listAt 1 (pc' := 18) (ls' := [_, _]) (st' := [_]) rfl ?_
    exact je_ret jb_X11_listAt rfl (by rfl) ⟨by (first | rfl | (refine jv_t ?_; simp only [decide_eq_true_eq]; omega) | (refine jv_f ?_; simp only [decide_eq_false_iff_not]; omega) | (refine jv_I ?_; omega)), by (first | rfl | (refine jv_t ?_; simp only [decide_eq_true_eq]; omega) | (refine jv_f ?_; simp only [decide_eq_false_iff_not]; omega) | (refine jv_I ?_; omega))⟩
/-- a list's row lies in the tail -/
def jTr (T : jx_H) (t u : Nat) (f : Int → Int) (z : Int) : Prop := T[t]? = some (3, [.ref (62 + u), .int (jI z)]) ∧ T[u]? = some (jA 40 f) ∧ t ≠ u ∧ 0 ≤ z ∧ z ≤ 40
theorem jTr.rw {t u : Nat} {f : Int → Int} {z : Int} (g : jTr T t u f z) : jRw (jh m r T) (62 + t) (62 + u) 40 f z :=
  ⟨by rw [jh_tail]; exact g.1, by rw [jh_tail]; exact g.2.1, by have := g.2.2.1; omega, g.2.2.2.1, g.2.2.2.2, by decide⟩
def jTs (T : jx_H) (t u : Nat) (f : Int → Int) (z : Int) : jx_H := (T.set u (jA 40 f)).set t (3, [.ref (62 + u), .int (jI z)])
theorem jTs_s (t u : Nat) (f : Int → Int) (z : Int) : jRs (jh m r T) (62 + t) (62 + u) 40 f z = jh m r (jTs T t u f z) := by
  unfold jRs jTs
  rw [jh_sett, jh_sett]
def fBT (n k : Int) (f : Int → Int) (z : Int) : Bool := decide (z ≤ n) && fAll (fun p => decide (0 ≤ fRAt f z (p : Int) ∧ fRAt f z (p : Int) < k)) z.toNat
theorem k_becomeTold {i : Nat} (hi : i < 13) (zi : jZ m i) {s n k e z : Int} {f : Int → Int} {t u : Nat} (gi : jStr m i s n k) (gT : jTr T t u f z) (hf : ∀ p, -2147483648 ≤ f p ∧ f p ≤ 2147483647) (he : -2147483648 ≤ e ∧ e ≤ 2147483647) : jq sc 3 jm_X8_becomeTold [.ref (jwa i), .ref (62 + t), .int (jI e)] (jh m r T) (jP (some (.int (jI (jb (fBT n k f z))))) (jh (if fBT n k f z = true then jW m i (fRAt f z) e else m) r T)) := by
  have gs := gi.2
  have gz := gT.2.2.2
  unfold fS at gs
  obtain ⟨⟨gi1, gi2, gi3⟩, gi4⟩ := gi
  have hr : ∀ p : Int, -2147483648 ≤ fRAt f z p ∧ fRAt f z p ≤ 2147483647 := fun p => by unfold fRAt; split; exact hf p; omega
  refine je_in jb_X8_becomeTold rfl (ls := [_, _, _, _]) rfl ?_
  refine je_ps jb_X8_becomeTold 1 (pc' := 1) (ls' := [_, _, _, _]) (st' := [_]) rfl ?_
  refine je_get jb_X8_becomeTold rfl (pc' := 4) rfl ((jTr.rw gT).1) (by rfl) (by rfl) ?_
  refine je_ps jb_X8_becomeTold 1 (pc' := 5) (ls' := [_, _, _, _]) (st' := [_, _]) rfl ?_
  refine je_get jb_X8_becomeTold rfl (pc' := 8) rfl (jh_walk hi) (by rfl) (by rfl) ?_
  refine je_get jb_X8_becomeTold rfl (pc' := 11) rfl (jh_str hi) (by rfl) (by rfl) ?_
  refine je_icmple jb_X8_becomeTold rfl (t := 16) rfl (pc' := 14) rfl (by first | omega | exact (hM _ _).1 | exact (hM _ _).2) (by first | omega | exact (hM _ _).1 | exact (hM _ _).2) (by first | omega | exact (hM _ _).1 | exact (hM _ _).2) (by first | omega | exact (hM _ _).1 | exact (hM _ _).2) (fun c11 => ?_) (fun c11 => ?_)
  · refine je_ps jb_X8_becomeTold 2 (pc' := 18) (ls' := [_, _, _, _]) (st' := []) rfl ?_
    refine je_loop (fun (v : Nat) ls σ' => ls = [.ref (jwa i), .ref (62 + t), .int (jI e), .int (jI v)] ∧ σ' = jh m r T ∧ ∀ p : Nat, p < v → decide (0 ≤ fRAt f z (p : Int) ∧ fRAt f z (p : Int) < k) = true) (z.toNat) ⟨rfl, rfl, fun p hp => by omega⟩ (fun v hv ls σ' gv kv => ?_) (fun ls σ' gv => ?_)
    · obtain ⟨rfl, rfl, fv⟩ := gv
      have hv1 := hr (v : Int)
      refine je_ps jb_X8_becomeTold 2 (pc' := 20) (ls' := [_, _, _, _]) (st' := [_, _]) rfl ?_
      refine je_get jb_X8_becomeTold rfl (pc' := 23) rfl ((jTr.rw gT).1) (by rfl) (by rfl) ?_
      refine je_icmpge jb_X8_becomeTold rfl (t := 57) rfl (pc' := 26) rfl (by first | omega | exact (hM _ _).1 | exact (hM _ _).2) (by first | omega | exact (hM _ _).1 | exact (hM _ _).2) (by first | omega | exact (hM _ _).1 | exact (hM _ _).2) (by first | omega | exact (hM _ _).1 | exact (hM _ _).2) (fun c23 => ?_) (fun c23 => ?_)
      · first | (exfalso; omega) | (cases c23; done) | (exfalso; simp_all; done)
      · refine je_ps jb_X8_becomeTold 2 (pc' := 28) (ls' := [_, _, _, _]) (st' := [_, _]) rfl ?_
        refine je_cvP' jb_X8_becomeTold rfl (pc' := 31) rfl ((jTr.rw gT).1) (by rfl) (by first | decide | exact Nat.ble_eq_true_of_le (by omega)) (k_rat (jTr.rw gT) (by omega)) (st' := [_]) rfl ?_
        refine je_iflt jb_X8_becomeTold rfl (t := 49) rfl (pc' := 34) rfl (by first | omega | exact (hM _ _).1 | exact (hM _ _).2) (by first | omega | exact (hM _ _).1 | exact (hM _ _).2) (fun c31 => ?_) (fun c31 => ?_)
        · refine je_ps jb_X8_becomeTold 1 (pc' := 50) (ls' := [_, _, _, _]) (st' := [_]) rfl ?_
          have eb : fBT n k f z = false := by unfold fBT; rw [fAll_f hv (decide_eq_false (by omega)), Bool.and_false]
          rw [eb]
          exact je_ret jb_X8_becomeTold rfl (by rfl) ⟨rfl, rfl⟩
        · refine je_ps jb_X8_becomeTold 2 (pc' := 36) (ls' := [_, _, _, _]) (st' := [_, _]) rfl ?_
          refine je_cvP' jb_X8_becomeTold rfl (pc' := 39) rfl ((jTr.rw gT).1) (by rfl) (by first | decide | exact Nat.ble_eq_true_of_le (by omega)) (k_rat (jTr.rw gT) (by omega)) (st' := [_]) rfl ?_
          refine je_ps jb_X8_becomeTold 1 (pc' := 40) (ls' := [_, _, _, _]) (st' := [_, _]) rfl ?_
          refine je_get jb_X8_becomeTold rfl (pc' := 43) rfl (jh_walk hi) (by rfl) (by rfl) ?_
          refine je_get jb_X8_becomeTold rfl (pc' := 46) rfl (jh_str hi) (by rfl) (by rfl) ?_
          refine je_icmplt jb_X8_becomeTold rfl (t := 51) rfl (pc' := 49) rfl (by first | omega | exact (hM _ _).1 | exact (hM _ _).2) (by first | omega | exact (hM _ _).1 | exact (hM _ _).2) (by first | omega | exact (hM _ _).1 | exact (hM _ _).2) (by first | omega | exact (hM _ _).1 | exact (hM _ _).2) (fun c46 => ?_) (fun c46 => ?_)
          · refine je_iinc jb_X8_becomeTold rfl (pc' := 54) rfl rfl (ls' := [_, _, _, _]) rfl ?_
            refine je_ps jb_X8_becomeTold 1 (pc' := 18) (ls' := [_, _, _, _]) (st' := []) rfl ?_
            refine kv _ _ ⟨rfl, rfl, fun p hp => ?_⟩
            by_cases h : p = v
            · subst h; exact decide_eq_true (by omega)
            · exact fv p (by omega)
          · refine je_ps jb_X8_becomeTold 1 (pc' := 50) (ls' := [_, _, _, _]) (st' := [_]) rfl ?_
            have eb : fBT n k f z = false := by unfold fBT; rw [fAll_f hv (decide_eq_false (by omega)), Bool.and_false]
            rw [eb]
            exact je_ret jb_X8_becomeTold rfl (by rfl) ⟨rfl, rfl⟩
    · obtain ⟨rfl, rfl, fv⟩ := gv
      refine je_ps jb_X8_becomeTold 2 (pc' := 20) (ls' := [_, _, _, _]) (st' := [_, _]) rfl ?_
      refine je_get jb_X8_becomeTold rfl (pc' := 23) rfl ((jTr.rw gT).1) (by rfl) (by rfl) ?_
      refine je_icmpge jb_X8_becomeTold rfl (t := 57) rfl (pc' := 26) rfl (by first | omega | exact (hM _ _).1 | exact (hM _ _).2) (by first | omega | exact (hM _ _).1 | exact (hM _ _).2) (by first | omega | exact (hM _ _).1 | exact (hM _ _).2) (by first | omega | exact (hM _ _).1 | exact (hM _ _).2) (fun c23 => ?_) (fun c23 => ?_)
      · refine je_ps jb_X8_becomeTold 2 (pc' := 59) (ls' := [_, _, _, _]) (st' := []) rfl ?_
        refine je_loop (fun (w : Nat) ls σ' => ls = [.ref (jwa i), .ref (62 + t), .int (jI e), .int (jI w)] ∧ σ' = jh (jW m i (jF (m (jwl i)) (fRAt f z) w) (m (jwa i) 2)) r T) (25) ⟨rfl, jh_eq (by rw [show ((0 : Nat) : Int) = 0 from rfl, jF_0, jW_0 hi])⟩ (fun w hw ls σ' gw kw => ?_) (fun ls σ' gw => ?_)
        · obtain ⟨rfl, rfl⟩ := gw
          refine je_ps jb_X8_becomeTold 2 (pc' := 61) (ls' := [_, _, _, _]) (st' := [_, _]) rfl ?_
          refine je_get jb_X8_becomeTold rfl (pc' := 64) rfl (jh_walk hi) (by rfl) (by rfl) ?_
          refine je_alen jb_X8_becomeTold rfl (pc' := 65) rfl (jh_lamps hi) ?_
          refine je_icmpge jb_X8_becomeTold rfl (t := 85) rfl (pc' := 68) rfl (by first | omega | exact (hM _ _).1 | exact (hM _ _).2) (by first | omega | exact (hM _ _).1 | exact (hM _ _).2) (by first | omega | exact (hM _ _).1 | exact (hM _ _).2) (by first | omega | exact (hM _ _).1 | exact (hM _ _).2) (fun c65 => ?_) (fun c65 => ?_)
          · first | (exfalso; omega) | (cases c65; done) | (exfalso; simp_all; done)
          · refine je_ps jb_X8_becomeTold 1 (pc' := 69) (ls' := [_, _, _, _]) (st' := [_]) rfl ?_
            refine je_get jb_X8_becomeTold rfl (pc' := 72) rfl (jh_walk hi) (by rfl) (by rfl) ?_
            refine je_ps jb_X8_becomeTold 3 (pc' := 75) (ls' := [_, _, _, _]) (st' := [_, _, _, _]) rfl ?_
            refine je_cvP' jb_X8_becomeTold rfl (pc' := 78) rfl ((jTr.rw gT).1) (by rfl) (by first | decide | exact Nat.ble_eq_true_of_le (by omega)) (k_rat (jTr.rw gT) (by omega)) (st' := [_, _, _]) rfl ?_
            refine je_iastI jb_X8_becomeTold rfl (pc' := 79) rfl (jwl_lt hi) (fun _ => jc_lamps hi _ _) (by first | omega | exact (hM _ _).1 | exact (hM _ _).2) (by first | omega | exact (hM _ _).1 | exact (hM _ _).2) (by first | omega | exact (hM _ _).1 | exact (hM _ _).2) ?_
            refine je_iinc jb_X8_becomeTold rfl (pc' := 82) rfl rfl (ls' := [_, _, _, _]) rfl ?_
            refine je_ps jb_X8_becomeTold 1 (pc' := 59) (ls' := [_, _, _, _]) (st' := []) rfl ?_
            exact kw _ _ ⟨rfl, jh_eq (by rw [jW_L hi, jW_l hi, jF_s _ (fRAt f z) _ (by omega)]; rfl)⟩
        · obtain ⟨rfl, rfl⟩ := gw
          refine je_ps jb_X8_becomeTold 2 (pc' := 61) (ls' := [_, _, _, _]) (st' := [_, _]) rfl ?_
          refine je_get jb_X8_becomeTold rfl (pc' := 64) rfl (jh_walk hi) (by rfl) (by rfl) ?_
          refine je_alen jb_X8_becomeTold rfl (pc' := 65) rfl (jh_lamps hi) ?_
          refine je_icmpge jb_X8_becomeTold rfl (t := 85) rfl (pc' := 68) rfl (by first | omega | exact (hM _ _).1 | exact (hM _ _).2) (by first | omega | exact (hM _ _).1 | exact (hM _ _).2) (by first | omega | exact (hM _ _).1 | exact (hM _ _).2) (by first | omega | exact (hM _ _).1 | exact (hM _ _).2) (fun c65 => ?_) (fun c65 => ?_)
          · refine je_ps jb_X8_becomeTold 2 (pc' := 87) (ls' := [_, _, _, _]) (st' := [_, _]) rfl ?_
            refine je_pute jb_X8_becomeTold rfl (pc' := 90) rfl hi (by rfl) (by rfl) ?_
            refine je_ps jb_X8_becomeTold 1 (pc' := 91) (ls' := [_, _, _, _]) (st' := [_]) rfl ?_
            have hz : z ≤ 25 := by omega
            have eb : fBT n k f z = true := by unfold fBT; rw [fAll_t fv, decide_eq_true (by omega)]; rfl
            rw [eb]
            exact je_ret jb_X8_becomeTold rfl (by rfl) ⟨rfl, jh_eq (by rw [jW_a, if_pos rfl, show ((25 : Nat) : Int) = 25 from rfl, jF_Z zi (fun p hp => by unfold fRAt; rw [if_neg (by omega)])])⟩
          · first | (exfalso; omega) | (cases c65; done) | (exfalso; simp_all; done)
      · first | (exfalso; omega) | (cases c23; done) | (exfalso; simp_all; done)
  · refine je_ps jb_X8_becomeTold 1 (pc' := 15) (ls' := [_, _, _, _]) (st' := [_]) rfl ?_
    have eb : fBT n k f z = false := by unfold fBT; rw [decide_eq_false (by omega)]; rfl
    rw [eb]
    exact je_ret jb_X8_becomeTold rfl (by rfl) ⟨rfl, rfl⟩
end C34
