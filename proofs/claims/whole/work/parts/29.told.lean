/-! THE LETTERS TOLD -/
section C29
variable {sc : Nat × (Nat → Int32)} {m : Nat → Int → Int} {r : Nat → Nat → Value} {T : jx_H} {σ : jx_H}
def tL (q : (Int → Int) × Int) (p : Int) : Bool := decide (0 ≤ fLet (fRAt q.1 q.2 p))
def tD (q : (Int → Int) × Int) (p : Int) : Bool := decide (49 ≤ fRAt q.1 q.2 p ∧ fRAt q.1 q.2 p ≤ 57)
def tM (q : (Int → Int) × Int) : Nat → Bool
  | 0 => false
  | p + 1 => tL q (p : Int)
def tB (q : (Int → Int) × Int) (p : Nat) : Bool := !tL q (p : Int) && !(tM q p && tD q (p : Int))
def tStr (q : (Int → Int) × Int) : Int := if fFst (tB q) 0 q.2.toNat < q.2.toNat then (fFst (tB q) 0 q.2.toNat : Int) else if q.2 = 0 then 0 else -1
theorem fRAt_i {f : Int → Int} (z p : Int) (h : ∀ p, 0 ≤ f p ∧ f p ≤ 255) : 0 ≤ fRAt f z p ∧ fRAt f z p ≤ 255 := by
  unfold fRAt
  split
  · exact h p
  · omega
theorem k_firstStranger {q : (Int → Int) × Int} (gq : jQ35 m q) (hf : ∀ p, 0 ≤ q.1 p ∧ q.1 p ≤ 255) : jq sc 3 jm_X11_firstStranger [.ref 0] (jh m r T) (jP (some (.int (jI (tStr q)))) (jh m r T)) := by
  have gz := gq.2.2
  have e1 := gq.2.1
  refine je_in jb_X11_firstStranger rfl (ls := [_, _, _, _]) rfl ?_
  refine je_ps jb_X11_firstStranger 4 (pc' := 4) (ls' := [_, _, _, _]) (st' := []) rfl ?_
  refine je_loop (fun (v : Nat) ls σ' => ∃ x, ls = [.ref 0, .int (jI (jb (tM q v))), .int (jI v), x] ∧ σ' = jh m r T ∧ ∀ p, p < v → tB q p = false) (q.2.toNat) ⟨_, rfl, rfl, fun p hp => by omega⟩ (fun v hv ls σ' gv kv => ?_) (fun ls σ' gv => ?_)
  · obtain ⟨x, rfl, rfl, fv⟩ := gv
    have gr := fRAt_i q.2 (v : Int) hf
    have gl := fLet_c (fRAt q.1 q.2 (v : Int))
    refine je_ps jb_X11_firstStranger 2 (pc' := 6) (ls' := [_, _, _, _]) (st' := [_, _]) rfl ?_
    refine je_get jb_X11_firstStranger rfl (pc' := 9) rfl (jh_at (a := 0) rfl) (by rfl) (by rfl) ?_
    refine je_get jb_X11_firstStranger rfl (pc' := 12) rfl (jh_at (a := 37) rfl) (by rfl) (by rfl) ?_
    refine je_icmpge jb_X11_firstStranger rfl (t := 67) rfl (pc' := 15) rfl (by first | omega | exact (hM _ _).1 | exact (hM _ _).2) (by first | omega | exact (hM _ _).1 | exact (hM _ _).2) (by first | omega | exact (hM _ _).1 | exact (hM _ _).2) (by first | omega | exact (hM _ _).1 | exact (hM _ _).2) (fun c12 => ?_) (fun c12 => ?_)
    · first | (exfalso; omega) | (cases c12; done) | (exfalso; simp_all; done)
    · refine je_ps jb_X11_firstStranger 1 (pc' := 16) (ls' := [_, _, _, _]) (st' := [_]) rfl ?_
      refine je_get jb_X11_firstStranger rfl (pc' := 19) rfl (jh_at (a := 0) rfl) (by rfl) (by rfl) ?_
      refine je_ps jb_X11_firstStranger 1 (pc' := 20) (ls' := [_, _, _, _]) (st' := [_, _]) rfl ?_
      refine je_cvP' jb_X11_firstStranger rfl (pc' := 23) rfl (jh_at (a := 37) rfl) (by rfl) (by first | decide | exact Nat.ble_eq_true_of_le (by omega)) (k35_at gq (by omega)) (st' := [_]) rfl ?_
      refine je_csP' jb_X11_firstStranger rfl (pc' := 26) rfl (by rfl) (by first | decide | exact Nat.ble_eq_true_of_le (by omega)) (c_X11_letterOf (by omega)) (st' := [_]) rfl ?_
      refine je_iflt jb_X11_firstStranger rfl (t := 33) rfl (pc' := 29) rfl (by first | omega | exact (hM _ _).1 | exact (hM _ _).2) (by first | omega | exact (hM _ _).1 | exact (hM _ _).2) (fun c26 => ?_) (fun c26 => ?_)
      · refine je_ps jb_X11_firstStranger 3 (pc' := 36) (ls' := [_, _, _, _]) (st' := [_]) rfl ?_
        refine je_ifne jb_X11_firstStranger rfl (t := 59) rfl (pc' := 39) rfl (by first | omega | exact (hM _ _).1 | exact (hM _ _).2) (by first | omega | exact (hM _ _).1 | exact (hM _ _).2) (fun c36 => ?_) (fun c36 => ?_)
        · first | (exfalso; omega) | (cases c36; done) | (exfalso; simp_all; done)
        · refine je_ps jb_X11_firstStranger 1 (pc' := 40) (ls' := [_, _, _, _]) (st' := [_]) rfl ?_
          refine je_ifeqb jb_X11_firstStranger rfl (t := 57) rfl (pc' := 43) rfl (fun c40 => ?_) (fun c40 => ?_)
          · refine je_ps jb_X11_firstStranger 1 (pc' := 58) (ls' := [_, _, _, _]) (st' := [_]) rfl ?_
            have t1 : tL q (v : Int) = false := decide_eq_false (by omega)
            have ev : tB q v = true := by first | (rw [tB, t1, c40]; rfl) | (rw [tB, t1, c40, show tD q (v : Int) = false from c54]; rfl)
            have ef : fFst (tB q) 0 q.2.toNat = v := fFst_hit (P := tB q) ev _ 0 (by omega) (by omega) (fun p _ hp => fv p hp)
            exact je_ret jb_X11_firstStranger rfl (by rfl) ⟨by unfold tStr; rw [ef, if_pos hv], rfl⟩
          · refine je_ps jb_X11_firstStranger 1 (pc' := 44) (ls' := [_, _, _, _]) (st' := [_]) rfl ?_
            refine je_get jb_X11_firstStranger rfl (pc' := 47) rfl (jh_at (a := 0) rfl) (by rfl) (by rfl) ?_
            refine je_ps jb_X11_firstStranger 1 (pc' := 48) (ls' := [_, _, _, _]) (st' := [_, _]) rfl ?_
            refine je_cvP' jb_X11_firstStranger rfl (pc' := 51) rfl (jh_at (a := 37) rfl) (by rfl) (by first | decide | exact Nat.ble_eq_true_of_le (by omega)) (k35_at gq (by omega)) (st' := [_]) rfl ?_
            refine je_csP' jb_X11_firstStranger rfl (pc' := 54) rfl (by rfl) (by first | decide | exact Nat.ble_eq_true_of_le (by omega)) (c_X11_isDigit (by omega)) (st' := [_]) rfl ?_
            refine je_ifneb jb_X11_firstStranger rfl (t := 59) rfl (pc' := 57) rfl (fun c54 => ?_) (fun c54 => ?_)
            · refine je_ps jb_X11_firstStranger 2 (pc' := 61) (ls' := [_, _, _, _]) (st' := []) rfl ?_
              refine je_iinc jb_X11_firstStranger rfl (pc' := 64) rfl rfl (ls' := [_, _, _, _]) rfl ?_
              refine je_ps jb_X11_firstStranger 1 (pc' := 4) (ls' := [_, _, _, _]) (st' := []) rfl ?_
              have ev : tB q v = false := by first | (have t1 : tL q (v : Int) = true := decide_eq_true (by omega); rw [tB, t1]; rfl) | (have t1 : tL q (v : Int) = false := decide_eq_false (by omega); rw [tB, t1, c40, show tD q (v : Int) = true from c54]; rfl)
              first | rw [show tM q (v + 1) = true from decide_eq_true (by omega)] at kv | rw [show tM q (v + 1) = false from decide_eq_false (by omega)] at kv
              refine kv _ _ ⟨_, rfl, rfl, fun p hp => ?_⟩
              by_cases h : p = v
              · subst h; exact ev
              · exact fv p (by omega)
            · refine je_ps jb_X11_firstStranger 1 (pc' := 58) (ls' := [_, _, _, _]) (st' := [_]) rfl ?_
              have t1 : tL q (v : Int) = false := decide_eq_false (by omega)
              have ev : tB q v = true := by first | (rw [tB, t1, c40]; rfl) | (rw [tB, t1, c40, show tD q (v : Int) = false from c54]; rfl)
              have ef : fFst (tB q) 0 q.2.toNat = v := fFst_hit (P := tB q) ev _ 0 (by omega) (by omega) (fun p _ hp => fv p hp)
              exact je_ret jb_X11_firstStranger rfl (by rfl) ⟨by unfold tStr; rw [ef, if_pos hv], rfl⟩
      · refine je_ps jb_X11_firstStranger 4 (pc' := 36) (ls' := [_, _, _, _]) (st' := [_]) rfl ?_
        refine je_ifne jb_X11_firstStranger rfl (t := 59) rfl (pc' := 39) rfl (by first | omega | exact (hM _ _).1 | exact (hM _ _).2) (by first | omega | exact (hM _ _).1 | exact (hM _ _).2) (fun c36 => ?_) (fun c36 => ?_)
        · refine je_ps jb_X11_firstStranger 2 (pc' := 61) (ls' := [_, _, _, _]) (st' := []) rfl ?_
          refine je_iinc jb_X11_firstStranger rfl (pc' := 64) rfl rfl (ls' := [_, _, _, _]) rfl ?_
          refine je_ps jb_X11_firstStranger 1 (pc' := 4) (ls' := [_, _, _, _]) (st' := []) rfl ?_
          have ev : tB q v = false := by first | (have t1 : tL q (v : Int) = true := decide_eq_true (by omega); rw [tB, t1]; rfl) | (have t1 : tL q (v : Int) = false := decide_eq_false (by omega); rw [tB, t1, c40, show tD q (v : Int) = true from c54]; rfl)
          first | rw [show tM q (v + 1) = true from decide_eq_true (by omega)] at kv | rw [show tM q (v + 1) = false from decide_eq_false (by omega)] at kv
          refine kv _ _ ⟨_, rfl, rfl, fun p hp => ?_⟩
          by_cases h : p = v
          · subst h; exact ev
          · exact fv p (by omega)
        · first | (exfalso; omega) | (cases c36; done) | (exfalso; simp_all; done)
  · obtain ⟨x, rfl, rfl, fv⟩ := gv
    refine je_ps jb_X11_firstStranger 2 (pc' := 6) (ls' := [_, _, _, _]) (st' := [_, _]) rfl ?_
    refine je_get jb_X11_firstStranger rfl (pc' := 9) rfl (jh_at (a := 0) rfl) (by rfl) (by rfl) ?_
    refine je_get jb_X11_firstStranger rfl (pc' := 12) rfl (jh_at (a := 37) rfl) (by rfl) (by rfl) ?_
    refine je_icmpge jb_X11_firstStranger rfl (t := 67) rfl (pc' := 15) rfl (by first | omega | exact (hM _ _).1 | exact (hM _ _).2) (by first | omega | exact (hM _ _).1 | exact (hM _ _).2) (by first | omega | exact (hM _ _).1 | exact (hM _ _).2) (by first | omega | exact (hM _ _).1 | exact (hM _ _).2) (fun c12 => ?_) (fun c12 => ?_)
    · refine je_ps jb_X11_firstStranger 1 (pc' := 68) (ls' := [_, _, _, _]) (st' := [_]) rfl ?_
      refine je_get jb_X11_firstStranger rfl (pc' := 71) rfl (jh_at (a := 0) rfl) (by rfl) (by rfl) ?_
      refine je_get jb_X11_firstStranger rfl (pc' := 74) rfl (jh_at (a := 37) rfl) (by rfl) (by rfl) ?_
      refine je_ifne jb_X11_firstStranger rfl (t := 81) rfl (pc' := 77) rfl (by first | omega | exact (hM _ _).1 | exact (hM _ _).2) (by first | omega | exact (hM _ _).1 | exact (hM _ _).2) (fun c74 => ?_) (fun c74 => ?_)
      · refine je_ps jb_X11_firstStranger 1 (pc' := 82) (ls' := [_, _, _, _]) (st' := [_]) rfl ?_
        have ef : fFst (tB q) 0 q.2.toNat = 0 + q.2.toNat := fFst_none (P := tB q) _ 0 (fun p _ hp => fv p (by omega))
        exact je_ret jb_X11_firstStranger rfl (by rfl) ⟨by unfold tStr; rw [ef, if_neg (by omega)]; first | (rw [if_pos (by omega)]; done) | (rw [if_neg (by omega)]; done), rfl⟩
      · refine je_ps jb_X11_firstStranger 2 (pc' := 82) (ls' := [_, _, _, _]) (st' := [_]) rfl ?_
        have ef : fFst (tB q) 0 q.2.toNat = 0 + q.2.toNat := fFst_none (P := tB q) _ 0 (fun p _ hp => fv p (by omega))
        exact je_ret jb_X11_firstStranger rfl (by rfl) ⟨by unfold tStr; rw [ef, if_neg (by omega)]; first | (rw [if_pos (by omega)]; done) | (rw [if_neg (by omega)]; done), rfl⟩
    · first | (exfalso; omega) | (cases c12; done) | (exfalso; simp_all; done)
end C29
