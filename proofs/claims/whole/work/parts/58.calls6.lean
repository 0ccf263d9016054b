/-! CALLS of the class: helpers -/
section C58
variable {sc : Nat × (Nat → Int32)} {m : Nat → Int → Int} {r : Nat → Nat → Value} {T : jx_H} {σ : jx_H}
theorem fRAl_rep {N : Nat} : ∀ (l : List Int) (q : wT) (acc : List Int), Rep q acc → acc.length + l.length ≤ N → Rep (fRAl N q l) (acc ++ l)
  | [], q, acc, R, _ => by rw [List.append_nil]; exact R
  | x :: l, q, acc, R, h => by
    rw [List.length_cons] at h
    have e := R.1
    have e1 : fRA N q x = (ju q.1 q.2 x, q.2 + 1) := if_pos (by omega)
    have := fRAl_rep (N := N) l (fRA N q x) (acc ++ [x]) (by rw [e1]; exact R.add x) (by rw [List.length_append, List.length_singleton]; omega)
    rw [List.append_assoc] at this
    exact this
theorem fRAl_b {N : Nat} : ∀ (l : List Int) (q : wT), qB q → (∀ x ∈ l, -2147483648 ≤ x ∧ x ≤ 2147483647) → qB (fRAl N q l)
  | [], _, h, _ => h
  | x :: l, q, h, hl => by
    refine fRAl_b l (fRA N q x) ?_ (fun y hy => hl y (List.mem_cons_of_mem _ hy))
    unfold fRA
    split
    · intro p
      show -2147483648 ≤ ju q.1 q.2 x p ∧ ju q.1 q.2 x p ≤ 2147483647
      unfold ju
      split
      · exact hl x List.mem_cons_self
      · exact h p
    · exact h
theorem how_rep {f : Int → Int} {z x : Int} {l : List Int} (R : Rep (f, z) l) : fHow f z x = ((l.countP (fun a => a == x) : Nat) : Int) := by
  have e : z = (l.length : Int) := R.1
  have key : ∀ v : Nat, v ≤ l.length → fSum (fun p => if fRAt f z p = x then 1 else 0) v = (((l.take v).countP (fun a => a == x) : Nat) : Int) := by
    intro v
    induction v with
    | zero => intro _; rfl
    | succ v ih =>
      intro hv
      have h1 := R.2 v (by omega)
      have h2 : fRAt f z (v : Int) = f (v : Int) := if_pos (by omega)
      show fSum (fun p => if fRAt f z p = x then 1 else 0) v + (if fRAt f z (v : Int) = x then 1 else 0) = _
      rw [ih (by omega), List.take_succ, h1, h2]
      show _ = (((l.take v ++ [f (v : Int)]).countP (fun a => a == x) : Nat) : Int)
      rw [List.countP_append]
      by_cases c : f (v : Int) = x
      · rw [if_pos c, c]
        simp
      · rw [if_neg c]
        simp [c]
  have := key l.length (Nat.le_refl _)
  rw [List.take_length] at this
  unfold fHow
  rw [show z.toNat = l.length by omega]
  exact this
def hLen (k f : Int) : Int := ((hSp k f).length : Int)
def hMov (k f : Int) : Int := (((hSp k f).countP (fun a => a == 2) : Nat) : Int) - (((hSp k f).countP (fun a => a == 3) : Nat) : Int)
theorem hSp_fin : ∀ k : Nat, k < 6 → ∀ f : Nat, f < 10 → (hSp (k : Int) (f : Int)).length ≤ 24 ∧ ∀ x ∈ hSp (k : Int) (f : Int), 0 ≤ x ∧ x ≤ 3 := by decide +kernel
theorem hSp_i {k f : Int} (hk : 0 ≤ k ∧ k ≤ 5) (hf : 0 ≤ f ∧ f ≤ 9) : (hSp k f).length ≤ 24 ∧ ∀ x ∈ hSp k f, 0 ≤ x ∧ x ≤ 3 := by
  obtain ⟨k', rfl⟩ := Int.eq_ofNat_of_zero_le hk.1
  obtain ⟨f', rfl⟩ := Int.eq_ofNat_of_zero_le hf.1
  exact hSp_fin k' (by omega) f' (by omega)
theorem jh_tl {u : Nat} {c : jx_C} (h : T[u]? = some c) : (jh m r T)[62 + u]? = some c := by rw [jh_tail]; exact h
theorem k37_spell_6 {q : wT} (gq : jQ37 m q) {u : Nat} {fig : Int} {l : List Int} (hl : sp6 fig = l) (gT : T[u]? = some (6, [.int (jI fig)])) (hf : 0 ≤ fig ∧ fig ≤ 9) : jq sc 3 jm_X6_spell [.ref (62 + u), .ref 39] (jh m r T) (jP none (jh (jR37 m (fRAl 110 q l)) r T)) := by
  subst hl
  have := (show jq sc 3 jm_X6_spell [.ref (62 + u), .ref 39] (jh m r T) (jP none (jRs (jh m r T) 39 40 110 (fRAl 110 (q.1, q.2) (sp6 fig)).1 (fRAl 110 (q.1, q.2) (sp6 fig)).2)) from by first | exact k6_spell_6 (jh_row37 gq) (jh_tl gT) hf | exact k6_spell_6 (jh_row37 gq) (jh_tl gT) (by omega) (by omega) hf)
  rwa [jh_rs37] at this
theorem k37_spell_9 {q : wT} (gq : jQ37 m q) {u : Nat} {fig : Int} {l : List Int} (hl : sp9 fig = l) (gT : T[u]? = some (9, [.int (jI fig)])) (hf : 0 ≤ fig ∧ fig ≤ 9) : jq sc 4 jm_X9_spell [.ref (62 + u), .ref 39] (jh m r T) (jP none (jh (jR37 m (fRAl 110 q l)) r T)) := by
  subst hl
  have := (show jq sc 4 jm_X9_spell [.ref (62 + u), .ref 39] (jh m r T) (jP none (jRs (jh m r T) 39 40 110 (fRAl 110 (q.1, q.2) (sp9 fig)).1 (fRAl 110 (q.1, q.2) (sp9 fig)).2)) from by first | exact k9_spell_9 (jh_row37 gq) (jh_tl gT) hf | exact k9_spell_9 (jh_row37 gq) (jh_tl gT) (by omega) (by omega) hf)
  rwa [jh_rs37] at this
theorem k37_spell_0 {q : wT} (gq : jQ37 m q) {u : Nat} {fig : Int} {l : List Int} (hl : sp0 fig = l) (gT : T[u]? = some (0, [.int (jI fig)])) (hf : 0 ≤ fig ∧ fig ≤ 9) : jq sc 4 jm_X0_spell [.ref (62 + u), .ref 39] (jh m r T) (jP none (jh (jR37 m (fRAl 110 q l)) r T)) := by
  subst hl
  have := (show jq sc 4 jm_X0_spell [.ref (62 + u), .ref 39] (jh m r T) (jP none (jRs (jh m r T) 39 40 110 (fRAl 110 (q.1, q.2) (sp0 fig)).1 (fRAl 110 (q.1, q.2) (sp0 fig)).2)) from by first | exact k0_spell_0 (jh_row37 gq) (jh_tl gT) hf | exact k0_spell_0 (jh_row37 gq) (jh_tl gT) (by omega) (by omega) hf)
  rwa [jh_rs37] at this
theorem k37_spell_7 {q : wT} (gq : jQ37 m q) {u : Nat} {fig : Int} {l : List Int} (hl : sp7 fig = l) (gT : T[u]? = some (7, [.int (jI fig)])) (hf : 0 ≤ fig ∧ fig ≤ 9) : jq sc 5 jm_X7_spell [.ref (62 + u), .ref 39] (jh m r T) (jP none (jh (jR37 m (fRAl 110 q l)) r T)) := by
  subst hl
  have := (show jq sc 5 jm_X7_spell [.ref (62 + u), .ref 39] (jh m r T) (jP none (jRs (jh m r T) 39 40 110 (fRAl 110 (q.1, q.2) (sp7 fig)).1 (fRAl 110 (q.1, q.2) (sp7 fig)).2)) from by first | exact k7_spell_7 (jh_row37 gq) (jh_tl gT) hf | exact k7_spell_7 (jh_row37 gq) (jh_tl gT) (by omega) (by omega) hf)
  rwa [jh_rs37] at this
theorem k37_spell_1 {q : wT} (gq : jQ37 m q) {u : Nat} {fig : Int} {l : List Int} (hl : sp1 fig = l) (gT : T[u]? = some (1, [.int (jI fig)])) (hf : 0 ≤ fig ∧ fig ≤ 9) : jq sc 5 jm_X1_spell [.ref (62 + u), .ref 39] (jh m r T) (jP none (jh (jR37 m (fRAl 110 q l)) r T)) := by
  subst hl
  have := (show jq sc 5 jm_X1_spell [.ref (62 + u), .ref 39] (jh m r T) (jP none (jRs (jh m r T) 39 40 110 (fRAl 110 (q.1, q.2) (sp1 fig)).1 (fRAl 110 (q.1, q.2) (sp1 fig)).2)) from by first | exact k1_spell_1 (jh_row37 gq) (jh_tl gT) hf | exact k1_spell_1 (jh_row37 gq) (jh_tl gT) (by omega) (by omega) hf)
  rwa [jh_rs37] at this
theorem k37_spell_2 {q : wT} (gq : jQ37 m q) {u : Nat} {fig : Int} {l : List Int} (hl : sp2 fig = l) (gT : T[u]? = some (2, [.int (jI fig)])) (hf : 0 ≤ fig ∧ fig ≤ 9) : jq sc 5 jm_X2_spell [.ref (62 + u), .ref 39] (jh m r T) (jP none (jh (jR37 m (fRAl 110 q l)) r T)) := by
  subst hl
  have := (show jq sc 5 jm_X2_spell [.ref (62 + u), .ref 39] (jh m r T) (jP none (jRs (jh m r T) 39 40 110 (fRAl 110 (q.1, q.2) (sp2 fig)).1 (fRAl 110 (q.1, q.2) (sp2 fig)).2)) from by first | exact k2_spell_2 (jh_row37 gq) (jh_tl gT) hf | exact k2_spell_2 (jh_row37 gq) (jh_tl gT) (by omega) (by omega) hf)
  rwa [jh_rs37] at this
def isH (A : aT) (x : Int) : Prop := 0 ≤ x ∧ x < (aHc A : Int)
theorem hAt_f {A : aT} (I : iC A m r T) {x : Int} (hx : -2147483648 ≤ x ∧ x ≤ 2147483647) (h : ¬ (0 ≤ x ∧ x < (aHc A : Int))) : jq sc 1 jm_X4_helperAt [.ref 1, .int (jI x)] (jh m r T) (jP (some .null) (jh m r T)) :=
  helperAt_n_f I.hc (by have := I.hc4; omega) hx h
theorem hAt_t {A : aT} (I : iC A m r T) {x : Int} (h : 0 ≤ x ∧ x < (aHc A : Int)) {t : Nat} (ht : r 4 x.toNat = .ref t) : jq sc 1 jm_X4_helperAt [.ref 1, .int (jI x)] (jh m r T) (jP (some (.ref t)) (jh m r T)) := by
  have := helperAt_n_t (sc := sc) (m := m) (r := r) (T := T) (i := x.toNat) I.hc (by have := I.hc4; omega) (by omega) ht
  rwa [show ((x.toNat : Nat) : Int) = x by omega] at this
theorem iC.ho {A : aT} (I : iC A m r T) {i : Nat} (hi : i < aHc A) : (0 ≤ (aH A i).1 ∧ (aH A i).1 ≤ 5) ∧ 0 ≤ (aH A i).2 ∧ (aH A i).2 ≤ 9 := I.1.1.2.2.2.2 i hi
def aHelpsV (q : Int × Int) (y : Int) : Int := if y = 0 then q.1 else if y = 1 then q.2 else if y = 2 then hLen q.1 q.2 else hMov q.1 q.2
def aHelps (A : aT) (x y : Int) : Int × aT := if 0 ≤ x ∧ x < (aHc A : Int) then (if 0 ≤ y ∧ y ≤ 3 then (aHelpsV (aH A x.toNat) y, A) else aFar A (-2)) else aFar A (-1)
def aTaken (A : aT) (x y : Int) : Int × aT := if 0 ≤ x ∧ x < (aHc A : Int) then (if 0 ≤ y ∧ y ≤ 5 then ((if hOf (aH A x.toNat).1 y = true then (aH A x.toNat).1 else -16), A) else aRef A (-2)) else aRef A (-1)
/-- letters one behind another, as long as they can be done -/
def sq (s n k : Int) : wT → List Int → Bool × wT
  | w, [] => (true, w)
  | w, c :: cs => if (fGo s n k w.1 w.2 c).1 = true then sq s n k (fGo s n k w.1 w.2 c).2 cs else (false, w)
theorem sq_ok {s n k : Int} (h : fS s n k) : ∀ (l : List Int) (w : wT), wOkk s n k w → wOkk s n k (sq s n k w l).2
  | [], _, o => o
  | c :: cs, w, o => by
    unfold sq
    split
    · exact sq_ok h cs _ (o.go h)
    · exact o
def aDone (A : aT) (x y : Int) : Int × aT := if (0 ≤ x ∧ x < (aHc A : Int)) ∧ (0 ≤ y ∧ y < (aC A : Int)) then (if (sq (aS A) (aN A) (aK A) (aW A y.toNat) (hSp (aH A x.toNat).1 (aH A x.toNat).2)).1 = true then (fLen (aS A) (aN A) (aK A) (sq (aS A) (aN A) (aK A) (aW A y.toNat) (hSp (aH A x.toNat).1 (aH A x.toNat).2)).2.1 (sq (aS A) (aN A) (aK A) (aW A y.toNat) (hSp (aH A x.toNat).1 (aH A x.toNat).2)).2.2, sWk A y.toNat (sq (aS A) (aN A) (aK A) (aW A y.toNat) (hSp (aH A x.toNat).1 (aH A x.toNat).2)).2) else aRef A (-6)) else aRef A (-1)
theorem cl_helps_n {A : aT} (I : iC A m r T) {x y : Int} (hn : ¬ (0 ≤ x ∧ x < (aHc A : Int))) (hx : -2147483648 ≤ x ∧ x ≤ 2147483647) (hy : -2147483648 ≤ y ∧ y ≤ 2147483647) : jq sc 4 jm_X11_helps [.ref 0, .int (jI x), .int (jI y)] (jh m r T) (cQ (aHelps A x y) m T) := by
  have c6 := I.c6
  have fs := I.fs
  refine je_in jb_X11_helps rfl (ls := [_, _, _, _]) rfl ?_
  refine je_ps jb_X11_helps 1 (pc' := 1) (ls' := [_, _, _, _]) (st' := [_]) rfl ?_
  refine je_get jb_X11_helps rfl (pc' := 4) rfl (jh_at (a := 0) rfl) (by rfl) (by rfl) ?_
  refine je_ps jb_X11_helps 1 (pc' := 5) (ls' := [_, _, _, _]) (st' := [_, _]) rfl ?_
  refine je_cvP' jb_X11_helps rfl (pc' := 8) rfl (jh_at (a := 1) rfl) (by rfl) (by first | decide | exact Nat.ble_eq_true_of_le (by omega)) (hAt_f I hx hn) (st' := [_]) rfl ?_
  refine je_ps jb_X11_helps 2 (pc' := 10) (ls' := [_, _, _, _]) (st' := [_]) rfl ?_
  refine je_ifnonnullN jb_X11_helps rfl (t := 19) rfl (pc' := 13) rfl ?_
  refine je_ps jb_X11_helps 2 (pc' := 15) (ls' := [_, _, _, _]) (st' := [_, _]) rfl ?_
  refine je_cvP' jb_X11_helps rfl (pc' := 18) rfl (jh_at (a := 0) rfl) (by rfl) (by first | decide | exact Nat.ble_eq_true_of_le (by omega)) (c_X11_refuseFar (by omega)) (st' := [_]) rfl ?_
  rw [show aHelps A x y = aFar A (-1) from by unfold aHelps; rw [if_neg hn]]
  exact je_ret jb_X11_helps rfl (by rfl) ⟨_, _, _, rfl, rfl, I.ref (by omega), kG.ref m _, tG.rfl' T⟩
theorem cl_taken_n {A : aT} (I : iC A m r T) {x y : Int} (hn : ¬ (0 ≤ x ∧ x < (aHc A : Int))) (hx : -2147483648 ≤ x ∧ x ≤ 2147483647) (hy : -2147483648 ≤ y ∧ y ≤ 2147483647) : jq sc 4 jm_X11_taken [.ref 0, .int (jI x), .int (jI y)] (jh m r T) (cQ (aTaken A x y) m T) := by
  have c6 := I.c6
  have fs := I.fs
  refine je_in jb_X11_taken rfl (ls := [_, _, _, _]) rfl ?_
  refine je_ps jb_X11_taken 1 (pc' := 1) (ls' := [_, _, _, _]) (st' := [_]) rfl ?_
  refine je_get jb_X11_taken rfl (pc' := 4) rfl (jh_at (a := 0) rfl) (by rfl) (by rfl) ?_
  refine je_ps jb_X11_taken 1 (pc' := 5) (ls' := [_, _, _, _]) (st' := [_, _]) rfl ?_
  refine je_cvP' jb_X11_taken rfl (pc' := 8) rfl (jh_at (a := 1) rfl) (by rfl) (by first | decide | exact Nat.ble_eq_true_of_le (by omega)) (hAt_f I hx hn) (st' := [_]) rfl ?_
  refine je_ps jb_X11_taken 2 (pc' := 10) (ls' := [_, _, _, _]) (st' := [_]) rfl ?_
  refine je_ifnonnullN jb_X11_taken rfl (t := 19) rfl (pc' := 13) rfl ?_
  refine je_ps jb_X11_taken 2 (pc' := 15) (ls' := [_, _, _, _]) (st' := [_, _]) rfl ?_
  refine je_cvP' jb_X11_taken rfl (pc' := 18) rfl (jh_at (a := 0) rfl) (by rfl) (by first | decide | exact Nat.ble_eq_true_of_le (by omega)) (c_X11_refuse (by omega)) (st' := [_]) rfl ?_
  rw [show aTaken A x y = aRef A (-1) from by unfold aTaken; rw [if_neg hn]]
  exact je_ret jb_X11_taken rfl (by rfl) ⟨_, _, _, rfl, rfl, I.ref (by omega), kG.ref m _, tG.rfl' T⟩
theorem cl_done_n {A : aT} (I : iC A m r T) {x y : Int} (hn : ¬ (0 ≤ x ∧ x < (aHc A : Int))) (hx : -2147483648 ≤ x ∧ x ≤ 2147483647) (hy : -2147483648 ≤ y ∧ y ≤ 2147483647) : jq sc 4 jm_X11_done [.ref 0, .int (jI x), .int (jI y)] (jh m r T) (cQ (aDone A x y) m T) := by
  have c6 := I.c6
  have fs := I.fs
  refine je_in jb_X11_done rfl (ls := [_, _, _, _, _, _, _]) rfl ?_
  refine je_ps jb_X11_done 1 (pc' := 1) (ls' := [_, _, _, _, _, _, _]) (st' := [_]) rfl ?_
  refine je_get jb_X11_done rfl (pc' := 4) rfl (jh_at (a := 0) rfl) (by rfl) (by rfl) ?_
  refine je_ps jb_X11_done 1 (pc' := 5) (ls' := [_, _, _, _, _, _, _]) (st' := [_, _]) rfl ?_
  refine je_cvP' jb_X11_done rfl (pc' := 8) rfl (jh_at (a := 1) rfl) (by rfl) (by first | decide | exact Nat.ble_eq_true_of_le (by omega)) (hAt_f I hx hn) (st' := [_]) rfl ?_
  refine je_ps jb_X11_done 2 (pc' := 10) (ls' := [_, _, _, _, _, _, _]) (st' := [_]) rfl ?_
  refine je_get jb_X11_done rfl (pc' := 13) rfl (jh_at (a := 0) rfl) (by rfl) (by rfl) ?_
  refine je_ps jb_X11_done 1 (pc' := 14) (ls' := [_, _, _, _, _, _, _]) (st' := [_, _]) rfl ?_
  refine je_cvP' jb_X11_done rfl (pc' := 17) rfl (jh_at (a := 1) rfl) (by rfl) (by first | decide | exact Nat.ble_eq_true_of_le (by omega)) (k_walkAt I.c I.c6 hy) (st' := [_]) rfl ?_
  refine je_mv (fun c14 => ?_) (fun c14 => ?_)
  · skip
    refine je_ps jb_X11_done 2 (pc' := 20) (ls' := [_, _, _, _, _, _, _]) (st' := [_]) rfl ?_
    refine je_ifnullN jb_X11_done rfl (t := 28) rfl (pc' := 23) rfl ?_
    refine je_ps jb_X11_done 2 (pc' := 30) (ls' := [_, _, _, _, _, _, _]) (st' := [_, _]) rfl ?_
    refine je_cvP' jb_X11_done rfl (pc' := 33) rfl (jh_at (a := 0) rfl) (by rfl) (by first | decide | exact Nat.ble_eq_true_of_le (by omega)) (c_X11_refuse (by omega)) (st' := [_]) rfl ?_
    rw [show aDone A x y = aRef A (-1) from by unfold aDone; rw [if_neg (fun h => hn h.1)]]
    exact je_ret jb_X11_done rfl (by rfl) ⟨_, _, _, rfl, rfl, I.ref (by omega), kG.ref m _, tG.rfl' T⟩
  · skip
    refine je_ps jb_X11_done 2 (pc' := 20) (ls' := [_, _, _, _, _, _, _]) (st' := [_]) rfl ?_
    refine je_ifnullN jb_X11_done rfl (t := 28) rfl (pc' := 23) rfl ?_
    refine je_ps jb_X11_done 2 (pc' := 30) (ls' := [_, _, _, _, _, _, _]) (st' := [_, _]) rfl ?_
    refine je_cvP' jb_X11_done rfl (pc' := 33) rfl (jh_at (a := 0) rfl) (by rfl) (by first | decide | exact Nat.ble_eq_true_of_le (by omega)) (c_X11_refuse (by omega)) (st' := [_]) rfl ?_
    rw [show aDone A x y = aRef A (-1) from by unfold aDone; rw [if_neg (fun h => hn h.1)]]
    exact je_ret jb_X11_done rfl (by rfl) ⟨_, _, _, rfl, rfl, I.ref (by omega), kG.ref m _, tG.rfl' T⟩
theorem cl_helps_6 {A : aT} (I : iC A m r T) {x y : Int} (hh : 0 ≤ x ∧ x < (aHc A : Int)) (hk : (aH A x.toNat).1 = 0) (hx : -2147483648 ≤ x ∧ x ≤ 2147483647) (hy : -2147483648 ≤ y ∧ y ≤ 2147483647) : jq sc 10 jm_X11_helps [.ref 0, .int (jI x), .int (jI y)] (jh m r T) (cQ (aHelps A x y) m T) := by
  have c6 := I.c6
  have fs := I.fs
  obtain ⟨u, hu1, hu2⟩ := I.he x.toNat (by omega)
  have ho := I.ho (i := x.toNat) (by omega)
  rw [hk] at hu2
  have gT : T[u]? = some (6, [.int (jI (aH A x.toNat).2)]) := hu2
  obtain ⟨q7, gq7, ok7⟩ := I.q7
  obtain ⟨l, hl⟩ : ∃ l, sp6 (aH A x.toNat).2 = l := ⟨_, rfl⟩
  have e7 : hSp (aH A x.toNat).1 (aH A x.toNat).2 = l := by rw [hk, ← hl]; rfl
  have hs := hSp_i ho.1 ho.2
  rw [e7] at hs
  have g0 : jQ37 (jR37 m (q7.1, 0)) (q7.1, 0) := jQ37_R m (q := (q7.1, 0)) (Int.le_refl 0) (by show (0 : Int) ≤ 110; decide)
  have R := fRAl_rep (N := 110) l (q7.1, 0) [] ⟨rfl, fun j hj => absurd hj (by simp)⟩ (by rw [List.length_nil]; omega)
  rw [List.nil_append] at R
  have fi := fRAl_i (N := 110) l (q := (q7.1, 0)) ⟨Int.le_refl 0, by show (0 : Int) ≤ 110; decide⟩
  have fb := fRAl_b (N := 110) l (q7.1, 0) ok7 (fun z hz => by have := hs.2 z hz; omega)
  have I1 := I.r37 fi fb
  have g1 := jQ37_R m fi.1 fi.2
  refine je_in jb_X11_helps rfl (ls := [_, _, _, _]) rfl ?_
  refine je_ps jb_X11_helps 1 (pc' := 1) (ls' := [_, _, _, _]) (st' := [_]) rfl ?_
  refine je_get jb_X11_helps rfl (pc' := 4) rfl (jh_at (a := 0) rfl) (by rfl) (by rfl) ?_
  refine je_ps jb_X11_helps 1 (pc' := 5) (ls' := [_, _, _, _]) (st' := [_, _]) rfl ?_
  refine je_cvP' jb_X11_helps rfl (pc' := 8) rfl (jh_at (a := 1) rfl) (by rfl) (by first | decide | exact Nat.ble_eq_true_of_le (by omega)) (hAt_t I hh hu1) (st' := [_]) rfl ?_
  refine je_ps jb_X11_helps 2 (pc' := 10) (ls' := [_, _, _, _]) (st' := [_]) rfl ?_
  refine je_ifnonnullR jb_X11_helps rfl (t := 19) rfl (pc' := 13) rfl ?_
  refine je_ps jb_X11_helps 1 (pc' := 20) (ls' := [_, _, _, _]) (st' := [_]) rfl ?_
  refine je_get jb_X11_helps rfl (pc' := 23) rfl (jh_at (a := 0) rfl) (by rfl) (by rfl) ?_
  refine je_cvP' jb_X11_helps rfl (pc' := 26) rfl (jh_at (a := 39) rfl) (by rfl) (by first | decide | exact Nat.ble_eq_true_of_le (by omega)) (k37_clear gq7) (st' := []) rfl ?_
  refine je_ps jb_X11_helps 2 (pc' := 28) (ls' := [_, _, _, _]) (st' := [_, _]) rfl ?_
  refine je_get jb_X11_helps rfl (pc' := 31) rfl (jh_at (a := 0) rfl) (by rfl) (by rfl) ?_
  refine je_cvP' jb_X11_helps rfl (pc' := 34) rfl (jh_tl gT) (by rfl) (by first | decide | exact Nat.ble_eq_true_of_le (by omega)) (k37_spell_6 g0 hl gT ho.2) (st' := []) rfl ?_
  rw [jR37_R]
  refine je_ps jb_X11_helps 1 (pc' := 35) (ls' := [_, _, _, _]) (st' := [_]) rfl ?_
  refine je_swc fun y35 ey35 => ?_
  rcases (by omega : y35 = 0 ∨ y35 = 1 ∨ y35 = 2 ∨ y35 = 3 ∨ (y35 < 0 ∨ 3 < y35)) with c35 | c35 | c35 | c35 | c35
  · rw [c35]
    refine je_sw jb_X11_helps rfl (t := 64) (st' := []) rfl ?_
    refine je_ps jb_X11_helps 1 (pc' := 65) (ls' := [_, _, _, _]) (st' := [_]) rfl ?_
    refine je_cvP' jb_X11_helps rfl (pc' := 68) rfl (jh_tl gT) (by rfl) (by first | decide | exact Nat.ble_eq_true_of_le (by omega)) (k6_kind (jh_tl gT)) (st' := [_]) rfl ?_
    rw [show aHelps A x y = (aHelpsV (aH A x.toNat) y, A) from by unfold aHelps; rw [if_pos hh, if_pos (by omega)]]
    exact je_ret jb_X11_helps rfl (by rfl) ⟨_, _, _, by unfold aHelpsV; rw [if_pos (by omega)]; rw [hk], rfl, I1, (kG.rfl' m).r37 _, tG.rfl' T⟩
  · rw [c35]
    refine je_sw jb_X11_helps rfl (t := 69) (st' := []) rfl ?_
    refine je_ps jb_X11_helps 1 (pc' := 70) (ls' := [_, _, _, _]) (st' := [_]) rfl ?_
    refine je_get jb_X11_helps rfl (pc' := 73) rfl (jh_tl gT) (by rfl) (by rfl) ?_
    rw [show aHelps A x y = (aHelpsV (aH A x.toNat) y, A) from by unfold aHelps; rw [if_pos hh, if_pos (by omega)]]
    exact je_ret jb_X11_helps rfl (by rfl) ⟨_, _, _, by unfold aHelpsV; rw [if_neg (by omega), if_pos (by omega)]; all_goals rfl, rfl, I1, (kG.rfl' m).r37 _, tG.rfl' T⟩
  · rw [c35]
    refine je_sw jb_X11_helps rfl (t := 74) (st' := []) rfl ?_
    refine je_ps jb_X11_helps 1 (pc' := 75) (ls' := [_, _, _, _]) (st' := [_]) rfl ?_
    refine je_get jb_X11_helps rfl (pc' := 78) rfl (jh_at (a := 0) rfl) (by rfl) (by rfl) ?_
    refine je_get jb_X11_helps rfl (pc' := 81) rfl (jh_at (a := 39) rfl) (by rfl) (by rfl) ?_
    rw [show aHelps A x y = (aHelpsV (aH A x.toNat) y, A) from by unfold aHelps; rw [if_pos hh, if_pos (by omega)]]
    exact je_ret jb_X11_helps rfl (by rfl) ⟨_, _, _, by unfold aHelpsV; rw [if_neg (by omega), if_neg (by omega), if_pos (by omega)]; rw [g1.2.1, R.1]; show _ = some (Value.int (jI (((hSp (aH A x.toNat).1 (aH A x.toNat).2).length : Nat) : Int))); rw [e7], rfl, I1, (kG.rfl' m).r37 _, tG.rfl' T⟩
  · rw [c35]
    refine je_sw jb_X11_helps rfl (t := 82) (st' := []) rfl ?_
    refine je_ps jb_X11_helps 1 (pc' := 83) (ls' := [_, _, _, _]) (st' := [_]) rfl ?_
    refine je_get jb_X11_helps rfl (pc' := 86) rfl (jh_at (a := 0) rfl) (by rfl) (by rfl) ?_
    refine je_ps jb_X11_helps 1 (pc' := 87) (ls' := [_, _, _, _]) (st' := [_, _]) rfl ?_
    refine je_cvP' jb_X11_helps rfl (pc' := 90) rfl (jh_at (a := 39) rfl) (by rfl) (by first | decide | exact Nat.ble_eq_true_of_le (by omega)) (k_rhowMany (jh_row37 g1) fb (by omega)) (st' := [_]) rfl ?_
    refine je_ps jb_X11_helps 1 (pc' := 91) (ls' := [_, _, _, _]) (st' := [_, _]) rfl ?_
    refine je_get jb_X11_helps rfl (pc' := 94) rfl (jh_at (a := 0) rfl) (by rfl) (by rfl) ?_
    refine je_ps jb_X11_helps 1 (pc' := 95) (ls' := [_, _, _, _]) (st' := [_, _, _]) rfl ?_
    refine je_cvP' jb_X11_helps rfl (pc' := 98) rfl (jh_at (a := 39) rfl) (by rfl) (by first | decide | exact Nat.ble_eq_true_of_le (by omega)) (k_rhowMany (jh_row37 g1) fb (by omega)) (st' := [_, _]) rfl ?_
    refine je_isub jb_X11_helps rfl (pc' := 99) rfl ?_
    rw [show aHelps A x y = (aHelpsV (aH A x.toNat) y, A) from by unfold aHelps; rw [if_pos hh, if_pos (by omega)]]
    exact je_ret jb_X11_helps rfl (by rfl) ⟨_, _, _, by unfold aHelpsV; rw [if_neg (by omega), if_neg (by omega), if_neg (by omega)]; rw [how_rep (f := (fRAl 110 (q7.1, 0) l).1) (z := (fRAl 110 (q7.1, 0) l).2) R, how_rep (f := (fRAl 110 (q7.1, 0) l).1) (z := (fRAl 110 (q7.1, 0) l).2) R]; unfold hMov; rw [e7], rfl, I1, (kG.rfl' m).r37 _, tG.rfl' T⟩
  · refine je_swO jb_X11_helps rfl (t := 100) rfl (by omega) (by omega) c35 ?_
    refine je_ps jb_X11_helps 2 (pc' := 103) (ls' := [_, _, _, _]) (st' := [_, _]) rfl ?_
    refine je_cvP' jb_X11_helps rfl (pc' := 106) rfl (jh_at (a := 0) rfl) (by rfl) (by first | decide | exact Nat.ble_eq_true_of_le (by omega)) (c_X11_refuseFar (by omega)) (st' := [_]) rfl ?_
    rw [show aHelps A x y = aFar A (-2) from by unfold aHelps; rw [if_pos hh, if_neg (by omega)]]
    exact je_ret jb_X11_helps rfl (by rfl) ⟨_, _, _, rfl, rfl, I1.ref (by omega), ((kG.rfl' m).r37 _).u (by decide) _, tG.rfl' T⟩
theorem cl_taken_6 {A : aT} (I : iC A m r T) {x y : Int} (hh : 0 ≤ x ∧ x < (aHc A : Int)) (hk : (aH A x.toNat).1 = 0) (hx : -2147483648 ≤ x ∧ x ≤ 2147483647) (hy : -2147483648 ≤ y ∧ y ≤ 2147483647) : jq sc 4 jm_X11_taken [.ref 0, .int (jI x), .int (jI y)] (jh m r T) (cQ (aTaken A x y) m T) := by
  have c6 := I.c6
  have fs := I.fs
  obtain ⟨u, hu1, hu2⟩ := I.he x.toNat (by omega)
  have ho := I.ho (i := x.toNat) (by omega)
  rw [hk] at hu2
  have gT : T[u]? = some (6, [.int (jI (aH A x.toNat).2)]) := hu2
  refine je_in jb_X11_taken rfl (ls := [_, _, _, _]) rfl ?_
  refine je_ps jb_X11_taken 1 (pc' := 1) (ls' := [_, _, _, _]) (st' := [_]) rfl ?_
  refine je_get jb_X11_taken rfl (pc' := 4) rfl (jh_at (a := 0) rfl) (by rfl) (by rfl) ?_
  refine je_ps jb_X11_taken 1 (pc' := 5) (ls' := [_, _, _, _]) (st' := [_, _]) rfl ?_
  refine je_cvP' jb_X11_taken rfl (pc' := 8) rfl (jh_at (a := 1) rfl) (by rfl) (by first | decide | exact Nat.ble_eq_true_of_le (by omega)) (hAt_t I hh hu1) (st' := [_]) rfl ?_
  refine je_ps jb_X11_taken 2 (pc' := 10) (ls' := [_, _, _, _]) (st' := [_]) rfl ?_
  refine je_ifnonnullR jb_X11_taken rfl (t := 19) rfl (pc' := 13) rfl ?_
  refine je_ps jb_X11_taken 1 (pc' := 20) (ls' := [_, _, _, _]) (st' := [_]) rfl ?_
  refine je_csP' jb_X11_taken rfl (pc' := 23) rfl (by rfl) (by first | decide | exact Nat.ble_eq_true_of_le (by omega)) (c_X11_isKind (by omega)) (st' := [_]) rfl ?_
  refine je_ifneb jb_X11_taken rfl (t := 33) rfl (pc' := 26) rfl (fun c23 => ?_) (fun c23 => ?_)
  · refine je_ps jb_X11_taken 2 (pc' := 35) (ls' := [_, _, _, _]) (st' := [_, _]) rfl ?_
    refine je_csP' jb_X11_taken rfl (pc' := 38) rfl (by rfl) (by first | decide | exact Nat.ble_eq_true_of_le (by omega)) (isOf_6 (jh_tl gT) (by have := of_decide_eq_true c23; omega)) (st' := [_]) rfl ?_
    refine je_ifeqb jb_X11_taken rfl (t := 48) rfl (pc' := 41) rfl (fun c38 => ?_) (fun c38 => ?_)
    · refine je_ps jb_X11_taken 1 (pc' := 50) (ls' := [_, _, _, _]) (st' := [_]) rfl ?_
      first | (rw [show aTaken A x y = ((aH A x.toNat).1, A) from by unfold aTaken; rw [if_pos hh, if_pos (of_decide_eq_true c23), hk, if_pos c38], hk]; exact je_ret jb_X11_taken rfl (by rfl) ⟨_, _, _, rfl, rfl, I, kG.rfl' m, tG.rfl' T⟩) | (rw [show aTaken A x y = (-16, A) from by unfold aTaken; rw [if_pos hh, if_pos (of_decide_eq_true c23), hk, if_neg (by rw [c38]; decide)]]; exact je_ret jb_X11_taken rfl (by rfl) ⟨_, _, _, rfl, rfl, I, kG.rfl' m, tG.rfl' T⟩)
    · refine je_ps jb_X11_taken 1 (pc' := 42) (ls' := [_, _, _, _]) (st' := [_]) rfl ?_
      refine je_cvP' jb_X11_taken rfl (pc' := 45) rfl (jh_tl gT) (by rfl) (by first | decide | exact Nat.ble_eq_true_of_le (by omega)) (k6_kind (jh_tl gT)) (st' := [_]) rfl ?_
      refine je_ps jb_X11_taken 1 (pc' := 50) (ls' := [_, _, _, _]) (st' := [_]) rfl ?_
      first | (rw [show aTaken A x y = ((aH A x.toNat).1, A) from by unfold aTaken; rw [if_pos hh, if_pos (of_decide_eq_true c23), hk, if_pos c38], hk]; exact je_ret jb_X11_taken rfl (by rfl) ⟨_, _, _, rfl, rfl, I, kG.rfl' m, tG.rfl' T⟩) | (rw [show aTaken A x y = (-16, A) from by unfold aTaken; rw [if_pos hh, if_pos (of_decide_eq_true c23), hk, if_neg (by rw [c38]; decide)]]; exact je_ret jb_X11_taken rfl (by rfl) ⟨_, _, _, rfl, rfl, I, kG.rfl' m, tG.rfl' T⟩)
  · refine je_ps jb_X11_taken 2 (pc' := 29) (ls' := [_, _, _, _]) (st' := [_, _]) rfl ?_
    refine je_cvP' jb_X11_taken rfl (pc' := 32) rfl (jh_at (a := 0) rfl) (by rfl) (by first | decide | exact Nat.ble_eq_true_of_le (by omega)) (c_X11_refuse (by omega)) (st' := [_]) rfl ?_
    rw [show aTaken A x y = aRef A (-2) from by unfold aTaken; rw [if_pos hh, if_neg (of_decide_eq_false c23)]]
    exact je_ret jb_X11_taken rfl (by rfl) ⟨_, _, _, rfl, rfl, I.ref (by omega), kG.ref m _, tG.rfl' T⟩
theorem cl_helps_9 {A : aT} (I : iC A m r T) {x y : Int} (hh : 0 ≤ x ∧ x < (aHc A : Int)) (hk : (aH A x.toNat).1 = 1) (hx : -2147483648 ≤ x ∧ x ≤ 2147483647) (hy : -2147483648 ≤ y ∧ y ≤ 2147483647) : jq sc 10 jm_X11_helps [.ref 0, .int (jI x), .int (jI y)] (jh m r T) (cQ (aHelps A x y) m T) := by
  have c6 := I.c6
  have fs := I.fs
  obtain ⟨u, hu1, hu2⟩ := I.he x.toNat (by omega)
  have ho := I.ho (i := x.toNat) (by omega)
  rw [hk] at hu2
  have gT : T[u]? = some (9, [.int (jI (aH A x.toNat).2)]) := hu2
  obtain ⟨q7, gq7, ok7⟩ := I.q7
  obtain ⟨l, hl⟩ : ∃ l, sp9 (aH A x.toNat).2 = l := ⟨_, rfl⟩
  have e7 : hSp (aH A x.toNat).1 (aH A x.toNat).2 = l := by rw [hk, ← hl]; rfl
  have hs := hSp_i ho.1 ho.2
  rw [e7] at hs
  have g0 : jQ37 (jR37 m (q7.1, 0)) (q7.1, 0) := jQ37_R m (q := (q7.1, 0)) (Int.le_refl 0) (by show (0 : Int) ≤ 110; decide)
  have R := fRAl_rep (N := 110) l (q7.1, 0) [] ⟨rfl, fun j hj => absurd hj (by simp)⟩ (by rw [List.length_nil]; omega)
  rw [List.nil_append] at R
  have fi := fRAl_i (N := 110) l (q := (q7.1, 0)) ⟨Int.le_refl 0, by show (0 : Int) ≤ 110; decide⟩
  have fb := fRAl_b (N := 110) l (q7.1, 0) ok7 (fun z hz => by have := hs.2 z hz; omega)
  have I1 := I.r37 fi fb
  have g1 := jQ37_R m fi.1 fi.2
  refine je_in jb_X11_helps rfl (ls := [_, _, _, _]) rfl ?_
  refine je_ps jb_X11_helps 1 (pc' := 1) (ls' := [_, _, _, _]) (st' := [_]) rfl ?_
  refine je_get jb_X11_helps rfl (pc' := 4) rfl (jh_at (a := 0) rfl) (by rfl) (by rfl) ?_
  refine je_ps jb_X11_helps 1 (pc' := 5) (ls' := [_, _, _, _]) (st' := [_, _]) rfl ?_
  refine je_cvP' jb_X11_helps rfl (pc' := 8) rfl (jh_at (a := 1) rfl) (by rfl) (by first | decide | exact Nat.ble_eq_true_of_le (by omega)) (hAt_t I hh hu1) (st' := [_]) rfl ?_
  refine je_ps jb_X11_helps 2 (pc' := 10) (ls' := [_, _, _, _]) (st' := [_]) rfl ?_
  refine je_ifnonnullR jb_X11_helps rfl (t := 19) rfl (pc' := 13) rfl ?_
  refine je_ps jb_X11_helps 1 (pc' := 20) (ls' := [_, _, _, _]) (st' := [_]) rfl ?_
  refine je_get jb_X11_helps rfl (pc' := 23) rfl (jh_at (a := 0) rfl) (by rfl) (by rfl) ?_
  refine je_cvP' jb_X11_helps rfl (pc' := 26) rfl (jh_at (a := 39) rfl) (by rfl) (by first | decide | exact Nat.ble_eq_true_of_le (by omega)) (k37_clear gq7) (st' := []) rfl ?_
  refine je_ps jb_X11_helps 2 (pc' := 28) (ls' := [_, _, _, _]) (st' := [_, _]) rfl ?_
  refine je_get jb_X11_helps rfl (pc' := 31) rfl (jh_at (a := 0) rfl) (by rfl) (by rfl) ?_
  refine je_cvP' jb_X11_helps rfl (pc' := 34) rfl (jh_tl gT) (by rfl) (by first | decide | exact Nat.ble_eq_true_of_le (by omega)) (k37_spell_9 g0 hl gT ho.2) (st' := []) rfl ?_
  rw [jR37_R]
  refine je_ps jb_X11_helps 1 (pc' := 35) (ls' := [_, _, _, _]) (st' := [_]) rfl ?_
  refine je_swc fun y35 ey35 => ?_
  rcases (by omega : y35 = 0 ∨ y35 = 1 ∨ y35 = 2 ∨ y35 = 3 ∨ (y35 < 0 ∨ 3 < y35)) with c35 | c35 | c35 | c35 | c35
  · rw [c35]
    refine je_sw jb_X11_helps rfl (t := 64) (st' := []) rfl ?_
    refine je_ps jb_X11_helps 1 (pc' := 65) (ls' := [_, _, _, _]) (st' := [_]) rfl ?_
    refine je_cvP' jb_X11_helps rfl (pc' := 68) rfl (jh_tl gT) (by rfl) (by first | decide | exact Nat.ble_eq_true_of_le (by omega)) (k9_kind (jh_tl gT)) (st' := [_]) rfl ?_
    rw [show aHelps A x y = (aHelpsV (aH A x.toNat) y, A) from by unfold aHelps; rw [if_pos hh, if_pos (by omega)]]
    exact je_ret jb_X11_helps rfl (by rfl) ⟨_, _, _, by unfold aHelpsV; rw [if_pos (by omega)]; rw [hk], rfl, I1, (kG.rfl' m).r37 _, tG.rfl' T⟩
  · rw [c35]
    refine je_sw jb_X11_helps rfl (t := 69) (st' := []) rfl ?_
    refine je_ps jb_X11_helps 1 (pc' := 70) (ls' := [_, _, _, _]) (st' := [_]) rfl ?_
    refine je_get jb_X11_helps rfl (pc' := 73) rfl (jh_tl gT) (by rfl) (by rfl) ?_
    rw [show aHelps A x y = (aHelpsV (aH A x.toNat) y, A) from by unfold aHelps; rw [if_pos hh, if_pos (by omega)]]
    exact je_ret jb_X11_helps rfl (by rfl) ⟨_, _, _, by unfold aHelpsV; rw [if_neg (by omega), if_pos (by omega)]; all_goals rfl, rfl, I1, (kG.rfl' m).r37 _, tG.rfl' T⟩
  · rw [c35]
    refine je_sw jb_X11_helps rfl (t := 74) (st' := []) rfl ?_
    refine je_ps jb_X11_helps 1 (pc' := 75) (ls' := [_, _, _, _]) (st' := [_]) rfl ?_
    refine je_get jb_X11_helps rfl (pc' := 78) rfl (jh_at (a := 0) rfl) (by rfl) (by rfl) ?_
    refine je_get jb_X11_helps rfl (pc' := 81) rfl (jh_at (a := 39) rfl) (by rfl) (by rfl) ?_
    rw [show aHelps A x y = (aHelpsV (aH A x.toNat) y, A) from by unfold aHelps; rw [if_pos hh, if_pos (by omega)]]
    exact je_ret jb_X11_helps rfl (by rfl) ⟨_, _, _, by unfold aHelpsV; rw [if_neg (by omega), if_neg (by omega), if_pos (by omega)]; rw [g1.2.1, R.1]; show _ = some (Value.int (jI (((hSp (aH A x.toNat).1 (aH A x.toNat).2).length : Nat) : Int))); rw [e7], rfl, I1, (kG.rfl' m).r37 _, tG.rfl' T⟩
  · rw [c35]
    refine je_sw jb_X11_helps rfl (t := 82) (st' := []) rfl ?_
    refine je_ps jb_X11_helps 1 (pc' := 83) (ls' := [_, _, _, _]) (st' := [_]) rfl ?_
    refine je_get jb_X11_helps rfl (pc' := 86) rfl (jh_at (a := 0) rfl) (by rfl) (by rfl) ?_
    refine je_ps jb_X11_helps 1 (pc' := 87) (ls' := [_, _, _, _]) (st' := [_, _]) rfl ?_
    refine je_cvP' jb_X11_helps rfl (pc' := 90) rfl (jh_at (a := 39) rfl) (by rfl) (by first | decide | exact Nat.ble_eq_true_of_le (by omega)) (k_rhowMany (jh_row37 g1) fb (by omega)) (st' := [_]) rfl ?_
    refine je_ps jb_X11_helps 1 (pc' := 91) (ls' := [_, _, _, _]) (st' := [_, _]) rfl ?_
    refine je_get jb_X11_helps rfl (pc' := 94) rfl (jh_at (a := 0) rfl) (by rfl) (by rfl) ?_
    refine je_ps jb_X11_helps 1 (pc' := 95) (ls' := [_, _, _, _]) (st' := [_, _, _]) rfl ?_
    refine je_cvP' jb_X11_helps rfl (pc' := 98) rfl (jh_at (a := 39) rfl) (by rfl) (by first | decide | exact Nat.ble_eq_true_of_le (by omega)) (k_rhowMany (jh_row37 g1) fb (by omega)) (st' := [_, _]) rfl ?_
    refine je_isub jb_X11_helps rfl (pc' := 99) rfl ?_
    rw [show aHelps A x y = (aHelpsV (aH A x.toNat) y, A) from by unfold aHelps; rw [if_pos hh, if_pos (by omega)]]
    exact je_ret jb_X11_helps rfl (by rfl) ⟨_, _, _, by unfold aHelpsV; rw [if_neg (by omega), if_neg (by omega), if_neg (by omega)]; rw [how_rep (f := (fRAl 110 (q7.1, 0) l).1) (z := (fRAl 110 (q7.1, 0) l).2) R, how_rep (f := (fRAl 110 (q7.1, 0) l).1) (z := (fRAl 110 (q7.1, 0) l).2) R]; unfold hMov; rw [e7], rfl, I1, (kG.rfl' m).r37 _, tG.rfl' T⟩
  · refine je_swO jb_X11_helps rfl (t := 100) rfl (by omega) (by omega) c35 ?_
    refine je_ps jb_X11_helps 2 (pc' := 103) (ls' := [_, _, _, _]) (st' := [_, _]) rfl ?_
    refine je_cvP' jb_X11_helps rfl (pc' := 106) rfl (jh_at (a := 0) rfl) (by rfl) (by first | decide | exact Nat.ble_eq_true_of_le (by omega)) (c_X11_refuseFar (by omega)) (st' := [_]) rfl ?_
    rw [show aHelps A x y = aFar A (-2) from by unfold aHelps; rw [if_pos hh, if_neg (by omega)]]
    exact je_ret jb_X11_helps rfl (by rfl) ⟨_, _, _, rfl, rfl, I1.ref (by omega), ((kG.rfl' m).r37 _).u (by decide) _, tG.rfl' T⟩
theorem cl_taken_9 {A : aT} (I : iC A m r T) {x y : Int} (hh : 0 ≤ x ∧ x < (aHc A : Int)) (hk : (aH A x.toNat).1 = 1) (hx : -2147483648 ≤ x ∧ x ≤ 2147483647) (hy : -2147483648 ≤ y ∧ y ≤ 2147483647) : jq sc 4 jm_X11_taken [.ref 0, .int (jI x), .int (jI y)] (jh m r T) (cQ (aTaken A x y) m T) := by
  have c6 := I.c6
  have fs := I.fs
  obtain ⟨u, hu1, hu2⟩ := I.he x.toNat (by omega)
  have ho := I.ho (i := x.toNat) (by omega)
  rw [hk] at hu2
  have gT : T[u]? = some (9, [.int (jI (aH A x.toNat).2)]) := hu2
  refine je_in jb_X11_taken rfl (ls := [_, _, _, _]) rfl ?_
  refine je_ps jb_X11_taken 1 (pc' := 1) (ls' := [_, _, _, _]) (st' := [_]) rfl ?_
  refine je_get jb_X11_taken rfl (pc' := 4) rfl (jh_at (a := 0) rfl) (by rfl) (by rfl) ?_
  refine je_ps jb_X11_taken 1 (pc' := 5) (ls' := [_, _, _, _]) (st' := [_, _]) rfl ?_
  refine je_cvP' jb_X11_taken rfl (pc' := 8) rfl (jh_at (a := 1) rfl) (by rfl) (by first | decide | exact Nat.ble_eq_true_of_le (by omega)) (hAt_t I hh hu1) (st' := [_]) rfl ?_
  refine je_ps jb_X11_taken 2 (pc' := 10) (ls' := [_, _, _, _]) (st' := [_]) rfl ?_
  refine je_ifnonnullR jb_X11_taken rfl (t := 19) rfl (pc' := 13) rfl ?_
  refine je_ps jb_X11_taken 1 (pc' := 20) (ls' := [_, _, _, _]) (st' := [_]) rfl ?_
  refine je_csP' jb_X11_taken rfl (pc' := 23) rfl (by rfl) (by first | decide | exact Nat.ble_eq_true_of_le (by omega)) (c_X11_isKind (by omega)) (st' := [_]) rfl ?_
  refine je_ifneb jb_X11_taken rfl (t := 33) rfl (pc' := 26) rfl (fun c23 => ?_) (fun c23 => ?_)
  · refine je_ps jb_X11_taken 2 (pc' := 35) (ls' := [_, _, _, _]) (st' := [_, _]) rfl ?_
    refine je_csP' jb_X11_taken rfl (pc' := 38) rfl (by rfl) (by first | decide | exact Nat.ble_eq_true_of_le (by omega)) (isOf_9 (jh_tl gT) (by have := of_decide_eq_true c23; omega)) (st' := [_]) rfl ?_
    refine je_ifeqb jb_X11_taken rfl (t := 48) rfl (pc' := 41) rfl (fun c38 => ?_) (fun c38 => ?_)
    · refine je_ps jb_X11_taken 1 (pc' := 50) (ls' := [_, _, _, _]) (st' := [_]) rfl ?_
      first | (rw [show aTaken A x y = ((aH A x.toNat).1, A) from by unfold aTaken; rw [if_pos hh, if_pos (of_decide_eq_true c23), hk, if_pos c38], hk]; exact je_ret jb_X11_taken rfl (by rfl) ⟨_, _, _, rfl, rfl, I, kG.rfl' m, tG.rfl' T⟩) | (rw [show aTaken A x y = (-16, A) from by unfold aTaken; rw [if_pos hh, if_pos (of_decide_eq_true c23), hk, if_neg (by rw [c38]; decide)]]; exact je_ret jb_X11_taken rfl (by rfl) ⟨_, _, _, rfl, rfl, I, kG.rfl' m, tG.rfl' T⟩)
    · refine je_ps jb_X11_taken 1 (pc' := 42) (ls' := [_, _, _, _]) (st' := [_]) rfl ?_
      refine je_cvP' jb_X11_taken rfl (pc' := 45) rfl (jh_tl gT) (by rfl) (by first | decide | exact Nat.ble_eq_true_of_le (by omega)) (k9_kind (jh_tl gT)) (st' := [_]) rfl ?_
      refine je_ps jb_X11_taken 1 (pc' := 50) (ls' := [_, _, _, _]) (st' := [_]) rfl ?_
      first | (rw [show aTaken A x y = ((aH A x.toNat).1, A) from by unfold aTaken; rw [if_pos hh, if_pos (of_decide_eq_true c23), hk, if_pos c38], hk]; exact je_ret jb_X11_taken rfl (by rfl) ⟨_, _, _, rfl, rfl, I, kG.rfl' m, tG.rfl' T⟩) | (rw [show aTaken A x y = (-16, A) from by unfold aTaken; rw [if_pos hh, if_pos (of_decide_eq_true c23), hk, if_neg (by rw [c38]; decide)]]; exact je_ret jb_X11_taken rfl (by rfl) ⟨_, _, _, rfl, rfl, I, kG.rfl' m, tG.rfl' T⟩)
  · refine je_ps jb_X11_taken 2 (pc' := 29) (ls' := [_, _, _, _]) (st' := [_, _]) rfl ?_
    refine je_cvP' jb_X11_taken rfl (pc' := 32) rfl (jh_at (a := 0) rfl) (by rfl) (by first | decide | exact Nat.ble_eq_true_of_le (by omega)) (c_X11_refuse (by omega)) (st' := [_]) rfl ?_
    rw [show aTaken A x y = aRef A (-2) from by unfold aTaken; rw [if_pos hh, if_neg (of_decide_eq_false c23)]]
    exact je_ret jb_X11_taken rfl (by rfl) ⟨_, _, _, rfl, rfl, I.ref (by omega), kG.ref m _, tG.rfl' T⟩
theorem cl_helps_0 {A : aT} (I : iC A m r T) {x y : Int} (hh : 0 ≤ x ∧ x < (aHc A : Int)) (hk : (aH A x.toNat).1 = 2) (hx : -2147483648 ≤ x ∧ x ≤ 2147483647) (hy : -2147483648 ≤ y ∧ y ≤ 2147483647) : jq sc 10 jm_X11_helps [.ref 0, .int (jI x), .int (jI y)] (jh m r T) (cQ (aHelps A x y) m T) := by
  have c6 := I.c6
  have fs := I.fs
  obtain ⟨u, hu1, hu2⟩ := I.he x.toNat (by omega)
  have ho := I.ho (i := x.toNat) (by omega)
  rw [hk] at hu2
  have gT : T[u]? = some (0, [.int (jI (aH A x.toNat).2)]) := hu2
  obtain ⟨q7, gq7, ok7⟩ := I.q7
  obtain ⟨l, hl⟩ : ∃ l, sp0 (aH A x.toNat).2 = l := ⟨_, rfl⟩
  have e7 : hSp (aH A x.toNat).1 (aH A x.toNat).2 = l := by rw [hk, ← hl]; rfl
  have hs := hSp_i ho.1 ho.2
  rw [e7] at hs
  have g0 : jQ37 (jR37 m (q7.1, 0)) (q7.1, 0) := jQ37_R m (q := (q7.1, 0)) (Int.le_refl 0) (by show (0 : Int) ≤ 110; decide)
  have R := fRAl_rep (N := 110) l (q7.1, 0) [] ⟨rfl, fun j hj => absurd hj (by simp)⟩ (by rw [List.length_nil]; omega)
  rw [List.nil_append] at R
  have fi := fRAl_i (N := 110) l (q := (q7.1, 0)) ⟨Int.le_refl 0, by show (0 : Int) ≤ 110; decide⟩
  have fb := fRAl_b (N := 110) l (q7.1, 0) ok7 (fun z hz => by have := hs.2 z hz; omega)
  have I1 := I.r37 fi fb
  have g1 := jQ37_R m fi.1 fi.2
  refine je_in jb_X11_helps rfl (ls := [_, _, _, _]) rfl ?_
  refine je_ps jb_X11_helps 1 (pc' := 1) (ls' := [_, _, _, _]) (st' := [_]) rfl ?_
  refine je_get jb_X11_helps rfl (pc' := 4) rfl (jh_at (a := 0) rfl) (by rfl) (by rfl) ?_
  refine je_ps jb_X11_helps 1 (pc' := 5) (ls' := [_, _, _, _]) (st' := [_, _]) rfl ?_
  refine je_cvP' jb_X11_helps rfl (pc' := 8) rfl (jh_at (a := 1) rfl) (by rfl) (by first | decide | exact Nat.ble_eq_true_of_le (by omega)) (hAt_t I hh hu1) (st' := [_]) rfl ?_
  refine je_ps jb_X11_helps 2 (pc' := 10) (ls' := [_, _, _, _]) (st' := [_]) rfl ?_
  refine je_ifnonnullR jb_X11_helps rfl (t := 19) rfl (pc' := 13) rfl ?_
  refine je_ps jb_X11_helps 1 (pc' := 20) (ls' := [_, _, _, _]) (st' := [_]) rfl ?_
  refine je_get jb_X11_helps rfl (pc' := 23) rfl (jh_at (a := 0) rfl) (by rfl) (by rfl) ?_
  refine je_cvP' jb_X11_helps rfl (pc' := 26) rfl (jh_at (a := 39) rfl) (by rfl) (by first | decide | exact Nat.ble_eq_true_of_le (by omega)) (k37_clear gq7) (st' := []) rfl ?_
  refine je_ps jb_X11_helps 2 (pc' := 28) (ls' := [_, _, _, _]) (st' := [_, _]) rfl ?_
  refine je_get jb_X11_helps rfl (pc' := 31) rfl (jh_at (a := 0) rfl) (by rfl) (by rfl) ?_
  refine je_cvP' jb_X11_helps rfl (pc' := 34) rfl (jh_tl gT) (by rfl) (by first | decide | exact Nat.ble_eq_true_of_le (by omega)) (k37_spell_0 g0 hl gT ho.2) (st' := []) rfl ?_
  rw [jR37_R]
  refine je_ps jb_X11_helps 1 (pc' := 35) (ls' := [_, _, _, _]) (st' := [_]) rfl ?_
  refine je_swc fun y35 ey35 => ?_
  rcases (by omega : y35 = 0 ∨ y35 = 1 ∨ y35 = 2 ∨ y35 = 3 ∨ (y35 < 0 ∨ 3 < y35)) with c35 | c35 | c35 | c35 | c35
  · rw [c35]
    refine je_sw jb_X11_helps rfl (t := 64) (st' := []) rfl ?_
    refine je_ps jb_X11_helps 1 (pc' := 65) (ls' := [_, _, _, _]) (st' := [_]) rfl ?_
    refine je_cvP' jb_X11_helps rfl (pc' := 68) rfl (jh_tl gT) (by rfl) (by first | decide | exact Nat.ble_eq_true_of_le (by omega)) (k0_kind (jh_tl gT)) (st' := [_]) rfl ?_
    rw [show aHelps A x y = (aHelpsV (aH A x.toNat) y, A) from by unfold aHelps; rw [if_pos hh, if_pos (by omega)]]
    exact je_ret jb_X11_helps rfl (by rfl) ⟨_, _, _, by unfold aHelpsV; rw [if_pos (by omega)]; rw [hk], rfl, I1, (kG.rfl' m).r37 _, tG.rfl' T⟩
  · rw [c35]
    refine je_sw jb_X11_helps rfl (t := 69) (st' := []) rfl ?_
    refine je_ps jb_X11_helps 1 (pc' := 70) (ls' := [_, _, _, _]) (st' := [_]) rfl ?_
    refine je_get jb_X11_helps rfl (pc' := 73) rfl (jh_tl gT) (by rfl) (by rfl) ?_
    rw [show aHelps A x y = (aHelpsV (aH A x.toNat) y, A) from by unfold aHelps; rw [if_pos hh, if_pos (by omega)]]
    exact je_ret jb_X11_helps rfl (by rfl) ⟨_, _, _, by unfold aHelpsV; rw [if_neg (by omega), if_pos (by omega)]; all_goals rfl, rfl, I1, (kG.rfl' m).r37 _, tG.rfl' T⟩
  · rw [c35]
    refine je_sw jb_X11_helps rfl (t := 74) (st' := []) rfl ?_
    refine je_ps jb_X11_helps 1 (pc' := 75) (ls' := [_, _, _, _]) (st' := [_]) rfl ?_
    refine je_get jb_X11_helps rfl (pc' := 78) rfl (jh_at (a := 0) rfl) (by rfl) (by rfl) ?_
    refine je_get jb_X11_helps rfl (pc' := 81) rfl (jh_at (a := 39) rfl) (by rfl) (by rfl) ?_
    rw [show aHelps A x y = (aHelpsV (aH A x.toNat) y, A) from by unfold aHelps; rw [if_pos hh, if_pos (by omega)]]
    exact je_ret jb_X11_helps rfl (by rfl) ⟨_, _, _, by unfold aHelpsV; rw [if_neg (by omega), if_neg (by omega), if_pos (by omega)]; rw [g1.2.1, R.1]; show _ = some (Value.int (jI (((hSp (aH A x.toNat).1 (aH A x.toNat).2).length : Nat) : Int))); rw [e7], rfl, I1, (kG.rfl' m).r37 _, tG.rfl' T⟩
  · rw [c35]
    refine je_sw jb_X11_helps rfl (t := 82) (st' := []) rfl ?_
    refine je_ps jb_X11_helps 1 (pc' := 83) (ls' := [_, _, _, _]) (st' := [_]) rfl ?_
    refine je_get jb_X11_helps rfl (pc' := 86) rfl (jh_at (a := 0) rfl) (by rfl) (by rfl) ?_
    refine je_ps jb_X11_helps 1 (pc' := 87) (ls' := [_, _, _, _]) (st' := [_, _]) rfl ?_
    refine je_cvP' jb_X11_helps rfl (pc' := 90) rfl (jh_at (a := 39) rfl) (by rfl) (by first | decide | exact Nat.ble_eq_true_of_le (by omega)) (k_rhowMany (jh_row37 g1) fb (by omega)) (st' := [_]) rfl ?_
    refine je_ps jb_X11_helps 1 (pc' := 91) (ls' := [_, _, _, _]) (st' := [_, _]) rfl ?_
    refine je_get jb_X11_helps rfl (pc' := 94) rfl (jh_at (a := 0) rfl) (by rfl) (by rfl) ?_
    refine je_ps jb_X11_helps 1 (pc' := 95) (ls' := [_, _, _, _]) (st' := [_, _, _]) rfl ?_
    refine je_cvP' jb_X11_helps rfl (pc' := 98) rfl (jh_at (a := 39) rfl) (by rfl) (by first | decide | exact Nat.ble_eq_true_of_le (by omega)) (k_rhowMany (jh_row37 g1) fb (by omega)) (st' := [_, _]) rfl ?_
    refine je_isub jb_X11_helps rfl (pc' := 99) rfl ?_
    rw [show aHelps A x y = (aHelpsV (aH A x.toNat) y, A) from by unfold aHelps; rw [if_pos hh, if_pos (by omega)]]
    exact je_ret jb_X11_helps rfl (by rfl) ⟨_, _, _, by unfold aHelpsV; rw [if_neg (by omega), if_neg (by omega), if_neg (by omega)]; rw [how_rep (f := (fRAl 110 (q7.1, 0) l).1) (z := (fRAl 110 (q7.1, 0) l).2) R, how_rep (f := (fRAl 110 (q7.1, 0) l).1) (z := (fRAl 110 (q7.1, 0) l).2) R]; unfold hMov; rw [e7], rfl, I1, (kG.rfl' m).r37 _, tG.rfl' T⟩
  · refine je_swO jb_X11_helps rfl (t := 100) rfl (by omega) (by omega) c35 ?_
    refine je_ps jb_X11_helps 2 (pc' := 103) (ls' := [_, _, _, _]) (st' := [_, _]) rfl ?_
    refine je_cvP' jb_X11_helps rfl (pc' := 106) rfl (jh_at (a := 0) rfl) (by rfl) (by first | decide | exact Nat.ble_eq_true_of_le (by omega)) (c_X11_refuseFar (by omega)) (st' := [_]) rfl ?_
    rw [show aHelps A x y = aFar A (-2) from by unfold aHelps; rw [if_pos hh, if_neg (by omega)]]
    exact je_ret jb_X11_helps rfl (by rfl) ⟨_, _, _, rfl, rfl, I1.ref (by omega), ((kG.rfl' m).r37 _).u (by decide) _, tG.rfl' T⟩
theorem cl_taken_0 {A : aT} (I : iC A m r T) {x y : Int} (hh : 0 ≤ x ∧ x < (aHc A : Int)) (hk : (aH A x.toNat).1 = 2) (hx : -2147483648 ≤ x ∧ x ≤ 2147483647) (hy : -2147483648 ≤ y ∧ y ≤ 2147483647) : jq sc 4 jm_X11_taken [.ref 0, .int (jI x), .int (jI y)] (jh m r T) (cQ (aTaken A x y) m T) := by
  have c6 := I.c6
  have fs := I.fs
  obtain ⟨u, hu1, hu2⟩ := I.he x.toNat (by omega)
  have ho := I.ho (i := x.toNat) (by omega)
  rw [hk] at hu2
  have gT : T[u]? = some (0, [.int (jI (aH A x.toNat).2)]) := hu2
  refine je_in jb_X11_taken rfl (ls := [_, _, _, _]) rfl ?_
  refine je_ps jb_X11_taken 1 (pc' := 1) (ls' := [_, _, _, _]) (st' := [_]) rfl ?_
  refine je_get jb_X11_taken rfl (pc' := 4) rfl (jh_at (a := 0) rfl) (by rfl) (by rfl) ?_
  refine je_ps jb_X11_taken 1 (pc' := 5) (ls' := [_, _, _, _]) (st' := [_, _]) rfl ?_
  refine je_cvP' jb_X11_taken rfl (pc' := 8) rfl (jh_at (a := 1) rfl) (by rfl) (by first | decide | exact Nat.ble_eq_true_of_le (by omega)) (hAt_t I hh hu1) (st' := [_]) rfl ?_
  refine je_ps jb_X11_taken 2 (pc' := 10) (ls' := [_, _, _, _]) (st' := [_]) rfl ?_
  refine je_ifnonnullR jb_X11_taken rfl (t := 19) rfl (pc' := 13) rfl ?_
  refine je_ps jb_X11_taken 1 (pc' := 20) (ls' := [_, _, _, _]) (st' := [_]) rfl ?_
  refine je_csP' jb_X11_taken rfl (pc' := 23) rfl (by rfl) (by first | decide | exact Nat.ble_eq_true_of_le (by omega)) (c_X11_isKind (by omega)) (st' := [_]) rfl ?_
  refine je_ifneb jb_X11_taken rfl (t := 33) rfl (pc' := 26) rfl (fun c23 => ?_) (fun c23 => ?_)
  · refine je_ps jb_X11_taken 2 (pc' := 35) (ls' := [_, _, _, _]) (st' := [_, _]) rfl ?_
    refine je_csP' jb_X11_taken rfl (pc' := 38) rfl (by rfl) (by first | decide | exact Nat.ble_eq_true_of_le (by omega)) (isOf_0 (jh_tl gT) (by have := of_decide_eq_true c23; omega)) (st' := [_]) rfl ?_
    refine je_ifeqb jb_X11_taken rfl (t := 48) rfl (pc' := 41) rfl (fun c38 => ?_) (fun c38 => ?_)
    · refine je_ps jb_X11_taken 1 (pc' := 50) (ls' := [_, _, _, _]) (st' := [_]) rfl ?_
      first | (rw [show aTaken A x y = ((aH A x.toNat).1, A) from by unfold aTaken; rw [if_pos hh, if_pos (of_decide_eq_true c23), hk, if_pos c38], hk]; exact je_ret jb_X11_taken rfl (by rfl) ⟨_, _, _, rfl, rfl, I, kG.rfl' m, tG.rfl' T⟩) | (rw [show aTaken A x y = (-16, A) from by unfold aTaken; rw [if_pos hh, if_pos (of_decide_eq_true c23), hk, if_neg (by rw [c38]; decide)]]; exact je_ret jb_X11_taken rfl (by rfl) ⟨_, _, _, rfl, rfl, I, kG.rfl' m, tG.rfl' T⟩)
    · refine je_ps jb_X11_taken 1 (pc' := 42) (ls' := [_, _, _, _]) (st' := [_]) rfl ?_
      refine je_cvP' jb_X11_taken rfl (pc' := 45) rfl (jh_tl gT) (by rfl) (by first | decide | exact Nat.ble_eq_true_of_le (by omega)) (k0_kind (jh_tl gT)) (st' := [_]) rfl ?_
      refine je_ps jb_X11_taken 1 (pc' := 50) (ls' := [_, _, _, _]) (st' := [_]) rfl ?_
      first | (rw [show aTaken A x y = ((aH A x.toNat).1, A) from by unfold aTaken; rw [if_pos hh, if_pos (of_decide_eq_true c23), hk, if_pos c38], hk]; exact je_ret jb_X11_taken rfl (by rfl) ⟨_, _, _, rfl, rfl, I, kG.rfl' m, tG.rfl' T⟩) | (rw [show aTaken A x y = (-16, A) from by unfold aTaken; rw [if_pos hh, if_pos (of_decide_eq_true c23), hk, if_neg (by rw [c38]; decide)]]; exact je_ret jb_X11_taken rfl (by rfl) ⟨_, _, _, rfl, rfl, I, kG.rfl' m, tG.rfl' T⟩)
  · refine je_ps jb_X11_taken 2 (pc' := 29) (ls' := [_, _, _, _]) (st' := [_, _]) rfl ?_
    refine je_cvP' jb_X11_taken rfl (pc' := 32) rfl (jh_at (a := 0) rfl) (by rfl) (by first | decide | exact Nat.ble_eq_true_of_le (by omega)) (c_X11_refuse (by omega)) (st' := [_]) rfl ?_
    rw [show aTaken A x y = aRef A (-2) from by unfold aTaken; rw [if_pos hh, if_neg (of_decide_eq_false c23)]]
    exact je_ret jb_X11_taken rfl (by rfl) ⟨_, _, _, rfl, rfl, I.ref (by omega), kG.ref m _, tG.rfl' T⟩
theorem cl_helps_7 {A : aT} (I : iC A m r T) {x y : Int} (hh : 0 ≤ x ∧ x < (aHc A : Int)) (hk : (aH A x.toNat).1 = 3) (hx : -2147483648 ≤ x ∧ x ≤ 2147483647) (hy : -2147483648 ≤ y ∧ y ≤ 2147483647) : jq sc 10 jm_X11_helps [.ref 0, .int (jI x), .int (jI y)] (jh m r T) (cQ (aHelps A x y) m T) := by
  have c6 := I.c6
  have fs := I.fs
  obtain ⟨u, hu1, hu2⟩ := I.he x.toNat (by omega)
  have ho := I.ho (i := x.toNat) (by omega)
  rw [hk] at hu2
  have gT : T[u]? = some (7, [.int (jI (aH A x.toNat).2)]) := hu2
  obtain ⟨q7, gq7, ok7⟩ := I.q7
  obtain ⟨l, hl⟩ : ∃ l, sp7 (aH A x.toNat).2 = l := ⟨_, rfl⟩
  have e7 : hSp (aH A x.toNat).1 (aH A x.toNat).2 = l := by rw [hk, ← hl]; rfl
  have hs := hSp_i ho.1 ho.2
  rw [e7] at hs
  have g0 : jQ37 (jR37 m (q7.1, 0)) (q7.1, 0) := jQ37_R m (q := (q7.1, 0)) (Int.le_refl 0) (by show (0 : Int) ≤ 110; decide)
  have R := fRAl_rep (N := 110) l (q7.1, 0) [] ⟨rfl, fun j hj => absurd hj (by simp)⟩ (by rw [List.length_nil]; omega)
  rw [List.nil_append] at R
  have fi := fRAl_i (N := 110) l (q := (q7.1, 0)) ⟨Int.le_refl 0, by show (0 : Int) ≤ 110; decide⟩
  have fb := fRAl_b (N := 110) l (q7.1, 0) ok7 (fun z hz => by have := hs.2 z hz; omega)
  have I1 := I.r37 fi fb
  have g1 := jQ37_R m fi.1 fi.2
  refine je_in jb_X11_helps rfl (ls := [_, _, _, _]) rfl ?_
  refine je_ps jb_X11_helps 1 (pc' := 1) (ls' := [_, _, _, _]) (st' := [_]) rfl ?_
  refine je_get jb_X11_helps rfl (pc' := 4) rfl (jh_at (a := 0) rfl) (by rfl) (by rfl) ?_
  refine je_ps jb_X11_helps 1 (pc' := 5) (ls' := [_, _, _, _]) (st' := [_, _]) rfl ?_
  refine je_cvP' jb_X11_helps rfl (pc' := 8) rfl (jh_at (a := 1) rfl) (by rfl) (by first | decide | exact Nat.ble_eq_true_of_le (by omega)) (hAt_t I hh hu1) (st' := [_]) rfl ?_
  refine je_ps jb_X11_helps 2 (pc' := 10) (ls' := [_, _, _, _]) (st' := [_]) rfl ?_
  refine je_ifnonnullR jb_X11_helps rfl (t := 19) rfl (pc' := 13) rfl ?_
  refine je_ps jb_X11_helps 1 (pc' := 20) (ls' := [_, _, _, _]) (st' := [_]) rfl ?_
  refine je_get jb_X11_helps rfl (pc' := 23) rfl (jh_at (a := 0) rfl) (by rfl) (by rfl) ?_
  refine je_cvP' jb_X11_helps rfl (pc' := 26) rfl (jh_at (a := 39) rfl) (by rfl) (by first | decide | exact Nat.ble_eq_true_of_le (by omega)) (k37_clear gq7) (st' := []) rfl ?_
  refine je_ps jb_X11_helps 2 (pc' := 28) (ls' := [_, _, _, _]) (st' := [_, _]) rfl ?_
  refine je_get jb_X11_helps rfl (pc' := 31) rfl (jh_at (a := 0) rfl) (by rfl) (by rfl) ?_
  refine je_cvP' jb_X11_helps rfl (pc' := 34) rfl (jh_tl gT) (by rfl) (by first | decide | exact Nat.ble_eq_true_of_le (by omega)) (k37_spell_7 g0 hl gT ho.2) (st' := []) rfl ?_
  rw [jR37_R]
  refine je_ps jb_X11_helps 1 (pc' := 35) (ls' := [_, _, _, _]) (st' := [_]) rfl ?_
  refine je_swc fun y35 ey35 => ?_
  rcases (by omega : y35 = 0 ∨ y35 = 1 ∨ y35 = 2 ∨ y35 = 3 ∨ (y35 < 0 ∨ 3 < y35)) with c35 | c35 | c35 | c35 | c35
  · rw [c35]
    refine je_sw jb_X11_helps rfl (t := 64) (st' := []) rfl ?_
    refine je_ps jb_X11_helps 1 (pc' := 65) (ls' := [_, _, _, _]) (st' := [_]) rfl ?_
    refine je_cvP' jb_X11_helps rfl (pc' := 68) rfl (jh_tl gT) (by rfl) (by first | decide | exact Nat.ble_eq_true_of_le (by omega)) (k7_kind (jh_tl gT)) (st' := [_]) rfl ?_
    rw [show aHelps A x y = (aHelpsV (aH A x.toNat) y, A) from by unfold aHelps; rw [if_pos hh, if_pos (by omega)]]
    exact je_ret jb_X11_helps rfl (by rfl) ⟨_, _, _, by unfold aHelpsV; rw [if_pos (by omega)]; rw [hk], rfl, I1, (kG.rfl' m).r37 _, tG.rfl' T⟩
  · rw [c35]
    refine je_sw jb_X11_helps rfl (t := 69) (st' := []) rfl ?_
    refine je_ps jb_X11_helps 1 (pc' := 70) (ls' := [_, _, _, _]) (st' := [_]) rfl ?_
    refine je_get jb_X11_helps rfl (pc' := 73) rfl (jh_tl gT) (by rfl) (by rfl) ?_
    rw [show aHelps A x y = (aHelpsV (aH A x.toNat) y, A) from by unfold aHelps; rw [if_pos hh, if_pos (by omega)]]
    exact je_ret jb_X11_helps rfl (by rfl) ⟨_, _, _, by unfold aHelpsV; rw [if_neg (by omega), if_pos (by omega)]; all_goals rfl, rfl, I1, (kG.rfl' m).r37 _, tG.rfl' T⟩
  · rw [c35]
    refine je_sw jb_X11_helps rfl (t := 74) (st' := []) rfl ?_
    refine je_ps jb_X11_helps 1 (pc' := 75) (ls' := [_, _, _, _]) (st' := [_]) rfl ?_
    refine je_get jb_X11_helps rfl (pc' := 78) rfl (jh_at (a := 0) rfl) (by rfl) (by rfl) ?_
    refine je_get jb_X11_helps rfl (pc' := 81) rfl (jh_at (a := 39) rfl) (by rfl) (by rfl) ?_
    rw [show aHelps A x y = (aHelpsV (aH A x.toNat) y, A) from by unfold aHelps; rw [if_pos hh, if_pos (by omega)]]
    exact je_ret jb_X11_helps rfl (by rfl) ⟨_, _, _, by unfold aHelpsV; rw [if_neg (by omega), if_neg (by omega), if_pos (by omega)]; rw [g1.2.1, R.1]; show _ = some (Value.int (jI (((hSp (aH A x.toNat).1 (aH A x.toNat).2).length : Nat) : Int))); rw [e7], rfl, I1, (kG.rfl' m).r37 _, tG.rfl' T⟩
  · rw [c35]
    refine je_sw jb_X11_helps rfl (t := 82) (st' := []) rfl ?_
    refine je_ps jb_X11_helps 1 (pc' := 83) (ls' := [_, _, _, _]) (st' := [_]) rfl ?_
    refine je_get jb_X11_helps rfl (pc' := 86) rfl (jh_at (a := 0) rfl) (by rfl) (by rfl) ?_
    refine je_ps jb_X11_helps 1 (pc' := 87) (ls' := [_, _, _, _]) (st' := [_, _]) rfl ?_
    refine je_cvP' jb_X11_helps rfl (pc' := 90) rfl (jh_at (a := 39) rfl) (by rfl) (by first | decide | exact Nat.ble_eq_true_of_le (by omega)) (k_rhowMany (jh_row37 g1) fb (by omega)) (st' := [_]) rfl ?_
    refine je_ps jb_X11_helps 1 (pc' := 91) (ls' := [_, _, _, _]) (st' := [_, _]) rfl ?_
    refine je_get jb_X11_helps rfl (pc' := 94) rfl (jh_at (a := 0) rfl) (by rfl) (by rfl) ?_
    refine je_ps jb_X11_helps 1 (pc' := 95) (ls' := [_, _, _, _]) (st' := [_, _, _]) rfl ?_
    refine je_cvP' jb_X11_helps rfl (pc' := 98) rfl (jh_at (a := 39) rfl) (by rfl) (by first | decide | exact Nat.ble_eq_true_of_le (by omega)) (k_rhowMany (jh_row37 g1) fb (by omega)) (st' := [_, _]) rfl ?_
    refine je_isub jb_X11_helps rfl (pc' := 99) rfl ?_
    rw [show aHelps A x y = (aHelpsV (aH A x.toNat) y, A) from by unfold aHelps; rw [if_pos hh, if_pos (by omega)]]
    exact je_ret jb_X11_helps rfl (by rfl) ⟨_, _, _, by unfold aHelpsV; rw [if_neg (by omega), if_neg (by omega), if_neg (by omega)]; rw [how_rep (f := (fRAl 110 (q7.1, 0) l).1) (z := (fRAl 110 (q7.1, 0) l).2) R, how_rep (f := (fRAl 110 (q7.1, 0) l).1) (z := (fRAl 110 (q7.1, 0) l).2) R]; unfold hMov; rw [e7], rfl, I1, (kG.rfl' m).r37 _, tG.rfl' T⟩
  · refine je_swO jb_X11_helps rfl (t := 100) rfl (by omega) (by omega) c35 ?_
    refine je_ps jb_X11_helps 2 (pc' := 103) (ls' := [_, _, _, _]) (st' := [_, _]) rfl ?_
    refine je_cvP' jb_X11_helps rfl (pc' := 106) rfl (jh_at (a := 0) rfl) (by rfl) (by first | decide | exact Nat.ble_eq_true_of_le (by omega)) (c_X11_refuseFar (by omega)) (st' := [_]) rfl ?_
    rw [show aHelps A x y = aFar A (-2) from by unfold aHelps; rw [if_pos hh, if_neg (by omega)]]
    exact je_ret jb_X11_helps rfl (by rfl) ⟨_, _, _, rfl, rfl, I1.ref (by omega), ((kG.rfl' m).r37 _).u (by decide) _, tG.rfl' T⟩
theorem cl_taken_7 {A : aT} (I : iC A m r T) {x y : Int} (hh : 0 ≤ x ∧ x < (aHc A : Int)) (hk : (aH A x.toNat).1 = 3) (hx : -2147483648 ≤ x ∧ x ≤ 2147483647) (hy : -2147483648 ≤ y ∧ y ≤ 2147483647) : jq sc 4 jm_X11_taken [.ref 0, .int (jI x), .int (jI y)] (jh m r T) (cQ (aTaken A x y) m T) := by
  have c6 := I.c6
  have fs := I.fs
  obtain ⟨u, hu1, hu2⟩ := I.he x.toNat (by omega)
  have ho := I.ho (i := x.toNat) (by omega)
  rw [hk] at hu2
  have gT : T[u]? = some (7, [.int (jI (aH A x.toNat).2)]) := hu2
  refine je_in jb_X11_taken rfl (ls := [_, _, _, _]) rfl ?_
  refine je_ps jb_X11_taken 1 (pc' := 1) (ls' := [_, _, _, _]) (st' := [_]) rfl ?_
  refine je_get jb_X11_taken rfl (pc' := 4) rfl (jh_at (a := 0) rfl) (by rfl) (by rfl) ?_
  refine je_ps jb_X11_taken 1 (pc' := 5) (ls' := [_, _, _, _]) (st' := [_, _]) rfl ?_
  refine je_cvP' jb_X11_taken rfl (pc' := 8) rfl (jh_at (a := 1) rfl) (by rfl) (by first | decide | exact Nat.ble_eq_true_of_le (by omega)) (hAt_t I hh hu1) (st' := [_]) rfl ?_
  refine je_ps jb_X11_taken 2 (pc' := 10) (ls' := [_, _, _, _]) (st' := [_]) rfl ?_
  refine je_ifnonnullR jb_X11_taken rfl (t := 19) rfl (pc' := 13) rfl ?_
  refine je_ps jb_X11_taken 1 (pc' := 20) (ls' := [_, _, _, _]) (st' := [_]) rfl ?_
  refine je_csP' jb_X11_taken rfl (pc' := 23) rfl (by rfl) (by first | decide | exact Nat.ble_eq_true_of_le (by omega)) (c_X11_isKind (by omega)) (st' := [_]) rfl ?_
  refine je_ifneb jb_X11_taken rfl (t := 33) rfl (pc' := 26) rfl (fun c23 => ?_) (fun c23 => ?_)
  · refine je_ps jb_X11_taken 2 (pc' := 35) (ls' := [_, _, _, _]) (st' := [_, _]) rfl ?_
    refine je_csP' jb_X11_taken rfl (pc' := 38) rfl (by rfl) (by first | decide | exact Nat.ble_eq_true_of_le (by omega)) (isOf_7 (jh_tl gT) (by have := of_decide_eq_true c23; omega)) (st' := [_]) rfl ?_
    refine je_ifeqb jb_X11_taken rfl (t := 48) rfl (pc' := 41) rfl (fun c38 => ?_) (fun c38 => ?_)
    · refine je_ps jb_X11_taken 1 (pc' := 50) (ls' := [_, _, _, _]) (st' := [_]) rfl ?_
      first | (rw [show aTaken A x y = ((aH A x.toNat).1, A) from by unfold aTaken; rw [if_pos hh, if_pos (of_decide_eq_true c23), hk, if_pos c38], hk]; exact je_ret jb_X11_taken rfl (by rfl) ⟨_, _, _, rfl, rfl, I, kG.rfl' m, tG.rfl' T⟩) | (rw [show aTaken A x y = (-16, A) from by unfold aTaken; rw [if_pos hh, if_pos (of_decide_eq_true c23), hk, if_neg (by rw [c38]; decide)]]; exact je_ret jb_X11_taken rfl (by rfl) ⟨_, _, _, rfl, rfl, I, kG.rfl' m, tG.rfl' T⟩)
    · refine je_ps jb_X11_taken 1 (pc' := 42) (ls' := [_, _, _, _]) (st' := [_]) rfl ?_
      refine je_cvP' jb_X11_taken rfl (pc' := 45) rfl (jh_tl gT) (by rfl) (by first | decide | exact Nat.ble_eq_true_of_le (by omega)) (k7_kind (jh_tl gT)) (st' := [_]) rfl ?_
      refine je_ps jb_X11_taken 1 (pc' := 50) (ls' := [_, _, _, _]) (st' := [_]) rfl ?_
      first | (rw [show aTaken A x y = ((aH A x.toNat).1, A) from by unfold aTaken; rw [if_pos hh, if_pos (of_decide_eq_true c23), hk, if_pos c38], hk]; exact je_ret jb_X11_taken rfl (by rfl) ⟨_, _, _, rfl, rfl, I, kG.rfl' m, tG.rfl' T⟩) | (rw [show aTaken A x y = (-16, A) from by unfold aTaken; rw [if_pos hh, if_pos (of_decide_eq_true c23), hk, if_neg (by rw [c38]; decide)]]; exact je_ret jb_X11_taken rfl (by rfl) ⟨_, _, _, rfl, rfl, I, kG.rfl' m, tG.rfl' T⟩)
  · refine je_ps jb_X11_taken 2 (pc' := 29) (ls' := [_, _, _, _]) (st' := [_, _]) rfl ?_
    refine je_cvP' jb_X11_taken rfl (pc' := 32) rfl (jh_at (a := 0) rfl) (by rfl) (by first | decide | exact Nat.ble_eq_true_of_le (by omega)) (c_X11_refuse (by omega)) (st' := [_]) rfl ?_
    rw [show aTaken A x y = aRef A (-2) from by unfold aTaken; rw [if_pos hh, if_neg (of_decide_eq_false c23)]]
    exact je_ret jb_X11_taken rfl (by rfl) ⟨_, _, _, rfl, rfl, I.ref (by omega), kG.ref m _, tG.rfl' T⟩
theorem cl_helps_1 {A : aT} (I : iC A m r T) {x y : Int} (hh : 0 ≤ x ∧ x < (aHc A : Int)) (hk : (aH A x.toNat).1 = 4) (hx : -2147483648 ≤ x ∧ x ≤ 2147483647) (hy : -2147483648 ≤ y ∧ y ≤ 2147483647) : jq sc 10 jm_X11_helps [.ref 0, .int (jI x), .int (jI y)] (jh m r T) (cQ (aHelps A x y) m T) := by
  have c6 := I.c6
  have fs := I.fs
  obtain ⟨u, hu1, hu2⟩ := I.he x.toNat (by omega)
  have ho := I.ho (i := x.toNat) (by omega)
  rw [hk] at hu2
  have gT : T[u]? = some (1, [.int (jI (aH A x.toNat).2)]) := hu2
  obtain ⟨q7, gq7, ok7⟩ := I.q7
  obtain ⟨l, hl⟩ : ∃ l, sp1 (aH A x.toNat).2 = l := ⟨_, rfl⟩
  have e7 : hSp (aH A x.toNat).1 (aH A x.toNat).2 = l := by rw [hk, ← hl]; rfl
  have hs := hSp_i ho.1 ho.2
  rw [e7] at hs
  have g0 : jQ37 (jR37 m (q7.1, 0)) (q7.1, 0) := jQ37_R m (q := (q7.1, 0)) (Int.le_refl 0) (by show (0 : Int) ≤ 110; decide)
  have R := fRAl_rep (N := 110) l (q7.1, 0) [] ⟨rfl, fun j hj => absurd hj (by simp)⟩ (by rw [List.length_nil]; omega)
  rw [List.nil_append] at R
  have fi := fRAl_i (N := 110) l (q := (q7.1, 0)) ⟨Int.le_refl 0, by show (0 : Int) ≤ 110; decide⟩
  have fb := fRAl_b (N := 110) l (q7.1, 0) ok7 (fun z hz => by have := hs.2 z hz; omega)
  have I1 := I.r37 fi fb
  have g1 := jQ37_R m fi.1 fi.2
  refine je_in jb_X11_helps rfl (ls := [_, _, _, _]) rfl ?_
  refine je_ps jb_X11_helps 1 (pc' := 1) (ls' := [_, _, _, _]) (st' := [_]) rfl ?_
  refine je_get jb_X11_helps rfl (pc' := 4) rfl (jh_at (a := 0) rfl) (by rfl) (by rfl) ?_
  refine je_ps jb_X11_helps 1 (pc' := 5) (ls' := [_, _, _, _]) (st' := [_, _]) rfl ?_
  refine je_cvP' jb_X11_helps rfl (pc' := 8) rfl (jh_at (a := 1) rfl) (by rfl) (by first | decide | exact Nat.ble_eq_true_of_le (by omega)) (hAt_t I hh hu1) (st' := [_]) rfl ?_
  refine je_ps jb_X11_helps 2 (pc' := 10) (ls' := [_, _, _, _]) (st' := [_]) rfl ?_
  refine je_ifnonnullR jb_X11_helps rfl (t := 19) rfl (pc' := 13) rfl ?_
  refine je_ps jb_X11_helps 1 (pc' := 20) (ls' := [_, _, _, _]) (st' := [_]) rfl ?_
  refine je_get jb_X11_helps rfl (pc' := 23) rfl (jh_at (a := 0) rfl) (by rfl) (by rfl) ?_
  refine je_cvP' jb_X11_helps rfl (pc' := 26) rfl (jh_at (a := 39) rfl) (by rfl) (by first | decide | exact Nat.ble_eq_true_of_le (by omega)) (k37_clear gq7) (st' := []) rfl ?_
  refine je_ps jb_X11_helps 2 (pc' := 28) (ls' := [_, _, _, _]) (st' := [_, _]) rfl ?_
  refine je_get jb_X11_helps rfl (pc' := 31) rfl (jh_at (a := 0) rfl) (by rfl) (by rfl) ?_
  refine je_cvP' jb_X11_helps rfl (pc' := 34) rfl (jh_tl gT) (by rfl) (by first | decide | exact Nat.ble_eq_true_of_le (by omega)) (k37_spell_1 g0 hl gT ho.2) (st' := []) rfl ?_
  rw [jR37_R]
  refine je_ps jb_X11_helps 1 (pc' := 35) (ls' := [_, _, _, _]) (st' := [_]) rfl ?_
  refine je_swc fun y35 ey35 => ?_
  rcases (by omega : y35 = 0 ∨ y35 = 1 ∨ y35 = 2 ∨ y35 = 3 ∨ (y35 < 0 ∨ 3 < y35)) with c35 | c35 | c35 | c35 | c35
  · rw [c35]
    refine je_sw jb_X11_helps rfl (t := 64) (st' := []) rfl ?_
    refine je_ps jb_X11_helps 1 (pc' := 65) (ls' := [_, _, _, _]) (st' := [_]) rfl ?_
    refine je_cvP' jb_X11_helps rfl (pc' := 68) rfl (jh_tl gT) (by rfl) (by first | decide | exact Nat.ble_eq_true_of_le (by omega)) (k1_kind (jh_tl gT)) (st' := [_]) rfl ?_
    rw [show aHelps A x y = (aHelpsV (aH A x.toNat) y, A) from by unfold aHelps; rw [if_pos hh, if_pos (by omega)]]
    exact je_ret jb_X11_helps rfl (by rfl) ⟨_, _, _, by unfold aHelpsV; rw [if_pos (by omega)]; rw [hk], rfl, I1, (kG.rfl' m).r37 _, tG.rfl' T⟩
  · rw [c35]
    refine je_sw jb_X11_helps rfl (t := 69) (st' := []) rfl ?_
    refine je_ps jb_X11_helps 1 (pc' := 70) (ls' := [_, _, _, _]) (st' := [_]) rfl ?_
    refine je_get jb_X11_helps rfl (pc' := 73) rfl (jh_tl gT) (by rfl) (by rfl) ?_
    rw [show aHelps A x y = (aHelpsV (aH A x.toNat) y, A) from by unfold aHelps; rw [if_pos hh, if_pos (by omega)]]
    exact je_ret jb_X11_helps rfl (by rfl) ⟨_, _, _, by unfold aHelpsV; rw [if_neg (by omega), if_pos (by omega)]; all_goals rfl, rfl, I1, (kG.rfl' m).r37 _, tG.rfl' T⟩
  · rw [c35]
    refine je_sw jb_X11_helps rfl (t := 74) (st' := []) rfl ?_
    refine je_ps jb_X11_helps 1 (pc' := 75) (ls' := [_, _, _, _]) (st' := [_]) rfl ?_
    refine je_get jb_X11_helps rfl (pc' := 78) rfl (jh_at (a := 0) rfl) (by rfl) (by rfl) ?_
    refine je_get jb_X11_helps rfl (pc' := 81) rfl (jh_at (a := 39) rfl) (by rfl) (by rfl) ?_
    rw [show aHelps A x y = (aHelpsV (aH A x.toNat) y, A) from by unfold aHelps; rw [if_pos hh, if_pos (by omega)]]
    exact je_ret jb_X11_helps rfl (by rfl) ⟨_, _, _, by unfold aHelpsV; rw [if_neg (by omega), if_neg (by omega), if_pos (by omega)]; rw [g1.2.1, R.1]; show _ = some (Value.int (jI (((hSp (aH A x.toNat).1 (aH A x.toNat).2).length : Nat) : Int))); rw [e7], rfl, I1, (kG.rfl' m).r37 _, tG.rfl' T⟩
  · rw [c35]
    refine je_sw jb_X11_helps rfl (t := 82) (st' := []) rfl ?_
    refine je_ps jb_X11_helps 1 (pc' := 83) (ls' := [_, _, _, _]) (st' := [_]) rfl ?_
    refine je_get jb_X11_helps rfl (pc' := 86) rfl (jh_at (a := 0) rfl) (by rfl) (by rfl) ?_
    refine je_ps jb_X11_helps 1 (pc' := 87) (ls' := [_, _, _, _]) (st' := [_, _]) rfl ?_
    refine je_cvP' jb_X11_helps rfl (pc' := 90) rfl (jh_at (a := 39) rfl) (by rfl) (by first | decide | exact Nat.ble_eq_true_of_le (by omega)) (k_rhowMany (jh_row37 g1) fb (by omega)) (st' := [_]) rfl ?_
    refine je_ps jb_X11_helps 1 (pc' := 91) (ls' := [_, _, _, _]) (st' := [_, _]) rfl ?_
    refine je_get jb_X11_helps rfl (pc' := 94) rfl (jh_at (a := 0) rfl) (by rfl) (by rfl) ?_
    refine je_ps jb_X11_helps 1 (pc' := 95) (ls' := [_, _, _, _]) (st' := [_, _, _]) rfl ?_
    refine je_cvP' jb_X11_helps rfl (pc' := 98) rfl (jh_at (a := 39) rfl) (by rfl) (by first | decide | exact Nat.ble_eq_true_of_le (by omega)) (k_rhowMany (jh_row37 g1) fb (by omega)) (st' := [_, _]) rfl ?_
    refine je_isub jb_X11_helps rfl (pc' := 99) rfl ?_
    rw [show aHelps A x y = (aHelpsV (aH A x.toNat) y, A) from by unfold aHelps; rw [if_pos hh, if_pos (by omega)]]
    exact je_ret jb_X11_helps rfl (by rfl) ⟨_, _, _, by unfold aHelpsV; rw [if_neg (by omega), if_neg (by omega), if_neg (by omega)]; rw [how_rep (f := (fRAl 110 (q7.1, 0) l).1) (z := (fRAl 110 (q7.1, 0) l).2) R, how_rep (f := (fRAl 110 (q7.1, 0) l).1) (z := (fRAl 110 (q7.1, 0) l).2) R]; unfold hMov; rw [e7], rfl, I1, (kG.rfl' m).r37 _, tG.rfl' T⟩
  · refine je_swO jb_X11_helps rfl (t := 100) rfl (by omega) (by omega) c35 ?_
    refine je_ps jb_X11_helps 2 (pc' := 103) (ls' := [_, _, _, _]) (st' := [_, _]) rfl ?_
    refine je_cvP' jb_X11_helps rfl (pc' := 106) rfl (jh_at (a := 0) rfl) (by rfl) (by first | decide | exact Nat.ble_eq_true_of_le (by omega)) (c_X11_refuseFar (by omega)) (st' := [_]) rfl ?_
    rw [show aHelps A x y = aFar A (-2) from by unfold aHelps; rw [if_pos hh, if_neg (by omega)]]
    exact je_ret jb_X11_helps rfl (by rfl) ⟨_, _, _, rfl, rfl, I1.ref (by omega), ((kG.rfl' m).r37 _).u (by decide) _, tG.rfl' T⟩
theorem cl_taken_1 {A : aT} (I : iC A m r T) {x y : Int} (hh : 0 ≤ x ∧ x < (aHc A : Int)) (hk : (aH A x.toNat).1 = 4) (hx : -2147483648 ≤ x ∧ x ≤ 2147483647) (hy : -2147483648 ≤ y ∧ y ≤ 2147483647) : jq sc 4 jm_X11_taken [.ref 0, .int (jI x), .int (jI y)] (jh m r T) (cQ (aTaken A x y) m T) := by
  have c6 := I.c6
  have fs := I.fs
  obtain ⟨u, hu1, hu2⟩ := I.he x.toNat (by omega)
  have ho := I.ho (i := x.toNat) (by omega)
  rw [hk] at hu2
  have gT : T[u]? = some (1, [.int (jI (aH A x.toNat).2)]) := hu2
  refine je_in jb_X11_taken rfl (ls := [_, _, _, _]) rfl ?_
  refine je_ps jb_X11_taken 1 (pc' := 1) (ls' := [_, _, _, _]) (st' := [_]) rfl ?_
  refine je_get jb_X11_taken rfl (pc' := 4) rfl (jh_at (a := 0) rfl) (by rfl) (by rfl) ?_
  refine je_ps jb_X11_taken 1 (pc' := 5) (ls' := [_, _, _, _]) (st' := [_, _]) rfl ?_
  refine je_cvP' jb_X11_taken rfl (pc' := 8) rfl (jh_at (a := 1) rfl) (by rfl) (by first | decide | exact Nat.ble_eq_true_of_le (by omega)) (hAt_t I hh hu1) (st' := [_]) rfl ?_
  refine je_ps jb_X11_taken 2 (pc' := 10) (ls' := [_, _, _, _]) (st' := [_]) rfl ?_
  refine je_ifnonnullR jb_X11_taken rfl (t := 19) rfl (pc' := 13) rfl ?_
  refine je_ps jb_X11_taken 1 (pc' := 20) (ls' := [_, _, _, _]) (st' := [_]) rfl ?_
  refine je_csP' jb_X11_taken rfl (pc' := 23) rfl (by rfl) (by first | decide | exact Nat.ble_eq_true_of_le (by omega)) (c_X11_isKind (by omega)) (st' := [_]) rfl ?_
  refine je_ifneb jb_X11_taken rfl (t := 33) rfl (pc' := 26) rfl (fun c23 => ?_) (fun c23 => ?_)
  · refine je_ps jb_X11_taken 2 (pc' := 35) (ls' := [_, _, _, _]) (st' := [_, _]) rfl ?_
    refine je_csP' jb_X11_taken rfl (pc' := 38) rfl (by rfl) (by first | decide | exact Nat.ble_eq_true_of_le (by omega)) (isOf_1 (jh_tl gT) (by have := of_decide_eq_true c23; omega)) (st' := [_]) rfl ?_
    refine je_ifeqb jb_X11_taken rfl (t := 48) rfl (pc' := 41) rfl (fun c38 => ?_) (fun c38 => ?_)
    · refine je_ps jb_X11_taken 1 (pc' := 50) (ls' := [_, _, _, _]) (st' := [_]) rfl ?_
      first | (rw [show aTaken A x y = ((aH A x.toNat).1, A) from by unfold aTaken; rw [if_pos hh, if_pos (of_decide_eq_true c23), hk, if_pos c38], hk]; exact je_ret jb_X11_taken rfl (by rfl) ⟨_, _, _, rfl, rfl, I, kG.rfl' m, tG.rfl' T⟩) | (rw [show aTaken A x y = (-16, A) from by unfold aTaken; rw [if_pos hh, if_pos (of_decide_eq_true c23), hk, if_neg (by rw [c38]; decide)]]; exact je_ret jb_X11_taken rfl (by rfl) ⟨_, _, _, rfl, rfl, I, kG.rfl' m, tG.rfl' T⟩)
    · refine je_ps jb_X11_taken 1 (pc' := 42) (ls' := [_, _, _, _]) (st' := [_]) rfl ?_
      refine je_cvP' jb_X11_taken rfl (pc' := 45) rfl (jh_tl gT) (by rfl) (by first | decide | exact Nat.ble_eq_true_of_le (by omega)) (k1_kind (jh_tl gT)) (st' := [_]) rfl ?_
      refine je_ps jb_X11_taken 1 (pc' := 50) (ls' := [_, _, _, _]) (st' := [_]) rfl ?_
      first | (rw [show aTaken A x y = ((aH A x.toNat).1, A) from by unfold aTaken; rw [if_pos hh, if_pos (of_decide_eq_true c23), hk, if_pos c38], hk]; exact je_ret jb_X11_taken rfl (by rfl) ⟨_, _, _, rfl, rfl, I, kG.rfl' m, tG.rfl' T⟩) | (rw [show aTaken A x y = (-16, A) from by unfold aTaken; rw [if_pos hh, if_pos (of_decide_eq_true c23), hk, if_neg (by rw [c38]; decide)]]; exact je_ret jb_X11_taken rfl (by rfl) ⟨_, _, _, rfl, rfl, I, kG.rfl' m, tG.rfl' T⟩)
  · refine je_ps jb_X11_taken 2 (pc' := 29) (ls' := [_, _, _, _]) (st' := [_, _]) rfl ?_
    refine je_cvP' jb_X11_taken rfl (pc' := 32) rfl (jh_at (a := 0) rfl) (by rfl) (by first | decide | exact Nat.ble_eq_true_of_le (by omega)) (c_X11_refuse (by omega)) (st' := [_]) rfl ?_
    rw [show aTaken A x y = aRef A (-2) from by unfold aTaken; rw [if_pos hh, if_neg (of_decide_eq_false c23)]]
    exact je_ret jb_X11_taken rfl (by rfl) ⟨_, _, _, rfl, rfl, I.ref (by omega), kG.ref m _, tG.rfl' T⟩
theorem cl_helps_2 {A : aT} (I : iC A m r T) {x y : Int} (hh : 0 ≤ x ∧ x < (aHc A : Int)) (hk : (aH A x.toNat).1 = 5) (hx : -2147483648 ≤ x ∧ x ≤ 2147483647) (hy : -2147483648 ≤ y ∧ y ≤ 2147483647) : jq sc 10 jm_X11_helps [.ref 0, .int (jI x), .int (jI y)] (jh m r T) (cQ (aHelps A x y) m T) := by
  have c6 := I.c6
  have fs := I.fs
  obtain ⟨u, hu1, hu2⟩ := I.he x.toNat (by omega)
  have ho := I.ho (i := x.toNat) (by omega)
  rw [hk] at hu2
  have gT : T[u]? = some (2, [.int (jI (aH A x.toNat).2)]) := hu2
  obtain ⟨q7, gq7, ok7⟩ := I.q7
  obtain ⟨l, hl⟩ : ∃ l, sp2 (aH A x.toNat).2 = l := ⟨_, rfl⟩
  have e7 : hSp (aH A x.toNat).1 (aH A x.toNat).2 = l := by rw [hk, ← hl]; rfl
  have hs := hSp_i ho.1 ho.2
  rw [e7] at hs
  have g0 : jQ37 (jR37 m (q7.1, 0)) (q7.1, 0) := jQ37_R m (q := (q7.1, 0)) (Int.le_refl 0) (by show (0 : Int) ≤ 110; decide)
  have R := fRAl_rep (N := 110) l (q7.1, 0) [] ⟨rfl, fun j hj => absurd hj (by simp)⟩ (by rw [List.length_nil]; omega)
  rw [List.nil_append] at R
  have fi := fRAl_i (N := 110) l (q := (q7.1, 0)) ⟨Int.le_refl 0, by show (0 : Int) ≤ 110; decide⟩
  have fb := fRAl_b (N := 110) l (q7.1, 0) ok7 (fun z hz => by have := hs.2 z hz; omega)
  have I1 := I.r37 fi fb
  have g1 := jQ37_R m fi.1 fi.2
  refine je_in jb_X11_helps rfl (ls := [_, _, _, _]) rfl ?_
  refine je_ps jb_X11_helps 1 (pc' := 1) (ls' := [_, _, _, _]) (st' := [_]) rfl ?_
  refine je_get jb_X11_helps rfl (pc' := 4) rfl (jh_at (a := 0) rfl) (by rfl) (by rfl) ?_
  refine je_ps jb_X11_helps 1 (pc' := 5) (ls' := [_, _, _, _]) (st' := [_, _]) rfl ?_
  refine je_cvP' jb_X11_helps rfl (pc' := 8) rfl (jh_at (a := 1) rfl) (by rfl) (by first | decide | exact Nat.ble_eq_true_of_le (by omega)) (hAt_t I hh hu1) (st' := [_]) rfl ?_
  refine je_ps jb_X11_helps 2 (pc' := 10) (ls' := [_, _, _, _]) (st' := [_]) rfl ?_
  refine je_ifnonnullR jb_X11_helps rfl (t := 19) rfl (pc' := 13) rfl ?_
  refine je_ps jb_X11_helps 1 (pc' := 20) (ls' := [_, _, _, _]) (st' := [_]) rfl ?_
  refine je_get jb_X11_helps rfl (pc' := 23) rfl (jh_at (a := 0) rfl) (by rfl) (by rfl) ?_
  refine je_cvP' jb_X11_helps rfl (pc' := 26) rfl (jh_at (a := 39) rfl) (by rfl) (by first | decide | exact Nat.ble_eq_true_of_le (by omega)) (k37_clear gq7) (st' := []) rfl ?_
  refine je_ps jb_X11_helps 2 (pc' := 28) (ls' := [_, _, _, _]) (st' := [_, _]) rfl ?_
  refine je_get jb_X11_helps rfl (pc' := 31) rfl (jh_at (a := 0) rfl) (by rfl) (by rfl) ?_
  refine je_cvP' jb_X11_helps rfl (pc' := 34) rfl (jh_tl gT) (by rfl) (by first | decide | exact Nat.ble_eq_true_of_le (by omega)) (k37_spell_2 g0 hl gT ho.2) (st' := []) rfl ?_
  rw [jR37_R]
  refine je_ps jb_X11_helps 1 (pc' := 35) (ls' := [_, _, _, _]) (st' := [_]) rfl ?_
  refine je_swc fun y35 ey35 => ?_
  rcases (by omega : y35 = 0 ∨ y35 = 1 ∨ y35 = 2 ∨ y35 = 3 ∨ (y35 < 0 ∨ 3 < y35)) with c35 | c35 | c35 | c35 | c35
  · rw [c35]
    refine je_sw jb_X11_helps rfl (t := 64) (st' := []) rfl ?_
    refine je_ps jb_X11_helps 1 (pc' := 65) (ls' := [_, _, _, _]) (st' := [_]) rfl ?_
    refine je_cvP' jb_X11_helps rfl (pc' := 68) rfl (jh_tl gT) (by rfl) (by first | decide | exact Nat.ble_eq_true_of_le (by omega)) (k2_kind (jh_tl gT)) (st' := [_]) rfl ?_
    rw [show aHelps A x y = (aHelpsV (aH A x.toNat) y, A) from by unfold aHelps; rw [if_pos hh, if_pos (by omega)]]
    exact je_ret jb_X11_helps rfl (by rfl) ⟨_, _, _, by unfold aHelpsV; rw [if_pos (by omega)]; rw [hk], rfl, I1, (kG.rfl' m).r37 _, tG.rfl' T⟩
  · rw [c35]
    refine je_sw jb_X11_helps rfl (t := 69) (st' := []) rfl ?_
    refine je_ps jb_X11_helps 1 (pc' := 70) (ls' := [_, _, _, _]) (st' := [_]) rfl ?_
    refine je_get jb_X11_helps rfl (pc' := 73) rfl (jh_tl gT) (by rfl) (by rfl) ?_
    rw [show aHelps A x y = (aHelpsV (aH A x.toNat) y, A) from by unfold aHelps; rw [if_pos hh, if_pos (by omega)]]
    exact je_ret jb_X11_helps rfl (by rfl) ⟨_, _, _, by unfold aHelpsV; rw [if_neg (by omega), if_pos (by omega)]; all_goals rfl, rfl, I1, (kG.rfl' m).r37 _, tG.rfl' T⟩
  · rw [c35]
    refine je_sw jb_X11_helps rfl (t := 74) (st' := []) rfl ?_
    refine je_ps jb_X11_helps 1 (pc' := 75) (ls' := [_, _, _, _]) (st' := [_]) rfl ?_
    refine je_get jb_X11_helps rfl (pc' := 78) rfl (jh_at (a := 0) rfl) (by rfl) (by rfl) ?_
    refine je_get jb_X11_helps rfl (pc' := 81) rfl (jh_at (a := 39) rfl) (by rfl) (by rfl) ?_
    rw [show aHelps A x y = (aHelpsV (aH A x.toNat) y, A) from by unfold aHelps; rw [if_pos hh, if_pos (by omega)]]
    exact je_ret jb_X11_helps rfl (by rfl) ⟨_, _, _, by unfold aHelpsV; rw [if_neg (by omega), if_neg (by omega), if_pos (by omega)]; rw [g1.2.1, R.1]; show _ = some (Value.int (jI (((hSp (aH A x.toNat).1 (aH A x.toNat).2).length : Nat) : Int))); rw [e7], rfl, I1, (kG.rfl' m).r37 _, tG.rfl' T⟩
  · rw [c35]
    refine je_sw jb_X11_helps rfl (t := 82) (st' := []) rfl ?_
    refine je_ps jb_X11_helps 1 (pc' := 83) (ls' := [_, _, _, _]) (st' := [_]) rfl ?_
    refine je_get jb_X11_helps rfl (pc' := 86) rfl (jh_at (a := 0) rfl) (by rfl) (by rfl) ?_
    refine je_ps jb_X11_helps 1 (pc' := 87) (ls' := [_, _, _, _]) (st' := [_, _]) rfl ?_
    refine je_cvP' jb_X11_helps rfl (pc' := 90) rfl (jh_at (a := 39) rfl) (by rfl) (by first | decide | exact Nat.ble_eq_true_of_le (by omega)) (k_rhowMany (jh_row37 g1) fb (by omega)) (st' := [_]) rfl ?_
    refine je_ps jb_X11_helps 1 (pc' := 91) (ls' := [_, _, _, _]) (st' := [_, _]) rfl ?_
    refine je_get jb_X11_helps rfl (pc' := 94) rfl (jh_at (a := 0) rfl) (by rfl) (by rfl) ?_
    refine je_ps jb_X11_helps 1 (pc' := 95) (ls' := [_, _, _, _]) (st' := [_, _, _]) rfl ?_
    refine je_cvP' jb_X11_helps rfl (pc' := 98) rfl (jh_at (a := 39) rfl) (by rfl) (by first | decide | exact Nat.ble_eq_true_of_le (by omega)) (k_rhowMany (jh_row37 g1) fb (by omega)) (st' := [_, _]) rfl ?_
    refine je_isub jb_X11_helps rfl (pc' := 99) rfl ?_
    rw [show aHelps A x y = (aHelpsV (aH A x.toNat) y, A) from by unfold aHelps; rw [if_pos hh, if_pos (by omega)]]
    exact je_ret jb_X11_helps rfl (by rfl) ⟨_, _, _, by unfold aHelpsV; rw [if_neg (by omega), if_neg (by omega), if_neg (by omega)]; rw [how_rep (f := (fRAl 110 (q7.1, 0) l).1) (z := (fRAl 110 (q7.1, 0) l).2) R, how_rep (f := (fRAl 110 (q7.1, 0) l).1) (z := (fRAl 110 (q7.1, 0) l).2) R]; unfold hMov; rw [e7], rfl, I1, (kG.rfl' m).r37 _, tG.rfl' T⟩
  · refine je_swO jb_X11_helps rfl (t := 100) rfl (by omega) (by omega) c35 ?_
    refine je_ps jb_X11_helps 2 (pc' := 103) (ls' := [_, _, _, _]) (st' := [_, _]) rfl ?_
    refine je_cvP' jb_X11_helps rfl (pc' := 106) rfl (jh_at (a := 0) rfl) (by rfl) (by first | decide | exact Nat.ble_eq_true_of_le (by omega)) (c_X11_refuseFar (by omega)) (st' := [_]) rfl ?_
    rw [show aHelps A x y = aFar A (-2) from by unfold aHelps; rw [if_pos hh, if_neg (by omega)]]
    exact je_ret jb_X11_helps rfl (by rfl) ⟨_, _, _, rfl, rfl, I1.ref (by omega), ((kG.rfl' m).r37 _).u (by decide) _, tG.rfl' T⟩
theorem cl_taken_2 {A : aT} (I : iC A m r T) {x y : Int} (hh : 0 ≤ x ∧ x < (aHc A : Int)) (hk : (aH A x.toNat).1 = 5) (hx : -2147483648 ≤ x ∧ x ≤ 2147483647) (hy : -2147483648 ≤ y ∧ y ≤ 2147483647) : jq sc 4 jm_X11_taken [.ref 0, .int (jI x), .int (jI y)] (jh m r T) (cQ (aTaken A x y) m T) := by
  have c6 := I.c6
  have fs := I.fs
  obtain ⟨u, hu1, hu2⟩ := I.he x.toNat (by omega)
  have ho := I.ho (i := x.toNat) (by omega)
  rw [hk] at hu2
  have gT : T[u]? = some (2, [.int (jI (aH A x.toNat).2)]) := hu2
  refine je_in jb_X11_taken rfl (ls := [_, _, _, _]) rfl ?_
  refine je_ps jb_X11_taken 1 (pc' := 1) (ls' := [_, _, _, _]) (st' := [_]) rfl ?_
  refine je_get jb_X11_taken rfl (pc' := 4) rfl (jh_at (a := 0) rfl) (by rfl) (by rfl) ?_
  refine je_ps jb_X11_taken 1 (pc' := 5) (ls' := [_, _, _, _]) (st' := [_, _]) rfl ?_
  refine je_cvP' jb_X11_taken rfl (pc' := 8) rfl (jh_at (a := 1) rfl) (by rfl) (by first | decide | exact Nat.ble_eq_true_of_le (by omega)) (hAt_t I hh hu1) (st' := [_]) rfl ?_
  refine je_ps jb_X11_taken 2 (pc' := 10) (ls' := [_, _, _, _]) (st' := [_]) rfl ?_
  refine je_ifnonnullR jb_X11_taken rfl (t := 19) rfl (pc' := 13) rfl ?_
  refine je_ps jb_X11_taken 1 (pc' := 20) (ls' := [_, _, _, _]) (st' := [_]) rfl ?_
  refine je_csP' jb_X11_taken rfl (pc' := 23) rfl (by rfl) (by first | decide | exact Nat.ble_eq_true_of_le (by omega)) (c_X11_isKind (by omega)) (st' := [_]) rfl ?_
  refine je_ifneb jb_X11_taken rfl (t := 33) rfl (pc' := 26) rfl (fun c23 => ?_) (fun c23 => ?_)
  · refine je_ps jb_X11_taken 2 (pc' := 35) (ls' := [_, _, _, _]) (st' := [_, _]) rfl ?_
    refine je_csP' jb_X11_taken rfl (pc' := 38) rfl (by rfl) (by first | decide | exact Nat.ble_eq_true_of_le (by omega)) (isOf_2 (jh_tl gT) (by have := of_decide_eq_true c23; omega)) (st' := [_]) rfl ?_
    refine je_ifeqb jb_X11_taken rfl (t := 48) rfl (pc' := 41) rfl (fun c38 => ?_) (fun c38 => ?_)
    · refine je_ps jb_X11_taken 1 (pc' := 50) (ls' := [_, _, _, _]) (st' := [_]) rfl ?_
      first | (rw [show aTaken A x y = ((aH A x.toNat).1, A) from by unfold aTaken; rw [if_pos hh, if_pos (of_decide_eq_true c23), hk, if_pos c38], hk]; exact je_ret jb_X11_taken rfl (by rfl) ⟨_, _, _, rfl, rfl, I, kG.rfl' m, tG.rfl' T⟩) | (rw [show aTaken A x y = (-16, A) from by unfold aTaken; rw [if_pos hh, if_pos (of_decide_eq_true c23), hk, if_neg (by rw [c38]; decide)]]; exact je_ret jb_X11_taken rfl (by rfl) ⟨_, _, _, rfl, rfl, I, kG.rfl' m, tG.rfl' T⟩)
    · refine je_ps jb_X11_taken 1 (pc' := 42) (ls' := [_, _, _, _]) (st' := [_]) rfl ?_
      refine je_cvP' jb_X11_taken rfl (pc' := 45) rfl (jh_tl gT) (by rfl) (by first | decide | exact Nat.ble_eq_true_of_le (by omega)) (k2_kind (jh_tl gT)) (st' := [_]) rfl ?_
      refine je_ps jb_X11_taken 1 (pc' := 50) (ls' := [_, _, _, _]) (st' := [_]) rfl ?_
      first | (rw [show aTaken A x y = ((aH A x.toNat).1, A) from by unfold aTaken; rw [if_pos hh, if_pos (of_decide_eq_true c23), hk, if_pos c38], hk]; exact je_ret jb_X11_taken rfl (by rfl) ⟨_, _, _, rfl, rfl, I, kG.rfl' m, tG.rfl' T⟩) | (rw [show aTaken A x y = (-16, A) from by unfold aTaken; rw [if_pos hh, if_pos (of_decide_eq_true c23), hk, if_neg (by rw [c38]; decide)]]; exact je_ret jb_X11_taken rfl (by rfl) ⟨_, _, _, rfl, rfl, I, kG.rfl' m, tG.rfl' T⟩)
  · refine je_ps jb_X11_taken 2 (pc' := 29) (ls' := [_, _, _, _]) (st' := [_, _]) rfl ?_
    refine je_cvP' jb_X11_taken rfl (pc' := 32) rfl (jh_at (a := 0) rfl) (by rfl) (by first | decide | exact Nat.ble_eq_true_of_le (by omega)) (c_X11_refuse (by omega)) (st' := [_]) rfl ?_
    rw [show aTaken A x y = aRef A (-2) from by unfold aTaken; rw [if_pos hh, if_neg (of_decide_eq_false c23)]]
    exact je_ret jb_X11_taken rfl (by rfl) ⟨_, _, _, rfl, rfl, I.ref (by omega), kG.ref m _, tG.rfl' T⟩
theorem cl_helps {A : aT} (I : iC A m r T) {x y : Int} (hx : -2147483648 ≤ x ∧ x ≤ 2147483647) (hy : -2147483648 ≤ y ∧ y ≤ 2147483647) : jq sc 10 jm_X11_helps [.ref 0, .int (jI x), .int (jI y)] (jh m r T) (cQ (aHelps A x y) m T) := by
  by_cases hh : 0 ≤ x ∧ x < (aHc A : Int)
  · have ho := (I.ho (i := x.toNat) (by omega)).1
    rcases (by omega : (aH A x.toNat).1 = 0 ∨ (aH A x.toNat).1 = 1 ∨ (aH A x.toNat).1 = 2 ∨ (aH A x.toNat).1 = 3 ∨ (aH A x.toNat).1 = 4 ∨ (aH A x.toNat).1 = 5) with h | h | h | h | h | h
    · exact cl_helps_6 I hh h hx hy
    · exact cl_helps_9 I hh h hx hy
    · exact cl_helps_0 I hh h hx hy
    · exact cl_helps_7 I hh h hx hy
    · exact cl_helps_1 I hh h hx hy
    · exact cl_helps_2 I hh h hx hy
  · obtain ⟨v, σ1, h1, h2⟩ := cl_helps_n I hh hx hy (sc := sc)
    exact ⟨v, σ1, jx_call_up (by decide) h1, h2⟩
theorem cl_taken {A : aT} (I : iC A m r T) {x y : Int} (hx : -2147483648 ≤ x ∧ x ≤ 2147483647) (hy : -2147483648 ≤ y ∧ y ≤ 2147483647) : jq sc 4 jm_X11_taken [.ref 0, .int (jI x), .int (jI y)] (jh m r T) (cQ (aTaken A x y) m T) := by
  by_cases hh : 0 ≤ x ∧ x < (aHc A : Int)
  · have ho := (I.ho (i := x.toNat) (by omega)).1
    rcases (by omega : (aH A x.toNat).1 = 0 ∨ (aH A x.toNat).1 = 1 ∨ (aH A x.toNat).1 = 2 ∨ (aH A x.toNat).1 = 3 ∨ (aH A x.toNat).1 = 4 ∨ (aH A x.toNat).1 = 5) with h | h | h | h | h | h
    · exact cl_taken_6 I hh h hx hy
    · exact cl_taken_9 I hh h hx hy
    · exact cl_taken_0 I hh h hx hy
    · exact cl_taken_7 I hh h hx hy
    · exact cl_taken_1 I hh h hx hy
    · exact cl_taken_2 I hh h hx hy
  · obtain ⟨v, σ1, h1, h2⟩ := cl_taken_n I hh hx hy (sc := sc)
    exact ⟨v, σ1, jx_call_up (by decide) h1, h2⟩
end C58
