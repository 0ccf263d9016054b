/-! CALLS of the class: a helper more, lists -/
section C60
variable {sc : Nat × (Nat → Int32)} {d M pc pc' : Nat} {ls st : List Value} {Q : Option Value → jx_H → Prop} {lst : List (Nat × Instr × Nat)} {own mx : Nat} {isi : Bool} {rt : Option FieldType} {m : Nat → Int → Int} {r : Nat → Nat → Value} {T : jx_H} {σ : jx_H}
theorem je_sig {σ' : jx_H} (h : σ = σ') (k : je sc d M pc ls st σ' Q) : je sc d M pc ls st σ Q := by
  subst h
  exact k
theorem rep_jA (n : Nat) : List.replicate n (Value.int (jI 0)) = (jA n (fun _ => 0)).2 := by
  show _ = (List.range n).map (fun _ => Value.int (jI 0))
  rw [List.map_const', List.length_range]
theorem je_newi (hB : jx_B M lst own isi rt mx) {len : Nat} {n : Int} (hI : jx_lk lst pc = some (.newarray .int, len)) (hp : pc + len = pc') (h0 : 0 ≤ n) (h1 : n ≤ 100000) (k : je sc d M pc' ls (.ref σ.length :: st) (σ ++ [jA n.toNat (fun _ => 0)]) Q) : je sc d M pc ls (.int (jI n) :: st) σ Q := by
  refine je_mem hB hI hp (σ1 := σ ++ [jA n.toNat (fun _ => 0)]) (st' := .ref σ.length :: st) ?_ k
  have e1 : (jI n).toInt = n := jI_int (by omega) (by omega)
  have e2 : (decide (0 ≤ n) && decide (n ≤ 100000)) = true := by rw [decide_eq_true h0, decide_eq_true h1]; rfl
  have e3 : ((100, List.replicate n.toNat (.int (jI 0))) : jx_C) = jA n.toNat (fun _ => 0) := by rw [rep_jA]; rfl
  simp only [jx_mem, e1, e2, cond_true, e3]
theorem jap {σ : jx_H} {a : Nat} {c : jx_C} (h : σ[a]? = some c) (x : jx_C) : (σ ++ [x])[a]? = some c := by
  rw [List.getElem?_append_left (jlt h)]
  exact h
theorem k_rowInit {σ : jx_H} {a : Nat} (ga : σ[a]? = some (3, [.null, .int (jI 0)])) {N : Int} (h0 : 0 ≤ N) (h1 : N ≤ 100000) : jq sc 1 jm_X3_init [.ref a, .int (jI N)] σ (jP none ((σ ++ [jA N.toNat (fun _ => 0)]).set a (3, [.ref σ.length, .int (jI 0)]))) := by
  refine je_in jb_X3_init rfl (ls := [_, _]) rfl ?_
  refine je_ps jb_X3_init 1 (pc' := 1) (ls' := [_, _]) (st' := [_]) rfl ?_
  refine je_oi jb_X3_init rfl (pc' := 4) rfl rfl rfl ?_
  refine je_ps jb_X3_init 2 (pc' := 6) (ls' := [_, _]) (st' := [_, _]) rfl ?_
  refine je_put jb_X3_init rfl (pc' := 9) rfl (ga) (by rfl) (by rfl) (by rfl) (by rfl) ?_
  refine je_sig (jset_self ga) ?_
  refine je_ps jb_X3_init 3 (pc' := 12) (ls' := [_, _]) (st' := [_, _, _]) rfl ?_
  refine je_max jb_X3_init rfl (pc' := 15) rfl rfl rfl (by first | omega | exact (hM _ _).1 | exact (hM _ _).2) (by first | omega | exact (hM _ _).1 | exact (hM _ _).2) (by first | omega | exact (hM _ _).1 | exact (hM _ _).2) (by first | omega | exact (hM _ _).1 | exact (hM _ _).2) ?_
  rw [show max N 0 = N by omega]
  refine je_newi jb_X3_init rfl (pc' := 17) rfl (by first | omega | exact (hM _ _).1 | exact (hM _ _).2) (by first | omega | exact (hM _ _).1 | exact (hM _ _).2) ?_
  have ga := jap ga (jA N.toNat (fun _ => 0))
  refine je_put jb_X3_init rfl (pc' := 20) rfl (ga) (by rfl) (by rfl) (by rfl) (by rfl) ?_
  exact je_ret jb_X3_init rfl (by rfl) ⟨by (first | rfl | (refine jv_t ?_; simp only [decide_eq_true_eq]; omega) | (refine jv_f ?_; simp only [decide_eq_false_iff_not]; omega) | (refine jv_I ?_; omega)), by (first | rfl | (refine jv_t ?_; simp only [decide_eq_true_eq]; omega) | (refine jv_f ?_; simp only [decide_eq_false_iff_not]; omega) | (refine jv_I ?_; omega))⟩
theorem tK.app (T : jx_H) (x : jx_C) : tK T (T ++ [x]) := fun u c h _ _ => jap h x
theorem tK.tr {T1 T2 T3 : jx_H} (h : tK T1 T2) (h2 : tK T2 T3) : tK T1 T3 := fun u c q q1 q2 => h2 u c (h u c q q1 q2) q1 q2
theorem jTr.app {T : jx_H} {t u : Nat} {f : Int → Int} {z : Int} (g : jTr T t u f z) (x : jx_C) : jTr (T ++ [x]) t u f z := ⟨jap g.1 x, jap g.2.1 x, g.2.2⟩
theorem cLs.app {A : aT} (h : cLs A r T) {r' : Nat → Nat → Value} (hr : r' 43 = r 43) (x : jx_C) : cLs A r' (T ++ [x]) := by
  obtain ⟨t, u, f, h1, h2⟩ := h
  refine ⟨t, u, f, fun l hl => ?_, h2⟩
  rcases h1 l hl with ⟨a, b⟩ | ⟨a, b, c, d⟩
  · exact Or.inl ⟨a, by rw [hr]; exact b⟩
  · exact Or.inr ⟨a, by rw [hr]; exact b, c.app x, d⟩
/-- a helper more -/
def aHelper (A : aT) (x y : Int) : Int × aT := if ¬ (0 ≤ x ∧ x ≤ 5) then aRef A (-2) else if y < 0 then aRef A (-4) else if 9 < y ∨ 4 ≤ aHc A then aRef A (-6) else ((aHc A : Int), sHe A (x, y))
theorem iC.helper {A : aT} (I : iC A m r T) {x y : Int} (hx : 0 ≤ x ∧ x ≤ 5) (hy : 0 ≤ y ∧ y ≤ 9) (h4 : aHc A < 4) : iC (sHe A (x, y)) (jU m 1 (ju (m 1) 5 ((aHc A : Int) + 1))) (jHr_n r (aHc A) (.ref (62 + T.length))) (T ++ [(hTag x, [.int (jI y)])]) := by
  have hne : ∀ b, b ≠ 1 → jU m 1 (ju (m 1) 5 ((aHc A : Int) + 1)) b = m b := fun b hb => jU_ne hb
  have hr : ∀ a, a ≠ 4 → jHr_n r (aHc A) (.ref (62 + T.length)) a = r a := fun a ha => by
    unfold jHr_n jV
    rw [if_neg ha]
  have c6 := I.c6
  obtain ⟨i1, i2', ⟨i3, i4⟩, i5, i6, ⟨q7, i7⟩, ⟨q8, i8⟩, i9, i10⟩ := I
  have tk := tK.app T (hTag x, [.int (jI y)])
  refine ⟨⟨⟨i1.1.1, i1.1.2.1, i1.1.2.2.1, h4, fun i hi => ?_⟩, i1.2⟩, ⟨?_, ?_, fun i hi => ?_, ?_, fun i hi => ?_⟩, ⟨by rw [hne 0 (by omega)]; exact i3, fun h => (i4 h).thn (i1.2.1 h).2.1 (fun b _ _ => hne b (by omega)) (hr 22 (by decide)) tk⟩, fun j hj p hp => ?_, ?_, ⟨q7, ?_, i7.2⟩, ⟨q8, ?_, i8.2⟩, i9.app (hr 43 (by decide)) _, fun j h0 h1 => ?_⟩
  · have hi : i < aHc A + 1 := hi
    show (0 ≤ (if i = aHc A then (x, y) else A.1.2.2.2 i).1 ∧ (if i = aHc A then (x, y) else A.1.2.2.2 i).1 ≤ 5) ∧ 0 ≤ (if i = aHc A then (x, y) else A.1.2.2.2 i).2 ∧ (if i = aHc A then (x, y) else A.1.2.2.2 i).2 ≤ 9
    by_cases c : i = aHc A
    · rw [if_pos c]
      exact ⟨hx, hy⟩
    · rw [if_neg c]
      exact i1.1.2.2.2.2 i (by show i < aHc A; omega)
  · rw [hne 2 (by omega)]; exact i2'.1
  · rw [jU_same, ju_ne (by decide)]; exact i2'.2.1
  · have hi : i < aC A := hi
    have w := jw_lo (i := i) (by omega)
    have q := i2'.2.2.1 i hi
    rw [Nat.zero_add] at q ⊢
    rw [hne _ (by omega), hne _ (by omega)]
    exact q
  · rw [jU_same, ju_same]
    rfl
  · have hi : i < aHc A + 1 := hi
    show ∃ u, jHr_n r (aHc A) (.ref (62 + T.length)) 4 i = .ref (62 + u) ∧ (T ++ [(hTag x, [.int (jI y)])])[u]? = some (hTag (if i = aHc A then (x, y) else A.1.2.2.2 i).1, [.int (jI (if i = aHc A then (x, y) else A.1.2.2.2 i).2)])
    by_cases c : i = aHc A
    · rw [if_pos c]
      refine ⟨T.length, ?_, jnew_at _ _⟩
      unfold jHr_n jV
      rw [if_pos rfl, if_pos c]
    · rw [if_neg c]
      obtain ⟨u, u1, u2⟩ := i2'.2.2.2.2 i (by show i < aHc A; omega)
      refine ⟨u, ?_, jap u2 _⟩
      unfold jHr_n jV
      rw [if_pos rfl, if_neg c]
      exact u1
  · have w := jw_13 hj
    rw [hne _ (by omega)]
    exact i5 j hj p hp
  · unfold jQ35 at *
    rw [hne 38 (by omega), hne 37 (by omega)]
    exact i6
  · have := i7.1
    unfold jQ37 at *
    rw [hne 40 (by omega), hne 39 (by omega)]
    exact this
  · have := i8.1
    unfold jQ39 at *
    rw [hne 42 (by omega), hne 41 (by omega)]
    exact this
  · rw [hne 44 (by omega)]
    exact i10 j h0 h1
theorem hTag_ok {k : Int} (h : 0 ≤ k ∧ k ≤ 5) : jHt (hTag k) = true := by
  rcases (by omega : k = 0 ∨ k = 1 ∨ k = 2 ∨ k = 3 ∨ k = 4 ∨ k = 5) with e | e | e | e | e | e <;> subst e <;> rfl
theorem wt_app (T : jx_H) (x : jx_C) : jx_wt (T ++ [x]) = jx_wt T + x.2.length := jx_wt_push T x
theorem cl_helper {A : aT} (I : iC A m r T) {x y : Int} (hx : -2147483648 ≤ x ∧ x ≤ 2147483647) (hy : -2147483648 ≤ y ∧ y ≤ 2147483647) : jq sc 8 jm_X11_helper [.ref 0, .int (jI x), .int (jI y)] (jh m r T) (cQ (aHelper A x y) m T) := by
  have c6 := I.c6
  have fs := I.fs
  have h4 := I.hc4
  refine je_in jb_X11_helper rfl (ls := [_, _, _]) rfl ?_
  refine je_ps jb_X11_helper 1 (pc' := 1) (ls' := [_, _, _]) (st' := [_]) rfl ?_
  refine je_csP' jb_X11_helper rfl (pc' := 4) rfl (by rfl) (by first | decide | exact Nat.ble_eq_true_of_le (by omega)) (c_X11_isKind (by omega)) (st' := [_]) rfl ?_
  refine je_ifneb jb_X11_helper rfl (t := 14) rfl (pc' := 7) rfl (fun c4 => ?_) (fun c4 => ?_)
  · refine je_ps jb_X11_helper 1 (pc' := 15) (ls' := [_, _, _]) (st' := [_]) rfl ?_
    refine je_ifge jb_X11_helper rfl (t := 25) rfl (pc' := 18) rfl (by first | omega | exact (hM _ _).1 | exact (hM _ _).2) (by first | omega | exact (hM _ _).1 | exact (hM _ _).2) (fun c15 => ?_) (fun c15 => ?_)
    · refine je_ps jb_X11_helper 2 (pc' := 28) (ls' := [_, _, _]) (st' := [_, _]) rfl ?_
      refine je_icmpgt jb_X11_helper rfl (t := 42) rfl (pc' := 31) rfl (by first | omega | exact (hM _ _).1 | exact (hM _ _).2) (by first | omega | exact (hM _ _).1 | exact (hM _ _).2) (by first | omega | exact (hM _ _).1 | exact (hM _ _).2) (by first | omega | exact (hM _ _).1 | exact (hM _ _).2) (fun c28 => ?_) (fun c28 => ?_)
      · refine je_ps jb_X11_helper 2 (pc' := 45) (ls' := [_, _, _]) (st' := [_, _]) rfl ?_
        refine je_cvP' jb_X11_helper rfl (pc' := 48) rfl (jh_at (a := 0) rfl) (by rfl) (by first | decide | exact Nat.ble_eq_true_of_le (by omega)) (c_X11_refuse (by omega)) (st' := [_]) rfl ?_
        rw [show aHelper A x y = aRef A (-6) from by unfold aHelper; rw [if_neg (not_not_intro (of_decide_eq_true c4)), if_neg (by omega), if_pos (by omega)]]
        exact je_ret jb_X11_helper rfl (by rfl) ⟨_, _, _, rfl, rfl, I.ref (by omega), kG.ref m _, tG.rfl' T⟩
      · refine je_ps jb_X11_helper 1 (pc' := 32) (ls' := [_, _, _]) (st' := [_]) rfl ?_
        refine je_get jb_X11_helper rfl (pc' := 35) rfl (jh_at (a := 0) rfl) (by rfl) (by rfl) ?_
        skip
        refine je_get jb_X11_helper rfl (pc' := 38) rfl (jh_at (a := 1) rfl) (by rfl) (by rfl) ?_
        rw [I.hc]
        refine je_ps jb_X11_helper 1 (pc' := 39) (ls' := [_, _, _]) (st' := [_, _]) rfl ?_
        refine je_icmplt jb_X11_helper rfl (t := 49) rfl (pc' := 42) rfl (by first | omega | exact (hM _ _).1 | exact (hM _ _).2) (by first | omega | exact (hM _ _).1 | exact (hM _ _).2) (by first | omega | exact (hM _ _).1 | exact (hM _ _).2) (by first | omega | exact (hM _ _).1 | exact (hM _ _).2) (fun c39 => ?_) (fun c39 => ?_)
        · refine je_ps jb_X11_helper 1 (pc' := 50) (ls' := [_, _, _]) (st' := [_]) rfl ?_
          refine je_get jb_X11_helper rfl (pc' := 53) rfl (jh_at (a := 0) rfl) (by rfl) (by rfl) ?_
          refine je_ps jb_X11_helper 2 (pc' := 55) (ls' := [_, _, _]) (st' := [_, _, _]) rfl ?_
          refine je_csP' jb_X11_helper rfl (pc' := 58) rfl (by rfl) (by first | decide | exact Nat.ble_eq_true_of_le (by omega)) (k_newHelper (of_decide_eq_true c4)) (st' := [_, _]) rfl ?_
          refine je_cvP' jb_X11_helper rfl (pc' := 61) rfl (jh_at (a := 1) rfl) (by rfl) (by first | decide | exact Nat.ble_eq_true_of_le (by omega)) (addHelper_n (c := aHc A) I.hc (by omega) (jh_tl (jnew_at T _)) (hTag_ok (of_decide_eq_true c4))) (st' := [_]) rfl ?_
          rw [show aHelper A x y = ((aHc A : Int), sHe A (x, y)) from by unfold aHelper; rw [if_neg (not_not_intro (of_decide_eq_true c4)), if_neg (by omega), if_neg (by omega)]]
          exact je_ret jb_X11_helper rfl (by rfl) ⟨_, _, _, rfl, rfl, I.helper (of_decide_eq_true c4) (by omega) (by omega), (kG.rfl' m).u (by decide) _, ⟨by rw [List.length_append]; simp, by rw [wt_app]; simp⟩⟩
        · refine je_ps jb_X11_helper 2 (pc' := 45) (ls' := [_, _, _]) (st' := [_, _]) rfl ?_
          refine je_cvP' jb_X11_helper rfl (pc' := 48) rfl (jh_at (a := 0) rfl) (by rfl) (by first | decide | exact Nat.ble_eq_true_of_le (by omega)) (c_X11_refuse (by omega)) (st' := [_]) rfl ?_
          rw [show aHelper A x y = aRef A (-6) from by unfold aHelper; rw [if_neg (not_not_intro (of_decide_eq_true c4)), if_neg (by omega), if_pos (by omega)]]
          exact je_ret jb_X11_helper rfl (by rfl) ⟨_, _, _, rfl, rfl, I.ref (by omega), kG.ref m _, tG.rfl' T⟩
    · refine je_ps jb_X11_helper 2 (pc' := 21) (ls' := [_, _, _]) (st' := [_, _]) rfl ?_
      refine je_cvP' jb_X11_helper rfl (pc' := 24) rfl (jh_at (a := 0) rfl) (by rfl) (by first | decide | exact Nat.ble_eq_true_of_le (by omega)) (c_X11_refuse (by omega)) (st' := [_]) rfl ?_
      rw [show aHelper A x y = aRef A (-4) from by unfold aHelper; rw [if_neg (not_not_intro (of_decide_eq_true c4)), if_pos (by omega)]]
      exact je_ret jb_X11_helper rfl (by rfl) ⟨_, _, _, rfl, rfl, I.ref (by omega), kG.ref m _, tG.rfl' T⟩
  · refine je_ps jb_X11_helper 2 (pc' := 10) (ls' := [_, _, _]) (st' := [_, _]) rfl ?_
    refine je_cvP' jb_X11_helper rfl (pc' := 13) rfl (jh_at (a := 0) rfl) (by rfl) (by first | decide | exact Nat.ble_eq_true_of_le (by omega)) (c_X11_refuse (by omega)) (st' := [_]) rfl ?_
    rw [show aHelper A x y = aRef A (-2) from by unfold aHelper; rw [if_pos (of_decide_eq_false c4)]]
    exact je_ret jb_X11_helper rfl (by rfl) ⟨_, _, _, rfl, rfl, I.ref (by omega), kG.ref m _, tG.rfl' T⟩
end C60
