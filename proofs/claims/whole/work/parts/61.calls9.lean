/-! CALLS of the class: lists -/
section C61
variable {sc : Nat × (Nat → Int32)} {m : Nat → Int → Int} {r : Nat → Nat → Value} {T : jx_H} {σ : jx_H}
theorem iC.ls {A : aT} (I : iC A m r T) : cLs A r T := I.2.2.2.2.2.2.2.1
theorem jTr.s {t u : Nat} {f : Int → Int} {z : Int} (g : jTr T t u f z) (f' : Int → Int) {z' : Int} (h0 : 0 ≤ z') (h1 : z' ≤ 40) : jTr (jTs T t u f' z') t u f' z' := by
  unfold jTs
  refine ⟨?_, ?_, g.2.2.1, h0, h1⟩
  · exact jset_same (by rw [jset_ne g.2.2.1]; exact g.1)
  · rw [jset_ne (fun e => g.2.2.1 e.symm)]
    exact jset_same g.2.1
theorem jTs_jTs {t u : Nat} (h : t ≠ u) (f f' : Int → Int) (z z' : Int) : jTs (jTs T t u f z) t u f' z' = jTs T t u f' z' := by
  unfold jTs
  rw [List.set_comm _ _ h, List.set_set, List.set_set]
theorem kT_clear {t u : Nat} {f : Int → Int} {z : Int} (g : jTr T t u f z) : jq sc 1 jm_X3_clear [.ref (62 + t)] (jh m r T) (jP none (jh m r (jTs T t u f 0))) := by
  have := k_rclear (sc := sc) (jTr.rw (m := m) (r := r) g)
  rwa [jTs_s] at this
theorem kT_addMany {t u : Nat} {f : Int → Int} {z : Int} (g : jTr T t u f z) {x q : Int} (hx : -2147483648 ≤ x ∧ x ≤ 2147483647) (hq : -2147483648 ≤ q ∧ q ≤ 1000) : jq sc 2 jm_X3_addMany [.ref (62 + t), .int (jI x), .int (jI q)] (jh m r T) (jP none (jh m r (jTs T t u (fRAl 40 (f, z) (List.replicate q.toNat x)).1 (fRAl 40 (f, z) (List.replicate q.toNat x)).2))) := by
  have := k_raddMany (sc := sc) (jTr.rw (m := m) (r := r) g) hx hq
  rwa [jTs_s] at this
theorem kT_set {t u : Nat} {f : Int → Int} {z : Int} (g : jTr T t u f z) {i x : Int} (hi : 0 ≤ i ∧ i < z) : jq sc 2 jm_X3_set [.ref (62 + t), .int (jI i), .int (jI x)] (jh m r T) (jP none (jh m r (jTs T t u (ju f i x) z))) := by
  have hz := g.2.2.2
  have := k_rset (sc := sc) (jTr.rw (m := m) (r := r) g) (i := i) (x := x) (by omega)
  rwa [jTs_s, if_pos hi] at this
theorem tK.ts {t u : Nat} {f : Int → Int} {z : Int} (g : jTr T t u f z) (f' : Int → Int) (z' : Int) : tK T (jTs T t u f' z') := by
  intro v c h h3 h100
  have a : v ≠ t := fun e => by
    subst e
    rw [g.1] at h
    exact h3 (by rw [← Option.some.inj h])
  have b : v ≠ u := fun e => by
    subst e
    rw [g.2.1] at h
    exact h100 (by rw [← Option.some.inj h]; rfl)
  unfold jTs
  rw [jset_ne a, jset_ne b]
  exact h
theorem ts_len {t u : Nat} (f' : Int → Int) (z' : Int) : (jTs T t u f' z').length = T.length := by
  unfold jTs
  rw [List.length_set, List.length_set]
theorem ts_wt {t u : Nat} {f : Int → Int} {z : Int} (g : jTr T t u f z) (f' : Int → Int) (z' : Int) : jx_wt (jTs T t u f' z') = jx_wt T := by
  unfold jTs
  rw [jx_wt_set (c := (3, [.ref (62 + u), .int (jI z)])) (c' := (3, [.ref (62 + u), .int (jI z')])) (by rw [jset_ne g.2.2.1]; exact g.1) rfl, jx_wt_set g.2.1 (by rw [jA_len, jA_len])]
theorem tG.ts {t u : Nat} {f : Int → Int} {z : Int} (g : jTr T t u f z) (f' : Int → Int) (z' : Int) : tG T (jTs T t u f' z') := ⟨by rw [ts_len]; omega, by rw [ts_wt g]; omega⟩
def lW (A : aT) (r : Nat → Nat → Value) (T : jx_H) (t u : Nat → Nat) (f : Nat → Int → Int) : Prop := (∀ l, l < 3 → ((aL A l).2 = -1 ∧ r 43 l = .null) ∨ (0 ≤ (aL A l).2 ∧ r 43 l = .ref (62 + t l) ∧ jTr T (t l) (u l) (f l) (aL A l).2 ∧ (∀ p, -2147483648 ≤ f l p ∧ f l p ≤ 2147483647) ∧ ∀ p : Int, 0 ≤ p → p < (aL A l).2 → f l p = (aL A l).1 p)) ∧ ∀ l l', l < 3 → l' < 3 → l ≠ l' → 0 ≤ (aL A l).2 → 0 ≤ (aL A l').2 → t l ≠ t l' ∧ u l ≠ u l'
theorem lW.at {A : aT} {t u : Nat → Nat} {f : Nat → Int → Int} (W : lW A r T t u f) {l : Nat} (hl : l < 3) (hz : 0 ≤ (aL A l).2) : r 43 l = .ref (62 + t l) ∧ jTr T (t l) (u l) (f l) (aL A l).2 ∧ (∀ p, -2147483648 ≤ f l p ∧ f l p ≤ 2147483647) ∧ ∀ p : Int, 0 ≤ p → p < (aL A l).2 → f l p = (aL A l).1 p := by
  rcases W.1 l hl with h | h
  · omega
  · exact h.2
theorem sL_at (A : aT) (l : Nat) (q : wT) (j : Nat) : aL (sL A l q) j = if j = l then q else aL A j := rfl
/-- one list told anew, where it lies -/
theorem iC.lset {A : aT} (I : iC A m r T) {t u : Nat → Nat} {f : Nat → Int → Int} (W : lW A r T t u f) {l : Nat} (hl : l < 3) (hz : 0 ≤ (aL A l).2) {f' g : Int → Int} {z' : Int} (h0 : 0 ≤ z') (h1 : z' ≤ 40) (hf : ∀ p, -2147483648 ≤ f' p ∧ f' p ≤ 2147483647) (hg : ∀ p, -2147483648 ≤ g p ∧ g p ≤ 2147483647) (he : ∀ p : Int, 0 ≤ p → p < z' → f' p = g p) : iC (sL A l (g, z')) m r (jTs T (t l) (u l) f' z') := by
  obtain ⟨w1, w2, w3, w4⟩ := W.at hl hz
  have tk := tK.ts w2 f' z'
  obtain ⟨i1, i2', ⟨i3, i4⟩, i5, i6, i7, i8, i9, i10⟩ := I
  refine ⟨⟨i1.1, i1.2.1, i1.2.2.1, fun j hj => ?_⟩, i2'.now i1.1.2.1 (fun _ _ _ => rfl) rfl tk, ⟨i3, fun h => (i4 h).thn (i1.2.1 h).2.1 (fun _ _ _ => rfl) rfl tk⟩, i5, i6, i7, i8, ⟨t, u, fun j => if j = l then f' else f j, fun j hj => ?_, fun j j' hj hj' hne h2 h3 => ?_⟩, i10⟩
  · rw [sL_at]
    by_cases c : j = l
    · rw [if_pos c]
      exact ⟨Or.inr ⟨h0, h1⟩, hg⟩
    · rw [if_neg c]
      exact i1.2.2.2 j hj
  · rw [sL_at]
    by_cases c : j = l
    · subst c
      simp only [if_pos]
      exact Or.inr ⟨h0, w1, w2.s f' h0 h1, hf, he⟩
    · simp only [if_neg c]
      rcases W.1 j hj with h | h
      · exact Or.inl h
      · obtain ⟨d1, d2⟩ := W.2 j l hj hl c h.1 hz
        have g := h.2.2.1
        have e1 : t j ≠ u l := fun e => by
          have a := g.1
          rw [e, w2.2.1] at a
          exact absurd (congrArg (fun q : Option jx_C => q.map (·.1)) a) (by show ¬ (some 100 = some 3); decide)
        have e2 : u j ≠ t l := fun e => by
          have a := g.2.1
          rw [e, w2.1] at a
          exact absurd (congrArg (fun q : Option jx_C => q.map (·.1)) a) (by show ¬ (some 3 = some 100); decide)
        refine Or.inr ⟨h.1, h.2.1, ⟨?_, ?_, g.2.2⟩, h.2.2.2⟩
        · unfold jTs
          rw [jset_ne d1, jset_ne e1]
          exact g.1
        · unfold jTs
          rw [jset_ne e2, jset_ne d2]
          exact g.2.1
  · rw [sL_at] at h2 h3
    by_cases c : j = l
    · by_cases c' : j' = l
      · omega
      · rw [if_neg c'] at h3
        subst c
        exact W.2 j j' hj hj' hne hz h3
    · rw [if_neg c] at h2
      by_cases c' : j' = l
      · subst c'
        exact W.2 j j' hj hj' hne h2 hz
      · rw [if_neg c'] at h3
        exact W.2 j j' hj hj' hne h2 h3
def jLr (r : Nat → Nat → Value) (i : Nat) (v : Value) : Nat → Nat → Value := jV r 43 (fun p => if p = i then v else r 43 p)
theorem jh_list {i : Nat} (hi : i < 3) (v : Value) : (jh m r T).set 43 (104, [r 43 0, r 43 1, r 43 2].set i v) = jh m (jLr r i v) T := by
  unfold jLr
  rw [← jh_setr (m := m) (r := r) (T := T) (a := 43) (g := fun p => if p = i then v else r 43 p) rfl]
  refine congrArg _ ?_
  refine jlt3 (P := fun i => ((104, [r 43 0, r 43 1, r 43 2].set i v) : jx_C) = jc 43 (m 43) (fun p => if p = i then v else r 43 p)) rfl rfl rfl hi
def newT (T : jx_H) (f : Int → Int) (z : Int) : jx_H := T ++ [(3, [.ref (62 + (T.length + 1)), .int (jI z)])] ++ [jA 40 f]
theorem newT_tr (T : jx_H) (f : Int → Int) {z : Int} (h0 : 0 ≤ z) (h1 : z ≤ 40) : jTr (newT T f z) T.length (T.length + 1) f z := by
  unfold newT
  refine ⟨jap (jnew_at _ _) _, ?_, by omega, h0, h1⟩
  have := jnew_at (T ++ [(3, [.ref (62 + (T.length + 1)), .int (jI z)])]) (jA 40 f)
  rwa [List.length_append] at this
theorem newT_s (T : jx_H) (f f' : Int → Int) (z z' : Int) : jTs (newT T f z) T.length (T.length + 1) f' z' = newT T f' z' := by
  unfold jTs newT
  have e : T.length + 1 = (T ++ [((3, [.ref (62 + (T.length + 1)), .int (jI z)]) : jx_C)]).length := by rw [List.length_append]; rfl
  conv => lhs; rw [List.set_append_right (s := T ++ [((3, [.ref (62 + (T.length + 1)), .int (jI z)]) : jx_C)]) _ _ (by rw [List.length_append]; exact Nat.le_refl _)]
  rw [List.set_append_left _ _ (by rw [List.length_append]; simp), jnew_set]
  congr 1
  rw [← e, Nat.sub_self]
  rfl
theorem new_row_eq (vs : List Value) : ((jh m r T ++ [((3, vs) : jx_C)]) ++ [jA 40 (fun _ => 0)]).set (62 + T.length) (3, [.ref (jh m r T ++ [((3, vs) : jx_C)]).length, .int (jI 0)]) = jh m r (newT T (fun _ => 0) 0) := by
  rw [jh_push, jh_push, jh_sett, jh_len, List.length_append]
  unfold newT
  rw [List.set_append_left _ _ (by rw [List.length_append]; simp), jnew_set]
  rfl
theorem newT_g (T : jx_H) (f : Int → Int) (z : Int) : tG T (newT T f z) ∧ tK T (newT T f z) := by
  unfold newT
  refine ⟨⟨by rw [List.length_append, List.length_append]; simp, ?_⟩, (tK.app T _).tr (tK.app _ _)⟩
  rw [wt_app, wt_app, jA_len]
  show jx_wt T + 2 + 40 ≤ _
  omega
theorem iC.lnew {A : aT} (I : iC A m r T) {l : Nat} (hl : l < 3) (hz : (aL A l).2 = -1) {f' g : Int → Int} {z' : Int} (h0 : 0 ≤ z') (h1 : z' ≤ 40) (hf : ∀ p, -2147483648 ≤ f' p ∧ f' p ≤ 2147483647) (hg : ∀ p, -2147483648 ≤ g p ∧ g p ≤ 2147483647) (he : ∀ p : Int, 0 ≤ p → p < z' → f' p = g p) : iC (sL A l (g, z')) m (jLr r l (.ref (62 + T.length))) (newT T f' z') := by
  have tk := (newT_g T f' z').2
  have hr : ∀ a, a ≠ 43 → jLr r l (.ref (62 + T.length)) a = r a := fun a ha => by
    unfold jLr jV
    rw [if_neg ha]
  have hr41 : ∀ j, jLr r l (.ref (62 + T.length)) 43 j = if j = l then .ref (62 + T.length) else r 43 j := fun j => by
    unfold jLr jV
    rw [if_pos rfl]
  obtain ⟨i1, i2', ⟨i3, i4⟩, i5, i6, i7, i8, ⟨t, u, f, W1, W2⟩, i10⟩ := I
  refine ⟨⟨i1.1, i1.2.1, i1.2.2.1, fun j hj => ?_⟩, i2'.now i1.1.2.1 (fun _ _ _ => rfl) (hr 4 (by decide)) tk, ⟨i3, fun h => (i4 h).thn (i1.2.1 h).2.1 (fun _ _ _ => rfl) (hr 22 (by decide)) tk⟩, i5, i6, i7, i8, ⟨fun j => if j = l then T.length else t j, fun j => if j = l then T.length + 1 else u j, fun j => if j = l then f' else f j, fun j hj => ?_, fun j j' hj hj' hne h2 h3 => ?_⟩, i10⟩
  · rw [sL_at]
    by_cases c : j = l
    · rw [if_pos c]
      exact ⟨Or.inr ⟨h0, h1⟩, hg⟩
    · rw [if_neg c]
      exact i1.2.2.2 j hj
  · rw [sL_at, hr41]
    by_cases c : j = l
    · simp only [if_pos c]
      exact Or.inr ⟨h0, trivial, newT_tr T f' h0 h1, hf, he⟩
    · simp only [if_neg c]
      rcases W1 j hj with h | h
      · exact Or.inl h
      · refine Or.inr ⟨h.1, h.2.1, ?_, h.2.2.2⟩
        unfold newT
        exact (h.2.2.1.app _).app _
  · have far : ∀ j, j < 3 → j ≠ l → 0 ≤ (aL A j).2 → t j < T.length ∧ u j < T.length := fun j hj _ hz => by
      rcases W1 j hj with h | h
      · omega
      · exact ⟨jlt h.2.2.1.1, jlt h.2.2.1.2.1⟩
    rw [sL_at] at h2 h3
    by_cases c : j = l
    · by_cases c' : j' = l
      · omega
      · rw [if_neg c'] at h3
        have := far j' hj' c' h3
        simp only [if_pos c, if_neg c']
        omega
    · rw [if_neg c] at h2
      by_cases c' : j' = l
      · have := far j hj c h2
        simp only [if_neg c, if_pos c']
        omega
      · rw [if_neg c'] at h3
        simp only [if_neg c, if_neg c']
        exact W2 j j' hj hj' hne h2 h3
theorem lAt_t {A : aT} {t u : Nat → Nat} {f : Nat → Int → Int} (W : lW A r T t u f) {x : Int} (hl : 0 ≤ x ∧ x < 3) (hz : 0 ≤ (aL A x.toNat).2) : jq sc 2 jm_X11_listAt [.ref 0, .int (jI x)] (jh m r T) (jP (some (.ref (62 + t x.toNat))) (jh m r T)) := by
  have := listAt_t (sc := sc) (m := m) (T := T) (show x.toNat < 3 by omega) (W.at (by omega) hz).1
  rwa [show ((x.toNat : Nat) : Int) = x by omega] at this
theorem lAt_n {A : aT} {t u : Nat → Nat} {f : Nat → Int → Int} (W : lW A r T t u f) {x : Int} (hl : 0 ≤ x ∧ x < 3) (hz : (aL A x.toNat).2 < 0) : jq sc 2 jm_X11_listAt [.ref 0, .int (jI x)] (jh m r T) (jP (some .null) (jh m r T)) := by
  have hn : r 43 x.toNat = .null := by
    rcases W.1 x.toNat (by omega) with h | h
    · exact h.2
    · omega
  have := listAt_n (sc := sc) (m := m) (T := T) (show x.toNat < 3 by omega) hn
  rwa [show ((x.toNat : Nat) : Int) = x by omega] at this
theorem iC.lb {A : aT} (I : iC A m r T) {l : Nat} (hl : l < 3) : ((aL A l).2 = -1 ∨ 0 ≤ (aL A l).2 ∧ (aL A l).2 ≤ 40) ∧ ∀ p, -2147483648 ≤ (aL A l).1 p ∧ (aL A l).1 p ≤ 2147483647 := I.1.2.2.2 l hl
theorem rep_zero {f : Int → Int} (y : Int) (h0 : 0 ≤ y) (h1 : y ≤ 40) (hf : ∀ p, -2147483648 ≤ f p ∧ f p ≤ 2147483647) : (fRAl 40 (f, 0) (List.replicate y.toNat 0)).2 = y ∧ (∀ p : Int, 0 ≤ p → p < y → (fRAl 40 (f, 0) (List.replicate y.toNat 0)).1 p = 0) ∧ ∀ p, -2147483648 ≤ (fRAl 40 (f, 0) (List.replicate y.toNat 0)).1 p ∧ (fRAl 40 (f, 0) (List.replicate y.toNat 0)).1 p ≤ 2147483647 := by
  have R := fRAl_rep (N := 40) (List.replicate y.toNat 0) (f, 0) [] ⟨rfl, fun j hj => absurd hj (by simp)⟩ (by rw [List.length_nil, List.length_replicate]; omega)
  rw [List.nil_append] at R
  have b := fRAl_b (N := 40) (List.replicate y.toNat 0) (f, 0) hf (fun x hx => by rw [List.eq_of_mem_replicate hx]; decide)
  refine ⟨by have := R.1; rw [List.length_replicate] at this; omega, fun p p0 p1 => ?_, b⟩
  have := R.2 p.toNat (by rw [List.length_replicate]; omega)
  rw [show ((p.toNat : Nat) : Int) = p by omega, List.getElem?_replicate, if_pos (by omega)] at this
  exact (Option.some.inj this).symm
def aList (A : aT) (x y : Int) : Int × aT := if 0 ≤ x ∧ x < 3 then (if 40 < y then aRef A (-6) else if y < 0 then (-14, A) else (1, sL A x.toNat (fun _ => 0, y))) else aRef A (-1)
theorem cl_list_n {A : aT} (I : iC A m r T) {x y : Int} (hl : ¬ (0 ≤ x ∧ x < 3)) (hx : -2147483648 ≤ x ∧ x ≤ 2147483647) (hy : -2147483648 ≤ y ∧ y ≤ 2147483647) : jq sc 10 jm_X11_list [.ref 0, .int (jI x), .int (jI y)] (jh m r T) (cQ (aList A x y) m T) := by
  have c6 := I.c6
  have fs := I.fs
  refine je_in jb_X11_list rfl (ls := [_, _, _, _]) rfl ?_
  refine je_ps jb_X11_list 2 (pc' := 2) (ls' := [_, _, _, _]) (st' := [_, _]) rfl ?_
  refine je_cvP' jb_X11_list rfl (pc' := 5) rfl (jh_at (a := 0) rfl) (by rfl) (by first | decide | exact Nat.ble_eq_true_of_le (by omega)) (c_X11_isList (by omega)) (st' := [_]) rfl ?_
  rw [decide_eq_false hl]
  refine je_ifneb jb_X11_list rfl (t := 14) rfl (pc' := 8) rfl (fun c5 => ?_) (fun c5 => ?_)
  · first | (exfalso; omega) | (cases c5; done) | (exfalso; simp_all; done)
  · refine je_ps jb_X11_list 2 (pc' := 10) (ls' := [_, _, _, _]) (st' := [_, _]) rfl ?_
    refine je_cvP' jb_X11_list rfl (pc' := 13) rfl (jh_at (a := 0) rfl) (by rfl) (by first | decide | exact Nat.ble_eq_true_of_le (by omega)) (c_X11_refuse (by omega)) (st' := [_]) rfl ?_
    rw [show aList A x y = aRef A (-1) from by unfold aList; rw [if_neg hl]]
    exact je_ret jb_X11_list rfl (by rfl) ⟨_, _, _, rfl, rfl, I.ref (by omega), kG.ref m _, tG.rfl' T⟩
theorem cl_list_q {A : aT} (I : iC A m r T) {x y : Int} (hl : 0 ≤ x ∧ x < 3) (hz : (aL A x.toNat).2 < 0) (hx : -2147483648 ≤ x ∧ x ≤ 2147483647) (hy : -2147483648 ≤ y ∧ y ≤ 2147483647) : jq sc 10 jm_X11_list [.ref 0, .int (jI x), .int (jI y)] (jh m r T) (cQ (aList A x y) m T) := by
  have c6 := I.c6
  have fs := I.fs
  obtain ⟨t, u, f, W⟩ := I.ls
  have W : lW A r T t u f := W
  have lb := I.lb (l := x.toNat) (by omega)
  refine je_in jb_X11_list rfl (ls := [_, _, _, _]) rfl ?_
  refine je_ps jb_X11_list 2 (pc' := 2) (ls' := [_, _, _, _]) (st' := [_, _]) rfl ?_
  refine je_cvP' jb_X11_list rfl (pc' := 5) rfl (jh_at (a := 0) rfl) (by rfl) (by first | decide | exact Nat.ble_eq_true_of_le (by omega)) (c_X11_isList (by omega)) (st' := [_]) rfl ?_
  rw [decide_eq_true hl]
  refine je_ifneb jb_X11_list rfl (t := 14) rfl (pc' := 8) rfl (fun c5 => ?_) (fun c5 => ?_)
  · refine je_ps jb_X11_list 2 (pc' := 17) (ls' := [_, _, _, _]) (st' := [_, _]) rfl ?_
    refine je_icmple jb_X11_list rfl (t := 27) rfl (pc' := 20) rfl (by first | omega | exact (hM _ _).1 | exact (hM _ _).2) (by first | omega | exact (hM _ _).1 | exact (hM _ _).2) (by first | omega | exact (hM _ _).1 | exact (hM _ _).2) (by first | omega | exact (hM _ _).1 | exact (hM _ _).2) (fun c17 => ?_) (fun c17 => ?_)
    · refine je_ps jb_X11_list 1 (pc' := 28) (ls' := [_, _, _, _]) (st' := [_]) rfl ?_
      refine je_ifge jb_X11_list rfl (t := 34) rfl (pc' := 31) rfl (by first | omega | exact (hM _ _).1 | exact (hM _ _).2) (by first | omega | exact (hM _ _).1 | exact (hM _ _).2) (fun c28 => ?_) (fun c28 => ?_)
      · refine je_ps jb_X11_list 2 (pc' := 36) (ls' := [_, _, _, _]) (st' := [_, _]) rfl ?_
        refine je_cvP' jb_X11_list rfl (pc' := 39) rfl (jh_at (a := 0) rfl) (by rfl) (by first | decide | exact Nat.ble_eq_true_of_le (by omega)) (lAt_n W hl hz) (st' := [_]) rfl ?_
        refine je_ps jb_X11_list 2 (pc' := 41) (ls' := [_, _, _, _]) (st' := [_]) rfl ?_
        refine je_ifnonnullN jb_X11_list rfl (t := 61) rfl (pc' := 44) rfl ?_
        refine je_new jb_X11_list rfl (pc' := 47) rfl rfl rfl rfl ?_
        have gC := jnew_at (jh m r T) (3, [Value.null, Value.int (jI 0)])
        refine je_ps jb_X11_list 2 (pc' := 50) (ls' := [_, _, _, _]) (st' := [_, _, _]) rfl ?_
        refine je_cvP' jb_X11_list rfl (pc' := 53) rfl (gC) (by rfl) (by first | decide | exact Nat.ble_eq_true_of_le (by omega)) (k_rowInit gC (by omega) (by omega)) (st' := [_]) rfl ?_
        rw [jh_len]
        refine je_sig (new_row_eq _) ?_
        have gN := newT_tr T (fun _ => 0) (z := 0) (by omega) (by omega)
        have gC : (jh m r (newT T (fun _ => 0) 0))[62 + T.length]? = some (3, [.ref (62 + (T.length + 1)), .int (jI 0)]) := jh_tl gN.1
        refine je_ps jb_X11_list 2 (pc' := 55) (ls' := [_, _, _, _]) (st' := [_]) rfl ?_
        refine je_get jb_X11_list rfl (pc' := 58) rfl (jh_at (a := 0) rfl) (by rfl) (by rfl) ?_
        refine je_ps jb_X11_list 2 (pc' := 60) (ls' := [_, _, _, _]) (st' := [_, _, _]) rfl ?_
        refine je_aastn jb_X11_list rfl (pc' := 61) rfl (jh_at (a := 43) rfl) (gC) (by first | rfl | simpa using htag) (n := 3) rfl (by first | omega | exact (hM _ _).1 | exact (hM _ _).2) (by first | omega | exact (hM _ _).1 | exact (hM _ _).2) (by first | omega | exact (hM _ _).1 | exact (hM _ _).2) ?_
        refine je_sig (jh_list (by omega) _) ?_
        have gC := jh_tl (m := m) (r := jLr r x.toNat (.ref (62 + T.length))) gN.1
        refine je_ps jb_X11_list 1 (pc' := 62) (ls' := [_, _, _, _]) (st' := [_]) rfl ?_
        refine je_cvP' jb_X11_list rfl (pc' := 65) rfl (gC) (by rfl) (by first | decide | exact Nat.ble_eq_true_of_le (by omega)) (kT_clear gN) (st' := []) rfl ?_
        rw [newT_s]
        have gC := jh_tl (m := m) (r := jLr r x.toNat (.ref (62 + T.length))) (newT_tr T (fun _ => 0) (z := 0) (by omega) (by omega)).1
        have rz := rep_zero (f := fun _ => 0) y (by omega) (by omega) (fun _ => by decide)
        refine je_ps jb_X11_list 3 (pc' := 68) (ls' := [_, _, _, _]) (st' := [_, _, _]) rfl ?_
        refine je_cvP' jb_X11_list rfl (pc' := 71) rfl (gC) (by rfl) (by first | decide | exact Nat.ble_eq_true_of_le (by omega)) (kT_addMany gN (by omega) (by omega)) (st' := []) rfl ?_
        rw [newT_s]
        refine je_ps jb_X11_list 1 (pc' := 72) (ls' := [_, _, _, _]) (st' := [_]) rfl ?_
        rw [show aList A x y = (1, sL A x.toNat (fun _ => 0, y)) from by unfold aList; rw [if_pos hl, if_neg (by omega), if_neg (by omega)]]
        exact je_ret jb_X11_list rfl (by rfl) ⟨_, _, _, rfl, rfl, by rw [rz.1]; exact I.lnew (by omega) (by omega) (by omega) (by omega) rz.2.2 (fun _ => by decide) rz.2.1, kG.rfl' m, (newT_g T _ _).1⟩
      · refine je_ps jb_X11_list 1 (pc' := 33) (ls' := [_, _, _, _]) (st' := [_]) rfl ?_
        rw [show aList A x y = (-14, A) from by unfold aList; rw [if_pos hl, if_neg (by omega), if_pos (by omega)]]
        exact je_ret jb_X11_list rfl (by rfl) ⟨_, _, _, rfl, rfl, I, kG.rfl' m, tG.rfl' T⟩
    · refine je_ps jb_X11_list 2 (pc' := 23) (ls' := [_, _, _, _]) (st' := [_, _]) rfl ?_
      refine je_cvP' jb_X11_list rfl (pc' := 26) rfl (jh_at (a := 0) rfl) (by rfl) (by first | decide | exact Nat.ble_eq_true_of_le (by omega)) (c_X11_refuse (by omega)) (st' := [_]) rfl ?_
      rw [show aList A x y = aRef A (-6) from by unfold aList; rw [if_pos hl, if_pos (by omega)]]
      exact je_ret jb_X11_list rfl (by rfl) ⟨_, _, _, rfl, rfl, I.ref (by omega), kG.ref m _, tG.rfl' T⟩
  · first | (exfalso; omega) | (cases c5; done) | (exfalso; simp_all; done)
theorem cl_list_p {A : aT} (I : iC A m r T) {x y : Int} (hl : 0 ≤ x ∧ x < 3) (hz : 0 ≤ (aL A x.toNat).2) (hx : -2147483648 ≤ x ∧ x ≤ 2147483647) (hy : -2147483648 ≤ y ∧ y ≤ 2147483647) : jq sc 10 jm_X11_list [.ref 0, .int (jI x), .int (jI y)] (jh m r T) (cQ (aList A x y) m T) := by
  have c6 := I.c6
  have fs := I.fs
  obtain ⟨t, u, f, W⟩ := I.ls
  have W : lW A r T t u f := W
  have lb := I.lb (l := x.toNat) (by omega)
  obtain ⟨w1, gT, w3, w4⟩ := W.at (l := x.toNat) (by omega) hz
  refine je_in jb_X11_list rfl (ls := [_, _, _, _]) rfl ?_
  refine je_ps jb_X11_list 2 (pc' := 2) (ls' := [_, _, _, _]) (st' := [_, _]) rfl ?_
  refine je_cvP' jb_X11_list rfl (pc' := 5) rfl (jh_at (a := 0) rfl) (by rfl) (by first | decide | exact Nat.ble_eq_true_of_le (by omega)) (c_X11_isList (by omega)) (st' := [_]) rfl ?_
  rw [decide_eq_true hl]
  refine je_ifneb jb_X11_list rfl (t := 14) rfl (pc' := 8) rfl (fun c5 => ?_) (fun c5 => ?_)
  · refine je_ps jb_X11_list 2 (pc' := 17) (ls' := [_, _, _, _]) (st' := [_, _]) rfl ?_
    refine je_icmple jb_X11_list rfl (t := 27) rfl (pc' := 20) rfl (by first | omega | exact (hM _ _).1 | exact (hM _ _).2) (by first | omega | exact (hM _ _).1 | exact (hM _ _).2) (by first | omega | exact (hM _ _).1 | exact (hM _ _).2) (by first | omega | exact (hM _ _).1 | exact (hM _ _).2) (fun c17 => ?_) (fun c17 => ?_)
    · refine je_ps jb_X11_list 1 (pc' := 28) (ls' := [_, _, _, _]) (st' := [_]) rfl ?_
      refine je_ifge jb_X11_list rfl (t := 34) rfl (pc' := 31) rfl (by first | omega | exact (hM _ _).1 | exact (hM _ _).2) (by first | omega | exact (hM _ _).1 | exact (hM _ _).2) (fun c28 => ?_) (fun c28 => ?_)
      · refine je_ps jb_X11_list 2 (pc' := 36) (ls' := [_, _, _, _]) (st' := [_, _]) rfl ?_
        refine je_cvP' jb_X11_list rfl (pc' := 39) rfl (jh_at (a := 0) rfl) (by rfl) (by first | decide | exact Nat.ble_eq_true_of_le (by omega)) (lAt_t W hl hz) (st' := [_]) rfl ?_
        refine je_ps jb_X11_list 2 (pc' := 41) (ls' := [_, _, _, _]) (st' := [_]) rfl ?_
        refine je_ifnonnullR jb_X11_list rfl (t := 61) rfl (pc' := 44) rfl ?_
        refine je_ps jb_X11_list 1 (pc' := 62) (ls' := [_, _, _, _]) (st' := [_]) rfl ?_
        refine je_cvP' jb_X11_list rfl (pc' := 65) rfl ((jTr.rw gT).1) (by rfl) (by first | decide | exact Nat.ble_eq_true_of_le (by omega)) (kT_clear gT) (st' := []) rfl ?_
        have gT := gT.s (f x.toNat) (z' := 0) (by omega) (by omega)
        have rz := rep_zero (f := f x.toNat) y (by omega) (by omega) w3
        refine je_ps jb_X11_list 3 (pc' := 68) (ls' := [_, _, _, _]) (st' := [_, _, _]) rfl ?_
        refine je_cvP' jb_X11_list rfl (pc' := 71) rfl ((jTr.rw gT).1) (by rfl) (by first | decide | exact Nat.ble_eq_true_of_le (by omega)) (kT_addMany gT (by omega) (by omega)) (st' := []) rfl ?_
        rw [jTs_jTs gT.2.2.1]
        refine je_ps jb_X11_list 1 (pc' := 72) (ls' := [_, _, _, _]) (st' := [_]) rfl ?_
        rw [show aList A x y = (1, sL A x.toNat (fun _ => 0, y)) from by unfold aList; rw [if_pos hl, if_neg (by omega), if_neg (by omega)]]
        exact je_ret jb_X11_list rfl (by rfl) ⟨_, _, _, rfl, rfl, by rw [rz.1]; exact I.lset W (by omega) hz (by omega) (by omega) rz.2.2 (fun _ => by decide) rz.2.1, kG.rfl' m, tG.ts (W.at (l := x.toNat) (by omega) hz).2.1 _ _⟩
      · refine je_ps jb_X11_list 1 (pc' := 33) (ls' := [_, _, _, _]) (st' := [_]) rfl ?_
        rw [show aList A x y = (-14, A) from by unfold aList; rw [if_pos hl, if_neg (by omega), if_pos (by omega)]]
        exact je_ret jb_X11_list rfl (by rfl) ⟨_, _, _, rfl, rfl, I, kG.rfl' m, tG.rfl' T⟩
    · refine je_ps jb_X11_list 2 (pc' := 23) (ls' := [_, _, _, _]) (st' := [_, _]) rfl ?_
      refine je_cvP' jb_X11_list rfl (pc' := 26) rfl (jh_at (a := 0) rfl) (by rfl) (by first | decide | exact Nat.ble_eq_true_of_le (by omega)) (c_X11_refuse (by omega)) (st' := [_]) rfl ?_
      rw [show aList A x y = aRef A (-6) from by unfold aList; rw [if_pos hl, if_pos (by omega)]]
      exact je_ret jb_X11_list rfl (by rfl) ⟨_, _, _, rfl, rfl, I.ref (by omega), kG.ref m _, tG.rfl' T⟩
  · first | (exfalso; omega) | (cases c5; done) | (exfalso; simp_all; done)
theorem cl_list {A : aT} (I : iC A m r T) {x y : Int} (hx : -2147483648 ≤ x ∧ x ≤ 2147483647) (hy : -2147483648 ≤ y ∧ y ≤ 2147483647) : jq sc 10 jm_X11_list [.ref 0, .int (jI x), .int (jI y)] (jh m r T) (cQ (aList A x y) m T) := by
  by_cases hl : 0 ≤ x ∧ x < 3
  · by_cases hz : 0 ≤ (aL A x.toNat).2
    · exact cl_list_p I hl hz hx hy
    · exact cl_list_q I hl (by omega) hx hy
  · exact cl_list_n I hl hx hy
end C61
