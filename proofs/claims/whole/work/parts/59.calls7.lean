/-! CALLS of the class: helpers done -/
section C59
variable {sc : Nat × (Nat → Int32)} {m : Nat → Int → Int} {r : Nat → Nat → Value} {T : jx_H} {σ : jx_H}
theorem jQ37.w {i : Nat} (hi : i < 13) {q : (Int → Int) × Int} (g : jQ37 m q) (L : Int → Int) (e : Int) : jQ37 (jW m i L e) q := by
  have w := jw_13 hi
  unfold jQ37 at *
  rw [jW_ne (by omega) (by omega), jW_ne (by omega) (by omega)]
  exact g
theorem rn_w {s n k : Int} (h : fS s n k) : ∀ (cs : List Int) (w : wT), wOkk s n k w → wOkk s n k (rn s n k w cs)
  | [], _, o => o
  | _ :: cs, _, o => rn_w h cs _ (o.go h)
theorem cl_done_6 {A : aT} (I : iC A m r T) {x y : Int} (hh : 0 ≤ x ∧ x < (aHc A : Int)) (hk : (aH A x.toNat).1 = 0) (hx : -2147483648 ≤ x ∧ x ≤ 2147483647) (hy : -2147483648 ≤ y ∧ y ≤ 2147483647) : jq sc 14 jm_X11_done [.ref 0, .int (jI x), .int (jI y)] (jh m r T) (cQ (aDone A x y) m T) := by
  have c6 := I.c6
  have fs := I.fs
  obtain ⟨u, hu1, hu2⟩ := I.he x.toNat (by omega)
  have ho := I.ho (i := x.toNat) (by omega)
  rw [hk] at hu2
  have gT : T[u]? = some (6, [.int (jI (aH A x.toNat).2)]) := hu2
  obtain ⟨q7, gq7, ok7⟩ := I.q7
  obtain ⟨l, hl⟩ : ∃ l, sp6 (aH A x.toNat).2 = l := ⟨_, rfl⟩
  have e7 : hSp (aH A x.toNat).1 (aH A x.toNat).2 = l := by rw [hk, ← hl]; rfl
  have hs := hSp_i ho.1 ho.2
  rw [e7] at hs
  have g0 : jQ37 (jR37 m (q7.1, 0)) (q7.1, 0) := jQ37_R m (q := (q7.1, 0)) (Int.le_refl 0) (by show (0 : Int) ≤ 110; decide)
  have R := fRAl_rep (N := 110) l (q7.1, 0) [] ⟨rfl, fun j hj => absurd hj (by simp)⟩ (by rw [List.length_nil]; omega)
  rw [List.nil_append] at R
  have fi := fRAl_i (N := 110) l (q := (q7.1, 0)) ⟨Int.le_refl 0, by show (0 : Int) ≤ 110; decide⟩
  have fb := fRAl_b (N := 110) l (q7.1, 0) ok7 (fun z hz => by have := hs.2 z hz; omega)
  have I1 := I.r37 fi fb
  have g1 := jQ37_R m fi.1 fi.2
  refine je_in jb_X11_done rfl (ls := [_, _, _, _, _, _, _]) rfl ?_
  refine je_ps jb_X11_done 1 (pc' := 1) (ls' := [_, _, _, _, _, _, _]) (st' := [_]) rfl ?_
  refine je_get jb_X11_done rfl (pc' := 4) rfl (jh_at (a := 0) rfl) (by rfl) (by rfl) ?_
  refine je_ps jb_X11_done 1 (pc' := 5) (ls' := [_, _, _, _, _, _, _]) (st' := [_, _]) rfl ?_
  refine je_cvP' jb_X11_done rfl (pc' := 8) rfl (jh_at (a := 1) rfl) (by rfl) (by first | decide | exact Nat.ble_eq_true_of_le (by omega)) (hAt_t I hh hu1) (st' := [_]) rfl ?_
  refine je_ps jb_X11_done 2 (pc' := 10) (ls' := [_, _, _, _, _, _, _]) (st' := [_]) rfl ?_
  refine je_get jb_X11_done rfl (pc' := 13) rfl (jh_at (a := 0) rfl) (by rfl) (by rfl) ?_
  refine je_ps jb_X11_done 1 (pc' := 14) (ls' := [_, _, _, _, _, _, _]) (st' := [_, _]) rfl ?_
  refine je_cvP' jb_X11_done rfl (pc' := 17) rfl (jh_at (a := 1) rfl) (by rfl) (by first | decide | exact Nat.ble_eq_true_of_le (by omega)) (k_walkAt I.c I.c6 hy) (st' := [_]) rfl ?_
  refine je_mv (fun c14 => ?_) (fun c14 => ?_)
  · skip
    refine je_ps jb_X11_done 2 (pc' := 20) (ls' := [_, _, _, _, _, _, _]) (st' := [_]) rfl ?_
    refine je_ifnullR jb_X11_done rfl (t := 28) rfl (pc' := 23) rfl ?_
    refine je_ps jb_X11_done 1 (pc' := 25) (ls' := [_, _, _, _, _, _, _]) (st' := [_]) rfl ?_
    refine je_ifnonnullN jb_X11_done rfl (t := 34) rfl (pc' := 28) rfl ?_
    refine je_ps jb_X11_done 2 (pc' := 30) (ls' := [_, _, _, _, _, _, _]) (st' := [_, _]) rfl ?_
    refine je_cvP' jb_X11_done rfl (pc' := 33) rfl (jh_at (a := 0) rfl) (by rfl) (by first | decide | exact Nat.ble_eq_true_of_le (by omega)) (c_X11_refuse (by omega)) (st' := [_]) rfl ?_
    rw [show aDone A x y = aRef A (-1) from by unfold aDone; rw [if_neg (fun h => c14 h.2)]]
    exact je_ret jb_X11_done rfl (by rfl) ⟨_, _, _, rfl, rfl, I.ref (by omega), kG.ref m _, tG.rfl' T⟩
  · skip
    have hv : y.toNat < 13 := by omega
    have hvn : y.toNat < aC A := by omega
    have gv := I.wk hvn
    have ov := I.wo hvn
    have h12 : (12 : Nat) < 13 := by decide
    have gv1 := gv.R37 hv (fRAl 110 (q7.1, 0) l)
    have z12 := I1.z h12
    have s12 := I1.str (i := 12) (by decide)
    refine je_ps jb_X11_done 2 (pc' := 20) (ls' := [_, _, _, _, _, _, _]) (st' := [_]) rfl ?_
    refine je_ifnullR jb_X11_done rfl (t := 28) rfl (pc' := 23) rfl ?_
    refine je_ps jb_X11_done 1 (pc' := 25) (ls' := [_, _, _, _, _, _, _]) (st' := [_]) rfl ?_
    refine je_ifnonnullR jb_X11_done rfl (t := 34) rfl (pc' := 28) rfl ?_
    refine je_ps jb_X11_done 1 (pc' := 35) (ls' := [_, _, _, _, _, _, _]) (st' := [_]) rfl ?_
    refine je_get jb_X11_done rfl (pc' := 38) rfl (jh_at (a := 0) rfl) (by rfl) (by rfl) ?_
    refine je_cvP' jb_X11_done rfl (pc' := 41) rfl (jh_at (a := 39) rfl) (by rfl) (by first | decide | exact Nat.ble_eq_true_of_le (by omega)) (k37_clear gq7) (st' := []) rfl ?_
    refine je_ps jb_X11_done 2 (pc' := 43) (ls' := [_, _, _, _, _, _, _]) (st' := [_, _]) rfl ?_
    refine je_get jb_X11_done rfl (pc' := 46) rfl (jh_at (a := 0) rfl) (by rfl) (by rfl) ?_
    refine je_cvP' jb_X11_done rfl (pc' := 49) rfl (jh_tl gT) (by rfl) (by first | decide | exact Nat.ble_eq_true_of_le (by omega)) (k37_spell_6 g0 hl gT ho.2) (st' := []) rfl ?_
    rw [jR37_R]
    refine je_ps jb_X11_done 1 (pc' := 50) (ls' := [_, _, _, _, _, _, _]) (st' := [_]) rfl ?_
    refine je_get jb_X11_done rfl (pc' := 53) rfl (jh_at (a := 0) rfl) (by rfl) (by rfl) ?_
    refine je_get jb_X11_done rfl (pc' := 56) rfl (jh_at (a := 1) rfl) (by rfl) (by rfl) ?_
    refine je_ps jb_X11_done 3 (pc' := 62) (ls' := [_, _, _, _, _, _, _]) (st' := [_, _]) rfl ?_
    refine je_cvP' jb_X11_done rfl (pc' := 65) rfl (jh_at (a := 5) rfl) (by rfl) (by first | decide | exact Nat.ble_eq_true_of_le (by omega)) (k_copyFrom (i := 12) h12 z12 hv gv1 (by omega) ov.2.2) (st' := []) rfl ?_
    refine je_ps jb_X11_done 2 (pc' := 68) (ls' := [_, _, _, _, _, _, _]) (st' := []) rfl ?_
    refine je_loop (fun (p : Nat) ls σ' => ls = [.ref 0, .int (jI x), .int (jI y), .ref (62 + u), .ref (jwa y.toNat), .ref 5, .int (jI p)] ∧ σ' = jh (jW (jR37 m (fRAl 110 (q7.1, 0) l)) 12 (rn (aS A) (aN A) (aK A) (aW A y.toNat) (l.take p)).1 (rn (aS A) (aN A) (aK A) (aW A y.toNat) (l.take p)).2) r T ∧ sq (aS A) (aN A) (aK A) (aW A y.toNat) l = sq (aS A) (aN A) (aK A) (rn (aS A) (aN A) (aK A) (aW A y.toNat) (l.take p)) (l.drop p)) (l.length) ⟨rfl, rfl, rfl⟩ (fun p hp ls σ' gp kp => ?_) (fun ls σ' gp => ?_)
    · obtain ⟨rfl, rfl, fe⟩ := gp
      have fo := rn_w fs (l.take p) (aW A y.toNat) ov
      have g12 := jWk.w (m := jR37 m (fRAl 110 (q7.1, 0) l)) (i := 12) s12 h12 fo.1 fo.2.1
      have gw := jQ37.w (i := 12) h12 g1 (rn (aS A) (aN A) (aK A) (aW A y.toNat) (l.take p)).1 (rn (aS A) (aN A) (aK A) (aW A y.toNat) (l.take p)).2
      have sz := gw.2.1
      rw [R.1] at sz
      obtain ⟨c, hc⟩ : ∃ c, l[p]? = some c := ⟨_, List.getElem?_eq_getElem hp⟩
      have hR := R.2 p hp
      have hcr := hs.2 c (List.mem_of_getElem? hc)
      have hcq : fRAt (fRAl 110 (q7.1, 0) l).1 (fRAl 110 (q7.1, 0) l).2 (p : Int) = c := by unfold fRAt; rw [R.1, if_pos (by omega)]; rw [hc] at hR; exact (Option.some.inj hR).symm
      have hd : l.drop p = c :: l.drop (p + 1) := by rw [List.drop_eq_getElem_cons hp]; congr 1; rw [List.getElem?_eq_getElem hp] at hc; exact Option.some.inj hc
      have ht : l.take (p + 1) = l.take p ++ [c] := by rw [List.take_succ, hc]; rfl
      rw [hd] at fe
      refine je_ps jb_X11_done 2 (pc' := 71) (ls' := [_, _, _, _, _, _, _]) (st' := [_, _]) rfl ?_
      refine je_get jb_X11_done rfl (pc' := 74) rfl (jh_at (a := 0) rfl) (by rfl) (by rfl) ?_
      refine je_get jb_X11_done rfl (pc' := 77) rfl (jh_at (a := 39) rfl) (by rfl) (by rfl) ?_
      refine je_icmpge jb_X11_done rfl (t := 110) rfl (pc' := 80) rfl (by first | omega | exact (hM _ _).1 | exact (hM _ _).2) (by first | omega | exact (hM _ _).1 | exact (hM _ _).2) (by first | omega | exact (hM _ _).1 | exact (hM _ _).2) (by first | omega | exact (hM _ _).1 | exact (hM _ _).2) (fun c77 => ?_) (fun c77 => ?_)
      · first | (exfalso; omega) | (cases c77; done) | (exfalso; simp_all; done)
      · refine je_ps jb_X11_done 2 (pc' := 83) (ls' := [_, _, _, _, _, _, _]) (st' := [_, _]) rfl ?_
        refine je_get jb_X11_done rfl (pc' := 86) rfl (jh_at (a := 0) rfl) (by rfl) (by rfl) ?_
        refine je_ps jb_X11_done 1 (pc' := 88) (ls' := [_, _, _, _, _, _, _]) (st' := [_, _, _]) rfl ?_
        refine je_cvP' jb_X11_done rfl (pc' := 91) rfl (jh_at (a := 39) rfl) (by rfl) (by first | decide | exact Nat.ble_eq_true_of_le (by omega)) (k37_at gw (by omega)) (st' := [_, _]) rfl ?_
        rw [hcq]
        refine je_cvP' jb_X11_done rfl (pc' := 94) rfl (jh_at (a := 5) rfl) (by rfl) (by first | decide | exact Nat.ble_eq_true_of_le (by omega)) (k_goOn (i := 12) h12 g12 (by omega)) (st' := [_]) rfl ?_
        refine je_ifneb jb_X11_done rfl (t := 104) rfl (pc' := 97) rfl (fun c94 => ?_) (fun c94 => ?_)
        · refine je_iinc jb_X11_done rfl (pc' := 107) rfl rfl (ls' := [_, _, _, _, _, _, _]) rfl ?_
          refine je_ps jb_X11_done 1 (pc' := 68) (ls' := [_, _, _, _, _, _, _]) (st' := []) rfl ?_
          rw [ht, rn_app] at kp
          refine kp _ _ ⟨rfl, jh_eq (by rw [jW_W h12]), ?_⟩
          rw [fe]
          show (if (fGo (aS A) (aN A) (aK A) (rn (aS A) (aN A) (aK A) (aW A y.toNat) (l.take p)).1 (rn (aS A) (aN A) (aK A) (aW A y.toNat) (l.take p)).2 c).1 = true then _ else _) = _
          rw [if_pos c94]
        · refine je_ps jb_X11_done 2 (pc' := 100) (ls' := [_, _, _, _, _, _, _]) (st' := [_, _]) rfl ?_
          refine je_cvP' jb_X11_done rfl (pc' := 103) rfl (jh_at (a := 0) rfl) (by rfl) (by first | decide | exact Nat.ble_eq_true_of_le (by omega)) (c_X11_refuse (by omega)) (st' := [_]) rfl ?_
          rw [show aDone A x y = aRef A (-6) from by unfold aDone; rw [if_pos ⟨hh, c14⟩, e7, fe, if_neg (by show ¬ (if (fGo (aS A) (aN A) (aK A) (rn (aS A) (aN A) (aK A) (aW A y.toNat) (l.take p)).1 (rn (aS A) (aN A) (aK A) (aW A y.toNat) (l.take p)).2 c).1 = true then sq (aS A) (aN A) (aK A) (fGo (aS A) (aN A) (aK A) (rn (aS A) (aN A) (aK A) (aW A y.toNat) (l.take p)).1 (rn (aS A) (aN A) (aK A) (aW A y.toNat) (l.take p)).2 c).2 (l.drop (p + 1)) else (false, (rn (aS A) (aN A) (aK A) (aW A y.toNat) (l.take p)))).1 = true; rw [c94]; simp)]]
          rw [fGo_no c94, jW_W h12]
          exact je_ret jb_X11_done rfl (by rfl) ⟨_, _, _, rfl, rfl, (I1.junk (i := 12) (Or.inr rfl) fo.2.2).ref (by omega), (((kG.rfl' m).r37 _).w h12 _ _).u (by decide) _, tG.rfl' T⟩
    · obtain ⟨rfl, rfl, fe⟩ := gp
      have fo := rn_w fs (l.take l.length) (aW A y.toNat) ov
      have g12 := jWk.w (m := jR37 m (fRAl 110 (q7.1, 0) l)) (i := 12) s12 h12 fo.1 fo.2.1
      have gw := jQ37.w (i := 12) h12 g1 (rn (aS A) (aN A) (aK A) (aW A y.toNat) (l.take l.length)).1 (rn (aS A) (aN A) (aK A) (aW A y.toNat) (l.take l.length)).2
      have sz := gw.2.1
      rw [R.1] at sz
      rw [List.drop_length] at fe
      have gv3 := jWk.o (m := jR37 m (fRAl 110 (q7.1, 0) l)) gv1 hv h12 (by omega) (rn (aS A) (aN A) (aK A) (aW A y.toNat) (l.take l.length)).1 (rn (aS A) (aN A) (aK A) (aW A y.toNat) (l.take l.length)).2
      refine je_ps jb_X11_done 2 (pc' := 71) (ls' := [_, _, _, _, _, _, _]) (st' := [_, _]) rfl ?_
      refine je_get jb_X11_done rfl (pc' := 74) rfl (jh_at (a := 0) rfl) (by rfl) (by rfl) ?_
      refine je_get jb_X11_done rfl (pc' := 77) rfl (jh_at (a := 39) rfl) (by rfl) (by rfl) ?_
      refine je_icmpge jb_X11_done rfl (t := 110) rfl (pc' := 80) rfl (by first | omega | exact (hM _ _).1 | exact (hM _ _).2) (by first | omega | exact (hM _ _).1 | exact (hM _ _).2) (by first | omega | exact (hM _ _).1 | exact (hM _ _).2) (by first | omega | exact (hM _ _).1 | exact (hM _ _).2) (fun c77 => ?_) (fun c77 => ?_)
      · refine je_ps jb_X11_done 2 (pc' := 114) (ls' := [_, _, _, _, _, _, _]) (st' := [_, _]) rfl ?_
        refine je_cvP' jb_X11_done rfl (pc' := 117) rfl (by first | exact jh_V hv gv | exact jh_V hv (g0.R37 hv _) | exact jh_walk hv) (by rfl) (by first | decide | exact Nat.ble_eq_true_of_le (by omega)) (k_copyFrom (i := y.toNat) (j := 12) hv ((I1.junk (i := 12) (L := (rn (aS A) (aN A) (aK A) (aW A y.toNat) (l.take l.length)).1) (e := (rn (aS A) (aN A) (aK A) (aW A y.toNat) (l.take l.length)).2) (Or.inr rfl) fo.2.2).z hv) h12 g12 (by omega) fo.2.2) (st' := []) rfl ?_
        have gl := jWk.w (m := jW (jR37 m (fRAl 110 (q7.1, 0) l)) 12 (rn (aS A) (aN A) (aK A) (aW A y.toNat) (l.take l.length)).1 (rn (aS A) (aN A) (aK A) (aW A y.toNat) (l.take l.length)).2) gv3.1 hv fo.1 fo.2.1
        refine je_ps jb_X11_done 1 (pc' := 119) (ls' := [_, _, _, _, _, _, _]) (st' := [_]) rfl ?_
        refine je_cvP' jb_X11_done rfl (pc' := 122) rfl (by first | exact jh_V hv gv | exact jh_V hv (g0.R37 hv _) | exact jh_walk hv) (by rfl) (by first | decide | exact Nat.ble_eq_true_of_le (by omega)) (k_length hv gl) (st' := [_]) rfl ?_
        rw [show aDone A x y = (fLen (aS A) (aN A) (aK A) (rn (aS A) (aN A) (aK A) (aW A y.toNat) (l.take l.length)).1 (rn (aS A) (aN A) (aK A) (aW A y.toNat) (l.take l.length)).2, sWk A y.toNat (rn (aS A) (aN A) (aK A) (aW A y.toNat) (l.take l.length))) from by unfold aDone; rw [if_pos ⟨hh, c14⟩, e7, fe]; exact if_pos rfl]
        exact je_ret jb_X11_done rfl (by rfl) ⟨_, _, _, rfl, rfl, (I1.junk (i := 12) (Or.inr rfl) fo.2.2).set hvn fo, (((kG.rfl' m).r37 _).w h12 _ _).w hv _ _, tG.rfl' T⟩
      · first | (exfalso; omega) | (cases c77; done) | (exfalso; simp_all; done)
theorem cl_done_9 {A : aT} (I : iC A m r T) {x y : Int} (hh : 0 ≤ x ∧ x < (aHc A : Int)) (hk : (aH A x.toNat).1 = 1) (hx : -2147483648 ≤ x ∧ x ≤ 2147483647) (hy : -2147483648 ≤ y ∧ y ≤ 2147483647) : jq sc 14 jm_X11_done [.ref 0, .int (jI x), .int (jI y)] (jh m r T) (cQ (aDone A x y) m T) := by
  have c6 := I.c6
  have fs := I.fs
  obtain ⟨u, hu1, hu2⟩ := I.he x.toNat (by omega)
  have ho := I.ho (i := x.toNat) (by omega)
  rw [hk] at hu2
  have gT : T[u]? = some (9, [.int (jI (aH A x.toNat).2)]) := hu2
  obtain ⟨q7, gq7, ok7⟩ := I.q7
  obtain ⟨l, hl⟩ : ∃ l, sp9 (aH A x.toNat).2 = l := ⟨_, rfl⟩
  have e7 : hSp (aH A x.toNat).1 (aH A x.toNat).2 = l := by rw [hk, ← hl]; rfl
  have hs := hSp_i ho.1 ho.2
  rw [e7] at hs
  have g0 : jQ37 (jR37 m (q7.1, 0)) (q7.1, 0) := jQ37_R m (q := (q7.1, 0)) (Int.le_refl 0) (by show (0 : Int) ≤ 110; decide)
  have R := fRAl_rep (N := 110) l (q7.1, 0) [] ⟨rfl, fun j hj => absurd hj (by simp)⟩ (by rw [List.length_nil]; omega)
  rw [List.nil_append] at R
  have fi := fRAl_i (N := 110) l (q := (q7.1, 0)) ⟨Int.le_refl 0, by show (0 : Int) ≤ 110; decide⟩
  have fb := fRAl_b (N := 110) l (q7.1, 0) ok7 (fun z hz => by have := hs.2 z hz; omega)
  have I1 := I.r37 fi fb
  have g1 := jQ37_R m fi.1 fi.2
  refine je_in jb_X11_done rfl (ls := [_, _, _, _, _, _, _]) rfl ?_
  refine je_ps jb_X11_done 1 (pc' := 1) (ls' := [_, _, _, _, _, _, _]) (st' := [_]) rfl ?_
  refine je_get jb_X11_done rfl (pc' := 4) rfl (jh_at (a := 0) rfl) (by rfl) (by rfl) ?_
  refine je_ps jb_X11_done 1 (pc' := 5) (ls' := [_, _, _, _, _, _, _]) (st' := [_, _]) rfl ?_
  refine je_cvP' jb_X11_done rfl (pc' := 8) rfl (jh_at (a := 1) rfl) (by rfl) (by first | decide | exact Nat.ble_eq_true_of_le (by omega)) (hAt_t I hh hu1) (st' := [_]) rfl ?_
  refine je_ps jb_X11_done 2 (pc' := 10) (ls' := [_, _, _, _, _, _, _]) (st' := [_]) rfl ?_
  refine je_get jb_X11_done rfl (pc' := 13) rfl (jh_at (a := 0) rfl) (by rfl) (by rfl) ?_
  refine je_ps jb_X11_done 1 (pc' := 14) (ls' := [_, _, _, _, _, _, _]) (st' := [_, _]) rfl ?_
  refine je_cvP' jb_X11_done rfl (pc' := 17) rfl (jh_at (a := 1) rfl) (by rfl) (by first | decide | exact Nat.ble_eq_true_of_le (by omega)) (k_walkAt I.c I.c6 hy) (st' := [_]) rfl ?_
  refine je_mv (fun c14 => ?_) (fun c14 => ?_)
  · skip
    refine je_ps jb_X11_done 2 (pc' := 20) (ls' := [_, _, _, _, _, _, _]) (st' := [_]) rfl ?_
    refine je_ifnullR jb_X11_done rfl (t := 28) rfl (pc' := 23) rfl ?_
    refine je_ps jb_X11_done 1 (pc' := 25) (ls' := [_, _, _, _, _, _, _]) (st' := [_]) rfl ?_
    refine je_ifnonnullN jb_X11_done rfl (t := 34) rfl (pc' := 28) rfl ?_
    refine je_ps jb_X11_done 2 (pc' := 30) (ls' := [_, _, _, _, _, _, _]) (st' := [_, _]) rfl ?_
    refine je_cvP' jb_X11_done rfl (pc' := 33) rfl (jh_at (a := 0) rfl) (by rfl) (by first | decide | exact Nat.ble_eq_true_of_le (by omega)) (c_X11_refuse (by omega)) (st' := [_]) rfl ?_
    rw [show aDone A x y = aRef A (-1) from by unfold aDone; rw [if_neg (fun h => c14 h.2)]]
    exact je_ret jb_X11_done rfl (by rfl) ⟨_, _, _, rfl, rfl, I.ref (by omega), kG.ref m _, tG.rfl' T⟩
  · skip
    have hv : y.toNat < 13 := by omega
    have hvn : y.toNat < aC A := by omega
    have gv := I.wk hvn
    have ov := I.wo hvn
    have h12 : (12 : Nat) < 13 := by decide
    have gv1 := gv.R37 hv (fRAl 110 (q7.1, 0) l)
    have z12 := I1.z h12
    have s12 := I1.str (i := 12) (by decide)
    refine je_ps jb_X11_done 2 (pc' := 20) (ls' := [_, _, _, _, _, _, _]) (st' := [_]) rfl ?_
    refine je_ifnullR jb_X11_done rfl (t := 28) rfl (pc' := 23) rfl ?_
    refine je_ps jb_X11_done 1 (pc' := 25) (ls' := [_, _, _, _, _, _, _]) (st' := [_]) rfl ?_
    refine je_ifnonnullR jb_X11_done rfl (t := 34) rfl (pc' := 28) rfl ?_
    refine je_ps jb_X11_done 1 (pc' := 35) (ls' := [_, _, _, _, _, _, _]) (st' := [_]) rfl ?_
    refine je_get jb_X11_done rfl (pc' := 38) rfl (jh_at (a := 0) rfl) (by rfl) (by rfl) ?_
    refine je_cvP' jb_X11_done rfl (pc' := 41) rfl (jh_at (a := 39) rfl) (by rfl) (by first | decide | exact Nat.ble_eq_true_of_le (by omega)) (k37_clear gq7) (st' := []) rfl ?_
    refine je_ps jb_X11_done 2 (pc' := 43) (ls' := [_, _, _, _, _, _, _]) (st' := [_, _]) rfl ?_
    refine je_get jb_X11_done rfl (pc' := 46) rfl (jh_at (a := 0) rfl) (by rfl) (by rfl) ?_
    refine je_cvP' jb_X11_done rfl (pc' := 49) rfl (jh_tl gT) (by rfl) (by first | decide | exact Nat.ble_eq_true_of_le (by omega)) (k37_spell_9 g0 hl gT ho.2) (st' := []) rfl ?_
    rw [jR37_R]
    refine je_ps jb_X11_done 1 (pc' := 50) (ls' := [_, _, _, _, _, _, _]) (st' := [_]) rfl ?_
    refine je_get jb_X11_done rfl (pc' := 53) rfl (jh_at (a := 0) rfl) (by rfl) (by rfl) ?_
    refine je_get jb_X11_done rfl (pc' := 56) rfl (jh_at (a := 1) rfl) (by rfl) (by rfl) ?_
    refine je_ps jb_X11_done 3 (pc' := 62) (ls' := [_, _, _, _, _, _, _]) (st' := [_, _]) rfl ?_
    refine je_cvP' jb_X11_done rfl (pc' := 65) rfl (jh_at (a := 5) rfl) (by rfl) (by first | decide | exact Nat.ble_eq_true_of_le (by omega)) (k_copyFrom (i := 12) h12 z12 hv gv1 (by omega) ov.2.2) (st' := []) rfl ?_
    refine je_ps jb_X11_done 2 (pc' := 68) (ls' := [_, _, _, _, _, _, _]) (st' := []) rfl ?_
    refine je_loop (fun (p : Nat) ls σ' => ls = [.ref 0, .int (jI x), .int (jI y), .ref (62 + u), .ref (jwa y.toNat), .ref 5, .int (jI p)] ∧ σ' = jh (jW (jR37 m (fRAl 110 (q7.1, 0) l)) 12 (rn (aS A) (aN A) (aK A) (aW A y.toNat) (l.take p)).1 (rn (aS A) (aN A) (aK A) (aW A y.toNat) (l.take p)).2) r T ∧ sq (aS A) (aN A) (aK A) (aW A y.toNat) l = sq (aS A) (aN A) (aK A) (rn (aS A) (aN A) (aK A) (aW A y.toNat) (l.take p)) (l.drop p)) (l.length) ⟨rfl, rfl, rfl⟩ (fun p hp ls σ' gp kp => ?_) (fun ls σ' gp => ?_)
    · obtain ⟨rfl, rfl, fe⟩ := gp
      have fo := rn_w fs (l.take p) (aW A y.toNat) ov
      have g12 := jWk.w (m := jR37 m (fRAl 110 (q7.1, 0) l)) (i := 12) s12 h12 fo.1 fo.2.1
      have gw := jQ37.w (i := 12) h12 g1 (rn (aS A) (aN A) (aK A) (aW A y.toNat) (l.take p)).1 (rn (aS A) (aN A) (aK A) (aW A y.toNat) (l.take p)).2
      have sz := gw.2.1
      rw [R.1] at sz
      obtain ⟨c, hc⟩ : ∃ c, l[p]? = some c := ⟨_, List.getElem?_eq_getElem hp⟩
      have hR := R.2 p hp
      have hcr := hs.2 c (List.mem_of_getElem? hc)
      have hcq : fRAt (fRAl 110 (q7.1, 0) l).1 (fRAl 110 (q7.1, 0) l).2 (p : Int) = c := by unfold fRAt; rw [R.1, if_pos (by omega)]; rw [hc] at hR; exact (Option.some.inj hR).symm
      have hd : l.drop p = c :: l.drop (p + 1) := by rw [List.drop_eq_getElem_cons hp]; congr 1; rw [List.getElem?_eq_getElem hp] at hc; exact Option.some.inj hc
      have ht : l.take (p + 1) = l.take p ++ [c] := by rw [List.take_succ, hc]; rfl
      rw [hd] at fe
      refine je_ps jb_X11_done 2 (pc' := 71) (ls' := [_, _, _, _, _, _, _]) (st' := [_, _]) rfl ?_
      refine je_get jb_X11_done rfl (pc' := 74) rfl (jh_at (a := 0) rfl) (by rfl) (by rfl) ?_
      refine je_get jb_X11_done rfl (pc' := 77) rfl (jh_at (a := 39) rfl) (by rfl) (by rfl) ?_
      refine je_icmpge jb_X11_done rfl (t := 110) rfl (pc' := 80) rfl (by first | omega | exact (hM _ _).1 | exact (hM _ _).2) (by first | omega | exact (hM _ _).1 | exact (hM _ _).2) (by first | omega | exact (hM _ _).1 | exact (hM _ _).2) (by first | omega | exact (hM _ _).1 | exact (hM _ _).2) (fun c77 => ?_) (fun c77 => ?_)
      · first | (exfalso; omega) | (cases c77; done) | (exfalso; simp_all; done)
      · refine je_ps jb_X11_done 2 (pc' := 83) (ls' := [_, _, _, _, _, _, _]) (st' := [_, _]) rfl ?_
        refine je_get jb_X11_done rfl (pc' := 86) rfl (jh_at (a := 0) rfl) (by rfl) (by rfl) ?_
        refine je_ps jb_X11_done 1 (pc' := 88) (ls' := [_, _, _, _, _, _, _]) (st' := [_, _, _]) rfl ?_
        refine je_cvP' jb_X11_done rfl (pc' := 91) rfl (jh_at (a := 39) rfl) (by rfl) (by first | decide | exact Nat.ble_eq_true_of_le (by omega)) (k37_at gw (by omega)) (st' := [_, _]) rfl ?_
        rw [hcq]
        refine je_cvP' jb_X11_done rfl (pc' := 94) rfl (jh_at (a := 5) rfl) (by rfl) (by first | decide | exact Nat.ble_eq_true_of_le (by omega)) (k_goOn (i := 12) h12 g12 (by omega)) (st' := [_]) rfl ?_
        refine je_ifneb jb_X11_done rfl (t := 104) rfl (pc' := 97) rfl (fun c94 => ?_) (fun c94 => ?_)
        · refine je_iinc jb_X11_done rfl (pc' := 107) rfl rfl (ls' := [_, _, _, _, _, _, _]) rfl ?_
          refine je_ps jb_X11_done 1 (pc' := 68) (ls' := [_, _, _, _, _, _, _]) (st' := []) rfl ?_
          rw [ht, rn_app] at kp
          refine kp _ _ ⟨rfl, jh_eq (by rw [jW_W h12]), ?_⟩
          rw [fe]
          show (if (fGo (aS A) (aN A) (aK A) (rn (aS A) (aN A) (aK A) (aW A y.toNat) (l.take p)).1 (rn (aS A) (aN A) (aK A) (aW A y.toNat) (l.take p)).2 c).1 = true then _ else _) = _
          rw [if_pos c94]
        · refine je_ps jb_X11_done 2 (pc' := 100) (ls' := [_, _, _, _, _, _, _]) (st' := [_, _]) rfl ?_
          refine je_cvP' jb_X11_done rfl (pc' := 103) rfl (jh_at (a := 0) rfl) (by rfl) (by first | decide | exact Nat.ble_eq_true_of_le (by omega)) (c_X11_refuse (by omega)) (st' := [_]) rfl ?_
          rw [show aDone A x y = aRef A (-6) from by unfold aDone; rw [if_pos ⟨hh, c14⟩, e7, fe, if_neg (by show ¬ (if (fGo (aS A) (aN A) (aK A) (rn (aS A) (aN A) (aK A) (aW A y.toNat) (l.take p)).1 (rn (aS A) (aN A) (aK A) (aW A y.toNat) (l.take p)).2 c).1 = true then sq (aS A) (aN A) (aK A) (fGo (aS A) (aN A) (aK A) (rn (aS A) (aN A) (aK A) (aW A y.toNat) (l.take p)).1 (rn (aS A) (aN A) (aK A) (aW A y.toNat) (l.take p)).2 c).2 (l.drop (p + 1)) else (false, (rn (aS A) (aN A) (aK A) (aW A y.toNat) (l.take p)))).1 = true; rw [c94]; simp)]]
          rw [fGo_no c94, jW_W h12]
          exact je_ret jb_X11_done rfl (by rfl) ⟨_, _, _, rfl, rfl, (I1.junk (i := 12) (Or.inr rfl) fo.2.2).ref (by omega), (((kG.rfl' m).r37 _).w h12 _ _).u (by decide) _, tG.rfl' T⟩
    · obtain ⟨rfl, rfl, fe⟩ := gp
      have fo := rn_w fs (l.take l.length) (aW A y.toNat) ov
      have g12 := jWk.w (m := jR37 m (fRAl 110 (q7.1, 0) l)) (i := 12) s12 h12 fo.1 fo.2.1
      have gw := jQ37.w (i := 12) h12 g1 (rn (aS A) (aN A) (aK A) (aW A y.toNat) (l.take l.length)).1 (rn (aS A) (aN A) (aK A) (aW A y.toNat) (l.take l.length)).2
      have sz := gw.2.1
      rw [R.1] at sz
      rw [List.drop_length] at fe
      have gv3 := jWk.o (m := jR37 m (fRAl 110 (q7.1, 0) l)) gv1 hv h12 (by omega) (rn (aS A) (aN A) (aK A) (aW A y.toNat) (l.take l.length)).1 (rn (aS A) (aN A) (aK A) (aW A y.toNat) (l.take l.length)).2
      refine je_ps jb_X11_done 2 (pc' := 71) (ls' := [_, _, _, _, _, _, _]) (st' := [_, _]) rfl ?_
      refine je_get jb_X11_done rfl (pc' := 74) rfl (jh_at (a := 0) rfl) (by rfl) (by rfl) ?_
      refine je_get jb_X11_done rfl (pc' := 77) rfl (jh_at (a := 39) rfl) (by rfl) (by rfl) ?_
      refine je_icmpge jb_X11_done rfl (t := 110) rfl (pc' := 80) rfl (by first | omega | exact (hM _ _).1 | exact (hM _ _).2) (by first | omega | exact (hM _ _).1 | exact (hM _ _).2) (by first | omega | exact (hM _ _).1 | exact (hM _ _).2) (by first | omega | exact (hM _ _).1 | exact (hM _ _).2) (fun c77 => ?_) (fun c77 => ?_)
      · refine je_ps jb_X11_done 2 (pc' := 114) (ls' := [_, _, _, _, _, _, _]) (st' := [_, _]) rfl ?_
        refine je_cvP' jb_X11_done rfl (pc' := 117) rfl (by first | exact jh_V hv gv | exact jh_V hv (g0.R37 hv _) | exact jh_walk hv) (by rfl) (by first | decide | exact Nat.ble_eq_true_of_le (by omega)) (k_copyFrom (i := y.toNat) (j := 12) hv ((I1.junk (i := 12) (L := (rn (aS A) (aN A) (aK A) (aW A y.toNat) (l.take l.length)).1) (e := (rn (aS A) (aN A) (aK A) (aW A y.toNat) (l.take l.length)).2) (Or.inr rfl) fo.2.2).z hv) h12 g12 (by omega) fo.2.2) (st' := []) rfl ?_
        have gl := jWk.w (m := jW (jR37 m (fRAl 110 (q7.1, 0) l)) 12 (rn (aS A) (aN A) (aK A) (aW A y.toNat) (l.take l.length)).1 (rn (aS A) (aN A) (aK A) (aW A y.toNat) (l.take l.length)).2) gv3.1 hv fo.1 fo.2.1
        refine je_ps jb_X11_done 1 (pc' := 119) (ls' := [_, _, _, _, _, _, _]) (st' := [_]) rfl ?_
        refine je_cvP' jb_X11_done rfl (pc' := 122) rfl (by first | exact jh_V hv gv | exact jh_V hv (g0.R37 hv _) | exact jh_walk hv) (by rfl) (by first | decide | exact Nat.ble_eq_true_of_le (by omega)) (k_length hv gl) (st' := [_]) rfl ?_
        rw [show aDone A x y = (fLen (aS A) (aN A) (aK A) (rn (aS A) (aN A) (aK A) (aW A y.toNat) (l.take l.length)).1 (rn (aS A) (aN A) (aK A) (aW A y.toNat) (l.take l.length)).2, sWk A y.toNat (rn (aS A) (aN A) (aK A) (aW A y.toNat) (l.take l.length))) from by unfold aDone; rw [if_pos ⟨hh, c14⟩, e7, fe]; exact if_pos rfl]
        exact je_ret jb_X11_done rfl (by rfl) ⟨_, _, _, rfl, rfl, (I1.junk (i := 12) (Or.inr rfl) fo.2.2).set hvn fo, (((kG.rfl' m).r37 _).w h12 _ _).w hv _ _, tG.rfl' T⟩
      · first | (exfalso; omega) | (cases c77; done) | (exfalso; simp_all; done)
theorem cl_done_0 {A : aT} (I : iC A m r T) {x y : Int} (hh : 0 ≤ x ∧ x < (aHc A : Int)) (hk : (aH A x.toNat).1 = 2) (hx : -2147483648 ≤ x ∧ x ≤ 2147483647) (hy : -2147483648 ≤ y ∧ y ≤ 2147483647) : jq sc 14 jm_X11_done [.ref 0, .int (jI x), .int (jI y)] (jh m r T) (cQ (aDone A x y) m T) := by
  have c6 := I.c6
  have fs := I.fs
  obtain ⟨u, hu1, hu2⟩ := I.he x.toNat (by omega)
  have ho := I.ho (i := x.toNat) (by omega)
  rw [hk] at hu2
  have gT : T[u]? = some (0, [.int (jI (aH A x.toNat).2)]) := hu2
  obtain ⟨q7, gq7, ok7⟩ := I.q7
  obtain ⟨l, hl⟩ : ∃ l, sp0 (aH A x.toNat).2 = l := ⟨_, rfl⟩
  have e7 : hSp (aH A x.toNat).1 (aH A x.toNat).2 = l := by rw [hk, ← hl]; rfl
  have hs := hSp_i ho.1 ho.2
  rw [e7] at hs
  have g0 : jQ37 (jR37 m (q7.1, 0)) (q7.1, 0) := jQ37_R m (q := (q7.1, 0)) (Int.le_refl 0) (by show (0 : Int) ≤ 110; decide)
  have R := fRAl_rep (N := 110) l (q7.1, 0) [] ⟨rfl, fun j hj => absurd hj (by simp)⟩ (by rw [List.length_nil]; omega)
  rw [List.nil_append] at R
  have fi := fRAl_i (N := 110) l (q := (q7.1, 0)) ⟨Int.le_refl 0, by show (0 : Int) ≤ 110; decide⟩
  have fb := fRAl_b (N := 110) l (q7.1, 0) ok7 (fun z hz => by have := hs.2 z hz; omega)
  have I1 := I.r37 fi fb
  have g1 := jQ37_R m fi.1 fi.2
  refine je_in jb_X11_done rfl (ls := [_, _, _, _, _, _, _]) rfl ?_
  refine je_ps jb_X11_done 1 (pc' := 1) (ls' := [_, _, _, _, _, _, _]) (st' := [_]) rfl ?_
  refine je_get jb_X11_done rfl (pc' := 4) rfl (jh_at (a := 0) rfl) (by rfl) (by rfl) ?_
  refine je_ps jb_X11_done 1 (pc' := 5) (ls' := [_, _, _, _, _, _, _]) (st' := [_, _]) rfl ?_
  refine je_cvP' jb_X11_done rfl (pc' := 8) rfl (jh_at (a := 1) rfl) (by rfl) (by first | decide | exact Nat.ble_eq_true_of_le (by omega)) (hAt_t I hh hu1) (st' := [_]) rfl ?_
  refine je_ps jb_X11_done 2 (pc' := 10) (ls' := [_, _, _, _, _, _, _]) (st' := [_]) rfl ?_
  refine je_get jb_X11_done rfl (pc' := 13) rfl (jh_at (a := 0) rfl) (by rfl) (by rfl) ?_
  refine je_ps jb_X11_done 1 (pc' := 14) (ls' := [_, _, _, _, _, _, _]) (st' := [_, _]) rfl ?_
  refine je_cvP' jb_X11_done rfl (pc' := 17) rfl (jh_at (a := 1) rfl) (by rfl) (by first | decide | exact Nat.ble_eq_true_of_le (by omega)) (k_walkAt I.c I.c6 hy) (st' := [_]) rfl ?_
  refine je_mv (fun c14 => ?_) (fun c14 => ?_)
  · skip
    refine je_ps jb_X11_done 2 (pc' := 20) (ls' := [_, _, _, _, _, _, _]) (st' := [_]) rfl ?_
    refine je_ifnullR jb_X11_done rfl (t := 28) rfl (pc' := 23) rfl ?_
    refine je_ps jb_X11_done 1 (pc' := 25) (ls' := [_, _, _, _, _, _, _]) (st' := [_]) rfl ?_
    refine je_ifnonnullN jb_X11_done rfl (t := 34) rfl (pc' := 28) rfl ?_
    refine je_ps jb_X11_done 2 (pc' := 30) (ls' := [_, _, _, _, _, _, _]) (st' := [_, _]) rfl ?_
    refine je_cvP' jb_X11_done rfl (pc' := 33) rfl (jh_at (a := 0) rfl) (by rfl) (by first | decide | exact Nat.ble_eq_true_of_le (by omega)) (c_X11_refuse (by omega)) (st' := [_]) rfl ?_
    rw [show aDone A x y = aRef A (-1) from by unfold aDone; rw [if_neg (fun h => c14 h.2)]]
    exact je_ret jb_X11_done rfl (by rfl) ⟨_, _, _, rfl, rfl, I.ref (by omega), kG.ref m _, tG.rfl' T⟩
  · skip
    have hv : y.toNat < 13 := by omega
    have hvn : y.toNat < aC A := by omega
    have gv := I.wk hvn
    have ov := I.wo hvn
    have h12 : (12 : Nat) < 13 := by decide
    have gv1 := gv.R37 hv (fRAl 110 (q7.1, 0) l)
    have z12 := I1.z h12
    have s12 := I1.str (i := 12) (by decide)
    refine je_ps jb_X11_done 2 (pc' := 20) (ls' := [_, _, _, _, _, _, _]) (st' := [_]) rfl ?_
    refine je_ifnullR jb_X11_done rfl (t := 28) rfl (pc' := 23) rfl ?_
    refine je_ps jb_X11_done 1 (pc' := 25) (ls' := [_, _, _, _, _, _, _]) (st' := [_]) rfl ?_
    refine je_ifnonnullR jb_X11_done rfl (t := 34) rfl (pc' := 28) rfl ?_
    refine je_ps jb_X11_done 1 (pc' := 35) (ls' := [_, _, _, _, _, _, _]) (st' := [_]) rfl ?_
    refine je_get jb_X11_done rfl (pc' := 38) rfl (jh_at (a := 0) rfl) (by rfl) (by rfl) ?_
    refine je_cvP' jb_X11_done rfl (pc' := 41) rfl (jh_at (a := 39) rfl) (by rfl) (by first | decide | exact Nat.ble_eq_true_of_le (by omega)) (k37_clear gq7) (st' := []) rfl ?_
    refine je_ps jb_X11_done 2 (pc' := 43) (ls' := [_, _, _, _, _, _, _]) (st' := [_, _]) rfl ?_
    refine je_get jb_X11_done rfl (pc' := 46) rfl (jh_at (a := 0) rfl) (by rfl) (by rfl) ?_
    refine je_cvP' jb_X11_done rfl (pc' := 49) rfl (jh_tl gT) (by rfl) (by first | decide | exact Nat.ble_eq_true_of_le (by omega)) (k37_spell_0 g0 hl gT ho.2) (st' := []) rfl ?_
    rw [jR37_R]
    refine je_ps jb_X11_done 1 (pc' := 50) (ls' := [_, _, _, _, _, _, _]) (st' := [_]) rfl ?_
    refine je_get jb_X11_done rfl (pc' := 53) rfl (jh_at (a := 0) rfl) (by rfl) (by rfl) ?_
    refine je_get jb_X11_done rfl (pc' := 56) rfl (jh_at (a := 1) rfl) (by rfl) (by rfl) ?_
    refine je_ps jb_X11_done 3 (pc' := 62) (ls' := [_, _, _, _, _, _, _]) (st' := [_, _]) rfl ?_
    refine je_cvP' jb_X11_done rfl (pc' := 65) rfl (jh_at (a := 5) rfl) (by rfl) (by first | decide | exact Nat.ble_eq_true_of_le (by omega)) (k_copyFrom (i := 12) h12 z12 hv gv1 (by omega) ov.2.2) (st' := []) rfl ?_
    refine je_ps jb_X11_done 2 (pc' := 68) (ls' := [_, _, _, _, _, _, _]) (st' := []) rfl ?_
    refine je_loop (fun (p : Nat) ls σ' => ls = [.ref 0, .int (jI x), .int (jI y), .ref (62 + u), .ref (jwa y.toNat), .ref 5, .int (jI p)] ∧ σ' = jh (jW (jR37 m (fRAl 110 (q7.1, 0) l)) 12 (rn (aS A) (aN A) (aK A) (aW A y.toNat) (l.take p)).1 (rn (aS A) (aN A) (aK A) (aW A y.toNat) (l.take p)).2) r T ∧ sq (aS A) (aN A) (aK A) (aW A y.toNat) l = sq (aS A) (aN A) (aK A) (rn (aS A) (aN A) (aK A) (aW A y.toNat) (l.take p)) (l.drop p)) (l.length) ⟨rfl, rfl, rfl⟩ (fun p hp ls σ' gp kp => ?_) (fun ls σ' gp => ?_)
    · obtain ⟨rfl, rfl, fe⟩ := gp
      have fo := rn_w fs (l.take p) (aW A y.toNat) ov
      have g12 := jWk.w (m := jR37 m (fRAl 110 (q7.1, 0) l)) (i := 12) s12 h12 fo.1 fo.2.1
      have gw := jQ37.w (i := 12) h12 g1 (rn (aS A) (aN A) (aK A) (aW A y.toNat) (l.take p)).1 (rn (aS A) (aN A) (aK A) (aW A y.toNat) (l.take p)).2
      have sz := gw.2.1
      rw [R.1] at sz
      obtain ⟨c, hc⟩ : ∃ c, l[p]? = some c := ⟨_, List.getElem?_eq_getElem hp⟩
      have hR := R.2 p hp
      have hcr := hs.2 c (List.mem_of_getElem? hc)
      have hcq : fRAt (fRAl 110 (q7.1, 0) l).1 (fRAl 110 (q7.1, 0) l).2 (p : Int) = c := by unfold fRAt; rw [R.1, if_pos (by omega)]; rw [hc] at hR; exact (Option.some.inj hR).symm
      have hd : l.drop p = c :: l.drop (p + 1) := by rw [List.drop_eq_getElem_cons hp]; congr 1; rw [List.getElem?_eq_getElem hp] at hc; exact Option.some.inj hc
      have ht : l.take (p + 1) = l.take p ++ [c] := by rw [List.take_succ, hc]; rfl
      rw [hd] at fe
      refine je_ps jb_X11_done 2 (pc' := 71) (ls' := [_, _, _, _, _, _, _]) (st' := [_, _]) rfl ?_
      refine je_get jb_X11_done rfl (pc' := 74) rfl (jh_at (a := 0) rfl) (by rfl) (by rfl) ?_
      refine je_get jb_X11_done rfl (pc' := 77) rfl (jh_at (a := 39) rfl) (by rfl) (by rfl) ?_
      refine je_icmpge jb_X11_done rfl (t := 110) rfl (pc' := 80) rfl (by first | omega | exact (hM _ _).1 | exact (hM _ _).2) (by first | omega | exact (hM _ _).1 | exact (hM _ _).2) (by first | omega | exact (hM _ _).1 | exact (hM _ _).2) (by first | omega | exact (hM _ _).1 | exact (hM _ _).2) (fun c77 => ?_) (fun c77 => ?_)
      · first | (exfalso; omega) | (cases c77; done) | (exfalso; simp_all; done)
      · refine je_ps jb_X11_done 2 (pc' := 83) (ls' := [_, _, _, _, _, _, _]) (st' := [_, _]) rfl ?_
        refine je_get jb_X11_done rfl (pc' := 86) rfl (jh_at (a := 0) rfl) (by rfl) (by rfl) ?_
        refine je_ps jb_X11_done 1 (pc' := 88) (ls' := [_, _, _, _, _, _, _]) (st' := [_, _, _]) rfl ?_
        refine je_cvP' jb_X11_done rfl (pc' := 91) rfl (jh_at (a := 39) rfl) (by rfl) (by first | decide | exact Nat.ble_eq_true_of_le (by omega)) (k37_at gw (by omega)) (st' := [_, _]) rfl ?_
        rw [hcq]
        refine je_cvP' jb_X11_done rfl (pc' := 94) rfl (jh_at (a := 5) rfl) (by rfl) (by first | decide | exact Nat.ble_eq_true_of_le (by omega)) (k_goOn (i := 12) h12 g12 (by omega)) (st' := [_]) rfl ?_
        refine je_ifneb jb_X11_done rfl (t := 104) rfl (pc' := 97) rfl (fun c94 => ?_) (fun c94 => ?_)
        · refine je_iinc jb_X11_done rfl (pc' := 107) rfl rfl (ls' := [_, _, _, _, _, _, _]) rfl ?_
          refine je_ps jb_X11_done 1 (pc' := 68) (ls' := [_, _, _, _, _, _, _]) (st' := []) rfl ?_
          rw [ht, rn_app] at kp
          refine kp _ _ ⟨rfl, jh_eq (by rw [jW_W h12]), ?_⟩
          rw [fe]
          show (if (fGo (aS A) (aN A) (aK A) (rn (aS A) (aN A) (aK A) (aW A y.toNat) (l.take p)).1 (rn (aS A) (aN A) (aK A) (aW A y.toNat) (l.take p)).2 c).1 = true then _ else _) = _
          rw [if_pos c94]
        · refine je_ps jb_X11_done 2 (pc' := 100) (ls' := [_, _, _, _, _, _, _]) (st' := [_, _]) rfl ?_
          refine je_cvP' jb_X11_done rfl (pc' := 103) rfl (jh_at (a := 0) rfl) (by rfl) (by first | decide | exact Nat.ble_eq_true_of_le (by omega)) (c_X11_refuse (by omega)) (st' := [_]) rfl ?_
          rw [show aDone A x y = aRef A (-6) from by unfold aDone; rw [if_pos ⟨hh, c14⟩, e7, fe, if_neg (by show ¬ (if (fGo (aS A) (aN A) (aK A) (rn (aS A) (aN A) (aK A) (aW A y.toNat) (l.take p)).1 (rn (aS A) (aN A) (aK A) (aW A y.toNat) (l.take p)).2 c).1 = true then sq (aS A) (aN A) (aK A) (fGo (aS A) (aN A) (aK A) (rn (aS A) (aN A) (aK A) (aW A y.toNat) (l.take p)).1 (rn (aS A) (aN A) (aK A) (aW A y.toNat) (l.take p)).2 c).2 (l.drop (p + 1)) else (false, (rn (aS A) (aN A) (aK A) (aW A y.toNat) (l.take p)))).1 = true; rw [c94]; simp)]]
          rw [fGo_no c94, jW_W h12]
          exact je_ret jb_X11_done rfl (by rfl) ⟨_, _, _, rfl, rfl, (I1.junk (i := 12) (Or.inr rfl) fo.2.2).ref (by omega), (((kG.rfl' m).r37 _).w h12 _ _).u (by decide) _, tG.rfl' T⟩
    · obtain ⟨rfl, rfl, fe⟩ := gp
      have fo := rn_w fs (l.take l.length) (aW A y.toNat) ov
      have g12 := jWk.w (m := jR37 m (fRAl 110 (q7.1, 0) l)) (i := 12) s12 h12 fo.1 fo.2.1
      have gw := jQ37.w (i := 12) h12 g1 (rn (aS A) (aN A) (aK A) (aW A y.toNat) (l.take l.length)).1 (rn (aS A) (aN A) (aK A) (aW A y.toNat) (l.take l.length)).2
      have sz := gw.2.1
      rw [R.1] at sz
      rw [List.drop_length] at fe
      have gv3 := jWk.o (m := jR37 m (fRAl 110 (q7.1, 0) l)) gv1 hv h12 (by omega) (rn (aS A) (aN A) (aK A) (aW A y.toNat) (l.take l.length)).1 (rn (aS A) (aN A) (aK A) (aW A y.toNat) (l.take l.length)).2
      refine je_ps jb_X11_done 2 (pc' := 71) (ls' := [_, _, _, _, _, _, _]) (st' := [_, _]) rfl ?_
      refine je_get jb_X11_done rfl (pc' := 74) rfl (jh_at (a := 0) rfl) (by rfl) (by rfl) ?_
      refine je_get jb_X11_done rfl (pc' := 77) rfl (jh_at (a := 39) rfl) (by rfl) (by rfl) ?_
      refine je_icmpge jb_X11_done rfl (t := 110) rfl (pc' := 80) rfl (by first | omega | exact (hM _ _).1 | exact (hM _ _).2) (by first | omega | exact (hM _ _).1 | exact (hM _ _).2) (by first | omega | exact (hM _ _).1 | exact (hM _ _).2) (by first | omega | exact (hM _ _).1 | exact (hM _ _).2) (fun c77 => ?_) (fun c77 => ?_)
      · refine je_ps jb_X11_done 2 (pc' := 114) (ls' := [_, _, _, _, _, _, _]) (st' := [_, _]) rfl ?_
        refine je_cvP' jb_X11_done rfl (pc' := 117) rfl (by first | exact jh_V hv gv | exact jh_V hv (g0.R37 hv _) | exact jh_walk hv) (by rfl) (by first | decide | exact Nat.ble_eq_true_of_le (by omega)) (k_copyFrom (i := y.toNat) (j := 12) hv ((I1.junk (i := 12) (L := (rn (aS A) (aN A) (aK A) (aW A y.toNat) (l.take l.length)).1) (e := (rn (aS A) (aN A) (aK A) (aW A y.toNat) (l.take l.length)).2) (Or.inr rfl) fo.2.2).z hv) h12 g12 (by omega) fo.2.2) (st' := []) rfl ?_
        have gl := jWk.w (m := jW (jR37 m (fRAl 110 (q7.1, 0) l)) 12 (rn (aS A) (aN A) (aK A) (aW A y.toNat) (l.take l.length)).1 (rn (aS A) (aN A) (aK A) (aW A y.toNat) (l.take l.length)).2) gv3.1 hv fo.1 fo.2.1
        refine je_ps jb_X11_done 1 (pc' := 119) (ls' := [_, _, _, _, _, _, _]) (st' := [_]) rfl ?_
        refine je_cvP' jb_X11_done rfl (pc' := 122) rfl (by first | exact jh_V hv gv | exact jh_V hv (g0.R37 hv _) | exact jh_walk hv) (by rfl) (by first | decide | exact Nat.ble_eq_true_of_le (by omega)) (k_length hv gl) (st' := [_]) rfl ?_
        rw [show aDone A x y = (fLen (aS A) (aN A) (aK A) (rn (aS A) (aN A) (aK A) (aW A y.toNat) (l.take l.length)).1 (rn (aS A) (aN A) (aK A) (aW A y.toNat) (l.take l.length)).2, sWk A y.toNat (rn (aS A) (aN A) (aK A) (aW A y.toNat) (l.take l.length))) from by unfold aDone; rw [if_pos ⟨hh, c14⟩, e7, fe]; exact if_pos rfl]
        exact je_ret jb_X11_done rfl (by rfl) ⟨_, _, _, rfl, rfl, (I1.junk (i := 12) (Or.inr rfl) fo.2.2).set hvn fo, (((kG.rfl' m).r37 _).w h12 _ _).w hv _ _, tG.rfl' T⟩
      · first | (exfalso; omega) | (cases c77; done) | (exfalso; simp_all; done)
theorem cl_done_7 {A : aT} (I : iC A m r T) {x y : Int} (hh : 0 ≤ x ∧ x < (aHc A : Int)) (hk : (aH A x.toNat).1 = 3) (hx : -2147483648 ≤ x ∧ x ≤ 2147483647) (hy : -2147483648 ≤ y ∧ y ≤ 2147483647) : jq sc 14 jm_X11_done [.ref 0, .int (jI x), .int (jI y)] (jh m r T) (cQ (aDone A x y) m T) := by
  have c6 := I.c6
  have fs := I.fs
  obtain ⟨u, hu1, hu2⟩ := I.he x.toNat (by omega)
  have ho := I.ho (i := x.toNat) (by omega)
  rw [hk] at hu2
  have gT : T[u]? = some (7, [.int (jI (aH A x.toNat).2)]) := hu2
  obtain ⟨q7, gq7, ok7⟩ := I.q7
  obtain ⟨l, hl⟩ : ∃ l, sp7 (aH A x.toNat).2 = l := ⟨_, rfl⟩
  have e7 : hSp (aH A x.toNat).1 (aH A x.toNat).2 = l := by rw [hk, ← hl]; rfl
  have hs := hSp_i ho.1 ho.2
  rw [e7] at hs
  have g0 : jQ37 (jR37 m (q7.1, 0)) (q7.1, 0) := jQ37_R m (q := (q7.1, 0)) (Int.le_refl 0) (by show (0 : Int) ≤ 110; decide)
  have R := fRAl_rep (N := 110) l (q7.1, 0) [] ⟨rfl, fun j hj => absurd hj (by simp)⟩ (by rw [List.length_nil]; omega)
  rw [List.nil_append] at R
  have fi := fRAl_i (N := 110) l (q := (q7.1, 0)) ⟨Int.le_refl 0, by show (0 : Int) ≤ 110; decide⟩
  have fb := fRAl_b (N := 110) l (q7.1, 0) ok7 (fun z hz => by have := hs.2 z hz; omega)
  have I1 := I.r37 fi fb
  have g1 := jQ37_R m fi.1 fi.2
  refine je_in jb_X11_done rfl (ls := [_, _, _, _, _, _, _]) rfl ?_
  refine je_ps jb_X11_done 1 (pc' := 1) (ls' := [_, _, _, _, _, _, _]) (st' := [_]) rfl ?_
  refine je_get jb_X11_done rfl (pc' := 4) rfl (jh_at (a := 0) rfl) (by rfl) (by rfl) ?_
  refine je_ps jb_X11_done 1 (pc' := 5) (ls' := [_, _, _, _, _, _, _]) (st' := [_, _]) rfl ?_
  refine je_cvP' jb_X11_done rfl (pc' := 8) rfl (jh_at (a := 1) rfl) (by rfl) (by first | decide | exact Nat.ble_eq_true_of_le (by omega)) (hAt_t I hh hu1) (st' := [_]) rfl ?_
  refine je_ps jb_X11_done 2 (pc' := 10) (ls' := [_, _, _, _, _, _, _]) (st' := [_]) rfl ?_
  refine je_get jb_X11_done rfl (pc' := 13) rfl (jh_at (a := 0) rfl) (by rfl) (by rfl) ?_
  refine je_ps jb_X11_done 1 (pc' := 14) (ls' := [_, _, _, _, _, _, _]) (st' := [_, _]) rfl ?_
  refine je_cvP' jb_X11_done rfl (pc' := 17) rfl (jh_at (a := 1) rfl) (by rfl) (by first | decide | exact Nat.ble_eq_true_of_le (by omega)) (k_walkAt I.c I.c6 hy) (st' := [_]) rfl ?_
  refine je_mv (fun c14 => ?_) (fun c14 => ?_)
  · skip
    refine je_ps jb_X11_done 2 (pc' := 20) (ls' := [_, _, _, _, _, _, _]) (st' := [_]) rfl ?_
    refine je_ifnullR jb_X11_done rfl (t := 28) rfl (pc' := 23) rfl ?_
    refine je_ps jb_X11_done 1 (pc' := 25) (ls' := [_, _, _, _, _, _, _]) (st' := [_]) rfl ?_
    refine je_ifnonnullN jb_X11_done rfl (t := 34) rfl (pc' := 28) rfl ?_
    refine je_ps jb_X11_done 2 (pc' := 30) (ls' := [_, _, _, _, _, _, _]) (st' := [_, _]) rfl ?_
    refine je_cvP' jb_X11_done rfl (pc' := 33) rfl (jh_at (a := 0) rfl) (by rfl) (by first | decide | exact Nat.ble_eq_true_of_le (by omega)) (c_X11_refuse (by omega)) (st' := [_]) rfl ?_
    rw [show aDone A x y = aRef A (-1) from by unfold aDone; rw [if_neg (fun h => c14 h.2)]]
    exact je_ret jb_X11_done rfl (by rfl) ⟨_, _, _, rfl, rfl, I.ref (by omega), kG.ref m _, tG.rfl' T⟩
  · skip
    have hv : y.toNat < 13 := by omega
    have hvn : y.toNat < aC A := by omega
    have gv := I.wk hvn
    have ov := I.wo hvn
    have h12 : (12 : Nat) < 13 := by decide
    have gv1 := gv.R37 hv (fRAl 110 (q7.1, 0) l)
    have z12 := I1.z h12
    have s12 := I1.str (i := 12) (by decide)
    refine je_ps jb_X11_done 2 (pc' := 20) (ls' := [_, _, _, _, _, _, _]) (st' := [_]) rfl ?_
    refine je_ifnullR jb_X11_done rfl (t := 28) rfl (pc' := 23) rfl ?_
    refine je_ps jb_X11_done 1 (pc' := 25) (ls' := [_, _, _, _, _, _, _]) (st' := [_]) rfl ?_
    refine je_ifnonnullR jb_X11_done rfl (t := 34) rfl (pc' := 28) rfl ?_
    refine je_ps jb_X11_done 1 (pc' := 35) (ls' := [_, _, _, _, _, _, _]) (st' := [_]) rfl ?_
    refine je_get jb_X11_done rfl (pc' := 38) rfl (jh_at (a := 0) rfl) (by rfl) (by rfl) ?_
    refine je_cvP' jb_X11_done rfl (pc' := 41) rfl (jh_at (a := 39) rfl) (by rfl) (by first | decide | exact Nat.ble_eq_true_of_le (by omega)) (k37_clear gq7) (st' := []) rfl ?_
    refine je_ps jb_X11_done 2 (pc' := 43) (ls' := [_, _, _, _, _, _, _]) (st' := [_, _]) rfl ?_
    refine je_get jb_X11_done rfl (pc' := 46) rfl (jh_at (a := 0) rfl) (by rfl) (by rfl) ?_
    refine je_cvP' jb_X11_done rfl (pc' := 49) rfl (jh_tl gT) (by rfl) (by first | decide | exact Nat.ble_eq_true_of_le (by omega)) (k37_spell_7 g0 hl gT ho.2) (st' := []) rfl ?_
    rw [jR37_R]
    refine je_ps jb_X11_done 1 (pc' := 50) (ls' := [_, _, _, _, _, _, _]) (st' := [_]) rfl ?_
    refine je_get jb_X11_done rfl (pc' := 53) rfl (jh_at (a := 0) rfl) (by rfl) (by rfl) ?_
    refine je_get jb_X11_done rfl (pc' := 56) rfl (jh_at (a := 1) rfl) (by rfl) (by rfl) ?_
    refine je_ps jb_X11_done 3 (pc' := 62) (ls' := [_, _, _, _, _, _, _]) (st' := [_, _]) rfl ?_
    refine je_cvP' jb_X11_done rfl (pc' := 65) rfl (jh_at (a := 5) rfl) (by rfl) (by first | decide | exact Nat.ble_eq_true_of_le (by omega)) (k_copyFrom (i := 12) h12 z12 hv gv1 (by omega) ov.2.2) (st' := []) rfl ?_
    refine je_ps jb_X11_done 2 (pc' := 68) (ls' := [_, _, _, _, _, _, _]) (st' := []) rfl ?_
    refine je_loop (fun (p : Nat) ls σ' => ls = [.ref 0, .int (jI x), .int (jI y), .ref (62 + u), .ref (jwa y.toNat), .ref 5, .int (jI p)] ∧ σ' = jh (jW (jR37 m (fRAl 110 (q7.1, 0) l)) 12 (rn (aS A) (aN A) (aK A) (aW A y.toNat) (l.take p)).1 (rn (aS A) (aN A) (aK A) (aW A y.toNat) (l.take p)).2) r T ∧ sq (aS A) (aN A) (aK A) (aW A y.toNat) l = sq (aS A) (aN A) (aK A) (rn (aS A) (aN A) (aK A) (aW A y.toNat) (l.take p)) (l.drop p)) (l.length) ⟨rfl, rfl, rfl⟩ (fun p hp ls σ' gp kp => ?_) (fun ls σ' gp => ?_)
    · obtain ⟨rfl, rfl, fe⟩ := gp
      have fo := rn_w fs (l.take p) (aW A y.toNat) ov
      have g12 := jWk.w (m := jR37 m (fRAl 110 (q7.1, 0) l)) (i := 12) s12 h12 fo.1 fo.2.1
      have gw := jQ37.w (i := 12) h12 g1 (rn (aS A) (aN A) (aK A) (aW A y.toNat) (l.take p)).1 (rn (aS A) (aN A) (aK A) (aW A y.toNat) (l.take p)).2
      have sz := gw.2.1
      rw [R.1] at sz
      obtain ⟨c, hc⟩ : ∃ c, l[p]? = some c := ⟨_, List.getElem?_eq_getElem hp⟩
      have hR := R.2 p hp
      have hcr := hs.2 c (List.mem_of_getElem? hc)
      have hcq : fRAt (fRAl 110 (q7.1, 0) l).1 (fRAl 110 (q7.1, 0) l).2 (p : Int) = c := by unfold fRAt; rw [R.1, if_pos (by omega)]; rw [hc] at hR; exact (Option.some.inj hR).symm
      have hd : l.drop p = c :: l.drop (p + 1) := by rw [List.drop_eq_getElem_cons hp]; congr 1; rw [List.getElem?_eq_getElem hp] at hc; exact Option.some.inj hc
      have ht : l.take (p + 1) = l.take p ++ [c] := by rw [List.take_succ, hc]; rfl
      rw [hd] at fe
      refine je_ps jb_X11_done 2 (pc' := 71) (ls' := [_, _, _, _, _, _, _]) (st' := [_, _]) rfl ?_
      refine je_get jb_X11_done rfl (pc' := 74) rfl (jh_at (a := 0) rfl) (by rfl) (by rfl) ?_
      refine je_get jb_X11_done rfl (pc' := 77) rfl (jh_at (a := 39) rfl) (by rfl) (by rfl) ?_
      refine je_icmpge jb_X11_done rfl (t := 110) rfl (pc' := 80) rfl (by first | omega | exact (hM _ _).1 | exact (hM _ _).2) (by first | omega | exact (hM _ _).1 | exact (hM _ _).2) (by first | omega | exact (hM _ _).1 | exact (hM _ _).2) (by first | omega | exact (hM _ _).1 | exact (hM _ _).2) (fun c77 => ?_) (fun c77 => ?_)
      · first | (exfalso; omega) | (cases c77; done) | (exfalso; simp_all; done)
      · refine je_ps jb_X11_done 2 (pc' := 83) (ls' := [_, _, _, _, _, _, _]) (st' := [_, _]) rfl ?_
        refine je_get jb_X11_done rfl (pc' := 86) rfl (jh_at (a := 0) rfl) (by rfl) (by rfl) ?_
        refine je_ps jb_X11_done 1 (pc' := 88) (ls' := [_, _, _, _, _, _, _]) (st' := [_, _, _]) rfl ?_
        refine je_cvP' jb_X11_done rfl (pc' := 91) rfl (jh_at (a := 39) rfl) (by rfl) (by first | decide | exact Nat.ble_eq_true_of_le (by omega)) (k37_at gw (by omega)) (st' := [_, _]) rfl ?_
        rw [hcq]
        refine je_cvP' jb_X11_done rfl (pc' := 94) rfl (jh_at (a := 5) rfl) (by rfl) (by first | decide | exact Nat.ble_eq_true_of_le (by omega)) (k_goOn (i := 12) h12 g12 (by omega)) (st' := [_]) rfl ?_
        refine je_ifneb jb_X11_done rfl (t := 104) rfl (pc' := 97) rfl (fun c94 => ?_) (fun c94 => ?_)
        · refine je_iinc jb_X11_done rfl (pc' := 107) rfl rfl (ls' := [_, _, _, _, _, _, _]) rfl ?_
          refine je_ps jb_X11_done 1 (pc' := 68) (ls' := [_, _, _, _, _, _, _]) (st' := []) rfl ?_
          rw [ht, rn_app] at kp
          refine kp _ _ ⟨rfl, jh_eq (by rw [jW_W h12]), ?_⟩
          rw [fe]
          show (if (fGo (aS A) (aN A) (aK A) (rn (aS A) (aN A) (aK A) (aW A y.toNat) (l.take p)).1 (rn (aS A) (aN A) (aK A) (aW A y.toNat) (l.take p)).2 c).1 = true then _ else _) = _
          rw [if_pos c94]
        · refine je_ps jb_X11_done 2 (pc' := 100) (ls' := [_, _, _, _, _, _, _]) (st' := [_, _]) rfl ?_
          refine je_cvP' jb_X11_done rfl (pc' := 103) rfl (jh_at (a := 0) rfl) (by rfl) (by first | decide | exact Nat.ble_eq_true_of_le (by omega)) (c_X11_refuse (by omega)) (st' := [_]) rfl ?_
          rw [show aDone A x y = aRef A (-6) from by unfold aDone; rw [if_pos ⟨hh, c14⟩, e7, fe, if_neg (by show ¬ (if (fGo (aS A) (aN A) (aK A) (rn (aS A) (aN A) (aK A) (aW A y.toNat) (l.take p)).1 (rn (aS A) (aN A) (aK A) (aW A y.toNat) (l.take p)).2 c).1 = true then sq (aS A) (aN A) (aK A) (fGo (aS A) (aN A) (aK A) (rn (aS A) (aN A) (aK A) (aW A y.toNat) (l.take p)).1 (rn (aS A) (aN A) (aK A) (aW A y.toNat) (l.take p)).2 c).2 (l.drop (p + 1)) else (false, (rn (aS A) (aN A) (aK A) (aW A y.toNat) (l.take p)))).1 = true; rw [c94]; simp)]]
          rw [fGo_no c94, jW_W h12]
          exact je_ret jb_X11_done rfl (by rfl) ⟨_, _, _, rfl, rfl, (I1.junk (i := 12) (Or.inr rfl) fo.2.2).ref (by omega), (((kG.rfl' m).r37 _).w h12 _ _).u (by decide) _, tG.rfl' T⟩
    · obtain ⟨rfl, rfl, fe⟩ := gp
      have fo := rn_w fs (l.take l.length) (aW A y.toNat) ov
      have g12 := jWk.w (m := jR37 m (fRAl 110 (q7.1, 0) l)) (i := 12) s12 h12 fo.1 fo.2.1
      have gw := jQ37.w (i := 12) h12 g1 (rn (aS A) (aN A) (aK A) (aW A y.toNat) (l.take l.length)).1 (rn (aS A) (aN A) (aK A) (aW A y.toNat) (l.take l.length)).2
      have sz := gw.2.1
      rw [R.1] at sz
      rw [List.drop_length] at fe
      have gv3 := jWk.o (m := jR37 m (fRAl 110 (q7.1, 0) l)) gv1 hv h12 (by omega) (rn (aS A) (aN A) (aK A) (aW A y.toNat) (l.take l.length)).1 (rn (aS A) (aN A) (aK A) (aW A y.toNat) (l.take l.length)).2
      refine je_ps jb_X11_done 2 (pc' := 71) (ls' := [_, _, _, _, _, _, _]) (st' := [_, _]) rfl ?_
      refine je_get jb_X11_done rfl (pc' := 74) rfl (jh_at (a := 0) rfl) (by rfl) (by rfl) ?_
      refine je_get jb_X11_done rfl (pc' := 77) rfl (jh_at (a := 39) rfl) (by rfl) (by rfl) ?_
      refine je_icmpge jb_X11_done rfl (t := 110) rfl (pc' := 80) rfl (by first | omega | exact (hM _ _).1 | exact (hM _ _).2) (by first | omega | exact (hM _ _).1 | exact (hM _ _).2) (by first | omega | exact (hM _ _).1 | exact (hM _ _).2) (by first | omega | exact (hM _ _).1 | exact (hM _ _).2) (fun c77 => ?_) (fun c77 => ?_)
      · refine je_ps jb_X11_done 2 (pc' := 114) (ls' := [_, _, _, _, _, _, _]) (st' := [_, _]) rfl ?_
        refine je_cvP' jb_X11_done rfl (pc' := 117) rfl (by first | exact jh_V hv gv | exact jh_V hv (g0.R37 hv _) | exact jh_walk hv) (by rfl) (by first | decide | exact Nat.ble_eq_true_of_le (by omega)) (k_copyFrom (i := y.toNat) (j := 12) hv ((I1.junk (i := 12) (L := (rn (aS A) (aN A) (aK A) (aW A y.toNat) (l.take l.length)).1) (e := (rn (aS A) (aN A) (aK A) (aW A y.toNat) (l.take l.length)).2) (Or.inr rfl) fo.2.2).z hv) h12 g12 (by omega) fo.2.2) (st' := []) rfl ?_
        have gl := jWk.w (m := jW (jR37 m (fRAl 110 (q7.1, 0) l)) 12 (rn (aS A) (aN A) (aK A) (aW A y.toNat) (l.take l.length)).1 (rn (aS A) (aN A) (aK A) (aW A y.toNat) (l.take l.length)).2) gv3.1 hv fo.1 fo.2.1
        refine je_ps jb_X11_done 1 (pc' := 119) (ls' := [_, _, _, _, _, _, _]) (st' := [_]) rfl ?_
        refine je_cvP' jb_X11_done rfl (pc' := 122) rfl (by first | exact jh_V hv gv | exact jh_V hv (g0.R37 hv _) | exact jh_walk hv) (by rfl) (by first | decide | exact Nat.ble_eq_true_of_le (by omega)) (k_length hv gl) (st' := [_]) rfl ?_
        rw [show aDone A x y = (fLen (aS A) (aN A) (aK A) (rn (aS A) (aN A) (aK A) (aW A y.toNat) (l.take l.length)).1 (rn (aS A) (aN A) (aK A) (aW A y.toNat) (l.take l.length)).2, sWk A y.toNat (rn (aS A) (aN A) (aK A) (aW A y.toNat) (l.take l.length))) from by unfold aDone; rw [if_pos ⟨hh, c14⟩, e7, fe]; exact if_pos rfl]
        exact je_ret jb_X11_done rfl (by rfl) ⟨_, _, _, rfl, rfl, (I1.junk (i := 12) (Or.inr rfl) fo.2.2).set hvn fo, (((kG.rfl' m).r37 _).w h12 _ _).w hv _ _, tG.rfl' T⟩
      · first | (exfalso; omega) | (cases c77; done) | (exfalso; simp_all; done)
theorem cl_done_1 {A : aT} (I : iC A m r T) {x y : Int} (hh : 0 ≤ x ∧ x < (aHc A : Int)) (hk : (aH A x.toNat).1 = 4) (hx : -2147483648 ≤ x ∧ x ≤ 2147483647) (hy : -2147483648 ≤ y ∧ y ≤ 2147483647) : jq sc 14 jm_X11_done [.ref 0, .int (jI x), .int (jI y)] (jh m r T) (cQ (aDone A x y) m T) := by
  have c6 := I.c6
  have fs := I.fs
  obtain ⟨u, hu1, hu2⟩ := I.he x.toNat (by omega)
  have ho := I.ho (i := x.toNat) (by omega)
  rw [hk] at hu2
  have gT : T[u]? = some (1, [.int (jI (aH A x.toNat).2)]) := hu2
  obtain ⟨q7, gq7, ok7⟩ := I.q7
  obtain ⟨l, hl⟩ : ∃ l, sp1 (aH A x.toNat).2 = l := ⟨_, rfl⟩
  have e7 : hSp (aH A x.toNat).1 (aH A x.toNat).2 = l := by rw [hk, ← hl]; rfl
  have hs := hSp_i ho.1 ho.2
  rw [e7] at hs
  have g0 : jQ37 (jR37 m (q7.1, 0)) (q7.1, 0) := jQ37_R m (q := (q7.1, 0)) (Int.le_refl 0) (by show (0 : Int) ≤ 110; decide)
  have R := fRAl_rep (N := 110) l (q7.1, 0) [] ⟨rfl, fun j hj => absurd hj (by simp)⟩ (by rw [List.length_nil]; omega)
  rw [List.nil_append] at R
  have fi := fRAl_i (N := 110) l (q := (q7.1, 0)) ⟨Int.le_refl 0, by show (0 : Int) ≤ 110; decide⟩
  have fb := fRAl_b (N := 110) l (q7.1, 0) ok7 (fun z hz => by have := hs.2 z hz; omega)
  have I1 := I.r37 fi fb
  have g1 := jQ37_R m fi.1 fi.2
  refine je_in jb_X11_done rfl (ls := [_, _, _, _, _, _, _]) rfl ?_
  refine je_ps jb_X11_done 1 (pc' := 1) (ls' := [_, _, _, _, _, _, _]) (st' := [_]) rfl ?_
  refine je_get jb_X11_done rfl (pc' := 4) rfl (jh_at (a := 0) rfl) (by rfl) (by rfl) ?_
  refine je_ps jb_X11_done 1 (pc' := 5) (ls' := [_, _, _, _, _, _, _]) (st' := [_, _]) rfl ?_
  refine je_cvP' jb_X11_done rfl (pc' := 8) rfl (jh_at (a := 1) rfl) (by rfl) (by first | decide | exact Nat.ble_eq_true_of_le (by omega)) (hAt_t I hh hu1) (st' := [_]) rfl ?_
  refine je_ps jb_X11_done 2 (pc' := 10) (ls' := [_, _, _, _, _, _, _]) (st' := [_]) rfl ?_
  refine je_get jb_X11_done rfl (pc' := 13) rfl (jh_at (a := 0) rfl) (by rfl) (by rfl) ?_
  refine je_ps jb_X11_done 1 (pc' := 14) (ls' := [_, _, _, _, _, _, _]) (st' := [_, _]) rfl ?_
  refine je_cvP' jb_X11_done rfl (pc' := 17) rfl (jh_at (a := 1) rfl) (by rfl) (by first | decide | exact Nat.ble_eq_true_of_le (by omega)) (k_walkAt I.c I.c6 hy) (st' := [_]) rfl ?_
  refine je_mv (fun c14 => ?_) (fun c14 => ?_)
  · skip
    refine je_ps jb_X11_done 2 (pc' := 20) (ls' := [_, _, _, _, _, _, _]) (st' := [_]) rfl ?_
    refine je_ifnullR jb_X11_done rfl (t := 28) rfl (pc' := 23) rfl ?_
    refine je_ps jb_X11_done 1 (pc' := 25) (ls' := [_, _, _, _, _, _, _]) (st' := [_]) rfl ?_
    refine je_ifnonnullN jb_X11_done rfl (t := 34) rfl (pc' := 28) rfl ?_
    refine je_ps jb_X11_done 2 (pc' := 30) (ls' := [_, _, _, _, _, _, _]) (st' := [_, _]) rfl ?_
    refine je_cvP' jb_X11_done rfl (pc' := 33) rfl (jh_at (a := 0) rfl) (by rfl) (by first | decide | exact Nat.ble_eq_true_of_le (by omega)) (c_X11_refuse (by omega)) (st' := [_]) rfl ?_
    rw [show aDone A x y = aRef A (-1) from by unfold aDone; rw [if_neg (fun h => c14 h.2)]]
    exact je_ret jb_X11_done rfl (by rfl) ⟨_, _, _, rfl, rfl, I.ref (by omega), kG.ref m _, tG.rfl' T⟩
  · skip
    have hv : y.toNat < 13 := by omega
    have hvn : y.toNat < aC A := by omega
    have gv := I.wk hvn
    have ov := I.wo hvn
    have h12 : (12 : Nat) < 13 := by decide
    have gv1 := gv.R37 hv (fRAl 110 (q7.1, 0) l)
    have z12 := I1.z h12
    have s12 := I1.str (i := 12) (by decide)
    refine je_ps jb_X11_done 2 (pc' := 20) (ls' := [_, _, _, _, _, _, _]) (st' := [_]) rfl ?_
    refine je_ifnullR jb_X11_done rfl (t := 28) rfl (pc' := 23) rfl ?_
    refine je_ps jb_X11_done 1 (pc' := 25) (ls' := [_, _, _, _, _, _, _]) (st' := [_]) rfl ?_
    refine je_ifnonnullR jb_X11_done rfl (t := 34) rfl (pc' := 28) rfl ?_
    refine je_ps jb_X11_done 1 (pc' := 35) (ls' := [_, _, _, _, _, _, _]) (st' := [_]) rfl ?_
    refine je_get jb_X11_done rfl (pc' := 38) rfl (jh_at (a := 0) rfl) (by rfl) (by rfl) ?_
    refine je_cvP' jb_X11_done rfl (pc' := 41) rfl (jh_at (a := 39) rfl) (by rfl) (by first | decide | exact Nat.ble_eq_true_of_le (by omega)) (k37_clear gq7) (st' := []) rfl ?_
    refine je_ps jb_X11_done 2 (pc' := 43) (ls' := [_, _, _, _, _, _, _]) (st' := [_, _]) rfl ?_
    refine je_get jb_X11_done rfl (pc' := 46) rfl (jh_at (a := 0) rfl) (by rfl) (by rfl) ?_
    refine je_cvP' jb_X11_done rfl (pc' := 49) rfl (jh_tl gT) (by rfl) (by first | decide | exact Nat.ble_eq_true_of_le (by omega)) (k37_spell_1 g0 hl gT ho.2) (st' := []) rfl ?_
    rw [jR37_R]
    refine je_ps jb_X11_done 1 (pc' := 50) (ls' := [_, _, _, _, _, _, _]) (st' := [_]) rfl ?_
    refine je_get jb_X11_done rfl (pc' := 53) rfl (jh_at (a := 0) rfl) (by rfl) (by rfl) ?_
    refine je_get jb_X11_done rfl (pc' := 56) rfl (jh_at (a := 1) rfl) (by rfl) (by rfl) ?_
    refine je_ps jb_X11_done 3 (pc' := 62) (ls' := [_, _, _, _, _, _, _]) (st' := [_, _]) rfl ?_
    refine je_cvP' jb_X11_done rfl (pc' := 65) rfl (jh_at (a := 5) rfl) (by rfl) (by first | decide | exact Nat.ble_eq_true_of_le (by omega)) (k_copyFrom (i := 12) h12 z12 hv gv1 (by omega) ov.2.2) (st' := []) rfl ?_
    refine je_ps jb_X11_done 2 (pc' := 68) (ls' := [_, _, _, _, _, _, _]) (st' := []) rfl ?_
    refine je_loop (fun (p : Nat) ls σ' => ls = [.ref 0, .int (jI x), .int (jI y), .ref (62 + u), .ref (jwa y.toNat), .ref 5, .int (jI p)] ∧ σ' = jh (jW (jR37 m (fRAl 110 (q7.1, 0) l)) 12 (rn (aS A) (aN A) (aK A) (aW A y.toNat) (l.take p)).1 (rn (aS A) (aN A) (aK A) (aW A y.toNat) (l.take p)).2) r T ∧ sq (aS A) (aN A) (aK A) (aW A y.toNat) l = sq (aS A) (aN A) (aK A) (rn (aS A) (aN A) (aK A) (aW A y.toNat) (l.take p)) (l.drop p)) (l.length) ⟨rfl, rfl, rfl⟩ (fun p hp ls σ' gp kp => ?_) (fun ls σ' gp => ?_)
    · obtain ⟨rfl, rfl, fe⟩ := gp
      have fo := rn_w fs (l.take p) (aW A y.toNat) ov
      have g12 := jWk.w (m := jR37 m (fRAl 110 (q7.1, 0) l)) (i := 12) s12 h12 fo.1 fo.2.1
      have gw := jQ37.w (i := 12) h12 g1 (rn (aS A) (aN A) (aK A) (aW A y.toNat) (l.take p)).1 (rn (aS A) (aN A) (aK A) (aW A y.toNat) (l.take p)).2
      have sz := gw.2.1
      rw [R.1] at sz
      obtain ⟨c, hc⟩ : ∃ c, l[p]? = some c := ⟨_, List.getElem?_eq_getElem hp⟩
      have hR := R.2 p hp
      have hcr := hs.2 c (List.mem_of_getElem? hc)
      have hcq : fRAt (fRAl 110 (q7.1, 0) l).1 (fRAl 110 (q7.1, 0) l).2 (p : Int) = c := by unfold fRAt; rw [R.1, if_pos (by omega)]; rw [hc] at hR; exact (Option.some.inj hR).symm
      have hd : l.drop p = c :: l.drop (p + 1) := by rw [List.drop_eq_getElem_cons hp]; congr 1; rw [List.getElem?_eq_getElem hp] at hc; exact Option.some.inj hc
      have ht : l.take (p + 1) = l.take p ++ [c] := by rw [List.take_succ, hc]; rfl
      rw [hd] at fe
      refine je_ps jb_X11_done 2 (pc' := 71) (ls' := [_, _, _, _, _, _, _]) (st' := [_, _]) rfl ?_
      refine je_get jb_X11_done rfl (pc' := 74) rfl (jh_at (a := 0) rfl) (by rfl) (by rfl) ?_
      refine je_get jb_X11_done rfl (pc' := 77) rfl (jh_at (a := 39) rfl) (by rfl) (by rfl) ?_
      refine je_icmpge jb_X11_done rfl (t := 110) rfl (pc' := 80) rfl (by first | omega | exact (hM _ _).1 | exact (hM _ _).2) (by first | omega | exact (hM _ _).1 | exact (hM _ _).2) (by first | omega | exact (hM _ _).1 | exact (hM _ _).2) (by first | omega | exact (hM _ _).1 | exact (hM _ _).2) (fun c77 => ?_) (fun c77 => ?_)
      · first | (exfalso; omega) | (cases c77; done) | (exfalso; simp_all; done)
      · refine je_ps jb_X11_done 2 (pc' := 83) (ls' := [_, _, _, _, _, _, _]) (st' := [_, _]) rfl ?_
        refine je_get jb_X11_done rfl (pc' := 86) rfl (jh_at (a := 0) rfl) (by rfl) (by rfl) ?_
        refine je_ps jb_X11_done 1 (pc' := 88) (ls' := [_, _, _, _, _, _, _]) (st' := [_, _, _]) rfl ?_
        refine je_cvP' jb_X11_done rfl (pc' := 91) rfl (jh_at (a := 39) rfl) (by rfl) (by first | decide | exact Nat.ble_eq_true_of_le (by omega)) (k37_at gw (by omega)) (st' := [_, _]) rfl ?_
        rw [hcq]
        refine je_cvP' jb_X11_done rfl (pc' := 94) rfl (jh_at (a := 5) rfl) (by rfl) (by first | decide | exact Nat.ble_eq_true_of_le (by omega)) (k_goOn (i := 12) h12 g12 (by omega)) (st' := [_]) rfl ?_
        refine je_ifneb jb_X11_done rfl (t := 104) rfl (pc' := 97) rfl (fun c94 => ?_) (fun c94 => ?_)
        · refine je_iinc jb_X11_done rfl (pc' := 107) rfl rfl (ls' := [_, _, _, _, _, _, _]) rfl ?_
          refine je_ps jb_X11_done 1 (pc' := 68) (ls' := [_, _, _, _, _, _, _]) (st' := []) rfl ?_
          rw [ht, rn_app] at kp
          refine kp _ _ ⟨rfl, jh_eq (by rw [jW_W h12]), ?_⟩
          rw [fe]
          show (if (fGo (aS A) (aN A) (aK A) (rn (aS A) (aN A) (aK A) (aW A y.toNat) (l.take p)).1 (rn (aS A) (aN A) (aK A) (aW A y.toNat) (l.take p)).2 c).1 = true then _ else _) = _
          rw [if_pos c94]
        · refine je_ps jb_X11_done 2 (pc' := 100) (ls' := [_, _, _, _, _, _, _]) (st' := [_, _]) rfl ?_
          refine je_cvP' jb_X11_done rfl (pc' := 103) rfl (jh_at (a := 0) rfl) (by rfl) (by first | decide | exact Nat.ble_eq_true_of_le (by omega)) (c_X11_refuse (by omega)) (st' := [_]) rfl ?_
          rw [show aDone A x y = aRef A (-6) from by unfold aDone; rw [if_pos ⟨hh, c14⟩, e7, fe, if_neg (by show ¬ (if (fGo (aS A) (aN A) (aK A) (rn (aS A) (aN A) (aK A) (aW A y.toNat) (l.take p)).1 (rn (aS A) (aN A) (aK A) (aW A y.toNat) (l.take p)).2 c).1 = true then sq (aS A) (aN A) (aK A) (fGo (aS A) (aN A) (aK A) (rn (aS A) (aN A) (aK A) (aW A y.toNat) (l.take p)).1 (rn (aS A) (aN A) (aK A) (aW A y.toNat) (l.take p)).2 c).2 (l.drop (p + 1)) else (false, (rn (aS A) (aN A) (aK A) (aW A y.toNat) (l.take p)))).1 = true; rw [c94]; simp)]]
          rw [fGo_no c94, jW_W h12]
          exact je_ret jb_X11_done rfl (by rfl) ⟨_, _, _, rfl, rfl, (I1.junk (i := 12) (Or.inr rfl) fo.2.2).ref (by omega), (((kG.rfl' m).r37 _).w h12 _ _).u (by decide) _, tG.rfl' T⟩
    · obtain ⟨rfl, rfl, fe⟩ := gp
      have fo := rn_w fs (l.take l.length) (aW A y.toNat) ov
      have g12 := jWk.w (m := jR37 m (fRAl 110 (q7.1, 0) l)) (i := 12) s12 h12 fo.1 fo.2.1
      have gw := jQ37.w (i := 12) h12 g1 (rn (aS A) (aN A) (aK A) (aW A y.toNat) (l.take l.length)).1 (rn (aS A) (aN A) (aK A) (aW A y.toNat) (l.take l.length)).2
      have sz := gw.2.1
      rw [R.1] at sz
      rw [List.drop_length] at fe
      have gv3 := jWk.o (m := jR37 m (fRAl 110 (q7.1, 0) l)) gv1 hv h12 (by omega) (rn (aS A) (aN A) (aK A) (aW A y.toNat) (l.take l.length)).1 (rn (aS A) (aN A) (aK A) (aW A y.toNat) (l.take l.length)).2
      refine je_ps jb_X11_done 2 (pc' := 71) (ls' := [_, _, _, _, _, _, _]) (st' := [_, _]) rfl ?_
      refine je_get jb_X11_done rfl (pc' := 74) rfl (jh_at (a := 0) rfl) (by rfl) (by rfl) ?_
      refine je_get jb_X11_done rfl (pc' := 77) rfl (jh_at (a := 39) rfl) (by rfl) (by rfl) ?_
      refine je_icmpge jb_X11_done rfl (t := 110) rfl (pc' := 80) rfl (by first | omega | exact (hM _ _).1 | exact (hM _ _).2) (by first | omega | exact (hM _ _).1 | exact (hM _ _).2) (by first | omega | exact (hM _ _).1 | exact (hM _ _).2) (by first | omega | exact (hM _ _).1 | exact (hM _ _).2) (fun c77 => ?_) (fun c77 => ?_)
      · refine je_ps jb_X11_done 2 (pc' := 114) (ls' := [_, _, _, _, _, _, _]) (st' := [_, _]) rfl ?_
        refine je_cvP' jb_X11_done rfl (pc' := 117) rfl (by first | exact jh_V hv gv | exact jh_V hv (g0.R37 hv _) | exact jh_walk hv) (by rfl) (by first | decide | exact Nat.ble_eq_true_of_le (by omega)) (k_copyFrom (i := y.toNat) (j := 12) hv ((I1.junk (i := 12) (L := (rn (aS A) (aN A) (aK A) (aW A y.toNat) (l.take l.length)).1) (e := (rn (aS A) (aN A) (aK A) (aW A y.toNat) (l.take l.length)).2) (Or.inr rfl) fo.2.2).z hv) h12 g12 (by omega) fo.2.2) (st' := []) rfl ?_
        have gl := jWk.w (m := jW (jR37 m (fRAl 110 (q7.1, 0) l)) 12 (rn (aS A) (aN A) (aK A) (aW A y.toNat) (l.take l.length)).1 (rn (aS A) (aN A) (aK A) (aW A y.toNat) (l.take l.length)).2) gv3.1 hv fo.1 fo.2.1
        refine je_ps jb_X11_done 1 (pc' := 119) (ls' := [_, _, _, _, _, _, _]) (st' := [_]) rfl ?_
        refine je_cvP' jb_X11_done rfl (pc' := 122) rfl (by first | exact jh_V hv gv | exact jh_V hv (g0.R37 hv _) | exact jh_walk hv) (by rfl) (by first | decide | exact Nat.ble_eq_true_of_le (by omega)) (k_length hv gl) (st' := [_]) rfl ?_
        rw [show aDone A x y = (fLen (aS A) (aN A) (aK A) (rn (aS A) (aN A) (aK A) (aW A y.toNat) (l.take l.length)).1 (rn (aS A) (aN A) (aK A) (aW A y.toNat) (l.take l.length)).2, sWk A y.toNat (rn (aS A) (aN A) (aK A) (aW A y.toNat) (l.take l.length))) from by unfold aDone; rw [if_pos ⟨hh, c14⟩, e7, fe]; exact if_pos rfl]
        exact je_ret jb_X11_done rfl (by rfl) ⟨_, _, _, rfl, rfl, (I1.junk (i := 12) (Or.inr rfl) fo.2.2).set hvn fo, (((kG.rfl' m).r37 _).w h12 _ _).w hv _ _, tG.rfl' T⟩
      · first | (exfalso; omega) | (cases c77; done) | (exfalso; simp_all; done)
theorem cl_done_2 {A : aT} (I : iC A m r T) {x y : Int} (hh : 0 ≤ x ∧ x < (aHc A : Int)) (hk : (aH A x.toNat).1 = 5) (hx : -2147483648 ≤ x ∧ x ≤ 2147483647) (hy : -2147483648 ≤ y ∧ y ≤ 2147483647) : jq sc 14 jm_X11_done [.ref 0, .int (jI x), .int (jI y)] (jh m r T) (cQ (aDone A x y) m T) := by
  have c6 := I.c6
  have fs := I.fs
  obtain ⟨u, hu1, hu2⟩ := I.he x.toNat (by omega)
  have ho := I.ho (i := x.toNat) (by omega)
  rw [hk] at hu2
  have gT : T[u]? = some (2, [.int (jI (aH A x.toNat).2)]) := hu2
  obtain ⟨q7, gq7, ok7⟩ := I.q7
  obtain ⟨l, hl⟩ : ∃ l, sp2 (aH A x.toNat).2 = l := ⟨_, rfl⟩
  have e7 : hSp (aH A x.toNat).1 (aH A x.toNat).2 = l := by rw [hk, ← hl]; rfl
  have hs := hSp_i ho.1 ho.2
  rw [e7] at hs
  have g0 : jQ37 (jR37 m (q7.1, 0)) (q7.1, 0) := jQ37_R m (q := (q7.1, 0)) (Int.le_refl 0) (by show (0 : Int) ≤ 110; decide)
  have R := fRAl_rep (N := 110) l (q7.1, 0) [] ⟨rfl, fun j hj => absurd hj (by simp)⟩ (by rw [List.length_nil]; omega)
  rw [List.nil_append] at R
  have fi := fRAl_i (N := 110) l (q := (q7.1, 0)) ⟨Int.le_refl 0, by show (0 : Int) ≤ 110; decide⟩
  have fb := fRAl_b (N := 110) l (q7.1, 0) ok7 (fun z hz => by have := hs.2 z hz; omega)
  have I1 := I.r37 fi fb
  have g1 := jQ37_R m fi.1 fi.2
  refine je_in jb_X11_done rfl (ls := [_, _, _, _, _, _, _]) rfl ?_
  refine je_ps jb_X11_done 1 (pc' := 1) (ls' := [_, _, _, _, _, _, _]) (st' := [_]) rfl ?_
  refine je_get jb_X11_done rfl (pc' := 4) rfl (jh_at (a := 0) rfl) (by rfl) (by rfl) ?_
  refine je_ps jb_X11_done 1 (pc' := 5) (ls' := [_, _, _, _, _, _, _]) (st' := [_, _]) rfl ?_
  refine je_cvP' jb_X11_done rfl (pc' := 8) rfl (jh_at (a := 1) rfl) (by rfl) (by first | decide | exact Nat.ble_eq_true_of_le (by omega)) (hAt_t I hh hu1) (st' := [_]) rfl ?_
  refine je_ps jb_X11_done 2 (pc' := 10) (ls' := [_, _, _, _, _, _, _]) (st' := [_]) rfl ?_
  refine je_get jb_X11_done rfl (pc' := 13) rfl (jh_at (a := 0) rfl) (by rfl) (by rfl) ?_
  refine je_ps jb_X11_done 1 (pc' := 14) (ls' := [_, _, _, _, _, _, _]) (st' := [_, _]) rfl ?_
  refine je_cvP' jb_X11_done rfl (pc' := 17) rfl (jh_at (a := 1) rfl) (by rfl) (by first | decide | exact Nat.ble_eq_true_of_le (by omega)) (k_walkAt I.c I.c6 hy) (st' := [_]) rfl ?_
  refine je_mv (fun c14 => ?_) (fun c14 => ?_)
  · skip
    refine je_ps jb_X11_done 2 (pc' := 20) (ls' := [_, _, _, _, _, _, _]) (st' := [_]) rfl ?_
    refine je_ifnullR jb_X11_done rfl (t := 28) rfl (pc' := 23) rfl ?_
    refine je_ps jb_X11_done 1 (pc' := 25) (ls' := [_, _, _, _, _, _, _]) (st' := [_]) rfl ?_
    refine je_ifnonnullN jb_X11_done rfl (t := 34) rfl (pc' := 28) rfl ?_
    refine je_ps jb_X11_done 2 (pc' := 30) (ls' := [_, _, _, _, _, _, _]) (st' := [_, _]) rfl ?_
    refine je_cvP' jb_X11_done rfl (pc' := 33) rfl (jh_at (a := 0) rfl) (by rfl) (by first | decide | exact Nat.ble_eq_true_of_le (by omega)) (c_X11_refuse (by omega)) (st' := [_]) rfl ?_
    rw [show aDone A x y = aRef A (-1) from by unfold aDone; rw [if_neg (fun h => c14 h.2)]]
    exact je_ret jb_X11_done rfl (by rfl) ⟨_, _, _, rfl, rfl, I.ref (by omega), kG.ref m _, tG.rfl' T⟩
  · skip
    have hv : y.toNat < 13 := by omega
    have hvn : y.toNat < aC A := by omega
    have gv := I.wk hvn
    have ov := I.wo hvn
    have h12 : (12 : Nat) < 13 := by decide
    have gv1 := gv.R37 hv (fRAl 110 (q7.1, 0) l)
    have z12 := I1.z h12
    have s12 := I1.str (i := 12) (by decide)
    refine je_ps jb_X11_done 2 (pc' := 20) (ls' := [_, _, _, _, _, _, _]) (st' := [_]) rfl ?_
    refine je_ifnullR jb_X11_done rfl (t := 28) rfl (pc' := 23) rfl ?_
    refine je_ps jb_X11_done 1 (pc' := 25) (ls' := [_, _, _, _, _, _, _]) (st' := [_]) rfl ?_
    refine je_ifnonnullR jb_X11_done rfl (t := 34) rfl (pc' := 28) rfl ?_
    refine je_ps jb_X11_done 1 (pc' := 35) (ls' := [_, _, _, _, _, _, _]) (st' := [_]) rfl ?_
    refine je_get jb_X11_done rfl (pc' := 38) rfl (jh_at (a := 0) rfl) (by rfl) (by rfl) ?_
    refine je_cvP' jb_X11_done rfl (pc' := 41) rfl (jh_at (a := 39) rfl) (by rfl) (by first | decide | exact Nat.ble_eq_true_of_le (by omega)) (k37_clear gq7) (st' := []) rfl ?_
    refine je_ps jb_X11_done 2 (pc' := 43) (ls' := [_, _, _, _, _, _, _]) (st' := [_, _]) rfl ?_
    refine je_get jb_X11_done rfl (pc' := 46) rfl (jh_at (a := 0) rfl) (by rfl) (by rfl) ?_
    refine je_cvP' jb_X11_done rfl (pc' := 49) rfl (jh_tl gT) (by rfl) (by first | decide | exact Nat.ble_eq_true_of_le (by omega)) (k37_spell_2 g0 hl gT ho.2) (st' := []) rfl ?_
    rw [jR37_R]
    refine je_ps jb_X11_done 1 (pc' := 50) (ls' := [_, _, _, _, _, _, _]) (st' := [_]) rfl ?_
    refine je_get jb_X11_done rfl (pc' := 53) rfl (jh_at (a := 0) rfl) (by rfl) (by rfl) ?_
    refine je_get jb_X11_done rfl (pc' := 56) rfl (jh_at (a := 1) rfl) (by rfl) (by rfl) ?_
    refine je_ps jb_X11_done 3 (pc' := 62) (ls' := [_, _, _, _, _, _, _]) (st' := [_, _]) rfl ?_
    refine je_cvP' jb_X11_done rfl (pc' := 65) rfl (jh_at (a := 5) rfl) (by rfl) (by first | decide | exact Nat.ble_eq_true_of_le (by omega)) (k_copyFrom (i := 12) h12 z12 hv gv1 (by omega) ov.2.2) (st' := []) rfl ?_
    refine je_ps jb_X11_done 2 (pc' := 68) (ls' := [_, _, _, _, _, _, _]) (st' := []) rfl ?_
    refine je_loop (fun (p : Nat) ls σ' => ls = [.ref 0, .int (jI x), .int (jI y), .ref (62 + u), .ref (jwa y.toNat), .ref 5, .int (jI p)] ∧ σ' = jh (jW (jR37 m (fRAl 110 (q7.1, 0) l)) 12 (rn (aS A) (aN A) (aK A) (aW A y.toNat) (l.take p)).1 (rn (aS A) (aN A) (aK A) (aW A y.toNat) (l.take p)).2) r T ∧ sq (aS A) (aN A) (aK A) (aW A y.toNat) l = sq (aS A) (aN A) (aK A) (rn (aS A) (aN A) (aK A) (aW A y.toNat) (l.take p)) (l.drop p)) (l.length) ⟨rfl, rfl, rfl⟩ (fun p hp ls σ' gp kp => ?_) (fun ls σ' gp => ?_)
    · obtain ⟨rfl, rfl, fe⟩ := gp
      have fo := rn_w fs (l.take p) (aW A y.toNat) ov
      have g12 := jWk.w (m := jR37 m (fRAl 110 (q7.1, 0) l)) (i := 12) s12 h12 fo.1 fo.2.1
      have gw := jQ37.w (i := 12) h12 g1 (rn (aS A) (aN A) (aK A) (aW A y.toNat) (l.take p)).1 (rn (aS A) (aN A) (aK A) (aW A y.toNat) (l.take p)).2
      have sz := gw.2.1
      rw [R.1] at sz
      obtain ⟨c, hc⟩ : ∃ c, l[p]? = some c := ⟨_, List.getElem?_eq_getElem hp⟩
      have hR := R.2 p hp
      have hcr := hs.2 c (List.mem_of_getElem? hc)
      have hcq : fRAt (fRAl 110 (q7.1, 0) l).1 (fRAl 110 (q7.1, 0) l).2 (p : Int) = c := by unfold fRAt; rw [R.1, if_pos (by omega)]; rw [hc] at hR; exact (Option.some.inj hR).symm
      have hd : l.drop p = c :: l.drop (p + 1) := by rw [List.drop_eq_getElem_cons hp]; congr 1; rw [List.getElem?_eq_getElem hp] at hc; exact Option.some.inj hc
      have ht : l.take (p + 1) = l.take p ++ [c] := by rw [List.take_succ, hc]; rfl
      rw [hd] at fe
      refine je_ps jb_X11_done 2 (pc' := 71) (ls' := [_, _, _, _, _, _, _]) (st' := [_, _]) rfl ?_
      refine je_get jb_X11_done rfl (pc' := 74) rfl (jh_at (a := 0) rfl) (by rfl) (by rfl) ?_
      refine je_get jb_X11_done rfl (pc' := 77) rfl (jh_at (a := 39) rfl) (by rfl) (by rfl) ?_
      refine je_icmpge jb_X11_done rfl (t := 110) rfl (pc' := 80) rfl (by first | omega | exact (hM _ _).1 | exact (hM _ _).2) (by first | omega | exact (hM _ _).1 | exact (hM _ _).2) (by first | omega | exact (hM _ _).1 | exact (hM _ _).2) (by first | omega | exact (hM _ _).1 | exact (hM _ _).2) (fun c77 => ?_) (fun c77 => ?_)
      · first | (exfalso; omega) | (cases c77; done) | (exfalso; simp_all; done)
      · refine je_ps jb_X11_done 2 (pc' := 83) (ls' := [_, _, _, _, _, _, _]) (st' := [_, _]) rfl ?_
        refine je_get jb_X11_done rfl (pc' := 86) rfl (jh_at (a := 0) rfl) (by rfl) (by rfl) ?_
        refine je_ps jb_X11_done 1 (pc' := 88) (ls' := [_, _, _, _, _, _, _]) (st' := [_, _, _]) rfl ?_
        refine je_cvP' jb_X11_done rfl (pc' := 91) rfl (jh_at (a := 39) rfl) (by rfl) (by first | decide | exact Nat.ble_eq_true_of_le (by omega)) (k37_at gw (by omega)) (st' := [_, _]) rfl ?_
        rw [hcq]
        refine je_cvP' jb_X11_done rfl (pc' := 94) rfl (jh_at (a := 5) rfl) (by rfl) (by first | decide | exact Nat.ble_eq_true_of_le (by omega)) (k_goOn (i := 12) h12 g12 (by omega)) (st' := [_]) rfl ?_
        refine je_ifneb jb_X11_done rfl (t := 104) rfl (pc' := 97) rfl (fun c94 => ?_) (fun c94 => ?_)
        · refine je_iinc jb_X11_done rfl (pc' := 107) rfl rfl (ls' := [_, _, _, _, _, _, _]) rfl ?_
          refine je_ps jb_X11_done 1 (pc' := 68) (ls' := [_, _, _, _, _, _, _]) (st' := []) rfl ?_
          rw [ht, rn_app] at kp
          refine kp _ _ ⟨rfl, jh_eq (by rw [jW_W h12]), ?_⟩
          rw [fe]
          show (if (fGo (aS A) (aN A) (aK A) (rn (aS A) (aN A) (aK A) (aW A y.toNat) (l.take p)).1 (rn (aS A) (aN A) (aK A) (aW A y.toNat) (l.take p)).2 c).1 = true then _ else _) = _
          rw [if_pos c94]
        · refine je_ps jb_X11_done 2 (pc' := 100) (ls' := [_, _, _, _, _, _, _]) (st' := [_, _]) rfl ?_
          refine je_cvP' jb_X11_done rfl (pc' := 103) rfl (jh_at (a := 0) rfl) (by rfl) (by first | decide | exact Nat.ble_eq_true_of_le (by omega)) (c_X11_refuse (by omega)) (st' := [_]) rfl ?_
          rw [show aDone A x y = aRef A (-6) from by unfold aDone; rw [if_pos ⟨hh, c14⟩, e7, fe, if_neg (by show ¬ (if (fGo (aS A) (aN A) (aK A) (rn (aS A) (aN A) (aK A) (aW A y.toNat) (l.take p)).1 (rn (aS A) (aN A) (aK A) (aW A y.toNat) (l.take p)).2 c).1 = true then sq (aS A) (aN A) (aK A) (fGo (aS A) (aN A) (aK A) (rn (aS A) (aN A) (aK A) (aW A y.toNat) (l.take p)).1 (rn (aS A) (aN A) (aK A) (aW A y.toNat) (l.take p)).2 c).2 (l.drop (p + 1)) else (false, (rn (aS A) (aN A) (aK A) (aW A y.toNat) (l.take p)))).1 = true; rw [c94]; simp)]]
          rw [fGo_no c94, jW_W h12]
          exact je_ret jb_X11_done rfl (by rfl) ⟨_, _, _, rfl, rfl, (I1.junk (i := 12) (Or.inr rfl) fo.2.2).ref (by omega), (((kG.rfl' m).r37 _).w h12 _ _).u (by decide) _, tG.rfl' T⟩
    · obtain ⟨rfl, rfl, fe⟩ := gp
      have fo := rn_w fs (l.take l.length) (aW A y.toNat) ov
      have g12 := jWk.w (m := jR37 m (fRAl 110 (q7.1, 0) l)) (i := 12) s12 h12 fo.1 fo.2.1
      have gw := jQ37.w (i := 12) h12 g1 (rn (aS A) (aN A) (aK A) (aW A y.toNat) (l.take l.length)).1 (rn (aS A) (aN A) (aK A) (aW A y.toNat) (l.take l.length)).2
      have sz := gw.2.1
      rw [R.1] at sz
      rw [List.drop_length] at fe
      have gv3 := jWk.o (m := jR37 m (fRAl 110 (q7.1, 0) l)) gv1 hv h12 (by omega) (rn (aS A) (aN A) (aK A) (aW A y.toNat) (l.take l.length)).1 (rn (aS A) (aN A) (aK A) (aW A y.toNat) (l.take l.length)).2
      refine je_ps jb_X11_done 2 (pc' := 71) (ls' := [_, _, _, _, _, _, _]) (st' := [_, _]) rfl ?_
      refine je_get jb_X11_done rfl (pc' := 74) rfl (jh_at (a := 0) rfl) (by rfl) (by rfl) ?_
      refine je_get jb_X11_done rfl (pc' := 77) rfl (jh_at (a := 39) rfl) (by rfl) (by rfl) ?_
      refine je_icmpge jb_X11_done rfl (t := 110) rfl (pc' := 80) rfl (by first | omega | exact (hM _ _).1 | exact (hM _ _).2) (by first | omega | exact (hM _ _).1 | exact (hM _ _).2) (by first | omega | exact (hM _ _).1 | exact (hM _ _).2) (by first | omega | exact (hM _ _).1 | exact (hM _ _).2) (fun c77 => ?_) (fun c77 => ?_)
      · refine je_ps jb_X11_done 2 (pc' := 114) (ls' := [_, _, _, _, _, _, _]) (st' := [_, _]) rfl ?_
        refine je_cvP' jb_X11_done rfl (pc' := 117) rfl (by first | exact jh_V hv gv | exact jh_V hv (g0.R37 hv _) | exact jh_walk hv) (by rfl) (by first | decide | exact Nat.ble_eq_true_of_le (by omega)) (k_copyFrom (i := y.toNat) (j := 12) hv ((I1.junk (i := 12) (L := (rn (aS A) (aN A) (aK A) (aW A y.toNat) (l.take l.length)).1) (e := (rn (aS A) (aN A) (aK A) (aW A y.toNat) (l.take l.length)).2) (Or.inr rfl) fo.2.2).z hv) h12 g12 (by omega) fo.2.2) (st' := []) rfl ?_
        have gl := jWk.w (m := jW (jR37 m (fRAl 110 (q7.1, 0) l)) 12 (rn (aS A) (aN A) (aK A) (aW A y.toNat) (l.take l.length)).1 (rn (aS A) (aN A) (aK A) (aW A y.toNat) (l.take l.length)).2) gv3.1 hv fo.1 fo.2.1
        refine je_ps jb_X11_done 1 (pc' := 119) (ls' := [_, _, _, _, _, _, _]) (st' := [_]) rfl ?_
        refine je_cvP' jb_X11_done rfl (pc' := 122) rfl (by first | exact jh_V hv gv | exact jh_V hv (g0.R37 hv _) | exact jh_walk hv) (by rfl) (by first | decide | exact Nat.ble_eq_true_of_le (by omega)) (k_length hv gl) (st' := [_]) rfl ?_
        rw [show aDone A x y = (fLen (aS A) (aN A) (aK A) (rn (aS A) (aN A) (aK A) (aW A y.toNat) (l.take l.length)).1 (rn (aS A) (aN A) (aK A) (aW A y.toNat) (l.take l.length)).2, sWk A y.toNat (rn (aS A) (aN A) (aK A) (aW A y.toNat) (l.take l.length))) from by unfold aDone; rw [if_pos ⟨hh, c14⟩, e7, fe]; exact if_pos rfl]
        exact je_ret jb_X11_done rfl (by rfl) ⟨_, _, _, rfl, rfl, (I1.junk (i := 12) (Or.inr rfl) fo.2.2).set hvn fo, (((kG.rfl' m).r37 _).w h12 _ _).w hv _ _, tG.rfl' T⟩
      · first | (exfalso; omega) | (cases c77; done) | (exfalso; simp_all; done)
theorem cl_done {A : aT} (I : iC A m r T) {x y : Int} (hx : -2147483648 ≤ x ∧ x ≤ 2147483647) (hy : -2147483648 ≤ y ∧ y ≤ 2147483647) : jq sc 14 jm_X11_done [.ref 0, .int (jI x), .int (jI y)] (jh m r T) (cQ (aDone A x y) m T) := by
  by_cases hh : 0 ≤ x ∧ x < (aHc A : Int)
  · have ho := (I.ho (i := x.toNat) (by omega)).1
    rcases (by omega : (aH A x.toNat).1 = 0 ∨ (aH A x.toNat).1 = 1 ∨ (aH A x.toNat).1 = 2 ∨ (aH A x.toNat).1 = 3 ∨ (aH A x.toNat).1 = 4 ∨ (aH A x.toNat).1 = 5) with h | h | h | h | h | h
    · exact cl_done_6 I hh h hx hy
    · exact cl_done_9 I hh h hx hy
    · exact cl_done_0 I hh h hx hy
    · exact cl_done_7 I hh h hx hy
    · exact cl_done_1 I hh h hx hy
    · exact cl_done_2 I hh h hx hy
  · obtain ⟨v, σ1, h1, h2⟩ := cl_done_n I hh hx hy (sc := sc)
    exact ⟨v, σ1, jx_call_up (by decide) h1, h2⟩

end C59
