/-! CALLS of the class: walks, products -/
section C53
variable {sc : Nat × (Nat → Int32)} {d M pc : Nat} {ls st : List Value} {Q : Option Value → jx_H → Prop} {m : Nat → Int → Int} {r : Nat → Nat → Value} {T : jx_H} {σ : jx_H}
theorem je_mv {p : Prop} [Decidable p] {a : Nat} (kf : ¬ p → je sc d M pc ls (.null :: st) σ Q) (kt : p → je sc d M pc ls (.ref a :: st) σ Q) : je sc d M pc ls (mv p a :: st) σ Q := by
  by_cases h : p
  · rw [mv_t h]
    exact kt h
  · rw [mv_f h]
    exact kf h
def isW (A : aT) (x : Int) : Prop := 0 ≤ x ∧ x < (aC A : Int)
def aTimes (A : aT) (x y : Int) : Int × aT :=
  if (0 ≤ x ∧ x < (aC A : Int)) ∧ (0 ≤ y ∧ y < (aC A : Int)) then (if aC A < 6 then (if (fMul (aS A) (aN A) (aK A) (aW A x.toNat).1 (aW A x.toNat).2 (aW A y.toNat).1 (aW A y.toNat).2).1 = true then ((aC A : Int), sAdd A (fMul (aS A) (aN A) (aK A) (aW A x.toNat).1 (aW A x.toNat).2 (aW A y.toNat).1 (aW A y.toNat).2).2) else aRef A (-6)) else aRef A (-6)) else aRef A (-1)
theorem cl_times {A : aT} (I : iC A m r T) {x y : Int} (hx : -2147483648 ≤ x ∧ x ≤ 2147483647) (hy : -2147483648 ≤ y ∧ y ≤ 2147483647) : jq sc 12 jm_X11_times [.ref 0, .int (jI x), .int (jI y)] (jh m r T) (cQ (aTimes A x y) m T) := by
  have c6 := I.c6
  have fs := I.fs
  refine je_in jb_X11_times rfl (ls := [_, _, _, _, _, _]) rfl ?_
  refine je_ps jb_X11_times 1 (pc' := 1) (ls' := [_, _, _, _, _, _]) (st' := [_]) rfl ?_
  refine je_get jb_X11_times rfl (pc' := 4) rfl (jh_at (a := 0) rfl) (by rfl) (by rfl) ?_
  refine je_ps jb_X11_times 1 (pc' := 5) (ls' := [_, _, _, _, _, _]) (st' := [_, _]) rfl ?_
  refine je_cvP' jb_X11_times rfl (pc' := 8) rfl (jh_at (a := 1) rfl) (by rfl) (by first | decide | exact Nat.ble_eq_true_of_le (by omega)) (k_walkAt I.c I.c6 hx) (st' := [_]) rfl ?_
  refine je_mv (fun c5 => ?_) (fun c5 => ?_)
  · skip
    refine je_ps jb_X11_times 2 (pc' := 10) (ls' := [_, _, _, _, _, _]) (st' := [_]) rfl ?_
    refine je_get jb_X11_times rfl (pc' := 13) rfl (jh_at (a := 0) rfl) (by rfl) (by rfl) ?_
    refine je_ps jb_X11_times 1 (pc' := 14) (ls' := [_, _, _, _, _, _]) (st' := [_, _]) rfl ?_
    refine je_cvP' jb_X11_times rfl (pc' := 17) rfl (jh_at (a := 1) rfl) (by rfl) (by first | decide | exact Nat.ble_eq_true_of_le (by omega)) (k_walkAt I.c I.c6 hy) (st' := [_]) rfl ?_
    refine je_mv (fun c14 => ?_) (fun c14 => ?_)
    · skip
      refine je_ps jb_X11_times 2 (pc' := 20) (ls' := [_, _, _, _, _, _]) (st' := [_]) rfl ?_
      refine je_ifnullN jb_X11_times rfl (t := 28) rfl (pc' := 23) rfl ?_
      refine je_ps jb_X11_times 2 (pc' := 30) (ls' := [_, _, _, _, _, _]) (st' := [_, _]) rfl ?_
      refine je_cvP' jb_X11_times rfl (pc' := 33) rfl (jh_at (a := 0) rfl) (by rfl) (by first | decide | exact Nat.ble_eq_true_of_le (by omega)) (c_X11_refuse (by omega)) (st' := [_]) rfl ?_
      rw [show aTimes A x y = aRef A (-1) from by unfold aTimes; rw [if_neg (by omega)]]
      exact je_ret jb_X11_times rfl (by rfl) ⟨_, _, _, rfl, rfl, I.ref (by omega), kG.ref m _, tG.rfl' T⟩
    · skip
      have hv : y.toNat < 13 := by omega
      have hvn : y.toNat < aC A := by omega
      have gv := I.wk hvn
      refine je_ps jb_X11_times 2 (pc' := 20) (ls' := [_, _, _, _, _, _]) (st' := [_]) rfl ?_
      refine je_ifnullN jb_X11_times rfl (t := 28) rfl (pc' := 23) rfl ?_
      refine je_ps jb_X11_times 2 (pc' := 30) (ls' := [_, _, _, _, _, _]) (st' := [_, _]) rfl ?_
      refine je_cvP' jb_X11_times rfl (pc' := 33) rfl (jh_at (a := 0) rfl) (by rfl) (by first | decide | exact Nat.ble_eq_true_of_le (by omega)) (c_X11_refuse (by omega)) (st' := [_]) rfl ?_
      rw [show aTimes A x y = aRef A (-1) from by unfold aTimes; rw [if_neg (by omega)]]
      exact je_ret jb_X11_times rfl (by rfl) ⟨_, _, _, rfl, rfl, I.ref (by omega), kG.ref m _, tG.rfl' T⟩
  · skip
    have hu : x.toNat < 13 := by omega
    have hun : x.toNat < aC A := by omega
    have gu := I.wk hun
    have ou := I.wo hun
    refine je_ps jb_X11_times 2 (pc' := 10) (ls' := [_, _, _, _, _, _]) (st' := [_]) rfl ?_
    refine je_get jb_X11_times rfl (pc' := 13) rfl (jh_at (a := 0) rfl) (by rfl) (by rfl) ?_
    refine je_ps jb_X11_times 1 (pc' := 14) (ls' := [_, _, _, _, _, _]) (st' := [_, _]) rfl ?_
    refine je_cvP' jb_X11_times rfl (pc' := 17) rfl (jh_at (a := 1) rfl) (by rfl) (by first | decide | exact Nat.ble_eq_true_of_le (by omega)) (k_walkAt I.c I.c6 hy) (st' := [_]) rfl ?_
    refine je_mv (fun c14 => ?_) (fun c14 => ?_)
    · skip
      refine je_ps jb_X11_times 2 (pc' := 20) (ls' := [_, _, _, _, _, _]) (st' := [_]) rfl ?_
      refine je_ifnullR jb_X11_times rfl (t := 28) rfl (pc' := 23) rfl ?_
      refine je_ps jb_X11_times 1 (pc' := 25) (ls' := [_, _, _, _, _, _]) (st' := [_]) rfl ?_
      refine je_ifnonnullN jb_X11_times rfl (t := 34) rfl (pc' := 28) rfl ?_
      refine je_ps jb_X11_times 2 (pc' := 30) (ls' := [_, _, _, _, _, _]) (st' := [_, _]) rfl ?_
      refine je_cvP' jb_X11_times rfl (pc' := 33) rfl (jh_at (a := 0) rfl) (by rfl) (by first | decide | exact Nat.ble_eq_true_of_le (by omega)) (c_X11_refuse (by omega)) (st' := [_]) rfl ?_
      rw [show aTimes A x y = aRef A (-1) from by unfold aTimes; rw [if_neg (by omega)]]
      exact je_ret jb_X11_times rfl (by rfl) ⟨_, _, _, rfl, rfl, I.ref (by omega), kG.ref m _, tG.rfl' T⟩
    · skip
      have hv : y.toNat < 13 := by omega
      have hvn : y.toNat < aC A := by omega
      have gv := I.wk hvn
      refine je_ps jb_X11_times 2 (pc' := 20) (ls' := [_, _, _, _, _, _]) (st' := [_]) rfl ?_
      refine je_ifnullR jb_X11_times rfl (t := 28) rfl (pc' := 23) rfl ?_
      refine je_ps jb_X11_times 1 (pc' := 25) (ls' := [_, _, _, _, _, _]) (st' := [_]) rfl ?_
      refine je_ifnonnullR jb_X11_times rfl (t := 34) rfl (pc' := 28) rfl ?_
      refine je_ps jb_X11_times 1 (pc' := 35) (ls' := [_, _, _, _, _, _]) (st' := [_]) rfl ?_
      refine je_get jb_X11_times rfl (pc' := 38) rfl (jh_at (a := 0) rfl) (by rfl) (by rfl) ?_
      refine je_cvP' jb_X11_times rfl (pc' := 41) rfl (jh_at (a := 1) rfl) (by rfl) (by first | decide | exact Nat.ble_eq_true_of_le (by omega)) (k_freeWalk I.c I.c6) (st' := [_]) rfl ?_
      refine je_mv (fun c38 => ?_) (fun c38 => ?_)
      · skip
        refine je_ps jb_X11_times 2 (pc' := 45) (ls' := [_, _, _, _, _, _]) (st' := [_]) rfl ?_
        refine je_ifnonnullN jb_X11_times rfl (t := 55) rfl (pc' := 48) rfl ?_
        refine je_ps jb_X11_times 2 (pc' := 51) (ls' := [_, _, _, _, _, _]) (st' := [_, _]) rfl ?_
        refine je_cvP' jb_X11_times rfl (pc' := 54) rfl (jh_at (a := 0) rfl) (by rfl) (by first | decide | exact Nat.ble_eq_true_of_le (by omega)) (c_X11_refuse (by omega)) (st' := [_]) rfl ?_
        rw [show aTimes A x y = aRef A (-6) from by unfold aTimes; rw [if_pos ⟨c5, c14⟩, if_neg (by omega)]]
        exact je_ret jb_X11_times rfl (by rfl) ⟨_, _, _, rfl, rfl, I.ref (by omega), kG.ref m _, tG.rfl' T⟩
      · skip
        have hc : aC A < 13 := by omega
        have g1 := jWk.w (m := m) (I.str (i := aC A) (jws_6 (by omega))) hc ou.1 ou.2.1
        have gv1 := jWk.o (m := m) gv hv hc (by omega) (aW A x.toNat).1 (aW A x.toNat).2
        refine je_ps jb_X11_times 2 (pc' := 45) (ls' := [_, _, _, _, _, _]) (st' := [_]) rfl ?_
        refine je_ifnonnullR jb_X11_times rfl (t := 55) rfl (pc' := 48) rfl ?_
        refine je_ps jb_X11_times 2 (pc' := 58) (ls' := [_, _, _, _, _, _]) (st' := [_, _]) rfl ?_
        refine je_cvP' jb_X11_times rfl (pc' := 61) rfl (jh_walk hc) (by rfl) (by first | decide | exact Nat.ble_eq_true_of_le (by omega)) (k_copyFrom hc (I.z hc) hu gu (by omega) ou.2.2) (st' := []) rfl ?_
        refine je_ps jb_X11_times 2 (pc' := 65) (ls' := [_, _, _, _, _, _]) (st' := [_, _]) rfl ?_
        refine je_cvP' jb_X11_times rfl (pc' := 68) rfl (jh_walk hc) (by rfl) (by first | decide | exact Nat.ble_eq_true_of_le (by omega)) (k_multiplyBy hc hv (by omega) g1 gv1) (st' := [_]) rfl ?_
        rw [jW_W hc]
        refine je_ifeqb jb_X11_times rfl (t := 81) rfl (pc' := 71) rfl (fun c68 => ?_) (fun c68 => ?_)
        · refine je_ps jb_X11_times 2 (pc' := 84) (ls' := [_, _, _, _, _, _]) (st' := [_, _]) rfl ?_
          refine je_cvP' jb_X11_times rfl (pc' := 87) rfl (jh_at (a := 0) rfl) (by rfl) (by first | decide | exact Nat.ble_eq_true_of_le (by omega)) (c_X11_refuse (by omega)) (st' := [_]) rfl ?_
          first | (rw [show aTimes A x y = aRef A (-6) from by unfold aTimes; rw [if_pos ⟨c5, c14⟩, if_pos c38, if_neg (by rw [c68]; decide)]]; exact je_ret jb_X11_times rfl (by rfl) ⟨_, _, _, rfl, rfl, (I.junk (Or.inl ⟨Nat.le_refl _, c38⟩) (fMul_z fs ou.2.2)).ref (by omega), ((kG.rfl' m).w hc _ _).u (by decide) _, tG.rfl' T⟩) | (rw [show aTimes A x y = ((aC A : Int), sAdd A (fMul (aS A) (aN A) (aK A) (aW A x.toNat).1 (aW A x.toNat).2 (aW A y.toNat).1 (aW A y.toNat).2).2) from by unfold aTimes; rw [if_pos ⟨c5, c14⟩, if_pos c38, if_pos c68]]; rw [jW_1 hc]; exact je_ret jb_X11_times rfl (by rfl) ⟨_, _, _, rfl, rfl, I.add c38 (ou.mul fs), ((kG.rfl' m).w hc _ _).u (by decide) _, tG.rfl' T⟩)
        · refine je_ps jb_X11_times 1 (pc' := 72) (ls' := [_, _, _, _, _, _]) (st' := [_]) rfl ?_
          refine je_get jb_X11_times rfl (pc' := 75) rfl (jh_at (a := 0) rfl) (by rfl) (by rfl) ?_
          refine je_cvP' jb_X11_times rfl (pc' := 78) rfl (jh_at (a := 1) rfl) (by rfl) (by first | decide | exact Nat.ble_eq_true_of_le (by omega)) (keepFreeWalk_n (c := (aC A : Int)) (by rw [jW_1 hc]; exact I.c)) (st' := [_]) rfl ?_
          refine je_ps jb_X11_times 1 (pc' := 87) (ls' := [_, _, _, _, _, _]) (st' := [_]) rfl ?_
          first | (rw [show aTimes A x y = aRef A (-6) from by unfold aTimes; rw [if_pos ⟨c5, c14⟩, if_pos c38, if_neg (by rw [c68]; decide)]]; exact je_ret jb_X11_times rfl (by rfl) ⟨_, _, _, rfl, rfl, (I.junk (Or.inl ⟨Nat.le_refl _, c38⟩) (fMul_z fs ou.2.2)).ref (by omega), ((kG.rfl' m).w hc _ _).u (by decide) _, tG.rfl' T⟩) | (rw [show aTimes A x y = ((aC A : Int), sAdd A (fMul (aS A) (aN A) (aK A) (aW A x.toNat).1 (aW A x.toNat).2 (aW A y.toNat).1 (aW A y.toNat).2).2) from by unfold aTimes; rw [if_pos ⟨c5, c14⟩, if_pos c38, if_pos c68]]; rw [jW_1 hc]; exact je_ret jb_X11_times rfl (by rfl) ⟨_, _, _, rfl, rfl, I.add c38 (ou.mul fs), ((kG.rfl' m).w hc _ _).u (by decide) _, tG.rfl' T⟩)
end C53
