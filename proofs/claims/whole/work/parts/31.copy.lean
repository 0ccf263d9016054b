/-! STREETS AND SCENES COPIED -/
section C31
variable {sc : Nat × (Nat → Int32)} {m : Nat → Int → Int} {r : Nat → Nat → Value} {T : jx_H} {σ : jx_H}
def jSt (m : Nat → Int → Int) (a : Nat) (s n k : Int) : Nat → Int → Int := jU m a (ju (ju (ju (m a) 0 s) 1 n) 2 k)
theorem become_2 {s n k : Int} : jq sc 1 jm_X5_become [.ref 2, .int (jI s), .int (jI n), .int (jI k)] (jh m r T) (jP none (jh (jSt m 2 s n k) r T)) := by
  refine je_in jb_X5_become rfl (ls := [_, _, _, _]) rfl ?_
  refine je_ps jb_X5_become 2 (pc' := 2) (ls' := [_, _, _, _]) (st' := [_, _]) rfl ?_
  refine je_putI jb_X5_become rfl (pc' := 5) rfl (j := 0) (a := 2) rfl (by rfl) (by rfl) (by rfl) (by rfl) ?_
  refine je_ps jb_X5_become 2 (pc' := 7) (ls' := [_, _, _, _]) (st' := [_, _]) rfl ?_
  refine je_putI jb_X5_become rfl (pc' := 10) rfl (j := 1) (a := 2) rfl (by rfl) (by rfl) (by rfl) (by rfl) ?_
  refine je_ps jb_X5_become 2 (pc' := 12) (ls' := [_, _, _, _]) (st' := [_, _]) rfl ?_
  refine je_putI jb_X5_become rfl (pc' := 15) rfl (j := 2) (a := 2) rfl (by rfl) (by rfl) (by rfl) (by rfl) ?_
  exact je_ret jb_X5_become rfl (by rfl) ⟨rfl, jh_eq (by rw [jU_same, jU_same, jU_jU, jU_jU]; rfl)⟩
theorem stcopy_2 : jq sc 2 jm_X5_copyFrom [.ref 2, .ref 20] (jh m r T) (jP none (jh (jSt m 2 (m 20 0) (m 20 1) (m 20 2)) r T)) := by
  refine je_in jb_X5_copyFrom rfl (ls := [_, _]) rfl ?_
  refine je_ps jb_X5_copyFrom 2 (pc' := 2) (ls' := [_, _]) (st' := [_, _]) rfl ?_
  refine je_get jb_X5_copyFrom rfl (pc' := 5) rfl (jh_at (a := 20) rfl) (by rfl) (by rfl) ?_
  refine je_ps jb_X5_copyFrom 1 (pc' := 6) (ls' := [_, _]) (st' := [_, _, _]) rfl ?_
  refine je_get jb_X5_copyFrom rfl (pc' := 9) rfl (jh_at (a := 20) rfl) (by rfl) (by rfl) ?_
  refine je_ps jb_X5_copyFrom 1 (pc' := 10) (ls' := [_, _]) (st' := [_, _, _, _]) rfl ?_
  refine je_get jb_X5_copyFrom rfl (pc' := 13) rfl (jh_at (a := 20) rfl) (by rfl) (by rfl) ?_
  refine je_cvP' jb_X5_copyFrom rfl (pc' := 16) rfl (jh_at (a := 2) rfl) (by rfl) (by first | decide | exact Nat.ble_eq_true_of_le (by omega)) become_2 (st' := []) rfl ?_
  exact je_ret jb_X5_copyFrom rfl (by rfl) ⟨by (first | rfl | (refine jv_t ?_; simp only [decide_eq_true_eq]; omega) | (refine jv_f ?_; simp only [decide_eq_false_iff_not]; omega) | (refine jv_I ?_; omega)), by (first | rfl | (refine jv_t ?_; simp only [decide_eq_true_eq]; omega) | (refine jv_f ?_; simp only [decide_eq_false_iff_not]; omega) | (refine jv_I ?_; omega))⟩
theorem become_20 {s n k : Int} : jq sc 1 jm_X5_become [.ref 20, .int (jI s), .int (jI n), .int (jI k)] (jh m r T) (jP none (jh (jSt m 20 s n k) r T)) := by
  refine je_in jb_X5_become rfl (ls := [_, _, _, _]) rfl ?_
  refine je_ps jb_X5_become 2 (pc' := 2) (ls' := [_, _, _, _]) (st' := [_, _]) rfl ?_
  refine je_putI jb_X5_become rfl (pc' := 5) rfl (j := 0) (a := 20) rfl (by rfl) (by rfl) (by rfl) (by rfl) ?_
  refine je_ps jb_X5_become 2 (pc' := 7) (ls' := [_, _, _, _]) (st' := [_, _]) rfl ?_
  refine je_putI jb_X5_become rfl (pc' := 10) rfl (j := 1) (a := 20) rfl (by rfl) (by rfl) (by rfl) (by rfl) ?_
  refine je_ps jb_X5_become 2 (pc' := 12) (ls' := [_, _, _, _]) (st' := [_, _]) rfl ?_
  refine je_putI jb_X5_become rfl (pc' := 15) rfl (j := 2) (a := 20) rfl (by rfl) (by rfl) (by rfl) (by rfl) ?_
  exact je_ret jb_X5_become rfl (by rfl) ⟨rfl, jh_eq (by rw [jU_same, jU_same, jU_jU, jU_jU]; rfl)⟩
theorem stcopy_20 : jq sc 2 jm_X5_copyFrom [.ref 20, .ref 2] (jh m r T) (jP none (jh (jSt m 20 (m 2 0) (m 2 1) (m 2 2)) r T)) := by
  refine je_in jb_X5_copyFrom rfl (ls := [_, _]) rfl ?_
  refine je_ps jb_X5_copyFrom 2 (pc' := 2) (ls' := [_, _]) (st' := [_, _]) rfl ?_
  refine je_get jb_X5_copyFrom rfl (pc' := 5) rfl (jh_at (a := 2) rfl) (by rfl) (by rfl) ?_
  refine je_ps jb_X5_copyFrom 1 (pc' := 6) (ls' := [_, _]) (st' := [_, _, _]) rfl ?_
  refine je_get jb_X5_copyFrom rfl (pc' := 9) rfl (jh_at (a := 2) rfl) (by rfl) (by rfl) ?_
  refine je_ps jb_X5_copyFrom 1 (pc' := 10) (ls' := [_, _]) (st' := [_, _, _, _]) rfl ?_
  refine je_get jb_X5_copyFrom rfl (pc' := 13) rfl (jh_at (a := 2) rfl) (by rfl) (by rfl) ?_
  refine je_cvP' jb_X5_copyFrom rfl (pc' := 16) rfl (jh_at (a := 20) rfl) (by rfl) (by first | decide | exact Nat.ble_eq_true_of_le (by omega)) become_20 (st' := []) rfl ?_
  exact je_ret jb_X5_copyFrom rfl (by rfl) ⟨by (first | rfl | (refine jv_t ?_; simp only [decide_eq_true_eq]; omega) | (refine jv_f ?_; simp only [decide_eq_false_iff_not]; omega) | (refine jv_I ?_; omega)), by (first | rfl | (refine jv_t ?_; simp only [decide_eq_true_eq]; omega) | (refine jv_f ?_; simp only [decide_eq_false_iff_not]; omega) | (refine jv_I ?_; omega))⟩
theorem je_aastn {d M pc pc' : Nat} {ls st : List Value} {Q : Option Value → jx_H → Prop} {lst : List (Nat × Instr × Nat)} {own mx : Nat} {isi : Bool} {rt : Option FieldType} (hB : jx_B M lst own isi rt mx) {len a v tag n : Nat} {vs : List Value} {e : jx_C} {i : Int} (hI : jx_lk lst pc = some (.aastore, len)) (hp : pc + len = pc') (hc : σ[a]? = some (tag, vs)) (he : σ[v]? = some e) (ht : ((Nat.beq tag 102 && Nat.beq e.1 8) || (Nat.beq tag 103 && (Nat.beq e.1 0 || Nat.beq e.1 1 || Nat.beq e.1 2 || Nat.beq e.1 6 || Nat.beq e.1 7 || Nat.beq e.1 9)) || (Nat.beq tag 104 && Nat.beq e.1 3)) = true) (hn : vs.length = n) (h0 : 0 ≤ i) (h1 : i < n) (h2 : i ≤ 2147483647) (k : je sc d M pc' ls st (σ.set a (tag, vs.set i.toNat (.ref v))) Q) : je sc d M pc ls (.ref v :: .int (jI i) :: .ref a :: st) σ Q := by
  subst hn
  exact je_aast hB hI hp hc he ht h0 h1 h2 k
def jHt (tag : Nat) : Bool := Nat.beq tag 0 || Nat.beq tag 1 || Nat.beq tag 2 || Nat.beq tag 6 || Nat.beq tag 7 || Nat.beq tag 9
def jHr_n (r : Nat → Nat → Value) (i : Nat) (v : Value) : Nat → Nat → Value := jV r 4 (fun p => if p = i then v else r 4 p)
theorem jh_help_n {i : Nat} (hi : i < 4) (v : Value) : (jh m r T).set 4 (103, [r 4 0, r 4 1, r 4 2, r 4 3].set i v) = jh m (jHr_n r i v) T := by
  unfold jHr_n
  rw [← jh_setr (m := m) (r := r) (T := T) (a := 4) (g := fun p => if p = i then v else r 4 p) rfl]
  refine congrArg _ ?_
  refine jlt4 (P := fun i => ((103, [r 4 0, r 4 1, r 4 2, r 4 3].set i v) : jx_C) = jc 4 (m 4) (fun p => if p = i then v else r 4 p)) rfl rfl rfl rfl hi
theorem addHelper_n {c t tag : Nat} {vs : List Value} (hc : m 1 5 = c) (h4 : c < 4) (ht : (jh m r T)[t]? = some (tag, vs)) (htag : jHt tag = true) : jq sc 1 jm_X4_addHelper [.ref 1, .ref t] (jh m r T) (jP (some (.int (jI c))) (jh (jU m 1 (ju (m 1) 5 (c + 1))) (jHr_n r c (.ref t)) T)) := by
  refine je_in jb_X4_addHelper rfl (ls := [_, _]) rfl ?_
  unfold jHt at htag
  refine je_ps jb_X4_addHelper 1 (pc' := 1) (ls' := [_, _]) (st' := [_]) rfl ?_
  refine je_get jb_X4_addHelper rfl (pc' := 4) rfl (jh_at (a := 1) rfl) (by rfl) (by rfl) ?_
  refine je_iflt jb_X4_addHelper rfl (t := 19) rfl (pc' := 7) rfl (by first | omega | exact (hM _ _).1 | exact (hM _ _).2) (by first | omega | exact (hM _ _).1 | exact (hM _ _).2) (fun c4 => ?_) (fun c4 => ?_)
  · first | (exfalso; omega) | (cases c4; done) | (exfalso; simp_all; done)
  · refine je_ps jb_X4_addHelper 1 (pc' := 8) (ls' := [_, _]) (st' := [_]) rfl ?_
    refine je_get jb_X4_addHelper rfl (pc' := 11) rfl (jh_at (a := 1) rfl) (by rfl) (by rfl) ?_
    refine je_ps jb_X4_addHelper 1 (pc' := 12) (ls' := [_, _]) (st' := [_, _]) rfl ?_
    refine je_get jb_X4_addHelper rfl (pc' := 15) rfl (jh_at (a := 1) rfl) (by rfl) (by rfl) ?_
    refine je_alenr jb_X4_addHelper rfl (pc' := 16) rfl (jh_at (a := 4) rfl) rfl (n := 4) rfl ?_
    refine je_icmplt jb_X4_addHelper rfl (t := 22) rfl (pc' := 19) rfl (by first | omega | exact (hM _ _).1 | exact (hM _ _).2) (by first | omega | exact (hM _ _).1 | exact (hM _ _).2) (by first | omega | exact (hM _ _).1 | exact (hM _ _).2) (by first | omega | exact (hM _ _).1 | exact (hM _ _).2) (fun c16 => ?_) (fun c16 => ?_)
    · refine je_ps jb_X4_addHelper 1 (pc' := 23) (ls' := [_, _]) (st' := [_]) rfl ?_
      refine je_get jb_X4_addHelper rfl (pc' := 26) rfl (jh_at (a := 1) rfl) (by rfl) (by rfl) ?_
      refine je_ps jb_X4_addHelper 1 (pc' := 27) (ls' := [_, _]) (st' := [_, _]) rfl ?_
      refine je_get jb_X4_addHelper rfl (pc' := 30) rfl (jh_at (a := 1) rfl) (by rfl) (by rfl) ?_
      rw [hc]
      refine je_ps jb_X4_addHelper 1 (pc' := 31) (ls' := [_, _]) (st' := [_, _, _]) rfl ?_
      refine je_aastn jb_X4_addHelper rfl (pc' := 32) rfl (jh_at (a := 4) rfl) (ht) (by first | rfl | simpa using htag) (n := 4) rfl (by first | omega | exact (hM _ _).1 | exact (hM _ _).2) (by first | omega | exact (hM _ _).1 | exact (hM _ _).2) (by first | omega | exact (hM _ _).1 | exact (hM _ _).2) ?_
      show je _ _ _ _ _ _ ((jh m r T).set 4 (103, [r 4 0, r 4 1, r 4 2, r 4 3].set c (.ref t))) _
      rw [jh_help_n h4]
      refine je_ps jb_X4_addHelper 2 (pc' := 34) (ls' := [_, _]) (st' := [_, _]) rfl ?_
      refine je_get jb_X4_addHelper rfl (pc' := 37) rfl (jh_at (a := 1) rfl) (by rfl) (by rfl) ?_
      refine je_ps jb_X4_addHelper 1 (pc' := 38) (ls' := [_, _]) (st' := [_, _, _]) rfl ?_
      refine je_iadd jb_X4_addHelper rfl (pc' := 39) rfl ?_
      refine je_putI jb_X4_addHelper rfl (pc' := 42) rfl (j := 5) (a := 1) rfl (by rfl) (by rfl) (by rfl) (by rfl) ?_
      refine je_ps jb_X4_addHelper 1 (pc' := 43) (ls' := [_, _]) (st' := [_]) rfl ?_
      refine je_get jb_X4_addHelper rfl (pc' := 46) rfl (jh_at (a := 1) rfl) (by rfl) (by rfl) ?_
      refine je_ps jb_X4_addHelper 1 (pc' := 47) (ls' := [_, _]) (st' := [_, _]) rfl ?_
      refine je_isub jb_X4_addHelper rfl (pc' := 48) rfl ?_
      rw [hc, jU_same, ju_same]
      exact je_ret jb_X4_addHelper rfl (by rfl) ⟨jv_I (by omega), rfl⟩
    · first | (exfalso; omega) | (cases c16; done) | (exfalso; simp_all; done)
def jHr_t (r : Nat → Nat → Value) (i : Nat) (v : Value) : Nat → Nat → Value := jV r 22 (fun p => if p = i then v else r 22 p)
theorem jh_help_t {i : Nat} (hi : i < 4) (v : Value) : (jh m r T).set 22 (103, [r 22 0, r 22 1, r 22 2, r 22 3].set i v) = jh m (jHr_t r i v) T := by
  unfold jHr_t
  rw [← jh_setr (m := m) (r := r) (T := T) (a := 22) (g := fun p => if p = i then v else r 22 p) rfl]
  refine congrArg _ ?_
  refine jlt4 (P := fun i => ((103, [r 22 0, r 22 1, r 22 2, r 22 3].set i v) : jx_C) = jc 22 (m 22) (fun p => if p = i then v else r 22 p)) rfl rfl rfl rfl hi
theorem addHelper_t {c t tag : Nat} {vs : List Value} (hc : m 19 5 = c) (h4 : c < 4) (ht : (jh m r T)[t]? = some (tag, vs)) (htag : jHt tag = true) : jq sc 1 jm_X4_addHelper [.ref 19, .ref t] (jh m r T) (jP (some (.int (jI c))) (jh (jU m 19 (ju (m 19) 5 (c + 1))) (jHr_t r c (.ref t)) T)) := by
  refine je_in jb_X4_addHelper rfl (ls := [_, _]) rfl ?_
  unfold jHt at htag
  refine je_ps jb_X4_addHelper 1 (pc' := 1) (ls' := [_, _]) (st' := [_]) rfl ?_
  refine je_get jb_X4_addHelper rfl (pc' := 4) rfl (jh_at (a := 19) rfl) (by rfl) (by rfl) ?_
  refine je_iflt jb_X4_addHelper rfl (t := 19) rfl (pc' := 7) rfl (by first | omega | exact (hM _ _).1 | exact (hM _ _).2) (by first | omega | exact (hM _ _).1 | exact (hM _ _).2) (fun c4 => ?_) (fun c4 => ?_)
  · first | (exfalso; omega) | (cases c4; done) | (exfalso; simp_all; done)
  · refine je_ps jb_X4_addHelper 1 (pc' := 8) (ls' := [_, _]) (st' := [_]) rfl ?_
    refine je_get jb_X4_addHelper rfl (pc' := 11) rfl (jh_at (a := 19) rfl) (by rfl) (by rfl) ?_
    refine je_ps jb_X4_addHelper 1 (pc' := 12) (ls' := [_, _]) (st' := [_, _]) rfl ?_
    refine je_get jb_X4_addHelper rfl (pc' := 15) rfl (jh_at (a := 19) rfl) (by rfl) (by rfl) ?_
    refine je_alenr jb_X4_addHelper rfl (pc' := 16) rfl (jh_at (a := 22) rfl) rfl (n := 4) rfl ?_
    refine je_icmplt jb_X4_addHelper rfl (t := 22) rfl (pc' := 19) rfl (by first | omega | exact (hM _ _).1 | exact (hM _ _).2) (by first | omega | exact (hM _ _).1 | exact (hM _ _).2) (by first | omega | exact (hM _ _).1 | exact (hM _ _).2) (by first | omega | exact (hM _ _).1 | exact (hM _ _).2) (fun c16 => ?_) (fun c16 => ?_)
    · refine je_ps jb_X4_addHelper 1 (pc' := 23) (ls' := [_, _]) (st' := [_]) rfl ?_
      refine je_get jb_X4_addHelper rfl (pc' := 26) rfl (jh_at (a := 19) rfl) (by rfl) (by rfl) ?_
      refine je_ps jb_X4_addHelper 1 (pc' := 27) (ls' := [_, _]) (st' := [_, _]) rfl ?_
      refine je_get jb_X4_addHelper rfl (pc' := 30) rfl (jh_at (a := 19) rfl) (by rfl) (by rfl) ?_
      rw [hc]
      refine je_ps jb_X4_addHelper 1 (pc' := 31) (ls' := [_, _]) (st' := [_, _, _]) rfl ?_
      refine je_aastn jb_X4_addHelper rfl (pc' := 32) rfl (jh_at (a := 22) rfl) (ht) (by first | rfl | simpa using htag) (n := 4) rfl (by first | omega | exact (hM _ _).1 | exact (hM _ _).2) (by first | omega | exact (hM _ _).1 | exact (hM _ _).2) (by first | omega | exact (hM _ _).1 | exact (hM _ _).2) ?_
      show je _ _ _ _ _ _ ((jh m r T).set 22 (103, [r 22 0, r 22 1, r 22 2, r 22 3].set c (.ref t))) _
      rw [jh_help_t h4]
      refine je_ps jb_X4_addHelper 2 (pc' := 34) (ls' := [_, _]) (st' := [_, _]) rfl ?_
      refine je_get jb_X4_addHelper rfl (pc' := 37) rfl (jh_at (a := 19) rfl) (by rfl) (by rfl) ?_
      refine je_ps jb_X4_addHelper 1 (pc' := 38) (ls' := [_, _]) (st' := [_, _, _]) rfl ?_
      refine je_iadd jb_X4_addHelper rfl (pc' := 39) rfl ?_
      refine je_putI jb_X4_addHelper rfl (pc' := 42) rfl (j := 5) (a := 19) rfl (by rfl) (by rfl) (by rfl) (by rfl) ?_
      refine je_ps jb_X4_addHelper 1 (pc' := 43) (ls' := [_, _]) (st' := [_]) rfl ?_
      refine je_get jb_X4_addHelper rfl (pc' := 46) rfl (jh_at (a := 19) rfl) (by rfl) (by rfl) ?_
      refine je_ps jb_X4_addHelper 1 (pc' := 47) (ls' := [_, _]) (st' := [_, _]) rfl ?_
      refine je_isub jb_X4_addHelper rfl (pc' := 48) rfl ?_
      rw [hc, jU_same, ju_same]
      exact je_ret jb_X4_addHelper rfl (by rfl) ⟨jv_I (by omega), rfl⟩
    · first | (exfalso; omega) | (cases c16; done) | (exfalso; simp_all; done)
end C31
