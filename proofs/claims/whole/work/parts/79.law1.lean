/-! BOTH SIDES TOGETHER; the script's rules; what starts both sides, run by the kernel -/
section C79
variable {sc : Nat × (Nat → Int32)} {m m' : Nat → Int → Int} {r : Nat → Nat → Value} {T : jx_H} {σ : jx_H}
theorem iG.g {A : aT} (J : iG A m) (k : kG m m') : iG A m' := by
  obtain ⟨j1, j2, j3, j4, j5, j6, j7, j8, j9, j10⟩ := J
  refine ⟨⟨?_, j1.2⟩, ?_, ?_, ?_, ?_, ?_, ?_, ?_, ?_, fun h => ?_⟩
  · rw [k 45 (by decide)]; exact j1.1
  · rw [k 45 (by decide)]; exact j2
  · intro i hi
    have g := j3 i hi
    unfold gR at *; rw [k 47 (by decide), k 48 (by decide)]; exact g
  · rw [k 45 (by decide)]; exact j4
  · rw [k 49 (by decide), k 50 (by decide)]; exact j5
  · rw [k 45 (by decide), k 55 (by decide)]; exact j6
  · rw [k 56 (by decide), k 57 (by decide)]; exact j7
  · rw [k 46 (by decide)]; exact j8
  · rw [k 45 (by decide)]; exact j9
  · have q := j10 h
    unfold gK at *
    rw [k 45 (by decide), k 58 (by decide), k 59 (by decide), k 60 (by decide), k 61 (by decide)]
    exact q
theorem iC.k {A : aT} (I : iC A m r T) (k : kC m m') : iC A m' r T := by
  obtain ⟨i1, i2', ⟨i3, i4⟩, i5, i6, ⟨q7, i7⟩, ⟨q8, i8⟩, i9, i10⟩ := I
  refine ⟨i1, i2'.now i1.1.2.1 (fun b _ _ => k b (by omega)) rfl (tK.rfl' T), ⟨by rw [k 0 (by decide)]; exact i3, fun h => (i4 h).thn (i1.2.1 h).2.1 (fun b _ _ => k b (by omega)) rfl (tK.rfl' T)⟩, fun i hi p hp => ?_, ?_, ⟨q7, ?_, i7.2⟩, ⟨q8, ?_, i8.2⟩, i9, fun j h0 h1 => ?_⟩
  · have w := jw_13 hi
    rw [k _ (by omega)]
    exact i5 i hi p hp
  · unfold jQ35 at *
    rw [k 38 (by decide), k 37 (by decide)]
    exact i6
  · have := i7.1
    unfold jQ37 at *
    rw [k 40 (by decide), k 39 (by decide)]
    exact this
  · have := i8.1
    unfold jQ39 at *
    rw [k 42 (by decide), k 41 (by decide)]
    exact this
  · rw [k 44 (by decide)]
    exact i10 j h0 h1
variable {d M pc pc' t : Nat} {ls st : List Value} {Q : Option Value → jx_H → Prop} {lst : List (Nat × Instr × Nat)} {own mx : Nat} {isi : Bool} {rt : Option FieldType}
/-- the script's number -/
def sv (sc : Nat × (Nat → Int32)) (i : Int) : Int := (sc.2 i.toNat).toInt
theorem sv_i (sc : Nat × (Nat → Int32)) (i : Int) : -2147483648 ≤ sv sc i ∧ sv sc i ≤ 2147483647 := by
  have h1 := Int32.le_toInt (sc.2 i.toNat)
  have h2 := Int32.toInt_lt (sc.2 i.toNat)
  unfold sv
  omega
theorem jI_sv (sc : Nat × (Nat → Int32)) (i : Int) : jI (sv sc i) = sc.2 i.toNat := Int32.ofInt_toInt _
theorem je_alen0 (hB : jx_B M lst own isi rt mx) {len : Nat} (hI : jx_lk lst pc = some (.arraylength, len)) (hp : pc + len = pc') (k : je sc d M pc' ls (.int (jI (sc.1 : Int)) :: st) σ Q) : je sc d M pc ls (.retAddr 0 :: st) σ Q := by
  refine je_mem hB hI hp (σ1 := σ) (st' := .int (jI (sc.1 : Int)) :: st) ?_ k
  have : Int32.ofNat sc.1 = jI (sc.1 : Int) := (Int32.ofInt_eq_ofNat).symm
  simp only [jx_mem, jx_ext, this]
theorem je_iald0 (hB : jx_B M lst own isi rt mx) {len : Nat} {i : Int} (hI : jx_lk lst pc = some (.iaload, len)) (hp : pc + len = pc') (h0 : 0 ≤ i) (h1 : i < (sc.1 : Int)) (h2 : i ≤ 2147483647) (k : je sc d M pc' ls (.int (jI (sv sc i)) :: st) σ Q) : je sc d M pc ls (.int (jI i) :: .retAddr 0 :: st) σ Q := by
  refine je_mem hB hI hp (σ1 := σ) (st' := .int (jI (sv sc i)) :: st) ?_ k
  have e1 : (jI i).toInt = i := jI_int (by omega) h2
  have e2 : jx_ix (jI i) sc.1 = true := jx_ix_I h0 h1 h2
  simp only [jx_mem, jx_ext, e2, cond_true, e1, jI_sv]
theorem je_iandany (hB : jx_B M lst own isi rt mx) {a b : Int32} {len : Nat} (hI : jx_lk lst pc = some (.iand, len)) (hp : pc + 1 = pc') (k : ∀ y : Int, -2147483648 ≤ y ∧ y ≤ 2147483647 → je sc d M pc' ls (.int (jI y) :: st) σ Q) : je sc d M pc ls (.int b :: .int a :: st) σ Q := by
  subst hp
  have h1 := Int32.le_toInt (a &&& b)
  have h2 := Int32.toInt_lt (a &&& b)
  refine je_p1 hB hI (st' := .int (jI (a &&& b).toInt) :: st) ?_ (k _ (by omega))
  simp only [jx_pure]
  rw [show jI (a &&& b).toInt = a &&& b from Int32.ofInt_toInt _]
theorem je_icmpsame (hB : jx_B M lst own isi rt mx) {a : Int32} {off : Int} {len : Nat} (hI : jx_lk lst pc = some (.if_icmp .eq off, len)) (ht : jx_tgt pc off = some t) (kt : je sc d M t ls st σ Q) : je sc d M pc ls (.int a :: .int a :: st) σ Q :=
  je_br hB hI (b := decide (a = a)) (by simp only [jx_br, ht]) (fun _ => kt) (fun h => absurd rfl (of_decide_eq_false h))
theorem je_lcmpsame (hB : jx_B M lst own isi rt mx) {a : Int64} {len : Nat} (hI : jx_lk lst pc = some (.lcmp, len)) (hp : pc + 1 = pc') (k : je sc d M pc' ls (.int (jI 0) :: st) σ Q) : je sc d M pc ls (.long a :: .long a :: st) σ Q := by
  subst hp
  refine je_p1 hB hI (st' := .int (jI 0) :: st) ?_ k
  simp [jx_pure, lg_cmp]
  exact jI_0
end C79
