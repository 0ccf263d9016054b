/-! more rules: signs, long, classes -/
section JR3
variable {sc : Nat × (Nat → Int32)} {d M pc pc' t : Nat} {ls st ls' st' av : List Value} {σ : jx_H} {Q : Option Value → jx_H → Prop} {lst : List (Nat × Instr × Nat)} {own mx : Nat} {isi : Bool} {rt : Option FieldType} {m : Nat → Int → Int} {r : Nat → Nat → Value} {T : jx_H}
def fSg (i : Int) : Int := if i = 0 then 97 else if i = 1 then 65 else if i = 2 then 116 else 84
theorem je_gets (hB : jx_B M lst own isi rt mx) {idx len : Nat} (hI : jx_lk lst pc = some (.getstatic idx, len)) (hp : pc + len = pc') (hg : (jx_lk (jx_gs.getD own []) idx).isSome = true) (k : je sc d M pc' ls (.retAddr 1 :: st) σ Q) : je sc d M pc ls st σ Q := by
  refine je_mem hB hI hp (σ1 := σ) (st' := .retAddr 1 :: st) ?_ k
  obtain ⟨x, hx⟩ := Option.isSome_iff_exists.mp hg
  simp only [jx_mem, hx]
theorem je_alenx (hB : jx_B M lst own isi rt mx) {len : Nat} (hI : jx_lk lst pc = some (.arraylength, len)) (hp : pc + len = pc') (k : je sc d M pc' ls (.int (jI 4) :: st) σ Q) : je sc d M pc ls (.retAddr 1 :: st) σ Q :=
  je_mem hB hI hp (σ1 := σ) (st' := .int (jI 4) :: st) rfl k
theorem je_ialdx (hB : jx_B M lst own isi rt mx) {len : Nat} {i : Int} (hI : jx_lk lst pc = some (.iaload, len)) (hp : pc + len = pc') (h0 : 0 ≤ i) (h1 : i < 4) (k : je sc d M pc' ls (.int (jI (fSg i)) :: st) σ Q) : je sc d M pc ls (.int (jI i) :: .retAddr 1 :: st) σ Q := by
  refine je_mem hB hI hp (σ1 := σ) (st' := .int (jI (fSg i)) :: st) ?_ k
  rcases (by omega : i = 0 ∨ i = 1 ∨ i = 2 ∨ i = 3) with h | h | h | h <;> subst h <;> rfl
theorem je_oi (hB : jx_B M lst own isi rt mx) {idx len a : Nat} (hI : jx_lk lst pc = some (.invokespecial idx, len)) (hp : pc + len = pc') (hg : (jx_lk (jx_oi.getD own []) idx).isSome = true) (hs : Nat.ble (jx_sl st) 20 = true) (k : je sc d M pc' ls st σ Q) : je sc d M pc ls (.ref a :: st) σ Q := by
  refine je_mem hB hI hp (σ1 := σ) (st' := st) ?_ k
  obtain ⟨x, hx⟩ := Option.isSome_iff_exists.mp hg
  simp only [jx_mem, hx, hs, cond_true]
theorem jL_sub (a b : Int) : jL a - jL b = jL (a - b) := (Int64.ofInt_sub a b).symm
theorem jL_add (a b : Int) : jL a + jL b = jL (a + b) := (Int64.ofInt_add a b).symm
theorem jL_mul (a b : Int) : jL a * jL b = jL (a * b) := (Int64.ofInt_mul a b).symm
theorem jI_long {a : Int} (h1 : -2147483648 ≤ a) (h2 : a ≤ 2147483647) : (jI a).toInt64 = jL a := by
  apply Int64.toInt.inj
  rw [Int32.toInt_toInt64, jI_int h1 h2, Int64.toInt_ofInt_of_le (by omega) (by omega)]
theorem je_i2l (hB : jx_B M lst own isi rt mx) {len : Nat} {a : Int} (hI : jx_lk lst pc = some (.i2l, len)) (hp : pc + 1 = pc') (h1 : -2147483648 ≤ a) (h2 : a ≤ 2147483647) (k : je sc d M pc' ls (.long (jL a) :: st) σ Q) : je sc d M pc ls (.int (jI a) :: st) σ Q := by
  subst hp
  exact je_p1 hB hI (by simp only [jx_pure, jI_long h1 h2]) k
theorem je_lsub (hB : jx_B M lst own isi rt mx) {len : Nat} {a b : Int} (hI : jx_lk lst pc = some (.lsub, len)) (hp : pc + 1 = pc') (k : je sc d M pc' ls (.long (jL (a - b)) :: st) σ Q) : je sc d M pc ls (.long (jL b) :: .long (jL a) :: st) σ Q := by
  subst hp
  exact je_p1 hB hI (by simp only [jx_pure, jL_sub]) k
theorem je_ladd (hB : jx_B M lst own isi rt mx) {len : Nat} {a b : Int} (hI : jx_lk lst pc = some (.ladd, len)) (hp : pc + 1 = pc') (k : je sc d M pc' ls (.long (jL (a + b)) :: st) σ Q) : je sc d M pc ls (.long (jL b) :: .long (jL a) :: st) σ Q := by
  subst hp
  exact je_p1 hB hI (by simp only [jx_pure, jL_add]) k
theorem je_lmul (hB : jx_B M lst own isi rt mx) {len : Nat} {a b : Int} (hI : jx_lk lst pc = some (.lmul, len)) (hp : pc + 1 = pc') (k : je sc d M pc' ls (.long (jL (a * b)) :: st) σ Q) : je sc d M pc ls (.long (jL b) :: .long (jL a) :: st) σ Q := by
  subst hp
  exact je_p1 hB hI (by simp only [jx_pure, jL_mul]) k
theorem je_iof (hB : jx_B M lst own isi rt mx) {idx len a : Nat} {cel : jx_C} {b : Bool} (hI : jx_lk lst pc = some (.instanceof idx, len)) (hp : pc + len = pc') (hc : σ[a]? = some cel) (he : (match (jx_io.getD own []).find? (fun e => Nat.beq e.1 idx && Nat.beq e.2.1 cel.1) with
    | none => none
    | some e => some (!decide (e.2.2.1 = 0))) = some b) (k : je sc d M pc' ls (.int (jI (jb b)) :: st) σ Q) : je sc d M pc ls (.ref a :: st) σ Q := by
  refine je_mem hB hI hp (σ1 := σ) (st' := .int (jI (jb b)) :: st) ?_ k
  simp only [jx_mem, hc]
  split at he
  · cases he
  · rename_i x hx
    rw [hx]
    cases he
    by_cases h : x.2.2.1 = 0
    · simp [h]; rfl
    · simp [h]; rfl
theorem je_aast (hB : jx_B M lst own isi rt mx) {len a v : Nat} {c e : jx_C} {i : Int} (hI : jx_lk lst pc = some (.aastore, len)) (hp : pc + len = pc') (hc : σ[a]? = some c) (he : σ[v]? = some e) (ht : ((Nat.beq c.1 102 && Nat.beq e.1 8) || (Nat.beq c.1 103 && (Nat.beq e.1 0 || Nat.beq e.1 1 || Nat.beq e.1 2 || Nat.beq e.1 6 || Nat.beq e.1 7 || Nat.beq e.1 9)) || (Nat.beq c.1 104 && Nat.beq e.1 3)) = true) (h0 : 0 ≤ i) (h1 : i < c.2.length) (h2 : i ≤ 2147483647) (k : je sc d M pc' ls st (σ.set a (c.1, c.2.set i.toNat (.ref v))) Q) : je sc d M pc ls (.ref v :: .int (jI i) :: .ref a :: st) σ Q := by
  refine je_mem hB hI hp (σ1 := σ.set a (c.1, c.2.set i.toNat (.ref v))) (st' := st) ?_ k
  have e1 : (jI i).toInt = i := jI_int (by omega) h2
  simp only [jx_mem, hc, he, ht, Bool.true_and, jx_ix_I h0 h1 h2, cond_true, e1]
theorem je_aaln (hB : jx_B M lst own isi rt mx) {len a tag n : Nat} {vs : List Value} {i : Int} {v : Value} (hI : jx_lk lst pc = some (.aaload, len)) (hp : pc + len = pc') (hc : σ[a]? = some (tag, vs)) (ht : (Nat.blt 101 tag && Nat.blt tag 105) = true) (hn : vs.length = n) (h0 : 0 ≤ i) (h1 : i < n) (h2 : i ≤ 2147483647) (hv : vs[i.toNat]? = some v) (k : je sc d M pc' ls (v :: st) σ Q) : je sc d M pc ls (.int (jI i) :: .ref a :: st) σ Q := by
  subst hn
  exact je_aald hB hI hp hc ht h0 h1 h2 hv k
theorem je_new (hB : jx_B M lst own isi rt mx) {idx len : Nat} {q : Nat × List Nat} {rr : vw_C} {vs : List Value} (hI : jx_lk lst pc = some (.new idx, len)) (hp : pc + len = pc') (hq : jx_lk (jx_nl.getD own []) idx = some q) (hr : jx_cl[q.1]? = some rr) (hv : jx_new q.1 rr.2.2 = vs) (k : je sc d M pc' ls (.ref σ.length :: st) (σ ++ [(q.1, vs)]) Q) : je sc d M pc ls st σ Q := by
  refine je_mem hB hI hp (σ1 := σ ++ [(q.1, vs)]) (st' := .ref σ.length :: st) ?_ k
  simp only [jx_mem, hq, hr, hv]
end JR3
