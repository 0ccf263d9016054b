/-! goal-first rules for the small machine; ints are jI of whole numbers -/
def jq (sc : Nat × (Nat → Int32)) (d M : Nat) (av : List Value) (σ : jx_H) (Q : Option Value → jx_H → Prop) : Prop := ∃ v σ1, jx_call sc d M av σ v σ1 ∧ Q v σ1
def je (sc : Nat × (Nat → Int32)) (d M pc : Nat) (ls st : List Value) (σ : jx_H) (Q : Option Value → jx_H → Prop) : Prop := ∃ n r σ', jx_run sc (jx_call sc d) n M pc ls st σ r σ' ∧ Q r σ'
def jx_B (M : Nat) (lst : List (Nat × Instr × Nat)) (own : Nat) (isi : Bool) (rt : Option FieldType) (mx : Nat) : Prop := jx_ks.getD M [] = lst ∧ jx_own M = own ∧ jx_isi M = isi ∧ jx_rt M = rt ∧ jx_mx M = mx
def jx_ps (lst : List (Nat × Instr × Nat)) (own : Nat) : Nat → Nat → List Value → List Value → Option (Nat × List Value × List Value)
  | 0, pc, ls, st => some (pc, ls, st)
  | n + 1, pc, ls, st => match jx_lk lst pc with
    | none => none
    | some q => match jx_pure own q.1 pc ls st with
      | none => none
      | some c => jx_ps lst own n c.1 c.2.1 c.2.2
/-- a deeper limit is as good -/
theorem jx_run_up {sc : Nat × (Nat → Int32)} {cal cal' : Nat → List Value → jx_H → Option Value → jx_H → Prop} (h : ∀ M av σ v σ1, cal M av σ v σ1 → cal' M av σ v σ1) : ∀ (n M pc : Nat) (ls st : List Value) (σ : jx_H) (r : Option Value) (σ' : jx_H), jx_run sc cal n M pc ls st σ r σ' → jx_run sc cal' n M pc ls st σ r σ' := by
  intro n
  induction n with
  | zero => intro M pc ls st σ r σ' h; exact h.elim
  | succ n ih =>
    intro M pc ls st σ r σ' h0
    obtain ⟨I, len, h1, h2⟩ := h0
    refine ⟨I, len, h1, ?_⟩
    rcases h2 with ⟨c, a, b⟩ | ⟨c, a, b⟩ | ⟨c, a, b⟩ | ⟨c, a, b⟩ | ⟨c, v, σ1, a, a2, b⟩ | a
    · exact Or.inl ⟨c, a, ih _ _ _ _ _ _ _ b⟩
    · exact Or.inr (Or.inl ⟨c, a, ih _ _ _ _ _ _ _ b⟩)
    · exact Or.inr (Or.inr (Or.inl ⟨c, a, ih _ _ _ _ _ _ _ b⟩))
    · exact Or.inr (Or.inr (Or.inr (Or.inl ⟨c, a, ih _ _ _ _ _ _ _ b⟩)))
    · exact Or.inr (Or.inr (Or.inr (Or.inr (Or.inl ⟨c, v, σ1, a, h _ _ _ _ _ a2, ih _ _ _ _ _ _ _ b⟩))))
    · exact Or.inr (Or.inr (Or.inr (Or.inr (Or.inr a))))
theorem jx_call_up1 {sc : Nat × (Nat → Int32)} : ∀ (d M : Nat) (av : List Value) (σ : jx_H) (v : Option Value) (σ1 : jx_H), jx_call sc d M av σ v σ1 → jx_call sc (d + 1) M av σ v σ1 := by
  intro d
  induction d with
  | zero => intro M av σ v σ1 h; exact h.elim
  | succ d ih =>
    intro M av σ v σ1 h
    obtain ⟨h1, n, h2⟩ := h
    exact ⟨h1, n, jx_run_up ih _ _ _ _ _ _ _ _ h2⟩
theorem jx_call_up {sc : Nat × (Nat → Int32)} {d d' M : Nat} {av : List Value} {σ : jx_H} {v : Option Value} {σ1 : jx_H} (hd : d ≤ d') (h : jx_call sc d M av σ v σ1) : jx_call sc d' M av σ v σ1 := by
  obtain ⟨k, rfl⟩ := Nat.exists_eq_add_of_le hd
  clear hd
  induction k with
  | zero => exact h
  | succ k ih => exact jx_call_up1 _ _ _ _ _ _ ih
theorem jI_add (a b : Int) : jI a + jI b = jI (a + b) := (Int32.ofInt_add a b).symm
theorem jI_sub (a b : Int) : jI a - jI b = jI (a - b) := (Int32.ofInt_sub a b).symm
theorem jI_mul (a b : Int) : jI a * jI b = jI (a * b) := (Int32.ofInt_mul a b).symm
theorem jI_neg (a : Int) : -jI a = jI (-a) := (Int32.ofInt_neg a).symm
theorem jI_to (x : Int32) : jI x.toInt = x := Int32.ofInt_toInt x
theorem jI_int {a : Int} (h1 : -2147483648 ≤ a) (h2 : a ≤ 2147483647) : (jI a).toInt = a := Int32.toInt_ofInt_of_le (by omega) (by omega)
theorem jI_lt {a b : Int} (h1 : -2147483648 ≤ a) (h2 : a ≤ 2147483647) (h3 : -2147483648 ≤ b) (h4 : b ≤ 2147483647) : jI a < jI b ↔ a < b := by
  rw [Int32.lt_iff_toInt_lt, jI_int h1 h2, jI_int h3 h4]
theorem jI_le {a b : Int} (h1 : -2147483648 ≤ a) (h2 : a ≤ 2147483647) (h3 : -2147483648 ≤ b) (h4 : b ≤ 2147483647) : jI a ≤ jI b ↔ a ≤ b := by
  rw [Int32.le_iff_toInt_le, jI_int h1 h2, jI_int h3 h4]
theorem jI_eq {a b : Int} (h1 : -2147483648 ≤ a) (h2 : a ≤ 2147483647) (h3 : -2147483648 ≤ b) (h4 : b ≤ 2147483647) : jI a = jI b ↔ a = b := by
  rw [← Int32.toInt_inj, jI_int h1 h2, jI_int h3 h4]
theorem jI_0 : (0 : Int32) = jI 0 := by decide
/-- a row of ints -/
def jA (n : Nat) (f : Int → Int) : jx_C := (100, (List.range n).map fun (k : Nat) => .int (jI (f (k : Int))))
def ju (f : Int → Int) (k v : Int) : Int → Int := fun j => if j = k then v else f j
theorem jA_len (n : Nat) (f : Int → Int) : (jA n f).2.length = n := by simp [jA]
theorem jA_get {n : Nat} {f : Int → Int} {i : Int} (h0 : 0 ≤ i) (h1 : i < n) : (jA n f).2[i.toNat]? = some (.int (jI (f i))) := by
  have h2 : i.toNat < n := by omega
  have h3 : ((i.toNat : Nat) : Int) = i := by omega
  simp [jA, h2, h3]
theorem jA_set {n : Nat} {f : Int → Int} {i v : Int} (h0 : 0 ≤ i) (h1 : i < n) : (jA n f).2.set i.toNat (.int (jI v)) = (jA n (ju f i v)).2 := by
  apply List.ext_getElem?
  intro j
  rw [List.getElem?_set]
  by_cases hj : i.toNat = j
  · have h2 : j < n := by omega
    have h3 : (j : Int) = i := by omega
    rw [if_pos hj]
    simp [jA, h2, ju, h3, hj]
  · rw [if_neg hj]
    by_cases h2 : j < n
    · have h3 : ¬ (j : Int) = i := by omega
      simp [jA, h2, ju, h3]
    · simp [jA, h2]
theorem jA_congr {n : Nat} {f g : Int → Int} (h : ∀ k : Int, 0 ≤ k → k < n → f k = g k) : jA n f = jA n g := by
  unfold jA
  congr 1
  apply List.map_congr_left
  intro k hk
  rw [List.mem_range] at hk
  rw [h k (by omega) (by omega)]
def jb (b : Bool) : Int := bif b then 1 else 0
section JE
variable {sc : Nat × (Nat → Int32)} {d M pc pc' t : Nat} {ls st ls' st' av : List Value} {σ : jx_H} {Q : Option Value → jx_H → Prop} {lst : List (Nat × Instr × Nat)} {own mx : Nat} {isi : Bool} {rt : Option FieldType}
theorem je_in (hB : jx_B M lst own isi rt mx) (hlay : Nat.ble (jx_lay av).length mx = true) (hls : jx_entry mx av = ls) (k : je sc d M 0 ls [] σ Q) : jq sc (d + 1) M av σ Q := by
  obtain ⟨-, -, -, -, h5⟩ := hB
  subst hls
  obtain ⟨n, r, σ', h1, h2⟩ := k
  exact ⟨r, σ', ⟨by rw [h5]; exact Nat.le_of_ble_eq_true hlay, n, by rw [h5]; exact h1⟩, h2⟩
theorem je_code (hB : jx_B M lst own isi rt mx) {q : Instr × Nat} (hI : jx_lk lst pc = some q) : jx_code M pc = some q := by
  unfold jx_code
  rw [hB.1]
  exact hI
theorem je_ps (hB : jx_B M lst own isi rt mx) (n : Nat) (h : jx_ps lst own n pc ls st = some (pc', ls', st')) (k : je sc d M pc' ls' st' σ Q) : je sc d M pc ls st σ Q := by
  induction n generalizing pc ls st with
  | zero =>
    cases h
    exact k
  | succ n ih =>
    unfold jx_ps at h
    cases h1 : jx_lk lst pc with
    | none => rw [h1] at h; cases h
    | some q =>
      rw [h1] at h
      cases h2 : jx_pure own q.1 pc ls st with
      | none => simp only [h2] at h; cases h
      | some c =>
        simp only [h2] at h
        obtain ⟨n1, r, σ', h3, h4⟩ := ih h
        exact ⟨n1 + 1, r, σ', ⟨q.1, q.2, je_code hB h1, Or.inl ⟨c, by rw [hB.2.1]; exact h2, h3⟩⟩, h4⟩
theorem je_p1 (hB : jx_B M lst own isi rt mx) {q : Instr × Nat} (hI : jx_lk lst pc = some q) (h : jx_pure own q.1 pc ls st = some (pc', ls', st')) (k : je sc d M pc' ls' st' σ Q) : je sc d M pc ls st σ Q := by
  obtain ⟨n1, r, σ', h3, h4⟩ := k
  exact ⟨n1 + 1, r, σ', ⟨q.1, q.2, je_code hB hI, Or.inl ⟨_, by rw [hB.2.1]; exact h, h3⟩⟩, h4⟩
theorem je_br (hB : jx_B M lst own isi rt mx) {q : Instr × Nat} (hI : jx_lk lst pc = some q) {b : Bool} (h : jx_br q.1 pc st = some (b, t, st')) (kt : b = true → je sc d M t ls st' σ Q) (kf : b = false → je sc d M (pc + 3) ls st' σ Q) : je sc d M pc ls st σ Q := by
  cases b with
  | true =>
    obtain ⟨n1, r, σ', h3, h4⟩ := kt rfl
    exact ⟨n1 + 1, r, σ', ⟨q.1, q.2, je_code hB hI, Or.inr (Or.inl ⟨_, h, h3⟩)⟩, h4⟩
  | false =>
    obtain ⟨n1, r, σ', h3, h4⟩ := kf rfl
    exact ⟨n1 + 1, r, σ', ⟨q.1, q.2, je_code hB hI, Or.inr (Or.inl ⟨_, h, h3⟩)⟩, h4⟩
theorem je_sw (hB : jx_B M lst own isi rt mx) {q : Instr × Nat} (hI : jx_lk lst pc = some q) (h : jx_sw q.1 pc st = some (t, st')) (k : je sc d M t ls st' σ Q) : je sc d M pc ls st σ Q := by
  obtain ⟨n1, r, σ', h3, h4⟩ := k
  exact ⟨n1 + 1, r, σ', ⟨q.1, q.2, je_code hB hI, Or.inr (Or.inr (Or.inl ⟨_, h, h3⟩))⟩, h4⟩
theorem je_mem (hB : jx_B M lst own isi rt mx) {I : Instr} {len : Nat} (hI : jx_lk lst pc = some (I, len)) (hp : pc + len = pc') {σ1 : jx_H} (h : jx_mem sc own isi I st σ = some (st', σ1)) (k : je sc d M pc' ls st' σ1 Q) : je sc d M pc ls st σ Q := by
  subst hp
  obtain ⟨n1, r, σ', h3, h4⟩ := k
  exact ⟨n1 + 1, r, σ', ⟨I, len, je_code hB hI, Or.inr (Or.inr (Or.inr (Or.inl ⟨_, by rw [hB.2.1, hB.2.2.1]; exact h, h3⟩)))⟩, h4⟩
theorem je_inv (hB : jx_B M lst own isi rt mx) {I : Instr} {len M' : Nat} {rest : List Value} (hI : jx_lk lst pc = some (I, len)) (hp : pc + 3 = pc') (h : jx_inv own I st σ = some (M', av, rest)) {k0 : Nat} (hk0 : Nat.ble k0 d = true) {Q' : Option Value → jx_H → Prop} (hc : jq sc k0 M' av σ Q') (k : ∀ v σ1, Q' v σ1 → je sc d M pc' ls (v.toList ++ rest) σ1 Q) : je sc d M pc ls st σ Q := by
  subst hp
  obtain ⟨v, σ1, h1, h2⟩ := hc
  obtain ⟨n1, r, σ', h3, h4⟩ := k v σ1 h2
  exact ⟨n1 + 1, r, σ', ⟨I, len, je_code hB hI, Or.inr (Or.inr (Or.inr (Or.inr (Or.inl ⟨_, v, σ1, by rw [hB.2.1]; exact h, jx_call_up (Nat.le_of_ble_eq_true hk0) h1, h3⟩))))⟩, h4⟩
theorem je_ret (hB : jx_B M lst own isi rt mx) {q : Instr × Nat} (hI : jx_lk lst pc = some q) {r : Option Value} (h : jx_ret rt q.1 st = some r) (k : Q r σ) : je sc d M pc ls st σ Q :=
  ⟨1, r, σ, ⟨q.1, q.2, je_code hB hI, Or.inr (Or.inr (Or.inr (Or.inr (Or.inr ⟨by rw [hB.2.2.2.1]; exact h, rfl⟩))))⟩, k⟩
end JE
