/-! more rules: over the memory -/
section JR2
variable {sc : Nat × (Nat → Int32)} {d M pc pc' t : Nat} {ls st ls' st' av : List Value} {σ : jx_H} {Q : Option Value → jx_H → Prop} {lst : List (Nat × Instr × Nat)} {own mx : Nat} {isi : Bool} {rt : Option FieldType} {m : Nat → Int → Int} {r : Nat → Nat → Value} {T : jx_H}
theorem je_putI (hB : jx_B M lst own isi rt mx) {idx len a : Nat} {q : Nat × Nat} {rr : vw_C} {j x : Int} (hI : jx_lk lst pc = some (.putfield idx, len)) (hp : pc + len = pc') (ha : Nat.blt a 62 = true) (hf : jx_fld own idx (jc a (m a) (r a)).1 = some q) (hr : jx_cl[(jc a (m a) (r a)).1]? = some rr)
    (hok : (jx_fit ((jx_tyf.getD (jc a (m a) (r a)).1 (fun _ => .int)) q.1) (.int (jI x)) && decide (q.1 < (jc a (m a) (r a)).2.length) && decide ((jc a (m a) (r a)).1 < 100) && (!(rr.2.1 q.1).2.2.2 || (isi && Nat.beq q.2 0 && decide ((rr.2.1 q.1).1 = jx_cn own))) && (Nat.beq q.2 0 || Nat.beq q.2 1)) = true) (hset : ((jc a (m a) (r a)).1, (jc a (m a) (r a)).2.set q.1 (.int (jI x))) = jc a (ju (m a) j x) (r a)) (k : je sc d M pc' ls st (jh (jU m a (ju (m a) j x)) r T) Q) : je sc d M pc ls (.int (jI x) :: .ref a :: st) (jh m r T) Q := by
  refine je_put hB hI hp (jh_at ha) hf hr hok rfl ?_
  rw [hset, jh_set ha]
  exact k
theorem je_pute (hB : jx_B M lst own isi rt mx) {idx len i : Nat} {x : Int} (hI : jx_lk lst pc = some (.putfield idx, len)) (hp : pc + len = pc') (hi : i < 13) (hf : jx_fld own idx 8 = some (2, 0)) (hok : (!(TX8 2).2.2.2 || (isi && Nat.beq 0 0 && decide ((TX8 2).1 = jx_cn own))) = true) (k : je sc d M pc' ls st (jh (jU m (jwa i) (ju (m (jwa i)) 2 x)) r T) Q) : je sc d M pc ls (.int (jI x) :: .ref (jwa i) :: st) (jh m r T) Q := by
  refine je_put hB hI hp (jh_walk hi) hf (r := (RX8, TX8, 3)) rfl ?_ rfl ?_
  · show (true && true && true && (!(TX8 2).2.2.2 || (isi && Nat.beq 0 0 && decide ((TX8 2).1 = jx_cn own))) && true) = true
    rw [hok]; rfl
  · show je sc d M pc' ls st ((jh m r T).set (jwa i) (8, [.ref (jws i), .ref (jwl i), .int (jI x)])) Q
    rw [jh_sete hi]
    exact k
theorem je_iastI (hB : jx_B M lst own isi rt mx) {len a n : Nat} {i v : Int} (hI : jx_lk lst pc = some (.iastore, len)) (hp : pc + len = pc') (ha : Nat.blt a 62 = true) (hj : ∀ f : Int → Int, jc a f (r a) = jA n f) (h0 : 0 ≤ i) (h1 : i < n) (h2 : i ≤ 2147483647) (k : je sc d M pc' ls st (jh (jU m a (ju (m a) i v)) r T) Q) : je sc d M pc ls (.int (jI v) :: .int (jI i) :: .ref a :: st) (jh m r T) Q := by
  refine je_iast hB hI hp (n := n) (f := m a) (by rw [jh_at ha, hj]) h0 h1 h2 ?_
  rw [← hj, jh_set ha]
  exact k
theorem je_ifnullN (hB : jx_B M lst own isi rt mx) {off : Int} {len : Nat} (hI : jx_lk lst pc = some (.ifnull off, len)) (ht : jx_tgt pc off = some t) (hp : pc + 3 = pc') (k : je sc d M t ls st σ Q) : je sc d M pc ls (.null :: st) σ Q :=
  je_br hB hI (b := true) (by simp only [jx_br, ht]) (fun _ => k) (fun h => by cases h)
theorem je_ifnullR (hB : jx_B M lst own isi rt mx) {off : Int} {len a : Nat} (hI : jx_lk lst pc = some (.ifnull off, len)) (ht : jx_tgt pc off = some t) (hp : pc + 3 = pc') (k : je sc d M pc' ls st σ Q) : je sc d M pc ls (.ref a :: st) σ Q := by
  subst hp
  exact je_br hB hI (b := false) (by simp only [jx_br, ht]) (fun h => by cases h) (fun _ => k) (t := t)
theorem je_ifnonnullN (hB : jx_B M lst own isi rt mx) {off : Int} {len : Nat} (hI : jx_lk lst pc = some (.ifnonnull off, len)) (ht : jx_tgt pc off = some t) (hp : pc + 3 = pc') (k : je sc d M pc' ls st σ Q) : je sc d M pc ls (.null :: st) σ Q := by
  subst hp
  exact je_br hB hI (b := false) (by simp only [jx_br, ht]) (fun h => by cases h) (fun _ => k) (t := t)
theorem je_ifnonnullR (hB : jx_B M lst own isi rt mx) {off : Int} {len a : Nat} (hI : jx_lk lst pc = some (.ifnonnull off, len)) (ht : jx_tgt pc off = some t) (hp : pc + 3 = pc') (k : je sc d M t ls st σ Q) : je sc d M pc ls (.ref a :: st) σ Q :=
  je_br hB hI (b := true) (by simp only [jx_br, ht]) (fun _ => k) (fun h => by cases h)
theorem je_retb (hB : jx_B M lst own isi (some .boolean) mx) {len : Nat} {b : Bool} (hI : jx_lk lst pc = some (.ireturn, len)) (k : Q (some (.int (jI (jb b)))) σ) : je sc d M pc ls [.int (jI (jb b))] σ Q :=
  je_ret hB hI (by cases b <;> rfl) k
theorem je_csP' (hB : jx_B M lst own isi rt mx) {I : Instr} {len M' : Nat} {rest : List Value} (hI : jx_lk lst pc = some (I, len)) (hp : pc + 3 = pc') (h : jx_inv own I st σ = some (M', av, rest)) {k0 : Nat} (hk0 : Nat.ble k0 d = true) {v : Option Value} {σ1 : jx_H} (hq : jq sc k0 M' av σ (jP v σ1)) (hst : v.toList ++ rest = st') (k : je sc d M pc' ls st' σ1 Q) : je sc d M pc ls st σ Q := by
  subst hst
  exact je_csP hB hI hp h hk0 hq k
theorem je_cvP' (hB : jx_B M lst own isi rt mx) {I : Instr} {len M' a : Nat} {rest : List Value} {cel : jx_C} (hI : jx_lk lst pc = some (I, len)) (hp : pc + 3 = pc') (hc : σ[a]? = some cel) (hiv : jx_iv own I st cel.1 = some (M', .ref a :: av, rest)) {k0 : Nat} (hk0 : Nat.ble k0 d = true) {v : Option Value} {σ1 : jx_H} (hq : jq sc k0 M' (.ref a :: av) σ (jP v σ1)) (hst : v.toList ++ rest = st') (k : je sc d M pc' ls st' σ1 Q) : je sc d M pc ls st σ Q := by
  subst hst
  exact je_cvP hB hI hp hc hiv hk0 hq k
/-- every int of the memory is an int -/
def jM (m : Nat → Int → Int) : Prop := ∀ (a : Nat) (k : Int), -2147483648 ≤ m a k ∧ m a k ≤ 2147483647
theorem jM.up {f : Int → Int} {a : Nat} (h : jM m) (hf : ∀ k, -2147483648 ≤ f k ∧ f k ≤ 2147483647) : jM (jU m a f) := by
  intro b k
  by_cases hb : b = a
  · subst hb
    rw [jU_same]
    exact hf k
  · rw [jU_ne hb]
    exact h b k
theorem jM.ju {a : Nat} {j x : Int} (h : jM m) (h1 : -2147483648 ≤ x) (h2 : x ≤ 2147483647) : jM (jU m a (ju (m a) j x)) := by
  refine h.up fun k => ?_
  by_cases hk : k = j
  · subst hk
    rw [ju_same]
    exact ⟨h1, h2⟩
  · rw [ju_ne hk]
    exact h a k
theorem je_loop {h : Nat} (I : Nat → List Value → jx_H → Prop) (N : Nat) {ls0 : List Value} {σ0 : jx_H} (h0 : I 0 ls0 σ0) (hb : ∀ i, i < N → ∀ ls σ, I i ls σ → (∀ ls' σ', I (i + 1) ls' σ' → je sc d M h ls' [] σ' Q) → je sc d M h ls [] σ Q) (he : ∀ ls σ, I N ls σ → je sc d M h ls [] σ Q) : je sc d M h ls0 [] σ0 Q := by
  have key : ∀ k i, i + k = N → ∀ ls σ, I i ls σ → je sc d M h ls [] σ Q := by
    intro k
    induction k with
    | zero =>
      intro i hi ls σ hI
      have e : i = N := by omega
      subst e
      exact he ls σ hI
    | succ k ih =>
      intro i hi ls σ hI
      exact hb i (by omega) ls σ hI (fun ls' σ' h' => ih (i + 1) (by omega) ls' σ' h')
  exact key N 0 (by omega) ls0 σ0 h0
theorem je_swc {x : Int} (k : ∀ y, y = x → je sc d M pc ls (.int (jI y) :: st) σ Q) : je sc d M pc ls (.int (jI x) :: st) σ Q := k x rfl
theorem je_swO (hB : jx_B M lst own isi rt mx) {dflt lo hi : Int} {offs : Array Int} {len : Nat} {x : Int} (hI : jx_lk lst pc = some (.tableswitch dflt lo hi offs, len)) (ht : jx_tgt pc dflt = some t) (h1 : -2147483648 ≤ x) (h2 : x ≤ 2147483647) (h : x < lo ∨ hi < x) (k : je sc d M t ls st σ Q) : je sc d M pc ls (.int (jI x) :: st) σ Q := by
  refine je_sw hB hI (t := t) (st' := st) ?_ k
  simp only [jx_sw, jI_int h1 h2, if_pos h, ht]
theorem jv_I {a b : Int} (h : a = b) : some (Value.int (jI a)) = some (Value.int (jI b)) := by rw [h]
theorem jv_t {b : Bool} (h : b = true) : some (Value.int (jI 1)) = some (Value.int (jI (jb b))) := by subst h; rfl
theorem jv_f {b : Bool} (h : b = false) : some (Value.int (jI 0)) = some (Value.int (jI (jb b))) := by subst h; rfl
theorem jh_eq {m m' : Nat → Int → Int} (h : m = m') : jh m r T = jh m' r T := by rw [h]
end JR2
