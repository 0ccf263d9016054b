/-! rules by the instruction, over whole numbers -/
section JR
variable {sc : Nat × (Nat → Int32)} {d M pc pc' t : Nat} {ls st ls' st' av : List Value} {σ : jx_H} {Q : Option Value → jx_H → Prop} {lst : List (Nat × Instr × Nat)} {own mx : Nat} {isi : Bool} {rt : Option FieldType}
theorem je_ifeq (hB : jx_B M lst own isi rt mx) {a : Int} {off : Int} {len : Nat} (hI : jx_lk lst pc = some (.ifCond .eq off, len)) (ht : jx_tgt pc off = some t) (hp : pc + 3 = pc') (h1 : -2147483648 ≤ a) (h2 : a ≤ 2147483647) (kt : a = 0 → je sc d M t ls st σ Q) (kf : a ≠ 0 → je sc d M pc' ls st σ Q) : je sc d M pc ls (.int (jI a) :: st) σ Q := by
  subst hp
  refine je_br hB hI (b := decide (jI a = (0 : Int32))) (by simp only [jx_br, ht]) (fun h => kt ?_) (fun h => kf ?_)
  · have h := of_decide_eq_true h; rw [jI_0] at h; exact (jI_eq h1 h2 (by decide) (by decide)).mp h
  · have h := of_decide_eq_false h; rw [jI_0] at h; exact fun z => h ((jI_eq h1 h2 (by decide) (by decide)).mpr z)
theorem je_icmpeq (hB : jx_B M lst own isi rt mx) {a b : Int} {off : Int} {len : Nat} (hI : jx_lk lst pc = some (.if_icmp .eq off, len)) (ht : jx_tgt pc off = some t) (hp : pc + 3 = pc') (h1 : -2147483648 ≤ a) (h2 : a ≤ 2147483647) (h3 : -2147483648 ≤ b) (h4 : b ≤ 2147483647) (kt : a = b → je sc d M t ls st σ Q) (kf : a ≠ b → je sc d M pc' ls st σ Q) : je sc d M pc ls (.int (jI b) :: .int (jI a) :: st) σ Q := by
  subst hp
  refine je_br hB hI (b := decide (jI a = jI b)) (by simp only [jx_br, ht]) (fun h => kt ?_) (fun h => kf ?_)
  · have h := of_decide_eq_true h; exact (jI_eq h1 h2 h3 h4).mp h
  · have h := of_decide_eq_false h; exact fun z => h ((jI_eq h1 h2 h3 h4).mpr z)
theorem je_ifne (hB : jx_B M lst own isi rt mx) {a : Int} {off : Int} {len : Nat} (hI : jx_lk lst pc = some (.ifCond .ne off, len)) (ht : jx_tgt pc off = some t) (hp : pc + 3 = pc') (h1 : -2147483648 ≤ a) (h2 : a ≤ 2147483647) (kt : a ≠ 0 → je sc d M t ls st σ Q) (kf : a = 0 → je sc d M pc' ls st σ Q) : je sc d M pc ls (.int (jI a) :: st) σ Q := by
  subst hp
  refine je_br hB hI (b := !decide (jI a = (0 : Int32))) (by simp only [jx_br, ht]) (fun h => kt ?_) (fun h => kf ?_)
  · have h := of_decide_eq_false (by simpa using h : decide (jI a = (0 : Int32)) = false); rw [jI_0] at h; exact fun z => h ((jI_eq h1 h2 (by decide) (by decide)).mpr z)
  · have h := of_decide_eq_true (by simpa using h : decide (jI a = (0 : Int32)) = true); rw [jI_0] at h; exact (jI_eq h1 h2 (by decide) (by decide)).mp h
theorem je_icmpne (hB : jx_B M lst own isi rt mx) {a b : Int} {off : Int} {len : Nat} (hI : jx_lk lst pc = some (.if_icmp .ne off, len)) (ht : jx_tgt pc off = some t) (hp : pc + 3 = pc') (h1 : -2147483648 ≤ a) (h2 : a ≤ 2147483647) (h3 : -2147483648 ≤ b) (h4 : b ≤ 2147483647) (kt : a ≠ b → je sc d M t ls st σ Q) (kf : a = b → je sc d M pc' ls st σ Q) : je sc d M pc ls (.int (jI b) :: .int (jI a) :: st) σ Q := by
  subst hp
  refine je_br hB hI (b := !decide (jI a = jI b)) (by simp only [jx_br, ht]) (fun h => kt ?_) (fun h => kf ?_)
  · have h := of_decide_eq_false (by simpa using h : decide (jI a = jI b) = false); exact fun z => h ((jI_eq h1 h2 h3 h4).mpr z)
  · have h := of_decide_eq_true (by simpa using h : decide (jI a = jI b) = true); exact (jI_eq h1 h2 h3 h4).mp h
theorem je_iflt (hB : jx_B M lst own isi rt mx) {a : Int} {off : Int} {len : Nat} (hI : jx_lk lst pc = some (.ifCond .lt off, len)) (ht : jx_tgt pc off = some t) (hp : pc + 3 = pc') (h1 : -2147483648 ≤ a) (h2 : a ≤ 2147483647) (kt : a < 0 → je sc d M t ls st σ Q) (kf : 0 ≤ a → je sc d M pc' ls st σ Q) : je sc d M pc ls (.int (jI a) :: st) σ Q := by
  subst hp
  refine je_br hB hI (b := decide (jI a < (0 : Int32))) (by simp only [jx_br, ht]) (fun h => kt ?_) (fun h => kf ?_)
  · have h := of_decide_eq_true h; rw [jI_0] at h; exact (jI_lt h1 h2 (by decide) (by decide)).mp h
  · have h := of_decide_eq_false h; rw [jI_0] at h; have h9 : ¬ (a < 0) := fun z => h ((jI_lt h1 h2 (by decide) (by decide)).mpr z); omega
theorem je_icmplt (hB : jx_B M lst own isi rt mx) {a b : Int} {off : Int} {len : Nat} (hI : jx_lk lst pc = some (.if_icmp .lt off, len)) (ht : jx_tgt pc off = some t) (hp : pc + 3 = pc') (h1 : -2147483648 ≤ a) (h2 : a ≤ 2147483647) (h3 : -2147483648 ≤ b) (h4 : b ≤ 2147483647) (kt : a < b → je sc d M t ls st σ Q) (kf : b ≤ a → je sc d M pc' ls st σ Q) : je sc d M pc ls (.int (jI b) :: .int (jI a) :: st) σ Q := by
  subst hp
  refine je_br hB hI (b := decide (jI a < jI b)) (by simp only [jx_br, ht]) (fun h => kt ?_) (fun h => kf ?_)
  · have h := of_decide_eq_true h; exact (jI_lt h1 h2 h3 h4).mp h
  · have h := of_decide_eq_false h; have h9 : ¬ (a < b) := fun z => h ((jI_lt h1 h2 h3 h4).mpr z); omega
theorem je_ifge (hB : jx_B M lst own isi rt mx) {a : Int} {off : Int} {len : Nat} (hI : jx_lk lst pc = some (.ifCond .ge off, len)) (ht : jx_tgt pc off = some t) (hp : pc + 3 = pc') (h1 : -2147483648 ≤ a) (h2 : a ≤ 2147483647) (kt : 0 ≤ a → je sc d M t ls st σ Q) (kf : a < 0 → je sc d M pc' ls st σ Q) : je sc d M pc ls (.int (jI a) :: st) σ Q := by
  subst hp
  refine je_br hB hI (b := decide ((0 : Int32) ≤ jI a)) (by simp only [jx_br, ht]) (fun h => kt ?_) (fun h => kf ?_)
  · have h := of_decide_eq_true h; rw [jI_0] at h; exact (jI_le (by decide) (by decide) h1 h2).mp h
  · have h := of_decide_eq_false h; rw [jI_0] at h; have h9 : ¬ (0 ≤ a) := fun z => h ((jI_le (by decide) (by decide) h1 h2).mpr z); omega
theorem je_icmpge (hB : jx_B M lst own isi rt mx) {a b : Int} {off : Int} {len : Nat} (hI : jx_lk lst pc = some (.if_icmp .ge off, len)) (ht : jx_tgt pc off = some t) (hp : pc + 3 = pc') (h1 : -2147483648 ≤ a) (h2 : a ≤ 2147483647) (h3 : -2147483648 ≤ b) (h4 : b ≤ 2147483647) (kt : b ≤ a → je sc d M t ls st σ Q) (kf : a < b → je sc d M pc' ls st σ Q) : je sc d M pc ls (.int (jI b) :: .int (jI a) :: st) σ Q := by
  subst hp
  refine je_br hB hI (b := decide (jI b ≤ jI a)) (by simp only [jx_br, ht]) (fun h => kt ?_) (fun h => kf ?_)
  · have h := of_decide_eq_true h; exact (jI_le h3 h4 h1 h2).mp h
  · have h := of_decide_eq_false h; have h9 : ¬ (b ≤ a) := fun z => h ((jI_le h3 h4 h1 h2).mpr z); omega
theorem je_ifgt (hB : jx_B M lst own isi rt mx) {a : Int} {off : Int} {len : Nat} (hI : jx_lk lst pc = some (.ifCond .gt off, len)) (ht : jx_tgt pc off = some t) (hp : pc + 3 = pc') (h1 : -2147483648 ≤ a) (h2 : a ≤ 2147483647) (kt : 0 < a → je sc d M t ls st σ Q) (kf : a ≤ 0 → je sc d M pc' ls st σ Q) : je sc d M pc ls (.int (jI a) :: st) σ Q := by
  subst hp
  refine je_br hB hI (b := decide ((0 : Int32) < jI a)) (by simp only [jx_br, ht]) (fun h => kt ?_) (fun h => kf ?_)
  · have h := of_decide_eq_true h; rw [jI_0] at h; exact (jI_lt (by decide) (by decide) h1 h2).mp h
  · have h := of_decide_eq_false h; rw [jI_0] at h; have h9 : ¬ (0 < a) := fun z => h ((jI_lt (by decide) (by decide) h1 h2).mpr z); omega
theorem je_icmpgt (hB : jx_B M lst own isi rt mx) {a b : Int} {off : Int} {len : Nat} (hI : jx_lk lst pc = some (.if_icmp .gt off, len)) (ht : jx_tgt pc off = some t) (hp : pc + 3 = pc') (h1 : -2147483648 ≤ a) (h2 : a ≤ 2147483647) (h3 : -2147483648 ≤ b) (h4 : b ≤ 2147483647) (kt : b < a → je sc d M t ls st σ Q) (kf : a ≤ b → je sc d M pc' ls st σ Q) : je sc d M pc ls (.int (jI b) :: .int (jI a) :: st) σ Q := by
  subst hp
  refine je_br hB hI (b := decide (jI b < jI a)) (by simp only [jx_br, ht]) (fun h => kt ?_) (fun h => kf ?_)
  · have h := of_decide_eq_true h; exact (jI_lt h3 h4 h1 h2).mp h
  · have h := of_decide_eq_false h; have h9 : ¬ (b < a) := fun z => h ((jI_lt h3 h4 h1 h2).mpr z); omega
theorem je_ifle (hB : jx_B M lst own isi rt mx) {a : Int} {off : Int} {len : Nat} (hI : jx_lk lst pc = some (.ifCond .le off, len)) (ht : jx_tgt pc off = some t) (hp : pc + 3 = pc') (h1 : -2147483648 ≤ a) (h2 : a ≤ 2147483647) (kt : a ≤ 0 → je sc d M t ls st σ Q) (kf : 0 < a → je sc d M pc' ls st σ Q) : je sc d M pc ls (.int (jI a) :: st) σ Q := by
  subst hp
  refine je_br hB hI (b := decide (jI a ≤ (0 : Int32))) (by simp only [jx_br, ht]) (fun h => kt ?_) (fun h => kf ?_)
  · have h := of_decide_eq_true h; rw [jI_0] at h; exact (jI_le h1 h2 (by decide) (by decide)).mp h
  · have h := of_decide_eq_false h; rw [jI_0] at h; have h9 : ¬ (a ≤ 0) := fun z => h ((jI_le h1 h2 (by decide) (by decide)).mpr z); omega
theorem je_icmple (hB : jx_B M lst own isi rt mx) {a b : Int} {off : Int} {len : Nat} (hI : jx_lk lst pc = some (.if_icmp .le off, len)) (ht : jx_tgt pc off = some t) (hp : pc + 3 = pc') (h1 : -2147483648 ≤ a) (h2 : a ≤ 2147483647) (h3 : -2147483648 ≤ b) (h4 : b ≤ 2147483647) (kt : a ≤ b → je sc d M t ls st σ Q) (kf : b < a → je sc d M pc' ls st σ Q) : je sc d M pc ls (.int (jI b) :: .int (jI a) :: st) σ Q := by
  subst hp
  refine je_br hB hI (b := decide (jI a ≤ jI b)) (by simp only [jx_br, ht]) (fun h => kt ?_) (fun h => kf ?_)
  · have h := of_decide_eq_true h; exact (jI_le h1 h2 h3 h4).mp h
  · have h := of_decide_eq_false h; have h9 : ¬ (a ≤ b) := fun z => h ((jI_le h1 h2 h3 h4).mpr z); omega
theorem je_ifeqb (hB : jx_B M lst own isi rt mx) {b : Bool} {off : Int} {len : Nat} (hI : jx_lk lst pc = some (.ifCond .eq off, len)) (ht : jx_tgt pc off = some t) (hp : pc + 3 = pc') (kt : b = false → je sc d M t ls st σ Q) (kf : b = true → je sc d M pc' ls st σ Q) : je sc d M pc ls (.int (jI (jb b)) :: st) σ Q := by
  cases b with
  | false => exact je_ifeq hB hI ht hp (by decide) (by decide) (fun h => kt rfl) (fun h => absurd h (by decide))
  | true => exact je_ifeq hB hI ht hp (by decide) (by decide) (fun h => absurd h (by decide)) (fun h => kf rfl)
theorem je_ifneb (hB : jx_B M lst own isi rt mx) {b : Bool} {off : Int} {len : Nat} (hI : jx_lk lst pc = some (.ifCond .ne off, len)) (ht : jx_tgt pc off = some t) (hp : pc + 3 = pc') (kt : b = true → je sc d M t ls st σ Q) (kf : b = false → je sc d M pc' ls st σ Q) : je sc d M pc ls (.int (jI (jb b)) :: st) σ Q := by
  cases b with
  | false => exact je_ifne hB hI ht hp (by decide) (by decide) (fun h => absurd h (by decide)) (fun h => kf rfl)
  | true => exact je_ifne hB hI ht hp (by decide) (by decide) (fun h => kt rfl) (fun h => absurd h (by decide))
theorem je_iadd (hB : jx_B M lst own isi rt mx) {a b : Int} {len : Nat} (hI : jx_lk lst pc = some (.iadd, len)) (hp : pc + 1 = pc') (k : je sc d M pc' ls (.int (jI (a + b)) :: st) σ Q) : je sc d M pc ls (.int (jI b) :: .int (jI a) :: st) σ Q := by
  subst hp
  refine je_p1 hB hI (pc' := pc + 1) (ls' := ls) (st' := .int (jI (a + b)) :: st) ?_ k
  rw [← jI_add]
  rfl
theorem je_isub (hB : jx_B M lst own isi rt mx) {a b : Int} {len : Nat} (hI : jx_lk lst pc = some (.isub, len)) (hp : pc + 1 = pc') (k : je sc d M pc' ls (.int (jI (a - b)) :: st) σ Q) : je sc d M pc ls (.int (jI b) :: .int (jI a) :: st) σ Q := by
  subst hp
  refine je_p1 hB hI (pc' := pc + 1) (ls' := ls) (st' := .int (jI (a - b)) :: st) ?_ k
  rw [← jI_sub]
  rfl
theorem je_imul (hB : jx_B M lst own isi rt mx) {a b : Int} {len : Nat} (hI : jx_lk lst pc = some (.imul, len)) (hp : pc + 1 = pc') (k : je sc d M pc' ls (.int (jI (a * b)) :: st) σ Q) : je sc d M pc ls (.int (jI b) :: .int (jI a) :: st) σ Q := by
  subst hp
  refine je_p1 hB hI (pc' := pc + 1) (ls' := ls) (st' := .int (jI (a * b)) :: st) ?_ k
  rw [← jI_mul]
  rfl
theorem je_ineg (hB : jx_B M lst own isi rt mx) {a : Int} {len : Nat} (hI : jx_lk lst pc = some (.ineg, len)) (hp : pc + 1 = pc') (k : je sc d M pc' ls (.int (jI (-a)) :: st) σ Q) : je sc d M pc ls (.int (jI a) :: st) σ Q := by
  subst hp
  refine je_p1 hB hI (pc' := pc + 1) (ls' := ls) (st' := .int (jI (-a)) :: st) ?_ k
  rw [← jI_neg]
  rfl
theorem je_iinc (hB : jx_B M lst own isi rt mx) {a n : Int} {i len : Nat} (hI : jx_lk lst pc = some (.iinc i n, len)) (hp : pc + 3 = pc') (hl : ls[i]? = some (.int (jI a))) (hs : jx_put ls i (.int (jI (a + n))) = some ls') (k : je sc d M pc' ls' st σ Q) : je sc d M pc ls st σ Q := by
  subst hp
  refine je_p1 hB hI (pc' := pc + 3) (ls' := ls') (st' := st) ?_ k
  rw [← jI_add] at hs
  simp only [jx_pure, hl, jx_sto, hs]
/-- division and rest of numbers that aren't negative -/
theorem jI_div {a b : Int} (h0 : 0 ≤ a) (h1 : a ≤ 2147483647) (h2 : 0 < b) (h3 : b ≤ 2147483647) : jI a / jI b = jI (a / b) := by
  apply Int32.toInt_inj.mp
  have e : a.tdiv b = a / b := Int.tdiv_eq_ediv_of_nonneg h0
  have l0 : 0 ≤ a / b := Int.ediv_nonneg h0 (by omega)
  have l1 : a / b ≤ a := Int.ediv_le_self b h0
  rw [Int32.toInt_div_of_ne_right _ _ (by
    intro h
    have := congrArg Int32.toInt h
    rw [jI_int (by omega) h3] at this
    have e1 : ((-1 : Int32)).toInt = -1 := by decide
    omega), jI_int (by omega) h1, jI_int (by omega) h3, e, jI_int (by omega) (by omega)]
theorem jI_rem {a b : Int} (h0 : 0 ≤ a) (h1 : a ≤ 2147483647) (h2 : 0 < b) (h3 : b ≤ 2147483647) : jI a - jI a / jI b * jI b = jI (a % b) := by
  rw [jI_div h0 h1 h2 h3, jI_mul, jI_sub]
  congr 1
  rw [Int.emod_def, Int.mul_comm]
theorem jI_ne0 {b : Int} (h2 : 0 < b) (h3 : b ≤ 2147483647) : ¬ jI b = 0 := by
  rw [jI_0, jI_eq (by omega) h3 (by decide) (by decide)]
  omega
theorem je_idiv (hB : jx_B M lst own isi rt mx) {a b : Int} {len : Nat} (hI : jx_lk lst pc = some (.idiv, len)) (hp : pc + 1 = pc') (h0 : 0 ≤ a) (h1 : a ≤ 2147483647) (h2 : 0 < b) (h3 : b ≤ 2147483647) (k : je sc d M pc' ls (.int (jI (a / b)) :: st) σ Q) : je sc d M pc ls (.int (jI b) :: .int (jI a) :: st) σ Q := by
  subst hp
  refine je_p1 hB hI (pc' := pc + 1) (ls' := ls) (st' := .int (jI (a / b)) :: st) ?_ k
  rw [← jI_div h0 h1 h2 h3]
  simp only [jx_pure, if_neg (jI_ne0 h2 h3)]
theorem je_irem (hB : jx_B M lst own isi rt mx) {a b : Int} {len : Nat} (hI : jx_lk lst pc = some (.irem, len)) (hp : pc + 1 = pc') (h0 : 0 ≤ a) (h1 : a ≤ 2147483647) (h2 : 0 < b) (h3 : b ≤ 2147483647) (k : je sc d M pc' ls (.int (jI (a % b)) :: st) σ Q) : je sc d M pc ls (.int (jI b) :: .int (jI a) :: st) σ Q := by
  subst hp
  refine je_p1 hB hI (pc' := pc + 1) (ls' := ls) (st' := .int (jI (a % b)) :: st) ?_ k
  rw [← jI_rem h0 h1 h2 h3]
  simp only [jx_pure, if_neg (jI_ne0 h2 h3)]
/-! fields -/
theorem je_get (hB : jx_B M lst own isi rt mx) {idx len a : Nat} {cel : jx_C} {q : Nat × Nat} {v : Value} (hI : jx_lk lst pc = some (.getfield idx, len)) (hp : pc + len = pc') (hc : σ[a]? = some cel) (hf : jx_fld own idx cel.1 = some q) (hv : cel.2[q.1]? = some v) (k : je sc d M pc' ls (v :: st) σ Q) : je sc d M pc ls (.ref a :: st) σ Q :=
  je_mem hB hI hp (σ1 := σ) (st' := v :: st) (by simp only [jx_mem, hc, hf, hv]) k
theorem je_put (hB : jx_B M lst own isi rt mx) {idx len a : Nat} {cel : jx_C} {q : Nat × Nat} {r : vw_C} {v : Value} {vs : List Value} (hI : jx_lk lst pc = some (.putfield idx, len)) (hp : pc + len = pc') (hc : σ[a]? = some cel) (hf : jx_fld own idx cel.1 = some q) (hr : jx_cl[cel.1]? = some r)
    (hok : (jx_fit ((jx_tyf.getD cel.1 (fun _ => .int)) q.1) v && decide (q.1 < cel.2.length) && decide (cel.1 < 100) && (!(r.2.1 q.1).2.2.2 || (isi && Nat.beq q.2 0 && decide ((r.2.1 q.1).1 = jx_cn own))) && (Nat.beq q.2 0 || Nat.beq q.2 1)) = true) (hvs : cel.2.set q.1 v = vs) (k : je sc d M pc' ls st (σ.set a (cel.1, vs)) Q) : je sc d M pc ls (v :: .ref a :: st) σ Q := by
  subst hvs
  exact je_mem hB hI hp (σ1 := σ.set a (cel.1, cel.2.set q.1 v)) (st' := st) (by simp only [jx_mem, hc, hf, hr, hok, cond_true]) k
/-! rows -/
theorem jx_ix_I {i : Int} {n : Nat} (h0 : 0 ≤ i) (h1 : i < n) (h2 : i ≤ 2147483647) : jx_ix (jI i) n = true := by
  unfold jx_ix
  rw [jI_int (by omega) h2]
  simp [h0, h1]
theorem je_alen (hB : jx_B M lst own isi rt mx) {len a n : Nat} {f : Int → Int} (hI : jx_lk lst pc = some (.arraylength, len)) (hp : pc + len = pc') (hc : σ[a]? = some (jA n f)) (k : je sc d M pc' ls (.int (jI n) :: st) σ Q) : je sc d M pc ls (.ref a :: st) σ Q := by
  refine je_mem hB hI hp (σ1 := σ) (st' := .int (jI n) :: st) ?_ k
  have : Int32.ofNat (jA n f).2.length = jI n := by rw [jA_len]; exact (Int32.ofInt_eq_ofNat).symm
  simp only [jx_mem, hc]
  rw [this]
  rfl
theorem je_alenr (hB : jx_B M lst own isi rt mx) {len a n tag : Nat} {vs : List Value} (hI : jx_lk lst pc = some (.arraylength, len)) (hp : pc + len = pc') (hc : σ[a]? = some (tag, vs)) (ht : (Nat.blt 99 tag && Nat.blt tag 105) = true) (hn : vs.length = n) (k : je sc d M pc' ls (.int (jI n) :: st) σ Q) : je sc d M pc ls (.ref a :: st) σ Q := by
  refine je_mem hB hI hp (σ1 := σ) (st' := .int (jI n) :: st) ?_ k
  subst hn
  have : Int32.ofNat vs.length = jI vs.length := (Int32.ofInt_eq_ofNat).symm
  simp only [jx_mem, hc, ht, cond_true, this]
theorem je_iald (hB : jx_B M lst own isi rt mx) {len a n : Nat} {f : Int → Int} {i : Int} (hI : jx_lk lst pc = some (.iaload, len)) (hp : pc + len = pc') (hc : σ[a]? = some (jA n f)) (h0 : 0 ≤ i) (h1 : i < n) (h2 : i ≤ 2147483647) (k : je sc d M pc' ls (.int (jI (f i)) :: st) σ Q) : je sc d M pc ls (.int (jI i) :: .ref a :: st) σ Q := by
  refine je_mem hB hI hp (σ1 := σ) (st' := .int (jI (f i)) :: st) ?_ k
  have e1 : (jI i).toInt = i := jI_int (by omega) h2
  have e2 : (Nat.beq (jA n f).1 100 && jx_ix (jI i) (jA n f).2.length) = true := by rw [jA_len, jx_ix_I h0 h1 h2]; rfl
  simp only [jx_mem, hc, e2, cond_true, e1, jA_get h0 h1]
theorem je_iast (hB : jx_B M lst own isi rt mx) {len a n : Nat} {f : Int → Int} {i v : Int} (hI : jx_lk lst pc = some (.iastore, len)) (hp : pc + len = pc') (hc : σ[a]? = some (jA n f)) (h0 : 0 ≤ i) (h1 : i < n) (h2 : i ≤ 2147483647) (k : je sc d M pc' ls st (σ.set a (jA n (ju f i v))) Q) : je sc d M pc ls (.int (jI v) :: .int (jI i) :: .ref a :: st) σ Q := by
  refine je_mem hB hI hp (σ1 := σ.set a (jA n (ju f i v))) (st' := st) ?_ k
  have e1 : (jI i).toInt = i := jI_int (by omega) h2
  have e2 : (Nat.beq (jA n f).1 100 && jx_ix (jI i) (jA n f).2.length) = true := by rw [jA_len, jx_ix_I h0 h1 h2]; rfl
  simp only [jx_mem, hc, e2, cond_true, e1, jA_set h0 h1]
  rfl
theorem je_aald (hB : jx_B M lst own isi rt mx) {len a tag : Nat} {vs : List Value} {i : Int} {v : Value} (hI : jx_lk lst pc = some (.aaload, len)) (hp : pc + len = pc') (hc : σ[a]? = some (tag, vs)) (ht : (Nat.blt 101 tag && Nat.blt tag 105) = true) (h0 : 0 ≤ i) (h1 : i < vs.length) (h2 : i ≤ 2147483647) (hv : vs[i.toNat]? = some v) (k : je sc d M pc' ls (v :: st) σ Q) : je sc d M pc ls (.int (jI i) :: .ref a :: st) σ Q := by
  refine je_mem hB hI hp (σ1 := σ) (st' := v :: st) ?_ k
  have e1 : (jI i).toInt = i := jI_int (by omega) h2
  simp only [jx_mem, hc, ht, Bool.true_and, jx_ix_I h0 h1 h2, cond_true, e1, hv]
/-! calls: the receiver's class told by its number -/
def jx_iv (own : Nat) (I : Instr) (st : List Value) (tag : Nat) : Option (Nat × List Value × List Value) :=
  match I with
  | .invokespecial idx => (match (jx_il.getD own []).find? (fun e => Nat.beq e.1 idx) with
    | none => none
    | some e0 => (match jx_ms[e0.2.2.2.1]? with
      | none => none
      | some q => (match st.drop q.2.2.2.2.1 with
        | .ref a :: rest => (match (jx_il.getD own []).find? (fun e => Nat.beq e.1 idx && (Nat.beq e.2.1 tag || Nat.beq e.2.1 200)) with
          | none => none
          | some e => bif Nat.beq e.2.2.2.1 e0.2.2.2.1 && Nat.beq (st.take q.2.2.2.2.1).length q.2.2.2.2.1 && (Nat.beq e.2.2.1 3 || Nat.beq e.2.2.1 4 || Nat.beq e.2.2.1 7) && Nat.blt tag 100 && Nat.ble (jx_sl rest) 8 then some (e.2.2.2.1, .ref a :: (st.take q.2.2.2.2.1).reverse, rest) else none)
        | _ => none)))
  | .invokevirtual idx => (match (jx_il.getD own []).find? (fun e => Nat.beq e.1 idx) with
    | none => none
    | some e0 => (match jx_ms[e0.2.2.2.1]? with
      | none => none
      | some q0 => (match st.drop q0.2.2.2.2.1 with
        | .ref a :: rest => (match (jx_il.getD own []).find? (fun e => Nat.beq e.1 idx && Nat.beq e.2.1 tag) with
          | none => none
          | some e => (match jx_ms[e.2.2.2.1]? with
            | none => none
            | some q => bif Nat.beq q.2.2.2.2.1 q0.2.2.2.2.1 && Nat.beq (st.take q0.2.2.2.2.1).length q0.2.2.2.2.1 && (Nat.beq e.2.2.1 0 || Nat.beq e.2.2.1 6) && Nat.blt tag 100 && Nat.ble (jx_sl rest) 8 then some (e.2.2.2.1, .ref a :: (st.take q0.2.2.2.2.1).reverse, rest) else none))
        | _ => none)))
  | _ => none
theorem jx_iv_inv {I : Instr} {tag M' a : Nat} {av rest : List Value} {cel : jx_C} (h : jx_iv own I st tag = some (M', .ref a :: av, rest)) (hc : σ[a]? = some cel) (ht : cel.1 = tag) : jx_inv own I st σ = some (M', .ref a :: av, rest) := by
  subst ht
  unfold jx_iv at h
  split at h
  · split at h
    · cases h
    · rename_i idx e0 he0
      split at h
      · cases h
      · rename_i q hq
        split at h
        · rename_i a' rest' hd
          split at h
          · cases h
          · rename_i e he
            obtain ⟨h1, h2⟩ := jx_bif h
            cases h2
            simp only [jx_inv, he0, hq, hd, hc, he, h1, cond_true]
        · cases h
  · split at h
    · cases h
    · rename_i idx e0 he0
      split at h
      · cases h
      · rename_i q0 hq0
        split at h
        · rename_i a' rest' hd
          split at h
          · cases h
          · rename_i e he
            split at h
            · cases h
            · rename_i q hq
              obtain ⟨h1, h2⟩ := jx_bif h
              cases h2
              simp only [jx_inv, he0, hq0, hd, hc, he, hq, h1, cond_true]
        · cases h
  · cases h
/-- a call on a receiver; what it answers and the heap are told exactly -/
theorem je_cv (hB : jx_B M lst own isi rt mx) {I : Instr} {len M' a : Nat} {rest : List Value} {cel : jx_C} (hI : jx_lk lst pc = some (I, len)) (hp : pc + 3 = pc') (hc : σ[a]? = some cel) (hiv : jx_iv own I st cel.1 = some (M', .ref a :: av, rest)) {k0 : Nat} (hk0 : Nat.ble k0 d = true) {Q' : Option Value → jx_H → Prop} (hq : jq sc k0 M' (.ref a :: av) σ Q') (k : ∀ v σ1, Q' v σ1 → je sc d M pc' ls (v.toList ++ rest) σ1 Q) : je sc d M pc ls st σ Q :=
  je_inv hB hI hp (jx_iv_inv hiv hc rfl) hk0 hq k
/-- exactly this answer and this heap -/
def jP (v : Option Value) (σ : jx_H) : Option Value → jx_H → Prop := fun v' σ' => v' = v ∧ σ' = σ
theorem je_cvP (hB : jx_B M lst own isi rt mx) {I : Instr} {len M' a : Nat} {rest : List Value} {cel : jx_C} (hI : jx_lk lst pc = some (I, len)) (hp : pc + 3 = pc') (hc : σ[a]? = some cel) (hiv : jx_iv own I st cel.1 = some (M', .ref a :: av, rest)) {k0 : Nat} (hk0 : Nat.ble k0 d = true) {v : Option Value} {σ1 : jx_H} (hq : jq sc k0 M' (.ref a :: av) σ (jP v σ1)) (k : je sc d M pc' ls (v.toList ++ rest) σ1 Q) : je sc d M pc ls st σ Q :=
  je_cv hB hI hp hc hiv hk0 hq (fun v' σ' h => by obtain ⟨rfl, rfl⟩ := h; exact k)
theorem je_csP (hB : jx_B M lst own isi rt mx) {I : Instr} {len M' : Nat} {rest : List Value} (hI : jx_lk lst pc = some (I, len)) (hp : pc + 3 = pc') (h : jx_inv own I st σ = some (M', av, rest)) {k0 : Nat} (hk0 : Nat.ble k0 d = true) {v : Option Value} {σ1 : jx_H} (hq : jq sc k0 M' av σ (jP v σ1)) (k : je sc d M pc' ls (v.toList ++ rest) σ1 Q) : je sc d M pc ls st σ Q :=
  je_inv hB hI hp h hk0 hq (fun v' σ' h => by obtain ⟨rfl, rfl⟩ := h; exact k)
theorem je_retP (hB : jx_B M lst own isi rt mx) {q : Instr × Nat} (hI : jx_lk lst pc = some q) {v : Option Value} (h : jx_ret rt q.1 st = some v) : je sc d M pc ls st σ (jP v σ) := je_ret hB hI h ⟨rfl, rfl⟩
/-! Math -/
theorem je_max (hB : jx_B M lst own isi rt mx) {idx len : Nat} {a b : Int} {ps : List Nat} (hI : jx_lk lst pc = some (.invokestatic idx, len)) (hp : pc + len = pc') (hm : jx_lk (jx_ml.getD own []) idx = some (0, ps)) (hs : Nat.ble (jx_sl (.int (jI a) :: st)) 20 = true) (h1 : -2147483648 ≤ a) (h2 : a ≤ 2147483647) (h3 : -2147483648 ≤ b) (h4 : b ≤ 2147483647) (k : je sc d M pc' ls (.int (jI (max a b)) :: st) σ Q) : je sc d M pc ls (.int (jI b) :: .int (jI a) :: st) σ Q := by
  refine je_mem hB hI hp (σ1 := σ) (st' := .int (jI (max a b)) :: st) ?_ k
  have e : (if jI a < jI b then jI b else jI a) = jI (max a b) := by
    by_cases h : a < b
    · rw [if_pos ((jI_lt h1 h2 h3 h4).mpr h), Int.max_eq_right (by omega)]
    · rw [if_neg (fun z => h ((jI_lt h1 h2 h3 h4).mp z)), Int.max_eq_left (by omega)]
  simp only [jx_mem, hm, hs, Bool.not_true, cond_false, jx_mth, e]
theorem je_min (hB : jx_B M lst own isi rt mx) {idx len : Nat} {a b : Int} {ps : List Nat} (hI : jx_lk lst pc = some (.invokestatic idx, len)) (hp : pc + len = pc') (hm : jx_lk (jx_ml.getD own []) idx = some (1, ps)) (hs : Nat.ble (jx_sl (.int (jI a) :: st)) 20 = true) (h1 : -2147483648 ≤ a) (h2 : a ≤ 2147483647) (h3 : -2147483648 ≤ b) (h4 : b ≤ 2147483647) (k : je sc d M pc' ls (.int (jI (min a b)) :: st) σ Q) : je sc d M pc ls (.int (jI b) :: .int (jI a) :: st) σ Q := by
  refine je_mem hB hI hp (σ1 := σ) (st' := .int (jI (min a b)) :: st) ?_ k
  have e : (if jI b < jI a then jI b else jI a) = jI (min a b) := by
    by_cases h : b < a
    · rw [if_pos ((jI_lt h3 h4 h1 h2).mpr h), Int.min_eq_right (by omega)]
    · rw [if_neg (fun z => h ((jI_lt h3 h4 h1 h2).mp z)), Int.min_eq_left (by omega)]
  simp only [jx_mem, hm, hs, Bool.not_true, cond_false, jx_mth, e]
def jabs (a : Int) : Int := if 0 ≤ a then a else -a
theorem je_abs (hB : jx_B M lst own isi rt mx) {idx len : Nat} {a : Int} {ps : List Nat} (hI : jx_lk lst pc = some (.invokestatic idx, len)) (hp : pc + len = pc') (hm : jx_lk (jx_ml.getD own []) idx = some (2, ps)) (hs : Nat.ble (jx_sl st) 20 = true) (h1 : -2147483648 ≤ a) (h2 : a ≤ 2147483647) (k : je sc d M pc' ls (.int (jI (jabs a)) :: st) σ Q) : je sc d M pc ls (.int (jI a) :: st) σ Q := by
  refine je_mem hB hI hp (σ1 := σ) (st' := .int (jI (jabs a)) :: st) ?_ k
  have e : (if (0 : Int32) ≤ jI a then jI a else 0 - jI a) = jI (jabs a) := by
    unfold jabs
    rw [jI_0]
    by_cases h : 0 ≤ a
    · rw [if_pos ((jI_le (by decide) (by decide) h1 h2).mpr h), if_pos h]
    · rw [if_neg (fun z => h ((jI_le (by decide) (by decide) h1 h2).mp z)), if_neg h, jI_sub]
      congr 1
      omega
  simp only [jx_mem, hm, hs, Bool.not_true, cond_false, jx_mth, e]

end JR
