/-! WHAT STARTS BOTH SIDES, run by the kernel -/
section C80
/-- no row that stands before is asked for -/
def jg : List Value → Bool
  | .retAddr _ :: _ => false
  | _ :: .retAddr _ :: _ => false
  | _ => true
def jz0 : Nat × (Nat → Int32) := (0, fun _ => 0)
theorem jx_mem_g {sc : Nat × (Nat → Int32)} {own : Nat} {isi : Bool} {I : Instr} {st : List Value} {σ : jx_H} (h : jg st = true) : jx_mem sc own isi I st σ = jx_mem jz0 own isi I st σ := by
  unfold jx_mem
  split <;> first | rfl | (cases h)
def jv_run (cal : Nat → List Value → jx_H → Option (Option Value × jx_H)) : Nat → Nat → Nat → List Value → List Value → jx_H → Option (Option Value × jx_H)
  | 0, _, _, _, _, _ => none
  | n + 1, M, pc, ls, st, σ => match jx_code M pc with
    | none => none
    | some q => match jx_pure (jx_own M) q.1 pc ls st with
      | some c => jv_run cal n M c.1 c.2.1 c.2.2 σ
      | none => match jx_br q.1 pc st with
        | some b => jv_run cal n M (bif b.1 then b.2.1 else pc + 3) ls b.2.2 σ
        | none => match (bif jg st then jx_mem jz0 (jx_own M) (jx_isi M) q.1 st σ else none) with
          | some c => jv_run cal n M (pc + q.2) ls c.1 c.2
          | none => match jx_inv (jx_own M) q.1 st σ with
            | some c => (match cal c.1 c.2.1 σ with
              | none => none
              | some x => jv_run cal n M (pc + 3) ls (x.1.toList ++ c.2.2) x.2)
            | none => match jx_ret (jx_rt M) q.1 st with
              | some r => some (r, σ)
              | none => none
def jv_call (f : Nat) : Nat → Nat → List Value → jx_H → Option (Option Value × jx_H)
  | 0, _, _, _ => none
  | d + 1, M, args, σ => bif Nat.ble (jx_lay args).length (jx_mx M) then jv_run (jv_call f d) f M 0 (jx_entry (jx_mx M) args) [] σ else none
theorem jv_run_ok {sc : Nat × (Nat → Int32)} {cal : Nat → List Value → jx_H → Option (Option Value × jx_H)} {cal' : Nat → List Value → jx_H → Option Value → jx_H → Prop} (hc : ∀ M av σ x, cal M av σ = some x → cal' M av σ x.1 x.2) : ∀ (n M pc : Nat) (ls st : List Value) (σ : jx_H) (x : Option Value × jx_H), jv_run cal n M pc ls st σ = some x → jx_run sc cal' n M pc ls st σ x.1 x.2
  | 0, _, _, _, _, _, _, h => by cases h
  | n + 1, M, pc, ls, st, σ, x, h => by
    have ih := jv_run_ok (sc := sc) hc n
    unfold jv_run at h
    unfold jx_run
    cases e0 : jx_code M pc with
    | none => rw [e0] at h; cases h
    | some q =>
      rw [e0] at h
      dsimp only at h
      refine ⟨q.1, q.2, rfl, ?_⟩
      cases e1 : jx_pure (jx_own M) q.1 pc ls st with
      | some c =>
        rw [e1] at h
        exact Or.inl ⟨c, rfl, ih _ _ _ _ _ _ h⟩
      | none =>
        rw [e1] at h
        dsimp only at h
        cases e2 : jx_br q.1 pc st with
        | some b =>
          rw [e2] at h
          exact Or.inr (Or.inl ⟨b, rfl, ih _ _ _ _ _ _ h⟩)
        | none =>
          rw [e2] at h
          dsimp only at h
          cases e3 : (bif jg st then jx_mem jz0 (jx_own M) (jx_isi M) q.1 st σ else none) with
          | some c =>
            rw [e3] at h
            have hg : jg st = true := by
              cases hg : jg st with
              | true => rfl
              | false => rw [hg] at e3; cases e3
            rw [hg] at e3
            exact Or.inr (Or.inr (Or.inr (Or.inl ⟨c, by rw [jx_mem_g hg]; exact e3, ih _ _ _ _ _ _ h⟩)))
          | none =>
            rw [e3] at h
            dsimp only at h
            cases e4 : jx_inv (jx_own M) q.1 st σ with
            | some c =>
              rw [e4] at h
              dsimp only at h
              cases e5 : cal c.1 c.2.1 σ with
              | none => rw [e5] at h; cases h
              | some y =>
                rw [e5] at h
                exact Or.inr (Or.inr (Or.inr (Or.inr (Or.inl ⟨c, y.1, y.2, rfl, hc _ _ _ _ e5, ih _ _ _ _ _ _ h⟩))))
            | none =>
              rw [e4] at h
              dsimp only at h
              cases e6 : jx_ret (jx_rt M) q.1 st with
              | none => rw [e6] at h; cases h
              | some r =>
                rw [e6] at h
                cases h
                exact Or.inr (Or.inr (Or.inr (Or.inr (Or.inr ⟨rfl, rfl⟩))))
theorem jv_call_ok {sc : Nat × (Nat → Int32)} {f : Nat} : ∀ (d M : Nat) (av : List Value) (σ : jx_H) (x : Option Value × jx_H), jv_call f d M av σ = some x → jx_call sc d M av σ x.1 x.2
  | 0, _, _, _, _, h => by cases h
  | d + 1, M, av, σ, x, h => by
    unfold jv_call at h
    cases e : Nat.ble (jx_lay av).length (jx_mx M) with
    | false => rw [e] at h; cases h
    | true =>
      rw [e] at h
      exact ⟨Nat.le_of_ble_eq_true e, f, jv_run_ok (fun M av σ x h => jv_call_ok d M av σ x h) f M 0 _ _ _ _ h⟩
def m0 (b : Nat) (j : Int) : Int := match b with
  | 2 => if j = 1 then 25 else if j = 2 then 2 else 0
  | 20 => if j = 1 then 25 else if j = 2 then 2 else 0
  | 45 => if j = 2 then 25 else if j = 3 then -12 else if j = 4 then 2 else 0
  | 56 => -1
  | _ => 0
def r0 : Nat → Nat → Value := fun _ _ => .null
def h43 : jx_H := (jh m0 r0 []).take 45
def h0a : jx_H := [(11, jx_new 11 8)]
def h0b : jx_H := h43 ++ [(12, jx_new 12 35)]
def jbq (x : Option (Option Value × jx_H)) (σ : jx_H) : Bool := match x with
  | some (none, s) => decide (s = σ)
  | _ => false
theorem jbq_ok {x : Option (Option Value × jx_H)} {σ : jx_H} (h : jbq x σ = true) : x = some (none, σ) := by
  match x, h with
  | some (none, s), h => rw [of_decide_eq_true h]
theorem start_1 : jbq (jv_call 1000 10 jm_X11_init [.ref 0] h0a) h43 = true := by decide +kernel
theorem start_2 : jbq (jv_call 1000 10 jm_X12_init [.ref 45] h0b) (jh m0 r0 []) = true := by decide +kernel
variable {sc : Nat × (Nat → Int32)}
theorem k_init1 : jq sc 10 jm_X11_init [.ref 0] h0a (jP none h43) := ⟨none, h43, jv_call_ok _ _ _ _ (none, h43) (jbq_ok start_1), rfl, rfl⟩
theorem k_init2 : jq sc 10 jm_X12_init [.ref 45] h0b (jP none (jh m0 r0 [])) := ⟨none, _, jv_call_ok _ _ _ _ (none, jh m0 r0 []) (jbq_ok start_2), rfl, rfl⟩
end C80
