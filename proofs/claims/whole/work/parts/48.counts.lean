/-! SPHERES: numbers that differ, counted -/
section C48
def ins (acc : List Int) (x : Int) : List Int := if x ∈ acc then acc else acc ++ [x]
theorem ins_mem {acc : List Int} {x y : Int} : y ∈ ins acc x ↔ y ∈ acc ∨ y = x := by
  unfold ins
  split
  · rename_i h
    constructor
    · exact Or.inl
    · rintro (q | q)
      · exact q
      · subst q; exact h
  · rw [List.mem_append, List.mem_singleton]
theorem ins_nodup {acc : List Int} {x : Int} (h : acc.Nodup) : (ins acc x).Nodup := by
  unfold ins
  split
  · exact h
  · rename_i hx
    rw [List.nodup_append]
    refine ⟨h, by simp, fun a ha b hb e => ?_⟩
    rw [List.mem_singleton] at hb
    subst hb; subst e
    exact hx ha
theorem ins_len (acc : List Int) (x : Int) : (ins acc x).length ≤ acc.length + 1 := by
  unfold ins
  split
  · omega
  · simp
theorem nb_mem {y : Int} : ∀ (l acc : List Int), y ∈ l.foldl ins acc ↔ y ∈ acc ∨ y ∈ l
  | [], acc => by simp
  | x :: l, acc => by
    show y ∈ l.foldl ins (ins acc x) ↔ _
    rw [nb_mem l, ins_mem, List.mem_cons]
    constructor
    · rintro ((h | h) | h)
      · exact Or.inl h
      · exact Or.inr (Or.inl h)
      · exact Or.inr (Or.inr h)
    · rintro (h | h | h)
      · exact Or.inl (Or.inl h)
      · exact Or.inl (Or.inr h)
      · exact Or.inr h
theorem nb_nodup : ∀ (l acc : List Int), acc.Nodup → (l.foldl ins acc).Nodup
  | [], _, h => h
  | x :: l, acc, h => nb_nodup l (ins acc x) (ins_nodup h)
theorem sub_len : ∀ (l1 l2 : List Int), l1.Nodup → (∀ x, x ∈ l1 → x ∈ l2) → l1.length ≤ l2.length
  | [], _, _, _ => Nat.zero_le _
  | x :: l, l2, h, hs => by
    rw [List.nodup_cons] at h
    have hx := hs x List.mem_cons_self
    have ih := sub_len l (l2.erase x) h.2 (fun y hy => (List.mem_erase_of_ne (a := y) (b := x) (fun e => h.1 (by subst e; exact hy))).mpr (hs y (List.mem_cons_of_mem _ hy)))
    rw [List.length_erase_of_mem hx] at ih
    have : 0 < l2.length := List.length_pos_of_mem hx
    rw [List.length_cons]
    omega
theorem nb_same {a b : List Int} (h : ∀ x, x ∈ a ↔ x ∈ b) : (a.foldl ins []).length = (b.foldl ins []).length := by
  have h1 := sub_len (a.foldl ins []) (b.foldl ins []) (nb_nodup a [] List.nodup_nil) (fun x hx => by
    rw [nb_mem] at hx ⊢
    rcases hx with hx | hx
    · exact Or.inl hx
    · exact Or.inr ((h x).mp hx))
  have h2 := sub_len (b.foldl ins []) (a.foldl ins []) (nb_nodup b [] List.nodup_nil) (fun x hx => by
    rw [nb_mem] at hx ⊢
    rcases hx with hx | hx
    · exact Or.inl hx
    · exact Or.inr ((h x).mpr hx))
  omega
theorem nb_two {f g : Nat → Int} (h : ∀ v w, f v = f w ↔ g v = g w) : ∀ (V : List Nat) (a b : List Int), a.length = b.length → (∀ v, f v ∈ a ↔ g v ∈ b) → ((V.map f).foldl ins a).length = ((V.map g).foldl ins b).length
  | [], _, _, hl, _ => hl
  | x :: V, a, b, hl, hm => by
    show ((V.map f).foldl ins (ins a (f x))).length = ((V.map g).foldl ins (ins b (g x))).length
    refine nb_two h V _ _ ?_ (fun v => ?_)
    · unfold ins
      by_cases c : f x ∈ a
      · rw [if_pos c, if_pos ((hm x).mp c)]
        exact hl
      · rw [if_neg c, if_neg (fun q => c ((hm x).mpr q)), List.length_append, List.length_append, hl]
        rfl
    · rw [ins_mem, ins_mem, hm v, h v x]
/-- the row that holds them -/
def Rep (q : (Int → Int) × Int) (acc : List Int) : Prop := q.2 = acc.length ∧ ∀ j : Nat, j < acc.length → acc[j]? = some (q.1 (j : Int))
theorem Rep.mem {q : (Int → Int) × Int} {acc : List Int} (R : Rep q acc) {x : Int} : fAny (fun p => decide (q.1 (p : Int) = x)) q.2.toNat = true ↔ x ∈ acc := by
  rw [List.mem_iff_getElem?]
  unfold fAny
  rw [List.any_eq_true]
  have e := R.1
  constructor
  · rintro ⟨p, h1, h2⟩
    have h1 := List.mem_range.mp h1
    have h2 := of_decide_eq_true h2
    exact ⟨p, by rw [R.2 p (by omega), h2]⟩
  · rintro ⟨p, h1⟩
    have hp : p < acc.length := (List.getElem?_eq_some_iff.mp h1).1
    rw [R.2 p hp] at h1
    exact ⟨p, List.mem_range.mpr (by omega), decide_eq_true (Option.some.inj h1)⟩
theorem Rep.add {q : (Int → Int) × Int} {acc : List Int} (R : Rep q acc) (x : Int) : Rep (ju q.1 q.2 x, q.2 + 1) (acc ++ [x]) := by
  have e := R.1
  refine ⟨by show q.2 + 1 = _; rw [List.length_append, List.length_singleton]; omega, fun j hj => ?_⟩
  rw [List.length_append, List.length_singleton] at hj
  show _ = some (ju q.1 q.2 x (j : Int))
  by_cases c : j = acc.length
  · subst c
    rw [List.getElem?_concat_length, e, ju_same]
  · rw [List.getElem?_append_left (by omega), R.2 j (by omega), ju_ne (by omega)]
theorem fRO_rep {q : (Int → Int) × Int} {acc : List Int} (R : Rep q acc) (hl : acc.length < 324) (x : Int) : Rep (fRO q x) (ins acc x) := by
  have e := R.1
  unfold fRO ins
  by_cases c : x ∈ acc
  · rw [if_pos (R.mem.mpr c), if_pos c]
    exact R
  · rw [if_neg (fun h => c (R.mem.mp h)), if_neg c]
    unfold fRA
    rw [if_pos (by omega)]
    exact R.add x
theorem fRO_fold : ∀ (l : List Int) (q : (Int → Int) × Int) (acc : List Int), Rep q acc → acc.length + l.length ≤ 324 → Rep (l.foldl fRO q) (l.foldl ins acc)
  | [], _, _, R, _ => R
  | x :: l, q, acc, R, h => by
    rw [List.length_cons] at h
    have := ins_len acc x
    exact fRO_fold l (fRO q x) (ins acc x) (fRO_rep R (by omega) x) (by omega)
theorem sph_class {s n k : Int} (h : fS s n k) (f : Int → Int) {K : Nat} (hK : K ≤ 5) : (fGat s n k K 0 (fun _ => 0) 0 (f, 0)).2 = (((fD s n k K 0 (fun _ => 0, 0)).foldl ins []).length : Int) := by
  rw [fGat_D]
  have l := fD_324 h K hK
  exact (fRO_fold _ (f, 0) [] ⟨rfl, fun j hj => absurd hj (by simp)⟩ (by rw [List.length_nil]; omega)).1
/-- numbers told by digits -/
def cd (B e : Int) (f : Nat → Int) : Nat → Int
  | 0 => e
  | v + 1 => cd B e f v * B + f v
theorem cd_inj {B e e' : Int} {f f' : Nat → Int} (hB : 2 ≤ B ∧ B ≤ 5) (h : ∀ v, 0 ≤ f v ∧ f v < B) (h' : ∀ v, 0 ≤ f' v ∧ f' v < B) : ∀ K : Nat, cd B e f K = cd B e' f' K ↔ e = e' ∧ ∀ v, v < K → f v = f' v
  | 0 => ⟨fun q => ⟨q, fun v hv => by omega⟩, fun q => q.1⟩
  | K + 1 => by
    have ih := cd_inj (e := e) (e' := e') hB h h' K
    have a1 := h K
    have a2 := h' K
    show cd B e f K * B + f K = cd B e' f' K * B + f' K ↔ _
    have key : cd B e f K * B + f K = cd B e' f' K * B + f' K ↔ cd B e f K = cd B e' f' K ∧ f K = f' K := by
      rcases (by omega : B = 2 ∨ B = 3 ∨ B = 4 ∨ B = 5) with q | q | q | q <;> subst q <;> omega
    rw [key, ih]
    constructor
    · rintro ⟨⟨q1, q2⟩, q3⟩
      refine ⟨q1, fun v hv => ?_⟩
      by_cases c : v = K
      · subst c; exact q3
      · exact q2 v (by omega)
    · rintro ⟨q1, q2⟩
      exact ⟨⟨q1, fun v hv => q2 v (by omega)⟩, q2 K (by omega)⟩
theorem fCd_cd (s n : Int) (L : Int → Int) (e : Int) : ∀ v, fCd s n L e v = cd 5 (e - (if s = 0 then -5 else 0)) (fun v => fSh s n L ((if s = 0 then -5 else 0) + (v : Int))) v
  | 0 => rfl
  | v + 1 => by
    show fCd s n L e v * 5 + _ = cd 5 _ _ v * 5 + _
    rw [fCd_cd s n L e v]
def gCd (s n k : Int) (L : Int → Int) (e : Int) (v : Nat) : Int := cd k (e + 12) (fun v => fSh s n L ((if s = 0 then -5 else 0) + (v : Int))) v
def gCode (s n k : Int) (L : Int → Int) (e : Int) : Int := gCd s n k L e (if s = 0 then 11 else n).toNat
theorem code_two {s n k e e' : Int} {L L' : Int → Int} (h : fS s n k) (hL : fL n k L) (hL' : fL n k L') : fCode s n L e = fCode s n L' e' ↔ gCode s n k L e = gCode s n k L' e' := by
  have hk : 2 ≤ k ∧ k ≤ 5 := h.2
  unfold fCode gCode gCd
  rw [fCd_cd, fCd_cd, cd_inj (by decide) (fun v => by have := fSh_i (s := s) (n := n) hL (by omega) ((if s = 0 then -5 else 0) + (v : Int)); omega) (fun v => by have := fSh_i (s := s) (n := n) hL' (by omega) ((if s = 0 then -5 else 0) + (v : Int)); omega), cd_inj hk (fun v => fSh_i (s := s) (n := n) hL (by omega) _) (fun v => fSh_i (s := s) (n := n) hL' (by omega) _)]
  constructor
  · rintro ⟨q1, q2⟩
    exact ⟨by omega, q2⟩
  · rintro ⟨q1, q2⟩
    exact ⟨by omega, q2⟩
/-- the letters of a number -/
def dg (v K : Nat) : List Int := (List.range K).map (fun j => ((v / 4 ^ j % 4 : Nat) : Int))
theorem dg_s (v K : Nat) : dg v (K + 1) = ((v % 4 : Nat) : Int) :: dg (v / 4) K := by
  unfold dg
  rw [List.range_succ_eq_map, List.map_cons, List.map_map]
  congr 1
  · rw [Nat.pow_zero, Nat.div_one]
  · refine List.map_congr_left (fun j _ => ?_)
    show ((v / 4 ^ (j + 1) % 4 : Nat) : Int) = ((v / 4 / 4 ^ j % 4 : Nat) : Int)
    rw [Nat.pow_succ, Nat.mul_comm, Nat.div_div_eq_div_mul]
theorem dg_i (v K : Nat) : ∀ c ∈ dg v K, 0 ≤ c ∧ c < 4 := by
  intro c hc
  obtain ⟨j, -, rfl⟩ := List.mem_map.mp hc
  omega
theorem dg_len (v K : Nat) : (dg v K).length = K := by simp [dg]
theorem dg_all : ∀ (cs : List Int), (∀ c ∈ cs, 0 ≤ c ∧ c < 4) → ∃ v, v < 4 ^ cs.length ∧ dg v cs.length = cs
  | [], _ => ⟨0, by decide, rfl⟩
  | c :: cs, h => by
    obtain ⟨v, h1, h2⟩ := dg_all cs (fun d hd => h d (List.mem_cons_of_mem _ hd))
    have hc := h c List.mem_cons_self
    refine ⟨c.toNat + 4 * v, ?_, ?_⟩
    · rw [List.length_cons, Nat.pow_succ]
      omega
    · rw [List.length_cons, dg_s, show (c.toNat + 4 * v) / 4 = v by omega, show (c.toNat + 4 * v) % 4 = c.toNat by omega, h2, show ((c.toNat : Nat) : Int) = c by omega]
def wW (s n k : Int) (K v : Nat) : (Int → Int) × Int := rn s n k (fun _ => 0, 0) (dg v K)
def wP (s n k : Int) (K v : Nat) : Bool := decide (fLen s n k (wW s n k K v).1 (wW s n k K v).2 = K)
def gAcc (s n k : Int) (K : Nat) : Nat → List Int
  | 0 => []
  | v + 1 => if wP s n k K v = true then ins (gAcc s n k K v) (gCode s n k (wW s n k K v).1 (wW s n k K v).2) else gAcc s n k K v
theorem gAcc_nb (s n k : Int) (K : Nat) : ∀ N : Nat, gAcc s n k K N = (((List.range N).filter (wP s n k K)).map (fun v => gCode s n k (wW s n k K v).1 (wW s n k K v).2)).foldl ins []
  | 0 => rfl
  | N + 1 => by
    rw [List.range_succ, List.filter_append, List.map_append, List.foldl_append, ← gAcc_nb s n k K N]
    show (if wP s n k K N = true then _ else _) = _
    cases c : wP s n k K N with
    | true => rw [if_pos rfl]; simp [c]
    | false => rw [if_neg (by decide)]; simp [c]
theorem gAcc_len (s n k : Int) (K : Nat) : ∀ N : Nat, (gAcc s n k K N).length ≤ N
  | 0 => Nat.le_refl 0
  | N + 1 => by
    have ih := gAcc_len s n k K N
    have := ins_len (gAcc s n k K N) (gCode s n k (wW s n k K N).1 (wW s n k K N).2)
    show (if wP s n k K N = true then _ else _ : List Int).length ≤ N + 1
    split <;> omega
theorem sph_eq {s n k : Int} (h : fS s n k) (K : Nat) : ((fD s n k K 0 (fun _ => 0, 0)).foldl ins []).length = (gAcc s n k K (4 ^ K)).length := by
  rw [gAcc_nb]
  have ok : ∀ v, fL n k (wW s n k K v).1 ∧ fC s n (wW s n k K v).2 := fun v => rn_ok h _ _ (fL_0 h) (fC_0 h)
  rw [← nb_two (f := fun v => fCode s n (wW s n k K v).1 (wW s n k K v).2) (fun v w => code_two h (ok v).1 (ok w).1) ((List.range (4 ^ K)).filter (wP s n k K)) [] [] rfl (fun _ => by simp)]
  refine nb_same (fun x => ?_)
  rw [fD_mem h K 0 (fun _ => 0, 0) (fL_0 h) (fC_0 h) (len_0 h), List.mem_map]
  constructor
  · rintro ⟨cs, h1, h2, h3, h4⟩
    obtain ⟨v, v1, v2⟩ := dg_all cs h2
    rw [h1] at v1 v2
    refine ⟨v, List.mem_filter.mpr ⟨List.mem_range.mpr v1, decide_eq_true ?_⟩, ?_⟩
    · show fLen s n k (rn s n k (fun _ => 0, 0) (dg v K)).1 (rn s n k (fun _ => 0, 0) (dg v K)).2 = K
      rw [v2]
      omega
    · show fCode s n (rn s n k (fun _ => 0, 0) (dg v K)).1 (rn s n k (fun _ => 0, 0) (dg v K)).2 = x
      rw [v2, h4]
  · rintro ⟨v, v1, v2⟩
    obtain ⟨v3, v4⟩ := List.mem_filter.mp v1
    have v4 := of_decide_eq_true v4
    exact ⟨dg v K, dg_len v K, dg_i v K, by show fLen s n k (wW s n k K v).1 (wW s n k K v).2 = 0 + (K : Int); omega, v2.symm⟩
end C48
