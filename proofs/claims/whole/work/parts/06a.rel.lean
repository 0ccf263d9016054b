/-! The small machine against the true one: what a heap of ours stands for. -/
abbrev jx_E : Type := Nat × Nat × Nat
def jx_v (E : jx_E) : Value → Value
  | .ref a => .ref (E.1 + a)
  | .retAddr k => (match k with
    | 0 => .ref E.2.1
    | 1 => .ref E.2.2
    | k + 2 => .retAddr (k + 2))
  | .int x => .int x
  | .long x => .long x
  | .float x => .float x
  | .double x => .double x
  | .null => .null
def jx_fs (E : jx_E) (vs : List Value) : List Value := vs.map (jx_v E)
theorem jx_fs_len (E : jx_E) (vs : List Value) : (jx_fs E vs).length = vs.length := by simp [jx_fs]
theorem jx_fs_get {E : jx_E} {vs : List Value} {k : Nat} {v : Value} (h : vs[k]? = some v) : (jx_fs E vs)[k]? = some (jx_v E v) := by simp [jx_fs, h]
theorem jx_fs_set (E : jx_E) (vs : List Value) (k : Nat) (v : Value) : jx_fs E (vs.set k v) = (jx_fs E vs).set k (jx_v E v) := by simp [jx_fs, List.map_set]
theorem jx_V_get {fs : List Value} {k : Nat} {v : Value} (h : fs[k]? = some v) : vp_V fs k = v := by simp [vp_V, List.getD_eq_getElem?_getD, h]
/-- one cell of ours in the true heap -/
def jx_at (D : va_G) (dA : Nat → ClassId) (E : jx_E) (a : Nat) (c : jx_C) (H : Heap) : Prop :=
  (c.1 < 100 → ∃ r : vw_C, jx_cl[c.1]? = some r ∧ c.2.length = r.2.2 ∧ t_OB (E.1 + a) (D.1 c.1) r.2.2 (D.2 c.1) H (vp_V (jx_fs E c.2))) ∧
  (100 ≤ c.1 → c.1 < 105 ∧ H[E.1 + a]? = some (arrV (dA c.1) c.2.length (vp_V (jx_fs E c.2))))
def jx_R (D : va_G) (dA : Nat → ClassId) (E : jx_E) (σ : jx_H) (H : Heap) : Prop := H.size = E.1 + σ.length ∧ ∀ (a : Nat) (c : jx_C), σ[a]? = some c → jx_at D dA E a c H
theorem jx_at.kept {D : va_G} {dA : Nat → ClassId} {E : jx_E} {a : Nat} {c : jx_C} {H H1 : Heap} (h : jx_at D dA E a c H) (hq : H1[E.1 + a]? = H[E.1 + a]?) : jx_at D dA E a c H1 := by
  refine ⟨fun h1 => ?_, fun h1 => ?_⟩
  · obtain ⟨r, r1, r2, r3⟩ := h.1 h1
    exact ⟨r, r1, r2, r3.kept hq⟩
  · obtain ⟨r1, r2⟩ := h.2 h1
    exact ⟨r1, by rw [hq]; exact r2⟩
theorem jx_R.set {D : va_G} {dA : Nat → ClassId} {E : jx_E} {σ : jx_H} {H H1 : Heap} {a : Nat} {c : jx_C} (h : jx_R D dA E σ H) (hs : H1.size = H.size) (ho : ∀ q : Nat, q ≠ E.1 + a → H1[q]? = H[q]?) (hc : jx_at D dA E a c H1) : jx_R D dA E (σ.set a c) H1 := by
  refine ⟨by rw [hs, h.1, List.length_set], fun b d hd => ?_⟩
  by_cases hb : a = b
  · subst hb
    have hlt : a < σ.length := by
      have := (List.getElem?_eq_some_iff.mp hd).1
      simpa using this
    rw [List.getElem?_set_self hlt] at hd
    cases hd
    exact hc
  · rw [List.getElem?_set_ne hb] at hd
    exact (h.2 b d hd).kept (ho _ (by omega))
theorem jx_R.push {D : va_G} {dA : Nat → ClassId} {E : jx_E} {σ : jx_H} {H H1 : Heap} {c : jx_C} (h : jx_R D dA E σ H) (hs : H1.size = H.size + 1) (ho : ∀ q : Nat, q < H.size → H1[q]? = H[q]?) (hc : jx_at D dA E σ.length c H1) : jx_R D dA E (σ ++ [c]) H1 := by
  refine ⟨by rw [hs, h.1]; simp; omega, fun b d hd => ?_⟩
  by_cases hb : b < σ.length
  · rw [List.getElem?_append_left hb] at hd
    exact (h.2 b d hd).kept (ho _ (by rw [h.1]; omega))
  · rw [List.getElem?_append_right (by omega)] at hd
    have hz : b - σ.length < 1 := (List.getElem?_eq_some_iff.mp hd).1
    have hb2 : b = σ.length := by omega
    subst hb2
    rw [show σ.length - σ.length = 0 by omega] at hd
    cases hd
    exact hc
def jx_tys (dA : Nat → ClassId) : List (ClassId × FieldType) := [(dA 100, .int), (dA 101, .long), (dA 102, .object RX8), (dA 103, .object RX6), (dA 104, .object RX3)]
def jx_sg : Nat → Int32 := fun k => [jI 97, jI 65, jI 116, jI 84].getD k 0
/-- what stays as it is through the whole run: classes, links, the script, the signs -/
def jx_X (D : va_G) (dA : Nat → ClassId) (E : jx_E) (sc : Nat × (Nat → Int32)) (U : State) (H0 : Heap) : Prop :=
  va_K D jx_cl (jx_tys dA) U ∧ va_X E.2.1 sc.1 sc.2 U H0 ∧ va_T .int E.2.2 4 (fun j => .int (jx_sg j)) (fun q => E.1 ≤ q) U H0 ∧ va_Z "LampsAlongStreets" "SIGNS" "[I" (.ref E.2.2) (fun q => E.1 ≤ q) U H0 ∧ E.2.1 < E.1 ∧ E.2.2 < E.1 ∧
  (∀ w ∈ jx_nw, va_Nw w U) ∧ (∀ q ∈ jx_nc, va_Nc q.1 q.2 U) ∧ va_AO RX8 U ∧ va_AO RX6 U ∧ va_AO RX3 U
theorem jx_nw_warm {w : Cond} (hw : w ∈ jx_nw) {s U : State} (hW : s.WarmedH U.vm) (h : va_Nw w s) : va_Nw w U := by
  have hb := (List.mem_filter.mp hw).2
  cases w <;> first | exact va_Nw.warmF hW h | exact va_Nw.warmM hW h | exact va_Nw.warmC hW h | (simp [jx_bw] at hb; done)
theorem jx_nw_onT {w : Cond} (hw : w ∈ jx_nw) : w.onTables = true := by
  have hb := (List.mem_filter.mp hw).2
  cases w <;> first | rfl | (simp [jx_bw] at hb; done)
theorem jx_X.moved {D : va_G} {dA : Nat → ClassId} {E : jx_E} {sc : Nat × (Nat → Int32)} {s U : State} {H0 H1 : Heap} (h : jx_X D dA E sc s H0) (hA : s.vm.Alike U.vm) (hN : ∀ w ∈ jx_nw, va_Nw w s → va_Nw w U) (hq : ∀ q : Nat, q < E.1 → H1[q]? = H0[q]?) : jx_X D dA E sc U H1 := by
  obtain ⟨h1, h2, h3, h4, h5, h6, h7, h8, h9, h10, h11⟩ := h
  exact ⟨h1.moved hA, (h2.moved hA).kept (hq _ h5), (h3.moved hA).kept (fun a _ ha => hq a (Nat.not_le.mp ha)), (h4.moved hA).kept (fun a _ ha => hq a (Nat.not_le.mp ha)), h5, h6, fun w hw => hN w hw (h7 w hw), fun q hq2 => (h8 q hq2).moved hA, h9.moved hA, h10.moved hA, h11.moved hA⟩
theorem jx_X.warm {D : va_G} {dA : Nat → ClassId} {E : jx_E} {sc : Nat × (Nat → Int32)} {s U : State} {H0 H1 : Heap} (h : jx_X D dA E sc s H0) (hW : s.WarmedH U.vm) (hq : ∀ q : Nat, q < E.1 → H1[q]? = H0[q]?) : jx_X D dA E sc U H1 := h.moved hW.alike (fun w hw => jx_nw_warm hw hW) hq
theorem jx_X.same {D : va_G} {dA : Nat → ClassId} {E : jx_E} {sc : Nat × (Nat → Int32)} {s U : State} {H0 : Heap} (h : jx_X D dA E sc s H0) (hvm : s.vm = U.vm) : jx_X D dA E sc U H0 :=
  h.moved (by rw [← hvm]; exact Vm.Alike.refl s.vm) (fun w hw => va_Nw.same (jx_nw_onT hw) hvm) (fun _ _ => rfl)
/-! locals -/
def jx_as (E : jx_E) (ls : List Value) : List (Nat × Value) := (ls.zipIdx.filter (fun q => decide (q.1 ≠ .retAddr 2))).map (fun q => (q.2, jx_v E q.1))
theorem jx_as_mem {E : jx_E} {ls : List Value} {i : Nat} {w : Value} : (i, w) ∈ jx_as E ls ↔ ∃ v, ls[i]? = some v ∧ v ≠ .retAddr 2 ∧ w = jx_v E v := by
  unfold jx_as
  constructor
  · intro h
    obtain ⟨q, hq, e⟩ := List.mem_map.mp h
    obtain ⟨h1, h2⟩ := List.mem_filter.mp hq
    obtain ⟨v, k⟩ := q
    cases e
    rw [List.mem_zipIdx_iff_getElem?] at h1
    exact ⟨v, h1, by simpa using h2, rfl⟩
  · rintro ⟨v, h1, h2, rfl⟩
    exact List.mem_map.mpr ⟨(v, i), List.mem_filter.mpr ⟨by rw [List.mem_zipIdx_iff_getElem?]; exact h1, by simpa using h2⟩, rfl⟩
def jx_L (E : jx_E) (nL : Nat) (lsM : Array Slot) (ls : List Value) : Prop := ls.length = nL ∧ lv_has lsM nL (jx_as E ls)
theorem jx_L.at {E : jx_E} {nL : Nat} {lsM : Array Slot} {ls : List Value} (h : jx_L E nL lsM ls) {i : Nat} {v : Value} (hi : ls[i]? = some v) (hv : v ≠ .retAddr 2) : lsM[i]? = some (.val (jx_v E v)) := h.2.2.2 (i, jx_v E v) (jx_as_mem.mpr ⟨v, hi, hv, rfl⟩)
theorem jx_c1_cat {v : Value} (h : jx_c1 v = true) : v.category = 1 := by cases v <;> first | rfl | (simp [jx_c1] at h)
theorem jx_c1_cat2 {v : Value} (h : jx_c1 v = false) : v.category = 2 := by cases v <;> first | rfl | (simp [jx_c1] at h)
theorem jx_v_cat (E : jx_E) (v : Value) : (jx_v E v).category = v.category := by
  cases v with
  | retAddr k => rcases k with _ | _ | k <;> rfl
  | _ => rfl
theorem jx_put_spec : ∀ (ls : List Value) (i : Nat) (v : Value) (l : List Value), jx_put ls i v = some l → i < ls.length ∧ l = ls.set i v ∧ ∀ (k : Nat) (a : Value), i = k + 1 → ls[k]? = some a → jx_c1 a = true := by
  intro ls
  induction ls with
  | nil => intro i v l h; simp [jx_put] at h
  | cons a t ih =>
    intro i v l h
    cases i with
    | zero =>
      simp [jx_put] at h
      subst h
      exact ⟨by simp, by simp, fun k a h => by omega⟩
    | succ i =>
      cases i with
      | zero =>
        cases a <;> simp only [jx_put] at h <;> first
          | (cases h; done)
          | (cases hp : jx_put t 0 v with
             | none => rw [hp] at h; cases h
             | some t' =>
               rw [hp] at h
               cases h
               obtain ⟨h1, h2, -⟩ := ih 0 v t' hp
               refine ⟨by simp; omega, by rw [h2]; rfl, fun k a hk ha => ?_⟩
               obtain rfl : k = 0 := by omega
               simp at ha
               subst ha
               rfl)
      | succ i =>
        cases hp : jx_put t (i + 1) v with
        | none => cases a <;> simp [jx_put, hp] at h
        | some t' =>
          have h' : a :: t' = l := by cases a <;> simpa [jx_put, hp] using h
          subst h'
          obtain ⟨h1, h2, h3⟩ := ih (i + 1) v t' hp
          refine ⟨by simp; omega, by rw [h2]; rfl, fun k b hk hb => ?_⟩
          cases k with
          | zero => omega
          | succ k => exact h3 k b (by omega) (by simpa using hb)
/-- what a store leaves of the list of locals -/
theorem jx_L.put {E : jx_E} {nL : Nat} {lsM lsM' : Array Slot} {ls ls' : List Value} {i : Nat} {v : Value} (h : jx_L E nL lsM ls) (hp : jx_put ls i v = some ls')
    (hl : lv_has lsM' nL ((i, jx_v E v) :: (jx_as E ls).filter (fun q => !(q.1 == i) && !(q.1 + 1 == i && q.2.category == 2)))) : jx_L E nL lsM' ls' := by
  obtain ⟨p1, p2, p3⟩ := jx_put_spec _ _ _ _ hp
  subst p2
  refine ⟨by rw [List.length_set]; exact h.1, hl.1, hl.2.1, fun q hq => ?_⟩
  obtain ⟨j, w⟩ := q
  obtain ⟨u, u1, u2, rfl⟩ := jx_as_mem.mp hq
  by_cases hj : i = j
  · subst hj
    rw [List.getElem?_set_self p1] at u1
    cases u1
    exact hl.2.2 (i, jx_v E v) List.mem_cons_self
  · rw [List.getElem?_set_ne hj] at u1
    refine hl.2.2 (j, jx_v E u) (List.mem_cons_of_mem _ (List.mem_filter.mpr ⟨jx_as_mem.mpr ⟨u, u1, u2, rfl⟩, ?_⟩))
    have hne : (j == i) = false := by simpa using fun e : j = i => hj e.symm
    rw [hne]
    by_cases hji : j + 1 = i
    · have := jx_c1_cat (p3 j u hji.symm u1)
      rw [jx_v_cat, this]
      simp
    · have : (j + 1 == i) = false := by simpa using hji
      rw [this]
      simp
theorem jx_L.put2 {E : jx_E} {nL : Nat} {lsM lsM' : Array Slot} {ls ls' : List Value} {i : Nat} {v : Value} (h : jx_L E nL lsM ls) (hp : jx_put2 ls i v = some ls')
    (hl : lv_has lsM' nL ((i, jx_v E v) :: (jx_as E ls).filter (fun q => !(q.1 == i) && (!(q.1 == i + 1) && !(q.1 + 1 == i && q.2.category == 2))))) : jx_L E nL lsM' ls' := by
  unfold jx_put2 at hp
  cases hp1 : jx_put ls i v with
  | none => rw [hp1] at hp; cases hp
  | some l =>
    cases hg : ls[i + 1]? with
    | none => rw [hp1, hg] at hp; cases hp
    | some g =>
      rw [hp1, hg] at hp
      cases hp
      obtain ⟨p1, p2, p3⟩ := jx_put_spec _ _ _ _ hp1
      have p4 := (List.getElem?_eq_some_iff.mp hg).1
      subst p2
      refine ⟨by rw [List.length_set, List.length_set]; exact h.1, hl.1, hl.2.1, fun q hq => ?_⟩
      obtain ⟨j, w⟩ := q
      obtain ⟨u, u1, u2, rfl⟩ := jx_as_mem.mp hq
      by_cases hj2 : i + 1 = j
      · subst hj2
        rw [List.getElem?_set_self (by rw [List.length_set]; exact p4)] at u1
        cases u1
        exact absurd rfl u2
      · rw [List.getElem?_set_ne hj2] at u1
        by_cases hj : i = j
        · subst hj
          rw [List.getElem?_set_self p1] at u1
          cases u1
          exact hl.2.2 (i, jx_v E v) List.mem_cons_self
        · rw [List.getElem?_set_ne hj] at u1
          refine hl.2.2 (j, jx_v E u) (List.mem_cons_of_mem _ (List.mem_filter.mpr ⟨jx_as_mem.mpr ⟨u, u1, u2, rfl⟩, ?_⟩))
          have hne : (j == i) = false := by simpa using fun e : j = i => hj e.symm
          have hne2 : (j == i + 1) = false := by simpa using fun e : j = i + 1 => hj2 e.symm
          rw [hne, hne2]
          by_cases hji : j + 1 = i
          · have := jx_c1_cat (p3 j u hji.symm u1)
            rw [jx_v_cat, this]
            simp
          · have : (j + 1 == i) = false := by simpa using hji
            rw [this]
            simp
theorem jx_put2_lt {ls ls' : List Value} {i : Nat} {v : Value} (hp : jx_put2 ls i v = some ls') : i + 1 < ls.length := by
  unfold jx_put2 at hp
  cases hp1 : jx_put ls i v with
  | none => rw [hp1] at hp; cases hp
  | some l =>
    cases hg : ls[i + 1]? with
    | none => rw [hp1, hg] at hp; cases hp
    | some g => exact (List.getElem?_eq_some_iff.mp hg).1
theorem jx_isr_ref {E : jx_E} {v : Value} (h : jx_isr v = true) : jx_v E v = .null ∨ ∃ a, jx_v E v = .ref a := by
  cases v with
  | ref a => exact Or.inr ⟨_, rfl⟩
  | null => exact Or.inl rfl
  | retAddr k => rcases k with _ | _ | k <;> first | exact Or.inr ⟨_, rfl⟩ | (simp [jx_isr] at h)
  | _ => simp [jx_isr] at h
theorem jx_isr_ne {v : Value} (h : jx_isr v = true) : v ≠ .retAddr 2 := by rintro rfl; simp [jx_isr] at h
theorem jx_isr_c1 {v : Value} (h : jx_isr v = true) : v.category = 1 := by
  cases v with
  | retAddr k => rfl
  | _ => first | rfl | (simp [jx_isr] at h)
theorem jx_tgt_eq {pc t : Nat} {off : Int} (h : jx_tgt pc off = some t) : (pc : Int) + off = (t : Int) := by
  unfold jx_tgt at h
  split at h
  · cases h; assumption
  · cases h
