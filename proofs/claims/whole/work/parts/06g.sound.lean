/-! what the small machine does, the true one does -/
theorem jx_run_mono {sc : Nat × (Nat → Int32)} {cal : Nat → List Value → jx_H → Option Value → jx_H → Prop} (hcal : ∀ M av σ v σ1, cal M av σ v σ1 → σ.length ≤ σ1.length ∧ jx_wt σ ≤ jx_wt σ1) :
    ∀ (n M pc : Nat) (ls st : List Value) (σ : jx_H) (r : Option Value) (σ' : jx_H), jx_run sc cal n M pc ls st σ r σ' → σ.length ≤ σ'.length ∧ jx_wt σ ≤ jx_wt σ' := by
  intro n
  induction n with
  | zero => intro M pc ls st σ r σ' h; exact h.elim
  | succ n ih =>
    intro M pc ls st σ r σ' h
    obtain ⟨I, len, -, h⟩ := h
    rcases h with ⟨c, -, h2⟩ | ⟨b, -, h2⟩ | ⟨b, -, h2⟩ | ⟨c, h1, h2⟩ | ⟨c, v, σ1, -, h1, h2⟩ | ⟨-, rfl⟩
    · exact ih _ _ _ _ _ _ _ h2
    · exact ih _ _ _ _ _ _ _ h2
    · exact ih _ _ _ _ _ _ _ h2
    · have a := jx_mem_mono h1
      have b := ih _ _ _ _ _ _ _ h2
      exact ⟨Nat.le_trans a.1 b.1, Nat.le_trans a.2 b.2⟩
    · have a := hcal _ _ _ _ _ h1
      have b := ih _ _ _ _ _ _ _ h2
      exact ⟨Nat.le_trans a.1 b.1, Nat.le_trans a.2 b.2⟩
    · exact ⟨Nat.le_refl _, Nat.le_refl _⟩
theorem jx_call_mono {sc : Nat × (Nat → Int32)} : ∀ (d M : Nat) (av : List Value) (σ : jx_H) (v : Option Value) (σ1 : jx_H), jx_call sc d M av σ v σ1 → σ.length ≤ σ1.length ∧ jx_wt σ ≤ jx_wt σ1 := by
  intro d
  induction d with
  | zero => intro M av σ v σ1 h; exact h.elim
  | succ d ih =>
    intro M av σ v σ1 h
    obtain ⟨-, n, h⟩ := h
    exact jx_run_mono ih _ _ _ _ _ _ _ _ h
def jx_isw : Instr → Bool
  | .tableswitch .. => true
  | _ => false
set_option maxRecDepth 100000 in
theorem jx_lens : (jx_ks.all fun l => l.all fun q => jx_isw q.2.1 || Nat.beq q.2.2 (jx_plen q.2.1)) = true := by decide +kernel
theorem jx_len_at {M pc : Nat} {I : Instr} {len : Nat} (h : jx_code M pc = some (I, len)) : jx_isw I = true ∨ len = jx_plen I := by
  unfold jx_code at h
  have hm := jx_lk_mem h
  rw [List.getD_eq_getElem?_getD] at hm
  cases hk : jx_ks[M]? with
  | none => rw [hk] at hm; cases hm
  | some k =>
    rw [hk] at hm
    have h1 := List.all_eq_true.mp (List.all_eq_true.mp jx_lens k (List.mem_of_getElem? hk)) _ hm
    simp only [Bool.or_eq_true, jx_beq] at h1
    exact h1
theorem jx_isw_no {I : Instr} (h : jx_isw I = true) : (∀ own pc ls st, jx_pure own I pc ls st = none) ∧ (∀ pc st, jx_br I pc st = none) ∧ (∀ sc own isi st σ, jx_mem sc own isi I st σ = none) ∧ (∀ own st σ, jx_inv own I st σ = none) ∧ (∀ rt st, jx_ret rt I st = none) := by
  cases I <;> first
    | (cases h; done)
    | exact ⟨fun _ _ _ _ => rfl, fun _ _ => rfl, fun _ _ _ _ _ => rfl, fun _ _ _ => rfl, fun _ _ => rfl⟩
theorem jx_br_len {I : Instr} {pc : Nat} {st : List Value} {b : Bool × Nat × List Value} (h : jx_br I pc st = some b) : jx_plen I = 3 := by
  unfold jx_br at h
  split at h <;> first | rfl | (cases h; done)
theorem jx_inv_len {own : Nat} {I : Instr} {st : List Value} {σ : jx_H} {b : Nat × List Value × List Value} (h : jx_inv own I st σ = some b) : jx_plen I = 3 := by
  unfold jx_inv at h
  split at h <;> first | rfl | (cases h; done)
section JS
variable {p : Program} {l : Launch} {e : Env} {R : Room} {s : State} {m : MethodId} {args : Array Value} {below : List Frame} {meth : Method} {c : Code} {Q : State → Prop}
variable {cc : ByteArray} {nL : Nat} {E : jx_E} {D : va_G} {dA : Nat → ClassId} {σ0 : jx_H} {sc : Nat × (Nat → Int32)}
set_option maxHeartbeats 4000000 in
theorem jx_sound_run {d : Nat} {cal : Nat → List Value → jx_H → Option Value → jx_H → Prop} (hcal : ∀ M av σ v σ1, cal M av σ v σ1 → jx_Met l D dA E sc d M av σ v σ1) {M : Nat} {r : Option Value} {σ' : jx_H}
    (hexec : p.tables.exec = Jvm.exec) (hb : c.code = cc) (hml : c.maxLocals = nL) (hown : s.vm.findClass (jx_cn (jx_own M)) = some m.cls) (hisi : jx_isi M = true → meth.name = "<init>") (hts : ∀ w ∈ jx_gw, w.before args s = true) (hX : jx_X D dA E sc s s.heap) (hs0 : s.heap.size = E.1 + σ0.length) (hfr : d + 1 ≤ R.frames) (hlo : 40 * d + 40 ≤ R.locals)
    (hlist : jx_ok cc (jx_ks.getD M []) = true) (hr1 : σ'.length ≤ σ0.length + R.cells) (hr2 : jx_wt σ' ≤ jx_wt σ0 + R.slots)
    (hfin : ∀ (pc : Nat) (I : Instr) (lsM : Array Slot) (st : List Value) (H : Heap) (locs : List Loc) (cells slots : Nat), decode cc pc = .ok (I, jx_plen I) → jx_ret (jx_rt M) I st = some r → jx_J D dA E σ0 s σ' H locs cells slots → W p l e R s m args below meth c H locs cells slots Q (F0 m pc lsM (st.map (jx_v E)))) :
    ∀ (n pc : Nat) (ls st : List Value) (σ : jx_H) (H : Heap) (locs : List Loc) (cells slots : Nat) (lsM : Array Slot), jx_run sc cal n M pc ls st σ r σ' → jx_L E nL lsM ls → jx_J D dA E σ0 s σ H locs cells slots → W p l e R s m args below meth c H locs cells slots Q (F0 m pc lsM (st.map (jx_v E))) := by
  have hmono := fun n => jx_run_mono (sc := sc) (cal := cal) (fun M av σ v σ1 h => ⟨(hcal M av σ v σ1 h).1, (hcal M av σ v σ1 h).2.1⟩) n
  intro n
  induction n with
  | zero => intro pc ls st σ H locs cells slots lsM h; exact h.elim
  | succ n ih =>
    intro pc ls st σ H locs cells slots lsM h hl hJ
    obtain ⟨I, len, hcode, h⟩ := h
    have hdec : decode cc pc = .ok (I, len) := by
      have h1 := List.all_eq_true.mp hlist _ (jx_lk_mem hcode)
      simpa using h1
    have hlen := jx_len_at hcode
    have hmls : c.maxLocals = lsM.size := hml.trans hl.2.1.symm
    rcases h with ⟨c', h1, h2⟩ | ⟨b, h1, h2⟩ | ⟨b, h1, h2⟩ | ⟨c', h1, h2⟩ | ⟨c', v, σ1, h1, h3, h2⟩ | ⟨h1, rfl⟩
    · rcases hlen with hz | rfl
      · rw [(jx_isw_no hz).1] at h1; cases h1
      · exact jw_pure hexec hb hown hts hdec hl h1 (fun lsM' hl' => ih _ _ _ _ _ _ _ _ _ h2 hl' hJ)
    · rcases hlen with hz | rfl
      · rw [(jx_isw_no hz).2.1] at h1; cases h1
      · exact jw_br hexec hb (by rw [jx_br_len h1] at hdec; exact hdec) h1 (ih _ _ _ _ _ _ _ _ _ h2 hl hJ)
    · exact jw_sw hexec hb hdec h1 (ih _ _ _ _ _ _ _ _ _ h2 hl hJ)
    · rcases hlen with hz | rfl
      · rw [(jx_isw_no hz).2.2.1] at h1; cases h1
      · have hm := hmono _ _ _ _ _ _ _ _ h2
        exact jw_mem hexec hb hmls hown hisi hts hX hs0 (by omega) (by omega) hJ hdec h1 (by omega) (by omega) (fun H1 locs1 cells1 slots1 hJ1 => ih _ _ _ _ _ _ _ _ _ h2 hl hJ1)
    · rcases hlen with hz | rfl
      · rw [(jx_isw_no hz).2.2.2.1] at h1; cases h1
      · have hm := hmono _ _ _ _ _ _ _ _ h2
        exact jw_inv hexec hb hmls hown hts hX hfr hlo hJ hdec h1 (hcal _ _ _ _ _ h3) (by omega) (by omega) (fun H1 locs1 cells1 slots1 hJ1 => ih _ _ _ _ _ _ _ _ _ h2 hl hJ1)
    · rcases hlen with hz | rfl
      · rw [(jx_isw_no hz).2.2.2.2] at h1; cases h1
      · exact hfin _ _ _ _ _ _ _ _ hdec h1 hJ
end JS
/-! the locals at a method's entry -/
theorem jx_lay_sl (E : jx_E) : ∀ av : List Value, (lg_sl (av.map (jx_v E))).length = (jx_lay av).length := by
  intro av
  induction av with
  | nil => rfl
  | cons v t ih =>
    unfold lg_sl at ih ⊢
    simp only [List.map_cons, List.flatMap_cons, List.length_append, ih]
    cases hc : jx_c1 v with
    | true =>
      have := jx_c1_cat hc
      rw [← jx_v_cat E] at this
      simp [jx_lay, hc, this]
      omega
    | false =>
      have := jx_c1_cat2 hc
      rw [← jx_v_cat E] at this
      simp [jx_lay, hc, this]
      omega
theorem jx_lay_args (E : jx_E) : ∀ (av : List Value) (k i : Nat) (v : Value), (jx_lay av)[i]? = some v → v ≠ .retAddr 2 → (k + i, jx_v E v) ∈ lv_args k (av.map (jx_v E)) := by
  intro av
  induction av with
  | nil => intro k i v h; simp [jx_lay] at h
  | cons a t ih =>
    intro k i v h hv
    simp only [List.map_cons, lv_args]
    cases hc : jx_c1 a with
    | true =>
      have hcat := jx_c1_cat hc
      rw [← jx_v_cat E] at hcat
      simp only [jx_lay, hc, cond_true] at h
      cases i with
      | zero => simp at h; subst h; exact List.mem_cons_self
      | succ i =>
        refine List.mem_cons_of_mem _ ?_
        rw [if_neg (by omega)]
        have := ih (k + 1) i v (by simpa using h) hv
        rwa [show k + 1 + i = k + (i + 1) by omega] at this
    | false =>
      have hcat := jx_c1_cat2 hc
      rw [← jx_v_cat E] at hcat
      simp only [jx_lay, hc, cond_false] at h
      cases i with
      | zero => simp at h; subst h; exact List.mem_cons_self
      | succ i =>
        cases i with
        | zero => simp at h; exact absurd h.symm hv
        | succ i =>
          refine List.mem_cons_of_mem _ ?_
          rw [if_pos hcat]
          have := ih (k + 2) i v (by simpa using h) hv
          rwa [show k + 2 + i = k + (i + 1 + 1) by omega] at this
theorem jx_entry_L (E : jx_E) {mx : Nat} {av : List Value} (h : (jx_lay av).length ≤ mx) : jx_L E mx ((lg_sl (av.map (jx_v E)) ++ List.replicate (mx - (lg_sl (av.map (jx_v E))).length) Slot.unset).toArray) (jx_entry mx av) := by
  have he := lv_entry (av.map (jx_v E)) (n := mx) (by rw [jx_lay_sl]; exact h)
  refine ⟨by unfold jx_entry; simp; omega, he.1, he.2.1, fun q hq => ?_⟩
  obtain ⟨i, w⟩ := q
  obtain ⟨v, h1, h2, rfl⟩ := jx_as_mem.mp hq
  unfold jx_entry at h1
  by_cases hi : i < (jx_lay av).length
  · rw [List.getElem?_append_left hi] at h1
    have := jx_lay_args E av 0 i v h1 h2
    rw [Nat.zero_add] at this
    exact he.2.2 _ this
  · rw [List.getElem?_append_right (by omega)] at h1
    have := List.mem_of_getElem? h1
    exact absurd (List.eq_of_mem_replicate this) h2
set_option maxHeartbeats 4000000 in
/-- every call of the small machine is met by the true one -/
theorem jx_sound (l : Launch) (D : va_G) (dA : Nat → ClassId) (E : jx_E) (sc : Nat × (Nat → Int32)) : ∀ (d M : Nat) (av : List Value) (σ : jx_H) (v : Option Value) (σ1 : jx_H), jx_call sc d M av σ v σ1 → jx_Met l D dA E sc d M av σ v σ1 := by
  intro d
  induction d with
  | zero => intro M av σ v σ1 h; exact h.elim
  | succ d ih =>
    intro M av σ v σ1 h
    have hm := jx_call_mono _ _ _ _ _ _ h
    refine ⟨hm.1, hm.2, fun q hq => ?_⟩
    obtain ⟨hlay, n, hrun⟩ := h
    obtain ⟨w1, w2, w3, w4, w5, w6⟩ := jx_mq hq
    have hmx : jx_mx M = q.2.2.1 := by unfold jx_mx; rw [hq]
    have hrt : jx_rt M = q.2.2.2.1 := by unfold jx_rt; rw [hq]
    have how : jx_own M = q.2.2.2.2.2.1 := by unfold jx_own; rw [hq]
    have hii : jx_isi M = decide (q.1.name = "<init>") := by unfold jx_isi; rw [hq]
    rw [hmx] at hlay hrun
    refine Met.ofW (cc := q.2.1) (maxL := q.2.2.1) (ret := q.2.2.2.1) w4 rfl ?_
    intro p e s m args below meth c s₁ B hml hv
    obtain ⟨rfl, hX, hR⟩ := hv
    have hx := B.exec
    have hb := B.bytes
    have hr := B.returns
    have hts0 := atoms_spec (ws := jx_wsm q) B.pre
    have hts : ∀ w ∈ jx_gw, w.before ((av.map (jx_v E)).toArray) s = true := fun w hw => hts0 w (List.mem_cons_of_mem _ hw)
    have hown : s.vm.findClass q.1.cls = some m.cls := findClass_of_methodNamed B.named
    have hlocks := B.notSynchronized
    have hin : meth.name = q.1.name := (name_of_methodNamed B.named B.method).1
    have hlist : jx_ok q.2.1 (jx_ks.getD M []) = true := by
      have h1 := jx_z.2 M q hq
      have h2 : M < jx_ks0.length := by rw [← jx_z.1]; exact (List.getElem?_eq_some_iff.mp hq).1
      unfold jx_ks
      rw [List.getD_eq_getElem?_getD, List.getElem?_append_left h2, ← List.getD_eq_getElem?_getD]
      exact h1
    rw [lg_entry_eq]
    refine jx_sound_run (σ0 := σ) ih hx hb hml (by rw [how, ← w3]; exact hown) (fun h => by rw [hii] at h; rw [hin]; exact of_decide_eq_true h) hts hX hR.1 (Nat.le_refl _) (by show 40 * d + 40 ≤ 40 * (d + 1); omega) hlist (by show _ ≤ σ.length + (σ1.length - σ.length); omega) (by show _ ≤ jx_wt σ + (jx_wt σ1 - jx_wt σ); omega) ?_ n 0 _ [] σ s.heap [] 0 0 _ hrun (jx_entry_L E hlay) ⟨hR, fun _ _ => rfl, fun _ h => absurd h List.not_mem_nil, by omega, by omega⟩
    intro pc I lsM st H locs cells slots hdg hret hJ
    obtain ⟨j1, j2, j3, j4, j5⟩ := hJ
    have ec : cells = σ1.length - σ.length := by omega
    have es : slots = jx_wt σ1 - jx_wt σ := by omega
    subst ec
    subst es
    rw [hrt] at hret
    unfold jx_ret at hret
    split at hret
    · rename_i hrt2
      cases hret
      exact W.vret hx hb (hr.trans hrt2) (fun t ht hW => ⟨rfl, by rw [ht]; exact j1, fun q hq => by rw [ht]; exact j2 q hq⟩) j3 hdg
    · rename_i hrt2
      cases hret
      exact W.iret hx hb (hr.trans hrt2) (fun t ht hW => ⟨rfl, by rw [ht]; exact j1, fun q hq => by rw [ht]; exact j2 q hq⟩) j3 hdg
    · rename_i x hrt2
      obtain ⟨hz, h2⟩ := jx_bif hret
      cases h2
      have hn : narrow .boolean (.int x) = .int x := by
        simp only [Bool.or_eq_true, beq_iff_eq] at hz
        rcases hz with rfl | rfl
        · exact (by decide +kernel : narrow .boolean (.int 0) = .int 0)
        · exact (by decide +kernel : narrow .boolean (.int 1) = .int 1)
      exact W.zret hx hb (hr.trans hrt2) hn (fun t ht hW => ⟨rfl, by rw [ht]; exact j1, fun q hq => by rw [ht]; exact j2 q hq⟩) j3 hdg
    · rename_i hrt2
      cases hret
      exact W.lret hx hb (hr.trans hrt2) (fun t ht hW => ⟨rfl, by rw [ht]; exact j1, fun q hq => by rw [ht]; exact j2 q hq⟩) j3 hdg
    · rename_i hrt2
      split at hret
      · cases hret
        exact W.aret hx hb (hr.trans hrt2) (Or.inl ⟨_, rfl⟩) (Or.inr ⟨_, rfl⟩) (fun t ht hW => ⟨rfl, by rw [ht]; exact j1, fun q hq => by rw [ht]; exact j2 q hq⟩) j3 hdg
      · cases hret
        exact W.aret hx hb (hr.trans hrt2) (Or.inl ⟨_, rfl⟩) (Or.inl rfl) (fun t ht hW => ⟨rfl, by rw [ht]; exact j1, fun q hq => by rw [ht]; exact j2 q hq⟩) j3 hdg
      · cases hret
    · cases hret
