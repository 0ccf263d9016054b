theorem jx_beq {a b : Nat} : (Nat.beq a b = true) ↔ a = b := ⟨Nat.eq_of_beq_eq_true, fun h => by subst h; exact Nat.beq_refl a⟩
theorem jx_sl_map (E : jx_E) (st : List Value) : ((st.map (jx_v E)).map (fun v => v.category)).sum = jx_sl st := by
  unfold jx_sl
  rw [List.map_map]
  congr 1
  exact List.map_congr_left fun v _ => jx_v_cat E v
theorem jx_ext_spec {D : va_G} {dA : Nat → ClassId} {E : jx_E} {sc : Nat × (Nat → Int32)} {s : State} {H0 : Heap} (hX : jx_X D dA E sc s H0) {k : Nat} {x : Nat × (Nat → Int32)} (h : jx_ext sc k = some x) : ∃ (b : Nat) (cell : Cell), jx_v E (.retAddr k) = .ref b ∧ b < E.1 ∧ H0[b]? = some cell ∧ s.isArrayOf cell .int ∧ cell.vm ≠ .unknown ∧ cell.slots.size.toInt32 = Int32.ofNat x.1 ∧ x.1 ≤ cell.slots.size ∧ ∀ j : Nat, j < x.1 → cell.slots[j]? = some (.int (x.2 j)) := by
  obtain ⟨-, h2, h3, -, h5, h6, -⟩ := hX
  unfold jx_ext at h
  split at h
  · cases h
    obtain ⟨scr, g1, g2, g3, g4, g5⟩ := h2
    exact ⟨_, scr, rfl, h5, g1, g2, g3, by rw [g4] <;> rfl, by omega, g5⟩
  · cases h
    obtain ⟨cell, g1, g2, g3, g4, g5, g6, -⟩ := h3
    exact ⟨_, cell, rfl, h6, g1, g2, g3, g5, g4, g6⟩
  · cases h
theorem jx_ml_0 {own idx : Nat} {ps : List Nat} (he : (idx, 0, ps) ∈ jx_ml.getD own []) : Cond.methodLink (jx_cn own) idx Lib.Math.max.name ∈ jx_gw ∧ Cond.static Lib.Math.max.name ∈ jx_gw ∧ Cond.initialized "java/lang/Math" ∈ jx_gw ∧ Cond.code Lib.Math.max.name Lib.Math.max.code 2 (some .int) ∈ jx_gw := by
  have hm := jx_every_at jx_ml_ok he
  unfold jx_mthchk at hm
  rcases ps with _ | ⟨p0, _ | ⟨p1, _ | ⟨p2, _ | ⟨p3, _ | ⟨p4, t⟩⟩⟩⟩⟩ <;> first
    | (simp only [Bool.and_eq_true] at hm; exact ⟨jx_w_mem hm.1.1.1, jx_w_mem hm.1.1.2, jx_w_mem hm.1.2, jx_w_mem hm.2⟩)
    | (cases hm; done)
theorem jx_ml_1 {own idx : Nat} {ps : List Nat} (he : (idx, 1, ps) ∈ jx_ml.getD own []) : Cond.methodLink (jx_cn own) idx Lib.Math.min.name ∈ jx_gw ∧ Cond.static Lib.Math.min.name ∈ jx_gw ∧ Cond.initialized "java/lang/Math" ∈ jx_gw ∧ Cond.code Lib.Math.min.name Lib.Math.min.code 2 (some .int) ∈ jx_gw := by
  have hm := jx_every_at jx_ml_ok he
  unfold jx_mthchk at hm
  rcases ps with _ | ⟨p0, _ | ⟨p1, _ | ⟨p2, _ | ⟨p3, _ | ⟨p4, t⟩⟩⟩⟩⟩ <;> first
    | (simp only [Bool.and_eq_true] at hm; exact ⟨jx_w_mem hm.1.1.1, jx_w_mem hm.1.1.2, jx_w_mem hm.1.2, jx_w_mem hm.2⟩)
    | (cases hm; done)
theorem jx_ml_2 {own idx : Nat} {ps : List Nat} (he : (idx, 2, ps) ∈ jx_ml.getD own []) : Cond.methodLink (jx_cn own) idx Lib.Math.abs.name ∈ jx_gw ∧ Cond.static Lib.Math.abs.name ∈ jx_gw ∧ Cond.initialized "java/lang/Math" ∈ jx_gw ∧ Cond.code Lib.Math.abs.name Lib.Math.abs.code 1 (some .int) ∈ jx_gw := by
  have hm := jx_every_at jx_ml_ok he
  unfold jx_mthchk at hm
  rcases ps with _ | ⟨p0, _ | ⟨p1, _ | ⟨p2, _ | ⟨p3, _ | ⟨p4, t⟩⟩⟩⟩⟩ <;> first
    | (simp only [Bool.and_eq_true] at hm; exact ⟨jx_w_mem hm.1.1.1, jx_w_mem hm.1.1.2, jx_w_mem hm.1.2, jx_w_mem hm.2⟩)
    | (cases hm; done)
theorem jx_ml_3 {own idx : Nat} {ps : List Nat} (he : (idx, 3, ps) ∈ jx_ml.getD own []) : Cond.methodLink (jx_cn own) idx jx_fmN ∈ jx_gw ∧ Cond.static jx_fmN ∈ jx_gw ∧ Cond.initialized "java/lang/Math" ∈ jx_gw ∧ Cond.code jx_fmN jx_fmB 3 (some .int) ∈ jx_gw := by
  have hm := jx_every_at jx_ml_ok he
  unfold jx_mthchk at hm
  rcases ps with _ | ⟨p0, _ | ⟨p1, _ | ⟨p2, _ | ⟨p3, _ | ⟨p4, t⟩⟩⟩⟩⟩ <;> first
    | (simp only [Bool.and_eq_true] at hm; exact ⟨jx_w_mem hm.1.1.1, jx_w_mem hm.1.1.2, jx_w_mem hm.1.2, jx_w_mem hm.2⟩)
    | (cases hm; done)
theorem jx_mono_set {σ : jx_H} {a : Nat} {c c' : jx_C} (h : σ[a]? = some c) (hl : c'.2.length = c.2.length) : σ.length ≤ (σ.set a c').length ∧ jx_wt σ ≤ jx_wt (σ.set a c') := ⟨by rw [List.length_set]; exact Nat.le_refl _, by rw [jx_wt_set h hl]; exact Nat.le_refl _⟩
theorem jx_mono_push {σ : jx_H} {c : jx_C} : σ.length ≤ (σ ++ [c]).length ∧ jx_wt σ ≤ jx_wt (σ ++ [c]) := ⟨by simp, by rw [jx_wt_push]; omega⟩
theorem jx_mem_mono {sc : Nat × (Nat → Int32)} {own : Nat} {isi : Bool} {I : Instr} {st : List Value} {σ : jx_H} {c' : List Value × jx_H} (h : jx_mem sc own isi I st σ = some c') : σ.length ≤ c'.2.length ∧ jx_wt σ ≤ jx_wt c'.2 := by
  have rf : σ.length ≤ σ.length ∧ jx_wt σ ≤ jx_wt σ := ⟨Nat.le_refl _, Nat.le_refl _⟩
  unfold jx_mem at h
  split at h
  · split at h
    · cases h
    · split at h
      · cases h
      · split at h
        · cases h
        · cases h; exact rf
  · split at h
    · cases h
    · rename_i cel hc
      split at h
      · obtain ⟨-, h2⟩ := jx_bif h
        cases h2; exact jx_mono_set hc (by rw [List.length_set])
      · cases h
  · split at h
    · cases h; exact rf
    · cases h
  · split at h
    · cases h
    · obtain ⟨-, h2⟩ := jx_bif h
      cases h2; exact rf
  · split at h
    · cases h
    · cases h; exact rf
  · split at h
    · cases h
    · obtain ⟨-, h2⟩ := jx_bif h
      split at h2
      · cases h2; exact rf
      · cases h2
  · split at h
    · cases h
    · obtain ⟨-, h2⟩ := jx_bif h
      cases h2; exact rf
  · split at h
    · cases h
    · obtain ⟨-, h2⟩ := jx_bif h
      split at h2
      · cases h2; exact rf
      · cases h2
  · split at h
    · cases h
    · obtain ⟨-, h2⟩ := jx_bif h
      split at h2
      · cases h2; exact rf
      · cases h2
  · split at h
    · cases h
    · rename_i cel hc
      obtain ⟨-, h2⟩ := jx_bif h
      cases h2; exact jx_mono_set hc (by rw [List.length_set])
  · split at h
    · cases h
    · rename_i cel hc
      obtain ⟨-, h2⟩ := jx_bif h
      cases h2; exact jx_mono_set hc (by rw [List.length_set])
  · split at h
    · rename_i cel d hc hd
      obtain ⟨-, h2⟩ := jx_bif h
      cases h2; exact jx_mono_set hc (by rw [List.length_set])
    · cases h
  · split at h
    · cases h
    · split at h
      · cases h
      · cases h; exact jx_mono_push
  · obtain ⟨-, h2⟩ := jx_bif h
    cases h2; exact jx_mono_push
  · obtain ⟨-, h2⟩ := jx_bif h
    cases h2; exact jx_mono_push
  · split at h
    · cases h
    · obtain ⟨-, h2⟩ := jx_bif h
      cases h2; exact jx_mono_push
  · split at h
    · cases h
    · split at h
      · cases h
      · cases h; exact rf
  · split at h
    · cases h
    · obtain ⟨-, h2⟩ := jx_bif h
      cases h2; exact rf
  · split at h
    · cases h
    · obtain ⟨-, h2⟩ := jx_bifn h
      unfold jx_mth at h2
      split at h2
      · cases h2; exact rf
      · cases h2; exact rf
      · cases h2; exact rf
      · split at h2
        · cases h2
        · cases h2; exact rf
      · cases h2
  · cases h
section JC
variable {p : Program} {l : Launch} {e : Env} {R : Room} {s : State} {m : MethodId} {args : Array Value} {below : List Frame} {meth : Method} {c : Code} {H : Heap} {locs : List Loc} {cells slots : Nat} {Q : State → Prop}
variable {cc : ByteArray} {pc : Nat} {lsM : Array Slot} {E : jx_E} {D : va_G} {dA : Nat → ClassId} {own : Nat} {σ0 σ : jx_H} {sc : Nat × (Nat → Int32)} {st : List Value} {isi : Bool}
set_option maxHeartbeats 4000000 in
theorem jw_math (hexec : p.tables.exec = Jvm.exec) (hb : c.code = cc) (hml : c.maxLocals = lsM.size) (hown : s.vm.findClass (jx_cn own) = some m.cls) (hts : ∀ w ∈ jx_gw, w.before args s = true) (hfr : 1 ≤ R.frames) (hlo : 40 ≤ R.locals) (hc : cells ≤ R.cells) (hs : slots ≤ R.slots) {idx : Nat} (hdg : decode cc pc = .ok (.invokestatic idx, 3)) {q : Nat × List Nat} (hq : jx_lk (jx_ml.getD own []) idx = some q) {y : Int32} (hsl : jx_sl st ≤ 20) {c' : List Value × jx_H} (h : jx_mth q.1 y st σ = some c') (kk : c'.2 = σ → W p l e R s m args below meth c H locs cells slots Q (F0 m (pc + 3) lsM (c'.1.map (jx_v E)))) : W p l e R s m args below meth c H locs cells slots Q (F0 m pc lsM ((Value.int y :: st).map (jx_v E))) := by
  have hmem := jx_lk_mem hq
  obtain ⟨op, ps⟩ := q
  have hsum : ∀ (x : Int32) (t : List Value), jx_sl (.int x :: t) ≤ 20 → ((t.map (jx_v E)).map (fun v => v.category)).sum ≤ 20 := by
    intro x t ht
    rw [jx_sl_map]
    simp only [jx_sl, List.map_cons, List.sum_cons] at ht ⊢
    omega
  unfold jx_mth at h
  split at h
  · rename_i he2
    have he2 : op = 0 := he2
    subst he2
    cases h
    obtain ⟨m0, m1, m2, m3⟩ := jx_ml_0 hmem
    exact va_mmax hexec hb hml hown (hts _ m0) (hts _ m1) (hts _ m2) (hts _ m3) hfr (by have := hsum _ _ hsl; omega) hc hs hdg (kk rfl)
  · rename_i he2
    have he2 : op = 1 := he2
    subst he2
    cases h
    obtain ⟨m0, m1, m2, m3⟩ := jx_ml_1 hmem
    exact va_mmin hexec hb hml hown (hts _ m0) (hts _ m1) (hts _ m2) (hts _ m3) hfr (by have := hsum _ _ hsl; omega) hc hs hdg (kk rfl)
  · rename_i he2
    have he2 : op = 2 := he2
    subst he2
    cases h
    obtain ⟨m0, m1, m2, m3⟩ := jx_ml_2 hmem
    exact va_mabs hexec hb hml hown (hts _ m0) (hts _ m1) (hts _ m2) (hts _ m3) hfr (by rw [jx_sl_map]; exact Nat.le_trans (Nat.add_le_add_right (by assumption) 13) (by omega)) hc hs hdg (kk rfl)
  · rename_i he2
    have he2 : op = 3 := he2
    subst he2
    split at h
    · cases h
    · rename_i hy
      cases h
      obtain ⟨m0, m1, m2, m3⟩ := jx_ml_3 hmem
      exact jx_mfm hexec hb hml hown (hts _ m0) (hts _ m1) (hts _ m2) (hts _ m3) hfr (by have := hsum _ _ hsl; omega) hc hs hy hdg (kk rfl)
  · cases h
set_option maxHeartbeats 4000000 in
theorem jw_mem (hexec : p.tables.exec = Jvm.exec) (hb : c.code = cc) (hml : c.maxLocals = lsM.size) (hown : s.vm.findClass (jx_cn own) = some m.cls) (hisi : isi = true → meth.name = "<init>") (hts : ∀ w ∈ jx_gw, w.before args s = true) (hX : jx_X D dA E sc s s.heap) (hs0 : s.heap.size = E.1 + σ0.length) (hfr : 1 ≤ R.frames) (hlo : 40 ≤ R.locals)
    (hJ : jx_J D dA E σ0 s σ H locs cells slots) {I : Instr} (hdg : decode cc pc = .ok (I, jx_plen I)) {c' : List Value × jx_H} (h : jx_mem sc own isi I st σ = some c') (hr1 : c'.2.length ≤ σ0.length + R.cells) (hr2 : jx_wt c'.2 ≤ jx_wt σ0 + R.slots)
    (kk : ∀ (H1 : Heap) (locs1 : List Loc) (cells1 slots1 : Nat), jx_J D dA E σ0 s c'.2 H1 locs1 cells1 slots1 → W p l e R s m args below meth c H1 locs1 cells1 slots1 Q (F0 m (pc + jx_plen I) lsM (c'.1.map (jx_v E)))) : W p l e R s m args below meth c H locs cells slots Q (F0 m pc lsM (st.map (jx_v E))) := by
  have hmn := jx_mem_mono h
  have hX' := hX
  obtain ⟨hK, -, -, hZ, -, -, hnw, hnc, hao⟩ := hX'
  have hJ4 := hJ.2.2.2.1
  have hJ5 := hJ.2.2.2.2
  have hlowE : E.1 ≤ s.heap.size := by omega
  unfold jx_mem at h
  split at h
  · split at h
    · cases h
    · rename_i cel hc
      split at h
      · cases h
      · rename_i q hf
        split at h
        · cases h
        · rename_i v hv
          cases h
          exact jw_get hexec hb hown hts hnw hK (hJ.1.2 _ _ hc) hf hv hdg (kk _ _ _ _ hJ)
  · split at h
    · cases h
    · rename_i cel hc
      split at h
      · rename_i q r hf hr
        obtain ⟨h1, h2⟩ := jx_bif h
        cases h2
        simp only [Bool.and_eq_true, Bool.or_eq_true, jx_beq, decide_eq_true_eq, Bool.not_eq_true'] at h1
        obtain ⟨⟨⟨⟨g1, g2⟩, g3⟩, g4⟩, g5⟩ := h1
        exact jw_put hexec hb hown hisi hts hnw hK hJ hc hf hr g1 (g4.imp id (fun z => ⟨z.1.1, z.1.2, z.2⟩)) g5 hdg (fun H1 locs1 hJ1 => kk H1 locs1 _ _ hJ1)
      · cases h
  · split at h
    · rename_i q hq
      cases h
      exact va_gets (A := fun q => E.1 ≤ q) hexec hb hZ (jx_low hs0 hJ) hown (hts _ (jx_w_mem (jx_every_at jx_gs_ok (jx_lk_mem hq)))) (fun x hx => hx) hdg (kk _ _ _ _ hJ)
    · cases h
  · split at h
    · cases h
    · rename_i cel hc
      obtain ⟨h1, h2⟩ := jx_bif h
      cases h2
      rw [Bool.and_eq_true] at h1
      exact jw_alen hexec hb hK (hJ.1.2 _ _ hc) (Nat.le_of_ble_eq_true h1.1) hdg (kk _ _ _ _ hJ)
  · split at h
    · cases h
    · rename_i x hx
      cases h
      obtain ⟨b, cell, e1, e2, e3, e4, e5, e6, e7, e8⟩ := jx_ext_spec hX hx
      have k1 := kk _ _ _ _ hJ
      simp only [List.map_cons, e1]
      exact W.alen hexec hb (by rw [hJ.2.1 _ e2]; exact e3) e4 e6 rfl rfl hdg k1
  · split at h
    · cases h
    · rename_i cel hc
      obtain ⟨h1, h2⟩ := jx_bif h
      rw [Bool.and_eq_true, jx_beq] at h1
      split at h2
      · rename_i v hv
        cases h2
        exact jw_iald hexec hb hK (hJ.1.2 _ _ hc) h1.1 h1.2 hv hdg (kk _ _ _ _ hJ)
      · cases h2
  · split at h
    · cases h
    · rename_i x hx
      obtain ⟨h1, h2⟩ := jx_bif h
      cases h2
      obtain ⟨b, cell, e1, e2, e3, e4, e5, e6, e7, e8⟩ := jx_ext_spec hX hx
      obtain ⟨x1, x2, x3⟩ := jx_ix_in h1
      have k1 := kk _ _ _ _ hJ
      simp only [List.map_cons, e1]
      exact W.iald hexec hb (by rw [hJ.2.1 _ e2]; exact e3) e4 e5 (fun q => x1 (q.imp id (fun z => Nat.le_trans e7 z))) (by rw [x2]; exact e8 _ x3) rfl rfl hdg k1
  · split at h
    · cases h
    · rename_i cel hc
      obtain ⟨h1, h2⟩ := jx_bif h
      rw [Bool.and_eq_true, jx_beq] at h1
      split at h2
      · rename_i v hv
        cases h2
        exact jw_lald hexec hb hK (hJ.1.2 _ _ hc) h1.1 h1.2 hv hdg (kk _ _ _ _ hJ)
      · cases h2
  · split at h
    · cases h
    · rename_i cel hc
      obtain ⟨h1, h2⟩ := jx_bif h
      rw [Bool.and_eq_true, Bool.and_eq_true] at h1
      split at h2
      · rename_i v hv
        cases h2
        exact jw_aald hexec hb hK (hJ.1.2 _ _ hc) (Nat.le_of_ble_eq_true h1.1.1) h1.2 hv hdg (kk _ _ _ _ hJ)
      · cases h2
  · split at h
    · cases h
    · rename_i cel hc
      obtain ⟨h1, h2⟩ := jx_bif h
      rw [Bool.and_eq_true, jx_beq] at h1
      cases h2
      exact jw_iast hexec hb hK hJ hc h1.1 h1.2 hdg (fun H1 locs1 hJ1 => kk H1 locs1 _ _ hJ1)
  · split at h
    · cases h
    · rename_i cel hc
      obtain ⟨h1, h2⟩ := jx_bif h
      rw [Bool.and_eq_true, jx_beq] at h1
      cases h2
      exact jw_last hexec hb hK hJ hc h1.1 h1.2 hdg (fun H1 locs1 hJ1 => kk H1 locs1 _ _ hJ1)
  · split at h
    · rename_i cel d hc hd
      obtain ⟨h1, h2⟩ := jx_bif h
      cases h2
      simp only [Bool.and_eq_true, Bool.or_eq_true, jx_beq] at h1
      obtain ⟨g1, g2⟩ := h1
      refine jw_aast hexec hb hK hnw hJ hc hd ?_ g2 hdg (fun H1 locs1 hJ1 => kk H1 locs1 _ _ hJ1)
      rcases g1 with (g | g) | g
      · exact Or.inl g
      · refine Or.inr (Or.inl ⟨g.1, ?_⟩)
        show d.1 = 6 ∨ d.1 ∈ [0, 1, 2, 7, 9]
        simp only [List.mem_cons, List.not_mem_nil, or_false]
        omega
      · exact Or.inr (Or.inr g)
    · cases h
  · split at h
    · cases h
    · rename_i q hq
      split at h
      · cases h
      · rename_i r hr
        cases h
        have hlen : (jx_new q.1 r.2.2).length = r.2.2 := by simp [jx_new]
        simp only [List.length_append, List.length_singleton] at hr1
        rw [jx_wt_push, hlen] at hr2
        exact jw_new hexec hb hown hts hK hJ hq hr (by omega) (by omega) hdg (fun H1 hJ1 => kk H1 _ _ _ hJ1)
  · obtain ⟨h1, h2⟩ := jx_bif h
    cases h2
    simp only [Bool.and_eq_true, decide_eq_true_eq] at h1
    simp only [List.length_append, List.length_singleton] at hr1
    rw [jx_wt_push, List.length_replicate] at hr2
    exact jw_newa hexec hb hts hK hJ h1.1 h1.2 (by omega) (by omega) hdg (fun H1 hJ1 => kk H1 _ _ _ hJ1)
  · obtain ⟨h1, h2⟩ := jx_bif h
    cases h2
    simp only [Bool.and_eq_true, decide_eq_true_eq] at h1
    simp only [List.length_append, List.length_singleton] at hr1
    rw [jx_wt_push, List.length_replicate] at hr2
    exact jw_newl hexec hb hts hK hJ h1.1 h1.2 (by omega) (by omega) hdg (fun H1 hJ1 => kk H1 _ _ _ hJ1)
  · split at h
    · cases h
    · rename_i q hq
      obtain ⟨h1, h2⟩ := jx_bif h
      cases h2
      simp only [Bool.and_eq_true, decide_eq_true_eq] at h1
      simp only [List.length_append, List.length_singleton] at hr1
      rw [jx_wt_push, List.length_replicate] at hr2
      exact jw_anew hexec hb hown hts hK hao hJ hq h1.1 h1.2 (by omega) (by omega) hdg (fun H1 hJ1 => kk H1 _ _ _ hJ1)
  · split at h
    · cases h
    · rename_i cel hc
      split at h
      · cases h
      · rename_i t ht
        cases h
        exact jw_inst hexec hb hown hts hnw hnc hK (hJ.1.2 _ _ hc) ht hdg (kk _ _ _ _ hJ)
  · split at h
    · cases h
    · rename_i q hq
      obtain ⟨h1, h2⟩ := jx_bif h
      cases h2
      have hm := jx_every_at jx_oi_ok (jx_lk_mem hq)
      unfold jx_oichk at hm
      split at hm
      · simp only [Bool.and_eq_true] at hm
        obtain ⟨⟨m0, m1⟩, m2⟩ := hm
        have hsum := Nat.le_of_ble_eq_true h1
        exact W.objInit hexec hb hown (hts _ (jx_w_mem m0)) (hts _ (jx_w_mem m1)) (hts _ (jx_w_mem m2)) rfl hml.symm rfl hdg hfr (by show 2 * 0 + ((List.map (jx_v E) _).map fun v => v.category).sum + 12 ≤ R.locals; rw [jx_sl_map]; omega) (kk _ _ _ _ hJ)
      · cases hm
  · split at h
    · cases h
    · rename_i q hq
      obtain ⟨h1, h2⟩ := jx_bifn h
      have hsl := Nat.le_of_ble_eq_true (by simpa using h1)
      try simp only at h2
      exact jw_math hexec hb hml hown hts hfr hlo (by omega) (by omega) hdg hq hsl h2 (fun he => kk _ _ _ _ (by rw [he]; exact hJ))
  · cases h
end JC
