theorem jx_arrV_congr {cA : ClassId} {N : Nat} {f g : Nat → Value} (h : ∀ j, j < N → f j = g j) : arrV cA N f = arrV cA N g := by
  have : (fun j : Fin N => f j.val) = fun j : Fin N => g j.val := by
    funext j
    exact h j.val j.isLt
  unfold arrV
  rw [this]
theorem jx_ix_in {i : Int32} {n : Nat} (h : jx_ix i n = true) : vp_in i n ∧ i.toNatClampNeg = i.toInt.toNat ∧ i.toInt.toNat < n := by
  unfold jx_ix at h
  simp only [Bool.and_eq_true, decide_eq_true_eq] at h
  exact ⟨vp_in_iff.mpr h, rfl, by omega⟩
theorem jx_low {D : va_G} {dA : Nat → ClassId} {E : jx_E} {σ0 : jx_H} {s : State} {σ : jx_H} {H : Heap} {locs : List Loc} {cells slots : Nat} (hs0 : s.heap.size = E.1 + σ0.length) (hJ : jx_J D dA E σ0 s σ H locs cells slots) : va_S (fun q => E.1 ≤ q) s.heap H locs :=
  ⟨by rw [hs0, hJ.1.1]; have := hJ.2.2.2.1; omega, fun q _ h2 => hJ.2.1 q (Nat.not_le.mp h2), hJ.2.2.1⟩
/-- the class of an object of ours -/
theorem jx_recv {D : va_G} {dA : Nat → ClassId} {E : jx_E} {a : Nat} {cel : jx_C} {s : State} {H : Heap} (hK : va_K D jx_cl (jx_tys dA) s) (hat : jx_at D dA E a cel H) (h100 : cel.1 < 100) : ∃ cell : Cell, H[E.1 + a]? = some cell ∧ cell.vm.isStatics = false ∧ s.vm.findClass (jx_cn cel.1) = some cell.cls ∧ ClassAt s (jx_cn cel.1) (D.1 cel.1) ∧ cell.cls = D.1 cel.1 ∧ cell.vm = .none := by
  obtain ⟨r, r1, r2, cell, g1, g2, g3, -⟩ := hat.1 h100
  have hk := (hK.1 cel.1 _ r1).2
  rw [jx_cn_cl r1]
  exact ⟨cell, g1, by rw [g3]; rfl, by rw [g2]; exact hk.1, hk, g2, g3⟩
def jx_cst : List (Nat × Nat) := [(0, 1247), (1, 1249), (2, 1250), (7, 1248), (9, 1246)]
theorem jx_cst_ok : (jx_cst.all fun q => jx_wn q.2 (.castable (jx_cn q.1) RX6)) = true := by decide +kernel
theorem jx_aci : Cond.arrayClass .int ∈ jx_gw := jx_w_mem (p := 133) (by decide +kernel)
theorem jx_acl : Cond.arrayClass .long ∈ jx_gw := jx_w_mem (p := 908) (by decide +kernel)
theorem jx_rep {α : Type} {n j : Nat} {a : α} (h : j < n) : (List.replicate n a)[j]? = some a := by simp [h]
section JM2
variable {p : Program} {l : Launch} {e : Env} {R : Room} {s : State} {m : MethodId} {args : Array Value} {below : List Frame} {meth : Method} {c : Code} {H : Heap} {locs : List Loc} {cells slots : Nat} {Q : State → Prop}
variable {cc : ByteArray} {pc : Nat} {lsM : Array Slot} {E : jx_E} {D : va_G} {dA : Nat → ClassId} {rest : List Value} {own idx a : Nat} {cel : jx_C} {σ0 σ : jx_H}
theorem jx_at_arr {H1 : Heap} {tag k : Nat} {vs : List Value} {v : Value} (h1 : 100 ≤ tag) (h2 : tag < 105) (hk : k < vs.length) (he : H1[E.1 + a]? = some ((arrV (dA tag) vs.length (vp_V (jx_fs E vs))).setSlot k (jx_v E v))) : jx_at D dA E a (tag, vs.set k v) H1 := by
  refine ⟨fun h => absurd h (Nat.not_lt.mpr h1), fun _ => ⟨h2, ?_⟩⟩
  rw [he, arrV_store, List.length_set]
  congr 2
  funext j
  show updV (vp_V (jx_fs E vs)) k (jx_v E v) j = vp_V (jx_fs E (vs.set k v)) j
  rw [jx_fs_set]
  exact vp_updV_set (by rw [jx_fs_len]; exact hk) (jx_v E v) j
theorem jx_arr_read {vs : List Value} {k : Nat} {v : Value} {cA : ClassId} (h : vs[k]? = some v) : (arrV cA vs.length (vp_V (jx_fs E vs))).slots[k]? = some (jx_v E v) := by
  rw [arrV_read _ _ (List.getElem?_eq_some_iff.mp h).1, jx_V_get (jx_fs_get h)]
theorem jx_arr_of (hK : va_K D jx_cl (jx_tys dA) s) {tag : Nat} (h1 : 100 ≤ tag) (h2 : tag < 105) : ∃ ty, (jx_tys dA)[tag - 100]? = some (dA tag, ty) ∧ ∀ (n : Nat) (z : Nat → Value), s.isArrayOf (arrV (dA tag) n z) ty := by
  have key : ∀ i, i < 5 → ∃ ty, (jx_tys dA)[i]? = some (dA (100 + i), ty)
    | 0, _ => ⟨_, rfl⟩
    | 1, _ => ⟨_, rfl⟩
    | 2, _ => ⟨_, rfl⟩
    | 3, _ => ⟨_, rfl⟩
    | 4, _ => ⟨_, rfl⟩
  obtain ⟨ty, h⟩ := key (tag - 100) (by omega)
  rw [show 100 + (tag - 100) = tag by omega] at h
  exact ⟨ty, h, fun n z => (hK.2 _ _ h).1 n z⟩
theorem jw_alen (hexec : p.tables.exec = Jvm.exec) (hb : c.code = cc) (hK : va_K D jx_cl (jx_tys dA) s) (hat : jx_at D dA E a cel H) (h1 : 100 ≤ cel.1) (hdg : decode cc pc = .ok (.arraylength, 1))
    (kk : W p l e R s m args below meth c H locs cells slots Q (F0 m (pc + 1) lsM (.int (Int32.ofNat cel.2.length) :: rest))) : W p l e R s m args below meth c H locs cells slots Q (F0 m pc lsM (.ref (E.1 + a) :: rest)) := by
  obtain ⟨h2, he⟩ := hat.2 h1
  obtain ⟨ty, -, hA⟩ := jx_arr_of hK h1 h2
  exact W.alen (n := Int32.ofNat cel.2.length) hexec hb he (hA _ _) (by rw [arrV_size] <;> rfl) rfl rfl hdg kk
theorem jw_iald (hexec : p.tables.exec = Jvm.exec) (hb : c.code = cc) (hK : va_K D jx_cl (jx_tys dA) s) (hat : jx_at D dA E a cel H) (h1 : cel.1 = 100) {i : Int32} {v : Value} (hix : jx_ix i cel.2.length = true) (hv : cel.2[i.toInt.toNat]? = some v) (hdg : decode cc pc = .ok (.iaload, 1))
    (kk : W p l e R s m args below meth c H locs cells slots Q (F0 m (pc + 1) lsM (jx_v E v :: rest))) : W p l e R s m args below meth c H locs cells slots Q (F0 m pc lsM (.int i :: .ref (E.1 + a) :: rest)) := by
  obtain ⟨h2, he⟩ := hat.2 (by omega)
  obtain ⟨x1, x2, x3⟩ := jx_ix_in hix
  rw [h1] at he
  exact W.iald hexec hb he ((hK.2 0 _ rfl).1 _ _) (fun q => by cases q) (by rw [arrV_size]; exact x1) (by rw [x2]; exact jx_arr_read hv) rfl rfl hdg kk
theorem jw_lald (hexec : p.tables.exec = Jvm.exec) (hb : c.code = cc) (hK : va_K D jx_cl (jx_tys dA) s) (hat : jx_at D dA E a cel H) (h1 : cel.1 = 101) {i : Int32} {v : Value} (hix : jx_ix i cel.2.length = true) (hv : cel.2[i.toInt.toNat]? = some v) (hdg : decode cc pc = .ok (.laload, 1))
    (kk : W p l e R s m args below meth c H locs cells slots Q (F0 m (pc + 1) lsM (jx_v E v :: rest))) : W p l e R s m args below meth c H locs cells slots Q (F0 m pc lsM (.int i :: .ref (E.1 + a) :: rest)) := by
  obtain ⟨h2, he⟩ := hat.2 (by omega)
  obtain ⟨x1, x2, x3⟩ := jx_ix_in hix
  rw [h1] at he
  exact W.lald hexec hb he ((hK.2 1 _ rfl).1 _ _) (fun q => by cases q) (by rw [arrV_size]; exact x1) (by rw [x2]; exact jx_arr_read hv) rfl rfl hdg kk
theorem jw_aald (hexec : p.tables.exec = Jvm.exec) (hb : c.code = cc) (hK : va_K D jx_cl (jx_tys dA) s) (hat : jx_at D dA E a cel H) (h1 : 102 ≤ cel.1) {i : Int32} {v : Value} (hix : jx_ix i cel.2.length = true) (hv : cel.2[i.toInt.toNat]? = some v) (hdg : decode cc pc = .ok (.aaload, 1))
    (kk : W p l e R s m args below meth c H locs cells slots Q (F0 m (pc + 1) lsM (jx_v E v :: rest))) : W p l e R s m args below meth c H locs cells slots Q (F0 m pc lsM (.int i :: .ref (E.1 + a) :: rest)) := by
  obtain ⟨h2, he⟩ := hat.2 (by omega)
  obtain ⟨x1, x2, x3⟩ := jx_ix_in hix
  obtain ⟨ty, ht, hA⟩ := jx_arr_of hK (by omega) h2
  have hty : ty.isReference = true := by
    have key : ∀ i, 2 ≤ i → i < 5 → ∀ q, (jx_tys dA)[i]? = some q → q.2.isReference = true
      | 0, h, _, _, _ => absurd h (by omega)
      | 1, h, _, _, _ => absurd h (by omega)
      | 2, _, _, _, h => by cases h; rfl
      | 3, _, _, _, h => by cases h; rfl
      | 4, _, _, _, h => by cases h; rfl
      | n + 5, _, h, _, _ => absurd h (by omega)
    exact key _ (by omega) (by omega) _ ht
  exact W.aald hexec hb he (hA _ _) hty (fun q => by cases q) (by rw [arrV_size]; exact x1) (by rw [x2]; exact jx_arr_read hv) rfl rfl hdg kk
theorem jw_iast (hexec : p.tables.exec = Jvm.exec) (hb : c.code = cc) (hK : va_K D jx_cl (jx_tys dA) s) (hJ : jx_J D dA E σ0 s σ H locs cells slots) (hc : σ[a]? = some cel) (h1 : cel.1 = 100) {i x : Int32} (hix : jx_ix i cel.2.length = true) (hdg : decode cc pc = .ok (.iastore, 1))
    (kk : ∀ (H1 : Heap) (locs1 : List Loc), jx_J D dA E σ0 s (σ.set a (cel.1, cel.2.set i.toInt.toNat (.int x))) H1 locs1 cells slots → W p l e R s m args below meth c H1 locs1 cells slots Q (F0 m (pc + 1) lsM rest)) : W p l e R s m args below meth c H locs cells slots Q (F0 m pc lsM (.int x :: .int i :: .ref (E.1 + a) :: rest)) := by
  obtain ⟨h2, he⟩ := (hJ.1.2 a cel hc).2 (by omega)
  obtain ⟨x1, x2, x3⟩ := jx_ix_in hix
  have he' := he
  rw [h1] at he'
  refine W.iast hexec hb he' ((hK.2 0 _ rfl).1 _ _) (fun q => by cases q) (by rw [arrV_size]; exact x1) rfl rfl hdg fun H1 e1 z oq => kk H1 _ (hJ.set hc (by rw [List.length_set]) z oq (jx_at_arr (by omega) h2 x3 (v := .int x) ?_))
  rw [e1, x2, h1]
  rfl
theorem jw_last (hexec : p.tables.exec = Jvm.exec) (hb : c.code = cc) (hK : va_K D jx_cl (jx_tys dA) s) (hJ : jx_J D dA E σ0 s σ H locs cells slots) (hc : σ[a]? = some cel) (h1 : cel.1 = 101) {i : Int32} {x : Int64} (hix : jx_ix i cel.2.length = true) (hdg : decode cc pc = .ok (.lastore, 1))
    (kk : ∀ (H1 : Heap) (locs1 : List Loc), jx_J D dA E σ0 s (σ.set a (cel.1, cel.2.set i.toInt.toNat (.long x))) H1 locs1 cells slots → W p l e R s m args below meth c H1 locs1 cells slots Q (F0 m (pc + 1) lsM rest)) : W p l e R s m args below meth c H locs cells slots Q (F0 m pc lsM (.long x :: .int i :: .ref (E.1 + a) :: rest)) := by
  obtain ⟨h2, he⟩ := (hJ.1.2 a cel hc).2 (by omega)
  obtain ⟨x1, x2, x3⟩ := jx_ix_in hix
  have he' := he
  rw [h1] at he'
  refine W.last hexec hb he' ((hK.2 1 _ rfl).1 _ _) (fun q => by cases q) (by rw [arrV_size]; exact x1) rfl rfl hdg fun H1 e1 z oq => kk H1 _ (hJ.set hc (by rw [List.length_set]) z oq (jx_at_arr (by omega) h2 x3 (v := .long x) ?_))
  rw [e1, x2, h1]
  rfl
theorem jx_asg (hK : va_K D jx_cl (jx_tys dA) s) (hnw : ∀ w ∈ jx_nw, va_Nw w s) {tag : Nat} (h : tag = 6 ∨ tag ∈ jx_cst.map (·.1)) {comp : ClassId} (hcomp : s.vm.findClass RX6 = some comp) (htc : s.vm.findClass (jx_cn tag) = some (D.1 tag)) (hcl : ClassAt s (jx_cn tag) (D.1 tag)) : s.vm.assignable (D.1 tag) comp = true := by
  rcases h with rfl | h
  · have hc : comp = D.1 6 := Option.some.inj (hcomp.symm.trans htc)
    subst hc
    exact va_assign hcl
  · obtain ⟨q, hq, rfl⟩ := List.mem_map.mp h
    obtain ⟨c0, t0, f1, f2, f3⟩ := Cond.castable_spec (va_Nw.use (A := #[]) rfl (hnw _ (jx_wn_mem (List.all_eq_true.mp jx_cst_ok q hq))))
    cases htc.symm.trans f1
    cases hcomp.symm.trans f2
    exact f3
theorem jw_aast (hexec : p.tables.exec = Jvm.exec) (hb : c.code = cc) (hK : va_K D jx_cl (jx_tys dA) s) (hnw : ∀ w ∈ jx_nw, va_Nw w s) (hJ : jx_J D dA E σ0 s σ H locs cells slots) (hc : σ[a]? = some cel) {v : Nat} {d : jx_C} (hd : σ[v]? = some d)
    (h1 : (cel.1 = 102 ∧ d.1 = 8) ∨ (cel.1 = 103 ∧ (d.1 = 6 ∨ d.1 ∈ jx_cst.map (·.1))) ∨ (cel.1 = 104 ∧ d.1 = 3)) {i : Int32} (hix : jx_ix i cel.2.length = true) (hdg : decode cc pc = .ok (.aastore, 1))
    (kk : ∀ (H1 : Heap) (locs1 : List Loc), jx_J D dA E σ0 s (σ.set a (cel.1, cel.2.set i.toInt.toNat (.ref v))) H1 locs1 cells slots → W p l e R s m args below meth c H1 locs1 cells slots Q (F0 m (pc + 1) lsM rest)) : W p l e R s m args below meth c H locs cells slots Q (F0 m pc lsM (.ref (E.1 + v) :: .int i :: .ref (E.1 + a) :: rest)) := by
  have h100 : 102 ≤ cel.1 := by rcases h1 with h | h | h <;> omega
  obtain ⟨h2, he⟩ := (hJ.1.2 a cel hc).2 (by omega)
  obtain ⟨x1, x2, x3⟩ := jx_ix_in hix
  have hd100 : d.1 < 100 := by
    rcases h1 with h | ⟨-, h | h⟩ | h
    · omega
    · omega
    · have key : ∀ t ∈ jx_cst.map (·.1), t < 100 := by decide
      exact key _ h
    · omega
  obtain ⟨cellV, g1, g2, g3, g4, g5, g6⟩ := jx_recv hK (hJ.1.2 v d hd) hd100
  have ⟨_, kC, hkC, _⟩ := g4
  have hcase : ∃ (C : String) (kA : Class) (comp : ClassId), s.vm.classes[dA cel.1]? = some kA ∧ kA.kind = .array comp (.object C) ∧ s.vm.findClass C = some comp ∧ s.vm.assignable (D.1 d.1) comp = true := by
    rcases h1 with ⟨e1, e2⟩ | ⟨e1, e2⟩ | ⟨e1, e2⟩
    · obtain ⟨kA, comp, k1, k2, k3, -⟩ := (hK.2 2 _ rfl).2
      have h8 : jx_cn d.1 = RX8 := by rw [e2]; rfl
      have hcp : comp = D.1 d.1 := Option.some.inj (k3.symm.trans (by rw [← h8]; exact g4.1))
      exact ⟨_, kA, comp, by rw [e1]; exact k1, k2, k3, by rw [hcp]; exact va_assign g4⟩
    · obtain ⟨kA, comp, k1, k2, k3, -⟩ := (hK.2 3 _ rfl).2
      exact ⟨_, kA, comp, by rw [e1]; exact k1, k2, k3, jx_asg hK hnw e2 k3 g4.1 g4⟩
    · obtain ⟨kA, comp, k1, k2, k3, -⟩ := (hK.2 4 _ rfl).2
      have h8 : jx_cn d.1 = RX3 := by rw [e2]; rfl
      have hcp : comp = D.1 d.1 := Option.some.inj (k3.symm.trans (by rw [← h8]; exact g4.1))
      exact ⟨_, kA, comp, by rw [e1]; exact k1, k2, k3, by rw [hcp]; exact va_assign g4⟩
  obtain ⟨C, kA, comp, k1, k2, k3, k4⟩ := hcase
  have hkcomp : ∃ kc : Class, s.vm.classes[comp]? = some kc := by
    have hsome : ∀ C', (C' = RX8 ∨ C' = RX6 ∨ C' = RX3) → ∀ q, s.vm.findClass C' = some q → ∃ kc : Class, s.vm.classes[q]? = some kc := by
      rintro C' (rfl | rfl | rfl) q hq
      · obtain ⟨-, f1, kc, f2, -⟩ := hK.1 8 (RX8, TX8, _) rfl
        cases hq.symm.trans f1
        exact ⟨kc, f2⟩
      · obtain ⟨-, f1, kc, f2, -⟩ := hK.1 6 (RX6, TX6, _) rfl
        cases hq.symm.trans f1
        exact ⟨kc, f2⟩
      · obtain ⟨-, f1, kc, f2, -⟩ := hK.1 3 (RX3, TX3, _) rfl
        cases hq.symm.trans f1
        exact ⟨kc, f2⟩
    rcases h1 with ⟨e1, e2⟩ | ⟨e1, e2⟩ | ⟨e1, e2⟩
    · obtain ⟨kA', comp', k1', k2', k3', -⟩ := (hK.2 2 _ rfl).2
      rw [e1] at k1
      cases k1.symm.trans k1'
      rw [k2] at k2'
      cases k2'
      exact hsome _ (Or.inl rfl) _ k3'
    · obtain ⟨kA', comp', k1', k2', k3', -⟩ := (hK.2 3 _ rfl).2
      rw [e1] at k1
      cases k1.symm.trans k1'
      rw [k2] at k2'
      cases k2'
      exact hsome _ (Or.inr (Or.inl rfl)) _ k3'
    · obtain ⟨kA', comp', k1', k2', k3', -⟩ := (hK.2 4 _ rfl).2
      rw [e1] at k1
      cases k1.symm.trans k1'
      rw [k2] at k2'
      cases k2'
      exact hsome _ (Or.inr (Or.inr rfl)) _ k3'
  obtain ⟨kc, hkc⟩ := hkcomp
  have x0 : ¬ i < 0 := fun q => x1 (Or.inl q)
  refine W.aast hexec hb he (fun q h => by cases h) (fun h => by cases h) k1 k2 rfl hkc ⟨x0, by rw [arrV_size, x2]; exact x3⟩ g1 (fun q h => by rw [g6] at h; cases h) (by rw [g5]; exact hkC) (by rw [g5]; exact k4) rfl rfl hdg fun H1 e1 z oq => kk H1 _ (hJ.set hc (by rw [List.length_set]) z oq (jx_at_arr (by omega) h2 x3 (v := .ref v) ?_))
  rw [e1, x2]
  rfl
theorem jw_new (hexec : p.tables.exec = Jvm.exec) (hb : c.code = cc) (hown : s.vm.findClass (jx_cn own) = some m.cls) (hts : ∀ w ∈ jx_gw, w.before args s = true) (hK : va_K D jx_cl (jx_tys dA) s) (hJ : jx_J D dA E σ0 s σ H locs cells slots) {q : Nat × List Nat} (hq : jx_lk (jx_nl.getD own []) idx = some q) {r : vw_C} (hr : jx_cl[q.1]? = some r) (hcells : cells + 1 ≤ R.cells) (hslots : slots + r.2.2 ≤ R.slots) (hdg : decode cc pc = .ok (.new idx, 3))
    (kk : ∀ (H1 : Heap), jx_J D dA E σ0 s (σ ++ [(q.1, jx_new q.1 r.2.2)]) H1 locs (cells + 1) (slots + r.2.2) → W p l e R s m args below meth c H1 locs (cells + 1) (slots + r.2.2) Q (F0 m (pc + 3) lsM (.ref (E.1 + σ.length) :: rest))) : W p l e R s m args below meth c H locs cells slots Q (F0 m pc lsM rest) := by
  have hm := jx_every_at jx_nl_ok (jx_lk_mem hq)
  unfold jx_nchk at hm
  rw [hr] at hm
  split at hm
  · rename_i r' p0 p1 p2 e1 e2
    cases e1
    simp only [Bool.and_eq_true] at hm
    obtain ⟨⟨m1, m2⟩, m3⟩ := hm
    have hKn := hK.1 q.1 _ hr
    refine W.newcK hexec hb hown (hts _ (jx_w_mem m1)) (hts _ (jx_w_mem m2)) (hts _ (jx_w_mem m3)) rfl hdg hcells hslots hKn.2.1 rfl fun H1 kC hkC e1 z1 o1 => ?_
    rw [hJ.1.1] at e1 ⊢
    have hlen : (jx_new q.1 r.2.2).length = r.2.2 := by simp [jx_new]
    refine kk H1 (hJ.push hlen z1 o1 ⟨fun _ => ⟨r, hr, hlen, ?_⟩, fun h => absurd (jx_cl_lt hr) (Nat.not_lt.mpr h)⟩)
    refine (u_born _ hts (jx_uws hr) hKn hkC e1 (jx_ty_ok _ _ hr).1).to (fun k hk => ?_)
    have hg : (jx_new q.1 r.2.2)[k]? = some (jx_def ((jx_tyf.getD q.1 (fun _ => .int)) k)) := by simp [jx_new, hk]
    rw [jx_V_get (jx_fs_get hg)]
    have ht := jx_okt_at hr hk
    generalize (jx_tyf.getD q.1 (fun _ => .int)) k = ty at ht
    cases ty <;> first | rfl | (simp [jx_okt] at ht)
  · cases hm
theorem jw_newa (hexec : p.tables.exec = Jvm.exec) (hb : c.code = cc) (hts : ∀ w ∈ jx_gw, w.before args s = true) (hK : va_K D jx_cl (jx_tys dA) s) (hJ : jx_J D dA E σ0 s σ H locs cells slots) {n : Int32} (h0 : 0 ≤ n.toInt) (h1 : n.toInt ≤ 100000) (hcells : cells + 1 ≤ R.cells) (hslots : slots + n.toInt.toNat ≤ R.slots) (hdg : decode cc pc = .ok (.newarray .int, 2))
    (kk : ∀ (H1 : Heap), jx_J D dA E σ0 s (σ ++ [(100, List.replicate n.toInt.toNat (.int (jI 0)))]) H1 locs (cells + 1) (slots + n.toInt.toNat) → W p l e R s m args below meth c H1 locs (cells + 1) (slots + n.toInt.toNat) Q (F0 m (pc + 2) lsM (.ref (E.1 + σ.length) :: rest))) : W p l e R s m args below meth c H locs cells slots Q (F0 m pc lsM (.int n :: rest)) := by
  have hn : ¬ n < 0 := by rw [Int32.lt_iff_toInt_lt, Int32.toInt_zero]; omega
  refine va_newaK hexec hb (atype := .int) (hts _ jx_aci) rfl hdg rfl hn (N := n.toInt.toNat) rfl (by show _ * 4 ≤ _; omega) hcells hslots rfl fun H1 cA e1 z1 o1 hAr hNm => ?_
  have hcA : cA = dA 100 := by
    have h2 : s.vm.findClass ("[" ++ (FieldType.int).toString) = some (dA 100) := (hK.2 0 _ rfl).2
    exact Option.some.inj (hNm.symm.trans h2)
  subst hcA
  rw [hJ.1.1] at e1 ⊢
  refine kk H1 (hJ.push (List.length_replicate) z1 o1 ⟨fun h => absurd h (by show ¬ (100 < 100); omega), fun _ => ⟨by show 100 < 105; omega, ?_⟩⟩)
  rw [e1]
  show some (arrV (dA 100) n.toInt.toNat _) = some (arrV (dA 100) (List.replicate n.toInt.toNat (Value.int (jI 0))).length _)
  rw [List.length_replicate]
  congr 1
  refine jx_arrV_congr fun j hj => ?_
  rw [jx_V_get (jx_fs_get (v := .int (jI 0)) (jx_rep hj))]
  rfl
theorem jw_newl (hexec : p.tables.exec = Jvm.exec) (hb : c.code = cc) (hts : ∀ w ∈ jx_gw, w.before args s = true) (hK : va_K D jx_cl (jx_tys dA) s) (hJ : jx_J D dA E σ0 s σ H locs cells slots) {n : Int32} (h0 : 0 ≤ n.toInt) (h1 : n.toInt ≤ 100000) (hcells : cells + 1 ≤ R.cells) (hslots : slots + n.toInt.toNat ≤ R.slots) (hdg : decode cc pc = .ok (.newarray .long, 2))
    (kk : ∀ (H1 : Heap), jx_J D dA E σ0 s (σ ++ [(101, List.replicate n.toInt.toNat (.long (jL 0)))]) H1 locs (cells + 1) (slots + n.toInt.toNat) → W p l e R s m args below meth c H1 locs (cells + 1) (slots + n.toInt.toNat) Q (F0 m (pc + 2) lsM (.ref (E.1 + σ.length) :: rest))) : W p l e R s m args below meth c H locs cells slots Q (F0 m pc lsM (.int n :: rest)) := by
  have hn : ¬ n < 0 := by rw [Int32.lt_iff_toInt_lt, Int32.toInt_zero]; omega
  refine va_newaK hexec hb (atype := .long) (hts _ jx_acl) rfl hdg rfl hn (N := n.toInt.toNat) rfl (by show _ * 8 ≤ _; omega) hcells hslots rfl fun H1 cA e1 z1 o1 hAr hNm => ?_
  have hcA : cA = dA 101 := by
    have h2 : s.vm.findClass ("[" ++ (FieldType.long).toString) = some (dA 101) := (hK.2 1 _ rfl).2
    exact Option.some.inj (hNm.symm.trans h2)
  subst hcA
  rw [hJ.1.1] at e1 ⊢
  refine kk H1 (hJ.push (List.length_replicate) z1 o1 ⟨fun h => absurd h (by show ¬ (101 < 100); omega), fun _ => ⟨by show 101 < 105; omega, ?_⟩⟩)
  rw [e1]
  show some (arrV (dA 101) n.toInt.toNat _) = some (arrV (dA 101) (List.replicate n.toInt.toNat (Value.long (jL 0))).length _)
  rw [List.length_replicate]
  congr 1
  refine jx_arrV_congr fun j hj => ?_
  rw [jx_V_get (jx_fs_get (v := .long (jL 0)) (jx_rep hj))]
  rfl
theorem jw_anew (hexec : p.tables.exec = Jvm.exec) (hb : c.code = cc) (hown : s.vm.findClass (jx_cn own) = some m.cls) (hts : ∀ w ∈ jx_gw, w.before args s = true) (hK : va_K D jx_cl (jx_tys dA) s) (hao : va_AO RX8 s ∧ va_AO RX6 s ∧ va_AO RX3 s) (hJ : jx_J D dA E σ0 s σ H locs cells slots) {n : Int32} {q : Nat × Nat} (hq : jx_lk (jx_al.getD own []) idx = some q) (h0 : 0 ≤ n.toInt) (h1 : n.toInt ≤ 100000) (hcells : cells + 1 ≤ R.cells) (hslots : slots + n.toInt.toNat ≤ R.slots) (hdg : decode cc pc = .ok (.anewarray idx, 3))
    (kk : ∀ (H1 : Heap), jx_J D dA E σ0 s (σ ++ [(q.1, List.replicate n.toInt.toNat .null)]) H1 locs (cells + 1) (slots + n.toInt.toNat) → W p l e R s m args below meth c H1 locs (cells + 1) (slots + n.toInt.toNat) Q (F0 m (pc + 3) lsM (.ref (E.1 + σ.length) :: rest))) : W p l e R s m args below meth c H locs cells slots Q (F0 m pc lsM (.int n :: rest)) := by
  have hn : ¬ n < 0 := by rw [Int32.lt_iff_toInt_lt, Int32.toInt_zero]; omega
  have hm := jx_every_at jx_al_ok (jx_lk_mem hq)
  unfold jx_achk at hm
  simp only [Bool.and_eq_true, Bool.or_eq_true, beq_iff_eq] at hm
  obtain ⟨m1, m2⟩ := hm
  have hov : (Cond.arrayOver (.object (jx_an q.1))).before args s = true := by
    obtain ⟨a1, a2, a3⟩ := hao
    rcases m2 with (h | h) | h <;> rw [h]
    · exact va_AO.use a1
    · exact va_AO.use a2
    · exact va_AO.use a3
  have hnm : s.vm.findClass ("[" ++ (FieldType.object (jx_an q.1)).toString) = some (dA q.1) := by
    rcases m2 with (h | h) | h <;> rw [h]
    · obtain ⟨-, -, -, -, -, z⟩ := (hK.2 2 _ rfl).2; exact z
    · obtain ⟨-, -, -, -, -, z⟩ := (hK.2 3 _ rfl).2; exact z
    · obtain ⟨-, -, -, -, -, z⟩ := (hK.2 4 _ rfl).2; exact z
  refine W.anew hexec hb hown (hts _ (jx_w_mem m1)) hov rfl hdg rfl hn (by show n.toInt.toNat * 4 ≤ _; omega) hcells hslots fun cA kA comp f1 f2 f3 f4 => ?_
  cases hnm.symm.trans f1
  generalize hH1 : H.push ({ cls := dA q.1, slots := Array.replicate n.toNatClampNeg .null, vm := .none } : Cell) = H1
  have z1 : H1.size = H.size + 1 := by rw [← hH1, Array.size_push]
  have e1 : H1[H.size]? = some (arrV (dA q.1) n.toNatClampNeg (fun _ => .null)) := by rw [← hH1, Array.getElem?_push_size, ← arrV_new]
  have o1 : ∀ q : Nat, q < H.size → H1[q]? = H[q]? := fun q hq => by rw [← hH1, Array.getElem?_push, if_neg (Nat.ne_of_lt hq)]
  rw [hJ.1.1] at e1 ⊢
  refine kk H1 (hJ.push (List.length_replicate) z1 o1 ⟨fun h => absurd h (by show ¬ (q.1 < 100); omega), fun _ => ⟨by show q.1 < 105; omega, ?_⟩⟩)
  rw [e1]
  show some (arrV (dA q.1) n.toInt.toNat _) = some (arrV (dA q.1) (List.replicate n.toInt.toNat Value.null).length _)
  rw [List.length_replicate]
  congr 1
  refine jx_arrV_congr fun j hj => ?_
  rw [jx_V_get (jx_fs_get (v := .null) (jx_rep hj))]
  rfl
theorem jw_inst (hexec : p.tables.exec = Jvm.exec) (hb : c.code = cc) (hown : s.vm.findClass (jx_cn own) = some m.cls) (hts : ∀ w ∈ jx_gw, w.before args s = true) (hnw : ∀ w ∈ jx_nw, va_Nw w s) (hnc : ∀ q ∈ jx_nc, va_Nc q.1 q.2 s) (hK : va_K D jx_cl (jx_tys dA) s) (hat : jx_at D dA E a cel H) {t : Nat × Nat × Nat × String × Nat × Nat} (ht : (jx_io.getD own []).find? (fun e => Nat.beq e.1 idx && Nat.beq e.2.1 cel.1) = some t) (hdg : decode cc pc = .ok (.instanceof idx, 3))
    (kk : W p l e R s m args below meth c H locs cells slots Q (F0 m (pc + 3) lsM (jx_v E (if t.2.2.1 = 0 then .int (jI 0) else .int (jI 1)) :: rest))) : W p l e R s m args below meth c H locs cells slots Q (F0 m pc lsM (.ref (E.1 + a) :: rest)) := by
  have hm := jx_every_at jx_io_ok (List.mem_of_find?_eq_some ht)
  have hp := List.find?_some ht
  simp only [Bool.and_eq_true] at hp
  have e1 := Nat.eq_of_beq_eq_true hp.1
  have e2 := Nat.eq_of_beq_eq_true hp.2
  unfold jx_iochk at hm
  rw [e1, e2] at hm
  simp only [Bool.and_eq_true, decide_eq_true_eq] at hm
  obtain ⟨⟨m1, m2⟩, m3⟩ := hm
  obtain ⟨cell, g1, g2, g3, g4, g5, g6⟩ := jx_recv hK hat (by omega)
  split at m2
  · rename_i h0
    simp only [decide_eq_true_eq] at m2
    rw [if_pos h0] at kk
    exact va_instNo hexec hb hown (hts _ (jx_w_mem m1)) (hnc _ m2) ⟨cell, g1, g2, g3⟩ hdg kk
  · rename_i h0
    simp only [decide_eq_true_eq] at m2
    rw [if_neg (by rw [h0]; decide)] at kk
    exact va_instS hexec hb hown (hts _ (jx_w_mem m1)) (cC := D.1 cel.1) (by rw [← m2]; exact g4) ⟨cell, g1, g2, by rw [← m2]; exact g3⟩ hdg kk
  · rename_i h0 h1
    rw [if_neg h0] at kk
    exact va_instY hexec hb hown (hts _ (jx_w_mem m1)) (hnw _ (jx_wn_mem m2)) ⟨cell, g1, g2, g3⟩ hdg kk
end JM2
