/-! each kind of instruction of ours is the true machine's -/
theorem jx_bif {α : Type} {b : Bool} {o : Option α} {c : α} (h : (bif b then o else none) = some c) : b = true ∧ o = some c := by
  cases b
  · cases h
  · exact ⟨rfl, h⟩
theorem jx_bifn {α : Type} {b : Bool} {o : Option α} {c : α} (h : (bif b then none else o) = some c) : b = false ∧ o = some c := by
  cases b
  · exact ⟨rfl, h⟩
  · cases h
theorem jx_i8 {n : Int} (h1 : -128 ≤ n) (h2 : n ≤ 127) : (Int8.ofInt n).toInt32 = jI n := by
  apply Int32.toInt_inj.mp
  rw [Int8.toInt_toInt32, Int8.toInt_ofInt_of_le (by omega) (by omega), Int32.toInt_ofInt_of_le (by omega) (by omega)]
theorem jx_i16 {n : Int} (h1 : -32768 ≤ n) (h2 : n ≤ 32767) : (Int16.ofInt n).toInt32 = jI n := by
  apply Int32.toInt_inj.mp
  rw [Int16.toInt_toInt32, Int16.toInt_ofInt_of_le (by omega) (by omega), Int32.toInt_ofInt_of_le (by omega) (by omega)]
def jx_plen : Instr → Nat
  | .bipush _ => 2
  | .iload _ => 2
  | .aload _ => 2
  | .istore _ => 2
  | .astore _ => 2
  | .lload _ => 2
  | .lstore _ => 2
  | .ldc _ => 2
  | .newarray _ => 2
  | .sipush _ => 3
  | .iinc _ _ => 3
  | .goto _ => 3
  | .ldc_w _ => 3
  | .ldc2_w _ => 3
  | .ifCond _ _ => 3
  | .if_icmp _ _ => 3
  | .ifnull _ => 3
  | .ifnonnull _ => 3
  | .getfield _ => 3
  | .putfield _ => 3
  | .getstatic _ => 3
  | .new _ => 3
  | .anewarray _ => 3
  | .instanceof _ => 3
  | .invokestatic _ => 3
  | .invokevirtual _ => 3
  | .invokespecial _ => 3
  | _ => 1
section JW
variable {p : Program} {l : Launch} {e : Env} {R : Room} {s : State} {m : MethodId} {args : Array Value} {below : List Frame} {meth : Method} {c : Code} {H : Heap} {locs : List Loc} {cells slots : Nat} {Q : State → Prop}
variable {cc : ByteArray} {pc nL : Nat} {lsM : Array Slot} {E : jx_E} {ls st : List Value} {c' : Nat × List Value × List Value}
theorem jw_ldi {i a : Nat} (h : jx_ldi ls i a st = some c') (hl : jx_L E nL lsM ls) : ∃ x : Int32, lsM[i]? = some (.val (.int x)) ∧ c' = (a, ls, .int x :: st) := by
  unfold jx_ldi at h
  split at h
  · rename_i x hx
    cases h
    exact ⟨x, hl.at hx (fun q => by cases q), rfl⟩
  · cases h
theorem jw_ldl {i a : Nat} (h : jx_ldl ls i a st = some c') (hl : jx_L E nL lsM ls) : ∃ x : Int64, lsM[i]? = some (.val (.long x)) ∧ c' = (a, ls, .long x :: st) := by
  unfold jx_ldl at h
  split at h
  · rename_i x hx
    cases h
    exact ⟨x, hl.at hx (fun q => by cases q), rfl⟩
  · cases h
theorem jw_lda {i a : Nat} (h : jx_lda ls i a st = some c') (hl : jx_L E nL lsM ls) : ∃ v : Value, lsM[i]? = some (.val (jx_v E v)) ∧ c' = (a, ls, v :: st) ∧ jx_isr v = true := by
  unfold jx_lda at h
  split at h
  · rename_i v hv
    obtain ⟨h1, h2⟩ := jx_bif h
    cases h2
    exact ⟨v, hl.at hv (jx_isr_ne h1), rfl, h1⟩
  · cases h
theorem jw_sto {i a : Nat} {v : Value} (h : jx_sto ls i a v st = some c') : ∃ l, jx_put ls i v = some l ∧ c' = (a, l, st) := by
  unfold jx_sto at h
  split at h
  · rename_i l hl
    cases h
    exact ⟨l, hl, rfl⟩
  · cases h
theorem jw_sto2 {i a : Nat} {v : Value} (h : jx_sto2 ls i a v st = some c') : ∃ l, jx_put2 ls i v = some l ∧ c' = (a, l, st) := by
  unfold jx_sto2 at h
  split at h
  · rename_i l hl
    cases h
    exact ⟨l, hl, rfl⟩
  · cases h
theorem jx_put_lt {i : Nat} {v : Value} {l : List Value} (h : jx_put ls i v = some l) (hl : jx_L E nL lsM ls) : i < nL := by
  have := (jx_put_spec _ _ _ _ h).1
  rw [hl.1] at this
  exact this
theorem jw_aload (hexec : p.tables.exec = Jvm.exec) (hb : c.code = cc) {i len : Nat} {v : Value} {rest : List Value} (hdg : decode cc pc = .ok (.aload i, 2)) (hv : v = .null ∨ ∃ a, v = .ref a) (hl : lsM[i]? = some (.val v))
    (k : W p l e R s m args below meth c H locs cells slots Q (F0 m (pc + 2) lsM (v :: rest))) : W p l e R s m args below meth c H locs cells slots Q (F0 m pc lsM rest) := by
  intro T hT X
  obtain ⟨t, a, b⟩ := k T hT X
  refine ⟨t, ?_, b⟩
  rcases hv with rfl | ⟨y, rfl⟩
  · jvm_step X.here [X.here.top, hexec, hb, hdg, hl, Value.isRef]
    exact a
  · jvm_step X.here [X.here.top, hexec, hb, hdg, hl, Value.isRef]
    exact a
theorem jw_aload_n (hexec : p.tables.exec = Jvm.exec) (hb : c.code = cc) {i : Fin 4} {v : Value} {rest : List Value} (hdg : decode cc pc = .ok (.aload_n i, 1)) (hv : v = .null ∨ ∃ a, v = .ref a) (hl : lsM[i.val]? = some (.val v))
    (k : W p l e R s m args below meth c H locs cells slots Q (F0 m (pc + 1) lsM (v :: rest))) : W p l e R s m args below meth c H locs cells slots Q (F0 m pc lsM rest) := by
  intro T hT X
  obtain ⟨t, a, b⟩ := k T hT X
  refine ⟨t, ?_, b⟩
  rcases hv with rfl | ⟨y, rfl⟩
  · jvm_step X.here [X.here.top, hexec, hb, hdg, hl, Value.isRef]
    exact a
  · jvm_step X.here [X.here.top, hexec, hb, hdg, hl, Value.isRef]
    exact a
theorem jw_astore (hexec : p.tables.exec = Jvm.exec) (hb : c.code = cc) {i : Nat} {v : Value} {rest : List Value} {lv : List (Nat × Value)} (hdg : decode cc pc = .ok (.astore i, 2)) (hv : v = .null ∨ ∃ a, v = .ref a) (h : lv_has lsM nL lv) (hn : i < nL)
    (kk : ∀ ls' : Array Slot, lv_has ls' nL ((i, v) :: lv.filter (fun q => !(q.1 == i) && !(q.1 + 1 == i && q.2.category == 2))) → W p l e R s m args below meth c H locs cells slots Q (F0 m (pc + 2) ls' rest)) : W p l e R s m args below meth c H locs cells slots Q (F0 m pc lsM (v :: rest)) := by
  have hc : v.category = 1 := by rcases hv with rfl | ⟨y, rfl⟩ <;> rfl
  obtain ⟨ls', e', h'⟩ := lv_store1 (v := v) h hn hc
  intro T hT X
  obtain ⟨t, a, b⟩ := kk ls' h' T hT X
  refine ⟨t, ?_, b⟩
  rcases hv with rfl | ⟨y, rfl⟩
  · jvm_step X.here [X.here.top, ↓top_set X.here.top, hexec, hb, hdg, e', Value.isRef]
    exact a
  · jvm_step X.here [X.here.top, ↓top_set X.here.top, hexec, hb, hdg, e', Value.isRef]
    exact a
theorem jw_astore_n (hexec : p.tables.exec = Jvm.exec) (hb : c.code = cc) {i : Fin 4} {v : Value} {rest : List Value} {lv : List (Nat × Value)} (hdg : decode cc pc = .ok (.astore_n i, 1)) (hv : v = .null ∨ ∃ a, v = .ref a) (h : lv_has lsM nL lv) (hn : i.val < nL)
    (kk : ∀ ls' : Array Slot, lv_has ls' nL ((i.val, v) :: lv.filter (fun q => !(q.1 == i.val) && !(q.1 + 1 == i.val && q.2.category == 2))) → W p l e R s m args below meth c H locs cells slots Q (F0 m (pc + 1) ls' rest)) : W p l e R s m args below meth c H locs cells slots Q (F0 m pc lsM (v :: rest)) := by
  have hc : v.category = 1 := by rcases hv with rfl | ⟨y, rfl⟩ <;> rfl
  obtain ⟨ls', e', h'⟩ := lv_store1 (v := v) h hn hc
  intro T hT X
  obtain ⟨t, a, b⟩ := kk ls' h' T hT X
  refine ⟨t, ?_, b⟩
  rcases hv with rfl | ⟨y, rfl⟩
  · jvm_step X.here [X.here.top, ↓top_set X.here.top, hexec, hb, hdg, e', Value.isRef]
    exact a
  · jvm_step X.here [X.here.top, ↓top_set X.here.top, hexec, hb, hdg, e', Value.isRef]
    exact a
theorem jx_lk_mem {α : Type} {l : List (Nat × α)} {k : Nat} {a : α} (h : jx_lk l k = some a) : (k, a) ∈ l := by
  induction l with
  | nil => cases h
  | cons q t ih =>
    unfold jx_lk at h
    cases hb : Nat.beq q.1 k with
    | true =>
      rw [hb] at h
      have e1 := Nat.eq_of_beq_eq_true hb
      cases h
      subst e1
      exact List.mem_cons_self
    | false =>
      rw [hb] at h
      exact List.mem_cons_of_mem _ (ih h)
set_option maxHeartbeats 4000000 in
theorem jw_pure (hexec : p.tables.exec = Jvm.exec) (hb : c.code = cc) {own : Nat} (hown : s.vm.findClass (jx_cn own) = some m.cls) (hts : ∀ w ∈ jx_gw, w.before args s = true) {I : Instr} (hdg : decode cc pc = .ok (I, jx_plen I)) (hl : jx_L E nL lsM ls) (h : jx_pure own I pc ls st = some c')
    (kk : ∀ lsM' : Array Slot, jx_L E nL lsM' c'.2.1 → W p l e R s m args below meth c H locs cells slots Q (F0 m c'.1 lsM' (c'.2.2.map (jx_v E)))) : W p l e R s m args below meth c H locs cells slots Q (F0 m pc lsM (st.map (jx_v E))) := by
  unfold jx_pure at h
  split at h
  · cases h; exact lv_iconst hexec hb hdg rfl (kk _ hl)
  · obtain ⟨h1, h2⟩ := jx_bif h
    cases h2
    simp only [Bool.and_eq_true, decide_eq_true_eq] at h1
    exact lv_bipush hexec hb hdg (jx_i8 h1.1 h1.2) (kk _ hl)
  · obtain ⟨h1, h2⟩ := jx_bif h
    cases h2
    simp only [Bool.and_eq_true, decide_eq_true_eq] at h1
    exact lv_sipush hexec hb hdg (jx_i16 h1.1 h1.2) (kk _ hl)
  · obtain ⟨x, hx, rfl⟩ := jw_ldi h hl; exact lv_iload_n hexec hb hdg rfl hx (kk _ hl)
  · obtain ⟨x, hx, rfl⟩ := jw_ldi h hl; exact lv_iload hexec hb hdg hx (kk _ hl)
  · obtain ⟨x, hx, rfl⟩ := jw_ldl h hl; exact lv_lload_n hexec hb hdg rfl hx (kk _ hl)
  · obtain ⟨x, hx, rfl⟩ := jw_ldl h hl; exact lv_lload hexec hb hdg hx (kk _ hl)
  · obtain ⟨v, hv, rfl, hr⟩ := jw_lda h hl; exact jw_aload_n hexec hb hdg (jx_isr_ref hr) hv (kk _ hl)
  · obtain ⟨v, hv, rfl, hr⟩ := jw_lda h hl; exact jw_aload (len := 2) hexec hb hdg (jx_isr_ref hr) hv (kk _ hl)
  · obtain ⟨q, hq, rfl⟩ := jw_sto h; exact lv_istore_n hexec hb hdg rfl hl.2 (jx_put_lt hq hl) rfl (fun ls' h' => kk _ (hl.put hq h'))
  · obtain ⟨q, hq, rfl⟩ := jw_sto h; exact lv_istore hexec hb hdg hl.2 (jx_put_lt hq hl) rfl (fun ls' h' => kk _ (hl.put hq h'))
  · obtain ⟨h1, h2⟩ := jx_bif h
    obtain ⟨q, hq, rfl⟩ := jw_sto h2; exact jw_astore_n hexec hb hdg (jx_isr_ref h1) hl.2 (jx_put_lt hq hl) (fun ls' h' => kk _ (hl.put hq h'))
  · obtain ⟨h1, h2⟩ := jx_bif h
    obtain ⟨q, hq, rfl⟩ := jw_sto h2; exact jw_astore hexec hb hdg (jx_isr_ref h1) hl.2 (jx_put_lt hq hl) (fun ls' h' => kk _ (hl.put hq h'))
  · obtain ⟨q, hq, rfl⟩ := jw_sto2 h; exact lv_lstore_n hexec hb hdg rfl hl.2 (by have := jx_put2_lt hq; rw [hl.1] at this; exact this) rfl (fun ls' h' => kk _ (hl.put2 hq h'))
  · obtain ⟨q, hq, rfl⟩ := jw_sto2 h; exact lv_lstore hexec hb hdg hl.2 (by have := jx_put2_lt hq; rw [hl.1] at this; exact this) rfl (fun ls' h' => kk _ (hl.put2 hq h'))
  · split at h
    · rename_i x hx
      obtain ⟨q, hq, rfl⟩ := jw_sto h
      obtain ⟨k, hk⟩ := List.getElem?_of_mem (jx_as_mem.mpr ⟨_, hx, (fun z => by cases z), rfl⟩ : _ ∈ jx_as E ls)
      exact lv_iinc hexec hb hdg hl.2 hk rfl (jx_put_lt hq hl) rfl (fun ls' h' => kk _ (hl.put hq h'))
    · cases h
  · cases h; exact lv_iadd hexec hb hdg (kk _ hl)
  · cases h; exact lv_isub hexec hb hdg (kk _ hl)
  · cases h; exact lv_imul hexec hb hdg (kk _ hl)
  · cases h; exact lv_iand hexec hb hdg (kk _ hl)
  · cases h; exact lv_ior hexec hb hdg (kk _ hl)
  · cases h; exact lv_ixor hexec hb hdg (kk _ hl)
  · cases h; exact lv_ishl hexec hb hdg (kk _ hl)
  · cases h; exact lv_ishr hexec hb hdg (kk _ hl)
  · cases h; exact lv_ineg hexec hb hdg (kk _ hl)
  · split at h
    · cases h
    · rename_i hy; cases h; exact lv_idiv hexec hb hdg hy (kk _ hl)
  · split at h
    · cases h
    · rename_i hy; cases h; exact lv_irem hexec hb hdg hy (kk _ hl)
  · cases h; exact lv_i2l hexec hb hdg rfl (kk _ hl)
  · cases h; exact lv_ladd hexec hb hdg (kk _ hl)
  · cases h; exact lv_lsub hexec hb hdg (kk _ hl)
  · cases h; exact lv_lmul hexec hb hdg (kk _ hl)
  · cases h; exact W.lcmp hexec hb hdg (kk _ hl)
  · obtain ⟨h1, h2⟩ := jx_bif h
    cases h2
    exact lv_dup hexec hb hdg (by rw [jx_v_cat]; exact jx_c1_cat h1) (kk _ hl)
  · obtain ⟨h1, h2⟩ := jx_bif h
    cases h2
    rw [Bool.and_eq_true] at h1
    exact lv_dup2_11 hexec hb hdg (by rw [jx_v_cat]; exact jx_c1_cat h1.1) (by rw [jx_v_cat]; exact jx_c1_cat h1.2) (kk _ hl)
  · obtain ⟨h1, h2⟩ := jx_bif h
    cases h2
    exact lv_pop hexec hb hdg (by rw [jx_v_cat]; exact jx_c1_cat h1) (kk _ hl)
  · split at h
    · rename_i t ht
      cases h
      exact lv_goto hexec hb hdg (jx_tgt_eq ht) (kk _ hl)
    · cases h
  · cases h; exact lv_null hexec hb hdg (kk _ hl)
  · split at h
    · rename_i q hq
      cases h
      exact lv_ldc hexec hb hown (hts _ (jx_w_mem (jx_every_at jx_ci_ok (jx_lk_mem hq)))) hdg (kk _ hl)
    · cases h
  · split at h
    · rename_i q hq
      cases h
      exact lv_ldcw hexec hb hown (hts _ (jx_w_mem (jx_every_at jx_ci_ok (jx_lk_mem hq)))) hdg (kk _ hl)
    · cases h
  · split at h
    · rename_i q hq
      cases h
      exact lv_ldc2 hexec hb hown (hts _ (jx_w_mem (jx_every_at jx_cj_ok (jx_lk_mem hq)))) hdg (kk _ hl)
    · cases h
  · cases h
theorem jw_bt {b : Bool} {x y : Nat} {F : Nat → Prop} (h : F (bif b then x else y)) (hb : b = true) : F x := by subst hb; exact h
theorem jw_bf {b : Bool} {x y : Nat} {F : Nat → Prop} (h : F (bif b then x else y)) (hb : b = false) : F y := by subst hb; exact h
set_option maxHeartbeats 4000000 in
theorem jw_br (hexec : p.tables.exec = Jvm.exec) (hb : c.code = cc) {I : Instr} {b : Bool × Nat × List Value} (hdg : decode cc pc = .ok (I, 3)) (h : jx_br I pc st = some b)
    (kk : W p l e R s m args below meth c H locs cells slots Q (F0 m (bif b.1 then b.2.1 else pc + 3) lsM (b.2.2.map (jx_v E)))) : W p l e R s m args below meth c H locs cells slots Q (F0 m pc lsM (st.map (jx_v E))) := by
  unfold jx_br at h
  split at h
  · split at h
    · cases h
    · rename_i t ht
      split at h <;> cases h
      · exact lv_if_eq hexec hb hdg (jx_tgt_eq ht) (fun hc => jw_bt (F := fun z => W p l e R s m args below meth c H locs cells slots Q (F0 m z lsM _)) kk (decide_eq_true hc)) (fun hc => jw_bf (F := fun z => W p l e R s m args below meth c H locs cells slots Q (F0 m z lsM _)) kk (decide_eq_false hc))
      · exact lv_if_ne hexec hb hdg (jx_tgt_eq ht) (fun hc => jw_bt (F := fun z => W p l e R s m args below meth c H locs cells slots Q (F0 m z lsM _)) kk (by simp [hc])) (fun hc => jw_bf (F := fun z => W p l e R s m args below meth c H locs cells slots Q (F0 m z lsM _)) kk (by simp [hc]))
      · exact lv_if_lt hexec hb hdg (jx_tgt_eq ht) (fun hc => jw_bt (F := fun z => W p l e R s m args below meth c H locs cells slots Q (F0 m z lsM _)) kk (decide_eq_true hc)) (fun hc => jw_bf (F := fun z => W p l e R s m args below meth c H locs cells slots Q (F0 m z lsM _)) kk (decide_eq_false hc))
      · exact lv_if_ge hexec hb hdg (jx_tgt_eq ht) (fun hc => jw_bt (F := fun z => W p l e R s m args below meth c H locs cells slots Q (F0 m z lsM _)) kk (decide_eq_true hc)) (fun hc => jw_bf (F := fun z => W p l e R s m args below meth c H locs cells slots Q (F0 m z lsM _)) kk (decide_eq_false hc))
      · exact lv_if_gt hexec hb hdg (jx_tgt_eq ht) (fun hc => jw_bt (F := fun z => W p l e R s m args below meth c H locs cells slots Q (F0 m z lsM _)) kk (decide_eq_true hc)) (fun hc => jw_bf (F := fun z => W p l e R s m args below meth c H locs cells slots Q (F0 m z lsM _)) kk (decide_eq_false hc))
      · exact lv_if_le hexec hb hdg (jx_tgt_eq ht) (fun hc => jw_bt (F := fun z => W p l e R s m args below meth c H locs cells slots Q (F0 m z lsM _)) kk (decide_eq_true hc)) (fun hc => jw_bf (F := fun z => W p l e R s m args below meth c H locs cells slots Q (F0 m z lsM _)) kk (decide_eq_false hc))
  · split at h
    · cases h
    · rename_i t ht
      split at h <;> cases h
      · exact lv_icmp_eq hexec hb hdg (jx_tgt_eq ht) (fun hc => jw_bt (F := fun z => W p l e R s m args below meth c H locs cells slots Q (F0 m z lsM _)) kk (decide_eq_true hc)) (fun hc => jw_bf (F := fun z => W p l e R s m args below meth c H locs cells slots Q (F0 m z lsM _)) kk (decide_eq_false hc))
      · exact lv_icmp_ne hexec hb hdg (jx_tgt_eq ht) (fun hc => jw_bt (F := fun z => W p l e R s m args below meth c H locs cells slots Q (F0 m z lsM _)) kk (by simp [hc])) (fun hc => jw_bf (F := fun z => W p l e R s m args below meth c H locs cells slots Q (F0 m z lsM _)) kk (by simp [hc]))
      · exact lv_icmp_lt hexec hb hdg (jx_tgt_eq ht) (fun hc => jw_bt (F := fun z => W p l e R s m args below meth c H locs cells slots Q (F0 m z lsM _)) kk (decide_eq_true hc)) (fun hc => jw_bf (F := fun z => W p l e R s m args below meth c H locs cells slots Q (F0 m z lsM _)) kk (decide_eq_false hc))
      · exact lv_icmp_ge hexec hb hdg (jx_tgt_eq ht) (fun hc => jw_bt (F := fun z => W p l e R s m args below meth c H locs cells slots Q (F0 m z lsM _)) kk (decide_eq_true hc)) (fun hc => jw_bf (F := fun z => W p l e R s m args below meth c H locs cells slots Q (F0 m z lsM _)) kk (decide_eq_false hc))
      · exact lv_icmp_gt hexec hb hdg (jx_tgt_eq ht) (fun hc => jw_bt (F := fun z => W p l e R s m args below meth c H locs cells slots Q (F0 m z lsM _)) kk (decide_eq_true hc)) (fun hc => jw_bf (F := fun z => W p l e R s m args below meth c H locs cells slots Q (F0 m z lsM _)) kk (decide_eq_false hc))
      · exact lv_icmp_le hexec hb hdg (jx_tgt_eq ht) (fun hc => jw_bt (F := fun z => W p l e R s m args below meth c H locs cells slots Q (F0 m z lsM _)) kk (decide_eq_true hc)) (fun hc => jw_bf (F := fun z => W p l e R s m args below meth c H locs cells slots Q (F0 m z lsM _)) kk (decide_eq_false hc))
  · split at h
    · cases h
    · rename_i t ht
      split at h <;> cases h
      · exact lv_ifnullN hexec hb hdg (jx_tgt_eq ht) kk
      · exact lv_ifnull hexec hb hdg kk
  · split at h
    · cases h
    · rename_i t ht
      split at h <;> cases h
      · exact lv_ifnonnullN hexec hb hdg kk
      · exact lv_ifnonnull hexec hb hdg (jx_tgt_eq ht) kk
  · cases h
theorem jw_sw (hexec : p.tables.exec = Jvm.exec) (hb : c.code = cc) {I : Instr} {len : Nat} {b : Nat × List Value} (hdg : decode cc pc = .ok (I, len)) (h : jx_sw I pc st = some b)
    (kk : W p l e R s m args below meth c H locs cells slots Q (F0 m b.1 lsM (b.2.map (jx_v E)))) : W p l e R s m args below meth c H locs cells slots Q (F0 m pc lsM (st.map (jx_v E))) := by
  unfold jx_sw at h
  split at h
  · split at h
    · rename_i hc
      split at h
      · rename_i t ht
        cases h
        exact lv_tableOut hexec hb hdg hc (jx_tgt_eq ht) kk
      · cases h
    · rename_i hc
      split at h
      · cases h
      · rename_i off ho
        split at h
        · rename_i t ht
          cases h
          exact lv_tableIn hexec hb hdg (fun q => hc (Or.inl q)) (fun q => hc (Or.inr q)) ho (jx_tgt_eq ht) kk
        · cases h
  · cases h
end JW
