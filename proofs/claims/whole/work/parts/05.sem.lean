/-! A small machine of our own over a heap that is a plain list: what the methods do, told by a function for each kind of instruction. -/
abbrev jI (z : Int) : Int32 := Int32.ofInt z
abbrev jL (z : Int) : Int64 := Int64.ofInt z
/-- an object (a class's number, its fields) or a row (100 int[], 101 long[], 102 .. 104 rows of objects) -/
abbrev jx_C : Type := Nat × List Value
abbrev jx_H : Type := List jx_C
def jx_lk {α : Type} (l : List (Nat × α)) (k : Nat) : Option α :=
  match l with
  | [] => none
  | q :: t => bif Nat.beq q.1 k then some q.2 else jx_lk t k
def jx_code (M pc : Nat) : Option (Instr × Nat) := jx_lk (jx_ks.getD M []) pc
def jx_isr : Value → Bool
  | .ref _ => true
  | .null => true
  | .retAddr 0 => true
  | .retAddr 1 => true
  | _ => false
def jx_c1 : Value → Bool
  | .long _ => false
  | .double _ => false
  | _ => true
def jx_put : List Value → Nat → Value → Option (List Value)
  | [], _, _ => none
  | _ :: t, 0, v => some (v :: t)
  | a :: t, k + 1, v =>
    match k, a with
    | 0, .long _ => none
    | 0, .double _ => none
    | _, _ => match jx_put t k v with
      | some t' => some (a :: t')
      | none => none
def jx_put2 (ls : List Value) (i : Nat) (v : Value) : Option (List Value) :=
  match jx_put ls i v, ls[i + 1]? with
  | some l, some _ => some (l.set (i + 1) (.retAddr 2))
  | _, _ => none
def jx_tgt (pc : Nat) (off : Int) : Option Nat :=
  match (pc : Int) + off with
  | .ofNat t => some t
  | .negSucc _ => none
def jx_ldi (ls : List Value) (i pc : Nat) (st : List Value) : Option (Nat × List Value × List Value) :=
  match ls[i]? with
  | some (.int x) => some (pc, ls, .int x :: st)
  | _ => none
def jx_ldl (ls : List Value) (i pc : Nat) (st : List Value) : Option (Nat × List Value × List Value) :=
  match ls[i]? with
  | some (.long x) => some (pc, ls, .long x :: st)
  | _ => none
def jx_lda (ls : List Value) (i pc : Nat) (st : List Value) : Option (Nat × List Value × List Value) :=
  match ls[i]? with
  | some v => bif jx_isr v then some (pc, ls, v :: st) else none
  | _ => none
def jx_sto (ls : List Value) (i pc : Nat) (v : Value) (st : List Value) : Option (Nat × List Value × List Value) :=
  match jx_put ls i v with
  | some l => some (pc, l, st)
  | none => none
def jx_sto2 (ls : List Value) (i pc : Nat) (v : Value) (st : List Value) : Option (Nat × List Value × List Value) :=
  match jx_put2 ls i v with
  | some l => some (pc, l, st)
  | none => none
/-- what touches no heap -/
def jx_pure (own : Nat) (I : Instr) (pc : Nat) (ls st : List Value) : Option (Nat × List Value × List Value) :=
  match I, st with
  | .iconst n, st => some (pc + 1, ls, .int (jI n) :: st)
  | .bipush n, st => bif decide (-128 ≤ n) && decide (n ≤ 127) then some (pc + 2, ls, .int (jI n) :: st) else none
  | .sipush n, st => bif decide (-32768 ≤ n) && decide (n ≤ 32767) then some (pc + 3, ls, .int (jI n) :: st) else none
  | .iload_n k, st => jx_ldi ls k.val (pc + 1) st
  | .iload i, st => jx_ldi ls i (pc + 2) st
  | .lload_n k, st => jx_ldl ls k.val (pc + 1) st
  | .lload i, st => jx_ldl ls i (pc + 2) st
  | .aload_n k, st => jx_lda ls k.val (pc + 1) st
  | .aload i, st => jx_lda ls i (pc + 2) st
  | .istore_n k, .int x :: st => jx_sto ls k.val (pc + 1) (.int x) st
  | .istore i, .int x :: st => jx_sto ls i (pc + 2) (.int x) st
  | .astore_n k, v :: st => bif jx_isr v then jx_sto ls k.val (pc + 1) v st else none
  | .astore i, v :: st => bif jx_isr v then jx_sto ls i (pc + 2) v st else none
  | .lstore_n k, .long x :: st => jx_sto2 ls k.val (pc + 1) (.long x) st
  | .lstore i, .long x :: st => jx_sto2 ls i (pc + 2) (.long x) st
  | .iinc i n, st => (match ls[i]? with
    | some (.int x) => jx_sto ls i (pc + 3) (.int (x + jI n)) st
    | _ => none)
  | .iadd, .int y :: .int x :: st => some (pc + 1, ls, .int (x + y) :: st)
  | .isub, .int y :: .int x :: st => some (pc + 1, ls, .int (x - y) :: st)
  | .imul, .int y :: .int x :: st => some (pc + 1, ls, .int (x * y) :: st)
  | .iand, .int y :: .int x :: st => some (pc + 1, ls, .int (x &&& y) :: st)
  | .ior, .int y :: .int x :: st => some (pc + 1, ls, .int (x ||| y) :: st)
  | .ixor, .int y :: .int x :: st => some (pc + 1, ls, .int (x ^^^ y) :: st)
  | .ishl, .int y :: .int x :: st => some (pc + 1, ls, .int (x <<< (y &&& 31)) :: st)
  | .ishr, .int y :: .int x :: st => some (pc + 1, ls, .int (x >>> (y &&& 31)) :: st)
  | .ineg, .int x :: st => some (pc + 1, ls, .int (-x) :: st)
  | .idiv, .int y :: .int x :: st => if y = 0 then none else some (pc + 1, ls, .int (x / y) :: st)
  | .irem, .int y :: .int x :: st => if y = 0 then none else some (pc + 1, ls, .int (x - x / y * y) :: st)
  | .i2l, .int x :: st => some (pc + 1, ls, .long x.toInt64 :: st)
  | .ladd, .long y :: .long x :: st => some (pc + 1, ls, .long (x + y) :: st)
  | .lsub, .long y :: .long x :: st => some (pc + 1, ls, .long (x - y) :: st)
  | .lmul, .long y :: .long x :: st => some (pc + 1, ls, .long (x * y) :: st)
  | .lcmp, .long y :: .long x :: st => some (pc + 1, ls, .int (lg_cmp x y) :: st)
  | .dup, v :: st => bif jx_c1 v then some (pc + 1, ls, v :: v :: st) else none
  | .dup2, v :: u :: st => bif jx_c1 v && jx_c1 u then some (pc + 1, ls, v :: u :: v :: u :: st) else none
  | .pop, v :: st => bif jx_c1 v then some (pc + 1, ls, st) else none
  | .goto off, st => (match jx_tgt pc off with
    | some t => some (t, ls, st)
    | none => none)
  | .aconst_null, st => some (pc + 1, ls, .null :: st)
  | .ldc i, st => (match jx_lk (jx_ci.getD own []) i with
    | some q => some (pc + 2, ls, .int (jI q.1) :: st)
    | none => none)
  | .ldc_w i, st => (match jx_lk (jx_ci.getD own []) i with
    | some q => some (pc + 3, ls, .int (jI q.1) :: st)
    | none => none)
  | .ldc2_w i, st => (match jx_lk (jx_cj.getD own []) i with
    | some q => some (pc + 3, ls, .long (jL q.1) :: st)
    | none => none)
  | _, _ => none
/-- branches: whether it goes, where to, the stack then -/
def jx_br (I : Instr) (pc : Nat) (st : List Value) : Option (Bool × Nat × List Value) :=
  match I, st with
  | .ifCond c off, .int x :: st => (match jx_tgt pc off with
    | none => none
    | some t => (match c with
      | .eq => some (decide (x = 0), t, st)
      | .ne => some (!decide (x = 0), t, st)
      | .lt => some (decide (x < 0), t, st)
      | .ge => some (decide (0 ≤ x), t, st)
      | .gt => some (decide (0 < x), t, st)
      | .le => some (decide (x ≤ 0), t, st)))
  | .if_icmp c off, .int y :: .int x :: st => (match jx_tgt pc off with
    | none => none
    | some t => (match c with
      | .eq => some (decide (x = y), t, st)
      | .ne => some (!decide (x = y), t, st)
      | .lt => some (decide (x < y), t, st)
      | .ge => some (decide (y ≤ x), t, st)
      | .gt => some (decide (y < x), t, st)
      | .le => some (decide (x ≤ y), t, st)))
  | .ifnull off, v :: st => (match jx_tgt pc off with
    | none => none
    | some t => (match v with
      | .null => some (true, t, st)
      | .ref _ => some (false, t, st)
      | _ => none))
  | .ifnonnull off, v :: st => (match jx_tgt pc off with
    | none => none
    | some t => (match v with
      | .null => some (false, t, st)
      | .ref _ => some (true, t, st)
      | _ => none))
  | _, _ => none
def jx_sw (I : Instr) (pc : Nat) (st : List Value) : Option (Nat × List Value) :=
  match I, st with
  | .tableswitch dflt lo hi offs, .int x :: st =>
    if x.toInt < lo ∨ hi < x.toInt then (match jx_tgt pc dflt with
      | some t => some (t, st)
      | none => none)
    else (match offs[(x.toInt - lo).toNat]? with
      | none => none
      | some off => (match jx_tgt pc off with
        | some t => some (t, st)
        | none => none))
  | _, _ => none
def jx_fld (own idx tag : Nat) : Option (Nat × Nat) :=
  match (jx_fl.getD own []).find? (fun e => Nat.beq e.1 idx && Nat.beq e.2.1 tag) with
  | some e => some (e.2.2.1, e.2.2.2.1)
  | none => none
def jx_fit : FieldType → Value → Bool
  | .int, .int _ => true
  | .boolean, .int x => x == 0 || x == 1
  | .object _, .ref _ => true
  | .object _, .null => true
  | .array _, .ref _ => true
  | .array _, .null => true
  | _, _ => false
def jx_def : FieldType → Value
  | .int => .int (jI 0)
  | .boolean => .int (jI 0)
  | _ => .null
def jx_new (tag n : Nat) : List Value := (List.range n).map fun k => jx_def ((jx_tyf.getD tag (fun _ => .int)) k)
/-- 'm' is the method; isi: a constructor; script and signs: rows that stand before -/
def jx_ext (sc : Nat × (Nat → Int32)) : Nat → Option (Nat × (Nat → Int32))
  | 0 => some sc
  | 1 => some (4, fun k => [jI 97, jI 65, jI 116, jI 84].getD k 0)
  | _ => none
def jx_ix (i : Int32) (n : Nat) : Bool := decide (0 ≤ i.toInt) && decide (i.toInt < n)
def jx_sl (l : List Value) : Nat := (l.map fun v => v.category).sum
def jx_mth (op : Nat) (y : Int32) (st : List Value) (σ : jx_H) : Option (List Value × jx_H) :=
  match op, st with
  | 0, .int x :: st => some (.int (if x < y then y else x) :: st, σ)
  | 1, .int x :: st => some (.int (if y < x then y else x) :: st, σ)
  | 2, st => some (.int (if 0 ≤ y then y else 0 - y) :: st, σ)
  | 3, .int x :: st => if y = 0 then none else some (.int (jx_fm x y) :: st, σ)
  | _, _ => none
def jx_mem (sc : Nat × (Nat → Int32)) (own : Nat) (isi : Bool) (I : Instr) (st : List Value) (σ : jx_H) : Option (List Value × jx_H) :=
  match I, st with
  | .getfield idx, .ref a :: st => (match σ[a]? with
    | none => none
    | some c => (match jx_fld own idx c.1 with
      | none => none
      | some q => (match c.2[q.1]? with
        | none => none
        | some v => some (v :: st, σ))))
  | .putfield idx, v :: .ref a :: st => (match σ[a]? with
    | none => none
    | some c => (match jx_fld own idx c.1, jx_cl[c.1]? with
      | some q, some r => bif jx_fit ((jx_tyf.getD c.1 (fun _ => .int)) q.1) v && decide (q.1 < c.2.length) && decide (c.1 < 100) && (!(r.2.1 q.1).2.2.2 || (isi && Nat.beq q.2 0 && decide ((r.2.1 q.1).1 = jx_cn own))) && (Nat.beq q.2 0 || Nat.beq q.2 1) then some (st, σ.set a (c.1, c.2.set q.1 v)) else none
      | _, _ => none))
  | .getstatic idx, st => (match jx_lk (jx_gs.getD own []) idx with
    | some _ => some (.retAddr 1 :: st, σ)
    | none => none)
  | .arraylength, .ref a :: st => (match σ[a]? with
    | none => none
    | some c => bif Nat.blt 99 c.1 && Nat.blt c.1 105 then some (.int (Int32.ofNat c.2.length) :: st, σ) else none)
  | .arraylength, .retAddr k :: st => (match jx_ext sc k with
    | none => none
    | some x => some (.int (Int32.ofNat x.1) :: st, σ))
  | .iaload, .int i :: .ref a :: st => (match σ[a]? with
    | none => none
    | some c => bif Nat.beq c.1 100 && jx_ix i c.2.length then (match c.2[i.toInt.toNat]? with
      | some v => some (v :: st, σ)
      | none => none) else none)
  | .iaload, .int i :: .retAddr k :: st => (match jx_ext sc k with
    | none => none
    | some x => bif jx_ix i x.1 then some (.int (x.2 i.toInt.toNat) :: st, σ) else none)
  | .laload, .int i :: .ref a :: st => (match σ[a]? with
    | none => none
    | some c => bif Nat.beq c.1 101 && jx_ix i c.2.length then (match c.2[i.toInt.toNat]? with
      | some v => some (v :: st, σ)
      | none => none) else none)
  | .aaload, .int i :: .ref a :: st => (match σ[a]? with
    | none => none
    | some c => bif Nat.blt 101 c.1 && Nat.blt c.1 105 && jx_ix i c.2.length then (match c.2[i.toInt.toNat]? with
      | some v => some (v :: st, σ)
      | none => none) else none)
  | .iastore, .int x :: .int i :: .ref a :: st => (match σ[a]? with
    | none => none
    | some c => bif Nat.beq c.1 100 && jx_ix i c.2.length then some (st, σ.set a (c.1, c.2.set i.toInt.toNat (.int x))) else none)
  | .lastore, .long x :: .int i :: .ref a :: st => (match σ[a]? with
    | none => none
    | some c => bif Nat.beq c.1 101 && jx_ix i c.2.length then some (st, σ.set a (c.1, c.2.set i.toInt.toNat (.long x))) else none)
  | .aastore, .ref v :: .int i :: .ref a :: st => (match σ[a]?, σ[v]? with
    | some c, some d => bif ((Nat.beq c.1 102 && Nat.beq d.1 8) || (Nat.beq c.1 103 && (Nat.beq d.1 0 || Nat.beq d.1 1 || Nat.beq d.1 2 || Nat.beq d.1 6 || Nat.beq d.1 7 || Nat.beq d.1 9)) || (Nat.beq c.1 104 && Nat.beq d.1 3)) && jx_ix i c.2.length then some (st, σ.set a (c.1, c.2.set i.toInt.toNat (.ref v))) else none
    | _, _ => none)
  | .new idx, st => (match jx_lk (jx_nl.getD own []) idx with
    | none => none
    | some q => (match jx_cl[q.1]? with
      | none => none
      | some r => some (.ref σ.length :: st, σ ++ [(q.1, jx_new q.1 r.2.2)])))
  | .newarray .int, .int n :: st => bif decide (0 ≤ n.toInt) && decide (n.toInt ≤ 100000) then some (.ref σ.length :: st, σ ++ [(100, List.replicate n.toInt.toNat (.int (jI 0)))]) else none
  | .newarray .long, .int n :: st => bif decide (0 ≤ n.toInt) && decide (n.toInt ≤ 100000) then some (.ref σ.length :: st, σ ++ [(101, List.replicate n.toInt.toNat (.long (jL 0)))]) else none
  | .anewarray idx, .int n :: st => (match jx_lk (jx_al.getD own []) idx with
    | none => none
    | some q => bif decide (0 ≤ n.toInt) && decide (n.toInt ≤ 100000) then some (.ref σ.length :: st, σ ++ [(q.1, List.replicate n.toInt.toNat .null)]) else none)
  | .instanceof idx, .ref a :: st => (match σ[a]? with
    | none => none
    | some c => (match (jx_io.getD own []).find? (fun e => Nat.beq e.1 idx && Nat.beq e.2.1 c.1) with
      | none => none
      | some e => some ((if e.2.2.1 = 0 then .int (jI 0) else .int (jI 1)) :: st, σ)))
  | .invokespecial idx, .ref a :: st => (match jx_lk (jx_oi.getD own []) idx with
    | none => none
    | some _ => bif Nat.ble (jx_sl st) 20 then some (st, σ) else none)
  | .invokestatic idx, .int y :: st => (match jx_lk (jx_ml.getD own []) idx with
    | none => none
    | some q => bif !Nat.ble (jx_sl st) 20 then none else jx_mth q.1 y st σ)
  | _, _ => none
/-- a call: which method, its arguments, the stack below them -/
def jx_inv (own : Nat) (I : Instr) (st : List Value) (σ : jx_H) : Option (Nat × List Value × List Value) :=
  match I with
  | .invokestatic idx => (match (jx_il.getD own []).find? (fun e => Nat.beq e.1 idx && Nat.beq e.2.1 200) with
    | none => none
    | some e => (match jx_ms[e.2.2.2.1]? with
      | none => none
      | some q => bif Nat.beq (st.take q.2.2.2.2.1).length q.2.2.2.2.1 && (Nat.beq e.2.2.1 1 || Nat.beq e.2.2.1 2) && Nat.ble (jx_sl (st.drop q.2.2.2.2.1)) 8 then some (e.2.2.2.1, (st.take q.2.2.2.2.1).reverse, st.drop q.2.2.2.2.1) else none))
  | .invokespecial idx => (match (jx_il.getD own []).find? (fun e => Nat.beq e.1 idx) with
    | none => none
    | some e0 => (match jx_ms[e0.2.2.2.1]? with
      | none => none
      | some q => (match st.drop q.2.2.2.2.1 with
        | .ref a :: rest => (match σ[a]? with
          | none => none
          | some c => (match (jx_il.getD own []).find? (fun e => Nat.beq e.1 idx && (Nat.beq e.2.1 c.1 || Nat.beq e.2.1 200)) with
            | none => none
            | some e => bif Nat.beq e.2.2.2.1 e0.2.2.2.1 && Nat.beq (st.take q.2.2.2.2.1).length q.2.2.2.2.1 && (Nat.beq e.2.2.1 3 || Nat.beq e.2.2.1 4 || Nat.beq e.2.2.1 7) && Nat.blt c.1 100 && Nat.ble (jx_sl rest) 8 then some (e.2.2.2.1, .ref a :: (st.take q.2.2.2.2.1).reverse, rest) else none))
        | _ => none)))
  | .invokevirtual idx => (match (jx_il.getD own []).find? (fun e => Nat.beq e.1 idx) with
    | none => none
    | some e0 => (match jx_ms[e0.2.2.2.1]? with
      | none => none
      | some q0 => (match st.drop q0.2.2.2.2.1 with
        | .ref a :: rest => (match σ[a]? with
          | none => none
          | some c => (match (jx_il.getD own []).find? (fun e => Nat.beq e.1 idx && Nat.beq e.2.1 c.1) with
            | none => none
            | some e => (match jx_ms[e.2.2.2.1]? with
              | none => none
              | some q => bif Nat.beq q.2.2.2.2.1 q0.2.2.2.2.1 && Nat.beq (st.take q0.2.2.2.2.1).length q0.2.2.2.2.1 && (Nat.beq e.2.2.1 0 || Nat.beq e.2.2.1 6) && Nat.blt c.1 100 && Nat.ble (jx_sl rest) 8 then some (e.2.2.2.1, .ref a :: (st.take q0.2.2.2.2.1).reverse, rest) else none)))
        | _ => none)))
  | _ => none
def jx_ret (rt : Option FieldType) (I : Instr) (st : List Value) : Option (Option Value) :=
  match I, st, rt with
  | .return_, [], none => some none
  | .ireturn, [.int v], some .int => some (some (.int v))
  | .ireturn, [.int v], some .boolean => bif v == 0 || v == 1 then some (some (.int v)) else none
  | .lreturn, [.long v], some .long => some (some (.long v))
  | .areturn, [v], some (.object _) => (match v with
    | .ref a => some (some (.ref a))
    | .null => some (some .null)
    | _ => none)
  | _, _, _ => none
def jx_own (M : Nat) : Nat := match jx_ms[M]? with
  | some q => q.2.2.2.2.2.1
  | none => 13
def jx_isi (M : Nat) : Bool := match jx_ms[M]? with
  | some q => decide (q.1.name = "<init>")
  | none => false
def jx_rt (M : Nat) : Option FieldType := match jx_ms[M]? with
  | some q => q.2.2.2.1
  | none => some .boolean
def jx_mx (M : Nat) : Nat := match jx_ms[M]? with
  | some q => q.2.2.1
  | none => 4
def jx_run (sc : Nat × (Nat → Int32)) (cal : Nat → List Value → jx_H → Option Value → jx_H → Prop) : Nat → Nat → Nat → List Value → List Value → jx_H → Option Value → jx_H → Prop
  | 0, _, _, _, _, _, _, _ => False
  | n + 1, M, pc, ls, st, σ, r, σ' => ∃ I len, jx_code M pc = some (I, len) ∧
    ((∃ c, jx_pure (jx_own M) I pc ls st = some c ∧ jx_run sc cal n M c.1 c.2.1 c.2.2 σ r σ') ∨
    (∃ b, jx_br I pc st = some b ∧ jx_run sc cal n M (bif b.1 then b.2.1 else pc + 3) ls b.2.2 σ r σ') ∨
    (∃ b, jx_sw I pc st = some b ∧ jx_run sc cal n M b.1 ls b.2 σ r σ') ∨
    (∃ c, jx_mem sc (jx_own M) (jx_isi M) I st σ = some c ∧ jx_run sc cal n M (pc + len) ls c.1 c.2 r σ') ∨
    (∃ c v σ1, jx_inv (jx_own M) I st σ = some c ∧ cal c.1 c.2.1 σ v σ1 ∧ jx_run sc cal n M (pc + 3) ls (v.toList ++ c.2.2) σ1 r σ') ∨
    (jx_ret (jx_rt M) I st = some r ∧ σ' = σ))
def jx_lay : List Value → List Value
  | [] => []
  | v :: t => bif jx_c1 v then v :: jx_lay t else v :: .retAddr 2 :: jx_lay t
def jx_entry (mx : Nat) (args : List Value) : List Value := jx_lay args ++ List.replicate (mx - (jx_lay args).length) (.retAddr 2)
/-- a call of a method, at most so many calls deep -/
def jx_call (sc : Nat × (Nat → Int32)) : Nat → Nat → List Value → jx_H → Option Value → jx_H → Prop
  | 0, _, _, _, _, _ => False
  | d + 1, M, args, σ, r, σ' => (jx_lay args).length ≤ jx_mx M ∧ ∃ n, jx_run sc (jx_call sc d) n M 0 (jx_entry (jx_mx M) args) [] σ r σ'
