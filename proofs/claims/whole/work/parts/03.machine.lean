/-! The machine: what an instruction does to locals, operands and the store; a method's run; calls by number. -/
def q_up (M : q_M) (r k : Nat) (x : Int32) : q_M := (fun a => if a = r then upd (M.1 r) k x else M.1 a, M.2)
def q_upL (M : q_M) (r k : Nat) (x : Int64) : q_M := (M.1, fun a => if a = r then vp_updL (M.2 r) k x else M.2 a)
def q_cpy (M : q_M) (a b sp dp n : Nat) : q_M := (fun r => if r = b then va_cpy (M.1 a) (M.1 b) sp dp n else M.1 r, M.2)
def q_ld (ls : q_L) (i : Nat) : Option Value := (ls[i]?).getD none
def q_keep (x : Option Value) : Option Value := match x with
  | some (.long _) => none
  | some (.double _) => none
  | y => y
/-- a store of one slot -/
def q_s1 : q_L → Nat → Value → q_L
  | [], _, _ => []
  | _ :: t, 0, v => some v :: t
  | x :: t, 1, v => q_keep x :: q_s1 t 0 v
  | x :: t, n + 2, v => x :: q_s1 t (n + 1) v
/-- a store of two slots -/
def q_s2 : q_L → Nat → Value → q_L
  | [], _, _ => []
  | [_], 0, _ => []
  | _ :: _ :: t, 0, v => some v :: none :: t
  | x :: t, 1, v => q_keep x :: q_s2 t 0 v
  | x :: t, n + 2, v => x :: q_s2 t (n + 1) v
/-- arguments in their slots -/
def q_as : List Value → q_L
  | [] => []
  | v :: vs => some v :: (bif Nat.beq v.category 2 then none :: q_as vs else q_as vs)
def q_en (i : Nat) (as : List Value) : q_L := q_as as ++ List.replicate (q_mx i - (q_as as).length) none
/-- an instruction's length; ex: a switch's -/
def q_ln (i : Instr) (ex : Nat) : Nat := match i with
  | .bipush _ => 2 | .sipush _ => 3 | .ldc _ => 2 | .ldc_w _ => 3 | .ldc2_w _ => 3
  | .iload _ => 2 | .lload _ => 2 | .aload _ => 2 | .istore _ => 2 | .lstore _ => 2 | .astore _ => 2 | .iinc _ _ => 3
  | .goto _ => 3 | .ifCond _ _ => 3 | .if_icmp _ _ => 3 | .getfield _ => 3 | .putfield _ => 3 | .invokevirtual _ => 3 | .invokestatic _ => 3
  | .tableswitch _ _ _ _ => ex
  | _ => 1
def q_c1 (c : ClassFile.Cond) (x : Int32) : Bool := match c with
  | .eq => decide (x = 0) | .ne => decide (¬ x = 0) | .lt => decide (x < 0) | .ge => decide (0 ≤ x) | .gt => decide (0 < x) | .le => decide (x ≤ 0)
def q_c2 (c : ClassFile.Cond) (x y : Int32) : Bool := match c with
  | .eq => decide (x = y) | .ne => decide (¬ x = y) | .lt => decide (x < y) | .ge => decide (y ≤ x) | .gt => decide (y < x) | .le => decide (x ≤ y)
def q_sw (pc : Nat) (d lo hi : Int) (os : Array Int) (x : Int) : Nat := if x < lo ∨ hi < x then ((pc : Int) + d).toNat else ((pc : Int) + os.getD (x - lo).toNat 0).toNat
abbrev q_A : Type := q_F ⊕ ((Nat × List Value × q_F) ⊕ Option Value)
/-- behind an instruction -/
def q_n (pc : Nat) (ls : q_L) (st : List Value) (M : q_M) : Option q_A := some (.inl (pc, ls, st, M))
def q_gf (mi pc : Nat) (ls : q_L) (st : List Value) (M : q_M) (r c k : Nat) : Option q_A :=
  bif Nat.beq (q_kd r).1 0 && Nat.beq (q_kd r).2.1 c then
    (match (q_fk c k).1 with
    | 0 => q_n pc ls (.int (M.1 r k) :: st) M
    | 1 => q_n pc ls (.int (M.1 r k) :: st) M
    | 2 => q_n pc ls (.long (M.2 r k) :: st) M
    | 3 => q_n pc ls (.ref (q_fk c k).2 :: st) M
    | _ => none) else none
def q_pf (mi pc : Nat) (ls : q_L) (st : List Value) (M : q_M) (r c k : Nat) (v : Value) : Option q_A :=
  bif Nat.beq (q_kd r).1 0 && Nat.beq (q_kd r).2.1 c then
    (match (q_fk c k).1, v with
    | 0, .int x => q_n pc ls st (q_up M r k x)
    | 1, .int x => if x = 0 ∨ x = 1 then q_n pc ls st (q_up M r k x) else none
    | 2, .long x => q_n pc ls st (q_upL M r k x)
    | _, _ => none) else none
def q_out (x : Int32) (n : Nat) : Prop := x < 0 ∨ n ≤ x.toNatClampNeg
def q_outD (x : Int32) (n : Nat) : Bool := decide (x < 0) || Nat.ble n x.toNatClampNeg
def q_call (mi pc : Nat) (ls : q_L) (st : List Value) (M : q_M) (mj : Nat) : Option q_A :=
  bif q_st mj then
    (bif Nat.ble (q_np mj) st.length && Nat.ble (st.length - q_np mj) 4 then some (.inr (.inl (mj, (st.take (q_np mj)).reverse, (pc + 3, ls, st.drop (q_np mj), M)))) else none)
  else
    (match st.drop (q_np mj) with
    | .ref r :: rest => bif Nat.beq (q_kd r).1 0 && Nat.beq (q_kd r).2.1 (q_oc mj) && Nat.ble rest.length 4 then some (.inr (.inl (mj, .ref r :: (st.take (q_np mj)).reverse, (pc + 3, ls, rest, M)))) else none
    | _ => none)
/-- the script: its ints, its length -/
abbrev q_X : Type := (Nat → Int32) × Nat
def q_act (X : q_X) (mi : Nat) (c : q_F) : Option q_A := match c with
  | (pc, ls, st, M) => match q_cd mi pc with
  | none => none
  | some (i, ex) => match i with
    | .iconst n => q_n (pc + 1) ls (.int (Int32.ofInt n) :: st) M
    | .bipush n => q_n (pc + 2) ls (.int (Int8.ofInt n).toInt32 :: st) M
    | .sipush n => q_n (pc + 3) ls (.int (Int16.ofInt n).toInt32 :: st) M
    | .lconst n => q_n (pc + 1) ls (.long (Int64.ofNat (n : Nat)) :: st) M
    | .ldc k => (match q_kc (q_oc mi) k with | some v => q_n (pc + 2) ls (.int (Int32.ofNat v) :: st) M | none => none)
    | .ldc_w k => (match q_kc (q_oc mi) k with | some v => q_n (pc + 3) ls (.int (Int32.ofNat v) :: st) M | none => none)
    | .ldc2_w k => (match q_kc (q_oc mi) k with | some v => q_n (pc + 3) ls (.long (Int64.ofNat v) :: st) M | none => none)
    | .iload k => (match q_ld ls k with | some (.int x) => q_n (pc + 2) ls (.int x :: st) M | _ => none)
    | .iload_n k => (match q_ld ls (k : Nat) with | some (.int x) => q_n (pc + 1) ls (.int x :: st) M | _ => none)
    | .lload k => (match q_ld ls k with | some (.long x) => q_n (pc + 2) ls (.long x :: st) M | _ => none)
    | .lload_n k => (match q_ld ls (k : Nat) with | some (.long x) => q_n (pc + 1) ls (.long x :: st) M | _ => none)
    | .aload k => (match q_ld ls k with | some (.ref x) => q_n (pc + 2) ls (.ref x :: st) M | _ => none)
    | .aload_n k => (match q_ld ls (k : Nat) with | some (.ref x) => q_n (pc + 1) ls (.ref x :: st) M | _ => none)
    | .istore k => (match st with | .int x :: st => q_n (pc + 2) (q_s1 ls k (.int x)) st M | _ => none)
    | .istore_n k => (match st with | .int x :: st => q_n (pc + 1) (q_s1 ls (k : Nat) (.int x)) st M | _ => none)
    | .lstore k => (match st with | .long x :: st => q_n (pc + 2) (q_s2 ls k (.long x)) st M | _ => none)
    | .lstore_n k => (match st with | .long x :: st => q_n (pc + 1) (q_s2 ls (k : Nat) (.long x)) st M | _ => none)
    | .astore k => (match st with | .ref x :: st => q_n (pc + 2) (q_s1 ls k (.ref x)) st M | _ => none)
    | .astore_n k => (match st with | .ref x :: st => q_n (pc + 1) (q_s1 ls (k : Nat) (.ref x)) st M | _ => none)
    | .iinc k n => (match q_ld ls k with | some (.int x) => q_n (pc + 3) (q_s1 ls k (.int (x + Int32.ofInt n))) st M | _ => none)
    | .iadd => (match st with | .int y :: .int x :: st => q_n (pc + 1) ls (.int (x + y) :: st) M | _ => none)
    | .isub => (match st with | .int y :: .int x :: st => q_n (pc + 1) ls (.int (x - y) :: st) M | _ => none)
    | .imul => (match st with | .int y :: .int x :: st => q_n (pc + 1) ls (.int (x * y) :: st) M | _ => none)
    | .idiv => (match st with | .int y :: .int x :: st => if y = 0 then none else q_n (pc + 1) ls (.int (x / y) :: st) M | _ => none)
    | .irem => (match st with | .int y :: .int x :: st => if y = 0 then none else q_n (pc + 1) ls (.int (x - x / y * y) :: st) M | _ => none)
    | .ineg => (match st with | .int x :: st => q_n (pc + 1) ls (.int (-x) :: st) M | _ => none)
    | .iand => (match st with | .int y :: .int x :: st => q_n (pc + 1) ls (.int (x &&& y) :: st) M | _ => none)
    | .ior => (match st with | .int y :: .int x :: st => q_n (pc + 1) ls (.int (x ||| y) :: st) M | _ => none)
    | .ixor => (match st with | .int y :: .int x :: st => q_n (pc + 1) ls (.int (x ^^^ y) :: st) M | _ => none)
    | .ishl => (match st with | .int y :: .int x :: st => q_n (pc + 1) ls (.int (x <<< (y &&& 31)) :: st) M | _ => none)
    | .ishr => (match st with | .int y :: .int x :: st => q_n (pc + 1) ls (.int (x >>> (y &&& 31)) :: st) M | _ => none)
    | .iushr => (match st with | .int y :: .int x :: st => q_n (pc + 1) ls (.int ((x.toUInt32 >>> (y.toUInt32 &&& Int32.toUInt32 31)).toInt32) :: st) M | _ => none)
    | .ladd => (match st with | .long y :: .long x :: st => q_n (pc + 1) ls (.long (x + y) :: st) M | _ => none)
    | .lmul => (match st with | .long y :: .long x :: st => q_n (pc + 1) ls (.long (x * y) :: st) M | _ => none)
    | .ldiv => (match st with | .long y :: .long x :: st => if y = 0 then none else q_n (pc + 1) ls (.long (x / y) :: st) M | _ => none)
    | .lrem => (match st with | .long y :: .long x :: st => if y = 0 then none else q_n (pc + 1) ls (.long (x - x / y * y) :: st) M | _ => none)
    | .lcmp => (match st with | .long y :: .long x :: st => q_n (pc + 1) ls (.int (lg_cmp x y) :: st) M | _ => none)
    | .i2l => (match st with | .int x :: st => q_n (pc + 1) ls (.long x.toInt64 :: st) M | _ => none)
    | .l2i => (match st with | .long x :: st => q_n (pc + 1) ls (.int x.toInt32 :: st) M | _ => none)
    | .dup => (match st with | .int x :: st => q_n (pc + 1) ls (.int x :: .int x :: st) M | .ref x :: st => q_n (pc + 1) ls (.ref x :: .ref x :: st) M | _ => none)
    | .dup2 => (match st with | .int x :: .ref y :: st => q_n (pc + 1) ls (.int x :: .ref y :: .int x :: .ref y :: st) M | _ => none)
    | .goto _ => q_n ex ls st M
    | .ifCond c _ => (match st with | .int x :: st => some (.inl (bif q_c1 c x then (ex, ls, st, M) else (pc + 3, ls, st, M))) | _ => none)
    | .if_icmp c _ => (match st with | .int y :: .int x :: st => some (.inl (bif q_c2 c x y then (ex, ls, st, M) else (pc + 3, ls, st, M))) | _ => none)
    | .tableswitch d lo hi os => (match st with | .int x :: st => q_n (q_sw pc d lo hi os x.toInt) ls st M | _ => none)
    | .getfield k => (match st with | .ref r :: st => (match q_fl (q_oc mi) k with | some (c, f) => q_gf mi (pc + 3) ls st M r c f | none => none) | _ => none)
    | .putfield k => (match st with | v :: .ref r :: st => (match q_fl (q_oc mi) k with | some (c, f) => q_pf mi (pc + 3) ls st M r c f v | none => none) | _ => none)
    | .iaload => (match st with
      | .int x :: .ref r :: st => (match (q_kd r).1 with
        | 1 => bif q_outD x (q_kd r).2.1 then none else q_n (pc + 1) ls (.int (M.1 r x.toNatClampNeg) :: st) M
        | 4 => bif q_outD x X.2 || !Nat.beq mi 112 then none else q_n (pc + 1) ls (.int (X.1 x.toNatClampNeg) :: st) M
        | _ => none)
      | _ => none)
    | .baload => (match st with
      | .int x :: .ref r :: st => (match (q_kd r).1 with
        | 2 => bif q_outD x (q_kd r).2.1 then none else q_n (pc + 1) ls (.int (M.1 r x.toNatClampNeg) :: st) M
        | _ => none)
      | _ => none)
    | .aaload => (match st with
      | .int x :: .ref r :: st => (match (q_kd r).1 with
        | 3 => bif q_outD x (q_kd r).2.1 then none else q_n (pc + 1) ls (.ref ((q_kd r).2.2 + x.toNatClampNeg) :: st) M
        | _ => none)
      | _ => none)
    | .iastore => (match st with
      | .int v :: .int x :: .ref r :: st => (match (q_kd r).1 with
        | 1 => bif q_outD x (q_kd r).2.1 then none else q_n (pc + 1) ls st (q_up M r x.toNatClampNeg v)
        | _ => none)
      | _ => none)
    | .bastore => (match st with
      | .int v :: .int x :: .ref r :: st => (match (q_kd r).1 with
        | 2 => bif q_outD x (q_kd r).2.1 then none else q_n (pc + 1) ls st (q_up M r x.toNatClampNeg (vp_nar .boolean v))
        | _ => none)
      | _ => none)
    | .arraylength => (match st with
      | .ref r :: st => (match (q_kd r).1 with
        | 1 => q_n (pc + 1) ls (.int (Int32.ofNat (q_kd r).2.1) :: st) M
        | 4 => bif Nat.beq mi 112 then q_n (pc + 1) ls (.int (Int32.ofNat X.2) :: st) M else none
        | _ => none)
      | _ => none)
    | .invokevirtual k => (match q_ml (q_oc mi) k with | some (mj, _) => (bif q_st mj then none else q_call mi pc ls st M mj) | none => none)
    | .invokestatic k => (match q_ml (q_oc mi) k with
      | some (mj, _) => (match mj with
        | 200 => (match st with | .int y :: .int x :: st => bif Nat.ble st.length 4 then q_n (pc + 3) ls (.int (if y < x then y else x) :: st) M else none | _ => none)
        | 201 => (match st with
          | .int n :: .int dp :: .ref b :: .int sp :: .ref a :: st =>
            bif Nat.beq (q_kd a).1 1 && Nat.beq (q_kd b).1 1 && decide (¬ sp < 0) && decide (¬ dp < 0) && decide (¬ n < 0) && Nat.ble (sp.toNatClampNeg + n.toNatClampNeg) (q_kd a).2.1 && Nat.ble (dp.toNatClampNeg + n.toNatClampNeg) (q_kd b).2.1 && Nat.ble st.length 4 then q_n (pc + 3) ls st (q_cpy M a b sp.toNatClampNeg dp.toNatClampNeg n.toNatClampNeg) else none
          | _ => none)
        | mj => bif q_st mj then q_call mi pc ls st M mj else none)
      | none => none)
    | .ireturn => (match st with
      | [.int x] => (match q_rk mi with
        | 0 => some (.inr (.inr (some (.int x))))
        | 1 => if x = 0 ∨ x = 1 then some (.inr (.inr (some (.int x)))) else none
        | _ => none)
      | _ => none)
    | .lreturn => (match st with | [.long x] => (bif Nat.beq (q_rk mi) 2 then some (.inr (.inr (some (.long x)))) else none) | _ => none)
    | .areturn => (match st with | [.ref x] => (bif Nat.beq (q_rk mi) 4 then some (.inr (.inr (some (.ref x)))) else none) | _ => none)
    | .return_ => (match st with | [] => (bif Nat.beq (q_rk mi) 3 then some (.inr (.inr none)) else none) | _ => none)
    | _ => none
def q_run (X : q_X) (call : Nat → List Value → q_M → Option (Option Value × q_M)) (mi : Nat) : Nat → q_F → Option (Option Value × q_M)
  | 0, _ => none
  | f + 1, c => match q_act X mi c with
    | none => none
    | some (.inl c') => q_run X call mi f c'
    | some (.inr (.inl (mj, as, c'))) => (match call mj as c'.2.2.2 with
      | some (r, M') => q_run X call mi f (c'.1, c'.2.1, r.toList ++ c'.2.2.1, M')
      | none => none)
    | some (.inr (.inr r)) => some (r, c.2.2.2)
def q_ex (X : q_X) : Nat → Nat → Nat → List Value → q_M → Option (Option Value × q_M)
  | 0, _, _, _, _ => none
  | d + 1, g, mi, as, M => bif Nat.ble (q_as as).length (q_mx mi) then q_run X (q_ex X d g) mi g (0, q_en mi as, [], M) else none
