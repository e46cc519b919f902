/-! the small machine -/
def ti_wr (I : Nat → Nat → Int32) (p k : Nat) (x : Int32) : Nat → Nat → Int32 := va_up I p (upd (I p) k x)
def ti_wl (J : Nat → Nat → Int64) (p k : Nat) (x : Int64) : Nat → Nat → Int64 := va_up J p (vp_updL (J p) k x)
def ti_wf (R : Nat → Nat → Value) (p k : Nat) (v : Value) : Nat → Nat → Value := va_up R p (va_up (R p) k v)
def ti_lg (L : TL) (i : Nat) : Bool := match i with
  | 0 => false
  | j + 1 => match L[j]? with
    | some (some v) => v.category == 2
    | _ => false
def ti_cl (L : TL) (i : Nat) : TL := if ti_lg L i = true then L.set (i - 1) none else L
def ti_st1 (L : TL) (i : Nat) (v : Value) : Option TL := if i < L.length then some ((ti_cl L i).set i (some v)) else none
def ti_st2 (L : TL) (i : Nat) (v : Value) : Option TL := if i + 1 < L.length then some (((ti_cl L i).set i (some v)).set (i + 1) none) else none
def ti_ent : List Value → TL
  | [] => []
  | v :: vs => match v with
    | .int x => some (.int x) :: ti_ent vs
    | .ref x => some (.ref x) :: ti_ent vs
    | .long x => some (.long x) :: none :: ti_ent vs
    | _ => []
def ti_oka : List Value → Bool
  | [] => true
  | v :: vs => match v with
    | .int _ => ti_oka vs
    | .ref _ => ti_oka vs
    | .long _ => ti_oka vs
    | _ => false
def ti_entry (n : Nat) (vs : List Value) : TL := ti_ent vs ++ List.replicate (n - (ti_ent vs).length) none
def ti_cnd : ClassFile.Cond → Int32 → Int32 → Bool
  | .eq, x, y => decide (x = y)
  | .ne, x, y => decide (¬ x = y)
  | .lt, x, y => decide (x < y)
  | .ge, x, y => decide (y ≤ x)
  | .gt, x, y => decide (y < x)
  | .le, x, y => decide (x ≤ y)
def ti_jmp (pc : Nat) (off : Int) : Option Nat := if 0 ≤ (pc : Int) + off then some ((pc : Int) + off).toNat else none
/-- a field's value -/
def ti_fv (M : TM) (p k : Nat) (fd : Nat × Nat) : Value := match fd.1 with
  | 0 => .int (M.1 p k)
  | 1 => .ref fd.2
  | _ => M.2.2 p k
def ti_u (f : Int32 → Value) (pc : Nat) (L : TL) (st : List Value) (M : TM) : Option (Nat × TL × List Value × TM) := match st with
  | .int x :: r => some (pc + 1, L, f x :: r, M)
  | _ => none
def ti_b (f : Int32 → Int32 → Option Int32) (pc : Nat) (L : TL) (st : List Value) (M : TM) : Option (Nat × TL × List Value × TM) := match st with
  | .int y :: .int x :: r => (f x y).map fun z => (pc + 1, L, .int z :: r, M)
  | _ => none
def ti_bl (f : Int64 → Int64 → Option Value) (pc : Nat) (L : TL) (st : List Value) (M : TM) : Option (Nat × TL × List Value × TM) := match st with
  | .long y :: .long x :: r => (f x y).map fun z => (pc + 1, L, z :: r, M)
  | _ => none
def ti_li (k : Nat) (pc : Nat) (L : TL) (st : List Value) (M : TM) : Option (Nat × TL × List Value × TM) := match L[k]? with
  | some (some (.int x)) => some (pc, L, .int x :: st, M)
  | _ => none
def ti_la (k : Nat) (pc : Nat) (L : TL) (st : List Value) (M : TM) : Option (Nat × TL × List Value × TM) := match L[k]? with
  | some (some (.ref x)) => some (pc, L, .ref x :: st, M)
  | _ => none
def ti_ll (k : Nat) (pc : Nat) (L : TL) (st : List Value) (M : TM) : Option (Nat × TL × List Value × TM) := match L[k]? with
  | some (some (.long x)) => some (pc, L, .long x :: st, M)
  | _ => none
def ti_si (k : Nat) (pc : Nat) (L : TL) (st : List Value) (M : TM) : Option (Nat × TL × List Value × TM) := match st with
  | .int x :: r => (ti_st1 L k (.int x)).map fun L' => (pc, L', r, M)
  | _ => none
def ti_sa (k : Nat) (pc : Nat) (L : TL) (st : List Value) (M : TM) : Option (Nat × TL × List Value × TM) := match st with
  | .ref x :: r => (ti_st1 L k (.ref x)).map fun L' => (pc, L', r, M)
  | _ => none
def ti_sl (k : Nat) (pc : Nat) (L : TL) (st : List Value) (M : TM) : Option (Nat × TL × List Value × TM) := match st with
  | .long x :: r => (ti_st2 L k (.long x)).map fun L' => (pc, L', r, M)
  | _ => none
/-- an array's element read, kinds 0 int 1 byte 2 char 3 boolean 4 long -/
def ti_al (lay : List TE) (ks : List Nat) (pc : Nat) (L : TL) (st : List Value) (M : TM) : Option (Nat × TL × List Value × TM) := match st with
  | .int i :: .ref p :: r => match lay[p]? with
    | some (.inr (.inl (kd, n))) => if ks.contains kd = true ∧ 0 ≤ i ∧ i.toNatClampNeg < n then some (pc + 1, L, (if kd = 4 then .long (M.2.1 p i.toNatClampNeg) else .int (M.1 p i.toNatClampNeg)) :: r, M) else none
    | _ => none
  | _ => none
def ti_aa (lay : List TE) (pc : Nat) (L : TL) (st : List Value) (M : TM) : Option (Nat × TL × List Value × TM) := match st with
  | .int i :: .ref p :: r => match lay[p]? with
    | some (.inr (.inr qs)) => if 0 ≤ i then (qs[i.toNatClampNeg]?).map fun q => (pc + 1, L, .ref q :: r, M) else none
    | _ => none
  | _ => none
def ti_nar (kd : Nat) (x : Int32) : Int32 := match kd with
  | 1 => vp_nar .byte x
  | 2 => vp_nar .char x
  | 3 => vp_nar .boolean x
  | _ => x
def ti_as (lay : List TE) (ks : List Nat) (pc : Nat) (L : TL) (st : List Value) (M : TM) : Option (Nat × TL × List Value × TM) := match st with
  | .int x :: .int i :: .ref p :: r => match lay[p]? with
    | some (.inr (.inl (kd, n))) => if ks.contains kd = true ∧ 0 ≤ i ∧ i.toNatClampNeg < n then some (pc + 1, L, r, (ti_wr M.1 p i.toNatClampNeg (ti_nar kd x), M.2.1, M.2.2)) else none
    | _ => none
  | _ => none
def ti_als (lay : List TE) (pc : Nat) (L : TL) (st : List Value) (M : TM) : Option (Nat × TL × List Value × TM) := match st with
  | .long x :: .int i :: .ref p :: r => match lay[p]? with
    | some (.inr (.inl (kd, n))) => if kd = 4 ∧ 0 ≤ i ∧ i.toNatClampNeg < n then some (pc + 1, L, r, (M.1, ti_wl M.2.1 p i.toNatClampNeg x, M.2.2)) else none
    | _ => none
  | _ => none
def ti_len (lay : List TE) (pc : Nat) (L : TL) (st : List Value) (M : TM) : Option (Nat × TL × List Value × TM) := match st with
  | .ref p :: r => match lay[p]? with
    | some (.inr (.inl (kd, n))) => if kd < 5 then some (pc + 1, L, .int (Int32.ofNat n) :: r, M) else none
    | _ => none
  | _ => none
def ti_gf (lay : List TE) (o idx pc : Nat) (L : TL) (st : List Value) (M : TM) : Option (Nat × TL × List Value × TM) := match st with
  | .ref p :: r => match ti_fr o idx, lay[p]? with
    | some (ci, k, _), some (.inl (ci', fds)) => if ci = ci' then (fds[k]?).map fun fd => (pc + 3, L, ti_fv M p k fd :: r, M) else none
    | _, _ => none
  | _ => none
def ti_pf (lay : List TE) (o idx pc : Nat) (L : TL) (st : List Value) (M : TM) : Option (Nat × TL × List Value × TM) := match st with
  | .int x :: .ref p :: r => match ti_fr o idx, lay[p]? with
    | some (ci, k, kd), some (.inl (ci', fds)) => match fds[k]? with
      | some (0, _) => if ci = ci' ∧ (kd = 0 ∨ kd = 1 ∧ (x = 0 ∨ x = 1)) then some (pc + 3, L, r, (ti_wr M.1 p k x, M.2.1, M.2.2)) else none
      | _ => none
    | _, _ => none
  | .ref q :: .ref p :: r => match ti_fr o idx, lay[p]? with
    | some (ci, k, kd), some (.inl (ci', fds)) => match fds[k]? with
      | some (2, _) => if ci = ci' ∧ kd = 3 then some (pc + 3, L, r, (M.1, M.2.1, ti_wf M.2.2 p k (.ref q))) else none
      | _ => none
    | _, _ => none
  | _ => none
def ti_ic (c : ClassFile.Cond) (off : Int) (pc : Nat) (L : TL) (st : List Value) (M : TM) : Option (Nat × TL × List Value × TM) := match st with
  | .int y :: .int x :: r => match ti_jmp pc off with
    | some t => some (if ti_cnd c x y = true then t else pc + 3, L, r, M)
    | none => none
  | _ => none
def ti_if (c : ClassFile.Cond) (off : Int) (pc : Nat) (L : TL) (st : List Value) (M : TM) : Option (Nat × TL × List Value × TM) := match st with
  | .int x :: r => match ti_jmp pc off with
    | some t => some (if ti_cnd c x 0 = true then t else pc + 3, L, r, M)
    | none => none
  | _ => none
def ti_ts (dflt lo hi : Int) (offs : Array Int) (pc : Nat) (L : TL) (st : List Value) (M : TM) : Option (Nat × TL × List Value × TM) := match st with
  | .int x :: r => if x.toInt < lo ∨ hi < x.toInt then (ti_jmp pc dflt).map fun t => (t, L, r, M) else match offs[(x.toInt - lo).toNat]? with
    | some off => (ti_jmp pc off).map fun t => (t, L, r, M)
    | none => none
  | _ => none
def ti_ls (dflt : Int) (ps : Array (Int × Int)) (pc : Nat) (L : TL) (st : List Value) (M : TM) : Option (Nat × TL × List Value × TM) := match st with
  | .int x :: r => if (ps.toList.zip (ps.toList.drop 1)).all (fun (a, next) => a.1 < next.1) = true then (ti_jmp pc (Op.lookupswitch.offset ps.toList dflt x.toInt)).map fun t => (t, L, r, M) else none
  | _ => none
def ti_stk (i : Instr) (pc : Nat) (L : TL) (st : List Value) (M : TM) : Option (Nat × TL × List Value × TM) := match i, st with
  | .pop, .int _ :: r => some (pc + 1, L, r, M)
  | .dup, .int x :: r => some (pc + 1, L, .int x :: .int x :: r, M)
  | .dup, .ref x :: r => some (pc + 1, L, .ref x :: .ref x :: r, M)
  | .dup_x1, .int x :: .ref y :: r => some (pc + 1, L, .int x :: .ref y :: .int x :: r, M)
  | .dup2, .int x :: .ref y :: r => some (pc + 1, L, .int x :: .ref y :: .int x :: .ref y :: r, M)
  | _, _ => none
def ti_step (lay : List TE) (o : Nat) (i : Instr) (pc : Nat) (L : TL) (st : List Value) (M : TM) : Option (Nat × TL × List Value × TM) := match i with
  | .iconst n => some (pc + 1, L, .int (Int32.ofInt n) :: st, M)
  | .bipush n => some (pc + 2, L, .int (Int8.ofInt n).toInt32 :: st, M)
  | .sipush n => some (pc + 3, L, .int (Int16.ofInt n).toInt32 :: st, M)
  | .lconst n => some (pc + 1, L, .long (Int64.ofNat n) :: st, M)
  | .ldc k => match ti_cs o k with
    | some (.int x) => some (pc + 2, L, .int x :: st, M)
    | some (.ref q) => some (pc + 2, L, .ref q :: st, M)
    | _ => none
  | .ldc_w k => match ti_cs o k with
    | some (.int x) => some (pc + 3, L, .int x :: st, M)
    | _ => none
  | .ldc2_w k => match ti_cs o k with
    | some (.long x) => some (pc + 3, L, .long x :: st, M)
    | _ => none
  | .iload k => ti_li k (pc + 2) L st M
  | .iload_n k => ti_li k (pc + 1) L st M
  | .aload k => ti_la k (pc + 2) L st M
  | .aload_n k => ti_la k (pc + 1) L st M
  | .lload k => ti_ll k (pc + 2) L st M
  | .lload_n k => ti_ll k (pc + 1) L st M
  | .istore k => ti_si k (pc + 2) L st M
  | .istore_n k => ti_si k (pc + 1) L st M
  | .astore k => ti_sa k (pc + 2) L st M
  | .astore_n k => ti_sa k (pc + 1) L st M
  | .lstore k => ti_sl k (pc + 2) L st M
  | .lstore_n k => ti_sl k (pc + 1) L st M
  | .iinc k n => match L[k]? with
    | some (some (.int x)) => (ti_st1 L k (.int (x + Int32.ofInt n))).map fun L' => (pc + 3, L', st, M)
    | _ => none
  | .ineg => ti_u (fun x => .int (-x)) pc L st M
  | .i2b => ti_u (fun x => .int x.toInt8.toInt32) pc L st M
  | .i2s => ti_u (fun x => .int x.toInt16.toInt32) pc L st M
  | .i2c => ti_u (fun x => .int (x.toUInt32 % 65536).toInt32) pc L st M
  | .i2l => ti_u (fun x => .long x.toInt64) pc L st M
  | .iadd => ti_b (fun x y => some (x + y)) pc L st M
  | .isub => ti_b (fun x y => some (x - y)) pc L st M
  | .imul => ti_b (fun x y => some (x * y)) pc L st M
  | .iand => ti_b (fun x y => some (x &&& y)) pc L st M
  | .ior => ti_b (fun x y => some (x ||| y)) pc L st M
  | .ixor => ti_b (fun x y => some (x ^^^ y)) pc L st M
  | .ishl => ti_b (fun x y => some (x <<< (y &&& 31))) pc L st M
  | .ishr => ti_b (fun x y => some (x >>> (y &&& 31))) pc L st M
  | .iushr => ti_b (fun x y => some (x.toUInt32 >>> (y.toUInt32 &&& Int32.toUInt32 31)).toInt32) pc L st M
  | .idiv => ti_b (fun x y => if y = 0 then none else some (x / y)) pc L st M
  | .irem => ti_b (fun x y => if y = 0 then none else some (x - x / y * y)) pc L st M
  | .ladd => ti_bl (fun x y => some (.long (x + y))) pc L st M
  | .lmul => ti_bl (fun x y => some (.long (x * y))) pc L st M
  | .ldiv => ti_bl (fun x y => if y = 0 then none else some (.long (x / y))) pc L st M
  | .lrem => ti_bl (fun x y => if y = 0 then none else some (.long (x - x / y * y))) pc L st M
  | .lcmp => ti_bl (fun x y => some (.int (lg_cmp x y))) pc L st M
  | .pop => ti_stk .pop pc L st M
  | .dup => ti_stk .dup pc L st M
  | .dup_x1 => ti_stk .dup_x1 pc L st M
  | .dup2 => ti_stk .dup2 pc L st M
  | .goto off => (ti_jmp pc off).map fun t => (t, L, st, M)
  | .if_icmp c off => ti_ic c off pc L st M
  | .ifCond c off => ti_if c off pc L st M
  | .tableswitch dflt lo hi offs => ti_ts dflt lo hi offs pc L st M
  | .lookupswitch dflt ps => ti_ls dflt ps pc L st M
  | .iaload => ti_al lay [0] pc L st M
  | .baload => ti_al lay [1, 3] pc L st M
  | .caload => ti_al lay [2] pc L st M
  | .laload => ti_al lay [4] pc L st M
  | .aaload => ti_aa lay pc L st M
  | .iastore => ti_as lay [0] pc L st M
  | .bastore => ti_as lay [1, 3] pc L st M
  | .castore => ti_as lay [2] pc L st M
  | .lastore => ti_als lay pc L st M
  | .arraylength => ti_len lay pc L st M
  | .getfield k => ti_gf lay o k pc L st M
  | .putfield k => ti_pf lay o k pc L st M
  | _ => none
/-- the length that the decoder must tell -/
def ti_lk : Instr → Nat → Bool
  | .tableswitch _ _ _ _, _ => true
  | .lookupswitch _ _, _ => true
  | .bipush _, n => n == 2
  | .ldc _, n => n == 2
  | .iload _, n => n == 2
  | .aload _, n => n == 2
  | .lload _, n => n == 2
  | .istore _, n => n == 2
  | .astore _, n => n == 2
  | .lstore _, n => n == 2
  | .sipush _, n => n == 3
  | .ldc_w _, n => n == 3
  | .ldc2_w _, n => n == 3
  | .iinc _ _, n => n == 3
  | .goto _, n => n == 3
  | .if_icmp _ _, n => n == 3
  | .ifCond _ _, n => n == 3
  | .getfield _, n => n == 3
  | .putfield _, n => n == 3
  | .invokevirtual _, n => n == 3
  | .invokestatic _, n => n == 3
  | _, n => n == 1
def ti_ret (rt : Option FieldType) (i : Instr) (st : List Value) : Option (Option Value) := match i, st with
  | .ireturn, [.int v] => if rt = some .int ∨ rt = some .boolean ∧ (v = 0 ∨ v = 1) then some (some (.int v)) else none
  | .lreturn, [.long v] => if rt = some .long then some (some (.long v)) else none
  | .return_, [] => if rt = none then some none else none
  | _, _ => none
def ti_cat (vs : List Value) : Nat := (vs.map fun v => v.category).sum
/-- place of a sign in the seven names -/
def ti_ix (c : Int32) : Int32 := if c = 115 then 0 else if c = 116 then 1 else if c = 104 then 2 else if c = 120 then 3 else if c = 110 then 4 else if c = 99 then 5 else if c = 105 then 6 else -1
/-- the JDK's own: 0 max, 1 min, 2 abs, 3 arraycopy, 4 indexOf -/
def ti_bui (lay : List TE) (b : Nat) (st : List Value) (M : TM) : Option (List Value × TM) := match b, st with
  | 0, .int y :: .int x :: r => if ti_cat r ≤ 8 then some (.int (if x < y then y else x) :: r, M) else none
  | 1, .int y :: .int x :: r => if ti_cat r ≤ 8 then some (.int (if y < x then y else x) :: r, M) else none
  | 2, .int x :: r => if ti_cat r ≤ 8 then some (.int (if 0 ≤ x then x else 0 - x) :: r, M) else none
  | 3, .int n :: .int dp :: .ref q1 :: .int sp :: .ref q0 :: r => match lay[q0]?, lay[q1]? with
    | some (.inr (.inl (0, n0))), some (.inr (.inl (0, n1))) => if ti_cat r ≤ 8 ∧ 0 ≤ sp ∧ 0 ≤ dp ∧ 0 ≤ n ∧ sp.toNatClampNeg + n.toNatClampNeg ≤ n0 ∧ dp.toNatClampNeg + n.toNatClampNeg ≤ n1 then some (r, (va_up M.1 q1 (va_cpy (M.1 q0) (M.1 q1) sp.toNatClampNeg dp.toNatClampNeg n.toNatClampNeg), M.2.1, M.2.2)) else none
    | _, _ => none
  | 4, .int c :: .ref q :: r => if ti_cat r ≤ 8 ∧ 0 ≤ c ∧ c ≤ 65535 ∧ q = 900 then some (.int (ti_ix c) :: r, M) else none
  | _, _ => none
def ti_rcv (lay : List TE) (kd o2 : Nat) (vs : List Value) : Bool := match kd with
  | 0 => match vs with
    | .ref p :: _ => match lay[p]? with
      | some (.inl (ci, _)) => ci == o2
      | _ => false
    | _ => false
  | _ => true
/-- which call an instruction is: its pool place, and whether it has a receiver -/
def ti_inv : Instr → Option (Bool × Nat)
  | .invokevirtual k => some (true, k)
  | .invokestatic k => some (false, k)
  | _ => none
def ti_exec (lay : List TE) : Nat → Nat → TH → Nat → TL → List Value → TM → Option (Option Value × TM)
  | 0, _, _, _, _, _, _ => none
  | f + 1, d, h, pc, L, st, M =>
    match decode h.2.1 pc with
    | .error _ => none
    | .ok (i, len) =>
      if ti_lk i len = true then
        match ti_inv i with
        | some (vr, k) =>
          match d with
          | 0 => none
          | d' + 1 =>
            match ti_br h.1 k with
            | some b => if vr = (b == 4) ∧ ((b == 4) = false ∨ 8 ≤ d' + 1) then match ti_bui lay b st M with
                | some (st', M') => ti_exec lay f (d' + 1) h (pc + 3) L st' M'
                | none => none
              else none
            | none => match ti_mr h.1 k with
              | none => none
              | some (kd, h2, mL, n, _) =>
                if vr = (kd == 0) ∧ n ≤ st.length ∧ ti_cat (st.drop n) ≤ 8 ∧ ti_oka (st.take n).reverse = true ∧ (ti_ent (st.take n).reverse).length ≤ mL ∧ ti_rcv lay kd h2.1 (st.take n).reverse = true then
                  match ti_exec lay f d' h2 0 (ti_entry mL (st.take n).reverse) [] M with
                  | some (r, M1) => ti_exec lay f (d' + 1) h (pc + 3) L (r.toList ++ st.drop n) M1
                  | none => none
                else none
        | none => match ti_ret h.2.2 i st with
          | some r => some (r, M)
          | none => match ti_step lay h.1 i pc L st M with
            | some (pc', L', st', M') => ti_exec lay f d h pc' L' st' M'
            | none => none
      else none
