/-! MY OWN MACHINE: values with a tag, a memory of numbered cells, instructions as functions in continuation form.
    tags: 0 int, 3 long, 9 unset (or the second half of a long), 10 + c an object of class c (its place in vwCl), 30 int[], 31 boolean[], 32 int[][], 33 the one String, 40 + c an array of objects of class c.
    memory: ((how many cells, what stands at a cell: tag and length), contents). -/
abbrev q_V : Type := Nat × Int
abbrev q_M : Type := (Int × (Int → Nat × Int)) × (Int → Int → Int)
abbrev q_R : Type := Option (q_V × q_M)
abbrev q_C : Type := Nat → List q_V → q_M → q_R
abbrev q_K : Type := Nat → List q_V → List q_V → q_M → q_R
abbrev q_O : Type := q_C → q_K → List q_V → List q_V → q_M → q_R
/-- an int as 32 bits keep it -/
def q_w (x : Int) : Int := (x + 2147483648) % 4294967296 - 2147483648
def q_up (h : Int → Int → Int) (k j v : Int) : Int → Int → Int := fun a b => if a = k ∧ b = j then v else h a b
def q_at : List q_V → Nat → q_V
  | [], _ => (9, 0)
  | v :: _, 0 => v
  | _ :: r, n + 1 => q_at r n
def q_set : List q_V → Nat → q_V → List q_V
  | [], _, _ => []
  | _ :: r, 0, x => x :: r
  | v :: r, n + 1, x => v :: q_set r n x
/-- a store at place i: it is there, and no long stands just ahead of it -/
def q_lk (ls : List q_V) (i : Nat) : Bool := Nat.blt i ls.length && (match i with
  | 0 => true
  | j + 1 => !(Nat.beq (q_at ls j).1 3))
def q_args : Nat → List q_V → List q_V → Option (List q_V × List q_V)
  | 0, st, acc => some (acc, st)
  | _ + 1, [], _ => none
  | n + 1, v :: st, acc => q_args n st (v :: acc)
/-- the locals at a method's entry -/
def q_sl : List q_V → List q_V
  | [] => []
  | (t, v) :: r => if Nat.beq t 3 then (3, v) :: (9, 0) :: q_sl r else (t, v) :: q_sl r
def q_ent (n : Nat) (as : List q_V) : List q_V := q_sl as ++ List.replicate (n - (q_sl as).length) (9, 0)
def q_cat : List q_V → Nat
  | [] => 0
  | (t, _) :: r => (if Nat.beq t 3 then 2 else 1) + q_cat r
-- constants, locals, stack
def o_const (v : Int) (n : Nat) : q_O := fun _ K ls st s => K n ls ((0, v) :: st) s
def o_lconst (v : Int) (n : Nat) : q_O := fun _ K ls st s => K n ls ((3, v) :: st) s
def o_iload (i n : Nat) : q_O := fun _ K ls st s => match q_at ls i with
  | (0, v) => K n ls ((0, v) :: st) s
  | _ => none
def o_lload (i n : Nat) : q_O := fun _ K ls st s => match q_at ls i with
  | (3, v) => K n ls ((3, v) :: st) s
  | _ => none
def o_aload (i n : Nat) : q_O := fun _ K ls st s => if Nat.ble 10 (q_at ls i).1 then K n ls (q_at ls i :: st) s else none
def o_istore (i n : Nat) : q_O := fun _ K ls st s => match st with
  | (0, v) :: st => if q_lk ls i then K n (q_set ls i (0, v)) st s else none
  | _ => none
def o_lstore (i n : Nat) : q_O := fun _ K ls st s => match st with
  | (3, v) :: st => if q_lk ls i && Nat.blt (i + 1) ls.length then K n (q_set (q_set ls i (3, v)) (i + 1) (9, 0)) st s else none
  | _ => none
def o_astore (i n : Nat) : q_O := fun _ K ls st s => match st with
  | (t, v) :: st => if Nat.ble 10 t && q_lk ls i then K n (q_set ls i (t, v)) st s else none
  | _ => none
def o_iinc (i : Nat) (k : Int) (n : Nat) : q_O := fun _ K ls st s => match q_at ls i with
  | (0, v) => K n (q_set ls i (0, q_w (v + k))) st s
  | _ => none
def o_dup (n : Nat) : q_O := fun _ K ls st s => match st with
  | (t, v) :: st => if Nat.beq t 3 then none else K n ls ((t, v) :: (t, v) :: st) s
  | _ => none
def o_pop (n : Nat) : q_O := fun _ K ls st s => match st with
  | (t, _) :: st => if Nat.beq t 3 then none else K n ls st s
  | _ => none
def o_dup2 (n : Nat) : q_O := fun _ K ls st s => match st with
  | (t, v) :: (u, w) :: st => if Nat.beq t 3 || Nat.beq u 3 then none else K n ls ((t, v) :: (u, w) :: (t, v) :: (u, w) :: st) s
  | _ => none
-- arithmetic
def o_bin (f : Int → Int → Int) (n : Nat) : q_O := fun _ K ls st s => match st with
  | (0, b) :: (0, a) :: st => K n ls ((0, f a b) :: st) s
  | _ => none
def o_un (f : Int → Int) (n : Nat) : q_O := fun _ K ls st s => match st with
  | (0, a) :: st => K n ls ((0, f a) :: st) s
  | _ => none
def o_div (f : Int → Int → Int) (n : Nat) : q_O := fun _ K ls st s => match st with
  | (0, b) :: (0, a) :: st => if b = 0 then none else K n ls ((0, f a b) :: st) s
  | _ => none
def o_lbin (f : Int → Int → Int) (n : Nat) : q_O := fun _ K ls st s => match st with
  | (3, b) :: (3, a) :: st => K n ls ((3, f a b) :: st) s
  | _ => none
def o_lsh (f : Int → Int → Int) (n : Nat) : q_O := fun _ K ls st s => match st with
  | (0, b) :: (3, a) :: st => K n ls ((3, f a b) :: st) s
  | _ => none
def o_lcmp (n : Nat) : q_O := fun _ K ls st s => match st with
  | (3, b) :: (3, a) :: st => K n ls ((0, if a < b then -1 else if a = b then 0 else 1) :: st) s
  | _ => none
def q_add (a b : Int) : Int := q_w (a + b)
def q_sub (a b : Int) : Int := q_w (a - b)
def q_mul (a b : Int) : Int := q_w (a * b)
def q_div (a b : Int) : Int := (Int32.ofInt a / Int32.ofInt b).toInt
def q_rem (a b : Int) : Int := (Int32.ofInt a - Int32.ofInt a / Int32.ofInt b * Int32.ofInt b).toInt
def q_and (a b : Int) : Int := (Int32.ofInt a &&& Int32.ofInt b).toInt
def q_or (a b : Int) : Int := (Int32.ofInt a ||| Int32.ofInt b).toInt
def q_xor (a b : Int) : Int := (Int32.ofInt a ^^^ Int32.ofInt b).toInt
def q_shl (a b : Int) : Int := (Int32.ofInt a <<< (Int32.ofInt b &&& 31)).toInt
def q_shr (a b : Int) : Int := (Int32.ofInt a >>> (Int32.ofInt b &&& 31)).toInt
def q_i2b (a : Int) : Int := ((Int32.ofInt a).toInt8.toInt32).toInt
def q_i2s (a : Int) : Int := ((Int32.ofInt a).toInt16.toInt32).toInt
def q_land (a b : Int) : Int := (Int64.ofInt a &&& Int64.ofInt b).toInt
def q_lor (a b : Int) : Int := (Int64.ofInt a ||| Int64.ofInt b).toInt
def q_lxor (a b : Int) : Int := (Int64.ofInt a ^^^ Int64.ofInt b).toInt
def q_lshl (a b : Int) : Int := (Int64.ofInt a <<< ((Int32.ofInt b).toInt64 &&& 63)).toInt
def q_lshr (a b : Int) : Int := (Int64.ofInt a >>> ((Int32.ofInt b).toInt64 &&& 63)).toInt
-- branches
def o_ifeq (t n : Nat) : q_O := fun _ K ls st s => match st with
  | (0, a) :: st => if a = 0 then K t ls st s else K n ls st s
  | _ => none
def o_ifne (t n : Nat) : q_O := fun _ K ls st s => match st with
  | (0, a) :: st => if a = 0 then K n ls st s else K t ls st s
  | _ => none
def o_iflt (t n : Nat) : q_O := fun _ K ls st s => match st with
  | (0, a) :: st => if a < 0 then K t ls st s else K n ls st s
  | _ => none
def o_ifge (t n : Nat) : q_O := fun _ K ls st s => match st with
  | (0, a) :: st => if a < 0 then K n ls st s else K t ls st s
  | _ => none
def o_ifgt (t n : Nat) : q_O := fun _ K ls st s => match st with
  | (0, a) :: st => if 0 < a then K t ls st s else K n ls st s
  | _ => none
def o_ifle (t n : Nat) : q_O := fun _ K ls st s => match st with
  | (0, a) :: st => if 0 < a then K n ls st s else K t ls st s
  | _ => none
def o_icmpeq (t n : Nat) : q_O := fun _ K ls st s => match st with
  | (0, b) :: (0, a) :: st => if a = b then K t ls st s else K n ls st s
  | _ => none
def o_icmpne (t n : Nat) : q_O := fun _ K ls st s => match st with
  | (0, b) :: (0, a) :: st => if a = b then K n ls st s else K t ls st s
  | _ => none
def o_icmplt (t n : Nat) : q_O := fun _ K ls st s => match st with
  | (0, b) :: (0, a) :: st => if a < b then K t ls st s else K n ls st s
  | _ => none
def o_icmpge (t n : Nat) : q_O := fun _ K ls st s => match st with
  | (0, b) :: (0, a) :: st => if a < b then K n ls st s else K t ls st s
  | _ => none
def o_icmpgt (t n : Nat) : q_O := fun _ K ls st s => match st with
  | (0, b) :: (0, a) :: st => if b < a then K t ls st s else K n ls st s
  | _ => none
def o_icmple (t n : Nat) : q_O := fun _ K ls st s => match st with
  | (0, b) :: (0, a) :: st => if b < a then K n ls st s else K t ls st s
  | _ => none
def o_goto (t : Nat) : q_O := fun _ K ls st s => K t ls st s
def q_sw : List (Int × Nat) → Nat → Int → Nat
  | [], d, _ => d
  | (c, t) :: r, d, a => if a = c then t else q_sw r d a
/-- the same, the choice outside -/
def q_swk : List (Int × Nat) → Nat → Int → (Nat → q_R) → q_R
  | [], d, _, k => k d
  | (c, t) :: r, d, a, k => if a = c then k t else q_swk r d a k
def o_switch (cs : List (Int × Nat)) (d : Nat) : q_O := fun _ K ls st s => match st with
  | (0, a) :: st => q_swk cs d a (fun t => K t ls st s)
  | _ => none
-- fields (t the tag of the object, j the field, u the tag of what is read)
def o_getI (t : Nat) (j : Int) (n : Nat) : q_O := fun _ K ls st s => match st with
  | (t', k) :: st => if Nat.beq t' t then K n ls ((0, s.2 k j) :: st) s else none
  | _ => none
def o_getL (t : Nat) (j : Int) (n : Nat) : q_O := fun _ K ls st s => match st with
  | (t', k) :: st => if Nat.beq t' t then K n ls ((3, s.2 k j) :: st) s else none
  | _ => none
def o_getR (t : Nat) (j : Int) (u : Nat) (n : Nat) : q_O := fun _ K ls st s => match st with
  | (t', k) :: st => if Nat.beq t' t then (if 0 ≤ s.2 k j then K n ls ((u, s.2 k j) :: st) s else none) else none
  | _ => none
def o_putI (t : Nat) (j : Int) (n : Nat) : q_O := fun _ K ls st s => match st with
  | (0, v) :: (t', k) :: st => if Nat.beq t' t then K n ls st (s.1, q_up s.2 k j v) else none
  | _ => none
def o_putZ (t : Nat) (j : Int) (n : Nat) : q_O := fun _ K ls st s => match st with
  | (0, v) :: (t', k) :: st => if Nat.beq t' t then (if v = 0 ∨ v = 1 then K n ls st (s.1, q_up s.2 k j v) else none) else none
  | _ => none
def o_putL (t : Nat) (j : Int) (n : Nat) : q_O := fun _ K ls st s => match st with
  | (3, v) :: (t', k) :: st => if Nat.beq t' t then K n ls st (s.1, q_up s.2 k j v) else none
  | _ => none
def o_putR (t : Nat) (j : Int) (u : Nat) (n : Nat) : q_O := fun _ K ls st s => match st with
  | (u', v) :: (t', k) :: st => if Nat.beq t' t && Nat.beq u' u then (if 0 ≤ v then K n ls st (s.1, q_up s.2 k j v) else none) else none
  | _ => none
/-- the static row UNDER: the old cell -5 -/
def o_under (n : Nat) : q_O := fun _ K ls st s => K n ls ((30, -5) :: st) s
/-- the one String: the old cell -4 -/
def o_text (n : Nat) : q_O := fun _ K ls st s => K n ls ((33, -4) :: st) s
/-- the one String's letters -/
def q_tx : List Int := [116, 114, 97, 99, 107, 44, 115, 101, 110, 100, 44, 104, 101, 97, 114, 44, 98, 111, 116, 104, 44, 102, 97, 114, 44, 115, 104, 97, 114, 101, 100, 44, 97, 114, 114, 97, 121, 44, 99, 44, 110, 44, 102, 114, 111, 109, 44, 116, 111, 44, 119, 111, 114, 116, 104, 44]
def q_tc (i : Int) : Int := q_tx.getD i.toNat 0
def o_strlen (n : Nat) : q_O := fun _ K ls st s => match st with
  | (33, _) :: st => if Nat.ble (q_cat st) 8 then K n ls ((0, 56) :: st) s else none
  | _ => none
def o_charAt (n : Nat) : q_O := fun _ K ls st s => match st with
  | (0, i) :: (33, _) :: st => if Nat.ble (q_cat st) 8 then (if 0 ≤ i ∧ i < 56 then K n ls ((0, q_tc i) :: st) s else none) else none
  | _ => none
-- arrays
def o_alen (n : Nat) : q_O := fun _ K ls st s => match st with
  | (30, k) :: st => K n ls ((0, (s.1.2 k).2) :: st) s
  | _ => none
def o_iald (n : Nat) : q_O := fun _ K ls st s => match st with
  | (0, i) :: (30, k) :: st => if 0 ≤ i ∧ i < (s.1.2 k).2 then K n ls ((0, s.2 k i) :: st) s else none
  | _ => none
def o_bald (n : Nat) : q_O := fun _ K ls st s => match st with
  | (0, i) :: (31, k) :: st => if 0 ≤ i ∧ i < (s.1.2 k).2 then K n ls ((0, s.2 k i) :: st) s else none
  | _ => none
/-- an array of references: t its tag, u the tag of what it holds -/
def o_aald (t u : Nat) (n : Nat) : q_O := fun _ K ls st s => match st with
  | (0, i) :: (t', k) :: st => if Nat.beq t' t then (if 0 ≤ i ∧ i < (s.1.2 k).2 ∧ 0 ≤ s.2 k i then K n ls ((u, s.2 k i) :: st) s else none) else none
  | _ => none
def o_iast (n : Nat) : q_O := fun _ K ls st s => match st with
  | (0, v) :: (0, i) :: (30, k) :: st => if 0 ≤ i ∧ i < (s.1.2 k).2 ∧ 0 ≤ k then K n ls st (s.1, q_up s.2 k i v) else none
  | _ => none
def o_bast (n : Nat) : q_O := fun _ K ls st s => match st with
  | (0, v) :: (0, i) :: (31, k) :: st => if 0 ≤ i ∧ i < (s.1.2 k).2 ∧ (v = 0 ∨ v = 1) then K n ls st (s.1, q_up s.2 k i v) else none
  | _ => none
def o_aast (t u : Nat) (n : Nat) : q_O := fun _ K ls st s => match st with
  | (u', v) :: (0, i) :: (t', k) :: st => if Nat.beq t' t && Nat.beq u' u then (if 0 ≤ i ∧ i < (s.1.2 k).2 then K n ls st (s.1, q_up s.2 k i v) else none) else none
  | _ => none
/-- System.arraycopy between rows of ints -/
def q_cp (h : Int → Int → Int) (a i b j n : Int) : Int → Int → Int := fun c x => if c = b ∧ j ≤ x ∧ x < j + n then h a (i + (x - j)) else h c x
def o_copy (n : Nat) : q_O := fun _ K ls st s => match st with
  | (0, z) :: (0, j) :: (30, b) :: (0, i) :: (30, a) :: st => if Nat.ble (q_cat st) 8 then (if 0 ≤ i ∧ 0 ≤ j ∧ 0 ≤ z ∧ i + z ≤ (s.1.2 a).2 ∧ j + z ≤ (s.1.2 b).2 ∧ 0 ≤ a ∧ 0 ≤ b then K n ls st (s.1, q_cp s.2 a i b j z) else none) else none
  | _ => none
-- making: a cell of a tag, a length, all of it z at first
def q_mk (s : q_M) (t : Nat) (len : Int) (z : Int → Int) : q_M := ((s.1.1 + 1, fun a => if a = s.1.1 then (t, len) else s.1.2 a), fun a b => if a = s.1.1 then z b else s.2 a b)
def o_new (t : Nat) (len : Int) (z : Int → Int) (n : Nat) : q_O := fun _ K ls st s => K n ls ((t, s.1.1) :: st) (q_mk s t len z)
def o_newa (t : Nat) (n : Nat) : q_O := fun _ K ls st s => match st with
  | (0, len) :: st => if 0 ≤ len ∧ len ≤ 10000 then K n ls ((t, s.1.1) :: st) (q_mk s t len (fun _ => 0)) else none
  | _ => none
def o_newq (t : Nat) (n : Nat) : q_O := fun _ K ls st s => match st with
  | (0, len) :: st => if 0 ≤ len ∧ len ≤ 10000 then K n ls ((t, s.1.1) :: st) (q_mk s t len (fun _ => -1)) else none
  | _ => none
/-- new int[a][b]: the outer row, then a rows -/
def q_mk2 (s : q_M) (a b : Int) : q_M := ((s.1.1 + 1 + a, fun c => if c = s.1.1 then (32, a) else if s.1.1 < c ∧ c ≤ s.1.1 + a then (30, b) else s.1.2 c), fun c j => if c = s.1.1 then s.1.1 + 1 + j else if s.1.1 < c ∧ c ≤ s.1.1 + a then 0 else s.2 c j)
def o_new2 (n : Nat) : q_O := fun _ K ls st s => match st with
  | (0, b) :: (0, a) :: st => if 0 ≤ a ∧ a ≤ 100 ∧ 0 ≤ b ∧ b ≤ 100 then K n ls ((32, s.1.1) :: st) (q_mk2 s a b) else none
  | _ => none
-- calls
def o_objinit (n : Nat) : q_O := fun _ K ls st s => match st with
  | (t, _) :: st => if Nat.ble 10 t && Nat.blt t 30 && Nat.ble (q_cat st) 8 then K n ls st s else none
  | _ => none
/-- the receiver's tag is t (0: a static method) -/
def q_hd (t : Nat) : List q_V → Bool
  | [] => Nat.beq t 0
  | (t', _) :: _ => Nat.beq t 0 || Nat.beq t' t
def o_calli (t M na n : Nat) : q_O := fun C K ls st s => match q_args na st [] with
  | some (as, st) => if Nat.ble (q_cat st) 8 && q_hd t as then (C M as s).bind (fun r => K n ls (r.1 :: st) r.2) else none
  | none => none
def o_callv (t M na n : Nat) : q_O := fun C K ls st s => match q_args na st [] with
  | some (as, st) => if Nat.ble (q_cat st) 8 && q_hd t as then (C M as s).bind (fun r => K n ls st r.2) else none
  | none => none
def o_max (n : Nat) : q_O := fun _ K ls st s => match st with
  | (0, b) :: (0, a) :: st => if Nat.ble (q_cat st) 8 then K n ls ((0, if a < b then b else a) :: st) s else none
  | _ => none
def o_min (n : Nat) : q_O := fun _ K ls st s => match st with
  | (0, b) :: (0, a) :: st => if Nat.ble (q_cat st) 8 then K n ls ((0, if b < a then b else a) :: st) s else none
  | _ => none
def o_iret : q_O := fun _ _ _ st s => match st with
  | [(0, v)] => some ((0, v), s)
  | _ => none
def o_zret : q_O := fun _ _ _ st s => match st with
  | [(0, v)] => if v = 0 ∨ v = 1 then some ((0, v), s) else none
  | _ => none
def o_vret : q_O := fun _ _ _ st s => match st with
  | [] => some ((9, 0), s)
  | _ => none
