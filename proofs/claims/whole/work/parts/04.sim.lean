/-! MY MACHINE AND THE JVM: what stands for what.
    E: (where my cells begin, the heap at the law's entry, the addresses of old cells, the classes' numbers and slots, the array classes by tags) -/
abbrev q_X : Type := Nat × Heap × (Int → Nat) × va_G × (Nat → ClassId)
def q_i32 (v : Int) : Prop := -2147483648 ≤ v ∧ v < 2147483648
def q_i64 (v : Int) : Prop := -9223372036854775808 ≤ v ∧ v < 9223372036854775808
def q_a (E : q_X) (k : Int) : Nat := if 0 ≤ k then E.1 + k.toNat else E.2.2.1 k
def q_cv (E : q_X) (v : q_V) : Value := if v.1 = 0 then .int (Int32.ofInt v.2) else if v.1 = 3 then .long (Int64.ofInt v.2) else .ref (q_a E v.2)
/-- a field's value by its tag -/
def q_fv (E : q_X) (u : Nat) (v : Int) : Value := if u = 0 ∨ u = 7 then .int (Int32.ofInt v) else if u = 3 then .long (Int64.ofInt v) else if v < 0 then .null else .ref (q_a E v)
def q_rf (E : q_X) (v : Int) : Option Nat := if v < 0 then none else some (q_a E v)
/-- the tags of the fields, by classes -/
def q_ft (c : Nat) : List Nat := q_fts.getD c []
def q_en (E : q_X) (t : Nat × Int) (row : Int → Int) : va_E :=
  if t.1 = 30 ∨ t.1 = 31 then .inl (E.2.2.2.2 t.1, t.2.toNat, .inl (fun j => Int32.ofInt (row j)))
  else if 32 ≤ t.1 then .inl (E.2.2.2.2 t.1, t.2.toNat, .inr (.inr (.inr (.inr (fun j => q_rf E (row j))))))
  else .inr (t.1 - 10, (q_ft (t.1 - 10)).mapIdx (fun j u => q_fv E u (row j)))
def q_ws (E : q_X) (s : q_M) : va_W := (List.range s.1.1.toNat).map (fun (k : Nat) => (E.1 + k, q_en E (s.1.2 k) (s.2 k)))
/-- a value is good: an int is one, a reference leads to a cell of its tag -/
def q_vk (s : q_M) (v : q_V) : Prop := (v.1 = 0 ∧ q_i32 v.2) ∨ (v.1 = 3 ∧ q_i64 v.2) ∨ (10 ≤ v.1 ∧ ((0 ≤ v.2 ∧ v.2 < s.1.1 ∧ (s.1.2 v.2).1 = v.1) ∨ (v.1 = 30 ∧ (v.2 = -5 ∨ v.2 = -6)) ∨ (v.1 = 33 ∧ v.2 = -4)))
/-- a slot of a tag is good -/
def q_sk (s : q_M) (u : Nat) (v : Int) : Prop := (u = 0 ∧ q_i32 v) ∨ (u = 7 ∧ (v = 0 ∨ v = 1)) ∨ (u = 3 ∧ q_i64 v) ∨ (10 ≤ u ∧ (v < 0 ∨ (v < s.1.1 ∧ (s.1.2 v).1 = u)))
/-- what an array of a tag holds -/
def q_el (t : Nat) : Nat := if t = 30 then 0 else if t = 31 then 7 else if t = 32 then 30 else t - 30
def q_ck (s : q_M) (k : Int) : Prop :=
  (30 ≤ (s.1.2 k).1 ∧ (s.1.2 k).1 ≠ 33 ∧ ((s.1.2 k).1 ≤ 32 ∨ (40 ≤ (s.1.2 k).1 ∧ (s.1.2 k).1 < 53)) ∧ 0 ≤ (s.1.2 k).2 ∧ (s.1.2 k).2 ≤ 10000 ∧ ∀ j, 0 ≤ j → j < (s.1.2 k).2 → q_sk s (q_el (s.1.2 k).1) (s.2 k j)) ∨
  (10 ≤ (s.1.2 k).1 ∧ (s.1.2 k).1 < 23 ∧ ∀ (j : Nat) (u : Nat), (q_ft ((s.1.2 k).1 - 10))[j]? = some u → q_sk s u (s.2 k j))
/-- an old row of ints: it stands in the heap of the law's entry -/
def q_old (E : q_X) (s : q_M) (k : Int) : Prop := (s.1.2 k).1 = 30 ∧ 0 ≤ (s.1.2 k).2 ∧ (s.1.2 k).2 ≤ 10000 ∧ E.2.2.1 k < E.1 ∧ (∀ j, 0 ≤ j → j < (s.1.2 k).2 → q_i32 (s.2 k j)) ∧
  ∃ cell : Cell, E.2.1[E.2.2.1 k]? = some cell ∧ cell.vm ≠ .unknown ∧ (s.1.2 k).2.toNat ≤ cell.slots.size ∧ cell.slots.size.toInt32 = Int32.ofInt (s.1.2 k).2 ∧ ∀ j : Nat, j < (s.1.2 k).2.toNat → cell.slots[j]? = some (.int (Int32.ofInt (s.2 k j)))
def q_mok (E : q_X) (s : q_M) : Prop := 0 ≤ s.1.1 ∧ (∀ k, 0 ≤ k → k < s.1.1 → q_ck s k) ∧ q_old E s (-5) ∧ q_old E s (-6) ∧ s.1.2 (-4) = (33, 56)
def q_rel (E : q_X) (s : q_M) (H : Heap) : Prop := H.size = E.1 + s.1.1.toNat ∧ (∀ q : Nat, q < E.1 → H[q]? = E.2.1[q]?) ∧ va_P E.2.2.2.1 vwCl (q_ws E s) H
def q_ext (s t : q_M) : Prop := s.1.1 ≤ t.1.1 ∧ ∀ k, k < s.1.1 → t.1.2 k = s.1.2 k
/-- the array classes -/
def q_tys (E : q_X) : List (ClassId × FieldType) := [(E.2.2.2.2 30, .int), (E.2.2.2.2 31, .boolean), (E.2.2.2.2 32, .array .int), (E.2.2.2.2 40, .object RX0), (E.2.2.2.2 42, .object RX2), (E.2.2.2.2 43, .object RX3), (E.2.2.2.2 47, .object RX7)]
def q_isA (E : q_X) (k : Int) (U : State) : Prop := ∀ cell : Cell, E.2.1[E.2.2.1 k]? = some cell → U.isArrayOf cell .int
/-- what the state must say at each method's entry -/
def q_env (E : q_X) (U : State) : Prop := va_K E.2.2.2.1 vwCl (q_tys E) U ∧ q_isA E (-5) U ∧ q_isA E (-6) U ∧ q_env2 E U
def q_rm (d mc : Nat) : Room := { frames := 2 * d + 4, cells := mc, slots := 10000 * mc, locals := 100 * d + 100 }
def q_Pc (E : q_X) (as : List q_V) (s : q_M) : Array Value → State → Prop := fun v U => v = (as.map (q_cv E)).toArray ∧ q_rel E s U.heap ∧ q_env E U
def q_rv (E : q_X) (v : q_V) : Option Value := if v.1 = 9 then none else some (q_cv E v)
def q_rk (r : q_V × q_M) : Prop := r.1.1 = 9 ∨ q_vk r.2 r.1
def q_Qc (E : q_X) (r : q_V × q_M) : Array Value → State → Outcome → State → Prop := fun _ _ o t => o = .returned (q_rv E r.1) ∧ q_rel E r.2 t.heap ∧ q_mok E r.2 ∧ q_rk r
/-- a method: its name, code, locals, answer, depth -/
abbrev q_I : Type := Nat → MethodName × ByteArray × Nat × Option FieldType × Nat
def q_met (E : q_X) (l : Launch) (I : q_I) (M : Nat) (as : List q_V) (s : q_M) (r : q_V × q_M) : Prop :=
  Met l (I M).1 (Cond.code (I M).1 (I M).2.1 (I M).2.2.1 (I M).2.2.2.1 :: qG) (q_rm (I M).2.2.2.2 (r.2.1.1 - s.1.1).toNat) (q_Pc E as s) (q_Qc E r) (r.2.1.1 - s.1.1).toNat (10000 * (r.2.1.1 - s.1.1).toNat) (fun q => E.1 ≤ q)
def q_ch (E : q_X) (l : Launch) (I : q_I) (C : q_C) : Prop := ∀ (M : Nat) (as : List q_V) (s : q_M) (r : q_V × q_M), C M as s = some r → (q_ext s r.2 ∧ ((I M).2.2.2.1 = none ↔ r.1.1 = 9)) ∧ (q_mok E s → (∀ v ∈ as, q_vk s v) → q_met E l I M as s r)
/-- locals of mine and the JVM's -/
def q_ls (E : q_X) (nL : Nat) (ls : List q_V) (A : Array Slot) : Prop := ls.length = nL ∧ A.size = nL ∧ lv_wf A ∧ ∀ i : Nat, (q_at ls i).1 ≠ 9 → A[i]? = some (.val (q_cv E (q_at ls i)))
/-- all values of a frame are good -/
def q_fk (s : q_M) (ls st : List q_V) : Prop := (∀ i : Nat, (q_at ls i).1 ≠ 9 → q_vk s (q_at ls i)) ∧ ∀ v ∈ st, q_vk s v
section QS
variable (E : q_X) (l : Launch) (nL : Nat) (rt : Option FieldType) (p : Program) (e : Env) (R : Room) (s : State) (m : MethodId) (args : Array Value) (below : List Frame) (meth : Method) (c : Code) (Q : State → Prop) (s0 : q_M) (r : q_V × q_M)
/-- from here on, with this frame and this memory, the JVM comes to what is asked -/
def q_S (pc : Nat) (ls st : List q_V) (s1 : q_M) : Prop := (q_ext s1 r.2 ∧ (rt = none ↔ r.1.1 = 9)) ∧ (q_mok E s1 → q_fk s1 ls st → s0.1.1 ≤ s1.1.1 →
  ∀ (H : Heap) (locs : List Loc) (A : Array Slot), q_rel E s1 H → q_ls E nL ls A → (∀ x ∈ locs, E.1 ≤ x.base) →
    W p l e R s m args below meth c H locs (s1.1.1 - s0.1.1).toNat (10000 * (s1.1.1 - s0.1.1).toNat) Q (F0 m pc A (st.map (q_cv E))))
/-- the method's own facts -/
def q_cx (own : String) (cc : ByteArray) (nm : String) (d : Nat) : Prop :=
  p.tables.exec = Jvm.exec ∧ c.code = cc ∧ meth.sig.returnType = rt ∧ c.maxLocals = nL ∧ s.vm.findClass own = some m.cls ∧ meth.locks = false ∧ (nm = "<init>" → meth.name = nm) ∧ (∀ w ∈ qG, w.before args s = true) ∧ q_env E s ∧
  E.1 ≤ s.heap.size ∧ (∀ q : Nat, q < E.1 → s.heap[q]? = E.2.1[q]?) ∧ 2 * d + 4 ≤ R.frames ∧ 100 * d + 100 ≤ R.locals ∧ (r.2.1.1 - s0.1.1).toNat ≤ R.cells ∧ 10000 * (r.2.1.1 - s0.1.1).toNat ≤ R.slots ∧ s.heap.size = E.1 + s0.1.1.toNat ∧ 0 ≤ s0.1.1
/-- its ends -/
def q_ret (cc : ByteArray) : Prop := ∀ (pc : Nat) (A : Array Slot) (H : Heap) (locs : List Loc), q_mok E r.2 → q_rel E r.2 H → (∀ x ∈ locs, E.1 ≤ x.base) →
  (r.1.1 = 9 → rt = none → decode cc pc = .ok (.return_, 1) → W p l e R s m args below meth c H locs (r.2.1.1 - s0.1.1).toNat (10000 * (r.2.1.1 - s0.1.1).toNat) Q (F0 m pc A [])) ∧
  (∀ v : Int, r.1 = (0, v) → q_i32 v → (rt = some .int ∨ (rt = some .boolean ∧ (v = 0 ∨ v = 1))) → decode cc pc = .ok (.ireturn, 1) → W p l e R s m args below meth c H locs (r.2.1.1 - s0.1.1).toNat (10000 * (r.2.1.1 - s0.1.1).toNat) Q (F0 m pc A [.int (Int32.ofInt v)]))
end QS
/-- an instruction of mine stands for the JVM's at this place -/
def q_sim (E : q_X) (l : Launch) (I : q_I) (own : String) (cc : ByteArray) (nL : Nat) (rt : Option FieldType) (nm : String) (d pc : Nat) (op : q_O) : Prop := q_fin op ∧
  ∀ (p : Program) (e : Env) (R : Room) (s : State) (m : MethodId) (args : Array Value) (below : List Frame) (meth : Method) (c : Code) (Q : State → Prop) (s0 : q_M) (r : q_V × q_M),
    q_cx E nL rt p R s m args meth c s0 r own cc nm d → q_ret E l rt p e R s m args below meth c Q s0 r cc → ∀ (C : q_C) (K : q_K) (ls st : List q_V) (s1 : q_M), op C K ls st s1 = some r → q_ch E l I C →
    (∀ (pc' : Nat) (ls' st' : List q_V) (s' : q_M), K pc' ls' st' s' = some r → q_S E l nL rt p e R s m args below meth c Q s0 r pc' ls' st' s') → q_S E l nL rt p e R s m args below meth c Q s0 r pc ls st s1
