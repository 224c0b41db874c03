/-! the run of the program, as equations -/
noncomputable def q_L (M : Nat) : q_K := q_lim q_P q_mx M
/-- a cell is made: the shape, the contents -/
def q_ms (sh : Int × (Int → Nat × Int)) (t : Nat) (len : Int) : Int × (Int → Nat × Int) := (sh.1 + 1, fun a => if a = sh.1 then (t, len) else sh.2 a)
def q_mh (sh : Int × (Int → Nat × Int)) (h : Int → Int → Int) (z : Int → Int) : Int → Int → Int := fun a b => if a = sh.1 then z b else h a b
noncomputable def q_Cc : q_C := q_call q_P q_mx
theorem q_finP : ∀ M pc op, q_P M pc = some op → q_fin op := fun M pc op h => ((q_okP (0, #[], fun _ => 0, (fun _ => 0, fun _ _ => 0), fun _ => 0) launch0).1 M pc op h).1.1
theorem q_unL {M : Nat} {L : Nat → Option q_O} (hL : q_P M = L) (stops : List Nat) (n pc : Nat) (ls st : List q_V) (s : q_M) : q_L M pc ls st s = q_un L q_Cc (q_L M) stops n pc ls st s := q_un_eq q_finP hL stops n pc ls st s
