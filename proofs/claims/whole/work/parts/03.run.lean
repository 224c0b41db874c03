/-! the run of a program P (methods by numbers, instructions by places), with fuel; its limit; unrolling -/
/-- a call: the arguments become the first locals -/
def q_ca (mx : Nat → Nat) (f : Nat → q_K) : q_C := fun M as s => if Nat.ble (q_sl as).length (mx M) then f M 0 (q_ent (mx M) as) [] s else none
theorem q_ca_mono {mx : Nat → Nat} {f g : Nat → q_K} (h : ∀ M pc ls st s r, f M pc ls st s = some r → g M pc ls st s = some r) {M : Nat} {as : List q_V} {s : q_M} {r : q_V × q_M} (hf : q_ca mx f M as s = some r) : q_ca mx g M as s = some r := by
  unfold q_ca at hf ⊢
  split at hf
  · rename_i hc; rw [if_pos hc]; exact h _ _ _ _ _ _ hf
  · cases hf
theorem q_ca_some {mx : Nat → Nat} {f : Nat → q_K} {M : Nat} {as : List q_V} {s : q_M} {r : q_V × q_M} (hf : q_ca mx f M as s = some r) : (q_sl as).length ≤ mx M ∧ f M 0 (q_ent (mx M) as) [] s = some r := by
  unfold q_ca at hf
  split at hf
  · rename_i hc; exact ⟨Nat.le_of_ble_eq_true hc, hf⟩
  · cases hf
def q_run (P : Nat → Nat → Option q_O) (mx : Nat → Nat) : Nat → Nat → q_K
  | 0, _ => fun _ _ _ _ => none
  | n + 1, M => fun pc ls st s => match P M pc with
    | none => none
    | some op => op (q_ca mx (q_run P mx n)) (q_run P mx n M) ls st s
theorem q_run_some {P : Nat → Nat → Option q_O} {mx : Nat → Nat} {n M pc : Nat} {op : q_O} (hp : P M pc = some op) (ls st : List q_V) (s : q_M) : q_run P mx (n + 1) M pc ls st s = op (q_ca mx (q_run P mx n)) (q_run P mx n M) ls st s := by
  show (match P M pc with
    | none => none
    | some op => op (q_ca mx (q_run P mx n)) (q_run P mx n M) ls st s) = _
  rw [hp]
theorem q_run_none {P : Nat → Nat → Option q_O} {mx : Nat → Nat} {n M pc : Nat} (hp : P M pc = none) (ls st : List q_V) (s : q_M) : q_run P mx (n + 1) M pc ls st s = none := by
  show (match P M pc with
    | none => none
    | some op => op (q_ca mx (q_run P mx n)) (q_run P mx n M) ls st s) = _
  rw [hp]
/-- what an instruction that comes to an end may do: end, go on in one way, or call once and go on; and that is so whatever comes behind -/
def q_fin (op : q_O) : Prop := ∀ (C : q_C) (K : q_K) (ls st : List q_V) (s : q_M) (r : q_V × q_M), op C K ls st s = some r →
  (∀ (C' : q_C) (K' : q_K), op C' K' ls st s = some r) ∨
  (∃ (pc : Nat) (ls' st' : List q_V) (s' : q_M), K pc ls' st' s' = some r ∧ ∀ (C' : q_C) (K' : q_K), op C' K' ls st s = K' pc ls' st' s') ∨
  (∃ (M : Nat) (as : List q_V) (s1 : q_M) (pc : Nat) (ls' : List q_V) (f : q_V → List q_V) (r1 : q_V × q_M), C M as s1 = some r1 ∧ K pc ls' (f r1.1) r1.2 = some r ∧ ∀ (C' : q_C) (K' : q_K), op C' K' ls st s = (C' M as s1).bind (fun r => K' pc ls' (f r.1) r.2))
theorem q_mono {P : Nat → Nat → Option q_O} {mx : Nat → Nat} (hP : ∀ M pc op, P M pc = some op → q_fin op) : ∀ (n M pc : Nat) (ls st : List q_V) (s : q_M) (r : q_V × q_M), q_run P mx n M pc ls st s = some r → q_run P mx (n + 1) M pc ls st s = some r := by
  intro n
  induction n with
  | zero => intro M pc ls st s r h; simp [q_run] at h
  | succ n ih =>
    intro M pc ls st s r h
    cases hp : P M pc with
    | none => rw [q_run_none hp] at h; cases h
    | some op =>
      rw [q_run_some hp] at h ⊢
      rcases hP M pc op hp _ _ ls st s r h with h0 | ⟨pc', ls', st', s', h1, h0⟩ | ⟨M', as, s1, pc', ls', f, r1, h1, h2, h0⟩
      · exact h0 _ _
      · rw [h0]; exact ih _ _ _ _ _ _ h1
      · rw [h0, q_ca_mono ih h1]; exact ih _ _ _ _ _ _ h2
theorem q_mono' {P : Nat → Nat → Option q_O} {mx : Nat → Nat} (hP : ∀ M pc op, P M pc = some op → q_fin op) {n n' : Nat} (hn : n ≤ n') {M pc : Nat} {ls st : List q_V} {s : q_M} {r : q_V × q_M} (h : q_run P mx n M pc ls st s = some r) : q_run P mx n' M pc ls st s = some r := by
  induction hn with
  | refl => exact h
  | step _ ih => exact q_mono hP _ _ _ _ _ _ _ ih
noncomputable def q_lim (P : Nat → Nat → Option q_O) (mx : Nat → Nat) (M : Nat) : q_K := fun pc ls st s =>
  @dite _ (∃ n, (q_run P mx n M pc ls st s).isSome) (Classical.propDecidable _) (fun h => q_run P mx (Classical.choose h) M pc ls st s) (fun _ => none)
noncomputable def q_call (P : Nat → Nat → Option q_O) (mx : Nat → Nat) : q_C := q_ca mx (q_lim P mx)
theorem q_lim_iff {P : Nat → Nat → Option q_O} {mx : Nat → Nat} (hP : ∀ M pc op, P M pc = some op → q_fin op) {M pc : Nat} {ls st : List q_V} {s : q_M} {r : q_V × q_M} : q_lim P mx M pc ls st s = some r ↔ ∃ n, q_run P mx n M pc ls st s = some r := by
  unfold q_lim
  constructor
  · intro h
    split at h
    · exact ⟨_, h⟩
    · cases h
  · rintro ⟨n, h⟩
    have hx : ∃ n, (q_run P mx n M pc ls st s).isSome := ⟨n, by rw [h]; rfl⟩
    rw [dif_pos hx]
    have h1 := Classical.choose_spec hx
    obtain ⟨r1, e1⟩ := Option.isSome_iff_exists.mp h1
    rw [e1]
    have a := q_mono' hP (Nat.le_max_left n (Classical.choose hx)) h
    have b := q_mono' hP (Nat.le_max_right n (Classical.choose hx)) e1
    rw [a] at b
    exact b.symm
theorem q_lim_step {P : Nat → Nat → Option q_O} {mx : Nat → Nat} (hP : ∀ M pc op, P M pc = some op → q_fin op) {M pc : Nat} {op : q_O} (hp : P M pc = some op) (ls st : List q_V) (s : q_M) : q_lim P mx M pc ls st s = op (q_call P mx) (q_lim P mx M) ls st s := by
  have key : ∀ r, q_lim P mx M pc ls st s = some r ↔ op (q_call P mx) (q_lim P mx M) ls st s = some r := by
    intro r
    rw [q_lim_iff hP]
    have e : ∀ n, q_run P mx (n + 1) M pc ls st s = op (q_ca mx (q_run P mx n)) (q_run P mx n M) ls st s := by
      intro n
      exact q_run_some hp _ _ _
    constructor
    · rintro ⟨n, h⟩
      cases n with
      | zero => simp [q_run] at h
      | succ n =>
        rw [e] at h
        rcases hP M pc op hp _ _ ls st s r h with h0 | ⟨pc', ls', st', s', h1, h0⟩ | ⟨M', as, s1, pc', ls', f, r1, h1, h2, h0⟩
        · exact h0 _ _
        · rw [h0]; exact (q_lim_iff hP).mpr ⟨n, h1⟩
        · have a : q_call P mx M' as s1 = some r1 := q_ca_mono (fun M pc ls st s r hr => (q_lim_iff hP).mpr ⟨n, hr⟩) h1
          rw [h0, a]
          exact (q_lim_iff hP).mpr ⟨n, h2⟩
    · intro h
      rcases hP M pc op hp _ _ ls st s r h with h0 | ⟨pc', ls', st', s', h1, h0⟩ | ⟨M', as, s1, pc', ls', f, r1, h1, h2, h0⟩
      · exact ⟨1, by rw [e 0]; exact h0 _ _⟩
      · obtain ⟨n, hn⟩ := (q_lim_iff hP).mp h1
        exact ⟨n + 1, by rw [e, h0]; exact hn⟩
      · obtain ⟨hl, h1'⟩ := q_ca_some h1
        obtain ⟨n1, a1⟩ := (q_lim_iff hP).mp h1'
        obtain ⟨n2, a2⟩ := (q_lim_iff hP).mp h2
        refine ⟨max n1 n2 + 1, ?_⟩
        have a3 : q_ca mx (q_run P mx (max n1 n2)) M' as s1 = some r1 := by
          unfold q_ca
          rw [if_pos (Nat.ble_eq_true_of_le hl)]
          exact q_mono' hP (Nat.le_max_left n1 n2) a1
        rw [e, h0, a3]
        exact q_mono' hP (Nat.le_max_right n1 n2) a2
  cases h1 : q_lim P mx M pc ls st s with
  | some r => exact ((key r).mp h1).symm
  | none =>
    cases h2 : op (q_call P mx) (q_lim P mx M) ls st s with
    | none => rfl
    | some r => rw [(key r).mpr h2] at h1; cases h1
theorem q_lim_none {P : Nat → Nat → Option q_O} {mx : Nat → Nat} {M pc : Nat} (hp : P M pc = none) (ls st : List q_V) (s : q_M) : q_lim P mx M pc ls st s = none := by
  unfold q_lim
  rw [dif_neg]
  rintro ⟨n, h⟩
  cases n with
  | zero => simp [q_run] at h
  | succ n => rw [q_run_none hp] at h; cases h
/-- n instructions at most of the list L, until one of the places 'stops' is come to; then F -/
def q_un (L : Nat → Option q_O) (C : q_C) (F : q_K) (stops : List Nat) : Nat → q_K
  | 0 => F
  | n + 1 => fun pc ls st s => match L pc with
    | none => none
    | some op => op C (fun pc' ls' st' s' => cond (stops.any (Nat.beq pc')) (F pc' ls' st' s') (q_un L C F stops n pc' ls' st' s')) ls st s
theorem q_un_eq {P : Nat → Nat → Option q_O} {mx : Nat → Nat} (hP : ∀ M pc op, P M pc = some op → q_fin op) {M : Nat} {L : Nat → Option q_O} (hL : P M = L) (stops : List Nat) : ∀ (n pc : Nat) (ls st : List q_V) (s : q_M), q_lim P mx M pc ls st s = q_un L (q_call P mx) (q_lim P mx M) stops n pc ls st s := by
  subst hL
  intro n
  induction n with
  | zero => intros; rfl
  | succ n ih =>
    intro pc ls st s
    show _ = (match P M pc with
    | none => none
    | some op => op (q_call P mx) (fun pc' ls' st' s' => cond (stops.any (Nat.beq pc')) (q_lim P mx M pc' ls' st' s') (q_un (P M) (q_call P mx) (q_lim P mx M) stops n pc' ls' st' s')) ls st s)
    cases hp : P M pc with
    | none => rw [q_lim_none hp]
    | some op =>
      rw [q_lim_step hP hp]
      show op _ _ ls st s = op _ _ ls st s
      congr 1
      funext pc' ls' st' s'
      cases stops.any (Nat.beq pc') with
      | true => rfl
      | false => exact ih _ _ _ _
