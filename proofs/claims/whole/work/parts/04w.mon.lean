/-! along every instruction the memory only grows, and a method ends as its answer's type says -/
def q_mon (rt : Option FieldType) (op : q_O) : Prop := ∀ (C : q_C) (K : q_K) (ls st : List q_V) (s1 : q_M) (r : q_V × q_M), op C K ls st s1 = some r → (∀ M as s r, C M as s = some r → q_ext s r.2) →
  (∀ pc' ls' st' s', K pc' ls' st' s' = some r → q_ext s' r.2 ∧ (rt = none ↔ r.1.1 = 9)) → q_ext s1 r.2 ∧ (rt = none ↔ r.1.1 = 9)
theorem m_const {rt : Option FieldType} (v : Int) (n : Nat) : q_mon rt (o_const v n) := by
  intro C K ls st s1 r h hC hK
  unfold o_const at h
  repeat' split at h
  all_goals first
    | exact hK _ _ _ _ h
    | cases h
theorem m_lconst {rt : Option FieldType} (v : Int) (n : Nat) : q_mon rt (o_lconst v n) := by
  intro C K ls st s1 r h hC hK
  unfold o_lconst at h
  repeat' split at h
  all_goals first
    | exact hK _ _ _ _ h
    | cases h
theorem m_iload {rt : Option FieldType} (i n : Nat) : q_mon rt (o_iload i n) := by
  intro C K ls st s1 r h hC hK
  unfold o_iload at h
  repeat' split at h
  all_goals first
    | exact hK _ _ _ _ h
    | cases h
theorem m_lload {rt : Option FieldType} (i n : Nat) : q_mon rt (o_lload i n) := by
  intro C K ls st s1 r h hC hK
  unfold o_lload at h
  repeat' split at h
  all_goals first
    | exact hK _ _ _ _ h
    | cases h
theorem m_aload {rt : Option FieldType} (i n : Nat) : q_mon rt (o_aload i n) := by
  intro C K ls st s1 r h hC hK
  unfold o_aload at h
  repeat' split at h
  all_goals first
    | exact hK _ _ _ _ h
    | cases h
theorem m_istore {rt : Option FieldType} (i n : Nat) : q_mon rt (o_istore i n) := by
  intro C K ls st s1 r h hC hK
  unfold o_istore at h
  repeat' split at h
  all_goals first
    | exact hK _ _ _ _ h
    | cases h
theorem m_lstore {rt : Option FieldType} (i n : Nat) : q_mon rt (o_lstore i n) := by
  intro C K ls st s1 r h hC hK
  unfold o_lstore at h
  repeat' split at h
  all_goals first
    | exact hK _ _ _ _ h
    | cases h
theorem m_astore {rt : Option FieldType} (i n : Nat) : q_mon rt (o_astore i n) := by
  intro C K ls st s1 r h hC hK
  unfold o_astore at h
  repeat' split at h
  all_goals first
    | exact hK _ _ _ _ h
    | cases h
theorem m_iinc {rt : Option FieldType} (i : Nat) (k : Int) (n : Nat) : q_mon rt (o_iinc i k n) := by
  intro C K ls st s1 r h hC hK
  unfold o_iinc at h
  repeat' split at h
  all_goals first
    | exact hK _ _ _ _ h
    | cases h
theorem m_dup {rt : Option FieldType} (n : Nat) : q_mon rt (o_dup n) := by
  intro C K ls st s1 r h hC hK
  unfold o_dup at h
  repeat' split at h
  all_goals first
    | exact hK _ _ _ _ h
    | cases h
theorem m_pop {rt : Option FieldType} (n : Nat) : q_mon rt (o_pop n) := by
  intro C K ls st s1 r h hC hK
  unfold o_pop at h
  repeat' split at h
  all_goals first
    | exact hK _ _ _ _ h
    | cases h
theorem m_dup2 {rt : Option FieldType} (n : Nat) : q_mon rt (o_dup2 n) := by
  intro C K ls st s1 r h hC hK
  unfold o_dup2 at h
  repeat' split at h
  all_goals first
    | exact hK _ _ _ _ h
    | cases h
theorem m_lcmp {rt : Option FieldType} (n : Nat) : q_mon rt (o_lcmp n) := by
  intro C K ls st s1 r h hC hK
  unfold o_lcmp at h
  repeat' split at h
  all_goals first
    | exact hK _ _ _ _ h
    | cases h
theorem m_under {rt : Option FieldType} (n : Nat) : q_mon rt (o_under n) := by
  intro C K ls st s1 r h hC hK
  unfold o_under at h
  repeat' split at h
  all_goals first
    | exact hK _ _ _ _ h
    | cases h
theorem m_text {rt : Option FieldType} (n : Nat) : q_mon rt (o_text n) := by
  intro C K ls st s1 r h hC hK
  unfold o_text at h
  repeat' split at h
  all_goals first
    | exact hK _ _ _ _ h
    | cases h
theorem m_strlen {rt : Option FieldType} (n : Nat) : q_mon rt (o_strlen n) := by
  intro C K ls st s1 r h hC hK
  unfold o_strlen at h
  repeat' split at h
  all_goals first
    | exact hK _ _ _ _ h
    | cases h
theorem m_charAt {rt : Option FieldType} (n : Nat) : q_mon rt (o_charAt n) := by
  intro C K ls st s1 r h hC hK
  unfold o_charAt at h
  repeat' split at h
  all_goals first
    | exact hK _ _ _ _ h
    | cases h
theorem m_alen {rt : Option FieldType} (n : Nat) : q_mon rt (o_alen n) := by
  intro C K ls st s1 r h hC hK
  unfold o_alen at h
  repeat' split at h
  all_goals first
    | exact hK _ _ _ _ h
    | cases h
theorem m_iald {rt : Option FieldType} (n : Nat) : q_mon rt (o_iald n) := by
  intro C K ls st s1 r h hC hK
  unfold o_iald at h
  repeat' split at h
  all_goals first
    | exact hK _ _ _ _ h
    | cases h
theorem m_bald {rt : Option FieldType} (n : Nat) : q_mon rt (o_bald n) := by
  intro C K ls st s1 r h hC hK
  unfold o_bald at h
  repeat' split at h
  all_goals first
    | exact hK _ _ _ _ h
    | cases h
theorem m_objinit {rt : Option FieldType} (n : Nat) : q_mon rt (o_objinit n) := by
  intro C K ls st s1 r h hC hK
  unfold o_objinit at h
  repeat' split at h
  all_goals first
    | exact hK _ _ _ _ h
    | cases h
theorem m_max {rt : Option FieldType} (n : Nat) : q_mon rt (o_max n) := by
  intro C K ls st s1 r h hC hK
  unfold o_max at h
  repeat' split at h
  all_goals first
    | exact hK _ _ _ _ h
    | cases h
theorem m_min {rt : Option FieldType} (n : Nat) : q_mon rt (o_min n) := by
  intro C K ls st s1 r h hC hK
  unfold o_min at h
  repeat' split at h
  all_goals first
    | exact hK _ _ _ _ h
    | cases h
theorem m_bin {rt : Option FieldType} (f : Int → Int → Int) (n : Nat) : q_mon rt (o_bin f n) := by
  intro C K ls st s1 r h hC hK
  unfold o_bin at h
  repeat' split at h
  all_goals first
    | exact hK _ _ _ _ h
    | cases h
theorem m_div {rt : Option FieldType} (f : Int → Int → Int) (n : Nat) : q_mon rt (o_div f n) := by
  intro C K ls st s1 r h hC hK
  unfold o_div at h
  repeat' split at h
  all_goals first
    | exact hK _ _ _ _ h
    | cases h
theorem m_lbin {rt : Option FieldType} (f : Int → Int → Int) (n : Nat) : q_mon rt (o_lbin f n) := by
  intro C K ls st s1 r h hC hK
  unfold o_lbin at h
  repeat' split at h
  all_goals first
    | exact hK _ _ _ _ h
    | cases h
theorem m_lsh {rt : Option FieldType} (f : Int → Int → Int) (n : Nat) : q_mon rt (o_lsh f n) := by
  intro C K ls st s1 r h hC hK
  unfold o_lsh at h
  repeat' split at h
  all_goals first
    | exact hK _ _ _ _ h
    | cases h
theorem m_un {rt : Option FieldType} (f : Int → Int) (n : Nat) : q_mon rt (o_un f n) := by
  intro C K ls st s1 r h hC hK
  unfold o_un at h
  repeat' split at h
  all_goals first
    | exact hK _ _ _ _ h
    | cases h
theorem m_ifeq {rt : Option FieldType} (t n : Nat) : q_mon rt (o_ifeq t n) := by
  intro C K ls st s1 r h hC hK
  unfold o_ifeq at h
  repeat' split at h
  all_goals first
    | exact hK _ _ _ _ h
    | cases h
theorem m_ifne {rt : Option FieldType} (t n : Nat) : q_mon rt (o_ifne t n) := by
  intro C K ls st s1 r h hC hK
  unfold o_ifne at h
  repeat' split at h
  all_goals first
    | exact hK _ _ _ _ h
    | cases h
theorem m_iflt {rt : Option FieldType} (t n : Nat) : q_mon rt (o_iflt t n) := by
  intro C K ls st s1 r h hC hK
  unfold o_iflt at h
  repeat' split at h
  all_goals first
    | exact hK _ _ _ _ h
    | cases h
theorem m_ifge {rt : Option FieldType} (t n : Nat) : q_mon rt (o_ifge t n) := by
  intro C K ls st s1 r h hC hK
  unfold o_ifge at h
  repeat' split at h
  all_goals first
    | exact hK _ _ _ _ h
    | cases h
theorem m_ifgt {rt : Option FieldType} (t n : Nat) : q_mon rt (o_ifgt t n) := by
  intro C K ls st s1 r h hC hK
  unfold o_ifgt at h
  repeat' split at h
  all_goals first
    | exact hK _ _ _ _ h
    | cases h
theorem m_ifle {rt : Option FieldType} (t n : Nat) : q_mon rt (o_ifle t n) := by
  intro C K ls st s1 r h hC hK
  unfold o_ifle at h
  repeat' split at h
  all_goals first
    | exact hK _ _ _ _ h
    | cases h
theorem m_icmpeq {rt : Option FieldType} (t n : Nat) : q_mon rt (o_icmpeq t n) := by
  intro C K ls st s1 r h hC hK
  unfold o_icmpeq at h
  repeat' split at h
  all_goals first
    | exact hK _ _ _ _ h
    | cases h
theorem m_icmpne {rt : Option FieldType} (t n : Nat) : q_mon rt (o_icmpne t n) := by
  intro C K ls st s1 r h hC hK
  unfold o_icmpne at h
  repeat' split at h
  all_goals first
    | exact hK _ _ _ _ h
    | cases h
theorem m_icmplt {rt : Option FieldType} (t n : Nat) : q_mon rt (o_icmplt t n) := by
  intro C K ls st s1 r h hC hK
  unfold o_icmplt at h
  repeat' split at h
  all_goals first
    | exact hK _ _ _ _ h
    | cases h
theorem m_icmpge {rt : Option FieldType} (t n : Nat) : q_mon rt (o_icmpge t n) := by
  intro C K ls st s1 r h hC hK
  unfold o_icmpge at h
  repeat' split at h
  all_goals first
    | exact hK _ _ _ _ h
    | cases h
theorem m_icmpgt {rt : Option FieldType} (t n : Nat) : q_mon rt (o_icmpgt t n) := by
  intro C K ls st s1 r h hC hK
  unfold o_icmpgt at h
  repeat' split at h
  all_goals first
    | exact hK _ _ _ _ h
    | cases h
theorem m_icmple {rt : Option FieldType} (t n : Nat) : q_mon rt (o_icmple t n) := by
  intro C K ls st s1 r h hC hK
  unfold o_icmple at h
  repeat' split at h
  all_goals first
    | exact hK _ _ _ _ h
    | cases h
theorem m_goto {rt : Option FieldType} (t : Nat) : q_mon rt (o_goto t) := by
  intro C K ls st s1 r h hC hK
  unfold o_goto at h
  repeat' split at h
  all_goals first
    | exact hK _ _ _ _ h
    | cases h
theorem m_getI {rt : Option FieldType} (t : Nat) (j : Int) (n : Nat) : q_mon rt (o_getI t j n) := by
  intro C K ls st s1 r h hC hK
  unfold o_getI at h
  repeat' split at h
  all_goals first
    | exact hK _ _ _ _ h
    | cases h
theorem m_getL {rt : Option FieldType} (t : Nat) (j : Int) (n : Nat) : q_mon rt (o_getL t j n) := by
  intro C K ls st s1 r h hC hK
  unfold o_getL at h
  repeat' split at h
  all_goals first
    | exact hK _ _ _ _ h
    | cases h
theorem m_getR {rt : Option FieldType} (t : Nat) (j : Int) (u n : Nat) : q_mon rt (o_getR t j u n) := by
  intro C K ls st s1 r h hC hK
  unfold o_getR at h
  repeat' split at h
  all_goals first
    | exact hK _ _ _ _ h
    | cases h
theorem m_aald {rt : Option FieldType} (t u n : Nat) : q_mon rt (o_aald t u n) := by
  intro C K ls st s1 r h hC hK
  unfold o_aald at h
  repeat' split at h
  all_goals first
    | exact hK _ _ _ _ h
    | cases h
theorem m_iast {rt : Option FieldType} (n : Nat) : q_mon rt (o_iast n) := by
  intro C K ls st s1 r h hC hK
  unfold o_iast at h
  repeat' split at h
  all_goals first
    | exact ⟨q_ext_tr (q_ext_up _ _) (hK _ _ _ _ h).1, (hK _ _ _ _ h).2⟩
    | cases h
theorem m_bast {rt : Option FieldType} (n : Nat) : q_mon rt (o_bast n) := by
  intro C K ls st s1 r h hC hK
  unfold o_bast at h
  repeat' split at h
  all_goals first
    | exact ⟨q_ext_tr (q_ext_up _ _) (hK _ _ _ _ h).1, (hK _ _ _ _ h).2⟩
    | cases h
theorem m_copy {rt : Option FieldType} (n : Nat) : q_mon rt (o_copy n) := by
  intro C K ls st s1 r h hC hK
  unfold o_copy at h
  repeat' split at h
  all_goals first
    | exact ⟨q_ext_tr (q_ext_up _ _) (hK _ _ _ _ h).1, (hK _ _ _ _ h).2⟩
    | cases h
theorem m_putI {rt : Option FieldType} (t : Nat) (j : Int) (n : Nat) : q_mon rt (o_putI t j n) := by
  intro C K ls st s1 r h hC hK
  unfold o_putI at h
  repeat' split at h
  all_goals first
    | exact ⟨q_ext_tr (q_ext_up _ _) (hK _ _ _ _ h).1, (hK _ _ _ _ h).2⟩
    | cases h
theorem m_putZ {rt : Option FieldType} (t : Nat) (j : Int) (n : Nat) : q_mon rt (o_putZ t j n) := by
  intro C K ls st s1 r h hC hK
  unfold o_putZ at h
  repeat' split at h
  all_goals first
    | exact ⟨q_ext_tr (q_ext_up _ _) (hK _ _ _ _ h).1, (hK _ _ _ _ h).2⟩
    | cases h
theorem m_putL {rt : Option FieldType} (t : Nat) (j : Int) (n : Nat) : q_mon rt (o_putL t j n) := by
  intro C K ls st s1 r h hC hK
  unfold o_putL at h
  repeat' split at h
  all_goals first
    | exact ⟨q_ext_tr (q_ext_up _ _) (hK _ _ _ _ h).1, (hK _ _ _ _ h).2⟩
    | cases h
theorem m_putR {rt : Option FieldType} (t : Nat) (j : Int) (u n : Nat) : q_mon rt (o_putR t j u n) := by
  intro C K ls st s1 r h hC hK
  unfold o_putR at h
  repeat' split at h
  all_goals first
    | exact ⟨q_ext_tr (q_ext_up _ _) (hK _ _ _ _ h).1, (hK _ _ _ _ h).2⟩
    | cases h
theorem m_aast {rt : Option FieldType} (t u n : Nat) : q_mon rt (o_aast t u n) := by
  intro C K ls st s1 r h hC hK
  unfold o_aast at h
  repeat' split at h
  all_goals first
    | exact ⟨q_ext_tr (q_ext_up _ _) (hK _ _ _ _ h).1, (hK _ _ _ _ h).2⟩
    | cases h
theorem m_new {rt : Option FieldType} (t : Nat) (len : Int) (z : Int → Int) (n : Nat) : q_mon rt (o_new t len z n) := by
  intro C K ls st s1 r h hC hK
  unfold o_new at h
  repeat' split at h
  all_goals first
    | exact ⟨q_ext_tr (q_ext_mk _ _ _ _) (hK _ _ _ _ h).1, (hK _ _ _ _ h).2⟩
    | cases h
theorem m_newa {rt : Option FieldType} (t n : Nat) : q_mon rt (o_newa t n) := by
  intro C K ls st s1 r h hC hK
  unfold o_newa at h
  repeat' split at h
  all_goals first
    | exact ⟨q_ext_tr (q_ext_mk _ _ _ _) (hK _ _ _ _ h).1, (hK _ _ _ _ h).2⟩
    | cases h
theorem m_newq {rt : Option FieldType} (t n : Nat) : q_mon rt (o_newq t n) := by
  intro C K ls st s1 r h hC hK
  unfold o_newq at h
  repeat' split at h
  all_goals first
    | exact ⟨q_ext_tr (q_ext_mk _ _ _ _) (hK _ _ _ _ h).1, (hK _ _ _ _ h).2⟩
    | cases h
theorem m_new2 {rt : Option FieldType} (n : Nat) : q_mon rt (o_new2 n) := by
  intro C K ls st s1 r h hC hK
  obtain ⟨a, b, st', hst, ⟨ha0, ha1, hb0, hb1⟩, h'⟩ := q_new2_spec h
  exact ⟨q_ext_tr (q_ext_mk2 _ ha0) (hK _ _ _ _ h').1, (hK _ _ _ _ h').2⟩
theorem m_switch {rt : Option FieldType} (cs : List (Int × Nat)) (d : Nat) : q_mon rt (o_switch cs d) := by
  intro C K ls st s1 r h hC hK
  obtain ⟨a, st', hst, h'⟩ := q_switch_spec h
  exact hK _ _ _ _ h'
theorem m_calli {rt : Option FieldType} (t M na n : Nat) : q_mon rt (o_calli t M na n) := by
  intro C K ls st s1 r h hC hK
  obtain ⟨as, st', r1, hst, hlen, hcat, hhd, h1, h2⟩ := q_calli_spec h
  exact ⟨q_ext_tr (hC _ _ _ _ h1) (hK _ _ _ _ h2).1, (hK _ _ _ _ h2).2⟩
theorem m_callv {rt : Option FieldType} (t M na n : Nat) : q_mon rt (o_callv t M na n) := by
  intro C K ls st s1 r h hC hK
  obtain ⟨as, st', r1, hst, hlen, hcat, hhd, h1, h2⟩ := q_callv_spec h
  exact ⟨q_ext_tr (hC _ _ _ _ h1) (hK _ _ _ _ h2).1, (hK _ _ _ _ h2).2⟩
theorem m_iret {rt : Option FieldType} (hrt : rt = some .int) : q_mon rt o_iret := by
  intro C K ls st s1 r h hC hK
  unfold o_iret at h
  split at h
  · cases h; exact ⟨q_ext_rf _, by rw [hrt]; simp⟩
  · cases h
theorem m_zret {rt : Option FieldType} (hrt : rt = some .boolean) : q_mon rt o_zret := by
  intro C K ls st s1 r h hC hK
  unfold o_zret at h
  split at h
  · split at h
    · cases h; exact ⟨q_ext_rf _, by rw [hrt]; simp⟩
    · cases h
  · cases h
theorem m_vret {rt : Option FieldType} (hrt : rt = none) : q_mon rt o_vret := by
  intro C K ls st s1 r h hC hK
  unfold o_vret at h
  split at h
  · cases h; exact ⟨q_ext_rf _, by rw [hrt]; simp⟩
  · cases h
