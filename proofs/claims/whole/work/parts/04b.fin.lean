/-! each instruction ends, goes on once, or calls once -/
theorem f_const (v : Int) (n : Nat) : q_fin (o_const v n) := by
  intro C K ls st s r h
  unfold o_const at h
  repeat' split at h
  all_goals first
    | (exact absurd h (by simp))
    | exact Or.inr (Or.inl ⟨_, _, _, _, h, fun C' K' => by simp [o_const, *]⟩)
    | exact Or.inl (fun C' K' => by simp [o_const, *])
    | (obtain ⟨r1, h1, h2⟩ := Option.bind_eq_some_iff.mp h; exact Or.inr (Or.inr ⟨_, _, _, _, _, fun v => _, r1, h1, h2, fun C' K' => by simp [o_const, *]⟩))
theorem f_lconst (v : Int) (n : Nat) : q_fin (o_lconst v n) := by
  intro C K ls st s r h
  unfold o_lconst at h
  repeat' split at h
  all_goals first
    | (exact absurd h (by simp))
    | exact Or.inr (Or.inl ⟨_, _, _, _, h, fun C' K' => by simp [o_lconst, *]⟩)
    | exact Or.inl (fun C' K' => by simp [o_lconst, *])
    | (obtain ⟨r1, h1, h2⟩ := Option.bind_eq_some_iff.mp h; exact Or.inr (Or.inr ⟨_, _, _, _, _, fun v => _, r1, h1, h2, fun C' K' => by simp [o_lconst, *]⟩))
theorem f_iload (i n : Nat) : q_fin (o_iload i n) := by
  intro C K ls st s r h
  unfold o_iload at h
  repeat' split at h
  all_goals first
    | (exact absurd h (by simp))
    | exact Or.inr (Or.inl ⟨_, _, _, _, h, fun C' K' => by simp [o_iload, *]⟩)
    | exact Or.inl (fun C' K' => by simp [o_iload, *])
    | (obtain ⟨r1, h1, h2⟩ := Option.bind_eq_some_iff.mp h; exact Or.inr (Or.inr ⟨_, _, _, _, _, fun v => _, r1, h1, h2, fun C' K' => by simp [o_iload, *]⟩))
theorem f_lload (i n : Nat) : q_fin (o_lload i n) := by
  intro C K ls st s r h
  unfold o_lload at h
  repeat' split at h
  all_goals first
    | (exact absurd h (by simp))
    | exact Or.inr (Or.inl ⟨_, _, _, _, h, fun C' K' => by simp [o_lload, *]⟩)
    | exact Or.inl (fun C' K' => by simp [o_lload, *])
    | (obtain ⟨r1, h1, h2⟩ := Option.bind_eq_some_iff.mp h; exact Or.inr (Or.inr ⟨_, _, _, _, _, fun v => _, r1, h1, h2, fun C' K' => by simp [o_lload, *]⟩))
theorem f_aload (i n : Nat) : q_fin (o_aload i n) := by
  intro C K ls st s r h
  unfold o_aload at h
  repeat' split at h
  all_goals first
    | (exact absurd h (by simp))
    | exact Or.inr (Or.inl ⟨_, _, _, _, h, fun C' K' => by simp [o_aload, *]⟩)
    | exact Or.inl (fun C' K' => by simp [o_aload, *])
    | (obtain ⟨r1, h1, h2⟩ := Option.bind_eq_some_iff.mp h; exact Or.inr (Or.inr ⟨_, _, _, _, _, fun v => _, r1, h1, h2, fun C' K' => by simp [o_aload, *]⟩))
theorem f_istore (i n : Nat) : q_fin (o_istore i n) := by
  intro C K ls st s r h
  unfold o_istore at h
  repeat' split at h
  all_goals first
    | (exact absurd h (by simp))
    | exact Or.inr (Or.inl ⟨_, _, _, _, h, fun C' K' => by simp [o_istore, *]⟩)
    | exact Or.inl (fun C' K' => by simp [o_istore, *])
    | (obtain ⟨r1, h1, h2⟩ := Option.bind_eq_some_iff.mp h; exact Or.inr (Or.inr ⟨_, _, _, _, _, fun v => _, r1, h1, h2, fun C' K' => by simp [o_istore, *]⟩))
theorem f_lstore (i n : Nat) : q_fin (o_lstore i n) := by
  intro C K ls st s r h
  unfold o_lstore at h
  repeat' split at h
  all_goals first
    | (exact absurd h (by simp))
    | exact Or.inr (Or.inl ⟨_, _, _, _, h, fun C' K' => by simp [o_lstore, *]⟩)
    | exact Or.inl (fun C' K' => by simp [o_lstore, *])
    | (obtain ⟨r1, h1, h2⟩ := Option.bind_eq_some_iff.mp h; exact Or.inr (Or.inr ⟨_, _, _, _, _, fun v => _, r1, h1, h2, fun C' K' => by simp [o_lstore, *]⟩))
theorem f_astore (i n : Nat) : q_fin (o_astore i n) := by
  intro C K ls st s r h
  unfold o_astore at h
  repeat' split at h
  all_goals first
    | (exact absurd h (by simp))
    | exact Or.inr (Or.inl ⟨_, _, _, _, h, fun C' K' => by simp [o_astore, *]⟩)
    | exact Or.inl (fun C' K' => by simp [o_astore, *])
    | (obtain ⟨r1, h1, h2⟩ := Option.bind_eq_some_iff.mp h; exact Or.inr (Or.inr ⟨_, _, _, _, _, fun v => _, r1, h1, h2, fun C' K' => by simp [o_astore, *]⟩))
theorem f_iinc (i : Nat) (k : Int) (n : Nat) : q_fin (o_iinc i k n) := by
  intro C K ls st s r h
  unfold o_iinc at h
  repeat' split at h
  all_goals first
    | (exact absurd h (by simp))
    | exact Or.inr (Or.inl ⟨_, _, _, _, h, fun C' K' => by simp [o_iinc, *]⟩)
    | exact Or.inl (fun C' K' => by simp [o_iinc, *])
    | (obtain ⟨r1, h1, h2⟩ := Option.bind_eq_some_iff.mp h; exact Or.inr (Or.inr ⟨_, _, _, _, _, fun v => _, r1, h1, h2, fun C' K' => by simp [o_iinc, *]⟩))
theorem f_dup (n : Nat) : q_fin (o_dup n) := by
  intro C K ls st s r h
  unfold o_dup at h
  repeat' split at h
  all_goals first
    | (exact absurd h (by simp))
    | exact Or.inr (Or.inl ⟨_, _, _, _, h, fun C' K' => by simp [o_dup, *]⟩)
    | exact Or.inl (fun C' K' => by simp [o_dup, *])
    | (obtain ⟨r1, h1, h2⟩ := Option.bind_eq_some_iff.mp h; exact Or.inr (Or.inr ⟨_, _, _, _, _, fun v => _, r1, h1, h2, fun C' K' => by simp [o_dup, *]⟩))
theorem f_pop (n : Nat) : q_fin (o_pop n) := by
  intro C K ls st s r h
  unfold o_pop at h
  repeat' split at h
  all_goals first
    | (exact absurd h (by simp))
    | exact Or.inr (Or.inl ⟨_, _, _, _, h, fun C' K' => by simp [o_pop, *]⟩)
    | exact Or.inl (fun C' K' => by simp [o_pop, *])
    | (obtain ⟨r1, h1, h2⟩ := Option.bind_eq_some_iff.mp h; exact Or.inr (Or.inr ⟨_, _, _, _, _, fun v => _, r1, h1, h2, fun C' K' => by simp [o_pop, *]⟩))
theorem f_dup2 (n : Nat) : q_fin (o_dup2 n) := by
  intro C K ls st s r h
  unfold o_dup2 at h
  repeat' split at h
  all_goals first
    | (exact absurd h (by simp))
    | exact Or.inr (Or.inl ⟨_, _, _, _, h, fun C' K' => by simp [o_dup2, *]⟩)
    | exact Or.inl (fun C' K' => by simp [o_dup2, *])
    | (obtain ⟨r1, h1, h2⟩ := Option.bind_eq_some_iff.mp h; exact Or.inr (Or.inr ⟨_, _, _, _, _, fun v => _, r1, h1, h2, fun C' K' => by simp [o_dup2, *]⟩))
theorem f_lcmp (n : Nat) : q_fin (o_lcmp n) := by
  intro C K ls st s r h
  unfold o_lcmp at h
  repeat' split at h
  all_goals first
    | (exact absurd h (by simp))
    | exact Or.inr (Or.inl ⟨_, _, _, _, h, fun C' K' => by simp [o_lcmp, *]⟩)
    | exact Or.inl (fun C' K' => by simp [o_lcmp, *])
    | (obtain ⟨r1, h1, h2⟩ := Option.bind_eq_some_iff.mp h; exact Or.inr (Or.inr ⟨_, _, _, _, _, fun v => _, r1, h1, h2, fun C' K' => by simp [o_lcmp, *]⟩))
theorem f_under (n : Nat) : q_fin (o_under n) := by
  intro C K ls st s r h
  unfold o_under at h
  repeat' split at h
  all_goals first
    | (exact absurd h (by simp))
    | exact Or.inr (Or.inl ⟨_, _, _, _, h, fun C' K' => by simp [o_under, *]⟩)
    | exact Or.inl (fun C' K' => by simp [o_under, *])
    | (obtain ⟨r1, h1, h2⟩ := Option.bind_eq_some_iff.mp h; exact Or.inr (Or.inr ⟨_, _, _, _, _, fun v => _, r1, h1, h2, fun C' K' => by simp [o_under, *]⟩))
theorem f_text (n : Nat) : q_fin (o_text n) := by
  intro C K ls st s r h
  unfold o_text at h
  repeat' split at h
  all_goals first
    | (exact absurd h (by simp))
    | exact Or.inr (Or.inl ⟨_, _, _, _, h, fun C' K' => by simp [o_text, *]⟩)
    | exact Or.inl (fun C' K' => by simp [o_text, *])
    | (obtain ⟨r1, h1, h2⟩ := Option.bind_eq_some_iff.mp h; exact Or.inr (Or.inr ⟨_, _, _, _, _, fun v => _, r1, h1, h2, fun C' K' => by simp [o_text, *]⟩))
theorem f_strlen (n : Nat) : q_fin (o_strlen n) := by
  intro C K ls st s r h
  unfold o_strlen at h
  repeat' split at h
  all_goals first
    | (exact absurd h (by simp))
    | exact Or.inr (Or.inl ⟨_, _, _, _, h, fun C' K' => by simp [o_strlen, *]⟩)
    | exact Or.inl (fun C' K' => by simp [o_strlen, *])
    | (obtain ⟨r1, h1, h2⟩ := Option.bind_eq_some_iff.mp h; exact Or.inr (Or.inr ⟨_, _, _, _, _, fun v => _, r1, h1, h2, fun C' K' => by simp [o_strlen, *]⟩))
theorem f_charAt (n : Nat) : q_fin (o_charAt n) := by
  intro C K ls st s r h
  unfold o_charAt at h
  repeat' split at h
  all_goals first
    | (exact absurd h (by simp))
    | exact Or.inr (Or.inl ⟨_, _, _, _, h, fun C' K' => by simp [o_charAt, *]⟩)
    | exact Or.inl (fun C' K' => by simp [o_charAt, *])
    | (obtain ⟨r1, h1, h2⟩ := Option.bind_eq_some_iff.mp h; exact Or.inr (Or.inr ⟨_, _, _, _, _, fun v => _, r1, h1, h2, fun C' K' => by simp [o_charAt, *]⟩))
theorem f_alen (n : Nat) : q_fin (o_alen n) := by
  intro C K ls st s r h
  unfold o_alen at h
  repeat' split at h
  all_goals first
    | (exact absurd h (by simp))
    | exact Or.inr (Or.inl ⟨_, _, _, _, h, fun C' K' => by simp [o_alen, *]⟩)
    | exact Or.inl (fun C' K' => by simp [o_alen, *])
    | (obtain ⟨r1, h1, h2⟩ := Option.bind_eq_some_iff.mp h; exact Or.inr (Or.inr ⟨_, _, _, _, _, fun v => _, r1, h1, h2, fun C' K' => by simp [o_alen, *]⟩))
theorem f_iald (n : Nat) : q_fin (o_iald n) := by
  intro C K ls st s r h
  unfold o_iald at h
  repeat' split at h
  all_goals first
    | (exact absurd h (by simp))
    | exact Or.inr (Or.inl ⟨_, _, _, _, h, fun C' K' => by simp [o_iald, *]⟩)
    | exact Or.inl (fun C' K' => by simp [o_iald, *])
    | (obtain ⟨r1, h1, h2⟩ := Option.bind_eq_some_iff.mp h; exact Or.inr (Or.inr ⟨_, _, _, _, _, fun v => _, r1, h1, h2, fun C' K' => by simp [o_iald, *]⟩))
theorem f_bald (n : Nat) : q_fin (o_bald n) := by
  intro C K ls st s r h
  unfold o_bald at h
  repeat' split at h
  all_goals first
    | (exact absurd h (by simp))
    | exact Or.inr (Or.inl ⟨_, _, _, _, h, fun C' K' => by simp [o_bald, *]⟩)
    | exact Or.inl (fun C' K' => by simp [o_bald, *])
    | (obtain ⟨r1, h1, h2⟩ := Option.bind_eq_some_iff.mp h; exact Or.inr (Or.inr ⟨_, _, _, _, _, fun v => _, r1, h1, h2, fun C' K' => by simp [o_bald, *]⟩))
theorem f_iast (n : Nat) : q_fin (o_iast n) := by
  intro C K ls st s r h
  unfold o_iast at h
  repeat' split at h
  all_goals first
    | (exact absurd h (by simp))
    | exact Or.inr (Or.inl ⟨_, _, _, _, h, fun C' K' => by simp [o_iast, *]⟩)
    | exact Or.inl (fun C' K' => by simp [o_iast, *])
    | (obtain ⟨r1, h1, h2⟩ := Option.bind_eq_some_iff.mp h; exact Or.inr (Or.inr ⟨_, _, _, _, _, fun v => _, r1, h1, h2, fun C' K' => by simp [o_iast, *]⟩))
theorem f_bast (n : Nat) : q_fin (o_bast n) := by
  intro C K ls st s r h
  unfold o_bast at h
  repeat' split at h
  all_goals first
    | (exact absurd h (by simp))
    | exact Or.inr (Or.inl ⟨_, _, _, _, h, fun C' K' => by simp [o_bast, *]⟩)
    | exact Or.inl (fun C' K' => by simp [o_bast, *])
    | (obtain ⟨r1, h1, h2⟩ := Option.bind_eq_some_iff.mp h; exact Or.inr (Or.inr ⟨_, _, _, _, _, fun v => _, r1, h1, h2, fun C' K' => by simp [o_bast, *]⟩))
theorem f_copy (n : Nat) : q_fin (o_copy n) := by
  intro C K ls st s r h
  unfold o_copy at h
  repeat' split at h
  all_goals first
    | (exact absurd h (by simp))
    | exact Or.inr (Or.inl ⟨_, _, _, _, h, fun C' K' => by simp [o_copy, *]⟩)
    | exact Or.inl (fun C' K' => by simp [o_copy, *])
    | (obtain ⟨r1, h1, h2⟩ := Option.bind_eq_some_iff.mp h; exact Or.inr (Or.inr ⟨_, _, _, _, _, fun v => _, r1, h1, h2, fun C' K' => by simp [o_copy, *]⟩))
theorem f_new2 (n : Nat) : q_fin (o_new2 n) := by
  intro C K ls st s r h
  unfold o_new2 at h
  repeat' split at h
  all_goals first
    | (exact absurd h (by simp))
    | exact Or.inr (Or.inl ⟨_, _, _, _, h, fun C' K' => by simp [o_new2, *]⟩)
    | exact Or.inl (fun C' K' => by simp [o_new2, *])
    | (obtain ⟨r1, h1, h2⟩ := Option.bind_eq_some_iff.mp h; exact Or.inr (Or.inr ⟨_, _, _, _, _, fun v => _, r1, h1, h2, fun C' K' => by simp [o_new2, *]⟩))
theorem f_objinit (n : Nat) : q_fin (o_objinit n) := by
  intro C K ls st s r h
  unfold o_objinit at h
  repeat' split at h
  all_goals first
    | (exact absurd h (by simp))
    | exact Or.inr (Or.inl ⟨_, _, _, _, h, fun C' K' => by simp [o_objinit, *]⟩)
    | exact Or.inl (fun C' K' => by simp [o_objinit, *])
    | (obtain ⟨r1, h1, h2⟩ := Option.bind_eq_some_iff.mp h; exact Or.inr (Or.inr ⟨_, _, _, _, _, fun v => _, r1, h1, h2, fun C' K' => by simp [o_objinit, *]⟩))
theorem f_max (n : Nat) : q_fin (o_max n) := by
  intro C K ls st s r h
  unfold o_max at h
  repeat' split at h
  all_goals first
    | (exact absurd h (by simp))
    | exact Or.inr (Or.inl ⟨_, _, _, _, h, fun C' K' => by simp [o_max, *]⟩)
    | exact Or.inl (fun C' K' => by simp [o_max, *])
    | (obtain ⟨r1, h1, h2⟩ := Option.bind_eq_some_iff.mp h; exact Or.inr (Or.inr ⟨_, _, _, _, _, fun v => _, r1, h1, h2, fun C' K' => by simp [o_max, *]⟩))
theorem f_min (n : Nat) : q_fin (o_min n) := by
  intro C K ls st s r h
  unfold o_min at h
  repeat' split at h
  all_goals first
    | (exact absurd h (by simp))
    | exact Or.inr (Or.inl ⟨_, _, _, _, h, fun C' K' => by simp [o_min, *]⟩)
    | exact Or.inl (fun C' K' => by simp [o_min, *])
    | (obtain ⟨r1, h1, h2⟩ := Option.bind_eq_some_iff.mp h; exact Or.inr (Or.inr ⟨_, _, _, _, _, fun v => _, r1, h1, h2, fun C' K' => by simp [o_min, *]⟩))
theorem f_bin (f : Int → Int → Int) (n : Nat) : q_fin (o_bin f n) := by
  intro C K ls st s r h
  unfold o_bin at h
  repeat' split at h
  all_goals first
    | (exact absurd h (by simp))
    | exact Or.inr (Or.inl ⟨_, _, _, _, h, fun C' K' => by simp [o_bin, *]⟩)
    | exact Or.inl (fun C' K' => by simp [o_bin, *])
    | (obtain ⟨r1, h1, h2⟩ := Option.bind_eq_some_iff.mp h; exact Or.inr (Or.inr ⟨_, _, _, _, _, fun v => _, r1, h1, h2, fun C' K' => by simp [o_bin, *]⟩))
theorem f_div (f : Int → Int → Int) (n : Nat) : q_fin (o_div f n) := by
  intro C K ls st s r h
  unfold o_div at h
  repeat' split at h
  all_goals first
    | (exact absurd h (by simp))
    | exact Or.inr (Or.inl ⟨_, _, _, _, h, fun C' K' => by simp [o_div, *]⟩)
    | exact Or.inl (fun C' K' => by simp [o_div, *])
    | (obtain ⟨r1, h1, h2⟩ := Option.bind_eq_some_iff.mp h; exact Or.inr (Or.inr ⟨_, _, _, _, _, fun v => _, r1, h1, h2, fun C' K' => by simp [o_div, *]⟩))
theorem f_lbin (f : Int → Int → Int) (n : Nat) : q_fin (o_lbin f n) := by
  intro C K ls st s r h
  unfold o_lbin at h
  repeat' split at h
  all_goals first
    | (exact absurd h (by simp))
    | exact Or.inr (Or.inl ⟨_, _, _, _, h, fun C' K' => by simp [o_lbin, *]⟩)
    | exact Or.inl (fun C' K' => by simp [o_lbin, *])
    | (obtain ⟨r1, h1, h2⟩ := Option.bind_eq_some_iff.mp h; exact Or.inr (Or.inr ⟨_, _, _, _, _, fun v => _, r1, h1, h2, fun C' K' => by simp [o_lbin, *]⟩))
theorem f_lsh (f : Int → Int → Int) (n : Nat) : q_fin (o_lsh f n) := by
  intro C K ls st s r h
  unfold o_lsh at h
  repeat' split at h
  all_goals first
    | (exact absurd h (by simp))
    | exact Or.inr (Or.inl ⟨_, _, _, _, h, fun C' K' => by simp [o_lsh, *]⟩)
    | exact Or.inl (fun C' K' => by simp [o_lsh, *])
    | (obtain ⟨r1, h1, h2⟩ := Option.bind_eq_some_iff.mp h; exact Or.inr (Or.inr ⟨_, _, _, _, _, fun v => _, r1, h1, h2, fun C' K' => by simp [o_lsh, *]⟩))
theorem f_un (f : Int → Int) (n : Nat) : q_fin (o_un f n) := by
  intro C K ls st s r h
  unfold o_un at h
  repeat' split at h
  all_goals first
    | (exact absurd h (by simp))
    | exact Or.inr (Or.inl ⟨_, _, _, _, h, fun C' K' => by simp [o_un, *]⟩)
    | exact Or.inl (fun C' K' => by simp [o_un, *])
    | (obtain ⟨r1, h1, h2⟩ := Option.bind_eq_some_iff.mp h; exact Or.inr (Or.inr ⟨_, _, _, _, _, fun v => _, r1, h1, h2, fun C' K' => by simp [o_un, *]⟩))
theorem f_ifeq (t n : Nat) : q_fin (o_ifeq t n) := by
  intro C K ls st s r h
  unfold o_ifeq at h
  repeat' split at h
  all_goals first
    | (exact absurd h (by simp))
    | exact Or.inr (Or.inl ⟨_, _, _, _, h, fun C' K' => by simp [o_ifeq, *]⟩)
    | exact Or.inl (fun C' K' => by simp [o_ifeq, *])
    | (obtain ⟨r1, h1, h2⟩ := Option.bind_eq_some_iff.mp h; exact Or.inr (Or.inr ⟨_, _, _, _, _, fun v => _, r1, h1, h2, fun C' K' => by simp [o_ifeq, *]⟩))
theorem f_ifne (t n : Nat) : q_fin (o_ifne t n) := by
  intro C K ls st s r h
  unfold o_ifne at h
  repeat' split at h
  all_goals first
    | (exact absurd h (by simp))
    | exact Or.inr (Or.inl ⟨_, _, _, _, h, fun C' K' => by simp [o_ifne, *]⟩)
    | exact Or.inl (fun C' K' => by simp [o_ifne, *])
    | (obtain ⟨r1, h1, h2⟩ := Option.bind_eq_some_iff.mp h; exact Or.inr (Or.inr ⟨_, _, _, _, _, fun v => _, r1, h1, h2, fun C' K' => by simp [o_ifne, *]⟩))
theorem f_iflt (t n : Nat) : q_fin (o_iflt t n) := by
  intro C K ls st s r h
  unfold o_iflt at h
  repeat' split at h
  all_goals first
    | (exact absurd h (by simp))
    | exact Or.inr (Or.inl ⟨_, _, _, _, h, fun C' K' => by simp [o_iflt, *]⟩)
    | exact Or.inl (fun C' K' => by simp [o_iflt, *])
    | (obtain ⟨r1, h1, h2⟩ := Option.bind_eq_some_iff.mp h; exact Or.inr (Or.inr ⟨_, _, _, _, _, fun v => _, r1, h1, h2, fun C' K' => by simp [o_iflt, *]⟩))
theorem f_ifge (t n : Nat) : q_fin (o_ifge t n) := by
  intro C K ls st s r h
  unfold o_ifge at h
  repeat' split at h
  all_goals first
    | (exact absurd h (by simp))
    | exact Or.inr (Or.inl ⟨_, _, _, _, h, fun C' K' => by simp [o_ifge, *]⟩)
    | exact Or.inl (fun C' K' => by simp [o_ifge, *])
    | (obtain ⟨r1, h1, h2⟩ := Option.bind_eq_some_iff.mp h; exact Or.inr (Or.inr ⟨_, _, _, _, _, fun v => _, r1, h1, h2, fun C' K' => by simp [o_ifge, *]⟩))
theorem f_ifgt (t n : Nat) : q_fin (o_ifgt t n) := by
  intro C K ls st s r h
  unfold o_ifgt at h
  repeat' split at h
  all_goals first
    | (exact absurd h (by simp))
    | exact Or.inr (Or.inl ⟨_, _, _, _, h, fun C' K' => by simp [o_ifgt, *]⟩)
    | exact Or.inl (fun C' K' => by simp [o_ifgt, *])
    | (obtain ⟨r1, h1, h2⟩ := Option.bind_eq_some_iff.mp h; exact Or.inr (Or.inr ⟨_, _, _, _, _, fun v => _, r1, h1, h2, fun C' K' => by simp [o_ifgt, *]⟩))
theorem f_ifle (t n : Nat) : q_fin (o_ifle t n) := by
  intro C K ls st s r h
  unfold o_ifle at h
  repeat' split at h
  all_goals first
    | (exact absurd h (by simp))
    | exact Or.inr (Or.inl ⟨_, _, _, _, h, fun C' K' => by simp [o_ifle, *]⟩)
    | exact Or.inl (fun C' K' => by simp [o_ifle, *])
    | (obtain ⟨r1, h1, h2⟩ := Option.bind_eq_some_iff.mp h; exact Or.inr (Or.inr ⟨_, _, _, _, _, fun v => _, r1, h1, h2, fun C' K' => by simp [o_ifle, *]⟩))
theorem f_icmpeq (t n : Nat) : q_fin (o_icmpeq t n) := by
  intro C K ls st s r h
  unfold o_icmpeq at h
  repeat' split at h
  all_goals first
    | (exact absurd h (by simp))
    | exact Or.inr (Or.inl ⟨_, _, _, _, h, fun C' K' => by simp [o_icmpeq, *]⟩)
    | exact Or.inl (fun C' K' => by simp [o_icmpeq, *])
    | (obtain ⟨r1, h1, h2⟩ := Option.bind_eq_some_iff.mp h; exact Or.inr (Or.inr ⟨_, _, _, _, _, fun v => _, r1, h1, h2, fun C' K' => by simp [o_icmpeq, *]⟩))
theorem f_icmpne (t n : Nat) : q_fin (o_icmpne t n) := by
  intro C K ls st s r h
  unfold o_icmpne at h
  repeat' split at h
  all_goals first
    | (exact absurd h (by simp))
    | exact Or.inr (Or.inl ⟨_, _, _, _, h, fun C' K' => by simp [o_icmpne, *]⟩)
    | exact Or.inl (fun C' K' => by simp [o_icmpne, *])
    | (obtain ⟨r1, h1, h2⟩ := Option.bind_eq_some_iff.mp h; exact Or.inr (Or.inr ⟨_, _, _, _, _, fun v => _, r1, h1, h2, fun C' K' => by simp [o_icmpne, *]⟩))
theorem f_icmplt (t n : Nat) : q_fin (o_icmplt t n) := by
  intro C K ls st s r h
  unfold o_icmplt at h
  repeat' split at h
  all_goals first
    | (exact absurd h (by simp))
    | exact Or.inr (Or.inl ⟨_, _, _, _, h, fun C' K' => by simp [o_icmplt, *]⟩)
    | exact Or.inl (fun C' K' => by simp [o_icmplt, *])
    | (obtain ⟨r1, h1, h2⟩ := Option.bind_eq_some_iff.mp h; exact Or.inr (Or.inr ⟨_, _, _, _, _, fun v => _, r1, h1, h2, fun C' K' => by simp [o_icmplt, *]⟩))
theorem f_icmpge (t n : Nat) : q_fin (o_icmpge t n) := by
  intro C K ls st s r h
  unfold o_icmpge at h
  repeat' split at h
  all_goals first
    | (exact absurd h (by simp))
    | exact Or.inr (Or.inl ⟨_, _, _, _, h, fun C' K' => by simp [o_icmpge, *]⟩)
    | exact Or.inl (fun C' K' => by simp [o_icmpge, *])
    | (obtain ⟨r1, h1, h2⟩ := Option.bind_eq_some_iff.mp h; exact Or.inr (Or.inr ⟨_, _, _, _, _, fun v => _, r1, h1, h2, fun C' K' => by simp [o_icmpge, *]⟩))
theorem f_icmpgt (t n : Nat) : q_fin (o_icmpgt t n) := by
  intro C K ls st s r h
  unfold o_icmpgt at h
  repeat' split at h
  all_goals first
    | (exact absurd h (by simp))
    | exact Or.inr (Or.inl ⟨_, _, _, _, h, fun C' K' => by simp [o_icmpgt, *]⟩)
    | exact Or.inl (fun C' K' => by simp [o_icmpgt, *])
    | (obtain ⟨r1, h1, h2⟩ := Option.bind_eq_some_iff.mp h; exact Or.inr (Or.inr ⟨_, _, _, _, _, fun v => _, r1, h1, h2, fun C' K' => by simp [o_icmpgt, *]⟩))
theorem f_icmple (t n : Nat) : q_fin (o_icmple t n) := by
  intro C K ls st s r h
  unfold o_icmple at h
  repeat' split at h
  all_goals first
    | (exact absurd h (by simp))
    | exact Or.inr (Or.inl ⟨_, _, _, _, h, fun C' K' => by simp [o_icmple, *]⟩)
    | exact Or.inl (fun C' K' => by simp [o_icmple, *])
    | (obtain ⟨r1, h1, h2⟩ := Option.bind_eq_some_iff.mp h; exact Or.inr (Or.inr ⟨_, _, _, _, _, fun v => _, r1, h1, h2, fun C' K' => by simp [o_icmple, *]⟩))
theorem f_newa (t n : Nat) : q_fin (o_newa t n) := by
  intro C K ls st s r h
  unfold o_newa at h
  repeat' split at h
  all_goals first
    | (exact absurd h (by simp))
    | exact Or.inr (Or.inl ⟨_, _, _, _, h, fun C' K' => by simp [o_newa, *]⟩)
    | exact Or.inl (fun C' K' => by simp [o_newa, *])
    | (obtain ⟨r1, h1, h2⟩ := Option.bind_eq_some_iff.mp h; exact Or.inr (Or.inr ⟨_, _, _, _, _, fun v => _, r1, h1, h2, fun C' K' => by simp [o_newa, *]⟩))
theorem f_newq (t n : Nat) : q_fin (o_newq t n) := by
  intro C K ls st s r h
  unfold o_newq at h
  repeat' split at h
  all_goals first
    | (exact absurd h (by simp))
    | exact Or.inr (Or.inl ⟨_, _, _, _, h, fun C' K' => by simp [o_newq, *]⟩)
    | exact Or.inl (fun C' K' => by simp [o_newq, *])
    | (obtain ⟨r1, h1, h2⟩ := Option.bind_eq_some_iff.mp h; exact Or.inr (Or.inr ⟨_, _, _, _, _, fun v => _, r1, h1, h2, fun C' K' => by simp [o_newq, *]⟩))
theorem f_goto (t : Nat) : q_fin (o_goto t) := by
  intro C K ls st s r h
  unfold o_goto at h
  repeat' split at h
  all_goals first
    | (exact absurd h (by simp))
    | exact Or.inr (Or.inl ⟨_, _, _, _, h, fun C' K' => by simp [o_goto, *]⟩)
    | exact Or.inl (fun C' K' => by simp [o_goto, *])
    | (obtain ⟨r1, h1, h2⟩ := Option.bind_eq_some_iff.mp h; exact Or.inr (Or.inr ⟨_, _, _, _, _, fun v => _, r1, h1, h2, fun C' K' => by simp [o_goto, *]⟩))
theorem f_getI (t : Nat) (j : Int) (n : Nat) : q_fin (o_getI t j n) := by
  intro C K ls st s r h
  unfold o_getI at h
  repeat' split at h
  all_goals first
    | (exact absurd h (by simp))
    | exact Or.inr (Or.inl ⟨_, _, _, _, h, fun C' K' => by simp [o_getI, *]⟩)
    | exact Or.inl (fun C' K' => by simp [o_getI, *])
    | (obtain ⟨r1, h1, h2⟩ := Option.bind_eq_some_iff.mp h; exact Or.inr (Or.inr ⟨_, _, _, _, _, fun v => _, r1, h1, h2, fun C' K' => by simp [o_getI, *]⟩))
theorem f_getL (t : Nat) (j : Int) (n : Nat) : q_fin (o_getL t j n) := by
  intro C K ls st s r h
  unfold o_getL at h
  repeat' split at h
  all_goals first
    | (exact absurd h (by simp))
    | exact Or.inr (Or.inl ⟨_, _, _, _, h, fun C' K' => by simp [o_getL, *]⟩)
    | exact Or.inl (fun C' K' => by simp [o_getL, *])
    | (obtain ⟨r1, h1, h2⟩ := Option.bind_eq_some_iff.mp h; exact Or.inr (Or.inr ⟨_, _, _, _, _, fun v => _, r1, h1, h2, fun C' K' => by simp [o_getL, *]⟩))
theorem f_putI (t : Nat) (j : Int) (n : Nat) : q_fin (o_putI t j n) := by
  intro C K ls st s r h
  unfold o_putI at h
  repeat' split at h
  all_goals first
    | (exact absurd h (by simp))
    | exact Or.inr (Or.inl ⟨_, _, _, _, h, fun C' K' => by simp [o_putI, *]⟩)
    | exact Or.inl (fun C' K' => by simp [o_putI, *])
    | (obtain ⟨r1, h1, h2⟩ := Option.bind_eq_some_iff.mp h; exact Or.inr (Or.inr ⟨_, _, _, _, _, fun v => _, r1, h1, h2, fun C' K' => by simp [o_putI, *]⟩))
theorem f_putZ (t : Nat) (j : Int) (n : Nat) : q_fin (o_putZ t j n) := by
  intro C K ls st s r h
  unfold o_putZ at h
  repeat' split at h
  all_goals first
    | (exact absurd h (by simp))
    | exact Or.inr (Or.inl ⟨_, _, _, _, h, fun C' K' => by simp [o_putZ, *]⟩)
    | exact Or.inl (fun C' K' => by simp [o_putZ, *])
    | (obtain ⟨r1, h1, h2⟩ := Option.bind_eq_some_iff.mp h; exact Or.inr (Or.inr ⟨_, _, _, _, _, fun v => _, r1, h1, h2, fun C' K' => by simp [o_putZ, *]⟩))
theorem f_putL (t : Nat) (j : Int) (n : Nat) : q_fin (o_putL t j n) := by
  intro C K ls st s r h
  unfold o_putL at h
  repeat' split at h
  all_goals first
    | (exact absurd h (by simp))
    | exact Or.inr (Or.inl ⟨_, _, _, _, h, fun C' K' => by simp [o_putL, *]⟩)
    | exact Or.inl (fun C' K' => by simp [o_putL, *])
    | (obtain ⟨r1, h1, h2⟩ := Option.bind_eq_some_iff.mp h; exact Or.inr (Or.inr ⟨_, _, _, _, _, fun v => _, r1, h1, h2, fun C' K' => by simp [o_putL, *]⟩))
theorem f_getR (t : Nat) (j : Int) (u n : Nat) : q_fin (o_getR t j u n) := by
  intro C K ls st s r h
  unfold o_getR at h
  repeat' split at h
  all_goals first
    | (exact absurd h (by simp))
    | exact Or.inr (Or.inl ⟨_, _, _, _, h, fun C' K' => by simp [o_getR, *]⟩)
    | exact Or.inl (fun C' K' => by simp [o_getR, *])
    | (obtain ⟨r1, h1, h2⟩ := Option.bind_eq_some_iff.mp h; exact Or.inr (Or.inr ⟨_, _, _, _, _, fun v => _, r1, h1, h2, fun C' K' => by simp [o_getR, *]⟩))
theorem f_putR (t : Nat) (j : Int) (u n : Nat) : q_fin (o_putR t j u n) := by
  intro C K ls st s r h
  unfold o_putR at h
  repeat' split at h
  all_goals first
    | (exact absurd h (by simp))
    | exact Or.inr (Or.inl ⟨_, _, _, _, h, fun C' K' => by simp [o_putR, *]⟩)
    | exact Or.inl (fun C' K' => by simp [o_putR, *])
    | (obtain ⟨r1, h1, h2⟩ := Option.bind_eq_some_iff.mp h; exact Or.inr (Or.inr ⟨_, _, _, _, _, fun v => _, r1, h1, h2, fun C' K' => by simp [o_putR, *]⟩))
theorem f_aald (t u n : Nat) : q_fin (o_aald t u n) := by
  intro C K ls st s r h
  unfold o_aald at h
  repeat' split at h
  all_goals first
    | (exact absurd h (by simp))
    | exact Or.inr (Or.inl ⟨_, _, _, _, h, fun C' K' => by simp [o_aald, *]⟩)
    | exact Or.inl (fun C' K' => by simp [o_aald, *])
    | (obtain ⟨r1, h1, h2⟩ := Option.bind_eq_some_iff.mp h; exact Or.inr (Or.inr ⟨_, _, _, _, _, fun v => _, r1, h1, h2, fun C' K' => by simp [o_aald, *]⟩))
theorem f_aast (t u n : Nat) : q_fin (o_aast t u n) := by
  intro C K ls st s r h
  unfold o_aast at h
  repeat' split at h
  all_goals first
    | (exact absurd h (by simp))
    | exact Or.inr (Or.inl ⟨_, _, _, _, h, fun C' K' => by simp [o_aast, *]⟩)
    | exact Or.inl (fun C' K' => by simp [o_aast, *])
    | (obtain ⟨r1, h1, h2⟩ := Option.bind_eq_some_iff.mp h; exact Or.inr (Or.inr ⟨_, _, _, _, _, fun v => _, r1, h1, h2, fun C' K' => by simp [o_aast, *]⟩))
theorem f_new (t : Nat) (len : Int) (z : Int → Int) (n : Nat) : q_fin (o_new t len z n) := by
  intro C K ls st s r h
  unfold o_new at h
  repeat' split at h
  all_goals first
    | (exact absurd h (by simp))
    | exact Or.inr (Or.inl ⟨_, _, _, _, h, fun C' K' => by simp [o_new, *]⟩)
    | exact Or.inl (fun C' K' => by simp [o_new, *])
    | (obtain ⟨r1, h1, h2⟩ := Option.bind_eq_some_iff.mp h; exact Or.inr (Or.inr ⟨_, _, _, _, _, fun v => _, r1, h1, h2, fun C' K' => by simp [o_new, *]⟩))
theorem f_calli (t M na n : Nat) : q_fin (o_calli t M na n) := by
  intro C K ls st s r h
  unfold o_calli at h
  split at h
  · rename_i as st1 heq
    split at h
    · rename_i hc
      obtain ⟨r1, h1, h2⟩ := Option.bind_eq_some_iff.mp h
      exact Or.inr (Or.inr ⟨M, as, s, n, ls, fun v => v :: st1, r1, h1, h2, fun C' K' => by simp only [o_calli, heq, hc]; rfl⟩)
    · cases h
  · cases h
theorem f_callv (t M na n : Nat) : q_fin (o_callv t M na n) := by
  intro C K ls st s r h
  unfold o_callv at h
  split at h
  · rename_i as st1 heq
    split at h
    · rename_i hc
      obtain ⟨r1, h1, h2⟩ := Option.bind_eq_some_iff.mp h
      exact Or.inr (Or.inr ⟨M, as, s, n, ls, fun _ => st1, r1, h1, h2, fun C' K' => by simp only [o_callv, heq, hc]; rfl⟩)
    · cases h
  · cases h
theorem f_iret : q_fin o_iret := by
  intro C K ls st s r h
  refine Or.inl (fun C' K' => ?_)
  rw [← h]; rfl
theorem f_zret : q_fin o_zret := by
  intro C K ls st s r h
  refine Or.inl (fun C' K' => ?_)
  rw [← h]; rfl
theorem f_vret : q_fin o_vret := by
  intro C K ls st s r h
  refine Or.inl (fun C' K' => ?_)
  rw [← h]; rfl
theorem q_swk_eq (k : Nat → q_R) (a : Int) (d : Nat) : ∀ cs : List (Int × Nat), q_swk cs d a k = k (q_sw cs d a)
  | [] => rfl
  | (c, t) :: r => by
    by_cases h : a = c
    · simp [q_swk, q_sw, h]
    · simp [q_swk, q_sw, h, q_swk_eq k a d r]
theorem f_switch (cs : List (Int × Nat)) (d : Nat) : q_fin (o_switch cs d) := by
  intro C K ls st s r h
  unfold o_switch at h
  split at h
  · rw [q_swk_eq] at h
    exact Or.inr (Or.inl ⟨_, _, _, _, h, fun C' K' => by simp [o_switch, q_swk_eq]⟩)
  · exact absurd h (by simp)
