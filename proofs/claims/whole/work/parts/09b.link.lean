set_option maxHeartbeats 4000000 in
set_option maxRecDepth 100000 in
/-- THE LINK: where my machine's run of the law answers 1, the JVM's does -/
theorem q_link {p : Program} {e : Env} {s : State} {m : MethodId} {below : List Frame} {meth : Method} {c : Code} (l : Launch) {b L : Nat} {xs : Nat → Int32} (hL : L ≤ 3072) (C0 : lw_At p s m meth c b L xs) {s2 : q_M} (hrun : q_lim q_P q_mx 256 0 [(30, -6), (9, 0), (9, 0), (9, 0)] [] (q_m0 L xs) = some ((0, 1), s2)) (hs2 : s2.1.1 ≤ 700) : W p l e room_1 s m #[Value.ref b] below meth c s.heap [] 0 0 (lw_Z below #[Value.ref b] s) (entryFrame m ([Value.ref b] : List Value).toArray 4) := by
  obtain ⟨hx, hb, hr, hml, hown, hts, hX, hbl, hlocks, hgv⟩ := id C0
  obtain ⟨E, e1, e2, e3, henv, hmok⟩ := q_env0 hts hX hbl hgv hL
  obtain ⟨n, hn⟩ := (q_lim_iff (fun M pc op h => ((q_okP E l).1 M pc op h).1.1)).mp hrun
  have hext := (q_mono_all (q_okP E l) _ _ _ _ _ _ _ hn).1
  have h0 : (q_m0 L xs).1.1 = 0 := rfl
  have hge : 0 ≤ s2.1.1 := by have := hext.1; rw [h0] at this; exact this
  have hcx : q_cx E 4 (some .boolean) p room_1 s m #[Value.ref b] meth c (q_m0 L xs) ((0, 1), s2) RL cL_law "law" 14 := by
    refine ⟨hx, hb, hr, hml, hown, hlocks, fun h => absurd h (by decide), fun w hw => hts w (qG_in w hw), henv, Nat.le_of_eq e1, fun q hq => by rw [e2], by decide, by decide, ?_, ?_, by rw [e1, h0]; rfl, Int.le_refl _⟩
    · show (s2.1.1 - 0).toNat ≤ 600000
      omega
    · show 10000 * (s2.1.1 - 0).toNat ≤ 7302249
      omega
  have hret : q_ret E l (some .boolean) p e room_1 s m #[Value.ref b] below meth c (lw_Z below #[Value.ref b] s) (q_m0 L xs) ((0, 1), s2) cL_law := by
    intro pc A H locs _ _ hl
    refine ⟨fun h9 => absurd h9 (by simp), fun v hv _ _ hd => ?_⟩
    have hv1 : v = 1 := by
      have := congrArg Prod.snd hv
      exact this.symm
    subst hv1
    refine va_forget (fun q hq => by rw [← e1]; exact hl q hq) ?_
    refine W.widen (k := 600000) (n := 7302249) (by show (s2.1.1 - 0).toNat ≤ 600000; omega) (by show 10000 * (s2.1.1 - 0).toNat ≤ 7302249; omega) ?_
    exact lw_ret hx hb hr hlocks hd
  have hI : q_I0 256 = (yL_law, cL_law, 4, some .boolean, 14) := rfl
  have hS := (q_all (q_okP E l) n).2 256 p e room_1 s m #[Value.ref b] below meth c (lw_Z below #[Value.ref b] s) (q_m0 L xs) ((0, 1), s2) hcx hret 0 _ [] (q_m0 L xs) hn
  have hvk : q_vk (q_m0 L xs) (30, -6) := Or.inr (Or.inr ⟨show 10 ≤ 30 by decide, Or.inr (Or.inl ⟨rfl, Or.inr rfl⟩)⟩)
  have hfk : q_fk (q_m0 L xs) [(30, -6), (9, 0), (9, 0), (9, 0)] [] := by
    refine ⟨fun i hi => ?_, fun v hv => by cases hv⟩
    match i, hi with
    | 0, _ => exact hvk
    | 1, hi => exact absurd rfl hi
    | 2, hi => exact absurd rfl hi
    | 3, hi => exact absurd rfl hi
    | i + 4, hi => exact absurd rfl hi
  have g3 := hS.2 hmok hfk (Int.le_refl _)
  have hl := lv_entry ([.ref b]) (n := 4) (Nat.le_of_ble_eq_true rfl)
  rw [lg_entry_eq]
  have hcv : q_cv E (30, -6) = .ref b := by
    rw [q_cv_r E (-6) (show 10 ≤ 30 by decide)]
    have : q_a E (-6) = b := by unfold q_a; rw [if_neg (by decide)]; exact e3
    rw [this]
  have k1 := g3 s.heap [] ((lg_sl ([.ref b]) ++ List.replicate (4 - (lg_sl ([.ref b])).length) Slot.unset).toArray) ⟨by rw [e1, h0]; rfl, fun q hq => by rw [e2], fun i x hx => by have := (q_ws_inv hx).1; rw [h0] at this; simp at this⟩ ⟨rfl, hl.1, hl.2.1, fun i hi => by
    match i, hi with
    | 0, _ =>
      show _ = some (Slot.val (q_cv E (30, -6)))
      rw [hcv]
      exact hl.2.2 (0, .ref b) List.mem_cons_self
    | 1, hi => exact absurd rfl hi
    | 2, hi => exact absurd rfl hi
    | 3, hi => exact absurd rfl hi
    | i + 4, hi => exact absurd rfl hi⟩ (fun x hx => by cases hx)
  exact k1
