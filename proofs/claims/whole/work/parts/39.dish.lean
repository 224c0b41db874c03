/-! an hour goes: the dishes -/
theorem sendG_f {G : Int → Int} {c L y : Int} (h : y < 300 + 12 * c ∨ 300 + 12 * c + G (108 + c) ≤ y) : sendG G c L y = G y := by unfold sendG; rw [if_neg (by omega)]
theorem sF_b {S : Int → Int} {n L hr t x a b : Int} (h0 : a ≤ hr) (h1 : hr ≤ b) (h2 : a ≤ S x) (h3 : S x ≤ b) : a ≤ sF S n L hr t x ∧ sF S n L hr t x ≤ b := by unfold sF; split <;> omega
theorem WFR.send {G : Int → Int} (wr : WFR G) {c L : Int} (c0 : 0 ≤ c) (c1 : c < 8) : WFR (sendG G c L) := by
  have u0 := wr.hour
  have rb := wr.blocks (d := c) c0 (by omega)
  have key : ∀ r ∈ RT, (r.2.1 ≤ 300 ∨ 396 ≤ r.1) ∨ r = (300, 396, -1, 3000) := by decide
  intro r hr j j0 j1
  by_cases z : 300 + 12 * c ≤ j ∧ j < 300 + 12 * c + G (108 + c)
  · rcases key r hr with q | q
    · omega
    · rw [q]
      unfold sendG
      rw [if_pos z]
      have := wr.bsent (c := c) (p := j - (300 + 12 * c)) c0 c1 (by omega) (by omega)
      exact sF_b (by show (-1 : Int) ≤ G 0; omega) (by show G 0 ≤ (3000 : Int); omega) this.1 this.2
  · rw [sendG_f (by omega)]
    exact wr r hr j j0 j1
theorem WF.send {G : Int → Int} (wf : WF G) {c L : Int} (c0 : 0 ≤ c) (c1 : c < 8) : WF (sendG G c L) := by
  have rb := wf.1.blocks (d := c) c0 (by omega)
  have u2 := wf.1.nc
  exact ⟨wf.1.send c0 c1, wf.2.1.fr wf.1 (fun x hx => sendG_f (by omega)), wf.2.2.1.fr wf.1 (fun x hx => sendG_f (by omega)), wf.2.2.2.1.fr wf.1 (fun x hx => sendG_f (by omega)), wf.2.2.2.2.fr wf.1 (sendG_f (by omega)) (fun x hx => sendG_f (by omega))⟩
/-- an asking is done with -/
theorem WF.over {G : Int → Int} (wf : WF G) {a v : Int} (a0 : 0 ≤ a) (a1 : a < G 3) (v0 : 3 ≤ v) (v1 : v ≤ 4) : WF (ud G (480 + a) v) := by
  have u3 := wf.1.na
  have u2 := wf.1.nc
  refine ⟨wf.1.set (480, 494, 0, 4) (by decide) (by show (480 : Int) ≤ _; omega) (by show _ < (494 : Int); omega) (by show (0 : Int) ≤ v; omega) v1, wf.2.1.fr wf.1 (fun x hx => ud_ne (by omega)), ?_, ?_, wf.2.2.2.2.fr wf.1 (ud_ne (by omega)) (fun x hx => ud_ne (by omega))⟩
  · intro b b0 b1
    rw [ud_ne (by omega)] at b1
    have wb := wf.2.2.1 b b0 b1
    rw [ud_ne (by omega : (0 : Int) ≠ 480 + a), ud_ne (by omega : (1 : Int) ≠ 480 + a), ud_ne (by omega : (2 : Int) ≠ 480 + a), ud_ne (by omega : 410 + b ≠ 480 + a), ud_ne (by omega : 424 + b ≠ 480 + a), ud_ne (by omega : 494 + b ≠ 480 + a), ud_ne (by omega : 508 + b ≠ 480 + a)]
    by_cases e : b = a
    · rw [ud_eq (by omega : 480 + b = 480 + a)]
      exact ⟨wb.1, wb.2.1, wb.2.2.1, fun h => by omega, fun h => by omega⟩
    · rw [ud_ne (by omega : 480 + b ≠ 480 + a)]; exact wb
  · intro b c b0 bc c1 sb sc dd
    rw [ud_ne (by omega)] at c1
    rw [ud_ne (by omega : 494 + b ≠ 480 + a), ud_ne (by omega : 494 + c ≠ 480 + a)] at dd
    rw [ud_ne (by omega : 508 + b ≠ 480 + a), ud_ne (by omega : 424 + b ≠ 480 + a), ud_ne (by omega : 508 + c ≠ 480 + a), ud_ne (by omega : 424 + c ≠ 480 + a)]
    have nb : b ≠ a := fun e => by rw [ud_eq (by omega : 480 + b = 480 + a)] at sb; omega
    have nc : c ≠ a := fun e => by rw [ud_eq (by omega : 480 + c = 480 + a)] at sc; omega
    rw [ud_ne (by omega : 480 + b ≠ 480 + a)] at sb
    rw [ud_ne (by omega : 480 + c ≠ 480 + a)] at sc
    exact wf.2.2.2.1 b c b0 bc c1 sb sc dd
theorem sF_congr {S T : Int → Int} {n L hr t x : Int} (hst : ∀ i, 0 ≤ i → i < n → S i = T i) (x0 : 0 ≤ x) (x1 : x < n) : sF S n L hr t x = sF T n L hr t x := by
  have a := sm_congr (f := hF S) (g := hF T) (n := x) (fun i i0 i1 => by unfold hF; rw [hst i i0 (by omega)])
  have b := sm_congr (f := gF S t) (g := gF T t) (n := x) (fun i i0 i1 => by unfold gF; rw [hst i i0 (by omega)])
  have c := sm_congr (f := hF S) (g := hF T) (n := n) (fun i i0 i1 => by unfold hF; rw [hst i i0 (by omega)])
  have d : frF S n L = frF T n L := by unfold frF; rw [c]
  unfold sF
  rw [a, b, d, hst x x0 x1]
theorem cF_congr {S T : Int → Int} {n L t : Int} (hst : ∀ i, 0 ≤ i → i < n → S i = T i) : cF S n L t = cF T n L t := by
  have b := sm_congr (f := gF S t) (g := gF T t) (n := n) (fun i i0 i1 => by unfold gF; rw [hst i i0 (by omega)])
  have c := sm_congr (f := hF S) (g := hF T) (n := n) (fun i i0 i1 => by unfold hF; rw [hst i i0 (by omega)])
  have d : frF S n L = frF T n L := by unfold frF; rw [c]
  unfold cF
  rw [b, d]
theorem k_send2 {sh : Int × (Int → Nat × Int)} {h h0 : Int → Int → Int} {w c L : Int} {X : Int → Int} (hs : Sh sh) (iw : isW w) (wr : WFR X) (c0 : 0 ≤ c) (c1 : c < X 2) (L0 : 0 ≤ L) (L1 : L ≤ 100) (cw : CW h0 h w X) : ∃ h', q_Cc 16 [(11, w + 13 + 15 * c + 3), (0, L), (0, X 0), (0, 2 * X (84 + c))] (sh, h) = some ((0, sentN X c L), (sh, h')) ∧ CW h0 h' w (sendG X c L) := by
  have u0 := wr.hour
  have u2 := wr.nc
  have w0 := iw.b
  have rb := wr.blocks (d := c) c0 (by omega)
  have rf := wr.far (d := c) c0 (by omega)
  have hp := cw.2.1
  have hr := cw.1
  have e5 : w + 13 + 15 * c + 3 + 2 = w + 13 + 15 * c + 5 := by omega
  have hx : ∀ x, 0 ≤ x → x < X (108 + c) → h (w + 13 + 15 * c + 5) x = X (300 + 12 * c + x) := fun x x0 x1 => hr.bsent wr c x c0 c1 x0 x1
  obtain ⟨R, k1, k2⟩ := k_sendSome (sh := sh) (h := h) (b := w + 13 + 15 * c + 3) (n := X (108 + c)) (L := L) (hr := X 0) (wt := 2 * X (84 + c)) (by omega) (by rw [e5]; exact hp.bsent iw c c0 (by omega)) (by rw [e5]; exact hs.c5 iw c c0 (by omega)) (hr.blocks wr c c0 c1) rb.1 rb.2 L0 L1 u0.1 (by omega) (by omega) (by omega) (fun x x0 x1 => by rw [e5, hx x x0 x1]; have := wr.bsent (c := c) (p := x) c0 (by omega) x0 (by omega); omega)
  rw [e5] at k1 k2
  have sc : ∀ (S T : Int → Int) (x : Int), (∀ i, 0 ≤ i → i < X (108 + c) → S i = T i) → x ≤ X (108 + c) → sm (hF S) x = sm (hF T) x ∧ sm (gF S (X 0 - 2 * X (84 + c))) x = sm (gF T (X 0 - 2 * X (84 + c))) x := by
    intro S T x hst hx
    exact ⟨sm_congr (fun i i0 i1 => by unfold hF; rw [hst i i0 (by omega)]), sm_congr (fun i i0 i1 => by unfold gF; rw [hst i i0 (by omega)])⟩
  have sn := sc (h (w + 13 + 15 * c + 5)) (fun k => X (300 + 12 * c + k)) (X (108 + c)) hx (by omega)
  have ef : frF (h (w + 13 + 15 * c + 5)) (X (108 + c)) L = frF (fun k => X (300 + 12 * c + k)) (X (108 + c)) L := by unfold frF; rw [sn.1]
  have ec : cF (h (w + 13 + 15 * c + 5)) (X (108 + c)) L (X 0 - 2 * X (84 + c)) = sentN X c L := by unfold sentN cF; rw [sn.2, ef]
  rw [ec] at k1
  refine ⟨q_row h (w + 13 + 15 * c + 5) R, k1, ?_, hp.row (fun j => VP_cr iw c0 (by omega) (by omega) (by omega) (by omega)), fun k hk => by rw [q_row_ne (by omega)]; exact cw.2.2 k hk⟩
  have gf : ∀ y, (y < 300 + 12 * c ∨ 312 + 12 * c ≤ y) → sendG X c L y = X y := fun y hy => sendG_f (by omega)
  refine hr.blocksOf wr (wr.send c0 (by omega)) c0 c1 (fun a a1 a2 a3 => q_row_ne a3) (fun y y1 y2 y3 y4 y5 y6 y7 y8 => gf y y8) ?_ ?_ ?_ ?_ ?_ ?_ ?_ ?_
  · rw [q_row_ne (by omega), gf _ (by omega)]; exact hr.room wr c c0 c1
  · rw [q_row_ne (by omega), gf _ (by omega)]; exact hr.blocks wr c c0 c1
  · rw [q_row_ne (by omega), gf _ (by omega)]; exact hr.made wr c c0 c1
  · rw [q_row_ne (by omega), gf _ (by omega)]; exact hr.had wr c c0 c1
  · rw [q_row_ne (by omega), gf _ (by omega)]; exact hr.dropped wr c c0 c1
  · rw [q_row_ne (by omega), gf _ (by omega)]; exact hr.lost wr c c0 c1
  · intro k k0 k1
    rw [gf _ (by omega)] at k1
    rw [q_row_ne (by omega), gf _ (by omega)]
    exact hr.bnum wr c k c0 c1 k0 k1
  · intro k k0 k1
    rw [gf _ (by omega)] at k1
    rw [q_row_self, k2 k k0 k1]
    unfold sendG
    rw [if_pos (by omega), show 300 + 12 * c + k - (300 + 12 * c) = k by omega]
    have sk := sc (h (w + 13 + 15 * c + 5)) (fun k => X (300 + 12 * c + k)) k hx (by omega)
    unfold sF
    rw [sk.1, sk.2, ef, hx k k0 k1]
/-! the orders that go out on the way change nothing else -/
theorem goM_f {G : Int → Int} {M y : Int} (h : y < 1002 ∨ 1098 ≤ y) : goM G M y = G y := goQ_f (by omega)
theorem rF_congr {G G' : Int → Int} {d : Int} : ∀ n : Nat, (∀ i : Nat, i < n → G' (480 + i) = G (480 + i) ∧ G' (494 + i) = G (494 + i)) → rF G' d n = rF G d n := by
  intro n
  induction n with
  | zero => intro _; rfl
  | succ n ih =>
    intro hg
    unfold rF
    rw [(hg n (by omega)).1, (hg n (by omega)).2, ih (fun i hi => hg i (by omega))]
theorem goM_rF {G : Int → Int} {M d : Int} (u3 : 0 ≤ G 3 ∧ G 3 ≤ 14) : rF (goM G M) d (goM G M 3).toNat = rF G d (G 3).toNat := by
  rw [goM_f (by omega)]
  exact rF_congr _ (fun i hi => ⟨goM_f (by omega), goM_f (by omega)⟩)
theorem goM_wr {G : Int → Int} {M : Int} (wr : WFR G) : WFR (goM G M) := wr.only (fun y hy => goM_f (by omega))
theorem goM_link {G : Int → Int} {M c d t : Int} (c0 : 0 ≤ c) (c1 : c < 8) (d0 : 0 ≤ d) (d1 : d < 6) (wr : WFR G) (t0 : 0 ≤ t) : linkF (goM G M) c d t = linkF G c d t := by
  have r3 := wr.place (d := d) (by omega) (by omega)
  unfold linkF
  rw [goM_f (by omega : 70 + d < 1002 ∨ _), goM_f (by omega : 76 + c < 1002 ∨ _), goM_f (by omega : 58 + d < 1002 ∨ _), goM_f (by omega : 52 + d < 1002 ∨ _), goM_f (by omega : 10 + 14 * G (52 + d) + t / 24 % 14 < 1002 ∨ _)]
theorem goM_send {G : Int → Int} {M c L : Int} (wr : WFR G) (c0 : 0 ≤ c) (c1 : c < 8) : sendG (goM G M) c L = goM (sendG G c L) M ∧ sentN (goM G M) c L = sentN G c L := by
  have rb := wr.blocks (d := c) c0 (by omega)
  have e1 : goM G M (108 + c) = G (108 + c) := goM_f (by omega)
  have e2 : goM G M 0 = G 0 := goM_f (by omega)
  have e3 : goM G M (84 + c) = G (84 + c) := goM_f (by omega)
  have es : ∀ i, 0 ≤ i → i < G (108 + c) → goM G M (300 + 12 * c + i) = G (300 + 12 * c + i) := fun i i0 i1 => goM_f (by omega)
  refine ⟨?_, ?_⟩
  · funext y
    by_cases hy : 1002 ≤ y ∧ y < 1098
    · have g0 : sendG G c L 0 = G 0 := sendG_f (by omega)
      have g2 : sendG G c L 2 = G 2 := sendG_f (by omega)
      have gy : sendG G c L y = G y := sendG_f (by omega)
      have ga : sendG G c L (y - 480) = G (y - 480) := sendG_f (by omega)
      have gb : sendG G c L (y - 384) = G (y - 384) := sendG_f (by omega)
      have go : sendG G c L (148 + (y - 1002) / 12) = G (148 + (y - 1002) / 12) := sendG_f (by omega)
      have gp : goP (sendG G c L) y ↔ goP G y := by
        show (sendG G c L y < 0 ∧ (sendG G c L (y - 480) = sendG G c L 0 ∨ sendG G c L (y - 384) = sendG G c L 0)) ↔ _
        rw [gy, ga, gb, g0]
      rw [sendG_f (by omega)]
      unfold goM goQ
      rw [g2, go]
      by_cases q : (1002 ≤ y ∧ y < 1002 + 96) ∧ ((y - 1002) / 12 < G 2 ∧ (y - 1002) % 12 < G (148 + (y - 1002) / 12)) ∧ ib M ((y - 1002) / 12) = 1 ∧ goP G y
      · rw [if_pos q, if_pos ⟨q.1, q.2.1, q.2.2.1, gp.mpr q.2.2.2⟩, g0]
      · rw [if_neg q, if_neg (fun h => q ⟨h.1, h.2.1, h.2.2.1, gp.mp h.2.2.2⟩), gy]
    · rw [goM_f (G := sendG G c L) (by omega)]
      unfold sendG
      rw [e1, e2, e3]
      by_cases z : 300 + 12 * c ≤ y ∧ y < 300 + 12 * c + G (108 + c)
      · rw [if_pos z, if_pos z]
        exact sF_congr es (by omega) (by omega)
      · rw [if_neg z, if_neg z]
        exact goM_f (by omega)
  · unfold sentN
    rw [e1, e2, e3]
    exact cF_congr es
theorem goM_over {G : Int → Int} {M a v : Int} (a0 : 0 ≤ a) (a1 : a < 14) : ud (goM G M) (480 + a) v = goM (ud G (480 + a) v) M := by
  funext y
  by_cases hy : 1002 ≤ y ∧ y < 1098
  · have g0 : ud G (480 + a) v 0 = G 0 := ud_ne (by omega)
    have g2 : ud G (480 + a) v 2 = G 2 := ud_ne (by omega)
    have gy : ud G (480 + a) v y = G y := ud_ne (by omega)
    have ga : ud G (480 + a) v (y - 480) = G (y - 480) := ud_ne (by omega)
    have gb : ud G (480 + a) v (y - 384) = G (y - 384) := ud_ne (by omega)
    have go : ud G (480 + a) v (148 + (y - 1002) / 12) = G (148 + (y - 1002) / 12) := ud_ne (by omega)
    have gp : goP (ud G (480 + a) v) y ↔ goP G y := by
      show (ud G (480 + a) v y < 0 ∧ (ud G (480 + a) v (y - 480) = ud G (480 + a) v 0 ∨ ud G (480 + a) v (y - 384) = ud G (480 + a) v 0)) ↔ _
      rw [gy, ga, gb, g0]
    rw [ud_ne (by omega)]
    unfold goM goQ
    rw [g2, go]
    by_cases q : (1002 ≤ y ∧ y < 1002 + 96) ∧ ((y - 1002) / 12 < G 2 ∧ (y - 1002) % 12 < G (148 + (y - 1002) / 12)) ∧ ib M ((y - 1002) / 12) = 1 ∧ goP G y
    · rw [if_pos q, if_pos ⟨q.1, q.2.1, q.2.2.1, gp.mpr q.2.2.2⟩, g0]
    · rw [if_neg q, if_neg (fun h => q ⟨h.1, h.2.1, h.2.2.1, gp.mp h.2.2.2⟩), gy]
  · rw [goM_f (G := ud G (480 + a) v) (by omega)]
    by_cases e : y = 480 + a
    · rw [ud_eq e, ud_eq e]
    · rw [ud_ne e, ud_ne e]; exact goM_f (by omega)
