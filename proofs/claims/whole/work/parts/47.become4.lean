/-! what a world that has become another bears -/
theorem cel_DC {i c : Int} (c0 : 0 ≤ c) (c1 : c < 8) (h : CR i c) : DC c (cel i) (slt i) := by
  unfold CR at h
  rcases h with h | h | h | h | h | h | h
  · obtain ⟨q, eq⟩ : ∃ q, (i - 76) / 8 = q := ⟨_, rfl⟩
    have hq : i = 76 + 8 * q + c := by omega
    have q0 : 0 ≤ q ∧ q < 10 := by omega
    clear h eq
    have : q = 0 ∨ q = 1 ∨ q = 2 ∨ q = 3 ∨ q = 4 ∨ q = 5 ∨ q = 6 ∨ q = 7 ∨ q = 8 ∨ q = 9 := by omega
    rcases this with e | e | e | e | e | e | e | e | e | e
    · have lo := lo_loud (c := c) c0 c1
      have z : i = 76 + c := by omega
      rw [z, lo.1, lo.2.1]
      exact Or.inl ⟨by omega, by decide, by decide⟩
    · have lo := lo_far (c := c) c0 c1
      have z : i = 84 + c := by omega
      rw [z, lo.1, lo.2.1]
      exact Or.inl ⟨by omega, by decide, by decide⟩
    · have lo := lo_room (c := c) c0 c1
      have z : i = 92 + c := by omega
      rw [z, lo.1, lo.2.1]
      exact Or.inr (Or.inl ⟨by omega, by decide, by decide⟩)
    · have lo := lo_rate (c := c) c0 c1
      have z : i = 100 + c := by omega
      rw [z, lo.1, lo.2.1]
      exact Or.inl ⟨by omega, by decide, by decide⟩
    · have lo := lo_blocks (c := c) c0 c1
      have z : i = 108 + c := by omega
      rw [z, lo.1, lo.2.1]
      exact Or.inr (Or.inl ⟨by omega, by decide, by decide⟩)
    · have lo := lo_made (c := c) c0 c1
      have z : i = 116 + c := by omega
      rw [z, lo.1, lo.2.1]
      exact Or.inr (Or.inl ⟨by omega, by decide, by decide⟩)
    · have lo := lo_had (c := c) c0 c1
      have z : i = 124 + c := by omega
      rw [z, lo.1, lo.2.1]
      exact Or.inr (Or.inl ⟨by omega, by decide, by decide⟩)
    · have lo := lo_dropped (c := c) c0 c1
      have z : i = 132 + c := by omega
      rw [z, lo.1, lo.2.1]
      exact Or.inr (Or.inl ⟨by omega, by decide, by decide⟩)
    · have lo := lo_lost (c := c) c0 c1
      have z : i = 140 + c := by omega
      rw [z, lo.1, lo.2.1]
      exact Or.inr (Or.inl ⟨by omega, by decide, by decide⟩)
    · have lo := lo_orders (c := c) c0 c1
      have z : i = 148 + c := by omega
      rw [z, lo.1, lo.2.1]
      exact Or.inr (Or.inr (Or.inr (Or.inl ⟨by omega, by decide⟩)))
  · obtain ⟨q, eq⟩ : ∃ q, i = 156 + 3 * c + q := ⟨i - (156 + 3 * c), by omega⟩
    have lo := lo_upat (c := c) (p := q) c0 c1 (by omega) (by omega)
    rw [eq, lo.1, lo.2.1]
    exact Or.inl ⟨by omega, by omega, by omega⟩
  · obtain ⟨q, eq⟩ : ∃ q, i = 180 + 3 * c + q := ⟨i - (180 + 3 * c), by omega⟩
    have lo := lo_upfor (c := c) (p := q) c0 c1 (by omega) (by omega)
    rw [eq, lo.1, lo.2.1]
    exact Or.inl ⟨by omega, by omega, by omega⟩
  · obtain ⟨q, eq⟩ : ∃ q, i = 204 + 12 * c + q := ⟨i - (204 + 12 * c), by omega⟩
    have lo := lo_bnum (c := c) (k := q) c0 c1 (by omega) (by omega)
    rw [eq, lo.1, lo.2.1]
    exact Or.inr (Or.inr (Or.inl ⟨by omega, by omega, by omega⟩))
  · obtain ⟨q, eq⟩ : ∃ q, i = 300 + 12 * c + q := ⟨i - (300 + 12 * c), by omega⟩
    have lo := lo_bsent (c := c) (k := q) c0 c1 (by omega) (by omega)
    rw [eq, lo.1, lo.2.1]
    exact Or.inr (Or.inr (Or.inl ⟨by omega, by omega, by omega⟩))
  · obtain ⟨q, eq⟩ : ∃ q, (i - 522) % 12 = q := ⟨_, rfl⟩
    obtain ⟨s, es⟩ : ∃ s, (i - 522) / 96 = s := ⟨_, rfl⟩
    have hq : i = 522 + 96 * s + 12 * c + q := by omega
    have q0 : 0 ≤ q ∧ q < 12 := by omega
    have s0 : 0 ≤ s ∧ s < 6 := by omega
    clear h eq es
    have : s = 0 ∨ s = 1 ∨ s = 2 ∨ s = 3 ∨ s = 4 ∨ s = 5 := by omega
    rcases this with e | e | e | e | e | e
    · have lo := lo_osent (c := c) (k := q) c0 c1 (by omega) (by omega)
      have z : i = 522 + 12 * c + q := by omega
      rw [z, lo.1, lo.2.1]
      exact Or.inr (Or.inr (Or.inr (Or.inr (Or.inl ⟨by omega, by omega, by omega⟩))))
    · have lo := lo_oagain (c := c) (k := q) c0 c1 (by omega) (by omega)
      have z : i = 618 + 12 * c + q := by omega
      rw [z, lo.1, lo.2.1]
      exact Or.inr (Or.inr (Or.inr (Or.inr (Or.inl ⟨by omega, by omega, by omega⟩))))
    · have lo := lo_olast (c := c) (k := q) c0 c1 (by omega) (by omega)
      have z : i = 714 + 12 * c + q := by omega
      rw [z, lo.1, lo.2.1]
      exact Or.inr (Or.inr (Or.inr (Or.inr (Or.inl ⟨by omega, by omega, by omega⟩))))
    · have lo := lo_ostate (c := c) (k := q) c0 c1 (by omega) (by omega)
      have z : i = 810 + 12 * c + q := by omega
      rw [z, lo.1, lo.2.1]
      exact Or.inr (Or.inr (Or.inr (Or.inr (Or.inl ⟨by omega, by omega, by omega⟩))))
    · have lo := lo_odone (c := c) (k := q) c0 c1 (by omega) (by omega)
      have z : i = 906 + 12 * c + q := by omega
      rw [z, lo.1, lo.2.1]
      exact Or.inr (Or.inr (Or.inr (Or.inr (Or.inl ⟨by omega, by omega, by omega⟩))))
    · have lo := lo_owent (c := c) (k := q) c0 c1 (by omega) (by omega)
      have z : i = 1002 + 12 * c + q := by omega
      rw [z, lo.1, lo.2.1]
      exact Or.inr (Or.inr (Or.inr (Or.inr (Or.inl ⟨by omega, by omega, by omega⟩))))
  · obtain ⟨q, eq⟩ : ∃ q, i = 1098 + 8 * c + q := ⟨i - (1098 + 8 * c), by omega⟩
    have lo := lo_tto (c := c) (k := q) c0 c1 (by omega) (by omega)
    rw [eq, lo.1, lo.2.1]
    exact Or.inr (Or.inr (Or.inr (Or.inr (Or.inr (Or.inr ⟨by omega, by omega, by omega⟩)))))
theorem RelW.become {h h' : Int → Int → Int} {w v : Int} {G : Int → Int} (hr : RelW h v G) (wr : WFR G) (be : BE h h' w v (fun p q => WC (G 1) (G 2) (G 3) p q ∨ (p = 5 ∧ q = 1) ∨ (p = 6 ∧ 0 ≤ q ∧ q < 64))) : RelW h' w G := by
  have u1 := wr.nd
  have u2 := wr.nc
  have u3 := wr.na
  refine ⟨?_, ?_, ?_⟩
  · intro i m l
    have hv := hr.1 i m l
    have done : (WC (G 1) (G 2) (G 3) (cel i) (slt i) ∨ (cel i = 5 ∧ slt i = 1) ∨ (cel i = 6 ∧ 0 ≤ slt i ∧ slt i < 64)) → h' (w + cel i) (slt i) = G i := fun hc => by rw [be.1 _ _ hc]; exact hv
    apply done
    clear done hv
    obtain ⟨a1, a2, a3, a4, a5, a6, a7, a8, a9⟩ := l
    unfold Mp at m
    by_cases b0 : i < 10
    · clear a1 a2 a3 a4 a5 a6 a7 a8 a9
      have e : i = 0 ∨ i = 1 ∨ i = 2 ∨ i = 3 := by omega
      left; left
      rcases e with rfl | rfl | rfl | rfl
      · rw [lo_hour.1, lo_hour.2.1]; exact ⟨rfl, by decide, by decide⟩
      · rw [lo_nd.1, lo_nd.2.1]; exact ⟨rfl, by decide, by decide⟩
      · rw [lo_nc.1, lo_nc.2.1]; exact ⟨rfl, by decide, by decide⟩
      · rw [lo_na.1, lo_na.2.1]; exact ⟨rfl, by decide, by decide⟩
    by_cases b1 : i < 52
    · clear a1 a2 a3 a4 a5 a6 a7 a8 a9
      have lo := lo_rain (j := i - 10) (by omega) (by omega)
      rw [show 10 + (i - 10) = i by omega] at lo
      rw [lo.1, lo.2.1]
      exact Or.inl (Or.inr (Or.inl ⟨rfl, by omega, by omega⟩))
    by_cases b2 : i < 76
    · have z := a1 (by omega) b2
      clear a1 a2 a3 a4 a5 a6 a7 a8 a9
      obtain ⟨d, ed⟩ : ∃ d, (i - 52) % 6 = d := ⟨_, rfl⟩
      obtain ⟨s, es⟩ : ∃ s, (i - 52) / 6 = s := ⟨_, rfl⟩
      rw [ed] at z
      have hq : i = 52 + 6 * s + d := by omega
      have d0 : 0 ≤ d ∧ d < 6 := by omega
      have s0 : 0 ≤ s ∧ s < 4 := by omega
      clear ed es
      have : s = 0 ∨ s = 1 ∨ s = 2 ∨ s = 3 := by omega
      rcases this with e | e | e | e
      · have lo := lo_place (d := d) d0.1 d0.2
        rw [show i = 52 + d by omega, lo.1, lo.2.1]
        exact Or.inl (Or.inr (Or.inr (Or.inl ⟨by omega, by decide, by decide⟩)))
      · have lo := lo_size (d := d) d0.1 d0.2
        rw [show i = 58 + d by omega, lo.1, lo.2.1]
        exact Or.inl (Or.inr (Or.inr (Or.inl ⟨by omega, by decide, by decide⟩)))
      · have lo := lo_turn (d := d) d0.1 d0.2
        rw [show i = 64 + d by omega, lo.1, lo.2.1]
        exact Or.inl (Or.inr (Or.inr (Or.inl ⟨by omega, by decide, by decide⟩)))
      · have lo := lo_broken (d := d) d0.1 d0.2
        rw [show i = 70 + d by omega, lo.1, lo.2.1]
        exact Or.inl (Or.inr (Or.inr (Or.inl ⟨by omega, by decide, by decide⟩)))
    have craft : ∀ c, CR i c → 0 ≤ c → c < G 2 → WC (G 1) (G 2) (G 3) (cel i) (slt i) ∨ (cel i = 5 ∧ slt i = 1) ∨ (cel i = 6 ∧ 0 ≤ slt i ∧ slt i < 64) := fun c hc c0 c1 => Or.inl (Or.inr (Or.inr (Or.inr (Or.inl ⟨c, c0, c1, cel_DC c0 (by omega) hc⟩))))
    by_cases b3 : i < 156
    · exact craft ((i - 76) % 8) (Or.inl ⟨by omega, b3, rfl⟩) (by omega) (a2 (by omega) b3)
    by_cases b4 : i < 180
    · exact craft ((i - 156) / 3) (Or.inr (Or.inl ⟨by omega, b4, rfl⟩)) (by omega) (a3 (by omega) b4)
    by_cases b5 : i < 204
    · exact craft ((i - 180) / 3) (Or.inr (Or.inr (Or.inl ⟨by omega, b5, rfl⟩))) (by omega) (a4 (by omega) b5)
    by_cases b6 : i < 300
    · exact craft ((i - 204) / 12) (Or.inr (Or.inr (Or.inr (Or.inl ⟨by omega, b6, rfl⟩)))) (by omega) (a5 (by omega) b6).1
    by_cases b7 : i < 396
    · exact craft ((i - 300) / 12) (Or.inr (Or.inr (Or.inr (Or.inr (Or.inl ⟨by omega, b7, rfl⟩))))) (by omega) (a6 (by omega) b7).1
    by_cases b8 : i < 522
    · have z := a7 (by omega) b8
      clear a1 a2 a3 a4 a5 a6 a7 a8 a9 craft
      have e1 := cel_as (by omega) b8
      have e2 : slt i = (i - 396) / 14 := by
        unfold slt
        rw [if_neg (by omega), if_neg (by omega), if_neg (by omega), if_neg (by omega), if_neg (by omega), if_neg (by omega), if_neg (by omega), if_pos (by omega)]
      rw [e1, e2]
      exact Or.inl (Or.inr (Or.inr (Or.inr (Or.inr ⟨by omega, by omega, by omega⟩))))
    by_cases b9 : i < 1098
    · exact craft ((i - 522) / 12 % 8) (Or.inr (Or.inr (Or.inr (Or.inr (Or.inr (Or.inl ⟨by omega, b9, rfl⟩)))))) (by omega) (a8 (by omega) b9).1
    by_cases b10 : i < 1162
    · exact craft ((i - 1098) / 8) (Or.inr (Or.inr (Or.inr (Or.inr (Or.inr (Or.inr ⟨by omega, b10, rfl⟩)))))) (by omega) (a9 (by omega) b10)
    · clear a1 a2 a3 a4 a5 a6 a7 a8 a9 craft
      have lo := lo_odds (j := i - 1226) (by omega) (by omega)
      rw [show 1226 + (i - 1226) = i by omega] at lo
      rw [lo.1, lo.2.1]
      exact Or.inr (Or.inr ⟨rfl, by omega, by omega⟩)
  · intro c s c0 c1 s0 s1
    have e := be.1 (13 + 15 * c + 13) 1 (Or.inl (Or.inr (Or.inr (Or.inr (Or.inl ⟨c, c0, c1, Or.inr (Or.inr (Or.inr (Or.inr (Or.inr (Or.inl ⟨rfl, rfl⟩)))))⟩)))))
    rw [show w + (13 + 15 * c + 13) = w + 13 + 15 * c + 13 by omega, show v + (13 + 15 * c + 13) = v + 13 + 15 * c + 13 by omega] at e
    rw [e]
    exact hr.2.1 c s c0 c1 s0 s1
  · intro i i0 i1
    have e := be.1 5 1 (Or.inr (Or.inl ⟨rfl, rfl⟩))
    rw [e]
    exact hr.2.2 i i0 i1
