def q_tb : Int → List Nat → List (Int × Nat)
  | _, [] => []
  | a, t :: r => (a, t) :: q_tb (a + 1) r
theorem q_sw_out (d : Nat) (x : Int) : ∀ (ts : List Nat) (lo : Int), (x < lo ∨ lo + ts.length ≤ x) → q_sw (q_tb lo ts) d x = d
  | [], lo, h => rfl
  | t :: r, lo, h => by
    have h2 : ¬ x = lo := by simp at h; omega
    show (if x = lo then t else q_sw (q_tb (lo + 1) r) d x) = d
    rw [if_neg h2]
    exact q_sw_out d x r (lo + 1) (by simp at h; omega)
theorem q_sw_in (d : Nat) (x : Int) : ∀ (ts : List Nat) (lo : Int), ¬ x < lo → x < lo + ts.length → ts[(x - lo).toNat]? = some (q_sw (q_tb lo ts) d x)
  | [], lo, h, h2 => by simp at h2; omega
  | t :: r, lo, h, h2 => by
    show (t :: r)[(x - lo).toNat]? = some (if x = lo then t else q_sw (q_tb (lo + 1) r) d x)
    by_cases e : x = lo
    · rw [if_pos e, e, Int.sub_self]; rfl
    · rw [if_neg e]
      have e3 : (x - lo).toNat = (x - (lo + 1)).toNat + 1 := by omega
      rw [e3, List.getElem?_cons_succ]
      exact q_sw_in d x r (lo + 1) (by omega) (by simp at h2; omega)
section SP4
variable {E : q_X} {l : Launch} {I : q_I} {own : String} {cc : ByteArray} {nL : Nat} {rt : Option FieldType} {nm : String} {d : Nat}
theorem q_switch_spec {cs : List (Int × Nat)} {dt : Nat} {C : q_C} {K : q_K} {ls st : List q_V} {s1 : q_M} {r : q_V × q_M} (h : o_switch cs dt C K ls st s1 = some r) : ∃ a st', st = (0, a) :: st' ∧ K (q_sw cs dt a) ls st' s1 = some r := by
  unfold o_switch at h
  split at h
  · rw [q_swk_eq] at h
    exact ⟨_, _, rfl, h⟩
  · cases h
theorem s_tableswitch {pc dt : Nat} {df lo hi : Int} {offs : Array Int} {len : Nat} {cs : List (Int × Nat)} (ts : List Nat) (hd : decode cc pc = .ok (.tableswitch df lo hi offs, len)) (hcs : cs = q_tb lo ts) (hh : hi = lo + ts.length - 1) (ho : offs.toList = ts.map (fun (t : Nat) => (t : Int) - pc)) (hdf : (pc : Int) + df = (dt : Int)) : q_sim E l I own cc nL rt nm d pc (o_switch cs dt) := by
  refine ⟨f_switch _ _, fun p e R s m args below meth c Q s0 r hc hr C K ls st s1 h _ hK => ?_⟩
  obtain ⟨a, st', hst, h'⟩ := q_switch_spec h
  subst hst
  subst hcs
  refine q_go (hK _ _ _ _ h') fun hm hf => ⟨q_fk_pop hf, fun H locs A a1 a2 a3 k => ?_⟩
  have ha := q_ti (q_vk_i (q_fk_top hf))
  have k1 := k A a2
  by_cases ho2 : a < lo ∨ lo + ts.length ≤ a
  · rw [q_sw_out dt a ts lo ho2] at k1
    exact lv_tableOut hc.1 hc.2.1 hd (by show (Int32.ofInt a).toInt < lo ∨ hi < (Int32.ofInt a).toInt; rw [ha]; omega) hdf k1
  · have h1 : ¬ a < lo := fun z => ho2 (Or.inl z)
    have h2 : a < lo + ts.length := by omega
    have h3 := q_sw_in dt a ts lo h1 h2
    refine lv_tableIn (off := (q_sw (q_tb lo ts) dt a : Int) - pc) hc.1 hc.2.1 hd (by show ¬ (Int32.ofInt a).toInt < lo; rw [ha]; exact h1) (by show ¬ hi < (Int32.ofInt a).toInt; rw [ha]; omega) ?_ (by omega) k1
    show offs[((Int32.ofInt a).toInt - lo).toNat]? = _
    rw [ha, ← Array.getElem?_toList, ho, List.getElem?_map, h3]
    rfl
theorem q_swo (x : Int) (pc dt : Nat) (df : Int) (hdf : (pc : Int) + df = (dt : Int)) : ∀ (ps : List (Int × Int)) (cs : List (Int × Nat)), ps = cs.map (fun q => (q.1, (q.2 : Int) - pc)) → (pc : Int) + Op.lookupswitch.offset ps df x = (q_sw cs dt x : Int)
  | _, [], h => by subst h; simpa [Op.lookupswitch.offset, q_sw] using hdf
  | _, (a, t) :: r, h => by
    subst h
    rw [List.map_cons, Op.lookupswitch.offset_cons]
    show _ = ((if x = a then t else q_sw r dt x : Nat) : Int)
    by_cases e : x = a
    · subst e; simp; omega
    · rw [if_neg (fun z => e z.symm), if_neg e]
      exact q_swo x pc dt df hdf _ r rfl
theorem s_lookupswitch {pc dt : Nat} {df : Int} {ps : Array (Int × Int)} {len : Nat} {cs : List (Int × Nat)} (hd : decode cc pc = .ok (.lookupswitch df ps, len)) (hp : (ps.toList.zip (ps.toList.drop 1)).all (fun (a, next) => a.1 < next.1) = true) (hcs : ps.toList = cs.map (fun q => (q.1, (q.2 : Int) - pc))) (hdf : (pc : Int) + df = (dt : Int)) : q_sim E l I own cc nL rt nm d pc (o_switch cs dt) := by
  refine ⟨f_switch _ _, fun p e R s m args below meth c Q s0 r hc hr C K ls st s1 h _ hK => ?_⟩
  obtain ⟨a, st', hst, h'⟩ := q_switch_spec h
  subst hst
  refine q_go (hK _ _ _ _ h') fun hm hf => ⟨q_fk_pop hf, fun H locs A a1 a2 a3 k => ?_⟩
  have ha := q_ti (q_vk_i (q_fk_top hf))
  refine lv_lookup hc.1 hc.2.1 hd hp rfl ?_ (k A a2)
  show (pc : Int) + Op.lookupswitch.offset ps.toList df (Int32.ofInt a).toInt = _
  rw [ha]
  exact q_swo a pc dt df hdf _ cs hcs
-- the ends
theorem s_ireturn {pc : Nat} (hd : decode cc pc = .ok (.ireturn, 1)) (hrt : rt = some .int) : q_sim E l I own cc nL rt nm d pc o_iret := by
  refine ⟨f_iret, fun p e R s m args below meth c Q s0 r hc hr C K ls st s1 h _ hK => ?_⟩
  unfold o_iret at h
  split at h
  · cases h
    rename_i v
    refine ⟨⟨q_ext_rf _, by rw [hrt]; simp⟩, fun hm hf h0 H locs A a1 a2 a3 => ?_⟩
    exact (hr pc A H locs hm a1 a3).2 v rfl (q_vk_i (q_fk_top hf)) (Or.inl hrt) hd
  · cases h
theorem s_zreturn {pc : Nat} (hd : decode cc pc = .ok (.ireturn, 1)) (hrt : rt = some .boolean) : q_sim E l I own cc nL rt nm d pc o_zret := by
  refine ⟨f_zret, fun p e R s m args below meth c Q s0 r hc hr C K ls st s1 h _ hK => ?_⟩
  unfold o_zret at h
  split at h
  · split at h
    · rename_i v hv
      cases h
      refine ⟨⟨q_ext_rf _, by rw [hrt]; simp⟩, fun hm hf h0 H locs A a1 a2 a3 => ?_⟩
      exact (hr pc A H locs hm a1 a3).2 v rfl (q_vk_i (q_fk_top hf)) (Or.inr ⟨hrt, hv⟩) hd
    · cases h
  · cases h
theorem s_vreturn {pc : Nat} (hd : decode cc pc = .ok (.return_, 1)) (hrt : rt = none) : q_sim E l I own cc nL rt nm d pc o_vret := by
  refine ⟨f_vret, fun p e R s m args below meth c Q s0 r hc hr C K ls st s1 h _ hK => ?_⟩
  unfold o_vret at h
  split at h
  · cases h
    refine ⟨⟨q_ext_rf _, by rw [hrt]; simp⟩, fun hm hf h0 H locs A a1 a2 a3 => ?_⟩
    exact (hr pc A H locs hm a1 a3).1 rfl hrt hd
  · cases h
theorem s_lcmp {pc : Nat} (hd : decode cc pc = .ok (.lcmp, 1)) : q_sim E l I own cc nL rt nm d pc (o_lcmp (pc + 1)) := by
  refine ⟨f_lcmp _, fun p e R s m args below meth c Q s0 r hc hr C K ls st s1 h _ hK => ?_⟩
  unfold o_lcmp at h
  split at h
  · rename_i b a st'
    refine q_go (hK _ _ _ _ h) fun hm hf => ⟨q_fk_push (q_fk_pop (q_fk_pop hf)) (q_vk_int (by split <;> (try split) <;> (unfold q_i32; omega))), fun H locs A a1 a2 a3 k => ?_⟩
    have hb := q_ti64 (q_vk_l (q_fk_top hf))
    have ha := q_ti64 (q_vk_l (q_fk_top (q_fk_pop hf)))
    have k1 := k A a2
    refine W.lcmp hc.1 hc.2.1 hd ?_
    have e0 : lg_cmp (Int64.ofInt a) (Int64.ofInt b) = Int32.ofInt (if a < b then -1 else if a = b then 0 else 1) := by
      unfold lg_cmp
      have g1 : Int64.ofInt b < Int64.ofInt a ↔ b < a := by rw [Int64.lt_iff_toInt_lt, hb, ha]
      have g2 : Int64.ofInt a = Int64.ofInt b ↔ a = b := ⟨fun z => by rw [← ha, ← hb, z], fun z => by rw [z]⟩
      by_cases h1 : b < a
      · have : ¬ a < b := by omega
        have : ¬ a = b := by omega
        simp [g1, h1, *]
      · by_cases h2 : a = b
        · subst h2; simp
        · have h3 : a < b := by omega
          simp [g1, g2, h1, h2, h3]
    have e9 := k1
    rw [List.map_cons, q_cv_i, ← e0] at e9
    exact e9
  · cases h
end SP4
