set_option maxRecDepth 100000 in
set_option maxHeartbeats 4000000 in
theorem z_X7_init (E : q_X) (l : Launch) : q_Al (q_z E l RX7 cX7_init 1 none "<init>" 0) (P_X7_init) :=
  ⟨⟨s_aload_n (k0 := 0) (by decide +kernel) rfl, m_aload _ _⟩,
  ⟨⟨s_objinit (idx := 3) (by decide +kernel) gw_229 gw_1 gw_2, m_objinit _⟩,
  ⟨⟨s_aload_n (k0 := 0) (by decide +kernel) rfl, m_aload _ _⟩,
  ⟨⟨s_bipush (n := 24) (by decide +kernel) ⟨by decide, by decide⟩ (by decide +kernel), m_const _ _⟩,
  ⟨⟨s_newa (t0 := 0) (aty := .int) (by decide +kernel) rfl (Or.inl ⟨rfl, rfl, rfl⟩) gw_18, m_newa _ _⟩,
  ⟨⟨s_putR (idx := 9) (ci := 7) (Cn := RX7) (Tn := TX7) (N := 3) (j := 2) (by decide +kernel) rfl iG_7 (by decide) gw_230 tyX7 tyX7_ok nmX7 (Or.inr ⟨rfl, rfl, rfl⟩) rfl (by decide) (fun _ => ⟨rfl, rfl⟩), m_putR _ _ _ _⟩,
  ⟨⟨s_vreturn (by decide +kernel) rfl, m_vret rfl⟩, trivial⟩⟩⟩⟩⟩⟩⟩
set_option maxRecDepth 100000 in
set_option maxHeartbeats 4000000 in
theorem z_X7_isMissing (E : q_X) (l : Launch) : q_Al (q_z E l RX7 cX7_isMissing 1 (some .boolean) "isMissing" 0) (P_X7_isMissing) :=
  ⟨⟨s_aload_n (k0 := 0) (by decide +kernel) rfl, m_aload _ _⟩,
  ⟨⟨s_getI (idx := 15) (ci := 7) (Cn := RX7) (Tn := TX7) (N := 3) (j := 0) (by decide +kernel) rfl iG_7 (by decide) gw_231 (Or.inl rfl), m_getI _ _ _⟩,
  ⟨⟨s_ifne (off := 7) (by decide +kernel) (by decide), m_ifne _ _⟩,
  ⟨⟨s_iconst (n := 1) (by decide +kernel) ⟨by decide, by decide⟩, m_const _ _⟩,
  ⟨⟨s_goto (off := 4) (by decide +kernel) (by decide), m_goto _⟩,
  ⟨⟨s_iconst (n := 0) (by decide +kernel) ⟨by decide, by decide⟩, m_const _ _⟩,
  ⟨⟨s_zreturn (by decide +kernel) rfl, m_zret rfl⟩, trivial⟩⟩⟩⟩⟩⟩⟩
set_option maxRecDepth 100000 in
set_option maxHeartbeats 4000000 in
theorem z_X7_begin (E : q_X) (l : Launch) : q_Al (q_z E l RX7 cX7_begin 4 (some .int) "begin" 0) (P_X7_begin) :=
  ⟨⟨s_aload_n (k0 := 0) (by decide +kernel) rfl, m_aload _ _⟩,
  ⟨⟨s_iload_n (k0 := 1) (by decide +kernel) rfl, m_iload _ _⟩,
  ⟨⟨s_putI (idx := 15) (ci := 7) (Cn := RX7) (Tn := TX7) (N := 3) (j := 0) (by decide +kernel) rfl iG_7 (by decide) gw_231 tyX7 tyX7_ok nmX7 (Or.inl rfl) rfl rfl, m_putI _ _ _⟩,
  ⟨⟨s_aload_n (k0 := 0) (by decide +kernel) rfl, m_aload _ _⟩,
  ⟨⟨s_iload_n (k0 := 1) (by decide +kernel) rfl, m_iload _ _⟩,
  ⟨⟨s_ifne (off := 7) (by decide +kernel) (by decide), m_ifne _ _⟩,
  ⟨⟨s_iconst (n := 0) (by decide +kernel) ⟨by decide, by decide⟩, m_const _ _⟩,
  ⟨⟨s_goto (off := 4) (by decide +kernel) (by decide), m_goto _⟩,
  ⟨⟨s_iload_n (k0 := 2) (by decide +kernel) rfl, m_iload _ _⟩,
  ⟨⟨s_putI (idx := 19) (ci := 7) (Cn := RX7) (Tn := TX7) (N := 3) (j := 1) (by decide +kernel) rfl iG_7 (by decide) gw_232 tyX7 tyX7_ok nmX7 (Or.inl rfl) rfl rfl, m_putI _ _ _⟩,
  ⟨⟨s_iconst (n := 0) (by decide +kernel) ⟨by decide, by decide⟩, m_const _ _⟩,
  ⟨⟨s_istore_n (k0 := 3) (by decide +kernel) rfl, m_istore _ _⟩,
  ⟨⟨s_iload_n (k0 := 3) (by decide +kernel) rfl, m_iload _ _⟩,
  ⟨⟨s_bipush (n := 24) (by decide +kernel) ⟨by decide, by decide⟩ (by decide +kernel), m_const _ _⟩,
  ⟨⟨s_icmpge (off := 16) (by decide +kernel) (by decide), m_icmpge _ _⟩,
  ⟨⟨s_aload_n (k0 := 0) (by decide +kernel) rfl, m_aload _ _⟩,
  ⟨⟨s_getR (idx := 9) (ci := 7) (Cn := RX7) (Tn := TX7) (N := 3) (j := 2) (by decide +kernel) rfl iG_7 (by decide) gw_230 rfl (by decide), m_getR _ _ _ _⟩,
  ⟨⟨s_iload_n (k0 := 3) (by decide +kernel) rfl, m_iload _ _⟩,
  ⟨⟨s_iconst (n := 0) (by decide +kernel) ⟨by decide, by decide⟩, m_const _ _⟩,
  ⟨⟨s_iast (by decide +kernel), m_iast _⟩,
  ⟨⟨s_iinc (by decide +kernel), m_iinc _ _ _⟩,
  ⟨⟨s_goto (off := (-16)) (by decide +kernel) (by decide), m_goto _⟩,
  ⟨⟨s_aload_n (k0 := 0) (by decide +kernel) rfl, m_aload _ _⟩,
  ⟨⟨s_getI (idx := 19) (ci := 7) (Cn := RX7) (Tn := TX7) (N := 3) (j := 1) (by decide +kernel) rfl iG_7 (by decide) gw_232 (Or.inl rfl), m_getI _ _ _⟩,
  ⟨⟨s_ireturn (by decide +kernel) rfl, m_iret rfl⟩, trivial⟩⟩⟩⟩⟩⟩⟩⟩⟩⟩⟩⟩⟩⟩⟩⟩⟩⟩⟩⟩⟩⟩⟩⟩⟩
set_option maxRecDepth 100000 in
set_option maxHeartbeats 4000000 in
theorem z_X7_set (E : q_X) (l : Launch) : q_Al (q_z E l RX7 cX7_set 4 none "set" 0) (P_X7_set) :=
  ⟨⟨s_bipush (n := 32) (by decide +kernel) ⟨by decide, by decide⟩ (by decide +kernel), m_const _ _⟩,
  ⟨⟨s_aload_n (k0 := 0) (by decide +kernel) rfl, m_aload _ _⟩,
  ⟨⟨s_getI (idx := 15) (ci := 7) (Cn := RX7) (Tn := TX7) (N := 3) (j := 0) (by decide +kernel) rfl iG_7 (by decide) gw_231 (Or.inl rfl), m_getI _ _ _⟩,
  ⟨⟨s_isub (by decide +kernel), m_bin _ _⟩,
  ⟨⟨s_istore_n (k0 := 3) (by decide +kernel) rfl, m_istore _ _⟩,
  ⟨⟨s_aload_n (k0 := 0) (by decide +kernel) rfl, m_aload _ _⟩,
  ⟨⟨s_getR (idx := 9) (ci := 7) (Cn := RX7) (Tn := TX7) (N := 3) (j := 2) (by decide +kernel) rfl iG_7 (by decide) gw_230 rfl (by decide), m_getR _ _ _ _⟩,
  ⟨⟨s_iload_n (k0 := 1) (by decide +kernel) rfl, m_iload _ _⟩,
  ⟨⟨s_iload_n (k0 := 2) (by decide +kernel) rfl, m_iload _ _⟩,
  ⟨⟨s_iload_n (k0 := 3) (by decide +kernel) rfl, m_iload _ _⟩,
  ⟨⟨s_ishl (by decide +kernel), m_bin _ _⟩,
  ⟨⟨s_iload_n (k0 := 3) (by decide +kernel) rfl, m_iload _ _⟩,
  ⟨⟨s_ishr (by decide +kernel), m_bin _ _⟩,
  ⟨⟨s_iast (by decide +kernel), m_iast _⟩,
  ⟨⟨s_vreturn (by decide +kernel) rfl, m_vret rfl⟩, trivial⟩⟩⟩⟩⟩⟩⟩⟩⟩⟩⟩⟩⟩⟩⟩
set_option maxRecDepth 100000 in
set_option maxHeartbeats 4000000 in
theorem z_X7_hasRange (E : q_X) (l : Launch) : q_Al (q_z E l RX7 cX7_hasRange 3 (some .boolean) "hasRange" 0) (P_X7_hasRange) :=
  ⟨⟨s_iload_n (k0 := 1) (by decide +kernel) rfl, m_iload _ _⟩,
  ⟨⟨s_iflt (off := 29) (by decide +kernel) (by decide), m_iflt _ _⟩,
  ⟨⟨s_iload_n (k0 := 2) (by decide +kernel) rfl, m_iload _ _⟩,
  ⟨⟨s_iflt (off := 25) (by decide +kernel) (by decide), m_iflt _ _⟩,
  ⟨⟨s_iload_n (k0 := 2) (by decide +kernel) rfl, m_iload _ _⟩,
  ⟨⟨s_aload_n (k0 := 0) (by decide +kernel) rfl, m_aload _ _⟩,
  ⟨⟨s_getI (idx := 19) (ci := 7) (Cn := RX7) (Tn := TX7) (N := 3) (j := 1) (by decide +kernel) rfl iG_7 (by decide) gw_232 (Or.inl rfl), m_getI _ _ _⟩,
  ⟨⟨s_icmpgt (off := 17) (by decide +kernel) (by decide), m_icmpgt _ _⟩,
  ⟨⟨s_iload_n (k0 := 1) (by decide +kernel) rfl, m_iload _ _⟩,
  ⟨⟨s_aload_n (k0 := 0) (by decide +kernel) rfl, m_aload _ _⟩,
  ⟨⟨s_getI (idx := 19) (ci := 7) (Cn := RX7) (Tn := TX7) (N := 3) (j := 1) (by decide +kernel) rfl iG_7 (by decide) gw_232 (Or.inl rfl), m_getI _ _ _⟩,
  ⟨⟨s_iload_n (k0 := 2) (by decide +kernel) rfl, m_iload _ _⟩,
  ⟨⟨s_isub (by decide +kernel), m_bin _ _⟩,
  ⟨⟨s_icmpgt (off := 7) (by decide +kernel) (by decide), m_icmpgt _ _⟩,
  ⟨⟨s_iconst (n := 1) (by decide +kernel) ⟨by decide, by decide⟩, m_const _ _⟩,
  ⟨⟨s_goto (off := 4) (by decide +kernel) (by decide), m_goto _⟩,
  ⟨⟨s_iconst (n := 0) (by decide +kernel) ⟨by decide, by decide⟩, m_const _ _⟩,
  ⟨⟨s_zreturn (by decide +kernel) rfl, m_zret rfl⟩, trivial⟩⟩⟩⟩⟩⟩⟩⟩⟩⟩⟩⟩⟩⟩⟩⟩⟩⟩
