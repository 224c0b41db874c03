set_option maxRecDepth 100000 in
set_option maxHeartbeats 4000000 in
theorem z_X3_init (E : q_X) (l : Launch) : q_Al (q_z E l RX3 cX3_init 1 none "<init>" 0) (P_X3_init) :=
  ⟨⟨s_aload_n (k0 := 0) (by decide +kernel) rfl, m_aload _ _⟩,
  ⟨⟨s_objinit (idx := 1) (by decide +kernel) gw_105 gw_1 gw_2, m_objinit _⟩,
  ⟨⟨s_vreturn (by decide +kernel) rfl, m_vret rfl⟩, trivial⟩⟩⟩
set_option maxRecDepth 100000 in
set_option maxHeartbeats 4000000 in
theorem z_X3_begin (E : q_X) (l : Launch) : q_Al (q_z E l RX3 cX3_begin 4 none "begin" 0) (P_X3_begin) :=
  ⟨⟨s_aload_n (k0 := 0) (by decide +kernel) rfl, m_aload _ _⟩,
  ⟨⟨s_iload_n (k0 := 1) (by decide +kernel) rfl, m_iload _ _⟩,
  ⟨⟨s_putI (idx := 7) (ci := 3) (Cn := RX3) (Tn := TX3) (N := 4) (j := 0) (by decide +kernel) rfl iG_3 (by decide) gw_106 tyX3 tyX3_ok nmX3 (Or.inl rfl) rfl rfl, m_putI _ _ _⟩,
  ⟨⟨s_aload_n (k0 := 0) (by decide +kernel) rfl, m_aload _ _⟩,
  ⟨⟨s_iload_n (k0 := 2) (by decide +kernel) rfl, m_iload _ _⟩,
  ⟨⟨s_putI (idx := 13) (ci := 3) (Cn := RX3) (Tn := TX3) (N := 4) (j := 1) (by decide +kernel) rfl iG_3 (by decide) gw_107 tyX3 tyX3_ok nmX3 (Or.inl rfl) rfl rfl, m_putI _ _ _⟩,
  ⟨⟨s_aload_n (k0 := 0) (by decide +kernel) rfl, m_aload _ _⟩,
  ⟨⟨s_iload_n (k0 := 3) (by decide +kernel) rfl, m_iload _ _⟩,
  ⟨⟨s_putI (idx := 16) (ci := 3) (Cn := RX3) (Tn := TX3) (N := 4) (j := 2) (by decide +kernel) rfl iG_3 (by decide) gw_108 tyX3 tyX3_ok nmX3 (Or.inl rfl) rfl rfl, m_putI _ _ _⟩,
  ⟨⟨s_aload_n (k0 := 0) (by decide +kernel) rfl, m_aload _ _⟩,
  ⟨⟨s_iconst (n := 0) (by decide +kernel) ⟨by decide, by decide⟩, m_const _ _⟩,
  ⟨⟨s_putZ (idx := 19) (ci := 3) (Cn := RX3) (Tn := TX3) (N := 4) (j := 3) (by decide +kernel) rfl iG_3 (by decide) gw_109 tyX3 tyX3_ok nmX3 (Or.inl rfl) rfl rfl, m_putZ _ _ _⟩,
  ⟨⟨s_vreturn (by decide +kernel) rfl, m_vret rfl⟩, trivial⟩⟩⟩⟩⟩⟩⟩⟩⟩⟩⟩⟩⟩
set_option maxRecDepth 100000 in
set_option maxHeartbeats 4000000 in
theorem z_X3_become (E : q_X) (l : Launch) : q_Al (q_z E l RX3 cX3_become 2 none "become" 0) (P_X3_become) :=
  ⟨⟨s_aload_n (k0 := 0) (by decide +kernel) rfl, m_aload _ _⟩,
  ⟨⟨s_aload_n (k0 := 1) (by decide +kernel) rfl, m_aload _ _⟩,
  ⟨⟨s_getI (idx := 7) (ci := 3) (Cn := RX3) (Tn := TX3) (N := 4) (j := 0) (by decide +kernel) rfl iG_3 (by decide) gw_106 (Or.inl rfl), m_getI _ _ _⟩,
  ⟨⟨s_putI (idx := 7) (ci := 3) (Cn := RX3) (Tn := TX3) (N := 4) (j := 0) (by decide +kernel) rfl iG_3 (by decide) gw_106 tyX3 tyX3_ok nmX3 (Or.inl rfl) rfl rfl, m_putI _ _ _⟩,
  ⟨⟨s_aload_n (k0 := 0) (by decide +kernel) rfl, m_aload _ _⟩,
  ⟨⟨s_aload_n (k0 := 1) (by decide +kernel) rfl, m_aload _ _⟩,
  ⟨⟨s_getI (idx := 13) (ci := 3) (Cn := RX3) (Tn := TX3) (N := 4) (j := 1) (by decide +kernel) rfl iG_3 (by decide) gw_107 (Or.inl rfl), m_getI _ _ _⟩,
  ⟨⟨s_putI (idx := 13) (ci := 3) (Cn := RX3) (Tn := TX3) (N := 4) (j := 1) (by decide +kernel) rfl iG_3 (by decide) gw_107 tyX3 tyX3_ok nmX3 (Or.inl rfl) rfl rfl, m_putI _ _ _⟩,
  ⟨⟨s_aload_n (k0 := 0) (by decide +kernel) rfl, m_aload _ _⟩,
  ⟨⟨s_aload_n (k0 := 1) (by decide +kernel) rfl, m_aload _ _⟩,
  ⟨⟨s_getI (idx := 16) (ci := 3) (Cn := RX3) (Tn := TX3) (N := 4) (j := 2) (by decide +kernel) rfl iG_3 (by decide) gw_108 (Or.inl rfl), m_getI _ _ _⟩,
  ⟨⟨s_putI (idx := 16) (ci := 3) (Cn := RX3) (Tn := TX3) (N := 4) (j := 2) (by decide +kernel) rfl iG_3 (by decide) gw_108 tyX3 tyX3_ok nmX3 (Or.inl rfl) rfl rfl, m_putI _ _ _⟩,
  ⟨⟨s_aload_n (k0 := 0) (by decide +kernel) rfl, m_aload _ _⟩,
  ⟨⟨s_aload_n (k0 := 1) (by decide +kernel) rfl, m_aload _ _⟩,
  ⟨⟨s_getI (idx := 19) (ci := 3) (Cn := RX3) (Tn := TX3) (N := 4) (j := 3) (by decide +kernel) rfl iG_3 (by decide) gw_109 (Or.inr rfl), m_getI _ _ _⟩,
  ⟨⟨s_putZ (idx := 19) (ci := 3) (Cn := RX3) (Tn := TX3) (N := 4) (j := 3) (by decide +kernel) rfl iG_3 (by decide) gw_109 tyX3 tyX3_ok nmX3 (Or.inl rfl) rfl rfl, m_putZ _ _ _⟩,
  ⟨⟨s_vreturn (by decide +kernel) rfl, m_vret rfl⟩, trivial⟩⟩⟩⟩⟩⟩⟩⟩⟩⟩⟩⟩⟩⟩⟩⟩⟩
