/-! words for the start -/
theorem ugI_0 : Cond.instantiable RX0 9 ∈ qG := gw_316
theorem ugI_1 : Cond.instantiable RX1 8 ∈ qG := gw_59
theorem ugI_2 : Cond.instantiable RX2 8 ∈ qG := gw_313
theorem ugI_3 : Cond.instantiable RX3 4 ∈ qG := gw_309
theorem ugI_4 : Cond.instantiable RX4 7 ∈ qG := gw_64
theorem ugI_5 : Cond.instantiable RX5 12 ∈ qG := gw_425
theorem ugI_6 : Cond.instantiable RX6 2 ∈ qG := gw_305
theorem ugI_7 : Cond.instantiable RX7 3 ∈ qG := gw_436
theorem ugI_8 : Cond.instantiable RX8 2 ∈ qG := gw_70
theorem ugI_9 : Cond.instantiable RX9 8 ∈ qG := gw_430
theorem ugI_10 : Cond.instantiable RX10 9 ∈ qG := gw_417
theorem ugI_11 : Cond.instantiable RX11 8 ∈ qG := gw_909
theorem ugI_12 : Cond.instantiable RX12 28 ∈ qG := gw_914
theorem ugA_int : Cond.arrayClass .int ∈ qG := gw_18
theorem ugA_bool : Cond.arrayClass .boolean ∈ qG := gw_699
theorem ugO_arr : Cond.arrayOver (.array .int) ∈ tables_1 := gt_2 (List.mem_of_getElem? (i := 118) rfl)
theorem ugO_0 : Cond.arrayOver (.object RX0) ∈ tables_1 := gt_1 (List.mem_of_getElem? (i := 39) rfl)
theorem ugO_2 : Cond.arrayOver (.object RX2) ∈ tables_1 := gt_1 (List.mem_of_getElem? (i := 37) rfl)
theorem ugO_3 : Cond.arrayOver (.object RX3) ∈ tables_1 := gt_1 (List.mem_of_getElem? (i := 35) rfl)
theorem ugO_7 : Cond.arrayOver (.object RX7) ∈ tables_1 := gt_2 (List.mem_of_getElem? (i := 148) rfl)
theorem ug_nest : ∀ x ∈ q_nM, Cond.methodLinkNest x.1 x.2.1 x.2.2.1 x.2.2.2 ∈ tables_1 := (List.forall_mem_cons.mpr ⟨gt_1 (List.mem_of_getElem? (i := 42) rfl), (List.forall_mem_cons.mpr ⟨gt_1 (List.mem_of_getElem? (i := 55) rfl), (List.forall_mem_cons.mpr ⟨gt_1 (List.mem_of_getElem? (i := 83) rfl), (List.forall_mem_cons.mpr ⟨gt_1 (List.mem_of_getElem? (i := 89) rfl), (List.forall_mem_cons.mpr ⟨gt_1 (List.mem_of_getElem? (i := 129) rfl), (List.forall_mem_cons.mpr ⟨gt_1 (List.mem_of_getElem? (i := 164) rfl), (List.forall_mem_cons.mpr ⟨gt_1 (List.mem_of_getElem? (i := 212) rfl), (List.forall_mem_cons.mpr ⟨gt_2 (List.mem_of_getElem? (i := 68) rfl), (List.forall_mem_cons.mpr ⟨gt_2 (List.mem_of_getElem? (i := 113) rfl), (List.forall_mem_cons.mpr ⟨gt_2 (List.mem_of_getElem? (i := 150) rfl), (fun _ h => absurd h List.not_mem_nil)⟩)⟩)⟩)⟩)⟩)⟩)⟩)⟩)⟩)⟩)
theorem ug_fnest : Cond.fieldLinkNest "FarDishes$Asking" 44 "FarDishes" "UNDER" "[I" "FarDishes" ∈ tables_1 := gt_3 (List.mem_of_getElem? (i := 223) rfl)
theorem ug_str : Cond.stringRef "FarDishes$Text" 81 "track,send,hear,both,far,shared,array,c,n,from,to,worth," ∈ tables_1 := gt_3 (List.mem_of_getElem? (i := 113) rfl)
theorem ug_ls_under : Cond.laysStatic "FarDishes" "UNDER" "[I" ∈ tables_1 := gt_3 (List.mem_of_getElem? (i := 224) rfl)
theorem ug_in_under : Cond.initialized "FarDishes" ∈ tables_1 := gt_1 (List.mem_of_getElem? (i := 1) rfl)
theorem ug_ls_compact : Cond.laysStatic "java/lang/String" "COMPACT_STRINGS" "Z" ∈ tables_1 := gt_3 (List.mem_of_getElem? (i := 123) rfl)
theorem ug_in_compact : Cond.initialized "java/lang/String" ∈ tables_1 := gt_1 (List.mem_of_getElem? (i := 15) rfl)
theorem ug_ls_fmt : Cond.laysStatic "jdk/internal/util/Preconditions" "SIOOBE_FORMATTER" "Ljava/util/function/BiFunction;" ∈ tables_1 := gt_3 (List.mem_of_getElem? (i := 139) rfl)
theorem ug_in_fmt : Cond.initialized "jdk/internal/util/Preconditions" ∈ tables_1 := gt_1 (List.mem_of_getElem? (i := 17) rfl)
