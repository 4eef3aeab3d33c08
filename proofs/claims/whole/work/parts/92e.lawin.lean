set_option maxRecDepth 20000 in
theorem inX11 : ∀ w ∈ wsX110, w ∈ lw_tbl := by decide +kernel
set_option maxRecDepth 20000 in
theorem inX12 : ∀ w ∈ wsX120, w ∈ lw_tbl := by decide +kernel
set_option maxRecDepth 20000 in
theorem inX9 : ∀ w ∈ wsX90, w ∈ lw_tbl := by decide +kernel
set_option maxRecDepth 20000 in
theorem inX0 : ∀ w ∈ wsX00, w ∈ lw_tbl := by decide +kernel
set_option maxRecDepth 20000 in
theorem inX8 : ∀ w ∈ wsX80, w ∈ lw_tbl := by decide +kernel
set_option maxRecDepth 20000 in
theorem inX3 : ∀ w ∈ wsX30, w ∈ lw_tbl := by decide +kernel
set_option maxRecDepth 20000 in
theorem inX5 : ∀ w ∈ wsX50, w ∈ lw_tbl := by decide +kernel
set_option maxRecDepth 20000 in
theorem inX10 : ∀ w ∈ wsX100, w ∈ lw_tbl := by decide +kernel
set_option maxRecDepth 20000 in
theorem inX7 : ∀ w ∈ wsX70, w ∈ lw_tbl := by decide +kernel
set_option maxRecDepth 20000 in
theorem inX1 : ∀ w ∈ wsX10, w ∈ lw_tbl := by decide +kernel
set_option maxRecDepth 20000 in
theorem inX6 : ∀ w ∈ wsX60, w ∈ lw_tbl := by decide +kernel
set_option maxRecDepth 20000 in
theorem inX2 : ∀ w ∈ wsX20, w ∈ lw_tbl := by decide +kernel
theorem wsL_law_in : ∀ w ∈ wsL_law, w ∈ lw_tbl := (List.forall_mem_append.mpr ⟨(List.forall_mem_append.mpr ⟨(List.forall_mem_append.mpr ⟨(List.forall_mem_append.mpr ⟨(List.forall_mem_append.mpr ⟨(List.forall_mem_append.mpr ⟨(List.forall_mem_append.mpr ⟨(List.forall_mem_append.mpr ⟨(List.forall_mem_append.mpr ⟨(List.forall_mem_append.mpr ⟨(List.forall_mem_append.mpr ⟨(List.forall_mem_append.mpr ⟨(List.forall_mem_append.mpr ⟨(List.forall_mem_append.mpr ⟨wsL_i1, (List.forall_mem_append.mpr ⟨wsL_i2, (List.forall_mem_append.mpr ⟨wsL_i3, (List.forall_mem_append.mpr ⟨wsL_i4, (List.forall_mem_append.mpr ⟨wsL_i5, (List.forall_mem_append.mpr ⟨wsL_i6, (List.forall_mem_append.mpr ⟨wsL_i7, (List.forall_mem_append.mpr ⟨wsL_i8, (List.forall_mem_append.mpr ⟨wsL_i9, (List.forall_mem_append.mpr ⟨wsL_i10, (List.forall_mem_append.mpr ⟨wsL_i11, (List.forall_mem_append.mpr ⟨wsL_i12, (List.forall_mem_append.mpr ⟨wsL_i13, (List.forall_mem_append.mpr ⟨wsL_i14, (List.forall_mem_append.mpr ⟨wsL_i15, (List.forall_mem_append.mpr ⟨wsL_i16, (List.forall_mem_append.mpr ⟨wsL_i17, (List.forall_mem_append.mpr ⟨wsL_i18, (List.forall_mem_append.mpr ⟨wsL_i19, (List.forall_mem_append.mpr ⟨wsL_i20, (List.forall_mem_append.mpr ⟨wsL_i21, (List.forall_mem_append.mpr ⟨wsL_i22, (List.forall_mem_append.mpr ⟨wsL_i23, (List.forall_mem_append.mpr ⟨wsL_i24, (List.forall_mem_append.mpr ⟨wsL_i25, (List.forall_mem_append.mpr ⟨wsL_i26, (List.forall_mem_append.mpr ⟨wsL_i27, (List.forall_mem_append.mpr ⟨wsL_i28, (List.forall_mem_append.mpr ⟨wsL_i29, (List.forall_mem_append.mpr ⟨wsL_i30, (List.forall_mem_append.mpr ⟨wsL_i31, (List.forall_mem_append.mpr ⟨wsL_i32, (List.forall_mem_append.mpr ⟨wsL_i33, (List.forall_mem_append.mpr ⟨wsL_i34, (List.forall_mem_append.mpr ⟨wsL_i35, (List.forall_mem_append.mpr ⟨wsL_i36, (List.forall_mem_append.mpr ⟨wsL_i37, (List.forall_mem_append.mpr ⟨wsL_i38, (List.forall_mem_append.mpr ⟨wsL_i39, (List.forall_mem_append.mpr ⟨wsL_i40, (List.forall_mem_append.mpr ⟨wsL_i41, (List.forall_mem_append.mpr ⟨wsL_i42, (List.forall_mem_append.mpr ⟨wsL_i43, wsL_i44⟩)⟩)⟩)⟩)⟩)⟩)⟩)⟩)⟩)⟩)⟩)⟩)⟩)⟩)⟩)⟩)⟩)⟩)⟩)⟩)⟩)⟩)⟩)⟩)⟩)⟩)⟩)⟩)⟩)⟩)⟩)⟩)⟩)⟩)⟩)⟩)⟩)⟩)⟩)⟩)⟩)⟩)⟩), inX11⟩), inX12⟩), inX9⟩), inX0⟩), inX8⟩), inX3⟩), inX5⟩), inX10⟩), inX7⟩), inX1⟩), inX6⟩), inX2⟩), fun _ h => absurd h List.not_mem_nil⟩)
