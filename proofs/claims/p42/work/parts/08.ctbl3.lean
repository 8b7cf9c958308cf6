/-! PART 99b3 -/
set_option maxRecDepth 20000 in
theorem wl_X70 : ∀ w ∈ wsX70, w ∈ lw_tbl := by decide +kernel
set_option maxRecDepth 20000 in
theorem wl_Jx4a65c0 : ∀ w ∈ wsJx4a65c0, w ∈ lw_tbl := by decide +kernel
set_option maxRecDepth 20000 in
theorem wl_X00 : ∀ w ∈ wsX00, w ∈ lw_tbl := by decide +kernel
set_option maxRecDepth 20000 in
theorem wl_X20 : ∀ w ∈ wsX20, w ∈ lw_tbl := by decide +kernel
set_option maxRecDepth 20000 in
theorem wl_X50 : ∀ w ∈ wsX50, w ∈ lw_tbl := by decide +kernel
set_option maxRecDepth 20000 in
theorem wl_X40 : ∀ w ∈ wsX40, w ∈ lw_tbl := by decide +kernel
set_option maxRecDepth 20000 in
theorem wl_X60 : ∀ w ∈ wsX60, w ∈ lw_tbl := by decide +kernel
set_option maxRecDepth 20000 in
theorem wl_X10 : ∀ w ∈ wsX10, w ∈ lw_tbl := by decide +kernel
set_option maxRecDepth 20000 in
theorem wl_X30 : ∀ w ∈ wsX30, w ∈ lw_tbl := by decide +kernel
set_option maxRecDepth 20000 in
theorem wl_J00 : ∀ w ∈ wsJ00, w ∈ lw_tbl := by decide +kernel
theorem wsL_law0_in : ∀ w ∈ wsL_law0, w ∈ lw_tbl := by
  unfold wsL_law0
  exact (zap (zap (zap (zap (zap (zap (zap (zap (zap (zap (zap (zap wl_1 (zap wl_2 (zap wl_3 (zap wl_4 (zap wl_5 (zap wl_6 (zap wl_7 (zap wl_8 (zap wl_9 (zap wl_10 (zap wl_11 (zap wl_12 (zap wl_13 (zap wl_14 (zap wl_15 (zap wl_16 (zap wl_17 (zap wl_18 (zap wl_19 (zap wl_20 (zap wl_21 (zap wl_22 (zap wl_23 (zap wl_24 (zap wl_25 (zap wl_26 (zap wl_27 (zap wl_28 (zap wl_29 (wl_30)))))))))))))))))))))))))))))) wl_X70) wl_Jx4a65c0) wl_X00) wl_X20) wl_X50) wl_X40) wl_X60) wl_X10) wl_X30) wl_J00) (fun _ h => absurd h List.not_mem_nil))
set_option maxRecDepth 20000 in
theorem wl_v0 : ∀ w ∈ (vx_atM "java/lang/ArrayIndexOutOfBoundsException" ["java/lang/IndexOutOfBoundsException", "java/lang/RuntimeException", "java/lang/Exception"]).filter goodWord, w ∈ lw_tbl := by decide +kernel
set_option maxRecDepth 20000 in
theorem wl_v1 : ∀ w ∈ (vx_atM "java/lang/ArithmeticException" ["java/lang/RuntimeException", "java/lang/Exception"]).filter goodWord, w ∈ lw_tbl := by decide +kernel
set_option maxRecDepth 20000 in
theorem wl_v2 : ∀ w ∈ (vx_atS RX7 318 "java/lang/IndexOutOfBoundsException" ["java/lang/RuntimeException", "java/lang/Exception"]).filter goodWord, w ∈ lw_tbl := by decide +kernel
set_option maxRecDepth 20000 in
theorem wl_v3 : ∀ w ∈ (vx_atS RX7 114 "java/util/NoSuchElementException" ["java/lang/RuntimeException", "java/lang/Exception"]).filter goodWord, w ∈ lw_tbl := by decide +kernel
set_option maxRecDepth 20000 in
theorem wl_v4 : ∀ w ∈ (vx_atS RX7 54 "java/lang/IllegalStateException" ["java/lang/RuntimeException", "java/lang/Exception"]).filter goodWord, w ∈ lw_tbl := by decide +kernel
set_option maxRecDepth 20000 in
theorem wl_v5 : ∀ w ∈ (vx_atS RX7 291 "java/lang/UnsupportedOperationException" ["java/lang/RuntimeException", "java/lang/Exception"]).filter goodWord, w ∈ lw_tbl := by decide +kernel
set_option maxRecDepth 20000 in
theorem wl_v6 : ∀ w ∈ (vx_atS RX7 89 "java/lang/IllegalArgumentException" ["java/lang/RuntimeException", "java/lang/Exception"]).filter goodWord, w ∈ lw_tbl := by decide +kernel
set_option maxRecDepth 20000 in
theorem wl_v7 : ∀ w ∈ (vx_atS RX7 120 "java/lang/ArithmeticException" ["java/lang/RuntimeException", "java/lang/Exception"]).filter goodWord, w ∈ lw_tbl := by decide +kernel
theorem wsL_law_in : ∀ w ∈ wsL_law, w ∈ lw_tbl := by
  unfold wsL_law
  exact (zap (zap (zap (zap (zap (zap (zap (zap wsL_law0_in wl_v0) wl_v1) wl_v2) wl_v3) wl_v4) wl_v5) wl_v6) wl_v7)
set_option maxRecDepth 20000 in
theorem wl_Jx000600 : ∀ w ∈ wsJx000600, w ∈ lw_tbl := by decide +kernel
