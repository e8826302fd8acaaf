def xb_8 : List Cond := vx_at0 RX8 34 "java/lang/IllegalStateException" ["java/lang/RuntimeException", "java/lang/Exception"]
def xb_11 : List Cond := vx_at0 RX11 222 "java/lang/ArrayIndexOutOfBoundsException" ["java/lang/IndexOutOfBoundsException", "java/lang/RuntimeException", "java/lang/Exception"]
theorem xb_8g : xb_8.all goodWord = true := by decide +kernel
theorem xb_11g : xb_11.all goodWord = true := by decide +kernel
theorem xb_8i : ∀ w ∈ xb_8, w ∈ lw_tbl := by decide +kernel
theorem xb_11i : ∀ w ∈ xb_11, w ∈ lw_tbl := by decide +kernel
theorem xb_8o : ∀ w ∈ Cond.classLink RX8 32 "java/lang/IllegalStateException" :: Cond.initialized "java/lang/IllegalStateException" :: xb_8, vx_ot w = true := by decide +kernel
theorem xb_11o : ∀ w ∈ Cond.classLink RX11 220 "java/lang/ArrayIndexOutOfBoundsException" :: Cond.initialized "java/lang/ArrayIndexOutOfBoundsException" :: xb_11, vx_ot w = true := by decide +kernel
