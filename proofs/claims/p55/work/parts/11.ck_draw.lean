/-! the entries of the law's two small classes are right -/
set_option maxRecDepth 100000 in
theorem ck_155 : okM 155 cod_155 = true := by decide +kernel
set_option maxRecDepth 100000 in
theorem ck_156 : okM 156 cod_156 = true := by decide +kernel
set_option maxRecDepth 100000 in
theorem ck_157 : okM 157 cod_157 = true := by decide +kernel
set_option maxRecDepth 100000 in
theorem ck_158 : okM 158 cod_158 = true := by decide +kernel
set_option maxRecDepth 100000 in
theorem ck_159 : okM 159 cod_159 = true := by decide +kernel
set_option maxRecDepth 100000 in
theorem ck_160 : okM 160 cod_160 = true := by decide +kernel
set_option maxRecDepth 100000 in
theorem ck_161 : okM 161 cod_161 = true := by decide +kernel
set_option maxRecDepth 100000 in
theorem ck_162 : okM 162 cod_162 = true := by decide +kernel
