/-! the entries of the law's own small methods are right -/
set_option maxRecDepth 100000 in
theorem ck_165 : okM 165 cod_165 = true := by decide +kernel
set_option maxRecDepth 100000 in
theorem ck_166 : okM 166 cod_166 = true := by decide +kernel
set_option maxRecDepth 100000 in
theorem ck_167 : okM 167 cod_167 = true := by decide +kernel
set_option maxRecDepth 100000 in
theorem ck_168 : okM 168 cod_168 = true := by decide +kernel
set_option maxRecDepth 100000 in
theorem ck_169 : okM 169 cod_169 = true := by decide +kernel
set_option maxRecDepth 100000 in
theorem ck_170 : okM 170 cod_170 = true := by decide +kernel
set_option maxRecDepth 100000 in
theorem ck_171 : okM 171 cod_171 = true := by decide +kernel
set_option maxRecDepth 100000 in
theorem ck_172 : okM 172 cod_172 = true := by decide +kernel
set_option maxRecDepth 100000 in
theorem ck_173 : okM 173 cod_173 = true := by decide +kernel
set_option maxRecDepth 100000 in
theorem ck_174 : okM 174 cod_174 = true := by decide +kernel
set_option maxRecDepth 100000 in
theorem ck_175 : okM 175 cod_175 = true := by decide +kernel
set_option maxRecDepth 100000 in
theorem ck_176 : okM 176 cod_176 = true := by decide +kernel
