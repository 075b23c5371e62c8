/-! the reference's entries are right -/
set_option maxRecDepth 100000 in
theorem ck_155 : okM 155 cod_155 = true := by decide +kernel
set_option maxRecDepth 100000 in
theorem ck_156 : okM 156 cod_156 = true := by decide +kernel
set_option maxRecDepth 100000 in
theorem ck_157 : okM 157 cod_157 = true := by decide +kernel
set_option maxRecDepth 100000 in
theorem ck_158 : okM 158 cod_158 = true := by decide +kernel
set_option maxRecDepth 100000 in
theorem ck_159 : okM 159 cod_159 = true := by decide +kernel
set_option maxRecDepth 100000 in
theorem ck_160 : okM 160 cod_160 = true := by decide +kernel
set_option maxRecDepth 100000 in
theorem ck_161 : okM 161 cod_161 = true := by decide +kernel
set_option maxRecDepth 100000 in
theorem ck_162 : okM 162 cod_162 = true := by decide +kernel
set_option maxRecDepth 100000 in
theorem ck_163 : okM 163 cod_163 = true := by decide +kernel
set_option maxRecDepth 100000 in
theorem ck_164 : okM 164 cod_164 = true := by decide +kernel
set_option maxRecDepth 100000 in
theorem ck_165 : okM 165 cod_165 = true := by decide +kernel
set_option maxRecDepth 100000 in
theorem ck_166 : okM 166 cod_166 = true := by decide +kernel
set_option maxRecDepth 100000 in
theorem ck_167 : okM 167 cod_167 = true := by decide +kernel
set_option maxRecDepth 100000 in
theorem ck_168 : okM 168 cod_168 = true := by decide +kernel
set_option maxRecDepth 100000 in
theorem ck_169 : okM 169 cod_169 = true := by decide +kernel
set_option maxRecDepth 100000 in
theorem ck_170 : okM 170 cod_170 = true := by decide +kernel
set_option maxRecDepth 100000 in
theorem ck_171 : okM 171 cod_171 = true := by decide +kernel
set_option maxRecDepth 100000 in
theorem ck_172 : okM 172 cod_172 = true := by decide +kernel
set_option maxRecDepth 100000 in
theorem ck_173 : okM 173 cod_173 = true := by decide +kernel
set_option maxRecDepth 100000 in
theorem ck_174 : okM 174 cod_174 = true := by decide +kernel
set_option maxRecDepth 100000 in
theorem ck_175 : okM 175 cod_175 = true := by decide +kernel
set_option maxRecDepth 100000 in
theorem ck_176 : okM 176 cod_176 = true := by decide +kernel
set_option maxRecDepth 100000 in
theorem ck_177 : okM 177 cod_177 = true := by decide +kernel
set_option maxRecDepth 100000 in
theorem ck_178 : okM 178 cod_178 = true := by decide +kernel
set_option maxRecDepth 100000 in
theorem ck_179 : okM 179 cod_179 = true := by decide +kernel
set_option maxRecDepth 100000 in
theorem ck_180 : okM 180 cod_180 = true := by decide +kernel
set_option maxRecDepth 100000 in
theorem ck_181 : okM 181 cod_181 = true := by decide +kernel
set_option maxRecDepth 100000 in
theorem ck_182 : okM 182 cod_182 = true := by decide +kernel
set_option maxRecDepth 100000 in
theorem ck_183 : okM 183 cod_183 = true := by decide +kernel
set_option maxRecDepth 100000 in
theorem ck_184 : okM 184 cod_184 = true := by decide +kernel
set_option maxRecDepth 100000 in
theorem ck_185 : okM 185 cod_185 = true := by decide +kernel
set_option maxRecDepth 100000 in
theorem ck_186 : okM 186 cod_186 = true := by decide +kernel
set_option maxRecDepth 100000 in
theorem ck_187 : okM 187 cod_187 = true := by decide +kernel
set_option maxRecDepth 100000 in
theorem ck_188 : okM 188 cod_188 = true := by decide +kernel
set_option maxRecDepth 100000 in
theorem ck_189 : okM 189 cod_189 = true := by decide +kernel
set_option maxRecDepth 100000 in
theorem ck_190 : okM 190 cod_190 = true := by decide +kernel
set_option maxRecDepth 100000 in
theorem ck_191 : okM 191 cod_191 = true := by decide +kernel
set_option maxRecDepth 100000 in
theorem ck_192 : okM 192 cod_192 = true := by decide +kernel
set_option maxRecDepth 100000 in
theorem ck_193 : okM 193 cod_193 = true := by decide +kernel
set_option maxRecDepth 100000 in
theorem ck_194 : okM 194 cod_194 = true := by decide +kernel
set_option maxRecDepth 100000 in
theorem ck_195 : okM 195 cod_195 = true := by decide +kernel
set_option maxRecDepth 100000 in
theorem ck_196 : okM 196 cod_196 = true := by decide +kernel
set_option maxRecDepth 100000 in
theorem ck_197 : okM 197 cod_197 = true := by decide +kernel
set_option maxRecDepth 100000 in
theorem ck_198 : okM 198 cod_198 = true := by decide +kernel
set_option maxRecDepth 100000 in
theorem ck_199 : okM 199 cod_199 = true := by decide +kernel
set_option maxRecDepth 100000 in
theorem ck_200 : okM 200 cod_200 = true := by decide +kernel
set_option maxRecDepth 100000 in
theorem ck_201 : okM 201 cod_201 = true := by decide +kernel
set_option maxRecDepth 100000 in
theorem ck_202 : okM 202 cod_202 = true := by decide +kernel
set_option maxRecDepth 100000 in
theorem ck_203 : okM 203 cod_203 = true := by decide +kernel
set_option maxRecDepth 100000 in
theorem ck_204 : okM 204 cod_204 = true := by decide +kernel
set_option maxRecDepth 100000 in
theorem ck_205 : okM 205 cod_205 = true := by decide +kernel
set_option maxRecDepth 100000 in
theorem ck_206 : okM 206 cod_206 = true := by decide +kernel
set_option maxRecDepth 100000 in
theorem ck_207 : okM 207 cod_207 = true := by decide +kernel
set_option maxRecDepth 100000 in
theorem ck_208 : okM 208 cod_208 = true := by decide +kernel
set_option maxRecDepth 100000 in
theorem ck_209 : okM 209 cod_209 = true := by decide +kernel
set_option maxRecDepth 100000 in
theorem ck_210 : okM 210 cod_210 = true := by decide +kernel
set_option maxRecDepth 100000 in
theorem ck_211 : okM 211 cod_211 = true := by decide +kernel
set_option maxRecDepth 100000 in
theorem ck_212 : okM 212 cod_212 = true := by decide +kernel
set_option maxRecDepth 100000 in
theorem ck_213 : okM 213 cod_213 = true := by decide +kernel
set_option maxRecDepth 100000 in
theorem ck_214 : okM 214 cod_214 = true := by decide +kernel
set_option maxRecDepth 100000 in
theorem ck_215 : okM 215 cod_215 = true := by decide +kernel
set_option maxRecDepth 100000 in
theorem ck_216 : okM 216 cod_216 = true := by decide +kernel
set_option maxRecDepth 100000 in
theorem ck_217 : okM 217 cod_217 = true := by decide +kernel
set_option maxRecDepth 100000 in
theorem ck_218 : okM 218 cod_218 = true := by decide +kernel
set_option maxRecDepth 100000 in
theorem ck_219 : okM 219 cod_219 = true := by decide +kernel
set_option maxRecDepth 100000 in
theorem ck_220 : okM 220 cod_220 = true := by decide +kernel
set_option maxRecDepth 100000 in
theorem ck_221 : okM 221 cod_221 = true := by decide +kernel
set_option maxRecDepth 100000 in
theorem ck_222 : okM 222 cod_222 = true := by decide +kernel
set_option maxRecDepth 100000 in
theorem ck_223 : okM 223 cod_223 = true := by decide +kernel
set_option maxRecDepth 100000 in
theorem ck_224 : okM 224 cod_224 = true := by decide +kernel
set_option maxRecDepth 100000 in
theorem ck_225 : okM 225 cod_225 = true := by decide +kernel
set_option maxRecDepth 100000 in
theorem ck_226 : okM 226 cod_226 = true := by decide +kernel
set_option maxRecDepth 100000 in
theorem ck_227 : okM 227 cod_227 = true := by decide +kernel
set_option maxRecDepth 100000 in
theorem ck_228 : okM 228 cod_228 = true := by decide +kernel
set_option maxRecDepth 100000 in
theorem ck_229 : okM 229 cod_229 = true := by decide +kernel
set_option maxRecDepth 100000 in
theorem ck_230 : okM 230 cod_230 = true := by decide +kernel
set_option maxRecDepth 100000 in
theorem ck_231 : okM 231 cod_231 = true := by decide +kernel
set_option maxRecDepth 100000 in
theorem ck_232 : okM 232 cod_232 = true := by decide +kernel
set_option maxRecDepth 100000 in
theorem ck_233 : okM 233 cod_233 = true := by decide +kernel
set_option maxRecDepth 100000 in
theorem ck_234 : okM 234 cod_234 = true := by decide +kernel
set_option maxRecDepth 100000 in
theorem ck_235 : okM 235 cod_235 = true := by decide +kernel
set_option maxRecDepth 100000 in
theorem ck_236 : okM 236 cod_236 = true := by decide +kernel
set_option maxRecDepth 100000 in
theorem ck_237 : okM 237 cod_237 = true := by decide +kernel
set_option maxRecDepth 100000 in
theorem ck_238 : okM 238 cod_238 = true := by decide +kernel
set_option maxRecDepth 100000 in
theorem ck_239 : okM 239 cod_239 = true := by decide +kernel
set_option maxRecDepth 100000 in
theorem ck_240 : okM 240 cod_240 = true := by decide +kernel
set_option maxRecDepth 100000 in
theorem ck_241 : okM 241 cod_241 = true := by decide +kernel
set_option maxRecDepth 100000 in
theorem ck_242 : okM 242 cod_242 = true := by decide +kernel
set_option maxRecDepth 100000 in
theorem ck_243 : okM 243 cod_243 = true := by decide +kernel
set_option maxRecDepth 100000 in
theorem ck_244 : okM 244 cod_244 = true := by decide +kernel
set_option maxRecDepth 100000 in
theorem ck_245 : okM 245 cod_245 = true := by decide +kernel
set_option maxRecDepth 100000 in
theorem ck_246 : okM 246 cod_246 = true := by decide +kernel
set_option maxRecDepth 100000 in
theorem ck_247 : okM 247 cod_247 = true := by decide +kernel
set_option maxRecDepth 100000 in
theorem ck_248 : okM 248 cod_248 = true := by decide +kernel
set_option maxRecDepth 100000 in
theorem ck_249 : okM 249 cod_249 = true := by decide +kernel
