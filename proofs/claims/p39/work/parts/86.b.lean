/-! the law's loop: what a step does -/
theorem y243_d :
  (∀ (ls : zL) (st : zS) (h : zH), zx 243 123 ls st h = zgo 243 (zpure (.iload 12) 125 0 [] ls st h)) ∧
  (∀ (ls : zL) (st : zS) (h : zH), zx 243 125 ls st h = zgo 243 (zpure (.iconst 2) 126 0 [] ls st h)) ∧
  (∀ (ls : zL) (st : zS) (h : zH), zx 243 126 ls st h = zgo 243 (zpure (.if_icmp .ge 43) 129 169 [] ls st h)) ∧
  (∀ (ls : zL) (st : zS) (h : zH), zx 243 169 ls st h = zgo 243 (zpure (.iload 12) 171 0 [] ls st h)) ∧
  (∀ (ls : zL) (st : zS) (h : zH), zx 243 171 ls st h = zgo 243 (zpure (.iconst 4) 172 0 [] ls st h)) ∧
  (∀ (ls : zL) (st : zS) (h : zH), zx 243 172 ls st h = zgo 243 (zpure (.if_icmp .ge 43) 175 215 [] ls st h)) ∧
  (∀ (ls : zL) (st : zS) (h : zH), zx 243 215 ls st h = zgo 243 (zpure (.iload 12) 217 0 [] ls st h)) ∧
  (∀ (ls : zL) (st : zS) (h : zH), zx 243 217 ls st h = zgo 243 (zpure (.bipush 10) 219 0 [] ls st h)) ∧
  (∀ (ls : zL) (st : zS) (h : zH), zx 243 219 ls st h = zgo 243 (zpure (.if_icmp .ge 52) 222 271 [] ls st h)) ∧
  (∀ (ls : zL) (st : zS) (h : zH), zx 243 271 ls st h = zgo 243 (zpure (.iload 12) 273 0 [] ls st h)) ∧
  (∀ (ls : zL) (st : zS) (h : zH), zx 243 273 ls st h = zgo 243 (zpure (.bipush 11) 275 0 [] ls st h)) ∧
  (∀ (ls : zL) (st : zS) (h : zH), zx 243 275 ls st h = zgo 243 (zpure (.if_icmp .ge 19) 278 294 [] ls st h)) ∧
  (∀ (ls : zL) (st : zS) (h : zH), zx 243 294 ls st h = zgo 243 (zpure (.iload 12) 296 0 [] ls st h)) ∧
  (∀ (ls : zL) (st : zS) (h : zH), zx 243 296 ls st h = zgo 243 (zpure (.bipush 12) 298 0 [] ls st h)) ∧
  (∀ (ls : zL) (st : zS) (h : zH), zx 243 298 ls st h = zgo 243 (zpure (.if_icmp .ge 26) 301 324 [] ls st h)) ∧
  (∀ (ls : zL) (st : zS) (h : zH), zx 243 324 ls st h = zgo 243 (zpure (.iload 12) 326 0 [] ls st h)) ∧
  (∀ (ls : zL) (st : zS) (h : zH), zx 243 326 ls st h = zgo 243 (zpure (.bipush 14) 328 0 [] ls st h)) ∧
  (∀ (ls : zL) (st : zS) (h : zH), zx 243 328 ls st h = zgo 243 (zpure (.if_icmp .ge 26) 331 354 [] ls st h)) ∧
  (∀ (ls : zL) (st : zS) (h : zH), zx 243 354 ls st h = zgo 243 (zpure (.iload 12) 356 0 [] ls st h)) ∧
  (∀ (ls : zL) (st : zS) (h : zH), zx 243 356 ls st h = zgo 243 (zpure (.bipush 16) 358 0 [] ls st h)) ∧
  (∀ (ls : zL) (st : zS) (h : zH), zx 243 358 ls st h = zgo 243 (zpure (.if_icmp .ge 53) 361 411 [] ls st h)) ∧
  (∀ (ls : zL) (st : zS) (h : zH), zx 243 411 ls st h = zgo 243 (zpure (.iload 12) 413 0 [] ls st h)) ∧
  (∀ (ls : zL) (st : zS) (h : zH), zx 243 413 ls st h = zgo 243 (zpure (.bipush 17) 415 0 [] ls st h)) ∧
  (∀ (ls : zL) (st : zS) (h : zH), zx 243 415 ls st h = zgo 243 (zpure (.if_icmp .ge 24) 418 439 [] ls st h)) ∧
  (∀ (ls : zL) (st : zS) (h : zH), zx 243 439 ls st h = zgo 243 (zpure (.iload 12) 441 0 [] ls st h)) ∧
  (∀ (ls : zL) (st : zS) (h : zH), zx 243 441 ls st h = zgo 243 (zpure (.bipush 18) 443 0 [] ls st h)) ∧
  (∀ (ls : zL) (st : zS) (h : zH), zx 243 443 ls st h = zgo 243 (zpure (.if_icmp .ge 81) 446 524 [] ls st h)) :=
  ⟨zx_0 rfl, zx_0 rfl, zx_0 rfl, zx_0 rfl, zx_0 rfl, zx_0 rfl, zx_0 rfl, zx_0 rfl, zx_0 rfl, zx_0 rfl, zx_0 rfl, zx_0 rfl, zx_0 rfl, zx_0 rfl, zx_0 rfl, zx_0 rfl, zx_0 rfl, zx_0 rfl, zx_0 rfl, zx_0 rfl, zx_0 rfl, zx_0 rfl, zx_0 rfl, zx_0 rfl, zx_0 rfl, zx_0 rfl, zx_0 rfl⟩
theorem y243_4 :
  (∀ (ls : zL) (st : zS) (h : zH), zx 243 129 ls st h = zgo 243 (zpure (.aload_n 1) 130 0 [] ls st h)) ∧
  (∀ (ls : zL) (st : zS) (h : zH), zx 243 130 ls st h = zgo 243 (zpure (.bipush 30) 132 0 [] ls st h)) ∧
  (∀ (ls : zL) (st : zS) (h : zH), zx 243 132 ls st h = zgo 243 (zpure (.iconst 1) 133 0 [] ls st h)) ∧
  (∀ (ls : zL) (st : zS) (h : zH), zx 243 133 ls st h = zgo 243 (zpure (.iload 5) 135 0 [] ls st h)) ∧
  (∀ (ls : zL) (st : zS) (h : zH), zx 243 135 ls st h = zgo 243 (zpure (.bipush 25) 137 0 [] ls st h)) ∧
  (∀ (ls : zL) (st : zS) (h : zH), zx 243 137 ls st h = zgo 243 (zpure .irem 138 0 [] ls st h)) ∧
  (∀ (ls : zL) (st : zS) (h : zH), zx 243 138 ls st h = zgo 243 (zpure .iadd 139 0 [] ls st h)) ∧
  (∀ (ls : zL) (st : zS) (h : zH), zx 243 139 ls st h = zgo 243 (zpure .imul 140 0 [] ls st h)) ∧
  (∀ (ls : zL) (st : zS) (h : zH), zx 243 140 ls st h = zgo 243 (zpure (.iload 5) 142 0 [] ls st h)) ∧
  (∀ (ls : zL) (st : zS) (h : zH), zx 243 142 ls st h = zgo 243 (zpure (.bipush 25) 144 0 [] ls st h)) ∧
  (∀ (ls : zL) (st : zS) (h : zH), zx 243 144 ls st h = zgo 243 (zpure .idiv 145 0 [] ls st h)) ∧
  (∀ (ls : zL) (st : zS) (h : zH), zx 243 145 ls st h = zgo 243 (zpure (.bipush 60) 147 0 [] ls st h)) ∧
  (∀ (ls : zL) (st : zS) (h : zH), zx 243 147 ls st h = zgo 243 (zpure .irem 148 0 [] ls st h)) ∧
  (∀ (ls : zL) (st : zS) (h : zH), zx 243 148 ls st h = zgo 243 (zpure .ineg 149 0 [] ls st h)) ∧
  (∀ (ls : zL) (st : zS) (h : zH), zx 243 149 ls st h = zgo 243 (zpure (.iload 5) 151 0 [] ls st h)) ∧
  (∀ (ls : zL) (st : zS) (h : zH), zx 243 151 ls st h = zgo 243 (zpure (.sipush 1500) 154 0 [] ls st h)) ∧
  (∀ (ls : zL) (st : zS) (h : zH), zx 243 154 ls st h = zgo 243 (zpure .idiv 155 0 [] ls st h)) ∧
  (∀ (ls : zL) (st : zS) (h : zH), zx 243 155 ls st h = zgo 243 (zpure (.iconst 5) 156 0 [] ls st h)) ∧
  (∀ (ls : zL) (st : zS) (h : zH), zx 243 156 ls st h = zgo 243 (zpure .irem 157 0 [] ls st h)) ∧
  (∀ (ls : zL) (st : zS) (h : zH), zx 243 157 ls st h = zgo 243 (zpure (.iconst 0) 158 0 [] ls st h)) ∧
  (∀ (ls : zL) (st : zS) (h : zH), zx 243 158 ls st h = zgo 243 (zpure (.sipush 999) 161 0 [] ls st h)) ∧
  (∀ (ls : zL) (st : zS) (h : zH), zx 243 161 ls st h = zca 243 161 164 ls 222 7 0 (ztake 6 st) h) ∧
  (∀ (ls : zL) (st : zS) (h : zH), zx 243 164 ls st h = zgo 243 (zpure (.istore 11) 166 0 [] ls st h)) ∧
  (∀ (ls : zL) (st : zS) (h : zH), zx 243 166 ls st h = zgo 243 (zpure (.goto 386) 169 552 [] ls st h)) :=
  ⟨zx_0 rfl, zx_0 rfl, zx_0 rfl, zx_0 rfl, zx_0 rfl, zx_0 rfl, zx_0 rfl, zx_0 rfl, zx_0 rfl, zx_0 rfl, zx_0 rfl, zx_0 rfl, zx_0 rfl, zx_0 rfl, zx_0 rfl, zx_0 rfl, zx_0 rfl, zx_0 rfl, zx_0 rfl, zx_0 rfl, zx_0 rfl, zx_2c rfl, zx_0 rfl, zx_0 rfl⟩
theorem y243_5 :
  (∀ (ls : zL) (st : zS) (h : zH), zx 243 175 ls st h = zgo 243 (zpure (.aload_n 1) 176 0 [] ls st h)) ∧
  (∀ (ls : zL) (st : zS) (h : zH), zx 243 176 ls st h = zgo 243 (zpure (.bipush 15) 178 0 [] ls st h)) ∧
  (∀ (ls : zL) (st : zS) (h : zH), zx 243 178 ls st h = zgo 243 (zpure (.iconst 1) 179 0 [] ls st h)) ∧
  (∀ (ls : zL) (st : zS) (h : zH), zx 243 179 ls st h = zgo 243 (zpure (.iload 5) 181 0 [] ls st h)) ∧
  (∀ (ls : zL) (st : zS) (h : zH), zx 243 181 ls st h = zgo 243 (zpure (.bipush 25) 183 0 [] ls st h)) ∧
  (∀ (ls : zL) (st : zS) (h : zH), zx 243 183 ls st h = zgo 243 (zpure .irem 184 0 [] ls st h)) ∧
  (∀ (ls : zL) (st : zS) (h : zH), zx 243 184 ls st h = zgo 243 (zpure .iadd 185 0 [] ls st h)) ∧
  (∀ (ls : zL) (st : zS) (h : zH), zx 243 185 ls st h = zgo 243 (zpure .imul 186 0 [] ls st h)) ∧
  (∀ (ls : zL) (st : zS) (h : zH), zx 243 186 ls st h = zgo 243 (zpure (.iload 5) 188 0 [] ls st h)) ∧
  (∀ (ls : zL) (st : zS) (h : zH), zx 243 188 ls st h = zgo 243 (zpure (.bipush 25) 190 0 [] ls st h)) ∧
  (∀ (ls : zL) (st : zS) (h : zH), zx 243 190 ls st h = zgo 243 (zpure .idiv 191 0 [] ls st h)) ∧
  (∀ (ls : zL) (st : zS) (h : zH), zx 243 191 ls st h = zgo 243 (zpure (.bipush 60) 193 0 [] ls st h)) ∧
  (∀ (ls : zL) (st : zS) (h : zH), zx 243 193 ls st h = zgo 243 (zpure .irem 194 0 [] ls st h)) ∧
  (∀ (ls : zL) (st : zS) (h : zH), zx 243 194 ls st h = zgo 243 (zpure .ineg 195 0 [] ls st h)) ∧
  (∀ (ls : zL) (st : zS) (h : zH), zx 243 195 ls st h = zgo 243 (zpure (.iconst (-1)) 196 0 [] ls st h)) ∧
  (∀ (ls : zL) (st : zS) (h : zH), zx 243 196 ls st h = zgo 243 (zpure (.iload 5) 198 0 [] ls st h)) ∧
  (∀ (ls : zL) (st : zS) (h : zH), zx 243 198 ls st h = zgo 243 (zpure (.sipush 1500) 201 0 [] ls st h)) ∧
  (∀ (ls : zL) (st : zS) (h : zH), zx 243 201 ls st h = zgo 243 (zpure .idiv 202 0 [] ls st h)) ∧
  (∀ (ls : zL) (st : zS) (h : zH), zx 243 202 ls st h = zgo 243 (zpure (.iconst 2) 203 0 [] ls st h)) ∧
  (∀ (ls : zL) (st : zS) (h : zH), zx 243 203 ls st h = zgo 243 (zpure .irem 204 0 [] ls st h)) ∧
  (∀ (ls : zL) (st : zS) (h : zH), zx 243 204 ls st h = zgo 243 (zpure (.sipush 500) 207 0 [] ls st h)) ∧
  (∀ (ls : zL) (st : zS) (h : zH), zx 243 207 ls st h = zca 243 207 210 ls 222 7 0 (ztake 6 st) h) ∧
  (∀ (ls : zL) (st : zS) (h : zH), zx 243 210 ls st h = zgo 243 (zpure (.istore 11) 212 0 [] ls st h)) ∧
  (∀ (ls : zL) (st : zS) (h : zH), zx 243 212 ls st h = zgo 243 (zpure (.goto 340) 215 552 [] ls st h)) :=
  ⟨zx_0 rfl, zx_0 rfl, zx_0 rfl, zx_0 rfl, zx_0 rfl, zx_0 rfl, zx_0 rfl, zx_0 rfl, zx_0 rfl, zx_0 rfl, zx_0 rfl, zx_0 rfl, zx_0 rfl, zx_0 rfl, zx_0 rfl, zx_0 rfl, zx_0 rfl, zx_0 rfl, zx_0 rfl, zx_0 rfl, zx_0 rfl, zx_2c rfl, zx_0 rfl, zx_0 rfl⟩
theorem y243_6 :
  (∀ (ls : zL) (st : zS) (h : zH), zx 243 222 ls st h = zgo 243 (zpure (.aload_n 1) 223 0 [] ls st h)) ∧
  (∀ (ls : zL) (st : zS) (h : zH), zx 243 223 ls st h = zgo 243 (zpure (.iload 5) 225 0 [] ls st h)) ∧
  (∀ (ls : zL) (st : zS) (h : zH), zx 243 225 ls st h = zgo 243 (zpure (.aload_n 1) 226 0 [] ls st h)) ∧
  (∀ (ls : zL) (st : zS) (h : zH), zx 243 226 ls st h = zca 243 226 229 ls 51 1 6 (ztake 1 st) h) ∧
  (∀ (ls : zL) (st : zS) (h : zH), zx 243 229 ls st h = zgo 243 (zpure (.iconst 1) 230 0 [] ls st h)) ∧
  (∀ (ls : zL) (st : zS) (h : zH), zx 243 230 ls st h = zgo 243 (zpure .iadd 231 0 [] ls st h)) ∧
  (∀ (ls : zL) (st : zS) (h : zH), zx 243 231 ls st h = zgo 243 (zpure .irem 232 0 [] ls st h)) ∧
  (∀ (ls : zL) (st : zS) (h : zH), zx 243 232 ls st h = zgo 243 (zpure (.iload 5) 234 0 [] ls st h)) ∧
  (∀ (ls : zL) (st : zS) (h : zH), zx 243 234 ls st h = zgo 243 (zpure (.bipush 13) 236 0 [] ls st h)) ∧
  (∀ (ls : zL) (st : zS) (h : zH), zx 243 236 ls st h = zgo 243 (zpure .idiv 237 0 [] ls st h)) ∧
  (∀ (ls : zL) (st : zS) (h : zH), zx 243 237 ls st h = zgo 243 (zpure (.iload 6) 239 0 [] ls st h)) ∧
  (∀ (ls : zL) (st : zS) (h : zH), zx 243 239 ls st h = zgo 243 (zpure .irem 240 0 [] ls st h)) ∧
  (∀ (ls : zL) (st : zS) (h : zH), zx 243 240 ls st h = zgo 243 (zpure (.ldc 220) 253 0 [3, 5] ls st h)) ∧
  (∀ (ls : zL) (st : zS) (h : zH), zx 243 253 ls st h = zgo 243 (zpure (.iload 5) 255 0 [] ls st h)) ∧
  (∀ (ls : zL) (st : zS) (h : zH), zx 243 255 ls st h = zgo 243 (zpure (.sipush 624) 258 0 [] ls st h)) ∧
  (∀ (ls : zL) (st : zS) (h : zH), zx 243 258 ls st h = zgo 243 (zpure .idiv 259 0 [] ls st h)) ∧
  (∀ (ls : zL) (st : zS) (h : zH), zx 243 259 ls st h = zgo 243 (zpure (.sipush 3600) 262 0 [] ls st h)) ∧
  (∀ (ls : zL) (st : zS) (h : zH), zx 243 262 ls st h = zgo 243 (zpure .irem 263 0 [] ls st h)) ∧
  (∀ (ls : zL) (st : zS) (h : zH), zx 243 263 ls st h = zca 243 263 266 ls 224 6 0 (ztake 5 st) h) ∧
  (∀ (ls : zL) (st : zS) (h : zH), zx 243 266 ls st h = zgo 243 (zpure (.istore 11) 268 0 [] ls st h)) ∧
  (∀ (ls : zL) (st : zS) (h : zH), zx 243 268 ls st h = zgo 243 (zpure (.goto 284) 271 552 [] ls st h)) :=
  ⟨zx_0 rfl, zx_0 rfl, zx_0 rfl, zx_2c rfl, zx_0 rfl, zx_0 rfl, zx_0 rfl, zx_0 rfl, zx_0 rfl, zx_0 rfl, zx_0 rfl, zx_0 rfl, zx_0 rfl, zx_0 rfl, zx_0 rfl, zx_0 rfl, zx_0 rfl, zx_0 rfl, zx_2c rfl, zx_0 rfl, zx_0 rfl⟩
theorem y243_7 :
  (∀ (ls : zL) (st : zS) (h : zH), zx 243 278 ls st h = zgo 243 (zpure (.aload_n 1) 279 0 [] ls st h)) ∧
  (∀ (ls : zL) (st : zS) (h : zH), zx 243 279 ls st h = zgo 243 (zpure (.iload 5) 281 0 [] ls st h)) ∧
  (∀ (ls : zL) (st : zS) (h : zH), zx 243 281 ls st h = zgo 243 (zpure (.iload 7) 283 0 [] ls st h)) ∧
  (∀ (ls : zL) (st : zS) (h : zH), zx 243 283 ls st h = zgo 243 (zpure .irem 284 0 [] ls st h)) ∧
  (∀ (ls : zL) (st : zS) (h : zH), zx 243 284 ls st h = zgo 243 (zpure (.iconst 0) 285 0 [] ls st h)) ∧
  (∀ (ls : zL) (st : zS) (h : zH), zx 243 285 ls st h = zgo 243 (zpure (.iconst 0) 286 0 [] ls st h)) ∧
  (∀ (ls : zL) (st : zS) (h : zH), zx 243 286 ls st h = zca 243 286 289 ls 225 5 0 (ztake 4 st) h) ∧
  (∀ (ls : zL) (st : zS) (h : zH), zx 243 289 ls st h = zgo 243 (zpure (.istore 11) 291 0 [] ls st h)) ∧
  (∀ (ls : zL) (st : zS) (h : zH), zx 243 291 ls st h = zgo 243 (zpure (.goto 261) 294 552 [] ls st h)) :=
  ⟨zx_0 rfl, zx_0 rfl, zx_0 rfl, zx_0 rfl, zx_0 rfl, zx_0 rfl, zx_2c rfl, zx_0 rfl, zx_0 rfl⟩
theorem y243_8 :
  (∀ (ls : zL) (st : zS) (h : zH), zx 243 301 ls st h = zgo 243 (zpure (.aload_n 1) 302 0 [] ls st h)) ∧
  (∀ (ls : zL) (st : zS) (h : zH), zx 243 302 ls st h = zgo 243 (zpure (.iload 5) 304 0 [] ls st h)) ∧
  (∀ (ls : zL) (st : zS) (h : zH), zx 243 304 ls st h = zgo 243 (zpure (.iload 7) 306 0 [] ls st h)) ∧
  (∀ (ls : zL) (st : zS) (h : zH), zx 243 306 ls st h = zgo 243 (zpure .irem 307 0 [] ls st h)) ∧
  (∀ (ls : zL) (st : zS) (h : zH), zx 243 307 ls st h = zgo 243 (zpure (.iload 5) 309 0 [] ls st h)) ∧
  (∀ (ls : zL) (st : zS) (h : zH), zx 243 309 ls st h = zgo 243 (zpure (.bipush 12) 311 0 [] ls st h)) ∧
  (∀ (ls : zL) (st : zS) (h : zH), zx 243 311 ls st h = zgo 243 (zpure .idiv 312 0 [] ls st h)) ∧
  (∀ (ls : zL) (st : zS) (h : zH), zx 243 312 ls st h = zgo 243 (zpure (.iload 7) 314 0 [] ls st h)) ∧
  (∀ (ls : zL) (st : zS) (h : zH), zx 243 314 ls st h = zgo 243 (zpure .irem 315 0 [] ls st h)) ∧
  (∀ (ls : zL) (st : zS) (h : zH), zx 243 315 ls st h = zgo 243 (zpure (.iconst 1) 316 0 [] ls st h)) ∧
  (∀ (ls : zL) (st : zS) (h : zH), zx 243 316 ls st h = zca 243 316 319 ls 225 5 0 (ztake 4 st) h) ∧
  (∀ (ls : zL) (st : zS) (h : zH), zx 243 319 ls st h = zgo 243 (zpure (.istore 11) 321 0 [] ls st h)) ∧
  (∀ (ls : zL) (st : zS) (h : zH), zx 243 321 ls st h = zgo 243 (zpure (.goto 231) 324 552 [] ls st h)) :=
  ⟨zx_0 rfl, zx_0 rfl, zx_0 rfl, zx_0 rfl, zx_0 rfl, zx_0 rfl, zx_0 rfl, zx_0 rfl, zx_0 rfl, zx_0 rfl, zx_2c rfl, zx_0 rfl, zx_0 rfl⟩
theorem y243_9 :
  (∀ (ls : zL) (st : zS) (h : zH), zx 243 331 ls st h = zgo 243 (zpure (.aload_n 1) 332 0 [] ls st h)) ∧
  (∀ (ls : zL) (st : zS) (h : zH), zx 243 332 ls st h = zgo 243 (zpure (.iload 5) 334 0 [] ls st h)) ∧
  (∀ (ls : zL) (st : zS) (h : zH), zx 243 334 ls st h = zgo 243 (zpure (.iload 7) 336 0 [] ls st h)) ∧
  (∀ (ls : zL) (st : zS) (h : zH), zx 243 336 ls st h = zgo 243 (zpure .irem 337 0 [] ls st h)) ∧
  (∀ (ls : zL) (st : zS) (h : zH), zx 243 337 ls st h = zgo 243 (zpure (.iload 5) 339 0 [] ls st h)) ∧
  (∀ (ls : zL) (st : zS) (h : zH), zx 243 339 ls st h = zgo 243 (zpure (.bipush 12) 341 0 [] ls st h)) ∧
  (∀ (ls : zL) (st : zS) (h : zH), zx 243 341 ls st h = zgo 243 (zpure .idiv 342 0 [] ls st h)) ∧
  (∀ (ls : zL) (st : zS) (h : zH), zx 243 342 ls st h = zgo 243 (zpure (.sipush 950) 345 0 [] ls st h)) ∧
  (∀ (ls : zL) (st : zS) (h : zH), zx 243 345 ls st h = zgo 243 (zpure .irem 346 0 [] ls st h)) ∧
  (∀ (ls : zL) (st : zS) (h : zH), zx 243 346 ls st h = zca 243 346 349 ls 226 4 0 (ztake 3 st) h) ∧
  (∀ (ls : zL) (st : zS) (h : zH), zx 243 349 ls st h = zgo 243 (zpure (.istore 11) 351 0 [] ls st h)) ∧
  (∀ (ls : zL) (st : zS) (h : zH), zx 243 351 ls st h = zgo 243 (zpure (.goto 201) 354 552 [] ls st h)) :=
  ⟨zx_0 rfl, zx_0 rfl, zx_0 rfl, zx_0 rfl, zx_0 rfl, zx_0 rfl, zx_0 rfl, zx_0 rfl, zx_0 rfl, zx_2c rfl, zx_0 rfl, zx_0 rfl⟩
theorem y243_10 :
  (∀ (ls : zL) (st : zS) (h : zH), zx 243 361 ls st h = zgo 243 (zpure (.aload_n 1) 362 0 [] ls st h)) ∧
  (∀ (ls : zL) (st : zS) (h : zH), zx 243 362 ls st h = zgo 243 (zpure (.iload 5) 364 0 [] ls st h)) ∧
  (∀ (ls : zL) (st : zS) (h : zH), zx 243 364 ls st h = zgo 243 (zpure (.iload 7) 366 0 [] ls st h)) ∧
  (∀ (ls : zL) (st : zS) (h : zH), zx 243 366 ls st h = zgo 243 (zpure .irem 367 0 [] ls st h)) ∧
  (∀ (ls : zL) (st : zS) (h : zH), zx 243 367 ls st h = zgo 243 (zpure (.iload 5) 369 0 [] ls st h)) ∧
  (∀ (ls : zL) (st : zS) (h : zH), zx 243 369 ls st h = zgo 243 (zpure (.bipush 12) 371 0 [] ls st h)) ∧
  (∀ (ls : zL) (st : zS) (h : zH), zx 243 371 ls st h = zgo 243 (zpure .idiv 372 0 [] ls st h)) ∧
  (∀ (ls : zL) (st : zS) (h : zH), zx 243 372 ls st h = zgo 243 (zpure (.iconst 2) 373 0 [] ls st h)) ∧
  (∀ (ls : zL) (st : zS) (h : zH), zx 243 373 ls st h = zgo 243 (zpure .irem 374 0 [] ls st h)) ∧
  (∀ (ls : zL) (st : zS) (h : zH), zx 243 374 ls st h = zgo 243 (zpure (.ifCond .ne 8) 377 382 [] ls st h)) ∧
  (∀ (ls : zL) (st : zS) (h : zH), zx 243 377 ls st h = zgo 243 (zpure (.bipush 115) 379 0 [] ls st h)) ∧
  (∀ (ls : zL) (st : zS) (h : zH), zx 243 379 ls st h = zgo 243 (zpure (.goto 5) 382 384 [] ls st h)) ∧
  (∀ (ls : zL) (st : zS) (h : zH), zx 243 382 ls st h = zgo 243 (zpure (.bipush 101) 384 0 [] ls st h)) ∧
  (∀ (ls : zL) (st : zS) (h : zH), zx 243 384 ls st h = zgo 243 (zpure (.iload 5) 386 0 [] ls st h)) ∧
  (∀ (ls : zL) (st : zS) (h : zH), zx 243 386 ls st h = zgo 243 (zpure (.bipush 24) 388 0 [] ls st h)) ∧
  (∀ (ls : zL) (st : zS) (h : zH), zx 243 388 ls st h = zgo 243 (zpure .idiv 389 0 [] ls st h)) ∧
  (∀ (ls : zL) (st : zS) (h : zH), zx 243 389 ls st h = zgo 243 (zpure (.sipush 905) 392 0 [] ls st h)) ∧
  (∀ (ls : zL) (st : zS) (h : zH), zx 243 392 ls st h = zgo 243 (zpure .irem 393 0 [] ls st h)) ∧
  (∀ (ls : zL) (st : zS) (h : zH), zx 243 393 ls st h = zgo 243 (zpure (.iload 5) 395 0 [] ls st h)) ∧
  (∀ (ls : zL) (st : zS) (h : zH), zx 243 395 ls st h = zgo 243 (zpure (.sipush 900) 398 0 [] ls st h)) ∧
  (∀ (ls : zL) (st : zS) (h : zH), zx 243 398 ls st h = zgo 243 (zpure .idiv 399 0 [] ls st h)) ∧
  (∀ (ls : zL) (st : zS) (h : zH), zx 243 399 ls st h = zgo 243 (zpure (.sipush 200) 402 0 [] ls st h)) ∧
  (∀ (ls : zL) (st : zS) (h : zH), zx 243 402 ls st h = zgo 243 (zpure .irem 403 0 [] ls st h)) ∧
  (∀ (ls : zL) (st : zS) (h : zH), zx 243 403 ls st h = zca 243 403 406 ls 227 6 0 (ztake 5 st) h) ∧
  (∀ (ls : zL) (st : zS) (h : zH), zx 243 406 ls st h = zgo 243 (zpure (.istore 11) 408 0 [] ls st h)) ∧
  (∀ (ls : zL) (st : zS) (h : zH), zx 243 408 ls st h = zgo 243 (zpure (.goto 144) 411 552 [] ls st h)) :=
  ⟨zx_0 rfl, zx_0 rfl, zx_0 rfl, zx_0 rfl, zx_0 rfl, zx_0 rfl, zx_0 rfl, zx_0 rfl, zx_0 rfl, zx_0 rfl, zx_0 rfl, zx_0 rfl, zx_0 rfl, zx_0 rfl, zx_0 rfl, zx_0 rfl, zx_0 rfl, zx_0 rfl, zx_0 rfl, zx_0 rfl, zx_0 rfl, zx_0 rfl, zx_0 rfl, zx_2c rfl, zx_0 rfl, zx_0 rfl⟩
theorem y243_11 :
  (∀ (ls : zL) (st : zS) (h : zH), zx 243 418 ls st h = zgo 243 (zpure (.aload_n 1) 419 0 [] ls st h)) ∧
  (∀ (ls : zL) (st : zS) (h : zH), zx 243 419 ls st h = zgo 243 (zpure (.iload 5) 421 0 [] ls st h)) ∧
  (∀ (ls : zL) (st : zS) (h : zH), zx 243 421 ls st h = zgo 243 (zpure (.iload 6) 423 0 [] ls st h)) ∧
  (∀ (ls : zL) (st : zS) (h : zH), zx 243 423 ls st h = zgo 243 (zpure .irem 424 0 [] ls st h)) ∧
  (∀ (ls : zL) (st : zS) (h : zH), zx 243 424 ls st h = zgo 243 (zpure (.iload 5) 426 0 [] ls st h)) ∧
  (∀ (ls : zL) (st : zS) (h : zH), zx 243 426 ls st h = zgo 243 (zpure (.bipush 12) 428 0 [] ls st h)) ∧
  (∀ (ls : zL) (st : zS) (h : zH), zx 243 428 ls st h = zgo 243 (zpure .idiv 429 0 [] ls st h)) ∧
  (∀ (ls : zL) (st : zS) (h : zH), zx 243 429 ls st h = zgo 243 (zpure (.iconst 4) 430 0 [] ls st h)) ∧
  (∀ (ls : zL) (st : zS) (h : zH), zx 243 430 ls st h = zgo 243 (zpure .irem 431 0 [] ls st h)) ∧
  (∀ (ls : zL) (st : zS) (h : zH), zx 243 431 ls st h = zca 243 431 434 ls 223 4 0 (ztake 3 st) h) ∧
  (∀ (ls : zL) (st : zS) (h : zH), zx 243 434 ls st h = zgo 243 (zpure (.istore 11) 436 0 [] ls st h)) ∧
  (∀ (ls : zL) (st : zS) (h : zH), zx 243 436 ls st h = zgo 243 (zpure (.goto 116) 439 552 [] ls st h)) :=
  ⟨zx_0 rfl, zx_0 rfl, zx_0 rfl, zx_0 rfl, zx_0 rfl, zx_0 rfl, zx_0 rfl, zx_0 rfl, zx_0 rfl, zx_2c rfl, zx_0 rfl, zx_0 rfl⟩
/-- behind a step: as it was, or changed by an answer that is not below -1000 -/
def stp (L : Nat) (xs : Nat → Int32) (c n : Nat) (G : zD) (H1 : zH) (v : Int) : Prop := (-1000 ≤ v ∧ ∃ (c' : Nat) (G1 : zD), c' ≤ c + 1 ∧ St L xs c' n G1 H1) ∨ St L xs c n G H1
theorem stp.le {L : Nat} {xs : Nat → Int32} {c n m : Nat} {G : zD} {H1 : zH} {v : Int} (q : stp L xs c n G H1 v) (h : n ≤ m) : stp L xs c m G H1 v := by
  rcases q with ⟨q1, c', G1, q2, q3⟩ | q
  · exact Or.inl ⟨q1, c', G1, q2, q3.le h⟩
  · exact Or.inr (q.le h)
theorem wS.st {o : Option (zR × zH)} {L : Nat} {xs : Nat → Int32} {c n : Nat} {G : zD} {τ : Int} {P : zD → Int → Prop} (q : wS o L xs c n G τ P) : ∃ (v : Int) (H1 : zH), o = some (.inl (some (.int (Int32.ofInt v))), H1) ∧ (-1004 ≤ v ∧ v ≤ 100000) ∧ stp L xs c (n + 1) G H1 v := by
  obtain ⟨v, H1, e, ⟨-, hv, G1, p1, -⟩ | ⟨ht, hv, p1⟩⟩ := q
  · exact ⟨v, H1, e, ⟨by omega, by omega⟩, Or.inl ⟨hv.1, c + 1, G1, Nat.le_refl _, p1⟩⟩
  · exact ⟨v, H1, e, ⟨by omega, by omega⟩, Or.inr p1⟩
def lbR (L : Nat) (xs : Nat → Int32) (c n : Nat) (G : zD) (H : zH) (st k v w cl ev sw : Int) (bf : Int64) (kd : Int) (x13 x14 x15 : Option Value) : Prop := ∃ (its : Int) (y13 y14 y15 : Option Value) (H1 : zH), zx 243 123 (lwM st k v w cl ev sw bf 0 kd x13 x14 x15) [] H = zx 243 552 (lwM st k v w cl ev sw bf its kd y13 y14 y15) [] H1 ∧ (-1004 ≤ its ∧ its ≤ 100000) ∧ stp L xs c (n + 60) G H1 its
theorem md_r {w m : Int} (hm : 1 ≤ m) : ∃ r : Int, w - w / m * m = r ∧ 0 ≤ r ∧ r < m := by
  refine ⟨w % m, ?_, Int.emod_nonneg _ (by omega), Int.emod_lt_of_pos _ (by omega)⟩
  have := Int.emod_add_mul_ediv w m
  rw [Int.mul_comm] at this
  omega
theorem zfc_v (w : Int) : ∃ md : Int, zfc w = Int32.ofInt md ∧ 0 ≤ md ∧ md ≤ 65535 := by
  unfold zfc
  split
  · exact ⟨102, rfl, by omega, by omega⟩
  · split
    · exact ⟨99, rfl, by omega, by omega⟩
    · split
      · exact ⟨112, rfl, by omega, by omega⟩
      · exact ⟨106, rfl, by omega, by omega⟩
section WRP
variable {L : Nat} {xs : Nat → Int32} {c n : Nat} {G : zD} {H : zH} {st k v w cl ev sw kd : Int} {bf : Int64} {x13 x14 x15 : Option Value}
theorem z243_fc {md its : Int} {a1 a2 a3 : Value} (hw : 0 ≤ w ∧ w ≤ 5000000) (hm : zfc w = Int32.ofInt md) : zgo 243 (zpure (.ldc 220) 253 0 [3, 5] (lwM st k v w cl ev sw bf its kd x13 x14 x15) [a1, a2, a3] H) = zx 243 253 (lwM st k v w cl ev sw bf its kd x13 x14 x15) [.int (Int32.ofInt md), a1, a2, a3] H := by
  have e : (Int32.ofInt w).toInt = w := iI_t (by omega)
  rw [zg_ldc3 243 220 253 0 5 _ _ H (Int32.ofInt w) rfl (by rw [e]; exact hw.1) (Nat.le_refl _), e, hm]
set_option maxRecDepth 20000 in
set_option maxRecDepth 20000 in
theorem lb_1 (hw : 0 ≤ w ∧ w ≤ 5000000) (hkd : 0 ≤ kd ∧ kd < 2) (hc : c ≤ 80) (p : St L xs c n G H) : lbR L xs c n G H st k v w cl ev sw bf kd x13 x14 x15 := by
  obtain ⟨its, H1, e, b, s⟩ := (w222a (len := 30 * (1 + (w - w / 25 * 25))) (lev := -(w / 25 - w / 25 / 60 * 60)) (pl := w / 1500 - w / 1500 / 5 * 5) (fi := 0) (ld := 999) p hc ⟨by omega, by omega⟩ ⟨by omega, by omega⟩ ⟨by omega, by omega⟩ ⟨by omega, by omega⟩ ⟨by omega, by omega⟩ (by omega)).st
  refine ⟨its, x13, x14, x15, H1, ?_, b, s.le (by omega)⟩
  clear p s
  simp (disch := first | omega | (simp (disch := omega) only [zwr_s, zwr_a, zwr_i, zn_put, zn_new, zn_fil, zn_chg, zV_n]; omega)) only [zentry, zs0, zs1, zs2, zs3, zg_lo, zg_st, zg_st2, zg_ald, zg_ast, zs_ia, zs_i0, zg_ii, zi_max, zi_min, zi_abi, zi_abf, zi_fb, zi_bf, lget, lst, lst2, lc2, Option.map_some, zso, if_true, if_false, zc1, and_true, true_and, and_self, List.length_nil, List.length_cons, Nat.zero_le, reduceIte, reduceCtorEq, false_and, and_false, Bool.false_eq_true, zca_some, zr0, zr100, Option.bind_some, zb_none, zb_some, zrc, or_true, true_or, eq_self, ne_eq, not_true_eq_false, not_false_eq_true, zrt_i, zrt_zb, zrt_b, zrt_c, zrt_l, zrt_f, zrt_r, zrt_n, zrt_v, zft_0, zft_1, zft_zb, zft_3, zft_4, zft_5, zft_7r, zft_7n, iI_t, zb_i, zb_0, zb_1, Nat.reduceAdd, Nat.reduceLeDiff, Nat.reduceEqDiff, Nat.reduceSub, Int.reduceNeg, iI_add, iI_sub, iI_mul, iI_neg, zbz, zchar_id, zin, zwr_s, zwr_a, zwr_i, if_pos, if_neg, Int.toNat_natCast, Int.natCast_zero, Int.reduceToNat, y243_d, y243_4, zt6, e, zg_idiv, zg_irem, iI_z, iI_divn]
set_option maxRecDepth 20000 in
set_option maxRecDepth 20000 in
theorem lb_2 (hw : 0 ≤ w ∧ w ≤ 5000000) (hkd : 2 ≤ kd ∧ kd < 4) (hc : c ≤ 80) (p : St L xs c n G H) : lbR L xs c n G H st k v w cl ev sw bf kd x13 x14 x15 := by
  obtain ⟨its, H1, e, b, s⟩ := (w222b (len := 15 * (1 + (w - w / 25 * 25))) (lev := -(w / 25 - w / 25 / 60 * 60)) (pl := -1) (fi := w / 1500 - w / 1500 / 2 * 2) (ld := 500) p hc ⟨by omega, by omega⟩ ⟨by omega, by omega⟩ ⟨by omega, by omega⟩ ⟨by omega, by omega⟩ ⟨by omega, by omega⟩ (by omega)).st
  refine ⟨its, x13, x14, x15, H1, ?_, b, s.le (by omega)⟩
  clear p s
  simp (disch := first | omega | (simp (disch := omega) only [zwr_s, zwr_a, zwr_i, zn_put, zn_new, zn_fil, zn_chg, zV_n]; omega)) only [zentry, zs0, zs1, zs2, zs3, zg_lo, zg_st, zg_st2, zg_ald, zg_ast, zs_ia, zs_i0, zg_ii, zi_max, zi_min, zi_abi, zi_abf, zi_fb, zi_bf, lget, lst, lst2, lc2, Option.map_some, zso, if_true, if_false, zc1, and_true, true_and, and_self, List.length_nil, List.length_cons, Nat.zero_le, reduceIte, reduceCtorEq, false_and, and_false, Bool.false_eq_true, zca_some, zr0, zr100, Option.bind_some, zb_none, zb_some, zrc, or_true, true_or, eq_self, ne_eq, not_true_eq_false, not_false_eq_true, zrt_i, zrt_zb, zrt_b, zrt_c, zrt_l, zrt_f, zrt_r, zrt_n, zrt_v, zft_0, zft_1, zft_zb, zft_3, zft_4, zft_5, zft_7r, zft_7n, iI_t, zb_i, zb_0, zb_1, Nat.reduceAdd, Nat.reduceLeDiff, Nat.reduceEqDiff, Nat.reduceSub, Int.reduceNeg, iI_add, iI_sub, iI_mul, iI_neg, zbz, zchar_id, zin, zwr_s, zwr_a, zwr_i, if_pos, if_neg, Int.toNat_natCast, Int.natCast_zero, Int.reduceToNat, y243_d, y243_5, zt6, e, zg_idiv, zg_irem, iI_z, iI_divn]
set_option maxRecDepth 20000 in
set_option maxRecDepth 20000 in
theorem lb_3 (hw : 0 ≤ w ∧ w ≤ 5000000) (hcl : 1 ≤ cl ∧ cl ≤ 12) (hkd : 4 ≤ kd ∧ kd < 10) (hc : c ≤ 80) (p : St L xs c n G H) : lbR L xs c n G H st k v w cl ev sw bf kd x13 x14 x15 := by
  have b15 := p.G7.2.1
  obtain ⟨-, H0, e0, p0⟩ := p.x51
  obtain ⟨r1, he1, hr1⟩ := md_r (w := w) (m := G 32 15 + 1) (by omega)
  obtain ⟨r2, he2, hr2⟩ := md_r (w := w / 13) (m := cl) (by omega)
  obtain ⟨md, hm, hmd⟩ := zfc_v w
  obtain ⟨its, H1, e, b, s⟩ := (w224 (x := r1) (cl := r2) (md := md) (st := w / 624 - w / 624 / 3600 * 3600) p0 hc ⟨by omega, by omega⟩ ⟨by omega, by omega⟩ hmd ⟨by omega, by omega⟩).st
  refine ⟨its, x13, x14, x15, H1, ?_, b, s.le (by omega)⟩
  have k3 := p.k3
  clear p p0 s
  generalize G 32 15 = n15 at *
  simp (disch := first | omega | (simp (disch := omega) only [zwr_s, zwr_a, zwr_i, zn_put, zn_new, zn_fil, zn_chg, zV_n]; omega)) only [zentry, zs0, zs1, zs2, zs3, zg_lo, zg_st, zg_st2, zg_ald, zg_ast, zs_ia, zs_i0, zg_ii, zi_max, zi_min, zi_abi, zi_abf, zi_fb, zi_bf, lget, lst, lst2, lc2, Option.map_some, zso, if_true, if_false, zc1, and_true, true_and, and_self, List.length_nil, List.length_cons, Nat.zero_le, reduceIte, reduceCtorEq, false_and, and_false, Bool.false_eq_true, zca_some, zr0, zr100, Option.bind_some, zb_none, zb_some, zrc, or_true, true_or, eq_self, ne_eq, not_true_eq_false, not_false_eq_true, zrt_i, zrt_zb, zrt_b, zrt_c, zrt_l, zrt_f, zrt_r, zrt_n, zrt_v, zft_0, zft_1, zft_zb, zft_3, zft_4, zft_5, zft_7r, zft_7n, iI_t, zb_i, zb_0, zb_1, Nat.reduceAdd, Nat.reduceLeDiff, Nat.reduceEqDiff, Nat.reduceSub, Int.reduceNeg, iI_add, iI_sub, iI_mul, iI_neg, zbz, zchar_id, zin, zwr_s, zwr_a, zwr_i, if_pos, if_neg, Int.toNat_natCast, Int.natCast_zero, Int.reduceToNat, y243_d, y243_6, zt1, zt5, k3, e0, e, zg_idiv, zg_irem, iI_z, iI_divn, he1, he2, z243_fc hw hm]
set_option maxRecDepth 20000 in
set_option maxRecDepth 20000 in
theorem lb_4 (hw : 0 ≤ w ∧ w ≤ 5000000) (hev : 1 ≤ ev ∧ ev ≤ 12) (hkd : kd = 10) (hc : c ≤ 80) (p : St L xs c n G H) : lbR L xs c n G H st k v w cl ev sw bf kd x13 x14 x15 := by
  obtain ⟨r1, he1, hr1⟩ := md_r (w := w) (m := ev) (by omega)
  obtain ⟨its, H1, e, b, s⟩ := (w225a (x := r1) (t := 0) p hc ⟨by omega, by omega⟩ ⟨by omega, by omega⟩).st
  refine ⟨its, x13, x14, x15, H1, ?_, b, s.le (by omega)⟩
  clear p s
  simp (disch := first | omega | (simp (disch := omega) only [zwr_s, zwr_a, zwr_i, zn_put, zn_new, zn_fil, zn_chg, zV_n]; omega)) only [zentry, zs0, zs1, zs2, zs3, zg_lo, zg_st, zg_st2, zg_ald, zg_ast, zs_ia, zs_i0, zg_ii, zi_max, zi_min, zi_abi, zi_abf, zi_fb, zi_bf, lget, lst, lst2, lc2, Option.map_some, zso, if_true, if_false, zc1, and_true, true_and, and_self, List.length_nil, List.length_cons, Nat.zero_le, reduceIte, reduceCtorEq, false_and, and_false, Bool.false_eq_true, zca_some, zr0, zr100, Option.bind_some, zb_none, zb_some, zrc, or_true, true_or, eq_self, ne_eq, not_true_eq_false, not_false_eq_true, zrt_i, zrt_zb, zrt_b, zrt_c, zrt_l, zrt_f, zrt_r, zrt_n, zrt_v, zft_0, zft_1, zft_zb, zft_3, zft_4, zft_5, zft_7r, zft_7n, iI_t, zb_i, zb_0, zb_1, Nat.reduceAdd, Nat.reduceLeDiff, Nat.reduceEqDiff, Nat.reduceSub, Int.reduceNeg, iI_add, iI_sub, iI_mul, iI_neg, zbz, zchar_id, zin, zwr_s, zwr_a, zwr_i, if_pos, if_neg, Int.toNat_natCast, Int.natCast_zero, Int.reduceToNat, y243_d, y243_7, zt4, e, zg_idiv, zg_irem, iI_z, iI_divn, he1]
set_option maxRecDepth 20000 in
set_option maxRecDepth 20000 in
theorem lb_5 (hw : 0 ≤ w ∧ w ≤ 5000000) (hev : 1 ≤ ev ∧ ev ≤ 12) (hkd : kd = 11) (hc : c ≤ 80) (p : St L xs c n G H) : lbR L xs c n G H st k v w cl ev sw bf kd x13 x14 x15 := by
  obtain ⟨r1, he1, hr1⟩ := md_r (w := w) (m := ev) (by omega)
  obtain ⟨r2, he2, hr2⟩ := md_r (w := w / 12) (m := ev) (by omega)
  obtain ⟨its, H1, e, b, s⟩ := (w225b (x := r1) (t := r2) p hc ⟨by omega, by omega⟩ ⟨by omega, by omega⟩).st
  refine ⟨its, x13, x14, x15, H1, ?_, b, s.le (by omega)⟩
  clear p s
  simp (disch := first | omega | (simp (disch := omega) only [zwr_s, zwr_a, zwr_i, zn_put, zn_new, zn_fil, zn_chg, zV_n]; omega)) only [zentry, zs0, zs1, zs2, zs3, zg_lo, zg_st, zg_st2, zg_ald, zg_ast, zs_ia, zs_i0, zg_ii, zi_max, zi_min, zi_abi, zi_abf, zi_fb, zi_bf, lget, lst, lst2, lc2, Option.map_some, zso, if_true, if_false, zc1, and_true, true_and, and_self, List.length_nil, List.length_cons, Nat.zero_le, reduceIte, reduceCtorEq, false_and, and_false, Bool.false_eq_true, zca_some, zr0, zr100, Option.bind_some, zb_none, zb_some, zrc, or_true, true_or, eq_self, ne_eq, not_true_eq_false, not_false_eq_true, zrt_i, zrt_zb, zrt_b, zrt_c, zrt_l, zrt_f, zrt_r, zrt_n, zrt_v, zft_0, zft_1, zft_zb, zft_3, zft_4, zft_5, zft_7r, zft_7n, iI_t, zb_i, zb_0, zb_1, Nat.reduceAdd, Nat.reduceLeDiff, Nat.reduceEqDiff, Nat.reduceSub, Int.reduceNeg, iI_add, iI_sub, iI_mul, iI_neg, zbz, zchar_id, zin, zwr_s, zwr_a, zwr_i, if_pos, if_neg, Int.toNat_natCast, Int.natCast_zero, Int.reduceToNat, y243_d, y243_8, zt4, e, zg_idiv, zg_irem, iI_z, iI_divn, he1, he2]
set_option maxRecDepth 20000 in
set_option maxRecDepth 20000 in
theorem lb_6 (hw : 0 ≤ w ∧ w ≤ 5000000) (hev : 1 ≤ ev ∧ ev ≤ 12) (hkd : 12 ≤ kd ∧ kd < 14) (hc : c ≤ 80) (p : St L xs c n G H) : lbR L xs c n G H st k v w cl ev sw bf kd x13 x14 x15 := by
  obtain ⟨r1, he1, hr1⟩ := md_r (w := w) (m := ev) (by omega)
  obtain ⟨its, H1, e, b, s⟩ := (w226 (x := r1) (s := w / 12 - w / 12 / 950 * 950) p hc ⟨by omega, by omega⟩ ⟨by omega, by omega⟩).st
  refine ⟨its, x13, x14, x15, H1, ?_, b, s.le (by omega)⟩
  clear p s
  simp (disch := first | omega | (simp (disch := omega) only [zwr_s, zwr_a, zwr_i, zn_put, zn_new, zn_fil, zn_chg, zV_n]; omega)) only [zentry, zs0, zs1, zs2, zs3, zg_lo, zg_st, zg_st2, zg_ald, zg_ast, zs_ia, zs_i0, zg_ii, zi_max, zi_min, zi_abi, zi_abf, zi_fb, zi_bf, lget, lst, lst2, lc2, Option.map_some, zso, if_true, if_false, zc1, and_true, true_and, and_self, List.length_nil, List.length_cons, Nat.zero_le, reduceIte, reduceCtorEq, false_and, and_false, Bool.false_eq_true, zca_some, zr0, zr100, Option.bind_some, zb_none, zb_some, zrc, or_true, true_or, eq_self, ne_eq, not_true_eq_false, not_false_eq_true, zrt_i, zrt_zb, zrt_b, zrt_c, zrt_l, zrt_f, zrt_r, zrt_n, zrt_v, zft_0, zft_1, zft_zb, zft_3, zft_4, zft_5, zft_7r, zft_7n, iI_t, zb_i, zb_0, zb_1, Nat.reduceAdd, Nat.reduceLeDiff, Nat.reduceEqDiff, Nat.reduceSub, Int.reduceNeg, iI_add, iI_sub, iI_mul, iI_neg, zbz, zchar_id, zin, zwr_s, zwr_a, zwr_i, if_pos, if_neg, Int.toNat_natCast, Int.natCast_zero, Int.reduceToNat, y243_d, y243_9, zt3, e, zg_idiv, zg_irem, iI_z, iI_divn, he1]
set_option maxRecDepth 20000 in
set_option maxRecDepth 20000 in
theorem lb_7 (hw : 0 ≤ w ∧ w ≤ 5000000) (hev : 1 ≤ ev ∧ ev ≤ 12) (hkd : 14 ≤ kd ∧ kd < 16) (hc : c ≤ 80) (p : St L xs c n G H) : lbR L xs c n G H st k v w cl ev sw bf kd x13 x14 x15 := by
  obtain ⟨r1, he1, hr1⟩ := md_r (w := w) (m := ev) (by omega)
  by_cases g : w / 12 - w / 12 / 2 * 2 = 0
  · obtain ⟨its, H1, e, b, s⟩ := (w227 (x := r1) (sd := 115) (o := w / 24 - w / 24 / 905 * 905) (l := w / 900 - w / 900 / 200 * 200) p hc ⟨by omega, by omega⟩ ⟨by omega, by omega⟩ ⟨by omega, by omega⟩ ⟨by omega, by omega⟩).st
    refine ⟨its, x13, x14, x15, H1, ?_, b, s.le (by omega)⟩
    clear p s
    simp (disch := first | omega | (simp (disch := omega) only [zwr_s, zwr_a, zwr_i, zn_put, zn_new, zn_fil, zn_chg, zV_n]; omega)) only [zentry, zs0, zs1, zs2, zs3, zg_lo, zg_st, zg_st2, zg_ald, zg_ast, zs_ia, zs_i0, zg_ii, zi_max, zi_min, zi_abi, zi_abf, zi_fb, zi_bf, lget, lst, lst2, lc2, Option.map_some, zso, if_true, if_false, zc1, and_true, true_and, and_self, List.length_nil, List.length_cons, Nat.zero_le, reduceIte, reduceCtorEq, false_and, and_false, Bool.false_eq_true, zca_some, zr0, zr100, Option.bind_some, zb_none, zb_some, zrc, or_true, true_or, eq_self, ne_eq, not_true_eq_false, not_false_eq_true, zrt_i, zrt_zb, zrt_b, zrt_c, zrt_l, zrt_f, zrt_r, zrt_n, zrt_v, zft_0, zft_1, zft_zb, zft_3, zft_4, zft_5, zft_7r, zft_7n, iI_t, zb_i, zb_0, zb_1, Nat.reduceAdd, Nat.reduceLeDiff, Nat.reduceEqDiff, Nat.reduceSub, Int.reduceNeg, iI_add, iI_sub, iI_mul, iI_neg, zbz, zchar_id, zin, zwr_s, zwr_a, zwr_i, if_pos, if_neg, Int.toNat_natCast, Int.natCast_zero, Int.reduceToNat, y243_d, y243_10, zt5, e, zg_idiv, zg_irem, iI_z, iI_divn, he1]
  · obtain ⟨its, H1, e, b, s⟩ := (w227 (x := r1) (sd := 101) (o := w / 24 - w / 24 / 905 * 905) (l := w / 900 - w / 900 / 200 * 200) p hc ⟨by omega, by omega⟩ ⟨by omega, by omega⟩ ⟨by omega, by omega⟩ ⟨by omega, by omega⟩).st
    refine ⟨its, x13, x14, x15, H1, ?_, b, s.le (by omega)⟩
    clear p s
    simp (disch := first | omega | (simp (disch := omega) only [zwr_s, zwr_a, zwr_i, zn_put, zn_new, zn_fil, zn_chg, zV_n]; omega)) only [zentry, zs0, zs1, zs2, zs3, zg_lo, zg_st, zg_st2, zg_ald, zg_ast, zs_ia, zs_i0, zg_ii, zi_max, zi_min, zi_abi, zi_abf, zi_fb, zi_bf, lget, lst, lst2, lc2, Option.map_some, zso, if_true, if_false, zc1, and_true, true_and, and_self, List.length_nil, List.length_cons, Nat.zero_le, reduceIte, reduceCtorEq, false_and, and_false, Bool.false_eq_true, zca_some, zr0, zr100, Option.bind_some, zb_none, zb_some, zrc, or_true, true_or, eq_self, ne_eq, not_true_eq_false, not_false_eq_true, zrt_i, zrt_zb, zrt_b, zrt_c, zrt_l, zrt_f, zrt_r, zrt_n, zrt_v, zft_0, zft_1, zft_zb, zft_3, zft_4, zft_5, zft_7r, zft_7n, iI_t, zb_i, zb_0, zb_1, Nat.reduceAdd, Nat.reduceLeDiff, Nat.reduceEqDiff, Nat.reduceSub, Int.reduceNeg, iI_add, iI_sub, iI_mul, iI_neg, zbz, zchar_id, zin, zwr_s, zwr_a, zwr_i, if_pos, if_neg, Int.toNat_natCast, Int.natCast_zero, Int.reduceToNat, y243_d, y243_10, zt5, e, zg_idiv, zg_irem, iI_z, iI_divn, he1]
set_option maxRecDepth 20000 in
set_option maxRecDepth 20000 in
theorem lb_8 (hw : 0 ≤ w ∧ w ≤ 5000000) (hcl : 1 ≤ cl ∧ cl ≤ 12) (hkd : kd = 16) (hc : c ≤ 80) (p : St L xs c n G H) : lbR L xs c n G H st k v w cl ev sw bf kd x13 x14 x15 := by
  obtain ⟨r1, he1, hr1⟩ := md_r (w := w) (m := cl) (by omega)
  obtain ⟨its, H1, e, b, s⟩ := (w223b (x := r1) (m := w / 12 - w / 12 / 4 * 4) p hc ⟨by omega, by omega⟩ ⟨by omega, by omega⟩).st
  refine ⟨its, x13, x14, x15, H1, ?_, b, s.le (by omega)⟩
  clear p s
  simp (disch := first | omega | (simp (disch := omega) only [zwr_s, zwr_a, zwr_i, zn_put, zn_new, zn_fil, zn_chg, zV_n]; omega)) only [zentry, zs0, zs1, zs2, zs3, zg_lo, zg_st, zg_st2, zg_ald, zg_ast, zs_ia, zs_i0, zg_ii, zi_max, zi_min, zi_abi, zi_abf, zi_fb, zi_bf, lget, lst, lst2, lc2, Option.map_some, zso, if_true, if_false, zc1, and_true, true_and, and_self, List.length_nil, List.length_cons, Nat.zero_le, reduceIte, reduceCtorEq, false_and, and_false, Bool.false_eq_true, zca_some, zr0, zr100, Option.bind_some, zb_none, zb_some, zrc, or_true, true_or, eq_self, ne_eq, not_true_eq_false, not_false_eq_true, zrt_i, zrt_zb, zrt_b, zrt_c, zrt_l, zrt_f, zrt_r, zrt_n, zrt_v, zft_0, zft_1, zft_zb, zft_3, zft_4, zft_5, zft_7r, zft_7n, iI_t, zb_i, zb_0, zb_1, Nat.reduceAdd, Nat.reduceLeDiff, Nat.reduceEqDiff, Nat.reduceSub, Int.reduceNeg, iI_add, iI_sub, iI_mul, iI_neg, zbz, zchar_id, zin, zwr_s, zwr_a, zwr_i, if_pos, if_neg, Int.toNat_natCast, Int.natCast_zero, Int.reduceToNat, y243_d, y243_11, zt3, e, zg_idiv, zg_irem, iI_z, iI_divn, he1]
end WRP
