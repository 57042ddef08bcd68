theorem dL_law__0 : decode cL_law_ 0 = .ok (.new 8, 3) := by decide +kernel
theorem dL_law__3 : decode cL_law_ 3 = .ok (.dup, 1) := by decide +kernel
theorem dL_law__4 : decode cL_law_ 4 = .ok (.invokespecial 112, 3) := by decide +kernel
theorem dL_law__7 : decode cL_law_ 7 = .ok (.astore_n 1, 1) := by decide +kernel
theorem dL_law__8 : decode cL_law_ 8 = .ok (.new 113, 3) := by decide +kernel
theorem dL_law__11 : decode cL_law_ 11 = .ok (.dup, 1) := by decide +kernel
theorem dL_law__12 : decode cL_law_ 12 = .ok (.invokespecial 115, 3) := by decide +kernel
theorem dL_law__15 : decode cL_law_ 15 = .ok (.astore_n 2, 1) := by decide +kernel
theorem dL_law__16 : decode cL_law_ 16 = .ok (.iconst 1, 1) := by decide +kernel
theorem dL_law__17 : decode cL_law_ 17 = .ok (.newarray .long, 2) := by decide +kernel
theorem dL_law__19 : decode cL_law_ 19 = .ok (.astore_n 3, 1) := by decide +kernel
theorem dL_law__20 : decode cL_law_ 20 = .ok (.iconst 0, 1) := by decide +kernel
theorem dL_law__21 : decode cL_law_ 21 = .ok (.istore 4, 2) := by decide +kernel
theorem dL_law__23 : decode cL_law_ 23 = .ok (.iload 4, 2) := by decide +kernel
theorem dL_law__25 : decode cL_law_ 25 = .ok (.aload_n 0, 1) := by decide +kernel
theorem dL_law__26 : decode cL_law_ 26 = .ok (.arraylength, 1) := by decide +kernel
theorem dL_law__27 : decode cL_law_ 27 = .ok (.bipush 6, 2) := by decide +kernel
theorem dL_law__29 : decode cL_law_ 29 = .ok (.isub, 1) := by decide +kernel
theorem dL_law__30 : decode cL_law_ 30 = .ok (.if_icmp .gt 2460, 3) := by decide +kernel
theorem dL_law__33 : decode cL_law_ 33 = .ok (.aload_n 0, 1) := by decide +kernel
theorem dL_law__34 : decode cL_law_ 34 = .ok (.iload 4, 2) := by decide +kernel
theorem dL_law__36 : decode cL_law_ 36 = .ok (.iaload, 1) := by decide +kernel
theorem dL_law__37 : decode cL_law_ 37 = .ok (.bipush 63, 2) := by decide +kernel
theorem dL_law__39 : decode cL_law_ 39 = .ok (.iand, 1) := by decide +kernel
theorem dL_law__40 : decode cL_law_ 40 = .ok (.tableswitch 2444 0 40 #[180, 284, 352, 432, 505, 561, 574, 642, 710, 790, 858, 926, 1022, 1090, 1158, 1221, 1289, 1357, 1371, 1384, 1439, 1495, 1509, 1577, 1590, 1681, 1736, 1792, 1848, 1862, 1875, 1943, 2010, 2090, 2146, 2214, 2282, 2337, 2393, 2406, 2419], 180) := by decide +kernel
theorem dL_law__220 : decode cL_law_ 220 = .ok (.aload_n 1, 1) := by decide +kernel
theorem dL_law__221 : decode cL_law_ 221 = .ok (.aload_n 0, 1) := by decide +kernel
theorem dL_law__222 : decode cL_law_ 222 = .ok (.iload 4, 2) := by decide +kernel
theorem dL_law__224 : decode cL_law_ 224 = .ok (.iconst 1, 1) := by decide +kernel
theorem dL_law__225 : decode cL_law_ 225 = .ok (.iadd, 1) := by decide +kernel
theorem dL_law__226 : decode cL_law_ 226 = .ok (.iaload, 1) := by decide +kernel
theorem dL_law__227 : decode cL_law_ 227 = .ok (.aload_n 0, 1) := by decide +kernel
theorem dL_law__228 : decode cL_law_ 228 = .ok (.iload 4, 2) := by decide +kernel
theorem dL_law__230 : decode cL_law_ 230 = .ok (.iconst 2, 1) := by decide +kernel
theorem dL_law__231 : decode cL_law_ 231 = .ok (.iadd, 1) := by decide +kernel
theorem dL_law__232 : decode cL_law_ 232 = .ok (.iaload, 1) := by decide +kernel
theorem dL_law__233 : decode cL_law_ 233 = .ok (.aload_n 0, 1) := by decide +kernel
theorem dL_law__234 : decode cL_law_ 234 = .ok (.iload 4, 2) := by decide +kernel
theorem dL_law__236 : decode cL_law_ 236 = .ok (.iconst 3, 1) := by decide +kernel
theorem dL_law__237 : decode cL_law_ 237 = .ok (.iadd, 1) := by decide +kernel
theorem dL_law__238 : decode cL_law_ 238 = .ok (.iaload, 1) := by decide +kernel
theorem dL_law__239 : decode cL_law_ 239 = .ok (.aload_n 0, 1) := by decide +kernel
theorem dL_law__240 : decode cL_law_ 240 = .ok (.iload 4, 2) := by decide +kernel
theorem dL_law__242 : decode cL_law_ 242 = .ok (.iconst 4, 1) := by decide +kernel
theorem dL_law__243 : decode cL_law_ 243 = .ok (.iadd, 1) := by decide +kernel
theorem dL_law__244 : decode cL_law_ 244 = .ok (.iaload, 1) := by decide +kernel
theorem dL_law__245 : decode cL_law_ 245 = .ok (.aload_n 0, 1) := by decide +kernel
theorem dL_law__246 : decode cL_law_ 246 = .ok (.iload 4, 2) := by decide +kernel
theorem dL_law__248 : decode cL_law_ 248 = .ok (.iconst 5, 1) := by decide +kernel
theorem dL_law__249 : decode cL_law_ 249 = .ok (.iadd, 1) := by decide +kernel
theorem dL_law__250 : decode cL_law_ 250 = .ok (.iaload, 1) := by decide +kernel
theorem dL_law__251 : decode cL_law_ 251 = .ok (.aload_n 3, 1) := by decide +kernel
theorem dL_law__252 : decode cL_law_ 252 = .ok (.invokestatic 116, 3) := by decide +kernel
theorem dL_law__255 : decode cL_law_ 255 = .ok (.istore 5, 2) := by decide +kernel
theorem dL_law__257 : decode cL_law_ 257 = .ok (.aload_n 2, 1) := by decide +kernel
theorem dL_law__258 : decode cL_law_ 258 = .ok (.aload_n 0, 1) := by decide +kernel
theorem dL_law__259 : decode cL_law_ 259 = .ok (.iload 4, 2) := by decide +kernel
theorem dL_law__261 : decode cL_law_ 261 = .ok (.iconst 1, 1) := by decide +kernel
theorem dL_law__262 : decode cL_law_ 262 = .ok (.iadd, 1) := by decide +kernel
theorem dL_law__263 : decode cL_law_ 263 = .ok (.iaload, 1) := by decide +kernel
theorem dL_law__264 : decode cL_law_ 264 = .ok (.aload_n 0, 1) := by decide +kernel
theorem dL_law__265 : decode cL_law_ 265 = .ok (.iload 4, 2) := by decide +kernel
theorem dL_law__267 : decode cL_law_ 267 = .ok (.iconst 2, 1) := by decide +kernel
theorem dL_law__268 : decode cL_law_ 268 = .ok (.iadd, 1) := by decide +kernel
theorem dL_law__269 : decode cL_law_ 269 = .ok (.iaload, 1) := by decide +kernel
theorem dL_law__270 : decode cL_law_ 270 = .ok (.aload_n 0, 1) := by decide +kernel
theorem dL_law__271 : decode cL_law_ 271 = .ok (.iload 4, 2) := by decide +kernel
theorem dL_law__273 : decode cL_law_ 273 = .ok (.iconst 3, 1) := by decide +kernel
theorem dL_law__274 : decode cL_law_ 274 = .ok (.iadd, 1) := by decide +kernel
theorem dL_law__275 : decode cL_law_ 275 = .ok (.iaload, 1) := by decide +kernel
theorem dL_law__276 : decode cL_law_ 276 = .ok (.aload_n 0, 1) := by decide +kernel
theorem dL_law__277 : decode cL_law_ 277 = .ok (.iload 4, 2) := by decide +kernel
theorem dL_law__279 : decode cL_law_ 279 = .ok (.iconst 4, 1) := by decide +kernel
theorem dL_law__280 : decode cL_law_ 280 = .ok (.iadd, 1) := by decide +kernel
theorem dL_law__281 : decode cL_law_ 281 = .ok (.iaload, 1) := by decide +kernel
theorem dL_law__282 : decode cL_law_ 282 = .ok (.aload_n 0, 1) := by decide +kernel
theorem dL_law__283 : decode cL_law_ 283 = .ok (.iload 4, 2) := by decide +kernel
theorem dL_law__285 : decode cL_law_ 285 = .ok (.iconst 5, 1) := by decide +kernel
theorem dL_law__286 : decode cL_law_ 286 = .ok (.iadd, 1) := by decide +kernel
theorem dL_law__287 : decode cL_law_ 287 = .ok (.iaload, 1) := by decide +kernel
theorem dL_law__288 : decode cL_law_ 288 = .ok (.invokevirtual 121, 3) := by decide +kernel
theorem dL_law__291 : decode cL_law_ 291 = .ok (.istore 6, 2) := by decide +kernel
theorem dL_law__293 : decode cL_law_ 293 = .ok (.aload_n 2, 1) := by decide +kernel
theorem dL_law__294 : decode cL_law_ 294 = .ok (.invokevirtual 122, 3) := by decide +kernel
theorem dL_law__297 : decode cL_law_ 297 = .ok (.iload 5, 2) := by decide +kernel
theorem dL_law__299 : decode cL_law_ 299 = .ok (.if_icmp .eq 5, 3) := by decide +kernel
theorem dL_law__302 : decode cL_law_ 302 = .ok (.iconst 0, 1) := by decide +kernel
theorem dL_law__303 : decode cL_law_ 303 = .ok (.ireturn, 1) := by decide +kernel
theorem dL_law__304 : decode cL_law_ 304 = .ok (.iload 5, 2) := by decide +kernel
theorem dL_law__306 : decode cL_law_ 306 = .ok (.ifCond .ne 15, 3) := by decide +kernel
theorem dL_law__309 : decode cL_law_ 309 = .ok (.aload_n 3, 1) := by decide +kernel
theorem dL_law__310 : decode cL_law_ 310 = .ok (.iconst 0, 1) := by decide +kernel
theorem dL_law__311 : decode cL_law_ 311 = .ok (.laload, 1) := by decide +kernel
theorem dL_law__312 : decode cL_law_ 312 = .ok (.iload 6, 2) := by decide +kernel
theorem dL_law__314 : decode cL_law_ 314 = .ok (.i2l, 1) := by decide +kernel
theorem dL_law__315 : decode cL_law_ 315 = .ok (.lcmp, 1) := by decide +kernel
theorem dL_law__316 : decode cL_law_ 316 = .ok (.ifCond .eq 5, 3) := by decide +kernel
theorem dL_law__319 : decode cL_law_ 319 = .ok (.iconst 0, 1) := by decide +kernel
theorem dL_law__320 : decode cL_law_ 320 = .ok (.ireturn, 1) := by decide +kernel
theorem dL_law__321 : decode cL_law_ 321 = .ok (.goto 2163, 3) := by decide +kernel
theorem dL_law__324 : decode cL_law_ 324 = .ok (.aload_n 1, 1) := by decide +kernel
theorem dL_law__325 : decode cL_law_ 325 = .ok (.aload_n 0, 1) := by decide +kernel
theorem dL_law__326 : decode cL_law_ 326 = .ok (.iload 4, 2) := by decide +kernel
theorem dL_law__328 : decode cL_law_ 328 = .ok (.iconst 1, 1) := by decide +kernel
theorem dL_law__329 : decode cL_law_ 329 = .ok (.iadd, 1) := by decide +kernel
theorem dL_law__330 : decode cL_law_ 330 = .ok (.iaload, 1) := by decide +kernel
theorem dL_law__331 : decode cL_law_ 331 = .ok (.aload_n 0, 1) := by decide +kernel
theorem dL_law__332 : decode cL_law_ 332 = .ok (.iload 4, 2) := by decide +kernel
theorem dL_law__334 : decode cL_law_ 334 = .ok (.iconst 2, 1) := by decide +kernel
theorem dL_law__335 : decode cL_law_ 335 = .ok (.iadd, 1) := by decide +kernel
theorem dL_law__336 : decode cL_law_ 336 = .ok (.iaload, 1) := by decide +kernel
theorem dL_law__337 : decode cL_law_ 337 = .ok (.aload_n 3, 1) := by decide +kernel
theorem dL_law__338 : decode cL_law_ 338 = .ok (.invokestatic 126, 3) := by decide +kernel
theorem dL_law__341 : decode cL_law_ 341 = .ok (.istore 5, 2) := by decide +kernel
theorem dL_law__343 : decode cL_law_ 343 = .ok (.aload_n 2, 1) := by decide +kernel
theorem dL_law__344 : decode cL_law_ 344 = .ok (.aload_n 0, 1) := by decide +kernel
theorem dL_law__345 : decode cL_law_ 345 = .ok (.iload 4, 2) := by decide +kernel
theorem dL_law__347 : decode cL_law_ 347 = .ok (.iconst 1, 1) := by decide +kernel
theorem dL_law__348 : decode cL_law_ 348 = .ok (.iadd, 1) := by decide +kernel
theorem dL_law__349 : decode cL_law_ 349 = .ok (.iaload, 1) := by decide +kernel
theorem dL_law__350 : decode cL_law_ 350 = .ok (.aload_n 0, 1) := by decide +kernel
theorem dL_law__351 : decode cL_law_ 351 = .ok (.iload 4, 2) := by decide +kernel
theorem dL_law__353 : decode cL_law_ 353 = .ok (.iconst 2, 1) := by decide +kernel
theorem dL_law__354 : decode cL_law_ 354 = .ok (.iadd, 1) := by decide +kernel
theorem dL_law__355 : decode cL_law_ 355 = .ok (.iaload, 1) := by decide +kernel
theorem dL_law__356 : decode cL_law_ 356 = .ok (.invokevirtual 129, 3) := by decide +kernel
theorem dL_law__359 : decode cL_law_ 359 = .ok (.istore 6, 2) := by decide +kernel
theorem dL_law__361 : decode cL_law_ 361 = .ok (.aload_n 2, 1) := by decide +kernel
theorem dL_law__362 : decode cL_law_ 362 = .ok (.invokevirtual 122, 3) := by decide +kernel
theorem dL_law__365 : decode cL_law_ 365 = .ok (.iload 5, 2) := by decide +kernel
theorem dL_law__367 : decode cL_law_ 367 = .ok (.if_icmp .eq 5, 3) := by decide +kernel
theorem dL_law__370 : decode cL_law_ 370 = .ok (.iconst 0, 1) := by decide +kernel
theorem dL_law__371 : decode cL_law_ 371 = .ok (.ireturn, 1) := by decide +kernel
theorem dL_law__372 : decode cL_law_ 372 = .ok (.iload 5, 2) := by decide +kernel
theorem dL_law__374 : decode cL_law_ 374 = .ok (.ifCond .ne 15, 3) := by decide +kernel
theorem dL_law__377 : decode cL_law_ 377 = .ok (.aload_n 3, 1) := by decide +kernel
theorem dL_law__378 : decode cL_law_ 378 = .ok (.iconst 0, 1) := by decide +kernel
theorem dL_law__379 : decode cL_law_ 379 = .ok (.laload, 1) := by decide +kernel
theorem dL_law__380 : decode cL_law_ 380 = .ok (.iload 6, 2) := by decide +kernel
theorem dL_law__382 : decode cL_law_ 382 = .ok (.i2l, 1) := by decide +kernel
theorem dL_law__383 : decode cL_law_ 383 = .ok (.lcmp, 1) := by decide +kernel
theorem dL_law__384 : decode cL_law_ 384 = .ok (.ifCond .eq 5, 3) := by decide +kernel
theorem dL_law__387 : decode cL_law_ 387 = .ok (.iconst 0, 1) := by decide +kernel
theorem dL_law__388 : decode cL_law_ 388 = .ok (.ireturn, 1) := by decide +kernel
theorem dL_law__389 : decode cL_law_ 389 = .ok (.goto 2095, 3) := by decide +kernel
theorem dL_law__392 : decode cL_law_ 392 = .ok (.aload_n 1, 1) := by decide +kernel
theorem dL_law__393 : decode cL_law_ 393 = .ok (.aload_n 0, 1) := by decide +kernel
theorem dL_law__394 : decode cL_law_ 394 = .ok (.iload 4, 2) := by decide +kernel
theorem dL_law__396 : decode cL_law_ 396 = .ok (.iconst 1, 1) := by decide +kernel
theorem dL_law__397 : decode cL_law_ 397 = .ok (.iadd, 1) := by decide +kernel
