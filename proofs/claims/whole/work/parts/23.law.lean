/-! the law's loop, by program -/
theorem ix_ok {n : Nat} {i : Int} (k : Int) (hi : 0 ≤ i) (hin : i + 6 ≤ n) (hn : n ≤ 3072) (h0 : 0 ≤ k) (h6 : k < 6) : 0 ≤ w32 (i + k) ∧ w32 (i + k) < n := by
  rw [w32_of (by omega) (by omega)]; omega
def i32 (v : Int) : Prop := -2147483648 ≤ v ∧ v ≤ 2147483647
def b01 (v : Int) : Prop := v = 0 ∨ v = 1
theorem cmp_s (a : Int) : (if a < a then (1 : Int) else if a = a then 0 else -1) = 0 := by simp
theorem y212 : cdA 227 212 = some (.aload_n 1) := by decide +kernel
theorem y213 : cdA 227 213 = some (.aload_n 0) := by decide +kernel
theorem y214 : cdA 227 214 = some (.iload_n 3) := by decide +kernel
theorem y215 : cdA 227 215 = some (.iconst 1) := by decide +kernel
theorem y216 : cdA 227 216 = some (.iadd) := by decide +kernel
theorem y217 : cdA 227 217 = some (.iaload) := by decide +kernel
theorem y218 : cdA 227 218 = some (.aload_n 0) := by decide +kernel
theorem y219 : cdA 227 219 = some (.iload_n 3) := by decide +kernel
theorem y220 : cdA 227 220 = some (.iconst 2) := by decide +kernel
theorem y221 : cdA 227 221 = some (.iadd) := by decide +kernel
theorem y222 : cdA 227 222 = some (.iaload) := by decide +kernel
theorem y223 : cdA 227 223 = some (.aload_n 0) := by decide +kernel
theorem y224 : cdA 227 224 = some (.iload_n 3) := by decide +kernel
theorem y225 : cdA 227 225 = some (.iconst 3) := by decide +kernel
theorem y226 : cdA 227 226 = some (.iadd) := by decide +kernel
theorem y227 : cdA 227 227 = some (.iaload) := by decide +kernel
theorem y228 : cdA 227 228 = some (.invokevirtual 13) := by decide +kernel
theorem ym13 : mthR (moN 227) 13 = 83 := by decide +kernel
theorem yF80 : mF 80 3 4 true := by unfold mF; decide +kernel
theorem yK80 : ¬ mK 80 = 4 := by decide +kernel
theorem yS80 : SH0[0]? = some (.inl (moN 80)) := by decide +kernel
theorem yR80 : mK 80 = 0 := by decide +kernel
theorem y231 : cdA 227 231 = some (.aload_n 2) := by decide +kernel
theorem y232 : cdA 227 232 = some (.aload_n 0) := by decide +kernel
theorem y233 : cdA 227 233 = some (.iload_n 3) := by decide +kernel
theorem y234 : cdA 227 234 = some (.iconst 1) := by decide +kernel
theorem y235 : cdA 227 235 = some (.iadd) := by decide +kernel
theorem y236 : cdA 227 236 = some (.iaload) := by decide +kernel
theorem y237 : cdA 227 237 = some (.aload_n 0) := by decide +kernel
theorem y238 : cdA 227 238 = some (.iload_n 3) := by decide +kernel
theorem y239 : cdA 227 239 = some (.iconst 2) := by decide +kernel
theorem y240 : cdA 227 240 = some (.iadd) := by decide +kernel
theorem y241 : cdA 227 241 = some (.iaload) := by decide +kernel
theorem y242 : cdA 227 242 = some (.aload_n 0) := by decide +kernel
theorem y243 : cdA 227 243 = some (.iload_n 3) := by decide +kernel
theorem y244 : cdA 227 244 = some (.iconst 3) := by decide +kernel
theorem y245 : cdA 227 245 = some (.iadd) := by decide +kernel
theorem y246 : cdA 227 246 = some (.iaload) := by decide +kernel
theorem y247 : cdA 227 247 = some (.invokevirtual 17) := by decide +kernel
theorem ym17 : mthR (moN 227) 17 = 142 := by decide +kernel
theorem yF139 : mF 139 3 4 true := by unfold mF; decide +kernel
theorem yK139 : ¬ mK 139 = 4 := by decide +kernel
theorem yS139 : SH0[69]? = some (.inl (moN 139)) := by decide +kernel
theorem yR139 : mK 139 = 0 := by decide +kernel
theorem y250 : cdA 227 250 = some (.if_icmp .eq 1524) := by decide +kernel
theorem y255 : cdA 227 255 = some (.aload_n 1) := by decide +kernel
theorem y256 : cdA 227 256 = some (.aload_n 0) := by decide +kernel
theorem y257 : cdA 227 257 = some (.iload_n 3) := by decide +kernel
theorem y258 : cdA 227 258 = some (.iconst 1) := by decide +kernel
theorem y259 : cdA 227 259 = some (.iadd) := by decide +kernel
theorem y260 : cdA 227 260 = some (.iaload) := by decide +kernel
theorem y261 : cdA 227 261 = some (.aload_n 0) := by decide +kernel
theorem y262 : cdA 227 262 = some (.iload_n 3) := by decide +kernel
theorem y263 : cdA 227 263 = some (.iconst 2) := by decide +kernel
theorem y264 : cdA 227 264 = some (.iadd) := by decide +kernel
theorem y265 : cdA 227 265 = some (.iaload) := by decide +kernel
theorem y266 : cdA 227 266 = some (.invokevirtual 18) := by decide +kernel
theorem ym18 : mthR (moN 227) 18 = 84 := by decide +kernel
theorem yF81 : mF 81 2 3 true := by unfold mF; decide +kernel
theorem yK81 : ¬ mK 81 = 4 := by decide +kernel
theorem yS81 : SH0[0]? = some (.inl (moN 81)) := by decide +kernel
theorem yR81 : mK 81 = 0 := by decide +kernel
theorem y269 : cdA 227 269 = some (.aload_n 2) := by decide +kernel
theorem y270 : cdA 227 270 = some (.aload_n 0) := by decide +kernel
theorem y271 : cdA 227 271 = some (.iload_n 3) := by decide +kernel
theorem y272 : cdA 227 272 = some (.iconst 1) := by decide +kernel
theorem y273 : cdA 227 273 = some (.iadd) := by decide +kernel
theorem y274 : cdA 227 274 = some (.iaload) := by decide +kernel
theorem y275 : cdA 227 275 = some (.aload_n 0) := by decide +kernel
theorem y276 : cdA 227 276 = some (.iload_n 3) := by decide +kernel
theorem y277 : cdA 227 277 = some (.iconst 2) := by decide +kernel
theorem y278 : cdA 227 278 = some (.iadd) := by decide +kernel
theorem y279 : cdA 227 279 = some (.iaload) := by decide +kernel
theorem y280 : cdA 227 280 = some (.invokevirtual 22) := by decide +kernel
theorem ym22 : mthR (moN 227) 22 = 143 := by decide +kernel
theorem yF140 : mF 140 2 4 true := by unfold mF; decide +kernel
theorem yK140 : ¬ mK 140 = 4 := by decide +kernel
theorem yS140 : SH0[69]? = some (.inl (moN 140)) := by decide +kernel
theorem yR140 : mK 140 = 0 := by decide +kernel
theorem y283 : cdA 227 283 = some (.if_icmp .eq 1491) := by decide +kernel
theorem y288 : cdA 227 288 = some (.aload_n 1) := by decide +kernel
theorem y289 : cdA 227 289 = some (.aload_n 0) := by decide +kernel
theorem y290 : cdA 227 290 = some (.iload_n 3) := by decide +kernel
theorem y291 : cdA 227 291 = some (.iconst 1) := by decide +kernel
theorem y292 : cdA 227 292 = some (.iadd) := by decide +kernel
theorem y293 : cdA 227 293 = some (.iaload) := by decide +kernel
theorem y294 : cdA 227 294 = some (.aload_n 0) := by decide +kernel
theorem y295 : cdA 227 295 = some (.iload_n 3) := by decide +kernel
theorem y296 : cdA 227 296 = some (.iconst 2) := by decide +kernel
theorem y297 : cdA 227 297 = some (.iadd) := by decide +kernel
theorem y298 : cdA 227 298 = some (.iaload) := by decide +kernel
theorem y299 : cdA 227 299 = some (.invokevirtual 23) := by decide +kernel
theorem ym23 : mthR (moN 227) 23 = 85 := by decide +kernel
theorem yF82 : mF 82 2 3 true := by unfold mF; decide +kernel
theorem yK82 : ¬ mK 82 = 4 := by decide +kernel
theorem yS82 : SH0[0]? = some (.inl (moN 82)) := by decide +kernel
theorem yR82 : mK 82 = 0 := by decide +kernel
theorem y302 : cdA 227 302 = some (.aload_n 2) := by decide +kernel
theorem y303 : cdA 227 303 = some (.aload_n 0) := by decide +kernel
theorem y304 : cdA 227 304 = some (.iload_n 3) := by decide +kernel
theorem y305 : cdA 227 305 = some (.iconst 1) := by decide +kernel
theorem y306 : cdA 227 306 = some (.iadd) := by decide +kernel
theorem y307 : cdA 227 307 = some (.iaload) := by decide +kernel
theorem y308 : cdA 227 308 = some (.aload_n 0) := by decide +kernel
theorem y309 : cdA 227 309 = some (.iload_n 3) := by decide +kernel
theorem y310 : cdA 227 310 = some (.iconst 2) := by decide +kernel
theorem y311 : cdA 227 311 = some (.iadd) := by decide +kernel
theorem y312 : cdA 227 312 = some (.iaload) := by decide +kernel
theorem y313 : cdA 227 313 = some (.invokevirtual 26) := by decide +kernel
theorem ym26 : mthR (moN 227) 26 = 144 := by decide +kernel
theorem yF141 : mF 141 2 4 true := by unfold mF; decide +kernel
theorem yK141 : ¬ mK 141 = 4 := by decide +kernel
theorem yS141 : SH0[69]? = some (.inl (moN 141)) := by decide +kernel
theorem yR141 : mK 141 = 0 := by decide +kernel
theorem y316 : cdA 227 316 = some (.if_icmp .eq 1458) := by decide +kernel
theorem y321 : cdA 227 321 = some (.aload_n 1) := by decide +kernel
theorem y322 : cdA 227 322 = some (.aload_n 0) := by decide +kernel
theorem y323 : cdA 227 323 = some (.iload_n 3) := by decide +kernel
theorem y324 : cdA 227 324 = some (.iconst 1) := by decide +kernel
theorem y325 : cdA 227 325 = some (.iadd) := by decide +kernel
theorem y326 : cdA 227 326 = some (.iaload) := by decide +kernel
theorem y327 : cdA 227 327 = some (.aload_n 0) := by decide +kernel
theorem y328 : cdA 227 328 = some (.iload_n 3) := by decide +kernel
theorem y329 : cdA 227 329 = some (.iconst 2) := by decide +kernel
theorem y330 : cdA 227 330 = some (.iadd) := by decide +kernel
theorem y331 : cdA 227 331 = some (.iaload) := by decide +kernel
theorem y332 : cdA 227 332 = some (.aload_n 0) := by decide +kernel
theorem y333 : cdA 227 333 = some (.iload_n 3) := by decide +kernel
theorem y334 : cdA 227 334 = some (.iconst 3) := by decide +kernel
theorem y335 : cdA 227 335 = some (.iadd) := by decide +kernel
theorem y336 : cdA 227 336 = some (.iaload) := by decide +kernel
theorem y337 : cdA 227 337 = some (.ifCond .eq 7) := by decide +kernel
theorem y344 : cdA 227 344 = some (.iconst 0) := by decide +kernel
theorem y345 : cdA 227 345 = some (.aload_n 0) := by decide +kernel
theorem y346 : cdA 227 346 = some (.iload_n 3) := by decide +kernel
theorem y347 : cdA 227 347 = some (.iconst 4) := by decide +kernel
theorem y348 : cdA 227 348 = some (.iadd) := by decide +kernel
theorem y349 : cdA 227 349 = some (.iaload) := by decide +kernel
theorem y350 : cdA 227 350 = some (.invokevirtual 27) := by decide +kernel
theorem ym27 : mthR (moN 227) 27 = 86 := by decide +kernel
theorem yF83 : mF 83 4 5 true := by unfold mF; decide +kernel
theorem yK83 : ¬ mK 83 = 4 := by decide +kernel
theorem yS83 : SH0[0]? = some (.inl (moN 83)) := by decide +kernel
theorem yR83 : mK 83 = 0 := by decide +kernel
theorem y353 : cdA 227 353 = some (.aload_n 2) := by decide +kernel
theorem y354 : cdA 227 354 = some (.aload_n 0) := by decide +kernel
theorem y355 : cdA 227 355 = some (.iload_n 3) := by decide +kernel
theorem y356 : cdA 227 356 = some (.iconst 1) := by decide +kernel
theorem y357 : cdA 227 357 = some (.iadd) := by decide +kernel
theorem y358 : cdA 227 358 = some (.iaload) := by decide +kernel
theorem y359 : cdA 227 359 = some (.aload_n 0) := by decide +kernel
theorem y360 : cdA 227 360 = some (.iload_n 3) := by decide +kernel
theorem y361 : cdA 227 361 = some (.iconst 2) := by decide +kernel
theorem y362 : cdA 227 362 = some (.iadd) := by decide +kernel
theorem y363 : cdA 227 363 = some (.iaload) := by decide +kernel
theorem y364 : cdA 227 364 = some (.aload_n 0) := by decide +kernel
theorem y365 : cdA 227 365 = some (.iload_n 3) := by decide +kernel
theorem y366 : cdA 227 366 = some (.iconst 3) := by decide +kernel
theorem y367 : cdA 227 367 = some (.iadd) := by decide +kernel
theorem y368 : cdA 227 368 = some (.iaload) := by decide +kernel
theorem y369 : cdA 227 369 = some (.ifCond .eq 7) := by decide +kernel
theorem y376 : cdA 227 376 = some (.iconst 0) := by decide +kernel
theorem y377 : cdA 227 377 = some (.aload_n 0) := by decide +kernel
theorem y378 : cdA 227 378 = some (.iload_n 3) := by decide +kernel
theorem y379 : cdA 227 379 = some (.iconst 4) := by decide +kernel
theorem y380 : cdA 227 380 = some (.iadd) := by decide +kernel
theorem y381 : cdA 227 381 = some (.iaload) := by decide +kernel
theorem y382 : cdA 227 382 = some (.invokevirtual 31) := by decide +kernel
theorem ym31 : mthR (moN 227) 31 = 145 := by decide +kernel
theorem yF142 : mF 142 4 7 true := by unfold mF; decide +kernel
theorem yK142 : ¬ mK 142 = 4 := by decide +kernel
theorem yS142 : SH0[69]? = some (.inl (moN 142)) := by decide +kernel
theorem yR142 : mK 142 = 0 := by decide +kernel
theorem y385 : cdA 227 385 = some (.if_icmp .eq 1389) := by decide +kernel
theorem y340 : cdA 227 340 = some (.iconst 1) := by decide +kernel
theorem y341 : cdA 227 341 = some (.goto 4) := by decide +kernel
theorem y372 : cdA 227 372 = some (.iconst 1) := by decide +kernel
theorem y373 : cdA 227 373 = some (.goto 4) := by decide +kernel
theorem y390 : cdA 227 390 = some (.aload_n 1) := by decide +kernel
theorem y391 : cdA 227 391 = some (.aload_n 0) := by decide +kernel
theorem y392 : cdA 227 392 = some (.iload_n 3) := by decide +kernel
theorem y393 : cdA 227 393 = some (.iconst 1) := by decide +kernel
theorem y394 : cdA 227 394 = some (.iadd) := by decide +kernel
theorem y395 : cdA 227 395 = some (.iaload) := by decide +kernel
theorem y396 : cdA 227 396 = some (.aload_n 0) := by decide +kernel
theorem y397 : cdA 227 397 = some (.iload_n 3) := by decide +kernel
theorem y398 : cdA 227 398 = some (.iconst 2) := by decide +kernel
theorem y399 : cdA 227 399 = some (.iadd) := by decide +kernel
theorem y400 : cdA 227 400 = some (.iaload) := by decide +kernel
theorem y401 : cdA 227 401 = some (.invokevirtual 32) := by decide +kernel
theorem ym32 : mthR (moN 227) 32 = 87 := by decide +kernel
theorem yF84 : mF 84 2 3 true := by unfold mF; decide +kernel
theorem yK84 : ¬ mK 84 = 4 := by decide +kernel
theorem yS84 : SH0[0]? = some (.inl (moN 84)) := by decide +kernel
theorem yR84 : mK 84 = 0 := by decide +kernel
theorem y404 : cdA 227 404 = some (.aload_n 2) := by decide +kernel
theorem y405 : cdA 227 405 = some (.aload_n 0) := by decide +kernel
theorem y406 : cdA 227 406 = some (.iload_n 3) := by decide +kernel
theorem y407 : cdA 227 407 = some (.iconst 1) := by decide +kernel
theorem y408 : cdA 227 408 = some (.iadd) := by decide +kernel
theorem y409 : cdA 227 409 = some (.iaload) := by decide +kernel
theorem y410 : cdA 227 410 = some (.aload_n 0) := by decide +kernel
theorem y411 : cdA 227 411 = some (.iload_n 3) := by decide +kernel
theorem y412 : cdA 227 412 = some (.iconst 2) := by decide +kernel
theorem y413 : cdA 227 413 = some (.iadd) := by decide +kernel
theorem y414 : cdA 227 414 = some (.iaload) := by decide +kernel
theorem y415 : cdA 227 415 = some (.invokevirtual 35) := by decide +kernel
theorem ym35 : mthR (moN 227) 35 = 146 := by decide +kernel
theorem yF143 : mF 143 2 4 true := by unfold mF; decide +kernel
theorem yK143 : ¬ mK 143 = 4 := by decide +kernel
theorem yS143 : SH0[69]? = some (.inl (moN 143)) := by decide +kernel
theorem yR143 : mK 143 = 0 := by decide +kernel
theorem y418 : cdA 227 418 = some (.if_icmp .eq 1356) := by decide +kernel
theorem y423 : cdA 227 423 = some (.aload_n 1) := by decide +kernel
theorem y424 : cdA 227 424 = some (.aload_n 0) := by decide +kernel
theorem y425 : cdA 227 425 = some (.iload_n 3) := by decide +kernel
theorem y426 : cdA 227 426 = some (.iconst 1) := by decide +kernel
theorem y427 : cdA 227 427 = some (.iadd) := by decide +kernel
theorem y428 : cdA 227 428 = some (.iaload) := by decide +kernel
theorem y429 : cdA 227 429 = some (.aload_n 0) := by decide +kernel
theorem y430 : cdA 227 430 = some (.iload_n 3) := by decide +kernel
theorem y431 : cdA 227 431 = some (.iconst 2) := by decide +kernel
theorem y432 : cdA 227 432 = some (.iadd) := by decide +kernel
theorem y433 : cdA 227 433 = some (.iaload) := by decide +kernel
theorem y434 : cdA 227 434 = some (.invokevirtual 36) := by decide +kernel
theorem ym36 : mthR (moN 227) 36 = 88 := by decide +kernel
theorem yF85 : mF 85 2 4 true := by unfold mF; decide +kernel
theorem yK85 : ¬ mK 85 = 4 := by decide +kernel
theorem yS85 : SH0[0]? = some (.inl (moN 85)) := by decide +kernel
theorem yR85 : mK 85 = 0 := by decide +kernel
theorem y437 : cdA 227 437 = some (.aload_n 2) := by decide +kernel
theorem y438 : cdA 227 438 = some (.aload_n 0) := by decide +kernel
theorem y439 : cdA 227 439 = some (.iload_n 3) := by decide +kernel
theorem y440 : cdA 227 440 = some (.iconst 1) := by decide +kernel
theorem y441 : cdA 227 441 = some (.iadd) := by decide +kernel
theorem y442 : cdA 227 442 = some (.iaload) := by decide +kernel
theorem y443 : cdA 227 443 = some (.aload_n 0) := by decide +kernel
theorem y444 : cdA 227 444 = some (.iload_n 3) := by decide +kernel
theorem y445 : cdA 227 445 = some (.iconst 2) := by decide +kernel
theorem y446 : cdA 227 446 = some (.iadd) := by decide +kernel
theorem y447 : cdA 227 447 = some (.iaload) := by decide +kernel
theorem y448 : cdA 227 448 = some (.invokevirtual 39) := by decide +kernel
theorem ym39 : mthR (moN 227) 39 = 153 := by decide +kernel
theorem yF150 : mF 150 2 4 true := by unfold mF; decide +kernel
theorem yK150 : ¬ mK 150 = 4 := by decide +kernel
theorem yS150 : SH0[69]? = some (.inl (moN 150)) := by decide +kernel
theorem yR150 : mK 150 = 0 := by decide +kernel
theorem y451 : cdA 227 451 = some (.if_icmp .eq 1323) := by decide +kernel
theorem y456 : cdA 227 456 = some (.aload_n 1) := by decide +kernel
theorem y457 : cdA 227 457 = some (.aload_n 0) := by decide +kernel
theorem y458 : cdA 227 458 = some (.iload_n 3) := by decide +kernel
theorem y459 : cdA 227 459 = some (.iconst 1) := by decide +kernel
theorem y460 : cdA 227 460 = some (.iadd) := by decide +kernel
theorem y461 : cdA 227 461 = some (.iaload) := by decide +kernel
theorem y462 : cdA 227 462 = some (.aload_n 0) := by decide +kernel
theorem y463 : cdA 227 463 = some (.iload_n 3) := by decide +kernel
theorem y464 : cdA 227 464 = some (.iconst 2) := by decide +kernel
theorem y465 : cdA 227 465 = some (.iadd) := by decide +kernel
theorem y466 : cdA 227 466 = some (.iaload) := by decide +kernel
theorem y467 : cdA 227 467 = some (.aload_n 0) := by decide +kernel
theorem y468 : cdA 227 468 = some (.iload_n 3) := by decide +kernel
theorem y469 : cdA 227 469 = some (.iconst 3) := by decide +kernel
theorem y470 : cdA 227 470 = some (.iadd) := by decide +kernel
theorem y471 : cdA 227 471 = some (.iaload) := by decide +kernel
theorem y472 : cdA 227 472 = some (.invokevirtual 40) := by decide +kernel
theorem ym40 : mthR (moN 227) 40 = 89 := by decide +kernel
theorem yF86 : mF 86 3 4 true := by unfold mF; decide +kernel
theorem yK86 : ¬ mK 86 = 4 := by decide +kernel
theorem yS86 : SH0[0]? = some (.inl (moN 86)) := by decide +kernel
theorem yR86 : mK 86 = 0 := by decide +kernel
theorem y475 : cdA 227 475 = some (.aload_n 2) := by decide +kernel
theorem y476 : cdA 227 476 = some (.aload_n 0) := by decide +kernel
theorem y477 : cdA 227 477 = some (.iload_n 3) := by decide +kernel
theorem y478 : cdA 227 478 = some (.iconst 1) := by decide +kernel
theorem y479 : cdA 227 479 = some (.iadd) := by decide +kernel
theorem y480 : cdA 227 480 = some (.iaload) := by decide +kernel
theorem y481 : cdA 227 481 = some (.aload_n 0) := by decide +kernel
theorem y482 : cdA 227 482 = some (.iload_n 3) := by decide +kernel
theorem y483 : cdA 227 483 = some (.iconst 2) := by decide +kernel
theorem y484 : cdA 227 484 = some (.iadd) := by decide +kernel
theorem y485 : cdA 227 485 = some (.iaload) := by decide +kernel
theorem y486 : cdA 227 486 = some (.aload_n 0) := by decide +kernel
theorem y487 : cdA 227 487 = some (.iload_n 3) := by decide +kernel
theorem y488 : cdA 227 488 = some (.iconst 3) := by decide +kernel
theorem y489 : cdA 227 489 = some (.iadd) := by decide +kernel
theorem y490 : cdA 227 490 = some (.iaload) := by decide +kernel
theorem y491 : cdA 227 491 = some (.invokevirtual 43) := by decide +kernel
theorem ym43 : mthR (moN 227) 43 = 155 := by decide +kernel
theorem yF152 : mF 152 3 5 true := by unfold mF; decide +kernel
theorem yK152 : ¬ mK 152 = 4 := by decide +kernel
theorem yS152 : SH0[69]? = some (.inl (moN 152)) := by decide +kernel
theorem yR152 : mK 152 = 0 := by decide +kernel
theorem y494 : cdA 227 494 = some (.if_icmp .eq 1280) := by decide +kernel
theorem y499 : cdA 227 499 = some (.aload_n 1) := by decide +kernel
theorem y500 : cdA 227 500 = some (.aload_n 0) := by decide +kernel
theorem y501 : cdA 227 501 = some (.iload_n 3) := by decide +kernel
theorem y502 : cdA 227 502 = some (.iconst 1) := by decide +kernel
theorem y503 : cdA 227 503 = some (.iadd) := by decide +kernel
theorem y504 : cdA 227 504 = some (.iaload) := by decide +kernel
theorem y505 : cdA 227 505 = some (.aload_n 0) := by decide +kernel
theorem y506 : cdA 227 506 = some (.iload_n 3) := by decide +kernel
theorem y507 : cdA 227 507 = some (.iconst 2) := by decide +kernel
theorem y508 : cdA 227 508 = some (.iadd) := by decide +kernel
theorem y509 : cdA 227 509 = some (.iaload) := by decide +kernel
theorem y510 : cdA 227 510 = some (.aload_n 0) := by decide +kernel
theorem y511 : cdA 227 511 = some (.iload_n 3) := by decide +kernel
theorem y512 : cdA 227 512 = some (.iconst 3) := by decide +kernel
theorem y513 : cdA 227 513 = some (.iadd) := by decide +kernel
theorem y514 : cdA 227 514 = some (.iaload) := by decide +kernel
theorem y515 : cdA 227 515 = some (.invokevirtual 44) := by decide +kernel
theorem ym44 : mthR (moN 227) 44 = 90 := by decide +kernel
theorem yF87 : mF 87 3 4 true := by unfold mF; decide +kernel
theorem yK87 : ¬ mK 87 = 4 := by decide +kernel
theorem yS87 : SH0[0]? = some (.inl (moN 87)) := by decide +kernel
theorem yR87 : mK 87 = 0 := by decide +kernel
theorem y518 : cdA 227 518 = some (.aload_n 2) := by decide +kernel
theorem y519 : cdA 227 519 = some (.aload_n 0) := by decide +kernel
theorem y520 : cdA 227 520 = some (.iload_n 3) := by decide +kernel
theorem y521 : cdA 227 521 = some (.iconst 1) := by decide +kernel
theorem y522 : cdA 227 522 = some (.iadd) := by decide +kernel
theorem y523 : cdA 227 523 = some (.iaload) := by decide +kernel
theorem y524 : cdA 227 524 = some (.aload_n 0) := by decide +kernel
theorem y525 : cdA 227 525 = some (.iload_n 3) := by decide +kernel
theorem y526 : cdA 227 526 = some (.iconst 2) := by decide +kernel
theorem y527 : cdA 227 527 = some (.iadd) := by decide +kernel
theorem y528 : cdA 227 528 = some (.iaload) := by decide +kernel
theorem y529 : cdA 227 529 = some (.aload_n 0) := by decide +kernel
theorem y530 : cdA 227 530 = some (.iload_n 3) := by decide +kernel
theorem y531 : cdA 227 531 = some (.iconst 3) := by decide +kernel
theorem y532 : cdA 227 532 = some (.iadd) := by decide +kernel
theorem y533 : cdA 227 533 = some (.iaload) := by decide +kernel
theorem y534 : cdA 227 534 = some (.invokevirtual 47) := by decide +kernel
theorem ym47 : mthR (moN 227) 47 = 156 := by decide +kernel
theorem yF153 : mF 153 3 5 true := by unfold mF; decide +kernel
theorem yK153 : ¬ mK 153 = 4 := by decide +kernel
theorem yS153 : SH0[69]? = some (.inl (moN 153)) := by decide +kernel
theorem yR153 : mK 153 = 0 := by decide +kernel
theorem y537 : cdA 227 537 = some (.if_icmp .eq 1237) := by decide +kernel
theorem y542 : cdA 227 542 = some (.aload_n 1) := by decide +kernel
theorem y543 : cdA 227 543 = some (.aload_n 0) := by decide +kernel
theorem y544 : cdA 227 544 = some (.iload_n 3) := by decide +kernel
theorem y545 : cdA 227 545 = some (.iconst 1) := by decide +kernel
theorem y546 : cdA 227 546 = some (.iadd) := by decide +kernel
theorem y547 : cdA 227 547 = some (.iaload) := by decide +kernel
theorem y548 : cdA 227 548 = some (.aload_n 0) := by decide +kernel
theorem y549 : cdA 227 549 = some (.iload_n 3) := by decide +kernel
theorem y550 : cdA 227 550 = some (.iconst 2) := by decide +kernel
theorem y551 : cdA 227 551 = some (.iadd) := by decide +kernel
theorem y552 : cdA 227 552 = some (.iaload) := by decide +kernel
theorem y553 : cdA 227 553 = some (.ifCond .eq 7) := by decide +kernel
theorem y560 : cdA 227 560 = some (.iconst 0) := by decide +kernel
theorem y561 : cdA 227 561 = some (.invokevirtual 48) := by decide +kernel
theorem ym48 : mthR (moN 227) 48 = 91 := by decide +kernel
theorem yF88 : mF 88 2 3 true := by unfold mF; decide +kernel
theorem yK88 : ¬ mK 88 = 4 := by decide +kernel
theorem yS88 : SH0[0]? = some (.inl (moN 88)) := by decide +kernel
theorem yR88 : mK 88 = 0 := by decide +kernel
theorem y564 : cdA 227 564 = some (.aload_n 2) := by decide +kernel
theorem y565 : cdA 227 565 = some (.aload_n 0) := by decide +kernel
theorem y566 : cdA 227 566 = some (.iload_n 3) := by decide +kernel
theorem y567 : cdA 227 567 = some (.iconst 1) := by decide +kernel
theorem y568 : cdA 227 568 = some (.iadd) := by decide +kernel
theorem y569 : cdA 227 569 = some (.iaload) := by decide +kernel
theorem y570 : cdA 227 570 = some (.aload_n 0) := by decide +kernel
theorem y571 : cdA 227 571 = some (.iload_n 3) := by decide +kernel
theorem y572 : cdA 227 572 = some (.iconst 2) := by decide +kernel
theorem y573 : cdA 227 573 = some (.iadd) := by decide +kernel
theorem y574 : cdA 227 574 = some (.iaload) := by decide +kernel
theorem y575 : cdA 227 575 = some (.ifCond .eq 7) := by decide +kernel
theorem y582 : cdA 227 582 = some (.iconst 0) := by decide +kernel
theorem y583 : cdA 227 583 = some (.invokevirtual 52) := by decide +kernel
theorem ym52 : mthR (moN 227) 52 = 157 := by decide +kernel
theorem yF154 : mF 154 2 3 true := by unfold mF; decide +kernel
theorem yK154 : ¬ mK 154 = 4 := by decide +kernel
theorem yS154 : SH0[69]? = some (.inl (moN 154)) := by decide +kernel
theorem yR154 : mK 154 = 0 := by decide +kernel
theorem y586 : cdA 227 586 = some (.if_icmp .eq 1188) := by decide +kernel
theorem y556 : cdA 227 556 = some (.iconst 1) := by decide +kernel
theorem y557 : cdA 227 557 = some (.goto 4) := by decide +kernel
theorem y578 : cdA 227 578 = some (.iconst 1) := by decide +kernel
theorem y579 : cdA 227 579 = some (.goto 4) := by decide +kernel
theorem y591 : cdA 227 591 = some (.aload_n 1) := by decide +kernel
theorem y592 : cdA 227 592 = some (.aload_n 0) := by decide +kernel
theorem y593 : cdA 227 593 = some (.iload_n 3) := by decide +kernel
theorem y594 : cdA 227 594 = some (.iconst 1) := by decide +kernel
theorem y595 : cdA 227 595 = some (.iadd) := by decide +kernel
theorem y596 : cdA 227 596 = some (.iaload) := by decide +kernel
theorem y597 : cdA 227 597 = some (.aload_n 0) := by decide +kernel
theorem y598 : cdA 227 598 = some (.iload_n 3) := by decide +kernel
theorem y599 : cdA 227 599 = some (.iconst 2) := by decide +kernel
theorem y600 : cdA 227 600 = some (.iadd) := by decide +kernel
theorem y601 : cdA 227 601 = some (.iaload) := by decide +kernel
theorem y602 : cdA 227 602 = some (.invokevirtual 53) := by decide +kernel
theorem ym53 : mthR (moN 227) 53 = 92 := by decide +kernel
theorem yF89 : mF 89 2 3 true := by unfold mF; decide +kernel
theorem yK89 : ¬ mK 89 = 4 := by decide +kernel
theorem yS89 : SH0[0]? = some (.inl (moN 89)) := by decide +kernel
theorem yR89 : mK 89 = 0 := by decide +kernel
theorem y605 : cdA 227 605 = some (.aload_n 2) := by decide +kernel
theorem y606 : cdA 227 606 = some (.aload_n 0) := by decide +kernel
theorem y607 : cdA 227 607 = some (.iload_n 3) := by decide +kernel
theorem y608 : cdA 227 608 = some (.iconst 1) := by decide +kernel
theorem y609 : cdA 227 609 = some (.iadd) := by decide +kernel
theorem y610 : cdA 227 610 = some (.iaload) := by decide +kernel
theorem y611 : cdA 227 611 = some (.aload_n 0) := by decide +kernel
theorem y612 : cdA 227 612 = some (.iload_n 3) := by decide +kernel
theorem y613 : cdA 227 613 = some (.iconst 2) := by decide +kernel
theorem y614 : cdA 227 614 = some (.iadd) := by decide +kernel
theorem y615 : cdA 227 615 = some (.iaload) := by decide +kernel
theorem y616 : cdA 227 616 = some (.invokevirtual 56) := by decide +kernel
theorem ym56 : mthR (moN 227) 56 = 158 := by decide +kernel
theorem yF155 : mF 155 2 3 true := by unfold mF; decide +kernel
theorem yK155 : ¬ mK 155 = 4 := by decide +kernel
theorem yS155 : SH0[69]? = some (.inl (moN 155)) := by decide +kernel
theorem yR155 : mK 155 = 0 := by decide +kernel
theorem y619 : cdA 227 619 = some (.if_icmp .eq 1155) := by decide +kernel
theorem y624 : cdA 227 624 = some (.aload_n 1) := by decide +kernel
theorem y625 : cdA 227 625 = some (.aload_n 0) := by decide +kernel
theorem y626 : cdA 227 626 = some (.iload_n 3) := by decide +kernel
theorem y627 : cdA 227 627 = some (.iconst 1) := by decide +kernel
theorem y628 : cdA 227 628 = some (.iadd) := by decide +kernel
theorem y629 : cdA 227 629 = some (.iaload) := by decide +kernel
theorem y630 : cdA 227 630 = some (.aload_n 0) := by decide +kernel
theorem y631 : cdA 227 631 = some (.iload_n 3) := by decide +kernel
theorem y632 : cdA 227 632 = some (.iconst 2) := by decide +kernel
theorem y633 : cdA 227 633 = some (.iadd) := by decide +kernel
theorem y634 : cdA 227 634 = some (.iaload) := by decide +kernel
theorem y635 : cdA 227 635 = some (.ifCond .eq 7) := by decide +kernel
theorem y642 : cdA 227 642 = some (.iconst 0) := by decide +kernel
theorem y643 : cdA 227 643 = some (.invokevirtual 57) := by decide +kernel
theorem ym57 : mthR (moN 227) 57 = 93 := by decide +kernel
theorem yF90 : mF 90 2 3 true := by unfold mF; decide +kernel
theorem yK90 : ¬ mK 90 = 4 := by decide +kernel
theorem yS90 : SH0[0]? = some (.inl (moN 90)) := by decide +kernel
theorem yR90 : mK 90 = 0 := by decide +kernel
theorem y646 : cdA 227 646 = some (.aload_n 2) := by decide +kernel
theorem y647 : cdA 227 647 = some (.aload_n 0) := by decide +kernel
theorem y648 : cdA 227 648 = some (.iload_n 3) := by decide +kernel
theorem y649 : cdA 227 649 = some (.iconst 1) := by decide +kernel
theorem y650 : cdA 227 650 = some (.iadd) := by decide +kernel
theorem y651 : cdA 227 651 = some (.iaload) := by decide +kernel
theorem y652 : cdA 227 652 = some (.aload_n 0) := by decide +kernel
theorem y653 : cdA 227 653 = some (.iload_n 3) := by decide +kernel
theorem y654 : cdA 227 654 = some (.iconst 2) := by decide +kernel
theorem y655 : cdA 227 655 = some (.iadd) := by decide +kernel
theorem y656 : cdA 227 656 = some (.iaload) := by decide +kernel
theorem y657 : cdA 227 657 = some (.ifCond .eq 7) := by decide +kernel
theorem y664 : cdA 227 664 = some (.iconst 0) := by decide +kernel
theorem y665 : cdA 227 665 = some (.invokevirtual 60) := by decide +kernel
theorem ym60 : mthR (moN 227) 60 = 159 := by decide +kernel
theorem yF156 : mF 156 2 3 true := by unfold mF; decide +kernel
theorem yK156 : ¬ mK 156 = 4 := by decide +kernel
theorem yS156 : SH0[69]? = some (.inl (moN 156)) := by decide +kernel
theorem yR156 : mK 156 = 0 := by decide +kernel
theorem y668 : cdA 227 668 = some (.if_icmp .eq 1106) := by decide +kernel
theorem y638 : cdA 227 638 = some (.iconst 1) := by decide +kernel
theorem y639 : cdA 227 639 = some (.goto 4) := by decide +kernel
theorem y660 : cdA 227 660 = some (.iconst 1) := by decide +kernel
theorem y661 : cdA 227 661 = some (.goto 4) := by decide +kernel
theorem y673 : cdA 227 673 = some (.aload_n 1) := by decide +kernel
theorem y674 : cdA 227 674 = some (.aload_n 0) := by decide +kernel
theorem y675 : cdA 227 675 = some (.iload_n 3) := by decide +kernel
theorem y676 : cdA 227 676 = some (.iconst 1) := by decide +kernel
theorem y677 : cdA 227 677 = some (.iadd) := by decide +kernel
theorem y678 : cdA 227 678 = some (.iaload) := by decide +kernel
theorem y679 : cdA 227 679 = some (.aload_n 0) := by decide +kernel
theorem y680 : cdA 227 680 = some (.iload_n 3) := by decide +kernel
theorem y681 : cdA 227 681 = some (.iconst 2) := by decide +kernel
theorem y682 : cdA 227 682 = some (.iadd) := by decide +kernel
theorem y683 : cdA 227 683 = some (.iaload) := by decide +kernel
theorem y684 : cdA 227 684 = some (.invokevirtual 61) := by decide +kernel
theorem ym61 : mthR (moN 227) 61 = 94 := by decide +kernel
theorem yF91 : mF 91 2 3 true := by unfold mF; decide +kernel
theorem yK91 : ¬ mK 91 = 4 := by decide +kernel
theorem yS91 : SH0[0]? = some (.inl (moN 91)) := by decide +kernel
theorem yR91 : mK 91 = 0 := by decide +kernel
theorem y687 : cdA 227 687 = some (.aload_n 2) := by decide +kernel
theorem y688 : cdA 227 688 = some (.aload_n 0) := by decide +kernel
theorem y689 : cdA 227 689 = some (.iload_n 3) := by decide +kernel
theorem y690 : cdA 227 690 = some (.iconst 1) := by decide +kernel
theorem y691 : cdA 227 691 = some (.iadd) := by decide +kernel
theorem y692 : cdA 227 692 = some (.iaload) := by decide +kernel
theorem y693 : cdA 227 693 = some (.aload_n 0) := by decide +kernel
theorem y694 : cdA 227 694 = some (.iload_n 3) := by decide +kernel
theorem y695 : cdA 227 695 = some (.iconst 2) := by decide +kernel
theorem y696 : cdA 227 696 = some (.iadd) := by decide +kernel
theorem y697 : cdA 227 697 = some (.iaload) := by decide +kernel
theorem y698 : cdA 227 698 = some (.invokevirtual 64) := by decide +kernel
theorem ym64 : mthR (moN 227) 64 = 160 := by decide +kernel
theorem yF157 : mF 157 2 3 true := by unfold mF; decide +kernel
theorem yK157 : ¬ mK 157 = 4 := by decide +kernel
theorem yS157 : SH0[69]? = some (.inl (moN 157)) := by decide +kernel
theorem yR157 : mK 157 = 0 := by decide +kernel
theorem y701 : cdA 227 701 = some (.if_icmp .eq 1073) := by decide +kernel
theorem y706 : cdA 227 706 = some (.aload_n 1) := by decide +kernel
theorem y707 : cdA 227 707 = some (.aload_n 0) := by decide +kernel
theorem y708 : cdA 227 708 = some (.iload_n 3) := by decide +kernel
theorem y709 : cdA 227 709 = some (.iconst 1) := by decide +kernel
theorem y710 : cdA 227 710 = some (.iadd) := by decide +kernel
theorem y711 : cdA 227 711 = some (.iaload) := by decide +kernel
theorem y712 : cdA 227 712 = some (.invokevirtual 65) := by decide +kernel
theorem ym65 : mthR (moN 227) 65 = 95 := by decide +kernel
theorem yF92 : mF 92 1 2 true := by unfold mF; decide +kernel
theorem yK92 : ¬ mK 92 = 4 := by decide +kernel
theorem yS92 : SH0[0]? = some (.inl (moN 92)) := by decide +kernel
theorem yR92 : mK 92 = 0 := by decide +kernel
theorem y715 : cdA 227 715 = some (.aload_n 2) := by decide +kernel
theorem y716 : cdA 227 716 = some (.aload_n 0) := by decide +kernel
theorem y717 : cdA 227 717 = some (.iload_n 3) := by decide +kernel
theorem y718 : cdA 227 718 = some (.iconst 1) := by decide +kernel
theorem y719 : cdA 227 719 = some (.iadd) := by decide +kernel
theorem y720 : cdA 227 720 = some (.iaload) := by decide +kernel
theorem y721 : cdA 227 721 = some (.invokevirtual 69) := by decide +kernel
theorem ym69 : mthR (moN 227) 69 = 162 := by decide +kernel
theorem yF159 : mF 159 1 2 true := by unfold mF; decide +kernel
theorem yK159 : ¬ mK 159 = 4 := by decide +kernel
theorem yS159 : SH0[69]? = some (.inl (moN 159)) := by decide +kernel
theorem yR159 : mK 159 = 0 := by decide +kernel
theorem y724 : cdA 227 724 = some (.if_icmp .eq 1050) := by decide +kernel
theorem y729 : cdA 227 729 = some (.aload_n 1) := by decide +kernel
theorem y730 : cdA 227 730 = some (.aload_n 0) := by decide +kernel
theorem y731 : cdA 227 731 = some (.iload_n 3) := by decide +kernel
theorem y732 : cdA 227 732 = some (.iconst 1) := by decide +kernel
theorem y733 : cdA 227 733 = some (.iadd) := by decide +kernel
theorem y734 : cdA 227 734 = some (.iaload) := by decide +kernel
theorem y735 : cdA 227 735 = some (.aload_n 0) := by decide +kernel
theorem y736 : cdA 227 736 = some (.iload_n 3) := by decide +kernel
theorem y737 : cdA 227 737 = some (.iconst 2) := by decide +kernel
theorem y738 : cdA 227 738 = some (.iadd) := by decide +kernel
theorem y739 : cdA 227 739 = some (.iaload) := by decide +kernel
theorem y740 : cdA 227 740 = some (.ifCond .eq 7) := by decide +kernel
theorem y747 : cdA 227 747 = some (.iconst 0) := by decide +kernel
theorem y748 : cdA 227 748 = some (.aload_n 0) := by decide +kernel
theorem y749 : cdA 227 749 = some (.iload_n 3) := by decide +kernel
theorem y750 : cdA 227 750 = some (.iconst 3) := by decide +kernel
theorem y751 : cdA 227 751 = some (.iadd) := by decide +kernel
theorem y752 : cdA 227 752 = some (.iaload) := by decide +kernel
theorem y753 : cdA 227 753 = some (.invokevirtual 70) := by decide +kernel
theorem ym70 : mthR (moN 227) 70 = 96 := by decide +kernel
theorem yF93 : mF 93 3 5 true := by unfold mF; decide +kernel
theorem yK93 : ¬ mK 93 = 4 := by decide +kernel
theorem yS93 : SH0[0]? = some (.inl (moN 93)) := by decide +kernel
theorem yR93 : mK 93 = 0 := by decide +kernel
theorem y756 : cdA 227 756 = some (.aload_n 2) := by decide +kernel
theorem y757 : cdA 227 757 = some (.aload_n 0) := by decide +kernel
theorem y758 : cdA 227 758 = some (.iload_n 3) := by decide +kernel
theorem y759 : cdA 227 759 = some (.iconst 1) := by decide +kernel
theorem y760 : cdA 227 760 = some (.iadd) := by decide +kernel
theorem y761 : cdA 227 761 = some (.iaload) := by decide +kernel
theorem y762 : cdA 227 762 = some (.aload_n 0) := by decide +kernel
theorem y763 : cdA 227 763 = some (.iload_n 3) := by decide +kernel
theorem y764 : cdA 227 764 = some (.iconst 2) := by decide +kernel
theorem y765 : cdA 227 765 = some (.iadd) := by decide +kernel
theorem y766 : cdA 227 766 = some (.iaload) := by decide +kernel
theorem y767 : cdA 227 767 = some (.ifCond .eq 7) := by decide +kernel
theorem y774 : cdA 227 774 = some (.iconst 0) := by decide +kernel
theorem y775 : cdA 227 775 = some (.aload_n 0) := by decide +kernel
theorem y776 : cdA 227 776 = some (.iload_n 3) := by decide +kernel
theorem y777 : cdA 227 777 = some (.iconst 3) := by decide +kernel
theorem y778 : cdA 227 778 = some (.iadd) := by decide +kernel
theorem y779 : cdA 227 779 = some (.iaload) := by decide +kernel
theorem y780 : cdA 227 780 = some (.invokevirtual 74) := by decide +kernel
theorem ym74 : mthR (moN 227) 74 = 163 := by decide +kernel
theorem yF160 : mF 160 3 5 true := by unfold mF; decide +kernel
theorem yK160 : ¬ mK 160 = 4 := by decide +kernel
theorem yS160 : SH0[69]? = some (.inl (moN 160)) := by decide +kernel
theorem yR160 : mK 160 = 0 := by decide +kernel
theorem y783 : cdA 227 783 = some (.if_icmp .eq 991) := by decide +kernel
theorem y743 : cdA 227 743 = some (.iconst 1) := by decide +kernel
theorem y744 : cdA 227 744 = some (.goto 4) := by decide +kernel
theorem y770 : cdA 227 770 = some (.iconst 1) := by decide +kernel
theorem y771 : cdA 227 771 = some (.goto 4) := by decide +kernel
theorem y788 : cdA 227 788 = some (.aload_n 1) := by decide +kernel
theorem y789 : cdA 227 789 = some (.aload_n 0) := by decide +kernel
theorem y790 : cdA 227 790 = some (.iload_n 3) := by decide +kernel
theorem y791 : cdA 227 791 = some (.iconst 1) := by decide +kernel
theorem y792 : cdA 227 792 = some (.iadd) := by decide +kernel
theorem y793 : cdA 227 793 = some (.iaload) := by decide +kernel
theorem y794 : cdA 227 794 = some (.aload_n 0) := by decide +kernel
theorem y795 : cdA 227 795 = some (.iload_n 3) := by decide +kernel
theorem y796 : cdA 227 796 = some (.iconst 2) := by decide +kernel
theorem y797 : cdA 227 797 = some (.iadd) := by decide +kernel
theorem y798 : cdA 227 798 = some (.iaload) := by decide +kernel
theorem y799 : cdA 227 799 = some (.i2l) := by decide +kernel
theorem y800 : cdA 227 800 = some (.bipush 32) := by decide +kernel
theorem y802 : cdA 227 802 = some (.lshl) := by decide +kernel
theorem y803 : cdA 227 803 = some (.aload_n 0) := by decide +kernel
theorem y804 : cdA 227 804 = some (.iload_n 3) := by decide +kernel
theorem y805 : cdA 227 805 = some (.iconst 3) := by decide +kernel
theorem y806 : cdA 227 806 = some (.iadd) := by decide +kernel
theorem y807 : cdA 227 807 = some (.iaload) := by decide +kernel
theorem y808 : cdA 227 808 = some (.i2l) := by decide +kernel
theorem y809 : cdA 227 809 = some (.ldc2_w 75) := by decide +kernel
theorem yk75 : lcsR (moN 227) 75 = some 4294967295 := by decide +kernel
theorem y812 : cdA 227 812 = some (.land) := by decide +kernel
theorem y813 : cdA 227 813 = some (.lor) := by decide +kernel
theorem y814 : cdA 227 814 = some (.invokevirtual 77) := by decide +kernel
theorem ym77 : mthR (moN 227) 77 = 97 := by decide +kernel
theorem yF94 : mF 94 2 4 true := by unfold mF; decide +kernel
theorem yK94 : ¬ mK 94 = 4 := by decide +kernel
theorem yS94 : SH0[0]? = some (.inl (moN 94)) := by decide +kernel
theorem yR94 : mK 94 = 0 := by decide +kernel
theorem y817 : cdA 227 817 = some (.aload_n 2) := by decide +kernel
theorem y818 : cdA 227 818 = some (.aload_n 0) := by decide +kernel
theorem y819 : cdA 227 819 = some (.iload_n 3) := by decide +kernel
theorem y820 : cdA 227 820 = some (.iconst 1) := by decide +kernel
theorem y821 : cdA 227 821 = some (.iadd) := by decide +kernel
theorem y822 : cdA 227 822 = some (.iaload) := by decide +kernel
theorem y823 : cdA 227 823 = some (.aload_n 0) := by decide +kernel
theorem y824 : cdA 227 824 = some (.iload_n 3) := by decide +kernel
theorem y825 : cdA 227 825 = some (.iconst 2) := by decide +kernel
theorem y826 : cdA 227 826 = some (.iadd) := by decide +kernel
theorem y827 : cdA 227 827 = some (.iaload) := by decide +kernel
theorem y828 : cdA 227 828 = some (.i2l) := by decide +kernel
theorem y829 : cdA 227 829 = some (.bipush 32) := by decide +kernel
theorem y831 : cdA 227 831 = some (.lshl) := by decide +kernel
theorem y832 : cdA 227 832 = some (.aload_n 0) := by decide +kernel
theorem y833 : cdA 227 833 = some (.iload_n 3) := by decide +kernel
theorem y834 : cdA 227 834 = some (.iconst 3) := by decide +kernel
theorem y835 : cdA 227 835 = some (.iadd) := by decide +kernel
theorem y836 : cdA 227 836 = some (.iaload) := by decide +kernel
theorem y837 : cdA 227 837 = some (.i2l) := by decide +kernel
theorem y838 : cdA 227 838 = some (.ldc2_w 75) := by decide +kernel
theorem y841 : cdA 227 841 = some (.land) := by decide +kernel
theorem y842 : cdA 227 842 = some (.lor) := by decide +kernel
theorem y843 : cdA 227 843 = some (.invokevirtual 81) := by decide +kernel
theorem ym81 : mthR (moN 227) 81 = 164 := by decide +kernel
theorem yF161 : mF 161 2 5 true := by unfold mF; decide +kernel
theorem yK161 : ¬ mK 161 = 4 := by decide +kernel
theorem yS161 : SH0[69]? = some (.inl (moN 161)) := by decide +kernel
theorem yR161 : mK 161 = 0 := by decide +kernel
theorem y846 : cdA 227 846 = some (.if_icmp .eq 928) := by decide +kernel
theorem y851 : cdA 227 851 = some (.aload_n 1) := by decide +kernel
theorem y852 : cdA 227 852 = some (.invokevirtual 82) := by decide +kernel
theorem ym82 : mthR (moN 227) 82 = 98 := by decide +kernel
theorem yF95 : mF 95 0 2 true := by unfold mF; decide +kernel
theorem yK95 : ¬ mK 95 = 4 := by decide +kernel
theorem yS95 : SH0[0]? = some (.inl (moN 95)) := by decide +kernel
theorem yR95 : mK 95 = 0 := by decide +kernel
theorem y855 : cdA 227 855 = some (.aload_n 2) := by decide +kernel
theorem y856 : cdA 227 856 = some (.invokevirtual 86) := by decide +kernel
theorem ym86 : mthR (moN 227) 86 = 175 := by decide +kernel
theorem yF172 : mF 172 0 6 true := by unfold mF; decide +kernel
theorem yK172 : ¬ mK 172 = 4 := by decide +kernel
theorem yS172 : SH0[69]? = some (.inl (moN 172)) := by decide +kernel
theorem yR172 : mK 172 = 0 := by decide +kernel
theorem y859 : cdA 227 859 = some (.if_icmp .eq 915) := by decide +kernel
theorem y864 : cdA 227 864 = some (.aload_n 1) := by decide +kernel
theorem y865 : cdA 227 865 = some (.aload_n 0) := by decide +kernel
theorem y866 : cdA 227 866 = some (.iload_n 3) := by decide +kernel
theorem y867 : cdA 227 867 = some (.iconst 1) := by decide +kernel
theorem y868 : cdA 227 868 = some (.iadd) := by decide +kernel
theorem y869 : cdA 227 869 = some (.iaload) := by decide +kernel
theorem y870 : cdA 227 870 = some (.invokevirtual 87) := by decide +kernel
theorem ym87 : mthR (moN 227) 87 = 99 := by decide +kernel
theorem yF96 : mF 96 1 3 true := by unfold mF; decide +kernel
theorem yK96 : ¬ mK 96 = 4 := by decide +kernel
theorem yS96 : SH0[0]? = some (.inl (moN 96)) := by decide +kernel
theorem yR96 : mK 96 = 0 := by decide +kernel
theorem y873 : cdA 227 873 = some (.aload_n 2) := by decide +kernel
theorem y874 : cdA 227 874 = some (.aload_n 0) := by decide +kernel
theorem y875 : cdA 227 875 = some (.iload_n 3) := by decide +kernel
theorem y876 : cdA 227 876 = some (.iconst 1) := by decide +kernel
theorem y877 : cdA 227 877 = some (.iadd) := by decide +kernel
theorem y878 : cdA 227 878 = some (.iaload) := by decide +kernel
theorem y879 : cdA 227 879 = some (.invokevirtual 90) := by decide +kernel
theorem ym90 : mthR (moN 227) 90 = 177 := by decide +kernel
theorem yF174 : mF 174 1 3 true := by unfold mF; decide +kernel
theorem yK174 : ¬ mK 174 = 4 := by decide +kernel
theorem yS174 : SH0[69]? = some (.inl (moN 174)) := by decide +kernel
theorem yR174 : mK 174 = 0 := by decide +kernel
theorem y882 : cdA 227 882 = some (.if_icmp .eq 892) := by decide +kernel
theorem y887 : cdA 227 887 = some (.aload_n 1) := by decide +kernel
theorem y888 : cdA 227 888 = some (.aload_n 0) := by decide +kernel
theorem y889 : cdA 227 889 = some (.iload_n 3) := by decide +kernel
theorem y890 : cdA 227 890 = some (.iconst 1) := by decide +kernel
theorem y891 : cdA 227 891 = some (.iadd) := by decide +kernel
theorem y892 : cdA 227 892 = some (.iaload) := by decide +kernel
theorem y893 : cdA 227 893 = some (.invokevirtual 91) := by decide +kernel
theorem ym91 : mthR (moN 227) 91 = 100 := by decide +kernel
theorem yF97 : mF 97 1 3 true := by unfold mF; decide +kernel
theorem yK97 : ¬ mK 97 = 4 := by decide +kernel
theorem yS97 : SH0[0]? = some (.inl (moN 97)) := by decide +kernel
theorem yR97 : mK 97 = 0 := by decide +kernel
theorem y896 : cdA 227 896 = some (.aload_n 2) := by decide +kernel
theorem y897 : cdA 227 897 = some (.aload_n 0) := by decide +kernel
theorem y898 : cdA 227 898 = some (.iload_n 3) := by decide +kernel
theorem y899 : cdA 227 899 = some (.iconst 1) := by decide +kernel
theorem y900 : cdA 227 900 = some (.iadd) := by decide +kernel
theorem y901 : cdA 227 901 = some (.iaload) := by decide +kernel
theorem y902 : cdA 227 902 = some (.invokevirtual 94) := by decide +kernel
theorem ym94 : mthR (moN 227) 94 = 186 := by decide +kernel
theorem yF183 : mF 183 1 3 true := by unfold mF; decide +kernel
theorem yK183 : ¬ mK 183 = 4 := by decide +kernel
theorem yS183 : SH0[69]? = some (.inl (moN 183)) := by decide +kernel
theorem yR183 : mK 183 = 0 := by decide +kernel
theorem y905 : cdA 227 905 = some (.if_icmp .eq 869) := by decide +kernel
theorem y910 : cdA 227 910 = some (.aload_n 1) := by decide +kernel
theorem y911 : cdA 227 911 = some (.aload_n 0) := by decide +kernel
theorem y912 : cdA 227 912 = some (.iload_n 3) := by decide +kernel
theorem y913 : cdA 227 913 = some (.iconst 1) := by decide +kernel
theorem y914 : cdA 227 914 = some (.iadd) := by decide +kernel
theorem y915 : cdA 227 915 = some (.iaload) := by decide +kernel
theorem y916 : cdA 227 916 = some (.aload_n 0) := by decide +kernel
theorem y917 : cdA 227 917 = some (.iload_n 3) := by decide +kernel
theorem y918 : cdA 227 918 = some (.iconst 2) := by decide +kernel
theorem y919 : cdA 227 919 = some (.iadd) := by decide +kernel
theorem y920 : cdA 227 920 = some (.iaload) := by decide +kernel
theorem y921 : cdA 227 921 = some (.invokevirtual 95) := by decide +kernel
theorem ym95 : mthR (moN 227) 95 = 101 := by decide +kernel
theorem yF98 : mF 98 2 3 true := by unfold mF; decide +kernel
theorem yK98 : ¬ mK 98 = 4 := by decide +kernel
theorem yS98 : SH0[0]? = some (.inl (moN 98)) := by decide +kernel
theorem yR98 : mK 98 = 0 := by decide +kernel
theorem y924 : cdA 227 924 = some (.aload_n 2) := by decide +kernel
theorem y925 : cdA 227 925 = some (.aload_n 0) := by decide +kernel
theorem y926 : cdA 227 926 = some (.iload_n 3) := by decide +kernel
theorem y927 : cdA 227 927 = some (.iconst 1) := by decide +kernel
theorem y928 : cdA 227 928 = some (.iadd) := by decide +kernel
theorem y929 : cdA 227 929 = some (.iaload) := by decide +kernel
theorem y930 : cdA 227 930 = some (.aload_n 0) := by decide +kernel
theorem y931 : cdA 227 931 = some (.iload_n 3) := by decide +kernel
theorem y932 : cdA 227 932 = some (.iconst 2) := by decide +kernel
theorem y933 : cdA 227 933 = some (.iadd) := by decide +kernel
theorem y934 : cdA 227 934 = some (.iaload) := by decide +kernel
theorem y935 : cdA 227 935 = some (.invokevirtual 98) := by decide +kernel
theorem ym98 : mthR (moN 227) 98 = 187 := by decide +kernel
theorem yF184 : mF 184 2 3 true := by unfold mF; decide +kernel
theorem yK184 : ¬ mK 184 = 4 := by decide +kernel
theorem yS184 : SH0[69]? = some (.inl (moN 184)) := by decide +kernel
theorem yR184 : mK 184 = 0 := by decide +kernel
theorem y938 : cdA 227 938 = some (.if_icmp .eq 836) := by decide +kernel
theorem y943 : cdA 227 943 = some (.aload_n 1) := by decide +kernel
theorem y944 : cdA 227 944 = some (.aload_n 0) := by decide +kernel
theorem y945 : cdA 227 945 = some (.iload_n 3) := by decide +kernel
theorem y946 : cdA 227 946 = some (.iconst 1) := by decide +kernel
theorem y947 : cdA 227 947 = some (.iadd) := by decide +kernel
theorem y948 : cdA 227 948 = some (.iaload) := by decide +kernel
theorem y949 : cdA 227 949 = some (.invokevirtual 99) := by decide +kernel
theorem ym99 : mthR (moN 227) 99 = 102 := by decide +kernel
theorem yF99 : mF 99 1 2 true := by unfold mF; decide +kernel
theorem yK99 : ¬ mK 99 = 4 := by decide +kernel
theorem yS99 : SH0[0]? = some (.inl (moN 99)) := by decide +kernel
theorem yR99 : mK 99 = 1 := by decide +kernel
theorem y952 : cdA 227 952 = some (.aload_n 2) := by decide +kernel
theorem y953 : cdA 227 953 = some (.aload_n 0) := by decide +kernel
theorem y954 : cdA 227 954 = some (.iload_n 3) := by decide +kernel
theorem y955 : cdA 227 955 = some (.iconst 1) := by decide +kernel
theorem y956 : cdA 227 956 = some (.iadd) := by decide +kernel
theorem y957 : cdA 227 957 = some (.iaload) := by decide +kernel
theorem y958 : cdA 227 958 = some (.invokevirtual 103) := by decide +kernel
theorem ym103 : mthR (moN 227) 103 = 188 := by decide +kernel
theorem yF185 : mF 185 1 2 true := by unfold mF; decide +kernel
theorem yK185 : ¬ mK 185 = 4 := by decide +kernel
theorem yS185 : SH0[69]? = some (.inl (moN 185)) := by decide +kernel
theorem yR185 : mK 185 = 1 := by decide +kernel
theorem y961 : cdA 227 961 = some (.lcmp) := by decide +kernel
theorem y962 : cdA 227 962 = some (.ifCond .eq 812) := by decide +kernel
theorem y967 : cdA 227 967 = some (.aload_n 1) := by decide +kernel
theorem y968 : cdA 227 968 = some (.aload_n 0) := by decide +kernel
theorem y969 : cdA 227 969 = some (.iload_n 3) := by decide +kernel
theorem y970 : cdA 227 970 = some (.iconst 1) := by decide +kernel
theorem y971 : cdA 227 971 = some (.iadd) := by decide +kernel
theorem y972 : cdA 227 972 = some (.iaload) := by decide +kernel
theorem y973 : cdA 227 973 = some (.aload_n 0) := by decide +kernel
theorem y974 : cdA 227 974 = some (.iload_n 3) := by decide +kernel
theorem y975 : cdA 227 975 = some (.iconst 2) := by decide +kernel
theorem y976 : cdA 227 976 = some (.iadd) := by decide +kernel
theorem y977 : cdA 227 977 = some (.iaload) := by decide +kernel
theorem y978 : cdA 227 978 = some (.invokevirtual 104) := by decide +kernel
theorem ym104 : mthR (moN 227) 104 = 103 := by decide +kernel
theorem yF100 : mF 100 2 3 true := by unfold mF; decide +kernel
theorem yK100 : ¬ mK 100 = 4 := by decide +kernel
theorem yS100 : SH0[0]? = some (.inl (moN 100)) := by decide +kernel
theorem yR100 : mK 100 = 0 := by decide +kernel
theorem y981 : cdA 227 981 = some (.aload_n 2) := by decide +kernel
theorem y982 : cdA 227 982 = some (.aload_n 0) := by decide +kernel
theorem y983 : cdA 227 983 = some (.iload_n 3) := by decide +kernel
theorem y984 : cdA 227 984 = some (.iconst 1) := by decide +kernel
theorem y985 : cdA 227 985 = some (.iadd) := by decide +kernel
theorem y986 : cdA 227 986 = some (.iaload) := by decide +kernel
theorem y987 : cdA 227 987 = some (.aload_n 0) := by decide +kernel
theorem y988 : cdA 227 988 = some (.iload_n 3) := by decide +kernel
theorem y989 : cdA 227 989 = some (.iconst 2) := by decide +kernel
theorem y990 : cdA 227 990 = some (.iadd) := by decide +kernel
theorem y991 : cdA 227 991 = some (.iaload) := by decide +kernel
theorem y992 : cdA 227 992 = some (.invokevirtual 107) := by decide +kernel
theorem ym107 : mthR (moN 227) 107 = 191 := by decide +kernel
theorem yF188 : mF 188 2 3 true := by unfold mF; decide +kernel
theorem yK188 : ¬ mK 188 = 4 := by decide +kernel
theorem yS188 : SH0[69]? = some (.inl (moN 188)) := by decide +kernel
theorem yR188 : mK 188 = 0 := by decide +kernel
theorem y995 : cdA 227 995 = some (.if_icmp .eq 779) := by decide +kernel
theorem y1000 : cdA 227 1000 = some (.aload_n 1) := by decide +kernel
theorem y1001 : cdA 227 1001 = some (.aload_n 0) := by decide +kernel
theorem y1002 : cdA 227 1002 = some (.iload_n 3) := by decide +kernel
theorem y1003 : cdA 227 1003 = some (.iconst 1) := by decide +kernel
theorem y1004 : cdA 227 1004 = some (.iadd) := by decide +kernel
theorem y1005 : cdA 227 1005 = some (.iaload) := by decide +kernel
theorem y1006 : cdA 227 1006 = some (.aload_n 0) := by decide +kernel
theorem y1007 : cdA 227 1007 = some (.iload_n 3) := by decide +kernel
theorem y1008 : cdA 227 1008 = some (.iconst 2) := by decide +kernel
theorem y1009 : cdA 227 1009 = some (.iadd) := by decide +kernel
theorem y1010 : cdA 227 1010 = some (.iaload) := by decide +kernel
theorem y1011 : cdA 227 1011 = some (.invokevirtual 108) := by decide +kernel
theorem ym108 : mthR (moN 227) 108 = 104 := by decide +kernel
theorem yF101 : mF 101 2 7 true := by unfold mF; decide +kernel
theorem yK101 : ¬ mK 101 = 4 := by decide +kernel
theorem yS101 : SH0[0]? = some (.inl (moN 101)) := by decide +kernel
theorem yR101 : mK 101 = 0 := by decide +kernel
theorem y1014 : cdA 227 1014 = some (.aload_n 2) := by decide +kernel
theorem y1015 : cdA 227 1015 = some (.aload_n 0) := by decide +kernel
theorem y1016 : cdA 227 1016 = some (.iload_n 3) := by decide +kernel
theorem y1017 : cdA 227 1017 = some (.iconst 1) := by decide +kernel
theorem y1018 : cdA 227 1018 = some (.iadd) := by decide +kernel
theorem y1019 : cdA 227 1019 = some (.iaload) := by decide +kernel
theorem y1020 : cdA 227 1020 = some (.aload_n 0) := by decide +kernel
theorem y1021 : cdA 227 1021 = some (.iload_n 3) := by decide +kernel
theorem y1022 : cdA 227 1022 = some (.iconst 2) := by decide +kernel
theorem y1023 : cdA 227 1023 = some (.iadd) := by decide +kernel
theorem y1024 : cdA 227 1024 = some (.iaload) := by decide +kernel
theorem y1025 : cdA 227 1025 = some (.invokevirtual 111) := by decide +kernel
theorem ym111 : mthR (moN 227) 111 = 194 := by decide +kernel
theorem yF191 : mF 191 2 5 true := by unfold mF; decide +kernel
theorem yK191 : ¬ mK 191 = 4 := by decide +kernel
theorem yS191 : SH0[69]? = some (.inl (moN 191)) := by decide +kernel
theorem yR191 : mK 191 = 0 := by decide +kernel
theorem y1028 : cdA 227 1028 = some (.if_icmp .eq 746) := by decide +kernel
theorem y1033 : cdA 227 1033 = some (.aload_n 1) := by decide +kernel
theorem y1034 : cdA 227 1034 = some (.aload_n 0) := by decide +kernel
theorem y1035 : cdA 227 1035 = some (.iload_n 3) := by decide +kernel
theorem y1036 : cdA 227 1036 = some (.iconst 1) := by decide +kernel
theorem y1037 : cdA 227 1037 = some (.iadd) := by decide +kernel
theorem y1038 : cdA 227 1038 = some (.iaload) := by decide +kernel
theorem y1039 : cdA 227 1039 = some (.aload_n 0) := by decide +kernel
theorem y1040 : cdA 227 1040 = some (.iload_n 3) := by decide +kernel
theorem y1041 : cdA 227 1041 = some (.iconst 2) := by decide +kernel
theorem y1042 : cdA 227 1042 = some (.iadd) := by decide +kernel
theorem y1043 : cdA 227 1043 = some (.iaload) := by decide +kernel
theorem y1044 : cdA 227 1044 = some (.invokevirtual 112) := by decide +kernel
theorem ym112 : mthR (moN 227) 112 = 105 := by decide +kernel
theorem yF102 : mF 102 2 3 true := by unfold mF; decide +kernel
theorem yK102 : ¬ mK 102 = 4 := by decide +kernel
theorem yS102 : SH0[0]? = some (.inl (moN 102)) := by decide +kernel
theorem yR102 : mK 102 = 0 := by decide +kernel
theorem y1047 : cdA 227 1047 = some (.aload_n 2) := by decide +kernel
theorem y1048 : cdA 227 1048 = some (.aload_n 0) := by decide +kernel
theorem y1049 : cdA 227 1049 = some (.iload_n 3) := by decide +kernel
theorem y1050 : cdA 227 1050 = some (.iconst 1) := by decide +kernel
theorem y1051 : cdA 227 1051 = some (.iadd) := by decide +kernel
theorem y1052 : cdA 227 1052 = some (.iaload) := by decide +kernel
theorem y1053 : cdA 227 1053 = some (.aload_n 0) := by decide +kernel
theorem y1054 : cdA 227 1054 = some (.iload_n 3) := by decide +kernel
theorem y1055 : cdA 227 1055 = some (.iconst 2) := by decide +kernel
theorem y1056 : cdA 227 1056 = some (.iadd) := by decide +kernel
theorem y1057 : cdA 227 1057 = some (.iaload) := by decide +kernel
theorem y1058 : cdA 227 1058 = some (.invokevirtual 115) := by decide +kernel
theorem ym115 : mthR (moN 227) 115 = 195 := by decide +kernel
theorem yF192 : mF 192 2 4 true := by unfold mF; decide +kernel
theorem yK192 : ¬ mK 192 = 4 := by decide +kernel
theorem yS192 : SH0[69]? = some (.inl (moN 192)) := by decide +kernel
theorem yR192 : mK 192 = 0 := by decide +kernel
theorem y1061 : cdA 227 1061 = some (.if_icmp .eq 713) := by decide +kernel
theorem y1066 : cdA 227 1066 = some (.aload_n 1) := by decide +kernel
theorem y1067 : cdA 227 1067 = some (.aload_n 0) := by decide +kernel
theorem y1068 : cdA 227 1068 = some (.iload_n 3) := by decide +kernel
theorem y1069 : cdA 227 1069 = some (.iconst 1) := by decide +kernel
theorem y1070 : cdA 227 1070 = some (.iadd) := by decide +kernel
theorem y1071 : cdA 227 1071 = some (.iaload) := by decide +kernel
theorem y1072 : cdA 227 1072 = some (.aload_n 0) := by decide +kernel
theorem y1073 : cdA 227 1073 = some (.iload_n 3) := by decide +kernel
theorem y1074 : cdA 227 1074 = some (.iconst 2) := by decide +kernel
theorem y1075 : cdA 227 1075 = some (.iadd) := by decide +kernel
theorem y1076 : cdA 227 1076 = some (.iaload) := by decide +kernel
theorem y1077 : cdA 227 1077 = some (.aload_n 0) := by decide +kernel
theorem y1078 : cdA 227 1078 = some (.iload_n 3) := by decide +kernel
theorem y1079 : cdA 227 1079 = some (.iconst 3) := by decide +kernel
theorem y1080 : cdA 227 1080 = some (.iadd) := by decide +kernel
theorem y1081 : cdA 227 1081 = some (.iaload) := by decide +kernel
theorem y1082 : cdA 227 1082 = some (.ifCond .eq 7) := by decide +kernel
theorem y1089 : cdA 227 1089 = some (.iconst 0) := by decide +kernel
theorem y1090 : cdA 227 1090 = some (.invokevirtual 116) := by decide +kernel
theorem ym116 : mthR (moN 227) 116 = 106 := by decide +kernel
theorem yF103 : mF 103 3 4 true := by unfold mF; decide +kernel
theorem yK103 : ¬ mK 103 = 4 := by decide +kernel
theorem yS103 : SH0[0]? = some (.inl (moN 103)) := by decide +kernel
theorem yR103 : mK 103 = 0 := by decide +kernel
theorem y1093 : cdA 227 1093 = some (.aload_n 2) := by decide +kernel
theorem y1094 : cdA 227 1094 = some (.aload_n 0) := by decide +kernel
theorem y1095 : cdA 227 1095 = some (.iload_n 3) := by decide +kernel
theorem y1096 : cdA 227 1096 = some (.iconst 1) := by decide +kernel
theorem y1097 : cdA 227 1097 = some (.iadd) := by decide +kernel
theorem y1098 : cdA 227 1098 = some (.iaload) := by decide +kernel
theorem y1099 : cdA 227 1099 = some (.aload_n 0) := by decide +kernel
theorem y1100 : cdA 227 1100 = some (.iload_n 3) := by decide +kernel
theorem y1101 : cdA 227 1101 = some (.iconst 2) := by decide +kernel
theorem y1102 : cdA 227 1102 = some (.iadd) := by decide +kernel
theorem y1103 : cdA 227 1103 = some (.iaload) := by decide +kernel
theorem y1104 : cdA 227 1104 = some (.aload_n 0) := by decide +kernel
theorem y1105 : cdA 227 1105 = some (.iload_n 3) := by decide +kernel
theorem y1106 : cdA 227 1106 = some (.iconst 3) := by decide +kernel
theorem y1107 : cdA 227 1107 = some (.iadd) := by decide +kernel
theorem y1108 : cdA 227 1108 = some (.iaload) := by decide +kernel
theorem y1109 : cdA 227 1109 = some (.ifCond .eq 7) := by decide +kernel
theorem y1116 : cdA 227 1116 = some (.iconst 0) := by decide +kernel
theorem y1117 : cdA 227 1117 = some (.invokevirtual 120) := by decide +kernel
theorem ym120 : mthR (moN 227) 120 = 197 := by decide +kernel
theorem yF194 : mF 194 3 4 true := by unfold mF; decide +kernel
theorem yK194 : ¬ mK 194 = 4 := by decide +kernel
theorem yS194 : SH0[69]? = some (.inl (moN 194)) := by decide +kernel
theorem yR194 : mK 194 = 0 := by decide +kernel
theorem y1120 : cdA 227 1120 = some (.if_icmp .eq 654) := by decide +kernel
theorem y1085 : cdA 227 1085 = some (.iconst 1) := by decide +kernel
theorem y1086 : cdA 227 1086 = some (.goto 4) := by decide +kernel
theorem y1112 : cdA 227 1112 = some (.iconst 1) := by decide +kernel
theorem y1113 : cdA 227 1113 = some (.goto 4) := by decide +kernel
theorem y1125 : cdA 227 1125 = some (.aload_n 1) := by decide +kernel
theorem y1126 : cdA 227 1126 = some (.aload_n 0) := by decide +kernel
theorem y1127 : cdA 227 1127 = some (.iload_n 3) := by decide +kernel
theorem y1128 : cdA 227 1128 = some (.iconst 1) := by decide +kernel
theorem y1129 : cdA 227 1129 = some (.iadd) := by decide +kernel
theorem y1130 : cdA 227 1130 = some (.iaload) := by decide +kernel
theorem y1131 : cdA 227 1131 = some (.invokevirtual 121) := by decide +kernel
theorem ym121 : mthR (moN 227) 121 = 107 := by decide +kernel
theorem yF104 : mF 104 1 2 true := by unfold mF; decide +kernel
theorem yK104 : ¬ mK 104 = 4 := by decide +kernel
theorem yS104 : SH0[0]? = some (.inl (moN 104)) := by decide +kernel
theorem yR104 : mK 104 = 0 := by decide +kernel
theorem y1134 : cdA 227 1134 = some (.aload_n 2) := by decide +kernel
theorem y1135 : cdA 227 1135 = some (.aload_n 0) := by decide +kernel
theorem y1136 : cdA 227 1136 = some (.iload_n 3) := by decide +kernel
theorem y1137 : cdA 227 1137 = some (.iconst 1) := by decide +kernel
theorem y1138 : cdA 227 1138 = some (.iadd) := by decide +kernel
theorem y1139 : cdA 227 1139 = some (.iaload) := by decide +kernel
theorem y1140 : cdA 227 1140 = some (.invokevirtual 124) := by decide +kernel
theorem ym124 : mthR (moN 227) 124 = 202 := by decide +kernel
theorem yF199 : mF 199 1 5 true := by unfold mF; decide +kernel
theorem yK199 : ¬ mK 199 = 4 := by decide +kernel
theorem yS199 : SH0[69]? = some (.inl (moN 199)) := by decide +kernel
theorem yR199 : mK 199 = 0 := by decide +kernel
theorem y1143 : cdA 227 1143 = some (.if_icmp .eq 631) := by decide +kernel
theorem y1148 : cdA 227 1148 = some (.aload_n 1) := by decide +kernel
theorem y1149 : cdA 227 1149 = some (.aload_n 0) := by decide +kernel
theorem y1150 : cdA 227 1150 = some (.iload_n 3) := by decide +kernel
theorem y1151 : cdA 227 1151 = some (.iconst 1) := by decide +kernel
theorem y1152 : cdA 227 1152 = some (.iadd) := by decide +kernel
theorem y1153 : cdA 227 1153 = some (.iaload) := by decide +kernel
theorem y1154 : cdA 227 1154 = some (.aload_n 0) := by decide +kernel
theorem y1155 : cdA 227 1155 = some (.iload_n 3) := by decide +kernel
theorem y1156 : cdA 227 1156 = some (.iconst 2) := by decide +kernel
theorem y1157 : cdA 227 1157 = some (.iadd) := by decide +kernel
theorem y1158 : cdA 227 1158 = some (.iaload) := by decide +kernel
theorem y1159 : cdA 227 1159 = some (.aload_n 0) := by decide +kernel
theorem y1160 : cdA 227 1160 = some (.iload_n 3) := by decide +kernel
theorem y1161 : cdA 227 1161 = some (.iconst 3) := by decide +kernel
theorem y1162 : cdA 227 1162 = some (.iadd) := by decide +kernel
theorem y1163 : cdA 227 1163 = some (.iaload) := by decide +kernel
theorem y1164 : cdA 227 1164 = some (.aload_n 0) := by decide +kernel
theorem y1165 : cdA 227 1165 = some (.iload_n 3) := by decide +kernel
theorem y1166 : cdA 227 1166 = some (.iconst 4) := by decide +kernel
theorem y1167 : cdA 227 1167 = some (.iadd) := by decide +kernel
theorem y1168 : cdA 227 1168 = some (.iaload) := by decide +kernel
theorem y1169 : cdA 227 1169 = some (.ifCond .eq 7) := by decide +kernel
theorem y1176 : cdA 227 1176 = some (.iconst 0) := by decide +kernel
theorem y1177 : cdA 227 1177 = some (.invokevirtual 125) := by decide +kernel
theorem ym125 : mthR (moN 227) 125 = 108 := by decide +kernel
theorem yF105 : mF 105 4 6 true := by unfold mF; decide +kernel
theorem yK105 : ¬ mK 105 = 4 := by decide +kernel
theorem yS105 : SH0[0]? = some (.inl (moN 105)) := by decide +kernel
theorem yR105 : mK 105 = 0 := by decide +kernel
theorem y1180 : cdA 227 1180 = some (.aload_n 2) := by decide +kernel
theorem y1181 : cdA 227 1181 = some (.aload_n 0) := by decide +kernel
theorem y1182 : cdA 227 1182 = some (.iload_n 3) := by decide +kernel
theorem y1183 : cdA 227 1183 = some (.iconst 1) := by decide +kernel
theorem y1184 : cdA 227 1184 = some (.iadd) := by decide +kernel
theorem y1185 : cdA 227 1185 = some (.iaload) := by decide +kernel
theorem y1186 : cdA 227 1186 = some (.aload_n 0) := by decide +kernel
theorem y1187 : cdA 227 1187 = some (.iload_n 3) := by decide +kernel
theorem y1188 : cdA 227 1188 = some (.iconst 2) := by decide +kernel
theorem y1189 : cdA 227 1189 = some (.iadd) := by decide +kernel
theorem y1190 : cdA 227 1190 = some (.iaload) := by decide +kernel
theorem y1191 : cdA 227 1191 = some (.aload_n 0) := by decide +kernel
theorem y1192 : cdA 227 1192 = some (.iload_n 3) := by decide +kernel
theorem y1193 : cdA 227 1193 = some (.iconst 3) := by decide +kernel
theorem y1194 : cdA 227 1194 = some (.iadd) := by decide +kernel
theorem y1195 : cdA 227 1195 = some (.iaload) := by decide +kernel
theorem y1196 : cdA 227 1196 = some (.aload_n 0) := by decide +kernel
theorem y1197 : cdA 227 1197 = some (.iload_n 3) := by decide +kernel
theorem y1198 : cdA 227 1198 = some (.iconst 4) := by decide +kernel
theorem y1199 : cdA 227 1199 = some (.iadd) := by decide +kernel
theorem y1200 : cdA 227 1200 = some (.iaload) := by decide +kernel
theorem y1201 : cdA 227 1201 = some (.ifCond .eq 7) := by decide +kernel
theorem y1208 : cdA 227 1208 = some (.iconst 0) := by decide +kernel
theorem y1209 : cdA 227 1209 = some (.invokevirtual 129) := by decide +kernel
theorem ym129 : mthR (moN 227) 129 = 203 := by decide +kernel
theorem yF200 : mF 200 4 6 true := by unfold mF; decide +kernel
theorem yK200 : ¬ mK 200 = 4 := by decide +kernel
theorem yS200 : SH0[69]? = some (.inl (moN 200)) := by decide +kernel
theorem yR200 : mK 200 = 0 := by decide +kernel
theorem y1212 : cdA 227 1212 = some (.if_icmp .eq 562) := by decide +kernel
theorem y1172 : cdA 227 1172 = some (.iconst 1) := by decide +kernel
theorem y1173 : cdA 227 1173 = some (.goto 4) := by decide +kernel
theorem y1204 : cdA 227 1204 = some (.iconst 1) := by decide +kernel
theorem y1205 : cdA 227 1205 = some (.goto 4) := by decide +kernel
theorem y1217 : cdA 227 1217 = some (.aload_n 1) := by decide +kernel
theorem y1218 : cdA 227 1218 = some (.aload_n 0) := by decide +kernel
theorem y1219 : cdA 227 1219 = some (.iload_n 3) := by decide +kernel
theorem y1220 : cdA 227 1220 = some (.iconst 1) := by decide +kernel
theorem y1221 : cdA 227 1221 = some (.iadd) := by decide +kernel
theorem y1222 : cdA 227 1222 = some (.iaload) := by decide +kernel
theorem y1223 : cdA 227 1223 = some (.aload_n 0) := by decide +kernel
theorem y1224 : cdA 227 1224 = some (.iload_n 3) := by decide +kernel
theorem y1225 : cdA 227 1225 = some (.iconst 2) := by decide +kernel
theorem y1226 : cdA 227 1226 = some (.iadd) := by decide +kernel
theorem y1227 : cdA 227 1227 = some (.iaload) := by decide +kernel
theorem y1228 : cdA 227 1228 = some (.aload_n 0) := by decide +kernel
theorem y1229 : cdA 227 1229 = some (.iload_n 3) := by decide +kernel
theorem y1230 : cdA 227 1230 = some (.iconst 3) := by decide +kernel
theorem y1231 : cdA 227 1231 = some (.iadd) := by decide +kernel
theorem y1232 : cdA 227 1232 = some (.iaload) := by decide +kernel
theorem y1233 : cdA 227 1233 = some (.aload_n 0) := by decide +kernel
theorem y1234 : cdA 227 1234 = some (.iload_n 3) := by decide +kernel
theorem y1235 : cdA 227 1235 = some (.iconst 4) := by decide +kernel
theorem y1236 : cdA 227 1236 = some (.iadd) := by decide +kernel
theorem y1237 : cdA 227 1237 = some (.iaload) := by decide +kernel
theorem y1238 : cdA 227 1238 = some (.invokevirtual 130) := by decide +kernel
theorem ym130 : mthR (moN 227) 130 = 109 := by decide +kernel
theorem yF106 : mF 106 4 6 true := by unfold mF; decide +kernel
theorem yK106 : ¬ mK 106 = 4 := by decide +kernel
theorem yS106 : SH0[0]? = some (.inl (moN 106)) := by decide +kernel
theorem yR106 : mK 106 = 0 := by decide +kernel
theorem y1241 : cdA 227 1241 = some (.aload_n 2) := by decide +kernel
theorem y1242 : cdA 227 1242 = some (.aload_n 0) := by decide +kernel
theorem y1243 : cdA 227 1243 = some (.iload_n 3) := by decide +kernel
theorem y1244 : cdA 227 1244 = some (.iconst 1) := by decide +kernel
theorem y1245 : cdA 227 1245 = some (.iadd) := by decide +kernel
theorem y1246 : cdA 227 1246 = some (.iaload) := by decide +kernel
theorem y1247 : cdA 227 1247 = some (.aload_n 0) := by decide +kernel
theorem y1248 : cdA 227 1248 = some (.iload_n 3) := by decide +kernel
theorem y1249 : cdA 227 1249 = some (.iconst 2) := by decide +kernel
theorem y1250 : cdA 227 1250 = some (.iadd) := by decide +kernel
theorem y1251 : cdA 227 1251 = some (.iaload) := by decide +kernel
theorem y1252 : cdA 227 1252 = some (.aload_n 0) := by decide +kernel
theorem y1253 : cdA 227 1253 = some (.iload_n 3) := by decide +kernel
theorem y1254 : cdA 227 1254 = some (.iconst 3) := by decide +kernel
theorem y1255 : cdA 227 1255 = some (.iadd) := by decide +kernel
theorem y1256 : cdA 227 1256 = some (.iaload) := by decide +kernel
theorem y1257 : cdA 227 1257 = some (.aload_n 0) := by decide +kernel
theorem y1258 : cdA 227 1258 = some (.iload_n 3) := by decide +kernel
theorem y1259 : cdA 227 1259 = some (.iconst 4) := by decide +kernel
theorem y1260 : cdA 227 1260 = some (.iadd) := by decide +kernel
theorem y1261 : cdA 227 1261 = some (.iaload) := by decide +kernel
theorem y1262 : cdA 227 1262 = some (.invokevirtual 134) := by decide +kernel
theorem ym134 : mthR (moN 227) 134 = 205 := by decide +kernel
theorem yF202 : mF 202 4 6 true := by unfold mF; decide +kernel
theorem yK202 : ¬ mK 202 = 4 := by decide +kernel
theorem yS202 : SH0[69]? = some (.inl (moN 202)) := by decide +kernel
theorem yR202 : mK 202 = 0 := by decide +kernel
theorem y1265 : cdA 227 1265 = some (.if_icmp .eq 509) := by decide +kernel
theorem y1270 : cdA 227 1270 = some (.aload_n 1) := by decide +kernel
theorem y1271 : cdA 227 1271 = some (.aload_n 0) := by decide +kernel
theorem y1272 : cdA 227 1272 = some (.iload_n 3) := by decide +kernel
theorem y1273 : cdA 227 1273 = some (.iconst 1) := by decide +kernel
theorem y1274 : cdA 227 1274 = some (.iadd) := by decide +kernel
theorem y1275 : cdA 227 1275 = some (.iaload) := by decide +kernel
theorem y1276 : cdA 227 1276 = some (.aload_n 0) := by decide +kernel
theorem y1277 : cdA 227 1277 = some (.iload_n 3) := by decide +kernel
theorem y1278 : cdA 227 1278 = some (.iconst 2) := by decide +kernel
theorem y1279 : cdA 227 1279 = some (.iadd) := by decide +kernel
theorem y1280 : cdA 227 1280 = some (.iaload) := by decide +kernel
theorem y1281 : cdA 227 1281 = some (.invokevirtual 135) := by decide +kernel
theorem ym135 : mthR (moN 227) 135 = 110 := by decide +kernel
theorem yF107 : mF 107 2 8 true := by unfold mF; decide +kernel
theorem yK107 : ¬ mK 107 = 4 := by decide +kernel
theorem yS107 : SH0[0]? = some (.inl (moN 107)) := by decide +kernel
theorem yR107 : mK 107 = 0 := by decide +kernel
theorem y1284 : cdA 227 1284 = some (.aload_n 2) := by decide +kernel
theorem y1285 : cdA 227 1285 = some (.aload_n 0) := by decide +kernel
theorem y1286 : cdA 227 1286 = some (.iload_n 3) := by decide +kernel
theorem y1287 : cdA 227 1287 = some (.iconst 1) := by decide +kernel
theorem y1288 : cdA 227 1288 = some (.iadd) := by decide +kernel
theorem y1289 : cdA 227 1289 = some (.iaload) := by decide +kernel
theorem y1290 : cdA 227 1290 = some (.aload_n 0) := by decide +kernel
theorem y1291 : cdA 227 1291 = some (.iload_n 3) := by decide +kernel
theorem y1292 : cdA 227 1292 = some (.iconst 2) := by decide +kernel
theorem y1293 : cdA 227 1293 = some (.iadd) := by decide +kernel
theorem y1294 : cdA 227 1294 = some (.iaload) := by decide +kernel
theorem y1295 : cdA 227 1295 = some (.invokevirtual 138) := by decide +kernel
theorem ym138 : mthR (moN 227) 138 = 206 := by decide +kernel
theorem yF203 : mF 203 2 7 true := by unfold mF; decide +kernel
theorem yK203 : ¬ mK 203 = 4 := by decide +kernel
theorem yS203 : SH0[69]? = some (.inl (moN 203)) := by decide +kernel
theorem yR203 : mK 203 = 0 := by decide +kernel
theorem y1298 : cdA 227 1298 = some (.if_icmp .eq 476) := by decide +kernel
theorem y1303 : cdA 227 1303 = some (.aload_n 1) := by decide +kernel
theorem y1304 : cdA 227 1304 = some (.aload_n 0) := by decide +kernel
theorem y1305 : cdA 227 1305 = some (.iload_n 3) := by decide +kernel
theorem y1306 : cdA 227 1306 = some (.iconst 1) := by decide +kernel
theorem y1307 : cdA 227 1307 = some (.iadd) := by decide +kernel
theorem y1308 : cdA 227 1308 = some (.iaload) := by decide +kernel
theorem y1309 : cdA 227 1309 = some (.aload_n 0) := by decide +kernel
theorem y1310 : cdA 227 1310 = some (.iload_n 3) := by decide +kernel
theorem y1311 : cdA 227 1311 = some (.iconst 2) := by decide +kernel
theorem y1312 : cdA 227 1312 = some (.iadd) := by decide +kernel
theorem y1313 : cdA 227 1313 = some (.iaload) := by decide +kernel
theorem y1314 : cdA 227 1314 = some (.aload_n 0) := by decide +kernel
theorem y1315 : cdA 227 1315 = some (.iload_n 3) := by decide +kernel
theorem y1316 : cdA 227 1316 = some (.iconst 3) := by decide +kernel
theorem y1317 : cdA 227 1317 = some (.iadd) := by decide +kernel
theorem y1318 : cdA 227 1318 = some (.iaload) := by decide +kernel
theorem y1319 : cdA 227 1319 = some (.aload_n 0) := by decide +kernel
theorem y1320 : cdA 227 1320 = some (.iload_n 3) := by decide +kernel
theorem y1321 : cdA 227 1321 = some (.iconst 4) := by decide +kernel
theorem y1322 : cdA 227 1322 = some (.iadd) := by decide +kernel
theorem y1323 : cdA 227 1323 = some (.iaload) := by decide +kernel
theorem y1324 : cdA 227 1324 = some (.aload_n 0) := by decide +kernel
theorem y1325 : cdA 227 1325 = some (.iload_n 3) := by decide +kernel
theorem y1326 : cdA 227 1326 = some (.iconst 5) := by decide +kernel
theorem y1327 : cdA 227 1327 = some (.iadd) := by decide +kernel
theorem y1328 : cdA 227 1328 = some (.iaload) := by decide +kernel
theorem y1329 : cdA 227 1329 = some (.invokevirtual 139) := by decide +kernel
theorem ym139 : mthR (moN 227) 139 = 111 := by decide +kernel
theorem yF108 : mF 108 5 6 true := by unfold mF; decide +kernel
theorem yK108 : ¬ mK 108 = 4 := by decide +kernel
theorem yS108 : SH0[0]? = some (.inl (moN 108)) := by decide +kernel
theorem yR108 : mK 108 = 0 := by decide +kernel
theorem y1332 : cdA 227 1332 = some (.aload_n 2) := by decide +kernel
theorem y1333 : cdA 227 1333 = some (.aload_n 0) := by decide +kernel
theorem y1334 : cdA 227 1334 = some (.iload_n 3) := by decide +kernel
theorem y1335 : cdA 227 1335 = some (.iconst 1) := by decide +kernel
theorem y1336 : cdA 227 1336 = some (.iadd) := by decide +kernel
theorem y1337 : cdA 227 1337 = some (.iaload) := by decide +kernel
theorem y1338 : cdA 227 1338 = some (.aload_n 0) := by decide +kernel
theorem y1339 : cdA 227 1339 = some (.iload_n 3) := by decide +kernel
theorem y1340 : cdA 227 1340 = some (.iconst 2) := by decide +kernel
theorem y1341 : cdA 227 1341 = some (.iadd) := by decide +kernel
theorem y1342 : cdA 227 1342 = some (.iaload) := by decide +kernel
theorem y1343 : cdA 227 1343 = some (.aload_n 0) := by decide +kernel
theorem y1344 : cdA 227 1344 = some (.iload_n 3) := by decide +kernel
theorem y1345 : cdA 227 1345 = some (.iconst 3) := by decide +kernel
theorem y1346 : cdA 227 1346 = some (.iadd) := by decide +kernel
theorem y1347 : cdA 227 1347 = some (.iaload) := by decide +kernel
theorem y1348 : cdA 227 1348 = some (.aload_n 0) := by decide +kernel
theorem y1349 : cdA 227 1349 = some (.iload_n 3) := by decide +kernel
theorem y1350 : cdA 227 1350 = some (.iconst 4) := by decide +kernel
theorem y1351 : cdA 227 1351 = some (.iadd) := by decide +kernel
theorem y1352 : cdA 227 1352 = some (.iaload) := by decide +kernel
theorem y1353 : cdA 227 1353 = some (.aload_n 0) := by decide +kernel
theorem y1354 : cdA 227 1354 = some (.iload_n 3) := by decide +kernel
theorem y1355 : cdA 227 1355 = some (.iconst 5) := by decide +kernel
theorem y1356 : cdA 227 1356 = some (.iadd) := by decide +kernel
theorem y1357 : cdA 227 1357 = some (.iaload) := by decide +kernel
theorem y1358 : cdA 227 1358 = some (.invokevirtual 143) := by decide +kernel
theorem ym143 : mthR (moN 227) 143 = 207 := by decide +kernel
theorem yF204 : mF 204 5 6 true := by unfold mF; decide +kernel
theorem yK204 : ¬ mK 204 = 4 := by decide +kernel
theorem yS204 : SH0[69]? = some (.inl (moN 204)) := by decide +kernel
theorem yR204 : mK 204 = 0 := by decide +kernel
theorem y1361 : cdA 227 1361 = some (.if_icmp .eq 413) := by decide +kernel
theorem y1366 : cdA 227 1366 = some (.aload_n 1) := by decide +kernel
theorem y1367 : cdA 227 1367 = some (.aload_n 0) := by decide +kernel
theorem y1368 : cdA 227 1368 = some (.iload_n 3) := by decide +kernel
theorem y1369 : cdA 227 1369 = some (.iconst 1) := by decide +kernel
theorem y1370 : cdA 227 1370 = some (.iadd) := by decide +kernel
theorem y1371 : cdA 227 1371 = some (.iaload) := by decide +kernel
theorem y1372 : cdA 227 1372 = some (.aload_n 0) := by decide +kernel
theorem y1373 : cdA 227 1373 = some (.iload_n 3) := by decide +kernel
theorem y1374 : cdA 227 1374 = some (.iconst 2) := by decide +kernel
theorem y1375 : cdA 227 1375 = some (.iadd) := by decide +kernel
theorem y1376 : cdA 227 1376 = some (.iaload) := by decide +kernel
theorem y1377 : cdA 227 1377 = some (.invokevirtual 144) := by decide +kernel
theorem ym144 : mthR (moN 227) 144 = 112 := by decide +kernel
theorem yF109 : mF 109 2 7 true := by unfold mF; decide +kernel
theorem yK109 : ¬ mK 109 = 4 := by decide +kernel
theorem yS109 : SH0[0]? = some (.inl (moN 109)) := by decide +kernel
theorem yR109 : mK 109 = 0 := by decide +kernel
theorem y1380 : cdA 227 1380 = some (.aload_n 2) := by decide +kernel
theorem y1381 : cdA 227 1381 = some (.aload_n 0) := by decide +kernel
theorem y1382 : cdA 227 1382 = some (.iload_n 3) := by decide +kernel
theorem y1383 : cdA 227 1383 = some (.iconst 1) := by decide +kernel
theorem y1384 : cdA 227 1384 = some (.iadd) := by decide +kernel
theorem y1385 : cdA 227 1385 = some (.iaload) := by decide +kernel
theorem y1386 : cdA 227 1386 = some (.aload_n 0) := by decide +kernel
theorem y1387 : cdA 227 1387 = some (.iload_n 3) := by decide +kernel
theorem y1388 : cdA 227 1388 = some (.iconst 2) := by decide +kernel
theorem y1389 : cdA 227 1389 = some (.iadd) := by decide +kernel
theorem y1390 : cdA 227 1390 = some (.iaload) := by decide +kernel
theorem y1391 : cdA 227 1391 = some (.invokevirtual 147) := by decide +kernel
theorem ym147 : mthR (moN 227) 147 = 210 := by decide +kernel
theorem yF207 : mF 207 2 10 true := by unfold mF; decide +kernel
theorem yK207 : ¬ mK 207 = 4 := by decide +kernel
theorem yS207 : SH0[69]? = some (.inl (moN 207)) := by decide +kernel
theorem yR207 : mK 207 = 0 := by decide +kernel
theorem y1394 : cdA 227 1394 = some (.if_icmp .eq 380) := by decide +kernel
theorem y1399 : cdA 227 1399 = some (.aload_n 1) := by decide +kernel
theorem y1400 : cdA 227 1400 = some (.aload_n 0) := by decide +kernel
theorem y1401 : cdA 227 1401 = some (.iload_n 3) := by decide +kernel
theorem y1402 : cdA 227 1402 = some (.iconst 1) := by decide +kernel
theorem y1403 : cdA 227 1403 = some (.iadd) := by decide +kernel
theorem y1404 : cdA 227 1404 = some (.iaload) := by decide +kernel
theorem y1405 : cdA 227 1405 = some (.aload_n 0) := by decide +kernel
theorem y1406 : cdA 227 1406 = some (.iload_n 3) := by decide +kernel
theorem y1407 : cdA 227 1407 = some (.iconst 2) := by decide +kernel
theorem y1408 : cdA 227 1408 = some (.iadd) := by decide +kernel
theorem y1409 : cdA 227 1409 = some (.iaload) := by decide +kernel
theorem y1410 : cdA 227 1410 = some (.aload_n 0) := by decide +kernel
theorem y1411 : cdA 227 1411 = some (.iload_n 3) := by decide +kernel
theorem y1412 : cdA 227 1412 = some (.iconst 3) := by decide +kernel
theorem y1413 : cdA 227 1413 = some (.iadd) := by decide +kernel
theorem y1414 : cdA 227 1414 = some (.iaload) := by decide +kernel
theorem y1415 : cdA 227 1415 = some (.aload_n 0) := by decide +kernel
theorem y1416 : cdA 227 1416 = some (.iload_n 3) := by decide +kernel
theorem y1417 : cdA 227 1417 = some (.iconst 4) := by decide +kernel
theorem y1418 : cdA 227 1418 = some (.iadd) := by decide +kernel
theorem y1419 : cdA 227 1419 = some (.iaload) := by decide +kernel
theorem y1420 : cdA 227 1420 = some (.invokevirtual 148) := by decide +kernel
theorem ym148 : mthR (moN 227) 148 = 113 := by decide +kernel
theorem yF110 : mF 110 4 10 true := by unfold mF; decide +kernel
theorem yK110 : ¬ mK 110 = 4 := by decide +kernel
theorem yS110 : SH0[0]? = some (.inl (moN 110)) := by decide +kernel
theorem yR110 : mK 110 = 0 := by decide +kernel
theorem y1423 : cdA 227 1423 = some (.aload_n 2) := by decide +kernel
theorem y1424 : cdA 227 1424 = some (.aload_n 0) := by decide +kernel
theorem y1425 : cdA 227 1425 = some (.iload_n 3) := by decide +kernel
theorem y1426 : cdA 227 1426 = some (.iconst 1) := by decide +kernel
theorem y1427 : cdA 227 1427 = some (.iadd) := by decide +kernel
theorem y1428 : cdA 227 1428 = some (.iaload) := by decide +kernel
theorem y1429 : cdA 227 1429 = some (.aload_n 0) := by decide +kernel
theorem y1430 : cdA 227 1430 = some (.iload_n 3) := by decide +kernel
theorem y1431 : cdA 227 1431 = some (.iconst 2) := by decide +kernel
theorem y1432 : cdA 227 1432 = some (.iadd) := by decide +kernel
theorem y1433 : cdA 227 1433 = some (.iaload) := by decide +kernel
theorem y1434 : cdA 227 1434 = some (.aload_n 0) := by decide +kernel
theorem y1435 : cdA 227 1435 = some (.iload_n 3) := by decide +kernel
theorem y1436 : cdA 227 1436 = some (.iconst 3) := by decide +kernel
theorem y1437 : cdA 227 1437 = some (.iadd) := by decide +kernel
theorem y1438 : cdA 227 1438 = some (.iaload) := by decide +kernel
theorem y1439 : cdA 227 1439 = some (.aload_n 0) := by decide +kernel
theorem y1440 : cdA 227 1440 = some (.iload_n 3) := by decide +kernel
theorem y1441 : cdA 227 1441 = some (.iconst 4) := by decide +kernel
theorem y1442 : cdA 227 1442 = some (.iadd) := by decide +kernel
theorem y1443 : cdA 227 1443 = some (.iaload) := by decide +kernel
theorem y1444 : cdA 227 1444 = some (.invokevirtual 151) := by decide +kernel
theorem ym151 : mthR (moN 227) 151 = 213 := by decide +kernel
theorem yF210 : mF 210 4 6 true := by unfold mF; decide +kernel
theorem yK210 : ¬ mK 210 = 4 := by decide +kernel
theorem yS210 : SH0[69]? = some (.inl (moN 210)) := by decide +kernel
theorem yR210 : mK 210 = 0 := by decide +kernel
theorem y1447 : cdA 227 1447 = some (.if_icmp .eq 327) := by decide +kernel
theorem y1452 : cdA 227 1452 = some (.aload_n 1) := by decide +kernel
theorem y1453 : cdA 227 1453 = some (.aload_n 0) := by decide +kernel
theorem y1454 : cdA 227 1454 = some (.iload_n 3) := by decide +kernel
theorem y1455 : cdA 227 1455 = some (.iconst 1) := by decide +kernel
theorem y1456 : cdA 227 1456 = some (.iadd) := by decide +kernel
theorem y1457 : cdA 227 1457 = some (.iaload) := by decide +kernel
theorem y1458 : cdA 227 1458 = some (.aload_n 0) := by decide +kernel
theorem y1459 : cdA 227 1459 = some (.iload_n 3) := by decide +kernel
theorem y1460 : cdA 227 1460 = some (.iconst 2) := by decide +kernel
theorem y1461 : cdA 227 1461 = some (.iadd) := by decide +kernel
theorem y1462 : cdA 227 1462 = some (.iaload) := by decide +kernel
theorem y1463 : cdA 227 1463 = some (.aload_n 0) := by decide +kernel
theorem y1464 : cdA 227 1464 = some (.iload_n 3) := by decide +kernel
theorem y1465 : cdA 227 1465 = some (.iconst 3) := by decide +kernel
theorem y1466 : cdA 227 1466 = some (.iadd) := by decide +kernel
theorem y1467 : cdA 227 1467 = some (.iaload) := by decide +kernel
theorem y1468 : cdA 227 1468 = some (.invokevirtual 152) := by decide +kernel
theorem ym152 : mthR (moN 227) 152 = 114 := by decide +kernel
theorem yF111 : mF 111 3 4 true := by unfold mF; decide +kernel
theorem yK111 : ¬ mK 111 = 4 := by decide +kernel
theorem yS111 : SH0[0]? = some (.inl (moN 111)) := by decide +kernel
theorem yR111 : mK 111 = 0 := by decide +kernel
theorem y1471 : cdA 227 1471 = some (.aload_n 2) := by decide +kernel
theorem y1472 : cdA 227 1472 = some (.aload_n 0) := by decide +kernel
theorem y1473 : cdA 227 1473 = some (.iload_n 3) := by decide +kernel
theorem y1474 : cdA 227 1474 = some (.iconst 1) := by decide +kernel
theorem y1475 : cdA 227 1475 = some (.iadd) := by decide +kernel
theorem y1476 : cdA 227 1476 = some (.iaload) := by decide +kernel
theorem y1477 : cdA 227 1477 = some (.aload_n 0) := by decide +kernel
theorem y1478 : cdA 227 1478 = some (.iload_n 3) := by decide +kernel
theorem y1479 : cdA 227 1479 = some (.iconst 2) := by decide +kernel
theorem y1480 : cdA 227 1480 = some (.iadd) := by decide +kernel
theorem y1481 : cdA 227 1481 = some (.iaload) := by decide +kernel
theorem y1482 : cdA 227 1482 = some (.aload_n 0) := by decide +kernel
theorem y1483 : cdA 227 1483 = some (.iload_n 3) := by decide +kernel
theorem y1484 : cdA 227 1484 = some (.iconst 3) := by decide +kernel
theorem y1485 : cdA 227 1485 = some (.iadd) := by decide +kernel
theorem y1486 : cdA 227 1486 = some (.iaload) := by decide +kernel
theorem y1487 : cdA 227 1487 = some (.invokevirtual 155) := by decide +kernel
theorem ym155 : mthR (moN 227) 155 = 214 := by decide +kernel
theorem yF211 : mF 211 3 4 true := by unfold mF; decide +kernel
theorem yK211 : ¬ mK 211 = 4 := by decide +kernel
theorem yS211 : SH0[69]? = some (.inl (moN 211)) := by decide +kernel
theorem yR211 : mK 211 = 0 := by decide +kernel
theorem y1490 : cdA 227 1490 = some (.if_icmp .eq 284) := by decide +kernel
theorem y1495 : cdA 227 1495 = some (.aload_n 1) := by decide +kernel
theorem y1496 : cdA 227 1496 = some (.aload_n 0) := by decide +kernel
theorem y1497 : cdA 227 1497 = some (.iload_n 3) := by decide +kernel
theorem y1498 : cdA 227 1498 = some (.iconst 1) := by decide +kernel
theorem y1499 : cdA 227 1499 = some (.iadd) := by decide +kernel
theorem y1500 : cdA 227 1500 = some (.iaload) := by decide +kernel
theorem y1501 : cdA 227 1501 = some (.aload_n 0) := by decide +kernel
theorem y1502 : cdA 227 1502 = some (.iload_n 3) := by decide +kernel
theorem y1503 : cdA 227 1503 = some (.iconst 2) := by decide +kernel
theorem y1504 : cdA 227 1504 = some (.iadd) := by decide +kernel
theorem y1505 : cdA 227 1505 = some (.iaload) := by decide +kernel
theorem y1506 : cdA 227 1506 = some (.ifCond .eq 7) := by decide +kernel
theorem y1513 : cdA 227 1513 = some (.iconst 0) := by decide +kernel
theorem y1514 : cdA 227 1514 = some (.aload_n 0) := by decide +kernel
theorem y1515 : cdA 227 1515 = some (.iload_n 3) := by decide +kernel
theorem y1516 : cdA 227 1516 = some (.iconst 3) := by decide +kernel
theorem y1517 : cdA 227 1517 = some (.iadd) := by decide +kernel
theorem y1518 : cdA 227 1518 = some (.iaload) := by decide +kernel
theorem y1519 : cdA 227 1519 = some (.invokevirtual 156) := by decide +kernel
theorem ym156 : mthR (moN 227) 156 = 115 := by decide +kernel
theorem yF112 : mF 112 3 7 true := by unfold mF; decide +kernel
theorem yK112 : ¬ mK 112 = 4 := by decide +kernel
theorem yS112 : SH0[0]? = some (.inl (moN 112)) := by decide +kernel
theorem yR112 : mK 112 = 0 := by decide +kernel
theorem y1522 : cdA 227 1522 = some (.aload_n 2) := by decide +kernel
theorem y1523 : cdA 227 1523 = some (.aload_n 0) := by decide +kernel
theorem y1524 : cdA 227 1524 = some (.iload_n 3) := by decide +kernel
theorem y1525 : cdA 227 1525 = some (.iconst 1) := by decide +kernel
theorem y1526 : cdA 227 1526 = some (.iadd) := by decide +kernel
theorem y1527 : cdA 227 1527 = some (.iaload) := by decide +kernel
theorem y1528 : cdA 227 1528 = some (.aload_n 0) := by decide +kernel
theorem y1529 : cdA 227 1529 = some (.iload_n 3) := by decide +kernel
theorem y1530 : cdA 227 1530 = some (.iconst 2) := by decide +kernel
theorem y1531 : cdA 227 1531 = some (.iadd) := by decide +kernel
theorem y1532 : cdA 227 1532 = some (.iaload) := by decide +kernel
theorem y1533 : cdA 227 1533 = some (.ifCond .eq 7) := by decide +kernel
theorem y1540 : cdA 227 1540 = some (.iconst 0) := by decide +kernel
theorem y1541 : cdA 227 1541 = some (.aload_n 0) := by decide +kernel
theorem y1542 : cdA 227 1542 = some (.iload_n 3) := by decide +kernel
theorem y1543 : cdA 227 1543 = some (.iconst 3) := by decide +kernel
theorem y1544 : cdA 227 1544 = some (.iadd) := by decide +kernel
theorem y1545 : cdA 227 1545 = some (.iaload) := by decide +kernel
theorem y1546 : cdA 227 1546 = some (.invokevirtual 159) := by decide +kernel
theorem ym159 : mthR (moN 227) 159 = 215 := by decide +kernel
theorem yF212 : mF 212 3 5 true := by unfold mF; decide +kernel
theorem yK212 : ¬ mK 212 = 4 := by decide +kernel
theorem yS212 : SH0[69]? = some (.inl (moN 212)) := by decide +kernel
theorem yR212 : mK 212 = 0 := by decide +kernel
theorem y1549 : cdA 227 1549 = some (.if_icmp .eq 225) := by decide +kernel
theorem y1509 : cdA 227 1509 = some (.iconst 1) := by decide +kernel
theorem y1510 : cdA 227 1510 = some (.goto 4) := by decide +kernel
theorem y1536 : cdA 227 1536 = some (.iconst 1) := by decide +kernel
theorem y1537 : cdA 227 1537 = some (.goto 4) := by decide +kernel
theorem y1554 : cdA 227 1554 = some (.aload_n 1) := by decide +kernel
theorem y1555 : cdA 227 1555 = some (.aload_n 0) := by decide +kernel
theorem y1556 : cdA 227 1556 = some (.iload_n 3) := by decide +kernel
theorem y1557 : cdA 227 1557 = some (.iconst 1) := by decide +kernel
theorem y1558 : cdA 227 1558 = some (.iadd) := by decide +kernel
theorem y1559 : cdA 227 1559 = some (.iaload) := by decide +kernel
theorem y1560 : cdA 227 1560 = some (.invokevirtual 160) := by decide +kernel
theorem ym160 : mthR (moN 227) 160 = 116 := by decide +kernel
theorem yF113 : mF 113 1 3 true := by unfold mF; decide +kernel
theorem yK113 : ¬ mK 113 = 4 := by decide +kernel
theorem yS113 : SH0[0]? = some (.inl (moN 113)) := by decide +kernel
theorem yR113 : mK 113 = 0 := by decide +kernel
theorem y1563 : cdA 227 1563 = some (.aload_n 2) := by decide +kernel
theorem y1564 : cdA 227 1564 = some (.aload_n 0) := by decide +kernel
theorem y1565 : cdA 227 1565 = some (.iload_n 3) := by decide +kernel
theorem y1566 : cdA 227 1566 = some (.iconst 1) := by decide +kernel
theorem y1567 : cdA 227 1567 = some (.iadd) := by decide +kernel
theorem y1568 : cdA 227 1568 = some (.iaload) := by decide +kernel
theorem y1569 : cdA 227 1569 = some (.invokevirtual 163) := by decide +kernel
theorem ym163 : mthR (moN 227) 163 = 216 := by decide +kernel
theorem yF213 : mF 213 1 3 true := by unfold mF; decide +kernel
theorem yK213 : ¬ mK 213 = 4 := by decide +kernel
theorem yS213 : SH0[69]? = some (.inl (moN 213)) := by decide +kernel
theorem yR213 : mK 213 = 0 := by decide +kernel
theorem y1572 : cdA 227 1572 = some (.if_icmp .eq 202) := by decide +kernel
theorem y1577 : cdA 227 1577 = some (.aload_n 1) := by decide +kernel
theorem y1578 : cdA 227 1578 = some (.aload_n 0) := by decide +kernel
theorem y1579 : cdA 227 1579 = some (.iload_n 3) := by decide +kernel
theorem y1580 : cdA 227 1580 = some (.iconst 1) := by decide +kernel
theorem y1581 : cdA 227 1581 = some (.iadd) := by decide +kernel
theorem y1582 : cdA 227 1582 = some (.iaload) := by decide +kernel
theorem y1583 : cdA 227 1583 = some (.aload_n 0) := by decide +kernel
theorem y1584 : cdA 227 1584 = some (.iload_n 3) := by decide +kernel
theorem y1585 : cdA 227 1585 = some (.iconst 2) := by decide +kernel
theorem y1586 : cdA 227 1586 = some (.iadd) := by decide +kernel
theorem y1587 : cdA 227 1587 = some (.iaload) := by decide +kernel
theorem y1588 : cdA 227 1588 = some (.invokevirtual 164) := by decide +kernel
theorem ym164 : mthR (moN 227) 164 = 117 := by decide +kernel
theorem yF114 : mF 114 2 5 true := by unfold mF; decide +kernel
theorem yK114 : ¬ mK 114 = 4 := by decide +kernel
theorem yS114 : SH0[0]? = some (.inl (moN 114)) := by decide +kernel
theorem yR114 : mK 114 = 0 := by decide +kernel
theorem y1591 : cdA 227 1591 = some (.aload_n 2) := by decide +kernel
theorem y1592 : cdA 227 1592 = some (.aload_n 0) := by decide +kernel
theorem y1593 : cdA 227 1593 = some (.iload_n 3) := by decide +kernel
theorem y1594 : cdA 227 1594 = some (.iconst 1) := by decide +kernel
theorem y1595 : cdA 227 1595 = some (.iadd) := by decide +kernel
theorem y1596 : cdA 227 1596 = some (.iaload) := by decide +kernel
theorem y1597 : cdA 227 1597 = some (.aload_n 0) := by decide +kernel
theorem y1598 : cdA 227 1598 = some (.iload_n 3) := by decide +kernel
theorem y1599 : cdA 227 1599 = some (.iconst 2) := by decide +kernel
theorem y1600 : cdA 227 1600 = some (.iadd) := by decide +kernel
theorem y1601 : cdA 227 1601 = some (.iaload) := by decide +kernel
theorem y1602 : cdA 227 1602 = some (.invokevirtual 167) := by decide +kernel
theorem ym167 : mthR (moN 227) 167 = 218 := by decide +kernel
theorem yF215 : mF 215 2 3 true := by unfold mF; decide +kernel
theorem yK215 : ¬ mK 215 = 4 := by decide +kernel
theorem yS215 : SH0[69]? = some (.inl (moN 215)) := by decide +kernel
theorem yR215 : mK 215 = 0 := by decide +kernel
theorem y1605 : cdA 227 1605 = some (.if_icmp .eq 169) := by decide +kernel
theorem y1610 : cdA 227 1610 = some (.aload_n 1) := by decide +kernel
theorem y1611 : cdA 227 1611 = some (.aload_n 0) := by decide +kernel
theorem y1612 : cdA 227 1612 = some (.iload_n 3) := by decide +kernel
theorem y1613 : cdA 227 1613 = some (.iconst 1) := by decide +kernel
theorem y1614 : cdA 227 1614 = some (.iadd) := by decide +kernel
theorem y1615 : cdA 227 1615 = some (.iaload) := by decide +kernel
theorem y1616 : cdA 227 1616 = some (.invokevirtual 168) := by decide +kernel
theorem ym168 : mthR (moN 227) 168 = 118 := by decide +kernel
theorem yF115 : mF 115 1 5 true := by unfold mF; decide +kernel
theorem yK115 : ¬ mK 115 = 4 := by decide +kernel
theorem yS115 : SH0[0]? = some (.inl (moN 115)) := by decide +kernel
theorem yR115 : mK 115 = 0 := by decide +kernel
theorem y1619 : cdA 227 1619 = some (.aload_n 2) := by decide +kernel
theorem y1620 : cdA 227 1620 = some (.aload_n 0) := by decide +kernel
theorem y1621 : cdA 227 1621 = some (.iload_n 3) := by decide +kernel
theorem y1622 : cdA 227 1622 = some (.iconst 1) := by decide +kernel
theorem y1623 : cdA 227 1623 = some (.iadd) := by decide +kernel
theorem y1624 : cdA 227 1624 = some (.iaload) := by decide +kernel
theorem y1625 : cdA 227 1625 = some (.invokevirtual 171) := by decide +kernel
theorem ym171 : mthR (moN 227) 171 = 219 := by decide +kernel
theorem yF216 : mF 216 1 3 true := by unfold mF; decide +kernel
theorem yK216 : ¬ mK 216 = 4 := by decide +kernel
theorem yS216 : SH0[69]? = some (.inl (moN 216)) := by decide +kernel
theorem yR216 : mK 216 = 0 := by decide +kernel
theorem y1628 : cdA 227 1628 = some (.if_icmp .eq 146) := by decide +kernel
theorem y1633 : cdA 227 1633 = some (.aload_n 1) := by decide +kernel
theorem y1634 : cdA 227 1634 = some (.aload_n 0) := by decide +kernel
theorem y1635 : cdA 227 1635 = some (.iload_n 3) := by decide +kernel
theorem y1636 : cdA 227 1636 = some (.iconst 1) := by decide +kernel
theorem y1637 : cdA 227 1637 = some (.iadd) := by decide +kernel
theorem y1638 : cdA 227 1638 = some (.iaload) := by decide +kernel
theorem y1639 : cdA 227 1639 = some (.invokevirtual 172) := by decide +kernel
theorem ym172 : mthR (moN 227) 172 = 119 := by decide +kernel
theorem yF116 : mF 116 1 2 true := by unfold mF; decide +kernel
theorem yK116 : ¬ mK 116 = 4 := by decide +kernel
theorem yS116 : SH0[0]? = some (.inl (moN 116)) := by decide +kernel
theorem yR116 : mK 116 = 0 := by decide +kernel
theorem y1642 : cdA 227 1642 = some (.aload_n 2) := by decide +kernel
theorem y1643 : cdA 227 1643 = some (.aload_n 0) := by decide +kernel
theorem y1644 : cdA 227 1644 = some (.iload_n 3) := by decide +kernel
theorem y1645 : cdA 227 1645 = some (.iconst 1) := by decide +kernel
theorem y1646 : cdA 227 1646 = some (.iadd) := by decide +kernel
theorem y1647 : cdA 227 1647 = some (.iaload) := by decide +kernel
theorem y1648 : cdA 227 1648 = some (.invokevirtual 175) := by decide +kernel
theorem ym175 : mthR (moN 227) 175 = 220 := by decide +kernel
theorem yF217 : mF 217 1 6 true := by unfold mF; decide +kernel
theorem yK217 : ¬ mK 217 = 4 := by decide +kernel
theorem yS217 : SH0[69]? = some (.inl (moN 217)) := by decide +kernel
theorem yR217 : mK 217 = 0 := by decide +kernel
theorem y1651 : cdA 227 1651 = some (.if_icmp .eq 123) := by decide +kernel
theorem y1656 : cdA 227 1656 = some (.aload_n 1) := by decide +kernel
theorem y1657 : cdA 227 1657 = some (.aload_n 0) := by decide +kernel
theorem y1658 : cdA 227 1658 = some (.iload_n 3) := by decide +kernel
theorem y1659 : cdA 227 1659 = some (.iconst 1) := by decide +kernel
theorem y1660 : cdA 227 1660 = some (.iadd) := by decide +kernel
theorem y1661 : cdA 227 1661 = some (.iaload) := by decide +kernel
theorem y1662 : cdA 227 1662 = some (.aload_n 0) := by decide +kernel
theorem y1663 : cdA 227 1663 = some (.iload_n 3) := by decide +kernel
theorem y1664 : cdA 227 1664 = some (.iconst 2) := by decide +kernel
theorem y1665 : cdA 227 1665 = some (.iadd) := by decide +kernel
theorem y1666 : cdA 227 1666 = some (.iaload) := by decide +kernel
theorem y1667 : cdA 227 1667 = some (.aload_n 0) := by decide +kernel
theorem y1668 : cdA 227 1668 = some (.iload_n 3) := by decide +kernel
theorem y1669 : cdA 227 1669 = some (.iconst 3) := by decide +kernel
theorem y1670 : cdA 227 1670 = some (.iadd) := by decide +kernel
theorem y1671 : cdA 227 1671 = some (.iaload) := by decide +kernel
theorem y1672 : cdA 227 1672 = some (.aload_n 0) := by decide +kernel
theorem y1673 : cdA 227 1673 = some (.iload_n 3) := by decide +kernel
theorem y1674 : cdA 227 1674 = some (.iconst 4) := by decide +kernel
theorem y1675 : cdA 227 1675 = some (.iadd) := by decide +kernel
theorem y1676 : cdA 227 1676 = some (.iaload) := by decide +kernel
theorem y1677 : cdA 227 1677 = some (.ifCond .eq 7) := by decide +kernel
theorem y1684 : cdA 227 1684 = some (.iconst 0) := by decide +kernel
theorem y1685 : cdA 227 1685 = some (.invokevirtual 176) := by decide +kernel
theorem ym176 : mthR (moN 227) 176 = 120 := by decide +kernel
theorem yF117 : mF 117 4 8 true := by unfold mF; decide +kernel
theorem yK117 : ¬ mK 117 = 4 := by decide +kernel
theorem yS117 : SH0[0]? = some (.inl (moN 117)) := by decide +kernel
theorem yR117 : mK 117 = 0 := by decide +kernel
theorem y1688 : cdA 227 1688 = some (.aload_n 2) := by decide +kernel
theorem y1689 : cdA 227 1689 = some (.aload_n 0) := by decide +kernel
theorem y1690 : cdA 227 1690 = some (.iload_n 3) := by decide +kernel
theorem y1691 : cdA 227 1691 = some (.iconst 1) := by decide +kernel
theorem y1692 : cdA 227 1692 = some (.iadd) := by decide +kernel
theorem y1693 : cdA 227 1693 = some (.iaload) := by decide +kernel
theorem y1694 : cdA 227 1694 = some (.aload_n 0) := by decide +kernel
theorem y1695 : cdA 227 1695 = some (.iload_n 3) := by decide +kernel
theorem y1696 : cdA 227 1696 = some (.iconst 2) := by decide +kernel
theorem y1697 : cdA 227 1697 = some (.iadd) := by decide +kernel
theorem y1698 : cdA 227 1698 = some (.iaload) := by decide +kernel
theorem y1699 : cdA 227 1699 = some (.aload_n 0) := by decide +kernel
theorem y1700 : cdA 227 1700 = some (.iload_n 3) := by decide +kernel
theorem y1701 : cdA 227 1701 = some (.iconst 3) := by decide +kernel
theorem y1702 : cdA 227 1702 = some (.iadd) := by decide +kernel
theorem y1703 : cdA 227 1703 = some (.iaload) := by decide +kernel
theorem y1704 : cdA 227 1704 = some (.aload_n 0) := by decide +kernel
theorem y1705 : cdA 227 1705 = some (.iload_n 3) := by decide +kernel
theorem y1706 : cdA 227 1706 = some (.iconst 4) := by decide +kernel
theorem y1707 : cdA 227 1707 = some (.iadd) := by decide +kernel
theorem y1708 : cdA 227 1708 = some (.iaload) := by decide +kernel
theorem y1709 : cdA 227 1709 = some (.ifCond .eq 7) := by decide +kernel
theorem y1716 : cdA 227 1716 = some (.iconst 0) := by decide +kernel
theorem y1717 : cdA 227 1717 = some (.invokevirtual 179) := by decide +kernel
theorem ym179 : mthR (moN 227) 179 = 222 := by decide +kernel
theorem yF219 : mF 219 4 9 true := by unfold mF; decide +kernel
theorem yK219 : ¬ mK 219 = 4 := by decide +kernel
theorem yS219 : SH0[69]? = some (.inl (moN 219)) := by decide +kernel
theorem yR219 : mK 219 = 0 := by decide +kernel
theorem y1720 : cdA 227 1720 = some (.if_icmp .eq 54) := by decide +kernel
theorem y1680 : cdA 227 1680 = some (.iconst 1) := by decide +kernel
theorem y1681 : cdA 227 1681 = some (.goto 4) := by decide +kernel
theorem y1712 : cdA 227 1712 = some (.iconst 1) := by decide +kernel
theorem y1713 : cdA 227 1713 = some (.goto 4) := by decide +kernel
theorem y1725 : cdA 227 1725 = some (.aload_n 1) := by decide +kernel
theorem y1726 : cdA 227 1726 = some (.invokevirtual 180) := by decide +kernel
theorem ym180 : mthR (moN 227) 180 = 121 := by decide +kernel
theorem yF118 : mF 118 0 1 true := by unfold mF; decide +kernel
theorem yK118 : ¬ mK 118 = 4 := by decide +kernel
theorem yS118 : SH0[0]? = some (.inl (moN 118)) := by decide +kernel
theorem yR118 : mK 118 = 0 := by decide +kernel
theorem y1729 : cdA 227 1729 = some (.aload_n 2) := by decide +kernel
theorem y1730 : cdA 227 1730 = some (.invokevirtual 183) := by decide +kernel
theorem ym183 : mthR (moN 227) 183 = 151 := by decide +kernel
theorem yF148 : mF 148 0 1 true := by unfold mF; decide +kernel
theorem yK148 : ¬ mK 148 = 4 := by decide +kernel
theorem yS148 : SH0[69]? = some (.inl (moN 148)) := by decide +kernel
theorem yR148 : mK 148 = 0 := by decide +kernel
theorem y1733 : cdA 227 1733 = some (.if_icmp .eq 41) := by decide +kernel
theorem y1738 : cdA 227 1738 = some (.aload_n 1) := by decide +kernel
theorem y1739 : cdA 227 1739 = some (.invokevirtual 184) := by decide +kernel
theorem ym184 : mthR (moN 227) 184 = 122 := by decide +kernel
theorem yF119 : mF 119 0 1 true := by unfold mF; decide +kernel
theorem yK119 : ¬ mK 119 = 4 := by decide +kernel
theorem yS119 : SH0[0]? = some (.inl (moN 119)) := by decide +kernel
theorem yR119 : mK 119 = 0 := by decide +kernel
theorem y1742 : cdA 227 1742 = some (.aload_n 2) := by decide +kernel
theorem y1743 : cdA 227 1743 = some (.invokevirtual 187) := by decide +kernel
theorem ym187 : mthR (moN 227) 187 = 152 := by decide +kernel
theorem yF149 : mF 149 0 1 true := by unfold mF; decide +kernel
theorem yK149 : ¬ mK 149 = 4 := by decide +kernel
theorem yS149 : SH0[69]? = some (.inl (moN 149)) := by decide +kernel
theorem yR149 : mK 149 = 0 := by decide +kernel
theorem y1746 : cdA 227 1746 = some (.if_icmp .eq 28) := by decide +kernel
theorem y1751 : cdA 227 1751 = some (.aload_n 1) := by decide +kernel
theorem y1752 : cdA 227 1752 = some (.aload_n 0) := by decide +kernel
theorem y1753 : cdA 227 1753 = some (.iload_n 3) := by decide +kernel
theorem y1754 : cdA 227 1754 = some (.iconst 1) := by decide +kernel
theorem y1755 : cdA 227 1755 = some (.iadd) := by decide +kernel
theorem y1756 : cdA 227 1756 = some (.iaload) := by decide +kernel
theorem y1757 : cdA 227 1757 = some (.invokevirtual 188) := by decide +kernel
theorem ym188 : mthR (moN 227) 188 = 123 := by decide +kernel
theorem yF120 : mF 120 1 2 true := by unfold mF; decide +kernel
theorem yK120 : ¬ mK 120 = 4 := by decide +kernel
theorem yS120 : SH0[0]? = some (.inl (moN 120)) := by decide +kernel
theorem yR120 : mK 120 = 0 := by decide +kernel
theorem y1760 : cdA 227 1760 = some (.aload_n 2) := by decide +kernel
theorem y1761 : cdA 227 1761 = some (.aload_n 0) := by decide +kernel
theorem y1762 : cdA 227 1762 = some (.iload_n 3) := by decide +kernel
theorem y1763 : cdA 227 1763 = some (.iconst 1) := by decide +kernel
theorem y1764 : cdA 227 1764 = some (.iadd) := by decide +kernel
theorem y1765 : cdA 227 1765 = some (.iaload) := by decide +kernel
theorem y1766 : cdA 227 1766 = some (.invokevirtual 191) := by decide +kernel
theorem ym191 : mthR (moN 227) 191 = 223 := by decide +kernel
theorem yF220 : mF 220 1 2 true := by unfold mF; decide +kernel
theorem yK220 : ¬ mK 220 = 4 := by decide +kernel
theorem yS220 : SH0[69]? = some (.inl (moN 220)) := by decide +kernel
theorem yR220 : mK 220 = 0 := by decide +kernel
theorem y1769 : cdA 227 1769 = some (.if_icmp .eq 5) := by decide +kernel
theorem lw_c0 {S : SC} {n : Nat} {i : Int} {h : HP} (hS : S.1 = n + 1) (hi : 0 ≤ i) (hin : i + 6 ≤ n) (hn : n ≤ 3072) (hr : ∀ j, i32 (S.2 j)) (HX : ∀ (v1 v2 v3 : Int), i32 v1 → i32 v2 → i32 v3 → X 63 80 0 [some (P 0), some (I v1), some (I v2), some (I v3)] [] h (fun r h1 => X 63 139 0 [some (P 69), some (I v1), some (I v2), some (I v3)] [] h1 (fun r' h2 => EQA r r' h2))) (Hk : ∀ h', R h' → Y S 1774 [some PX, some (P 0), some (P 69), some (I i)] [] h') : Y S 212 [some PX, some (P 0), some (P 69), some (I i)] [] h :=
  y_aload y212 rfl (y_aloadX y213 rfl (y_iload y214 rfl (y_iconst y215 rfl (y_iadd y216 (y_sld hS y217 (ix_ok 1 hi hin hn (by decide) (by decide)) (y_aloadX y218 rfl (y_iload y219 rfl (y_iconst y220 rfl (y_iadd y221 (y_sld hS y222 (ix_ok 2 hi hin hn (by decide) (by decide)) (y_aloadX y223 rfl (y_iload y224 rfl (y_iconst y225 rfl (y_iadd y226 (y_sld hS y227 (ix_ok 3 hi hin hn (by decide) (by decide)) (y_call y228 ym13 yF80 yK80 rfl (Nat.le_of_ble_eq_true rfl) rfl yS80 rfl (X_mono (X_tag (HX (S.2 (w32 (i + 1)).toNat) (S.2 (w32 (i + 2)).toNat) (S.2 (w32 (i + 3)).toNat) (hr _) (hr _) (hr _))) (fun r h1 p1 => by
    obtain ⟨a, rfl⟩ := (p1.2.1 (Or.inl yR80))
    exact y_aload y231 rfl (y_aloadX y232 rfl (y_iload y233 rfl (y_iconst y234 rfl (y_iadd y235 (y_sld hS y236 (ix_ok 1 hi hin hn (by decide) (by decide)) (y_aloadX y237 rfl (y_iload y238 rfl (y_iconst y239 rfl (y_iadd y240 (y_sld hS y241 (ix_ok 2 hi hin hn (by decide) (by decide)) (y_aloadX y242 rfl (y_iload y243 rfl (y_iconst y244 rfl (y_iadd y245 (y_sld hS y246 (ix_ok 3 hi hin hn (by decide) (by decide)) (y_call y247 ym17 yF139 yK139 rfl (Nat.le_of_ble_eq_true rfl) rfl yS139 rfl (X_mono (X_tag p1.1) (fun r2 h2 p2 => by
    obtain ⟨e, eR⟩ := id p2.1
    subst e
    exact y_ifc 1774 _ y250 (by decide) rfl (fun _ => Hk _ p2.1.2) (fun q => absurd rfl q)))))))))))))))))))))))))))))))))))))
theorem lw_c1 {S : SC} {n : Nat} {i : Int} {h : HP} (hS : S.1 = n + 1) (hi : 0 ≤ i) (hin : i + 6 ≤ n) (hn : n ≤ 3072) (hr : ∀ j, i32 (S.2 j)) (HX : ∀ (v1 v2 : Int), i32 v1 → i32 v2 → X 63 81 0 [some (P 0), some (I v1), some (I v2)] [] h (fun r h1 => X 63 140 0 [some (P 69), some (I v1), some (I v2), none] [] h1 (fun r' h2 => EQA r r' h2))) (Hk : ∀ h', R h' → Y S 1774 [some PX, some (P 0), some (P 69), some (I i)] [] h') : Y S 255 [some PX, some (P 0), some (P 69), some (I i)] [] h :=
  y_aload y255 rfl (y_aloadX y256 rfl (y_iload y257 rfl (y_iconst y258 rfl (y_iadd y259 (y_sld hS y260 (ix_ok 1 hi hin hn (by decide) (by decide)) (y_aloadX y261 rfl (y_iload y262 rfl (y_iconst y263 rfl (y_iadd y264 (y_sld hS y265 (ix_ok 2 hi hin hn (by decide) (by decide)) (y_call y266 ym18 yF81 yK81 rfl (Nat.le_of_ble_eq_true rfl) rfl yS81 rfl (X_mono (X_tag (HX (S.2 (w32 (i + 1)).toNat) (S.2 (w32 (i + 2)).toNat) (hr _) (hr _))) (fun r h1 p1 => by
    obtain ⟨a, rfl⟩ := (p1.2.1 (Or.inl yR81))
    exact y_aload y269 rfl (y_aloadX y270 rfl (y_iload y271 rfl (y_iconst y272 rfl (y_iadd y273 (y_sld hS y274 (ix_ok 1 hi hin hn (by decide) (by decide)) (y_aloadX y275 rfl (y_iload y276 rfl (y_iconst y277 rfl (y_iadd y278 (y_sld hS y279 (ix_ok 2 hi hin hn (by decide) (by decide)) (y_call y280 ym22 yF140 yK140 rfl (Nat.le_of_ble_eq_true rfl) rfl yS140 rfl (X_mono (X_tag p1.1) (fun r2 h2 p2 => by
    obtain ⟨e, eR⟩ := id p2.1
    subst e
    exact y_ifc 1774 _ y283 (by decide) rfl (fun _ => Hk _ p2.1.2) (fun q => absurd rfl q)))))))))))))))))))))))))))
theorem lw_c2 {S : SC} {n : Nat} {i : Int} {h : HP} (hS : S.1 = n + 1) (hi : 0 ≤ i) (hin : i + 6 ≤ n) (hn : n ≤ 3072) (hr : ∀ j, i32 (S.2 j)) (HX : ∀ (v1 v2 : Int), i32 v1 → i32 v2 → X 63 82 0 [some (P 0), some (I v1), some (I v2)] [] h (fun r h1 => X 63 141 0 [some (P 69), some (I v1), some (I v2), none] [] h1 (fun r' h2 => EQA r r' h2))) (Hk : ∀ h', R h' → Y S 1774 [some PX, some (P 0), some (P 69), some (I i)] [] h') : Y S 288 [some PX, some (P 0), some (P 69), some (I i)] [] h :=
  y_aload y288 rfl (y_aloadX y289 rfl (y_iload y290 rfl (y_iconst y291 rfl (y_iadd y292 (y_sld hS y293 (ix_ok 1 hi hin hn (by decide) (by decide)) (y_aloadX y294 rfl (y_iload y295 rfl (y_iconst y296 rfl (y_iadd y297 (y_sld hS y298 (ix_ok 2 hi hin hn (by decide) (by decide)) (y_call y299 ym23 yF82 yK82 rfl (Nat.le_of_ble_eq_true rfl) rfl yS82 rfl (X_mono (X_tag (HX (S.2 (w32 (i + 1)).toNat) (S.2 (w32 (i + 2)).toNat) (hr _) (hr _))) (fun r h1 p1 => by
    obtain ⟨a, rfl⟩ := (p1.2.1 (Or.inl yR82))
    exact y_aload y302 rfl (y_aloadX y303 rfl (y_iload y304 rfl (y_iconst y305 rfl (y_iadd y306 (y_sld hS y307 (ix_ok 1 hi hin hn (by decide) (by decide)) (y_aloadX y308 rfl (y_iload y309 rfl (y_iconst y310 rfl (y_iadd y311 (y_sld hS y312 (ix_ok 2 hi hin hn (by decide) (by decide)) (y_call y313 ym26 yF141 yK141 rfl (Nat.le_of_ble_eq_true rfl) rfl yS141 rfl (X_mono (X_tag p1.1) (fun r2 h2 p2 => by
    obtain ⟨e, eR⟩ := id p2.1
    subst e
    exact y_ifc 1774 _ y316 (by decide) rfl (fun _ => Hk _ p2.1.2) (fun q => absurd rfl q)))))))))))))))))))))))))))
theorem lw_c3 {S : SC} {n : Nat} {i : Int} {h : HP} (hS : S.1 = n + 1) (hi : 0 ≤ i) (hin : i + 6 ≤ n) (hn : n ≤ 3072) (hr : ∀ j, i32 (S.2 j)) (HX : ∀ (v1 v2 v3 v4 : Int), i32 v1 → i32 v2 → b01 v3 → i32 v4 → X 63 83 0 [some (P 0), some (I v1), some (I v2), some (I v3), some (I v4)] [] h (fun r h1 => X 63 142 0 [some (P 69), some (I v1), some (I v2), some (I v3), some (I v4), none, none] [] h1 (fun r' h2 => EQA r r' h2))) (Hk : ∀ h', R h' → Y S 1774 [some PX, some (P 0), some (P 69), some (I i)] [] h') : Y S 321 [some PX, some (P 0), some (P 69), some (I i)] [] h :=
  y_aload y321 rfl (y_aloadX y322 rfl (y_iload y323 rfl (y_iconst y324 rfl (y_iadd y325 (y_sld hS y326 (ix_ok 1 hi hin hn (by decide) (by decide)) (y_aloadX y327 rfl (y_iload y328 rfl (y_iconst y329 rfl (y_iadd y330 (y_sld hS y331 (ix_ok 2 hi hin hn (by decide) (by decide)) (y_aloadX y332 rfl (y_iload y333 rfl (y_iconst y334 rfl (y_iadd y335 (y_sld hS y336 (ix_ok 3 hi hin hn (by decide) (by decide)) (y_if 344 ((S.2 (w32 (i + 3)).toNat) = 0) y337 (by decide) rfl (fun q1 => y_iconst y344 rfl (y_aloadX y345 rfl (y_iload y346 rfl (y_iconst y347 rfl (y_iadd y348 (y_sld hS y349 (ix_ok 4 hi hin hn (by decide) (by decide)) (y_call y350 ym27 yF83 yK83 rfl (Nat.le_of_ble_eq_true rfl) rfl yS83 rfl (X_mono (X_tag (HX (S.2 (w32 (i + 1)).toNat) (S.2 (w32 (i + 2)).toNat) 0 (S.2 (w32 (i + 4)).toNat) (hr _) (hr _) (Or.inl rfl) (hr _))) (fun r h1 p2 => by
    obtain ⟨a, rfl⟩ := (p2.2.1 (Or.inl yR83))
    exact y_aload y353 rfl (y_aloadX y354 rfl (y_iload y355 rfl (y_iconst y356 rfl (y_iadd y357 (y_sld hS y358 (ix_ok 1 hi hin hn (by decide) (by decide)) (y_aloadX y359 rfl (y_iload y360 rfl (y_iconst y361 rfl (y_iadd y362 (y_sld hS y363 (ix_ok 2 hi hin hn (by decide) (by decide)) (y_aloadX y364 rfl (y_iload y365 rfl (y_iconst y366 rfl (y_iadd y367 (y_sld hS y368 (ix_ok 3 hi hin hn (by decide) (by decide)) (y_if 376 ((S.2 (w32 (i + 3)).toNat) = 0) y369 (by decide) rfl (fun _ => y_iconst y376 rfl (y_aloadX y377 rfl (y_iload y378 rfl (y_iconst y379 rfl (y_iadd y380 (y_sld hS y381 (ix_ok 4 hi hin hn (by decide) (by decide)) (y_call y382 ym31 yF142 yK142 rfl (Nat.le_of_ble_eq_true rfl) rfl yS142 rfl (X_mono (X_tag p2.1) (fun r2 h2 p3 => by
    obtain ⟨e, eR⟩ := id p3.1
    subst e
    exact y_ifc 1774 _ y385 (by decide) rfl (fun _ => Hk _ p3.1.2) (fun q => absurd rfl q)))))))))) (fun q => absurd q1 q)))))))))))))))))))))))))) (fun q1 => y_iconst y340 rfl (y_goto 345 y341 (by decide) (y_aloadX y345 rfl (y_iload y346 rfl (y_iconst y347 rfl (y_iadd y348 (y_sld hS y349 (ix_ok 4 hi hin hn (by decide) (by decide)) (y_call y350 ym27 yF83 yK83 rfl (Nat.le_of_ble_eq_true rfl) rfl yS83 rfl (X_mono (X_tag (HX (S.2 (w32 (i + 1)).toNat) (S.2 (w32 (i + 2)).toNat) 1 (S.2 (w32 (i + 4)).toNat) (hr _) (hr _) (Or.inr rfl) (hr _))) (fun r h1 p4 => by
    obtain ⟨a, rfl⟩ := (p4.2.1 (Or.inl yR83))
    exact y_aload y353 rfl (y_aloadX y354 rfl (y_iload y355 rfl (y_iconst y356 rfl (y_iadd y357 (y_sld hS y358 (ix_ok 1 hi hin hn (by decide) (by decide)) (y_aloadX y359 rfl (y_iload y360 rfl (y_iconst y361 rfl (y_iadd y362 (y_sld hS y363 (ix_ok 2 hi hin hn (by decide) (by decide)) (y_aloadX y364 rfl (y_iload y365 rfl (y_iconst y366 rfl (y_iadd y367 (y_sld hS y368 (ix_ok 3 hi hin hn (by decide) (by decide)) (y_if 376 ((S.2 (w32 (i + 3)).toNat) = 0) y369 (by decide) rfl (fun q => absurd q q1) (fun _ => y_iconst y372 rfl (y_goto 377 y373 (by decide) (y_aloadX y377 rfl (y_iload y378 rfl (y_iconst y379 rfl (y_iadd y380 (y_sld hS y381 (ix_ok 4 hi hin hn (by decide) (by decide)) (y_call y382 ym31 yF142 yK142 rfl (Nat.le_of_ble_eq_true rfl) rfl yS142 rfl (X_mono (X_tag p4.1) (fun r2 h2 p5 => by
    obtain ⟨e, eR⟩ := id p5.1
    subst e
    exact y_ifc 1774 _ y385 (by decide) rfl (fun _ => Hk _ p5.1.2) (fun q => absurd rfl q)))))))))))))))))))))))))))))))))))))))))))))))))))))
theorem lw_c4 {S : SC} {n : Nat} {i : Int} {h : HP} (hS : S.1 = n + 1) (hi : 0 ≤ i) (hin : i + 6 ≤ n) (hn : n ≤ 3072) (hr : ∀ j, i32 (S.2 j)) (HX : ∀ (v1 v2 : Int), i32 v1 → i32 v2 → X 63 84 0 [some (P 0), some (I v1), some (I v2)] [] h (fun r h1 => X 63 143 0 [some (P 69), some (I v1), some (I v2), none] [] h1 (fun r' h2 => EQA r r' h2))) (Hk : ∀ h', R h' → Y S 1774 [some PX, some (P 0), some (P 69), some (I i)] [] h') : Y S 390 [some PX, some (P 0), some (P 69), some (I i)] [] h :=
  y_aload y390 rfl (y_aloadX y391 rfl (y_iload y392 rfl (y_iconst y393 rfl (y_iadd y394 (y_sld hS y395 (ix_ok 1 hi hin hn (by decide) (by decide)) (y_aloadX y396 rfl (y_iload y397 rfl (y_iconst y398 rfl (y_iadd y399 (y_sld hS y400 (ix_ok 2 hi hin hn (by decide) (by decide)) (y_call y401 ym32 yF84 yK84 rfl (Nat.le_of_ble_eq_true rfl) rfl yS84 rfl (X_mono (X_tag (HX (S.2 (w32 (i + 1)).toNat) (S.2 (w32 (i + 2)).toNat) (hr _) (hr _))) (fun r h1 p1 => by
    obtain ⟨a, rfl⟩ := (p1.2.1 (Or.inl yR84))
    exact y_aload y404 rfl (y_aloadX y405 rfl (y_iload y406 rfl (y_iconst y407 rfl (y_iadd y408 (y_sld hS y409 (ix_ok 1 hi hin hn (by decide) (by decide)) (y_aloadX y410 rfl (y_iload y411 rfl (y_iconst y412 rfl (y_iadd y413 (y_sld hS y414 (ix_ok 2 hi hin hn (by decide) (by decide)) (y_call y415 ym35 yF143 yK143 rfl (Nat.le_of_ble_eq_true rfl) rfl yS143 rfl (X_mono (X_tag p1.1) (fun r2 h2 p2 => by
    obtain ⟨e, eR⟩ := id p2.1
    subst e
    exact y_ifc 1774 _ y418 (by decide) rfl (fun _ => Hk _ p2.1.2) (fun q => absurd rfl q)))))))))))))))))))))))))))
theorem lw_c5 {S : SC} {n : Nat} {i : Int} {h : HP} (hS : S.1 = n + 1) (hi : 0 ≤ i) (hin : i + 6 ≤ n) (hn : n ≤ 3072) (hr : ∀ j, i32 (S.2 j)) (HX : ∀ (v1 v2 : Int), i32 v1 → i32 v2 → X 63 85 0 [some (P 0), some (I v1), some (I v2), none] [] h (fun r h1 => X 63 150 0 [some (P 69), some (I v1), some (I v2), none] [] h1 (fun r' h2 => EQA r r' h2))) (Hk : ∀ h', R h' → Y S 1774 [some PX, some (P 0), some (P 69), some (I i)] [] h') : Y S 423 [some PX, some (P 0), some (P 69), some (I i)] [] h :=
  y_aload y423 rfl (y_aloadX y424 rfl (y_iload y425 rfl (y_iconst y426 rfl (y_iadd y427 (y_sld hS y428 (ix_ok 1 hi hin hn (by decide) (by decide)) (y_aloadX y429 rfl (y_iload y430 rfl (y_iconst y431 rfl (y_iadd y432 (y_sld hS y433 (ix_ok 2 hi hin hn (by decide) (by decide)) (y_call y434 ym36 yF85 yK85 rfl (Nat.le_of_ble_eq_true rfl) rfl yS85 rfl (X_mono (X_tag (HX (S.2 (w32 (i + 1)).toNat) (S.2 (w32 (i + 2)).toNat) (hr _) (hr _))) (fun r h1 p1 => by
    obtain ⟨a, rfl⟩ := (p1.2.1 (Or.inl yR85))
    exact y_aload y437 rfl (y_aloadX y438 rfl (y_iload y439 rfl (y_iconst y440 rfl (y_iadd y441 (y_sld hS y442 (ix_ok 1 hi hin hn (by decide) (by decide)) (y_aloadX y443 rfl (y_iload y444 rfl (y_iconst y445 rfl (y_iadd y446 (y_sld hS y447 (ix_ok 2 hi hin hn (by decide) (by decide)) (y_call y448 ym39 yF150 yK150 rfl (Nat.le_of_ble_eq_true rfl) rfl yS150 rfl (X_mono (X_tag p1.1) (fun r2 h2 p2 => by
    obtain ⟨e, eR⟩ := id p2.1
    subst e
    exact y_ifc 1774 _ y451 (by decide) rfl (fun _ => Hk _ p2.1.2) (fun q => absurd rfl q)))))))))))))))))))))))))))
theorem lw_c6 {S : SC} {n : Nat} {i : Int} {h : HP} (hS : S.1 = n + 1) (hi : 0 ≤ i) (hin : i + 6 ≤ n) (hn : n ≤ 3072) (hr : ∀ j, i32 (S.2 j)) (HX : ∀ (v1 v2 v3 : Int), i32 v1 → i32 v2 → i32 v3 → X 63 86 0 [some (P 0), some (I v1), some (I v2), some (I v3)] [] h (fun r h1 => X 63 152 0 [some (P 69), some (I v1), some (I v2), some (I v3), none] [] h1 (fun r' h2 => EQA r r' h2))) (Hk : ∀ h', R h' → Y S 1774 [some PX, some (P 0), some (P 69), some (I i)] [] h') : Y S 456 [some PX, some (P 0), some (P 69), some (I i)] [] h :=
  y_aload y456 rfl (y_aloadX y457 rfl (y_iload y458 rfl (y_iconst y459 rfl (y_iadd y460 (y_sld hS y461 (ix_ok 1 hi hin hn (by decide) (by decide)) (y_aloadX y462 rfl (y_iload y463 rfl (y_iconst y464 rfl (y_iadd y465 (y_sld hS y466 (ix_ok 2 hi hin hn (by decide) (by decide)) (y_aloadX y467 rfl (y_iload y468 rfl (y_iconst y469 rfl (y_iadd y470 (y_sld hS y471 (ix_ok 3 hi hin hn (by decide) (by decide)) (y_call y472 ym40 yF86 yK86 rfl (Nat.le_of_ble_eq_true rfl) rfl yS86 rfl (X_mono (X_tag (HX (S.2 (w32 (i + 1)).toNat) (S.2 (w32 (i + 2)).toNat) (S.2 (w32 (i + 3)).toNat) (hr _) (hr _) (hr _))) (fun r h1 p1 => by
    obtain ⟨a, rfl⟩ := (p1.2.1 (Or.inl yR86))
    exact y_aload y475 rfl (y_aloadX y476 rfl (y_iload y477 rfl (y_iconst y478 rfl (y_iadd y479 (y_sld hS y480 (ix_ok 1 hi hin hn (by decide) (by decide)) (y_aloadX y481 rfl (y_iload y482 rfl (y_iconst y483 rfl (y_iadd y484 (y_sld hS y485 (ix_ok 2 hi hin hn (by decide) (by decide)) (y_aloadX y486 rfl (y_iload y487 rfl (y_iconst y488 rfl (y_iadd y489 (y_sld hS y490 (ix_ok 3 hi hin hn (by decide) (by decide)) (y_call y491 ym43 yF152 yK152 rfl (Nat.le_of_ble_eq_true rfl) rfl yS152 rfl (X_mono (X_tag p1.1) (fun r2 h2 p2 => by
    obtain ⟨e, eR⟩ := id p2.1
    subst e
    exact y_ifc 1774 _ y494 (by decide) rfl (fun _ => Hk _ p2.1.2) (fun q => absurd rfl q)))))))))))))))))))))))))))))))))))))
theorem lw_c7 {S : SC} {n : Nat} {i : Int} {h : HP} (hS : S.1 = n + 1) (hi : 0 ≤ i) (hin : i + 6 ≤ n) (hn : n ≤ 3072) (hr : ∀ j, i32 (S.2 j)) (HX : ∀ (v1 v2 v3 : Int), i32 v1 → i32 v2 → i32 v3 → X 63 87 0 [some (P 0), some (I v1), some (I v2), some (I v3)] [] h (fun r h1 => X 63 153 0 [some (P 69), some (I v1), some (I v2), some (I v3), none] [] h1 (fun r' h2 => EQA r r' h2))) (Hk : ∀ h', R h' → Y S 1774 [some PX, some (P 0), some (P 69), some (I i)] [] h') : Y S 499 [some PX, some (P 0), some (P 69), some (I i)] [] h :=
  y_aload y499 rfl (y_aloadX y500 rfl (y_iload y501 rfl (y_iconst y502 rfl (y_iadd y503 (y_sld hS y504 (ix_ok 1 hi hin hn (by decide) (by decide)) (y_aloadX y505 rfl (y_iload y506 rfl (y_iconst y507 rfl (y_iadd y508 (y_sld hS y509 (ix_ok 2 hi hin hn (by decide) (by decide)) (y_aloadX y510 rfl (y_iload y511 rfl (y_iconst y512 rfl (y_iadd y513 (y_sld hS y514 (ix_ok 3 hi hin hn (by decide) (by decide)) (y_call y515 ym44 yF87 yK87 rfl (Nat.le_of_ble_eq_true rfl) rfl yS87 rfl (X_mono (X_tag (HX (S.2 (w32 (i + 1)).toNat) (S.2 (w32 (i + 2)).toNat) (S.2 (w32 (i + 3)).toNat) (hr _) (hr _) (hr _))) (fun r h1 p1 => by
    obtain ⟨a, rfl⟩ := (p1.2.1 (Or.inl yR87))
    exact y_aload y518 rfl (y_aloadX y519 rfl (y_iload y520 rfl (y_iconst y521 rfl (y_iadd y522 (y_sld hS y523 (ix_ok 1 hi hin hn (by decide) (by decide)) (y_aloadX y524 rfl (y_iload y525 rfl (y_iconst y526 rfl (y_iadd y527 (y_sld hS y528 (ix_ok 2 hi hin hn (by decide) (by decide)) (y_aloadX y529 rfl (y_iload y530 rfl (y_iconst y531 rfl (y_iadd y532 (y_sld hS y533 (ix_ok 3 hi hin hn (by decide) (by decide)) (y_call y534 ym47 yF153 yK153 rfl (Nat.le_of_ble_eq_true rfl) rfl yS153 rfl (X_mono (X_tag p1.1) (fun r2 h2 p2 => by
    obtain ⟨e, eR⟩ := id p2.1
    subst e
    exact y_ifc 1774 _ y537 (by decide) rfl (fun _ => Hk _ p2.1.2) (fun q => absurd rfl q)))))))))))))))))))))))))))))))))))))
theorem lw_c8 {S : SC} {n : Nat} {i : Int} {h : HP} (hS : S.1 = n + 1) (hi : 0 ≤ i) (hin : i + 6 ≤ n) (hn : n ≤ 3072) (hr : ∀ j, i32 (S.2 j)) (HX : ∀ (v1 v2 : Int), i32 v1 → b01 v2 → X 63 88 0 [some (P 0), some (I v1), some (I v2)] [] h (fun r h1 => X 63 154 0 [some (P 69), some (I v1), some (I v2)] [] h1 (fun r' h2 => EQA r r' h2))) (Hk : ∀ h', R h' → Y S 1774 [some PX, some (P 0), some (P 69), some (I i)] [] h') : Y S 542 [some PX, some (P 0), some (P 69), some (I i)] [] h :=
  y_aload y542 rfl (y_aloadX y543 rfl (y_iload y544 rfl (y_iconst y545 rfl (y_iadd y546 (y_sld hS y547 (ix_ok 1 hi hin hn (by decide) (by decide)) (y_aloadX y548 rfl (y_iload y549 rfl (y_iconst y550 rfl (y_iadd y551 (y_sld hS y552 (ix_ok 2 hi hin hn (by decide) (by decide)) (y_if 560 ((S.2 (w32 (i + 2)).toNat) = 0) y553 (by decide) rfl (fun q1 => y_iconst y560 rfl (y_call y561 ym48 yF88 yK88 rfl (Nat.le_of_ble_eq_true rfl) rfl yS88 rfl (X_mono (X_tag (HX (S.2 (w32 (i + 1)).toNat) 0 (hr _) (Or.inl rfl))) (fun r h1 p2 => by
    obtain ⟨a, rfl⟩ := (p2.2.1 (Or.inl yR88))
    exact y_aload y564 rfl (y_aloadX y565 rfl (y_iload y566 rfl (y_iconst y567 rfl (y_iadd y568 (y_sld hS y569 (ix_ok 1 hi hin hn (by decide) (by decide)) (y_aloadX y570 rfl (y_iload y571 rfl (y_iconst y572 rfl (y_iadd y573 (y_sld hS y574 (ix_ok 2 hi hin hn (by decide) (by decide)) (y_if 582 ((S.2 (w32 (i + 2)).toNat) = 0) y575 (by decide) rfl (fun _ => y_iconst y582 rfl (y_call y583 ym52 yF154 yK154 rfl (Nat.le_of_ble_eq_true rfl) rfl yS154 rfl (X_mono (X_tag p2.1) (fun r2 h2 p3 => by
    obtain ⟨e, eR⟩ := id p3.1
    subst e
    exact y_ifc 1774 _ y586 (by decide) rfl (fun _ => Hk _ p3.1.2) (fun q => absurd rfl q))))) (fun q => absurd q1 q)))))))))))))))) (fun q1 => y_iconst y556 rfl (y_goto 561 y557 (by decide) (y_call y561 ym48 yF88 yK88 rfl (Nat.le_of_ble_eq_true rfl) rfl yS88 rfl (X_mono (X_tag (HX (S.2 (w32 (i + 1)).toNat) 1 (hr _) (Or.inr rfl))) (fun r h1 p4 => by
    obtain ⟨a, rfl⟩ := (p4.2.1 (Or.inl yR88))
    exact y_aload y564 rfl (y_aloadX y565 rfl (y_iload y566 rfl (y_iconst y567 rfl (y_iadd y568 (y_sld hS y569 (ix_ok 1 hi hin hn (by decide) (by decide)) (y_aloadX y570 rfl (y_iload y571 rfl (y_iconst y572 rfl (y_iadd y573 (y_sld hS y574 (ix_ok 2 hi hin hn (by decide) (by decide)) (y_if 582 ((S.2 (w32 (i + 2)).toNat) = 0) y575 (by decide) rfl (fun q => absurd q q1) (fun _ => y_iconst y578 rfl (y_goto 583 y579 (by decide) (y_call y583 ym52 yF154 yK154 rfl (Nat.le_of_ble_eq_true rfl) rfl yS154 rfl (X_mono (X_tag p4.1) (fun r2 h2 p5 => by
    obtain ⟨e, eR⟩ := id p5.1
    subst e
    exact y_ifc 1774 _ y586 (by decide) rfl (fun _ => Hk _ p5.1.2) (fun q => absurd rfl q)))))))))))))))))))))))))))))))))
theorem lw_c9 {S : SC} {n : Nat} {i : Int} {h : HP} (hS : S.1 = n + 1) (hi : 0 ≤ i) (hin : i + 6 ≤ n) (hn : n ≤ 3072) (hr : ∀ j, i32 (S.2 j)) (HX : ∀ (v1 v2 : Int), i32 v1 → i32 v2 → X 63 89 0 [some (P 0), some (I v1), some (I v2)] [] h (fun r h1 => X 63 155 0 [some (P 69), some (I v1), some (I v2)] [] h1 (fun r' h2 => EQA r r' h2))) (Hk : ∀ h', R h' → Y S 1774 [some PX, some (P 0), some (P 69), some (I i)] [] h') : Y S 591 [some PX, some (P 0), some (P 69), some (I i)] [] h :=
  y_aload y591 rfl (y_aloadX y592 rfl (y_iload y593 rfl (y_iconst y594 rfl (y_iadd y595 (y_sld hS y596 (ix_ok 1 hi hin hn (by decide) (by decide)) (y_aloadX y597 rfl (y_iload y598 rfl (y_iconst y599 rfl (y_iadd y600 (y_sld hS y601 (ix_ok 2 hi hin hn (by decide) (by decide)) (y_call y602 ym53 yF89 yK89 rfl (Nat.le_of_ble_eq_true rfl) rfl yS89 rfl (X_mono (X_tag (HX (S.2 (w32 (i + 1)).toNat) (S.2 (w32 (i + 2)).toNat) (hr _) (hr _))) (fun r h1 p1 => by
    obtain ⟨a, rfl⟩ := (p1.2.1 (Or.inl yR89))
    exact y_aload y605 rfl (y_aloadX y606 rfl (y_iload y607 rfl (y_iconst y608 rfl (y_iadd y609 (y_sld hS y610 (ix_ok 1 hi hin hn (by decide) (by decide)) (y_aloadX y611 rfl (y_iload y612 rfl (y_iconst y613 rfl (y_iadd y614 (y_sld hS y615 (ix_ok 2 hi hin hn (by decide) (by decide)) (y_call y616 ym56 yF155 yK155 rfl (Nat.le_of_ble_eq_true rfl) rfl yS155 rfl (X_mono (X_tag p1.1) (fun r2 h2 p2 => by
    obtain ⟨e, eR⟩ := id p2.1
    subst e
    exact y_ifc 1774 _ y619 (by decide) rfl (fun _ => Hk _ p2.1.2) (fun q => absurd rfl q)))))))))))))))))))))))))))
theorem lw_c10 {S : SC} {n : Nat} {i : Int} {h : HP} (hS : S.1 = n + 1) (hi : 0 ≤ i) (hin : i + 6 ≤ n) (hn : n ≤ 3072) (hr : ∀ j, i32 (S.2 j)) (HX : ∀ (v1 v2 : Int), i32 v1 → b01 v2 → X 63 90 0 [some (P 0), some (I v1), some (I v2)] [] h (fun r h1 => X 63 156 0 [some (P 69), some (I v1), some (I v2)] [] h1 (fun r' h2 => EQA r r' h2))) (Hk : ∀ h', R h' → Y S 1774 [some PX, some (P 0), some (P 69), some (I i)] [] h') : Y S 624 [some PX, some (P 0), some (P 69), some (I i)] [] h :=
  y_aload y624 rfl (y_aloadX y625 rfl (y_iload y626 rfl (y_iconst y627 rfl (y_iadd y628 (y_sld hS y629 (ix_ok 1 hi hin hn (by decide) (by decide)) (y_aloadX y630 rfl (y_iload y631 rfl (y_iconst y632 rfl (y_iadd y633 (y_sld hS y634 (ix_ok 2 hi hin hn (by decide) (by decide)) (y_if 642 ((S.2 (w32 (i + 2)).toNat) = 0) y635 (by decide) rfl (fun q1 => y_iconst y642 rfl (y_call y643 ym57 yF90 yK90 rfl (Nat.le_of_ble_eq_true rfl) rfl yS90 rfl (X_mono (X_tag (HX (S.2 (w32 (i + 1)).toNat) 0 (hr _) (Or.inl rfl))) (fun r h1 p2 => by
    obtain ⟨a, rfl⟩ := (p2.2.1 (Or.inl yR90))
    exact y_aload y646 rfl (y_aloadX y647 rfl (y_iload y648 rfl (y_iconst y649 rfl (y_iadd y650 (y_sld hS y651 (ix_ok 1 hi hin hn (by decide) (by decide)) (y_aloadX y652 rfl (y_iload y653 rfl (y_iconst y654 rfl (y_iadd y655 (y_sld hS y656 (ix_ok 2 hi hin hn (by decide) (by decide)) (y_if 664 ((S.2 (w32 (i + 2)).toNat) = 0) y657 (by decide) rfl (fun _ => y_iconst y664 rfl (y_call y665 ym60 yF156 yK156 rfl (Nat.le_of_ble_eq_true rfl) rfl yS156 rfl (X_mono (X_tag p2.1) (fun r2 h2 p3 => by
    obtain ⟨e, eR⟩ := id p3.1
    subst e
    exact y_ifc 1774 _ y668 (by decide) rfl (fun _ => Hk _ p3.1.2) (fun q => absurd rfl q))))) (fun q => absurd q1 q)))))))))))))))) (fun q1 => y_iconst y638 rfl (y_goto 643 y639 (by decide) (y_call y643 ym57 yF90 yK90 rfl (Nat.le_of_ble_eq_true rfl) rfl yS90 rfl (X_mono (X_tag (HX (S.2 (w32 (i + 1)).toNat) 1 (hr _) (Or.inr rfl))) (fun r h1 p4 => by
    obtain ⟨a, rfl⟩ := (p4.2.1 (Or.inl yR90))
    exact y_aload y646 rfl (y_aloadX y647 rfl (y_iload y648 rfl (y_iconst y649 rfl (y_iadd y650 (y_sld hS y651 (ix_ok 1 hi hin hn (by decide) (by decide)) (y_aloadX y652 rfl (y_iload y653 rfl (y_iconst y654 rfl (y_iadd y655 (y_sld hS y656 (ix_ok 2 hi hin hn (by decide) (by decide)) (y_if 664 ((S.2 (w32 (i + 2)).toNat) = 0) y657 (by decide) rfl (fun q => absurd q q1) (fun _ => y_iconst y660 rfl (y_goto 665 y661 (by decide) (y_call y665 ym60 yF156 yK156 rfl (Nat.le_of_ble_eq_true rfl) rfl yS156 rfl (X_mono (X_tag p4.1) (fun r2 h2 p5 => by
    obtain ⟨e, eR⟩ := id p5.1
    subst e
    exact y_ifc 1774 _ y668 (by decide) rfl (fun _ => Hk _ p5.1.2) (fun q => absurd rfl q)))))))))))))))))))))))))))))))))
theorem lw_c11 {S : SC} {n : Nat} {i : Int} {h : HP} (hS : S.1 = n + 1) (hi : 0 ≤ i) (hin : i + 6 ≤ n) (hn : n ≤ 3072) (hr : ∀ j, i32 (S.2 j)) (HX : ∀ (v1 v2 : Int), i32 v1 → i32 v2 → X 63 91 0 [some (P 0), some (I v1), some (I v2)] [] h (fun r h1 => X 63 157 0 [some (P 69), some (I v1), some (I v2)] [] h1 (fun r' h2 => EQA r r' h2))) (Hk : ∀ h', R h' → Y S 1774 [some PX, some (P 0), some (P 69), some (I i)] [] h') : Y S 673 [some PX, some (P 0), some (P 69), some (I i)] [] h :=
  y_aload y673 rfl (y_aloadX y674 rfl (y_iload y675 rfl (y_iconst y676 rfl (y_iadd y677 (y_sld hS y678 (ix_ok 1 hi hin hn (by decide) (by decide)) (y_aloadX y679 rfl (y_iload y680 rfl (y_iconst y681 rfl (y_iadd y682 (y_sld hS y683 (ix_ok 2 hi hin hn (by decide) (by decide)) (y_call y684 ym61 yF91 yK91 rfl (Nat.le_of_ble_eq_true rfl) rfl yS91 rfl (X_mono (X_tag (HX (S.2 (w32 (i + 1)).toNat) (S.2 (w32 (i + 2)).toNat) (hr _) (hr _))) (fun r h1 p1 => by
    obtain ⟨a, rfl⟩ := (p1.2.1 (Or.inl yR91))
    exact y_aload y687 rfl (y_aloadX y688 rfl (y_iload y689 rfl (y_iconst y690 rfl (y_iadd y691 (y_sld hS y692 (ix_ok 1 hi hin hn (by decide) (by decide)) (y_aloadX y693 rfl (y_iload y694 rfl (y_iconst y695 rfl (y_iadd y696 (y_sld hS y697 (ix_ok 2 hi hin hn (by decide) (by decide)) (y_call y698 ym64 yF157 yK157 rfl (Nat.le_of_ble_eq_true rfl) rfl yS157 rfl (X_mono (X_tag p1.1) (fun r2 h2 p2 => by
    obtain ⟨e, eR⟩ := id p2.1
    subst e
    exact y_ifc 1774 _ y701 (by decide) rfl (fun _ => Hk _ p2.1.2) (fun q => absurd rfl q)))))))))))))))))))))))))))
theorem lw_c12 {S : SC} {n : Nat} {i : Int} {h : HP} (hS : S.1 = n + 1) (hi : 0 ≤ i) (hin : i + 6 ≤ n) (hn : n ≤ 3072) (hr : ∀ j, i32 (S.2 j)) (HX : ∀ (v1 : Int), i32 v1 → X 63 92 0 [some (P 0), some (I v1)] [] h (fun r h1 => X 63 159 0 [some (P 69), some (I v1)] [] h1 (fun r' h2 => EQA r r' h2))) (Hk : ∀ h', R h' → Y S 1774 [some PX, some (P 0), some (P 69), some (I i)] [] h') : Y S 706 [some PX, some (P 0), some (P 69), some (I i)] [] h :=
  y_aload y706 rfl (y_aloadX y707 rfl (y_iload y708 rfl (y_iconst y709 rfl (y_iadd y710 (y_sld hS y711 (ix_ok 1 hi hin hn (by decide) (by decide)) (y_call y712 ym65 yF92 yK92 rfl (Nat.le_of_ble_eq_true rfl) rfl yS92 rfl (X_mono (X_tag (HX (S.2 (w32 (i + 1)).toNat) (hr _))) (fun r h1 p1 => by
    obtain ⟨a, rfl⟩ := (p1.2.1 (Or.inl yR92))
    exact y_aload y715 rfl (y_aloadX y716 rfl (y_iload y717 rfl (y_iconst y718 rfl (y_iadd y719 (y_sld hS y720 (ix_ok 1 hi hin hn (by decide) (by decide)) (y_call y721 ym69 yF159 yK159 rfl (Nat.le_of_ble_eq_true rfl) rfl yS159 rfl (X_mono (X_tag p1.1) (fun r2 h2 p2 => by
    obtain ⟨e, eR⟩ := id p2.1
    subst e
    exact y_ifc 1774 _ y724 (by decide) rfl (fun _ => Hk _ p2.1.2) (fun q => absurd rfl q)))))))))))))))))
theorem lw_c13 {S : SC} {n : Nat} {i : Int} {h : HP} (hS : S.1 = n + 1) (hi : 0 ≤ i) (hin : i + 6 ≤ n) (hn : n ≤ 3072) (hr : ∀ j, i32 (S.2 j)) (HX : ∀ (v1 v2 v3 : Int), i32 v1 → b01 v2 → i32 v3 → X 63 93 0 [some (P 0), some (I v1), some (I v2), some (I v3), none] [] h (fun r h1 => X 63 160 0 [some (P 69), some (I v1), some (I v2), some (I v3), none] [] h1 (fun r' h2 => EQA r r' h2))) (Hk : ∀ h', R h' → Y S 1774 [some PX, some (P 0), some (P 69), some (I i)] [] h') : Y S 729 [some PX, some (P 0), some (P 69), some (I i)] [] h :=
  y_aload y729 rfl (y_aloadX y730 rfl (y_iload y731 rfl (y_iconst y732 rfl (y_iadd y733 (y_sld hS y734 (ix_ok 1 hi hin hn (by decide) (by decide)) (y_aloadX y735 rfl (y_iload y736 rfl (y_iconst y737 rfl (y_iadd y738 (y_sld hS y739 (ix_ok 2 hi hin hn (by decide) (by decide)) (y_if 747 ((S.2 (w32 (i + 2)).toNat) = 0) y740 (by decide) rfl (fun q1 => y_iconst y747 rfl (y_aloadX y748 rfl (y_iload y749 rfl (y_iconst y750 rfl (y_iadd y751 (y_sld hS y752 (ix_ok 3 hi hin hn (by decide) (by decide)) (y_call y753 ym70 yF93 yK93 rfl (Nat.le_of_ble_eq_true rfl) rfl yS93 rfl (X_mono (X_tag (HX (S.2 (w32 (i + 1)).toNat) 0 (S.2 (w32 (i + 3)).toNat) (hr _) (Or.inl rfl) (hr _))) (fun r h1 p2 => by
    obtain ⟨a, rfl⟩ := (p2.2.1 (Or.inl yR93))
    exact y_aload y756 rfl (y_aloadX y757 rfl (y_iload y758 rfl (y_iconst y759 rfl (y_iadd y760 (y_sld hS y761 (ix_ok 1 hi hin hn (by decide) (by decide)) (y_aloadX y762 rfl (y_iload y763 rfl (y_iconst y764 rfl (y_iadd y765 (y_sld hS y766 (ix_ok 2 hi hin hn (by decide) (by decide)) (y_if 774 ((S.2 (w32 (i + 2)).toNat) = 0) y767 (by decide) rfl (fun _ => y_iconst y774 rfl (y_aloadX y775 rfl (y_iload y776 rfl (y_iconst y777 rfl (y_iadd y778 (y_sld hS y779 (ix_ok 3 hi hin hn (by decide) (by decide)) (y_call y780 ym74 yF160 yK160 rfl (Nat.le_of_ble_eq_true rfl) rfl yS160 rfl (X_mono (X_tag p2.1) (fun r2 h2 p3 => by
    obtain ⟨e, eR⟩ := id p3.1
    subst e
    exact y_ifc 1774 _ y783 (by decide) rfl (fun _ => Hk _ p3.1.2) (fun q => absurd rfl q)))))))))) (fun q => absurd q1 q))))))))))))))))))))) (fun q1 => y_iconst y743 rfl (y_goto 748 y744 (by decide) (y_aloadX y748 rfl (y_iload y749 rfl (y_iconst y750 rfl (y_iadd y751 (y_sld hS y752 (ix_ok 3 hi hin hn (by decide) (by decide)) (y_call y753 ym70 yF93 yK93 rfl (Nat.le_of_ble_eq_true rfl) rfl yS93 rfl (X_mono (X_tag (HX (S.2 (w32 (i + 1)).toNat) 1 (S.2 (w32 (i + 3)).toNat) (hr _) (Or.inr rfl) (hr _))) (fun r h1 p4 => by
    obtain ⟨a, rfl⟩ := (p4.2.1 (Or.inl yR93))
    exact y_aload y756 rfl (y_aloadX y757 rfl (y_iload y758 rfl (y_iconst y759 rfl (y_iadd y760 (y_sld hS y761 (ix_ok 1 hi hin hn (by decide) (by decide)) (y_aloadX y762 rfl (y_iload y763 rfl (y_iconst y764 rfl (y_iadd y765 (y_sld hS y766 (ix_ok 2 hi hin hn (by decide) (by decide)) (y_if 774 ((S.2 (w32 (i + 2)).toNat) = 0) y767 (by decide) rfl (fun q => absurd q q1) (fun _ => y_iconst y770 rfl (y_goto 775 y771 (by decide) (y_aloadX y775 rfl (y_iload y776 rfl (y_iconst y777 rfl (y_iadd y778 (y_sld hS y779 (ix_ok 3 hi hin hn (by decide) (by decide)) (y_call y780 ym74 yF160 yK160 rfl (Nat.le_of_ble_eq_true rfl) rfl yS160 rfl (X_mono (X_tag p4.1) (fun r2 h2 p5 => by
    obtain ⟨e, eR⟩ := id p5.1
    subst e
    exact y_ifc 1774 _ y783 (by decide) rfl (fun _ => Hk _ p5.1.2) (fun q => absurd rfl q)))))))))))))))))))))))))))))))))))))))))))
theorem lw_c14 {S : SC} {n : Nat} {i : Int} {h : HP} (hS : S.1 = n + 1) (hi : 0 ≤ i) (hin : i + 6 ≤ n) (hn : n ≤ 3072) (hr : ∀ j, i32 (S.2 j)) (HX : ∀ (v1 v2 : Int), i32 v1 → X 63 94 0 [some (P 0), some (I v1), some (J v2), none] [] h (fun r h1 => X 63 161 0 [some (P 69), some (I v1), some (J v2), none, none] [] h1 (fun r' h2 => EQA r r' h2))) (Hk : ∀ h', R h' → Y S 1774 [some PX, some (P 0), some (P 69), some (I i)] [] h') : Y S 788 [some PX, some (P 0), some (P 69), some (I i)] [] h :=
  y_aload y788 rfl (y_aloadX y789 rfl (y_iload y790 rfl (y_iconst y791 rfl (y_iadd y792 (y_sld hS y793 (ix_ok 1 hi hin hn (by decide) (by decide)) (y_aloadX y794 rfl (y_iload y795 rfl (y_iconst y796 rfl (y_iadd y797 (y_sld hS y798 (ix_ok 2 hi hin hn (by decide) (by decide)) (y_i2l y799 (y_bipush y800 ⟨by decide, by decide⟩ (y_lshl y802 (y_aloadX y803 rfl (y_iload y804 rfl (y_iconst y805 rfl (y_iadd y806 (y_sld hS y807 (ix_ok 3 hi hin hn (by decide) (by decide)) (y_i2l y808 (y_ldc2 y809 yk75 rfl (y_land y812 (y_lor y813 (y_call y814 ym77 yF94 yK94 rfl (Nat.le_of_ble_eq_true rfl) rfl yS94 rfl (X_mono (X_tag (HX (S.2 (w32 (i + 1)).toNat) (lOr (lShl (S.2 (w32 (i + 2)).toNat) 32) (lAnd (S.2 (w32 (i + 3)).toNat) 4294967295)) (hr _))) (fun r h1 p1 => by
    obtain ⟨a, rfl⟩ := (p1.2.1 (Or.inl yR94))
    exact y_aload y817 rfl (y_aloadX y818 rfl (y_iload y819 rfl (y_iconst y820 rfl (y_iadd y821 (y_sld hS y822 (ix_ok 1 hi hin hn (by decide) (by decide)) (y_aloadX y823 rfl (y_iload y824 rfl (y_iconst y825 rfl (y_iadd y826 (y_sld hS y827 (ix_ok 2 hi hin hn (by decide) (by decide)) (y_i2l y828 (y_bipush y829 ⟨by decide, by decide⟩ (y_lshl y831 (y_aloadX y832 rfl (y_iload y833 rfl (y_iconst y834 rfl (y_iadd y835 (y_sld hS y836 (ix_ok 3 hi hin hn (by decide) (by decide)) (y_i2l y837 (y_ldc2 y838 yk75 rfl (y_land y841 (y_lor y842 (y_call y843 ym81 yF161 yK161 rfl (Nat.le_of_ble_eq_true rfl) rfl yS161 rfl (X_mono (X_tag p1.1) (fun r2 h2 p2 => by
    obtain ⟨e, eR⟩ := id p2.1
    subst e
    exact y_ifc 1774 _ y846 (by decide) rfl (fun _ => Hk _ p2.1.2) (fun q => absurd rfl q)))))))))))))))))))))))))))))))))))))))))))))))))))
theorem lw_c15 {S : SC} {n : Nat} {i : Int} {h : HP} (hS : S.1 = n + 1) (hi : 0 ≤ i) (hin : i + 6 ≤ n) (hn : n ≤ 3072) (hr : ∀ j, i32 (S.2 j)) (HX : X 63 95 0 [some (P 0), none] [] h (fun r h1 => X 63 172 0 [some (P 69), none, none, none, none, none] [] h1 (fun r' h2 => EQA r r' h2))) (Hk : ∀ h', R h' → Y S 1774 [some PX, some (P 0), some (P 69), some (I i)] [] h') : Y S 851 [some PX, some (P 0), some (P 69), some (I i)] [] h :=
  y_aload y851 rfl (y_call y852 ym82 yF95 yK95 rfl (Nat.le_of_ble_eq_true rfl) rfl yS95 rfl (X_mono (X_tag (HX  )) (fun r h1 p1 => by
    obtain ⟨a, rfl⟩ := (p1.2.1 (Or.inl yR95))
    exact y_aload y855 rfl (y_call y856 ym86 yF172 yK172 rfl (Nat.le_of_ble_eq_true rfl) rfl yS172 rfl (X_mono (X_tag p1.1) (fun r2 h2 p2 => by
    obtain ⟨e, eR⟩ := id p2.1
    subst e
    exact y_ifc 1774 _ y859 (by decide) rfl (fun _ => Hk _ p2.1.2) (fun q => absurd rfl q)))))))
theorem lw_c16 {S : SC} {n : Nat} {i : Int} {h : HP} (hS : S.1 = n + 1) (hi : 0 ≤ i) (hin : i + 6 ≤ n) (hn : n ≤ 3072) (hr : ∀ j, i32 (S.2 j)) (HX : ∀ (v1 : Int), i32 v1 → X 63 96 0 [some (P 0), some (I v1), none] [] h (fun r h1 => X 63 174 0 [some (P 69), some (I v1), none] [] h1 (fun r' h2 => EQA r r' h2))) (Hk : ∀ h', R h' → Y S 1774 [some PX, some (P 0), some (P 69), some (I i)] [] h') : Y S 864 [some PX, some (P 0), some (P 69), some (I i)] [] h :=
  y_aload y864 rfl (y_aloadX y865 rfl (y_iload y866 rfl (y_iconst y867 rfl (y_iadd y868 (y_sld hS y869 (ix_ok 1 hi hin hn (by decide) (by decide)) (y_call y870 ym87 yF96 yK96 rfl (Nat.le_of_ble_eq_true rfl) rfl yS96 rfl (X_mono (X_tag (HX (S.2 (w32 (i + 1)).toNat) (hr _))) (fun r h1 p1 => by
    obtain ⟨a, rfl⟩ := (p1.2.1 (Or.inl yR96))
    exact y_aload y873 rfl (y_aloadX y874 rfl (y_iload y875 rfl (y_iconst y876 rfl (y_iadd y877 (y_sld hS y878 (ix_ok 1 hi hin hn (by decide) (by decide)) (y_call y879 ym90 yF174 yK174 rfl (Nat.le_of_ble_eq_true rfl) rfl yS174 rfl (X_mono (X_tag p1.1) (fun r2 h2 p2 => by
    obtain ⟨e, eR⟩ := id p2.1
    subst e
    exact y_ifc 1774 _ y882 (by decide) rfl (fun _ => Hk _ p2.1.2) (fun q => absurd rfl q)))))))))))))))))
theorem lw_c17 {S : SC} {n : Nat} {i : Int} {h : HP} (hS : S.1 = n + 1) (hi : 0 ≤ i) (hin : i + 6 ≤ n) (hn : n ≤ 3072) (hr : ∀ j, i32 (S.2 j)) (HX : ∀ (v1 : Int), i32 v1 → X 63 97 0 [some (P 0), some (I v1), none] [] h (fun r h1 => X 63 183 0 [some (P 69), some (I v1), none] [] h1 (fun r' h2 => EQA r r' h2))) (Hk : ∀ h', R h' → Y S 1774 [some PX, some (P 0), some (P 69), some (I i)] [] h') : Y S 887 [some PX, some (P 0), some (P 69), some (I i)] [] h :=
  y_aload y887 rfl (y_aloadX y888 rfl (y_iload y889 rfl (y_iconst y890 rfl (y_iadd y891 (y_sld hS y892 (ix_ok 1 hi hin hn (by decide) (by decide)) (y_call y893 ym91 yF97 yK97 rfl (Nat.le_of_ble_eq_true rfl) rfl yS97 rfl (X_mono (X_tag (HX (S.2 (w32 (i + 1)).toNat) (hr _))) (fun r h1 p1 => by
    obtain ⟨a, rfl⟩ := (p1.2.1 (Or.inl yR97))
    exact y_aload y896 rfl (y_aloadX y897 rfl (y_iload y898 rfl (y_iconst y899 rfl (y_iadd y900 (y_sld hS y901 (ix_ok 1 hi hin hn (by decide) (by decide)) (y_call y902 ym94 yF183 yK183 rfl (Nat.le_of_ble_eq_true rfl) rfl yS183 rfl (X_mono (X_tag p1.1) (fun r2 h2 p2 => by
    obtain ⟨e, eR⟩ := id p2.1
    subst e
    exact y_ifc 1774 _ y905 (by decide) rfl (fun _ => Hk _ p2.1.2) (fun q => absurd rfl q)))))))))))))))))
theorem lw_c18 {S : SC} {n : Nat} {i : Int} {h : HP} (hS : S.1 = n + 1) (hi : 0 ≤ i) (hin : i + 6 ≤ n) (hn : n ≤ 3072) (hr : ∀ j, i32 (S.2 j)) (HX : ∀ (v1 v2 : Int), i32 v1 → i32 v2 → X 63 98 0 [some (P 0), some (I v1), some (I v2)] [] h (fun r h1 => X 63 184 0 [some (P 69), some (I v1), some (I v2)] [] h1 (fun r' h2 => EQA r r' h2))) (Hk : ∀ h', R h' → Y S 1774 [some PX, some (P 0), some (P 69), some (I i)] [] h') : Y S 910 [some PX, some (P 0), some (P 69), some (I i)] [] h :=
  y_aload y910 rfl (y_aloadX y911 rfl (y_iload y912 rfl (y_iconst y913 rfl (y_iadd y914 (y_sld hS y915 (ix_ok 1 hi hin hn (by decide) (by decide)) (y_aloadX y916 rfl (y_iload y917 rfl (y_iconst y918 rfl (y_iadd y919 (y_sld hS y920 (ix_ok 2 hi hin hn (by decide) (by decide)) (y_call y921 ym95 yF98 yK98 rfl (Nat.le_of_ble_eq_true rfl) rfl yS98 rfl (X_mono (X_tag (HX (S.2 (w32 (i + 1)).toNat) (S.2 (w32 (i + 2)).toNat) (hr _) (hr _))) (fun r h1 p1 => by
    obtain ⟨a, rfl⟩ := (p1.2.1 (Or.inl yR98))
    exact y_aload y924 rfl (y_aloadX y925 rfl (y_iload y926 rfl (y_iconst y927 rfl (y_iadd y928 (y_sld hS y929 (ix_ok 1 hi hin hn (by decide) (by decide)) (y_aloadX y930 rfl (y_iload y931 rfl (y_iconst y932 rfl (y_iadd y933 (y_sld hS y934 (ix_ok 2 hi hin hn (by decide) (by decide)) (y_call y935 ym98 yF184 yK184 rfl (Nat.le_of_ble_eq_true rfl) rfl yS184 rfl (X_mono (X_tag p1.1) (fun r2 h2 p2 => by
    obtain ⟨e, eR⟩ := id p2.1
    subst e
    exact y_ifc 1774 _ y938 (by decide) rfl (fun _ => Hk _ p2.1.2) (fun q => absurd rfl q)))))))))))))))))))))))))))
theorem lw_c19 {S : SC} {n : Nat} {i : Int} {h : HP} (hS : S.1 = n + 1) (hi : 0 ≤ i) (hin : i + 6 ≤ n) (hn : n ≤ 3072) (hr : ∀ j, i32 (S.2 j)) (HX : ∀ (v1 : Int), i32 v1 → X 63 99 0 [some (P 0), some (I v1)] [] h (fun r h1 => X 63 185 0 [some (P 69), some (I v1)] [] h1 (fun r' h2 => EQA r r' h2))) (Hk : ∀ h', R h' → Y S 1774 [some PX, some (P 0), some (P 69), some (I i)] [] h') : Y S 943 [some PX, some (P 0), some (P 69), some (I i)] [] h :=
  y_aload y943 rfl (y_aloadX y944 rfl (y_iload y945 rfl (y_iconst y946 rfl (y_iadd y947 (y_sld hS y948 (ix_ok 1 hi hin hn (by decide) (by decide)) (y_call y949 ym99 yF99 yK99 rfl (Nat.le_of_ble_eq_true rfl) rfl yS99 rfl (X_mono (X_tag (HX (S.2 (w32 (i + 1)).toNat) (hr _))) (fun r h1 p1 => by
    obtain ⟨a, rfl⟩ := (p1.2.2 yR99)
    exact y_aload y952 rfl (y_aloadX y953 rfl (y_iload y954 rfl (y_iconst y955 rfl (y_iadd y956 (y_sld hS y957 (ix_ok 1 hi hin hn (by decide) (by decide)) (y_call y958 ym103 yF185 yK185 rfl (Nat.le_of_ble_eq_true rfl) rfl yS185 rfl (X_mono (X_tag p1.1) (fun r2 h2 p2 => by
    obtain ⟨e, eR⟩ := id p2.1
    subst e
    exact y_lcmp y961 (y_if 1774 _ y962 (by decide) rfl (fun _ => Hk _ p2.1.2) (fun q => absurd (cmp_s _) q))))))))))))))))))
theorem lw_c20 {S : SC} {n : Nat} {i : Int} {h : HP} (hS : S.1 = n + 1) (hi : 0 ≤ i) (hin : i + 6 ≤ n) (hn : n ≤ 3072) (hr : ∀ j, i32 (S.2 j)) (HX : ∀ (v1 v2 : Int), i32 v1 → i32 v2 → X 63 100 0 [some (P 0), some (I v1), some (I v2)] [] h (fun r h1 => X 63 188 0 [some (P 69), some (I v1), some (I v2)] [] h1 (fun r' h2 => EQA r r' h2))) (Hk : ∀ h', R h' → Y S 1774 [some PX, some (P 0), some (P 69), some (I i)] [] h') : Y S 967 [some PX, some (P 0), some (P 69), some (I i)] [] h :=
  y_aload y967 rfl (y_aloadX y968 rfl (y_iload y969 rfl (y_iconst y970 rfl (y_iadd y971 (y_sld hS y972 (ix_ok 1 hi hin hn (by decide) (by decide)) (y_aloadX y973 rfl (y_iload y974 rfl (y_iconst y975 rfl (y_iadd y976 (y_sld hS y977 (ix_ok 2 hi hin hn (by decide) (by decide)) (y_call y978 ym104 yF100 yK100 rfl (Nat.le_of_ble_eq_true rfl) rfl yS100 rfl (X_mono (X_tag (HX (S.2 (w32 (i + 1)).toNat) (S.2 (w32 (i + 2)).toNat) (hr _) (hr _))) (fun r h1 p1 => by
    obtain ⟨a, rfl⟩ := (p1.2.1 (Or.inl yR100))
    exact y_aload y981 rfl (y_aloadX y982 rfl (y_iload y983 rfl (y_iconst y984 rfl (y_iadd y985 (y_sld hS y986 (ix_ok 1 hi hin hn (by decide) (by decide)) (y_aloadX y987 rfl (y_iload y988 rfl (y_iconst y989 rfl (y_iadd y990 (y_sld hS y991 (ix_ok 2 hi hin hn (by decide) (by decide)) (y_call y992 ym107 yF188 yK188 rfl (Nat.le_of_ble_eq_true rfl) rfl yS188 rfl (X_mono (X_tag p1.1) (fun r2 h2 p2 => by
    obtain ⟨e, eR⟩ := id p2.1
    subst e
    exact y_ifc 1774 _ y995 (by decide) rfl (fun _ => Hk _ p2.1.2) (fun q => absurd rfl q)))))))))))))))))))))))))))
theorem lw_c21 {S : SC} {n : Nat} {i : Int} {h : HP} (hS : S.1 = n + 1) (hi : 0 ≤ i) (hin : i + 6 ≤ n) (hn : n ≤ 3072) (hr : ∀ j, i32 (S.2 j)) (HX : ∀ (v1 v2 : Int), i32 v1 → i32 v2 → X 63 101 0 [some (P 0), some (I v1), some (I v2), none, none, none, none] [] h (fun r h1 => X 63 191 0 [some (P 69), some (I v1), some (I v2), none, none] [] h1 (fun r' h2 => EQA r r' h2))) (Hk : ∀ h', R h' → Y S 1774 [some PX, some (P 0), some (P 69), some (I i)] [] h') : Y S 1000 [some PX, some (P 0), some (P 69), some (I i)] [] h :=
  y_aload y1000 rfl (y_aloadX y1001 rfl (y_iload y1002 rfl (y_iconst y1003 rfl (y_iadd y1004 (y_sld hS y1005 (ix_ok 1 hi hin hn (by decide) (by decide)) (y_aloadX y1006 rfl (y_iload y1007 rfl (y_iconst y1008 rfl (y_iadd y1009 (y_sld hS y1010 (ix_ok 2 hi hin hn (by decide) (by decide)) (y_call y1011 ym108 yF101 yK101 rfl (Nat.le_of_ble_eq_true rfl) rfl yS101 rfl (X_mono (X_tag (HX (S.2 (w32 (i + 1)).toNat) (S.2 (w32 (i + 2)).toNat) (hr _) (hr _))) (fun r h1 p1 => by
    obtain ⟨a, rfl⟩ := (p1.2.1 (Or.inl yR101))
    exact y_aload y1014 rfl (y_aloadX y1015 rfl (y_iload y1016 rfl (y_iconst y1017 rfl (y_iadd y1018 (y_sld hS y1019 (ix_ok 1 hi hin hn (by decide) (by decide)) (y_aloadX y1020 rfl (y_iload y1021 rfl (y_iconst y1022 rfl (y_iadd y1023 (y_sld hS y1024 (ix_ok 2 hi hin hn (by decide) (by decide)) (y_call y1025 ym111 yF191 yK191 rfl (Nat.le_of_ble_eq_true rfl) rfl yS191 rfl (X_mono (X_tag p1.1) (fun r2 h2 p2 => by
    obtain ⟨e, eR⟩ := id p2.1
    subst e
    exact y_ifc 1774 _ y1028 (by decide) rfl (fun _ => Hk _ p2.1.2) (fun q => absurd rfl q)))))))))))))))))))))))))))
theorem lw_c22 {S : SC} {n : Nat} {i : Int} {h : HP} (hS : S.1 = n + 1) (hi : 0 ≤ i) (hin : i + 6 ≤ n) (hn : n ≤ 3072) (hr : ∀ j, i32 (S.2 j)) (HX : ∀ (v1 v2 : Int), i32 v1 → i32 v2 → X 63 102 0 [some (P 0), some (I v1), some (I v2)] [] h (fun r h1 => X 63 192 0 [some (P 69), some (I v1), some (I v2), none] [] h1 (fun r' h2 => EQA r r' h2))) (Hk : ∀ h', R h' → Y S 1774 [some PX, some (P 0), some (P 69), some (I i)] [] h') : Y S 1033 [some PX, some (P 0), some (P 69), some (I i)] [] h :=
  y_aload y1033 rfl (y_aloadX y1034 rfl (y_iload y1035 rfl (y_iconst y1036 rfl (y_iadd y1037 (y_sld hS y1038 (ix_ok 1 hi hin hn (by decide) (by decide)) (y_aloadX y1039 rfl (y_iload y1040 rfl (y_iconst y1041 rfl (y_iadd y1042 (y_sld hS y1043 (ix_ok 2 hi hin hn (by decide) (by decide)) (y_call y1044 ym112 yF102 yK102 rfl (Nat.le_of_ble_eq_true rfl) rfl yS102 rfl (X_mono (X_tag (HX (S.2 (w32 (i + 1)).toNat) (S.2 (w32 (i + 2)).toNat) (hr _) (hr _))) (fun r h1 p1 => by
    obtain ⟨a, rfl⟩ := (p1.2.1 (Or.inl yR102))
    exact y_aload y1047 rfl (y_aloadX y1048 rfl (y_iload y1049 rfl (y_iconst y1050 rfl (y_iadd y1051 (y_sld hS y1052 (ix_ok 1 hi hin hn (by decide) (by decide)) (y_aloadX y1053 rfl (y_iload y1054 rfl (y_iconst y1055 rfl (y_iadd y1056 (y_sld hS y1057 (ix_ok 2 hi hin hn (by decide) (by decide)) (y_call y1058 ym115 yF192 yK192 rfl (Nat.le_of_ble_eq_true rfl) rfl yS192 rfl (X_mono (X_tag p1.1) (fun r2 h2 p2 => by
    obtain ⟨e, eR⟩ := id p2.1
    subst e
    exact y_ifc 1774 _ y1061 (by decide) rfl (fun _ => Hk _ p2.1.2) (fun q => absurd rfl q)))))))))))))))))))))))))))
theorem lw_c23 {S : SC} {n : Nat} {i : Int} {h : HP} (hS : S.1 = n + 1) (hi : 0 ≤ i) (hin : i + 6 ≤ n) (hn : n ≤ 3072) (hr : ∀ j, i32 (S.2 j)) (HX : ∀ (v1 v2 v3 : Int), i32 v1 → i32 v2 → b01 v3 → X 63 103 0 [some (P 0), some (I v1), some (I v2), some (I v3)] [] h (fun r h1 => X 63 194 0 [some (P 69), some (I v1), some (I v2), some (I v3)] [] h1 (fun r' h2 => EQA r r' h2))) (Hk : ∀ h', R h' → Y S 1774 [some PX, some (P 0), some (P 69), some (I i)] [] h') : Y S 1066 [some PX, some (P 0), some (P 69), some (I i)] [] h :=
  y_aload y1066 rfl (y_aloadX y1067 rfl (y_iload y1068 rfl (y_iconst y1069 rfl (y_iadd y1070 (y_sld hS y1071 (ix_ok 1 hi hin hn (by decide) (by decide)) (y_aloadX y1072 rfl (y_iload y1073 rfl (y_iconst y1074 rfl (y_iadd y1075 (y_sld hS y1076 (ix_ok 2 hi hin hn (by decide) (by decide)) (y_aloadX y1077 rfl (y_iload y1078 rfl (y_iconst y1079 rfl (y_iadd y1080 (y_sld hS y1081 (ix_ok 3 hi hin hn (by decide) (by decide)) (y_if 1089 ((S.2 (w32 (i + 3)).toNat) = 0) y1082 (by decide) rfl (fun q1 => y_iconst y1089 rfl (y_call y1090 ym116 yF103 yK103 rfl (Nat.le_of_ble_eq_true rfl) rfl yS103 rfl (X_mono (X_tag (HX (S.2 (w32 (i + 1)).toNat) (S.2 (w32 (i + 2)).toNat) 0 (hr _) (hr _) (Or.inl rfl))) (fun r h1 p2 => by
    obtain ⟨a, rfl⟩ := (p2.2.1 (Or.inl yR103))
    exact y_aload y1093 rfl (y_aloadX y1094 rfl (y_iload y1095 rfl (y_iconst y1096 rfl (y_iadd y1097 (y_sld hS y1098 (ix_ok 1 hi hin hn (by decide) (by decide)) (y_aloadX y1099 rfl (y_iload y1100 rfl (y_iconst y1101 rfl (y_iadd y1102 (y_sld hS y1103 (ix_ok 2 hi hin hn (by decide) (by decide)) (y_aloadX y1104 rfl (y_iload y1105 rfl (y_iconst y1106 rfl (y_iadd y1107 (y_sld hS y1108 (ix_ok 3 hi hin hn (by decide) (by decide)) (y_if 1116 ((S.2 (w32 (i + 3)).toNat) = 0) y1109 (by decide) rfl (fun _ => y_iconst y1116 rfl (y_call y1117 ym120 yF194 yK194 rfl (Nat.le_of_ble_eq_true rfl) rfl yS194 rfl (X_mono (X_tag p2.1) (fun r2 h2 p3 => by
    obtain ⟨e, eR⟩ := id p3.1
    subst e
    exact y_ifc 1774 _ y1120 (by decide) rfl (fun _ => Hk _ p3.1.2) (fun q => absurd rfl q))))) (fun q => absurd q1 q))))))))))))))))))))) (fun q1 => y_iconst y1085 rfl (y_goto 1090 y1086 (by decide) (y_call y1090 ym116 yF103 yK103 rfl (Nat.le_of_ble_eq_true rfl) rfl yS103 rfl (X_mono (X_tag (HX (S.2 (w32 (i + 1)).toNat) (S.2 (w32 (i + 2)).toNat) 1 (hr _) (hr _) (Or.inr rfl))) (fun r h1 p4 => by
    obtain ⟨a, rfl⟩ := (p4.2.1 (Or.inl yR103))
    exact y_aload y1093 rfl (y_aloadX y1094 rfl (y_iload y1095 rfl (y_iconst y1096 rfl (y_iadd y1097 (y_sld hS y1098 (ix_ok 1 hi hin hn (by decide) (by decide)) (y_aloadX y1099 rfl (y_iload y1100 rfl (y_iconst y1101 rfl (y_iadd y1102 (y_sld hS y1103 (ix_ok 2 hi hin hn (by decide) (by decide)) (y_aloadX y1104 rfl (y_iload y1105 rfl (y_iconst y1106 rfl (y_iadd y1107 (y_sld hS y1108 (ix_ok 3 hi hin hn (by decide) (by decide)) (y_if 1116 ((S.2 (w32 (i + 3)).toNat) = 0) y1109 (by decide) rfl (fun q => absurd q q1) (fun _ => y_iconst y1112 rfl (y_goto 1117 y1113 (by decide) (y_call y1117 ym120 yF194 yK194 rfl (Nat.le_of_ble_eq_true rfl) rfl yS194 rfl (X_mono (X_tag p4.1) (fun r2 h2 p5 => by
    obtain ⟨e, eR⟩ := id p5.1
    subst e
    exact y_ifc 1774 _ y1120 (by decide) rfl (fun _ => Hk _ p5.1.2) (fun q => absurd rfl q)))))))))))))))))))))))))))))))))))))))))))
theorem lw_c24 {S : SC} {n : Nat} {i : Int} {h : HP} (hS : S.1 = n + 1) (hi : 0 ≤ i) (hin : i + 6 ≤ n) (hn : n ≤ 3072) (hr : ∀ j, i32 (S.2 j)) (HX : ∀ (v1 : Int), i32 v1 → X 63 104 0 [some (P 0), some (I v1)] [] h (fun r h1 => X 63 199 0 [some (P 69), some (I v1), none, none, none] [] h1 (fun r' h2 => EQA r r' h2))) (Hk : ∀ h', R h' → Y S 1774 [some PX, some (P 0), some (P 69), some (I i)] [] h') : Y S 1125 [some PX, some (P 0), some (P 69), some (I i)] [] h :=
  y_aload y1125 rfl (y_aloadX y1126 rfl (y_iload y1127 rfl (y_iconst y1128 rfl (y_iadd y1129 (y_sld hS y1130 (ix_ok 1 hi hin hn (by decide) (by decide)) (y_call y1131 ym121 yF104 yK104 rfl (Nat.le_of_ble_eq_true rfl) rfl yS104 rfl (X_mono (X_tag (HX (S.2 (w32 (i + 1)).toNat) (hr _))) (fun r h1 p1 => by
    obtain ⟨a, rfl⟩ := (p1.2.1 (Or.inl yR104))
    exact y_aload y1134 rfl (y_aloadX y1135 rfl (y_iload y1136 rfl (y_iconst y1137 rfl (y_iadd y1138 (y_sld hS y1139 (ix_ok 1 hi hin hn (by decide) (by decide)) (y_call y1140 ym124 yF199 yK199 rfl (Nat.le_of_ble_eq_true rfl) rfl yS199 rfl (X_mono (X_tag p1.1) (fun r2 h2 p2 => by
    obtain ⟨e, eR⟩ := id p2.1
    subst e
    exact y_ifc 1774 _ y1143 (by decide) rfl (fun _ => Hk _ p2.1.2) (fun q => absurd rfl q)))))))))))))))))
theorem lw_c25 {S : SC} {n : Nat} {i : Int} {h : HP} (hS : S.1 = n + 1) (hi : 0 ≤ i) (hin : i + 6 ≤ n) (hn : n ≤ 3072) (hr : ∀ j, i32 (S.2 j)) (HX : ∀ (v1 v2 v3 v4 : Int), i32 v1 → i32 v2 → i32 v3 → b01 v4 → X 63 105 0 [some (P 0), some (I v1), some (I v2), some (I v3), some (I v4), none] [] h (fun r h1 => X 63 200 0 [some (P 69), some (I v1), some (I v2), some (I v3), some (I v4), none] [] h1 (fun r' h2 => EQA r r' h2))) (Hk : ∀ h', R h' → Y S 1774 [some PX, some (P 0), some (P 69), some (I i)] [] h') : Y S 1148 [some PX, some (P 0), some (P 69), some (I i)] [] h :=
  y_aload y1148 rfl (y_aloadX y1149 rfl (y_iload y1150 rfl (y_iconst y1151 rfl (y_iadd y1152 (y_sld hS y1153 (ix_ok 1 hi hin hn (by decide) (by decide)) (y_aloadX y1154 rfl (y_iload y1155 rfl (y_iconst y1156 rfl (y_iadd y1157 (y_sld hS y1158 (ix_ok 2 hi hin hn (by decide) (by decide)) (y_aloadX y1159 rfl (y_iload y1160 rfl (y_iconst y1161 rfl (y_iadd y1162 (y_sld hS y1163 (ix_ok 3 hi hin hn (by decide) (by decide)) (y_aloadX y1164 rfl (y_iload y1165 rfl (y_iconst y1166 rfl (y_iadd y1167 (y_sld hS y1168 (ix_ok 4 hi hin hn (by decide) (by decide)) (y_if 1176 ((S.2 (w32 (i + 4)).toNat) = 0) y1169 (by decide) rfl (fun q1 => y_iconst y1176 rfl (y_call y1177 ym125 yF105 yK105 rfl (Nat.le_of_ble_eq_true rfl) rfl yS105 rfl (X_mono (X_tag (HX (S.2 (w32 (i + 1)).toNat) (S.2 (w32 (i + 2)).toNat) (S.2 (w32 (i + 3)).toNat) 0 (hr _) (hr _) (hr _) (Or.inl rfl))) (fun r h1 p2 => by
    obtain ⟨a, rfl⟩ := (p2.2.1 (Or.inl yR105))
    exact y_aload y1180 rfl (y_aloadX y1181 rfl (y_iload y1182 rfl (y_iconst y1183 rfl (y_iadd y1184 (y_sld hS y1185 (ix_ok 1 hi hin hn (by decide) (by decide)) (y_aloadX y1186 rfl (y_iload y1187 rfl (y_iconst y1188 rfl (y_iadd y1189 (y_sld hS y1190 (ix_ok 2 hi hin hn (by decide) (by decide)) (y_aloadX y1191 rfl (y_iload y1192 rfl (y_iconst y1193 rfl (y_iadd y1194 (y_sld hS y1195 (ix_ok 3 hi hin hn (by decide) (by decide)) (y_aloadX y1196 rfl (y_iload y1197 rfl (y_iconst y1198 rfl (y_iadd y1199 (y_sld hS y1200 (ix_ok 4 hi hin hn (by decide) (by decide)) (y_if 1208 ((S.2 (w32 (i + 4)).toNat) = 0) y1201 (by decide) rfl (fun _ => y_iconst y1208 rfl (y_call y1209 ym129 yF200 yK200 rfl (Nat.le_of_ble_eq_true rfl) rfl yS200 rfl (X_mono (X_tag p2.1) (fun r2 h2 p3 => by
    obtain ⟨e, eR⟩ := id p3.1
    subst e
    exact y_ifc 1774 _ y1212 (by decide) rfl (fun _ => Hk _ p3.1.2) (fun q => absurd rfl q))))) (fun q => absurd q1 q)))))))))))))))))))))))))) (fun q1 => y_iconst y1172 rfl (y_goto 1177 y1173 (by decide) (y_call y1177 ym125 yF105 yK105 rfl (Nat.le_of_ble_eq_true rfl) rfl yS105 rfl (X_mono (X_tag (HX (S.2 (w32 (i + 1)).toNat) (S.2 (w32 (i + 2)).toNat) (S.2 (w32 (i + 3)).toNat) 1 (hr _) (hr _) (hr _) (Or.inr rfl))) (fun r h1 p4 => by
    obtain ⟨a, rfl⟩ := (p4.2.1 (Or.inl yR105))
    exact y_aload y1180 rfl (y_aloadX y1181 rfl (y_iload y1182 rfl (y_iconst y1183 rfl (y_iadd y1184 (y_sld hS y1185 (ix_ok 1 hi hin hn (by decide) (by decide)) (y_aloadX y1186 rfl (y_iload y1187 rfl (y_iconst y1188 rfl (y_iadd y1189 (y_sld hS y1190 (ix_ok 2 hi hin hn (by decide) (by decide)) (y_aloadX y1191 rfl (y_iload y1192 rfl (y_iconst y1193 rfl (y_iadd y1194 (y_sld hS y1195 (ix_ok 3 hi hin hn (by decide) (by decide)) (y_aloadX y1196 rfl (y_iload y1197 rfl (y_iconst y1198 rfl (y_iadd y1199 (y_sld hS y1200 (ix_ok 4 hi hin hn (by decide) (by decide)) (y_if 1208 ((S.2 (w32 (i + 4)).toNat) = 0) y1201 (by decide) rfl (fun q => absurd q q1) (fun _ => y_iconst y1204 rfl (y_goto 1209 y1205 (by decide) (y_call y1209 ym129 yF200 yK200 rfl (Nat.le_of_ble_eq_true rfl) rfl yS200 rfl (X_mono (X_tag p4.1) (fun r2 h2 p5 => by
    obtain ⟨e, eR⟩ := id p5.1
    subst e
    exact y_ifc 1774 _ y1212 (by decide) rfl (fun _ => Hk _ p5.1.2) (fun q => absurd rfl q)))))))))))))))))))))))))))))))))))))))))))))))))))))
theorem lw_c26 {S : SC} {n : Nat} {i : Int} {h : HP} (hS : S.1 = n + 1) (hi : 0 ≤ i) (hin : i + 6 ≤ n) (hn : n ≤ 3072) (hr : ∀ j, i32 (S.2 j)) (HX : ∀ (v1 v2 v3 v4 : Int), i32 v1 → i32 v2 → i32 v3 → i32 v4 → X 63 106 0 [some (P 0), some (I v1), some (I v2), some (I v3), some (I v4), none] [] h (fun r h1 => X 63 202 0 [some (P 69), some (I v1), some (I v2), some (I v3), some (I v4), none] [] h1 (fun r' h2 => EQA r r' h2))) (Hk : ∀ h', R h' → Y S 1774 [some PX, some (P 0), some (P 69), some (I i)] [] h') : Y S 1217 [some PX, some (P 0), some (P 69), some (I i)] [] h :=
  y_aload y1217 rfl (y_aloadX y1218 rfl (y_iload y1219 rfl (y_iconst y1220 rfl (y_iadd y1221 (y_sld hS y1222 (ix_ok 1 hi hin hn (by decide) (by decide)) (y_aloadX y1223 rfl (y_iload y1224 rfl (y_iconst y1225 rfl (y_iadd y1226 (y_sld hS y1227 (ix_ok 2 hi hin hn (by decide) (by decide)) (y_aloadX y1228 rfl (y_iload y1229 rfl (y_iconst y1230 rfl (y_iadd y1231 (y_sld hS y1232 (ix_ok 3 hi hin hn (by decide) (by decide)) (y_aloadX y1233 rfl (y_iload y1234 rfl (y_iconst y1235 rfl (y_iadd y1236 (y_sld hS y1237 (ix_ok 4 hi hin hn (by decide) (by decide)) (y_call y1238 ym130 yF106 yK106 rfl (Nat.le_of_ble_eq_true rfl) rfl yS106 rfl (X_mono (X_tag (HX (S.2 (w32 (i + 1)).toNat) (S.2 (w32 (i + 2)).toNat) (S.2 (w32 (i + 3)).toNat) (S.2 (w32 (i + 4)).toNat) (hr _) (hr _) (hr _) (hr _))) (fun r h1 p1 => by
    obtain ⟨a, rfl⟩ := (p1.2.1 (Or.inl yR106))
    exact y_aload y1241 rfl (y_aloadX y1242 rfl (y_iload y1243 rfl (y_iconst y1244 rfl (y_iadd y1245 (y_sld hS y1246 (ix_ok 1 hi hin hn (by decide) (by decide)) (y_aloadX y1247 rfl (y_iload y1248 rfl (y_iconst y1249 rfl (y_iadd y1250 (y_sld hS y1251 (ix_ok 2 hi hin hn (by decide) (by decide)) (y_aloadX y1252 rfl (y_iload y1253 rfl (y_iconst y1254 rfl (y_iadd y1255 (y_sld hS y1256 (ix_ok 3 hi hin hn (by decide) (by decide)) (y_aloadX y1257 rfl (y_iload y1258 rfl (y_iconst y1259 rfl (y_iadd y1260 (y_sld hS y1261 (ix_ok 4 hi hin hn (by decide) (by decide)) (y_call y1262 ym134 yF202 yK202 rfl (Nat.le_of_ble_eq_true rfl) rfl yS202 rfl (X_mono (X_tag p1.1) (fun r2 h2 p2 => by
    obtain ⟨e, eR⟩ := id p2.1
    subst e
    exact y_ifc 1774 _ y1265 (by decide) rfl (fun _ => Hk _ p2.1.2) (fun q => absurd rfl q)))))))))))))))))))))))))))))))))))))))))))))))
theorem lw_c27 {S : SC} {n : Nat} {i : Int} {h : HP} (hS : S.1 = n + 1) (hi : 0 ≤ i) (hin : i + 6 ≤ n) (hn : n ≤ 3072) (hr : ∀ j, i32 (S.2 j)) (HX : ∀ (v1 v2 : Int), i32 v1 → i32 v2 → X 63 107 0 [some (P 0), some (I v1), some (I v2), none, none, none, none, none] [] h (fun r h1 => X 63 203 0 [some (P 69), some (I v1), some (I v2), none, none, none, none] [] h1 (fun r' h2 => EQA r r' h2))) (Hk : ∀ h', R h' → Y S 1774 [some PX, some (P 0), some (P 69), some (I i)] [] h') : Y S 1270 [some PX, some (P 0), some (P 69), some (I i)] [] h :=
  y_aload y1270 rfl (y_aloadX y1271 rfl (y_iload y1272 rfl (y_iconst y1273 rfl (y_iadd y1274 (y_sld hS y1275 (ix_ok 1 hi hin hn (by decide) (by decide)) (y_aloadX y1276 rfl (y_iload y1277 rfl (y_iconst y1278 rfl (y_iadd y1279 (y_sld hS y1280 (ix_ok 2 hi hin hn (by decide) (by decide)) (y_call y1281 ym135 yF107 yK107 rfl (Nat.le_of_ble_eq_true rfl) rfl yS107 rfl (X_mono (X_tag (HX (S.2 (w32 (i + 1)).toNat) (S.2 (w32 (i + 2)).toNat) (hr _) (hr _))) (fun r h1 p1 => by
    obtain ⟨a, rfl⟩ := (p1.2.1 (Or.inl yR107))
    exact y_aload y1284 rfl (y_aloadX y1285 rfl (y_iload y1286 rfl (y_iconst y1287 rfl (y_iadd y1288 (y_sld hS y1289 (ix_ok 1 hi hin hn (by decide) (by decide)) (y_aloadX y1290 rfl (y_iload y1291 rfl (y_iconst y1292 rfl (y_iadd y1293 (y_sld hS y1294 (ix_ok 2 hi hin hn (by decide) (by decide)) (y_call y1295 ym138 yF203 yK203 rfl (Nat.le_of_ble_eq_true rfl) rfl yS203 rfl (X_mono (X_tag p1.1) (fun r2 h2 p2 => by
    obtain ⟨e, eR⟩ := id p2.1
    subst e
    exact y_ifc 1774 _ y1298 (by decide) rfl (fun _ => Hk _ p2.1.2) (fun q => absurd rfl q)))))))))))))))))))))))))))
theorem lw_c28 {S : SC} {n : Nat} {i : Int} {h : HP} (hS : S.1 = n + 1) (hi : 0 ≤ i) (hin : i + 6 ≤ n) (hn : n ≤ 3072) (hr : ∀ j, i32 (S.2 j)) (HX : ∀ (v1 v2 v3 v4 v5 : Int), i32 v1 → i32 v2 → i32 v3 → i32 v4 → i32 v5 → X 63 108 0 [some (P 0), some (I v1), some (I v2), some (I v3), some (I v4), some (I v5)] [] h (fun r h1 => X 63 204 0 [some (P 69), some (I v1), some (I v2), some (I v3), some (I v4), some (I v5)] [] h1 (fun r' h2 => EQA r r' h2))) (Hk : ∀ h', R h' → Y S 1774 [some PX, some (P 0), some (P 69), some (I i)] [] h') : Y S 1303 [some PX, some (P 0), some (P 69), some (I i)] [] h :=
  y_aload y1303 rfl (y_aloadX y1304 rfl (y_iload y1305 rfl (y_iconst y1306 rfl (y_iadd y1307 (y_sld hS y1308 (ix_ok 1 hi hin hn (by decide) (by decide)) (y_aloadX y1309 rfl (y_iload y1310 rfl (y_iconst y1311 rfl (y_iadd y1312 (y_sld hS y1313 (ix_ok 2 hi hin hn (by decide) (by decide)) (y_aloadX y1314 rfl (y_iload y1315 rfl (y_iconst y1316 rfl (y_iadd y1317 (y_sld hS y1318 (ix_ok 3 hi hin hn (by decide) (by decide)) (y_aloadX y1319 rfl (y_iload y1320 rfl (y_iconst y1321 rfl (y_iadd y1322 (y_sld hS y1323 (ix_ok 4 hi hin hn (by decide) (by decide)) (y_aloadX y1324 rfl (y_iload y1325 rfl (y_iconst y1326 rfl (y_iadd y1327 (y_sld hS y1328 (ix_ok 5 hi hin hn (by decide) (by decide)) (y_call y1329 ym139 yF108 yK108 rfl (Nat.le_of_ble_eq_true rfl) rfl yS108 rfl (X_mono (X_tag (HX (S.2 (w32 (i + 1)).toNat) (S.2 (w32 (i + 2)).toNat) (S.2 (w32 (i + 3)).toNat) (S.2 (w32 (i + 4)).toNat) (S.2 (w32 (i + 5)).toNat) (hr _) (hr _) (hr _) (hr _) (hr _))) (fun r h1 p1 => by
    obtain ⟨a, rfl⟩ := (p1.2.1 (Or.inl yR108))
    exact y_aload y1332 rfl (y_aloadX y1333 rfl (y_iload y1334 rfl (y_iconst y1335 rfl (y_iadd y1336 (y_sld hS y1337 (ix_ok 1 hi hin hn (by decide) (by decide)) (y_aloadX y1338 rfl (y_iload y1339 rfl (y_iconst y1340 rfl (y_iadd y1341 (y_sld hS y1342 (ix_ok 2 hi hin hn (by decide) (by decide)) (y_aloadX y1343 rfl (y_iload y1344 rfl (y_iconst y1345 rfl (y_iadd y1346 (y_sld hS y1347 (ix_ok 3 hi hin hn (by decide) (by decide)) (y_aloadX y1348 rfl (y_iload y1349 rfl (y_iconst y1350 rfl (y_iadd y1351 (y_sld hS y1352 (ix_ok 4 hi hin hn (by decide) (by decide)) (y_aloadX y1353 rfl (y_iload y1354 rfl (y_iconst y1355 rfl (y_iadd y1356 (y_sld hS y1357 (ix_ok 5 hi hin hn (by decide) (by decide)) (y_call y1358 ym143 yF204 yK204 rfl (Nat.le_of_ble_eq_true rfl) rfl yS204 rfl (X_mono (X_tag p1.1) (fun r2 h2 p2 => by
    obtain ⟨e, eR⟩ := id p2.1
    subst e
    exact y_ifc 1774 _ y1361 (by decide) rfl (fun _ => Hk _ p2.1.2) (fun q => absurd rfl q)))))))))))))))))))))))))))))))))))))))))))))))))))))))))
theorem lw_c29 {S : SC} {n : Nat} {i : Int} {h : HP} (hS : S.1 = n + 1) (hi : 0 ≤ i) (hin : i + 6 ≤ n) (hn : n ≤ 3072) (hr : ∀ j, i32 (S.2 j)) (HX : ∀ (v1 v2 : Int), i32 v1 → i32 v2 → X 63 109 0 [some (P 0), some (I v1), some (I v2), none, none, none, none] [] h (fun r h1 => X 63 207 0 [some (P 69), some (I v1), some (I v2), none, none, none, none, none, none, none] [] h1 (fun r' h2 => EQA r r' h2))) (Hk : ∀ h', R h' → Y S 1774 [some PX, some (P 0), some (P 69), some (I i)] [] h') : Y S 1366 [some PX, some (P 0), some (P 69), some (I i)] [] h :=
  y_aload y1366 rfl (y_aloadX y1367 rfl (y_iload y1368 rfl (y_iconst y1369 rfl (y_iadd y1370 (y_sld hS y1371 (ix_ok 1 hi hin hn (by decide) (by decide)) (y_aloadX y1372 rfl (y_iload y1373 rfl (y_iconst y1374 rfl (y_iadd y1375 (y_sld hS y1376 (ix_ok 2 hi hin hn (by decide) (by decide)) (y_call y1377 ym144 yF109 yK109 rfl (Nat.le_of_ble_eq_true rfl) rfl yS109 rfl (X_mono (X_tag (HX (S.2 (w32 (i + 1)).toNat) (S.2 (w32 (i + 2)).toNat) (hr _) (hr _))) (fun r h1 p1 => by
    obtain ⟨a, rfl⟩ := (p1.2.1 (Or.inl yR109))
    exact y_aload y1380 rfl (y_aloadX y1381 rfl (y_iload y1382 rfl (y_iconst y1383 rfl (y_iadd y1384 (y_sld hS y1385 (ix_ok 1 hi hin hn (by decide) (by decide)) (y_aloadX y1386 rfl (y_iload y1387 rfl (y_iconst y1388 rfl (y_iadd y1389 (y_sld hS y1390 (ix_ok 2 hi hin hn (by decide) (by decide)) (y_call y1391 ym147 yF207 yK207 rfl (Nat.le_of_ble_eq_true rfl) rfl yS207 rfl (X_mono (X_tag p1.1) (fun r2 h2 p2 => by
    obtain ⟨e, eR⟩ := id p2.1
    subst e
    exact y_ifc 1774 _ y1394 (by decide) rfl (fun _ => Hk _ p2.1.2) (fun q => absurd rfl q)))))))))))))))))))))))))))
theorem lw_c30 {S : SC} {n : Nat} {i : Int} {h : HP} (hS : S.1 = n + 1) (hi : 0 ≤ i) (hin : i + 6 ≤ n) (hn : n ≤ 3072) (hr : ∀ j, i32 (S.2 j)) (HX : ∀ (v1 v2 v3 v4 : Int), i32 v1 → i32 v2 → i32 v3 → i32 v4 → X 63 110 0 [some (P 0), some (I v1), some (I v2), some (I v3), some (I v4), none, none, none, none, none] [] h (fun r h1 => X 63 210 0 [some (P 69), some (I v1), some (I v2), some (I v3), some (I v4), none] [] h1 (fun r' h2 => EQA r r' h2))) (Hk : ∀ h', R h' → Y S 1774 [some PX, some (P 0), some (P 69), some (I i)] [] h') : Y S 1399 [some PX, some (P 0), some (P 69), some (I i)] [] h :=
  y_aload y1399 rfl (y_aloadX y1400 rfl (y_iload y1401 rfl (y_iconst y1402 rfl (y_iadd y1403 (y_sld hS y1404 (ix_ok 1 hi hin hn (by decide) (by decide)) (y_aloadX y1405 rfl (y_iload y1406 rfl (y_iconst y1407 rfl (y_iadd y1408 (y_sld hS y1409 (ix_ok 2 hi hin hn (by decide) (by decide)) (y_aloadX y1410 rfl (y_iload y1411 rfl (y_iconst y1412 rfl (y_iadd y1413 (y_sld hS y1414 (ix_ok 3 hi hin hn (by decide) (by decide)) (y_aloadX y1415 rfl (y_iload y1416 rfl (y_iconst y1417 rfl (y_iadd y1418 (y_sld hS y1419 (ix_ok 4 hi hin hn (by decide) (by decide)) (y_call y1420 ym148 yF110 yK110 rfl (Nat.le_of_ble_eq_true rfl) rfl yS110 rfl (X_mono (X_tag (HX (S.2 (w32 (i + 1)).toNat) (S.2 (w32 (i + 2)).toNat) (S.2 (w32 (i + 3)).toNat) (S.2 (w32 (i + 4)).toNat) (hr _) (hr _) (hr _) (hr _))) (fun r h1 p1 => by
    obtain ⟨a, rfl⟩ := (p1.2.1 (Or.inl yR110))
    exact y_aload y1423 rfl (y_aloadX y1424 rfl (y_iload y1425 rfl (y_iconst y1426 rfl (y_iadd y1427 (y_sld hS y1428 (ix_ok 1 hi hin hn (by decide) (by decide)) (y_aloadX y1429 rfl (y_iload y1430 rfl (y_iconst y1431 rfl (y_iadd y1432 (y_sld hS y1433 (ix_ok 2 hi hin hn (by decide) (by decide)) (y_aloadX y1434 rfl (y_iload y1435 rfl (y_iconst y1436 rfl (y_iadd y1437 (y_sld hS y1438 (ix_ok 3 hi hin hn (by decide) (by decide)) (y_aloadX y1439 rfl (y_iload y1440 rfl (y_iconst y1441 rfl (y_iadd y1442 (y_sld hS y1443 (ix_ok 4 hi hin hn (by decide) (by decide)) (y_call y1444 ym151 yF210 yK210 rfl (Nat.le_of_ble_eq_true rfl) rfl yS210 rfl (X_mono (X_tag p1.1) (fun r2 h2 p2 => by
    obtain ⟨e, eR⟩ := id p2.1
    subst e
    exact y_ifc 1774 _ y1447 (by decide) rfl (fun _ => Hk _ p2.1.2) (fun q => absurd rfl q)))))))))))))))))))))))))))))))))))))))))))))))
theorem lw_c31 {S : SC} {n : Nat} {i : Int} {h : HP} (hS : S.1 = n + 1) (hi : 0 ≤ i) (hin : i + 6 ≤ n) (hn : n ≤ 3072) (hr : ∀ j, i32 (S.2 j)) (HX : ∀ (v1 v2 v3 : Int), i32 v1 → i32 v2 → i32 v3 → X 63 111 0 [some (P 0), some (I v1), some (I v2), some (I v3)] [] h (fun r h1 => X 63 211 0 [some (P 69), some (I v1), some (I v2), some (I v3)] [] h1 (fun r' h2 => EQA r r' h2))) (Hk : ∀ h', R h' → Y S 1774 [some PX, some (P 0), some (P 69), some (I i)] [] h') : Y S 1452 [some PX, some (P 0), some (P 69), some (I i)] [] h :=
  y_aload y1452 rfl (y_aloadX y1453 rfl (y_iload y1454 rfl (y_iconst y1455 rfl (y_iadd y1456 (y_sld hS y1457 (ix_ok 1 hi hin hn (by decide) (by decide)) (y_aloadX y1458 rfl (y_iload y1459 rfl (y_iconst y1460 rfl (y_iadd y1461 (y_sld hS y1462 (ix_ok 2 hi hin hn (by decide) (by decide)) (y_aloadX y1463 rfl (y_iload y1464 rfl (y_iconst y1465 rfl (y_iadd y1466 (y_sld hS y1467 (ix_ok 3 hi hin hn (by decide) (by decide)) (y_call y1468 ym152 yF111 yK111 rfl (Nat.le_of_ble_eq_true rfl) rfl yS111 rfl (X_mono (X_tag (HX (S.2 (w32 (i + 1)).toNat) (S.2 (w32 (i + 2)).toNat) (S.2 (w32 (i + 3)).toNat) (hr _) (hr _) (hr _))) (fun r h1 p1 => by
    obtain ⟨a, rfl⟩ := (p1.2.1 (Or.inl yR111))
    exact y_aload y1471 rfl (y_aloadX y1472 rfl (y_iload y1473 rfl (y_iconst y1474 rfl (y_iadd y1475 (y_sld hS y1476 (ix_ok 1 hi hin hn (by decide) (by decide)) (y_aloadX y1477 rfl (y_iload y1478 rfl (y_iconst y1479 rfl (y_iadd y1480 (y_sld hS y1481 (ix_ok 2 hi hin hn (by decide) (by decide)) (y_aloadX y1482 rfl (y_iload y1483 rfl (y_iconst y1484 rfl (y_iadd y1485 (y_sld hS y1486 (ix_ok 3 hi hin hn (by decide) (by decide)) (y_call y1487 ym155 yF211 yK211 rfl (Nat.le_of_ble_eq_true rfl) rfl yS211 rfl (X_mono (X_tag p1.1) (fun r2 h2 p2 => by
    obtain ⟨e, eR⟩ := id p2.1
    subst e
    exact y_ifc 1774 _ y1490 (by decide) rfl (fun _ => Hk _ p2.1.2) (fun q => absurd rfl q)))))))))))))))))))))))))))))))))))))
theorem lw_c32 {S : SC} {n : Nat} {i : Int} {h : HP} (hS : S.1 = n + 1) (hi : 0 ≤ i) (hin : i + 6 ≤ n) (hn : n ≤ 3072) (hr : ∀ j, i32 (S.2 j)) (HX : ∀ (v1 v2 v3 : Int), i32 v1 → b01 v2 → i32 v3 → X 63 112 0 [some (P 0), some (I v1), some (I v2), some (I v3), none, none, none] [] h (fun r h1 => X 63 212 0 [some (P 69), some (I v1), some (I v2), some (I v3), none] [] h1 (fun r' h2 => EQA r r' h2))) (Hk : ∀ h', R h' → Y S 1774 [some PX, some (P 0), some (P 69), some (I i)] [] h') : Y S 1495 [some PX, some (P 0), some (P 69), some (I i)] [] h :=
  y_aload y1495 rfl (y_aloadX y1496 rfl (y_iload y1497 rfl (y_iconst y1498 rfl (y_iadd y1499 (y_sld hS y1500 (ix_ok 1 hi hin hn (by decide) (by decide)) (y_aloadX y1501 rfl (y_iload y1502 rfl (y_iconst y1503 rfl (y_iadd y1504 (y_sld hS y1505 (ix_ok 2 hi hin hn (by decide) (by decide)) (y_if 1513 ((S.2 (w32 (i + 2)).toNat) = 0) y1506 (by decide) rfl (fun q1 => y_iconst y1513 rfl (y_aloadX y1514 rfl (y_iload y1515 rfl (y_iconst y1516 rfl (y_iadd y1517 (y_sld hS y1518 (ix_ok 3 hi hin hn (by decide) (by decide)) (y_call y1519 ym156 yF112 yK112 rfl (Nat.le_of_ble_eq_true rfl) rfl yS112 rfl (X_mono (X_tag (HX (S.2 (w32 (i + 1)).toNat) 0 (S.2 (w32 (i + 3)).toNat) (hr _) (Or.inl rfl) (hr _))) (fun r h1 p2 => by
    obtain ⟨a, rfl⟩ := (p2.2.1 (Or.inl yR112))
    exact y_aload y1522 rfl (y_aloadX y1523 rfl (y_iload y1524 rfl (y_iconst y1525 rfl (y_iadd y1526 (y_sld hS y1527 (ix_ok 1 hi hin hn (by decide) (by decide)) (y_aloadX y1528 rfl (y_iload y1529 rfl (y_iconst y1530 rfl (y_iadd y1531 (y_sld hS y1532 (ix_ok 2 hi hin hn (by decide) (by decide)) (y_if 1540 ((S.2 (w32 (i + 2)).toNat) = 0) y1533 (by decide) rfl (fun _ => y_iconst y1540 rfl (y_aloadX y1541 rfl (y_iload y1542 rfl (y_iconst y1543 rfl (y_iadd y1544 (y_sld hS y1545 (ix_ok 3 hi hin hn (by decide) (by decide)) (y_call y1546 ym159 yF212 yK212 rfl (Nat.le_of_ble_eq_true rfl) rfl yS212 rfl (X_mono (X_tag p2.1) (fun r2 h2 p3 => by
    obtain ⟨e, eR⟩ := id p3.1
    subst e
    exact y_ifc 1774 _ y1549 (by decide) rfl (fun _ => Hk _ p3.1.2) (fun q => absurd rfl q)))))))))) (fun q => absurd q1 q))))))))))))))))))))) (fun q1 => y_iconst y1509 rfl (y_goto 1514 y1510 (by decide) (y_aloadX y1514 rfl (y_iload y1515 rfl (y_iconst y1516 rfl (y_iadd y1517 (y_sld hS y1518 (ix_ok 3 hi hin hn (by decide) (by decide)) (y_call y1519 ym156 yF112 yK112 rfl (Nat.le_of_ble_eq_true rfl) rfl yS112 rfl (X_mono (X_tag (HX (S.2 (w32 (i + 1)).toNat) 1 (S.2 (w32 (i + 3)).toNat) (hr _) (Or.inr rfl) (hr _))) (fun r h1 p4 => by
    obtain ⟨a, rfl⟩ := (p4.2.1 (Or.inl yR112))
    exact y_aload y1522 rfl (y_aloadX y1523 rfl (y_iload y1524 rfl (y_iconst y1525 rfl (y_iadd y1526 (y_sld hS y1527 (ix_ok 1 hi hin hn (by decide) (by decide)) (y_aloadX y1528 rfl (y_iload y1529 rfl (y_iconst y1530 rfl (y_iadd y1531 (y_sld hS y1532 (ix_ok 2 hi hin hn (by decide) (by decide)) (y_if 1540 ((S.2 (w32 (i + 2)).toNat) = 0) y1533 (by decide) rfl (fun q => absurd q q1) (fun _ => y_iconst y1536 rfl (y_goto 1541 y1537 (by decide) (y_aloadX y1541 rfl (y_iload y1542 rfl (y_iconst y1543 rfl (y_iadd y1544 (y_sld hS y1545 (ix_ok 3 hi hin hn (by decide) (by decide)) (y_call y1546 ym159 yF212 yK212 rfl (Nat.le_of_ble_eq_true rfl) rfl yS212 rfl (X_mono (X_tag p4.1) (fun r2 h2 p5 => by
    obtain ⟨e, eR⟩ := id p5.1
    subst e
    exact y_ifc 1774 _ y1549 (by decide) rfl (fun _ => Hk _ p5.1.2) (fun q => absurd rfl q)))))))))))))))))))))))))))))))))))))))))))
theorem lw_c33 {S : SC} {n : Nat} {i : Int} {h : HP} (hS : S.1 = n + 1) (hi : 0 ≤ i) (hin : i + 6 ≤ n) (hn : n ≤ 3072) (hr : ∀ j, i32 (S.2 j)) (HX : ∀ (v1 : Int), i32 v1 → X 63 113 0 [some (P 0), some (I v1), none] [] h (fun r h1 => X 63 213 0 [some (P 69), some (I v1), none] [] h1 (fun r' h2 => EQA r r' h2))) (Hk : ∀ h', R h' → Y S 1774 [some PX, some (P 0), some (P 69), some (I i)] [] h') : Y S 1554 [some PX, some (P 0), some (P 69), some (I i)] [] h :=
  y_aload y1554 rfl (y_aloadX y1555 rfl (y_iload y1556 rfl (y_iconst y1557 rfl (y_iadd y1558 (y_sld hS y1559 (ix_ok 1 hi hin hn (by decide) (by decide)) (y_call y1560 ym160 yF113 yK113 rfl (Nat.le_of_ble_eq_true rfl) rfl yS113 rfl (X_mono (X_tag (HX (S.2 (w32 (i + 1)).toNat) (hr _))) (fun r h1 p1 => by
    obtain ⟨a, rfl⟩ := (p1.2.1 (Or.inl yR113))
    exact y_aload y1563 rfl (y_aloadX y1564 rfl (y_iload y1565 rfl (y_iconst y1566 rfl (y_iadd y1567 (y_sld hS y1568 (ix_ok 1 hi hin hn (by decide) (by decide)) (y_call y1569 ym163 yF213 yK213 rfl (Nat.le_of_ble_eq_true rfl) rfl yS213 rfl (X_mono (X_tag p1.1) (fun r2 h2 p2 => by
    obtain ⟨e, eR⟩ := id p2.1
    subst e
    exact y_ifc 1774 _ y1572 (by decide) rfl (fun _ => Hk _ p2.1.2) (fun q => absurd rfl q)))))))))))))))))
theorem lw_c34 {S : SC} {n : Nat} {i : Int} {h : HP} (hS : S.1 = n + 1) (hi : 0 ≤ i) (hin : i + 6 ≤ n) (hn : n ≤ 3072) (hr : ∀ j, i32 (S.2 j)) (HX : ∀ (v1 v2 : Int), i32 v1 → i32 v2 → X 63 114 0 [some (P 0), some (I v1), some (I v2), none, none] [] h (fun r h1 => X 63 215 0 [some (P 69), some (I v1), some (I v2)] [] h1 (fun r' h2 => EQA r r' h2))) (Hk : ∀ h', R h' → Y S 1774 [some PX, some (P 0), some (P 69), some (I i)] [] h') : Y S 1577 [some PX, some (P 0), some (P 69), some (I i)] [] h :=
  y_aload y1577 rfl (y_aloadX y1578 rfl (y_iload y1579 rfl (y_iconst y1580 rfl (y_iadd y1581 (y_sld hS y1582 (ix_ok 1 hi hin hn (by decide) (by decide)) (y_aloadX y1583 rfl (y_iload y1584 rfl (y_iconst y1585 rfl (y_iadd y1586 (y_sld hS y1587 (ix_ok 2 hi hin hn (by decide) (by decide)) (y_call y1588 ym164 yF114 yK114 rfl (Nat.le_of_ble_eq_true rfl) rfl yS114 rfl (X_mono (X_tag (HX (S.2 (w32 (i + 1)).toNat) (S.2 (w32 (i + 2)).toNat) (hr _) (hr _))) (fun r h1 p1 => by
    obtain ⟨a, rfl⟩ := (p1.2.1 (Or.inl yR114))
    exact y_aload y1591 rfl (y_aloadX y1592 rfl (y_iload y1593 rfl (y_iconst y1594 rfl (y_iadd y1595 (y_sld hS y1596 (ix_ok 1 hi hin hn (by decide) (by decide)) (y_aloadX y1597 rfl (y_iload y1598 rfl (y_iconst y1599 rfl (y_iadd y1600 (y_sld hS y1601 (ix_ok 2 hi hin hn (by decide) (by decide)) (y_call y1602 ym167 yF215 yK215 rfl (Nat.le_of_ble_eq_true rfl) rfl yS215 rfl (X_mono (X_tag p1.1) (fun r2 h2 p2 => by
    obtain ⟨e, eR⟩ := id p2.1
    subst e
    exact y_ifc 1774 _ y1605 (by decide) rfl (fun _ => Hk _ p2.1.2) (fun q => absurd rfl q)))))))))))))))))))))))))))
theorem lw_c35 {S : SC} {n : Nat} {i : Int} {h : HP} (hS : S.1 = n + 1) (hi : 0 ≤ i) (hin : i + 6 ≤ n) (hn : n ≤ 3072) (hr : ∀ j, i32 (S.2 j)) (HX : ∀ (v1 : Int), i32 v1 → X 63 115 0 [some (P 0), some (I v1), none, none, none] [] h (fun r h1 => X 63 216 0 [some (P 69), some (I v1), none] [] h1 (fun r' h2 => EQA r r' h2))) (Hk : ∀ h', R h' → Y S 1774 [some PX, some (P 0), some (P 69), some (I i)] [] h') : Y S 1610 [some PX, some (P 0), some (P 69), some (I i)] [] h :=
  y_aload y1610 rfl (y_aloadX y1611 rfl (y_iload y1612 rfl (y_iconst y1613 rfl (y_iadd y1614 (y_sld hS y1615 (ix_ok 1 hi hin hn (by decide) (by decide)) (y_call y1616 ym168 yF115 yK115 rfl (Nat.le_of_ble_eq_true rfl) rfl yS115 rfl (X_mono (X_tag (HX (S.2 (w32 (i + 1)).toNat) (hr _))) (fun r h1 p1 => by
    obtain ⟨a, rfl⟩ := (p1.2.1 (Or.inl yR115))
    exact y_aload y1619 rfl (y_aloadX y1620 rfl (y_iload y1621 rfl (y_iconst y1622 rfl (y_iadd y1623 (y_sld hS y1624 (ix_ok 1 hi hin hn (by decide) (by decide)) (y_call y1625 ym171 yF216 yK216 rfl (Nat.le_of_ble_eq_true rfl) rfl yS216 rfl (X_mono (X_tag p1.1) (fun r2 h2 p2 => by
    obtain ⟨e, eR⟩ := id p2.1
    subst e
    exact y_ifc 1774 _ y1628 (by decide) rfl (fun _ => Hk _ p2.1.2) (fun q => absurd rfl q)))))))))))))))))
theorem lw_c36 {S : SC} {n : Nat} {i : Int} {h : HP} (hS : S.1 = n + 1) (hi : 0 ≤ i) (hin : i + 6 ≤ n) (hn : n ≤ 3072) (hr : ∀ j, i32 (S.2 j)) (HX : ∀ (v1 : Int), i32 v1 → X 63 116 0 [some (P 0), some (I v1)] [] h (fun r h1 => X 63 217 0 [some (P 69), some (I v1), none, none, none, none] [] h1 (fun r' h2 => EQA r r' h2))) (Hk : ∀ h', R h' → Y S 1774 [some PX, some (P 0), some (P 69), some (I i)] [] h') : Y S 1633 [some PX, some (P 0), some (P 69), some (I i)] [] h :=
  y_aload y1633 rfl (y_aloadX y1634 rfl (y_iload y1635 rfl (y_iconst y1636 rfl (y_iadd y1637 (y_sld hS y1638 (ix_ok 1 hi hin hn (by decide) (by decide)) (y_call y1639 ym172 yF116 yK116 rfl (Nat.le_of_ble_eq_true rfl) rfl yS116 rfl (X_mono (X_tag (HX (S.2 (w32 (i + 1)).toNat) (hr _))) (fun r h1 p1 => by
    obtain ⟨a, rfl⟩ := (p1.2.1 (Or.inl yR116))
    exact y_aload y1642 rfl (y_aloadX y1643 rfl (y_iload y1644 rfl (y_iconst y1645 rfl (y_iadd y1646 (y_sld hS y1647 (ix_ok 1 hi hin hn (by decide) (by decide)) (y_call y1648 ym175 yF217 yK217 rfl (Nat.le_of_ble_eq_true rfl) rfl yS217 rfl (X_mono (X_tag p1.1) (fun r2 h2 p2 => by
    obtain ⟨e, eR⟩ := id p2.1
    subst e
    exact y_ifc 1774 _ y1651 (by decide) rfl (fun _ => Hk _ p2.1.2) (fun q => absurd rfl q)))))))))))))))))
theorem lw_c37 {S : SC} {n : Nat} {i : Int} {h : HP} (hS : S.1 = n + 1) (hi : 0 ≤ i) (hin : i + 6 ≤ n) (hn : n ≤ 3072) (hr : ∀ j, i32 (S.2 j)) (HX : ∀ (v1 v2 v3 v4 : Int), i32 v1 → i32 v2 → i32 v3 → b01 v4 → X 63 117 0 [some (P 0), some (I v1), some (I v2), some (I v3), some (I v4), none, none, none] [] h (fun r h1 => X 63 219 0 [some (P 69), some (I v1), some (I v2), some (I v3), some (I v4), none, none, none, none] [] h1 (fun r' h2 => EQA r r' h2))) (Hk : ∀ h', R h' → Y S 1774 [some PX, some (P 0), some (P 69), some (I i)] [] h') : Y S 1656 [some PX, some (P 0), some (P 69), some (I i)] [] h :=
  y_aload y1656 rfl (y_aloadX y1657 rfl (y_iload y1658 rfl (y_iconst y1659 rfl (y_iadd y1660 (y_sld hS y1661 (ix_ok 1 hi hin hn (by decide) (by decide)) (y_aloadX y1662 rfl (y_iload y1663 rfl (y_iconst y1664 rfl (y_iadd y1665 (y_sld hS y1666 (ix_ok 2 hi hin hn (by decide) (by decide)) (y_aloadX y1667 rfl (y_iload y1668 rfl (y_iconst y1669 rfl (y_iadd y1670 (y_sld hS y1671 (ix_ok 3 hi hin hn (by decide) (by decide)) (y_aloadX y1672 rfl (y_iload y1673 rfl (y_iconst y1674 rfl (y_iadd y1675 (y_sld hS y1676 (ix_ok 4 hi hin hn (by decide) (by decide)) (y_if 1684 ((S.2 (w32 (i + 4)).toNat) = 0) y1677 (by decide) rfl (fun q1 => y_iconst y1684 rfl (y_call y1685 ym176 yF117 yK117 rfl (Nat.le_of_ble_eq_true rfl) rfl yS117 rfl (X_mono (X_tag (HX (S.2 (w32 (i + 1)).toNat) (S.2 (w32 (i + 2)).toNat) (S.2 (w32 (i + 3)).toNat) 0 (hr _) (hr _) (hr _) (Or.inl rfl))) (fun r h1 p2 => by
    obtain ⟨a, rfl⟩ := (p2.2.1 (Or.inl yR117))
    exact y_aload y1688 rfl (y_aloadX y1689 rfl (y_iload y1690 rfl (y_iconst y1691 rfl (y_iadd y1692 (y_sld hS y1693 (ix_ok 1 hi hin hn (by decide) (by decide)) (y_aloadX y1694 rfl (y_iload y1695 rfl (y_iconst y1696 rfl (y_iadd y1697 (y_sld hS y1698 (ix_ok 2 hi hin hn (by decide) (by decide)) (y_aloadX y1699 rfl (y_iload y1700 rfl (y_iconst y1701 rfl (y_iadd y1702 (y_sld hS y1703 (ix_ok 3 hi hin hn (by decide) (by decide)) (y_aloadX y1704 rfl (y_iload y1705 rfl (y_iconst y1706 rfl (y_iadd y1707 (y_sld hS y1708 (ix_ok 4 hi hin hn (by decide) (by decide)) (y_if 1716 ((S.2 (w32 (i + 4)).toNat) = 0) y1709 (by decide) rfl (fun _ => y_iconst y1716 rfl (y_call y1717 ym179 yF219 yK219 rfl (Nat.le_of_ble_eq_true rfl) rfl yS219 rfl (X_mono (X_tag p2.1) (fun r2 h2 p3 => by
    obtain ⟨e, eR⟩ := id p3.1
    subst e
    exact y_ifc 1774 _ y1720 (by decide) rfl (fun _ => Hk _ p3.1.2) (fun q => absurd rfl q))))) (fun q => absurd q1 q)))))))))))))))))))))))))) (fun q1 => y_iconst y1680 rfl (y_goto 1685 y1681 (by decide) (y_call y1685 ym176 yF117 yK117 rfl (Nat.le_of_ble_eq_true rfl) rfl yS117 rfl (X_mono (X_tag (HX (S.2 (w32 (i + 1)).toNat) (S.2 (w32 (i + 2)).toNat) (S.2 (w32 (i + 3)).toNat) 1 (hr _) (hr _) (hr _) (Or.inr rfl))) (fun r h1 p4 => by
    obtain ⟨a, rfl⟩ := (p4.2.1 (Or.inl yR117))
    exact y_aload y1688 rfl (y_aloadX y1689 rfl (y_iload y1690 rfl (y_iconst y1691 rfl (y_iadd y1692 (y_sld hS y1693 (ix_ok 1 hi hin hn (by decide) (by decide)) (y_aloadX y1694 rfl (y_iload y1695 rfl (y_iconst y1696 rfl (y_iadd y1697 (y_sld hS y1698 (ix_ok 2 hi hin hn (by decide) (by decide)) (y_aloadX y1699 rfl (y_iload y1700 rfl (y_iconst y1701 rfl (y_iadd y1702 (y_sld hS y1703 (ix_ok 3 hi hin hn (by decide) (by decide)) (y_aloadX y1704 rfl (y_iload y1705 rfl (y_iconst y1706 rfl (y_iadd y1707 (y_sld hS y1708 (ix_ok 4 hi hin hn (by decide) (by decide)) (y_if 1716 ((S.2 (w32 (i + 4)).toNat) = 0) y1709 (by decide) rfl (fun q => absurd q q1) (fun _ => y_iconst y1712 rfl (y_goto 1717 y1713 (by decide) (y_call y1717 ym179 yF219 yK219 rfl (Nat.le_of_ble_eq_true rfl) rfl yS219 rfl (X_mono (X_tag p4.1) (fun r2 h2 p5 => by
    obtain ⟨e, eR⟩ := id p5.1
    subst e
    exact y_ifc 1774 _ y1720 (by decide) rfl (fun _ => Hk _ p5.1.2) (fun q => absurd rfl q)))))))))))))))))))))))))))))))))))))))))))))))))))))
theorem lw_c38 {S : SC} {n : Nat} {i : Int} {h : HP} (hS : S.1 = n + 1) (hi : 0 ≤ i) (hin : i + 6 ≤ n) (hn : n ≤ 3072) (hr : ∀ j, i32 (S.2 j)) (HX : X 63 118 0 [some (P 0)] [] h (fun r h1 => X 63 148 0 [some (P 69)] [] h1 (fun r' h2 => EQA r r' h2))) (Hk : ∀ h', R h' → Y S 1774 [some PX, some (P 0), some (P 69), some (I i)] [] h') : Y S 1725 [some PX, some (P 0), some (P 69), some (I i)] [] h :=
  y_aload y1725 rfl (y_call y1726 ym180 yF118 yK118 rfl (Nat.le_of_ble_eq_true rfl) rfl yS118 rfl (X_mono (X_tag (HX  )) (fun r h1 p1 => by
    obtain ⟨a, rfl⟩ := (p1.2.1 (Or.inl yR118))
    exact y_aload y1729 rfl (y_call y1730 ym183 yF148 yK148 rfl (Nat.le_of_ble_eq_true rfl) rfl yS148 rfl (X_mono (X_tag p1.1) (fun r2 h2 p2 => by
    obtain ⟨e, eR⟩ := id p2.1
    subst e
    exact y_ifc 1774 _ y1733 (by decide) rfl (fun _ => Hk _ p2.1.2) (fun q => absurd rfl q)))))))
theorem lw_c39 {S : SC} {n : Nat} {i : Int} {h : HP} (hS : S.1 = n + 1) (hi : 0 ≤ i) (hin : i + 6 ≤ n) (hn : n ≤ 3072) (hr : ∀ j, i32 (S.2 j)) (HX : X 63 119 0 [some (P 0)] [] h (fun r h1 => X 63 149 0 [some (P 69)] [] h1 (fun r' h2 => EQA r r' h2))) (Hk : ∀ h', R h' → Y S 1774 [some PX, some (P 0), some (P 69), some (I i)] [] h') : Y S 1738 [some PX, some (P 0), some (P 69), some (I i)] [] h :=
  y_aload y1738 rfl (y_call y1739 ym184 yF119 yK119 rfl (Nat.le_of_ble_eq_true rfl) rfl yS119 rfl (X_mono (X_tag (HX  )) (fun r h1 p1 => by
    obtain ⟨a, rfl⟩ := (p1.2.1 (Or.inl yR119))
    exact y_aload y1742 rfl (y_call y1743 ym187 yF149 yK149 rfl (Nat.le_of_ble_eq_true rfl) rfl yS149 rfl (X_mono (X_tag p1.1) (fun r2 h2 p2 => by
    obtain ⟨e, eR⟩ := id p2.1
    subst e
    exact y_ifc 1774 _ y1746 (by decide) rfl (fun _ => Hk _ p2.1.2) (fun q => absurd rfl q)))))))
theorem lw_c40 {S : SC} {n : Nat} {i : Int} {h : HP} (hS : S.1 = n + 1) (hi : 0 ≤ i) (hin : i + 6 ≤ n) (hn : n ≤ 3072) (hr : ∀ j, i32 (S.2 j)) (HX : ∀ (v1 : Int), i32 v1 → X 63 120 0 [some (P 0), some (I v1)] [] h (fun r h1 => X 63 220 0 [some (P 69), some (I v1)] [] h1 (fun r' h2 => EQA r r' h2))) (Hk : ∀ h', R h' → Y S 1774 [some PX, some (P 0), some (P 69), some (I i)] [] h') : Y S 1751 [some PX, some (P 0), some (P 69), some (I i)] [] h :=
  y_aload y1751 rfl (y_aloadX y1752 rfl (y_iload y1753 rfl (y_iconst y1754 rfl (y_iadd y1755 (y_sld hS y1756 (ix_ok 1 hi hin hn (by decide) (by decide)) (y_call y1757 ym188 yF120 yK120 rfl (Nat.le_of_ble_eq_true rfl) rfl yS120 rfl (X_mono (X_tag (HX (S.2 (w32 (i + 1)).toNat) (hr _))) (fun r h1 p1 => by
    obtain ⟨a, rfl⟩ := (p1.2.1 (Or.inl yR120))
    exact y_aload y1760 rfl (y_aloadX y1761 rfl (y_iload y1762 rfl (y_iconst y1763 rfl (y_iadd y1764 (y_sld hS y1765 (ix_ok 1 hi hin hn (by decide) (by decide)) (y_call y1766 ym191 yF220 yK220 rfl (Nat.le_of_ble_eq_true rfl) rfl yS220 rfl (X_mono (X_tag p1.1) (fun r2 h2 p2 => by
    obtain ⟨e, eR⟩ := id p2.1
    subst e
    exact y_ifc 1774 _ y1769 (by decide) rfl (fun _ => Hk _ p2.1.2) (fun q => absurd rfl q)))))))))))))))))
/-- what is owed of each call of the law -/
def PAIRS : Prop := (∀ (h : HP), R h → ∀ (v1 v2 v3 : Int), i32 v1 → i32 v2 → i32 v3 → X 63 80 0 [some (P 0), some (I v1), some (I v2), some (I v3)] [] h (fun r h1 => X 63 139 0 [some (P 69), some (I v1), some (I v2), some (I v3)] [] h1 (fun r' h2 => EQA r r' h2))) ∧
  (∀ (h : HP), R h → ∀ (v1 v2 : Int), i32 v1 → i32 v2 → X 63 81 0 [some (P 0), some (I v1), some (I v2)] [] h (fun r h1 => X 63 140 0 [some (P 69), some (I v1), some (I v2), none] [] h1 (fun r' h2 => EQA r r' h2))) ∧
  (∀ (h : HP), R h → ∀ (v1 v2 : Int), i32 v1 → i32 v2 → X 63 82 0 [some (P 0), some (I v1), some (I v2)] [] h (fun r h1 => X 63 141 0 [some (P 69), some (I v1), some (I v2), none] [] h1 (fun r' h2 => EQA r r' h2))) ∧
  (∀ (h : HP), R h → ∀ (v1 v2 v3 v4 : Int), i32 v1 → i32 v2 → b01 v3 → i32 v4 → X 63 83 0 [some (P 0), some (I v1), some (I v2), some (I v3), some (I v4)] [] h (fun r h1 => X 63 142 0 [some (P 69), some (I v1), some (I v2), some (I v3), some (I v4), none, none] [] h1 (fun r' h2 => EQA r r' h2))) ∧
  (∀ (h : HP), R h → ∀ (v1 v2 : Int), i32 v1 → i32 v2 → X 63 84 0 [some (P 0), some (I v1), some (I v2)] [] h (fun r h1 => X 63 143 0 [some (P 69), some (I v1), some (I v2), none] [] h1 (fun r' h2 => EQA r r' h2))) ∧
  (∀ (h : HP), R h → ∀ (v1 v2 : Int), i32 v1 → i32 v2 → X 63 85 0 [some (P 0), some (I v1), some (I v2), none] [] h (fun r h1 => X 63 150 0 [some (P 69), some (I v1), some (I v2), none] [] h1 (fun r' h2 => EQA r r' h2))) ∧
  (∀ (h : HP), R h → ∀ (v1 v2 v3 : Int), i32 v1 → i32 v2 → i32 v3 → X 63 86 0 [some (P 0), some (I v1), some (I v2), some (I v3)] [] h (fun r h1 => X 63 152 0 [some (P 69), some (I v1), some (I v2), some (I v3), none] [] h1 (fun r' h2 => EQA r r' h2))) ∧
  (∀ (h : HP), R h → ∀ (v1 v2 v3 : Int), i32 v1 → i32 v2 → i32 v3 → X 63 87 0 [some (P 0), some (I v1), some (I v2), some (I v3)] [] h (fun r h1 => X 63 153 0 [some (P 69), some (I v1), some (I v2), some (I v3), none] [] h1 (fun r' h2 => EQA r r' h2))) ∧
  (∀ (h : HP), R h → ∀ (v1 v2 : Int), i32 v1 → b01 v2 → X 63 88 0 [some (P 0), some (I v1), some (I v2)] [] h (fun r h1 => X 63 154 0 [some (P 69), some (I v1), some (I v2)] [] h1 (fun r' h2 => EQA r r' h2))) ∧
  (∀ (h : HP), R h → ∀ (v1 v2 : Int), i32 v1 → i32 v2 → X 63 89 0 [some (P 0), some (I v1), some (I v2)] [] h (fun r h1 => X 63 155 0 [some (P 69), some (I v1), some (I v2)] [] h1 (fun r' h2 => EQA r r' h2))) ∧
  (∀ (h : HP), R h → ∀ (v1 v2 : Int), i32 v1 → b01 v2 → X 63 90 0 [some (P 0), some (I v1), some (I v2)] [] h (fun r h1 => X 63 156 0 [some (P 69), some (I v1), some (I v2)] [] h1 (fun r' h2 => EQA r r' h2))) ∧
  (∀ (h : HP), R h → ∀ (v1 v2 : Int), i32 v1 → i32 v2 → X 63 91 0 [some (P 0), some (I v1), some (I v2)] [] h (fun r h1 => X 63 157 0 [some (P 69), some (I v1), some (I v2)] [] h1 (fun r' h2 => EQA r r' h2))) ∧
  (∀ (h : HP), R h → ∀ (v1 : Int), i32 v1 → X 63 92 0 [some (P 0), some (I v1)] [] h (fun r h1 => X 63 159 0 [some (P 69), some (I v1)] [] h1 (fun r' h2 => EQA r r' h2))) ∧
  (∀ (h : HP), R h → ∀ (v1 v2 v3 : Int), i32 v1 → b01 v2 → i32 v3 → X 63 93 0 [some (P 0), some (I v1), some (I v2), some (I v3), none] [] h (fun r h1 => X 63 160 0 [some (P 69), some (I v1), some (I v2), some (I v3), none] [] h1 (fun r' h2 => EQA r r' h2))) ∧
  (∀ (h : HP), R h → ∀ (v1 v2 : Int), i32 v1 → X 63 94 0 [some (P 0), some (I v1), some (J v2), none] [] h (fun r h1 => X 63 161 0 [some (P 69), some (I v1), some (J v2), none, none] [] h1 (fun r' h2 => EQA r r' h2))) ∧
  (∀ (h : HP), R h → X 63 95 0 [some (P 0), none] [] h (fun r h1 => X 63 172 0 [some (P 69), none, none, none, none, none] [] h1 (fun r' h2 => EQA r r' h2))) ∧
  (∀ (h : HP), R h → ∀ (v1 : Int), i32 v1 → X 63 96 0 [some (P 0), some (I v1), none] [] h (fun r h1 => X 63 174 0 [some (P 69), some (I v1), none] [] h1 (fun r' h2 => EQA r r' h2))) ∧
  (∀ (h : HP), R h → ∀ (v1 : Int), i32 v1 → X 63 97 0 [some (P 0), some (I v1), none] [] h (fun r h1 => X 63 183 0 [some (P 69), some (I v1), none] [] h1 (fun r' h2 => EQA r r' h2))) ∧
  (∀ (h : HP), R h → ∀ (v1 v2 : Int), i32 v1 → i32 v2 → X 63 98 0 [some (P 0), some (I v1), some (I v2)] [] h (fun r h1 => X 63 184 0 [some (P 69), some (I v1), some (I v2)] [] h1 (fun r' h2 => EQA r r' h2))) ∧
  (∀ (h : HP), R h → ∀ (v1 : Int), i32 v1 → X 63 99 0 [some (P 0), some (I v1)] [] h (fun r h1 => X 63 185 0 [some (P 69), some (I v1)] [] h1 (fun r' h2 => EQA r r' h2))) ∧
  (∀ (h : HP), R h → ∀ (v1 v2 : Int), i32 v1 → i32 v2 → X 63 100 0 [some (P 0), some (I v1), some (I v2)] [] h (fun r h1 => X 63 188 0 [some (P 69), some (I v1), some (I v2)] [] h1 (fun r' h2 => EQA r r' h2))) ∧
  (∀ (h : HP), R h → ∀ (v1 v2 : Int), i32 v1 → i32 v2 → X 63 101 0 [some (P 0), some (I v1), some (I v2), none, none, none, none] [] h (fun r h1 => X 63 191 0 [some (P 69), some (I v1), some (I v2), none, none] [] h1 (fun r' h2 => EQA r r' h2))) ∧
  (∀ (h : HP), R h → ∀ (v1 v2 : Int), i32 v1 → i32 v2 → X 63 102 0 [some (P 0), some (I v1), some (I v2)] [] h (fun r h1 => X 63 192 0 [some (P 69), some (I v1), some (I v2), none] [] h1 (fun r' h2 => EQA r r' h2))) ∧
  (∀ (h : HP), R h → ∀ (v1 v2 v3 : Int), i32 v1 → i32 v2 → b01 v3 → X 63 103 0 [some (P 0), some (I v1), some (I v2), some (I v3)] [] h (fun r h1 => X 63 194 0 [some (P 69), some (I v1), some (I v2), some (I v3)] [] h1 (fun r' h2 => EQA r r' h2))) ∧
  (∀ (h : HP), R h → ∀ (v1 : Int), i32 v1 → X 63 104 0 [some (P 0), some (I v1)] [] h (fun r h1 => X 63 199 0 [some (P 69), some (I v1), none, none, none] [] h1 (fun r' h2 => EQA r r' h2))) ∧
  (∀ (h : HP), R h → ∀ (v1 v2 v3 v4 : Int), i32 v1 → i32 v2 → i32 v3 → b01 v4 → X 63 105 0 [some (P 0), some (I v1), some (I v2), some (I v3), some (I v4), none] [] h (fun r h1 => X 63 200 0 [some (P 69), some (I v1), some (I v2), some (I v3), some (I v4), none] [] h1 (fun r' h2 => EQA r r' h2))) ∧
  (∀ (h : HP), R h → ∀ (v1 v2 v3 v4 : Int), i32 v1 → i32 v2 → i32 v3 → i32 v4 → X 63 106 0 [some (P 0), some (I v1), some (I v2), some (I v3), some (I v4), none] [] h (fun r h1 => X 63 202 0 [some (P 69), some (I v1), some (I v2), some (I v3), some (I v4), none] [] h1 (fun r' h2 => EQA r r' h2))) ∧
  (∀ (h : HP), R h → ∀ (v1 v2 : Int), i32 v1 → i32 v2 → X 63 107 0 [some (P 0), some (I v1), some (I v2), none, none, none, none, none] [] h (fun r h1 => X 63 203 0 [some (P 69), some (I v1), some (I v2), none, none, none, none] [] h1 (fun r' h2 => EQA r r' h2))) ∧
  (∀ (h : HP), R h → ∀ (v1 v2 v3 v4 v5 : Int), i32 v1 → i32 v2 → i32 v3 → i32 v4 → i32 v5 → X 63 108 0 [some (P 0), some (I v1), some (I v2), some (I v3), some (I v4), some (I v5)] [] h (fun r h1 => X 63 204 0 [some (P 69), some (I v1), some (I v2), some (I v3), some (I v4), some (I v5)] [] h1 (fun r' h2 => EQA r r' h2))) ∧
  (∀ (h : HP), R h → ∀ (v1 v2 : Int), i32 v1 → i32 v2 → X 63 109 0 [some (P 0), some (I v1), some (I v2), none, none, none, none] [] h (fun r h1 => X 63 207 0 [some (P 69), some (I v1), some (I v2), none, none, none, none, none, none, none] [] h1 (fun r' h2 => EQA r r' h2))) ∧
  (∀ (h : HP), R h → ∀ (v1 v2 v3 v4 : Int), i32 v1 → i32 v2 → i32 v3 → i32 v4 → X 63 110 0 [some (P 0), some (I v1), some (I v2), some (I v3), some (I v4), none, none, none, none, none] [] h (fun r h1 => X 63 210 0 [some (P 69), some (I v1), some (I v2), some (I v3), some (I v4), none] [] h1 (fun r' h2 => EQA r r' h2))) ∧
  (∀ (h : HP), R h → ∀ (v1 v2 v3 : Int), i32 v1 → i32 v2 → i32 v3 → X 63 111 0 [some (P 0), some (I v1), some (I v2), some (I v3)] [] h (fun r h1 => X 63 211 0 [some (P 69), some (I v1), some (I v2), some (I v3)] [] h1 (fun r' h2 => EQA r r' h2))) ∧
  (∀ (h : HP), R h → ∀ (v1 v2 v3 : Int), i32 v1 → b01 v2 → i32 v3 → X 63 112 0 [some (P 0), some (I v1), some (I v2), some (I v3), none, none, none] [] h (fun r h1 => X 63 212 0 [some (P 69), some (I v1), some (I v2), some (I v3), none] [] h1 (fun r' h2 => EQA r r' h2))) ∧
  (∀ (h : HP), R h → ∀ (v1 : Int), i32 v1 → X 63 113 0 [some (P 0), some (I v1), none] [] h (fun r h1 => X 63 213 0 [some (P 69), some (I v1), none] [] h1 (fun r' h2 => EQA r r' h2))) ∧
  (∀ (h : HP), R h → ∀ (v1 v2 : Int), i32 v1 → i32 v2 → X 63 114 0 [some (P 0), some (I v1), some (I v2), none, none] [] h (fun r h1 => X 63 215 0 [some (P 69), some (I v1), some (I v2)] [] h1 (fun r' h2 => EQA r r' h2))) ∧
  (∀ (h : HP), R h → ∀ (v1 : Int), i32 v1 → X 63 115 0 [some (P 0), some (I v1), none, none, none] [] h (fun r h1 => X 63 216 0 [some (P 69), some (I v1), none] [] h1 (fun r' h2 => EQA r r' h2))) ∧
  (∀ (h : HP), R h → ∀ (v1 : Int), i32 v1 → X 63 116 0 [some (P 0), some (I v1)] [] h (fun r h1 => X 63 217 0 [some (P 69), some (I v1), none, none, none, none] [] h1 (fun r' h2 => EQA r r' h2))) ∧
  (∀ (h : HP), R h → ∀ (v1 v2 v3 v4 : Int), i32 v1 → i32 v2 → i32 v3 → b01 v4 → X 63 117 0 [some (P 0), some (I v1), some (I v2), some (I v3), some (I v4), none, none, none] [] h (fun r h1 => X 63 219 0 [some (P 69), some (I v1), some (I v2), some (I v3), some (I v4), none, none, none, none] [] h1 (fun r' h2 => EQA r r' h2))) ∧
  (∀ (h : HP), R h → X 63 118 0 [some (P 0)] [] h (fun r h1 => X 63 148 0 [some (P 69)] [] h1 (fun r' h2 => EQA r r' h2))) ∧
  (∀ (h : HP), R h → X 63 119 0 [some (P 0)] [] h (fun r h1 => X 63 149 0 [some (P 69)] [] h1 (fun r' h2 => EQA r r' h2))) ∧
  (∀ (h : HP), R h → ∀ (v1 : Int), i32 v1 → X 63 120 0 [some (P 0), some (I v1)] [] h (fun r h1 => X 63 220 0 [some (P 69), some (I v1)] [] h1 (fun r' h2 => EQA r r' h2)))
