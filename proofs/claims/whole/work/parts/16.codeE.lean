/-! ===== code as blocks ===== -/
theorem eL_law_0 : decode mL_law.2.1 0 = .ok (.new 7, 3) := by decide +kernel
def bL_law_3 : List OP := [oi .dup]
theorem oL_law_3 : okB mL_law 3 bL_law_3 = true := by decide +kernel
theorem eL_law_4 : decode mL_law.2.1 4 = .ok (.invokespecial 9, 3) := by decide +kernel
theorem lL_law_4 : okL 60 (.methodLink mL_law.1.cls 9 mX11_init.1) = true := by decide +kernel
def bL_law_7 : List OP := [oi (.astore_n 1)]
theorem oL_law_7 : okB mL_law 7 bL_law_7 = true := by decide +kernel
theorem eL_law_8 : decode mL_law.2.1 8 = .ok (.new 10, 3) := by decide +kernel
def bL_law_11 : List OP := [oi .dup]
theorem oL_law_11 : okB mL_law 11 bL_law_11 = true := by decide +kernel
theorem eL_law_12 : decode mL_law.2.1 12 = .ok (.invokespecial 12, 3) := by decide +kernel
theorem lL_law_12 : okL 963 (.methodLink mL_law.1.cls 12 mX12_init.1) = true := by decide +kernel
def bL_law_15 : List OP := [oi (.astore_n 2), oi (.iconst 0), oi (.istore_n 3)]
theorem oL_law_15 : okB mL_law 15 bL_law_15 = true := by decide +kernel
def bL_law_18 : List OP := [oi (.iload_n 3), oi (.aload_n 0)]
theorem oL_law_18 : okB mL_law 18 bL_law_18 = true := by decide +kernel
theorem eL_law_20 : decode mL_law.2.1 20 = .ok (.arraylength, 1) := by decide +kernel
def bL_law_21 : List OP := [oi (.bipush 6), oi .isub]
theorem oL_law_21 : okB mL_law 21 bL_law_21 = true := by decide +kernel
theorem eL_law_24 : decode mL_law.2.1 24 = .ok (.if_icmp .gt 1405, 3) := by decide +kernel
def bL_law_27 : List OP := [oi (.aload_n 0), oi (.iload_n 3), oi .iaload, oi (.bipush 63), oi .iand]
theorem oL_law_27 : okB mL_law 27 bL_law_27 = true := by decide +kernel
theorem eL_law_33 : decode mL_law.2.1 33 = .ok (.tableswitch 1390 0 36 #[163, 176, 219, 268, 301, 334, 367, 400, 423, 466, 489, 532, 555, 568, 581, 594, 617, 640, 683, 716, 759, 792, 855, 888, 931, 994, 1037, 1060, 1093, 1136, 1179, 1212, 1255, 1298, 1321, 1344, 1367], 163) := by decide +kernel
def bL_law_196 : List OP := [oi (.aload_n 1)]
theorem oL_law_196 : okB mL_law 196 bL_law_196 = true := by decide +kernel
theorem eL_law_197 : decode mL_law.2.1 197 = .ok (.invokevirtual 13, 3) := by decide +kernel
theorem lL_law_197 : okL 409 (.methodLink mL_law.1.cls 13 mX11_frame.1) = true := by decide +kernel
def bL_law_200 : List OP := [oi (.aload_n 2)]
theorem oL_law_200 : okB mL_law 200 bL_law_200 = true := by decide +kernel
theorem eL_law_201 : decode mL_law.2.1 201 = .ok (.invokevirtual 17, 3) := by decide +kernel
theorem lL_law_201 : okL 1079 (.methodLink mL_law.1.cls 17 mX12_frame.1) = true := by decide +kernel
theorem eL_law_204 : decode mL_law.2.1 204 = .ok (.if_icmp .eq 1219, 3) := by decide +kernel
def bL_law_207 : List OP := [oi (.iconst 0)]
theorem oL_law_207 : okB mL_law 207 bL_law_207 = true := by decide +kernel
theorem eL_law_208 : decode mL_law.2.1 208 = .ok (.ireturn, 1) := by decide +kernel
def bL_law_209 : List OP := [oi (.aload_n 1), oi (.aload_n 0), oi (.iload_n 3), oi (.iconst 1), oi .iadd, oi .iaload, oi (.aload_n 0), oi (.iload_n 3), oi (.iconst 2), oi .iadd, oi .iaload, oi (.aload_n 0), oi (.iload_n 3), oi (.iconst 3), oi .iadd, oi .iaload]
theorem oL_law_209 : okB mL_law 209 bL_law_209 = true := by decide +kernel
theorem eL_law_225 : decode mL_law.2.1 225 = .ok (.invokevirtual 18, 3) := by decide +kernel
theorem lL_law_225 : okL 417 (.methodLink mL_law.1.cls 18 mX11_dot.1) = true := by decide +kernel
def bL_law_228 : List OP := [oi (.aload_n 2), oi (.aload_n 0), oi (.iload_n 3), oi (.iconst 1), oi .iadd, oi .iaload, oi (.aload_n 0), oi (.iload_n 3), oi (.iconst 2), oi .iadd, oi .iaload, oi (.aload_n 0), oi (.iload_n 3), oi (.iconst 3), oi .iadd, oi .iaload]
theorem oL_law_228 : okB mL_law 228 bL_law_228 = true := by decide +kernel
theorem eL_law_244 : decode mL_law.2.1 244 = .ok (.invokevirtual 22, 3) := by decide +kernel
theorem lL_law_244 : okL 1083 (.methodLink mL_law.1.cls 22 mX12_dot.1) = true := by decide +kernel
theorem eL_law_247 : decode mL_law.2.1 247 = .ok (.if_icmp .eq 1176, 3) := by decide +kernel
def bL_law_250 : List OP := [oi (.iconst 0)]
theorem oL_law_250 : okB mL_law 250 bL_law_250 = true := by decide +kernel
theorem eL_law_251 : decode mL_law.2.1 251 = .ok (.ireturn, 1) := by decide +kernel
def bL_law_252 : List OP := [oi (.aload_n 1), oi (.aload_n 0), oi (.iload_n 3), oi (.iconst 1), oi .iadd, oi .iaload, oi (.aload_n 0), oi (.iload_n 3), oi (.iconst 2), oi .iadd, oi .iaload]
theorem oL_law_252 : okB mL_law 252 bL_law_252 = true := by decide +kernel
theorem eL_law_263 : decode mL_law.2.1 263 = .ok (.ifCond .eq 7, 3) := by decide +kernel
def bL_law_266 : List OP := [oi (.iconst 1), (.goto 4, 0, 0, 271, 0, 0)]
theorem oL_law_266 : okB mL_law 266 bL_law_266 = true := by decide +kernel
def bL_law_270 : List OP := [oi (.iconst 0)]
theorem oL_law_270 : okB mL_law 270 bL_law_270 = true := by decide +kernel
theorem eL_law_271 : decode mL_law.2.1 271 = .ok (.invokevirtual 23, 3) := by decide +kernel
theorem lL_law_271 : okL 439 (.methodLink mL_law.1.cls 23 mX11_key.1) = true := by decide +kernel
def bL_law_274 : List OP := [oi (.aload_n 2), oi (.aload_n 0), oi (.iload_n 3), oi (.iconst 1), oi .iadd, oi .iaload, oi (.aload_n 0), oi (.iload_n 3), oi (.iconst 2), oi .iadd, oi .iaload]
theorem oL_law_274 : okB mL_law 274 bL_law_274 = true := by decide +kernel
theorem eL_law_285 : decode mL_law.2.1 285 = .ok (.ifCond .eq 7, 3) := by decide +kernel
def bL_law_288 : List OP := [oi (.iconst 1), (.goto 4, 0, 0, 293, 0, 0)]
theorem oL_law_288 : okB mL_law 288 bL_law_288 = true := by decide +kernel
def bL_law_292 : List OP := [oi (.iconst 0)]
theorem oL_law_292 : okB mL_law 292 bL_law_292 = true := by decide +kernel
theorem eL_law_293 : decode mL_law.2.1 293 = .ok (.invokevirtual 27, 3) := by decide +kernel
theorem lL_law_293 : okL 1094 (.methodLink mL_law.1.cls 27 mX12_key.1) = true := by decide +kernel
theorem eL_law_296 : decode mL_law.2.1 296 = .ok (.if_icmp .eq 1127, 3) := by decide +kernel
def bL_law_299 : List OP := [oi (.iconst 0)]
theorem oL_law_299 : okB mL_law 299 bL_law_299 = true := by decide +kernel
theorem eL_law_300 : decode mL_law.2.1 300 = .ok (.ireturn, 1) := by decide +kernel
def bL_law_301 : List OP := [oi (.aload_n 1), oi (.aload_n 0), oi (.iload_n 3), oi (.iconst 1), oi .iadd, oi .iaload, oi (.aload_n 0), oi (.iload_n 3), oi (.iconst 2), oi .iadd, oi .iaload]
theorem oL_law_301 : okB mL_law 301 bL_law_301 = true := by decide +kernel
theorem eL_law_312 : decode mL_law.2.1 312 = .ok (.invokevirtual 28, 3) := by decide +kernel
theorem lL_law_312 : okL 447 (.methodLink mL_law.1.cls 28 mX11_set.1) = true := by decide +kernel
def bL_law_315 : List OP := [oi (.aload_n 2), oi (.aload_n 0), oi (.iload_n 3), oi (.iconst 1), oi .iadd, oi .iaload, oi (.aload_n 0), oi (.iload_n 3), oi (.iconst 2), oi .iadd, oi .iaload]
theorem oL_law_315 : okB mL_law 315 bL_law_315 = true := by decide +kernel
theorem eL_law_326 : decode mL_law.2.1 326 = .ok (.invokevirtual 32, 3) := by decide +kernel
theorem lL_law_326 : okL 1098 (.methodLink mL_law.1.cls 32 mX12_set.1) = true := by decide +kernel
theorem eL_law_329 : decode mL_law.2.1 329 = .ok (.if_icmp .eq 1094, 3) := by decide +kernel
def bL_law_332 : List OP := [oi (.iconst 0)]
theorem oL_law_332 : okB mL_law 332 bL_law_332 = true := by decide +kernel
theorem eL_law_333 : decode mL_law.2.1 333 = .ok (.ireturn, 1) := by decide +kernel
def bL_law_334 : List OP := [oi (.aload_n 1), oi (.aload_n 0), oi (.iload_n 3), oi (.iconst 1), oi .iadd, oi .iaload, oi (.aload_n 0), oi (.iload_n 3), oi (.iconst 2), oi .iadd, oi .iaload]
theorem oL_law_334 : okB mL_law 334 bL_law_334 = true := by decide +kernel
theorem eL_law_345 : decode mL_law.2.1 345 = .ok (.invokevirtual 33, 3) := by decide +kernel
theorem lL_law_345 : okL 460 (.methodLink mL_law.1.cls 33 mX11_way.1) = true := by decide +kernel
def bL_law_348 : List OP := [oi (.aload_n 2), oi (.aload_n 0), oi (.iload_n 3), oi (.iconst 1), oi .iadd, oi .iaload, oi (.aload_n 0), oi (.iload_n 3), oi (.iconst 2), oi .iadd, oi .iaload]
theorem oL_law_348 : okB mL_law 348 bL_law_348 = true := by decide +kernel
theorem eL_law_359 : decode mL_law.2.1 359 = .ok (.invokevirtual 36, 3) := by decide +kernel
theorem lL_law_359 : okL 1102 (.methodLink mL_law.1.cls 36 mX12_way.1) = true := by decide +kernel
theorem eL_law_362 : decode mL_law.2.1 362 = .ok (.if_icmp .eq 1061, 3) := by decide +kernel
def bL_law_365 : List OP := [oi (.iconst 0)]
theorem oL_law_365 : okB mL_law 365 bL_law_365 = true := by decide +kernel
theorem eL_law_366 : decode mL_law.2.1 366 = .ok (.ireturn, 1) := by decide +kernel
def bL_law_367 : List OP := [oi (.aload_n 1), oi (.aload_n 0), oi (.iload_n 3), oi (.iconst 1), oi .iadd, oi .iaload, oi (.aload_n 0), oi (.iload_n 3), oi (.iconst 2), oi .iadd, oi .iaload]
theorem oL_law_367 : okB mL_law 367 bL_law_367 = true := by decide +kernel
theorem eL_law_378 : decode mL_law.2.1 378 = .ok (.invokevirtual 37, 3) := by decide +kernel
theorem lL_law_378 : okL 523 (.methodLink mL_law.1.cls 37 mX11_opened.1) = true := by decide +kernel
def bL_law_381 : List OP := [oi (.aload_n 2), oi (.aload_n 0), oi (.iload_n 3), oi (.iconst 1), oi .iadd, oi .iaload, oi (.aload_n 0), oi (.iload_n 3), oi (.iconst 2), oi .iadd, oi .iaload]
theorem oL_law_381 : okB mL_law 381 bL_law_381 = true := by decide +kernel
theorem eL_law_392 : decode mL_law.2.1 392 = .ok (.invokevirtual 40, 3) := by decide +kernel
theorem lL_law_392 : okL 1128 (.methodLink mL_law.1.cls 40 mX12_opened.1) = true := by decide +kernel
theorem eL_law_395 : decode mL_law.2.1 395 = .ok (.if_icmp .eq 1028, 3) := by decide +kernel
def bL_law_398 : List OP := [oi (.iconst 0)]
theorem oL_law_398 : okB mL_law 398 bL_law_398 = true := by decide +kernel
theorem eL_law_399 : decode mL_law.2.1 399 = .ok (.ireturn, 1) := by decide +kernel
def bL_law_400 : List OP := [oi (.aload_n 1), oi (.aload_n 0), oi (.iload_n 3), oi (.iconst 1), oi .iadd, oi .iaload, oi (.aload_n 0), oi (.iload_n 3), oi (.iconst 2), oi .iadd, oi .iaload]
theorem oL_law_400 : okB mL_law 400 bL_law_400 = true := by decide +kernel
theorem eL_law_411 : decode mL_law.2.1 411 = .ok (.invokevirtual 41, 3) := by decide +kernel
theorem lL_law_411 : okL 527 (.methodLink mL_law.1.cls 41 mX11_of.1) = true := by decide +kernel
def bL_law_414 : List OP := [oi (.aload_n 2), oi (.aload_n 0), oi (.iload_n 3), oi (.iconst 1), oi .iadd, oi .iaload, oi (.aload_n 0), oi (.iload_n 3), oi (.iconst 2), oi .iadd, oi .iaload]
theorem oL_law_414 : okB mL_law 414 bL_law_414 = true := by decide +kernel
theorem eL_law_425 : decode mL_law.2.1 425 = .ok (.invokevirtual 44, 3) := by decide +kernel
theorem lL_law_425 : okL 1132 (.methodLink mL_law.1.cls 44 mX12_of.1) = true := by decide +kernel
theorem eL_law_428 : decode mL_law.2.1 428 = .ok (.if_icmp .eq 995, 3) := by decide +kernel
def bL_law_431 : List OP := [oi (.iconst 0)]
theorem oL_law_431 : okB mL_law 431 bL_law_431 = true := by decide +kernel
theorem eL_law_432 : decode mL_law.2.1 432 = .ok (.ireturn, 1) := by decide +kernel
def bL_law_433 : List OP := [oi (.aload_n 1), oi (.aload_n 0), oi (.iload_n 3), oi (.iconst 1), oi .iadd, oi .iaload]
theorem oL_law_433 : okB mL_law 433 bL_law_433 = true := by decide +kernel
theorem eL_law_439 : decode mL_law.2.1 439 = .ok (.invokevirtual 45, 3) := by decide +kernel
theorem lL_law_439 : okL 547 (.methodLink mL_law.1.cls 45 mX11_pieces.1) = true := by decide +kernel
def bL_law_442 : List OP := [oi (.aload_n 2), oi (.aload_n 0), oi (.iload_n 3), oi (.iconst 1), oi .iadd, oi .iaload]
theorem oL_law_442 : okB mL_law 442 bL_law_442 = true := by decide +kernel
theorem eL_law_448 : decode mL_law.2.1 448 = .ok (.invokevirtual 49, 3) := by decide +kernel
theorem lL_law_448 : okL 1148 (.methodLink mL_law.1.cls 49 mX12_pieces.1) = true := by decide +kernel
theorem eL_law_451 : decode mL_law.2.1 451 = .ok (.if_icmp .eq 972, 3) := by decide +kernel
def bL_law_454 : List OP := [oi (.iconst 0)]
theorem oL_law_454 : okB mL_law 454 bL_law_454 = true := by decide +kernel
theorem eL_law_455 : decode mL_law.2.1 455 = .ok (.ireturn, 1) := by decide +kernel
def bL_law_456 : List OP := [oi (.aload_n 1), oi (.aload_n 0), oi (.iload_n 3), oi (.iconst 1), oi .iadd, oi .iaload, oi (.aload_n 0), oi (.iload_n 3), oi (.iconst 2), oi .iadd, oi .iaload, oi (.aload_n 0), oi (.iload_n 3), oi (.iconst 3), oi .iadd, oi .iaload]
theorem oL_law_456 : okB mL_law 456 bL_law_456 = true := by decide +kernel
theorem eL_law_472 : decode mL_law.2.1 472 = .ok (.invokevirtual 50, 3) := by decide +kernel
theorem lL_law_472 : okL 551 (.methodLink mL_law.1.cls 50 mX11_bits.1) = true := by decide +kernel
def bL_law_475 : List OP := [oi (.aload_n 2), oi (.aload_n 0), oi (.iload_n 3), oi (.iconst 1), oi .iadd, oi .iaload, oi (.aload_n 0), oi (.iload_n 3), oi (.iconst 2), oi .iadd, oi .iaload, oi (.aload_n 0), oi (.iload_n 3), oi (.iconst 3), oi .iadd, oi .iaload]
theorem oL_law_475 : okB mL_law 475 bL_law_475 = true := by decide +kernel
theorem eL_law_491 : decode mL_law.2.1 491 = .ok (.invokevirtual 53, 3) := by decide +kernel
theorem lL_law_491 : okL 1152 (.methodLink mL_law.1.cls 53 mX12_bits.1) = true := by decide +kernel
theorem eL_law_494 : decode mL_law.2.1 494 = .ok (.if_icmp .eq 929, 3) := by decide +kernel
def bL_law_497 : List OP := [oi (.iconst 0)]
theorem oL_law_497 : okB mL_law 497 bL_law_497 = true := by decide +kernel
theorem eL_law_498 : decode mL_law.2.1 498 = .ok (.ireturn, 1) := by decide +kernel
def bL_law_499 : List OP := [oi (.aload_n 1), oi (.aload_n 0), oi (.iload_n 3), oi (.iconst 1), oi .iadd, oi .iaload]
theorem oL_law_499 : okB mL_law 499 bL_law_499 = true := by decide +kernel
theorem eL_law_505 : decode mL_law.2.1 505 = .ok (.invokevirtual 54, 3) := by decide +kernel
theorem lL_law_505 : okL 559 (.methodLink mL_law.1.cls 54 mX11_doors.1) = true := by decide +kernel
def bL_law_508 : List OP := [oi (.aload_n 2), oi (.aload_n 0), oi (.iload_n 3), oi (.iconst 1), oi .iadd, oi .iaload]
theorem oL_law_508 : okB mL_law 508 bL_law_508 = true := by decide +kernel
theorem eL_law_514 : decode mL_law.2.1 514 = .ok (.invokevirtual 57, 3) := by decide +kernel
theorem lL_law_514 : okL 1156 (.methodLink mL_law.1.cls 57 mX12_doors.1) = true := by decide +kernel
theorem eL_law_517 : decode mL_law.2.1 517 = .ok (.if_icmp .eq 906, 3) := by decide +kernel
def bL_law_520 : List OP := [oi (.iconst 0)]
theorem oL_law_520 : okB mL_law 520 bL_law_520 = true := by decide +kernel
theorem eL_law_521 : decode mL_law.2.1 521 = .ok (.ireturn, 1) := by decide +kernel
def bL_law_522 : List OP := [oi (.aload_n 1), oi (.aload_n 0), oi (.iload_n 3), oi (.iconst 1), oi .iadd, oi .iaload, oi (.aload_n 0), oi (.iload_n 3), oi (.iconst 2), oi .iadd, oi .iaload, oi (.aload_n 0), oi (.iload_n 3), oi (.iconst 3), oi .iadd, oi .iaload]
theorem oL_law_522 : okB mL_law 522 bL_law_522 = true := by decide +kernel
theorem eL_law_538 : decode mL_law.2.1 538 = .ok (.invokevirtual 58, 3) := by decide +kernel
theorem lL_law_538 : okL 563 (.methodLink mL_law.1.cls 58 mX11_line.1) = true := by decide +kernel
def bL_law_541 : List OP := [oi (.aload_n 2), oi (.aload_n 0), oi (.iload_n 3), oi (.iconst 1), oi .iadd, oi .iaload, oi (.aload_n 0), oi (.iload_n 3), oi (.iconst 2), oi .iadd, oi .iaload, oi (.aload_n 0), oi (.iload_n 3), oi (.iconst 3), oi .iadd, oi .iaload]
theorem oL_law_541 : okB mL_law 541 bL_law_541 = true := by decide +kernel
theorem eL_law_557 : decode mL_law.2.1 557 = .ok (.invokevirtual 61, 3) := by decide +kernel
theorem lL_law_557 : okL 1160 (.methodLink mL_law.1.cls 61 mX12_line.1) = true := by decide +kernel
theorem eL_law_560 : decode mL_law.2.1 560 = .ok (.if_icmp .eq 863, 3) := by decide +kernel
def bL_law_563 : List OP := [oi (.iconst 0)]
theorem oL_law_563 : okB mL_law 563 bL_law_563 = true := by decide +kernel
theorem eL_law_564 : decode mL_law.2.1 564 = .ok (.ireturn, 1) := by decide +kernel
def bL_law_565 : List OP := [oi (.aload_n 1), oi (.aload_n 0), oi (.iload_n 3), oi (.iconst 1), oi .iadd, oi .iaload]
theorem oL_law_565 : okB mL_law 565 bL_law_565 = true := by decide +kernel
theorem eL_law_571 : decode mL_law.2.1 571 = .ok (.invokevirtual 62, 3) := by decide +kernel
theorem lL_law_571 : okL 571 (.methodLink mL_law.1.cls 62 mX11_say.1) = true := by decide +kernel
def bL_law_574 : List OP := [oi (.aload_n 2), oi (.aload_n 0), oi (.iload_n 3), oi (.iconst 1), oi .iadd, oi .iaload]
theorem oL_law_574 : okB mL_law 574 bL_law_574 = true := by decide +kernel
theorem eL_law_580 : decode mL_law.2.1 580 = .ok (.invokevirtual 65, 3) := by decide +kernel
theorem lL_law_580 : okL 1164 (.methodLink mL_law.1.cls 65 mX12_say.1) = true := by decide +kernel
theorem eL_law_583 : decode mL_law.2.1 583 = .ok (.if_icmp .eq 840, 3) := by decide +kernel
def bL_law_586 : List OP := [oi (.iconst 0)]
theorem oL_law_586 : okB mL_law 586 bL_law_586 = true := by decide +kernel
theorem eL_law_587 : decode mL_law.2.1 587 = .ok (.ireturn, 1) := by decide +kernel
def bL_law_588 : List OP := [oi (.aload_n 1)]
theorem oL_law_588 : okB mL_law 588 bL_law_588 = true := by decide +kernel
theorem eL_law_589 : decode mL_law.2.1 589 = .ok (.invokevirtual 66, 3) := by decide +kernel
theorem lL_law_589 : okL 579 (.methodLink mL_law.1.cls 66 mX11_wipe.1) = true := by decide +kernel
def bL_law_592 : List OP := [oi (.aload_n 2)]
theorem oL_law_592 : okB mL_law 592 bL_law_592 = true := by decide +kernel
theorem eL_law_593 : decode mL_law.2.1 593 = .ok (.invokevirtual 69, 3) := by decide +kernel
theorem lL_law_593 : okL 1168 (.methodLink mL_law.1.cls 69 mX12_wipe.1) = true := by decide +kernel
theorem eL_law_596 : decode mL_law.2.1 596 = .ok (.if_icmp .eq 827, 3) := by decide +kernel
def bL_law_599 : List OP := [oi (.iconst 0)]
theorem oL_law_599 : okB mL_law 599 bL_law_599 = true := by decide +kernel
theorem eL_law_600 : decode mL_law.2.1 600 = .ok (.ireturn, 1) := by decide +kernel
def bL_law_601 : List OP := [oi (.aload_n 1)]
theorem oL_law_601 : okB mL_law 601 bL_law_601 = true := by decide +kernel
theorem eL_law_602 : decode mL_law.2.1 602 = .ok (.invokevirtual 70, 3) := by decide +kernel
theorem lL_law_602 : okL 587 (.methodLink mL_law.1.cls 70 mX11_fault.1) = true := by decide +kernel
def bL_law_605 : List OP := [oi (.aload_n 2)]
theorem oL_law_605 : okB mL_law 605 bL_law_605 = true := by decide +kernel
theorem eL_law_606 : decode mL_law.2.1 606 = .ok (.invokevirtual 73, 3) := by decide +kernel
theorem lL_law_606 : okL 1172 (.methodLink mL_law.1.cls 73 mX12_fault.1) = true := by decide +kernel
theorem eL_law_609 : decode mL_law.2.1 609 = .ok (.if_icmp .eq 814, 3) := by decide +kernel
def bL_law_612 : List OP := [oi (.iconst 0)]
theorem oL_law_612 : okB mL_law 612 bL_law_612 = true := by decide +kernel
theorem eL_law_613 : decode mL_law.2.1 613 = .ok (.ireturn, 1) := by decide +kernel
def bL_law_614 : List OP := [oi (.aload_n 1)]
theorem oL_law_614 : okB mL_law 614 bL_law_614 = true := by decide +kernel
theorem eL_law_615 : decode mL_law.2.1 615 = .ok (.invokevirtual 74, 3) := by decide +kernel
theorem lL_law_615 : okL 607 (.methodLink mL_law.1.cls 74 mX11_rule.1) = true := by decide +kernel
def bL_law_618 : List OP := [oi (.aload_n 2)]
theorem oL_law_618 : okB mL_law 618 bL_law_618 = true := by decide +kernel
theorem eL_law_619 : decode mL_law.2.1 619 = .ok (.invokevirtual 77, 3) := by decide +kernel
theorem lL_law_619 : okL 1180 (.methodLink mL_law.1.cls 77 mX12_rule.1) = true := by decide +kernel
theorem eL_law_622 : decode mL_law.2.1 622 = .ok (.if_icmp .eq 801, 3) := by decide +kernel
def bL_law_625 : List OP := [oi (.iconst 0)]
theorem oL_law_625 : okB mL_law 625 bL_law_625 = true := by decide +kernel
theorem eL_law_626 : decode mL_law.2.1 626 = .ok (.ireturn, 1) := by decide +kernel
def bL_law_627 : List OP := [oi (.aload_n 1), oi (.aload_n 0), oi (.iload_n 3), oi (.iconst 1), oi .iadd, oi .iaload]
theorem oL_law_627 : okB mL_law 627 bL_law_627 = true := by decide +kernel
theorem eL_law_633 : decode mL_law.2.1 633 = .ok (.invokevirtual 78, 3) := by decide +kernel
theorem lL_law_633 : okL 619 (.methodLink mL_law.1.cls 78 mX11_show.1) = true := by decide +kernel
def bL_law_636 : List OP := [oi (.aload_n 2), oi (.aload_n 0), oi (.iload_n 3), oi (.iconst 1), oi .iadd, oi .iaload]
theorem oL_law_636 : okB mL_law 636 bL_law_636 = true := by decide +kernel
theorem eL_law_642 : decode mL_law.2.1 642 = .ok (.invokevirtual 81, 3) := by decide +kernel
theorem lL_law_642 : okL 1184 (.methodLink mL_law.1.cls 81 mX12_show.1) = true := by decide +kernel
theorem eL_law_645 : decode mL_law.2.1 645 = .ok (.if_icmp .eq 778, 3) := by decide +kernel
def bL_law_648 : List OP := [oi (.iconst 0)]
theorem oL_law_648 : okB mL_law 648 bL_law_648 = true := by decide +kernel
theorem eL_law_649 : decode mL_law.2.1 649 = .ok (.ireturn, 1) := by decide +kernel
def bL_law_650 : List OP := [oi (.aload_n 1), oi (.aload_n 0), oi (.iload_n 3), oi (.iconst 1), oi .iadd, oi .iaload]
theorem oL_law_650 : okB mL_law 650 bL_law_650 = true := by decide +kernel
theorem eL_law_656 : decode mL_law.2.1 656 = .ok (.invokevirtual 82, 3) := by decide +kernel
theorem lL_law_656 : okL 664 (.methodLink mL_law.1.cls 82 mX11_best.1) = true := by decide +kernel
def bL_law_659 : List OP := [oi (.aload_n 2), oi (.aload_n 0), oi (.iload_n 3), oi (.iconst 1), oi .iadd, oi .iaload]
theorem oL_law_659 : okB mL_law 659 bL_law_659 = true := by decide +kernel
theorem eL_law_665 : decode mL_law.2.1 665 = .ok (.invokevirtual 85, 3) := by decide +kernel
theorem lL_law_665 : okL 1203 (.methodLink mL_law.1.cls 85 mX12_best.1) = true := by decide +kernel
theorem eL_law_668 : decode mL_law.2.1 668 = .ok (.if_icmp .eq 755, 3) := by decide +kernel
def bL_law_671 : List OP := [oi (.iconst 0)]
theorem oL_law_671 : okB mL_law 671 bL_law_671 = true := by decide +kernel
theorem eL_law_672 : decode mL_law.2.1 672 = .ok (.ireturn, 1) := by decide +kernel
def bL_law_673 : List OP := [oi (.aload_n 1), oi (.aload_n 0), oi (.iload_n 3), oi (.iconst 1), oi .iadd, oi .iaload, oi (.aload_n 0), oi (.iload_n 3), oi (.iconst 2), oi .iadd, oi .iaload, oi (.aload_n 0), oi (.iload_n 3), oi (.iconst 3), oi .iadd, oi .iaload]
theorem oL_law_673 : okB mL_law 673 bL_law_673 = true := by decide +kernel
theorem eL_law_689 : decode mL_law.2.1 689 = .ok (.invokevirtual 86, 3) := by decide +kernel
theorem lL_law_689 : okL 709 (.methodLink mL_law.1.cls 86 mX11_town.1) = true := by decide +kernel
def bL_law_692 : List OP := [oi (.aload_n 2), oi (.aload_n 0), oi (.iload_n 3), oi (.iconst 1), oi .iadd, oi .iaload, oi (.aload_n 0), oi (.iload_n 3), oi (.iconst 2), oi .iadd, oi .iaload, oi (.aload_n 0), oi (.iload_n 3), oi (.iconst 3), oi .iadd, oi .iaload]
theorem oL_law_692 : okB mL_law 692 bL_law_692 = true := by decide +kernel
theorem eL_law_708 : decode mL_law.2.1 708 = .ok (.invokevirtual 89, 3) := by decide +kernel
theorem lL_law_708 : okL 1211 (.methodLink mL_law.1.cls 89 mX12_town.1) = true := by decide +kernel
theorem eL_law_711 : decode mL_law.2.1 711 = .ok (.if_icmp .eq 712, 3) := by decide +kernel
def bL_law_714 : List OP := [oi (.iconst 0)]
theorem oL_law_714 : okB mL_law 714 bL_law_714 = true := by decide +kernel
theorem eL_law_715 : decode mL_law.2.1 715 = .ok (.ireturn, 1) := by decide +kernel
def bL_law_716 : List OP := [oi (.aload_n 1), oi (.aload_n 0), oi (.iload_n 3), oi (.iconst 1), oi .iadd, oi .iaload, oi (.aload_n 0), oi (.iload_n 3), oi (.iconst 2), oi .iadd, oi .iaload]
theorem oL_law_716 : okB mL_law 716 bL_law_716 = true := by decide +kernel
theorem eL_law_727 : decode mL_law.2.1 727 = .ok (.invokevirtual 90, 3) := by decide +kernel
theorem lL_law_727 : okL 721 (.methodLink mL_law.1.cls 90 mX11_weight.1) = true := by decide +kernel
def bL_law_730 : List OP := [oi (.aload_n 2), oi (.aload_n 0), oi (.iload_n 3), oi (.iconst 1), oi .iadd, oi .iaload, oi (.aload_n 0), oi (.iload_n 3), oi (.iconst 2), oi .iadd, oi .iaload]
theorem oL_law_730 : okB mL_law 730 bL_law_730 = true := by decide +kernel
theorem eL_law_741 : decode mL_law.2.1 741 = .ok (.invokevirtual 93, 3) := by decide +kernel
theorem lL_law_741 : okL 1218 (.methodLink mL_law.1.cls 93 mX12_weight.1) = true := by decide +kernel
theorem eL_law_744 : decode mL_law.2.1 744 = .ok (.if_icmp .eq 679, 3) := by decide +kernel
def bL_law_747 : List OP := [oi (.iconst 0)]
theorem oL_law_747 : okB mL_law 747 bL_law_747 = true := by decide +kernel
theorem eL_law_748 : decode mL_law.2.1 748 = .ok (.ireturn, 1) := by decide +kernel
def bL_law_749 : List OP := [oi (.aload_n 1), oi (.aload_n 0), oi (.iload_n 3), oi (.iconst 1), oi .iadd, oi .iaload, oi (.aload_n 0), oi (.iload_n 3), oi (.iconst 2), oi .iadd, oi .iaload, oi (.aload_n 0), oi (.iload_n 3), oi (.iconst 3), oi .iadd, oi .iaload]
theorem oL_law_749 : okB mL_law 749 bL_law_749 = true := by decide +kernel
theorem eL_law_765 : decode mL_law.2.1 765 = .ok (.invokevirtual 94, 3) := by decide +kernel
theorem lL_law_765 : okL 732 (.methodLink mL_law.1.cls 94 mX11_ask.1) = true := by decide +kernel
def bL_law_768 : List OP := [oi (.aload_n 2), oi (.aload_n 0), oi (.iload_n 3), oi (.iconst 1), oi .iadd, oi .iaload, oi (.aload_n 0), oi (.iload_n 3), oi (.iconst 2), oi .iadd, oi .iaload, oi (.aload_n 0), oi (.iload_n 3), oi (.iconst 3), oi .iadd, oi .iaload]
theorem oL_law_768 : okB mL_law 768 bL_law_768 = true := by decide +kernel
theorem eL_law_784 : decode mL_law.2.1 784 = .ok (.invokevirtual 97, 3) := by decide +kernel
theorem lL_law_784 : okL 1225 (.methodLink mL_law.1.cls 97 mX12_ask.1) = true := by decide +kernel
theorem eL_law_787 : decode mL_law.2.1 787 = .ok (.if_icmp .eq 636, 3) := by decide +kernel
def bL_law_790 : List OP := [oi (.iconst 0)]
theorem oL_law_790 : okB mL_law 790 bL_law_790 = true := by decide +kernel
theorem eL_law_791 : decode mL_law.2.1 791 = .ok (.ireturn, 1) := by decide +kernel
def bL_law_792 : List OP := [oi (.aload_n 1), oi (.aload_n 0), oi (.iload_n 3), oi (.iconst 1), oi .iadd, oi .iaload, oi (.aload_n 0), oi (.iload_n 3), oi (.iconst 2), oi .iadd, oi .iaload]
theorem oL_law_792 : okB mL_law 792 bL_law_792 = true := by decide +kernel
theorem eL_law_803 : decode mL_law.2.1 803 = .ok (.invokevirtual 98, 3) := by decide +kernel
theorem lL_law_803 : okL 740 (.methodLink mL_law.1.cls 98 mX11_kept.1) = true := by decide +kernel
def bL_law_806 : List OP := [oi (.aload_n 2), oi (.aload_n 0), oi (.iload_n 3), oi (.iconst 1), oi .iadd, oi .iaload, oi (.aload_n 0), oi (.iload_n 3), oi (.iconst 2), oi .iadd, oi .iaload]
theorem oL_law_806 : okB mL_law 806 bL_law_806 = true := by decide +kernel
theorem eL_law_817 : decode mL_law.2.1 817 = .ok (.invokevirtual 101, 3) := by decide +kernel
theorem lL_law_817 : okL 1229 (.methodLink mL_law.1.cls 101 mX12_kept.1) = true := by decide +kernel
theorem eL_law_820 : decode mL_law.2.1 820 = .ok (.if_icmp .eq 603, 3) := by decide +kernel
def bL_law_823 : List OP := [oi (.iconst 0)]
theorem oL_law_823 : okB mL_law 823 bL_law_823 = true := by decide +kernel
theorem eL_law_824 : decode mL_law.2.1 824 = .ok (.ireturn, 1) := by decide +kernel
def bL_law_825 : List OP := [oi (.aload_n 1), oi (.aload_n 0), oi (.iload_n 3), oi (.iconst 1), oi .iadd, oi .iaload, oi (.aload_n 0), oi (.iload_n 3), oi (.iconst 2), oi .iadd, oi .iaload, oi (.aload_n 0), oi (.iload_n 3), oi (.iconst 3), oi .iadd, oi .iaload, oi (.aload_n 0), oi (.iload_n 3), oi (.iconst 4), oi .iadd, oi .iaload, oi (.aload_n 0), oi (.iload_n 3), oi (.iconst 5), oi .iadd, oi .iaload]
theorem oL_law_825 : okB mL_law 825 bL_law_825 = true := by decide +kernel
theorem eL_law_851 : decode mL_law.2.1 851 = .ok (.invokevirtual 102, 3) := by decide +kernel
theorem lL_law_851 : okL 757 (.methodLink mL_law.1.cls 102 mX11_right.1) = true := by decide +kernel
def bL_law_854 : List OP := [oi (.aload_n 2), oi (.aload_n 0), oi (.iload_n 3), oi (.iconst 1), oi .iadd, oi .iaload, oi (.aload_n 0), oi (.iload_n 3), oi (.iconst 2), oi .iadd, oi .iaload, oi (.aload_n 0), oi (.iload_n 3), oi (.iconst 3), oi .iadd, oi .iaload, oi (.aload_n 0), oi (.iload_n 3), oi (.iconst 4), oi .iadd, oi .iaload, oi (.aload_n 0), oi (.iload_n 3), oi (.iconst 5), oi .iadd, oi .iaload]
theorem oL_law_854 : okB mL_law 854 bL_law_854 = true := by decide +kernel
theorem eL_law_880 : decode mL_law.2.1 880 = .ok (.invokevirtual 106, 3) := by decide +kernel
theorem lL_law_880 : okL 1233 (.methodLink mL_law.1.cls 106 mX12_right.1) = true := by decide +kernel
theorem eL_law_883 : decode mL_law.2.1 883 = .ok (.if_icmp .eq 540, 3) := by decide +kernel
def bL_law_886 : List OP := [oi (.iconst 0)]
theorem oL_law_886 : okB mL_law 886 bL_law_886 = true := by decide +kernel
theorem eL_law_887 : decode mL_law.2.1 887 = .ok (.ireturn, 1) := by decide +kernel
def bL_law_888 : List OP := [oi (.aload_n 1), oi (.aload_n 0), oi (.iload_n 3), oi (.iconst 1), oi .iadd, oi .iaload, oi (.aload_n 0), oi (.iload_n 3), oi (.iconst 2), oi .iadd, oi .iaload]
theorem oL_law_888 : okB mL_law 888 bL_law_888 = true := by decide +kernel
theorem eL_law_899 : decode mL_law.2.1 899 = .ok (.invokevirtual 107, 3) := by decide +kernel
theorem lL_law_899 : okL 765 (.methodLink mL_law.1.cls 107 mX11_land.1) = true := by decide +kernel
def bL_law_902 : List OP := [oi (.aload_n 2), oi (.aload_n 0), oi (.iload_n 3), oi (.iconst 1), oi .iadd, oi .iaload, oi (.aload_n 0), oi (.iload_n 3), oi (.iconst 2), oi .iadd, oi .iaload]
theorem oL_law_902 : okB mL_law 902 bL_law_902 = true := by decide +kernel
theorem eL_law_913 : decode mL_law.2.1 913 = .ok (.invokevirtual 110, 3) := by decide +kernel
theorem lL_law_913 : okL 1237 (.methodLink mL_law.1.cls 110 mX12_land.1) = true := by decide +kernel
theorem eL_law_916 : decode mL_law.2.1 916 = .ok (.if_icmp .eq 507, 3) := by decide +kernel
def bL_law_919 : List OP := [oi (.iconst 0)]
theorem oL_law_919 : okB mL_law 919 bL_law_919 = true := by decide +kernel
theorem eL_law_920 : decode mL_law.2.1 920 = .ok (.ireturn, 1) := by decide +kernel
def bL_law_921 : List OP := [oi (.aload_n 1), oi (.aload_n 0), oi (.iload_n 3), oi (.iconst 1), oi .iadd, oi .iaload, oi (.aload_n 0), oi (.iload_n 3), oi (.iconst 2), oi .iadd, oi .iaload, oi (.aload_n 0), oi (.iload_n 3), oi (.iconst 3), oi .iadd, oi .iaload]
theorem oL_law_921 : okB mL_law 921 bL_law_921 = true := by decide +kernel
theorem eL_law_937 : decode mL_law.2.1 937 = .ok (.invokevirtual 111, 3) := by decide +kernel
theorem lL_law_937 : okL 776 (.methodLink mL_law.1.cls 111 mX11_may.1) = true := by decide +kernel
def bL_law_940 : List OP := [oi (.aload_n 2), oi (.aload_n 0), oi (.iload_n 3), oi (.iconst 1), oi .iadd, oi .iaload, oi (.aload_n 0), oi (.iload_n 3), oi (.iconst 2), oi .iadd, oi .iaload, oi (.aload_n 0), oi (.iload_n 3), oi (.iconst 3), oi .iadd, oi .iaload]
theorem oL_law_940 : okB mL_law 940 bL_law_940 = true := by decide +kernel
theorem eL_law_956 : decode mL_law.2.1 956 = .ok (.invokevirtual 114, 3) := by decide +kernel
theorem lL_law_956 : okL 1244 (.methodLink mL_law.1.cls 114 mX12_may.1) = true := by decide +kernel
theorem eL_law_959 : decode mL_law.2.1 959 = .ok (.if_icmp .eq 464, 3) := by decide +kernel
def bL_law_962 : List OP := [oi (.iconst 0)]
theorem oL_law_962 : okB mL_law 962 bL_law_962 = true := by decide +kernel
theorem eL_law_963 : decode mL_law.2.1 963 = .ok (.ireturn, 1) := by decide +kernel
def bL_law_964 : List OP := [oi (.aload_n 1), oi (.aload_n 0), oi (.iload_n 3), oi (.iconst 1), oi .iadd, oi .iaload, oi (.aload_n 0), oi (.iload_n 3), oi (.iconst 2), oi .iadd, oi .iaload, oi (.aload_n 0), oi (.iload_n 3), oi (.iconst 3), oi .iadd, oi .iaload, oi (.aload_n 0), oi (.iload_n 3), oi (.iconst 4), oi .iadd, oi .iaload, oi (.aload_n 0), oi (.iload_n 3), oi (.iconst 5), oi .iadd, oi .iaload]
theorem oL_law_964 : okB mL_law 964 bL_law_964 = true := by decide +kernel
theorem eL_law_990 : decode mL_law.2.1 990 = .ok (.invokevirtual 115, 3) := by decide +kernel
theorem lL_law_990 : okL 788 (.methodLink mL_law.1.cls 115 mX11_see.1) = true := by decide +kernel
def bL_law_993 : List OP := [oi (.aload_n 2), oi (.aload_n 0), oi (.iload_n 3), oi (.iconst 1), oi .iadd, oi .iaload, oi (.aload_n 0), oi (.iload_n 3), oi (.iconst 2), oi .iadd, oi .iaload, oi (.aload_n 0), oi (.iload_n 3), oi (.iconst 3), oi .iadd, oi .iaload, oi (.aload_n 0), oi (.iload_n 3), oi (.iconst 4), oi .iadd, oi .iaload, oi (.aload_n 0), oi (.iload_n 3), oi (.iconst 5), oi .iadd, oi .iaload]
theorem oL_law_993 : okB mL_law 993 bL_law_993 = true := by decide +kernel
theorem eL_law_1019 : decode mL_law.2.1 1019 = .ok (.invokevirtual 118, 3) := by decide +kernel
theorem lL_law_1019 : okL 1252 (.methodLink mL_law.1.cls 118 mX12_see.1) = true := by decide +kernel
theorem eL_law_1022 : decode mL_law.2.1 1022 = .ok (.if_icmp .eq 401, 3) := by decide +kernel
def bL_law_1025 : List OP := [oi (.iconst 0)]
theorem oL_law_1025 : okB mL_law 1025 bL_law_1025 = true := by decide +kernel
theorem eL_law_1026 : decode mL_law.2.1 1026 = .ok (.ireturn, 1) := by decide +kernel
def bL_law_1027 : List OP := [oi (.aload_n 1), oi (.aload_n 0), oi (.iload_n 3), oi (.iconst 1), oi .iadd, oi .iaload, oi (.aload_n 0), oi (.iload_n 3), oi (.iconst 2), oi .iadd, oi .iaload, oi (.aload_n 0), oi (.iload_n 3), oi (.iconst 3), oi .iadd, oi .iaload]
theorem oL_law_1027 : okB mL_law 1027 bL_law_1027 = true := by decide +kernel
theorem eL_law_1043 : decode mL_law.2.1 1043 = .ok (.invokevirtual 119, 3) := by decide +kernel
theorem lL_law_1043 : okL 803 (.methodLink mL_law.1.cls 119 mX11_seen.1) = true := by decide +kernel
def bL_law_1046 : List OP := [oi (.aload_n 2), oi (.aload_n 0), oi (.iload_n 3), oi (.iconst 1), oi .iadd, oi .iaload, oi (.aload_n 0), oi (.iload_n 3), oi (.iconst 2), oi .iadd, oi .iaload, oi (.aload_n 0), oi (.iload_n 3), oi (.iconst 3), oi .iadd, oi .iaload]
theorem oL_law_1046 : okB mL_law 1046 bL_law_1046 = true := by decide +kernel
theorem eL_law_1062 : decode mL_law.2.1 1062 = .ok (.invokevirtual 122, 3) := by decide +kernel
theorem lL_law_1062 : okL 1256 (.methodLink mL_law.1.cls 122 mX12_seen.1) = true := by decide +kernel
theorem eL_law_1065 : decode mL_law.2.1 1065 = .ok (.if_icmp .eq 358, 3) := by decide +kernel
def bL_law_1068 : List OP := [oi (.iconst 0)]
theorem oL_law_1068 : okB mL_law 1068 bL_law_1068 = true := by decide +kernel
theorem eL_law_1069 : decode mL_law.2.1 1069 = .ok (.ireturn, 1) := by decide +kernel
def bL_law_1070 : List OP := [oi (.aload_n 1), oi (.aload_n 0), oi (.iload_n 3), oi (.iconst 1), oi .iadd, oi .iaload]
theorem oL_law_1070 : okB mL_law 1070 bL_law_1070 = true := by decide +kernel
theorem eL_law_1076 : decode mL_law.2.1 1076 = .ok (.invokevirtual 123, 3) := by decide +kernel
theorem lL_law_1076 : okL 812 (.methodLink mL_law.1.cls 123 mX11_owed.1) = true := by decide +kernel
def bL_law_1079 : List OP := [oi (.aload_n 2), oi (.aload_n 0), oi (.iload_n 3), oi (.iconst 1), oi .iadd, oi .iaload]
theorem oL_law_1079 : okB mL_law 1079 bL_law_1079 = true := by decide +kernel
theorem eL_law_1085 : decode mL_law.2.1 1085 = .ok (.invokevirtual 126, 3) := by decide +kernel
theorem lL_law_1085 : okL 1264 (.methodLink mL_law.1.cls 126 mX12_owed.1) = true := by decide +kernel
theorem eL_law_1088 : decode mL_law.2.1 1088 = .ok (.if_icmp .eq 335, 3) := by decide +kernel
def bL_law_1091 : List OP := [oi (.iconst 0)]
theorem oL_law_1091 : okB mL_law 1091 bL_law_1091 = true := by decide +kernel
theorem eL_law_1092 : decode mL_law.2.1 1092 = .ok (.ireturn, 1) := by decide +kernel
def bL_law_1093 : List OP := [oi (.aload_n 1), oi (.aload_n 0), oi (.iload_n 3), oi (.iconst 1), oi .iadd, oi .iaload, oi (.aload_n 0), oi (.iload_n 3), oi (.iconst 2), oi .iadd, oi .iaload]
theorem oL_law_1093 : okB mL_law 1093 bL_law_1093 = true := by decide +kernel
theorem eL_law_1104 : decode mL_law.2.1 1104 = .ok (.invokevirtual 127, 3) := by decide +kernel
theorem lL_law_1104 : okL 822 (.methodLink mL_law.1.cls 127 mX11_mark.1) = true := by decide +kernel
def bL_law_1107 : List OP := [oi (.aload_n 2), oi (.aload_n 0), oi (.iload_n 3), oi (.iconst 1), oi .iadd, oi .iaload, oi (.aload_n 0), oi (.iload_n 3), oi (.iconst 2), oi .iadd, oi .iaload]
theorem oL_law_1107 : okB mL_law 1107 bL_law_1107 = true := by decide +kernel
theorem eL_law_1118 : decode mL_law.2.1 1118 = .ok (.invokevirtual 130, 3) := by decide +kernel
theorem lL_law_1118 : okL 1268 (.methodLink mL_law.1.cls 130 mX12_mark.1) = true := by decide +kernel
theorem eL_law_1121 : decode mL_law.2.1 1121 = .ok (.if_icmp .eq 302, 3) := by decide +kernel
def bL_law_1124 : List OP := [oi (.iconst 0)]
theorem oL_law_1124 : okB mL_law 1124 bL_law_1124 = true := by decide +kernel
theorem eL_law_1125 : decode mL_law.2.1 1125 = .ok (.ireturn, 1) := by decide +kernel
def bL_law_1126 : List OP := [oi (.aload_n 1), oi (.aload_n 0), oi (.iload_n 3), oi (.iconst 1), oi .iadd, oi .iaload, oi (.aload_n 0), oi (.iload_n 3), oi (.iconst 2), oi .iadd, oi .iaload, oi (.aload_n 0), oi (.iload_n 3), oi (.iconst 3), oi .iadd, oi .iaload]
theorem oL_law_1126 : okB mL_law 1126 bL_law_1126 = true := by decide +kernel
theorem eL_law_1142 : decode mL_law.2.1 1142 = .ok (.invokevirtual 131, 3) := by decide +kernel
theorem lL_law_1142 : okL 830 (.methodLink mL_law.1.cls 131 mX11_blame.1) = true := by decide +kernel
def bL_law_1145 : List OP := [oi (.aload_n 2), oi (.aload_n 0), oi (.iload_n 3), oi (.iconst 1), oi .iadd, oi .iaload, oi (.aload_n 0), oi (.iload_n 3), oi (.iconst 2), oi .iadd, oi .iaload, oi (.aload_n 0), oi (.iload_n 3), oi (.iconst 3), oi .iadd, oi .iaload]
theorem oL_law_1145 : okB mL_law 1145 bL_law_1145 = true := by decide +kernel
theorem eL_law_1161 : decode mL_law.2.1 1161 = .ok (.invokevirtual 134, 3) := by decide +kernel
theorem lL_law_1161 : okL 1272 (.methodLink mL_law.1.cls 134 mX12_blame.1) = true := by decide +kernel
theorem eL_law_1164 : decode mL_law.2.1 1164 = .ok (.if_icmp .eq 259, 3) := by decide +kernel
def bL_law_1167 : List OP := [oi (.iconst 0)]
theorem oL_law_1167 : okB mL_law 1167 bL_law_1167 = true := by decide +kernel
theorem eL_law_1168 : decode mL_law.2.1 1168 = .ok (.ireturn, 1) := by decide +kernel
def bL_law_1169 : List OP := [oi (.aload_n 1), oi (.aload_n 0), oi (.iload_n 3), oi (.iconst 1), oi .iadd, oi .iaload, oi (.aload_n 0), oi (.iload_n 3), oi (.iconst 2), oi .iadd, oi .iaload, oi (.aload_n 0), oi (.iload_n 3), oi (.iconst 3), oi .iadd, oi .iaload]
theorem oL_law_1169 : okB mL_law 1169 bL_law_1169 = true := by decide +kernel
theorem eL_law_1185 : decode mL_law.2.1 1185 = .ok (.invokevirtual 135, 3) := by decide +kernel
theorem lL_law_1185 : okL 860 (.methodLink mL_law.1.cls 135 mX11_put.1) = true := by decide +kernel
def bL_law_1188 : List OP := [oi (.aload_n 2), oi (.aload_n 0), oi (.iload_n 3), oi (.iconst 1), oi .iadd, oi .iaload, oi (.aload_n 0), oi (.iload_n 3), oi (.iconst 2), oi .iadd, oi .iaload, oi (.aload_n 0), oi (.iload_n 3), oi (.iconst 3), oi .iadd, oi .iaload]
theorem oL_law_1188 : okB mL_law 1188 bL_law_1188 = true := by decide +kernel
theorem eL_law_1204 : decode mL_law.2.1 1204 = .ok (.invokevirtual 138, 3) := by decide +kernel
theorem lL_law_1204 : okL 1276 (.methodLink mL_law.1.cls 138 mX12_put.1) = true := by decide +kernel
theorem eL_law_1207 : decode mL_law.2.1 1207 = .ok (.if_icmp .eq 216, 3) := by decide +kernel
def bL_law_1210 : List OP := [oi (.iconst 0)]
theorem oL_law_1210 : okB mL_law 1210 bL_law_1210 = true := by decide +kernel
theorem eL_law_1211 : decode mL_law.2.1 1211 = .ok (.ireturn, 1) := by decide +kernel
def bL_law_1212 : List OP := [oi (.aload_n 1), oi (.aload_n 0), oi (.iload_n 3), oi (.iconst 1), oi .iadd, oi .iaload, oi (.aload_n 0), oi (.iload_n 3), oi (.iconst 2), oi .iadd, oi .iaload]
theorem oL_law_1212 : okB mL_law 1212 bL_law_1212 = true := by decide +kernel
theorem eL_law_1223 : decode mL_law.2.1 1223 = .ok (.invokevirtual 139, 3) := by decide +kernel
theorem lL_law_1223 : okL 869 (.methodLink mL_law.1.cls 139 mX11_sum.1) = true := by decide +kernel
def bL_law_1226 : List OP := [oi (.aload_n 2), oi (.aload_n 0), oi (.iload_n 3), oi (.iconst 1), oi .iadd, oi .iaload, oi (.aload_n 0), oi (.iload_n 3), oi (.iconst 2), oi .iadd, oi .iaload]
theorem oL_law_1226 : okB mL_law 1226 bL_law_1226 = true := by decide +kernel
theorem eL_law_1237 : decode mL_law.2.1 1237 = .ok (.invokevirtual 142, 3) := by decide +kernel
theorem lL_law_1237 : okL 1284 (.methodLink mL_law.1.cls 142 mX12_sum.1) = true := by decide +kernel
theorem eL_law_1240 : decode mL_law.2.1 1240 = .ok (.if_icmp .eq 183, 3) := by decide +kernel
def bL_law_1243 : List OP := [oi (.iconst 0)]
theorem oL_law_1243 : okB mL_law 1243 bL_law_1243 = true := by decide +kernel
theorem eL_law_1244 : decode mL_law.2.1 1244 = .ok (.ireturn, 1) := by decide +kernel
def bL_law_1245 : List OP := [oi (.aload_n 1), oi (.aload_n 0), oi (.iload_n 3), oi (.iconst 1), oi .iadd, oi .iaload, oi (.aload_n 0), oi (.iload_n 3), oi (.iconst 2), oi .iadd, oi .iaload, oi (.aload_n 0), oi (.iload_n 3), oi (.iconst 3), oi .iadd, oi .iaload]
theorem oL_law_1245 : okB mL_law 1245 bL_law_1245 = true := by decide +kernel
theorem eL_law_1261 : decode mL_law.2.1 1261 = .ok (.invokevirtual 143, 3) := by decide +kernel
theorem lL_law_1261 : okL 885 (.methodLink mL_law.1.cls 143 mX11_restore.1) = true := by decide +kernel
def bL_law_1264 : List OP := [oi (.aload_n 2), oi (.aload_n 0), oi (.iload_n 3), oi (.iconst 1), oi .iadd, oi .iaload, oi (.aload_n 0), oi (.iload_n 3), oi (.iconst 2), oi .iadd, oi .iaload, oi (.aload_n 0), oi (.iload_n 3), oi (.iconst 3), oi .iadd, oi .iaload]
theorem oL_law_1264 : okB mL_law 1264 bL_law_1264 = true := by decide +kernel
theorem eL_law_1280 : decode mL_law.2.1 1280 = .ok (.invokevirtual 146, 3) := by decide +kernel
theorem lL_law_1280 : okL 1288 (.methodLink mL_law.1.cls 146 mX12_restore.1) = true := by decide +kernel
theorem eL_law_1283 : decode mL_law.2.1 1283 = .ok (.if_icmp .eq 140, 3) := by decide +kernel
def bL_law_1286 : List OP := [oi (.iconst 0)]
theorem oL_law_1286 : okB mL_law 1286 bL_law_1286 = true := by decide +kernel
theorem eL_law_1287 : decode mL_law.2.1 1287 = .ok (.ireturn, 1) := by decide +kernel
def bL_law_1288 : List OP := [oi (.aload_n 1), oi (.aload_n 0), oi (.iload_n 3), oi (.iconst 1), oi .iadd, oi .iaload, oi (.aload_n 0), oi (.iload_n 3), oi (.iconst 2), oi .iadd, oi .iaload, oi (.aload_n 0), oi (.iload_n 3), oi (.iconst 3), oi .iadd, oi .iaload]
theorem oL_law_1288 : okB mL_law 1288 bL_law_1288 = true := by decide +kernel
theorem eL_law_1304 : decode mL_law.2.1 1304 = .ok (.invokevirtual 147, 3) := by decide +kernel
theorem lL_law_1304 : okL 894 (.methodLink mL_law.1.cls 147 mX11_hang.1) = true := by decide +kernel
def bL_law_1307 : List OP := [oi (.aload_n 2), oi (.aload_n 0), oi (.iload_n 3), oi (.iconst 1), oi .iadd, oi .iaload, oi (.aload_n 0), oi (.iload_n 3), oi (.iconst 2), oi .iadd, oi .iaload, oi (.aload_n 0), oi (.iload_n 3), oi (.iconst 3), oi .iadd, oi .iaload]
theorem oL_law_1307 : okB mL_law 1307 bL_law_1307 = true := by decide +kernel
theorem eL_law_1323 : decode mL_law.2.1 1323 = .ok (.invokevirtual 150, 3) := by decide +kernel
theorem lL_law_1323 : okL 1292 (.methodLink mL_law.1.cls 150 mX12_hang.1) = true := by decide +kernel
theorem eL_law_1326 : decode mL_law.2.1 1326 = .ok (.if_icmp .eq 97, 3) := by decide +kernel
def bL_law_1329 : List OP := [oi (.iconst 0)]
theorem oL_law_1329 : okB mL_law 1329 bL_law_1329 = true := by decide +kernel
theorem eL_law_1330 : decode mL_law.2.1 1330 = .ok (.ireturn, 1) := by decide +kernel
def bL_law_1331 : List OP := [oi (.aload_n 1), oi (.aload_n 0), oi (.iload_n 3), oi (.iconst 1), oi .iadd, oi .iaload]
theorem oL_law_1331 : okB mL_law 1331 bL_law_1331 = true := by decide +kernel
theorem eL_law_1337 : decode mL_law.2.1 1337 = .ok (.invokevirtual 151, 3) := by decide +kernel
theorem lL_law_1337 : okL 909 (.methodLink mL_law.1.cls 151 mX11_behind.1) = true := by decide +kernel
def bL_law_1340 : List OP := [oi (.aload_n 2), oi (.aload_n 0), oi (.iload_n 3), oi (.iconst 1), oi .iadd, oi .iaload]
theorem oL_law_1340 : okB mL_law 1340 bL_law_1340 = true := by decide +kernel
theorem eL_law_1346 : decode mL_law.2.1 1346 = .ok (.invokevirtual 154, 3) := by decide +kernel
theorem lL_law_1346 : okL 1303 (.methodLink mL_law.1.cls 154 mX12_behind.1) = true := by decide +kernel
theorem eL_law_1349 : decode mL_law.2.1 1349 = .ok (.if_icmp .eq 74, 3) := by decide +kernel
def bL_law_1352 : List OP := [oi (.iconst 0)]
theorem oL_law_1352 : okB mL_law 1352 bL_law_1352 = true := by decide +kernel
theorem eL_law_1353 : decode mL_law.2.1 1353 = .ok (.ireturn, 1) := by decide +kernel
def bL_law_1354 : List OP := [oi (.aload_n 1), oi (.aload_n 0), oi (.iload_n 3), oi (.iconst 1), oi .iadd, oi .iaload]
theorem oL_law_1354 : okB mL_law 1354 bL_law_1354 = true := by decide +kernel
theorem eL_law_1360 : decode mL_law.2.1 1360 = .ok (.invokevirtual 155, 3) := by decide +kernel
theorem lL_law_1360 : okL 917 (.methodLink mL_law.1.cls 155 mX11_fall.1) = true := by decide +kernel
def bL_law_1363 : List OP := [oi (.aload_n 2), oi (.aload_n 0), oi (.iload_n 3), oi (.iconst 1), oi .iadd, oi .iaload]
theorem oL_law_1363 : okB mL_law 1363 bL_law_1363 = true := by decide +kernel
theorem eL_law_1369 : decode mL_law.2.1 1369 = .ok (.invokevirtual 158, 3) := by decide +kernel
theorem lL_law_1369 : okL 1311 (.methodLink mL_law.1.cls 158 mX12_fall.1) = true := by decide +kernel
theorem eL_law_1372 : decode mL_law.2.1 1372 = .ok (.if_icmp .eq 51, 3) := by decide +kernel
def bL_law_1375 : List OP := [oi (.iconst 0)]
theorem oL_law_1375 : okB mL_law 1375 bL_law_1375 = true := by decide +kernel
theorem eL_law_1376 : decode mL_law.2.1 1376 = .ok (.ireturn, 1) := by decide +kernel
def bL_law_1377 : List OP := [oi (.aload_n 1), oi (.aload_n 0), oi (.iload_n 3), oi (.iconst 1), oi .iadd, oi .iaload]
theorem oL_law_1377 : okB mL_law 1377 bL_law_1377 = true := by decide +kernel
theorem eL_law_1383 : decode mL_law.2.1 1383 = .ok (.invokevirtual 159, 3) := by decide +kernel
theorem lL_law_1383 : okL 931 (.methodLink mL_law.1.cls 159 mX11_tree.1) = true := by decide +kernel
def bL_law_1386 : List OP := [oi (.aload_n 2), oi (.aload_n 0), oi (.iload_n 3), oi (.iconst 1), oi .iadd, oi .iaload]
theorem oL_law_1386 : okB mL_law 1386 bL_law_1386 = true := by decide +kernel
theorem eL_law_1392 : decode mL_law.2.1 1392 = .ok (.invokevirtual 162, 3) := by decide +kernel
theorem lL_law_1392 : okL 1319 (.methodLink mL_law.1.cls 162 mX12_tree.1) = true := by decide +kernel
theorem eL_law_1395 : decode mL_law.2.1 1395 = .ok (.if_icmp .eq 28, 3) := by decide +kernel
def bL_law_1398 : List OP := [oi (.iconst 0)]
theorem oL_law_1398 : okB mL_law 1398 bL_law_1398 = true := by decide +kernel
theorem eL_law_1399 : decode mL_law.2.1 1399 = .ok (.ireturn, 1) := by decide +kernel
def bL_law_1400 : List OP := [oi (.aload_n 1), oi (.aload_n 0), oi (.iload_n 3), oi (.iconst 1), oi .iadd, oi .iaload]
theorem oL_law_1400 : okB mL_law 1400 bL_law_1400 = true := by decide +kernel
theorem eL_law_1406 : decode mL_law.2.1 1406 = .ok (.invokevirtual 163, 3) := by decide +kernel
theorem lL_law_1406 : okL 947 (.methodLink mL_law.1.cls 163 mX11_told.1) = true := by decide +kernel
def bL_law_1409 : List OP := [oi (.aload_n 2), oi (.aload_n 0), oi (.iload_n 3), oi (.iconst 1), oi .iadd, oi .iaload]
theorem oL_law_1409 : okB mL_law 1409 bL_law_1409 = true := by decide +kernel
theorem eL_law_1415 : decode mL_law.2.1 1415 = .ok (.invokevirtual 166, 3) := by decide +kernel
theorem lL_law_1415 : okL 1323 (.methodLink mL_law.1.cls 166 mX12_told.1) = true := by decide +kernel
theorem eL_law_1418 : decode mL_law.2.1 1418 = .ok (.if_icmp .eq 5, 3) := by decide +kernel
def bL_law_1421 : List OP := [oi (.iconst 0)]
theorem oL_law_1421 : okB mL_law 1421 bL_law_1421 = true := by decide +kernel
theorem eL_law_1422 : decode mL_law.2.1 1422 = .ok (.ireturn, 1) := by decide +kernel
def bL_law_1423 : List OP := [oi (.iinc 3 6), (.goto (-1408), 0, 0, 18, 0, 0)]
theorem oL_law_1423 : okB mL_law 1423 bL_law_1423 = true := by decide +kernel
def bL_law_1429 : List OP := [oi (.iconst 1)]
theorem oL_law_1429 : okB mL_law 1429 bL_law_1429 = true := by decide +kernel
theorem eL_law_1430 : decode mL_law.2.1 1430 = .ok (.ireturn, 1) := by decide +kernel
