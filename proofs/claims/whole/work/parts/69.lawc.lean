/-! ===== the law: its code, its script ===== -/
def bs_27 : List OP := [oi (.aload_n 0), oi (.iload_n 3)]
theorem os_27 : okB mL_law 27 bs_27 = true := by decide +kernel
theorem es_29 : decode mL_law.2.1 29 = .ok (.iaload, 1) := by decide +kernel
def bs_30 : List OP := [oi (.bipush 63), oi .iand]
theorem os_30 : okB mL_law 30 bs_30 = true := by decide +kernel
def bs_209 : List OP := [oi (.aload_n 1), oi (.aload_n 0), oi (.iload_n 3), oi (.iconst 1), oi .iadd]
theorem os_209 : okB mL_law 209 bs_209 = true := by decide +kernel
theorem es_214 : decode mL_law.2.1 214 = .ok (.iaload, 1) := by decide +kernel
def bs_215 : List OP := [oi (.aload_n 0), oi (.iload_n 3), oi (.iconst 2), oi .iadd]
theorem os_215 : okB mL_law 215 bs_215 = true := by decide +kernel
theorem es_219 : decode mL_law.2.1 219 = .ok (.iaload, 1) := by decide +kernel
def bs_220 : List OP := [oi (.aload_n 0), oi (.iload_n 3), oi (.iconst 3), oi .iadd]
theorem os_220 : okB mL_law 220 bs_220 = true := by decide +kernel
theorem es_224 : decode mL_law.2.1 224 = .ok (.iaload, 1) := by decide +kernel
def bs_228 : List OP := [oi (.aload_n 2), oi (.aload_n 0), oi (.iload_n 3), oi (.iconst 1), oi .iadd]
theorem os_228 : okB mL_law 228 bs_228 = true := by decide +kernel
theorem es_233 : decode mL_law.2.1 233 = .ok (.iaload, 1) := by decide +kernel
def bs_234 : List OP := [oi (.aload_n 0), oi (.iload_n 3), oi (.iconst 2), oi .iadd]
theorem os_234 : okB mL_law 234 bs_234 = true := by decide +kernel
theorem es_238 : decode mL_law.2.1 238 = .ok (.iaload, 1) := by decide +kernel
def bs_239 : List OP := [oi (.aload_n 0), oi (.iload_n 3), oi (.iconst 3), oi .iadd]
theorem os_239 : okB mL_law 239 bs_239 = true := by decide +kernel
theorem es_243 : decode mL_law.2.1 243 = .ok (.iaload, 1) := by decide +kernel
def bs_252 : List OP := [oi (.aload_n 1), oi (.aload_n 0), oi (.iload_n 3), oi (.iconst 1), oi .iadd]
theorem os_252 : okB mL_law 252 bs_252 = true := by decide +kernel
theorem es_257 : decode mL_law.2.1 257 = .ok (.iaload, 1) := by decide +kernel
def bs_258 : List OP := [oi (.aload_n 0), oi (.iload_n 3), oi (.iconst 2), oi .iadd]
theorem os_258 : okB mL_law 258 bs_258 = true := by decide +kernel
theorem es_262 : decode mL_law.2.1 262 = .ok (.iaload, 1) := by decide +kernel
def bs_274 : List OP := [oi (.aload_n 2), oi (.aload_n 0), oi (.iload_n 3), oi (.iconst 1), oi .iadd]
theorem os_274 : okB mL_law 274 bs_274 = true := by decide +kernel
theorem es_279 : decode mL_law.2.1 279 = .ok (.iaload, 1) := by decide +kernel
def bs_280 : List OP := [oi (.aload_n 0), oi (.iload_n 3), oi (.iconst 2), oi .iadd]
theorem os_280 : okB mL_law 280 bs_280 = true := by decide +kernel
theorem es_284 : decode mL_law.2.1 284 = .ok (.iaload, 1) := by decide +kernel
def bs_301 : List OP := [oi (.aload_n 1), oi (.aload_n 0), oi (.iload_n 3), oi (.iconst 1), oi .iadd]
theorem os_301 : okB mL_law 301 bs_301 = true := by decide +kernel
theorem es_306 : decode mL_law.2.1 306 = .ok (.iaload, 1) := by decide +kernel
def bs_307 : List OP := [oi (.aload_n 0), oi (.iload_n 3), oi (.iconst 2), oi .iadd]
theorem os_307 : okB mL_law 307 bs_307 = true := by decide +kernel
theorem es_311 : decode mL_law.2.1 311 = .ok (.iaload, 1) := by decide +kernel
def bs_315 : List OP := [oi (.aload_n 2), oi (.aload_n 0), oi (.iload_n 3), oi (.iconst 1), oi .iadd]
theorem os_315 : okB mL_law 315 bs_315 = true := by decide +kernel
theorem es_320 : decode mL_law.2.1 320 = .ok (.iaload, 1) := by decide +kernel
def bs_321 : List OP := [oi (.aload_n 0), oi (.iload_n 3), oi (.iconst 2), oi .iadd]
theorem os_321 : okB mL_law 321 bs_321 = true := by decide +kernel
theorem es_325 : decode mL_law.2.1 325 = .ok (.iaload, 1) := by decide +kernel
def bs_334 : List OP := [oi (.aload_n 1), oi (.aload_n 0), oi (.iload_n 3), oi (.iconst 1), oi .iadd]
theorem os_334 : okB mL_law 334 bs_334 = true := by decide +kernel
theorem es_339 : decode mL_law.2.1 339 = .ok (.iaload, 1) := by decide +kernel
def bs_340 : List OP := [oi (.aload_n 0), oi (.iload_n 3), oi (.iconst 2), oi .iadd]
theorem os_340 : okB mL_law 340 bs_340 = true := by decide +kernel
theorem es_344 : decode mL_law.2.1 344 = .ok (.iaload, 1) := by decide +kernel
def bs_348 : List OP := [oi (.aload_n 2), oi (.aload_n 0), oi (.iload_n 3), oi (.iconst 1), oi .iadd]
theorem os_348 : okB mL_law 348 bs_348 = true := by decide +kernel
theorem es_353 : decode mL_law.2.1 353 = .ok (.iaload, 1) := by decide +kernel
def bs_354 : List OP := [oi (.aload_n 0), oi (.iload_n 3), oi (.iconst 2), oi .iadd]
theorem os_354 : okB mL_law 354 bs_354 = true := by decide +kernel
theorem es_358 : decode mL_law.2.1 358 = .ok (.iaload, 1) := by decide +kernel
def bs_367 : List OP := [oi (.aload_n 1), oi (.aload_n 0), oi (.iload_n 3), oi (.iconst 1), oi .iadd]
theorem os_367 : okB mL_law 367 bs_367 = true := by decide +kernel
theorem es_372 : decode mL_law.2.1 372 = .ok (.iaload, 1) := by decide +kernel
def bs_373 : List OP := [oi (.aload_n 0), oi (.iload_n 3), oi (.iconst 2), oi .iadd]
theorem os_373 : okB mL_law 373 bs_373 = true := by decide +kernel
theorem es_377 : decode mL_law.2.1 377 = .ok (.iaload, 1) := by decide +kernel
def bs_381 : List OP := [oi (.aload_n 2), oi (.aload_n 0), oi (.iload_n 3), oi (.iconst 1), oi .iadd]
theorem os_381 : okB mL_law 381 bs_381 = true := by decide +kernel
theorem es_386 : decode mL_law.2.1 386 = .ok (.iaload, 1) := by decide +kernel
def bs_387 : List OP := [oi (.aload_n 0), oi (.iload_n 3), oi (.iconst 2), oi .iadd]
theorem os_387 : okB mL_law 387 bs_387 = true := by decide +kernel
theorem es_391 : decode mL_law.2.1 391 = .ok (.iaload, 1) := by decide +kernel
def bs_400 : List OP := [oi (.aload_n 1), oi (.aload_n 0), oi (.iload_n 3), oi (.iconst 1), oi .iadd]
theorem os_400 : okB mL_law 400 bs_400 = true := by decide +kernel
theorem es_405 : decode mL_law.2.1 405 = .ok (.iaload, 1) := by decide +kernel
def bs_406 : List OP := [oi (.aload_n 0), oi (.iload_n 3), oi (.iconst 2), oi .iadd]
theorem os_406 : okB mL_law 406 bs_406 = true := by decide +kernel
theorem es_410 : decode mL_law.2.1 410 = .ok (.iaload, 1) := by decide +kernel
def bs_414 : List OP := [oi (.aload_n 2), oi (.aload_n 0), oi (.iload_n 3), oi (.iconst 1), oi .iadd]
theorem os_414 : okB mL_law 414 bs_414 = true := by decide +kernel
theorem es_419 : decode mL_law.2.1 419 = .ok (.iaload, 1) := by decide +kernel
def bs_420 : List OP := [oi (.aload_n 0), oi (.iload_n 3), oi (.iconst 2), oi .iadd]
theorem os_420 : okB mL_law 420 bs_420 = true := by decide +kernel
theorem es_424 : decode mL_law.2.1 424 = .ok (.iaload, 1) := by decide +kernel
def bs_433 : List OP := [oi (.aload_n 1), oi (.aload_n 0), oi (.iload_n 3), oi (.iconst 1), oi .iadd]
theorem os_433 : okB mL_law 433 bs_433 = true := by decide +kernel
theorem es_438 : decode mL_law.2.1 438 = .ok (.iaload, 1) := by decide +kernel
def bs_442 : List OP := [oi (.aload_n 2), oi (.aload_n 0), oi (.iload_n 3), oi (.iconst 1), oi .iadd]
theorem os_442 : okB mL_law 442 bs_442 = true := by decide +kernel
theorem es_447 : decode mL_law.2.1 447 = .ok (.iaload, 1) := by decide +kernel
def bs_456 : List OP := [oi (.aload_n 1), oi (.aload_n 0), oi (.iload_n 3), oi (.iconst 1), oi .iadd]
theorem os_456 : okB mL_law 456 bs_456 = true := by decide +kernel
theorem es_461 : decode mL_law.2.1 461 = .ok (.iaload, 1) := by decide +kernel
def bs_462 : List OP := [oi (.aload_n 0), oi (.iload_n 3), oi (.iconst 2), oi .iadd]
theorem os_462 : okB mL_law 462 bs_462 = true := by decide +kernel
theorem es_466 : decode mL_law.2.1 466 = .ok (.iaload, 1) := by decide +kernel
def bs_467 : List OP := [oi (.aload_n 0), oi (.iload_n 3), oi (.iconst 3), oi .iadd]
theorem os_467 : okB mL_law 467 bs_467 = true := by decide +kernel
theorem es_471 : decode mL_law.2.1 471 = .ok (.iaload, 1) := by decide +kernel
def bs_475 : List OP := [oi (.aload_n 2), oi (.aload_n 0), oi (.iload_n 3), oi (.iconst 1), oi .iadd]
theorem os_475 : okB mL_law 475 bs_475 = true := by decide +kernel
theorem es_480 : decode mL_law.2.1 480 = .ok (.iaload, 1) := by decide +kernel
def bs_481 : List OP := [oi (.aload_n 0), oi (.iload_n 3), oi (.iconst 2), oi .iadd]
theorem os_481 : okB mL_law 481 bs_481 = true := by decide +kernel
theorem es_485 : decode mL_law.2.1 485 = .ok (.iaload, 1) := by decide +kernel
def bs_486 : List OP := [oi (.aload_n 0), oi (.iload_n 3), oi (.iconst 3), oi .iadd]
theorem os_486 : okB mL_law 486 bs_486 = true := by decide +kernel
theorem es_490 : decode mL_law.2.1 490 = .ok (.iaload, 1) := by decide +kernel
def bs_499 : List OP := [oi (.aload_n 1), oi (.aload_n 0), oi (.iload_n 3), oi (.iconst 1), oi .iadd]
theorem os_499 : okB mL_law 499 bs_499 = true := by decide +kernel
theorem es_504 : decode mL_law.2.1 504 = .ok (.iaload, 1) := by decide +kernel
def bs_508 : List OP := [oi (.aload_n 2), oi (.aload_n 0), oi (.iload_n 3), oi (.iconst 1), oi .iadd]
theorem os_508 : okB mL_law 508 bs_508 = true := by decide +kernel
theorem es_513 : decode mL_law.2.1 513 = .ok (.iaload, 1) := by decide +kernel
def bs_522 : List OP := [oi (.aload_n 1), oi (.aload_n 0), oi (.iload_n 3), oi (.iconst 1), oi .iadd]
theorem os_522 : okB mL_law 522 bs_522 = true := by decide +kernel
theorem es_527 : decode mL_law.2.1 527 = .ok (.iaload, 1) := by decide +kernel
def bs_528 : List OP := [oi (.aload_n 0), oi (.iload_n 3), oi (.iconst 2), oi .iadd]
theorem os_528 : okB mL_law 528 bs_528 = true := by decide +kernel
theorem es_532 : decode mL_law.2.1 532 = .ok (.iaload, 1) := by decide +kernel
def bs_533 : List OP := [oi (.aload_n 0), oi (.iload_n 3), oi (.iconst 3), oi .iadd]
theorem os_533 : okB mL_law 533 bs_533 = true := by decide +kernel
theorem es_537 : decode mL_law.2.1 537 = .ok (.iaload, 1) := by decide +kernel
def bs_541 : List OP := [oi (.aload_n 2), oi (.aload_n 0), oi (.iload_n 3), oi (.iconst 1), oi .iadd]
theorem os_541 : okB mL_law 541 bs_541 = true := by decide +kernel
theorem es_546 : decode mL_law.2.1 546 = .ok (.iaload, 1) := by decide +kernel
def bs_547 : List OP := [oi (.aload_n 0), oi (.iload_n 3), oi (.iconst 2), oi .iadd]
theorem os_547 : okB mL_law 547 bs_547 = true := by decide +kernel
theorem es_551 : decode mL_law.2.1 551 = .ok (.iaload, 1) := by decide +kernel
def bs_552 : List OP := [oi (.aload_n 0), oi (.iload_n 3), oi (.iconst 3), oi .iadd]
theorem os_552 : okB mL_law 552 bs_552 = true := by decide +kernel
theorem es_556 : decode mL_law.2.1 556 = .ok (.iaload, 1) := by decide +kernel
def bs_565 : List OP := [oi (.aload_n 1), oi (.aload_n 0), oi (.iload_n 3), oi (.iconst 1), oi .iadd]
theorem os_565 : okB mL_law 565 bs_565 = true := by decide +kernel
theorem es_570 : decode mL_law.2.1 570 = .ok (.iaload, 1) := by decide +kernel
def bs_574 : List OP := [oi (.aload_n 2), oi (.aload_n 0), oi (.iload_n 3), oi (.iconst 1), oi .iadd]
theorem os_574 : okB mL_law 574 bs_574 = true := by decide +kernel
theorem es_579 : decode mL_law.2.1 579 = .ok (.iaload, 1) := by decide +kernel
def bs_627 : List OP := [oi (.aload_n 1), oi (.aload_n 0), oi (.iload_n 3), oi (.iconst 1), oi .iadd]
theorem os_627 : okB mL_law 627 bs_627 = true := by decide +kernel
theorem es_632 : decode mL_law.2.1 632 = .ok (.iaload, 1) := by decide +kernel
def bs_636 : List OP := [oi (.aload_n 2), oi (.aload_n 0), oi (.iload_n 3), oi (.iconst 1), oi .iadd]
theorem os_636 : okB mL_law 636 bs_636 = true := by decide +kernel
theorem es_641 : decode mL_law.2.1 641 = .ok (.iaload, 1) := by decide +kernel
def bs_650 : List OP := [oi (.aload_n 1), oi (.aload_n 0), oi (.iload_n 3), oi (.iconst 1), oi .iadd]
theorem os_650 : okB mL_law 650 bs_650 = true := by decide +kernel
theorem es_655 : decode mL_law.2.1 655 = .ok (.iaload, 1) := by decide +kernel
def bs_659 : List OP := [oi (.aload_n 2), oi (.aload_n 0), oi (.iload_n 3), oi (.iconst 1), oi .iadd]
theorem os_659 : okB mL_law 659 bs_659 = true := by decide +kernel
theorem es_664 : decode mL_law.2.1 664 = .ok (.iaload, 1) := by decide +kernel
def bs_673 : List OP := [oi (.aload_n 1), oi (.aload_n 0), oi (.iload_n 3), oi (.iconst 1), oi .iadd]
theorem os_673 : okB mL_law 673 bs_673 = true := by decide +kernel
theorem es_678 : decode mL_law.2.1 678 = .ok (.iaload, 1) := by decide +kernel
def bs_679 : List OP := [oi (.aload_n 0), oi (.iload_n 3), oi (.iconst 2), oi .iadd]
theorem os_679 : okB mL_law 679 bs_679 = true := by decide +kernel
theorem es_683 : decode mL_law.2.1 683 = .ok (.iaload, 1) := by decide +kernel
def bs_684 : List OP := [oi (.aload_n 0), oi (.iload_n 3), oi (.iconst 3), oi .iadd]
theorem os_684 : okB mL_law 684 bs_684 = true := by decide +kernel
theorem es_688 : decode mL_law.2.1 688 = .ok (.iaload, 1) := by decide +kernel
def bs_692 : List OP := [oi (.aload_n 2), oi (.aload_n 0), oi (.iload_n 3), oi (.iconst 1), oi .iadd]
theorem os_692 : okB mL_law 692 bs_692 = true := by decide +kernel
theorem es_697 : decode mL_law.2.1 697 = .ok (.iaload, 1) := by decide +kernel
def bs_698 : List OP := [oi (.aload_n 0), oi (.iload_n 3), oi (.iconst 2), oi .iadd]
theorem os_698 : okB mL_law 698 bs_698 = true := by decide +kernel
theorem es_702 : decode mL_law.2.1 702 = .ok (.iaload, 1) := by decide +kernel
def bs_703 : List OP := [oi (.aload_n 0), oi (.iload_n 3), oi (.iconst 3), oi .iadd]
theorem os_703 : okB mL_law 703 bs_703 = true := by decide +kernel
theorem es_707 : decode mL_law.2.1 707 = .ok (.iaload, 1) := by decide +kernel
def bs_716 : List OP := [oi (.aload_n 1), oi (.aload_n 0), oi (.iload_n 3), oi (.iconst 1), oi .iadd]
theorem os_716 : okB mL_law 716 bs_716 = true := by decide +kernel
theorem es_721 : decode mL_law.2.1 721 = .ok (.iaload, 1) := by decide +kernel
def bs_722 : List OP := [oi (.aload_n 0), oi (.iload_n 3), oi (.iconst 2), oi .iadd]
theorem os_722 : okB mL_law 722 bs_722 = true := by decide +kernel
theorem es_726 : decode mL_law.2.1 726 = .ok (.iaload, 1) := by decide +kernel
def bs_730 : List OP := [oi (.aload_n 2), oi (.aload_n 0), oi (.iload_n 3), oi (.iconst 1), oi .iadd]
theorem os_730 : okB mL_law 730 bs_730 = true := by decide +kernel
theorem es_735 : decode mL_law.2.1 735 = .ok (.iaload, 1) := by decide +kernel
def bs_736 : List OP := [oi (.aload_n 0), oi (.iload_n 3), oi (.iconst 2), oi .iadd]
theorem os_736 : okB mL_law 736 bs_736 = true := by decide +kernel
theorem es_740 : decode mL_law.2.1 740 = .ok (.iaload, 1) := by decide +kernel
def bs_749 : List OP := [oi (.aload_n 1), oi (.aload_n 0), oi (.iload_n 3), oi (.iconst 1), oi .iadd]
theorem os_749 : okB mL_law 749 bs_749 = true := by decide +kernel
theorem es_754 : decode mL_law.2.1 754 = .ok (.iaload, 1) := by decide +kernel
def bs_755 : List OP := [oi (.aload_n 0), oi (.iload_n 3), oi (.iconst 2), oi .iadd]
theorem os_755 : okB mL_law 755 bs_755 = true := by decide +kernel
theorem es_759 : decode mL_law.2.1 759 = .ok (.iaload, 1) := by decide +kernel
def bs_760 : List OP := [oi (.aload_n 0), oi (.iload_n 3), oi (.iconst 3), oi .iadd]
theorem os_760 : okB mL_law 760 bs_760 = true := by decide +kernel
theorem es_764 : decode mL_law.2.1 764 = .ok (.iaload, 1) := by decide +kernel
def bs_768 : List OP := [oi (.aload_n 2), oi (.aload_n 0), oi (.iload_n 3), oi (.iconst 1), oi .iadd]
theorem os_768 : okB mL_law 768 bs_768 = true := by decide +kernel
theorem es_773 : decode mL_law.2.1 773 = .ok (.iaload, 1) := by decide +kernel
def bs_774 : List OP := [oi (.aload_n 0), oi (.iload_n 3), oi (.iconst 2), oi .iadd]
theorem os_774 : okB mL_law 774 bs_774 = true := by decide +kernel
theorem es_778 : decode mL_law.2.1 778 = .ok (.iaload, 1) := by decide +kernel
def bs_779 : List OP := [oi (.aload_n 0), oi (.iload_n 3), oi (.iconst 3), oi .iadd]
theorem os_779 : okB mL_law 779 bs_779 = true := by decide +kernel
theorem es_783 : decode mL_law.2.1 783 = .ok (.iaload, 1) := by decide +kernel
def bs_792 : List OP := [oi (.aload_n 1), oi (.aload_n 0), oi (.iload_n 3), oi (.iconst 1), oi .iadd]
theorem os_792 : okB mL_law 792 bs_792 = true := by decide +kernel
theorem es_797 : decode mL_law.2.1 797 = .ok (.iaload, 1) := by decide +kernel
def bs_798 : List OP := [oi (.aload_n 0), oi (.iload_n 3), oi (.iconst 2), oi .iadd]
theorem os_798 : okB mL_law 798 bs_798 = true := by decide +kernel
theorem es_802 : decode mL_law.2.1 802 = .ok (.iaload, 1) := by decide +kernel
def bs_806 : List OP := [oi (.aload_n 2), oi (.aload_n 0), oi (.iload_n 3), oi (.iconst 1), oi .iadd]
theorem os_806 : okB mL_law 806 bs_806 = true := by decide +kernel
theorem es_811 : decode mL_law.2.1 811 = .ok (.iaload, 1) := by decide +kernel
def bs_812 : List OP := [oi (.aload_n 0), oi (.iload_n 3), oi (.iconst 2), oi .iadd]
theorem os_812 : okB mL_law 812 bs_812 = true := by decide +kernel
theorem es_816 : decode mL_law.2.1 816 = .ok (.iaload, 1) := by decide +kernel
def bs_825 : List OP := [oi (.aload_n 1), oi (.aload_n 0), oi (.iload_n 3), oi (.iconst 1), oi .iadd]
theorem os_825 : okB mL_law 825 bs_825 = true := by decide +kernel
theorem es_830 : decode mL_law.2.1 830 = .ok (.iaload, 1) := by decide +kernel
def bs_831 : List OP := [oi (.aload_n 0), oi (.iload_n 3), oi (.iconst 2), oi .iadd]
theorem os_831 : okB mL_law 831 bs_831 = true := by decide +kernel
theorem es_835 : decode mL_law.2.1 835 = .ok (.iaload, 1) := by decide +kernel
def bs_836 : List OP := [oi (.aload_n 0), oi (.iload_n 3), oi (.iconst 3), oi .iadd]
theorem os_836 : okB mL_law 836 bs_836 = true := by decide +kernel
theorem es_840 : decode mL_law.2.1 840 = .ok (.iaload, 1) := by decide +kernel
def bs_841 : List OP := [oi (.aload_n 0), oi (.iload_n 3), oi (.iconst 4), oi .iadd]
theorem os_841 : okB mL_law 841 bs_841 = true := by decide +kernel
theorem es_845 : decode mL_law.2.1 845 = .ok (.iaload, 1) := by decide +kernel
def bs_846 : List OP := [oi (.aload_n 0), oi (.iload_n 3), oi (.iconst 5), oi .iadd]
theorem os_846 : okB mL_law 846 bs_846 = true := by decide +kernel
theorem es_850 : decode mL_law.2.1 850 = .ok (.iaload, 1) := by decide +kernel
def bs_854 : List OP := [oi (.aload_n 2), oi (.aload_n 0), oi (.iload_n 3), oi (.iconst 1), oi .iadd]
theorem os_854 : okB mL_law 854 bs_854 = true := by decide +kernel
theorem es_859 : decode mL_law.2.1 859 = .ok (.iaload, 1) := by decide +kernel
def bs_860 : List OP := [oi (.aload_n 0), oi (.iload_n 3), oi (.iconst 2), oi .iadd]
theorem os_860 : okB mL_law 860 bs_860 = true := by decide +kernel
theorem es_864 : decode mL_law.2.1 864 = .ok (.iaload, 1) := by decide +kernel
def bs_865 : List OP := [oi (.aload_n 0), oi (.iload_n 3), oi (.iconst 3), oi .iadd]
theorem os_865 : okB mL_law 865 bs_865 = true := by decide +kernel
theorem es_869 : decode mL_law.2.1 869 = .ok (.iaload, 1) := by decide +kernel
def bs_870 : List OP := [oi (.aload_n 0), oi (.iload_n 3), oi (.iconst 4), oi .iadd]
theorem os_870 : okB mL_law 870 bs_870 = true := by decide +kernel
theorem es_874 : decode mL_law.2.1 874 = .ok (.iaload, 1) := by decide +kernel
def bs_875 : List OP := [oi (.aload_n 0), oi (.iload_n 3), oi (.iconst 5), oi .iadd]
theorem os_875 : okB mL_law 875 bs_875 = true := by decide +kernel
theorem es_879 : decode mL_law.2.1 879 = .ok (.iaload, 1) := by decide +kernel
def bs_888 : List OP := [oi (.aload_n 1), oi (.aload_n 0), oi (.iload_n 3), oi (.iconst 1), oi .iadd]
theorem os_888 : okB mL_law 888 bs_888 = true := by decide +kernel
theorem es_893 : decode mL_law.2.1 893 = .ok (.iaload, 1) := by decide +kernel
def bs_894 : List OP := [oi (.aload_n 0), oi (.iload_n 3), oi (.iconst 2), oi .iadd]
theorem os_894 : okB mL_law 894 bs_894 = true := by decide +kernel
theorem es_898 : decode mL_law.2.1 898 = .ok (.iaload, 1) := by decide +kernel
def bs_902 : List OP := [oi (.aload_n 2), oi (.aload_n 0), oi (.iload_n 3), oi (.iconst 1), oi .iadd]
theorem os_902 : okB mL_law 902 bs_902 = true := by decide +kernel
theorem es_907 : decode mL_law.2.1 907 = .ok (.iaload, 1) := by decide +kernel
def bs_908 : List OP := [oi (.aload_n 0), oi (.iload_n 3), oi (.iconst 2), oi .iadd]
theorem os_908 : okB mL_law 908 bs_908 = true := by decide +kernel
theorem es_912 : decode mL_law.2.1 912 = .ok (.iaload, 1) := by decide +kernel
def bs_921 : List OP := [oi (.aload_n 1), oi (.aload_n 0), oi (.iload_n 3), oi (.iconst 1), oi .iadd]
theorem os_921 : okB mL_law 921 bs_921 = true := by decide +kernel
theorem es_926 : decode mL_law.2.1 926 = .ok (.iaload, 1) := by decide +kernel
def bs_927 : List OP := [oi (.aload_n 0), oi (.iload_n 3), oi (.iconst 2), oi .iadd]
theorem os_927 : okB mL_law 927 bs_927 = true := by decide +kernel
theorem es_931 : decode mL_law.2.1 931 = .ok (.iaload, 1) := by decide +kernel
def bs_932 : List OP := [oi (.aload_n 0), oi (.iload_n 3), oi (.iconst 3), oi .iadd]
theorem os_932 : okB mL_law 932 bs_932 = true := by decide +kernel
theorem es_936 : decode mL_law.2.1 936 = .ok (.iaload, 1) := by decide +kernel
def bs_940 : List OP := [oi (.aload_n 2), oi (.aload_n 0), oi (.iload_n 3), oi (.iconst 1), oi .iadd]
theorem os_940 : okB mL_law 940 bs_940 = true := by decide +kernel
theorem es_945 : decode mL_law.2.1 945 = .ok (.iaload, 1) := by decide +kernel
def bs_946 : List OP := [oi (.aload_n 0), oi (.iload_n 3), oi (.iconst 2), oi .iadd]
theorem os_946 : okB mL_law 946 bs_946 = true := by decide +kernel
theorem es_950 : decode mL_law.2.1 950 = .ok (.iaload, 1) := by decide +kernel
def bs_951 : List OP := [oi (.aload_n 0), oi (.iload_n 3), oi (.iconst 3), oi .iadd]
theorem os_951 : okB mL_law 951 bs_951 = true := by decide +kernel
theorem es_955 : decode mL_law.2.1 955 = .ok (.iaload, 1) := by decide +kernel
def bs_964 : List OP := [oi (.aload_n 1), oi (.aload_n 0), oi (.iload_n 3), oi (.iconst 1), oi .iadd]
theorem os_964 : okB mL_law 964 bs_964 = true := by decide +kernel
theorem es_969 : decode mL_law.2.1 969 = .ok (.iaload, 1) := by decide +kernel
def bs_970 : List OP := [oi (.aload_n 0), oi (.iload_n 3), oi (.iconst 2), oi .iadd]
theorem os_970 : okB mL_law 970 bs_970 = true := by decide +kernel
theorem es_974 : decode mL_law.2.1 974 = .ok (.iaload, 1) := by decide +kernel
def bs_975 : List OP := [oi (.aload_n 0), oi (.iload_n 3), oi (.iconst 3), oi .iadd]
theorem os_975 : okB mL_law 975 bs_975 = true := by decide +kernel
theorem es_979 : decode mL_law.2.1 979 = .ok (.iaload, 1) := by decide +kernel
def bs_980 : List OP := [oi (.aload_n 0), oi (.iload_n 3), oi (.iconst 4), oi .iadd]
theorem os_980 : okB mL_law 980 bs_980 = true := by decide +kernel
theorem es_984 : decode mL_law.2.1 984 = .ok (.iaload, 1) := by decide +kernel
def bs_985 : List OP := [oi (.aload_n 0), oi (.iload_n 3), oi (.iconst 5), oi .iadd]
theorem os_985 : okB mL_law 985 bs_985 = true := by decide +kernel
theorem es_989 : decode mL_law.2.1 989 = .ok (.iaload, 1) := by decide +kernel
def bs_993 : List OP := [oi (.aload_n 2), oi (.aload_n 0), oi (.iload_n 3), oi (.iconst 1), oi .iadd]
theorem os_993 : okB mL_law 993 bs_993 = true := by decide +kernel
theorem es_998 : decode mL_law.2.1 998 = .ok (.iaload, 1) := by decide +kernel
def bs_999 : List OP := [oi (.aload_n 0), oi (.iload_n 3), oi (.iconst 2), oi .iadd]
theorem os_999 : okB mL_law 999 bs_999 = true := by decide +kernel
theorem es_1003 : decode mL_law.2.1 1003 = .ok (.iaload, 1) := by decide +kernel
def bs_1004 : List OP := [oi (.aload_n 0), oi (.iload_n 3), oi (.iconst 3), oi .iadd]
theorem os_1004 : okB mL_law 1004 bs_1004 = true := by decide +kernel
theorem es_1008 : decode mL_law.2.1 1008 = .ok (.iaload, 1) := by decide +kernel
def bs_1009 : List OP := [oi (.aload_n 0), oi (.iload_n 3), oi (.iconst 4), oi .iadd]
theorem os_1009 : okB mL_law 1009 bs_1009 = true := by decide +kernel
theorem es_1013 : decode mL_law.2.1 1013 = .ok (.iaload, 1) := by decide +kernel
def bs_1014 : List OP := [oi (.aload_n 0), oi (.iload_n 3), oi (.iconst 5), oi .iadd]
theorem os_1014 : okB mL_law 1014 bs_1014 = true := by decide +kernel
theorem es_1018 : decode mL_law.2.1 1018 = .ok (.iaload, 1) := by decide +kernel
def bs_1027 : List OP := [oi (.aload_n 1), oi (.aload_n 0), oi (.iload_n 3), oi (.iconst 1), oi .iadd]
theorem os_1027 : okB mL_law 1027 bs_1027 = true := by decide +kernel
theorem es_1032 : decode mL_law.2.1 1032 = .ok (.iaload, 1) := by decide +kernel
def bs_1033 : List OP := [oi (.aload_n 0), oi (.iload_n 3), oi (.iconst 2), oi .iadd]
theorem os_1033 : okB mL_law 1033 bs_1033 = true := by decide +kernel
theorem es_1037 : decode mL_law.2.1 1037 = .ok (.iaload, 1) := by decide +kernel
def bs_1038 : List OP := [oi (.aload_n 0), oi (.iload_n 3), oi (.iconst 3), oi .iadd]
theorem os_1038 : okB mL_law 1038 bs_1038 = true := by decide +kernel
theorem es_1042 : decode mL_law.2.1 1042 = .ok (.iaload, 1) := by decide +kernel
def bs_1046 : List OP := [oi (.aload_n 2), oi (.aload_n 0), oi (.iload_n 3), oi (.iconst 1), oi .iadd]
theorem os_1046 : okB mL_law 1046 bs_1046 = true := by decide +kernel
theorem es_1051 : decode mL_law.2.1 1051 = .ok (.iaload, 1) := by decide +kernel
def bs_1052 : List OP := [oi (.aload_n 0), oi (.iload_n 3), oi (.iconst 2), oi .iadd]
theorem os_1052 : okB mL_law 1052 bs_1052 = true := by decide +kernel
theorem es_1056 : decode mL_law.2.1 1056 = .ok (.iaload, 1) := by decide +kernel
def bs_1057 : List OP := [oi (.aload_n 0), oi (.iload_n 3), oi (.iconst 3), oi .iadd]
theorem os_1057 : okB mL_law 1057 bs_1057 = true := by decide +kernel
theorem es_1061 : decode mL_law.2.1 1061 = .ok (.iaload, 1) := by decide +kernel
def bs_1070 : List OP := [oi (.aload_n 1), oi (.aload_n 0), oi (.iload_n 3), oi (.iconst 1), oi .iadd]
theorem os_1070 : okB mL_law 1070 bs_1070 = true := by decide +kernel
theorem es_1075 : decode mL_law.2.1 1075 = .ok (.iaload, 1) := by decide +kernel
def bs_1079 : List OP := [oi (.aload_n 2), oi (.aload_n 0), oi (.iload_n 3), oi (.iconst 1), oi .iadd]
theorem os_1079 : okB mL_law 1079 bs_1079 = true := by decide +kernel
theorem es_1084 : decode mL_law.2.1 1084 = .ok (.iaload, 1) := by decide +kernel
def bs_1093 : List OP := [oi (.aload_n 1), oi (.aload_n 0), oi (.iload_n 3), oi (.iconst 1), oi .iadd]
theorem os_1093 : okB mL_law 1093 bs_1093 = true := by decide +kernel
theorem es_1098 : decode mL_law.2.1 1098 = .ok (.iaload, 1) := by decide +kernel
def bs_1099 : List OP := [oi (.aload_n 0), oi (.iload_n 3), oi (.iconst 2), oi .iadd]
theorem os_1099 : okB mL_law 1099 bs_1099 = true := by decide +kernel
theorem es_1103 : decode mL_law.2.1 1103 = .ok (.iaload, 1) := by decide +kernel
def bs_1107 : List OP := [oi (.aload_n 2), oi (.aload_n 0), oi (.iload_n 3), oi (.iconst 1), oi .iadd]
theorem os_1107 : okB mL_law 1107 bs_1107 = true := by decide +kernel
theorem es_1112 : decode mL_law.2.1 1112 = .ok (.iaload, 1) := by decide +kernel
def bs_1113 : List OP := [oi (.aload_n 0), oi (.iload_n 3), oi (.iconst 2), oi .iadd]
theorem os_1113 : okB mL_law 1113 bs_1113 = true := by decide +kernel
theorem es_1117 : decode mL_law.2.1 1117 = .ok (.iaload, 1) := by decide +kernel
def bs_1126 : List OP := [oi (.aload_n 1), oi (.aload_n 0), oi (.iload_n 3), oi (.iconst 1), oi .iadd]
theorem os_1126 : okB mL_law 1126 bs_1126 = true := by decide +kernel
theorem es_1131 : decode mL_law.2.1 1131 = .ok (.iaload, 1) := by decide +kernel
def bs_1132 : List OP := [oi (.aload_n 0), oi (.iload_n 3), oi (.iconst 2), oi .iadd]
theorem os_1132 : okB mL_law 1132 bs_1132 = true := by decide +kernel
theorem es_1136 : decode mL_law.2.1 1136 = .ok (.iaload, 1) := by decide +kernel
def bs_1137 : List OP := [oi (.aload_n 0), oi (.iload_n 3), oi (.iconst 3), oi .iadd]
theorem os_1137 : okB mL_law 1137 bs_1137 = true := by decide +kernel
theorem es_1141 : decode mL_law.2.1 1141 = .ok (.iaload, 1) := by decide +kernel
def bs_1145 : List OP := [oi (.aload_n 2), oi (.aload_n 0), oi (.iload_n 3), oi (.iconst 1), oi .iadd]
theorem os_1145 : okB mL_law 1145 bs_1145 = true := by decide +kernel
theorem es_1150 : decode mL_law.2.1 1150 = .ok (.iaload, 1) := by decide +kernel
def bs_1151 : List OP := [oi (.aload_n 0), oi (.iload_n 3), oi (.iconst 2), oi .iadd]
theorem os_1151 : okB mL_law 1151 bs_1151 = true := by decide +kernel
theorem es_1155 : decode mL_law.2.1 1155 = .ok (.iaload, 1) := by decide +kernel
def bs_1156 : List OP := [oi (.aload_n 0), oi (.iload_n 3), oi (.iconst 3), oi .iadd]
theorem os_1156 : okB mL_law 1156 bs_1156 = true := by decide +kernel
theorem es_1160 : decode mL_law.2.1 1160 = .ok (.iaload, 1) := by decide +kernel
def bs_1169 : List OP := [oi (.aload_n 1), oi (.aload_n 0), oi (.iload_n 3), oi (.iconst 1), oi .iadd]
theorem os_1169 : okB mL_law 1169 bs_1169 = true := by decide +kernel
theorem es_1174 : decode mL_law.2.1 1174 = .ok (.iaload, 1) := by decide +kernel
def bs_1175 : List OP := [oi (.aload_n 0), oi (.iload_n 3), oi (.iconst 2), oi .iadd]
theorem os_1175 : okB mL_law 1175 bs_1175 = true := by decide +kernel
theorem es_1179 : decode mL_law.2.1 1179 = .ok (.iaload, 1) := by decide +kernel
def bs_1180 : List OP := [oi (.aload_n 0), oi (.iload_n 3), oi (.iconst 3), oi .iadd]
theorem os_1180 : okB mL_law 1180 bs_1180 = true := by decide +kernel
theorem es_1184 : decode mL_law.2.1 1184 = .ok (.iaload, 1) := by decide +kernel
def bs_1188 : List OP := [oi (.aload_n 2), oi (.aload_n 0), oi (.iload_n 3), oi (.iconst 1), oi .iadd]
theorem os_1188 : okB mL_law 1188 bs_1188 = true := by decide +kernel
theorem es_1193 : decode mL_law.2.1 1193 = .ok (.iaload, 1) := by decide +kernel
def bs_1194 : List OP := [oi (.aload_n 0), oi (.iload_n 3), oi (.iconst 2), oi .iadd]
theorem os_1194 : okB mL_law 1194 bs_1194 = true := by decide +kernel
theorem es_1198 : decode mL_law.2.1 1198 = .ok (.iaload, 1) := by decide +kernel
def bs_1199 : List OP := [oi (.aload_n 0), oi (.iload_n 3), oi (.iconst 3), oi .iadd]
theorem os_1199 : okB mL_law 1199 bs_1199 = true := by decide +kernel
theorem es_1203 : decode mL_law.2.1 1203 = .ok (.iaload, 1) := by decide +kernel
def bs_1212 : List OP := [oi (.aload_n 1), oi (.aload_n 0), oi (.iload_n 3), oi (.iconst 1), oi .iadd]
theorem os_1212 : okB mL_law 1212 bs_1212 = true := by decide +kernel
theorem es_1217 : decode mL_law.2.1 1217 = .ok (.iaload, 1) := by decide +kernel
def bs_1218 : List OP := [oi (.aload_n 0), oi (.iload_n 3), oi (.iconst 2), oi .iadd]
theorem os_1218 : okB mL_law 1218 bs_1218 = true := by decide +kernel
theorem es_1222 : decode mL_law.2.1 1222 = .ok (.iaload, 1) := by decide +kernel
def bs_1226 : List OP := [oi (.aload_n 2), oi (.aload_n 0), oi (.iload_n 3), oi (.iconst 1), oi .iadd]
theorem os_1226 : okB mL_law 1226 bs_1226 = true := by decide +kernel
theorem es_1231 : decode mL_law.2.1 1231 = .ok (.iaload, 1) := by decide +kernel
def bs_1232 : List OP := [oi (.aload_n 0), oi (.iload_n 3), oi (.iconst 2), oi .iadd]
theorem os_1232 : okB mL_law 1232 bs_1232 = true := by decide +kernel
theorem es_1236 : decode mL_law.2.1 1236 = .ok (.iaload, 1) := by decide +kernel
def bs_1245 : List OP := [oi (.aload_n 1), oi (.aload_n 0), oi (.iload_n 3), oi (.iconst 1), oi .iadd]
theorem os_1245 : okB mL_law 1245 bs_1245 = true := by decide +kernel
theorem es_1250 : decode mL_law.2.1 1250 = .ok (.iaload, 1) := by decide +kernel
def bs_1251 : List OP := [oi (.aload_n 0), oi (.iload_n 3), oi (.iconst 2), oi .iadd]
theorem os_1251 : okB mL_law 1251 bs_1251 = true := by decide +kernel
theorem es_1255 : decode mL_law.2.1 1255 = .ok (.iaload, 1) := by decide +kernel
def bs_1256 : List OP := [oi (.aload_n 0), oi (.iload_n 3), oi (.iconst 3), oi .iadd]
theorem os_1256 : okB mL_law 1256 bs_1256 = true := by decide +kernel
theorem es_1260 : decode mL_law.2.1 1260 = .ok (.iaload, 1) := by decide +kernel
def bs_1264 : List OP := [oi (.aload_n 2), oi (.aload_n 0), oi (.iload_n 3), oi (.iconst 1), oi .iadd]
theorem os_1264 : okB mL_law 1264 bs_1264 = true := by decide +kernel
theorem es_1269 : decode mL_law.2.1 1269 = .ok (.iaload, 1) := by decide +kernel
def bs_1270 : List OP := [oi (.aload_n 0), oi (.iload_n 3), oi (.iconst 2), oi .iadd]
theorem os_1270 : okB mL_law 1270 bs_1270 = true := by decide +kernel
theorem es_1274 : decode mL_law.2.1 1274 = .ok (.iaload, 1) := by decide +kernel
def bs_1275 : List OP := [oi (.aload_n 0), oi (.iload_n 3), oi (.iconst 3), oi .iadd]
theorem os_1275 : okB mL_law 1275 bs_1275 = true := by decide +kernel
theorem es_1279 : decode mL_law.2.1 1279 = .ok (.iaload, 1) := by decide +kernel
def bs_1288 : List OP := [oi (.aload_n 1), oi (.aload_n 0), oi (.iload_n 3), oi (.iconst 1), oi .iadd]
theorem os_1288 : okB mL_law 1288 bs_1288 = true := by decide +kernel
theorem es_1293 : decode mL_law.2.1 1293 = .ok (.iaload, 1) := by decide +kernel
def bs_1294 : List OP := [oi (.aload_n 0), oi (.iload_n 3), oi (.iconst 2), oi .iadd]
theorem os_1294 : okB mL_law 1294 bs_1294 = true := by decide +kernel
theorem es_1298 : decode mL_law.2.1 1298 = .ok (.iaload, 1) := by decide +kernel
def bs_1299 : List OP := [oi (.aload_n 0), oi (.iload_n 3), oi (.iconst 3), oi .iadd]
theorem os_1299 : okB mL_law 1299 bs_1299 = true := by decide +kernel
theorem es_1303 : decode mL_law.2.1 1303 = .ok (.iaload, 1) := by decide +kernel
def bs_1307 : List OP := [oi (.aload_n 2), oi (.aload_n 0), oi (.iload_n 3), oi (.iconst 1), oi .iadd]
theorem os_1307 : okB mL_law 1307 bs_1307 = true := by decide +kernel
theorem es_1312 : decode mL_law.2.1 1312 = .ok (.iaload, 1) := by decide +kernel
def bs_1313 : List OP := [oi (.aload_n 0), oi (.iload_n 3), oi (.iconst 2), oi .iadd]
theorem os_1313 : okB mL_law 1313 bs_1313 = true := by decide +kernel
theorem es_1317 : decode mL_law.2.1 1317 = .ok (.iaload, 1) := by decide +kernel
def bs_1318 : List OP := [oi (.aload_n 0), oi (.iload_n 3), oi (.iconst 3), oi .iadd]
theorem os_1318 : okB mL_law 1318 bs_1318 = true := by decide +kernel
theorem es_1322 : decode mL_law.2.1 1322 = .ok (.iaload, 1) := by decide +kernel
def bs_1331 : List OP := [oi (.aload_n 1), oi (.aload_n 0), oi (.iload_n 3), oi (.iconst 1), oi .iadd]
theorem os_1331 : okB mL_law 1331 bs_1331 = true := by decide +kernel
theorem es_1336 : decode mL_law.2.1 1336 = .ok (.iaload, 1) := by decide +kernel
def bs_1340 : List OP := [oi (.aload_n 2), oi (.aload_n 0), oi (.iload_n 3), oi (.iconst 1), oi .iadd]
theorem os_1340 : okB mL_law 1340 bs_1340 = true := by decide +kernel
theorem es_1345 : decode mL_law.2.1 1345 = .ok (.iaload, 1) := by decide +kernel
def bs_1354 : List OP := [oi (.aload_n 1), oi (.aload_n 0), oi (.iload_n 3), oi (.iconst 1), oi .iadd]
theorem os_1354 : okB mL_law 1354 bs_1354 = true := by decide +kernel
theorem es_1359 : decode mL_law.2.1 1359 = .ok (.iaload, 1) := by decide +kernel
def bs_1363 : List OP := [oi (.aload_n 2), oi (.aload_n 0), oi (.iload_n 3), oi (.iconst 1), oi .iadd]
theorem os_1363 : okB mL_law 1363 bs_1363 = true := by decide +kernel
theorem es_1368 : decode mL_law.2.1 1368 = .ok (.iaload, 1) := by decide +kernel
def bs_1377 : List OP := [oi (.aload_n 1), oi (.aload_n 0), oi (.iload_n 3), oi (.iconst 1), oi .iadd]
theorem os_1377 : okB mL_law 1377 bs_1377 = true := by decide +kernel
theorem es_1382 : decode mL_law.2.1 1382 = .ok (.iaload, 1) := by decide +kernel
def bs_1386 : List OP := [oi (.aload_n 2), oi (.aload_n 0), oi (.iload_n 3), oi (.iconst 1), oi .iadd]
theorem os_1386 : okB mL_law 1386 bs_1386 = true := by decide +kernel
theorem es_1391 : decode mL_law.2.1 1391 = .ok (.iaload, 1) := by decide +kernel
def bs_1400 : List OP := [oi (.aload_n 1), oi (.aload_n 0), oi (.iload_n 3), oi (.iconst 1), oi .iadd]
theorem os_1400 : okB mL_law 1400 bs_1400 = true := by decide +kernel
theorem es_1405 : decode mL_law.2.1 1405 = .ok (.iaload, 1) := by decide +kernel
def bs_1409 : List OP := [oi (.aload_n 2), oi (.aload_n 0), oi (.iload_n 3), oi (.iconst 1), oi .iadd]
theorem os_1409 : okB mL_law 1409 bs_1409 = true := by decide +kernel
theorem es_1414 : decode mL_law.2.1 1414 = .ok (.iaload, 1) := by decide +kernel
/-- a sign of the script -/
def sc (κ : KX) (i : Int) : Int := (κ.2.2.2.2.2 i.toNat).toInt
theorem sc_R {κ : KX} (i : Int) : R32 (sc κ i) := by
  have h1 := Int32.le_toInt (κ.2.2.2.2.2 i.toNat)
  have h2 := Int32.toInt_lt (κ.2.2.2.2.2 i.toNat)
  unfold sc
  omega
section LawW
variable {κ : KX} {cx : MX} {R : Room} {Qf : List Frame → Array Value → State → State → Prop} {cells slots : Nat} {S : List SH} {pc : Nat} {ls r : List AV} {μ : MM} {ν : ML}
theorem aw_sld {i : Int} (hd : decode cx.2.1 pc = .ok (.iaload, 1)) (h0 : 0 ≤ i) (h1 : i < (κ.2.2.2.2.1 : Int)) (hL : κ.2.2.2.2.1 < 2147483648) (k : AW κ cx R Qf cells slots S (pc + 1) ls (aI (sc κ i) :: r) μ ν) : AW κ cx R Qf cells slots S pc ls (aI i :: aS 5 :: r) μ ν := by
  intro hS p l e s m args below meth c F H locs lsA hs hW hl
  obtain ⟨hx0, hb, -, -, hown, hts, -, -, hK, hst⟩ := id F
  obtain ⟨hin, he⟩ := ix_in h0 h1 hL
  have kk := k hS p l e s m args below meth c F H locs lsA hs hW hl
  refine va_sld hx0 hb hst.2.2.1 (Nat.lt_of_lt_of_le hst.2.2.2 hst.1) (Nat.not_le.mpr hst.2.2.2) hs hin hd ?_
  rw [he]
  have e : cvA κ (aI (sc κ i)) = .int (κ.2.2.2.2.2 i.toNat) := by
    show Value.int (Int32.ofInt (κ.2.2.2.2.2 i.toNat).toInt) = _
    rw [Int32.ofInt_toInt]
  rw [← e]
  exact kk
theorem aw_slen (hd : decode cx.2.1 pc = .ok (.arraylength, 1)) (k : AW κ cx R Qf cells slots S (pc + 1) ls (aI (κ.2.2.2.2.1 : Int) :: r) μ ν) : AW κ cx R Qf cells slots S pc ls (aS 5 :: r) μ ν := by
  intro hS p l e s m args below meth c F H locs lsA hs hW hl
  obtain ⟨hx0, hb, -, -, hown, hts, -, -, hK, hst⟩ := id F
  have kk := k hS p l e s m args below meth c F H locs lsA hs hW hl
  refine va_slen hx0 hb hst.2.2.1 (Nat.lt_of_lt_of_le hst.2.2.2 hst.1) (Nat.not_le.mpr hst.2.2.2) hs hd ?_
  exact kk
theorem aw_new {i ci N p1 p2 p3 : Nat} {C : String} {T : u_T} (hd : decode cx.2.1 pc = .ok (.new i, 3)) (hc : classes[ci]? = some (C, T, N)) (h1 : okL p1 (Cond.classLink cx.1.cls i C) = true) (h2 : okL p2 (Cond.instantiable C N) = true) (h3 : okL p3 (Cond.initialized C) = true) (hcells : cells + 1 ≤ R.cells) (hslots : slots + N ≤ R.slots)
    (k : AW κ cx R Qf (cells + 1) (slots + N) (S ++ [.inr (ci, dflT T N)]) (pc + 3) ls (aR S.length :: r) (clr μ S.length) (clrL ν S.length)) : AW κ cx R Qf cells slots S pc ls r μ ν := by
  intro hS p l e s m args below meth c F
  exact ss_new F hd hc (okL_mem h1) (okL_mem h2) (okL_mem h3) hcells hslots (k (hS.push (fun t n h => by cases h)) p l e s m args below meth c F)
theorem aw_callI {cy : MX} {d mc ms i b p1 : Nat} {rest : List AV} {Post : Option AV → List SH → MM → ML → Prop} (hM : AMet κ d cy [aR b] S μ ν Post mc ms) (hm : MokB cy 0) (hin : Cond.instanceMethod cy.1 ∈ lwg) (hnm : cy.1.name = "<init>") (hret : cy.2.2.2 = none) (hd : decode cx.2.1 pc = .ok (.invokespecial i, 3)) (hl : okL p1 (Cond.methodLink cx.1.cls i cy.1) = true) (hrest : 2 * rest.length ≤ 8) (hR : d + 1 ≤ R.frames ∧ 8 + (cy.2.2.1 + 11) + 64 * d ≤ R.locals) (hf : cells + mc ≤ R.cells ∧ slots + ms ≤ R.slots)
    (k : ∀ (r : Option AV) (S' : List SH) (μ' : MM) (ν' : ML), Post r S' μ' ν' → AW κ cx R Qf (cells + mc) (slots + ms) S' (pc + 3) ls (r.toList ++ rest) μ' ν') : AW κ cx R Qf cells slots S pc ls (aR b :: rest) μ ν := by
  intro hS p l e s m args below meth c F
  exact ss_callI F hS hM hm hin hnm hret hd (okL_mem hl) hrest hR hf (fun r S' μ' ν' hp hsm => k r S' μ' ν' hp hsm p l e s m args below meth c F)
end LawW
def R_law : String := "FilmLinesLaw"
def lw_P (b : Addr) (xs : List Int32) (args : Array Value) (s : State) : Prop := args = #[.ref b] ∧ s.IntsAt b xs ∧ xs.length ≤ 3072 ∧ (Jvm.Cond.and given_1 narrow_1).before args s = true
def lw_Q (_ : Array Value) (s : State) (o : Outcome) (t : State) : Prop := o = .returned (some (.int 1)) ∧ Framed s o t [] 600000 7302250
def lw_Z (below : List Frame) (a : Array Value) (s : State) : State → Prop := fun t => ∃ o, t.status = .running ∧ Ended t below o ∧ lw_Q a s o t
/-- the law's own end, with 1 on the stack, nothing written that was there before, its room as the claim has it -/
theorem lw_ret {p : Program} {l : Launch} {e : Env} {s : State} {m : MethodId} {args : Array Value} {below : List Frame} {meth : Method} {c : Code} (hx : p.tables.exec = Jvm.exec) (hb : c.code = code) (hr : meth.sig.returnType = ret) (hlocks : meth.locks = false) {pc : Nat} {H : Heap} {ls : Array Slot} (hdg : decode code pc = .ok (.ireturn, 1)) : W p l e room_1 s m args below meth c H [] 600000 7302250 (lw_Z below args s) (F0 m pc ls [.int 1]) := by
  intro T hT X
  obtain ⟨fs, hret, hrun, hended, hW, hframe⟩ := X.leave (v := some (.int 1)) (hlocks := hlocks) (fun h => by rw [hr] at h; cases h)
  have hmeth' : T.vm.method? m = some meth := X.method'
  refine ⟨T.setFrames fs, ?_, .returned (some (.int 1)), hrun, hended, rfl, ⟨_, rfl⟩, hW, hframe⟩
  jvm_step X.here [X.here.top, hx, hb, hdg, hmeth', hr, ret, narrow_b1]
  (try refine ⟨rfl, ?_⟩); (try refine ⟨rfl, ?_⟩)
  first | (intro acts; rw [hret _ acts rfl rfl rfl]) | rw [hret _ _ rfl rfl rfl]
  exact Steps.refl _
/-- the law's end, told of entries whose heap ends where the cells begin -/
def lz (κ : KX) (below : List Frame) (args : Array Value) (s : State) : State → Prop := fun t => s.heap.size ≤ κ.1 → lw_Z below args s t
abbrev AL (κ : KX) (cells slots pc : Nat) (ls st : List AV) (μ : MM) (ν : ML) : Prop := AW κ mL_law room_1 (lz κ) cells slots S0 pc ls st μ ν
theorem aw_lret {κ : KX} {cells slots pc : Nat} {ls : List AV} {μ : MM} {ν : ML} (hd : decode mL_law.2.1 pc = .ok (.ireturn, 1)) (hcs : cells ≤ 600000 ∧ slots ≤ 7302250) : AL κ cells slots pc ls [aI 1] μ ν := by
  intro hS p l e s m args below meth c F H locs lsA hs hW hl
  obtain ⟨hx0, hb, hr, -, hown, hts, hlk, -, hK, hst⟩ := id F
  by_cases h : s.heap.size ≤ κ.1
  · refine va_forget (fun q hq => Nat.le_trans h (hs.2.2 q hq)) ?_
    refine W.widen (k := 600000) (n := 7302250) hcs.1 hcs.2 ?_
    have K := lw_ret (p := p) (l := l) (e := e) (s := s) (m := m) (args := args) (below := below) (meth := meth) (c := c) (H := H) (ls := lsA) hx0 hb hr hlk hd
    intro T hT X
    obtain ⟨t, a1, a2⟩ := K T hT X
    exact ⟨t, a1, fun _ => a2⟩
  · intro T hT X
    exact ⟨_, Steps.refl _, fun q => absurd q h⟩

