/-! ===== methods ===== -/
abbrev mJ6_bitCount : MX := (yJ6_bitCount_0f7a4, cJ6_bitCount_0f7a4, 1, (some .int))
set_option maxRecDepth 100000 in
theorem kJ6_bitCount : MokS mJ6_bitCount 1 := mokS_of (p1 := 57) (p2 := 856) (p3 := 855) rfl (by decide +kernel) (by decide +kernel)
abbrev mJ13_bitCount : MX := (yJ13_bitCount_95d88, cJ13_bitCount_95d88, 2, (some .int))
set_option maxRecDepth 100000 in
theorem kJ13_bitCount : MokS mJ13_bitCount 1 := mokS_of (p1 := 56) (p2 := 799) (p3 := 798) rfl (by decide +kernel) (by decide +kernel)
abbrev mJ9_abs : MX := (yJ9_abs_0f7a4, cJ9_abs_0f7a4, 1, (some .int))
abbrev mJ9_max : MX := (yJ9_max_7cf53, cJ9_max_7cf53, 2, (some .int))
abbrev mJ9_min : MX := (yJ9_min_7cf53, cJ9_min_7cf53, 2, (some .int))
abbrev mX2_bitsOf : MX := (yX2_bitsOf, cX2_bitsOf, 3, (some .int))
set_option maxRecDepth 100000 in
theorem kX2_bitsOf : MokV mX2_bitsOf 2 := mokV_of (p1 := 44) (p2 := 654) (p3 := 652) (p4 := 653) rfl (by decide +kernel) (by decide +kernel) (by decide +kernel)
abbrev mX2_changeBits : MX := (yX2_changeBits, cX2_changeBits, 5, (some .int))
set_option maxRecDepth 100000 in
theorem kX2_changeBits : MokV mX2_changeBits 3 := mokV_of (p1 := 44) (p2 := 558) (p3 := 556) (p4 := 557) rfl (by decide +kernel) (by decide +kernel) (by decide +kernel)
abbrev mX2_changeLine : MX := (yX2_changeLine, cX2_changeLine, 5, none)
set_option maxRecDepth 100000 in
theorem kX2_changeLine : MokV mX2_changeLine 3 := mokV_of (p1 := 44) (p2 := 570) (p3 := 568) (p4 := 569) rfl (by decide +kernel) (by decide +kernel) (by decide +kernel)
abbrev mX2_isDoor : MX := (yX2_isDoor, cX2_isDoor, 2, (some .boolean))
set_option maxRecDepth 100000 in
theorem kX2_isDoor : MokV mX2_isDoor 1 := mokV_of (p1 := 44) (p2 := 646) (p3 := 644) (p4 := 645) rfl (by decide +kernel) (by decide +kernel) (by decide +kernel)
abbrev mX4_change : MX := (yX4_change, cX4_change, 5, (some .int))
set_option maxRecDepth 100000 in
theorem kX4_change : MokV mX4_change 3 := mokV_of (p1 := 51) (p2 := 868) (p3 := 866) (p4 := 867) rfl (by decide +kernel) (by decide +kernel) (by decide +kernel)
abbrev mX4_numberAt : MX := (yX4_numberAt, cX4_numberAt, 3, (some .int))
set_option maxRecDepth 100000 in
theorem kX4_numberAt : MokV mX4_numberAt 2 := mokV_of (p1 := 51) (p2 := 880) (p3 := 878) (p4 := 879) rfl (by decide +kernel) (by decide +kernel) (by decide +kernel)
abbrev mX4_plainSum : MX := (yX4_plainSum, cX4_plainSum, 4, (some .int))
set_option maxRecDepth 100000 in
theorem kX4_plainSum : MokV mX4_plainSum 1 := mokV_of (p1 := 51) (p2 := 876) (p3 := 874) (p4 := 875) rfl (by decide +kernel) (by decide +kernel) (by decide +kernel)
abbrev mX4_placeSum : MX := (yX4_placeSum, cX4_placeSum, 4, (some .int))
set_option maxRecDepth 100000 in
theorem kX4_placeSum : MokV mX4_placeSum 1 := mokV_of (p1 := 51) (p2 := 884) (p3 := 882) (p4 := 883) rfl (by decide +kernel) (by decide +kernel) (by decide +kernel)
abbrev mX4_restorable : MX := (yX4_restorable, cX4_restorable, 3, (some .boolean))
set_option maxRecDepth 100000 in
theorem kX4_restorable : MokS mX4_restorable 1 := mokS_of (p1 := 51) (p2 := 891) (p3 := 890) rfl (by decide +kernel) (by decide +kernel)
abbrev mX5_change : MX := (yX5_change, cX5_change, 4, (some .int))
set_option maxRecDepth 100000 in
theorem kX5_change : MokV mX5_change 2 := mokV_of (p1 := 50) (p2 := 829) (p3 := 827) (p4 := 828) rfl (by decide +kernel) (by decide +kernel) (by decide +kernel)
abbrev mX5_blamed : MX := (yX5_blamed, cX5_blamed, 5, (some .int))
set_option maxRecDepth 100000 in
theorem kX5_blamed : MokV mX5_blamed 2 := mokV_of (p1 := 50) (p2 := 837) (p3 := 835) (p4 := 836) rfl (by decide +kernel) (by decide +kernel) (by decide +kernel)
abbrev mX5_pairs : MX := (yX5_pairs, cX5_pairs, 6, (some .int))
set_option maxRecDepth 100000 in
theorem kX5_pairs : MokV mX5_pairs 2 := mokV_of (p1 := 50) (p2 := 845) (p3 := 843) (p4 := 844) rfl (by decide +kernel) (by decide +kernel) (by decide +kernel)
abbrev mX5_firstPair : MX := (yX5_firstPair, cX5_firstPair, 5, (some .int))
set_option maxRecDepth 100000 in
theorem kX5_firstPair : MokV mX5_firstPair 2 := mokV_of (p1 := 50) (p2 := 853) (p3 := 851) (p4 := 852) rfl (by decide +kernel) (by decide +kernel) (by decide +kernel)
abbrev mX5_isPair : MX := (yX5_isPair, cX5_isPair, 7, (some .boolean))
set_option maxRecDepth 100000 in
theorem kX5_isPair : MokV mX5_isPair 4 := mokV_of (p1 := 50) (p2 := 849) (p3 := 848) (p4 := 21) rfl (by decide +kernel) (by decide +kernel) (by decide +kernel)
abbrev mX5_unlike : MX := (yX5_unlike, cX5_unlike, 4, (some .int))
set_option maxRecDepth 100000 in
theorem kX5_unlike : MokV mX5_unlike 3 := mokV_of (p1 := 50) (p2 := 841) (p3 := 840) (p4 := 20) rfl (by decide +kernel) (by decide +kernel) (by decide +kernel)
abbrev mX6_rehang : MX := (yX6_rehang, cX6_rehang, 5, (some .int))
set_option maxRecDepth 100000 in
theorem kX6_rehang : MokV mX6_rehang 3 := mokV_of (p1 := 52) (p2 := 908) (p3 := 906) (p4 := 907) rfl (by decide +kernel) (by decide +kernel) (by decide +kernel)
abbrev mX6_hangingOn : MX := (yX6_hangingOn, cX6_hangingOn, 5, (some .int))
set_option maxRecDepth 100000 in
theorem kX6_hangingOn : MokV mX6_hangingOn 2 := mokV_of (p1 := 52) (p2 := 904) (p3 := 902) (p4 := 903) rfl (by decide +kernel) (by decide +kernel) (by decide +kernel)
abbrev mX6_delayUpTo0 : MX := (yX6_delayUpTo0, cX6_delayUpTo0, 5, (some .int))
set_option maxRecDepth 100000 in
theorem kX6_delayUpTo0 : MokV mX6_delayUpTo0 1 := mokV_of (p1 := 52) (p2 := 916) (p3 := 914) (p4 := 915) rfl (by decide +kernel) (by decide +kernel) (by decide +kernel)
abbrev mX6_drop : MX := (yX6_drop, cX6_drop, 5, (some .int))
set_option maxRecDepth 100000 in
theorem kX6_drop : MokV mX6_drop 2 := mokV_of (p1 := 52) (p2 := 924) (p3 := 922) (p4 := 923) rfl (by decide +kernel) (by decide +kernel) (by decide +kernel)
abbrev mX6_newParent : MX := (yX6_newParent, cX6_newParent, 5, (some .int))
set_option maxRecDepth 100000 in
theorem kX6_newParent : MokV mX6_newParent 2 := mokV_of (p1 := 52) (p2 := 928) (p3 := 927) (p4 := 22) rfl (by decide +kernel) (by decide +kernel) (by decide +kernel)
abbrev mX6_standing : MX := (yX6_standing, cX6_standing, 3, (some .int))
set_option maxRecDepth 100000 in
theorem kX6_standing : MokV mX6_standing 0 := mokV_of (p1 := 52) (p2 := 938) (p3 := 936) (p4 := 937) rfl (by decide +kernel) (by decide +kernel) (by decide +kernel)
abbrev mX6_standingWithin : MX := (yX6_standingWithin, cX6_standingWithin, 4, (some .int))
set_option maxRecDepth 100000 in
theorem kX6_standingWithin : MokV mX6_standingWithin 1 := mokV_of (p1 := 52) (p2 := 942) (p3 := 940) (p4 := 941) rfl (by decide +kernel) (by decide +kernel) (by decide +kernel)
abbrev mX6_hangsOn : MX := (yX6_hangsOn, cX6_hangsOn, 2, (some .int))
set_option maxRecDepth 100000 in
theorem kX6_hangsOn : MokV mX6_hangsOn 1 := mokV_of (p1 := 52) (p2 := 946) (p3 := 944) (p4 := 945) rfl (by decide +kernel) (by decide +kernel) (by decide +kernel)
abbrev mX7_add : MX := (yX7_add, cX7_add, 6, (some .int))
set_option maxRecDepth 100000 in
theorem kX7_add : MokV mX7_add 5 := mokV_of (p1 := 49) (p2 := 764) (p3 := 762) (p4 := 763) rfl (by decide +kernel) (by decide +kernel) (by decide +kernel)
abbrev mX7_changeLand : MX := (yX7_changeLand, cX7_changeLand, 4, (some .int))
set_option maxRecDepth 100000 in
theorem kX7_changeLand : MokV mX7_changeLand 2 := mokV_of (p1 := 49) (p2 := 775) (p3 := 773) (p4 := 774) rfl (by decide +kernel) (by decide +kernel) (by decide +kernel)
abbrev mX7_allow : MX := (yX7_allow, cX7_allow, 6, (some .boolean))
set_option maxRecDepth 100000 in
theorem kX7_allow : MokV mX7_allow 3 := mokV_of (p1 := 49) (p2 := 783) (p3 := 781) (p4 := 782) rfl (by decide +kernel) (by decide +kernel) (by decide +kernel)
abbrev mX7_addSeeing : MX := (yX7_addSeeing, cX7_addSeeing, 9, (some .int))
set_option maxRecDepth 100000 in
theorem kX7_addSeeing : MokV mX7_addSeeing 4 := mokV_of (p1 := 49) (p2 := 795) (p3 := 793) (p4 := 794) rfl (by decide +kernel) (by decide +kernel) (by decide +kernel)
abbrev mX7_secondsSeen : MX := (yX7_secondsSeen, cX7_secondsSeen, 3, (some .int))
set_option maxRecDepth 100000 in
theorem kX7_secondsSeen : MokV mX7_secondsSeen 2 := mokV_of (p1 := 49) (p2 := 810) (p3 := 808) (p4 := 809) rfl (by decide +kernel) (by decide +kernel) (by decide +kernel)
abbrev mX7_timesSeen : MX := (yX7_timesSeen, cX7_timesSeen, 3, (some .int))
set_option maxRecDepth 100000 in
theorem kX7_timesSeen : MokV mX7_timesSeen 2 := mokV_of (p1 := 49) (p2 := 787) (p3 := 785) (p4 := 786) rfl (by decide +kernel) (by decide +kernel) (by decide +kernel)
abbrev mX7_owedFor : MX := (yX7_owedFor, cX7_owedFor, 6, (some .int))
set_option maxRecDepth 100000 in
theorem kX7_owedFor : MokV mX7_owedFor 3 := mokV_of (p1 := 49) (p2 := 819) (p3 := 817) (p4 := 818) rfl (by decide +kernel) (by decide +kernel) (by decide +kernel)
abbrev mX8_addSign : MX := (yX8_addSign, cX8_addSign, 2, (some .int))
set_option maxRecDepth 100000 in
theorem kX8_addSign : MokV mX8_addSign 1 := mokV_of (p1 := 45) (p2 := 578) (p3 := 576) (p4 := 577) rfl (by decide +kernel) (by decide +kernel) (by decide +kernel)
abbrev mX8_dropSigns : MX := (yX8_dropSigns, cX8_dropSigns, 2, (some .int))
set_option maxRecDepth 100000 in
theorem kX8_dropSigns : MokV mX8_dropSigns 0 := mokV_of (p1 := 45) (p2 := 586) (p3 := 584) (p4 := 585) rfl (by decide +kernel) (by decide +kernel) (by decide +kernel)
abbrev mX8_firstFault : MX := (yX8_firstFault, cX8_firstFault, 3, (some .int))
set_option maxRecDepth 100000 in
theorem kX8_firstFault : MokV mX8_firstFault 0 := mokV_of (p1 := 45) (p2 := 594) (p3 := 592) (p4 := 593) rfl (by decide +kernel) (by decide +kernel) (by decide +kernel)
abbrev mX8_adopt : MX := (yX8_adopt, cX8_adopt, 3, none)
set_option maxRecDepth 100000 in
theorem kX8_adopt : MokV mX8_adopt 0 := mokV_of (p1 := 45) (p2 := 614) (p3 := 612) (p4 := 613) rfl (by decide +kernel) (by decide +kernel) (by decide +kernel)
abbrev mX8_takeSign : MX := (yX8_takeSign, cX8_takeSign, 3, none)
set_option maxRecDepth 100000 in
theorem kX8_takeSign : MokV mX8_takeSign 2 := mokV_of (p1 := 45) (p2 := 618) (p3 := 617) (p4 := 7) rfl (by decide +kernel) (by decide +kernel) (by decide +kernel)
abbrev mX8_pick : MX := (yX8_pick, cX8_pick, 7, (some .int))
set_option maxRecDepth 100000 in
theorem kX8_pick : MokV mX8_pick 4 := mokV_of (p1 := 45) (p2 := 650) (p3 := 648) (p4 := 649) rfl (by decide +kernel) (by decide +kernel) (by decide +kernel)
abbrev mX8_after : MX := (yX8_after, cX8_after, 2, (some .int))
set_option maxRecDepth 100000 in
theorem kX8_after : MokS mX8_after 2 := mokS_of (p1 := 45) (p2 := 597) (p3 := 596) rfl (by decide +kernel) (by decide +kernel)
abbrev mX8_isFact : MX := (yX8_isFact, cX8_isFact, 1, (some .boolean))
set_option maxRecDepth 100000 in
theorem kX8_isFact : MokS mX8_isFact 1 := mokS_of (p1 := 45) (p2 := 600) (p3 := 599) rfl (by decide +kernel) (by decide +kernel)
abbrev mX8_isSize : MX := (yX8_isSize, cX8_isSize, 1, (some .boolean))
set_option maxRecDepth 100000 in
theorem kX8_isSize : MokS mX8_isSize 1 := mokS_of (p1 := 45) (p2 := 603) (p3 := 602) rfl (by decide +kernel) (by decide +kernel)
abbrev mX8_isDigit : MX := (yX8_isDigit, cX8_isDigit, 1, (some .boolean))
set_option maxRecDepth 100000 in
theorem kX8_isDigit : MokS mX8_isDigit 1 := mokS_of (p1 := 45) (p2 := 606) (p3 := 605) rfl (by decide +kernel) (by decide +kernel)
abbrev mX10_changeRoom : MX := (yX10_changeRoom, cX10_changeRoom, 4, (some .int))
set_option maxRecDepth 100000 in
theorem kX10_changeRoom : MokV mX10_changeRoom 2 := mokV_of (p1 := 48) (p2 := 716) (p3 := 714) (p4 := 715) rfl (by decide +kernel) (by decide +kernel) (by decide +kernel)
abbrev mX10_changeFar : MX := (yX10_changeFar, cX10_changeFar, 4, (some .int))
set_option maxRecDepth 100000 in
theorem kX10_changeFar : MokV mX10_changeFar 2 := mokV_of (p1 := 48) (p2 := 720) (p3 := 718) (p4 := 719) rfl (by decide +kernel) (by decide +kernel) (by decide +kernel)
abbrev mX10_changeWeight : MX := (yX10_changeWeight, cX10_changeWeight, 4, (some .int))
set_option maxRecDepth 100000 in
theorem kX10_changeWeight : MokV mX10_changeWeight 2 := mokV_of (p1 := 48) (p2 := 731) (p3 := 729) (p4 := 730) rfl (by decide +kernel) (by decide +kernel) (by decide +kernel)
abbrev mX10_changeAsks : MX := (yX10_changeAsks, cX10_changeAsks, 5, (some .int))
set_option maxRecDepth 100000 in
theorem kX10_changeAsks : MokV mX10_changeAsks 3 := mokV_of (p1 := 48) (p2 := 739) (p3 := 737) (p4 := 738) rfl (by decide +kernel) (by decide +kernel) (by decide +kernel)
abbrev mX10_bestFilms : MX := (yX10_bestFilms, cX10_bestFilms, 8, (some .int))
set_option maxRecDepth 100000 in
theorem kX10_bestFilms : MokV mX10_bestFilms 1 := mokV_of (p1 := 48) (p2 := 747) (p3 := 745) (p4 := 746) rfl (by decide +kernel) (by decide +kernel) (by decide +kernel)
abbrev mX10_weightOf : MX := (yX10_weightOf, cX10_weightOf, 4, (some .int))
set_option maxRecDepth 100000 in
theorem kX10_weightOf : MokV mX10_weightOf 1 := mokV_of (p1 := 48) (p2 := 755) (p3 := 754) (p4 := 19) rfl (by decide +kernel) (by decide +kernel) (by decide +kernel)
abbrev mX10_costOf : MX := (yX10_costOf, cX10_costOf, 5, (some .int))
set_option maxRecDepth 100000 in
theorem kX10_costOf : MokV mX10_costOf 2 := mokV_of (p1 := 48) (p2 := 751) (p3 := 749) (p4 := 750) rfl (by decide +kernel) (by decide +kernel) (by decide +kernel)
abbrev mX0_seek : MX := (yX0_seek, cX0_seek, 5, none)
set_option maxRecDepth 100000 in
theorem kX0_seek : MokV mX0_seek 2 := mokV_of (p1 := 47) (p2 := 671) (p3 := 669) (p4 := 670) rfl (by decide +kernel) (by decide +kernel) (by decide +kernel)
abbrev mX0_placeFrom : MX := (yX0_placeFrom, cX0_placeFrom, 6, none)
set_option maxRecDepth 100000 in
theorem kX0_placeFrom : MokV mX0_placeFrom 4 := mokV_of (p1 := 47) (p2 := 677) (p3 := 676) (p4 := 11) rfl (by decide +kernel) (by decide +kernel) (by decide +kernel)
abbrev mX0_place : MX := (yX0_place, cX0_place, 7, none)
set_option maxRecDepth 100000 in
theorem kX0_place : MokV mX0_place 4 := mokV_of (p1 := 47) (p2 := 682) (p3 := 681) (p4 := 12) rfl (by decide +kernel) (by decide +kernel) (by decide +kernel)
abbrev mX0_secondOf : MX := (yX0_secondOf, cX0_secondOf, 4, (some .int))
set_option maxRecDepth 100000 in
theorem kX0_secondOf : MokV mX0_secondOf 2 := mokV_of (p1 := 47) (p2 := 687) (p3 := 686) (p4 := 13) rfl (by decide +kernel) (by decide +kernel) (by decide +kernel)
abbrev mX0_mayBeNoWorse : MX := (yX0_mayBeNoWorse, cX0_mayBeNoWorse, 5, (some .boolean))
set_option maxRecDepth 100000 in
theorem kX0_mayBeNoWorse : MokV mX0_mayBeNoWorse 2 := mokV_of (p1 := 47) (p2 := 708) (p3 := 707) (p4 := 18) rfl (by decide +kernel) (by decide +kernel) (by decide +kernel)
abbrev mX0_judge : MX := (yX0_judge, cX0_judge, 4, none)
set_option maxRecDepth 100000 in
theorem kX0_judge : MokV mX0_judge 2 := mokV_of (p1 := 47) (p2 := 692) (p3 := 691) (p4 := 14) rfl (by decide +kernel) (by decide +kernel) (by decide +kernel)
abbrev mX0_watch : MX := (yX0_watch, cX0_watch, 6, none)
set_option maxRecDepth 100000 in
theorem kX0_watch : MokV mX0_watch 2 := mokV_of (p1 := 47) (p2 := 696) (p3 := 695) (p4 := 15) rfl (by decide +kernel) (by decide +kernel) (by decide +kernel)
abbrev mX0_isNoWorse : MX := (yX0_isNoWorse, cX0_isNoWorse, 1, (some .boolean))
set_option maxRecDepth 100000 in
theorem kX0_isNoWorse : MokV mX0_isNoWorse 0 := mokV_of (p1 := 47) (p2 := 700) (p3 := 699) (p4 := 16) rfl (by decide +kernel) (by decide +kernel) (by decide +kernel)
abbrev mX0_keep : MX := (yX0_keep, cX0_keep, 3, none)
set_option maxRecDepth 100000 in
theorem kX0_keep : MokV mX0_keep 1 := mokV_of (p1 := 47) (p2 := 704) (p3 := 703) (p4 := 17) rfl (by decide +kernel) (by decide +kernel) (by decide +kernel)
abbrev mX1_cut : MX := (yX1_cut, cX1_cut, 7, none)
set_option maxRecDepth 100000 in
theorem kX1_cut : MokV mX1_cut 3 := mokV_of (p1 := 43) (p2 := 471) (p3 := 469) (p4 := 470) rfl (by decide +kernel) (by decide +kernel) (by decide +kernel)
abbrev mX1_gather : MX := (yX1_gather, cX1_gather, 5, none)
set_option maxRecDepth 100000 in
theorem kX1_gather : MokV mX1_gather 2 := mokV_of (p1 := 43) (p2 := 491) (p3 := 490) (p4 := 1) rfl (by decide +kernel) (by decide +kernel) (by decide +kernel)
abbrev mX1_bestMoved : MX := (yX1_bestMoved, cX1_bestMoved, 4, (some .int))
set_option maxRecDepth 100000 in
theorem kX1_bestMoved : MokV mX1_bestMoved 1 := mokV_of (p1 := 43) (p2 := 495) (p3 := 494) (p4 := 2) rfl (by decide +kernel) (by decide +kernel) (by decide +kernel)
abbrev mX1_lossBy : MX := (yX1_lossBy, cX1_lossBy, 8, (some .int))
set_option maxRecDepth 100000 in
theorem kX1_lossBy : MokS mX1_lossBy 4 := mokS_of (p1 := 43) (p2 := 474) (p3 := 473) rfl (by decide +kernel) (by decide +kernel)
abbrev mX1_dotBy : MX := (yX1_dotBy, cX1_dotBy, 7, (some .int))
set_option maxRecDepth 100000 in
theorem kX1_dotBy : MokS mX1_dotBy 5 := mokS_of (p1 := 43) (p2 := 481) (p3 := 480) rfl (by decide +kernel) (by decide +kernel)
abbrev mX1_mean : MX := (yX1_mean, cX1_mean, 6, (some .int))
set_option maxRecDepth 100000 in
theorem kX1_mean : MokS mX1_mean 3 := mokS_of (p1 := 43) (p2 := 484) (p3 := 483) rfl (by decide +kernel) (by decide +kernel)
abbrev mX1_withinRim : MX := (yX1_withinRim, cX1_withinRim, 1, (some .int))
set_option maxRecDepth 100000 in
theorem kX1_withinRim : MokS mX1_withinRim 1 := mokS_of (p1 := 43) (p2 := 487) (p3 := 486) rfl (by decide +kernel) (by decide +kernel)
abbrev mX1_tryBlock : MX := (yX1_tryBlock, cX1_tryBlock, 5, none)
set_option maxRecDepth 100000 in
theorem kX1_tryBlock : MokV mX1_tryBlock 3 := mokV_of (p1 := 43) (p2 := 506) (p3 := 505) (p4 := 3) rfl (by decide +kernel) (by decide +kernel) (by decide +kernel)
abbrev mX1_tryWay : MX := (yX1_tryWay, cX1_tryWay, 5, none)
set_option maxRecDepth 100000 in
theorem kX1_tryWay : MokV mX1_tryWay 4 := mokV_of (p1 := 43) (p2 := 517) (p3 := 516) (p4 := 5) rfl (by decide +kernel) (by decide +kernel) (by decide +kernel)
abbrev mX1_weigh : MX := (yX1_weigh, cX1_weigh, 3, none)
set_option maxRecDepth 100000 in
theorem kX1_weigh : MokV mX1_weigh 2 := mokV_of (p1 := 43) (p2 := 510) (p3 := 509) (p4 := 4) rfl (by decide +kernel) (by decide +kernel) (by decide +kernel)
abbrev mX1_open : MX := (yX1_open, cX1_open, 6, none)
set_option maxRecDepth 100000 in
theorem kX1_open : MokV mX1_open 2 := mokV_of (p1 := 43) (p2 := 521) (p3 := 520) (p4 := 6) rfl (by decide +kernel) (by decide +kernel) (by decide +kernel)
abbrev mX3_has : MX := (yX3_has, cX3_has, 2, (some .boolean))
set_option maxRecDepth 100000 in
theorem kX3_has : MokV mX3_has 1 := mokV_of (p1 := 42) (p2 := 424) (p3 := 422) (p4 := 423) rfl (by decide +kernel) (by decide +kernel) (by decide +kernel)
abbrev mX3_add : MX := (yX3_add, cX3_add, 2, (some .int))
set_option maxRecDepth 100000 in
theorem kX3_add : MokV mX3_add 0 := mokV_of (p1 := 42) (p2 := 416) (p3 := 414) (p4 := 415) rfl (by decide +kernel) (by decide +kernel) (by decide +kernel)
abbrev mX3_changeDot : MX := (yX3_changeDot, cX3_changeDot, 5, (some .int))
set_option maxRecDepth 100000 in
theorem kX3_changeDot : MokV mX3_changeDot 3 := mokV_of (p1 := 42) (p2 := 431) (p3 := 429) (p4 := 430) rfl (by decide +kernel) (by decide +kernel) (by decide +kernel)
abbrev mX3_changeKey : MX := (yX3_changeKey, cX3_changeKey, 4, (some .boolean))
set_option maxRecDepth 100000 in
theorem kX3_changeKey : MokV mX3_changeKey 2 := mokV_of (p1 := 42) (p2 := 446) (p3 := 444) (p4 := 445) rfl (by decide +kernel) (by decide +kernel) (by decide +kernel)
abbrev mX3_forgetCutsFrom : MX := (yX3_forgetCutsFrom, cX3_forgetCutsFrom, 2, none)
set_option maxRecDepth 100000 in
theorem kX3_forgetCutsFrom : MokV mX3_forgetCutsFrom 1 := mokV_of (p1 := 42) (p2 := 435) (p3 := 433) (p4 := 434) rfl (by decide +kernel) (by decide +kernel) (by decide +kernel)
abbrev mX3_cutUpTo : MX := (yX3_cutUpTo, cX3_cutUpTo, 4, none)
set_option maxRecDepth 100000 in
theorem kX3_cutUpTo : MokV mX3_cutUpTo 2 := mokV_of (p1 := 42) (p2 := 467) (p3 := 465) (p4 := 466) rfl (by decide +kernel) (by decide +kernel) (by decide +kernel)
abbrev mX3_unlike : MX := (yX3_unlike, cX3_unlike, 4, (some .int))
set_option maxRecDepth 100000 in
theorem kX3_unlike : MokV mX3_unlike 1 := mokV_of (p1 := 42) (p2 := 534) (p3 := 532) (p4 := 533) rfl (by decide +kernel) (by decide +kernel) (by decide +kernel)
abbrev mX3_isScene : MX := (yX3_isScene, cX3_isScene, 3, (some .boolean))
set_option maxRecDepth 100000 in
theorem kX3_isScene : MokV mX3_isScene 2 := mokV_of (p1 := 42) (p2 := 541) (p3 := 539) (p4 := 540) rfl (by decide +kernel) (by decide +kernel) (by decide +kernel)
abbrev mX3_isStill : MX := (yX3_isStill, cX3_isStill, 2, (some .boolean))
set_option maxRecDepth 100000 in
theorem kX3_isStill : MokV mX3_isStill 1 := mokV_of (p1 := 42) (p2 := 546) (p3 := 544) (p4 := 545) rfl (by decide +kernel) (by decide +kernel) (by decide +kernel)
abbrev mX3_scenes : MX := (yX3_scenes, cX3_scenes, 4, (some .int))
set_option maxRecDepth 100000 in
theorem kX3_scenes : MokV mX3_scenes 1 := mokV_of (p1 := 42) (p2 := 954) (p3 := 952) (p4 := 953) rfl (by decide +kernel) (by decide +kernel) (by decide +kernel)
abbrev mX3_stills : MX := (yX3_stills, cX3_stills, 3, (some .int))
set_option maxRecDepth 100000 in
theorem kX3_stills : MokV mX3_stills 0 := mokV_of (p1 := 42) (p2 := 959) (p3 := 957) (p4 := 958) rfl (by decide +kernel) (by decide +kernel) (by decide +kernel)
abbrev mX9_tells : MX := (yX9_tells, cX9_tells, 1, (some .boolean))
set_option maxRecDepth 100000 in
theorem kX9_tells : MokS mX9_tells 1 := mokS_of (p1 := 46) (p2 := 625) (p3 := 624) rfl (by decide +kernel) (by decide +kernel)
abbrev mX9_answer : MX := (yX9_answer, cX9_answer, 2, (some .int))
set_option maxRecDepth 100000 in
theorem kX9_answer : MokV mX9_answer 1 := mokV_of (p1 := 46) (p2 := 662) (p3 := 660) (p4 := 661) rfl (by decide +kernel) (by decide +kernel) (by decide +kernel)
abbrev mX9_clear : MX := (yX9_clear, cX9_clear, 2, none)
set_option maxRecDepth 100000 in
theorem kX9_clear : MokV mX9_clear 0 := mokV_of (p1 := 46) (p2 := 633) (p3 := 631) (p4 := 632) rfl (by decide +kernel) (by decide +kernel) (by decide +kernel)
abbrev mX9_run : MX := (yX9_run, cX9_run, 6, none)
set_option maxRecDepth 100000 in
theorem kX9_run : MokV mX9_run 3 := mokV_of (p1 := 46) (p2 := 629) (p3 := 627) (p4 := 628) rfl (by decide +kernel) (by decide +kernel) (by decide +kernel)
abbrev mX9_load : MX := (yX9_load, cX9_load, 7, none)
set_option maxRecDepth 100000 in
theorem kX9_load : MokV mX9_load 3 := mokV_of (p1 := 46) (p2 := 638) (p3 := 637) (p4 := 8) rfl (by decide +kernel) (by decide +kernel) (by decide +kernel)
abbrev mX9_begin : MX := (yX9_begin, cX9_begin, 8, none)
set_option maxRecDepth 100000 in
theorem kX9_begin : MokV mX9_begin 4 := mokV_of (p1 := 46) (p2 := 642) (p3 := 641) (p4 := 9) rfl (by decide +kernel) (by decide +kernel) (by decide +kernel)
abbrev mX9_watch : MX := (yX9_watch, cX9_watch, 3, none)
set_option maxRecDepth 100000 in
theorem kX9_watch : MokV mX9_watch 2 := mokV_of (p1 := 46) (p2 := 658) (p3 := 657) (p4 := 10) rfl (by decide +kernel) (by decide +kernel) (by decide +kernel)
abbrev mX11_frame : MX := (yX11_frame, cX11_frame, 1, (some .int))
set_option maxRecDepth 100000 in
theorem kX11_frame : MokV mX11_frame 0 := mokV_of (p1 := 41) (p2 := 412) (p3 := 410) (p4 := 411) rfl (by decide +kernel) (by decide +kernel) (by decide +kernel)
abbrev mX11_dot : MX := (yX11_dot, cX11_dot, 4, (some .int))
set_option maxRecDepth 100000 in
theorem kX11_dot : MokV mX11_dot 3 := mokV_of (p1 := 41) (p2 := 420) (p3 := 418) (p4 := 419) rfl (by decide +kernel) (by decide +kernel) (by decide +kernel)
abbrev mX11_key : MX := (yX11_key, cX11_key, 3, (some .int))
set_option maxRecDepth 100000 in
theorem kX11_key : MokV mX11_key 2 := mokV_of (p1 := 41) (p2 := 442) (p3 := 440) (p4 := 441) rfl (by decide +kernel) (by decide +kernel) (by decide +kernel)
abbrev mX11_set : MX := (yX11_set, cX11_set, 4, (some .int))
set_option maxRecDepth 100000 in
theorem kX11_set : MokV mX11_set 2 := mokV_of (p1 := 41) (p2 := 450) (p3 := 448) (p4 := 449) rfl (by decide +kernel) (by decide +kernel) (by decide +kernel)
abbrev mX11_way : MX := (yX11_way, cX11_way, 3, (some .int))
set_option maxRecDepth 100000 in
theorem kX11_way : MokV mX11_way 2 := mokV_of (p1 := 41) (p2 := 463) (p3 := 461) (p4 := 462) rfl (by decide +kernel) (by decide +kernel) (by decide +kernel)
abbrev mX11_opened : MX := (yX11_opened, cX11_opened, 3, (some .int))
set_option maxRecDepth 100000 in
theorem kX11_opened : MokV mX11_opened 2 := mokV_of (p1 := 41) (p2 := 526) (p3 := 524) (p4 := 525) rfl (by decide +kernel) (by decide +kernel) (by decide +kernel)
abbrev mX11_of : MX := (yX11_of, cX11_of, 3, (some .int))
set_option maxRecDepth 100000 in
theorem kX11_of : MokV mX11_of 2 := mokV_of (p1 := 41) (p2 := 530) (p3 := 528) (p4 := 529) rfl (by decide +kernel) (by decide +kernel) (by decide +kernel)
abbrev mX11_pieces : MX := (yX11_pieces, cX11_pieces, 3, (some .int))
set_option maxRecDepth 100000 in
theorem kX11_pieces : MokV mX11_pieces 1 := mokV_of (p1 := 41) (p2 := 550) (p3 := 548) (p4 := 549) rfl (by decide +kernel) (by decide +kernel) (by decide +kernel)
abbrev mX11_bits : MX := (yX11_bits, cX11_bits, 4, (some .int))
set_option maxRecDepth 100000 in
theorem kX11_bits : MokV mX11_bits 3 := mokV_of (p1 := 41) (p2 := 554) (p3 := 552) (p4 := 553) rfl (by decide +kernel) (by decide +kernel) (by decide +kernel)
abbrev mX11_doors : MX := (yX11_doors, cX11_doors, 3, (some .int))
set_option maxRecDepth 100000 in
theorem kX11_doors : MokV mX11_doors 1 := mokV_of (p1 := 41) (p2 := 562) (p3 := 560) (p4 := 561) rfl (by decide +kernel) (by decide +kernel) (by decide +kernel)
abbrev mX11_line : MX := (yX11_line, cX11_line, 4, (some .int))
set_option maxRecDepth 100000 in
theorem kX11_line : MokV mX11_line 3 := mokV_of (p1 := 41) (p2 := 566) (p3 := 564) (p4 := 565) rfl (by decide +kernel) (by decide +kernel) (by decide +kernel)
abbrev mX11_say : MX := (yX11_say, cX11_say, 2, (some .int))
set_option maxRecDepth 100000 in
theorem kX11_say : MokV mX11_say 1 := mokV_of (p1 := 41) (p2 := 574) (p3 := 572) (p4 := 573) rfl (by decide +kernel) (by decide +kernel) (by decide +kernel)
abbrev mX11_wipe : MX := (yX11_wipe, cX11_wipe, 1, (some .int))
set_option maxRecDepth 100000 in
theorem kX11_wipe : MokV mX11_wipe 0 := mokV_of (p1 := 41) (p2 := 582) (p3 := 580) (p4 := 581) rfl (by decide +kernel) (by decide +kernel) (by decide +kernel)
abbrev mX11_fault : MX := (yX11_fault, cX11_fault, 1, (some .int))
set_option maxRecDepth 100000 in
theorem kX11_fault : MokV mX11_fault 0 := mokV_of (p1 := 41) (p2 := 590) (p3 := 588) (p4 := 589) rfl (by decide +kernel) (by decide +kernel) (by decide +kernel)
abbrev mX11_rule : MX := (yX11_rule, cX11_rule, 1, (some .int))
set_option maxRecDepth 100000 in
theorem kX11_rule : MokV mX11_rule 0 := mokV_of (p1 := 41) (p2 := 610) (p3 := 608) (p4 := 609) rfl (by decide +kernel) (by decide +kernel) (by decide +kernel)
abbrev mX11_show : MX := (yX11_show, cX11_show, 2, (some .int))
set_option maxRecDepth 100000 in
theorem kX11_show : MokV mX11_show 1 := mokV_of (p1 := 41) (p2 := 622) (p3 := 620) (p4 := 621) rfl (by decide +kernel) (by decide +kernel) (by decide +kernel)
abbrev mX11_best : MX := (yX11_best, cX11_best, 2, (some .int))
set_option maxRecDepth 100000 in
theorem kX11_best : MokV mX11_best 1 := mokV_of (p1 := 41) (p2 := 667) (p3 := 665) (p4 := 666) rfl (by decide +kernel) (by decide +kernel) (by decide +kernel)
abbrev mX11_town : MX := (yX11_town, cX11_town, 4, (some .int))
set_option maxRecDepth 100000 in
theorem kX11_town : MokV mX11_town 3 := mokV_of (p1 := 41) (p2 := 712) (p3 := 710) (p4 := 711) rfl (by decide +kernel) (by decide +kernel) (by decide +kernel)
abbrev mX11_weight : MX := (yX11_weight, cX11_weight, 3, (some .int))
set_option maxRecDepth 100000 in
theorem kX11_weight : MokV mX11_weight 2 := mokV_of (p1 := 41) (p2 := 724) (p3 := 722) (p4 := 723) rfl (by decide +kernel) (by decide +kernel) (by decide +kernel)
abbrev mX11_ask : MX := (yX11_ask, cX11_ask, 4, (some .int))
set_option maxRecDepth 100000 in
theorem kX11_ask : MokV mX11_ask 3 := mokV_of (p1 := 41) (p2 := 735) (p3 := 733) (p4 := 734) rfl (by decide +kernel) (by decide +kernel) (by decide +kernel)
abbrev mX11_kept : MX := (yX11_kept, cX11_kept, 4, (some .int))
set_option maxRecDepth 100000 in
theorem kX11_kept : MokV mX11_kept 2 := mokV_of (p1 := 41) (p2 := 743) (p3 := 741) (p4 := 742) rfl (by decide +kernel) (by decide +kernel) (by decide +kernel)
abbrev mX11_right : MX := (yX11_right, cX11_right, 6, (some .int))
set_option maxRecDepth 100000 in
theorem kX11_right : MokV mX11_right 5 := mokV_of (p1 := 41) (p2 := 760) (p3 := 758) (p4 := 759) rfl (by decide +kernel) (by decide +kernel) (by decide +kernel)
abbrev mX11_land : MX := (yX11_land, cX11_land, 3, (some .int))
set_option maxRecDepth 100000 in
theorem kX11_land : MokV mX11_land 2 := mokV_of (p1 := 41) (p2 := 768) (p3 := 766) (p4 := 767) rfl (by decide +kernel) (by decide +kernel) (by decide +kernel)
abbrev mX11_may : MX := (yX11_may, cX11_may, 4, (some .int))
set_option maxRecDepth 100000 in
theorem kX11_may : MokV mX11_may 3 := mokV_of (p1 := 41) (p2 := 779) (p3 := 777) (p4 := 778) rfl (by decide +kernel) (by decide +kernel) (by decide +kernel)
abbrev mX11_see : MX := (yX11_see, cX11_see, 6, (some .int))
set_option maxRecDepth 100000 in
theorem kX11_see : MokV mX11_see 5 := mokV_of (p1 := 41) (p2 := 791) (p3 := 789) (p4 := 790) rfl (by decide +kernel) (by decide +kernel) (by decide +kernel)
abbrev mX11_seen : MX := (yX11_seen, cX11_seen, 4, (some .int))
set_option maxRecDepth 100000 in
theorem kX11_seen : MokV mX11_seen 3 := mokV_of (p1 := 41) (p2 := 806) (p3 := 804) (p4 := 805) rfl (by decide +kernel) (by decide +kernel) (by decide +kernel)
abbrev mX11_owed : MX := (yX11_owed, cX11_owed, 2, (some .int))
set_option maxRecDepth 100000 in
theorem kX11_owed : MokV mX11_owed 1 := mokV_of (p1 := 41) (p2 := 815) (p3 := 813) (p4 := 814) rfl (by decide +kernel) (by decide +kernel) (by decide +kernel)
abbrev mX11_mark : MX := (yX11_mark, cX11_mark, 3, (some .int))
set_option maxRecDepth 100000 in
theorem kX11_mark : MokV mX11_mark 2 := mokV_of (p1 := 41) (p2 := 825) (p3 := 823) (p4 := 824) rfl (by decide +kernel) (by decide +kernel) (by decide +kernel)
abbrev mX11_blame : MX := (yX11_blame, cX11_blame, 4, (some .int))
set_option maxRecDepth 100000 in
theorem kX11_blame : MokV mX11_blame 3 := mokV_of (p1 := 41) (p2 := 833) (p3 := 831) (p4 := 832) rfl (by decide +kernel) (by decide +kernel) (by decide +kernel)
abbrev mX11_put : MX := (yX11_put, cX11_put, 4, (some .int))
set_option maxRecDepth 100000 in
theorem kX11_put : MokV mX11_put 3 := mokV_of (p1 := 41) (p2 := 863) (p3 := 861) (p4 := 862) rfl (by decide +kernel) (by decide +kernel) (by decide +kernel)
abbrev mX11_sum : MX := (yX11_sum, cX11_sum, 3, (some .int))
set_option maxRecDepth 100000 in
theorem kX11_sum : MokV mX11_sum 2 := mokV_of (p1 := 41) (p2 := 872) (p3 := 870) (p4 := 871) rfl (by decide +kernel) (by decide +kernel) (by decide +kernel)
abbrev mX11_restore : MX := (yX11_restore, cX11_restore, 4, (some .int))
set_option maxRecDepth 100000 in
theorem kX11_restore : MokV mX11_restore 3 := mokV_of (p1 := 41) (p2 := 888) (p3 := 886) (p4 := 887) rfl (by decide +kernel) (by decide +kernel) (by decide +kernel)
abbrev mX11_hang : MX := (yX11_hang, cX11_hang, 4, (some .int))
set_option maxRecDepth 100000 in
theorem kX11_hang : MokV mX11_hang 3 := mokV_of (p1 := 41) (p2 := 897) (p3 := 895) (p4 := 896) rfl (by decide +kernel) (by decide +kernel) (by decide +kernel)
abbrev mX11_behind : MX := (yX11_behind, cX11_behind, 2, (some .int))
set_option maxRecDepth 100000 in
theorem kX11_behind : MokV mX11_behind 1 := mokV_of (p1 := 41) (p2 := 912) (p3 := 910) (p4 := 911) rfl (by decide +kernel) (by decide +kernel) (by decide +kernel)
abbrev mX11_fall : MX := (yX11_fall, cX11_fall, 2, (some .int))
set_option maxRecDepth 100000 in
theorem kX11_fall : MokV mX11_fall 1 := mokV_of (p1 := 41) (p2 := 920) (p3 := 918) (p4 := 919) rfl (by decide +kernel) (by decide +kernel) (by decide +kernel)
abbrev mX11_tree : MX := (yX11_tree, cX11_tree, 2, (some .int))
set_option maxRecDepth 100000 in
theorem kX11_tree : MokV mX11_tree 1 := mokV_of (p1 := 41) (p2 := 934) (p3 := 932) (p4 := 933) rfl (by decide +kernel) (by decide +kernel) (by decide +kernel)
abbrev mX11_told : MX := (yX11_told, cX11_told, 2, (some .int))
set_option maxRecDepth 100000 in
theorem kX11_told : MokV mX11_told 1 := mokV_of (p1 := 41) (p2 := 950) (p3 := 948) (p4 := 949) rfl (by decide +kernel) (by decide +kernel) (by decide +kernel)
abbrev mX11_between : MX := (yX11_between, cX11_between, 3, (some .boolean))
set_option maxRecDepth 100000 in
theorem kX11_between : MokS mX11_between 3 := mokS_of (p1 := 41) (p2 := 427) (p3 := 426) rfl (by decide +kernel) (by decide +kernel)
abbrev mX11_isFilm : MX := (yX11_isFilm, cX11_isFilm, 1, (some .boolean))
set_option maxRecDepth 100000 in
theorem kX11_isFilm : MokS mX11_isFilm 1 := mokS_of (p1 := 41) (p2 := 727) (p3 := 726) rfl (by decide +kernel) (by decide +kernel)
abbrev mX11_isSeer : MX := (yX11_isSeer, cX11_isSeer, 1, (some .boolean))
set_option maxRecDepth 100000 in
theorem kX11_isSeer : MokS mX11_isSeer 1 := mokS_of (p1 := 41) (p2 := 771) (p3 := 770) rfl (by decide +kernel) (by decide +kernel)
abbrev mX11_isNode : MX := (yX11_isNode, cX11_isNode, 1, (some .boolean))
set_option maxRecDepth 100000 in
theorem kX11_isNode : MokS mX11_isNode 1 := mokS_of (p1 := 41) (p2 := 900) (p3 := 899) rfl (by decide +kernel) (by decide +kernel)
abbrev mX11_forgetShows : MX := (yX11_forgetShows, cX11_forgetShows, 1, none)
set_option maxRecDepth 100000 in
theorem kX11_forgetShows : MokV mX11_forgetShows 0 := mokV_of (p1 := 41) (p2 := 459) (p3 := 458) (p4 := 0) rfl (by decide +kernel) (by decide +kernel) (by decide +kernel)
abbrev mX12_in : MX := (yX12_in, cX12_in, 3, (some .boolean))
set_option maxRecDepth 100000 in
theorem kX12_in : MokS mX12_in 3 := mokS_of (p1 := 53) (p2 := 1093) (p3 := 1092) rfl (by decide +kernel) (by decide +kernel)
abbrev mX12_isFrame : MX := (yX12_isFrame, cX12_isFrame, 2, (some .boolean))
set_option maxRecDepth 100000 in
theorem kX12_isFrame : MokV mX12_isFrame 1 := mokV_of (p1 := 53) (p2 := 1090) (p3 := 1089) (p4 := 23) rfl (by decide +kernel) (by decide +kernel) (by decide +kernel)
abbrev mX12_frame : MX := (yX12_frame, cX12_frame, 2, (some .int))
set_option maxRecDepth 100000 in
theorem kX12_frame : MokV mX12_frame 0 := mokV_of (p1 := 53) (p2 := 1082) (p3 := 1080) (p4 := 1081) rfl (by decide +kernel) (by decide +kernel) (by decide +kernel)
abbrev mX12_dot : MX := (yX12_dot, cX12_dot, 5, (some .int))
set_option maxRecDepth 100000 in
theorem kX12_dot : MokV mX12_dot 3 := mokV_of (p1 := 53) (p2 := 1086) (p3 := 1084) (p4 := 1085) rfl (by decide +kernel) (by decide +kernel) (by decide +kernel)
abbrev mX12_key : MX := (yX12_key, cX12_key, 4, (some .int))
set_option maxRecDepth 100000 in
theorem kX12_key : MokV mX12_key 2 := mokV_of (p1 := 53) (p2 := 1097) (p3 := 1095) (p4 := 1096) rfl (by decide +kernel) (by decide +kernel) (by decide +kernel)
abbrev mX12_set : MX := (yX12_set, cX12_set, 5, (some .int))
set_option maxRecDepth 100000 in
theorem kX12_set : MokV mX12_set 2 := mokV_of (p1 := 53) (p2 := 1101) (p3 := 1099) (p4 := 1100) rfl (by decide +kernel) (by decide +kernel) (by decide +kernel)
abbrev mX12_costOf : MX := (yX12_costOf, cX12_costOf, 1, (some .int))
set_option maxRecDepth 100000 in
theorem kX12_costOf : MokS mX12_costOf 1 := mokS_of (p1 := 53) (p2 := 1127) (p3 := 1126) rfl (by decide +kernel) (by decide +kernel)
abbrev mX12_dotAt : MX := (yX12_dotAt, cX12_dotAt, 2, (some .int))
set_option maxRecDepth 100000 in
theorem kX12_dotAt : MokS mX12_dotAt 2 := mokS_of (p1 := 53) (p2 := 1120) (p3 := 1119) rfl (by decide +kernel) (by decide +kernel)
abbrev mX12_held : MX := (yX12_held, cX12_held, 1, (some .int))
set_option maxRecDepth 100000 in
theorem kX12_held : MokS mX12_held 1 := mokS_of (p1 := 53) (p2 := 1123) (p3 := 1122) rfl (by decide +kernel) (by decide +kernel)
abbrev mX12_openBy : MX := (yX12_openBy, cX12_openBy, 8, (some .int))
set_option maxRecDepth 100000 in
theorem kX12_openBy : MokV mX12_openBy 4 := mokV_of (p1 := 53) (p2 := 1117) (p3 := 1116) (p4 := 26) rfl (by decide +kernel) (by decide +kernel) (by decide +kernel)
abbrev mX12_cutFrame : MX := (yX12_cutFrame, cX12_cutFrame, 15, none)
set_option maxRecDepth 100000 in
theorem kX12_cutFrame : MokV mX12_cutFrame 1 := mokV_of (p1 := 53) (p2 := 1113) (p3 := 1112) (p4 := 25) rfl (by decide +kernel) (by decide +kernel) (by decide +kernel)
abbrev mX12_cut : MX := (yX12_cut, cX12_cut, 3, none)
set_option maxRecDepth 100000 in
theorem kX12_cut : MokV mX12_cut 1 := mokV_of (p1 := 53) (p2 := 1109) (p3 := 1108) (p4 := 24) rfl (by decide +kernel) (by decide +kernel) (by decide +kernel)
abbrev mX12_way : MX := (yX12_way, cX12_way, 3, (some .int))
set_option maxRecDepth 100000 in
theorem kX12_way : MokV mX12_way 2 := mokV_of (p1 := 53) (p2 := 1105) (p3 := 1103) (p4 := 1104) rfl (by decide +kernel) (by decide +kernel) (by decide +kernel)
abbrev mX12_opened : MX := (yX12_opened, cX12_opened, 3, (some .int))
set_option maxRecDepth 100000 in
theorem kX12_opened : MokV mX12_opened 2 := mokV_of (p1 := 53) (p2 := 1131) (p3 := 1129) (p4 := 1130) rfl (by decide +kernel) (by decide +kernel) (by decide +kernel)
abbrev mX12_unlike : MX := (yX12_unlike, cX12_unlike, 5, (some .int))
set_option maxRecDepth 100000 in
theorem kX12_unlike : MokV mX12_unlike 1 := mokV_of (p1 := 53) (p2 := 1139) (p3 := 1138) (p4 := 27) rfl (by decide +kernel) (by decide +kernel) (by decide +kernel)
abbrev mX12_isScene : MX := (yX12_isScene, cX12_isScene, 2, (some .boolean))
set_option maxRecDepth 100000 in
theorem kX12_isScene : MokV mX12_isScene 1 := mokV_of (p1 := 53) (p2 := 1143) (p3 := 1142) (p4 := 28) rfl (by decide +kernel) (by decide +kernel) (by decide +kernel)
abbrev mX12_isStill : MX := (yX12_isStill, cX12_isStill, 2, (some .boolean))
set_option maxRecDepth 100000 in
theorem kX12_isStill : MokV mX12_isStill 1 := mokV_of (p1 := 53) (p2 := 1147) (p3 := 1146) (p4 := 29) rfl (by decide +kernel) (by decide +kernel) (by decide +kernel)
abbrev mX12_of : MX := (yX12_of, cX12_of, 3, (some .int))
set_option maxRecDepth 100000 in
theorem kX12_of : MokV mX12_of 2 := mokV_of (p1 := 53) (p2 := 1135) (p3 := 1133) (p4 := 1134) rfl (by decide +kernel) (by decide +kernel) (by decide +kernel)
abbrev mX12_pieces : MX := (yX12_pieces, cX12_pieces, 3, (some .int))
set_option maxRecDepth 100000 in
theorem kX12_pieces : MokV mX12_pieces 1 := mokV_of (p1 := 53) (p2 := 1151) (p3 := 1149) (p4 := 1150) rfl (by decide +kernel) (by decide +kernel) (by decide +kernel)
abbrev mX12_bits : MX := (yX12_bits, cX12_bits, 5, (some .int))
set_option maxRecDepth 100000 in
theorem kX12_bits : MokV mX12_bits 3 := mokV_of (p1 := 53) (p2 := 1155) (p3 := 1153) (p4 := 1154) rfl (by decide +kernel) (by decide +kernel) (by decide +kernel)
abbrev mX12_doors : MX := (yX12_doors, cX12_doors, 3, (some .int))
set_option maxRecDepth 100000 in
theorem kX12_doors : MokV mX12_doors 1 := mokV_of (p1 := 53) (p2 := 1159) (p3 := 1157) (p4 := 1158) rfl (by decide +kernel) (by decide +kernel) (by decide +kernel)
abbrev mX12_line : MX := (yX12_line, cX12_line, 5, (some .int))
set_option maxRecDepth 100000 in
theorem kX12_line : MokV mX12_line 3 := mokV_of (p1 := 53) (p2 := 1163) (p3 := 1161) (p4 := 1162) rfl (by decide +kernel) (by decide +kernel) (by decide +kernel)
abbrev mX12_say : MX := (yX12_say, cX12_say, 2, (some .int))
set_option maxRecDepth 100000 in
theorem kX12_say : MokV mX12_say 1 := mokV_of (p1 := 53) (p2 := 1167) (p3 := 1165) (p4 := 1166) rfl (by decide +kernel) (by decide +kernel) (by decide +kernel)
abbrev mX12_wipe : MX := (yX12_wipe, cX12_wipe, 2, (some .int))
set_option maxRecDepth 100000 in
theorem kX12_wipe : MokV mX12_wipe 0 := mokV_of (p1 := 53) (p2 := 1171) (p3 := 1169) (p4 := 1170) rfl (by decide +kernel) (by decide +kernel) (by decide +kernel)
abbrev mX12_faultOf : MX := (yX12_faultOf, cX12_faultOf, 6, (some .int))
set_option maxRecDepth 100000 in
theorem kX12_faultOf : MokV mX12_faultOf 0 := mokV_of (p1 := 53) (p2 := 1179) (p3 := 1178) (p4 := 30) rfl (by decide +kernel) (by decide +kernel) (by decide +kernel)
abbrev mX12_fault : MX := (yX12_fault, cX12_fault, 1, (some .int))
set_option maxRecDepth 100000 in
theorem kX12_fault : MokV mX12_fault 0 := mokV_of (p1 := 53) (p2 := 1175) (p3 := 1173) (p4 := 1174) rfl (by decide +kernel) (by decide +kernel) (by decide +kernel)
abbrev mX12_rule : MX := (yX12_rule, cX12_rule, 2, (some .int))
set_option maxRecDepth 100000 in
theorem kX12_rule : MokV mX12_rule 0 := mokV_of (p1 := 53) (p2 := 1183) (p3 := 1181) (p4 := 1182) rfl (by decide +kernel) (by decide +kernel) (by decide +kernel)
abbrev mX12_pick : MX := (yX12_pick, cX12_pick, 10, (some .int))
set_option maxRecDepth 100000 in
theorem kX12_pick : MokV mX12_pick 4 := mokV_of (p1 := 53) (p2 := 1198) (p3 := 1197) (p4 := 32) rfl (by decide +kernel) (by decide +kernel) (by decide +kernel)
abbrev mX12_run : MX := (yX12_run, cX12_run, 9, none)
set_option maxRecDepth 100000 in
theorem kX12_run : MokV mX12_run 1 := mokV_of (p1 := 53) (p2 := 1194) (p3 := 1193) (p4 := 31) rfl (by decide +kernel) (by decide +kernel) (by decide +kernel)
abbrev mX12_tell : MX := (yX12_tell, cX12_tell, 2, (some .int))
set_option maxRecDepth 100000 in
theorem kX12_tell : MokV mX12_tell 1 := mokV_of (p1 := 53) (p2 := 1202) (p3 := 1201) (p4 := 33) rfl (by decide +kernel) (by decide +kernel) (by decide +kernel)
abbrev mX12_isTold : MX := (yX12_isTold, cX12_isTold, 1, (some .boolean))
set_option maxRecDepth 100000 in
theorem kX12_isTold : MokS mX12_isTold 1 := mokS_of (p1 := 53) (p2 := 1190) (p3 := 1189) rfl (by decide +kernel) (by decide +kernel)
abbrev mX12_show : MX := (yX12_show, cX12_show, 2, (some .int))
set_option maxRecDepth 100000 in
theorem kX12_show : MokV mX12_show 1 := mokV_of (p1 := 53) (p2 := 1187) (p3 := 1185) (p4 := 1186) rfl (by decide +kernel) (by decide +kernel) (by decide +kernel)
abbrev mX12_wish : MX := (yX12_wish, cX12_wish, 5, none)
set_option maxRecDepth 100000 in
theorem kX12_wish : MokV mX12_wish 1 := mokV_of (p1 := 53) (p2 := 1210) (p3 := 1209) (p4 := 34) rfl (by decide +kernel) (by decide +kernel) (by decide +kernel)
abbrev mX12_best : MX := (yX12_best, cX12_best, 9, (some .int))
set_option maxRecDepth 100000 in
theorem kX12_best : MokV mX12_best 1 := mokV_of (p1 := 53) (p2 := 1206) (p3 := 1204) (p4 := 1205) rfl (by decide +kernel) (by decide +kernel) (by decide +kernel)
abbrev mX12_isTown : MX := (yX12_isTown, cX12_isTown, 1, (some .boolean))
set_option maxRecDepth 100000 in
theorem kX12_isTown : MokS mX12_isTown 1 := mokS_of (p1 := 53) (p2 := 1217) (p3 := 1216) rfl (by decide +kernel) (by decide +kernel)
abbrev mX12_isFilm : MX := (yX12_isFilm, cX12_isFilm, 1, (some .boolean))
set_option maxRecDepth 100000 in
theorem kX12_isFilm : MokS mX12_isFilm 1 := mokS_of (p1 := 53) (p2 := 1224) (p3 := 1223) rfl (by decide +kernel) (by decide +kernel)
abbrev mX12_isSeer : MX := (yX12_isSeer, cX12_isSeer, 1, (some .boolean))
set_option maxRecDepth 100000 in
theorem kX12_isSeer : MokS mX12_isSeer 1 := mokS_of (p1 := 53) (p2 := 1243) (p3 := 1242) rfl (by decide +kernel) (by decide +kernel)
abbrev mX12_town : MX := (yX12_town, cX12_town, 5, (some .int))
set_option maxRecDepth 100000 in
theorem kX12_town : MokV mX12_town 3 := mokV_of (p1 := 53) (p2 := 1214) (p3 := 1212) (p4 := 1213) rfl (by decide +kernel) (by decide +kernel) (by decide +kernel)
abbrev mX12_weight : MX := (yX12_weight, cX12_weight, 4, (some .int))
set_option maxRecDepth 100000 in
theorem kX12_weight : MokV mX12_weight 2 := mokV_of (p1 := 53) (p2 := 1221) (p3 := 1219) (p4 := 1220) rfl (by decide +kernel) (by decide +kernel) (by decide +kernel)
abbrev mX12_ask : MX := (yX12_ask, cX12_ask, 5, (some .int))
set_option maxRecDepth 100000 in
theorem kX12_ask : MokV mX12_ask 3 := mokV_of (p1 := 53) (p2 := 1228) (p3 := 1226) (p4 := 1227) rfl (by decide +kernel) (by decide +kernel) (by decide +kernel)
abbrev mX12_kept : MX := (yX12_kept, cX12_kept, 10, (some .int))
set_option maxRecDepth 100000 in
theorem kX12_kept : MokV mX12_kept 2 := mokV_of (p1 := 53) (p2 := 1232) (p3 := 1230) (p4 := 1231) rfl (by decide +kernel) (by decide +kernel) (by decide +kernel)
abbrev mX12_right : MX := (yX12_right, cX12_right, 6, (some .int))
set_option maxRecDepth 100000 in
theorem kX12_right : MokV mX12_right 5 := mokV_of (p1 := 53) (p2 := 1236) (p3 := 1234) (p4 := 1235) rfl (by decide +kernel) (by decide +kernel) (by decide +kernel)
abbrev mX12_land : MX := (yX12_land, cX12_land, 4, (some .int))
set_option maxRecDepth 100000 in
theorem kX12_land : MokV mX12_land 2 := mokV_of (p1 := 53) (p2 := 1240) (p3 := 1238) (p4 := 1239) rfl (by decide +kernel) (by decide +kernel) (by decide +kernel)
abbrev mX12_mayIt : MX := (yX12_mayIt, cX12_mayIt, 8, (some .boolean))
set_option maxRecDepth 100000 in
theorem kX12_mayIt : MokV mX12_mayIt 3 := mokV_of (p1 := 53) (p2 := 1251) (p3 := 1250) (p4 := 35) rfl (by decide +kernel) (by decide +kernel) (by decide +kernel)
abbrev mX12_may : MX := (yX12_may, cX12_may, 4, (some .int))
set_option maxRecDepth 100000 in
theorem kX12_may : MokV mX12_may 3 := mokV_of (p1 := 53) (p2 := 1247) (p3 := 1245) (p4 := 1246) rfl (by decide +kernel) (by decide +kernel) (by decide +kernel)
abbrev mX12_see : MX := (yX12_see, cX12_see, 9, (some .int))
set_option maxRecDepth 100000 in
theorem kX12_see : MokV mX12_see 5 := mokV_of (p1 := 53) (p2 := 1255) (p3 := 1253) (p4 := 1254) rfl (by decide +kernel) (by decide +kernel) (by decide +kernel)
abbrev mX12_seenOf : MX := (yX12_seenOf, cX12_seenOf, 5, (some .int))
set_option maxRecDepth 100000 in
theorem kX12_seenOf : MokV mX12_seenOf 2 := mokV_of (p1 := 53) (p2 := 1263) (p3 := 1262) (p4 := 36) rfl (by decide +kernel) (by decide +kernel) (by decide +kernel)
abbrev mX12_seen : MX := (yX12_seen, cX12_seen, 4, (some .int))
set_option maxRecDepth 100000 in
theorem kX12_seen : MokV mX12_seen 3 := mokV_of (p1 := 53) (p2 := 1259) (p3 := 1257) (p4 := 1258) rfl (by decide +kernel) (by decide +kernel) (by decide +kernel)
abbrev mX12_owed : MX := (yX12_owed, cX12_owed, 5, (some .int))
set_option maxRecDepth 100000 in
theorem kX12_owed : MokV mX12_owed 1 := mokV_of (p1 := 53) (p2 := 1267) (p3 := 1265) (p4 := 1266) rfl (by decide +kernel) (by decide +kernel) (by decide +kernel)
abbrev mX12_mark : MX := (yX12_mark, cX12_mark, 4, (some .int))
set_option maxRecDepth 100000 in
theorem kX12_mark : MokV mX12_mark 2 := mokV_of (p1 := 53) (p2 := 1271) (p3 := 1269) (p4 := 1270) rfl (by decide +kernel) (by decide +kernel) (by decide +kernel)
abbrev mX12_blame : MX := (yX12_blame, cX12_blame, 11, (some .int))
set_option maxRecDepth 100000 in
theorem kX12_blame : MokV mX12_blame 3 := mokV_of (p1 := 53) (p2 := 1275) (p3 := 1273) (p4 := 1274) rfl (by decide +kernel) (by decide +kernel) (by decide +kernel)
abbrev mX12_isGroup : MX := (yX12_isGroup, cX12_isGroup, 1, (some .boolean))
set_option maxRecDepth 100000 in
theorem kX12_isGroup : MokS mX12_isGroup 1 := mokS_of (p1 := 53) (p2 := 1282) (p3 := 1281) rfl (by decide +kernel) (by decide +kernel)
abbrev mX12_put : MX := (yX12_put, cX12_put, 5, (some .int))
set_option maxRecDepth 100000 in
theorem kX12_put : MokV mX12_put 3 := mokV_of (p1 := 53) (p2 := 1279) (p3 := 1277) (p4 := 1278) rfl (by decide +kernel) (by decide +kernel) (by decide +kernel)
abbrev mX12_sum : MX := (yX12_sum, cX12_sum, 5, (some .int))
set_option maxRecDepth 100000 in
theorem kX12_sum : MokV mX12_sum 2 := mokV_of (p1 := 53) (p2 := 1287) (p3 := 1285) (p4 := 1286) rfl (by decide +kernel) (by decide +kernel) (by decide +kernel)
abbrev mX12_restore : MX := (yX12_restore, cX12_restore, 6, (some .int))
set_option maxRecDepth 100000 in
theorem kX12_restore : MokV mX12_restore 3 := mokV_of (p1 := 53) (p2 := 1291) (p3 := 1289) (p4 := 1290) rfl (by decide +kernel) (by decide +kernel) (by decide +kernel)
abbrev mX12_isNode : MX := (yX12_isNode, cX12_isNode, 1, (some .boolean))
set_option maxRecDepth 100000 in
theorem kX12_isNode : MokS mX12_isNode 1 := mokS_of (p1 := 53) (p2 := 1298) (p3 := 1297) rfl (by decide +kernel) (by decide +kernel)
abbrev mX12_hungOn : MX := (yX12_hungOn, cX12_hungOn, 5, (some .int))
set_option maxRecDepth 100000 in
theorem kX12_hungOn : MokV mX12_hungOn 2 := mokV_of (p1 := 53) (p2 := 1302) (p3 := 1301) (p4 := 37) rfl (by decide +kernel) (by decide +kernel) (by decide +kernel)
abbrev mX12_hang : MX := (yX12_hang, cX12_hang, 5, (some .int))
set_option maxRecDepth 100000 in
theorem kX12_hang : MokV mX12_hang 3 := mokV_of (p1 := 53) (p2 := 1295) (p3 := 1293) (p4 := 1294) rfl (by decide +kernel) (by decide +kernel) (by decide +kernel)
abbrev mX12_behindOf : MX := (yX12_behindOf, cX12_behindOf, 4, (some .int))
set_option maxRecDepth 100000 in
theorem kX12_behindOf : MokV mX12_behindOf 1 := mokV_of (p1 := 53) (p2 := 1310) (p3 := 1309) (p4 := 38) rfl (by decide +kernel) (by decide +kernel) (by decide +kernel)
abbrev mX12_behind : MX := (yX12_behind, cX12_behind, 2, (some .int))
set_option maxRecDepth 100000 in
theorem kX12_behind : MokV mX12_behind 1 := mokV_of (p1 := 53) (p2 := 1306) (p3 := 1304) (p4 := 1305) rfl (by decide +kernel) (by decide +kernel) (by decide +kernel)
abbrev mX12_isBelow : MX := (yX12_isBelow, cX12_isBelow, 4, (some .boolean))
set_option maxRecDepth 100000 in
theorem kX12_isBelow : MokV mX12_isBelow 2 := mokV_of (p1 := 53) (p2 := 1318) (p3 := 1317) (p4 := 39) rfl (by decide +kernel) (by decide +kernel) (by decide +kernel)
abbrev mX12_fall : MX := (yX12_fall, cX12_fall, 7, (some .int))
set_option maxRecDepth 100000 in
theorem kX12_fall : MokV mX12_fall 1 := mokV_of (p1 := 53) (p2 := 1314) (p3 := 1312) (p4 := 1313) rfl (by decide +kernel) (by decide +kernel) (by decide +kernel)
abbrev mX12_tree : MX := (yX12_tree, cX12_tree, 4, (some .int))
set_option maxRecDepth 100000 in
theorem kX12_tree : MokV mX12_tree 1 := mokV_of (p1 := 53) (p2 := 1322) (p3 := 1320) (p4 := 1321) rfl (by decide +kernel) (by decide +kernel) (by decide +kernel)
abbrev mX12_told : MX := (yX12_told, cX12_told, 4, (some .int))
set_option maxRecDepth 100000 in
theorem kX12_told : MokV mX12_told 1 := mokV_of (p1 := 53) (p2 := 1326) (p3 := 1324) (p4 := 1325) rfl (by decide +kernel) (by decide +kernel) (by decide +kernel)
abbrev mL_law : MX := (yL_law, code, 4, some .boolean)
abbrev mX11_init : MX := (yX11_init, cX11_init, 1, none)
abbrev mX12_init : MX := (yX12_init, cX12_init, 2, none)
