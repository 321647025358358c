theorem ok_X0 : nmOk 0 TX0 RX0 1 := ⟨by decide +kernel, by decide +kernel, fun k h => tyX0_ok k h, nmX0, by decide +kernel⟩
theorem ok_X2 : nmOk 1 TX2 RX2 2 := ⟨by decide +kernel, by decide +kernel, fun k h => tyX2_ok k h, nmX2, by decide +kernel⟩
theorem ok_X3 : nmOk 2 TX3 RX3 2 := ⟨by decide +kernel, by decide +kernel, fun k h => tyX3_ok k h, nmX3, by decide +kernel⟩
theorem ok_X4 : nmOk 3 TX4 RX4 10 := ⟨by decide +kernel, by decide +kernel, fun k h => tyX4_ok k h, nmX4, by decide +kernel⟩
theorem ok_X5 : nmOk 4 TX5 RX5 7 := ⟨by decide +kernel, by decide +kernel, fun k h => tyX5_ok k h, nmX5, by decide +kernel⟩
theorem ok_X6 : nmOk 5 TX6 RX6 8 := ⟨by decide +kernel, by decide +kernel, fun k h => tyX6_ok k h, nmX6, by decide +kernel⟩
theorem ok_X7 : nmOk 6 TX7 RX7 6 := ⟨by decide +kernel, by decide +kernel, fun k h => tyX7_ok k h, nmX7, by decide +kernel⟩
theorem ok_X8 : nmOk 7 TX8 RX8 2 := ⟨by decide +kernel, by decide +kernel, fun k h => tyX8_ok k h, nmX8, by decide +kernel⟩
theorem ok_X9 : nmOk 8 TX9 RX9 4 := ⟨by decide +kernel, by decide +kernel, fun k h => tyX9_ok k h, nmX9, by decide +kernel⟩
theorem ok_X10 : nmOk 9 TX10 RX10 13 := ⟨by decide +kernel, by decide +kernel, fun k h => tyX10_ok k h, nmX10, by decide +kernel⟩
theorem ok_X11 : nmOk 10 TX11 RX11 12 := ⟨by decide +kernel, by decide +kernel, fun k h => tyX11_ok k h, nmX11, by decide +kernel⟩
theorem ok_X12 : nmOk 11 TX12 RX12 50 := ⟨by decide +kernel, by decide +kernel, fun k h => tyX12_ok k h, nmX12, by decide +kernel⟩
theorem mk_X0_init : MkI yX0_init cX0_init 2 0 := ⟨⟨(List.mem_of_getElem? (i := 146) (by decide +kernel)), (List.mem_of_getElem? (i := 58) (by decide +kernel)), by decide, by decide, by decide +kernel⟩, rfl, (List.mem_of_getElem? (i := 145) (by decide +kernel))⟩
theorem mk_X0_setHouses : MkV yX0_setHouses cX0_setHouses 3 (some .boolean) 2 := ⟨⟨(List.mem_of_getElem? (i := 446) (by decide +kernel)), (List.mem_of_getElem? (i := 58) (by decide +kernel)), by decide, by decide, by decide +kernel⟩, (List.mem_of_getElem? (i := 444) (by decide +kernel)), (List.mem_of_getElem? (i := 445) (by decide +kernel))⟩
theorem mk_X0_plan : MkV yX0_plan cX0_plan 7 none 3 := ⟨⟨(List.mem_of_getElem? (i := 668) (by decide +kernel)), (List.mem_of_getElem? (i := 58) (by decide +kernel)), by decide, by decide, by decide +kernel⟩, (List.mem_of_getElem? (i := 666) (by decide +kernel)), (List.mem_of_getElem? (i := 667) (by decide +kernel))⟩
theorem mk_X1_isNumber : MkS yX1_isNumber cX1_isNumber 1 (some .boolean) 1 := ⟨⟨(List.mem_of_getElem? (i := 616) (by decide +kernel)), (List.mem_of_getElem? (i := 67) (by decide +kernel)), by decide, by decide, by decide +kernel⟩, (List.mem_of_getElem? (i := 615) (by decide +kernel))⟩
theorem mk_X1_isFact : MkS yX1_isFact cX1_isFact 1 (some .boolean) 1 := ⟨⟨(List.mem_of_getElem? (i := 619) (by decide +kernel)), (List.mem_of_getElem? (i := 67) (by decide +kernel)), by decide, by decide, by decide +kernel⟩, (List.mem_of_getElem? (i := 618) (by decide +kernel))⟩
theorem mk_X1_isComparison : MkS yX1_isComparison cX1_isComparison 1 (some .boolean) 1 := ⟨⟨(List.mem_of_getElem? (i := 647) (by decide +kernel)), (List.mem_of_getElem? (i := 67) (by decide +kernel)), by decide, by decide, by decide +kernel⟩, (List.mem_of_getElem? (i := 646) (by decide +kernel))⟩
theorem mk_X1_strength : MkS yX1_strength cX1_strength 1 (some .int) 1 := ⟨⟨(List.mem_of_getElem? (i := 635) (by decide +kernel)), (List.mem_of_getElem? (i := 67) (by decide +kernel)), by decide, by decide, by decide +kernel⟩, (List.mem_of_getElem? (i := 634) (by decide +kernel))⟩
theorem mk_X1_ofSign : MkS yX1_ofSign cX1_ofSign 1 (some .int) 1 := ⟨⟨(List.mem_of_getElem? (i := 564) (by decide +kernel)), (List.mem_of_getElem? (i := 67) (by decide +kernel)), by decide, by decide, by decide +kernel⟩, (List.mem_of_getElem? (i := 563) (by decide +kernel))⟩
theorem mk_X1_ofWord : MkS yX1_ofWord cX1_ofWord 3 (some .int) 3 := ⟨⟨(List.mem_of_getElem? (i := 490) (by decide +kernel)), (List.mem_of_getElem? (i := 67) (by decide +kernel)), by decide, by decide, by decide +kernel⟩, (List.mem_of_getElem? (i := 489) (by decide +kernel))⟩
theorem mk_X2_init : MkI yX2_init cX2_init 1 0 := ⟨⟨(List.mem_of_getElem? (i := 207) (by decide +kernel)), (List.mem_of_getElem? (i := 60) (by decide +kernel)), by decide, by decide, by decide +kernel⟩, rfl, (List.mem_of_getElem? (i := 206) (by decide +kernel))⟩
theorem mk_X2_isFull : MkV yX2_isFull cX2_isFull 1 (some .boolean) 0 := ⟨⟨(List.mem_of_getElem? (i := 433) (by decide +kernel)), (List.mem_of_getElem? (i := 60) (by decide +kernel)), by decide, by decide, by decide +kernel⟩, (List.mem_of_getElem? (i := 431) (by decide +kernel)), (List.mem_of_getElem? (i := 432) (by decide +kernel))⟩
theorem mk_X2_add : MkV yX2_add cX2_add 2 (some .int) 1 := ⟨⟨(List.mem_of_getElem? (i := 437) (by decide +kernel)), (List.mem_of_getElem? (i := 60) (by decide +kernel)), by decide, by decide, by decide +kernel⟩, (List.mem_of_getElem? (i := 435) (by decide +kernel)), (List.mem_of_getElem? (i := 436) (by decide +kernel))⟩
theorem mk_X3_init : MkI yX3_init cX3_init 2 0 := ⟨⟨(List.mem_of_getElem? (i := 87) (by decide +kernel)), (List.mem_of_getElem? (i := 56) (by decide +kernel)), by decide, by decide, by decide +kernel⟩, rfl, (List.mem_of_getElem? (i := 86) (by decide +kernel))⟩
theorem mk_X3_setLevel : MkV yX3_setLevel cX3_setLevel 3 (some .boolean) 2 := ⟨⟨(List.mem_of_getElem? (i := 356) (by decide +kernel)), (List.mem_of_getElem? (i := 56) (by decide +kernel)), by decide, by decide, by decide +kernel⟩, (List.mem_of_getElem? (i := 354) (by decide +kernel)), (List.mem_of_getElem? (i := 355) (by decide +kernel))⟩
theorem mk_X3_setHeight : MkV yX3_setHeight cX3_setHeight 3 (some .boolean) 2 := ⟨⟨(List.mem_of_getElem? (i := 367) (by decide +kernel)), (List.mem_of_getElem? (i := 56) (by decide +kernel)), by decide, by decide, by decide +kernel⟩, (List.mem_of_getElem? (i := 365) (by decide +kernel)), (List.mem_of_getElem? (i := 366) (by decide +kernel))⟩
theorem mk_X3_monthOf : MkV yX3_monthOf cX3_monthOf 3 (some .int) 1 := ⟨⟨(List.mem_of_getElem? (i := 375) (by decide +kernel)), (List.mem_of_getElem? (i := 56) (by decide +kernel)), by decide, by decide, by decide +kernel⟩, (List.mem_of_getElem? (i := 373) (by decide +kernel)), (List.mem_of_getElem? (i := 374) (by decide +kernel))⟩
theorem mk_X4_init : MkI yX4_init cX4_init 1 0 := ⟨⟨(List.mem_of_getElem? (i := 101) (by decide +kernel)), (List.mem_of_getElem? (i := 57) (by decide +kernel)), by decide, by decide, by decide +kernel⟩, rfl, (List.mem_of_getElem? (i := 100) (by decide +kernel))⟩
theorem mk_X4_has : MkV yX4_has cX4_has 2 (some .boolean) 1 := ⟨⟨(List.mem_of_getElem? (i := 401) (by decide +kernel)), (List.mem_of_getElem? (i := 57) (by decide +kernel)), by decide, by decide, by decide +kernel⟩, (List.mem_of_getElem? (i := 399) (by decide +kernel)), (List.mem_of_getElem? (i := 400) (by decide +kernel))⟩
theorem mk_X4_isFull : MkV yX4_isFull cX4_isFull 1 (some .boolean) 0 := ⟨⟨(List.mem_of_getElem? (i := 384) (by decide +kernel)), (List.mem_of_getElem? (i := 57) (by decide +kernel)), by decide, by decide, by decide +kernel⟩, (List.mem_of_getElem? (i := 382) (by decide +kernel)), (List.mem_of_getElem? (i := 383) (by decide +kernel))⟩
theorem mk_X4_add : MkV yX4_add cX4_add 6 (some .int) 5 := ⟨⟨(List.mem_of_getElem? (i := 388) (by decide +kernel)), (List.mem_of_getElem? (i := 57) (by decide +kernel)), by decide, by decide, by decide +kernel⟩, (List.mem_of_getElem? (i := 386) (by decide +kernel)), (List.mem_of_getElem? (i := 387) (by decide +kernel))⟩
theorem mk_X4_givePapers : MkV yX4_givePapers cX4_givePapers 2 (some .boolean) 1 := ⟨⟨(List.mem_of_getElem? (i := 397) (by decide +kernel)), (List.mem_of_getElem? (i := 57) (by decide +kernel)), by decide, by decide, by decide +kernel⟩, (List.mem_of_getElem? (i := 395) (by decide +kernel)), (List.mem_of_getElem? (i := 396) (by decide +kernel))⟩
theorem mk_X4_factsOf : MkV yX4_factsOf cX4_factsOf 2 (some (.array .int)) 1 := ⟨⟨(List.mem_of_getElem? (i := 702) (by decide +kernel)), (List.mem_of_getElem? (i := 57) (by decide +kernel)), by decide, by decide, by decide +kernel⟩, (List.mem_of_getElem? (i := 700) (by decide +kernel)), (List.mem_of_getElem? (i := 701) (by decide +kernel))⟩
theorem mk_X4_beginPlan : MkV yX4_beginPlan cX4_beginPlan 3 none 1 := ⟨⟨(List.mem_of_getElem? (i := 672) (by decide +kernel)), (List.mem_of_getElem? (i := 57) (by decide +kernel)), by decide, by decide, by decide +kernel⟩, (List.mem_of_getElem? (i := 670) (by decide +kernel)), (List.mem_of_getElem? (i := 671) (by decide +kernel))⟩
theorem mk_X4_nextInLine : MkV yX4_nextInLine cX4_nextInLine 3 (some .int) 0 := ⟨⟨(List.mem_of_getElem? (i := 678) (by decide +kernel)), (List.mem_of_getElem? (i := 57) (by decide +kernel)), by decide, by decide, by decide +kernel⟩, (List.mem_of_getElem? (i := 676) (by decide +kernel)), (List.mem_of_getElem? (i := 677) (by decide +kernel))⟩
theorem mk_X4_planHouse : MkV yX4_planHouse cX4_planHouse 3 none 2 := ⟨⟨(List.mem_of_getElem? (i := 682) (by decide +kernel)), (List.mem_of_getElem? (i := 57) (by decide +kernel)), by decide, by decide, by decide +kernel⟩, (List.mem_of_getElem? (i := 680) (by decide +kernel)), (List.mem_of_getElem? (i := 681) (by decide +kernel))⟩
theorem mk_X4_finishHousesBefore : MkV yX4_finishHousesBefore cX4_finishHousesBefore 3 none 1 := ⟨⟨(List.mem_of_getElem? (i := 865) (by decide +kernel)), (List.mem_of_getElem? (i := 57) (by decide +kernel)), by decide, by decide, by decide +kernel⟩, (List.mem_of_getElem? (i := 863) (by decide +kernel)), (List.mem_of_getElem? (i := 864) (by decide +kernel))⟩
theorem mk_X4_isLate : MkV yX4_isLate cX4_isLate 2 (some .boolean) 1 := ⟨⟨(List.mem_of_getElem? (i := 690) (by decide +kernel)), (List.mem_of_getElem? (i := 57) (by decide +kernel)), by decide, by decide, by decide +kernel⟩, (List.mem_of_getElem? (i := 688) (by decide +kernel)), (List.mem_of_getElem? (i := 689) (by decide +kernel))⟩
theorem mk_X4_countLate : MkV yX4_countLate cX4_countLate 3 (some .int) 0 := ⟨⟨(List.mem_of_getElem? (i := 686) (by decide +kernel)), (List.mem_of_getElem? (i := 57) (by decide +kernel)), by decide, by decide, by decide +kernel⟩, (List.mem_of_getElem? (i := 684) (by decide +kernel)), (List.mem_of_getElem? (i := 685) (by decide +kernel))⟩
theorem mk_X4_countReady : MkV yX4_countReady cX4_countReady 3 (some .int) 0 := ⟨⟨(List.mem_of_getElem? (i := 664) (by decide +kernel)), (List.mem_of_getElem? (i := 57) (by decide +kernel)), by decide, by decide, by decide +kernel⟩, (List.mem_of_getElem? (i := 662) (by decide +kernel)), (List.mem_of_getElem? (i := 663) (by decide +kernel))⟩
theorem mk_X5_init : MkI yX5_init cX5_init 1 0 := ⟨⟨(List.mem_of_getElem? (i := 784) (by decide +kernel)), (List.mem_of_getElem? (i := 73) (by decide +kernel)), by decide, by decide, by decide +kernel⟩, rfl, (List.mem_of_getElem? (i := 783) (by decide +kernel))⟩
theorem mk_X5_setDue : MkV yX5_setDue cX5_setDue 3 none 2 := ⟨⟨(List.mem_of_getElem? (i := 814) (by decide +kernel)), (List.mem_of_getElem? (i := 73) (by decide +kernel)), by decide, by decide, by decide +kernel⟩, (List.mem_of_getElem? (i := 812) (by decide +kernel)), (List.mem_of_getElem? (i := 813) (by decide +kernel))⟩
theorem mk_X5_find : MkV yX5_find cX5_find 7 none 2 := ⟨⟨(List.mem_of_getElem? (i := 819) (by decide +kernel)), (List.mem_of_getElem? (i := 73) (by decide +kernel)), by decide, by decide, by decide +kernel⟩, (List.mem_of_getElem? (i := 817) (by decide +kernel)), (List.mem_of_getElem? (i := 818) (by decide +kernel))⟩
theorem mk_X5_weighSets : MkV yX5_weighSets cX5_weighSets 7 none 1 := ⟨⟨(List.mem_of_getElem? (i := 824) (by decide +kernel)), (List.mem_of_getElem? (i := 73) (by decide +kernel)), by decide, by decide, by decide +kernel⟩, (List.mem_of_getElem? (i := 823) (by decide +kernel)), (List.mem_of_getElem? (i := 23) (by decide +kernel))⟩
theorem mk_X5_rankNobodyBehind : MkV yX5_rankNobodyBehind cX5_rankNobodyBehind 3 none 1 := ⟨⟨(List.mem_of_getElem? (i := 828) (by decide +kernel)), (List.mem_of_getElem? (i := 73) (by decide +kernel)), by decide, by decide, by decide +kernel⟩, (List.mem_of_getElem? (i := 827) (by decide +kernel)), (List.mem_of_getElem? (i := 24) (by decide +kernel))⟩
theorem mk_X5_rankWith : MkV yX5_rankWith cX5_rankWith 5 none 2 := ⟨⟨(List.mem_of_getElem? (i := 832) (by decide +kernel)), (List.mem_of_getElem? (i := 73) (by decide +kernel)), by decide, by decide, by decide +kernel⟩, (List.mem_of_getElem? (i := 831) (by decide +kernel)), (List.mem_of_getElem? (i := 25) (by decide +kernel))⟩
theorem mk_X5_rankWithSet : MkV yX5_rankWithSet cX5_rankWithSet 9 none 3 := ⟨⟨(List.mem_of_getElem? (i := 841) (by decide +kernel)), (List.mem_of_getElem? (i := 73) (by decide +kernel)), by decide, by decide, by decide +kernel⟩, (List.mem_of_getElem? (i := 840) (by decide +kernel)), (List.mem_of_getElem? (i := 27) (by decide +kernel))⟩
theorem mk_X5_leastOfBest : MkV yX5_leastOfBest cX5_leastOfBest 8 (some .int) 2 := ⟨⟨(List.mem_of_getElem? (i := 851) (by decide +kernel)), (List.mem_of_getElem? (i := 73) (by decide +kernel)), by decide, by decide, by decide +kernel⟩, (List.mem_of_getElem? (i := 850) (by decide +kernel)), (List.mem_of_getElem? (i := 29) (by decide +kernel))⟩
theorem mk_X5_isJustEnough : MkV yX5_isJustEnough cX5_isJustEnough 3 (some .boolean) 2 := ⟨⟨(List.mem_of_getElem? (i := 837) (by decide +kernel)), (List.mem_of_getElem? (i := 73) (by decide +kernel)), by decide, by decide, by decide +kernel⟩, (List.mem_of_getElem? (i := 836) (by decide +kernel)), (List.mem_of_getElem? (i := 26) (by decide +kernel))⟩
theorem mk_X5_keyOf : MkV yX5_keyOf cX5_keyOf 3 (some .int) 2 := ⟨⟨(List.mem_of_getElem? (i := 845) (by decide +kernel)), (List.mem_of_getElem? (i := 73) (by decide +kernel)), by decide, by decide, by decide +kernel⟩, (List.mem_of_getElem? (i := 844) (by decide +kernel)), (List.mem_of_getElem? (i := 28) (by decide +kernel))⟩
theorem mk_X6_init : MkI yX6_init cX6_init 1 0 := ⟨⟨(List.mem_of_getElem? (i := 284) (by decide +kernel)), (List.mem_of_getElem? (i := 64) (by decide +kernel)), by decide, by decide, by decide +kernel⟩, rfl, (List.mem_of_getElem? (i := 283) (by decide +kernel))⟩
theorem mk_X6_clear : MkV yX6_clear cX6_clear 1 none 0 := ⟨⟨(List.mem_of_getElem? (i := 568) (by decide +kernel)), (List.mem_of_getElem? (i := 64) (by decide +kernel)), by decide, by decide, by decide +kernel⟩, (List.mem_of_getElem? (i := 566) (by decide +kernel)), (List.mem_of_getElem? (i := 567) (by decide +kernel))⟩
theorem mk_X6_isFull : MkV yX6_isFull cX6_isFull 1 (some .boolean) 0 := ⟨⟨(List.mem_of_getElem? (i := 580) (by decide +kernel)), (List.mem_of_getElem? (i := 64) (by decide +kernel)), by decide, by decide, by decide +kernel⟩, (List.mem_of_getElem? (i := 578) (by decide +kernel)), (List.mem_of_getElem? (i := 579) (by decide +kernel))⟩
theorem mk_X6_beginGive : MkV yX6_beginGive cX6_beginGive 1 none 0 := ⟨⟨(List.mem_of_getElem? (i := 592) (by decide +kernel)), (List.mem_of_getElem? (i := 64) (by decide +kernel)), by decide, by decide, by decide +kernel⟩, (List.mem_of_getElem? (i := 590) (by decide +kernel)), (List.mem_of_getElem? (i := 591) (by decide +kernel))⟩
theorem mk_X6_beginWhen : MkV yX6_beginWhen cX6_beginWhen 1 none 0 := ⟨⟨(List.mem_of_getElem? (i := 640) (by decide +kernel)), (List.mem_of_getElem? (i := 64) (by decide +kernel)), by decide, by decide, by decide +kernel⟩, (List.mem_of_getElem? (i := 638) (by decide +kernel)), (List.mem_of_getElem? (i := 639) (by decide +kernel))⟩
theorem mk_X6_endRule : MkV yX6_endRule cX6_endRule 1 none 0 := ⟨⟨(List.mem_of_getElem? (i := 651) (by decide +kernel)), (List.mem_of_getElem? (i := 64) (by decide +kernel)), by decide, by decide, by decide +kernel⟩, (List.mem_of_getElem? (i := 649) (by decide +kernel)), (List.mem_of_getElem? (i := 650) (by decide +kernel))⟩
theorem mk_X6_write : MkV yX6_write cX6_write 2 none 1 := ⟨⟨(List.mem_of_getElem? (i := 624) (by decide +kernel)), (List.mem_of_getElem? (i := 64) (by decide +kernel)), by decide, by decide, by decide +kernel⟩, (List.mem_of_getElem? (i := 622) (by decide +kernel)), (List.mem_of_getElem? (i := 623) (by decide +kernel))⟩
theorem mk_X6_factAt : MkS yX6_factAt cX6_factAt 1 (some .int) 1 := ⟨⟨(List.mem_of_getElem? (i := 705) (by decide +kernel)), (List.mem_of_getElem? (i := 64) (by decide +kernel)), by decide, by decide, by decide +kernel⟩, (List.mem_of_getElem? (i := 704) (by decide +kernel))⟩
theorem mk_X6_ruleFor : MkV yX6_ruleFor cX6_ruleFor 3 (some .int) 1 := ⟨⟨(List.mem_of_getElem? (i := 710) (by decide +kernel)), (List.mem_of_getElem? (i := 64) (by decide +kernel)), by decide, by decide, by decide +kernel⟩, (List.mem_of_getElem? (i := 708) (by decide +kernel)), (List.mem_of_getElem? (i := 709) (by decide +kernel))⟩
theorem mk_X6_dueBy : MkV yX6_dueBy cX6_dueBy 4 (some .int) 2 := ⟨⟨(List.mem_of_getElem? (i := 732) (by decide +kernel)), (List.mem_of_getElem? (i := 64) (by decide +kernel)), by decide, by decide, by decide +kernel⟩, (List.mem_of_getElem? (i := 730) (by decide +kernel)), (List.mem_of_getElem? (i := 731) (by decide +kernel))⟩
theorem mk_X6_run : MkV yX6_run cX6_run 8 (some .int) 3 := ⟨⟨(List.mem_of_getElem? (i := 714) (by decide +kernel)), (List.mem_of_getElem? (i := 64) (by decide +kernel)), by decide, by decide, by decide +kernel⟩, (List.mem_of_getElem? (i := 713) (by decide +kernel)), (List.mem_of_getElem? (i := 13) (by decide +kernel))⟩
theorem mk_X6_join : MkS yX6_join cX6_join 3 (some .int) 3 := ⟨⟨(List.mem_of_getElem? (i := 728) (by decide +kernel)), (List.mem_of_getElem? (i := 64) (by decide +kernel)), by decide, by decide, by decide +kernel⟩, (List.mem_of_getElem? (i := 727) (by decide +kernel))⟩
theorem mk_X6_push : MkV yX6_push cX6_push 2 none 1 := ⟨⟨(List.mem_of_getElem? (i := 720) (by decide +kernel)), (List.mem_of_getElem? (i := 64) (by decide +kernel)), by decide, by decide, by decide +kernel⟩, (List.mem_of_getElem? (i := 719) (by decide +kernel)), (List.mem_of_getElem? (i := 14) (by decide +kernel))⟩
theorem mk_X6_pop : MkV yX6_pop cX6_pop 1 (some .int) 0 := ⟨⟨(List.mem_of_getElem? (i := 725) (by decide +kernel)), (List.mem_of_getElem? (i := 64) (by decide +kernel)), by decide, by decide, by decide +kernel⟩, (List.mem_of_getElem? (i := 724) (by decide +kernel)), (List.mem_of_getElem? (i := 15) (by decide +kernel))⟩
theorem mk_X7_init : MkI yX7_init cX7_init 1 0 := ⟨⟨(List.mem_of_getElem? (i := 238) (by decide +kernel)), (List.mem_of_getElem? (i := 62) (by decide +kernel)), by decide, by decide, by decide +kernel⟩, rfl, (List.mem_of_getElem? (i := 237) (by decide +kernel))⟩
theorem mk_X7_read : MkV yX7_read cX7_read 4 (some .boolean) 2 := ⟨⟨(List.mem_of_getElem? (i := 471) (by decide +kernel)), (List.mem_of_getElem? (i := 62) (by decide +kernel)), by decide, by decide, by decide +kernel⟩, (List.mem_of_getElem? (i := 469) (by decide +kernel)), (List.mem_of_getElem? (i := 470) (by decide +kernel))⟩
theorem mk_X7_fail : MkV yX7_fail cX7_fail 2 (some .boolean) 1 := ⟨⟨(List.mem_of_getElem? (i := 584) (by decide +kernel)), (List.mem_of_getElem? (i := 62) (by decide +kernel)), by decide, by decide, by decide +kernel⟩, (List.mem_of_getElem? (i := 583) (by decide +kernel)), (List.mem_of_getElem? (i := 4) (by decide +kernel))⟩
theorem mk_X7_expect : MkV yX7_expect cX7_expect 2 (some .boolean) 1 := ⟨⟨(List.mem_of_getElem? (i := 597) (by decide +kernel)), (List.mem_of_getElem? (i := 62) (by decide +kernel)), by decide, by decide, by decide +kernel⟩, (List.mem_of_getElem? (i := 596) (by decide +kernel)), (List.mem_of_getElem? (i := 5) (by decide +kernel))⟩
theorem mk_X7_readRule : MkV yX7_readRule cX7_readRule 2 (some .boolean) 1 := ⟨⟨(List.mem_of_getElem? (i := 576) (by decide +kernel)), (List.mem_of_getElem? (i := 62) (by decide +kernel)), by decide, by decide, by decide +kernel⟩, (List.mem_of_getElem? (i := 575) (by decide +kernel)), (List.mem_of_getElem? (i := 3) (by decide +kernel))⟩
theorem mk_X7_readConditions : MkV yX7_readConditions cX7_readConditions 4 (some .boolean) 1 := ⟨⟨(List.mem_of_getElem? (i := 644) (by decide +kernel)), (List.mem_of_getElem? (i := 62) (by decide +kernel)), by decide, by decide, by decide +kernel⟩, (List.mem_of_getElem? (i := 643) (by decide +kernel)), (List.mem_of_getElem? (i := 11) (by decide +kernel))⟩
theorem mk_X7_readSum : MkV yX7_readSum cX7_readSum 5 (some .boolean) 1 := ⟨⟨(List.mem_of_getElem? (i := 605) (by decide +kernel)), (List.mem_of_getElem? (i := 62) (by decide +kernel)), by decide, by decide, by decide +kernel⟩, (List.mem_of_getElem? (i := 604) (by decide +kernel)), (List.mem_of_getElem? (i := 6) (by decide +kernel))⟩
theorem mk_X7_readUnit : MkV yX7_readUnit cX7_readUnit 3 (some .boolean) 1 := ⟨⟨(List.mem_of_getElem? (i := 609) (by decide +kernel)), (List.mem_of_getElem? (i := 62) (by decide +kernel)), by decide, by decide, by decide +kernel⟩, (List.mem_of_getElem? (i := 608) (by decide +kernel)), (List.mem_of_getElem? (i := 7) (by decide +kernel))⟩
theorem mk_X7_readBehindUnit : MkV yX7_readBehindUnit cX7_readBehindUnit 6 (some .boolean) 1 := ⟨⟨(List.mem_of_getElem? (i := 628) (by decide +kernel)), (List.mem_of_getElem? (i := 62) (by decide +kernel)), by decide, by decide, by decide +kernel⟩, (List.mem_of_getElem? (i := 627) (by decide +kernel)), (List.mem_of_getElem? (i := 9) (by decide +kernel))⟩
theorem mk_X7_putToWait : MkV yX7_putToWait cX7_putToWait 2 none 1 := ⟨⟨(List.mem_of_getElem? (i := 613) (by decide +kernel)), (List.mem_of_getElem? (i := 62) (by decide +kernel)), by decide, by decide, by decide +kernel⟩, (List.mem_of_getElem? (i := 612) (by decide +kernel)), (List.mem_of_getElem? (i := 8) (by decide +kernel))⟩
theorem mk_X7_writeWaiting : MkV yX7_writeWaiting cX7_writeWaiting 3 none 2 := ⟨⟨(List.mem_of_getElem? (i := 632) (by decide +kernel)), (List.mem_of_getElem? (i := 62) (by decide +kernel)), by decide, by decide, by decide +kernel⟩, (List.mem_of_getElem? (i := 631) (by decide +kernel)), (List.mem_of_getElem? (i := 10) (by decide +kernel))⟩
theorem mk_X8_init : MkI yX8_init cX8_init 1 0 := ⟨⟨(List.mem_of_getElem? (i := 223) (by decide +kernel)), (List.mem_of_getElem? (i := 61) (by decide +kernel)), by decide, by decide, by decide +kernel⟩, rfl, (List.mem_of_getElem? (i := 222) (by decide +kernel))⟩
theorem mk_X8_append : MkV yX8_append cX8_append 3 none 1 := ⟨⟨(List.mem_of_getElem? (i := 455) (by decide +kernel)), (List.mem_of_getElem? (i := 61) (by decide +kernel)), by decide, by decide, by decide +kernel⟩, (List.mem_of_getElem? (i := 453) (by decide +kernel)), (List.mem_of_getElem? (i := 454) (by decide +kernel))⟩
theorem mk_X8_cutTo : MkV yX8_cutTo cX8_cutTo 2 (some .boolean) 1 := ⟨⟨(List.mem_of_getElem? (i := 463) (by decide +kernel)), (List.mem_of_getElem? (i := 61) (by decide +kernel)), by decide, by decide, by decide +kernel⟩, (List.mem_of_getElem? (i := 461) (by decide +kernel)), (List.mem_of_getElem? (i := 462) (by decide +kernel))⟩
theorem mk_X8_byteAt : MkV yX8_byteAt cX8_byteAt 2 (some .int) 1 := ⟨⟨(List.mem_of_getElem? (i := 479) (by decide +kernel)), (List.mem_of_getElem? (i := 61) (by decide +kernel)), by decide, by decide, by decide +kernel⟩, (List.mem_of_getElem? (i := 477) (by decide +kernel)), (List.mem_of_getElem? (i := 478) (by decide +kernel))⟩
theorem mk_X8_spells : MkV yX8_spells cX8_spells 5 (some .boolean) 3 := ⟨⟨(List.mem_of_getElem? (i := 495) (by decide +kernel)), (List.mem_of_getElem? (i := 61) (by decide +kernel)), by decide, by decide, by decide +kernel⟩, (List.mem_of_getElem? (i := 493) (by decide +kernel)), (List.mem_of_getElem? (i := 494) (by decide +kernel))⟩
theorem mk_X9_init : MkI yX9_init cX9_init 1 0 := ⟨⟨(List.mem_of_getElem? (i := 244) (by decide +kernel)), (List.mem_of_getElem? (i := 63) (by decide +kernel)), by decide, by decide, by decide +kernel⟩, rfl, (List.mem_of_getElem? (i := 243) (by decide +kernel))⟩
theorem mk_X9_cut : MkV yX9_cut cX9_cut 5 none 1 := ⟨⟨(List.mem_of_getElem? (i := 475) (by decide +kernel)), (List.mem_of_getElem? (i := 63) (by decide +kernel)), by decide, by decide, by decide +kernel⟩, (List.mem_of_getElem? (i := 473) (by decide +kernel)), (List.mem_of_getElem? (i := 474) (by decide +kernel))⟩
theorem mk_X9_code : MkV yX9_code cX9_code 1 (some .int) 0 := ⟨⟨(List.mem_of_getElem? (i := 572) (by decide +kernel)), (List.mem_of_getElem? (i := 63) (by decide +kernel)), by decide, by decide, by decide +kernel⟩, (List.mem_of_getElem? (i := 570) (by decide +kernel)), (List.mem_of_getElem? (i := 571) (by decide +kernel))⟩
theorem mk_X9_place : MkV yX9_place cX9_place 1 (some .int) 0 := ⟨⟨(List.mem_of_getElem? (i := 588) (by decide +kernel)), (List.mem_of_getElem? (i := 63) (by decide +kernel)), by decide, by decide, by decide +kernel⟩, (List.mem_of_getElem? (i := 586) (by decide +kernel)), (List.mem_of_getElem? (i := 587) (by decide +kernel))⟩
theorem mk_X9_advance : MkV yX9_advance cX9_advance 1 none 0 := ⟨⟨(List.mem_of_getElem? (i := 601) (by decide +kernel)), (List.mem_of_getElem? (i := 63) (by decide +kernel)), by decide, by decide, by decide +kernel⟩, (List.mem_of_getElem? (i := 599) (by decide +kernel)), (List.mem_of_getElem? (i := 600) (by decide +kernel))⟩
theorem mk_X9_add : MkV yX9_add cX9_add 3 none 2 := ⟨⟨(List.mem_of_getElem? (i := 554) (by decide +kernel)), (List.mem_of_getElem? (i := 63) (by decide +kernel)), by decide, by decide, by decide +kernel⟩, (List.mem_of_getElem? (i := 553) (by decide +kernel)), (List.mem_of_getElem? (i := 1) (by decide +kernel))⟩
theorem mk_X9_isLetter : MkS yX9_isLetter cX9_isLetter 1 (some .boolean) 1 := ⟨⟨(List.mem_of_getElem? (i := 482) (by decide +kernel)), (List.mem_of_getElem? (i := 63) (by decide +kernel)), by decide, by decide, by decide +kernel⟩, (List.mem_of_getElem? (i := 481) (by decide +kernel))⟩
theorem mk_X9_isDigit : MkS yX9_isDigit cX9_isDigit 1 (some .boolean) 1 := ⟨⟨(List.mem_of_getElem? (i := 557) (by decide +kernel)), (List.mem_of_getElem? (i := 63) (by decide +kernel)), by decide, by decide, by decide +kernel⟩, (List.mem_of_getElem? (i := 556) (by decide +kernel))⟩
theorem mk_X9_cutWord : MkV yX9_cutWord cX9_cutWord 4 (some .int) 2 := ⟨⟨(List.mem_of_getElem? (i := 487) (by decide +kernel)), (List.mem_of_getElem? (i := 63) (by decide +kernel)), by decide, by decide, by decide +kernel⟩, (List.mem_of_getElem? (i := 486) (by decide +kernel)), (List.mem_of_getElem? (i := 0) (by decide +kernel))⟩
theorem mk_X9_cutNumber : MkV yX9_cutNumber cX9_cutNumber 5 (some .int) 2 := ⟨⟨(List.mem_of_getElem? (i := 561) (by decide +kernel)), (List.mem_of_getElem? (i := 63) (by decide +kernel)), by decide, by decide, by decide +kernel⟩, (List.mem_of_getElem? (i := 560) (by decide +kernel)), (List.mem_of_getElem? (i := 2) (by decide +kernel))⟩
theorem mk_X10_init : MkI yX10_init cX10_init 1 0 := ⟨⟨(List.mem_of_getElem? (i := 156) (by decide +kernel)), (List.mem_of_getElem? (i := 59) (by decide +kernel)), by decide, by decide, by decide +kernel⟩, rfl, (List.mem_of_getElem? (i := 155) (by decide +kernel))⟩
theorem mk_X10_addSite : MkV yX10_addSite cX10_addSite 5 (some .int) 2 := ⟨⟨(List.mem_of_getElem? (i := 419) (by decide +kernel)), (List.mem_of_getElem? (i := 59) (by decide +kernel)), by decide, by decide, by decide +kernel⟩, (List.mem_of_getElem? (i := 417) (by decide +kernel)), (List.mem_of_getElem? (i := 418) (by decide +kernel))⟩
theorem mk_X10_setTies : MkV yX10_setTies cX10_setTies 4 (some .boolean) 3 := ⟨⟨(List.mem_of_getElem? (i := 410) (by decide +kernel)), (List.mem_of_getElem? (i := 59) (by decide +kernel)), by decide, by decide, by decide +kernel⟩, (List.mem_of_getElem? (i := 408) (by decide +kernel)), (List.mem_of_getElem? (i := 409) (by decide +kernel))⟩
theorem mk_X10_find : MkV yX10_find cX10_find 2 none 1 := ⟨⟨(List.mem_of_getElem? (i := 744) (by decide +kernel)), (List.mem_of_getElem? (i := 59) (by decide +kernel)), by decide, by decide, by decide +kernel⟩, (List.mem_of_getElem? (i := 742) (by decide +kernel)), (List.mem_of_getElem? (i := 743) (by decide +kernel))⟩
theorem mk_X10_boundAmong : MkV yX10_boundAmong cX10_boundAmong 5 none 0 := ⟨⟨(List.mem_of_getElem? (i := 748) (by decide +kernel)), (List.mem_of_getElem? (i := 59) (by decide +kernel)), by decide, by decide, by decide +kernel⟩, (List.mem_of_getElem? (i := 747) (by decide +kernel)), (List.mem_of_getElem? (i := 16) (by decide +kernel))⟩
theorem mk_X10_placeFrom : MkV yX10_placeFrom cX10_placeFrom 4 none 2 := ⟨⟨(List.mem_of_getElem? (i := 752) (by decide +kernel)), (List.mem_of_getElem? (i := 59) (by decide +kernel)), by decide, by decide, by decide +kernel⟩, (List.mem_of_getElem? (i := 751) (by decide +kernel)), (List.mem_of_getElem? (i := 17) (by decide +kernel))⟩
theorem mk_X10_placeAt : MkV yX10_placeAt cX10_placeAt 5 none 3 := ⟨⟨(List.mem_of_getElem? (i := 763) (by decide +kernel)), (List.mem_of_getElem? (i := 59) (by decide +kernel)), by decide, by decide, by decide +kernel⟩, (List.mem_of_getElem? (i := 762) (by decide +kernel)), (List.mem_of_getElem? (i := 19) (by decide +kernel))⟩
theorem mk_X10_drawBehind : MkV yX10_drawBehind cX10_drawBehind 5 (some .int) 2 := ⟨⟨(List.mem_of_getElem? (i := 767) (by decide +kernel)), (List.mem_of_getElem? (i := 59) (by decide +kernel)), by decide, by decide, by decide +kernel⟩, (List.mem_of_getElem? (i := 766) (by decide +kernel)), (List.mem_of_getElem? (i := 20) (by decide +kernel))⟩
theorem mk_X10_drawOne : MkV yX10_drawOne cX10_drawOne 9 (some .int) 3 := ⟨⟨(List.mem_of_getElem? (i := 771) (by decide +kernel)), (List.mem_of_getElem? (i := 59) (by decide +kernel)), by decide, by decide, by decide +kernel⟩, (List.mem_of_getElem? (i := 770) (by decide +kernel)), (List.mem_of_getElem? (i := 21) (by decide +kernel))⟩
theorem mk_X10_keep : MkV yX10_keep cX10_keep 2 none 1 := ⟨⟨(List.mem_of_getElem? (i := 756) (by decide +kernel)), (List.mem_of_getElem? (i := 59) (by decide +kernel)), by decide, by decide, by decide +kernel⟩, (List.mem_of_getElem? (i := 755) (by decide +kernel)), (List.mem_of_getElem? (i := 18) (by decide +kernel))⟩
theorem mk_X11_init : MkI yX11_init cX11_init 1 0 := ⟨⟨(List.mem_of_getElem? (i := 79) (by decide +kernel)), (List.mem_of_getElem? (i := 55) (by decide +kernel)), by decide, by decide, by decide +kernel⟩, rfl, (List.mem_of_getElem? (i := 78) (by decide +kernel))⟩
theorem mk_X11_water : MkV yX11_water cX11_water 3 (some .boolean) 2 := ⟨⟨(List.mem_of_getElem? (i := 352) (by decide +kernel)), (List.mem_of_getElem? (i := 55) (by decide +kernel)), by decide, by decide, by decide +kernel⟩, (List.mem_of_getElem? (i := 350) (by decide +kernel)), (List.mem_of_getElem? (i := 351) (by decide +kernel))⟩
theorem mk_X11_village : MkV yX11_village cX11_village 3 (some .boolean) 2 := ⟨⟨(List.mem_of_getElem? (i := 363) (by decide +kernel)), (List.mem_of_getElem? (i := 55) (by decide +kernel)), by decide, by decide, by decide +kernel⟩, (List.mem_of_getElem? (i := 361) (by decide +kernel)), (List.mem_of_getElem? (i := 362) (by decide +kernel))⟩
theorem mk_X11_drowned : MkV yX11_drowned cX11_drowned 2 (some .int) 1 := ⟨⟨(List.mem_of_getElem? (i := 371) (by decide +kernel)), (List.mem_of_getElem? (i := 55) (by decide +kernel)), by decide, by decide, by decide +kernel⟩, (List.mem_of_getElem? (i := 369) (by decide +kernel)), (List.mem_of_getElem? (i := 370) (by decide +kernel))⟩
theorem mk_X11_household : MkV yX11_household cX11_household 7 (some .int) 5 := ⟨⟨(List.mem_of_getElem? (i := 379) (by decide +kernel)), (List.mem_of_getElem? (i := 55) (by decide +kernel)), by decide, by decide, by decide +kernel⟩, (List.mem_of_getElem? (i := 377) (by decide +kernel)), (List.mem_of_getElem? (i := 378) (by decide +kernel))⟩
theorem mk_X11_papers : MkV yX11_papers cX11_papers 3 (some .boolean) 1 := ⟨⟨(List.mem_of_getElem? (i := 393) (by decide +kernel)), (List.mem_of_getElem? (i := 55) (by decide +kernel)), by decide, by decide, by decide +kernel⟩, (List.mem_of_getElem? (i := 391) (by decide +kernel)), (List.mem_of_getElem? (i := 392) (by decide +kernel))⟩
theorem mk_X11_tie : MkV yX11_tie cX11_tie 5 (some .boolean) 3 := ⟨⟨(List.mem_of_getElem? (i := 405) (by decide +kernel)), (List.mem_of_getElem? (i := 55) (by decide +kernel)), by decide, by decide, by decide +kernel⟩, (List.mem_of_getElem? (i := 403) (by decide +kernel)), (List.mem_of_getElem? (i := 404) (by decide +kernel))⟩
theorem mk_X11_site : MkV yX11_site cX11_site 4 (some .int) 2 := ⟨⟨(List.mem_of_getElem? (i := 415) (by decide +kernel)), (List.mem_of_getElem? (i := 55) (by decide +kernel)), by decide, by decide, by decide +kernel⟩, (List.mem_of_getElem? (i := 413) (by decide +kernel)), (List.mem_of_getElem? (i := 414) (by decide +kernel))⟩
theorem mk_X11_field : MkV yX11_field cX11_field 2 (some .int) 1 := ⟨⟨(List.mem_of_getElem? (i := 429) (by decide +kernel)), (List.mem_of_getElem? (i := 55) (by decide +kernel)), by decide, by decide, by decide +kernel⟩, (List.mem_of_getElem? (i := 427) (by decide +kernel)), (List.mem_of_getElem? (i := 428) (by decide +kernel))⟩
theorem mk_X11_builders : MkV yX11_builders cX11_builders 3 (some .boolean) 2 := ⟨⟨(List.mem_of_getElem? (i := 442) (by decide +kernel)), (List.mem_of_getElem? (i := 55) (by decide +kernel)), by decide, by decide, by decide +kernel⟩, (List.mem_of_getElem? (i := 440) (by decide +kernel)), (List.mem_of_getElem? (i := 441) (by decide +kernel))⟩
theorem mk_X11_feed : MkV yX11_feed cX11_feed 6 (some .int) 5 := ⟨⟨(List.mem_of_getElem? (i := 451) (by decide +kernel)), (List.mem_of_getElem? (i := 55) (by decide +kernel)), by decide, by decide, by decide +kernel⟩, (List.mem_of_getElem? (i := 449) (by decide +kernel)), (List.mem_of_getElem? (i := 450) (by decide +kernel))⟩
theorem mk_X11_end : MkV yX11_end cX11_end 2 (some .boolean) 1 := ⟨⟨(List.mem_of_getElem? (i := 459) (by decide +kernel)), (List.mem_of_getElem? (i := 55) (by decide +kernel)), by decide, by decide, by decide +kernel⟩, (List.mem_of_getElem? (i := 457) (by decide +kernel)), (List.mem_of_getElem? (i := 458) (by decide +kernel))⟩
theorem mk_X11_rules : MkV yX11_rules cX11_rules 3 (some .int) 0 := ⟨⟨(List.mem_of_getElem? (i := 467) (by decide +kernel)), (List.mem_of_getElem? (i := 55) (by decide +kernel)), by decide, by decide, by decide +kernel⟩, (List.mem_of_getElem? (i := 465) (by decide +kernel)), (List.mem_of_getElem? (i := 466) (by decide +kernel))⟩
theorem mk_X11_fault : MkV yX11_fault cX11_fault 2 (some .int) 1 := ⟨⟨(List.mem_of_getElem? (i := 656) (by decide +kernel)), (List.mem_of_getElem? (i := 55) (by decide +kernel)), by decide, by decide, by decide +kernel⟩, (List.mem_of_getElem? (i := 654) (by decide +kernel)), (List.mem_of_getElem? (i := 655) (by decide +kernel))⟩
theorem mk_X11_look : MkV yX11_look cX11_look 2 (some .int) 1 := ⟨⟨(List.mem_of_getElem? (i := 660) (by decide +kernel)), (List.mem_of_getElem? (i := 55) (by decide +kernel)), by decide, by decide, by decide +kernel⟩, (List.mem_of_getElem? (i := 658) (by decide +kernel)), (List.mem_of_getElem? (i := 659) (by decide +kernel))⟩
theorem mk_X11_of : MkV yX11_of cX11_of 3 (some .int) 2 := ⟨⟨(List.mem_of_getElem? (i := 694) (by decide +kernel)), (List.mem_of_getElem? (i := 55) (by decide +kernel)), by decide, by decide, by decide +kernel⟩, (List.mem_of_getElem? (i := 692) (by decide +kernel)), (List.mem_of_getElem? (i := 693) (by decide +kernel))⟩
theorem mk_X11_best : MkV yX11_best cX11_best 3 (some .int) 1 := ⟨⟨(List.mem_of_getElem? (i := 740) (by decide +kernel)), (List.mem_of_getElem? (i := 55) (by decide +kernel)), by decide, by decide, by decide +kernel⟩, (List.mem_of_getElem? (i := 738) (by decide +kernel)), (List.mem_of_getElem? (i := 739) (by decide +kernel))⟩
theorem mk_X11_part : MkV yX11_part cX11_part 4 (some .int) 1 := ⟨⟨(List.mem_of_getElem? (i := 775) (by decide +kernel)), (List.mem_of_getElem? (i := 55) (by decide +kernel)), by decide, by decide, by decide +kernel⟩, (List.mem_of_getElem? (i := 773) (by decide +kernel)), (List.mem_of_getElem? (i := 774) (by decide +kernel))⟩
theorem mk_X11_months : MkV yX11_months cX11_months 2 (some .int) 1 := ⟨⟨(List.mem_of_getElem? (i := 861) (by decide +kernel)), (List.mem_of_getElem? (i := 55) (by decide +kernel)), by decide, by decide, by decide +kernel⟩, (List.mem_of_getElem? (i := 859) (by decide +kernel)), (List.mem_of_getElem? (i := 860) (by decide +kernel))⟩
theorem mk_X11_isWithin : MkS yX11_isWithin cX11_isWithin 3 (some .boolean) 3 := ⟨⟨(List.mem_of_getElem? (i := 359) (by decide +kernel)), (List.mem_of_getElem? (i := 55) (by decide +kernel)), by decide, by decide, by decide +kernel⟩, (List.mem_of_getElem? (i := 358) (by decide +kernel))⟩
theorem mk_X11_dueOf : MkV yX11_dueOf cX11_dueOf 3 (some .int) 1 := ⟨⟨(List.mem_of_getElem? (i := 698) (by decide +kernel)), (List.mem_of_getElem? (i := 55) (by decide +kernel)), by decide, by decide, by decide +kernel⟩, (List.mem_of_getElem? (i := 697) (by decide +kernel)), (List.mem_of_getElem? (i := 12) (by decide +kernel))⟩
theorem mk_X11_findPartings : MkV yX11_findPartings cX11_findPartings 3 (some (.object "NewValley$Partings")) 0 := ⟨⟨(List.mem_of_getElem? (i := 779) (by decide +kernel)), (List.mem_of_getElem? (i := 55) (by decide +kernel)), by decide, by decide, by decide +kernel⟩, (List.mem_of_getElem? (i := 778) (by decide +kernel)), (List.mem_of_getElem? (i := 22) (by decide +kernel))⟩
theorem mk_X12_init : MkI yX12_init cX12_init 2 0 := ⟨⟨(List.mem_of_getElem? (i := 870) (by decide +kernel)), (List.mem_of_getElem? (i := 65) (by decide +kernel)), by decide, by decide, by decide +kernel⟩, rfl, (List.mem_of_getElem? (i := 869) (by decide +kernel))⟩
theorem mk_X12_isIn : MkS yX12_isIn cX12_isIn 3 (some .boolean) 3 := ⟨⟨(List.mem_of_getElem? (i := 1029) (by decide +kernel)), (List.mem_of_getElem? (i := 65) (by decide +kernel)), by decide, by decide, by decide +kernel⟩, (List.mem_of_getElem? (i := 1028) (by decide +kernel))⟩
theorem mk_X12_isVillage : MkS yX12_isVillage cX12_isVillage 1 (some .boolean) 1 := ⟨⟨(List.mem_of_getElem? (i := 1036) (by decide +kernel)), (List.mem_of_getElem? (i := 65) (by decide +kernel)), by decide, by decide, by decide +kernel⟩, (List.mem_of_getElem? (i := 1035) (by decide +kernel))⟩
theorem mk_X12_isHousehold : MkV yX12_isHousehold cX12_isHousehold 2 (some .boolean) 1 := ⟨⟨(List.mem_of_getElem? (i := 1056) (by decide +kernel)), (List.mem_of_getElem? (i := 65) (by decide +kernel)), by decide, by decide, by decide +kernel⟩, (List.mem_of_getElem? (i := 1055) (by decide +kernel)), (List.mem_of_getElem? (i := 31) (by decide +kernel))⟩
theorem mk_X12_water : MkV yX12_water cX12_water 3 (some .boolean) 2 := ⟨⟨(List.mem_of_getElem? (i := 1026) (by decide +kernel)), (List.mem_of_getElem? (i := 65) (by decide +kernel)), by decide, by decide, by decide +kernel⟩, (List.mem_of_getElem? (i := 1024) (by decide +kernel)), (List.mem_of_getElem? (i := 1025) (by decide +kernel))⟩
theorem mk_X12_village : MkV yX12_village cX12_village 3 (some .boolean) 2 := ⟨⟨(List.mem_of_getElem? (i := 1033) (by decide +kernel)), (List.mem_of_getElem? (i := 65) (by decide +kernel)), by decide, by decide, by decide +kernel⟩, (List.mem_of_getElem? (i := 1031) (by decide +kernel)), (List.mem_of_getElem? (i := 1032) (by decide +kernel))⟩
theorem mk_X12_drownedIn : MkV yX12_drownedIn cX12_drownedIn 3 (some .int) 1 := ⟨⟨(List.mem_of_getElem? (i := 1044) (by decide +kernel)), (List.mem_of_getElem? (i := 65) (by decide +kernel)), by decide, by decide, by decide +kernel⟩, (List.mem_of_getElem? (i := 1043) (by decide +kernel)), (List.mem_of_getElem? (i := 30) (by decide +kernel))⟩
theorem mk_X12_drowned : MkV yX12_drowned cX12_drowned 2 (some .int) 1 := ⟨⟨(List.mem_of_getElem? (i := 1040) (by decide +kernel)), (List.mem_of_getElem? (i := 65) (by decide +kernel)), by decide, by decide, by decide +kernel⟩, (List.mem_of_getElem? (i := 1038) (by decide +kernel)), (List.mem_of_getElem? (i := 1039) (by decide +kernel))⟩
theorem mk_X12_household : MkV yX12_household cX12_household 7 (some .int) 5 := ⟨⟨(List.mem_of_getElem? (i := 1048) (by decide +kernel)), (List.mem_of_getElem? (i := 65) (by decide +kernel)), by decide, by decide, by decide +kernel⟩, (List.mem_of_getElem? (i := 1046) (by decide +kernel)), (List.mem_of_getElem? (i := 1047) (by decide +kernel))⟩
theorem mk_X12_papers : MkV yX12_papers cX12_papers 2 (some .boolean) 1 := ⟨⟨(List.mem_of_getElem? (i := 1052) (by decide +kernel)), (List.mem_of_getElem? (i := 65) (by decide +kernel)), by decide, by decide, by decide +kernel⟩, (List.mem_of_getElem? (i := 1050) (by decide +kernel)), (List.mem_of_getElem? (i := 1051) (by decide +kernel))⟩
theorem mk_X12_tie : MkV yX12_tie cX12_tie 4 (some .boolean) 3 := ⟨⟨(List.mem_of_getElem? (i := 1060) (by decide +kernel)), (List.mem_of_getElem? (i := 65) (by decide +kernel)), by decide, by decide, by decide +kernel⟩, (List.mem_of_getElem? (i := 1058) (by decide +kernel)), (List.mem_of_getElem? (i := 1059) (by decide +kernel))⟩
theorem mk_X12_site : MkV yX12_site cX12_site 3 (some .int) 2 := ⟨⟨(List.mem_of_getElem? (i := 1064) (by decide +kernel)), (List.mem_of_getElem? (i := 65) (by decide +kernel)), by decide, by decide, by decide +kernel⟩, (List.mem_of_getElem? (i := 1062) (by decide +kernel)), (List.mem_of_getElem? (i := 1063) (by decide +kernel))⟩
theorem mk_X12_field : MkV yX12_field cX12_field 2 (some .int) 1 := ⟨⟨(List.mem_of_getElem? (i := 1068) (by decide +kernel)), (List.mem_of_getElem? (i := 65) (by decide +kernel)), by decide, by decide, by decide +kernel⟩, (List.mem_of_getElem? (i := 1066) (by decide +kernel)), (List.mem_of_getElem? (i := 1067) (by decide +kernel))⟩
theorem mk_X12_builders : MkV yX12_builders cX12_builders 3 (some .boolean) 2 := ⟨⟨(List.mem_of_getElem? (i := 1072) (by decide +kernel)), (List.mem_of_getElem? (i := 65) (by decide +kernel)), by decide, by decide, by decide +kernel⟩, (List.mem_of_getElem? (i := 1070) (by decide +kernel)), (List.mem_of_getElem? (i := 1071) (by decide +kernel))⟩
theorem mk_X12_feed : MkV yX12_feed cX12_feed 8 (some .int) 5 := ⟨⟨(List.mem_of_getElem? (i := 1076) (by decide +kernel)), (List.mem_of_getElem? (i := 65) (by decide +kernel)), by decide, by decide, by decide +kernel⟩, (List.mem_of_getElem? (i := 1074) (by decide +kernel)), (List.mem_of_getElem? (i := 1075) (by decide +kernel))⟩
theorem mk_X12_end : MkV yX12_end cX12_end 2 (some .boolean) 1 := ⟨⟨(List.mem_of_getElem? (i := 1080) (by decide +kernel)), (List.mem_of_getElem? (i := 65) (by decide +kernel)), by decide, by decide, by decide +kernel⟩, (List.mem_of_getElem? (i := 1078) (by decide +kernel)), (List.mem_of_getElem? (i := 1079) (by decide +kernel))⟩
theorem mk_X12_see : MkV yX12_see cX12_see 2 (some .int) 1 := ⟨⟨(List.mem_of_getElem? (i := 1092) (by decide +kernel)), (List.mem_of_getElem? (i := 65) (by decide +kernel)), by decide, by decide, by decide +kernel⟩, (List.mem_of_getElem? (i := 1091) (by decide +kernel)), (List.mem_of_getElem? (i := 33) (by decide +kernel))⟩
theorem mk_X12_isLetter : MkS yX12_isLetter cX12_isLetter 1 (some .boolean) 1 := ⟨⟨(List.mem_of_getElem? (i := 1095) (by decide +kernel)), (List.mem_of_getElem? (i := 65) (by decide +kernel)), by decide, by decide, by decide +kernel⟩, (List.mem_of_getElem? (i := 1094) (by decide +kernel))⟩
theorem mk_X12_isDigit : MkS yX12_isDigit cX12_isDigit 1 (some .boolean) 1 := ⟨⟨(List.mem_of_getElem? (i := 1108) (by decide +kernel)), (List.mem_of_getElem? (i := 65) (by decide +kernel)), by decide, by decide, by decide +kernel⟩, (List.mem_of_getElem? (i := 1107) (by decide +kernel))⟩
theorem mk_X12_word : MkS yX12_word cX12_word 2 (some .int) 1 := ⟨⟨(List.mem_of_getElem? (i := 1098) (by decide +kernel)), (List.mem_of_getElem? (i := 65) (by decide +kernel)), by decide, by decide, by decide +kernel⟩, (List.mem_of_getElem? (i := 1097) (by decide +kernel))⟩
theorem mk_X12_next0 : MkV yX12_next0 cX12_next0 5 none 0 := ⟨⟨(List.mem_of_getElem? (i := 1088) (by decide +kernel)), (List.mem_of_getElem? (i := 65) (by decide +kernel)), by decide, by decide, by decide +kernel⟩, (List.mem_of_getElem? (i := 1087) (by decide +kernel)), (List.mem_of_getElem? (i := 32) (by decide +kernel))⟩
theorem mk_X12_bad : MkV yX12_bad cX12_bad 2 (some .boolean) 1 := ⟨⟨(List.mem_of_getElem? (i := 1116) (by decide +kernel)), (List.mem_of_getElem? (i := 65) (by decide +kernel)), by decide, by decide, by decide +kernel⟩, (List.mem_of_getElem? (i := 1115) (by decide +kernel)), (List.mem_of_getElem? (i := 35) (by decide +kernel))⟩
theorem mk_X12_need : MkV yX12_need cX12_need 2 (some .boolean) 1 := ⟨⟨(List.mem_of_getElem? (i := 1132) (by decide +kernel)), (List.mem_of_getElem? (i := 65) (by decide +kernel)), by decide, by decide, by decide +kernel⟩, (List.mem_of_getElem? (i := 1131) (by decide +kernel)), (List.mem_of_getElem? (i := 39) (by decide +kernel))⟩
theorem mk_X12_lay : MkV yX12_lay cX12_lay 3 none 2 := ⟨⟨(List.mem_of_getElem? (i := 1136) (by decide +kernel)), (List.mem_of_getElem? (i := 65) (by decide +kernel)), by decide, by decide, by decide +kernel⟩, (List.mem_of_getElem? (i := 1135) (by decide +kernel)), (List.mem_of_getElem? (i := 40) (by decide +kernel))⟩
theorem mk_X12_sum : MkV yX12_sum cX12_sum 2 (some .boolean) 0 := ⟨⟨(List.mem_of_getElem? (i := 1120) (by decide +kernel)), (List.mem_of_getElem? (i := 65) (by decide +kernel)), by decide, by decide, by decide +kernel⟩, (List.mem_of_getElem? (i := 1119) (by decide +kernel)), (List.mem_of_getElem? (i := 36) (by decide +kernel))⟩
theorem mk_X12_product : MkV yX12_product cX12_product 2 (some .boolean) 0 := ⟨⟨(List.mem_of_getElem? (i := 1124) (by decide +kernel)), (List.mem_of_getElem? (i := 65) (by decide +kernel)), by decide, by decide, by decide +kernel⟩, (List.mem_of_getElem? (i := 1123) (by decide +kernel)), (List.mem_of_getElem? (i := 37) (by decide +kernel))⟩
theorem mk_X12_unit : MkV yX12_unit cX12_unit 1 (some .boolean) 0 := ⟨⟨(List.mem_of_getElem? (i := 1128) (by decide +kernel)), (List.mem_of_getElem? (i := 65) (by decide +kernel)), by decide, by decide, by decide +kernel⟩, (List.mem_of_getElem? (i := 1127) (by decide +kernel)), (List.mem_of_getElem? (i := 38) (by decide +kernel))⟩
theorem mk_X12_one : MkV yX12_one cX12_one 2 (some .boolean) 0 := ⟨⟨(List.mem_of_getElem? (i := 1140) (by decide +kernel)), (List.mem_of_getElem? (i := 65) (by decide +kernel)), by decide, by decide, by decide +kernel⟩, (List.mem_of_getElem? (i := 1139) (by decide +kernel)), (List.mem_of_getElem? (i := 41) (by decide +kernel))⟩
theorem mk_X12_aRule : MkV yX12_aRule cX12_aRule 1 (some .boolean) 0 := ⟨⟨(List.mem_of_getElem? (i := 1112) (by decide +kernel)), (List.mem_of_getElem? (i := 65) (by decide +kernel)), by decide, by decide, by decide +kernel⟩, (List.mem_of_getElem? (i := 1111) (by decide +kernel)), (List.mem_of_getElem? (i := 34) (by decide +kernel))⟩
theorem mk_X12_rules : MkV yX12_rules cX12_rules 3 (some .int) 0 := ⟨⟨(List.mem_of_getElem? (i := 1084) (by decide +kernel)), (List.mem_of_getElem? (i := 65) (by decide +kernel)), by decide, by decide, by decide +kernel⟩, (List.mem_of_getElem? (i := 1082) (by decide +kernel)), (List.mem_of_getElem? (i := 1083) (by decide +kernel))⟩
theorem mk_X12_fault : MkV yX12_fault cX12_fault 2 (some .int) 1 := ⟨⟨(List.mem_of_getElem? (i := 1144) (by decide +kernel)), (List.mem_of_getElem? (i := 65) (by decide +kernel)), by decide, by decide, by decide +kernel⟩, (List.mem_of_getElem? (i := 1142) (by decide +kernel)), (List.mem_of_getElem? (i := 1143) (by decide +kernel))⟩
theorem mk_X12_known : MkV yX12_known cX12_known 4 (some .int) 3 := ⟨⟨(List.mem_of_getElem? (i := 1180) (by decide +kernel)), (List.mem_of_getElem? (i := 65) (by decide +kernel)), by decide, by decide, by decide +kernel⟩, (List.mem_of_getElem? (i := 1179) (by decide +kernel)), (List.mem_of_getElem? (i := 48) (by decide +kernel))⟩
theorem mk_X12_both : MkS yX12_both cX12_both 3 (some .int) 3 := ⟨⟨(List.mem_of_getElem? (i := 1183) (by decide +kernel)), (List.mem_of_getElem? (i := 65) (by decide +kernel)), by decide, by decide, by decide +kernel⟩, (List.mem_of_getElem? (i := 1182) (by decide +kernel))⟩
theorem mk_X12_comesTo : MkV yX12_comesTo cX12_comesTo 8 (some .int) 3 := ⟨⟨(List.mem_of_getElem? (i := 1176) (by decide +kernel)), (List.mem_of_getElem? (i := 65) (by decide +kernel)), by decide, by decide, by decide +kernel⟩, (List.mem_of_getElem? (i := 1175) (by decide +kernel)), (List.mem_of_getElem? (i := 47) (by decide +kernel))⟩
theorem mk_X12_ruleOf : MkV yX12_ruleOf cX12_ruleOf 3 (some .int) 1 := ⟨⟨(List.mem_of_getElem? (i := 1172) (by decide +kernel)), (List.mem_of_getElem? (i := 65) (by decide +kernel)), by decide, by decide, by decide +kernel⟩, (List.mem_of_getElem? (i := 1171) (by decide +kernel)), (List.mem_of_getElem? (i := 46) (by decide +kernel))⟩
theorem mk_X12_dueOf : MkV yX12_dueOf cX12_dueOf 4 (some .int) 1 := ⟨⟨(List.mem_of_getElem? (i := 1168) (by decide +kernel)), (List.mem_of_getElem? (i := 65) (by decide +kernel)), by decide, by decide, by decide +kernel⟩, (List.mem_of_getElem? (i := 1167) (by decide +kernel)), (List.mem_of_getElem? (i := 45) (by decide +kernel))⟩
theorem mk_X12_nextOne : MkV yX12_nextOne cX12_nextOne 3 (some .int) 0 := ⟨⟨(List.mem_of_getElem? (i := 1156) (by decide +kernel)), (List.mem_of_getElem? (i := 65) (by decide +kernel)), by decide, by decide, by decide +kernel⟩, (List.mem_of_getElem? (i := 1155) (by decide +kernel)), (List.mem_of_getElem? (i := 43) (by decide +kernel))⟩
theorem mk_X12_builds : MkV yX12_builds cX12_builds 4 none 0 := ⟨⟨(List.mem_of_getElem? (i := 1152) (by decide +kernel)), (List.mem_of_getElem? (i := 65) (by decide +kernel)), by decide, by decide, by decide +kernel⟩, (List.mem_of_getElem? (i := 1151) (by decide +kernel)), (List.mem_of_getElem? (i := 42) (by decide +kernel))⟩
theorem mk_X12_isLate : MkV yX12_isLate cX12_isLate 3 (some .boolean) 1 := ⟨⟨(List.mem_of_getElem? (i := 1160) (by decide +kernel)), (List.mem_of_getElem? (i := 65) (by decide +kernel)), by decide, by decide, by decide +kernel⟩, (List.mem_of_getElem? (i := 1159) (by decide +kernel)), (List.mem_of_getElem? (i := 44) (by decide +kernel))⟩
theorem mk_X12_look : MkV yX12_look cX12_look 4 (some .int) 1 := ⟨⟨(List.mem_of_getElem? (i := 1148) (by decide +kernel)), (List.mem_of_getElem? (i := 65) (by decide +kernel)), by decide, by decide, by decide +kernel⟩, (List.mem_of_getElem? (i := 1146) (by decide +kernel)), (List.mem_of_getElem? (i := 1147) (by decide +kernel))⟩
theorem mk_X12_of : MkV yX12_of cX12_of 3 (some .int) 2 := ⟨⟨(List.mem_of_getElem? (i := 1164) (by decide +kernel)), (List.mem_of_getElem? (i := 65) (by decide +kernel)), by decide, by decide, by decide +kernel⟩, (List.mem_of_getElem? (i := 1162) (by decide +kernel)), (List.mem_of_getElem? (i := 1163) (by decide +kernel))⟩
theorem mk_X12_months : MkV yX12_months cX12_months 3 (some .int) 1 := ⟨⟨(List.mem_of_getElem? (i := 1187) (by decide +kernel)), (List.mem_of_getElem? (i := 65) (by decide +kernel)), by decide, by decide, by decide +kernel⟩, (List.mem_of_getElem? (i := 1185) (by decide +kernel)), (List.mem_of_getElem? (i := 1186) (by decide +kernel))⟩
theorem mk_X12_abs : MkS yX12_abs cX12_abs 1 (some .int) 1 := ⟨⟨(List.mem_of_getElem? (i := 1202) (by decide +kernel)), (List.mem_of_getElem? (i := 65) (by decide +kernel)), by decide, by decide, by decide +kernel⟩, (List.mem_of_getElem? (i := 1201) (by decide +kernel))⟩
theorem mk_X12_near : MkV yX12_near cX12_near 4 (some .int) 2 := ⟨⟨(List.mem_of_getElem? (i := 1199) (by decide +kernel)), (List.mem_of_getElem? (i := 65) (by decide +kernel)), by decide, by decide, by decide +kernel⟩, (List.mem_of_getElem? (i := 1198) (by decide +kernel)), (List.mem_of_getElem? (i := 50) (by decide +kernel))⟩
theorem mk_X12_ways : MkV yX12_ways cX12_ways 4 none 0 := ⟨⟨(List.mem_of_getElem? (i := 1195) (by decide +kernel)), (List.mem_of_getElem? (i := 65) (by decide +kernel)), by decide, by decide, by decide +kernel⟩, (List.mem_of_getElem? (i := 1194) (by decide +kernel)), (List.mem_of_getElem? (i := 49) (by decide +kernel))⟩
theorem mk_X12_best : MkV yX12_best cX12_best 2 (some .int) 1 := ⟨⟨(List.mem_of_getElem? (i := 1191) (by decide +kernel)), (List.mem_of_getElem? (i := 65) (by decide +kernel)), by decide, by decide, by decide +kernel⟩, (List.mem_of_getElem? (i := 1189) (by decide +kernel)), (List.mem_of_getElem? (i := 1190) (by decide +kernel))⟩
theorem mk_X12_serves : MkV yX12_serves cX12_serves 3 (some .int) 2 := ⟨⟨(List.mem_of_getElem? (i := 1219) (by decide +kernel)), (List.mem_of_getElem? (i := 65) (by decide +kernel)), by decide, by decide, by decide +kernel⟩, (List.mem_of_getElem? (i := 1218) (by decide +kernel)), (List.mem_of_getElem? (i := 53) (by decide +kernel))⟩
theorem mk_X12_weighs : MkV yX12_weighs cX12_weighs 7 (some .int) 0 := ⟨⟨(List.mem_of_getElem? (i := 1214) (by decide +kernel)), (List.mem_of_getElem? (i := 65) (by decide +kernel)), by decide, by decide, by decide +kernel⟩, (List.mem_of_getElem? (i := 1213) (by decide +kernel)), (List.mem_of_getElem? (i := 52) (by decide +kernel))⟩
theorem mk_X12_parts : MkV yX12_parts cX12_parts 5 none 0 := ⟨⟨(List.mem_of_getElem? (i := 1210) (by decide +kernel)), (List.mem_of_getElem? (i := 65) (by decide +kernel)), by decide, by decide, by decide +kernel⟩, (List.mem_of_getElem? (i := 1209) (by decide +kernel)), (List.mem_of_getElem? (i := 51) (by decide +kernel))⟩
theorem mk_X12_bits : MkS yX12_bits cX12_bits 3 (some .int) 1 := ⟨⟨(List.mem_of_getElem? (i := 1224) (by decide +kernel)), (List.mem_of_getElem? (i := 65) (by decide +kernel)), by decide, by decide, by decide +kernel⟩, (List.mem_of_getElem? (i := 1223) (by decide +kernel))⟩
theorem mk_X12_part : MkV yX12_part cX12_part 2 (some .int) 1 := ⟨⟨(List.mem_of_getElem? (i := 1206) (by decide +kernel)), (List.mem_of_getElem? (i := 65) (by decide +kernel)), by decide, by decide, by decide +kernel⟩, (List.mem_of_getElem? (i := 1204) (by decide +kernel)), (List.mem_of_getElem? (i := 1205) (by decide +kernel))⟩
theorem mk_J6_bitCount_0f7a4 : MkS yJ6_bitCount_0f7a4 cJ6_bitCount_0f7a4 1 (some .int) 1 := ⟨⟨(List.mem_of_getElem? (i := 854) (by decide +kernel)), (List.mem_of_getElem? (i := 74) (by decide +kernel)), by decide, by decide, by decide +kernel⟩, (List.mem_of_getElem? (i := 853) (by decide +kernel))⟩
theorem mk_J9_abs_0f7a4 : MkS yJ9_abs_0f7a4 cJ9_abs_0f7a4 1 (some .int) 1 := ⟨⟨(List.mem_of_getElem? (i := 422) (by decide +kernel)), (List.mem_of_getElem? (i := 66) (by decide +kernel)), by decide, by decide, by decide +kernel⟩, (List.mem_of_getElem? (i := 421) (by decide +kernel))⟩
theorem mk_J9_max_7cf53 : MkS yJ9_max_7cf53 cJ9_max_7cf53 2 (some .int) 2 := ⟨⟨(List.mem_of_getElem? (i := 425) (by decide +kernel)), (List.mem_of_getElem? (i := 66) (by decide +kernel)), by decide, by decide, by decide +kernel⟩, (List.mem_of_getElem? (i := 424) (by decide +kernel))⟩
theorem mk_J9_min_7cf53 : MkS yJ9_min_7cf53 cJ9_min_7cf53 2 (some .int) 2 := ⟨⟨(List.mem_of_getElem? (i := 735) (by decide +kernel)), (List.mem_of_getElem? (i := 66) (by decide +kernel)), by decide, by decide, by decide +kernel⟩, (List.mem_of_getElem? (i := 734) (by decide +kernel))⟩
theorem mk_J0_length_8abf5 : MkV yJ0_length_8abf5 cJ0_length_8abf5 1 (some .int) 0 := ⟨⟨(List.mem_of_getElem? (i := 499) (by decide +kernel)), (List.mem_of_getElem? (i := 68) (by decide +kernel)), by decide, by decide, by decide +kernel⟩, (List.mem_of_getElem? (i := 497) (by decide +kernel)), (List.mem_of_getElem? (i := 498) (by decide +kernel))⟩
theorem mk_J0_charAt_5068e : MkV yJ0_charAt_5068e cJ0_charAt_5068e 2 (some .char) 1 := ⟨⟨(List.mem_of_getElem? (i := 510) (by decide +kernel)), (List.mem_of_getElem? (i := 68) (by decide +kernel)), by decide, by decide, by decide +kernel⟩, (List.mem_of_getElem? (i := 508) (by decide +kernel)), (List.mem_of_getElem? (i := 509) (by decide +kernel))⟩
theorem mk_J0_coder_7d493 : MkV yJ0_coder_7d493 cJ0_coder_7d493 1 (some .byte) 0 := ⟨⟨(List.mem_of_getElem? (i := 503) (by decide +kernel)), (List.mem_of_getElem? (i := 68) (by decide +kernel)), by decide, by decide, by decide +kernel⟩, (List.mem_of_getElem? (i := 501) (by decide +kernel)), (List.mem_of_getElem? (i := 502) (by decide +kernel))⟩
theorem mk_J0_isLatin1_aae02 : MkV yJ0_isLatin1_aae02 cJ0_isLatin1_aae02 1 (some .boolean) 0 := ⟨⟨(List.mem_of_getElem? (i := 514) (by decide +kernel)), (List.mem_of_getElem? (i := 68) (by decide +kernel)), by decide, by decide, by decide +kernel⟩, (List.mem_of_getElem? (i := 512) (by decide +kernel)), (List.mem_of_getElem? (i := 513) (by decide +kernel))⟩
theorem mk_J0_checkIndex_df160 : MkS yJ0_checkIndex_df160 cJ0_checkIndex_df160 2 none 2 := ⟨⟨(List.mem_of_getElem? (i := 520) (by decide +kernel)), (List.mem_of_getElem? (i := 68) (by decide +kernel)), by decide, by decide, by decide +kernel⟩, (List.mem_of_getElem? (i := 519) (by decide +kernel))⟩
theorem mk_J1_charAt_3b067 : MkS yJ1_charAt_3b067 cJ1_charAt_3b067 2 (some .char) 2 := ⟨⟨(List.mem_of_getElem? (i := 517) (by decide +kernel)), (List.mem_of_getElem? (i := 69) (by decide +kernel)), by decide, by decide, by decide +kernel⟩, (List.mem_of_getElem? (i := 516) (by decide +kernel))⟩
theorem mk_J2_getChar_3b067 : MkS yJ2_getChar_3b067 cJ2_getChar_3b067 2 (some .char) 2 := ⟨⟨(List.mem_of_getElem? (i := 538) (by decide +kernel)), (List.mem_of_getElem? (i := 71) (by decide +kernel)), by decide, by decide, by decide +kernel⟩, (List.mem_of_getElem? (i := 537) (by decide +kernel))⟩
theorem mk_J2_length_9d52b : MkS yJ2_length_9d52b cJ2_length_9d52b 1 (some .int) 1 := ⟨⟨(List.mem_of_getElem? (i := 534) (by decide +kernel)), (List.mem_of_getElem? (i := 71) (by decide +kernel)), by decide, by decide, by decide +kernel⟩, (List.mem_of_getElem? (i := 533) (by decide +kernel))⟩
theorem mk_J2_charAt_3b067 : MkS yJ2_charAt_3b067 cJ2_charAt_3b067 2 (some .char) 2 := ⟨⟨(List.mem_of_getElem? (i := 528) (by decide +kernel)), (List.mem_of_getElem? (i := 71) (by decide +kernel)), by decide, by decide, by decide +kernel⟩, (List.mem_of_getElem? (i := 527) (by decide +kernel))⟩
theorem mk_J2_checkIndex_2214a : MkS yJ2_checkIndex_2214a cJ2_checkIndex_2214a 2 none 2 := ⟨⟨(List.mem_of_getElem? (i := 531) (by decide +kernel)), (List.mem_of_getElem? (i := 71) (by decide +kernel)), by decide, by decide, by decide +kernel⟩, (List.mem_of_getElem? (i := 530) (by decide +kernel))⟩
theorem mk_J3_checkIndex_8e157 : MkS yJ3_checkIndex_8e157 cJ3_checkIndex_8e157 3 (some .int) 3 := ⟨⟨(List.mem_of_getElem? (i := 525) (by decide +kernel)), (List.mem_of_getElem? (i := 70) (by decide +kernel)), by decide, by decide, by decide +kernel⟩, (List.mem_of_getElem? (i := 524) (by decide +kernel))⟩
theorem lk_X0_3 : Cond.methodLink RX0 3 Lib.objectInit ∈ lw_tbl := (List.mem_of_getElem? (i := 147) (by decide +kernel))
theorem fk_X0_9 : LkF RX0 9 0 0 0 true := ⟨RX0, TX0, 1, rfl, ok_X0, rfl, by decide, rfl, rfl, Or.inl (List.mem_of_getElem? (i := 148) (by decide +kernel))⟩
theorem lk_X0_15 : LkM RX0 15 yX11_isWithin := Or.inr ⟨"NewValley", (List.mem_of_getElem? (i := 447) (by decide +kernel))⟩
theorem lk_X0_19 : LkM RX0 19 yX4_beginPlan := Or.inl (List.mem_of_getElem? (i := 669) (by decide +kernel))
theorem lk_X0_25 : LkM RX0 25 yJ9_max_7cf53 := Or.inl (List.mem_of_getElem? (i := 674) (by decide +kernel))
theorem lk_X0_31 : LkM RX0 31 yX4_nextInLine := Or.inl (List.mem_of_getElem? (i := 675) (by decide +kernel))
theorem lk_X0_35 : LkM RX0 35 yX4_planHouse := Or.inl (List.mem_of_getElem? (i := 679) (by decide +kernel))
theorem lk_X1_9 : LkM RX1 9 yX11_isWithin := Or.inr ⟨"NewValley", (List.mem_of_getElem? (i := 620) (by decide +kernel))⟩
theorem lk_X1_17 : LkM RX1 17 yX8_spells := Or.inl (List.mem_of_getElem? (i := 492) (by decide +kernel))
theorem lk_X2_3 : Cond.methodLink RX2 3 Lib.objectInit ∈ lw_tbl := (List.mem_of_getElem? (i := 208) (by decide +kernel))
theorem fk_X2_9 : LkF RX2 9 1 0 0 false := ⟨RX2, TX2, 2, rfl, ok_X2, rfl, by decide, rfl, rfl, Or.inl (List.mem_of_getElem? (i := 209) (by decide +kernel))⟩
theorem fk_X2_15 : LkF RX2 15 1 1 1 true := ⟨RX2, TX2, 2, rfl, ok_X2, rfl, by decide, rfl, rfl, Or.inl (List.mem_of_getElem? (i := 212) (by decide +kernel))⟩
theorem lk_X2_19 : LkM RX2 19 yX2_isFull := Or.inl (List.mem_of_getElem? (i := 438) (by decide +kernel))
theorem lk_X3_3 : Cond.methodLink RX3 3 Lib.objectInit ∈ lw_tbl := (List.mem_of_getElem? (i := 88) (by decide +kernel))
theorem fk_X3_9 : LkF RX3 9 2 0 0 true := ⟨RX3, TX3, 2, rfl, ok_X3, rfl, by decide, rfl, rfl, Or.inl (List.mem_of_getElem? (i := 89) (by decide +kernel))⟩
theorem fk_X3_15 : LkF RX3 15 2 1 1 true := ⟨RX3, TX3, 2, rfl, ok_X3, rfl, by decide, rfl, rfl, Or.inl (List.mem_of_getElem? (i := 90) (by decide +kernel))⟩
theorem lk_X3_18 : LkM RX3 18 yX11_isWithin := Or.inr ⟨"NewValley", (List.mem_of_getElem? (i := 357) (by decide +kernel))⟩
theorem lk_X4_3 : Cond.methodLink RX4 3 Lib.objectInit ∈ lw_tbl := (List.mem_of_getElem? (i := 102) (by decide +kernel))
theorem fk_X4_9 : LkF RX4 9 3 0 0 false := ⟨RX4, TX4, 10, rfl, ok_X4, rfl, by decide, rfl, rfl, Or.inl (List.mem_of_getElem? (i := 103) (by decide +kernel))⟩
theorem fk_X4_15 : LkF RX4 15 3 1 1 true := ⟨RX4, TX4, 10, rfl, ok_X4, rfl, by decide, rfl, rfl, Or.inl (List.mem_of_getElem? (i := 105) (by decide +kernel))⟩
theorem fk_X4_19 : LkF RX4 19 3 2 2 true := ⟨RX4, TX4, 10, rfl, ok_X4, rfl, by decide, rfl, rfl, Or.inl (List.mem_of_getElem? (i := 107) (by decide +kernel))⟩
theorem fk_X4_22 : LkF RX4 22 3 3 3 true := ⟨RX4, TX4, 10, rfl, ok_X4, rfl, by decide, rfl, rfl, Or.inl (List.mem_of_getElem? (i := 109) (by decide +kernel))⟩
theorem fk_X4_25 : LkF RX4 25 3 4 4 true := ⟨RX4, TX4, 10, rfl, ok_X4, rfl, by decide, rfl, rfl, Or.inl (List.mem_of_getElem? (i := 111) (by decide +kernel))⟩
theorem fk_X4_28 : LkF RX4 28 3 5 5 true := ⟨RX4, TX4, 10, rfl, ok_X4, rfl, by decide, rfl, rfl, Or.inl (List.mem_of_getElem? (i := 113) (by decide +kernel))⟩
theorem fk_X4_31 : LkF RX4 31 3 6 6 true := ⟨RX4, TX4, 10, rfl, ok_X4, rfl, by decide, rfl, rfl, Or.inl (List.mem_of_getElem? (i := 115) (by decide +kernel))⟩
theorem fk_X4_34 : LkF RX4 34 3 7 7 true := ⟨RX4, TX4, 10, rfl, ok_X4, rfl, by decide, rfl, rfl, Or.inl (List.mem_of_getElem? (i := 117) (by decide +kernel))⟩
theorem fk_X4_38 : LkF RX4 38 3 8 8 true := ⟨RX4, TX4, 10, rfl, ok_X4, rfl, by decide, rfl, rfl, Or.inl (List.mem_of_getElem? (i := 118) (by decide +kernel))⟩
theorem fk_X4_43 : LkF RX4 43 3 9 9 true := ⟨RX4, TX4, 10, rfl, ok_X4, rfl, by decide, rfl, rfl, Or.inl (List.mem_of_getElem? (i := 119) (by decide +kernel))⟩
theorem lk_X4_46 : LkM RX4 46 yX4_isFull := Or.inl (List.mem_of_getElem? (i := 389) (by decide +kernel))
theorem lk_X4_50 : LkM RX4 50 yX4_has := Or.inl (List.mem_of_getElem? (i := 398) (by decide +kernel))
theorem lk_X4_56 : LkM RX4 56 yX6_factAt := Or.inl (List.mem_of_getElem? (i := 703) (by decide +kernel))
theorem lk_X4_60 : LkM RX4 60 yX3_monthOf := Or.inl (List.mem_of_getElem? (i := 673) (by decide +kernel))
theorem lk_X4_65 : LkM RX4 65 yX4_isLate := Or.inl (List.mem_of_getElem? (i := 687) (by decide +kernel))
theorem lk_X5_5 : Cond.methodLink RX5 5 Lib.objectInit ∈ lw_tbl := (List.mem_of_getElem? (i := 785) (by decide +kernel))
theorem fk_X5_11 : LkF RX5 11 4 0 0 true := ⟨RX5, TX5, 7, rfl, ok_X5, rfl, by decide, rfl, rfl, Or.inl (List.mem_of_getElem? (i := 786) (by decide +kernel))⟩
theorem fk_X5_15 : LkF RX5 15 4 1 1 true := ⟨RX5, TX5, 7, rfl, ok_X5, rfl, by decide, rfl, rfl, Or.inl (List.mem_of_getElem? (i := 787) (by decide +kernel))⟩
theorem fk_X5_18 : LkF RX5 18 4 2 2 true := ⟨RX5, TX5, 7, rfl, ok_X5, rfl, by decide, rfl, rfl, Or.inl (List.mem_of_getElem? (i := 788) (by decide +kernel))⟩
theorem fk_X5_21 : LkF RX5 21 4 3 3 true := ⟨RX5, TX5, 7, rfl, ok_X5, rfl, by decide, rfl, rfl, Or.inl (List.mem_of_getElem? (i := 789) (by decide +kernel))⟩
theorem fk_X5_24 : LkF RX5 24 4 4 4 false := ⟨RX5, TX5, 7, rfl, ok_X5, rfl, by decide, rfl, rfl, Or.inl (List.mem_of_getElem? (i := 790) (by decide +kernel))⟩
theorem fk_X5_28 : LkF RX5 28 4 5 5 false := ⟨RX5, TX5, 7, rfl, ok_X5, rfl, by decide, rfl, rfl, Or.inl (List.mem_of_getElem? (i := 792) (by decide +kernel))⟩
theorem fk_X5_31 : LkF RX5 31 4 6 6 true := ⟨RX5, TX5, 7, rfl, ok_X5, rfl, by decide, rfl, rfl, Or.inl (List.mem_of_getElem? (i := 794) (by decide +kernel))⟩
theorem lk_X5_34 : LkM RX5 34 yX11_isWithin := Or.inr ⟨"NewValley", (List.mem_of_getElem? (i := 815) (by decide +kernel))⟩
theorem lk_X5_38 : LkM RX5 38 yJ9_min_7cf53 := Or.inl (List.mem_of_getElem? (i := 820) (by decide +kernel))
theorem fk_X5_44 : LkF RX5 44 1 0 0 false := ⟨RX2, TX2, 2, rfl, ok_X2, rfl, by decide, rfl, rfl, Or.inr ⟨"NewValley", (List.mem_of_getElem? (i := 210) (by decide +kernel))⟩⟩
theorem lk_X5_49 : LkM RX5 49 yX5_weighSets := Or.inl (List.mem_of_getElem? (i := 821) (by decide +kernel))
theorem lk_X5_53 : LkM RX5 53 yX5_rankNobodyBehind := Or.inl (List.mem_of_getElem? (i := 825) (by decide +kernel))
theorem lk_X5_57 : LkM RX5 57 yX5_rankWith := Or.inl (List.mem_of_getElem? (i := 829) (by decide +kernel))
theorem lk_X5_61 : LkM RX5 61 yX5_leastOfBest := Or.inl (List.mem_of_getElem? (i := 848) (by decide +kernel))
theorem fk_X5_64 : LkF RX5 64 1 1 1 true := ⟨RX2, TX2, 2, rfl, ok_X2, rfl, by decide, rfl, rfl, Or.inr ⟨"NewValley", (List.mem_of_getElem? (i := 213) (by decide +kernel))⟩⟩
theorem lk_X5_67 : Cond.methodLink RX5 67 arraycopyName ∈ lw_tbl := (List.mem_of_getElem? (i := 833) (by decide +kernel))
theorem lk_X5_73 : LkM RX5 73 yX5_isJustEnough := Or.inl (List.mem_of_getElem? (i := 834) (by decide +kernel))
theorem lk_X5_77 : LkM RX5 77 yX5_rankWithSet := Or.inl (List.mem_of_getElem? (i := 838) (by decide +kernel))
theorem lk_X5_81 : LkM RX5 81 yX5_keyOf := Or.inl (List.mem_of_getElem? (i := 842) (by decide +kernel))
theorem lk_X5_84 : LkM RX5 84 yJ9_max_7cf53 := Or.inl (List.mem_of_getElem? (i := 847) (by decide +kernel))
theorem lk_X6_3 : Cond.methodLink RX6 3 Lib.objectInit ∈ lw_tbl := (List.mem_of_getElem? (i := 285) (by decide +kernel))
theorem fk_X6_9 : LkF RX6 9 5 0 0 false := ⟨RX6, TX6, 8, rfl, ok_X6, rfl, by decide, rfl, rfl, Or.inl (List.mem_of_getElem? (i := 286) (by decide +kernel))⟩
theorem fk_X6_15 : LkF RX6 15 5 1 1 false := ⟨RX6, TX6, 8, rfl, ok_X6, rfl, by decide, rfl, rfl, Or.inl (List.mem_of_getElem? (i := 288) (by decide +kernel))⟩
theorem fk_X6_18 : LkF RX6 18 5 2 2 true := ⟨RX6, TX6, 8, rfl, ok_X6, rfl, by decide, rfl, rfl, Or.inl (List.mem_of_getElem? (i := 289) (by decide +kernel))⟩
theorem fk_X6_22 : LkF RX6 22 5 3 3 true := ⟨RX6, TX6, 8, rfl, ok_X6, rfl, by decide, rfl, rfl, Or.inl (List.mem_of_getElem? (i := 290) (by decide +kernel))⟩
theorem fk_X6_25 : LkF RX6 25 5 4 4 true := ⟨RX6, TX6, 8, rfl, ok_X6, rfl, by decide, rfl, rfl, Or.inl (List.mem_of_getElem? (i := 291) (by decide +kernel))⟩
theorem fk_X6_28 : LkF RX6 28 5 5 5 true := ⟨RX6, TX6, 8, rfl, ok_X6, rfl, by decide, rfl, rfl, Or.inl (List.mem_of_getElem? (i := 292) (by decide +kernel))⟩
theorem fk_X6_31 : LkF RX6 31 5 6 6 false := ⟨RX6, TX6, 8, rfl, ok_X6, rfl, by decide, rfl, rfl, Or.inl (List.mem_of_getElem? (i := 293) (by decide +kernel))⟩
theorem fk_X6_34 : LkF RX6 34 5 7 7 true := ⟨RX6, TX6, 8, rfl, ok_X6, rfl, by decide, rfl, rfl, Or.inl (List.mem_of_getElem? (i := 294) (by decide +kernel))⟩
theorem lk_X6_37 : LkM RX6 37 yX6_isFull := Or.inl (List.mem_of_getElem? (i := 593) (by decide +kernel))
theorem lk_X6_41 : LkM RX6 41 yX1_isFact := Or.inl (List.mem_of_getElem? (i := 706) (by decide +kernel))
theorem lk_X6_47 : LkM RX6 47 yX6_run := Or.inl (List.mem_of_getElem? (i := 711) (by decide +kernel))
theorem lk_X6_51 : LkM RX6 51 yJ9_min_7cf53 := Or.inl (List.mem_of_getElem? (i := 733) (by decide +kernel))
theorem lk_X6_57 : LkM RX6 57 yJ9_max_7cf53 := Or.inl (List.mem_of_getElem? (i := 715) (by decide +kernel))
theorem lk_X6_60 : LkM RX6 60 yX1_isNumber := Or.inl (List.mem_of_getElem? (i := 716) (by decide +kernel))
theorem lk_X6_63 : LkM RX6 63 yX6_push := Or.inl (List.mem_of_getElem? (i := 717) (by decide +kernel))
theorem lk_X6_67 : LkM RX6 67 yX6_factAt := Or.inl (List.mem_of_getElem? (i := 721) (by decide +kernel))
theorem lk_X6_71 : LkM RX6 71 yX6_pop := Or.inl (List.mem_of_getElem? (i := 722) (by decide +kernel))
theorem lk_X6_75 : LkM RX6 75 yX6_join := Or.inl (List.mem_of_getElem? (i := 726) (by decide +kernel))
theorem lk_X7_3 : Cond.methodLink RX7 3 Lib.objectInit ∈ lw_tbl := (List.mem_of_getElem? (i := 239) (by decide +kernel))
theorem fk_X7_9 : LkF RX7 9 6 0 0 false := ⟨RX7, TX7, 6, rfl, ok_X7, rfl, by decide, rfl, rfl, Or.inl (List.mem_of_getElem? (i := 259) (by decide +kernel))⟩
theorem fk_X7_15 : LkF RX7 15 6 1 1 false := ⟨RX7, TX7, 6, rfl, ok_X7, rfl, by decide, rfl, rfl, Or.inl (List.mem_of_getElem? (i := 261) (by decide +kernel))⟩
theorem lk_X7_20 : LkM RX7 20 yX9_init := Or.inr ⟨"NewValley", (List.mem_of_getElem? (i := 242) (by decide +kernel))⟩
theorem fk_X7_21 : LkF RX7 21 6 2 2 true := ⟨RX7, TX7, 6, rfl, ok_X7, rfl, by decide, rfl, rfl, Or.inl (List.mem_of_getElem? (i := 263) (by decide +kernel))⟩
theorem fk_X7_25 : LkF RX7 25 6 3 3 false := ⟨RX7, TX7, 6, rfl, ok_X7, rfl, by decide, rfl, rfl, Or.inl (List.mem_of_getElem? (i := 264) (by decide +kernel))⟩
theorem fk_X7_28 : LkF RX7 28 6 4 4 false := ⟨RX7, TX7, 6, rfl, ok_X7, rfl, by decide, rfl, rfl, Or.inl (List.mem_of_getElem? (i := 265) (by decide +kernel))⟩
theorem fk_X7_31 : LkF RX7 31 6 5 5 true := ⟨RX7, TX7, 6, rfl, ok_X7, rfl, by decide, rfl, rfl, Or.inl (List.mem_of_getElem? (i := 266) (by decide +kernel))⟩
theorem lk_X7_35 : LkM RX7 35 yX9_cut := Or.inl (List.mem_of_getElem? (i := 472) (by decide +kernel))
theorem lk_X7_39 : LkM RX7 39 yX6_clear := Or.inl (List.mem_of_getElem? (i := 565) (by decide +kernel))
theorem lk_X7_44 : LkM RX7 44 yX9_code := Or.inl (List.mem_of_getElem? (i := 569) (by decide +kernel))
theorem lk_X7_50 : LkM RX7 50 yX7_readRule := Or.inl (List.mem_of_getElem? (i := 573) (by decide +kernel))
theorem lk_X7_54 : LkM RX7 54 yX7_fail := Or.inl (List.mem_of_getElem? (i := 581) (by decide +kernel))
theorem lk_X7_58 : LkM RX7 58 yX9_place := Or.inl (List.mem_of_getElem? (i := 585) (by decide +kernel))
theorem lk_X7_61 : LkM RX7 61 yX9_advance := Or.inl (List.mem_of_getElem? (i := 598) (by decide +kernel))
theorem lk_X7_64 : LkM RX7 64 yX6_isFull := Or.inl (List.mem_of_getElem? (i := 577) (by decide +kernel))
theorem lk_X7_68 : LkM RX7 68 yX6_beginGive := Or.inl (List.mem_of_getElem? (i := 589) (by decide +kernel))
theorem lk_X7_71 : LkM RX7 71 yX7_expect := Or.inl (List.mem_of_getElem? (i := 594) (by decide +kernel))
theorem lk_X7_74 : LkM RX7 74 yX7_readSum := Or.inl (List.mem_of_getElem? (i := 602) (by decide +kernel))
theorem lk_X7_77 : LkM RX7 77 yX6_beginWhen := Or.inl (List.mem_of_getElem? (i := 637) (by decide +kernel))
theorem lk_X7_80 : LkM RX7 80 yX7_readConditions := Or.inl (List.mem_of_getElem? (i := 641) (by decide +kernel))
theorem lk_X7_83 : LkM RX7 83 yX6_endRule := Or.inl (List.mem_of_getElem? (i := 648) (by decide +kernel))
theorem lk_X7_86 : LkM RX7 86 yX1_isComparison := Or.inl (List.mem_of_getElem? (i := 645) (by decide +kernel))
theorem lk_X7_89 : LkM RX7 89 yX6_write := Or.inl (List.mem_of_getElem? (i := 621) (by decide +kernel))
theorem lk_X7_93 : LkM RX7 93 yX7_readUnit := Or.inl (List.mem_of_getElem? (i := 606) (by decide +kernel))
theorem lk_X7_96 : LkM RX7 96 yX7_readBehindUnit := Or.inl (List.mem_of_getElem? (i := 625) (by decide +kernel))
theorem lk_X7_99 : LkM RX7 99 yX1_strength := Or.inl (List.mem_of_getElem? (i := 633) (by decide +kernel))
theorem lk_X7_103 : LkM RX7 103 yX7_writeWaiting := Or.inl (List.mem_of_getElem? (i := 629) (by decide +kernel))
theorem lk_X7_107 : LkM RX7 107 yX7_putToWait := Or.inl (List.mem_of_getElem? (i := 610) (by decide +kernel))
theorem lk_X7_110 : LkM RX7 110 yX1_isNumber := Or.inl (List.mem_of_getElem? (i := 614) (by decide +kernel))
theorem lk_X7_113 : LkM RX7 113 yX1_isFact := Or.inl (List.mem_of_getElem? (i := 617) (by decide +kernel))
theorem lk_X7_116 : LkM RX7 116 yJ9_max_7cf53 := Or.inl (List.mem_of_getElem? (i := 636) (by decide +kernel))
theorem lk_X8_3 : Cond.methodLink RX8 3 Lib.objectInit ∈ lw_tbl := (List.mem_of_getElem? (i := 224) (by decide +kernel))
theorem fk_X8_9 : LkF RX8 9 7 0 0 false := ⟨RX8, TX8, 2, rfl, ok_X8, rfl, by decide, rfl, rfl, Or.inl (List.mem_of_getElem? (i := 225) (by decide +kernel))⟩
theorem fk_X8_15 : LkF RX8 15 7 1 1 true := ⟨RX8, TX8, 2, rfl, ok_X8, rfl, by decide, rfl, rfl, Or.inl (List.mem_of_getElem? (i := 228) (by decide +kernel))⟩
theorem lk_X8_19 : LkM RX8 19 yJ0_length_8abf5 := Or.inl (List.mem_of_getElem? (i := 496) (by decide +kernel))
theorem lk_X8_24 : LkM RX8 24 yX8_byteAt := Or.inl (List.mem_of_getElem? (i := 506) (by decide +kernel))
theorem lk_X8_28 : LkM RX8 28 yJ0_charAt_5068e := Or.inl (List.mem_of_getElem? (i := 507) (by decide +kernel))
theorem lk_X9_3 : Cond.methodLink RX9 3 Lib.objectInit ∈ lw_tbl := (List.mem_of_getElem? (i := 245) (by decide +kernel))
theorem fk_X9_9 : LkF RX9 9 8 0 0 false := ⟨RX9, TX9, 4, rfl, ok_X9, rfl, by decide, rfl, rfl, Or.inl (List.mem_of_getElem? (i := 246) (by decide +kernel))⟩
theorem fk_X9_15 : LkF RX9 15 8 1 1 false := ⟨RX9, TX9, 4, rfl, ok_X9, rfl, by decide, rfl, rfl, Or.inl (List.mem_of_getElem? (i := 247) (by decide +kernel))⟩
theorem fk_X9_18 : LkF RX9 18 8 2 2 true := ⟨RX9, TX9, 4, rfl, ok_X9, rfl, by decide, rfl, rfl, Or.inl (List.mem_of_getElem? (i := 248) (by decide +kernel))⟩
theorem fk_X9_22 : LkF RX9 22 8 3 3 true := ⟨RX9, TX9, 4, rfl, ok_X9, rfl, by decide, rfl, rfl, Or.inl (List.mem_of_getElem? (i := 249) (by decide +kernel))⟩
theorem fk_X9_25 : LkF RX9 25 7 0 0 false := ⟨RX8, TX8, 2, rfl, ok_X8, rfl, by decide, rfl, rfl, Or.inr ⟨"NewValley", (List.mem_of_getElem? (i := 226) (by decide +kernel))⟩⟩
theorem lk_X9_30 : LkM RX9 30 yX8_byteAt := Or.inl (List.mem_of_getElem? (i := 476) (by decide +kernel))
theorem lk_X9_34 : LkM RX9 34 yX9_isLetter := Or.inl (List.mem_of_getElem? (i := 480) (by decide +kernel))
theorem lk_X9_38 : LkM RX9 38 yX9_cutWord := Or.inl (List.mem_of_getElem? (i := 484) (by decide +kernel))
theorem lk_X9_42 : LkM RX9 42 yX9_isDigit := Or.inl (List.mem_of_getElem? (i := 555) (by decide +kernel))
theorem lk_X9_45 : LkM RX9 45 yX9_cutNumber := Or.inl (List.mem_of_getElem? (i := 558) (by decide +kernel))
theorem lk_X9_48 : LkM RX9 48 yX1_ofSign := Or.inl (List.mem_of_getElem? (i := 562) (by decide +kernel))
theorem lk_X9_53 : LkM RX9 53 yX9_add := Or.inl (List.mem_of_getElem? (i := 551) (by decide +kernel))
theorem lk_X9_57 : LkM RX9 57 yX11_isWithin := Or.inr ⟨"NewValley", (List.mem_of_getElem? (i := 483) (by decide +kernel))⟩
theorem lk_X9_61 : LkM RX9 61 yX1_ofWord := Or.inl (List.mem_of_getElem? (i := 488) (by decide +kernel))
theorem lk_X10_3 : Cond.methodLink RX10 3 Lib.objectInit ∈ lw_tbl := (List.mem_of_getElem? (i := 157) (by decide +kernel))
theorem fk_X10_9 : LkF RX10 9 9 0 0 false := ⟨RX10, TX10, 13, rfl, ok_X10, rfl, by decide, rfl, rfl, Or.inl (List.mem_of_getElem? (i := 160) (by decide +kernel))⟩
theorem fk_X10_15 : LkF RX10 15 9 1 1 true := ⟨RX10, TX10, 13, rfl, ok_X10, rfl, by decide, rfl, rfl, Or.inl (List.mem_of_getElem? (i := 162) (by decide +kernel))⟩
theorem fk_X10_19 : LkF RX10 19 9 2 2 true := ⟨RX10, TX10, 13, rfl, ok_X10, rfl, by decide, rfl, rfl, Or.inl (List.mem_of_getElem? (i := 163) (by decide +kernel))⟩
theorem fk_X10_24 : LkF RX10 24 9 3 3 true := ⟨RX10, TX10, 13, rfl, ok_X10, rfl, by decide, rfl, rfl, Or.inl (List.mem_of_getElem? (i := 164) (by decide +kernel))⟩
theorem fk_X10_27 : LkF RX10 27 9 4 4 true := ⟨RX10, TX10, 13, rfl, ok_X10, rfl, by decide, rfl, rfl, Or.inl (List.mem_of_getElem? (i := 165) (by decide +kernel))⟩
theorem fk_X10_30 : LkF RX10 30 9 5 5 false := ⟨RX10, TX10, 13, rfl, ok_X10, rfl, by decide, rfl, rfl, Or.inl (List.mem_of_getElem? (i := 166) (by decide +kernel))⟩
theorem fk_X10_33 : LkF RX10 33 9 6 6 true := ⟨RX10, TX10, 13, rfl, ok_X10, rfl, by decide, rfl, rfl, Or.inl (List.mem_of_getElem? (i := 168) (by decide +kernel))⟩
theorem fk_X10_36 : LkF RX10 36 9 7 7 false := ⟨RX10, TX10, 13, rfl, ok_X10, rfl, by decide, rfl, rfl, Or.inl (List.mem_of_getElem? (i := 170) (by decide +kernel))⟩
theorem fk_X10_39 : LkF RX10 39 9 8 8 false := ⟨RX10, TX10, 13, rfl, ok_X10, rfl, by decide, rfl, rfl, Or.inl (List.mem_of_getElem? (i := 171) (by decide +kernel))⟩
theorem fk_X10_42 : LkF RX10 42 9 9 9 true := ⟨RX10, TX10, 13, rfl, ok_X10, rfl, by decide, rfl, rfl, Or.inl (List.mem_of_getElem? (i := 172) (by decide +kernel))⟩
theorem fk_X10_45 : LkF RX10 45 9 10 10 true := ⟨RX10, TX10, 13, rfl, ok_X10, rfl, by decide, rfl, rfl, Or.inl (List.mem_of_getElem? (i := 173) (by decide +kernel))⟩
theorem fk_X10_49 : LkF RX10 49 9 11 11 true := ⟨RX10, TX10, 13, rfl, ok_X10, rfl, by decide, rfl, rfl, Or.inl (List.mem_of_getElem? (i := 174) (by decide +kernel))⟩
theorem fk_X10_52 : LkF RX10 52 9 12 12 true := ⟨RX10, TX10, 13, rfl, ok_X10, rfl, by decide, rfl, rfl, Or.inl (List.mem_of_getElem? (i := 175) (by decide +kernel))⟩
theorem lk_X10_55 : LkM RX10 55 yJ9_abs_0f7a4 := Or.inl (List.mem_of_getElem? (i := 420) (by decide +kernel))
theorem lk_X10_61 : LkM RX10 61 yJ9_max_7cf53 := Or.inl (List.mem_of_getElem? (i := 423) (by decide +kernel))
theorem lk_X10_65 : LkM RX10 65 yX11_isWithin := Or.inr ⟨"NewValley", (List.mem_of_getElem? (i := 411) (by decide +kernel))⟩
theorem lk_X10_69 : LkM RX10 69 yX10_boundAmong := Or.inl (List.mem_of_getElem? (i := 745) (by decide +kernel))
theorem lk_X10_72 : LkM RX10 72 yX10_placeFrom := Or.inl (List.mem_of_getElem? (i := 749) (by decide +kernel))
theorem lk_X10_76 : LkM RX10 76 yX10_keep := Or.inl (List.mem_of_getElem? (i := 753) (by decide +kernel))
theorem lk_X10_80 : LkM RX10 80 yX10_placeAt := Or.inl (List.mem_of_getElem? (i := 760) (by decide +kernel))
theorem lk_X10_84 : LkM RX10 84 yX10_drawBehind := Or.inl (List.mem_of_getElem? (i := 764) (by decide +kernel))
theorem lk_X10_87 : LkM RX10 87 yX10_drawOne := Or.inl (List.mem_of_getElem? (i := 768) (by decide +kernel))
theorem lk_X10_91 : Cond.methodLink RX10 91 arraycopyName ∈ lw_tbl := (List.mem_of_getElem? (i := 757) (by decide +kernel))
theorem lk_X11_1 : Cond.methodLink RX11 1 Lib.objectInit ∈ lw_tbl := (List.mem_of_getElem? (i := 80) (by decide +kernel))
theorem fk_X11_7 : LkF RX11 7 10 0 0 false := ⟨RX11, TX11, 12, rfl, ok_X11, rfl, by decide, rfl, rfl, Or.inl (List.mem_of_getElem? (i := 312) (by decide +kernel))⟩
theorem lk_X11_15 : LkM RX11 15 yX3_init := Or.inl (List.mem_of_getElem? (i := 85) (by decide +kernel))
theorem fk_X11_16 : LkF RX11 16 10 1 1 true := ⟨RX11, TX11, 12, rfl, ok_X11, rfl, by decide, rfl, rfl, Or.inl (List.mem_of_getElem? (i := 313) (by decide +kernel))⟩
theorem lk_X11_22 : LkM RX11 22 yX4_init := Or.inr ⟨"NewValley", (List.mem_of_getElem? (i := 99) (by decide +kernel))⟩
theorem fk_X11_23 : LkF RX11 23 10 2 2 true := ⟨RX11, TX11, 12, rfl, ok_X11, rfl, by decide, rfl, rfl, Or.inl (List.mem_of_getElem? (i := 314) (by decide +kernel))⟩
theorem lk_X11_29 : LkM RX11 29 yX0_init := Or.inl (List.mem_of_getElem? (i := 144) (by decide +kernel))
theorem fk_X11_30 : LkF RX11 30 10 3 3 true := ⟨RX11, TX11, 12, rfl, ok_X11, rfl, by decide, rfl, rfl, Or.inl (List.mem_of_getElem? (i := 315) (by decide +kernel))⟩
theorem lk_X11_36 : LkM RX11 36 yX10_init := Or.inr ⟨"NewValley", (List.mem_of_getElem? (i := 154) (by decide +kernel))⟩
theorem fk_X11_37 : LkF RX11 37 10 4 4 true := ⟨RX11, TX11, 12, rfl, ok_X11, rfl, by decide, rfl, rfl, Or.inl (List.mem_of_getElem? (i := 316) (by decide +kernel))⟩
theorem lk_X11_43 : LkM RX11 43 yX2_init := Or.inr ⟨"NewValley", (List.mem_of_getElem? (i := 205) (by decide +kernel))⟩
theorem fk_X11_44 : LkF RX11 44 10 5 5 true := ⟨RX11, TX11, 12, rfl, ok_X11, rfl, by decide, rfl, rfl, Or.inl (List.mem_of_getElem? (i := 317) (by decide +kernel))⟩
theorem lk_X11_50 : LkM RX11 50 yX8_init := Or.inr ⟨"NewValley", (List.mem_of_getElem? (i := 221) (by decide +kernel))⟩
theorem fk_X11_51 : LkF RX11 51 10 6 6 true := ⟨RX11, TX11, 12, rfl, ok_X11, rfl, by decide, rfl, rfl, Or.inl (List.mem_of_getElem? (i := 318) (by decide +kernel))⟩
theorem lk_X11_57 : LkM RX11 57 yX7_init := Or.inr ⟨"NewValley", (List.mem_of_getElem? (i := 236) (by decide +kernel))⟩
theorem fk_X11_58 : LkF RX11 58 10 7 7 true := ⟨RX11, TX11, 12, rfl, ok_X11, rfl, by decide, rfl, rfl, Or.inl (List.mem_of_getElem? (i := 319) (by decide +kernel))⟩
theorem lk_X11_64 : LkM RX11 64 yX6_init := Or.inr ⟨"NewValley", (List.mem_of_getElem? (i := 282) (by decide +kernel))⟩
theorem fk_X11_65 : LkF RX11 65 10 8 8 true := ⟨RX11, TX11, 12, rfl, ok_X11, rfl, by decide, rfl, rfl, Or.inl (List.mem_of_getElem? (i := 320) (by decide +kernel))⟩
theorem fk_X11_69 : LkF RX11 69 10 9 9 true := ⟨RX11, TX11, 12, rfl, ok_X11, rfl, by decide, rfl, rfl, Or.inl (List.mem_of_getElem? (i := 321) (by decide +kernel))⟩
theorem fk_X11_72 : LkF RX11 72 10 10 10 true := ⟨RX11, TX11, 12, rfl, ok_X11, rfl, by decide, rfl, rfl, Or.inl (List.mem_of_getElem? (i := 322) (by decide +kernel))⟩
theorem fk_X11_76 : LkF RX11 76 10 11 11 false := ⟨RX11, TX11, 12, rfl, ok_X11, rfl, by decide, rfl, rfl, Or.inl (List.mem_of_getElem? (i := 323) (by decide +kernel))⟩
theorem lk_X11_80 : LkM RX11 80 yX3_setLevel := Or.inl (List.mem_of_getElem? (i := 353) (by decide +kernel))
theorem lk_X11_84 : LkM RX11 84 yX3_setHeight := Or.inl (List.mem_of_getElem? (i := 364) (by decide +kernel))
theorem lk_X11_87 : LkM RX11 87 yX3_monthOf := Or.inl (List.mem_of_getElem? (i := 372) (by decide +kernel))
theorem lk_X11_91 : LkM RX11 91 yX11_isWithin := Or.inl (List.mem_of_getElem? (i := 380) (by decide +kernel))
theorem lk_X11_95 : LkM RX11 95 yX4_isFull := Or.inl (List.mem_of_getElem? (i := 381) (by decide +kernel))
theorem lk_X11_99 : LkM RX11 99 yX4_add := Or.inl (List.mem_of_getElem? (i := 385) (by decide +kernel))
theorem lk_X11_103 : LkM RX11 103 yX4_givePapers := Or.inl (List.mem_of_getElem? (i := 394) (by decide +kernel))
theorem lk_X11_107 : LkM RX11 107 yX4_has := Or.inl (List.mem_of_getElem? (i := 406) (by decide +kernel))
theorem lk_X11_110 : LkM RX11 110 yX10_setTies := Or.inl (List.mem_of_getElem? (i := 407) (by decide +kernel))
theorem lk_X11_113 : LkM RX11 113 yX10_addSite := Or.inl (List.mem_of_getElem? (i := 416) (by decide +kernel))
theorem lk_X11_117 : LkM RX11 117 yX2_isFull := Or.inl (List.mem_of_getElem? (i := 430) (by decide +kernel))
theorem lk_X11_118 : LkM RX11 118 yX2_add := Or.inl (List.mem_of_getElem? (i := 434) (by decide +kernel))
theorem lk_X11_120 : LkM RX11 120 yX0_setHouses := Or.inl (List.mem_of_getElem? (i := 443) (by decide +kernel))
theorem fk_X11_123 : LkF RX11 123 7 0 0 false := ⟨RX8, TX8, 2, rfl, ok_X8, rfl, by decide, rfl, rfl, Or.inr ⟨"NewValley", (List.mem_of_getElem? (i := 227) (by decide +kernel))⟩⟩
theorem lk_X11_126 : LkM RX11 126 yX8_append := Or.inl (List.mem_of_getElem? (i := 452) (by decide +kernel))
theorem lk_X11_130 : LkM RX11 130 yX8_cutTo := Or.inl (List.mem_of_getElem? (i := 460) (by decide +kernel))
theorem lk_X11_133 : LkM RX11 133 yX7_read := Or.inl (List.mem_of_getElem? (i := 468) (by decide +kernel))
theorem fk_X11_137 : LkF RX11 137 5 0 0 false := ⟨RX6, TX6, 8, rfl, ok_X6, rfl, by decide, rfl, rfl, Or.inr ⟨"NewValley", (List.mem_of_getElem? (i := 287) (by decide +kernel))⟩⟩
theorem fk_X11_140 : LkF RX11 140 6 0 0 false := ⟨RX7, TX7, 6, rfl, ok_X7, rfl, by decide, rfl, rfl, Or.inr ⟨"NewValley", (List.mem_of_getElem? (i := 260) (by decide +kernel))⟩⟩
theorem fk_X11_143 : LkF RX11 143 6 1 1 false := ⟨RX7, TX7, 6, rfl, ok_X7, rfl, by decide, rfl, rfl, Or.inr ⟨"NewValley", (List.mem_of_getElem? (i := 262) (by decide +kernel))⟩⟩
theorem fk_X11_146 : LkF RX11 146 3 0 0 false := ⟨RX4, TX4, 10, rfl, ok_X4, rfl, by decide, rfl, rfl, Or.inr ⟨"NewValley", (List.mem_of_getElem? (i := 104) (by decide +kernel))⟩⟩
theorem fk_X11_147 : LkF RX11 147 9 0 0 false := ⟨RX10, TX10, 13, rfl, ok_X10, rfl, by decide, rfl, rfl, Or.inr ⟨"NewValley", (List.mem_of_getElem? (i := 161) (by decide +kernel))⟩⟩
theorem fk_X11_150 : LkF RX11 150 1 0 0 false := ⟨RX2, TX2, 2, rfl, ok_X2, rfl, by decide, rfl, rfl, Or.inr ⟨"NewValley", (List.mem_of_getElem? (i := 211) (by decide +kernel))⟩⟩
theorem lk_X11_151 : LkM RX11 151 yX4_countReady := Or.inl (List.mem_of_getElem? (i := 661) (by decide +kernel))
theorem lk_X11_155 : LkM RX11 155 yX0_plan := Or.inl (List.mem_of_getElem? (i := 665) (by decide +kernel))
theorem lk_X11_159 : LkM RX11 159 yX4_countLate := Or.inl (List.mem_of_getElem? (i := 683) (by decide +kernel))
theorem fk_X11_162 : LkF RX11 162 3 1 1 true := ⟨RX4, TX4, 10, rfl, ok_X4, rfl, by decide, rfl, rfl, Or.inr ⟨"NewValley", (List.mem_of_getElem? (i := 106) (by decide +kernel))⟩⟩
theorem fk_X11_166 : LkF RX11 166 3 2 2 true := ⟨RX4, TX4, 10, rfl, ok_X4, rfl, by decide, rfl, rfl, Or.inr ⟨"NewValley", (List.mem_of_getElem? (i := 108) (by decide +kernel))⟩⟩
theorem fk_X11_169 : LkF RX11 169 3 3 3 true := ⟨RX4, TX4, 10, rfl, ok_X4, rfl, by decide, rfl, rfl, Or.inr ⟨"NewValley", (List.mem_of_getElem? (i := 110) (by decide +kernel))⟩⟩
theorem fk_X11_172 : LkF RX11 172 3 4 4 true := ⟨RX4, TX4, 10, rfl, ok_X4, rfl, by decide, rfl, rfl, Or.inr ⟨"NewValley", (List.mem_of_getElem? (i := 112) (by decide +kernel))⟩⟩
theorem fk_X11_175 : LkF RX11 175 3 5 5 true := ⟨RX4, TX4, 10, rfl, ok_X4, rfl, by decide, rfl, rfl, Or.inr ⟨"NewValley", (List.mem_of_getElem? (i := 114) (by decide +kernel))⟩⟩
theorem lk_X11_178 : LkM RX11 178 yX11_dueOf := Or.inl (List.mem_of_getElem? (i := 695) (by decide +kernel))
theorem lk_X11_181 : LkM RX11 181 yX4_factsOf := Or.inl (List.mem_of_getElem? (i := 699) (by decide +kernel))
theorem lk_X11_185 : LkM RX11 185 yX6_ruleFor := Or.inl (List.mem_of_getElem? (i := 707) (by decide +kernel))
theorem fk_X11_189 : LkF RX11 189 3 6 6 true := ⟨RX4, TX4, 10, rfl, ok_X4, rfl, by decide, rfl, rfl, Or.inr ⟨"NewValley", (List.mem_of_getElem? (i := 116) (by decide +kernel))⟩⟩
theorem lk_X11_192 : LkM RX11 192 yX4_isLate := Or.inl (List.mem_of_getElem? (i := 736) (by decide +kernel))
theorem lk_X11_195 : LkM RX11 195 yX10_find := Or.inl (List.mem_of_getElem? (i := 741) (by decide +kernel))
theorem fk_X11_198 : LkF RX11 198 9 6 6 true := ⟨RX10, TX10, 13, rfl, ok_X10, rfl, by decide, rfl, rfl, Or.inr ⟨"NewValley", (List.mem_of_getElem? (i := 169) (by decide +kernel))⟩⟩
theorem fk_X11_201 : LkF RX11 201 9 5 5 false := ⟨RX10, TX10, 13, rfl, ok_X10, rfl, by decide, rfl, rfl, Or.inr ⟨"NewValley", (List.mem_of_getElem? (i := 167) (by decide +kernel))⟩⟩
theorem lk_X11_204 : LkM RX11 204 yX11_findPartings := Or.inl (List.mem_of_getElem? (i := 776) (by decide +kernel))
theorem fk_X11_208 : LkF RX11 208 4 4 4 false := ⟨RX5, TX5, 7, rfl, ok_X5, rfl, by decide, rfl, rfl, Or.inr ⟨"NewValley", (List.mem_of_getElem? (i := 791) (by decide +kernel))⟩⟩
theorem lk_X11_213 : LkM RX11 213 yJ6_bitCount_0f7a4 := Or.inl (List.mem_of_getElem? (i := 852) (by decide +kernel))
theorem fk_X11_218 : LkF RX11 218 4 5 5 false := ⟨RX5, TX5, 7, rfl, ok_X5, rfl, by decide, rfl, rfl, Or.inr ⟨"NewValley", (List.mem_of_getElem? (i := 793) (by decide +kernel))⟩⟩
theorem fk_X11_221 : LkF RX11 221 4 6 6 true := ⟨RX5, TX5, 7, rfl, ok_X5, rfl, by decide, rfl, rfl, Or.inr ⟨"NewValley", (List.mem_of_getElem? (i := 795) (by decide +kernel))⟩⟩
theorem lk_X11_224 : LkM RX11 224 yX4_finishHousesBefore := Or.inl (List.mem_of_getElem? (i := 862) (by decide +kernel))
theorem lk_X11_227 : LkM RX11 227 yX6_dueBy := Or.inl (List.mem_of_getElem? (i := 729) (by decide +kernel))
theorem lk_X11_231 : LkM RX11 231 yX5_init := Or.inr ⟨"NewValley", (List.mem_of_getElem? (i := 782) (by decide +kernel))⟩
theorem lk_X11_232 : LkM RX11 232 yX5_setDue := Or.inl (List.mem_of_getElem? (i := 811) (by decide +kernel))
theorem lk_X11_236 : LkM RX11 236 yX5_find := Or.inl (List.mem_of_getElem? (i := 816) (by decide +kernel))
theorem lk_X12_1 : Cond.methodLink RX12 1 Lib.objectInit ∈ lw_tbl := (List.mem_of_getElem? (i := 871) (by decide +kernel))
theorem fk_X12_7 : LkF RX12 7 11 4 4 true := ⟨RX12, TX12, 50, rfl, ok_X12, rfl, by decide, rfl, rfl, Or.inl (List.mem_of_getElem? (i := 876) (by decide +kernel))⟩
theorem fk_X12_13 : LkF RX12 13 11 5 5 true := ⟨RX12, TX12, 50, rfl, ok_X12, rfl, by decide, rfl, rfl, Or.inl (List.mem_of_getElem? (i := 877) (by decide +kernel))⟩
theorem fk_X12_16 : LkF RX12 16 11 6 6 true := ⟨RX12, TX12, 50, rfl, ok_X12, rfl, by decide, rfl, rfl, Or.inl (List.mem_of_getElem? (i := 878) (by decide +kernel))⟩
theorem fk_X12_19 : LkF RX12 19 11 7 7 true := ⟨RX12, TX12, 50, rfl, ok_X12, rfl, by decide, rfl, rfl, Or.inl (List.mem_of_getElem? (i := 879) (by decide +kernel))⟩
theorem fk_X12_22 : LkF RX12 22 11 8 8 true := ⟨RX12, TX12, 50, rfl, ok_X12, rfl, by decide, rfl, rfl, Or.inl (List.mem_of_getElem? (i := 880) (by decide +kernel))⟩
theorem fk_X12_25 : LkF RX12 25 11 9 9 true := ⟨RX12, TX12, 50, rfl, ok_X12, rfl, by decide, rfl, rfl, Or.inl (List.mem_of_getElem? (i := 881) (by decide +kernel))⟩
theorem fk_X12_28 : LkF RX12 28 11 10 10 true := ⟨RX12, TX12, 50, rfl, ok_X12, rfl, by decide, rfl, rfl, Or.inl (List.mem_of_getElem? (i := 882) (by decide +kernel))⟩
theorem fk_X12_31 : LkF RX12 31 11 11 11 true := ⟨RX12, TX12, 50, rfl, ok_X12, rfl, by decide, rfl, rfl, Or.inl (List.mem_of_getElem? (i := 883) (by decide +kernel))⟩
theorem fk_X12_34 : LkF RX12 34 11 12 12 true := ⟨RX12, TX12, 50, rfl, ok_X12, rfl, by decide, rfl, rfl, Or.inl (List.mem_of_getElem? (i := 884) (by decide +kernel))⟩
theorem fk_X12_37 : LkF RX12 37 11 13 13 true := ⟨RX12, TX12, 50, rfl, ok_X12, rfl, by decide, rfl, rfl, Or.inl (List.mem_of_getElem? (i := 885) (by decide +kernel))⟩
theorem fk_X12_40 : LkF RX12 40 11 14 14 true := ⟨RX12, TX12, 50, rfl, ok_X12, rfl, by decide, rfl, rfl, Or.inl (List.mem_of_getElem? (i := 886) (by decide +kernel))⟩
theorem fk_X12_43 : LkF RX12 43 11 15 15 true := ⟨RX12, TX12, 50, rfl, ok_X12, rfl, by decide, rfl, rfl, Or.inl (List.mem_of_getElem? (i := 887) (by decide +kernel))⟩
theorem fk_X12_46 : LkF RX12 46 11 16 16 true := ⟨RX12, TX12, 50, rfl, ok_X12, rfl, by decide, rfl, rfl, Or.inl (List.mem_of_getElem? (i := 888) (by decide +kernel))⟩
theorem fk_X12_50 : LkF RX12 50 11 20 20 true := ⟨RX12, TX12, 50, rfl, ok_X12, rfl, by decide, rfl, rfl, Or.inl (List.mem_of_getElem? (i := 892) (by decide +kernel))⟩
theorem fk_X12_53 : LkF RX12 53 11 21 21 true := ⟨RX12, TX12, 50, rfl, ok_X12, rfl, by decide, rfl, rfl, Or.inl (List.mem_of_getElem? (i := 893) (by decide +kernel))⟩
theorem fk_X12_56 : LkF RX12 56 11 22 22 true := ⟨RX12, TX12, 50, rfl, ok_X12, rfl, by decide, rfl, rfl, Or.inl (List.mem_of_getElem? (i := 894) (by decide +kernel))⟩
theorem fk_X12_59 : LkF RX12 59 11 23 23 true := ⟨RX12, TX12, 50, rfl, ok_X12, rfl, by decide, rfl, rfl, Or.inl (List.mem_of_getElem? (i := 895) (by decide +kernel))⟩
theorem fk_X12_62 : LkF RX12 62 11 24 24 true := ⟨RX12, TX12, 50, rfl, ok_X12, rfl, by decide, rfl, rfl, Or.inl (List.mem_of_getElem? (i := 896) (by decide +kernel))⟩
theorem fk_X12_65 : LkF RX12 65 11 25 25 true := ⟨RX12, TX12, 50, rfl, ok_X12, rfl, by decide, rfl, rfl, Or.inl (List.mem_of_getElem? (i := 897) (by decide +kernel))⟩
theorem fk_X12_68 : LkF RX12 68 11 26 26 true := ⟨RX12, TX12, 50, rfl, ok_X12, rfl, by decide, rfl, rfl, Or.inl (List.mem_of_getElem? (i := 898) (by decide +kernel))⟩
theorem fk_X12_71 : LkF RX12 71 11 27 27 true := ⟨RX12, TX12, 50, rfl, ok_X12, rfl, by decide, rfl, rfl, Or.inl (List.mem_of_getElem? (i := 899) (by decide +kernel))⟩
theorem fk_X12_74 : LkF RX12 74 11 37 37 false := ⟨RX12, TX12, 50, rfl, ok_X12, rfl, by decide, rfl, rfl, Or.inl (List.mem_of_getElem? (i := 909) (by decide +kernel))⟩
theorem fk_X12_78 : LkF RX12 78 11 38 38 true := ⟨RX12, TX12, 50, rfl, ok_X12, rfl, by decide, rfl, rfl, Or.inl (List.mem_of_getElem? (i := 910) (by decide +kernel))⟩
theorem fk_X12_81 : LkF RX12 81 11 39 39 true := ⟨RX12, TX12, 50, rfl, ok_X12, rfl, by decide, rfl, rfl, Or.inl (List.mem_of_getElem? (i := 911) (by decide +kernel))⟩
theorem fk_X12_84 : LkF RX12 84 11 40 40 true := ⟨RX12, TX12, 50, rfl, ok_X12, rfl, by decide, rfl, rfl, Or.inl (List.mem_of_getElem? (i := 912) (by decide +kernel))⟩
theorem fk_X12_87 : LkF RX12 87 11 41 41 true := ⟨RX12, TX12, 50, rfl, ok_X12, rfl, by decide, rfl, rfl, Or.inl (List.mem_of_getElem? (i := 913) (by decide +kernel))⟩
theorem fk_X12_90 : LkF RX12 90 11 43 43 true := ⟨RX12, TX12, 50, rfl, ok_X12, rfl, by decide, rfl, rfl, Or.inl (List.mem_of_getElem? (i := 915) (by decide +kernel))⟩
theorem fk_X12_93 : LkF RX12 93 11 44 44 true := ⟨RX12, TX12, 50, rfl, ok_X12, rfl, by decide, rfl, rfl, Or.inl (List.mem_of_getElem? (i := 916) (by decide +kernel))⟩
theorem fk_X12_96 : LkF RX12 96 11 45 45 true := ⟨RX12, TX12, 50, rfl, ok_X12, rfl, by decide, rfl, rfl, Or.inl (List.mem_of_getElem? (i := 917) (by decide +kernel))⟩
theorem fk_X12_99 : LkF RX12 99 11 46 46 true := ⟨RX12, TX12, 50, rfl, ok_X12, rfl, by decide, rfl, rfl, Or.inl (List.mem_of_getElem? (i := 918) (by decide +kernel))⟩
theorem fk_X12_102 : LkF RX12 102 11 47 47 true := ⟨RX12, TX12, 50, rfl, ok_X12, rfl, by decide, rfl, rfl, Or.inl (List.mem_of_getElem? (i := 919) (by decide +kernel))⟩
theorem lk_X12_105 : LkM RX12 105 yX12_isIn := Or.inl (List.mem_of_getElem? (i := 1027) (by decide +kernel))
theorem fk_X12_109 : LkF RX12 109 11 1 1 false := ⟨RX12, TX12, 50, rfl, ok_X12, rfl, by decide, rfl, rfl, Or.inl (List.mem_of_getElem? (i := 873) (by decide +kernel))⟩
theorem fk_X12_112 : LkF RX12 112 11 0 0 false := ⟨RX12, TX12, 50, rfl, ok_X12, rfl, by decide, rfl, rfl, Or.inl (List.mem_of_getElem? (i := 872) (by decide +kernel))⟩
theorem lk_X12_115 : LkM RX12 115 yX12_isVillage := Or.inl (List.mem_of_getElem? (i := 1034) (by decide +kernel))
theorem lk_X12_119 : LkM RX12 119 yX12_drownedIn := Or.inl (List.mem_of_getElem? (i := 1041) (by decide +kernel))
theorem lk_X12_123 : LkM RX12 123 yX12_isHousehold := Or.inl (List.mem_of_getElem? (i := 1053) (by decide +kernel))
theorem fk_X12_126 : LkF RX12 126 11 2 2 false := ⟨RX12, TX12, 50, rfl, ok_X12, rfl, by decide, rfl, rfl, Or.inl (List.mem_of_getElem? (i := 874) (by decide +kernel))⟩
theorem fk_X12_129 : LkF RX12 129 11 3 3 false := ⟨RX12, TX12, 50, rfl, ok_X12, rfl, by decide, rfl, rfl, Or.inl (List.mem_of_getElem? (i := 875) (by decide +kernel))⟩
theorem fk_X12_132 : LkF RX12 132 11 28 28 false := ⟨RX12, TX12, 50, rfl, ok_X12, rfl, by decide, rfl, rfl, Or.inl (List.mem_of_getElem? (i := 900) (by decide +kernel))⟩
theorem fk_X12_149 : LkF RX12 149 11 29 29 false := ⟨RX12, TX12, 50, rfl, ok_X12, rfl, by decide, rfl, rfl, Or.inl (List.mem_of_getElem? (i := 901) (by decide +kernel))⟩
theorem lk_X12_152 : LkM RX12 152 yX12_see := Or.inl (List.mem_of_getElem? (i := 1089) (by decide +kernel))
theorem fk_X12_155 : LkF RX12 155 11 31 31 false := ⟨RX12, TX12, 50, rfl, ok_X12, rfl, by decide, rfl, rfl, Or.inl (List.mem_of_getElem? (i := 903) (by decide +kernel))⟩
theorem fk_X12_158 : LkF RX12 158 11 30 30 false := ⟨RX12, TX12, 50, rfl, ok_X12, rfl, by decide, rfl, rfl, Or.inl (List.mem_of_getElem? (i := 902) (by decide +kernel))⟩
theorem lk_X12_161 : LkM RX12 161 yX12_isLetter := Or.inl (List.mem_of_getElem? (i := 1093) (by decide +kernel))
theorem lk_X12_164 : LkM RX12 164 yX12_word := Or.inl (List.mem_of_getElem? (i := 1096) (by decide +kernel))
theorem lk_X12_168 : LkM RX12 168 yX12_isDigit := Or.inl (List.mem_of_getElem? (i := 1106) (by decide +kernel))
theorem fk_X12_171 : LkF RX12 171 11 32 32 false := ⟨RX12, TX12, 50, rfl, ok_X12, rfl, by decide, rfl, rfl, Or.inl (List.mem_of_getElem? (i := 904) (by decide +kernel))⟩
theorem fk_X12_174 : LkF RX12 174 11 33 33 false := ⟨RX12, TX12, 50, rfl, ok_X12, rfl, by decide, rfl, rfl, Or.inl (List.mem_of_getElem? (i := 905) (by decide +kernel))⟩
theorem fk_X12_177 : LkF RX12 177 11 34 34 false := ⟨RX12, TX12, 50, rfl, ok_X12, rfl, by decide, rfl, rfl, Or.inl (List.mem_of_getElem? (i := 906) (by decide +kernel))⟩
theorem lk_X12_180 : LkM RX12 180 yX12_bad := Or.inl (List.mem_of_getElem? (i := 1113) (by decide +kernel))
theorem lk_X12_183 : LkM RX12 183 yX12_next0 := Or.inl (List.mem_of_getElem? (i := 1085) (by decide +kernel))
theorem fk_X12_186 : LkF RX12 186 11 19 19 false := ⟨RX12, TX12, 50, rfl, ok_X12, rfl, by decide, rfl, rfl, Or.inl (List.mem_of_getElem? (i := 891) (by decide +kernel))⟩
theorem lk_X12_189 : LkM RX12 189 yX12_product := Or.inl (List.mem_of_getElem? (i := 1121) (by decide +kernel))
theorem lk_X12_193 : LkM RX12 193 yX12_lay := Or.inl (List.mem_of_getElem? (i := 1133) (by decide +kernel))
theorem lk_X12_197 : LkM RX12 197 yX12_unit := Or.inl (List.mem_of_getElem? (i := 1125) (by decide +kernel))
theorem fk_X12_200 : LkF RX12 200 11 36 36 false := ⟨RX12, TX12, 50, rfl, ok_X12, rfl, by decide, rfl, rfl, Or.inl (List.mem_of_getElem? (i := 908) (by decide +kernel))⟩
theorem lk_X12_203 : LkM RX12 203 yX12_sum := Or.inl (List.mem_of_getElem? (i := 1117) (by decide +kernel))
theorem lk_X12_206 : LkM RX12 206 yX12_need := Or.inl (List.mem_of_getElem? (i := 1129) (by decide +kernel))
theorem fk_X12_209 : LkF RX12 209 11 18 18 false := ⟨RX12, TX12, 50, rfl, ok_X12, rfl, by decide, rfl, rfl, Or.inl (List.mem_of_getElem? (i := 890) (by decide +kernel))⟩
theorem lk_X12_212 : LkM RX12 212 yX12_one := Or.inl (List.mem_of_getElem? (i := 1137) (by decide +kernel))
theorem lk_X12_215 : LkM RX12 215 yX12_aRule := Or.inl (List.mem_of_getElem? (i := 1109) (by decide +kernel))
theorem fk_X12_218 : LkF RX12 218 11 35 35 false := ⟨RX12, TX12, 50, rfl, ok_X12, rfl, by decide, rfl, rfl, Or.inl (List.mem_of_getElem? (i := 907) (by decide +kernel))⟩
theorem fk_X12_221 : LkF RX12 221 11 17 17 false := ⟨RX12, TX12, 50, rfl, ok_X12, rfl, by decide, rfl, rfl, Or.inl (List.mem_of_getElem? (i := 889) (by decide +kernel))⟩
theorem lk_X12_224 : LkM RX12 224 yX12_known := Or.inl (List.mem_of_getElem? (i := 1177) (by decide +kernel))
theorem lk_X12_228 : LkM RX12 228 yX12_both := Or.inl (List.mem_of_getElem? (i := 1181) (by decide +kernel))
theorem lk_X12_231 : LkM RX12 231 yX12_comesTo := Or.inl (List.mem_of_getElem? (i := 1173) (by decide +kernel))
theorem lk_X12_234 : LkM RX12 234 yX12_ruleOf := Or.inl (List.mem_of_getElem? (i := 1169) (by decide +kernel))
theorem lk_X12_237 : LkM RX12 237 yX12_nextOne := Or.inl (List.mem_of_getElem? (i := 1153) (by decide +kernel))
theorem lk_X12_241 : LkM RX12 241 yX12_builds := Or.inl (List.mem_of_getElem? (i := 1149) (by decide +kernel))
theorem lk_X12_244 : LkM RX12 244 yX12_isLate := Or.inl (List.mem_of_getElem? (i := 1157) (by decide +kernel))
theorem lk_X12_247 : LkM RX12 247 yX12_dueOf := Or.inl (List.mem_of_getElem? (i := 1165) (by decide +kernel))
theorem lk_X12_250 : LkM RX12 250 yX12_abs := Or.inl (List.mem_of_getElem? (i := 1200) (by decide +kernel))
theorem fk_X12_253 : LkF RX12 253 11 42 42 false := ⟨RX12, TX12, 50, rfl, ok_X12, rfl, by decide, rfl, rfl, Or.inl (List.mem_of_getElem? (i := 914) (by decide +kernel))⟩
theorem lk_X12_256 : LkM RX12 256 yX12_near := Or.inl (List.mem_of_getElem? (i := 1196) (by decide +kernel))
theorem lk_X12_260 : LkM RX12 260 yX12_ways := Or.inl (List.mem_of_getElem? (i := 1192) (by decide +kernel))
theorem lk_X12_265 : LkM RX12 265 yX12_serves := Or.inl (List.mem_of_getElem? (i := 1216) (by decide +kernel))
theorem lk_X12_268 : LkM RX12 268 yJ9_max_7cf53 := Or.inl (List.mem_of_getElem? (i := 1221) (by decide +kernel))
theorem lk_X12_273 : LkM RX12 273 yX12_weighs := Or.inl (List.mem_of_getElem? (i := 1211) (by decide +kernel))
theorem fk_X12_276 : LkF RX12 276 11 48 48 false := ⟨RX12, TX12, 50, rfl, ok_X12, rfl, by decide, rfl, rfl, Or.inl (List.mem_of_getElem? (i := 920) (by decide +kernel))⟩
theorem fk_X12_279 : LkF RX12 279 11 49 49 false := ⟨RX12, TX12, 50, rfl, ok_X12, rfl, by decide, rfl, rfl, Or.inl (List.mem_of_getElem? (i := 921) (by decide +kernel))⟩
theorem lk_X12_282 : LkM RX12 282 yX12_parts := Or.inl (List.mem_of_getElem? (i := 1207) (by decide +kernel))
theorem lk_X12_285 : LkM RX12 285 yX12_bits := Or.inl (List.mem_of_getElem? (i := 1222) (by decide +kernel))
theorem lk_J0_335 : LkM RJ0 335 yJ0_coder_7d493 := Or.inl (List.mem_of_getElem? (i := 500) (by decide +kernel))
theorem lk_J0_492 : LkM RJ0 492 yJ0_isLatin1_aae02 := Or.inl (List.mem_of_getElem? (i := 511) (by decide +kernel))
theorem lk_J0_495 : LkM RJ0 495 yJ1_charAt_3b067 := Or.inl (List.mem_of_getElem? (i := 515) (by decide +kernel))
theorem lk_J0_498 : LkM RJ0 498 yJ2_charAt_3b067 := Or.inl (List.mem_of_getElem? (i := 526) (by decide +kernel))
theorem lk_J0_1059 : LkM RJ0 1059 yJ3_checkIndex_8e157 := Or.inl (List.mem_of_getElem? (i := 523) (by decide +kernel))
theorem lk_J1_9 : LkM RJ1 9 yJ0_checkIndex_df160 := Or.inl (List.mem_of_getElem? (i := 518) (by decide +kernel))
theorem lk_J2_48 : LkM RJ2 48 yJ2_length_9d52b := Or.inl (List.mem_of_getElem? (i := 532) (by decide +kernel))
theorem lk_J2_67 : LkM RJ2 67 yJ2_checkIndex_2214a := Or.inl (List.mem_of_getElem? (i := 529) (by decide +kernel))
theorem lk_J2_71 : LkM RJ2 71 yJ2_getChar_3b067 := Or.inl (List.mem_of_getElem? (i := 536) (by decide +kernel))
theorem lk_J2_414 : LkM RJ2 414 yJ0_checkIndex_df160 := Or.inl (List.mem_of_getElem? (i := 535) (by decide +kernel))
theorem lk_L_9 : LkM RL 9 yX11_init := Or.inl (List.mem_of_getElem? (i := 77) (by decide +kernel))
theorem lk_L_12 : LkM RL 12 yX12_init := Or.inl (List.mem_of_getElem? (i := 868) (by decide +kernel))
theorem lk_L_13 : LkM RL 13 yX11_water := Or.inl (List.mem_of_getElem? (i := 349) (by decide +kernel))
theorem lk_L_17 : LkM RL 17 yX12_water := Or.inl (List.mem_of_getElem? (i := 1023) (by decide +kernel))
theorem lk_L_18 : LkM RL 18 yX11_village := Or.inl (List.mem_of_getElem? (i := 360) (by decide +kernel))
theorem lk_L_21 : LkM RL 21 yX12_village := Or.inl (List.mem_of_getElem? (i := 1030) (by decide +kernel))
theorem lk_L_22 : LkM RL 22 yX11_drowned := Or.inl (List.mem_of_getElem? (i := 368) (by decide +kernel))
theorem lk_L_26 : LkM RL 26 yX12_drowned := Or.inl (List.mem_of_getElem? (i := 1037) (by decide +kernel))
theorem lk_L_27 : LkM RL 27 yX11_household := Or.inl (List.mem_of_getElem? (i := 376) (by decide +kernel))
theorem lk_L_31 : LkM RL 31 yX12_household := Or.inl (List.mem_of_getElem? (i := 1045) (by decide +kernel))
theorem lk_L_32 : LkM RL 32 yX11_papers := Or.inl (List.mem_of_getElem? (i := 390) (by decide +kernel))
theorem lk_L_36 : LkM RL 36 yX12_papers := Or.inl (List.mem_of_getElem? (i := 1049) (by decide +kernel))
theorem lk_L_37 : LkM RL 37 yX11_tie := Or.inl (List.mem_of_getElem? (i := 402) (by decide +kernel))
theorem lk_L_41 : LkM RL 41 yX12_tie := Or.inl (List.mem_of_getElem? (i := 1057) (by decide +kernel))
theorem lk_L_42 : LkM RL 42 yX11_site := Or.inl (List.mem_of_getElem? (i := 412) (by decide +kernel))
theorem lk_L_46 : LkM RL 46 yX12_site := Or.inl (List.mem_of_getElem? (i := 1061) (by decide +kernel))
theorem lk_L_47 : LkM RL 47 yX11_field := Or.inl (List.mem_of_getElem? (i := 426) (by decide +kernel))
theorem lk_L_50 : LkM RL 50 yX12_field := Or.inl (List.mem_of_getElem? (i := 1065) (by decide +kernel))
theorem lk_L_51 : LkM RL 51 yX11_builders := Or.inl (List.mem_of_getElem? (i := 439) (by decide +kernel))
theorem lk_L_54 : LkM RL 54 yX12_builders := Or.inl (List.mem_of_getElem? (i := 1069) (by decide +kernel))
theorem lk_L_55 : LkM RL 55 yX11_feed := Or.inl (List.mem_of_getElem? (i := 448) (by decide +kernel))
theorem lk_L_59 : LkM RL 59 yX12_feed := Or.inl (List.mem_of_getElem? (i := 1073) (by decide +kernel))
theorem lk_L_60 : LkM RL 60 yX11_end := Or.inl (List.mem_of_getElem? (i := 456) (by decide +kernel))
theorem lk_L_63 : LkM RL 63 yX12_end := Or.inl (List.mem_of_getElem? (i := 1077) (by decide +kernel))
theorem lk_L_64 : LkM RL 64 yX11_rules := Or.inl (List.mem_of_getElem? (i := 464) (by decide +kernel))
theorem lk_L_68 : LkM RL 68 yX12_rules := Or.inl (List.mem_of_getElem? (i := 1081) (by decide +kernel))
theorem lk_L_69 : LkM RL 69 yX11_fault := Or.inl (List.mem_of_getElem? (i := 653) (by decide +kernel))
theorem lk_L_72 : LkM RL 72 yX12_fault := Or.inl (List.mem_of_getElem? (i := 1141) (by decide +kernel))
theorem lk_L_73 : LkM RL 73 yX11_look := Or.inl (List.mem_of_getElem? (i := 657) (by decide +kernel))
theorem lk_L_76 : LkM RL 76 yX12_look := Or.inl (List.mem_of_getElem? (i := 1145) (by decide +kernel))
theorem lk_L_77 : LkM RL 77 yX11_of := Or.inl (List.mem_of_getElem? (i := 691) (by decide +kernel))
theorem lk_L_80 : LkM RL 80 yX12_of := Or.inl (List.mem_of_getElem? (i := 1161) (by decide +kernel))
theorem lk_L_81 : LkM RL 81 yX11_best := Or.inl (List.mem_of_getElem? (i := 737) (by decide +kernel))
theorem lk_L_84 : LkM RL 84 yX12_best := Or.inl (List.mem_of_getElem? (i := 1188) (by decide +kernel))
theorem lk_L_85 : LkM RL 85 yX11_part := Or.inl (List.mem_of_getElem? (i := 772) (by decide +kernel))
theorem lk_L_88 : LkM RL 88 yX12_part := Or.inl (List.mem_of_getElem? (i := 1203) (by decide +kernel))
theorem lk_L_89 : LkM RL 89 yX11_months := Or.inl (List.mem_of_getElem? (i := 858) (by decide +kernel))
theorem lk_L_92 : LkM RL 92 yX12_months := Or.inl (List.mem_of_getElem? (i := 1184) (by decide +kernel))
theorem kc_X5_87 : Cond.constant RX5 87 (jI (4194304)) ∈ lw_tbl := (List.mem_of_getElem? (i := 846) (by decide +kernel))
theorem kc_J6_265 : Cond.constant RJ6 265 (jI (1431655765)) ∈ lw_tbl := (List.mem_of_getElem? (i := 855) (by decide +kernel))
theorem kc_J6_266 : Cond.constant RJ6 266 (jI (858993459)) ∈ lw_tbl := (List.mem_of_getElem? (i := 856) (by decide +kernel))
theorem kc_J6_267 : Cond.constant RJ6 267 (jI (252645135)) ∈ lw_tbl := (List.mem_of_getElem? (i := 857) (by decide +kernel))
theorem kc_X12_135 : Cond.constantLong RX12 135 1734964837 ∈ lw_tbl := (List.mem_of_getElem? (i := 1099) (by decide +kernel))
theorem kc_X12_137 : Cond.constantLong RX12 137 2003330414 ∈ lw_tbl := (List.mem_of_getElem? (i := 1100) (by decide +kernel))
theorem kc_X12_139 : Cond.constantLong RX12 139 6385252 ∈ lw_tbl := (List.mem_of_getElem? (i := 1101) (by decide +kernel))
theorem kc_X12_141 : Cond.constantLong RX12 141 123580963646565 ∈ lw_tbl := (List.mem_of_getElem? (i := 1102) (by decide +kernel))
theorem kc_X12_143 : Cond.constantLong RX12 143 1818324580 ∈ lw_tbl := (List.mem_of_getElem? (i := 1103) (by decide +kernel))
theorem kc_X12_145 : Cond.constantLong RX12 145 500135454067 ∈ lw_tbl := (List.mem_of_getElem? (i := 1104) (by decide +kernel))
theorem kc_X12_147 : Cond.constantLong RX12 147 123563799835251 ∈ lw_tbl := (List.mem_of_getElem? (i := 1105) (by decide +kernel))
theorem kc_X12_264 : Cond.constant RX12 264 (jI (-1000000)) ∈ lw_tbl := (List.mem_of_getElem? (i := 1215) (by decide +kernel))
theorem kc_X12_263 : Cond.constant RX12 263 (jI (100000)) ∈ lw_tbl := (List.mem_of_getElem? (i := 1220) (by decide +kernel))
theorem oi_1 : Cond.instanceMethod Lib.objectInit ∈ lw_tbl := (List.mem_of_getElem? (i := 81) (by decide +kernel))
theorem oi_2 : Cond.code Lib.objectInit ⟨#[0xb1]⟩ 1 none ∈ lw_tbl := (List.mem_of_getElem? (i := 82) (by decide +kernel))
