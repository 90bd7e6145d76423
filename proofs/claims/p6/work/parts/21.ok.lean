/-! ===== what is checked of them ===== -/
set_option maxRecDepth 100000 in
theorem ok_X0_canBe : mj_ok1 mj_tab mt_X0_canBe = true := mj_ok1_mk (mj_cm0 (mj_wi_in 571) (mj_wi_in 355) (mj_wi_in 572) (mj_wi_in 573) rfl (by decide +kernel)) (fd_fa_0 (by decide +kernel)) (by decide +kernel)
set_option maxRecDepth 100000 in
theorem ok_X0_costOf : mj_ok1 mj_tab mt_X0_costOf = true := mj_ok1_mk (mj_cm0 (mj_wi_in 574) (mj_wi_in 355) (mj_wi_in 575) (mj_wi_in 576) rfl (by decide +kernel)) (fd_fa_0 (by decide +kernel)) (by decide +kernel)
set_option maxRecDepth 100000 in
theorem ok_X0_firstForNothing : mj_ok1 mj_tab mt_X0_firstForNothing = true := mj_ok1_mk (mj_cm0 (mj_wi_in 577) (mj_wi_in 355) (mj_wi_in 578) (mj_wi_in 579) rfl (by decide +kernel)) (fd_fa_0 (by decide +kernel)) (by decide +kernel)
set_option maxRecDepth 100000 in
theorem ok_X0_init : mj_ok1 mj_tab mt_X0_init = true := mj_ok1_mk (mj_cm2 (mj_wi_in 580) (mj_wi_in 355) (mj_wi_in 581) rfl (by decide +kernel)) (fd_fa_0 (by decide +kernel)) (by decide +kernel)
set_option maxRecDepth 100000 in
theorem ok_X0_keepPath : mj_ok1 mj_tab mt_X0_keepPath = true := mj_ok1_mk (mj_cm0 (mj_wi_in 582) (mj_wi_in 355) (mj_wi_in 583) (mj_wi_in 584) rfl (by decide +kernel)) (fd_fa_0 (by decide +kernel)) (by decide +kernel)
set_option maxRecDepth 100000 in
theorem ok_X0_keepTail : mj_ok1 mj_tab mt_X0_keepTail = true := mj_ok1_mk (mj_cm0 (mj_wi_in 585) (mj_wi_in 355) (mj_wi_in 586) (mj_wi_in 587) rfl (by decide +kernel)) (fd_fa_0 (by decide +kernel)) (by decide +kernel)
set_option maxRecDepth 100000 in
theorem ok_X0_lacksAny : mj_ok1 mj_tab mt_X0_lacksAny = true := mj_ok1_mk (mj_cm0 (mj_wi_in 588) (mj_wi_in 355) (mj_wi_in 589) (mj_wi_in 590) rfl (by decide +kernel)) (fd_fa_0 (by decide +kernel)) (by decide +kernel)
set_option maxRecDepth 100000 in
theorem ok_X0_leastToCome : mj_ok1 mj_tab mt_X0_leastToCome = true := mj_ok1_mk (mj_cm0 (mj_wi_in 591) (mj_wi_in 355) (mj_wi_in 592) (mj_wi_in 593) rfl (by decide +kernel)) (fd_fa_0 (by decide +kernel)) (by decide +kernel)
set_option maxRecDepth 100000 in
theorem ok_X0_listTails : mj_ok1 mj_tab mt_X0_listTails = true := mj_ok1_mk (mj_cm0 (mj_wi_in 594) (mj_wi_in 355) (mj_wi_in 595) (mj_wi_in 596) rfl (by decide +kernel)) (fd_fa_0 (by decide +kernel)) (by decide +kernel)
set_option maxRecDepth 100000 in
theorem ok_X0_meetsNeeds : mj_ok1 mj_tab mt_X0_meetsNeeds = true := mj_ok1_mk (mj_cm0 (mj_wi_in 597) (mj_wi_in 355) (mj_wi_in 598) (mj_wi_in 599) rfl (by decide +kernel)) (fd_fa_0 (by decide +kernel)) (by decide +kernel)
set_option maxRecDepth 100000 in
theorem ok_X0_prepare : mj_ok1 mj_tab mt_X0_prepare = true := mj_ok1_mk (mj_cm0 (mj_wi_in 600) (mj_wi_in 355) (mj_wi_in 601) (mj_wi_in 602) rfl (by decide +kernel)) (fd_fa_0 (by decide +kernel)) (by decide +kernel)
set_option maxRecDepth 100000 in
theorem ok_X0_putAhead : mj_ok1 mj_tab mt_X0_putAhead = true := mj_ok1_mk (mj_cm0 (mj_wi_in 603) (mj_wi_in 355) (mj_wi_in 604) (mj_wi_in 605) rfl (by decide +kernel)) (fd_fa_0 (by decide +kernel)) (by decide +kernel)
set_option maxRecDepth 100000 in
theorem ok_X0_searchPlan : mj_ok1 mj_tab mt_X0_searchPlan = true := mj_ok1_mk (mj_cm0 (mj_wi_in 606) (mj_wi_in 355) (mj_wi_in 607) (mj_wi_in 608) rfl (by decide +kernel)) (fd_fa_0 (by decide +kernel)) (by decide +kernel)
set_option maxRecDepth 100000 in
theorem ok_X0_solve : mj_ok1 mj_tab mt_X0_solve = true := mj_ok1_mk (mj_cm0 (mj_wi_in 609) (mj_wi_in 355) (mj_wi_in 610) (mj_wi_in 611) rfl (by decide +kernel)) (fd_fa_0 (by decide +kernel)) (by decide +kernel)
set_option maxRecDepth 100000 in
theorem ok_X0_stayFrom : mj_ok1 mj_tab mt_X0_stayFrom = true := mj_ok1_mk (mj_cm0 (mj_wi_in 612) (mj_wi_in 355) (mj_wi_in 613) (mj_wi_in 614) rfl (by decide +kernel)) (fd_fa_0 (by decide +kernel)) (by decide +kernel)
set_option maxRecDepth 100000 in
theorem ok_X0_tryMonth : mj_ok1 mj_tab mt_X0_tryMonth = true := mj_ok1_mk (mj_cm0 (mj_wi_in 615) (mj_wi_in 355) (mj_wi_in 616) (mj_wi_in 617) rfl (by decide +kernel)) (fd_fa_0 (by decide +kernel)) (by decide +kernel)
set_option maxRecDepth 100000 in
theorem ok_X0_tryTails : mj_ok1 mj_tab mt_X0_tryTails = true := mj_ok1_mk (mj_cm0 (mj_wi_in 618) (mj_wi_in 355) (mj_wi_in 619) (mj_wi_in 620) rfl (by decide +kernel)) (fd_fa_0 (by decide +kernel)) (by decide +kernel)
set_option maxRecDepth 100000 in
theorem ok_X1_clear : mj_ok1 mj_tab mt_X1_clear = true := mj_ok1_mk (mj_cm0 (mj_wi_in 621) (mj_wi_in 221) (mj_wi_in 622) (mj_wi_in 623) rfl (by decide +kernel)) (fd_fa_0 (by decide +kernel)) (by decide +kernel)
set_option maxRecDepth 100000 in
theorem ok_X1_copy : mj_ok1 mj_tab mt_X1_copy = true := mj_ok1_mk (mj_cm0 (mj_wi_in 624) (mj_wi_in 221) (mj_wi_in 625) (mj_wi_in 626) rfl (by decide +kernel)) (fd_fa_0 (by decide +kernel)) (by decide +kernel)
set_option maxRecDepth 100000 in
theorem ok_X1_init : mj_ok1 mj_tab mt_X1_init = true := mj_ok1_mk (mj_cm2 (mj_wi_in 627) (mj_wi_in 221) (mj_wi_in 628) rfl (by decide +kernel)) (fd_fa_0 (by decide +kernel)) (by decide +kernel)
set_option maxRecDepth 100000 in
theorem ok_X1_readLet : mj_ok1 mj_tab mt_X1_readLet = true := mj_ok1_mk (mj_cm0 (mj_wi_in 629) (mj_wi_in 221) (mj_wi_in 630) (mj_wi_in 631) rfl (by decide +kernel)) (fd_fa_0 (by decide +kernel)) (by decide +kernel)
set_option maxRecDepth 100000 in
theorem ok_X1_readRow : mj_ok1 mj_tab mt_X1_readRow = true := mj_ok1_mk (mj_cm0 (mj_wi_in 632) (mj_wi_in 221) (mj_wi_in 633) (mj_wi_in 634) rfl (by decide +kernel)) (fd_fa_0 (by decide +kernel)) (by decide +kernel)
set_option maxRecDepth 100000 in
theorem ok_X1_readRows : mj_ok1 mj_tab mt_X1_readRows = true := mj_ok1_mk (mj_cm0 (mj_wi_in 635) (mj_wi_in 221) (mj_wi_in 636) (mj_wi_in 637) rfl (by decide +kernel)) (fd_fa_0 (by decide +kernel)) (by decide +kernel)
set_option maxRecDepth 100000 in
theorem ok_X1_tell : mj_ok1 mj_tab mt_X1_tell = true := mj_ok1_mk (mj_cm0 (mj_wi_in 638) (mj_wi_in 221) (mj_wi_in 639) (mj_wi_in 640) rfl (by decide +kernel)) (fd_fa_0 (by decide +kernel)) (by decide +kernel)
set_option maxRecDepth 100000 in
theorem ok_X1_tells : mj_ok1 mj_tab mt_X1_tells = true := mj_ok1_mk (mj_cm0 (mj_wi_in 641) (mj_wi_in 221) (mj_wi_in 642) (mj_wi_in 643) rfl (by decide +kernel)) (fd_fa_0 (by decide +kernel)) (by decide +kernel)
set_option maxRecDepth 100000 in
theorem ok_X2_asTold : mj_ok1 mj_tab mt_X2_asTold = true := mj_ok1_mk (mj_cm0 (mj_wi_in 644) (mj_wi_in 363) (mj_wi_in 645) (mj_wi_in 646) rfl (by decide +kernel)) (fd_fa_0 (by decide +kernel)) (by decide +kernel)
set_option maxRecDepth 100000 in
theorem ok_X2_comesBy : mj_ok1 mj_tab mt_X2_comesBy = true := mj_ok1_mk (mj_cm0 (mj_wi_in 647) (mj_wi_in 363) (mj_wi_in 648) (mj_wi_in 649) rfl (by decide +kernel)) (fd_fa_0 (by decide +kernel)) (by decide +kernel)
set_option maxRecDepth 100000 in
theorem ok_X2_init : mj_ok1 mj_tab mt_X2_init = true := mj_ok1_mk (mj_cm2 (mj_wi_in 650) (mj_wi_in 363) (mj_wi_in 651) rfl (by decide +kernel)) (fd_fa_0 (by decide +kernel)) (by decide +kernel)
set_option maxRecDepth 100000 in
theorem ok_X2_keep : mj_ok1 mj_tab mt_X2_keep = true := mj_ok1_mk (mj_cm0 (mj_wi_in 652) (mj_wi_in 363) (mj_wi_in 653) (mj_wi_in 654) rfl (by decide +kernel)) (fd_fa_0 (by decide +kernel)) (by decide +kernel)
set_option maxRecDepth 100000 in
theorem ok_X2_readLevels : mj_ok1 mj_tab mt_X2_readLevels = true := mj_ok1_mk (mj_cm0 (mj_wi_in 655) (mj_wi_in 363) (mj_wi_in 656) (mj_wi_in 657) rfl (by decide +kernel)) (fd_fa_0 (by decide +kernel)) (by decide +kernel)
set_option maxRecDepth 100000 in
theorem ok_X2_run : mj_ok1 mj_tab mt_X2_run = true := mj_ok1_mk (mj_cm0 (mj_wi_in 658) (mj_wi_in 363) (mj_wi_in 659) (mj_wi_in 660) rfl (by decide +kernel)) (fd_fa_0 (by decide +kernel)) (by decide +kernel)
set_option maxRecDepth 100000 in
theorem ok_X3_clear : mj_ok1 mj_tab mt_X3_clear = true := mj_ok1_mk (mj_cm0 (mj_wi_in 661) (mj_wi_in 217) (mj_wi_in 662) (mj_wi_in 663) rfl (by decide +kernel)) (fd_fa_0 (by decide +kernel)) (by decide +kernel)
set_option maxRecDepth 100000 in
theorem ok_X3_copy : mj_ok1 mj_tab mt_X3_copy = true := mj_ok1_mk (mj_cm0 (mj_wi_in 664) (mj_wi_in 217) (mj_wi_in 665) (mj_wi_in 666) rfl (by decide +kernel)) (fd_fa_0 (by decide +kernel)) (by decide +kernel)
set_option maxRecDepth 100000 in
theorem ok_X3_find : mj_ok1 mj_tab mt_X3_find = true := mj_ok1_mk (mj_cm0 (mj_wi_in 667) (mj_wi_in 217) (mj_wi_in 668) (mj_wi_in 669) rfl (by decide +kernel)) (fd_fa_0 (by decide +kernel)) (by decide +kernel)
set_option maxRecDepth 100000 in
theorem ok_X3_gain : mj_ok1 mj_tab mt_X3_gain = true := mj_ok1_mk (mj_cm0 (mj_wi_in 670) (mj_wi_in 217) (mj_wi_in 671) (mj_wi_in 672) rfl (by decide +kernel)) (fd_fa_0 (by decide +kernel)) (by decide +kernel)
set_option maxRecDepth 100000 in
theorem ok_X3_init : mj_ok1 mj_tab mt_X3_init = true := mj_ok1_mk (mj_cm2 (mj_wi_in 673) (mj_wi_in 217) (mj_wi_in 674) rfl (by decide +kernel)) (fd_fa_0 (by decide +kernel)) (by decide +kernel)
set_option maxRecDepth 100000 in
theorem ok_X3_nextTown : mj_ok1 mj_tab mt_X3_nextTown = true := mj_ok1_mk (mj_cm0 (mj_wi_in 675) (mj_wi_in 217) (mj_wi_in 676) (mj_wi_in 677) rfl (by decide +kernel)) (fd_fa_0 (by decide +kernel)) (by decide +kernel)
set_option maxRecDepth 100000 in
theorem ok_X3_placeOf : mj_ok1 mj_tab mt_X3_placeOf = true := mj_ok1_mk (mj_cm0 (mj_wi_in 678) (mj_wi_in 217) (mj_wi_in 679) (mj_wi_in 680) rfl (by decide +kernel)) (fd_fa_0 (by decide +kernel)) (by decide +kernel)
set_option maxRecDepth 100000 in
theorem ok_X3_readAboutTown : mj_ok1 mj_tab mt_X3_readAboutTown = true := mj_ok1_mk (mj_cm0 (mj_wi_in 681) (mj_wi_in 217) (mj_wi_in 682) (mj_wi_in 683) rfl (by decide +kernel)) (fd_fa_0 (by decide +kernel)) (by decide +kernel)
set_option maxRecDepth 100000 in
theorem ok_X3_readBid : mj_ok1 mj_tab mt_X3_readBid = true := mj_ok1_mk (mj_cm0 (mj_wi_in 684) (mj_wi_in 217) (mj_wi_in 685) (mj_wi_in 686) rfl (by decide +kernel)) (fd_fa_0 (by decide +kernel)) (by decide +kernel)
set_option maxRecDepth 100000 in
theorem ok_X3_readFish : mj_ok1 mj_tab mt_X3_readFish = true := mj_ok1_mk (mj_cm0 (mj_wi_in 687) (mj_wi_in 217) (mj_wi_in 688) (mj_wi_in 689) rfl (by decide +kernel)) (fd_fa_0 (by decide +kernel)) (by decide +kernel)
set_option maxRecDepth 100000 in
theorem ok_X3_readMove : mj_ok1 mj_tab mt_X3_readMove = true := mj_ok1_mk (mj_cm0 (mj_wi_in 690) (mj_wi_in 217) (mj_wi_in 691) (mj_wi_in 692) rfl (by decide +kernel)) (fd_fa_0 (by decide +kernel)) (by decide +kernel)
set_option maxRecDepth 100000 in
theorem ok_X3_readPatience : mj_ok1 mj_tab mt_X3_readPatience = true := mj_ok1_mk (mj_cm0 (mj_wi_in 693) (mj_wi_in 217) (mj_wi_in 694) (mj_wi_in 695) rfl (by decide +kernel)) (fd_fa_0 (by decide +kernel)) (by decide +kernel)
set_option maxRecDepth 100000 in
theorem ok_X3_readRow : mj_ok1 mj_tab mt_X3_readRow = true := mj_ok1_mk (mj_cm0 (mj_wi_in 696) (mj_wi_in 217) (mj_wi_in 697) (mj_wi_in 698) rfl (by decide +kernel)) (fd_fa_0 (by decide +kernel)) (by decide +kernel)
set_option maxRecDepth 100000 in
theorem ok_X3_readRows : mj_ok1 mj_tab mt_X3_readRows = true := mj_ok1_mk (mj_cm0 (mj_wi_in 699) (mj_wi_in 217) (mj_wi_in 700) (mj_wi_in 701) rfl (by decide +kernel)) (fd_fa_0 (by decide +kernel)) (by decide +kernel)
set_option maxRecDepth 100000 in
theorem ok_X3_readTown : mj_ok1 mj_tab mt_X3_readTown = true := mj_ok1_mk (mj_cm0 (mj_wi_in 702) (mj_wi_in 217) (mj_wi_in 703) (mj_wi_in 704) rfl (by decide +kernel)) (fd_fa_0 (by decide +kernel)) (by decide +kernel)
set_option maxRecDepth 100000 in
theorem ok_X3_readWater : mj_ok1 mj_tab mt_X3_readWater = true := mj_ok1_mk (mj_cm0 (mj_wi_in 705) (mj_wi_in 217) (mj_wi_in 706) (mj_wi_in 707) rfl (by decide +kernel)) (fd_fa_0 (by decide +kernel)) (by decide +kernel)
set_option maxRecDepth 100000 in
theorem ok_X3_setBid : mj_ok1 mj_tab mt_X3_setBid = true := mj_ok1_mk (mj_cm0 (mj_wi_in 708) (mj_wi_in 217) (mj_wi_in 709) (mj_wi_in 710) rfl (by decide +kernel)) (fd_fa_0 (by decide +kernel)) (by decide +kernel)
set_option maxRecDepth 100000 in
theorem ok_X3_townHere : mj_ok1 mj_tab mt_X3_townHere = true := mj_ok1_mk (mj_cm0 (mj_wi_in 711) (mj_wi_in 217) (mj_wi_in 712) (mj_wi_in 713) rfl (by decide +kernel)) (fd_fa_0 (by decide +kernel)) (by decide +kernel)
set_option maxRecDepth 100000 in
theorem ok_X4_clear : mj_ok1 mj_tab mt_X4_clear = true := mj_ok1_mk (mj_cm0 (mj_wi_in 714) (mj_wi_in 359) (mj_wi_in 715) (mj_wi_in 716) rfl (by decide +kernel)) (fd_fa_0 (by decide +kernel)) (by decide +kernel)
set_option maxRecDepth 100000 in
theorem ok_X4_init : mj_ok1 mj_tab mt_X4_init = true := mj_ok1_mk (mj_cm2 (mj_wi_in 717) (mj_wi_in 359) (mj_wi_in 718) rfl (by decide +kernel)) (fd_fa_0 (by decide +kernel)) (by decide +kernel)
set_option maxRecDepth 100000 in
theorem ok_X4_priceNow : mj_ok1 mj_tab mt_X4_priceNow = true := mj_ok1_mk (mj_cm0 (mj_wi_in 719) (mj_wi_in 359) (mj_wi_in 720) (mj_wi_in 721) rfl (by decide +kernel)) (fd_fa_0 (by decide +kernel)) (by decide +kernel)
set_option maxRecDepth 100000 in
theorem ok_X4_run : mj_ok1 mj_tab mt_X4_run = true := mj_ok1_mk (mj_cm0 (mj_wi_in 722) (mj_wi_in 359) (mj_wi_in 723) (mj_wi_in 724) rfl (by decide +kernel)) (fd_fa_0 (by decide +kernel)) (by decide +kernel)
set_option maxRecDepth 100000 in
theorem ok_X4_takeBest : mj_ok1 mj_tab mt_X4_takeBest = true := mj_ok1_mk (mj_cm0 (mj_wi_in 725) (mj_wi_in 359) (mj_wi_in 726) (mj_wi_in 727) rfl (by decide +kernel)) (fd_fa_0 (by decide +kernel)) (by decide +kernel)
set_option maxRecDepth 100000 in
theorem ok_X5_add : mj_ok1 mj_tab mt_X5_add = true := mj_ok1_mk (mj_cm0 (mj_wi_in 728) (mj_wi_in 225) (mj_wi_in 729) (mj_wi_in 730) rfl (by decide +kernel)) (fd_fa_0 (by decide +kernel)) (by decide +kernel)
set_option maxRecDepth 100000 in
theorem ok_X5_begins : mj_ok1 mj_tab mt_X5_begins = true := mj_ok1_mk (mj_cm1 (mj_wi_in 731) (mj_wi_in 225) (mj_wi_in 732) rfl (by decide +kernel)) (fd_fa_0 (by decide +kernel)) (by decide +kernel)
set_option maxRecDepth 100000 in
theorem ok_X5_clear : mj_ok1 mj_tab mt_X5_clear = true := mj_ok1_mk (mj_cm0 (mj_wi_in 733) (mj_wi_in 225) (mj_wi_in 734) (mj_wi_in 735) rfl (by decide +kernel)) (fd_fa_0 (by decide +kernel)) (by decide +kernel)
set_option maxRecDepth 100000 in
theorem ok_X5_copy : mj_ok1 mj_tab mt_X5_copy = true := mj_ok1_mk (mj_cm0 (mj_wi_in 736) (mj_wi_in 225) (mj_wi_in 737) (mj_wi_in 738) rfl (by decide +kernel)) (fd_fa_0 (by decide +kernel)) (by decide +kernel)
set_option maxRecDepth 100000 in
theorem ok_X5_holds : mj_ok1 mj_tab mt_X5_holds = true := mj_ok1_mk (mj_cm0 (mj_wi_in 739) (mj_wi_in 225) (mj_wi_in 740) (mj_wi_in 741) rfl (by decide +kernel)) (fd_fa_0 (by decide +kernel)) (by decide +kernel)
set_option maxRecDepth 100000 in
theorem ok_X5_holdsOne : mj_ok1 mj_tab mt_X5_holdsOne = true := mj_ok1_mk (mj_cm0 (mj_wi_in 742) (mj_wi_in 225) (mj_wi_in 743) (mj_wi_in 744) rfl (by decide +kernel)) (fd_fa_0 (by decide +kernel)) (by decide +kernel)
set_option maxRecDepth 100000 in
theorem ok_X5_init : mj_ok1 mj_tab mt_X5_init = true := mj_ok1_mk (mj_cm2 (mj_wi_in 745) (mj_wi_in 225) (mj_wi_in 746) rfl (by decide +kernel)) (fd_fa_0 (by decide +kernel)) (by decide +kernel)
set_option maxRecDepth 100000 in
theorem ok_X5_readAll : mj_ok1 mj_tab mt_X5_readAll = true := mj_ok1_mk (mj_cm0 (mj_wi_in 747) (mj_wi_in 225) (mj_wi_in 748) (mj_wi_in 749) rfl (by decide +kernel)) (fd_fa_0 (by decide +kernel)) (by decide +kernel)
set_option maxRecDepth 100000 in
theorem ok_X5_readClosing : mj_ok1 mj_tab mt_X5_readClosing = true := mj_ok1_mk (mj_cm0 (mj_wi_in 750) (mj_wi_in 225) (mj_wi_in 751) (mj_wi_in 752) rfl (by decide +kernel)) (fd_fa_0 (by decide +kernel)) (by decide +kernel)
set_option maxRecDepth 100000 in
theorem ok_X5_readCond : mj_ok1 mj_tab mt_X5_readCond = true := mj_ok1_mk (mj_cm0 (mj_wi_in 753) (mj_wi_in 225) (mj_wi_in 754) (mj_wi_in 755) rfl (by decide +kernel)) (fd_fa_0 (by decide +kernel)) (by decide +kernel)
set_option maxRecDepth 100000 in
theorem ok_X5_readMeasure : mj_ok1 mj_tab mt_X5_readMeasure = true := mj_ok1_mk (mj_cm0 (mj_wi_in 756) (mj_wi_in 225) (mj_wi_in 757) (mj_wi_in 758) rfl (by decide +kernel)) (fd_fa_0 (by decide +kernel)) (by decide +kernel)
set_option maxRecDepth 100000 in
theorem ok_X5_readOne : mj_ok1 mj_tab mt_X5_readOne = true := mj_ok1_mk (mj_cm0 (mj_wi_in 759) (mj_wi_in 225) (mj_wi_in 760) (mj_wi_in 761) rfl (by decide +kernel)) (fd_fa_0 (by decide +kernel)) (by decide +kernel)
set_option maxRecDepth 100000 in
theorem ok_X5_readText : mj_ok1 mj_tab mt_X5_readText = true := mj_ok1_mk (mj_cm0 (mj_wi_in 762) (mj_wi_in 225) (mj_wi_in 763) (mj_wi_in 764) rfl (by decide +kernel)) (fd_fa_0 (by decide +kernel)) (by decide +kernel)
set_option maxRecDepth 100000 in
theorem ok_X6_copy : mj_ok1 mj_tab mt_X6_copy = true := mj_ok1_mk (mj_cm0 (mj_wi_in 765) (mj_wi_in 346) (mj_wi_in 766) (mj_wi_in 767) rfl (by decide +kernel)) (fd_fa_0 (by decide +kernel)) (by decide +kernel)
set_option maxRecDepth 100000 in
theorem ok_X6_init : mj_ok1 mj_tab mt_X6_init = true := mj_ok1_mk (mj_cm2 (mj_wi_in 768) (mj_wi_in 346) (mj_wi_in 769) rfl (by decide +kernel)) (fd_fa_0 (by decide +kernel)) (by decide +kernel)
set_option maxRecDepth 100000 in
theorem ok_X7_advance : mj_ok1 mj_tab mt_X7_advance = true := mj_ok1_mk (mj_cm0 (mj_wi_in 770) (mj_wi_in 342) (mj_wi_in 771) (mj_wi_in 772) rfl (by decide +kernel)) (fd_fa_0 (by decide +kernel)) (by decide +kernel)
set_option maxRecDepth 100000 in
theorem ok_X7_finish : mj_ok1 mj_tab mt_X7_finish = true := mj_ok1_mk (mj_cm0 (mj_wi_in 773) (mj_wi_in 342) (mj_wi_in 774) (mj_wi_in 775) rfl (by decide +kernel)) (fd_fa_0 (by decide +kernel)) (by decide +kernel)
set_option maxRecDepth 100000 in
theorem ok_X7_hasRoom : mj_ok1 mj_tab mt_X7_hasRoom = true := mj_ok1_mk (mj_cm0 (mj_wi_in 776) (mj_wi_in 342) (mj_wi_in 777) (mj_wi_in 778) rfl (by decide +kernel)) (fd_fa_0 (by decide +kernel)) (by decide +kernel)
set_option maxRecDepth 100000 in
theorem ok_X7_init : mj_ok1 mj_tab mt_X7_init = true := mj_ok1_mk (mj_cm2 (mj_wi_in 779) (mj_wi_in 342) (mj_wi_in 780) rfl (by decide +kernel)) (fd_fa_0 (by decide +kernel)) (by decide +kernel)
set_option maxRecDepth 100000 in
theorem ok_X7_isDigit : mj_ok1 mj_tab mt_X7_isDigit = true := mj_ok1_mk (mj_cm1 (mj_wi_in 781) (mj_wi_in 342) (mj_wi_in 782) rfl (by decide +kernel)) (fd_fa_0 (by decide +kernel)) (by decide +kernel)
set_option maxRecDepth 100000 in
theorem ok_X7_isLetter : mj_ok1 mj_tab mt_X7_isLetter = true := mj_ok1_mk (mj_cm1 (mj_wi_in 783) (mj_wi_in 342) (mj_wi_in 784) rfl (by decide +kernel)) (fd_fa_0 (by decide +kernel)) (by decide +kernel)
set_option maxRecDepth 100000 in
theorem ok_X7_isSign : mj_ok1 mj_tab mt_X7_isSign = true := mj_ok1_mk (mj_cm0 (mj_wi_in 785) (mj_wi_in 342) (mj_wi_in 786) (mj_wi_in 787) rfl (by decide +kernel)) (fd_fa_0 (by decide +kernel)) (by decide +kernel)
set_option maxRecDepth 100000 in
theorem ok_X7_nameHere : mj_ok1 mj_tab mt_X7_nameHere = true := mj_ok1_mk (mj_cm0 (mj_wi_in 788) (mj_wi_in 342) (mj_wi_in 789) (mj_wi_in 790) rfl (by decide +kernel)) (fd_fa_0 (by decide +kernel)) (by decide +kernel)
set_option maxRecDepth 100000 in
theorem ok_X7_nextNumber : mj_ok1 mj_tab mt_X7_nextNumber = true := mj_ok1_mk (mj_cm0 (mj_wi_in 791) (mj_wi_in 342) (mj_wi_in 792) (mj_wi_in 793) rfl (by decide +kernel)) (fd_fa_0 (by decide +kernel)) (by decide +kernel)
set_option maxRecDepth 100000 in
theorem ok_X7_nextSign : mj_ok1 mj_tab mt_X7_nextSign = true := mj_ok1_mk (mj_cm0 (mj_wi_in 794) (mj_wi_in 342) (mj_wi_in 795) (mj_wi_in 796) rfl (by decide +kernel)) (fd_fa_0 (by decide +kernel)) (by decide +kernel)
set_option maxRecDepth 100000 in
theorem ok_X7_numberHere : mj_ok1 mj_tab mt_X7_numberHere = true := mj_ok1_mk (mj_cm0 (mj_wi_in 797) (mj_wi_in 342) (mj_wi_in 798) (mj_wi_in 799) rfl (by decide +kernel)) (fd_fa_0 (by decide +kernel)) (by decide +kernel)
set_option maxRecDepth 100000 in
theorem ok_X7_open : mj_ok1 mj_tab mt_X7_open = true := mj_ok1_mk (mj_cm0 (mj_wi_in 800) (mj_wi_in 342) (mj_wi_in 801) (mj_wi_in 802) rfl (by decide +kernel)) (fd_fa_0 (by decide +kernel)) (by decide +kernel)
set_option maxRecDepth 100000 in
theorem ok_X7_put : mj_ok1 mj_tab mt_X7_put = true := mj_ok1_mk (mj_cm0 (mj_wi_in 803) (mj_wi_in 342) (mj_wi_in 804) (mj_wi_in 805) rfl (by decide +kernel)) (fd_fa_0 (by decide +kernel)) (by decide +kernel)
set_option maxRecDepth 100000 in
theorem ok_X7_readRun : mj_ok1 mj_tab mt_X7_readRun = true := mj_ok1_mk (mj_cm0 (mj_wi_in 806) (mj_wi_in 342) (mj_wi_in 807) (mj_wi_in 808) rfl (by decide +kernel)) (fd_fa_0 (by decide +kernel)) (by decide +kernel)
set_option maxRecDepth 100000 in
theorem ok_X7_refuse : mj_ok1 mj_tab mt_X7_refuse = true := mj_ok1_mk (mj_cm0 (mj_wi_in 809) (mj_wi_in 342) (mj_wi_in 810) (mj_wi_in 811) rfl (by decide +kernel)) (fd_fa_0 (by decide +kernel)) (by decide +kernel)
set_option maxRecDepth 100000 in
theorem ok_X7_valueAt : mj_ok1 mj_tab mt_X7_valueAt = true := mj_ok1_mk (mj_cm0 (mj_wi_in 812) (mj_wi_in 342) (mj_wi_in 813) (mj_wi_in 814) rfl (by decide +kernel)) (fd_fa_0 (by decide +kernel)) (by decide +kernel)
set_option maxRecDepth 100000 in
theorem ok_X8_back : mj_ok1 mj_tab mt_X8_back = true := mj_ok1_mk (mj_cm0 (mj_wi_in 815) (mj_wi_in 350) (mj_wi_in 816) (mj_wi_in 817) rfl (by decide +kernel)) (fd_fa_0 (by decide +kernel)) (by decide +kernel)
set_option maxRecDepth 100000 in
theorem ok_X8_init : mj_ok1 mj_tab mt_X8_init = true := mj_ok1_mk (mj_cm2 (mj_wi_in 818) (mj_wi_in 350) (mj_wi_in 819) rfl (by decide +kernel)) (fd_fa_0 (by decide +kernel)) (by decide +kernel)
set_option maxRecDepth 100000 in
theorem ok_X8_keep : mj_ok1 mj_tab mt_X8_keep = true := mj_ok1_mk (mj_cm0 (mj_wi_in 820) (mj_wi_in 350) (mj_wi_in 821) (mj_wi_in 822) rfl (by decide +kernel)) (fd_fa_0 (by decide +kernel)) (by decide +kernel)
set_option maxRecDepth 100000 in
theorem ok_X10_bridgeTo : mj_ok1 mj_tab mt_X10_bridgeTo = true := mj_ok1_mk (mj_cm0 (mj_wi_in 823) (mj_wi_in 89) (mj_wi_in 824) (mj_wi_in 825) rfl (by decide +kernel)) (fd_fa_0 (by decide +kernel)) (by decide +kernel)
set_option maxRecDepth 100000 in
theorem ok_X10_canPay : mj_ok1 mj_tab mt_X10_canPay = true := mj_ok1_mk (mj_cm0 (mj_wi_in 826) (mj_wi_in 89) (mj_wi_in 827) (mj_wi_in 828) rfl (by decide +kernel)) (fd_fa_0 (by decide +kernel)) (by decide +kernel)
set_option maxRecDepth 100000 in
theorem ok_X10_copy : mj_ok1 mj_tab mt_X10_copy = true := mj_ok1_mk (mj_cm0 (mj_wi_in 829) (mj_wi_in 89) (mj_wi_in 830) (mj_wi_in 831) rfl (by decide +kernel)) (fd_fa_0 (by decide +kernel)) (by decide +kernel)
set_option maxRecDepth 100000 in
theorem ok_X10_draw : mj_ok1 mj_tab mt_X10_draw = true := mj_ok1_mk (mj_cm0 (mj_wi_in 832) (mj_wi_in 89) (mj_wi_in 833) (mj_wi_in 834) rfl (by decide +kernel)) (fd_fa_0 (by decide +kernel)) (by decide +kernel)
set_option maxRecDepth 100000 in
theorem ok_X10_drink : mj_ok1 mj_tab mt_X10_drink = true := mj_ok1_mk (mj_cm0 (mj_wi_in 835) (mj_wi_in 89) (mj_wi_in 836) (mj_wi_in 837) rfl (by decide +kernel)) (fd_fa_0 (by decide +kernel)) (by decide +kernel)
set_option maxRecDepth 100000 in
theorem ok_X10_goOn : mj_ok1 mj_tab mt_X10_goOn = true := mj_ok1_mk (mj_cm0 (mj_wi_in 838) (mj_wi_in 89) (mj_wi_in 839) (mj_wi_in 840) rfl (by decide +kernel)) (fd_fa_0 (by decide +kernel)) (by decide +kernel)
set_option maxRecDepth 100000 in
theorem ok_X10_harvest : mj_ok1 mj_tab mt_X10_harvest = true := mj_ok1_mk (mj_cm0 (mj_wi_in 841) (mj_wi_in 89) (mj_wi_in 842) (mj_wi_in 843) rfl (by decide +kernel)) (fd_fa_0 (by decide +kernel)) (by decide +kernel)
set_option maxRecDepth 100000 in
theorem ok_X10_inPonds : mj_ok1 mj_tab mt_X10_inPonds = true := mj_ok1_mk (mj_cm0 (mj_wi_in 844) (mj_wi_in 89) (mj_wi_in 845) (mj_wi_in 846) rfl (by decide +kernel)) (fd_fa_0 (by decide +kernel)) (by decide +kernel)
set_option maxRecDepth 100000 in
theorem ok_X10_init : mj_ok1 mj_tab mt_X10_init = true := mj_ok1_mk (mj_cm2 (mj_wi_in 847) (mj_wi_in 89) (mj_wi_in 848) rfl (by decide +kernel)) (fd_fa_0 (by decide +kernel)) (by decide +kernel)
set_option maxRecDepth 100000 in
theorem ok_X10_lacks : mj_ok1 mj_tab mt_X10_lacks = true := mj_ok1_mk (mj_cm0 (mj_wi_in 849) (mj_wi_in 89) (mj_wi_in 850) (mj_wi_in 851) rfl (by decide +kernel)) (fd_fa_0 (by decide +kernel)) (by decide +kernel)
set_option maxRecDepth 100000 in
theorem ok_X10_leakFrom : mj_ok1 mj_tab mt_X10_leakFrom = true := mj_ok1_mk (mj_cm0 (mj_wi_in 852) (mj_wi_in 89) (mj_wi_in 853) (mj_wi_in 854) rfl (by decide +kernel)) (fd_fa_0 (by decide +kernel)) (by decide +kernel)
set_option maxRecDepth 100000 in
theorem ok_X10_leastBid : mj_ok1 mj_tab mt_X10_leastBid = true := mj_ok1_mk (mj_cm0 (mj_wi_in 855) (mj_wi_in 89) (mj_wi_in 856) (mj_wi_in 857) rfl (by decide +kernel)) (fd_fa_0 (by decide +kernel)) (by decide +kernel)
set_option maxRecDepth 100000 in
theorem ok_X10_letByBids : mj_ok1 mj_tab mt_X10_letByBids = true := mj_ok1_mk (mj_cm0 (mj_wi_in 858) (mj_wi_in 89) (mj_wi_in 859) (mj_wi_in 860) rfl (by decide +kernel)) (fd_fa_0 (by decide +kernel)) (by decide +kernel)
set_option maxRecDepth 100000 in
theorem ok_X10_letByContract : mj_ok1 mj_tab mt_X10_letByContract = true := mj_ok1_mk (mj_cm0 (mj_wi_in 861) (mj_wi_in 89) (mj_wi_in 862) (mj_wi_in 863) rfl (by decide +kernel)) (fd_fa_0 (by decide +kernel)) (by decide +kernel)
set_option maxRecDepth 100000 in
theorem ok_X10_moveRiver : mj_ok1 mj_tab mt_X10_moveRiver = true := mj_ok1_mk (mj_cm0 (mj_wi_in 864) (mj_wi_in 89) (mj_wi_in 865) (mj_wi_in 866) rfl (by decide +kernel)) (fd_fa_0 (by decide +kernel)) (by decide +kernel)
set_option maxRecDepth 100000 in
theorem ok_X10_nextMonth : mj_ok1 mj_tab mt_X10_nextMonth = true := mj_ok1_mk (mj_cm0 (mj_wi_in 867) (mj_wi_in 89) (mj_wi_in 868) (mj_wi_in 869) rfl (by decide +kernel)) (fd_fa_0 (by decide +kernel)) (by decide +kernel)
set_option maxRecDepth 100000 in
theorem ok_X10_number : mj_ok1 mj_tab mt_X10_number = true := mj_ok1_mk (mj_cm0 (mj_wi_in 870) (mj_wi_in 89) (mj_wi_in 871) (mj_wi_in 872) rfl (by decide +kernel)) (fd_fa_0 (by decide +kernel)) (by decide +kernel)
set_option maxRecDepth 100000 in
theorem ok_X10_pay : mj_ok1 mj_tab mt_X10_pay = true := mj_ok1_mk (mj_cm0 (mj_wi_in 873) (mj_wi_in 89) (mj_wi_in 874) (mj_wi_in 875) rfl (by decide +kernel)) (fd_fa_0 (by decide +kernel)) (by decide +kernel)
set_option maxRecDepth 100000 in
theorem ok_X10_pour : mj_ok1 mj_tab mt_X10_pour = true := mj_ok1_mk (mj_cm0 (mj_wi_in 876) (mj_wi_in 89) (mj_wi_in 877) (mj_wi_in 878) rfl (by decide +kernel)) (fd_fa_0 (by decide +kernel)) (by decide +kernel)
set_option maxRecDepth 100000 in
theorem ok_X10_pourTo : mj_ok1 mj_tab mt_X10_pourTo = true := mj_ok1_mk (mj_cm0 (mj_wi_in 879) (mj_wi_in 89) (mj_wi_in 880) (mj_wi_in 881) rfl (by decide +kernel)) (fd_fa_0 (by decide +kernel)) (by decide +kernel)
set_option maxRecDepth 100000 in
theorem ok_X10_start : mj_ok1 mj_tab mt_X10_start = true := mj_ok1_mk (mj_cm0 (mj_wi_in 882) (mj_wi_in 89) (mj_wi_in 883) (mj_wi_in 884) rfl (by decide +kernel)) (fd_fa_0 (by decide +kernel)) (by decide +kernel)
set_option maxRecDepth 100000 in
theorem ok_X10_waterField : mj_ok1 mj_tab mt_X10_waterField = true := mj_ok1_mk (mj_cm0 (mj_wi_in 885) (mj_wi_in 89) (mj_wi_in 886) (mj_wi_in 887) rfl (by decide +kernel)) (fd_fa_0 (by decide +kernel)) (by decide +kernel)
set_option maxRecDepth 100000 in
theorem ok_X11_begin : mj_ok1 mj_tab mt_X11_begin = true := mj_ok1_mk (mj_cm0 (mj_wi_in 888) (mj_wi_in 889) (mj_wi_in 890) (mj_wi_in 891) rfl (by decide +kernel)) (fd_fa_0 (by decide +kernel)) (by decide +kernel)
set_option maxRecDepth 100000 in
theorem ok_X11_bid : mj_ok1 mj_tab mt_X11_bid = true := mj_ok1_mk (mj_cm0 (mj_wi_in 892) (mj_wi_in 889) (mj_wi_in 893) (mj_wi_in 894) rfl (by decide +kernel)) (fd_fa_0 (by decide +kernel)) (by decide +kernel)
set_option maxRecDepth 100000 in
theorem ok_X11_bidsOf : mj_ok1 mj_tab mt_X11_bidsOf = true := mj_ok1_mk (mj_cm0 (mj_wi_in 895) (mj_wi_in 889) (mj_wi_in 896) (mj_wi_in 897) rfl (by decide +kernel)) (fd_fa_0 (by decide +kernel)) (by decide +kernel)
set_option maxRecDepth 100000 in
theorem ok_X11_byteAt : mj_ok1 mj_tab mt_X11_byteAt = true := mj_ok1_mk (mj_cm0 (mj_wi_in 898) (mj_wi_in 889) (mj_wi_in 899) (mj_wi_in 900) rfl (by decide +kernel)) (fd_fa_0 (by decide +kernel)) (by decide +kernel)
set_option maxRecDepth 100000 in
theorem ok_X11_cheapest : mj_ok1 mj_tab mt_X11_cheapest = true := mj_ok1_mk (mj_cm0 (mj_wi_in 901) (mj_wi_in 889) (mj_wi_in 902) (mj_wi_in 903) rfl (by decide +kernel)) (fd_fa_0 (by decide +kernel)) (by decide +kernel)
set_option maxRecDepth 100000 in
theorem ok_X11_closeTape : mj_ok1 mj_tab mt_X11_closeTape = true := mj_ok1_mk (mj_cm0 (mj_wi_in 904) (mj_wi_in 889) (mj_wi_in 905) (mj_wi_in 906) rfl (by decide +kernel)) (fd_fa_0 (by decide +kernel)) (by decide +kernel)
set_option maxRecDepth 100000 in
theorem ok_X11_contract : mj_ok1 mj_tab mt_X11_contract = true := mj_ok1_mk (mj_cm0 (mj_wi_in 907) (mj_wi_in 889) (mj_wi_in 908) (mj_wi_in 909) rfl (by decide +kernel)) (fd_fa_0 (by decide +kernel)) (by decide +kernel)
set_option maxRecDepth 100000 in
theorem ok_X11_contracts : mj_ok1 mj_tab mt_X11_contracts = true := mj_ok1_mk (mj_cm0 (mj_wi_in 910) (mj_wi_in 889) (mj_wi_in 911) (mj_wi_in 912) rfl (by decide +kernel)) (fd_fa_0 (by decide +kernel)) (by decide +kernel)
set_option maxRecDepth 100000 in
theorem ok_X11_count : mj_ok1 mj_tab mt_X11_count = true := mj_ok1_mk (mj_cm0 (mj_wi_in 913) (mj_wi_in 889) (mj_wi_in 914) (mj_wi_in 915) rfl (by decide +kernel)) (fd_fa_0 (by decide +kernel)) (by decide +kernel)
set_option maxRecDepth 100000 in
theorem ok_X11_drawn : mj_ok1 mj_tab mt_X11_drawn = true := mj_ok1_mk (mj_cm0 (mj_wi_in 916) (mj_wi_in 889) (mj_wi_in 917) (mj_wi_in 918) rfl (by decide +kernel)) (fd_fa_0 (by decide +kernel)) (by decide +kernel)
set_option maxRecDepth 100000 in
theorem ok_X11_droughts : mj_ok1 mj_tab mt_X11_droughts = true := mj_ok1_mk (mj_cm0 (mj_wi_in 919) (mj_wi_in 889) (mj_wi_in 920) (mj_wi_in 921) rfl (by decide +kernel)) (fd_fa_0 (by decide +kernel)) (by decide +kernel)
set_option maxRecDepth 100000 in
theorem ok_X11_end : mj_ok1 mj_tab mt_X11_end = true := mj_ok1_mk (mj_cm0 (mj_wi_in 922) (mj_wi_in 889) (mj_wi_in 923) (mj_wi_in 924) rfl (by decide +kernel)) (fd_fa_0 (by decide +kernel)) (by decide +kernel)
set_option maxRecDepth 100000 in
theorem ok_X11_enough : mj_ok1 mj_tab mt_X11_enough = true := mj_ok1_mk (mj_cm0 (mj_wi_in 925) (mj_wi_in 889) (mj_wi_in 926) (mj_wi_in 927) rfl (by decide +kernel)) (fd_fa_0 (by decide +kernel)) (by decide +kernel)
set_option maxRecDepth 100000 in
theorem ok_X11_fault : mj_ok1 mj_tab mt_X11_fault = true := mj_ok1_mk (mj_cm0 (mj_wi_in 928) (mj_wi_in 889) (mj_wi_in 929) (mj_wi_in 930) rfl (by decide +kernel)) (fd_fa_0 (by decide +kernel)) (by decide +kernel)
set_option maxRecDepth 100000 in
theorem ok_X11_feed : mj_ok1 mj_tab mt_X11_feed = true := mj_ok1_mk (mj_cm0 (mj_wi_in 931) (mj_wi_in 889) (mj_wi_in 932) (mj_wi_in 933) rfl (by decide +kernel)) (fd_fa_0 (by decide +kernel)) (by decide +kernel)
set_option maxRecDepth 100000 in
theorem ok_X11_greatest : mj_ok1 mj_tab mt_X11_greatest = true := mj_ok1_mk (mj_cm0 (mj_wi_in 934) (mj_wi_in 889) (mj_wi_in 935) (mj_wi_in 936) rfl (by decide +kernel)) (fd_fa_0 (by decide +kernel)) (by decide +kernel)
set_option maxRecDepth 100000 in
theorem ok_X11_has : mj_ok1 mj_tab mt_X11_has = true := mj_ok1_mk (mj_cm0 (mj_wi_in 937) (mj_wi_in 889) (mj_wi_in 938) (mj_wi_in 939) rfl (by decide +kernel)) (fd_fa_0 (by decide +kernel)) (by decide +kernel)
set_option maxRecDepth 100000 in
theorem ok_X11_image : mj_ok1 mj_tab mt_X11_image = true := mj_ok1_mk (mj_cm0 (mj_wi_in 940) (mj_wi_in 889) (mj_wi_in 941) (mj_wi_in 942) rfl (by decide +kernel)) (fd_fa_0 (by decide +kernel)) (by decide +kernel)
set_option maxRecDepth 100000 in
theorem ok_X11_init : mj_ok1 mj_tab mt_X11_init = true := mj_ok1_mk (mj_cm2 (mj_wi_in 943) (mj_wi_in 889) (mj_wi_in 944) rfl (by decide +kernel)) (fd_fa_0 (by decide +kernel)) (by decide +kernel)
set_option maxRecDepth 100000 in
theorem ok_X11_isMonth : mj_ok1 mj_tab mt_X11_isMonth = true := mj_ok1_mk (mj_cm1 (mj_wi_in 945) (mj_wi_in 889) (mj_wi_in 946) rfl (by decide +kernel)) (fd_fa_0 (by decide +kernel)) (by decide +kernel)
set_option maxRecDepth 100000 in
theorem ok_X11_isTown : mj_ok1 mj_tab mt_X11_isTown = true := mj_ok1_mk (mj_cm0 (mj_wi_in 947) (mj_wi_in 889) (mj_wi_in 948) (mj_wi_in 949) rfl (by decide +kernel)) (fd_fa_0 (by decide +kernel)) (by decide +kernel)
set_option maxRecDepth 100000 in
theorem ok_X11_leak : mj_ok1 mj_tab mt_X11_leak = true := mj_ok1_mk (mj_cm0 (mj_wi_in 950) (mj_wi_in 889) (mj_wi_in 951) (mj_wi_in 952) rfl (by decide +kernel)) (fd_fa_0 (by decide +kernel)) (by decide +kernel)
set_option maxRecDepth 100000 in
theorem ok_X11_leaks : mj_ok1 mj_tab mt_X11_leaks = true := mj_ok1_mk (mj_cm0 (mj_wi_in 953) (mj_wi_in 889) (mj_wi_in 954) (mj_wi_in 955) rfl (by decide +kernel)) (fd_fa_0 (by decide +kernel)) (by decide +kernel)
set_option maxRecDepth 100000 in
theorem ok_X11_let : mj_ok1 mj_tab mt_X11_let = true := mj_ok1_mk (mj_cm0 (mj_wi_in 956) (mj_wi_in 889) (mj_wi_in 957) (mj_wi_in 958) rfl (by decide +kernel)) (fd_fa_0 (by decide +kernel)) (by decide +kernel)
set_option maxRecDepth 100000 in
theorem ok_X11_mostGain : mj_ok1 mj_tab mt_X11_mostGain = true := mj_ok1_mk (mj_cm0 (mj_wi_in 959) (mj_wi_in 889) (mj_wi_in 960) (mj_wi_in 961) rfl (by decide +kernel)) (fd_fa_0 (by decide +kernel)) (by decide +kernel)
set_option maxRecDepth 100000 in
theorem ok_X11_must : mj_ok1 mj_tab mt_X11_must = true := mj_ok1_mk (mj_cm0 (mj_wi_in 962) (mj_wi_in 889) (mj_wi_in 963) (mj_wi_in 964) rfl (by decide +kernel)) (fd_fa_0 (by decide +kernel)) (by decide +kernel)
set_option maxRecDepth 100000 in
theorem ok_X11_offer : mj_ok1 mj_tab mt_X11_offer = true := mj_ok1_mk (mj_cm0 (mj_wi_in 965) (mj_wi_in 889) (mj_wi_in 966) (mj_wi_in 967) rfl (by decide +kernel)) (fd_fa_0 (by decide +kernel)) (by decide +kernel)
set_option maxRecDepth 100000 in
theorem ok_X11_on : mj_ok1 mj_tab mt_X11_on = true := mj_ok1_mk (mj_cm0 (mj_wi_in 968) (mj_wi_in 889) (mj_wi_in 969) (mj_wi_in 970) rfl (by decide +kernel)) (fd_fa_0 (by decide +kernel)) (by decide +kernel)
set_option maxRecDepth 100000 in
theorem ok_X11_plain : mj_ok1 mj_tab mt_X11_plain = true := mj_ok1_mk (mj_cm0 (mj_wi_in 971) (mj_wi_in 889) (mj_wi_in 972) (mj_wi_in 973) rfl (by decide +kernel)) (fd_fa_0 (by decide +kernel)) (by decide +kernel)
set_option maxRecDepth 100000 in
theorem ok_X11_plan : mj_ok1 mj_tab mt_X11_plan = true := mj_ok1_mk (mj_cm0 (mj_wi_in 974) (mj_wi_in 889) (mj_wi_in 975) (mj_wi_in 976) rfl (by decide +kernel)) (fd_fa_0 (by decide +kernel)) (by decide +kernel)
set_option maxRecDepth 100000 in
theorem ok_X11_price : mj_ok1 mj_tab mt_X11_price = true := mj_ok1_mk (mj_cm0 (mj_wi_in 977) (mj_wi_in 889) (mj_wi_in 978) (mj_wi_in 979) rfl (by decide +kernel)) (fd_fa_0 (by decide +kernel)) (by decide +kernel)
set_option maxRecDepth 100000 in
theorem ok_X11_putByte : mj_ok1 mj_tab mt_X11_putByte = true := mj_ok1_mk (mj_cm0 (mj_wi_in 980) (mj_wi_in 889) (mj_wi_in 981) (mj_wi_in 982) rfl (by decide +kernel)) (fd_fa_0 (by decide +kernel)) (by decide +kernel)
set_option maxRecDepth 100000 in
theorem ok_X11_putNumber : mj_ok1 mj_tab mt_X11_putNumber = true := mj_ok1_mk (mj_cm0 (mj_wi_in 983) (mj_wi_in 889) (mj_wi_in 984) (mj_wi_in 985) rfl (by decide +kernel)) (fd_fa_0 (by decide +kernel)) (by decide +kernel)
set_option maxRecDepth 100000 in
theorem ok_X11_putTenant : mj_ok1 mj_tab mt_X11_putTenant = true := mj_ok1_mk (mj_cm0 (mj_wi_in 986) (mj_wi_in 889) (mj_wi_in 987) (mj_wi_in 988) rfl (by decide +kernel)) (fd_fa_0 (by decide +kernel)) (by decide +kernel)
set_option maxRecDepth 100000 in
theorem ok_X11_restore : mj_ok1 mj_tab mt_X11_restore = true := mj_ok1_mk (mj_cm0 (mj_wi_in 989) (mj_wi_in 889) (mj_wi_in 990) (mj_wi_in 991) rfl (by decide +kernel)) (fd_fa_0 (by decide +kernel)) (by decide +kernel)
set_option maxRecDepth 100000 in
theorem ok_X11_rounds : mj_ok1 mj_tab mt_X11_rounds = true := mj_ok1_mk (mj_cm0 (mj_wi_in 992) (mj_wi_in 889) (mj_wi_in 993) (mj_wi_in 994) rfl (by decide +kernel)) (fd_fa_0 (by decide +kernel)) (by decide +kernel)
set_option maxRecDepth 100000 in
theorem ok_X11_said : mj_ok1 mj_tab mt_X11_said = true := mj_ok1_mk (mj_cm0 (mj_wi_in 995) (mj_wi_in 889) (mj_wi_in 996) (mj_wi_in 997) rfl (by decide +kernel)) (fd_fa_0 (by decide +kernel)) (by decide +kernel)
set_option maxRecDepth 100000 in
theorem ok_X11_sentence : mj_ok1 mj_tab mt_X11_sentence = true := mj_ok1_mk (mj_cm0 (mj_wi_in 998) (mj_wi_in 889) (mj_wi_in 999) (mj_wi_in 1000) rfl (by decide +kernel)) (fd_fa_0 (by decide +kernel)) (by decide +kernel)
set_option maxRecDepth 100000 in
theorem ok_X11_shores : mj_ok1 mj_tab mt_X11_shores = true := mj_ok1_mk (mj_cm0 (mj_wi_in 1001) (mj_wi_in 889) (mj_wi_in 1002) (mj_wi_in 1003) rfl (by decide +kernel)) (fd_fa_0 (by decide +kernel)) (by decide +kernel)
set_option maxRecDepth 100000 in
theorem ok_X11_shoresOf : mj_ok1 mj_tab mt_X11_shoresOf = true := mj_ok1_mk (mj_cm0 (mj_wi_in 1004) (mj_wi_in 889) (mj_wi_in 1005) (mj_wi_in 1006) rfl (by decide +kernel)) (fd_fa_0 (by decide +kernel)) (by decide +kernel)
set_option maxRecDepth 100000 in
theorem ok_X11_take : mj_ok1 mj_tab mt_X11_take = true := mj_ok1_mk (mj_cm0 (mj_wi_in 1007) (mj_wi_in 889) (mj_wi_in 1008) (mj_wi_in 1009) rfl (by decide +kernel)) (fd_fa_0 (by decide +kernel)) (by decide +kernel)
set_option maxRecDepth 100000 in
theorem ok_X11_thirsty : mj_ok1 mj_tab mt_X11_thirsty = true := mj_ok1_mk (mj_cm0 (mj_wi_in 1010) (mj_wi_in 889) (mj_wi_in 1011) (mj_wi_in 1012) rfl (by decide +kernel)) (fd_fa_0 (by decide +kernel)) (by decide +kernel)
set_option maxRecDepth 100000 in
theorem ok_X11_town : mj_ok1 mj_tab mt_X11_town = true := mj_ok1_mk (mj_cm0 (mj_wi_in 1013) (mj_wi_in 889) (mj_wi_in 1014) (mj_wi_in 1015) rfl (by decide +kernel)) (fd_fa_0 (by decide +kernel)) (by decide +kernel)
set_option maxRecDepth 100000 in
theorem ok_X11_tryYear : mj_ok1 mj_tab mt_X11_tryYear = true := mj_ok1_mk (mj_cm0 (mj_wi_in 1016) (mj_wi_in 889) (mj_wi_in 1017) (mj_wi_in 1018) rfl (by decide +kernel)) (fd_fa_0 (by decide +kernel)) (by decide +kernel)
set_option maxRecDepth 100000 in
theorem ok_X11_undo : mj_ok1 mj_tab mt_X11_undo = true := mj_ok1_mk (mj_cm0 (mj_wi_in 1019) (mj_wi_in 889) (mj_wi_in 1020) (mj_wi_in 1021) rfl (by decide +kernel)) (fd_fa_0 (by decide +kernel)) (by decide +kernel)
set_option maxRecDepth 100000 in
theorem ok_X11_water : mj_ok1 mj_tab mt_X11_water = true := mj_ok1_mk (mj_cm0 (mj_wi_in 1022) (mj_wi_in 889) (mj_wi_in 1023) (mj_wi_in 1024) rfl (by decide +kernel)) (fd_fa_0 (by decide +kernel)) (by decide +kernel)
set_option maxRecDepth 100000 in
theorem ok_X11_wettest : mj_ok1 mj_tab mt_X11_wettest = true := mj_ok1_mk (mj_cm0 (mj_wi_in 1025) (mj_wi_in 889) (mj_wi_in 1026) (mj_wi_in 1027) rfl (by decide +kernel)) (fd_fa_0 (by decide +kernel)) (by decide +kernel)
set_option maxRecDepth 100000 in
theorem ok_X11_worth : mj_ok1 mj_tab mt_X11_worth = true := mj_ok1_mk (mj_cm0 (mj_wi_in 1028) (mj_wi_in 889) (mj_wi_in 1029) (mj_wi_in 1030) rfl (by decide +kernel)) (fd_fa_0 (by decide +kernel)) (by decide +kernel)
set_option maxRecDepth 100000 in
theorem ok_X11_write : mj_ok1 mj_tab mt_X11_write = true := mj_ok1_mk (mj_cm0 (mj_wi_in 1031) (mj_wi_in 889) (mj_wi_in 1032) (mj_wi_in 1033) rfl (by decide +kernel)) (fd_fa_0 (by decide +kernel)) (by decide +kernel)
set_option maxRecDepth 100000 in
theorem ok_X11_year : mj_ok1 mj_tab mt_X11_year = true := mj_ok1_mk (mj_cm0 (mj_wi_in 1034) (mj_wi_in 889) (mj_wi_in 1035) (mj_wi_in 1036) rfl (by decide +kernel)) (fd_fa_0 (by decide +kernel)) (by decide +kernel)
set_option maxRecDepth 100000 in
theorem ok_X12_areLevels : mj_ok1 mj_tab mt_X12_areLevels = true := mj_ok1_mk (mj_cm0 (mj_wi_in 1037) (mj_wi_in 1038) (mj_wi_in 1039) (mj_wi_in 1040) rfl (by decide +kernel)) (fd_fa_0 (by decide +kernel)) (by decide +kernel)
set_option maxRecDepth 100000 in
theorem ok_X12_bad : mj_ok1 mj_tab mt_X12_bad = true := mj_ok1_mk (mj_cm0 (mj_wi_in 1041) (mj_wi_in 1038) (mj_wi_in 1042) (mj_wi_in 1043) rfl (by decide +kernel)) (fd_fa_0 (by decide +kernel)) (by decide +kernel)
set_option maxRecDepth 100000 in
theorem ok_X12_begin : mj_ok1 mj_tab mt_X12_begin = true := mj_ok1_mk (mj_cm0 (mj_wi_in 1044) (mj_wi_in 1038) (mj_wi_in 1045) (mj_wi_in 1046) rfl (by decide +kernel)) (fd_fa_0 (by decide +kernel)) (by decide +kernel)
set_option maxRecDepth 100000 in
theorem ok_X12_begins : mj_ok1 mj_tab mt_X12_begins = true := mj_ok1_mk (mj_cm0 (mj_wi_in 1047) (mj_wi_in 1038) (mj_wi_in 1048) (mj_wi_in 1049) rfl (by decide +kernel)) (fd_fa_0 (by decide +kernel)) (by decide +kernel)
set_option maxRecDepth 100000 in
theorem ok_X12_behind : mj_ok1 mj_tab mt_X12_behind = true := mj_ok1_mk (mj_cm0 (mj_wi_in 1050) (mj_wi_in 1038) (mj_wi_in 1051) (mj_wi_in 1052) rfl (by decide +kernel)) (fd_fa_0 (by decide +kernel)) (by decide +kernel)
set_option maxRecDepth 100000 in
theorem ok_X12_bid : mj_ok1 mj_tab mt_X12_bid = true := mj_ok1_mk (mj_cm0 (mj_wi_in 1053) (mj_wi_in 1038) (mj_wi_in 1054) (mj_wi_in 1055) rfl (by decide +kernel)) (fd_fa_0 (by decide +kernel)) (by decide +kernel)
set_option maxRecDepth 100000 in
theorem ok_X12_bidMany : mj_ok1 mj_tab mt_X12_bidMany = true := mj_ok1_mk (mj_cm0 (mj_wi_in 1056) (mj_wi_in 1038) (mj_wi_in 1057) (mj_wi_in 1058) rfl (by decide +kernel)) (fd_fa_0 (by decide +kernel)) (by decide +kernel)
set_option maxRecDepth 100000 in
theorem ok_X12_bidOf : mj_ok1 mj_tab mt_X12_bidOf = true := mj_ok1_mk (mj_cm0 (mj_wi_in 1059) (mj_wi_in 1038) (mj_wi_in 1060) (mj_wi_in 1061) rfl (by decide +kernel)) (fd_fa_0 (by decide +kernel)) (by decide +kernel)
set_option maxRecDepth 100000 in
theorem ok_X12_bidsOf : mj_ok1 mj_tab mt_X12_bidsOf = true := mj_ok1_mk (mj_cm0 (mj_wi_in 1062) (mj_wi_in 1038) (mj_wi_in 1063) (mj_wi_in 1064) rfl (by decide +kernel)) (fd_fa_0 (by decide +kernel)) (by decide +kernel)
set_option maxRecDepth 100000 in
theorem ok_X12_bitOf : mj_ok1 mj_tab mt_X12_bitOf = true := mj_ok1_mk (mj_cm1 (mj_wi_in 1065) (mj_wi_in 1038) (mj_wi_in 1066) rfl (by decide +kernel)) (fd_fa_0 (by decide +kernel)) (by decide +kernel)
set_option maxRecDepth 100000 in
theorem ok_X12_byteAt : mj_ok1 mj_tab mt_X12_byteAt = true := mj_ok1_mk (mj_cm0 (mj_wi_in 1067) (mj_wi_in 1038) (mj_wi_in 1068) (mj_wi_in 1069) rfl (by decide +kernel)) (fd_fa_0 (by decide +kernel)) (by decide +kernel)
set_option maxRecDepth 100000 in
theorem ok_X12_canBe : mj_ok1 mj_tab mt_X12_canBe = true := mj_ok1_mk (mj_cm0 (mj_wi_in 1070) (mj_wi_in 1038) (mj_wi_in 1071) (mj_wi_in 1072) rfl (by decide +kernel)) (fd_fa_0 (by decide +kernel)) (by decide +kernel)
set_option maxRecDepth 100000 in
theorem ok_X12_canPay : mj_ok1 mj_tab mt_X12_canPay = true := mj_ok1_mk (mj_cm0 (mj_wi_in 1073) (mj_wi_in 1038) (mj_wi_in 1074) (mj_wi_in 1075) rfl (by decide +kernel)) (fd_fa_0 (by decide +kernel)) (by decide +kernel)
set_option maxRecDepth 100000 in
theorem ok_X12_cheapest : mj_ok1 mj_tab mt_X12_cheapest = true := mj_ok1_mk (mj_cm0 (mj_wi_in 1076) (mj_wi_in 1038) (mj_wi_in 1077) (mj_wi_in 1078) rfl (by decide +kernel)) (fd_fa_0 (by decide +kernel)) (by decide +kernel)
set_option maxRecDepth 100000 in
theorem ok_X12_code : mj_ok1 mj_tab mt_X12_code = true := mj_ok1_mk (mj_cm0 (mj_wi_in 1079) (mj_wi_in 1038) (mj_wi_in 1080) (mj_wi_in 1081) rfl (by decide +kernel)) (fd_fa_0 (by decide +kernel)) (by decide +kernel)
set_option maxRecDepth 100000 in
theorem ok_X12_comes : mj_ok1 mj_tab mt_X12_comes = true := mj_ok1_mk (mj_cm0 (mj_wi_in 1082) (mj_wi_in 1038) (mj_wi_in 1083) (mj_wi_in 1084) rfl (by decide +kernel)) (fd_fa_0 (by decide +kernel)) (by decide +kernel)
set_option maxRecDepth 100000 in
theorem ok_X12_contract : mj_ok1 mj_tab mt_X12_contract = true := mj_ok1_mk (mj_cm0 (mj_wi_in 1085) (mj_wi_in 1038) (mj_wi_in 1086) (mj_wi_in 1087) rfl (by decide +kernel)) (fd_fa_0 (by decide +kernel)) (by decide +kernel)
set_option maxRecDepth 100000 in
theorem ok_X12_contracts : mj_ok1 mj_tab mt_X12_contracts = true := mj_ok1_mk (mj_cm0 (mj_wi_in 1088) (mj_wi_in 1038) (mj_wi_in 1089) (mj_wi_in 1090) rfl (by decide +kernel)) (fd_fa_0 (by decide +kernel)) (by decide +kernel)
set_option maxRecDepth 100000 in
theorem ok_X12_costOf : mj_ok1 mj_tab mt_X12_costOf = true := mj_ok1_mk (mj_cm0 (mj_wi_in 1091) (mj_wi_in 1038) (mj_wi_in 1092) (mj_wi_in 1093) rfl (by decide +kernel)) (fd_fa_0 (by decide +kernel)) (by decide +kernel)
set_option maxRecDepth 100000 in
theorem ok_X12_count : mj_ok1 mj_tab mt_X12_count = true := mj_ok1_mk (mj_cm0 (mj_wi_in 1094) (mj_wi_in 1038) (mj_wi_in 1095) (mj_wi_in 1096) rfl (by decide +kernel)) (fd_fa_0 (by decide +kernel)) (by decide +kernel)
set_option maxRecDepth 100000 in
theorem ok_X12_dealRow : mj_ok1 mj_tab mt_X12_dealRow = true := mj_ok1_mk (mj_cm0 (mj_wi_in 1097) (mj_wi_in 1038) (mj_wi_in 1098) (mj_wi_in 1099) rfl (by decide +kernel)) (fd_fa_0 (by decide +kernel)) (by decide +kernel)
set_option maxRecDepth 100000 in
theorem ok_X12_draw : mj_ok1 mj_tab mt_X12_draw = true := mj_ok1_mk (mj_cm0 (mj_wi_in 1100) (mj_wi_in 1038) (mj_wi_in 1101) (mj_wi_in 1102) rfl (by decide +kernel)) (fd_fa_0 (by decide +kernel)) (by decide +kernel)
set_option maxRecDepth 100000 in
theorem ok_X12_drawn : mj_ok1 mj_tab mt_X12_drawn = true := mj_ok1_mk (mj_cm0 (mj_wi_in 1103) (mj_wi_in 1038) (mj_wi_in 1104) (mj_wi_in 1105) rfl (by decide +kernel)) (fd_fa_0 (by decide +kernel)) (by decide +kernel)
set_option maxRecDepth 100000 in
theorem ok_X12_droughts : mj_ok1 mj_tab mt_X12_droughts = true := mj_ok1_mk (mj_cm0 (mj_wi_in 1106) (mj_wi_in 1038) (mj_wi_in 1107) (mj_wi_in 1108) rfl (by decide +kernel)) (fd_fa_0 (by decide +kernel)) (by decide +kernel)
set_option maxRecDepth 100000 in
theorem ok_X12_end : mj_ok1 mj_tab mt_X12_end = true := mj_ok1_mk (mj_cm0 (mj_wi_in 1109) (mj_wi_in 1038) (mj_wi_in 1110) (mj_wi_in 1111) rfl (by decide +kernel)) (fd_fa_0 (by decide +kernel)) (by decide +kernel)
set_option maxRecDepth 100000 in
theorem ok_X12_enough : mj_ok1 mj_tab mt_X12_enough = true := mj_ok1_mk (mj_cm0 (mj_wi_in 1112) (mj_wi_in 1038) (mj_wi_in 1113) (mj_wi_in 1114) rfl (by decide +kernel)) (fd_fa_0 (by decide +kernel)) (by decide +kernel)
set_option maxRecDepth 100000 in
theorem ok_X12_fault : mj_ok1 mj_tab mt_X12_fault = true := mj_ok1_mk (mj_cm0 (mj_wi_in 1115) (mj_wi_in 1038) (mj_wi_in 1116) (mj_wi_in 1117) rfl (by decide +kernel)) (fd_fa_0 (by decide +kernel)) (by decide +kernel)
set_option maxRecDepth 100000 in
theorem ok_X12_feed : mj_ok1 mj_tab mt_X12_feed = true := mj_ok1_mk (mj_cm0 (mj_wi_in 1118) (mj_wi_in 1038) (mj_wi_in 1119) (mj_wi_in 1120) rfl (by decide +kernel)) (fd_fa_0 (by decide +kernel)) (by decide +kernel)
set_option maxRecDepth 100000 in
theorem ok_X12_find : mj_ok1 mj_tab mt_X12_find = true := mj_ok1_mk (mj_cm0 (mj_wi_in 1121) (mj_wi_in 1038) (mj_wi_in 1122) (mj_wi_in 1123) rfl (by decide +kernel)) (fd_fa_0 (by decide +kernel)) (by decide +kernel)
set_option maxRecDepth 100000 in
theorem ok_X12_forgets : mj_ok1 mj_tab mt_X12_forgets = true := mj_ok1_mk (mj_cm0 (mj_wi_in 1124) (mj_wi_in 1038) (mj_wi_in 1125) (mj_wi_in 1126) rfl (by decide +kernel)) (fd_fa_0 (by decide +kernel)) (by decide +kernel)
set_option maxRecDepth 100000 in
theorem ok_X12_four : mj_ok1 mj_tab mt_X12_four = true := mj_ok1_mk (mj_cm0 (mj_wi_in 1127) (mj_wi_in 1038) (mj_wi_in 1128) (mj_wi_in 1129) rfl (by decide +kernel)) (fd_fa_0 (by decide +kernel)) (by decide +kernel)
set_option maxRecDepth 100000 in
theorem ok_X12_gains : mj_ok1 mj_tab mt_X12_gains = true := mj_ok1_mk (mj_cm0 (mj_wi_in 1130) (mj_wi_in 1038) (mj_wi_in 1131) (mj_wi_in 1132) rfl (by decide +kernel)) (fd_fa_0 (by decide +kernel)) (by decide +kernel)
set_option maxRecDepth 100000 in
theorem ok_X12_greatest : mj_ok1 mj_tab mt_X12_greatest = true := mj_ok1_mk (mj_cm0 (mj_wi_in 1133) (mj_wi_in 1038) (mj_wi_in 1134) (mj_wi_in 1135) rfl (by decide +kernel)) (fd_fa_0 (by decide +kernel)) (by decide +kernel)
set_option maxRecDepth 100000 in
theorem ok_X12_has : mj_ok1 mj_tab mt_X12_has = true := mj_ok1_mk (mj_cm0 (mj_wi_in 1136) (mj_wi_in 1038) (mj_wi_in 1137) (mj_wi_in 1138) rfl (by decide +kernel)) (fd_fa_0 (by decide +kernel)) (by decide +kernel)
set_option maxRecDepth 100000 in
theorem ok_X12_holderOf : mj_ok1 mj_tab mt_X12_holderOf = true := mj_ok1_mk (mj_cm0 (mj_wi_in 1139) (mj_wi_in 1038) (mj_wi_in 1140) (mj_wi_in 1141) rfl (by decide +kernel)) (fd_fa_0 (by decide +kernel)) (by decide +kernel)
set_option maxRecDepth 100000 in
theorem ok_X12_image : mj_ok1 mj_tab mt_X12_image = true := mj_ok1_mk (mj_cm0 (mj_wi_in 1142) (mj_wi_in 1038) (mj_wi_in 1143) (mj_wi_in 1144) rfl (by decide +kernel)) (fd_fa_0 (by decide +kernel)) (by decide +kernel)
set_option maxRecDepth 100000 in
theorem ok_X12_init : mj_ok1 mj_tab mt_X12_init = true := mj_ok1_mk (mj_cm2 (mj_wi_in 1145) (mj_wi_in 1038) (mj_wi_in 1146) rfl (by decide +kernel)) (fd_fa_0 (by decide +kernel)) (by decide +kernel)
set_option maxRecDepth 100000 in
theorem ok_X12_isDigit : mj_ok1 mj_tab mt_X12_isDigit = true := mj_ok1_mk (mj_cm1 (mj_wi_in 1147) (mj_wi_in 1038) (mj_wi_in 1148) rfl (by decide +kernel)) (fd_fa_0 (by decide +kernel)) (by decide +kernel)
set_option maxRecDepth 100000 in
theorem ok_X12_isIn : mj_ok1 mj_tab mt_X12_isIn = true := mj_ok1_mk (mj_cm1 (mj_wi_in 1149) (mj_wi_in 1038) (mj_wi_in 1150) rfl (by decide +kernel)) (fd_fa_0 (by decide +kernel)) (by decide +kernel)
set_option maxRecDepth 100000 in
theorem ok_X12_isLeaf : mj_ok1 mj_tab mt_X12_isLeaf = true := mj_ok1_mk (mj_cm0 (mj_wi_in 1151) (mj_wi_in 1038) (mj_wi_in 1152) (mj_wi_in 1153) rfl (by decide +kernel)) (fd_fa_0 (by decide +kernel)) (by decide +kernel)
set_option maxRecDepth 100000 in
theorem ok_X12_isMonth : mj_ok1 mj_tab mt_X12_isMonth = true := mj_ok1_mk (mj_cm1 (mj_wi_in 1154) (mj_wi_in 1038) (mj_wi_in 1155) rfl (by decide +kernel)) (fd_fa_0 (by decide +kernel)) (by decide +kernel)
set_option maxRecDepth 100000 in
theorem ok_X12_isName : mj_ok1 mj_tab mt_X12_isName = true := mj_ok1_mk (mj_cm0 (mj_wi_in 1156) (mj_wi_in 1038) (mj_wi_in 1157) (mj_wi_in 1158) rfl (by decide +kernel)) (fd_fa_0 (by decide +kernel)) (by decide +kernel)
set_option maxRecDepth 100000 in
theorem ok_X12_isSaid : mj_ok1 mj_tab mt_X12_isSaid = true := mj_ok1_mk (mj_cm0 (mj_wi_in 1159) (mj_wi_in 1038) (mj_wi_in 1160) (mj_wi_in 1161) rfl (by decide +kernel)) (fd_fa_0 (by decide +kernel)) (by decide +kernel)
set_option maxRecDepth 100000 in
theorem ok_X12_isSign : mj_ok1 mj_tab mt_X12_isSign = true := mj_ok1_mk (mj_cm0 (mj_wi_in 1162) (mj_wi_in 1038) (mj_wi_in 1163) (mj_wi_in 1164) rfl (by decide +kernel)) (fd_fa_0 (by decide +kernel)) (by decide +kernel)
set_option maxRecDepth 100000 in
theorem ok_X12_isSmall : mj_ok1 mj_tab mt_X12_isSmall = true := mj_ok1_mk (mj_cm1 (mj_wi_in 1165) (mj_wi_in 1038) (mj_wi_in 1166) rfl (by decide +kernel)) (fd_fa_0 (by decide +kernel)) (by decide +kernel)
set_option maxRecDepth 100000 in
theorem ok_X12_isTown : mj_ok1 mj_tab mt_X12_isTown = true := mj_ok1_mk (mj_cm0 (mj_wi_in 1167) (mj_wi_in 1038) (mj_wi_in 1168) (mj_wi_in 1169) rfl (by decide +kernel)) (fd_fa_0 (by decide +kernel)) (by decide +kernel)
set_option maxRecDepth 100000 in
theorem ok_X12_isWord : mj_ok1 mj_tab mt_X12_isWord = true := mj_ok1_mk (mj_cm0 (mj_wi_in 1170) (mj_wi_in 1038) (mj_wi_in 1171) (mj_wi_in 1172) rfl (by decide +kernel)) (fd_fa_0 (by decide +kernel)) (by decide +kernel)
set_option maxRecDepth 100000 in
theorem ok_X12_joins : mj_ok1 mj_tab mt_X12_joins = true := mj_ok1_mk (mj_cm0 (mj_wi_in 1173) (mj_wi_in 1038) (mj_wi_in 1174) (mj_wi_in 1175) rfl (by decide +kernel)) (fd_fa_0 (by decide +kernel)) (by decide +kernel)
set_option maxRecDepth 100000 in
theorem ok_X12_leafOf : mj_ok1 mj_tab mt_X12_leafOf = true := mj_ok1_mk (mj_cm0 (mj_wi_in 1176) (mj_wi_in 1038) (mj_wi_in 1177) (mj_wi_in 1178) rfl (by decide +kernel)) (fd_fa_0 (by decide +kernel)) (by decide +kernel)
set_option maxRecDepth 100000 in
theorem ok_X12_leak : mj_ok1 mj_tab mt_X12_leak = true := mj_ok1_mk (mj_cm0 (mj_wi_in 1179) (mj_wi_in 1038) (mj_wi_in 1180) (mj_wi_in 1181) rfl (by decide +kernel)) (fd_fa_0 (by decide +kernel)) (by decide +kernel)
set_option maxRecDepth 100000 in
theorem ok_X12_leaks : mj_ok1 mj_tab mt_X12_leaks = true := mj_ok1_mk (mj_cm0 (mj_wi_in 1182) (mj_wi_in 1038) (mj_wi_in 1183) (mj_wi_in 1184) rfl (by decide +kernel)) (fd_fa_0 (by decide +kernel)) (by decide +kernel)
set_option maxRecDepth 100000 in
theorem ok_X12_let : mj_ok1 mj_tab mt_X12_let = true := mj_ok1_mk (mj_cm0 (mj_wi_in 1185) (mj_wi_in 1038) (mj_wi_in 1186) (mj_wi_in 1187) rfl (by decide +kernel)) (fd_fa_0 (by decide +kernel)) (by decide +kernel)
set_option maxRecDepth 100000 in
theorem ok_X12_lets : mj_ok1 mj_tab mt_X12_lets = true := mj_ok1_mk (mj_cm0 (mj_wi_in 1188) (mj_wi_in 1038) (mj_wi_in 1189) (mj_wi_in 1190) rfl (by decide +kernel)) (fd_fa_0 (by decide +kernel)) (by decide +kernel)
set_option maxRecDepth 100000 in
theorem ok_X12_month : mj_ok1 mj_tab mt_X12_month = true := mj_ok1_mk (mj_cm0 (mj_wi_in 1191) (mj_wi_in 1038) (mj_wi_in 1192) (mj_wi_in 1193) rfl (by decide +kernel)) (fd_fa_0 (by decide +kernel)) (by decide +kernel)
set_option maxRecDepth 100000 in
theorem ok_X12_more : mj_ok1 mj_tab mt_X12_more = true := mj_ok1_mk (mj_cm0 (mj_wi_in 1194) (mj_wi_in 1038) (mj_wi_in 1195) (mj_wi_in 1196) rfl (by decide +kernel)) (fd_fa_0 (by decide +kernel)) (by decide +kernel)
set_option maxRecDepth 100000 in
theorem ok_X12_must : mj_ok1 mj_tab mt_X12_must = true := mj_ok1_mk (mj_cm0 (mj_wi_in 1197) (mj_wi_in 1038) (mj_wi_in 1198) (mj_wi_in 1199) rfl (by decide +kernel)) (fd_fa_0 (by decide +kernel)) (by decide +kernel)
set_option maxRecDepth 100000 in
theorem ok_X12_next : mj_ok1 mj_tab mt_X12_next = true := mj_ok1_mk (mj_cm0 (mj_wi_in 1200) (mj_wi_in 1038) (mj_wi_in 1201) (mj_wi_in 1202) rfl (by decide +kernel)) (fd_fa_0 (by decide +kernel)) (by decide +kernel)
set_option maxRecDepth 100000 in
theorem ok_X12_nots : mj_ok1 mj_tab mt_X12_nots = true := mj_ok1_mk (mj_cm0 (mj_wi_in 1203) (mj_wi_in 1038) (mj_wi_in 1204) (mj_wi_in 1205) rfl (by decide +kernel)) (fd_fa_0 (by decide +kernel)) (by decide +kernel)
set_option maxRecDepth 100000 in
theorem ok_X12_octet : mj_ok1 mj_tab mt_X12_octet = true := mj_ok1_mk (mj_cm0 (mj_wi_in 1206) (mj_wi_in 1038) (mj_wi_in 1207) (mj_wi_in 1208) rfl (by decide +kernel)) (fd_fa_0 (by decide +kernel)) (by decide +kernel)
set_option maxRecDepth 100000 in
theorem ok_X12_of : mj_ok1 mj_tab mt_X12_of = true := mj_ok1_mk (mj_cm0 (mj_wi_in 1209) (mj_wi_in 1038) (mj_wi_in 1210) (mj_wi_in 1211) rfl (by decide +kernel)) (fd_fa_0 (by decide +kernel)) (by decide +kernel)
set_option maxRecDepth 100000 in
theorem ok_X12_offer : mj_ok1 mj_tab mt_X12_offer = true := mj_ok1_mk (mj_cm0 (mj_wi_in 1212) (mj_wi_in 1038) (mj_wi_in 1213) (mj_wi_in 1214) rfl (by decide +kernel)) (fd_fa_0 (by decide +kernel)) (by decide +kernel)
set_option maxRecDepth 100000 in
theorem ok_X12_on : mj_ok1 mj_tab mt_X12_on = true := mj_ok1_mk (mj_cm0 (mj_wi_in 1215) (mj_wi_in 1038) (mj_wi_in 1216) (mj_wi_in 1217) rfl (by decide +kernel)) (fd_fa_0 (by decide +kernel)) (by decide +kernel)
set_option maxRecDepth 100000 in
theorem ok_X12_operand : mj_ok1 mj_tab mt_X12_operand = true := mj_ok1_mk (mj_cm0 (mj_wi_in 1218) (mj_wi_in 1038) (mj_wi_in 1219) (mj_wi_in 1220) rfl (by decide +kernel)) (fd_fa_0 (by decide +kernel)) (by decide +kernel)
set_option maxRecDepth 100000 in
theorem ok_X12_pays : mj_ok1 mj_tab mt_X12_pays = true := mj_ok1_mk (mj_cm0 (mj_wi_in 1221) (mj_wi_in 1038) (mj_wi_in 1222) (mj_wi_in 1223) rfl (by decide +kernel)) (fd_fa_0 (by decide +kernel)) (by decide +kernel)
set_option maxRecDepth 100000 in
theorem ok_X12_peek : mj_ok1 mj_tab mt_X12_peek = true := mj_ok1_mk (mj_cm0 (mj_wi_in 1224) (mj_wi_in 1038) (mj_wi_in 1225) (mj_wi_in 1226) rfl (by decide +kernel)) (fd_fa_0 (by decide +kernel)) (by decide +kernel)
set_option maxRecDepth 100000 in
theorem ok_X12_placeOf : mj_ok1 mj_tab mt_X12_placeOf = true := mj_ok1_mk (mj_cm0 (mj_wi_in 1227) (mj_wi_in 1038) (mj_wi_in 1228) (mj_wi_in 1229) rfl (by decide +kernel)) (fd_fa_0 (by decide +kernel)) (by decide +kernel)
set_option maxRecDepth 100000 in
theorem ok_X12_plain : mj_ok1 mj_tab mt_X12_plain = true := mj_ok1_mk (mj_cm0 (mj_wi_in 1230) (mj_wi_in 1038) (mj_wi_in 1231) (mj_wi_in 1232) rfl (by decide +kernel)) (fd_fa_0 (by decide +kernel)) (by decide +kernel)
set_option maxRecDepth 100000 in
theorem ok_X12_plan : mj_ok1 mj_tab mt_X12_plan = true := mj_ok1_mk (mj_cm0 (mj_wi_in 1233) (mj_wi_in 1038) (mj_wi_in 1234) (mj_wi_in 1235) rfl (by decide +kernel)) (fd_fa_0 (by decide +kernel)) (by decide +kernel)
set_option maxRecDepth 100000 in
theorem ok_X12_price : mj_ok1 mj_tab mt_X12_price = true := mj_ok1_mk (mj_cm0 (mj_wi_in 1236) (mj_wi_in 1038) (mj_wi_in 1237) (mj_wi_in 1238) rfl (by decide +kernel)) (fd_fa_0 (by decide +kernel)) (by decide +kernel)
set_option maxRecDepth 100000 in
theorem ok_X12_put : mj_ok1 mj_tab mt_X12_put = true := mj_ok1_mk (mj_cm0 (mj_wi_in 1239) (mj_wi_in 1038) (mj_wi_in 1240) (mj_wi_in 1241) rfl (by decide +kernel)) (fd_fa_0 (by decide +kernel)) (by decide +kernel)
set_option maxRecDepth 100000 in
theorem ok_X12_putName : mj_ok1 mj_tab mt_X12_putName = true := mj_ok1_mk (mj_cm0 (mj_wi_in 1242) (mj_wi_in 1038) (mj_wi_in 1243) (mj_wi_in 1244) rfl (by decide +kernel)) (fd_fa_0 (by decide +kernel)) (by decide +kernel)
set_option maxRecDepth 100000 in
theorem ok_X12_putNumber : mj_ok1 mj_tab mt_X12_putNumber = true := mj_ok1_mk (mj_cm0 (mj_wi_in 1245) (mj_wi_in 1038) (mj_wi_in 1246) (mj_wi_in 1247) rfl (by decide +kernel)) (fd_fa_0 (by decide +kernel)) (by decide +kernel)
set_option maxRecDepth 100000 in
theorem ok_X12_readBid : mj_ok1 mj_tab mt_X12_readBid = true := mj_ok1_mk (mj_cm0 (mj_wi_in 1248) (mj_wi_in 1038) (mj_wi_in 1249) (mj_wi_in 1250) rfl (by decide +kernel)) (fd_fa_0 (by decide +kernel)) (by decide +kernel)
set_option maxRecDepth 100000 in
theorem ok_X12_readOf : mj_ok1 mj_tab mt_X12_readOf = true := mj_ok1_mk (mj_cm0 (mj_wi_in 1251) (mj_wi_in 1038) (mj_wi_in 1252) (mj_wi_in 1253) rfl (by decide +kernel)) (fd_fa_0 (by decide +kernel)) (by decide +kernel)
set_option maxRecDepth 100000 in
theorem ok_X12_readTown : mj_ok1 mj_tab mt_X12_readTown = true := mj_ok1_mk (mj_cm0 (mj_wi_in 1254) (mj_wi_in 1038) (mj_wi_in 1255) (mj_wi_in 1256) rfl (by decide +kernel)) (fd_fa_0 (by decide +kernel)) (by decide +kernel)
set_option maxRecDepth 100000 in
theorem ok_X12_restore : mj_ok1 mj_tab mt_X12_restore = true := mj_ok1_mk (mj_cm0 (mj_wi_in 1257) (mj_wi_in 1038) (mj_wi_in 1258) (mj_wi_in 1259) rfl (by decide +kernel)) (fd_fa_0 (by decide +kernel)) (by decide +kernel)
set_option maxRecDepth 100000 in
theorem ok_X12_rounds : mj_ok1 mj_tab mt_X12_rounds = true := mj_ok1_mk (mj_cm0 (mj_wi_in 1260) (mj_wi_in 1038) (mj_wi_in 1261) (mj_wi_in 1262) rfl (by decide +kernel)) (fd_fa_0 (by decide +kernel)) (by decide +kernel)
set_option maxRecDepth 100000 in
theorem ok_X12_row : mj_ok1 mj_tab mt_X12_row = true := mj_ok1_mk (mj_cm0 (mj_wi_in 1263) (mj_wi_in 1038) (mj_wi_in 1264) (mj_wi_in 1265) rfl (by decide +kernel)) (fd_fa_0 (by decide +kernel)) (by decide +kernel)
set_option maxRecDepth 100000 in
theorem ok_X12_said : mj_ok1 mj_tab mt_X12_said = true := mj_ok1_mk (mj_cm0 (mj_wi_in 1266) (mj_wi_in 1038) (mj_wi_in 1267) (mj_wi_in 1268) rfl (by decide +kernel)) (fd_fa_0 (by decide +kernel)) (by decide +kernel)
set_option maxRecDepth 100000 in
theorem ok_X12_sentence : mj_ok1 mj_tab mt_X12_sentence = true := mj_ok1_mk (mj_cm0 (mj_wi_in 1269) (mj_wi_in 1038) (mj_wi_in 1270) (mj_wi_in 1271) rfl (by decide +kernel)) (fd_fa_0 (by decide +kernel)) (by decide +kernel)
set_option maxRecDepth 100000 in
theorem ok_X12_shores : mj_ok1 mj_tab mt_X12_shores = true := mj_ok1_mk (mj_cm0 (mj_wi_in 1272) (mj_wi_in 1038) (mj_wi_in 1273) (mj_wi_in 1274) rfl (by decide +kernel)) (fd_fa_0 (by decide +kernel)) (by decide +kernel)
set_option maxRecDepth 100000 in
theorem ok_X12_shoresOf : mj_ok1 mj_tab mt_X12_shoresOf = true := mj_ok1_mk (mj_cm0 (mj_wi_in 1275) (mj_wi_in 1038) (mj_wi_in 1276) (mj_wi_in 1277) rfl (by decide +kernel)) (fd_fa_0 (by decide +kernel)) (by decide +kernel)
set_option maxRecDepth 100000 in
theorem ok_X12_sign : mj_ok1 mj_tab mt_X12_sign = true := mj_ok1_mk (mj_cm0 (mj_wi_in 1278) (mj_wi_in 1038) (mj_wi_in 1279) (mj_wi_in 1280) rfl (by decide +kernel)) (fd_fa_0 (by decide +kernel)) (by decide +kernel)
set_option maxRecDepth 100000 in
theorem ok_X12_sizeOf : mj_ok1 mj_tab mt_X12_sizeOf = true := mj_ok1_mk (mj_cm1 (mj_wi_in 1281) (mj_wi_in 1038) (mj_wi_in 1282) rfl (by decide +kernel)) (fd_fa_0 (by decide +kernel)) (by decide +kernel)
set_option maxRecDepth 100000 in
theorem ok_X12_take : mj_ok1 mj_tab mt_X12_take = true := mj_ok1_mk (mj_cm0 (mj_wi_in 1283) (mj_wi_in 1038) (mj_wi_in 1284) (mj_wi_in 1285) rfl (by decide +kernel)) (fd_fa_0 (by decide +kernel)) (by decide +kernel)
set_option maxRecDepth 100000 in
theorem ok_X12_taken : mj_ok1 mj_tab mt_X12_taken = true := mj_ok1_mk (mj_cm0 (mj_wi_in 1286) (mj_wi_in 1038) (mj_wi_in 1287) (mj_wi_in 1288) rfl (by decide +kernel)) (fd_fa_0 (by decide +kernel)) (by decide +kernel)
set_option maxRecDepth 100000 in
theorem ok_X12_takes : mj_ok1 mj_tab mt_X12_takes = true := mj_ok1_mk (mj_cm0 (mj_wi_in 1289) (mj_wi_in 1038) (mj_wi_in 1290) (mj_wi_in 1291) rfl (by decide +kernel)) (fd_fa_0 (by decide +kernel)) (by decide +kernel)
set_option maxRecDepth 100000 in
theorem ok_X12_thinks : mj_ok1 mj_tab mt_X12_thinks = true := mj_ok1_mk (mj_cm0 (mj_wi_in 1292) (mj_wi_in 1038) (mj_wi_in 1293) (mj_wi_in 1294) rfl (by decide +kernel)) (fd_fa_0 (by decide +kernel)) (by decide +kernel)
set_option maxRecDepth 100000 in
theorem ok_X12_thirsty : mj_ok1 mj_tab mt_X12_thirsty = true := mj_ok1_mk (mj_cm0 (mj_wi_in 1295) (mj_wi_in 1038) (mj_wi_in 1296) (mj_wi_in 1297) rfl (by decide +kernel)) (fd_fa_0 (by decide +kernel)) (by decide +kernel)
set_option maxRecDepth 100000 in
theorem ok_X12_throwsIf : mj_ok1 mj_tab mt_X12_throwsIf = true := mj_ok1_mk (mj_cm0 (mj_wi_in 1298) (mj_wi_in 1038) (mj_wi_in 1299) (mj_wi_in 1300) rfl (by decide +kernel)) (fd_fa_0 (by decide +kernel)) (by decide +kernel)
set_option maxRecDepth 100000 in
theorem ok_X12_told : mj_ok1 mj_tab mt_X12_told = true := mj_ok1_mk (mj_cm0 (mj_wi_in 1301) (mj_wi_in 1038) (mj_wi_in 1302) (mj_wi_in 1303) rfl (by decide +kernel)) (fd_fa_0 (by decide +kernel)) (by decide +kernel)
set_option maxRecDepth 100000 in
theorem ok_X12_toldOf : mj_ok1 mj_tab mt_X12_toldOf = true := mj_ok1_mk (mj_cm0 (mj_wi_in 1304) (mj_wi_in 1038) (mj_wi_in 1305) (mj_wi_in 1306) rfl (by decide +kernel)) (fd_fa_0 (by decide +kernel)) (by decide +kernel)
set_option maxRecDepth 100000 in
theorem ok_X12_town : mj_ok1 mj_tab mt_X12_town = true := mj_ok1_mk (mj_cm0 (mj_wi_in 1307) (mj_wi_in 1038) (mj_wi_in 1308) (mj_wi_in 1309) rfl (by decide +kernel)) (fd_fa_0 (by decide +kernel)) (by decide +kernel)
set_option maxRecDepth 100000 in
theorem ok_X12_undo : mj_ok1 mj_tab mt_X12_undo = true := mj_ok1_mk (mj_cm0 (mj_wi_in 1310) (mj_wi_in 1038) (mj_wi_in 1311) (mj_wi_in 1312) rfl (by decide +kernel)) (fd_fa_0 (by decide +kernel)) (by decide +kernel)
set_option maxRecDepth 100000 in
theorem ok_X12_uses : mj_ok1 mj_tab mt_X12_uses = true := mj_ok1_mk (mj_cm0 (mj_wi_in 1313) (mj_wi_in 1038) (mj_wi_in 1314) (mj_wi_in 1315) rfl (by decide +kernel)) (fd_fa_0 (by decide +kernel)) (by decide +kernel)
set_option maxRecDepth 100000 in
theorem ok_X12_wasLet : mj_ok1 mj_tab mt_X12_wasLet = true := mj_ok1_mk (mj_cm0 (mj_wi_in 1316) (mj_wi_in 1038) (mj_wi_in 1317) (mj_wi_in 1318) rfl (by decide +kernel)) (fd_fa_0 (by decide +kernel)) (by decide +kernel)
set_option maxRecDepth 100000 in
theorem ok_X12_water : mj_ok1 mj_tab mt_X12_water = true := mj_ok1_mk (mj_cm0 (mj_wi_in 1319) (mj_wi_in 1038) (mj_wi_in 1320) (mj_wi_in 1321) rfl (by decide +kernel)) (fd_fa_0 (by decide +kernel)) (by decide +kernel)
set_option maxRecDepth 100000 in
theorem ok_X12_wettest : mj_ok1 mj_tab mt_X12_wettest = true := mj_ok1_mk (mj_cm0 (mj_wi_in 1322) (mj_wi_in 1038) (mj_wi_in 1323) (mj_wi_in 1324) rfl (by decide +kernel)) (fd_fa_0 (by decide +kernel)) (by decide +kernel)
set_option maxRecDepth 100000 in
theorem ok_X12_wholeYear : mj_ok1 mj_tab mt_X12_wholeYear = true := mj_ok1_mk (mj_cm0 (mj_wi_in 1325) (mj_wi_in 1038) (mj_wi_in 1326) (mj_wi_in 1327) rfl (by decide +kernel)) (fd_fa_0 (by decide +kernel)) (by decide +kernel)
set_option maxRecDepth 100000 in
theorem ok_X12_worth : mj_ok1 mj_tab mt_X12_worth = true := mj_ok1_mk (mj_cm0 (mj_wi_in 1328) (mj_wi_in 1038) (mj_wi_in 1329) (mj_wi_in 1330) rfl (by decide +kernel)) (fd_fa_0 (by decide +kernel)) (by decide +kernel)
set_option maxRecDepth 100000 in
theorem ok_X12_write : mj_ok1 mj_tab mt_X12_write = true := mj_ok1_mk (mj_cm0 (mj_wi_in 1331) (mj_wi_in 1038) (mj_wi_in 1332) (mj_wi_in 1333) rfl (by decide +kernel)) (fd_fa_0 (by decide +kernel)) (by decide +kernel)
set_option maxRecDepth 100000 in
theorem ok_X12_year : mj_ok1 mj_tab mt_X12_year = true := mj_ok1_mk (mj_cm0 (mj_wi_in 1334) (mj_wi_in 1038) (mj_wi_in 1335) (mj_wi_in 1336) rfl (by decide +kernel)) (fd_fa_0 (by decide +kernel)) (by decide +kernel)
set_option maxRecDepth 100000 in
theorem ok_X9_find : mj_ok1 mj_tab mt_X9_find = true := mj_ok1_mk (mj_cm1 (mj_wi_in 1337) (mj_wi_in 1338) (mj_wi_in 1339) rfl (by decide +kernel)) (fd_fa_0 (by decide +kernel)) (by decide +kernel)
set_option maxRecDepth 100000 in
theorem ok_X9_isAboutTown : mj_ok1 mj_tab mt_X9_isAboutTown = true := mj_ok1_mk (mj_cm0 (mj_wi_in 1340) (mj_wi_in 1338) (mj_wi_in 1341) (mj_wi_in 1342) rfl (by decide +kernel)) (fd_fa_0 (by decide +kernel)) (by decide +kernel)
set_option maxRecDepth 100000 in
theorem ok_X9_isMeasure : mj_ok1 mj_tab mt_X9_isMeasure = true := mj_ok1_mk (mj_cm0 (mj_wi_in 1343) (mj_wi_in 1338) (mj_wi_in 1344) (mj_wi_in 1345) rfl (by decide +kernel)) (fd_fa_0 (by decide +kernel)) (by decide +kernel)
set_option maxRecDepth 100000 in
theorem ok_X12_thrown : mj_ok1 mj_tab mt_X12_thrown = true := mj_ok1_mk (mj_cm0 (mj_wi_in 1346) (mj_wi_in 1038) (mj_wi_in 1347) (mj_wi_in 1348) rfl (by decide +kernel)) (fd_fa_0 (by decide +kernel)) (by decide +kernel)
