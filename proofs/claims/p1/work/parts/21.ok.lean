/-! ===== what is checked of them ===== -/
set_option maxRecDepth 100000 in
theorem ok_X0_init : mj_ok1 mj_tab mt_X0_init = true := mj_ok1_mk (mj_cm2 (mj_wi_in 344) (mj_wi_in 213) (mj_wi_in 345) rfl (by decide +kernel)) (by decide +kernel) (by decide +kernel)
set_option maxRecDepth 100000 in
theorem ok_X1_clear : mj_ok1 mj_tab mt_X1_clear = true := mj_ok1_mk (mj_cm0 (mj_wi_in 346) (mj_wi_in 124) (mj_wi_in 347) (mj_wi_in 348) rfl (by decide +kernel)) (by decide +kernel) (by decide +kernel)
set_option maxRecDepth 100000 in
theorem ok_X1_copy : mj_ok1 mj_tab mt_X1_copy = true := mj_ok1_mk (mj_cm0 (mj_wi_in 349) (mj_wi_in 124) (mj_wi_in 350) (mj_wi_in 351) rfl (by decide +kernel)) (by decide +kernel) (by decide +kernel)
set_option maxRecDepth 100000 in
theorem ok_X1_init : mj_ok1 mj_tab mt_X1_init = true := mj_ok1_mk (mj_cm2 (mj_wi_in 352) (mj_wi_in 124) (mj_wi_in 353) rfl (by decide +kernel)) (by decide +kernel) (by decide +kernel)
set_option maxRecDepth 100000 in
theorem ok_X1_readRows : mj_ok1 mj_tab mt_X1_readRows = true := mj_ok1_mk (mj_cm0 (mj_wi_in 354) (mj_wi_in 124) (mj_wi_in 355) (mj_wi_in 356) rfl (by decide +kernel)) (by decide +kernel) (by decide +kernel)
set_option maxRecDepth 100000 in
theorem ok_X2_init : mj_ok1 mj_tab mt_X2_init = true := mj_ok1_mk (mj_cm2 (mj_wi_in 357) (mj_wi_in 221) (mj_wi_in 358) rfl (by decide +kernel)) (by decide +kernel) (by decide +kernel)
set_option maxRecDepth 100000 in
theorem ok_X2_readLevels : mj_ok1 mj_tab mt_X2_readLevels = true := mj_ok1_mk (mj_cm0 (mj_wi_in 359) (mj_wi_in 221) (mj_wi_in 360) (mj_wi_in 361) rfl (by decide +kernel)) (by decide +kernel) (by decide +kernel)
set_option maxRecDepth 100000 in
theorem ok_X3_clear : mj_ok1 mj_tab mt_X3_clear = true := mj_ok1_mk (mj_cm0 (mj_wi_in 362) (mj_wi_in 120) (mj_wi_in 363) (mj_wi_in 364) rfl (by decide +kernel)) (by decide +kernel) (by decide +kernel)
set_option maxRecDepth 100000 in
theorem ok_X3_copy : mj_ok1 mj_tab mt_X3_copy = true := mj_ok1_mk (mj_cm0 (mj_wi_in 365) (mj_wi_in 120) (mj_wi_in 366) (mj_wi_in 367) rfl (by decide +kernel)) (by decide +kernel) (by decide +kernel)
set_option maxRecDepth 100000 in
theorem ok_X3_init : mj_ok1 mj_tab mt_X3_init = true := mj_ok1_mk (mj_cm2 (mj_wi_in 368) (mj_wi_in 120) (mj_wi_in 369) rfl (by decide +kernel)) (by decide +kernel) (by decide +kernel)
set_option maxRecDepth 100000 in
theorem ok_X3_readRows : mj_ok1 mj_tab mt_X3_readRows = true := mj_ok1_mk (mj_cm0 (mj_wi_in 370) (mj_wi_in 120) (mj_wi_in 371) (mj_wi_in 372) rfl (by decide +kernel)) (by decide +kernel) (by decide +kernel)
set_option maxRecDepth 100000 in
theorem ok_X4_init : mj_ok1 mj_tab mt_X4_init = true := mj_ok1_mk (mj_cm2 (mj_wi_in 373) (mj_wi_in 217) (mj_wi_in 374) rfl (by decide +kernel)) (by decide +kernel) (by decide +kernel)
set_option maxRecDepth 100000 in
theorem ok_X5_begins : mj_ok1 mj_tab mt_X5_begins = true := mj_ok1_mk (mj_cm1 (mj_wi_in 375) (mj_wi_in 128) (mj_wi_in 376) rfl (by decide +kernel)) (by decide +kernel) (by decide +kernel)
set_option maxRecDepth 100000 in
theorem ok_X5_clear : mj_ok1 mj_tab mt_X5_clear = true := mj_ok1_mk (mj_cm0 (mj_wi_in 377) (mj_wi_in 128) (mj_wi_in 378) (mj_wi_in 379) rfl (by decide +kernel)) (by decide +kernel) (by decide +kernel)
set_option maxRecDepth 100000 in
theorem ok_X5_copy : mj_ok1 mj_tab mt_X5_copy = true := mj_ok1_mk (mj_cm0 (mj_wi_in 380) (mj_wi_in 128) (mj_wi_in 381) (mj_wi_in 382) rfl (by decide +kernel)) (by decide +kernel) (by decide +kernel)
set_option maxRecDepth 100000 in
theorem ok_X5_init : mj_ok1 mj_tab mt_X5_init = true := mj_ok1_mk (mj_cm2 (mj_wi_in 383) (mj_wi_in 128) (mj_wi_in 384) rfl (by decide +kernel)) (by decide +kernel) (by decide +kernel)
set_option maxRecDepth 100000 in
theorem ok_X5_readAll : mj_ok1 mj_tab mt_X5_readAll = true := mj_ok1_mk (mj_cm0 (mj_wi_in 385) (mj_wi_in 128) (mj_wi_in 386) (mj_wi_in 387) rfl (by decide +kernel)) (by decide +kernel) (by decide +kernel)
set_option maxRecDepth 100000 in
theorem ok_X5_readCond : mj_ok1 mj_tab mt_X5_readCond = true := mj_ok1_mk (mj_cm0 (mj_wi_in 388) (mj_wi_in 128) (mj_wi_in 389) (mj_wi_in 390) rfl (by decide +kernel)) (by decide +kernel) (by decide +kernel)
set_option maxRecDepth 100000 in
theorem ok_X5_readOne : mj_ok1 mj_tab mt_X5_readOne = true := mj_ok1_mk (mj_cm0 (mj_wi_in 391) (mj_wi_in 128) (mj_wi_in 392) (mj_wi_in 393) rfl (by decide +kernel)) (by decide +kernel) (by decide +kernel)
set_option maxRecDepth 100000 in
theorem ok_X5_readText : mj_ok1 mj_tab mt_X5_readText = true := mj_ok1_mk (mj_cm0 (mj_wi_in 394) (mj_wi_in 128) (mj_wi_in 395) (mj_wi_in 396) rfl (by decide +kernel)) (by decide +kernel) (by decide +kernel)
set_option maxRecDepth 100000 in
theorem ok_X6_copy : mj_ok1 mj_tab mt_X6_copy = true := mj_ok1_mk (mj_cm0 (mj_wi_in 397) (mj_wi_in 204) (mj_wi_in 398) (mj_wi_in 399) rfl (by decide +kernel)) (by decide +kernel) (by decide +kernel)
set_option maxRecDepth 100000 in
theorem ok_X6_init : mj_ok1 mj_tab mt_X6_init = true := mj_ok1_mk (mj_cm2 (mj_wi_in 400) (mj_wi_in 204) (mj_wi_in 401) rfl (by decide +kernel)) (by decide +kernel) (by decide +kernel)
set_option maxRecDepth 100000 in
theorem ok_X7_advance : mj_ok1 mj_tab mt_X7_advance = true := mj_ok1_mk (mj_cm0 (mj_wi_in 402) (mj_wi_in 200) (mj_wi_in 403) (mj_wi_in 404) rfl (by decide +kernel)) (by decide +kernel) (by decide +kernel)
set_option maxRecDepth 100000 in
theorem ok_X7_finish : mj_ok1 mj_tab mt_X7_finish = true := mj_ok1_mk (mj_cm0 (mj_wi_in 405) (mj_wi_in 200) (mj_wi_in 406) (mj_wi_in 407) rfl (by decide +kernel)) (by decide +kernel) (by decide +kernel)
set_option maxRecDepth 100000 in
theorem ok_X7_hasRoom : mj_ok1 mj_tab mt_X7_hasRoom = true := mj_ok1_mk (mj_cm0 (mj_wi_in 408) (mj_wi_in 200) (mj_wi_in 409) (mj_wi_in 410) rfl (by decide +kernel)) (by decide +kernel) (by decide +kernel)
set_option maxRecDepth 100000 in
theorem ok_X7_init : mj_ok1 mj_tab mt_X7_init = true := mj_ok1_mk (mj_cm2 (mj_wi_in 411) (mj_wi_in 200) (mj_wi_in 412) rfl (by decide +kernel)) (by decide +kernel) (by decide +kernel)
set_option maxRecDepth 100000 in
theorem ok_X7_isSign : mj_ok1 mj_tab mt_X7_isSign = true := mj_ok1_mk (mj_cm0 (mj_wi_in 413) (mj_wi_in 200) (mj_wi_in 414) (mj_wi_in 415) rfl (by decide +kernel)) (by decide +kernel) (by decide +kernel)
set_option maxRecDepth 100000 in
theorem ok_X7_open : mj_ok1 mj_tab mt_X7_open = true := mj_ok1_mk (mj_cm0 (mj_wi_in 416) (mj_wi_in 200) (mj_wi_in 417) (mj_wi_in 418) rfl (by decide +kernel)) (by decide +kernel) (by decide +kernel)
set_option maxRecDepth 100000 in
theorem ok_X7_put : mj_ok1 mj_tab mt_X7_put = true := mj_ok1_mk (mj_cm0 (mj_wi_in 419) (mj_wi_in 200) (mj_wi_in 420) (mj_wi_in 421) rfl (by decide +kernel)) (by decide +kernel) (by decide +kernel)
set_option maxRecDepth 100000 in
theorem ok_X7_refuse : mj_ok1 mj_tab mt_X7_refuse = true := mj_ok1_mk (mj_cm0 (mj_wi_in 422) (mj_wi_in 200) (mj_wi_in 423) (mj_wi_in 424) rfl (by decide +kernel)) (by decide +kernel) (by decide +kernel)
set_option maxRecDepth 100000 in
theorem ok_X8_back : mj_ok1 mj_tab mt_X8_back = true := mj_ok1_mk (mj_cm0 (mj_wi_in 425) (mj_wi_in 208) (mj_wi_in 426) (mj_wi_in 427) rfl (by decide +kernel)) (by decide +kernel) (by decide +kernel)
set_option maxRecDepth 100000 in
theorem ok_X8_init : mj_ok1 mj_tab mt_X8_init = true := mj_ok1_mk (mj_cm2 (mj_wi_in 428) (mj_wi_in 208) (mj_wi_in 429) rfl (by decide +kernel)) (by decide +kernel) (by decide +kernel)
set_option maxRecDepth 100000 in
theorem ok_X10_copy : mj_ok1 mj_tab mt_X10_copy = true := mj_ok1_mk (mj_cm0 (mj_wi_in 430) (mj_wi_in 43) (mj_wi_in 431) (mj_wi_in 432) rfl (by decide +kernel)) (by decide +kernel) (by decide +kernel)
set_option maxRecDepth 100000 in
theorem ok_X10_init : mj_ok1 mj_tab mt_X10_init = true := mj_ok1_mk (mj_cm2 (mj_wi_in 433) (mj_wi_in 43) (mj_wi_in 434) rfl (by decide +kernel)) (by decide +kernel) (by decide +kernel)
set_option maxRecDepth 100000 in
theorem ok_X11_begin : mj_ok1 mj_tab mt_X11_begin = true := mj_ok1_mk (mj_cm0 (mj_wi_in 435) (mj_wi_in 436) (mj_wi_in 437) (mj_wi_in 438) rfl (by decide +kernel)) (by decide +kernel) (by decide +kernel)
set_option maxRecDepth 100000 in
theorem ok_X11_bid : mj_ok1 mj_tab mt_X11_bid = true := mj_ok1_mk (mj_cm0 (mj_wi_in 439) (mj_wi_in 436) (mj_wi_in 440) (mj_wi_in 441) rfl (by decide +kernel)) (by decide +kernel) (by decide +kernel)
set_option maxRecDepth 100000 in
theorem ok_X11_bidsOf : mj_ok1 mj_tab mt_X11_bidsOf = true := mj_ok1_mk (mj_cm0 (mj_wi_in 442) (mj_wi_in 436) (mj_wi_in 443) (mj_wi_in 444) rfl (by decide +kernel)) (by decide +kernel) (by decide +kernel)
set_option maxRecDepth 100000 in
theorem ok_X11_byteAt : mj_ok1 mj_tab mt_X11_byteAt = true := mj_ok1_mk (mj_cm0 (mj_wi_in 445) (mj_wi_in 436) (mj_wi_in 446) (mj_wi_in 447) rfl (by decide +kernel)) (by decide +kernel) (by decide +kernel)
set_option maxRecDepth 100000 in
theorem ok_X11_cheapest : mj_ok1 mj_tab mt_X11_cheapest = true := mj_ok1_mk (mj_cm0 (mj_wi_in 448) (mj_wi_in 436) (mj_wi_in 449) (mj_wi_in 450) rfl (by decide +kernel)) (by decide +kernel) (by decide +kernel)
set_option maxRecDepth 100000 in
theorem ok_X11_closeTape : mj_ok1 mj_tab mt_X11_closeTape = true := mj_ok1_mk (mj_cm0 (mj_wi_in 451) (mj_wi_in 436) (mj_wi_in 452) (mj_wi_in 453) rfl (by decide +kernel)) (by decide +kernel) (by decide +kernel)
set_option maxRecDepth 100000 in
theorem ok_X11_contract : mj_ok1 mj_tab mt_X11_contract = true := mj_ok1_mk (mj_cm0 (mj_wi_in 454) (mj_wi_in 436) (mj_wi_in 455) (mj_wi_in 456) rfl (by decide +kernel)) (by decide +kernel) (by decide +kernel)
set_option maxRecDepth 100000 in
theorem ok_X11_contracts : mj_ok1 mj_tab mt_X11_contracts = true := mj_ok1_mk (mj_cm0 (mj_wi_in 457) (mj_wi_in 436) (mj_wi_in 458) (mj_wi_in 459) rfl (by decide +kernel)) (by decide +kernel) (by decide +kernel)
set_option maxRecDepth 100000 in
theorem ok_X11_count : mj_ok1 mj_tab mt_X11_count = true := mj_ok1_mk (mj_cm0 (mj_wi_in 460) (mj_wi_in 436) (mj_wi_in 461) (mj_wi_in 462) rfl (by decide +kernel)) (by decide +kernel) (by decide +kernel)
set_option maxRecDepth 100000 in
theorem ok_X11_drawn : mj_ok1 mj_tab mt_X11_drawn = true := mj_ok1_mk (mj_cm0 (mj_wi_in 463) (mj_wi_in 436) (mj_wi_in 464) (mj_wi_in 465) rfl (by decide +kernel)) (by decide +kernel) (by decide +kernel)
set_option maxRecDepth 100000 in
theorem ok_X11_droughts : mj_ok1 mj_tab mt_X11_droughts = true := mj_ok1_mk (mj_cm0 (mj_wi_in 466) (mj_wi_in 436) (mj_wi_in 467) (mj_wi_in 468) rfl (by decide +kernel)) (by decide +kernel) (by decide +kernel)
set_option maxRecDepth 100000 in
theorem ok_X11_end : mj_ok1 mj_tab mt_X11_end = true := mj_ok1_mk (mj_cm0 (mj_wi_in 469) (mj_wi_in 436) (mj_wi_in 470) (mj_wi_in 471) rfl (by decide +kernel)) (by decide +kernel) (by decide +kernel)
set_option maxRecDepth 100000 in
theorem ok_X11_enough : mj_ok1 mj_tab mt_X11_enough = true := mj_ok1_mk (mj_cm0 (mj_wi_in 472) (mj_wi_in 436) (mj_wi_in 473) (mj_wi_in 474) rfl (by decide +kernel)) (by decide +kernel) (by decide +kernel)
set_option maxRecDepth 100000 in
theorem ok_X11_fault : mj_ok1 mj_tab mt_X11_fault = true := mj_ok1_mk (mj_cm0 (mj_wi_in 475) (mj_wi_in 436) (mj_wi_in 476) (mj_wi_in 477) rfl (by decide +kernel)) (by decide +kernel) (by decide +kernel)
set_option maxRecDepth 100000 in
theorem ok_X11_feed : mj_ok1 mj_tab mt_X11_feed = true := mj_ok1_mk (mj_cm0 (mj_wi_in 478) (mj_wi_in 436) (mj_wi_in 479) (mj_wi_in 480) rfl (by decide +kernel)) (by decide +kernel) (by decide +kernel)
set_option maxRecDepth 100000 in
theorem ok_X11_greatest : mj_ok1 mj_tab mt_X11_greatest = true := mj_ok1_mk (mj_cm0 (mj_wi_in 481) (mj_wi_in 436) (mj_wi_in 482) (mj_wi_in 483) rfl (by decide +kernel)) (by decide +kernel) (by decide +kernel)
set_option maxRecDepth 100000 in
theorem ok_X11_has : mj_ok1 mj_tab mt_X11_has = true := mj_ok1_mk (mj_cm0 (mj_wi_in 484) (mj_wi_in 436) (mj_wi_in 485) (mj_wi_in 486) rfl (by decide +kernel)) (by decide +kernel) (by decide +kernel)
set_option maxRecDepth 100000 in
theorem ok_X11_image : mj_ok1 mj_tab mt_X11_image = true := mj_ok1_mk (mj_cm0 (mj_wi_in 487) (mj_wi_in 436) (mj_wi_in 488) (mj_wi_in 489) rfl (by decide +kernel)) (by decide +kernel) (by decide +kernel)
set_option maxRecDepth 100000 in
theorem ok_X11_init : mj_ok1 mj_tab mt_X11_init = true := mj_ok1_mk (mj_cm2 (mj_wi_in 490) (mj_wi_in 436) (mj_wi_in 491) rfl (by decide +kernel)) (by decide +kernel) (by decide +kernel)
set_option maxRecDepth 100000 in
theorem ok_X11_isMonth : mj_ok1 mj_tab mt_X11_isMonth = true := mj_ok1_mk (mj_cm1 (mj_wi_in 492) (mj_wi_in 436) (mj_wi_in 493) rfl (by decide +kernel)) (by decide +kernel) (by decide +kernel)
set_option maxRecDepth 100000 in
theorem ok_X11_isTown : mj_ok1 mj_tab mt_X11_isTown = true := mj_ok1_mk (mj_cm0 (mj_wi_in 494) (mj_wi_in 436) (mj_wi_in 495) (mj_wi_in 496) rfl (by decide +kernel)) (by decide +kernel) (by decide +kernel)
set_option maxRecDepth 100000 in
theorem ok_X11_leak : mj_ok1 mj_tab mt_X11_leak = true := mj_ok1_mk (mj_cm0 (mj_wi_in 497) (mj_wi_in 436) (mj_wi_in 498) (mj_wi_in 499) rfl (by decide +kernel)) (by decide +kernel) (by decide +kernel)
set_option maxRecDepth 100000 in
theorem ok_X11_leaks : mj_ok1 mj_tab mt_X11_leaks = true := mj_ok1_mk (mj_cm0 (mj_wi_in 500) (mj_wi_in 436) (mj_wi_in 501) (mj_wi_in 502) rfl (by decide +kernel)) (by decide +kernel) (by decide +kernel)
set_option maxRecDepth 100000 in
theorem ok_X11_let : mj_ok1 mj_tab mt_X11_let = true := mj_ok1_mk (mj_cm0 (mj_wi_in 503) (mj_wi_in 436) (mj_wi_in 504) (mj_wi_in 505) rfl (by decide +kernel)) (by decide +kernel) (by decide +kernel)
set_option maxRecDepth 100000 in
theorem ok_X11_must : mj_ok1 mj_tab mt_X11_must = true := mj_ok1_mk (mj_cm0 (mj_wi_in 506) (mj_wi_in 436) (mj_wi_in 507) (mj_wi_in 508) rfl (by decide +kernel)) (by decide +kernel) (by decide +kernel)
set_option maxRecDepth 100000 in
theorem ok_X11_offer : mj_ok1 mj_tab mt_X11_offer = true := mj_ok1_mk (mj_cm0 (mj_wi_in 509) (mj_wi_in 436) (mj_wi_in 510) (mj_wi_in 511) rfl (by decide +kernel)) (by decide +kernel) (by decide +kernel)
set_option maxRecDepth 100000 in
theorem ok_X11_on : mj_ok1 mj_tab mt_X11_on = true := mj_ok1_mk (mj_cm0 (mj_wi_in 512) (mj_wi_in 436) (mj_wi_in 513) (mj_wi_in 514) rfl (by decide +kernel)) (by decide +kernel) (by decide +kernel)
set_option maxRecDepth 100000 in
theorem ok_X11_plain : mj_ok1 mj_tab mt_X11_plain = true := mj_ok1_mk (mj_cm0 (mj_wi_in 515) (mj_wi_in 436) (mj_wi_in 516) (mj_wi_in 517) rfl (by decide +kernel)) (by decide +kernel) (by decide +kernel)
set_option maxRecDepth 100000 in
theorem ok_X11_plan : mj_ok1 mj_tab mt_X11_plan = true := mj_ok1_mk (mj_cm0 (mj_wi_in 518) (mj_wi_in 436) (mj_wi_in 519) (mj_wi_in 520) rfl (by decide +kernel)) (by decide +kernel) (by decide +kernel)
set_option maxRecDepth 100000 in
theorem ok_X11_price : mj_ok1 mj_tab mt_X11_price = true := mj_ok1_mk (mj_cm0 (mj_wi_in 521) (mj_wi_in 436) (mj_wi_in 522) (mj_wi_in 523) rfl (by decide +kernel)) (by decide +kernel) (by decide +kernel)
set_option maxRecDepth 100000 in
theorem ok_X11_restore : mj_ok1 mj_tab mt_X11_restore = true := mj_ok1_mk (mj_cm0 (mj_wi_in 524) (mj_wi_in 436) (mj_wi_in 525) (mj_wi_in 526) rfl (by decide +kernel)) (by decide +kernel) (by decide +kernel)
set_option maxRecDepth 100000 in
theorem ok_X11_rounds : mj_ok1 mj_tab mt_X11_rounds = true := mj_ok1_mk (mj_cm0 (mj_wi_in 527) (mj_wi_in 436) (mj_wi_in 528) (mj_wi_in 529) rfl (by decide +kernel)) (by decide +kernel) (by decide +kernel)
set_option maxRecDepth 100000 in
theorem ok_X11_said : mj_ok1 mj_tab mt_X11_said = true := mj_ok1_mk (mj_cm0 (mj_wi_in 530) (mj_wi_in 436) (mj_wi_in 531) (mj_wi_in 532) rfl (by decide +kernel)) (by decide +kernel) (by decide +kernel)
set_option maxRecDepth 100000 in
theorem ok_X11_sentence : mj_ok1 mj_tab mt_X11_sentence = true := mj_ok1_mk (mj_cm0 (mj_wi_in 533) (mj_wi_in 436) (mj_wi_in 534) (mj_wi_in 535) rfl (by decide +kernel)) (by decide +kernel) (by decide +kernel)
set_option maxRecDepth 100000 in
theorem ok_X11_shores : mj_ok1 mj_tab mt_X11_shores = true := mj_ok1_mk (mj_cm0 (mj_wi_in 536) (mj_wi_in 436) (mj_wi_in 537) (mj_wi_in 538) rfl (by decide +kernel)) (by decide +kernel) (by decide +kernel)
set_option maxRecDepth 100000 in
theorem ok_X11_shoresOf : mj_ok1 mj_tab mt_X11_shoresOf = true := mj_ok1_mk (mj_cm0 (mj_wi_in 539) (mj_wi_in 436) (mj_wi_in 540) (mj_wi_in 541) rfl (by decide +kernel)) (by decide +kernel) (by decide +kernel)
set_option maxRecDepth 100000 in
theorem ok_X11_take : mj_ok1 mj_tab mt_X11_take = true := mj_ok1_mk (mj_cm0 (mj_wi_in 542) (mj_wi_in 436) (mj_wi_in 543) (mj_wi_in 544) rfl (by decide +kernel)) (by decide +kernel) (by decide +kernel)
set_option maxRecDepth 100000 in
theorem ok_X11_thirsty : mj_ok1 mj_tab mt_X11_thirsty = true := mj_ok1_mk (mj_cm0 (mj_wi_in 545) (mj_wi_in 436) (mj_wi_in 546) (mj_wi_in 547) rfl (by decide +kernel)) (by decide +kernel) (by decide +kernel)
set_option maxRecDepth 100000 in
theorem ok_X11_town : mj_ok1 mj_tab mt_X11_town = true := mj_ok1_mk (mj_cm0 (mj_wi_in 548) (mj_wi_in 436) (mj_wi_in 549) (mj_wi_in 550) rfl (by decide +kernel)) (by decide +kernel) (by decide +kernel)
set_option maxRecDepth 100000 in
theorem ok_X11_undo : mj_ok1 mj_tab mt_X11_undo = true := mj_ok1_mk (mj_cm0 (mj_wi_in 551) (mj_wi_in 436) (mj_wi_in 552) (mj_wi_in 553) rfl (by decide +kernel)) (by decide +kernel) (by decide +kernel)
set_option maxRecDepth 100000 in
theorem ok_X11_water : mj_ok1 mj_tab mt_X11_water = true := mj_ok1_mk (mj_cm0 (mj_wi_in 554) (mj_wi_in 436) (mj_wi_in 555) (mj_wi_in 556) rfl (by decide +kernel)) (by decide +kernel) (by decide +kernel)
set_option maxRecDepth 100000 in
theorem ok_X11_wettest : mj_ok1 mj_tab mt_X11_wettest = true := mj_ok1_mk (mj_cm0 (mj_wi_in 557) (mj_wi_in 436) (mj_wi_in 558) (mj_wi_in 559) rfl (by decide +kernel)) (by decide +kernel) (by decide +kernel)
set_option maxRecDepth 100000 in
theorem ok_X11_worth : mj_ok1 mj_tab mt_X11_worth = true := mj_ok1_mk (mj_cm0 (mj_wi_in 560) (mj_wi_in 436) (mj_wi_in 561) (mj_wi_in 562) rfl (by decide +kernel)) (by decide +kernel) (by decide +kernel)
set_option maxRecDepth 100000 in
theorem ok_X11_write : mj_ok1 mj_tab mt_X11_write = true := mj_ok1_mk (mj_cm0 (mj_wi_in 563) (mj_wi_in 436) (mj_wi_in 564) (mj_wi_in 565) rfl (by decide +kernel)) (by decide +kernel) (by decide +kernel)
set_option maxRecDepth 100000 in
theorem ok_X11_year : mj_ok1 mj_tab mt_X11_year = true := mj_ok1_mk (mj_cm0 (mj_wi_in 566) (mj_wi_in 436) (mj_wi_in 567) (mj_wi_in 568) rfl (by decide +kernel)) (by decide +kernel) (by decide +kernel)
set_option maxRecDepth 100000 in
theorem ok_X12_bad : mj_ok1 mj_tab mt_X12_bad = true := mj_ok1_mk (mj_cm0 (mj_wi_in 569) (mj_wi_in 570) (mj_wi_in 571) (mj_wi_in 572) rfl (by decide +kernel)) (by decide +kernel) (by decide +kernel)
set_option maxRecDepth 100000 in
theorem ok_X12_begin : mj_ok1 mj_tab mt_X12_begin = true := mj_ok1_mk (mj_cm0 (mj_wi_in 573) (mj_wi_in 570) (mj_wi_in 574) (mj_wi_in 575) rfl (by decide +kernel)) (by decide +kernel) (by decide +kernel)
set_option maxRecDepth 100000 in
theorem ok_X12_bid : mj_ok1 mj_tab mt_X12_bid = true := mj_ok1_mk (mj_cm0 (mj_wi_in 576) (mj_wi_in 570) (mj_wi_in 577) (mj_wi_in 578) rfl (by decide +kernel)) (by decide +kernel) (by decide +kernel)
set_option maxRecDepth 100000 in
theorem ok_X12_bidMany : mj_ok1 mj_tab mt_X12_bidMany = true := mj_ok1_mk (mj_cm0 (mj_wi_in 579) (mj_wi_in 570) (mj_wi_in 580) (mj_wi_in 581) rfl (by decide +kernel)) (by decide +kernel) (by decide +kernel)
set_option maxRecDepth 100000 in
theorem ok_X12_bidsOf : mj_ok1 mj_tab mt_X12_bidsOf = true := mj_ok1_mk (mj_cm0 (mj_wi_in 582) (mj_wi_in 570) (mj_wi_in 583) (mj_wi_in 584) rfl (by decide +kernel)) (by decide +kernel) (by decide +kernel)
set_option maxRecDepth 100000 in
theorem ok_X12_byteAt : mj_ok1 mj_tab mt_X12_byteAt = true := mj_ok1_mk (mj_cm0 (mj_wi_in 585) (mj_wi_in 570) (mj_wi_in 586) (mj_wi_in 587) rfl (by decide +kernel)) (by decide +kernel) (by decide +kernel)
set_option maxRecDepth 100000 in
theorem ok_X12_cheapest : mj_ok1 mj_tab mt_X12_cheapest = true := mj_ok1_mk (mj_cm0 (mj_wi_in 588) (mj_wi_in 570) (mj_wi_in 589) (mj_wi_in 590) rfl (by decide +kernel)) (by decide +kernel) (by decide +kernel)
set_option maxRecDepth 100000 in
theorem ok_X12_contract : mj_ok1 mj_tab mt_X12_contract = true := mj_ok1_mk (mj_cm0 (mj_wi_in 591) (mj_wi_in 570) (mj_wi_in 592) (mj_wi_in 593) rfl (by decide +kernel)) (by decide +kernel) (by decide +kernel)
set_option maxRecDepth 100000 in
theorem ok_X12_contracts : mj_ok1 mj_tab mt_X12_contracts = true := mj_ok1_mk (mj_cm0 (mj_wi_in 594) (mj_wi_in 570) (mj_wi_in 595) (mj_wi_in 596) rfl (by decide +kernel)) (by decide +kernel) (by decide +kernel)
set_option maxRecDepth 100000 in
theorem ok_X12_count : mj_ok1 mj_tab mt_X12_count = true := mj_ok1_mk (mj_cm0 (mj_wi_in 597) (mj_wi_in 570) (mj_wi_in 598) (mj_wi_in 599) rfl (by decide +kernel)) (by decide +kernel) (by decide +kernel)
set_option maxRecDepth 100000 in
theorem ok_X12_drawn : mj_ok1 mj_tab mt_X12_drawn = true := mj_ok1_mk (mj_cm0 (mj_wi_in 600) (mj_wi_in 570) (mj_wi_in 601) (mj_wi_in 602) rfl (by decide +kernel)) (by decide +kernel) (by decide +kernel)
set_option maxRecDepth 100000 in
theorem ok_X12_droughts : mj_ok1 mj_tab mt_X12_droughts = true := mj_ok1_mk (mj_cm0 (mj_wi_in 603) (mj_wi_in 570) (mj_wi_in 604) (mj_wi_in 605) rfl (by decide +kernel)) (by decide +kernel) (by decide +kernel)
set_option maxRecDepth 100000 in
theorem ok_X12_end : mj_ok1 mj_tab mt_X12_end = true := mj_ok1_mk (mj_cm0 (mj_wi_in 606) (mj_wi_in 570) (mj_wi_in 607) (mj_wi_in 608) rfl (by decide +kernel)) (by decide +kernel) (by decide +kernel)
set_option maxRecDepth 100000 in
theorem ok_X12_enough : mj_ok1 mj_tab mt_X12_enough = true := mj_ok1_mk (mj_cm0 (mj_wi_in 609) (mj_wi_in 570) (mj_wi_in 610) (mj_wi_in 611) rfl (by decide +kernel)) (by decide +kernel) (by decide +kernel)
set_option maxRecDepth 100000 in
theorem ok_X12_fault : mj_ok1 mj_tab mt_X12_fault = true := mj_ok1_mk (mj_cm0 (mj_wi_in 612) (mj_wi_in 570) (mj_wi_in 613) (mj_wi_in 614) rfl (by decide +kernel)) (by decide +kernel) (by decide +kernel)
set_option maxRecDepth 100000 in
theorem ok_X12_feed : mj_ok1 mj_tab mt_X12_feed = true := mj_ok1_mk (mj_cm0 (mj_wi_in 615) (mj_wi_in 570) (mj_wi_in 616) (mj_wi_in 617) rfl (by decide +kernel)) (by decide +kernel) (by decide +kernel)
set_option maxRecDepth 100000 in
theorem ok_X12_four : mj_ok1 mj_tab mt_X12_four = true := mj_ok1_mk (mj_cm0 (mj_wi_in 618) (mj_wi_in 570) (mj_wi_in 619) (mj_wi_in 620) rfl (by decide +kernel)) (by decide +kernel) (by decide +kernel)
set_option maxRecDepth 100000 in
theorem ok_X12_greatest : mj_ok1 mj_tab mt_X12_greatest = true := mj_ok1_mk (mj_cm0 (mj_wi_in 621) (mj_wi_in 570) (mj_wi_in 622) (mj_wi_in 623) rfl (by decide +kernel)) (by decide +kernel) (by decide +kernel)
set_option maxRecDepth 100000 in
theorem ok_X12_has : mj_ok1 mj_tab mt_X12_has = true := mj_ok1_mk (mj_cm0 (mj_wi_in 624) (mj_wi_in 570) (mj_wi_in 625) (mj_wi_in 626) rfl (by decide +kernel)) (by decide +kernel) (by decide +kernel)
set_option maxRecDepth 100000 in
theorem ok_X12_image : mj_ok1 mj_tab mt_X12_image = true := mj_ok1_mk (mj_cm0 (mj_wi_in 627) (mj_wi_in 570) (mj_wi_in 628) (mj_wi_in 629) rfl (by decide +kernel)) (by decide +kernel) (by decide +kernel)
set_option maxRecDepth 100000 in
theorem ok_X12_init : mj_ok1 mj_tab mt_X12_init = true := mj_ok1_mk (mj_cm2 (mj_wi_in 630) (mj_wi_in 570) (mj_wi_in 631) rfl (by decide +kernel)) (by decide +kernel) (by decide +kernel)
set_option maxRecDepth 100000 in
theorem ok_X12_isIn : mj_ok1 mj_tab mt_X12_isIn = true := mj_ok1_mk (mj_cm1 (mj_wi_in 632) (mj_wi_in 570) (mj_wi_in 633) rfl (by decide +kernel)) (by decide +kernel) (by decide +kernel)
set_option maxRecDepth 100000 in
theorem ok_X12_isMonth : mj_ok1 mj_tab mt_X12_isMonth = true := mj_ok1_mk (mj_cm1 (mj_wi_in 634) (mj_wi_in 570) (mj_wi_in 635) rfl (by decide +kernel)) (by decide +kernel) (by decide +kernel)
set_option maxRecDepth 100000 in
theorem ok_X12_isSign : mj_ok1 mj_tab mt_X12_isSign = true := mj_ok1_mk (mj_cm0 (mj_wi_in 636) (mj_wi_in 570) (mj_wi_in 637) (mj_wi_in 638) rfl (by decide +kernel)) (by decide +kernel) (by decide +kernel)
set_option maxRecDepth 100000 in
theorem ok_X12_isTown : mj_ok1 mj_tab mt_X12_isTown = true := mj_ok1_mk (mj_cm0 (mj_wi_in 639) (mj_wi_in 570) (mj_wi_in 640) (mj_wi_in 641) rfl (by decide +kernel)) (by decide +kernel) (by decide +kernel)
set_option maxRecDepth 100000 in
theorem ok_X12_isWord : mj_ok1 mj_tab mt_X12_isWord = true := mj_ok1_mk (mj_cm0 (mj_wi_in 642) (mj_wi_in 570) (mj_wi_in 643) (mj_wi_in 644) rfl (by decide +kernel)) (by decide +kernel) (by decide +kernel)
set_option maxRecDepth 100000 in
theorem ok_X12_leafOf : mj_ok1 mj_tab mt_X12_leafOf = true := mj_ok1_mk (mj_cm0 (mj_wi_in 645) (mj_wi_in 570) (mj_wi_in 646) (mj_wi_in 647) rfl (by decide +kernel)) (by decide +kernel) (by decide +kernel)
set_option maxRecDepth 100000 in
theorem ok_X12_leak : mj_ok1 mj_tab mt_X12_leak = true := mj_ok1_mk (mj_cm0 (mj_wi_in 648) (mj_wi_in 570) (mj_wi_in 649) (mj_wi_in 650) rfl (by decide +kernel)) (by decide +kernel) (by decide +kernel)
set_option maxRecDepth 100000 in
theorem ok_X12_leaks : mj_ok1 mj_tab mt_X12_leaks = true := mj_ok1_mk (mj_cm0 (mj_wi_in 651) (mj_wi_in 570) (mj_wi_in 652) (mj_wi_in 653) rfl (by decide +kernel)) (by decide +kernel) (by decide +kernel)
set_option maxRecDepth 100000 in
theorem ok_X12_let : mj_ok1 mj_tab mt_X12_let = true := mj_ok1_mk (mj_cm0 (mj_wi_in 654) (mj_wi_in 570) (mj_wi_in 655) (mj_wi_in 656) rfl (by decide +kernel)) (by decide +kernel) (by decide +kernel)
set_option maxRecDepth 100000 in
theorem ok_X12_must : mj_ok1 mj_tab mt_X12_must = true := mj_ok1_mk (mj_cm0 (mj_wi_in 657) (mj_wi_in 570) (mj_wi_in 658) (mj_wi_in 659) rfl (by decide +kernel)) (by decide +kernel) (by decide +kernel)
set_option maxRecDepth 100000 in
theorem ok_X12_next : mj_ok1 mj_tab mt_X12_next = true := mj_ok1_mk (mj_cm0 (mj_wi_in 660) (mj_wi_in 570) (mj_wi_in 661) (mj_wi_in 662) rfl (by decide +kernel)) (by decide +kernel) (by decide +kernel)
set_option maxRecDepth 100000 in
theorem ok_X12_offer : mj_ok1 mj_tab mt_X12_offer = true := mj_ok1_mk (mj_cm0 (mj_wi_in 663) (mj_wi_in 570) (mj_wi_in 664) (mj_wi_in 665) rfl (by decide +kernel)) (by decide +kernel) (by decide +kernel)
set_option maxRecDepth 100000 in
theorem ok_X12_on : mj_ok1 mj_tab mt_X12_on = true := mj_ok1_mk (mj_cm0 (mj_wi_in 666) (mj_wi_in 570) (mj_wi_in 667) (mj_wi_in 668) rfl (by decide +kernel)) (by decide +kernel) (by decide +kernel)
set_option maxRecDepth 100000 in
theorem ok_X12_operand : mj_ok1 mj_tab mt_X12_operand = true := mj_ok1_mk (mj_cm0 (mj_wi_in 669) (mj_wi_in 570) (mj_wi_in 670) (mj_wi_in 671) rfl (by decide +kernel)) (by decide +kernel) (by decide +kernel)
set_option maxRecDepth 100000 in
theorem ok_X12_peek : mj_ok1 mj_tab mt_X12_peek = true := mj_ok1_mk (mj_cm0 (mj_wi_in 672) (mj_wi_in 570) (mj_wi_in 673) (mj_wi_in 674) rfl (by decide +kernel)) (by decide +kernel) (by decide +kernel)
set_option maxRecDepth 100000 in
theorem ok_X12_plain : mj_ok1 mj_tab mt_X12_plain = true := mj_ok1_mk (mj_cm0 (mj_wi_in 675) (mj_wi_in 570) (mj_wi_in 676) (mj_wi_in 677) rfl (by decide +kernel)) (by decide +kernel) (by decide +kernel)
set_option maxRecDepth 100000 in
theorem ok_X12_plan : mj_ok1 mj_tab mt_X12_plan = true := mj_ok1_mk (mj_cm0 (mj_wi_in 678) (mj_wi_in 570) (mj_wi_in 679) (mj_wi_in 680) rfl (by decide +kernel)) (by decide +kernel) (by decide +kernel)
set_option maxRecDepth 100000 in
theorem ok_X12_price : mj_ok1 mj_tab mt_X12_price = true := mj_ok1_mk (mj_cm0 (mj_wi_in 681) (mj_wi_in 570) (mj_wi_in 682) (mj_wi_in 683) rfl (by decide +kernel)) (by decide +kernel) (by decide +kernel)
set_option maxRecDepth 100000 in
theorem ok_X12_restore : mj_ok1 mj_tab mt_X12_restore = true := mj_ok1_mk (mj_cm0 (mj_wi_in 684) (mj_wi_in 570) (mj_wi_in 685) (mj_wi_in 686) rfl (by decide +kernel)) (by decide +kernel) (by decide +kernel)
set_option maxRecDepth 100000 in
theorem ok_X12_rounds : mj_ok1 mj_tab mt_X12_rounds = true := mj_ok1_mk (mj_cm0 (mj_wi_in 687) (mj_wi_in 570) (mj_wi_in 688) (mj_wi_in 689) rfl (by decide +kernel)) (by decide +kernel) (by decide +kernel)
set_option maxRecDepth 100000 in
theorem ok_X12_said : mj_ok1 mj_tab mt_X12_said = true := mj_ok1_mk (mj_cm0 (mj_wi_in 690) (mj_wi_in 570) (mj_wi_in 691) (mj_wi_in 692) rfl (by decide +kernel)) (by decide +kernel) (by decide +kernel)
set_option maxRecDepth 100000 in
theorem ok_X12_sentence : mj_ok1 mj_tab mt_X12_sentence = true := mj_ok1_mk (mj_cm0 (mj_wi_in 693) (mj_wi_in 570) (mj_wi_in 694) (mj_wi_in 695) rfl (by decide +kernel)) (by decide +kernel) (by decide +kernel)
set_option maxRecDepth 100000 in
theorem ok_X12_shores : mj_ok1 mj_tab mt_X12_shores = true := mj_ok1_mk (mj_cm0 (mj_wi_in 696) (mj_wi_in 570) (mj_wi_in 697) (mj_wi_in 698) rfl (by decide +kernel)) (by decide +kernel) (by decide +kernel)
set_option maxRecDepth 100000 in
theorem ok_X12_shoresOf : mj_ok1 mj_tab mt_X12_shoresOf = true := mj_ok1_mk (mj_cm0 (mj_wi_in 699) (mj_wi_in 570) (mj_wi_in 700) (mj_wi_in 701) rfl (by decide +kernel)) (by decide +kernel) (by decide +kernel)
set_option maxRecDepth 100000 in
theorem ok_X12_take : mj_ok1 mj_tab mt_X12_take = true := mj_ok1_mk (mj_cm0 (mj_wi_in 702) (mj_wi_in 570) (mj_wi_in 703) (mj_wi_in 704) rfl (by decide +kernel)) (by decide +kernel) (by decide +kernel)
set_option maxRecDepth 100000 in
theorem ok_X12_taken : mj_ok1 mj_tab mt_X12_taken = true := mj_ok1_mk (mj_cm0 (mj_wi_in 705) (mj_wi_in 570) (mj_wi_in 706) (mj_wi_in 707) rfl (by decide +kernel)) (by decide +kernel) (by decide +kernel)
set_option maxRecDepth 100000 in
theorem ok_X12_thirsty : mj_ok1 mj_tab mt_X12_thirsty = true := mj_ok1_mk (mj_cm0 (mj_wi_in 708) (mj_wi_in 570) (mj_wi_in 709) (mj_wi_in 710) rfl (by decide +kernel)) (by decide +kernel) (by decide +kernel)
set_option maxRecDepth 100000 in
theorem ok_X12_thrown : mj_ok1 mj_tab mt_X12_thrown = true := mj_ok1_mk (mj_cm0 (mj_wi_in 711) (mj_wi_in 570) (mj_wi_in 712) (mj_wi_in 713) rfl (by decide +kernel)) (by decide +kernel) (by decide +kernel)
set_option maxRecDepth 100000 in
theorem ok_X12_throwsIf : mj_ok1 mj_tab mt_X12_throwsIf = true := mj_ok1_mk (mj_cm0 (mj_wi_in 714) (mj_wi_in 570) (mj_wi_in 715) (mj_wi_in 716) rfl (by decide +kernel)) (by decide +kernel) (by decide +kernel)
set_option maxRecDepth 100000 in
theorem ok_X12_told : mj_ok1 mj_tab mt_X12_told = true := mj_ok1_mk (mj_cm0 (mj_wi_in 717) (mj_wi_in 570) (mj_wi_in 718) (mj_wi_in 719) rfl (by decide +kernel)) (by decide +kernel) (by decide +kernel)
set_option maxRecDepth 100000 in
theorem ok_X12_town : mj_ok1 mj_tab mt_X12_town = true := mj_ok1_mk (mj_cm0 (mj_wi_in 720) (mj_wi_in 570) (mj_wi_in 721) (mj_wi_in 722) rfl (by decide +kernel)) (by decide +kernel) (by decide +kernel)
set_option maxRecDepth 100000 in
theorem ok_X12_undo : mj_ok1 mj_tab mt_X12_undo = true := mj_ok1_mk (mj_cm0 (mj_wi_in 723) (mj_wi_in 570) (mj_wi_in 724) (mj_wi_in 725) rfl (by decide +kernel)) (by decide +kernel) (by decide +kernel)
set_option maxRecDepth 100000 in
theorem ok_X12_water : mj_ok1 mj_tab mt_X12_water = true := mj_ok1_mk (mj_cm0 (mj_wi_in 726) (mj_wi_in 570) (mj_wi_in 727) (mj_wi_in 728) rfl (by decide +kernel)) (by decide +kernel) (by decide +kernel)
set_option maxRecDepth 100000 in
theorem ok_X12_wettest : mj_ok1 mj_tab mt_X12_wettest = true := mj_ok1_mk (mj_cm0 (mj_wi_in 729) (mj_wi_in 570) (mj_wi_in 730) (mj_wi_in 731) rfl (by decide +kernel)) (by decide +kernel) (by decide +kernel)
set_option maxRecDepth 100000 in
theorem ok_X12_worth : mj_ok1 mj_tab mt_X12_worth = true := mj_ok1_mk (mj_cm0 (mj_wi_in 732) (mj_wi_in 570) (mj_wi_in 733) (mj_wi_in 734) rfl (by decide +kernel)) (by decide +kernel) (by decide +kernel)
set_option maxRecDepth 100000 in
theorem ok_X12_write : mj_ok1 mj_tab mt_X12_write = true := mj_ok1_mk (mj_cm0 (mj_wi_in 735) (mj_wi_in 570) (mj_wi_in 736) (mj_wi_in 737) rfl (by decide +kernel)) (by decide +kernel) (by decide +kernel)
set_option maxRecDepth 100000 in
theorem ok_X12_year : mj_ok1 mj_tab mt_X12_year = true := mj_ok1_mk (mj_cm0 (mj_wi_in 738) (mj_wi_in 570) (mj_wi_in 739) (mj_wi_in 740) rfl (by decide +kernel)) (by decide +kernel) (by decide +kernel)
