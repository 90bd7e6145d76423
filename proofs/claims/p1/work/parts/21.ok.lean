/-! ===== what is checked of them ===== -/
set_option maxRecDepth 100000 in
theorem ok_X0_init : mj_ok1 mj_tab mt_X0_init = true := mj_ok1_mk (mj_cm2 (mj_wi_in 345) (mj_wi_in 214) (mj_wi_in 346) rfl (by decide +kernel)) (by decide +kernel) (by decide +kernel)
set_option maxRecDepth 100000 in
theorem ok_X1_clear : mj_ok1 mj_tab mt_X1_clear = true := mj_ok1_mk (mj_cm0 (mj_wi_in 347) (mj_wi_in 124) (mj_wi_in 348) (mj_wi_in 349) rfl (by decide +kernel)) (by decide +kernel) (by decide +kernel)
set_option maxRecDepth 100000 in
theorem ok_X1_copy : mj_ok1 mj_tab mt_X1_copy = true := mj_ok1_mk (mj_cm0 (mj_wi_in 350) (mj_wi_in 124) (mj_wi_in 351) (mj_wi_in 352) rfl (by decide +kernel)) (by decide +kernel) (by decide +kernel)
set_option maxRecDepth 100000 in
theorem ok_X1_init : mj_ok1 mj_tab mt_X1_init = true := mj_ok1_mk (mj_cm2 (mj_wi_in 353) (mj_wi_in 124) (mj_wi_in 354) rfl (by decide +kernel)) (by decide +kernel) (by decide +kernel)
set_option maxRecDepth 100000 in
theorem ok_X1_readRows : mj_ok1 mj_tab mt_X1_readRows = true := mj_ok1_mk (mj_cm0 (mj_wi_in 355) (mj_wi_in 124) (mj_wi_in 356) (mj_wi_in 357) rfl (by decide +kernel)) (by decide +kernel) (by decide +kernel)
set_option maxRecDepth 100000 in
theorem ok_X1_tells : mj_ok1 mj_tab mt_X1_tells = true := mj_ok1_mk (mj_cm0 (mj_wi_in 358) (mj_wi_in 124) (mj_wi_in 359) (mj_wi_in 360) rfl (by decide +kernel)) (by decide +kernel) (by decide +kernel)
set_option maxRecDepth 100000 in
theorem ok_X2_init : mj_ok1 mj_tab mt_X2_init = true := mj_ok1_mk (mj_cm2 (mj_wi_in 361) (mj_wi_in 222) (mj_wi_in 362) rfl (by decide +kernel)) (by decide +kernel) (by decide +kernel)
set_option maxRecDepth 100000 in
theorem ok_X2_readLevels : mj_ok1 mj_tab mt_X2_readLevels = true := mj_ok1_mk (mj_cm0 (mj_wi_in 363) (mj_wi_in 222) (mj_wi_in 364) (mj_wi_in 365) rfl (by decide +kernel)) (by decide +kernel) (by decide +kernel)
set_option maxRecDepth 100000 in
theorem ok_X3_clear : mj_ok1 mj_tab mt_X3_clear = true := mj_ok1_mk (mj_cm0 (mj_wi_in 366) (mj_wi_in 120) (mj_wi_in 367) (mj_wi_in 368) rfl (by decide +kernel)) (by decide +kernel) (by decide +kernel)
set_option maxRecDepth 100000 in
theorem ok_X3_copy : mj_ok1 mj_tab mt_X3_copy = true := mj_ok1_mk (mj_cm0 (mj_wi_in 369) (mj_wi_in 120) (mj_wi_in 370) (mj_wi_in 371) rfl (by decide +kernel)) (by decide +kernel) (by decide +kernel)
set_option maxRecDepth 100000 in
theorem ok_X3_init : mj_ok1 mj_tab mt_X3_init = true := mj_ok1_mk (mj_cm2 (mj_wi_in 372) (mj_wi_in 120) (mj_wi_in 373) rfl (by decide +kernel)) (by decide +kernel) (by decide +kernel)
set_option maxRecDepth 100000 in
theorem ok_X3_readRows : mj_ok1 mj_tab mt_X3_readRows = true := mj_ok1_mk (mj_cm0 (mj_wi_in 374) (mj_wi_in 120) (mj_wi_in 375) (mj_wi_in 376) rfl (by decide +kernel)) (by decide +kernel) (by decide +kernel)
set_option maxRecDepth 100000 in
theorem ok_X4_init : mj_ok1 mj_tab mt_X4_init = true := mj_ok1_mk (mj_cm2 (mj_wi_in 377) (mj_wi_in 218) (mj_wi_in 378) rfl (by decide +kernel)) (by decide +kernel) (by decide +kernel)
set_option maxRecDepth 100000 in
theorem ok_X5_begins : mj_ok1 mj_tab mt_X5_begins = true := mj_ok1_mk (mj_cm1 (mj_wi_in 379) (mj_wi_in 128) (mj_wi_in 380) rfl (by decide +kernel)) (by decide +kernel) (by decide +kernel)
set_option maxRecDepth 100000 in
theorem ok_X5_clear : mj_ok1 mj_tab mt_X5_clear = true := mj_ok1_mk (mj_cm0 (mj_wi_in 381) (mj_wi_in 128) (mj_wi_in 382) (mj_wi_in 383) rfl (by decide +kernel)) (by decide +kernel) (by decide +kernel)
set_option maxRecDepth 100000 in
theorem ok_X5_copy : mj_ok1 mj_tab mt_X5_copy = true := mj_ok1_mk (mj_cm0 (mj_wi_in 384) (mj_wi_in 128) (mj_wi_in 385) (mj_wi_in 386) rfl (by decide +kernel)) (by decide +kernel) (by decide +kernel)
set_option maxRecDepth 100000 in
theorem ok_X5_init : mj_ok1 mj_tab mt_X5_init = true := mj_ok1_mk (mj_cm2 (mj_wi_in 387) (mj_wi_in 128) (mj_wi_in 388) rfl (by decide +kernel)) (by decide +kernel) (by decide +kernel)
set_option maxRecDepth 100000 in
theorem ok_X5_readAll : mj_ok1 mj_tab mt_X5_readAll = true := mj_ok1_mk (mj_cm0 (mj_wi_in 389) (mj_wi_in 128) (mj_wi_in 390) (mj_wi_in 391) rfl (by decide +kernel)) (by decide +kernel) (by decide +kernel)
set_option maxRecDepth 100000 in
theorem ok_X5_readCond : mj_ok1 mj_tab mt_X5_readCond = true := mj_ok1_mk (mj_cm0 (mj_wi_in 392) (mj_wi_in 128) (mj_wi_in 393) (mj_wi_in 394) rfl (by decide +kernel)) (by decide +kernel) (by decide +kernel)
set_option maxRecDepth 100000 in
theorem ok_X5_readOne : mj_ok1 mj_tab mt_X5_readOne = true := mj_ok1_mk (mj_cm0 (mj_wi_in 395) (mj_wi_in 128) (mj_wi_in 396) (mj_wi_in 397) rfl (by decide +kernel)) (by decide +kernel) (by decide +kernel)
set_option maxRecDepth 100000 in
theorem ok_X5_readText : mj_ok1 mj_tab mt_X5_readText = true := mj_ok1_mk (mj_cm0 (mj_wi_in 398) (mj_wi_in 128) (mj_wi_in 399) (mj_wi_in 400) rfl (by decide +kernel)) (by decide +kernel) (by decide +kernel)
set_option maxRecDepth 100000 in
theorem ok_X6_copy : mj_ok1 mj_tab mt_X6_copy = true := mj_ok1_mk (mj_cm0 (mj_wi_in 401) (mj_wi_in 205) (mj_wi_in 402) (mj_wi_in 403) rfl (by decide +kernel)) (by decide +kernel) (by decide +kernel)
set_option maxRecDepth 100000 in
theorem ok_X6_init : mj_ok1 mj_tab mt_X6_init = true := mj_ok1_mk (mj_cm2 (mj_wi_in 404) (mj_wi_in 205) (mj_wi_in 405) rfl (by decide +kernel)) (by decide +kernel) (by decide +kernel)
set_option maxRecDepth 100000 in
theorem ok_X7_advance : mj_ok1 mj_tab mt_X7_advance = true := mj_ok1_mk (mj_cm0 (mj_wi_in 406) (mj_wi_in 201) (mj_wi_in 407) (mj_wi_in 408) rfl (by decide +kernel)) (by decide +kernel) (by decide +kernel)
set_option maxRecDepth 100000 in
theorem ok_X7_finish : mj_ok1 mj_tab mt_X7_finish = true := mj_ok1_mk (mj_cm0 (mj_wi_in 409) (mj_wi_in 201) (mj_wi_in 410) (mj_wi_in 411) rfl (by decide +kernel)) (by decide +kernel) (by decide +kernel)
set_option maxRecDepth 100000 in
theorem ok_X7_hasRoom : mj_ok1 mj_tab mt_X7_hasRoom = true := mj_ok1_mk (mj_cm0 (mj_wi_in 412) (mj_wi_in 201) (mj_wi_in 413) (mj_wi_in 414) rfl (by decide +kernel)) (by decide +kernel) (by decide +kernel)
set_option maxRecDepth 100000 in
theorem ok_X7_init : mj_ok1 mj_tab mt_X7_init = true := mj_ok1_mk (mj_cm2 (mj_wi_in 415) (mj_wi_in 201) (mj_wi_in 416) rfl (by decide +kernel)) (by decide +kernel) (by decide +kernel)
set_option maxRecDepth 100000 in
theorem ok_X7_isSign : mj_ok1 mj_tab mt_X7_isSign = true := mj_ok1_mk (mj_cm0 (mj_wi_in 417) (mj_wi_in 201) (mj_wi_in 418) (mj_wi_in 419) rfl (by decide +kernel)) (by decide +kernel) (by decide +kernel)
set_option maxRecDepth 100000 in
theorem ok_X7_open : mj_ok1 mj_tab mt_X7_open = true := mj_ok1_mk (mj_cm0 (mj_wi_in 420) (mj_wi_in 201) (mj_wi_in 421) (mj_wi_in 422) rfl (by decide +kernel)) (by decide +kernel) (by decide +kernel)
set_option maxRecDepth 100000 in
theorem ok_X7_put : mj_ok1 mj_tab mt_X7_put = true := mj_ok1_mk (mj_cm0 (mj_wi_in 423) (mj_wi_in 201) (mj_wi_in 424) (mj_wi_in 425) rfl (by decide +kernel)) (by decide +kernel) (by decide +kernel)
set_option maxRecDepth 100000 in
theorem ok_X7_refuse : mj_ok1 mj_tab mt_X7_refuse = true := mj_ok1_mk (mj_cm0 (mj_wi_in 426) (mj_wi_in 201) (mj_wi_in 427) (mj_wi_in 428) rfl (by decide +kernel)) (by decide +kernel) (by decide +kernel)
set_option maxRecDepth 100000 in
theorem ok_X8_back : mj_ok1 mj_tab mt_X8_back = true := mj_ok1_mk (mj_cm0 (mj_wi_in 429) (mj_wi_in 209) (mj_wi_in 430) (mj_wi_in 431) rfl (by decide +kernel)) (by decide +kernel) (by decide +kernel)
set_option maxRecDepth 100000 in
theorem ok_X8_init : mj_ok1 mj_tab mt_X8_init = true := mj_ok1_mk (mj_cm2 (mj_wi_in 432) (mj_wi_in 209) (mj_wi_in 433) rfl (by decide +kernel)) (by decide +kernel) (by decide +kernel)
set_option maxRecDepth 100000 in
theorem ok_X10_copy : mj_ok1 mj_tab mt_X10_copy = true := mj_ok1_mk (mj_cm0 (mj_wi_in 434) (mj_wi_in 43) (mj_wi_in 435) (mj_wi_in 436) rfl (by decide +kernel)) (by decide +kernel) (by decide +kernel)
set_option maxRecDepth 100000 in
theorem ok_X10_init : mj_ok1 mj_tab mt_X10_init = true := mj_ok1_mk (mj_cm2 (mj_wi_in 437) (mj_wi_in 43) (mj_wi_in 438) rfl (by decide +kernel)) (by decide +kernel) (by decide +kernel)
set_option maxRecDepth 100000 in
theorem ok_X11_begin : mj_ok1 mj_tab mt_X11_begin = true := mj_ok1_mk (mj_cm0 (mj_wi_in 439) (mj_wi_in 440) (mj_wi_in 441) (mj_wi_in 442) rfl (by decide +kernel)) (by decide +kernel) (by decide +kernel)
set_option maxRecDepth 100000 in
theorem ok_X11_bid : mj_ok1 mj_tab mt_X11_bid = true := mj_ok1_mk (mj_cm0 (mj_wi_in 443) (mj_wi_in 440) (mj_wi_in 444) (mj_wi_in 445) rfl (by decide +kernel)) (by decide +kernel) (by decide +kernel)
set_option maxRecDepth 100000 in
theorem ok_X11_bidsOf : mj_ok1 mj_tab mt_X11_bidsOf = true := mj_ok1_mk (mj_cm0 (mj_wi_in 446) (mj_wi_in 440) (mj_wi_in 447) (mj_wi_in 448) rfl (by decide +kernel)) (by decide +kernel) (by decide +kernel)
set_option maxRecDepth 100000 in
theorem ok_X11_byteAt : mj_ok1 mj_tab mt_X11_byteAt = true := mj_ok1_mk (mj_cm0 (mj_wi_in 449) (mj_wi_in 440) (mj_wi_in 450) (mj_wi_in 451) rfl (by decide +kernel)) (by decide +kernel) (by decide +kernel)
set_option maxRecDepth 100000 in
theorem ok_X11_cheapest : mj_ok1 mj_tab mt_X11_cheapest = true := mj_ok1_mk (mj_cm0 (mj_wi_in 452) (mj_wi_in 440) (mj_wi_in 453) (mj_wi_in 454) rfl (by decide +kernel)) (by decide +kernel) (by decide +kernel)
set_option maxRecDepth 100000 in
theorem ok_X11_closeTape : mj_ok1 mj_tab mt_X11_closeTape = true := mj_ok1_mk (mj_cm0 (mj_wi_in 455) (mj_wi_in 440) (mj_wi_in 456) (mj_wi_in 457) rfl (by decide +kernel)) (by decide +kernel) (by decide +kernel)
set_option maxRecDepth 100000 in
theorem ok_X11_contract : mj_ok1 mj_tab mt_X11_contract = true := mj_ok1_mk (mj_cm0 (mj_wi_in 458) (mj_wi_in 440) (mj_wi_in 459) (mj_wi_in 460) rfl (by decide +kernel)) (by decide +kernel) (by decide +kernel)
set_option maxRecDepth 100000 in
theorem ok_X11_contracts : mj_ok1 mj_tab mt_X11_contracts = true := mj_ok1_mk (mj_cm0 (mj_wi_in 461) (mj_wi_in 440) (mj_wi_in 462) (mj_wi_in 463) rfl (by decide +kernel)) (by decide +kernel) (by decide +kernel)
set_option maxRecDepth 100000 in
theorem ok_X11_count : mj_ok1 mj_tab mt_X11_count = true := mj_ok1_mk (mj_cm0 (mj_wi_in 464) (mj_wi_in 440) (mj_wi_in 465) (mj_wi_in 466) rfl (by decide +kernel)) (by decide +kernel) (by decide +kernel)
set_option maxRecDepth 100000 in
theorem ok_X11_drawn : mj_ok1 mj_tab mt_X11_drawn = true := mj_ok1_mk (mj_cm0 (mj_wi_in 467) (mj_wi_in 440) (mj_wi_in 468) (mj_wi_in 469) rfl (by decide +kernel)) (by decide +kernel) (by decide +kernel)
set_option maxRecDepth 100000 in
theorem ok_X11_droughts : mj_ok1 mj_tab mt_X11_droughts = true := mj_ok1_mk (mj_cm0 (mj_wi_in 470) (mj_wi_in 440) (mj_wi_in 471) (mj_wi_in 472) rfl (by decide +kernel)) (by decide +kernel) (by decide +kernel)
set_option maxRecDepth 100000 in
theorem ok_X11_end : mj_ok1 mj_tab mt_X11_end = true := mj_ok1_mk (mj_cm0 (mj_wi_in 473) (mj_wi_in 440) (mj_wi_in 474) (mj_wi_in 475) rfl (by decide +kernel)) (by decide +kernel) (by decide +kernel)
set_option maxRecDepth 100000 in
theorem ok_X11_enough : mj_ok1 mj_tab mt_X11_enough = true := mj_ok1_mk (mj_cm0 (mj_wi_in 476) (mj_wi_in 440) (mj_wi_in 477) (mj_wi_in 478) rfl (by decide +kernel)) (by decide +kernel) (by decide +kernel)
set_option maxRecDepth 100000 in
theorem ok_X11_fault : mj_ok1 mj_tab mt_X11_fault = true := mj_ok1_mk (mj_cm0 (mj_wi_in 479) (mj_wi_in 440) (mj_wi_in 480) (mj_wi_in 481) rfl (by decide +kernel)) (by decide +kernel) (by decide +kernel)
set_option maxRecDepth 100000 in
theorem ok_X11_feed : mj_ok1 mj_tab mt_X11_feed = true := mj_ok1_mk (mj_cm0 (mj_wi_in 482) (mj_wi_in 440) (mj_wi_in 483) (mj_wi_in 484) rfl (by decide +kernel)) (by decide +kernel) (by decide +kernel)
set_option maxRecDepth 100000 in
theorem ok_X11_greatest : mj_ok1 mj_tab mt_X11_greatest = true := mj_ok1_mk (mj_cm0 (mj_wi_in 485) (mj_wi_in 440) (mj_wi_in 486) (mj_wi_in 487) rfl (by decide +kernel)) (by decide +kernel) (by decide +kernel)
set_option maxRecDepth 100000 in
theorem ok_X11_has : mj_ok1 mj_tab mt_X11_has = true := mj_ok1_mk (mj_cm0 (mj_wi_in 488) (mj_wi_in 440) (mj_wi_in 489) (mj_wi_in 490) rfl (by decide +kernel)) (by decide +kernel) (by decide +kernel)
set_option maxRecDepth 100000 in
theorem ok_X11_image : mj_ok1 mj_tab mt_X11_image = true := mj_ok1_mk (mj_cm0 (mj_wi_in 491) (mj_wi_in 440) (mj_wi_in 492) (mj_wi_in 493) rfl (by decide +kernel)) (by decide +kernel) (by decide +kernel)
set_option maxRecDepth 100000 in
theorem ok_X11_init : mj_ok1 mj_tab mt_X11_init = true := mj_ok1_mk (mj_cm2 (mj_wi_in 494) (mj_wi_in 440) (mj_wi_in 495) rfl (by decide +kernel)) (by decide +kernel) (by decide +kernel)
set_option maxRecDepth 100000 in
theorem ok_X11_isMonth : mj_ok1 mj_tab mt_X11_isMonth = true := mj_ok1_mk (mj_cm1 (mj_wi_in 496) (mj_wi_in 440) (mj_wi_in 497) rfl (by decide +kernel)) (by decide +kernel) (by decide +kernel)
set_option maxRecDepth 100000 in
theorem ok_X11_isTown : mj_ok1 mj_tab mt_X11_isTown = true := mj_ok1_mk (mj_cm0 (mj_wi_in 498) (mj_wi_in 440) (mj_wi_in 499) (mj_wi_in 500) rfl (by decide +kernel)) (by decide +kernel) (by decide +kernel)
set_option maxRecDepth 100000 in
theorem ok_X11_leak : mj_ok1 mj_tab mt_X11_leak = true := mj_ok1_mk (mj_cm0 (mj_wi_in 501) (mj_wi_in 440) (mj_wi_in 502) (mj_wi_in 503) rfl (by decide +kernel)) (by decide +kernel) (by decide +kernel)
set_option maxRecDepth 100000 in
theorem ok_X11_leaks : mj_ok1 mj_tab mt_X11_leaks = true := mj_ok1_mk (mj_cm0 (mj_wi_in 504) (mj_wi_in 440) (mj_wi_in 505) (mj_wi_in 506) rfl (by decide +kernel)) (by decide +kernel) (by decide +kernel)
set_option maxRecDepth 100000 in
theorem ok_X11_let : mj_ok1 mj_tab mt_X11_let = true := mj_ok1_mk (mj_cm0 (mj_wi_in 507) (mj_wi_in 440) (mj_wi_in 508) (mj_wi_in 509) rfl (by decide +kernel)) (by decide +kernel) (by decide +kernel)
set_option maxRecDepth 100000 in
theorem ok_X11_must : mj_ok1 mj_tab mt_X11_must = true := mj_ok1_mk (mj_cm0 (mj_wi_in 510) (mj_wi_in 440) (mj_wi_in 511) (mj_wi_in 512) rfl (by decide +kernel)) (by decide +kernel) (by decide +kernel)
set_option maxRecDepth 100000 in
theorem ok_X11_offer : mj_ok1 mj_tab mt_X11_offer = true := mj_ok1_mk (mj_cm0 (mj_wi_in 513) (mj_wi_in 440) (mj_wi_in 514) (mj_wi_in 515) rfl (by decide +kernel)) (by decide +kernel) (by decide +kernel)
set_option maxRecDepth 100000 in
theorem ok_X11_on : mj_ok1 mj_tab mt_X11_on = true := mj_ok1_mk (mj_cm0 (mj_wi_in 516) (mj_wi_in 440) (mj_wi_in 517) (mj_wi_in 518) rfl (by decide +kernel)) (by decide +kernel) (by decide +kernel)
set_option maxRecDepth 100000 in
theorem ok_X11_plain : mj_ok1 mj_tab mt_X11_plain = true := mj_ok1_mk (mj_cm0 (mj_wi_in 519) (mj_wi_in 440) (mj_wi_in 520) (mj_wi_in 521) rfl (by decide +kernel)) (by decide +kernel) (by decide +kernel)
set_option maxRecDepth 100000 in
theorem ok_X11_plan : mj_ok1 mj_tab mt_X11_plan = true := mj_ok1_mk (mj_cm0 (mj_wi_in 522) (mj_wi_in 440) (mj_wi_in 523) (mj_wi_in 524) rfl (by decide +kernel)) (by decide +kernel) (by decide +kernel)
set_option maxRecDepth 100000 in
theorem ok_X11_price : mj_ok1 mj_tab mt_X11_price = true := mj_ok1_mk (mj_cm0 (mj_wi_in 525) (mj_wi_in 440) (mj_wi_in 526) (mj_wi_in 527) rfl (by decide +kernel)) (by decide +kernel) (by decide +kernel)
set_option maxRecDepth 100000 in
theorem ok_X11_restore : mj_ok1 mj_tab mt_X11_restore = true := mj_ok1_mk (mj_cm0 (mj_wi_in 528) (mj_wi_in 440) (mj_wi_in 529) (mj_wi_in 530) rfl (by decide +kernel)) (by decide +kernel) (by decide +kernel)
set_option maxRecDepth 100000 in
theorem ok_X11_rounds : mj_ok1 mj_tab mt_X11_rounds = true := mj_ok1_mk (mj_cm0 (mj_wi_in 531) (mj_wi_in 440) (mj_wi_in 532) (mj_wi_in 533) rfl (by decide +kernel)) (by decide +kernel) (by decide +kernel)
set_option maxRecDepth 100000 in
theorem ok_X11_said : mj_ok1 mj_tab mt_X11_said = true := mj_ok1_mk (mj_cm0 (mj_wi_in 534) (mj_wi_in 440) (mj_wi_in 535) (mj_wi_in 536) rfl (by decide +kernel)) (by decide +kernel) (by decide +kernel)
set_option maxRecDepth 100000 in
theorem ok_X11_sentence : mj_ok1 mj_tab mt_X11_sentence = true := mj_ok1_mk (mj_cm0 (mj_wi_in 537) (mj_wi_in 440) (mj_wi_in 538) (mj_wi_in 539) rfl (by decide +kernel)) (by decide +kernel) (by decide +kernel)
set_option maxRecDepth 100000 in
theorem ok_X11_shores : mj_ok1 mj_tab mt_X11_shores = true := mj_ok1_mk (mj_cm0 (mj_wi_in 540) (mj_wi_in 440) (mj_wi_in 541) (mj_wi_in 542) rfl (by decide +kernel)) (by decide +kernel) (by decide +kernel)
set_option maxRecDepth 100000 in
theorem ok_X11_shoresOf : mj_ok1 mj_tab mt_X11_shoresOf = true := mj_ok1_mk (mj_cm0 (mj_wi_in 543) (mj_wi_in 440) (mj_wi_in 544) (mj_wi_in 545) rfl (by decide +kernel)) (by decide +kernel) (by decide +kernel)
set_option maxRecDepth 100000 in
theorem ok_X11_take : mj_ok1 mj_tab mt_X11_take = true := mj_ok1_mk (mj_cm0 (mj_wi_in 546) (mj_wi_in 440) (mj_wi_in 547) (mj_wi_in 548) rfl (by decide +kernel)) (by decide +kernel) (by decide +kernel)
set_option maxRecDepth 100000 in
theorem ok_X11_thirsty : mj_ok1 mj_tab mt_X11_thirsty = true := mj_ok1_mk (mj_cm0 (mj_wi_in 549) (mj_wi_in 440) (mj_wi_in 550) (mj_wi_in 551) rfl (by decide +kernel)) (by decide +kernel) (by decide +kernel)
set_option maxRecDepth 100000 in
theorem ok_X11_town : mj_ok1 mj_tab mt_X11_town = true := mj_ok1_mk (mj_cm0 (mj_wi_in 552) (mj_wi_in 440) (mj_wi_in 553) (mj_wi_in 554) rfl (by decide +kernel)) (by decide +kernel) (by decide +kernel)
set_option maxRecDepth 100000 in
theorem ok_X11_undo : mj_ok1 mj_tab mt_X11_undo = true := mj_ok1_mk (mj_cm0 (mj_wi_in 555) (mj_wi_in 440) (mj_wi_in 556) (mj_wi_in 557) rfl (by decide +kernel)) (by decide +kernel) (by decide +kernel)
set_option maxRecDepth 100000 in
theorem ok_X11_water : mj_ok1 mj_tab mt_X11_water = true := mj_ok1_mk (mj_cm0 (mj_wi_in 558) (mj_wi_in 440) (mj_wi_in 559) (mj_wi_in 560) rfl (by decide +kernel)) (by decide +kernel) (by decide +kernel)
set_option maxRecDepth 100000 in
theorem ok_X11_wettest : mj_ok1 mj_tab mt_X11_wettest = true := mj_ok1_mk (mj_cm0 (mj_wi_in 561) (mj_wi_in 440) (mj_wi_in 562) (mj_wi_in 563) rfl (by decide +kernel)) (by decide +kernel) (by decide +kernel)
set_option maxRecDepth 100000 in
theorem ok_X11_worth : mj_ok1 mj_tab mt_X11_worth = true := mj_ok1_mk (mj_cm0 (mj_wi_in 564) (mj_wi_in 440) (mj_wi_in 565) (mj_wi_in 566) rfl (by decide +kernel)) (by decide +kernel) (by decide +kernel)
set_option maxRecDepth 100000 in
theorem ok_X11_write : mj_ok1 mj_tab mt_X11_write = true := mj_ok1_mk (mj_cm0 (mj_wi_in 567) (mj_wi_in 440) (mj_wi_in 568) (mj_wi_in 569) rfl (by decide +kernel)) (by decide +kernel) (by decide +kernel)
set_option maxRecDepth 100000 in
theorem ok_X11_year : mj_ok1 mj_tab mt_X11_year = true := mj_ok1_mk (mj_cm0 (mj_wi_in 570) (mj_wi_in 440) (mj_wi_in 571) (mj_wi_in 572) rfl (by decide +kernel)) (by decide +kernel) (by decide +kernel)
set_option maxRecDepth 100000 in
theorem ok_X12_bad : mj_ok1 mj_tab mt_X12_bad = true := mj_ok1_mk (mj_cm0 (mj_wi_in 573) (mj_wi_in 574) (mj_wi_in 575) (mj_wi_in 576) rfl (by decide +kernel)) (by decide +kernel) (by decide +kernel)
set_option maxRecDepth 100000 in
theorem ok_X12_begin : mj_ok1 mj_tab mt_X12_begin = true := mj_ok1_mk (mj_cm0 (mj_wi_in 577) (mj_wi_in 574) (mj_wi_in 578) (mj_wi_in 579) rfl (by decide +kernel)) (by decide +kernel) (by decide +kernel)
set_option maxRecDepth 100000 in
theorem ok_X12_bid : mj_ok1 mj_tab mt_X12_bid = true := mj_ok1_mk (mj_cm0 (mj_wi_in 580) (mj_wi_in 574) (mj_wi_in 581) (mj_wi_in 582) rfl (by decide +kernel)) (by decide +kernel) (by decide +kernel)
set_option maxRecDepth 100000 in
theorem ok_X12_bidMany : mj_ok1 mj_tab mt_X12_bidMany = true := mj_ok1_mk (mj_cm0 (mj_wi_in 583) (mj_wi_in 574) (mj_wi_in 584) (mj_wi_in 585) rfl (by decide +kernel)) (by decide +kernel) (by decide +kernel)
set_option maxRecDepth 100000 in
theorem ok_X12_bidsOf : mj_ok1 mj_tab mt_X12_bidsOf = true := mj_ok1_mk (mj_cm0 (mj_wi_in 586) (mj_wi_in 574) (mj_wi_in 587) (mj_wi_in 588) rfl (by decide +kernel)) (by decide +kernel) (by decide +kernel)
set_option maxRecDepth 100000 in
theorem ok_X12_byteAt : mj_ok1 mj_tab mt_X12_byteAt = true := mj_ok1_mk (mj_cm0 (mj_wi_in 589) (mj_wi_in 574) (mj_wi_in 590) (mj_wi_in 591) rfl (by decide +kernel)) (by decide +kernel) (by decide +kernel)
set_option maxRecDepth 100000 in
theorem ok_X12_cheapest : mj_ok1 mj_tab mt_X12_cheapest = true := mj_ok1_mk (mj_cm0 (mj_wi_in 592) (mj_wi_in 574) (mj_wi_in 593) (mj_wi_in 594) rfl (by decide +kernel)) (by decide +kernel) (by decide +kernel)
set_option maxRecDepth 100000 in
theorem ok_X12_contract : mj_ok1 mj_tab mt_X12_contract = true := mj_ok1_mk (mj_cm0 (mj_wi_in 595) (mj_wi_in 574) (mj_wi_in 596) (mj_wi_in 597) rfl (by decide +kernel)) (by decide +kernel) (by decide +kernel)
set_option maxRecDepth 100000 in
theorem ok_X12_contracts : mj_ok1 mj_tab mt_X12_contracts = true := mj_ok1_mk (mj_cm0 (mj_wi_in 598) (mj_wi_in 574) (mj_wi_in 599) (mj_wi_in 600) rfl (by decide +kernel)) (by decide +kernel) (by decide +kernel)
set_option maxRecDepth 100000 in
theorem ok_X12_count : mj_ok1 mj_tab mt_X12_count = true := mj_ok1_mk (mj_cm0 (mj_wi_in 601) (mj_wi_in 574) (mj_wi_in 602) (mj_wi_in 603) rfl (by decide +kernel)) (by decide +kernel) (by decide +kernel)
set_option maxRecDepth 100000 in
theorem ok_X12_drawn : mj_ok1 mj_tab mt_X12_drawn = true := mj_ok1_mk (mj_cm0 (mj_wi_in 604) (mj_wi_in 574) (mj_wi_in 605) (mj_wi_in 606) rfl (by decide +kernel)) (by decide +kernel) (by decide +kernel)
set_option maxRecDepth 100000 in
theorem ok_X12_droughts : mj_ok1 mj_tab mt_X12_droughts = true := mj_ok1_mk (mj_cm0 (mj_wi_in 607) (mj_wi_in 574) (mj_wi_in 608) (mj_wi_in 609) rfl (by decide +kernel)) (by decide +kernel) (by decide +kernel)
set_option maxRecDepth 100000 in
theorem ok_X12_end : mj_ok1 mj_tab mt_X12_end = true := mj_ok1_mk (mj_cm0 (mj_wi_in 610) (mj_wi_in 574) (mj_wi_in 611) (mj_wi_in 612) rfl (by decide +kernel)) (by decide +kernel) (by decide +kernel)
set_option maxRecDepth 100000 in
theorem ok_X12_enough : mj_ok1 mj_tab mt_X12_enough = true := mj_ok1_mk (mj_cm0 (mj_wi_in 613) (mj_wi_in 574) (mj_wi_in 614) (mj_wi_in 615) rfl (by decide +kernel)) (by decide +kernel) (by decide +kernel)
set_option maxRecDepth 100000 in
theorem ok_X12_fault : mj_ok1 mj_tab mt_X12_fault = true := mj_ok1_mk (mj_cm0 (mj_wi_in 616) (mj_wi_in 574) (mj_wi_in 617) (mj_wi_in 618) rfl (by decide +kernel)) (by decide +kernel) (by decide +kernel)
set_option maxRecDepth 100000 in
theorem ok_X12_feed : mj_ok1 mj_tab mt_X12_feed = true := mj_ok1_mk (mj_cm0 (mj_wi_in 619) (mj_wi_in 574) (mj_wi_in 620) (mj_wi_in 621) rfl (by decide +kernel)) (by decide +kernel) (by decide +kernel)
set_option maxRecDepth 100000 in
theorem ok_X12_four : mj_ok1 mj_tab mt_X12_four = true := mj_ok1_mk (mj_cm0 (mj_wi_in 622) (mj_wi_in 574) (mj_wi_in 623) (mj_wi_in 624) rfl (by decide +kernel)) (by decide +kernel) (by decide +kernel)
set_option maxRecDepth 100000 in
theorem ok_X12_greatest : mj_ok1 mj_tab mt_X12_greatest = true := mj_ok1_mk (mj_cm0 (mj_wi_in 625) (mj_wi_in 574) (mj_wi_in 626) (mj_wi_in 627) rfl (by decide +kernel)) (by decide +kernel) (by decide +kernel)
set_option maxRecDepth 100000 in
theorem ok_X12_has : mj_ok1 mj_tab mt_X12_has = true := mj_ok1_mk (mj_cm0 (mj_wi_in 628) (mj_wi_in 574) (mj_wi_in 629) (mj_wi_in 630) rfl (by decide +kernel)) (by decide +kernel) (by decide +kernel)
set_option maxRecDepth 100000 in
theorem ok_X12_image : mj_ok1 mj_tab mt_X12_image = true := mj_ok1_mk (mj_cm0 (mj_wi_in 631) (mj_wi_in 574) (mj_wi_in 632) (mj_wi_in 633) rfl (by decide +kernel)) (by decide +kernel) (by decide +kernel)
set_option maxRecDepth 100000 in
theorem ok_X12_init : mj_ok1 mj_tab mt_X12_init = true := mj_ok1_mk (mj_cm2 (mj_wi_in 634) (mj_wi_in 574) (mj_wi_in 635) rfl (by decide +kernel)) (by decide +kernel) (by decide +kernel)
set_option maxRecDepth 100000 in
theorem ok_X12_isIn : mj_ok1 mj_tab mt_X12_isIn = true := mj_ok1_mk (mj_cm1 (mj_wi_in 636) (mj_wi_in 574) (mj_wi_in 637) rfl (by decide +kernel)) (by decide +kernel) (by decide +kernel)
set_option maxRecDepth 100000 in
theorem ok_X12_isMonth : mj_ok1 mj_tab mt_X12_isMonth = true := mj_ok1_mk (mj_cm1 (mj_wi_in 638) (mj_wi_in 574) (mj_wi_in 639) rfl (by decide +kernel)) (by decide +kernel) (by decide +kernel)
set_option maxRecDepth 100000 in
theorem ok_X12_isSign : mj_ok1 mj_tab mt_X12_isSign = true := mj_ok1_mk (mj_cm0 (mj_wi_in 640) (mj_wi_in 574) (mj_wi_in 641) (mj_wi_in 642) rfl (by decide +kernel)) (by decide +kernel) (by decide +kernel)
set_option maxRecDepth 100000 in
theorem ok_X12_isTown : mj_ok1 mj_tab mt_X12_isTown = true := mj_ok1_mk (mj_cm0 (mj_wi_in 643) (mj_wi_in 574) (mj_wi_in 644) (mj_wi_in 645) rfl (by decide +kernel)) (by decide +kernel) (by decide +kernel)
set_option maxRecDepth 100000 in
theorem ok_X12_isWord : mj_ok1 mj_tab mt_X12_isWord = true := mj_ok1_mk (mj_cm0 (mj_wi_in 646) (mj_wi_in 574) (mj_wi_in 647) (mj_wi_in 648) rfl (by decide +kernel)) (by decide +kernel) (by decide +kernel)
set_option maxRecDepth 100000 in
theorem ok_X12_leafOf : mj_ok1 mj_tab mt_X12_leafOf = true := mj_ok1_mk (mj_cm0 (mj_wi_in 649) (mj_wi_in 574) (mj_wi_in 650) (mj_wi_in 651) rfl (by decide +kernel)) (by decide +kernel) (by decide +kernel)
set_option maxRecDepth 100000 in
theorem ok_X12_leak : mj_ok1 mj_tab mt_X12_leak = true := mj_ok1_mk (mj_cm0 (mj_wi_in 652) (mj_wi_in 574) (mj_wi_in 653) (mj_wi_in 654) rfl (by decide +kernel)) (by decide +kernel) (by decide +kernel)
set_option maxRecDepth 100000 in
theorem ok_X12_leaks : mj_ok1 mj_tab mt_X12_leaks = true := mj_ok1_mk (mj_cm0 (mj_wi_in 655) (mj_wi_in 574) (mj_wi_in 656) (mj_wi_in 657) rfl (by decide +kernel)) (by decide +kernel) (by decide +kernel)
set_option maxRecDepth 100000 in
theorem ok_X12_let : mj_ok1 mj_tab mt_X12_let = true := mj_ok1_mk (mj_cm0 (mj_wi_in 658) (mj_wi_in 574) (mj_wi_in 659) (mj_wi_in 660) rfl (by decide +kernel)) (by decide +kernel) (by decide +kernel)
set_option maxRecDepth 100000 in
theorem ok_X12_must : mj_ok1 mj_tab mt_X12_must = true := mj_ok1_mk (mj_cm0 (mj_wi_in 661) (mj_wi_in 574) (mj_wi_in 662) (mj_wi_in 663) rfl (by decide +kernel)) (by decide +kernel) (by decide +kernel)
set_option maxRecDepth 100000 in
theorem ok_X12_next : mj_ok1 mj_tab mt_X12_next = true := mj_ok1_mk (mj_cm0 (mj_wi_in 664) (mj_wi_in 574) (mj_wi_in 665) (mj_wi_in 666) rfl (by decide +kernel)) (by decide +kernel) (by decide +kernel)
set_option maxRecDepth 100000 in
theorem ok_X12_offer : mj_ok1 mj_tab mt_X12_offer = true := mj_ok1_mk (mj_cm0 (mj_wi_in 667) (mj_wi_in 574) (mj_wi_in 668) (mj_wi_in 669) rfl (by decide +kernel)) (by decide +kernel) (by decide +kernel)
set_option maxRecDepth 100000 in
theorem ok_X12_on : mj_ok1 mj_tab mt_X12_on = true := mj_ok1_mk (mj_cm0 (mj_wi_in 670) (mj_wi_in 574) (mj_wi_in 671) (mj_wi_in 672) rfl (by decide +kernel)) (by decide +kernel) (by decide +kernel)
set_option maxRecDepth 100000 in
theorem ok_X12_operand : mj_ok1 mj_tab mt_X12_operand = true := mj_ok1_mk (mj_cm0 (mj_wi_in 673) (mj_wi_in 574) (mj_wi_in 674) (mj_wi_in 675) rfl (by decide +kernel)) (by decide +kernel) (by decide +kernel)
set_option maxRecDepth 100000 in
theorem ok_X12_peek : mj_ok1 mj_tab mt_X12_peek = true := mj_ok1_mk (mj_cm0 (mj_wi_in 676) (mj_wi_in 574) (mj_wi_in 677) (mj_wi_in 678) rfl (by decide +kernel)) (by decide +kernel) (by decide +kernel)
set_option maxRecDepth 100000 in
theorem ok_X12_plain : mj_ok1 mj_tab mt_X12_plain = true := mj_ok1_mk (mj_cm0 (mj_wi_in 679) (mj_wi_in 574) (mj_wi_in 680) (mj_wi_in 681) rfl (by decide +kernel)) (by decide +kernel) (by decide +kernel)
set_option maxRecDepth 100000 in
theorem ok_X12_plan : mj_ok1 mj_tab mt_X12_plan = true := mj_ok1_mk (mj_cm0 (mj_wi_in 682) (mj_wi_in 574) (mj_wi_in 683) (mj_wi_in 684) rfl (by decide +kernel)) (by decide +kernel) (by decide +kernel)
set_option maxRecDepth 100000 in
theorem ok_X12_price : mj_ok1 mj_tab mt_X12_price = true := mj_ok1_mk (mj_cm0 (mj_wi_in 685) (mj_wi_in 574) (mj_wi_in 686) (mj_wi_in 687) rfl (by decide +kernel)) (by decide +kernel) (by decide +kernel)
set_option maxRecDepth 100000 in
theorem ok_X12_restore : mj_ok1 mj_tab mt_X12_restore = true := mj_ok1_mk (mj_cm0 (mj_wi_in 688) (mj_wi_in 574) (mj_wi_in 689) (mj_wi_in 690) rfl (by decide +kernel)) (by decide +kernel) (by decide +kernel)
set_option maxRecDepth 100000 in
theorem ok_X12_rounds : mj_ok1 mj_tab mt_X12_rounds = true := mj_ok1_mk (mj_cm0 (mj_wi_in 691) (mj_wi_in 574) (mj_wi_in 692) (mj_wi_in 693) rfl (by decide +kernel)) (by decide +kernel) (by decide +kernel)
set_option maxRecDepth 100000 in
theorem ok_X12_said : mj_ok1 mj_tab mt_X12_said = true := mj_ok1_mk (mj_cm0 (mj_wi_in 694) (mj_wi_in 574) (mj_wi_in 695) (mj_wi_in 696) rfl (by decide +kernel)) (by decide +kernel) (by decide +kernel)
set_option maxRecDepth 100000 in
theorem ok_X12_sentence : mj_ok1 mj_tab mt_X12_sentence = true := mj_ok1_mk (mj_cm0 (mj_wi_in 697) (mj_wi_in 574) (mj_wi_in 698) (mj_wi_in 699) rfl (by decide +kernel)) (by decide +kernel) (by decide +kernel)
set_option maxRecDepth 100000 in
theorem ok_X12_shores : mj_ok1 mj_tab mt_X12_shores = true := mj_ok1_mk (mj_cm0 (mj_wi_in 700) (mj_wi_in 574) (mj_wi_in 701) (mj_wi_in 702) rfl (by decide +kernel)) (by decide +kernel) (by decide +kernel)
set_option maxRecDepth 100000 in
theorem ok_X12_shoresOf : mj_ok1 mj_tab mt_X12_shoresOf = true := mj_ok1_mk (mj_cm0 (mj_wi_in 703) (mj_wi_in 574) (mj_wi_in 704) (mj_wi_in 705) rfl (by decide +kernel)) (by decide +kernel) (by decide +kernel)
set_option maxRecDepth 100000 in
theorem ok_X12_take : mj_ok1 mj_tab mt_X12_take = true := mj_ok1_mk (mj_cm0 (mj_wi_in 706) (mj_wi_in 574) (mj_wi_in 707) (mj_wi_in 708) rfl (by decide +kernel)) (by decide +kernel) (by decide +kernel)
set_option maxRecDepth 100000 in
theorem ok_X12_taken : mj_ok1 mj_tab mt_X12_taken = true := mj_ok1_mk (mj_cm0 (mj_wi_in 709) (mj_wi_in 574) (mj_wi_in 710) (mj_wi_in 711) rfl (by decide +kernel)) (by decide +kernel) (by decide +kernel)
set_option maxRecDepth 100000 in
theorem ok_X12_thirsty : mj_ok1 mj_tab mt_X12_thirsty = true := mj_ok1_mk (mj_cm0 (mj_wi_in 712) (mj_wi_in 574) (mj_wi_in 713) (mj_wi_in 714) rfl (by decide +kernel)) (by decide +kernel) (by decide +kernel)
set_option maxRecDepth 100000 in
theorem ok_X12_thrown : mj_ok1 mj_tab mt_X12_thrown = true := mj_ok1_mk (mj_cm0 (mj_wi_in 715) (mj_wi_in 574) (mj_wi_in 716) (mj_wi_in 717) rfl (by decide +kernel)) (by decide +kernel) (by decide +kernel)
set_option maxRecDepth 100000 in
theorem ok_X12_throwsIf : mj_ok1 mj_tab mt_X12_throwsIf = true := mj_ok1_mk (mj_cm0 (mj_wi_in 718) (mj_wi_in 574) (mj_wi_in 719) (mj_wi_in 720) rfl (by decide +kernel)) (by decide +kernel) (by decide +kernel)
set_option maxRecDepth 100000 in
theorem ok_X12_told : mj_ok1 mj_tab mt_X12_told = true := mj_ok1_mk (mj_cm0 (mj_wi_in 721) (mj_wi_in 574) (mj_wi_in 722) (mj_wi_in 723) rfl (by decide +kernel)) (by decide +kernel) (by decide +kernel)
set_option maxRecDepth 100000 in
theorem ok_X12_town : mj_ok1 mj_tab mt_X12_town = true := mj_ok1_mk (mj_cm0 (mj_wi_in 724) (mj_wi_in 574) (mj_wi_in 725) (mj_wi_in 726) rfl (by decide +kernel)) (by decide +kernel) (by decide +kernel)
set_option maxRecDepth 100000 in
theorem ok_X12_undo : mj_ok1 mj_tab mt_X12_undo = true := mj_ok1_mk (mj_cm0 (mj_wi_in 727) (mj_wi_in 574) (mj_wi_in 728) (mj_wi_in 729) rfl (by decide +kernel)) (by decide +kernel) (by decide +kernel)
set_option maxRecDepth 100000 in
theorem ok_X12_water : mj_ok1 mj_tab mt_X12_water = true := mj_ok1_mk (mj_cm0 (mj_wi_in 730) (mj_wi_in 574) (mj_wi_in 731) (mj_wi_in 732) rfl (by decide +kernel)) (by decide +kernel) (by decide +kernel)
set_option maxRecDepth 100000 in
theorem ok_X12_wettest : mj_ok1 mj_tab mt_X12_wettest = true := mj_ok1_mk (mj_cm0 (mj_wi_in 733) (mj_wi_in 574) (mj_wi_in 734) (mj_wi_in 735) rfl (by decide +kernel)) (by decide +kernel) (by decide +kernel)
set_option maxRecDepth 100000 in
theorem ok_X12_worth : mj_ok1 mj_tab mt_X12_worth = true := mj_ok1_mk (mj_cm0 (mj_wi_in 736) (mj_wi_in 574) (mj_wi_in 737) (mj_wi_in 738) rfl (by decide +kernel)) (by decide +kernel) (by decide +kernel)
set_option maxRecDepth 100000 in
theorem ok_X12_write : mj_ok1 mj_tab mt_X12_write = true := mj_ok1_mk (mj_cm0 (mj_wi_in 739) (mj_wi_in 574) (mj_wi_in 740) (mj_wi_in 741) rfl (by decide +kernel)) (by decide +kernel) (by decide +kernel)
set_option maxRecDepth 100000 in
theorem ok_X12_year : mj_ok1 mj_tab mt_X12_year = true := mj_ok1_mk (mj_cm0 (mj_wi_in 742) (mj_wi_in 574) (mj_wi_in 743) (mj_wi_in 744) rfl (by decide +kernel)) (by decide +kernel) (by decide +kernel)
