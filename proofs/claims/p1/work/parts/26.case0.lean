theorem dL_law__260 : decode cL_law_ 260 = .ok (.aload_n 1, 1) := by decide +kernel
theorem dL_law__261 : decode cL_law_ 261 = .ok (.aload_n 0, 1) := by decide +kernel
theorem dL_law__262 : decode cL_law_ 262 = .ok (.iload 4, 2) := by decide +kernel
theorem dL_law__264 : decode cL_law_ 264 = .ok (.iconst 1, 1) := by decide +kernel
theorem dL_law__265 : decode cL_law_ 265 = .ok (.iadd, 1) := by decide +kernel
theorem dL_law__266 : decode cL_law_ 266 = .ok (.iaload, 1) := by decide +kernel
theorem dL_law__267 : decode cL_law_ 267 = .ok (.aload_n 0, 1) := by decide +kernel
theorem dL_law__268 : decode cL_law_ 268 = .ok (.iload 4, 2) := by decide +kernel
theorem dL_law__270 : decode cL_law_ 270 = .ok (.iconst 2, 1) := by decide +kernel
theorem dL_law__271 : decode cL_law_ 271 = .ok (.iadd, 1) := by decide +kernel
theorem dL_law__272 : decode cL_law_ 272 = .ok (.iaload, 1) := by decide +kernel
theorem dL_law__273 : decode cL_law_ 273 = .ok (.aload_n 0, 1) := by decide +kernel
theorem dL_law__274 : decode cL_law_ 274 = .ok (.iload 4, 2) := by decide +kernel
theorem dL_law__276 : decode cL_law_ 276 = .ok (.iconst 3, 1) := by decide +kernel
theorem dL_law__277 : decode cL_law_ 277 = .ok (.iadd, 1) := by decide +kernel
theorem dL_law__278 : decode cL_law_ 278 = .ok (.iaload, 1) := by decide +kernel
theorem dL_law__279 : decode cL_law_ 279 = .ok (.aload_n 3, 1) := by decide +kernel
theorem zw_771 : Cond.methodLink RL 155 yL_sign ∈ zT := zT_of 752 (by decide +kernel) (by decide +kernel)
theorem zw_772 : Cond.static yL_sign ∈ zT := zT_of 753 (by decide +kernel) (by decide +kernel)
theorem zw_773 : Cond.initialized RL ∈ zT := zT_of 0 (by decide +kernel) (by decide +kernel)
theorem zw_774 : Cond.codeWith yL_sign cL_sign 6 (some .int) [(0, 12, 15, 13), (0, 12, 19, 15)] ∈ zT := zT_of 754 (by decide +kernel) (by decide +kernel)
theorem dL_law__280 : decode cL_law_ 280 = .ok (.invokestatic 155, 3) := by decide +kernel
theorem dL_law__283 : decode cL_law_ 283 = .ok (.istore 5, 2) := by decide +kernel
theorem dL_law__285 : decode cL_law_ 285 = .ok (.aload_n 2, 1) := by decide +kernel
theorem dL_law__286 : decode cL_law_ 286 = .ok (.aload_n 0, 1) := by decide +kernel
theorem dL_law__287 : decode cL_law_ 287 = .ok (.iload 4, 2) := by decide +kernel
theorem dL_law__289 : decode cL_law_ 289 = .ok (.iconst 1, 1) := by decide +kernel
theorem dL_law__290 : decode cL_law_ 290 = .ok (.iadd, 1) := by decide +kernel
theorem dL_law__291 : decode cL_law_ 291 = .ok (.iaload, 1) := by decide +kernel
theorem dL_law__292 : decode cL_law_ 292 = .ok (.aload_n 0, 1) := by decide +kernel
theorem dL_law__293 : decode cL_law_ 293 = .ok (.iload 4, 2) := by decide +kernel
theorem dL_law__295 : decode cL_law_ 295 = .ok (.iconst 2, 1) := by decide +kernel
theorem dL_law__296 : decode cL_law_ 296 = .ok (.iadd, 1) := by decide +kernel
theorem dL_law__297 : decode cL_law_ 297 = .ok (.iaload, 1) := by decide +kernel
theorem dL_law__298 : decode cL_law_ 298 = .ok (.aload_n 0, 1) := by decide +kernel
theorem dL_law__299 : decode cL_law_ 299 = .ok (.iload 4, 2) := by decide +kernel
theorem dL_law__301 : decode cL_law_ 301 = .ok (.iconst 3, 1) := by decide +kernel
theorem dL_law__302 : decode cL_law_ 302 = .ok (.iadd, 1) := by decide +kernel
theorem dL_law__303 : decode cL_law_ 303 = .ok (.iaload, 1) := by decide +kernel
theorem zw_775 : Cond.methodLink RL 160 yX12_sign ∈ zT := zT_of 1568 (by decide +kernel) (by decide +kernel)
theorem zw_776 : Cond.instanceMethod yX12_sign ∈ zT := zT_of 1569 (by decide +kernel) (by decide +kernel)
theorem zw_777 : Cond.selects RX12 yX12_sign yX12_sign ∈ zT := zT_of 1570 (by decide +kernel) (by decide +kernel)
theorem zw_778 : Cond.code yX12_sign cX12_sign 5 (some .int) ∈ zT := zT_of 1571 (by decide +kernel) (by decide +kernel)
theorem dL_law__304 : decode cL_law_ 304 = .ok (.invokevirtual 160, 3) := by decide +kernel
theorem dL_law__307 : decode cL_law_ 307 = .ok (.istore 6, 2) := by decide +kernel
theorem dL_law__309 : decode cL_law_ 309 = .ok (.aload_n 2, 1) := by decide +kernel
theorem zw_779 : Cond.methodLink RL 161 yX12_thrown ∈ zT := zT_of 1564 (by decide +kernel) (by decide +kernel)
theorem zw_780 : Cond.instanceMethod yX12_thrown ∈ zT := zT_of 1565 (by decide +kernel) (by decide +kernel)
theorem zw_781 : Cond.selects RX12 yX12_thrown yX12_thrown ∈ zT := zT_of 1566 (by decide +kernel) (by decide +kernel)
theorem zw_782 : Cond.code yX12_thrown cX12_thrown 1 (some .int) ∈ zT := zT_of 1567 (by decide +kernel) (by decide +kernel)
theorem dL_law__310 : decode cL_law_ 310 = .ok (.invokevirtual 161, 3) := by decide +kernel
theorem dL_law__313 : decode cL_law_ 313 = .ok (.iload 5, 2) := by decide +kernel
theorem dL_law__315 : decode cL_law_ 315 = .ok (.if_icmp .eq 5, 3) := by decide +kernel
theorem dL_law__320 : decode cL_law_ 320 = .ok (.iload 5, 2) := by decide +kernel
theorem dL_law__322 : decode cL_law_ 322 = .ok (.ifCond .ne 15, 3) := by decide +kernel
theorem dL_law__337 : decode cL_law_ 337 = .ok (.goto 3096, 3) := by decide +kernel
theorem dL_law__325 : decode cL_law_ 325 = .ok (.aload_n 3, 1) := by decide +kernel
theorem dL_law__326 : decode cL_law_ 326 = .ok (.iconst 0, 1) := by decide +kernel
theorem dL_law__327 : decode cL_law_ 327 = .ok (.laload, 1) := by decide +kernel
theorem dL_law__328 : decode cL_law_ 328 = .ok (.iload 6, 2) := by decide +kernel
theorem dL_law__330 : decode cL_law_ 330 = .ok (.i2l, 1) := by decide +kernel
theorem dL_law__331 : decode cL_law_ 331 = .ok (.lcmp, 1) := by decide +kernel
theorem dL_law__332 : decode cL_law_ 332 = .ok (.ifCond .eq 5, 3) := by decide +kernel
theorem dL_law__340 : decode cL_law_ 340 = .ok (.aload_n 1, 1) := by decide +kernel
theorem dL_law__341 : decode cL_law_ 341 = .ok (.aload_n 0, 1) := by decide +kernel
theorem dL_law__342 : decode cL_law_ 342 = .ok (.iload 4, 2) := by decide +kernel
theorem dL_law__344 : decode cL_law_ 344 = .ok (.iconst 1, 1) := by decide +kernel
theorem dL_law__345 : decode cL_law_ 345 = .ok (.iadd, 1) := by decide +kernel
theorem dL_law__346 : decode cL_law_ 346 = .ok (.iaload, 1) := by decide +kernel
theorem dL_law__347 : decode cL_law_ 347 = .ok (.aload_n 0, 1) := by decide +kernel
theorem dL_law__348 : decode cL_law_ 348 = .ok (.iload 4, 2) := by decide +kernel
theorem dL_law__350 : decode cL_law_ 350 = .ok (.iconst 2, 1) := by decide +kernel
theorem dL_law__351 : decode cL_law_ 351 = .ok (.iadd, 1) := by decide +kernel
theorem dL_law__352 : decode cL_law_ 352 = .ok (.iaload, 1) := by decide +kernel
theorem dL_law__353 : decode cL_law_ 353 = .ok (.aload_n 3, 1) := by decide +kernel
theorem zw_783 : Cond.methodLink RL 164 yL_variable ∈ zT := zT_of 883 (by decide +kernel) (by decide +kernel)
theorem zw_784 : Cond.static yL_variable ∈ zT := zT_of 884 (by decide +kernel) (by decide +kernel)
theorem zw_785 : Cond.codeWith yL_variable cL_variable 5 (some .int) [(0, 10, 13, 21), (0, 10, 17, 13)] ∈ zT := zT_of 885 (by decide +kernel) (by decide +kernel)
theorem dL_law__354 : decode cL_law_ 354 = .ok (.invokestatic 164, 3) := by decide +kernel
theorem dL_law__357 : decode cL_law_ 357 = .ok (.istore 5, 2) := by decide +kernel
theorem dL_law__359 : decode cL_law_ 359 = .ok (.aload_n 2, 1) := by decide +kernel
theorem dL_law__360 : decode cL_law_ 360 = .ok (.aload_n 0, 1) := by decide +kernel
theorem dL_law__361 : decode cL_law_ 361 = .ok (.iload 4, 2) := by decide +kernel
theorem dL_law__363 : decode cL_law_ 363 = .ok (.iconst 1, 1) := by decide +kernel
theorem dL_law__364 : decode cL_law_ 364 = .ok (.iadd, 1) := by decide +kernel
theorem dL_law__365 : decode cL_law_ 365 = .ok (.iaload, 1) := by decide +kernel
theorem dL_law__366 : decode cL_law_ 366 = .ok (.aload_n 0, 1) := by decide +kernel
theorem dL_law__367 : decode cL_law_ 367 = .ok (.iload 4, 2) := by decide +kernel
theorem dL_law__369 : decode cL_law_ 369 = .ok (.iconst 2, 1) := by decide +kernel
theorem dL_law__370 : decode cL_law_ 370 = .ok (.iadd, 1) := by decide +kernel
theorem dL_law__371 : decode cL_law_ 371 = .ok (.iaload, 1) := by decide +kernel
theorem zw_786 : Cond.methodLink RL 167 yX12_variable ∈ zT := zT_of 1588 (by decide +kernel) (by decide +kernel)
theorem zw_787 : Cond.instanceMethod yX12_variable ∈ zT := zT_of 1589 (by decide +kernel) (by decide +kernel)
theorem zw_788 : Cond.selects RX12 yX12_variable yX12_variable ∈ zT := zT_of 1590 (by decide +kernel) (by decide +kernel)
theorem zw_789 : Cond.code yX12_variable cX12_variable 3 (some .int) ∈ zT := zT_of 1591 (by decide +kernel) (by decide +kernel)
theorem dL_law__372 : decode cL_law_ 372 = .ok (.invokevirtual 167, 3) := by decide +kernel
theorem dL_law__375 : decode cL_law_ 375 = .ok (.istore 6, 2) := by decide +kernel
theorem dL_law__377 : decode cL_law_ 377 = .ok (.aload_n 2, 1) := by decide +kernel
theorem dL_law__378 : decode cL_law_ 378 = .ok (.invokevirtual 161, 3) := by decide +kernel
theorem dL_law__381 : decode cL_law_ 381 = .ok (.iload 5, 2) := by decide +kernel
theorem dL_law__383 : decode cL_law_ 383 = .ok (.if_icmp .eq 5, 3) := by decide +kernel
theorem dL_law__388 : decode cL_law_ 388 = .ok (.iload 5, 2) := by decide +kernel
theorem dL_law__390 : decode cL_law_ 390 = .ok (.ifCond .ne 15, 3) := by decide +kernel
theorem dL_law__405 : decode cL_law_ 405 = .ok (.goto 3028, 3) := by decide +kernel
theorem dL_law__393 : decode cL_law_ 393 = .ok (.aload_n 3, 1) := by decide +kernel
theorem dL_law__394 : decode cL_law_ 394 = .ok (.iconst 0, 1) := by decide +kernel
theorem dL_law__395 : decode cL_law_ 395 = .ok (.laload, 1) := by decide +kernel
theorem dL_law__396 : decode cL_law_ 396 = .ok (.iload 6, 2) := by decide +kernel
theorem dL_law__398 : decode cL_law_ 398 = .ok (.i2l, 1) := by decide +kernel
theorem dL_law__399 : decode cL_law_ 399 = .ok (.lcmp, 1) := by decide +kernel
theorem dL_law__400 : decode cL_law_ 400 = .ok (.ifCond .eq 5, 3) := by decide +kernel
theorem dL_law__408 : decode cL_law_ 408 = .ok (.aload_n 1, 1) := by decide +kernel
theorem dL_law__409 : decode cL_law_ 409 = .ok (.aload_n 0, 1) := by decide +kernel
theorem dL_law__410 : decode cL_law_ 410 = .ok (.iload 4, 2) := by decide +kernel
theorem dL_law__412 : decode cL_law_ 412 = .ok (.iconst 1, 1) := by decide +kernel
theorem dL_law__413 : decode cL_law_ 413 = .ok (.iadd, 1) := by decide +kernel
theorem dL_law__414 : decode cL_law_ 414 = .ok (.iaload, 1) := by decide +kernel
theorem dL_law__415 : decode cL_law_ 415 = .ok (.aload_n 0, 1) := by decide +kernel
theorem dL_law__416 : decode cL_law_ 416 = .ok (.iload 4, 2) := by decide +kernel
theorem dL_law__418 : decode cL_law_ 418 = .ok (.iconst 2, 1) := by decide +kernel
theorem dL_law__419 : decode cL_law_ 419 = .ok (.iadd, 1) := by decide +kernel
theorem dL_law__420 : decode cL_law_ 420 = .ok (.iaload, 1) := by decide +kernel
theorem dL_law__421 : decode cL_law_ 421 = .ok (.aload_n 0, 1) := by decide +kernel
theorem dL_law__422 : decode cL_law_ 422 = .ok (.iload 4, 2) := by decide +kernel
theorem dL_law__424 : decode cL_law_ 424 = .ok (.iconst 3, 1) := by decide +kernel
theorem dL_law__425 : decode cL_law_ 425 = .ok (.iadd, 1) := by decide +kernel
theorem dL_law__426 : decode cL_law_ 426 = .ok (.iaload, 1) := by decide +kernel
theorem dL_law__427 : decode cL_law_ 427 = .ok (.aload_n 0, 1) := by decide +kernel
theorem dL_law__428 : decode cL_law_ 428 = .ok (.iload 4, 2) := by decide +kernel
theorem dL_law__430 : decode cL_law_ 430 = .ok (.iconst 4, 1) := by decide +kernel
theorem dL_law__431 : decode cL_law_ 431 = .ok (.iadd, 1) := by decide +kernel
theorem dL_law__432 : decode cL_law_ 432 = .ok (.iaload, 1) := by decide +kernel
theorem dL_law__433 : decode cL_law_ 433 = .ok (.aload_n 3, 1) := by decide +kernel
theorem zw_790 : Cond.methodLink RL 168 yL_term ∈ zT := zT_of 935 (by decide +kernel) (by decide +kernel)
theorem zw_791 : Cond.static yL_term ∈ zT := zT_of 936 (by decide +kernel) (by decide +kernel)
theorem zw_792 : Cond.codeWith yL_term cL_term 7 (some .int) [(0, 14, 17, 21), (0, 14, 21, 15)] ∈ zT := zT_of 937 (by decide +kernel) (by decide +kernel)
theorem dL_law__434 : decode cL_law_ 434 = .ok (.invokestatic 168, 3) := by decide +kernel
theorem dL_law__437 : decode cL_law_ 437 = .ok (.istore 5, 2) := by decide +kernel
theorem dL_law__439 : decode cL_law_ 439 = .ok (.aload_n 2, 1) := by decide +kernel
theorem dL_law__440 : decode cL_law_ 440 = .ok (.aload_n 0, 1) := by decide +kernel
theorem dL_law__441 : decode cL_law_ 441 = .ok (.iload 4, 2) := by decide +kernel
theorem dL_law__443 : decode cL_law_ 443 = .ok (.iconst 1, 1) := by decide +kernel
theorem dL_law__444 : decode cL_law_ 444 = .ok (.iadd, 1) := by decide +kernel
theorem dL_law__445 : decode cL_law_ 445 = .ok (.iaload, 1) := by decide +kernel
theorem dL_law__446 : decode cL_law_ 446 = .ok (.aload_n 0, 1) := by decide +kernel
theorem dL_law__447 : decode cL_law_ 447 = .ok (.iload 4, 2) := by decide +kernel
theorem dL_law__449 : decode cL_law_ 449 = .ok (.iconst 2, 1) := by decide +kernel
theorem dL_law__450 : decode cL_law_ 450 = .ok (.iadd, 1) := by decide +kernel
theorem dL_law__451 : decode cL_law_ 451 = .ok (.iaload, 1) := by decide +kernel
theorem dL_law__452 : decode cL_law_ 452 = .ok (.aload_n 0, 1) := by decide +kernel
theorem dL_law__453 : decode cL_law_ 453 = .ok (.iload 4, 2) := by decide +kernel
theorem dL_law__455 : decode cL_law_ 455 = .ok (.iconst 3, 1) := by decide +kernel
theorem dL_law__456 : decode cL_law_ 456 = .ok (.iadd, 1) := by decide +kernel
theorem dL_law__457 : decode cL_law_ 457 = .ok (.iaload, 1) := by decide +kernel
theorem dL_law__458 : decode cL_law_ 458 = .ok (.aload_n 0, 1) := by decide +kernel
theorem dL_law__459 : decode cL_law_ 459 = .ok (.iload 4, 2) := by decide +kernel
theorem dL_law__461 : decode cL_law_ 461 = .ok (.iconst 4, 1) := by decide +kernel
theorem dL_law__462 : decode cL_law_ 462 = .ok (.iadd, 1) := by decide +kernel
theorem dL_law__463 : decode cL_law_ 463 = .ok (.iaload, 1) := by decide +kernel
theorem zw_793 : Cond.methodLink RL 171 yX12_term ∈ zT := zT_of 1607 (by decide +kernel) (by decide +kernel)
theorem zw_794 : Cond.instanceMethod yX12_term ∈ zT := zT_of 1608 (by decide +kernel) (by decide +kernel)
theorem zw_795 : Cond.selects RX12 yX12_term yX12_term ∈ zT := zT_of 1609 (by decide +kernel) (by decide +kernel)
theorem zw_796 : Cond.code yX12_term cX12_term 8 (some .int) ∈ zT := zT_of 1610 (by decide +kernel) (by decide +kernel)
theorem dL_law__464 : decode cL_law_ 464 = .ok (.invokevirtual 171, 3) := by decide +kernel
theorem dL_law__467 : decode cL_law_ 467 = .ok (.istore 6, 2) := by decide +kernel
theorem dL_law__469 : decode cL_law_ 469 = .ok (.aload_n 2, 1) := by decide +kernel
theorem dL_law__470 : decode cL_law_ 470 = .ok (.invokevirtual 161, 3) := by decide +kernel
theorem dL_law__473 : decode cL_law_ 473 = .ok (.iload 5, 2) := by decide +kernel
theorem dL_law__475 : decode cL_law_ 475 = .ok (.if_icmp .eq 5, 3) := by decide +kernel
theorem dL_law__480 : decode cL_law_ 480 = .ok (.iload 5, 2) := by decide +kernel
theorem dL_law__482 : decode cL_law_ 482 = .ok (.ifCond .ne 15, 3) := by decide +kernel
theorem dL_law__497 : decode cL_law_ 497 = .ok (.goto 2936, 3) := by decide +kernel
theorem dL_law__485 : decode cL_law_ 485 = .ok (.aload_n 3, 1) := by decide +kernel
theorem dL_law__486 : decode cL_law_ 486 = .ok (.iconst 0, 1) := by decide +kernel
theorem dL_law__487 : decode cL_law_ 487 = .ok (.laload, 1) := by decide +kernel
theorem dL_law__488 : decode cL_law_ 488 = .ok (.iload 6, 2) := by decide +kernel
theorem dL_law__490 : decode cL_law_ 490 = .ok (.i2l, 1) := by decide +kernel
theorem dL_law__491 : decode cL_law_ 491 = .ok (.lcmp, 1) := by decide +kernel
theorem dL_law__492 : decode cL_law_ 492 = .ok (.ifCond .eq 5, 3) := by decide +kernel
theorem dL_law__500 : decode cL_law_ 500 = .ok (.aload_n 1, 1) := by decide +kernel
theorem dL_law__501 : decode cL_law_ 501 = .ok (.aload_n 0, 1) := by decide +kernel
theorem dL_law__502 : decode cL_law_ 502 = .ok (.iload 4, 2) := by decide +kernel
theorem dL_law__504 : decode cL_law_ 504 = .ok (.iconst 1, 1) := by decide +kernel
theorem dL_law__505 : decode cL_law_ 505 = .ok (.iadd, 1) := by decide +kernel
theorem dL_law__506 : decode cL_law_ 506 = .ok (.iaload, 1) := by decide +kernel
theorem dL_law__507 : decode cL_law_ 507 = .ok (.aload_n 3, 1) := by decide +kernel
theorem zw_797 : Cond.methodLink RL 172 yL_read ∈ zT := zT_of 954 (by decide +kernel) (by decide +kernel)
theorem zw_798 : Cond.static yL_read ∈ zT := zT_of 955 (by decide +kernel) (by decide +kernel)
theorem zw_799 : Cond.codeWith yL_read cL_read 4 (some .int) [(0, 9, 12, 21), (0, 9, 15, 13)] ∈ zT := zT_of 956 (by decide +kernel) (by decide +kernel)
theorem dL_law__508 : decode cL_law_ 508 = .ok (.invokestatic 172, 3) := by decide +kernel
theorem dL_law__511 : decode cL_law_ 511 = .ok (.istore 5, 2) := by decide +kernel
theorem dL_law__513 : decode cL_law_ 513 = .ok (.aload_n 2, 1) := by decide +kernel
theorem dL_law__514 : decode cL_law_ 514 = .ok (.aload_n 0, 1) := by decide +kernel
theorem dL_law__515 : decode cL_law_ 515 = .ok (.iload 4, 2) := by decide +kernel
theorem dL_law__517 : decode cL_law_ 517 = .ok (.iconst 1, 1) := by decide +kernel
theorem dL_law__518 : decode cL_law_ 518 = .ok (.iadd, 1) := by decide +kernel
theorem dL_law__519 : decode cL_law_ 519 = .ok (.iaload, 1) := by decide +kernel
theorem zw_800 : Cond.methodLink RL 175 yX12_read ∈ zT := zT_of 1615 (by decide +kernel) (by decide +kernel)
theorem zw_801 : Cond.instanceMethod yX12_read ∈ zT := zT_of 1616 (by decide +kernel) (by decide +kernel)
theorem zw_802 : Cond.selects RX12 yX12_read yX12_read ∈ zT := zT_of 1617 (by decide +kernel) (by decide +kernel)
theorem zw_803 : Cond.code yX12_read cX12_read 2 (some .int) ∈ zT := zT_of 1618 (by decide +kernel) (by decide +kernel)
theorem dL_law__520 : decode cL_law_ 520 = .ok (.invokevirtual 175, 3) := by decide +kernel
theorem dL_law__523 : decode cL_law_ 523 = .ok (.istore 6, 2) := by decide +kernel
theorem dL_law__525 : decode cL_law_ 525 = .ok (.aload_n 2, 1) := by decide +kernel
theorem dL_law__526 : decode cL_law_ 526 = .ok (.invokevirtual 161, 3) := by decide +kernel
theorem dL_law__529 : decode cL_law_ 529 = .ok (.iload 5, 2) := by decide +kernel
theorem dL_law__531 : decode cL_law_ 531 = .ok (.if_icmp .eq 5, 3) := by decide +kernel
theorem dL_law__536 : decode cL_law_ 536 = .ok (.iload 5, 2) := by decide +kernel
theorem dL_law__538 : decode cL_law_ 538 = .ok (.ifCond .ne 15, 3) := by decide +kernel
theorem dL_law__553 : decode cL_law_ 553 = .ok (.goto 2880, 3) := by decide +kernel
theorem dL_law__541 : decode cL_law_ 541 = .ok (.aload_n 3, 1) := by decide +kernel
theorem dL_law__542 : decode cL_law_ 542 = .ok (.iconst 0, 1) := by decide +kernel
theorem dL_law__543 : decode cL_law_ 543 = .ok (.laload, 1) := by decide +kernel
theorem dL_law__544 : decode cL_law_ 544 = .ok (.iload 6, 2) := by decide +kernel
theorem dL_law__546 : decode cL_law_ 546 = .ok (.i2l, 1) := by decide +kernel
theorem dL_law__547 : decode cL_law_ 547 = .ok (.lcmp, 1) := by decide +kernel
theorem dL_law__548 : decode cL_law_ 548 = .ok (.ifCond .eq 5, 3) := by decide +kernel
theorem dL_law__636 : decode cL_law_ 636 = .ok (.aload_n 1, 1) := by decide +kernel
theorem dL_law__637 : decode cL_law_ 637 = .ok (.aload_n 0, 1) := by decide +kernel
theorem dL_law__638 : decode cL_law_ 638 = .ok (.iload 4, 2) := by decide +kernel
theorem dL_law__640 : decode cL_law_ 640 = .ok (.iconst 1, 1) := by decide +kernel
theorem dL_law__641 : decode cL_law_ 641 = .ok (.iadd, 1) := by decide +kernel
theorem dL_law__642 : decode cL_law_ 642 = .ok (.iaload, 1) := by decide +kernel
theorem dL_law__643 : decode cL_law_ 643 = .ok (.aload_n 0, 1) := by decide +kernel
theorem dL_law__644 : decode cL_law_ 644 = .ok (.iload 4, 2) := by decide +kernel
theorem dL_law__646 : decode cL_law_ 646 = .ok (.iconst 2, 1) := by decide +kernel
theorem dL_law__647 : decode cL_law_ 647 = .ok (.iadd, 1) := by decide +kernel
theorem dL_law__648 : decode cL_law_ 648 = .ok (.iaload, 1) := by decide +kernel
theorem dL_law__649 : decode cL_law_ 649 = .ok (.aload_n 0, 1) := by decide +kernel
theorem dL_law__650 : decode cL_law_ 650 = .ok (.iload 4, 2) := by decide +kernel
theorem dL_law__652 : decode cL_law_ 652 = .ok (.iconst 3, 1) := by decide +kernel
theorem dL_law__653 : decode cL_law_ 653 = .ok (.iadd, 1) := by decide +kernel
theorem dL_law__654 : decode cL_law_ 654 = .ok (.iaload, 1) := by decide +kernel
theorem dL_law__655 : decode cL_law_ 655 = .ok (.aload_n 0, 1) := by decide +kernel
theorem dL_law__656 : decode cL_law_ 656 = .ok (.iload 4, 2) := by decide +kernel
theorem dL_law__658 : decode cL_law_ 658 = .ok (.iconst 4, 1) := by decide +kernel
theorem dL_law__659 : decode cL_law_ 659 = .ok (.iadd, 1) := by decide +kernel
theorem dL_law__660 : decode cL_law_ 660 = .ok (.iaload, 1) := by decide +kernel
theorem dL_law__661 : decode cL_law_ 661 = .ok (.aload_n 3, 1) := by decide +kernel
theorem zw_804 : Cond.methodLink RL 179 yL_law ∈ zT := zT_of 969 (by decide +kernel) (by decide +kernel)
theorem zw_805 : Cond.static yL_law ∈ zT := zT_of 970 (by decide +kernel) (by decide +kernel)
theorem zw_806 : Cond.codeWith yL_law cL_law 7 (some .int) [(0, 14, 17, 13), (0, 14, 21, 21), (0, 14, 25, 15)] ∈ zT := zT_of 971 (by decide +kernel) (by decide +kernel)
theorem dL_law__662 : decode cL_law_ 662 = .ok (.invokestatic 179, 3) := by decide +kernel
theorem dL_law__665 : decode cL_law_ 665 = .ok (.istore 5, 2) := by decide +kernel
theorem dL_law__667 : decode cL_law_ 667 = .ok (.aload_n 2, 1) := by decide +kernel
theorem dL_law__668 : decode cL_law_ 668 = .ok (.aload_n 0, 1) := by decide +kernel
theorem dL_law__669 : decode cL_law_ 669 = .ok (.iload 4, 2) := by decide +kernel
theorem dL_law__671 : decode cL_law_ 671 = .ok (.iconst 1, 1) := by decide +kernel
theorem dL_law__672 : decode cL_law_ 672 = .ok (.iadd, 1) := by decide +kernel
theorem dL_law__673 : decode cL_law_ 673 = .ok (.iaload, 1) := by decide +kernel
theorem dL_law__674 : decode cL_law_ 674 = .ok (.aload_n 0, 1) := by decide +kernel
theorem dL_law__675 : decode cL_law_ 675 = .ok (.iload 4, 2) := by decide +kernel
theorem dL_law__677 : decode cL_law_ 677 = .ok (.iconst 2, 1) := by decide +kernel
theorem dL_law__678 : decode cL_law_ 678 = .ok (.iadd, 1) := by decide +kernel
theorem dL_law__679 : decode cL_law_ 679 = .ok (.iaload, 1) := by decide +kernel
theorem dL_law__680 : decode cL_law_ 680 = .ok (.aload_n 0, 1) := by decide +kernel
theorem dL_law__681 : decode cL_law_ 681 = .ok (.iload 4, 2) := by decide +kernel
theorem dL_law__683 : decode cL_law_ 683 = .ok (.iconst 3, 1) := by decide +kernel
theorem dL_law__684 : decode cL_law_ 684 = .ok (.iadd, 1) := by decide +kernel
theorem dL_law__685 : decode cL_law_ 685 = .ok (.iaload, 1) := by decide +kernel
theorem dL_law__686 : decode cL_law_ 686 = .ok (.aload_n 0, 1) := by decide +kernel
theorem dL_law__687 : decode cL_law_ 687 = .ok (.iload 4, 2) := by decide +kernel
theorem dL_law__689 : decode cL_law_ 689 = .ok (.iconst 4, 1) := by decide +kernel
theorem dL_law__690 : decode cL_law_ 690 = .ok (.iadd, 1) := by decide +kernel
theorem dL_law__691 : decode cL_law_ 691 = .ok (.iaload, 1) := by decide +kernel
theorem zw_807 : Cond.methodLink RL 181 yX12_law ∈ zT := zT_of 1659 (by decide +kernel) (by decide +kernel)
theorem zw_808 : Cond.instanceMethod yX12_law ∈ zT := zT_of 1660 (by decide +kernel) (by decide +kernel)
theorem zw_809 : Cond.selects RX12 yX12_law yX12_law ∈ zT := zT_of 1661 (by decide +kernel) (by decide +kernel)
theorem zw_810 : Cond.code yX12_law cX12_law 6 (some .int) ∈ zT := zT_of 1662 (by decide +kernel) (by decide +kernel)
theorem dL_law__692 : decode cL_law_ 692 = .ok (.invokevirtual 181, 3) := by decide +kernel
theorem dL_law__695 : decode cL_law_ 695 = .ok (.istore 6, 2) := by decide +kernel
theorem dL_law__697 : decode cL_law_ 697 = .ok (.aload_n 2, 1) := by decide +kernel
theorem dL_law__698 : decode cL_law_ 698 = .ok (.invokevirtual 161, 3) := by decide +kernel
theorem dL_law__701 : decode cL_law_ 701 = .ok (.iload 5, 2) := by decide +kernel
theorem dL_law__703 : decode cL_law_ 703 = .ok (.if_icmp .eq 5, 3) := by decide +kernel
theorem dL_law__708 : decode cL_law_ 708 = .ok (.iload 5, 2) := by decide +kernel
theorem dL_law__710 : decode cL_law_ 710 = .ok (.ifCond .ne 15, 3) := by decide +kernel
theorem dL_law__725 : decode cL_law_ 725 = .ok (.goto 2708, 3) := by decide +kernel
theorem dL_law__713 : decode cL_law_ 713 = .ok (.aload_n 3, 1) := by decide +kernel
theorem dL_law__714 : decode cL_law_ 714 = .ok (.iconst 0, 1) := by decide +kernel
theorem dL_law__715 : decode cL_law_ 715 = .ok (.laload, 1) := by decide +kernel
theorem dL_law__716 : decode cL_law_ 716 = .ok (.iload 6, 2) := by decide +kernel
theorem dL_law__718 : decode cL_law_ 718 = .ok (.i2l, 1) := by decide +kernel
theorem dL_law__719 : decode cL_law_ 719 = .ok (.lcmp, 1) := by decide +kernel
theorem dL_law__720 : decode cL_law_ 720 = .ok (.ifCond .eq 5, 3) := by decide +kernel
theorem dL_law__728 : decode cL_law_ 728 = .ok (.aload_n 1, 1) := by decide +kernel
theorem dL_law__729 : decode cL_law_ 729 = .ok (.aload_n 0, 1) := by decide +kernel
theorem dL_law__730 : decode cL_law_ 730 = .ok (.iload 4, 2) := by decide +kernel
theorem dL_law__732 : decode cL_law_ 732 = .ok (.iconst 1, 1) := by decide +kernel
theorem dL_law__733 : decode cL_law_ 733 = .ok (.iadd, 1) := by decide +kernel
theorem dL_law__734 : decode cL_law_ 734 = .ok (.iaload, 1) := by decide +kernel
theorem dL_law__735 : decode cL_law_ 735 = .ok (.aload_n 0, 1) := by decide +kernel
theorem dL_law__736 : decode cL_law_ 736 = .ok (.iload 4, 2) := by decide +kernel
theorem dL_law__738 : decode cL_law_ 738 = .ok (.iconst 2, 1) := by decide +kernel
theorem dL_law__739 : decode cL_law_ 739 = .ok (.iadd, 1) := by decide +kernel
theorem dL_law__740 : decode cL_law_ 740 = .ok (.iaload, 1) := by decide +kernel
theorem dL_law__741 : decode cL_law_ 741 = .ok (.aload_n 0, 1) := by decide +kernel
theorem dL_law__742 : decode cL_law_ 742 = .ok (.iload 4, 2) := by decide +kernel
theorem dL_law__744 : decode cL_law_ 744 = .ok (.iconst 3, 1) := by decide +kernel
theorem dL_law__745 : decode cL_law_ 745 = .ok (.iadd, 1) := by decide +kernel
theorem dL_law__746 : decode cL_law_ 746 = .ok (.iaload, 1) := by decide +kernel
theorem dL_law__747 : decode cL_law_ 747 = .ok (.aload_n 3, 1) := by decide +kernel
theorem zw_811 : Cond.methodLink RL 182 yL_condition ∈ zT := zT_of 995 (by decide +kernel) (by decide +kernel)
theorem zw_812 : Cond.static yL_condition ∈ zT := zT_of 996 (by decide +kernel) (by decide +kernel)
theorem zw_813 : Cond.codeWith yL_condition cL_condition 6 (some .int) [(0, 19, 22, 41), (0, 19, 26, 21), (0, 19, 30, 15), (0, 19, 34, 13)] ∈ zT := zT_of 997 (by decide +kernel) (by decide +kernel)
theorem dL_law__748 : decode cL_law_ 748 = .ok (.invokestatic 182, 3) := by decide +kernel
theorem dL_law__751 : decode cL_law_ 751 = .ok (.istore 5, 2) := by decide +kernel
theorem dL_law__753 : decode cL_law_ 753 = .ok (.aload_n 2, 1) := by decide +kernel
theorem dL_law__754 : decode cL_law_ 754 = .ok (.aload_n 0, 1) := by decide +kernel
theorem dL_law__755 : decode cL_law_ 755 = .ok (.iload 4, 2) := by decide +kernel
theorem dL_law__757 : decode cL_law_ 757 = .ok (.iconst 1, 1) := by decide +kernel
theorem dL_law__758 : decode cL_law_ 758 = .ok (.iadd, 1) := by decide +kernel
theorem dL_law__759 : decode cL_law_ 759 = .ok (.iaload, 1) := by decide +kernel
theorem dL_law__760 : decode cL_law_ 760 = .ok (.aload_n 0, 1) := by decide +kernel
theorem dL_law__761 : decode cL_law_ 761 = .ok (.iload 4, 2) := by decide +kernel
theorem dL_law__763 : decode cL_law_ 763 = .ok (.iconst 2, 1) := by decide +kernel
theorem dL_law__764 : decode cL_law_ 764 = .ok (.iadd, 1) := by decide +kernel
theorem dL_law__765 : decode cL_law_ 765 = .ok (.iaload, 1) := by decide +kernel
theorem dL_law__766 : decode cL_law_ 766 = .ok (.aload_n 0, 1) := by decide +kernel
theorem dL_law__767 : decode cL_law_ 767 = .ok (.iload 4, 2) := by decide +kernel
theorem dL_law__769 : decode cL_law_ 769 = .ok (.iconst 3, 1) := by decide +kernel
theorem dL_law__770 : decode cL_law_ 770 = .ok (.iadd, 1) := by decide +kernel
theorem dL_law__771 : decode cL_law_ 771 = .ok (.iaload, 1) := by decide +kernel
theorem zw_814 : Cond.methodLink RL 184 yX12_condition ∈ zT := zT_of 1686 (by decide +kernel) (by decide +kernel)
theorem zw_815 : Cond.instanceMethod yX12_condition ∈ zT := zT_of 1687 (by decide +kernel) (by decide +kernel)
theorem zw_816 : Cond.selects RX12 yX12_condition yX12_condition ∈ zT := zT_of 1688 (by decide +kernel) (by decide +kernel)
theorem zw_817 : Cond.code yX12_condition cX12_condition 8 (some .boolean) ∈ zT := zT_of 1689 (by decide +kernel) (by decide +kernel)
theorem dL_law__772 : decode cL_law_ 772 = .ok (.invokevirtual 184, 3) := by decide +kernel
theorem dL_law__775 : decode cL_law_ 775 = .ok (.istore 6, 2) := by decide +kernel
theorem dL_law__777 : decode cL_law_ 777 = .ok (.aload_n 2, 1) := by decide +kernel
theorem dL_law__778 : decode cL_law_ 778 = .ok (.invokevirtual 161, 3) := by decide +kernel
theorem dL_law__781 : decode cL_law_ 781 = .ok (.iload 5, 2) := by decide +kernel
theorem dL_law__783 : decode cL_law_ 783 = .ok (.if_icmp .eq 5, 3) := by decide +kernel
theorem dL_law__788 : decode cL_law_ 788 = .ok (.iload 5, 2) := by decide +kernel
theorem dL_law__790 : decode cL_law_ 790 = .ok (.ifCond .ne 22, 3) := by decide +kernel
theorem dL_law__812 : decode cL_law_ 812 = .ok (.goto 2621, 3) := by decide +kernel
theorem dL_law__793 : decode cL_law_ 793 = .ok (.aload_n 3, 1) := by decide +kernel
theorem dL_law__794 : decode cL_law_ 794 = .ok (.iconst 0, 1) := by decide +kernel
theorem dL_law__795 : decode cL_law_ 795 = .ok (.laload, 1) := by decide +kernel
theorem dL_law__796 : decode cL_law_ 796 = .ok (.iload 6, 2) := by decide +kernel
theorem dL_law__798 : decode cL_law_ 798 = .ok (.ifCond .eq 7, 3) := by decide +kernel
theorem dL_law__805 : decode cL_law_ 805 = .ok (.lconst 0, 1) := by decide +kernel
theorem dL_law__806 : decode cL_law_ 806 = .ok (.lcmp, 1) := by decide +kernel
theorem dL_law__807 : decode cL_law_ 807 = .ok (.ifCond .eq 5, 3) := by decide +kernel
theorem dL_law__801 : decode cL_law_ 801 = .ok (.lconst 1, 1) := by decide +kernel
theorem dL_law__802 : decode cL_law_ 802 = .ok (.goto 4, 3) := by decide +kernel
set_option maxHeartbeats 4000000 in
set_option maxRecDepth 100000 in
theorem zcase_sign {p : Program} {l : Launch} {e : Env} {s : State} {m : MethodId} {below : List Frame} {meth : Method} {c : Code} {b L : Nat} {xs : Nat → Int32} {A : Nat → Prop} (D : va_G) (h cs : Nat → Nat) (fn : Nat → Option Nat) (hn : ∀ k : Nat, k < 4 → fn k = some (h 8)) (fp f0 : Nat → Option Nat) (hp : fp 0 = some (h 10)) (o : Nat) (cL : ClassId) (a : Nat → Nat) (cI : ClassId) (cJ : ClassId) (fa : Nat → Option Nat) (ha : fa 0 = some (a 30)) (hx : p.tables.exec = Jvm.exec) (hb : c.code = code) (hml : c.maxLocals = 9) (hr : meth.sig.returnType = ret) (hown : s.vm.findClass RL = some m.cls) (ht : ∀ w ∈ zT, w.before #[Value.ref b] s = true) (hlocks : meth.locks = false) (hX : va_X b L xs s s.heap) (hbl : b < s.heap.size) (hL : L = 6) (hAe : ∀ q : Nat, A q ↔ s.heap.size ≤ q) (hl0 : l.stackTraces = false) (hEx : zEx A s) (hNc : zNc s) {H : Heap} {locs : List Loc} {ls : Array Slot} (hK : va_K D vwCl [((cs 7), .object RX7), ((cs 9), .object RX9), ((cs 4), .object RX4), ((cs 2), .object RX2), ((cs 0), .object RX0), ((cs 8), .object RX8), (cL, .long), (cI, .int), (cJ, .array .int)] s) (hP : va_P D vwCl [((h 0), .inr (11, [.ref (h 1), .ref (h 9), .int 0, .int 0, .ref (h 20), .ref (h 37), .int 0, .ref (h 38), .ref (h 42), .ref (h 43), .ref (h 44), .ref (h 45), .ref (h 46), .ref (h 47), .ref (h 48)])), ((h 1), .inr (8, [.ref (h 2), .int 0, .ref (h 3), .ref (h 4), .int 0, .ref (h 5), .int 0, .ref (h 6), .int 0, .ref (h 7), .int 0])), ((h 2), .inl ((cs 7), 4, .inr (.inr (.inr (.inr (fun _ => none)))))), ((h 3), .inl ((cs 9), 10, .inr (.inr (.inr (.inr (fun _ => none)))))), ((h 4), .inl ((cs 4), 100, .inr (.inr (.inr (.inr (fun _ => none)))))), ((h 5), .inl ((cs 2), 4, .inr (.inr (.inr (.inr (fun _ => none)))))), ((h 6), .inl ((cs 4), 3, .inr (.inr (.inr (.inr (fun _ => none)))))), ((h 7), .inl ((cs 0), 4, .inr (.inr (.inr (.inr fn))))), ((h 8), .inr (0, [.ref (h 102), .ref (h 103), .int 0])), ((h 9), .inl ((cs 8), 8, .inr (.inr (.inr (.inr fp))))), ((h 10), .inr (8, [.ref (h 11), .int 0, .ref (h 12), .ref (h 13), .int 0, .ref (h 14), .int 0, .ref (h 15), .int 0, .ref (h 16), .int 0])), ((h 11), .inl ((cs 7), 4, .inr (.inr (.inr (.inr (fun _ => none)))))), ((h 12), .inl ((cs 9), 10, .inr (.inr (.inr (.inr (fun _ => none)))))), ((h 13), .inl ((cs 4), 100, .inr (.inr (.inr (.inr (fun _ => none)))))), ((h 14), .inl ((cs 2), 4, .inr (.inr (.inr (.inr (fun _ => none)))))), ((h 15), .inl ((cs 4), 3, .inr (.inr (.inr (.inr (fun _ => none)))))), ((h 16), .inl ((cs 0), 4, .inr (.inr (.inr (.inr f0))))), (o, .inl (cL, 1, .inr (.inl (fun _ => 0)))), ((a 0), .inr (12, zMo a zI0)), ((a 1), .inl (cI, 6792, .inl zI0)), ((a 2), .inl (cJ, 8, .inr (.inr (.inr (.inr fa))))), ((a 30), .inl (cI, 6792, .inl zI0))] H) (hD : va_D A [((h 0), .inr (11, [.ref (h 1), .ref (h 9), .int 0, .int 0, .ref (h 20), .ref (h 37), .int 0, .ref (h 38), .ref (h 42), .ref (h 43), .ref (h 44), .ref (h 45), .ref (h 46), .ref (h 47), .ref (h 48)])), ((h 1), .inr (8, [.ref (h 2), .int 0, .ref (h 3), .ref (h 4), .int 0, .ref (h 5), .int 0, .ref (h 6), .int 0, .ref (h 7), .int 0])), ((h 2), .inl ((cs 7), 4, .inr (.inr (.inr (.inr (fun _ => none)))))), ((h 3), .inl ((cs 9), 10, .inr (.inr (.inr (.inr (fun _ => none)))))), ((h 4), .inl ((cs 4), 100, .inr (.inr (.inr (.inr (fun _ => none)))))), ((h 5), .inl ((cs 2), 4, .inr (.inr (.inr (.inr (fun _ => none)))))), ((h 6), .inl ((cs 4), 3, .inr (.inr (.inr (.inr (fun _ => none)))))), ((h 7), .inl ((cs 0), 4, .inr (.inr (.inr (.inr fn))))), ((h 8), .inr (0, [.ref (h 102), .ref (h 103), .int 0])), ((h 9), .inl ((cs 8), 8, .inr (.inr (.inr (.inr fp))))), ((h 10), .inr (8, [.ref (h 11), .int 0, .ref (h 12), .ref (h 13), .int 0, .ref (h 14), .int 0, .ref (h 15), .int 0, .ref (h 16), .int 0])), ((h 11), .inl ((cs 7), 4, .inr (.inr (.inr (.inr (fun _ => none)))))), ((h 12), .inl ((cs 9), 10, .inr (.inr (.inr (.inr (fun _ => none)))))), ((h 13), .inl ((cs 4), 100, .inr (.inr (.inr (.inr (fun _ => none)))))), ((h 14), .inl ((cs 2), 4, .inr (.inr (.inr (.inr (fun _ => none)))))), ((h 15), .inl ((cs 4), 3, .inr (.inr (.inr (.inr (fun _ => none)))))), ((h 16), .inl ((cs 0), 4, .inr (.inr (.inr (.inr f0))))), (o, .inl (cL, 1, .inr (.inl (fun _ => 0)))), ((a 0), .inr (12, zMo a zI0)), ((a 1), .inl (cI, 6792, .inl zI0)), ((a 2), .inl (cJ, 8, .inr (.inr (.inr (.inr fa))))), ((a 30), .inl (cI, 6792, .inl zI0))]) (hS : va_S A s.heap H locs) (hl : lv_has ls 9 [(0, .ref b), (1, .ref (h 0)), (2, .ref (a 0)), (3, .ref o), (4, .int 0)]) : W p l e room_1 s m #[Value.ref b] below meth c H locs 1192 188302 (lw_Z below #[Value.ref b] s) (F0 m 260 ls []) := by
  have hbA : ¬ A b := fun h => Nat.not_le.mpr hbl ((hAe b).mp h)
  have hA : ∀ q : Nat, s.heap.size ≤ q → A q := fun q h => (hAe q).mpr h
  refine lv_aload_n hx hb dL_law__260 rfl (lv_at hl 1 rfl) ?_
  refine lv_aload_n hx hb dL_law__261 rfl (lv_at hl 0 rfl) ?_
  refine lv_iload hx hb dL_law__262 (lv_at hl 4 rfl) ?_
  refine lv_iconst (v := 1) hx hb dL_law__264 (by decide) ?_
  refine lv_iadd hx hb dL_law__265 ?_
  refine lv_topi (fun x_1 e_1 => ?_)
  obtain rfl : x_1 = 1 := e_1.trans (by decide)
  refine va_sld hx hb hX hbl hbA hS (by rw [hL]; exact vp_in_iff.mpr (by decide)) dL_law__266 ?_
  refine W.eq (g2 := F0 m 267 ls (.int (xs 1) :: .ref (h 0) :: [])) rfl ?_
  refine lv_aload_n hx hb dL_law__267 rfl (lv_at hl 0 rfl) ?_
  refine lv_iload hx hb dL_law__268 (lv_at hl 4 rfl) ?_
  refine lv_iconst (v := 2) hx hb dL_law__270 (by decide) ?_
  refine lv_iadd hx hb dL_law__271 ?_
  refine lv_topi (fun x_2 e_2 => ?_)
  obtain rfl : x_2 = 2 := e_2.trans (by decide)
  refine va_sld hx hb hX hbl hbA hS (by rw [hL]; exact vp_in_iff.mpr (by decide)) dL_law__272 ?_
  refine W.eq (g2 := F0 m 273 ls (.int (xs 2) :: .int (xs 1) :: .ref (h 0) :: [])) rfl ?_
  refine lv_aload_n hx hb dL_law__273 rfl (lv_at hl 0 rfl) ?_
  refine lv_iload hx hb dL_law__274 (lv_at hl 4 rfl) ?_
  refine lv_iconst (v := 3) hx hb dL_law__276 (by decide) ?_
  refine lv_iadd hx hb dL_law__277 ?_
  refine lv_topi (fun x_3 e_3 => ?_)
  obtain rfl : x_3 = 3 := e_3.trans (by decide)
  refine va_sld hx hb hX hbl hbA hS (by rw [hL]; exact vp_in_iff.mpr (by decide)) dL_law__278 ?_
  refine W.eq (g2 := F0 m 279 ls (.int (xs 3) :: .int (xs 2) :: .int (xs 1) :: .ref (h 0) :: [])) rfl ?_
  refine lv_aload_n hx hb dL_law__279 rfl (lv_at hl 3 rfl) ?_
  have hPc := hP.sub (ws' := [((h 0), .inr (11, [.ref (h 1), .ref (h 9), .int 0, .int 0, .ref (h 20), .ref (h 37), .int 0, .ref (h 38), .ref (h 42), .ref (h 43), .ref (h 44), .ref (h 45), .ref (h 46), .ref (h 47), .ref (h 48)])), ((h 1), .inr (8, [.ref (h 2), .int 0, .ref (h 3), .ref (h 4), .int 0, .ref (h 5), .int 0, .ref (h 6), .int 0, .ref (h 7), .int 0])), ((h 2), .inl ((cs 7), 4, .inr (.inr (.inr (.inr (fun _ => none)))))), ((h 3), .inl ((cs 9), 10, .inr (.inr (.inr (.inr (fun _ => none)))))), ((h 4), .inl ((cs 4), 100, .inr (.inr (.inr (.inr (fun _ => none)))))), ((h 5), .inl ((cs 2), 4, .inr (.inr (.inr (.inr (fun _ => none)))))), ((h 6), .inl ((cs 4), 3, .inr (.inr (.inr (.inr (fun _ => none)))))), ((h 7), .inl ((cs 0), 4, .inr (.inr (.inr (.inr fn))))), ((h 8), .inr (0, [.ref (h 102), .ref (h 103), .int 0])), ((h 9), .inl ((cs 8), 8, .inr (.inr (.inr (.inr fp))))), ((h 10), .inr (8, [.ref (h 11), .int 0, .ref (h 12), .ref (h 13), .int 0, .ref (h 14), .int 0, .ref (h 15), .int 0, .ref (h 16), .int 0])), ((h 11), .inl ((cs 7), 4, .inr (.inr (.inr (.inr (fun _ => none)))))), ((h 12), .inl ((cs 9), 10, .inr (.inr (.inr (.inr (fun _ => none)))))), ((h 13), .inl ((cs 4), 100, .inr (.inr (.inr (.inr (fun _ => none)))))), ((h 14), .inl ((cs 2), 4, .inr (.inr (.inr (.inr (fun _ => none)))))), ((h 15), .inl ((cs 4), 3, .inr (.inr (.inr (.inr (fun _ => none)))))), ((h 16), .inl ((cs 0), 4, .inr (.inr (.inr (.inr f0))))), (o, .inl (cL, 1, .inr (.inl (fun _ => 0))))]) [0, 1, 2, 3, 4, 5, 6, 7, 8, 9, 10, 11, 12, 13, 14, 15, 16, 17] rfl
  have hDc := hD.sub (ws' := [((h 0), .inr (11, [.ref (h 1), .ref (h 9), .int 0, .int 0, .ref (h 20), .ref (h 37), .int 0, .ref (h 38), .ref (h 42), .ref (h 43), .ref (h 44), .ref (h 45), .ref (h 46), .ref (h 47), .ref (h 48)])), ((h 1), .inr (8, [.ref (h 2), .int 0, .ref (h 3), .ref (h 4), .int 0, .ref (h 5), .int 0, .ref (h 6), .int 0, .ref (h 7), .int 0])), ((h 2), .inl ((cs 7), 4, .inr (.inr (.inr (.inr (fun _ => none)))))), ((h 3), .inl ((cs 9), 10, .inr (.inr (.inr (.inr (fun _ => none)))))), ((h 4), .inl ((cs 4), 100, .inr (.inr (.inr (.inr (fun _ => none)))))), ((h 5), .inl ((cs 2), 4, .inr (.inr (.inr (.inr (fun _ => none)))))), ((h 6), .inl ((cs 4), 3, .inr (.inr (.inr (.inr (fun _ => none)))))), ((h 7), .inl ((cs 0), 4, .inr (.inr (.inr (.inr fn))))), ((h 8), .inr (0, [.ref (h 102), .ref (h 103), .int 0])), ((h 9), .inl ((cs 8), 8, .inr (.inr (.inr (.inr fp))))), ((h 10), .inr (8, [.ref (h 11), .int 0, .ref (h 12), .ref (h 13), .int 0, .ref (h 14), .int 0, .ref (h 15), .int 0, .ref (h 16), .int 0])), ((h 11), .inl ((cs 7), 4, .inr (.inr (.inr (.inr (fun _ => none)))))), ((h 12), .inl ((cs 9), 10, .inr (.inr (.inr (.inr (fun _ => none)))))), ((h 13), .inl ((cs 4), 100, .inr (.inr (.inr (.inr (fun _ => none)))))), ((h 14), .inl ((cs 2), 4, .inr (.inr (.inr (.inr (fun _ => none)))))), ((h 15), .inl ((cs 4), 3, .inr (.inr (.inr (.inr (fun _ => none)))))), ((h 16), .inl ((cs 0), 4, .inr (.inr (.inr (.inr f0))))), (o, .inl (cL, 1, .inr (.inl (fun _ => 0))))]) [0, 1, 2, 3, 4, 5, 6, 7, 8, 9, 10, 11, 12, 13, 14, 15, 16, 17] (by decide) rfl
  have hKc := hK.sub (tys' := [((cs 7), .object RX7), ((cs 9), .object RX9), ((cs 4), .object RX4), ((cs 2), .object RX2), ((cs 0), .object RX0), ((cs 8), .object RX8), (cL, .long)]) [0, 1, 2, 3, 4, 5, 6] rfl
  have hFc := va_free (wc := [((h 0), .inr (11, [.ref (h 1), .ref (h 9), .int 0, .int 0, .ref (h 20), .ref (h 37), .int 0, .ref (h 38), .ref (h 42), .ref (h 43), .ref (h 44), .ref (h 45), .ref (h 46), .ref (h 47), .ref (h 48)])), ((h 1), .inr (8, [.ref (h 2), .int 0, .ref (h 3), .ref (h 4), .int 0, .ref (h 5), .int 0, .ref (h 6), .int 0, .ref (h 7), .int 0])), ((h 2), .inl ((cs 7), 4, .inr (.inr (.inr (.inr (fun _ => none)))))), ((h 3), .inl ((cs 9), 10, .inr (.inr (.inr (.inr (fun _ => none)))))), ((h 4), .inl ((cs 4), 100, .inr (.inr (.inr (.inr (fun _ => none)))))), ((h 5), .inl ((cs 2), 4, .inr (.inr (.inr (.inr (fun _ => none)))))), ((h 6), .inl ((cs 4), 3, .inr (.inr (.inr (.inr (fun _ => none)))))), ((h 7), .inl ((cs 0), 4, .inr (.inr (.inr (.inr fn))))), ((h 8), .inr (0, [.ref (h 102), .ref (h 103), .int 0])), ((h 9), .inl ((cs 8), 8, .inr (.inr (.inr (.inr fp))))), ((h 10), .inr (8, [.ref (h 11), .int 0, .ref (h 12), .ref (h 13), .int 0, .ref (h 14), .int 0, .ref (h 15), .int 0, .ref (h 16), .int 0])), ((h 11), .inl ((cs 7), 4, .inr (.inr (.inr (.inr (fun _ => none)))))), ((h 12), .inl ((cs 9), 10, .inr (.inr (.inr (.inr (fun _ => none)))))), ((h 13), .inl ((cs 4), 100, .inr (.inr (.inr (.inr (fun _ => none)))))), ((h 14), .inl ((cs 2), 4, .inr (.inr (.inr (.inr (fun _ => none)))))), ((h 15), .inl ((cs 4), 3, .inr (.inr (.inr (.inr (fun _ => none)))))), ((h 16), .inl ((cs 0), 4, .inr (.inr (.inr (.inr f0))))), (o, .inl (cL, 1, .inr (.inl (fun _ => 0))))]) hD hS hA [0, 1, 2, 3, 4, 5, 6, 7, 8, 9, 10, 11, 12, 13, 14, 15, 16, 17] rfl
  refine va_calli (vx_runSW (As := [.ref (h 0), .int (xs 1), .int (xs 2), .int (xs 3), .ref o]) (rest := []) ⟨hx, hb, hml, hown, ht⟩ (k_L_sign l hl0 _ D h cs (xs 1) (xs 2) (xs 3) fn hn fp f0 hp o cL) (vx_cwSW 5 ht (zG_S zw_771 zw_772 zw_773 zw_774) rfl rfl rfl (by decide +kernel) ⟨Nat.le_of_ble_eq_true rfl, Nat.le_of_ble_eq_true rfl⟩) (zY_S hNc hEx hS hFc hPc hKc hDc) rfl rfl hl.1 rfl (lv_room (Nat.le_of_ble_eq_true rfl)) dL_law__280 ⟨Nat.le_of_ble_eq_true rfl, Nat.le_of_ble_eq_true rfl⟩) hS (fun q _ h => hFc q h) hFc (fun r_4 u_4 t H1 locs ht0 hvm hw_4 hB hz1 hk1 hS => ?_)
  obtain ⟨g_4, hg_4, hB⟩ := hB
  obtain ⟨hP1, hK1, hD1⟩ := hB
  rw [ht0] at hP1
  have hK1 := va_K.moved hvm.symm hK1
  obtain ⟨hP, hD⟩ := va_join (wr := [((a 0), .inr (12, zMo a zI0)), ((a 1), .inl (cI, 6792, .inl zI0)), ((a 2), .inl (cJ, 8, .inr (.inr (.inr (.inr fa))))), ((a 30), .inl (cI, 6792, .inl zI0))]) (w1 := [(o, .inl (cL, 1, .inr (.inl g_4)))]) hP hD [0, 1, 2, 3, 4, 5, 6, 7, 8, 9, 10, 11, 12, 13, 14, 15, 16, 17] [18, 19, 20, 21] rfl rfl (by decide) (by decide) hk1 hFc hP1 hD1
  generalize H1 = H at hP hS ⊢
  have hP : va_P D vwCl [((a 0), .inr (12, zMo a zI0)), ((a 1), .inl (cI, 6792, .inl zI0)), ((a 2), .inl (cJ, 8, .inr (.inr (.inr (.inr fa))))), ((a 30), .inl (cI, 6792, .inl zI0)), (o, .inl (cL, 1, .inr (.inl g_4)))] H := hP
  have hD : va_D A [((a 0), .inr (12, zMo a zI0)), ((a 1), .inl (cI, 6792, .inl zI0)), ((a 2), .inl (cJ, 8, .inr (.inr (.inr (.inr fa))))), ((a 30), .inl (cI, 6792, .inl zI0)), (o, .inl (cL, 1, .inr (.inl g_4)))] := hD
  refine W.widen (k := 1196) (n := 188323) (Nat.le_of_ble_eq_true rfl) (Nat.le_of_ble_eq_true rfl) ?_
  refine lv_istore (lv' := [(5, .int r_4), (0, .ref b), (1, .ref (h 0)), (2, .ref (a 0)), (3, .ref o), (4, .int 0)]) hx hb dL_law__283 hl (by decide) rfl (fun ls hl => ?_)
  refine lv_aload_n hx hb dL_law__285 rfl (lv_at hl 3 rfl) ?_
  refine lv_aload_n hx hb dL_law__286 rfl (lv_at hl 1 rfl) ?_
  refine lv_iload hx hb dL_law__287 (lv_at hl 5 rfl) ?_
  refine lv_iconst (v := 1) hx hb dL_law__289 (by decide) ?_
  refine lv_iadd hx hb dL_law__290 ?_
  refine lv_topi (fun x_5 e_5 => ?_)
  obtain rfl : x_5 = 1 := e_5.trans (by decide)
  refine va_sld hx hb hX hbl hbA hS (by rw [hL]; exact vp_in_iff.mpr (by decide)) dL_law__291 ?_
  refine W.eq (g2 := F0 m 292 ls (.int (xs 1) :: .ref (a 0) :: [])) rfl ?_
  refine lv_aload_n hx hb dL_law__292 rfl (lv_at hl 1 rfl) ?_
  refine lv_iload hx hb dL_law__293 (lv_at hl 5 rfl) ?_
  refine lv_iconst (v := 2) hx hb dL_law__295 (by decide) ?_
  refine lv_iadd hx hb dL_law__296 ?_
  refine lv_topi (fun x_6 e_6 => ?_)
  obtain rfl : x_6 = 2 := e_6.trans (by decide)
  refine va_sld hx hb hX hbl hbA hS (by rw [hL]; exact vp_in_iff.mpr (by decide)) dL_law__297 ?_
  refine W.eq (g2 := F0 m 298 ls (.int (xs 2) :: .int (xs 1) :: .ref (a 0) :: [])) rfl ?_
  refine lv_aload_n hx hb dL_law__298 rfl (lv_at hl 1 rfl) ?_
  refine lv_iload hx hb dL_law__299 (lv_at hl 5 rfl) ?_
  refine lv_iconst (v := 3) hx hb dL_law__301 (by decide) ?_
  refine lv_iadd hx hb dL_law__302 ?_
  refine lv_topi (fun x_7 e_7 => ?_)
  obtain rfl : x_7 = 3 := e_7.trans (by decide)
  refine va_sld hx hb hX hbl hbA hS (by rw [hL]; exact vp_in_iff.mpr (by decide)) dL_law__303 ?_
  refine W.eq (g2 := F0 m 304 ls (.int (xs 3) :: .int (xs 2) :: .int (xs 1) :: .ref (a 0) :: [])) rfl ?_
  have hPc := hP.sub (ws' := [((a 0), .inr (12, zMo a zI0)), ((a 1), .inl (cI, 6792, .inl zI0)), ((a 2), .inl (cJ, 8, .inr (.inr (.inr (.inr fa))))), ((a 30), .inl (cI, 6792, .inl zI0))]) [0, 1, 2, 3] rfl
  have hDc := hD.sub (ws' := [((a 0), .inr (12, zMo a zI0)), ((a 1), .inl (cI, 6792, .inl zI0)), ((a 2), .inl (cJ, 8, .inr (.inr (.inr (.inr fa))))), ((a 30), .inl (cI, 6792, .inl zI0))]) [0, 1, 2, 3] (by decide) rfl
  have hKc := hK.sub (tys' := [(cI, .int), (cJ, .array .int)]) [7, 8] rfl
  have hFc := va_free (wc := [((a 0), .inr (12, zMo a zI0)), ((a 1), .inl (cI, 6792, .inl zI0)), ((a 2), .inl (cJ, 8, .inr (.inr (.inr (.inr fa))))), ((a 30), .inl (cI, 6792, .inl zI0))]) hD hS hA [0, 1, 2, 3] rfl
  refine va_calli (va_runV (As := [.int (xs 1), .int (xs 2), .int (xs 3)]) (rest := []) ⟨hx, hb, hml, hown, ht⟩ (k_X12_sign l _ D a cI (xs 1) (xs 2) (xs 3) cJ fa ha) (cwV 3 ht (zG_V zw_775 zw_776 zw_777 zw_2 zw_778) rfl rfl rfl (by decide +kernel) ⟨Nat.le_of_ble_eq_true rfl, Nat.le_of_ble_eq_true rfl⟩) (zM_V (va_recv hK hP (ci := 12) (q0 := 0) rfl rfl) hPc hKc hDc) rfl rfl hl.1 rfl (lv_room (Nat.le_of_ble_eq_true rfl)) dL_law__304 ⟨Nat.le_of_ble_eq_true rfl, Nat.le_of_ble_eq_true rfl⟩) hS (fun q _ h => hFc q h) hFc (fun r_8 u_8 t H1 locs ht0 hvm hw_8 hB hz1 hk1 hS => ?_)
  obtain ⟨hP1, hK1, hD1⟩ := hB
  rw [ht0] at hP1
  have hK1 := va_K.moved hvm.symm hK1
  obtain ⟨hP, hD⟩ := va_join (wr := [(o, .inl (cL, 1, .inr (.inl g_4)))]) (w1 := [((a 0), .inr (12, zMo a u_8))]) hP hD [0, 1, 2, 3] [4] rfl rfl (by decide) (by decide) hk1 hFc hP1 hD1
  generalize H1 = H at hP hS ⊢
  have hP : va_P D vwCl [(o, .inl (cL, 1, .inr (.inl g_4))), ((a 0), .inr (12, zMo a u_8))] H := hP
  have hD : va_D A [(o, .inl (cL, 1, .inr (.inl g_4))), ((a 0), .inr (12, zMo a u_8))] := hD
  refine lv_istore (lv' := [(6, .int r_8), (5, .int r_4), (0, .ref b), (1, .ref (h 0)), (2, .ref (a 0)), (3, .ref o), (4, .int 0)]) hx hb dL_law__307 hl (by decide) rfl (fun ls hl => ?_)
  refine lv_aload_n hx hb dL_law__309 rfl (lv_at hl 4 rfl) ?_
  refine vp_callSi (va_runV (As := []) (rest := []) ⟨hx, hb, hml, hown, ht⟩ (k_X12_thrown l D a u_8) (cwV 0 ht (zG_V zw_779 zw_780 zw_781 zw_2 zw_782) rfl rfl rfl (by decide +kernel) ⟨Nat.le_of_ble_eq_true rfl, Nat.le_of_ble_eq_true rfl⟩) (zR_V (va_recv hK hP (ci := 12) (q0 := 1) rfl rfl) (hP.sub (ws' := [((a 0), .inr (12, zMo a u_8))]) [1] rfl) (hK.sub (tys' := []) [] rfl)) rfl rfl hl.1 rfl (lv_room (Nat.le_of_ble_eq_true rfl)) dL_law__310 ⟨Nat.le_of_ble_eq_true rfl, Nat.le_of_ble_eq_true rfl⟩).run (fun r_9 hw_9 => ?_)
  refine lv_iload hx hb dL_law__313 (lv_at hl 1 rfl) ?_
  refine lv_icmp_eq (tgt := 320) hx hb dL_law__315 (by decide) (fun c_10 => ?_) (fun c_10 => ?_)
  · skip
    simp only [fa_lt, fa_le, fa_eq, Int32.reduceToInt] at c_10
    refine lv_iload hx hb dL_law__320 (lv_at hl 1 rfl) ?_
    refine lv_if_ne (tgt := 337) hx hb dL_law__322 (by decide) (fun c_11 => ?_) (fun c_11 => ?_)
    · skip
      simp only [fa_lt, fa_le, fa_eq, Int32.reduceToInt] at c_11
      refine lv_goto (tgt := 3433) hx hb dL_law__337 (by decide) ?_
      refine W.widen (k := 2000) (n := 400000) (Nat.le_of_ble_eq_true rfl) (Nat.le_of_ble_eq_true rfl) ?_
      exact zlaw_end hx hb hml hr hown ht hlocks hX hbl hL hAe hS (lv_sub hl [2, 6] rfl)
    · skip
      simp only [fa_lt, fa_le, fa_eq, Int32.reduceToInt] at c_11
      refine lv_aload_n hx hb dL_law__325 rfl (lv_at hl 5 rfl) ?_
      refine lv_iconst (v := 0) hx hb dL_law__326 (by decide) ?_
      refine va_lald hx hb hK hP 0 6 rfl rfl (vp_in_iff.mpr (by decide)) dL_law__327 ?_
      refine W.eq (g2 := F0 m 328 ls (.long (g_4 0) :: [])) rfl ?_
      refine lv_iload hx hb dL_law__328 (lv_at hl 0 rfl) ?_
      refine lv_i2l (v := (r_8).toInt64) hx hb dL_law__330 rfl ?_
      refine W.lcmp hx hb dL_law__331 ?_
      refine lv_if_eq (tgt := 337) hx hb dL_law__332 (by decide) (fun c_12 => ?_) (fun c_12 => ?_)
      · skip
        refine lv_goto (tgt := 3433) hx hb dL_law__337 (by decide) ?_
        refine W.widen (k := 2000) (n := 400000) (Nat.le_of_ble_eq_true rfl) (Nat.le_of_ble_eq_true rfl) ?_
        exact zlaw_end hx hb hml hr hown ht hlocks hX hbl hL hAe hS (lv_sub hl [2, 6] rfl)
      · skip
        simp only [fa_lt, fa_le, fa_eq, Int32.reduceToInt] at c_12
        exfalso; exact c_12 (by rw [hg_4, ← (zF_sign hw_8 hw_4).2 ((zF_sign hw_8 hw_4).1.trans (Int32.toInt_inj.mp (show r_4.toInt = (0 : Int32).toInt by rw [c_11]; rfl)))]; rw [zcmp_self]; rfl)
  · skip
    simp only [fa_lt, fa_le, fa_eq, Int32.reduceToInt] at c_10
    exfalso; exact c_10 (by rw [hw_9, (zF_sign hw_8 hw_4).1])
set_option maxHeartbeats 4000000 in
set_option maxRecDepth 100000 in
theorem zcase_variable {p : Program} {l : Launch} {e : Env} {s : State} {m : MethodId} {below : List Frame} {meth : Method} {c : Code} {b L : Nat} {xs : Nat → Int32} {A : Nat → Prop} (D : va_G) (h cs : Nat → Nat) (fn : Nat → Option Nat) (hn : ∀ k : Nat, k < 4 → fn k = some (h 8)) (fp f0 : Nat → Option Nat) (hp : fp 0 = some (h 10)) (o : Nat) (cL : ClassId) (a : Nat → Nat) (cI : ClassId) (cJ : ClassId) (fa : Nat → Option Nat) (ha : fa 0 = some (a 30)) (hx : p.tables.exec = Jvm.exec) (hb : c.code = code) (hml : c.maxLocals = 9) (hr : meth.sig.returnType = ret) (hown : s.vm.findClass RL = some m.cls) (ht : ∀ w ∈ zT, w.before #[Value.ref b] s = true) (hlocks : meth.locks = false) (hX : va_X b L xs s s.heap) (hbl : b < s.heap.size) (hL : L = 6) (hAe : ∀ q : Nat, A q ↔ s.heap.size ≤ q) (hl0 : l.stackTraces = false) (hEx : zEx A s) (hNc : zNc s) {H : Heap} {locs : List Loc} {ls : Array Slot} (hK : va_K D vwCl [((cs 7), .object RX7), ((cs 9), .object RX9), ((cs 4), .object RX4), ((cs 2), .object RX2), ((cs 0), .object RX0), ((cs 8), .object RX8), ((cs 13), .int), (cL, .long), (cI, .int), (cJ, .array .int)] s) (hP : va_P D vwCl [((h 0), .inr (11, [.ref (h 1), .ref (h 9), .int 0, .int 0, .ref (h 20), .ref (h 37), .int 0, .ref (h 38), .ref (h 42), .ref (h 43), .ref (h 44), .ref (h 45), .ref (h 46), .ref (h 47), .ref (h 48)])), ((h 1), .inr (8, [.ref (h 2), .int 0, .ref (h 3), .ref (h 4), .int 0, .ref (h 5), .int 0, .ref (h 6), .int 0, .ref (h 7), .int 0])), ((h 2), .inl ((cs 7), 4, .inr (.inr (.inr (.inr (fun _ => none)))))), ((h 3), .inl ((cs 9), 10, .inr (.inr (.inr (.inr (fun _ => none)))))), ((h 4), .inl ((cs 4), 100, .inr (.inr (.inr (.inr (fun _ => none)))))), ((h 5), .inl ((cs 2), 4, .inr (.inr (.inr (.inr (fun _ => none)))))), ((h 6), .inl ((cs 4), 3, .inr (.inr (.inr (.inr (fun _ => none)))))), ((h 7), .inl ((cs 0), 4, .inr (.inr (.inr (.inr fn))))), ((h 8), .inr (0, [.ref (h 102), .ref (h 103), .int 0])), ((h 9), .inl ((cs 8), 8, .inr (.inr (.inr (.inr fp))))), ((h 10), .inr (8, [.ref (h 11), .int 0, .ref (h 12), .ref (h 13), .int 0, .ref (h 14), .int 0, .ref (h 15), .int 0, .ref (h 16), .int 0])), ((h 11), .inl ((cs 7), 4, .inr (.inr (.inr (.inr (fun _ => none)))))), ((h 12), .inl ((cs 9), 10, .inr (.inr (.inr (.inr (fun _ => none)))))), ((h 13), .inl ((cs 4), 100, .inr (.inr (.inr (.inr (fun _ => none)))))), ((h 14), .inl ((cs 2), 4, .inr (.inr (.inr (.inr (fun _ => none)))))), ((h 15), .inl ((cs 4), 3, .inr (.inr (.inr (.inr (fun _ => none)))))), ((h 16), .inl ((cs 0), 4, .inr (.inr (.inr (.inr f0))))), ((h 43), .inl ((cs 13), 40, .inl zI0)), (o, .inl (cL, 1, .inr (.inl (fun _ => 0)))), ((a 0), .inr (12, zMo a zI0)), ((a 1), .inl (cI, 6792, .inl zI0)), ((a 2), .inl (cJ, 8, .inr (.inr (.inr (.inr fa))))), ((a 30), .inl (cI, 6792, .inl zI0))] H) (hD : va_D A [((h 0), .inr (11, [.ref (h 1), .ref (h 9), .int 0, .int 0, .ref (h 20), .ref (h 37), .int 0, .ref (h 38), .ref (h 42), .ref (h 43), .ref (h 44), .ref (h 45), .ref (h 46), .ref (h 47), .ref (h 48)])), ((h 1), .inr (8, [.ref (h 2), .int 0, .ref (h 3), .ref (h 4), .int 0, .ref (h 5), .int 0, .ref (h 6), .int 0, .ref (h 7), .int 0])), ((h 2), .inl ((cs 7), 4, .inr (.inr (.inr (.inr (fun _ => none)))))), ((h 3), .inl ((cs 9), 10, .inr (.inr (.inr (.inr (fun _ => none)))))), ((h 4), .inl ((cs 4), 100, .inr (.inr (.inr (.inr (fun _ => none)))))), ((h 5), .inl ((cs 2), 4, .inr (.inr (.inr (.inr (fun _ => none)))))), ((h 6), .inl ((cs 4), 3, .inr (.inr (.inr (.inr (fun _ => none)))))), ((h 7), .inl ((cs 0), 4, .inr (.inr (.inr (.inr fn))))), ((h 8), .inr (0, [.ref (h 102), .ref (h 103), .int 0])), ((h 9), .inl ((cs 8), 8, .inr (.inr (.inr (.inr fp))))), ((h 10), .inr (8, [.ref (h 11), .int 0, .ref (h 12), .ref (h 13), .int 0, .ref (h 14), .int 0, .ref (h 15), .int 0, .ref (h 16), .int 0])), ((h 11), .inl ((cs 7), 4, .inr (.inr (.inr (.inr (fun _ => none)))))), ((h 12), .inl ((cs 9), 10, .inr (.inr (.inr (.inr (fun _ => none)))))), ((h 13), .inl ((cs 4), 100, .inr (.inr (.inr (.inr (fun _ => none)))))), ((h 14), .inl ((cs 2), 4, .inr (.inr (.inr (.inr (fun _ => none)))))), ((h 15), .inl ((cs 4), 3, .inr (.inr (.inr (.inr (fun _ => none)))))), ((h 16), .inl ((cs 0), 4, .inr (.inr (.inr (.inr f0))))), ((h 43), .inl ((cs 13), 40, .inl zI0)), (o, .inl (cL, 1, .inr (.inl (fun _ => 0)))), ((a 0), .inr (12, zMo a zI0)), ((a 1), .inl (cI, 6792, .inl zI0)), ((a 2), .inl (cJ, 8, .inr (.inr (.inr (.inr fa))))), ((a 30), .inl (cI, 6792, .inl zI0))]) (hS : va_S A s.heap H locs) (hl : lv_has ls 9 [(0, .ref b), (1, .ref (h 0)), (2, .ref (a 0)), (3, .ref o), (4, .int 0)]) : W p l e room_1 s m #[Value.ref b] below meth c H locs 1192 188302 (lw_Z below #[Value.ref b] s) (F0 m 340 ls []) := by
  have hbA : ¬ A b := fun h => Nat.not_le.mpr hbl ((hAe b).mp h)
  have hA : ∀ q : Nat, s.heap.size ≤ q → A q := fun q h => (hAe q).mpr h
  refine lv_aload_n hx hb dL_law__340 rfl (lv_at hl 1 rfl) ?_
  refine lv_aload_n hx hb dL_law__341 rfl (lv_at hl 0 rfl) ?_
  refine lv_iload hx hb dL_law__342 (lv_at hl 4 rfl) ?_
  refine lv_iconst (v := 1) hx hb dL_law__344 (by decide) ?_
  refine lv_iadd hx hb dL_law__345 ?_
  refine lv_topi (fun x_1 e_1 => ?_)
  obtain rfl : x_1 = 1 := e_1.trans (by decide)
  refine va_sld hx hb hX hbl hbA hS (by rw [hL]; exact vp_in_iff.mpr (by decide)) dL_law__346 ?_
  refine W.eq (g2 := F0 m 347 ls (.int (xs 1) :: .ref (h 0) :: [])) rfl ?_
  refine lv_aload_n hx hb dL_law__347 rfl (lv_at hl 0 rfl) ?_
  refine lv_iload hx hb dL_law__348 (lv_at hl 4 rfl) ?_
  refine lv_iconst (v := 2) hx hb dL_law__350 (by decide) ?_
  refine lv_iadd hx hb dL_law__351 ?_
  refine lv_topi (fun x_2 e_2 => ?_)
  obtain rfl : x_2 = 2 := e_2.trans (by decide)
  refine va_sld hx hb hX hbl hbA hS (by rw [hL]; exact vp_in_iff.mpr (by decide)) dL_law__352 ?_
  refine W.eq (g2 := F0 m 353 ls (.int (xs 2) :: .int (xs 1) :: .ref (h 0) :: [])) rfl ?_
  refine lv_aload_n hx hb dL_law__353 rfl (lv_at hl 3 rfl) ?_
  have hPc := hP.sub (ws' := [((h 0), .inr (11, [.ref (h 1), .ref (h 9), .int 0, .int 0, .ref (h 20), .ref (h 37), .int 0, .ref (h 38), .ref (h 42), .ref (h 43), .ref (h 44), .ref (h 45), .ref (h 46), .ref (h 47), .ref (h 48)])), ((h 1), .inr (8, [.ref (h 2), .int 0, .ref (h 3), .ref (h 4), .int 0, .ref (h 5), .int 0, .ref (h 6), .int 0, .ref (h 7), .int 0])), ((h 2), .inl ((cs 7), 4, .inr (.inr (.inr (.inr (fun _ => none)))))), ((h 3), .inl ((cs 9), 10, .inr (.inr (.inr (.inr (fun _ => none)))))), ((h 4), .inl ((cs 4), 100, .inr (.inr (.inr (.inr (fun _ => none)))))), ((h 5), .inl ((cs 2), 4, .inr (.inr (.inr (.inr (fun _ => none)))))), ((h 6), .inl ((cs 4), 3, .inr (.inr (.inr (.inr (fun _ => none)))))), ((h 7), .inl ((cs 0), 4, .inr (.inr (.inr (.inr fn))))), ((h 8), .inr (0, [.ref (h 102), .ref (h 103), .int 0])), ((h 9), .inl ((cs 8), 8, .inr (.inr (.inr (.inr fp))))), ((h 10), .inr (8, [.ref (h 11), .int 0, .ref (h 12), .ref (h 13), .int 0, .ref (h 14), .int 0, .ref (h 15), .int 0, .ref (h 16), .int 0])), ((h 11), .inl ((cs 7), 4, .inr (.inr (.inr (.inr (fun _ => none)))))), ((h 12), .inl ((cs 9), 10, .inr (.inr (.inr (.inr (fun _ => none)))))), ((h 13), .inl ((cs 4), 100, .inr (.inr (.inr (.inr (fun _ => none)))))), ((h 14), .inl ((cs 2), 4, .inr (.inr (.inr (.inr (fun _ => none)))))), ((h 15), .inl ((cs 4), 3, .inr (.inr (.inr (.inr (fun _ => none)))))), ((h 16), .inl ((cs 0), 4, .inr (.inr (.inr (.inr f0))))), ((h 43), .inl ((cs 13), 40, .inl zI0)), (o, .inl (cL, 1, .inr (.inl (fun _ => 0))))]) [0, 1, 2, 3, 4, 5, 6, 7, 8, 9, 10, 11, 12, 13, 14, 15, 16, 17, 18] rfl
  have hDc := hD.sub (ws' := [((h 0), .inr (11, [.ref (h 1), .ref (h 9), .int 0, .int 0, .ref (h 20), .ref (h 37), .int 0, .ref (h 38), .ref (h 42), .ref (h 43), .ref (h 44), .ref (h 45), .ref (h 46), .ref (h 47), .ref (h 48)])), ((h 1), .inr (8, [.ref (h 2), .int 0, .ref (h 3), .ref (h 4), .int 0, .ref (h 5), .int 0, .ref (h 6), .int 0, .ref (h 7), .int 0])), ((h 2), .inl ((cs 7), 4, .inr (.inr (.inr (.inr (fun _ => none)))))), ((h 3), .inl ((cs 9), 10, .inr (.inr (.inr (.inr (fun _ => none)))))), ((h 4), .inl ((cs 4), 100, .inr (.inr (.inr (.inr (fun _ => none)))))), ((h 5), .inl ((cs 2), 4, .inr (.inr (.inr (.inr (fun _ => none)))))), ((h 6), .inl ((cs 4), 3, .inr (.inr (.inr (.inr (fun _ => none)))))), ((h 7), .inl ((cs 0), 4, .inr (.inr (.inr (.inr fn))))), ((h 8), .inr (0, [.ref (h 102), .ref (h 103), .int 0])), ((h 9), .inl ((cs 8), 8, .inr (.inr (.inr (.inr fp))))), ((h 10), .inr (8, [.ref (h 11), .int 0, .ref (h 12), .ref (h 13), .int 0, .ref (h 14), .int 0, .ref (h 15), .int 0, .ref (h 16), .int 0])), ((h 11), .inl ((cs 7), 4, .inr (.inr (.inr (.inr (fun _ => none)))))), ((h 12), .inl ((cs 9), 10, .inr (.inr (.inr (.inr (fun _ => none)))))), ((h 13), .inl ((cs 4), 100, .inr (.inr (.inr (.inr (fun _ => none)))))), ((h 14), .inl ((cs 2), 4, .inr (.inr (.inr (.inr (fun _ => none)))))), ((h 15), .inl ((cs 4), 3, .inr (.inr (.inr (.inr (fun _ => none)))))), ((h 16), .inl ((cs 0), 4, .inr (.inr (.inr (.inr f0))))), ((h 43), .inl ((cs 13), 40, .inl zI0)), (o, .inl (cL, 1, .inr (.inl (fun _ => 0))))]) [0, 1, 2, 3, 4, 5, 6, 7, 8, 9, 10, 11, 12, 13, 14, 15, 16, 17, 18] (by decide) rfl
  have hKc := hK.sub (tys' := [((cs 7), .object RX7), ((cs 9), .object RX9), ((cs 4), .object RX4), ((cs 2), .object RX2), ((cs 0), .object RX0), ((cs 8), .object RX8), ((cs 13), .int), (cL, .long)]) [0, 1, 2, 3, 4, 5, 6, 7] rfl
  have hFc := va_free (wc := [((h 0), .inr (11, [.ref (h 1), .ref (h 9), .int 0, .int 0, .ref (h 20), .ref (h 37), .int 0, .ref (h 38), .ref (h 42), .ref (h 43), .ref (h 44), .ref (h 45), .ref (h 46), .ref (h 47), .ref (h 48)])), ((h 1), .inr (8, [.ref (h 2), .int 0, .ref (h 3), .ref (h 4), .int 0, .ref (h 5), .int 0, .ref (h 6), .int 0, .ref (h 7), .int 0])), ((h 2), .inl ((cs 7), 4, .inr (.inr (.inr (.inr (fun _ => none)))))), ((h 3), .inl ((cs 9), 10, .inr (.inr (.inr (.inr (fun _ => none)))))), ((h 4), .inl ((cs 4), 100, .inr (.inr (.inr (.inr (fun _ => none)))))), ((h 5), .inl ((cs 2), 4, .inr (.inr (.inr (.inr (fun _ => none)))))), ((h 6), .inl ((cs 4), 3, .inr (.inr (.inr (.inr (fun _ => none)))))), ((h 7), .inl ((cs 0), 4, .inr (.inr (.inr (.inr fn))))), ((h 8), .inr (0, [.ref (h 102), .ref (h 103), .int 0])), ((h 9), .inl ((cs 8), 8, .inr (.inr (.inr (.inr fp))))), ((h 10), .inr (8, [.ref (h 11), .int 0, .ref (h 12), .ref (h 13), .int 0, .ref (h 14), .int 0, .ref (h 15), .int 0, .ref (h 16), .int 0])), ((h 11), .inl ((cs 7), 4, .inr (.inr (.inr (.inr (fun _ => none)))))), ((h 12), .inl ((cs 9), 10, .inr (.inr (.inr (.inr (fun _ => none)))))), ((h 13), .inl ((cs 4), 100, .inr (.inr (.inr (.inr (fun _ => none)))))), ((h 14), .inl ((cs 2), 4, .inr (.inr (.inr (.inr (fun _ => none)))))), ((h 15), .inl ((cs 4), 3, .inr (.inr (.inr (.inr (fun _ => none)))))), ((h 16), .inl ((cs 0), 4, .inr (.inr (.inr (.inr f0))))), ((h 43), .inl ((cs 13), 40, .inl zI0)), (o, .inl (cL, 1, .inr (.inl (fun _ => 0))))]) hD hS hA [0, 1, 2, 3, 4, 5, 6, 7, 8, 9, 10, 11, 12, 13, 14, 15, 16, 17, 18] rfl
  refine va_calli (vx_runSW (As := [.ref (h 0), .int (xs 1), .int (xs 2), .ref o]) (rest := []) ⟨hx, hb, hml, hown, ht⟩ (k_L_variable l hl0 _ D h cs (xs 1) (xs 2) fn hn fp f0 hp o cL) (vx_cwSW 4 ht (zG_S zw_783 zw_784 zw_773 zw_785) rfl rfl rfl (by decide +kernel) ⟨Nat.le_of_ble_eq_true rfl, Nat.le_of_ble_eq_true rfl⟩) (zY_S hNc hEx hS hFc hPc hKc hDc) rfl rfl hl.1 rfl (lv_room (Nat.le_of_ble_eq_true rfl)) dL_law__354 ⟨Nat.le_of_ble_eq_true rfl, Nat.le_of_ble_eq_true rfl⟩) hS (fun q _ h => hFc q h) hFc (fun r_3 u_3 t H1 locs ht0 hvm hw_3 hB hz1 hk1 hS => ?_)
  obtain ⟨g_3, hg_3, hB⟩ := hB
  obtain ⟨hP1, hK1, hD1⟩ := hB
  rw [ht0] at hP1
  have hK1 := va_K.moved hvm.symm hK1
  obtain ⟨hP, hD⟩ := va_join (wr := [((a 0), .inr (12, zMo a zI0)), ((a 1), .inl (cI, 6792, .inl zI0)), ((a 2), .inl (cJ, 8, .inr (.inr (.inr (.inr fa))))), ((a 30), .inl (cI, 6792, .inl zI0))]) (w1 := [(o, .inl (cL, 1, .inr (.inl g_3)))]) hP hD [0, 1, 2, 3, 4, 5, 6, 7, 8, 9, 10, 11, 12, 13, 14, 15, 16, 17, 18] [19, 20, 21, 22] rfl rfl (by decide) (by decide) hk1 hFc hP1 hD1
  generalize H1 = H at hP hS ⊢
  have hP : va_P D vwCl [((a 0), .inr (12, zMo a zI0)), ((a 1), .inl (cI, 6792, .inl zI0)), ((a 2), .inl (cJ, 8, .inr (.inr (.inr (.inr fa))))), ((a 30), .inl (cI, 6792, .inl zI0)), (o, .inl (cL, 1, .inr (.inl g_3)))] H := hP
  have hD : va_D A [((a 0), .inr (12, zMo a zI0)), ((a 1), .inl (cI, 6792, .inl zI0)), ((a 2), .inl (cJ, 8, .inr (.inr (.inr (.inr fa))))), ((a 30), .inl (cI, 6792, .inl zI0)), (o, .inl (cL, 1, .inr (.inl g_3)))] := hD
  refine W.widen (k := 1198) (n := 188323) (Nat.le_of_ble_eq_true rfl) (Nat.le_of_ble_eq_true rfl) ?_
  refine lv_istore (lv' := [(5, .int r_3), (0, .ref b), (1, .ref (h 0)), (2, .ref (a 0)), (3, .ref o), (4, .int 0)]) hx hb dL_law__357 hl (by decide) rfl (fun ls hl => ?_)
  refine lv_aload_n hx hb dL_law__359 rfl (lv_at hl 3 rfl) ?_
  refine lv_aload_n hx hb dL_law__360 rfl (lv_at hl 1 rfl) ?_
  refine lv_iload hx hb dL_law__361 (lv_at hl 5 rfl) ?_
  refine lv_iconst (v := 1) hx hb dL_law__363 (by decide) ?_
  refine lv_iadd hx hb dL_law__364 ?_
  refine lv_topi (fun x_4 e_4 => ?_)
  obtain rfl : x_4 = 1 := e_4.trans (by decide)
  refine va_sld hx hb hX hbl hbA hS (by rw [hL]; exact vp_in_iff.mpr (by decide)) dL_law__365 ?_
  refine W.eq (g2 := F0 m 366 ls (.int (xs 1) :: .ref (a 0) :: [])) rfl ?_
  refine lv_aload_n hx hb dL_law__366 rfl (lv_at hl 1 rfl) ?_
  refine lv_iload hx hb dL_law__367 (lv_at hl 5 rfl) ?_
  refine lv_iconst (v := 2) hx hb dL_law__369 (by decide) ?_
  refine lv_iadd hx hb dL_law__370 ?_
  refine lv_topi (fun x_5 e_5 => ?_)
  obtain rfl : x_5 = 2 := e_5.trans (by decide)
  refine va_sld hx hb hX hbl hbA hS (by rw [hL]; exact vp_in_iff.mpr (by decide)) dL_law__371 ?_
  refine W.eq (g2 := F0 m 372 ls (.int (xs 2) :: .int (xs 1) :: .ref (a 0) :: [])) rfl ?_
  have hPc := hP.sub (ws' := [((a 0), .inr (12, zMo a zI0)), ((a 1), .inl (cI, 6792, .inl zI0)), ((a 2), .inl (cJ, 8, .inr (.inr (.inr (.inr fa))))), ((a 30), .inl (cI, 6792, .inl zI0))]) [0, 1, 2, 3] rfl
  have hDc := hD.sub (ws' := [((a 0), .inr (12, zMo a zI0)), ((a 1), .inl (cI, 6792, .inl zI0)), ((a 2), .inl (cJ, 8, .inr (.inr (.inr (.inr fa))))), ((a 30), .inl (cI, 6792, .inl zI0))]) [0, 1, 2, 3] (by decide) rfl
  have hKc := hK.sub (tys' := [(cI, .int), (cJ, .array .int)]) [8, 9] rfl
  have hFc := va_free (wc := [((a 0), .inr (12, zMo a zI0)), ((a 1), .inl (cI, 6792, .inl zI0)), ((a 2), .inl (cJ, 8, .inr (.inr (.inr (.inr fa))))), ((a 30), .inl (cI, 6792, .inl zI0))]) hD hS hA [0, 1, 2, 3] rfl
  refine va_calli (va_runV (As := [.int (xs 1), .int (xs 2)]) (rest := []) ⟨hx, hb, hml, hown, ht⟩ (k_X12_variable l _ D a cI (xs 1) (xs 2) cJ fa ha) (cwV 2 ht (zG_V zw_786 zw_787 zw_788 zw_2 zw_789) rfl rfl rfl (by decide +kernel) ⟨Nat.le_of_ble_eq_true rfl, Nat.le_of_ble_eq_true rfl⟩) (zM_V (va_recv hK hP (ci := 12) (q0 := 0) rfl rfl) hPc hKc hDc) rfl rfl hl.1 rfl (lv_room (Nat.le_of_ble_eq_true rfl)) dL_law__372 ⟨Nat.le_of_ble_eq_true rfl, Nat.le_of_ble_eq_true rfl⟩) hS (fun q _ h => hFc q h) hFc (fun r_6 u_6 t H1 locs ht0 hvm hw_6 hB hz1 hk1 hS => ?_)
  obtain ⟨hP1, hK1, hD1⟩ := hB
  rw [ht0] at hP1
  have hK1 := va_K.moved hvm.symm hK1
  obtain ⟨hP, hD⟩ := va_join (wr := [(o, .inl (cL, 1, .inr (.inl g_3)))]) (w1 := [((a 0), .inr (12, zMo a u_6))]) hP hD [0, 1, 2, 3] [4] rfl rfl (by decide) (by decide) hk1 hFc hP1 hD1
  generalize H1 = H at hP hS ⊢
  have hP : va_P D vwCl [(o, .inl (cL, 1, .inr (.inl g_3))), ((a 0), .inr (12, zMo a u_6))] H := hP
  have hD : va_D A [(o, .inl (cL, 1, .inr (.inl g_3))), ((a 0), .inr (12, zMo a u_6))] := hD
  refine lv_istore (lv' := [(6, .int r_6), (5, .int r_3), (0, .ref b), (1, .ref (h 0)), (2, .ref (a 0)), (3, .ref o), (4, .int 0)]) hx hb dL_law__375 hl (by decide) rfl (fun ls hl => ?_)
  refine lv_aload_n hx hb dL_law__377 rfl (lv_at hl 4 rfl) ?_
  refine vp_callSi (va_runV (As := []) (rest := []) ⟨hx, hb, hml, hown, ht⟩ (k_X12_thrown l D a u_6) (cwV 0 ht (zG_V zw_779 zw_780 zw_781 zw_2 zw_782) rfl rfl rfl (by decide +kernel) ⟨Nat.le_of_ble_eq_true rfl, Nat.le_of_ble_eq_true rfl⟩) (zR_V (va_recv hK hP (ci := 12) (q0 := 1) rfl rfl) (hP.sub (ws' := [((a 0), .inr (12, zMo a u_6))]) [1] rfl) (hK.sub (tys' := []) [] rfl)) rfl rfl hl.1 rfl (lv_room (Nat.le_of_ble_eq_true rfl)) dL_law__378 ⟨Nat.le_of_ble_eq_true rfl, Nat.le_of_ble_eq_true rfl⟩).run (fun r_7 hw_7 => ?_)
  refine lv_iload hx hb dL_law__381 (lv_at hl 1 rfl) ?_
  refine lv_icmp_eq (tgt := 388) hx hb dL_law__383 (by decide) (fun c_8 => ?_) (fun c_8 => ?_)
  · skip
    simp only [fa_lt, fa_le, fa_eq, Int32.reduceToInt] at c_8
    refine lv_iload hx hb dL_law__388 (lv_at hl 1 rfl) ?_
    refine lv_if_ne (tgt := 405) hx hb dL_law__390 (by decide) (fun c_9 => ?_) (fun c_9 => ?_)
    · skip
      simp only [fa_lt, fa_le, fa_eq, Int32.reduceToInt] at c_9
      refine lv_goto (tgt := 3433) hx hb dL_law__405 (by decide) ?_
      refine W.widen (k := 2000) (n := 400000) (Nat.le_of_ble_eq_true rfl) (Nat.le_of_ble_eq_true rfl) ?_
      exact zlaw_end hx hb hml hr hown ht hlocks hX hbl hL hAe hS (lv_sub hl [2, 6] rfl)
    · skip
      simp only [fa_lt, fa_le, fa_eq, Int32.reduceToInt] at c_9
      refine lv_aload_n hx hb dL_law__393 rfl (lv_at hl 5 rfl) ?_
      refine lv_iconst (v := 0) hx hb dL_law__394 (by decide) ?_
      refine va_lald hx hb hK hP 0 7 rfl rfl (vp_in_iff.mpr (by decide)) dL_law__395 ?_
      refine W.eq (g2 := F0 m 396 ls (.long (g_3 0) :: [])) rfl ?_
      refine lv_iload hx hb dL_law__396 (lv_at hl 0 rfl) ?_
      refine lv_i2l (v := (r_6).toInt64) hx hb dL_law__398 rfl ?_
      refine W.lcmp hx hb dL_law__399 ?_
      refine lv_if_eq (tgt := 405) hx hb dL_law__400 (by decide) (fun c_10 => ?_) (fun c_10 => ?_)
      · skip
        refine lv_goto (tgt := 3433) hx hb dL_law__405 (by decide) ?_
        refine W.widen (k := 2000) (n := 400000) (Nat.le_of_ble_eq_true rfl) (Nat.le_of_ble_eq_true rfl) ?_
        exact zlaw_end hx hb hml hr hown ht hlocks hX hbl hL hAe hS (lv_sub hl [2, 6] rfl)
      · skip
        simp only [fa_lt, fa_le, fa_eq, Int32.reduceToInt] at c_10
        exfalso; exact c_10 (by rw [hg_3, ← (zF_variable hw_6 hw_3).2 ((zF_variable hw_6 hw_3).1.trans (Int32.toInt_inj.mp (show r_3.toInt = (0 : Int32).toInt by rw [c_9]; rfl)))]; rw [zcmp_self]; rfl)
  · skip
    simp only [fa_lt, fa_le, fa_eq, Int32.reduceToInt] at c_8
    exfalso; exact c_8 (by rw [hw_7, (zF_variable hw_6 hw_3).1])
set_option maxHeartbeats 4000000 in
set_option maxRecDepth 100000 in
theorem zcase_term {p : Program} {l : Launch} {e : Env} {s : State} {m : MethodId} {below : List Frame} {meth : Method} {c : Code} {b L : Nat} {xs : Nat → Int32} {A : Nat → Prop} (D : va_G) (h cs : Nat → Nat) (o : Nat) (cL : ClassId) (a : Nat → Nat) (cI : ClassId) (hx : p.tables.exec = Jvm.exec) (hb : c.code = code) (hml : c.maxLocals = 9) (hr : meth.sig.returnType = ret) (hown : s.vm.findClass RL = some m.cls) (ht : ∀ w ∈ zT, w.before #[Value.ref b] s = true) (hlocks : meth.locks = false) (hX : va_X b L xs s s.heap) (hbl : b < s.heap.size) (hL : L = 6) (hAe : ∀ q : Nat, A q ↔ s.heap.size ≤ q) (hl0 : l.stackTraces = false) (hEx : zEx A s) (hNc : zNc s) {H : Heap} {locs : List Loc} {ls : Array Slot} (hK : va_K D vwCl [(cL, .long), (cI, .int)] s) (hP : va_P D vwCl [((h 0), .inr (11, [.ref (h 1), .ref (h 9), .int 0, .int 0, .ref (h 20), .ref (h 37), .int 0, .ref (h 38), .ref (h 42), .ref (h 43), .ref (h 44), .ref (h 45), .ref (h 46), .ref (h 47), .ref (h 48)])), ((h 1), .inr (8, [.ref (h 2), .int 0, .ref (h 3), .ref (h 4), .int 0, .ref (h 5), .int 0, .ref (h 6), .int 0, .ref (h 7), .int 0])), (o, .inl (cL, 1, .inr (.inl (fun _ => 0)))), ((a 0), .inr (12, zMo a zI0)), ((a 1), .inl (cI, 6792, .inl zI0))] H) (hD : va_D A [((h 0), .inr (11, [.ref (h 1), .ref (h 9), .int 0, .int 0, .ref (h 20), .ref (h 37), .int 0, .ref (h 38), .ref (h 42), .ref (h 43), .ref (h 44), .ref (h 45), .ref (h 46), .ref (h 47), .ref (h 48)])), ((h 1), .inr (8, [.ref (h 2), .int 0, .ref (h 3), .ref (h 4), .int 0, .ref (h 5), .int 0, .ref (h 6), .int 0, .ref (h 7), .int 0])), (o, .inl (cL, 1, .inr (.inl (fun _ => 0)))), ((a 0), .inr (12, zMo a zI0)), ((a 1), .inl (cI, 6792, .inl zI0))]) (hS : va_S A s.heap H locs) (hl : lv_has ls 9 [(0, .ref b), (1, .ref (h 0)), (2, .ref (a 0)), (3, .ref o), (4, .int 0)]) : W p l e room_1 s m #[Value.ref b] below meth c H locs 1192 188302 (lw_Z below #[Value.ref b] s) (F0 m 408 ls []) := by
  have hbA : ¬ A b := fun h => Nat.not_le.mpr hbl ((hAe b).mp h)
  have hA : ∀ q : Nat, s.heap.size ≤ q → A q := fun q h => (hAe q).mpr h
  refine lv_aload_n hx hb dL_law__408 rfl (lv_at hl 1 rfl) ?_
  refine lv_aload_n hx hb dL_law__409 rfl (lv_at hl 0 rfl) ?_
  refine lv_iload hx hb dL_law__410 (lv_at hl 4 rfl) ?_
  refine lv_iconst (v := 1) hx hb dL_law__412 (by decide) ?_
  refine lv_iadd hx hb dL_law__413 ?_
  refine lv_topi (fun x_1 e_1 => ?_)
  obtain rfl : x_1 = 1 := e_1.trans (by decide)
  refine va_sld hx hb hX hbl hbA hS (by rw [hL]; exact vp_in_iff.mpr (by decide)) dL_law__414 ?_
  refine W.eq (g2 := F0 m 415 ls (.int (xs 1) :: .ref (h 0) :: [])) rfl ?_
  refine lv_aload_n hx hb dL_law__415 rfl (lv_at hl 0 rfl) ?_
  refine lv_iload hx hb dL_law__416 (lv_at hl 4 rfl) ?_
  refine lv_iconst (v := 2) hx hb dL_law__418 (by decide) ?_
  refine lv_iadd hx hb dL_law__419 ?_
  refine lv_topi (fun x_2 e_2 => ?_)
  obtain rfl : x_2 = 2 := e_2.trans (by decide)
  refine va_sld hx hb hX hbl hbA hS (by rw [hL]; exact vp_in_iff.mpr (by decide)) dL_law__420 ?_
  refine W.eq (g2 := F0 m 421 ls (.int (xs 2) :: .int (xs 1) :: .ref (h 0) :: [])) rfl ?_
  refine lv_aload_n hx hb dL_law__421 rfl (lv_at hl 0 rfl) ?_
  refine lv_iload hx hb dL_law__422 (lv_at hl 4 rfl) ?_
  refine lv_iconst (v := 3) hx hb dL_law__424 (by decide) ?_
  refine lv_iadd hx hb dL_law__425 ?_
  refine lv_topi (fun x_3 e_3 => ?_)
  obtain rfl : x_3 = 3 := e_3.trans (by decide)
  refine va_sld hx hb hX hbl hbA hS (by rw [hL]; exact vp_in_iff.mpr (by decide)) dL_law__426 ?_
  refine W.eq (g2 := F0 m 427 ls (.int (xs 3) :: .int (xs 2) :: .int (xs 1) :: .ref (h 0) :: [])) rfl ?_
  refine lv_aload_n hx hb dL_law__427 rfl (lv_at hl 0 rfl) ?_
  refine lv_iload hx hb dL_law__428 (lv_at hl 4 rfl) ?_
  refine lv_iconst (v := 4) hx hb dL_law__430 (by decide) ?_
  refine lv_iadd hx hb dL_law__431 ?_
  refine lv_topi (fun x_4 e_4 => ?_)
  obtain rfl : x_4 = 4 := e_4.trans (by decide)
  refine va_sld hx hb hX hbl hbA hS (by rw [hL]; exact vp_in_iff.mpr (by decide)) dL_law__432 ?_
  refine W.eq (g2 := F0 m 433 ls (.int (xs 4) :: .int (xs 3) :: .int (xs 2) :: .int (xs 1) :: .ref (h 0) :: [])) rfl ?_
  refine lv_aload_n hx hb dL_law__433 rfl (lv_at hl 3 rfl) ?_
  have hPc := hP.sub (ws' := [((h 0), .inr (11, [.ref (h 1), .ref (h 9), .int 0, .int 0, .ref (h 20), .ref (h 37), .int 0, .ref (h 38), .ref (h 42), .ref (h 43), .ref (h 44), .ref (h 45), .ref (h 46), .ref (h 47), .ref (h 48)])), ((h 1), .inr (8, [.ref (h 2), .int 0, .ref (h 3), .ref (h 4), .int 0, .ref (h 5), .int 0, .ref (h 6), .int 0, .ref (h 7), .int 0])), (o, .inl (cL, 1, .inr (.inl (fun _ => 0))))]) [0, 1, 2] rfl
  have hDc := hD.sub (ws' := [((h 0), .inr (11, [.ref (h 1), .ref (h 9), .int 0, .int 0, .ref (h 20), .ref (h 37), .int 0, .ref (h 38), .ref (h 42), .ref (h 43), .ref (h 44), .ref (h 45), .ref (h 46), .ref (h 47), .ref (h 48)])), ((h 1), .inr (8, [.ref (h 2), .int 0, .ref (h 3), .ref (h 4), .int 0, .ref (h 5), .int 0, .ref (h 6), .int 0, .ref (h 7), .int 0])), (o, .inl (cL, 1, .inr (.inl (fun _ => 0))))]) [0, 1, 2] (by decide) rfl
  have hKc := hK.sub (tys' := [(cL, .long)]) [0] rfl
  have hFc := va_free (wc := [((h 0), .inr (11, [.ref (h 1), .ref (h 9), .int 0, .int 0, .ref (h 20), .ref (h 37), .int 0, .ref (h 38), .ref (h 42), .ref (h 43), .ref (h 44), .ref (h 45), .ref (h 46), .ref (h 47), .ref (h 48)])), ((h 1), .inr (8, [.ref (h 2), .int 0, .ref (h 3), .ref (h 4), .int 0, .ref (h 5), .int 0, .ref (h 6), .int 0, .ref (h 7), .int 0])), (o, .inl (cL, 1, .inr (.inl (fun _ => 0))))]) hD hS hA [0, 1, 2] rfl
  refine va_calli (vx_runSW (As := [.ref (h 0), .int (xs 1), .int (xs 2), .int (xs 3), .int (xs 4), .ref o]) (rest := []) ⟨hx, hb, hml, hown, ht⟩ (k_L_term l hl0 _ D h cs (xs 1) (xs 2) (xs 3) (xs 4) o cL) (vx_cwSW 6 ht (zG_S zw_790 zw_791 zw_773 zw_792) rfl rfl rfl (by decide +kernel) ⟨Nat.le_of_ble_eq_true rfl, Nat.le_of_ble_eq_true rfl⟩) (zY_S hNc hEx hS hFc hPc hKc hDc) rfl rfl hl.1 rfl (lv_room (Nat.le_of_ble_eq_true rfl)) dL_law__434 ⟨Nat.le_of_ble_eq_true rfl, Nat.le_of_ble_eq_true rfl⟩) hS (fun q _ h => hFc q h) hFc (fun r_5 u_5 t H1 locs ht0 hvm hw_5 hB hz1 hk1 hS => ?_)
  obtain ⟨g_5, hg_5, hB⟩ := hB
  obtain ⟨hP1, hK1, hD1⟩ := hB
  rw [ht0] at hP1
  have hK1 := va_K.moved hvm.symm hK1
  obtain ⟨hP, hD⟩ := va_join (wr := [((a 0), .inr (12, zMo a zI0)), ((a 1), .inl (cI, 6792, .inl zI0))]) (w1 := [(o, .inl (cL, 1, .inr (.inl g_5)))]) hP hD [0, 1, 2] [3, 4] rfl rfl (by decide) (by decide) hk1 hFc hP1 hD1
  generalize H1 = H at hP hS ⊢
  have hP : va_P D vwCl [((a 0), .inr (12, zMo a zI0)), ((a 1), .inl (cI, 6792, .inl zI0)), (o, .inl (cL, 1, .inr (.inl g_5)))] H := hP
  have hD : va_D A [((a 0), .inr (12, zMo a zI0)), ((a 1), .inl (cI, 6792, .inl zI0)), (o, .inl (cL, 1, .inr (.inl g_5)))] := hD
  refine W.widen (k := 1194) (n := 188314) (Nat.le_of_ble_eq_true rfl) (Nat.le_of_ble_eq_true rfl) ?_
  refine lv_istore (lv' := [(5, .int r_5), (0, .ref b), (1, .ref (h 0)), (2, .ref (a 0)), (3, .ref o), (4, .int 0)]) hx hb dL_law__437 hl (by decide) rfl (fun ls hl => ?_)
  refine lv_aload_n hx hb dL_law__439 rfl (lv_at hl 3 rfl) ?_
  refine lv_aload_n hx hb dL_law__440 rfl (lv_at hl 1 rfl) ?_
  refine lv_iload hx hb dL_law__441 (lv_at hl 5 rfl) ?_
  refine lv_iconst (v := 1) hx hb dL_law__443 (by decide) ?_
  refine lv_iadd hx hb dL_law__444 ?_
  refine lv_topi (fun x_6 e_6 => ?_)
  obtain rfl : x_6 = 1 := e_6.trans (by decide)
  refine va_sld hx hb hX hbl hbA hS (by rw [hL]; exact vp_in_iff.mpr (by decide)) dL_law__445 ?_
  refine W.eq (g2 := F0 m 446 ls (.int (xs 1) :: .ref (a 0) :: [])) rfl ?_
  refine lv_aload_n hx hb dL_law__446 rfl (lv_at hl 1 rfl) ?_
  refine lv_iload hx hb dL_law__447 (lv_at hl 5 rfl) ?_
  refine lv_iconst (v := 2) hx hb dL_law__449 (by decide) ?_
  refine lv_iadd hx hb dL_law__450 ?_
  refine lv_topi (fun x_7 e_7 => ?_)
  obtain rfl : x_7 = 2 := e_7.trans (by decide)
  refine va_sld hx hb hX hbl hbA hS (by rw [hL]; exact vp_in_iff.mpr (by decide)) dL_law__451 ?_
  refine W.eq (g2 := F0 m 452 ls (.int (xs 2) :: .int (xs 1) :: .ref (a 0) :: [])) rfl ?_
  refine lv_aload_n hx hb dL_law__452 rfl (lv_at hl 1 rfl) ?_
  refine lv_iload hx hb dL_law__453 (lv_at hl 5 rfl) ?_
  refine lv_iconst (v := 3) hx hb dL_law__455 (by decide) ?_
  refine lv_iadd hx hb dL_law__456 ?_
  refine lv_topi (fun x_8 e_8 => ?_)
  obtain rfl : x_8 = 3 := e_8.trans (by decide)
  refine va_sld hx hb hX hbl hbA hS (by rw [hL]; exact vp_in_iff.mpr (by decide)) dL_law__457 ?_
  refine W.eq (g2 := F0 m 458 ls (.int (xs 3) :: .int (xs 2) :: .int (xs 1) :: .ref (a 0) :: [])) rfl ?_
  refine lv_aload_n hx hb dL_law__458 rfl (lv_at hl 1 rfl) ?_
  refine lv_iload hx hb dL_law__459 (lv_at hl 5 rfl) ?_
  refine lv_iconst (v := 4) hx hb dL_law__461 (by decide) ?_
  refine lv_iadd hx hb dL_law__462 ?_
  refine lv_topi (fun x_9 e_9 => ?_)
  obtain rfl : x_9 = 4 := e_9.trans (by decide)
  refine va_sld hx hb hX hbl hbA hS (by rw [hL]; exact vp_in_iff.mpr (by decide)) dL_law__463 ?_
  refine W.eq (g2 := F0 m 464 ls (.int (xs 4) :: .int (xs 3) :: .int (xs 2) :: .int (xs 1) :: .ref (a 0) :: [])) rfl ?_
  have hPc := hP.sub (ws' := [((a 0), .inr (12, zMo a zI0)), ((a 1), .inl (cI, 6792, .inl zI0))]) [0, 1] rfl
  have hDc := hD.sub (ws' := [((a 0), .inr (12, zMo a zI0)), ((a 1), .inl (cI, 6792, .inl zI0))]) [0, 1] (by decide) rfl
  have hKc := hK.sub (tys' := [(cI, .int)]) [1] rfl
  have hFc := va_free (wc := [((a 0), .inr (12, zMo a zI0)), ((a 1), .inl (cI, 6792, .inl zI0))]) hD hS hA [0, 1] rfl
  refine va_calli (va_runV (As := [.int (xs 1), .int (xs 2), .int (xs 3), .int (xs 4)]) (rest := []) ⟨hx, hb, hml, hown, ht⟩ (k_X12_term l _ D a cI (xs 1) (xs 2) (xs 3) (xs 4)) (cwV 4 ht (zG_V zw_793 zw_794 zw_795 zw_2 zw_796) rfl rfl rfl (by decide +kernel) ⟨Nat.le_of_ble_eq_true rfl, Nat.le_of_ble_eq_true rfl⟩) (zM_V (va_recv hK hP (ci := 12) (q0 := 0) rfl rfl) hPc hKc hDc) rfl rfl hl.1 rfl (lv_room (Nat.le_of_ble_eq_true rfl)) dL_law__464 ⟨Nat.le_of_ble_eq_true rfl, Nat.le_of_ble_eq_true rfl⟩) hS (fun q _ h => hFc q h) hFc (fun r_10 u_10 t H1 locs ht0 hvm hw_10 hB hz1 hk1 hS => ?_)
  obtain ⟨hP1, hK1, hD1⟩ := hB
  rw [ht0] at hP1
  have hK1 := va_K.moved hvm.symm hK1
  obtain ⟨hP, hD⟩ := va_join (wr := [(o, .inl (cL, 1, .inr (.inl g_5)))]) (w1 := [((a 0), .inr (12, zMo a u_10))]) hP hD [0, 1] [2] rfl rfl (by decide) (by decide) hk1 hFc hP1 hD1
  generalize H1 = H at hP hS ⊢
  have hP : va_P D vwCl [(o, .inl (cL, 1, .inr (.inl g_5))), ((a 0), .inr (12, zMo a u_10))] H := hP
  have hD : va_D A [(o, .inl (cL, 1, .inr (.inl g_5))), ((a 0), .inr (12, zMo a u_10))] := hD
  refine lv_istore (lv' := [(6, .int r_10), (5, .int r_5), (0, .ref b), (1, .ref (h 0)), (2, .ref (a 0)), (3, .ref o), (4, .int 0)]) hx hb dL_law__467 hl (by decide) rfl (fun ls hl => ?_)
  refine lv_aload_n hx hb dL_law__469 rfl (lv_at hl 4 rfl) ?_
  refine vp_callSi (va_runV (As := []) (rest := []) ⟨hx, hb, hml, hown, ht⟩ (k_X12_thrown l D a u_10) (cwV 0 ht (zG_V zw_779 zw_780 zw_781 zw_2 zw_782) rfl rfl rfl (by decide +kernel) ⟨Nat.le_of_ble_eq_true rfl, Nat.le_of_ble_eq_true rfl⟩) (zR_V (va_recv hK hP (ci := 12) (q0 := 1) rfl rfl) (hP.sub (ws' := [((a 0), .inr (12, zMo a u_10))]) [1] rfl) (hK.sub (tys' := []) [] rfl)) rfl rfl hl.1 rfl (lv_room (Nat.le_of_ble_eq_true rfl)) dL_law__470 ⟨Nat.le_of_ble_eq_true rfl, Nat.le_of_ble_eq_true rfl⟩).run (fun r_11 hw_11 => ?_)
  refine lv_iload hx hb dL_law__473 (lv_at hl 1 rfl) ?_
  refine lv_icmp_eq (tgt := 480) hx hb dL_law__475 (by decide) (fun c_12 => ?_) (fun c_12 => ?_)
  · skip
    simp only [fa_lt, fa_le, fa_eq, Int32.reduceToInt] at c_12
    refine lv_iload hx hb dL_law__480 (lv_at hl 1 rfl) ?_
    refine lv_if_ne (tgt := 497) hx hb dL_law__482 (by decide) (fun c_13 => ?_) (fun c_13 => ?_)
    · skip
      simp only [fa_lt, fa_le, fa_eq, Int32.reduceToInt] at c_13
      refine lv_goto (tgt := 3433) hx hb dL_law__497 (by decide) ?_
      refine W.widen (k := 2000) (n := 400000) (Nat.le_of_ble_eq_true rfl) (Nat.le_of_ble_eq_true rfl) ?_
      exact zlaw_end hx hb hml hr hown ht hlocks hX hbl hL hAe hS (lv_sub hl [2, 6] rfl)
    · skip
      simp only [fa_lt, fa_le, fa_eq, Int32.reduceToInt] at c_13
      refine lv_aload_n hx hb dL_law__485 rfl (lv_at hl 5 rfl) ?_
      refine lv_iconst (v := 0) hx hb dL_law__486 (by decide) ?_
      refine va_lald hx hb hK hP 0 0 rfl rfl (vp_in_iff.mpr (by decide)) dL_law__487 ?_
      refine W.eq (g2 := F0 m 488 ls (.long (g_5 0) :: [])) rfl ?_
      refine lv_iload hx hb dL_law__488 (lv_at hl 0 rfl) ?_
      refine lv_i2l (v := (r_10).toInt64) hx hb dL_law__490 rfl ?_
      refine W.lcmp hx hb dL_law__491 ?_
      refine lv_if_eq (tgt := 497) hx hb dL_law__492 (by decide) (fun c_14 => ?_) (fun c_14 => ?_)
      · skip
        refine lv_goto (tgt := 3433) hx hb dL_law__497 (by decide) ?_
        refine W.widen (k := 2000) (n := 400000) (Nat.le_of_ble_eq_true rfl) (Nat.le_of_ble_eq_true rfl) ?_
        exact zlaw_end hx hb hml hr hown ht hlocks hX hbl hL hAe hS (lv_sub hl [2, 6] rfl)
      · skip
        simp only [fa_lt, fa_le, fa_eq, Int32.reduceToInt] at c_14
        exfalso; exact c_14 (by rw [hg_5, ← (zF_term hw_10 hw_5).2 ((zF_term hw_10 hw_5).1.trans (Int32.toInt_inj.mp (show r_5.toInt = (0 : Int32).toInt by rw [c_13]; rfl)))]; rw [zcmp_self]; rfl)
  · skip
    simp only [fa_lt, fa_le, fa_eq, Int32.reduceToInt] at c_12
    exfalso; exact c_12 (by rw [hw_11, (zF_term hw_10 hw_5).1])
set_option maxHeartbeats 4000000 in
set_option maxRecDepth 100000 in
theorem zcase_read {p : Program} {l : Launch} {e : Env} {s : State} {m : MethodId} {below : List Frame} {meth : Method} {c : Code} {b L : Nat} {xs : Nat → Int32} {A : Nat → Prop} (D : va_G) (h cs : Nat → Nat) (o : Nat) (cL : ClassId) (a : Nat → Nat) (cI : ClassId) (hx : p.tables.exec = Jvm.exec) (hb : c.code = code) (hml : c.maxLocals = 9) (hr : meth.sig.returnType = ret) (hown : s.vm.findClass RL = some m.cls) (ht : ∀ w ∈ zT, w.before #[Value.ref b] s = true) (hlocks : meth.locks = false) (hX : va_X b L xs s s.heap) (hbl : b < s.heap.size) (hL : L = 6) (hAe : ∀ q : Nat, A q ↔ s.heap.size ≤ q) (hl0 : l.stackTraces = false) (hEx : zEx A s) (hNc : zNc s) {H : Heap} {locs : List Loc} {ls : Array Slot} (hK : va_K D vwCl [(cL, .long), (cI, .int)] s) (hP : va_P D vwCl [((h 0), .inr (11, [.ref (h 1), .ref (h 9), .int 0, .int 0, .ref (h 20), .ref (h 37), .int 0, .ref (h 38), .ref (h 42), .ref (h 43), .ref (h 44), .ref (h 45), .ref (h 46), .ref (h 47), .ref (h 48)])), ((h 1), .inr (8, [.ref (h 2), .int 0, .ref (h 3), .ref (h 4), .int 0, .ref (h 5), .int 0, .ref (h 6), .int 0, .ref (h 7), .int 0])), ((h 38), .inr (10, [.ref (h 39), .int 0, .ref (h 40), .int 0, .ref (h 80), .int 0, .int 0])), (o, .inl (cL, 1, .inr (.inl (fun _ => 0)))), ((a 0), .inr (12, zMo a zI0)), ((a 1), .inl (cI, 6792, .inl zI0)), ((a 10), .inl (cI, 41, .inl zI0))] H) (hD : va_D A [((h 0), .inr (11, [.ref (h 1), .ref (h 9), .int 0, .int 0, .ref (h 20), .ref (h 37), .int 0, .ref (h 38), .ref (h 42), .ref (h 43), .ref (h 44), .ref (h 45), .ref (h 46), .ref (h 47), .ref (h 48)])), ((h 1), .inr (8, [.ref (h 2), .int 0, .ref (h 3), .ref (h 4), .int 0, .ref (h 5), .int 0, .ref (h 6), .int 0, .ref (h 7), .int 0])), ((h 38), .inr (10, [.ref (h 39), .int 0, .ref (h 40), .int 0, .ref (h 80), .int 0, .int 0])), (o, .inl (cL, 1, .inr (.inl (fun _ => 0)))), ((a 0), .inr (12, zMo a zI0)), ((a 1), .inl (cI, 6792, .inl zI0)), ((a 10), .inl (cI, 41, .inl zI0))]) (hS : va_S A s.heap H locs) (hl : lv_has ls 9 [(0, .ref b), (1, .ref (h 0)), (2, .ref (a 0)), (3, .ref o), (4, .int 0)]) : W p l e room_1 s m #[Value.ref b] below meth c H locs 1192 188302 (lw_Z below #[Value.ref b] s) (F0 m 500 ls []) := by
  have hbA : ¬ A b := fun h => Nat.not_le.mpr hbl ((hAe b).mp h)
  have hA : ∀ q : Nat, s.heap.size ≤ q → A q := fun q h => (hAe q).mpr h
  refine lv_aload_n hx hb dL_law__500 rfl (lv_at hl 1 rfl) ?_
  refine lv_aload_n hx hb dL_law__501 rfl (lv_at hl 0 rfl) ?_
  refine lv_iload hx hb dL_law__502 (lv_at hl 4 rfl) ?_
  refine lv_iconst (v := 1) hx hb dL_law__504 (by decide) ?_
  refine lv_iadd hx hb dL_law__505 ?_
  refine lv_topi (fun x_1 e_1 => ?_)
  obtain rfl : x_1 = 1 := e_1.trans (by decide)
  refine va_sld hx hb hX hbl hbA hS (by rw [hL]; exact vp_in_iff.mpr (by decide)) dL_law__506 ?_
  refine W.eq (g2 := F0 m 507 ls (.int (xs 1) :: .ref (h 0) :: [])) rfl ?_
  refine lv_aload_n hx hb dL_law__507 rfl (lv_at hl 3 rfl) ?_
  have hPc := hP.sub (ws' := [((h 0), .inr (11, [.ref (h 1), .ref (h 9), .int 0, .int 0, .ref (h 20), .ref (h 37), .int 0, .ref (h 38), .ref (h 42), .ref (h 43), .ref (h 44), .ref (h 45), .ref (h 46), .ref (h 47), .ref (h 48)])), ((h 1), .inr (8, [.ref (h 2), .int 0, .ref (h 3), .ref (h 4), .int 0, .ref (h 5), .int 0, .ref (h 6), .int 0, .ref (h 7), .int 0])), ((h 38), .inr (10, [.ref (h 39), .int 0, .ref (h 40), .int 0, .ref (h 80), .int 0, .int 0])), (o, .inl (cL, 1, .inr (.inl (fun _ => 0))))]) [0, 1, 2, 3] rfl
  have hDc := hD.sub (ws' := [((h 0), .inr (11, [.ref (h 1), .ref (h 9), .int 0, .int 0, .ref (h 20), .ref (h 37), .int 0, .ref (h 38), .ref (h 42), .ref (h 43), .ref (h 44), .ref (h 45), .ref (h 46), .ref (h 47), .ref (h 48)])), ((h 1), .inr (8, [.ref (h 2), .int 0, .ref (h 3), .ref (h 4), .int 0, .ref (h 5), .int 0, .ref (h 6), .int 0, .ref (h 7), .int 0])), ((h 38), .inr (10, [.ref (h 39), .int 0, .ref (h 40), .int 0, .ref (h 80), .int 0, .int 0])), (o, .inl (cL, 1, .inr (.inl (fun _ => 0))))]) [0, 1, 2, 3] (by decide) rfl
  have hKc := hK.sub (tys' := [(cL, .long)]) [0] rfl
  have hFc := va_free (wc := [((h 0), .inr (11, [.ref (h 1), .ref (h 9), .int 0, .int 0, .ref (h 20), .ref (h 37), .int 0, .ref (h 38), .ref (h 42), .ref (h 43), .ref (h 44), .ref (h 45), .ref (h 46), .ref (h 47), .ref (h 48)])), ((h 1), .inr (8, [.ref (h 2), .int 0, .ref (h 3), .ref (h 4), .int 0, .ref (h 5), .int 0, .ref (h 6), .int 0, .ref (h 7), .int 0])), ((h 38), .inr (10, [.ref (h 39), .int 0, .ref (h 40), .int 0, .ref (h 80), .int 0, .int 0])), (o, .inl (cL, 1, .inr (.inl (fun _ => 0))))]) hD hS hA [0, 1, 2, 3] rfl
  refine va_calli (vx_runSW (As := [.ref (h 0), .int (xs 1), .ref o]) (rest := []) ⟨hx, hb, hml, hown, ht⟩ (k_L_read l hl0 _ D h cs (xs 1) o cL) (vx_cwSW 3 ht (zG_S zw_797 zw_798 zw_773 zw_799) rfl rfl rfl (by decide +kernel) ⟨Nat.le_of_ble_eq_true rfl, Nat.le_of_ble_eq_true rfl⟩) (zY_S hNc hEx hS hFc hPc hKc hDc) rfl rfl hl.1 rfl (lv_room (Nat.le_of_ble_eq_true rfl)) dL_law__508 ⟨Nat.le_of_ble_eq_true rfl, Nat.le_of_ble_eq_true rfl⟩) hS (fun q _ h => hFc q h) hFc (fun r_2 u_2 t H1 locs ht0 hvm hw_2 hB hz1 hk1 hS => ?_)
  obtain ⟨g_2, hg_2, hB⟩ := hB
  obtain ⟨hP1, hK1, hD1⟩ := hB
  rw [ht0] at hP1
  have hK1 := va_K.moved hvm.symm hK1
  obtain ⟨hP, hD⟩ := va_join (wr := [((a 0), .inr (12, zMo a zI0)), ((a 1), .inl (cI, 6792, .inl zI0)), ((a 10), .inl (cI, 41, .inl zI0))]) (w1 := [(o, .inl (cL, 1, .inr (.inl g_2)))]) hP hD [0, 1, 2, 3] [4, 5, 6] rfl rfl (by decide) (by decide) hk1 hFc hP1 hD1
  generalize H1 = H at hP hS ⊢
  have hP : va_P D vwCl [((a 0), .inr (12, zMo a zI0)), ((a 1), .inl (cI, 6792, .inl zI0)), ((a 10), .inl (cI, 41, .inl zI0)), (o, .inl (cL, 1, .inr (.inl g_2)))] H := hP
  have hD : va_D A [((a 0), .inr (12, zMo a zI0)), ((a 1), .inl (cI, 6792, .inl zI0)), ((a 10), .inl (cI, 41, .inl zI0)), (o, .inl (cL, 1, .inr (.inl g_2)))] := hD
  refine W.widen (k := 1194) (n := 188314) (Nat.le_of_ble_eq_true rfl) (Nat.le_of_ble_eq_true rfl) ?_
  refine lv_istore (lv' := [(5, .int r_2), (0, .ref b), (1, .ref (h 0)), (2, .ref (a 0)), (3, .ref o), (4, .int 0)]) hx hb dL_law__511 hl (by decide) rfl (fun ls hl => ?_)
  refine lv_aload_n hx hb dL_law__513 rfl (lv_at hl 3 rfl) ?_
  refine lv_aload_n hx hb dL_law__514 rfl (lv_at hl 1 rfl) ?_
  refine lv_iload hx hb dL_law__515 (lv_at hl 5 rfl) ?_
  refine lv_iconst (v := 1) hx hb dL_law__517 (by decide) ?_
  refine lv_iadd hx hb dL_law__518 ?_
  refine lv_topi (fun x_3 e_3 => ?_)
  obtain rfl : x_3 = 1 := e_3.trans (by decide)
  refine va_sld hx hb hX hbl hbA hS (by rw [hL]; exact vp_in_iff.mpr (by decide)) dL_law__519 ?_
  refine W.eq (g2 := F0 m 520 ls (.int (xs 1) :: .ref (a 0) :: [])) rfl ?_
  have hPc := hP.sub (ws' := [((a 0), .inr (12, zMo a zI0)), ((a 1), .inl (cI, 6792, .inl zI0)), ((a 10), .inl (cI, 41, .inl zI0))]) [0, 1, 2] rfl
  have hDc := hD.sub (ws' := [((a 0), .inr (12, zMo a zI0)), ((a 1), .inl (cI, 6792, .inl zI0)), ((a 10), .inl (cI, 41, .inl zI0))]) [0, 1, 2] (by decide) rfl
  have hKc := hK.sub (tys' := [(cI, .int)]) [1] rfl
  have hFc := va_free (wc := [((a 0), .inr (12, zMo a zI0)), ((a 1), .inl (cI, 6792, .inl zI0)), ((a 10), .inl (cI, 41, .inl zI0))]) hD hS hA [0, 1, 2] rfl
  refine va_calli (va_runV (As := [.int (xs 1)]) (rest := []) ⟨hx, hb, hml, hown, ht⟩ (k_X12_read l _ D a cI (xs 1)) (cwV 1 ht (zG_V zw_800 zw_801 zw_802 zw_2 zw_803) rfl rfl rfl (by decide +kernel) ⟨Nat.le_of_ble_eq_true rfl, Nat.le_of_ble_eq_true rfl⟩) (zM_V (va_recv hK hP (ci := 12) (q0 := 0) rfl rfl) hPc hKc hDc) rfl rfl hl.1 rfl (lv_room (Nat.le_of_ble_eq_true rfl)) dL_law__520 ⟨Nat.le_of_ble_eq_true rfl, Nat.le_of_ble_eq_true rfl⟩) hS (fun q _ h => hFc q h) hFc (fun r_4 u_4 t H1 locs ht0 hvm hw_4 hB hz1 hk1 hS => ?_)
  obtain ⟨hP1, hK1, hD1⟩ := hB
  rw [ht0] at hP1
  have hK1 := va_K.moved hvm.symm hK1
  obtain ⟨hP, hD⟩ := va_join (wr := [(o, .inl (cL, 1, .inr (.inl g_2)))]) (w1 := [((a 0), .inr (12, zMo a u_4))]) hP hD [0, 1, 2] [3] rfl rfl (by decide) (by decide) hk1 hFc hP1 hD1
  generalize H1 = H at hP hS ⊢
  have hP : va_P D vwCl [(o, .inl (cL, 1, .inr (.inl g_2))), ((a 0), .inr (12, zMo a u_4))] H := hP
  have hD : va_D A [(o, .inl (cL, 1, .inr (.inl g_2))), ((a 0), .inr (12, zMo a u_4))] := hD
  refine lv_istore (lv' := [(6, .int r_4), (5, .int r_2), (0, .ref b), (1, .ref (h 0)), (2, .ref (a 0)), (3, .ref o), (4, .int 0)]) hx hb dL_law__523 hl (by decide) rfl (fun ls hl => ?_)
  refine lv_aload_n hx hb dL_law__525 rfl (lv_at hl 4 rfl) ?_
  refine vp_callSi (va_runV (As := []) (rest := []) ⟨hx, hb, hml, hown, ht⟩ (k_X12_thrown l D a u_4) (cwV 0 ht (zG_V zw_779 zw_780 zw_781 zw_2 zw_782) rfl rfl rfl (by decide +kernel) ⟨Nat.le_of_ble_eq_true rfl, Nat.le_of_ble_eq_true rfl⟩) (zR_V (va_recv hK hP (ci := 12) (q0 := 1) rfl rfl) (hP.sub (ws' := [((a 0), .inr (12, zMo a u_4))]) [1] rfl) (hK.sub (tys' := []) [] rfl)) rfl rfl hl.1 rfl (lv_room (Nat.le_of_ble_eq_true rfl)) dL_law__526 ⟨Nat.le_of_ble_eq_true rfl, Nat.le_of_ble_eq_true rfl⟩).run (fun r_5 hw_5 => ?_)
  refine lv_iload hx hb dL_law__529 (lv_at hl 1 rfl) ?_
  refine lv_icmp_eq (tgt := 536) hx hb dL_law__531 (by decide) (fun c_6 => ?_) (fun c_6 => ?_)
  · skip
    simp only [fa_lt, fa_le, fa_eq, Int32.reduceToInt] at c_6
    refine lv_iload hx hb dL_law__536 (lv_at hl 1 rfl) ?_
    refine lv_if_ne (tgt := 553) hx hb dL_law__538 (by decide) (fun c_7 => ?_) (fun c_7 => ?_)
    · skip
      simp only [fa_lt, fa_le, fa_eq, Int32.reduceToInt] at c_7
      refine lv_goto (tgt := 3433) hx hb dL_law__553 (by decide) ?_
      refine W.widen (k := 2000) (n := 400000) (Nat.le_of_ble_eq_true rfl) (Nat.le_of_ble_eq_true rfl) ?_
      exact zlaw_end hx hb hml hr hown ht hlocks hX hbl hL hAe hS (lv_sub hl [2, 6] rfl)
    · skip
      simp only [fa_lt, fa_le, fa_eq, Int32.reduceToInt] at c_7
      refine lv_aload_n hx hb dL_law__541 rfl (lv_at hl 5 rfl) ?_
      refine lv_iconst (v := 0) hx hb dL_law__542 (by decide) ?_
      refine va_lald hx hb hK hP 0 0 rfl rfl (vp_in_iff.mpr (by decide)) dL_law__543 ?_
      refine W.eq (g2 := F0 m 544 ls (.long (g_2 0) :: [])) rfl ?_
      refine lv_iload hx hb dL_law__544 (lv_at hl 0 rfl) ?_
      refine lv_i2l (v := (r_4).toInt64) hx hb dL_law__546 rfl ?_
      refine W.lcmp hx hb dL_law__547 ?_
      refine lv_if_eq (tgt := 553) hx hb dL_law__548 (by decide) (fun c_8 => ?_) (fun c_8 => ?_)
      · skip
        refine lv_goto (tgt := 3433) hx hb dL_law__553 (by decide) ?_
        refine W.widen (k := 2000) (n := 400000) (Nat.le_of_ble_eq_true rfl) (Nat.le_of_ble_eq_true rfl) ?_
        exact zlaw_end hx hb hml hr hown ht hlocks hX hbl hL hAe hS (lv_sub hl [2, 6] rfl)
      · skip
        simp only [fa_lt, fa_le, fa_eq, Int32.reduceToInt] at c_8
        exfalso; exact c_8 (by rw [hg_2, ← (zF_read hw_4 hw_2).2 ((zF_read hw_4 hw_2).1.trans (Int32.toInt_inj.mp (show r_2.toInt = (0 : Int32).toInt by rw [c_7]; rfl)))]; rw [zcmp_self]; rfl)
  · skip
    simp only [fa_lt, fa_le, fa_eq, Int32.reduceToInt] at c_6
    exfalso; exact c_6 (by rw [hw_5, (zF_read hw_4 hw_2).1])
set_option maxHeartbeats 4000000 in
set_option maxRecDepth 100000 in
theorem zcase_law {p : Program} {l : Launch} {e : Env} {s : State} {m : MethodId} {below : List Frame} {meth : Method} {c : Code} {b L : Nat} {xs : Nat → Int32} {A : Nat → Prop} (D : va_G) (h cs : Nat → Nat) (o : Nat) (cL : ClassId) (a : Nat → Nat) (cI : ClassId) (hx : p.tables.exec = Jvm.exec) (hb : c.code = code) (hml : c.maxLocals = 9) (hr : meth.sig.returnType = ret) (hown : s.vm.findClass RL = some m.cls) (ht : ∀ w ∈ zT, w.before #[Value.ref b] s = true) (hlocks : meth.locks = false) (hX : va_X b L xs s s.heap) (hbl : b < s.heap.size) (hL : L = 6) (hAe : ∀ q : Nat, A q ↔ s.heap.size ≤ q) (hl0 : l.stackTraces = false) (hEx : zEx A s) (hNc : zNc s) {H : Heap} {locs : List Loc} {ls : Array Slot} (hK : va_K D vwCl [((cs 9), .object RX9), (cL, .long), (cI, .int)] s) (hP : va_P D vwCl [((h 0), .inr (11, [.ref (h 1), .ref (h 9), .int 0, .int 0, .ref (h 20), .ref (h 37), .int 0, .ref (h 38), .ref (h 42), .ref (h 43), .ref (h 44), .ref (h 45), .ref (h 46), .ref (h 47), .ref (h 48)])), ((h 1), .inr (8, [.ref (h 2), .int 0, .ref (h 3), .ref (h 4), .int 0, .ref (h 5), .int 0, .ref (h 6), .int 0, .ref (h 7), .int 0])), ((h 3), .inl ((cs 9), 10, .inr (.inr (.inr (.inr (fun _ => none)))))), (o, .inl (cL, 1, .inr (.inl (fun _ => 0)))), ((a 0), .inr (12, zMo a zI0)), ((a 1), .inl (cI, 6792, .inl zI0))] H) (hD : va_D A [((h 0), .inr (11, [.ref (h 1), .ref (h 9), .int 0, .int 0, .ref (h 20), .ref (h 37), .int 0, .ref (h 38), .ref (h 42), .ref (h 43), .ref (h 44), .ref (h 45), .ref (h 46), .ref (h 47), .ref (h 48)])), ((h 1), .inr (8, [.ref (h 2), .int 0, .ref (h 3), .ref (h 4), .int 0, .ref (h 5), .int 0, .ref (h 6), .int 0, .ref (h 7), .int 0])), ((h 3), .inl ((cs 9), 10, .inr (.inr (.inr (.inr (fun _ => none)))))), (o, .inl (cL, 1, .inr (.inl (fun _ => 0)))), ((a 0), .inr (12, zMo a zI0)), ((a 1), .inl (cI, 6792, .inl zI0))]) (hS : va_S A s.heap H locs) (hl : lv_has ls 9 [(0, .ref b), (1, .ref (h 0)), (2, .ref (a 0)), (3, .ref o), (4, .int 0)]) : W p l e room_1 s m #[Value.ref b] below meth c H locs 1192 188302 (lw_Z below #[Value.ref b] s) (F0 m 636 ls []) := by
  have hbA : ¬ A b := fun h => Nat.not_le.mpr hbl ((hAe b).mp h)
  have hA : ∀ q : Nat, s.heap.size ≤ q → A q := fun q h => (hAe q).mpr h
  refine lv_aload_n hx hb dL_law__636 rfl (lv_at hl 1 rfl) ?_
  refine lv_aload_n hx hb dL_law__637 rfl (lv_at hl 0 rfl) ?_
  refine lv_iload hx hb dL_law__638 (lv_at hl 4 rfl) ?_
  refine lv_iconst (v := 1) hx hb dL_law__640 (by decide) ?_
  refine lv_iadd hx hb dL_law__641 ?_
  refine lv_topi (fun x_1 e_1 => ?_)
  obtain rfl : x_1 = 1 := e_1.trans (by decide)
  refine va_sld hx hb hX hbl hbA hS (by rw [hL]; exact vp_in_iff.mpr (by decide)) dL_law__642 ?_
  refine W.eq (g2 := F0 m 643 ls (.int (xs 1) :: .ref (h 0) :: [])) rfl ?_
  refine lv_aload_n hx hb dL_law__643 rfl (lv_at hl 0 rfl) ?_
  refine lv_iload hx hb dL_law__644 (lv_at hl 4 rfl) ?_
  refine lv_iconst (v := 2) hx hb dL_law__646 (by decide) ?_
  refine lv_iadd hx hb dL_law__647 ?_
  refine lv_topi (fun x_2 e_2 => ?_)
  obtain rfl : x_2 = 2 := e_2.trans (by decide)
  refine va_sld hx hb hX hbl hbA hS (by rw [hL]; exact vp_in_iff.mpr (by decide)) dL_law__648 ?_
  refine W.eq (g2 := F0 m 649 ls (.int (xs 2) :: .int (xs 1) :: .ref (h 0) :: [])) rfl ?_
  refine lv_aload_n hx hb dL_law__649 rfl (lv_at hl 0 rfl) ?_
  refine lv_iload hx hb dL_law__650 (lv_at hl 4 rfl) ?_
  refine lv_iconst (v := 3) hx hb dL_law__652 (by decide) ?_
  refine lv_iadd hx hb dL_law__653 ?_
  refine lv_topi (fun x_3 e_3 => ?_)
  obtain rfl : x_3 = 3 := e_3.trans (by decide)
  refine va_sld hx hb hX hbl hbA hS (by rw [hL]; exact vp_in_iff.mpr (by decide)) dL_law__654 ?_
  refine W.eq (g2 := F0 m 655 ls (.int (xs 3) :: .int (xs 2) :: .int (xs 1) :: .ref (h 0) :: [])) rfl ?_
  refine lv_aload_n hx hb dL_law__655 rfl (lv_at hl 0 rfl) ?_
  refine lv_iload hx hb dL_law__656 (lv_at hl 4 rfl) ?_
  refine lv_iconst (v := 4) hx hb dL_law__658 (by decide) ?_
  refine lv_iadd hx hb dL_law__659 ?_
  refine lv_topi (fun x_4 e_4 => ?_)
  obtain rfl : x_4 = 4 := e_4.trans (by decide)
  refine va_sld hx hb hX hbl hbA hS (by rw [hL]; exact vp_in_iff.mpr (by decide)) dL_law__660 ?_
  refine W.eq (g2 := F0 m 661 ls (.int (xs 4) :: .int (xs 3) :: .int (xs 2) :: .int (xs 1) :: .ref (h 0) :: [])) rfl ?_
  refine lv_aload_n hx hb dL_law__661 rfl (lv_at hl 3 rfl) ?_
  have hPc := hP.sub (ws' := [((h 0), .inr (11, [.ref (h 1), .ref (h 9), .int 0, .int 0, .ref (h 20), .ref (h 37), .int 0, .ref (h 38), .ref (h 42), .ref (h 43), .ref (h 44), .ref (h 45), .ref (h 46), .ref (h 47), .ref (h 48)])), ((h 1), .inr (8, [.ref (h 2), .int 0, .ref (h 3), .ref (h 4), .int 0, .ref (h 5), .int 0, .ref (h 6), .int 0, .ref (h 7), .int 0])), ((h 3), .inl ((cs 9), 10, .inr (.inr (.inr (.inr (fun _ => none)))))), (o, .inl (cL, 1, .inr (.inl (fun _ => 0))))]) [0, 1, 2, 3] rfl
  have hDc := hD.sub (ws' := [((h 0), .inr (11, [.ref (h 1), .ref (h 9), .int 0, .int 0, .ref (h 20), .ref (h 37), .int 0, .ref (h 38), .ref (h 42), .ref (h 43), .ref (h 44), .ref (h 45), .ref (h 46), .ref (h 47), .ref (h 48)])), ((h 1), .inr (8, [.ref (h 2), .int 0, .ref (h 3), .ref (h 4), .int 0, .ref (h 5), .int 0, .ref (h 6), .int 0, .ref (h 7), .int 0])), ((h 3), .inl ((cs 9), 10, .inr (.inr (.inr (.inr (fun _ => none)))))), (o, .inl (cL, 1, .inr (.inl (fun _ => 0))))]) [0, 1, 2, 3] (by decide) rfl
  have hKc := hK.sub (tys' := [((cs 9), .object RX9), (cL, .long)]) [0, 1] rfl
  have hFc := va_free (wc := [((h 0), .inr (11, [.ref (h 1), .ref (h 9), .int 0, .int 0, .ref (h 20), .ref (h 37), .int 0, .ref (h 38), .ref (h 42), .ref (h 43), .ref (h 44), .ref (h 45), .ref (h 46), .ref (h 47), .ref (h 48)])), ((h 1), .inr (8, [.ref (h 2), .int 0, .ref (h 3), .ref (h 4), .int 0, .ref (h 5), .int 0, .ref (h 6), .int 0, .ref (h 7), .int 0])), ((h 3), .inl ((cs 9), 10, .inr (.inr (.inr (.inr (fun _ => none)))))), (o, .inl (cL, 1, .inr (.inl (fun _ => 0))))]) hD hS hA [0, 1, 2, 3] rfl
  refine va_calli (vx_runSW (As := [.ref (h 0), .int (xs 1), .int (xs 2), .int (xs 3), .int (xs 4), .ref o]) (rest := []) ⟨hx, hb, hml, hown, ht⟩ (k_L_law l hl0 _ D h cs (xs 1) (xs 2) (xs 3) (xs 4) o cL) (vx_cwSW 6 ht (zG_S zw_804 zw_805 zw_773 zw_806) rfl rfl rfl (by decide +kernel) ⟨Nat.le_of_ble_eq_true rfl, Nat.le_of_ble_eq_true rfl⟩) (zY_S hNc hEx hS hFc hPc hKc hDc) rfl rfl hl.1 rfl (lv_room (Nat.le_of_ble_eq_true rfl)) dL_law__662 ⟨Nat.le_of_ble_eq_true rfl, Nat.le_of_ble_eq_true rfl⟩) hS (fun q _ h => hFc q h) hFc (fun r_5 u_5 t H1 locs ht0 hvm hw_5 hB hz1 hk1 hS => ?_)
  obtain ⟨g_5, hg_5, hB⟩ := hB
  obtain ⟨hP1, hK1, hD1⟩ := hB
  rw [ht0] at hP1
  have hK1 := va_K.moved hvm.symm hK1
  obtain ⟨hP, hD⟩ := va_join (wr := [((a 0), .inr (12, zMo a zI0)), ((a 1), .inl (cI, 6792, .inl zI0))]) (w1 := [(o, .inl (cL, 1, .inr (.inl g_5)))]) hP hD [0, 1, 2, 3] [4, 5] rfl rfl (by decide) (by decide) hk1 hFc hP1 hD1
  generalize H1 = H at hP hS ⊢
  have hP : va_P D vwCl [((a 0), .inr (12, zMo a zI0)), ((a 1), .inl (cI, 6792, .inl zI0)), (o, .inl (cL, 1, .inr (.inl g_5)))] H := hP
  have hD : va_D A [((a 0), .inr (12, zMo a zI0)), ((a 1), .inl (cI, 6792, .inl zI0)), (o, .inl (cL, 1, .inr (.inl g_5)))] := hD
  refine W.widen (k := 1198) (n := 188341) (Nat.le_of_ble_eq_true rfl) (Nat.le_of_ble_eq_true rfl) ?_
  refine lv_istore (lv' := [(5, .int r_5), (0, .ref b), (1, .ref (h 0)), (2, .ref (a 0)), (3, .ref o), (4, .int 0)]) hx hb dL_law__665 hl (by decide) rfl (fun ls hl => ?_)
  refine lv_aload_n hx hb dL_law__667 rfl (lv_at hl 3 rfl) ?_
  refine lv_aload_n hx hb dL_law__668 rfl (lv_at hl 1 rfl) ?_
  refine lv_iload hx hb dL_law__669 (lv_at hl 5 rfl) ?_
  refine lv_iconst (v := 1) hx hb dL_law__671 (by decide) ?_
  refine lv_iadd hx hb dL_law__672 ?_
  refine lv_topi (fun x_6 e_6 => ?_)
  obtain rfl : x_6 = 1 := e_6.trans (by decide)
  refine va_sld hx hb hX hbl hbA hS (by rw [hL]; exact vp_in_iff.mpr (by decide)) dL_law__673 ?_
  refine W.eq (g2 := F0 m 674 ls (.int (xs 1) :: .ref (a 0) :: [])) rfl ?_
  refine lv_aload_n hx hb dL_law__674 rfl (lv_at hl 1 rfl) ?_
  refine lv_iload hx hb dL_law__675 (lv_at hl 5 rfl) ?_
  refine lv_iconst (v := 2) hx hb dL_law__677 (by decide) ?_
  refine lv_iadd hx hb dL_law__678 ?_
  refine lv_topi (fun x_7 e_7 => ?_)
  obtain rfl : x_7 = 2 := e_7.trans (by decide)
  refine va_sld hx hb hX hbl hbA hS (by rw [hL]; exact vp_in_iff.mpr (by decide)) dL_law__679 ?_
  refine W.eq (g2 := F0 m 680 ls (.int (xs 2) :: .int (xs 1) :: .ref (a 0) :: [])) rfl ?_
  refine lv_aload_n hx hb dL_law__680 rfl (lv_at hl 1 rfl) ?_
  refine lv_iload hx hb dL_law__681 (lv_at hl 5 rfl) ?_
  refine lv_iconst (v := 3) hx hb dL_law__683 (by decide) ?_
  refine lv_iadd hx hb dL_law__684 ?_
  refine lv_topi (fun x_8 e_8 => ?_)
  obtain rfl : x_8 = 3 := e_8.trans (by decide)
  refine va_sld hx hb hX hbl hbA hS (by rw [hL]; exact vp_in_iff.mpr (by decide)) dL_law__685 ?_
  refine W.eq (g2 := F0 m 686 ls (.int (xs 3) :: .int (xs 2) :: .int (xs 1) :: .ref (a 0) :: [])) rfl ?_
  refine lv_aload_n hx hb dL_law__686 rfl (lv_at hl 1 rfl) ?_
  refine lv_iload hx hb dL_law__687 (lv_at hl 5 rfl) ?_
  refine lv_iconst (v := 4) hx hb dL_law__689 (by decide) ?_
  refine lv_iadd hx hb dL_law__690 ?_
  refine lv_topi (fun x_9 e_9 => ?_)
  obtain rfl : x_9 = 4 := e_9.trans (by decide)
  refine va_sld hx hb hX hbl hbA hS (by rw [hL]; exact vp_in_iff.mpr (by decide)) dL_law__691 ?_
  refine W.eq (g2 := F0 m 692 ls (.int (xs 4) :: .int (xs 3) :: .int (xs 2) :: .int (xs 1) :: .ref (a 0) :: [])) rfl ?_
  have hPc := hP.sub (ws' := [((a 0), .inr (12, zMo a zI0)), ((a 1), .inl (cI, 6792, .inl zI0))]) [0, 1] rfl
  have hDc := hD.sub (ws' := [((a 0), .inr (12, zMo a zI0)), ((a 1), .inl (cI, 6792, .inl zI0))]) [0, 1] (by decide) rfl
  have hKc := hK.sub (tys' := [(cI, .int)]) [2] rfl
  have hFc := va_free (wc := [((a 0), .inr (12, zMo a zI0)), ((a 1), .inl (cI, 6792, .inl zI0))]) hD hS hA [0, 1] rfl
  refine va_calli (va_runV (As := [.int (xs 1), .int (xs 2), .int (xs 3), .int (xs 4)]) (rest := []) ⟨hx, hb, hml, hown, ht⟩ (k_X12_law l _ D a cI (xs 1) (xs 2) (xs 3) (xs 4)) (cwV 4 ht (zG_V zw_807 zw_808 zw_809 zw_2 zw_810) rfl rfl rfl (by decide +kernel) ⟨Nat.le_of_ble_eq_true rfl, Nat.le_of_ble_eq_true rfl⟩) (zM_V (va_recv hK hP (ci := 12) (q0 := 0) rfl rfl) hPc hKc hDc) rfl rfl hl.1 rfl (lv_room (Nat.le_of_ble_eq_true rfl)) dL_law__692 ⟨Nat.le_of_ble_eq_true rfl, Nat.le_of_ble_eq_true rfl⟩) hS (fun q _ h => hFc q h) hFc (fun r_10 u_10 t H1 locs ht0 hvm hw_10 hB hz1 hk1 hS => ?_)
  obtain ⟨hP1, hK1, hD1⟩ := hB
  rw [ht0] at hP1
  have hK1 := va_K.moved hvm.symm hK1
  obtain ⟨hP, hD⟩ := va_join (wr := [(o, .inl (cL, 1, .inr (.inl g_5)))]) (w1 := [((a 0), .inr (12, zMo a u_10))]) hP hD [0, 1] [2] rfl rfl (by decide) (by decide) hk1 hFc hP1 hD1
  generalize H1 = H at hP hS ⊢
  have hP : va_P D vwCl [(o, .inl (cL, 1, .inr (.inl g_5))), ((a 0), .inr (12, zMo a u_10))] H := hP
  have hD : va_D A [(o, .inl (cL, 1, .inr (.inl g_5))), ((a 0), .inr (12, zMo a u_10))] := hD
  refine lv_istore (lv' := [(6, .int r_10), (5, .int r_5), (0, .ref b), (1, .ref (h 0)), (2, .ref (a 0)), (3, .ref o), (4, .int 0)]) hx hb dL_law__695 hl (by decide) rfl (fun ls hl => ?_)
  refine lv_aload_n hx hb dL_law__697 rfl (lv_at hl 4 rfl) ?_
  refine vp_callSi (va_runV (As := []) (rest := []) ⟨hx, hb, hml, hown, ht⟩ (k_X12_thrown l D a u_10) (cwV 0 ht (zG_V zw_779 zw_780 zw_781 zw_2 zw_782) rfl rfl rfl (by decide +kernel) ⟨Nat.le_of_ble_eq_true rfl, Nat.le_of_ble_eq_true rfl⟩) (zR_V (va_recv hK hP (ci := 12) (q0 := 1) rfl rfl) (hP.sub (ws' := [((a 0), .inr (12, zMo a u_10))]) [1] rfl) (hK.sub (tys' := []) [] rfl)) rfl rfl hl.1 rfl (lv_room (Nat.le_of_ble_eq_true rfl)) dL_law__698 ⟨Nat.le_of_ble_eq_true rfl, Nat.le_of_ble_eq_true rfl⟩).run (fun r_11 hw_11 => ?_)
  refine lv_iload hx hb dL_law__701 (lv_at hl 1 rfl) ?_
  refine lv_icmp_eq (tgt := 708) hx hb dL_law__703 (by decide) (fun c_12 => ?_) (fun c_12 => ?_)
  · skip
    simp only [fa_lt, fa_le, fa_eq, Int32.reduceToInt] at c_12
    refine lv_iload hx hb dL_law__708 (lv_at hl 1 rfl) ?_
    refine lv_if_ne (tgt := 725) hx hb dL_law__710 (by decide) (fun c_13 => ?_) (fun c_13 => ?_)
    · skip
      simp only [fa_lt, fa_le, fa_eq, Int32.reduceToInt] at c_13
      refine lv_goto (tgt := 3433) hx hb dL_law__725 (by decide) ?_
      refine W.widen (k := 2000) (n := 400000) (Nat.le_of_ble_eq_true rfl) (Nat.le_of_ble_eq_true rfl) ?_
      exact zlaw_end hx hb hml hr hown ht hlocks hX hbl hL hAe hS (lv_sub hl [2, 6] rfl)
    · skip
      simp only [fa_lt, fa_le, fa_eq, Int32.reduceToInt] at c_13
      refine lv_aload_n hx hb dL_law__713 rfl (lv_at hl 5 rfl) ?_
      refine lv_iconst (v := 0) hx hb dL_law__714 (by decide) ?_
      refine va_lald hx hb hK hP 0 1 rfl rfl (vp_in_iff.mpr (by decide)) dL_law__715 ?_
      refine W.eq (g2 := F0 m 716 ls (.long (g_5 0) :: [])) rfl ?_
      refine lv_iload hx hb dL_law__716 (lv_at hl 0 rfl) ?_
      refine lv_i2l (v := (r_10).toInt64) hx hb dL_law__718 rfl ?_
      refine W.lcmp hx hb dL_law__719 ?_
      refine lv_if_eq (tgt := 725) hx hb dL_law__720 (by decide) (fun c_14 => ?_) (fun c_14 => ?_)
      · skip
        refine lv_goto (tgt := 3433) hx hb dL_law__725 (by decide) ?_
        refine W.widen (k := 2000) (n := 400000) (Nat.le_of_ble_eq_true rfl) (Nat.le_of_ble_eq_true rfl) ?_
        exact zlaw_end hx hb hml hr hown ht hlocks hX hbl hL hAe hS (lv_sub hl [2, 6] rfl)
      · skip
        simp only [fa_lt, fa_le, fa_eq, Int32.reduceToInt] at c_14
        exfalso; exact c_14 (by rw [hg_5, ← (zF_law hw_10 hw_5).2 ((zF_law hw_10 hw_5).1.trans (Int32.toInt_inj.mp (show r_5.toInt = (0 : Int32).toInt by rw [c_13]; rfl)))]; rw [zcmp_self]; rfl)
  · skip
    simp only [fa_lt, fa_le, fa_eq, Int32.reduceToInt] at c_12
    exfalso; exact c_12 (by rw [hw_11, (zF_law hw_10 hw_5).1])
set_option maxHeartbeats 4000000 in
set_option maxRecDepth 100000 in
theorem zcase_condition {p : Program} {l : Launch} {e : Env} {s : State} {m : MethodId} {below : List Frame} {meth : Method} {c : Code} {b L : Nat} {xs : Nat → Int32} {A : Nat → Prop} (D : va_G) (h cs : Nat → Nat) (o : Nat) (cL : ClassId) (a : Nat → Nat) (cI : ClassId) (hx : p.tables.exec = Jvm.exec) (hb : c.code = code) (hml : c.maxLocals = 9) (hr : meth.sig.returnType = ret) (hown : s.vm.findClass RL = some m.cls) (ht : ∀ w ∈ zT, w.before #[Value.ref b] s = true) (hlocks : meth.locks = false) (hX : va_X b L xs s s.heap) (hbl : b < s.heap.size) (hL : L = 6) (hAe : ∀ q : Nat, A q ↔ s.heap.size ≤ q) (hl0 : l.stackTraces = false) (hEx : zEx A s) (hNc : zNc s) {H : Heap} {locs : List Loc} {ls : Array Slot} (hK : va_K D vwCl [((cs 4), .object RX4), (cL, .long), (cI, .int)] s) (hP : va_P D vwCl [((h 0), .inr (11, [.ref (h 1), .ref (h 9), .int 0, .int 0, .ref (h 20), .ref (h 37), .int 0, .ref (h 38), .ref (h 42), .ref (h 43), .ref (h 44), .ref (h 45), .ref (h 46), .ref (h 47), .ref (h 48)])), ((h 1), .inr (8, [.ref (h 2), .int 0, .ref (h 3), .ref (h 4), .int 0, .ref (h 5), .int 0, .ref (h 6), .int 0, .ref (h 7), .int 0])), ((h 4), .inl ((cs 4), 100, .inr (.inr (.inr (.inr (fun _ => none)))))), (o, .inl (cL, 1, .inr (.inl (fun _ => 0)))), ((a 0), .inr (12, zMo a zI0)), ((a 1), .inl (cI, 6792, .inl zI0))] H) (hD : va_D A [((h 0), .inr (11, [.ref (h 1), .ref (h 9), .int 0, .int 0, .ref (h 20), .ref (h 37), .int 0, .ref (h 38), .ref (h 42), .ref (h 43), .ref (h 44), .ref (h 45), .ref (h 46), .ref (h 47), .ref (h 48)])), ((h 1), .inr (8, [.ref (h 2), .int 0, .ref (h 3), .ref (h 4), .int 0, .ref (h 5), .int 0, .ref (h 6), .int 0, .ref (h 7), .int 0])), ((h 4), .inl ((cs 4), 100, .inr (.inr (.inr (.inr (fun _ => none)))))), (o, .inl (cL, 1, .inr (.inl (fun _ => 0)))), ((a 0), .inr (12, zMo a zI0)), ((a 1), .inl (cI, 6792, .inl zI0))]) (hS : va_S A s.heap H locs) (hl : lv_has ls 9 [(0, .ref b), (1, .ref (h 0)), (2, .ref (a 0)), (3, .ref o), (4, .int 0)]) : W p l e room_1 s m #[Value.ref b] below meth c H locs 1192 188302 (lw_Z below #[Value.ref b] s) (F0 m 728 ls []) := by
  have hbA : ¬ A b := fun h => Nat.not_le.mpr hbl ((hAe b).mp h)
  have hA : ∀ q : Nat, s.heap.size ≤ q → A q := fun q h => (hAe q).mpr h
  refine lv_aload_n hx hb dL_law__728 rfl (lv_at hl 1 rfl) ?_
  refine lv_aload_n hx hb dL_law__729 rfl (lv_at hl 0 rfl) ?_
  refine lv_iload hx hb dL_law__730 (lv_at hl 4 rfl) ?_
  refine lv_iconst (v := 1) hx hb dL_law__732 (by decide) ?_
  refine lv_iadd hx hb dL_law__733 ?_
  refine lv_topi (fun x_1 e_1 => ?_)
  obtain rfl : x_1 = 1 := e_1.trans (by decide)
  refine va_sld hx hb hX hbl hbA hS (by rw [hL]; exact vp_in_iff.mpr (by decide)) dL_law__734 ?_
  refine W.eq (g2 := F0 m 735 ls (.int (xs 1) :: .ref (h 0) :: [])) rfl ?_
  refine lv_aload_n hx hb dL_law__735 rfl (lv_at hl 0 rfl) ?_
  refine lv_iload hx hb dL_law__736 (lv_at hl 4 rfl) ?_
  refine lv_iconst (v := 2) hx hb dL_law__738 (by decide) ?_
  refine lv_iadd hx hb dL_law__739 ?_
  refine lv_topi (fun x_2 e_2 => ?_)
  obtain rfl : x_2 = 2 := e_2.trans (by decide)
  refine va_sld hx hb hX hbl hbA hS (by rw [hL]; exact vp_in_iff.mpr (by decide)) dL_law__740 ?_
  refine W.eq (g2 := F0 m 741 ls (.int (xs 2) :: .int (xs 1) :: .ref (h 0) :: [])) rfl ?_
  refine lv_aload_n hx hb dL_law__741 rfl (lv_at hl 0 rfl) ?_
  refine lv_iload hx hb dL_law__742 (lv_at hl 4 rfl) ?_
  refine lv_iconst (v := 3) hx hb dL_law__744 (by decide) ?_
  refine lv_iadd hx hb dL_law__745 ?_
  refine lv_topi (fun x_3 e_3 => ?_)
  obtain rfl : x_3 = 3 := e_3.trans (by decide)
  refine va_sld hx hb hX hbl hbA hS (by rw [hL]; exact vp_in_iff.mpr (by decide)) dL_law__746 ?_
  refine W.eq (g2 := F0 m 747 ls (.int (xs 3) :: .int (xs 2) :: .int (xs 1) :: .ref (h 0) :: [])) rfl ?_
  refine lv_aload_n hx hb dL_law__747 rfl (lv_at hl 3 rfl) ?_
  have hPc := hP.sub (ws' := [((h 0), .inr (11, [.ref (h 1), .ref (h 9), .int 0, .int 0, .ref (h 20), .ref (h 37), .int 0, .ref (h 38), .ref (h 42), .ref (h 43), .ref (h 44), .ref (h 45), .ref (h 46), .ref (h 47), .ref (h 48)])), ((h 1), .inr (8, [.ref (h 2), .int 0, .ref (h 3), .ref (h 4), .int 0, .ref (h 5), .int 0, .ref (h 6), .int 0, .ref (h 7), .int 0])), ((h 4), .inl ((cs 4), 100, .inr (.inr (.inr (.inr (fun _ => none)))))), (o, .inl (cL, 1, .inr (.inl (fun _ => 0))))]) [0, 1, 2, 3] rfl
  have hDc := hD.sub (ws' := [((h 0), .inr (11, [.ref (h 1), .ref (h 9), .int 0, .int 0, .ref (h 20), .ref (h 37), .int 0, .ref (h 38), .ref (h 42), .ref (h 43), .ref (h 44), .ref (h 45), .ref (h 46), .ref (h 47), .ref (h 48)])), ((h 1), .inr (8, [.ref (h 2), .int 0, .ref (h 3), .ref (h 4), .int 0, .ref (h 5), .int 0, .ref (h 6), .int 0, .ref (h 7), .int 0])), ((h 4), .inl ((cs 4), 100, .inr (.inr (.inr (.inr (fun _ => none)))))), (o, .inl (cL, 1, .inr (.inl (fun _ => 0))))]) [0, 1, 2, 3] (by decide) rfl
  have hKc := hK.sub (tys' := [((cs 4), .object RX4), (cL, .long)]) [0, 1] rfl
  have hFc := va_free (wc := [((h 0), .inr (11, [.ref (h 1), .ref (h 9), .int 0, .int 0, .ref (h 20), .ref (h 37), .int 0, .ref (h 38), .ref (h 42), .ref (h 43), .ref (h 44), .ref (h 45), .ref (h 46), .ref (h 47), .ref (h 48)])), ((h 1), .inr (8, [.ref (h 2), .int 0, .ref (h 3), .ref (h 4), .int 0, .ref (h 5), .int 0, .ref (h 6), .int 0, .ref (h 7), .int 0])), ((h 4), .inl ((cs 4), 100, .inr (.inr (.inr (.inr (fun _ => none)))))), (o, .inl (cL, 1, .inr (.inl (fun _ => 0))))]) hD hS hA [0, 1, 2, 3] rfl
  refine va_calli (vx_runSW (As := [.ref (h 0), .int (xs 1), .int (xs 2), .int (xs 3), .ref o]) (rest := []) ⟨hx, hb, hml, hown, ht⟩ (k_L_condition l hl0 _ D h cs (xs 1) (xs 2) (xs 3) o cL) (vx_cwSW 5 ht (zG_S zw_811 zw_812 zw_773 zw_813) rfl rfl rfl (by decide +kernel) ⟨Nat.le_of_ble_eq_true rfl, Nat.le_of_ble_eq_true rfl⟩) (zY_S hNc hEx hS hFc hPc hKc hDc) rfl rfl hl.1 rfl (lv_room (Nat.le_of_ble_eq_true rfl)) dL_law__748 ⟨Nat.le_of_ble_eq_true rfl, Nat.le_of_ble_eq_true rfl⟩) hS (fun q _ h => hFc q h) hFc (fun r_4 u_4 t H1 locs ht0 hvm hw_4 hB hz1 hk1 hS => ?_)
  obtain ⟨g_4, hg_4, hB⟩ := hB
  obtain ⟨hP1, hK1, hD1⟩ := hB
  rw [ht0] at hP1
  have hK1 := va_K.moved hvm.symm hK1
  obtain ⟨hP, hD⟩ := va_join (wr := [((a 0), .inr (12, zMo a zI0)), ((a 1), .inl (cI, 6792, .inl zI0))]) (w1 := [(o, .inl (cL, 1, .inr (.inl g_4)))]) hP hD [0, 1, 2, 3] [4, 5] rfl rfl (by decide) (by decide) hk1 hFc hP1 hD1
  generalize H1 = H at hP hS ⊢
  have hP : va_P D vwCl [((a 0), .inr (12, zMo a zI0)), ((a 1), .inl (cI, 6792, .inl zI0)), (o, .inl (cL, 1, .inr (.inl g_4)))] H := hP
  have hD : va_D A [((a 0), .inr (12, zMo a zI0)), ((a 1), .inl (cI, 6792, .inl zI0)), (o, .inl (cL, 1, .inr (.inl g_4)))] := hD
  refine W.widen (k := 1193) (n := 188308) (Nat.le_of_ble_eq_true rfl) (Nat.le_of_ble_eq_true rfl) ?_
  refine lv_istore (lv' := [(5, .int r_4), (0, .ref b), (1, .ref (h 0)), (2, .ref (a 0)), (3, .ref o), (4, .int 0)]) hx hb dL_law__751 hl (by decide) rfl (fun ls hl => ?_)
  refine lv_aload_n hx hb dL_law__753 rfl (lv_at hl 3 rfl) ?_
  refine lv_aload_n hx hb dL_law__754 rfl (lv_at hl 1 rfl) ?_
  refine lv_iload hx hb dL_law__755 (lv_at hl 5 rfl) ?_
  refine lv_iconst (v := 1) hx hb dL_law__757 (by decide) ?_
  refine lv_iadd hx hb dL_law__758 ?_
  refine lv_topi (fun x_5 e_5 => ?_)
  obtain rfl : x_5 = 1 := e_5.trans (by decide)
  refine va_sld hx hb hX hbl hbA hS (by rw [hL]; exact vp_in_iff.mpr (by decide)) dL_law__759 ?_
  refine W.eq (g2 := F0 m 760 ls (.int (xs 1) :: .ref (a 0) :: [])) rfl ?_
  refine lv_aload_n hx hb dL_law__760 rfl (lv_at hl 1 rfl) ?_
  refine lv_iload hx hb dL_law__761 (lv_at hl 5 rfl) ?_
  refine lv_iconst (v := 2) hx hb dL_law__763 (by decide) ?_
  refine lv_iadd hx hb dL_law__764 ?_
  refine lv_topi (fun x_6 e_6 => ?_)
  obtain rfl : x_6 = 2 := e_6.trans (by decide)
  refine va_sld hx hb hX hbl hbA hS (by rw [hL]; exact vp_in_iff.mpr (by decide)) dL_law__765 ?_
  refine W.eq (g2 := F0 m 766 ls (.int (xs 2) :: .int (xs 1) :: .ref (a 0) :: [])) rfl ?_
  refine lv_aload_n hx hb dL_law__766 rfl (lv_at hl 1 rfl) ?_
  refine lv_iload hx hb dL_law__767 (lv_at hl 5 rfl) ?_
  refine lv_iconst (v := 3) hx hb dL_law__769 (by decide) ?_
  refine lv_iadd hx hb dL_law__770 ?_
  refine lv_topi (fun x_7 e_7 => ?_)
  obtain rfl : x_7 = 3 := e_7.trans (by decide)
  refine va_sld hx hb hX hbl hbA hS (by rw [hL]; exact vp_in_iff.mpr (by decide)) dL_law__771 ?_
  refine W.eq (g2 := F0 m 772 ls (.int (xs 3) :: .int (xs 2) :: .int (xs 1) :: .ref (a 0) :: [])) rfl ?_
  have hPc := hP.sub (ws' := [((a 0), .inr (12, zMo a zI0)), ((a 1), .inl (cI, 6792, .inl zI0))]) [0, 1] rfl
  have hDc := hD.sub (ws' := [((a 0), .inr (12, zMo a zI0)), ((a 1), .inl (cI, 6792, .inl zI0))]) [0, 1] (by decide) rfl
  have hKc := hK.sub (tys' := [(cI, .int)]) [2] rfl
  have hFc := va_free (wc := [((a 0), .inr (12, zMo a zI0)), ((a 1), .inl (cI, 6792, .inl zI0))]) hD hS hA [0, 1] rfl
  refine va_calli (va_runV (As := [.int (xs 1), .int (xs 2), .int (xs 3)]) (rest := []) ⟨hx, hb, hml, hown, ht⟩ (k_X12_condition l _ D a cI (xs 1) (xs 2) (xs 3)) (cwV 3 ht (zG_V zw_814 zw_815 zw_816 zw_2 zw_817) rfl rfl rfl (by decide +kernel) ⟨Nat.le_of_ble_eq_true rfl, Nat.le_of_ble_eq_true rfl⟩) (zM_V (va_recv hK hP (ci := 12) (q0 := 0) rfl rfl) hPc hKc hDc) rfl rfl hl.1 rfl (lv_room (Nat.le_of_ble_eq_true rfl)) dL_law__772 ⟨Nat.le_of_ble_eq_true rfl, Nat.le_of_ble_eq_true rfl⟩) hS (fun q _ h => hFc q h) hFc (fun r_8 u_8 t H1 locs ht0 hvm hw_8 hB hz1 hk1 hS => ?_)
  obtain ⟨hP1, hK1, hD1⟩ := hB
  rw [ht0] at hP1
  have hK1 := va_K.moved hvm.symm hK1
  obtain ⟨hP, hD⟩ := va_join (wr := [(o, .inl (cL, 1, .inr (.inl g_4)))]) (w1 := [((a 0), .inr (12, zMo a u_8))]) hP hD [0, 1] [2] rfl rfl (by decide) (by decide) hk1 hFc hP1 hD1
  generalize H1 = H at hP hS ⊢
  have hP : va_P D vwCl [(o, .inl (cL, 1, .inr (.inl g_4))), ((a 0), .inr (12, zMo a u_8))] H := hP
  have hD : va_D A [(o, .inl (cL, 1, .inr (.inl g_4))), ((a 0), .inr (12, zMo a u_8))] := hD
  refine lv_istore (lv' := [(6, .int r_8), (5, .int r_4), (0, .ref b), (1, .ref (h 0)), (2, .ref (a 0)), (3, .ref o), (4, .int 0)]) hx hb dL_law__775 hl (by decide) rfl (fun ls hl => ?_)
  refine lv_aload_n hx hb dL_law__777 rfl (lv_at hl 4 rfl) ?_
  refine vp_callSi (va_runV (As := []) (rest := []) ⟨hx, hb, hml, hown, ht⟩ (k_X12_thrown l D a u_8) (cwV 0 ht (zG_V zw_779 zw_780 zw_781 zw_2 zw_782) rfl rfl rfl (by decide +kernel) ⟨Nat.le_of_ble_eq_true rfl, Nat.le_of_ble_eq_true rfl⟩) (zR_V (va_recv hK hP (ci := 12) (q0 := 1) rfl rfl) (hP.sub (ws' := [((a 0), .inr (12, zMo a u_8))]) [1] rfl) (hK.sub (tys' := []) [] rfl)) rfl rfl hl.1 rfl (lv_room (Nat.le_of_ble_eq_true rfl)) dL_law__778 ⟨Nat.le_of_ble_eq_true rfl, Nat.le_of_ble_eq_true rfl⟩).run (fun r_9 hw_9 => ?_)
  refine lv_iload hx hb dL_law__781 (lv_at hl 1 rfl) ?_
  refine lv_icmp_eq (tgt := 788) hx hb dL_law__783 (by decide) (fun c_10 => ?_) (fun c_10 => ?_)
  · skip
    simp only [fa_lt, fa_le, fa_eq, Int32.reduceToInt] at c_10
    refine lv_iload hx hb dL_law__788 (lv_at hl 1 rfl) ?_
    refine lv_if_ne (tgt := 812) hx hb dL_law__790 (by decide) (fun c_11 => ?_) (fun c_11 => ?_)
    · skip
      simp only [fa_lt, fa_le, fa_eq, Int32.reduceToInt] at c_11
      refine lv_goto (tgt := 3433) hx hb dL_law__812 (by decide) ?_
      refine W.widen (k := 2000) (n := 400000) (Nat.le_of_ble_eq_true rfl) (Nat.le_of_ble_eq_true rfl) ?_
      exact zlaw_end hx hb hml hr hown ht hlocks hX hbl hL hAe hS (lv_sub hl [2, 6] rfl)
    · skip
      simp only [fa_lt, fa_le, fa_eq, Int32.reduceToInt] at c_11
      refine lv_aload_n hx hb dL_law__793 rfl (lv_at hl 5 rfl) ?_
      refine lv_iconst (v := 0) hx hb dL_law__794 (by decide) ?_
      refine va_lald hx hb hK hP 0 1 rfl rfl (vp_in_iff.mpr (by decide)) dL_law__795 ?_
      refine W.eq (g2 := F0 m 796 ls (.long (g_4 0) :: [])) rfl ?_
      refine lv_iload hx hb dL_law__796 (lv_at hl 0 rfl) ?_
      refine lv_if_eq (tgt := 805) hx hb dL_law__798 (by decide) (fun c_12 => ?_) (fun c_12 => ?_)
      · skip
        simp only [fa_lt, fa_le, fa_eq, Int32.reduceToInt] at c_12
        refine lv_lconst (v := 0) hx hb dL_law__805 (by decide) ?_
        refine W.lcmp hx hb dL_law__806 ?_
        refine lv_if_eq (tgt := 812) hx hb dL_law__807 (by decide) (fun c_13 => ?_) (fun c_13 => ?_)
        · skip
          refine lv_goto (tgt := 3433) hx hb dL_law__812 (by decide) ?_
          refine W.widen (k := 2000) (n := 400000) (Nat.le_of_ble_eq_true rfl) (Nat.le_of_ble_eq_true rfl) ?_
          exact zlaw_end hx hb hml hr hown ht hlocks hX hbl hL hAe hS (lv_sub hl [2, 6] rfl)
        · skip
          simp only [fa_lt, fa_le, fa_eq, Int32.reduceToInt] at c_13
          exfalso
          have k0 : r_4 = 0 := Int32.toInt_inj.mp (show r_4.toInt = (0 : Int32).toInt by rw [c_11]; rfl)
          have e1 := zF_condition hw_8 hw_4
          have h0 := hw_4
          rw [k0] at h0
          unfold zS_condition at h0
          obtain ⟨h9, -⟩ := h0
          exact absurd h9 (by decide)
      · skip
        simp only [fa_lt, fa_le, fa_eq, Int32.reduceToInt] at c_12
        refine lv_lconst (v := 1) hx hb dL_law__801 (by decide) ?_
        refine lv_goto (tgt := 806) hx hb dL_law__802 (by decide) ?_
        refine W.lcmp hx hb dL_law__806 ?_
        refine lv_if_eq (tgt := 812) hx hb dL_law__807 (by decide) (fun c_14 => ?_) (fun c_14 => ?_)
        · skip
          refine lv_goto (tgt := 3433) hx hb dL_law__812 (by decide) ?_
          refine W.widen (k := 2000) (n := 400000) (Nat.le_of_ble_eq_true rfl) (Nat.le_of_ble_eq_true rfl) ?_
          exact zlaw_end hx hb hml hr hown ht hlocks hX hbl hL hAe hS (lv_sub hl [2, 6] rfl)
        · skip
          simp only [fa_lt, fa_le, fa_eq, Int32.reduceToInt] at c_14
          exfalso
          have k0 : r_4 = 0 := Int32.toInt_inj.mp (show r_4.toInt = (0 : Int32).toInt by rw [c_11]; rfl)
          have e1 := zF_condition hw_8 hw_4
          have h0 := hw_4
          rw [k0] at h0
          unfold zS_condition at h0
          obtain ⟨h9, -⟩ := h0
          exact absurd h9 (by decide)
  · skip
    simp only [fa_lt, fa_le, fa_eq, Int32.reduceToInt] at c_10
    exfalso; exact c_10 (by rw [hw_9, (zF_condition hw_8 hw_4).1])
