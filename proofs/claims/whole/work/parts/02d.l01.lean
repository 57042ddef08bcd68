theorem dL_law__398 : decode cL_law_ 398 = .ok (.iaload, 1) := by decide +kernel
theorem dL_law__399 : decode cL_law_ 399 = .ok (.aload_n 0, 1) := by decide +kernel
theorem dL_law__400 : decode cL_law_ 400 = .ok (.iload 4, 2) := by decide +kernel
theorem dL_law__402 : decode cL_law_ 402 = .ok (.iconst 2, 1) := by decide +kernel
theorem dL_law__403 : decode cL_law_ 403 = .ok (.iadd, 1) := by decide +kernel
theorem dL_law__404 : decode cL_law_ 404 = .ok (.iaload, 1) := by decide +kernel
theorem dL_law__405 : decode cL_law_ 405 = .ok (.aload_n 0, 1) := by decide +kernel
theorem dL_law__406 : decode cL_law_ 406 = .ok (.iload 4, 2) := by decide +kernel
theorem dL_law__408 : decode cL_law_ 408 = .ok (.iconst 3, 1) := by decide +kernel
theorem dL_law__409 : decode cL_law_ 409 = .ok (.iadd, 1) := by decide +kernel
theorem dL_law__410 : decode cL_law_ 410 = .ok (.iaload, 1) := by decide +kernel
theorem dL_law__411 : decode cL_law_ 411 = .ok (.aload_n 3, 1) := by decide +kernel
theorem dL_law__412 : decode cL_law_ 412 = .ok (.invokestatic 130, 3) := by decide +kernel
theorem dL_law__415 : decode cL_law_ 415 = .ok (.istore 5, 2) := by decide +kernel
theorem dL_law__417 : decode cL_law_ 417 = .ok (.aload_n 2, 1) := by decide +kernel
theorem dL_law__418 : decode cL_law_ 418 = .ok (.aload_n 0, 1) := by decide +kernel
theorem dL_law__419 : decode cL_law_ 419 = .ok (.iload 4, 2) := by decide +kernel
theorem dL_law__421 : decode cL_law_ 421 = .ok (.iconst 1, 1) := by decide +kernel
theorem dL_law__422 : decode cL_law_ 422 = .ok (.iadd, 1) := by decide +kernel
theorem dL_law__423 : decode cL_law_ 423 = .ok (.iaload, 1) := by decide +kernel
theorem dL_law__424 : decode cL_law_ 424 = .ok (.aload_n 0, 1) := by decide +kernel
theorem dL_law__425 : decode cL_law_ 425 = .ok (.iload 4, 2) := by decide +kernel
theorem dL_law__427 : decode cL_law_ 427 = .ok (.iconst 2, 1) := by decide +kernel
theorem dL_law__428 : decode cL_law_ 428 = .ok (.iadd, 1) := by decide +kernel
theorem dL_law__429 : decode cL_law_ 429 = .ok (.iaload, 1) := by decide +kernel
theorem dL_law__430 : decode cL_law_ 430 = .ok (.aload_n 0, 1) := by decide +kernel
theorem dL_law__431 : decode cL_law_ 431 = .ok (.iload 4, 2) := by decide +kernel
theorem dL_law__433 : decode cL_law_ 433 = .ok (.iconst 3, 1) := by decide +kernel
theorem dL_law__434 : decode cL_law_ 434 = .ok (.iadd, 1) := by decide +kernel
theorem dL_law__435 : decode cL_law_ 435 = .ok (.iaload, 1) := by decide +kernel
theorem dL_law__436 : decode cL_law_ 436 = .ok (.invokevirtual 133, 3) := by decide +kernel
theorem dL_law__439 : decode cL_law_ 439 = .ok (.istore 6, 2) := by decide +kernel
theorem dL_law__441 : decode cL_law_ 441 = .ok (.aload_n 2, 1) := by decide +kernel
theorem dL_law__442 : decode cL_law_ 442 = .ok (.invokevirtual 122, 3) := by decide +kernel
theorem dL_law__445 : decode cL_law_ 445 = .ok (.iload 5, 2) := by decide +kernel
theorem dL_law__447 : decode cL_law_ 447 = .ok (.if_icmp .eq 5, 3) := by decide +kernel
theorem dL_law__450 : decode cL_law_ 450 = .ok (.iconst 0, 1) := by decide +kernel
theorem dL_law__451 : decode cL_law_ 451 = .ok (.ireturn, 1) := by decide +kernel
theorem dL_law__452 : decode cL_law_ 452 = .ok (.iload 5, 2) := by decide +kernel
theorem dL_law__454 : decode cL_law_ 454 = .ok (.ifCond .ne 15, 3) := by decide +kernel
theorem dL_law__457 : decode cL_law_ 457 = .ok (.aload_n 3, 1) := by decide +kernel
theorem dL_law__458 : decode cL_law_ 458 = .ok (.iconst 0, 1) := by decide +kernel
theorem dL_law__459 : decode cL_law_ 459 = .ok (.laload, 1) := by decide +kernel
theorem dL_law__460 : decode cL_law_ 460 = .ok (.iload 6, 2) := by decide +kernel
theorem dL_law__462 : decode cL_law_ 462 = .ok (.i2l, 1) := by decide +kernel
theorem dL_law__463 : decode cL_law_ 463 = .ok (.lcmp, 1) := by decide +kernel
theorem dL_law__464 : decode cL_law_ 464 = .ok (.ifCond .eq 5, 3) := by decide +kernel
theorem dL_law__467 : decode cL_law_ 467 = .ok (.iconst 0, 1) := by decide +kernel
theorem dL_law__468 : decode cL_law_ 468 = .ok (.ireturn, 1) := by decide +kernel
theorem dL_law__469 : decode cL_law_ 469 = .ok (.goto 2015, 3) := by decide +kernel
theorem dL_law__472 : decode cL_law_ 472 = .ok (.aload_n 1, 1) := by decide +kernel
theorem dL_law__473 : decode cL_law_ 473 = .ok (.aload_n 0, 1) := by decide +kernel
theorem dL_law__474 : decode cL_law_ 474 = .ok (.iload 4, 2) := by decide +kernel
theorem dL_law__476 : decode cL_law_ 476 = .ok (.iconst 1, 1) := by decide +kernel
theorem dL_law__477 : decode cL_law_ 477 = .ok (.iadd, 1) := by decide +kernel
theorem dL_law__478 : decode cL_law_ 478 = .ok (.iaload, 1) := by decide +kernel
theorem dL_law__479 : decode cL_law_ 479 = .ok (.aload_n 0, 1) := by decide +kernel
theorem dL_law__480 : decode cL_law_ 480 = .ok (.iload 4, 2) := by decide +kernel
theorem dL_law__482 : decode cL_law_ 482 = .ok (.iconst 2, 1) := by decide +kernel
theorem dL_law__483 : decode cL_law_ 483 = .ok (.iadd, 1) := by decide +kernel
theorem dL_law__484 : decode cL_law_ 484 = .ok (.iaload, 1) := by decide +kernel
theorem dL_law__485 : decode cL_law_ 485 = .ok (.aload_n 0, 1) := by decide +kernel
theorem dL_law__486 : decode cL_law_ 486 = .ok (.iload 4, 2) := by decide +kernel
theorem dL_law__488 : decode cL_law_ 488 = .ok (.iconst 3, 1) := by decide +kernel
theorem dL_law__489 : decode cL_law_ 489 = .ok (.iadd, 1) := by decide +kernel
theorem dL_law__490 : decode cL_law_ 490 = .ok (.iaload, 1) := by decide +kernel
theorem dL_law__491 : decode cL_law_ 491 = .ok (.aload_n 0, 1) := by decide +kernel
theorem dL_law__492 : decode cL_law_ 492 = .ok (.iload 4, 2) := by decide +kernel
theorem dL_law__494 : decode cL_law_ 494 = .ok (.iconst 4, 1) := by decide +kernel
theorem dL_law__495 : decode cL_law_ 495 = .ok (.iadd, 1) := by decide +kernel
theorem dL_law__496 : decode cL_law_ 496 = .ok (.iaload, 1) := by decide +kernel
theorem dL_law__497 : decode cL_law_ 497 = .ok (.aload_n 0, 1) := by decide +kernel
theorem dL_law__498 : decode cL_law_ 498 = .ok (.iload 4, 2) := by decide +kernel
theorem dL_law__500 : decode cL_law_ 500 = .ok (.iconst 5, 1) := by decide +kernel
theorem dL_law__501 : decode cL_law_ 501 = .ok (.iadd, 1) := by decide +kernel
theorem dL_law__502 : decode cL_law_ 502 = .ok (.iaload, 1) := by decide +kernel
theorem dL_law__503 : decode cL_law_ 503 = .ok (.invokevirtual 134, 3) := by decide +kernel
theorem dL_law__506 : decode cL_law_ 506 = .ok (.aload_n 2, 1) := by decide +kernel
theorem dL_law__507 : decode cL_law_ 507 = .ok (.aload_n 0, 1) := by decide +kernel
theorem dL_law__508 : decode cL_law_ 508 = .ok (.iload 4, 2) := by decide +kernel
theorem dL_law__510 : decode cL_law_ 510 = .ok (.iconst 1, 1) := by decide +kernel
theorem dL_law__511 : decode cL_law_ 511 = .ok (.iadd, 1) := by decide +kernel
theorem dL_law__512 : decode cL_law_ 512 = .ok (.iaload, 1) := by decide +kernel
theorem dL_law__513 : decode cL_law_ 513 = .ok (.aload_n 0, 1) := by decide +kernel
theorem dL_law__514 : decode cL_law_ 514 = .ok (.iload 4, 2) := by decide +kernel
theorem dL_law__516 : decode cL_law_ 516 = .ok (.iconst 2, 1) := by decide +kernel
theorem dL_law__517 : decode cL_law_ 517 = .ok (.iadd, 1) := by decide +kernel
theorem dL_law__518 : decode cL_law_ 518 = .ok (.iaload, 1) := by decide +kernel
theorem dL_law__519 : decode cL_law_ 519 = .ok (.aload_n 0, 1) := by decide +kernel
theorem dL_law__520 : decode cL_law_ 520 = .ok (.iload 4, 2) := by decide +kernel
theorem dL_law__522 : decode cL_law_ 522 = .ok (.iconst 3, 1) := by decide +kernel
theorem dL_law__523 : decode cL_law_ 523 = .ok (.iadd, 1) := by decide +kernel
theorem dL_law__524 : decode cL_law_ 524 = .ok (.iaload, 1) := by decide +kernel
theorem dL_law__525 : decode cL_law_ 525 = .ok (.aload_n 0, 1) := by decide +kernel
theorem dL_law__526 : decode cL_law_ 526 = .ok (.iload 4, 2) := by decide +kernel
theorem dL_law__528 : decode cL_law_ 528 = .ok (.iconst 4, 1) := by decide +kernel
theorem dL_law__529 : decode cL_law_ 529 = .ok (.iadd, 1) := by decide +kernel
theorem dL_law__530 : decode cL_law_ 530 = .ok (.iaload, 1) := by decide +kernel
theorem dL_law__531 : decode cL_law_ 531 = .ok (.aload_n 0, 1) := by decide +kernel
theorem dL_law__532 : decode cL_law_ 532 = .ok (.iload 4, 2) := by decide +kernel
theorem dL_law__534 : decode cL_law_ 534 = .ok (.iconst 5, 1) := by decide +kernel
theorem dL_law__535 : decode cL_law_ 535 = .ok (.iadd, 1) := by decide +kernel
theorem dL_law__536 : decode cL_law_ 536 = .ok (.iaload, 1) := by decide +kernel
theorem dL_law__537 : decode cL_law_ 537 = .ok (.invokevirtual 137, 3) := by decide +kernel
theorem dL_law__540 : decode cL_law_ 540 = .ok (.if_icmp .eq 1944, 3) := by decide +kernel
theorem dL_law__543 : decode cL_law_ 543 = .ok (.iconst 0, 1) := by decide +kernel
theorem dL_law__544 : decode cL_law_ 544 = .ok (.ireturn, 1) := by decide +kernel
theorem dL_law__545 : decode cL_law_ 545 = .ok (.aload_n 1, 1) := by decide +kernel
theorem dL_law__546 : decode cL_law_ 546 = .ok (.aload_n 0, 1) := by decide +kernel
theorem dL_law__547 : decode cL_law_ 547 = .ok (.iload 4, 2) := by decide +kernel
theorem dL_law__549 : decode cL_law_ 549 = .ok (.iconst 1, 1) := by decide +kernel
theorem dL_law__550 : decode cL_law_ 550 = .ok (.iadd, 1) := by decide +kernel
theorem dL_law__551 : decode cL_law_ 551 = .ok (.iaload, 1) := by decide +kernel
theorem dL_law__552 : decode cL_law_ 552 = .ok (.aload_n 3, 1) := by decide +kernel
theorem dL_law__553 : decode cL_law_ 553 = .ok (.invokestatic 138, 3) := by decide +kernel
theorem dL_law__556 : decode cL_law_ 556 = .ok (.istore 5, 2) := by decide +kernel
theorem dL_law__558 : decode cL_law_ 558 = .ok (.aload_n 2, 1) := by decide +kernel
theorem dL_law__559 : decode cL_law_ 559 = .ok (.aload_n 0, 1) := by decide +kernel
theorem dL_law__560 : decode cL_law_ 560 = .ok (.iload 4, 2) := by decide +kernel
theorem dL_law__562 : decode cL_law_ 562 = .ok (.iconst 1, 1) := by decide +kernel
theorem dL_law__563 : decode cL_law_ 563 = .ok (.iadd, 1) := by decide +kernel
theorem dL_law__564 : decode cL_law_ 564 = .ok (.iaload, 1) := by decide +kernel
theorem dL_law__565 : decode cL_law_ 565 = .ok (.invokevirtual 141, 3) := by decide +kernel
theorem dL_law__568 : decode cL_law_ 568 = .ok (.istore 6, 2) := by decide +kernel
theorem dL_law__570 : decode cL_law_ 570 = .ok (.aload_n 2, 1) := by decide +kernel
theorem dL_law__571 : decode cL_law_ 571 = .ok (.invokevirtual 122, 3) := by decide +kernel
theorem dL_law__574 : decode cL_law_ 574 = .ok (.iload 5, 2) := by decide +kernel
theorem dL_law__576 : decode cL_law_ 576 = .ok (.if_icmp .eq 5, 3) := by decide +kernel
theorem dL_law__579 : decode cL_law_ 579 = .ok (.iconst 0, 1) := by decide +kernel
theorem dL_law__580 : decode cL_law_ 580 = .ok (.ireturn, 1) := by decide +kernel
theorem dL_law__581 : decode cL_law_ 581 = .ok (.iload 5, 2) := by decide +kernel
theorem dL_law__583 : decode cL_law_ 583 = .ok (.ifCond .ne 15, 3) := by decide +kernel
theorem dL_law__586 : decode cL_law_ 586 = .ok (.aload_n 3, 1) := by decide +kernel
theorem dL_law__587 : decode cL_law_ 587 = .ok (.iconst 0, 1) := by decide +kernel
theorem dL_law__588 : decode cL_law_ 588 = .ok (.laload, 1) := by decide +kernel
theorem dL_law__589 : decode cL_law_ 589 = .ok (.iload 6, 2) := by decide +kernel
theorem dL_law__591 : decode cL_law_ 591 = .ok (.i2l, 1) := by decide +kernel
theorem dL_law__592 : decode cL_law_ 592 = .ok (.lcmp, 1) := by decide +kernel
theorem dL_law__593 : decode cL_law_ 593 = .ok (.ifCond .eq 5, 3) := by decide +kernel
theorem dL_law__596 : decode cL_law_ 596 = .ok (.iconst 0, 1) := by decide +kernel
theorem dL_law__597 : decode cL_law_ 597 = .ok (.ireturn, 1) := by decide +kernel
theorem dL_law__598 : decode cL_law_ 598 = .ok (.goto 1886, 3) := by decide +kernel
theorem dL_law__601 : decode cL_law_ 601 = .ok (.aload_n 1, 1) := by decide +kernel
theorem dL_law__602 : decode cL_law_ 602 = .ok (.invokevirtual 142, 3) := by decide +kernel
theorem dL_law__605 : decode cL_law_ 605 = .ok (.aload_n 2, 1) := by decide +kernel
theorem dL_law__606 : decode cL_law_ 606 = .ok (.invokevirtual 145, 3) := by decide +kernel
theorem dL_law__609 : decode cL_law_ 609 = .ok (.if_icmp .eq 1875, 3) := by decide +kernel
theorem dL_law__612 : decode cL_law_ 612 = .ok (.iconst 0, 1) := by decide +kernel
theorem dL_law__613 : decode cL_law_ 613 = .ok (.ireturn, 1) := by decide +kernel
theorem dL_law__614 : decode cL_law_ 614 = .ok (.aload_n 1, 1) := by decide +kernel
