/-! the instructions of the methods -/
theorem dc_281_411 : am_dc 281 411 = some (.invokevirtual 54, 414, 0) := by decide +kernel
theorem dc_281_414 : am_dc 281 414 = some (.if_icmp .eq 848, 417, 1262) := by decide +kernel
theorem dc_281_417 : am_dc 281 417 = some (.iconst 0, 418, 0) := by decide +kernel
theorem dc_281_418 : am_dc 281 418 = some (.ireturn, 419, 0) := by decide +kernel
theorem dc_281_419 : am_dc 281 419 = some (.aload_n 1, 420, 0) := by decide +kernel
theorem dc_281_420 : am_dc 281 420 = some (.aload_n 0, 421, 0) := by decide +kernel
theorem dc_281_421 : am_dc 281 421 = some (.iload 4, 423, 0) := by decide +kernel
theorem dc_281_423 : am_dc 281 423 = some (.iconst 1, 424, 0) := by decide +kernel
theorem dc_281_424 : am_dc 281 424 = some (.iadd, 425, 0) := by decide +kernel
theorem dc_281_425 : am_dc 281 425 = some (.iaload, 426, 0) := by decide +kernel
theorem dc_281_426 : am_dc 281 426 = some (.aload_n 0, 427, 0) := by decide +kernel
theorem dc_281_427 : am_dc 281 427 = some (.iload 4, 429, 0) := by decide +kernel
theorem dc_281_429 : am_dc 281 429 = some (.iconst 2, 430, 0) := by decide +kernel
theorem dc_281_430 : am_dc 281 430 = some (.iadd, 431, 0) := by decide +kernel
theorem dc_281_431 : am_dc 281 431 = some (.iaload, 432, 0) := by decide +kernel
theorem dc_281_432 : am_dc 281 432 = some (.invokevirtual 55, 435, 0) := by decide +kernel
theorem dc_281_435 : am_dc 281 435 = some (.aload_n 2, 436, 0) := by decide +kernel
theorem dc_281_436 : am_dc 281 436 = some (.aload_n 0, 437, 0) := by decide +kernel
theorem dc_281_437 : am_dc 281 437 = some (.iload 4, 439, 0) := by decide +kernel
theorem dc_281_439 : am_dc 281 439 = some (.iconst 1, 440, 0) := by decide +kernel
theorem dc_281_440 : am_dc 281 440 = some (.iadd, 441, 0) := by decide +kernel
theorem dc_281_441 : am_dc 281 441 = some (.iaload, 442, 0) := by decide +kernel
theorem dc_281_442 : am_dc 281 442 = some (.aload_n 0, 443, 0) := by decide +kernel
theorem dc_281_443 : am_dc 281 443 = some (.iload 4, 445, 0) := by decide +kernel
theorem dc_281_445 : am_dc 281 445 = some (.iconst 2, 446, 0) := by decide +kernel
theorem dc_281_446 : am_dc 281 446 = some (.iadd, 447, 0) := by decide +kernel
theorem dc_281_447 : am_dc 281 447 = some (.iaload, 448, 0) := by decide +kernel
theorem dc_281_448 : am_dc 281 448 = some (.invokevirtual 58, 451, 0) := by decide +kernel
theorem dc_281_451 : am_dc 281 451 = some (.if_icmp .eq 811, 454, 1262) := by decide +kernel
theorem dc_281_454 : am_dc 281 454 = some (.iconst 0, 455, 0) := by decide +kernel
theorem dc_281_455 : am_dc 281 455 = some (.ireturn, 456, 0) := by decide +kernel
theorem dc_281_456 : am_dc 281 456 = some (.aload_n 1, 457, 0) := by decide +kernel
theorem dc_281_457 : am_dc 281 457 = some (.aload_n 0, 458, 0) := by decide +kernel
theorem dc_281_458 : am_dc 281 458 = some (.iload 4, 460, 0) := by decide +kernel
theorem dc_281_460 : am_dc 281 460 = some (.iconst 1, 461, 0) := by decide +kernel
theorem dc_281_461 : am_dc 281 461 = some (.iadd, 462, 0) := by decide +kernel
theorem dc_281_462 : am_dc 281 462 = some (.iaload, 463, 0) := by decide +kernel
theorem dc_281_463 : am_dc 281 463 = some (.aload_n 0, 464, 0) := by decide +kernel
theorem dc_281_464 : am_dc 281 464 = some (.iload 4, 466, 0) := by decide +kernel
theorem dc_281_466 : am_dc 281 466 = some (.iconst 2, 467, 0) := by decide +kernel
theorem dc_281_467 : am_dc 281 467 = some (.iadd, 468, 0) := by decide +kernel
theorem dc_281_468 : am_dc 281 468 = some (.iaload, 469, 0) := by decide +kernel
theorem dc_281_469 : am_dc 281 469 = some (.ifCond .eq 7, 472, 476) := by decide +kernel
theorem dc_281_472 : am_dc 281 472 = some (.iconst 1, 473, 0) := by decide +kernel
theorem dc_281_473 : am_dc 281 473 = some (.goto 4, 476, 477) := by decide +kernel
theorem dc_281_476 : am_dc 281 476 = some (.iconst 0, 477, 0) := by decide +kernel
theorem dc_281_477 : am_dc 281 477 = some (.invokevirtual 59, 480, 0) := by decide +kernel
theorem dc_281_480 : am_dc 281 480 = some (.aload_n 2, 481, 0) := by decide +kernel
theorem dc_281_481 : am_dc 281 481 = some (.aload_n 0, 482, 0) := by decide +kernel
theorem dc_281_482 : am_dc 281 482 = some (.iload 4, 484, 0) := by decide +kernel
theorem dc_281_484 : am_dc 281 484 = some (.iconst 1, 485, 0) := by decide +kernel
theorem dc_281_485 : am_dc 281 485 = some (.iadd, 486, 0) := by decide +kernel
theorem dc_281_486 : am_dc 281 486 = some (.iaload, 487, 0) := by decide +kernel
theorem dc_281_487 : am_dc 281 487 = some (.aload_n 0, 488, 0) := by decide +kernel
theorem dc_281_488 : am_dc 281 488 = some (.iload 4, 490, 0) := by decide +kernel
theorem dc_281_490 : am_dc 281 490 = some (.iconst 2, 491, 0) := by decide +kernel
theorem dc_281_491 : am_dc 281 491 = some (.iadd, 492, 0) := by decide +kernel
theorem dc_281_492 : am_dc 281 492 = some (.iaload, 493, 0) := by decide +kernel
theorem dc_281_493 : am_dc 281 493 = some (.ifCond .eq 7, 496, 500) := by decide +kernel
theorem dc_281_496 : am_dc 281 496 = some (.iconst 1, 497, 0) := by decide +kernel
theorem dc_281_497 : am_dc 281 497 = some (.goto 4, 500, 501) := by decide +kernel
theorem dc_281_500 : am_dc 281 500 = some (.iconst 0, 501, 0) := by decide +kernel
theorem dc_281_501 : am_dc 281 501 = some (.invokevirtual 63, 504, 0) := by decide +kernel
theorem dc_281_504 : am_dc 281 504 = some (.if_icmp .eq 758, 507, 1262) := by decide +kernel
theorem dc_281_507 : am_dc 281 507 = some (.iconst 0, 508, 0) := by decide +kernel
theorem dc_281_508 : am_dc 281 508 = some (.ireturn, 509, 0) := by decide +kernel
theorem dc_281_509 : am_dc 281 509 = some (.aload_n 1, 510, 0) := by decide +kernel
theorem dc_281_510 : am_dc 281 510 = some (.invokevirtual 64, 513, 0) := by decide +kernel
theorem dc_281_513 : am_dc 281 513 = some (.aload_n 2, 514, 0) := by decide +kernel
theorem dc_281_514 : am_dc 281 514 = some (.invokevirtual 68, 517, 0) := by decide +kernel
theorem dc_281_517 : am_dc 281 517 = some (.if_icmp .eq 745, 520, 1262) := by decide +kernel
theorem dc_281_520 : am_dc 281 520 = some (.iconst 0, 521, 0) := by decide +kernel
theorem dc_281_521 : am_dc 281 521 = some (.ireturn, 522, 0) := by decide +kernel
theorem dc_281_522 : am_dc 281 522 = some (.aload_n 1, 523, 0) := by decide +kernel
theorem dc_281_523 : am_dc 281 523 = some (.aload_n 0, 524, 0) := by decide +kernel
theorem dc_281_524 : am_dc 281 524 = some (.iload 4, 526, 0) := by decide +kernel
theorem dc_281_526 : am_dc 281 526 = some (.iconst 1, 527, 0) := by decide +kernel
theorem dc_281_527 : am_dc 281 527 = some (.iadd, 528, 0) := by decide +kernel
theorem dc_281_528 : am_dc 281 528 = some (.iaload, 529, 0) := by decide +kernel
theorem dc_281_529 : am_dc 281 529 = some (.invokevirtual 69, 532, 0) := by decide +kernel
theorem dc_281_532 : am_dc 281 532 = some (.aload_n 2, 533, 0) := by decide +kernel
theorem dc_281_533 : am_dc 281 533 = some (.aload_n 0, 534, 0) := by decide +kernel
theorem dc_281_534 : am_dc 281 534 = some (.iload 4, 536, 0) := by decide +kernel
theorem dc_281_536 : am_dc 281 536 = some (.iconst 1, 537, 0) := by decide +kernel
theorem dc_281_537 : am_dc 281 537 = some (.iadd, 538, 0) := by decide +kernel
theorem dc_281_538 : am_dc 281 538 = some (.iaload, 539, 0) := by decide +kernel
theorem dc_281_539 : am_dc 281 539 = some (.invokevirtual 72, 542, 0) := by decide +kernel
theorem dc_281_542 : am_dc 281 542 = some (.if_icmp .eq 720, 545, 1262) := by decide +kernel
theorem dc_281_545 : am_dc 281 545 = some (.iconst 0, 546, 0) := by decide +kernel
theorem dc_281_546 : am_dc 281 546 = some (.ireturn, 547, 0) := by decide +kernel
theorem dc_281_547 : am_dc 281 547 = some (.aload_n 1, 548, 0) := by decide +kernel
theorem dc_281_548 : am_dc 281 548 = some (.invokevirtual 73, 551, 0) := by decide +kernel
theorem dc_281_551 : am_dc 281 551 = some (.aload_n 2, 552, 0) := by decide +kernel
theorem dc_281_552 : am_dc 281 552 = some (.invokevirtual 77, 555, 0) := by decide +kernel
theorem dc_281_555 : am_dc 281 555 = some (.lcmp, 556, 0) := by decide +kernel
theorem dc_281_556 : am_dc 281 556 = some (.ifCond .eq 706, 559, 1262) := by decide +kernel
theorem dc_281_559 : am_dc 281 559 = some (.iconst 0, 560, 0) := by decide +kernel
theorem dc_281_560 : am_dc 281 560 = some (.ireturn, 561, 0) := by decide +kernel
theorem dc_281_561 : am_dc 281 561 = some (.aload_n 1, 562, 0) := by decide +kernel
theorem dc_281_562 : am_dc 281 562 = some (.aload_n 0, 563, 0) := by decide +kernel
theorem dc_281_563 : am_dc 281 563 = some (.iload 4, 565, 0) := by decide +kernel
theorem dc_281_565 : am_dc 281 565 = some (.iconst 1, 566, 0) := by decide +kernel
theorem dc_281_566 : am_dc 281 566 = some (.iadd, 567, 0) := by decide +kernel
theorem dc_281_567 : am_dc 281 567 = some (.iaload, 568, 0) := by decide +kernel
theorem dc_281_568 : am_dc 281 568 = some (.aload_n 0, 569, 0) := by decide +kernel
theorem dc_281_569 : am_dc 281 569 = some (.iload 4, 571, 0) := by decide +kernel
theorem dc_281_571 : am_dc 281 571 = some (.iconst 2, 572, 0) := by decide +kernel
theorem dc_281_572 : am_dc 281 572 = some (.iadd, 573, 0) := by decide +kernel
theorem dc_281_573 : am_dc 281 573 = some (.iaload, 574, 0) := by decide +kernel
theorem dc_281_574 : am_dc 281 574 = some (.invokevirtual 78, 577, 0) := by decide +kernel
theorem dc_281_577 : am_dc 281 577 = some (.aload_n 2, 578, 0) := by decide +kernel
theorem dc_281_578 : am_dc 281 578 = some (.aload_n 0, 579, 0) := by decide +kernel
theorem dc_281_579 : am_dc 281 579 = some (.iload 4, 581, 0) := by decide +kernel
theorem dc_281_581 : am_dc 281 581 = some (.iconst 1, 582, 0) := by decide +kernel
theorem dc_281_582 : am_dc 281 582 = some (.iadd, 583, 0) := by decide +kernel
theorem dc_281_583 : am_dc 281 583 = some (.iaload, 584, 0) := by decide +kernel
theorem dc_281_584 : am_dc 281 584 = some (.aload_n 0, 585, 0) := by decide +kernel
theorem dc_281_585 : am_dc 281 585 = some (.iload 4, 587, 0) := by decide +kernel
theorem dc_281_587 : am_dc 281 587 = some (.iconst 2, 588, 0) := by decide +kernel
theorem dc_281_588 : am_dc 281 588 = some (.iadd, 589, 0) := by decide +kernel
theorem dc_281_589 : am_dc 281 589 = some (.iaload, 590, 0) := by decide +kernel
theorem dc_281_590 : am_dc 281 590 = some (.invokevirtual 81, 593, 0) := by decide +kernel
theorem dc_281_593 : am_dc 281 593 = some (.lcmp, 594, 0) := by decide +kernel
theorem dc_281_594 : am_dc 281 594 = some (.ifCond .eq 668, 597, 1262) := by decide +kernel
theorem dc_281_597 : am_dc 281 597 = some (.iconst 0, 598, 0) := by decide +kernel
theorem dc_281_598 : am_dc 281 598 = some (.ireturn, 599, 0) := by decide +kernel
theorem dc_281_599 : am_dc 281 599 = some (.aload_n 1, 600, 0) := by decide +kernel
theorem dc_281_600 : am_dc 281 600 = some (.invokevirtual 82, 603, 0) := by decide +kernel
theorem dc_281_603 : am_dc 281 603 = some (.aload_n 2, 604, 0) := by decide +kernel
theorem dc_281_604 : am_dc 281 604 = some (.invokevirtual 85, 607, 0) := by decide +kernel
theorem dc_281_607 : am_dc 281 607 = some (.if_icmp .eq 655, 610, 1262) := by decide +kernel
theorem dc_281_610 : am_dc 281 610 = some (.iconst 0, 611, 0) := by decide +kernel
theorem dc_281_611 : am_dc 281 611 = some (.ireturn, 612, 0) := by decide +kernel
theorem dc_281_612 : am_dc 281 612 = some (.aload_n 1, 613, 0) := by decide +kernel
theorem dc_281_613 : am_dc 281 613 = some (.invokevirtual 86, 616, 0) := by decide +kernel
theorem dc_281_616 : am_dc 281 616 = some (.aload_n 2, 617, 0) := by decide +kernel
theorem dc_281_617 : am_dc 281 617 = some (.invokevirtual 89, 620, 0) := by decide +kernel
theorem dc_281_620 : am_dc 281 620 = some (.lcmp, 621, 0) := by decide +kernel
theorem dc_281_621 : am_dc 281 621 = some (.ifCond .eq 641, 624, 1262) := by decide +kernel
theorem dc_281_624 : am_dc 281 624 = some (.iconst 0, 625, 0) := by decide +kernel
theorem dc_281_625 : am_dc 281 625 = some (.ireturn, 626, 0) := by decide +kernel
theorem dc_281_626 : am_dc 281 626 = some (.aload_n 1, 627, 0) := by decide +kernel
theorem dc_281_627 : am_dc 281 627 = some (.invokevirtual 90, 630, 0) := by decide +kernel
theorem dc_281_630 : am_dc 281 630 = some (.aload_n 2, 631, 0) := by decide +kernel
theorem dc_281_631 : am_dc 281 631 = some (.invokevirtual 93, 634, 0) := by decide +kernel
theorem dc_281_634 : am_dc 281 634 = some (.if_icmp .eq 628, 637, 1262) := by decide +kernel
theorem dc_281_637 : am_dc 281 637 = some (.iconst 0, 638, 0) := by decide +kernel
theorem dc_281_638 : am_dc 281 638 = some (.ireturn, 639, 0) := by decide +kernel
theorem dc_281_639 : am_dc 281 639 = some (.aload_n 1, 640, 0) := by decide +kernel
theorem dc_281_640 : am_dc 281 640 = some (.invokevirtual 94, 643, 0) := by decide +kernel
theorem dc_281_643 : am_dc 281 643 = some (.aload_n 2, 644, 0) := by decide +kernel
theorem dc_281_644 : am_dc 281 644 = some (.invokevirtual 97, 647, 0) := by decide +kernel
theorem dc_281_647 : am_dc 281 647 = some (.lcmp, 648, 0) := by decide +kernel
theorem dc_281_648 : am_dc 281 648 = some (.ifCond .eq 614, 651, 1262) := by decide +kernel
theorem dc_281_651 : am_dc 281 651 = some (.iconst 0, 652, 0) := by decide +kernel
theorem dc_281_652 : am_dc 281 652 = some (.ireturn, 653, 0) := by decide +kernel
theorem dc_281_653 : am_dc 281 653 = some (.aload_n 1, 654, 0) := by decide +kernel
theorem dc_281_654 : am_dc 281 654 = some (.invokevirtual 98, 657, 0) := by decide +kernel
theorem dc_281_657 : am_dc 281 657 = some (.aload_n 2, 658, 0) := by decide +kernel
theorem dc_281_658 : am_dc 281 658 = some (.invokevirtual 101, 661, 0) := by decide +kernel
theorem dc_281_661 : am_dc 281 661 = some (.lcmp, 662, 0) := by decide +kernel
theorem dc_281_662 : am_dc 281 662 = some (.ifCond .eq 600, 665, 1262) := by decide +kernel
theorem dc_281_665 : am_dc 281 665 = some (.iconst 0, 666, 0) := by decide +kernel
theorem dc_281_666 : am_dc 281 666 = some (.ireturn, 667, 0) := by decide +kernel
theorem dc_281_667 : am_dc 281 667 = some (.aload_n 1, 668, 0) := by decide +kernel
theorem dc_281_668 : am_dc 281 668 = some (.invokevirtual 102, 671, 0) := by decide +kernel
theorem dc_281_671 : am_dc 281 671 = some (.aload_n 2, 672, 0) := by decide +kernel
theorem dc_281_672 : am_dc 281 672 = some (.invokevirtual 105, 675, 0) := by decide +kernel
theorem dc_281_675 : am_dc 281 675 = some (.if_icmp .eq 587, 678, 1262) := by decide +kernel
theorem dc_281_678 : am_dc 281 678 = some (.iconst 0, 679, 0) := by decide +kernel
theorem dc_281_679 : am_dc 281 679 = some (.ireturn, 680, 0) := by decide +kernel
theorem dc_281_680 : am_dc 281 680 = some (.aload_n 1, 681, 0) := by decide +kernel
theorem dc_281_681 : am_dc 281 681 = some (.aload_n 0, 682, 0) := by decide +kernel
theorem dc_281_682 : am_dc 281 682 = some (.iload 4, 684, 0) := by decide +kernel
theorem dc_281_684 : am_dc 281 684 = some (.iconst 1, 685, 0) := by decide +kernel
theorem dc_281_685 : am_dc 281 685 = some (.iadd, 686, 0) := by decide +kernel
theorem dc_281_686 : am_dc 281 686 = some (.iaload, 687, 0) := by decide +kernel
theorem dc_281_687 : am_dc 281 687 = some (.aload_n 0, 688, 0) := by decide +kernel
theorem dc_281_688 : am_dc 281 688 = some (.iload 4, 690, 0) := by decide +kernel
theorem dc_281_690 : am_dc 281 690 = some (.iconst 2, 691, 0) := by decide +kernel
theorem dc_281_691 : am_dc 281 691 = some (.iadd, 692, 0) := by decide +kernel
theorem dc_281_692 : am_dc 281 692 = some (.iaload, 693, 0) := by decide +kernel
theorem dc_281_693 : am_dc 281 693 = some (.invokevirtual 106, 696, 0) := by decide +kernel
theorem dc_281_696 : am_dc 281 696 = some (.aload_n 2, 697, 0) := by decide +kernel
theorem dc_281_697 : am_dc 281 697 = some (.aload_n 0, 698, 0) := by decide +kernel
theorem dc_281_698 : am_dc 281 698 = some (.iload 4, 700, 0) := by decide +kernel
theorem dc_281_700 : am_dc 281 700 = some (.iconst 1, 701, 0) := by decide +kernel
theorem dc_281_701 : am_dc 281 701 = some (.iadd, 702, 0) := by decide +kernel
theorem dc_281_702 : am_dc 281 702 = some (.iaload, 703, 0) := by decide +kernel
theorem dc_281_703 : am_dc 281 703 = some (.aload_n 0, 704, 0) := by decide +kernel
theorem dc_281_704 : am_dc 281 704 = some (.iload 4, 706, 0) := by decide +kernel
theorem dc_281_706 : am_dc 281 706 = some (.iconst 2, 707, 0) := by decide +kernel
theorem dc_281_707 : am_dc 281 707 = some (.iadd, 708, 0) := by decide +kernel
theorem dc_281_708 : am_dc 281 708 = some (.iaload, 709, 0) := by decide +kernel
theorem dc_281_709 : am_dc 281 709 = some (.invokevirtual 109, 712, 0) := by decide +kernel
theorem dc_281_712 : am_dc 281 712 = some (.lcmp, 713, 0) := by decide +kernel
theorem dc_281_713 : am_dc 281 713 = some (.ifCond .eq 549, 716, 1262) := by decide +kernel
theorem dc_281_716 : am_dc 281 716 = some (.iconst 0, 717, 0) := by decide +kernel
theorem dc_281_717 : am_dc 281 717 = some (.ireturn, 718, 0) := by decide +kernel
theorem dc_281_718 : am_dc 281 718 = some (.aload_n 1, 719, 0) := by decide +kernel
theorem dc_281_719 : am_dc 281 719 = some (.aload_n 0, 720, 0) := by decide +kernel
theorem dc_281_720 : am_dc 281 720 = some (.iload 4, 722, 0) := by decide +kernel
theorem dc_281_722 : am_dc 281 722 = some (.iconst 1, 723, 0) := by decide +kernel
theorem dc_281_723 : am_dc 281 723 = some (.iadd, 724, 0) := by decide +kernel
theorem dc_281_724 : am_dc 281 724 = some (.iaload, 725, 0) := by decide +kernel
theorem dc_281_725 : am_dc 281 725 = some (.invokevirtual 110, 728, 0) := by decide +kernel
theorem dc_281_728 : am_dc 281 728 = some (.aload_n 2, 729, 0) := by decide +kernel
theorem dc_281_729 : am_dc 281 729 = some (.aload_n 0, 730, 0) := by decide +kernel
theorem dc_281_730 : am_dc 281 730 = some (.iload 4, 732, 0) := by decide +kernel
theorem dc_281_732 : am_dc 281 732 = some (.iconst 1, 733, 0) := by decide +kernel
theorem dc_281_733 : am_dc 281 733 = some (.iadd, 734, 0) := by decide +kernel
theorem dc_281_734 : am_dc 281 734 = some (.iaload, 735, 0) := by decide +kernel
theorem dc_281_735 : am_dc 281 735 = some (.invokevirtual 113, 738, 0) := by decide +kernel
theorem dc_281_738 : am_dc 281 738 = some (.if_icmp .eq 524, 741, 1262) := by decide +kernel
theorem dc_281_741 : am_dc 281 741 = some (.iconst 0, 742, 0) := by decide +kernel
theorem dc_281_742 : am_dc 281 742 = some (.ireturn, 743, 0) := by decide +kernel
theorem dc_281_743 : am_dc 281 743 = some (.aload_n 1, 744, 0) := by decide +kernel
theorem dc_281_744 : am_dc 281 744 = some (.aload_n 0, 745, 0) := by decide +kernel
theorem dc_281_745 : am_dc 281 745 = some (.iload 4, 747, 0) := by decide +kernel
theorem dc_281_747 : am_dc 281 747 = some (.iconst 1, 748, 0) := by decide +kernel
theorem dc_281_748 : am_dc 281 748 = some (.iadd, 749, 0) := by decide +kernel
theorem dc_281_749 : am_dc 281 749 = some (.iaload, 750, 0) := by decide +kernel
theorem dc_281_750 : am_dc 281 750 = some (.invokevirtual 114, 753, 0) := by decide +kernel
theorem dc_281_753 : am_dc 281 753 = some (.aload_n 2, 754, 0) := by decide +kernel
theorem dc_281_754 : am_dc 281 754 = some (.aload_n 0, 755, 0) := by decide +kernel
theorem dc_281_755 : am_dc 281 755 = some (.iload 4, 757, 0) := by decide +kernel
theorem dc_281_757 : am_dc 281 757 = some (.iconst 1, 758, 0) := by decide +kernel
theorem dc_281_758 : am_dc 281 758 = some (.iadd, 759, 0) := by decide +kernel
theorem dc_281_759 : am_dc 281 759 = some (.iaload, 760, 0) := by decide +kernel
theorem dc_281_760 : am_dc 281 760 = some (.invokevirtual 117, 763, 0) := by decide +kernel
theorem dc_281_763 : am_dc 281 763 = some (.if_icmp .eq 499, 766, 1262) := by decide +kernel
theorem dc_281_766 : am_dc 281 766 = some (.iconst 0, 767, 0) := by decide +kernel
theorem dc_281_767 : am_dc 281 767 = some (.ireturn, 768, 0) := by decide +kernel
theorem dc_281_768 : am_dc 281 768 = some (.aload_n 1, 769, 0) := by decide +kernel
theorem dc_281_769 : am_dc 281 769 = some (.aload_n 0, 770, 0) := by decide +kernel
theorem dc_281_770 : am_dc 281 770 = some (.iload 4, 772, 0) := by decide +kernel
theorem dc_281_772 : am_dc 281 772 = some (.iconst 1, 773, 0) := by decide +kernel
theorem dc_281_773 : am_dc 281 773 = some (.iadd, 774, 0) := by decide +kernel
theorem dc_281_774 : am_dc 281 774 = some (.iaload, 775, 0) := by decide +kernel
theorem dc_281_775 : am_dc 281 775 = some (.invokevirtual 118, 778, 0) := by decide +kernel
theorem dc_281_778 : am_dc 281 778 = some (.aload_n 2, 779, 0) := by decide +kernel
theorem dc_281_779 : am_dc 281 779 = some (.aload_n 0, 780, 0) := by decide +kernel
theorem dc_281_780 : am_dc 281 780 = some (.iload 4, 782, 0) := by decide +kernel
theorem dc_281_782 : am_dc 281 782 = some (.iconst 1, 783, 0) := by decide +kernel
theorem dc_281_783 : am_dc 281 783 = some (.iadd, 784, 0) := by decide +kernel
theorem dc_281_784 : am_dc 281 784 = some (.iaload, 785, 0) := by decide +kernel
theorem dc_281_785 : am_dc 281 785 = some (.invokevirtual 122, 788, 0) := by decide +kernel
theorem dc_281_788 : am_dc 281 788 = some (.lcmp, 789, 0) := by decide +kernel
theorem dc_281_789 : am_dc 281 789 = some (.ifCond .eq 473, 792, 1262) := by decide +kernel
theorem dc_281_792 : am_dc 281 792 = some (.iconst 0, 793, 0) := by decide +kernel
theorem dc_281_793 : am_dc 281 793 = some (.ireturn, 794, 0) := by decide +kernel
theorem dc_281_794 : am_dc 281 794 = some (.aload_n 1, 795, 0) := by decide +kernel
theorem dc_281_795 : am_dc 281 795 = some (.invokevirtual 123, 798, 0) := by decide +kernel
theorem dc_281_798 : am_dc 281 798 = some (.aload_n 2, 799, 0) := by decide +kernel
theorem dc_281_799 : am_dc 281 799 = some (.invokevirtual 126, 802, 0) := by decide +kernel
theorem dc_281_802 : am_dc 281 802 = some (.if_icmp .eq 460, 805, 1262) := by decide +kernel
theorem dc_281_805 : am_dc 281 805 = some (.iconst 0, 806, 0) := by decide +kernel
theorem dc_281_806 : am_dc 281 806 = some (.ireturn, 807, 0) := by decide +kernel
theorem dc_281_807 : am_dc 281 807 = some (.aload_n 1, 808, 0) := by decide +kernel
theorem dc_281_808 : am_dc 281 808 = some (.aload_n 0, 809, 0) := by decide +kernel
theorem dc_281_809 : am_dc 281 809 = some (.iload 4, 811, 0) := by decide +kernel
theorem dc_281_811 : am_dc 281 811 = some (.iconst 1, 812, 0) := by decide +kernel
theorem dc_281_812 : am_dc 281 812 = some (.iadd, 813, 0) := by decide +kernel
theorem dc_281_813 : am_dc 281 813 = some (.iaload, 814, 0) := by decide +kernel
theorem dc_281_814 : am_dc 281 814 = some (.aload_n 0, 815, 0) := by decide +kernel
theorem dc_281_815 : am_dc 281 815 = some (.iload 4, 817, 0) := by decide +kernel
theorem dc_281_817 : am_dc 281 817 = some (.iconst 2, 818, 0) := by decide +kernel
theorem dc_281_818 : am_dc 281 818 = some (.iadd, 819, 0) := by decide +kernel
theorem dc_281_819 : am_dc 281 819 = some (.iaload, 820, 0) := by decide +kernel
theorem dc_281_820 : am_dc 281 820 = some (.aload_n 3, 821, 0) := by decide +kernel
theorem dc_281_821 : am_dc 281 821 = some (.invokestatic 127, 824, 0) := by decide +kernel
theorem dc_281_824 : am_dc 281 824 = some (.istore 5, 826, 0) := by decide +kernel
theorem dc_281_826 : am_dc 281 826 = some (.aload_n 2, 827, 0) := by decide +kernel
theorem dc_281_827 : am_dc 281 827 = some (.aload_n 0, 828, 0) := by decide +kernel
theorem dc_281_828 : am_dc 281 828 = some (.iload 4, 830, 0) := by decide +kernel
theorem dc_281_830 : am_dc 281 830 = some (.iconst 1, 831, 0) := by decide +kernel
theorem dc_281_831 : am_dc 281 831 = some (.iadd, 832, 0) := by decide +kernel
theorem dc_281_832 : am_dc 281 832 = some (.iaload, 833, 0) := by decide +kernel
theorem dc_281_833 : am_dc 281 833 = some (.aload_n 0, 834, 0) := by decide +kernel
theorem dc_281_834 : am_dc 281 834 = some (.iload 4, 836, 0) := by decide +kernel
theorem dc_281_836 : am_dc 281 836 = some (.iconst 2, 837, 0) := by decide +kernel
theorem dc_281_837 : am_dc 281 837 = some (.iadd, 838, 0) := by decide +kernel
theorem dc_281_838 : am_dc 281 838 = some (.iaload, 839, 0) := by decide +kernel
theorem dc_281_839 : am_dc 281 839 = some (.invokevirtual 132, 842, 0) := by decide +kernel
theorem dc_281_842 : am_dc 281 842 = some (.lstore 6, 844, 0) := by decide +kernel
theorem dc_281_844 : am_dc 281 844 = some (.aload_n 2, 845, 0) := by decide +kernel
theorem dc_281_845 : am_dc 281 845 = some (.invokevirtual 133, 848, 0) := by decide +kernel
theorem dc_281_848 : am_dc 281 848 = some (.iload 5, 850, 0) := by decide +kernel
theorem dc_281_850 : am_dc 281 850 = some (.if_icmp .eq 5, 853, 855) := by decide +kernel
theorem dc_281_853 : am_dc 281 853 = some (.iconst 0, 854, 0) := by decide +kernel
theorem dc_281_854 : am_dc 281 854 = some (.ireturn, 855, 0) := by decide +kernel
theorem dc_281_855 : am_dc 281 855 = some (.iload 5, 857, 0) := by decide +kernel
theorem dc_281_857 : am_dc 281 857 = some (.ifCond .ne 14, 860, 871) := by decide +kernel
theorem dc_281_860 : am_dc 281 860 = some (.aload_n 3, 861, 0) := by decide +kernel
theorem dc_281_861 : am_dc 281 861 = some (.iconst 0, 862, 0) := by decide +kernel
theorem dc_281_862 : am_dc 281 862 = some (.laload, 863, 0) := by decide +kernel
theorem dc_281_863 : am_dc 281 863 = some (.lload 6, 865, 0) := by decide +kernel
theorem dc_281_865 : am_dc 281 865 = some (.lcmp, 866, 0) := by decide +kernel
theorem dc_281_866 : am_dc 281 866 = some (.ifCond .eq 5, 869, 871) := by decide +kernel
theorem dc_281_869 : am_dc 281 869 = some (.iconst 0, 870, 0) := by decide +kernel
theorem dc_281_870 : am_dc 281 870 = some (.ireturn, 871, 0) := by decide +kernel
theorem dc_281_871 : am_dc 281 871 = some (.goto 391, 874, 1262) := by decide +kernel
theorem dc_281_874 : am_dc 281 874 = some (.aload_n 1, 875, 0) := by decide +kernel
theorem dc_281_875 : am_dc 281 875 = some (.invokevirtual 136, 878, 0) := by decide +kernel
theorem dc_281_878 : am_dc 281 878 = some (.aload_n 2, 879, 0) := by decide +kernel
theorem dc_281_879 : am_dc 281 879 = some (.invokevirtual 139, 882, 0) := by decide +kernel
theorem dc_281_882 : am_dc 281 882 = some (.if_icmp .eq 380, 885, 1262) := by decide +kernel
theorem dc_281_885 : am_dc 281 885 = some (.iconst 0, 886, 0) := by decide +kernel
theorem dc_281_886 : am_dc 281 886 = some (.ireturn, 887, 0) := by decide +kernel
theorem dc_281_887 : am_dc 281 887 = some (.aload_n 1, 888, 0) := by decide +kernel
theorem dc_281_888 : am_dc 281 888 = some (.invokevirtual 140, 891, 0) := by decide +kernel
theorem dc_281_891 : am_dc 281 891 = some (.aload_n 2, 892, 0) := by decide +kernel
theorem dc_281_892 : am_dc 281 892 = some (.invokevirtual 143, 895, 0) := by decide +kernel
theorem dc_281_895 : am_dc 281 895 = some (.if_icmp .eq 367, 898, 1262) := by decide +kernel
theorem dc_281_898 : am_dc 281 898 = some (.iconst 0, 899, 0) := by decide +kernel
theorem dc_281_899 : am_dc 281 899 = some (.ireturn, 900, 0) := by decide +kernel
theorem dc_281_900 : am_dc 281 900 = some (.aload_n 1, 901, 0) := by decide +kernel
theorem dc_281_901 : am_dc 281 901 = some (.aload_n 0, 902, 0) := by decide +kernel
theorem dc_281_902 : am_dc 281 902 = some (.iload 4, 904, 0) := by decide +kernel
theorem dc_281_904 : am_dc 281 904 = some (.iconst 1, 905, 0) := by decide +kernel
theorem dc_281_905 : am_dc 281 905 = some (.iadd, 906, 0) := by decide +kernel
theorem dc_281_906 : am_dc 281 906 = some (.iaload, 907, 0) := by decide +kernel
theorem dc_281_907 : am_dc 281 907 = some (.invokevirtual 144, 910, 0) := by decide +kernel
theorem dc_281_910 : am_dc 281 910 = some (.aload_n 2, 911, 0) := by decide +kernel
theorem dc_281_911 : am_dc 281 911 = some (.aload_n 0, 912, 0) := by decide +kernel
theorem dc_281_912 : am_dc 281 912 = some (.iload 4, 914, 0) := by decide +kernel
theorem dc_281_914 : am_dc 281 914 = some (.iconst 1, 915, 0) := by decide +kernel
theorem dc_281_915 : am_dc 281 915 = some (.iadd, 916, 0) := by decide +kernel
theorem dc_281_916 : am_dc 281 916 = some (.iaload, 917, 0) := by decide +kernel
theorem dc_281_917 : am_dc 281 917 = some (.invokevirtual 147, 920, 0) := by decide +kernel
theorem dc_281_920 : am_dc 281 920 = some (.if_icmp .eq 342, 923, 1262) := by decide +kernel
theorem dc_281_923 : am_dc 281 923 = some (.iconst 0, 924, 0) := by decide +kernel
theorem dc_281_924 : am_dc 281 924 = some (.ireturn, 925, 0) := by decide +kernel
theorem dc_281_925 : am_dc 281 925 = some (.aload_n 1, 926, 0) := by decide +kernel
theorem dc_281_926 : am_dc 281 926 = some (.aload_n 0, 927, 0) := by decide +kernel
theorem dc_281_927 : am_dc 281 927 = some (.iload 4, 929, 0) := by decide +kernel
theorem dc_281_929 : am_dc 281 929 = some (.iconst 1, 930, 0) := by decide +kernel
theorem dc_281_930 : am_dc 281 930 = some (.iadd, 931, 0) := by decide +kernel
theorem dc_281_931 : am_dc 281 931 = some (.iaload, 932, 0) := by decide +kernel
theorem dc_281_932 : am_dc 281 932 = some (.aload_n 0, 933, 0) := by decide +kernel
theorem dc_281_933 : am_dc 281 933 = some (.iload 4, 935, 0) := by decide +kernel
theorem dc_281_935 : am_dc 281 935 = some (.iconst 2, 936, 0) := by decide +kernel
theorem dc_281_936 : am_dc 281 936 = some (.iadd, 937, 0) := by decide +kernel
theorem dc_281_937 : am_dc 281 937 = some (.iaload, 938, 0) := by decide +kernel
theorem dc_281_938 : am_dc 281 938 = some (.aload_n 0, 939, 0) := by decide +kernel
theorem dc_281_939 : am_dc 281 939 = some (.iload 4, 941, 0) := by decide +kernel
theorem dc_281_941 : am_dc 281 941 = some (.iconst 3, 942, 0) := by decide +kernel
theorem dc_281_942 : am_dc 281 942 = some (.iadd, 943, 0) := by decide +kernel
theorem dc_281_943 : am_dc 281 943 = some (.iaload, 944, 0) := by decide +kernel
theorem dc_281_944 : am_dc 281 944 = some (.invokevirtual 148, 947, 0) := by decide +kernel
theorem dc_281_947 : am_dc 281 947 = some (.aload_n 2, 948, 0) := by decide +kernel
theorem dc_281_948 : am_dc 281 948 = some (.aload_n 0, 949, 0) := by decide +kernel
theorem dc_281_949 : am_dc 281 949 = some (.iload 4, 951, 0) := by decide +kernel
theorem dc_281_951 : am_dc 281 951 = some (.iconst 1, 952, 0) := by decide +kernel
theorem dc_281_952 : am_dc 281 952 = some (.iadd, 953, 0) := by decide +kernel
theorem dc_281_953 : am_dc 281 953 = some (.iaload, 954, 0) := by decide +kernel
theorem dc_281_954 : am_dc 281 954 = some (.aload_n 0, 955, 0) := by decide +kernel
theorem dc_281_955 : am_dc 281 955 = some (.iload 4, 957, 0) := by decide +kernel
theorem dc_281_957 : am_dc 281 957 = some (.iconst 2, 958, 0) := by decide +kernel
theorem dc_281_958 : am_dc 281 958 = some (.iadd, 959, 0) := by decide +kernel
theorem dc_281_959 : am_dc 281 959 = some (.iaload, 960, 0) := by decide +kernel
theorem dc_281_960 : am_dc 281 960 = some (.aload_n 0, 961, 0) := by decide +kernel
theorem dc_281_961 : am_dc 281 961 = some (.iload 4, 963, 0) := by decide +kernel
theorem dc_281_963 : am_dc 281 963 = some (.iconst 3, 964, 0) := by decide +kernel
theorem dc_281_964 : am_dc 281 964 = some (.iadd, 965, 0) := by decide +kernel
theorem dc_281_965 : am_dc 281 965 = some (.iaload, 966, 0) := by decide +kernel
theorem dc_281_966 : am_dc 281 966 = some (.invokevirtual 151, 969, 0) := by decide +kernel
theorem dc_281_969 : am_dc 281 969 = some (.if_icmp .eq 293, 972, 1262) := by decide +kernel
theorem dc_281_972 : am_dc 281 972 = some (.iconst 0, 973, 0) := by decide +kernel
theorem dc_281_973 : am_dc 281 973 = some (.ireturn, 974, 0) := by decide +kernel
theorem dc_281_974 : am_dc 281 974 = some (.aload_n 1, 975, 0) := by decide +kernel
theorem dc_281_975 : am_dc 281 975 = some (.aload_n 0, 976, 0) := by decide +kernel
theorem dc_281_976 : am_dc 281 976 = some (.iload 4, 978, 0) := by decide +kernel
theorem dc_281_978 : am_dc 281 978 = some (.iconst 1, 979, 0) := by decide +kernel
theorem dc_281_979 : am_dc 281 979 = some (.iadd, 980, 0) := by decide +kernel
theorem dc_281_980 : am_dc 281 980 = some (.iaload, 981, 0) := by decide +kernel
theorem dc_281_981 : am_dc 281 981 = some (.aload_n 0, 982, 0) := by decide +kernel
theorem dc_281_982 : am_dc 281 982 = some (.iload 4, 984, 0) := by decide +kernel
theorem dc_281_984 : am_dc 281 984 = some (.iconst 2, 985, 0) := by decide +kernel
theorem dc_281_985 : am_dc 281 985 = some (.iadd, 986, 0) := by decide +kernel
theorem dc_281_986 : am_dc 281 986 = some (.iaload, 987, 0) := by decide +kernel
theorem dc_281_987 : am_dc 281 987 = some (.aload_n 0, 988, 0) := by decide +kernel
theorem dc_281_988 : am_dc 281 988 = some (.iload 4, 990, 0) := by decide +kernel
theorem dc_281_990 : am_dc 281 990 = some (.iconst 3, 991, 0) := by decide +kernel
theorem dc_281_991 : am_dc 281 991 = some (.iadd, 992, 0) := by decide +kernel
theorem dc_281_992 : am_dc 281 992 = some (.iaload, 993, 0) := by decide +kernel
theorem dc_281_993 : am_dc 281 993 = some (.invokevirtual 152, 996, 0) := by decide +kernel
theorem dc_281_996 : am_dc 281 996 = some (.aload_n 2, 997, 0) := by decide +kernel
theorem dc_281_997 : am_dc 281 997 = some (.aload_n 0, 998, 0) := by decide +kernel
theorem dc_281_998 : am_dc 281 998 = some (.iload 4, 1000, 0) := by decide +kernel
theorem dc_281_1000 : am_dc 281 1000 = some (.iconst 1, 1001, 0) := by decide +kernel
theorem dc_281_1001 : am_dc 281 1001 = some (.iadd, 1002, 0) := by decide +kernel
theorem dc_281_1002 : am_dc 281 1002 = some (.iaload, 1003, 0) := by decide +kernel
theorem dc_281_1003 : am_dc 281 1003 = some (.aload_n 0, 1004, 0) := by decide +kernel
theorem dc_281_1004 : am_dc 281 1004 = some (.iload 4, 1006, 0) := by decide +kernel
theorem dc_281_1006 : am_dc 281 1006 = some (.iconst 2, 1007, 0) := by decide +kernel
theorem dc_281_1007 : am_dc 281 1007 = some (.iadd, 1008, 0) := by decide +kernel
theorem dc_281_1008 : am_dc 281 1008 = some (.iaload, 1009, 0) := by decide +kernel
theorem dc_281_1009 : am_dc 281 1009 = some (.aload_n 0, 1010, 0) := by decide +kernel
theorem dc_281_1010 : am_dc 281 1010 = some (.iload 4, 1012, 0) := by decide +kernel
theorem dc_281_1012 : am_dc 281 1012 = some (.iconst 3, 1013, 0) := by decide +kernel
theorem dc_281_1013 : am_dc 281 1013 = some (.iadd, 1014, 0) := by decide +kernel
theorem dc_281_1014 : am_dc 281 1014 = some (.iaload, 1015, 0) := by decide +kernel
theorem dc_281_1015 : am_dc 281 1015 = some (.invokevirtual 155, 1018, 0) := by decide +kernel
theorem dc_281_1018 : am_dc 281 1018 = some (.if_icmp .eq 244, 1021, 1262) := by decide +kernel
theorem dc_281_1021 : am_dc 281 1021 = some (.iconst 0, 1022, 0) := by decide +kernel
theorem dc_281_1022 : am_dc 281 1022 = some (.ireturn, 1023, 0) := by decide +kernel
theorem dc_281_1023 : am_dc 281 1023 = some (.aload_n 1, 1024, 0) := by decide +kernel
theorem dc_281_1024 : am_dc 281 1024 = some (.aload_n 0, 1025, 0) := by decide +kernel
theorem dc_281_1025 : am_dc 281 1025 = some (.iload 4, 1027, 0) := by decide +kernel
theorem dc_281_1027 : am_dc 281 1027 = some (.iconst 1, 1028, 0) := by decide +kernel
theorem dc_281_1028 : am_dc 281 1028 = some (.iadd, 1029, 0) := by decide +kernel
theorem dc_281_1029 : am_dc 281 1029 = some (.iaload, 1030, 0) := by decide +kernel
theorem dc_281_1030 : am_dc 281 1030 = some (.aload_n 0, 1031, 0) := by decide +kernel
theorem dc_281_1031 : am_dc 281 1031 = some (.iload 4, 1033, 0) := by decide +kernel
theorem dc_281_1033 : am_dc 281 1033 = some (.iconst 2, 1034, 0) := by decide +kernel
theorem dc_281_1034 : am_dc 281 1034 = some (.iadd, 1035, 0) := by decide +kernel
theorem dc_281_1035 : am_dc 281 1035 = some (.iaload, 1036, 0) := by decide +kernel
theorem dc_281_1036 : am_dc 281 1036 = some (.aload_n 0, 1037, 0) := by decide +kernel
theorem dc_281_1037 : am_dc 281 1037 = some (.iload 4, 1039, 0) := by decide +kernel
theorem dc_281_1039 : am_dc 281 1039 = some (.iconst 3, 1040, 0) := by decide +kernel
theorem dc_281_1040 : am_dc 281 1040 = some (.iadd, 1041, 0) := by decide +kernel
theorem dc_281_1041 : am_dc 281 1041 = some (.iaload, 1042, 0) := by decide +kernel
theorem dc_281_1042 : am_dc 281 1042 = some (.invokevirtual 156, 1045, 0) := by decide +kernel
theorem dc_281_1045 : am_dc 281 1045 = some (.aload_n 2, 1046, 0) := by decide +kernel
theorem dc_281_1046 : am_dc 281 1046 = some (.aload_n 0, 1047, 0) := by decide +kernel
theorem dc_281_1047 : am_dc 281 1047 = some (.iload 4, 1049, 0) := by decide +kernel
theorem dc_281_1049 : am_dc 281 1049 = some (.iconst 1, 1050, 0) := by decide +kernel
theorem dc_281_1050 : am_dc 281 1050 = some (.iadd, 1051, 0) := by decide +kernel
theorem dc_281_1051 : am_dc 281 1051 = some (.iaload, 1052, 0) := by decide +kernel
theorem dc_281_1052 : am_dc 281 1052 = some (.aload_n 0, 1053, 0) := by decide +kernel
theorem dc_281_1053 : am_dc 281 1053 = some (.iload 4, 1055, 0) := by decide +kernel
theorem dc_281_1055 : am_dc 281 1055 = some (.iconst 2, 1056, 0) := by decide +kernel
theorem dc_281_1056 : am_dc 281 1056 = some (.iadd, 1057, 0) := by decide +kernel
theorem dc_281_1057 : am_dc 281 1057 = some (.iaload, 1058, 0) := by decide +kernel
theorem dc_281_1058 : am_dc 281 1058 = some (.aload_n 0, 1059, 0) := by decide +kernel
theorem dc_281_1059 : am_dc 281 1059 = some (.iload 4, 1061, 0) := by decide +kernel
theorem dc_281_1061 : am_dc 281 1061 = some (.iconst 3, 1062, 0) := by decide +kernel
theorem dc_281_1062 : am_dc 281 1062 = some (.iadd, 1063, 0) := by decide +kernel
theorem dc_281_1063 : am_dc 281 1063 = some (.iaload, 1064, 0) := by decide +kernel
theorem dc_281_1064 : am_dc 281 1064 = some (.invokevirtual 159, 1067, 0) := by decide +kernel
theorem dc_281_1067 : am_dc 281 1067 = some (.if_icmp .eq 195, 1070, 1262) := by decide +kernel
theorem dc_281_1070 : am_dc 281 1070 = some (.iconst 0, 1071, 0) := by decide +kernel
theorem dc_281_1071 : am_dc 281 1071 = some (.ireturn, 1072, 0) := by decide +kernel
theorem dc_281_1072 : am_dc 281 1072 = some (.aload_n 1, 1073, 0) := by decide +kernel
theorem dc_281_1073 : am_dc 281 1073 = some (.aload_n 0, 1074, 0) := by decide +kernel
theorem dc_281_1074 : am_dc 281 1074 = some (.iload 4, 1076, 0) := by decide +kernel
theorem dc_281_1076 : am_dc 281 1076 = some (.iconst 1, 1077, 0) := by decide +kernel
theorem dc_281_1077 : am_dc 281 1077 = some (.iadd, 1078, 0) := by decide +kernel
theorem dc_281_1078 : am_dc 281 1078 = some (.iaload, 1079, 0) := by decide +kernel
theorem dc_281_1079 : am_dc 281 1079 = some (.aload_n 0, 1080, 0) := by decide +kernel
theorem dc_281_1080 : am_dc 281 1080 = some (.iload 4, 1082, 0) := by decide +kernel
theorem dc_281_1082 : am_dc 281 1082 = some (.iconst 2, 1083, 0) := by decide +kernel
theorem dc_281_1083 : am_dc 281 1083 = some (.iadd, 1084, 0) := by decide +kernel
theorem dc_281_1084 : am_dc 281 1084 = some (.iaload, 1085, 0) := by decide +kernel
theorem dc_281_1085 : am_dc 281 1085 = some (.aload_n 3, 1086, 0) := by decide +kernel
theorem dc_281_1086 : am_dc 281 1086 = some (.invokestatic 160, 1089, 0) := by decide +kernel
theorem dc_281_1089 : am_dc 281 1089 = some (.istore 5, 1091, 0) := by decide +kernel
theorem dc_281_1091 : am_dc 281 1091 = some (.aload_n 2, 1092, 0) := by decide +kernel
theorem dc_281_1092 : am_dc 281 1092 = some (.aload_n 0, 1093, 0) := by decide +kernel
theorem dc_281_1093 : am_dc 281 1093 = some (.iload 4, 1095, 0) := by decide +kernel
theorem dc_281_1095 : am_dc 281 1095 = some (.iconst 1, 1096, 0) := by decide +kernel
theorem dc_281_1096 : am_dc 281 1096 = some (.iadd, 1097, 0) := by decide +kernel
theorem dc_281_1097 : am_dc 281 1097 = some (.iaload, 1098, 0) := by decide +kernel
theorem dc_281_1098 : am_dc 281 1098 = some (.aload_n 0, 1099, 0) := by decide +kernel
theorem dc_281_1099 : am_dc 281 1099 = some (.iload 4, 1101, 0) := by decide +kernel
theorem dc_281_1101 : am_dc 281 1101 = some (.iconst 2, 1102, 0) := by decide +kernel
theorem dc_281_1102 : am_dc 281 1102 = some (.iadd, 1103, 0) := by decide +kernel
theorem dc_281_1103 : am_dc 281 1103 = some (.iaload, 1104, 0) := by decide +kernel
theorem dc_281_1104 : am_dc 281 1104 = some (.invokevirtual 162, 1107, 0) := by decide +kernel
theorem dc_281_1107 : am_dc 281 1107 = some (.lstore 6, 1109, 0) := by decide +kernel
theorem dc_281_1109 : am_dc 281 1109 = some (.aload_n 2, 1110, 0) := by decide +kernel
theorem dc_281_1110 : am_dc 281 1110 = some (.invokevirtual 133, 1113, 0) := by decide +kernel
theorem dc_281_1113 : am_dc 281 1113 = some (.iload 5, 1115, 0) := by decide +kernel
theorem dc_281_1115 : am_dc 281 1115 = some (.if_icmp .eq 5, 1118, 1120) := by decide +kernel
theorem dc_281_1118 : am_dc 281 1118 = some (.iconst 0, 1119, 0) := by decide +kernel
theorem dc_281_1119 : am_dc 281 1119 = some (.ireturn, 1120, 0) := by decide +kernel
theorem dc_281_1120 : am_dc 281 1120 = some (.iload 5, 1122, 0) := by decide +kernel
theorem dc_281_1122 : am_dc 281 1122 = some (.ifCond .ne 14, 1125, 1136) := by decide +kernel
theorem dc_281_1125 : am_dc 281 1125 = some (.aload_n 3, 1126, 0) := by decide +kernel
theorem dc_281_1126 : am_dc 281 1126 = some (.iconst 0, 1127, 0) := by decide +kernel
theorem dc_281_1127 : am_dc 281 1127 = some (.laload, 1128, 0) := by decide +kernel
theorem dc_281_1128 : am_dc 281 1128 = some (.lload 6, 1130, 0) := by decide +kernel
theorem dc_281_1130 : am_dc 281 1130 = some (.lcmp, 1131, 0) := by decide +kernel
theorem dc_281_1131 : am_dc 281 1131 = some (.ifCond .eq 5, 1134, 1136) := by decide +kernel
theorem dc_281_1134 : am_dc 281 1134 = some (.iconst 0, 1135, 0) := by decide +kernel
theorem dc_281_1135 : am_dc 281 1135 = some (.ireturn, 1136, 0) := by decide +kernel
theorem dc_281_1136 : am_dc 281 1136 = some (.goto 126, 1139, 1262) := by decide +kernel
theorem dc_281_1139 : am_dc 281 1139 = some (.aload_n 1, 1140, 0) := by decide +kernel
theorem dc_281_1140 : am_dc 281 1140 = some (.aload_n 0, 1141, 0) := by decide +kernel
theorem dc_281_1141 : am_dc 281 1141 = some (.iload 4, 1143, 0) := by decide +kernel
theorem dc_281_1143 : am_dc 281 1143 = some (.iconst 1, 1144, 0) := by decide +kernel
theorem dc_281_1144 : am_dc 281 1144 = some (.iadd, 1145, 0) := by decide +kernel
theorem dc_281_1145 : am_dc 281 1145 = some (.iaload, 1146, 0) := by decide +kernel
theorem dc_281_1146 : am_dc 281 1146 = some (.aload_n 0, 1147, 0) := by decide +kernel
theorem dc_281_1147 : am_dc 281 1147 = some (.iload 4, 1149, 0) := by decide +kernel
theorem dc_281_1149 : am_dc 281 1149 = some (.iconst 2, 1150, 0) := by decide +kernel
theorem dc_281_1150 : am_dc 281 1150 = some (.iadd, 1151, 0) := by decide +kernel
theorem dc_281_1151 : am_dc 281 1151 = some (.iaload, 1152, 0) := by decide +kernel
theorem dc_281_1152 : am_dc 281 1152 = some (.aload_n 0, 1153, 0) := by decide +kernel
theorem dc_281_1153 : am_dc 281 1153 = some (.iload 4, 1155, 0) := by decide +kernel
theorem dc_281_1155 : am_dc 281 1155 = some (.iconst 3, 1156, 0) := by decide +kernel
theorem dc_281_1156 : am_dc 281 1156 = some (.iadd, 1157, 0) := by decide +kernel
theorem dc_281_1157 : am_dc 281 1157 = some (.iaload, 1158, 0) := by decide +kernel
theorem dc_281_1158 : am_dc 281 1158 = some (.aload_n 0, 1159, 0) := by decide +kernel
theorem dc_281_1159 : am_dc 281 1159 = some (.iload 4, 1161, 0) := by decide +kernel
theorem dc_281_1161 : am_dc 281 1161 = some (.iconst 4, 1162, 0) := by decide +kernel
theorem dc_281_1162 : am_dc 281 1162 = some (.iadd, 1163, 0) := by decide +kernel
theorem dc_281_1163 : am_dc 281 1163 = some (.iaload, 1164, 0) := by decide +kernel
theorem dc_281_1164 : am_dc 281 1164 = some (.aload_n 0, 1165, 0) := by decide +kernel
theorem dc_281_1165 : am_dc 281 1165 = some (.iload 4, 1167, 0) := by decide +kernel
theorem dc_281_1167 : am_dc 281 1167 = some (.iconst 5, 1168, 0) := by decide +kernel
theorem dc_281_1168 : am_dc 281 1168 = some (.iadd, 1169, 0) := by decide +kernel
theorem dc_281_1169 : am_dc 281 1169 = some (.iaload, 1170, 0) := by decide +kernel
theorem dc_281_1170 : am_dc 281 1170 = some (.invokevirtual 163, 1173, 0) := by decide +kernel
theorem dc_281_1173 : am_dc 281 1173 = some (.aload_n 2, 1174, 0) := by decide +kernel
theorem dc_281_1174 : am_dc 281 1174 = some (.aload_n 0, 1175, 0) := by decide +kernel
theorem dc_281_1175 : am_dc 281 1175 = some (.iload 4, 1177, 0) := by decide +kernel
theorem dc_281_1177 : am_dc 281 1177 = some (.iconst 1, 1178, 0) := by decide +kernel
theorem dc_281_1178 : am_dc 281 1178 = some (.iadd, 1179, 0) := by decide +kernel
theorem dc_281_1179 : am_dc 281 1179 = some (.iaload, 1180, 0) := by decide +kernel
theorem dc_281_1180 : am_dc 281 1180 = some (.aload_n 0, 1181, 0) := by decide +kernel
theorem dc_281_1181 : am_dc 281 1181 = some (.iload 4, 1183, 0) := by decide +kernel
theorem dc_281_1183 : am_dc 281 1183 = some (.iconst 2, 1184, 0) := by decide +kernel
theorem dc_281_1184 : am_dc 281 1184 = some (.iadd, 1185, 0) := by decide +kernel
theorem dc_281_1185 : am_dc 281 1185 = some (.iaload, 1186, 0) := by decide +kernel
theorem dc_281_1186 : am_dc 281 1186 = some (.aload_n 0, 1187, 0) := by decide +kernel
theorem dc_281_1187 : am_dc 281 1187 = some (.iload 4, 1189, 0) := by decide +kernel
theorem dc_281_1189 : am_dc 281 1189 = some (.iconst 3, 1190, 0) := by decide +kernel
theorem dc_281_1190 : am_dc 281 1190 = some (.iadd, 1191, 0) := by decide +kernel
theorem dc_281_1191 : am_dc 281 1191 = some (.iaload, 1192, 0) := by decide +kernel
theorem dc_281_1192 : am_dc 281 1192 = some (.aload_n 0, 1193, 0) := by decide +kernel
theorem dc_281_1193 : am_dc 281 1193 = some (.iload 4, 1195, 0) := by decide +kernel
theorem dc_281_1195 : am_dc 281 1195 = some (.iconst 4, 1196, 0) := by decide +kernel
theorem dc_281_1196 : am_dc 281 1196 = some (.iadd, 1197, 0) := by decide +kernel
theorem dc_281_1197 : am_dc 281 1197 = some (.iaload, 1198, 0) := by decide +kernel
theorem dc_281_1198 : am_dc 281 1198 = some (.aload_n 0, 1199, 0) := by decide +kernel
theorem dc_281_1199 : am_dc 281 1199 = some (.iload 4, 1201, 0) := by decide +kernel
theorem dc_281_1201 : am_dc 281 1201 = some (.iconst 5, 1202, 0) := by decide +kernel
theorem dc_281_1202 : am_dc 281 1202 = some (.iadd, 1203, 0) := by decide +kernel
theorem dc_281_1203 : am_dc 281 1203 = some (.iaload, 1204, 0) := by decide +kernel
theorem dc_281_1204 : am_dc 281 1204 = some (.invokevirtual 167, 1207, 0) := by decide +kernel
theorem dc_281_1207 : am_dc 281 1207 = some (.if_icmp .eq 55, 1210, 1262) := by decide +kernel
theorem dc_281_1210 : am_dc 281 1210 = some (.iconst 0, 1211, 0) := by decide +kernel
theorem dc_281_1211 : am_dc 281 1211 = some (.ireturn, 1212, 0) := by decide +kernel
theorem dc_281_1212 : am_dc 281 1212 = some (.aload_n 1, 1213, 0) := by decide +kernel
theorem dc_281_1213 : am_dc 281 1213 = some (.aload_n 0, 1214, 0) := by decide +kernel
theorem dc_281_1214 : am_dc 281 1214 = some (.iload 4, 1216, 0) := by decide +kernel
theorem dc_281_1216 : am_dc 281 1216 = some (.iconst 1, 1217, 0) := by decide +kernel
theorem dc_281_1217 : am_dc 281 1217 = some (.iadd, 1218, 0) := by decide +kernel
theorem dc_281_1218 : am_dc 281 1218 = some (.iaload, 1219, 0) := by decide +kernel
theorem dc_281_1219 : am_dc 281 1219 = some (.invokevirtual 168, 1222, 0) := by decide +kernel
theorem dc_281_1222 : am_dc 281 1222 = some (.aload_n 2, 1223, 0) := by decide +kernel
theorem dc_281_1223 : am_dc 281 1223 = some (.aload_n 0, 1224, 0) := by decide +kernel
theorem dc_281_1224 : am_dc 281 1224 = some (.iload 4, 1226, 0) := by decide +kernel
theorem dc_281_1226 : am_dc 281 1226 = some (.iconst 1, 1227, 0) := by decide +kernel
theorem dc_281_1227 : am_dc 281 1227 = some (.iadd, 1228, 0) := by decide +kernel
theorem dc_281_1228 : am_dc 281 1228 = some (.iaload, 1229, 0) := by decide +kernel
theorem dc_281_1229 : am_dc 281 1229 = some (.invokevirtual 171, 1232, 0) := by decide +kernel
theorem dc_281_1232 : am_dc 281 1232 = some (.if_icmp .eq 30, 1235, 1262) := by decide +kernel
theorem dc_281_1235 : am_dc 281 1235 = some (.iconst 0, 1236, 0) := by decide +kernel
theorem dc_281_1236 : am_dc 281 1236 = some (.ireturn, 1237, 0) := by decide +kernel
theorem dc_281_1237 : am_dc 281 1237 = some (.aload_n 1, 1238, 0) := by decide +kernel
theorem dc_281_1238 : am_dc 281 1238 = some (.aload_n 0, 1239, 0) := by decide +kernel
theorem dc_281_1239 : am_dc 281 1239 = some (.iload 4, 1241, 0) := by decide +kernel
theorem dc_281_1241 : am_dc 281 1241 = some (.iconst 1, 1242, 0) := by decide +kernel
theorem dc_281_1242 : am_dc 281 1242 = some (.iadd, 1243, 0) := by decide +kernel
theorem dc_281_1243 : am_dc 281 1243 = some (.iaload, 1244, 0) := by decide +kernel
theorem dc_281_1244 : am_dc 281 1244 = some (.invokevirtual 172, 1247, 0) := by decide +kernel
theorem dc_281_1247 : am_dc 281 1247 = some (.aload_n 2, 1248, 0) := by decide +kernel
theorem dc_281_1248 : am_dc 281 1248 = some (.aload_n 0, 1249, 0) := by decide +kernel
theorem dc_281_1249 : am_dc 281 1249 = some (.iload 4, 1251, 0) := by decide +kernel
theorem dc_281_1251 : am_dc 281 1251 = some (.iconst 1, 1252, 0) := by decide +kernel
theorem dc_281_1252 : am_dc 281 1252 = some (.iadd, 1253, 0) := by decide +kernel
theorem dc_281_1253 : am_dc 281 1253 = some (.iaload, 1254, 0) := by decide +kernel
theorem dc_281_1254 : am_dc 281 1254 = some (.invokevirtual 175, 1257, 0) := by decide +kernel
theorem dc_281_1257 : am_dc 281 1257 = some (.if_icmp .eq 5, 1260, 1262) := by decide +kernel
theorem dc_281_1260 : am_dc 281 1260 = some (.iconst 0, 1261, 0) := by decide +kernel
theorem dc_281_1261 : am_dc 281 1261 = some (.ireturn, 1262, 0) := by decide +kernel
theorem dc_281_1262 : am_dc 281 1262 = some (.iinc 4 6, 1265, 0) := by decide +kernel
theorem dc_281_1265 : am_dc 281 1265 = some (.goto (-1242), 1268, 23) := by decide +kernel
theorem dc_281_1268 : am_dc 281 1268 = some (.iconst 1, 1269, 0) := by decide +kernel
theorem dc_281_1269 : am_dc 281 1269 = some (.ireturn, 1270, 0) := by decide +kernel
