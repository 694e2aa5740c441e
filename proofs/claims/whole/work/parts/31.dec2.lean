/-! the law's decode rows, 2 (wip/whole/gen31.py) -/
theorem d_L_476 : decode code 476 = .ok (.iload_n 3, 1) := by decide +kernel
theorem d_L_477 : decode code 477 = .ok (.iconst 1, 1) := by decide +kernel
theorem d_L_478 : decode code 478 = .ok (.iadd, 1) := by decide +kernel
theorem d_L_479 : decode code 479 = .ok (.iaload, 1) := by decide +kernel
theorem d_L_480 : decode code 480 = .ok (.aload_n 0, 1) := by decide +kernel
theorem d_L_481 : decode code 481 = .ok (.iload_n 3, 1) := by decide +kernel
theorem d_L_482 : decode code 482 = .ok (.iconst 2, 1) := by decide +kernel
theorem d_L_483 : decode code 483 = .ok (.iadd, 1) := by decide +kernel
theorem d_L_484 : decode code 484 = .ok (.iaload, 1) := by decide +kernel
theorem d_L_485 : decode code 485 = .ok (.aload_n 0, 1) := by decide +kernel
theorem d_L_486 : decode code 486 = .ok (.iload_n 3, 1) := by decide +kernel
theorem d_L_487 : decode code 487 = .ok (.iconst 3, 1) := by decide +kernel
theorem d_L_488 : decode code 488 = .ok (.iadd, 1) := by decide +kernel
theorem d_L_489 : decode code 489 = .ok (.iaload, 1) := by decide +kernel
theorem d_L_490 : decode code 490 = .ok (.invokevirtual 49, 3) := by decide +kernel
theorem d_L_493 : decode code 493 = .ok (.aload_n 2, 1) := by decide +kernel
theorem d_L_494 : decode code 494 = .ok (.aload_n 0, 1) := by decide +kernel
theorem d_L_495 : decode code 495 = .ok (.iload_n 3, 1) := by decide +kernel
theorem d_L_496 : decode code 496 = .ok (.iconst 1, 1) := by decide +kernel
theorem d_L_497 : decode code 497 = .ok (.iadd, 1) := by decide +kernel
theorem d_L_498 : decode code 498 = .ok (.iaload, 1) := by decide +kernel
theorem d_L_499 : decode code 499 = .ok (.aload_n 0, 1) := by decide +kernel
theorem d_L_500 : decode code 500 = .ok (.iload_n 3, 1) := by decide +kernel
theorem d_L_501 : decode code 501 = .ok (.iconst 2, 1) := by decide +kernel
theorem d_L_502 : decode code 502 = .ok (.iadd, 1) := by decide +kernel
theorem d_L_503 : decode code 503 = .ok (.iaload, 1) := by decide +kernel
theorem d_L_504 : decode code 504 = .ok (.aload_n 0, 1) := by decide +kernel
theorem d_L_505 : decode code 505 = .ok (.iload_n 3, 1) := by decide +kernel
theorem d_L_506 : decode code 506 = .ok (.iconst 3, 1) := by decide +kernel
theorem d_L_507 : decode code 507 = .ok (.iadd, 1) := by decide +kernel
theorem d_L_508 : decode code 508 = .ok (.iaload, 1) := by decide +kernel
theorem d_L_509 : decode code 509 = .ok (.invokevirtual 52, 3) := by decide +kernel
theorem d_L_512 : decode code 512 = .ok (.if_icmp .eq 902, 3) := by decide +kernel
theorem d_L_517 : decode code 517 = .ok (.aload_n 1, 1) := by decide +kernel
theorem d_L_518 : decode code 518 = .ok (.aload_n 0, 1) := by decide +kernel
theorem d_L_519 : decode code 519 = .ok (.iload_n 3, 1) := by decide +kernel
theorem d_L_520 : decode code 520 = .ok (.iconst 1, 1) := by decide +kernel
theorem d_L_521 : decode code 521 = .ok (.iadd, 1) := by decide +kernel
theorem d_L_522 : decode code 522 = .ok (.iaload, 1) := by decide +kernel
theorem d_L_523 : decode code 523 = .ok (.invokevirtual 53, 3) := by decide +kernel
theorem d_L_526 : decode code 526 = .ok (.aload_n 2, 1) := by decide +kernel
theorem d_L_527 : decode code 527 = .ok (.aload_n 0, 1) := by decide +kernel
theorem d_L_528 : decode code 528 = .ok (.iload_n 3, 1) := by decide +kernel
theorem d_L_529 : decode code 529 = .ok (.iconst 1, 1) := by decide +kernel
theorem d_L_530 : decode code 530 = .ok (.iadd, 1) := by decide +kernel
theorem d_L_531 : decode code 531 = .ok (.iaload, 1) := by decide +kernel
theorem d_L_532 : decode code 532 = .ok (.invokevirtual 56, 3) := by decide +kernel
theorem d_L_535 : decode code 535 = .ok (.if_icmp .eq 879, 3) := by decide +kernel
theorem d_L_540 : decode code 540 = .ok (.aload_n 1, 1) := by decide +kernel
theorem d_L_541 : decode code 541 = .ok (.aload_n 0, 1) := by decide +kernel
theorem d_L_542 : decode code 542 = .ok (.iload_n 3, 1) := by decide +kernel
theorem d_L_543 : decode code 543 = .ok (.iconst 1, 1) := by decide +kernel
theorem d_L_544 : decode code 544 = .ok (.iadd, 1) := by decide +kernel
theorem d_L_545 : decode code 545 = .ok (.iaload, 1) := by decide +kernel
theorem d_L_546 : decode code 546 = .ok (.aload_n 0, 1) := by decide +kernel
theorem d_L_547 : decode code 547 = .ok (.iload_n 3, 1) := by decide +kernel
theorem d_L_548 : decode code 548 = .ok (.iconst 2, 1) := by decide +kernel
theorem d_L_549 : decode code 549 = .ok (.iadd, 1) := by decide +kernel
theorem d_L_550 : decode code 550 = .ok (.iaload, 1) := by decide +kernel
theorem d_L_551 : decode code 551 = .ok (.invokevirtual 57, 3) := by decide +kernel
theorem d_L_554 : decode code 554 = .ok (.aload_n 2, 1) := by decide +kernel
theorem d_L_555 : decode code 555 = .ok (.aload_n 0, 1) := by decide +kernel
theorem d_L_556 : decode code 556 = .ok (.iload_n 3, 1) := by decide +kernel
theorem d_L_557 : decode code 557 = .ok (.iconst 1, 1) := by decide +kernel
theorem d_L_558 : decode code 558 = .ok (.iadd, 1) := by decide +kernel
theorem d_L_559 : decode code 559 = .ok (.iaload, 1) := by decide +kernel
theorem d_L_560 : decode code 560 = .ok (.aload_n 0, 1) := by decide +kernel
theorem d_L_561 : decode code 561 = .ok (.iload_n 3, 1) := by decide +kernel
theorem d_L_562 : decode code 562 = .ok (.iconst 2, 1) := by decide +kernel
theorem d_L_563 : decode code 563 = .ok (.iadd, 1) := by decide +kernel
theorem d_L_564 : decode code 564 = .ok (.iaload, 1) := by decide +kernel
theorem d_L_565 : decode code 565 = .ok (.invokevirtual 60, 3) := by decide +kernel
theorem d_L_568 : decode code 568 = .ok (.if_icmp .eq 846, 3) := by decide +kernel
theorem d_L_573 : decode code 573 = .ok (.aload_n 1, 1) := by decide +kernel
theorem d_L_574 : decode code 574 = .ok (.aload_n 0, 1) := by decide +kernel
theorem d_L_575 : decode code 575 = .ok (.iload_n 3, 1) := by decide +kernel
theorem d_L_576 : decode code 576 = .ok (.iconst 1, 1) := by decide +kernel
theorem d_L_577 : decode code 577 = .ok (.iadd, 1) := by decide +kernel
theorem d_L_578 : decode code 578 = .ok (.iaload, 1) := by decide +kernel
theorem d_L_579 : decode code 579 = .ok (.aload_n 0, 1) := by decide +kernel
theorem d_L_580 : decode code 580 = .ok (.iload_n 3, 1) := by decide +kernel
theorem d_L_581 : decode code 581 = .ok (.iconst 2, 1) := by decide +kernel
theorem d_L_582 : decode code 582 = .ok (.iadd, 1) := by decide +kernel
theorem d_L_583 : decode code 583 = .ok (.iaload, 1) := by decide +kernel
theorem d_L_584 : decode code 584 = .ok (.aload_n 0, 1) := by decide +kernel
theorem d_L_585 : decode code 585 = .ok (.iload_n 3, 1) := by decide +kernel
theorem d_L_586 : decode code 586 = .ok (.iconst 3, 1) := by decide +kernel
theorem d_L_587 : decode code 587 = .ok (.iadd, 1) := by decide +kernel
theorem d_L_588 : decode code 588 = .ok (.iaload, 1) := by decide +kernel
theorem d_L_589 : decode code 589 = .ok (.aload_n 0, 1) := by decide +kernel
theorem d_L_590 : decode code 590 = .ok (.iload_n 3, 1) := by decide +kernel
theorem d_L_591 : decode code 591 = .ok (.iconst 4, 1) := by decide +kernel
theorem d_L_592 : decode code 592 = .ok (.iadd, 1) := by decide +kernel
theorem d_L_593 : decode code 593 = .ok (.iaload, 1) := by decide +kernel
theorem d_L_594 : decode code 594 = .ok (.invokevirtual 61, 3) := by decide +kernel
theorem d_L_597 : decode code 597 = .ok (.aload_n 2, 1) := by decide +kernel
theorem d_L_598 : decode code 598 = .ok (.aload_n 0, 1) := by decide +kernel
theorem d_L_599 : decode code 599 = .ok (.iload_n 3, 1) := by decide +kernel
theorem d_L_600 : decode code 600 = .ok (.iconst 1, 1) := by decide +kernel
theorem d_L_601 : decode code 601 = .ok (.iadd, 1) := by decide +kernel
theorem d_L_602 : decode code 602 = .ok (.iaload, 1) := by decide +kernel
theorem d_L_603 : decode code 603 = .ok (.aload_n 0, 1) := by decide +kernel
theorem d_L_604 : decode code 604 = .ok (.iload_n 3, 1) := by decide +kernel
theorem d_L_605 : decode code 605 = .ok (.iconst 2, 1) := by decide +kernel
theorem d_L_606 : decode code 606 = .ok (.iadd, 1) := by decide +kernel
theorem d_L_607 : decode code 607 = .ok (.iaload, 1) := by decide +kernel
theorem d_L_608 : decode code 608 = .ok (.aload_n 0, 1) := by decide +kernel
theorem d_L_609 : decode code 609 = .ok (.iload_n 3, 1) := by decide +kernel
theorem d_L_610 : decode code 610 = .ok (.iconst 3, 1) := by decide +kernel
theorem d_L_611 : decode code 611 = .ok (.iadd, 1) := by decide +kernel
theorem d_L_612 : decode code 612 = .ok (.iaload, 1) := by decide +kernel
theorem d_L_613 : decode code 613 = .ok (.aload_n 0, 1) := by decide +kernel
theorem d_L_614 : decode code 614 = .ok (.iload_n 3, 1) := by decide +kernel
theorem d_L_615 : decode code 615 = .ok (.iconst 4, 1) := by decide +kernel
theorem d_L_616 : decode code 616 = .ok (.iadd, 1) := by decide +kernel
theorem d_L_617 : decode code 617 = .ok (.iaload, 1) := by decide +kernel
theorem d_L_618 : decode code 618 = .ok (.invokevirtual 65, 3) := by decide +kernel
theorem d_L_621 : decode code 621 = .ok (.if_icmp .eq 793, 3) := by decide +kernel
theorem d_L_626 : decode code 626 = .ok (.aload_n 1, 1) := by decide +kernel
theorem d_L_627 : decode code 627 = .ok (.aload_n 0, 1) := by decide +kernel
theorem d_L_628 : decode code 628 = .ok (.iload_n 3, 1) := by decide +kernel
theorem d_L_629 : decode code 629 = .ok (.iconst 1, 1) := by decide +kernel
theorem d_L_630 : decode code 630 = .ok (.iadd, 1) := by decide +kernel
theorem d_L_631 : decode code 631 = .ok (.iaload, 1) := by decide +kernel
theorem d_L_632 : decode code 632 = .ok (.aload_n 0, 1) := by decide +kernel
theorem d_L_633 : decode code 633 = .ok (.iload_n 3, 1) := by decide +kernel
theorem d_L_634 : decode code 634 = .ok (.iconst 2, 1) := by decide +kernel
theorem d_L_635 : decode code 635 = .ok (.iadd, 1) := by decide +kernel
theorem d_L_636 : decode code 636 = .ok (.iaload, 1) := by decide +kernel
theorem d_L_637 : decode code 637 = .ok (.invokevirtual 66, 3) := by decide +kernel
theorem d_L_640 : decode code 640 = .ok (.aload_n 2, 1) := by decide +kernel
theorem d_L_641 : decode code 641 = .ok (.aload_n 0, 1) := by decide +kernel
theorem d_L_642 : decode code 642 = .ok (.iload_n 3, 1) := by decide +kernel
theorem d_L_643 : decode code 643 = .ok (.iconst 1, 1) := by decide +kernel
theorem d_L_644 : decode code 644 = .ok (.iadd, 1) := by decide +kernel
theorem d_L_645 : decode code 645 = .ok (.iaload, 1) := by decide +kernel
theorem d_L_646 : decode code 646 = .ok (.aload_n 0, 1) := by decide +kernel
theorem d_L_647 : decode code 647 = .ok (.iload_n 3, 1) := by decide +kernel
theorem d_L_648 : decode code 648 = .ok (.iconst 2, 1) := by decide +kernel
theorem d_L_649 : decode code 649 = .ok (.iadd, 1) := by decide +kernel
theorem d_L_650 : decode code 650 = .ok (.iaload, 1) := by decide +kernel
theorem d_L_651 : decode code 651 = .ok (.invokevirtual 69, 3) := by decide +kernel
theorem d_L_654 : decode code 654 = .ok (.if_icmp .eq 760, 3) := by decide +kernel
theorem d_L_659 : decode code 659 = .ok (.aload_n 1, 1) := by decide +kernel
theorem d_L_660 : decode code 660 = .ok (.aload_n 0, 1) := by decide +kernel
theorem d_L_661 : decode code 661 = .ok (.iload_n 3, 1) := by decide +kernel
theorem d_L_662 : decode code 662 = .ok (.iconst 1, 1) := by decide +kernel
theorem d_L_663 : decode code 663 = .ok (.iadd, 1) := by decide +kernel
theorem d_L_664 : decode code 664 = .ok (.iaload, 1) := by decide +kernel
theorem d_L_665 : decode code 665 = .ok (.aload_n 0, 1) := by decide +kernel
theorem d_L_666 : decode code 666 = .ok (.iload_n 3, 1) := by decide +kernel
theorem d_L_667 : decode code 667 = .ok (.iconst 2, 1) := by decide +kernel
theorem d_L_668 : decode code 668 = .ok (.iadd, 1) := by decide +kernel
theorem d_L_669 : decode code 669 = .ok (.iaload, 1) := by decide +kernel
theorem d_L_670 : decode code 670 = .ok (.invokevirtual 70, 3) := by decide +kernel
theorem d_L_673 : decode code 673 = .ok (.aload_n 2, 1) := by decide +kernel
theorem d_L_674 : decode code 674 = .ok (.aload_n 0, 1) := by decide +kernel
theorem d_L_675 : decode code 675 = .ok (.iload_n 3, 1) := by decide +kernel
theorem d_L_676 : decode code 676 = .ok (.iconst 1, 1) := by decide +kernel
theorem d_L_677 : decode code 677 = .ok (.iadd, 1) := by decide +kernel
theorem d_L_678 : decode code 678 = .ok (.iaload, 1) := by decide +kernel
theorem d_L_679 : decode code 679 = .ok (.aload_n 0, 1) := by decide +kernel
theorem d_L_680 : decode code 680 = .ok (.iload_n 3, 1) := by decide +kernel
theorem d_L_681 : decode code 681 = .ok (.iconst 2, 1) := by decide +kernel
theorem d_L_682 : decode code 682 = .ok (.iadd, 1) := by decide +kernel
theorem d_L_683 : decode code 683 = .ok (.iaload, 1) := by decide +kernel
theorem d_L_684 : decode code 684 = .ok (.invokevirtual 73, 3) := by decide +kernel
theorem d_L_687 : decode code 687 = .ok (.if_icmp .eq 727, 3) := by decide +kernel
theorem d_L_692 : decode code 692 = .ok (.aload_n 1, 1) := by decide +kernel
theorem d_L_693 : decode code 693 = .ok (.aload_n 0, 1) := by decide +kernel
theorem d_L_694 : decode code 694 = .ok (.iload_n 3, 1) := by decide +kernel
theorem d_L_695 : decode code 695 = .ok (.iconst 1, 1) := by decide +kernel
theorem d_L_696 : decode code 696 = .ok (.iadd, 1) := by decide +kernel
theorem d_L_697 : decode code 697 = .ok (.iaload, 1) := by decide +kernel
theorem d_L_698 : decode code 698 = .ok (.aload_n 0, 1) := by decide +kernel
theorem d_L_699 : decode code 699 = .ok (.iload_n 3, 1) := by decide +kernel
theorem d_L_700 : decode code 700 = .ok (.iconst 2, 1) := by decide +kernel
theorem d_L_701 : decode code 701 = .ok (.iadd, 1) := by decide +kernel
theorem d_L_702 : decode code 702 = .ok (.iaload, 1) := by decide +kernel
theorem d_L_703 : decode code 703 = .ok (.invokevirtual 74, 3) := by decide +kernel
theorem d_L_706 : decode code 706 = .ok (.aload_n 2, 1) := by decide +kernel
theorem d_L_707 : decode code 707 = .ok (.aload_n 0, 1) := by decide +kernel
theorem d_L_708 : decode code 708 = .ok (.iload_n 3, 1) := by decide +kernel
theorem d_L_709 : decode code 709 = .ok (.iconst 1, 1) := by decide +kernel
theorem d_L_710 : decode code 710 = .ok (.iadd, 1) := by decide +kernel
theorem d_L_711 : decode code 711 = .ok (.iaload, 1) := by decide +kernel
theorem d_L_712 : decode code 712 = .ok (.aload_n 0, 1) := by decide +kernel
theorem d_L_713 : decode code 713 = .ok (.iload_n 3, 1) := by decide +kernel
theorem d_L_714 : decode code 714 = .ok (.iconst 2, 1) := by decide +kernel
theorem d_L_715 : decode code 715 = .ok (.iadd, 1) := by decide +kernel
theorem d_L_716 : decode code 716 = .ok (.iaload, 1) := by decide +kernel
theorem d_L_717 : decode code 717 = .ok (.invokevirtual 77, 3) := by decide +kernel
theorem d_L_720 : decode code 720 = .ok (.if_icmp .eq 694, 3) := by decide +kernel
theorem d_L_725 : decode code 725 = .ok (.aload_n 1, 1) := by decide +kernel
theorem d_L_726 : decode code 726 = .ok (.aload_n 0, 1) := by decide +kernel
theorem d_L_727 : decode code 727 = .ok (.iload_n 3, 1) := by decide +kernel
theorem d_L_728 : decode code 728 = .ok (.iconst 1, 1) := by decide +kernel
theorem d_L_729 : decode code 729 = .ok (.iadd, 1) := by decide +kernel
theorem d_L_730 : decode code 730 = .ok (.iaload, 1) := by decide +kernel
theorem d_L_731 : decode code 731 = .ok (.aload_n 0, 1) := by decide +kernel
theorem d_L_732 : decode code 732 = .ok (.iload_n 3, 1) := by decide +kernel
theorem d_L_733 : decode code 733 = .ok (.iconst 2, 1) := by decide +kernel
theorem d_L_734 : decode code 734 = .ok (.iadd, 1) := by decide +kernel
theorem d_L_735 : decode code 735 = .ok (.iaload, 1) := by decide +kernel
theorem d_L_736 : decode code 736 = .ok (.invokevirtual 78, 3) := by decide +kernel
theorem d_L_739 : decode code 739 = .ok (.aload_n 2, 1) := by decide +kernel
theorem d_L_740 : decode code 740 = .ok (.aload_n 0, 1) := by decide +kernel
theorem d_L_741 : decode code 741 = .ok (.iload_n 3, 1) := by decide +kernel
theorem d_L_742 : decode code 742 = .ok (.iconst 1, 1) := by decide +kernel
theorem d_L_743 : decode code 743 = .ok (.iadd, 1) := by decide +kernel
theorem d_L_744 : decode code 744 = .ok (.iaload, 1) := by decide +kernel
theorem d_L_745 : decode code 745 = .ok (.aload_n 0, 1) := by decide +kernel
theorem d_L_746 : decode code 746 = .ok (.iload_n 3, 1) := by decide +kernel
theorem d_L_747 : decode code 747 = .ok (.iconst 2, 1) := by decide +kernel
theorem d_L_748 : decode code 748 = .ok (.iadd, 1) := by decide +kernel
theorem d_L_749 : decode code 749 = .ok (.iaload, 1) := by decide +kernel
theorem d_L_750 : decode code 750 = .ok (.invokevirtual 81, 3) := by decide +kernel
theorem d_L_753 : decode code 753 = .ok (.if_icmp .eq 661, 3) := by decide +kernel
theorem d_L_758 : decode code 758 = .ok (.aload_n 1, 1) := by decide +kernel
theorem d_L_759 : decode code 759 = .ok (.aload_n 0, 1) := by decide +kernel
theorem d_L_760 : decode code 760 = .ok (.iload_n 3, 1) := by decide +kernel
theorem d_L_761 : decode code 761 = .ok (.iconst 1, 1) := by decide +kernel
theorem d_L_762 : decode code 762 = .ok (.iadd, 1) := by decide +kernel
theorem d_L_763 : decode code 763 = .ok (.iaload, 1) := by decide +kernel
theorem d_L_764 : decode code 764 = .ok (.aload_n 0, 1) := by decide +kernel
theorem d_L_765 : decode code 765 = .ok (.iload_n 3, 1) := by decide +kernel
theorem d_L_766 : decode code 766 = .ok (.iconst 2, 1) := by decide +kernel
theorem d_L_767 : decode code 767 = .ok (.iadd, 1) := by decide +kernel
theorem d_L_768 : decode code 768 = .ok (.iaload, 1) := by decide +kernel
theorem d_L_769 : decode code 769 = .ok (.invokevirtual 82, 3) := by decide +kernel
theorem d_L_772 : decode code 772 = .ok (.aload_n 2, 1) := by decide +kernel
theorem d_L_773 : decode code 773 = .ok (.aload_n 0, 1) := by decide +kernel
theorem d_L_774 : decode code 774 = .ok (.iload_n 3, 1) := by decide +kernel
theorem d_L_775 : decode code 775 = .ok (.iconst 1, 1) := by decide +kernel
