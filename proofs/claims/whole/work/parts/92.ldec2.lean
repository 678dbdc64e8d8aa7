theorem dL_law_538 : decode code 538 = .ok (.iload_n 3, 1) := by decide +kernel
theorem dL_law_539 : decode code 539 = .ok (.iconst 1, 1) := by decide +kernel
theorem dL_law_540 : decode code 540 = .ok (.iadd, 1) := by decide +kernel
theorem dL_law_541 : decode code 541 = .ok (.iaload, 1) := by decide +kernel
theorem dL_law_542 : decode code 542 = .ok (.aload_n 0, 1) := by decide +kernel
theorem dL_law_543 : decode code 543 = .ok (.iload_n 3, 1) := by decide +kernel
theorem dL_law_544 : decode code 544 = .ok (.iconst 2, 1) := by decide +kernel
theorem dL_law_545 : decode code 545 = .ok (.iadd, 1) := by decide +kernel
theorem dL_law_546 : decode code 546 = .ok (.iaload, 1) := by decide +kernel
theorem dL_law_547 : decode code 547 = .ok (.aload_n 0, 1) := by decide +kernel
theorem dL_law_548 : decode code 548 = .ok (.iload_n 3, 1) := by decide +kernel
theorem dL_law_549 : decode code 549 = .ok (.iconst 3, 1) := by decide +kernel
theorem dL_law_550 : decode code 550 = .ok (.iadd, 1) := by decide +kernel
theorem dL_law_551 : decode code 551 = .ok (.iaload, 1) := by decide +kernel
theorem dL_law_552 : decode code 552 = .ok (.invokevirtual 65, 3) := by decide +kernel
theorem dL_law_555 : decode code 555 = .ok (.if_icmp .eq 402, 3) := by decide +kernel
theorem dL_law_558 : decode code 558 = .ok (.iconst 0, 1) := by decide +kernel
theorem dL_law_559 : decode code 559 = .ok (.ireturn, 1) := by decide +kernel
theorem dL_law_560 : decode code 560 = .ok (.aload_n 1, 1) := by decide +kernel
theorem dL_law_561 : decode code 561 = .ok (.aload_n 0, 1) := by decide +kernel
theorem dL_law_562 : decode code 562 = .ok (.iload_n 3, 1) := by decide +kernel
theorem dL_law_563 : decode code 563 = .ok (.iconst 1, 1) := by decide +kernel
theorem dL_law_564 : decode code 564 = .ok (.iadd, 1) := by decide +kernel
theorem dL_law_565 : decode code 565 = .ok (.iaload, 1) := by decide +kernel
theorem dL_law_566 : decode code 566 = .ok (.aload_n 0, 1) := by decide +kernel
theorem dL_law_567 : decode code 567 = .ok (.iload_n 3, 1) := by decide +kernel
theorem dL_law_568 : decode code 568 = .ok (.iconst 2, 1) := by decide +kernel
theorem dL_law_569 : decode code 569 = .ok (.iadd, 1) := by decide +kernel
theorem dL_law_570 : decode code 570 = .ok (.iaload, 1) := by decide +kernel
theorem dL_law_571 : decode code 571 = .ok (.aload_n 0, 1) := by decide +kernel
theorem dL_law_572 : decode code 572 = .ok (.iload_n 3, 1) := by decide +kernel
theorem dL_law_573 : decode code 573 = .ok (.iconst 3, 1) := by decide +kernel
theorem dL_law_574 : decode code 574 = .ok (.iadd, 1) := by decide +kernel
theorem dL_law_575 : decode code 575 = .ok (.iaload, 1) := by decide +kernel
theorem dL_law_576 : decode code 576 = .ok (.invokevirtual 66, 3) := by decide +kernel
theorem dL_law_579 : decode code 579 = .ok (.aload_n 2, 1) := by decide +kernel
theorem dL_law_580 : decode code 580 = .ok (.aload_n 0, 1) := by decide +kernel
theorem dL_law_581 : decode code 581 = .ok (.iload_n 3, 1) := by decide +kernel
theorem dL_law_582 : decode code 582 = .ok (.iconst 1, 1) := by decide +kernel
theorem dL_law_583 : decode code 583 = .ok (.iadd, 1) := by decide +kernel
theorem dL_law_584 : decode code 584 = .ok (.iaload, 1) := by decide +kernel
theorem dL_law_585 : decode code 585 = .ok (.aload_n 0, 1) := by decide +kernel
theorem dL_law_586 : decode code 586 = .ok (.iload_n 3, 1) := by decide +kernel
theorem dL_law_587 : decode code 587 = .ok (.iconst 2, 1) := by decide +kernel
theorem dL_law_588 : decode code 588 = .ok (.iadd, 1) := by decide +kernel
theorem dL_law_589 : decode code 589 = .ok (.iaload, 1) := by decide +kernel
theorem dL_law_590 : decode code 590 = .ok (.aload_n 0, 1) := by decide +kernel
theorem dL_law_591 : decode code 591 = .ok (.iload_n 3, 1) := by decide +kernel
theorem dL_law_592 : decode code 592 = .ok (.iconst 3, 1) := by decide +kernel
theorem dL_law_593 : decode code 593 = .ok (.iadd, 1) := by decide +kernel
theorem dL_law_594 : decode code 594 = .ok (.iaload, 1) := by decide +kernel
theorem dL_law_595 : decode code 595 = .ok (.invokevirtual 69, 3) := by decide +kernel
theorem dL_law_598 : decode code 598 = .ok (.if_icmp .eq 359, 3) := by decide +kernel
theorem dL_law_601 : decode code 601 = .ok (.iconst 0, 1) := by decide +kernel
theorem dL_law_602 : decode code 602 = .ok (.ireturn, 1) := by decide +kernel
theorem dL_law_603 : decode code 603 = .ok (.aload_n 1, 1) := by decide +kernel
theorem dL_law_604 : decode code 604 = .ok (.aload_n 0, 1) := by decide +kernel
theorem dL_law_605 : decode code 605 = .ok (.iload_n 3, 1) := by decide +kernel
theorem dL_law_606 : decode code 606 = .ok (.iconst 1, 1) := by decide +kernel
theorem dL_law_607 : decode code 607 = .ok (.iadd, 1) := by decide +kernel
theorem dL_law_608 : decode code 608 = .ok (.iaload, 1) := by decide +kernel
theorem dL_law_609 : decode code 609 = .ok (.invokevirtual 70, 3) := by decide +kernel
theorem dL_law_612 : decode code 612 = .ok (.aload_n 2, 1) := by decide +kernel
theorem dL_law_613 : decode code 613 = .ok (.aload_n 0, 1) := by decide +kernel
theorem dL_law_614 : decode code 614 = .ok (.iload_n 3, 1) := by decide +kernel
theorem dL_law_615 : decode code 615 = .ok (.iconst 1, 1) := by decide +kernel
theorem dL_law_616 : decode code 616 = .ok (.iadd, 1) := by decide +kernel
theorem dL_law_617 : decode code 617 = .ok (.iaload, 1) := by decide +kernel
theorem dL_law_618 : decode code 618 = .ok (.invokevirtual 73, 3) := by decide +kernel
theorem dL_law_621 : decode code 621 = .ok (.if_icmp .eq 336, 3) := by decide +kernel
theorem dL_law_624 : decode code 624 = .ok (.iconst 0, 1) := by decide +kernel
theorem dL_law_625 : decode code 625 = .ok (.ireturn, 1) := by decide +kernel
theorem dL_law_626 : decode code 626 = .ok (.aload_n 1, 1) := by decide +kernel
theorem dL_law_627 : decode code 627 = .ok (.aload_n 0, 1) := by decide +kernel
theorem dL_law_628 : decode code 628 = .ok (.iload_n 3, 1) := by decide +kernel
theorem dL_law_629 : decode code 629 = .ok (.iconst 1, 1) := by decide +kernel
theorem dL_law_630 : decode code 630 = .ok (.iadd, 1) := by decide +kernel
theorem dL_law_631 : decode code 631 = .ok (.iaload, 1) := by decide +kernel
theorem dL_law_632 : decode code 632 = .ok (.invokevirtual 74, 3) := by decide +kernel
theorem dL_law_635 : decode code 635 = .ok (.aload_n 2, 1) := by decide +kernel
theorem dL_law_636 : decode code 636 = .ok (.aload_n 0, 1) := by decide +kernel
theorem dL_law_637 : decode code 637 = .ok (.iload_n 3, 1) := by decide +kernel
theorem dL_law_638 : decode code 638 = .ok (.iconst 1, 1) := by decide +kernel
theorem dL_law_639 : decode code 639 = .ok (.iadd, 1) := by decide +kernel
theorem dL_law_640 : decode code 640 = .ok (.iaload, 1) := by decide +kernel
theorem dL_law_641 : decode code 641 = .ok (.invokevirtual 77, 3) := by decide +kernel
theorem dL_law_644 : decode code 644 = .ok (.if_icmp .eq 313, 3) := by decide +kernel
theorem dL_law_647 : decode code 647 = .ok (.iconst 0, 1) := by decide +kernel
theorem dL_law_648 : decode code 648 = .ok (.ireturn, 1) := by decide +kernel
theorem dL_law_649 : decode code 649 = .ok (.aload_n 1, 1) := by decide +kernel
theorem dL_law_650 : decode code 650 = .ok (.aload_n 0, 1) := by decide +kernel
theorem dL_law_651 : decode code 651 = .ok (.iload_n 3, 1) := by decide +kernel
theorem dL_law_652 : decode code 652 = .ok (.iconst 1, 1) := by decide +kernel
theorem dL_law_653 : decode code 653 = .ok (.iadd, 1) := by decide +kernel
theorem dL_law_654 : decode code 654 = .ok (.iaload, 1) := by decide +kernel
theorem dL_law_655 : decode code 655 = .ok (.invokevirtual 78, 3) := by decide +kernel
theorem dL_law_658 : decode code 658 = .ok (.aload_n 2, 1) := by decide +kernel
theorem dL_law_659 : decode code 659 = .ok (.aload_n 0, 1) := by decide +kernel
theorem dL_law_660 : decode code 660 = .ok (.iload_n 3, 1) := by decide +kernel
theorem dL_law_661 : decode code 661 = .ok (.iconst 1, 1) := by decide +kernel
theorem dL_law_662 : decode code 662 = .ok (.iadd, 1) := by decide +kernel
theorem dL_law_663 : decode code 663 = .ok (.iaload, 1) := by decide +kernel
theorem dL_law_664 : decode code 664 = .ok (.invokevirtual 81, 3) := by decide +kernel
theorem dL_law_667 : decode code 667 = .ok (.if_icmp .eq 290, 3) := by decide +kernel
theorem dL_law_670 : decode code 670 = .ok (.iconst 0, 1) := by decide +kernel
theorem dL_law_671 : decode code 671 = .ok (.ireturn, 1) := by decide +kernel
theorem dL_law_672 : decode code 672 = .ok (.aload_n 1, 1) := by decide +kernel
theorem dL_law_673 : decode code 673 = .ok (.aload_n 0, 1) := by decide +kernel
theorem dL_law_674 : decode code 674 = .ok (.iload_n 3, 1) := by decide +kernel
theorem dL_law_675 : decode code 675 = .ok (.iconst 1, 1) := by decide +kernel
theorem dL_law_676 : decode code 676 = .ok (.iadd, 1) := by decide +kernel
theorem dL_law_677 : decode code 677 = .ok (.iaload, 1) := by decide +kernel
theorem dL_law_678 : decode code 678 = .ok (.aload_n 0, 1) := by decide +kernel
theorem dL_law_679 : decode code 679 = .ok (.iload_n 3, 1) := by decide +kernel
theorem dL_law_680 : decode code 680 = .ok (.iconst 2, 1) := by decide +kernel
theorem dL_law_681 : decode code 681 = .ok (.iadd, 1) := by decide +kernel
theorem dL_law_682 : decode code 682 = .ok (.iaload, 1) := by decide +kernel
theorem dL_law_683 : decode code 683 = .ok (.aload_n 0, 1) := by decide +kernel
theorem dL_law_684 : decode code 684 = .ok (.iload_n 3, 1) := by decide +kernel
theorem dL_law_685 : decode code 685 = .ok (.iconst 3, 1) := by decide +kernel
theorem dL_law_686 : decode code 686 = .ok (.iadd, 1) := by decide +kernel
theorem dL_law_687 : decode code 687 = .ok (.iaload, 1) := by decide +kernel
theorem dL_law_688 : decode code 688 = .ok (.invokevirtual 82, 3) := by decide +kernel
theorem dL_law_691 : decode code 691 = .ok (.aload_n 2, 1) := by decide +kernel
theorem dL_law_692 : decode code 692 = .ok (.aload_n 0, 1) := by decide +kernel
theorem dL_law_693 : decode code 693 = .ok (.iload_n 3, 1) := by decide +kernel
theorem dL_law_694 : decode code 694 = .ok (.iconst 1, 1) := by decide +kernel
theorem dL_law_695 : decode code 695 = .ok (.iadd, 1) := by decide +kernel
theorem dL_law_696 : decode code 696 = .ok (.iaload, 1) := by decide +kernel
theorem dL_law_697 : decode code 697 = .ok (.aload_n 0, 1) := by decide +kernel
theorem dL_law_698 : decode code 698 = .ok (.iload_n 3, 1) := by decide +kernel
theorem dL_law_699 : decode code 699 = .ok (.iconst 2, 1) := by decide +kernel
theorem dL_law_700 : decode code 700 = .ok (.iadd, 1) := by decide +kernel
theorem dL_law_701 : decode code 701 = .ok (.iaload, 1) := by decide +kernel
theorem dL_law_702 : decode code 702 = .ok (.aload_n 0, 1) := by decide +kernel
theorem dL_law_703 : decode code 703 = .ok (.iload_n 3, 1) := by decide +kernel
theorem dL_law_704 : decode code 704 = .ok (.iconst 3, 1) := by decide +kernel
theorem dL_law_705 : decode code 705 = .ok (.iadd, 1) := by decide +kernel
theorem dL_law_706 : decode code 706 = .ok (.iaload, 1) := by decide +kernel
theorem dL_law_707 : decode code 707 = .ok (.invokevirtual 85, 3) := by decide +kernel
theorem dL_law_710 : decode code 710 = .ok (.if_icmp .eq 247, 3) := by decide +kernel
theorem dL_law_713 : decode code 713 = .ok (.iconst 0, 1) := by decide +kernel
theorem dL_law_714 : decode code 714 = .ok (.ireturn, 1) := by decide +kernel
theorem dL_law_715 : decode code 715 = .ok (.aload_n 1, 1) := by decide +kernel
theorem dL_law_716 : decode code 716 = .ok (.aload_n 0, 1) := by decide +kernel
theorem dL_law_717 : decode code 717 = .ok (.iload_n 3, 1) := by decide +kernel
theorem dL_law_718 : decode code 718 = .ok (.iconst 1, 1) := by decide +kernel
theorem dL_law_719 : decode code 719 = .ok (.iadd, 1) := by decide +kernel
theorem dL_law_720 : decode code 720 = .ok (.iaload, 1) := by decide +kernel
theorem dL_law_721 : decode code 721 = .ok (.invokevirtual 86, 3) := by decide +kernel
theorem dL_law_724 : decode code 724 = .ok (.aload_n 2, 1) := by decide +kernel
theorem dL_law_725 : decode code 725 = .ok (.aload_n 0, 1) := by decide +kernel
theorem dL_law_726 : decode code 726 = .ok (.iload_n 3, 1) := by decide +kernel
theorem dL_law_727 : decode code 727 = .ok (.iconst 1, 1) := by decide +kernel
theorem dL_law_728 : decode code 728 = .ok (.iadd, 1) := by decide +kernel
theorem dL_law_729 : decode code 729 = .ok (.iaload, 1) := by decide +kernel
theorem dL_law_730 : decode code 730 = .ok (.invokevirtual 89, 3) := by decide +kernel
theorem dL_law_733 : decode code 733 = .ok (.if_icmp .eq 224, 3) := by decide +kernel
theorem dL_law_736 : decode code 736 = .ok (.iconst 0, 1) := by decide +kernel
theorem dL_law_737 : decode code 737 = .ok (.ireturn, 1) := by decide +kernel
theorem dL_law_738 : decode code 738 = .ok (.aload_n 1, 1) := by decide +kernel
theorem dL_law_739 : decode code 739 = .ok (.aload_n 0, 1) := by decide +kernel
theorem dL_law_740 : decode code 740 = .ok (.iload_n 3, 1) := by decide +kernel
theorem dL_law_741 : decode code 741 = .ok (.iconst 1, 1) := by decide +kernel
theorem dL_law_742 : decode code 742 = .ok (.iadd, 1) := by decide +kernel
theorem dL_law_743 : decode code 743 = .ok (.iaload, 1) := by decide +kernel
theorem dL_law_744 : decode code 744 = .ok (.aload_n 0, 1) := by decide +kernel
theorem dL_law_745 : decode code 745 = .ok (.iload_n 3, 1) := by decide +kernel
theorem dL_law_746 : decode code 746 = .ok (.iconst 2, 1) := by decide +kernel
theorem dL_law_747 : decode code 747 = .ok (.iadd, 1) := by decide +kernel
theorem dL_law_748 : decode code 748 = .ok (.iaload, 1) := by decide +kernel
theorem dL_law_749 : decode code 749 = .ok (.aload_n 0, 1) := by decide +kernel
theorem dL_law_750 : decode code 750 = .ok (.iload_n 3, 1) := by decide +kernel
theorem dL_law_751 : decode code 751 = .ok (.iconst 3, 1) := by decide +kernel
