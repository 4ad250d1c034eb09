theorem dl_608 : decode code 608 = .ok (.iaload, 1) := by decide +kernel
theorem dl_609 : decode code 609 = .ok (.invokevirtual 85, 3) := by decide +kernel
theorem dl_612 : decode code 612 = .ok (.aload_n 2, 1) := by decide +kernel
theorem dl_613 : decode code 613 = .ok (.aload_n 0, 1) := by decide +kernel
theorem dl_614 : decode code 614 = .ok (.iload_n 3, 1) := by decide +kernel
theorem dl_615 : decode code 615 = .ok (.iconst 1, 1) := by decide +kernel
theorem dl_616 : decode code 616 = .ok (.iadd, 1) := by decide +kernel
theorem dl_617 : decode code 617 = .ok (.iaload, 1) := by decide +kernel
theorem dl_618 : decode code 618 = .ok (.invokevirtual 88, 3) := by decide +kernel
theorem dl_621 : decode code 621 = .ok (.if_icmp .eq 423, 3) := by decide +kernel
theorem dl_624 : decode code 624 = .ok (.iconst 0, 1) := by decide +kernel
theorem dl_625 : decode code 625 = .ok (.ireturn, 1) := by decide +kernel
theorem dl_626 : decode code 626 = .ok (.aload_n 1, 1) := by decide +kernel
theorem dl_627 : decode code 627 = .ok (.aload_n 0, 1) := by decide +kernel
theorem dl_628 : decode code 628 = .ok (.iload_n 3, 1) := by decide +kernel
theorem dl_629 : decode code 629 = .ok (.iconst 1, 1) := by decide +kernel
theorem dl_630 : decode code 630 = .ok (.iadd, 1) := by decide +kernel
theorem dl_631 : decode code 631 = .ok (.iaload, 1) := by decide +kernel
theorem dl_632 : decode code 632 = .ok (.aload_n 0, 1) := by decide +kernel
theorem dl_633 : decode code 633 = .ok (.iload_n 3, 1) := by decide +kernel
theorem dl_634 : decode code 634 = .ok (.iconst 2, 1) := by decide +kernel
theorem dl_635 : decode code 635 = .ok (.iadd, 1) := by decide +kernel
theorem dl_636 : decode code 636 = .ok (.iaload, 1) := by decide +kernel
theorem dl_637 : decode code 637 = .ok (.invokevirtual 89, 3) := by decide +kernel
theorem dl_640 : decode code 640 = .ok (.aload_n 2, 1) := by decide +kernel
theorem dl_641 : decode code 641 = .ok (.aload_n 0, 1) := by decide +kernel
theorem dl_642 : decode code 642 = .ok (.iload_n 3, 1) := by decide +kernel
theorem dl_643 : decode code 643 = .ok (.iconst 1, 1) := by decide +kernel
theorem dl_644 : decode code 644 = .ok (.iadd, 1) := by decide +kernel
theorem dl_645 : decode code 645 = .ok (.iaload, 1) := by decide +kernel
theorem dl_646 : decode code 646 = .ok (.aload_n 0, 1) := by decide +kernel
theorem dl_647 : decode code 647 = .ok (.iload_n 3, 1) := by decide +kernel
theorem dl_648 : decode code 648 = .ok (.iconst 2, 1) := by decide +kernel
theorem dl_649 : decode code 649 = .ok (.iadd, 1) := by decide +kernel
theorem dl_650 : decode code 650 = .ok (.iaload, 1) := by decide +kernel
theorem dl_651 : decode code 651 = .ok (.invokevirtual 92, 3) := by decide +kernel
theorem dl_654 : decode code 654 = .ok (.if_icmp .eq 390, 3) := by decide +kernel
theorem dl_657 : decode code 657 = .ok (.iconst 0, 1) := by decide +kernel
theorem dl_658 : decode code 658 = .ok (.ireturn, 1) := by decide +kernel
theorem dl_659 : decode code 659 = .ok (.aload_n 1, 1) := by decide +kernel
theorem dl_660 : decode code 660 = .ok (.aload_n 0, 1) := by decide +kernel
theorem dl_661 : decode code 661 = .ok (.iload_n 3, 1) := by decide +kernel
theorem dl_662 : decode code 662 = .ok (.iconst 1, 1) := by decide +kernel
theorem dl_663 : decode code 663 = .ok (.iadd, 1) := by decide +kernel
theorem dl_664 : decode code 664 = .ok (.iaload, 1) := by decide +kernel
theorem dl_665 : decode code 665 = .ok (.aload_n 0, 1) := by decide +kernel
theorem dl_666 : decode code 666 = .ok (.iload_n 3, 1) := by decide +kernel
theorem dl_667 : decode code 667 = .ok (.iconst 2, 1) := by decide +kernel
theorem dl_668 : decode code 668 = .ok (.iadd, 1) := by decide +kernel
theorem dl_669 : decode code 669 = .ok (.iaload, 1) := by decide +kernel
theorem dl_670 : decode code 670 = .ok (.invokevirtual 93, 3) := by decide +kernel
theorem dl_673 : decode code 673 = .ok (.aload_n 2, 1) := by decide +kernel
theorem dl_674 : decode code 674 = .ok (.aload_n 0, 1) := by decide +kernel
theorem dl_675 : decode code 675 = .ok (.iload_n 3, 1) := by decide +kernel
theorem dl_676 : decode code 676 = .ok (.iconst 1, 1) := by decide +kernel
theorem dl_677 : decode code 677 = .ok (.iadd, 1) := by decide +kernel
theorem dl_678 : decode code 678 = .ok (.iaload, 1) := by decide +kernel
theorem dl_679 : decode code 679 = .ok (.aload_n 0, 1) := by decide +kernel
theorem dl_680 : decode code 680 = .ok (.iload_n 3, 1) := by decide +kernel
theorem dl_681 : decode code 681 = .ok (.iconst 2, 1) := by decide +kernel
theorem dl_682 : decode code 682 = .ok (.iadd, 1) := by decide +kernel
theorem dl_683 : decode code 683 = .ok (.iaload, 1) := by decide +kernel
theorem dl_684 : decode code 684 = .ok (.invokevirtual 96, 3) := by decide +kernel
theorem dl_687 : decode code 687 = .ok (.if_icmp .eq 357, 3) := by decide +kernel
theorem dl_690 : decode code 690 = .ok (.iconst 0, 1) := by decide +kernel
theorem dl_691 : decode code 691 = .ok (.ireturn, 1) := by decide +kernel
theorem dl_692 : decode code 692 = .ok (.aload_n 1, 1) := by decide +kernel
theorem dl_693 : decode code 693 = .ok (.aload_n 0, 1) := by decide +kernel
theorem dl_694 : decode code 694 = .ok (.iload_n 3, 1) := by decide +kernel
theorem dl_695 : decode code 695 = .ok (.iconst 1, 1) := by decide +kernel
theorem dl_696 : decode code 696 = .ok (.iadd, 1) := by decide +kernel
theorem dl_697 : decode code 697 = .ok (.iaload, 1) := by decide +kernel
theorem dl_698 : decode code 698 = .ok (.aload_n 0, 1) := by decide +kernel
theorem dl_699 : decode code 699 = .ok (.iload_n 3, 1) := by decide +kernel
theorem dl_700 : decode code 700 = .ok (.iconst 2, 1) := by decide +kernel
theorem dl_701 : decode code 701 = .ok (.iadd, 1) := by decide +kernel
theorem dl_702 : decode code 702 = .ok (.iaload, 1) := by decide +kernel
theorem dl_703 : decode code 703 = .ok (.invokevirtual 97, 3) := by decide +kernel
theorem dl_706 : decode code 706 = .ok (.aload_n 2, 1) := by decide +kernel
theorem dl_707 : decode code 707 = .ok (.aload_n 0, 1) := by decide +kernel
theorem dl_708 : decode code 708 = .ok (.iload_n 3, 1) := by decide +kernel
theorem dl_709 : decode code 709 = .ok (.iconst 1, 1) := by decide +kernel
theorem dl_710 : decode code 710 = .ok (.iadd, 1) := by decide +kernel
theorem dl_711 : decode code 711 = .ok (.iaload, 1) := by decide +kernel
theorem dl_712 : decode code 712 = .ok (.aload_n 0, 1) := by decide +kernel
theorem dl_713 : decode code 713 = .ok (.iload_n 3, 1) := by decide +kernel
theorem dl_714 : decode code 714 = .ok (.iconst 2, 1) := by decide +kernel
theorem dl_715 : decode code 715 = .ok (.iadd, 1) := by decide +kernel
theorem dl_716 : decode code 716 = .ok (.iaload, 1) := by decide +kernel
theorem dl_717 : decode code 717 = .ok (.invokevirtual 100, 3) := by decide +kernel
theorem dl_720 : decode code 720 = .ok (.if_icmp .eq 324, 3) := by decide +kernel
theorem dl_723 : decode code 723 = .ok (.iconst 0, 1) := by decide +kernel
theorem dl_724 : decode code 724 = .ok (.ireturn, 1) := by decide +kernel
theorem dl_725 : decode code 725 = .ok (.aload_n 1, 1) := by decide +kernel
theorem dl_726 : decode code 726 = .ok (.aload_n 0, 1) := by decide +kernel
theorem dl_727 : decode code 727 = .ok (.iload_n 3, 1) := by decide +kernel
theorem dl_728 : decode code 728 = .ok (.iconst 1, 1) := by decide +kernel
theorem dl_729 : decode code 729 = .ok (.iadd, 1) := by decide +kernel
theorem dl_730 : decode code 730 = .ok (.iaload, 1) := by decide +kernel
theorem dl_731 : decode code 731 = .ok (.invokevirtual 101, 3) := by decide +kernel
theorem dl_734 : decode code 734 = .ok (.aload_n 2, 1) := by decide +kernel
theorem dl_735 : decode code 735 = .ok (.aload_n 0, 1) := by decide +kernel
theorem dl_736 : decode code 736 = .ok (.iload_n 3, 1) := by decide +kernel
theorem dl_737 : decode code 737 = .ok (.iconst 1, 1) := by decide +kernel
theorem dl_738 : decode code 738 = .ok (.iadd, 1) := by decide +kernel
theorem dl_739 : decode code 739 = .ok (.iaload, 1) := by decide +kernel
theorem dl_740 : decode code 740 = .ok (.invokevirtual 104, 3) := by decide +kernel
theorem dl_743 : decode code 743 = .ok (.if_icmp .eq 301, 3) := by decide +kernel
theorem dl_746 : decode code 746 = .ok (.iconst 0, 1) := by decide +kernel
theorem dl_747 : decode code 747 = .ok (.ireturn, 1) := by decide +kernel
theorem dl_748 : decode code 748 = .ok (.aload_n 1, 1) := by decide +kernel
theorem dl_749 : decode code 749 = .ok (.aload_n 0, 1) := by decide +kernel
theorem dl_750 : decode code 750 = .ok (.iload_n 3, 1) := by decide +kernel
theorem dl_751 : decode code 751 = .ok (.iconst 1, 1) := by decide +kernel
theorem dl_752 : decode code 752 = .ok (.iadd, 1) := by decide +kernel
theorem dl_753 : decode code 753 = .ok (.iaload, 1) := by decide +kernel
theorem dl_754 : decode code 754 = .ok (.aload_n 0, 1) := by decide +kernel
theorem dl_755 : decode code 755 = .ok (.iload_n 3, 1) := by decide +kernel
theorem dl_756 : decode code 756 = .ok (.iconst 2, 1) := by decide +kernel
theorem dl_757 : decode code 757 = .ok (.iadd, 1) := by decide +kernel
theorem dl_758 : decode code 758 = .ok (.iaload, 1) := by decide +kernel
theorem dl_759 : decode code 759 = .ok (.invokevirtual 105, 3) := by decide +kernel
theorem dl_762 : decode code 762 = .ok (.aload_n 2, 1) := by decide +kernel
theorem dl_763 : decode code 763 = .ok (.aload_n 0, 1) := by decide +kernel
theorem dl_764 : decode code 764 = .ok (.iload_n 3, 1) := by decide +kernel
theorem dl_765 : decode code 765 = .ok (.iconst 1, 1) := by decide +kernel
theorem dl_766 : decode code 766 = .ok (.iadd, 1) := by decide +kernel
theorem dl_767 : decode code 767 = .ok (.iaload, 1) := by decide +kernel
theorem dl_768 : decode code 768 = .ok (.aload_n 0, 1) := by decide +kernel
theorem dl_769 : decode code 769 = .ok (.iload_n 3, 1) := by decide +kernel
theorem dl_770 : decode code 770 = .ok (.iconst 2, 1) := by decide +kernel
theorem dl_771 : decode code 771 = .ok (.iadd, 1) := by decide +kernel
theorem dl_772 : decode code 772 = .ok (.iaload, 1) := by decide +kernel
theorem dl_773 : decode code 773 = .ok (.invokevirtual 108, 3) := by decide +kernel
theorem dl_776 : decode code 776 = .ok (.if_icmp .eq 268, 3) := by decide +kernel
theorem dl_779 : decode code 779 = .ok (.iconst 0, 1) := by decide +kernel
theorem dl_780 : decode code 780 = .ok (.ireturn, 1) := by decide +kernel
theorem dl_781 : decode code 781 = .ok (.aload_n 1, 1) := by decide +kernel
theorem dl_782 : decode code 782 = .ok (.aload_n 0, 1) := by decide +kernel
theorem dl_783 : decode code 783 = .ok (.iload_n 3, 1) := by decide +kernel
theorem dl_784 : decode code 784 = .ok (.iconst 1, 1) := by decide +kernel
theorem dl_785 : decode code 785 = .ok (.iadd, 1) := by decide +kernel
theorem dl_786 : decode code 786 = .ok (.iaload, 1) := by decide +kernel
theorem dl_787 : decode code 787 = .ok (.invokevirtual 109, 3) := by decide +kernel
theorem dl_790 : decode code 790 = .ok (.aload_n 2, 1) := by decide +kernel
theorem dl_791 : decode code 791 = .ok (.aload_n 0, 1) := by decide +kernel
theorem dl_792 : decode code 792 = .ok (.iload_n 3, 1) := by decide +kernel
theorem dl_793 : decode code 793 = .ok (.iconst 1, 1) := by decide +kernel
theorem dl_794 : decode code 794 = .ok (.iadd, 1) := by decide +kernel
theorem dl_795 : decode code 795 = .ok (.iaload, 1) := by decide +kernel
theorem dl_796 : decode code 796 = .ok (.invokevirtual 112, 3) := by decide +kernel
theorem dl_799 : decode code 799 = .ok (.if_icmp .eq 245, 3) := by decide +kernel
theorem dl_802 : decode code 802 = .ok (.iconst 0, 1) := by decide +kernel
theorem dl_803 : decode code 803 = .ok (.ireturn, 1) := by decide +kernel
theorem dl_804 : decode code 804 = .ok (.aload_n 1, 1) := by decide +kernel
theorem dl_805 : decode code 805 = .ok (.aload_n 0, 1) := by decide +kernel
theorem dl_806 : decode code 806 = .ok (.iload_n 3, 1) := by decide +kernel
theorem dl_807 : decode code 807 = .ok (.iconst 1, 1) := by decide +kernel
theorem dl_808 : decode code 808 = .ok (.iadd, 1) := by decide +kernel
theorem dl_809 : decode code 809 = .ok (.iaload, 1) := by decide +kernel
theorem dl_810 : decode code 810 = .ok (.aload_n 0, 1) := by decide +kernel
theorem dl_811 : decode code 811 = .ok (.iload_n 3, 1) := by decide +kernel
theorem dl_812 : decode code 812 = .ok (.iconst 2, 1) := by decide +kernel
theorem dl_813 : decode code 813 = .ok (.iadd, 1) := by decide +kernel
theorem dl_814 : decode code 814 = .ok (.iaload, 1) := by decide +kernel
theorem dl_815 : decode code 815 = .ok (.invokevirtual 113, 3) := by decide +kernel
theorem dl_818 : decode code 818 = .ok (.aload_n 2, 1) := by decide +kernel
theorem dl_819 : decode code 819 = .ok (.aload_n 0, 1) := by decide +kernel
theorem dl_820 : decode code 820 = .ok (.iload_n 3, 1) := by decide +kernel
theorem dl_821 : decode code 821 = .ok (.iconst 1, 1) := by decide +kernel
theorem dl_822 : decode code 822 = .ok (.iadd, 1) := by decide +kernel
theorem dl_823 : decode code 823 = .ok (.iaload, 1) := by decide +kernel
