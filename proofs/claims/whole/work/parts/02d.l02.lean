theorem dL_law__615 : decode cL_law_ 615 = .ok (.aload_n 0, 1) := by decide +kernel
theorem dL_law__616 : decode cL_law_ 616 = .ok (.iload 4, 2) := by decide +kernel
theorem dL_law__618 : decode cL_law_ 618 = .ok (.iconst 1, 1) := by decide +kernel
theorem dL_law__619 : decode cL_law_ 619 = .ok (.iadd, 1) := by decide +kernel
theorem dL_law__620 : decode cL_law_ 620 = .ok (.iaload, 1) := by decide +kernel
theorem dL_law__621 : decode cL_law_ 621 = .ok (.aload_n 0, 1) := by decide +kernel
theorem dL_law__622 : decode cL_law_ 622 = .ok (.iload 4, 2) := by decide +kernel
theorem dL_law__624 : decode cL_law_ 624 = .ok (.iconst 2, 1) := by decide +kernel
theorem dL_law__625 : decode cL_law_ 625 = .ok (.iadd, 1) := by decide +kernel
theorem dL_law__626 : decode cL_law_ 626 = .ok (.iaload, 1) := by decide +kernel
theorem dL_law__627 : decode cL_law_ 627 = .ok (.aload_n 3, 1) := by decide +kernel
theorem dL_law__628 : decode cL_law_ 628 = .ok (.invokestatic 146, 3) := by decide +kernel
theorem dL_law__631 : decode cL_law_ 631 = .ok (.istore 5, 2) := by decide +kernel
theorem dL_law__633 : decode cL_law_ 633 = .ok (.aload_n 2, 1) := by decide +kernel
theorem dL_law__634 : decode cL_law_ 634 = .ok (.aload_n 0, 1) := by decide +kernel
theorem dL_law__635 : decode cL_law_ 635 = .ok (.iload 4, 2) := by decide +kernel
theorem dL_law__637 : decode cL_law_ 637 = .ok (.iconst 1, 1) := by decide +kernel
theorem dL_law__638 : decode cL_law_ 638 = .ok (.iadd, 1) := by decide +kernel
theorem dL_law__639 : decode cL_law_ 639 = .ok (.iaload, 1) := by decide +kernel
theorem dL_law__640 : decode cL_law_ 640 = .ok (.aload_n 0, 1) := by decide +kernel
theorem dL_law__641 : decode cL_law_ 641 = .ok (.iload 4, 2) := by decide +kernel
theorem dL_law__643 : decode cL_law_ 643 = .ok (.iconst 2, 1) := by decide +kernel
theorem dL_law__644 : decode cL_law_ 644 = .ok (.iadd, 1) := by decide +kernel
theorem dL_law__645 : decode cL_law_ 645 = .ok (.iaload, 1) := by decide +kernel
theorem dL_law__646 : decode cL_law_ 646 = .ok (.invokevirtual 148, 3) := by decide +kernel
theorem dL_law__649 : decode cL_law_ 649 = .ok (.istore 6, 2) := by decide +kernel
theorem dL_law__651 : decode cL_law_ 651 = .ok (.aload_n 2, 1) := by decide +kernel
theorem dL_law__652 : decode cL_law_ 652 = .ok (.invokevirtual 122, 3) := by decide +kernel
theorem dL_law__655 : decode cL_law_ 655 = .ok (.iload 5, 2) := by decide +kernel
theorem dL_law__657 : decode cL_law_ 657 = .ok (.if_icmp .eq 5, 3) := by decide +kernel
theorem dL_law__660 : decode cL_law_ 660 = .ok (.iconst 0, 1) := by decide +kernel
theorem dL_law__661 : decode cL_law_ 661 = .ok (.ireturn, 1) := by decide +kernel
theorem dL_law__662 : decode cL_law_ 662 = .ok (.iload 5, 2) := by decide +kernel
theorem dL_law__664 : decode cL_law_ 664 = .ok (.ifCond .ne 15, 3) := by decide +kernel
theorem dL_law__667 : decode cL_law_ 667 = .ok (.aload_n 3, 1) := by decide +kernel
theorem dL_law__668 : decode cL_law_ 668 = .ok (.iconst 0, 1) := by decide +kernel
theorem dL_law__669 : decode cL_law_ 669 = .ok (.laload, 1) := by decide +kernel
theorem dL_law__670 : decode cL_law_ 670 = .ok (.iload 6, 2) := by decide +kernel
theorem dL_law__672 : decode cL_law_ 672 = .ok (.i2l, 1) := by decide +kernel
theorem dL_law__673 : decode cL_law_ 673 = .ok (.lcmp, 1) := by decide +kernel
theorem dL_law__674 : decode cL_law_ 674 = .ok (.ifCond .eq 5, 3) := by decide +kernel
theorem dL_law__677 : decode cL_law_ 677 = .ok (.iconst 0, 1) := by decide +kernel
theorem dL_law__678 : decode cL_law_ 678 = .ok (.ireturn, 1) := by decide +kernel
theorem dL_law__679 : decode cL_law_ 679 = .ok (.goto 1805, 3) := by decide +kernel
theorem dL_law__682 : decode cL_law_ 682 = .ok (.aload_n 1, 1) := by decide +kernel
theorem dL_law__683 : decode cL_law_ 683 = .ok (.aload_n 0, 1) := by decide +kernel
theorem dL_law__684 : decode cL_law_ 684 = .ok (.iload 4, 2) := by decide +kernel
theorem dL_law__686 : decode cL_law_ 686 = .ok (.iconst 1, 1) := by decide +kernel
theorem dL_law__687 : decode cL_law_ 687 = .ok (.iadd, 1) := by decide +kernel
theorem dL_law__688 : decode cL_law_ 688 = .ok (.iaload, 1) := by decide +kernel
theorem dL_law__689 : decode cL_law_ 689 = .ok (.aload_n 0, 1) := by decide +kernel
theorem dL_law__690 : decode cL_law_ 690 = .ok (.iload 4, 2) := by decide +kernel
theorem dL_law__692 : decode cL_law_ 692 = .ok (.iconst 2, 1) := by decide +kernel
theorem dL_law__693 : decode cL_law_ 693 = .ok (.iadd, 1) := by decide +kernel
theorem dL_law__694 : decode cL_law_ 694 = .ok (.iaload, 1) := by decide +kernel
theorem dL_law__695 : decode cL_law_ 695 = .ok (.aload_n 3, 1) := by decide +kernel
theorem dL_law__696 : decode cL_law_ 696 = .ok (.invokestatic 149, 3) := by decide +kernel
theorem dL_law__699 : decode cL_law_ 699 = .ok (.istore 5, 2) := by decide +kernel
theorem dL_law__701 : decode cL_law_ 701 = .ok (.aload_n 2, 1) := by decide +kernel
theorem dL_law__702 : decode cL_law_ 702 = .ok (.aload_n 0, 1) := by decide +kernel
theorem dL_law__703 : decode cL_law_ 703 = .ok (.iload 4, 2) := by decide +kernel
theorem dL_law__705 : decode cL_law_ 705 = .ok (.iconst 1, 1) := by decide +kernel
theorem dL_law__706 : decode cL_law_ 706 = .ok (.iadd, 1) := by decide +kernel
theorem dL_law__707 : decode cL_law_ 707 = .ok (.iaload, 1) := by decide +kernel
theorem dL_law__708 : decode cL_law_ 708 = .ok (.aload_n 0, 1) := by decide +kernel
theorem dL_law__709 : decode cL_law_ 709 = .ok (.iload 4, 2) := by decide +kernel
theorem dL_law__711 : decode cL_law_ 711 = .ok (.iconst 2, 1) := by decide +kernel
theorem dL_law__712 : decode cL_law_ 712 = .ok (.iadd, 1) := by decide +kernel
theorem dL_law__713 : decode cL_law_ 713 = .ok (.iaload, 1) := by decide +kernel
theorem dL_law__714 : decode cL_law_ 714 = .ok (.invokevirtual 151, 3) := by decide +kernel
theorem dL_law__717 : decode cL_law_ 717 = .ok (.istore 6, 2) := by decide +kernel
theorem dL_law__719 : decode cL_law_ 719 = .ok (.aload_n 2, 1) := by decide +kernel
theorem dL_law__720 : decode cL_law_ 720 = .ok (.invokevirtual 122, 3) := by decide +kernel
theorem dL_law__723 : decode cL_law_ 723 = .ok (.iload 5, 2) := by decide +kernel
theorem dL_law__725 : decode cL_law_ 725 = .ok (.if_icmp .eq 5, 3) := by decide +kernel
theorem dL_law__728 : decode cL_law_ 728 = .ok (.iconst 0, 1) := by decide +kernel
theorem dL_law__729 : decode cL_law_ 729 = .ok (.ireturn, 1) := by decide +kernel
theorem dL_law__730 : decode cL_law_ 730 = .ok (.iload 5, 2) := by decide +kernel
theorem dL_law__732 : decode cL_law_ 732 = .ok (.ifCond .ne 15, 3) := by decide +kernel
theorem dL_law__735 : decode cL_law_ 735 = .ok (.aload_n 3, 1) := by decide +kernel
theorem dL_law__736 : decode cL_law_ 736 = .ok (.iconst 0, 1) := by decide +kernel
theorem dL_law__737 : decode cL_law_ 737 = .ok (.laload, 1) := by decide +kernel
theorem dL_law__738 : decode cL_law_ 738 = .ok (.iload 6, 2) := by decide +kernel
theorem dL_law__740 : decode cL_law_ 740 = .ok (.i2l, 1) := by decide +kernel
theorem dL_law__741 : decode cL_law_ 741 = .ok (.lcmp, 1) := by decide +kernel
theorem dL_law__742 : decode cL_law_ 742 = .ok (.ifCond .eq 5, 3) := by decide +kernel
theorem dL_law__745 : decode cL_law_ 745 = .ok (.iconst 0, 1) := by decide +kernel
theorem dL_law__746 : decode cL_law_ 746 = .ok (.ireturn, 1) := by decide +kernel
theorem dL_law__747 : decode cL_law_ 747 = .ok (.goto 1737, 3) := by decide +kernel
theorem dL_law__750 : decode cL_law_ 750 = .ok (.aload_n 1, 1) := by decide +kernel
theorem dL_law__751 : decode cL_law_ 751 = .ok (.aload_n 0, 1) := by decide +kernel
theorem dL_law__752 : decode cL_law_ 752 = .ok (.iload 4, 2) := by decide +kernel
theorem dL_law__754 : decode cL_law_ 754 = .ok (.iconst 1, 1) := by decide +kernel
theorem dL_law__755 : decode cL_law_ 755 = .ok (.iadd, 1) := by decide +kernel
theorem dL_law__756 : decode cL_law_ 756 = .ok (.iaload, 1) := by decide +kernel
theorem dL_law__757 : decode cL_law_ 757 = .ok (.aload_n 0, 1) := by decide +kernel
theorem dL_law__758 : decode cL_law_ 758 = .ok (.iload 4, 2) := by decide +kernel
theorem dL_law__760 : decode cL_law_ 760 = .ok (.iconst 2, 1) := by decide +kernel
theorem dL_law__761 : decode cL_law_ 761 = .ok (.iadd, 1) := by decide +kernel
theorem dL_law__762 : decode cL_law_ 762 = .ok (.iaload, 1) := by decide +kernel
theorem dL_law__763 : decode cL_law_ 763 = .ok (.aload_n 0, 1) := by decide +kernel
theorem dL_law__764 : decode cL_law_ 764 = .ok (.iload 4, 2) := by decide +kernel
theorem dL_law__766 : decode cL_law_ 766 = .ok (.iconst 3, 1) := by decide +kernel
theorem dL_law__767 : decode cL_law_ 767 = .ok (.iadd, 1) := by decide +kernel
theorem dL_law__768 : decode cL_law_ 768 = .ok (.iaload, 1) := by decide +kernel
theorem dL_law__769 : decode cL_law_ 769 = .ok (.aload_n 3, 1) := by decide +kernel
theorem dL_law__770 : decode cL_law_ 770 = .ok (.invokestatic 152, 3) := by decide +kernel
theorem dL_law__773 : decode cL_law_ 773 = .ok (.istore 5, 2) := by decide +kernel
theorem dL_law__775 : decode cL_law_ 775 = .ok (.aload_n 2, 1) := by decide +kernel
theorem dL_law__776 : decode cL_law_ 776 = .ok (.aload_n 0, 1) := by decide +kernel
theorem dL_law__777 : decode cL_law_ 777 = .ok (.iload 4, 2) := by decide +kernel
theorem dL_law__779 : decode cL_law_ 779 = .ok (.iconst 1, 1) := by decide +kernel
theorem dL_law__780 : decode cL_law_ 780 = .ok (.iadd, 1) := by decide +kernel
theorem dL_law__781 : decode cL_law_ 781 = .ok (.iaload, 1) := by decide +kernel
theorem dL_law__782 : decode cL_law_ 782 = .ok (.aload_n 0, 1) := by decide +kernel
theorem dL_law__783 : decode cL_law_ 783 = .ok (.iload 4, 2) := by decide +kernel
theorem dL_law__785 : decode cL_law_ 785 = .ok (.iconst 2, 1) := by decide +kernel
theorem dL_law__786 : decode cL_law_ 786 = .ok (.iadd, 1) := by decide +kernel
theorem dL_law__787 : decode cL_law_ 787 = .ok (.iaload, 1) := by decide +kernel
theorem dL_law__788 : decode cL_law_ 788 = .ok (.aload_n 0, 1) := by decide +kernel
theorem dL_law__789 : decode cL_law_ 789 = .ok (.iload 4, 2) := by decide +kernel
theorem dL_law__791 : decode cL_law_ 791 = .ok (.iconst 3, 1) := by decide +kernel
theorem dL_law__792 : decode cL_law_ 792 = .ok (.iadd, 1) := by decide +kernel
theorem dL_law__793 : decode cL_law_ 793 = .ok (.iaload, 1) := by decide +kernel
theorem dL_law__794 : decode cL_law_ 794 = .ok (.invokevirtual 154, 3) := by decide +kernel
theorem dL_law__797 : decode cL_law_ 797 = .ok (.istore 6, 2) := by decide +kernel
theorem dL_law__799 : decode cL_law_ 799 = .ok (.aload_n 2, 1) := by decide +kernel
theorem dL_law__800 : decode cL_law_ 800 = .ok (.invokevirtual 122, 3) := by decide +kernel
theorem dL_law__803 : decode cL_law_ 803 = .ok (.iload 5, 2) := by decide +kernel
theorem dL_law__805 : decode cL_law_ 805 = .ok (.if_icmp .eq 5, 3) := by decide +kernel
theorem dL_law__808 : decode cL_law_ 808 = .ok (.iconst 0, 1) := by decide +kernel
theorem dL_law__809 : decode cL_law_ 809 = .ok (.ireturn, 1) := by decide +kernel
theorem dL_law__810 : decode cL_law_ 810 = .ok (.iload 5, 2) := by decide +kernel
theorem dL_law__812 : decode cL_law_ 812 = .ok (.ifCond .ne 15, 3) := by decide +kernel
theorem dL_law__815 : decode cL_law_ 815 = .ok (.aload_n 3, 1) := by decide +kernel
theorem dL_law__816 : decode cL_law_ 816 = .ok (.iconst 0, 1) := by decide +kernel
theorem dL_law__817 : decode cL_law_ 817 = .ok (.laload, 1) := by decide +kernel
theorem dL_law__818 : decode cL_law_ 818 = .ok (.iload 6, 2) := by decide +kernel
theorem dL_law__820 : decode cL_law_ 820 = .ok (.i2l, 1) := by decide +kernel
theorem dL_law__821 : decode cL_law_ 821 = .ok (.lcmp, 1) := by decide +kernel
theorem dL_law__822 : decode cL_law_ 822 = .ok (.ifCond .eq 5, 3) := by decide +kernel
theorem dL_law__825 : decode cL_law_ 825 = .ok (.iconst 0, 1) := by decide +kernel
theorem dL_law__826 : decode cL_law_ 826 = .ok (.ireturn, 1) := by decide +kernel
theorem dL_law__827 : decode cL_law_ 827 = .ok (.goto 1657, 3) := by decide +kernel
theorem dL_law__830 : decode cL_law_ 830 = .ok (.aload_n 1, 1) := by decide +kernel
theorem dL_law__831 : decode cL_law_ 831 = .ok (.aload_n 0, 1) := by decide +kernel
theorem dL_law__832 : decode cL_law_ 832 = .ok (.iload 4, 2) := by decide +kernel
theorem dL_law__834 : decode cL_law_ 834 = .ok (.iconst 1, 1) := by decide +kernel
theorem dL_law__835 : decode cL_law_ 835 = .ok (.iadd, 1) := by decide +kernel
theorem dL_law__836 : decode cL_law_ 836 = .ok (.iaload, 1) := by decide +kernel
