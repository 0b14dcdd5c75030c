theorem d_lw_law_702 : decode code 702 = .ok (.iload 6, 2) := by decide +kernel
theorem d_lw_law_704 : decode code 704 = .ok (.i2l, 1) := by decide +kernel
theorem d_lw_law_705 : decode code 705 = .ok (.lcmp, 1) := by decide +kernel
theorem d_lw_law_706 : decode code 706 = .ok (.ifCond .eq 5, 3) := by decide +kernel
theorem d_lw_law_709 : decode code 709 = .ok (.iconst 0, 1) := by decide +kernel
theorem d_lw_law_710 : decode code 710 = .ok (.ireturn, 1) := by decide +kernel
theorem d_lw_law_711 : decode code 711 = .ok (.goto 306, 3) := by decide +kernel
theorem d_lw_law_714 : decode code 714 = .ok (.aload_n 1, 1) := by decide +kernel
theorem d_lw_law_715 : decode code 715 = .ok (.aload_n 0, 1) := by decide +kernel
theorem d_lw_law_716 : decode code 716 = .ok (.iload 4, 2) := by decide +kernel
theorem d_lw_law_718 : decode code 718 = .ok (.iconst 1, 1) := by decide +kernel
theorem d_lw_law_719 : decode code 719 = .ok (.iadd, 1) := by decide +kernel
theorem d_lw_law_720 : decode code 720 = .ok (.iaload, 1) := by decide +kernel
theorem d_lw_law_721 : decode code 721 = .ok (.invokevirtual 86, 3) := by decide +kernel
theorem d_lw_law_724 : decode code 724 = .ok (.aload_n 2, 1) := by decide +kernel
theorem d_lw_law_725 : decode code 725 = .ok (.aload_n 0, 1) := by decide +kernel
theorem d_lw_law_726 : decode code 726 = .ok (.iload 4, 2) := by decide +kernel
theorem d_lw_law_728 : decode code 728 = .ok (.iconst 1, 1) := by decide +kernel
theorem d_lw_law_729 : decode code 729 = .ok (.iadd, 1) := by decide +kernel
theorem d_lw_law_730 : decode code 730 = .ok (.iaload, 1) := by decide +kernel
theorem d_lw_law_731 : decode code 731 = .ok (.invokevirtual 90, 3) := by decide +kernel
theorem d_lw_law_734 : decode code 734 = .ok (.if_icmp .eq 283, 3) := by decide +kernel
theorem d_lw_law_737 : decode code 737 = .ok (.iconst 0, 1) := by decide +kernel
theorem d_lw_law_738 : decode code 738 = .ok (.ireturn, 1) := by decide +kernel
theorem d_lw_law_739 : decode code 739 = .ok (.aload_n 1, 1) := by decide +kernel
theorem d_lw_law_740 : decode code 740 = .ok (.aload_n 0, 1) := by decide +kernel
theorem d_lw_law_741 : decode code 741 = .ok (.iload 4, 2) := by decide +kernel
theorem d_lw_law_743 : decode code 743 = .ok (.iconst 1, 1) := by decide +kernel
theorem d_lw_law_744 : decode code 744 = .ok (.iadd, 1) := by decide +kernel
theorem d_lw_law_745 : decode code 745 = .ok (.iaload, 1) := by decide +kernel
theorem d_lw_law_746 : decode code 746 = .ok (.aload_n 0, 1) := by decide +kernel
theorem d_lw_law_747 : decode code 747 = .ok (.iload 4, 2) := by decide +kernel
theorem d_lw_law_749 : decode code 749 = .ok (.iconst 2, 1) := by decide +kernel
theorem d_lw_law_750 : decode code 750 = .ok (.iadd, 1) := by decide +kernel
theorem d_lw_law_751 : decode code 751 = .ok (.iaload, 1) := by decide +kernel
theorem d_lw_law_752 : decode code 752 = .ok (.aload_n 0, 1) := by decide +kernel
theorem d_lw_law_753 : decode code 753 = .ok (.iload 4, 2) := by decide +kernel
theorem d_lw_law_755 : decode code 755 = .ok (.iconst 3, 1) := by decide +kernel
theorem d_lw_law_756 : decode code 756 = .ok (.iadd, 1) := by decide +kernel
theorem d_lw_law_757 : decode code 757 = .ok (.iaload, 1) := by decide +kernel
theorem d_lw_law_758 : decode code 758 = .ok (.aload_n 3, 1) := by decide +kernel
theorem d_lw_law_759 : decode code 759 = .ok (.invokestatic 91, 3) := by decide +kernel
theorem d_lw_law_762 : decode code 762 = .ok (.istore 5, 2) := by decide +kernel
theorem d_lw_law_764 : decode code 764 = .ok (.aload_n 2, 1) := by decide +kernel
theorem d_lw_law_765 : decode code 765 = .ok (.aload_n 0, 1) := by decide +kernel
theorem d_lw_law_766 : decode code 766 = .ok (.iload 4, 2) := by decide +kernel
theorem d_lw_law_768 : decode code 768 = .ok (.iconst 1, 1) := by decide +kernel
theorem d_lw_law_769 : decode code 769 = .ok (.iadd, 1) := by decide +kernel
theorem d_lw_law_770 : decode code 770 = .ok (.iaload, 1) := by decide +kernel
theorem d_lw_law_771 : decode code 771 = .ok (.aload_n 0, 1) := by decide +kernel
theorem d_lw_law_772 : decode code 772 = .ok (.iload 4, 2) := by decide +kernel
theorem d_lw_law_774 : decode code 774 = .ok (.iconst 2, 1) := by decide +kernel
theorem d_lw_law_775 : decode code 775 = .ok (.iadd, 1) := by decide +kernel
theorem d_lw_law_776 : decode code 776 = .ok (.iaload, 1) := by decide +kernel
theorem d_lw_law_777 : decode code 777 = .ok (.aload_n 0, 1) := by decide +kernel
theorem d_lw_law_778 : decode code 778 = .ok (.iload 4, 2) := by decide +kernel
theorem d_lw_law_780 : decode code 780 = .ok (.iconst 3, 1) := by decide +kernel
theorem d_lw_law_781 : decode code 781 = .ok (.iadd, 1) := by decide +kernel
theorem d_lw_law_782 : decode code 782 = .ok (.iaload, 1) := by decide +kernel
theorem d_lw_law_783 : decode code 783 = .ok (.invokevirtual 93, 3) := by decide +kernel
theorem d_lw_law_786 : decode code 786 = .ok (.istore 6, 2) := by decide +kernel
theorem d_lw_law_788 : decode code 788 = .ok (.aload_n 2, 1) := by decide +kernel
theorem d_lw_law_789 : decode code 789 = .ok (.invokevirtual 55, 3) := by decide +kernel
theorem d_lw_law_792 : decode code 792 = .ok (.iload 5, 2) := by decide +kernel
theorem d_lw_law_794 : decode code 794 = .ok (.if_icmp .eq 5, 3) := by decide +kernel
theorem d_lw_law_797 : decode code 797 = .ok (.iconst 0, 1) := by decide +kernel
theorem d_lw_law_798 : decode code 798 = .ok (.ireturn, 1) := by decide +kernel
theorem d_lw_law_799 : decode code 799 = .ok (.iload 5, 2) := by decide +kernel
theorem d_lw_law_801 : decode code 801 = .ok (.ifCond .ne 15, 3) := by decide +kernel
theorem d_lw_law_804 : decode code 804 = .ok (.aload_n 3, 1) := by decide +kernel
theorem d_lw_law_805 : decode code 805 = .ok (.iconst 0, 1) := by decide +kernel
theorem d_lw_law_806 : decode code 806 = .ok (.laload, 1) := by decide +kernel
theorem d_lw_law_807 : decode code 807 = .ok (.iload 6, 2) := by decide +kernel
theorem d_lw_law_809 : decode code 809 = .ok (.i2l, 1) := by decide +kernel
theorem d_lw_law_810 : decode code 810 = .ok (.lcmp, 1) := by decide +kernel
theorem d_lw_law_811 : decode code 811 = .ok (.ifCond .eq 5, 3) := by decide +kernel
theorem d_lw_law_814 : decode code 814 = .ok (.iconst 0, 1) := by decide +kernel
theorem d_lw_law_815 : decode code 815 = .ok (.ireturn, 1) := by decide +kernel
theorem d_lw_law_816 : decode code 816 = .ok (.goto 201, 3) := by decide +kernel
theorem d_lw_law_819 : decode code 819 = .ok (.aload_n 1, 1) := by decide +kernel
theorem d_lw_law_820 : decode code 820 = .ok (.aload_n 0, 1) := by decide +kernel
theorem d_lw_law_821 : decode code 821 = .ok (.iload 4, 2) := by decide +kernel
theorem d_lw_law_823 : decode code 823 = .ok (.iconst 1, 1) := by decide +kernel
theorem d_lw_law_824 : decode code 824 = .ok (.iadd, 1) := by decide +kernel
theorem d_lw_law_825 : decode code 825 = .ok (.iaload, 1) := by decide +kernel
theorem d_lw_law_826 : decode code 826 = .ok (.invokevirtual 94, 3) := by decide +kernel
theorem d_lw_law_829 : decode code 829 = .ok (.aload_n 2, 1) := by decide +kernel
theorem d_lw_law_830 : decode code 830 = .ok (.aload_n 0, 1) := by decide +kernel
theorem d_lw_law_831 : decode code 831 = .ok (.iload 4, 2) := by decide +kernel
theorem d_lw_law_833 : decode code 833 = .ok (.iconst 1, 1) := by decide +kernel
theorem d_lw_law_834 : decode code 834 = .ok (.iadd, 1) := by decide +kernel
theorem d_lw_law_835 : decode code 835 = .ok (.iaload, 1) := by decide +kernel
theorem d_lw_law_836 : decode code 836 = .ok (.invokevirtual 97, 3) := by decide +kernel
theorem d_lw_law_839 : decode code 839 = .ok (.if_icmp .eq 178, 3) := by decide +kernel
theorem d_lw_law_842 : decode code 842 = .ok (.iconst 0, 1) := by decide +kernel
theorem d_lw_law_843 : decode code 843 = .ok (.ireturn, 1) := by decide +kernel
theorem d_lw_law_844 : decode code 844 = .ok (.aload_n 1, 1) := by decide +kernel
theorem d_lw_law_845 : decode code 845 = .ok (.aload_n 0, 1) := by decide +kernel
theorem d_lw_law_846 : decode code 846 = .ok (.iload 4, 2) := by decide +kernel
theorem d_lw_law_848 : decode code 848 = .ok (.iconst 1, 1) := by decide +kernel
theorem d_lw_law_849 : decode code 849 = .ok (.iadd, 1) := by decide +kernel
theorem d_lw_law_850 : decode code 850 = .ok (.iaload, 1) := by decide +kernel
theorem d_lw_law_851 : decode code 851 = .ok (.aload_n 0, 1) := by decide +kernel
theorem d_lw_law_852 : decode code 852 = .ok (.iload 4, 2) := by decide +kernel
theorem d_lw_law_854 : decode code 854 = .ok (.iconst 2, 1) := by decide +kernel
theorem d_lw_law_855 : decode code 855 = .ok (.iadd, 1) := by decide +kernel
theorem d_lw_law_856 : decode code 856 = .ok (.iaload, 1) := by decide +kernel
theorem d_lw_law_857 : decode code 857 = .ok (.aload_n 3, 1) := by decide +kernel
theorem d_lw_law_858 : decode code 858 = .ok (.invokestatic 98, 3) := by decide +kernel
theorem d_lw_law_861 : decode code 861 = .ok (.istore 5, 2) := by decide +kernel
