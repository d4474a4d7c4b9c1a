theorem d_L_law_717 : decode b_L_law 717 = .ok (.ireturn, 1) := by decide +kernel
theorem d_L_law_718 : decode b_L_law 718 = .ok (.goto 521, 3) := by decide +kernel
theorem d_L_law_721 : decode b_L_law 721 = .ok (.aload_n 1, 1) := by decide +kernel
theorem d_L_law_722 : decode b_L_law 722 = .ok (.aload_n 0, 1) := by decide +kernel
theorem d_L_law_723 : decode b_L_law 723 = .ok (.iload 4, 2) := by decide +kernel
theorem d_L_law_725 : decode b_L_law 725 = .ok (.iconst 1, 1) := by decide +kernel
theorem d_L_law_726 : decode b_L_law 726 = .ok (.iadd, 1) := by decide +kernel
theorem d_L_law_727 : decode b_L_law 727 = .ok (.iaload, 1) := by decide +kernel
theorem d_L_law_728 : decode b_L_law 728 = .ok (.i2l, 1) := by decide +kernel
theorem d_L_law_729 : decode b_L_law 729 = .ok (.bipush 32, 2) := by decide +kernel
theorem d_L_law_731 : decode b_L_law 731 = .ok (.lshl, 1) := by decide +kernel
theorem d_L_law_732 : decode b_L_law 732 = .ok (.aload_n 0, 1) := by decide +kernel
theorem d_L_law_733 : decode b_L_law 733 = .ok (.iload 4, 2) := by decide +kernel
theorem d_L_law_735 : decode b_L_law 735 = .ok (.iconst 2, 1) := by decide +kernel
theorem d_L_law_736 : decode b_L_law 736 = .ok (.iadd, 1) := by decide +kernel
theorem d_L_law_737 : decode b_L_law 737 = .ok (.iaload, 1) := by decide +kernel
theorem d_L_law_738 : decode b_L_law 738 = .ok (.i2l, 1) := by decide +kernel
theorem d_L_law_739 : decode b_L_law 739 = .ok (.ldc2_w 100, 3) := by decide +kernel
theorem d_L_law_742 : decode b_L_law 742 = .ok (.land, 1) := by decide +kernel
theorem d_L_law_743 : decode b_L_law 743 = .ok (.lor, 1) := by decide +kernel
theorem d_L_law_744 : decode b_L_law 744 = .ok (.invokevirtual 102, 3) := by decide +kernel
theorem d_L_law_747 : decode b_L_law 747 = .ok (.aload_n 2, 1) := by decide +kernel
theorem d_L_law_748 : decode b_L_law 748 = .ok (.aload_n 0, 1) := by decide +kernel
theorem d_L_law_749 : decode b_L_law 749 = .ok (.iload 4, 2) := by decide +kernel
theorem d_L_law_751 : decode b_L_law 751 = .ok (.iconst 1, 1) := by decide +kernel
theorem d_L_law_752 : decode b_L_law 752 = .ok (.iadd, 1) := by decide +kernel
theorem d_L_law_753 : decode b_L_law 753 = .ok (.iaload, 1) := by decide +kernel
theorem d_L_law_754 : decode b_L_law 754 = .ok (.i2l, 1) := by decide +kernel
theorem d_L_law_755 : decode b_L_law 755 = .ok (.bipush 32, 2) := by decide +kernel
theorem d_L_law_757 : decode b_L_law 757 = .ok (.lshl, 1) := by decide +kernel
theorem d_L_law_758 : decode b_L_law 758 = .ok (.aload_n 0, 1) := by decide +kernel
theorem d_L_law_759 : decode b_L_law 759 = .ok (.iload 4, 2) := by decide +kernel
theorem d_L_law_761 : decode b_L_law 761 = .ok (.iconst 2, 1) := by decide +kernel
theorem d_L_law_762 : decode b_L_law 762 = .ok (.iadd, 1) := by decide +kernel
theorem d_L_law_763 : decode b_L_law 763 = .ok (.iaload, 1) := by decide +kernel
theorem d_L_law_764 : decode b_L_law 764 = .ok (.i2l, 1) := by decide +kernel
theorem d_L_law_765 : decode b_L_law 765 = .ok (.ldc2_w 100, 3) := by decide +kernel
theorem d_L_law_768 : decode b_L_law 768 = .ok (.land, 1) := by decide +kernel
theorem d_L_law_769 : decode b_L_law 769 = .ok (.lor, 1) := by decide +kernel
theorem d_L_law_770 : decode b_L_law 770 = .ok (.invokevirtual 106, 3) := by decide +kernel
theorem d_L_law_773 : decode b_L_law 773 = .ok (.lcmp, 1) := by decide +kernel
theorem d_L_law_774 : decode b_L_law 774 = .ok (.ifCond .eq 465, 3) := by decide +kernel
theorem d_L_law_777 : decode b_L_law 777 = .ok (.iconst 0, 1) := by decide +kernel
theorem d_L_law_778 : decode b_L_law 778 = .ok (.ireturn, 1) := by decide +kernel
theorem d_L_law_779 : decode b_L_law 779 = .ok (.aload_n 1, 1) := by decide +kernel
theorem d_L_law_780 : decode b_L_law 780 = .ok (.aload_n 0, 1) := by decide +kernel
theorem d_L_law_781 : decode b_L_law 781 = .ok (.iload 4, 2) := by decide +kernel
theorem d_L_law_783 : decode b_L_law 783 = .ok (.iconst 1, 1) := by decide +kernel
theorem d_L_law_784 : decode b_L_law 784 = .ok (.iadd, 1) := by decide +kernel
theorem d_L_law_785 : decode b_L_law 785 = .ok (.iaload, 1) := by decide +kernel
theorem d_L_law_786 : decode b_L_law 786 = .ok (.aload_n 3, 1) := by decide +kernel
theorem d_L_law_787 : decode b_L_law 787 = .ok (.invokestatic 107, 3) := by decide +kernel
theorem d_L_law_790 : decode b_L_law 790 = .ok (.istore 5, 2) := by decide +kernel
theorem d_L_law_792 : decode b_L_law 792 = .ok (.aload_n 2, 1) := by decide +kernel
theorem d_L_law_793 : decode b_L_law 793 = .ok (.aload_n 0, 1) := by decide +kernel
theorem d_L_law_794 : decode b_L_law 794 = .ok (.iload 4, 2) := by decide +kernel
theorem d_L_law_796 : decode b_L_law 796 = .ok (.iconst 1, 1) := by decide +kernel
theorem d_L_law_797 : decode b_L_law 797 = .ok (.iadd, 1) := by decide +kernel
theorem d_L_law_798 : decode b_L_law 798 = .ok (.iaload, 1) := by decide +kernel
theorem d_L_law_799 : decode b_L_law 799 = .ok (.invokevirtual 109, 3) := by decide +kernel
theorem d_L_law_802 : decode b_L_law 802 = .ok (.lstore 6, 2) := by decide +kernel
theorem d_L_law_804 : decode b_L_law 804 = .ok (.aload_n 2, 1) := by decide +kernel
theorem d_L_law_805 : decode b_L_law 805 = .ok (.invokevirtual 72, 3) := by decide +kernel
theorem d_L_law_808 : decode b_L_law 808 = .ok (.iload 5, 2) := by decide +kernel
theorem d_L_law_810 : decode b_L_law 810 = .ok (.if_icmp .eq 5, 3) := by decide +kernel
theorem d_L_law_813 : decode b_L_law 813 = .ok (.iconst 0, 1) := by decide +kernel
theorem d_L_law_814 : decode b_L_law 814 = .ok (.ireturn, 1) := by decide +kernel
theorem d_L_law_815 : decode b_L_law 815 = .ok (.iload 5, 2) := by decide +kernel
theorem d_L_law_817 : decode b_L_law 817 = .ok (.ifCond .ne 14, 3) := by decide +kernel
theorem d_L_law_820 : decode b_L_law 820 = .ok (.aload_n 3, 1) := by decide +kernel
theorem d_L_law_821 : decode b_L_law 821 = .ok (.iconst 0, 1) := by decide +kernel
theorem d_L_law_822 : decode b_L_law 822 = .ok (.laload, 1) := by decide +kernel
theorem d_L_law_823 : decode b_L_law 823 = .ok (.lload 6, 2) := by decide +kernel
theorem d_L_law_825 : decode b_L_law 825 = .ok (.lcmp, 1) := by decide +kernel
theorem d_L_law_826 : decode b_L_law 826 = .ok (.ifCond .eq 5, 3) := by decide +kernel
theorem d_L_law_829 : decode b_L_law 829 = .ok (.iconst 0, 1) := by decide +kernel
theorem d_L_law_830 : decode b_L_law 830 = .ok (.ireturn, 1) := by decide +kernel
theorem d_L_law_831 : decode b_L_law 831 = .ok (.goto 408, 3) := by decide +kernel
theorem d_L_law_834 : decode b_L_law 834 = .ok (.aload_n 1, 1) := by decide +kernel
theorem d_L_law_835 : decode b_L_law 835 = .ok (.aload_n 0, 1) := by decide +kernel
theorem d_L_law_836 : decode b_L_law 836 = .ok (.iload 4, 2) := by decide +kernel
theorem d_L_law_838 : decode b_L_law 838 = .ok (.iconst 1, 1) := by decide +kernel
theorem d_L_law_839 : decode b_L_law 839 = .ok (.iadd, 1) := by decide +kernel
theorem d_L_law_840 : decode b_L_law 840 = .ok (.iaload, 1) := by decide +kernel
theorem d_L_law_841 : decode b_L_law 841 = .ok (.aload_n 0, 1) := by decide +kernel
theorem d_L_law_842 : decode b_L_law 842 = .ok (.iload 4, 2) := by decide +kernel
theorem d_L_law_844 : decode b_L_law 844 = .ok (.iconst 2, 1) := by decide +kernel
theorem d_L_law_845 : decode b_L_law 845 = .ok (.iadd, 1) := by decide +kernel
theorem d_L_law_846 : decode b_L_law 846 = .ok (.iaload, 1) := by decide +kernel
theorem d_L_law_847 : decode b_L_law 847 = .ok (.aload_n 3, 1) := by decide +kernel
theorem d_L_law_848 : decode b_L_law 848 = .ok (.invokestatic 110, 3) := by decide +kernel
theorem d_L_law_851 : decode b_L_law 851 = .ok (.istore 5, 2) := by decide +kernel
theorem d_L_law_853 : decode b_L_law 853 = .ok (.aload_n 2, 1) := by decide +kernel
theorem d_L_law_854 : decode b_L_law 854 = .ok (.aload_n 0, 1) := by decide +kernel
theorem d_L_law_855 : decode b_L_law 855 = .ok (.iload 4, 2) := by decide +kernel
theorem d_L_law_857 : decode b_L_law 857 = .ok (.iconst 1, 1) := by decide +kernel
theorem d_L_law_858 : decode b_L_law 858 = .ok (.iadd, 1) := by decide +kernel
theorem d_L_law_859 : decode b_L_law 859 = .ok (.iaload, 1) := by decide +kernel
theorem d_L_law_860 : decode b_L_law 860 = .ok (.aload_n 0, 1) := by decide +kernel
theorem d_L_law_861 : decode b_L_law 861 = .ok (.iload 4, 2) := by decide +kernel
