theorem d_L_law_863 : decode b_L_law 863 = .ok (.iconst 2, 1) := by decide +kernel
theorem d_L_law_864 : decode b_L_law 864 = .ok (.iadd, 1) := by decide +kernel
theorem d_L_law_865 : decode b_L_law 865 = .ok (.iaload, 1) := by decide +kernel
theorem d_L_law_866 : decode b_L_law 866 = .ok (.invokevirtual 112, 3) := by decide +kernel
theorem d_L_law_869 : decode b_L_law 869 = .ok (.istore 6, 2) := by decide +kernel
theorem d_L_law_871 : decode b_L_law 871 = .ok (.aload_n 2, 1) := by decide +kernel
theorem d_L_law_872 : decode b_L_law 872 = .ok (.invokevirtual 72, 3) := by decide +kernel
theorem d_L_law_875 : decode b_L_law 875 = .ok (.iload 5, 2) := by decide +kernel
theorem d_L_law_877 : decode b_L_law 877 = .ok (.if_icmp .eq 5, 3) := by decide +kernel
theorem d_L_law_880 : decode b_L_law 880 = .ok (.iconst 0, 1) := by decide +kernel
theorem d_L_law_881 : decode b_L_law 881 = .ok (.ireturn, 1) := by decide +kernel
theorem d_L_law_882 : decode b_L_law 882 = .ok (.iload 5, 2) := by decide +kernel
theorem d_L_law_884 : decode b_L_law 884 = .ok (.ifCond .ne 22, 3) := by decide +kernel
theorem d_L_law_887 : decode b_L_law 887 = .ok (.aload_n 3, 1) := by decide +kernel
theorem d_L_law_888 : decode b_L_law 888 = .ok (.iconst 0, 1) := by decide +kernel
theorem d_L_law_889 : decode b_L_law 889 = .ok (.laload, 1) := by decide +kernel
theorem d_L_law_890 : decode b_L_law 890 = .ok (.iload 6, 2) := by decide +kernel
theorem d_L_law_892 : decode b_L_law 892 = .ok (.ifCond .eq 7, 3) := by decide +kernel
theorem d_L_law_895 : decode b_L_law 895 = .ok (.lconst 1, 1) := by decide +kernel
theorem d_L_law_896 : decode b_L_law 896 = .ok (.goto 4, 3) := by decide +kernel
theorem d_L_law_899 : decode b_L_law 899 = .ok (.lconst 0, 1) := by decide +kernel
theorem d_L_law_900 : decode b_L_law 900 = .ok (.lcmp, 1) := by decide +kernel
theorem d_L_law_901 : decode b_L_law 901 = .ok (.ifCond .eq 5, 3) := by decide +kernel
theorem d_L_law_904 : decode b_L_law 904 = .ok (.iconst 0, 1) := by decide +kernel
theorem d_L_law_905 : decode b_L_law 905 = .ok (.ireturn, 1) := by decide +kernel
theorem d_L_law_906 : decode b_L_law 906 = .ok (.goto 333, 3) := by decide +kernel
theorem d_L_law_909 : decode b_L_law 909 = .ok (.aload_n 1, 1) := by decide +kernel
theorem d_L_law_910 : decode b_L_law 910 = .ok (.aload_n 0, 1) := by decide +kernel
theorem d_L_law_911 : decode b_L_law 911 = .ok (.iload 4, 2) := by decide +kernel
theorem d_L_law_913 : decode b_L_law 913 = .ok (.iconst 1, 1) := by decide +kernel
theorem d_L_law_914 : decode b_L_law 914 = .ok (.iadd, 1) := by decide +kernel
theorem d_L_law_915 : decode b_L_law 915 = .ok (.iaload, 1) := by decide +kernel
theorem d_L_law_916 : decode b_L_law 916 = .ok (.aload_n 3, 1) := by decide +kernel
theorem d_L_law_917 : decode b_L_law 917 = .ok (.invokestatic 113, 3) := by decide +kernel
theorem d_L_law_920 : decode b_L_law 920 = .ok (.istore 5, 2) := by decide +kernel
theorem d_L_law_922 : decode b_L_law 922 = .ok (.aload_n 2, 1) := by decide +kernel
theorem d_L_law_923 : decode b_L_law 923 = .ok (.aload_n 0, 1) := by decide +kernel
theorem d_L_law_924 : decode b_L_law 924 = .ok (.iload 4, 2) := by decide +kernel
theorem d_L_law_926 : decode b_L_law 926 = .ok (.iconst 1, 1) := by decide +kernel
theorem d_L_law_927 : decode b_L_law 927 = .ok (.iadd, 1) := by decide +kernel
theorem d_L_law_928 : decode b_L_law 928 = .ok (.iaload, 1) := by decide +kernel
theorem d_L_law_929 : decode b_L_law 929 = .ok (.invokevirtual 115, 3) := by decide +kernel
theorem d_L_law_932 : decode b_L_law 932 = .ok (.lstore 6, 2) := by decide +kernel
theorem d_L_law_934 : decode b_L_law 934 = .ok (.aload_n 2, 1) := by decide +kernel
theorem d_L_law_935 : decode b_L_law 935 = .ok (.invokevirtual 72, 3) := by decide +kernel
theorem d_L_law_938 : decode b_L_law 938 = .ok (.iload 5, 2) := by decide +kernel
theorem d_L_law_940 : decode b_L_law 940 = .ok (.if_icmp .eq 5, 3) := by decide +kernel
theorem d_L_law_943 : decode b_L_law 943 = .ok (.iconst 0, 1) := by decide +kernel
theorem d_L_law_944 : decode b_L_law 944 = .ok (.ireturn, 1) := by decide +kernel
theorem d_L_law_945 : decode b_L_law 945 = .ok (.iload 5, 2) := by decide +kernel
theorem d_L_law_947 : decode b_L_law 947 = .ok (.ifCond .ne 14, 3) := by decide +kernel
theorem d_L_law_950 : decode b_L_law 950 = .ok (.aload_n 3, 1) := by decide +kernel
theorem d_L_law_951 : decode b_L_law 951 = .ok (.iconst 0, 1) := by decide +kernel
theorem d_L_law_952 : decode b_L_law 952 = .ok (.laload, 1) := by decide +kernel
theorem d_L_law_953 : decode b_L_law 953 = .ok (.lload 6, 2) := by decide +kernel
theorem d_L_law_955 : decode b_L_law 955 = .ok (.lcmp, 1) := by decide +kernel
theorem d_L_law_956 : decode b_L_law 956 = .ok (.ifCond .eq 5, 3) := by decide +kernel
theorem d_L_law_959 : decode b_L_law 959 = .ok (.iconst 0, 1) := by decide +kernel
theorem d_L_law_960 : decode b_L_law 960 = .ok (.ireturn, 1) := by decide +kernel
theorem d_L_law_961 : decode b_L_law 961 = .ok (.goto 278, 3) := by decide +kernel
theorem d_L_law_964 : decode b_L_law 964 = .ok (.aload_n 1, 1) := by decide +kernel
theorem d_L_law_965 : decode b_L_law 965 = .ok (.invokevirtual 116, 3) := by decide +kernel
theorem d_L_law_968 : decode b_L_law 968 = .ok (.aload_n 2, 1) := by decide +kernel
theorem d_L_law_969 : decode b_L_law 969 = .ok (.invokevirtual 119, 3) := by decide +kernel
theorem d_L_law_972 : decode b_L_law 972 = .ok (.if_icmp .eq 267, 3) := by decide +kernel
theorem d_L_law_975 : decode b_L_law 975 = .ok (.iconst 0, 1) := by decide +kernel
theorem d_L_law_976 : decode b_L_law 976 = .ok (.ireturn, 1) := by decide +kernel
theorem d_L_law_977 : decode b_L_law 977 = .ok (.aload_n 1, 1) := by decide +kernel
theorem d_L_law_978 : decode b_L_law 978 = .ok (.aload_n 0, 1) := by decide +kernel
theorem d_L_law_979 : decode b_L_law 979 = .ok (.iload 4, 2) := by decide +kernel
theorem d_L_law_981 : decode b_L_law 981 = .ok (.iconst 1, 1) := by decide +kernel
theorem d_L_law_982 : decode b_L_law 982 = .ok (.iadd, 1) := by decide +kernel
theorem d_L_law_983 : decode b_L_law 983 = .ok (.iaload, 1) := by decide +kernel
theorem d_L_law_984 : decode b_L_law 984 = .ok (.aload_n 3, 1) := by decide +kernel
theorem d_L_law_985 : decode b_L_law 985 = .ok (.invokestatic 120, 3) := by decide +kernel
theorem d_L_law_988 : decode b_L_law 988 = .ok (.istore 5, 2) := by decide +kernel
theorem d_L_law_990 : decode b_L_law 990 = .ok (.aload_n 2, 1) := by decide +kernel
theorem d_L_law_991 : decode b_L_law 991 = .ok (.aload_n 0, 1) := by decide +kernel
theorem d_L_law_992 : decode b_L_law 992 = .ok (.iload 4, 2) := by decide +kernel
theorem d_L_law_994 : decode b_L_law 994 = .ok (.iconst 1, 1) := by decide +kernel
theorem d_L_law_995 : decode b_L_law 995 = .ok (.iadd, 1) := by decide +kernel
theorem d_L_law_996 : decode b_L_law 996 = .ok (.iaload, 1) := by decide +kernel
theorem d_L_law_997 : decode b_L_law 997 = .ok (.invokevirtual 122, 3) := by decide +kernel
theorem d_L_law_1000 : decode b_L_law 1000 = .ok (.istore 6, 2) := by decide +kernel
theorem d_L_law_1002 : decode b_L_law 1002 = .ok (.aload_n 2, 1) := by decide +kernel
theorem d_L_law_1003 : decode b_L_law 1003 = .ok (.invokevirtual 72, 3) := by decide +kernel
theorem d_L_law_1006 : decode b_L_law 1006 = .ok (.iload 5, 2) := by decide +kernel
theorem d_L_law_1008 : decode b_L_law 1008 = .ok (.if_icmp .eq 5, 3) := by decide +kernel
theorem d_L_law_1011 : decode b_L_law 1011 = .ok (.iconst 0, 1) := by decide +kernel
theorem d_L_law_1012 : decode b_L_law 1012 = .ok (.ireturn, 1) := by decide +kernel
theorem d_L_law_1013 : decode b_L_law 1013 = .ok (.iload 5, 2) := by decide +kernel
theorem d_L_law_1015 : decode b_L_law 1015 = .ok (.ifCond .ne 15, 3) := by decide +kernel
theorem d_L_law_1018 : decode b_L_law 1018 = .ok (.aload_n 3, 1) := by decide +kernel
theorem d_L_law_1019 : decode b_L_law 1019 = .ok (.iconst 0, 1) := by decide +kernel
theorem d_L_law_1020 : decode b_L_law 1020 = .ok (.laload, 1) := by decide +kernel
theorem d_L_law_1021 : decode b_L_law 1021 = .ok (.iload 6, 2) := by decide +kernel
theorem d_L_law_1023 : decode b_L_law 1023 = .ok (.i2l, 1) := by decide +kernel
theorem d_L_law_1024 : decode b_L_law 1024 = .ok (.lcmp, 1) := by decide +kernel
theorem d_L_law_1025 : decode b_L_law 1025 = .ok (.ifCond .eq 5, 3) := by decide +kernel
theorem d_L_law_1028 : decode b_L_law 1028 = .ok (.iconst 0, 1) := by decide +kernel
