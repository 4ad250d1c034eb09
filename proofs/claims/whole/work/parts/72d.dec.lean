theorem dl_824 : decode code 824 = .ok (.aload_n 0, 1) := by decide +kernel
theorem dl_825 : decode code 825 = .ok (.iload_n 3, 1) := by decide +kernel
theorem dl_826 : decode code 826 = .ok (.iconst 2, 1) := by decide +kernel
theorem dl_827 : decode code 827 = .ok (.iadd, 1) := by decide +kernel
theorem dl_828 : decode code 828 = .ok (.iaload, 1) := by decide +kernel
theorem dl_829 : decode code 829 = .ok (.invokevirtual 116, 3) := by decide +kernel
theorem dl_832 : decode code 832 = .ok (.if_icmp .eq 212, 3) := by decide +kernel
theorem dl_835 : decode code 835 = .ok (.iconst 0, 1) := by decide +kernel
theorem dl_836 : decode code 836 = .ok (.ireturn, 1) := by decide +kernel
theorem dl_837 : decode code 837 = .ok (.aload_n 1, 1) := by decide +kernel
theorem dl_838 : decode code 838 = .ok (.aload_n 0, 1) := by decide +kernel
theorem dl_839 : decode code 839 = .ok (.iload_n 3, 1) := by decide +kernel
theorem dl_840 : decode code 840 = .ok (.iconst 1, 1) := by decide +kernel
theorem dl_841 : decode code 841 = .ok (.iadd, 1) := by decide +kernel
theorem dl_842 : decode code 842 = .ok (.iaload, 1) := by decide +kernel
theorem dl_843 : decode code 843 = .ok (.aload_n 0, 1) := by decide +kernel
theorem dl_844 : decode code 844 = .ok (.iload_n 3, 1) := by decide +kernel
theorem dl_845 : decode code 845 = .ok (.iconst 2, 1) := by decide +kernel
theorem dl_846 : decode code 846 = .ok (.iadd, 1) := by decide +kernel
theorem dl_847 : decode code 847 = .ok (.iaload, 1) := by decide +kernel
theorem dl_848 : decode code 848 = .ok (.ifCond .eq 7, 3) := by decide +kernel
theorem dl_851 : decode code 851 = .ok (.iconst 1, 1) := by decide +kernel
theorem dl_852 : decode code 852 = .ok (.goto 4, 3) := by decide +kernel
theorem dl_855 : decode code 855 = .ok (.iconst 0, 1) := by decide +kernel
theorem dl_856 : decode code 856 = .ok (.aload_n 0, 1) := by decide +kernel
theorem dl_857 : decode code 857 = .ok (.iload_n 3, 1) := by decide +kernel
theorem dl_858 : decode code 858 = .ok (.iconst 3, 1) := by decide +kernel
theorem dl_859 : decode code 859 = .ok (.iadd, 1) := by decide +kernel
theorem dl_860 : decode code 860 = .ok (.iaload, 1) := by decide +kernel
theorem dl_861 : decode code 861 = .ok (.aload_n 0, 1) := by decide +kernel
theorem dl_862 : decode code 862 = .ok (.iload_n 3, 1) := by decide +kernel
theorem dl_863 : decode code 863 = .ok (.iconst 4, 1) := by decide +kernel
theorem dl_864 : decode code 864 = .ok (.iadd, 1) := by decide +kernel
theorem dl_865 : decode code 865 = .ok (.iaload, 1) := by decide +kernel
theorem dl_866 : decode code 866 = .ok (.invokevirtual 117, 3) := by decide +kernel
theorem dl_869 : decode code 869 = .ok (.aload_n 2, 1) := by decide +kernel
theorem dl_870 : decode code 870 = .ok (.aload_n 0, 1) := by decide +kernel
theorem dl_871 : decode code 871 = .ok (.iload_n 3, 1) := by decide +kernel
theorem dl_872 : decode code 872 = .ok (.iconst 1, 1) := by decide +kernel
theorem dl_873 : decode code 873 = .ok (.iadd, 1) := by decide +kernel
theorem dl_874 : decode code 874 = .ok (.iaload, 1) := by decide +kernel
theorem dl_875 : decode code 875 = .ok (.aload_n 0, 1) := by decide +kernel
theorem dl_876 : decode code 876 = .ok (.iload_n 3, 1) := by decide +kernel
theorem dl_877 : decode code 877 = .ok (.iconst 2, 1) := by decide +kernel
theorem dl_878 : decode code 878 = .ok (.iadd, 1) := by decide +kernel
theorem dl_879 : decode code 879 = .ok (.iaload, 1) := by decide +kernel
theorem dl_880 : decode code 880 = .ok (.ifCond .eq 7, 3) := by decide +kernel
theorem dl_883 : decode code 883 = .ok (.iconst 1, 1) := by decide +kernel
theorem dl_884 : decode code 884 = .ok (.goto 4, 3) := by decide +kernel
theorem dl_887 : decode code 887 = .ok (.iconst 0, 1) := by decide +kernel
theorem dl_888 : decode code 888 = .ok (.aload_n 0, 1) := by decide +kernel
theorem dl_889 : decode code 889 = .ok (.iload_n 3, 1) := by decide +kernel
theorem dl_890 : decode code 890 = .ok (.iconst 3, 1) := by decide +kernel
theorem dl_891 : decode code 891 = .ok (.iadd, 1) := by decide +kernel
theorem dl_892 : decode code 892 = .ok (.iaload, 1) := by decide +kernel
theorem dl_893 : decode code 893 = .ok (.aload_n 0, 1) := by decide +kernel
theorem dl_894 : decode code 894 = .ok (.iload_n 3, 1) := by decide +kernel
theorem dl_895 : decode code 895 = .ok (.iconst 4, 1) := by decide +kernel
theorem dl_896 : decode code 896 = .ok (.iadd, 1) := by decide +kernel
theorem dl_897 : decode code 897 = .ok (.iaload, 1) := by decide +kernel
theorem dl_898 : decode code 898 = .ok (.invokevirtual 121, 3) := by decide +kernel
theorem dl_901 : decode code 901 = .ok (.if_icmp .eq 143, 3) := by decide +kernel
theorem dl_904 : decode code 904 = .ok (.iconst 0, 1) := by decide +kernel
theorem dl_905 : decode code 905 = .ok (.ireturn, 1) := by decide +kernel
theorem dl_906 : decode code 906 = .ok (.aload_n 1, 1) := by decide +kernel
theorem dl_907 : decode code 907 = .ok (.aload_n 0, 1) := by decide +kernel
theorem dl_908 : decode code 908 = .ok (.iload_n 3, 1) := by decide +kernel
theorem dl_909 : decode code 909 = .ok (.iconst 1, 1) := by decide +kernel
theorem dl_910 : decode code 910 = .ok (.iadd, 1) := by decide +kernel
theorem dl_911 : decode code 911 = .ok (.iaload, 1) := by decide +kernel
theorem dl_912 : decode code 912 = .ok (.aload_n 0, 1) := by decide +kernel
theorem dl_913 : decode code 913 = .ok (.iload_n 3, 1) := by decide +kernel
theorem dl_914 : decode code 914 = .ok (.iconst 2, 1) := by decide +kernel
theorem dl_915 : decode code 915 = .ok (.iadd, 1) := by decide +kernel
theorem dl_916 : decode code 916 = .ok (.iaload, 1) := by decide +kernel
theorem dl_917 : decode code 917 = .ok (.invokevirtual 122, 3) := by decide +kernel
theorem dl_920 : decode code 920 = .ok (.aload_n 2, 1) := by decide +kernel
theorem dl_921 : decode code 921 = .ok (.aload_n 0, 1) := by decide +kernel
theorem dl_922 : decode code 922 = .ok (.iload_n 3, 1) := by decide +kernel
theorem dl_923 : decode code 923 = .ok (.iconst 1, 1) := by decide +kernel
theorem dl_924 : decode code 924 = .ok (.iadd, 1) := by decide +kernel
theorem dl_925 : decode code 925 = .ok (.iaload, 1) := by decide +kernel
theorem dl_926 : decode code 926 = .ok (.aload_n 0, 1) := by decide +kernel
theorem dl_927 : decode code 927 = .ok (.iload_n 3, 1) := by decide +kernel
theorem dl_928 : decode code 928 = .ok (.iconst 2, 1) := by decide +kernel
theorem dl_929 : decode code 929 = .ok (.iadd, 1) := by decide +kernel
theorem dl_930 : decode code 930 = .ok (.iaload, 1) := by decide +kernel
theorem dl_931 : decode code 931 = .ok (.invokevirtual 125, 3) := by decide +kernel
theorem dl_934 : decode code 934 = .ok (.if_icmp .eq 110, 3) := by decide +kernel
theorem dl_937 : decode code 937 = .ok (.iconst 0, 1) := by decide +kernel
theorem dl_938 : decode code 938 = .ok (.ireturn, 1) := by decide +kernel
theorem dl_939 : decode code 939 = .ok (.aload_n 1, 1) := by decide +kernel
theorem dl_940 : decode code 940 = .ok (.aload_n 0, 1) := by decide +kernel
theorem dl_941 : decode code 941 = .ok (.iload_n 3, 1) := by decide +kernel
theorem dl_942 : decode code 942 = .ok (.iconst 1, 1) := by decide +kernel
theorem dl_943 : decode code 943 = .ok (.iadd, 1) := by decide +kernel
theorem dl_944 : decode code 944 = .ok (.iaload, 1) := by decide +kernel
theorem dl_945 : decode code 945 = .ok (.invokevirtual 126, 3) := by decide +kernel
theorem dl_948 : decode code 948 = .ok (.aload_n 2, 1) := by decide +kernel
theorem dl_949 : decode code 949 = .ok (.aload_n 0, 1) := by decide +kernel
theorem dl_950 : decode code 950 = .ok (.iload_n 3, 1) := by decide +kernel
theorem dl_951 : decode code 951 = .ok (.iconst 1, 1) := by decide +kernel
theorem dl_952 : decode code 952 = .ok (.iadd, 1) := by decide +kernel
theorem dl_953 : decode code 953 = .ok (.iaload, 1) := by decide +kernel
theorem dl_954 : decode code 954 = .ok (.invokevirtual 129, 3) := by decide +kernel
theorem dl_957 : decode code 957 = .ok (.if_icmp .eq 87, 3) := by decide +kernel
theorem dl_960 : decode code 960 = .ok (.iconst 0, 1) := by decide +kernel
theorem dl_961 : decode code 961 = .ok (.ireturn, 1) := by decide +kernel
theorem dl_962 : decode code 962 = .ok (.aload_n 1, 1) := by decide +kernel
theorem dl_963 : decode code 963 = .ok (.invokevirtual 130, 3) := by decide +kernel
theorem dl_966 : decode code 966 = .ok (.aload_n 2, 1) := by decide +kernel
theorem dl_967 : decode code 967 = .ok (.invokevirtual 133, 3) := by decide +kernel
theorem dl_970 : decode code 970 = .ok (.if_icmp .eq 74, 3) := by decide +kernel
theorem dl_973 : decode code 973 = .ok (.iconst 0, 1) := by decide +kernel
theorem dl_974 : decode code 974 = .ok (.ireturn, 1) := by decide +kernel
theorem dl_975 : decode code 975 = .ok (.aload_n 1, 1) := by decide +kernel
theorem dl_976 : decode code 976 = .ok (.aload_n 0, 1) := by decide +kernel
theorem dl_977 : decode code 977 = .ok (.iload_n 3, 1) := by decide +kernel
theorem dl_978 : decode code 978 = .ok (.iconst 1, 1) := by decide +kernel
theorem dl_979 : decode code 979 = .ok (.iadd, 1) := by decide +kernel
theorem dl_980 : decode code 980 = .ok (.iaload, 1) := by decide +kernel
theorem dl_981 : decode code 981 = .ok (.invokevirtual 134, 3) := by decide +kernel
theorem dl_984 : decode code 984 = .ok (.aload_n 2, 1) := by decide +kernel
theorem dl_985 : decode code 985 = .ok (.aload_n 0, 1) := by decide +kernel
theorem dl_986 : decode code 986 = .ok (.iload_n 3, 1) := by decide +kernel
theorem dl_987 : decode code 987 = .ok (.iconst 1, 1) := by decide +kernel
theorem dl_988 : decode code 988 = .ok (.iadd, 1) := by decide +kernel
theorem dl_989 : decode code 989 = .ok (.iaload, 1) := by decide +kernel
theorem dl_990 : decode code 990 = .ok (.invokevirtual 137, 3) := by decide +kernel
theorem dl_993 : decode code 993 = .ok (.if_icmp .eq 51, 3) := by decide +kernel
theorem dl_996 : decode code 996 = .ok (.iconst 0, 1) := by decide +kernel
theorem dl_997 : decode code 997 = .ok (.ireturn, 1) := by decide +kernel
theorem dl_998 : decode code 998 = .ok (.aload_n 1, 1) := by decide +kernel
theorem dl_999 : decode code 999 = .ok (.aload_n 0, 1) := by decide +kernel
theorem dl_1000 : decode code 1000 = .ok (.iload_n 3, 1) := by decide +kernel
theorem dl_1001 : decode code 1001 = .ok (.iconst 1, 1) := by decide +kernel
theorem dl_1002 : decode code 1002 = .ok (.iadd, 1) := by decide +kernel
theorem dl_1003 : decode code 1003 = .ok (.iaload, 1) := by decide +kernel
theorem dl_1004 : decode code 1004 = .ok (.invokevirtual 138, 3) := by decide +kernel
theorem dl_1007 : decode code 1007 = .ok (.aload_n 2, 1) := by decide +kernel
theorem dl_1008 : decode code 1008 = .ok (.aload_n 0, 1) := by decide +kernel
theorem dl_1009 : decode code 1009 = .ok (.iload_n 3, 1) := by decide +kernel
theorem dl_1010 : decode code 1010 = .ok (.iconst 1, 1) := by decide +kernel
theorem dl_1011 : decode code 1011 = .ok (.iadd, 1) := by decide +kernel
theorem dl_1012 : decode code 1012 = .ok (.iaload, 1) := by decide +kernel
theorem dl_1013 : decode code 1013 = .ok (.invokevirtual 141, 3) := by decide +kernel
theorem dl_1016 : decode code 1016 = .ok (.if_icmp .eq 28, 3) := by decide +kernel
theorem dl_1019 : decode code 1019 = .ok (.iconst 0, 1) := by decide +kernel
theorem dl_1020 : decode code 1020 = .ok (.ireturn, 1) := by decide +kernel
theorem dl_1021 : decode code 1021 = .ok (.aload_n 1, 1) := by decide +kernel
theorem dl_1022 : decode code 1022 = .ok (.aload_n 0, 1) := by decide +kernel
theorem dl_1023 : decode code 1023 = .ok (.iload_n 3, 1) := by decide +kernel
theorem dl_1024 : decode code 1024 = .ok (.iconst 1, 1) := by decide +kernel
theorem dl_1025 : decode code 1025 = .ok (.iadd, 1) := by decide +kernel
theorem dl_1026 : decode code 1026 = .ok (.iaload, 1) := by decide +kernel
theorem dl_1027 : decode code 1027 = .ok (.invokevirtual 142, 3) := by decide +kernel
theorem dl_1030 : decode code 1030 = .ok (.aload_n 2, 1) := by decide +kernel
theorem dl_1031 : decode code 1031 = .ok (.aload_n 0, 1) := by decide +kernel
theorem dl_1032 : decode code 1032 = .ok (.iload_n 3, 1) := by decide +kernel
theorem dl_1033 : decode code 1033 = .ok (.iconst 1, 1) := by decide +kernel
theorem dl_1034 : decode code 1034 = .ok (.iadd, 1) := by decide +kernel
theorem dl_1035 : decode code 1035 = .ok (.iaload, 1) := by decide +kernel
theorem dl_1036 : decode code 1036 = .ok (.invokevirtual 145, 3) := by decide +kernel
theorem dl_1039 : decode code 1039 = .ok (.if_icmp .eq 5, 3) := by decide +kernel
theorem dl_1042 : decode code 1042 = .ok (.iconst 0, 1) := by decide +kernel
theorem dl_1043 : decode code 1043 = .ok (.ireturn, 1) := by decide +kernel
theorem dl_1044 : decode code 1044 = .ok (.iinc 3 5, 3) := by decide +kernel
theorem dl_1047 : decode code 1047 = .ok (.goto (-1029), 3) := by decide +kernel
theorem dl_1050 : decode code 1050 = .ok (.iconst 1, 1) := by decide +kernel
theorem dl_1051 : decode code 1051 = .ok (.ireturn, 1) := by decide +kernel
def kLT : List (Nat × Nat) := [(13, 64), (17, 119), (18, 65), (22, 132), (23, 66), (26, 133), (27, 67), (30, 136), (31, 68), (35, 137), (36, 69), (39, 138), (40, 70), (43, 140), (44, 71), (47, 148), (48, 72), (51, 150), (52, 73), (55, 151), (56, 74), (59, 152), (60, 75), (63, 154), (64, 76), (67, 155), (68, 77), (71, 156), (72, 78), (75, 157), (76, 79), (80, 158), (81, 80), (84, 160), (85, 81), (88, 162), (89, 82), (92, 164), (93, 83), (96, 165), (97, 84), (100, 166), (101, 85), (104, 167), (105, 86), (108, 168), (109, 87), (112, 170), (113, 88), (116, 171), (117, 89), (121, 173), (122, 90), (125, 176), (126, 91), (129, 177), (130, 92), (133, 178), (134, 93), (137, 179), (138, 94), (141, 180), (142, 95), (145, 181)]
set_option maxRecDepth 100000 in
theorem kLG : kLT.map (fun e => Cond.methodLink R_law e.1 (mY e.2)) = ([340, 1002, 354, 1011, 542, 1062, 550, 1066, 633, 1105, 650, 1114, 658, 1122, 669, 1129, 674, 1133, 684, 1141, 690, 1145, 710, 1153, 729, 1161, 737, 1165, 745, 1169, 750, 1174, 754, 1178, 758, 1186, 770, 1197, 790, 1208, 801, 1212, 809, 1216, 820, 1220, 824, 1224, 853, 1232, 857, 1240, 865, 1244, 886, 1255, 899, 1260, 903, 1264, 907, 1268, 918, 1272] : List Nat).filterMap (fun i => lw_tbl[i]?) := by decide +kernel
theorem kLl {s : State} {args : Array Value} (hts : ∀ w ∈ lw_tbl, w.before args s = true) {i C : Nat} (h : (i, C) ∈ kLT) : (Cond.methodLink R_law i (mY C)).before args s = true := by
  have hm : Cond.methodLink R_law i (mY C) ∈ kLT.map (fun e => Cond.methodLink R_law e.1 (mY e.2)) := List.mem_map.mpr ⟨(i, C), h, rfl⟩
  rw [kLG] at hm
  obtain ⟨j, -, hj⟩ := List.mem_filterMap.mp hm
  exact hts _ (List.mem_of_getElem? hj)
