theorem d_LA_law_828 : decode code 828 = .ok (.ireturn, 1) := by decide +kernel
theorem d_LA_law_829 : decode code 829 = .ok (.goto 208, 3) := by decide +kernel
theorem d_LA_law_832 : decode code 832 = .ok (.aload_n 1, 1) := by decide +kernel
theorem d_LA_law_833 : decode code 833 = .ok (.aload_n 0, 1) := by decide +kernel
theorem d_LA_law_834 : decode code 834 = .ok (.iload 4, 2) := by decide +kernel
theorem d_LA_law_836 : decode code 836 = .ok (.iconst 1, 1) := by decide +kernel
theorem d_LA_law_837 : decode code 837 = .ok (.iadd, 1) := by decide +kernel
theorem d_LA_law_838 : decode code 838 = .ok (.iaload, 1) := by decide +kernel
theorem d_LA_law_839 : decode code 839 = .ok (.aload_n 0, 1) := by decide +kernel
theorem d_LA_law_840 : decode code 840 = .ok (.iload 4, 2) := by decide +kernel
theorem d_LA_law_842 : decode code 842 = .ok (.iconst 2, 1) := by decide +kernel
theorem d_LA_law_843 : decode code 843 = .ok (.iadd, 1) := by decide +kernel
theorem d_LA_law_844 : decode code 844 = .ok (.iaload, 1) := by decide +kernel
theorem d_LA_law_845 : decode code 845 = .ok (.aload_n 0, 1) := by decide +kernel
theorem d_LA_law_846 : decode code 846 = .ok (.iload 4, 2) := by decide +kernel
theorem d_LA_law_848 : decode code 848 = .ok (.iconst 3, 1) := by decide +kernel
theorem d_LA_law_849 : decode code 849 = .ok (.iadd, 1) := by decide +kernel
theorem d_LA_law_850 : decode code 850 = .ok (.iaload, 1) := by decide +kernel
theorem d_LA_law_851 : decode code 851 = .ok (.aload_n 3, 1) := by decide +kernel
theorem d_LA_law_852 : decode code 852 = .ok (.invokestatic 107, 3) := by decide +kernel
theorem d_LA_law_855 : decode code 855 = .ok (.istore 5, 2) := by decide +kernel
theorem d_LA_law_857 : decode code 857 = .ok (.aload_n 2, 1) := by decide +kernel
theorem d_LA_law_858 : decode code 858 = .ok (.aload_n 0, 1) := by decide +kernel
theorem d_LA_law_859 : decode code 859 = .ok (.iload 4, 2) := by decide +kernel
theorem d_LA_law_861 : decode code 861 = .ok (.iconst 1, 1) := by decide +kernel
theorem d_LA_law_862 : decode code 862 = .ok (.iadd, 1) := by decide +kernel
theorem d_LA_law_863 : decode code 863 = .ok (.iaload, 1) := by decide +kernel
theorem d_LA_law_864 : decode code 864 = .ok (.aload_n 0, 1) := by decide +kernel
theorem d_LA_law_865 : decode code 865 = .ok (.iload 4, 2) := by decide +kernel
theorem d_LA_law_867 : decode code 867 = .ok (.iconst 2, 1) := by decide +kernel
theorem d_LA_law_868 : decode code 868 = .ok (.iadd, 1) := by decide +kernel
theorem d_LA_law_869 : decode code 869 = .ok (.iaload, 1) := by decide +kernel
theorem d_LA_law_870 : decode code 870 = .ok (.aload_n 0, 1) := by decide +kernel
theorem d_LA_law_871 : decode code 871 = .ok (.iload 4, 2) := by decide +kernel
theorem d_LA_law_873 : decode code 873 = .ok (.iconst 3, 1) := by decide +kernel
theorem d_LA_law_874 : decode code 874 = .ok (.iadd, 1) := by decide +kernel
theorem d_LA_law_875 : decode code 875 = .ok (.iaload, 1) := by decide +kernel
theorem d_LA_law_876 : decode code 876 = .ok (.invokevirtual 109, 3) := by decide +kernel
theorem d_LA_law_879 : decode code 879 = .ok (.istore 6, 2) := by decide +kernel
theorem d_LA_law_881 : decode code 881 = .ok (.aload_n 2, 1) := by decide +kernel
theorem d_LA_law_882 : decode code 882 = .ok (.invokevirtual 71, 3) := by decide +kernel
theorem d_LA_law_885 : decode code 885 = .ok (.iload 5, 2) := by decide +kernel
theorem d_LA_law_887 : decode code 887 = .ok (.if_icmp .eq 5, 3) := by decide +kernel
theorem d_LA_law_890 : decode code 890 = .ok (.iconst 0, 1) := by decide +kernel
theorem d_LA_law_891 : decode code 891 = .ok (.ireturn, 1) := by decide +kernel
theorem d_LA_law_892 : decode code 892 = .ok (.iload 5, 2) := by decide +kernel
theorem d_LA_law_894 : decode code 894 = .ok (.ifCond .ne 15, 3) := by decide +kernel
theorem d_LA_law_897 : decode code 897 = .ok (.aload_n 3, 1) := by decide +kernel
theorem d_LA_law_898 : decode code 898 = .ok (.iconst 0, 1) := by decide +kernel
theorem d_LA_law_899 : decode code 899 = .ok (.laload, 1) := by decide +kernel
theorem d_LA_law_900 : decode code 900 = .ok (.iload 6, 2) := by decide +kernel
theorem d_LA_law_902 : decode code 902 = .ok (.i2l, 1) := by decide +kernel
theorem d_LA_law_903 : decode code 903 = .ok (.lcmp, 1) := by decide +kernel
theorem d_LA_law_904 : decode code 904 = .ok (.ifCond .eq 5, 3) := by decide +kernel
theorem d_LA_law_907 : decode code 907 = .ok (.iconst 0, 1) := by decide +kernel
theorem d_LA_law_908 : decode code 908 = .ok (.ireturn, 1) := by decide +kernel
theorem d_LA_law_909 : decode code 909 = .ok (.goto 128, 3) := by decide +kernel
theorem d_LA_law_912 : decode code 912 = .ok (.aload_n 1, 1) := by decide +kernel
theorem d_LA_law_913 : decode code 913 = .ok (.invokevirtual 110, 3) := by decide +kernel
theorem d_LA_law_916 : decode code 916 = .ok (.aload_n 2, 1) := by decide +kernel
theorem d_LA_law_917 : decode code 917 = .ok (.invokevirtual 114, 3) := by decide +kernel
theorem d_LA_law_920 : decode code 920 = .ok (.if_icmp .eq 117, 3) := by decide +kernel
theorem d_LA_law_923 : decode code 923 = .ok (.iconst 0, 1) := by decide +kernel
theorem d_LA_law_924 : decode code 924 = .ok (.ireturn, 1) := by decide +kernel
theorem d_LA_law_925 : decode code 925 = .ok (.aload_n 1, 1) := by decide +kernel
theorem d_LA_law_926 : decode code 926 = .ok (.aload_n 0, 1) := by decide +kernel
theorem d_LA_law_927 : decode code 927 = .ok (.iload 4, 2) := by decide +kernel
theorem d_LA_law_929 : decode code 929 = .ok (.iconst 1, 1) := by decide +kernel
theorem d_LA_law_930 : decode code 930 = .ok (.iadd, 1) := by decide +kernel
theorem d_LA_law_931 : decode code 931 = .ok (.iaload, 1) := by decide +kernel
theorem d_LA_law_932 : decode code 932 = .ok (.aload_n 3, 1) := by decide +kernel
theorem d_LA_law_933 : decode code 933 = .ok (.invokestatic 115, 3) := by decide +kernel
theorem d_LA_law_936 : decode code 936 = .ok (.istore 5, 2) := by decide +kernel
theorem d_LA_law_938 : decode code 938 = .ok (.aload_n 2, 1) := by decide +kernel
theorem d_LA_law_939 : decode code 939 = .ok (.aload_n 0, 1) := by decide +kernel
theorem d_LA_law_940 : decode code 940 = .ok (.iload 4, 2) := by decide +kernel
theorem d_LA_law_942 : decode code 942 = .ok (.iconst 1, 1) := by decide +kernel
theorem d_LA_law_943 : decode code 943 = .ok (.iadd, 1) := by decide +kernel
theorem d_LA_law_944 : decode code 944 = .ok (.iaload, 1) := by decide +kernel
theorem d_LA_law_945 : decode code 945 = .ok (.invokevirtual 117, 3) := by decide +kernel
theorem d_LA_law_948 : decode code 948 = .ok (.istore 6, 2) := by decide +kernel
theorem d_LA_law_950 : decode code 950 = .ok (.aload_n 2, 1) := by decide +kernel
theorem d_LA_law_951 : decode code 951 = .ok (.invokevirtual 71, 3) := by decide +kernel
theorem d_LA_law_954 : decode code 954 = .ok (.iload 5, 2) := by decide +kernel
theorem d_LA_law_956 : decode code 956 = .ok (.if_icmp .eq 5, 3) := by decide +kernel
theorem d_LA_law_959 : decode code 959 = .ok (.iconst 0, 1) := by decide +kernel
theorem d_LA_law_960 : decode code 960 = .ok (.ireturn, 1) := by decide +kernel
theorem d_LA_law_961 : decode code 961 = .ok (.iload 5, 2) := by decide +kernel
theorem d_LA_law_963 : decode code 963 = .ok (.ifCond .ne 15, 3) := by decide +kernel
theorem d_LA_law_966 : decode code 966 = .ok (.aload_n 3, 1) := by decide +kernel
theorem d_LA_law_967 : decode code 967 = .ok (.iconst 0, 1) := by decide +kernel
theorem d_LA_law_968 : decode code 968 = .ok (.laload, 1) := by decide +kernel
theorem d_LA_law_969 : decode code 969 = .ok (.iload 6, 2) := by decide +kernel
theorem d_LA_law_971 : decode code 971 = .ok (.i2l, 1) := by decide +kernel
theorem d_LA_law_972 : decode code 972 = .ok (.lcmp, 1) := by decide +kernel
theorem d_LA_law_973 : decode code 973 = .ok (.ifCond .eq 5, 3) := by decide +kernel
theorem d_LA_law_976 : decode code 976 = .ok (.iconst 0, 1) := by decide +kernel
theorem d_LA_law_977 : decode code 977 = .ok (.ireturn, 1) := by decide +kernel
theorem d_LA_law_978 : decode code 978 = .ok (.goto 59, 3) := by decide +kernel
theorem d_LA_law_981 : decode code 981 = .ok (.aload_n 1, 1) := by decide +kernel
theorem d_LA_law_982 : decode code 982 = .ok (.aload_n 0, 1) := by decide +kernel
theorem d_LA_law_983 : decode code 983 = .ok (.iload 4, 2) := by decide +kernel
theorem d_LA_law_985 : decode code 985 = .ok (.iconst 1, 1) := by decide +kernel
theorem d_LA_law_986 : decode code 986 = .ok (.iadd, 1) := by decide +kernel
theorem d_LA_law_987 : decode code 987 = .ok (.iaload, 1) := by decide +kernel
theorem d_LA_law_988 : decode code 988 = .ok (.aload_n 3, 1) := by decide +kernel
theorem d_LA_law_989 : decode code 989 = .ok (.invokestatic 118, 3) := by decide +kernel
theorem d_LA_law_992 : decode code 992 = .ok (.istore 5, 2) := by decide +kernel
theorem d_LA_law_994 : decode code 994 = .ok (.aload_n 2, 1) := by decide +kernel
theorem d_LA_law_995 : decode code 995 = .ok (.aload_n 0, 1) := by decide +kernel
theorem d_LA_law_996 : decode code 996 = .ok (.iload 4, 2) := by decide +kernel
theorem d_LA_law_998 : decode code 998 = .ok (.iconst 1, 1) := by decide +kernel
theorem d_LA_law_999 : decode code 999 = .ok (.iadd, 1) := by decide +kernel
theorem d_LA_law_1000 : decode code 1000 = .ok (.iaload, 1) := by decide +kernel
theorem d_LA_law_1001 : decode code 1001 = .ok (.invokevirtual 120, 3) := by decide +kernel
theorem d_LA_law_1004 : decode code 1004 = .ok (.istore 6, 2) := by decide +kernel
theorem d_LA_law_1006 : decode code 1006 = .ok (.aload_n 2, 1) := by decide +kernel
theorem d_LA_law_1007 : decode code 1007 = .ok (.invokevirtual 71, 3) := by decide +kernel
theorem d_LA_law_1010 : decode code 1010 = .ok (.iload 5, 2) := by decide +kernel
theorem d_LA_law_1012 : decode code 1012 = .ok (.if_icmp .eq 5, 3) := by decide +kernel
theorem d_LA_law_1015 : decode code 1015 = .ok (.iconst 0, 1) := by decide +kernel
theorem d_LA_law_1016 : decode code 1016 = .ok (.ireturn, 1) := by decide +kernel
theorem d_LA_law_1017 : decode code 1017 = .ok (.iload 5, 2) := by decide +kernel
theorem d_LA_law_1019 : decode code 1019 = .ok (.ifCond .ne 15, 3) := by decide +kernel
theorem d_LA_law_1022 : decode code 1022 = .ok (.aload_n 3, 1) := by decide +kernel
theorem d_LA_law_1023 : decode code 1023 = .ok (.iconst 0, 1) := by decide +kernel
theorem d_LA_law_1024 : decode code 1024 = .ok (.laload, 1) := by decide +kernel
theorem d_LA_law_1025 : decode code 1025 = .ok (.iload 6, 2) := by decide +kernel
theorem d_LA_law_1027 : decode code 1027 = .ok (.i2l, 1) := by decide +kernel
theorem d_LA_law_1028 : decode code 1028 = .ok (.lcmp, 1) := by decide +kernel
theorem d_LA_law_1029 : decode code 1029 = .ok (.ifCond .eq 5, 3) := by decide +kernel
theorem d_LA_law_1032 : decode code 1032 = .ok (.iconst 0, 1) := by decide +kernel
theorem d_LA_law_1033 : decode code 1033 = .ok (.ireturn, 1) := by decide +kernel
theorem d_LA_law_1034 : decode code 1034 = .ok (.goto 3, 3) := by decide +kernel
theorem d_LA_law_1037 : decode code 1037 = .ok (.iinc 4 6, 3) := by decide +kernel
theorem d_LA_law_1040 : decode code 1040 = .ok (.goto (-1017), 3) := by decide +kernel
theorem d_LA_law_1043 : decode code 1043 = .ok (.iconst 1, 1) := by decide +kernel
theorem d_LA_law_1044 : decode code 1044 = .ok (.ireturn, 1) := by decide +kernel
