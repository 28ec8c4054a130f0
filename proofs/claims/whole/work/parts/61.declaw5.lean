/-! Decode rows of the law, by wip/whole/tools/names2.py. -/
theorem dL_law_826 : decode code 826 = .ok (.iconst 0, 1) := by decide +kernel
theorem dL_law_827 : decode code 827 = .ok (.ireturn, 1) := by decide +kernel
theorem dL_law_828 : decode code 828 = .ok (.iload 5, 2) := by decide +kernel
theorem dL_law_830 : decode code 830 = .ok (.ifCond .ne 14, 3) := by decide +kernel
theorem dL_law_833 : decode code 833 = .ok (.aload_n 3, 1) := by decide +kernel
theorem dL_law_834 : decode code 834 = .ok (.iconst 0, 1) := by decide +kernel
theorem dL_law_835 : decode code 835 = .ok (.laload, 1) := by decide +kernel
theorem dL_law_836 : decode code 836 = .ok (.lload 6, 2) := by decide +kernel
theorem dL_law_838 : decode code 838 = .ok (.lcmp, 1) := by decide +kernel
theorem dL_law_839 : decode code 839 = .ok (.ifCond .eq 5, 3) := by decide +kernel
theorem dL_law_842 : decode code 842 = .ok (.iconst 0, 1) := by decide +kernel
theorem dL_law_843 : decode code 843 = .ok (.ireturn, 1) := by decide +kernel
theorem dL_law_844 : decode code 844 = .ok (.goto 326, 3) := by decide +kernel
theorem dL_law_847 : decode code 847 = .ok (.aload_n 1, 1) := by decide +kernel
theorem dL_law_848 : decode code 848 = .ok (.invokevirtual 123, 3) := by decide +kernel
theorem dL_law_851 : decode code 851 = .ok (.aload_n 2, 1) := by decide +kernel
theorem dL_law_852 : decode code 852 = .ok (.invokevirtual 126, 3) := by decide +kernel
theorem dL_law_855 : decode code 855 = .ok (.if_icmp .eq 315, 3) := by decide +kernel
theorem dL_law_858 : decode code 858 = .ok (.iconst 0, 1) := by decide +kernel
theorem dL_law_859 : decode code 859 = .ok (.ireturn, 1) := by decide +kernel
theorem dL_law_860 : decode code 860 = .ok (.aload_n 1, 1) := by decide +kernel
theorem dL_law_861 : decode code 861 = .ok (.aload_n 0, 1) := by decide +kernel
theorem dL_law_862 : decode code 862 = .ok (.iload 4, 2) := by decide +kernel
theorem dL_law_864 : decode code 864 = .ok (.iconst 1, 1) := by decide +kernel
theorem dL_law_865 : decode code 865 = .ok (.iadd, 1) := by decide +kernel
theorem dL_law_866 : decode code 866 = .ok (.iaload, 1) := by decide +kernel
theorem dL_law_867 : decode code 867 = .ok (.aload_n 0, 1) := by decide +kernel
theorem dL_law_868 : decode code 868 = .ok (.iload 4, 2) := by decide +kernel
theorem dL_law_870 : decode code 870 = .ok (.iconst 2, 1) := by decide +kernel
theorem dL_law_871 : decode code 871 = .ok (.iadd, 1) := by decide +kernel
theorem dL_law_872 : decode code 872 = .ok (.iaload, 1) := by decide +kernel
theorem dL_law_873 : decode code 873 = .ok (.i2l, 1) := by decide +kernel
theorem dL_law_874 : decode code 874 = .ok (.bipush 32, 2) := by decide +kernel
theorem dL_law_876 : decode code 876 = .ok (.lshl, 1) := by decide +kernel
theorem dL_law_877 : decode code 877 = .ok (.aload_n 0, 1) := by decide +kernel
theorem dL_law_878 : decode code 878 = .ok (.iload 4, 2) := by decide +kernel
theorem dL_law_880 : decode code 880 = .ok (.iconst 3, 1) := by decide +kernel
theorem dL_law_881 : decode code 881 = .ok (.iadd, 1) := by decide +kernel
theorem dL_law_882 : decode code 882 = .ok (.iaload, 1) := by decide +kernel
theorem dL_law_883 : decode code 883 = .ok (.i2l, 1) := by decide +kernel
theorem dL_law_884 : decode code 884 = .ok (.ldc2_w 109, 3) := by decide +kernel
theorem dL_law_887 : decode code 887 = .ok (.land, 1) := by decide +kernel
theorem dL_law_888 : decode code 888 = .ok (.lor, 1) := by decide +kernel
theorem dL_law_889 : decode code 889 = .ok (.aload_n 0, 1) := by decide +kernel
theorem dL_law_890 : decode code 890 = .ok (.iload 4, 2) := by decide +kernel
theorem dL_law_892 : decode code 892 = .ok (.iconst 4, 1) := by decide +kernel
theorem dL_law_893 : decode code 893 = .ok (.iadd, 1) := by decide +kernel
theorem dL_law_894 : decode code 894 = .ok (.iaload, 1) := by decide +kernel
theorem dL_law_895 : decode code 895 = .ok (.aload_n 0, 1) := by decide +kernel
theorem dL_law_896 : decode code 896 = .ok (.iload 4, 2) := by decide +kernel
theorem dL_law_898 : decode code 898 = .ok (.iconst 5, 1) := by decide +kernel
theorem dL_law_899 : decode code 899 = .ok (.iadd, 1) := by decide +kernel
theorem dL_law_900 : decode code 900 = .ok (.iaload, 1) := by decide +kernel
theorem dL_law_901 : decode code 901 = .ok (.aload_n 3, 1) := by decide +kernel
theorem dL_law_902 : decode code 902 = .ok (.invokestatic 127, 3) := by decide +kernel
theorem dL_law_905 : decode code 905 = .ok (.istore 5, 2) := by decide +kernel
theorem dL_law_907 : decode code 907 = .ok (.aload_n 2, 1) := by decide +kernel
theorem dL_law_908 : decode code 908 = .ok (.aload_n 0, 1) := by decide +kernel
theorem dL_law_909 : decode code 909 = .ok (.iload 4, 2) := by decide +kernel
theorem dL_law_911 : decode code 911 = .ok (.iconst 1, 1) := by decide +kernel
theorem dL_law_912 : decode code 912 = .ok (.iadd, 1) := by decide +kernel
theorem dL_law_913 : decode code 913 = .ok (.iaload, 1) := by decide +kernel
theorem dL_law_914 : decode code 914 = .ok (.aload_n 0, 1) := by decide +kernel
theorem dL_law_915 : decode code 915 = .ok (.iload 4, 2) := by decide +kernel
theorem dL_law_917 : decode code 917 = .ok (.iconst 2, 1) := by decide +kernel
theorem dL_law_918 : decode code 918 = .ok (.iadd, 1) := by decide +kernel
theorem dL_law_919 : decode code 919 = .ok (.iaload, 1) := by decide +kernel
theorem dL_law_920 : decode code 920 = .ok (.i2l, 1) := by decide +kernel
theorem dL_law_921 : decode code 921 = .ok (.bipush 32, 2) := by decide +kernel
theorem dL_law_923 : decode code 923 = .ok (.lshl, 1) := by decide +kernel
theorem dL_law_924 : decode code 924 = .ok (.aload_n 0, 1) := by decide +kernel
theorem dL_law_925 : decode code 925 = .ok (.iload 4, 2) := by decide +kernel
theorem dL_law_927 : decode code 927 = .ok (.iconst 3, 1) := by decide +kernel
theorem dL_law_928 : decode code 928 = .ok (.iadd, 1) := by decide +kernel
theorem dL_law_929 : decode code 929 = .ok (.iaload, 1) := by decide +kernel
theorem dL_law_930 : decode code 930 = .ok (.i2l, 1) := by decide +kernel
theorem dL_law_931 : decode code 931 = .ok (.ldc2_w 109, 3) := by decide +kernel
theorem dL_law_934 : decode code 934 = .ok (.land, 1) := by decide +kernel
theorem dL_law_935 : decode code 935 = .ok (.lor, 1) := by decide +kernel
theorem dL_law_936 : decode code 936 = .ok (.aload_n 0, 1) := by decide +kernel
theorem dL_law_937 : decode code 937 = .ok (.iload 4, 2) := by decide +kernel
theorem dL_law_939 : decode code 939 = .ok (.iconst 4, 1) := by decide +kernel
theorem dL_law_940 : decode code 940 = .ok (.iadd, 1) := by decide +kernel
theorem dL_law_941 : decode code 941 = .ok (.iaload, 1) := by decide +kernel
theorem dL_law_942 : decode code 942 = .ok (.aload_n 0, 1) := by decide +kernel
theorem dL_law_943 : decode code 943 = .ok (.iload 4, 2) := by decide +kernel
theorem dL_law_945 : decode code 945 = .ok (.iconst 5, 1) := by decide +kernel
theorem dL_law_946 : decode code 946 = .ok (.iadd, 1) := by decide +kernel
theorem dL_law_947 : decode code 947 = .ok (.iaload, 1) := by decide +kernel
theorem dL_law_948 : decode code 948 = .ok (.invokevirtual 130, 3) := by decide +kernel
theorem dL_law_951 : decode code 951 = .ok (.istore 6, 2) := by decide +kernel
theorem dL_law_953 : decode code 953 = .ok (.aload_n 2, 1) := by decide +kernel
theorem dL_law_954 : decode code 954 = .ok (.invokevirtual 76, 3) := by decide +kernel
theorem dL_law_957 : decode code 957 = .ok (.iload 5, 2) := by decide +kernel
theorem dL_law_959 : decode code 959 = .ok (.if_icmp .eq 5, 3) := by decide +kernel
theorem dL_law_962 : decode code 962 = .ok (.iconst 0, 1) := by decide +kernel
theorem dL_law_963 : decode code 963 = .ok (.ireturn, 1) := by decide +kernel
theorem dL_law_964 : decode code 964 = .ok (.iload 5, 2) := by decide +kernel
theorem dL_law_966 : decode code 966 = .ok (.ifCond .ne 22, 3) := by decide +kernel
theorem dL_law_969 : decode code 969 = .ok (.aload_n 3, 1) := by decide +kernel
theorem dL_law_970 : decode code 970 = .ok (.iconst 0, 1) := by decide +kernel
theorem dL_law_971 : decode code 971 = .ok (.laload, 1) := by decide +kernel
theorem dL_law_972 : decode code 972 = .ok (.iload 6, 2) := by decide +kernel
theorem dL_law_974 : decode code 974 = .ok (.ifCond .eq 7, 3) := by decide +kernel
theorem dL_law_977 : decode code 977 = .ok (.lconst 1, 1) := by decide +kernel
theorem dL_law_978 : decode code 978 = .ok (.goto 4, 3) := by decide +kernel
theorem dL_law_981 : decode code 981 = .ok (.lconst 0, 1) := by decide +kernel
theorem dL_law_982 : decode code 982 = .ok (.lcmp, 1) := by decide +kernel
theorem dL_law_983 : decode code 983 = .ok (.ifCond .eq 5, 3) := by decide +kernel
theorem dL_law_986 : decode code 986 = .ok (.iconst 0, 1) := by decide +kernel
theorem dL_law_987 : decode code 987 = .ok (.ireturn, 1) := by decide +kernel
theorem dL_law_988 : decode code 988 = .ok (.goto 182, 3) := by decide +kernel
theorem dL_law_991 : decode code 991 = .ok (.aload_n 1, 1) := by decide +kernel
theorem dL_law_992 : decode code 992 = .ok (.aload_n 0, 1) := by decide +kernel
theorem dL_law_993 : decode code 993 = .ok (.iload 4, 2) := by decide +kernel
theorem dL_law_995 : decode code 995 = .ok (.iconst 1, 1) := by decide +kernel
theorem dL_law_996 : decode code 996 = .ok (.iadd, 1) := by decide +kernel
theorem dL_law_997 : decode code 997 = .ok (.iaload, 1) := by decide +kernel
theorem dL_law_998 : decode code 998 = .ok (.aload_n 0, 1) := by decide +kernel
theorem dL_law_999 : decode code 999 = .ok (.iload 4, 2) := by decide +kernel
theorem dL_law_1001 : decode code 1001 = .ok (.iconst 2, 1) := by decide +kernel
theorem dL_law_1002 : decode code 1002 = .ok (.iadd, 1) := by decide +kernel
theorem dL_law_1003 : decode code 1003 = .ok (.iaload, 1) := by decide +kernel
theorem dL_law_1004 : decode code 1004 = .ok (.i2l, 1) := by decide +kernel
theorem dL_law_1005 : decode code 1005 = .ok (.bipush 32, 2) := by decide +kernel
