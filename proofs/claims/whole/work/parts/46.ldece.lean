theorem d_w_law_821 : decode code 821 = .ok (.iaload, 1) := by decide +kernel
theorem d_w_law_822 : decode code 822 = .ok (.aload_n 3, 1) := by decide +kernel
theorem d_w_law_823 : decode code 823 = .ok (.invokestatic 129, 3) := by decide +kernel
theorem d_w_law_826 : decode code 826 = .ok (.istore 5, 2) := by decide +kernel
theorem d_w_law_828 : decode code 828 = .ok (.aload_n 2, 1) := by decide +kernel
theorem d_w_law_829 : decode code 829 = .ok (.aload_n 0, 1) := by decide +kernel
theorem d_w_law_830 : decode code 830 = .ok (.iload 4, 2) := by decide +kernel
theorem d_w_law_832 : decode code 832 = .ok (.iconst 1, 1) := by decide +kernel
theorem d_w_law_833 : decode code 833 = .ok (.iadd, 1) := by decide +kernel
theorem d_w_law_834 : decode code 834 = .ok (.iaload, 1) := by decide +kernel
theorem d_w_law_835 : decode code 835 = .ok (.aload_n 0, 1) := by decide +kernel
theorem d_w_law_836 : decode code 836 = .ok (.iload 4, 2) := by decide +kernel
theorem d_w_law_838 : decode code 838 = .ok (.iconst 2, 1) := by decide +kernel
theorem d_w_law_839 : decode code 839 = .ok (.iadd, 1) := by decide +kernel
theorem d_w_law_840 : decode code 840 = .ok (.iaload, 1) := by decide +kernel
theorem d_w_law_841 : decode code 841 = .ok (.invokevirtual 131, 3) := by decide +kernel
theorem d_w_law_844 : decode code 844 = .ok (.lstore 6, 2) := by decide +kernel
theorem d_w_law_846 : decode code 846 = .ok (.aload_n 2, 1) := by decide +kernel
theorem d_w_law_847 : decode code 847 = .ok (.invokevirtual 87, 3) := by decide +kernel
theorem d_w_law_850 : decode code 850 = .ok (.iload 5, 2) := by decide +kernel
theorem d_w_law_852 : decode code 852 = .ok (.if_icmp .eq 5, 3) := by decide +kernel
theorem d_w_law_855 : decode code 855 = .ok (.iconst 0, 1) := by decide +kernel
theorem d_w_law_856 : decode code 856 = .ok (.ireturn, 1) := by decide +kernel
theorem d_w_law_857 : decode code 857 = .ok (.iload 5, 2) := by decide +kernel
theorem d_w_law_859 : decode code 859 = .ok (.ifCond .ne 14, 3) := by decide +kernel
theorem d_w_law_862 : decode code 862 = .ok (.aload_n 3, 1) := by decide +kernel
theorem d_w_law_863 : decode code 863 = .ok (.iconst 0, 1) := by decide +kernel
theorem d_w_law_864 : decode code 864 = .ok (.laload, 1) := by decide +kernel
theorem d_w_law_865 : decode code 865 = .ok (.lload 6, 2) := by decide +kernel
theorem d_w_law_867 : decode code 867 = .ok (.lcmp, 1) := by decide +kernel
theorem d_w_law_868 : decode code 868 = .ok (.ifCond .eq 5, 3) := by decide +kernel
theorem d_w_law_871 : decode code 871 = .ok (.iconst 0, 1) := by decide +kernel
theorem d_w_law_872 : decode code 872 = .ok (.ireturn, 1) := by decide +kernel
theorem d_w_law_873 : decode code 873 = .ok (.goto 310, 3) := by decide +kernel
theorem d_w_law_876 : decode code 876 = .ok (.aload_n 1, 1) := by decide +kernel
theorem d_w_law_877 : decode code 877 = .ok (.aload_n 0, 1) := by decide +kernel
theorem d_w_law_878 : decode code 878 = .ok (.iload 4, 2) := by decide +kernel
theorem d_w_law_880 : decode code 880 = .ok (.iconst 1, 1) := by decide +kernel
theorem d_w_law_881 : decode code 881 = .ok (.iadd, 1) := by decide +kernel
theorem d_w_law_882 : decode code 882 = .ok (.iaload, 1) := by decide +kernel
theorem d_w_law_883 : decode code 883 = .ok (.aload_n 0, 1) := by decide +kernel
theorem d_w_law_884 : decode code 884 = .ok (.iload 4, 2) := by decide +kernel
theorem d_w_law_886 : decode code 886 = .ok (.iconst 2, 1) := by decide +kernel
theorem d_w_law_887 : decode code 887 = .ok (.iadd, 1) := by decide +kernel
theorem d_w_law_888 : decode code 888 = .ok (.iaload, 1) := by decide +kernel
theorem d_w_law_889 : decode code 889 = .ok (.aload_n 3, 1) := by decide +kernel
theorem d_w_law_890 : decode code 890 = .ok (.invokestatic 132, 3) := by decide +kernel
theorem d_w_law_893 : decode code 893 = .ok (.istore 5, 2) := by decide +kernel
theorem d_w_law_895 : decode code 895 = .ok (.aload_n 2, 1) := by decide +kernel
theorem d_w_law_896 : decode code 896 = .ok (.aload_n 0, 1) := by decide +kernel
theorem d_w_law_897 : decode code 897 = .ok (.iload 4, 2) := by decide +kernel
theorem d_w_law_899 : decode code 899 = .ok (.iconst 1, 1) := by decide +kernel
theorem d_w_law_900 : decode code 900 = .ok (.iadd, 1) := by decide +kernel
theorem d_w_law_901 : decode code 901 = .ok (.iaload, 1) := by decide +kernel
theorem d_w_law_902 : decode code 902 = .ok (.aload_n 0, 1) := by decide +kernel
theorem d_w_law_903 : decode code 903 = .ok (.iload 4, 2) := by decide +kernel
theorem d_w_law_905 : decode code 905 = .ok (.iconst 2, 1) := by decide +kernel
theorem d_w_law_906 : decode code 906 = .ok (.iadd, 1) := by decide +kernel
theorem d_w_law_907 : decode code 907 = .ok (.iaload, 1) := by decide +kernel
theorem d_w_law_908 : decode code 908 = .ok (.invokevirtual 134, 3) := by decide +kernel
theorem d_w_law_911 : decode code 911 = .ok (.lstore 6, 2) := by decide +kernel
theorem d_w_law_913 : decode code 913 = .ok (.aload_n 2, 1) := by decide +kernel
theorem d_w_law_914 : decode code 914 = .ok (.invokevirtual 87, 3) := by decide +kernel
theorem d_w_law_917 : decode code 917 = .ok (.iload 5, 2) := by decide +kernel
theorem d_w_law_919 : decode code 919 = .ok (.if_icmp .eq 5, 3) := by decide +kernel
theorem d_w_law_922 : decode code 922 = .ok (.iconst 0, 1) := by decide +kernel
theorem d_w_law_923 : decode code 923 = .ok (.ireturn, 1) := by decide +kernel
theorem d_w_law_924 : decode code 924 = .ok (.iload 5, 2) := by decide +kernel
theorem d_w_law_926 : decode code 926 = .ok (.ifCond .ne 14, 3) := by decide +kernel
theorem d_w_law_929 : decode code 929 = .ok (.aload_n 3, 1) := by decide +kernel
theorem d_w_law_930 : decode code 930 = .ok (.iconst 0, 1) := by decide +kernel
theorem d_w_law_931 : decode code 931 = .ok (.laload, 1) := by decide +kernel
theorem d_w_law_932 : decode code 932 = .ok (.lload 6, 2) := by decide +kernel
theorem d_w_law_934 : decode code 934 = .ok (.lcmp, 1) := by decide +kernel
theorem d_w_law_935 : decode code 935 = .ok (.ifCond .eq 5, 3) := by decide +kernel
theorem d_w_law_938 : decode code 938 = .ok (.iconst 0, 1) := by decide +kernel
theorem d_w_law_939 : decode code 939 = .ok (.ireturn, 1) := by decide +kernel
theorem d_w_law_940 : decode code 940 = .ok (.goto 243, 3) := by decide +kernel
theorem d_w_law_943 : decode code 943 = .ok (.aload_n 1, 1) := by decide +kernel
theorem d_w_law_944 : decode code 944 = .ok (.aload_n 0, 1) := by decide +kernel
theorem d_w_law_945 : decode code 945 = .ok (.iload 4, 2) := by decide +kernel
theorem d_w_law_947 : decode code 947 = .ok (.iconst 1, 1) := by decide +kernel
theorem d_w_law_948 : decode code 948 = .ok (.iadd, 1) := by decide +kernel
theorem d_w_law_949 : decode code 949 = .ok (.iaload, 1) := by decide +kernel
theorem d_w_law_950 : decode code 950 = .ok (.aload_n 0, 1) := by decide +kernel
theorem d_w_law_951 : decode code 951 = .ok (.iload 4, 2) := by decide +kernel
theorem d_w_law_953 : decode code 953 = .ok (.iconst 2, 1) := by decide +kernel
theorem d_w_law_954 : decode code 954 = .ok (.iadd, 1) := by decide +kernel
theorem d_w_law_955 : decode code 955 = .ok (.iaload, 1) := by decide +kernel
theorem d_w_law_956 : decode code 956 = .ok (.aload_n 0, 1) := by decide +kernel
theorem d_w_law_957 : decode code 957 = .ok (.iload 4, 2) := by decide +kernel
theorem d_w_law_959 : decode code 959 = .ok (.iconst 3, 1) := by decide +kernel
theorem d_w_law_960 : decode code 960 = .ok (.iadd, 1) := by decide +kernel
theorem d_w_law_961 : decode code 961 = .ok (.iaload, 1) := by decide +kernel
theorem d_w_law_962 : decode code 962 = .ok (.aload_n 3, 1) := by decide +kernel
theorem d_w_law_963 : decode code 963 = .ok (.invokestatic 135, 3) := by decide +kernel
theorem d_w_law_966 : decode code 966 = .ok (.istore 5, 2) := by decide +kernel
theorem d_w_law_968 : decode code 968 = .ok (.aload_n 2, 1) := by decide +kernel
theorem d_w_law_969 : decode code 969 = .ok (.aload_n 0, 1) := by decide +kernel
theorem d_w_law_970 : decode code 970 = .ok (.iload 4, 2) := by decide +kernel
theorem d_w_law_972 : decode code 972 = .ok (.iconst 1, 1) := by decide +kernel
theorem d_w_law_973 : decode code 973 = .ok (.iadd, 1) := by decide +kernel
theorem d_w_law_974 : decode code 974 = .ok (.iaload, 1) := by decide +kernel
theorem d_w_law_975 : decode code 975 = .ok (.aload_n 0, 1) := by decide +kernel
theorem d_w_law_976 : decode code 976 = .ok (.iload 4, 2) := by decide +kernel
theorem d_w_law_978 : decode code 978 = .ok (.iconst 2, 1) := by decide +kernel
theorem d_w_law_979 : decode code 979 = .ok (.iadd, 1) := by decide +kernel
theorem d_w_law_980 : decode code 980 = .ok (.iaload, 1) := by decide +kernel
theorem d_w_law_981 : decode code 981 = .ok (.aload_n 0, 1) := by decide +kernel
theorem d_w_law_982 : decode code 982 = .ok (.iload 4, 2) := by decide +kernel
theorem d_w_law_984 : decode code 984 = .ok (.iconst 3, 1) := by decide +kernel
theorem d_w_law_985 : decode code 985 = .ok (.iadd, 1) := by decide +kernel
theorem d_w_law_986 : decode code 986 = .ok (.iaload, 1) := by decide +kernel
theorem d_w_law_987 : decode code 987 = .ok (.invokevirtual 137, 3) := by decide +kernel
theorem d_w_law_990 : decode code 990 = .ok (.istore 6, 2) := by decide +kernel
theorem d_w_law_992 : decode code 992 = .ok (.aload_n 2, 1) := by decide +kernel
theorem d_w_law_993 : decode code 993 = .ok (.invokevirtual 87, 3) := by decide +kernel
theorem d_w_law_996 : decode code 996 = .ok (.iload 5, 2) := by decide +kernel
theorem d_w_law_998 : decode code 998 = .ok (.if_icmp .eq 5, 3) := by decide +kernel
theorem d_w_law_1001 : decode code 1001 = .ok (.iconst 0, 1) := by decide +kernel
