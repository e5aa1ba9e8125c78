theorem d_W_law_763 : decode b_W_law 763 = .ok (.iconst 0, 1) := by decide +kernel
theorem d_W_law_764 : decode b_W_law 764 = .ok (.laload, 1) := by decide +kernel
theorem d_W_law_765 : decode b_W_law 765 = .ok (.iload 6, 2) := by decide +kernel
theorem d_W_law_767 : decode b_W_law 767 = .ok (.i2l, 1) := by decide +kernel
theorem d_W_law_768 : decode b_W_law 768 = .ok (.lcmp, 1) := by decide +kernel
theorem d_W_law_769 : decode b_W_law 769 = .ok (.ifCond .eq 5, 3) := by decide +kernel
theorem d_W_law_772 : decode b_W_law 772 = .ok (.iconst 0, 1) := by decide +kernel
theorem d_W_law_773 : decode b_W_law 773 = .ok (.ireturn, 1) := by decide +kernel
theorem d_W_law_774 : decode b_W_law 774 = .ok (.goto 711, 3) := by decide +kernel
theorem d_W_law_777 : decode b_W_law 777 = .ok (.aload_n 1, 1) := by decide +kernel
theorem d_W_law_778 : decode b_W_law 778 = .ok (.aload_n 0, 1) := by decide +kernel
theorem d_W_law_779 : decode b_W_law 779 = .ok (.iload 4, 2) := by decide +kernel
theorem d_W_law_781 : decode b_W_law 781 = .ok (.iconst 1, 1) := by decide +kernel
theorem d_W_law_782 : decode b_W_law 782 = .ok (.iadd, 1) := by decide +kernel
theorem d_W_law_783 : decode b_W_law 783 = .ok (.iaload, 1) := by decide +kernel
theorem d_W_law_784 : decode b_W_law 784 = .ok (.invokestatic 128, 3) := by decide +kernel
theorem d_W_law_787 : decode b_W_law 787 = .ok (.istore 5, 2) := by decide +kernel
theorem d_W_law_789 : decode b_W_law 789 = .ok (.aload_n 2, 1) := by decide +kernel
theorem d_W_law_790 : decode b_W_law 790 = .ok (.aload_n 0, 1) := by decide +kernel
theorem d_W_law_791 : decode b_W_law 791 = .ok (.iload 4, 2) := by decide +kernel
theorem d_W_law_793 : decode b_W_law 793 = .ok (.iconst 1, 1) := by decide +kernel
theorem d_W_law_794 : decode b_W_law 794 = .ok (.iadd, 1) := by decide +kernel
theorem d_W_law_795 : decode b_W_law 795 = .ok (.iaload, 1) := by decide +kernel
theorem d_W_law_796 : decode b_W_law 796 = .ok (.invokevirtual 131, 3) := by decide +kernel
theorem d_W_law_799 : decode b_W_law 799 = .ok (.aload_n 2, 1) := by decide +kernel
theorem d_W_law_800 : decode b_W_law 800 = .ok (.invokevirtual 90, 3) := by decide +kernel
theorem d_W_law_803 : decode b_W_law 803 = .ok (.iload 5, 2) := by decide +kernel
theorem d_W_law_805 : decode b_W_law 805 = .ok (.if_icmp .eq 5, 3) := by decide +kernel
theorem d_W_law_808 : decode b_W_law 808 = .ok (.iconst 0, 1) := by decide +kernel
theorem d_W_law_809 : decode b_W_law 809 = .ok (.ireturn, 1) := by decide +kernel
theorem d_W_law_810 : decode b_W_law 810 = .ok (.goto 675, 3) := by decide +kernel
theorem d_W_law_813 : decode b_W_law 813 = .ok (.aload_n 1, 1) := by decide +kernel
theorem d_W_law_814 : decode b_W_law 814 = .ok (.aload_n 0, 1) := by decide +kernel
theorem d_W_law_815 : decode b_W_law 815 = .ok (.iload 4, 2) := by decide +kernel
theorem d_W_law_817 : decode b_W_law 817 = .ok (.iconst 1, 1) := by decide +kernel
theorem d_W_law_818 : decode b_W_law 818 = .ok (.iadd, 1) := by decide +kernel
theorem d_W_law_819 : decode b_W_law 819 = .ok (.iaload, 1) := by decide +kernel
theorem d_W_law_820 : decode b_W_law 820 = .ok (.aload_n 0, 1) := by decide +kernel
theorem d_W_law_821 : decode b_W_law 821 = .ok (.iload 4, 2) := by decide +kernel
theorem d_W_law_823 : decode b_W_law 823 = .ok (.iconst 2, 1) := by decide +kernel
theorem d_W_law_824 : decode b_W_law 824 = .ok (.iadd, 1) := by decide +kernel
theorem d_W_law_825 : decode b_W_law 825 = .ok (.iaload, 1) := by decide +kernel
theorem d_W_law_826 : decode b_W_law 826 = .ok (.aload_n 0, 1) := by decide +kernel
theorem d_W_law_827 : decode b_W_law 827 = .ok (.iload 4, 2) := by decide +kernel
theorem d_W_law_829 : decode b_W_law 829 = .ok (.iconst 3, 1) := by decide +kernel
theorem d_W_law_830 : decode b_W_law 830 = .ok (.iadd, 1) := by decide +kernel
theorem d_W_law_831 : decode b_W_law 831 = .ok (.iaload, 1) := by decide +kernel
theorem d_W_law_832 : decode b_W_law 832 = .ok (.aload_n 0, 1) := by decide +kernel
theorem d_W_law_833 : decode b_W_law 833 = .ok (.iload 4, 2) := by decide +kernel
theorem d_W_law_835 : decode b_W_law 835 = .ok (.iconst 4, 1) := by decide +kernel
theorem d_W_law_836 : decode b_W_law 836 = .ok (.iadd, 1) := by decide +kernel
theorem d_W_law_837 : decode b_W_law 837 = .ok (.iaload, 1) := by decide +kernel
theorem d_W_law_838 : decode b_W_law 838 = .ok (.aload_n 0, 1) := by decide +kernel
theorem d_W_law_839 : decode b_W_law 839 = .ok (.iload 4, 2) := by decide +kernel
theorem d_W_law_841 : decode b_W_law 841 = .ok (.iconst 5, 1) := by decide +kernel
theorem d_W_law_842 : decode b_W_law 842 = .ok (.iadd, 1) := by decide +kernel
theorem d_W_law_843 : decode b_W_law 843 = .ok (.iaload, 1) := by decide +kernel
theorem d_W_law_844 : decode b_W_law 844 = .ok (.aload_n 3, 1) := by decide +kernel
theorem d_W_law_845 : decode b_W_law 845 = .ok (.invokestatic 132, 3) := by decide +kernel
theorem d_W_law_848 : decode b_W_law 848 = .ok (.istore 5, 2) := by decide +kernel
theorem d_W_law_850 : decode b_W_law 850 = .ok (.aload_n 2, 1) := by decide +kernel
theorem d_W_law_851 : decode b_W_law 851 = .ok (.aload_n 0, 1) := by decide +kernel
theorem d_W_law_852 : decode b_W_law 852 = .ok (.iload 4, 2) := by decide +kernel
theorem d_W_law_854 : decode b_W_law 854 = .ok (.iconst 1, 1) := by decide +kernel
theorem d_W_law_855 : decode b_W_law 855 = .ok (.iadd, 1) := by decide +kernel
theorem d_W_law_856 : decode b_W_law 856 = .ok (.iaload, 1) := by decide +kernel
theorem d_W_law_857 : decode b_W_law 857 = .ok (.aload_n 0, 1) := by decide +kernel
theorem d_W_law_858 : decode b_W_law 858 = .ok (.iload 4, 2) := by decide +kernel
theorem d_W_law_860 : decode b_W_law 860 = .ok (.iconst 2, 1) := by decide +kernel
theorem d_W_law_861 : decode b_W_law 861 = .ok (.iadd, 1) := by decide +kernel
theorem d_W_law_862 : decode b_W_law 862 = .ok (.iaload, 1) := by decide +kernel
theorem d_W_law_863 : decode b_W_law 863 = .ok (.aload_n 0, 1) := by decide +kernel
theorem d_W_law_864 : decode b_W_law 864 = .ok (.iload 4, 2) := by decide +kernel
theorem d_W_law_866 : decode b_W_law 866 = .ok (.iconst 3, 1) := by decide +kernel
theorem d_W_law_867 : decode b_W_law 867 = .ok (.iadd, 1) := by decide +kernel
theorem d_W_law_868 : decode b_W_law 868 = .ok (.iaload, 1) := by decide +kernel
theorem d_W_law_869 : decode b_W_law 869 = .ok (.aload_n 0, 1) := by decide +kernel
theorem d_W_law_870 : decode b_W_law 870 = .ok (.iload 4, 2) := by decide +kernel
theorem d_W_law_872 : decode b_W_law 872 = .ok (.iconst 4, 1) := by decide +kernel
theorem d_W_law_873 : decode b_W_law 873 = .ok (.iadd, 1) := by decide +kernel
theorem d_W_law_874 : decode b_W_law 874 = .ok (.iaload, 1) := by decide +kernel
theorem d_W_law_875 : decode b_W_law 875 = .ok (.aload_n 0, 1) := by decide +kernel
theorem d_W_law_876 : decode b_W_law 876 = .ok (.iload 4, 2) := by decide +kernel
theorem d_W_law_878 : decode b_W_law 878 = .ok (.iconst 5, 1) := by decide +kernel
theorem d_W_law_879 : decode b_W_law 879 = .ok (.iadd, 1) := by decide +kernel
theorem d_W_law_880 : decode b_W_law 880 = .ok (.iaload, 1) := by decide +kernel
theorem d_W_law_881 : decode b_W_law 881 = .ok (.invokevirtual 135, 3) := by decide +kernel
theorem d_W_law_884 : decode b_W_law 884 = .ok (.istore 6, 2) := by decide +kernel
theorem d_W_law_886 : decode b_W_law 886 = .ok (.aload_n 2, 1) := by decide +kernel
theorem d_W_law_887 : decode b_W_law 887 = .ok (.invokevirtual 90, 3) := by decide +kernel
theorem d_W_law_890 : decode b_W_law 890 = .ok (.iload 5, 2) := by decide +kernel
theorem d_W_law_892 : decode b_W_law 892 = .ok (.if_icmp .eq 5, 3) := by decide +kernel
theorem d_W_law_895 : decode b_W_law 895 = .ok (.iconst 0, 1) := by decide +kernel
theorem d_W_law_896 : decode b_W_law 896 = .ok (.ireturn, 1) := by decide +kernel
theorem d_W_law_897 : decode b_W_law 897 = .ok (.iload 5, 2) := by decide +kernel
theorem d_W_law_899 : decode b_W_law 899 = .ok (.ifCond .ne 15, 3) := by decide +kernel
theorem d_W_law_902 : decode b_W_law 902 = .ok (.aload_n 3, 1) := by decide +kernel
theorem d_W_law_903 : decode b_W_law 903 = .ok (.iconst 0, 1) := by decide +kernel
theorem d_W_law_904 : decode b_W_law 904 = .ok (.laload, 1) := by decide +kernel
theorem d_W_law_905 : decode b_W_law 905 = .ok (.iload 6, 2) := by decide +kernel
theorem d_W_law_907 : decode b_W_law 907 = .ok (.i2l, 1) := by decide +kernel
theorem d_W_law_908 : decode b_W_law 908 = .ok (.lcmp, 1) := by decide +kernel
theorem d_W_law_909 : decode b_W_law 909 = .ok (.ifCond .eq 5, 3) := by decide +kernel
theorem d_W_law_912 : decode b_W_law 912 = .ok (.iconst 0, 1) := by decide +kernel
theorem d_W_law_913 : decode b_W_law 913 = .ok (.ireturn, 1) := by decide +kernel
theorem d_W_law_914 : decode b_W_law 914 = .ok (.goto 571, 3) := by decide +kernel
theorem d_W_law_917 : decode b_W_law 917 = .ok (.aload_n 1, 1) := by decide +kernel
theorem d_W_law_918 : decode b_W_law 918 = .ok (.aload_n 0, 1) := by decide +kernel
theorem d_W_law_919 : decode b_W_law 919 = .ok (.iload 4, 2) := by decide +kernel
theorem d_W_law_921 : decode b_W_law 921 = .ok (.iconst 1, 1) := by decide +kernel
theorem d_W_law_922 : decode b_W_law 922 = .ok (.iadd, 1) := by decide +kernel
theorem d_W_law_923 : decode b_W_law 923 = .ok (.iaload, 1) := by decide +kernel
theorem d_W_law_924 : decode b_W_law 924 = .ok (.aload_n 0, 1) := by decide +kernel
theorem d_W_law_925 : decode b_W_law 925 = .ok (.iload 4, 2) := by decide +kernel
theorem d_W_law_927 : decode b_W_law 927 = .ok (.iconst 2, 1) := by decide +kernel
theorem d_W_law_928 : decode b_W_law 928 = .ok (.iadd, 1) := by decide +kernel
theorem d_W_law_929 : decode b_W_law 929 = .ok (.iaload, 1) := by decide +kernel
theorem d_W_law_930 : decode b_W_law 930 = .ok (.aload_n 0, 1) := by decide +kernel
theorem d_W_law_931 : decode b_W_law 931 = .ok (.iload 4, 2) := by decide +kernel
theorem d_W_law_933 : decode b_W_law 933 = .ok (.iconst 3, 1) := by decide +kernel
theorem d_W_law_934 : decode b_W_law 934 = .ok (.iadd, 1) := by decide +kernel
theorem d_W_law_935 : decode b_W_law 935 = .ok (.iaload, 1) := by decide +kernel
theorem d_W_law_936 : decode b_W_law 936 = .ok (.aload_n 3, 1) := by decide +kernel
theorem d_W_law_937 : decode b_W_law 937 = .ok (.invokestatic 136, 3) := by decide +kernel
theorem d_W_law_940 : decode b_W_law 940 = .ok (.istore 5, 2) := by decide +kernel
theorem d_W_law_942 : decode b_W_law 942 = .ok (.aload_n 2, 1) := by decide +kernel
theorem d_W_law_943 : decode b_W_law 943 = .ok (.aload_n 0, 1) := by decide +kernel
theorem d_W_law_944 : decode b_W_law 944 = .ok (.iload 4, 2) := by decide +kernel
theorem d_W_law_946 : decode b_W_law 946 = .ok (.iconst 1, 1) := by decide +kernel
theorem d_W_law_947 : decode b_W_law 947 = .ok (.iadd, 1) := by decide +kernel
theorem d_W_law_948 : decode b_W_law 948 = .ok (.iaload, 1) := by decide +kernel
theorem d_W_law_949 : decode b_W_law 949 = .ok (.aload_n 0, 1) := by decide +kernel
theorem d_W_law_950 : decode b_W_law 950 = .ok (.iload 4, 2) := by decide +kernel
theorem d_W_law_952 : decode b_W_law 952 = .ok (.iconst 2, 1) := by decide +kernel
theorem d_W_law_953 : decode b_W_law 953 = .ok (.iadd, 1) := by decide +kernel
theorem d_W_law_954 : decode b_W_law 954 = .ok (.iaload, 1) := by decide +kernel
theorem d_W_law_955 : decode b_W_law 955 = .ok (.aload_n 0, 1) := by decide +kernel
theorem d_W_law_956 : decode b_W_law 956 = .ok (.iload 4, 2) := by decide +kernel
theorem d_W_law_958 : decode b_W_law 958 = .ok (.iconst 3, 1) := by decide +kernel
theorem d_W_law_959 : decode b_W_law 959 = .ok (.iadd, 1) := by decide +kernel
theorem d_W_law_960 : decode b_W_law 960 = .ok (.iaload, 1) := by decide +kernel
theorem d_W_law_961 : decode b_W_law 961 = .ok (.invokevirtual 138, 3) := by decide +kernel
theorem d_W_law_964 : decode b_W_law 964 = .ok (.istore 6, 2) := by decide +kernel
theorem d_W_law_966 : decode b_W_law 966 = .ok (.aload_n 2, 1) := by decide +kernel
theorem d_W_law_967 : decode b_W_law 967 = .ok (.invokevirtual 90, 3) := by decide +kernel
theorem d_W_law_970 : decode b_W_law 970 = .ok (.iload 5, 2) := by decide +kernel
theorem d_W_law_972 : decode b_W_law 972 = .ok (.if_icmp .eq 5, 3) := by decide +kernel
theorem d_W_law_975 : decode b_W_law 975 = .ok (.iconst 0, 1) := by decide +kernel
theorem d_W_law_976 : decode b_W_law 976 = .ok (.ireturn, 1) := by decide +kernel
theorem d_W_law_977 : decode b_W_law 977 = .ok (.iload 5, 2) := by decide +kernel
