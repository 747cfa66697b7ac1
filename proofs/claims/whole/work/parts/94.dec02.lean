theorem dL_738 : decode code 738 = .ok (.iconst 1, 1) := by decide +kernel
theorem dL_739 : decode code 739 = .ok (.iadd, 1) := by decide +kernel
theorem dL_740 : decode code 740 = .ok (.iaload, 1) := by decide +kernel
theorem dL_741 : decode code 741 = .ok (.aload_n 0, 1) := by decide +kernel
theorem dL_742 : decode code 742 = .ok (.iload_n 3, 1) := by decide +kernel
theorem dL_743 : decode code 743 = .ok (.iconst 2, 1) := by decide +kernel
theorem dL_744 : decode code 744 = .ok (.iadd, 1) := by decide +kernel
theorem dL_745 : decode code 745 = .ok (.iaload, 1) := by decide +kernel
theorem dL_746 : decode code 746 = .ok (.aload_n 0, 1) := by decide +kernel
theorem dL_747 : decode code 747 = .ok (.iload_n 3, 1) := by decide +kernel
theorem dL_748 : decode code 748 = .ok (.iconst 3, 1) := by decide +kernel
theorem dL_749 : decode code 749 = .ok (.iadd, 1) := by decide +kernel
theorem dL_750 : decode code 750 = .ok (.iaload, 1) := by decide +kernel
theorem dL_751 : decode code 751 = .ok (.aload_n 0, 1) := by decide +kernel
theorem dL_752 : decode code 752 = .ok (.iload_n 3, 1) := by decide +kernel
theorem dL_753 : decode code 753 = .ok (.iconst 4, 1) := by decide +kernel
theorem dL_754 : decode code 754 = .ok (.iadd, 1) := by decide +kernel
theorem dL_755 : decode code 755 = .ok (.iaload, 1) := by decide +kernel
theorem dL_756 : decode code 756 = .ok (.invokevirtual 82, 3) := by decide +kernel
theorem dL_759 : decode code 759 = .ok (.if_icmp .eq 986, 3) := by decide +kernel
theorem dL_762 : decode code 762 = .ok (.iconst 0, 1) := by decide +kernel
theorem dL_763 : decode code 763 = .ok (.ireturn, 1) := by decide +kernel
theorem dL_764 : decode code 764 = .ok (.aload_n 1, 1) := by decide +kernel
theorem dL_765 : decode code 765 = .ok (.aload_n 0, 1) := by decide +kernel
theorem dL_766 : decode code 766 = .ok (.iload_n 3, 1) := by decide +kernel
theorem dL_767 : decode code 767 = .ok (.iconst 1, 1) := by decide +kernel
theorem dL_768 : decode code 768 = .ok (.iadd, 1) := by decide +kernel
theorem dL_769 : decode code 769 = .ok (.iaload, 1) := by decide +kernel
theorem dL_770 : decode code 770 = .ok (.aload_n 0, 1) := by decide +kernel
theorem dL_771 : decode code 771 = .ok (.iload_n 3, 1) := by decide +kernel
theorem dL_772 : decode code 772 = .ok (.iconst 2, 1) := by decide +kernel
theorem dL_773 : decode code 773 = .ok (.iadd, 1) := by decide +kernel
theorem dL_774 : decode code 774 = .ok (.iaload, 1) := by decide +kernel
theorem dL_775 : decode code 775 = .ok (.aload_n 0, 1) := by decide +kernel
theorem dL_776 : decode code 776 = .ok (.iload_n 3, 1) := by decide +kernel
theorem dL_777 : decode code 777 = .ok (.iconst 3, 1) := by decide +kernel
theorem dL_778 : decode code 778 = .ok (.iadd, 1) := by decide +kernel
theorem dL_779 : decode code 779 = .ok (.iaload, 1) := by decide +kernel
theorem dL_780 : decode code 780 = .ok (.invokevirtual 83, 3) := by decide +kernel
theorem dL_783 : decode code 783 = .ok (.aload_n 2, 1) := by decide +kernel
theorem dL_784 : decode code 784 = .ok (.aload_n 0, 1) := by decide +kernel
theorem dL_785 : decode code 785 = .ok (.iload_n 3, 1) := by decide +kernel
theorem dL_786 : decode code 786 = .ok (.iconst 1, 1) := by decide +kernel
theorem dL_787 : decode code 787 = .ok (.iadd, 1) := by decide +kernel
theorem dL_788 : decode code 788 = .ok (.iaload, 1) := by decide +kernel
theorem dL_789 : decode code 789 = .ok (.aload_n 0, 1) := by decide +kernel
theorem dL_790 : decode code 790 = .ok (.iload_n 3, 1) := by decide +kernel
theorem dL_791 : decode code 791 = .ok (.iconst 2, 1) := by decide +kernel
theorem dL_792 : decode code 792 = .ok (.iadd, 1) := by decide +kernel
theorem dL_793 : decode code 793 = .ok (.iaload, 1) := by decide +kernel
theorem dL_794 : decode code 794 = .ok (.aload_n 0, 1) := by decide +kernel
theorem dL_795 : decode code 795 = .ok (.iload_n 3, 1) := by decide +kernel
theorem dL_796 : decode code 796 = .ok (.iconst 3, 1) := by decide +kernel
theorem dL_797 : decode code 797 = .ok (.iadd, 1) := by decide +kernel
theorem dL_798 : decode code 798 = .ok (.iaload, 1) := by decide +kernel
theorem dL_799 : decode code 799 = .ok (.invokevirtual 86, 3) := by decide +kernel
theorem dL_802 : decode code 802 = .ok (.if_icmp .eq 943, 3) := by decide +kernel
theorem dL_805 : decode code 805 = .ok (.iconst 0, 1) := by decide +kernel
theorem dL_806 : decode code 806 = .ok (.ireturn, 1) := by decide +kernel
theorem dL_807 : decode code 807 = .ok (.aload_n 1, 1) := by decide +kernel
theorem dL_808 : decode code 808 = .ok (.aload_n 0, 1) := by decide +kernel
theorem dL_809 : decode code 809 = .ok (.iload_n 3, 1) := by decide +kernel
theorem dL_810 : decode code 810 = .ok (.iconst 1, 1) := by decide +kernel
theorem dL_811 : decode code 811 = .ok (.iadd, 1) := by decide +kernel
theorem dL_812 : decode code 812 = .ok (.iaload, 1) := by decide +kernel
theorem dL_813 : decode code 813 = .ok (.aload_n 0, 1) := by decide +kernel
theorem dL_814 : decode code 814 = .ok (.iload_n 3, 1) := by decide +kernel
theorem dL_815 : decode code 815 = .ok (.iconst 2, 1) := by decide +kernel
theorem dL_816 : decode code 816 = .ok (.iadd, 1) := by decide +kernel
theorem dL_817 : decode code 817 = .ok (.iaload, 1) := by decide +kernel
theorem dL_818 : decode code 818 = .ok (.invokevirtual 87, 3) := by decide +kernel
theorem dL_821 : decode code 821 = .ok (.aload_n 2, 1) := by decide +kernel
theorem dL_822 : decode code 822 = .ok (.aload_n 0, 1) := by decide +kernel
theorem dL_823 : decode code 823 = .ok (.iload_n 3, 1) := by decide +kernel
theorem dL_824 : decode code 824 = .ok (.iconst 1, 1) := by decide +kernel
theorem dL_825 : decode code 825 = .ok (.iadd, 1) := by decide +kernel
theorem dL_826 : decode code 826 = .ok (.iaload, 1) := by decide +kernel
theorem dL_827 : decode code 827 = .ok (.aload_n 0, 1) := by decide +kernel
theorem dL_828 : decode code 828 = .ok (.iload_n 3, 1) := by decide +kernel
theorem dL_829 : decode code 829 = .ok (.iconst 2, 1) := by decide +kernel
theorem dL_830 : decode code 830 = .ok (.iadd, 1) := by decide +kernel
theorem dL_831 : decode code 831 = .ok (.iaload, 1) := by decide +kernel
theorem dL_832 : decode code 832 = .ok (.invokevirtual 90, 3) := by decide +kernel
theorem dL_835 : decode code 835 = .ok (.if_icmp .eq 910, 3) := by decide +kernel
theorem dL_838 : decode code 838 = .ok (.iconst 0, 1) := by decide +kernel
theorem dL_839 : decode code 839 = .ok (.ireturn, 1) := by decide +kernel
theorem dL_840 : decode code 840 = .ok (.aload_n 1, 1) := by decide +kernel
theorem dL_841 : decode code 841 = .ok (.aload_n 0, 1) := by decide +kernel
theorem dL_842 : decode code 842 = .ok (.iload_n 3, 1) := by decide +kernel
theorem dL_843 : decode code 843 = .ok (.iconst 1, 1) := by decide +kernel
theorem dL_844 : decode code 844 = .ok (.iadd, 1) := by decide +kernel
theorem dL_845 : decode code 845 = .ok (.iaload, 1) := by decide +kernel
theorem dL_846 : decode code 846 = .ok (.aload_n 0, 1) := by decide +kernel
theorem dL_847 : decode code 847 = .ok (.iload_n 3, 1) := by decide +kernel
theorem dL_848 : decode code 848 = .ok (.iconst 2, 1) := by decide +kernel
theorem dL_849 : decode code 849 = .ok (.iadd, 1) := by decide +kernel
theorem dL_850 : decode code 850 = .ok (.iaload, 1) := by decide +kernel
theorem dL_851 : decode code 851 = .ok (.aload_n 0, 1) := by decide +kernel
theorem dL_852 : decode code 852 = .ok (.iload_n 3, 1) := by decide +kernel
theorem dL_853 : decode code 853 = .ok (.iconst 3, 1) := by decide +kernel
theorem dL_854 : decode code 854 = .ok (.iadd, 1) := by decide +kernel
theorem dL_855 : decode code 855 = .ok (.iaload, 1) := by decide +kernel
theorem dL_856 : decode code 856 = .ok (.aload_n 0, 1) := by decide +kernel
theorem dL_857 : decode code 857 = .ok (.iload_n 3, 1) := by decide +kernel
theorem dL_858 : decode code 858 = .ok (.iconst 4, 1) := by decide +kernel
theorem dL_859 : decode code 859 = .ok (.iadd, 1) := by decide +kernel
theorem dL_860 : decode code 860 = .ok (.iaload, 1) := by decide +kernel
theorem dL_861 : decode code 861 = .ok (.invokevirtual 91, 3) := by decide +kernel
theorem dL_864 : decode code 864 = .ok (.aload_n 2, 1) := by decide +kernel
theorem dL_865 : decode code 865 = .ok (.aload_n 0, 1) := by decide +kernel
theorem dL_866 : decode code 866 = .ok (.iload_n 3, 1) := by decide +kernel
theorem dL_867 : decode code 867 = .ok (.iconst 1, 1) := by decide +kernel
theorem dL_868 : decode code 868 = .ok (.iadd, 1) := by decide +kernel
theorem dL_869 : decode code 869 = .ok (.iaload, 1) := by decide +kernel
theorem dL_870 : decode code 870 = .ok (.aload_n 0, 1) := by decide +kernel
theorem dL_871 : decode code 871 = .ok (.iload_n 3, 1) := by decide +kernel
theorem dL_872 : decode code 872 = .ok (.iconst 2, 1) := by decide +kernel
theorem dL_873 : decode code 873 = .ok (.iadd, 1) := by decide +kernel
theorem dL_874 : decode code 874 = .ok (.iaload, 1) := by decide +kernel
theorem dL_875 : decode code 875 = .ok (.aload_n 0, 1) := by decide +kernel
theorem dL_876 : decode code 876 = .ok (.iload_n 3, 1) := by decide +kernel
theorem dL_877 : decode code 877 = .ok (.iconst 3, 1) := by decide +kernel
theorem dL_878 : decode code 878 = .ok (.iadd, 1) := by decide +kernel
theorem dL_879 : decode code 879 = .ok (.iaload, 1) := by decide +kernel
theorem dL_880 : decode code 880 = .ok (.aload_n 0, 1) := by decide +kernel
theorem dL_881 : decode code 881 = .ok (.iload_n 3, 1) := by decide +kernel
theorem dL_882 : decode code 882 = .ok (.iconst 4, 1) := by decide +kernel
theorem dL_883 : decode code 883 = .ok (.iadd, 1) := by decide +kernel
theorem dL_884 : decode code 884 = .ok (.iaload, 1) := by decide +kernel
theorem dL_885 : decode code 885 = .ok (.invokevirtual 94, 3) := by decide +kernel
theorem dL_888 : decode code 888 = .ok (.if_icmp .eq 857, 3) := by decide +kernel
theorem dL_891 : decode code 891 = .ok (.iconst 0, 1) := by decide +kernel
theorem dL_892 : decode code 892 = .ok (.ireturn, 1) := by decide +kernel
theorem dL_893 : decode code 893 = .ok (.aload_n 1, 1) := by decide +kernel
theorem dL_894 : decode code 894 = .ok (.aload_n 0, 1) := by decide +kernel
theorem dL_895 : decode code 895 = .ok (.iload_n 3, 1) := by decide +kernel
theorem dL_896 : decode code 896 = .ok (.iconst 1, 1) := by decide +kernel
theorem dL_897 : decode code 897 = .ok (.iadd, 1) := by decide +kernel
theorem dL_898 : decode code 898 = .ok (.iaload, 1) := by decide +kernel
theorem dL_899 : decode code 899 = .ok (.aload_n 0, 1) := by decide +kernel
theorem dL_900 : decode code 900 = .ok (.iload_n 3, 1) := by decide +kernel
theorem dL_901 : decode code 901 = .ok (.iconst 2, 1) := by decide +kernel
theorem dL_902 : decode code 902 = .ok (.iadd, 1) := by decide +kernel
theorem dL_903 : decode code 903 = .ok (.iaload, 1) := by decide +kernel
theorem dL_904 : decode code 904 = .ok (.aload_n 0, 1) := by decide +kernel
theorem dL_905 : decode code 905 = .ok (.iload_n 3, 1) := by decide +kernel
theorem dL_906 : decode code 906 = .ok (.iconst 3, 1) := by decide +kernel
theorem dL_907 : decode code 907 = .ok (.iadd, 1) := by decide +kernel
theorem dL_908 : decode code 908 = .ok (.iaload, 1) := by decide +kernel
theorem dL_909 : decode code 909 = .ok (.invokevirtual 95, 3) := by decide +kernel
theorem dL_912 : decode code 912 = .ok (.aload_n 2, 1) := by decide +kernel
theorem dL_913 : decode code 913 = .ok (.aload_n 0, 1) := by decide +kernel
theorem dL_914 : decode code 914 = .ok (.iload_n 3, 1) := by decide +kernel
theorem dL_915 : decode code 915 = .ok (.iconst 1, 1) := by decide +kernel
theorem dL_916 : decode code 916 = .ok (.iadd, 1) := by decide +kernel
theorem dL_917 : decode code 917 = .ok (.iaload, 1) := by decide +kernel
theorem dL_918 : decode code 918 = .ok (.aload_n 0, 1) := by decide +kernel
theorem dL_919 : decode code 919 = .ok (.iload_n 3, 1) := by decide +kernel
theorem dL_920 : decode code 920 = .ok (.iconst 2, 1) := by decide +kernel
theorem dL_921 : decode code 921 = .ok (.iadd, 1) := by decide +kernel
theorem dL_922 : decode code 922 = .ok (.iaload, 1) := by decide +kernel
theorem dL_923 : decode code 923 = .ok (.aload_n 0, 1) := by decide +kernel
theorem dL_924 : decode code 924 = .ok (.iload_n 3, 1) := by decide +kernel
theorem dL_925 : decode code 925 = .ok (.iconst 3, 1) := by decide +kernel
theorem dL_926 : decode code 926 = .ok (.iadd, 1) := by decide +kernel
theorem dL_927 : decode code 927 = .ok (.iaload, 1) := by decide +kernel
theorem dL_928 : decode code 928 = .ok (.invokevirtual 98, 3) := by decide +kernel
theorem dL_931 : decode code 931 = .ok (.if_icmp .eq 814, 3) := by decide +kernel
theorem dL_934 : decode code 934 = .ok (.iconst 0, 1) := by decide +kernel
theorem dL_935 : decode code 935 = .ok (.ireturn, 1) := by decide +kernel
theorem dL_936 : decode code 936 = .ok (.aload_n 1, 1) := by decide +kernel
theorem dL_937 : decode code 937 = .ok (.invokevirtual 99, 3) := by decide +kernel
theorem dL_940 : decode code 940 = .ok (.aload_n 2, 1) := by decide +kernel
theorem dL_941 : decode code 941 = .ok (.invokevirtual 102, 3) := by decide +kernel
theorem dL_944 : decode code 944 = .ok (.if_icmp .eq 801, 3) := by decide +kernel
theorem dL_947 : decode code 947 = .ok (.iconst 0, 1) := by decide +kernel
theorem dL_948 : decode code 948 = .ok (.ireturn, 1) := by decide +kernel
theorem dL_949 : decode code 949 = .ok (.aload_n 1, 1) := by decide +kernel
theorem dL_950 : decode code 950 = .ok (.aload_n 0, 1) := by decide +kernel
theorem dL_951 : decode code 951 = .ok (.iload_n 3, 1) := by decide +kernel
theorem dL_952 : decode code 952 = .ok (.iconst 1, 1) := by decide +kernel
theorem dL_953 : decode code 953 = .ok (.iadd, 1) := by decide +kernel
theorem dL_954 : decode code 954 = .ok (.iaload, 1) := by decide +kernel
theorem dL_955 : decode code 955 = .ok (.aload_n 0, 1) := by decide +kernel
theorem dL_956 : decode code 956 = .ok (.iload_n 3, 1) := by decide +kernel
theorem dL_957 : decode code 957 = .ok (.iconst 2, 1) := by decide +kernel
theorem dL_958 : decode code 958 = .ok (.iadd, 1) := by decide +kernel
theorem dL_959 : decode code 959 = .ok (.iaload, 1) := by decide +kernel
theorem dL_960 : decode code 960 = .ok (.aload_n 0, 1) := by decide +kernel
theorem dL_961 : decode code 961 = .ok (.iload_n 3, 1) := by decide +kernel
theorem dL_962 : decode code 962 = .ok (.iconst 3, 1) := by decide +kernel
theorem dL_963 : decode code 963 = .ok (.iadd, 1) := by decide +kernel
theorem dL_964 : decode code 964 = .ok (.iaload, 1) := by decide +kernel
theorem dL_965 : decode code 965 = .ok (.aload_n 0, 1) := by decide +kernel
theorem dL_966 : decode code 966 = .ok (.iload_n 3, 1) := by decide +kernel
theorem dL_967 : decode code 967 = .ok (.iconst 4, 1) := by decide +kernel
theorem dL_968 : decode code 968 = .ok (.iadd, 1) := by decide +kernel
theorem dL_969 : decode code 969 = .ok (.iaload, 1) := by decide +kernel
theorem dL_970 : decode code 970 = .ok (.invokevirtual 103, 3) := by decide +kernel
theorem dL_973 : decode code 973 = .ok (.aload_n 2, 1) := by decide +kernel
theorem dL_974 : decode code 974 = .ok (.aload_n 0, 1) := by decide +kernel
theorem dL_975 : decode code 975 = .ok (.iload_n 3, 1) := by decide +kernel
theorem dL_976 : decode code 976 = .ok (.iconst 1, 1) := by decide +kernel
theorem dL_977 : decode code 977 = .ok (.iadd, 1) := by decide +kernel
theorem dL_978 : decode code 978 = .ok (.iaload, 1) := by decide +kernel
theorem dL_979 : decode code 979 = .ok (.aload_n 0, 1) := by decide +kernel
theorem dL_980 : decode code 980 = .ok (.iload_n 3, 1) := by decide +kernel
theorem dL_981 : decode code 981 = .ok (.iconst 2, 1) := by decide +kernel
theorem dL_982 : decode code 982 = .ok (.iadd, 1) := by decide +kernel
theorem dL_983 : decode code 983 = .ok (.iaload, 1) := by decide +kernel
theorem dL_984 : decode code 984 = .ok (.aload_n 0, 1) := by decide +kernel
theorem dL_985 : decode code 985 = .ok (.iload_n 3, 1) := by decide +kernel
theorem dL_986 : decode code 986 = .ok (.iconst 3, 1) := by decide +kernel
theorem dL_987 : decode code 987 = .ok (.iadd, 1) := by decide +kernel
theorem dL_988 : decode code 988 = .ok (.iaload, 1) := by decide +kernel
theorem dL_989 : decode code 989 = .ok (.aload_n 0, 1) := by decide +kernel
theorem dL_990 : decode code 990 = .ok (.iload_n 3, 1) := by decide +kernel
theorem dL_991 : decode code 991 = .ok (.iconst 4, 1) := by decide +kernel
theorem dL_992 : decode code 992 = .ok (.iadd, 1) := by decide +kernel
theorem dL_993 : decode code 993 = .ok (.iaload, 1) := by decide +kernel
