/-! the law decoded -/
theorem dl_838 : decode code 838 = .ok (.iadd, 1) := by decide +kernel
theorem dl_839 : decode code 839 = .ok (.iaload, 1) := by decide +kernel
theorem dl_840 : decode code 840 = .ok (.invokevirtual 106, 3) := by decide +kernel
theorem dl_843 : decode code 843 = .ok (.if_icmp .eq 312, 3) := by decide +kernel
theorem dl_846 : decode code 846 = .ok (.iconst 0, 1) := by decide +kernel
theorem dl_847 : decode code 847 = .ok (.ireturn, 1) := by decide +kernel
theorem dl_848 : decode code 848 = .ok (.aload_n 1, 1) := by decide +kernel
theorem dl_849 : decode code 849 = .ok (.aload_n 0, 1) := by decide +kernel
theorem dl_850 : decode code 850 = .ok (.iload_n 3, 1) := by decide +kernel
theorem dl_851 : decode code 851 = .ok (.iconst 1, 1) := by decide +kernel
theorem dl_852 : decode code 852 = .ok (.iadd, 1) := by decide +kernel
theorem dl_853 : decode code 853 = .ok (.iaload, 1) := by decide +kernel
theorem dl_854 : decode code 854 = .ok (.invokevirtual 107, 3) := by decide +kernel
theorem dl_857 : decode code 857 = .ok (.aload_n 2, 1) := by decide +kernel
theorem dl_858 : decode code 858 = .ok (.aload_n 0, 1) := by decide +kernel
theorem dl_859 : decode code 859 = .ok (.iload_n 3, 1) := by decide +kernel
theorem dl_860 : decode code 860 = .ok (.iconst 1, 1) := by decide +kernel
theorem dl_861 : decode code 861 = .ok (.iadd, 1) := by decide +kernel
theorem dl_862 : decode code 862 = .ok (.iaload, 1) := by decide +kernel
theorem dl_863 : decode code 863 = .ok (.invokevirtual 110, 3) := by decide +kernel
theorem dl_866 : decode code 866 = .ok (.if_icmp .eq 289, 3) := by decide +kernel
theorem dl_869 : decode code 869 = .ok (.iconst 0, 1) := by decide +kernel
theorem dl_870 : decode code 870 = .ok (.ireturn, 1) := by decide +kernel
theorem dl_871 : decode code 871 = .ok (.aload_n 1, 1) := by decide +kernel
theorem dl_872 : decode code 872 = .ok (.invokevirtual 111, 3) := by decide +kernel
theorem dl_875 : decode code 875 = .ok (.aload_n 2, 1) := by decide +kernel
theorem dl_876 : decode code 876 = .ok (.invokevirtual 114, 3) := by decide +kernel
theorem dl_879 : decode code 879 = .ok (.if_icmp .eq 276, 3) := by decide +kernel
theorem dl_882 : decode code 882 = .ok (.iconst 0, 1) := by decide +kernel
theorem dl_883 : decode code 883 = .ok (.ireturn, 1) := by decide +kernel
theorem dl_884 : decode code 884 = .ok (.aload_n 1, 1) := by decide +kernel
theorem dl_885 : decode code 885 = .ok (.aload_n 0, 1) := by decide +kernel
theorem dl_886 : decode code 886 = .ok (.iload_n 3, 1) := by decide +kernel
theorem dl_887 : decode code 887 = .ok (.iconst 1, 1) := by decide +kernel
theorem dl_888 : decode code 888 = .ok (.iadd, 1) := by decide +kernel
theorem dl_889 : decode code 889 = .ok (.iaload, 1) := by decide +kernel
theorem dl_890 : decode code 890 = .ok (.aload_n 0, 1) := by decide +kernel
theorem dl_891 : decode code 891 = .ok (.iload_n 3, 1) := by decide +kernel
theorem dl_892 : decode code 892 = .ok (.iconst 2, 1) := by decide +kernel
theorem dl_893 : decode code 893 = .ok (.iadd, 1) := by decide +kernel
theorem dl_894 : decode code 894 = .ok (.iaload, 1) := by decide +kernel
theorem dl_895 : decode code 895 = .ok (.aload_n 0, 1) := by decide +kernel
theorem dl_896 : decode code 896 = .ok (.iload_n 3, 1) := by decide +kernel
theorem dl_897 : decode code 897 = .ok (.iconst 3, 1) := by decide +kernel
theorem dl_898 : decode code 898 = .ok (.iadd, 1) := by decide +kernel
theorem dl_899 : decode code 899 = .ok (.iaload, 1) := by decide +kernel
theorem dl_900 : decode code 900 = .ok (.invokevirtual 115, 3) := by decide +kernel
theorem dl_903 : decode code 903 = .ok (.aload_n 2, 1) := by decide +kernel
theorem dl_904 : decode code 904 = .ok (.aload_n 0, 1) := by decide +kernel
theorem dl_905 : decode code 905 = .ok (.iload_n 3, 1) := by decide +kernel
theorem dl_906 : decode code 906 = .ok (.iconst 1, 1) := by decide +kernel
theorem dl_907 : decode code 907 = .ok (.iadd, 1) := by decide +kernel
theorem dl_908 : decode code 908 = .ok (.iaload, 1) := by decide +kernel
theorem dl_909 : decode code 909 = .ok (.aload_n 0, 1) := by decide +kernel
theorem dl_910 : decode code 910 = .ok (.iload_n 3, 1) := by decide +kernel
theorem dl_911 : decode code 911 = .ok (.iconst 2, 1) := by decide +kernel
theorem dl_912 : decode code 912 = .ok (.iadd, 1) := by decide +kernel
theorem dl_913 : decode code 913 = .ok (.iaload, 1) := by decide +kernel
theorem dl_914 : decode code 914 = .ok (.aload_n 0, 1) := by decide +kernel
theorem dl_915 : decode code 915 = .ok (.iload_n 3, 1) := by decide +kernel
theorem dl_916 : decode code 916 = .ok (.iconst 3, 1) := by decide +kernel
theorem dl_917 : decode code 917 = .ok (.iadd, 1) := by decide +kernel
theorem dl_918 : decode code 918 = .ok (.iaload, 1) := by decide +kernel
theorem dl_919 : decode code 919 = .ok (.invokevirtual 118, 3) := by decide +kernel
theorem dl_922 : decode code 922 = .ok (.if_icmp .eq 233, 3) := by decide +kernel
theorem dl_925 : decode code 925 = .ok (.iconst 0, 1) := by decide +kernel
theorem dl_926 : decode code 926 = .ok (.ireturn, 1) := by decide +kernel
theorem dl_927 : decode code 927 = .ok (.aload_n 1, 1) := by decide +kernel
theorem dl_928 : decode code 928 = .ok (.aload_n 0, 1) := by decide +kernel
theorem dl_929 : decode code 929 = .ok (.iload_n 3, 1) := by decide +kernel
