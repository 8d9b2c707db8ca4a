/-! the law decoded -/
theorem dl_754 : decode code 754 = .ok (.iaload, 1) := by decide +kernel
theorem dl_755 : decode code 755 = .ok (.invokevirtual 95, 3) := by decide +kernel
theorem dl_758 : decode code 758 = .ok (.aload_n 2, 1) := by decide +kernel
theorem dl_759 : decode code 759 = .ok (.aload_n 0, 1) := by decide +kernel
theorem dl_760 : decode code 760 = .ok (.iload_n 3, 1) := by decide +kernel
theorem dl_761 : decode code 761 = .ok (.iconst 1, 1) := by decide +kernel
theorem dl_762 : decode code 762 = .ok (.iadd, 1) := by decide +kernel
theorem dl_763 : decode code 763 = .ok (.iaload, 1) := by decide +kernel
theorem dl_764 : decode code 764 = .ok (.aload_n 0, 1) := by decide +kernel
theorem dl_765 : decode code 765 = .ok (.iload_n 3, 1) := by decide +kernel
theorem dl_766 : decode code 766 = .ok (.iconst 2, 1) := by decide +kernel
theorem dl_767 : decode code 767 = .ok (.iadd, 1) := by decide +kernel
theorem dl_768 : decode code 768 = .ok (.iaload, 1) := by decide +kernel
theorem dl_769 : decode code 769 = .ok (.aload_n 0, 1) := by decide +kernel
theorem dl_770 : decode code 770 = .ok (.iload_n 3, 1) := by decide +kernel
theorem dl_771 : decode code 771 = .ok (.iconst 3, 1) := by decide +kernel
theorem dl_772 : decode code 772 = .ok (.iadd, 1) := by decide +kernel
theorem dl_773 : decode code 773 = .ok (.iaload, 1) := by decide +kernel
theorem dl_774 : decode code 774 = .ok (.invokevirtual 98, 3) := by decide +kernel
theorem dl_777 : decode code 777 = .ok (.if_icmp .eq 378, 3) := by decide +kernel
theorem dl_780 : decode code 780 = .ok (.iconst 0, 1) := by decide +kernel
theorem dl_781 : decode code 781 = .ok (.ireturn, 1) := by decide +kernel
theorem dl_782 : decode code 782 = .ok (.aload_n 1, 1) := by decide +kernel
theorem dl_783 : decode code 783 = .ok (.aload_n 0, 1) := by decide +kernel
theorem dl_784 : decode code 784 = .ok (.iload_n 3, 1) := by decide +kernel
theorem dl_785 : decode code 785 = .ok (.iconst 1, 1) := by decide +kernel
theorem dl_786 : decode code 786 = .ok (.iadd, 1) := by decide +kernel
theorem dl_787 : decode code 787 = .ok (.iaload, 1) := by decide +kernel
theorem dl_788 : decode code 788 = .ok (.invokevirtual 99, 3) := by decide +kernel
theorem dl_791 : decode code 791 = .ok (.aload_n 2, 1) := by decide +kernel
theorem dl_792 : decode code 792 = .ok (.aload_n 0, 1) := by decide +kernel
theorem dl_793 : decode code 793 = .ok (.iload_n 3, 1) := by decide +kernel
theorem dl_794 : decode code 794 = .ok (.iconst 1, 1) := by decide +kernel
theorem dl_795 : decode code 795 = .ok (.iadd, 1) := by decide +kernel
theorem dl_796 : decode code 796 = .ok (.iaload, 1) := by decide +kernel
theorem dl_797 : decode code 797 = .ok (.invokevirtual 102, 3) := by decide +kernel
theorem dl_800 : decode code 800 = .ok (.if_icmp .eq 355, 3) := by decide +kernel
theorem dl_803 : decode code 803 = .ok (.iconst 0, 1) := by decide +kernel
theorem dl_804 : decode code 804 = .ok (.ireturn, 1) := by decide +kernel
theorem dl_805 : decode code 805 = .ok (.aload_n 1, 1) := by decide +kernel
theorem dl_806 : decode code 806 = .ok (.aload_n 0, 1) := by decide +kernel
theorem dl_807 : decode code 807 = .ok (.iload_n 3, 1) := by decide +kernel
theorem dl_808 : decode code 808 = .ok (.iconst 1, 1) := by decide +kernel
theorem dl_809 : decode code 809 = .ok (.iadd, 1) := by decide +kernel
theorem dl_810 : decode code 810 = .ok (.iaload, 1) := by decide +kernel
theorem dl_811 : decode code 811 = .ok (.aload_n 0, 1) := by decide +kernel
theorem dl_812 : decode code 812 = .ok (.iload_n 3, 1) := by decide +kernel
theorem dl_813 : decode code 813 = .ok (.iconst 2, 1) := by decide +kernel
theorem dl_814 : decode code 814 = .ok (.iadd, 1) := by decide +kernel
theorem dl_815 : decode code 815 = .ok (.iaload, 1) := by decide +kernel
theorem dl_816 : decode code 816 = .ok (.aload_n 0, 1) := by decide +kernel
theorem dl_817 : decode code 817 = .ok (.iload_n 3, 1) := by decide +kernel
theorem dl_818 : decode code 818 = .ok (.iconst 3, 1) := by decide +kernel
theorem dl_819 : decode code 819 = .ok (.iadd, 1) := by decide +kernel
theorem dl_820 : decode code 820 = .ok (.iaload, 1) := by decide +kernel
theorem dl_821 : decode code 821 = .ok (.invokevirtual 103, 3) := by decide +kernel
theorem dl_824 : decode code 824 = .ok (.aload_n 2, 1) := by decide +kernel
theorem dl_825 : decode code 825 = .ok (.aload_n 0, 1) := by decide +kernel
theorem dl_826 : decode code 826 = .ok (.iload_n 3, 1) := by decide +kernel
theorem dl_827 : decode code 827 = .ok (.iconst 1, 1) := by decide +kernel
theorem dl_828 : decode code 828 = .ok (.iadd, 1) := by decide +kernel
theorem dl_829 : decode code 829 = .ok (.iaload, 1) := by decide +kernel
theorem dl_830 : decode code 830 = .ok (.aload_n 0, 1) := by decide +kernel
theorem dl_831 : decode code 831 = .ok (.iload_n 3, 1) := by decide +kernel
theorem dl_832 : decode code 832 = .ok (.iconst 2, 1) := by decide +kernel
theorem dl_833 : decode code 833 = .ok (.iadd, 1) := by decide +kernel
theorem dl_834 : decode code 834 = .ok (.iaload, 1) := by decide +kernel
theorem dl_835 : decode code 835 = .ok (.aload_n 0, 1) := by decide +kernel
theorem dl_836 : decode code 836 = .ok (.iload_n 3, 1) := by decide +kernel
theorem dl_837 : decode code 837 = .ok (.iconst 3, 1) := by decide +kernel
