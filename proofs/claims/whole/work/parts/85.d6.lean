/-! law: decode rows -/
theorem dLW_law_772 : decode cLW_law 772 = .ok (.aload_n 2, 1) := by decide +kernel
theorem dLW_law_773 : decode cLW_law 773 = .ok (.invokevirtual 76, 3) := by decide +kernel
theorem dLW_law_776 : decode cLW_law 776 = .ok (.iload 5, 2) := by decide +kernel
theorem dLW_law_778 : decode cLW_law 778 = .ok (.if_icmp .eq 5, 3) := by decide +kernel
theorem dLW_law_781 : decode cLW_law 781 = .ok (.iconst 0, 1) := by decide +kernel
theorem dLW_law_782 : decode cLW_law 782 = .ok (.ireturn, 1) := by decide +kernel
theorem dLW_law_783 : decode cLW_law 783 = .ok (.iload 5, 2) := by decide +kernel
theorem dLW_law_785 : decode cLW_law 785 = .ok (.ifCond .ne 14, 3) := by decide +kernel
theorem dLW_law_788 : decode cLW_law 788 = .ok (.aload_n 3, 1) := by decide +kernel
theorem dLW_law_789 : decode cLW_law 789 = .ok (.iconst 0, 1) := by decide +kernel
theorem dLW_law_790 : decode cLW_law 790 = .ok (.laload, 1) := by decide +kernel
theorem dLW_law_791 : decode cLW_law 791 = .ok (.lload 6, 2) := by decide +kernel
theorem dLW_law_793 : decode cLW_law 793 = .ok (.lcmp, 1) := by decide +kernel
theorem dLW_law_794 : decode cLW_law 794 = .ok (.ifCond .eq 5, 3) := by decide +kernel
theorem dLW_law_797 : decode cLW_law 797 = .ok (.iconst 0, 1) := by decide +kernel
theorem dLW_law_798 : decode cLW_law 798 = .ok (.ireturn, 1) := by decide +kernel
theorem dLW_law_799 : decode cLW_law 799 = .ok (.goto 543, 3) := by decide +kernel
theorem dLW_law_802 : decode cLW_law 802 = .ok (.aload_n 1, 1) := by decide +kernel
theorem dLW_law_803 : decode cLW_law 803 = .ok (.aload_n 0, 1) := by decide +kernel
theorem dLW_law_804 : decode cLW_law 804 = .ok (.iload 4, 2) := by decide +kernel
theorem dLW_law_806 : decode cLW_law 806 = .ok (.iconst 1, 1) := by decide +kernel
theorem dLW_law_807 : decode cLW_law 807 = .ok (.iadd, 1) := by decide +kernel
theorem dLW_law_808 : decode cLW_law 808 = .ok (.iaload, 1) := by decide +kernel
theorem dLW_law_809 : decode cLW_law 809 = .ok (.aload_n 0, 1) := by decide +kernel
theorem dLW_law_810 : decode cLW_law 810 = .ok (.iload 4, 2) := by decide +kernel
theorem dLW_law_812 : decode cLW_law 812 = .ok (.iconst 2, 1) := by decide +kernel
theorem dLW_law_813 : decode cLW_law 813 = .ok (.iadd, 1) := by decide +kernel
theorem dLW_law_814 : decode cLW_law 814 = .ok (.iaload, 1) := by decide +kernel
theorem dLW_law_815 : decode cLW_law 815 = .ok (.aload_n 3, 1) := by decide +kernel
theorem dLW_law_816 : decode cLW_law 816 = .ok (.invokestatic 102, 3) := by decide +kernel
theorem dLW_law_819 : decode cLW_law 819 = .ok (.istore 5, 2) := by decide +kernel
theorem dLW_law_821 : decode cLW_law 821 = .ok (.aload_n 2, 1) := by decide +kernel
theorem dLW_law_822 : decode cLW_law 822 = .ok (.aload_n 0, 1) := by decide +kernel
theorem dLW_law_823 : decode cLW_law 823 = .ok (.iload 4, 2) := by decide +kernel
theorem dLW_law_825 : decode cLW_law 825 = .ok (.iconst 1, 1) := by decide +kernel
theorem dLW_law_826 : decode cLW_law 826 = .ok (.iadd, 1) := by decide +kernel
theorem dLW_law_827 : decode cLW_law 827 = .ok (.iaload, 1) := by decide +kernel
theorem dLW_law_828 : decode cLW_law 828 = .ok (.aload_n 0, 1) := by decide +kernel
theorem dLW_law_829 : decode cLW_law 829 = .ok (.iload 4, 2) := by decide +kernel
theorem dLW_law_831 : decode cLW_law 831 = .ok (.iconst 2, 1) := by decide +kernel
theorem dLW_law_832 : decode cLW_law 832 = .ok (.iadd, 1) := by decide +kernel
theorem dLW_law_833 : decode cLW_law 833 = .ok (.iaload, 1) := by decide +kernel
theorem dLW_law_834 : decode cLW_law 834 = .ok (.invokevirtual 104, 3) := by decide +kernel
theorem dLW_law_837 : decode cLW_law 837 = .ok (.lstore 6, 2) := by decide +kernel
theorem dLW_law_839 : decode cLW_law 839 = .ok (.aload_n 2, 1) := by decide +kernel
theorem dLW_law_840 : decode cLW_law 840 = .ok (.invokevirtual 76, 3) := by decide +kernel
theorem dLW_law_843 : decode cLW_law 843 = .ok (.iload 5, 2) := by decide +kernel
theorem dLW_law_845 : decode cLW_law 845 = .ok (.if_icmp .eq 5, 3) := by decide +kernel
theorem dLW_law_848 : decode cLW_law 848 = .ok (.iconst 0, 1) := by decide +kernel
theorem dLW_law_849 : decode cLW_law 849 = .ok (.ireturn, 1) := by decide +kernel
theorem dLW_law_850 : decode cLW_law 850 = .ok (.iload 5, 2) := by decide +kernel
theorem dLW_law_852 : decode cLW_law 852 = .ok (.ifCond .ne 14, 3) := by decide +kernel
theorem dLW_law_855 : decode cLW_law 855 = .ok (.aload_n 3, 1) := by decide +kernel
theorem dLW_law_856 : decode cLW_law 856 = .ok (.iconst 0, 1) := by decide +kernel
theorem dLW_law_857 : decode cLW_law 857 = .ok (.laload, 1) := by decide +kernel
theorem dLW_law_858 : decode cLW_law 858 = .ok (.lload 6, 2) := by decide +kernel
theorem dLW_law_860 : decode cLW_law 860 = .ok (.lcmp, 1) := by decide +kernel
theorem dLW_law_861 : decode cLW_law 861 = .ok (.ifCond .eq 5, 3) := by decide +kernel
theorem dLW_law_864 : decode cLW_law 864 = .ok (.iconst 0, 1) := by decide +kernel
theorem dLW_law_865 : decode cLW_law 865 = .ok (.ireturn, 1) := by decide +kernel
theorem dLW_law_866 : decode cLW_law 866 = .ok (.goto 476, 3) := by decide +kernel
theorem dLW_law_869 : decode cLW_law 869 = .ok (.aload_n 1, 1) := by decide +kernel
theorem dLW_law_870 : decode cLW_law 870 = .ok (.invokevirtual 105, 3) := by decide +kernel
theorem dLW_law_873 : decode cLW_law 873 = .ok (.aload_n 2, 1) := by decide +kernel
theorem dLW_law_874 : decode cLW_law 874 = .ok (.invokevirtual 109, 3) := by decide +kernel
theorem dLW_law_877 : decode cLW_law 877 = .ok (.lcmp, 1) := by decide +kernel
theorem dLW_law_878 : decode cLW_law 878 = .ok (.ifCond .eq 464, 3) := by decide +kernel
theorem dLW_law_881 : decode cLW_law 881 = .ok (.iconst 0, 1) := by decide +kernel
theorem dLW_law_882 : decode cLW_law 882 = .ok (.ireturn, 1) := by decide +kernel
theorem dLW_law_883 : decode cLW_law 883 = .ok (.aload_n 1, 1) := by decide +kernel
theorem dLW_law_884 : decode cLW_law 884 = .ok (.aload_n 0, 1) := by decide +kernel
theorem dLW_law_885 : decode cLW_law 885 = .ok (.iload 4, 2) := by decide +kernel
theorem dLW_law_887 : decode cLW_law 887 = .ok (.iconst 1, 1) := by decide +kernel
theorem dLW_law_888 : decode cLW_law 888 = .ok (.iadd, 1) := by decide +kernel
theorem dLW_law_889 : decode cLW_law 889 = .ok (.iaload, 1) := by decide +kernel
theorem dLW_law_890 : decode cLW_law 890 = .ok (.invokestatic 110, 3) := by decide +kernel
theorem dLW_law_893 : decode cLW_law 893 = .ok (.istore 5, 2) := by decide +kernel
theorem dLW_law_895 : decode cLW_law 895 = .ok (.aload_n 2, 1) := by decide +kernel
theorem dLW_law_896 : decode cLW_law 896 = .ok (.aload_n 0, 1) := by decide +kernel
theorem dLW_law_897 : decode cLW_law 897 = .ok (.iload 4, 2) := by decide +kernel
theorem dLW_law_899 : decode cLW_law 899 = .ok (.iconst 1, 1) := by decide +kernel
theorem dLW_law_900 : decode cLW_law 900 = .ok (.iadd, 1) := by decide +kernel
theorem dLW_law_901 : decode cLW_law 901 = .ok (.iaload, 1) := by decide +kernel
theorem dLW_law_902 : decode cLW_law 902 = .ok (.invokevirtual 113, 3) := by decide +kernel
theorem dLW_law_905 : decode cLW_law 905 = .ok (.aload_n 2, 1) := by decide +kernel
theorem dLW_law_906 : decode cLW_law 906 = .ok (.invokevirtual 76, 3) := by decide +kernel
theorem dLW_law_909 : decode cLW_law 909 = .ok (.iload 5, 2) := by decide +kernel
theorem dLW_law_911 : decode cLW_law 911 = .ok (.if_icmp .eq 5, 3) := by decide +kernel
theorem dLW_law_914 : decode cLW_law 914 = .ok (.iconst 0, 1) := by decide +kernel
theorem dLW_law_915 : decode cLW_law 915 = .ok (.ireturn, 1) := by decide +kernel
theorem dLW_law_916 : decode cLW_law 916 = .ok (.goto 426, 3) := by decide +kernel
theorem dLW_law_919 : decode cLW_law 919 = .ok (.aload_n 1, 1) := by decide +kernel
theorem dLW_law_920 : decode cLW_law 920 = .ok (.aload_n 0, 1) := by decide +kernel
theorem dLW_law_921 : decode cLW_law 921 = .ok (.iload 4, 2) := by decide +kernel
theorem dLW_law_923 : decode cLW_law 923 = .ok (.iconst 1, 1) := by decide +kernel
theorem dLW_law_924 : decode cLW_law 924 = .ok (.iadd, 1) := by decide +kernel
