theorem dL_law__2664 : decode cL_law_ 2664 = .ok (.aload_n 1, 1) := by decide +kernel
theorem zw_1018 : Cond.methodLink RL 278 yX11_laws ∈ zT := zT_of 455 (by decide +kernel) (by decide +kernel)
theorem zw_1019 : Cond.instanceMethod yX11_laws ∈ zT := zT_of 456 (by decide +kernel) (by decide +kernel)
theorem zw_1020 : Cond.selects RX11 yX11_laws yX11_laws ∈ zT := zT_of 457 (by decide +kernel) (by decide +kernel)
theorem zw_1021 : Cond.code yX11_laws cX11_laws 1 (some .int) ∈ zT := zT_of 458 (by decide +kernel) (by decide +kernel)
theorem dL_law__2665 : decode cL_law_ 2665 = .ok (.invokevirtual 278, 3) := by decide +kernel
theorem dL_law__2668 : decode cL_law_ 2668 = .ok (.aload_n 2, 1) := by decide +kernel
theorem zw_1022 : Cond.methodLink RL 281 yX12_laws ∈ zT := zT_of 1992 (by decide +kernel) (by decide +kernel)
theorem zw_1023 : Cond.instanceMethod yX12_laws ∈ zT := zT_of 1993 (by decide +kernel) (by decide +kernel)
theorem zw_1024 : Cond.selects RX12 yX12_laws yX12_laws ∈ zT := zT_of 1994 (by decide +kernel) (by decide +kernel)
theorem zw_1025 : Cond.code yX12_laws cX12_laws 1 (some .int) ∈ zT := zT_of 1995 (by decide +kernel) (by decide +kernel)
theorem dL_law__2669 : decode cL_law_ 2669 = .ok (.invokevirtual 281, 3) := by decide +kernel
theorem dL_law__2672 : decode cL_law_ 2672 = .ok (.if_icmp .eq 761, 3) := by decide +kernel
theorem dL_law__2677 : decode cL_law_ 2677 = .ok (.aload_n 1, 1) := by decide +kernel
theorem dL_law__2678 : decode cL_law_ 2678 = .ok (.aload_n 0, 1) := by decide +kernel
theorem dL_law__2679 : decode cL_law_ 2679 = .ok (.iload 4, 2) := by decide +kernel
theorem dL_law__2681 : decode cL_law_ 2681 = .ok (.iconst 1, 1) := by decide +kernel
theorem dL_law__2682 : decode cL_law_ 2682 = .ok (.iadd, 1) := by decide +kernel
theorem dL_law__2683 : decode cL_law_ 2683 = .ok (.iaload, 1) := by decide +kernel
theorem dL_law__2684 : decode cL_law_ 2684 = .ok (.aload_n 0, 1) := by decide +kernel
theorem dL_law__2685 : decode cL_law_ 2685 = .ok (.iload 4, 2) := by decide +kernel
theorem dL_law__2687 : decode cL_law_ 2687 = .ok (.iconst 2, 1) := by decide +kernel
theorem dL_law__2688 : decode cL_law_ 2688 = .ok (.iadd, 1) := by decide +kernel
theorem dL_law__2689 : decode cL_law_ 2689 = .ok (.iaload, 1) := by decide +kernel
theorem dL_law__2690 : decode cL_law_ 2690 = .ok (.aload_n 3, 1) := by decide +kernel
theorem zw_1026 : Cond.methodLink RL 282 yL_lawAt ∈ zT := zT_of 1400 (by decide +kernel) (by decide +kernel)
theorem zw_1027 : Cond.static yL_lawAt ∈ zT := zT_of 1401 (by decide +kernel) (by decide +kernel)
theorem zw_1028 : Cond.codeWith yL_lawAt cL_lawAt 5 (some .int) [(0, 10, 13, 41), (0, 10, 17, 13)] ∈ zT := zT_of 1402 (by decide +kernel) (by decide +kernel)
theorem dL_law__2691 : decode cL_law_ 2691 = .ok (.invokestatic 282, 3) := by decide +kernel
theorem dL_law__2694 : decode cL_law_ 2694 = .ok (.istore 5, 2) := by decide +kernel
theorem dL_law__2696 : decode cL_law_ 2696 = .ok (.aload_n 2, 1) := by decide +kernel
theorem dL_law__2697 : decode cL_law_ 2697 = .ok (.aload_n 0, 1) := by decide +kernel
theorem dL_law__2698 : decode cL_law_ 2698 = .ok (.iload 4, 2) := by decide +kernel
theorem dL_law__2700 : decode cL_law_ 2700 = .ok (.iconst 1, 1) := by decide +kernel
theorem dL_law__2701 : decode cL_law_ 2701 = .ok (.iadd, 1) := by decide +kernel
theorem dL_law__2702 : decode cL_law_ 2702 = .ok (.iaload, 1) := by decide +kernel
theorem dL_law__2703 : decode cL_law_ 2703 = .ok (.aload_n 0, 1) := by decide +kernel
theorem dL_law__2704 : decode cL_law_ 2704 = .ok (.iload 4, 2) := by decide +kernel
theorem dL_law__2706 : decode cL_law_ 2706 = .ok (.iconst 2, 1) := by decide +kernel
theorem dL_law__2707 : decode cL_law_ 2707 = .ok (.iadd, 1) := by decide +kernel
theorem dL_law__2708 : decode cL_law_ 2708 = .ok (.iaload, 1) := by decide +kernel
theorem zw_1029 : Cond.methodLink RL 284 yX12_lawAt ∈ zT := zT_of 1996 (by decide +kernel) (by decide +kernel)
theorem zw_1030 : Cond.instanceMethod yX12_lawAt ∈ zT := zT_of 1997 (by decide +kernel) (by decide +kernel)
theorem zw_1031 : Cond.selects RX12 yX12_lawAt yX12_lawAt ∈ zT := zT_of 1998 (by decide +kernel) (by decide +kernel)
theorem zw_1032 : Cond.code yX12_lawAt cX12_lawAt 5 (some .int) ∈ zT := zT_of 1999 (by decide +kernel) (by decide +kernel)
theorem dL_law__2709 : decode cL_law_ 2709 = .ok (.invokevirtual 284, 3) := by decide +kernel
theorem dL_law__2712 : decode cL_law_ 2712 = .ok (.istore 6, 2) := by decide +kernel
theorem dL_law__2714 : decode cL_law_ 2714 = .ok (.aload_n 2, 1) := by decide +kernel
theorem dL_law__2715 : decode cL_law_ 2715 = .ok (.invokevirtual 161, 3) := by decide +kernel
theorem dL_law__2718 : decode cL_law_ 2718 = .ok (.iload 5, 2) := by decide +kernel
theorem dL_law__2720 : decode cL_law_ 2720 = .ok (.if_icmp .eq 5, 3) := by decide +kernel
theorem dL_law__2725 : decode cL_law_ 2725 = .ok (.iload 5, 2) := by decide +kernel
theorem dL_law__2727 : decode cL_law_ 2727 = .ok (.ifCond .ne 15, 3) := by decide +kernel
theorem dL_law__2742 : decode cL_law_ 2742 = .ok (.goto 691, 3) := by decide +kernel
theorem dL_law__2730 : decode cL_law_ 2730 = .ok (.aload_n 3, 1) := by decide +kernel
theorem dL_law__2731 : decode cL_law_ 2731 = .ok (.iconst 0, 1) := by decide +kernel
theorem dL_law__2732 : decode cL_law_ 2732 = .ok (.laload, 1) := by decide +kernel
theorem dL_law__2733 : decode cL_law_ 2733 = .ok (.iload 6, 2) := by decide +kernel
theorem dL_law__2735 : decode cL_law_ 2735 = .ok (.i2l, 1) := by decide +kernel
theorem dL_law__2736 : decode cL_law_ 2736 = .ok (.lcmp, 1) := by decide +kernel
theorem dL_law__2737 : decode cL_law_ 2737 = .ok (.ifCond .eq 5, 3) := by decide +kernel
theorem dL_law__2745 : decode cL_law_ 2745 = .ok (.aload_n 1, 1) := by decide +kernel
theorem dL_law__2746 : decode cL_law_ 2746 = .ok (.aload_n 0, 1) := by decide +kernel
theorem dL_law__2747 : decode cL_law_ 2747 = .ok (.iload 4, 2) := by decide +kernel
theorem dL_law__2749 : decode cL_law_ 2749 = .ok (.iconst 1, 1) := by decide +kernel
theorem dL_law__2750 : decode cL_law_ 2750 = .ok (.iadd, 1) := by decide +kernel
theorem dL_law__2751 : decode cL_law_ 2751 = .ok (.iaload, 1) := by decide +kernel
theorem dL_law__2752 : decode cL_law_ 2752 = .ok (.aload_n 0, 1) := by decide +kernel
theorem dL_law__2753 : decode cL_law_ 2753 = .ok (.iload 4, 2) := by decide +kernel
theorem dL_law__2755 : decode cL_law_ 2755 = .ok (.iconst 2, 1) := by decide +kernel
theorem dL_law__2756 : decode cL_law_ 2756 = .ok (.iadd, 1) := by decide +kernel
theorem dL_law__2757 : decode cL_law_ 2757 = .ok (.iaload, 1) := by decide +kernel
theorem dL_law__2758 : decode cL_law_ 2758 = .ok (.aload_n 3, 1) := by decide +kernel
theorem zw_1033 : Cond.methodLink RL 285 yL_rests ∈ zT := zT_of 1413 (by decide +kernel) (by decide +kernel)
theorem zw_1034 : Cond.static yL_rests ∈ zT := zT_of 1414 (by decide +kernel) (by decide +kernel)
theorem zw_1035 : Cond.codeWith yL_rests cL_rests 5 (some .int) [(0, 17, 20, 41)] ∈ zT := zT_of 1415 (by decide +kernel) (by decide +kernel)
theorem dL_law__2759 : decode cL_law_ 2759 = .ok (.invokestatic 285, 3) := by decide +kernel
theorem dL_law__2762 : decode cL_law_ 2762 = .ok (.istore 5, 2) := by decide +kernel
theorem dL_law__2764 : decode cL_law_ 2764 = .ok (.aload_n 2, 1) := by decide +kernel
theorem dL_law__2765 : decode cL_law_ 2765 = .ok (.aload_n 0, 1) := by decide +kernel
theorem dL_law__2766 : decode cL_law_ 2766 = .ok (.iload 4, 2) := by decide +kernel
theorem dL_law__2768 : decode cL_law_ 2768 = .ok (.iconst 1, 1) := by decide +kernel
theorem dL_law__2769 : decode cL_law_ 2769 = .ok (.iadd, 1) := by decide +kernel
theorem dL_law__2770 : decode cL_law_ 2770 = .ok (.iaload, 1) := by decide +kernel
theorem dL_law__2771 : decode cL_law_ 2771 = .ok (.aload_n 0, 1) := by decide +kernel
theorem dL_law__2772 : decode cL_law_ 2772 = .ok (.iload 4, 2) := by decide +kernel
theorem dL_law__2774 : decode cL_law_ 2774 = .ok (.iconst 2, 1) := by decide +kernel
theorem dL_law__2775 : decode cL_law_ 2775 = .ok (.iadd, 1) := by decide +kernel
theorem dL_law__2776 : decode cL_law_ 2776 = .ok (.iaload, 1) := by decide +kernel
theorem zw_1036 : Cond.methodLink RL 287 yX12_rests ∈ zT := zT_of 2004 (by decide +kernel) (by decide +kernel)
theorem zw_1037 : Cond.instanceMethod yX12_rests ∈ zT := zT_of 2005 (by decide +kernel) (by decide +kernel)
theorem zw_1038 : Cond.selects RX12 yX12_rests yX12_rests ∈ zT := zT_of 2006 (by decide +kernel) (by decide +kernel)
theorem zw_1039 : Cond.code yX12_rests cX12_rests 3 (some .boolean) ∈ zT := zT_of 2007 (by decide +kernel) (by decide +kernel)
theorem dL_law__2777 : decode cL_law_ 2777 = .ok (.invokevirtual 287, 3) := by decide +kernel
theorem dL_law__2780 : decode cL_law_ 2780 = .ok (.istore 6, 2) := by decide +kernel
theorem dL_law__2782 : decode cL_law_ 2782 = .ok (.aload_n 2, 1) := by decide +kernel
theorem dL_law__2783 : decode cL_law_ 2783 = .ok (.invokevirtual 161, 3) := by decide +kernel
theorem dL_law__2786 : decode cL_law_ 2786 = .ok (.iload 5, 2) := by decide +kernel
theorem dL_law__2788 : decode cL_law_ 2788 = .ok (.if_icmp .eq 5, 3) := by decide +kernel
theorem dL_law__2793 : decode cL_law_ 2793 = .ok (.iload 5, 2) := by decide +kernel
theorem dL_law__2795 : decode cL_law_ 2795 = .ok (.ifCond .ne 22, 3) := by decide +kernel
theorem dL_law__2817 : decode cL_law_ 2817 = .ok (.goto 616, 3) := by decide +kernel
theorem dL_law__2798 : decode cL_law_ 2798 = .ok (.aload_n 3, 1) := by decide +kernel
theorem dL_law__2799 : decode cL_law_ 2799 = .ok (.iconst 0, 1) := by decide +kernel
theorem dL_law__2800 : decode cL_law_ 2800 = .ok (.laload, 1) := by decide +kernel
theorem dL_law__2801 : decode cL_law_ 2801 = .ok (.iload 6, 2) := by decide +kernel
theorem dL_law__2803 : decode cL_law_ 2803 = .ok (.ifCond .eq 7, 3) := by decide +kernel
theorem dL_law__2810 : decode cL_law_ 2810 = .ok (.lconst 0, 1) := by decide +kernel
theorem dL_law__2811 : decode cL_law_ 2811 = .ok (.lcmp, 1) := by decide +kernel
theorem dL_law__2812 : decode cL_law_ 2812 = .ok (.ifCond .eq 5, 3) := by decide +kernel
theorem dL_law__2806 : decode cL_law_ 2806 = .ok (.lconst 1, 1) := by decide +kernel
theorem dL_law__2807 : decode cL_law_ 2807 = .ok (.goto 4, 3) := by decide +kernel
theorem dL_law__2820 : decode cL_law_ 2820 = .ok (.aload_n 1, 1) := by decide +kernel
theorem zw_1040 : Cond.methodLink RL 288 yX11_open ∈ zT := zT_of 459 (by decide +kernel) (by decide +kernel)
theorem zw_1041 : Cond.instanceMethod yX11_open ∈ zT := zT_of 460 (by decide +kernel) (by decide +kernel)
theorem zw_1042 : Cond.selects RX11 yX11_open yX11_open ∈ zT := zT_of 461 (by decide +kernel) (by decide +kernel)
theorem zw_1043 : Cond.code yX11_open cX11_open 1 (some .int) ∈ zT := zT_of 462 (by decide +kernel) (by decide +kernel)
theorem dL_law__2821 : decode cL_law_ 2821 = .ok (.invokevirtual 288, 3) := by decide +kernel
theorem dL_law__2824 : decode cL_law_ 2824 = .ok (.aload_n 2, 1) := by decide +kernel
theorem zw_1044 : Cond.methodLink RL 291 yX12_open ∈ zT := zT_of 2008 (by decide +kernel) (by decide +kernel)
theorem zw_1045 : Cond.instanceMethod yX12_open ∈ zT := zT_of 2009 (by decide +kernel) (by decide +kernel)
theorem zw_1046 : Cond.selects RX12 yX12_open yX12_open ∈ zT := zT_of 2010 (by decide +kernel) (by decide +kernel)
theorem zw_1047 : Cond.code yX12_open cX12_open 1 (some .int) ∈ zT := zT_of 2011 (by decide +kernel) (by decide +kernel)
theorem dL_law__2825 : decode cL_law_ 2825 = .ok (.invokevirtual 291, 3) := by decide +kernel
theorem dL_law__2828 : decode cL_law_ 2828 = .ok (.if_icmp .eq 605, 3) := by decide +kernel
theorem dL_law__2833 : decode cL_law_ 2833 = .ok (.aload_n 1, 1) := by decide +kernel
theorem dL_law__2834 : decode cL_law_ 2834 = .ok (.aload_n 0, 1) := by decide +kernel
theorem dL_law__2835 : decode cL_law_ 2835 = .ok (.iload 4, 2) := by decide +kernel
theorem dL_law__2837 : decode cL_law_ 2837 = .ok (.iconst 1, 1) := by decide +kernel
theorem dL_law__2838 : decode cL_law_ 2838 = .ok (.iadd, 1) := by decide +kernel
theorem dL_law__2839 : decode cL_law_ 2839 = .ok (.iaload, 1) := by decide +kernel
theorem dL_law__2840 : decode cL_law_ 2840 = .ok (.aload_n 3, 1) := by decide +kernel
theorem zw_1048 : Cond.methodLink RL 292 yL_lines ∈ zT := zT_of 1420 (by decide +kernel) (by decide +kernel)
theorem zw_1049 : Cond.static yL_lines ∈ zT := zT_of 1421 (by decide +kernel) (by decide +kernel)
theorem zw_1050 : Cond.codeWith yL_lines cL_lines 4 (some .int) [(0, 9, 12, 21)] ∈ zT := zT_of 1422 (by decide +kernel) (by decide +kernel)
theorem dL_law__2841 : decode cL_law_ 2841 = .ok (.invokestatic 292, 3) := by decide +kernel
theorem dL_law__2844 : decode cL_law_ 2844 = .ok (.istore 5, 2) := by decide +kernel
theorem dL_law__2846 : decode cL_law_ 2846 = .ok (.aload_n 2, 1) := by decide +kernel
theorem dL_law__2847 : decode cL_law_ 2847 = .ok (.aload_n 0, 1) := by decide +kernel
theorem dL_law__2848 : decode cL_law_ 2848 = .ok (.iload 4, 2) := by decide +kernel
theorem dL_law__2850 : decode cL_law_ 2850 = .ok (.iconst 1, 1) := by decide +kernel
theorem dL_law__2851 : decode cL_law_ 2851 = .ok (.iadd, 1) := by decide +kernel
theorem dL_law__2852 : decode cL_law_ 2852 = .ok (.iaload, 1) := by decide +kernel
theorem zw_1051 : Cond.methodLink RL 294 yX12_lines ∈ zT := zT_of 2012 (by decide +kernel) (by decide +kernel)
theorem zw_1052 : Cond.instanceMethod yX12_lines ∈ zT := zT_of 2013 (by decide +kernel) (by decide +kernel)
theorem zw_1053 : Cond.selects RX12 yX12_lines yX12_lines ∈ zT := zT_of 2014 (by decide +kernel) (by decide +kernel)
theorem zw_1054 : Cond.code yX12_lines cX12_lines 2 (some .int) ∈ zT := zT_of 2015 (by decide +kernel) (by decide +kernel)
theorem dL_law__2853 : decode cL_law_ 2853 = .ok (.invokevirtual 294, 3) := by decide +kernel
theorem dL_law__2856 : decode cL_law_ 2856 = .ok (.istore 6, 2) := by decide +kernel
theorem dL_law__2858 : decode cL_law_ 2858 = .ok (.aload_n 2, 1) := by decide +kernel
theorem dL_law__2859 : decode cL_law_ 2859 = .ok (.invokevirtual 161, 3) := by decide +kernel
theorem dL_law__2862 : decode cL_law_ 2862 = .ok (.iload 5, 2) := by decide +kernel
theorem dL_law__2864 : decode cL_law_ 2864 = .ok (.if_icmp .eq 5, 3) := by decide +kernel
theorem dL_law__2869 : decode cL_law_ 2869 = .ok (.iload 5, 2) := by decide +kernel
theorem dL_law__2871 : decode cL_law_ 2871 = .ok (.ifCond .ne 15, 3) := by decide +kernel
theorem dL_law__2886 : decode cL_law_ 2886 = .ok (.goto 547, 3) := by decide +kernel
theorem dL_law__2874 : decode cL_law_ 2874 = .ok (.aload_n 3, 1) := by decide +kernel
theorem dL_law__2875 : decode cL_law_ 2875 = .ok (.iconst 0, 1) := by decide +kernel
theorem dL_law__2876 : decode cL_law_ 2876 = .ok (.laload, 1) := by decide +kernel
theorem dL_law__2877 : decode cL_law_ 2877 = .ok (.iload 6, 2) := by decide +kernel
theorem dL_law__2879 : decode cL_law_ 2879 = .ok (.i2l, 1) := by decide +kernel
theorem dL_law__2880 : decode cL_law_ 2880 = .ok (.lcmp, 1) := by decide +kernel
theorem dL_law__2881 : decode cL_law_ 2881 = .ok (.ifCond .eq 5, 3) := by decide +kernel
theorem dL_law__2889 : decode cL_law_ 2889 = .ok (.aload_n 1, 1) := by decide +kernel
theorem dL_law__2890 : decode cL_law_ 2890 = .ok (.aload_n 0, 1) := by decide +kernel
theorem dL_law__2891 : decode cL_law_ 2891 = .ok (.iload 4, 2) := by decide +kernel
theorem dL_law__2893 : decode cL_law_ 2893 = .ok (.iconst 1, 1) := by decide +kernel
theorem dL_law__2894 : decode cL_law_ 2894 = .ok (.iadd, 1) := by decide +kernel
theorem dL_law__2895 : decode cL_law_ 2895 = .ok (.iaload, 1) := by decide +kernel
theorem dL_law__2896 : decode cL_law_ 2896 = .ok (.aload_n 3, 1) := by decide +kernel
theorem zw_1055 : Cond.methodLink RL 295 yL_wrong ∈ zT := zT_of 1427 (by decide +kernel) (by decide +kernel)
theorem zw_1056 : Cond.static yL_wrong ∈ zT := zT_of 1428 (by decide +kernel) (by decide +kernel)
theorem zw_1057 : Cond.codeWith yL_wrong cL_wrong 4 (some .int) [(0, 9, 12, 21)] ∈ zT := zT_of 1429 (by decide +kernel) (by decide +kernel)
theorem dL_law__2897 : decode cL_law_ 2897 = .ok (.invokestatic 295, 3) := by decide +kernel
theorem dL_law__2900 : decode cL_law_ 2900 = .ok (.istore 5, 2) := by decide +kernel
theorem dL_law__2902 : decode cL_law_ 2902 = .ok (.aload_n 2, 1) := by decide +kernel
theorem dL_law__2903 : decode cL_law_ 2903 = .ok (.aload_n 0, 1) := by decide +kernel
theorem dL_law__2904 : decode cL_law_ 2904 = .ok (.iload 4, 2) := by decide +kernel
theorem dL_law__2906 : decode cL_law_ 2906 = .ok (.iconst 1, 1) := by decide +kernel
theorem dL_law__2907 : decode cL_law_ 2907 = .ok (.iadd, 1) := by decide +kernel
theorem dL_law__2908 : decode cL_law_ 2908 = .ok (.iaload, 1) := by decide +kernel
theorem zw_1058 : Cond.methodLink RL 297 yX12_wrong ∈ zT := zT_of 2016 (by decide +kernel) (by decide +kernel)
theorem zw_1059 : Cond.instanceMethod yX12_wrong ∈ zT := zT_of 2017 (by decide +kernel) (by decide +kernel)
theorem zw_1060 : Cond.selects RX12 yX12_wrong yX12_wrong ∈ zT := zT_of 2018 (by decide +kernel) (by decide +kernel)
theorem zw_1061 : Cond.code yX12_wrong cX12_wrong 2 (some .int) ∈ zT := zT_of 2019 (by decide +kernel) (by decide +kernel)
theorem dL_law__2909 : decode cL_law_ 2909 = .ok (.invokevirtual 297, 3) := by decide +kernel
theorem dL_law__2912 : decode cL_law_ 2912 = .ok (.istore 6, 2) := by decide +kernel
theorem dL_law__2914 : decode cL_law_ 2914 = .ok (.aload_n 2, 1) := by decide +kernel
theorem dL_law__2915 : decode cL_law_ 2915 = .ok (.invokevirtual 161, 3) := by decide +kernel
theorem dL_law__2918 : decode cL_law_ 2918 = .ok (.iload 5, 2) := by decide +kernel
theorem dL_law__2920 : decode cL_law_ 2920 = .ok (.if_icmp .eq 5, 3) := by decide +kernel
theorem dL_law__2925 : decode cL_law_ 2925 = .ok (.iload 5, 2) := by decide +kernel
theorem dL_law__2927 : decode cL_law_ 2927 = .ok (.ifCond .ne 15, 3) := by decide +kernel
theorem dL_law__2942 : decode cL_law_ 2942 = .ok (.goto 491, 3) := by decide +kernel
theorem dL_law__2930 : decode cL_law_ 2930 = .ok (.aload_n 3, 1) := by decide +kernel
theorem dL_law__2931 : decode cL_law_ 2931 = .ok (.iconst 0, 1) := by decide +kernel
theorem dL_law__2932 : decode cL_law_ 2932 = .ok (.laload, 1) := by decide +kernel
theorem dL_law__2933 : decode cL_law_ 2933 = .ok (.iload 6, 2) := by decide +kernel
theorem dL_law__2935 : decode cL_law_ 2935 = .ok (.i2l, 1) := by decide +kernel
theorem dL_law__2936 : decode cL_law_ 2936 = .ok (.lcmp, 1) := by decide +kernel
theorem dL_law__2937 : decode cL_law_ 2937 = .ok (.ifCond .eq 5, 3) := by decide +kernel
theorem dL_law__2945 : decode cL_law_ 2945 = .ok (.aload_n 1, 1) := by decide +kernel
theorem dL_law__2946 : decode cL_law_ 2946 = .ok (.aload_n 0, 1) := by decide +kernel
theorem dL_law__2947 : decode cL_law_ 2947 = .ok (.iload 4, 2) := by decide +kernel
theorem dL_law__2949 : decode cL_law_ 2949 = .ok (.iconst 1, 1) := by decide +kernel
theorem dL_law__2950 : decode cL_law_ 2950 = .ok (.iadd, 1) := by decide +kernel
theorem dL_law__2951 : decode cL_law_ 2951 = .ok (.iaload, 1) := by decide +kernel
theorem dL_law__2952 : decode cL_law_ 2952 = .ok (.aload_n 3, 1) := by decide +kernel
theorem zw_1062 : Cond.methodLink RL 298 yL_relation ∈ zT := zT_of 1434 (by decide +kernel) (by decide +kernel)
theorem zw_1063 : Cond.static yL_relation ∈ zT := zT_of 1435 (by decide +kernel) (by decide +kernel)
theorem zw_1064 : Cond.codeWith yL_relation cL_relation 4 (some .int) [(0, 9, 12, 21)] ∈ zT := zT_of 1436 (by decide +kernel) (by decide +kernel)
theorem dL_law__2953 : decode cL_law_ 2953 = .ok (.invokestatic 298, 3) := by decide +kernel
theorem dL_law__2956 : decode cL_law_ 2956 = .ok (.istore 5, 2) := by decide +kernel
theorem dL_law__2958 : decode cL_law_ 2958 = .ok (.aload_n 2, 1) := by decide +kernel
theorem dL_law__2959 : decode cL_law_ 2959 = .ok (.aload_n 0, 1) := by decide +kernel
theorem dL_law__2960 : decode cL_law_ 2960 = .ok (.iload 4, 2) := by decide +kernel
theorem dL_law__2962 : decode cL_law_ 2962 = .ok (.iconst 1, 1) := by decide +kernel
theorem dL_law__2963 : decode cL_law_ 2963 = .ok (.iadd, 1) := by decide +kernel
theorem dL_law__2964 : decode cL_law_ 2964 = .ok (.iaload, 1) := by decide +kernel
theorem zw_1065 : Cond.methodLink RL 300 yX12_relation ∈ zT := zT_of 2020 (by decide +kernel) (by decide +kernel)
theorem zw_1066 : Cond.instanceMethod yX12_relation ∈ zT := zT_of 2021 (by decide +kernel) (by decide +kernel)
theorem zw_1067 : Cond.selects RX12 yX12_relation yX12_relation ∈ zT := zT_of 2022 (by decide +kernel) (by decide +kernel)
theorem zw_1068 : Cond.code yX12_relation cX12_relation 2 (some .int) ∈ zT := zT_of 2023 (by decide +kernel) (by decide +kernel)
theorem dL_law__2965 : decode cL_law_ 2965 = .ok (.invokevirtual 300, 3) := by decide +kernel
theorem dL_law__2968 : decode cL_law_ 2968 = .ok (.istore 6, 2) := by decide +kernel
theorem dL_law__2970 : decode cL_law_ 2970 = .ok (.aload_n 2, 1) := by decide +kernel
theorem dL_law__2971 : decode cL_law_ 2971 = .ok (.invokevirtual 161, 3) := by decide +kernel
theorem dL_law__2974 : decode cL_law_ 2974 = .ok (.iload 5, 2) := by decide +kernel
theorem dL_law__2976 : decode cL_law_ 2976 = .ok (.if_icmp .eq 5, 3) := by decide +kernel
theorem dL_law__2981 : decode cL_law_ 2981 = .ok (.iload 5, 2) := by decide +kernel
theorem dL_law__2983 : decode cL_law_ 2983 = .ok (.ifCond .ne 15, 3) := by decide +kernel
theorem dL_law__2998 : decode cL_law_ 2998 = .ok (.goto 435, 3) := by decide +kernel
theorem dL_law__2986 : decode cL_law_ 2986 = .ok (.aload_n 3, 1) := by decide +kernel
theorem dL_law__2987 : decode cL_law_ 2987 = .ok (.iconst 0, 1) := by decide +kernel
theorem dL_law__2988 : decode cL_law_ 2988 = .ok (.laload, 1) := by decide +kernel
theorem dL_law__2989 : decode cL_law_ 2989 = .ok (.iload 6, 2) := by decide +kernel
theorem dL_law__2991 : decode cL_law_ 2991 = .ok (.i2l, 1) := by decide +kernel
theorem dL_law__2992 : decode cL_law_ 2992 = .ok (.lcmp, 1) := by decide +kernel
theorem dL_law__2993 : decode cL_law_ 2993 = .ok (.ifCond .eq 5, 3) := by decide +kernel
set_option maxHeartbeats 4000000 in
set_option maxRecDepth 100000 in
theorem zcase_laws {p : Program} {l : Launch} {e : Env} {s : State} {m : MethodId} {below : List Frame} {meth : Method} {c : Code} {b L : Nat} {xs : Nat → Int32} {A : Nat → Prop} (D : va_G) (h cs : Nat → Nat) (a : Nat → Nat) (cI : ClassId) (o : Nat) (hx : p.tables.exec = Jvm.exec) (hb : c.code = code) (hml : c.maxLocals = 9) (hr : meth.sig.returnType = ret) (hown : s.vm.findClass RL = some m.cls) (ht : ∀ w ∈ zT, w.before #[Value.ref b] s = true) (hlocks : meth.locks = false) (hX : va_X b L xs s s.heap) (hbl : b < s.heap.size) (hL : L = 6) (hAe : ∀ q : Nat, A q ↔ s.heap.size ≤ q) (hl0 : l.stackTraces = false) (hEx : zEx A s) (hNc : zNc s) {H : Heap} {locs : List Loc} {ls : Array Slot} (hK : va_K D vwCl [(cI, .int)] s) (hP : va_P D vwCl [((h 0), .inr (11, [.ref (h 1), .ref (h 9), .int 0, .int 0, .ref (h 20), .ref (h 37), .int 0, .ref (h 38), .ref (h 42), .ref (h 43), .ref (h 44), .ref (h 45), .ref (h 46), .ref (h 47), .ref (h 48)])), ((h 1), .inr (8, [.ref (h 2), .int 0, .ref (h 3), .ref (h 4), .int 0, .ref (h 5), .int 0, .ref (h 6), .int 0, .ref (h 7), .int 0])), ((a 0), .inr (12, zMo a zI0)), ((a 1), .inl (cI, 6792, .inl zI0))] H) (hD : va_D A [((h 0), .inr (11, [.ref (h 1), .ref (h 9), .int 0, .int 0, .ref (h 20), .ref (h 37), .int 0, .ref (h 38), .ref (h 42), .ref (h 43), .ref (h 44), .ref (h 45), .ref (h 46), .ref (h 47), .ref (h 48)])), ((h 1), .inr (8, [.ref (h 2), .int 0, .ref (h 3), .ref (h 4), .int 0, .ref (h 5), .int 0, .ref (h 6), .int 0, .ref (h 7), .int 0])), ((a 0), .inr (12, zMo a zI0)), ((a 1), .inl (cI, 6792, .inl zI0))]) (hS : va_S A s.heap H locs) (hl : lv_has ls 9 [(0, .ref b), (1, .ref (h 0)), (2, .ref (a 0)), (3, .ref o), (4, .int 0)]) : W p l e room_1 s m #[Value.ref b] below meth c H locs 1192 188302 (lw_Z below #[Value.ref b] s) (F0 m 2664 ls []) := by
  have hbA : ¬ A b := fun h => Nat.not_le.mpr hbl ((hAe b).mp h)
  have hA : ∀ q : Nat, s.heap.size ≤ q → A q := fun q h => (hAe q).mpr h
  refine lv_aload_n hx hb dL_law__2664 rfl (lv_at hl 1 rfl) ?_
  have hPc := hP.sub (ws' := [((h 0), .inr (11, [.ref (h 1), .ref (h 9), .int 0, .int 0, .ref (h 20), .ref (h 37), .int 0, .ref (h 38), .ref (h 42), .ref (h 43), .ref (h 44), .ref (h 45), .ref (h 46), .ref (h 47), .ref (h 48)])), ((h 1), .inr (8, [.ref (h 2), .int 0, .ref (h 3), .ref (h 4), .int 0, .ref (h 5), .int 0, .ref (h 6), .int 0, .ref (h 7), .int 0]))]) [0, 1] rfl
  have hDc := hD.sub (ws' := [((h 0), .inr (11, [.ref (h 1), .ref (h 9), .int 0, .int 0, .ref (h 20), .ref (h 37), .int 0, .ref (h 38), .ref (h 42), .ref (h 43), .ref (h 44), .ref (h 45), .ref (h 46), .ref (h 47), .ref (h 48)])), ((h 1), .inr (8, [.ref (h 2), .int 0, .ref (h 3), .ref (h 4), .int 0, .ref (h 5), .int 0, .ref (h 6), .int 0, .ref (h 7), .int 0]))]) [0, 1] (by decide) rfl
  have hKc := hK.sub (tys' := []) [] rfl
  have hFc := va_free (wc := [((h 0), .inr (11, [.ref (h 1), .ref (h 9), .int 0, .int 0, .ref (h 20), .ref (h 37), .int 0, .ref (h 38), .ref (h 42), .ref (h 43), .ref (h 44), .ref (h 45), .ref (h 46), .ref (h 47), .ref (h 48)])), ((h 1), .inr (8, [.ref (h 2), .int 0, .ref (h 3), .ref (h 4), .int 0, .ref (h 5), .int 0, .ref (h 6), .int 0, .ref (h 7), .int 0]))]) hD hS hA [0, 1] rfl
  refine va_calli (va_runV (As := []) (rest := []) ⟨hx, hb, hml, hown, ht⟩ (k_X11_laws l _ D h cs) (cwV 0 ht (zG_V zw_1018 zw_1019 zw_1020 zw_404 zw_1021) rfl rfl rfl (by decide +kernel) ⟨Nat.le_of_ble_eq_true rfl, Nat.le_of_ble_eq_true rfl⟩) (zM_V (va_recv hK hP (ci := 11) (q0 := 0) rfl rfl) hPc hKc hDc) rfl rfl hl.1 rfl (lv_room (Nat.le_of_ble_eq_true rfl)) dL_law__2665 ⟨Nat.le_of_ble_eq_true rfl, Nat.le_of_ble_eq_true rfl⟩) hS (fun q _ h => hFc q h) hFc (fun r_1 u_1 t H1 locs ht0 hvm hw_1 hB hz1 hk1 hS => ?_)
  obtain ⟨hP1, hK1, hD1⟩ := hB
  rw [ht0] at hP1
  have hK1 := va_K.moved hvm.symm hK1
  obtain ⟨hP, hD⟩ := va_join (wr := [((a 0), .inr (12, zMo a zI0)), ((a 1), .inl (cI, 6792, .inl zI0))]) (w1 := []) hP hD [0, 1] [2, 3] rfl rfl (by decide) (by decide) hk1 hFc hP1 hD1
  generalize H1 = H at hP hS ⊢
  have hP : va_P D vwCl [((a 0), .inr (12, zMo a zI0)), ((a 1), .inl (cI, 6792, .inl zI0))] H := hP
  have hD : va_D A [((a 0), .inr (12, zMo a zI0)), ((a 1), .inl (cI, 6792, .inl zI0))] := hD
  obtain rfl : r_1 = 0 := hw_1
  refine lv_aload_n hx hb dL_law__2668 rfl (lv_at hl 2 rfl) ?_
  have hPc := hP.sub (ws' := [((a 0), .inr (12, zMo a zI0)), ((a 1), .inl (cI, 6792, .inl zI0))]) [0, 1] rfl
  have hDc := hD.sub (ws' := [((a 0), .inr (12, zMo a zI0)), ((a 1), .inl (cI, 6792, .inl zI0))]) [0, 1] (by decide) rfl
  have hKc := hK.sub (tys' := [(cI, .int)]) [0] rfl
  have hFc := va_free (wc := [((a 0), .inr (12, zMo a zI0)), ((a 1), .inl (cI, 6792, .inl zI0))]) hD hS hA [0, 1] rfl
  refine va_calli (va_runV (As := []) (rest := [.int 0]) ⟨hx, hb, hml, hown, ht⟩ (k_X12_laws l _ D a cI) (cwV 0 ht (zG_V zw_1022 zw_1023 zw_1024 zw_2 zw_1025) rfl rfl rfl (by decide +kernel) ⟨Nat.le_of_ble_eq_true rfl, Nat.le_of_ble_eq_true rfl⟩) (zM_V (va_recv hK hP (ci := 12) (q0 := 0) rfl rfl) hPc hKc hDc) rfl rfl hl.1 rfl (lv_room (Nat.le_of_ble_eq_true rfl)) dL_law__2669 ⟨Nat.le_of_ble_eq_true rfl, Nat.le_of_ble_eq_true rfl⟩) hS (fun q _ h => hFc q h) hFc (fun r_2 u_2 t H1 locs ht0 hvm hw_2 hB hz1 hk1 hS => ?_)
  obtain ⟨hP1, hK1, hD1⟩ := hB
  rw [ht0] at hP1
  have hK1 := va_K.moved hvm.symm hK1
  obtain ⟨hP, hD⟩ := va_join (wr := []) (w1 := []) hP hD [0, 1] [] rfl rfl (by decide) (by decide) hk1 hFc hP1 hD1
  generalize H1 = H at hP hS ⊢
  have hP : va_P D vwCl [] H := hP
  have hD : va_D A [] := hD
  obtain rfl : r_2 = 0 := hw_2
  refine lv_icmp_eq (tgt := 3433) hx hb dL_law__2672 (by decide) (fun c_3 => ?_) (fun c_3 => ?_)
  · skip
    refine W.widen (k := 2000) (n := 400000) (Nat.le_of_ble_eq_true rfl) (Nat.le_of_ble_eq_true rfl) ?_
    exact zlaw_end hx hb hml hr hown ht hlocks hX hbl hL hAe hS (lv_sub hl [0, 4] rfl)
  · skip
    exact absurd c_3 (by decide)
set_option maxHeartbeats 4000000 in
set_option maxRecDepth 100000 in
theorem zcase_lawAt {p : Program} {l : Launch} {e : Env} {s : State} {m : MethodId} {below : List Frame} {meth : Method} {c : Code} {b L : Nat} {xs : Nat → Int32} {A : Nat → Prop} (D : va_G) (h cs : Nat → Nat) (o : Nat) (cL : ClassId) (a : Nat → Nat) (cI : ClassId) (hx : p.tables.exec = Jvm.exec) (hb : c.code = code) (hml : c.maxLocals = 9) (hr : meth.sig.returnType = ret) (hown : s.vm.findClass RL = some m.cls) (ht : ∀ w ∈ zT, w.before #[Value.ref b] s = true) (hlocks : meth.locks = false) (hX : va_X b L xs s s.heap) (hbl : b < s.heap.size) (hL : L = 6) (hAe : ∀ q : Nat, A q ↔ s.heap.size ≤ q) (hl0 : l.stackTraces = false) (hEx : zEx A s) (hNc : zNc s) {H : Heap} {locs : List Loc} {ls : Array Slot} (hK : va_K D vwCl [((cs 4), .object RX4), (cL, .long), (cI, .int)] s) (hP : va_P D vwCl [((h 0), .inr (11, [.ref (h 1), .ref (h 9), .int 0, .int 0, .ref (h 20), .ref (h 37), .int 0, .ref (h 38), .ref (h 42), .ref (h 43), .ref (h 44), .ref (h 45), .ref (h 46), .ref (h 47), .ref (h 48)])), ((h 1), .inr (8, [.ref (h 2), .int 0, .ref (h 3), .ref (h 4), .int 0, .ref (h 5), .int 0, .ref (h 6), .int 0, .ref (h 7), .int 0])), ((h 4), .inl ((cs 4), 100, .inr (.inr (.inr (.inr (fun _ => none)))))), (o, .inl (cL, 1, .inr (.inl (fun _ => 0)))), ((a 0), .inr (12, zMo a zI0)), ((a 1), .inl (cI, 6792, .inl zI0))] H) (hD : va_D A [((h 0), .inr (11, [.ref (h 1), .ref (h 9), .int 0, .int 0, .ref (h 20), .ref (h 37), .int 0, .ref (h 38), .ref (h 42), .ref (h 43), .ref (h 44), .ref (h 45), .ref (h 46), .ref (h 47), .ref (h 48)])), ((h 1), .inr (8, [.ref (h 2), .int 0, .ref (h 3), .ref (h 4), .int 0, .ref (h 5), .int 0, .ref (h 6), .int 0, .ref (h 7), .int 0])), ((h 4), .inl ((cs 4), 100, .inr (.inr (.inr (.inr (fun _ => none)))))), (o, .inl (cL, 1, .inr (.inl (fun _ => 0)))), ((a 0), .inr (12, zMo a zI0)), ((a 1), .inl (cI, 6792, .inl zI0))]) (hS : va_S A s.heap H locs) (hl : lv_has ls 9 [(0, .ref b), (1, .ref (h 0)), (2, .ref (a 0)), (3, .ref o), (4, .int 0)]) : W p l e room_1 s m #[Value.ref b] below meth c H locs 1192 188302 (lw_Z below #[Value.ref b] s) (F0 m 2677 ls []) := by
  have hbA : ¬ A b := fun h => Nat.not_le.mpr hbl ((hAe b).mp h)
  have hA : ∀ q : Nat, s.heap.size ≤ q → A q := fun q h => (hAe q).mpr h
  refine lv_aload_n hx hb dL_law__2677 rfl (lv_at hl 1 rfl) ?_
  refine lv_aload_n hx hb dL_law__2678 rfl (lv_at hl 0 rfl) ?_
  refine lv_iload hx hb dL_law__2679 (lv_at hl 4 rfl) ?_
  refine lv_iconst (v := 1) hx hb dL_law__2681 (by decide) ?_
  refine lv_iadd hx hb dL_law__2682 ?_
  refine lv_topi (fun x_1 e_1 => ?_)
  obtain rfl : x_1 = 1 := e_1.trans (by decide)
  refine va_sld hx hb hX hbl hbA hS (by rw [hL]; exact vp_in_iff.mpr (by decide)) dL_law__2683 ?_
  refine W.eq (g2 := F0 m 2684 ls (.int (xs 1) :: .ref (h 0) :: [])) rfl ?_
  refine lv_aload_n hx hb dL_law__2684 rfl (lv_at hl 0 rfl) ?_
  refine lv_iload hx hb dL_law__2685 (lv_at hl 4 rfl) ?_
  refine lv_iconst (v := 2) hx hb dL_law__2687 (by decide) ?_
  refine lv_iadd hx hb dL_law__2688 ?_
  refine lv_topi (fun x_2 e_2 => ?_)
  obtain rfl : x_2 = 2 := e_2.trans (by decide)
  refine va_sld hx hb hX hbl hbA hS (by rw [hL]; exact vp_in_iff.mpr (by decide)) dL_law__2689 ?_
  refine W.eq (g2 := F0 m 2690 ls (.int (xs 2) :: .int (xs 1) :: .ref (h 0) :: [])) rfl ?_
  refine lv_aload_n hx hb dL_law__2690 rfl (lv_at hl 3 rfl) ?_
  have hPc := hP.sub (ws' := [((h 0), .inr (11, [.ref (h 1), .ref (h 9), .int 0, .int 0, .ref (h 20), .ref (h 37), .int 0, .ref (h 38), .ref (h 42), .ref (h 43), .ref (h 44), .ref (h 45), .ref (h 46), .ref (h 47), .ref (h 48)])), ((h 1), .inr (8, [.ref (h 2), .int 0, .ref (h 3), .ref (h 4), .int 0, .ref (h 5), .int 0, .ref (h 6), .int 0, .ref (h 7), .int 0])), ((h 4), .inl ((cs 4), 100, .inr (.inr (.inr (.inr (fun _ => none)))))), (o, .inl (cL, 1, .inr (.inl (fun _ => 0))))]) [0, 1, 2, 3] rfl
  have hDc := hD.sub (ws' := [((h 0), .inr (11, [.ref (h 1), .ref (h 9), .int 0, .int 0, .ref (h 20), .ref (h 37), .int 0, .ref (h 38), .ref (h 42), .ref (h 43), .ref (h 44), .ref (h 45), .ref (h 46), .ref (h 47), .ref (h 48)])), ((h 1), .inr (8, [.ref (h 2), .int 0, .ref (h 3), .ref (h 4), .int 0, .ref (h 5), .int 0, .ref (h 6), .int 0, .ref (h 7), .int 0])), ((h 4), .inl ((cs 4), 100, .inr (.inr (.inr (.inr (fun _ => none)))))), (o, .inl (cL, 1, .inr (.inl (fun _ => 0))))]) [0, 1, 2, 3] (by decide) rfl
  have hKc := hK.sub (tys' := [((cs 4), .object RX4), (cL, .long)]) [0, 1] rfl
  have hFc := va_free (wc := [((h 0), .inr (11, [.ref (h 1), .ref (h 9), .int 0, .int 0, .ref (h 20), .ref (h 37), .int 0, .ref (h 38), .ref (h 42), .ref (h 43), .ref (h 44), .ref (h 45), .ref (h 46), .ref (h 47), .ref (h 48)])), ((h 1), .inr (8, [.ref (h 2), .int 0, .ref (h 3), .ref (h 4), .int 0, .ref (h 5), .int 0, .ref (h 6), .int 0, .ref (h 7), .int 0])), ((h 4), .inl ((cs 4), 100, .inr (.inr (.inr (.inr (fun _ => none)))))), (o, .inl (cL, 1, .inr (.inl (fun _ => 0))))]) hD hS hA [0, 1, 2, 3] rfl
  refine va_calli (vx_runSW (As := [.ref (h 0), .int (xs 1), .int (xs 2), .ref o]) (rest := []) ⟨hx, hb, hml, hown, ht⟩ (k_L_lawAt l hl0 _ D h cs (xs 1) (xs 2) o cL) (vx_cwSW 4 ht (zG_S zw_1026 zw_1027 zw_773 zw_1028) rfl rfl rfl (by decide +kernel) ⟨Nat.le_of_ble_eq_true rfl, Nat.le_of_ble_eq_true rfl⟩) (zY_S hNc hEx hS hFc hPc hKc hDc) rfl rfl hl.1 rfl (lv_room (Nat.le_of_ble_eq_true rfl)) dL_law__2691 ⟨Nat.le_of_ble_eq_true rfl, Nat.le_of_ble_eq_true rfl⟩) hS (fun q _ h => hFc q h) hFc (fun r_3 u_3 t H1 locs ht0 hvm hw_3 hB hz1 hk1 hS => ?_)
  obtain ⟨g_3, hg_3, hB⟩ := hB
  obtain ⟨hP1, hK1, hD1⟩ := hB
  rw [ht0] at hP1
  have hK1 := va_K.moved hvm.symm hK1
  obtain ⟨hP, hD⟩ := va_join (wr := [((a 0), .inr (12, zMo a zI0)), ((a 1), .inl (cI, 6792, .inl zI0))]) (w1 := [(o, .inl (cL, 1, .inr (.inl g_3)))]) hP hD [0, 1, 2, 3] [4, 5] rfl rfl (by decide) (by decide) hk1 hFc hP1 hD1
  generalize H1 = H at hP hS ⊢
  have hP : va_P D vwCl [((a 0), .inr (12, zMo a zI0)), ((a 1), .inl (cI, 6792, .inl zI0)), (o, .inl (cL, 1, .inr (.inl g_3)))] H := hP
  have hD : va_D A [((a 0), .inr (12, zMo a zI0)), ((a 1), .inl (cI, 6792, .inl zI0)), (o, .inl (cL, 1, .inr (.inl g_3)))] := hD
  refine W.widen (k := 1193) (n := 188308) (Nat.le_of_ble_eq_true rfl) (Nat.le_of_ble_eq_true rfl) ?_
  refine lv_istore (lv' := [(5, .int r_3), (0, .ref b), (1, .ref (h 0)), (2, .ref (a 0)), (3, .ref o), (4, .int 0)]) hx hb dL_law__2694 hl (by decide) rfl (fun ls hl => ?_)
  refine lv_aload_n hx hb dL_law__2696 rfl (lv_at hl 3 rfl) ?_
  refine lv_aload_n hx hb dL_law__2697 rfl (lv_at hl 1 rfl) ?_
  refine lv_iload hx hb dL_law__2698 (lv_at hl 5 rfl) ?_
  refine lv_iconst (v := 1) hx hb dL_law__2700 (by decide) ?_
  refine lv_iadd hx hb dL_law__2701 ?_
  refine lv_topi (fun x_4 e_4 => ?_)
  obtain rfl : x_4 = 1 := e_4.trans (by decide)
  refine va_sld hx hb hX hbl hbA hS (by rw [hL]; exact vp_in_iff.mpr (by decide)) dL_law__2702 ?_
  refine W.eq (g2 := F0 m 2703 ls (.int (xs 1) :: .ref (a 0) :: [])) rfl ?_
  refine lv_aload_n hx hb dL_law__2703 rfl (lv_at hl 1 rfl) ?_
  refine lv_iload hx hb dL_law__2704 (lv_at hl 5 rfl) ?_
  refine lv_iconst (v := 2) hx hb dL_law__2706 (by decide) ?_
  refine lv_iadd hx hb dL_law__2707 ?_
  refine lv_topi (fun x_5 e_5 => ?_)
  obtain rfl : x_5 = 2 := e_5.trans (by decide)
  refine va_sld hx hb hX hbl hbA hS (by rw [hL]; exact vp_in_iff.mpr (by decide)) dL_law__2708 ?_
  refine W.eq (g2 := F0 m 2709 ls (.int (xs 2) :: .int (xs 1) :: .ref (a 0) :: [])) rfl ?_
  have hPc := hP.sub (ws' := [((a 0), .inr (12, zMo a zI0)), ((a 1), .inl (cI, 6792, .inl zI0))]) [0, 1] rfl
  have hDc := hD.sub (ws' := [((a 0), .inr (12, zMo a zI0)), ((a 1), .inl (cI, 6792, .inl zI0))]) [0, 1] (by decide) rfl
  have hKc := hK.sub (tys' := [(cI, .int)]) [2] rfl
  have hFc := va_free (wc := [((a 0), .inr (12, zMo a zI0)), ((a 1), .inl (cI, 6792, .inl zI0))]) hD hS hA [0, 1] rfl
  refine va_calli (va_runV (As := [.int (xs 1), .int (xs 2)]) (rest := []) ⟨hx, hb, hml, hown, ht⟩ (k_X12_lawAt l _ D a cI (xs 1) (xs 2)) (cwV 2 ht (zG_V zw_1029 zw_1030 zw_1031 zw_2 zw_1032) rfl rfl rfl (by decide +kernel) ⟨Nat.le_of_ble_eq_true rfl, Nat.le_of_ble_eq_true rfl⟩) (zM_V (va_recv hK hP (ci := 12) (q0 := 0) rfl rfl) hPc hKc hDc) rfl rfl hl.1 rfl (lv_room (Nat.le_of_ble_eq_true rfl)) dL_law__2709 ⟨Nat.le_of_ble_eq_true rfl, Nat.le_of_ble_eq_true rfl⟩) hS (fun q _ h => hFc q h) hFc (fun r_6 u_6 t H1 locs ht0 hvm hw_6 hB hz1 hk1 hS => ?_)
  obtain ⟨hP1, hK1, hD1⟩ := hB
  rw [ht0] at hP1
  have hK1 := va_K.moved hvm.symm hK1
  obtain ⟨hP, hD⟩ := va_join (wr := [(o, .inl (cL, 1, .inr (.inl g_3)))]) (w1 := [((a 0), .inr (12, zMo a u_6))]) hP hD [0, 1] [2] rfl rfl (by decide) (by decide) hk1 hFc hP1 hD1
  generalize H1 = H at hP hS ⊢
  have hP : va_P D vwCl [(o, .inl (cL, 1, .inr (.inl g_3))), ((a 0), .inr (12, zMo a u_6))] H := hP
  have hD : va_D A [(o, .inl (cL, 1, .inr (.inl g_3))), ((a 0), .inr (12, zMo a u_6))] := hD
  refine lv_istore (lv' := [(6, .int r_6), (5, .int r_3), (0, .ref b), (1, .ref (h 0)), (2, .ref (a 0)), (3, .ref o), (4, .int 0)]) hx hb dL_law__2712 hl (by decide) rfl (fun ls hl => ?_)
  refine lv_aload_n hx hb dL_law__2714 rfl (lv_at hl 4 rfl) ?_
  refine vp_callSi (va_runV (As := []) (rest := []) ⟨hx, hb, hml, hown, ht⟩ (k_X12_thrown l D a u_6) (cwV 0 ht (zG_V zw_779 zw_780 zw_781 zw_2 zw_782) rfl rfl rfl (by decide +kernel) ⟨Nat.le_of_ble_eq_true rfl, Nat.le_of_ble_eq_true rfl⟩) (zR_V (va_recv hK hP (ci := 12) (q0 := 1) rfl rfl) (hP.sub (ws' := [((a 0), .inr (12, zMo a u_6))]) [1] rfl) (hK.sub (tys' := []) [] rfl)) rfl rfl hl.1 rfl (lv_room (Nat.le_of_ble_eq_true rfl)) dL_law__2715 ⟨Nat.le_of_ble_eq_true rfl, Nat.le_of_ble_eq_true rfl⟩).run (fun r_7 hw_7 => ?_)
  refine lv_iload hx hb dL_law__2718 (lv_at hl 1 rfl) ?_
  refine lv_icmp_eq (tgt := 2725) hx hb dL_law__2720 (by decide) (fun c_8 => ?_) (fun c_8 => ?_)
  · skip
    simp only [fa_lt, fa_le, fa_eq, Int32.reduceToInt] at c_8
    refine lv_iload hx hb dL_law__2725 (lv_at hl 1 rfl) ?_
    refine lv_if_ne (tgt := 2742) hx hb dL_law__2727 (by decide) (fun c_9 => ?_) (fun c_9 => ?_)
    · skip
      simp only [fa_lt, fa_le, fa_eq, Int32.reduceToInt] at c_9
      refine lv_goto (tgt := 3433) hx hb dL_law__2742 (by decide) ?_
      refine W.widen (k := 2000) (n := 400000) (Nat.le_of_ble_eq_true rfl) (Nat.le_of_ble_eq_true rfl) ?_
      exact zlaw_end hx hb hml hr hown ht hlocks hX hbl hL hAe hS (lv_sub hl [2, 6] rfl)
    · skip
      simp only [fa_lt, fa_le, fa_eq, Int32.reduceToInt] at c_9
      refine lv_aload_n hx hb dL_law__2730 rfl (lv_at hl 5 rfl) ?_
      refine lv_iconst (v := 0) hx hb dL_law__2731 (by decide) ?_
      refine va_lald hx hb hK hP 0 1 rfl rfl (vp_in_iff.mpr (by decide)) dL_law__2732 ?_
      refine W.eq (g2 := F0 m 2733 ls (.long (g_3 0) :: [])) rfl ?_
      refine lv_iload hx hb dL_law__2733 (lv_at hl 0 rfl) ?_
      refine lv_i2l (v := (r_6).toInt64) hx hb dL_law__2735 rfl ?_
      refine W.lcmp hx hb dL_law__2736 ?_
      refine lv_if_eq (tgt := 2742) hx hb dL_law__2737 (by decide) (fun c_10 => ?_) (fun c_10 => ?_)
      · skip
        refine lv_goto (tgt := 3433) hx hb dL_law__2742 (by decide) ?_
        refine W.widen (k := 2000) (n := 400000) (Nat.le_of_ble_eq_true rfl) (Nat.le_of_ble_eq_true rfl) ?_
        exact zlaw_end hx hb hml hr hown ht hlocks hX hbl hL hAe hS (lv_sub hl [2, 6] rfl)
      · skip
        simp only [fa_lt, fa_le, fa_eq, Int32.reduceToInt] at c_10
        exfalso; exact c_10 (by rw [hg_3, ← (zF_lawAt hw_6 hw_3).2 ((zF_lawAt hw_6 hw_3).1.trans (Int32.toInt_inj.mp (show r_3.toInt = (0 : Int32).toInt by rw [c_9]; rfl)))]; rw [zcmp_self]; rfl)
  · skip
    simp only [fa_lt, fa_le, fa_eq, Int32.reduceToInt] at c_8
    exfalso; exact c_8 (by rw [hw_7, (zF_lawAt hw_6 hw_3).1])
set_option maxHeartbeats 4000000 in
set_option maxRecDepth 100000 in
theorem zcase_rests {p : Program} {l : Launch} {e : Env} {s : State} {m : MethodId} {below : List Frame} {meth : Method} {c : Code} {b L : Nat} {xs : Nat → Int32} {A : Nat → Prop} (D : va_G) (h cs : Nat → Nat) (o : Nat) (cL : ClassId) (a : Nat → Nat) (cI : ClassId) (hx : p.tables.exec = Jvm.exec) (hb : c.code = code) (hml : c.maxLocals = 9) (hr : meth.sig.returnType = ret) (hown : s.vm.findClass RL = some m.cls) (ht : ∀ w ∈ zT, w.before #[Value.ref b] s = true) (hlocks : meth.locks = false) (hX : va_X b L xs s s.heap) (hbl : b < s.heap.size) (hL : L = 6) (hAe : ∀ q : Nat, A q ↔ s.heap.size ≤ q) (hl0 : l.stackTraces = false) (hEx : zEx A s) (hNc : zNc s) {H : Heap} {locs : List Loc} {ls : Array Slot} (hK : va_K D vwCl [((cs 4), .object RX4), (cL, .long), (cI, .int)] s) (hP : va_P D vwCl [((h 0), .inr (11, [.ref (h 1), .ref (h 9), .int 0, .int 0, .ref (h 20), .ref (h 37), .int 0, .ref (h 38), .ref (h 42), .ref (h 43), .ref (h 44), .ref (h 45), .ref (h 46), .ref (h 47), .ref (h 48)])), ((h 1), .inr (8, [.ref (h 2), .int 0, .ref (h 3), .ref (h 4), .int 0, .ref (h 5), .int 0, .ref (h 6), .int 0, .ref (h 7), .int 0])), ((h 4), .inl ((cs 4), 100, .inr (.inr (.inr (.inr (fun _ => none)))))), (o, .inl (cL, 1, .inr (.inl (fun _ => 0)))), ((a 0), .inr (12, zMo a zI0)), ((a 1), .inl (cI, 6792, .inl zI0))] H) (hD : va_D A [((h 0), .inr (11, [.ref (h 1), .ref (h 9), .int 0, .int 0, .ref (h 20), .ref (h 37), .int 0, .ref (h 38), .ref (h 42), .ref (h 43), .ref (h 44), .ref (h 45), .ref (h 46), .ref (h 47), .ref (h 48)])), ((h 1), .inr (8, [.ref (h 2), .int 0, .ref (h 3), .ref (h 4), .int 0, .ref (h 5), .int 0, .ref (h 6), .int 0, .ref (h 7), .int 0])), ((h 4), .inl ((cs 4), 100, .inr (.inr (.inr (.inr (fun _ => none)))))), (o, .inl (cL, 1, .inr (.inl (fun _ => 0)))), ((a 0), .inr (12, zMo a zI0)), ((a 1), .inl (cI, 6792, .inl zI0))]) (hS : va_S A s.heap H locs) (hl : lv_has ls 9 [(0, .ref b), (1, .ref (h 0)), (2, .ref (a 0)), (3, .ref o), (4, .int 0)]) : W p l e room_1 s m #[Value.ref b] below meth c H locs 1192 188302 (lw_Z below #[Value.ref b] s) (F0 m 2745 ls []) := by
  have hbA : ¬ A b := fun h => Nat.not_le.mpr hbl ((hAe b).mp h)
  have hA : ∀ q : Nat, s.heap.size ≤ q → A q := fun q h => (hAe q).mpr h
  refine lv_aload_n hx hb dL_law__2745 rfl (lv_at hl 1 rfl) ?_
  refine lv_aload_n hx hb dL_law__2746 rfl (lv_at hl 0 rfl) ?_
  refine lv_iload hx hb dL_law__2747 (lv_at hl 4 rfl) ?_
  refine lv_iconst (v := 1) hx hb dL_law__2749 (by decide) ?_
  refine lv_iadd hx hb dL_law__2750 ?_
  refine lv_topi (fun x_1 e_1 => ?_)
  obtain rfl : x_1 = 1 := e_1.trans (by decide)
  refine va_sld hx hb hX hbl hbA hS (by rw [hL]; exact vp_in_iff.mpr (by decide)) dL_law__2751 ?_
  refine W.eq (g2 := F0 m 2752 ls (.int (xs 1) :: .ref (h 0) :: [])) rfl ?_
  refine lv_aload_n hx hb dL_law__2752 rfl (lv_at hl 0 rfl) ?_
  refine lv_iload hx hb dL_law__2753 (lv_at hl 4 rfl) ?_
  refine lv_iconst (v := 2) hx hb dL_law__2755 (by decide) ?_
  refine lv_iadd hx hb dL_law__2756 ?_
  refine lv_topi (fun x_2 e_2 => ?_)
  obtain rfl : x_2 = 2 := e_2.trans (by decide)
  refine va_sld hx hb hX hbl hbA hS (by rw [hL]; exact vp_in_iff.mpr (by decide)) dL_law__2757 ?_
  refine W.eq (g2 := F0 m 2758 ls (.int (xs 2) :: .int (xs 1) :: .ref (h 0) :: [])) rfl ?_
  refine lv_aload_n hx hb dL_law__2758 rfl (lv_at hl 3 rfl) ?_
  have hPc := hP.sub (ws' := [((h 0), .inr (11, [.ref (h 1), .ref (h 9), .int 0, .int 0, .ref (h 20), .ref (h 37), .int 0, .ref (h 38), .ref (h 42), .ref (h 43), .ref (h 44), .ref (h 45), .ref (h 46), .ref (h 47), .ref (h 48)])), ((h 1), .inr (8, [.ref (h 2), .int 0, .ref (h 3), .ref (h 4), .int 0, .ref (h 5), .int 0, .ref (h 6), .int 0, .ref (h 7), .int 0])), ((h 4), .inl ((cs 4), 100, .inr (.inr (.inr (.inr (fun _ => none)))))), (o, .inl (cL, 1, .inr (.inl (fun _ => 0))))]) [0, 1, 2, 3] rfl
  have hDc := hD.sub (ws' := [((h 0), .inr (11, [.ref (h 1), .ref (h 9), .int 0, .int 0, .ref (h 20), .ref (h 37), .int 0, .ref (h 38), .ref (h 42), .ref (h 43), .ref (h 44), .ref (h 45), .ref (h 46), .ref (h 47), .ref (h 48)])), ((h 1), .inr (8, [.ref (h 2), .int 0, .ref (h 3), .ref (h 4), .int 0, .ref (h 5), .int 0, .ref (h 6), .int 0, .ref (h 7), .int 0])), ((h 4), .inl ((cs 4), 100, .inr (.inr (.inr (.inr (fun _ => none)))))), (o, .inl (cL, 1, .inr (.inl (fun _ => 0))))]) [0, 1, 2, 3] (by decide) rfl
  have hKc := hK.sub (tys' := [((cs 4), .object RX4), (cL, .long)]) [0, 1] rfl
  have hFc := va_free (wc := [((h 0), .inr (11, [.ref (h 1), .ref (h 9), .int 0, .int 0, .ref (h 20), .ref (h 37), .int 0, .ref (h 38), .ref (h 42), .ref (h 43), .ref (h 44), .ref (h 45), .ref (h 46), .ref (h 47), .ref (h 48)])), ((h 1), .inr (8, [.ref (h 2), .int 0, .ref (h 3), .ref (h 4), .int 0, .ref (h 5), .int 0, .ref (h 6), .int 0, .ref (h 7), .int 0])), ((h 4), .inl ((cs 4), 100, .inr (.inr (.inr (.inr (fun _ => none)))))), (o, .inl (cL, 1, .inr (.inl (fun _ => 0))))]) hD hS hA [0, 1, 2, 3] rfl
  refine va_calli (vx_runSW (As := [.ref (h 0), .int (xs 1), .int (xs 2), .ref o]) (rest := []) ⟨hx, hb, hml, hown, ht⟩ (k_L_rests l hl0 _ D h cs (xs 1) (xs 2) o cL) (vx_cwSW 4 ht (zG_S zw_1033 zw_1034 zw_773 zw_1035) rfl rfl rfl (by decide +kernel) ⟨Nat.le_of_ble_eq_true rfl, Nat.le_of_ble_eq_true rfl⟩) (zY_S hNc hEx hS hFc hPc hKc hDc) rfl rfl hl.1 rfl (lv_room (Nat.le_of_ble_eq_true rfl)) dL_law__2759 ⟨Nat.le_of_ble_eq_true rfl, Nat.le_of_ble_eq_true rfl⟩) hS (fun q _ h => hFc q h) hFc (fun r_3 u_3 t H1 locs ht0 hvm hw_3 hB hz1 hk1 hS => ?_)
  obtain ⟨g_3, hg_3, hB⟩ := hB
  obtain ⟨hP1, hK1, hD1⟩ := hB
  rw [ht0] at hP1
  have hK1 := va_K.moved hvm.symm hK1
  obtain ⟨hP, hD⟩ := va_join (wr := [((a 0), .inr (12, zMo a zI0)), ((a 1), .inl (cI, 6792, .inl zI0))]) (w1 := [(o, .inl (cL, 1, .inr (.inl g_3)))]) hP hD [0, 1, 2, 3] [4, 5] rfl rfl (by decide) (by decide) hk1 hFc hP1 hD1
  generalize H1 = H at hP hS ⊢
  have hP : va_P D vwCl [((a 0), .inr (12, zMo a zI0)), ((a 1), .inl (cI, 6792, .inl zI0)), (o, .inl (cL, 1, .inr (.inl g_3)))] H := hP
  have hD : va_D A [((a 0), .inr (12, zMo a zI0)), ((a 1), .inl (cI, 6792, .inl zI0)), (o, .inl (cL, 1, .inr (.inl g_3)))] := hD
  refine W.widen (k := 1193) (n := 188308) (Nat.le_of_ble_eq_true rfl) (Nat.le_of_ble_eq_true rfl) ?_
  refine lv_istore (lv' := [(5, .int r_3), (0, .ref b), (1, .ref (h 0)), (2, .ref (a 0)), (3, .ref o), (4, .int 0)]) hx hb dL_law__2762 hl (by decide) rfl (fun ls hl => ?_)
  refine lv_aload_n hx hb dL_law__2764 rfl (lv_at hl 3 rfl) ?_
  refine lv_aload_n hx hb dL_law__2765 rfl (lv_at hl 1 rfl) ?_
  refine lv_iload hx hb dL_law__2766 (lv_at hl 5 rfl) ?_
  refine lv_iconst (v := 1) hx hb dL_law__2768 (by decide) ?_
  refine lv_iadd hx hb dL_law__2769 ?_
  refine lv_topi (fun x_4 e_4 => ?_)
  obtain rfl : x_4 = 1 := e_4.trans (by decide)
  refine va_sld hx hb hX hbl hbA hS (by rw [hL]; exact vp_in_iff.mpr (by decide)) dL_law__2770 ?_
  refine W.eq (g2 := F0 m 2771 ls (.int (xs 1) :: .ref (a 0) :: [])) rfl ?_
  refine lv_aload_n hx hb dL_law__2771 rfl (lv_at hl 1 rfl) ?_
  refine lv_iload hx hb dL_law__2772 (lv_at hl 5 rfl) ?_
  refine lv_iconst (v := 2) hx hb dL_law__2774 (by decide) ?_
  refine lv_iadd hx hb dL_law__2775 ?_
  refine lv_topi (fun x_5 e_5 => ?_)
  obtain rfl : x_5 = 2 := e_5.trans (by decide)
  refine va_sld hx hb hX hbl hbA hS (by rw [hL]; exact vp_in_iff.mpr (by decide)) dL_law__2776 ?_
  refine W.eq (g2 := F0 m 2777 ls (.int (xs 2) :: .int (xs 1) :: .ref (a 0) :: [])) rfl ?_
  have hPc := hP.sub (ws' := [((a 0), .inr (12, zMo a zI0)), ((a 1), .inl (cI, 6792, .inl zI0))]) [0, 1] rfl
  have hDc := hD.sub (ws' := [((a 0), .inr (12, zMo a zI0)), ((a 1), .inl (cI, 6792, .inl zI0))]) [0, 1] (by decide) rfl
  have hKc := hK.sub (tys' := [(cI, .int)]) [2] rfl
  have hFc := va_free (wc := [((a 0), .inr (12, zMo a zI0)), ((a 1), .inl (cI, 6792, .inl zI0))]) hD hS hA [0, 1] rfl
  refine va_calli (va_runV (As := [.int (xs 1), .int (xs 2)]) (rest := []) ⟨hx, hb, hml, hown, ht⟩ (k_X12_rests l _ D a cI (xs 1) (xs 2)) (cwV 2 ht (zG_V zw_1036 zw_1037 zw_1038 zw_2 zw_1039) rfl rfl rfl (by decide +kernel) ⟨Nat.le_of_ble_eq_true rfl, Nat.le_of_ble_eq_true rfl⟩) (zM_V (va_recv hK hP (ci := 12) (q0 := 0) rfl rfl) hPc hKc hDc) rfl rfl hl.1 rfl (lv_room (Nat.le_of_ble_eq_true rfl)) dL_law__2777 ⟨Nat.le_of_ble_eq_true rfl, Nat.le_of_ble_eq_true rfl⟩) hS (fun q _ h => hFc q h) hFc (fun r_6 u_6 t H1 locs ht0 hvm hw_6 hB hz1 hk1 hS => ?_)
  obtain ⟨hP1, hK1, hD1⟩ := hB
  rw [ht0] at hP1
  have hK1 := va_K.moved hvm.symm hK1
  obtain ⟨hP, hD⟩ := va_join (wr := [(o, .inl (cL, 1, .inr (.inl g_3)))]) (w1 := [((a 0), .inr (12, zMo a u_6))]) hP hD [0, 1] [2] rfl rfl (by decide) (by decide) hk1 hFc hP1 hD1
  generalize H1 = H at hP hS ⊢
  have hP : va_P D vwCl [(o, .inl (cL, 1, .inr (.inl g_3))), ((a 0), .inr (12, zMo a u_6))] H := hP
  have hD : va_D A [(o, .inl (cL, 1, .inr (.inl g_3))), ((a 0), .inr (12, zMo a u_6))] := hD
  refine lv_istore (lv' := [(6, .int r_6), (5, .int r_3), (0, .ref b), (1, .ref (h 0)), (2, .ref (a 0)), (3, .ref o), (4, .int 0)]) hx hb dL_law__2780 hl (by decide) rfl (fun ls hl => ?_)
  refine lv_aload_n hx hb dL_law__2782 rfl (lv_at hl 4 rfl) ?_
  refine vp_callSi (va_runV (As := []) (rest := []) ⟨hx, hb, hml, hown, ht⟩ (k_X12_thrown l D a u_6) (cwV 0 ht (zG_V zw_779 zw_780 zw_781 zw_2 zw_782) rfl rfl rfl (by decide +kernel) ⟨Nat.le_of_ble_eq_true rfl, Nat.le_of_ble_eq_true rfl⟩) (zR_V (va_recv hK hP (ci := 12) (q0 := 1) rfl rfl) (hP.sub (ws' := [((a 0), .inr (12, zMo a u_6))]) [1] rfl) (hK.sub (tys' := []) [] rfl)) rfl rfl hl.1 rfl (lv_room (Nat.le_of_ble_eq_true rfl)) dL_law__2783 ⟨Nat.le_of_ble_eq_true rfl, Nat.le_of_ble_eq_true rfl⟩).run (fun r_7 hw_7 => ?_)
  refine lv_iload hx hb dL_law__2786 (lv_at hl 1 rfl) ?_
  refine lv_icmp_eq (tgt := 2793) hx hb dL_law__2788 (by decide) (fun c_8 => ?_) (fun c_8 => ?_)
  · skip
    simp only [fa_lt, fa_le, fa_eq, Int32.reduceToInt] at c_8
    refine lv_iload hx hb dL_law__2793 (lv_at hl 1 rfl) ?_
    refine lv_if_ne (tgt := 2817) hx hb dL_law__2795 (by decide) (fun c_9 => ?_) (fun c_9 => ?_)
    · skip
      simp only [fa_lt, fa_le, fa_eq, Int32.reduceToInt] at c_9
      refine lv_goto (tgt := 3433) hx hb dL_law__2817 (by decide) ?_
      refine W.widen (k := 2000) (n := 400000) (Nat.le_of_ble_eq_true rfl) (Nat.le_of_ble_eq_true rfl) ?_
      exact zlaw_end hx hb hml hr hown ht hlocks hX hbl hL hAe hS (lv_sub hl [2, 6] rfl)
    · skip
      simp only [fa_lt, fa_le, fa_eq, Int32.reduceToInt] at c_9
      refine lv_aload_n hx hb dL_law__2798 rfl (lv_at hl 5 rfl) ?_
      refine lv_iconst (v := 0) hx hb dL_law__2799 (by decide) ?_
      refine va_lald hx hb hK hP 0 1 rfl rfl (vp_in_iff.mpr (by decide)) dL_law__2800 ?_
      refine W.eq (g2 := F0 m 2801 ls (.long (g_3 0) :: [])) rfl ?_
      refine lv_iload hx hb dL_law__2801 (lv_at hl 0 rfl) ?_
      refine lv_if_eq (tgt := 2810) hx hb dL_law__2803 (by decide) (fun c_10 => ?_) (fun c_10 => ?_)
      · skip
        simp only [fa_lt, fa_le, fa_eq, Int32.reduceToInt] at c_10
        refine lv_lconst (v := 0) hx hb dL_law__2810 (by decide) ?_
        refine W.lcmp hx hb dL_law__2811 ?_
        refine lv_if_eq (tgt := 2817) hx hb dL_law__2812 (by decide) (fun c_11 => ?_) (fun c_11 => ?_)
        · skip
          refine lv_goto (tgt := 3433) hx hb dL_law__2817 (by decide) ?_
          refine W.widen (k := 2000) (n := 400000) (Nat.le_of_ble_eq_true rfl) (Nat.le_of_ble_eq_true rfl) ?_
          exact zlaw_end hx hb hml hr hown ht hlocks hX hbl hL hAe hS (lv_sub hl [2, 6] rfl)
        · skip
          simp only [fa_lt, fa_le, fa_eq, Int32.reduceToInt] at c_11
          exfalso
          have k0 : r_3 = 0 := Int32.toInt_inj.mp (show r_3.toInt = (0 : Int32).toInt by rw [c_9]; rfl)
          have e1 := zF_rests hw_6 hw_3
          have h0 := hw_3
          rw [k0] at h0
          unfold zS_rests at h0
          obtain ⟨h9, -⟩ := h0
          exact absurd h9 (by decide)
      · skip
        simp only [fa_lt, fa_le, fa_eq, Int32.reduceToInt] at c_10
        refine lv_lconst (v := 1) hx hb dL_law__2806 (by decide) ?_
        refine lv_goto (tgt := 2811) hx hb dL_law__2807 (by decide) ?_
        refine W.lcmp hx hb dL_law__2811 ?_
        refine lv_if_eq (tgt := 2817) hx hb dL_law__2812 (by decide) (fun c_12 => ?_) (fun c_12 => ?_)
        · skip
          refine lv_goto (tgt := 3433) hx hb dL_law__2817 (by decide) ?_
          refine W.widen (k := 2000) (n := 400000) (Nat.le_of_ble_eq_true rfl) (Nat.le_of_ble_eq_true rfl) ?_
          exact zlaw_end hx hb hml hr hown ht hlocks hX hbl hL hAe hS (lv_sub hl [2, 6] rfl)
        · skip
          simp only [fa_lt, fa_le, fa_eq, Int32.reduceToInt] at c_12
          exfalso
          have k0 : r_3 = 0 := Int32.toInt_inj.mp (show r_3.toInt = (0 : Int32).toInt by rw [c_9]; rfl)
          have e1 := zF_rests hw_6 hw_3
          have h0 := hw_3
          rw [k0] at h0
          unfold zS_rests at h0
          obtain ⟨h9, -⟩ := h0
          exact absurd h9 (by decide)
  · skip
    simp only [fa_lt, fa_le, fa_eq, Int32.reduceToInt] at c_8
    exfalso; exact c_8 (by rw [hw_7, (zF_rests hw_6 hw_3).1])
set_option maxHeartbeats 4000000 in
set_option maxRecDepth 100000 in
theorem zcase_open {p : Program} {l : Launch} {e : Env} {s : State} {m : MethodId} {below : List Frame} {meth : Method} {c : Code} {b L : Nat} {xs : Nat → Int32} {A : Nat → Prop} (D : va_G) (h cs : Nat → Nat) (a : Nat → Nat) (cI : ClassId) (o : Nat) (hx : p.tables.exec = Jvm.exec) (hb : c.code = code) (hml : c.maxLocals = 9) (hr : meth.sig.returnType = ret) (hown : s.vm.findClass RL = some m.cls) (ht : ∀ w ∈ zT, w.before #[Value.ref b] s = true) (hlocks : meth.locks = false) (hX : va_X b L xs s s.heap) (hbl : b < s.heap.size) (hL : L = 6) (hAe : ∀ q : Nat, A q ↔ s.heap.size ≤ q) (hl0 : l.stackTraces = false) (hEx : zEx A s) (hNc : zNc s) {H : Heap} {locs : List Loc} {ls : Array Slot} (hK : va_K D vwCl [(cI, .int)] s) (hP : va_P D vwCl [((h 0), .inr (11, [.ref (h 1), .ref (h 9), .int 0, .int 0, .ref (h 20), .ref (h 37), .int 0, .ref (h 38), .ref (h 42), .ref (h 43), .ref (h 44), .ref (h 45), .ref (h 46), .ref (h 47), .ref (h 48)])), ((h 1), .inr (8, [.ref (h 2), .int 0, .ref (h 3), .ref (h 4), .int 0, .ref (h 5), .int 0, .ref (h 6), .int 0, .ref (h 7), .int 0])), ((a 0), .inr (12, zMo a zI0)), ((a 1), .inl (cI, 6792, .inl zI0))] H) (hD : va_D A [((h 0), .inr (11, [.ref (h 1), .ref (h 9), .int 0, .int 0, .ref (h 20), .ref (h 37), .int 0, .ref (h 38), .ref (h 42), .ref (h 43), .ref (h 44), .ref (h 45), .ref (h 46), .ref (h 47), .ref (h 48)])), ((h 1), .inr (8, [.ref (h 2), .int 0, .ref (h 3), .ref (h 4), .int 0, .ref (h 5), .int 0, .ref (h 6), .int 0, .ref (h 7), .int 0])), ((a 0), .inr (12, zMo a zI0)), ((a 1), .inl (cI, 6792, .inl zI0))]) (hS : va_S A s.heap H locs) (hl : lv_has ls 9 [(0, .ref b), (1, .ref (h 0)), (2, .ref (a 0)), (3, .ref o), (4, .int 0)]) : W p l e room_1 s m #[Value.ref b] below meth c H locs 1192 188302 (lw_Z below #[Value.ref b] s) (F0 m 2820 ls []) := by
  have hbA : ¬ A b := fun h => Nat.not_le.mpr hbl ((hAe b).mp h)
  have hA : ∀ q : Nat, s.heap.size ≤ q → A q := fun q h => (hAe q).mpr h
  refine lv_aload_n hx hb dL_law__2820 rfl (lv_at hl 1 rfl) ?_
  have hPc := hP.sub (ws' := [((h 0), .inr (11, [.ref (h 1), .ref (h 9), .int 0, .int 0, .ref (h 20), .ref (h 37), .int 0, .ref (h 38), .ref (h 42), .ref (h 43), .ref (h 44), .ref (h 45), .ref (h 46), .ref (h 47), .ref (h 48)])), ((h 1), .inr (8, [.ref (h 2), .int 0, .ref (h 3), .ref (h 4), .int 0, .ref (h 5), .int 0, .ref (h 6), .int 0, .ref (h 7), .int 0]))]) [0, 1] rfl
  have hDc := hD.sub (ws' := [((h 0), .inr (11, [.ref (h 1), .ref (h 9), .int 0, .int 0, .ref (h 20), .ref (h 37), .int 0, .ref (h 38), .ref (h 42), .ref (h 43), .ref (h 44), .ref (h 45), .ref (h 46), .ref (h 47), .ref (h 48)])), ((h 1), .inr (8, [.ref (h 2), .int 0, .ref (h 3), .ref (h 4), .int 0, .ref (h 5), .int 0, .ref (h 6), .int 0, .ref (h 7), .int 0]))]) [0, 1] (by decide) rfl
  have hKc := hK.sub (tys' := []) [] rfl
  have hFc := va_free (wc := [((h 0), .inr (11, [.ref (h 1), .ref (h 9), .int 0, .int 0, .ref (h 20), .ref (h 37), .int 0, .ref (h 38), .ref (h 42), .ref (h 43), .ref (h 44), .ref (h 45), .ref (h 46), .ref (h 47), .ref (h 48)])), ((h 1), .inr (8, [.ref (h 2), .int 0, .ref (h 3), .ref (h 4), .int 0, .ref (h 5), .int 0, .ref (h 6), .int 0, .ref (h 7), .int 0]))]) hD hS hA [0, 1] rfl
  refine va_calli (va_runV (As := []) (rest := []) ⟨hx, hb, hml, hown, ht⟩ (k_X11_open l _ D h cs) (cwV 0 ht (zG_V zw_1040 zw_1041 zw_1042 zw_404 zw_1043) rfl rfl rfl (by decide +kernel) ⟨Nat.le_of_ble_eq_true rfl, Nat.le_of_ble_eq_true rfl⟩) (zM_V (va_recv hK hP (ci := 11) (q0 := 0) rfl rfl) hPc hKc hDc) rfl rfl hl.1 rfl (lv_room (Nat.le_of_ble_eq_true rfl)) dL_law__2821 ⟨Nat.le_of_ble_eq_true rfl, Nat.le_of_ble_eq_true rfl⟩) hS (fun q _ h => hFc q h) hFc (fun r_1 u_1 t H1 locs ht0 hvm hw_1 hB hz1 hk1 hS => ?_)
  obtain ⟨hP1, hK1, hD1⟩ := hB
  rw [ht0] at hP1
  have hK1 := va_K.moved hvm.symm hK1
  obtain ⟨hP, hD⟩ := va_join (wr := [((a 0), .inr (12, zMo a zI0)), ((a 1), .inl (cI, 6792, .inl zI0))]) (w1 := []) hP hD [0, 1] [2, 3] rfl rfl (by decide) (by decide) hk1 hFc hP1 hD1
  generalize H1 = H at hP hS ⊢
  have hP : va_P D vwCl [((a 0), .inr (12, zMo a zI0)), ((a 1), .inl (cI, 6792, .inl zI0))] H := hP
  have hD : va_D A [((a 0), .inr (12, zMo a zI0)), ((a 1), .inl (cI, 6792, .inl zI0))] := hD
  obtain rfl : r_1 = 0 := hw_1
  refine lv_aload_n hx hb dL_law__2824 rfl (lv_at hl 2 rfl) ?_
  have hPc := hP.sub (ws' := [((a 0), .inr (12, zMo a zI0)), ((a 1), .inl (cI, 6792, .inl zI0))]) [0, 1] rfl
  have hDc := hD.sub (ws' := [((a 0), .inr (12, zMo a zI0)), ((a 1), .inl (cI, 6792, .inl zI0))]) [0, 1] (by decide) rfl
  have hKc := hK.sub (tys' := [(cI, .int)]) [0] rfl
  have hFc := va_free (wc := [((a 0), .inr (12, zMo a zI0)), ((a 1), .inl (cI, 6792, .inl zI0))]) hD hS hA [0, 1] rfl
  refine va_calli (va_runV (As := []) (rest := [.int 0]) ⟨hx, hb, hml, hown, ht⟩ (k_X12_open l _ D a cI) (cwV 0 ht (zG_V zw_1044 zw_1045 zw_1046 zw_2 zw_1047) rfl rfl rfl (by decide +kernel) ⟨Nat.le_of_ble_eq_true rfl, Nat.le_of_ble_eq_true rfl⟩) (zM_V (va_recv hK hP (ci := 12) (q0 := 0) rfl rfl) hPc hKc hDc) rfl rfl hl.1 rfl (lv_room (Nat.le_of_ble_eq_true rfl)) dL_law__2825 ⟨Nat.le_of_ble_eq_true rfl, Nat.le_of_ble_eq_true rfl⟩) hS (fun q _ h => hFc q h) hFc (fun r_2 u_2 t H1 locs ht0 hvm hw_2 hB hz1 hk1 hS => ?_)
  obtain ⟨hP1, hK1, hD1⟩ := hB
  rw [ht0] at hP1
  have hK1 := va_K.moved hvm.symm hK1
  obtain ⟨hP, hD⟩ := va_join (wr := []) (w1 := []) hP hD [0, 1] [] rfl rfl (by decide) (by decide) hk1 hFc hP1 hD1
  generalize H1 = H at hP hS ⊢
  have hP : va_P D vwCl [] H := hP
  have hD : va_D A [] := hD
  obtain rfl : r_2 = 0 := hw_2
  refine lv_icmp_eq (tgt := 3433) hx hb dL_law__2828 (by decide) (fun c_3 => ?_) (fun c_3 => ?_)
  · skip
    refine W.widen (k := 2000) (n := 400000) (Nat.le_of_ble_eq_true rfl) (Nat.le_of_ble_eq_true rfl) ?_
    exact zlaw_end hx hb hml hr hown ht hlocks hX hbl hL hAe hS (lv_sub hl [0, 4] rfl)
  · skip
    exact absurd c_3 (by decide)
set_option maxHeartbeats 4000000 in
set_option maxRecDepth 100000 in
theorem zcase_lines {p : Program} {l : Launch} {e : Env} {s : State} {m : MethodId} {below : List Frame} {meth : Method} {c : Code} {b L : Nat} {xs : Nat → Int32} {A : Nat → Prop} (D : va_G) (h cs : Nat → Nat) (fn : Nat → Option Nat) (hn : ∀ k : Nat, k < 4 → fn k = some (h 8)) (o : Nat) (cL : ClassId) (a : Nat → Nat) (cI : ClassId) (hx : p.tables.exec = Jvm.exec) (hb : c.code = code) (hml : c.maxLocals = 9) (hr : meth.sig.returnType = ret) (hown : s.vm.findClass RL = some m.cls) (ht : ∀ w ∈ zT, w.before #[Value.ref b] s = true) (hlocks : meth.locks = false) (hX : va_X b L xs s s.heap) (hbl : b < s.heap.size) (hL : L = 6) (hAe : ∀ q : Nat, A q ↔ s.heap.size ≤ q) (hl0 : l.stackTraces = false) (hEx : zEx A s) (hNc : zNc s) {H : Heap} {locs : List Loc} {ls : Array Slot} (hK : va_K D vwCl [((cs 0), .object RX0), (cL, .long), (cI, .int)] s) (hP : va_P D vwCl [((h 0), .inr (11, [.ref (h 1), .ref (h 9), .int 0, .int 0, .ref (h 20), .ref (h 37), .int 0, .ref (h 38), .ref (h 42), .ref (h 43), .ref (h 44), .ref (h 45), .ref (h 46), .ref (h 47), .ref (h 48)])), ((h 1), .inr (8, [.ref (h 2), .int 0, .ref (h 3), .ref (h 4), .int 0, .ref (h 5), .int 0, .ref (h 6), .int 0, .ref (h 7), .int 0])), ((h 7), .inl ((cs 0), 4, .inr (.inr (.inr (.inr fn))))), ((h 8), .inr (0, [.ref (h 102), .ref (h 103), .int 0])), (o, .inl (cL, 1, .inr (.inl (fun _ => 0)))), ((a 0), .inr (12, zMo a zI0)), ((a 1), .inl (cI, 6792, .inl zI0))] H) (hD : va_D A [((h 0), .inr (11, [.ref (h 1), .ref (h 9), .int 0, .int 0, .ref (h 20), .ref (h 37), .int 0, .ref (h 38), .ref (h 42), .ref (h 43), .ref (h 44), .ref (h 45), .ref (h 46), .ref (h 47), .ref (h 48)])), ((h 1), .inr (8, [.ref (h 2), .int 0, .ref (h 3), .ref (h 4), .int 0, .ref (h 5), .int 0, .ref (h 6), .int 0, .ref (h 7), .int 0])), ((h 7), .inl ((cs 0), 4, .inr (.inr (.inr (.inr fn))))), ((h 8), .inr (0, [.ref (h 102), .ref (h 103), .int 0])), (o, .inl (cL, 1, .inr (.inl (fun _ => 0)))), ((a 0), .inr (12, zMo a zI0)), ((a 1), .inl (cI, 6792, .inl zI0))]) (hS : va_S A s.heap H locs) (hl : lv_has ls 9 [(0, .ref b), (1, .ref (h 0)), (2, .ref (a 0)), (3, .ref o), (4, .int 0)]) : W p l e room_1 s m #[Value.ref b] below meth c H locs 1192 188302 (lw_Z below #[Value.ref b] s) (F0 m 2833 ls []) := by
  have hbA : ¬ A b := fun h => Nat.not_le.mpr hbl ((hAe b).mp h)
  have hA : ∀ q : Nat, s.heap.size ≤ q → A q := fun q h => (hAe q).mpr h
  refine lv_aload_n hx hb dL_law__2833 rfl (lv_at hl 1 rfl) ?_
  refine lv_aload_n hx hb dL_law__2834 rfl (lv_at hl 0 rfl) ?_
  refine lv_iload hx hb dL_law__2835 (lv_at hl 4 rfl) ?_
  refine lv_iconst (v := 1) hx hb dL_law__2837 (by decide) ?_
  refine lv_iadd hx hb dL_law__2838 ?_
  refine lv_topi (fun x_1 e_1 => ?_)
  obtain rfl : x_1 = 1 := e_1.trans (by decide)
  refine va_sld hx hb hX hbl hbA hS (by rw [hL]; exact vp_in_iff.mpr (by decide)) dL_law__2839 ?_
  refine W.eq (g2 := F0 m 2840 ls (.int (xs 1) :: .ref (h 0) :: [])) rfl ?_
  refine lv_aload_n hx hb dL_law__2840 rfl (lv_at hl 3 rfl) ?_
  have hPc := hP.sub (ws' := [((h 0), .inr (11, [.ref (h 1), .ref (h 9), .int 0, .int 0, .ref (h 20), .ref (h 37), .int 0, .ref (h 38), .ref (h 42), .ref (h 43), .ref (h 44), .ref (h 45), .ref (h 46), .ref (h 47), .ref (h 48)])), ((h 1), .inr (8, [.ref (h 2), .int 0, .ref (h 3), .ref (h 4), .int 0, .ref (h 5), .int 0, .ref (h 6), .int 0, .ref (h 7), .int 0])), ((h 7), .inl ((cs 0), 4, .inr (.inr (.inr (.inr fn))))), ((h 8), .inr (0, [.ref (h 102), .ref (h 103), .int 0])), (o, .inl (cL, 1, .inr (.inl (fun _ => 0))))]) [0, 1, 2, 3, 4] rfl
  have hDc := hD.sub (ws' := [((h 0), .inr (11, [.ref (h 1), .ref (h 9), .int 0, .int 0, .ref (h 20), .ref (h 37), .int 0, .ref (h 38), .ref (h 42), .ref (h 43), .ref (h 44), .ref (h 45), .ref (h 46), .ref (h 47), .ref (h 48)])), ((h 1), .inr (8, [.ref (h 2), .int 0, .ref (h 3), .ref (h 4), .int 0, .ref (h 5), .int 0, .ref (h 6), .int 0, .ref (h 7), .int 0])), ((h 7), .inl ((cs 0), 4, .inr (.inr (.inr (.inr fn))))), ((h 8), .inr (0, [.ref (h 102), .ref (h 103), .int 0])), (o, .inl (cL, 1, .inr (.inl (fun _ => 0))))]) [0, 1, 2, 3, 4] (by decide) rfl
  have hKc := hK.sub (tys' := [((cs 0), .object RX0), (cL, .long)]) [0, 1] rfl
  have hFc := va_free (wc := [((h 0), .inr (11, [.ref (h 1), .ref (h 9), .int 0, .int 0, .ref (h 20), .ref (h 37), .int 0, .ref (h 38), .ref (h 42), .ref (h 43), .ref (h 44), .ref (h 45), .ref (h 46), .ref (h 47), .ref (h 48)])), ((h 1), .inr (8, [.ref (h 2), .int 0, .ref (h 3), .ref (h 4), .int 0, .ref (h 5), .int 0, .ref (h 6), .int 0, .ref (h 7), .int 0])), ((h 7), .inl ((cs 0), 4, .inr (.inr (.inr (.inr fn))))), ((h 8), .inr (0, [.ref (h 102), .ref (h 103), .int 0])), (o, .inl (cL, 1, .inr (.inl (fun _ => 0))))]) hD hS hA [0, 1, 2, 3, 4] rfl
  refine va_calli (vx_runSW (As := [.ref (h 0), .int (xs 1), .ref o]) (rest := []) ⟨hx, hb, hml, hown, ht⟩ (k_L_lines l hl0 _ D h cs (xs 1) fn hn o cL) (vx_cwSW 3 ht (zG_S zw_1048 zw_1049 zw_773 zw_1050) rfl rfl rfl (by decide +kernel) ⟨Nat.le_of_ble_eq_true rfl, Nat.le_of_ble_eq_true rfl⟩) (zY_S hNc hEx hS hFc hPc hKc hDc) rfl rfl hl.1 rfl (lv_room (Nat.le_of_ble_eq_true rfl)) dL_law__2841 ⟨Nat.le_of_ble_eq_true rfl, Nat.le_of_ble_eq_true rfl⟩) hS (fun q _ h => hFc q h) hFc (fun r_2 u_2 t H1 locs ht0 hvm hw_2 hB hz1 hk1 hS => ?_)
  obtain ⟨g_2, hg_2, hB⟩ := hB
  obtain ⟨hP1, hK1, hD1⟩ := hB
  rw [ht0] at hP1
  have hK1 := va_K.moved hvm.symm hK1
  obtain ⟨hP, hD⟩ := va_join (wr := [((a 0), .inr (12, zMo a zI0)), ((a 1), .inl (cI, 6792, .inl zI0))]) (w1 := [(o, .inl (cL, 1, .inr (.inl g_2)))]) hP hD [0, 1, 2, 3, 4] [5, 6] rfl rfl (by decide) (by decide) hk1 hFc hP1 hD1
  generalize H1 = H at hP hS ⊢
  have hP : va_P D vwCl [((a 0), .inr (12, zMo a zI0)), ((a 1), .inl (cI, 6792, .inl zI0)), (o, .inl (cL, 1, .inr (.inl g_2)))] H := hP
  have hD : va_D A [((a 0), .inr (12, zMo a zI0)), ((a 1), .inl (cI, 6792, .inl zI0)), (o, .inl (cL, 1, .inr (.inl g_2)))] := hD
  refine W.widen (k := 1193) (n := 188308) (Nat.le_of_ble_eq_true rfl) (Nat.le_of_ble_eq_true rfl) ?_
  refine lv_istore (lv' := [(5, .int r_2), (0, .ref b), (1, .ref (h 0)), (2, .ref (a 0)), (3, .ref o), (4, .int 0)]) hx hb dL_law__2844 hl (by decide) rfl (fun ls hl => ?_)
  refine lv_aload_n hx hb dL_law__2846 rfl (lv_at hl 3 rfl) ?_
  refine lv_aload_n hx hb dL_law__2847 rfl (lv_at hl 1 rfl) ?_
  refine lv_iload hx hb dL_law__2848 (lv_at hl 5 rfl) ?_
  refine lv_iconst (v := 1) hx hb dL_law__2850 (by decide) ?_
  refine lv_iadd hx hb dL_law__2851 ?_
  refine lv_topi (fun x_3 e_3 => ?_)
  obtain rfl : x_3 = 1 := e_3.trans (by decide)
  refine va_sld hx hb hX hbl hbA hS (by rw [hL]; exact vp_in_iff.mpr (by decide)) dL_law__2852 ?_
  refine W.eq (g2 := F0 m 2853 ls (.int (xs 1) :: .ref (a 0) :: [])) rfl ?_
  have hPc := hP.sub (ws' := [((a 0), .inr (12, zMo a zI0)), ((a 1), .inl (cI, 6792, .inl zI0))]) [0, 1] rfl
  have hDc := hD.sub (ws' := [((a 0), .inr (12, zMo a zI0)), ((a 1), .inl (cI, 6792, .inl zI0))]) [0, 1] (by decide) rfl
  have hKc := hK.sub (tys' := [(cI, .int)]) [2] rfl
  have hFc := va_free (wc := [((a 0), .inr (12, zMo a zI0)), ((a 1), .inl (cI, 6792, .inl zI0))]) hD hS hA [0, 1] rfl
  refine va_calli (va_runV (As := [.int (xs 1)]) (rest := []) ⟨hx, hb, hml, hown, ht⟩ (k_X12_lines l _ D a cI (xs 1)) (cwV 1 ht (zG_V zw_1051 zw_1052 zw_1053 zw_2 zw_1054) rfl rfl rfl (by decide +kernel) ⟨Nat.le_of_ble_eq_true rfl, Nat.le_of_ble_eq_true rfl⟩) (zM_V (va_recv hK hP (ci := 12) (q0 := 0) rfl rfl) hPc hKc hDc) rfl rfl hl.1 rfl (lv_room (Nat.le_of_ble_eq_true rfl)) dL_law__2853 ⟨Nat.le_of_ble_eq_true rfl, Nat.le_of_ble_eq_true rfl⟩) hS (fun q _ h => hFc q h) hFc (fun r_4 u_4 t H1 locs ht0 hvm hw_4 hB hz1 hk1 hS => ?_)
  obtain ⟨hP1, hK1, hD1⟩ := hB
  rw [ht0] at hP1
  have hK1 := va_K.moved hvm.symm hK1
  obtain ⟨hP, hD⟩ := va_join (wr := [(o, .inl (cL, 1, .inr (.inl g_2)))]) (w1 := [((a 0), .inr (12, zMo a u_4))]) hP hD [0, 1] [2] rfl rfl (by decide) (by decide) hk1 hFc hP1 hD1
  generalize H1 = H at hP hS ⊢
  have hP : va_P D vwCl [(o, .inl (cL, 1, .inr (.inl g_2))), ((a 0), .inr (12, zMo a u_4))] H := hP
  have hD : va_D A [(o, .inl (cL, 1, .inr (.inl g_2))), ((a 0), .inr (12, zMo a u_4))] := hD
  refine lv_istore (lv' := [(6, .int r_4), (5, .int r_2), (0, .ref b), (1, .ref (h 0)), (2, .ref (a 0)), (3, .ref o), (4, .int 0)]) hx hb dL_law__2856 hl (by decide) rfl (fun ls hl => ?_)
  refine lv_aload_n hx hb dL_law__2858 rfl (lv_at hl 4 rfl) ?_
  refine vp_callSi (va_runV (As := []) (rest := []) ⟨hx, hb, hml, hown, ht⟩ (k_X12_thrown l D a u_4) (cwV 0 ht (zG_V zw_779 zw_780 zw_781 zw_2 zw_782) rfl rfl rfl (by decide +kernel) ⟨Nat.le_of_ble_eq_true rfl, Nat.le_of_ble_eq_true rfl⟩) (zR_V (va_recv hK hP (ci := 12) (q0 := 1) rfl rfl) (hP.sub (ws' := [((a 0), .inr (12, zMo a u_4))]) [1] rfl) (hK.sub (tys' := []) [] rfl)) rfl rfl hl.1 rfl (lv_room (Nat.le_of_ble_eq_true rfl)) dL_law__2859 ⟨Nat.le_of_ble_eq_true rfl, Nat.le_of_ble_eq_true rfl⟩).run (fun r_5 hw_5 => ?_)
  refine lv_iload hx hb dL_law__2862 (lv_at hl 1 rfl) ?_
  refine lv_icmp_eq (tgt := 2869) hx hb dL_law__2864 (by decide) (fun c_6 => ?_) (fun c_6 => ?_)
  · skip
    simp only [fa_lt, fa_le, fa_eq, Int32.reduceToInt] at c_6
    refine lv_iload hx hb dL_law__2869 (lv_at hl 1 rfl) ?_
    refine lv_if_ne (tgt := 2886) hx hb dL_law__2871 (by decide) (fun c_7 => ?_) (fun c_7 => ?_)
    · skip
      simp only [fa_lt, fa_le, fa_eq, Int32.reduceToInt] at c_7
      refine lv_goto (tgt := 3433) hx hb dL_law__2886 (by decide) ?_
      refine W.widen (k := 2000) (n := 400000) (Nat.le_of_ble_eq_true rfl) (Nat.le_of_ble_eq_true rfl) ?_
      exact zlaw_end hx hb hml hr hown ht hlocks hX hbl hL hAe hS (lv_sub hl [2, 6] rfl)
    · skip
      simp only [fa_lt, fa_le, fa_eq, Int32.reduceToInt] at c_7
      refine lv_aload_n hx hb dL_law__2874 rfl (lv_at hl 5 rfl) ?_
      refine lv_iconst (v := 0) hx hb dL_law__2875 (by decide) ?_
      refine va_lald hx hb hK hP 0 1 rfl rfl (vp_in_iff.mpr (by decide)) dL_law__2876 ?_
      refine W.eq (g2 := F0 m 2877 ls (.long (g_2 0) :: [])) rfl ?_
      refine lv_iload hx hb dL_law__2877 (lv_at hl 0 rfl) ?_
      refine lv_i2l (v := (r_4).toInt64) hx hb dL_law__2879 rfl ?_
      refine W.lcmp hx hb dL_law__2880 ?_
      refine lv_if_eq (tgt := 2886) hx hb dL_law__2881 (by decide) (fun c_8 => ?_) (fun c_8 => ?_)
      · skip
        refine lv_goto (tgt := 3433) hx hb dL_law__2886 (by decide) ?_
        refine W.widen (k := 2000) (n := 400000) (Nat.le_of_ble_eq_true rfl) (Nat.le_of_ble_eq_true rfl) ?_
        exact zlaw_end hx hb hml hr hown ht hlocks hX hbl hL hAe hS (lv_sub hl [2, 6] rfl)
      · skip
        simp only [fa_lt, fa_le, fa_eq, Int32.reduceToInt] at c_8
        exfalso; exact c_8 (by rw [hg_2, ← (zF_lines hw_4 hw_2).2 ((zF_lines hw_4 hw_2).1.trans (Int32.toInt_inj.mp (show r_2.toInt = (0 : Int32).toInt by rw [c_7]; rfl)))]; rw [zcmp_self]; rfl)
  · skip
    simp only [fa_lt, fa_le, fa_eq, Int32.reduceToInt] at c_6
    exfalso; exact c_6 (by rw [hw_5, (zF_lines hw_4 hw_2).1])
set_option maxHeartbeats 4000000 in
set_option maxRecDepth 100000 in
theorem zcase_wrong {p : Program} {l : Launch} {e : Env} {s : State} {m : MethodId} {below : List Frame} {meth : Method} {c : Code} {b L : Nat} {xs : Nat → Int32} {A : Nat → Prop} (D : va_G) (h cs : Nat → Nat) (fn : Nat → Option Nat) (hn : ∀ k : Nat, k < 4 → fn k = some (h 8)) (o : Nat) (cL : ClassId) (a : Nat → Nat) (cI : ClassId) (hx : p.tables.exec = Jvm.exec) (hb : c.code = code) (hml : c.maxLocals = 9) (hr : meth.sig.returnType = ret) (hown : s.vm.findClass RL = some m.cls) (ht : ∀ w ∈ zT, w.before #[Value.ref b] s = true) (hlocks : meth.locks = false) (hX : va_X b L xs s s.heap) (hbl : b < s.heap.size) (hL : L = 6) (hAe : ∀ q : Nat, A q ↔ s.heap.size ≤ q) (hl0 : l.stackTraces = false) (hEx : zEx A s) (hNc : zNc s) {H : Heap} {locs : List Loc} {ls : Array Slot} (hK : va_K D vwCl [((cs 0), .object RX0), (cL, .long), (cI, .int)] s) (hP : va_P D vwCl [((h 0), .inr (11, [.ref (h 1), .ref (h 9), .int 0, .int 0, .ref (h 20), .ref (h 37), .int 0, .ref (h 38), .ref (h 42), .ref (h 43), .ref (h 44), .ref (h 45), .ref (h 46), .ref (h 47), .ref (h 48)])), ((h 1), .inr (8, [.ref (h 2), .int 0, .ref (h 3), .ref (h 4), .int 0, .ref (h 5), .int 0, .ref (h 6), .int 0, .ref (h 7), .int 0])), ((h 7), .inl ((cs 0), 4, .inr (.inr (.inr (.inr fn))))), ((h 8), .inr (0, [.ref (h 102), .ref (h 103), .int 0])), ((h 46), .inr (1, [.ref (h 84), .ref (h 85), .ref (h 86), .ref (h 87), .int 0, .int 0, .int (-1), .int 0, .int (-1), .int (-1), .int 0])), (o, .inl (cL, 1, .inr (.inl (fun _ => 0)))), ((a 0), .inr (12, zMo a zI0)), ((a 1), .inl (cI, 6792, .inl zI0))] H) (hD : va_D A [((h 0), .inr (11, [.ref (h 1), .ref (h 9), .int 0, .int 0, .ref (h 20), .ref (h 37), .int 0, .ref (h 38), .ref (h 42), .ref (h 43), .ref (h 44), .ref (h 45), .ref (h 46), .ref (h 47), .ref (h 48)])), ((h 1), .inr (8, [.ref (h 2), .int 0, .ref (h 3), .ref (h 4), .int 0, .ref (h 5), .int 0, .ref (h 6), .int 0, .ref (h 7), .int 0])), ((h 7), .inl ((cs 0), 4, .inr (.inr (.inr (.inr fn))))), ((h 8), .inr (0, [.ref (h 102), .ref (h 103), .int 0])), ((h 46), .inr (1, [.ref (h 84), .ref (h 85), .ref (h 86), .ref (h 87), .int 0, .int 0, .int (-1), .int 0, .int (-1), .int (-1), .int 0])), (o, .inl (cL, 1, .inr (.inl (fun _ => 0)))), ((a 0), .inr (12, zMo a zI0)), ((a 1), .inl (cI, 6792, .inl zI0))]) (hS : va_S A s.heap H locs) (hl : lv_has ls 9 [(0, .ref b), (1, .ref (h 0)), (2, .ref (a 0)), (3, .ref o), (4, .int 0)]) : W p l e room_1 s m #[Value.ref b] below meth c H locs 1192 188302 (lw_Z below #[Value.ref b] s) (F0 m 2889 ls []) := by
  have hbA : ¬ A b := fun h => Nat.not_le.mpr hbl ((hAe b).mp h)
  have hA : ∀ q : Nat, s.heap.size ≤ q → A q := fun q h => (hAe q).mpr h
  refine lv_aload_n hx hb dL_law__2889 rfl (lv_at hl 1 rfl) ?_
  refine lv_aload_n hx hb dL_law__2890 rfl (lv_at hl 0 rfl) ?_
  refine lv_iload hx hb dL_law__2891 (lv_at hl 4 rfl) ?_
  refine lv_iconst (v := 1) hx hb dL_law__2893 (by decide) ?_
  refine lv_iadd hx hb dL_law__2894 ?_
  refine lv_topi (fun x_1 e_1 => ?_)
  obtain rfl : x_1 = 1 := e_1.trans (by decide)
  refine va_sld hx hb hX hbl hbA hS (by rw [hL]; exact vp_in_iff.mpr (by decide)) dL_law__2895 ?_
  refine W.eq (g2 := F0 m 2896 ls (.int (xs 1) :: .ref (h 0) :: [])) rfl ?_
  refine lv_aload_n hx hb dL_law__2896 rfl (lv_at hl 3 rfl) ?_
  have hPc := hP.sub (ws' := [((h 0), .inr (11, [.ref (h 1), .ref (h 9), .int 0, .int 0, .ref (h 20), .ref (h 37), .int 0, .ref (h 38), .ref (h 42), .ref (h 43), .ref (h 44), .ref (h 45), .ref (h 46), .ref (h 47), .ref (h 48)])), ((h 1), .inr (8, [.ref (h 2), .int 0, .ref (h 3), .ref (h 4), .int 0, .ref (h 5), .int 0, .ref (h 6), .int 0, .ref (h 7), .int 0])), ((h 7), .inl ((cs 0), 4, .inr (.inr (.inr (.inr fn))))), ((h 8), .inr (0, [.ref (h 102), .ref (h 103), .int 0])), ((h 46), .inr (1, [.ref (h 84), .ref (h 85), .ref (h 86), .ref (h 87), .int 0, .int 0, .int (-1), .int 0, .int (-1), .int (-1), .int 0])), (o, .inl (cL, 1, .inr (.inl (fun _ => 0))))]) [0, 1, 2, 3, 4, 5] rfl
  have hDc := hD.sub (ws' := [((h 0), .inr (11, [.ref (h 1), .ref (h 9), .int 0, .int 0, .ref (h 20), .ref (h 37), .int 0, .ref (h 38), .ref (h 42), .ref (h 43), .ref (h 44), .ref (h 45), .ref (h 46), .ref (h 47), .ref (h 48)])), ((h 1), .inr (8, [.ref (h 2), .int 0, .ref (h 3), .ref (h 4), .int 0, .ref (h 5), .int 0, .ref (h 6), .int 0, .ref (h 7), .int 0])), ((h 7), .inl ((cs 0), 4, .inr (.inr (.inr (.inr fn))))), ((h 8), .inr (0, [.ref (h 102), .ref (h 103), .int 0])), ((h 46), .inr (1, [.ref (h 84), .ref (h 85), .ref (h 86), .ref (h 87), .int 0, .int 0, .int (-1), .int 0, .int (-1), .int (-1), .int 0])), (o, .inl (cL, 1, .inr (.inl (fun _ => 0))))]) [0, 1, 2, 3, 4, 5] (by decide) rfl
  have hKc := hK.sub (tys' := [((cs 0), .object RX0), (cL, .long)]) [0, 1] rfl
  have hFc := va_free (wc := [((h 0), .inr (11, [.ref (h 1), .ref (h 9), .int 0, .int 0, .ref (h 20), .ref (h 37), .int 0, .ref (h 38), .ref (h 42), .ref (h 43), .ref (h 44), .ref (h 45), .ref (h 46), .ref (h 47), .ref (h 48)])), ((h 1), .inr (8, [.ref (h 2), .int 0, .ref (h 3), .ref (h 4), .int 0, .ref (h 5), .int 0, .ref (h 6), .int 0, .ref (h 7), .int 0])), ((h 7), .inl ((cs 0), 4, .inr (.inr (.inr (.inr fn))))), ((h 8), .inr (0, [.ref (h 102), .ref (h 103), .int 0])), ((h 46), .inr (1, [.ref (h 84), .ref (h 85), .ref (h 86), .ref (h 87), .int 0, .int 0, .int (-1), .int 0, .int (-1), .int (-1), .int 0])), (o, .inl (cL, 1, .inr (.inl (fun _ => 0))))]) hD hS hA [0, 1, 2, 3, 4, 5] rfl
  refine va_calli (vx_runSW (As := [.ref (h 0), .int (xs 1), .ref o]) (rest := []) ⟨hx, hb, hml, hown, ht⟩ (k_L_wrong l hl0 _ D h cs (xs 1) fn hn o cL) (vx_cwSW 3 ht (zG_S zw_1055 zw_1056 zw_773 zw_1057) rfl rfl rfl (by decide +kernel) ⟨Nat.le_of_ble_eq_true rfl, Nat.le_of_ble_eq_true rfl⟩) (zY_S hNc hEx hS hFc hPc hKc hDc) rfl rfl hl.1 rfl (lv_room (Nat.le_of_ble_eq_true rfl)) dL_law__2897 ⟨Nat.le_of_ble_eq_true rfl, Nat.le_of_ble_eq_true rfl⟩) hS (fun q _ h => hFc q h) hFc (fun r_2 u_2 t H1 locs ht0 hvm hw_2 hB hz1 hk1 hS => ?_)
  obtain ⟨g_2, hg_2, hB⟩ := hB
  obtain ⟨hP1, hK1, hD1⟩ := hB
  rw [ht0] at hP1
  have hK1 := va_K.moved hvm.symm hK1
  obtain ⟨hP, hD⟩ := va_join (wr := [((a 0), .inr (12, zMo a zI0)), ((a 1), .inl (cI, 6792, .inl zI0))]) (w1 := [(o, .inl (cL, 1, .inr (.inl g_2)))]) hP hD [0, 1, 2, 3, 4, 5] [6, 7] rfl rfl (by decide) (by decide) hk1 hFc hP1 hD1
  generalize H1 = H at hP hS ⊢
  have hP : va_P D vwCl [((a 0), .inr (12, zMo a zI0)), ((a 1), .inl (cI, 6792, .inl zI0)), (o, .inl (cL, 1, .inr (.inl g_2)))] H := hP
  have hD : va_D A [((a 0), .inr (12, zMo a zI0)), ((a 1), .inl (cI, 6792, .inl zI0)), (o, .inl (cL, 1, .inr (.inl g_2)))] := hD
  refine W.widen (k := 1193) (n := 188308) (Nat.le_of_ble_eq_true rfl) (Nat.le_of_ble_eq_true rfl) ?_
  refine lv_istore (lv' := [(5, .int r_2), (0, .ref b), (1, .ref (h 0)), (2, .ref (a 0)), (3, .ref o), (4, .int 0)]) hx hb dL_law__2900 hl (by decide) rfl (fun ls hl => ?_)
  refine lv_aload_n hx hb dL_law__2902 rfl (lv_at hl 3 rfl) ?_
  refine lv_aload_n hx hb dL_law__2903 rfl (lv_at hl 1 rfl) ?_
  refine lv_iload hx hb dL_law__2904 (lv_at hl 5 rfl) ?_
  refine lv_iconst (v := 1) hx hb dL_law__2906 (by decide) ?_
  refine lv_iadd hx hb dL_law__2907 ?_
  refine lv_topi (fun x_3 e_3 => ?_)
  obtain rfl : x_3 = 1 := e_3.trans (by decide)
  refine va_sld hx hb hX hbl hbA hS (by rw [hL]; exact vp_in_iff.mpr (by decide)) dL_law__2908 ?_
  refine W.eq (g2 := F0 m 2909 ls (.int (xs 1) :: .ref (a 0) :: [])) rfl ?_
  have hPc := hP.sub (ws' := [((a 0), .inr (12, zMo a zI0)), ((a 1), .inl (cI, 6792, .inl zI0))]) [0, 1] rfl
  have hDc := hD.sub (ws' := [((a 0), .inr (12, zMo a zI0)), ((a 1), .inl (cI, 6792, .inl zI0))]) [0, 1] (by decide) rfl
  have hKc := hK.sub (tys' := [(cI, .int)]) [2] rfl
  have hFc := va_free (wc := [((a 0), .inr (12, zMo a zI0)), ((a 1), .inl (cI, 6792, .inl zI0))]) hD hS hA [0, 1] rfl
  refine va_calli (va_runV (As := [.int (xs 1)]) (rest := []) ⟨hx, hb, hml, hown, ht⟩ (k_X12_wrong l _ D a cI (xs 1)) (cwV 1 ht (zG_V zw_1058 zw_1059 zw_1060 zw_2 zw_1061) rfl rfl rfl (by decide +kernel) ⟨Nat.le_of_ble_eq_true rfl, Nat.le_of_ble_eq_true rfl⟩) (zM_V (va_recv hK hP (ci := 12) (q0 := 0) rfl rfl) hPc hKc hDc) rfl rfl hl.1 rfl (lv_room (Nat.le_of_ble_eq_true rfl)) dL_law__2909 ⟨Nat.le_of_ble_eq_true rfl, Nat.le_of_ble_eq_true rfl⟩) hS (fun q _ h => hFc q h) hFc (fun r_4 u_4 t H1 locs ht0 hvm hw_4 hB hz1 hk1 hS => ?_)
  obtain ⟨hP1, hK1, hD1⟩ := hB
  rw [ht0] at hP1
  have hK1 := va_K.moved hvm.symm hK1
  obtain ⟨hP, hD⟩ := va_join (wr := [(o, .inl (cL, 1, .inr (.inl g_2)))]) (w1 := [((a 0), .inr (12, zMo a u_4))]) hP hD [0, 1] [2] rfl rfl (by decide) (by decide) hk1 hFc hP1 hD1
  generalize H1 = H at hP hS ⊢
  have hP : va_P D vwCl [(o, .inl (cL, 1, .inr (.inl g_2))), ((a 0), .inr (12, zMo a u_4))] H := hP
  have hD : va_D A [(o, .inl (cL, 1, .inr (.inl g_2))), ((a 0), .inr (12, zMo a u_4))] := hD
  refine lv_istore (lv' := [(6, .int r_4), (5, .int r_2), (0, .ref b), (1, .ref (h 0)), (2, .ref (a 0)), (3, .ref o), (4, .int 0)]) hx hb dL_law__2912 hl (by decide) rfl (fun ls hl => ?_)
  refine lv_aload_n hx hb dL_law__2914 rfl (lv_at hl 4 rfl) ?_
  refine vp_callSi (va_runV (As := []) (rest := []) ⟨hx, hb, hml, hown, ht⟩ (k_X12_thrown l D a u_4) (cwV 0 ht (zG_V zw_779 zw_780 zw_781 zw_2 zw_782) rfl rfl rfl (by decide +kernel) ⟨Nat.le_of_ble_eq_true rfl, Nat.le_of_ble_eq_true rfl⟩) (zR_V (va_recv hK hP (ci := 12) (q0 := 1) rfl rfl) (hP.sub (ws' := [((a 0), .inr (12, zMo a u_4))]) [1] rfl) (hK.sub (tys' := []) [] rfl)) rfl rfl hl.1 rfl (lv_room (Nat.le_of_ble_eq_true rfl)) dL_law__2915 ⟨Nat.le_of_ble_eq_true rfl, Nat.le_of_ble_eq_true rfl⟩).run (fun r_5 hw_5 => ?_)
  refine lv_iload hx hb dL_law__2918 (lv_at hl 1 rfl) ?_
  refine lv_icmp_eq (tgt := 2925) hx hb dL_law__2920 (by decide) (fun c_6 => ?_) (fun c_6 => ?_)
  · skip
    simp only [fa_lt, fa_le, fa_eq, Int32.reduceToInt] at c_6
    refine lv_iload hx hb dL_law__2925 (lv_at hl 1 rfl) ?_
    refine lv_if_ne (tgt := 2942) hx hb dL_law__2927 (by decide) (fun c_7 => ?_) (fun c_7 => ?_)
    · skip
      simp only [fa_lt, fa_le, fa_eq, Int32.reduceToInt] at c_7
      refine lv_goto (tgt := 3433) hx hb dL_law__2942 (by decide) ?_
      refine W.widen (k := 2000) (n := 400000) (Nat.le_of_ble_eq_true rfl) (Nat.le_of_ble_eq_true rfl) ?_
      exact zlaw_end hx hb hml hr hown ht hlocks hX hbl hL hAe hS (lv_sub hl [2, 6] rfl)
    · skip
      simp only [fa_lt, fa_le, fa_eq, Int32.reduceToInt] at c_7
      refine lv_aload_n hx hb dL_law__2930 rfl (lv_at hl 5 rfl) ?_
      refine lv_iconst (v := 0) hx hb dL_law__2931 (by decide) ?_
      refine va_lald hx hb hK hP 0 1 rfl rfl (vp_in_iff.mpr (by decide)) dL_law__2932 ?_
      refine W.eq (g2 := F0 m 2933 ls (.long (g_2 0) :: [])) rfl ?_
      refine lv_iload hx hb dL_law__2933 (lv_at hl 0 rfl) ?_
      refine lv_i2l (v := (r_4).toInt64) hx hb dL_law__2935 rfl ?_
      refine W.lcmp hx hb dL_law__2936 ?_
      refine lv_if_eq (tgt := 2942) hx hb dL_law__2937 (by decide) (fun c_8 => ?_) (fun c_8 => ?_)
      · skip
        refine lv_goto (tgt := 3433) hx hb dL_law__2942 (by decide) ?_
        refine W.widen (k := 2000) (n := 400000) (Nat.le_of_ble_eq_true rfl) (Nat.le_of_ble_eq_true rfl) ?_
        exact zlaw_end hx hb hml hr hown ht hlocks hX hbl hL hAe hS (lv_sub hl [2, 6] rfl)
      · skip
        simp only [fa_lt, fa_le, fa_eq, Int32.reduceToInt] at c_8
        exfalso; exact c_8 (by rw [hg_2, ← (zF_wrong hw_4 hw_2).2 ((zF_wrong hw_4 hw_2).1.trans (Int32.toInt_inj.mp (show r_2.toInt = (0 : Int32).toInt by rw [c_7]; rfl)))]; rw [zcmp_self]; rfl)
  · skip
    simp only [fa_lt, fa_le, fa_eq, Int32.reduceToInt] at c_6
    exfalso; exact c_6 (by rw [hw_5, (zF_wrong hw_4 hw_2).1])
set_option maxHeartbeats 4000000 in
set_option maxRecDepth 100000 in
theorem zcase_relation {p : Program} {l : Launch} {e : Env} {s : State} {m : MethodId} {below : List Frame} {meth : Method} {c : Code} {b L : Nat} {xs : Nat → Int32} {A : Nat → Prop} (D : va_G) (h cs : Nat → Nat) (fn : Nat → Option Nat) (hn : ∀ k : Nat, k < 4 → fn k = some (h 8)) (o : Nat) (cL : ClassId) (a : Nat → Nat) (cI : ClassId) (hx : p.tables.exec = Jvm.exec) (hb : c.code = code) (hml : c.maxLocals = 9) (hr : meth.sig.returnType = ret) (hown : s.vm.findClass RL = some m.cls) (ht : ∀ w ∈ zT, w.before #[Value.ref b] s = true) (hlocks : meth.locks = false) (hX : va_X b L xs s s.heap) (hbl : b < s.heap.size) (hL : L = 6) (hAe : ∀ q : Nat, A q ↔ s.heap.size ≤ q) (hl0 : l.stackTraces = false) (hEx : zEx A s) (hNc : zNc s) {H : Heap} {locs : List Loc} {ls : Array Slot} (hK : va_K D vwCl [((cs 0), .object RX0), (cL, .long), (cI, .int)] s) (hP : va_P D vwCl [((h 0), .inr (11, [.ref (h 1), .ref (h 9), .int 0, .int 0, .ref (h 20), .ref (h 37), .int 0, .ref (h 38), .ref (h 42), .ref (h 43), .ref (h 44), .ref (h 45), .ref (h 46), .ref (h 47), .ref (h 48)])), ((h 1), .inr (8, [.ref (h 2), .int 0, .ref (h 3), .ref (h 4), .int 0, .ref (h 5), .int 0, .ref (h 6), .int 0, .ref (h 7), .int 0])), ((h 7), .inl ((cs 0), 4, .inr (.inr (.inr (.inr fn))))), ((h 8), .inr (0, [.ref (h 102), .ref (h 103), .int 0])), ((h 46), .inr (1, [.ref (h 84), .ref (h 85), .ref (h 86), .ref (h 87), .int 0, .int 0, .int (-1), .int 0, .int (-1), .int (-1), .int 0])), (o, .inl (cL, 1, .inr (.inl (fun _ => 0)))), ((a 0), .inr (12, zMo a zI0)), ((a 1), .inl (cI, 6792, .inl zI0))] H) (hD : va_D A [((h 0), .inr (11, [.ref (h 1), .ref (h 9), .int 0, .int 0, .ref (h 20), .ref (h 37), .int 0, .ref (h 38), .ref (h 42), .ref (h 43), .ref (h 44), .ref (h 45), .ref (h 46), .ref (h 47), .ref (h 48)])), ((h 1), .inr (8, [.ref (h 2), .int 0, .ref (h 3), .ref (h 4), .int 0, .ref (h 5), .int 0, .ref (h 6), .int 0, .ref (h 7), .int 0])), ((h 7), .inl ((cs 0), 4, .inr (.inr (.inr (.inr fn))))), ((h 8), .inr (0, [.ref (h 102), .ref (h 103), .int 0])), ((h 46), .inr (1, [.ref (h 84), .ref (h 85), .ref (h 86), .ref (h 87), .int 0, .int 0, .int (-1), .int 0, .int (-1), .int (-1), .int 0])), (o, .inl (cL, 1, .inr (.inl (fun _ => 0)))), ((a 0), .inr (12, zMo a zI0)), ((a 1), .inl (cI, 6792, .inl zI0))]) (hS : va_S A s.heap H locs) (hl : lv_has ls 9 [(0, .ref b), (1, .ref (h 0)), (2, .ref (a 0)), (3, .ref o), (4, .int 0)]) : W p l e room_1 s m #[Value.ref b] below meth c H locs 1192 188302 (lw_Z below #[Value.ref b] s) (F0 m 2945 ls []) := by
  have hbA : ¬ A b := fun h => Nat.not_le.mpr hbl ((hAe b).mp h)
  have hA : ∀ q : Nat, s.heap.size ≤ q → A q := fun q h => (hAe q).mpr h
  refine lv_aload_n hx hb dL_law__2945 rfl (lv_at hl 1 rfl) ?_
  refine lv_aload_n hx hb dL_law__2946 rfl (lv_at hl 0 rfl) ?_
  refine lv_iload hx hb dL_law__2947 (lv_at hl 4 rfl) ?_
  refine lv_iconst (v := 1) hx hb dL_law__2949 (by decide) ?_
  refine lv_iadd hx hb dL_law__2950 ?_
  refine lv_topi (fun x_1 e_1 => ?_)
  obtain rfl : x_1 = 1 := e_1.trans (by decide)
  refine va_sld hx hb hX hbl hbA hS (by rw [hL]; exact vp_in_iff.mpr (by decide)) dL_law__2951 ?_
  refine W.eq (g2 := F0 m 2952 ls (.int (xs 1) :: .ref (h 0) :: [])) rfl ?_
  refine lv_aload_n hx hb dL_law__2952 rfl (lv_at hl 3 rfl) ?_
  have hPc := hP.sub (ws' := [((h 0), .inr (11, [.ref (h 1), .ref (h 9), .int 0, .int 0, .ref (h 20), .ref (h 37), .int 0, .ref (h 38), .ref (h 42), .ref (h 43), .ref (h 44), .ref (h 45), .ref (h 46), .ref (h 47), .ref (h 48)])), ((h 1), .inr (8, [.ref (h 2), .int 0, .ref (h 3), .ref (h 4), .int 0, .ref (h 5), .int 0, .ref (h 6), .int 0, .ref (h 7), .int 0])), ((h 7), .inl ((cs 0), 4, .inr (.inr (.inr (.inr fn))))), ((h 8), .inr (0, [.ref (h 102), .ref (h 103), .int 0])), ((h 46), .inr (1, [.ref (h 84), .ref (h 85), .ref (h 86), .ref (h 87), .int 0, .int 0, .int (-1), .int 0, .int (-1), .int (-1), .int 0])), (o, .inl (cL, 1, .inr (.inl (fun _ => 0))))]) [0, 1, 2, 3, 4, 5] rfl
  have hDc := hD.sub (ws' := [((h 0), .inr (11, [.ref (h 1), .ref (h 9), .int 0, .int 0, .ref (h 20), .ref (h 37), .int 0, .ref (h 38), .ref (h 42), .ref (h 43), .ref (h 44), .ref (h 45), .ref (h 46), .ref (h 47), .ref (h 48)])), ((h 1), .inr (8, [.ref (h 2), .int 0, .ref (h 3), .ref (h 4), .int 0, .ref (h 5), .int 0, .ref (h 6), .int 0, .ref (h 7), .int 0])), ((h 7), .inl ((cs 0), 4, .inr (.inr (.inr (.inr fn))))), ((h 8), .inr (0, [.ref (h 102), .ref (h 103), .int 0])), ((h 46), .inr (1, [.ref (h 84), .ref (h 85), .ref (h 86), .ref (h 87), .int 0, .int 0, .int (-1), .int 0, .int (-1), .int (-1), .int 0])), (o, .inl (cL, 1, .inr (.inl (fun _ => 0))))]) [0, 1, 2, 3, 4, 5] (by decide) rfl
  have hKc := hK.sub (tys' := [((cs 0), .object RX0), (cL, .long)]) [0, 1] rfl
  have hFc := va_free (wc := [((h 0), .inr (11, [.ref (h 1), .ref (h 9), .int 0, .int 0, .ref (h 20), .ref (h 37), .int 0, .ref (h 38), .ref (h 42), .ref (h 43), .ref (h 44), .ref (h 45), .ref (h 46), .ref (h 47), .ref (h 48)])), ((h 1), .inr (8, [.ref (h 2), .int 0, .ref (h 3), .ref (h 4), .int 0, .ref (h 5), .int 0, .ref (h 6), .int 0, .ref (h 7), .int 0])), ((h 7), .inl ((cs 0), 4, .inr (.inr (.inr (.inr fn))))), ((h 8), .inr (0, [.ref (h 102), .ref (h 103), .int 0])), ((h 46), .inr (1, [.ref (h 84), .ref (h 85), .ref (h 86), .ref (h 87), .int 0, .int 0, .int (-1), .int 0, .int (-1), .int (-1), .int 0])), (o, .inl (cL, 1, .inr (.inl (fun _ => 0))))]) hD hS hA [0, 1, 2, 3, 4, 5] rfl
  refine va_calli (vx_runSW (As := [.ref (h 0), .int (xs 1), .ref o]) (rest := []) ⟨hx, hb, hml, hown, ht⟩ (k_L_relation l hl0 _ D h cs (xs 1) fn hn o cL) (vx_cwSW 3 ht (zG_S zw_1062 zw_1063 zw_773 zw_1064) rfl rfl rfl (by decide +kernel) ⟨Nat.le_of_ble_eq_true rfl, Nat.le_of_ble_eq_true rfl⟩) (zY_S hNc hEx hS hFc hPc hKc hDc) rfl rfl hl.1 rfl (lv_room (Nat.le_of_ble_eq_true rfl)) dL_law__2953 ⟨Nat.le_of_ble_eq_true rfl, Nat.le_of_ble_eq_true rfl⟩) hS (fun q _ h => hFc q h) hFc (fun r_2 u_2 t H1 locs ht0 hvm hw_2 hB hz1 hk1 hS => ?_)
  obtain ⟨g_2, hg_2, hB⟩ := hB
  obtain ⟨hP1, hK1, hD1⟩ := hB
  rw [ht0] at hP1
  have hK1 := va_K.moved hvm.symm hK1
  obtain ⟨hP, hD⟩ := va_join (wr := [((a 0), .inr (12, zMo a zI0)), ((a 1), .inl (cI, 6792, .inl zI0))]) (w1 := [(o, .inl (cL, 1, .inr (.inl g_2)))]) hP hD [0, 1, 2, 3, 4, 5] [6, 7] rfl rfl (by decide) (by decide) hk1 hFc hP1 hD1
  generalize H1 = H at hP hS ⊢
  have hP : va_P D vwCl [((a 0), .inr (12, zMo a zI0)), ((a 1), .inl (cI, 6792, .inl zI0)), (o, .inl (cL, 1, .inr (.inl g_2)))] H := hP
  have hD : va_D A [((a 0), .inr (12, zMo a zI0)), ((a 1), .inl (cI, 6792, .inl zI0)), (o, .inl (cL, 1, .inr (.inl g_2)))] := hD
  refine W.widen (k := 1193) (n := 188308) (Nat.le_of_ble_eq_true rfl) (Nat.le_of_ble_eq_true rfl) ?_
  refine lv_istore (lv' := [(5, .int r_2), (0, .ref b), (1, .ref (h 0)), (2, .ref (a 0)), (3, .ref o), (4, .int 0)]) hx hb dL_law__2956 hl (by decide) rfl (fun ls hl => ?_)
  refine lv_aload_n hx hb dL_law__2958 rfl (lv_at hl 3 rfl) ?_
  refine lv_aload_n hx hb dL_law__2959 rfl (lv_at hl 1 rfl) ?_
  refine lv_iload hx hb dL_law__2960 (lv_at hl 5 rfl) ?_
  refine lv_iconst (v := 1) hx hb dL_law__2962 (by decide) ?_
  refine lv_iadd hx hb dL_law__2963 ?_
  refine lv_topi (fun x_3 e_3 => ?_)
  obtain rfl : x_3 = 1 := e_3.trans (by decide)
  refine va_sld hx hb hX hbl hbA hS (by rw [hL]; exact vp_in_iff.mpr (by decide)) dL_law__2964 ?_
  refine W.eq (g2 := F0 m 2965 ls (.int (xs 1) :: .ref (a 0) :: [])) rfl ?_
  have hPc := hP.sub (ws' := [((a 0), .inr (12, zMo a zI0)), ((a 1), .inl (cI, 6792, .inl zI0))]) [0, 1] rfl
  have hDc := hD.sub (ws' := [((a 0), .inr (12, zMo a zI0)), ((a 1), .inl (cI, 6792, .inl zI0))]) [0, 1] (by decide) rfl
  have hKc := hK.sub (tys' := [(cI, .int)]) [2] rfl
  have hFc := va_free (wc := [((a 0), .inr (12, zMo a zI0)), ((a 1), .inl (cI, 6792, .inl zI0))]) hD hS hA [0, 1] rfl
  refine va_calli (va_runV (As := [.int (xs 1)]) (rest := []) ⟨hx, hb, hml, hown, ht⟩ (k_X12_relation l _ D a cI (xs 1)) (cwV 1 ht (zG_V zw_1065 zw_1066 zw_1067 zw_2 zw_1068) rfl rfl rfl (by decide +kernel) ⟨Nat.le_of_ble_eq_true rfl, Nat.le_of_ble_eq_true rfl⟩) (zM_V (va_recv hK hP (ci := 12) (q0 := 0) rfl rfl) hPc hKc hDc) rfl rfl hl.1 rfl (lv_room (Nat.le_of_ble_eq_true rfl)) dL_law__2965 ⟨Nat.le_of_ble_eq_true rfl, Nat.le_of_ble_eq_true rfl⟩) hS (fun q _ h => hFc q h) hFc (fun r_4 u_4 t H1 locs ht0 hvm hw_4 hB hz1 hk1 hS => ?_)
  obtain ⟨hP1, hK1, hD1⟩ := hB
  rw [ht0] at hP1
  have hK1 := va_K.moved hvm.symm hK1
  obtain ⟨hP, hD⟩ := va_join (wr := [(o, .inl (cL, 1, .inr (.inl g_2)))]) (w1 := [((a 0), .inr (12, zMo a u_4))]) hP hD [0, 1] [2] rfl rfl (by decide) (by decide) hk1 hFc hP1 hD1
  generalize H1 = H at hP hS ⊢
  have hP : va_P D vwCl [(o, .inl (cL, 1, .inr (.inl g_2))), ((a 0), .inr (12, zMo a u_4))] H := hP
  have hD : va_D A [(o, .inl (cL, 1, .inr (.inl g_2))), ((a 0), .inr (12, zMo a u_4))] := hD
  refine lv_istore (lv' := [(6, .int r_4), (5, .int r_2), (0, .ref b), (1, .ref (h 0)), (2, .ref (a 0)), (3, .ref o), (4, .int 0)]) hx hb dL_law__2968 hl (by decide) rfl (fun ls hl => ?_)
  refine lv_aload_n hx hb dL_law__2970 rfl (lv_at hl 4 rfl) ?_
  refine vp_callSi (va_runV (As := []) (rest := []) ⟨hx, hb, hml, hown, ht⟩ (k_X12_thrown l D a u_4) (cwV 0 ht (zG_V zw_779 zw_780 zw_781 zw_2 zw_782) rfl rfl rfl (by decide +kernel) ⟨Nat.le_of_ble_eq_true rfl, Nat.le_of_ble_eq_true rfl⟩) (zR_V (va_recv hK hP (ci := 12) (q0 := 1) rfl rfl) (hP.sub (ws' := [((a 0), .inr (12, zMo a u_4))]) [1] rfl) (hK.sub (tys' := []) [] rfl)) rfl rfl hl.1 rfl (lv_room (Nat.le_of_ble_eq_true rfl)) dL_law__2971 ⟨Nat.le_of_ble_eq_true rfl, Nat.le_of_ble_eq_true rfl⟩).run (fun r_5 hw_5 => ?_)
  refine lv_iload hx hb dL_law__2974 (lv_at hl 1 rfl) ?_
  refine lv_icmp_eq (tgt := 2981) hx hb dL_law__2976 (by decide) (fun c_6 => ?_) (fun c_6 => ?_)
  · skip
    simp only [fa_lt, fa_le, fa_eq, Int32.reduceToInt] at c_6
    refine lv_iload hx hb dL_law__2981 (lv_at hl 1 rfl) ?_
    refine lv_if_ne (tgt := 2998) hx hb dL_law__2983 (by decide) (fun c_7 => ?_) (fun c_7 => ?_)
    · skip
      simp only [fa_lt, fa_le, fa_eq, Int32.reduceToInt] at c_7
      refine lv_goto (tgt := 3433) hx hb dL_law__2998 (by decide) ?_
      refine W.widen (k := 2000) (n := 400000) (Nat.le_of_ble_eq_true rfl) (Nat.le_of_ble_eq_true rfl) ?_
      exact zlaw_end hx hb hml hr hown ht hlocks hX hbl hL hAe hS (lv_sub hl [2, 6] rfl)
    · skip
      simp only [fa_lt, fa_le, fa_eq, Int32.reduceToInt] at c_7
      refine lv_aload_n hx hb dL_law__2986 rfl (lv_at hl 5 rfl) ?_
      refine lv_iconst (v := 0) hx hb dL_law__2987 (by decide) ?_
      refine va_lald hx hb hK hP 0 1 rfl rfl (vp_in_iff.mpr (by decide)) dL_law__2988 ?_
      refine W.eq (g2 := F0 m 2989 ls (.long (g_2 0) :: [])) rfl ?_
      refine lv_iload hx hb dL_law__2989 (lv_at hl 0 rfl) ?_
      refine lv_i2l (v := (r_4).toInt64) hx hb dL_law__2991 rfl ?_
      refine W.lcmp hx hb dL_law__2992 ?_
      refine lv_if_eq (tgt := 2998) hx hb dL_law__2993 (by decide) (fun c_8 => ?_) (fun c_8 => ?_)
      · skip
        refine lv_goto (tgt := 3433) hx hb dL_law__2998 (by decide) ?_
        refine W.widen (k := 2000) (n := 400000) (Nat.le_of_ble_eq_true rfl) (Nat.le_of_ble_eq_true rfl) ?_
        exact zlaw_end hx hb hml hr hown ht hlocks hX hbl hL hAe hS (lv_sub hl [2, 6] rfl)
      · skip
        simp only [fa_lt, fa_le, fa_eq, Int32.reduceToInt] at c_8
        exfalso; exact c_8 (by rw [hg_2, ← (zF_relation hw_4 hw_2).2 ((zF_relation hw_4 hw_2).1.trans (Int32.toInt_inj.mp (show r_2.toInt = (0 : Int32).toInt by rw [c_7]; rfl)))]; rw [zcmp_self]; rfl)
  · skip
    simp only [fa_lt, fa_le, fa_eq, Int32.reduceToInt] at c_6
    exfalso; exact c_6 (by rw [hw_5, (zF_relation hw_4 hw_2).1])
