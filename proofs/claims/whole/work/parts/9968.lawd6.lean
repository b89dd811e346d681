theorem dL_law_2580 : decode cL_law 2580 = .ok (.istore 7, 2) := by decide +kernel
theorem dL_law_2582 : decode cL_law 2582 = .ok (.aload_n 2, 1) := by decide +kernel
theorem dL_law_2583 : decode cL_law 2583 = .ok (.invokevirtual 168, 3) := by decide +kernel
theorem dL_law_2586 : decode cL_law 2586 = .ok (.iload 6, 2) := by decide +kernel
theorem dL_law_2588 : decode cL_law 2588 = .ok (.if_icmp .eq 5, 3) := by decide +kernel
theorem dL_law_2591 : decode cL_law 2591 = .ok (.iconst 0, 1) := by decide +kernel
theorem dL_law_2592 : decode cL_law 2592 = .ok (.ireturn, 1) := by decide +kernel
theorem dL_law_2593 : decode cL_law 2593 = .ok (.iload 6, 2) := by decide +kernel
theorem dL_law_2595 : decode cL_law 2595 = .ok (.ifCond .ne 15, 3) := by decide +kernel
theorem dL_law_2598 : decode cL_law 2598 = .ok (.aload_n 3, 1) := by decide +kernel
theorem dL_law_2599 : decode cL_law 2599 = .ok (.iconst 0, 1) := by decide +kernel
theorem dL_law_2600 : decode cL_law 2600 = .ok (.laload, 1) := by decide +kernel
theorem dL_law_2601 : decode cL_law 2601 = .ok (.iload 7, 2) := by decide +kernel
theorem dL_law_2603 : decode cL_law 2603 = .ok (.i2l, 1) := by decide +kernel
theorem dL_law_2604 : decode cL_law 2604 = .ok (.lcmp, 1) := by decide +kernel
theorem dL_law_2605 : decode cL_law 2605 = .ok (.ifCond .eq 5, 3) := by decide +kernel
theorem dL_law_2608 : decode cL_law 2608 = .ok (.iconst 0, 1) := by decide +kernel
theorem dL_law_2609 : decode cL_law 2609 = .ok (.ireturn, 1) := by decide +kernel
theorem dL_law_2610 : decode cL_law 2610 = .ok (.goto 751, 3) := by decide +kernel
theorem dL_law_2613 : decode cL_law 2613 = .ok (.aload_n 1, 1) := by decide +kernel
theorem dL_law_2614 : decode cL_law 2614 = .ok (.aload_n 0, 1) := by decide +kernel
theorem dL_law_2615 : decode cL_law 2615 = .ok (.iload 5, 2) := by decide +kernel
theorem dL_law_2617 : decode cL_law 2617 = .ok (.iconst 1, 1) := by decide +kernel
theorem dL_law_2618 : decode cL_law 2618 = .ok (.iadd, 1) := by decide +kernel
theorem dL_law_2619 : decode cL_law 2619 = .ok (.iaload, 1) := by decide +kernel
theorem dL_law_2620 : decode cL_law 2620 = .ok (.aload_n 3, 1) := by decide +kernel
theorem dL_law_2621 : decode cL_law 2621 = .ok (.invokestatic 305, 3) := by decide +kernel
theorem dL_law_2624 : decode cL_law 2624 = .ok (.istore 6, 2) := by decide +kernel
theorem dL_law_2626 : decode cL_law 2626 = .ok (.aload_n 2, 1) := by decide +kernel
theorem dL_law_2627 : decode cL_law 2627 = .ok (.aload_n 0, 1) := by decide +kernel
theorem dL_law_2628 : decode cL_law 2628 = .ok (.iload 5, 2) := by decide +kernel
theorem dL_law_2630 : decode cL_law 2630 = .ok (.iconst 1, 1) := by decide +kernel
theorem dL_law_2631 : decode cL_law 2631 = .ok (.iadd, 1) := by decide +kernel
theorem dL_law_2632 : decode cL_law 2632 = .ok (.iaload, 1) := by decide +kernel
theorem dL_law_2633 : decode cL_law 2633 = .ok (.invokevirtual 307, 3) := by decide +kernel
theorem dL_law_2636 : decode cL_law 2636 = .ok (.istore 7, 2) := by decide +kernel
theorem dL_law_2638 : decode cL_law 2638 = .ok (.aload_n 2, 1) := by decide +kernel
theorem dL_law_2639 : decode cL_law 2639 = .ok (.invokevirtual 168, 3) := by decide +kernel
theorem dL_law_2642 : decode cL_law 2642 = .ok (.iload 6, 2) := by decide +kernel
theorem dL_law_2644 : decode cL_law 2644 = .ok (.if_icmp .eq 5, 3) := by decide +kernel
theorem dL_law_2647 : decode cL_law 2647 = .ok (.iconst 0, 1) := by decide +kernel
theorem dL_law_2648 : decode cL_law 2648 = .ok (.ireturn, 1) := by decide +kernel
theorem dL_law_2649 : decode cL_law 2649 = .ok (.iload 6, 2) := by decide +kernel
theorem dL_law_2651 : decode cL_law 2651 = .ok (.ifCond .ne 15, 3) := by decide +kernel
theorem dL_law_2654 : decode cL_law 2654 = .ok (.aload_n 3, 1) := by decide +kernel
theorem dL_law_2655 : decode cL_law 2655 = .ok (.iconst 0, 1) := by decide +kernel
theorem dL_law_2656 : decode cL_law 2656 = .ok (.laload, 1) := by decide +kernel
theorem dL_law_2657 : decode cL_law 2657 = .ok (.iload 7, 2) := by decide +kernel
theorem dL_law_2659 : decode cL_law 2659 = .ok (.i2l, 1) := by decide +kernel
theorem dL_law_2660 : decode cL_law 2660 = .ok (.lcmp, 1) := by decide +kernel
theorem dL_law_2661 : decode cL_law 2661 = .ok (.ifCond .eq 5, 3) := by decide +kernel
theorem dL_law_2664 : decode cL_law 2664 = .ok (.iconst 0, 1) := by decide +kernel
theorem dL_law_2665 : decode cL_law 2665 = .ok (.ireturn, 1) := by decide +kernel
theorem dL_law_2666 : decode cL_law 2666 = .ok (.goto 695, 3) := by decide +kernel
theorem dL_law_2669 : decode cL_law 2669 = .ok (.aload_n 1, 1) := by decide +kernel
theorem dL_law_2670 : decode cL_law 2670 = .ok (.aload_n 0, 1) := by decide +kernel
theorem dL_law_2671 : decode cL_law 2671 = .ok (.iload 5, 2) := by decide +kernel
theorem dL_law_2673 : decode cL_law 2673 = .ok (.iconst 1, 1) := by decide +kernel
theorem dL_law_2674 : decode cL_law 2674 = .ok (.iadd, 1) := by decide +kernel
theorem dL_law_2675 : decode cL_law 2675 = .ok (.iaload, 1) := by decide +kernel
theorem dL_law_2676 : decode cL_law 2676 = .ok (.aload_n 0, 1) := by decide +kernel
theorem dL_law_2677 : decode cL_law 2677 = .ok (.iload 5, 2) := by decide +kernel
theorem dL_law_2679 : decode cL_law 2679 = .ok (.iconst 2, 1) := by decide +kernel
theorem dL_law_2680 : decode cL_law 2680 = .ok (.iadd, 1) := by decide +kernel
theorem dL_law_2681 : decode cL_law 2681 = .ok (.iaload, 1) := by decide +kernel
theorem dL_law_2682 : decode cL_law 2682 = .ok (.aload_n 3, 1) := by decide +kernel
theorem dL_law_2683 : decode cL_law 2683 = .ok (.invokestatic 308, 3) := by decide +kernel
theorem dL_law_2686 : decode cL_law 2686 = .ok (.istore 6, 2) := by decide +kernel
theorem dL_law_2688 : decode cL_law 2688 = .ok (.aload_n 2, 1) := by decide +kernel
theorem dL_law_2689 : decode cL_law 2689 = .ok (.aload_n 0, 1) := by decide +kernel
theorem dL_law_2690 : decode cL_law 2690 = .ok (.iload 5, 2) := by decide +kernel
theorem dL_law_2692 : decode cL_law 2692 = .ok (.iconst 1, 1) := by decide +kernel
theorem dL_law_2693 : decode cL_law 2693 = .ok (.iadd, 1) := by decide +kernel
theorem dL_law_2694 : decode cL_law 2694 = .ok (.iaload, 1) := by decide +kernel
theorem dL_law_2695 : decode cL_law 2695 = .ok (.aload_n 0, 1) := by decide +kernel
theorem dL_law_2696 : decode cL_law 2696 = .ok (.iload 5, 2) := by decide +kernel
theorem dL_law_2698 : decode cL_law 2698 = .ok (.iconst 2, 1) := by decide +kernel
theorem dL_law_2699 : decode cL_law 2699 = .ok (.iadd, 1) := by decide +kernel
theorem dL_law_2700 : decode cL_law 2700 = .ok (.iaload, 1) := by decide +kernel
theorem dL_law_2701 : decode cL_law 2701 = .ok (.invokevirtual 310, 3) := by decide +kernel
theorem dL_law_2704 : decode cL_law 2704 = .ok (.istore 7, 2) := by decide +kernel
theorem dL_law_2706 : decode cL_law 2706 = .ok (.aload_n 2, 1) := by decide +kernel
theorem dL_law_2707 : decode cL_law 2707 = .ok (.invokevirtual 168, 3) := by decide +kernel
theorem dL_law_2710 : decode cL_law 2710 = .ok (.iload 6, 2) := by decide +kernel
theorem dL_law_2712 : decode cL_law 2712 = .ok (.if_icmp .eq 5, 3) := by decide +kernel
theorem dL_law_2715 : decode cL_law 2715 = .ok (.iconst 0, 1) := by decide +kernel
theorem dL_law_2716 : decode cL_law 2716 = .ok (.ireturn, 1) := by decide +kernel
theorem dL_law_2717 : decode cL_law 2717 = .ok (.iload 6, 2) := by decide +kernel
theorem dL_law_2719 : decode cL_law 2719 = .ok (.ifCond .ne 15, 3) := by decide +kernel
theorem dL_law_2722 : decode cL_law 2722 = .ok (.aload_n 3, 1) := by decide +kernel
theorem dL_law_2723 : decode cL_law 2723 = .ok (.iconst 0, 1) := by decide +kernel
theorem dL_law_2724 : decode cL_law 2724 = .ok (.laload, 1) := by decide +kernel
theorem dL_law_2725 : decode cL_law 2725 = .ok (.iload 7, 2) := by decide +kernel
theorem dL_law_2727 : decode cL_law 2727 = .ok (.i2l, 1) := by decide +kernel
theorem dL_law_2728 : decode cL_law 2728 = .ok (.lcmp, 1) := by decide +kernel
theorem dL_law_2729 : decode cL_law 2729 = .ok (.ifCond .eq 5, 3) := by decide +kernel
theorem dL_law_2732 : decode cL_law 2732 = .ok (.iconst 0, 1) := by decide +kernel
theorem dL_law_2733 : decode cL_law 2733 = .ok (.ireturn, 1) := by decide +kernel
theorem dL_law_2734 : decode cL_law 2734 = .ok (.goto 627, 3) := by decide +kernel
theorem dL_law_2737 : decode cL_law 2737 = .ok (.aload_n 1, 1) := by decide +kernel
theorem dL_law_2738 : decode cL_law 2738 = .ok (.aload_n 0, 1) := by decide +kernel
theorem dL_law_2739 : decode cL_law 2739 = .ok (.iload 5, 2) := by decide +kernel
theorem dL_law_2741 : decode cL_law 2741 = .ok (.iconst 1, 1) := by decide +kernel
theorem dL_law_2742 : decode cL_law 2742 = .ok (.iadd, 1) := by decide +kernel
theorem dL_law_2743 : decode cL_law 2743 = .ok (.iaload, 1) := by decide +kernel
theorem dL_law_2744 : decode cL_law 2744 = .ok (.aload_n 3, 1) := by decide +kernel
theorem dL_law_2745 : decode cL_law 2745 = .ok (.invokestatic 311, 3) := by decide +kernel
theorem dL_law_2748 : decode cL_law 2748 = .ok (.istore 6, 2) := by decide +kernel
theorem dL_law_2750 : decode cL_law 2750 = .ok (.aload_n 2, 1) := by decide +kernel
theorem dL_law_2751 : decode cL_law 2751 = .ok (.aload_n 0, 1) := by decide +kernel
theorem dL_law_2752 : decode cL_law 2752 = .ok (.iload 5, 2) := by decide +kernel
theorem dL_law_2754 : decode cL_law 2754 = .ok (.iconst 1, 1) := by decide +kernel
theorem dL_law_2755 : decode cL_law 2755 = .ok (.iadd, 1) := by decide +kernel
theorem dL_law_2756 : decode cL_law 2756 = .ok (.iaload, 1) := by decide +kernel
theorem dL_law_2757 : decode cL_law 2757 = .ok (.invokevirtual 313, 3) := by decide +kernel
theorem dL_law_2760 : decode cL_law 2760 = .ok (.istore 7, 2) := by decide +kernel
theorem dL_law_2762 : decode cL_law 2762 = .ok (.aload_n 2, 1) := by decide +kernel
theorem dL_law_2763 : decode cL_law 2763 = .ok (.invokevirtual 168, 3) := by decide +kernel
theorem dL_law_2766 : decode cL_law 2766 = .ok (.iload 6, 2) := by decide +kernel
theorem dL_law_2768 : decode cL_law 2768 = .ok (.if_icmp .eq 5, 3) := by decide +kernel
theorem dL_law_2771 : decode cL_law 2771 = .ok (.iconst 0, 1) := by decide +kernel
theorem dL_law_2772 : decode cL_law 2772 = .ok (.ireturn, 1) := by decide +kernel
theorem dL_law_2773 : decode cL_law 2773 = .ok (.iload 6, 2) := by decide +kernel
theorem dL_law_2775 : decode cL_law 2775 = .ok (.ifCond .ne 15, 3) := by decide +kernel
theorem dL_law_2778 : decode cL_law 2778 = .ok (.aload_n 3, 1) := by decide +kernel
theorem dL_law_2779 : decode cL_law 2779 = .ok (.iconst 0, 1) := by decide +kernel
theorem dL_law_2780 : decode cL_law 2780 = .ok (.laload, 1) := by decide +kernel
theorem dL_law_2781 : decode cL_law 2781 = .ok (.iload 7, 2) := by decide +kernel
theorem dL_law_2783 : decode cL_law 2783 = .ok (.i2l, 1) := by decide +kernel
theorem dL_law_2784 : decode cL_law 2784 = .ok (.lcmp, 1) := by decide +kernel
theorem dL_law_2785 : decode cL_law 2785 = .ok (.ifCond .eq 5, 3) := by decide +kernel
theorem dL_law_2788 : decode cL_law 2788 = .ok (.iconst 0, 1) := by decide +kernel
theorem dL_law_2789 : decode cL_law 2789 = .ok (.ireturn, 1) := by decide +kernel
theorem dL_law_2790 : decode cL_law 2790 = .ok (.goto 571, 3) := by decide +kernel
theorem dL_law_2793 : decode cL_law 2793 = .ok (.aload_n 1, 1) := by decide +kernel
theorem dL_law_2794 : decode cL_law 2794 = .ok (.aload_n 0, 1) := by decide +kernel
theorem dL_law_2795 : decode cL_law 2795 = .ok (.iload 5, 2) := by decide +kernel
theorem dL_law_2797 : decode cL_law 2797 = .ok (.iconst 1, 1) := by decide +kernel
theorem dL_law_2798 : decode cL_law 2798 = .ok (.iadd, 1) := by decide +kernel
theorem dL_law_2799 : decode cL_law 2799 = .ok (.iaload, 1) := by decide +kernel
theorem dL_law_2800 : decode cL_law 2800 = .ok (.aload_n 0, 1) := by decide +kernel
theorem dL_law_2801 : decode cL_law 2801 = .ok (.iload 5, 2) := by decide +kernel
theorem dL_law_2803 : decode cL_law 2803 = .ok (.iconst 2, 1) := by decide +kernel
theorem dL_law_2804 : decode cL_law 2804 = .ok (.iadd, 1) := by decide +kernel
theorem dL_law_2805 : decode cL_law 2805 = .ok (.iaload, 1) := by decide +kernel
theorem dL_law_2806 : decode cL_law 2806 = .ok (.aload_n 3, 1) := by decide +kernel
theorem dL_law_2807 : decode cL_law 2807 = .ok (.invokestatic 314, 3) := by decide +kernel
theorem dL_law_2810 : decode cL_law 2810 = .ok (.istore 6, 2) := by decide +kernel
theorem dL_law_2812 : decode cL_law 2812 = .ok (.aload_n 2, 1) := by decide +kernel
theorem dL_law_2813 : decode cL_law 2813 = .ok (.aload_n 0, 1) := by decide +kernel
theorem dL_law_2814 : decode cL_law 2814 = .ok (.iload 5, 2) := by decide +kernel
theorem dL_law_2816 : decode cL_law 2816 = .ok (.iconst 1, 1) := by decide +kernel
theorem dL_law_2817 : decode cL_law 2817 = .ok (.iadd, 1) := by decide +kernel
theorem dL_law_2818 : decode cL_law 2818 = .ok (.iaload, 1) := by decide +kernel
theorem dL_law_2819 : decode cL_law 2819 = .ok (.aload_n 0, 1) := by decide +kernel
theorem dL_law_2820 : decode cL_law 2820 = .ok (.iload 5, 2) := by decide +kernel
theorem dL_law_2822 : decode cL_law 2822 = .ok (.iconst 2, 1) := by decide +kernel
theorem dL_law_2823 : decode cL_law 2823 = .ok (.iadd, 1) := by decide +kernel
theorem dL_law_2824 : decode cL_law 2824 = .ok (.iaload, 1) := by decide +kernel
theorem dL_law_2825 : decode cL_law 2825 = .ok (.invokevirtual 316, 3) := by decide +kernel
theorem dL_law_2828 : decode cL_law 2828 = .ok (.istore 7, 2) := by decide +kernel
theorem dL_law_2830 : decode cL_law 2830 = .ok (.aload_n 2, 1) := by decide +kernel
theorem dL_law_2831 : decode cL_law 2831 = .ok (.invokevirtual 168, 3) := by decide +kernel
theorem dL_law_2834 : decode cL_law 2834 = .ok (.iload 6, 2) := by decide +kernel
theorem dL_law_2836 : decode cL_law 2836 = .ok (.if_icmp .eq 5, 3) := by decide +kernel
theorem dL_law_2839 : decode cL_law 2839 = .ok (.iconst 0, 1) := by decide +kernel
theorem dL_law_2840 : decode cL_law 2840 = .ok (.ireturn, 1) := by decide +kernel
theorem dL_law_2841 : decode cL_law 2841 = .ok (.iload 6, 2) := by decide +kernel
theorem dL_law_2843 : decode cL_law 2843 = .ok (.ifCond .ne 15, 3) := by decide +kernel
theorem dL_law_2846 : decode cL_law 2846 = .ok (.aload_n 3, 1) := by decide +kernel
theorem dL_law_2847 : decode cL_law 2847 = .ok (.iconst 0, 1) := by decide +kernel
theorem dL_law_2848 : decode cL_law 2848 = .ok (.laload, 1) := by decide +kernel
theorem dL_law_2849 : decode cL_law 2849 = .ok (.iload 7, 2) := by decide +kernel
theorem dL_law_2851 : decode cL_law 2851 = .ok (.i2l, 1) := by decide +kernel
theorem dL_law_2852 : decode cL_law 2852 = .ok (.lcmp, 1) := by decide +kernel
theorem dL_law_2853 : decode cL_law 2853 = .ok (.ifCond .eq 5, 3) := by decide +kernel
theorem dL_law_2856 : decode cL_law 2856 = .ok (.iconst 0, 1) := by decide +kernel
theorem dL_law_2857 : decode cL_law 2857 = .ok (.ireturn, 1) := by decide +kernel
theorem dL_law_2858 : decode cL_law 2858 = .ok (.goto 503, 3) := by decide +kernel
theorem dL_law_2861 : decode cL_law 2861 = .ok (.aload_n 1, 1) := by decide +kernel
theorem dL_law_2862 : decode cL_law 2862 = .ok (.aload_n 0, 1) := by decide +kernel
theorem dL_law_2863 : decode cL_law 2863 = .ok (.iload 5, 2) := by decide +kernel
theorem dL_law_2865 : decode cL_law 2865 = .ok (.iconst 1, 1) := by decide +kernel
theorem dL_law_2866 : decode cL_law 2866 = .ok (.iadd, 1) := by decide +kernel
theorem dL_law_2867 : decode cL_law 2867 = .ok (.iaload, 1) := by decide +kernel
theorem dL_law_2868 : decode cL_law 2868 = .ok (.aload_n 3, 1) := by decide +kernel
theorem dL_law_2869 : decode cL_law 2869 = .ok (.invokestatic 317, 3) := by decide +kernel
theorem dL_law_2872 : decode cL_law 2872 = .ok (.istore 6, 2) := by decide +kernel
theorem dL_law_2874 : decode cL_law 2874 = .ok (.aload_n 2, 1) := by decide +kernel
theorem dL_law_2875 : decode cL_law 2875 = .ok (.aload_n 0, 1) := by decide +kernel
theorem dL_law_2876 : decode cL_law 2876 = .ok (.iload 5, 2) := by decide +kernel
theorem dL_law_2878 : decode cL_law 2878 = .ok (.iconst 1, 1) := by decide +kernel
theorem dL_law_2879 : decode cL_law 2879 = .ok (.iadd, 1) := by decide +kernel
theorem dL_law_2880 : decode cL_law 2880 = .ok (.iaload, 1) := by decide +kernel
theorem dL_law_2881 : decode cL_law 2881 = .ok (.invokevirtual 319, 3) := by decide +kernel
theorem dL_law_2884 : decode cL_law 2884 = .ok (.istore 7, 2) := by decide +kernel
theorem dL_law_2886 : decode cL_law 2886 = .ok (.aload_n 2, 1) := by decide +kernel
theorem dL_law_2887 : decode cL_law 2887 = .ok (.invokevirtual 168, 3) := by decide +kernel
theorem dL_law_2890 : decode cL_law 2890 = .ok (.iload 6, 2) := by decide +kernel
theorem dL_law_2892 : decode cL_law 2892 = .ok (.if_icmp .eq 5, 3) := by decide +kernel
theorem dL_law_2895 : decode cL_law 2895 = .ok (.iconst 0, 1) := by decide +kernel
theorem dL_law_2896 : decode cL_law 2896 = .ok (.ireturn, 1) := by decide +kernel
theorem dL_law_2897 : decode cL_law 2897 = .ok (.iload 6, 2) := by decide +kernel
theorem dL_law_2899 : decode cL_law 2899 = .ok (.ifCond .ne 15, 3) := by decide +kernel
theorem dL_law_2902 : decode cL_law 2902 = .ok (.aload_n 3, 1) := by decide +kernel
theorem dL_law_2903 : decode cL_law 2903 = .ok (.iconst 0, 1) := by decide +kernel
theorem dL_law_2904 : decode cL_law 2904 = .ok (.laload, 1) := by decide +kernel
theorem dL_law_2905 : decode cL_law 2905 = .ok (.iload 7, 2) := by decide +kernel
theorem dL_law_2907 : decode cL_law 2907 = .ok (.i2l, 1) := by decide +kernel
theorem dL_law_2908 : decode cL_law 2908 = .ok (.lcmp, 1) := by decide +kernel
theorem dL_law_2909 : decode cL_law 2909 = .ok (.ifCond .eq 5, 3) := by decide +kernel
theorem dL_law_2912 : decode cL_law 2912 = .ok (.iconst 0, 1) := by decide +kernel
theorem dL_law_2913 : decode cL_law 2913 = .ok (.ireturn, 1) := by decide +kernel
theorem dL_law_2914 : decode cL_law 2914 = .ok (.goto 447, 3) := by decide +kernel
theorem dL_law_2917 : decode cL_law 2917 = .ok (.aload_n 1, 1) := by decide +kernel
theorem dL_law_2918 : decode cL_law 2918 = .ok (.aload_n 0, 1) := by decide +kernel
theorem dL_law_2919 : decode cL_law 2919 = .ok (.iload 5, 2) := by decide +kernel
theorem dL_law_2921 : decode cL_law 2921 = .ok (.iconst 1, 1) := by decide +kernel
theorem dL_law_2922 : decode cL_law 2922 = .ok (.iadd, 1) := by decide +kernel
theorem dL_law_2923 : decode cL_law 2923 = .ok (.iaload, 1) := by decide +kernel
theorem dL_law_2924 : decode cL_law 2924 = .ok (.aload_n 0, 1) := by decide +kernel
theorem dL_law_2925 : decode cL_law 2925 = .ok (.iload 5, 2) := by decide +kernel
theorem dL_law_2927 : decode cL_law 2927 = .ok (.iconst 2, 1) := by decide +kernel
theorem dL_law_2928 : decode cL_law 2928 = .ok (.iadd, 1) := by decide +kernel
theorem dL_law_2929 : decode cL_law 2929 = .ok (.iaload, 1) := by decide +kernel
theorem dL_law_2930 : decode cL_law 2930 = .ok (.aload_n 0, 1) := by decide +kernel
theorem dL_law_2931 : decode cL_law 2931 = .ok (.iload 5, 2) := by decide +kernel
theorem dL_law_2933 : decode cL_law 2933 = .ok (.iconst 3, 1) := by decide +kernel
theorem dL_law_2934 : decode cL_law 2934 = .ok (.iadd, 1) := by decide +kernel
theorem dL_law_2935 : decode cL_law 2935 = .ok (.iaload, 1) := by decide +kernel
theorem dL_law_2936 : decode cL_law 2936 = .ok (.aload_n 0, 1) := by decide +kernel
theorem dL_law_2937 : decode cL_law 2937 = .ok (.iload 5, 2) := by decide +kernel
theorem dL_law_2939 : decode cL_law 2939 = .ok (.iconst 4, 1) := by decide +kernel
theorem dL_law_2940 : decode cL_law 2940 = .ok (.iadd, 1) := by decide +kernel
theorem dL_law_2941 : decode cL_law 2941 = .ok (.iaload, 1) := by decide +kernel
theorem dL_law_2942 : decode cL_law 2942 = .ok (.aload_n 0, 1) := by decide +kernel
theorem dL_law_2943 : decode cL_law 2943 = .ok (.iload 5, 2) := by decide +kernel
theorem dL_law_2945 : decode cL_law 2945 = .ok (.iconst 5, 1) := by decide +kernel
theorem dL_law_2946 : decode cL_law 2946 = .ok (.iadd, 1) := by decide +kernel
theorem dL_law_2947 : decode cL_law 2947 = .ok (.iaload, 1) := by decide +kernel
theorem dL_law_2948 : decode cL_law 2948 = .ok (.aload_n 3, 1) := by decide +kernel
theorem dL_law_2949 : decode cL_law 2949 = .ok (.invokestatic 320, 3) := by decide +kernel
theorem dL_law_2952 : decode cL_law 2952 = .ok (.istore 6, 2) := by decide +kernel
theorem dL_law_2954 : decode cL_law 2954 = .ok (.aload_n 2, 1) := by decide +kernel
theorem dL_law_2955 : decode cL_law 2955 = .ok (.aload_n 0, 1) := by decide +kernel
theorem dL_law_2956 : decode cL_law 2956 = .ok (.iload 5, 2) := by decide +kernel
theorem dL_law_2958 : decode cL_law 2958 = .ok (.iconst 1, 1) := by decide +kernel
theorem dL_law_2959 : decode cL_law 2959 = .ok (.iadd, 1) := by decide +kernel
theorem dL_law_2960 : decode cL_law 2960 = .ok (.iaload, 1) := by decide +kernel
theorem dL_law_2961 : decode cL_law 2961 = .ok (.aload_n 0, 1) := by decide +kernel
