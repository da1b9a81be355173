theorem dX12_init_631 : decode cX12_init 631 = .ok (.bipush 110, 2) := by decide +kernel
theorem dX12_init_633 : decode cX12_init 633 = .ok (.bipush 100, 2) := by decide +kernel
theorem dX12_init_635 : decode cX12_init 635 = .ok (.iconst 0, 1) := by decide +kernel
theorem dX12_init_636 : decode cX12_init 636 = .ok (.iconst 0, 1) := by decide +kernel
theorem dX12_init_637 : decode cX12_init 637 = .ok (.iconst 0, 1) := by decide +kernel
theorem dX12_init_638 : decode cX12_init 638 = .ok (.invokestatic 194, 3) := by decide +kernel
theorem dX12_init_641 : decode cX12_init 641 = .ok (.lastore, 1) := by decide +kernel
theorem dX12_init_642 : decode cX12_init 642 = .ok (.aload_n 0, 1) := by decide +kernel
theorem dX12_init_643 : decode cX12_init 643 = .ok (.getfield 34, 3) := by decide +kernel
theorem dX12_init_646 : decode cX12_init 646 = .ok (.bipush 8, 2) := by decide +kernel
theorem dX12_init_648 : decode cX12_init 648 = .ok (.bipush 97, 2) := by decide +kernel
theorem dX12_init_650 : decode cX12_init 650 = .ok (.bipush 104, 2) := by decide +kernel
theorem dX12_init_652 : decode cX12_init 652 = .ok (.bipush 101, 2) := by decide +kernel
theorem dX12_init_654 : decode cX12_init 654 = .ok (.bipush 97, 2) := by decide +kernel
theorem dX12_init_656 : decode cX12_init 656 = .ok (.bipush 100, 2) := by decide +kernel
theorem dX12_init_658 : decode cX12_init 658 = .ok (.iconst 0, 1) := by decide +kernel
theorem dX12_init_659 : decode cX12_init 659 = .ok (.iconst 0, 1) := by decide +kernel
theorem dX12_init_660 : decode cX12_init 660 = .ok (.invokestatic 194, 3) := by decide +kernel
theorem dX12_init_663 : decode cX12_init 663 = .ok (.lastore, 1) := by decide +kernel
theorem dX12_init_664 : decode cX12_init 664 = .ok (.aload_n 0, 1) := by decide +kernel
theorem dX12_init_665 : decode cX12_init 665 = .ok (.getfield 34, 3) := by decide +kernel
theorem dX12_init_668 : decode cX12_init 668 = .ok (.bipush 9, 2) := by decide +kernel
theorem dX12_init_670 : decode cX12_init 670 = .ok (.bipush 115, 2) := by decide +kernel
theorem dX12_init_672 : decode cX12_init 672 = .ok (.bipush 97, 2) := by decide +kernel
theorem dX12_init_674 : decode cX12_init 674 = .ok (.bipush 109, 2) := by decide +kernel
theorem dX12_init_676 : decode cX12_init 676 = .ok (.bipush 101, 2) := by decide +kernel
theorem dX12_init_678 : decode cX12_init 678 = .ok (.iconst 0, 1) := by decide +kernel
theorem dX12_init_679 : decode cX12_init 679 = .ok (.iconst 0, 1) := by decide +kernel
theorem dX12_init_680 : decode cX12_init 680 = .ok (.iconst 0, 1) := by decide +kernel
theorem dX12_init_681 : decode cX12_init 681 = .ok (.invokestatic 194, 3) := by decide +kernel
theorem dX12_init_684 : decode cX12_init 684 = .ok (.lastore, 1) := by decide +kernel
theorem dX12_init_685 : decode cX12_init 685 = .ok (.aload_n 0, 1) := by decide +kernel
theorem dX12_init_686 : decode cX12_init 686 = .ok (.getfield 34, 3) := by decide +kernel
theorem dX12_init_689 : decode cX12_init 689 = .ok (.bipush 10, 2) := by decide +kernel
theorem dX12_init_691 : decode cX12_init 691 = .ok (.bipush 98, 2) := by decide +kernel
theorem dX12_init_693 : decode cX12_init 693 = .ok (.bipush 97, 2) := by decide +kernel
theorem dX12_init_695 : decode cX12_init 695 = .ok (.bipush 115, 2) := by decide +kernel
theorem dX12_init_697 : decode cX12_init 697 = .ok (.bipush 101, 2) := by decide +kernel
theorem dX12_init_699 : decode cX12_init 699 = .ok (.iconst 0, 1) := by decide +kernel
theorem dX12_init_700 : decode cX12_init 700 = .ok (.iconst 0, 1) := by decide +kernel
theorem dX12_init_701 : decode cX12_init 701 = .ok (.iconst 0, 1) := by decide +kernel
theorem dX12_init_702 : decode cX12_init 702 = .ok (.invokestatic 194, 3) := by decide +kernel
theorem dX12_init_705 : decode cX12_init 705 = .ok (.lastore, 1) := by decide +kernel
theorem dX12_init_706 : decode cX12_init 706 = .ok (.aload_n 0, 1) := by decide +kernel
theorem dX12_init_707 : decode cX12_init 707 = .ok (.getfield 34, 3) := by decide +kernel
theorem dX12_init_710 : decode cX12_init 710 = .ok (.bipush 11, 2) := by decide +kernel
theorem dX12_init_712 : decode cX12_init 712 = .ok (.bipush 109, 2) := by decide +kernel
theorem dX12_init_714 : decode cX12_init 714 = .ok (.bipush 105, 2) := by decide +kernel
theorem dX12_init_716 : decode cX12_init 716 = .ok (.bipush 110, 2) := by decide +kernel
theorem dX12_init_718 : decode cX12_init 718 = .ok (.bipush 117, 2) := by decide +kernel
theorem dX12_init_720 : decode cX12_init 720 = .ok (.bipush 116, 2) := by decide +kernel
theorem dX12_init_722 : decode cX12_init 722 = .ok (.bipush 101, 2) := by decide +kernel
theorem dX12_init_724 : decode cX12_init 724 = .ok (.iconst 0, 1) := by decide +kernel
theorem dX12_init_725 : decode cX12_init 725 = .ok (.invokestatic 194, 3) := by decide +kernel
theorem dX12_init_728 : decode cX12_init 728 = .ok (.lastore, 1) := by decide +kernel
theorem dX12_init_729 : decode cX12_init 729 = .ok (.aload_n 0, 1) := by decide +kernel
theorem dX12_init_730 : decode cX12_init 730 = .ok (.getfield 34, 3) := by decide +kernel
theorem dX12_init_733 : decode cX12_init 733 = .ok (.bipush 12, 2) := by decide +kernel
theorem dX12_init_735 : decode cX12_init 735 = .ok (.bipush 119, 2) := by decide +kernel
theorem dX12_init_737 : decode cX12_init 737 = .ok (.bipush 105, 2) := by decide +kernel
theorem dX12_init_739 : decode cX12_init 739 = .ok (.bipush 110, 2) := by decide +kernel
theorem dX12_init_741 : decode cX12_init 741 = .ok (.bipush 100, 2) := by decide +kernel
theorem dX12_init_743 : decode cX12_init 743 = .ok (.iconst 0, 1) := by decide +kernel
theorem dX12_init_744 : decode cX12_init 744 = .ok (.iconst 0, 1) := by decide +kernel
theorem dX12_init_745 : decode cX12_init 745 = .ok (.iconst 0, 1) := by decide +kernel
theorem dX12_init_746 : decode cX12_init 746 = .ok (.invokestatic 194, 3) := by decide +kernel
theorem dX12_init_749 : decode cX12_init 749 = .ok (.lastore, 1) := by decide +kernel
theorem dX12_init_750 : decode cX12_init 750 = .ok (.aload_n 0, 1) := by decide +kernel
theorem dX12_init_751 : decode cX12_init 751 = .ok (.getfield 34, 3) := by decide +kernel
theorem dX12_init_754 : decode cX12_init 754 = .ok (.bipush 13, 2) := by decide +kernel
theorem dX12_init_756 : decode cX12_init 756 = .ok (.bipush 108, 2) := by decide +kernel
theorem dX12_init_758 : decode cX12_init 758 = .ok (.bipush 101, 2) := by decide +kernel
theorem dX12_init_760 : decode cX12_init 760 = .ok (.bipush 110, 2) := by decide +kernel
theorem dX12_init_762 : decode cX12_init 762 = .ok (.bipush 103, 2) := by decide +kernel
theorem dX12_init_764 : decode cX12_init 764 = .ok (.bipush 116, 2) := by decide +kernel
theorem dX12_init_766 : decode cX12_init 766 = .ok (.bipush 104, 2) := by decide +kernel
theorem dX12_init_768 : decode cX12_init 768 = .ok (.iconst 0, 1) := by decide +kernel
theorem dX12_init_769 : decode cX12_init 769 = .ok (.invokestatic 194, 3) := by decide +kernel
theorem dX12_init_772 : decode cX12_init 772 = .ok (.lastore, 1) := by decide +kernel
theorem dX12_init_773 : decode cX12_init 773 = .ok (.aload_n 0, 1) := by decide +kernel
theorem dX12_init_774 : decode cX12_init 774 = .ok (.getfield 34, 3) := by decide +kernel
theorem dX12_init_777 : decode cX12_init 777 = .ok (.bipush 14, 2) := by decide +kernel
theorem dX12_init_779 : decode cX12_init 779 = .ok (.bipush 119, 2) := by decide +kernel
theorem dX12_init_781 : decode cX12_init 781 = .ok (.bipush 111, 2) := by decide +kernel
theorem dX12_init_783 : decode cX12_init 783 = .ok (.bipush 114, 2) := by decide +kernel
theorem dX12_init_785 : decode cX12_init 785 = .ok (.bipush 116, 2) := by decide +kernel
theorem dX12_init_787 : decode cX12_init 787 = .ok (.bipush 104, 2) := by decide +kernel
theorem dX12_init_789 : decode cX12_init 789 = .ok (.iconst 0, 1) := by decide +kernel
theorem dX12_init_790 : decode cX12_init 790 = .ok (.iconst 0, 1) := by decide +kernel
theorem dX12_init_791 : decode cX12_init 791 = .ok (.invokestatic 194, 3) := by decide +kernel
theorem dX12_init_794 : decode cX12_init 794 = .ok (.lastore, 1) := by decide +kernel
theorem dX12_init_795 : decode cX12_init 795 = .ok (.aload_n 0, 1) := by decide +kernel
theorem dX12_init_796 : decode cX12_init 796 = .ok (.bipush 100, 2) := by decide +kernel
theorem dX12_init_798 : decode cX12_init 798 = .ok (.putfield 198, 3) := by decide +kernel
theorem dX12_init_801 : decode cX12_init 801 = .ok (.aload_n 0, 1) := by decide +kernel
theorem dX12_init_802 : decode cX12_init 802 = .ok (.iconst (-1), 1) := by decide +kernel
theorem dX12_init_803 : decode cX12_init 803 = .ok (.putfield 201, 3) := by decide +kernel
theorem dX12_init_806 : decode cX12_init 806 = .ok (.return_, 1) := by decide +kernel
set_option maxRecDepth 20000 in
theorem ggX12_feed_X12_put : GoodIn wsX12_feed wsX12_put := goodIn_r _ [6, 7, 1, 8, 9, 10, 11, 12, 13, 14, 15, 16, 17, 18, 19, 20, 21, 22, 23, 24, 25, 26, 27, 28, 29, 30, 31, 32, 33, 34, 35, 36, 37, 38, 39, 40, 41, 42, 43, 44, 45, 46, 47, 48, 49, 50, 51, 52, 53, 54, 55, 56, 57, 58, 59, 60, 61, 62, 63, 64, 65, 66, 67, 68, 69, 70, 71, 72, 73, 74, 75, 76, 77, 78, 79, 80, 81, 82, 83, 84, 85, 86, 87, 88, 89, 90, 91, 92] (by decide +kernel) (by decide +kernel)
set_option maxRecDepth 20000 in
theorem gX12_feed_X12_put : GoodIn wsX12_feed (wsV RX12 207 RX12 yX12_put wsX12_put) := goodIn_app (goodIn_of _ (by decide +kernel)) ggX12_feed_X12_put
theorem dX12_feed_0 : decode cX12_feed 0 = .ok (.aload_n 0, 1) := by decide +kernel
theorem dX12_feed_1 : decode cX12_feed 1 = .ok (.getfield 204, 3) := by decide +kernel
theorem dX12_feed_4 : decode cX12_feed 4 = .ok (.bipush 20, 2) := by decide +kernel
theorem dX12_feed_6 : decode cX12_feed 6 = .ok (.iadd, 1) := by decide +kernel
theorem dX12_feed_7 : decode cX12_feed 7 = .ok (.sipush 2000, 3) := by decide +kernel
theorem dX12_feed_10 : decode cX12_feed 10 = .ok (.if_icmp .le 5, 3) := by decide +kernel
theorem dX12_feed_13 : decode cX12_feed 13 = .ok (.iconst (-1), 1) := by decide +kernel
theorem dX12_feed_14 : decode cX12_feed 14 = .ok (.ireturn, 1) := by decide +kernel
theorem dX12_feed_15 : decode cX12_feed 15 = .ok (.aload_n 0, 1) := by decide +kernel
theorem dX12_feed_16 : decode cX12_feed 16 = .ok (.iload_n 1, 1) := by decide +kernel
theorem dX12_feed_17 : decode cX12_feed 17 = .ok (.invokevirtual 207, 3) := by decide +kernel
theorem dX12_feed_20 : decode cX12_feed 20 = .ok (.aload_n 0, 1) := by decide +kernel
theorem dX12_feed_21 : decode cX12_feed 21 = .ok (.iload_n 2, 1) := by decide +kernel
theorem dX12_feed_22 : decode cX12_feed 22 = .ok (.invokevirtual 207, 3) := by decide +kernel
theorem dX12_feed_25 : decode cX12_feed 25 = .ok (.aload_n 0, 1) := by decide +kernel
theorem dX12_feed_26 : decode cX12_feed 26 = .ok (.iload_n 3, 1) := by decide +kernel
theorem dX12_feed_27 : decode cX12_feed 27 = .ok (.invokevirtual 207, 3) := by decide +kernel
theorem dX12_feed_30 : decode cX12_feed 30 = .ok (.aload_n 0, 1) := by decide +kernel
theorem dX12_feed_31 : decode cX12_feed 31 = .ok (.iload 4, 2) := by decide +kernel
theorem dX12_feed_33 : decode cX12_feed 33 = .ok (.invokevirtual 207, 3) := by decide +kernel
theorem dX12_feed_36 : decode cX12_feed 36 = .ok (.aload_n 0, 1) := by decide +kernel
theorem dX12_feed_37 : decode cX12_feed 37 = .ok (.iload 5, 2) := by decide +kernel
theorem dX12_feed_39 : decode cX12_feed 39 = .ok (.invokevirtual 207, 3) := by decide +kernel
theorem dX12_feed_42 : decode cX12_feed 42 = .ok (.aload_n 0, 1) := by decide +kernel
theorem dX12_feed_43 : decode cX12_feed 43 = .ok (.getfield 204, 3) := by decide +kernel
theorem dX12_feed_46 : decode cX12_feed 46 = .ok (.ireturn, 1) := by decide +kernel
theorem dX12_put_0 : decode cX12_put 0 = .ok (.bipush 24, 2) := by decide +kernel
theorem dX12_put_2 : decode cX12_put 2 = .ok (.istore_n 2, 1) := by decide +kernel
theorem dX12_put_3 : decode cX12_put 3 = .ok (.iload_n 2, 1) := by decide +kernel
theorem dX12_put_4 : decode cX12_put 4 = .ok (.ifCond .lt 32, 3) := by decide +kernel
theorem dX12_put_7 : decode cX12_put 7 = .ok (.aload_n 0, 1) := by decide +kernel
theorem dX12_put_8 : decode cX12_put 8 = .ok (.getfield 13, 3) := by decide +kernel
theorem dX12_put_11 : decode cX12_put 11 = .ok (.aload_n 0, 1) := by decide +kernel
theorem dX12_put_12 : decode cX12_put 12 = .ok (.getfield 204, 3) := by decide +kernel
theorem dX12_put_15 : decode cX12_put 15 = .ok (.iload_n 1, 1) := by decide +kernel
theorem dX12_put_16 : decode cX12_put 16 = .ok (.iload_n 2, 1) := by decide +kernel
theorem dX12_put_17 : decode cX12_put 17 = .ok (.ishr, 1) := by decide +kernel
theorem dX12_put_18 : decode cX12_put 18 = .ok (.i2b, 1) := by decide +kernel
theorem dX12_put_19 : decode cX12_put 19 = .ok (.bastore, 1) := by decide +kernel
theorem dX12_put_20 : decode cX12_put 20 = .ok (.aload_n 0, 1) := by decide +kernel
theorem dX12_put_21 : decode cX12_put 21 = .ok (.dup, 1) := by decide +kernel
theorem dX12_put_22 : decode cX12_put 22 = .ok (.getfield 204, 3) := by decide +kernel
theorem dX12_put_25 : decode cX12_put 25 = .ok (.iconst 1, 1) := by decide +kernel
theorem dX12_put_26 : decode cX12_put 26 = .ok (.iadd, 1) := by decide +kernel
theorem dX12_put_27 : decode cX12_put 27 = .ok (.putfield 204, 3) := by decide +kernel
theorem dX12_put_30 : decode cX12_put 30 = .ok (.iinc 2 (-8), 3) := by decide +kernel
theorem dX12_put_33 : decode cX12_put 33 = .ok (.goto (-30), 3) := by decide +kernel
theorem dX12_put_36 : decode cX12_put 36 = .ok (.return_, 1) := by decide +kernel
theorem dX12_back_0 : decode cX12_back 0 = .ok (.iload_n 1, 1) := by decide +kernel
theorem dX12_back_1 : decode cX12_back 1 = .ok (.ifCond .lt 11, 3) := by decide +kernel
theorem dX12_back_4 : decode cX12_back 4 = .ok (.iload_n 1, 1) := by decide +kernel
theorem dX12_back_5 : decode cX12_back 5 = .ok (.aload_n 0, 1) := by decide +kernel
theorem dX12_back_6 : decode cX12_back 6 = .ok (.getfield 204, 3) := by decide +kernel
theorem dX12_back_9 : decode cX12_back 9 = .ok (.if_icmp .le 5, 3) := by decide +kernel
theorem dX12_back_12 : decode cX12_back 12 = .ok (.iconst (-1), 1) := by decide +kernel
theorem dX12_back_13 : decode cX12_back 13 = .ok (.ireturn, 1) := by decide +kernel
theorem dX12_back_14 : decode cX12_back 14 = .ok (.aload_n 0, 1) := by decide +kernel
theorem dX12_back_15 : decode cX12_back 15 = .ok (.dup, 1) := by decide +kernel
theorem dX12_back_16 : decode cX12_back 16 = .ok (.getfield 204, 3) := by decide +kernel
theorem dX12_back_19 : decode cX12_back 19 = .ok (.iload_n 1, 1) := by decide +kernel
theorem dX12_back_20 : decode cX12_back 20 = .ok (.isub, 1) := by decide +kernel
theorem dX12_back_21 : decode cX12_back 21 = .ok (.putfield 204, 3) := by decide +kernel
theorem dX12_back_24 : decode cX12_back 24 = .ok (.aload_n 0, 1) := by decide +kernel
theorem dX12_back_25 : decode cX12_back 25 = .ok (.getfield 204, 3) := by decide +kernel
theorem dX12_back_28 : decode cX12_back 28 = .ok (.ireturn, 1) := by decide +kernel
theorem dX12_at_0 : decode cX12_at 0 = .ok (.iload_n 1, 1) := by decide +kernel
theorem dX12_at_1 : decode cX12_at 1 = .ok (.aload_n 0, 1) := by decide +kernel
theorem dX12_at_2 : decode cX12_at 2 = .ok (.getfield 211, 3) := by decide +kernel
theorem dX12_at_5 : decode cX12_at 5 = .ok (.if_icmp .ge 16, 3) := by decide +kernel
theorem dX12_at_8 : decode cX12_at 8 = .ok (.aload_n 0, 1) := by decide +kernel
theorem dX12_at_9 : decode cX12_at 9 = .ok (.getfield 17, 3) := by decide +kernel
theorem dX12_at_12 : decode cX12_at 12 = .ok (.iload_n 1, 1) := by decide +kernel
theorem dX12_at_13 : decode cX12_at 13 = .ok (.baload, 1) := by decide +kernel
theorem dX12_at_14 : decode cX12_at 14 = .ok (.sipush 255, 3) := by decide +kernel
theorem dX12_at_17 : decode cX12_at 17 = .ok (.iand, 1) := by decide +kernel
theorem dX12_at_18 : decode cX12_at 18 = .ok (.goto 4, 3) := by decide +kernel
theorem dX12_at_21 : decode cX12_at 21 = .ok (.iconst 0, 1) := by decide +kernel
theorem dX12_at_22 : decode cX12_at 22 = .ok (.ireturn, 1) := by decide +kernel
theorem dX12_isDigit_0 : decode cX12_isDigit 0 = .ok (.iload_n 0, 1) := by decide +kernel
theorem dX12_isDigit_1 : decode cX12_isDigit 1 = .ok (.bipush 48, 2) := by decide +kernel
theorem dX12_isDigit_3 : decode cX12_isDigit 3 = .ok (.if_icmp .lt 13, 3) := by decide +kernel
theorem dX12_isDigit_6 : decode cX12_isDigit 6 = .ok (.iload_n 0, 1) := by decide +kernel
theorem dX12_isDigit_7 : decode cX12_isDigit 7 = .ok (.bipush 57, 2) := by decide +kernel
theorem dX12_isDigit_9 : decode cX12_isDigit 9 = .ok (.if_icmp .gt 7, 3) := by decide +kernel
theorem dX12_isDigit_12 : decode cX12_isDigit 12 = .ok (.iconst 1, 1) := by decide +kernel
theorem dX12_isDigit_13 : decode cX12_isDigit 13 = .ok (.goto 4, 3) := by decide +kernel
theorem dX12_isDigit_16 : decode cX12_isDigit 16 = .ok (.iconst 0, 1) := by decide +kernel
theorem dX12_isDigit_17 : decode cX12_isDigit 17 = .ok (.ireturn, 1) := by decide +kernel
theorem dX12_isLetter_0 : decode cX12_isLetter 0 = .ok (.iload_n 0, 1) := by decide +kernel
theorem dX12_isLetter_1 : decode cX12_isLetter 1 = .ok (.bipush 97, 2) := by decide +kernel
theorem dX12_isLetter_3 : decode cX12_isLetter 3 = .ok (.if_icmp .lt 13, 3) := by decide +kernel
theorem dX12_isLetter_6 : decode cX12_isLetter 6 = .ok (.iload_n 0, 1) := by decide +kernel
theorem dX12_isLetter_7 : decode cX12_isLetter 7 = .ok (.bipush 122, 2) := by decide +kernel
theorem dX12_isLetter_9 : decode cX12_isLetter 9 = .ok (.if_icmp .gt 7, 3) := by decide +kernel
theorem dX12_isLetter_12 : decode cX12_isLetter 12 = .ok (.iconst 1, 1) := by decide +kernel
theorem dX12_isLetter_13 : decode cX12_isLetter 13 = .ok (.goto 4, 3) := by decide +kernel
theorem dX12_isLetter_16 : decode cX12_isLetter 16 = .ok (.iconst 0, 1) := by decide +kernel
theorem dX12_isLetter_17 : decode cX12_isLetter 17 = .ok (.ireturn, 1) := by decide +kernel
theorem dX12_more_0 : decode cX12_more 0 = .ok (.iload_n 2, 1) := by decide +kernel
theorem dX12_more_1 : decode cX12_more 1 = .ok (.ifCond .ne 7, 3) := by decide +kernel
theorem dX12_more_4 : decode cX12_more 4 = .ok (.lload_n 0, 1) := by decide +kernel
theorem dX12_more_5 : decode cX12_more 5 = .ok (.goto 16, 3) := by decide +kernel
theorem dX12_more_8 : decode cX12_more 8 = .ok (.ldc2_w 214, 3) := by decide +kernel
theorem dX12_more_11 : decode cX12_more 11 = .ok (.lload_n 0, 1) := by decide +kernel
theorem dX12_more_12 : decode cX12_more 12 = .ok (.lmul, 1) := by decide +kernel
theorem dX12_more_13 : decode cX12_more 13 = .ok (.iload_n 2, 1) := by decide +kernel
theorem dX12_more_14 : decode cX12_more 14 = .ok (.bipush 97, 2) := by decide +kernel
theorem dX12_more_16 : decode cX12_more 16 = .ok (.isub, 1) := by decide +kernel
theorem dX12_more_17 : decode cX12_more 17 = .ok (.iconst 1, 1) := by decide +kernel
theorem dX12_more_18 : decode cX12_more 18 = .ok (.iadd, 1) := by decide +kernel
theorem dX12_more_19 : decode cX12_more 19 = .ok (.i2l, 1) := by decide +kernel
theorem dX12_more_20 : decode cX12_more 20 = .ok (.ladd, 1) := by decide +kernel
theorem dX12_more_21 : decode cX12_more 21 = .ok (.lreturn, 1) := by decide +kernel
set_option maxRecDepth 20000 in
theorem ggX12_word_X12_more : GoodIn wsX12_word wsX12_more := goodIn_r _ [4, 5] (by decide +kernel) (by decide +kernel)
set_option maxRecDepth 20000 in
theorem gX12_word_X12_more : GoodIn wsX12_word (va_wsS RX12 216 yX12_more wsX12_more) := goodIn_app (goodIn_of _ (by decide +kernel)) ggX12_word_X12_more
theorem dX12_word_0 : decode cX12_word 0 = .ok (.lconst 0, 1) := by decide +kernel
theorem dX12_word_1 : decode cX12_word 1 = .ok (.iload_n 0, 1) := by decide +kernel
theorem dX12_word_2 : decode cX12_word 2 = .ok (.invokestatic 216, 3) := by decide +kernel
theorem dX12_word_5 : decode cX12_word 5 = .ok (.iload_n 1, 1) := by decide +kernel
theorem dX12_word_6 : decode cX12_word 6 = .ok (.invokestatic 216, 3) := by decide +kernel
theorem dX12_word_9 : decode cX12_word 9 = .ok (.iload_n 2, 1) := by decide +kernel
theorem dX12_word_10 : decode cX12_word 10 = .ok (.invokestatic 216, 3) := by decide +kernel
theorem dX12_word_13 : decode cX12_word 13 = .ok (.iload_n 3, 1) := by decide +kernel
theorem dX12_word_14 : decode cX12_word 14 = .ok (.invokestatic 216, 3) := by decide +kernel
theorem dX12_word_17 : decode cX12_word 17 = .ok (.iload 4, 2) := by decide +kernel
theorem dX12_word_19 : decode cX12_word 19 = .ok (.invokestatic 216, 3) := by decide +kernel
theorem dX12_word_22 : decode cX12_word 22 = .ok (.iload 5, 2) := by decide +kernel
theorem dX12_word_24 : decode cX12_word 24 = .ok (.invokestatic 216, 3) := by decide +kernel
theorem dX12_word_27 : decode cX12_word 27 = .ok (.iload 6, 2) := by decide +kernel
theorem dX12_word_29 : decode cX12_word 29 = .ok (.invokestatic 216, 3) := by decide +kernel
theorem dX12_word_32 : decode cX12_word 32 = .ok (.lreturn, 1) := by decide +kernel
theorem dX12_token_0 : decode cX12_token 0 = .ok (.aload_n 0, 1) := by decide +kernel
theorem dX12_token_1 : decode cX12_token 1 = .ok (.getfield 20, 3) := by decide +kernel
theorem dX12_token_4 : decode cX12_token 4 = .ok (.aload_n 0, 1) := by decide +kernel
theorem dX12_token_5 : decode cX12_token 5 = .ok (.getfield 220, 3) := by decide +kernel
theorem dX12_token_8 : decode cX12_token 8 = .ok (.iload_n 1, 1) := by decide +kernel
theorem dX12_token_9 : decode cX12_token 9 = .ok (.iastore, 1) := by decide +kernel
theorem dX12_token_10 : decode cX12_token 10 = .ok (.aload_n 0, 1) := by decide +kernel
theorem dX12_token_11 : decode cX12_token 11 = .ok (.getfield 24, 3) := by decide +kernel
theorem dX12_token_14 : decode cX12_token 14 = .ok (.aload_n 0, 1) := by decide +kernel
theorem dX12_token_15 : decode cX12_token 15 = .ok (.getfield 220, 3) := by decide +kernel
theorem dX12_token_18 : decode cX12_token 18 = .ok (.iload_n 2, 1) := by decide +kernel
theorem dX12_token_19 : decode cX12_token 19 = .ok (.iastore, 1) := by decide +kernel
theorem dX12_token_20 : decode cX12_token 20 = .ok (.aload_n 0, 1) := by decide +kernel
theorem dX12_token_21 : decode cX12_token 21 = .ok (.getfield 27, 3) := by decide +kernel
theorem dX12_token_24 : decode cX12_token 24 = .ok (.aload_n 0, 1) := by decide +kernel
theorem dX12_token_25 : decode cX12_token 25 = .ok (.getfield 220, 3) := by decide +kernel
theorem dX12_token_28 : decode cX12_token 28 = .ok (.iload_n 3, 1) := by decide +kernel
theorem dX12_token_29 : decode cX12_token 29 = .ok (.iastore, 1) := by decide +kernel
theorem dX12_token_30 : decode cX12_token 30 = .ok (.aload_n 0, 1) := by decide +kernel
theorem dX12_token_31 : decode cX12_token 31 = .ok (.getfield 30, 3) := by decide +kernel
theorem dX12_token_34 : decode cX12_token 34 = .ok (.aload_n 0, 1) := by decide +kernel
theorem dX12_token_35 : decode cX12_token 35 = .ok (.getfield 220, 3) := by decide +kernel
theorem dX12_token_38 : decode cX12_token 38 = .ok (.lload 4, 2) := by decide +kernel
theorem dX12_token_40 : decode cX12_token 40 = .ok (.lastore, 1) := by decide +kernel
theorem dX12_token_41 : decode cX12_token 41 = .ok (.aload_n 0, 1) := by decide +kernel
theorem dX12_token_42 : decode cX12_token 42 = .ok (.dup, 1) := by decide +kernel
theorem dX12_token_43 : decode cX12_token 43 = .ok (.getfield 220, 3) := by decide +kernel
theorem dX12_token_46 : decode cX12_token 46 = .ok (.iconst 1, 1) := by decide +kernel
theorem dX12_token_47 : decode cX12_token 47 = .ok (.iadd, 1) := by decide +kernel
theorem dX12_token_48 : decode cX12_token 48 = .ok (.putfield 220, 3) := by decide +kernel
theorem dX12_token_51 : decode cX12_token 51 = .ok (.return_, 1) := by decide +kernel
set_option maxRecDepth 20000 in
theorem ggX12_cut_X12_at : GoodIn wsX12_cut wsX12_at := goodIn_r _ [8, 2, 9, 32, 33, 34, 35, 36, 37, 38, 39, 40, 41, 42, 43, 44, 45, 46, 47, 48, 49, 50, 51, 52, 53, 54, 55, 56, 57, 58, 59, 60, 61, 62, 63, 64, 65, 66, 67, 68, 69, 70, 71, 72, 73, 74, 75, 76, 77, 78, 79, 80, 81, 82, 83, 84, 85, 86, 87, 88, 89, 90, 91, 92, 93, 94, 95, 96, 97, 98, 99, 100, 101, 102, 103, 104, 105, 106, 107, 108, 109, 110, 111, 112, 113, 114, 115, 116] (by decide +kernel) (by decide +kernel)
set_option maxRecDepth 20000 in
theorem gX12_cut_X12_at : GoodIn wsX12_cut (wsV RX12 223 RX12 yX12_at wsX12_at) := goodIn_app (goodIn_of _ (by decide +kernel)) ggX12_cut_X12_at
set_option maxRecDepth 20000 in
theorem ggX12_cut_X12_token : GoodIn wsX12_cut wsX12_token := goodIn_r _ [13, 14, 1, 15, 16, 17, 32, 33, 34, 35, 36, 37, 38, 39, 40, 41, 42, 43, 44, 45, 46, 47, 48, 49, 50, 51, 52, 53, 54, 55, 56, 57, 58, 59, 60, 61, 62, 63, 64, 65, 66, 67, 68, 69, 70, 71, 72, 73, 74, 75, 76, 77, 78, 79, 80, 81, 82, 83, 84, 85, 86, 87, 88, 89, 90, 91, 92, 93, 94, 95, 96, 97, 98, 99, 100, 101, 102, 103, 104, 105, 106, 107, 108, 109, 110, 111, 112, 113, 114, 115, 116] (by decide +kernel) (by decide +kernel)
set_option maxRecDepth 20000 in
theorem gX12_cut_X12_token : GoodIn wsX12_cut (wsV RX12 227 RX12 yX12_token wsX12_token) := goodIn_app (goodIn_of _ (by decide +kernel)) ggX12_cut_X12_token
set_option maxRecDepth 20000 in
theorem ggX12_cut_X12_isLetter : GoodIn wsX12_cut wsX12_isLetter := goodIn_r _ [20] (by decide +kernel) (by decide +kernel)
set_option maxRecDepth 20000 in
theorem gX12_cut_X12_isLetter : GoodIn wsX12_cut (va_wsS RX12 231 yX12_isLetter wsX12_isLetter) := goodIn_app (goodIn_of _ (by decide +kernel)) ggX12_cut_X12_isLetter
set_option maxRecDepth 20000 in
theorem ggX12_cut_X12_more : GoodIn wsX12_cut wsX12_more := goodIn_r _ [23, 24] (by decide +kernel) (by decide +kernel)
set_option maxRecDepth 20000 in
theorem gX12_cut_X12_more : GoodIn wsX12_cut (va_wsS RX12 216 yX12_more wsX12_more) := goodIn_app (goodIn_of _ (by decide +kernel)) ggX12_cut_X12_more
set_option maxRecDepth 20000 in
theorem ggX12_cut_X12_isDigit : GoodIn wsX12_cut wsX12_isDigit := goodIn_r _ [27] (by decide +kernel) (by decide +kernel)
set_option maxRecDepth 20000 in
theorem gX12_cut_X12_isDigit : GoodIn wsX12_cut (va_wsS RX12 235 yX12_isDigit wsX12_isDigit) := goodIn_app (goodIn_of _ (by decide +kernel)) ggX12_cut_X12_isDigit
set_option maxRecDepth 20000 in
theorem ggX12_cut_X12_sign : GoodIn wsX12_cut wsX12_sign := goodIn_r _ [31, 10, 11, 12, 7, 13, 14, 1, 15, 16, 17, 32, 33, 34, 35, 36, 37, 38, 39, 40, 41, 42, 43, 44, 45, 46, 47, 48, 49, 50, 51, 52, 53, 54, 55, 56, 57, 58, 59, 60, 61, 62, 63, 64, 65, 66, 67, 68, 69, 70, 71, 72, 73, 74, 75, 76, 77, 78, 79, 80, 81, 82, 83, 84, 85, 86, 87, 88, 89, 90, 91, 92, 93, 94, 95, 96, 97, 98, 99, 100, 101, 102, 103, 104, 105, 106, 107, 108, 109, 110, 111, 112, 113, 114, 115, 116] (by decide +kernel) (by decide +kernel)
set_option maxRecDepth 20000 in
theorem gX12_cut_X12_sign : GoodIn wsX12_cut (wsV RX12 238 RX12 yX12_sign wsX12_sign) := goodIn_app (goodIn_of _ (by decide +kernel)) ggX12_cut_X12_sign
theorem dX12_cut_0 : decode cX12_cut 0 = .ok (.aload_n 0, 1) := by decide +kernel
theorem dX12_cut_1 : decode cX12_cut 1 = .ok (.iconst 0, 1) := by decide +kernel
theorem dX12_cut_2 : decode cX12_cut 2 = .ok (.putfield 220, 3) := by decide +kernel
theorem dX12_cut_5 : decode cX12_cut 5 = .ok (.iconst 0, 1) := by decide +kernel
theorem dX12_cut_6 : decode cX12_cut 6 = .ok (.istore_n 1, 1) := by decide +kernel
theorem dX12_cut_7 : decode cX12_cut 7 = .ok (.aload_n 0, 1) := by decide +kernel
theorem dX12_cut_8 : decode cX12_cut 8 = .ok (.getfield 220, 3) := by decide +kernel
theorem dX12_cut_11 : decode cX12_cut 11 = .ok (.sipush 400, 3) := by decide +kernel
theorem dX12_cut_14 : decode cX12_cut 14 = .ok (.if_icmp .gt 280, 3) := by decide +kernel
theorem dX12_cut_17 : decode cX12_cut 17 = .ok (.aload_n 0, 1) := by decide +kernel
theorem dX12_cut_18 : decode cX12_cut 18 = .ok (.iload_n 1, 1) := by decide +kernel
theorem dX12_cut_19 : decode cX12_cut 19 = .ok (.invokevirtual 223, 3) := by decide +kernel
theorem dX12_cut_22 : decode cX12_cut 22 = .ok (.istore_n 2, 1) := by decide +kernel
theorem dX12_cut_23 : decode cX12_cut 23 = .ok (.iload_n 1, 1) := by decide +kernel
theorem dX12_cut_24 : decode cX12_cut 24 = .ok (.aload_n 0, 1) := by decide +kernel
theorem dX12_cut_25 : decode cX12_cut 25 = .ok (.getfield 211, 3) := by decide +kernel
theorem dX12_cut_28 : decode cX12_cut 28 = .ok (.if_icmp .lt 15, 3) := by decide +kernel
theorem dX12_cut_31 : decode cX12_cut 31 = .ok (.aload_n 0, 1) := by decide +kernel
theorem dX12_cut_32 : decode cX12_cut 32 = .ok (.iconst 0, 1) := by decide +kernel
theorem dX12_cut_33 : decode cX12_cut 33 = .ok (.aload_n 0, 1) := by decide +kernel
theorem dX12_cut_34 : decode cX12_cut 34 = .ok (.getfield 211, 3) := by decide +kernel
theorem dX12_cut_37 : decode cX12_cut 37 = .ok (.iconst 0, 1) := by decide +kernel
theorem dX12_cut_38 : decode cX12_cut 38 = .ok (.lconst 0, 1) := by decide +kernel
theorem dX12_cut_39 : decode cX12_cut 39 = .ok (.invokevirtual 227, 3) := by decide +kernel
theorem dX12_cut_42 : decode cX12_cut 42 = .ok (.return_, 1) := by decide +kernel
theorem dX12_cut_43 : decode cX12_cut 43 = .ok (.iload_n 2, 1) := by decide +kernel
theorem dX12_cut_44 : decode cX12_cut 44 = .ok (.bipush 9, 2) := by decide +kernel
theorem dX12_cut_46 : decode cX12_cut 46 = .ok (.if_icmp .eq 21, 3) := by decide +kernel
theorem dX12_cut_49 : decode cX12_cut 49 = .ok (.iload_n 2, 1) := by decide +kernel
theorem dX12_cut_50 : decode cX12_cut 50 = .ok (.bipush 10, 2) := by decide +kernel
theorem dX12_cut_52 : decode cX12_cut 52 = .ok (.if_icmp .eq 15, 3) := by decide +kernel
theorem dX12_cut_55 : decode cX12_cut 55 = .ok (.iload_n 2, 1) := by decide +kernel
theorem dX12_cut_56 : decode cX12_cut 56 = .ok (.bipush 13, 2) := by decide +kernel
theorem dX12_cut_58 : decode cX12_cut 58 = .ok (.if_icmp .eq 9, 3) := by decide +kernel
theorem dX12_cut_61 : decode cX12_cut 61 = .ok (.iload_n 2, 1) := by decide +kernel
theorem dX12_cut_62 : decode cX12_cut 62 = .ok (.bipush 32, 2) := by decide +kernel
theorem dX12_cut_64 : decode cX12_cut 64 = .ok (.if_icmp .ne 9, 3) := by decide +kernel
theorem dX12_cut_67 : decode cX12_cut 67 = .ok (.iinc 1 1, 3) := by decide +kernel
theorem dX12_cut_70 : decode cX12_cut 70 = .ok (.goto 221, 3) := by decide +kernel
theorem dX12_cut_73 : decode cX12_cut 73 = .ok (.iload_n 2, 1) := by decide +kernel
theorem dX12_cut_74 : decode cX12_cut 74 = .ok (.invokestatic 231, 3) := by decide +kernel
theorem dX12_cut_77 : decode cX12_cut 77 = .ok (.ifCond .eq 119, 3) := by decide +kernel
theorem dX12_cut_80 : decode cX12_cut 80 = .ok (.iconst 0, 1) := by decide +kernel
theorem dX12_cut_81 : decode cX12_cut 81 = .ok (.istore_n 3, 1) := by decide +kernel
theorem dX12_cut_82 : decode cX12_cut 82 = .ok (.lconst 0, 1) := by decide +kernel
theorem dX12_cut_83 : decode cX12_cut 83 = .ok (.lstore 4, 2) := by decide +kernel
theorem dX12_cut_85 : decode cX12_cut 85 = .ok (.aload_n 0, 1) := by decide +kernel
theorem dX12_cut_86 : decode cX12_cut 86 = .ok (.iload_n 1, 1) := by decide +kernel
theorem dX12_cut_87 : decode cX12_cut 87 = .ok (.iload_n 3, 1) := by decide +kernel
theorem dX12_cut_88 : decode cX12_cut 88 = .ok (.iadd, 1) := by decide +kernel
theorem dX12_cut_89 : decode cX12_cut 89 = .ok (.invokevirtual 223, 3) := by decide +kernel
theorem dX12_cut_92 : decode cX12_cut 92 = .ok (.invokestatic 231, 3) := by decide +kernel
theorem dX12_cut_95 : decode cX12_cut 95 = .ok (.ifCond .eq 29, 3) := by decide +kernel
theorem dX12_cut_98 : decode cX12_cut 98 = .ok (.iload_n 3, 1) := by decide +kernel
theorem dX12_cut_99 : decode cX12_cut 99 = .ok (.bipush 8, 2) := by decide +kernel
theorem dX12_cut_101 : decode cX12_cut 101 = .ok (.if_icmp .ge 17, 3) := by decide +kernel
theorem dX12_cut_104 : decode cX12_cut 104 = .ok (.lload 4, 2) := by decide +kernel
theorem dX12_cut_106 : decode cX12_cut 106 = .ok (.aload_n 0, 1) := by decide +kernel
theorem dX12_cut_107 : decode cX12_cut 107 = .ok (.iload_n 1, 1) := by decide +kernel
theorem dX12_cut_108 : decode cX12_cut 108 = .ok (.iload_n 3, 1) := by decide +kernel
theorem dX12_cut_109 : decode cX12_cut 109 = .ok (.iadd, 1) := by decide +kernel
theorem dX12_cut_110 : decode cX12_cut 110 = .ok (.invokevirtual 223, 3) := by decide +kernel
theorem dX12_cut_113 : decode cX12_cut 113 = .ok (.invokestatic 216, 3) := by decide +kernel
theorem dX12_cut_116 : decode cX12_cut 116 = .ok (.lstore 4, 2) := by decide +kernel
theorem dX12_cut_118 : decode cX12_cut 118 = .ok (.iinc 3 1, 3) := by decide +kernel
theorem dX12_cut_121 : decode cX12_cut 121 = .ok (.goto (-36), 3) := by decide +kernel
theorem dX12_cut_124 : decode cX12_cut 124 = .ok (.iload_n 3, 1) := by decide +kernel
theorem dX12_cut_125 : decode cX12_cut 125 = .ok (.bipush 8, 2) := by decide +kernel
theorem dX12_cut_127 : decode cX12_cut 127 = .ok (.if_icmp .le 7, 3) := by decide +kernel
theorem dX12_cut_130 : decode cX12_cut 130 = .ok (.iconst 3, 1) := by decide +kernel
theorem dX12_cut_131 : decode cX12_cut 131 = .ok (.goto 4, 3) := by decide +kernel
theorem dX12_cut_134 : decode cX12_cut 134 = .ok (.iconst 1, 1) := by decide +kernel
theorem dX12_cut_135 : decode cX12_cut 135 = .ok (.istore 6, 2) := by decide +kernel
theorem dX12_cut_137 : decode cX12_cut 137 = .ok (.iload_n 3, 1) := by decide +kernel
theorem dX12_cut_138 : decode cX12_cut 138 = .ok (.bipush 7, 2) := by decide +kernel
theorem dX12_cut_140 : decode cX12_cut 140 = .ok (.if_icmp .gt 39, 3) := by decide +kernel
theorem dX12_cut_143 : decode cX12_cut 143 = .ok (.iconst 0, 1) := by decide +kernel
theorem dX12_cut_144 : decode cX12_cut 144 = .ok (.istore 7, 2) := by decide +kernel
theorem dX12_cut_146 : decode cX12_cut 146 = .ok (.iload 7, 2) := by decide +kernel
theorem dX12_cut_148 : decode cX12_cut 148 = .ok (.bipush 15, 2) := by decide +kernel
theorem dX12_cut_150 : decode cX12_cut 150 = .ok (.if_icmp .ge 29, 3) := by decide +kernel
theorem dX12_cut_153 : decode cX12_cut 153 = .ok (.aload_n 0, 1) := by decide +kernel
theorem dX12_cut_154 : decode cX12_cut 154 = .ok (.getfield 34, 3) := by decide +kernel
theorem dX12_cut_157 : decode cX12_cut 157 = .ok (.iload 7, 2) := by decide +kernel
theorem dX12_cut_159 : decode cX12_cut 159 = .ok (.laload, 1) := by decide +kernel
theorem dX12_cut_160 : decode cX12_cut 160 = .ok (.lload 4, 2) := by decide +kernel
theorem dX12_cut_162 : decode cX12_cut 162 = .ok (.lcmp, 1) := by decide +kernel
theorem dX12_cut_163 : decode cX12_cut 163 = .ok (.ifCond .ne 10, 3) := by decide +kernel
theorem dX12_cut_166 : decode cX12_cut 166 = .ok (.bipush 20, 2) := by decide +kernel
theorem dX12_cut_168 : decode cX12_cut 168 = .ok (.iload 7, 2) := by decide +kernel
theorem dX12_cut_170 : decode cX12_cut 170 = .ok (.iadd, 1) := by decide +kernel
theorem dX12_cut_171 : decode cX12_cut 171 = .ok (.istore 6, 2) := by decide +kernel
theorem dX12_cut_173 : decode cX12_cut 173 = .ok (.iinc 7 1, 3) := by decide +kernel
theorem dX12_cut_176 : decode cX12_cut 176 = .ok (.goto (-30), 3) := by decide +kernel
theorem dX12_cut_179 : decode cX12_cut 179 = .ok (.aload_n 0, 1) := by decide +kernel
theorem dX12_cut_180 : decode cX12_cut 180 = .ok (.iload 6, 2) := by decide +kernel
theorem dX12_cut_182 : decode cX12_cut 182 = .ok (.iload_n 1, 1) := by decide +kernel
theorem dX12_cut_183 : decode cX12_cut 183 = .ok (.iconst 0, 1) := by decide +kernel
theorem dX12_cut_184 : decode cX12_cut 184 = .ok (.lload 4, 2) := by decide +kernel
theorem dX12_cut_186 : decode cX12_cut 186 = .ok (.invokevirtual 227, 3) := by decide +kernel
theorem dX12_cut_189 : decode cX12_cut 189 = .ok (.iload_n 1, 1) := by decide +kernel
theorem dX12_cut_190 : decode cX12_cut 190 = .ok (.iload_n 3, 1) := by decide +kernel
theorem dX12_cut_191 : decode cX12_cut 191 = .ok (.iadd, 1) := by decide +kernel
theorem dX12_cut_192 : decode cX12_cut 192 = .ok (.istore_n 1, 1) := by decide +kernel
theorem dX12_cut_193 : decode cX12_cut 193 = .ok (.goto 98, 3) := by decide +kernel
theorem dX12_cut_196 : decode cX12_cut 196 = .ok (.iload_n 2, 1) := by decide +kernel
theorem dX12_cut_197 : decode cX12_cut 197 = .ok (.invokestatic 235, 3) := by decide +kernel
theorem dX12_cut_200 : decode cX12_cut 200 = .ok (.ifCond .eq 75, 3) := by decide +kernel
theorem dX12_cut_203 : decode cX12_cut 203 = .ok (.iconst 0, 1) := by decide +kernel
theorem dX12_cut_204 : decode cX12_cut 204 = .ok (.istore_n 3, 1) := by decide +kernel
theorem dX12_cut_205 : decode cX12_cut 205 = .ok (.iconst 0, 1) := by decide +kernel
theorem dX12_cut_206 : decode cX12_cut 206 = .ok (.istore 4, 2) := by decide +kernel
theorem dX12_cut_208 : decode cX12_cut 208 = .ok (.aload_n 0, 1) := by decide +kernel
theorem dX12_cut_209 : decode cX12_cut 209 = .ok (.iload_n 1, 1) := by decide +kernel
theorem dX12_cut_210 : decode cX12_cut 210 = .ok (.iload_n 3, 1) := by decide +kernel
theorem dX12_cut_211 : decode cX12_cut 211 = .ok (.iadd, 1) := by decide +kernel
theorem dX12_cut_212 : decode cX12_cut 212 = .ok (.invokevirtual 223, 3) := by decide +kernel
theorem dX12_cut_215 : decode cX12_cut 215 = .ok (.invokestatic 235, 3) := by decide +kernel
theorem dX12_cut_218 : decode cX12_cut 218 = .ok (.ifCond .eq 32, 3) := by decide +kernel
theorem dX12_cut_221 : decode cX12_cut 221 = .ok (.iload_n 3, 1) := by decide +kernel
theorem dX12_cut_222 : decode cX12_cut 222 = .ok (.iconst 4, 1) := by decide +kernel
theorem dX12_cut_223 : decode cX12_cut 223 = .ok (.if_icmp .ge 21, 3) := by decide +kernel
theorem dX12_cut_226 : decode cX12_cut 226 = .ok (.bipush 10, 2) := by decide +kernel
theorem dX12_cut_228 : decode cX12_cut 228 = .ok (.iload 4, 2) := by decide +kernel
theorem dX12_cut_230 : decode cX12_cut 230 = .ok (.imul, 1) := by decide +kernel
theorem dX12_cut_231 : decode cX12_cut 231 = .ok (.aload_n 0, 1) := by decide +kernel
theorem dX12_cut_232 : decode cX12_cut 232 = .ok (.iload_n 1, 1) := by decide +kernel
theorem dX12_cut_233 : decode cX12_cut 233 = .ok (.iload_n 3, 1) := by decide +kernel
theorem dX12_cut_234 : decode cX12_cut 234 = .ok (.iadd, 1) := by decide +kernel
theorem dX12_cut_235 : decode cX12_cut 235 = .ok (.invokevirtual 223, 3) := by decide +kernel
theorem dX12_cut_238 : decode cX12_cut 238 = .ok (.iadd, 1) := by decide +kernel
theorem dX12_cut_239 : decode cX12_cut 239 = .ok (.bipush 48, 2) := by decide +kernel
theorem dX12_cut_241 : decode cX12_cut 241 = .ok (.isub, 1) := by decide +kernel
theorem dX12_cut_242 : decode cX12_cut 242 = .ok (.istore 4, 2) := by decide +kernel
theorem dX12_cut_244 : decode cX12_cut 244 = .ok (.iinc 3 1, 3) := by decide +kernel
theorem dX12_cut_247 : decode cX12_cut 247 = .ok (.goto (-39), 3) := by decide +kernel
theorem dX12_cut_250 : decode cX12_cut 250 = .ok (.aload_n 0, 1) := by decide +kernel
theorem dX12_cut_251 : decode cX12_cut 251 = .ok (.iload_n 3, 1) := by decide +kernel
theorem dX12_cut_252 : decode cX12_cut 252 = .ok (.iconst 4, 1) := by decide +kernel
theorem dX12_cut_253 : decode cX12_cut 253 = .ok (.if_icmp .le 7, 3) := by decide +kernel
theorem dX12_cut_256 : decode cX12_cut 256 = .ok (.iconst 3, 1) := by decide +kernel
theorem dX12_cut_257 : decode cX12_cut 257 = .ok (.goto 4, 3) := by decide +kernel
theorem dX12_cut_260 : decode cX12_cut 260 = .ok (.iconst 2, 1) := by decide +kernel
theorem dX12_cut_261 : decode cX12_cut 261 = .ok (.iload_n 1, 1) := by decide +kernel
theorem dX12_cut_262 : decode cX12_cut 262 = .ok (.iload 4, 2) := by decide +kernel
theorem dX12_cut_264 : decode cX12_cut 264 = .ok (.lconst 0, 1) := by decide +kernel
theorem dX12_cut_265 : decode cX12_cut 265 = .ok (.invokevirtual 227, 3) := by decide +kernel
theorem dX12_cut_268 : decode cX12_cut 268 = .ok (.iload_n 1, 1) := by decide +kernel
theorem dX12_cut_269 : decode cX12_cut 269 = .ok (.iload_n 3, 1) := by decide +kernel
theorem dX12_cut_270 : decode cX12_cut 270 = .ok (.iadd, 1) := by decide +kernel
theorem dX12_cut_271 : decode cX12_cut 271 = .ok (.istore_n 1, 1) := by decide +kernel
theorem dX12_cut_272 : decode cX12_cut 272 = .ok (.goto 19, 3) := by decide +kernel
theorem dX12_cut_275 : decode cX12_cut 275 = .ok (.iload_n 1, 1) := by decide +kernel
theorem dX12_cut_276 : decode cX12_cut 276 = .ok (.aload_n 0, 1) := by decide +kernel
theorem dX12_cut_277 : decode cX12_cut 277 = .ok (.iload_n 1, 1) := by decide +kernel
theorem dX12_cut_278 : decode cX12_cut 278 = .ok (.iload_n 2, 1) := by decide +kernel
theorem dX12_cut_279 : decode cX12_cut 279 = .ok (.aload_n 0, 1) := by decide +kernel
theorem dX12_cut_280 : decode cX12_cut 280 = .ok (.iload_n 1, 1) := by decide +kernel
theorem dX12_cut_281 : decode cX12_cut 281 = .ok (.iconst 1, 1) := by decide +kernel
theorem dX12_cut_282 : decode cX12_cut 282 = .ok (.iadd, 1) := by decide +kernel
theorem dX12_cut_283 : decode cX12_cut 283 = .ok (.invokevirtual 223, 3) := by decide +kernel
theorem dX12_cut_286 : decode cX12_cut 286 = .ok (.invokevirtual 238, 3) := by decide +kernel
theorem dX12_cut_289 : decode cX12_cut 289 = .ok (.iadd, 1) := by decide +kernel
theorem dX12_cut_290 : decode cX12_cut 290 = .ok (.istore_n 1, 1) := by decide +kernel
theorem dX12_cut_291 : decode cX12_cut 291 = .ok (.goto (-284), 3) := by decide +kernel
theorem dX12_cut_294 : decode cX12_cut 294 = .ok (.return_, 1) := by decide +kernel
set_option maxRecDepth 20000 in
theorem ggX12_sign_X12_token : GoodIn wsX12_sign wsX12_token := goodIn_r _ [5, 6, 7, 8, 9, 10, 11, 12, 13, 14, 15, 16, 17, 18, 19, 20, 21, 22, 23, 24, 25, 26, 27, 28, 29, 30, 31, 32, 33, 34, 35, 36, 37, 38, 39, 40, 41, 42, 43, 44, 45, 46, 47, 48, 49, 50, 51, 52, 53, 54, 55, 56, 57, 58, 59, 60, 61, 62, 63, 64, 65, 66, 67, 68, 69, 70, 71, 72, 73, 74, 75, 76, 77, 78, 79, 80, 81, 82, 83, 84, 85, 86, 87, 88, 89, 90, 91, 92, 93, 94, 95] (by decide +kernel) (by decide +kernel)
set_option maxRecDepth 20000 in
theorem gX12_sign_X12_token : GoodIn wsX12_sign (wsV RX12 227 RX12 yX12_token wsX12_token) := goodIn_app (goodIn_of _ (by decide +kernel)) ggX12_sign_X12_token
theorem dX12_sign_0 : decode cX12_sign 0 = .ok (.iload_n 3, 1) := by decide +kernel
theorem dX12_sign_1 : decode cX12_sign 1 = .ok (.bipush 61, 2) := by decide +kernel
theorem dX12_sign_3 : decode cX12_sign 3 = .ok (.if_icmp .eq 7, 3) := by decide +kernel
theorem dX12_sign_6 : decode cX12_sign 6 = .ok (.iconst 0, 1) := by decide +kernel
theorem dX12_sign_7 : decode cX12_sign 7 = .ok (.goto 37, 3) := by decide +kernel
theorem dX12_sign_10 : decode cX12_sign 10 = .ok (.iload_n 2, 1) := by decide +kernel
theorem dX12_sign_11 : decode cX12_sign 11 = .ok (.bipush 61, 2) := by decide +kernel
theorem dX12_sign_13 : decode cX12_sign 13 = .ok (.if_icmp .ne 8, 3) := by decide +kernel
theorem dX12_sign_16 : decode cX12_sign 16 = .ok (.bipush 11, 2) := by decide +kernel
theorem dX12_sign_18 : decode cX12_sign 18 = .ok (.goto 26, 3) := by decide +kernel
theorem dX12_sign_21 : decode cX12_sign 21 = .ok (.iload_n 2, 1) := by decide +kernel
theorem dX12_sign_22 : decode cX12_sign 22 = .ok (.bipush 33, 2) := by decide +kernel
theorem dX12_sign_24 : decode cX12_sign 24 = .ok (.if_icmp .ne 8, 3) := by decide +kernel
theorem dX12_sign_27 : decode cX12_sign 27 = .ok (.bipush 12, 2) := by decide +kernel
theorem dX12_sign_29 : decode cX12_sign 29 = .ok (.goto 15, 3) := by decide +kernel
theorem dX12_sign_32 : decode cX12_sign 32 = .ok (.iload_n 2, 1) := by decide +kernel
theorem dX12_sign_33 : decode cX12_sign 33 = .ok (.bipush 60, 2) := by decide +kernel
theorem dX12_sign_35 : decode cX12_sign 35 = .ok (.if_icmp .ne 8, 3) := by decide +kernel
theorem dX12_sign_38 : decode cX12_sign 38 = .ok (.bipush 14, 2) := by decide +kernel
theorem dX12_sign_40 : decode cX12_sign 40 = .ok (.goto 4, 3) := by decide +kernel
theorem dX12_sign_43 : decode cX12_sign 43 = .ok (.iconst 0, 1) := by decide +kernel
theorem dX12_sign_44 : decode cX12_sign 44 = .ok (.istore 4, 2) := by decide +kernel
theorem dX12_sign_46 : decode cX12_sign 46 = .ok (.iconst 3, 1) := by decide +kernel
theorem dX12_sign_47 : decode cX12_sign 47 = .ok (.istore 5, 2) := by decide +kernel
theorem dX12_sign_49 : decode cX12_sign 49 = .ok (.iload 4, 2) := by decide +kernel
theorem dX12_sign_51 : decode cX12_sign 51 = .ok (.ifCond .le 10, 3) := by decide +kernel
theorem dX12_sign_54 : decode cX12_sign 54 = .ok (.iload 4, 2) := by decide +kernel
theorem dX12_sign_56 : decode cX12_sign 56 = .ok (.istore 5, 2) := by decide +kernel
theorem dX12_sign_58 : decode cX12_sign 58 = .ok (.goto 90, 3) := by decide +kernel
theorem dX12_sign_61 : decode cX12_sign 61 = .ok (.iload_n 2, 1) := by decide +kernel
theorem dX12_sign_62 : decode cX12_sign 62 = .ok (.bipush 59, 2) := by decide +kernel
theorem dX12_sign_64 : decode cX12_sign 64 = .ok (.if_icmp .ne 9, 3) := by decide +kernel
theorem dX12_sign_67 : decode cX12_sign 67 = .ok (.iconst 4, 1) := by decide +kernel
theorem dX12_sign_68 : decode cX12_sign 68 = .ok (.istore 5, 2) := by decide +kernel
theorem dX12_sign_70 : decode cX12_sign 70 = .ok (.goto 78, 3) := by decide +kernel
theorem dX12_sign_73 : decode cX12_sign 73 = .ok (.iload_n 2, 1) := by decide +kernel
theorem dX12_sign_74 : decode cX12_sign 74 = .ok (.bipush 40, 2) := by decide +kernel
theorem dX12_sign_76 : decode cX12_sign 76 = .ok (.if_icmp .ne 10, 3) := by decide +kernel
theorem dX12_sign_79 : decode cX12_sign 79 = .ok (.bipush 6, 2) := by decide +kernel
theorem dX12_sign_81 : decode cX12_sign 81 = .ok (.istore 5, 2) := by decide +kernel
theorem dX12_sign_83 : decode cX12_sign 83 = .ok (.goto 65, 3) := by decide +kernel
theorem dX12_sign_86 : decode cX12_sign 86 = .ok (.iload_n 2, 1) := by decide +kernel
theorem dX12_sign_87 : decode cX12_sign 87 = .ok (.bipush 41, 2) := by decide +kernel
theorem dX12_sign_89 : decode cX12_sign 89 = .ok (.if_icmp .ne 10, 3) := by decide +kernel
theorem dX12_sign_92 : decode cX12_sign 92 = .ok (.bipush 7, 2) := by decide +kernel
theorem dX12_sign_94 : decode cX12_sign 94 = .ok (.istore 5, 2) := by decide +kernel
theorem dX12_sign_96 : decode cX12_sign 96 = .ok (.goto 52, 3) := by decide +kernel
theorem dX12_sign_99 : decode cX12_sign 99 = .ok (.iload_n 2, 1) := by decide +kernel
theorem dX12_sign_100 : decode cX12_sign 100 = .ok (.bipush 43, 2) := by decide +kernel
theorem dX12_sign_102 : decode cX12_sign 102 = .ok (.if_icmp .ne 10, 3) := by decide +kernel
theorem dX12_sign_105 : decode cX12_sign 105 = .ok (.bipush 8, 2) := by decide +kernel
theorem dX12_sign_107 : decode cX12_sign 107 = .ok (.istore 5, 2) := by decide +kernel
theorem dX12_sign_109 : decode cX12_sign 109 = .ok (.goto 39, 3) := by decide +kernel
theorem dX12_sign_112 : decode cX12_sign 112 = .ok (.iload_n 2, 1) := by decide +kernel
theorem dX12_sign_113 : decode cX12_sign 113 = .ok (.bipush 45, 2) := by decide +kernel
theorem dX12_sign_115 : decode cX12_sign 115 = .ok (.if_icmp .ne 10, 3) := by decide +kernel
theorem dX12_sign_118 : decode cX12_sign 118 = .ok (.bipush 9, 2) := by decide +kernel
theorem dX12_sign_120 : decode cX12_sign 120 = .ok (.istore 5, 2) := by decide +kernel
theorem dX12_sign_122 : decode cX12_sign 122 = .ok (.goto 26, 3) := by decide +kernel
theorem dX12_sign_125 : decode cX12_sign 125 = .ok (.iload_n 2, 1) := by decide +kernel
theorem dX12_sign_126 : decode cX12_sign 126 = .ok (.bipush 42, 2) := by decide +kernel
theorem dX12_sign_128 : decode cX12_sign 128 = .ok (.if_icmp .ne 10, 3) := by decide +kernel
theorem dX12_sign_131 : decode cX12_sign 131 = .ok (.bipush 10, 2) := by decide +kernel
theorem dX12_sign_133 : decode cX12_sign 133 = .ok (.istore 5, 2) := by decide +kernel
theorem dX12_sign_135 : decode cX12_sign 135 = .ok (.goto 13, 3) := by decide +kernel
theorem dX12_sign_138 : decode cX12_sign 138 = .ok (.iload_n 2, 1) := by decide +kernel
theorem dX12_sign_139 : decode cX12_sign 139 = .ok (.bipush 60, 2) := by decide +kernel
theorem dX12_sign_141 : decode cX12_sign 141 = .ok (.if_icmp .ne 7, 3) := by decide +kernel
theorem dX12_sign_144 : decode cX12_sign 144 = .ok (.bipush 13, 2) := by decide +kernel
theorem dX12_sign_146 : decode cX12_sign 146 = .ok (.istore 5, 2) := by decide +kernel
theorem dX12_sign_148 : decode cX12_sign 148 = .ok (.aload_n 0, 1) := by decide +kernel
theorem dX12_sign_149 : decode cX12_sign 149 = .ok (.iload 5, 2) := by decide +kernel
theorem dX12_sign_151 : decode cX12_sign 151 = .ok (.iload_n 1, 1) := by decide +kernel
theorem dX12_sign_152 : decode cX12_sign 152 = .ok (.iconst 0, 1) := by decide +kernel
theorem dX12_sign_153 : decode cX12_sign 153 = .ok (.lconst 0, 1) := by decide +kernel
theorem dX12_sign_154 : decode cX12_sign 154 = .ok (.invokevirtual 227, 3) := by decide +kernel
theorem dX12_sign_157 : decode cX12_sign 157 = .ok (.iload 4, 2) := by decide +kernel
theorem dX12_sign_159 : decode cX12_sign 159 = .ok (.ifCond .le 7, 3) := by decide +kernel
theorem dX12_sign_162 : decode cX12_sign 162 = .ok (.iconst 2, 1) := by decide +kernel
theorem dX12_sign_163 : decode cX12_sign 163 = .ok (.goto 4, 3) := by decide +kernel
theorem dX12_sign_166 : decode cX12_sign 166 = .ok (.iconst 1, 1) := by decide +kernel
theorem dX12_sign_167 : decode cX12_sign 167 = .ok (.ireturn, 1) := by decide +kernel
theorem dX12_is_0 : decode cX12_is 0 = .ok (.aload_n 0, 1) := by decide +kernel
theorem dX12_is_1 : decode cX12_is 1 = .ok (.getfield 242, 3) := by decide +kernel
theorem dX12_is_4 : decode cX12_is 4 = .ok (.ifCond .ne 20, 3) := by decide +kernel
theorem dX12_is_7 : decode cX12_is 7 = .ok (.aload_n 0, 1) := by decide +kernel
theorem dX12_is_8 : decode cX12_is 8 = .ok (.getfield 20, 3) := by decide +kernel
theorem dX12_is_11 : decode cX12_is 11 = .ok (.aload_n 0, 1) := by decide +kernel
theorem dX12_is_12 : decode cX12_is 12 = .ok (.getfield 245, 3) := by decide +kernel
theorem dX12_is_15 : decode cX12_is 15 = .ok (.iaload, 1) := by decide +kernel
theorem dX12_is_16 : decode cX12_is 16 = .ok (.iload_n 1, 1) := by decide +kernel
theorem dX12_is_17 : decode cX12_is 17 = .ok (.if_icmp .ne 7, 3) := by decide +kernel
theorem dX12_is_20 : decode cX12_is 20 = .ok (.iconst 1, 1) := by decide +kernel
theorem dX12_is_21 : decode cX12_is 21 = .ok (.goto 4, 3) := by decide +kernel
theorem dX12_is_24 : decode cX12_is 24 = .ok (.iconst 0, 1) := by decide +kernel
theorem dX12_is_25 : decode cX12_is 25 = .ok (.ireturn, 1) := by decide +kernel
theorem dX12_fail_0 : decode cX12_fail 0 = .ok (.aload_n 0, 1) := by decide +kernel
theorem dX12_fail_1 : decode cX12_fail 1 = .ok (.getfield 242, 3) := by decide +kernel
theorem dX12_fail_4 : decode cX12_fail 4 = .ok (.ifCond .le 4, 3) := by decide +kernel
theorem dX12_fail_7 : decode cX12_fail 7 = .ok (.return_, 1) := by decide +kernel
theorem dX12_fail_8 : decode cX12_fail 8 = .ok (.aload_n 0, 1) := by decide +kernel
theorem dX12_fail_9 : decode cX12_fail 9 = .ok (.iload_n 1, 1) := by decide +kernel
theorem dX12_fail_10 : decode cX12_fail 10 = .ok (.putfield 242, 3) := by decide +kernel
theorem dX12_fail_13 : decode cX12_fail 13 = .ok (.aload_n 0, 1) := by decide +kernel
theorem dX12_fail_14 : decode cX12_fail 14 = .ok (.aload_n 0, 1) := by decide +kernel
theorem dX12_fail_15 : decode cX12_fail 15 = .ok (.getfield 24, 3) := by decide +kernel
theorem dX12_fail_18 : decode cX12_fail 18 = .ok (.aload_n 0, 1) := by decide +kernel
theorem dX12_fail_19 : decode cX12_fail 19 = .ok (.getfield 245, 3) := by decide +kernel
theorem dX12_fail_22 : decode cX12_fail 22 = .ok (.iaload, 1) := by decide +kernel
theorem dX12_fail_23 : decode cX12_fail 23 = .ok (.putfield 248, 3) := by decide +kernel
theorem dX12_fail_26 : decode cX12_fail 26 = .ok (.return_, 1) := by decide +kernel
set_option maxRecDepth 20000 in
theorem ggX12_next_X12_fail : GoodIn wsX12_next wsX12_fail := goodIn_r _ [6, 7, 8, 1, 9, 10, 11, 12, 13, 14, 15, 16, 17, 18, 19, 20, 21, 22, 23, 24, 25, 26, 27, 28, 29, 30, 31, 32, 33, 34, 35, 36, 37, 38, 39, 40, 41, 42, 43, 44, 45, 46, 47, 48, 49, 50, 51, 52, 53, 54, 55, 56, 57, 58, 59, 60, 61, 62, 63, 64, 65, 66, 67, 68, 69, 70, 71, 72, 73, 74, 75, 76, 77, 78, 79, 80, 81, 82, 83, 84, 85, 86, 87, 88, 89, 90, 91, 92, 93, 94] (by decide +kernel) (by decide +kernel)
set_option maxRecDepth 20000 in
theorem gX12_next_X12_fail : GoodIn wsX12_next (wsV RX12 257 RX12 yX12_fail wsX12_fail) := goodIn_app (goodIn_of _ (by decide +kernel)) ggX12_next_X12_fail
theorem dX12_next_0 : decode cX12_next 0 = .ok (.aload_n 0, 1) := by decide +kernel
theorem dX12_next_1 : decode cX12_next 1 = .ok (.getfield 245, 3) := by decide +kernel
theorem dX12_next_4 : decode cX12_next 4 = .ok (.sipush 400, 3) := by decide +kernel
theorem dX12_next_7 : decode cX12_next 7 = .ok (.if_icmp .ne 11, 3) := by decide +kernel
theorem dX12_next_10 : decode cX12_next 10 = .ok (.aload_n 0, 1) := by decide +kernel
theorem dX12_next_11 : decode cX12_next 11 = .ok (.iconst 2, 1) := by decide +kernel
theorem dX12_next_12 : decode cX12_next 12 = .ok (.invokevirtual 257, 3) := by decide +kernel
theorem dX12_next_15 : decode cX12_next 15 = .ok (.goto 13, 3) := by decide +kernel
theorem dX12_next_18 : decode cX12_next 18 = .ok (.aload_n 0, 1) := by decide +kernel
theorem dX12_next_19 : decode cX12_next 19 = .ok (.dup, 1) := by decide +kernel
theorem dX12_next_20 : decode cX12_next 20 = .ok (.getfield 245, 3) := by decide +kernel
theorem dX12_next_23 : decode cX12_next 23 = .ok (.iconst 1, 1) := by decide +kernel
theorem dX12_next_24 : decode cX12_next 24 = .ok (.iadd, 1) := by decide +kernel
theorem dX12_next_25 : decode cX12_next 25 = .ok (.putfield 245, 3) := by decide +kernel
theorem dX12_next_28 : decode cX12_next 28 = .ok (.return_, 1) := by decide +kernel
set_option maxRecDepth 20000 in
theorem ggX12_must_X12_is : GoodIn wsX12_must wsX12_is := goodIn_r _ [5, 6, 7, 8, 19, 20, 21, 22, 23, 24, 25, 26, 27, 28, 29, 30, 31, 32, 33, 34, 35, 36, 37, 38, 39, 40, 41, 42, 43, 44, 45, 46, 47, 48, 49, 50, 51, 52, 53, 54, 55, 56, 57, 58, 59, 60, 61, 62, 63, 64, 65, 66, 67, 68, 69, 70, 71, 72, 73, 74, 75, 76, 77, 78, 79, 80, 81, 82, 83, 84, 85, 86, 87, 88, 89, 90, 91, 92, 93, 94, 95, 96, 97, 98, 99, 100, 101, 102, 103] (by decide +kernel) (by decide +kernel)
set_option maxRecDepth 20000 in
theorem gX12_must_X12_is : GoodIn wsX12_must (wsV RX12 260 RX12 yX12_is wsX12_is) := goodIn_app (goodIn_of _ (by decide +kernel)) ggX12_must_X12_is
set_option maxRecDepth 20000 in
theorem ggX12_must_X12_next : GoodIn wsX12_must wsX12_next := goodIn_r _ [12, 8, 13, 14, 15, 4, 16, 6, 17, 18, 19, 20, 21, 22, 23, 24, 25, 26, 27, 28, 29, 30, 31, 32, 33, 34, 35, 36, 37, 38, 39, 40, 41, 42, 43, 44, 45, 46, 47, 48, 49, 50, 51, 52, 53, 54, 55, 56, 57, 58, 59, 60, 61, 62, 63, 64, 65, 66, 67, 68, 69, 70, 71, 72, 73, 74, 75, 76, 77, 78, 79, 80, 81, 82, 83, 84, 85, 86, 87, 88, 89, 90, 91, 92, 93, 94, 95, 96, 97, 98, 99, 100, 101, 102, 103] (by decide +kernel) (by decide +kernel)
set_option maxRecDepth 20000 in
theorem gX12_must_X12_next : GoodIn wsX12_must (wsV RX12 263 RX12 yX12_next wsX12_next) := goodIn_app (goodIn_of _ (by decide +kernel)) ggX12_must_X12_next
set_option maxRecDepth 20000 in
theorem ggX12_must_X12_fail : GoodIn wsX12_must wsX12_fail := goodIn_r _ [16, 6, 17, 8, 18, 19, 20, 21, 22, 23, 24, 25, 26, 27, 28, 29, 30, 31, 32, 33, 34, 35, 36, 37, 38, 39, 40, 41, 42, 43, 44, 45, 46, 47, 48, 49, 50, 51, 52, 53, 54, 55, 56, 57, 58, 59, 60, 61, 62, 63, 64, 65, 66, 67, 68, 69, 70, 71, 72, 73, 74, 75, 76, 77, 78, 79, 80, 81, 82, 83, 84, 85, 86, 87, 88, 89, 90, 91, 92, 93, 94, 95, 96, 97, 98, 99, 100, 101, 102, 103] (by decide +kernel) (by decide +kernel)
set_option maxRecDepth 20000 in
theorem gX12_must_X12_fail : GoodIn wsX12_must (wsV RX12 257 RX12 yX12_fail wsX12_fail) := goodIn_app (goodIn_of _ (by decide +kernel)) ggX12_must_X12_fail
theorem dX12_must_0 : decode cX12_must 0 = .ok (.aload_n 0, 1) := by decide +kernel
theorem dX12_must_1 : decode cX12_must 1 = .ok (.iload_n 1, 1) := by decide +kernel
theorem dX12_must_2 : decode cX12_must 2 = .ok (.invokevirtual 260, 3) := by decide +kernel
theorem dX12_must_5 : decode cX12_must 5 = .ok (.ifCond .eq 10, 3) := by decide +kernel
theorem dX12_must_8 : decode cX12_must 8 = .ok (.aload_n 0, 1) := by decide +kernel
theorem dX12_must_9 : decode cX12_must 9 = .ok (.invokevirtual 263, 3) := by decide +kernel
theorem dX12_must_12 : decode cX12_must 12 = .ok (.goto 8, 3) := by decide +kernel
theorem dX12_must_15 : decode cX12_must 15 = .ok (.aload_n 0, 1) := by decide +kernel
theorem dX12_must_16 : decode cX12_must 16 = .ok (.iconst 1, 1) := by decide +kernel
theorem dX12_must_17 : decode cX12_must 17 = .ok (.invokevirtual 257, 3) := by decide +kernel
theorem dX12_must_20 : decode cX12_must 20 = .ok (.return_, 1) := by decide +kernel
set_option maxRecDepth 20000 in
theorem ggX12_read_X12_cut : GoodIn wsX12_read wsX12_cut := goodIn_r _ [20, 21, 2, 22, 23, 24, 25, 19, 26, 3, 27, 28, 29, 30, 31, 32, 33, 34, 35, 36, 37, 38, 39, 40, 41, 42, 43, 44, 45, 46, 47, 48, 99, 100, 101, 102, 103, 104, 105, 106, 107, 108, 109, 110, 111, 112, 113, 114, 115, 116, 117, 118, 119, 120, 121, 122, 123, 124, 125, 126, 127, 128, 129, 130, 131, 132, 133, 134, 135, 136, 137, 138, 139, 140, 141, 142, 143, 144, 145, 146, 147, 148, 149, 150, 151, 152, 153, 154, 155, 156, 157, 158, 159, 160, 161, 162, 163, 164, 165, 166, 167, 168, 169, 170, 171, 172, 173, 174, 175, 176, 177, 178, 179, 180, 181, 182, 183] (by decide +kernel) (by decide +kernel)
set_option maxRecDepth 20000 in
theorem gX12_read_X12_cut : GoodIn wsX12_read (wsV RX12 266 RX12 yX12_cut wsX12_cut) := goodIn_app (goodIn_of _ (by decide +kernel)) ggX12_read_X12_cut
set_option maxRecDepth 20000 in
theorem ggX12_read_X12_is : GoodIn wsX12_read wsX12_is := goodIn_r _ [52, 7, 31, 5, 99, 100, 101, 102, 103, 104, 105, 106, 107, 108, 109, 110, 111, 112, 113, 114, 115, 116, 117, 118, 119, 120, 121, 122, 123, 124, 125, 126, 127, 128, 129, 130, 131, 132, 133, 134, 135, 136, 137, 138, 139, 140, 141, 142, 143, 144, 145, 146, 147, 148, 149, 150, 151, 152, 153, 154, 155, 156, 157, 158, 159, 160, 161, 162, 163, 164, 165, 166, 167, 168, 169, 170, 171, 172, 173, 174, 175, 176, 177, 178, 179, 180, 181, 182, 183] (by decide +kernel) (by decide +kernel)
set_option maxRecDepth 20000 in
theorem gX12_read_X12_is : GoodIn wsX12_read (wsV RX12 260 RX12 yX12_is wsX12_is) := goodIn_app (goodIn_of _ (by decide +kernel)) ggX12_read_X12_is
set_option maxRecDepth 20000 in
theorem ggX12_read_X12_tellRule : GoodIn wsX12_read wsX12_tellRule := goodIn_r _ [56, 11, 10, 7, 57, 58, 13, 59, 60, 12, 61, 49, 50, 51, 19, 52, 31, 5, 62, 63, 64, 65, 32, 14, 66, 67, 68, 69, 70, 71, 72, 73, 74, 6, 75, 33, 76, 77, 78, 79, 80, 81, 82, 83, 84, 85, 86, 87, 88, 89, 90, 91, 92, 93, 94, 95, 96, 97, 98, 99, 100, 101, 102, 103, 104, 105, 106, 107, 108, 109, 110, 111, 112, 113, 114, 115, 116, 117, 118, 119, 120, 121, 122, 123, 124, 125, 126, 127, 128, 129, 130, 131, 132, 133, 134, 135, 136, 137, 138, 139, 140, 141, 142, 143, 144, 145, 146, 147, 148, 149, 150, 151, 152, 153, 154, 155, 156, 157, 158, 159, 160, 161, 162, 163, 164, 165, 166, 167, 168, 169, 170, 171, 172, 173, 174, 175, 176, 177, 178, 179, 180, 181, 182, 183] (by decide +kernel) (by decide +kernel)
set_option maxRecDepth 20000 in
theorem gX12_read_X12_tellRule : GoodIn wsX12_read (wsV RX12 281 RX12 yX12_tellRule wsX12_tellRule) := goodIn_app (goodIn_of _ (by decide +kernel)) ggX12_read_X12_tellRule
theorem dX12_read_0 : decode cX12_read 0 = .ok (.aload_n 0, 1) := by decide +kernel
theorem dX12_read_1 : decode cX12_read 1 = .ok (.aload_n 0, 1) := by decide +kernel
theorem dX12_read_2 : decode cX12_read 2 = .ok (.getfield 204, 3) := by decide +kernel
theorem dX12_read_5 : decode cX12_read 5 = .ok (.putfield 211, 3) := by decide +kernel
theorem dX12_read_8 : decode cX12_read 8 = .ok (.iconst 0, 1) := by decide +kernel
theorem dX12_read_9 : decode cX12_read 9 = .ok (.istore_n 1, 1) := by decide +kernel
theorem dX12_read_10 : decode cX12_read 10 = .ok (.iload_n 1, 1) := by decide +kernel
theorem dX12_read_11 : decode cX12_read 11 = .ok (.aload_n 0, 1) := by decide +kernel
theorem dX12_read_12 : decode cX12_read 12 = .ok (.getfield 211, 3) := by decide +kernel
theorem dX12_read_15 : decode cX12_read 15 = .ok (.if_icmp .ge 21, 3) := by decide +kernel
theorem dX12_read_18 : decode cX12_read 18 = .ok (.aload_n 0, 1) := by decide +kernel
theorem dX12_read_19 : decode cX12_read 19 = .ok (.getfield 17, 3) := by decide +kernel
theorem dX12_read_22 : decode cX12_read 22 = .ok (.iload_n 1, 1) := by decide +kernel
theorem dX12_read_23 : decode cX12_read 23 = .ok (.aload_n 0, 1) := by decide +kernel
theorem dX12_read_24 : decode cX12_read 24 = .ok (.getfield 13, 3) := by decide +kernel
theorem dX12_read_27 : decode cX12_read 27 = .ok (.iload_n 1, 1) := by decide +kernel
theorem dX12_read_28 : decode cX12_read 28 = .ok (.baload, 1) := by decide +kernel
theorem dX12_read_29 : decode cX12_read 29 = .ok (.bastore, 1) := by decide +kernel
theorem dX12_read_30 : decode cX12_read 30 = .ok (.iinc 1 1, 3) := by decide +kernel
theorem dX12_read_33 : decode cX12_read 33 = .ok (.goto (-23), 3) := by decide +kernel
theorem dX12_read_36 : decode cX12_read 36 = .ok (.aload_n 0, 1) := by decide +kernel
theorem dX12_read_37 : decode cX12_read 37 = .ok (.iconst 0, 1) := by decide +kernel
theorem dX12_read_38 : decode cX12_read 38 = .ok (.putfield 204, 3) := by decide +kernel
theorem dX12_read_41 : decode cX12_read 41 = .ok (.aload_n 0, 1) := by decide +kernel
theorem dX12_read_42 : decode cX12_read 42 = .ok (.invokevirtual 266, 3) := by decide +kernel
theorem dX12_read_45 : decode cX12_read 45 = .ok (.aload_n 0, 1) := by decide +kernel
theorem dX12_read_46 : decode cX12_read 46 = .ok (.iconst 0, 1) := by decide +kernel
theorem dX12_read_47 : decode cX12_read 47 = .ok (.putfield 245, 3) := by decide +kernel
theorem dX12_read_50 : decode cX12_read 50 = .ok (.aload_n 0, 1) := by decide +kernel
theorem dX12_read_51 : decode cX12_read 51 = .ok (.iconst 0, 1) := by decide +kernel
theorem dX12_read_52 : decode cX12_read 52 = .ok (.putfield 269, 3) := by decide +kernel
theorem dX12_read_55 : decode cX12_read 55 = .ok (.aload_n 0, 1) := by decide +kernel
theorem dX12_read_56 : decode cX12_read 56 = .ok (.iconst 0, 1) := by decide +kernel
theorem dX12_read_57 : decode cX12_read 57 = .ok (.putfield 242, 3) := by decide +kernel
theorem dX12_read_60 : decode cX12_read 60 = .ok (.aload_n 0, 1) := by decide +kernel
theorem dX12_read_61 : decode cX12_read 61 = .ok (.iconst 0, 1) := by decide +kernel
theorem dX12_read_62 : decode cX12_read 62 = .ok (.putfield 251, 3) := by decide +kernel
theorem dX12_read_65 : decode cX12_read 65 = .ok (.aload_n 0, 1) := by decide +kernel
theorem dX12_read_66 : decode cX12_read 66 = .ok (.iconst 1, 1) := by decide +kernel
theorem dX12_read_67 : decode cX12_read 67 = .ok (.aload_n 0, 1) := by decide +kernel
theorem dX12_read_68 : decode cX12_read 68 = .ok (.getfield 272, 3) := by decide +kernel
theorem dX12_read_71 : decode cX12_read 71 = .ok (.isub, 1) := by decide +kernel
theorem dX12_read_72 : decode cX12_read 72 = .ok (.putfield 275, 3) := by decide +kernel
theorem dX12_read_75 : decode cX12_read 75 = .ok (.aload_n 0, 1) := by decide +kernel
theorem dX12_read_76 : decode cX12_read 76 = .ok (.getfield 40, 3) := by decide +kernel
theorem dX12_read_79 : decode cX12_read 79 = .ok (.aload_n 0, 1) := by decide +kernel
theorem dX12_read_80 : decode cX12_read 80 = .ok (.getfield 275, 3) := by decide +kernel
theorem dX12_read_83 : decode cX12_read 83 = .ok (.iconst 0, 1) := by decide +kernel
theorem dX12_read_84 : decode cX12_read 84 = .ok (.iastore, 1) := by decide +kernel
theorem dX12_read_85 : decode cX12_read 85 = .ok (.aload_n 0, 1) := by decide +kernel
theorem dX12_read_86 : decode cX12_read 86 = .ok (.getfield 58, 3) := by decide +kernel
theorem dX12_read_89 : decode cX12_read 89 = .ok (.aload_n 0, 1) := by decide +kernel
theorem dX12_read_90 : decode cX12_read 90 = .ok (.getfield 275, 3) := by decide +kernel
theorem dX12_read_93 : decode cX12_read 93 = .ok (.iconst 0, 1) := by decide +kernel
theorem dX12_read_94 : decode cX12_read 94 = .ok (.iastore, 1) := by decide +kernel
theorem dX12_read_95 : decode cX12_read 95 = .ok (.aload_n 0, 1) := by decide +kernel
theorem dX12_read_96 : decode cX12_read 96 = .ok (.sipush 500, 3) := by decide +kernel
theorem dX12_read_99 : decode cX12_read 99 = .ok (.aload_n 0, 1) := by decide +kernel
theorem dX12_read_100 : decode cX12_read 100 = .ok (.getfield 275, 3) := by decide +kernel
theorem dX12_read_103 : decode cX12_read 103 = .ok (.imul, 1) := by decide +kernel
theorem dX12_read_104 : decode cX12_read 104 = .ok (.putfield 278, 3) := by decide +kernel
theorem dX12_read_107 : decode cX12_read 107 = .ok (.aload_n 0, 1) := by decide +kernel
theorem dX12_read_108 : decode cX12_read 108 = .ok (.getfield 242, 3) := by decide +kernel
theorem dX12_read_111 : decode cX12_read 111 = .ok (.ifCond .ne 18, 3) := by decide +kernel
theorem dX12_read_114 : decode cX12_read 114 = .ok (.aload_n 0, 1) := by decide +kernel
theorem dX12_read_115 : decode cX12_read 115 = .ok (.iconst 0, 1) := by decide +kernel
theorem dX12_read_116 : decode cX12_read 116 = .ok (.invokevirtual 260, 3) := by decide +kernel
theorem dX12_read_119 : decode cX12_read 119 = .ok (.ifCond .ne 10, 3) := by decide +kernel
theorem dX12_read_122 : decode cX12_read 122 = .ok (.aload_n 0, 1) := by decide +kernel
theorem dX12_read_123 : decode cX12_read 123 = .ok (.invokevirtual 281, 3) := by decide +kernel
theorem dX12_read_126 : decode cX12_read 126 = .ok (.goto (-19), 3) := by decide +kernel
theorem dX12_read_129 : decode cX12_read 129 = .ok (.aload_n 0, 1) := by decide +kernel
theorem dX12_read_130 : decode cX12_read 130 = .ok (.aload_n 0, 1) := by decide +kernel
theorem dX12_read_131 : decode cX12_read 131 = .ok (.getfield 242, 3) := by decide +kernel
theorem dX12_read_134 : decode cX12_read 134 = .ok (.ifCond .le 10, 3) := by decide +kernel
theorem dX12_read_137 : decode cX12_read 137 = .ok (.aload_n 0, 1) := by decide +kernel
theorem dX12_read_138 : decode cX12_read 138 = .ok (.getfield 248, 3) := by decide +kernel
theorem dX12_read_141 : decode cX12_read 141 = .ok (.goto 4, 3) := by decide +kernel
theorem dX12_read_144 : decode cX12_read 144 = .ok (.iconst (-1), 1) := by decide +kernel
theorem dX12_read_145 : decode cX12_read 145 = .ok (.putfield 37, 3) := by decide +kernel
theorem dX12_read_148 : decode cX12_read 148 = .ok (.aload_n 0, 1) := by decide +kernel
theorem dX12_read_149 : decode cX12_read 149 = .ok (.getfield 242, 3) := by decide +kernel
theorem dX12_read_152 : decode cX12_read 152 = .ok (.ifCond .le 8, 3) := by decide +kernel
theorem dX12_read_155 : decode cX12_read 155 = .ok (.aload_n 0, 1) := by decide +kernel
theorem dX12_read_156 : decode cX12_read 156 = .ok (.getfield 242, 3) := by decide +kernel
theorem dX12_read_159 : decode cX12_read 159 = .ok (.ireturn, 1) := by decide +kernel
theorem dX12_read_160 : decode cX12_read 160 = .ok (.aload_n 0, 1) := by decide +kernel
theorem dX12_read_161 : decode cX12_read 161 = .ok (.aload_n 0, 1) := by decide +kernel
theorem dX12_read_162 : decode cX12_read 162 = .ok (.getfield 275, 3) := by decide +kernel
theorem dX12_read_165 : decode cX12_read 165 = .ok (.putfield 272, 3) := by decide +kernel
theorem dX12_read_168 : decode cX12_read 168 = .ok (.iconst 0, 1) := by decide +kernel
theorem dX12_read_169 : decode cX12_read 169 = .ok (.ireturn, 1) := by decide +kernel
theorem dX12_place_0 : decode cX12_place 0 = .ok (.aload_n 0, 1) := by decide +kernel
theorem dX12_place_1 : decode cX12_place 1 = .ok (.getfield 37, 3) := by decide +kernel
theorem dX12_place_4 : decode cX12_place 4 = .ok (.ireturn, 1) := by decide +kernel
set_option maxRecDepth 20000 in
theorem ggX12_tellRule_X12_is : GoodIn wsX12_tellRule wsX12_is := goodIn_r _ [15, 3, 16, 17, 59, 60, 61, 62, 63, 64, 65, 66, 67, 68, 69, 70, 71, 72, 73, 74, 75, 76, 77, 78, 79, 80, 81, 82, 83, 84, 85, 86, 87, 88, 89, 90, 91, 92, 93, 94, 95, 96, 97, 98, 99, 100, 101, 102, 103, 104, 105, 106, 107, 108, 109, 110, 111, 112, 113, 114, 115, 116, 117, 118, 119, 120, 121, 122, 123, 124, 125, 126, 127, 128, 129, 130, 131, 132, 133, 134, 135, 136, 137, 138, 139, 140, 141, 142, 143] (by decide +kernel) (by decide +kernel)
set_option maxRecDepth 20000 in
theorem gX12_tellRule_X12_is : GoodIn wsX12_tellRule (wsV RX12 260 RX12 yX12_is wsX12_is) := goodIn_app (goodIn_of _ (by decide +kernel)) ggX12_tellRule_X12_is
set_option maxRecDepth 20000 in
theorem ggX12_tellRule_X12_fail : GoodIn wsX12_tellRule wsX12_fail := goodIn_r _ [21, 3, 22, 17, 23, 59, 60, 61, 62, 63, 64, 65, 66, 67, 68, 69, 70, 71, 72, 73, 74, 75, 76, 77, 78, 79, 80, 81, 82, 83, 84, 85, 86, 87, 88, 89, 90, 91, 92, 93, 94, 95, 96, 97, 98, 99, 100, 101, 102, 103, 104, 105, 106, 107, 108, 109, 110, 111, 112, 113, 114, 115, 116, 117, 118, 119, 120, 121, 122, 123, 124, 125, 126, 127, 128, 129, 130, 131, 132, 133, 134, 135, 136, 137, 138, 139, 140, 141, 142, 143] (by decide +kernel) (by decide +kernel)
set_option maxRecDepth 20000 in
theorem gX12_tellRule_X12_fail : GoodIn wsX12_tellRule (wsV RX12 257 RX12 yX12_fail wsX12_fail) := goodIn_app (goodIn_of _ (by decide +kernel)) ggX12_tellRule_X12_fail
set_option maxRecDepth 20000 in
theorem ggX12_tellRule_X12_next : GoodIn wsX12_tellRule wsX12_next := goodIn_r _ [27, 17, 18, 19, 20, 14, 21, 3, 22, 23, 59, 60, 61, 62, 63, 64, 65, 66, 67, 68, 69, 70, 71, 72, 73, 74, 75, 76, 77, 78, 79, 80, 81, 82, 83, 84, 85, 86, 87, 88, 89, 90, 91, 92, 93, 94, 95, 96, 97, 98, 99, 100, 101, 102, 103, 104, 105, 106, 107, 108, 109, 110, 111, 112, 113, 114, 115, 116, 117, 118, 119, 120, 121, 122, 123, 124, 125, 126, 127, 128, 129, 130, 131, 132, 133, 134, 135, 136, 137, 138, 139, 140, 141, 142, 143] (by decide +kernel) (by decide +kernel)
set_option maxRecDepth 20000 in
theorem gX12_tellRule_X12_next : GoodIn wsX12_tellRule (wsV RX12 263 RX12 yX12_next wsX12_next) := goodIn_app (goodIn_of _ (by decide +kernel)) ggX12_tellRule_X12_next
set_option maxRecDepth 20000 in
theorem ggX12_tellRule_X12_expression : GoodIn wsX12_tellRule wsX12_expression := goodIn_r _ [31, 32, 33, 3, 34, 16, 17, 35, 11, 12, 13, 14, 15, 18, 19, 20, 21, 22, 23, 24, 25, 26, 27, 36, 37, 38, 39, 40, 6, 41, 42, 43, 44, 45, 59, 60, 61, 62, 63, 64, 65, 66, 67, 68, 69, 70, 71, 72, 73, 74, 75, 76, 77, 78, 79, 80, 81, 82, 83, 84, 85, 86, 87, 88, 89, 90, 91, 92, 93, 94, 95, 96, 97, 98, 99, 100, 101, 102, 103, 104, 105, 106, 107, 108, 109, 110, 111, 112, 113, 114, 115, 116, 117, 118, 119, 120, 121, 122, 123, 124, 125, 126, 127, 128, 129, 130, 131, 132, 133, 134, 135, 136, 137, 138, 139, 140, 141, 142, 143] (by decide +kernel) (by decide +kernel)
set_option maxRecDepth 20000 in
theorem gX12_tellRule_X12_expression : GoodIn wsX12_tellRule (wsV RX12 284 RX12 yX12_expression wsX12_expression) := goodIn_app (goodIn_of _ (by decide +kernel)) ggX12_tellRule_X12_expression
set_option maxRecDepth 20000 in
theorem ggX12_tellRule_X12_must : GoodIn wsX12_tellRule wsX12_must := goodIn_r _ [49, 11, 12, 13, 14, 15, 3, 16, 17, 24, 25, 26, 27, 18, 19, 20, 21, 22, 23, 59, 60, 61, 62, 63, 64, 65, 66, 67, 68, 69, 70, 71, 72, 73, 74, 75, 76, 77, 78, 79, 80, 81, 82, 83, 84, 85, 86, 87, 88, 89, 90, 91, 92, 93, 94, 95, 96, 97, 98, 99, 100, 101, 102, 103, 104, 105, 106, 107, 108, 109, 110, 111, 112, 113, 114, 115, 116, 117, 118, 119, 120, 121, 122, 123, 124, 125, 126, 127, 128, 129, 130, 131, 132, 133, 134, 135, 136, 137, 138, 139, 140, 141, 142, 143] (by decide +kernel) (by decide +kernel)
set_option maxRecDepth 20000 in
theorem gX12_tellRule_X12_must : GoodIn wsX12_tellRule (wsV RX12 287 RX12 yX12_must wsX12_must) := goodIn_app (goodIn_of _ (by decide +kernel)) ggX12_tellRule_X12_must
set_option maxRecDepth 20000 in
theorem ggX12_tellRule_X12_relation : GoodIn wsX12_tellRule wsX12_relation := goodIn_r _ [53, 6, 3, 16, 17, 2, 9, 54, 55, 56, 57, 58, 28, 29, 30, 14, 31, 32, 33, 34, 35, 11, 12, 13, 15, 18, 19, 20, 21, 22, 23, 24, 25, 26, 27, 36, 37, 38, 39, 40, 41, 42, 43, 44, 45, 59, 60, 61, 62, 63, 64, 65, 66, 67, 68, 69, 70, 71, 72, 73, 74, 75, 76, 77, 78, 79, 80, 81, 82, 83, 84, 85, 86, 87, 88, 89, 90, 91, 92, 93, 94, 95, 96, 97, 98, 99, 100, 101, 102, 103, 104, 105, 106, 107, 108, 109, 110, 111, 112, 113, 114, 115, 116, 117, 118, 119, 120, 121, 122, 123, 124, 125, 126, 127, 128, 129, 130, 131, 132, 133, 134, 135, 136, 137, 138, 139, 140, 141, 142, 143] (by decide +kernel) (by decide +kernel)
set_option maxRecDepth 20000 in
theorem gX12_tellRule_X12_relation : GoodIn wsX12_tellRule (wsV RX12 290 RX12 yX12_relation wsX12_relation) := goodIn_app (goodIn_of _ (by decide +kernel)) ggX12_tellRule_X12_relation
theorem dX12_tellRule_0 : decode cX12_tellRule 0 = .ok (.aload_n 0, 1) := by decide +kernel
theorem dX12_tellRule_1 : decode cX12_tellRule 1 = .ok (.bipush 20, 2) := by decide +kernel
theorem dX12_tellRule_3 : decode cX12_tellRule 3 = .ok (.invokevirtual 260, 3) := by decide +kernel
theorem dX12_tellRule_6 : decode cX12_tellRule 6 = .ok (.ifCond .ne 29, 3) := by decide +kernel
theorem dX12_tellRule_9 : decode cX12_tellRule 9 = .ok (.aload_n 0, 1) := by decide +kernel
theorem dX12_tellRule_10 : decode cX12_tellRule 10 = .ok (.bipush 22, 2) := by decide +kernel
theorem dX12_tellRule_12 : decode cX12_tellRule 12 = .ok (.invokevirtual 260, 3) := by decide +kernel
theorem dX12_tellRule_15 : decode cX12_tellRule 15 = .ok (.ifCond .ne 20, 3) := by decide +kernel
theorem dX12_tellRule_18 : decode cX12_tellRule 18 = .ok (.aload_n 0, 1) := by decide +kernel
theorem dX12_tellRule_19 : decode cX12_tellRule 19 = .ok (.bipush 23, 2) := by decide +kernel
theorem dX12_tellRule_21 : decode cX12_tellRule 21 = .ok (.invokevirtual 260, 3) := by decide +kernel
theorem dX12_tellRule_24 : decode cX12_tellRule 24 = .ok (.ifCond .ne 11, 3) := by decide +kernel
theorem dX12_tellRule_27 : decode cX12_tellRule 27 = .ok (.aload_n 0, 1) := by decide +kernel
theorem dX12_tellRule_28 : decode cX12_tellRule 28 = .ok (.iconst 1, 1) := by decide +kernel
theorem dX12_tellRule_29 : decode cX12_tellRule 29 = .ok (.invokevirtual 257, 3) := by decide +kernel
theorem dX12_tellRule_32 : decode cX12_tellRule 32 = .ok (.goto 22, 3) := by decide +kernel
theorem dX12_tellRule_35 : decode cX12_tellRule 35 = .ok (.aload_n 0, 1) := by decide +kernel
theorem dX12_tellRule_36 : decode cX12_tellRule 36 = .ok (.getfield 40, 3) := by decide +kernel
theorem dX12_tellRule_39 : decode cX12_tellRule 39 = .ok (.aload_n 0, 1) := by decide +kernel
theorem dX12_tellRule_40 : decode cX12_tellRule 40 = .ok (.getfield 275, 3) := by decide +kernel
theorem dX12_tellRule_43 : decode cX12_tellRule 43 = .ok (.iaload, 1) := by decide +kernel
theorem dX12_tellRule_44 : decode cX12_tellRule 44 = .ok (.bipush 16, 2) := by decide +kernel
theorem dX12_tellRule_46 : decode cX12_tellRule 46 = .ok (.if_icmp .ne 8, 3) := by decide +kernel
theorem dX12_tellRule_49 : decode cX12_tellRule 49 = .ok (.aload_n 0, 1) := by decide +kernel
theorem dX12_tellRule_50 : decode cX12_tellRule 50 = .ok (.iconst 2, 1) := by decide +kernel
theorem dX12_tellRule_51 : decode cX12_tellRule 51 = .ok (.invokevirtual 257, 3) := by decide +kernel
theorem dX12_tellRule_54 : decode cX12_tellRule 54 = .ok (.aload_n 0, 1) := by decide +kernel
theorem dX12_tellRule_55 : decode cX12_tellRule 55 = .ok (.getfield 242, 3) := by decide +kernel
theorem dX12_tellRule_58 : decode cX12_tellRule 58 = .ok (.ifCond .le 4, 3) := by decide +kernel
theorem dX12_tellRule_61 : decode cX12_tellRule 61 = .ok (.return_, 1) := by decide +kernel
theorem dX12_tellRule_62 : decode cX12_tellRule 62 = .ok (.bipush 16, 2) := by decide +kernel
theorem dX12_tellRule_64 : decode cX12_tellRule 64 = .ok (.aload_n 0, 1) := by decide +kernel
theorem dX12_tellRule_65 : decode cX12_tellRule 65 = .ok (.getfield 275, 3) := by decide +kernel
theorem dX12_tellRule_68 : decode cX12_tellRule 68 = .ok (.imul, 1) := by decide +kernel
theorem dX12_tellRule_69 : decode cX12_tellRule 69 = .ok (.aload_n 0, 1) := by decide +kernel
theorem dX12_tellRule_70 : decode cX12_tellRule 70 = .ok (.getfield 40, 3) := by decide +kernel
theorem dX12_tellRule_73 : decode cX12_tellRule 73 = .ok (.aload_n 0, 1) := by decide +kernel
theorem dX12_tellRule_74 : decode cX12_tellRule 74 = .ok (.getfield 275, 3) := by decide +kernel
theorem dX12_tellRule_77 : decode cX12_tellRule 77 = .ok (.iaload, 1) := by decide +kernel
theorem dX12_tellRule_78 : decode cX12_tellRule 78 = .ok (.iadd, 1) := by decide +kernel
theorem dX12_tellRule_79 : decode cX12_tellRule 79 = .ok (.istore_n 1, 1) := by decide +kernel
theorem dX12_tellRule_80 : decode cX12_tellRule 80 = .ok (.aload_n 0, 1) := by decide +kernel
theorem dX12_tellRule_81 : decode cX12_tellRule 81 = .ok (.getfield 43, 3) := by decide +kernel
theorem dX12_tellRule_84 : decode cX12_tellRule 84 = .ok (.iload_n 1, 1) := by decide +kernel
theorem dX12_tellRule_85 : decode cX12_tellRule 85 = .ok (.aload_n 0, 1) := by decide +kernel
theorem dX12_tellRule_86 : decode cX12_tellRule 86 = .ok (.bipush 20, 2) := by decide +kernel
theorem dX12_tellRule_88 : decode cX12_tellRule 88 = .ok (.invokevirtual 260, 3) := by decide +kernel
theorem dX12_tellRule_91 : decode cX12_tellRule 91 = .ok (.ifCond .eq 7, 3) := by decide +kernel
theorem dX12_tellRule_94 : decode cX12_tellRule 94 = .ok (.iconst 0, 1) := by decide +kernel
theorem dX12_tellRule_95 : decode cX12_tellRule 95 = .ok (.goto 17, 3) := by decide +kernel
theorem dX12_tellRule_98 : decode cX12_tellRule 98 = .ok (.aload_n 0, 1) := by decide +kernel
theorem dX12_tellRule_99 : decode cX12_tellRule 99 = .ok (.bipush 22, 2) := by decide +kernel
theorem dX12_tellRule_101 : decode cX12_tellRule 101 = .ok (.invokevirtual 260, 3) := by decide +kernel
theorem dX12_tellRule_104 : decode cX12_tellRule 104 = .ok (.ifCond .eq 7, 3) := by decide +kernel
theorem dX12_tellRule_107 : decode cX12_tellRule 107 = .ok (.iconst 1, 1) := by decide +kernel
theorem dX12_tellRule_108 : decode cX12_tellRule 108 = .ok (.goto 4, 3) := by decide +kernel
theorem dX12_tellRule_111 : decode cX12_tellRule 111 = .ok (.iconst 2, 1) := by decide +kernel
theorem dX12_tellRule_112 : decode cX12_tellRule 112 = .ok (.iastore, 1) := by decide +kernel
theorem dX12_tellRule_113 : decode cX12_tellRule 113 = .ok (.aload_n 0, 1) := by decide +kernel
theorem dX12_tellRule_114 : decode cX12_tellRule 114 = .ok (.invokevirtual 263, 3) := by decide +kernel
theorem dX12_tellRule_117 : decode cX12_tellRule 117 = .ok (.aload_n 0, 1) := by decide +kernel
theorem dX12_tellRule_118 : decode cX12_tellRule 118 = .ok (.getfield 46, 3) := by decide +kernel
theorem dX12_tellRule_121 : decode cX12_tellRule 121 = .ok (.iload_n 1, 1) := by decide +kernel
theorem dX12_tellRule_122 : decode cX12_tellRule 122 = .ok (.aload_n 0, 1) := by decide +kernel
theorem dX12_tellRule_123 : decode cX12_tellRule 123 = .ok (.getfield 278, 3) := by decide +kernel
theorem dX12_tellRule_126 : decode cX12_tellRule 126 = .ok (.iastore, 1) := by decide +kernel
theorem dX12_tellRule_127 : decode cX12_tellRule 127 = .ok (.aload_n 0, 1) := by decide +kernel
theorem dX12_tellRule_128 : decode cX12_tellRule 128 = .ok (.getfield 43, 3) := by decide +kernel
theorem dX12_tellRule_131 : decode cX12_tellRule 131 = .ok (.iload_n 1, 1) := by decide +kernel
theorem dX12_tellRule_132 : decode cX12_tellRule 132 = .ok (.iaload, 1) := by decide +kernel
theorem dX12_tellRule_133 : decode cX12_tellRule 133 = .ok (.ifCond .le 7, 3) := by decide +kernel
theorem dX12_tellRule_136 : decode cX12_tellRule 136 = .ok (.aload_n 0, 1) := by decide +kernel
theorem dX12_tellRule_137 : decode cX12_tellRule 137 = .ok (.invokevirtual 284, 3) := by decide +kernel
theorem dX12_tellRule_140 : decode cX12_tellRule 140 = .ok (.aload_n 0, 1) := by decide +kernel
theorem dX12_tellRule_141 : decode cX12_tellRule 141 = .ok (.getfield 49, 3) := by decide +kernel
theorem dX12_tellRule_144 : decode cX12_tellRule 144 = .ok (.iload_n 1, 1) := by decide +kernel
theorem dX12_tellRule_145 : decode cX12_tellRule 145 = .ok (.aload_n 0, 1) := by decide +kernel
theorem dX12_tellRule_146 : decode cX12_tellRule 146 = .ok (.getfield 278, 3) := by decide +kernel
theorem dX12_tellRule_149 : decode cX12_tellRule 149 = .ok (.iastore, 1) := by decide +kernel
theorem dX12_tellRule_150 : decode cX12_tellRule 150 = .ok (.aload_n 0, 1) := by decide +kernel
theorem dX12_tellRule_151 : decode cX12_tellRule 151 = .ok (.getfield 52, 3) := by decide +kernel
theorem dX12_tellRule_154 : decode cX12_tellRule 154 = .ok (.iload_n 1, 1) := by decide +kernel
theorem dX12_tellRule_155 : decode cX12_tellRule 155 = .ok (.aload_n 0, 1) := by decide +kernel
theorem dX12_tellRule_156 : decode cX12_tellRule 156 = .ok (.getfield 58, 3) := by decide +kernel
theorem dX12_tellRule_159 : decode cX12_tellRule 159 = .ok (.aload_n 0, 1) := by decide +kernel
theorem dX12_tellRule_160 : decode cX12_tellRule 160 = .ok (.getfield 275, 3) := by decide +kernel
theorem dX12_tellRule_163 : decode cX12_tellRule 163 = .ok (.iaload, 1) := by decide +kernel
theorem dX12_tellRule_164 : decode cX12_tellRule 164 = .ok (.iastore, 1) := by decide +kernel
theorem dX12_tellRule_165 : decode cX12_tellRule 165 = .ok (.aload_n 0, 1) := by decide +kernel
theorem dX12_tellRule_166 : decode cX12_tellRule 166 = .ok (.getfield 43, 3) := by decide +kernel
theorem dX12_tellRule_169 : decode cX12_tellRule 169 = .ok (.iload_n 1, 1) := by decide +kernel
theorem dX12_tellRule_170 : decode cX12_tellRule 170 = .ok (.iaload, 1) := by decide +kernel
theorem dX12_tellRule_171 : decode cX12_tellRule 171 = .ok (.ifCond .eq 12, 3) := by decide +kernel
theorem dX12_tellRule_174 : decode cX12_tellRule 174 = .ok (.aload_n 0, 1) := by decide +kernel
theorem dX12_tellRule_175 : decode cX12_tellRule 175 = .ok (.bipush 21, 2) := by decide +kernel
theorem dX12_tellRule_177 : decode cX12_tellRule 177 = .ok (.invokevirtual 260, 3) := by decide +kernel
theorem dX12_tellRule_180 : decode cX12_tellRule 180 = .ok (.ifCond .eq 7, 3) := by decide +kernel
theorem dX12_tellRule_183 : decode cX12_tellRule 183 = .ok (.iconst 1, 1) := by decide +kernel
theorem dX12_tellRule_184 : decode cX12_tellRule 184 = .ok (.goto 4, 3) := by decide +kernel
theorem dX12_tellRule_187 : decode cX12_tellRule 187 = .ok (.iconst 0, 1) := by decide +kernel
theorem dX12_tellRule_188 : decode cX12_tellRule 188 = .ok (.istore_n 2, 1) := by decide +kernel
theorem dX12_tellRule_189 : decode cX12_tellRule 189 = .ok (.iload_n 2, 1) := by decide +kernel
theorem dX12_tellRule_190 : decode cX12_tellRule 190 = .ok (.ifCond .eq 9, 3) := by decide +kernel
theorem dX12_tellRule_193 : decode cX12_tellRule 193 = .ok (.aload_n 0, 1) := by decide +kernel
theorem dX12_tellRule_194 : decode cX12_tellRule 194 = .ok (.bipush 21, 2) := by decide +kernel
theorem dX12_tellRule_196 : decode cX12_tellRule 196 = .ok (.invokevirtual 287, 3) := by decide +kernel
theorem dX12_tellRule_199 : decode cX12_tellRule 199 = .ok (.iconst 1, 1) := by decide +kernel
theorem dX12_tellRule_200 : decode cX12_tellRule 200 = .ok (.istore_n 3, 1) := by decide +kernel
theorem dX12_tellRule_201 : decode cX12_tellRule 201 = .ok (.iload_n 2, 1) := by decide +kernel
theorem dX12_tellRule_202 : decode cX12_tellRule 202 = .ok (.ifCond .eq 52, 3) := by decide +kernel
theorem dX12_tellRule_205 : decode cX12_tellRule 205 = .ok (.aload_n 0, 1) := by decide +kernel
theorem dX12_tellRule_206 : decode cX12_tellRule 206 = .ok (.getfield 242, 3) := by decide +kernel
theorem dX12_tellRule_209 : decode cX12_tellRule 209 = .ok (.ifCond .ne 45, 3) := by decide +kernel
theorem dX12_tellRule_212 : decode cX12_tellRule 212 = .ok (.aload_n 0, 1) := by decide +kernel
theorem dX12_tellRule_213 : decode cX12_tellRule 213 = .ok (.iload_n 3, 1) := by decide +kernel
theorem dX12_tellRule_214 : decode cX12_tellRule 214 = .ok (.invokevirtual 290, 3) := by decide +kernel
theorem dX12_tellRule_217 : decode cX12_tellRule 217 = .ok (.aload_n 0, 1) := by decide +kernel
theorem dX12_tellRule_218 : decode cX12_tellRule 218 = .ok (.bipush 24, 2) := by decide +kernel
theorem dX12_tellRule_220 : decode cX12_tellRule 220 = .ok (.invokevirtual 260, 3) := by decide +kernel
theorem dX12_tellRule_223 : decode cX12_tellRule 223 = .ok (.istore_n 3, 1) := by decide +kernel
theorem dX12_tellRule_224 : decode cX12_tellRule 224 = .ok (.iload_n 3, 1) := by decide +kernel
theorem dX12_tellRule_225 : decode cX12_tellRule 225 = .ok (.ifCond .ne 12, 3) := by decide +kernel
theorem dX12_tellRule_228 : decode cX12_tellRule 228 = .ok (.aload_n 0, 1) := by decide +kernel
theorem dX12_tellRule_229 : decode cX12_tellRule 229 = .ok (.bipush 25, 2) := by decide +kernel
theorem dX12_tellRule_231 : decode cX12_tellRule 231 = .ok (.invokevirtual 260, 3) := by decide +kernel
theorem dX12_tellRule_234 : decode cX12_tellRule 234 = .ok (.ifCond .eq 7, 3) := by decide +kernel
theorem dX12_tellRule_237 : decode cX12_tellRule 237 = .ok (.iconst 1, 1) := by decide +kernel
theorem dX12_tellRule_238 : decode cX12_tellRule 238 = .ok (.goto 4, 3) := by decide +kernel
theorem dX12_tellRule_241 : decode cX12_tellRule 241 = .ok (.iconst 0, 1) := by decide +kernel
theorem dX12_tellRule_242 : decode cX12_tellRule 242 = .ok (.istore_n 2, 1) := by decide +kernel
theorem dX12_tellRule_243 : decode cX12_tellRule 243 = .ok (.iload_n 2, 1) := by decide +kernel
theorem dX12_tellRule_244 : decode cX12_tellRule 244 = .ok (.ifCond .eq (-43), 3) := by decide +kernel
theorem dX12_tellRule_247 : decode cX12_tellRule 247 = .ok (.aload_n 0, 1) := by decide +kernel
theorem dX12_tellRule_248 : decode cX12_tellRule 248 = .ok (.invokevirtual 263, 3) := by decide +kernel
theorem dX12_tellRule_251 : decode cX12_tellRule 251 = .ok (.goto (-50), 3) := by decide +kernel
theorem dX12_tellRule_254 : decode cX12_tellRule 254 = .ok (.aload_n 0, 1) := by decide +kernel
theorem dX12_tellRule_255 : decode cX12_tellRule 255 = .ok (.iconst 4, 1) := by decide +kernel
theorem dX12_tellRule_256 : decode cX12_tellRule 256 = .ok (.invokevirtual 287, 3) := by decide +kernel
theorem dX12_tellRule_259 : decode cX12_tellRule 259 = .ok (.aload_n 0, 1) := by decide +kernel
theorem dX12_tellRule_260 : decode cX12_tellRule 260 = .ok (.getfield 242, 3) := by decide +kernel
theorem dX12_tellRule_263 : decode cX12_tellRule 263 = .ok (.ifCond .le 4, 3) := by decide +kernel
theorem dX12_tellRule_266 : decode cX12_tellRule 266 = .ok (.return_, 1) := by decide +kernel
theorem dX12_tellRule_267 : decode cX12_tellRule 267 = .ok (.aload_n 0, 1) := by decide +kernel
theorem dX12_tellRule_268 : decode cX12_tellRule 268 = .ok (.getfield 55, 3) := by decide +kernel
theorem dX12_tellRule_271 : decode cX12_tellRule 271 = .ok (.iload_n 1, 1) := by decide +kernel
theorem dX12_tellRule_272 : decode cX12_tellRule 272 = .ok (.aload_n 0, 1) := by decide +kernel
theorem dX12_tellRule_273 : decode cX12_tellRule 273 = .ok (.getfield 58, 3) := by decide +kernel
theorem dX12_tellRule_276 : decode cX12_tellRule 276 = .ok (.aload_n 0, 1) := by decide +kernel
theorem dX12_tellRule_277 : decode cX12_tellRule 277 = .ok (.getfield 275, 3) := by decide +kernel
theorem dX12_tellRule_280 : decode cX12_tellRule 280 = .ok (.iaload, 1) := by decide +kernel
theorem dX12_tellRule_281 : decode cX12_tellRule 281 = .ok (.iastore, 1) := by decide +kernel
theorem dX12_tellRule_282 : decode cX12_tellRule 282 = .ok (.aload_n 0, 1) := by decide +kernel
theorem dX12_tellRule_283 : decode cX12_tellRule 283 = .ok (.getfield 40, 3) := by decide +kernel
theorem dX12_tellRule_286 : decode cX12_tellRule 286 = .ok (.aload_n 0, 1) := by decide +kernel
theorem dX12_tellRule_287 : decode cX12_tellRule 287 = .ok (.getfield 275, 3) := by decide +kernel
theorem dX12_tellRule_290 : decode cX12_tellRule 290 = .ok (.dup2, 1) := by decide +kernel
theorem dX12_tellRule_291 : decode cX12_tellRule 291 = .ok (.iaload, 1) := by decide +kernel
theorem dX12_tellRule_292 : decode cX12_tellRule 292 = .ok (.iconst 1, 1) := by decide +kernel
theorem dX12_tellRule_293 : decode cX12_tellRule 293 = .ok (.iadd, 1) := by decide +kernel
theorem dX12_tellRule_294 : decode cX12_tellRule 294 = .ok (.iastore, 1) := by decide +kernel
theorem dX12_tellRule_295 : decode cX12_tellRule 295 = .ok (.return_, 1) := by decide +kernel
set_option maxRecDepth 20000 in
theorem ggX12_relation_X12_expression : GoodIn wsX12_relation wsX12_expression := goodIn_r _ [16, 17, 18, 2, 19, 3, 4, 20, 21, 22, 23, 15, 24, 25, 26, 27, 28, 29, 30, 31, 32, 33, 34, 35, 36, 37, 38, 39, 1, 40, 41, 42, 43, 44, 45, 46, 47, 48, 49, 50, 51, 52, 53, 54, 55, 56, 57, 58, 59, 60, 61, 62, 63, 64, 65, 66, 67, 68, 69, 70, 71, 72, 73, 74, 75, 76, 77, 78, 79, 80, 81, 82, 83, 84, 85, 86, 87, 88, 89, 90, 91, 92, 93, 94, 95, 96, 97, 98, 99, 100, 101, 102, 103, 104, 105, 106, 107, 108, 109, 110, 111, 112, 113, 114, 115, 116, 117, 118, 119, 120, 121, 122, 123, 124, 125, 126, 127, 128, 129] (by decide +kernel) (by decide +kernel)
set_option maxRecDepth 20000 in
theorem gX12_relation_X12_expression : GoodIn wsX12_relation (wsV RX12 284 RX12 yX12_expression wsX12_expression) := goodIn_app (goodIn_of _ (by decide +kernel)) ggX12_relation_X12_expression
set_option maxRecDepth 20000 in
theorem ggX12_relation_X12_fail : GoodIn wsX12_relation wsX12_fail := goodIn_r _ [28, 2, 29, 4, 30, 45, 46, 47, 48, 49, 50, 51, 52, 53, 54, 55, 56, 57, 58, 59, 60, 61, 62, 63, 64, 65, 66, 67, 68, 69, 70, 71, 72, 73, 74, 75, 76, 77, 78, 79, 80, 81, 82, 83, 84, 85, 86, 87, 88, 89, 90, 91, 92, 93, 94, 95, 96, 97, 98, 99, 100, 101, 102, 103, 104, 105, 106, 107, 108, 109, 110, 111, 112, 113, 114, 115, 116, 117, 118, 119, 120, 121, 122, 123, 124, 125, 126, 127, 128, 129] (by decide +kernel) (by decide +kernel)
set_option maxRecDepth 20000 in
theorem gX12_relation_X12_fail : GoodIn wsX12_relation (wsV RX12 257 RX12 yX12_fail wsX12_fail) := goodIn_app (goodIn_of _ (by decide +kernel)) ggX12_relation_X12_fail
set_option maxRecDepth 20000 in
theorem ggX12_relation_X12_next : GoodIn wsX12_relation wsX12_next := goodIn_r _ [34, 4, 25, 26, 27, 15, 28, 2, 29, 30, 45, 46, 47, 48, 49, 50, 51, 52, 53, 54, 55, 56, 57, 58, 59, 60, 61, 62, 63, 64, 65, 66, 67, 68, 69, 70, 71, 72, 73, 74, 75, 76, 77, 78, 79, 80, 81, 82, 83, 84, 85, 86, 87, 88, 89, 90, 91, 92, 93, 94, 95, 96, 97, 98, 99, 100, 101, 102, 103, 104, 105, 106, 107, 108, 109, 110, 111, 112, 113, 114, 115, 116, 117, 118, 119, 120, 121, 122, 123, 124, 125, 126, 127, 128, 129] (by decide +kernel) (by decide +kernel)
set_option maxRecDepth 20000 in
theorem gX12_relation_X12_next : GoodIn wsX12_relation (wsV RX12 263 RX12 yX12_next wsX12_next) := goodIn_app (goodIn_of _ (by decide +kernel)) ggX12_relation_X12_next
theorem dX12_relation_0 : decode cX12_relation 0 = .ok (.aload_n 0, 1) := by decide +kernel
theorem dX12_relation_1 : decode cX12_relation 1 = .ok (.getfield 278, 3) := by decide +kernel
theorem dX12_relation_4 : decode cX12_relation 4 = .ok (.istore_n 2, 1) := by decide +kernel
theorem dX12_relation_5 : decode cX12_relation 5 = .ok (.aload_n 0, 1) := by decide +kernel
theorem dX12_relation_6 : decode cX12_relation 6 = .ok (.invokevirtual 284, 3) := by decide +kernel
theorem dX12_relation_9 : decode cX12_relation 9 = .ok (.aload_n 0, 1) := by decide +kernel
theorem dX12_relation_10 : decode cX12_relation 10 = .ok (.getfield 242, 3) := by decide +kernel
theorem dX12_relation_13 : decode cX12_relation 13 = .ok (.ifCond .le 7, 3) := by decide +kernel
theorem dX12_relation_16 : decode cX12_relation 16 = .ok (.iconst 0, 1) := by decide +kernel
theorem dX12_relation_17 : decode cX12_relation 17 = .ok (.goto 15, 3) := by decide +kernel
theorem dX12_relation_20 : decode cX12_relation 20 = .ok (.aload_n 0, 1) := by decide +kernel
theorem dX12_relation_21 : decode cX12_relation 21 = .ok (.getfield 20, 3) := by decide +kernel
theorem dX12_relation_24 : decode cX12_relation 24 = .ok (.aload_n 0, 1) := by decide +kernel
theorem dX12_relation_25 : decode cX12_relation 25 = .ok (.getfield 245, 3) := by decide +kernel
theorem dX12_relation_28 : decode cX12_relation 28 = .ok (.iaload, 1) := by decide +kernel
theorem dX12_relation_29 : decode cX12_relation 29 = .ok (.bipush 11, 2) := by decide +kernel
theorem dX12_relation_31 : decode cX12_relation 31 = .ok (.isub, 1) := by decide +kernel
theorem dX12_relation_32 : decode cX12_relation 32 = .ok (.istore_n 3, 1) := by decide +kernel
theorem dX12_relation_33 : decode cX12_relation 33 = .ok (.aload_n 0, 1) := by decide +kernel
theorem dX12_relation_34 : decode cX12_relation 34 = .ok (.getfield 242, 3) := by decide +kernel
theorem dX12_relation_37 : decode cX12_relation 37 = .ok (.ifCond .ne 17, 3) := by decide +kernel
theorem dX12_relation_40 : decode cX12_relation 40 = .ok (.iload_n 3, 1) := by decide +kernel
theorem dX12_relation_41 : decode cX12_relation 41 = .ok (.ifCond .lt 8, 3) := by decide +kernel
theorem dX12_relation_44 : decode cX12_relation 44 = .ok (.iload_n 3, 1) := by decide +kernel
theorem dX12_relation_45 : decode cX12_relation 45 = .ok (.iconst 3, 1) := by decide +kernel
theorem dX12_relation_46 : decode cX12_relation 46 = .ok (.if_icmp .le 8, 3) := by decide +kernel
theorem dX12_relation_49 : decode cX12_relation 49 = .ok (.aload_n 0, 1) := by decide +kernel
theorem dX12_relation_50 : decode cX12_relation 50 = .ok (.iconst 1, 1) := by decide +kernel
theorem dX12_relation_51 : decode cX12_relation 51 = .ok (.invokevirtual 257, 3) := by decide +kernel
theorem dX12_relation_54 : decode cX12_relation 54 = .ok (.aload_n 0, 1) := by decide +kernel
theorem dX12_relation_55 : decode cX12_relation 55 = .ok (.invokevirtual 263, 3) := by decide +kernel
theorem dX12_relation_58 : decode cX12_relation 58 = .ok (.aload_n 0, 1) := by decide +kernel
theorem dX12_relation_59 : decode cX12_relation 59 = .ok (.getfield 278, 3) := by decide +kernel
theorem dX12_relation_62 : decode cX12_relation 62 = .ok (.istore 4, 2) := by decide +kernel
theorem dX12_relation_64 : decode cX12_relation 64 = .ok (.aload_n 0, 1) := by decide +kernel
theorem dX12_relation_65 : decode cX12_relation 65 = .ok (.invokevirtual 284, 3) := by decide +kernel
theorem dX12_relation_68 : decode cX12_relation 68 = .ok (.aload_n 0, 1) := by decide +kernel
theorem dX12_relation_69 : decode cX12_relation 69 = .ok (.getfield 242, 3) := by decide +kernel
theorem dX12_relation_72 : decode cX12_relation 72 = .ok (.ifCond .le 4, 3) := by decide +kernel
theorem dX12_relation_75 : decode cX12_relation 75 = .ok (.return_, 1) := by decide +kernel
theorem dX12_relation_76 : decode cX12_relation 76 = .ok (.sipush 200, 3) := by decide +kernel
theorem dX12_relation_79 : decode cX12_relation 79 = .ok (.aload_n 0, 1) := by decide +kernel
theorem dX12_relation_80 : decode cX12_relation 80 = .ok (.getfield 275, 3) := by decide +kernel
theorem dX12_relation_83 : decode cX12_relation 83 = .ok (.imul, 1) := by decide +kernel
theorem dX12_relation_84 : decode cX12_relation 84 = .ok (.aload_n 0, 1) := by decide +kernel
theorem dX12_relation_85 : decode cX12_relation 85 = .ok (.getfield 58, 3) := by decide +kernel
theorem dX12_relation_88 : decode cX12_relation 88 = .ok (.aload_n 0, 1) := by decide +kernel
theorem dX12_relation_89 : decode cX12_relation 89 = .ok (.getfield 275, 3) := by decide +kernel
theorem dX12_relation_92 : decode cX12_relation 92 = .ok (.iaload, 1) := by decide +kernel
theorem dX12_relation_93 : decode cX12_relation 93 = .ok (.iadd, 1) := by decide +kernel
theorem dX12_relation_94 : decode cX12_relation 94 = .ok (.istore 5, 2) := by decide +kernel
theorem dX12_relation_96 : decode cX12_relation 96 = .ok (.aload_n 0, 1) := by decide +kernel
theorem dX12_relation_97 : decode cX12_relation 97 = .ok (.getfield 61, 3) := by decide +kernel
theorem dX12_relation_100 : decode cX12_relation 100 = .ok (.iload 5, 2) := by decide +kernel
theorem dX12_relation_102 : decode cX12_relation 102 = .ok (.iload_n 3, 1) := by decide +kernel
theorem dX12_relation_103 : decode cX12_relation 103 = .ok (.iastore, 1) := by decide +kernel
theorem dX12_relation_104 : decode cX12_relation 104 = .ok (.aload_n 0, 1) := by decide +kernel
theorem dX12_relation_105 : decode cX12_relation 105 = .ok (.getfield 64, 3) := by decide +kernel
theorem dX12_relation_108 : decode cX12_relation 108 = .ok (.iload 5, 2) := by decide +kernel
theorem dX12_relation_110 : decode cX12_relation 110 = .ok (.iload_n 2, 1) := by decide +kernel
theorem dX12_relation_111 : decode cX12_relation 111 = .ok (.iastore, 1) := by decide +kernel
theorem dX12_relation_112 : decode cX12_relation 112 = .ok (.aload_n 0, 1) := by decide +kernel
theorem dX12_relation_113 : decode cX12_relation 113 = .ok (.getfield 67, 3) := by decide +kernel
theorem dX12_relation_116 : decode cX12_relation 116 = .ok (.iload 5, 2) := by decide +kernel
theorem dX12_relation_118 : decode cX12_relation 118 = .ok (.iload 4, 2) := by decide +kernel
theorem dX12_relation_120 : decode cX12_relation 120 = .ok (.iastore, 1) := by decide +kernel
theorem dX12_relation_121 : decode cX12_relation 121 = .ok (.aload_n 0, 1) := by decide +kernel
theorem dX12_relation_122 : decode cX12_relation 122 = .ok (.getfield 70, 3) := by decide +kernel
theorem dX12_relation_125 : decode cX12_relation 125 = .ok (.iload 5, 2) := by decide +kernel
theorem dX12_relation_127 : decode cX12_relation 127 = .ok (.aload_n 0, 1) := by decide +kernel
theorem dX12_relation_128 : decode cX12_relation 128 = .ok (.getfield 278, 3) := by decide +kernel
theorem dX12_relation_131 : decode cX12_relation 131 = .ok (.iastore, 1) := by decide +kernel
theorem dX12_relation_132 : decode cX12_relation 132 = .ok (.aload_n 0, 1) := by decide +kernel
theorem dX12_relation_133 : decode cX12_relation 133 = .ok (.getfield 73, 3) := by decide +kernel
theorem dX12_relation_136 : decode cX12_relation 136 = .ok (.iload 5, 2) := by decide +kernel
theorem dX12_relation_138 : decode cX12_relation 138 = .ok (.iload_n 1, 1) := by decide +kernel
theorem dX12_relation_139 : decode cX12_relation 139 = .ok (.bastore, 1) := by decide +kernel
theorem dX12_relation_140 : decode cX12_relation 140 = .ok (.aload_n 0, 1) := by decide +kernel
theorem dX12_relation_141 : decode cX12_relation 141 = .ok (.getfield 58, 3) := by decide +kernel
theorem dX12_relation_144 : decode cX12_relation 144 = .ok (.aload_n 0, 1) := by decide +kernel
theorem dX12_relation_145 : decode cX12_relation 145 = .ok (.getfield 275, 3) := by decide +kernel
theorem dX12_relation_148 : decode cX12_relation 148 = .ok (.dup2, 1) := by decide +kernel
theorem dX12_relation_149 : decode cX12_relation 149 = .ok (.iaload, 1) := by decide +kernel
theorem dX12_relation_150 : decode cX12_relation 150 = .ok (.iconst 1, 1) := by decide +kernel
theorem dX12_relation_151 : decode cX12_relation 151 = .ok (.iadd, 1) := by decide +kernel
theorem dX12_relation_152 : decode cX12_relation 152 = .ok (.iastore, 1) := by decide +kernel
theorem dX12_relation_153 : decode cX12_relation 153 = .ok (.return_, 1) := by decide +kernel
theorem dX12_emit_0 : decode cX12_emit 0 = .ok (.aload_n 0, 1) := by decide +kernel
theorem dX12_emit_1 : decode cX12_emit 1 = .ok (.getfield 77, 3) := by decide +kernel
theorem dX12_emit_4 : decode cX12_emit 4 = .ok (.aload_n 0, 1) := by decide +kernel
theorem dX12_emit_5 : decode cX12_emit 5 = .ok (.getfield 278, 3) := by decide +kernel
theorem dX12_emit_8 : decode cX12_emit 8 = .ok (.iload_n 1, 1) := by decide +kernel
theorem dX12_emit_9 : decode cX12_emit 9 = .ok (.iastore, 1) := by decide +kernel
theorem dX12_emit_10 : decode cX12_emit 10 = .ok (.aload_n 0, 1) := by decide +kernel
theorem dX12_emit_11 : decode cX12_emit 11 = .ok (.getfield 80, 3) := by decide +kernel
theorem dX12_emit_14 : decode cX12_emit 14 = .ok (.aload_n 0, 1) := by decide +kernel
theorem dX12_emit_15 : decode cX12_emit 15 = .ok (.getfield 278, 3) := by decide +kernel
theorem dX12_emit_18 : decode cX12_emit 18 = .ok (.iload_n 2, 1) := by decide +kernel
theorem dX12_emit_19 : decode cX12_emit 19 = .ok (.iastore, 1) := by decide +kernel
theorem dX12_emit_20 : decode cX12_emit 20 = .ok (.aload_n 0, 1) := by decide +kernel
theorem dX12_emit_21 : decode cX12_emit 21 = .ok (.dup, 1) := by decide +kernel
theorem dX12_emit_22 : decode cX12_emit 22 = .ok (.getfield 278, 3) := by decide +kernel
theorem dX12_emit_25 : decode cX12_emit 25 = .ok (.iconst 1, 1) := by decide +kernel
theorem dX12_emit_26 : decode cX12_emit 26 = .ok (.iadd, 1) := by decide +kernel
theorem dX12_emit_27 : decode cX12_emit 27 = .ok (.putfield 278, 3) := by decide +kernel
theorem dX12_emit_30 : decode cX12_emit 30 = .ok (.return_, 1) := by decide +kernel
set_option maxRecDepth 20000 in
theorem ggX12_comesOut_X12_emit : GoodIn wsX12_comesOut wsX12_emit := goodIn_r _ [7, 8, 9, 10, 11, 12, 13, 14, 15, 16, 17, 18, 19, 20, 21, 22, 23, 24, 25, 26, 27, 28, 29, 30, 31, 32, 33, 34, 35, 36, 37, 38, 39, 40, 41, 42, 43, 44, 45, 46, 47, 48, 49, 50, 51, 52, 53, 54, 55, 56, 57, 58, 59, 60, 61, 62, 63, 64, 65, 66, 67, 68, 69, 70, 71, 72, 73, 74, 75, 76, 77, 78, 79, 80, 81, 82, 83, 84, 85, 86, 87, 88, 89, 90, 91, 92, 93, 94, 95] (by decide +kernel) (by decide +kernel)
set_option maxRecDepth 20000 in
theorem gX12_comesOut_X12_emit : GoodIn wsX12_comesOut (wsV RX12 297 RX12 yX12_emit wsX12_emit) := goodIn_app (goodIn_of _ (by decide +kernel)) ggX12_comesOut_X12_emit
theorem dX12_comesOut_0 : decode cX12_comesOut 0 = .ok (.aload_n 0, 1) := by decide +kernel
theorem dX12_comesOut_1 : decode cX12_comesOut 1 = .ok (.getfield 294, 3) := by decide +kernel
theorem dX12_comesOut_4 : decode cX12_comesOut 4 = .ok (.ifCond .le 88, 3) := by decide +kernel
theorem dX12_comesOut_7 : decode cX12_comesOut 7 = .ok (.aload_n 0, 1) := by decide +kernel
theorem dX12_comesOut_8 : decode cX12_comesOut 8 = .ok (.getfield 83, 3) := by decide +kernel
theorem dX12_comesOut_11 : decode cX12_comesOut 11 = .ok (.aload_n 0, 1) := by decide +kernel
theorem dX12_comesOut_12 : decode cX12_comesOut 12 = .ok (.getfield 294, 3) := by decide +kernel
theorem dX12_comesOut_15 : decode cX12_comesOut 15 = .ok (.iconst 1, 1) := by decide +kernel
theorem dX12_comesOut_16 : decode cX12_comesOut 16 = .ok (.isub, 1) := by decide +kernel
theorem dX12_comesOut_17 : decode cX12_comesOut 17 = .ok (.iaload, 1) := by decide +kernel
theorem dX12_comesOut_18 : decode cX12_comesOut 18 = .ok (.bipush 6, 2) := by decide +kernel
theorem dX12_comesOut_20 : decode cX12_comesOut 20 = .ok (.if_icmp .eq 72, 3) := by decide +kernel
theorem dX12_comesOut_23 : decode cX12_comesOut 23 = .ok (.iload_n 1, 1) := by decide +kernel
theorem dX12_comesOut_24 : decode cX12_comesOut 24 = .ok (.ifCond .eq 19, 3) := by decide +kernel
theorem dX12_comesOut_27 : decode cX12_comesOut 27 = .ok (.aload_n 0, 1) := by decide +kernel
theorem dX12_comesOut_28 : decode cX12_comesOut 28 = .ok (.getfield 83, 3) := by decide +kernel
theorem dX12_comesOut_31 : decode cX12_comesOut 31 = .ok (.aload_n 0, 1) := by decide +kernel
theorem dX12_comesOut_32 : decode cX12_comesOut 32 = .ok (.getfield 294, 3) := by decide +kernel
theorem dX12_comesOut_35 : decode cX12_comesOut 35 = .ok (.iconst 1, 1) := by decide +kernel
theorem dX12_comesOut_36 : decode cX12_comesOut 36 = .ok (.isub, 1) := by decide +kernel
theorem dX12_comesOut_37 : decode cX12_comesOut 37 = .ok (.iaload, 1) := by decide +kernel
theorem dX12_comesOut_38 : decode cX12_comesOut 38 = .ok (.bipush 10, 2) := by decide +kernel
theorem dX12_comesOut_40 : decode cX12_comesOut 40 = .ok (.if_icmp .ne 52, 3) := by decide +kernel
theorem dX12_comesOut_43 : decode cX12_comesOut 43 = .ok (.aload_n 0, 1) := by decide +kernel
theorem dX12_comesOut_44 : decode cX12_comesOut 44 = .ok (.dup, 1) := by decide +kernel
theorem dX12_comesOut_45 : decode cX12_comesOut 45 = .ok (.getfield 294, 3) := by decide +kernel
theorem dX12_comesOut_48 : decode cX12_comesOut 48 = .ok (.iconst 1, 1) := by decide +kernel
theorem dX12_comesOut_49 : decode cX12_comesOut 49 = .ok (.isub, 1) := by decide +kernel
theorem dX12_comesOut_50 : decode cX12_comesOut 50 = .ok (.putfield 294, 3) := by decide +kernel
theorem dX12_comesOut_53 : decode cX12_comesOut 53 = .ok (.aload_n 0, 1) := by decide +kernel
theorem dX12_comesOut_54 : decode cX12_comesOut 54 = .ok (.getfield 83, 3) := by decide +kernel
theorem dX12_comesOut_57 : decode cX12_comesOut 57 = .ok (.aload_n 0, 1) := by decide +kernel
theorem dX12_comesOut_58 : decode cX12_comesOut 58 = .ok (.getfield 294, 3) := by decide +kernel
theorem dX12_comesOut_61 : decode cX12_comesOut 61 = .ok (.iaload, 1) := by decide +kernel
theorem dX12_comesOut_62 : decode cX12_comesOut 62 = .ok (.istore_n 2, 1) := by decide +kernel
theorem dX12_comesOut_63 : decode cX12_comesOut 63 = .ok (.aload_n 0, 1) := by decide +kernel
theorem dX12_comesOut_64 : decode cX12_comesOut 64 = .ok (.iload_n 2, 1) := by decide +kernel
theorem dX12_comesOut_65 : decode cX12_comesOut 65 = .ok (.bipush 8, 2) := by decide +kernel
theorem dX12_comesOut_67 : decode cX12_comesOut 67 = .ok (.if_icmp .ne 7, 3) := by decide +kernel
theorem dX12_comesOut_70 : decode cX12_comesOut 70 = .ok (.iconst 2, 1) := by decide +kernel
theorem dX12_comesOut_71 : decode cX12_comesOut 71 = .ok (.goto 14, 3) := by decide +kernel
theorem dX12_comesOut_74 : decode cX12_comesOut 74 = .ok (.iload_n 2, 1) := by decide +kernel
theorem dX12_comesOut_75 : decode cX12_comesOut 75 = .ok (.bipush 9, 2) := by decide +kernel
theorem dX12_comesOut_77 : decode cX12_comesOut 77 = .ok (.if_icmp .ne 7, 3) := by decide +kernel
theorem dX12_comesOut_80 : decode cX12_comesOut 80 = .ok (.iconst 3, 1) := by decide +kernel
theorem dX12_comesOut_81 : decode cX12_comesOut 81 = .ok (.goto 4, 3) := by decide +kernel
theorem dX12_comesOut_84 : decode cX12_comesOut 84 = .ok (.iconst 4, 1) := by decide +kernel
theorem dX12_comesOut_85 : decode cX12_comesOut 85 = .ok (.iconst 0, 1) := by decide +kernel
theorem dX12_comesOut_86 : decode cX12_comesOut 86 = .ok (.invokevirtual 297, 3) := by decide +kernel
theorem dX12_comesOut_89 : decode cX12_comesOut 89 = .ok (.goto (-89), 3) := by decide +kernel
theorem dX12_comesOut_92 : decode cX12_comesOut 92 = .ok (.return_, 1) := by decide +kernel
set_option maxRecDepth 20000 in
theorem ggX12_expression_X12_is : GoodIn wsX12_expression wsX12_is := goodIn_r _ [12, 3, 5, 6, 34, 35, 36, 37, 38, 39, 40, 41, 42, 43, 44, 45, 46, 47, 48, 49, 50, 51, 52, 53, 54, 55, 56, 57, 58, 59, 60, 61, 62, 63, 64, 65, 66, 67, 68, 69, 70, 71, 72, 73, 74, 75, 76, 77, 78, 79, 80, 81, 82, 83, 84, 85, 86, 87, 88, 89, 90, 91, 92, 93, 94, 95, 96, 97, 98, 99, 100, 101, 102, 103, 104, 105, 106, 107, 108, 109, 110, 111, 112, 113, 114, 115, 116, 117, 118] (by decide +kernel) (by decide +kernel)
set_option maxRecDepth 20000 in
theorem gX12_expression_X12_is : GoodIn wsX12_expression (wsV RX12 260 RX12 yX12_is wsX12_is) := goodIn_app (goodIn_of _ (by decide +kernel)) ggX12_expression_X12_is
set_option maxRecDepth 20000 in
theorem ggX12_expression_X12_fail : GoodIn wsX12_expression wsX12_fail := goodIn_r _ [16, 3, 17, 6, 18, 34, 35, 36, 37, 38, 39, 40, 41, 42, 43, 44, 45, 46, 47, 48, 49, 50, 51, 52, 53, 54, 55, 56, 57, 58, 59, 60, 61, 62, 63, 64, 65, 66, 67, 68, 69, 70, 71, 72, 73, 74, 75, 76, 77, 78, 79, 80, 81, 82, 83, 84, 85, 86, 87, 88, 89, 90, 91, 92, 93, 94, 95, 96, 97, 98, 99, 100, 101, 102, 103, 104, 105, 106, 107, 108, 109, 110, 111, 112, 113, 114, 115, 116, 117, 118] (by decide +kernel) (by decide +kernel)
set_option maxRecDepth 20000 in
theorem gX12_expression_X12_fail : GoodIn wsX12_expression (wsV RX12 257 RX12 yX12_fail wsX12_fail) := goodIn_app (goodIn_of _ (by decide +kernel)) ggX12_expression_X12_fail
set_option maxRecDepth 20000 in
theorem ggX12_expression_X12_next : GoodIn wsX12_expression wsX12_next := goodIn_r _ [22, 6, 13, 14, 15, 11, 16, 3, 17, 18, 34, 35, 36, 37, 38, 39, 40, 41, 42, 43, 44, 45, 46, 47, 48, 49, 50, 51, 52, 53, 54, 55, 56, 57, 58, 59, 60, 61, 62, 63, 64, 65, 66, 67, 68, 69, 70, 71, 72, 73, 74, 75, 76, 77, 78, 79, 80, 81, 82, 83, 84, 85, 86, 87, 88, 89, 90, 91, 92, 93, 94, 95, 96, 97, 98, 99, 100, 101, 102, 103, 104, 105, 106, 107, 108, 109, 110, 111, 112, 113, 114, 115, 116, 117, 118] (by decide +kernel) (by decide +kernel)
set_option maxRecDepth 20000 in
theorem gX12_expression_X12_next : GoodIn wsX12_expression (wsV RX12 263 RX12 yX12_next wsX12_next) := goodIn_app (goodIn_of _ (by decide +kernel)) ggX12_expression_X12_next
set_option maxRecDepth 20000 in
theorem ggX12_expression_X12_emit : GoodIn wsX12_expression wsX12_emit := goodIn_r _ [26, 27, 28, 29, 34, 35, 36, 37, 38, 39, 40, 41, 42, 43, 44, 45, 46, 47, 48, 49, 50, 51, 52, 53, 54, 55, 56, 57, 58, 59, 60, 61, 62, 63, 64, 65, 66, 67, 68, 69, 70, 71, 72, 73, 74, 75, 76, 77, 78, 79, 80, 81, 82, 83, 84, 85, 86, 87, 88, 89, 90, 91, 92, 93, 94, 95, 96, 97, 98, 99, 100, 101, 102, 103, 104, 105, 106, 107, 108, 109, 110, 111, 112, 113, 114, 115, 116, 117, 118] (by decide +kernel) (by decide +kernel)
set_option maxRecDepth 20000 in
theorem gX12_expression_X12_emit : GoodIn wsX12_expression (wsV RX12 297 RX12 yX12_emit wsX12_emit) := goodIn_app (goodIn_of _ (by decide +kernel)) ggX12_expression_X12_emit
set_option maxRecDepth 20000 in
theorem ggX12_expression_X12_comesOut : GoodIn wsX12_expression wsX12_comesOut := goodIn_r _ [33, 1, 4, 23, 24, 25, 11, 26, 27, 28, 29, 34, 35, 36, 37, 38, 39, 40, 41, 42, 43, 44, 45, 46, 47, 48, 49, 50, 51, 52, 53, 54, 55, 56, 57, 58, 59, 60, 61, 62, 63, 64, 65, 66, 67, 68, 69, 70, 71, 72, 73, 74, 75, 76, 77, 78, 79, 80, 81, 82, 83, 84, 85, 86, 87, 88, 89, 90, 91, 92, 93, 94, 95, 96, 97, 98, 99, 100, 101, 102, 103, 104, 105, 106, 107, 108, 109, 110, 111, 112, 113, 114, 115, 116, 117, 118] (by decide +kernel) (by decide +kernel)
set_option maxRecDepth 20000 in
theorem gX12_expression_X12_comesOut : GoodIn wsX12_expression (wsV RX12 301 RX12 yX12_comesOut wsX12_comesOut) := goodIn_app (goodIn_of _ (by decide +kernel)) ggX12_expression_X12_comesOut
theorem dX12_expression_0 : decode cX12_expression 0 = .ok (.aload_n 0, 1) := by decide +kernel
theorem dX12_expression_1 : decode cX12_expression 1 = .ok (.iconst 0, 1) := by decide +kernel
theorem dX12_expression_2 : decode cX12_expression 2 = .ok (.putfield 294, 3) := by decide +kernel
theorem dX12_expression_5 : decode cX12_expression 5 = .ok (.aload_n 0, 1) := by decide +kernel
theorem dX12_expression_6 : decode cX12_expression 6 = .ok (.getfield 269, 3) := by decide +kernel
theorem dX12_expression_9 : decode cX12_expression 9 = .ok (.istore_n 1, 1) := by decide +kernel
theorem dX12_expression_10 : decode cX12_expression 10 = .ok (.iconst 1, 1) := by decide +kernel
theorem dX12_expression_11 : decode cX12_expression 11 = .ok (.istore_n 2, 1) := by decide +kernel
theorem dX12_expression_12 : decode cX12_expression 12 = .ok (.iload_n 2, 1) := by decide +kernel
theorem dX12_expression_13 : decode cX12_expression 13 = .ok (.ifCond .eq 347, 3) := by decide +kernel
theorem dX12_expression_16 : decode cX12_expression 16 = .ok (.aload_n 0, 1) := by decide +kernel
theorem dX12_expression_17 : decode cX12_expression 17 = .ok (.getfield 242, 3) := by decide +kernel
theorem dX12_expression_20 : decode cX12_expression 20 = .ok (.ifCond .ne 340, 3) := by decide +kernel
theorem dX12_expression_23 : decode cX12_expression 23 = .ok (.aload_n 0, 1) := by decide +kernel
theorem dX12_expression_24 : decode cX12_expression 24 = .ok (.bipush 6, 2) := by decide +kernel
theorem dX12_expression_26 : decode cX12_expression 26 = .ok (.invokevirtual 260, 3) := by decide +kernel
theorem dX12_expression_29 : decode cX12_expression 29 = .ok (.ifCond .eq 63, 3) := by decide +kernel
theorem dX12_expression_32 : decode cX12_expression 32 = .ok (.aload_n 0, 1) := by decide +kernel
theorem dX12_expression_33 : decode cX12_expression 33 = .ok (.getfield 269, 3) := by decide +kernel
theorem dX12_expression_36 : decode cX12_expression 36 = .ok (.bipush 6, 2) := by decide +kernel
theorem dX12_expression_38 : decode cX12_expression 38 = .ok (.if_icmp .ne 8, 3) := by decide +kernel
theorem dX12_expression_41 : decode cX12_expression 41 = .ok (.aload_n 0, 1) := by decide +kernel
theorem dX12_expression_42 : decode cX12_expression 42 = .ok (.iconst 2, 1) := by decide +kernel
theorem dX12_expression_43 : decode cX12_expression 43 = .ok (.invokevirtual 257, 3) := by decide +kernel
theorem dX12_expression_46 : decode cX12_expression 46 = .ok (.aload_n 0, 1) := by decide +kernel
theorem dX12_expression_47 : decode cX12_expression 47 = .ok (.getfield 242, 3) := by decide +kernel
theorem dX12_expression_50 : decode cX12_expression 50 = .ok (.ifCond .le 4, 3) := by decide +kernel
theorem dX12_expression_53 : decode cX12_expression 53 = .ok (.return_, 1) := by decide +kernel
theorem dX12_expression_54 : decode cX12_expression 54 = .ok (.aload_n 0, 1) := by decide +kernel
theorem dX12_expression_55 : decode cX12_expression 55 = .ok (.dup, 1) := by decide +kernel
theorem dX12_expression_56 : decode cX12_expression 56 = .ok (.getfield 269, 3) := by decide +kernel
theorem dX12_expression_59 : decode cX12_expression 59 = .ok (.iconst 1, 1) := by decide +kernel
theorem dX12_expression_60 : decode cX12_expression 60 = .ok (.iadd, 1) := by decide +kernel
theorem dX12_expression_61 : decode cX12_expression 61 = .ok (.putfield 269, 3) := by decide +kernel
theorem dX12_expression_64 : decode cX12_expression 64 = .ok (.aload_n 0, 1) := by decide +kernel
theorem dX12_expression_65 : decode cX12_expression 65 = .ok (.invokevirtual 263, 3) := by decide +kernel
theorem dX12_expression_68 : decode cX12_expression 68 = .ok (.aload_n 0, 1) := by decide +kernel
theorem dX12_expression_69 : decode cX12_expression 69 = .ok (.getfield 83, 3) := by decide +kernel
theorem dX12_expression_72 : decode cX12_expression 72 = .ok (.aload_n 0, 1) := by decide +kernel
theorem dX12_expression_73 : decode cX12_expression 73 = .ok (.getfield 294, 3) := by decide +kernel
theorem dX12_expression_76 : decode cX12_expression 76 = .ok (.bipush 6, 2) := by decide +kernel
theorem dX12_expression_78 : decode cX12_expression 78 = .ok (.iastore, 1) := by decide +kernel
theorem dX12_expression_79 : decode cX12_expression 79 = .ok (.aload_n 0, 1) := by decide +kernel
theorem dX12_expression_80 : decode cX12_expression 80 = .ok (.dup, 1) := by decide +kernel
theorem dX12_expression_81 : decode cX12_expression 81 = .ok (.getfield 294, 3) := by decide +kernel
theorem dX12_expression_84 : decode cX12_expression 84 = .ok (.iconst 1, 1) := by decide +kernel
theorem dX12_expression_85 : decode cX12_expression 85 = .ok (.iadd, 1) := by decide +kernel
theorem dX12_expression_86 : decode cX12_expression 86 = .ok (.putfield 294, 3) := by decide +kernel
theorem dX12_expression_89 : decode cX12_expression 89 = .ok (.goto (-77), 3) := by decide +kernel
theorem dX12_expression_92 : decode cX12_expression 92 = .ok (.aload_n 0, 1) := by decide +kernel
theorem dX12_expression_93 : decode cX12_expression 93 = .ok (.getfield 242, 3) := by decide +kernel
theorem dX12_expression_96 : decode cX12_expression 96 = .ok (.ifCond .ne 35, 3) := by decide +kernel
theorem dX12_expression_99 : decode cX12_expression 99 = .ok (.aload_n 0, 1) := by decide +kernel
theorem dX12_expression_100 : decode cX12_expression 100 = .ok (.getfield 20, 3) := by decide +kernel
theorem dX12_expression_103 : decode cX12_expression 103 = .ok (.aload_n 0, 1) := by decide +kernel
theorem dX12_expression_104 : decode cX12_expression 104 = .ok (.getfield 245, 3) := by decide +kernel
theorem dX12_expression_107 : decode cX12_expression 107 = .ok (.iaload, 1) := by decide +kernel
theorem dX12_expression_108 : decode cX12_expression 108 = .ok (.bipush 26, 2) := by decide +kernel
theorem dX12_expression_110 : decode cX12_expression 110 = .ok (.if_icmp .lt 21, 3) := by decide +kernel
theorem dX12_expression_113 : decode cX12_expression 113 = .ok (.aload_n 0, 1) := by decide +kernel
theorem dX12_expression_114 : decode cX12_expression 114 = .ok (.getfield 20, 3) := by decide +kernel
theorem dX12_expression_117 : decode cX12_expression 117 = .ok (.aload_n 0, 1) := by decide +kernel
theorem dX12_expression_118 : decode cX12_expression 118 = .ok (.getfield 245, 3) := by decide +kernel
theorem dX12_expression_121 : decode cX12_expression 121 = .ok (.iaload, 1) := by decide +kernel
theorem dX12_expression_122 : decode cX12_expression 122 = .ok (.bipush 34, 2) := by decide +kernel
theorem dX12_expression_124 : decode cX12_expression 124 = .ok (.if_icmp .gt 7, 3) := by decide +kernel
theorem dX12_expression_127 : decode cX12_expression 127 = .ok (.iconst 1, 1) := by decide +kernel
theorem dX12_expression_128 : decode cX12_expression 128 = .ok (.goto 4, 3) := by decide +kernel
theorem dX12_expression_131 : decode cX12_expression 131 = .ok (.iconst 0, 1) := by decide +kernel
theorem dX12_expression_132 : decode cX12_expression 132 = .ok (.istore_n 3, 1) := by decide +kernel
theorem dX12_expression_133 : decode cX12_expression 133 = .ok (.aload_n 0, 1) := by decide +kernel
theorem dX12_expression_134 : decode cX12_expression 134 = .ok (.iconst 2, 1) := by decide +kernel
theorem dX12_expression_135 : decode cX12_expression 135 = .ok (.invokevirtual 260, 3) := by decide +kernel
theorem dX12_expression_138 : decode cX12_expression 138 = .ok (.ifCond .ne 12, 3) := by decide +kernel
theorem dX12_expression_141 : decode cX12_expression 141 = .ok (.iload_n 3, 1) := by decide +kernel
theorem dX12_expression_142 : decode cX12_expression 142 = .ok (.ifCond .ne 8, 3) := by decide +kernel
theorem dX12_expression_145 : decode cX12_expression 145 = .ok (.aload_n 0, 1) := by decide +kernel
theorem dX12_expression_146 : decode cX12_expression 146 = .ok (.iconst 1, 1) := by decide +kernel
theorem dX12_expression_147 : decode cX12_expression 147 = .ok (.invokevirtual 257, 3) := by decide +kernel
theorem dX12_expression_150 : decode cX12_expression 150 = .ok (.aload_n 0, 1) := by decide +kernel
theorem dX12_expression_151 : decode cX12_expression 151 = .ok (.getfield 242, 3) := by decide +kernel
theorem dX12_expression_154 : decode cX12_expression 154 = .ok (.ifCond .le 4, 3) := by decide +kernel
theorem dX12_expression_157 : decode cX12_expression 157 = .ok (.return_, 1) := by decide +kernel
theorem dX12_expression_158 : decode cX12_expression 158 = .ok (.iload_n 3, 1) := by decide +kernel
theorem dX12_expression_159 : decode cX12_expression 159 = .ok (.ifCond .eq 23, 3) := by decide +kernel
theorem dX12_expression_162 : decode cX12_expression 162 = .ok (.aload_n 0, 1) := by decide +kernel
theorem dX12_expression_163 : decode cX12_expression 163 = .ok (.iconst 1, 1) := by decide +kernel
theorem dX12_expression_164 : decode cX12_expression 164 = .ok (.aload_n 0, 1) := by decide +kernel
theorem dX12_expression_165 : decode cX12_expression 165 = .ok (.getfield 20, 3) := by decide +kernel
theorem dX12_expression_168 : decode cX12_expression 168 = .ok (.aload_n 0, 1) := by decide +kernel
theorem dX12_expression_169 : decode cX12_expression 169 = .ok (.getfield 245, 3) := by decide +kernel
theorem dX12_expression_172 : decode cX12_expression 172 = .ok (.iaload, 1) := by decide +kernel
theorem dX12_expression_173 : decode cX12_expression 173 = .ok (.bipush 26, 2) := by decide +kernel
theorem dX12_expression_175 : decode cX12_expression 175 = .ok (.isub, 1) := by decide +kernel
theorem dX12_expression_176 : decode cX12_expression 176 = .ok (.invokevirtual 297, 3) := by decide +kernel
theorem dX12_expression_179 : decode cX12_expression 179 = .ok (.goto 17, 3) := by decide +kernel
theorem dX12_expression_182 : decode cX12_expression 182 = .ok (.aload_n 0, 1) := by decide +kernel
theorem dX12_expression_183 : decode cX12_expression 183 = .ok (.iconst 0, 1) := by decide +kernel
theorem dX12_expression_184 : decode cX12_expression 184 = .ok (.aload_n 0, 1) := by decide +kernel
theorem dX12_expression_185 : decode cX12_expression 185 = .ok (.getfield 27, 3) := by decide +kernel
theorem dX12_expression_188 : decode cX12_expression 188 = .ok (.aload_n 0, 1) := by decide +kernel
theorem dX12_expression_189 : decode cX12_expression 189 = .ok (.getfield 245, 3) := by decide +kernel
theorem dX12_expression_192 : decode cX12_expression 192 = .ok (.iaload, 1) := by decide +kernel
theorem dX12_expression_193 : decode cX12_expression 193 = .ok (.invokevirtual 297, 3) := by decide +kernel
theorem dX12_expression_196 : decode cX12_expression 196 = .ok (.aload_n 0, 1) := by decide +kernel
theorem dX12_expression_197 : decode cX12_expression 197 = .ok (.invokevirtual 263, 3) := by decide +kernel
theorem dX12_expression_200 : decode cX12_expression 200 = .ok (.aload_n 0, 1) := by decide +kernel
theorem dX12_expression_201 : decode cX12_expression 201 = .ok (.bipush 7, 2) := by decide +kernel
theorem dX12_expression_203 : decode cX12_expression 203 = .ok (.invokevirtual 260, 3) := by decide +kernel
theorem dX12_expression_206 : decode cX12_expression 206 = .ok (.ifCond .eq 43, 3) := by decide +kernel
theorem dX12_expression_209 : decode cX12_expression 209 = .ok (.aload_n 0, 1) := by decide +kernel
theorem dX12_expression_210 : decode cX12_expression 210 = .ok (.getfield 269, 3) := by decide +kernel
theorem dX12_expression_213 : decode cX12_expression 213 = .ok (.iload_n 1, 1) := by decide +kernel
theorem dX12_expression_214 : decode cX12_expression 214 = .ok (.if_icmp .le 35, 3) := by decide +kernel
theorem dX12_expression_217 : decode cX12_expression 217 = .ok (.aload_n 0, 1) := by decide +kernel
theorem dX12_expression_218 : decode cX12_expression 218 = .ok (.iconst 0, 1) := by decide +kernel
theorem dX12_expression_219 : decode cX12_expression 219 = .ok (.invokevirtual 301, 3) := by decide +kernel
theorem dX12_expression_222 : decode cX12_expression 222 = .ok (.aload_n 0, 1) := by decide +kernel
theorem dX12_expression_223 : decode cX12_expression 223 = .ok (.dup, 1) := by decide +kernel
theorem dX12_expression_224 : decode cX12_expression 224 = .ok (.getfield 294, 3) := by decide +kernel
theorem dX12_expression_227 : decode cX12_expression 227 = .ok (.iconst 1, 1) := by decide +kernel
theorem dX12_expression_228 : decode cX12_expression 228 = .ok (.isub, 1) := by decide +kernel
theorem dX12_expression_229 : decode cX12_expression 229 = .ok (.putfield 294, 3) := by decide +kernel
theorem dX12_expression_232 : decode cX12_expression 232 = .ok (.aload_n 0, 1) := by decide +kernel
theorem dX12_expression_233 : decode cX12_expression 233 = .ok (.dup, 1) := by decide +kernel
theorem dX12_expression_234 : decode cX12_expression 234 = .ok (.getfield 269, 3) := by decide +kernel
theorem dX12_expression_237 : decode cX12_expression 237 = .ok (.iconst 1, 1) := by decide +kernel
theorem dX12_expression_238 : decode cX12_expression 238 = .ok (.isub, 1) := by decide +kernel
theorem dX12_expression_239 : decode cX12_expression 239 = .ok (.putfield 269, 3) := by decide +kernel
theorem dX12_expression_242 : decode cX12_expression 242 = .ok (.aload_n 0, 1) := by decide +kernel
theorem dX12_expression_243 : decode cX12_expression 243 = .ok (.invokevirtual 263, 3) := by decide +kernel
theorem dX12_expression_246 : decode cX12_expression 246 = .ok (.goto (-46), 3) := by decide +kernel
theorem dX12_expression_249 : decode cX12_expression 249 = .ok (.aload_n 0, 1) := by decide +kernel
theorem dX12_expression_250 : decode cX12_expression 250 = .ok (.bipush 8, 2) := by decide +kernel
theorem dX12_expression_252 : decode cX12_expression 252 = .ok (.invokevirtual 260, 3) := by decide +kernel
theorem dX12_expression_255 : decode cX12_expression 255 = .ok (.ifCond .ne 21, 3) := by decide +kernel
theorem dX12_expression_258 : decode cX12_expression 258 = .ok (.aload_n 0, 1) := by decide +kernel
theorem dX12_expression_259 : decode cX12_expression 259 = .ok (.bipush 9, 2) := by decide +kernel
theorem dX12_expression_261 : decode cX12_expression 261 = .ok (.invokevirtual 260, 3) := by decide +kernel
theorem dX12_expression_264 : decode cX12_expression 264 = .ok (.ifCond .ne 12, 3) := by decide +kernel
theorem dX12_expression_267 : decode cX12_expression 267 = .ok (.aload_n 0, 1) := by decide +kernel
theorem dX12_expression_268 : decode cX12_expression 268 = .ok (.bipush 10, 2) := by decide +kernel
theorem dX12_expression_270 : decode cX12_expression 270 = .ok (.invokevirtual 260, 3) := by decide +kernel
theorem dX12_expression_273 : decode cX12_expression 273 = .ok (.ifCond .eq 7, 3) := by decide +kernel
theorem dX12_expression_276 : decode cX12_expression 276 = .ok (.iconst 1, 1) := by decide +kernel
theorem dX12_expression_277 : decode cX12_expression 277 = .ok (.goto 4, 3) := by decide +kernel
theorem dX12_expression_280 : decode cX12_expression 280 = .ok (.iconst 0, 1) := by decide +kernel
theorem dX12_expression_281 : decode cX12_expression 281 = .ok (.istore_n 2, 1) := by decide +kernel
theorem dX12_expression_282 : decode cX12_expression 282 = .ok (.iload_n 2, 1) := by decide +kernel
theorem dX12_expression_283 : decode cX12_expression 283 = .ok (.ifCond .ne 22, 3) := by decide +kernel
theorem dX12_expression_286 : decode cX12_expression 286 = .ok (.aload_n 0, 1) := by decide +kernel
theorem dX12_expression_287 : decode cX12_expression 287 = .ok (.getfield 269, 3) := by decide +kernel
theorem dX12_expression_290 : decode cX12_expression 290 = .ok (.iload_n 1, 1) := by decide +kernel
theorem dX12_expression_291 : decode cX12_expression 291 = .ok (.if_icmp .le 8, 3) := by decide +kernel
theorem dX12_expression_294 : decode cX12_expression 294 = .ok (.aload_n 0, 1) := by decide +kernel
theorem dX12_expression_295 : decode cX12_expression 295 = .ok (.iconst 1, 1) := by decide +kernel
theorem dX12_expression_296 : decode cX12_expression 296 = .ok (.invokevirtual 257, 3) := by decide +kernel
theorem dX12_expression_299 : decode cX12_expression 299 = .ok (.aload_n 0, 1) := by decide +kernel
theorem dX12_expression_300 : decode cX12_expression 300 = .ok (.iconst 0, 1) := by decide +kernel
theorem dX12_expression_301 : decode cX12_expression 301 = .ok (.invokevirtual 301, 3) := by decide +kernel
theorem dX12_expression_304 : decode cX12_expression 304 = .ok (.return_, 1) := by decide +kernel
theorem dX12_expression_305 : decode cX12_expression 305 = .ok (.aload_n 0, 1) := by decide +kernel
theorem dX12_expression_306 : decode cX12_expression 306 = .ok (.getfield 20, 3) := by decide +kernel
theorem dX12_expression_309 : decode cX12_expression 309 = .ok (.aload_n 0, 1) := by decide +kernel
theorem dX12_expression_310 : decode cX12_expression 310 = .ok (.getfield 245, 3) := by decide +kernel
theorem dX12_expression_313 : decode cX12_expression 313 = .ok (.iaload, 1) := by decide +kernel
theorem dX12_expression_314 : decode cX12_expression 314 = .ok (.istore 4, 2) := by decide +kernel
theorem dX12_expression_316 : decode cX12_expression 316 = .ok (.aload_n 0, 1) := by decide +kernel
theorem dX12_expression_317 : decode cX12_expression 317 = .ok (.iload 4, 2) := by decide +kernel
theorem dX12_expression_319 : decode cX12_expression 319 = .ok (.bipush 10, 2) := by decide +kernel
theorem dX12_expression_321 : decode cX12_expression 321 = .ok (.if_icmp .ne 7, 3) := by decide +kernel
theorem dX12_expression_324 : decode cX12_expression 324 = .ok (.iconst 1, 1) := by decide +kernel
theorem dX12_expression_325 : decode cX12_expression 325 = .ok (.goto 4, 3) := by decide +kernel
theorem dX12_expression_328 : decode cX12_expression 328 = .ok (.iconst 0, 1) := by decide +kernel
theorem dX12_expression_329 : decode cX12_expression 329 = .ok (.invokevirtual 301, 3) := by decide +kernel
theorem dX12_expression_332 : decode cX12_expression 332 = .ok (.aload_n 0, 1) := by decide +kernel
theorem dX12_expression_333 : decode cX12_expression 333 = .ok (.getfield 83, 3) := by decide +kernel
theorem dX12_expression_336 : decode cX12_expression 336 = .ok (.aload_n 0, 1) := by decide +kernel
theorem dX12_expression_337 : decode cX12_expression 337 = .ok (.getfield 294, 3) := by decide +kernel
theorem dX12_expression_340 : decode cX12_expression 340 = .ok (.iload 4, 2) := by decide +kernel
theorem dX12_expression_342 : decode cX12_expression 342 = .ok (.iastore, 1) := by decide +kernel
theorem dX12_expression_343 : decode cX12_expression 343 = .ok (.aload_n 0, 1) := by decide +kernel
theorem dX12_expression_344 : decode cX12_expression 344 = .ok (.dup, 1) := by decide +kernel
theorem dX12_expression_345 : decode cX12_expression 345 = .ok (.getfield 294, 3) := by decide +kernel
theorem dX12_expression_348 : decode cX12_expression 348 = .ok (.iconst 1, 1) := by decide +kernel
theorem dX12_expression_349 : decode cX12_expression 349 = .ok (.iadd, 1) := by decide +kernel
theorem dX12_expression_350 : decode cX12_expression 350 = .ok (.putfield 294, 3) := by decide +kernel
theorem dX12_expression_353 : decode cX12_expression 353 = .ok (.aload_n 0, 1) := by decide +kernel
theorem dX12_expression_354 : decode cX12_expression 354 = .ok (.invokevirtual 263, 3) := by decide +kernel
theorem dX12_expression_357 : decode cX12_expression 357 = .ok (.goto (-345), 3) := by decide +kernel
theorem dX12_expression_360 : decode cX12_expression 360 = .ok (.return_, 1) := by decide +kernel
theorem dX12_isAct_0 : decode cX12_isAct 0 = .ok (.iload_n 1, 1) := by decide +kernel
theorem dX12_isAct_1 : decode cX12_isAct 1 = .ok (.ifCond .lt 15, 3) := by decide +kernel
theorem dX12_isAct_4 : decode cX12_isAct 4 = .ok (.iload_n 1, 1) := by decide +kernel
theorem dX12_isAct_5 : decode cX12_isAct 5 = .ok (.aload_n 0, 1) := by decide +kernel
theorem dX12_isAct_6 : decode cX12_isAct 6 = .ok (.getfield 304, 3) := by decide +kernel
theorem dX12_isAct_9 : decode cX12_isAct 9 = .ok (.if_icmp .ge 7, 3) := by decide +kernel
theorem dX12_isAct_12 : decode cX12_isAct 12 = .ok (.iconst 1, 1) := by decide +kernel
theorem dX12_isAct_13 : decode cX12_isAct 13 = .ok (.goto 4, 3) := by decide +kernel
theorem dX12_isAct_16 : decode cX12_isAct 16 = .ok (.iconst 0, 1) := by decide +kernel
theorem dX12_isAct_17 : decode cX12_isAct 17 = .ok (.ireturn, 1) := by decide +kernel
theorem dX12_isMinute_0 : decode cX12_isMinute 0 = .ok (.iload_n 0, 1) := by decide +kernel
theorem dX12_isMinute_1 : decode cX12_isMinute 1 = .ok (.ifCond .lt 14, 3) := by decide +kernel
theorem dX12_isMinute_4 : decode cX12_isMinute 4 = .ok (.iload_n 0, 1) := by decide +kernel
theorem dX12_isMinute_5 : decode cX12_isMinute 5 = .ok (.sipush 240, 3) := by decide +kernel
theorem dX12_isMinute_8 : decode cX12_isMinute 8 = .ok (.if_icmp .ge 7, 3) := by decide +kernel
theorem dX12_isMinute_11 : decode cX12_isMinute 11 = .ok (.iconst 1, 1) := by decide +kernel
theorem dX12_isMinute_12 : decode cX12_isMinute 12 = .ok (.goto 4, 3) := by decide +kernel
theorem dX12_isMinute_15 : decode cX12_isMinute 15 = .ok (.iconst 0, 1) := by decide +kernel
theorem dX12_isMinute_16 : decode cX12_isMinute 16 = .ok (.ireturn, 1) := by decide +kernel
theorem dX12_isKnown_0 : decode cX12_isKnown 0 = .ok (.iload_n 1, 1) := by decide +kernel
theorem dX12_isKnown_1 : decode cX12_isKnown 1 = .ok (.ifCond .lt 15, 3) := by decide +kernel
theorem dX12_isKnown_4 : decode cX12_isKnown 4 = .ok (.iload_n 1, 1) := by decide +kernel
theorem dX12_isKnown_5 : decode cX12_isKnown 5 = .ok (.aload_n 0, 1) := by decide +kernel
theorem dX12_isKnown_6 : decode cX12_isKnown 6 = .ok (.getfield 307, 3) := by decide +kernel
theorem dX12_isKnown_9 : decode cX12_isKnown 9 = .ok (.if_icmp .gt 7, 3) := by decide +kernel
theorem dX12_isKnown_12 : decode cX12_isKnown 12 = .ok (.iconst 1, 1) := by decide +kernel
theorem dX12_isKnown_13 : decode cX12_isKnown 13 = .ok (.goto 4, 3) := by decide +kernel
theorem dX12_isKnown_16 : decode cX12_isKnown 16 = .ok (.iconst 0, 1) := by decide +kernel
theorem dX12_isKnown_17 : decode cX12_isKnown 17 = .ok (.ireturn, 1) := by decide +kernel
theorem dX12_act_0 : decode cX12_act 0 = .ok (.aload_n 0, 1) := by decide +kernel
theorem dX12_act_1 : decode cX12_act 1 = .ok (.getfield 304, 3) := by decide +kernel
theorem dX12_act_4 : decode cX12_act 4 = .ok (.bipush 6, 2) := by decide +kernel
theorem dX12_act_6 : decode cX12_act 6 = .ok (.if_icmp .eq 71, 3) := by decide +kernel
theorem dX12_act_9 : decode cX12_act 9 = .ok (.iload_n 1, 1) := by decide +kernel
theorem dX12_act_10 : decode cX12_act 10 = .ok (.ifCond .lt 67, 3) := by decide +kernel
theorem dX12_act_13 : decode cX12_act 13 = .ok (.iload_n 1, 1) := by decide +kernel
theorem dX12_act_14 : decode cX12_act 14 = .ok (.iconst 3, 1) := by decide +kernel
theorem dX12_act_15 : decode cX12_act 15 = .ok (.if_icmp .gt 62, 3) := by decide +kernel
theorem dX12_act_18 : decode cX12_act 18 = .ok (.iload_n 2, 1) := by decide +kernel
theorem dX12_act_19 : decode cX12_act 19 = .ok (.ifCond .lt 58, 3) := by decide +kernel
theorem dX12_act_22 : decode cX12_act 22 = .ok (.iload_n 2, 1) := by decide +kernel
theorem dX12_act_23 : decode cX12_act 23 = .ok (.bipush 7, 2) := by decide +kernel
theorem dX12_act_25 : decode cX12_act 25 = .ok (.if_icmp .gt 52, 3) := by decide +kernel
theorem dX12_act_28 : decode cX12_act 28 = .ok (.iload_n 3, 1) := by decide +kernel
theorem dX12_act_29 : decode cX12_act 29 = .ok (.ifCond .lt 48, 3) := by decide +kernel
theorem dX12_act_32 : decode cX12_act 32 = .ok (.iload_n 3, 1) := by decide +kernel
theorem dX12_act_33 : decode cX12_act 33 = .ok (.bipush 100, 2) := by decide +kernel
theorem dX12_act_35 : decode cX12_act 35 = .ok (.if_icmp .gt 42, 3) := by decide +kernel
theorem dX12_act_38 : decode cX12_act 38 = .ok (.iload 4, 2) := by decide +kernel
theorem dX12_act_40 : decode cX12_act 40 = .ok (.iconst 1, 1) := by decide +kernel
theorem dX12_act_41 : decode cX12_act 41 = .ok (.if_icmp .lt 36, 3) := by decide +kernel
theorem dX12_act_44 : decode cX12_act 44 = .ok (.iload 4, 2) := by decide +kernel
theorem dX12_act_46 : decode cX12_act 46 = .ok (.bipush 20, 2) := by decide +kernel
theorem dX12_act_48 : decode cX12_act 48 = .ok (.if_icmp .gt 29, 3) := by decide +kernel
theorem dX12_act_51 : decode cX12_act 51 = .ok (.iload 5, 2) := by decide +kernel
theorem dX12_act_53 : decode cX12_act 53 = .ok (.iconst 1, 1) := by decide +kernel
theorem dX12_act_54 : decode cX12_act 54 = .ok (.if_icmp .lt 23, 3) := by decide +kernel
theorem dX12_act_57 : decode cX12_act 57 = .ok (.iload 5, 2) := by decide +kernel
theorem dX12_act_59 : decode cX12_act 59 = .ok (.bipush 20, 2) := by decide +kernel
theorem dX12_act_61 : decode cX12_act 61 = .ok (.if_icmp .gt 16, 3) := by decide +kernel
theorem dX12_act_64 : decode cX12_act 64 = .ok (.iload 6, 2) := by decide +kernel
theorem dX12_act_66 : decode cX12_act 66 = .ok (.iconst 1, 1) := by decide +kernel
theorem dX12_act_67 : decode cX12_act 67 = .ok (.if_icmp .lt 10, 3) := by decide +kernel
theorem dX12_act_70 : decode cX12_act 70 = .ok (.iload 6, 2) := by decide +kernel
theorem dX12_act_72 : decode cX12_act 72 = .ok (.bipush 120, 2) := by decide +kernel
theorem dX12_act_74 : decode cX12_act 74 = .ok (.if_icmp .le 5, 3) := by decide +kernel
theorem dX12_act_77 : decode cX12_act 77 = .ok (.iconst (-1), 1) := by decide +kernel
theorem dX12_act_78 : decode cX12_act 78 = .ok (.ireturn, 1) := by decide +kernel
theorem dX12_act_79 : decode cX12_act 79 = .ok (.aload_n 0, 1) := by decide +kernel
theorem dX12_act_80 : decode cX12_act 80 = .ok (.getfield 86, 3) := by decide +kernel
theorem dX12_act_83 : decode cX12_act 83 = .ok (.aload_n 0, 1) := by decide +kernel
theorem dX12_act_84 : decode cX12_act 84 = .ok (.getfield 304, 3) := by decide +kernel
theorem dX12_act_87 : decode cX12_act 87 = .ok (.iload_n 1, 1) := by decide +kernel
theorem dX12_act_88 : decode cX12_act 88 = .ok (.iastore, 1) := by decide +kernel
theorem dX12_act_89 : decode cX12_act 89 = .ok (.aload_n 0, 1) := by decide +kernel
theorem dX12_act_90 : decode cX12_act 90 = .ok (.getfield 89, 3) := by decide +kernel
theorem dX12_act_93 : decode cX12_act 93 = .ok (.aload_n 0, 1) := by decide +kernel
theorem dX12_act_94 : decode cX12_act 94 = .ok (.getfield 304, 3) := by decide +kernel
theorem dX12_act_97 : decode cX12_act 97 = .ok (.iload_n 2, 1) := by decide +kernel
theorem dX12_act_98 : decode cX12_act 98 = .ok (.iastore, 1) := by decide +kernel
theorem dX12_act_99 : decode cX12_act 99 = .ok (.aload_n 0, 1) := by decide +kernel
theorem dX12_act_100 : decode cX12_act 100 = .ok (.getfield 92, 3) := by decide +kernel
theorem dX12_act_103 : decode cX12_act 103 = .ok (.aload_n 0, 1) := by decide +kernel
theorem dX12_act_104 : decode cX12_act 104 = .ok (.getfield 304, 3) := by decide +kernel
theorem dX12_act_107 : decode cX12_act 107 = .ok (.iload_n 3, 1) := by decide +kernel
theorem dX12_act_108 : decode cX12_act 108 = .ok (.iastore, 1) := by decide +kernel
theorem dX12_act_109 : decode cX12_act 109 = .ok (.aload_n 0, 1) := by decide +kernel
theorem dX12_act_110 : decode cX12_act 110 = .ok (.getfield 95, 3) := by decide +kernel
theorem dX12_act_113 : decode cX12_act 113 = .ok (.aload_n 0, 1) := by decide +kernel
theorem dX12_act_114 : decode cX12_act 114 = .ok (.getfield 304, 3) := by decide +kernel
theorem dX12_act_117 : decode cX12_act 117 = .ok (.iload 4, 2) := by decide +kernel
theorem dX12_act_119 : decode cX12_act 119 = .ok (.iastore, 1) := by decide +kernel
theorem dX12_act_120 : decode cX12_act 120 = .ok (.aload_n 0, 1) := by decide +kernel
theorem dX12_act_121 : decode cX12_act 121 = .ok (.getfield 98, 3) := by decide +kernel
theorem dX12_act_124 : decode cX12_act 124 = .ok (.aload_n 0, 1) := by decide +kernel
theorem dX12_act_125 : decode cX12_act 125 = .ok (.getfield 304, 3) := by decide +kernel
theorem dX12_act_128 : decode cX12_act 128 = .ok (.iload 5, 2) := by decide +kernel
theorem dX12_act_130 : decode cX12_act 130 = .ok (.iastore, 1) := by decide +kernel
theorem dX12_act_131 : decode cX12_act 131 = .ok (.aload_n 0, 1) := by decide +kernel
theorem dX12_act_132 : decode cX12_act 132 = .ok (.getfield 101, 3) := by decide +kernel
theorem dX12_act_135 : decode cX12_act 135 = .ok (.aload_n 0, 1) := by decide +kernel
theorem dX12_act_136 : decode cX12_act 136 = .ok (.getfield 304, 3) := by decide +kernel
theorem dX12_act_139 : decode cX12_act 139 = .ok (.iload 6, 2) := by decide +kernel
theorem dX12_act_141 : decode cX12_act 141 = .ok (.iastore, 1) := by decide +kernel
theorem dX12_act_142 : decode cX12_act 142 = .ok (.aload_n 0, 1) := by decide +kernel
theorem dX12_act_143 : decode cX12_act 143 = .ok (.getfield 104, 3) := by decide +kernel
theorem dX12_act_146 : decode cX12_act 146 = .ok (.aload_n 0, 1) := by decide +kernel
theorem dX12_act_147 : decode cX12_act 147 = .ok (.getfield 304, 3) := by decide +kernel
theorem dX12_act_150 : decode cX12_act 150 = .ok (.iconst 0, 1) := by decide +kernel
theorem dX12_act_151 : decode cX12_act 151 = .ok (.iastore, 1) := by decide +kernel
theorem dX12_act_152 : decode cX12_act 152 = .ok (.aload_n 0, 1) := by decide +kernel
theorem dX12_act_153 : decode cX12_act 153 = .ok (.dup, 1) := by decide +kernel
theorem dX12_act_154 : decode cX12_act 154 = .ok (.getfield 304, 3) := by decide +kernel
theorem dX12_act_157 : decode cX12_act 157 = .ok (.iconst 1, 1) := by decide +kernel
theorem dX12_act_158 : decode cX12_act 158 = .ok (.iadd, 1) := by decide +kernel
theorem dX12_act_159 : decode cX12_act 159 = .ok (.putfield 304, 3) := by decide +kernel
theorem dX12_act_162 : decode cX12_act 162 = .ok (.aload_n 0, 1) := by decide +kernel
theorem dX12_act_163 : decode cX12_act 163 = .ok (.getfield 304, 3) := by decide +kernel
theorem dX12_act_166 : decode cX12_act 166 = .ok (.iconst 1, 1) := by decide +kernel
theorem dX12_act_167 : decode cX12_act 167 = .ok (.isub, 1) := by decide +kernel
theorem dX12_act_168 : decode cX12_act 168 = .ok (.ireturn, 1) := by decide +kernel
set_option maxRecDepth 20000 in
theorem ggX12_figure_X12_isAct : GoodIn wsX12_figure wsX12_isAct := goodIn_r _ [10, 11, 12, 13, 14, 15, 16, 17, 18, 19, 20, 21, 22, 23, 24, 25, 26, 27, 28, 29, 30, 31, 32, 33, 34, 35, 36, 37, 38, 39, 40, 41, 42, 43, 44, 45, 46, 47, 48, 49, 50, 51, 52, 53, 54, 55, 56, 57, 58, 59, 60, 61, 62, 63, 64, 65, 66, 67, 68, 69, 70, 71, 72, 73, 74, 75, 76, 77, 78, 79, 80, 81, 82, 83, 84, 85, 86, 87, 88, 89, 90, 91, 92, 93, 94, 95, 96] (by decide +kernel) (by decide +kernel)
set_option maxRecDepth 20000 in
theorem gX12_figure_X12_isAct : GoodIn wsX12_figure (wsV RX12 310 RX12 yX12_isAct wsX12_isAct) := goodIn_app (goodIn_of _ (by decide +kernel)) ggX12_figure_X12_isAct
theorem dX12_figure_0 : decode cX12_figure 0 = .ok (.aload_n 0, 1) := by decide +kernel
theorem dX12_figure_1 : decode cX12_figure 1 = .ok (.iload_n 1, 1) := by decide +kernel
theorem dX12_figure_2 : decode cX12_figure 2 = .ok (.invokevirtual 310, 3) := by decide +kernel
theorem dX12_figure_5 : decode cX12_figure 5 = .ok (.ifCond .eq 47, 3) := by decide +kernel
theorem dX12_figure_8 : decode cX12_figure 8 = .ok (.aload_n 0, 1) := by decide +kernel
theorem dX12_figure_9 : decode cX12_figure 9 = .ok (.getfield 104, 3) := by decide +kernel
theorem dX12_figure_12 : decode cX12_figure 12 = .ok (.iload_n 1, 1) := by decide +kernel
theorem dX12_figure_13 : decode cX12_figure 13 = .ok (.iaload, 1) := by decide +kernel
theorem dX12_figure_14 : decode cX12_figure 14 = .ok (.bipush 6, 2) := by decide +kernel
theorem dX12_figure_16 : decode cX12_figure 16 = .ok (.if_icmp .eq 36, 3) := by decide +kernel
theorem dX12_figure_19 : decode cX12_figure 19 = .ok (.iload_n 2, 1) := by decide +kernel
theorem dX12_figure_20 : decode cX12_figure 20 = .ok (.iconst 1, 1) := by decide +kernel
theorem dX12_figure_21 : decode cX12_figure 21 = .ok (.if_icmp .lt 31, 3) := by decide +kernel
theorem dX12_figure_24 : decode cX12_figure 24 = .ok (.iload_n 2, 1) := by decide +kernel
theorem dX12_figure_25 : decode cX12_figure 25 = .ok (.bipush 9, 2) := by decide +kernel
theorem dX12_figure_27 : decode cX12_figure 27 = .ok (.if_icmp .gt 25, 3) := by decide +kernel
theorem dX12_figure_30 : decode cX12_figure 30 = .ok (.iload_n 3, 1) := by decide +kernel
theorem dX12_figure_31 : decode cX12_figure 31 = .ok (.ifCond .lt 21, 3) := by decide +kernel
theorem dX12_figure_34 : decode cX12_figure 34 = .ok (.iload_n 3, 1) := by decide +kernel
theorem dX12_figure_35 : decode cX12_figure 35 = .ok (.bipush 20, 2) := by decide +kernel
theorem dX12_figure_37 : decode cX12_figure 37 = .ok (.if_icmp .gt 15, 3) := by decide +kernel
theorem dX12_figure_40 : decode cX12_figure 40 = .ok (.iload 4, 2) := by decide +kernel
theorem dX12_figure_42 : decode cX12_figure 42 = .ok (.ifCond .lt 10, 3) := by decide +kernel
theorem dX12_figure_45 : decode cX12_figure 45 = .ok (.iload 4, 2) := by decide +kernel
theorem dX12_figure_47 : decode cX12_figure 47 = .ok (.bipush 9, 2) := by decide +kernel
theorem dX12_figure_49 : decode cX12_figure 49 = .ok (.if_icmp .le 5, 3) := by decide +kernel
theorem dX12_figure_52 : decode cX12_figure 52 = .ok (.iconst (-1), 1) := by decide +kernel
theorem dX12_figure_53 : decode cX12_figure 53 = .ok (.ireturn, 1) := by decide +kernel
theorem dX12_figure_54 : decode cX12_figure 54 = .ok (.bipush 6, 2) := by decide +kernel
theorem dX12_figure_56 : decode cX12_figure 56 = .ok (.iload_n 1, 1) := by decide +kernel
theorem dX12_figure_57 : decode cX12_figure 57 = .ok (.imul, 1) := by decide +kernel
theorem dX12_figure_58 : decode cX12_figure 58 = .ok (.aload_n 0, 1) := by decide +kernel
theorem dX12_figure_59 : decode cX12_figure 59 = .ok (.getfield 104, 3) := by decide +kernel
theorem dX12_figure_62 : decode cX12_figure 62 = .ok (.iload_n 1, 1) := by decide +kernel
theorem dX12_figure_63 : decode cX12_figure 63 = .ok (.iaload, 1) := by decide +kernel
theorem dX12_figure_64 : decode cX12_figure 64 = .ok (.iadd, 1) := by decide +kernel
theorem dX12_figure_65 : decode cX12_figure 65 = .ok (.istore 6, 2) := by decide +kernel
theorem dX12_figure_67 : decode cX12_figure 67 = .ok (.aload_n 0, 1) := by decide +kernel
theorem dX12_figure_68 : decode cX12_figure 68 = .ok (.getfield 107, 3) := by decide +kernel
theorem dX12_figure_71 : decode cX12_figure 71 = .ok (.iload 6, 2) := by decide +kernel
theorem dX12_figure_73 : decode cX12_figure 73 = .ok (.iload_n 2, 1) := by decide +kernel
theorem dX12_figure_74 : decode cX12_figure 74 = .ok (.iastore, 1) := by decide +kernel
theorem dX12_figure_75 : decode cX12_figure 75 = .ok (.aload_n 0, 1) := by decide +kernel
theorem dX12_figure_76 : decode cX12_figure 76 = .ok (.getfield 110, 3) := by decide +kernel
theorem dX12_figure_79 : decode cX12_figure 79 = .ok (.iload 6, 2) := by decide +kernel
theorem dX12_figure_81 : decode cX12_figure 81 = .ok (.iload_n 3, 1) := by decide +kernel
theorem dX12_figure_82 : decode cX12_figure 82 = .ok (.iastore, 1) := by decide +kernel
theorem dX12_figure_83 : decode cX12_figure 83 = .ok (.aload_n 0, 1) := by decide +kernel
theorem dX12_figure_84 : decode cX12_figure 84 = .ok (.getfield 113, 3) := by decide +kernel
theorem dX12_figure_87 : decode cX12_figure 87 = .ok (.iload 6, 2) := by decide +kernel
theorem dX12_figure_89 : decode cX12_figure 89 = .ok (.iload 4, 2) := by decide +kernel
theorem dX12_figure_91 : decode cX12_figure 91 = .ok (.iastore, 1) := by decide +kernel
theorem dX12_figure_92 : decode cX12_figure 92 = .ok (.aload_n 0, 1) := by decide +kernel
theorem dX12_figure_93 : decode cX12_figure 93 = .ok (.getfield 116, 3) := by decide +kernel
theorem dX12_figure_96 : decode cX12_figure 96 = .ok (.iload 6, 2) := by decide +kernel
theorem dX12_figure_98 : decode cX12_figure 98 = .ok (.iload 5, 2) := by decide +kernel
theorem dX12_figure_100 : decode cX12_figure 100 = .ok (.bastore, 1) := by decide +kernel
theorem dX12_figure_101 : decode cX12_figure 101 = .ok (.aload_n 0, 1) := by decide +kernel
theorem dX12_figure_102 : decode cX12_figure 102 = .ok (.getfield 104, 3) := by decide +kernel
theorem dX12_figure_105 : decode cX12_figure 105 = .ok (.iload_n 1, 1) := by decide +kernel
theorem dX12_figure_106 : decode cX12_figure 106 = .ok (.dup2, 1) := by decide +kernel
theorem dX12_figure_107 : decode cX12_figure 107 = .ok (.iaload, 1) := by decide +kernel
theorem dX12_figure_108 : decode cX12_figure 108 = .ok (.iconst 1, 1) := by decide +kernel
theorem dX12_figure_109 : decode cX12_figure 109 = .ok (.iadd, 1) := by decide +kernel
theorem dX12_figure_110 : decode cX12_figure 110 = .ok (.iastore, 1) := by decide +kernel
theorem dX12_figure_111 : decode cX12_figure 111 = .ok (.aload_n 0, 1) := by decide +kernel
theorem dX12_figure_112 : decode cX12_figure 112 = .ok (.getfield 104, 3) := by decide +kernel
theorem dX12_figure_115 : decode cX12_figure 115 = .ok (.iload_n 1, 1) := by decide +kernel
theorem dX12_figure_116 : decode cX12_figure 116 = .ok (.iaload, 1) := by decide +kernel
theorem dX12_figure_117 : decode cX12_figure 117 = .ok (.iconst 1, 1) := by decide +kernel
theorem dX12_figure_118 : decode cX12_figure 118 = .ok (.isub, 1) := by decide +kernel
theorem dX12_figure_119 : decode cX12_figure 119 = .ok (.ireturn, 1) := by decide +kernel
theorem dX12_falls_0 : decode cX12_falls 0 = .ok (.iload_n 1, 1) := by decide +kernel
theorem dX12_falls_1 : decode cX12_falls 1 = .ok (.bipush 10, 2) := by decide +kernel
theorem dX12_falls_3 : decode cX12_falls 3 = .ok (.if_icmp .eq 10, 3) := by decide +kernel
theorem dX12_falls_6 : decode cX12_falls 6 = .ok (.iload_n 1, 1) := by decide +kernel
theorem dX12_falls_7 : decode cX12_falls 7 = .ok (.iconst (-1), 1) := by decide +kernel
theorem dX12_falls_8 : decode cX12_falls 8 = .ok (.if_icmp .eq 5, 3) := by decide +kernel
theorem dX12_falls_11 : decode cX12_falls 11 = .ok (.iconst 0, 1) := by decide +kernel
theorem dX12_falls_12 : decode cX12_falls 12 = .ok (.ireturn, 1) := by decide +kernel
theorem dX12_falls_13 : decode cX12_falls 13 = .ok (.aload_n 0, 1) := by decide +kernel
theorem dX12_falls_14 : decode cX12_falls 14 = .ok (.iload_n 1, 1) := by decide +kernel
theorem dX12_falls_15 : decode cX12_falls 15 = .ok (.putfield 201, 3) := by decide +kernel
theorem dX12_falls_18 : decode cX12_falls 18 = .ok (.iconst 0, 1) := by decide +kernel
theorem dX12_falls_19 : decode cX12_falls 19 = .ok (.istore_n 2, 1) := by decide +kernel
theorem dX12_falls_20 : decode cX12_falls 20 = .ok (.iload_n 2, 1) := by decide +kernel
