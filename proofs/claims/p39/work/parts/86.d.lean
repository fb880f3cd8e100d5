/-! the law's end: what the class refuses -/
theorem y243_16 :
  (∀ (ls : zL) (st : zS) (h : zH), zx 243 601 ls st h = zgo 243 (zpure (.aload_n 1) 602 0 [] ls st h)) ∧
  (∀ (ls : zL) (st : zS) (h : zH), zx 243 602 ls st h = zgo 243 (zpure (.iload_n 2) 603 0 [] ls st h)) ∧
  (∀ (ls : zL) (st : zS) (h : zH), zx 243 603 ls st h = zca 243 603 606 ls 241 11 0 (ztake 2 st) h) ∧
  (∀ (ls : zL) (st : zS) (h : zH), zx 243 606 ls st h = zgo 243 (zpure (.ifCond .ne 5) 609 611 [] ls st h)) ∧
  (∀ (ls : zL) (st : zS) (h : zH), zx 243 609 ls st h = zgo 243 (zpure (.iconst 0) 610 0 [] ls st h)) ∧
  (∀ (ls : zL) (st : zS) (h : zH), zx 243 610 ls st h = zret 1 st h) ∧
  (∀ (ls : zL) (st : zS) (h : zH), zx 243 611 ls st h = zgo 243 (zpure (.aload_n 1) 612 0 [] ls st h)) ∧
  (∀ (ls : zL) (st : zS) (h : zH), zx 243 612 ls st h = zca 243 612 615 ls 240 4 0 (ztake 1 st) h) ∧
  (∀ (ls : zL) (st : zS) (h : zH), zx 243 615 ls st h = zgo 243 (zpure (.lstore_n 3) 616 0 [] ls st h)) ∧
  (∀ (ls : zL) (st : zS) (h : zH), zx 243 616 ls st h = zgo 243 (zpure (.aload_n 1) 617 0 [] ls st h)) ∧
  (∀ (ls : zL) (st : zS) (h : zH), zx 243 617 ls st h = zca 243 617 620 ls 51 1 6 (ztake 1 st) h) ∧
  (∀ (ls : zL) (st : zS) (h : zH), zx 243 620 ls st h = zgo 243 (zpure (.istore 5) 622 0 [] ls st h)) ∧
  (∀ (ls : zL) (st : zS) (h : zH), zx 243 622 ls st h = zgo 243 (zpure (.aload_n 1) 623 0 [] ls st h)) ∧
  (∀ (ls : zL) (st : zS) (h : zH), zx 243 623 ls st h = zca 243 623 626 ls 239 2 0 (ztake 1 st) h) ∧
  (∀ (ls : zL) (st : zS) (h : zH), zx 243 626 ls st h = zgo 243 (zpure (.istore 6) 628 0 [] ls st h)) :=
  ⟨zx_0 rfl, zx_0 rfl, zx_2c rfl, zx_0 rfl, zx_0 rfl, zx_1 rfl, zx_0 rfl, zx_2c rfl, zx_0 rfl, zx_0 rfl, zx_2c rfl, zx_0 rfl, zx_0 rfl, zx_2c rfl, zx_0 rfl⟩
theorem y243_17 :
  (∀ (ls : zL) (st : zS) (h : zH), zx 243 628 ls st h = zgo 243 (zpure (.aload_n 1) 629 0 [] ls st h)) ∧
  (∀ (ls : zL) (st : zS) (h : zH), zx 243 629 ls st h = zgo 243 (zpure (.iconst 0) 630 0 [] ls st h)) ∧
  (∀ (ls : zL) (st : zS) (h : zH), zx 243 630 ls st h = zgo 243 (zpure (.iconst 0) 631 0 [] ls st h)) ∧
  (∀ (ls : zL) (st : zS) (h : zH), zx 243 631 ls st h = zgo 243 (zpure (.iconst 0) 632 0 [] ls st h)) ∧
  (∀ (ls : zL) (st : zS) (h : zH), zx 243 632 ls st h = zgo 243 (zpure (.iconst 0) 633 0 [] ls st h)) ∧
  (∀ (ls : zL) (st : zS) (h : zH), zx 243 633 ls st h = zgo 243 (zpure (.iconst 0) 634 0 [] ls st h)) ∧
  (∀ (ls : zL) (st : zS) (h : zH), zx 243 634 ls st h = zca 243 634 637 ls 222 7 0 (ztake 6 st) h) ∧
  (∀ (ls : zL) (st : zS) (h : zH), zx 243 637 ls st h = zgo 243 (zpure (.sipush (-1001)) 640 0 [] ls st h)) ∧
  (∀ (ls : zL) (st : zS) (h : zH), zx 243 640 ls st h = zgo 243 (zpure (.if_icmp .ne 215) 643 855 [] ls st h)) ∧
  (∀ (ls : zL) (st : zS) (h : zH), zx 243 643 ls st h = zgo 243 (zpure (.aload_n 1) 644 0 [] ls st h)) ∧
  (∀ (ls : zL) (st : zS) (h : zH), zx 243 644 ls st h = zgo 243 (zpure (.sipush 901) 647 0 [] ls st h)) ∧
  (∀ (ls : zL) (st : zS) (h : zH), zx 243 647 ls st h = zgo 243 (zpure (.iconst 0) 648 0 [] ls st h)) ∧
  (∀ (ls : zL) (st : zS) (h : zH), zx 243 648 ls st h = zgo 243 (zpure (.iconst 0) 649 0 [] ls st h)) ∧
  (∀ (ls : zL) (st : zS) (h : zH), zx 243 649 ls st h = zgo 243 (zpure (.iconst 0) 650 0 [] ls st h)) ∧
  (∀ (ls : zL) (st : zS) (h : zH), zx 243 650 ls st h = zgo 243 (zpure (.iconst 0) 651 0 [] ls st h)) ∧
  (∀ (ls : zL) (st : zS) (h : zH), zx 243 651 ls st h = zca 243 651 654 ls 222 7 0 (ztake 6 st) h) ∧
  (∀ (ls : zL) (st : zS) (h : zH), zx 243 654 ls st h = zgo 243 (zpure (.sipush (-1001)) 657 0 [] ls st h)) ∧
  (∀ (ls : zL) (st : zS) (h : zH), zx 243 657 ls st h = zgo 243 (zpure (.if_icmp .ne 198) 660 855 [] ls st h)) ∧
  (∀ (ls : zL) (st : zS) (h : zH), zx 243 660 ls st h = zgo 243 (zpure (.aload_n 1) 661 0 [] ls st h)) ∧
  (∀ (ls : zL) (st : zS) (h : zH), zx 243 661 ls st h = zgo 243 (zpure (.iconst 1) 662 0 [] ls st h)) ∧
  (∀ (ls : zL) (st : zS) (h : zH), zx 243 662 ls st h = zgo 243 (zpure (.iconst 1) 663 0 [] ls st h)) ∧
  (∀ (ls : zL) (st : zS) (h : zH), zx 243 663 ls st h = zgo 243 (zpure (.iconst (-1)) 664 0 [] ls st h)) ∧
  (∀ (ls : zL) (st : zS) (h : zH), zx 243 664 ls st h = zgo 243 (zpure (.iconst 0) 665 0 [] ls st h)) ∧
  (∀ (ls : zL) (st : zS) (h : zH), zx 243 665 ls st h = zgo 243 (zpure (.iconst 0) 666 0 [] ls st h)) ∧
  (∀ (ls : zL) (st : zS) (h : zH), zx 243 666 ls st h = zca 243 666 669 ls 222 7 0 (ztake 6 st) h) ∧
  (∀ (ls : zL) (st : zS) (h : zH), zx 243 669 ls st h = zgo 243 (zpure (.sipush (-1001)) 672 0 [] ls st h)) ∧
  (∀ (ls : zL) (st : zS) (h : zH), zx 243 672 ls st h = zgo 243 (zpure (.if_icmp .ne 183) 675 855 [] ls st h)) ∧
  (∀ (ls : zL) (st : zS) (h : zH), zx 243 675 ls st h = zgo 243 (zpure (.aload_n 1) 676 0 [] ls st h)) ∧
  (∀ (ls : zL) (st : zS) (h : zH), zx 243 676 ls st h = zgo 243 (zpure (.iconst 1) 677 0 [] ls st h)) ∧
  (∀ (ls : zL) (st : zS) (h : zH), zx 243 677 ls st h = zgo 243 (zpure (.bipush (-61)) 679 0 [] ls st h)) ∧
  (∀ (ls : zL) (st : zS) (h : zH), zx 243 679 ls st h = zgo 243 (zpure (.iconst (-1)) 680 0 [] ls st h)) ∧
  (∀ (ls : zL) (st : zS) (h : zH), zx 243 680 ls st h = zgo 243 (zpure (.iconst 0) 681 0 [] ls st h)) ∧
  (∀ (ls : zL) (st : zS) (h : zH), zx 243 681 ls st h = zgo 243 (zpure (.iconst 0) 682 0 [] ls st h)) ∧
  (∀ (ls : zL) (st : zS) (h : zH), zx 243 682 ls st h = zca 243 682 685 ls 222 7 0 (ztake 6 st) h) ∧
  (∀ (ls : zL) (st : zS) (h : zH), zx 243 685 ls st h = zgo 243 (zpure (.sipush (-1001)) 688 0 [] ls st h)) ∧
  (∀ (ls : zL) (st : zS) (h : zH), zx 243 688 ls st h = zgo 243 (zpure (.if_icmp .ne 167) 691 855 [] ls st h)) ∧
  (∀ (ls : zL) (st : zS) (h : zH), zx 243 691 ls st h = zgo 243 (zpure (.aload_n 1) 692 0 [] ls st h)) ∧
  (∀ (ls : zL) (st : zS) (h : zH), zx 243 692 ls st h = zgo 243 (zpure (.iconst 1) 693 0 [] ls st h)) ∧
  (∀ (ls : zL) (st : zS) (h : zH), zx 243 693 ls st h = zgo 243 (zpure (.iconst 0) 694 0 [] ls st h)) ∧
  (∀ (ls : zL) (st : zS) (h : zH), zx 243 694 ls st h = zgo 243 (zpure (.bipush 100) 696 0 [] ls st h)) ∧
  (∀ (ls : zL) (st : zS) (h : zH), zx 243 696 ls st h = zgo 243 (zpure (.iconst 0) 697 0 [] ls st h)) ∧
  (∀ (ls : zL) (st : zS) (h : zH), zx 243 697 ls st h = zgo 243 (zpure (.iconst 0) 698 0 [] ls st h)) ∧
  (∀ (ls : zL) (st : zS) (h : zH), zx 243 698 ls st h = zca 243 698 701 ls 222 7 0 (ztake 6 st) h) ∧
  (∀ (ls : zL) (st : zS) (h : zH), zx 243 701 ls st h = zgo 243 (zpure (.sipush (-1001)) 704 0 [] ls st h)) ∧
  (∀ (ls : zL) (st : zS) (h : zH), zx 243 704 ls st h = zgo 243 (zpure (.if_icmp .ne 151) 707 855 [] ls st h)) ∧
  (∀ (ls : zL) (st : zS) (h : zH), zx 243 707 ls st h = zgo 243 (zpure (.aload_n 1) 708 0 [] ls st h)) ∧
  (∀ (ls : zL) (st : zS) (h : zH), zx 243 708 ls st h = zgo 243 (zpure (.iconst 1) 709 0 [] ls st h)) ∧
  (∀ (ls : zL) (st : zS) (h : zH), zx 243 709 ls st h = zgo 243 (zpure (.iconst 0) 710 0 [] ls st h)) ∧
  (∀ (ls : zL) (st : zS) (h : zH), zx 243 710 ls st h = zgo 243 (zpure (.iconst 0) 711 0 [] ls st h)) ∧
  (∀ (ls : zL) (st : zS) (h : zH), zx 243 711 ls st h = zgo 243 (zpure (.iconst 5) 712 0 [] ls st h)) ∧
  (∀ (ls : zL) (st : zS) (h : zH), zx 243 712 ls st h = zgo 243 (zpure (.iconst 4) 713 0 [] ls st h)) ∧
  (∀ (ls : zL) (st : zS) (h : zH), zx 243 713 ls st h = zca 243 713 716 ls 222 7 0 (ztake 6 st) h) ∧
  (∀ (ls : zL) (st : zS) (h : zH), zx 243 716 ls st h = zgo 243 (zpure (.sipush (-1001)) 719 0 [] ls st h)) ∧
  (∀ (ls : zL) (st : zS) (h : zH), zx 243 719 ls st h = zgo 243 (zpure (.if_icmp .ne 136) 722 855 [] ls st h)) ∧
  (∀ (ls : zL) (st : zS) (h : zH), zx 243 722 ls st h = zgo 243 (zpure (.aload_n 1) 723 0 [] ls st h)) ∧
  (∀ (ls : zL) (st : zS) (h : zH), zx 243 723 ls st h = zgo 243 (zpure (.iconst 1) 724 0 [] ls st h)) ∧
  (∀ (ls : zL) (st : zS) (h : zH), zx 243 724 ls st h = zgo 243 (zpure (.iconst 0) 725 0 [] ls st h)) ∧
  (∀ (ls : zL) (st : zS) (h : zH), zx 243 725 ls st h = zgo 243 (zpure (.iconst (-1)) 726 0 [] ls st h)) ∧
  (∀ (ls : zL) (st : zS) (h : zH), zx 243 726 ls st h = zgo 243 (zpure (.iconst 0) 727 0 [] ls st h)) ∧
  (∀ (ls : zL) (st : zS) (h : zH), zx 243 727 ls st h = zgo 243 (zpure (.sipush 1000) 730 0 [] ls st h)) ∧
  (∀ (ls : zL) (st : zS) (h : zH), zx 243 730 ls st h = zca 243 730 733 ls 222 7 0 (ztake 6 st) h) ∧
  (∀ (ls : zL) (st : zS) (h : zH), zx 243 733 ls st h = zgo 243 (zpure (.sipush (-1001)) 736 0 [] ls st h)) ∧
  (∀ (ls : zL) (st : zS) (h : zH), zx 243 736 ls st h = zgo 243 (zpure (.if_icmp .ne 119) 739 855 [] ls st h)) ∧
  (∀ (ls : zL) (st : zS) (h : zH), zx 243 739 ls st h = zgo 243 (zpure (.aload_n 1) 740 0 [] ls st h)) ∧
  (∀ (ls : zL) (st : zS) (h : zH), zx 243 740 ls st h = zgo 243 (zpure (.iload 6) 742 0 [] ls st h)) ∧
  (∀ (ls : zL) (st : zS) (h : zH), zx 243 742 ls st h = zgo 243 (zpure (.iconst 0) 743 0 [] ls st h)) ∧
  (∀ (ls : zL) (st : zS) (h : zH), zx 243 743 ls st h = zca 243 743 746 ls 223 4 0 (ztake 3 st) h) ∧
  (∀ (ls : zL) (st : zS) (h : zH), zx 243 746 ls st h = zgo 243 (zpure (.sipush (-1001)) 749 0 [] ls st h)) ∧
  (∀ (ls : zL) (st : zS) (h : zH), zx 243 749 ls st h = zgo 243 (zpure (.if_icmp .ne 106) 752 855 [] ls st h)) ∧
  (∀ (ls : zL) (st : zS) (h : zH), zx 243 752 ls st h = zgo 243 (zpure (.aload_n 1) 753 0 [] ls st h)) ∧
  (∀ (ls : zL) (st : zS) (h : zH), zx 243 753 ls st h = zgo 243 (zpure (.iconst (-1)) 754 0 [] ls st h)) ∧
  (∀ (ls : zL) (st : zS) (h : zH), zx 243 754 ls st h = zgo 243 (zpure (.bipush (-99)) 756 0 [] ls st h)) ∧
  (∀ (ls : zL) (st : zS) (h : zH), zx 243 756 ls st h = zca 243 756 759 ls 223 4 0 (ztake 3 st) h) ∧
  (∀ (ls : zL) (st : zS) (h : zH), zx 243 759 ls st h = zgo 243 (zpure (.sipush (-1001)) 762 0 [] ls st h)) ∧
  (∀ (ls : zL) (st : zS) (h : zH), zx 243 762 ls st h = zgo 243 (zpure (.if_icmp .ne 93) 765 855 [] ls st h)) ∧
  (∀ (ls : zL) (st : zS) (h : zH), zx 243 765 ls st h = zgo 243 (zpure (.aload_n 1) 766 0 [] ls st h)) ∧
  (∀ (ls : zL) (st : zS) (h : zH), zx 243 766 ls st h = zgo 243 (zpure (.iconst 0) 767 0 [] ls st h)) ∧
  (∀ (ls : zL) (st : zS) (h : zH), zx 243 767 ls st h = zgo 243 (zpure (.iload 6) 769 0 [] ls st h)) ∧
  (∀ (ls : zL) (st : zS) (h : zH), zx 243 769 ls st h = zgo 243 (zpure (.bipush 120) 771 0 [] ls st h)) ∧
  (∀ (ls : zL) (st : zS) (h : zH), zx 243 771 ls st h = zgo 243 (zpure (.iconst (-1)) 772 0 [] ls st h)) ∧
  (∀ (ls : zL) (st : zS) (h : zH), zx 243 772 ls st h = zca 243 772 775 ls 224 6 0 (ztake 5 st) h) ∧
  (∀ (ls : zL) (st : zS) (h : zH), zx 243 775 ls st h = zgo 243 (zpure (.sipush (-1001)) 778 0 [] ls st h)) ∧
  (∀ (ls : zL) (st : zS) (h : zH), zx 243 778 ls st h = zgo 243 (zpure (.if_icmp .ne 77) 781 855 [] ls st h)) ∧
  (∀ (ls : zL) (st : zS) (h : zH), zx 243 781 ls st h = zgo 243 (zpure (.aload_n 1) 782 0 [] ls st h)) ∧
  (∀ (ls : zL) (st : zS) (h : zH), zx 243 782 ls st h = zgo 243 (zpure (.iload 5) 784 0 [] ls st h)) ∧
  (∀ (ls : zL) (st : zS) (h : zH), zx 243 784 ls st h = zgo 243 (zpure (.iconst 1) 785 0 [] ls st h)) ∧
  (∀ (ls : zL) (st : zS) (h : zH), zx 243 785 ls st h = zgo 243 (zpure .iadd 786 0 [] ls st h)) ∧
  (∀ (ls : zL) (st : zS) (h : zH), zx 243 786 ls st h = zgo 243 (zpure (.iconst 0) 787 0 [] ls st h)) ∧
  (∀ (ls : zL) (st : zS) (h : zH), zx 243 787 ls st h = zgo 243 (zpure (.bipush 102) 789 0 [] ls st h)) ∧
  (∀ (ls : zL) (st : zS) (h : zH), zx 243 789 ls st h = zgo 243 (zpure (.iconst 0) 790 0 [] ls st h)) ∧
  (∀ (ls : zL) (st : zS) (h : zH), zx 243 790 ls st h = zca 243 790 793 ls 224 6 0 (ztake 5 st) h) ∧
  (∀ (ls : zL) (st : zS) (h : zH), zx 243 793 ls st h = zgo 243 (zpure (.sipush (-1001)) 796 0 [] ls st h)) ∧
  (∀ (ls : zL) (st : zS) (h : zH), zx 243 796 ls st h = zgo 243 (zpure (.if_icmp .ne 59) 799 855 [] ls st h)) ∧
  (∀ (ls : zL) (st : zS) (h : zH), zx 243 799 ls st h = zgo 243 (zpure (.aload_n 1) 800 0 [] ls st h)) ∧
  (∀ (ls : zL) (st : zS) (h : zH), zx 243 800 ls st h = zgo 243 (zpure (.iconst (-1)) 801 0 [] ls st h)) ∧
  (∀ (ls : zL) (st : zS) (h : zH), zx 243 801 ls st h = zgo 243 (zpure (.iconst 0) 802 0 [] ls st h)) ∧
  (∀ (ls : zL) (st : zS) (h : zH), zx 243 802 ls st h = zgo 243 (zpure (.bipush 102) 804 0 [] ls st h)) ∧
  (∀ (ls : zL) (st : zS) (h : zH), zx 243 804 ls st h = zgo 243 (zpure (.iconst 0) 805 0 [] ls st h)) ∧
  (∀ (ls : zL) (st : zS) (h : zH), zx 243 805 ls st h = zca 243 805 808 ls 224 6 0 (ztake 5 st) h) ∧
  (∀ (ls : zL) (st : zS) (h : zH), zx 243 808 ls st h = zgo 243 (zpure (.sipush (-1001)) 811 0 [] ls st h)) ∧
  (∀ (ls : zL) (st : zS) (h : zH), zx 243 811 ls st h = zgo 243 (zpure (.if_icmp .ne 44) 814 855 [] ls st h)) ∧
  (∀ (ls : zL) (st : zS) (h : zH), zx 243 814 ls st h = zgo 243 (zpure (.aload_n 1) 815 0 [] ls st h)) ∧
  (∀ (ls : zL) (st : zS) (h : zH), zx 243 815 ls st h = zgo 243 (zpure (.iload 5) 817 0 [] ls st h)) ∧
  (∀ (ls : zL) (st : zS) (h : zH), zx 243 817 ls st h = zgo 243 (zpure (.iconst 0) 818 0 [] ls st h)) ∧
  (∀ (ls : zL) (st : zS) (h : zH), zx 243 818 ls st h = zgo 243 (zpure (.iconst 0) 819 0 [] ls st h)) ∧
  (∀ (ls : zL) (st : zS) (h : zH), zx 243 819 ls st h = zca 243 819 822 ls 225 5 0 (ztake 4 st) h) ∧
  (∀ (ls : zL) (st : zS) (h : zH), zx 243 822 ls st h = zgo 243 (zpure (.sipush (-1001)) 825 0 [] ls st h)) ∧
  (∀ (ls : zL) (st : zS) (h : zH), zx 243 825 ls st h = zgo 243 (zpure (.if_icmp .ne 30) 828 855 [] ls st h)) ∧
  (∀ (ls : zL) (st : zS) (h : zH), zx 243 828 ls st h = zgo 243 (zpure (.aload_n 1) 829 0 [] ls st h)) ∧
  (∀ (ls : zL) (st : zS) (h : zH), zx 243 829 ls st h = zgo 243 (zpure (.iconst (-1)) 830 0 [] ls st h)) ∧
  (∀ (ls : zL) (st : zS) (h : zH), zx 243 830 ls st h = zgo 243 (zpure (.iconst 0) 831 0 [] ls st h)) ∧
  (∀ (ls : zL) (st : zS) (h : zH), zx 243 831 ls st h = zgo 243 (zpure (.iconst 1) 832 0 [] ls st h)) ∧
  (∀ (ls : zL) (st : zS) (h : zH), zx 243 832 ls st h = zca 243 832 835 ls 225 5 0 (ztake 4 st) h) ∧
  (∀ (ls : zL) (st : zS) (h : zH), zx 243 835 ls st h = zgo 243 (zpure (.sipush (-1001)) 838 0 [] ls st h)) ∧
  (∀ (ls : zL) (st : zS) (h : zH), zx 243 838 ls st h = zgo 243 (zpure (.if_icmp .ne 17) 841 855 [] ls st h)) ∧
  (∀ (ls : zL) (st : zS) (h : zH), zx 243 841 ls st h = zgo 243 (zpure (.aload_n 1) 842 0 [] ls st h)) ∧
  (∀ (ls : zL) (st : zS) (h : zH), zx 243 842 ls st h = zgo 243 (zpure (.iconst 0) 843 0 [] ls st h)) ∧
  (∀ (ls : zL) (st : zS) (h : zH), zx 243 843 ls st h = zgo 243 (zpure (.iload 5) 845 0 [] ls st h)) ∧
  (∀ (ls : zL) (st : zS) (h : zH), zx 243 845 ls st h = zgo 243 (zpure (.iconst 1) 846 0 [] ls st h)) ∧
  (∀ (ls : zL) (st : zS) (h : zH), zx 243 846 ls st h = zca 243 846 849 ls 225 5 0 (ztake 4 st) h) ∧
  (∀ (ls : zL) (st : zS) (h : zH), zx 243 849 ls st h = zgo 243 (zpure (.sipush (-1001)) 852 0 [] ls st h)) ∧
  (∀ (ls : zL) (st : zS) (h : zH), zx 243 852 ls st h = zgo 243 (zpure (.if_icmp .eq 5) 855 857 [] ls st h)) ∧
  (∀ (ls : zL) (st : zS) (h : zH), zx 243 857 ls st h = zgo 243 (zpure (.aload_n 1) 858 0 [] ls st h)) :=
  ⟨zx_0 rfl, zx_0 rfl, zx_0 rfl, zx_0 rfl, zx_0 rfl, zx_0 rfl, zx_2c rfl, zx_0 rfl, zx_0 rfl, zx_0 rfl, zx_0 rfl, zx_0 rfl, zx_0 rfl, zx_0 rfl, zx_0 rfl, zx_2c rfl, zx_0 rfl, zx_0 rfl, zx_0 rfl, zx_0 rfl, zx_0 rfl, zx_0 rfl, zx_0 rfl, zx_0 rfl, zx_2c rfl, zx_0 rfl, zx_0 rfl, zx_0 rfl, zx_0 rfl, zx_0 rfl, zx_0 rfl, zx_0 rfl, zx_0 rfl, zx_2c rfl, zx_0 rfl, zx_0 rfl, zx_0 rfl, zx_0 rfl, zx_0 rfl, zx_0 rfl, zx_0 rfl, zx_0 rfl, zx_2c rfl, zx_0 rfl, zx_0 rfl, zx_0 rfl, zx_0 rfl, zx_0 rfl, zx_0 rfl, zx_0 rfl, zx_0 rfl, zx_2c rfl, zx_0 rfl, zx_0 rfl, zx_0 rfl, zx_0 rfl, zx_0 rfl, zx_0 rfl, zx_0 rfl, zx_0 rfl, zx_2c rfl, zx_0 rfl, zx_0 rfl, zx_0 rfl, zx_0 rfl, zx_0 rfl, zx_2c rfl, zx_0 rfl, zx_0 rfl, zx_0 rfl, zx_0 rfl, zx_0 rfl, zx_2c rfl, zx_0 rfl, zx_0 rfl, zx_0 rfl, zx_0 rfl, zx_0 rfl, zx_0 rfl, zx_0 rfl, zx_2c rfl, zx_0 rfl, zx_0 rfl, zx_0 rfl, zx_0 rfl, zx_0 rfl, zx_0 rfl, zx_0 rfl, zx_0 rfl, zx_0 rfl, zx_2c rfl, zx_0 rfl, zx_0 rfl, zx_0 rfl, zx_0 rfl, zx_0 rfl, zx_0 rfl, zx_0 rfl, zx_2c rfl, zx_0 rfl, zx_0 rfl, zx_0 rfl, zx_0 rfl, zx_0 rfl, zx_0 rfl, zx_2c rfl, zx_0 rfl, zx_0 rfl, zx_0 rfl, zx_0 rfl, zx_0 rfl, zx_0 rfl, zx_2c rfl, zx_0 rfl, zx_0 rfl, zx_0 rfl, zx_0 rfl, zx_0 rfl, zx_0 rfl, zx_2c rfl, zx_0 rfl, zx_0 rfl, zx_0 rfl⟩
theorem y243_18 :
  (∀ (ls : zL) (st : zS) (h : zH), zx 243 858 ls st h = zgo 243 (zpure (.iload 5) 860 0 [] ls st h)) ∧
  (∀ (ls : zL) (st : zS) (h : zH), zx 243 860 ls st h = zgo 243 (zpure (.sipush 901) 863 0 [] ls st h)) ∧
  (∀ (ls : zL) (st : zS) (h : zH), zx 243 863 ls st h = zca 243 863 866 ls 226 4 0 (ztake 3 st) h) ∧
  (∀ (ls : zL) (st : zS) (h : zH), zx 243 866 ls st h = zgo 243 (zpure (.sipush (-1001)) 869 0 [] ls st h)) ∧
  (∀ (ls : zL) (st : zS) (h : zH), zx 243 869 ls st h = zgo 243 (zpure (.if_icmp .ne 199) 872 1068 [] ls st h)) ∧
  (∀ (ls : zL) (st : zS) (h : zH), zx 243 872 ls st h = zgo 243 (zpure (.iload 5) 874 0 [] ls st h)) ∧
  (∀ (ls : zL) (st : zS) (h : zH), zx 243 874 ls st h = zgo 243 (zpure (.ifCond .le 17) 877 891 [] ls st h)) ∧
  (∀ (ls : zL) (st : zS) (h : zH), zx 243 877 ls st h = zgo 243 (zpure (.aload_n 1) 878 0 [] ls st h)) ∧
  (∀ (ls : zL) (st : zS) (h : zH), zx 243 878 ls st h = zgo 243 (zpure (.iconst 0) 879 0 [] ls st h)) ∧
  (∀ (ls : zL) (st : zS) (h : zH), zx 243 879 ls st h = zgo 243 (zpure (.sipush 901) 882 0 [] ls st h)) ∧
  (∀ (ls : zL) (st : zS) (h : zH), zx 243 882 ls st h = zca 243 882 885 ls 226 4 0 (ztake 3 st) h) ∧
  (∀ (ls : zL) (st : zS) (h : zH), zx 243 885 ls st h = zgo 243 (zpure (.sipush (-1002)) 888 0 [] ls st h)) ∧
  (∀ (ls : zL) (st : zS) (h : zH), zx 243 888 ls st h = zgo 243 (zpure (.if_icmp .ne 180) 891 1068 [] ls st h)) ∧
  (∀ (ls : zL) (st : zS) (h : zH), zx 243 891 ls st h = zgo 243 (zpure (.aload_n 1) 892 0 [] ls st h)) ∧
  (∀ (ls : zL) (st : zS) (h : zH), zx 243 892 ls st h = zgo 243 (zpure (.iload 5) 894 0 [] ls st h)) ∧
  (∀ (ls : zL) (st : zS) (h : zH), zx 243 894 ls st h = zgo 243 (zpure (.bipush 120) 896 0 [] ls st h)) ∧
  (∀ (ls : zL) (st : zS) (h : zH), zx 243 896 ls st h = zgo 243 (zpure (.iconst 0) 897 0 [] ls st h)) ∧
  (∀ (ls : zL) (st : zS) (h : zH), zx 243 897 ls st h = zgo 243 (zpure (.iconst 0) 898 0 [] ls st h)) ∧
  (∀ (ls : zL) (st : zS) (h : zH), zx 243 898 ls st h = zca 243 898 901 ls 227 6 0 (ztake 5 st) h) ∧
  (∀ (ls : zL) (st : zS) (h : zH), zx 243 901 ls st h = zgo 243 (zpure (.sipush (-1001)) 904 0 [] ls st h)) ∧
  (∀ (ls : zL) (st : zS) (h : zH), zx 243 904 ls st h = zgo 243 (zpure (.if_icmp .ne 164) 907 1068 [] ls st h)) ∧
  (∀ (ls : zL) (st : zS) (h : zH), zx 243 907 ls st h = zgo 243 (zpure (.iload 5) 909 0 [] ls st h)) ∧
  (∀ (ls : zL) (st : zS) (h : zH), zx 243 909 ls st h = zgo 243 (zpure (.ifCond .le 18) 912 927 [] ls st h)) ∧
  (∀ (ls : zL) (st : zS) (h : zH), zx 243 912 ls st h = zgo 243 (zpure (.aload_n 1) 913 0 [] ls st h)) ∧
  (∀ (ls : zL) (st : zS) (h : zH), zx 243 913 ls st h = zgo 243 (zpure (.iconst 0) 914 0 [] ls st h)) ∧
  (∀ (ls : zL) (st : zS) (h : zH), zx 243 914 ls st h = zgo 243 (zpure (.bipush 120) 916 0 [] ls st h)) ∧
  (∀ (ls : zL) (st : zS) (h : zH), zx 243 916 ls st h = zgo 243 (zpure (.iconst 0) 917 0 [] ls st h)) ∧
  (∀ (ls : zL) (st : zS) (h : zH), zx 243 917 ls st h = zgo 243 (zpure (.iconst 1) 918 0 [] ls st h)) ∧
  (∀ (ls : zL) (st : zS) (h : zH), zx 243 918 ls st h = zca 243 918 921 ls 227 6 0 (ztake 5 st) h) ∧
  (∀ (ls : zL) (st : zS) (h : zH), zx 243 921 ls st h = zgo 243 (zpure (.sipush (-1002)) 924 0 [] ls st h)) ∧
  (∀ (ls : zL) (st : zS) (h : zH), zx 243 924 ls st h = zgo 243 (zpure (.if_icmp .ne 144) 927 1068 [] ls st h)) ∧
  (∀ (ls : zL) (st : zS) (h : zH), zx 243 927 ls st h = zgo 243 (zpure (.aload_n 1) 928 0 [] ls st h)) ∧
  (∀ (ls : zL) (st : zS) (h : zH), zx 243 928 ls st h = zgo 243 (zpure (.iconst (-1)) 929 0 [] ls st h)) ∧
  (∀ (ls : zL) (st : zS) (h : zH), zx 243 929 ls st h = zca 243 929 932 ls 228 3 0 (ztake 2 st) h) ∧
  (∀ (ls : zL) (st : zS) (h : zH), zx 243 932 ls st h = zgo 243 (zpure (.bipush 45) 934 0 [] ls st h)) ∧
  (∀ (ls : zL) (st : zS) (h : zH), zx 243 934 ls st h = zgo 243 (zpure (.if_icmp .ne 134) 937 1068 [] ls st h)) ∧
  (∀ (ls : zL) (st : zS) (h : zH), zx 243 937 ls st h = zgo 243 (zpure (.aload_n 1) 938 0 [] ls st h)) ∧
  (∀ (ls : zL) (st : zS) (h : zH), zx 243 938 ls st h = zgo 243 (zpure (.iload 5) 940 0 [] ls st h)) ∧
  (∀ (ls : zL) (st : zS) (h : zH), zx 243 940 ls st h = zgo 243 (zpure (.bipush (-2)) 942 0 [] ls st h)) ∧
  (∀ (ls : zL) (st : zS) (h : zH), zx 243 942 ls st h = zca 243 942 945 ls 229 4 0 (ztake 3 st) h) ∧
  (∀ (ls : zL) (st : zS) (h : zH), zx 243 945 ls st h = zgo 243 (zpure (.sipush (-1001)) 948 0 [] ls st h)) ∧
  (∀ (ls : zL) (st : zS) (h : zH), zx 243 948 ls st h = zgo 243 (zpure (.if_icmp .ne 120) 951 1068 [] ls st h)) ∧
  (∀ (ls : zL) (st : zS) (h : zH), zx 243 951 ls st h = zgo 243 (zpure (.iload 5) 953 0 [] ls st h)) ∧
  (∀ (ls : zL) (st : zS) (h : zH), zx 243 953 ls st h = zgo 243 (zpure (.ifCond .le 15) 956 968 [] ls st h)) ∧
  (∀ (ls : zL) (st : zS) (h : zH), zx 243 956 ls st h = zgo 243 (zpure (.aload_n 1) 957 0 [] ls st h)) ∧
  (∀ (ls : zL) (st : zS) (h : zH), zx 243 957 ls st h = zgo 243 (zpure (.iconst 0) 958 0 [] ls st h)) ∧
  (∀ (ls : zL) (st : zS) (h : zH), zx 243 958 ls st h = zgo 243 (zpure (.iconst 3) 959 0 [] ls st h)) ∧
  (∀ (ls : zL) (st : zS) (h : zH), zx 243 959 ls st h = zca 243 959 962 ls 229 4 0 (ztake 3 st) h) ∧
  (∀ (ls : zL) (st : zS) (h : zH), zx 243 962 ls st h = zgo 243 (zpure (.sipush (-1001)) 965 0 [] ls st h)) ∧
  (∀ (ls : zL) (st : zS) (h : zH), zx 243 965 ls st h = zgo 243 (zpure (.if_icmp .ne 103) 968 1068 [] ls st h)) ∧
  (∀ (ls : zL) (st : zS) (h : zH), zx 243 968 ls st h = zgo 243 (zpure (.aload_n 1) 969 0 [] ls st h)) ∧
  (∀ (ls : zL) (st : zS) (h : zH), zx 243 969 ls st h = zgo 243 (zpure (.iconst (-1)) 970 0 [] ls st h)) ∧
  (∀ (ls : zL) (st : zS) (h : zH), zx 243 970 ls st h = zgo 243 (zpure (.iconst 0) 971 0 [] ls st h)) ∧
  (∀ (ls : zL) (st : zS) (h : zH), zx 243 971 ls st h = zca 243 971 974 ls 230 4 0 (ztake 3 st) h) ∧
  (∀ (ls : zL) (st : zS) (h : zH), zx 243 974 ls st h = zgo 243 (zpure (.sipush (-1001)) 977 0 [] ls st h)) ∧
  (∀ (ls : zL) (st : zS) (h : zH), zx 243 977 ls st h = zgo 243 (zpure (.if_icmp .ne 91) 980 1068 [] ls st h)) ∧
  (∀ (ls : zL) (st : zS) (h : zH), zx 243 980 ls st h = zgo 243 (zpure (.aload_n 1) 981 0 [] ls st h)) ∧
  (∀ (ls : zL) (st : zS) (h : zH), zx 243 981 ls st h = zgo 243 (zpure (.aload_n 1) 982 0 [] ls st h)) ∧
  (∀ (ls : zL) (st : zS) (h : zH), zx 243 982 ls st h = zca 243 982 985 ls 73 1 6 (ztake 1 st) h) ∧
  (∀ (ls : zL) (st : zS) (h : zH), zx 243 985 ls st h = zgo 243 (zpure (.iconst 4) 986 0 [] ls st h)) ∧
  (∀ (ls : zL) (st : zS) (h : zH), zx 243 986 ls st h = zca 243 986 989 ls 230 4 0 (ztake 3 st) h) ∧
  (∀ (ls : zL) (st : zS) (h : zH), zx 243 989 ls st h = zgo 243 (zpure (.sipush (-1001)) 992 0 [] ls st h)) ∧
  (∀ (ls : zL) (st : zS) (h : zH), zx 243 992 ls st h = zgo 243 (zpure (.if_icmp .ne 76) 995 1068 [] ls st h)) ∧
  (∀ (ls : zL) (st : zS) (h : zH), zx 243 995 ls st h = zgo 243 (zpure (.aload_n 1) 996 0 [] ls st h)) ∧
  (∀ (ls : zL) (st : zS) (h : zH), zx 243 996 ls st h = zgo 243 (zpure (.sipush 3600) 999 0 [] ls st h)) ∧
  (∀ (ls : zL) (st : zS) (h : zH), zx 243 999 ls st h = zgo 243 (zpure (.iconst 1) 1000 0 [] ls st h)) ∧
  (∀ (ls : zL) (st : zS) (h : zH), zx 243 1000 ls st h = zca 243 1000 1003 ls 231 4 0 (ztake 3 st) h) ∧
  (∀ (ls : zL) (st : zS) (h : zH), zx 243 1003 ls st h = zgo 243 (zpure (.sipush (-1001)) 1006 0 [] ls st h)) ∧
  (∀ (ls : zL) (st : zS) (h : zH), zx 243 1006 ls st h = zgo 243 (zpure (.if_icmp .ne 62) 1009 1068 [] ls st h)) ∧
  (∀ (ls : zL) (st : zS) (h : zH), zx 243 1009 ls st h = zgo 243 (zpure (.aload_n 1) 1010 0 [] ls st h)) ∧
  (∀ (ls : zL) (st : zS) (h : zH), zx 243 1010 ls st h = zgo 243 (zpure (.sipush 3601) 1013 0 [] ls st h)) ∧
  (∀ (ls : zL) (st : zS) (h : zH), zx 243 1013 ls st h = zgo 243 (zpure (.iconst 0) 1014 0 [] ls st h)) ∧
  (∀ (ls : zL) (st : zS) (h : zH), zx 243 1014 ls st h = zgo 243 (zpure (.iconst (-1)) 1015 0 [] ls st h)) ∧
  (∀ (ls : zL) (st : zS) (h : zH), zx 243 1015 ls st h = zca 243 1015 1018 ls 232 5 0 (ztake 4 st) h) ∧
  (∀ (ls : zL) (st : zS) (h : zH), zx 243 1018 ls st h = zgo 243 (zpure (.sipush (-1001)) 1021 0 [] ls st h)) ∧
  (∀ (ls : zL) (st : zS) (h : zH), zx 243 1021 ls st h = zgo 243 (zpure (.if_icmp .ne 47) 1024 1068 [] ls st h)) ∧
  (∀ (ls : zL) (st : zS) (h : zH), zx 243 1024 ls st h = zgo 243 (zpure (.aload_n 1) 1025 0 [] ls st h)) ∧
  (∀ (ls : zL) (st : zS) (h : zH), zx 243 1025 ls st h = zgo 243 (zpure (.iconst 1) 1026 0 [] ls st h)) ∧
  (∀ (ls : zL) (st : zS) (h : zH), zx 243 1026 ls st h = zgo 243 (zpure (.bipush (-61)) 1028 0 [] ls st h)) ∧
  (∀ (ls : zL) (st : zS) (h : zH), zx 243 1028 ls st h = zgo 243 (zpure (.iconst 0) 1029 0 [] ls st h)) ∧
  (∀ (ls : zL) (st : zS) (h : zH), zx 243 1029 ls st h = zca 243 1029 1032 ls 232 5 0 (ztake 4 st) h) ∧
  (∀ (ls : zL) (st : zS) (h : zH), zx 243 1032 ls st h = zgo 243 (zpure (.sipush (-1001)) 1035 0 [] ls st h)) ∧
  (∀ (ls : zL) (st : zS) (h : zH), zx 243 1035 ls st h = zgo 243 (zpure (.if_icmp .ne 33) 1038 1068 [] ls st h)) ∧
  (∀ (ls : zL) (st : zS) (h : zH), zx 243 1038 ls st h = zgo 243 (zpure (.aload_n 1) 1039 0 [] ls st h)) ∧
  (∀ (ls : zL) (st : zS) (h : zH), zx 243 1039 ls st h = zgo 243 (zpure (.iload 6) 1041 0 [] ls st h)) ∧
  (∀ (ls : zL) (st : zS) (h : zH), zx 243 1041 ls st h = zca 243 1041 1044 ls 238 3 0 (ztake 2 st) h) ∧
  (∀ (ls : zL) (st : zS) (h : zH), zx 243 1044 ls st h = zgo 243 (zpure (.ldc2_w 127) 1047 0 [18446744073709550615] ls st h)) ∧
  (∀ (ls : zL) (st : zS) (h : zH), zx 243 1047 ls st h = zgo 243 (zpure .lcmp 1048 0 [] ls st h)) ∧
  (∀ (ls : zL) (st : zS) (h : zH), zx 243 1048 ls st h = zgo 243 (zpure (.ifCond .ne 20) 1051 1068 [] ls st h)) ∧
  (∀ (ls : zL) (st : zS) (h : zH), zx 243 1051 ls st h = zgo 243 (zpure (.aload_n 1) 1052 0 [] ls st h)) ∧
  (∀ (ls : zL) (st : zS) (h : zH), zx 243 1052 ls st h = zca 243 1052 1055 ls 73 1 6 (ztake 1 st) h) ∧
  (∀ (ls : zL) (st : zS) (h : zH), zx 243 1055 ls st h = zgo 243 (zpure (.ifCond .ne 15) 1058 1070 [] ls st h)) ∧
  (∀ (ls : zL) (st : zS) (h : zH), zx 243 1058 ls st h = zgo 243 (zpure (.aload_n 1) 1059 0 [] ls st h)) ∧
  (∀ (ls : zL) (st : zS) (h : zH), zx 243 1059 ls st h = zca 243 1059 1062 ls 237 2 0 (ztake 1 st) h) ∧
  (∀ (ls : zL) (st : zS) (h : zH), zx 243 1062 ls st h = zgo 243 (zpure (.sipush (-1001)) 1065 0 [] ls st h)) ∧
  (∀ (ls : zL) (st : zS) (h : zH), zx 243 1065 ls st h = zgo 243 (zpure (.if_icmp .eq 5) 1068 1070 [] ls st h)) ∧
  (∀ (ls : zL) (st : zS) (h : zH), zx 243 1068 ls st h = zgo 243 (zpure (.iconst 0) 1069 0 [] ls st h)) ∧
  (∀ (ls : zL) (st : zS) (h : zH), zx 243 1069 ls st h = zret 1 st h) :=
  ⟨zx_0 rfl, zx_0 rfl, zx_2c rfl, zx_0 rfl, zx_0 rfl, zx_0 rfl, zx_0 rfl, zx_0 rfl, zx_0 rfl, zx_0 rfl, zx_2c rfl, zx_0 rfl, zx_0 rfl, zx_0 rfl, zx_0 rfl, zx_0 rfl, zx_0 rfl, zx_0 rfl, zx_2c rfl, zx_0 rfl, zx_0 rfl, zx_0 rfl, zx_0 rfl, zx_0 rfl, zx_0 rfl, zx_0 rfl, zx_0 rfl, zx_0 rfl, zx_2c rfl, zx_0 rfl, zx_0 rfl, zx_0 rfl, zx_0 rfl, zx_2c rfl, zx_0 rfl, zx_0 rfl, zx_0 rfl, zx_0 rfl, zx_0 rfl, zx_2c rfl, zx_0 rfl, zx_0 rfl, zx_0 rfl, zx_0 rfl, zx_0 rfl, zx_0 rfl, zx_0 rfl, zx_2c rfl, zx_0 rfl, zx_0 rfl, zx_0 rfl, zx_0 rfl, zx_0 rfl, zx_2c rfl, zx_0 rfl, zx_0 rfl, zx_0 rfl, zx_0 rfl, zx_2c rfl, zx_0 rfl, zx_2c rfl, zx_0 rfl, zx_0 rfl, zx_0 rfl, zx_0 rfl, zx_0 rfl, zx_2c rfl, zx_0 rfl, zx_0 rfl, zx_0 rfl, zx_0 rfl, zx_0 rfl, zx_0 rfl, zx_2c rfl, zx_0 rfl, zx_0 rfl, zx_0 rfl, zx_0 rfl, zx_0 rfl, zx_0 rfl, zx_2c rfl, zx_0 rfl, zx_0 rfl, zx_0 rfl, zx_0 rfl, zx_2c rfl, zx_0 rfl, zx_0 rfl, zx_0 rfl, zx_0 rfl, zx_2c rfl, zx_0 rfl, zx_0 rfl, zx_2c rfl, zx_0 rfl, zx_0 rfl, zx_0 rfl, zx_1 rfl⟩
theorem y243_19 :
  (∀ (ls : zL) (st : zS) (h : zH), zx 243 1070 ls st h = zgo 243 (zpure (.aload_n 1) 1071 0 [] ls st h)) ∧
  (∀ (ls : zL) (st : zS) (h : zH), zx 243 1071 ls st h = zca 243 1071 1074 ls 240 4 0 (ztake 1 st) h) ∧
  (∀ (ls : zL) (st : zS) (h : zH), zx 243 1074 ls st h = zgo 243 (zpure (.lload_n 3) 1075 0 [] ls st h)) ∧
  (∀ (ls : zL) (st : zS) (h : zH), zx 243 1075 ls st h = zgo 243 (zpure .lcmp 1076 0 [] ls st h)) ∧
  (∀ (ls : zL) (st : zS) (h : zH), zx 243 1076 ls st h = zgo 243 (zpure (.ifCond .ne 7) 1079 1083 [] ls st h)) ∧
  (∀ (ls : zL) (st : zS) (h : zH), zx 243 1079 ls st h = zgo 243 (zpure (.iconst 1) 1080 0 [] ls st h)) ∧
  (∀ (ls : zL) (st : zS) (h : zH), zx 243 1080 ls st h = zgo 243 (zpure (.goto 4) 1083 1084 [] ls st h)) ∧
  (∀ (ls : zL) (st : zS) (h : zH), zx 243 1083 ls st h = zgo 243 (zpure (.iconst 0) 1084 0 [] ls st h)) ∧
  (∀ (ls : zL) (st : zS) (h : zH), zx 243 1084 ls st h = zret 1 st h) :=
  ⟨zx_0 rfl, zx_2c rfl, zx_0 rfl, zx_0 rfl, zx_0 rfl, zx_0 rfl, zx_0 rfl, zx_0 rfl, zx_1 rfl⟩
abbrev lwE (st : Int) (s : Int64) (ev cl : Int) (x7 x8 x9 x10 x11 x12 x13 x14 x15 : Option Value) : zL := [some (.ref 0), some (.ref 3), some (.int (Int32.ofInt st)), some (.long s), none, some (.int (Int32.ofInt ev)), some (.int (Int32.ofInt cl)), x7, x8, x9, x10, x11, x12, x13, x14, x15]
section WRP
variable {L : Nat} {xs : Nat → Int32} {c n : Nat} {G : zD} {H : zH} {o : Option (zR × zH)} {τ v : Int} {P : zD → Int → Prop}
theorem wS.f1 (q : wS o L xs c n G τ P) (h : τ = 1) : ∃ H1, o = some (.inl (some (.int (Int32.ofInt (-1001)))), H1) ∧ St L xs c (n + 1) G H1 := by
  obtain ⟨v, H1, e, ⟨t0, -⟩ | ⟨ht, hv, p1⟩⟩ := q
  · omega
  · refine ⟨H1, ?_, p1⟩
    rw [e, show v = -1001 by omega]
theorem wS.f2 (q : wS o L xs c n G τ P) (h : τ = 2) : ∃ H1, o = some (.inl (some (.int (Int32.ofInt (-1002)))), H1) ∧ St L xs c (n + 1) G H1 := by
  obtain ⟨v, H1, e, ⟨t0, -⟩ | ⟨ht, hv, p1⟩⟩ := q
  · omega
  · refine ⟨H1, ?_, p1⟩
    rw [e, show v = -1002 by omega]
theorem wQ.f1 (q : wQ o L xs c n G (wv τ v)) (h : τ = 1) : ∃ H1, o = some (.inl (some (.int (Int32.ofInt (-1001)))), H1) ∧ St L xs c (n + 1) G H1 := by
  rw [wv1 h] at q
  exact q
set_option maxRecDepth 20000 in
set_option maxRecDepth 20000 in
theorem lf_2 {st : Int} {s : Int64} {x7 x8 x9 x10 x11 x12 x13 x14 x15 : Option Value} (hc : c ≤ 80) (p : St L xs c n G H) : ∃ H1, zx 243 628 (lwE st s (G 32 15) (G 32 7) x7 x8 x9 x10 x11 x12 x13 x14 x15) [] H = zx 243 858 (lwE st s (G 32 15) (G 32 7) x7 x8 x9 x10 x11 x12 x13 x14 x15) [.ref 3] H1 ∧ St L xs c (n + 15) G H1 := by
  have b := p.G7
  obtain ⟨H1, e1, p⟩ := (w222a (len := 0) (lev := 0) (pl := 0) (fi := 0) (ld := 0) p hc ⟨by omega, by omega⟩ ⟨by omega, by omega⟩ ⟨by omega, by omega⟩ ⟨by omega, by omega⟩ ⟨by omega, by omega⟩ (by omega)).f1 (by unfold mApgT; rw [if_neg (by omega)])
  obtain ⟨H2, e2, p⟩ := (w222a (len := 901) (lev := 0) (pl := 0) (fi := 0) (ld := 0) p hc ⟨by omega, by omega⟩ ⟨by omega, by omega⟩ ⟨by omega, by omega⟩ ⟨by omega, by omega⟩ ⟨by omega, by omega⟩ (by omega)).f1 (by unfold mApgT; rw [if_neg (by omega)])
  obtain ⟨H3, e3, p⟩ := (w222b (len := 1) (lev := 1) (pl := -1) (fi := 0) (ld := 0) p hc ⟨by omega, by omega⟩ ⟨by omega, by omega⟩ ⟨by omega, by omega⟩ ⟨by omega, by omega⟩ ⟨by omega, by omega⟩ (by omega)).f1 (by unfold mApcT; rw [if_neg (by omega)])
  obtain ⟨H4, e4, p⟩ := (w222b (len := 1) (lev := -61) (pl := -1) (fi := 0) (ld := 0) p hc ⟨by omega, by omega⟩ ⟨by omega, by omega⟩ ⟨by omega, by omega⟩ ⟨by omega, by omega⟩ ⟨by omega, by omega⟩ (by omega)).f1 (by unfold mApcT; rw [if_neg (by omega)])
  obtain ⟨H5, e5, p⟩ := (w222a (len := 1) (lev := 0) (pl := 100) (fi := 0) (ld := 0) p hc ⟨by omega, by omega⟩ ⟨by omega, by omega⟩ ⟨by omega, by omega⟩ ⟨by omega, by omega⟩ ⟨by omega, by omega⟩ (by omega)).f1 (by unfold mApgT; rw [if_neg (by omega)])
  obtain ⟨H6, e6, p⟩ := (w222a (len := 1) (lev := 0) (pl := 0) (fi := 5) (ld := 4) p hc ⟨by omega, by omega⟩ ⟨by omega, by omega⟩ ⟨by omega, by omega⟩ ⟨by omega, by omega⟩ ⟨by omega, by omega⟩ (by omega)).f1 (by unfold mApgT; rw [if_neg (by omega)])
  obtain ⟨H7, e7, p⟩ := (w222b (len := 1) (lev := 0) (pl := -1) (fi := 0) (ld := 1000) p hc ⟨by omega, by omega⟩ ⟨by omega, by omega⟩ ⟨by omega, by omega⟩ ⟨by omega, by omega⟩ ⟨by omega, by omega⟩ (by omega)).f1 (by unfold mApcT; rw [if_neg (by omega)])
  obtain ⟨H8, e8, p⟩ := (w223b (x := G 32 7) (m := 0) p hc ⟨by omega, by omega⟩ ⟨by omega, by omega⟩).f1 (by unfold mApT; rw [if_neg (by omega)])
  obtain ⟨H9, e9, p⟩ := (w223a (x := -1) p ⟨by omega, by omega⟩).f1 (by unfold mPlT; rw [if_neg (by omega)])
  obtain ⟨H10, e10, p⟩ := (w224 (x := 0) (cl := G 32 7) (md := 120) (st := -1) p hc ⟨by omega, by omega⟩ ⟨by omega, by omega⟩ ⟨by omega, by omega⟩ ⟨by omega, by omega⟩).f1 (by unfold qIn; rw [if_neg (by omega)])
  obtain ⟨H11, e11, p⟩ := (w224 (x := G 32 15 + 1) (cl := 0) (md := 102) (st := 0) p hc ⟨by omega, by omega⟩ ⟨by omega, by omega⟩ ⟨by omega, by omega⟩ ⟨by omega, by omega⟩).f1 (by unfold qIn; rw [if_neg (by omega)])
  obtain ⟨H12, e12, p⟩ := (w224 (x := -1) (cl := 0) (md := 102) (st := 0) p hc ⟨by omega, by omega⟩ ⟨by omega, by omega⟩ ⟨by omega, by omega⟩ ⟨by omega, by omega⟩).f1 (by unfold qIn; rw [if_neg (by omega)])
  obtain ⟨H13, e13, p⟩ := (w225a (x := G 32 15) (t := 0) p hc ⟨by omega, by omega⟩ ⟨by omega, by omega⟩).f1 (by unfold qEv; rw [if_neg (by omega)])
  obtain ⟨H14, e14, p⟩ := (w225b (x := -1) (t := 0) p hc ⟨by omega, by omega⟩ ⟨by omega, by omega⟩).f1 (by unfold qMv; rw [if_neg (by omega)])
  obtain ⟨H15, e15, p⟩ := (w225b (x := 0) (t := G 32 15) p hc ⟨by omega, by omega⟩ ⟨by omega, by omega⟩).f1 (by unfold qMv; rw [if_neg (by omega)])
  refine ⟨H15, ?_, p⟩
  clear p
  generalize G 32 15 = n15 at *
  generalize G 32 7 = n7 at *
  simp (disch := first | omega | (simp (disch := omega) only [zwr_s, zwr_a, zwr_i, zn_put, zn_new, zn_fil, zn_chg, zV_n]; omega)) only [zentry, zs0, zs1, zs2, zs3, zg_lo, zg_st, zg_st2, zg_ald, zg_ast, zs_ia, zs_i0, zg_ii, zi_max, zi_min, zi_abi, zi_abf, zi_fb, zi_bf, lget, lst, lst2, lc2, Option.map_some, zso, if_true, if_false, zc1, and_true, true_and, and_self, List.length_nil, List.length_cons, Nat.zero_le, reduceIte, reduceCtorEq, false_and, and_false, Bool.false_eq_true, zca_some, zr0, zr100, Option.bind_some, zb_none, zb_some, zrc, or_true, true_or, eq_self, ne_eq, not_true_eq_false, not_false_eq_true, zrt_i, zrt_zb, zrt_b, zrt_c, zrt_l, zrt_f, zrt_r, zrt_n, zrt_v, zft_0, zft_1, zft_zb, zft_3, zft_4, zft_5, zft_7r, zft_7n, iI_t, zb_i, zb_0, zb_1, Nat.reduceAdd, Nat.reduceLeDiff, Nat.reduceEqDiff, Nat.reduceSub, Int.reduceNeg, iI_add, iI_sub, iI_mul, iI_neg, zbz, zchar_id, zin, zwr_s, zwr_a, zwr_i, if_pos, if_neg, Int.toNat_natCast, Int.natCast_zero, Int.reduceToNat, y243_17, zt3, zt4, zt5, zt6, e1, e2, e3, e4, e5, e6, e7, e8, e9, e10, e11, e12, e13, e14, e15]
set_option maxRecDepth 20000 in
set_option maxRecDepth 20000 in
theorem lf_3 {st : Int} {s : Int64} {x7 x8 x9 x10 x11 x12 x13 x14 x15 : Option Value} (hc : c ≤ 80) (p : St L xs c n G H) : ∃ H1, zx 243 858 (lwE st s (G 32 15) (G 32 7) x7 x8 x9 x10 x11 x12 x13 x14 x15) [.ref 3] H = zx 243 1070 (lwE st s (G 32 15) (G 32 7) x7 x8 x9 x10 x11 x12 x13 x14 x15) [] H1 ∧ St L xs c (n + 30) G H1 := by
  have b := p.G7
  have hO := p.ok.1
  have hH := p.ok.2.1
  have b30 := hO.2.2.2.2.1
  have b31 := p.ok.2.2.1
  have hE : G 32 15 = 0 ∨ (0 < G 32 15 ∧ G 57 0 ≤ 3) := by
    by_cases g : G 32 15 = 0
    · exact Or.inl g
    · exact Or.inr ⟨by omega, (hH 0 (by omega)).1.2⟩
  obtain ⟨H1, e1, p⟩ := (w226 (x := G 32 15) (s := 901) p hc ⟨by omega, by omega⟩ ⟨by omega, by omega⟩).f1 (by unfold mSoT; rw [if_neg (by omega)])
  obtain ⟨H2, e2, p2⟩ : ∃ H2, (G 32 15 = 0 ∧ H2 = H1 ∨ 0 < G 32 15 ∧ zc 226 4 [.ref 3, .int (Int32.ofInt 0), .int (Int32.ofInt 901)] H1 = some (.inl (some (.int (Int32.ofInt (-1002)))), H2)) ∧ St L xs c (n + 2) G H2 := by
    rcases hE with g | g
    · exact ⟨H1, Or.inl ⟨g, rfl⟩, p.le (by omega)⟩
    · obtain ⟨H2, e, p2⟩ := (w226 (x := 0) (s := 901) p hc ⟨by omega, by omega⟩ ⟨by omega, by omega⟩).f2 (by unfold mSoT; rw [if_pos (by omega), if_neg (by omega)])
      exact ⟨H2, Or.inr ⟨g.1, e⟩, p2⟩
  obtain ⟨H3, e3, p3⟩ := (w227 (x := G 32 15) (sd := 120) (o := 0) (l := 0) p2 hc ⟨by omega, by omega⟩ ⟨by omega, by omega⟩ ⟨by omega, by omega⟩ ⟨by omega, by omega⟩).f1 (by unfold qAt; rw [if_neg (by omega)])
  obtain ⟨H4, e4, p4⟩ : ∃ H4, (G 32 15 = 0 ∧ H4 = H3 ∨ 0 < G 32 15 ∧ zc 227 6 [.ref 3, .int (Int32.ofInt 0), .int (Int32.ofInt 120), .int (Int32.ofInt 0), .int (Int32.ofInt 1)] H3 = some (.inl (some (.int (Int32.ofInt (-1002)))), H4)) ∧ St L xs c (n + 4) G H4 := by
    rcases hE with g | g
    · exact ⟨H3, Or.inl ⟨g, rfl⟩, p3.le (by omega)⟩
    · obtain ⟨H2, e, p2⟩ := (w227 (x := 0) (sd := 120) (o := 0) (l := 1) p3 hc ⟨by omega, by omega⟩ ⟨by omega, by omega⟩ ⟨by omega, by omega⟩ ⟨by omega, by omega⟩).f2 (by unfold qAt; rw [if_pos (by omega), if_neg (by unfold sdOk; omega)])
      exact ⟨H2, Or.inr ⟨g.1, e⟩, p2⟩
  obtain ⟨H5, e5, p5⟩ := w228 (x := -1) p4 ⟨by omega, by omega⟩
  rw [if_neg (by unfold qEv; rw [if_neg (by omega)]; omega)] at e5
  obtain ⟨H6, e6, p6⟩ := (w229b (x := G 32 15) p5 ⟨by omega, by omega⟩).f1 (by unfold qAi; rw [if_neg (by omega)])
  obtain ⟨H7, e7, p7⟩ : ∃ H7, (G 32 15 = 0 ∧ H7 = H6 ∨ 0 < G 32 15 ∧ zc 229 4 [.ref 3, .int (Int32.ofInt 0), .int (Int32.ofInt 3)] H6 = some (.inl (some (.int (Int32.ofInt (-1001)))), H7)) ∧ St L xs c (n + 7) G H7 := by
    rcases hE with g | g
    · exact ⟨H6, Or.inl ⟨g, rfl⟩, p6.le (by omega)⟩
    · obtain ⟨H2, e, p2⟩ := (w229c (x := 0) (i := 3) p6 ⟨by omega, by omega⟩ (by omega)).f1 (by
        unfold qSs
        rw [if_neg]
        intro q
        have := q.2.2
        rw [show (0 : Int).toNat = 0 from rfl] at this
        omega)
      exact ⟨H2, Or.inr ⟨g.1, e⟩, p2⟩
  obtain ⟨H8, e8, p8⟩ := (w230_0 (x := -1) p7 ⟨by omega, by omega⟩).f1 (by unfold qSp; rw [if_neg (by omega)])
  obtain ⟨-, H9, e9, p9⟩ := p8.x73
  obtain ⟨H10, e10, p10⟩ := (w230_4 (x := G 32 30) p9 ⟨by omega, by omega⟩).f1 (by unfold mEnT; rw [if_neg (by omega)])
  obtain ⟨H11, e11, p11⟩ := (w231_1 (x := 3600) p10 ⟨by omega, by omega⟩).f1 (by unfold qSec; rw [if_neg (by omega)])
  obtain ⟨H12, e12, p12⟩ := (w232a (gap := 3601) (lev := 0) p11 ⟨by omega, by omega⟩ ⟨by omega, by omega⟩).f1 (by unfold mAsT; rw [if_neg (by unfold okGap; omega)])
  have m1 : mAsT G 1 (-61) = 1 := by unfold mAsT; rw [if_neg (by unfold okGap; omega)]
  obtain ⟨H13, e13, p13⟩ := (w232c (gap := 1) (lev := -61) (ix := 0) p12 ⟨by omega, by omega⟩ ⟨by omega, by omega⟩ ⟨by omega, by omega⟩).f1 (by unfold mFaT; rw [if_neg (by omega), m1])
  obtain ⟨H14, e14, p14⟩ := w238 (x := G 32 7) p13 ⟨by omega, by omega⟩
  rw [if_neg (by unfold mAiT; rw [if_neg (by omega)]; omega)] at e14
  obtain ⟨-, H15, e15, p15⟩ := p14.x73
  obtain ⟨v, H16, e16, p16, hv⟩ := w237 p15
  have k7 := p8.k3
  have k14 := p14.k3
  have hlt : (Int64.ofNat 18446744073709550615 < Int64.ofNat 18446744073709550615) = False := eq_false (by decide +kernel)
  have h0 : (0 : Int32).toInt = 0 := rfl
  by_cases g30 : G 32 30 = 0
  · have ev : v = -1001 := by omega
    subst ev
    refine ⟨H16, ?_, p16.le (by omega)⟩
    clear p p2 p3 p4 p5 p6 p7 p8 p9 p10 p11 p12 p13 p14 p15 p16 hO hH hv m1 b31 hE
    rw [g30] at e9 e10 e15
    generalize hn15 : G 32 15 = n15 at *
    generalize G 32 7 = n7 at *
    rcases e2 with ⟨z, rfl⟩ | ⟨z, e2⟩
    · rcases e4 with ⟨-, rfl⟩ | ⟨z2, -⟩
      · rcases e7 with ⟨-, rfl⟩ | ⟨z2, -⟩
        · subst z
          simp (disch := first | omega | (simp (disch := omega) only [zwr_s, zwr_a, zwr_i, zn_put, zn_new, zn_fil, zn_chg, zV_n]; omega)) only [zentry, zs0, zs1, zs2, zs3, zg_lo, zg_st, zg_st2, zg_ald, zg_ast, zs_ia, zs_i0, zg_ii, zi_max, zi_min, zi_abi, zi_abf, zi_fb, zi_bf, lget, lst, lst2, lc2, Option.map_some, zso, if_true, if_false, zc1, and_true, true_and, and_self, List.length_nil, List.length_cons, Nat.zero_le, reduceIte, reduceCtorEq, false_and, and_false, Bool.false_eq_true, zca_some, zr0, zr100, Option.bind_some, zb_none, zb_some, zrc, or_true, true_or, eq_self, ne_eq, not_true_eq_false, not_false_eq_true, zrt_i, zrt_zb, zrt_b, zrt_c, zrt_l, zrt_f, zrt_r, zrt_n, zrt_v, zft_0, zft_1, zft_zb, zft_3, zft_4, zft_5, zft_7r, zft_7n, iI_t, zb_i, zb_0, zb_1, Nat.reduceAdd, Nat.reduceLeDiff, Nat.reduceEqDiff, Nat.reduceSub, Int.reduceNeg, iI_add, iI_sub, iI_mul, iI_neg, zbz, zchar_id, zin, zwr_s, zwr_a, zwr_i, if_pos, if_neg, Int.toNat_natCast, Int.natCast_zero, Int.reduceToNat, y243_18, zt1, zt2, zt3, zt4, zt5, zg_ldc2, k7, k14, hlt, h0, e1, e3, e5, e6, e8, e9, e10, e11, e12, e13, e14, e15, e16]
        · omega
      · omega
    · rcases e4 with ⟨z2, -⟩ | ⟨-, e4⟩
      · omega
      · rcases e7 with ⟨z2, -⟩ | ⟨-, e7⟩
        · omega
        · simp (disch := first | omega | (simp (disch := omega) only [zwr_s, zwr_a, zwr_i, zn_put, zn_new, zn_fil, zn_chg, zV_n]; omega)) only [zentry, zs0, zs1, zs2, zs3, zg_lo, zg_st, zg_st2, zg_ald, zg_ast, zs_ia, zs_i0, zg_ii, zi_max, zi_min, zi_abi, zi_abf, zi_fb, zi_bf, lget, lst, lst2, lc2, Option.map_some, zso, if_true, if_false, zc1, and_true, true_and, and_self, List.length_nil, List.length_cons, Nat.zero_le, reduceIte, reduceCtorEq, false_and, and_false, Bool.false_eq_true, zca_some, zr0, zr100, Option.bind_some, zb_none, zb_some, zrc, or_true, true_or, eq_self, ne_eq, not_true_eq_false, not_false_eq_true, zrt_i, zrt_zb, zrt_b, zrt_c, zrt_l, zrt_f, zrt_r, zrt_n, zrt_v, zft_0, zft_1, zft_zb, zft_3, zft_4, zft_5, zft_7r, zft_7n, iI_t, zb_i, zb_0, zb_1, Nat.reduceAdd, Nat.reduceLeDiff, Nat.reduceEqDiff, Nat.reduceSub, Int.reduceNeg, iI_add, iI_sub, iI_mul, iI_neg, zbz, zchar_id, zin, zwr_s, zwr_a, zwr_i, if_pos, if_neg, Int.toNat_natCast, Int.natCast_zero, Int.reduceToNat, y243_18, zt1, zt2, zt3, zt4, zt5, zg_ldc2, k7, k14, hlt, h0, e1, e2, e3, e4, e5, e6, e7, e8, e9, e10, e11, e12, e13, e14, e15, e16]
  · refine ⟨H15, ?_, p15.le (by omega)⟩
    clear p p2 p3 p4 p5 p6 p7 p8 p9 p10 p11 p12 p13 p14 p15 p16 hO hH hv m1 b31 hE e16
    generalize hn15 : G 32 15 = n15 at *
    generalize G 32 7 = n7 at *
    generalize G 32 30 = n30 at *
    rcases e2 with ⟨z, rfl⟩ | ⟨z, e2⟩
    · rcases e4 with ⟨-, rfl⟩ | ⟨z2, -⟩
      · rcases e7 with ⟨-, rfl⟩ | ⟨z2, -⟩
        · subst z
          simp (disch := first | omega | (simp (disch := omega) only [zwr_s, zwr_a, zwr_i, zn_put, zn_new, zn_fil, zn_chg, zV_n]; omega)) only [zentry, zs0, zs1, zs2, zs3, zg_lo, zg_st, zg_st2, zg_ald, zg_ast, zs_ia, zs_i0, zg_ii, zi_max, zi_min, zi_abi, zi_abf, zi_fb, zi_bf, lget, lst, lst2, lc2, Option.map_some, zso, if_true, if_false, zc1, and_true, true_and, and_self, List.length_nil, List.length_cons, Nat.zero_le, reduceIte, reduceCtorEq, false_and, and_false, Bool.false_eq_true, zca_some, zr0, zr100, Option.bind_some, zb_none, zb_some, zrc, or_true, true_or, eq_self, ne_eq, not_true_eq_false, not_false_eq_true, zrt_i, zrt_zb, zrt_b, zrt_c, zrt_l, zrt_f, zrt_r, zrt_n, zrt_v, zft_0, zft_1, zft_zb, zft_3, zft_4, zft_5, zft_7r, zft_7n, iI_t, zb_i, zb_0, zb_1, Nat.reduceAdd, Nat.reduceLeDiff, Nat.reduceEqDiff, Nat.reduceSub, Int.reduceNeg, iI_add, iI_sub, iI_mul, iI_neg, zbz, zchar_id, zin, zwr_s, zwr_a, zwr_i, if_pos, if_neg, Int.toNat_natCast, Int.natCast_zero, Int.reduceToNat, y243_18, zt1, zt2, zt3, zt4, zt5, zg_ldc2, k7, k14, hlt, h0, e1, e3, e5, e6, e8, e9, e10, e11, e12, e13, e14, e15]
        · omega
      · omega
    · rcases e4 with ⟨z2, -⟩ | ⟨-, e4⟩
      · omega
      · rcases e7 with ⟨z2, -⟩ | ⟨-, e7⟩
        · omega
        · simp (disch := first | omega | (simp (disch := omega) only [zwr_s, zwr_a, zwr_i, zn_put, zn_new, zn_fil, zn_chg, zV_n]; omega)) only [zentry, zs0, zs1, zs2, zs3, zg_lo, zg_st, zg_st2, zg_ald, zg_ast, zs_ia, zs_i0, zg_ii, zi_max, zi_min, zi_abi, zi_abf, zi_fb, zi_bf, lget, lst, lst2, lc2, Option.map_some, zso, if_true, if_false, zc1, and_true, true_and, and_self, List.length_nil, List.length_cons, Nat.zero_le, reduceIte, reduceCtorEq, false_and, and_false, Bool.false_eq_true, zca_some, zr0, zr100, Option.bind_some, zb_none, zb_some, zrc, or_true, true_or, eq_self, ne_eq, not_true_eq_false, not_false_eq_true, zrt_i, zrt_zb, zrt_b, zrt_c, zrt_l, zrt_f, zrt_r, zrt_n, zrt_v, zft_0, zft_1, zft_zb, zft_3, zft_4, zft_5, zft_7r, zft_7n, iI_t, zb_i, zb_0, zb_1, Nat.reduceAdd, Nat.reduceLeDiff, Nat.reduceEqDiff, Nat.reduceSub, Int.reduceNeg, iI_add, iI_sub, iI_mul, iI_neg, zbz, zchar_id, zin, zwr_s, zwr_a, zwr_i, if_pos, if_neg, Int.toNat_natCast, Int.natCast_zero, Int.reduceToNat, y243_18, zt1, zt2, zt3, zt4, zt5, zg_ldc2, k7, k14, hlt, h0, e1, e2, e3, e4, e5, e6, e7, e8, e9, e10, e11, e12, e13, e14, e15]
set_option maxRecDepth 20000 in
set_option maxRecDepth 20000 in
theorem lf_all {st k : Int} {x4 x5 x6 x7 x8 x9 x10 x11 x12 x13 x14 x15 : Option Value} (hst : 0 ≤ st ∧ st ≤ 60) (hc : c ≤ 80) (p : St L xs c n G H) : ∃ H1, zx 243 601 (lwL st k x4 x5 x6 x7 x8 x9 x10 x11 x12 x13 x14 x15) [] H = some (.inl (some (.int (Int32.ofInt 1))), H1) ∧ St L xs c (n + 3000) G H1 := by
  obtain ⟨H1, e1, p1⟩ := w241 (w := st) ⟨hst.1, by omega⟩ p
  obtain ⟨s, hs⟩ := w240 p
  obtain ⟨H2, e2, p2⟩ := hs _ _ H1 p1
  obtain ⟨-, H3, e3, p3⟩ := p2.x51
  obtain ⟨H4, e4, p4⟩ := w239 p3
  obtain ⟨H5, e5, p5⟩ := lf_2 (st := st) (s := s) (x7 := x7) (x8 := x8) (x9 := x9) (x10 := x10) (x11 := x11) (x12 := x12) (x13 := x13) (x14 := x14) (x15 := x15) hc p4
  obtain ⟨H6, e6, p6⟩ := lf_3 (st := st) (s := s) (x7 := x7) (x8 := x8) (x9 := x9) (x10 := x10) (x11 := x11) (x12 := x12) (x13 := x13) (x14 := x14) (x15 := x15) hc p5
  obtain ⟨H7, e7, p7⟩ := hs _ _ H6 p6
  refine ⟨H7, ?_, p7.le (by omega)⟩
  have k2 := p2.k3
  have b := p.G7
  clear p p1 p2 p3 p4 p5 p6 p7 hs
  have f1 : zx 243 601 (lwL st k x4 x5 x6 x7 x8 x9 x10 x11 x12 x13 x14 x15) [] H = zx 243 628 (lwE st s (G 32 15) (G 32 7) x7 x8 x9 x10 x11 x12 x13 x14 x15) [] H4 := by
    clear e5 e6 e7
    generalize G 32 15 = n15 at *
    generalize G 32 7 = n7 at *
    simp (disch := first | omega | (simp (disch := omega) only [zwr_s, zwr_a, zwr_i, zn_put, zn_new, zn_fil, zn_chg, zV_n]; omega)) only [zentry, zs0, zs1, zs2, zs3, zg_lo, zg_st, zg_st2, zg_ald, zg_ast, zs_ia, zs_i0, zg_ii, zi_max, zi_min, zi_abi, zi_abf, zi_fb, zi_bf, lget, lst, lst2, lc2, Option.map_some, zso, if_true, if_false, zc1, and_true, true_and, and_self, List.length_nil, List.length_cons, Nat.zero_le, reduceIte, reduceCtorEq, false_and, and_false, Bool.false_eq_true, zca_some, zr0, zr100, Option.bind_some, zb_none, zb_some, zrc, or_true, true_or, eq_self, ne_eq, not_true_eq_false, not_false_eq_true, zrt_i, zrt_zb, zrt_b, zrt_c, zrt_l, zrt_f, zrt_r, zrt_n, zrt_v, zft_0, zft_1, zft_zb, zft_3, zft_4, zft_5, zft_7r, zft_7n, iI_t, zb_i, zb_0, zb_1, Nat.reduceAdd, Nat.reduceLeDiff, Nat.reduceEqDiff, Nat.reduceSub, Int.reduceNeg, iI_add, iI_sub, iI_mul, iI_neg, zbz, zchar_id, zin, zwr_s, zwr_a, zwr_i, if_pos, if_neg, Int.toNat_natCast, Int.natCast_zero, Int.reduceToNat, y243_16, zt1, zt2, k2, e1, e2, e3, e4]
  rw [f1, e5, e6]
  clear f1 e1 e2 e3 e4 e5 e6
  have h0 : (s < s) = False := eq_false (by rw [Int64.lt_iff_toInt_lt]; omega)
  have h1 : (0 : Int32).toInt = 0 := rfl
  simp (disch := first | omega | (simp (disch := omega) only [zwr_s, zwr_a, zwr_i, zn_put, zn_new, zn_fil, zn_chg, zV_n]; omega)) only [zentry, zs0, zs1, zs2, zs3, zg_lo, zg_st, zg_st2, zg_ald, zg_ast, zs_ia, zs_i0, zg_ii, zi_max, zi_min, zi_abi, zi_abf, zi_fb, zi_bf, lget, lst, lst2, lc2, Option.map_some, zso, if_true, if_false, zc1, and_true, true_and, and_self, List.length_nil, List.length_cons, Nat.zero_le, reduceIte, reduceCtorEq, false_and, and_false, Bool.false_eq_true, zca_some, zr0, zr100, Option.bind_some, zb_none, zb_some, zrc, or_true, true_or, eq_self, ne_eq, not_true_eq_false, not_false_eq_true, zrt_i, zrt_zb, zrt_b, zrt_c, zrt_l, zrt_f, zrt_r, zrt_n, zrt_v, zft_0, zft_1, zft_zb, zft_3, zft_4, zft_5, zft_7r, zft_7n, iI_t, zb_i, zb_0, zb_1, Nat.reduceAdd, Nat.reduceLeDiff, Nat.reduceEqDiff, Nat.reduceSub, Int.reduceNeg, iI_add, iI_sub, iI_mul, iI_neg, zbz, zchar_id, zin, zwr_s, zwr_a, zwr_i, if_pos, if_neg, Int.toNat_natCast, Int.natCast_zero, Int.reduceToNat, y243_19, zt1, e7, h0, h1]
end WRP
