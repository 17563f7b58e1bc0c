theorem dX5_init_643 : decode cX5_init 643 = .ok (.sipush 1109, 3) := by decide +kernel
theorem dX5_init_646 : decode cX5_init 646 = .ok (.iastore, 1) := by decide +kernel
theorem dX5_init_647 : decode cX5_init 647 = .ok (.dup, 1) := by decide +kernel
theorem dX5_init_648 : decode cX5_init 648 = .ok (.bipush 95, 2) := by decide +kernel
theorem dX5_init_650 : decode cX5_init 650 = .ok (.iconst 1, 1) := by decide +kernel
theorem dX5_init_651 : decode cX5_init 651 = .ok (.iastore, 1) := by decide +kernel
theorem dX5_init_652 : decode cX5_init 652 = .ok (.dup, 1) := by decide +kernel
theorem dX5_init_653 : decode cX5_init 653 = .ok (.bipush 96, 2) := by decide +kernel
theorem dX5_init_655 : decode cX5_init 655 = .ok (.sipush 1110, 3) := by decide +kernel
theorem dX5_init_658 : decode cX5_init 658 = .ok (.iastore, 1) := by decide +kernel
theorem dX5_init_659 : decode cX5_init 659 = .ok (.dup, 1) := by decide +kernel
theorem dX5_init_660 : decode cX5_init 660 = .ok (.bipush 97, 2) := by decide +kernel
theorem dX5_init_662 : decode cX5_init 662 = .ok (.sipush 1003, 3) := by decide +kernel
theorem dX5_init_665 : decode cX5_init 665 = .ok (.iastore, 1) := by decide +kernel
theorem dX5_init_666 : decode cX5_init 666 = .ok (.dup, 1) := by decide +kernel
theorem dX5_init_667 : decode cX5_init 667 = .ok (.bipush 98, 2) := by decide +kernel
theorem dX5_init_669 : decode cX5_init 669 = .ok (.sipush 1000, 3) := by decide +kernel
theorem dX5_init_672 : decode cX5_init 672 = .ok (.iastore, 1) := by decide +kernel
theorem dX5_init_673 : decode cX5_init 673 = .ok (.dup, 1) := by decide +kernel
theorem dX5_init_674 : decode cX5_init 674 = .ok (.bipush 99, 2) := by decide +kernel
theorem dX5_init_676 : decode cX5_init 676 = .ok (.sipush 2063, 3) := by decide +kernel
theorem dX5_init_679 : decode cX5_init 679 = .ok (.iastore, 1) := by decide +kernel
theorem dX5_init_680 : decode cX5_init 680 = .ok (.dup, 1) := by decide +kernel
theorem dX5_init_681 : decode cX5_init 681 = .ok (.bipush 100, 2) := by decide +kernel
theorem dX5_init_683 : decode cX5_init 683 = .ok (.sipush 1003, 3) := by decide +kernel
theorem dX5_init_686 : decode cX5_init 686 = .ok (.iastore, 1) := by decide +kernel
theorem dX5_init_687 : decode cX5_init 687 = .ok (.dup, 1) := by decide +kernel
theorem dX5_init_688 : decode cX5_init 688 = .ok (.bipush 101, 2) := by decide +kernel
theorem dX5_init_690 : decode cX5_init 690 = .ok (.sipush 3070, 3) := by decide +kernel
theorem dX5_init_693 : decode cX5_init 693 = .ok (.iastore, 1) := by decide +kernel
theorem dX5_init_694 : decode cX5_init 694 = .ok (.dup, 1) := by decide +kernel
theorem dX5_init_695 : decode cX5_init 695 = .ok (.bipush 102, 2) := by decide +kernel
theorem dX5_init_697 : decode cX5_init 697 = .ok (.sipush 1002, 3) := by decide +kernel
theorem dX5_init_700 : decode cX5_init 700 = .ok (.iastore, 1) := by decide +kernel
theorem dX5_init_701 : decode cX5_init 701 = .ok (.dup, 1) := by decide +kernel
theorem dX5_init_702 : decode cX5_init 702 = .ok (.bipush 103, 2) := by decide +kernel
theorem dX5_init_704 : decode cX5_init 704 = .ok (.iconst 1, 1) := by decide +kernel
theorem dX5_init_705 : decode cX5_init 705 = .ok (.iastore, 1) := by decide +kernel
theorem dX5_init_706 : decode cX5_init 706 = .ok (.dup, 1) := by decide +kernel
theorem dX5_init_707 : decode cX5_init 707 = .ok (.bipush 104, 2) := by decide +kernel
theorem dX5_init_709 : decode cX5_init 709 = .ok (.sipush 1003, 3) := by decide +kernel
theorem dX5_init_712 : decode cX5_init 712 = .ok (.iastore, 1) := by decide +kernel
theorem dX5_init_713 : decode cX5_init 713 = .ok (.dup, 1) := by decide +kernel
theorem dX5_init_714 : decode cX5_init 714 = .ok (.bipush 105, 2) := by decide +kernel
theorem dX5_init_716 : decode cX5_init 716 = .ok (.sipush 1009, 3) := by decide +kernel
theorem dX5_init_719 : decode cX5_init 719 = .ok (.iastore, 1) := by decide +kernel
theorem dX5_init_720 : decode cX5_init 720 = .ok (.dup, 1) := by decide +kernel
theorem dX5_init_721 : decode cX5_init 721 = .ok (.bipush 106, 2) := by decide +kernel
theorem dX5_init_723 : decode cX5_init 723 = .ok (.sipush 1002, 3) := by decide +kernel
theorem dX5_init_726 : decode cX5_init 726 = .ok (.iastore, 1) := by decide +kernel
theorem dX5_init_727 : decode cX5_init 727 = .ok (.dup, 1) := by decide +kernel
theorem dX5_init_728 : decode cX5_init 728 = .ok (.bipush 107, 2) := by decide +kernel
theorem dX5_init_730 : decode cX5_init 730 = .ok (.bipush 7, 2) := by decide +kernel
theorem dX5_init_732 : decode cX5_init 732 = .ok (.iastore, 1) := by decide +kernel
theorem dX5_init_733 : decode cX5_init 733 = .ok (.dup, 1) := by decide +kernel
theorem dX5_init_734 : decode cX5_init 734 = .ok (.bipush 108, 2) := by decide +kernel
theorem dX5_init_736 : decode cX5_init 736 = .ok (.sipush 1005, 3) := by decide +kernel
theorem dX5_init_739 : decode cX5_init 739 = .ok (.iastore, 1) := by decide +kernel
theorem dX5_init_740 : decode cX5_init 740 = .ok (.dup, 1) := by decide +kernel
theorem dX5_init_741 : decode cX5_init 741 = .ok (.bipush 109, 2) := by decide +kernel
theorem dX5_init_743 : decode cX5_init 743 = .ok (.sipush 1000, 3) := by decide +kernel
theorem dX5_init_746 : decode cX5_init 746 = .ok (.iastore, 1) := by decide +kernel
theorem dX5_init_747 : decode cX5_init 747 = .ok (.dup, 1) := by decide +kernel
theorem dX5_init_748 : decode cX5_init 748 = .ok (.bipush 110, 2) := by decide +kernel
theorem dX5_init_750 : decode cX5_init 750 = .ok (.sipush 1003, 3) := by decide +kernel
theorem dX5_init_753 : decode cX5_init 753 = .ok (.iastore, 1) := by decide +kernel
theorem dX5_init_754 : decode cX5_init 754 = .ok (.dup, 1) := by decide +kernel
theorem dX5_init_755 : decode cX5_init 755 = .ok (.bipush 111, 2) := by decide +kernel
theorem dX5_init_757 : decode cX5_init 757 = .ok (.sipush 3100, 3) := by decide +kernel
theorem dX5_init_760 : decode cX5_init 760 = .ok (.iastore, 1) := by decide +kernel
theorem dX5_init_761 : decode cX5_init 761 = .ok (.dup, 1) := by decide +kernel
theorem dX5_init_762 : decode cX5_init 762 = .ok (.bipush 112, 2) := by decide +kernel
theorem dX5_init_764 : decode cX5_init 764 = .ok (.sipush 1001, 3) := by decide +kernel
theorem dX5_init_767 : decode cX5_init 767 = .ok (.iastore, 1) := by decide +kernel
theorem dX5_init_768 : decode cX5_init 768 = .ok (.dup, 1) := by decide +kernel
theorem dX5_init_769 : decode cX5_init 769 = .ok (.bipush 113, 2) := by decide +kernel
theorem dX5_init_771 : decode cX5_init 771 = .ok (.sipush 1000, 3) := by decide +kernel
theorem dX5_init_774 : decode cX5_init 774 = .ok (.iastore, 1) := by decide +kernel
theorem dX5_init_775 : decode cX5_init 775 = .ok (.dup, 1) := by decide +kernel
theorem dX5_init_776 : decode cX5_init 776 = .ok (.bipush 114, 2) := by decide +kernel
theorem dX5_init_778 : decode cX5_init 778 = .ok (.sipush 1003, 3) := by decide +kernel
theorem dX5_init_781 : decode cX5_init 781 = .ok (.iastore, 1) := by decide +kernel
theorem dX5_init_782 : decode cX5_init 782 = .ok (.dup, 1) := by decide +kernel
theorem dX5_init_783 : decode cX5_init 783 = .ok (.bipush 115, 2) := by decide +kernel
theorem dX5_init_785 : decode cX5_init 785 = .ok (.sipush 3101, 3) := by decide +kernel
theorem dX5_init_788 : decode cX5_init 788 = .ok (.iastore, 1) := by decide +kernel
theorem dX5_init_789 : decode cX5_init 789 = .ok (.dup, 1) := by decide +kernel
theorem dX5_init_790 : decode cX5_init 790 = .ok (.bipush 116, 2) := by decide +kernel
theorem dX5_init_792 : decode cX5_init 792 = .ok (.sipush 1000, 3) := by decide +kernel
theorem dX5_init_795 : decode cX5_init 795 = .ok (.iastore, 1) := by decide +kernel
theorem dX5_init_796 : decode cX5_init 796 = .ok (.dup, 1) := by decide +kernel
theorem dX5_init_797 : decode cX5_init 797 = .ok (.bipush 117, 2) := by decide +kernel
theorem dX5_init_799 : decode cX5_init 799 = .ok (.iconst 2, 1) := by decide +kernel
theorem dX5_init_800 : decode cX5_init 800 = .ok (.iastore, 1) := by decide +kernel
theorem dX5_init_801 : decode cX5_init 801 = .ok (.dup, 1) := by decide +kernel
theorem dX5_init_802 : decode cX5_init 802 = .ok (.bipush 118, 2) := by decide +kernel
theorem dX5_init_804 : decode cX5_init 804 = .ok (.sipush 1003, 3) := by decide +kernel
theorem dX5_init_807 : decode cX5_init 807 = .ok (.iastore, 1) := by decide +kernel
theorem dX5_init_808 : decode cX5_init 808 = .ok (.dup, 1) := by decide +kernel
theorem dX5_init_809 : decode cX5_init 809 = .ok (.bipush 119, 2) := by decide +kernel
theorem dX5_init_811 : decode cX5_init 811 = .ok (.sipush 1209, 3) := by decide +kernel
theorem dX5_init_814 : decode cX5_init 814 = .ok (.iastore, 1) := by decide +kernel
theorem dX5_init_815 : decode cX5_init 815 = .ok (.dup, 1) := by decide +kernel
theorem dX5_init_816 : decode cX5_init 816 = .ok (.bipush 120, 2) := by decide +kernel
theorem dX5_init_818 : decode cX5_init 818 = .ok (.iconst 1, 1) := by decide +kernel
theorem dX5_init_819 : decode cX5_init 819 = .ok (.iastore, 1) := by decide +kernel
theorem dX5_init_820 : decode cX5_init 820 = .ok (.dup, 1) := by decide +kernel
theorem dX5_init_821 : decode cX5_init 821 = .ok (.bipush 121, 2) := by decide +kernel
theorem dX5_init_823 : decode cX5_init 823 = .ok (.sipush 1003, 3) := by decide +kernel
theorem dX5_init_826 : decode cX5_init 826 = .ok (.iastore, 1) := by decide +kernel
theorem dX5_init_827 : decode cX5_init 827 = .ok (.dup, 1) := by decide +kernel
theorem dX5_init_828 : decode cX5_init 828 = .ok (.bipush 122, 2) := by decide +kernel
theorem dX5_init_830 : decode cX5_init 830 = .ok (.sipush 3110, 3) := by decide +kernel
theorem dX5_init_833 : decode cX5_init 833 = .ok (.iastore, 1) := by decide +kernel
theorem dX5_init_834 : decode cX5_init 834 = .ok (.dup, 1) := by decide +kernel
theorem dX5_init_835 : decode cX5_init 835 = .ok (.bipush 123, 2) := by decide +kernel
theorem dX5_init_837 : decode cX5_init 837 = .ok (.sipush 1000, 3) := by decide +kernel
theorem dX5_init_840 : decode cX5_init 840 = .ok (.iastore, 1) := by decide +kernel
theorem dX5_init_841 : decode cX5_init 841 = .ok (.dup, 1) := by decide +kernel
theorem dX5_init_842 : decode cX5_init 842 = .ok (.bipush 124, 2) := by decide +kernel
theorem dX5_init_844 : decode cX5_init 844 = .ok (.sipush 1210, 3) := by decide +kernel
theorem dX5_init_847 : decode cX5_init 847 = .ok (.iastore, 1) := by decide +kernel
theorem dX5_init_848 : decode cX5_init 848 = .ok (.dup, 1) := by decide +kernel
theorem dX5_init_849 : decode cX5_init 849 = .ok (.bipush 125, 2) := by decide +kernel
theorem dX5_init_851 : decode cX5_init 851 = .ok (.iconst 2, 1) := by decide +kernel
theorem dX5_init_852 : decode cX5_init 852 = .ok (.iastore, 1) := by decide +kernel
theorem dX5_init_853 : decode cX5_init 853 = .ok (.dup, 1) := by decide +kernel
theorem dX5_init_854 : decode cX5_init 854 = .ok (.bipush 126, 2) := by decide +kernel
theorem dX5_init_856 : decode cX5_init 856 = .ok (.sipush 1005, 3) := by decide +kernel
theorem dX5_init_859 : decode cX5_init 859 = .ok (.iastore, 1) := by decide +kernel
theorem dX5_init_860 : decode cX5_init 860 = .ok (.dup, 1) := by decide +kernel
theorem dX5_init_861 : decode cX5_init 861 = .ok (.bipush 127, 2) := by decide +kernel
theorem dX5_init_863 : decode cX5_init 863 = .ok (.sipush 1000, 3) := by decide +kernel
theorem dX5_init_866 : decode cX5_init 866 = .ok (.iastore, 1) := by decide +kernel
theorem dX5_init_867 : decode cX5_init 867 = .ok (.dup, 1) := by decide +kernel
theorem dX5_init_868 : decode cX5_init 868 = .ok (.sipush 128, 3) := by decide +kernel
theorem dX5_init_871 : decode cX5_init 871 = .ok (.sipush 2112, 3) := by decide +kernel
theorem dX5_init_874 : decode cX5_init 874 = .ok (.iastore, 1) := by decide +kernel
theorem dX5_init_875 : decode cX5_init 875 = .ok (.dup, 1) := by decide +kernel
theorem dX5_init_876 : decode cX5_init 876 = .ok (.sipush 129, 3) := by decide +kernel
theorem dX5_init_879 : decode cX5_init 879 = .ok (.sipush 1003, 3) := by decide +kernel
theorem dX5_init_882 : decode cX5_init 882 = .ok (.iastore, 1) := by decide +kernel
theorem dX5_init_883 : decode cX5_init 883 = .ok (.dup, 1) := by decide +kernel
theorem dX5_init_884 : decode cX5_init 884 = .ok (.sipush 130, 3) := by decide +kernel
theorem dX5_init_887 : decode cX5_init 887 = .ok (.sipush 3111, 3) := by decide +kernel
theorem dX5_init_890 : decode cX5_init 890 = .ok (.iastore, 1) := by decide +kernel
theorem dX5_init_891 : decode cX5_init 891 = .ok (.dup, 1) := by decide +kernel
theorem dX5_init_892 : decode cX5_init 892 = .ok (.sipush 131, 3) := by decide +kernel
theorem dX5_init_895 : decode cX5_init 895 = .ok (.sipush 1000, 3) := by decide +kernel
theorem dX5_init_898 : decode cX5_init 898 = .ok (.iastore, 1) := by decide +kernel
theorem dX5_init_899 : decode cX5_init 899 = .ok (.dup, 1) := by decide +kernel
theorem dX5_init_900 : decode cX5_init 900 = .ok (.sipush 132, 3) := by decide +kernel
theorem dX5_init_903 : decode cX5_init 903 = .ok (.sipush 1328, 3) := by decide +kernel
theorem dX5_init_906 : decode cX5_init 906 = .ok (.iastore, 1) := by decide +kernel
theorem dX5_init_907 : decode cX5_init 907 = .ok (.dup, 1) := by decide +kernel
theorem dX5_init_908 : decode cX5_init 908 = .ok (.sipush 133, 3) := by decide +kernel
theorem dX5_init_911 : decode cX5_init 911 = .ok (.iconst 1, 1) := by decide +kernel
theorem dX5_init_912 : decode cX5_init 912 = .ok (.iastore, 1) := by decide +kernel
theorem dX5_init_913 : decode cX5_init 913 = .ok (.dup, 1) := by decide +kernel
theorem dX5_init_914 : decode cX5_init 914 = .ok (.sipush 134, 3) := by decide +kernel
theorem dX5_init_917 : decode cX5_init 917 = .ok (.sipush 1004, 3) := by decide +kernel
theorem dX5_init_920 : decode cX5_init 920 = .ok (.iastore, 1) := by decide +kernel
theorem dX5_init_921 : decode cX5_init 921 = .ok (.dup, 1) := by decide +kernel
theorem dX5_init_922 : decode cX5_init 922 = .ok (.sipush 135, 3) := by decide +kernel
theorem dX5_init_925 : decode cX5_init 925 = .ok (.sipush 3112, 3) := by decide +kernel
theorem dX5_init_928 : decode cX5_init 928 = .ok (.iastore, 1) := by decide +kernel
theorem dX5_init_929 : decode cX5_init 929 = .ok (.dup, 1) := by decide +kernel
theorem dX5_init_930 : decode cX5_init 930 = .ok (.sipush 136, 3) := by decide +kernel
theorem dX5_init_933 : decode cX5_init 933 = .ok (.sipush 1002, 3) := by decide +kernel
theorem dX5_init_936 : decode cX5_init 936 = .ok (.iastore, 1) := by decide +kernel
theorem dX5_init_937 : decode cX5_init 937 = .ok (.dup, 1) := by decide +kernel
theorem dX5_init_938 : decode cX5_init 938 = .ok (.sipush 137, 3) := by decide +kernel
theorem dX5_init_941 : decode cX5_init 941 = .ok (.sipush 1000, 3) := by decide +kernel
theorem dX5_init_944 : decode cX5_init 944 = .ok (.iastore, 1) := by decide +kernel
theorem dX5_init_945 : decode cX5_init 945 = .ok (.dup, 1) := by decide +kernel
theorem dX5_init_946 : decode cX5_init 946 = .ok (.sipush 138, 3) := by decide +kernel
theorem dX5_init_949 : decode cX5_init 949 = .ok (.sipush 1004, 3) := by decide +kernel
theorem dX5_init_952 : decode cX5_init 952 = .ok (.iastore, 1) := by decide +kernel
theorem dX5_init_953 : decode cX5_init 953 = .ok (.dup, 1) := by decide +kernel
theorem dX5_init_954 : decode cX5_init 954 = .ok (.sipush 139, 3) := by decide +kernel
theorem dX5_init_957 : decode cX5_init 957 = .ok (.sipush 3120, 3) := by decide +kernel
theorem dX5_init_960 : decode cX5_init 960 = .ok (.iastore, 1) := by decide +kernel
theorem dX5_init_961 : decode cX5_init 961 = .ok (.dup, 1) := by decide +kernel
theorem dX5_init_962 : decode cX5_init 962 = .ok (.sipush 140, 3) := by decide +kernel
theorem dX5_init_965 : decode cX5_init 965 = .ok (.sipush 1000, 3) := by decide +kernel
theorem dX5_init_968 : decode cX5_init 968 = .ok (.iastore, 1) := by decide +kernel
theorem dX5_init_969 : decode cX5_init 969 = .ok (.dup, 1) := by decide +kernel
theorem dX5_init_970 : decode cX5_init 970 = .ok (.sipush 141, 3) := by decide +kernel
theorem dX5_init_973 : decode cX5_init 973 = .ok (.sipush 1105, 3) := by decide +kernel
theorem dX5_init_976 : decode cX5_init 976 = .ok (.iastore, 1) := by decide +kernel
theorem dX5_init_977 : decode cX5_init 977 = .ok (.dup, 1) := by decide +kernel
theorem dX5_init_978 : decode cX5_init 978 = .ok (.sipush 142, 3) := by decide +kernel
theorem dX5_init_981 : decode cX5_init 981 = .ok (.iconst 3, 1) := by decide +kernel
theorem dX5_init_982 : decode cX5_init 982 = .ok (.iastore, 1) := by decide +kernel
theorem dX5_init_983 : decode cX5_init 983 = .ok (.dup, 1) := by decide +kernel
theorem dX5_init_984 : decode cX5_init 984 = .ok (.sipush 143, 3) := by decide +kernel
theorem dX5_init_987 : decode cX5_init 987 = .ok (.sipush 1005, 3) := by decide +kernel
theorem dX5_init_990 : decode cX5_init 990 = .ok (.iastore, 1) := by decide +kernel
theorem dX5_init_991 : decode cX5_init 991 = .ok (.dup, 1) := by decide +kernel
theorem dX5_init_992 : decode cX5_init 992 = .ok (.sipush 144, 3) := by decide +kernel
theorem dX5_init_995 : decode cX5_init 995 = .ok (.sipush 1001, 3) := by decide +kernel
theorem dX5_init_998 : decode cX5_init 998 = .ok (.iastore, 1) := by decide +kernel
theorem dX5_init_999 : decode cX5_init 999 = .ok (.dup, 1) := by decide +kernel
theorem dX5_init_1000 : decode cX5_init 1000 = .ok (.sipush 145, 3) := by decide +kernel
theorem dX5_init_1003 : decode cX5_init 1003 = .ok (.sipush 1003, 3) := by decide +kernel
theorem dX5_init_1006 : decode cX5_init 1006 = .ok (.iastore, 1) := by decide +kernel
theorem dX5_init_1007 : decode cX5_init 1007 = .ok (.dup, 1) := by decide +kernel
theorem dX5_init_1008 : decode cX5_init 1008 = .ok (.sipush 146, 3) := by decide +kernel
theorem dX5_init_1011 : decode cX5_init 1011 = .ok (.sipush 3130, 3) := by decide +kernel
theorem dX5_init_1014 : decode cX5_init 1014 = .ok (.iastore, 1) := by decide +kernel
theorem dX5_init_1015 : decode cX5_init 1015 = .ok (.dup, 1) := by decide +kernel
theorem dX5_init_1016 : decode cX5_init 1016 = .ok (.sipush 147, 3) := by decide +kernel
theorem dX5_init_1019 : decode cX5_init 1019 = .ok (.sipush 1000, 3) := by decide +kernel
theorem dX5_init_1022 : decode cX5_init 1022 = .ok (.iastore, 1) := by decide +kernel
theorem dX5_init_1023 : decode cX5_init 1023 = .ok (.dup, 1) := by decide +kernel
theorem dX5_init_1024 : decode cX5_init 1024 = .ok (.sipush 148, 3) := by decide +kernel
theorem dX5_init_1027 : decode cX5_init 1027 = .ok (.sipush 1200, 3) := by decide +kernel
theorem dX5_init_1030 : decode cX5_init 1030 = .ok (.iastore, 1) := by decide +kernel
theorem dX5_init_1031 : decode cX5_init 1031 = .ok (.dup, 1) := by decide +kernel
theorem dX5_init_1032 : decode cX5_init 1032 = .ok (.sipush 149, 3) := by decide +kernel
theorem dX5_init_1035 : decode cX5_init 1035 = .ok (.iconst 3, 1) := by decide +kernel
theorem dX5_init_1036 : decode cX5_init 1036 = .ok (.iastore, 1) := by decide +kernel
theorem dX5_init_1037 : decode cX5_init 1037 = .ok (.dup, 1) := by decide +kernel
theorem dX5_init_1038 : decode cX5_init 1038 = .ok (.sipush 150, 3) := by decide +kernel
theorem dX5_init_1041 : decode cX5_init 1041 = .ok (.sipush 1005, 3) := by decide +kernel
theorem dX5_init_1044 : decode cX5_init 1044 = .ok (.iastore, 1) := by decide +kernel
theorem dX5_init_1045 : decode cX5_init 1045 = .ok (.dup, 1) := by decide +kernel
theorem dX5_init_1046 : decode cX5_init 1046 = .ok (.sipush 151, 3) := by decide +kernel
theorem dX5_init_1049 : decode cX5_init 1049 = .ok (.sipush 3131, 3) := by decide +kernel
theorem dX5_init_1052 : decode cX5_init 1052 = .ok (.iastore, 1) := by decide +kernel
theorem dX5_init_1053 : decode cX5_init 1053 = .ok (.dup, 1) := by decide +kernel
theorem dX5_init_1054 : decode cX5_init 1054 = .ok (.sipush 152, 3) := by decide +kernel
theorem dX5_init_1057 : decode cX5_init 1057 = .ok (.sipush 1000, 3) := by decide +kernel
theorem dX5_init_1060 : decode cX5_init 1060 = .ok (.iastore, 1) := by decide +kernel
theorem dX5_init_1061 : decode cX5_init 1061 = .ok (.dup, 1) := by decide +kernel
theorem dX5_init_1062 : decode cX5_init 1062 = .ok (.sipush 153, 3) := by decide +kernel
theorem dX5_init_1065 : decode cX5_init 1065 = .ok (.iconst 1, 1) := by decide +kernel
theorem dX5_init_1066 : decode cX5_init 1066 = .ok (.iastore, 1) := by decide +kernel
theorem dX5_init_1067 : decode cX5_init 1067 = .ok (.dup, 1) := by decide +kernel
theorem dX5_init_1068 : decode cX5_init 1068 = .ok (.sipush 154, 3) := by decide +kernel
theorem dX5_init_1071 : decode cX5_init 1071 = .ok (.sipush 1003, 3) := by decide +kernel
theorem dX5_init_1074 : decode cX5_init 1074 = .ok (.iastore, 1) := by decide +kernel
theorem dX5_init_1075 : decode cX5_init 1075 = .ok (.dup, 1) := by decide +kernel
theorem dX5_init_1076 : decode cX5_init 1076 = .ok (.sipush 155, 3) := by decide +kernel
theorem dX5_init_1079 : decode cX5_init 1079 = .ok (.sipush 1201, 3) := by decide +kernel
theorem dX5_init_1082 : decode cX5_init 1082 = .ok (.iastore, 1) := by decide +kernel
theorem dX5_init_1083 : decode cX5_init 1083 = .ok (.dup, 1) := by decide +kernel
theorem dX5_init_1084 : decode cX5_init 1084 = .ok (.sipush 156, 3) := by decide +kernel
theorem dX5_init_1087 : decode cX5_init 1087 = .ok (.iconst 5, 1) := by decide +kernel
theorem dX5_init_1088 : decode cX5_init 1088 = .ok (.iastore, 1) := by decide +kernel
theorem dX5_init_1089 : decode cX5_init 1089 = .ok (.dup, 1) := by decide +kernel
theorem dX5_init_1090 : decode cX5_init 1090 = .ok (.sipush 157, 3) := by decide +kernel
theorem dX5_init_1093 : decode cX5_init 1093 = .ok (.sipush 1003, 3) := by decide +kernel
theorem dX5_init_1096 : decode cX5_init 1096 = .ok (.iastore, 1) := by decide +kernel
theorem dX5_init_1097 : decode cX5_init 1097 = .ok (.dup, 1) := by decide +kernel
theorem dX5_init_1098 : decode cX5_init 1098 = .ok (.sipush 158, 3) := by decide +kernel
theorem dX5_init_1101 : decode cX5_init 1101 = .ok (.sipush 3140, 3) := by decide +kernel
theorem dX5_init_1104 : decode cX5_init 1104 = .ok (.iastore, 1) := by decide +kernel
theorem dX5_init_1105 : decode cX5_init 1105 = .ok (.dup, 1) := by decide +kernel
theorem dX5_init_1106 : decode cX5_init 1106 = .ok (.sipush 159, 3) := by decide +kernel
theorem dX5_init_1109 : decode cX5_init 1109 = .ok (.sipush 1001, 3) := by decide +kernel
theorem dX5_init_1112 : decode cX5_init 1112 = .ok (.iastore, 1) := by decide +kernel
theorem dX5_init_1113 : decode cX5_init 1113 = .ok (.dup, 1) := by decide +kernel
theorem dX5_init_1114 : decode cX5_init 1114 = .ok (.sipush 160, 3) := by decide +kernel
theorem dX5_init_1117 : decode cX5_init 1117 = .ok (.sipush 1000, 3) := by decide +kernel
theorem dX5_init_1120 : decode cX5_init 1120 = .ok (.iastore, 1) := by decide +kernel
theorem dX5_init_1121 : decode cX5_init 1121 = .ok (.dup, 1) := by decide +kernel
theorem dX5_init_1122 : decode cX5_init 1122 = .ok (.sipush 161, 3) := by decide +kernel
theorem dX5_init_1125 : decode cX5_init 1125 = .ok (.sipush 1004, 3) := by decide +kernel
theorem dX5_init_1128 : decode cX5_init 1128 = .ok (.iastore, 1) := by decide +kernel
theorem dX5_init_1129 : decode cX5_init 1129 = .ok (.dup, 1) := by decide +kernel
theorem dX5_init_1130 : decode cX5_init 1130 = .ok (.sipush 162, 3) := by decide +kernel
theorem dX5_init_1133 : decode cX5_init 1133 = .ok (.sipush 3141, 3) := by decide +kernel
theorem dX5_init_1136 : decode cX5_init 1136 = .ok (.iastore, 1) := by decide +kernel
theorem dX5_init_1137 : decode cX5_init 1137 = .ok (.dup, 1) := by decide +kernel
theorem dX5_init_1138 : decode cX5_init 1138 = .ok (.sipush 163, 3) := by decide +kernel
theorem dX5_init_1141 : decode cX5_init 1141 = .ok (.sipush 1000, 3) := by decide +kernel
theorem dX5_init_1144 : decode cX5_init 1144 = .ok (.iastore, 1) := by decide +kernel
theorem dX5_init_1145 : decode cX5_init 1145 = .ok (.dup, 1) := by decide +kernel
theorem dX5_init_1146 : decode cX5_init 1146 = .ok (.sipush 164, 3) := by decide +kernel
theorem dX5_init_1149 : decode cX5_init 1149 = .ok (.sipush 1202, 3) := by decide +kernel
theorem dX5_init_1152 : decode cX5_init 1152 = .ok (.iastore, 1) := by decide +kernel
theorem dX5_init_1153 : decode cX5_init 1153 = .ok (.dup, 1) := by decide +kernel
theorem dX5_init_1154 : decode cX5_init 1154 = .ok (.sipush 165, 3) := by decide +kernel
theorem dX5_init_1157 : decode cX5_init 1157 = .ok (.iconst 1, 1) := by decide +kernel
theorem dX5_init_1158 : decode cX5_init 1158 = .ok (.iastore, 1) := by decide +kernel
theorem dX5_init_1159 : decode cX5_init 1159 = .ok (.dup, 1) := by decide +kernel
theorem dX5_init_1160 : decode cX5_init 1160 = .ok (.sipush 166, 3) := by decide +kernel
theorem dX5_init_1163 : decode cX5_init 1163 = .ok (.sipush 1314, 3) := by decide +kernel
theorem dX5_init_1166 : decode cX5_init 1166 = .ok (.iastore, 1) := by decide +kernel
theorem dX5_init_1167 : decode cX5_init 1167 = .ok (.dup, 1) := by decide +kernel
theorem dX5_init_1168 : decode cX5_init 1168 = .ok (.sipush 167, 3) := by decide +kernel
theorem dX5_init_1171 : decode cX5_init 1171 = .ok (.sipush 1004, 3) := by decide +kernel
theorem dX5_init_1174 : decode cX5_init 1174 = .ok (.iastore, 1) := by decide +kernel
theorem dX5_init_1175 : decode cX5_init 1175 = .ok (.dup, 1) := by decide +kernel
theorem dX5_init_1176 : decode cX5_init 1176 = .ok (.sipush 168, 3) := by decide +kernel
theorem dX5_init_1179 : decode cX5_init 1179 = .ok (.sipush 3142, 3) := by decide +kernel
theorem dX5_init_1182 : decode cX5_init 1182 = .ok (.iastore, 1) := by decide +kernel
theorem dX5_init_1183 : decode cX5_init 1183 = .ok (.dup, 1) := by decide +kernel
theorem dX5_init_1184 : decode cX5_init 1184 = .ok (.sipush 169, 3) := by decide +kernel
theorem dX5_init_1187 : decode cX5_init 1187 = .ok (.sipush 1000, 3) := by decide +kernel
theorem dX5_init_1190 : decode cX5_init 1190 = .ok (.iastore, 1) := by decide +kernel
theorem dX5_init_1191 : decode cX5_init 1191 = .ok (.dup, 1) := by decide +kernel
theorem dX5_init_1192 : decode cX5_init 1192 = .ok (.sipush 170, 3) := by decide +kernel
theorem dX5_init_1195 : decode cX5_init 1195 = .ok (.iconst 1, 1) := by decide +kernel
theorem dX5_init_1196 : decode cX5_init 1196 = .ok (.iastore, 1) := by decide +kernel
theorem dX5_init_1197 : decode cX5_init 1197 = .ok (.dup, 1) := by decide +kernel
theorem dX5_init_1198 : decode cX5_init 1198 = .ok (.sipush 171, 3) := by decide +kernel
theorem dX5_init_1201 : decode cX5_init 1201 = .ok (.sipush 1003, 3) := by decide +kernel
theorem dX5_init_1204 : decode cX5_init 1204 = .ok (.iastore, 1) := by decide +kernel
theorem dX5_init_1205 : decode cX5_init 1205 = .ok (.dup, 1) := by decide +kernel
theorem dX5_init_1206 : decode cX5_init 1206 = .ok (.sipush 172, 3) := by decide +kernel
theorem dX5_init_1209 : decode cX5_init 1209 = .ok (.sipush 1210, 3) := by decide +kernel
theorem dX5_init_1212 : decode cX5_init 1212 = .ok (.iastore, 1) := by decide +kernel
theorem dX5_init_1213 : decode cX5_init 1213 = .ok (.dup, 1) := by decide +kernel
theorem dX5_init_1214 : decode cX5_init 1214 = .ok (.sipush 173, 3) := by decide +kernel
theorem dX5_init_1217 : decode cX5_init 1217 = .ok (.iconst 4, 1) := by decide +kernel
theorem dX5_init_1218 : decode cX5_init 1218 = .ok (.iastore, 1) := by decide +kernel
theorem dX5_init_1219 : decode cX5_init 1219 = .ok (.dup, 1) := by decide +kernel
theorem dX5_init_1220 : decode cX5_init 1220 = .ok (.sipush 174, 3) := by decide +kernel
theorem dX5_init_1223 : decode cX5_init 1223 = .ok (.sipush 1003, 3) := by decide +kernel
theorem dX5_init_1226 : decode cX5_init 1226 = .ok (.iastore, 1) := by decide +kernel
theorem dX5_init_1227 : decode cX5_init 1227 = .ok (.dup, 1) := by decide +kernel
theorem dX5_init_1228 : decode cX5_init 1228 = .ok (.sipush 175, 3) := by decide +kernel
theorem dX5_init_1231 : decode cX5_init 1231 = .ok (.sipush 3150, 3) := by decide +kernel
theorem dX5_init_1234 : decode cX5_init 1234 = .ok (.iastore, 1) := by decide +kernel
theorem dX5_init_1235 : decode cX5_init 1235 = .ok (.dup, 1) := by decide +kernel
theorem dX5_init_1236 : decode cX5_init 1236 = .ok (.sipush 176, 3) := by decide +kernel
theorem dX5_init_1239 : decode cX5_init 1239 = .ok (.sipush 1000, 3) := by decide +kernel
theorem dX5_init_1242 : decode cX5_init 1242 = .ok (.iastore, 1) := by decide +kernel
theorem dX5_init_1243 : decode cX5_init 1243 = .ok (.dup, 1) := by decide +kernel
theorem dX5_init_1244 : decode cX5_init 1244 = .ok (.sipush 177, 3) := by decide +kernel
theorem dX5_init_1247 : decode cX5_init 1247 = .ok (.sipush 1105, 3) := by decide +kernel
theorem dX5_init_1250 : decode cX5_init 1250 = .ok (.iastore, 1) := by decide +kernel
theorem dX5_init_1251 : decode cX5_init 1251 = .ok (.dup, 1) := by decide +kernel
theorem dX5_init_1252 : decode cX5_init 1252 = .ok (.sipush 178, 3) := by decide +kernel
theorem dX5_init_1255 : decode cX5_init 1255 = .ok (.sipush 1001, 3) := by decide +kernel
theorem dX5_init_1258 : decode cX5_init 1258 = .ok (.iastore, 1) := by decide +kernel
theorem dX5_init_1259 : decode cX5_init 1259 = .ok (.dup, 1) := by decide +kernel
theorem dX5_init_1260 : decode cX5_init 1260 = .ok (.sipush 179, 3) := by decide +kernel
theorem dX5_init_1263 : decode cX5_init 1263 = .ok (.sipush 1003, 3) := by decide +kernel
theorem dX5_init_1266 : decode cX5_init 1266 = .ok (.iastore, 1) := by decide +kernel
theorem dX5_init_1267 : decode cX5_init 1267 = .ok (.dup, 1) := by decide +kernel
theorem dX5_init_1268 : decode cX5_init 1268 = .ok (.sipush 180, 3) := by decide +kernel
theorem dX5_init_1271 : decode cX5_init 1271 = .ok (.sipush 3151, 3) := by decide +kernel
theorem dX5_init_1274 : decode cX5_init 1274 = .ok (.iastore, 1) := by decide +kernel
theorem dX5_init_1275 : decode cX5_init 1275 = .ok (.dup, 1) := by decide +kernel
theorem dX5_init_1276 : decode cX5_init 1276 = .ok (.sipush 181, 3) := by decide +kernel
theorem dX5_init_1279 : decode cX5_init 1279 = .ok (.sipush 1000, 3) := by decide +kernel
theorem dX5_init_1282 : decode cX5_init 1282 = .ok (.iastore, 1) := by decide +kernel
theorem dX5_init_1283 : decode cX5_init 1283 = .ok (.dup, 1) := by decide +kernel
theorem dX5_init_1284 : decode cX5_init 1284 = .ok (.sipush 182, 3) := by decide +kernel
theorem dX5_init_1287 : decode cX5_init 1287 = .ok (.sipush 1209, 3) := by decide +kernel
theorem dX5_init_1290 : decode cX5_init 1290 = .ok (.iastore, 1) := by decide +kernel
theorem dX5_init_1291 : decode cX5_init 1291 = .ok (.dup, 1) := by decide +kernel
theorem dX5_init_1292 : decode cX5_init 1292 = .ok (.sipush 183, 3) := by decide +kernel
theorem dX5_init_1295 : decode cX5_init 1295 = .ok (.iconst 0, 1) := by decide +kernel
theorem dX5_init_1296 : decode cX5_init 1296 = .ok (.iastore, 1) := by decide +kernel
theorem dX5_init_1297 : decode cX5_init 1297 = .ok (.dup, 1) := by decide +kernel
theorem dX5_init_1298 : decode cX5_init 1298 = .ok (.sipush 184, 3) := by decide +kernel
theorem dX5_init_1301 : decode cX5_init 1301 = .ok (.sipush 1102, 3) := by decide +kernel
theorem dX5_init_1304 : decode cX5_init 1304 = .ok (.iastore, 1) := by decide +kernel
theorem dX5_init_1305 : decode cX5_init 1305 = .ok (.dup, 1) := by decide +kernel
theorem dX5_init_1306 : decode cX5_init 1306 = .ok (.sipush 185, 3) := by decide +kernel
theorem dX5_init_1309 : decode cX5_init 1309 = .ok (.sipush 1006, 3) := by decide +kernel
theorem dX5_init_1312 : decode cX5_init 1312 = .ok (.iastore, 1) := by decide +kernel
theorem dX5_init_1313 : decode cX5_init 1313 = .ok (.dup, 1) := by decide +kernel
theorem dX5_init_1314 : decode cX5_init 1314 = .ok (.sipush 186, 3) := by decide +kernel
theorem dX5_init_1317 : decode cX5_init 1317 = .ok (.sipush 3152, 3) := by decide +kernel
theorem dX5_init_1320 : decode cX5_init 1320 = .ok (.iastore, 1) := by decide +kernel
theorem dX5_init_1321 : decode cX5_init 1321 = .ok (.dup, 1) := by decide +kernel
theorem dX5_init_1322 : decode cX5_init 1322 = .ok (.sipush 187, 3) := by decide +kernel
theorem dX5_init_1325 : decode cX5_init 1325 = .ok (.sipush 1000, 3) := by decide +kernel
theorem dX5_init_1328 : decode cX5_init 1328 = .ok (.iastore, 1) := by decide +kernel
theorem dX5_init_1329 : decode cX5_init 1329 = .ok (.dup, 1) := by decide +kernel
theorem dX5_init_1330 : decode cX5_init 1330 = .ok (.sipush 188, 3) := by decide +kernel
theorem dX5_init_1333 : decode cX5_init 1333 = .ok (.sipush 1340, 3) := by decide +kernel
theorem dX5_init_1336 : decode cX5_init 1336 = .ok (.iastore, 1) := by decide +kernel
theorem dX5_init_1337 : decode cX5_init 1337 = .ok (.dup, 1) := by decide +kernel
theorem dX5_init_1338 : decode cX5_init 1338 = .ok (.sipush 189, 3) := by decide +kernel
theorem dX5_init_1341 : decode cX5_init 1341 = .ok (.iconst 1, 1) := by decide +kernel
theorem dX5_init_1342 : decode cX5_init 1342 = .ok (.iastore, 1) := by decide +kernel
theorem dX5_init_1343 : decode cX5_init 1343 = .ok (.dup, 1) := by decide +kernel
