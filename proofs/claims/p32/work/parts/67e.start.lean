theorem g115 : Cond.classLink "MirageLoansLaw" 7 "MirageLoans" ∈ gw := gw_at 115 (by decide +kernel) (by decide +kernel)
theorem g116 : Cond.instantiable "MirageLoans" 14 ∈ gw := gw_at 116 (by decide +kernel) (by decide +kernel)
theorem g117 : Cond.methodLink "MirageLoansLaw" 9 yX8_init ∈ gw := gw_at 117 (by decide +kernel) (by decide +kernel)
theorem g118 : Cond.instanceMethod yX8_init ∈ gw := gw_at 118 (by decide +kernel) (by decide +kernel)
theorem g495 : Cond.methodLink "MirageLoansLaw" 13 yX8_feed ∈ gw := gw_at 495 (by decide +kernel) (by decide +kernel)
theorem g496 : Cond.instanceMethod yX8_feed ∈ gw := gw_at 496 (by decide +kernel) (by decide +kernel)
theorem g497 : Cond.selects "MirageLoans" yX8_feed yX8_feed ∈ gw := gw_at 497 (by decide +kernel) (by decide +kernel)
theorem g507 : Cond.methodLink "MirageLoansLaw" 18 yX8_back ∈ gw := gw_at 507 (by decide +kernel) (by decide +kernel)
theorem g508 : Cond.instanceMethod yX8_back ∈ gw := gw_at 508 (by decide +kernel) (by decide +kernel)
theorem g509 : Cond.selects "MirageLoans" yX8_back yX8_back ∈ gw := gw_at 509 (by decide +kernel) (by decide +kernel)
theorem g515 : Cond.methodLink "MirageLoansLaw" 23 yX8_read ∈ gw := gw_at 515 (by decide +kernel) (by decide +kernel)
theorem g516 : Cond.instanceMethod yX8_read ∈ gw := gw_at 516 (by decide +kernel) (by decide +kernel)
theorem g517 : Cond.selects "MirageLoans" yX8_read yX8_read ∈ gw := gw_at 517 (by decide +kernel) (by decide +kernel)
theorem g700 : Cond.methodLink "MirageLoansLaw" 28 yX8_place ∈ gw := gw_at 700 (by decide +kernel) (by decide +kernel)
theorem g701 : Cond.instanceMethod yX8_place ∈ gw := gw_at 701 (by decide +kernel) (by decide +kernel)
theorem g702 : Cond.selects "MirageLoans" yX8_place yX8_place ∈ gw := gw_at 702 (by decide +kernel) (by decide +kernel)
theorem g704 : Cond.methodLink "MirageLoansLaw" 32 yX8_thing ∈ gw := gw_at 704 (by decide +kernel) (by decide +kernel)
theorem g705 : Cond.instanceMethod yX8_thing ∈ gw := gw_at 705 (by decide +kernel) (by decide +kernel)
theorem g706 : Cond.selects "MirageLoans" yX8_thing yX8_thing ∈ gw := gw_at 706 (by decide +kernel) (by decide +kernel)
theorem g767 : Cond.methodLink "MirageLoansLaw" 37 yX8_seat ∈ gw := gw_at 767 (by decide +kernel) (by decide +kernel)
theorem g768 : Cond.instanceMethod yX8_seat ∈ gw := gw_at 768 (by decide +kernel) (by decide +kernel)
theorem g769 : Cond.selects "MirageLoans" yX8_seat yX8_seat ∈ gw := gw_at 769 (by decide +kernel) (by decide +kernel)
theorem g793 : Cond.methodLink "MirageLoansLaw" 41 yX8_loan ∈ gw := gw_at 793 (by decide +kernel) (by decide +kernel)
theorem g794 : Cond.instanceMethod yX8_loan ∈ gw := gw_at 794 (by decide +kernel) (by decide +kernel)
theorem g795 : Cond.selects "MirageLoans" yX8_loan yX8_loan ∈ gw := gw_at 795 (by decide +kernel) (by decide +kernel)
theorem g801 : Cond.methodLink "MirageLoansLaw" 46 yX8_tells ∈ gw := gw_at 801 (by decide +kernel) (by decide +kernel)
theorem g802 : Cond.instanceMethod yX8_tells ∈ gw := gw_at 802 (by decide +kernel) (by decide +kernel)
theorem g803 : Cond.selects "MirageLoans" yX8_tells yX8_tells ∈ gw := gw_at 803 (by decide +kernel) (by decide +kernel)
theorem g828 : Cond.methodLink "MirageLoansLaw" 51 yX8_lend ∈ gw := gw_at 828 (by decide +kernel) (by decide +kernel)
theorem g829 : Cond.instanceMethod yX8_lend ∈ gw := gw_at 829 (by decide +kernel) (by decide +kernel)
theorem g830 : Cond.selects "MirageLoans" yX8_lend yX8_lend ∈ gw := gw_at 830 (by decide +kernel) (by decide +kernel)
theorem g848 : Cond.methodLink "MirageLoansLaw" 55 yX8_call ∈ gw := gw_at 848 (by decide +kernel) (by decide +kernel)
theorem g849 : Cond.instanceMethod yX8_call ∈ gw := gw_at 849 (by decide +kernel) (by decide +kernel)
theorem g850 : Cond.selects "MirageLoans" yX8_call yX8_call ∈ gw := gw_at 850 (by decide +kernel) (by decide +kernel)
theorem g854 : Cond.methodLink "MirageLoansLaw" 59 yX8_move ∈ gw := gw_at 854 (by decide +kernel) (by decide +kernel)
theorem g855 : Cond.instanceMethod yX8_move ∈ gw := gw_at 855 (by decide +kernel) (by decide +kernel)
theorem g856 : Cond.selects "MirageLoans" yX8_move yX8_move ∈ gw := gw_at 856 (by decide +kernel) (by decide +kernel)
theorem g858 : Cond.methodLink "MirageLoansLaw" 64 yX8_hours ∈ gw := gw_at 858 (by decide +kernel) (by decide +kernel)
theorem g859 : Cond.instanceMethod yX8_hours ∈ gw := gw_at 859 (by decide +kernel) (by decide +kernel)
theorem g860 : Cond.selects "MirageLoans" yX8_hours yX8_hours ∈ gw := gw_at 860 (by decide +kernel) (by decide +kernel)
theorem g889 : Cond.methodLink "MirageLoansLaw" 68 yX8_undo ∈ gw := gw_at 889 (by decide +kernel) (by decide +kernel)
theorem g890 : Cond.instanceMethod yX8_undo ∈ gw := gw_at 890 (by decide +kernel) (by decide +kernel)
theorem g891 : Cond.selects "MirageLoans" yX8_undo yX8_undo ∈ gw := gw_at 891 (by decide +kernel) (by decide +kernel)
theorem g897 : Cond.methodLink "MirageLoansLaw" 73 yX8_sight ∈ gw := gw_at 897 (by decide +kernel) (by decide +kernel)
theorem g898 : Cond.instanceMethod yX8_sight ∈ gw := gw_at 898 (by decide +kernel) (by decide +kernel)
theorem g899 : Cond.selects "MirageLoans" yX8_sight yX8_sight ∈ gw := gw_at 899 (by decide +kernel) (by decide +kernel)
theorem g911 : Cond.methodLink "MirageLoansLaw" 77 yX8_clash ∈ gw := gw_at 911 (by decide +kernel) (by decide +kernel)
theorem g912 : Cond.instanceMethod yX8_clash ∈ gw := gw_at 912 (by decide +kernel) (by decide +kernel)
theorem g913 : Cond.selects "MirageLoans" yX8_clash yX8_clash ∈ gw := gw_at 913 (by decide +kernel) (by decide +kernel)
theorem g923 : Cond.methodLink "MirageLoansLaw" 81 yX8_longFrom ∈ gw := gw_at 923 (by decide +kernel) (by decide +kernel)
theorem g924 : Cond.instanceMethod yX8_longFrom ∈ gw := gw_at 924 (by decide +kernel) (by decide +kernel)
theorem g925 : Cond.selects "MirageLoans" yX8_longFrom yX8_longFrom ∈ gw := gw_at 925 (by decide +kernel) (by decide +kernel)
theorem g927 : Cond.methodLink "MirageLoansLaw" 85 yX8_best ∈ gw := gw_at 927 (by decide +kernel) (by decide +kernel)
theorem g928 : Cond.instanceMethod yX8_best ∈ gw := gw_at 928 (by decide +kernel) (by decide +kernel)
theorem g929 : Cond.selects "MirageLoans" yX8_best yX8_best ∈ gw := gw_at 929 (by decide +kernel) (by decide +kernel)
theorem g935 : Cond.methodLink "MirageLoansLaw" 89 yX8_dawns ∈ gw := gw_at 935 (by decide +kernel) (by decide +kernel)
theorem g936 : Cond.instanceMethod yX8_dawns ∈ gw := gw_at 936 (by decide +kernel) (by decide +kernel)
theorem g937 : Cond.selects "MirageLoans" yX8_dawns yX8_dawns ∈ gw := gw_at 937 (by decide +kernel) (by decide +kernel)
theorem g939 : Cond.methodLink "MirageLoansLaw" 93 yX8_near ∈ gw := gw_at 939 (by decide +kernel) (by decide +kernel)
theorem g940 : Cond.instanceMethod yX8_near ∈ gw := gw_at 940 (by decide +kernel) (by decide +kernel)
theorem g941 : Cond.selects "MirageLoans" yX8_near yX8_near ∈ gw := gw_at 941 (by decide +kernel) (by decide +kernel)
theorem g944 : Cond.methodLink "MirageLoansLaw" 97 yX8_crowd ∈ gw := gw_at 944 (by decide +kernel) (by decide +kernel)
theorem g945 : Cond.instanceMethod yX8_crowd ∈ gw := gw_at 945 (by decide +kernel) (by decide +kernel)
theorem g946 : Cond.selects "MirageLoans" yX8_crowd yX8_crowd ∈ gw := gw_at 946 (by decide +kernel) (by decide +kernel)
theorem g948 : Cond.methodLink "MirageLoansLaw" 101 yX8_rich ∈ gw := gw_at 948 (by decide +kernel) (by decide +kernel)
theorem g949 : Cond.instanceMethod yX8_rich ∈ gw := gw_at 949 (by decide +kernel) (by decide +kernel)
theorem g950 : Cond.selects "MirageLoans" yX8_rich yX8_rich ∈ gw := gw_at 950 (by decide +kernel) (by decide +kernel)
theorem g962 : Cond.methodLink "MirageLoansLaw" 105 yX8_umbrellas ∈ gw := gw_at 962 (by decide +kernel) (by decide +kernel)
theorem g963 : Cond.instanceMethod yX8_umbrellas ∈ gw := gw_at 963 (by decide +kernel) (by decide +kernel)
theorem g964 : Cond.selects "MirageLoans" yX8_umbrellas yX8_umbrellas ∈ gw := gw_at 964 (by decide +kernel) (by decide +kernel)
theorem g981 : Cond.methodLink "MirageLoansLaw" 109 yX8_worth ∈ gw := gw_at 981 (by decide +kernel) (by decide +kernel)
theorem g982 : Cond.instanceMethod yX8_worth ∈ gw := gw_at 982 (by decide +kernel) (by decide +kernel)
theorem g983 : Cond.selects "MirageLoans" yX8_worth yX8_worth ∈ gw := gw_at 983 (by decide +kernel) (by decide +kernel)
theorem g987 : Cond.methodLink "MirageLoansLaw" 113 yX8_book ∈ gw := gw_at 987 (by decide +kernel) (by decide +kernel)
theorem g988 : Cond.instanceMethod yX8_book ∈ gw := gw_at 988 (by decide +kernel) (by decide +kernel)
theorem g989 : Cond.selects "MirageLoans" yX8_book yX8_book ∈ gw := gw_at 989 (by decide +kernel) (by decide +kernel)
theorem g991 : Cond.methodLink "MirageLoansLaw" 117 yX8_hidden ∈ gw := gw_at 991 (by decide +kernel) (by decide +kernel)
theorem g992 : Cond.instanceMethod yX8_hidden ∈ gw := gw_at 992 (by decide +kernel) (by decide +kernel)
theorem g993 : Cond.selects "MirageLoans" yX8_hidden yX8_hidden ∈ gw := gw_at 993 (by decide +kernel) (by decide +kernel)
theorem g1002 : Cond.methodLink "MirageLoansLaw" 121 yX8_cool ∈ gw := gw_at 1002 (by decide +kernel) (by decide +kernel)
theorem g1003 : Cond.instanceMethod yX8_cool ∈ gw := gw_at 1003 (by decide +kernel) (by decide +kernel)
theorem g1004 : Cond.selects "MirageLoans" yX8_cool yX8_cool ∈ gw := gw_at 1004 (by decide +kernel) (by decide +kernel)
theorem g1010 : Cond.methodLink "MirageLoansLaw" 125 yX8_heatIn ∈ gw := gw_at 1010 (by decide +kernel) (by decide +kernel)
theorem g1011 : Cond.instanceMethod yX8_heatIn ∈ gw := gw_at 1011 (by decide +kernel) (by decide +kernel)
theorem g1012 : Cond.selects "MirageLoans" yX8_heatIn yX8_heatIn ∈ gw := gw_at 1012 (by decide +kernel) (by decide +kernel)
theorem g1014 : Cond.methodLink "MirageLoansLaw" 129 yX8_lentIn ∈ gw := gw_at 1014 (by decide +kernel) (by decide +kernel)
theorem g1015 : Cond.instanceMethod yX8_lentIn ∈ gw := gw_at 1015 (by decide +kernel) (by decide +kernel)
theorem g1016 : Cond.selects "MirageLoans" yX8_lentIn yX8_lentIn ∈ gw := gw_at 1016 (by decide +kernel) (by decide +kernel)
theorem g1018 : Cond.methodLink "MirageLoansLaw" 133 yX8_year ∈ gw := gw_at 1018 (by decide +kernel) (by decide +kernel)
theorem g1019 : Cond.instanceMethod yX8_year ∈ gw := gw_at 1019 (by decide +kernel) (by decide +kernel)
theorem g1020 : Cond.selects "MirageLoans" yX8_year yX8_year ∈ gw := gw_at 1020 (by decide +kernel) (by decide +kernel)
theorem g1022 : Cond.methodLink "MirageLoansLaw" 137 yX8_tell ∈ gw := gw_at 1022 (by decide +kernel) (by decide +kernel)
theorem g1023 : Cond.instanceMethod yX8_tell ∈ gw := gw_at 1023 (by decide +kernel) (by decide +kernel)
theorem g1024 : Cond.selects "MirageLoans" yX8_tell yX8_tell ∈ gw := gw_at 1024 (by decide +kernel) (by decide +kernel)
theorem g1030 : Cond.methodLink "MirageLoansLaw" 141 yX8_forget ∈ gw := gw_at 1030 (by decide +kernel) (by decide +kernel)
theorem g1031 : Cond.instanceMethod yX8_forget ∈ gw := gw_at 1031 (by decide +kernel) (by decide +kernel)
theorem g1032 : Cond.selects "MirageLoans" yX8_forget yX8_forget ∈ gw := gw_at 1032 (by decide +kernel) (by decide +kernel)
theorem g1034 : Cond.methodLink "MirageLoansLaw" 145 yX8_stands ∈ gw := gw_at 1034 (by decide +kernel) (by decide +kernel)
theorem g1035 : Cond.instanceMethod yX8_stands ∈ gw := gw_at 1035 (by decide +kernel) (by decide +kernel)
theorem g1036 : Cond.selects "MirageLoans" yX8_stands yX8_stands ∈ gw := gw_at 1036 (by decide +kernel) (by decide +kernel)
theorem g1059 : Cond.methodLink "MirageLoansLaw" 149 yX8_sure ∈ gw := gw_at 1059 (by decide +kernel) (by decide +kernel)
theorem g1060 : Cond.instanceMethod yX8_sure ∈ gw := gw_at 1060 (by decide +kernel) (by decide +kernel)
theorem g1061 : Cond.selects "MirageLoans" yX8_sure yX8_sure ∈ gw := gw_at 1061 (by decide +kernel) (by decide +kernel)
theorem g1067 : Cond.methodLink "MirageLoansLaw" 153 yX8_look ∈ gw := gw_at 1067 (by decide +kernel) (by decide +kernel)
theorem g1068 : Cond.instanceMethod yX8_look ∈ gw := gw_at 1068 (by decide +kernel) (by decide +kernel)
theorem g1069 : Cond.selects "MirageLoans" yX8_look yX8_look ∈ gw := gw_at 1069 (by decide +kernel) (by decide +kernel)
theorem g1080 : Cond.methodLink "MirageLoansLaw" 157 yX8_hold ∈ gw := gw_at 1080 (by decide +kernel) (by decide +kernel)
theorem g1081 : Cond.instanceMethod yX8_hold ∈ gw := gw_at 1081 (by decide +kernel) (by decide +kernel)
theorem g1082 : Cond.selects "MirageLoans" yX8_hold yX8_hold ∈ gw := gw_at 1082 (by decide +kernel) (by decide +kernel)
theorem g1084 : Cond.methodLink "MirageLoansLaw" 162 yX8_restore ∈ gw := gw_at 1084 (by decide +kernel) (by decide +kernel)
theorem g1085 : Cond.instanceMethod yX8_restore ∈ gw := gw_at 1085 (by decide +kernel) (by decide +kernel)
theorem g1086 : Cond.selects "MirageLoans" yX8_restore yX8_restore ∈ gw := gw_at 1086 (by decide +kernel) (by decide +kernel)
theorem g1088 : Cond.methodLink "MirageLoansLaw" 166 yX8_count ∈ gw := gw_at 1088 (by decide +kernel) (by decide +kernel)
theorem g1089 : Cond.instanceMethod yX8_count ∈ gw := gw_at 1089 (by decide +kernel) (by decide +kernel)
theorem g1090 : Cond.selects "MirageLoans" yX8_count yX8_count ∈ gw := gw_at 1090 (by decide +kernel) (by decide +kernel)
theorem g1104 : Cond.classLink "MirageLoansLaw" 10 "MirageLoansModel" ∈ gw := gw_at 1104 (by decide +kernel) (by decide +kernel)
theorem g1105 : Cond.instantiable "MirageLoansModel" 65 ∈ gw := gw_at 1105 (by decide +kernel) (by decide +kernel)
theorem g1106 : Cond.methodLink "MirageLoansLaw" 12 yX9_init ∈ gw := gw_at 1106 (by decide +kernel) (by decide +kernel)
theorem g1107 : Cond.instanceMethod yX9_init ∈ gw := gw_at 1107 (by decide +kernel) (by decide +kernel)
theorem g1324 : Cond.methodLink "MirageLoansLaw" 17 yX9_feed ∈ gw := gw_at 1324 (by decide +kernel) (by decide +kernel)
theorem g1325 : Cond.instanceMethod yX9_feed ∈ gw := gw_at 1325 (by decide +kernel) (by decide +kernel)
theorem g1326 : Cond.selects "MirageLoansModel" yX9_feed yX9_feed ∈ gw := gw_at 1326 (by decide +kernel) (by decide +kernel)
theorem g1332 : Cond.methodLink "MirageLoansLaw" 22 yX9_back ∈ gw := gw_at 1332 (by decide +kernel) (by decide +kernel)
theorem g1333 : Cond.instanceMethod yX9_back ∈ gw := gw_at 1333 (by decide +kernel) (by decide +kernel)
theorem g1334 : Cond.selects "MirageLoansModel" yX9_back yX9_back ∈ gw := gw_at 1334 (by decide +kernel) (by decide +kernel)
theorem g1336 : Cond.methodLink "MirageLoansLaw" 27 yX9_read ∈ gw := gw_at 1336 (by decide +kernel) (by decide +kernel)
theorem g1337 : Cond.instanceMethod yX9_read ∈ gw := gw_at 1337 (by decide +kernel) (by decide +kernel)
theorem g1338 : Cond.selects "MirageLoansModel" yX9_read yX9_read ∈ gw := gw_at 1338 (by decide +kernel) (by decide +kernel)
theorem g1430 : Cond.methodLink "MirageLoansLaw" 31 yX9_place ∈ gw := gw_at 1430 (by decide +kernel) (by decide +kernel)
theorem g1431 : Cond.instanceMethod yX9_place ∈ gw := gw_at 1431 (by decide +kernel) (by decide +kernel)
theorem g1432 : Cond.selects "MirageLoansModel" yX9_place yX9_place ∈ gw := gw_at 1432 (by decide +kernel) (by decide +kernel)
theorem g1434 : Cond.methodLink "MirageLoansLaw" 36 yX9_thing ∈ gw := gw_at 1434 (by decide +kernel) (by decide +kernel)
theorem g1435 : Cond.instanceMethod yX9_thing ∈ gw := gw_at 1435 (by decide +kernel) (by decide +kernel)
theorem g1436 : Cond.selects "MirageLoansModel" yX9_thing yX9_thing ∈ gw := gw_at 1436 (by decide +kernel) (by decide +kernel)
theorem g1483 : Cond.methodLink "MirageLoansLaw" 40 yX9_seat ∈ gw := gw_at 1483 (by decide +kernel) (by decide +kernel)
theorem g1484 : Cond.instanceMethod yX9_seat ∈ gw := gw_at 1484 (by decide +kernel) (by decide +kernel)
theorem g1485 : Cond.selects "MirageLoansModel" yX9_seat yX9_seat ∈ gw := gw_at 1485 (by decide +kernel) (by decide +kernel)
theorem g1499 : Cond.methodLink "MirageLoansLaw" 45 yX9_loan ∈ gw := gw_at 1499 (by decide +kernel) (by decide +kernel)
theorem g1500 : Cond.instanceMethod yX9_loan ∈ gw := gw_at 1500 (by decide +kernel) (by decide +kernel)
theorem g1501 : Cond.selects "MirageLoansModel" yX9_loan yX9_loan ∈ gw := gw_at 1501 (by decide +kernel) (by decide +kernel)
theorem g1503 : Cond.methodLink "MirageLoansLaw" 50 yX9_tells ∈ gw := gw_at 1503 (by decide +kernel) (by decide +kernel)
theorem g1504 : Cond.instanceMethod yX9_tells ∈ gw := gw_at 1504 (by decide +kernel) (by decide +kernel)
theorem g1505 : Cond.selects "MirageLoansModel" yX9_tells yX9_tells ∈ gw := gw_at 1505 (by decide +kernel) (by decide +kernel)
theorem g1522 : Cond.methodLink "MirageLoansLaw" 54 yX9_lend ∈ gw := gw_at 1522 (by decide +kernel) (by decide +kernel)
theorem g1523 : Cond.instanceMethod yX9_lend ∈ gw := gw_at 1523 (by decide +kernel) (by decide +kernel)
theorem g1524 : Cond.selects "MirageLoansModel" yX9_lend yX9_lend ∈ gw := gw_at 1524 (by decide +kernel) (by decide +kernel)
theorem g1530 : Cond.methodLink "MirageLoansLaw" 58 yX9_call ∈ gw := gw_at 1530 (by decide +kernel) (by decide +kernel)
theorem g1531 : Cond.instanceMethod yX9_call ∈ gw := gw_at 1531 (by decide +kernel) (by decide +kernel)
theorem g1532 : Cond.selects "MirageLoansModel" yX9_call yX9_call ∈ gw := gw_at 1532 (by decide +kernel) (by decide +kernel)
theorem g1535 : Cond.methodLink "MirageLoansLaw" 63 yX9_move ∈ gw := gw_at 1535 (by decide +kernel) (by decide +kernel)
theorem g1536 : Cond.instanceMethod yX9_move ∈ gw := gw_at 1536 (by decide +kernel) (by decide +kernel)
theorem g1537 : Cond.selects "MirageLoansModel" yX9_move yX9_move ∈ gw := gw_at 1537 (by decide +kernel) (by decide +kernel)
theorem g1539 : Cond.methodLink "MirageLoansLaw" 67 yX9_hours ∈ gw := gw_at 1539 (by decide +kernel) (by decide +kernel)
theorem g1540 : Cond.instanceMethod yX9_hours ∈ gw := gw_at 1540 (by decide +kernel) (by decide +kernel)
theorem g1541 : Cond.selects "MirageLoansModel" yX9_hours yX9_hours ∈ gw := gw_at 1541 (by decide +kernel) (by decide +kernel)
theorem g1570 : Cond.methodLink "MirageLoansLaw" 72 yX9_undo ∈ gw := gw_at 1570 (by decide +kernel) (by decide +kernel)
theorem g1571 : Cond.instanceMethod yX9_undo ∈ gw := gw_at 1571 (by decide +kernel) (by decide +kernel)
theorem g1572 : Cond.selects "MirageLoansModel" yX9_undo yX9_undo ∈ gw := gw_at 1572 (by decide +kernel) (by decide +kernel)
theorem g1574 : Cond.methodLink "MirageLoansLaw" 76 yX9_sight ∈ gw := gw_at 1574 (by decide +kernel) (by decide +kernel)
theorem g1575 : Cond.instanceMethod yX9_sight ∈ gw := gw_at 1575 (by decide +kernel) (by decide +kernel)
theorem g1576 : Cond.selects "MirageLoansModel" yX9_sight yX9_sight ∈ gw := gw_at 1576 (by decide +kernel) (by decide +kernel)
theorem g1586 : Cond.methodLink "MirageLoansLaw" 80 yX9_clash ∈ gw := gw_at 1586 (by decide +kernel) (by decide +kernel)
theorem g1587 : Cond.instanceMethod yX9_clash ∈ gw := gw_at 1587 (by decide +kernel) (by decide +kernel)
theorem g1588 : Cond.selects "MirageLoansModel" yX9_clash yX9_clash ∈ gw := gw_at 1588 (by decide +kernel) (by decide +kernel)
theorem g1594 : Cond.methodLink "MirageLoansLaw" 84 yX9_longFrom ∈ gw := gw_at 1594 (by decide +kernel) (by decide +kernel)
theorem g1595 : Cond.instanceMethod yX9_longFrom ∈ gw := gw_at 1595 (by decide +kernel) (by decide +kernel)
theorem g1596 : Cond.selects "MirageLoansModel" yX9_longFrom yX9_longFrom ∈ gw := gw_at 1596 (by decide +kernel) (by decide +kernel)
theorem g1605 : Cond.methodLink "MirageLoansLaw" 88 yX9_best ∈ gw := gw_at 1605 (by decide +kernel) (by decide +kernel)
theorem g1606 : Cond.instanceMethod yX9_best ∈ gw := gw_at 1606 (by decide +kernel) (by decide +kernel)
theorem g1607 : Cond.selects "MirageLoansModel" yX9_best yX9_best ∈ gw := gw_at 1607 (by decide +kernel) (by decide +kernel)
theorem g1609 : Cond.methodLink "MirageLoansLaw" 92 yX9_dawns ∈ gw := gw_at 1609 (by decide +kernel) (by decide +kernel)
theorem g1610 : Cond.instanceMethod yX9_dawns ∈ gw := gw_at 1610 (by decide +kernel) (by decide +kernel)
theorem g1611 : Cond.selects "MirageLoansModel" yX9_dawns yX9_dawns ∈ gw := gw_at 1611 (by decide +kernel) (by decide +kernel)
theorem g1613 : Cond.methodLink "MirageLoansLaw" 96 yX9_near ∈ gw := gw_at 1613 (by decide +kernel) (by decide +kernel)
theorem g1614 : Cond.instanceMethod yX9_near ∈ gw := gw_at 1614 (by decide +kernel) (by decide +kernel)
theorem g1615 : Cond.selects "MirageLoansModel" yX9_near yX9_near ∈ gw := gw_at 1615 (by decide +kernel) (by decide +kernel)
theorem g1617 : Cond.methodLink "MirageLoansLaw" 100 yX9_crowd ∈ gw := gw_at 1617 (by decide +kernel) (by decide +kernel)
theorem g1618 : Cond.instanceMethod yX9_crowd ∈ gw := gw_at 1618 (by decide +kernel) (by decide +kernel)
theorem g1619 : Cond.selects "MirageLoansModel" yX9_crowd yX9_crowd ∈ gw := gw_at 1619 (by decide +kernel) (by decide +kernel)
theorem g1621 : Cond.methodLink "MirageLoansLaw" 108 yX9_umbrellas ∈ gw := gw_at 1621 (by decide +kernel) (by decide +kernel)
theorem g1622 : Cond.instanceMethod yX9_umbrellas ∈ gw := gw_at 1622 (by decide +kernel) (by decide +kernel)
theorem g1623 : Cond.selects "MirageLoansModel" yX9_umbrellas yX9_umbrellas ∈ gw := gw_at 1623 (by decide +kernel) (by decide +kernel)
theorem g1636 : Cond.methodLink "MirageLoansLaw" 112 yX9_worth ∈ gw := gw_at 1636 (by decide +kernel) (by decide +kernel)
theorem g1637 : Cond.instanceMethod yX9_worth ∈ gw := gw_at 1637 (by decide +kernel) (by decide +kernel)
theorem g1638 : Cond.selects "MirageLoansModel" yX9_worth yX9_worth ∈ gw := gw_at 1638 (by decide +kernel) (by decide +kernel)
theorem g1641 : Cond.methodLink "MirageLoansLaw" 116 yX9_book ∈ gw := gw_at 1641 (by decide +kernel) (by decide +kernel)
theorem g1642 : Cond.instanceMethod yX9_book ∈ gw := gw_at 1642 (by decide +kernel) (by decide +kernel)
theorem g1643 : Cond.selects "MirageLoansModel" yX9_book yX9_book ∈ gw := gw_at 1643 (by decide +kernel) (by decide +kernel)
theorem g1645 : Cond.methodLink "MirageLoansLaw" 104 yX9_rich ∈ gw := gw_at 1645 (by decide +kernel) (by decide +kernel)
theorem g1646 : Cond.instanceMethod yX9_rich ∈ gw := gw_at 1646 (by decide +kernel) (by decide +kernel)
theorem g1647 : Cond.selects "MirageLoansModel" yX9_rich yX9_rich ∈ gw := gw_at 1647 (by decide +kernel) (by decide +kernel)
theorem g1649 : Cond.methodLink "MirageLoansLaw" 120 yX9_hidden ∈ gw := gw_at 1649 (by decide +kernel) (by decide +kernel)
theorem g1650 : Cond.instanceMethod yX9_hidden ∈ gw := gw_at 1650 (by decide +kernel) (by decide +kernel)
theorem g1651 : Cond.selects "MirageLoansModel" yX9_hidden yX9_hidden ∈ gw := gw_at 1651 (by decide +kernel) (by decide +kernel)
theorem g1657 : Cond.methodLink "MirageLoansLaw" 124 yX9_cool ∈ gw := gw_at 1657 (by decide +kernel) (by decide +kernel)
theorem g1658 : Cond.instanceMethod yX9_cool ∈ gw := gw_at 1658 (by decide +kernel) (by decide +kernel)
theorem g1659 : Cond.selects "MirageLoansModel" yX9_cool yX9_cool ∈ gw := gw_at 1659 (by decide +kernel) (by decide +kernel)
theorem g1661 : Cond.methodLink "MirageLoansLaw" 128 yX9_heatIn ∈ gw := gw_at 1661 (by decide +kernel) (by decide +kernel)
theorem g1662 : Cond.instanceMethod yX9_heatIn ∈ gw := gw_at 1662 (by decide +kernel) (by decide +kernel)
theorem g1663 : Cond.selects "MirageLoansModel" yX9_heatIn yX9_heatIn ∈ gw := gw_at 1663 (by decide +kernel) (by decide +kernel)
theorem g1665 : Cond.methodLink "MirageLoansLaw" 132 yX9_lentIn ∈ gw := gw_at 1665 (by decide +kernel) (by decide +kernel)
theorem g1666 : Cond.instanceMethod yX9_lentIn ∈ gw := gw_at 1666 (by decide +kernel) (by decide +kernel)
theorem g1667 : Cond.selects "MirageLoansModel" yX9_lentIn yX9_lentIn ∈ gw := gw_at 1667 (by decide +kernel) (by decide +kernel)
theorem g1669 : Cond.methodLink "MirageLoansLaw" 136 yX9_year ∈ gw := gw_at 1669 (by decide +kernel) (by decide +kernel)
theorem g1670 : Cond.instanceMethod yX9_year ∈ gw := gw_at 1670 (by decide +kernel) (by decide +kernel)
theorem g1671 : Cond.selects "MirageLoansModel" yX9_year yX9_year ∈ gw := gw_at 1671 (by decide +kernel) (by decide +kernel)
theorem g1673 : Cond.methodLink "MirageLoansLaw" 140 yX9_tell ∈ gw := gw_at 1673 (by decide +kernel) (by decide +kernel)
theorem g1674 : Cond.instanceMethod yX9_tell ∈ gw := gw_at 1674 (by decide +kernel) (by decide +kernel)
theorem g1675 : Cond.selects "MirageLoansModel" yX9_tell yX9_tell ∈ gw := gw_at 1675 (by decide +kernel) (by decide +kernel)
theorem g1677 : Cond.methodLink "MirageLoansLaw" 144 yX9_forget ∈ gw := gw_at 1677 (by decide +kernel) (by decide +kernel)
theorem g1678 : Cond.instanceMethod yX9_forget ∈ gw := gw_at 1678 (by decide +kernel) (by decide +kernel)
theorem g1679 : Cond.selects "MirageLoansModel" yX9_forget yX9_forget ∈ gw := gw_at 1679 (by decide +kernel) (by decide +kernel)
theorem g1681 : Cond.methodLink "MirageLoansLaw" 148 yX9_stands ∈ gw := gw_at 1681 (by decide +kernel) (by decide +kernel)
theorem g1682 : Cond.instanceMethod yX9_stands ∈ gw := gw_at 1682 (by decide +kernel) (by decide +kernel)
theorem g1683 : Cond.selects "MirageLoansModel" yX9_stands yX9_stands ∈ gw := gw_at 1683 (by decide +kernel) (by decide +kernel)
theorem g1689 : Cond.methodLink "MirageLoansLaw" 152 yX9_sure ∈ gw := gw_at 1689 (by decide +kernel) (by decide +kernel)
theorem g1690 : Cond.instanceMethod yX9_sure ∈ gw := gw_at 1690 (by decide +kernel) (by decide +kernel)
theorem g1691 : Cond.selects "MirageLoansModel" yX9_sure yX9_sure ∈ gw := gw_at 1691 (by decide +kernel) (by decide +kernel)
theorem g1693 : Cond.methodLink "MirageLoansLaw" 156 yX9_look ∈ gw := gw_at 1693 (by decide +kernel) (by decide +kernel)
theorem g1694 : Cond.instanceMethod yX9_look ∈ gw := gw_at 1694 (by decide +kernel) (by decide +kernel)
theorem g1695 : Cond.selects "MirageLoansModel" yX9_look yX9_look ∈ gw := gw_at 1695 (by decide +kernel) (by decide +kernel)
theorem g1697 : Cond.methodLink "MirageLoansLaw" 161 yX9_hold ∈ gw := gw_at 1697 (by decide +kernel) (by decide +kernel)
theorem g1698 : Cond.instanceMethod yX9_hold ∈ gw := gw_at 1698 (by decide +kernel) (by decide +kernel)
theorem g1699 : Cond.selects "MirageLoansModel" yX9_hold yX9_hold ∈ gw := gw_at 1699 (by decide +kernel) (by decide +kernel)
theorem g1701 : Cond.methodLink "MirageLoansLaw" 165 yX9_restore ∈ gw := gw_at 1701 (by decide +kernel) (by decide +kernel)
theorem g1702 : Cond.instanceMethod yX9_restore ∈ gw := gw_at 1702 (by decide +kernel) (by decide +kernel)
theorem g1703 : Cond.selects "MirageLoansModel" yX9_restore yX9_restore ∈ gw := gw_at 1703 (by decide +kernel) (by decide +kernel)
theorem g1705 : Cond.methodLink "MirageLoansLaw" 169 yX9_count ∈ gw := gw_at 1705 (by decide +kernel) (by decide +kernel)
theorem g1706 : Cond.instanceMethod yX9_count ∈ gw := gw_at 1706 (by decide +kernel) (by decide +kernel)
theorem g1707 : Cond.selects "MirageLoansModel" yX9_count yX9_count ∈ gw := gw_at 1707 (by decide +kernel) (by decide +kernel)
/-! THE CLAIM OUT OF ONE WALK OF THE LAW'S BODY. Your part is whole_start (and what it stands on); all else here is the same for every law, but numbers. -/
def R_law : String := "MirageLoansLaw"
def lw_P (b : Addr) (xs : List Int32) (args : Array Value) (s : State) : Prop := args = #[.ref b] ∧ s.IntsAt b xs ∧ xs.length ≤ 3072 ∧ (Jvm.Cond.and given_1 narrow_1).before args s = true
def lw_Q (_ : Array Value) (s : State) (o : Outcome) (t : State) : Prop := o = .returned (some (.int 1)) ∧ Framed s o t [] 600000 7302250
def lw_Z (below : List Frame) (a : Array Value) (s : State) : State → Prop := fun t => ∃ o, t.status = .running ∧ Ended t below o ∧ lw_Q a s o t
/-- the law's own end, with 1 on the stack, nothing written that was there before, its room as the claim has it -/
theorem lw_ret {p : Program} {l : Launch} {e : Env} {s : State} {m : MethodId} {below : List Frame} {meth : Method} {c : Code} {b : Nat} (hx : p.tables.exec = Jvm.exec) (hb : c.code = code) (hr : meth.sig.returnType = ret) (hlocks : meth.locks = false) {pc : Nat} {H : Heap} {ls : Array Slot} (hdg : decode code pc = .ok (.ireturn, 1)) : W p l e room_1 s m #[Value.ref b] below meth c H [] 600000 7302250 (lw_Z below #[Value.ref b] s) (F0 m pc ls [.int 1]) := by
  intro T hT X
  obtain ⟨fs, hret, hrun, hended, hW, hframe⟩ := X.leave (v := some (.int 1)) (hlocks := hlocks) (fun h => by rw [hr] at h; cases h)
  have hmeth' : T.vm.method? m = some meth := X.method'
  refine ⟨T.setFrames fs, ?_, .returned (some (.int 1)), hrun, hended, rfl, ⟨_, rfl⟩, hW, hframe⟩
  jvm_step X.here [X.here.top, hx, hb, hdg, hmeth', hr, ret, narrow_b1]
  (try refine ⟨rfl, ?_⟩); (try refine ⟨rfl, ?_⟩)
  first | (intro acts; rw [hret _ acts rfl rfl rfl]) | rw [hret _ _ rfl rfl rfl]
  exact Steps.refl _
/-- what holds at the law's entry: the machine, the code, the tables' words (any of lw_tbl by 'hts w (by decide +kernel)'), the script of L ints xs at the cell b, what the Statement gives of the start (any of its parts by flat_of_before) -/
def lw_At (p : Program) (s : State) (m : MethodId) (meth : Method) (c : Code) (b L : Nat) (xs : Nat → Int32) : Prop :=
  p.tables.exec = Jvm.exec ∧ c.code = code ∧ meth.sig.returnType = ret ∧ c.maxLocals = 4 ∧ s.vm.findClass R_law = some m.cls ∧ (∀ w ∈ lw_tbl, w.before #[Value.ref b] s = true) ∧ va_X b L xs s s.heap ∧ b < s.heap.size ∧ meth.locks = false ∧ (Jvm.Cond.and given_1 narrow_1).before #[Value.ref b] s = true

theorem gw_tbl {w : Cond} (h : w ∈ gw) : w ∈ lw_tbl := (List.mem_filter.mp h).1
/-! ===== what holds at the start ===== -/
def zFl : List Cond := flatC (Jvm.Cond.and given_1 narrow_1)
theorem zfl_at (i : Nat) {w : Cond} (h : zFl[i]? = some w) : w ∈ zFl := List.mem_of_getElem? h
theorem zfl_0 : ∀ j, j < 121 → zFl[13 + j]? = some (Cond.eq (.elem (.field (.string "MirageLoans$Tokens" 29) "java/lang/String" "value" "[B") (.int (Int32.ofNat j))) (.int ((qByt.getD 0 []).getD j 0))) := by decide +kernel
theorem zfl_1 : ∀ j, j < 9 → zFl[138 + j]? = some (Cond.eq (.elem (.field (.string "MirageLoans$Tokens" 71) "java/lang/String" "value" "[B") (.int (Int32.ofNat j))) (.int ((qByt.getD 1 []).getD j 0))) := by decide +kernel
def zTm (i : Nat) : Term := .string "MirageLoans$Tokens" (if i = 0 then 29 else 71)
theorem zinst {ci : Nat} (h : ci < 10) : Cond.instantiable (qC ci) (qNF ci) ∈ gw := by
  rcases (show ci = 0 ∨ ci = 1 ∨ ci = 2 ∨ ci = 3 ∨ ci = 4 ∨ ci = 5 ∨ ci = 6 ∨ ci = 7 ∨ ci = 8 ∨ ci = 9 by omega) with rfl | rfl | rfl | rfl | rfl | rfl | rfl | rfl | rfl | rfl
  · exact g226
  · exact g140
  · exact g232
  · exact g404
  · exact g362
  · exact g124
  · exact g146
  · exact g424
  · exact g116
  · exact g1105
theorem zW_ao : Cond.arrayOver (.object "MirageLoans$State") ∈ lw_tbl := List.mem_of_getElem? (i := 410) (by decide +kernel)
theorem zW_s1 : Cond.laysStatic "java/lang/String" "COMPACT_STRINGS" "Z" ∈ lw_tbl := List.mem_of_getElem? (i := 161) (by decide +kernel)
theorem zW_s2 : Cond.laysStatic "jdk/internal/util/Preconditions" "SIOOBE_FORMATTER" "Ljava/util/function/BiFunction;" ∈ lw_tbl := List.mem_of_getElem? (i := 177) (by decide +kernel)
theorem zW_t0 : Cond.stringRef "MirageLoans$Tokens" qTx0 qText0 ∈ lw_tbl := List.mem_of_getElem? (i := 151) (by decide +kernel)
theorem zW_t1 : Cond.stringRef "MirageLoans$Tokens" qTx1 qText1 ∈ lw_tbl := List.mem_of_getElem? (i := 558) (by decide +kernel)
theorem zW_n : ∀ q ∈ qNest, Cond.methodLinkNest q.1 q.2.1 q.2.2.1 q.2.2.2 ∈ lw_tbl := by
  intro q hq
  simp only [qNest, List.mem_cons, List.not_mem_nil, or_false] at hq
  rcases hq with rfl | rfl | rfl | rfl | rfl | rfl | rfl | rfl | rfl
  · exact List.mem_of_getElem? (i := 125) (by decide +kernel)
  · exact List.mem_of_getElem? (i := 141) (by decide +kernel)
  · exact List.mem_of_getElem? (i := 233) (by decide +kernel)
  · exact List.mem_of_getElem? (i := 363) (by decide +kernel)
  · exact List.mem_of_getElem? (i := 411) (by decide +kernel)
  · exact List.mem_of_getElem? (i := 425) (by decide +kernel)
  · exact List.mem_of_getElem? (i := 740) (by decide +kernel)
  · exact List.mem_of_getElem? (i := 792) (by decide +kernel)
  · exact List.mem_of_getElem? (i := 884) (by decide +kernel)
theorem zarr {args : Array Value} {s : State} {ty : FieldType} (h : (Cond.arrayClass ty).before args s = true) : ∃ c, ArrOfT s c ty ∧ s.vm.findClass ("[" ++ ty.toString) = some c := by
  obtain ⟨c, k, comp, h1, h2, h3⟩ := Cond.arrayClass_spec h
  exact ⟨c, fun n z => ⟨fun k q => (by cases q), k, h2, comp, h3⟩, h1⟩
theorem zctx {p : Program} {s : State} {m : MethodId} {meth : Method} {c : Code} {b L : Nat} {xs : Nat → Int32} (C0 : lw_At p s m meth c b L xs) : ∃ G : qG, G.1 = s.heap.size ∧ qCx G s ∧ qHx G s s.heap := by
  obtain ⟨hx, hb, hr, hml, hown, hts, hX, hbl, hlocks, hgv⟩ := id C0
  have hs : ∀ w ∈ zFl, w.before #[Value.ref b] s = true := flat_of_before _ hgv
  have h0 : ∀ ci : Nat, ∃ q : ClassId × (Nat → Nat), ci < 10 → u_Kn s (qC ci) (qT ci) (qNF ci) q.1 q.2 := by
    intro ci
    by_cases h : ci < 10
    · obtain ⟨cC, iS, hk⟩ := u_known (C := qC ci) (T := qT ci) (N := qNF ci) (n := qNF ci) hts (fun w hw => gw_tbl (qLays h w hw)) (hts _ (gw_tbl (zinst h)))
      exact ⟨(cC, iS), fun _ => hk⟩
    · exact ⟨(0, fun _ => 0), fun q => absurd q h⟩
  obtain ⟨cl, hcl⟩ := Classical.axiomOfChoice h0
  obtain ⟨a10, b10, n10⟩ := zarr (hts _ (gw_tbl g224))
  obtain ⟨a11, b11, n11⟩ := zarr (hts _ (gw_tbl g138))
  obtain ⟨a12, b12, n12⟩ := zarr (hts _ (gw_tbl g449))
  obtain ⟨a13, b13, n13⟩ := zarr (hts _ (gw_tbl g223))
  have hao := hts _ zW_ao
  obtain ⟨comp, a14, k14, r1, r2, r3, r4, r5⟩ := Cond.arrayOver_spec hao
  have hA : ∀ a : Nat, a < s.heap.size → ¬ (fun q => s.heap.size ≤ q) a := fun a h => Nat.not_le.mpr h
  obtain ⟨adK, adV, hS, hE⟩ := vk_Sof (args := #[Value.ref b]) (s := s) (N := 2) (tm := zTm) (len := qLen) (byt := qByt) (A := fun q => s.heap.size ≤ q)
    (fun i hi => by rcases (show i = 0 ∨ i = 1 by omega) with rfl | rfl <;> decide)
    (fun i hi => by
      rcases (show i = 0 ∨ i = 1 by omega) with rfl | rfl
      · exact hs _ (zfl_at 9 (by decide +kernel))
      · exact hs _ (zfl_at 134 (by decide +kernel)))
    (fun i hi => by
      rcases (show i = 0 ∨ i = 1 by omega) with rfl | rfl
      · exact hs _ (zfl_at 10 (by decide +kernel))
      · exact hs _ (zfl_at 135 (by decide +kernel)))
    (fun i hi => by
      rcases (show i = 0 ∨ i = 1 by omega) with rfl | rfl
      · exact hs _ (zfl_at 11 (by decide +kernel))
      · exact hs _ (zfl_at 136 (by decide +kernel)))
    (fun i hi => by
      rcases (show i = 0 ∨ i = 1 by omega) with rfl | rfl
      · exact hs _ (zfl_at 12 (by decide +kernel))
      · exact hs _ (zfl_at 137 (by decide +kernel)))
    (fun i hi j hj => by
      rcases (show i = 0 ∨ i = 1 by omega) with rfl | rfl
      · exact hs _ (zfl_at (13 + j) (zfl_0 j hj))
      · exact hs _ (zfl_at (138 + j) (zfl_1 j hj)))
    (fun i j hi hj hij => by
      rcases (show i = 0 ∨ i = 1 by omega) with rfl | rfl <;> rcases (show j = 0 ∨ j = 1 by omega) with rfl | rfl
      · exact absurd rfl hij
      · exact Or.inl (hs _ (zfl_at 147 (by decide +kernel)))
      · exact Or.inr (hs _ (zfl_at 147 (by decide +kernel)))
      · exact absurd rfl hij) hA
  have hZ1 := va_Zof (A := fun q => s.heap.size ≤ q) (hts _ zW_s1) (hts _ (gw_tbl g101)) (va_eqt (z := 1) (hs _ (zfl_at 4 (by decide +kernel)))) hA
  obtain ⟨v, hv1, hv2⟩ := Cond.isRef_spec (hs _ (zfl_at (w := Cond.isRef (.static "jdk/internal/util/Preconditions" "SIOOBE_FORMATTER" "Ljava/util/function/BiFunction;")) 5 (by decide +kernel)))
  have hv3 : ∃ o : Option Nat, v = va_rf o := by
    cases v with
    | null => exact ⟨none, rfl⟩
    | ref a => exact ⟨some a, rfl⟩
    | _ => cases hv2
  obtain ⟨o, rfl⟩ := hv3
  have hZ2 := va_Zof (A := fun q => s.heap.size ≤ q) (hts _ zW_s2) (hts _ (gw_tbl g103)) hv1 hA
  refine ⟨(s.heap.size, fun k => (cl k).1, fun k => (cl k).2, fun k => if k = 10 then a10 else if k = 11 then a11 else if k = 12 then a12 else if k = 13 then a13 else a14, adK, adV, o), rfl, ⟨⟨?_, ?_⟩, hao, fun q hq => hts _ (zW_n q hq), ⟨hts _ zW_t0, hE 0 (by omega)⟩, ⟨hts _ zW_t1, hE 1 (by omega)⟩⟩, hS, hZ1, hZ2⟩
  · intro k q hq
    have hk : k < 10 := (List.getElem?_eq_some_iff.mp hq).1
    rw [qCl hk] at hq
    cases hq
    exact hcl k hk
  · intro k q hq
    match k, hq with
    | 0, hq => cases hq; exact ⟨b10, n10⟩
    | 1, hq => cases hq; exact ⟨b11, n11⟩
    | 2, hq => cases hq; exact ⟨b12, n12⟩
    | 3, hq => cases hq; exact ⟨b13, n13⟩
    | 4, hq => cases hq; exact ⟨fun n z => ⟨fun k q => (by cases q), k14, r3, comp, r4⟩, k14, comp, r3, r4, r1, r5⟩
    | k + 5, hq => simp [qTys] at hq
