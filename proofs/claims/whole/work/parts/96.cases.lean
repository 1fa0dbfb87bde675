/-! the law's cases (written by program). -/
theorem Go.cLw {G : aG} {l : Launch} {R : Room} {Tm : List Frame → Array Value → State → State → Prop} {M : aM} {n cells slots pc : Nat} {lv : List (Nat × Value)} {S : aSt} {y : MethodName} {M' : aM} {rm : Room} {ix k tag : Nat} {r : Value} {S' : aSt} {st0 : List Value} (pc' : Nat) (As st : List Value) (hp : pc + 3 = pc') (hd : decode M.1 pc = .ok (.invokevirtual ix, 3)) (hM : Ctr G l y M' rm n (n + rm.cells) S (.ref k :: As) (some r) S') (hw : aCV M.2.2.2.1 ix y tag M' As.length) (hk : k < n) (ht : (SH k).1 = tag) (hR : rm.frames + 1 ≤ R.frames ∧ 8 + (M'.2.1 + 11) + rm.locals ≤ R.locals) (hc : cells + rm.cells ≤ R.cells ∧ slots + rm.slots ≤ R.slots) (hs : st0 = As.reverse ++ .ref k :: st) (hst : (st.map fun v => v.category).sum ≤ 8) (kk : Go G l R Tm M (n + rm.cells) (cells + rm.cells) (slots + rm.slots) pc' lv (r :: st) S') : Go G l R Tm M n cells slots pc lv st0 S :=
  Go.callV pc' As st hp hd hM hw hk ht hR hc hs hst kk

theorem cvL_13 : aCV RL 13 yX6_row 5 mX6_row 2 := ⟨⟨TX6, 12, rfl⟩, am_mem 288 (by decide +kernel) rfl, am_mem 289 (by decide +kernel) rfl, am_mem 290 (by decide +kernel) rfl, am_mem 52 (by decide +kernel) rfl, am_mem 291 (by decide +kernel) rfl, by decide +kernel, by decide +kernel, by decide +kernel⟩
theorem cvL_17 : aCV RL 17 yX7_row 6 mX7_row 2 := ⟨⟨TX7, 21, rfl⟩, am_mem 903 (by decide +kernel) rfl, am_mem 904 (by decide +kernel) rfl, am_mem 905 (by decide +kernel) rfl, am_mem 60 (by decide +kernel) rfl, am_mem 906 (by decide +kernel) rfl, by decide +kernel, by decide +kernel, by decide +kernel⟩
theorem cvL_18 : aCV RL 18 yX6_lay 5 mX6_lay 3 := ⟨⟨TX6, 12, rfl⟩, am_mem 307 (by decide +kernel) rfl, am_mem 308 (by decide +kernel) rfl, am_mem 309 (by decide +kernel) rfl, am_mem 52 (by decide +kernel) rfl, am_mem 310 (by decide +kernel) rfl, by decide +kernel, by decide +kernel, by decide +kernel⟩
theorem cvL_22 : aCV RL 22 yX7_lay 6 mX7_lay 3 := ⟨⟨TX7, 21, rfl⟩, am_mem 918 (by decide +kernel) rfl, am_mem 919 (by decide +kernel) rfl, am_mem 920 (by decide +kernel) rfl, am_mem 60 (by decide +kernel) rfl, am_mem 921 (by decide +kernel) rfl, by decide +kernel, by decide +kernel, by decide +kernel⟩
theorem cvL_23 : aCV RL 23 yX6_at 5 mX6_at 2 := ⟨⟨TX6, 12, rfl⟩, am_mem 319 (by decide +kernel) rfl, am_mem 320 (by decide +kernel) rfl, am_mem 321 (by decide +kernel) rfl, am_mem 52 (by decide +kernel) rfl, am_mem 322 (by decide +kernel) rfl, by decide +kernel, by decide +kernel, by decide +kernel⟩
theorem cvL_26 : aCV RL 26 yX7_at 6 mX7_at 2 := ⟨⟨TX7, 21, rfl⟩, am_mem 926 (by decide +kernel) rfl, am_mem 927 (by decide +kernel) rfl, am_mem 928 (by decide +kernel) rfl, am_mem 60 (by decide +kernel) rfl, am_mem 929 (by decide +kernel) rfl, by decide +kernel, by decide +kernel, by decide +kernel⟩
theorem cvL_27 : aCV RL 27 yX6_tear 5 mX6_tear 1 := ⟨⟨TX6, 12, rfl⟩, am_mem 323 (by decide +kernel) rfl, am_mem 324 (by decide +kernel) rfl, am_mem 325 (by decide +kernel) rfl, am_mem 52 (by decide +kernel) rfl, am_mem 326 (by decide +kernel) rfl, by decide +kernel, by decide +kernel, by decide +kernel⟩
theorem cvL_31 : aCV RL 31 yX7_tear 6 mX7_tear 1 := ⟨⟨TX7, 21, rfl⟩, am_mem 930 (by decide +kernel) rfl, am_mem 931 (by decide +kernel) rfl, am_mem 932 (by decide +kernel) rfl, am_mem 60 (by decide +kernel) rfl, am_mem 933 (by decide +kernel) rfl, by decide +kernel, by decide +kernel, by decide +kernel⟩
theorem cvL_32 : aCV RL 32 yX6_copy 5 mX6_copy 5 := ⟨⟨TX6, 12, rfl⟩, am_mem 327 (by decide +kernel) rfl, am_mem 328 (by decide +kernel) rfl, am_mem 329 (by decide +kernel) rfl, am_mem 52 (by decide +kernel) rfl, am_mem 330 (by decide +kernel) rfl, by decide +kernel, by decide +kernel, by decide +kernel⟩
theorem cvL_36 : aCV RL 36 yX7_copy 6 mX7_copy 5 := ⟨⟨TX7, 21, rfl⟩, am_mem 934 (by decide +kernel) rfl, am_mem 935 (by decide +kernel) rfl, am_mem 936 (by decide +kernel) rfl, am_mem 60 (by decide +kernel) rfl, am_mem 937 (by decide +kernel) rfl, by decide +kernel, by decide +kernel, by decide +kernel⟩
theorem cvL_37 : aCV RL 37 yX6_mean 5 mX6_mean 1 := ⟨⟨TX6, 12, rfl⟩, am_mem 338 (by decide +kernel) rfl, am_mem 339 (by decide +kernel) rfl, am_mem 340 (by decide +kernel) rfl, am_mem 52 (by decide +kernel) rfl, am_mem 341 (by decide +kernel) rfl, by decide +kernel, by decide +kernel, by decide +kernel⟩
theorem cvL_40 : aCV RL 40 yX7_mean 6 mX7_mean 1 := ⟨⟨TX7, 21, rfl⟩, am_mem 938 (by decide +kernel) rfl, am_mem 939 (by decide +kernel) rfl, am_mem 940 (by decide +kernel) rfl, am_mem 60 (by decide +kernel) rfl, am_mem 941 (by decide +kernel) rfl, by decide +kernel, by decide +kernel, by decide +kernel⟩
theorem cvL_41 : aCV RL 41 yX6_text 5 mX6_text 2 := ⟨⟨TX6, 12, rfl⟩, am_mem 342 (by decide +kernel) rfl, am_mem 343 (by decide +kernel) rfl, am_mem 344 (by decide +kernel) rfl, am_mem 52 (by decide +kernel) rfl, am_mem 345 (by decide +kernel) rfl, by decide +kernel, by decide +kernel, by decide +kernel⟩
theorem cvL_44 : aCV RL 44 yX7_text 6 mX7_text 2 := ⟨⟨TX7, 21, rfl⟩, am_mem 942 (by decide +kernel) rfl, am_mem 943 (by decide +kernel) rfl, am_mem 944 (by decide +kernel) rfl, am_mem 60 (by decide +kernel) rfl, am_mem 945 (by decide +kernel) rfl, by decide +kernel, by decide +kernel, by decide +kernel⟩
theorem cvL_45 : aCV RL 45 yX6_put 5 mX6_put 3 := ⟨⟨TX6, 12, rfl⟩, am_mem 349 (by decide +kernel) rfl, am_mem 350 (by decide +kernel) rfl, am_mem 351 (by decide +kernel) rfl, am_mem 52 (by decide +kernel) rfl, am_mem 352 (by decide +kernel) rfl, by decide +kernel, by decide +kernel, by decide +kernel⟩
theorem cvL_48 : aCV RL 48 yX7_put 6 mX7_put 3 := ⟨⟨TX7, 21, rfl⟩, am_mem 950 (by decide +kernel) rfl, am_mem 951 (by decide +kernel) rfl, am_mem 952 (by decide +kernel) rfl, am_mem 60 (by decide +kernel) rfl, am_mem 953 (by decide +kernel) rfl, by decide +kernel, by decide +kernel, by decide +kernel⟩
theorem cvL_49 : aCV RL 49 yX6_fault 5 mX6_fault 1 := ⟨⟨TX6, 12, rfl⟩, am_mem 353 (by decide +kernel) rfl, am_mem 354 (by decide +kernel) rfl, am_mem 355 (by decide +kernel) rfl, am_mem 52 (by decide +kernel) rfl, am_mem 356 (by decide +kernel) rfl, by decide +kernel, by decide +kernel, by decide +kernel⟩
theorem cvL_52 : aCV RL 52 yX7_fault 6 mX7_fault 1 := ⟨⟨TX7, 21, rfl⟩, am_mem 954 (by decide +kernel) rfl, am_mem 955 (by decide +kernel) rfl, am_mem 956 (by decide +kernel) rfl, am_mem 60 (by decide +kernel) rfl, am_mem 957 (by decide +kernel) rfl, by decide +kernel, by decide +kernel, by decide +kernel⟩
theorem cvL_53 : aCV RL 53 yX6_library 5 mX6_library 1 := ⟨⟨TX6, 12, rfl⟩, am_mem 382 (by decide +kernel) rfl, am_mem 383 (by decide +kernel) rfl, am_mem 384 (by decide +kernel) rfl, am_mem 52 (by decide +kernel) rfl, am_mem 385 (by decide +kernel) rfl, by decide +kernel, by decide +kernel, by decide +kernel⟩
theorem cvL_56 : aCV RL 56 yX7_library 6 mX7_library 1 := ⟨⟨TX7, 21, rfl⟩, am_mem 983 (by decide +kernel) rfl, am_mem 984 (by decide +kernel) rfl, am_mem 985 (by decide +kernel) rfl, am_mem 60 (by decide +kernel) rfl, am_mem 986 (by decide +kernel) rfl, by decide +kernel, by decide +kernel, by decide +kernel⟩
theorem cvL_57 : aCV RL 57 yX6_card 5 mX6_card 2 := ⟨⟨TX6, 12, rfl⟩, am_mem 386 (by decide +kernel) rfl, am_mem 387 (by decide +kernel) rfl, am_mem 388 (by decide +kernel) rfl, am_mem 52 (by decide +kernel) rfl, am_mem 389 (by decide +kernel) rfl, by decide +kernel, by decide +kernel, by decide +kernel⟩
theorem cvL_60 : aCV RL 60 yX7_card 6 mX7_card 2 := ⟨⟨TX7, 21, rfl⟩, am_mem 990 (by decide +kernel) rfl, am_mem 991 (by decide +kernel) rfl, am_mem 992 (by decide +kernel) rfl, am_mem 60 (by decide +kernel) rfl, am_mem 993 (by decide +kernel) rfl, by decide +kernel, by decide +kernel, by decide +kernel⟩
theorem cvL_61 : aCV RL 61 yX6_question 5 mX6_question 2 := ⟨⟨TX6, 12, rfl⟩, am_mem 409 (by decide +kernel) rfl, am_mem 410 (by decide +kernel) rfl, am_mem 411 (by decide +kernel) rfl, am_mem 52 (by decide +kernel) rfl, am_mem 412 (by decide +kernel) rfl, by decide +kernel, by decide +kernel, by decide +kernel⟩
theorem cvL_64 : aCV RL 64 yX7_question 6 mX7_question 2 := ⟨⟨TX7, 21, rfl⟩, am_mem 1010 (by decide +kernel) rfl, am_mem 1011 (by decide +kernel) rfl, am_mem 1012 (by decide +kernel) rfl, am_mem 60 (by decide +kernel) rfl, am_mem 1013 (by decide +kernel) rfl, by decide +kernel, by decide +kernel, by decide +kernel⟩
theorem cvL_65 : aCV RL 65 yX6_mark 5 mX6_mark 2 := ⟨⟨TX6, 12, rfl⟩, am_mem 421 (by decide +kernel) rfl, am_mem 422 (by decide +kernel) rfl, am_mem 423 (by decide +kernel) rfl, am_mem 52 (by decide +kernel) rfl, am_mem 424 (by decide +kernel) rfl, by decide +kernel, by decide +kernel, by decide +kernel⟩
theorem cvL_68 : aCV RL 68 yX7_mark 6 mX7_mark 2 := ⟨⟨TX7, 21, rfl⟩, am_mem 1018 (by decide +kernel) rfl, am_mem 1019 (by decide +kernel) rfl, am_mem 1020 (by decide +kernel) rfl, am_mem 60 (by decide +kernel) rfl, am_mem 1021 (by decide +kernel) rfl, by decide +kernel, by decide +kernel, by decide +kernel⟩
theorem cvL_69 : aCV RL 69 yX6_shelve 5 mX6_shelve 2 := ⟨⟨TX6, 12, rfl⟩, am_mem 453 (by decide +kernel) rfl, am_mem 454 (by decide +kernel) rfl, am_mem 455 (by decide +kernel) rfl, am_mem 52 (by decide +kernel) rfl, am_mem 456 (by decide +kernel) rfl, by decide +kernel, by decide +kernel, by decide +kernel⟩
theorem cvL_72 : aCV RL 72 yX7_shelve 6 mX7_shelve 2 := ⟨⟨TX7, 21, rfl⟩, am_mem 1033 (by decide +kernel) rfl, am_mem 1034 (by decide +kernel) rfl, am_mem 1035 (by decide +kernel) rfl, am_mem 60 (by decide +kernel) rfl, am_mem 1036 (by decide +kernel) rfl, by decide +kernel, by decide +kernel, by decide +kernel⟩
theorem cvL_73 : aCV RL 73 yX6_age 5 mX6_age 2 := ⟨⟨TX6, 12, rfl⟩, am_mem 457 (by decide +kernel) rfl, am_mem 458 (by decide +kernel) rfl, am_mem 459 (by decide +kernel) rfl, am_mem 52 (by decide +kernel) rfl, am_mem 460 (by decide +kernel) rfl, by decide +kernel, by decide +kernel, by decide +kernel⟩
theorem cvL_76 : aCV RL 76 yX7_age 6 mX7_age 2 := ⟨⟨TX7, 21, rfl⟩, am_mem 1041 (by decide +kernel) rfl, am_mem 1042 (by decide +kernel) rfl, am_mem 1043 (by decide +kernel) rfl, am_mem 60 (by decide +kernel) rfl, am_mem 1044 (by decide +kernel) rfl, by decide +kernel, by decide +kernel, by decide +kernel⟩
theorem cvL_77 : aCV RL 77 yX6_truth 5 mX6_truth 2 := ⟨⟨TX6, 12, rfl⟩, am_mem 461 (by decide +kernel) rfl, am_mem 462 (by decide +kernel) rfl, am_mem 463 (by decide +kernel) rfl, am_mem 52 (by decide +kernel) rfl, am_mem 464 (by decide +kernel) rfl, by decide +kernel, by decide +kernel, by decide +kernel⟩
theorem cvL_80 : aCV RL 80 yX7_truth 6 mX7_truth 2 := ⟨⟨TX7, 21, rfl⟩, am_mem 1046 (by decide +kernel) rfl, am_mem 1047 (by decide +kernel) rfl, am_mem 1048 (by decide +kernel) rfl, am_mem 60 (by decide +kernel) rfl, am_mem 1049 (by decide +kernel) rfl, by decide +kernel, by decide +kernel, by decide +kernel⟩
theorem cvL_81 : aCV RL 81 yX6_fits 5 mX6_fits 1 := ⟨⟨TX6, 12, rfl⟩, am_mem 465 (by decide +kernel) rfl, am_mem 466 (by decide +kernel) rfl, am_mem 467 (by decide +kernel) rfl, am_mem 52 (by decide +kernel) rfl, am_mem 468 (by decide +kernel) rfl, by decide +kernel, by decide +kernel, by decide +kernel⟩
theorem cvL_84 : aCV RL 84 yX7_fits 6 mX7_fits 1 := ⟨⟨TX7, 21, rfl⟩, am_mem 1050 (by decide +kernel) rfl, am_mem 1051 (by decide +kernel) rfl, am_mem 1052 (by decide +kernel) rfl, am_mem 60 (by decide +kernel) rfl, am_mem 1053 (by decide +kernel) rfl, by decide +kernel, by decide +kernel, by decide +kernel⟩
theorem cvL_85 : aCV RL 85 yX6_take 5 mX6_take 2 := ⟨⟨TX6, 12, rfl⟩, am_mem 473 (by decide +kernel) rfl, am_mem 474 (by decide +kernel) rfl, am_mem 475 (by decide +kernel) rfl, am_mem 52 (by decide +kernel) rfl, am_mem 476 (by decide +kernel) rfl, by decide +kernel, by decide +kernel, by decide +kernel⟩
theorem cvL_88 : aCV RL 88 yX7_take 6 mX7_take 2 := ⟨⟨TX7, 21, rfl⟩, am_mem 1054 (by decide +kernel) rfl, am_mem 1055 (by decide +kernel) rfl, am_mem 1056 (by decide +kernel) rfl, am_mem 60 (by decide +kernel) rfl, am_mem 1057 (by decide +kernel) rfl, by decide +kernel, by decide +kernel, by decide +kernel⟩
theorem cvL_89 : aCV RL 89 yX6_bring 5 mX6_bring 1 := ⟨⟨TX6, 12, rfl⟩, am_mem 496 (by decide +kernel) rfl, am_mem 497 (by decide +kernel) rfl, am_mem 498 (by decide +kernel) rfl, am_mem 52 (by decide +kernel) rfl, am_mem 499 (by decide +kernel) rfl, by decide +kernel, by decide +kernel, by decide +kernel⟩
theorem cvL_92 : aCV RL 92 yX7_bring 6 mX7_bring 1 := ⟨⟨TX7, 21, rfl⟩, am_mem 1074 (by decide +kernel) rfl, am_mem 1075 (by decide +kernel) rfl, am_mem 1076 (by decide +kernel) rfl, am_mem 60 (by decide +kernel) rfl, am_mem 1077 (by decide +kernel) rfl, by decide +kernel, by decide +kernel, by decide +kernel⟩
theorem cvL_93 : aCV RL 93 yX6_undo 5 mX6_undo 1 := ⟨⟨TX6, 12, rfl⟩, am_mem 500 (by decide +kernel) rfl, am_mem 501 (by decide +kernel) rfl, am_mem 502 (by decide +kernel) rfl, am_mem 52 (by decide +kernel) rfl, am_mem 503 (by decide +kernel) rfl, by decide +kernel, by decide +kernel, by decide +kernel⟩
theorem cvL_96 : aCV RL 96 yX7_undo 6 mX7_undo 1 := ⟨⟨TX7, 21, rfl⟩, am_mem 1078 (by decide +kernel) rfl, am_mem 1079 (by decide +kernel) rfl, am_mem 1080 (by decide +kernel) rfl, am_mem 60 (by decide +kernel) rfl, am_mem 1081 (by decide +kernel) rfl, by decide +kernel, by decide +kernel, by decide +kernel⟩
theorem cvL_97 : aCV RL 97 yX6_right 5 mX6_right 0 := ⟨⟨TX6, 12, rfl⟩, am_mem 508 (by decide +kernel) rfl, am_mem 509 (by decide +kernel) rfl, am_mem 510 (by decide +kernel) rfl, am_mem 52 (by decide +kernel) rfl, am_mem 511 (by decide +kernel) rfl, by decide +kernel, by decide +kernel, by decide +kernel⟩
theorem cvL_101 : aCV RL 101 yX7_right 6 mX7_right 0 := ⟨⟨TX7, 21, rfl⟩, am_mem 1082 (by decide +kernel) rfl, am_mem 1083 (by decide +kernel) rfl, am_mem 1084 (by decide +kernel) rfl, am_mem 60 (by decide +kernel) rfl, am_mem 1085 (by decide +kernel) rfl, by decide +kernel, by decide +kernel, by decide +kernel⟩
theorem cvL_102 : aCV RL 102 yX6_keep 5 mX6_keep 1 := ⟨⟨TX6, 12, rfl⟩, am_mem 517 (by decide +kernel) rfl, am_mem 518 (by decide +kernel) rfl, am_mem 519 (by decide +kernel) rfl, am_mem 52 (by decide +kernel) rfl, am_mem 520 (by decide +kernel) rfl, by decide +kernel, by decide +kernel, by decide +kernel⟩
theorem cvL_105 : aCV RL 105 yX7_keep 6 mX7_keep 1 := ⟨⟨TX7, 21, rfl⟩, am_mem 1090 (by decide +kernel) rfl, am_mem 1091 (by decide +kernel) rfl, am_mem 1092 (by decide +kernel) rfl, am_mem 60 (by decide +kernel) rfl, am_mem 1093 (by decide +kernel) rfl, by decide +kernel, by decide +kernel, by decide +kernel⟩
theorem cvL_106 : aCV RL 106 yX6_on 5 mX6_on 1 := ⟨⟨TX6, 12, rfl⟩, am_mem 528 (by decide +kernel) rfl, am_mem 529 (by decide +kernel) rfl, am_mem 530 (by decide +kernel) rfl, am_mem 52 (by decide +kernel) rfl, am_mem 531 (by decide +kernel) rfl, by decide +kernel, by decide +kernel, by decide +kernel⟩
theorem cvL_109 : aCV RL 109 yX7_on 6 mX7_on 1 := ⟨⟨TX7, 21, rfl⟩, am_mem 1095 (by decide +kernel) rfl, am_mem 1096 (by decide +kernel) rfl, am_mem 1097 (by decide +kernel) rfl, am_mem 60 (by decide +kernel) rfl, am_mem 1098 (by decide +kernel) rfl, by decide +kernel, by decide +kernel, by decide +kernel⟩
theorem cvL_110 : aCV RL 110 yX6_match 5 mX6_match 1 := ⟨⟨TX6, 12, rfl⟩, am_mem 532 (by decide +kernel) rfl, am_mem 533 (by decide +kernel) rfl, am_mem 534 (by decide +kernel) rfl, am_mem 52 (by decide +kernel) rfl, am_mem 535 (by decide +kernel) rfl, by decide +kernel, by decide +kernel, by decide +kernel⟩
theorem cvL_113 : aCV RL 113 yX7_match 6 mX7_match 1 := ⟨⟨TX7, 21, rfl⟩, am_mem 1099 (by decide +kernel) rfl, am_mem 1100 (by decide +kernel) rfl, am_mem 1101 (by decide +kernel) rfl, am_mem 60 (by decide +kernel) rfl, am_mem 1102 (by decide +kernel) rfl, by decide +kernel, by decide +kernel, by decide +kernel⟩
theorem cvL_114 : aCV RL 114 yX6_wished 5 mX6_wished 1 := ⟨⟨TX6, 12, rfl⟩, am_mem 595 (by decide +kernel) rfl, am_mem 596 (by decide +kernel) rfl, am_mem 597 (by decide +kernel) rfl, am_mem 52 (by decide +kernel) rfl, am_mem 598 (by decide +kernel) rfl, by decide +kernel, by decide +kernel, by decide +kernel⟩
theorem cvL_117 : aCV RL 117 yX7_wished 6 mX7_wished 1 := ⟨⟨TX7, 21, rfl⟩, am_mem 1120 (by decide +kernel) rfl, am_mem 1121 (by decide +kernel) rfl, am_mem 1122 (by decide +kernel) rfl, am_mem 60 (by decide +kernel) rfl, am_mem 1123 (by decide +kernel) rfl, by decide +kernel, by decide +kernel, by decide +kernel⟩
theorem cvL_118 : aCV RL 118 yX6_fullest 5 mX6_fullest 0 := ⟨⟨TX6, 12, rfl⟩, am_mem 611 (by decide +kernel) rfl, am_mem 612 (by decide +kernel) rfl, am_mem 613 (by decide +kernel) rfl, am_mem 52 (by decide +kernel) rfl, am_mem 614 (by decide +kernel) rfl, by decide +kernel, by decide +kernel, by decide +kernel⟩
theorem cvL_121 : aCV RL 121 yX7_fullest 6 mX7_fullest 0 := ⟨⟨TX7, 21, rfl⟩, am_mem 1124 (by decide +kernel) rfl, am_mem 1125 (by decide +kernel) rfl, am_mem 1126 (by decide +kernel) rfl, am_mem 60 (by decide +kernel) rfl, am_mem 1127 (by decide +kernel) rfl, by decide +kernel, by decide +kernel, by decide +kernel⟩
theorem cvL_122 : aCV RL 122 yX6_may 5 mX6_may 1 := ⟨⟨TX6, 12, rfl⟩, am_mem 623 (by decide +kernel) rfl, am_mem 624 (by decide +kernel) rfl, am_mem 625 (by decide +kernel) rfl, am_mem 52 (by decide +kernel) rfl, am_mem 626 (by decide +kernel) rfl, by decide +kernel, by decide +kernel, by decide +kernel⟩
theorem cvL_125 : aCV RL 125 yX7_may 6 mX7_may 1 := ⟨⟨TX7, 21, rfl⟩, am_mem 1128 (by decide +kernel) rfl, am_mem 1129 (by decide +kernel) rfl, am_mem 1130 (by decide +kernel) rfl, am_mem 60 (by decide +kernel) rfl, am_mem 1131 (by decide +kernel) rfl, by decide +kernel, by decide +kernel, by decide +kernel⟩
theorem cvL_126 : aCV RL 126 yX6_sure 5 mX6_sure 1 := ⟨⟨TX6, 12, rfl⟩, am_mem 628 (by decide +kernel) rfl, am_mem 629 (by decide +kernel) rfl, am_mem 630 (by decide +kernel) rfl, am_mem 52 (by decide +kernel) rfl, am_mem 631 (by decide +kernel) rfl, by decide +kernel, by decide +kernel, by decide +kernel⟩
theorem cvL_129 : aCV RL 129 yX7_sure 6 mX7_sure 1 := ⟨⟨TX7, 21, rfl⟩, am_mem 1132 (by decide +kernel) rfl, am_mem 1133 (by decide +kernel) rfl, am_mem 1134 (by decide +kernel) rfl, am_mem 60 (by decide +kernel) rfl, am_mem 1135 (by decide +kernel) rfl, by decide +kernel, by decide +kernel, by decide +kernel⟩
theorem cvL_130 : aCV RL 130 yX6_test 5 mX6_test 0 := ⟨⟨TX6, 12, rfl⟩, am_mem 632 (by decide +kernel) rfl, am_mem 633 (by decide +kernel) rfl, am_mem 634 (by decide +kernel) rfl, am_mem 52 (by decide +kernel) rfl, am_mem 635 (by decide +kernel) rfl, by decide +kernel, by decide +kernel, by decide +kernel⟩
theorem cvL_133 : aCV RL 133 yX7_test 6 mX7_test 0 := ⟨⟨TX7, 21, rfl⟩, am_mem 1136 (by decide +kernel) rfl, am_mem 1137 (by decide +kernel) rfl, am_mem 1138 (by decide +kernel) rfl, am_mem 60 (by decide +kernel) rfl, am_mem 1139 (by decide +kernel) rfl, by decide +kernel, by decide +kernel, by decide +kernel⟩
theorem cvL_134 : aCV RL 134 yX6_odds 5 mX6_odds 2 := ⟨⟨TX6, 12, rfl⟩, am_mem 637 (by decide +kernel) rfl, am_mem 638 (by decide +kernel) rfl, am_mem 639 (by decide +kernel) rfl, am_mem 52 (by decide +kernel) rfl, am_mem 640 (by decide +kernel) rfl, by decide +kernel, by decide +kernel, by decide +kernel⟩
theorem cvL_137 : aCV RL 137 yX7_odds 6 mX7_odds 2 := ⟨⟨TX7, 21, rfl⟩, am_mem 1140 (by decide +kernel) rfl, am_mem 1141 (by decide +kernel) rfl, am_mem 1142 (by decide +kernel) rfl, am_mem 60 (by decide +kernel) rfl, am_mem 1143 (by decide +kernel) rfl, by decide +kernel, by decide +kernel, by decide +kernel⟩
theorem cvL_138 : aCV RL 138 yX6_worlds 5 mX6_worlds 0 := ⟨⟨TX6, 12, rfl⟩, am_mem 648 (by decide +kernel) rfl, am_mem 649 (by decide +kernel) rfl, am_mem 650 (by decide +kernel) rfl, am_mem 52 (by decide +kernel) rfl, am_mem 651 (by decide +kernel) rfl, by decide +kernel, by decide +kernel, by decide +kernel⟩
theorem cvL_141 : aCV RL 141 yX7_worlds 6 mX7_worlds 0 := ⟨⟨TX7, 21, rfl⟩, am_mem 1144 (by decide +kernel) rfl, am_mem 1145 (by decide +kernel) rfl, am_mem 1146 (by decide +kernel) rfl, am_mem 60 (by decide +kernel) rfl, am_mem 1147 (by decide +kernel) rfl, by decide +kernel, by decide +kernel, by decide +kernel⟩
theorem cvL_142 : aCV RL 142 yX6_never 5 mX6_never 0 := ⟨⟨TX6, 12, rfl⟩, am_mem 656 (by decide +kernel) rfl, am_mem 657 (by decide +kernel) rfl, am_mem 658 (by decide +kernel) rfl, am_mem 52 (by decide +kernel) rfl, am_mem 659 (by decide +kernel) rfl, by decide +kernel, by decide +kernel, by decide +kernel⟩
theorem cvL_145 : aCV RL 145 yX7_never 6 mX7_never 0 := ⟨⟨TX7, 21, rfl⟩, am_mem 1148 (by decide +kernel) rfl, am_mem 1149 (by decide +kernel) rfl, am_mem 1150 (by decide +kernel) rfl, am_mem 60 (by decide +kernel) rfl, am_mem 1151 (by decide +kernel) rfl, by decide +kernel, by decide +kernel, by decide +kernel⟩
theorem cvL_146 : aCV RL 146 yX6_parts 5 mX6_parts 0 := ⟨⟨TX6, 12, rfl⟩, am_mem 661 (by decide +kernel) rfl, am_mem 662 (by decide +kernel) rfl, am_mem 663 (by decide +kernel) rfl, am_mem 52 (by decide +kernel) rfl, am_mem 664 (by decide +kernel) rfl, by decide +kernel, by decide +kernel, by decide +kernel⟩
theorem cvL_149 : aCV RL 149 yX7_parts 6 mX7_parts 0 := ⟨⟨TX7, 21, rfl⟩, am_mem 1152 (by decide +kernel) rfl, am_mem 1153 (by decide +kernel) rfl, am_mem 1154 (by decide +kernel) rfl, am_mem 60 (by decide +kernel) rfl, am_mem 1155 (by decide +kernel) rfl, by decide +kernel, by decide +kernel, by decide +kernel⟩
theorem cvL_150 : aCV RL 150 yX6_finds 5 mX6_finds 1 := ⟨⟨TX6, 12, rfl⟩, am_mem 684 (by decide +kernel) rfl, am_mem 685 (by decide +kernel) rfl, am_mem 686 (by decide +kernel) rfl, am_mem 52 (by decide +kernel) rfl, am_mem 687 (by decide +kernel) rfl, by decide +kernel, by decide +kernel, by decide +kernel⟩
theorem cvL_153 : aCV RL 153 yX7_finds 6 mX7_finds 1 := ⟨⟨TX7, 21, rfl⟩, am_mem 1160 (by decide +kernel) rfl, am_mem 1161 (by decide +kernel) rfl, am_mem 1162 (by decide +kernel) rfl, am_mem 60 (by decide +kernel) rfl, am_mem 1163 (by decide +kernel) rfl, by decide +kernel, by decide +kernel, by decide +kernel⟩
theorem cvL_154 : aCV RL 154 yX6_left 5 mX6_left 1 := ⟨⟨TX6, 12, rfl⟩, am_mem 699 (by decide +kernel) rfl, am_mem 700 (by decide +kernel) rfl, am_mem 701 (by decide +kernel) rfl, am_mem 52 (by decide +kernel) rfl, am_mem 702 (by decide +kernel) rfl, by decide +kernel, by decide +kernel, by decide +kernel⟩
theorem cvL_157 : aCV RL 157 yX7_left 6 mX7_left 1 := ⟨⟨TX7, 21, rfl⟩, am_mem 1168 (by decide +kernel) rfl, am_mem 1169 (by decide +kernel) rfl, am_mem 1170 (by decide +kernel) rfl, am_mem 60 (by decide +kernel) rfl, am_mem 1171 (by decide +kernel) rfl, by decide +kernel, by decide +kernel, by decide +kernel⟩
theorem cvL_158 : aCV RL 158 yX6_forged 5 mX6_forged 0 := ⟨⟨TX6, 12, rfl⟩, am_mem 704 (by decide +kernel) rfl, am_mem 705 (by decide +kernel) rfl, am_mem 706 (by decide +kernel) rfl, am_mem 52 (by decide +kernel) rfl, am_mem 707 (by decide +kernel) rfl, by decide +kernel, by decide +kernel, by decide +kernel⟩
theorem cvL_161 : aCV RL 161 yX7_forged 6 mX7_forged 0 := ⟨⟨TX7, 21, rfl⟩, am_mem 1172 (by decide +kernel) rfl, am_mem 1173 (by decide +kernel) rfl, am_mem 1174 (by decide +kernel) rfl, am_mem 60 (by decide +kernel) rfl, am_mem 1175 (by decide +kernel) rfl, by decide +kernel, by decide +kernel, by decide +kernel⟩
theorem cvL_162 : aCV RL 162 yX6_beside 5 mX6_beside 1 := ⟨⟨TX6, 12, rfl⟩, am_mem 709 (by decide +kernel) rfl, am_mem 710 (by decide +kernel) rfl, am_mem 711 (by decide +kernel) rfl, am_mem 52 (by decide +kernel) rfl, am_mem 712 (by decide +kernel) rfl, by decide +kernel, by decide +kernel, by decide +kernel⟩
theorem cvL_165 : aCV RL 165 yX7_beside 6 mX7_beside 1 := ⟨⟨TX7, 21, rfl⟩, am_mem 1176 (by decide +kernel) rfl, am_mem 1177 (by decide +kernel) rfl, am_mem 1178 (by decide +kernel) rfl, am_mem 60 (by decide +kernel) rfl, am_mem 1179 (by decide +kernel) rfl, by decide +kernel, by decide +kernel, by decide +kernel⟩
theorem cvL_166 : aCV RL 166 yX6_habit 5 mX6_habit 0 := ⟨⟨TX6, 12, rfl⟩, am_mem 722 (by decide +kernel) rfl, am_mem 723 (by decide +kernel) rfl, am_mem 724 (by decide +kernel) rfl, am_mem 52 (by decide +kernel) rfl, am_mem 725 (by decide +kernel) rfl, by decide +kernel, by decide +kernel, by decide +kernel⟩
theorem cvL_169 : aCV RL 169 yX7_habit 6 mX7_habit 0 := ⟨⟨TX7, 21, rfl⟩, am_mem 1191 (by decide +kernel) rfl, am_mem 1192 (by decide +kernel) rfl, am_mem 1193 (by decide +kernel) rfl, am_mem 60 (by decide +kernel) rfl, am_mem 1194 (by decide +kernel) rfl, by decide +kernel, by decide +kernel, by decide +kernel⟩
theorem cvL_170 : aCV RL 170 yX6_order 5 mX6_order 0 := ⟨⟨TX6, 12, rfl⟩, am_mem 739 (by decide +kernel) rfl, am_mem 740 (by decide +kernel) rfl, am_mem 741 (by decide +kernel) rfl, am_mem 52 (by decide +kernel) rfl, am_mem 742 (by decide +kernel) rfl, by decide +kernel, by decide +kernel, by decide +kernel⟩
theorem cvL_173 : aCV RL 173 yX7_order 6 mX7_order 0 := ⟨⟨TX7, 21, rfl⟩, am_mem 1199 (by decide +kernel) rfl, am_mem 1200 (by decide +kernel) rfl, am_mem 1201 (by decide +kernel) rfl, am_mem 60 (by decide +kernel) rfl, am_mem 1202 (by decide +kernel) rfl, by decide +kernel, by decide +kernel, by decide +kernel⟩
theorem cvL_174 : aCV RL 174 yX6_byAge 5 mX6_byAge 1 := ⟨⟨TX6, 12, rfl⟩, am_mem 750 (by decide +kernel) rfl, am_mem 751 (by decide +kernel) rfl, am_mem 752 (by decide +kernel) rfl, am_mem 52 (by decide +kernel) rfl, am_mem 753 (by decide +kernel) rfl, by decide +kernel, by decide +kernel, by decide +kernel⟩
theorem cvL_177 : aCV RL 177 yX7_byAge 6 mX7_byAge 1 := ⟨⟨TX7, 21, rfl⟩, am_mem 1203 (by decide +kernel) rfl, am_mem 1204 (by decide +kernel) rfl, am_mem 1205 (by decide +kernel) rfl, am_mem 60 (by decide +kernel) rfl, am_mem 1206 (by decide +kernel) rfl, by decide +kernel, by decide +kernel, by decide +kernel⟩
theorem cvL_178 : aCV RL 178 yX6_lots 5 mX6_lots 2 := ⟨⟨TX6, 12, rfl⟩, am_mem 760 (by decide +kernel) rfl, am_mem 761 (by decide +kernel) rfl, am_mem 762 (by decide +kernel) rfl, am_mem 52 (by decide +kernel) rfl, am_mem 763 (by decide +kernel) rfl, by decide +kernel, by decide +kernel, by decide +kernel⟩
theorem cvL_181 : aCV RL 181 yX7_lots 6 mX7_lots 2 := ⟨⟨TX7, 21, rfl⟩, am_mem 1207 (by decide +kernel) rfl, am_mem 1208 (by decide +kernel) rfl, am_mem 1209 (by decide +kernel) rfl, am_mem 60 (by decide +kernel) rfl, am_mem 1210 (by decide +kernel) rfl, by decide +kernel, by decide +kernel, by decide +kernel⟩
theorem cvL_182 : aCV RL 182 yX6_asked 5 mX6_asked 0 := ⟨⟨TX6, 12, rfl⟩, am_mem 774 (by decide +kernel) rfl, am_mem 775 (by decide +kernel) rfl, am_mem 776 (by decide +kernel) rfl, am_mem 52 (by decide +kernel) rfl, am_mem 777 (by decide +kernel) rfl, by decide +kernel, by decide +kernel, by decide +kernel⟩
theorem cvL_185 : aCV RL 185 yX7_asked 6 mX7_asked 0 := ⟨⟨TX7, 21, rfl⟩, am_mem 1216 (by decide +kernel) rfl, am_mem 1217 (by decide +kernel) rfl, am_mem 1218 (by decide +kernel) rfl, am_mem 60 (by decide +kernel) rfl, am_mem 1219 (by decide +kernel) rfl, by decide +kernel, by decide +kernel, by decide +kernel⟩
theorem cvL_186 : aCV RL 186 yX6_upper 5 mX6_upper 0 := ⟨⟨TX6, 12, rfl⟩, am_mem 778 (by decide +kernel) rfl, am_mem 779 (by decide +kernel) rfl, am_mem 780 (by decide +kernel) rfl, am_mem 52 (by decide +kernel) rfl, am_mem 781 (by decide +kernel) rfl, by decide +kernel, by decide +kernel, by decide +kernel⟩
theorem cvL_190 : aCV RL 190 yX7_upper 6 mX7_upper 0 := ⟨⟨TX7, 21, rfl⟩, am_mem 1220 (by decide +kernel) rfl, am_mem 1221 (by decide +kernel) rfl, am_mem 1222 (by decide +kernel) rfl, am_mem 60 (by decide +kernel) rfl, am_mem 1223 (by decide +kernel) rfl, by decide +kernel, by decide +kernel, by decide +kernel⟩
theorem cvL_191 : aCV RL 191 yX6_lower 5 mX6_lower 0 := ⟨⟨TX6, 12, rfl⟩, am_mem 782 (by decide +kernel) rfl, am_mem 783 (by decide +kernel) rfl, am_mem 784 (by decide +kernel) rfl, am_mem 52 (by decide +kernel) rfl, am_mem 785 (by decide +kernel) rfl, by decide +kernel, by decide +kernel, by decide +kernel⟩
theorem cvL_194 : aCV RL 194 yX7_lower 6 mX7_lower 0 := ⟨⟨TX7, 21, rfl⟩, am_mem 1224 (by decide +kernel) rfl, am_mem 1225 (by decide +kernel) rfl, am_mem 1226 (by decide +kernel) rfl, am_mem 60 (by decide +kernel) rfl, am_mem 1227 (by decide +kernel) rfl, by decide +kernel, by decide +kernel, by decide +kernel⟩
theorem cvL_195 : aCV RL 195 yX6_count 5 mX6_count 1 := ⟨⟨TX6, 12, rfl⟩, am_mem 786 (by decide +kernel) rfl, am_mem 787 (by decide +kernel) rfl, am_mem 788 (by decide +kernel) rfl, am_mem 52 (by decide +kernel) rfl, am_mem 789 (by decide +kernel) rfl, by decide +kernel, by decide +kernel, by decide +kernel⟩
theorem cvL_198 : aCV RL 198 yX7_count 6 mX7_count 1 := ⟨⟨TX7, 21, rfl⟩, am_mem 1228 (by decide +kernel) rfl, am_mem 1229 (by decide +kernel) rfl, am_mem 1230 (by decide +kernel) rfl, am_mem 60 (by decide +kernel) rfl, am_mem 1231 (by decide +kernel) rfl, by decide +kernel, by decide +kernel, by decide +kernel⟩
theorem cvL_199 : aCV RL 199 yX6_finding 5 mX6_finding 0 := ⟨⟨TX6, 12, rfl⟩, am_mem 805 (by decide +kernel) rfl, am_mem 806 (by decide +kernel) rfl, am_mem 807 (by decide +kernel) rfl, am_mem 52 (by decide +kernel) rfl, am_mem 808 (by decide +kernel) rfl, by decide +kernel, by decide +kernel, by decide +kernel⟩
theorem cvL_202 : aCV RL 202 yX7_finding 6 mX7_finding 0 := ⟨⟨TX7, 21, rfl⟩, am_mem 1237 (by decide +kernel) rfl, am_mem 1238 (by decide +kernel) rfl, am_mem 1239 (by decide +kernel) rfl, am_mem 60 (by decide +kernel) rfl, am_mem 1240 (by decide +kernel) rfl, by decide +kernel, by decide +kernel, by decide +kernel⟩
theorem cvL_203 : aCV RL 203 yX6_findings 5 mX6_findings 1 := ⟨⟨TX6, 12, rfl⟩, am_mem 809 (by decide +kernel) rfl, am_mem 810 (by decide +kernel) rfl, am_mem 811 (by decide +kernel) rfl, am_mem 52 (by decide +kernel) rfl, am_mem 812 (by decide +kernel) rfl, by decide +kernel, by decide +kernel, by decide +kernel⟩
theorem cvL_206 : aCV RL 206 yX7_findings 6 mX7_findings 1 := ⟨⟨TX7, 21, rfl⟩, am_mem 1241 (by decide +kernel) rfl, am_mem 1242 (by decide +kernel) rfl, am_mem 1243 (by decide +kernel) rfl, am_mem 60 (by decide +kernel) rfl, am_mem 1244 (by decide +kernel) rfl, by decide +kernel, by decide +kernel, by decide +kernel⟩
theorem cvL_207 : aCV RL 207 yX6_digest 5 mX6_digest 0 := ⟨⟨TX6, 12, rfl⟩, am_mem 813 (by decide +kernel) rfl, am_mem 814 (by decide +kernel) rfl, am_mem 815 (by decide +kernel) rfl, am_mem 52 (by decide +kernel) rfl, am_mem 816 (by decide +kernel) rfl, by decide +kernel, by decide +kernel, by decide +kernel⟩
theorem cvL_210 : aCV RL 210 yX7_digest 6 mX7_digest 0 := ⟨⟨TX7, 21, rfl⟩, am_mem 1245 (by decide +kernel) rfl, am_mem 1246 (by decide +kernel) rfl, am_mem 1247 (by decide +kernel) rfl, am_mem 60 (by decide +kernel) rfl, am_mem 1248 (by decide +kernel) rfl, by decide +kernel, by decide +kernel, by decide +kernel⟩
theorem lc_row {G : aG} {l : Launch} {nm : String} {S : aSt} {NF : Nat} (hNF : 5000000 < NF) (H : OK S) {i a1 a2 a3 a4 a5 : Int32} (x1 : inb (i + 1) G.2.2.2.1 = true) (h1 : G.2.2.2.2.1 (i + 1).toNatClampNeg = a1) (x2 : inb (i + 2) G.2.2.2.1 = true) (h2 : G.2.2.2.2.1 (i + 2).toNatClampNeg = a2) (x3 : inb (i + 3) G.2.2.2.1 = true) (h3 : G.2.2.2.2.1 (i + 3).toNatClampNeg = a3) (x4 : inb (i + 4) G.2.2.2.1 = true) (h4 : G.2.2.2.2.1 (i + 4).toNatClampNeg = a4) (x5 : inb (i + 5) G.2.2.2.1 = true) (h5 : G.2.2.2.2.1 (i + 5).toNatClampNeg = a5) (kk : ∀ S', OK S' → Go G l room_1 lw_Z (mLw nm) 97 97 7587 1407 [(3, .int i), (2, .ref 82), (1, .ref 0), (0, .ref 1000)] [] S') : Go G l room_1 lw_Z (mLw nm) 97 97 7587 240 [(3, .int i), (2, .ref 82), (1, .ref 0), (0, .ref 1000)] [] S := by
  obtain ⟨r, S1, S2, f1, f2, hO⟩ := op_row NF (by omega) H a1 a2
  refine Go.aload_n 2 241 rfl dL_law_240 rfl ?_
  refine Go.aload_n 3 242 rfl dL_law_241 rfl ?_
  refine Go.iload_n 0 243 rfl dL_law_242 rfl ?_
  refine Go.iconst (1 : Int32) 244 rfl dL_law_243 ci_1 ?_
  refine Go.iadd 245 rfl dL_law_244 ?_
  refine Go.sld a1 246 rfl dL_law_245 x1 h1 ?_
  refine Go.aload_n 3 247 rfl dL_law_246 rfl ?_
  refine Go.iload_n 0 248 rfl dL_law_247 rfl ?_
  refine Go.iconst (2 : Int32) 249 rfl dL_law_248 ci_2 ?_
  refine Go.iadd 250 rfl dL_law_249 ?_
  refine Go.sld a2 251 rfl dL_law_250 x2 h2 ?_
  refine Go.cLw (rm := rmM 3) 254 [.int a1, .int a2] [] rfl dL_law_251 (C_X6_row G l NF S 0 a1 a2 r S1 T_0 f1) cvL_13 (by decide) (by decide +kernel) ⟨by decide, by decide⟩ ⟨Nat.le_of_ble_eq_true rfl, Nat.le_of_ble_eq_true rfl⟩ rfl (Nat.le_of_ble_eq_true rfl) ?_
  refine Go.aload_n 1 255 rfl dL_law_254 rfl ?_
  refine Go.aload_n 3 256 rfl dL_law_255 rfl ?_
  refine Go.iload_n 0 257 rfl dL_law_256 rfl ?_
  refine Go.iconst (1 : Int32) 258 rfl dL_law_257 ci_1 ?_
  refine Go.iadd 259 rfl dL_law_258 ?_
  refine Go.sld a1 260 rfl dL_law_259 x1 h1 ?_
  refine Go.aload_n 3 261 rfl dL_law_260 rfl ?_
  refine Go.iload_n 0 262 rfl dL_law_261 rfl ?_
  refine Go.iconst (2 : Int32) 263 rfl dL_law_262 ci_2 ?_
  refine Go.iadd 264 rfl dL_law_263 ?_
  refine Go.sld a2 265 rfl dL_law_264 x2 h2 ?_
  refine Go.cLw (rm := rmM 3) 268 [.int a1, .int a2] [.int r] rfl dL_law_265 (C_X7_row G l NF S1 82 a1 a2 r S2 T_82 f2) cvL_17 (by decide) (by decide +kernel) ⟨by decide, by decide⟩ ⟨Nat.le_of_ble_eq_true rfl, Nat.le_of_ble_eq_true rfl⟩ rfl (Nat.le_of_ble_eq_true rfl) ?_
  exact Go.icmp_eq 1407 271 rfl dL_law_268 rfl (fun _ => kk S2 hO) (fun h => absurd rfl h)
theorem lc_lay {G : aG} {l : Launch} {nm : String} {S : aSt} {NF : Nat} (hNF : 5000000 < NF) (H : OK S) {i a1 a2 a3 a4 a5 : Int32} (x1 : inb (i + 1) G.2.2.2.1 = true) (h1 : G.2.2.2.2.1 (i + 1).toNatClampNeg = a1) (x2 : inb (i + 2) G.2.2.2.1 = true) (h2 : G.2.2.2.2.1 (i + 2).toNatClampNeg = a2) (x3 : inb (i + 3) G.2.2.2.1 = true) (h3 : G.2.2.2.2.1 (i + 3).toNatClampNeg = a3) (x4 : inb (i + 4) G.2.2.2.1 = true) (h4 : G.2.2.2.2.1 (i + 4).toNatClampNeg = a4) (x5 : inb (i + 5) G.2.2.2.1 = true) (h5 : G.2.2.2.2.1 (i + 5).toNatClampNeg = a5) (kk : ∀ S', OK S' → Go G l room_1 lw_Z (mLw nm) 97 97 7587 1407 [(3, .int i), (2, .ref 82), (1, .ref 0), (0, .ref 1000)] [] S') : Go G l room_1 lw_Z (mLw nm) 97 97 7587 273 [(3, .int i), (2, .ref 82), (1, .ref 0), (0, .ref 1000)] [] S := by
  obtain ⟨r, S1, S2, f1, f2, hO⟩ := op_lay NF H a1 a2 a3
  refine Go.aload_n 2 274 rfl dL_law_273 rfl ?_
  refine Go.aload_n 3 275 rfl dL_law_274 rfl ?_
  refine Go.iload_n 0 276 rfl dL_law_275 rfl ?_
  refine Go.iconst (1 : Int32) 277 rfl dL_law_276 ci_1 ?_
  refine Go.iadd 278 rfl dL_law_277 ?_
  refine Go.sld a1 279 rfl dL_law_278 x1 h1 ?_
  refine Go.aload_n 3 280 rfl dL_law_279 rfl ?_
  refine Go.iload_n 0 281 rfl dL_law_280 rfl ?_
  refine Go.iconst (2 : Int32) 282 rfl dL_law_281 ci_2 ?_
  refine Go.iadd 283 rfl dL_law_282 ?_
  refine Go.sld a2 284 rfl dL_law_283 x2 h2 ?_
  refine Go.aload_n 3 285 rfl dL_law_284 rfl ?_
  refine Go.iload_n 0 286 rfl dL_law_285 rfl ?_
  refine Go.iconst (3 : Int32) 287 rfl dL_law_286 ci_3 ?_
  refine Go.iadd 288 rfl dL_law_287 ?_
  refine Go.sld a3 289 rfl dL_law_288 x3 h3 ?_
  refine Go.cLw (rm := rmM 2) 292 [.int a1, .int a2, .int a3] [] rfl dL_law_289 (C_X6_lay G l NF S 0 a1 a2 a3 r S1 T_0 f1) cvL_18 (by decide) (by decide +kernel) ⟨by decide, by decide⟩ ⟨Nat.le_of_ble_eq_true rfl, Nat.le_of_ble_eq_true rfl⟩ rfl (Nat.le_of_ble_eq_true rfl) ?_
  refine Go.aload_n 1 293 rfl dL_law_292 rfl ?_
  refine Go.aload_n 3 294 rfl dL_law_293 rfl ?_
  refine Go.iload_n 0 295 rfl dL_law_294 rfl ?_
  refine Go.iconst (1 : Int32) 296 rfl dL_law_295 ci_1 ?_
  refine Go.iadd 297 rfl dL_law_296 ?_
  refine Go.sld a1 298 rfl dL_law_297 x1 h1 ?_
  refine Go.aload_n 3 299 rfl dL_law_298 rfl ?_
  refine Go.iload_n 0 300 rfl dL_law_299 rfl ?_
  refine Go.iconst (2 : Int32) 301 rfl dL_law_300 ci_2 ?_
  refine Go.iadd 302 rfl dL_law_301 ?_
  refine Go.sld a2 303 rfl dL_law_302 x2 h2 ?_
  refine Go.aload_n 3 304 rfl dL_law_303 rfl ?_
  refine Go.iload_n 0 305 rfl dL_law_304 rfl ?_
  refine Go.iconst (3 : Int32) 306 rfl dL_law_305 ci_3 ?_
  refine Go.iadd 307 rfl dL_law_306 ?_
  refine Go.sld a3 308 rfl dL_law_307 x3 h3 ?_
  refine Go.cLw (rm := rmM 3) 311 [.int a1, .int a2, .int a3] [.int r] rfl dL_law_308 (C_X7_lay G l NF S1 82 a1 a2 a3 r S2 T_82 f2) cvL_22 (by decide) (by decide +kernel) ⟨by decide, by decide⟩ ⟨Nat.le_of_ble_eq_true rfl, Nat.le_of_ble_eq_true rfl⟩ rfl (Nat.le_of_ble_eq_true rfl) ?_
  exact Go.icmp_eq 1407 314 rfl dL_law_311 rfl (fun _ => kk S2 hO) (fun h => absurd rfl h)
theorem lc_at {G : aG} {l : Launch} {nm : String} {S : aSt} {NF : Nat} (hNF : 5000000 < NF) (H : OK S) {i a1 a2 a3 a4 a5 : Int32} (x1 : inb (i + 1) G.2.2.2.1 = true) (h1 : G.2.2.2.2.1 (i + 1).toNatClampNeg = a1) (x2 : inb (i + 2) G.2.2.2.1 = true) (h2 : G.2.2.2.2.1 (i + 2).toNatClampNeg = a2) (x3 : inb (i + 3) G.2.2.2.1 = true) (h3 : G.2.2.2.2.1 (i + 3).toNatClampNeg = a3) (x4 : inb (i + 4) G.2.2.2.1 = true) (h4 : G.2.2.2.2.1 (i + 4).toNatClampNeg = a4) (x5 : inb (i + 5) G.2.2.2.1 = true) (h5 : G.2.2.2.2.1 (i + 5).toNatClampNeg = a5) (kk : ∀ S', OK S' → Go G l room_1 lw_Z (mLw nm) 97 97 7587 1407 [(3, .int i), (2, .ref 82), (1, .ref 0), (0, .ref 1000)] [] S') : Go G l room_1 lw_Z (mLw nm) 97 97 7587 316 [(3, .int i), (2, .ref 82), (1, .ref 0), (0, .ref 1000)] [] S := by
  obtain ⟨r, S1, S2, f1, f2, hO⟩ := op_at NF H a1 a2
  refine Go.aload_n 2 317 rfl dL_law_316 rfl ?_
  refine Go.aload_n 3 318 rfl dL_law_317 rfl ?_
  refine Go.iload_n 0 319 rfl dL_law_318 rfl ?_
  refine Go.iconst (1 : Int32) 320 rfl dL_law_319 ci_1 ?_
  refine Go.iadd 321 rfl dL_law_320 ?_
  refine Go.sld a1 322 rfl dL_law_321 x1 h1 ?_
  refine Go.aload_n 3 323 rfl dL_law_322 rfl ?_
  refine Go.iload_n 0 324 rfl dL_law_323 rfl ?_
  refine Go.iconst (2 : Int32) 325 rfl dL_law_324 ci_2 ?_
  refine Go.iadd 326 rfl dL_law_325 ?_
  refine Go.sld a2 327 rfl dL_law_326 x2 h2 ?_
  refine Go.cLw (rm := rmM 2) 330 [.int a1, .int a2] [] rfl dL_law_327 (C_X6_at G l NF S 0 a1 a2 r S1 T_0 f1) cvL_23 (by decide) (by decide +kernel) ⟨by decide, by decide⟩ ⟨Nat.le_of_ble_eq_true rfl, Nat.le_of_ble_eq_true rfl⟩ rfl (Nat.le_of_ble_eq_true rfl) ?_
  refine Go.aload_n 1 331 rfl dL_law_330 rfl ?_
  refine Go.aload_n 3 332 rfl dL_law_331 rfl ?_
  refine Go.iload_n 0 333 rfl dL_law_332 rfl ?_
  refine Go.iconst (1 : Int32) 334 rfl dL_law_333 ci_1 ?_
  refine Go.iadd 335 rfl dL_law_334 ?_
  refine Go.sld a1 336 rfl dL_law_335 x1 h1 ?_
  refine Go.aload_n 3 337 rfl dL_law_336 rfl ?_
  refine Go.iload_n 0 338 rfl dL_law_337 rfl ?_
  refine Go.iconst (2 : Int32) 339 rfl dL_law_338 ci_2 ?_
  refine Go.iadd 340 rfl dL_law_339 ?_
  refine Go.sld a2 341 rfl dL_law_340 x2 h2 ?_
  refine Go.cLw (rm := rmM 3) 344 [.int a1, .int a2] [.int r] rfl dL_law_341 (C_X7_at G l NF S1 82 a1 a2 r S2 T_82 f2) cvL_26 (by decide) (by decide +kernel) ⟨by decide, by decide⟩ ⟨Nat.le_of_ble_eq_true rfl, Nat.le_of_ble_eq_true rfl⟩ rfl (Nat.le_of_ble_eq_true rfl) ?_
  exact Go.icmp_eq 1407 347 rfl dL_law_344 rfl (fun _ => kk S2 hO) (fun h => absurd rfl h)
theorem lc_tear {G : aG} {l : Launch} {nm : String} {S : aSt} {NF : Nat} (hNF : 5000000 < NF) (H : OK S) {i a1 a2 a3 a4 a5 : Int32} (x1 : inb (i + 1) G.2.2.2.1 = true) (h1 : G.2.2.2.2.1 (i + 1).toNatClampNeg = a1) (x2 : inb (i + 2) G.2.2.2.1 = true) (h2 : G.2.2.2.2.1 (i + 2).toNatClampNeg = a2) (x3 : inb (i + 3) G.2.2.2.1 = true) (h3 : G.2.2.2.2.1 (i + 3).toNatClampNeg = a3) (x4 : inb (i + 4) G.2.2.2.1 = true) (h4 : G.2.2.2.2.1 (i + 4).toNatClampNeg = a4) (x5 : inb (i + 5) G.2.2.2.1 = true) (h5 : G.2.2.2.2.1 (i + 5).toNatClampNeg = a5) (kk : ∀ S', OK S' → Go G l room_1 lw_Z (mLw nm) 97 97 7587 1407 [(3, .int i), (2, .ref 82), (1, .ref 0), (0, .ref 1000)] [] S') : Go G l room_1 lw_Z (mLw nm) 97 97 7587 349 [(3, .int i), (2, .ref 82), (1, .ref 0), (0, .ref 1000)] [] S := by
  obtain ⟨r, S1, S2, f1, f2, hO⟩ := op_tear NF H a1
  refine Go.aload_n 2 350 rfl dL_law_349 rfl ?_
  refine Go.aload_n 3 351 rfl dL_law_350 rfl ?_
  refine Go.iload_n 0 352 rfl dL_law_351 rfl ?_
  refine Go.iconst (1 : Int32) 353 rfl dL_law_352 ci_1 ?_
  refine Go.iadd 354 rfl dL_law_353 ?_
  refine Go.sld a1 355 rfl dL_law_354 x1 h1 ?_
  refine Go.cLw (rm := rmM 2) 358 [.int a1] [] rfl dL_law_355 (C_X6_tear G l NF S 0 a1 r S1 T_0 f1) cvL_27 (by decide) (by decide +kernel) ⟨by decide, by decide⟩ ⟨Nat.le_of_ble_eq_true rfl, Nat.le_of_ble_eq_true rfl⟩ rfl (Nat.le_of_ble_eq_true rfl) ?_
  refine Go.aload_n 1 359 rfl dL_law_358 rfl ?_
  refine Go.aload_n 3 360 rfl dL_law_359 rfl ?_
  refine Go.iload_n 0 361 rfl dL_law_360 rfl ?_
  refine Go.iconst (1 : Int32) 362 rfl dL_law_361 ci_1 ?_
  refine Go.iadd 363 rfl dL_law_362 ?_
  refine Go.sld a1 364 rfl dL_law_363 x1 h1 ?_
  refine Go.cLw (rm := rmM 3) 367 [.int a1] [.int r] rfl dL_law_364 (C_X7_tear G l NF S1 82 a1 r S2 T_82 f2) cvL_31 (by decide) (by decide +kernel) ⟨by decide, by decide⟩ ⟨Nat.le_of_ble_eq_true rfl, Nat.le_of_ble_eq_true rfl⟩ rfl (Nat.le_of_ble_eq_true rfl) ?_
  exact Go.icmp_eq 1407 370 rfl dL_law_367 rfl (fun _ => kk S2 hO) (fun h => absurd rfl h)
theorem lc_copy {G : aG} {l : Launch} {nm : String} {S : aSt} {NF : Nat} (hNF : 5000000 < NF) (H : OK S) {i a1 a2 a3 a4 a5 : Int32} (x1 : inb (i + 1) G.2.2.2.1 = true) (h1 : G.2.2.2.2.1 (i + 1).toNatClampNeg = a1) (x2 : inb (i + 2) G.2.2.2.1 = true) (h2 : G.2.2.2.2.1 (i + 2).toNatClampNeg = a2) (x3 : inb (i + 3) G.2.2.2.1 = true) (h3 : G.2.2.2.2.1 (i + 3).toNatClampNeg = a3) (x4 : inb (i + 4) G.2.2.2.1 = true) (h4 : G.2.2.2.2.1 (i + 4).toNatClampNeg = a4) (x5 : inb (i + 5) G.2.2.2.1 = true) (h5 : G.2.2.2.2.1 (i + 5).toNatClampNeg = a5) (kk : ∀ S', OK S' → Go G l room_1 lw_Z (mLw nm) 97 97 7587 1407 [(3, .int i), (2, .ref 82), (1, .ref 0), (0, .ref 1000)] [] S') : Go G l room_1 lw_Z (mLw nm) 97 97 7587 372 [(3, .int i), (2, .ref 82), (1, .ref 0), (0, .ref 1000)] [] S := by
  obtain ⟨r, S1, S2, f1, f2, hO⟩ := op_copy NF (by omega) H a1 a2 a3 a4 a5
  refine Go.aload_n 2 373 rfl dL_law_372 rfl ?_
  refine Go.aload_n 3 374 rfl dL_law_373 rfl ?_
  refine Go.iload_n 0 375 rfl dL_law_374 rfl ?_
  refine Go.iconst (1 : Int32) 376 rfl dL_law_375 ci_1 ?_
  refine Go.iadd 377 rfl dL_law_376 ?_
  refine Go.sld a1 378 rfl dL_law_377 x1 h1 ?_
  refine Go.aload_n 3 379 rfl dL_law_378 rfl ?_
  refine Go.iload_n 0 380 rfl dL_law_379 rfl ?_
  refine Go.iconst (2 : Int32) 381 rfl dL_law_380 ci_2 ?_
  refine Go.iadd 382 rfl dL_law_381 ?_
  refine Go.sld a2 383 rfl dL_law_382 x2 h2 ?_
  refine Go.aload_n 3 384 rfl dL_law_383 rfl ?_
  refine Go.iload_n 0 385 rfl dL_law_384 rfl ?_
  refine Go.iconst (3 : Int32) 386 rfl dL_law_385 ci_3 ?_
  refine Go.iadd 387 rfl dL_law_386 ?_
  refine Go.sld a3 388 rfl dL_law_387 x3 h3 ?_
  refine Go.aload_n 3 389 rfl dL_law_388 rfl ?_
  refine Go.iload_n 0 390 rfl dL_law_389 rfl ?_
  refine Go.iconst (4 : Int32) 391 rfl dL_law_390 ci_4 ?_
  refine Go.iadd 392 rfl dL_law_391 ?_
  refine Go.sld a4 393 rfl dL_law_392 x4 h4 ?_
  refine Go.aload_n 3 394 rfl dL_law_393 rfl ?_
  refine Go.iload_n 0 395 rfl dL_law_394 rfl ?_
  refine Go.iconst (5 : Int32) 396 rfl dL_law_395 ci_5 ?_
  refine Go.iadd 397 rfl dL_law_396 ?_
  refine Go.sld a5 398 rfl dL_law_397 x5 h5 ?_
  refine Go.cLw (rm := rmM 2) 401 [.int a1, .int a2, .int a3, .int a4, .int a5] [] rfl dL_law_398 (C_X6_copy G l NF S 0 a1 a2 a3 a4 a5 r S1 T_0 f1) cvL_32 (by decide) (by decide +kernel) ⟨by decide, by decide⟩ ⟨Nat.le_of_ble_eq_true rfl, Nat.le_of_ble_eq_true rfl⟩ rfl (Nat.le_of_ble_eq_true rfl) ?_
  refine Go.aload_n 1 402 rfl dL_law_401 rfl ?_
  refine Go.aload_n 3 403 rfl dL_law_402 rfl ?_
  refine Go.iload_n 0 404 rfl dL_law_403 rfl ?_
  refine Go.iconst (1 : Int32) 405 rfl dL_law_404 ci_1 ?_
  refine Go.iadd 406 rfl dL_law_405 ?_
  refine Go.sld a1 407 rfl dL_law_406 x1 h1 ?_
  refine Go.aload_n 3 408 rfl dL_law_407 rfl ?_
  refine Go.iload_n 0 409 rfl dL_law_408 rfl ?_
  refine Go.iconst (2 : Int32) 410 rfl dL_law_409 ci_2 ?_
  refine Go.iadd 411 rfl dL_law_410 ?_
  refine Go.sld a2 412 rfl dL_law_411 x2 h2 ?_
  refine Go.aload_n 3 413 rfl dL_law_412 rfl ?_
  refine Go.iload_n 0 414 rfl dL_law_413 rfl ?_
  refine Go.iconst (3 : Int32) 415 rfl dL_law_414 ci_3 ?_
  refine Go.iadd 416 rfl dL_law_415 ?_
  refine Go.sld a3 417 rfl dL_law_416 x3 h3 ?_
  refine Go.aload_n 3 418 rfl dL_law_417 rfl ?_
  refine Go.iload_n 0 419 rfl dL_law_418 rfl ?_
  refine Go.iconst (4 : Int32) 420 rfl dL_law_419 ci_4 ?_
  refine Go.iadd 421 rfl dL_law_420 ?_
  refine Go.sld a4 422 rfl dL_law_421 x4 h4 ?_
  refine Go.aload_n 3 423 rfl dL_law_422 rfl ?_
  refine Go.iload_n 0 424 rfl dL_law_423 rfl ?_
  refine Go.iconst (5 : Int32) 425 rfl dL_law_424 ci_5 ?_
  refine Go.iadd 426 rfl dL_law_425 ?_
  refine Go.sld a5 427 rfl dL_law_426 x5 h5 ?_
  refine Go.cLw (rm := rmM 3) 430 [.int a1, .int a2, .int a3, .int a4, .int a5] [.int r] rfl dL_law_427 (C_X7_copy G l NF S1 82 a1 a2 a3 a4 a5 r S2 T_82 f2) cvL_36 (by decide) (by decide +kernel) ⟨by decide, by decide⟩ ⟨Nat.le_of_ble_eq_true rfl, Nat.le_of_ble_eq_true rfl⟩ rfl (Nat.le_of_ble_eq_true rfl) ?_
  exact Go.icmp_eq 1407 433 rfl dL_law_430 rfl (fun _ => kk S2 hO) (fun h => absurd rfl h)
theorem lc_mean {G : aG} {l : Launch} {nm : String} {S : aSt} {NF : Nat} (hNF : 5000000 < NF) (H : OK S) {i a1 a2 a3 a4 a5 : Int32} (x1 : inb (i + 1) G.2.2.2.1 = true) (h1 : G.2.2.2.2.1 (i + 1).toNatClampNeg = a1) (x2 : inb (i + 2) G.2.2.2.1 = true) (h2 : G.2.2.2.2.1 (i + 2).toNatClampNeg = a2) (x3 : inb (i + 3) G.2.2.2.1 = true) (h3 : G.2.2.2.2.1 (i + 3).toNatClampNeg = a3) (x4 : inb (i + 4) G.2.2.2.1 = true) (h4 : G.2.2.2.2.1 (i + 4).toNatClampNeg = a4) (x5 : inb (i + 5) G.2.2.2.1 = true) (h5 : G.2.2.2.2.1 (i + 5).toNatClampNeg = a5) (kk : ∀ S', OK S' → Go G l room_1 lw_Z (mLw nm) 97 97 7587 1407 [(3, .int i), (2, .ref 82), (1, .ref 0), (0, .ref 1000)] [] S') : Go G l room_1 lw_Z (mLw nm) 97 97 7587 435 [(3, .int i), (2, .ref 82), (1, .ref 0), (0, .ref 1000)] [] S := by
  obtain ⟨r, S1, S2, f1, f2, hO⟩ := op_mean NF (by omega) H a1
  refine Go.aload_n 2 436 rfl dL_law_435 rfl ?_
  refine Go.aload_n 3 437 rfl dL_law_436 rfl ?_
  refine Go.iload_n 0 438 rfl dL_law_437 rfl ?_
  refine Go.iconst (1 : Int32) 439 rfl dL_law_438 ci_1 ?_
  refine Go.iadd 440 rfl dL_law_439 ?_
  refine Go.sld a1 441 rfl dL_law_440 x1 h1 ?_
  refine Go.cLw (rm := rmM 2) 444 [.int a1] [] rfl dL_law_441 (C_X6_mean G l NF S 0 a1 r S1 T_0 f1) cvL_37 (by decide) (by decide +kernel) ⟨by decide, by decide⟩ ⟨Nat.le_of_ble_eq_true rfl, Nat.le_of_ble_eq_true rfl⟩ rfl (Nat.le_of_ble_eq_true rfl) ?_
  refine Go.aload_n 1 445 rfl dL_law_444 rfl ?_
  refine Go.aload_n 3 446 rfl dL_law_445 rfl ?_
  refine Go.iload_n 0 447 rfl dL_law_446 rfl ?_
  refine Go.iconst (1 : Int32) 448 rfl dL_law_447 ci_1 ?_
  refine Go.iadd 449 rfl dL_law_448 ?_
  refine Go.sld a1 450 rfl dL_law_449 x1 h1 ?_
  refine Go.cLw (rm := rmM 3) 453 [.int a1] [.int r] rfl dL_law_450 (C_X7_mean G l NF S1 82 a1 r S2 T_82 f2) cvL_40 (by decide) (by decide +kernel) ⟨by decide, by decide⟩ ⟨Nat.le_of_ble_eq_true rfl, Nat.le_of_ble_eq_true rfl⟩ rfl (Nat.le_of_ble_eq_true rfl) ?_
  exact Go.icmp_eq 1407 456 rfl dL_law_453 rfl (fun _ => kk S2 hO) (fun h => absurd rfl h)
theorem lc_text {G : aG} {l : Launch} {nm : String} {S : aSt} {NF : Nat} (hNF : 5000000 < NF) (H : OK S) {i a1 a2 a3 a4 a5 : Int32} (x1 : inb (i + 1) G.2.2.2.1 = true) (h1 : G.2.2.2.2.1 (i + 1).toNatClampNeg = a1) (x2 : inb (i + 2) G.2.2.2.1 = true) (h2 : G.2.2.2.2.1 (i + 2).toNatClampNeg = a2) (x3 : inb (i + 3) G.2.2.2.1 = true) (h3 : G.2.2.2.2.1 (i + 3).toNatClampNeg = a3) (x4 : inb (i + 4) G.2.2.2.1 = true) (h4 : G.2.2.2.2.1 (i + 4).toNatClampNeg = a4) (x5 : inb (i + 5) G.2.2.2.1 = true) (h5 : G.2.2.2.2.1 (i + 5).toNatClampNeg = a5) (kk : ∀ S', OK S' → Go G l room_1 lw_Z (mLw nm) 97 97 7587 1407 [(3, .int i), (2, .ref 82), (1, .ref 0), (0, .ref 1000)] [] S') : Go G l room_1 lw_Z (mLw nm) 97 97 7587 458 [(3, .int i), (2, .ref 82), (1, .ref 0), (0, .ref 1000)] [] S := by
  obtain ⟨r, S1, S2, f1, f2, hO⟩ := op_text NF (by omega) H a1 a2
  refine Go.aload_n 2 459 rfl dL_law_458 rfl ?_
  refine Go.aload_n 3 460 rfl dL_law_459 rfl ?_
  refine Go.iload_n 0 461 rfl dL_law_460 rfl ?_
  refine Go.iconst (1 : Int32) 462 rfl dL_law_461 ci_1 ?_
  refine Go.iadd 463 rfl dL_law_462 ?_
  refine Go.sld a1 464 rfl dL_law_463 x1 h1 ?_
  refine Go.aload_n 3 465 rfl dL_law_464 rfl ?_
  refine Go.iload_n 0 466 rfl dL_law_465 rfl ?_
  refine Go.iconst (2 : Int32) 467 rfl dL_law_466 ci_2 ?_
  refine Go.iadd 468 rfl dL_law_467 ?_
  refine Go.sld a2 469 rfl dL_law_468 x2 h2 ?_
  refine Go.cLw (rm := rmM 3) 472 [.int a1, .int a2] [] rfl dL_law_469 (C_X6_text G l NF S 0 a1 a2 r S1 T_0 f1) cvL_41 (by decide) (by decide +kernel) ⟨by decide, by decide⟩ ⟨Nat.le_of_ble_eq_true rfl, Nat.le_of_ble_eq_true rfl⟩ rfl (Nat.le_of_ble_eq_true rfl) ?_
  refine Go.aload_n 1 473 rfl dL_law_472 rfl ?_
  refine Go.aload_n 3 474 rfl dL_law_473 rfl ?_
  refine Go.iload_n 0 475 rfl dL_law_474 rfl ?_
  refine Go.iconst (1 : Int32) 476 rfl dL_law_475 ci_1 ?_
  refine Go.iadd 477 rfl dL_law_476 ?_
  refine Go.sld a1 478 rfl dL_law_477 x1 h1 ?_
  refine Go.aload_n 3 479 rfl dL_law_478 rfl ?_
  refine Go.iload_n 0 480 rfl dL_law_479 rfl ?_
  refine Go.iconst (2 : Int32) 481 rfl dL_law_480 ci_2 ?_
  refine Go.iadd 482 rfl dL_law_481 ?_
  refine Go.sld a2 483 rfl dL_law_482 x2 h2 ?_
  refine Go.cLw (rm := rmM 3) 486 [.int a1, .int a2] [.int r] rfl dL_law_483 (C_X7_text G l NF S1 82 a1 a2 r S2 T_82 f2) cvL_44 (by decide) (by decide +kernel) ⟨by decide, by decide⟩ ⟨Nat.le_of_ble_eq_true rfl, Nat.le_of_ble_eq_true rfl⟩ rfl (Nat.le_of_ble_eq_true rfl) ?_
  exact Go.icmp_eq 1407 489 rfl dL_law_486 rfl (fun _ => kk S2 hO) (fun h => absurd rfl h)
theorem lc_put {G : aG} {l : Launch} {nm : String} {S : aSt} {NF : Nat} (hNF : 5000000 < NF) (H : OK S) {i a1 a2 a3 a4 a5 : Int32} (x1 : inb (i + 1) G.2.2.2.1 = true) (h1 : G.2.2.2.2.1 (i + 1).toNatClampNeg = a1) (x2 : inb (i + 2) G.2.2.2.1 = true) (h2 : G.2.2.2.2.1 (i + 2).toNatClampNeg = a2) (x3 : inb (i + 3) G.2.2.2.1 = true) (h3 : G.2.2.2.2.1 (i + 3).toNatClampNeg = a3) (x4 : inb (i + 4) G.2.2.2.1 = true) (h4 : G.2.2.2.2.1 (i + 4).toNatClampNeg = a4) (x5 : inb (i + 5) G.2.2.2.1 = true) (h5 : G.2.2.2.2.1 (i + 5).toNatClampNeg = a5) (kk : ∀ S', OK S' → Go G l room_1 lw_Z (mLw nm) 97 97 7587 1407 [(3, .int i), (2, .ref 82), (1, .ref 0), (0, .ref 1000)] [] S') : Go G l room_1 lw_Z (mLw nm) 97 97 7587 491 [(3, .int i), (2, .ref 82), (1, .ref 0), (0, .ref 1000)] [] S := by
  obtain ⟨r, S1, S2, f1, f2, hO⟩ := op_put NF H a1 a2 a3
  refine Go.aload_n 2 492 rfl dL_law_491 rfl ?_
  refine Go.aload_n 3 493 rfl dL_law_492 rfl ?_
  refine Go.iload_n 0 494 rfl dL_law_493 rfl ?_
  refine Go.iconst (1 : Int32) 495 rfl dL_law_494 ci_1 ?_
  refine Go.iadd 496 rfl dL_law_495 ?_
  refine Go.sld a1 497 rfl dL_law_496 x1 h1 ?_
  refine Go.aload_n 3 498 rfl dL_law_497 rfl ?_
  refine Go.iload_n 0 499 rfl dL_law_498 rfl ?_
  refine Go.iconst (2 : Int32) 500 rfl dL_law_499 ci_2 ?_
  refine Go.iadd 501 rfl dL_law_500 ?_
  refine Go.sld a2 502 rfl dL_law_501 x2 h2 ?_
  refine Go.aload_n 3 503 rfl dL_law_502 rfl ?_
  refine Go.iload_n 0 504 rfl dL_law_503 rfl ?_
  refine Go.iconst (3 : Int32) 505 rfl dL_law_504 ci_3 ?_
  refine Go.iadd 506 rfl dL_law_505 ?_
  refine Go.sld a3 507 rfl dL_law_506 x3 h3 ?_
  refine Go.cLw (rm := rmM 2) 510 [.int a1, .int a2, .int a3] [] rfl dL_law_507 (C_X6_put G l NF S 0 a1 a2 a3 r S1 T_0 f1) cvL_45 (by decide) (by decide +kernel) ⟨by decide, by decide⟩ ⟨Nat.le_of_ble_eq_true rfl, Nat.le_of_ble_eq_true rfl⟩ rfl (Nat.le_of_ble_eq_true rfl) ?_
  refine Go.aload_n 1 511 rfl dL_law_510 rfl ?_
  refine Go.aload_n 3 512 rfl dL_law_511 rfl ?_
  refine Go.iload_n 0 513 rfl dL_law_512 rfl ?_
  refine Go.iconst (1 : Int32) 514 rfl dL_law_513 ci_1 ?_
  refine Go.iadd 515 rfl dL_law_514 ?_
  refine Go.sld a1 516 rfl dL_law_515 x1 h1 ?_
  refine Go.aload_n 3 517 rfl dL_law_516 rfl ?_
  refine Go.iload_n 0 518 rfl dL_law_517 rfl ?_
  refine Go.iconst (2 : Int32) 519 rfl dL_law_518 ci_2 ?_
  refine Go.iadd 520 rfl dL_law_519 ?_
  refine Go.sld a2 521 rfl dL_law_520 x2 h2 ?_
  refine Go.aload_n 3 522 rfl dL_law_521 rfl ?_
  refine Go.iload_n 0 523 rfl dL_law_522 rfl ?_
  refine Go.iconst (3 : Int32) 524 rfl dL_law_523 ci_3 ?_
  refine Go.iadd 525 rfl dL_law_524 ?_
  refine Go.sld a3 526 rfl dL_law_525 x3 h3 ?_
  refine Go.cLw (rm := rmM 3) 529 [.int a1, .int a2, .int a3] [.int r] rfl dL_law_526 (C_X7_put G l NF S1 82 a1 a2 a3 r S2 T_82 f2) cvL_48 (by decide) (by decide +kernel) ⟨by decide, by decide⟩ ⟨Nat.le_of_ble_eq_true rfl, Nat.le_of_ble_eq_true rfl⟩ rfl (Nat.le_of_ble_eq_true rfl) ?_
  exact Go.icmp_eq 1407 532 rfl dL_law_529 rfl (fun _ => kk S2 hO) (fun h => absurd rfl h)
theorem lc_fault {G : aG} {l : Launch} {nm : String} {S : aSt} {NF : Nat} (hNF : 5000000 < NF) (H : OK S) {i a1 a2 a3 a4 a5 : Int32} (x1 : inb (i + 1) G.2.2.2.1 = true) (h1 : G.2.2.2.2.1 (i + 1).toNatClampNeg = a1) (x2 : inb (i + 2) G.2.2.2.1 = true) (h2 : G.2.2.2.2.1 (i + 2).toNatClampNeg = a2) (x3 : inb (i + 3) G.2.2.2.1 = true) (h3 : G.2.2.2.2.1 (i + 3).toNatClampNeg = a3) (x4 : inb (i + 4) G.2.2.2.1 = true) (h4 : G.2.2.2.2.1 (i + 4).toNatClampNeg = a4) (x5 : inb (i + 5) G.2.2.2.1 = true) (h5 : G.2.2.2.2.1 (i + 5).toNatClampNeg = a5) (kk : ∀ S', OK S' → Go G l room_1 lw_Z (mLw nm) 97 97 7587 1407 [(3, .int i), (2, .ref 82), (1, .ref 0), (0, .ref 1000)] [] S') : Go G l room_1 lw_Z (mLw nm) 97 97 7587 534 [(3, .int i), (2, .ref 82), (1, .ref 0), (0, .ref 1000)] [] S := by
  obtain ⟨r, S1, S2, f1, f2, hO⟩ := op_fault NF (by omega) H a1
  refine Go.aload_n 2 535 rfl dL_law_534 rfl ?_
  refine Go.aload_n 3 536 rfl dL_law_535 rfl ?_
  refine Go.iload_n 0 537 rfl dL_law_536 rfl ?_
  refine Go.iconst (1 : Int32) 538 rfl dL_law_537 ci_1 ?_
  refine Go.iadd 539 rfl dL_law_538 ?_
  refine Go.sld a1 540 rfl dL_law_539 x1 h1 ?_
  refine Go.cLw (rm := rmM 5) 543 [.int a1] [] rfl dL_law_540 (C_X6_fault G l NF S 0 a1 r S1 T_0 f1) cvL_49 (by decide) (by decide +kernel) ⟨by decide, by decide⟩ ⟨Nat.le_of_ble_eq_true rfl, Nat.le_of_ble_eq_true rfl⟩ rfl (Nat.le_of_ble_eq_true rfl) ?_
  refine Go.aload_n 1 544 rfl dL_law_543 rfl ?_
  refine Go.aload_n 3 545 rfl dL_law_544 rfl ?_
  refine Go.iload_n 0 546 rfl dL_law_545 rfl ?_
  refine Go.iconst (1 : Int32) 547 rfl dL_law_546 ci_1 ?_
  refine Go.iadd 548 rfl dL_law_547 ?_
  refine Go.sld a1 549 rfl dL_law_548 x1 h1 ?_
  refine Go.cLw (rm := rmM 5) 552 [.int a1] [.int r] rfl dL_law_549 (C_X7_fault G l NF S1 82 a1 r S2 T_82 f2) cvL_52 (by decide) (by decide +kernel) ⟨by decide, by decide⟩ ⟨Nat.le_of_ble_eq_true rfl, Nat.le_of_ble_eq_true rfl⟩ rfl (Nat.le_of_ble_eq_true rfl) ?_
  exact Go.icmp_eq 1407 555 rfl dL_law_552 rfl (fun _ => kk S2 hO) (fun h => absurd rfl h)
theorem lc_library {G : aG} {l : Launch} {nm : String} {S : aSt} {NF : Nat} (hNF : 5000000 < NF) (H : OK S) {i a1 a2 a3 a4 a5 : Int32} (x1 : inb (i + 1) G.2.2.2.1 = true) (h1 : G.2.2.2.2.1 (i + 1).toNatClampNeg = a1) (x2 : inb (i + 2) G.2.2.2.1 = true) (h2 : G.2.2.2.2.1 (i + 2).toNatClampNeg = a2) (x3 : inb (i + 3) G.2.2.2.1 = true) (h3 : G.2.2.2.2.1 (i + 3).toNatClampNeg = a3) (x4 : inb (i + 4) G.2.2.2.1 = true) (h4 : G.2.2.2.2.1 (i + 4).toNatClampNeg = a4) (x5 : inb (i + 5) G.2.2.2.1 = true) (h5 : G.2.2.2.2.1 (i + 5).toNatClampNeg = a5) (kk : ∀ S', OK S' → Go G l room_1 lw_Z (mLw nm) 97 97 7587 1407 [(3, .int i), (2, .ref 82), (1, .ref 0), (0, .ref 1000)] [] S') : Go G l room_1 lw_Z (mLw nm) 97 97 7587 557 [(3, .int i), (2, .ref 82), (1, .ref 0), (0, .ref 1000)] [] S := by
  obtain ⟨r, S1, S2, f1, f2, hO⟩ := op_library NF (by omega) H a1
  refine Go.aload_n 2 558 rfl dL_law_557 rfl ?_
  refine Go.aload_n 3 559 rfl dL_law_558 rfl ?_
  refine Go.iload_n 0 560 rfl dL_law_559 rfl ?_
  refine Go.iconst (1 : Int32) 561 rfl dL_law_560 ci_1 ?_
  refine Go.iadd 562 rfl dL_law_561 ?_
  refine Go.sld a1 563 rfl dL_law_562 x1 h1 ?_
  refine Go.cLw (rm := rmM 5) 566 [.int a1] [] rfl dL_law_563 (C_X6_library G l NF S 0 a1 r S1 T_0 f1) cvL_53 (by decide) (by decide +kernel) ⟨by decide, by decide⟩ ⟨Nat.le_of_ble_eq_true rfl, Nat.le_of_ble_eq_true rfl⟩ rfl (Nat.le_of_ble_eq_true rfl) ?_
  refine Go.aload_n 1 567 rfl dL_law_566 rfl ?_
  refine Go.aload_n 3 568 rfl dL_law_567 rfl ?_
  refine Go.iload_n 0 569 rfl dL_law_568 rfl ?_
  refine Go.iconst (1 : Int32) 570 rfl dL_law_569 ci_1 ?_
  refine Go.iadd 571 rfl dL_law_570 ?_
  refine Go.sld a1 572 rfl dL_law_571 x1 h1 ?_
  refine Go.cLw (rm := rmM 5) 575 [.int a1] [.int r] rfl dL_law_572 (C_X7_library G l NF S1 82 a1 r S2 T_82 f2) cvL_56 (by decide) (by decide +kernel) ⟨by decide, by decide⟩ ⟨Nat.le_of_ble_eq_true rfl, Nat.le_of_ble_eq_true rfl⟩ rfl (Nat.le_of_ble_eq_true rfl) ?_
  exact Go.icmp_eq 1407 578 rfl dL_law_575 rfl (fun _ => kk S2 hO) (fun h => absurd rfl h)
theorem lc_card {G : aG} {l : Launch} {nm : String} {S : aSt} {NF : Nat} (hNF : 5000000 < NF) (H : OK S) {i a1 a2 a3 a4 a5 : Int32} (x1 : inb (i + 1) G.2.2.2.1 = true) (h1 : G.2.2.2.2.1 (i + 1).toNatClampNeg = a1) (x2 : inb (i + 2) G.2.2.2.1 = true) (h2 : G.2.2.2.2.1 (i + 2).toNatClampNeg = a2) (x3 : inb (i + 3) G.2.2.2.1 = true) (h3 : G.2.2.2.2.1 (i + 3).toNatClampNeg = a3) (x4 : inb (i + 4) G.2.2.2.1 = true) (h4 : G.2.2.2.2.1 (i + 4).toNatClampNeg = a4) (x5 : inb (i + 5) G.2.2.2.1 = true) (h5 : G.2.2.2.2.1 (i + 5).toNatClampNeg = a5) (kk : ∀ S', OK S' → Go G l room_1 lw_Z (mLw nm) 97 97 7587 1407 [(3, .int i), (2, .ref 82), (1, .ref 0), (0, .ref 1000)] [] S') : Go G l room_1 lw_Z (mLw nm) 97 97 7587 580 [(3, .int i), (2, .ref 82), (1, .ref 0), (0, .ref 1000)] [] S := by
  obtain ⟨r, S1, S2, f1, f2, hO⟩ := op_card NF (by omega) H a1 a2
  refine Go.aload_n 2 581 rfl dL_law_580 rfl ?_
  refine Go.aload_n 3 582 rfl dL_law_581 rfl ?_
  refine Go.iload_n 0 583 rfl dL_law_582 rfl ?_
  refine Go.iconst (1 : Int32) 584 rfl dL_law_583 ci_1 ?_
  refine Go.iadd 585 rfl dL_law_584 ?_
  refine Go.sld a1 586 rfl dL_law_585 x1 h1 ?_
  refine Go.aload_n 3 587 rfl dL_law_586 rfl ?_
  refine Go.iload_n 0 588 rfl dL_law_587 rfl ?_
  refine Go.iconst (2 : Int32) 589 rfl dL_law_588 ci_2 ?_
  refine Go.iadd 590 rfl dL_law_589 ?_
  refine Go.sld a2 591 rfl dL_law_590 x2 h2 ?_
  refine Go.cLw (rm := rmM 4) 594 [.int a1, .int a2] [] rfl dL_law_591 (C_X6_card G l NF S 0 a1 a2 r S1 T_0 f1) cvL_57 (by decide) (by decide +kernel) ⟨by decide, by decide⟩ ⟨Nat.le_of_ble_eq_true rfl, Nat.le_of_ble_eq_true rfl⟩ rfl (Nat.le_of_ble_eq_true rfl) ?_
  refine Go.aload_n 1 595 rfl dL_law_594 rfl ?_
  refine Go.aload_n 3 596 rfl dL_law_595 rfl ?_
  refine Go.iload_n 0 597 rfl dL_law_596 rfl ?_
  refine Go.iconst (1 : Int32) 598 rfl dL_law_597 ci_1 ?_
  refine Go.iadd 599 rfl dL_law_598 ?_
  refine Go.sld a1 600 rfl dL_law_599 x1 h1 ?_
  refine Go.aload_n 3 601 rfl dL_law_600 rfl ?_
  refine Go.iload_n 0 602 rfl dL_law_601 rfl ?_
  refine Go.iconst (2 : Int32) 603 rfl dL_law_602 ci_2 ?_
  refine Go.iadd 604 rfl dL_law_603 ?_
  refine Go.sld a2 605 rfl dL_law_604 x2 h2 ?_
  refine Go.cLw (rm := rmM 3) 608 [.int a1, .int a2] [.int r] rfl dL_law_605 (C_X7_card G l NF S1 82 a1 a2 r S2 T_82 f2) cvL_60 (by decide) (by decide +kernel) ⟨by decide, by decide⟩ ⟨Nat.le_of_ble_eq_true rfl, Nat.le_of_ble_eq_true rfl⟩ rfl (Nat.le_of_ble_eq_true rfl) ?_
  exact Go.icmp_eq 1407 611 rfl dL_law_608 rfl (fun _ => kk S2 hO) (fun h => absurd rfl h)
theorem lc_question {G : aG} {l : Launch} {nm : String} {S : aSt} {NF : Nat} (hNF : 5000000 < NF) (H : OK S) {i a1 a2 a3 a4 a5 : Int32} (x1 : inb (i + 1) G.2.2.2.1 = true) (h1 : G.2.2.2.2.1 (i + 1).toNatClampNeg = a1) (x2 : inb (i + 2) G.2.2.2.1 = true) (h2 : G.2.2.2.2.1 (i + 2).toNatClampNeg = a2) (x3 : inb (i + 3) G.2.2.2.1 = true) (h3 : G.2.2.2.2.1 (i + 3).toNatClampNeg = a3) (x4 : inb (i + 4) G.2.2.2.1 = true) (h4 : G.2.2.2.2.1 (i + 4).toNatClampNeg = a4) (x5 : inb (i + 5) G.2.2.2.1 = true) (h5 : G.2.2.2.2.1 (i + 5).toNatClampNeg = a5) (kk : ∀ S', OK S' → Go G l room_1 lw_Z (mLw nm) 97 97 7587 1407 [(3, .int i), (2, .ref 82), (1, .ref 0), (0, .ref 1000)] [] S') : Go G l room_1 lw_Z (mLw nm) 97 97 7587 613 [(3, .int i), (2, .ref 82), (1, .ref 0), (0, .ref 1000)] [] S := by
  obtain ⟨r, S1, S2, f1, f2, hO⟩ := op_question NF H a1 a2
  refine Go.aload_n 2 614 rfl dL_law_613 rfl ?_
  refine Go.aload_n 3 615 rfl dL_law_614 rfl ?_
  refine Go.iload_n 0 616 rfl dL_law_615 rfl ?_
  refine Go.iconst (1 : Int32) 617 rfl dL_law_616 ci_1 ?_
  refine Go.iadd 618 rfl dL_law_617 ?_
  refine Go.sld a1 619 rfl dL_law_618 x1 h1 ?_
  refine Go.aload_n 3 620 rfl dL_law_619 rfl ?_
  refine Go.iload_n 0 621 rfl dL_law_620 rfl ?_
  refine Go.iconst (2 : Int32) 622 rfl dL_law_621 ci_2 ?_
  refine Go.iadd 623 rfl dL_law_622 ?_
  refine Go.sld a2 624 rfl dL_law_623 x2 h2 ?_
  refine Go.cLw (rm := rmM 2) 627 [.int a1, .int a2] [] rfl dL_law_624 (C_X6_question G l NF S 0 a1 a2 r S1 T_0 f1) cvL_61 (by decide) (by decide +kernel) ⟨by decide, by decide⟩ ⟨Nat.le_of_ble_eq_true rfl, Nat.le_of_ble_eq_true rfl⟩ rfl (Nat.le_of_ble_eq_true rfl) ?_
  refine Go.aload_n 1 628 rfl dL_law_627 rfl ?_
  refine Go.aload_n 3 629 rfl dL_law_628 rfl ?_
  refine Go.iload_n 0 630 rfl dL_law_629 rfl ?_
  refine Go.iconst (1 : Int32) 631 rfl dL_law_630 ci_1 ?_
  refine Go.iadd 632 rfl dL_law_631 ?_
  refine Go.sld a1 633 rfl dL_law_632 x1 h1 ?_
  refine Go.aload_n 3 634 rfl dL_law_633 rfl ?_
  refine Go.iload_n 0 635 rfl dL_law_634 rfl ?_
  refine Go.iconst (2 : Int32) 636 rfl dL_law_635 ci_2 ?_
  refine Go.iadd 637 rfl dL_law_636 ?_
  refine Go.sld a2 638 rfl dL_law_637 x2 h2 ?_
  refine Go.cLw (rm := rmM 3) 641 [.int a1, .int a2] [.int r] rfl dL_law_638 (C_X7_question G l NF S1 82 a1 a2 r S2 T_82 f2) cvL_64 (by decide) (by decide +kernel) ⟨by decide, by decide⟩ ⟨Nat.le_of_ble_eq_true rfl, Nat.le_of_ble_eq_true rfl⟩ rfl (Nat.le_of_ble_eq_true rfl) ?_
  exact Go.icmp_eq 1407 644 rfl dL_law_641 rfl (fun _ => kk S2 hO) (fun h => absurd rfl h)
theorem lc_mark {G : aG} {l : Launch} {nm : String} {S : aSt} {NF : Nat} (hNF : 5000000 < NF) (H : OK S) {i a1 a2 a3 a4 a5 : Int32} (x1 : inb (i + 1) G.2.2.2.1 = true) (h1 : G.2.2.2.2.1 (i + 1).toNatClampNeg = a1) (x2 : inb (i + 2) G.2.2.2.1 = true) (h2 : G.2.2.2.2.1 (i + 2).toNatClampNeg = a2) (x3 : inb (i + 3) G.2.2.2.1 = true) (h3 : G.2.2.2.2.1 (i + 3).toNatClampNeg = a3) (x4 : inb (i + 4) G.2.2.2.1 = true) (h4 : G.2.2.2.2.1 (i + 4).toNatClampNeg = a4) (x5 : inb (i + 5) G.2.2.2.1 = true) (h5 : G.2.2.2.2.1 (i + 5).toNatClampNeg = a5) (kk : ∀ S', OK S' → Go G l room_1 lw_Z (mLw nm) 97 97 7587 1407 [(3, .int i), (2, .ref 82), (1, .ref 0), (0, .ref 1000)] [] S') : Go G l room_1 lw_Z (mLw nm) 97 97 7587 646 [(3, .int i), (2, .ref 82), (1, .ref 0), (0, .ref 1000)] [] S := by
  obtain ⟨r, S1, S2, f1, f2, hO⟩ := op_mark NF (by omega) H a1 a2
  refine Go.aload_n 2 647 rfl dL_law_646 rfl ?_
  refine Go.aload_n 3 648 rfl dL_law_647 rfl ?_
  refine Go.iload_n 0 649 rfl dL_law_648 rfl ?_
  refine Go.iconst (1 : Int32) 650 rfl dL_law_649 ci_1 ?_
  refine Go.iadd 651 rfl dL_law_650 ?_
  refine Go.sld a1 652 rfl dL_law_651 x1 h1 ?_
  refine Go.aload_n 3 653 rfl dL_law_652 rfl ?_
  refine Go.iload_n 0 654 rfl dL_law_653 rfl ?_
  refine Go.iconst (2 : Int32) 655 rfl dL_law_654 ci_2 ?_
  refine Go.iadd 656 rfl dL_law_655 ?_
  refine Go.sld a2 657 rfl dL_law_656 x2 h2 ?_
  refine Go.cLw (rm := rmM 6) 660 [.int a1, .int a2] [] rfl dL_law_657 (C_X6_mark G l NF S 0 a1 a2 r S1 T_0 f1) cvL_65 (by decide) (by decide +kernel) ⟨by decide, by decide⟩ ⟨Nat.le_of_ble_eq_true rfl, Nat.le_of_ble_eq_true rfl⟩ rfl (Nat.le_of_ble_eq_true rfl) ?_
  refine Go.aload_n 1 661 rfl dL_law_660 rfl ?_
  refine Go.aload_n 3 662 rfl dL_law_661 rfl ?_
  refine Go.iload_n 0 663 rfl dL_law_662 rfl ?_
  refine Go.iconst (1 : Int32) 664 rfl dL_law_663 ci_1 ?_
  refine Go.iadd 665 rfl dL_law_664 ?_
  refine Go.sld a1 666 rfl dL_law_665 x1 h1 ?_
  refine Go.aload_n 3 667 rfl dL_law_666 rfl ?_
  refine Go.iload_n 0 668 rfl dL_law_667 rfl ?_
  refine Go.iconst (2 : Int32) 669 rfl dL_law_668 ci_2 ?_
  refine Go.iadd 670 rfl dL_law_669 ?_
  refine Go.sld a2 671 rfl dL_law_670 x2 h2 ?_
  refine Go.cLw (rm := rmM 4) 674 [.int a1, .int a2] [.int r] rfl dL_law_671 (C_X7_mark G l NF S1 82 a1 a2 r S2 T_82 f2) cvL_68 (by decide) (by decide +kernel) ⟨by decide, by decide⟩ ⟨Nat.le_of_ble_eq_true rfl, Nat.le_of_ble_eq_true rfl⟩ rfl (Nat.le_of_ble_eq_true rfl) ?_
  exact Go.icmp_eq 1407 677 rfl dL_law_674 rfl (fun _ => kk S2 hO) (fun h => absurd rfl h)
theorem lc_shelve {G : aG} {l : Launch} {nm : String} {S : aSt} {NF : Nat} (hNF : 5000000 < NF) (H : OK S) {i a1 a2 a3 a4 a5 : Int32} (x1 : inb (i + 1) G.2.2.2.1 = true) (h1 : G.2.2.2.2.1 (i + 1).toNatClampNeg = a1) (x2 : inb (i + 2) G.2.2.2.1 = true) (h2 : G.2.2.2.2.1 (i + 2).toNatClampNeg = a2) (x3 : inb (i + 3) G.2.2.2.1 = true) (h3 : G.2.2.2.2.1 (i + 3).toNatClampNeg = a3) (x4 : inb (i + 4) G.2.2.2.1 = true) (h4 : G.2.2.2.2.1 (i + 4).toNatClampNeg = a4) (x5 : inb (i + 5) G.2.2.2.1 = true) (h5 : G.2.2.2.2.1 (i + 5).toNatClampNeg = a5) (kk : ∀ S', OK S' → Go G l room_1 lw_Z (mLw nm) 97 97 7587 1407 [(3, .int i), (2, .ref 82), (1, .ref 0), (0, .ref 1000)] [] S') : Go G l room_1 lw_Z (mLw nm) 97 97 7587 679 [(3, .int i), (2, .ref 82), (1, .ref 0), (0, .ref 1000)] [] S := by
  obtain ⟨r, S1, S2, f1, f2, hO⟩ := op_shelve NF H a1 a2
  refine Go.aload_n 2 680 rfl dL_law_679 rfl ?_
  refine Go.aload_n 3 681 rfl dL_law_680 rfl ?_
  refine Go.iload_n 0 682 rfl dL_law_681 rfl ?_
  refine Go.iconst (1 : Int32) 683 rfl dL_law_682 ci_1 ?_
  refine Go.iadd 684 rfl dL_law_683 ?_
  refine Go.sld a1 685 rfl dL_law_684 x1 h1 ?_
  refine Go.aload_n 3 686 rfl dL_law_685 rfl ?_
  refine Go.iload_n 0 687 rfl dL_law_686 rfl ?_
  refine Go.iconst (2 : Int32) 688 rfl dL_law_687 ci_2 ?_
  refine Go.iadd 689 rfl dL_law_688 ?_
  refine Go.sld a2 690 rfl dL_law_689 x2 h2 ?_
  refine Go.cLw (rm := rmM 2) 693 [.int a1, .int a2] [] rfl dL_law_690 (C_X6_shelve G l NF S 0 a1 a2 r S1 T_0 f1) cvL_69 (by decide) (by decide +kernel) ⟨by decide, by decide⟩ ⟨Nat.le_of_ble_eq_true rfl, Nat.le_of_ble_eq_true rfl⟩ rfl (Nat.le_of_ble_eq_true rfl) ?_
  refine Go.aload_n 1 694 rfl dL_law_693 rfl ?_
  refine Go.aload_n 3 695 rfl dL_law_694 rfl ?_
  refine Go.iload_n 0 696 rfl dL_law_695 rfl ?_
  refine Go.iconst (1 : Int32) 697 rfl dL_law_696 ci_1 ?_
  refine Go.iadd 698 rfl dL_law_697 ?_
  refine Go.sld a1 699 rfl dL_law_698 x1 h1 ?_
  refine Go.aload_n 3 700 rfl dL_law_699 rfl ?_
  refine Go.iload_n 0 701 rfl dL_law_700 rfl ?_
  refine Go.iconst (2 : Int32) 702 rfl dL_law_701 ci_2 ?_
  refine Go.iadd 703 rfl dL_law_702 ?_
  refine Go.sld a2 704 rfl dL_law_703 x2 h2 ?_
  refine Go.cLw (rm := rmM 3) 707 [.int a1, .int a2] [.int r] rfl dL_law_704 (C_X7_shelve G l NF S1 82 a1 a2 r S2 T_82 f2) cvL_72 (by decide) (by decide +kernel) ⟨by decide, by decide⟩ ⟨Nat.le_of_ble_eq_true rfl, Nat.le_of_ble_eq_true rfl⟩ rfl (Nat.le_of_ble_eq_true rfl) ?_
  exact Go.icmp_eq 1407 710 rfl dL_law_707 rfl (fun _ => kk S2 hO) (fun h => absurd rfl h)
theorem lc_age {G : aG} {l : Launch} {nm : String} {S : aSt} {NF : Nat} (hNF : 5000000 < NF) (H : OK S) {i a1 a2 a3 a4 a5 : Int32} (x1 : inb (i + 1) G.2.2.2.1 = true) (h1 : G.2.2.2.2.1 (i + 1).toNatClampNeg = a1) (x2 : inb (i + 2) G.2.2.2.1 = true) (h2 : G.2.2.2.2.1 (i + 2).toNatClampNeg = a2) (x3 : inb (i + 3) G.2.2.2.1 = true) (h3 : G.2.2.2.2.1 (i + 3).toNatClampNeg = a3) (x4 : inb (i + 4) G.2.2.2.1 = true) (h4 : G.2.2.2.2.1 (i + 4).toNatClampNeg = a4) (x5 : inb (i + 5) G.2.2.2.1 = true) (h5 : G.2.2.2.2.1 (i + 5).toNatClampNeg = a5) (kk : ∀ S', OK S' → Go G l room_1 lw_Z (mLw nm) 97 97 7587 1407 [(3, .int i), (2, .ref 82), (1, .ref 0), (0, .ref 1000)] [] S') : Go G l room_1 lw_Z (mLw nm) 97 97 7587 712 [(3, .int i), (2, .ref 82), (1, .ref 0), (0, .ref 1000)] [] S := by
  obtain ⟨r, S1, S2, f1, f2, hO⟩ := op_age NF H a1 a2
  refine Go.aload_n 2 713 rfl dL_law_712 rfl ?_
  refine Go.aload_n 3 714 rfl dL_law_713 rfl ?_
  refine Go.iload_n 0 715 rfl dL_law_714 rfl ?_
  refine Go.iconst (1 : Int32) 716 rfl dL_law_715 ci_1 ?_
  refine Go.iadd 717 rfl dL_law_716 ?_
  refine Go.sld a1 718 rfl dL_law_717 x1 h1 ?_
  refine Go.aload_n 3 719 rfl dL_law_718 rfl ?_
  refine Go.iload_n 0 720 rfl dL_law_719 rfl ?_
  refine Go.iconst (2 : Int32) 721 rfl dL_law_720 ci_2 ?_
  refine Go.iadd 722 rfl dL_law_721 ?_
  refine Go.sld a2 723 rfl dL_law_722 x2 h2 ?_
  refine Go.cLw (rm := rmM 2) 726 [.int a1, .int a2] [] rfl dL_law_723 (C_X6_age G l NF S 0 a1 a2 r S1 T_0 f1) cvL_73 (by decide) (by decide +kernel) ⟨by decide, by decide⟩ ⟨Nat.le_of_ble_eq_true rfl, Nat.le_of_ble_eq_true rfl⟩ rfl (Nat.le_of_ble_eq_true rfl) ?_
  refine Go.aload_n 1 727 rfl dL_law_726 rfl ?_
  refine Go.aload_n 3 728 rfl dL_law_727 rfl ?_
  refine Go.iload_n 0 729 rfl dL_law_728 rfl ?_
  refine Go.iconst (1 : Int32) 730 rfl dL_law_729 ci_1 ?_
  refine Go.iadd 731 rfl dL_law_730 ?_
  refine Go.sld a1 732 rfl dL_law_731 x1 h1 ?_
  refine Go.aload_n 3 733 rfl dL_law_732 rfl ?_
  refine Go.iload_n 0 734 rfl dL_law_733 rfl ?_
  refine Go.iconst (2 : Int32) 735 rfl dL_law_734 ci_2 ?_
  refine Go.iadd 736 rfl dL_law_735 ?_
  refine Go.sld a2 737 rfl dL_law_736 x2 h2 ?_
  refine Go.cLw (rm := rmM 3) 740 [.int a1, .int a2] [.int r] rfl dL_law_737 (C_X7_age G l NF S1 82 a1 a2 r S2 T_82 f2) cvL_76 (by decide) (by decide +kernel) ⟨by decide, by decide⟩ ⟨Nat.le_of_ble_eq_true rfl, Nat.le_of_ble_eq_true rfl⟩ rfl (Nat.le_of_ble_eq_true rfl) ?_
  exact Go.icmp_eq 1407 743 rfl dL_law_740 rfl (fun _ => kk S2 hO) (fun h => absurd rfl h)
theorem lc_truth {G : aG} {l : Launch} {nm : String} {S : aSt} {NF : Nat} (hNF : 5000000 < NF) (H : OK S) {i a1 a2 a3 a4 a5 : Int32} (x1 : inb (i + 1) G.2.2.2.1 = true) (h1 : G.2.2.2.2.1 (i + 1).toNatClampNeg = a1) (x2 : inb (i + 2) G.2.2.2.1 = true) (h2 : G.2.2.2.2.1 (i + 2).toNatClampNeg = a2) (x3 : inb (i + 3) G.2.2.2.1 = true) (h3 : G.2.2.2.2.1 (i + 3).toNatClampNeg = a3) (x4 : inb (i + 4) G.2.2.2.1 = true) (h4 : G.2.2.2.2.1 (i + 4).toNatClampNeg = a4) (x5 : inb (i + 5) G.2.2.2.1 = true) (h5 : G.2.2.2.2.1 (i + 5).toNatClampNeg = a5) (kk : ∀ S', OK S' → Go G l room_1 lw_Z (mLw nm) 97 97 7587 1407 [(3, .int i), (2, .ref 82), (1, .ref 0), (0, .ref 1000)] [] S') : Go G l room_1 lw_Z (mLw nm) 97 97 7587 745 [(3, .int i), (2, .ref 82), (1, .ref 0), (0, .ref 1000)] [] S := by
  obtain ⟨r, S1, S2, f1, f2, hO⟩ := op_truth NF H a1 a2
  refine Go.aload_n 2 746 rfl dL_law_745 rfl ?_
  refine Go.aload_n 3 747 rfl dL_law_746 rfl ?_
  refine Go.iload_n 0 748 rfl dL_law_747 rfl ?_
  refine Go.iconst (1 : Int32) 749 rfl dL_law_748 ci_1 ?_
  refine Go.iadd 750 rfl dL_law_749 ?_
  refine Go.sld a1 751 rfl dL_law_750 x1 h1 ?_
  refine Go.aload_n 3 752 rfl dL_law_751 rfl ?_
  refine Go.iload_n 0 753 rfl dL_law_752 rfl ?_
  refine Go.iconst (2 : Int32) 754 rfl dL_law_753 ci_2 ?_
  refine Go.iadd 755 rfl dL_law_754 ?_
  refine Go.sld a2 756 rfl dL_law_755 x2 h2 ?_
  refine Go.cLw (rm := rmM 2) 759 [.int a1, .int a2] [] rfl dL_law_756 (C_X6_truth G l NF S 0 a1 a2 r S1 T_0 f1) cvL_77 (by decide) (by decide +kernel) ⟨by decide, by decide⟩ ⟨Nat.le_of_ble_eq_true rfl, Nat.le_of_ble_eq_true rfl⟩ rfl (Nat.le_of_ble_eq_true rfl) ?_
  refine Go.aload_n 1 760 rfl dL_law_759 rfl ?_
  refine Go.aload_n 3 761 rfl dL_law_760 rfl ?_
  refine Go.iload_n 0 762 rfl dL_law_761 rfl ?_
  refine Go.iconst (1 : Int32) 763 rfl dL_law_762 ci_1 ?_
  refine Go.iadd 764 rfl dL_law_763 ?_
  refine Go.sld a1 765 rfl dL_law_764 x1 h1 ?_
  refine Go.aload_n 3 766 rfl dL_law_765 rfl ?_
  refine Go.iload_n 0 767 rfl dL_law_766 rfl ?_
  refine Go.iconst (2 : Int32) 768 rfl dL_law_767 ci_2 ?_
  refine Go.iadd 769 rfl dL_law_768 ?_
  refine Go.sld a2 770 rfl dL_law_769 x2 h2 ?_
  refine Go.cLw (rm := rmM 3) 773 [.int a1, .int a2] [.int r] rfl dL_law_770 (C_X7_truth G l NF S1 82 a1 a2 r S2 T_82 f2) cvL_80 (by decide) (by decide +kernel) ⟨by decide, by decide⟩ ⟨Nat.le_of_ble_eq_true rfl, Nat.le_of_ble_eq_true rfl⟩ rfl (Nat.le_of_ble_eq_true rfl) ?_
  exact Go.icmp_eq 1407 776 rfl dL_law_773 rfl (fun _ => kk S2 hO) (fun h => absurd rfl h)
theorem lc_fits {G : aG} {l : Launch} {nm : String} {S : aSt} {NF : Nat} (hNF : 5000000 < NF) (H : OK S) {i a1 a2 a3 a4 a5 : Int32} (x1 : inb (i + 1) G.2.2.2.1 = true) (h1 : G.2.2.2.2.1 (i + 1).toNatClampNeg = a1) (x2 : inb (i + 2) G.2.2.2.1 = true) (h2 : G.2.2.2.2.1 (i + 2).toNatClampNeg = a2) (x3 : inb (i + 3) G.2.2.2.1 = true) (h3 : G.2.2.2.2.1 (i + 3).toNatClampNeg = a3) (x4 : inb (i + 4) G.2.2.2.1 = true) (h4 : G.2.2.2.2.1 (i + 4).toNatClampNeg = a4) (x5 : inb (i + 5) G.2.2.2.1 = true) (h5 : G.2.2.2.2.1 (i + 5).toNatClampNeg = a5) (kk : ∀ S', OK S' → Go G l room_1 lw_Z (mLw nm) 97 97 7587 1407 [(3, .int i), (2, .ref 82), (1, .ref 0), (0, .ref 1000)] [] S') : Go G l room_1 lw_Z (mLw nm) 97 97 7587 778 [(3, .int i), (2, .ref 82), (1, .ref 0), (0, .ref 1000)] [] S := by
  obtain ⟨r, f1, f2⟩ := op_fits NF (by omega) H a1
  refine Go.aload_n 2 779 rfl dL_law_778 rfl ?_
  refine Go.aload_n 3 780 rfl dL_law_779 rfl ?_
  refine Go.iload_n 0 781 rfl dL_law_780 rfl ?_
  refine Go.iconst (1 : Int32) 782 rfl dL_law_781 ci_1 ?_
  refine Go.iadd 783 rfl dL_law_782 ?_
  refine Go.sld a1 784 rfl dL_law_783 x1 h1 ?_
  refine Go.cLw (rm := rmM 5) 787 [.int a1] [] rfl dL_law_784 (C_X6_fits G l NF S 0 a1 r T_0 f1) cvL_81 (by decide) (by decide +kernel) ⟨by decide, by decide⟩ ⟨Nat.le_of_ble_eq_true rfl, Nat.le_of_ble_eq_true rfl⟩ rfl (Nat.le_of_ble_eq_true rfl) ?_
  refine Go.aload_n 1 788 rfl dL_law_787 rfl ?_
  refine Go.aload_n 3 789 rfl dL_law_788 rfl ?_
  refine Go.iload_n 0 790 rfl dL_law_789 rfl ?_
  refine Go.iconst (1 : Int32) 791 rfl dL_law_790 ci_1 ?_
  refine Go.iadd 792 rfl dL_law_791 ?_
  refine Go.sld a1 793 rfl dL_law_792 x1 h1 ?_
  refine Go.cLw (rm := rmM 4) 796 [.int a1] [.int r] rfl dL_law_793 (C_X7_fits G l NF S 82 a1 r T_82 f2) cvL_84 (by decide) (by decide +kernel) ⟨by decide, by decide⟩ ⟨Nat.le_of_ble_eq_true rfl, Nat.le_of_ble_eq_true rfl⟩ rfl (Nat.le_of_ble_eq_true rfl) ?_
  exact Go.icmp_eq 1407 799 rfl dL_law_796 rfl (fun _ => kk S H) (fun h => absurd rfl h)
theorem lc_take {G : aG} {l : Launch} {nm : String} {S : aSt} {NF : Nat} (hNF : 5000000 < NF) (H : OK S) {i a1 a2 a3 a4 a5 : Int32} (x1 : inb (i + 1) G.2.2.2.1 = true) (h1 : G.2.2.2.2.1 (i + 1).toNatClampNeg = a1) (x2 : inb (i + 2) G.2.2.2.1 = true) (h2 : G.2.2.2.2.1 (i + 2).toNatClampNeg = a2) (x3 : inb (i + 3) G.2.2.2.1 = true) (h3 : G.2.2.2.2.1 (i + 3).toNatClampNeg = a3) (x4 : inb (i + 4) G.2.2.2.1 = true) (h4 : G.2.2.2.2.1 (i + 4).toNatClampNeg = a4) (x5 : inb (i + 5) G.2.2.2.1 = true) (h5 : G.2.2.2.2.1 (i + 5).toNatClampNeg = a5) (kk : ∀ S', OK S' → Go G l room_1 lw_Z (mLw nm) 97 97 7587 1407 [(3, .int i), (2, .ref 82), (1, .ref 0), (0, .ref 1000)] [] S') : Go G l room_1 lw_Z (mLw nm) 97 97 7587 801 [(3, .int i), (2, .ref 82), (1, .ref 0), (0, .ref 1000)] [] S := by
  obtain ⟨r, S1, S2, f1, f2, hO⟩ := op_take NF (by omega) H a1 a2
  refine Go.aload_n 2 802 rfl dL_law_801 rfl ?_
  refine Go.aload_n 3 803 rfl dL_law_802 rfl ?_
  refine Go.iload_n 0 804 rfl dL_law_803 rfl ?_
  refine Go.iconst (1 : Int32) 805 rfl dL_law_804 ci_1 ?_
  refine Go.iadd 806 rfl dL_law_805 ?_
  refine Go.sld a1 807 rfl dL_law_806 x1 h1 ?_
  refine Go.aload_n 3 808 rfl dL_law_807 rfl ?_
  refine Go.iload_n 0 809 rfl dL_law_808 rfl ?_
  refine Go.iconst (2 : Int32) 810 rfl dL_law_809 ci_2 ?_
  refine Go.iadd 811 rfl dL_law_810 ?_
  refine Go.sld a2 812 rfl dL_law_811 x2 h2 ?_
  refine Go.cLw (rm := rmM 4) 815 [.int a1, .int a2] [] rfl dL_law_812 (C_X6_take G l NF S 0 a1 a2 r S1 T_0 f1) cvL_85 (by decide) (by decide +kernel) ⟨by decide, by decide⟩ ⟨Nat.le_of_ble_eq_true rfl, Nat.le_of_ble_eq_true rfl⟩ rfl (Nat.le_of_ble_eq_true rfl) ?_
  refine Go.aload_n 1 816 rfl dL_law_815 rfl ?_
  refine Go.aload_n 3 817 rfl dL_law_816 rfl ?_
  refine Go.iload_n 0 818 rfl dL_law_817 rfl ?_
  refine Go.iconst (1 : Int32) 819 rfl dL_law_818 ci_1 ?_
  refine Go.iadd 820 rfl dL_law_819 ?_
  refine Go.sld a1 821 rfl dL_law_820 x1 h1 ?_
  refine Go.aload_n 3 822 rfl dL_law_821 rfl ?_
  refine Go.iload_n 0 823 rfl dL_law_822 rfl ?_
  refine Go.iconst (2 : Int32) 824 rfl dL_law_823 ci_2 ?_
  refine Go.iadd 825 rfl dL_law_824 ?_
  refine Go.sld a2 826 rfl dL_law_825 x2 h2 ?_
  refine Go.cLw (rm := rmM 4) 829 [.int a1, .int a2] [.int r] rfl dL_law_826 (C_X7_take G l NF S1 82 a1 a2 r S2 T_82 f2) cvL_88 (by decide) (by decide +kernel) ⟨by decide, by decide⟩ ⟨Nat.le_of_ble_eq_true rfl, Nat.le_of_ble_eq_true rfl⟩ rfl (Nat.le_of_ble_eq_true rfl) ?_
  exact Go.icmp_eq 1407 832 rfl dL_law_829 rfl (fun _ => kk S2 hO) (fun h => absurd rfl h)
theorem lc_bring {G : aG} {l : Launch} {nm : String} {S : aSt} {NF : Nat} (hNF : 5000000 < NF) (H : OK S) {i a1 a2 a3 a4 a5 : Int32} (x1 : inb (i + 1) G.2.2.2.1 = true) (h1 : G.2.2.2.2.1 (i + 1).toNatClampNeg = a1) (x2 : inb (i + 2) G.2.2.2.1 = true) (h2 : G.2.2.2.2.1 (i + 2).toNatClampNeg = a2) (x3 : inb (i + 3) G.2.2.2.1 = true) (h3 : G.2.2.2.2.1 (i + 3).toNatClampNeg = a3) (x4 : inb (i + 4) G.2.2.2.1 = true) (h4 : G.2.2.2.2.1 (i + 4).toNatClampNeg = a4) (x5 : inb (i + 5) G.2.2.2.1 = true) (h5 : G.2.2.2.2.1 (i + 5).toNatClampNeg = a5) (kk : ∀ S', OK S' → Go G l room_1 lw_Z (mLw nm) 97 97 7587 1407 [(3, .int i), (2, .ref 82), (1, .ref 0), (0, .ref 1000)] [] S') : Go G l room_1 lw_Z (mLw nm) 97 97 7587 834 [(3, .int i), (2, .ref 82), (1, .ref 0), (0, .ref 1000)] [] S := by
  obtain ⟨r, S1, S2, f1, f2, hO⟩ := op_bring NF H a1
  refine Go.aload_n 2 835 rfl dL_law_834 rfl ?_
  refine Go.aload_n 3 836 rfl dL_law_835 rfl ?_
  refine Go.iload_n 0 837 rfl dL_law_836 rfl ?_
  refine Go.iconst (1 : Int32) 838 rfl dL_law_837 ci_1 ?_
  refine Go.iadd 839 rfl dL_law_838 ?_
  refine Go.sld a1 840 rfl dL_law_839 x1 h1 ?_
  refine Go.cLw (rm := rmM 2) 843 [.int a1] [] rfl dL_law_840 (C_X6_bring G l NF S 0 a1 r S1 T_0 f1) cvL_89 (by decide) (by decide +kernel) ⟨by decide, by decide⟩ ⟨Nat.le_of_ble_eq_true rfl, Nat.le_of_ble_eq_true rfl⟩ rfl (Nat.le_of_ble_eq_true rfl) ?_
  refine Go.aload_n 1 844 rfl dL_law_843 rfl ?_
  refine Go.aload_n 3 845 rfl dL_law_844 rfl ?_
  refine Go.iload_n 0 846 rfl dL_law_845 rfl ?_
  refine Go.iconst (1 : Int32) 847 rfl dL_law_846 ci_1 ?_
  refine Go.iadd 848 rfl dL_law_847 ?_
  refine Go.sld a1 849 rfl dL_law_848 x1 h1 ?_
  refine Go.cLw (rm := rmM 3) 852 [.int a1] [.int r] rfl dL_law_849 (C_X7_bring G l NF S1 82 a1 r S2 T_82 f2) cvL_92 (by decide) (by decide +kernel) ⟨by decide, by decide⟩ ⟨Nat.le_of_ble_eq_true rfl, Nat.le_of_ble_eq_true rfl⟩ rfl (Nat.le_of_ble_eq_true rfl) ?_
  exact Go.icmp_eq 1407 855 rfl dL_law_852 rfl (fun _ => kk S2 hO) (fun h => absurd rfl h)
theorem lc_undo {G : aG} {l : Launch} {nm : String} {S : aSt} {NF : Nat} (hNF : 5000000 < NF) (H : OK S) {i a1 a2 a3 a4 a5 : Int32} (x1 : inb (i + 1) G.2.2.2.1 = true) (h1 : G.2.2.2.2.1 (i + 1).toNatClampNeg = a1) (x2 : inb (i + 2) G.2.2.2.1 = true) (h2 : G.2.2.2.2.1 (i + 2).toNatClampNeg = a2) (x3 : inb (i + 3) G.2.2.2.1 = true) (h3 : G.2.2.2.2.1 (i + 3).toNatClampNeg = a3) (x4 : inb (i + 4) G.2.2.2.1 = true) (h4 : G.2.2.2.2.1 (i + 4).toNatClampNeg = a4) (x5 : inb (i + 5) G.2.2.2.1 = true) (h5 : G.2.2.2.2.1 (i + 5).toNatClampNeg = a5) (kk : ∀ S', OK S' → Go G l room_1 lw_Z (mLw nm) 97 97 7587 1407 [(3, .int i), (2, .ref 82), (1, .ref 0), (0, .ref 1000)] [] S') : Go G l room_1 lw_Z (mLw nm) 97 97 7587 857 [(3, .int i), (2, .ref 82), (1, .ref 0), (0, .ref 1000)] [] S := by
  obtain ⟨r, S1, S2, f1, f2, hO⟩ := op_undo NF (by omega) H a1
  refine Go.aload_n 2 858 rfl dL_law_857 rfl ?_
  refine Go.aload_n 3 859 rfl dL_law_858 rfl ?_
  refine Go.iload_n 0 860 rfl dL_law_859 rfl ?_
  refine Go.iconst (1 : Int32) 861 rfl dL_law_860 ci_1 ?_
  refine Go.iadd 862 rfl dL_law_861 ?_
  refine Go.sld a1 863 rfl dL_law_862 x1 h1 ?_
  refine Go.cLw (rm := rmM 3) 866 [.int a1] [] rfl dL_law_863 (C_X6_undo G l NF S 0 a1 r S1 T_0 f1) cvL_93 (by decide) (by decide +kernel) ⟨by decide, by decide⟩ ⟨Nat.le_of_ble_eq_true rfl, Nat.le_of_ble_eq_true rfl⟩ rfl (Nat.le_of_ble_eq_true rfl) ?_
  refine Go.aload_n 1 867 rfl dL_law_866 rfl ?_
  refine Go.aload_n 3 868 rfl dL_law_867 rfl ?_
  refine Go.iload_n 0 869 rfl dL_law_868 rfl ?_
  refine Go.iconst (1 : Int32) 870 rfl dL_law_869 ci_1 ?_
  refine Go.iadd 871 rfl dL_law_870 ?_
  refine Go.sld a1 872 rfl dL_law_871 x1 h1 ?_
  refine Go.cLw (rm := rmM 2) 875 [.int a1] [.int r] rfl dL_law_872 (C_X7_undo G l NF S1 82 a1 r S2 T_82 f2) cvL_96 (by decide) (by decide +kernel) ⟨by decide, by decide⟩ ⟨Nat.le_of_ble_eq_true rfl, Nat.le_of_ble_eq_true rfl⟩ rfl (Nat.le_of_ble_eq_true rfl) ?_
  exact Go.icmp_eq 1407 878 rfl dL_law_875 rfl (fun _ => kk S2 hO) (fun h => absurd rfl h)
theorem lc_right {G : aG} {l : Launch} {nm : String} {S : aSt} {NF : Nat} (hNF : 5000000 < NF) (H : OK S) {i a1 a2 a3 a4 a5 : Int32} (x1 : inb (i + 1) G.2.2.2.1 = true) (h1 : G.2.2.2.2.1 (i + 1).toNatClampNeg = a1) (x2 : inb (i + 2) G.2.2.2.1 = true) (h2 : G.2.2.2.2.1 (i + 2).toNatClampNeg = a2) (x3 : inb (i + 3) G.2.2.2.1 = true) (h3 : G.2.2.2.2.1 (i + 3).toNatClampNeg = a3) (x4 : inb (i + 4) G.2.2.2.1 = true) (h4 : G.2.2.2.2.1 (i + 4).toNatClampNeg = a4) (x5 : inb (i + 5) G.2.2.2.1 = true) (h5 : G.2.2.2.2.1 (i + 5).toNatClampNeg = a5) (kk : ∀ S', OK S' → Go G l room_1 lw_Z (mLw nm) 97 97 7587 1407 [(3, .int i), (2, .ref 82), (1, .ref 0), (0, .ref 1000)] [] S') : Go G l room_1 lw_Z (mLw nm) 97 97 7587 880 [(3, .int i), (2, .ref 82), (1, .ref 0), (0, .ref 1000)] [] S := by
  obtain ⟨r, S1, S2, f1, f2, hO⟩ := op_right NF (by omega) H
  refine Go.aload_n 2 881 rfl dL_law_880 rfl ?_
  refine Go.cLw (rm := rmM 5) 884 [] [] rfl dL_law_881 (C_X6_right G l NF S 0 r S1 T_0 f1) cvL_97 (by decide) (by decide +kernel) ⟨by decide, by decide⟩ ⟨Nat.le_of_ble_eq_true rfl, Nat.le_of_ble_eq_true rfl⟩ rfl (Nat.le_of_ble_eq_true rfl) ?_
  refine Go.aload_n 1 885 rfl dL_law_884 rfl ?_
  refine Go.cLw (rm := rmM 4) 888 [] [.int r] rfl dL_law_885 (C_X7_right G l NF S1 82 r S2 T_82 f2) cvL_101 (by decide) (by decide +kernel) ⟨by decide, by decide⟩ ⟨Nat.le_of_ble_eq_true rfl, Nat.le_of_ble_eq_true rfl⟩ rfl (Nat.le_of_ble_eq_true rfl) ?_
  exact Go.icmp_eq 1407 891 rfl dL_law_888 rfl (fun _ => kk S2 hO) (fun h => absurd rfl h)
theorem lc_keep {G : aG} {l : Launch} {nm : String} {S : aSt} {NF : Nat} (hNF : 5000000 < NF) (H : OK S) {i a1 a2 a3 a4 a5 : Int32} (x1 : inb (i + 1) G.2.2.2.1 = true) (h1 : G.2.2.2.2.1 (i + 1).toNatClampNeg = a1) (x2 : inb (i + 2) G.2.2.2.1 = true) (h2 : G.2.2.2.2.1 (i + 2).toNatClampNeg = a2) (x3 : inb (i + 3) G.2.2.2.1 = true) (h3 : G.2.2.2.2.1 (i + 3).toNatClampNeg = a3) (x4 : inb (i + 4) G.2.2.2.1 = true) (h4 : G.2.2.2.2.1 (i + 4).toNatClampNeg = a4) (x5 : inb (i + 5) G.2.2.2.1 = true) (h5 : G.2.2.2.2.1 (i + 5).toNatClampNeg = a5) (kk : ∀ S', OK S' → Go G l room_1 lw_Z (mLw nm) 97 97 7587 1407 [(3, .int i), (2, .ref 82), (1, .ref 0), (0, .ref 1000)] [] S') : Go G l room_1 lw_Z (mLw nm) 97 97 7587 893 [(3, .int i), (2, .ref 82), (1, .ref 0), (0, .ref 1000)] [] S := by
  obtain ⟨r, S1, S2, f1, f2, hO⟩ := op_keep NF (by omega) H a1
  refine Go.aload_n 2 894 rfl dL_law_893 rfl ?_
  refine Go.aload_n 3 895 rfl dL_law_894 rfl ?_
  refine Go.iload_n 0 896 rfl dL_law_895 rfl ?_
  refine Go.iconst (1 : Int32) 897 rfl dL_law_896 ci_1 ?_
  refine Go.iadd 898 rfl dL_law_897 ?_
  refine Go.sld a1 899 rfl dL_law_898 x1 h1 ?_
  refine Go.cLw (rm := rmM 3) 902 [.int a1] [] rfl dL_law_899 (C_X6_keep G l NF S 0 a1 r S1 T_0 f1) cvL_102 (by decide) (by decide +kernel) ⟨by decide, by decide⟩ ⟨Nat.le_of_ble_eq_true rfl, Nat.le_of_ble_eq_true rfl⟩ rfl (Nat.le_of_ble_eq_true rfl) ?_
  refine Go.aload_n 1 903 rfl dL_law_902 rfl ?_
  refine Go.aload_n 3 904 rfl dL_law_903 rfl ?_
  refine Go.iload_n 0 905 rfl dL_law_904 rfl ?_
  refine Go.iconst (1 : Int32) 906 rfl dL_law_905 ci_1 ?_
  refine Go.iadd 907 rfl dL_law_906 ?_
  refine Go.sld a1 908 rfl dL_law_907 x1 h1 ?_
  refine Go.cLw (rm := rmM 2) 911 [.int a1] [.int r] rfl dL_law_908 (C_X7_keep G l NF S1 82 a1 r S2 T_82 f2) cvL_105 (by decide) (by decide +kernel) ⟨by decide, by decide⟩ ⟨Nat.le_of_ble_eq_true rfl, Nat.le_of_ble_eq_true rfl⟩ rfl (Nat.le_of_ble_eq_true rfl) ?_
  exact Go.icmp_eq 1407 914 rfl dL_law_911 rfl (fun _ => kk S2 hO) (fun h => absurd rfl h)
theorem lc_on {G : aG} {l : Launch} {nm : String} {S : aSt} {NF : Nat} (hNF : 5000000 < NF) (H : OK S) {i a1 a2 a3 a4 a5 : Int32} (x1 : inb (i + 1) G.2.2.2.1 = true) (h1 : G.2.2.2.2.1 (i + 1).toNatClampNeg = a1) (x2 : inb (i + 2) G.2.2.2.1 = true) (h2 : G.2.2.2.2.1 (i + 2).toNatClampNeg = a2) (x3 : inb (i + 3) G.2.2.2.1 = true) (h3 : G.2.2.2.2.1 (i + 3).toNatClampNeg = a3) (x4 : inb (i + 4) G.2.2.2.1 = true) (h4 : G.2.2.2.2.1 (i + 4).toNatClampNeg = a4) (x5 : inb (i + 5) G.2.2.2.1 = true) (h5 : G.2.2.2.2.1 (i + 5).toNatClampNeg = a5) (kk : ∀ S', OK S' → Go G l room_1 lw_Z (mLw nm) 97 97 7587 1407 [(3, .int i), (2, .ref 82), (1, .ref 0), (0, .ref 1000)] [] S') : Go G l room_1 lw_Z (mLw nm) 97 97 7587 916 [(3, .int i), (2, .ref 82), (1, .ref 0), (0, .ref 1000)] [] S := by
  obtain ⟨r, S1, S2, f1, f2, hO⟩ := op_on NF (by omega) H a1
  refine Go.aload_n 2 917 rfl dL_law_916 rfl ?_
  refine Go.aload_n 3 918 rfl dL_law_917 rfl ?_
  refine Go.iload_n 0 919 rfl dL_law_918 rfl ?_
  refine Go.iconst (1 : Int32) 920 rfl dL_law_919 ci_1 ?_
  refine Go.iadd 921 rfl dL_law_920 ?_
  refine Go.sld a1 922 rfl dL_law_921 x1 h1 ?_
  refine Go.cLw (rm := rmM 3) 925 [.int a1] [] rfl dL_law_922 (C_X6_on G l NF S 0 a1 r S1 T_0 f1) cvL_106 (by decide) (by decide +kernel) ⟨by decide, by decide⟩ ⟨Nat.le_of_ble_eq_true rfl, Nat.le_of_ble_eq_true rfl⟩ rfl (Nat.le_of_ble_eq_true rfl) ?_
  refine Go.aload_n 1 926 rfl dL_law_925 rfl ?_
  refine Go.aload_n 3 927 rfl dL_law_926 rfl ?_
  refine Go.iload_n 0 928 rfl dL_law_927 rfl ?_
  refine Go.iconst (1 : Int32) 929 rfl dL_law_928 ci_1 ?_
  refine Go.iadd 930 rfl dL_law_929 ?_
  refine Go.sld a1 931 rfl dL_law_930 x1 h1 ?_
  refine Go.cLw (rm := rmM 2) 934 [.int a1] [.int r] rfl dL_law_931 (C_X7_on G l NF S1 82 a1 r S2 T_82 f2) cvL_109 (by decide) (by decide +kernel) ⟨by decide, by decide⟩ ⟨Nat.le_of_ble_eq_true rfl, Nat.le_of_ble_eq_true rfl⟩ rfl (Nat.le_of_ble_eq_true rfl) ?_
  exact Go.icmp_eq 1407 937 rfl dL_law_934 rfl (fun _ => kk S2 hO) (fun h => absurd rfl h)
theorem lc_match {G : aG} {l : Launch} {nm : String} {S : aSt} {NF : Nat} (hNF : 5000000 < NF) (H : OK S) {i a1 a2 a3 a4 a5 : Int32} (x1 : inb (i + 1) G.2.2.2.1 = true) (h1 : G.2.2.2.2.1 (i + 1).toNatClampNeg = a1) (x2 : inb (i + 2) G.2.2.2.1 = true) (h2 : G.2.2.2.2.1 (i + 2).toNatClampNeg = a2) (x3 : inb (i + 3) G.2.2.2.1 = true) (h3 : G.2.2.2.2.1 (i + 3).toNatClampNeg = a3) (x4 : inb (i + 4) G.2.2.2.1 = true) (h4 : G.2.2.2.2.1 (i + 4).toNatClampNeg = a4) (x5 : inb (i + 5) G.2.2.2.1 = true) (h5 : G.2.2.2.2.1 (i + 5).toNatClampNeg = a5) (kk : ∀ S', OK S' → Go G l room_1 lw_Z (mLw nm) 97 97 7587 1407 [(3, .int i), (2, .ref 82), (1, .ref 0), (0, .ref 1000)] [] S') : Go G l room_1 lw_Z (mLw nm) 97 97 7587 939 [(3, .int i), (2, .ref 82), (1, .ref 0), (0, .ref 1000)] [] S := by
  obtain ⟨r, S1, S2, f1, f2, hO⟩ := op_match NF (by omega) H a1
  refine Go.aload_n 2 940 rfl dL_law_939 rfl ?_
  refine Go.aload_n 3 941 rfl dL_law_940 rfl ?_
  refine Go.iload_n 0 942 rfl dL_law_941 rfl ?_
  refine Go.iconst (1 : Int32) 943 rfl dL_law_942 ci_1 ?_
  refine Go.iadd 944 rfl dL_law_943 ?_
  refine Go.sld a1 945 rfl dL_law_944 x1 h1 ?_
  refine Go.cLw (rm := rmM 7) 948 [.int a1] [] rfl dL_law_945 (C_X6_match G l NF S 0 a1 r S1 T_0 f1) cvL_110 (by decide) (by decide +kernel) ⟨by decide, by decide⟩ ⟨Nat.le_of_ble_eq_true rfl, Nat.le_of_ble_eq_true rfl⟩ rfl (Nat.le_of_ble_eq_true rfl) ?_
  refine Go.aload_n 1 949 rfl dL_law_948 rfl ?_
  refine Go.aload_n 3 950 rfl dL_law_949 rfl ?_
  refine Go.iload_n 0 951 rfl dL_law_950 rfl ?_
  refine Go.iconst (1 : Int32) 952 rfl dL_law_951 ci_1 ?_
  refine Go.iadd 953 rfl dL_law_952 ?_
  refine Go.sld a1 954 rfl dL_law_953 x1 h1 ?_
  refine Go.cLw (rm := rmM 6) 957 [.int a1] [.int r] rfl dL_law_954 (C_X7_match G l NF S1 82 a1 r S2 T_82 f2) cvL_113 (by decide) (by decide +kernel) ⟨by decide, by decide⟩ ⟨Nat.le_of_ble_eq_true rfl, Nat.le_of_ble_eq_true rfl⟩ rfl (Nat.le_of_ble_eq_true rfl) ?_
  exact Go.icmp_eq 1407 960 rfl dL_law_957 rfl (fun _ => kk S2 hO) (fun h => absurd rfl h)
theorem lc_wished {G : aG} {l : Launch} {nm : String} {S : aSt} {NF : Nat} (hNF : 5000000 < NF) (H : OK S) {i a1 a2 a3 a4 a5 : Int32} (x1 : inb (i + 1) G.2.2.2.1 = true) (h1 : G.2.2.2.2.1 (i + 1).toNatClampNeg = a1) (x2 : inb (i + 2) G.2.2.2.1 = true) (h2 : G.2.2.2.2.1 (i + 2).toNatClampNeg = a2) (x3 : inb (i + 3) G.2.2.2.1 = true) (h3 : G.2.2.2.2.1 (i + 3).toNatClampNeg = a3) (x4 : inb (i + 4) G.2.2.2.1 = true) (h4 : G.2.2.2.2.1 (i + 4).toNatClampNeg = a4) (x5 : inb (i + 5) G.2.2.2.1 = true) (h5 : G.2.2.2.2.1 (i + 5).toNatClampNeg = a5) (kk : ∀ S', OK S' → Go G l room_1 lw_Z (mLw nm) 97 97 7587 1407 [(3, .int i), (2, .ref 82), (1, .ref 0), (0, .ref 1000)] [] S') : Go G l room_1 lw_Z (mLw nm) 97 97 7587 962 [(3, .int i), (2, .ref 82), (1, .ref 0), (0, .ref 1000)] [] S := by
  obtain ⟨r, S1, S2, f1, f2, hO⟩ := op_wished NF (by omega) H a1
  refine Go.aload_n 2 963 rfl dL_law_962 rfl ?_
  refine Go.aload_n 3 964 rfl dL_law_963 rfl ?_
  refine Go.iload_n 0 965 rfl dL_law_964 rfl ?_
  refine Go.iconst (1 : Int32) 966 rfl dL_law_965 ci_1 ?_
  refine Go.iadd 967 rfl dL_law_966 ?_
  refine Go.sld a1 968 rfl dL_law_967 x1 h1 ?_
  refine Go.cLw (rm := rmM 7) 971 [.int a1] [] rfl dL_law_968 (C_X6_wished G l NF S 0 a1 r S1 T_0 f1) cvL_114 (by decide) (by decide +kernel) ⟨by decide, by decide⟩ ⟨Nat.le_of_ble_eq_true rfl, Nat.le_of_ble_eq_true rfl⟩ rfl (Nat.le_of_ble_eq_true rfl) ?_
  refine Go.aload_n 1 972 rfl dL_law_971 rfl ?_
  refine Go.aload_n 3 973 rfl dL_law_972 rfl ?_
  refine Go.iload_n 0 974 rfl dL_law_973 rfl ?_
  refine Go.iconst (1 : Int32) 975 rfl dL_law_974 ci_1 ?_
  refine Go.iadd 976 rfl dL_law_975 ?_
  refine Go.sld a1 977 rfl dL_law_976 x1 h1 ?_
  refine Go.cLw (rm := rmM 6) 980 [.int a1] [.int r] rfl dL_law_977 (C_X7_wished G l NF S1 82 a1 r S2 T_82 f2) cvL_117 (by decide) (by decide +kernel) ⟨by decide, by decide⟩ ⟨Nat.le_of_ble_eq_true rfl, Nat.le_of_ble_eq_true rfl⟩ rfl (Nat.le_of_ble_eq_true rfl) ?_
  exact Go.icmp_eq 1407 983 rfl dL_law_980 rfl (fun _ => kk S2 hO) (fun h => absurd rfl h)
theorem lc_fullest {G : aG} {l : Launch} {nm : String} {S : aSt} {NF : Nat} (hNF : 5000000 < NF) (H : OK S) {i a1 a2 a3 a4 a5 : Int32} (x1 : inb (i + 1) G.2.2.2.1 = true) (h1 : G.2.2.2.2.1 (i + 1).toNatClampNeg = a1) (x2 : inb (i + 2) G.2.2.2.1 = true) (h2 : G.2.2.2.2.1 (i + 2).toNatClampNeg = a2) (x3 : inb (i + 3) G.2.2.2.1 = true) (h3 : G.2.2.2.2.1 (i + 3).toNatClampNeg = a3) (x4 : inb (i + 4) G.2.2.2.1 = true) (h4 : G.2.2.2.2.1 (i + 4).toNatClampNeg = a4) (x5 : inb (i + 5) G.2.2.2.1 = true) (h5 : G.2.2.2.2.1 (i + 5).toNatClampNeg = a5) (kk : ∀ S', OK S' → Go G l room_1 lw_Z (mLw nm) 97 97 7587 1407 [(3, .int i), (2, .ref 82), (1, .ref 0), (0, .ref 1000)] [] S') : Go G l room_1 lw_Z (mLw nm) 97 97 7587 985 [(3, .int i), (2, .ref 82), (1, .ref 0), (0, .ref 1000)] [] S := by
  obtain ⟨r, S1, S2, f1, f2, hO⟩ := op_fullest NF (by omega) H
  refine Go.aload_n 2 986 rfl dL_law_985 rfl ?_
  refine Go.cLw (rm := rmM 7) 989 [] [] rfl dL_law_986 (C_X6_fullest G l NF S 0 r S1 T_0 f1) cvL_118 (by decide) (by decide +kernel) ⟨by decide, by decide⟩ ⟨Nat.le_of_ble_eq_true rfl, Nat.le_of_ble_eq_true rfl⟩ rfl (Nat.le_of_ble_eq_true rfl) ?_
  refine Go.aload_n 1 990 rfl dL_law_989 rfl ?_
  refine Go.cLw (rm := rmM 6) 993 [] [.int r] rfl dL_law_990 (C_X7_fullest G l NF S1 82 r S2 T_82 f2) cvL_121 (by decide) (by decide +kernel) ⟨by decide, by decide⟩ ⟨Nat.le_of_ble_eq_true rfl, Nat.le_of_ble_eq_true rfl⟩ rfl (Nat.le_of_ble_eq_true rfl) ?_
  exact Go.icmp_eq 1407 996 rfl dL_law_993 rfl (fun _ => kk S2 hO) (fun h => absurd rfl h)
theorem lc_may {G : aG} {l : Launch} {nm : String} {S : aSt} {NF : Nat} (hNF : 5000000 < NF) (H : OK S) {i a1 a2 a3 a4 a5 : Int32} (x1 : inb (i + 1) G.2.2.2.1 = true) (h1 : G.2.2.2.2.1 (i + 1).toNatClampNeg = a1) (x2 : inb (i + 2) G.2.2.2.1 = true) (h2 : G.2.2.2.2.1 (i + 2).toNatClampNeg = a2) (x3 : inb (i + 3) G.2.2.2.1 = true) (h3 : G.2.2.2.2.1 (i + 3).toNatClampNeg = a3) (x4 : inb (i + 4) G.2.2.2.1 = true) (h4 : G.2.2.2.2.1 (i + 4).toNatClampNeg = a4) (x5 : inb (i + 5) G.2.2.2.1 = true) (h5 : G.2.2.2.2.1 (i + 5).toNatClampNeg = a5) (kk : ∀ S', OK S' → Go G l room_1 lw_Z (mLw nm) 97 97 7587 1407 [(3, .int i), (2, .ref 82), (1, .ref 0), (0, .ref 1000)] [] S') : Go G l room_1 lw_Z (mLw nm) 97 97 7587 998 [(3, .int i), (2, .ref 82), (1, .ref 0), (0, .ref 1000)] [] S := by
  obtain ⟨r, S1, S2, f1, f2, hO⟩ := op_may NF (by omega) H a1
  refine Go.aload_n 2 999 rfl dL_law_998 rfl ?_
  refine Go.aload_n 3 1000 rfl dL_law_999 rfl ?_
  refine Go.iload_n 0 1001 rfl dL_law_1000 rfl ?_
  refine Go.iconst (1 : Int32) 1002 rfl dL_law_1001 ci_1 ?_
  refine Go.iadd 1003 rfl dL_law_1002 ?_
  refine Go.sld a1 1004 rfl dL_law_1003 x1 h1 ?_
  refine Go.cLw (rm := rmM 7) 1007 [.int a1] [] rfl dL_law_1004 (C_X6_may G l NF S 0 a1 r S1 T_0 f1) cvL_122 (by decide) (by decide +kernel) ⟨by decide, by decide⟩ ⟨Nat.le_of_ble_eq_true rfl, Nat.le_of_ble_eq_true rfl⟩ rfl (Nat.le_of_ble_eq_true rfl) ?_
  refine Go.aload_n 1 1008 rfl dL_law_1007 rfl ?_
  refine Go.aload_n 3 1009 rfl dL_law_1008 rfl ?_
  refine Go.iload_n 0 1010 rfl dL_law_1009 rfl ?_
  refine Go.iconst (1 : Int32) 1011 rfl dL_law_1010 ci_1 ?_
  refine Go.iadd 1012 rfl dL_law_1011 ?_
  refine Go.sld a1 1013 rfl dL_law_1012 x1 h1 ?_
  refine Go.cLw (rm := rmM 6) 1016 [.int a1] [.int r] rfl dL_law_1013 (C_X7_may G l NF S1 82 a1 r S2 T_82 f2) cvL_125 (by decide) (by decide +kernel) ⟨by decide, by decide⟩ ⟨Nat.le_of_ble_eq_true rfl, Nat.le_of_ble_eq_true rfl⟩ rfl (Nat.le_of_ble_eq_true rfl) ?_
  exact Go.icmp_eq 1407 1019 rfl dL_law_1016 rfl (fun _ => kk S2 hO) (fun h => absurd rfl h)
theorem lc_sure {G : aG} {l : Launch} {nm : String} {S : aSt} {NF : Nat} (hNF : 5000000 < NF) (H : OK S) {i a1 a2 a3 a4 a5 : Int32} (x1 : inb (i + 1) G.2.2.2.1 = true) (h1 : G.2.2.2.2.1 (i + 1).toNatClampNeg = a1) (x2 : inb (i + 2) G.2.2.2.1 = true) (h2 : G.2.2.2.2.1 (i + 2).toNatClampNeg = a2) (x3 : inb (i + 3) G.2.2.2.1 = true) (h3 : G.2.2.2.2.1 (i + 3).toNatClampNeg = a3) (x4 : inb (i + 4) G.2.2.2.1 = true) (h4 : G.2.2.2.2.1 (i + 4).toNatClampNeg = a4) (x5 : inb (i + 5) G.2.2.2.1 = true) (h5 : G.2.2.2.2.1 (i + 5).toNatClampNeg = a5) (kk : ∀ S', OK S' → Go G l room_1 lw_Z (mLw nm) 97 97 7587 1407 [(3, .int i), (2, .ref 82), (1, .ref 0), (0, .ref 1000)] [] S') : Go G l room_1 lw_Z (mLw nm) 97 97 7587 1021 [(3, .int i), (2, .ref 82), (1, .ref 0), (0, .ref 1000)] [] S := by
  obtain ⟨r, S1, S2, f1, f2, hO⟩ := op_sure NF (by omega) H a1
  refine Go.aload_n 2 1022 rfl dL_law_1021 rfl ?_
  refine Go.aload_n 3 1023 rfl dL_law_1022 rfl ?_
  refine Go.iload_n 0 1024 rfl dL_law_1023 rfl ?_
  refine Go.iconst (1 : Int32) 1025 rfl dL_law_1024 ci_1 ?_
  refine Go.iadd 1026 rfl dL_law_1025 ?_
  refine Go.sld a1 1027 rfl dL_law_1026 x1 h1 ?_
  refine Go.cLw (rm := rmM 7) 1030 [.int a1] [] rfl dL_law_1027 (C_X6_sure G l NF S 0 a1 r S1 T_0 f1) cvL_126 (by decide) (by decide +kernel) ⟨by decide, by decide⟩ ⟨Nat.le_of_ble_eq_true rfl, Nat.le_of_ble_eq_true rfl⟩ rfl (Nat.le_of_ble_eq_true rfl) ?_
  refine Go.aload_n 1 1031 rfl dL_law_1030 rfl ?_
  refine Go.aload_n 3 1032 rfl dL_law_1031 rfl ?_
  refine Go.iload_n 0 1033 rfl dL_law_1032 rfl ?_
  refine Go.iconst (1 : Int32) 1034 rfl dL_law_1033 ci_1 ?_
  refine Go.iadd 1035 rfl dL_law_1034 ?_
  refine Go.sld a1 1036 rfl dL_law_1035 x1 h1 ?_
  refine Go.cLw (rm := rmM 6) 1039 [.int a1] [.int r] rfl dL_law_1036 (C_X7_sure G l NF S1 82 a1 r S2 T_82 f2) cvL_129 (by decide) (by decide +kernel) ⟨by decide, by decide⟩ ⟨Nat.le_of_ble_eq_true rfl, Nat.le_of_ble_eq_true rfl⟩ rfl (Nat.le_of_ble_eq_true rfl) ?_
  exact Go.icmp_eq 1407 1042 rfl dL_law_1039 rfl (fun _ => kk S2 hO) (fun h => absurd rfl h)
theorem lc_test {G : aG} {l : Launch} {nm : String} {S : aSt} {NF : Nat} (hNF : 5000000 < NF) (H : OK S) {i a1 a2 a3 a4 a5 : Int32} (x1 : inb (i + 1) G.2.2.2.1 = true) (h1 : G.2.2.2.2.1 (i + 1).toNatClampNeg = a1) (x2 : inb (i + 2) G.2.2.2.1 = true) (h2 : G.2.2.2.2.1 (i + 2).toNatClampNeg = a2) (x3 : inb (i + 3) G.2.2.2.1 = true) (h3 : G.2.2.2.2.1 (i + 3).toNatClampNeg = a3) (x4 : inb (i + 4) G.2.2.2.1 = true) (h4 : G.2.2.2.2.1 (i + 4).toNatClampNeg = a4) (x5 : inb (i + 5) G.2.2.2.1 = true) (h5 : G.2.2.2.2.1 (i + 5).toNatClampNeg = a5) (kk : ∀ S', OK S' → Go G l room_1 lw_Z (mLw nm) 97 97 7587 1407 [(3, .int i), (2, .ref 82), (1, .ref 0), (0, .ref 1000)] [] S') : Go G l room_1 lw_Z (mLw nm) 97 97 7587 1044 [(3, .int i), (2, .ref 82), (1, .ref 0), (0, .ref 1000)] [] S := by
  obtain ⟨r, S1, S2, f1, f2, hO⟩ := op_test NF (by omega) H
  refine Go.aload_n 2 1045 rfl dL_law_1044 rfl ?_
  refine Go.cLw (rm := rmM 7) 1048 [] [] rfl dL_law_1045 (C_X6_test G l NF S 0 r S1 T_0 f1) cvL_130 (by decide) (by decide +kernel) ⟨by decide, by decide⟩ ⟨Nat.le_of_ble_eq_true rfl, Nat.le_of_ble_eq_true rfl⟩ rfl (Nat.le_of_ble_eq_true rfl) ?_
  refine Go.aload_n 1 1049 rfl dL_law_1048 rfl ?_
  refine Go.cLw (rm := rmM 6) 1052 [] [.int r] rfl dL_law_1049 (C_X7_test G l NF S1 82 r S2 T_82 f2) cvL_133 (by decide) (by decide +kernel) ⟨by decide, by decide⟩ ⟨Nat.le_of_ble_eq_true rfl, Nat.le_of_ble_eq_true rfl⟩ rfl (Nat.le_of_ble_eq_true rfl) ?_
  exact Go.icmp_eq 1407 1055 rfl dL_law_1052 rfl (fun _ => kk S2 hO) (fun h => absurd rfl h)
theorem lc_odds {G : aG} {l : Launch} {nm : String} {S : aSt} {NF : Nat} (hNF : 5000000 < NF) (H : OK S) {i a1 a2 a3 a4 a5 : Int32} (x1 : inb (i + 1) G.2.2.2.1 = true) (h1 : G.2.2.2.2.1 (i + 1).toNatClampNeg = a1) (x2 : inb (i + 2) G.2.2.2.1 = true) (h2 : G.2.2.2.2.1 (i + 2).toNatClampNeg = a2) (x3 : inb (i + 3) G.2.2.2.1 = true) (h3 : G.2.2.2.2.1 (i + 3).toNatClampNeg = a3) (x4 : inb (i + 4) G.2.2.2.1 = true) (h4 : G.2.2.2.2.1 (i + 4).toNatClampNeg = a4) (x5 : inb (i + 5) G.2.2.2.1 = true) (h5 : G.2.2.2.2.1 (i + 5).toNatClampNeg = a5) (kk : ∀ S', OK S' → Go G l room_1 lw_Z (mLw nm) 97 97 7587 1407 [(3, .int i), (2, .ref 82), (1, .ref 0), (0, .ref 1000)] [] S') : Go G l room_1 lw_Z (mLw nm) 97 97 7587 1057 [(3, .int i), (2, .ref 82), (1, .ref 0), (0, .ref 1000)] [] S := by
  obtain ⟨r, S1, S2, f1, f2, hO⟩ := op_odds NF (by omega) H a1 a2
  refine Go.aload_n 2 1058 rfl dL_law_1057 rfl ?_
  refine Go.aload_n 3 1059 rfl dL_law_1058 rfl ?_
  refine Go.iload_n 0 1060 rfl dL_law_1059 rfl ?_
  refine Go.iconst (1 : Int32) 1061 rfl dL_law_1060 ci_1 ?_
  refine Go.iadd 1062 rfl dL_law_1061 ?_
  refine Go.sld a1 1063 rfl dL_law_1062 x1 h1 ?_
  refine Go.aload_n 3 1064 rfl dL_law_1063 rfl ?_
  refine Go.iload_n 0 1065 rfl dL_law_1064 rfl ?_
  refine Go.iconst (2 : Int32) 1066 rfl dL_law_1065 ci_2 ?_
  refine Go.iadd 1067 rfl dL_law_1066 ?_
  refine Go.sld a2 1068 rfl dL_law_1067 x2 h2 ?_
  refine Go.cLw (rm := rmM 7) 1071 [.int a1, .int a2] [] rfl dL_law_1068 (C_X6_odds G l NF S 0 a1 a2 r S1 T_0 f1) cvL_134 (by decide) (by decide +kernel) ⟨by decide, by decide⟩ ⟨Nat.le_of_ble_eq_true rfl, Nat.le_of_ble_eq_true rfl⟩ rfl (Nat.le_of_ble_eq_true rfl) ?_
  refine Go.aload_n 1 1072 rfl dL_law_1071 rfl ?_
  refine Go.aload_n 3 1073 rfl dL_law_1072 rfl ?_
  refine Go.iload_n 0 1074 rfl dL_law_1073 rfl ?_
  refine Go.iconst (1 : Int32) 1075 rfl dL_law_1074 ci_1 ?_
  refine Go.iadd 1076 rfl dL_law_1075 ?_
  refine Go.sld a1 1077 rfl dL_law_1076 x1 h1 ?_
  refine Go.aload_n 3 1078 rfl dL_law_1077 rfl ?_
  refine Go.iload_n 0 1079 rfl dL_law_1078 rfl ?_
  refine Go.iconst (2 : Int32) 1080 rfl dL_law_1079 ci_2 ?_
  refine Go.iadd 1081 rfl dL_law_1080 ?_
  refine Go.sld a2 1082 rfl dL_law_1081 x2 h2 ?_
  refine Go.cLw (rm := rmM 6) 1085 [.int a1, .int a2] [.int r] rfl dL_law_1082 (C_X7_odds G l NF S1 82 a1 a2 r S2 T_82 f2) cvL_137 (by decide) (by decide +kernel) ⟨by decide, by decide⟩ ⟨Nat.le_of_ble_eq_true rfl, Nat.le_of_ble_eq_true rfl⟩ rfl (Nat.le_of_ble_eq_true rfl) ?_
  exact Go.icmp_eq 1407 1088 rfl dL_law_1085 rfl (fun _ => kk S2 hO) (fun h => absurd rfl h)
theorem lc_worlds {G : aG} {l : Launch} {nm : String} {S : aSt} {NF : Nat} (hNF : 5000000 < NF) (H : OK S) {i a1 a2 a3 a4 a5 : Int32} (x1 : inb (i + 1) G.2.2.2.1 = true) (h1 : G.2.2.2.2.1 (i + 1).toNatClampNeg = a1) (x2 : inb (i + 2) G.2.2.2.1 = true) (h2 : G.2.2.2.2.1 (i + 2).toNatClampNeg = a2) (x3 : inb (i + 3) G.2.2.2.1 = true) (h3 : G.2.2.2.2.1 (i + 3).toNatClampNeg = a3) (x4 : inb (i + 4) G.2.2.2.1 = true) (h4 : G.2.2.2.2.1 (i + 4).toNatClampNeg = a4) (x5 : inb (i + 5) G.2.2.2.1 = true) (h5 : G.2.2.2.2.1 (i + 5).toNatClampNeg = a5) (kk : ∀ S', OK S' → Go G l room_1 lw_Z (mLw nm) 97 97 7587 1407 [(3, .int i), (2, .ref 82), (1, .ref 0), (0, .ref 1000)] [] S') : Go G l room_1 lw_Z (mLw nm) 97 97 7587 1090 [(3, .int i), (2, .ref 82), (1, .ref 0), (0, .ref 1000)] [] S := by
  obtain ⟨r, f1, f2⟩ := op_worlds NF (by omega) H
  refine Go.aload_n 2 1091 rfl dL_law_1090 rfl ?_
  refine Go.cLw (rm := rmM 5) 1094 [] [] rfl dL_law_1091 (C_X6_worlds G l NF S 0 r T_0 f1) cvL_138 (by decide) (by decide +kernel) ⟨by decide, by decide⟩ ⟨Nat.le_of_ble_eq_true rfl, Nat.le_of_ble_eq_true rfl⟩ rfl (Nat.le_of_ble_eq_true rfl) ?_
  refine Go.aload_n 1 1095 rfl dL_law_1094 rfl ?_
  refine Go.cLw (rm := rmM 3) 1098 [] [.int r] rfl dL_law_1095 (C_X7_worlds G l NF S 82 r T_82 f2) cvL_141 (by decide) (by decide +kernel) ⟨by decide, by decide⟩ ⟨Nat.le_of_ble_eq_true rfl, Nat.le_of_ble_eq_true rfl⟩ rfl (Nat.le_of_ble_eq_true rfl) ?_
  exact Go.icmp_eq 1407 1101 rfl dL_law_1098 rfl (fun _ => kk S H) (fun h => absurd rfl h)
theorem lc_never {G : aG} {l : Launch} {nm : String} {S : aSt} {NF : Nat} (hNF : 5000000 < NF) (H : OK S) {i a1 a2 a3 a4 a5 : Int32} (x1 : inb (i + 1) G.2.2.2.1 = true) (h1 : G.2.2.2.2.1 (i + 1).toNatClampNeg = a1) (x2 : inb (i + 2) G.2.2.2.1 = true) (h2 : G.2.2.2.2.1 (i + 2).toNatClampNeg = a2) (x3 : inb (i + 3) G.2.2.2.1 = true) (h3 : G.2.2.2.2.1 (i + 3).toNatClampNeg = a3) (x4 : inb (i + 4) G.2.2.2.1 = true) (h4 : G.2.2.2.2.1 (i + 4).toNatClampNeg = a4) (x5 : inb (i + 5) G.2.2.2.1 = true) (h5 : G.2.2.2.2.1 (i + 5).toNatClampNeg = a5) (kk : ∀ S', OK S' → Go G l room_1 lw_Z (mLw nm) 97 97 7587 1407 [(3, .int i), (2, .ref 82), (1, .ref 0), (0, .ref 1000)] [] S') : Go G l room_1 lw_Z (mLw nm) 97 97 7587 1103 [(3, .int i), (2, .ref 82), (1, .ref 0), (0, .ref 1000)] [] S := by
  obtain ⟨r, f1, f2⟩ := op_never NF (by omega) H
  refine Go.aload_n 2 1104 rfl dL_law_1103 rfl ?_
  refine Go.cLw (rm := rmM 5) 1107 [] [] rfl dL_law_1104 (C_X6_never G l NF S 0 r T_0 f1) cvL_142 (by decide) (by decide +kernel) ⟨by decide, by decide⟩ ⟨Nat.le_of_ble_eq_true rfl, Nat.le_of_ble_eq_true rfl⟩ rfl (Nat.le_of_ble_eq_true rfl) ?_
  refine Go.aload_n 1 1108 rfl dL_law_1107 rfl ?_
  refine Go.cLw (rm := rmM 4) 1111 [] [.int r] rfl dL_law_1108 (C_X7_never G l NF S 82 r T_82 f2) cvL_145 (by decide) (by decide +kernel) ⟨by decide, by decide⟩ ⟨Nat.le_of_ble_eq_true rfl, Nat.le_of_ble_eq_true rfl⟩ rfl (Nat.le_of_ble_eq_true rfl) ?_
  exact Go.icmp_eq 1407 1114 rfl dL_law_1111 rfl (fun _ => kk S H) (fun h => absurd rfl h)
theorem lc_parts {G : aG} {l : Launch} {nm : String} {S : aSt} {NF : Nat} (hNF : 5000000 < NF) (H : OK S) {i a1 a2 a3 a4 a5 : Int32} (x1 : inb (i + 1) G.2.2.2.1 = true) (h1 : G.2.2.2.2.1 (i + 1).toNatClampNeg = a1) (x2 : inb (i + 2) G.2.2.2.1 = true) (h2 : G.2.2.2.2.1 (i + 2).toNatClampNeg = a2) (x3 : inb (i + 3) G.2.2.2.1 = true) (h3 : G.2.2.2.2.1 (i + 3).toNatClampNeg = a3) (x4 : inb (i + 4) G.2.2.2.1 = true) (h4 : G.2.2.2.2.1 (i + 4).toNatClampNeg = a4) (x5 : inb (i + 5) G.2.2.2.1 = true) (h5 : G.2.2.2.2.1 (i + 5).toNatClampNeg = a5) (kk : ∀ S', OK S' → Go G l room_1 lw_Z (mLw nm) 97 97 7587 1407 [(3, .int i), (2, .ref 82), (1, .ref 0), (0, .ref 1000)] [] S') : Go G l room_1 lw_Z (mLw nm) 97 97 7587 1116 [(3, .int i), (2, .ref 82), (1, .ref 0), (0, .ref 1000)] [] S := by
  obtain ⟨r, S1, S2, f1, f2, hO⟩ := op_parts NF (by omega) H
  refine Go.aload_n 2 1117 rfl dL_law_1116 rfl ?_
  refine Go.cLw (rm := rmM 5) 1120 [] [] rfl dL_law_1117 (C_X6_parts G l NF S 0 r S1 T_0 f1) cvL_146 (by decide) (by decide +kernel) ⟨by decide, by decide⟩ ⟨Nat.le_of_ble_eq_true rfl, Nat.le_of_ble_eq_true rfl⟩ rfl (Nat.le_of_ble_eq_true rfl) ?_
  refine Go.aload_n 1 1121 rfl dL_law_1120 rfl ?_
  refine Go.cLw (rm := rmM 4) 1124 [] [.int r] rfl dL_law_1121 (C_X7_parts G l NF S1 82 r S2 T_82 f2) cvL_149 (by decide) (by decide +kernel) ⟨by decide, by decide⟩ ⟨Nat.le_of_ble_eq_true rfl, Nat.le_of_ble_eq_true rfl⟩ rfl (Nat.le_of_ble_eq_true rfl) ?_
  exact Go.icmp_eq 1407 1127 rfl dL_law_1124 rfl (fun _ => kk S2 hO) (fun h => absurd rfl h)
theorem lc_finds {G : aG} {l : Launch} {nm : String} {S : aSt} {NF : Nat} (hNF : 5000000 < NF) (H : OK S) {i a1 a2 a3 a4 a5 : Int32} (x1 : inb (i + 1) G.2.2.2.1 = true) (h1 : G.2.2.2.2.1 (i + 1).toNatClampNeg = a1) (x2 : inb (i + 2) G.2.2.2.1 = true) (h2 : G.2.2.2.2.1 (i + 2).toNatClampNeg = a2) (x3 : inb (i + 3) G.2.2.2.1 = true) (h3 : G.2.2.2.2.1 (i + 3).toNatClampNeg = a3) (x4 : inb (i + 4) G.2.2.2.1 = true) (h4 : G.2.2.2.2.1 (i + 4).toNatClampNeg = a4) (x5 : inb (i + 5) G.2.2.2.1 = true) (h5 : G.2.2.2.2.1 (i + 5).toNatClampNeg = a5) (kk : ∀ S', OK S' → Go G l room_1 lw_Z (mLw nm) 97 97 7587 1407 [(3, .int i), (2, .ref 82), (1, .ref 0), (0, .ref 1000)] [] S') : Go G l room_1 lw_Z (mLw nm) 97 97 7587 1129 [(3, .int i), (2, .ref 82), (1, .ref 0), (0, .ref 1000)] [] S := by
  obtain ⟨r, S1, S2, f1, f2, hO⟩ := op_finds NF (by omega) H a1
  refine Go.aload_n 2 1130 rfl dL_law_1129 rfl ?_
  refine Go.aload_n 3 1131 rfl dL_law_1130 rfl ?_
  refine Go.iload_n 0 1132 rfl dL_law_1131 rfl ?_
  refine Go.iconst (1 : Int32) 1133 rfl dL_law_1132 ci_1 ?_
  refine Go.iadd 1134 rfl dL_law_1133 ?_
  refine Go.sld a1 1135 rfl dL_law_1134 x1 h1 ?_
  refine Go.cLw (rm := rmM 6) 1138 [.int a1] [] rfl dL_law_1135 (C_X6_finds G l NF S 0 a1 r S1 T_0 f1) cvL_150 (by decide) (by decide +kernel) ⟨by decide, by decide⟩ ⟨Nat.le_of_ble_eq_true rfl, Nat.le_of_ble_eq_true rfl⟩ rfl (Nat.le_of_ble_eq_true rfl) ?_
  refine Go.aload_n 1 1139 rfl dL_law_1138 rfl ?_
  refine Go.aload_n 3 1140 rfl dL_law_1139 rfl ?_
  refine Go.iload_n 0 1141 rfl dL_law_1140 rfl ?_
  refine Go.iconst (1 : Int32) 1142 rfl dL_law_1141 ci_1 ?_
  refine Go.iadd 1143 rfl dL_law_1142 ?_
  refine Go.sld a1 1144 rfl dL_law_1143 x1 h1 ?_
  refine Go.cLw (rm := rmM 5) 1147 [.int a1] [.int r] rfl dL_law_1144 (C_X7_finds G l NF S1 82 a1 r S2 T_82 f2) cvL_153 (by decide) (by decide +kernel) ⟨by decide, by decide⟩ ⟨Nat.le_of_ble_eq_true rfl, Nat.le_of_ble_eq_true rfl⟩ rfl (Nat.le_of_ble_eq_true rfl) ?_
  exact Go.icmp_eq 1407 1150 rfl dL_law_1147 rfl (fun _ => kk S2 hO) (fun h => absurd rfl h)
theorem lc_left {G : aG} {l : Launch} {nm : String} {S : aSt} {NF : Nat} (hNF : 5000000 < NF) (H : OK S) {i a1 a2 a3 a4 a5 : Int32} (x1 : inb (i + 1) G.2.2.2.1 = true) (h1 : G.2.2.2.2.1 (i + 1).toNatClampNeg = a1) (x2 : inb (i + 2) G.2.2.2.1 = true) (h2 : G.2.2.2.2.1 (i + 2).toNatClampNeg = a2) (x3 : inb (i + 3) G.2.2.2.1 = true) (h3 : G.2.2.2.2.1 (i + 3).toNatClampNeg = a3) (x4 : inb (i + 4) G.2.2.2.1 = true) (h4 : G.2.2.2.2.1 (i + 4).toNatClampNeg = a4) (x5 : inb (i + 5) G.2.2.2.1 = true) (h5 : G.2.2.2.2.1 (i + 5).toNatClampNeg = a5) (kk : ∀ S', OK S' → Go G l room_1 lw_Z (mLw nm) 97 97 7587 1407 [(3, .int i), (2, .ref 82), (1, .ref 0), (0, .ref 1000)] [] S') : Go G l room_1 lw_Z (mLw nm) 97 97 7587 1152 [(3, .int i), (2, .ref 82), (1, .ref 0), (0, .ref 1000)] [] S := by
  obtain ⟨r, S1, S2, f1, f2, hO⟩ := op_left NF (by omega) H a1
  refine Go.aload_n 2 1153 rfl dL_law_1152 rfl ?_
  refine Go.aload_n 3 1154 rfl dL_law_1153 rfl ?_
  refine Go.iload_n 0 1155 rfl dL_law_1154 rfl ?_
  refine Go.iconst (1 : Int32) 1156 rfl dL_law_1155 ci_1 ?_
  refine Go.iadd 1157 rfl dL_law_1156 ?_
  refine Go.sld a1 1158 rfl dL_law_1157 x1 h1 ?_
  refine Go.cLw (rm := rmM 5) 1161 [.int a1] [] rfl dL_law_1158 (C_X6_left G l NF S 0 a1 r S1 T_0 f1) cvL_154 (by decide) (by decide +kernel) ⟨by decide, by decide⟩ ⟨Nat.le_of_ble_eq_true rfl, Nat.le_of_ble_eq_true rfl⟩ rfl (Nat.le_of_ble_eq_true rfl) ?_
  refine Go.aload_n 1 1162 rfl dL_law_1161 rfl ?_
  refine Go.aload_n 3 1163 rfl dL_law_1162 rfl ?_
  refine Go.iload_n 0 1164 rfl dL_law_1163 rfl ?_
  refine Go.iconst (1 : Int32) 1165 rfl dL_law_1164 ci_1 ?_
  refine Go.iadd 1166 rfl dL_law_1165 ?_
  refine Go.sld a1 1167 rfl dL_law_1166 x1 h1 ?_
  refine Go.cLw (rm := rmM 5) 1170 [.int a1] [.int r] rfl dL_law_1167 (C_X7_left G l NF S1 82 a1 r S2 T_82 f2) cvL_157 (by decide) (by decide +kernel) ⟨by decide, by decide⟩ ⟨Nat.le_of_ble_eq_true rfl, Nat.le_of_ble_eq_true rfl⟩ rfl (Nat.le_of_ble_eq_true rfl) ?_
  exact Go.icmp_eq 1407 1173 rfl dL_law_1170 rfl (fun _ => kk S2 hO) (fun h => absurd rfl h)
theorem lc_forged {G : aG} {l : Launch} {nm : String} {S : aSt} {NF : Nat} (hNF : 5000000 < NF) (H : OK S) {i a1 a2 a3 a4 a5 : Int32} (x1 : inb (i + 1) G.2.2.2.1 = true) (h1 : G.2.2.2.2.1 (i + 1).toNatClampNeg = a1) (x2 : inb (i + 2) G.2.2.2.1 = true) (h2 : G.2.2.2.2.1 (i + 2).toNatClampNeg = a2) (x3 : inb (i + 3) G.2.2.2.1 = true) (h3 : G.2.2.2.2.1 (i + 3).toNatClampNeg = a3) (x4 : inb (i + 4) G.2.2.2.1 = true) (h4 : G.2.2.2.2.1 (i + 4).toNatClampNeg = a4) (x5 : inb (i + 5) G.2.2.2.1 = true) (h5 : G.2.2.2.2.1 (i + 5).toNatClampNeg = a5) (kk : ∀ S', OK S' → Go G l room_1 lw_Z (mLw nm) 97 97 7587 1407 [(3, .int i), (2, .ref 82), (1, .ref 0), (0, .ref 1000)] [] S') : Go G l room_1 lw_Z (mLw nm) 97 97 7587 1175 [(3, .int i), (2, .ref 82), (1, .ref 0), (0, .ref 1000)] [] S := by
  obtain ⟨r, S1, S2, f1, f2, hO⟩ := op_forged NF (by omega) H
  refine Go.aload_n 2 1176 rfl dL_law_1175 rfl ?_
  refine Go.cLw (rm := rmM 5) 1179 [] [] rfl dL_law_1176 (C_X6_forged G l NF S 0 r S1 T_0 f1) cvL_158 (by decide) (by decide +kernel) ⟨by decide, by decide⟩ ⟨Nat.le_of_ble_eq_true rfl, Nat.le_of_ble_eq_true rfl⟩ rfl (Nat.le_of_ble_eq_true rfl) ?_
  refine Go.aload_n 1 1180 rfl dL_law_1179 rfl ?_
  refine Go.cLw (rm := rmM 4) 1183 [] [.int r] rfl dL_law_1180 (C_X7_forged G l NF S1 82 r S2 T_82 f2) cvL_161 (by decide) (by decide +kernel) ⟨by decide, by decide⟩ ⟨Nat.le_of_ble_eq_true rfl, Nat.le_of_ble_eq_true rfl⟩ rfl (Nat.le_of_ble_eq_true rfl) ?_
  exact Go.icmp_eq 1407 1186 rfl dL_law_1183 rfl (fun _ => kk S2 hO) (fun h => absurd rfl h)
theorem lc_beside {G : aG} {l : Launch} {nm : String} {S : aSt} {NF : Nat} (hNF : 5000000 < NF) (H : OK S) {i a1 a2 a3 a4 a5 : Int32} (x1 : inb (i + 1) G.2.2.2.1 = true) (h1 : G.2.2.2.2.1 (i + 1).toNatClampNeg = a1) (x2 : inb (i + 2) G.2.2.2.1 = true) (h2 : G.2.2.2.2.1 (i + 2).toNatClampNeg = a2) (x3 : inb (i + 3) G.2.2.2.1 = true) (h3 : G.2.2.2.2.1 (i + 3).toNatClampNeg = a3) (x4 : inb (i + 4) G.2.2.2.1 = true) (h4 : G.2.2.2.2.1 (i + 4).toNatClampNeg = a4) (x5 : inb (i + 5) G.2.2.2.1 = true) (h5 : G.2.2.2.2.1 (i + 5).toNatClampNeg = a5) (kk : ∀ S', OK S' → Go G l room_1 lw_Z (mLw nm) 97 97 7587 1407 [(3, .int i), (2, .ref 82), (1, .ref 0), (0, .ref 1000)] [] S') : Go G l room_1 lw_Z (mLw nm) 97 97 7587 1188 [(3, .int i), (2, .ref 82), (1, .ref 0), (0, .ref 1000)] [] S := by
  obtain ⟨r, S1, S2, f1, f2, hO⟩ := op_beside NF (by omega) H a1
  refine Go.aload_n 2 1189 rfl dL_law_1188 rfl ?_
  refine Go.aload_n 3 1190 rfl dL_law_1189 rfl ?_
  refine Go.iload_n 0 1191 rfl dL_law_1190 rfl ?_
  refine Go.iconst (1 : Int32) 1192 rfl dL_law_1191 ci_1 ?_
  refine Go.iadd 1193 rfl dL_law_1192 ?_
  refine Go.sld a1 1194 rfl dL_law_1193 x1 h1 ?_
  refine Go.cLw (rm := rmM 5) 1197 [.int a1] [] rfl dL_law_1194 (C_X6_beside G l NF S 0 a1 r S1 T_0 f1) cvL_162 (by decide) (by decide +kernel) ⟨by decide, by decide⟩ ⟨Nat.le_of_ble_eq_true rfl, Nat.le_of_ble_eq_true rfl⟩ rfl (Nat.le_of_ble_eq_true rfl) ?_
  refine Go.aload_n 1 1198 rfl dL_law_1197 rfl ?_
  refine Go.aload_n 3 1199 rfl dL_law_1198 rfl ?_
  refine Go.iload_n 0 1200 rfl dL_law_1199 rfl ?_
  refine Go.iconst (1 : Int32) 1201 rfl dL_law_1200 ci_1 ?_
  refine Go.iadd 1202 rfl dL_law_1201 ?_
  refine Go.sld a1 1203 rfl dL_law_1202 x1 h1 ?_
  refine Go.cLw (rm := rmM 3) 1206 [.int a1] [.int r] rfl dL_law_1203 (C_X7_beside G l NF S1 82 a1 r S2 T_82 f2) cvL_165 (by decide) (by decide +kernel) ⟨by decide, by decide⟩ ⟨Nat.le_of_ble_eq_true rfl, Nat.le_of_ble_eq_true rfl⟩ rfl (Nat.le_of_ble_eq_true rfl) ?_
  exact Go.icmp_eq 1407 1209 rfl dL_law_1206 rfl (fun _ => kk S2 hO) (fun h => absurd rfl h)
theorem lc_habit {G : aG} {l : Launch} {nm : String} {S : aSt} {NF : Nat} (hNF : 5000000 < NF) (H : OK S) {i a1 a2 a3 a4 a5 : Int32} (x1 : inb (i + 1) G.2.2.2.1 = true) (h1 : G.2.2.2.2.1 (i + 1).toNatClampNeg = a1) (x2 : inb (i + 2) G.2.2.2.1 = true) (h2 : G.2.2.2.2.1 (i + 2).toNatClampNeg = a2) (x3 : inb (i + 3) G.2.2.2.1 = true) (h3 : G.2.2.2.2.1 (i + 3).toNatClampNeg = a3) (x4 : inb (i + 4) G.2.2.2.1 = true) (h4 : G.2.2.2.2.1 (i + 4).toNatClampNeg = a4) (x5 : inb (i + 5) G.2.2.2.1 = true) (h5 : G.2.2.2.2.1 (i + 5).toNatClampNeg = a5) (kk : ∀ S', OK S' → Go G l room_1 lw_Z (mLw nm) 97 97 7587 1407 [(3, .int i), (2, .ref 82), (1, .ref 0), (0, .ref 1000)] [] S') : Go G l room_1 lw_Z (mLw nm) 97 97 7587 1211 [(3, .int i), (2, .ref 82), (1, .ref 0), (0, .ref 1000)] [] S := by
  obtain ⟨r, S1, S2, f1, f2, hO⟩ := op_habit NF (by omega) H
  refine Go.aload_n 2 1212 rfl dL_law_1211 rfl ?_
  refine Go.cLw (rm := rmM 4) 1215 [] [] rfl dL_law_1212 (C_X6_habit G l NF S 0 r S1 T_0 f1) cvL_166 (by decide) (by decide +kernel) ⟨by decide, by decide⟩ ⟨Nat.le_of_ble_eq_true rfl, Nat.le_of_ble_eq_true rfl⟩ rfl (Nat.le_of_ble_eq_true rfl) ?_
  refine Go.aload_n 1 1216 rfl dL_law_1215 rfl ?_
  refine Go.cLw (rm := rmM 2) 1219 [] [.int r] rfl dL_law_1216 (C_X7_habit G l NF S1 82 r S2 T_82 f2) cvL_169 (by decide) (by decide +kernel) ⟨by decide, by decide⟩ ⟨Nat.le_of_ble_eq_true rfl, Nat.le_of_ble_eq_true rfl⟩ rfl (Nat.le_of_ble_eq_true rfl) ?_
  exact Go.icmp_eq 1407 1222 rfl dL_law_1219 rfl (fun _ => kk S2 hO) (fun h => absurd rfl h)
theorem lc_order {G : aG} {l : Launch} {nm : String} {S : aSt} {NF : Nat} (hNF : 5000000 < NF) (H : OK S) {i a1 a2 a3 a4 a5 : Int32} (x1 : inb (i + 1) G.2.2.2.1 = true) (h1 : G.2.2.2.2.1 (i + 1).toNatClampNeg = a1) (x2 : inb (i + 2) G.2.2.2.1 = true) (h2 : G.2.2.2.2.1 (i + 2).toNatClampNeg = a2) (x3 : inb (i + 3) G.2.2.2.1 = true) (h3 : G.2.2.2.2.1 (i + 3).toNatClampNeg = a3) (x4 : inb (i + 4) G.2.2.2.1 = true) (h4 : G.2.2.2.2.1 (i + 4).toNatClampNeg = a4) (x5 : inb (i + 5) G.2.2.2.1 = true) (h5 : G.2.2.2.2.1 (i + 5).toNatClampNeg = a5) (kk : ∀ S', OK S' → Go G l room_1 lw_Z (mLw nm) 97 97 7587 1407 [(3, .int i), (2, .ref 82), (1, .ref 0), (0, .ref 1000)] [] S') : Go G l room_1 lw_Z (mLw nm) 97 97 7587 1224 [(3, .int i), (2, .ref 82), (1, .ref 0), (0, .ref 1000)] [] S := by
  obtain ⟨r, f1, f2⟩ := op_order NF (by omega) H
  refine Go.aload_n 2 1225 rfl dL_law_1224 rfl ?_
  refine Go.cLw (rm := rmM 12) 1228 [] [] rfl dL_law_1225 (C_X6_order G l NF S 0 r T_0 f1) cvL_170 (by decide) (by decide +kernel) ⟨by decide, by decide⟩ ⟨Nat.le_of_ble_eq_true rfl, Nat.le_of_ble_eq_true rfl⟩ rfl (Nat.le_of_ble_eq_true rfl) ?_
  refine Go.aload_n 1 1229 rfl dL_law_1228 rfl ?_
  refine Go.cLw (rm := rmM 2) 1232 [] [.int r] rfl dL_law_1229 (C_X7_order G l NF S 82 r T_82 f2) cvL_173 (by decide) (by decide +kernel) ⟨by decide, by decide⟩ ⟨Nat.le_of_ble_eq_true rfl, Nat.le_of_ble_eq_true rfl⟩ rfl (Nat.le_of_ble_eq_true rfl) ?_
  exact Go.icmp_eq 1407 1235 rfl dL_law_1232 rfl (fun _ => kk S H) (fun h => absurd rfl h)
theorem lc_byAge {G : aG} {l : Launch} {nm : String} {S : aSt} {NF : Nat} (hNF : 5000000 < NF) (H : OK S) {i a1 a2 a3 a4 a5 : Int32} (x1 : inb (i + 1) G.2.2.2.1 = true) (h1 : G.2.2.2.2.1 (i + 1).toNatClampNeg = a1) (x2 : inb (i + 2) G.2.2.2.1 = true) (h2 : G.2.2.2.2.1 (i + 2).toNatClampNeg = a2) (x3 : inb (i + 3) G.2.2.2.1 = true) (h3 : G.2.2.2.2.1 (i + 3).toNatClampNeg = a3) (x4 : inb (i + 4) G.2.2.2.1 = true) (h4 : G.2.2.2.2.1 (i + 4).toNatClampNeg = a4) (x5 : inb (i + 5) G.2.2.2.1 = true) (h5 : G.2.2.2.2.1 (i + 5).toNatClampNeg = a5) (kk : ∀ S', OK S' → Go G l room_1 lw_Z (mLw nm) 97 97 7587 1407 [(3, .int i), (2, .ref 82), (1, .ref 0), (0, .ref 1000)] [] S') : Go G l room_1 lw_Z (mLw nm) 97 97 7587 1237 [(3, .int i), (2, .ref 82), (1, .ref 0), (0, .ref 1000)] [] S := by
  obtain ⟨r, S1, S2, f1, f2, hO⟩ := op_byAge NF (by omega) H a1
  refine Go.aload_n 2 1238 rfl dL_law_1237 rfl ?_
  refine Go.aload_n 3 1239 rfl dL_law_1238 rfl ?_
  refine Go.iload_n 0 1240 rfl dL_law_1239 rfl ?_
  refine Go.iconst (1 : Int32) 1241 rfl dL_law_1240 ci_1 ?_
  refine Go.iadd 1242 rfl dL_law_1241 ?_
  refine Go.sld a1 1243 rfl dL_law_1242 x1 h1 ?_
  refine Go.cLw (rm := rmM 4) 1246 [.int a1] [] rfl dL_law_1243 (C_X6_byAge G l NF S 0 a1 r S1 T_0 f1) cvL_174 (by decide) (by decide +kernel) ⟨by decide, by decide⟩ ⟨Nat.le_of_ble_eq_true rfl, Nat.le_of_ble_eq_true rfl⟩ rfl (Nat.le_of_ble_eq_true rfl) ?_
  refine Go.aload_n 1 1247 rfl dL_law_1246 rfl ?_
  refine Go.aload_n 3 1248 rfl dL_law_1247 rfl ?_
  refine Go.iload_n 0 1249 rfl dL_law_1248 rfl ?_
  refine Go.iconst (1 : Int32) 1250 rfl dL_law_1249 ci_1 ?_
  refine Go.iadd 1251 rfl dL_law_1250 ?_
  refine Go.sld a1 1252 rfl dL_law_1251 x1 h1 ?_
  refine Go.cLw (rm := rmM 4) 1255 [.int a1] [.int r] rfl dL_law_1252 (C_X7_byAge G l NF S1 82 a1 r S2 T_82 f2) cvL_177 (by decide) (by decide +kernel) ⟨by decide, by decide⟩ ⟨Nat.le_of_ble_eq_true rfl, Nat.le_of_ble_eq_true rfl⟩ rfl (Nat.le_of_ble_eq_true rfl) ?_
  exact Go.icmp_eq 1407 1258 rfl dL_law_1255 rfl (fun _ => kk S2 hO) (fun h => absurd rfl h)
theorem lc_lots {G : aG} {l : Launch} {nm : String} {S : aSt} {NF : Nat} (hNF : 5000000 < NF) (H : OK S) {i a1 a2 a3 a4 a5 : Int32} (x1 : inb (i + 1) G.2.2.2.1 = true) (h1 : G.2.2.2.2.1 (i + 1).toNatClampNeg = a1) (x2 : inb (i + 2) G.2.2.2.1 = true) (h2 : G.2.2.2.2.1 (i + 2).toNatClampNeg = a2) (x3 : inb (i + 3) G.2.2.2.1 = true) (h3 : G.2.2.2.2.1 (i + 3).toNatClampNeg = a3) (x4 : inb (i + 4) G.2.2.2.1 = true) (h4 : G.2.2.2.2.1 (i + 4).toNatClampNeg = a4) (x5 : inb (i + 5) G.2.2.2.1 = true) (h5 : G.2.2.2.2.1 (i + 5).toNatClampNeg = a5) (kk : ∀ S', OK S' → Go G l room_1 lw_Z (mLw nm) 97 97 7587 1407 [(3, .int i), (2, .ref 82), (1, .ref 0), (0, .ref 1000)] [] S') : Go G l room_1 lw_Z (mLw nm) 97 97 7587 1260 [(3, .int i), (2, .ref 82), (1, .ref 0), (0, .ref 1000)] [] S := by
  obtain ⟨r, S1, S2, f1, f2, hO⟩ := op_lots NF (by omega) H a1 a2
  refine Go.aload_n 2 1261 rfl dL_law_1260 rfl ?_
  refine Go.aload_n 3 1262 rfl dL_law_1261 rfl ?_
  refine Go.iload_n 0 1263 rfl dL_law_1262 rfl ?_
  refine Go.iconst (1 : Int32) 1264 rfl dL_law_1263 ci_1 ?_
  refine Go.iadd 1265 rfl dL_law_1264 ?_
  refine Go.sld a1 1266 rfl dL_law_1265 x1 h1 ?_
  refine Go.aload_n 3 1267 rfl dL_law_1266 rfl ?_
  refine Go.iload_n 0 1268 rfl dL_law_1267 rfl ?_
  refine Go.iconst (2 : Int32) 1269 rfl dL_law_1268 ci_2 ?_
  refine Go.iadd 1270 rfl dL_law_1269 ?_
  refine Go.sld a2 1271 rfl dL_law_1270 x2 h2 ?_
  refine Go.cLw (rm := rmM 6) 1274 [.int a1, .int a2] [] rfl dL_law_1271 (C_X6_lots G l NF S 0 a1 a2 r S1 T_0 f1) cvL_178 (by decide) (by decide +kernel) ⟨by decide, by decide⟩ ⟨Nat.le_of_ble_eq_true rfl, Nat.le_of_ble_eq_true rfl⟩ rfl (Nat.le_of_ble_eq_true rfl) ?_
  refine Go.aload_n 1 1275 rfl dL_law_1274 rfl ?_
  refine Go.aload_n 3 1276 rfl dL_law_1275 rfl ?_
  refine Go.iload_n 0 1277 rfl dL_law_1276 rfl ?_
  refine Go.iconst (1 : Int32) 1278 rfl dL_law_1277 ci_1 ?_
  refine Go.iadd 1279 rfl dL_law_1278 ?_
  refine Go.sld a1 1280 rfl dL_law_1279 x1 h1 ?_
  refine Go.aload_n 3 1281 rfl dL_law_1280 rfl ?_
  refine Go.iload_n 0 1282 rfl dL_law_1281 rfl ?_
  refine Go.iconst (2 : Int32) 1283 rfl dL_law_1282 ci_2 ?_
  refine Go.iadd 1284 rfl dL_law_1283 ?_
  refine Go.sld a2 1285 rfl dL_law_1284 x2 h2 ?_
  refine Go.cLw (rm := rmM 4) 1288 [.int a1, .int a2] [.int r] rfl dL_law_1285 (C_X7_lots G l NF S1 82 a1 a2 r S2 T_82 f2) cvL_181 (by decide) (by decide +kernel) ⟨by decide, by decide⟩ ⟨Nat.le_of_ble_eq_true rfl, Nat.le_of_ble_eq_true rfl⟩ rfl (Nat.le_of_ble_eq_true rfl) ?_
  exact Go.icmp_eq 1407 1291 rfl dL_law_1288 rfl (fun _ => kk S2 hO) (fun h => absurd rfl h)
theorem lc_asked {G : aG} {l : Launch} {nm : String} {S : aSt} {NF : Nat} (hNF : 5000000 < NF) (H : OK S) {i a1 a2 a3 a4 a5 : Int32} (x1 : inb (i + 1) G.2.2.2.1 = true) (h1 : G.2.2.2.2.1 (i + 1).toNatClampNeg = a1) (x2 : inb (i + 2) G.2.2.2.1 = true) (h2 : G.2.2.2.2.1 (i + 2).toNatClampNeg = a2) (x3 : inb (i + 3) G.2.2.2.1 = true) (h3 : G.2.2.2.2.1 (i + 3).toNatClampNeg = a3) (x4 : inb (i + 4) G.2.2.2.1 = true) (h4 : G.2.2.2.2.1 (i + 4).toNatClampNeg = a4) (x5 : inb (i + 5) G.2.2.2.1 = true) (h5 : G.2.2.2.2.1 (i + 5).toNatClampNeg = a5) (kk : ∀ S', OK S' → Go G l room_1 lw_Z (mLw nm) 97 97 7587 1407 [(3, .int i), (2, .ref 82), (1, .ref 0), (0, .ref 1000)] [] S') : Go G l room_1 lw_Z (mLw nm) 97 97 7587 1293 [(3, .int i), (2, .ref 82), (1, .ref 0), (0, .ref 1000)] [] S := by
  obtain ⟨r, f1, f2⟩ := op_asked NF H
  refine Go.aload_n 2 1294 rfl dL_law_1293 rfl ?_
  refine Go.cLw (rm := rmM 1) 1297 [] [] rfl dL_law_1294 (C_X6_asked G l NF S 0 r T_0 f1) cvL_182 (by decide) (by decide +kernel) ⟨by decide, by decide⟩ ⟨Nat.le_of_ble_eq_true rfl, Nat.le_of_ble_eq_true rfl⟩ rfl (Nat.le_of_ble_eq_true rfl) ?_
  refine Go.aload_n 1 1298 rfl dL_law_1297 rfl ?_
  refine Go.cLw (rm := rmM 1) 1301 [] [.int r] rfl dL_law_1298 (C_X7_asked G l NF S 82 r T_82 f2) cvL_185 (by decide) (by decide +kernel) ⟨by decide, by decide⟩ ⟨Nat.le_of_ble_eq_true rfl, Nat.le_of_ble_eq_true rfl⟩ rfl (Nat.le_of_ble_eq_true rfl) ?_
  exact Go.icmp_eq 1407 1304 rfl dL_law_1301 rfl (fun _ => kk S H) (fun h => absurd rfl h)
theorem lc_upper {G : aG} {l : Launch} {nm : String} {S : aSt} {NF : Nat} (hNF : 5000000 < NF) (H : OK S) {i a1 a2 a3 a4 a5 : Int32} (x1 : inb (i + 1) G.2.2.2.1 = true) (h1 : G.2.2.2.2.1 (i + 1).toNatClampNeg = a1) (x2 : inb (i + 2) G.2.2.2.1 = true) (h2 : G.2.2.2.2.1 (i + 2).toNatClampNeg = a2) (x3 : inb (i + 3) G.2.2.2.1 = true) (h3 : G.2.2.2.2.1 (i + 3).toNatClampNeg = a3) (x4 : inb (i + 4) G.2.2.2.1 = true) (h4 : G.2.2.2.2.1 (i + 4).toNatClampNeg = a4) (x5 : inb (i + 5) G.2.2.2.1 = true) (h5 : G.2.2.2.2.1 (i + 5).toNatClampNeg = a5) (kk : ∀ S', OK S' → Go G l room_1 lw_Z (mLw nm) 97 97 7587 1407 [(3, .int i), (2, .ref 82), (1, .ref 0), (0, .ref 1000)] [] S') : Go G l room_1 lw_Z (mLw nm) 97 97 7587 1306 [(3, .int i), (2, .ref 82), (1, .ref 0), (0, .ref 1000)] [] S := by
  obtain ⟨r, f1, f2⟩ := op_upper NF H
  refine Go.aload_n 2 1307 rfl dL_law_1306 rfl ?_
  refine Go.cLw (rm := rmM 1) 1310 [] [] rfl dL_law_1307 (C_X6_upper G l NF S 0 r T_0 f1) cvL_186 (by decide) (by decide +kernel) ⟨by decide, by decide⟩ ⟨Nat.le_of_ble_eq_true rfl, Nat.le_of_ble_eq_true rfl⟩ rfl (Nat.le_of_ble_eq_true rfl) ?_
  refine Go.aload_n 1 1311 rfl dL_law_1310 rfl ?_
  refine Go.cLw (rm := rmM 1) 1314 [] [.long r] rfl dL_law_1311 (C_X7_upper G l NF S 82 r T_82 f2) cvL_190 (by decide) (by decide +kernel) ⟨by decide, by decide⟩ ⟨Nat.le_of_ble_eq_true rfl, Nat.le_of_ble_eq_true rfl⟩ rfl (Nat.le_of_ble_eq_true rfl) ?_
  refine Go.lcmp 1315 rfl dL_law_1314 ?_
  exact Go.if_eq 1407 1318 rfl dL_law_1315 rfl (fun _ => kk S H) (fun h => absurd ((lg_cmp_eq _ _).mpr rfl) h)
theorem lc_lower {G : aG} {l : Launch} {nm : String} {S : aSt} {NF : Nat} (hNF : 5000000 < NF) (H : OK S) {i a1 a2 a3 a4 a5 : Int32} (x1 : inb (i + 1) G.2.2.2.1 = true) (h1 : G.2.2.2.2.1 (i + 1).toNatClampNeg = a1) (x2 : inb (i + 2) G.2.2.2.1 = true) (h2 : G.2.2.2.2.1 (i + 2).toNatClampNeg = a2) (x3 : inb (i + 3) G.2.2.2.1 = true) (h3 : G.2.2.2.2.1 (i + 3).toNatClampNeg = a3) (x4 : inb (i + 4) G.2.2.2.1 = true) (h4 : G.2.2.2.2.1 (i + 4).toNatClampNeg = a4) (x5 : inb (i + 5) G.2.2.2.1 = true) (h5 : G.2.2.2.2.1 (i + 5).toNatClampNeg = a5) (kk : ∀ S', OK S' → Go G l room_1 lw_Z (mLw nm) 97 97 7587 1407 [(3, .int i), (2, .ref 82), (1, .ref 0), (0, .ref 1000)] [] S') : Go G l room_1 lw_Z (mLw nm) 97 97 7587 1320 [(3, .int i), (2, .ref 82), (1, .ref 0), (0, .ref 1000)] [] S := by
  obtain ⟨r, f1, f2⟩ := op_lower NF H
  refine Go.aload_n 2 1321 rfl dL_law_1320 rfl ?_
  refine Go.cLw (rm := rmM 1) 1324 [] [] rfl dL_law_1321 (C_X6_lower G l NF S 0 r T_0 f1) cvL_191 (by decide) (by decide +kernel) ⟨by decide, by decide⟩ ⟨Nat.le_of_ble_eq_true rfl, Nat.le_of_ble_eq_true rfl⟩ rfl (Nat.le_of_ble_eq_true rfl) ?_
  refine Go.aload_n 1 1325 rfl dL_law_1324 rfl ?_
  refine Go.cLw (rm := rmM 1) 1328 [] [.long r] rfl dL_law_1325 (C_X7_lower G l NF S 82 r T_82 f2) cvL_194 (by decide) (by decide +kernel) ⟨by decide, by decide⟩ ⟨Nat.le_of_ble_eq_true rfl, Nat.le_of_ble_eq_true rfl⟩ rfl (Nat.le_of_ble_eq_true rfl) ?_
  refine Go.lcmp 1329 rfl dL_law_1328 ?_
  exact Go.if_eq 1407 1332 rfl dL_law_1329 rfl (fun _ => kk S H) (fun h => absurd ((lg_cmp_eq _ _).mpr rfl) h)
theorem lc_count {G : aG} {l : Launch} {nm : String} {S : aSt} {NF : Nat} (hNF : 5000000 < NF) (H : OK S) {i a1 a2 a3 a4 a5 : Int32} (x1 : inb (i + 1) G.2.2.2.1 = true) (h1 : G.2.2.2.2.1 (i + 1).toNatClampNeg = a1) (x2 : inb (i + 2) G.2.2.2.1 = true) (h2 : G.2.2.2.2.1 (i + 2).toNatClampNeg = a2) (x3 : inb (i + 3) G.2.2.2.1 = true) (h3 : G.2.2.2.2.1 (i + 3).toNatClampNeg = a3) (x4 : inb (i + 4) G.2.2.2.1 = true) (h4 : G.2.2.2.2.1 (i + 4).toNatClampNeg = a4) (x5 : inb (i + 5) G.2.2.2.1 = true) (h5 : G.2.2.2.2.1 (i + 5).toNatClampNeg = a5) (kk : ∀ S', OK S' → Go G l room_1 lw_Z (mLw nm) 97 97 7587 1407 [(3, .int i), (2, .ref 82), (1, .ref 0), (0, .ref 1000)] [] S') : Go G l room_1 lw_Z (mLw nm) 97 97 7587 1334 [(3, .int i), (2, .ref 82), (1, .ref 0), (0, .ref 1000)] [] S := by
  obtain ⟨r, f1, f2⟩ := op_count NF (by omega) H a1
  refine Go.aload_n 2 1335 rfl dL_law_1334 rfl ?_
  refine Go.aload_n 3 1336 rfl dL_law_1335 rfl ?_
  refine Go.iload_n 0 1337 rfl dL_law_1336 rfl ?_
  refine Go.iconst (1 : Int32) 1338 rfl dL_law_1337 ci_1 ?_
  refine Go.iadd 1339 rfl dL_law_1338 ?_
  refine Go.sld a1 1340 rfl dL_law_1339 x1 h1 ?_
  refine Go.cLw (rm := rmM 3) 1343 [.int a1] [] rfl dL_law_1340 (C_X6_count G l NF S 0 a1 r T_0 f1) cvL_195 (by decide) (by decide +kernel) ⟨by decide, by decide⟩ ⟨Nat.le_of_ble_eq_true rfl, Nat.le_of_ble_eq_true rfl⟩ rfl (Nat.le_of_ble_eq_true rfl) ?_
  refine Go.aload_n 1 1344 rfl dL_law_1343 rfl ?_
  refine Go.aload_n 3 1345 rfl dL_law_1344 rfl ?_
  refine Go.iload_n 0 1346 rfl dL_law_1345 rfl ?_
  refine Go.iconst (1 : Int32) 1347 rfl dL_law_1346 ci_1 ?_
  refine Go.iadd 1348 rfl dL_law_1347 ?_
  refine Go.sld a1 1349 rfl dL_law_1348 x1 h1 ?_
  refine Go.cLw (rm := rmM 4) 1352 [.int a1] [.int r] rfl dL_law_1349 (C_X7_count G l NF S 82 a1 r T_82 f2) cvL_198 (by decide) (by decide +kernel) ⟨by decide, by decide⟩ ⟨Nat.le_of_ble_eq_true rfl, Nat.le_of_ble_eq_true rfl⟩ rfl (Nat.le_of_ble_eq_true rfl) ?_
  exact Go.icmp_eq 1407 1355 rfl dL_law_1352 rfl (fun _ => kk S H) (fun h => absurd rfl h)
theorem lc_finding {G : aG} {l : Launch} {nm : String} {S : aSt} {NF : Nat} (hNF : 5000000 < NF) (H : OK S) {i a1 a2 a3 a4 a5 : Int32} (x1 : inb (i + 1) G.2.2.2.1 = true) (h1 : G.2.2.2.2.1 (i + 1).toNatClampNeg = a1) (x2 : inb (i + 2) G.2.2.2.1 = true) (h2 : G.2.2.2.2.1 (i + 2).toNatClampNeg = a2) (x3 : inb (i + 3) G.2.2.2.1 = true) (h3 : G.2.2.2.2.1 (i + 3).toNatClampNeg = a3) (x4 : inb (i + 4) G.2.2.2.1 = true) (h4 : G.2.2.2.2.1 (i + 4).toNatClampNeg = a4) (x5 : inb (i + 5) G.2.2.2.1 = true) (h5 : G.2.2.2.2.1 (i + 5).toNatClampNeg = a5) (kk : ∀ S', OK S' → Go G l room_1 lw_Z (mLw nm) 97 97 7587 1407 [(3, .int i), (2, .ref 82), (1, .ref 0), (0, .ref 1000)] [] S') : Go G l room_1 lw_Z (mLw nm) 97 97 7587 1357 [(3, .int i), (2, .ref 82), (1, .ref 0), (0, .ref 1000)] [] S := by
  obtain ⟨r, f1, f2⟩ := op_finding NF H
  refine Go.aload_n 2 1358 rfl dL_law_1357 rfl ?_
  refine Go.cLw (rm := rmM 1) 1361 [] [] rfl dL_law_1358 (C_X6_finding G l NF S 0 r T_0 f1) cvL_199 (by decide) (by decide +kernel) ⟨by decide, by decide⟩ ⟨Nat.le_of_ble_eq_true rfl, Nat.le_of_ble_eq_true rfl⟩ rfl (Nat.le_of_ble_eq_true rfl) ?_
  refine Go.aload_n 1 1362 rfl dL_law_1361 rfl ?_
  refine Go.cLw (rm := rmM 1) 1365 [] [.int r] rfl dL_law_1362 (C_X7_finding G l NF S 82 r T_82 f2) cvL_202 (by decide) (by decide +kernel) ⟨by decide, by decide⟩ ⟨Nat.le_of_ble_eq_true rfl, Nat.le_of_ble_eq_true rfl⟩ rfl (Nat.le_of_ble_eq_true rfl) ?_
  exact Go.icmp_eq 1407 1368 rfl dL_law_1365 rfl (fun _ => kk S H) (fun h => absurd rfl h)
theorem lc_findings {G : aG} {l : Launch} {nm : String} {S : aSt} {NF : Nat} (hNF : 5000000 < NF) (H : OK S) {i a1 a2 a3 a4 a5 : Int32} (x1 : inb (i + 1) G.2.2.2.1 = true) (h1 : G.2.2.2.2.1 (i + 1).toNatClampNeg = a1) (x2 : inb (i + 2) G.2.2.2.1 = true) (h2 : G.2.2.2.2.1 (i + 2).toNatClampNeg = a2) (x3 : inb (i + 3) G.2.2.2.1 = true) (h3 : G.2.2.2.2.1 (i + 3).toNatClampNeg = a3) (x4 : inb (i + 4) G.2.2.2.1 = true) (h4 : G.2.2.2.2.1 (i + 4).toNatClampNeg = a4) (x5 : inb (i + 5) G.2.2.2.1 = true) (h5 : G.2.2.2.2.1 (i + 5).toNatClampNeg = a5) (kk : ∀ S', OK S' → Go G l room_1 lw_Z (mLw nm) 97 97 7587 1407 [(3, .int i), (2, .ref 82), (1, .ref 0), (0, .ref 1000)] [] S') : Go G l room_1 lw_Z (mLw nm) 97 97 7587 1370 [(3, .int i), (2, .ref 82), (1, .ref 0), (0, .ref 1000)] [] S := by
  obtain ⟨r, f1, f2⟩ := op_findings NF H a1
  refine Go.aload_n 2 1371 rfl dL_law_1370 rfl ?_
  refine Go.aload_n 3 1372 rfl dL_law_1371 rfl ?_
  refine Go.iload_n 0 1373 rfl dL_law_1372 rfl ?_
  refine Go.iconst (1 : Int32) 1374 rfl dL_law_1373 ci_1 ?_
  refine Go.iadd 1375 rfl dL_law_1374 ?_
  refine Go.sld a1 1376 rfl dL_law_1375 x1 h1 ?_
  refine Go.cLw (rm := rmM 1) 1379 [.int a1] [] rfl dL_law_1376 (C_X6_findings G l NF S 0 a1 r T_0 f1) cvL_203 (by decide) (by decide +kernel) ⟨by decide, by decide⟩ ⟨Nat.le_of_ble_eq_true rfl, Nat.le_of_ble_eq_true rfl⟩ rfl (Nat.le_of_ble_eq_true rfl) ?_
  refine Go.aload_n 1 1380 rfl dL_law_1379 rfl ?_
  refine Go.aload_n 3 1381 rfl dL_law_1380 rfl ?_
  refine Go.iload_n 0 1382 rfl dL_law_1381 rfl ?_
  refine Go.iconst (1 : Int32) 1383 rfl dL_law_1382 ci_1 ?_
  refine Go.iadd 1384 rfl dL_law_1383 ?_
  refine Go.sld a1 1385 rfl dL_law_1384 x1 h1 ?_
  refine Go.cLw (rm := rmM 2) 1388 [.int a1] [.int r] rfl dL_law_1385 (C_X7_findings G l NF S 82 a1 r T_82 f2) cvL_206 (by decide) (by decide +kernel) ⟨by decide, by decide⟩ ⟨Nat.le_of_ble_eq_true rfl, Nat.le_of_ble_eq_true rfl⟩ rfl (Nat.le_of_ble_eq_true rfl) ?_
  exact Go.icmp_eq 1407 1391 rfl dL_law_1388 rfl (fun _ => kk S H) (fun h => absurd rfl h)
theorem lc_digest {G : aG} {l : Launch} {nm : String} {S : aSt} {NF : Nat} (hNF : 5000000 < NF) (H : OK S) {i a1 a2 a3 a4 a5 : Int32} (x1 : inb (i + 1) G.2.2.2.1 = true) (h1 : G.2.2.2.2.1 (i + 1).toNatClampNeg = a1) (x2 : inb (i + 2) G.2.2.2.1 = true) (h2 : G.2.2.2.2.1 (i + 2).toNatClampNeg = a2) (x3 : inb (i + 3) G.2.2.2.1 = true) (h3 : G.2.2.2.2.1 (i + 3).toNatClampNeg = a3) (x4 : inb (i + 4) G.2.2.2.1 = true) (h4 : G.2.2.2.2.1 (i + 4).toNatClampNeg = a4) (x5 : inb (i + 5) G.2.2.2.1 = true) (h5 : G.2.2.2.2.1 (i + 5).toNatClampNeg = a5) (kk : ∀ S', OK S' → Go G l room_1 lw_Z (mLw nm) 97 97 7587 1407 [(3, .int i), (2, .ref 82), (1, .ref 0), (0, .ref 1000)] [] S') : Go G l room_1 lw_Z (mLw nm) 97 97 7587 1393 [(3, .int i), (2, .ref 82), (1, .ref 0), (0, .ref 1000)] [] S := by
  obtain ⟨r, f1, f2⟩ := op_digest NF (by omega) H
  refine Go.aload_n 2 1394 rfl dL_law_1393 rfl ?_
  refine Go.cLw (rm := rmM 5) 1397 [] [] rfl dL_law_1394 (C_X6_digest G l NF S 0 r T_0 f1) cvL_207 (by decide) (by decide +kernel) ⟨by decide, by decide⟩ ⟨Nat.le_of_ble_eq_true rfl, Nat.le_of_ble_eq_true rfl⟩ rfl (Nat.le_of_ble_eq_true rfl) ?_
  refine Go.aload_n 1 1398 rfl dL_law_1397 rfl ?_
  refine Go.cLw (rm := rmM 4) 1401 [] [.long r] rfl dL_law_1398 (C_X7_digest G l NF S 82 r T_82 f2) cvL_210 (by decide) (by decide +kernel) ⟨by decide, by decide⟩ ⟨Nat.le_of_ble_eq_true rfl, Nat.le_of_ble_eq_true rfl⟩ rfl (Nat.le_of_ble_eq_true rfl) ?_
  refine Go.lcmp 1402 rfl dL_law_1401 ?_
  exact Go.if_eq 1407 1405 rfl dL_law_1402 rfl (fun _ => kk S H) (fun h => absurd ((lg_cmp_eq _ _).mpr rfl) h)
