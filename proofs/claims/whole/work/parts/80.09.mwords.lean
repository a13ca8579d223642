/-! each method's words, by place: printed by program -/
def MOK (y : Nat) : Prop := Cond.code (mnm y) (mby y) (mml y) (mrt y) ∈ lw_tbl ∧ (match mkd y with | 0 => Cond.static (mnm y) | _ => Cond.instanceMethod (mnm y)) ∈ lw_tbl ∧ Cond.initialized (mnm y).cls ∈ lw_tbl ∧ (mkd y = 1 → Cond.selects (mnm y).cls (mnm y) (mnm y) ∈ lw_tbl) ∧ (2 ≤ mkd y → (mnm y).name = "<init>" ∧ mrt y = none)
theorem tb_in {i : Nat} {w : Cond} (h : tables_1[i]? = some w) : w ∈ lw_tbl := List.mem_append_right _ (List.mem_of_getElem? h)
set_option maxRecDepth 100000 in
theorem mw_1 : MOK 1 := ⟨tb_in (i := 568) rfl, tb_in (i := 566) rfl, tb_in (i := 15) rfl, fun _ => List.mem_of_getElem? (i := 661) rfl, fun h => absurd h (by decide)⟩
set_option maxRecDepth 100000 in
theorem mw_2 : MOK 2 := ⟨tb_in (i := 578) rfl, tb_in (i := 577) rfl, tb_in (i := 15) rfl, fun h => absurd h (by decide), fun h => absurd h (by decide)⟩
set_option maxRecDepth 100000 in
theorem mw_3 : MOK 3 := ⟨tb_in (i := 562) rfl, tb_in (i := 560) rfl, tb_in (i := 15) rfl, fun _ => List.mem_of_getElem? (i := 655) rfl, fun h => absurd h (by decide)⟩
set_option maxRecDepth 100000 in
theorem mw_4 : MOK 4 := ⟨tb_in (i := 572) rfl, tb_in (i := 570) rfl, tb_in (i := 15) rfl, fun _ => List.mem_of_getElem? (i := 665) rfl, fun h => absurd h (by decide)⟩
set_option maxRecDepth 100000 in
theorem mw_5 : MOK 5 := ⟨tb_in (i := 558) rfl, tb_in (i := 556) rfl, tb_in (i := 15) rfl, fun _ => List.mem_of_getElem? (i := 651) rfl, fun h => absurd h (by decide)⟩
set_option maxRecDepth 100000 in
theorem mw_6 : MOK 6 := ⟨tb_in (i := 623) rfl, tb_in (i := 621) rfl, tb_in (i := 15) rfl, fun _ => List.mem_of_getElem? (i := 716) rfl, fun h => absurd h (by decide)⟩
set_option maxRecDepth 100000 in
theorem mw_7 : MOK 7 := ⟨tb_in (i := 627) rfl, tb_in (i := 625) rfl, tb_in (i := 15) rfl, fun _ => List.mem_of_getElem? (i := 720) rfl, fun h => absurd h (by decide)⟩
set_option maxRecDepth 100000 in
theorem mw_8 : MOK 8 := ⟨tb_in (i := 575) rfl, tb_in (i := 574) rfl, tb_in (i := 16) rfl, fun h => absurd h (by decide), fun h => absurd h (by decide)⟩
set_option maxRecDepth 100000 in
theorem mw_9 : MOK 9 := ⟨tb_in (i := 634) rfl, tb_in (i := 633) rfl, tb_in (i := 16) rfl, fun h => absurd h (by decide), fun h => absurd h (by decide)⟩
set_option maxRecDepth 100000 in
theorem mw_10 : MOK 10 := ⟨tb_in (i := 631) rfl, tb_in (i := 630) rfl, tb_in (i := 16) rfl, fun h => absurd h (by decide), fun h => absurd h (by decide)⟩
set_option maxRecDepth 100000 in
theorem mw_11 : MOK 11 := ⟨tb_in (i := 639) rfl, tb_in (i := 638) rfl, tb_in (i := 16) rfl, fun h => absurd h (by decide), fun h => absurd h (by decide)⟩
set_option maxRecDepth 100000 in
theorem mw_12 : MOK 12 := ⟨tb_in (i := 197) rfl, tb_in (i := 196) rfl, tb_in (i := 9) rfl, fun h => absurd h (by decide), fun h => absurd h (by decide)⟩
set_option maxRecDepth 100000 in
theorem mw_13 : MOK 13 := ⟨tb_in (i := 583) rfl, tb_in (i := 582) rfl, tb_in (i := 17) rfl, fun h => absurd h (by decide), fun h => absurd h (by decide)⟩
set_option maxRecDepth 100000 in
theorem mw_14 : MOK 14 := ⟨tb_in (i := 343) rfl, tb_in (i := 342) rfl, tb_in (i := 13) rfl, fun h => absurd h (by decide), fun _ => ⟨rfl, rfl⟩⟩
set_option maxRecDepth 100000 in
theorem mw_15 : MOK 15 := ⟨tb_in (i := 1009) rfl, tb_in (i := 1007) rfl, tb_in (i := 13) rfl, fun _ => List.mem_of_getElem? (i := 1102) rfl, fun h => absurd h (by decide)⟩
set_option maxRecDepth 100000 in
theorem mw_16 : MOK 16 := ⟨tb_in (i := 1014) rfl, tb_in (i := 1013) rfl, tb_in (i := 13) rfl, fun _ => List.mem_of_getElem? (i := 29) rfl, fun h => absurd h (by decide)⟩
set_option maxRecDepth 100000 in
theorem mw_17 : MOK 17 := ⟨tb_in (i := 1000) rfl, tb_in (i := 998) rfl, tb_in (i := 13) rfl, fun _ => List.mem_of_getElem? (i := 1093) rfl, fun h => absurd h (by decide)⟩
set_option maxRecDepth 100000 in
theorem mw_18 : MOK 18 := ⟨tb_in (i := 1023) rfl, tb_in (i := 1021) rfl, tb_in (i := 13) rfl, fun _ => List.mem_of_getElem? (i := 1116) rfl, fun h => absurd h (by decide)⟩
set_option maxRecDepth 100000 in
theorem mw_19 : MOK 19 := ⟨tb_in (i := 1028) rfl, tb_in (i := 1027) rfl, tb_in (i := 13) rfl, fun _ => List.mem_of_getElem? (i := 30) rfl, fun h => absurd h (by decide)⟩
set_option maxRecDepth 100000 in
theorem mw_20 : MOK 20 := ⟨tb_in (i := 1033) rfl, tb_in (i := 1032) rfl, tb_in (i := 13) rfl, fun _ => List.mem_of_getElem? (i := 31) rfl, fun h => absurd h (by decide)⟩
set_option maxRecDepth 100000 in
theorem mw_21 : MOK 21 := ⟨tb_in (i := 1037) rfl, tb_in (i := 1036) rfl, tb_in (i := 13) rfl, fun _ => List.mem_of_getElem? (i := 32) rfl, fun h => absurd h (by decide)⟩
set_option maxRecDepth 100000 in
theorem mw_22 : MOK 22 := ⟨tb_in (i := 65) rfl, tb_in (i := 64) rfl, tb_in (i := 3) rfl, fun h => absurd h (by decide), fun _ => ⟨rfl, rfl⟩⟩
set_option maxRecDepth 100000 in
theorem mw_23 : MOK 23 := ⟨tb_in (i := 679) rfl, tb_in (i := 677) rfl, tb_in (i := 3) rfl, fun _ => List.mem_of_getElem? (i := 772) rfl, fun h => absurd h (by decide)⟩
set_option maxRecDepth 100000 in
theorem mw_24 : MOK 24 := ⟨tb_in (i := 479) rfl, tb_in (i := 477) rfl, tb_in (i := 3) rfl, fun _ => List.mem_of_getElem? (i := 572) rfl, fun h => absurd h (by decide)⟩
set_option maxRecDepth 100000 in
theorem mw_25 : MOK 25 := ⟨tb_in (i := 696) rfl, tb_in (i := 694) rfl, tb_in (i := 3) rfl, fun _ => List.mem_of_getElem? (i := 789) rfl, fun h => absurd h (by decide)⟩
set_option maxRecDepth 100000 in
theorem mw_26 : MOK 26 := ⟨tb_in (i := 731) rfl, tb_in (i := 729) rfl, tb_in (i := 3) rfl, fun _ => List.mem_of_getElem? (i := 824) rfl, fun h => absurd h (by decide)⟩
set_option maxRecDepth 100000 in
theorem mw_27 : MOK 27 := ⟨tb_in (i := 708) rfl, tb_in (i := 706) rfl, tb_in (i := 3) rfl, fun _ => List.mem_of_getElem? (i := 801) rfl, fun h => absurd h (by decide)⟩
set_option maxRecDepth 100000 in
theorem mw_28 : MOK 28 := ⟨tb_in (i := 267) rfl, tb_in (i := 266) rfl, tb_in (i := 11) rfl, fun h => absurd h (by decide), fun _ => ⟨rfl, rfl⟩⟩
set_option maxRecDepth 100000 in
theorem mw_29 : MOK 29 := ⟨tb_in (i := 809) rfl, tb_in (i := 807) rfl, tb_in (i := 11) rfl, fun _ => List.mem_of_getElem? (i := 902) rfl, fun h => absurd h (by decide)⟩
set_option maxRecDepth 100000 in
theorem mw_30 : MOK 30 := ⟨tb_in (i := 814) rfl, tb_in (i := 812) rfl, tb_in (i := 11) rfl, fun _ => List.mem_of_getElem? (i := 907) rfl, fun h => absurd h (by decide)⟩
set_option maxRecDepth 100000 in
theorem mw_31 : MOK 31 := ⟨tb_in (i := 760) rfl, tb_in (i := 758) rfl, tb_in (i := 11) rfl, fun _ => List.mem_of_getElem? (i := 853) rfl, fun h => absurd h (by decide)⟩
set_option maxRecDepth 100000 in
theorem mw_32 : MOK 32 := ⟨tb_in (i := 764) rfl, tb_in (i := 763) rfl, tb_in (i := 11) rfl, fun _ => List.mem_of_getElem? (i := 20) rfl, fun h => absurd h (by decide)⟩
set_option maxRecDepth 100000 in
theorem mw_33 : MOK 33 := ⟨tb_in (i := 797) rfl, tb_in (i := 795) rfl, tb_in (i := 11) rfl, fun _ => List.mem_of_getElem? (i := 890) rfl, fun h => absurd h (by decide)⟩
set_option maxRecDepth 100000 in
theorem mw_34 : MOK 34 := ⟨tb_in (i := 613) rfl, tb_in (i := 612) rfl, tb_in (i := 2) rfl, fun h => absurd h (by decide), fun h => absurd h (by decide)⟩
set_option maxRecDepth 100000 in
theorem mw_35 : MOK 35 := ⟨tb_in (i := 922) rfl, tb_in (i := 920) rfl, tb_in (i := 11) rfl, fun _ => List.mem_of_getElem? (i := 1015) rfl, fun h => absurd h (by decide)⟩
set_option maxRecDepth 100000 in
theorem mw_36 : MOK 36 := ⟨tb_in (i := 821) rfl, tb_in (i := 819) rfl, tb_in (i := 11) rfl, fun _ => List.mem_of_getElem? (i := 914) rfl, fun h => absurd h (by decide)⟩
set_option maxRecDepth 100000 in
theorem mw_37 : MOK 37 := ⟨tb_in (i := 838) rfl, tb_in (i := 836) rfl, tb_in (i := 11) rfl, fun _ => List.mem_of_getElem? (i := 931) rfl, fun h => absurd h (by decide)⟩
set_option maxRecDepth 100000 in
theorem mw_38 : MOK 38 := ⟨tb_in (i := 854) rfl, tb_in (i := 853) rfl, tb_in (i := 11) rfl, fun _ => List.mem_of_getElem? (i := 23) rfl, fun h => absurd h (by decide)⟩
set_option maxRecDepth 100000 in
theorem mw_39 : MOK 39 := ⟨tb_in (i := 96) rfl, tb_in (i := 95) rfl, tb_in (i := 4) rfl, fun h => absurd h (by decide), fun _ => ⟨rfl, rfl⟩⟩
set_option maxRecDepth 100000 in
theorem mw_40 : MOK 40 := ⟨tb_in (i := 534) rfl, tb_in (i := 532) rfl, tb_in (i := 4) rfl, fun _ => List.mem_of_getElem? (i := 627) rfl, fun h => absurd h (by decide)⟩
set_option maxRecDepth 100000 in
theorem mw_41 : MOK 41 := ⟨tb_in (i := 683) rfl, tb_in (i := 682) rfl, tb_in (i := 4) rfl, fun _ => List.mem_of_getElem? (i := 10) rfl, fun h => absurd h (by decide)⟩
set_option maxRecDepth 100000 in
theorem mw_42 : MOK 42 := ⟨tb_in (i := 724) rfl, tb_in (i := 723) rfl, tb_in (i := 4) rfl, fun _ => List.mem_of_getElem? (i := 18) rfl, fun h => absurd h (by decide)⟩
set_option maxRecDepth 100000 in
theorem mw_43 : MOK 43 := ⟨tb_in (i := 691) rfl, tb_in (i := 690) rfl, tb_in (i := 4) rfl, fun _ => List.mem_of_getElem? (i := 12) rfl, fun h => absurd h (by decide)⟩
set_option maxRecDepth 100000 in
theorem mw_44 : MOK 44 := ⟨tb_in (i := 687) rfl, tb_in (i := 686) rfl, tb_in (i := 4) rfl, fun _ => List.mem_of_getElem? (i := 11) rfl, fun h => absurd h (by decide)⟩
set_option maxRecDepth 100000 in
theorem mw_45 : MOK 45 := ⟨tb_in (i := 700) rfl, tb_in (i := 699) rfl, tb_in (i := 4) rfl, fun _ => List.mem_of_getElem? (i := 13) rfl, fun h => absurd h (by decide)⟩
set_option maxRecDepth 100000 in
theorem mw_46 : MOK 46 := ⟨tb_in (i := 613) rfl, tb_in (i := 612) rfl, tb_in (i := 2) rfl, fun h => absurd h (by decide), fun h => absurd h (by decide)⟩
set_option maxRecDepth 100000 in
theorem mw_47 : MOK 47 := ⟨tb_in (i := 704) rfl, tb_in (i := 703) rfl, tb_in (i := 4) rfl, fun _ => List.mem_of_getElem? (i := 14) rfl, fun h => absurd h (by decide)⟩
set_option maxRecDepth 100000 in
theorem mw_48 : MOK 48 := ⟨tb_in (i := 727) rfl, tb_in (i := 726) rfl, tb_in (i := 4) rfl, fun h => absurd h (by decide), fun h => absurd h (by decide)⟩
set_option maxRecDepth 100000 in
theorem mw_49 : MOK 49 := ⟨tb_in (i := 712) rfl, tb_in (i := 711) rfl, tb_in (i := 4) rfl, fun _ => List.mem_of_getElem? (i := 15) rfl, fun h => absurd h (by decide)⟩
set_option maxRecDepth 100000 in
theorem mw_50 : MOK 50 := ⟨tb_in (i := 716) rfl, tb_in (i := 715) rfl, tb_in (i := 4) rfl, fun _ => List.mem_of_getElem? (i := 16) rfl, fun h => absurd h (by decide)⟩
set_option maxRecDepth 100000 in
theorem mw_51 : MOK 51 := ⟨tb_in (i := 720) rfl, tb_in (i := 719) rfl, tb_in (i := 4) rfl, fun _ => List.mem_of_getElem? (i := 17) rfl, fun h => absurd h (by decide)⟩
set_option maxRecDepth 100000 in
theorem mw_52 : MOK 52 := ⟨tb_in (i := 613) rfl, tb_in (i := 612) rfl, tb_in (i := 2) rfl, fun h => absurd h (by decide), fun h => absurd h (by decide)⟩
set_option maxRecDepth 100000 in
theorem mw_53 : MOK 53 := ⟨tb_in (i := 613) rfl, tb_in (i := 612) rfl, tb_in (i := 2) rfl, fun h => absurd h (by decide), fun h => absurd h (by decide)⟩
set_option maxRecDepth 100000 in
theorem mw_54 : MOK 54 := ⟨tb_in (i := 248) rfl, tb_in (i := 247) rfl, tb_in (i := 10) rfl, fun h => absurd h (by decide), fun _ => ⟨rfl, rfl⟩⟩
set_option maxRecDepth 100000 in
theorem mw_55 : MOK 55 := ⟨tb_in (i := 471) rfl, tb_in (i := 469) rfl, tb_in (i := 10) rfl, fun _ => List.mem_of_getElem? (i := 564) rfl, fun h => absurd h (by decide)⟩
set_option maxRecDepth 100000 in
theorem mw_56 : MOK 56 := ⟨tb_in (i := 475) rfl, tb_in (i := 473) rfl, tb_in (i := 10) rfl, fun _ => List.mem_of_getElem? (i := 568) rfl, fun h => absurd h (by decide)⟩
set_option maxRecDepth 100000 in
theorem mw_57 : MOK 57 := ⟨tb_in (i := 775) rfl, tb_in (i := 773) rfl, tb_in (i := 10) rfl, fun _ => List.mem_of_getElem? (i := 868) rfl, fun h => absurd h (by decide)⟩
set_option maxRecDepth 100000 in
theorem mw_58 : MOK 58 := ⟨tb_in (i := 779) rfl, tb_in (i := 777) rfl, tb_in (i := 10) rfl, fun _ => List.mem_of_getElem? (i := 872) rfl, fun h => absurd h (by decide)⟩
set_option maxRecDepth 100000 in
theorem mw_59 : MOK 59 := ⟨tb_in (i := 783) rfl, tb_in (i := 781) rfl, tb_in (i := 10) rfl, fun _ => List.mem_of_getElem? (i := 876) rfl, fun h => absurd h (by decide)⟩
set_option maxRecDepth 100000 in
theorem mw_60 : MOK 60 := ⟨tb_in (i := 801) rfl, tb_in (i := 799) rfl, tb_in (i := 10) rfl, fun _ => List.mem_of_getElem? (i := 894) rfl, fun h => absurd h (by decide)⟩
set_option maxRecDepth 100000 in
theorem mw_61 : MOK 61 := ⟨tb_in (i := 483) rfl, tb_in (i := 482) rfl, tb_in (i := 10) rfl, fun _ => List.mem_of_getElem? (i := 2) rfl, fun h => absurd h (by decide)⟩
set_option maxRecDepth 100000 in
theorem mw_62 : MOK 62 := ⟨tb_in (i := 491) rfl, tb_in (i := 490) rfl, tb_in (i := 10) rfl, fun _ => List.mem_of_getElem? (i := 3) rfl, fun h => absurd h (by decide)⟩
set_option maxRecDepth 100000 in
theorem mw_63 : MOK 63 := ⟨tb_in (i := 494) rfl, tb_in (i := 493) rfl, tb_in (i := 10) rfl, fun h => absurd h (by decide), fun h => absurd h (by decide)⟩
set_option maxRecDepth 100000 in
theorem mw_64 : MOK 64 := ⟨tb_in (i := 497) rfl, tb_in (i := 496) rfl, tb_in (i := 10) rfl, fun h => absurd h (by decide), fun h => absurd h (by decide)⟩
set_option maxRecDepth 100000 in
theorem mw_65 : MOK 65 := ⟨tb_in (i := 128) rfl, tb_in (i := 127) rfl, tb_in (i := 5) rfl, fun h => absurd h (by decide), fun _ => ⟨rfl, rfl⟩⟩
set_option maxRecDepth 100000 in
theorem mw_66 : MOK 66 := ⟨tb_in (i := 1058) rfl, tb_in (i := 1056) rfl, tb_in (i := 5) rfl, fun _ => List.mem_of_getElem? (i := 1151) rfl, fun h => absurd h (by decide)⟩
set_option maxRecDepth 100000 in
theorem mw_67 : MOK 67 := ⟨tb_in (i := 770) rfl, tb_in (i := 768) rfl, tb_in (i := 5) rfl, fun _ => List.mem_of_getElem? (i := 863) rfl, fun h => absurd h (by decide)⟩
set_option maxRecDepth 100000 in
theorem mw_68 : MOK 68 := ⟨tb_in (i := 422) rfl, tb_in (i := 420) rfl, tb_in (i := 5) rfl, fun _ => List.mem_of_getElem? (i := 515) rfl, fun h => absurd h (by decide)⟩
set_option maxRecDepth 100000 in
theorem mw_69 : MOK 69 := ⟨tb_in (i := 441) rfl, tb_in (i := 439) rfl, tb_in (i := 5) rfl, fun _ => List.mem_of_getElem? (i := 534) rfl, fun h => absurd h (by decide)⟩
set_option maxRecDepth 100000 in
theorem mw_70 : MOK 70 := ⟨tb_in (i := 455) rfl, tb_in (i := 453) rfl, tb_in (i := 5) rfl, fun _ => List.mem_of_getElem? (i := 548) rfl, fun h => absurd h (by decide)⟩
set_option maxRecDepth 100000 in
theorem mw_71 : MOK 71 := ⟨tb_in (i := 459) rfl, tb_in (i := 457) rfl, tb_in (i := 5) rfl, fun _ => List.mem_of_getElem? (i := 552) rfl, fun h => absurd h (by decide)⟩
set_option maxRecDepth 100000 in
theorem mw_72 : MOK 72 := ⟨tb_in (i := 447) rfl, tb_in (i := 445) rfl, tb_in (i := 5) rfl, fun _ => List.mem_of_getElem? (i := 540) rfl, fun h => absurd h (by decide)⟩
set_option maxRecDepth 100000 in
theorem mw_73 : MOK 73 := ⟨tb_in (i := 756) rfl, tb_in (i := 754) rfl, tb_in (i := 5) rfl, fun _ => List.mem_of_getElem? (i := 849) rfl, fun h => absurd h (by decide)⟩
set_option maxRecDepth 100000 in
theorem mw_74 : MOK 74 := ⟨tb_in (i := 752) rfl, tb_in (i := 750) rfl, tb_in (i := 5) rfl, fun _ => List.mem_of_getElem? (i := 845) rfl, fun h => absurd h (by decide)⟩
set_option maxRecDepth 100000 in
theorem mw_75 : MOK 75 := ⟨tb_in (i := 888) rfl, tb_in (i := 886) rfl, tb_in (i := 5) rfl, fun _ => List.mem_of_getElem? (i := 981) rfl, fun h => absurd h (by decide)⟩
set_option maxRecDepth 100000 in
theorem mw_76 : MOK 76 := ⟨tb_in (i := 881) rfl, tb_in (i := 879) rfl, tb_in (i := 5) rfl, fun _ => List.mem_of_getElem? (i := 974) rfl, fun h => absurd h (by decide)⟩
set_option maxRecDepth 100000 in
theorem mw_77 : MOK 77 := ⟨tb_in (i := 507) rfl, tb_in (i := 505) rfl, tb_in (i := 5) rfl, fun _ => List.mem_of_getElem? (i := 600) rfl, fun h => absurd h (by decide)⟩
set_option maxRecDepth 100000 in
theorem mw_78 : MOK 78 := ⟨tb_in (i := 1045) rfl, tb_in (i := 1043) rfl, tb_in (i := 5) rfl, fun _ => List.mem_of_getElem? (i := 1138) rfl, fun h => absurd h (by decide)⟩
set_option maxRecDepth 100000 in
theorem mw_79 : MOK 79 := ⟨tb_in (i := 1049) rfl, tb_in (i := 1048) rfl, tb_in (i := 5) rfl, fun h => absurd h (by decide), fun h => absurd h (by decide)⟩
set_option maxRecDepth 100000 in
theorem mw_80 : MOK 80 := ⟨tb_in (i := 134) rfl, tb_in (i := 133) rfl, tb_in (i := 6) rfl, fun h => absurd h (by decide), fun _ => ⟨rfl, rfl⟩⟩
set_option maxRecDepth 100000 in
theorem mw_81 : MOK 81 := ⟨tb_in (i := 414) rfl, tb_in (i := 412) rfl, tb_in (i := 6) rfl, fun _ => List.mem_of_getElem? (i := 507) rfl, fun h => absurd h (by decide)⟩
set_option maxRecDepth 100000 in
theorem mw_82 : MOK 82 := ⟨tb_in (i := 398) rfl, tb_in (i := 396) rfl, tb_in (i := 6) rfl, fun _ => List.mem_of_getElem? (i := 491) rfl, fun h => absurd h (by decide)⟩
set_option maxRecDepth 100000 in
theorem mw_83 : MOK 83 := ⟨tb_in (i := 437) rfl, tb_in (i := 435) rfl, tb_in (i := 6) rfl, fun _ => List.mem_of_getElem? (i := 530) rfl, fun h => absurd h (by decide)⟩
set_option maxRecDepth 100000 in
theorem mw_84 : MOK 84 := ⟨tb_in (i := 402) rfl, tb_in (i := 400) rfl, tb_in (i := 6) rfl, fun _ => List.mem_of_getElem? (i := 495) rfl, fun h => absurd h (by decide)⟩
set_option maxRecDepth 100000 in
theorem mw_85 : MOK 85 := ⟨tb_in (i := 613) rfl, tb_in (i := 612) rfl, tb_in (i := 2) rfl, fun h => absurd h (by decide), fun h => absurd h (by decide)⟩
set_option maxRecDepth 100000 in
theorem mw_86 : MOK 86 := ⟨tb_in (i := 1062) rfl, tb_in (i := 1060) rfl, tb_in (i := 6) rfl, fun _ => List.mem_of_getElem? (i := 1155) rfl, fun h => absurd h (by decide)⟩
set_option maxRecDepth 100000 in
theorem mw_87 : MOK 87 := ⟨tb_in (i := 1065) rfl, tb_in (i := 1064) rfl, tb_in (i := 6) rfl, fun h => absurd h (by decide), fun h => absurd h (by decide)⟩
set_option maxRecDepth 100000 in
theorem mw_88 : MOK 88 := ⟨tb_in (i := 33) rfl, tb_in (i := 32) rfl, tb_in (i := 2) rfl, fun h => absurd h (by decide), fun _ => ⟨rfl, rfl⟩⟩
set_option maxRecDepth 100000 in
theorem mw_89 : MOK 89 := ⟨tb_in (i := 522) rfl, tb_in (i := 520) rfl, tb_in (i := 2) rfl, fun _ => List.mem_of_getElem? (i := 615) rfl, fun h => absurd h (by decide)⟩
set_option maxRecDepth 100000 in
theorem mw_90 : MOK 90 := ⟨tb_in (i := 538) rfl, tb_in (i := 536) rfl, tb_in (i := 2) rfl, fun _ => List.mem_of_getElem? (i := 631) rfl, fun h => absurd h (by decide)⟩
set_option maxRecDepth 100000 in
theorem mw_91 : MOK 91 := ⟨tb_in (i := 542) rfl, tb_in (i := 541) rfl, tb_in (i := 2) rfl, fun _ => List.mem_of_getElem? (i := 4) rfl, fun h => absurd h (by decide)⟩
set_option maxRecDepth 100000 in
theorem mw_92 : MOK 92 := ⟨tb_in (i := 617) rfl, tb_in (i := 616) rfl, tb_in (i := 2) rfl, fun _ => List.mem_of_getElem? (i := 9) rfl, fun h => absurd h (by decide)⟩
set_option maxRecDepth 100000 in
theorem mw_93 : MOK 93 := ⟨tb_in (i := 610) rfl, tb_in (i := 609) rfl, tb_in (i := 2) rfl, fun _ => List.mem_of_getElem? (i := 8) rfl, fun h => absurd h (by decide)⟩
set_option maxRecDepth 100000 in
theorem mw_94 : MOK 94 := ⟨tb_in (i := 553) rfl, tb_in (i := 552) rfl, tb_in (i := 2) rfl, fun _ => List.mem_of_getElem? (i := 6) rfl, fun h => absurd h (by decide)⟩
set_option maxRecDepth 100000 in
theorem mw_95 : MOK 95 := ⟨tb_in (i := 606) rfl, tb_in (i := 605) rfl, tb_in (i := 2) rfl, fun _ => List.mem_of_getElem? (i := 7) rfl, fun h => absurd h (by decide)⟩
set_option maxRecDepth 100000 in
theorem mw_96 : MOK 96 := ⟨tb_in (i := 546) rfl, tb_in (i := 545) rfl, tb_in (i := 2) rfl, fun _ => List.mem_of_getElem? (i := 5) rfl, fun h => absurd h (by decide)⟩
set_option maxRecDepth 100000 in
theorem mw_97 : MOK 97 := ⟨tb_in (i := 549) rfl, tb_in (i := 548) rfl, tb_in (i := 2) rfl, fun h => absurd h (by decide), fun h => absurd h (by decide)⟩
set_option maxRecDepth 100000 in
theorem mw_98 : MOK 98 := ⟨tb_in (i := 613) rfl, tb_in (i := 612) rfl, tb_in (i := 2) rfl, fun h => absurd h (by decide), fun h => absurd h (by decide)⟩
set_option maxRecDepth 100000 in
theorem mw_99 : MOK 99 := ⟨tb_in (i := 310) rfl, tb_in (i := 309) rfl, tb_in (i := 12) rfl, fun h => absurd h (by decide), fun _ => ⟨rfl, rfl⟩⟩
set_option maxRecDepth 100000 in
theorem mw_100 : MOK 100 := ⟨tb_in (i := 892) rfl, tb_in (i := 891) rfl, tb_in (i := 12) rfl, fun _ => List.mem_of_getElem? (i := 25) rfl, fun h => absurd h (by decide)⟩
set_option maxRecDepth 100000 in
theorem mw_101 : MOK 101 := ⟨tb_in (i := 877) rfl, tb_in (i := 876) rfl, tb_in (i := 12) rfl, fun _ => List.mem_of_getElem? (i := 24) rfl, fun h => absurd h (by decide)⟩
set_option maxRecDepth 100000 in
theorem mw_102 : MOK 102 := ⟨tb_in (i := 873) rfl, tb_in (i := 871) rfl, tb_in (i := 12) rfl, fun _ => List.mem_of_getElem? (i := 966) rfl, fun h => absurd h (by decide)⟩
set_option maxRecDepth 100000 in
theorem mw_103 : MOK 103 := ⟨tb_in (i := 930) rfl, tb_in (i := 928) rfl, tb_in (i := 12) rfl, fun _ => List.mem_of_getElem? (i := 1023) rfl, fun h => absurd h (by decide)⟩
set_option maxRecDepth 100000 in
theorem mw_104 : MOK 104 := ⟨tb_in (i := 934) rfl, tb_in (i := 932) rfl, tb_in (i := 12) rfl, fun _ => List.mem_of_getElem? (i := 1027) rfl, fun h => absurd h (by decide)⟩
set_option maxRecDepth 100000 in
theorem mw_105 : MOK 105 := ⟨tb_in (i := 613) rfl, tb_in (i := 612) rfl, tb_in (i := 2) rfl, fun h => absurd h (by decide), fun h => absurd h (by decide)⟩
set_option maxRecDepth 100000 in
theorem mw_106 : MOK 106 := ⟨tb_in (i := 903) rfl, tb_in (i := 901) rfl, tb_in (i := 12) rfl, fun _ => List.mem_of_getElem? (i := 996) rfl, fun h => absurd h (by decide)⟩
set_option maxRecDepth 100000 in
theorem mw_107 : MOK 107 := ⟨tb_in (i := 913) rfl, tb_in (i := 911) rfl, tb_in (i := 12) rfl, fun _ => List.mem_of_getElem? (i := 1006) rfl, fun h => absurd h (by decide)⟩
set_option maxRecDepth 100000 in
theorem mw_108 : MOK 108 := ⟨tb_in (i := 918) rfl, tb_in (i := 917) rfl, tb_in (i := 12) rfl, fun _ => List.mem_of_getElem? (i := 26) rfl, fun h => absurd h (by decide)⟩
set_option maxRecDepth 100000 in
theorem mw_109 : MOK 109 := ⟨tb_in (i := 942) rfl, tb_in (i := 940) rfl, tb_in (i := 12) rfl, fun _ => List.mem_of_getElem? (i := 1035) rfl, fun h => absurd h (by decide)⟩
set_option maxRecDepth 100000 in
theorem mw_110 : MOK 110 := ⟨tb_in (i := 948) rfl, tb_in (i := 947) rfl, tb_in (i := 12) rfl, fun _ => List.mem_of_getElem? (i := 27) rfl, fun h => absurd h (by decide)⟩
set_option maxRecDepth 100000 in
theorem mw_111 : MOK 111 := ⟨tb_in (i := 952) rfl, tb_in (i := 951) rfl, tb_in (i := 12) rfl, fun _ => List.mem_of_getElem? (i := 28) rfl, fun h => absurd h (by decide)⟩
set_option maxRecDepth 100000 in
theorem mw_112 : MOK 112 := ⟨tb_in (i := 959) rfl, tb_in (i := 957) rfl, tb_in (i := 12) rfl, fun _ => List.mem_of_getElem? (i := 1052) rfl, fun h => absurd h (by decide)⟩
set_option maxRecDepth 100000 in
theorem mw_113 : MOK 113 := ⟨tb_in (i := 972) rfl, tb_in (i := 970) rfl, tb_in (i := 12) rfl, fun _ => List.mem_of_getElem? (i := 1065) rfl, fun h => absurd h (by decide)⟩
set_option maxRecDepth 100000 in
theorem mw_114 : MOK 114 := ⟨tb_in (i := 976) rfl, tb_in (i := 974) rfl, tb_in (i := 12) rfl, fun _ => List.mem_of_getElem? (i := 1069) rfl, fun h => absurd h (by decide)⟩
set_option maxRecDepth 100000 in
theorem mw_115 : MOK 115 := ⟨tb_in (i := 984) rfl, tb_in (i := 982) rfl, tb_in (i := 12) rfl, fun _ => List.mem_of_getElem? (i := 1077) rfl, fun h => absurd h (by decide)⟩
set_option maxRecDepth 100000 in
theorem mw_116 : MOK 116 := ⟨tb_in (i := 165) rfl, tb_in (i := 164) rfl, tb_in (i := 8) rfl, fun h => absurd h (by decide), fun _ => ⟨rfl, rfl⟩⟩
set_option maxRecDepth 100000 in
theorem mw_117 : MOK 117 := ⟨tb_in (i := 842) rfl, tb_in (i := 840) rfl, tb_in (i := 8) rfl, fun _ => List.mem_of_getElem? (i := 935) rfl, fun h => absurd h (by decide)⟩
set_option maxRecDepth 100000 in
theorem mw_118 : MOK 118 := ⟨tb_in (i := 847) rfl, tb_in (i := 845) rfl, tb_in (i := 8) rfl, fun _ => List.mem_of_getElem? (i := 940) rfl, fun h => absurd h (by decide)⟩
set_option maxRecDepth 100000 in
theorem mw_119 : MOK 119 := ⟨tb_in (i := 1074) rfl, tb_in (i := 1072) rfl, tb_in (i := 8) rfl, fun _ => List.mem_of_getElem? (i := 1167) rfl, fun h => absurd h (by decide)⟩
set_option maxRecDepth 100000 in
theorem mw_120 : MOK 120 := ⟨tb_in (i := 25) rfl, tb_in (i := 24) rfl, tb_in (i := 1) rfl, fun h => absurd h (by decide), fun _ => ⟨rfl, rfl⟩⟩
set_option maxRecDepth 100000 in
theorem mw_121 : MOK 121 := ⟨tb_in (i := 391) rfl, tb_in (i := 389) rfl, tb_in (i := 1) rfl, fun _ => List.mem_of_getElem? (i := 484) rfl, fun h => absurd h (by decide)⟩
set_option maxRecDepth 100000 in
theorem mw_122 : MOK 122 := ⟨tb_in (i := 406) rfl, tb_in (i := 404) rfl, tb_in (i := 1) rfl, fun _ => List.mem_of_getElem? (i := 499) rfl, fun h => absurd h (by decide)⟩
set_option maxRecDepth 100000 in
theorem mw_123 : MOK 123 := ⟨tb_in (i := 410) rfl, tb_in (i := 408) rfl, tb_in (i := 1) rfl, fun _ => List.mem_of_getElem? (i := 503) rfl, fun h => absurd h (by decide)⟩
set_option maxRecDepth 100000 in
theorem mw_124 : MOK 124 := ⟨tb_in (i := 418) rfl, tb_in (i := 416) rfl, tb_in (i := 1) rfl, fun _ => List.mem_of_getElem? (i := 511) rfl, fun h => absurd h (by decide)⟩
set_option maxRecDepth 100000 in
theorem mw_125 : MOK 125 := ⟨tb_in (i := 426) rfl, tb_in (i := 424) rfl, tb_in (i := 1) rfl, fun _ => List.mem_of_getElem? (i := 519) rfl, fun h => absurd h (by decide)⟩
set_option maxRecDepth 100000 in
theorem mw_126 : MOK 126 := ⟨tb_in (i := 433) rfl, tb_in (i := 431) rfl, tb_in (i := 1) rfl, fun _ => List.mem_of_getElem? (i := 526) rfl, fun h => absurd h (by decide)⟩
set_option maxRecDepth 100000 in
theorem mw_127 : MOK 127 := ⟨tb_in (i := 513) rfl, tb_in (i := 511) rfl, tb_in (i := 1) rfl, fun _ => List.mem_of_getElem? (i := 606) rfl, fun h => absurd h (by decide)⟩
set_option maxRecDepth 100000 in
theorem mw_128 : MOK 128 := ⟨tb_in (i := 518) rfl, tb_in (i := 516) rfl, tb_in (i := 1) rfl, fun _ => List.mem_of_getElem? (i := 611) rfl, fun h => absurd h (by decide)⟩
set_option maxRecDepth 100000 in
theorem mw_129 : MOK 129 := ⟨tb_in (i := 526) rfl, tb_in (i := 524) rfl, tb_in (i := 1) rfl, fun _ => List.mem_of_getElem? (i := 619) rfl, fun h => absurd h (by decide)⟩
set_option maxRecDepth 100000 in
theorem mw_130 : MOK 130 := ⟨tb_in (i := 530) rfl, tb_in (i := 528) rfl, tb_in (i := 1) rfl, fun _ => List.mem_of_getElem? (i := 623) rfl, fun h => absurd h (by decide)⟩
set_option maxRecDepth 100000 in
theorem mw_131 : MOK 131 := ⟨tb_in (i := 736) rfl, tb_in (i := 734) rfl, tb_in (i := 1) rfl, fun _ => List.mem_of_getElem? (i := 829) rfl, fun h => absurd h (by decide)⟩
set_option maxRecDepth 100000 in
theorem mw_132 : MOK 132 := ⟨tb_in (i := 740) rfl, tb_in (i := 738) rfl, tb_in (i := 1) rfl, fun _ => List.mem_of_getElem? (i := 833) rfl, fun h => absurd h (by decide)⟩
set_option maxRecDepth 100000 in
theorem mw_133 : MOK 133 := ⟨tb_in (i := 748) rfl, tb_in (i := 746) rfl, tb_in (i := 1) rfl, fun _ => List.mem_of_getElem? (i := 841) rfl, fun h => absurd h (by decide)⟩
set_option maxRecDepth 100000 in
theorem mw_134 : MOK 134 := ⟨tb_in (i := 792) rfl, tb_in (i := 790) rfl, tb_in (i := 1) rfl, fun _ => List.mem_of_getElem? (i := 885) rfl, fun h => absurd h (by decide)⟩
set_option maxRecDepth 100000 in
theorem mw_135 : MOK 135 := ⟨tb_in (i := 805) rfl, tb_in (i := 803) rfl, tb_in (i := 1) rfl, fun _ => List.mem_of_getElem? (i := 898) rfl, fun h => absurd h (by decide)⟩
set_option maxRecDepth 100000 in
theorem mw_136 : MOK 136 := ⟨tb_in (i := 834) rfl, tb_in (i := 832) rfl, tb_in (i := 1) rfl, fun _ => List.mem_of_getElem? (i := 927) rfl, fun h => absurd h (by decide)⟩
set_option maxRecDepth 100000 in
theorem mw_137 : MOK 137 := ⟨tb_in (i := 860) rfl, tb_in (i := 858) rfl, tb_in (i := 1) rfl, fun _ => List.mem_of_getElem? (i := 953) rfl, fun h => absurd h (by decide)⟩
set_option maxRecDepth 100000 in
theorem mw_138 : MOK 138 := ⟨tb_in (i := 865) rfl, tb_in (i := 863) rfl, tb_in (i := 1) rfl, fun _ => List.mem_of_getElem? (i := 958) rfl, fun h => absurd h (by decide)⟩
set_option maxRecDepth 100000 in
theorem mw_139 : MOK 139 := ⟨tb_in (i := 869) rfl, tb_in (i := 867) rfl, tb_in (i := 1) rfl, fun _ => List.mem_of_getElem? (i := 962) rfl, fun h => absurd h (by decide)⟩
set_option maxRecDepth 100000 in
theorem mw_140 : MOK 140 := ⟨tb_in (i := 899) rfl, tb_in (i := 897) rfl, tb_in (i := 1) rfl, fun _ => List.mem_of_getElem? (i := 992) rfl, fun h => absurd h (by decide)⟩
set_option maxRecDepth 100000 in
theorem mw_141 : MOK 141 := ⟨tb_in (i := 909) rfl, tb_in (i := 907) rfl, tb_in (i := 1) rfl, fun _ => List.mem_of_getElem? (i := 1002) rfl, fun h => absurd h (by decide)⟩
set_option maxRecDepth 100000 in
theorem mw_142 : MOK 142 := ⟨tb_in (i := 926) rfl, tb_in (i := 924) rfl, tb_in (i := 1) rfl, fun _ => List.mem_of_getElem? (i := 1019) rfl, fun h => absurd h (by decide)⟩
set_option maxRecDepth 100000 in
theorem mw_143 : MOK 143 := ⟨tb_in (i := 938) rfl, tb_in (i := 936) rfl, tb_in (i := 1) rfl, fun _ => List.mem_of_getElem? (i := 1031) rfl, fun h => absurd h (by decide)⟩
set_option maxRecDepth 100000 in
theorem mw_144 : MOK 144 := ⟨tb_in (i := 964) rfl, tb_in (i := 962) rfl, tb_in (i := 1) rfl, fun _ => List.mem_of_getElem? (i := 1057) rfl, fun h => absurd h (by decide)⟩
set_option maxRecDepth 100000 in
theorem mw_145 : MOK 145 := ⟨tb_in (i := 968) rfl, tb_in (i := 966) rfl, tb_in (i := 1) rfl, fun _ => List.mem_of_getElem? (i := 1061) rfl, fun h => absurd h (by decide)⟩
set_option maxRecDepth 100000 in
theorem mw_146 : MOK 146 := ⟨tb_in (i := 980) rfl, tb_in (i := 978) rfl, tb_in (i := 1) rfl, fun _ => List.mem_of_getElem? (i := 1073) rfl, fun h => absurd h (by decide)⟩
set_option maxRecDepth 100000 in
theorem mw_147 : MOK 147 := ⟨tb_in (i := 989) rfl, tb_in (i := 987) rfl, tb_in (i := 1) rfl, fun _ => List.mem_of_getElem? (i := 1082) rfl, fun h => absurd h (by decide)⟩
set_option maxRecDepth 100000 in
theorem mw_148 : MOK 148 := ⟨tb_in (i := 996) rfl, tb_in (i := 994) rfl, tb_in (i := 1) rfl, fun _ => List.mem_of_getElem? (i := 1089) rfl, fun h => absurd h (by decide)⟩
set_option maxRecDepth 100000 in
theorem mw_149 : MOK 149 := ⟨tb_in (i := 1005) rfl, tb_in (i := 1003) rfl, tb_in (i := 1) rfl, fun _ => List.mem_of_getElem? (i := 1098) rfl, fun h => absurd h (by decide)⟩
set_option maxRecDepth 100000 in
theorem mw_150 : MOK 150 := ⟨tb_in (i := 1019) rfl, tb_in (i := 1017) rfl, tb_in (i := 1) rfl, fun _ => List.mem_of_getElem? (i := 1112) rfl, fun h => absurd h (by decide)⟩
set_option maxRecDepth 100000 in
theorem mw_151 : MOK 151 := ⟨tb_in (i := 1041) rfl, tb_in (i := 1039) rfl, tb_in (i := 1) rfl, fun _ => List.mem_of_getElem? (i := 1134) rfl, fun h => absurd h (by decide)⟩
set_option maxRecDepth 100000 in
theorem mw_152 : MOK 152 := ⟨tb_in (i := 1054) rfl, tb_in (i := 1052) rfl, tb_in (i := 1) rfl, fun _ => List.mem_of_getElem? (i := 1147) rfl, fun h => absurd h (by decide)⟩
set_option maxRecDepth 100000 in
theorem mw_153 : MOK 153 := ⟨tb_in (i := 1079) rfl, tb_in (i := 1077) rfl, tb_in (i := 1) rfl, fun _ => List.mem_of_getElem? (i := 1172) rfl, fun h => absurd h (by decide)⟩
set_option maxRecDepth 100000 in
theorem mw_154 : MOK 154 := ⟨tb_in (i := 1083) rfl, tb_in (i := 1081) rfl, tb_in (i := 1) rfl, fun _ => List.mem_of_getElem? (i := 1176) rfl, fun h => absurd h (by decide)⟩
set_option maxRecDepth 100000 in
theorem mw_155 : MOK 155 := ⟨tb_in (i := 394) rfl, tb_in (i := 393) rfl, tb_in (i := 1) rfl, fun h => absurd h (by decide), fun h => absurd h (by decide)⟩
set_option maxRecDepth 100000 in
theorem mw_156 : MOK 156 := ⟨tb_in (i := 429) rfl, tb_in (i := 428) rfl, tb_in (i := 1) rfl, fun h => absurd h (by decide), fun h => absurd h (by decide)⟩
set_option maxRecDepth 100000 in
theorem mw_157 : MOK 157 := ⟨tb_in (i := 992) rfl, tb_in (i := 991) rfl, tb_in (i := 1) rfl, fun h => absurd h (by decide), fun h => absurd h (by decide)⟩
set_option maxRecDepth 100000 in
theorem mw_158 : MOK 158 := ⟨tb_in (i := 744) rfl, tb_in (i := 743) rfl, tb_in (i := 1) rfl, fun _ => List.mem_of_getElem? (i := 19) rfl, fun h => absurd h (by decide)⟩
set_option maxRecDepth 100000 in
theorem mw_159 : MOK 159 := ⟨tb_in (i := 463) rfl, tb_in (i := 462) rfl, tb_in (i := 1) rfl, fun _ => List.mem_of_getElem? (i := 0) rfl, fun h => absurd h (by decide)⟩
set_option maxRecDepth 100000 in
theorem mw_160 : MOK 160 := ⟨tb_in (i := 467) rfl, tb_in (i := 466) rfl, tb_in (i := 1) rfl, fun _ => List.mem_of_getElem? (i := 1) rfl, fun h => absurd h (by decide)⟩
set_option maxRecDepth 100000 in
theorem mw_161 : MOK 161 := ⟨tb_in (i := 1089) rfl, tb_in (i := 1088) rfl, tb_in (i := 14) rfl, fun h => absurd h (by decide), fun _ => ⟨rfl, rfl⟩⟩
set_option maxRecDepth 100000 in
theorem mw_162 : MOK 162 := ⟨tb_in (i := 1259) rfl, tb_in (i := 1258) rfl, tb_in (i := 14) rfl, fun h => absurd h (by decide), fun h => absurd h (by decide)⟩
set_option maxRecDepth 100000 in
theorem mw_163 : MOK 163 := ⟨tb_in (i := 1094) rfl, tb_in (i := 1093) rfl, tb_in (i := 14) rfl, fun _ => List.mem_of_getElem? (i := 33) rfl, fun h => absurd h (by decide)⟩
set_option maxRecDepth 100000 in
theorem mw_164 : MOK 164 := ⟨tb_in (i := 1271) rfl, tb_in (i := 1270) rfl, tb_in (i := 14) rfl, fun _ => List.mem_of_getElem? (i := 34) rfl, fun h => absurd h (by decide)⟩
set_option maxRecDepth 100000 in
theorem mw_165 : MOK 165 := ⟨tb_in (i := 1290) rfl, tb_in (i := 1289) rfl, tb_in (i := 14) rfl, fun _ => List.mem_of_getElem? (i := 36) rfl, fun h => absurd h (by decide)⟩
set_option maxRecDepth 100000 in
theorem mw_166 : MOK 166 := ⟨tb_in (i := 1534) rfl, tb_in (i := 1533) rfl, tb_in (i := 14) rfl, fun _ => List.mem_of_getElem? (i := 79) rfl, fun h => absurd h (by decide)⟩
set_option maxRecDepth 100000 in
theorem mw_167 : MOK 167 := ⟨tb_in (i := 1302) rfl, tb_in (i := 1301) rfl, tb_in (i := 14) rfl, fun _ => List.mem_of_getElem? (i := 38) rfl, fun h => absurd h (by decide)⟩
set_option maxRecDepth 100000 in
theorem mw_168 : MOK 168 := ⟨tb_in (i := 1282) rfl, tb_in (i := 1281) rfl, tb_in (i := 14) rfl, fun h => absurd h (by decide), fun h => absurd h (by decide)⟩
set_option maxRecDepth 100000 in
theorem mw_169 : MOK 169 := ⟨tb_in (i := 1318) rfl, tb_in (i := 1317) rfl, tb_in (i := 14) rfl, fun _ => List.mem_of_getElem? (i := 42) rfl, fun h => absurd h (by decide)⟩
set_option maxRecDepth 100000 in
theorem mw_170 : MOK 170 := ⟨tb_in (i := 1314) rfl, tb_in (i := 1313) rfl, tb_in (i := 14) rfl, fun _ => List.mem_of_getElem? (i := 41) rfl, fun h => absurd h (by decide)⟩
set_option maxRecDepth 100000 in
theorem mw_171 : MOK 171 := ⟨tb_in (i := 1526) rfl, tb_in (i := 1525) rfl, tb_in (i := 14) rfl, fun _ => List.mem_of_getElem? (i := 78) rfl, fun h => absurd h (by decide)⟩
set_option maxRecDepth 100000 in
theorem mw_172 : MOK 172 := ⟨tb_in (i := 1306) rfl, tb_in (i := 1305) rfl, tb_in (i := 14) rfl, fun _ => List.mem_of_getElem? (i := 39) rfl, fun h => absurd h (by decide)⟩
set_option maxRecDepth 100000 in
theorem mw_173 : MOK 173 := ⟨tb_in (i := 1310) rfl, tb_in (i := 1309) rfl, tb_in (i := 14) rfl, fun _ => List.mem_of_getElem? (i := 40) rfl, fun h => absurd h (by decide)⟩
set_option maxRecDepth 100000 in
theorem mw_174 : MOK 174 := ⟨tb_in (i := 1256) rfl, tb_in (i := 1254) rfl, tb_in (i := 14) rfl, fun _ => List.mem_of_getElem? (i := 1349) rfl, fun h => absurd h (by decide)⟩
set_option maxRecDepth 100000 in
theorem mw_175 : MOK 175 := ⟨tb_in (i := 1263) rfl, tb_in (i := 1261) rfl, tb_in (i := 14) rfl, fun _ => List.mem_of_getElem? (i := 1356) rfl, fun h => absurd h (by decide)⟩
set_option maxRecDepth 100000 in
theorem mw_176 : MOK 176 := ⟨tb_in (i := 1275) rfl, tb_in (i := 1274) rfl, tb_in (i := 14) rfl, fun _ => List.mem_of_getElem? (i := 35) rfl, fun h => absurd h (by decide)⟩
set_option maxRecDepth 100000 in
theorem mw_177 : MOK 177 := ⟨tb_in (i := 1267) rfl, tb_in (i := 1265) rfl, tb_in (i := 14) rfl, fun _ => List.mem_of_getElem? (i := 1360) rfl, fun h => absurd h (by decide)⟩
set_option maxRecDepth 100000 in
theorem mw_178 : MOK 178 := ⟨tb_in (i := 1279) rfl, tb_in (i := 1277) rfl, tb_in (i := 14) rfl, fun _ => List.mem_of_getElem? (i := 1372) rfl, fun h => absurd h (by decide)⟩
set_option maxRecDepth 100000 in
theorem mw_179 : MOK 179 := ⟨tb_in (i := 1294) rfl, tb_in (i := 1293) rfl, tb_in (i := 14) rfl, fun _ => List.mem_of_getElem? (i := 37) rfl, fun h => absurd h (by decide)⟩
set_option maxRecDepth 100000 in
theorem mw_180 : MOK 180 := ⟨tb_in (i := 1286) rfl, tb_in (i := 1284) rfl, tb_in (i := 14) rfl, fun _ => List.mem_of_getElem? (i := 1379) rfl, fun h => absurd h (by decide)⟩
set_option maxRecDepth 100000 in
theorem mw_181 : MOK 181 := ⟨tb_in (i := 1346) rfl, tb_in (i := 1345) rfl, tb_in (i := 14) rfl, fun _ => List.mem_of_getElem? (i := 47) rfl, fun h => absurd h (by decide)⟩
set_option maxRecDepth 100000 in
theorem mw_182 : MOK 182 := ⟨tb_in (i := 1298) rfl, tb_in (i := 1296) rfl, tb_in (i := 14) rfl, fun _ => List.mem_of_getElem? (i := 1391) rfl, fun h => absurd h (by decide)⟩
set_option maxRecDepth 100000 in
theorem mw_183 : MOK 183 := ⟨tb_in (i := 1350) rfl, tb_in (i := 1348) rfl, tb_in (i := 14) rfl, fun _ => List.mem_of_getElem? (i := 1443) rfl, fun h => absurd h (by decide)⟩
set_option maxRecDepth 100000 in
theorem mw_184 : MOK 184 := ⟨tb_in (i := 1358) rfl, tb_in (i := 1357) rfl, tb_in (i := 14) rfl, fun _ => List.mem_of_getElem? (i := 48) rfl, fun h => absurd h (by decide)⟩
set_option maxRecDepth 100000 in
theorem mw_185 : MOK 185 := ⟨tb_in (i := 1354) rfl, tb_in (i := 1352) rfl, tb_in (i := 14) rfl, fun _ => List.mem_of_getElem? (i := 1447) rfl, fun h => absurd h (by decide)⟩
set_option maxRecDepth 100000 in
theorem mw_186 : MOK 186 := ⟨tb_in (i := 1362) rfl, tb_in (i := 1360) rfl, tb_in (i := 14) rfl, fun _ => List.mem_of_getElem? (i := 1455) rfl, fun h => absurd h (by decide)⟩
set_option maxRecDepth 100000 in
theorem mw_187 : MOK 187 := ⟨tb_in (i := 1373) rfl, tb_in (i := 1372) rfl, tb_in (i := 14) rfl, fun h => absurd h (by decide), fun h => absurd h (by decide)⟩
set_option maxRecDepth 100000 in
theorem mw_188 : MOK 188 := ⟨tb_in (i := 1377) rfl, tb_in (i := 1376) rfl, tb_in (i := 14) rfl, fun h => absurd h (by decide), fun h => absurd h (by decide)⟩
set_option maxRecDepth 100000 in
theorem mw_189 : MOK 189 := ⟨tb_in (i := 1370) rfl, tb_in (i := 1369) rfl, tb_in (i := 14) rfl, fun _ => List.mem_of_getElem? (i := 49) rfl, fun h => absurd h (by decide)⟩
set_option maxRecDepth 100000 in
theorem mw_190 : MOK 190 := ⟨tb_in (i := 1432) rfl, tb_in (i := 1431) rfl, tb_in (i := 14) rfl, fun _ => List.mem_of_getElem? (i := 59) rfl, fun h => absurd h (by decide)⟩
set_option maxRecDepth 100000 in
theorem mw_191 : MOK 191 := ⟨tb_in (i := 1400) rfl, tb_in (i := 1399) rfl, tb_in (i := 14) rfl, fun _ => List.mem_of_getElem? (i := 51) rfl, fun h => absurd h (by decide)⟩
set_option maxRecDepth 100000 in
theorem mw_192 : MOK 192 := ⟨tb_in (i := 1408) rfl, tb_in (i := 1407) rfl, tb_in (i := 14) rfl, fun _ => List.mem_of_getElem? (i := 53) rfl, fun h => absurd h (by decide)⟩
set_option maxRecDepth 100000 in
theorem mw_193 : MOK 193 := ⟨tb_in (i := 1420) rfl, tb_in (i := 1419) rfl, tb_in (i := 14) rfl, fun _ => List.mem_of_getElem? (i := 56) rfl, fun h => absurd h (by decide)⟩
set_option maxRecDepth 100000 in
theorem mw_194 : MOK 194 := ⟨tb_in (i := 1412) rfl, tb_in (i := 1411) rfl, tb_in (i := 14) rfl, fun _ => List.mem_of_getElem? (i := 54) rfl, fun h => absurd h (by decide)⟩
set_option maxRecDepth 100000 in
theorem mw_195 : MOK 195 := ⟨tb_in (i := 1428) rfl, tb_in (i := 1427) rfl, tb_in (i := 14) rfl, fun _ => List.mem_of_getElem? (i := 58) rfl, fun h => absurd h (by decide)⟩
set_option maxRecDepth 100000 in
theorem mw_196 : MOK 196 := ⟨tb_in (i := 1404) rfl, tb_in (i := 1403) rfl, tb_in (i := 14) rfl, fun _ => List.mem_of_getElem? (i := 52) rfl, fun h => absurd h (by decide)⟩
set_option maxRecDepth 100000 in
theorem mw_197 : MOK 197 := ⟨tb_in (i := 1443) rfl, tb_in (i := 1442) rfl, tb_in (i := 14) rfl, fun h => absurd h (by decide), fun h => absurd h (by decide)⟩
set_option maxRecDepth 100000 in
theorem mw_198 : MOK 198 := ⟨tb_in (i := 1447) rfl, tb_in (i := 1446) rfl, tb_in (i := 14) rfl, fun _ => List.mem_of_getElem? (i := 62) rfl, fun h => absurd h (by decide)⟩
set_option maxRecDepth 100000 in
theorem mw_199 : MOK 199 := ⟨tb_in (i := 1440) rfl, tb_in (i := 1439) rfl, tb_in (i := 14) rfl, fun _ => List.mem_of_getElem? (i := 61) rfl, fun h => absurd h (by decide)⟩
set_option maxRecDepth 100000 in
theorem mw_200 : MOK 200 := ⟨tb_in (i := 1396) rfl, tb_in (i := 1395) rfl, tb_in (i := 14) rfl, fun _ => List.mem_of_getElem? (i := 50) rfl, fun h => absurd h (by decide)⟩
set_option maxRecDepth 100000 in
theorem mw_201 : MOK 201 := ⟨tb_in (i := 1416) rfl, tb_in (i := 1415) rfl, tb_in (i := 14) rfl, fun _ => List.mem_of_getElem? (i := 55) rfl, fun h => absurd h (by decide)⟩
set_option maxRecDepth 100000 in
theorem mw_202 : MOK 202 := ⟨tb_in (i := 1424) rfl, tb_in (i := 1423) rfl, tb_in (i := 14) rfl, fun _ => List.mem_of_getElem? (i := 57) rfl, fun h => absurd h (by decide)⟩
set_option maxRecDepth 100000 in
theorem mw_203 : MOK 203 := ⟨tb_in (i := 1454) rfl, tb_in (i := 1453) rfl, tb_in (i := 14) rfl, fun _ => List.mem_of_getElem? (i := 63) rfl, fun h => absurd h (by decide)⟩
set_option maxRecDepth 100000 in
theorem mw_204 : MOK 204 := ⟨tb_in (i := 1450) rfl, tb_in (i := 1449) rfl, tb_in (i := 14) rfl, fun h => absurd h (by decide), fun h => absurd h (by decide)⟩
set_option maxRecDepth 100000 in
theorem mw_205 : MOK 205 := ⟨tb_in (i := 1436) rfl, tb_in (i := 1435) rfl, tb_in (i := 14) rfl, fun _ => List.mem_of_getElem? (i := 60) rfl, fun h => absurd h (by decide)⟩
set_option maxRecDepth 100000 in
theorem mw_206 : MOK 206 := ⟨tb_in (i := 1462) rfl, tb_in (i := 1461) rfl, tb_in (i := 14) rfl, fun _ => List.mem_of_getElem? (i := 65) rfl, fun h => absurd h (by decide)⟩
set_option maxRecDepth 100000 in
theorem mw_207 : MOK 207 := ⟨tb_in (i := 1458) rfl, tb_in (i := 1457) rfl, tb_in (i := 14) rfl, fun _ => List.mem_of_getElem? (i := 64) rfl, fun h => absurd h (by decide)⟩
set_option maxRecDepth 100000 in
theorem mw_208 : MOK 208 := ⟨tb_in (i := 1470) rfl, tb_in (i := 1469) rfl, tb_in (i := 14) rfl, fun _ => List.mem_of_getElem? (i := 67) rfl, fun h => absurd h (by decide)⟩
set_option maxRecDepth 100000 in
theorem mw_209 : MOK 209 := ⟨tb_in (i := 1466) rfl, tb_in (i := 1465) rfl, tb_in (i := 14) rfl, fun _ => List.mem_of_getElem? (i := 66) rfl, fun h => absurd h (by decide)⟩
set_option maxRecDepth 100000 in
theorem mw_210 : MOK 210 := ⟨tb_in (i := 1366) rfl, tb_in (i := 1364) rfl, tb_in (i := 14) rfl, fun _ => List.mem_of_getElem? (i := 1459) rfl, fun h => absurd h (by decide)⟩
set_option maxRecDepth 100000 in
theorem mw_211 : MOK 211 := ⟨tb_in (i := 1474) rfl, tb_in (i := 1473) rfl, tb_in (i := 14) rfl, fun _ => List.mem_of_getElem? (i := 68) rfl, fun h => absurd h (by decide)⟩
set_option maxRecDepth 100000 in
theorem mw_212 : MOK 212 := ⟨tb_in (i := 1478) rfl, tb_in (i := 1476) rfl, tb_in (i := 14) rfl, fun _ => List.mem_of_getElem? (i := 1571) rfl, fun h => absurd h (by decide)⟩
set_option maxRecDepth 100000 in
theorem mw_213 : MOK 213 := ⟨tb_in (i := 1340) rfl, tb_in (i := 1339) rfl, tb_in (i := 14) rfl, fun h => absurd h (by decide), fun h => absurd h (by decide)⟩
set_option maxRecDepth 100000 in
theorem mw_214 : MOK 214 := ⟨tb_in (i := 1337) rfl, tb_in (i := 1336) rfl, tb_in (i := 14) rfl, fun h => absurd h (by decide), fun h => absurd h (by decide)⟩
set_option maxRecDepth 100000 in
theorem mw_215 : MOK 215 := ⟨tb_in (i := 1334) rfl, tb_in (i := 1333) rfl, tb_in (i := 14) rfl, fun _ => List.mem_of_getElem? (i := 46) rfl, fun h => absurd h (by decide)⟩
set_option maxRecDepth 100000 in
theorem mw_216 : MOK 216 := ⟨tb_in (i := 1486) rfl, tb_in (i := 1485) rfl, tb_in (i := 14) rfl, fun _ => List.mem_of_getElem? (i := 69) rfl, fun h => absurd h (by decide)⟩
set_option maxRecDepth 100000 in
theorem mw_217 : MOK 217 := ⟨tb_in (i := 1482) rfl, tb_in (i := 1480) rfl, tb_in (i := 14) rfl, fun _ => List.mem_of_getElem? (i := 1575) rfl, fun h => absurd h (by decide)⟩
set_option maxRecDepth 100000 in
theorem mw_218 : MOK 218 := ⟨tb_in (i := 1330) rfl, tb_in (i := 1329) rfl, tb_in (i := 14) rfl, fun _ => List.mem_of_getElem? (i := 45) rfl, fun h => absurd h (by decide)⟩
set_option maxRecDepth 100000 in
theorem mw_219 : MOK 219 := ⟨tb_in (i := 1502) rfl, tb_in (i := 1501) rfl, tb_in (i := 14) rfl, fun _ => List.mem_of_getElem? (i := 72) rfl, fun h => absurd h (by decide)⟩
set_option maxRecDepth 100000 in
theorem mw_220 : MOK 220 := ⟨tb_in (i := 1326) rfl, tb_in (i := 1325) rfl, tb_in (i := 14) rfl, fun _ => List.mem_of_getElem? (i := 44) rfl, fun h => absurd h (by decide)⟩
set_option maxRecDepth 100000 in
theorem mw_221 : MOK 221 := ⟨tb_in (i := 1322) rfl, tb_in (i := 1321) rfl, tb_in (i := 14) rfl, fun _ => List.mem_of_getElem? (i := 43) rfl, fun h => absurd h (by decide)⟩
set_option maxRecDepth 100000 in
theorem mw_222 : MOK 222 := ⟨tb_in (i := 1498) rfl, tb_in (i := 1497) rfl, tb_in (i := 14) rfl, fun _ => List.mem_of_getElem? (i := 71) rfl, fun h => absurd h (by decide)⟩
set_option maxRecDepth 100000 in
theorem mw_223 : MOK 223 := ⟨tb_in (i := 1506) rfl, tb_in (i := 1505) rfl, tb_in (i := 14) rfl, fun _ => List.mem_of_getElem? (i := 73) rfl, fun h => absurd h (by decide)⟩
set_option maxRecDepth 100000 in
theorem mw_224 : MOK 224 := ⟨tb_in (i := 1514) rfl, tb_in (i := 1513) rfl, tb_in (i := 14) rfl, fun _ => List.mem_of_getElem? (i := 75) rfl, fun h => absurd h (by decide)⟩
set_option maxRecDepth 100000 in
theorem mw_225 : MOK 225 := ⟨tb_in (i := 1522) rfl, tb_in (i := 1521) rfl, tb_in (i := 14) rfl, fun _ => List.mem_of_getElem? (i := 77) rfl, fun h => absurd h (by decide)⟩
set_option maxRecDepth 100000 in
theorem mw_226 : MOK 226 := ⟨tb_in (i := 1510) rfl, tb_in (i := 1509) rfl, tb_in (i := 14) rfl, fun _ => List.mem_of_getElem? (i := 74) rfl, fun h => absurd h (by decide)⟩
set_option maxRecDepth 100000 in
theorem mw_227 : MOK 227 := ⟨tb_in (i := 1494) rfl, tb_in (i := 1493) rfl, tb_in (i := 14) rfl, fun _ => List.mem_of_getElem? (i := 70) rfl, fun h => absurd h (by decide)⟩
set_option maxRecDepth 100000 in
theorem mw_228 : MOK 228 := ⟨tb_in (i := 1518) rfl, tb_in (i := 1517) rfl, tb_in (i := 14) rfl, fun _ => List.mem_of_getElem? (i := 76) rfl, fun h => absurd h (by decide)⟩
set_option maxRecDepth 100000 in
theorem mw_229 : MOK 229 := ⟨tb_in (i := 1490) rfl, tb_in (i := 1488) rfl, tb_in (i := 14) rfl, fun _ => List.mem_of_getElem? (i := 1583) rfl, fun h => absurd h (by decide)⟩
set_option maxRecDepth 100000 in
theorem mw_230 : MOK 230 := ⟨tb_in (i := 1530) rfl, tb_in (i := 1528) rfl, tb_in (i := 14) rfl, fun _ => List.mem_of_getElem? (i := 1623) rfl, fun h => absurd h (by decide)⟩
set_option maxRecDepth 100000 in
theorem mw_231 : MOK 231 := ⟨tb_in (i := 1543) rfl, tb_in (i := 1542) rfl, tb_in (i := 14) rfl, fun _ => List.mem_of_getElem? (i := 80) rfl, fun h => absurd h (by decide)⟩
set_option maxRecDepth 100000 in
theorem mw_232 : MOK 232 := ⟨tb_in (i := 1539) rfl, tb_in (i := 1537) rfl, tb_in (i := 14) rfl, fun _ => List.mem_of_getElem? (i := 1632) rfl, fun h => absurd h (by decide)⟩
set_option maxRecDepth 100000 in
theorem mw_233 : MOK 233 := ⟨tb_in (i := 1559) rfl, tb_in (i := 1558) rfl, tb_in (i := 14) rfl, fun _ => List.mem_of_getElem? (i := 83) rfl, fun h => absurd h (by decide)⟩
set_option maxRecDepth 100000 in
theorem mw_234 : MOK 234 := ⟨tb_in (i := 1551) rfl, tb_in (i := 1550) rfl, tb_in (i := 14) rfl, fun _ => List.mem_of_getElem? (i := 81) rfl, fun h => absurd h (by decide)⟩
set_option maxRecDepth 100000 in
theorem mw_235 : MOK 235 := ⟨tb_in (i := 1555) rfl, tb_in (i := 1554) rfl, tb_in (i := 14) rfl, fun _ => List.mem_of_getElem? (i := 82) rfl, fun h => absurd h (by decide)⟩
set_option maxRecDepth 100000 in
theorem mw_236 : MOK 236 := ⟨tb_in (i := 1547) rfl, tb_in (i := 1545) rfl, tb_in (i := 14) rfl, fun _ => List.mem_of_getElem? (i := 1640) rfl, fun h => absurd h (by decide)⟩
set_option maxRecDepth 100000 in
theorem mw_237 : MOK 237 := ⟨tb_in (i := 1563) rfl, tb_in (i := 1561) rfl, tb_in (i := 14) rfl, fun _ => List.mem_of_getElem? (i := 1656) rfl, fun h => absurd h (by decide)⟩
set_option maxRecDepth 100000 in
theorem mw_238 : MOK 238 := ⟨tb_in (i := 1568) rfl, tb_in (i := 1566) rfl, tb_in (i := 14) rfl, fun _ => List.mem_of_getElem? (i := 1661) rfl, fun h => absurd h (by decide)⟩
set_option maxRecDepth 100000 in
theorem mw_239 : MOK 239 := ⟨tb_in (i := 1576) rfl, tb_in (i := 1575) rfl, tb_in (i := 14) rfl, fun _ => List.mem_of_getElem? (i := 84) rfl, fun h => absurd h (by decide)⟩
set_option maxRecDepth 100000 in
theorem mw_240 : MOK 240 := ⟨tb_in (i := 1572) rfl, tb_in (i := 1570) rfl, tb_in (i := 14) rfl, fun _ => List.mem_of_getElem? (i := 1665) rfl, fun h => absurd h (by decide)⟩
set_option maxRecDepth 100000 in
theorem mw_241 : MOK 241 := ⟨tb_in (i := 1584) rfl, tb_in (i := 1583) rfl, tb_in (i := 14) rfl, fun _ => List.mem_of_getElem? (i := 85) rfl, fun h => absurd h (by decide)⟩
set_option maxRecDepth 100000 in
theorem mw_242 : MOK 242 := ⟨tb_in (i := 1580) rfl, tb_in (i := 1578) rfl, tb_in (i := 14) rfl, fun _ => List.mem_of_getElem? (i := 1673) rfl, fun h => absurd h (by decide)⟩
set_option maxRecDepth 100000 in
theorem mw_243 : MOK 243 := ⟨tb_in (i := 1592) rfl, tb_in (i := 1591) rfl, tb_in (i := 14) rfl, fun _ => List.mem_of_getElem? (i := 86) rfl, fun h => absurd h (by decide)⟩
set_option maxRecDepth 100000 in
theorem mw_244 : MOK 244 := ⟨tb_in (i := 1588) rfl, tb_in (i := 1586) rfl, tb_in (i := 14) rfl, fun _ => List.mem_of_getElem? (i := 1681) rfl, fun h => absurd h (by decide)⟩
set_option maxRecDepth 100000 in
theorem mw_245 : MOK 245 := ⟨tb_in (i := 1596) rfl, tb_in (i := 1594) rfl, tb_in (i := 14) rfl, fun _ => List.mem_of_getElem? (i := 1689) rfl, fun h => absurd h (by decide)⟩
set_option maxRecDepth 100000 in
theorem mw_246 : MOK 246 := ⟨tb_in (i := 1608) rfl, tb_in (i := 1607) rfl, tb_in (i := 14) rfl, fun _ => List.mem_of_getElem? (i := 88) rfl, fun h => absurd h (by decide)⟩
set_option maxRecDepth 100000 in
theorem mw_247 : MOK 247 := ⟨tb_in (i := 1604) rfl, tb_in (i := 1603) rfl, tb_in (i := 14) rfl, fun _ => List.mem_of_getElem? (i := 87) rfl, fun h => absurd h (by decide)⟩
set_option maxRecDepth 100000 in
theorem mw_248 : MOK 248 := ⟨tb_in (i := 1612) rfl, tb_in (i := 1611) rfl, tb_in (i := 14) rfl, fun _ => List.mem_of_getElem? (i := 89) rfl, fun h => absurd h (by decide)⟩
set_option maxRecDepth 100000 in
theorem mw_249 : MOK 249 := ⟨tb_in (i := 1600) rfl, tb_in (i := 1598) rfl, tb_in (i := 14) rfl, fun _ => List.mem_of_getElem? (i := 1693) rfl, fun h => absurd h (by decide)⟩
set_option maxRecDepth 100000 in
theorem mw_250 : MOK 250 := ⟨tb_in (i := 1616) rfl, tb_in (i := 1614) rfl, tb_in (i := 14) rfl, fun _ => List.mem_of_getElem? (i := 1709) rfl, fun h => absurd h (by decide)⟩
set_option maxRecDepth 100000 in
theorem mw_251 : MOK 251 := ⟨tb_in (i := 1621) rfl, tb_in (i := 1619) rfl, tb_in (i := 14) rfl, fun _ => List.mem_of_getElem? (i := 1714) rfl, fun h => absurd h (by decide)⟩
set_option maxRecDepth 100000 in
theorem mw_252 : MOK 252 := ⟨tb_in (i := 1625) rfl, tb_in (i := 1623) rfl, tb_in (i := 14) rfl, fun _ => List.mem_of_getElem? (i := 1718) rfl, fun h => absurd h (by decide)⟩
set_option maxRecDepth 100000 in
theorem mw_253 : MOK 253 := ⟨tb_in (i := 1629) rfl, tb_in (i := 1627) rfl, tb_in (i := 14) rfl, fun _ => List.mem_of_getElem? (i := 1722) rfl, fun h => absurd h (by decide)⟩
set_option maxRecDepth 100000 in
theorem mw_254 : MOK 254 := ⟨tb_in (i := 1633) rfl, tb_in (i := 1631) rfl, tb_in (i := 14) rfl, fun _ => List.mem_of_getElem? (i := 1726) rfl, fun h => absurd h (by decide)⟩
set_option maxRecDepth 100000 in
theorem mw_255 : MOK 255 := ⟨tb_in (i := 1646) rfl, tb_in (i := 1645) rfl, tb_in (i := 14) rfl, fun _ => List.mem_of_getElem? (i := 91) rfl, fun h => absurd h (by decide)⟩
set_option maxRecDepth 100000 in
theorem mw_256 : MOK 256 := ⟨tb_in (i := 1642) rfl, tb_in (i := 1641) rfl, tb_in (i := 14) rfl, fun _ => List.mem_of_getElem? (i := 90) rfl, fun h => absurd h (by decide)⟩
set_option maxRecDepth 100000 in
theorem mw_257 : MOK 257 := ⟨tb_in (i := 1638) rfl, tb_in (i := 1636) rfl, tb_in (i := 14) rfl, fun _ => List.mem_of_getElem? (i := 1731) rfl, fun h => absurd h (by decide)⟩
set_option maxRecDepth 100000 in
theorem mw_258 : MOK 258 := ⟨tb_in (i := 1654) rfl, tb_in (i := 1653) rfl, tb_in (i := 14) rfl, fun _ => List.mem_of_getElem? (i := 92) rfl, fun h => absurd h (by decide)⟩
set_option maxRecDepth 100000 in
theorem mw_259 : MOK 259 := ⟨tb_in (i := 1650) rfl, tb_in (i := 1648) rfl, tb_in (i := 14) rfl, fun _ => List.mem_of_getElem? (i := 1743) rfl, fun h => absurd h (by decide)⟩
set_option maxRecDepth 100000 in
theorem mw_260 : MOK 260 := ⟨tb_in (i := 1662) rfl, tb_in (i := 1661) rfl, tb_in (i := 14) rfl, fun _ => List.mem_of_getElem? (i := 93) rfl, fun h => absurd h (by decide)⟩
set_option maxRecDepth 100000 in
theorem mw_261 : MOK 261 := ⟨tb_in (i := 1658) rfl, tb_in (i := 1656) rfl, tb_in (i := 14) rfl, fun _ => List.mem_of_getElem? (i := 1751) rfl, fun h => absurd h (by decide)⟩
set_option maxRecDepth 100000 in
theorem mw_262 : MOK 262 := ⟨tb_in (i := 1666) rfl, tb_in (i := 1664) rfl, tb_in (i := 14) rfl, fun _ => List.mem_of_getElem? (i := 1759) rfl, fun h => absurd h (by decide)⟩
set_option maxRecDepth 100000 in
theorem mw_263 : MOK 263 := ⟨tb_in (i := 1670) rfl, tb_in (i := 1668) rfl, tb_in (i := 14) rfl, fun _ => List.mem_of_getElem? (i := 1763) rfl, fun h => absurd h (by decide)⟩
set_option maxRecDepth 100000 in
theorem mw_264 : MOK 264 := ⟨tb_in (i := 1674) rfl, tb_in (i := 1672) rfl, tb_in (i := 14) rfl, fun _ => List.mem_of_getElem? (i := 1767) rfl, fun h => absurd h (by decide)⟩
set_option maxRecDepth 100000 in
theorem mw_265 : MOK 265 := ⟨tb_in (i := 788) rfl, tb_in (i := 786) rfl, tb_in (i := 11) rfl, fun _ => List.mem_of_getElem? (i := 881) rfl, fun h => absurd h (by decide)⟩
set_option maxRecDepth 100000 in
theorem mw_266 : MOK 266 := ⟨tb_in (i := 825) rfl, tb_in (i := 824) rfl, tb_in (i := 11) rfl, fun _ => List.mem_of_getElem? (i := 21) rfl, fun h => absurd h (by decide)⟩
set_option maxRecDepth 100000 in
theorem mw_267 : MOK 267 := ⟨tb_in (i := 829) rfl, tb_in (i := 828) rfl, tb_in (i := 11) rfl, fun _ => List.mem_of_getElem? (i := 22) rfl, fun h => absurd h (by decide)⟩
set_option maxRecDepth 100000 in
theorem mw_268 : MOK 268 := ⟨tb_in (i := 487) rfl, tb_in (i := 486) rfl, tb_in (i := 6) rfl, fun h => absurd h (by decide), fun h => absurd h (by decide)⟩
set_option maxRecDepth 100000 in
theorem mw_269 : MOK 269 := ⟨tb_in (i := 850) rfl, tb_in (i := 849) rfl, tb_in (i := 6) rfl, fun h => absurd h (by decide), fun h => absurd h (by decide)⟩
theorem mo_0 : ∀ y ∈ [1, 2, 3, 4, 5, 6, 7, 8, 9, 10, 11, 12, 13, 14, 15, 16, 17, 18, 19, 20], MOK y := List.forall_mem_cons.mpr ⟨mw_1, List.forall_mem_cons.mpr ⟨mw_2, List.forall_mem_cons.mpr ⟨mw_3, List.forall_mem_cons.mpr ⟨mw_4, List.forall_mem_cons.mpr ⟨mw_5, List.forall_mem_cons.mpr ⟨mw_6, List.forall_mem_cons.mpr ⟨mw_7, List.forall_mem_cons.mpr ⟨mw_8, List.forall_mem_cons.mpr ⟨mw_9, List.forall_mem_cons.mpr ⟨mw_10, List.forall_mem_cons.mpr ⟨mw_11, List.forall_mem_cons.mpr ⟨mw_12, List.forall_mem_cons.mpr ⟨mw_13, List.forall_mem_cons.mpr ⟨mw_14, List.forall_mem_cons.mpr ⟨mw_15, List.forall_mem_cons.mpr ⟨mw_16, List.forall_mem_cons.mpr ⟨mw_17, List.forall_mem_cons.mpr ⟨mw_18, List.forall_mem_cons.mpr ⟨mw_19, List.forall_mem_cons.mpr ⟨mw_20, fun _ h => absurd h List.not_mem_nil⟩⟩⟩⟩⟩⟩⟩⟩⟩⟩⟩⟩⟩⟩⟩⟩⟩⟩⟩⟩
theorem mo_1 : ∀ y ∈ [21, 22, 23, 24, 25, 26, 27, 28, 29, 30, 31, 32, 33, 34, 35, 36, 37, 38, 39, 40], MOK y := List.forall_mem_cons.mpr ⟨mw_21, List.forall_mem_cons.mpr ⟨mw_22, List.forall_mem_cons.mpr ⟨mw_23, List.forall_mem_cons.mpr ⟨mw_24, List.forall_mem_cons.mpr ⟨mw_25, List.forall_mem_cons.mpr ⟨mw_26, List.forall_mem_cons.mpr ⟨mw_27, List.forall_mem_cons.mpr ⟨mw_28, List.forall_mem_cons.mpr ⟨mw_29, List.forall_mem_cons.mpr ⟨mw_30, List.forall_mem_cons.mpr ⟨mw_31, List.forall_mem_cons.mpr ⟨mw_32, List.forall_mem_cons.mpr ⟨mw_33, List.forall_mem_cons.mpr ⟨mw_34, List.forall_mem_cons.mpr ⟨mw_35, List.forall_mem_cons.mpr ⟨mw_36, List.forall_mem_cons.mpr ⟨mw_37, List.forall_mem_cons.mpr ⟨mw_38, List.forall_mem_cons.mpr ⟨mw_39, List.forall_mem_cons.mpr ⟨mw_40, fun _ h => absurd h List.not_mem_nil⟩⟩⟩⟩⟩⟩⟩⟩⟩⟩⟩⟩⟩⟩⟩⟩⟩⟩⟩⟩
theorem mo_2 : ∀ y ∈ [41, 42, 43, 44, 45, 46, 47, 48, 49, 50, 51, 52, 53, 54, 55, 56, 57, 58, 59, 60], MOK y := List.forall_mem_cons.mpr ⟨mw_41, List.forall_mem_cons.mpr ⟨mw_42, List.forall_mem_cons.mpr ⟨mw_43, List.forall_mem_cons.mpr ⟨mw_44, List.forall_mem_cons.mpr ⟨mw_45, List.forall_mem_cons.mpr ⟨mw_46, List.forall_mem_cons.mpr ⟨mw_47, List.forall_mem_cons.mpr ⟨mw_48, List.forall_mem_cons.mpr ⟨mw_49, List.forall_mem_cons.mpr ⟨mw_50, List.forall_mem_cons.mpr ⟨mw_51, List.forall_mem_cons.mpr ⟨mw_52, List.forall_mem_cons.mpr ⟨mw_53, List.forall_mem_cons.mpr ⟨mw_54, List.forall_mem_cons.mpr ⟨mw_55, List.forall_mem_cons.mpr ⟨mw_56, List.forall_mem_cons.mpr ⟨mw_57, List.forall_mem_cons.mpr ⟨mw_58, List.forall_mem_cons.mpr ⟨mw_59, List.forall_mem_cons.mpr ⟨mw_60, fun _ h => absurd h List.not_mem_nil⟩⟩⟩⟩⟩⟩⟩⟩⟩⟩⟩⟩⟩⟩⟩⟩⟩⟩⟩⟩
theorem mo_3 : ∀ y ∈ [61, 62, 63, 64, 65, 66, 67, 68, 69, 70, 71, 72, 73, 74, 75, 76, 77, 78, 79, 80], MOK y := List.forall_mem_cons.mpr ⟨mw_61, List.forall_mem_cons.mpr ⟨mw_62, List.forall_mem_cons.mpr ⟨mw_63, List.forall_mem_cons.mpr ⟨mw_64, List.forall_mem_cons.mpr ⟨mw_65, List.forall_mem_cons.mpr ⟨mw_66, List.forall_mem_cons.mpr ⟨mw_67, List.forall_mem_cons.mpr ⟨mw_68, List.forall_mem_cons.mpr ⟨mw_69, List.forall_mem_cons.mpr ⟨mw_70, List.forall_mem_cons.mpr ⟨mw_71, List.forall_mem_cons.mpr ⟨mw_72, List.forall_mem_cons.mpr ⟨mw_73, List.forall_mem_cons.mpr ⟨mw_74, List.forall_mem_cons.mpr ⟨mw_75, List.forall_mem_cons.mpr ⟨mw_76, List.forall_mem_cons.mpr ⟨mw_77, List.forall_mem_cons.mpr ⟨mw_78, List.forall_mem_cons.mpr ⟨mw_79, List.forall_mem_cons.mpr ⟨mw_80, fun _ h => absurd h List.not_mem_nil⟩⟩⟩⟩⟩⟩⟩⟩⟩⟩⟩⟩⟩⟩⟩⟩⟩⟩⟩⟩
theorem mo_4 : ∀ y ∈ [81, 82, 83, 84, 85, 86, 87, 88, 89, 90, 91, 92, 93, 94, 95, 96, 97, 98, 99, 100], MOK y := List.forall_mem_cons.mpr ⟨mw_81, List.forall_mem_cons.mpr ⟨mw_82, List.forall_mem_cons.mpr ⟨mw_83, List.forall_mem_cons.mpr ⟨mw_84, List.forall_mem_cons.mpr ⟨mw_85, List.forall_mem_cons.mpr ⟨mw_86, List.forall_mem_cons.mpr ⟨mw_87, List.forall_mem_cons.mpr ⟨mw_88, List.forall_mem_cons.mpr ⟨mw_89, List.forall_mem_cons.mpr ⟨mw_90, List.forall_mem_cons.mpr ⟨mw_91, List.forall_mem_cons.mpr ⟨mw_92, List.forall_mem_cons.mpr ⟨mw_93, List.forall_mem_cons.mpr ⟨mw_94, List.forall_mem_cons.mpr ⟨mw_95, List.forall_mem_cons.mpr ⟨mw_96, List.forall_mem_cons.mpr ⟨mw_97, List.forall_mem_cons.mpr ⟨mw_98, List.forall_mem_cons.mpr ⟨mw_99, List.forall_mem_cons.mpr ⟨mw_100, fun _ h => absurd h List.not_mem_nil⟩⟩⟩⟩⟩⟩⟩⟩⟩⟩⟩⟩⟩⟩⟩⟩⟩⟩⟩⟩
theorem mo_5 : ∀ y ∈ [101, 102, 103, 104, 105, 106, 107, 108, 109, 110, 111, 112, 113, 114, 115, 116, 117, 118, 119, 120], MOK y := List.forall_mem_cons.mpr ⟨mw_101, List.forall_mem_cons.mpr ⟨mw_102, List.forall_mem_cons.mpr ⟨mw_103, List.forall_mem_cons.mpr ⟨mw_104, List.forall_mem_cons.mpr ⟨mw_105, List.forall_mem_cons.mpr ⟨mw_106, List.forall_mem_cons.mpr ⟨mw_107, List.forall_mem_cons.mpr ⟨mw_108, List.forall_mem_cons.mpr ⟨mw_109, List.forall_mem_cons.mpr ⟨mw_110, List.forall_mem_cons.mpr ⟨mw_111, List.forall_mem_cons.mpr ⟨mw_112, List.forall_mem_cons.mpr ⟨mw_113, List.forall_mem_cons.mpr ⟨mw_114, List.forall_mem_cons.mpr ⟨mw_115, List.forall_mem_cons.mpr ⟨mw_116, List.forall_mem_cons.mpr ⟨mw_117, List.forall_mem_cons.mpr ⟨mw_118, List.forall_mem_cons.mpr ⟨mw_119, List.forall_mem_cons.mpr ⟨mw_120, fun _ h => absurd h List.not_mem_nil⟩⟩⟩⟩⟩⟩⟩⟩⟩⟩⟩⟩⟩⟩⟩⟩⟩⟩⟩⟩
theorem mo_6 : ∀ y ∈ [121, 122, 123, 124, 125, 126, 127, 128, 129, 130, 131, 132, 133, 134, 135, 136, 137, 138, 139, 140], MOK y := List.forall_mem_cons.mpr ⟨mw_121, List.forall_mem_cons.mpr ⟨mw_122, List.forall_mem_cons.mpr ⟨mw_123, List.forall_mem_cons.mpr ⟨mw_124, List.forall_mem_cons.mpr ⟨mw_125, List.forall_mem_cons.mpr ⟨mw_126, List.forall_mem_cons.mpr ⟨mw_127, List.forall_mem_cons.mpr ⟨mw_128, List.forall_mem_cons.mpr ⟨mw_129, List.forall_mem_cons.mpr ⟨mw_130, List.forall_mem_cons.mpr ⟨mw_131, List.forall_mem_cons.mpr ⟨mw_132, List.forall_mem_cons.mpr ⟨mw_133, List.forall_mem_cons.mpr ⟨mw_134, List.forall_mem_cons.mpr ⟨mw_135, List.forall_mem_cons.mpr ⟨mw_136, List.forall_mem_cons.mpr ⟨mw_137, List.forall_mem_cons.mpr ⟨mw_138, List.forall_mem_cons.mpr ⟨mw_139, List.forall_mem_cons.mpr ⟨mw_140, fun _ h => absurd h List.not_mem_nil⟩⟩⟩⟩⟩⟩⟩⟩⟩⟩⟩⟩⟩⟩⟩⟩⟩⟩⟩⟩
theorem mo_7 : ∀ y ∈ [141, 142, 143, 144, 145, 146, 147, 148, 149, 150, 151, 152, 153, 154, 155, 156, 157, 158, 159, 160], MOK y := List.forall_mem_cons.mpr ⟨mw_141, List.forall_mem_cons.mpr ⟨mw_142, List.forall_mem_cons.mpr ⟨mw_143, List.forall_mem_cons.mpr ⟨mw_144, List.forall_mem_cons.mpr ⟨mw_145, List.forall_mem_cons.mpr ⟨mw_146, List.forall_mem_cons.mpr ⟨mw_147, List.forall_mem_cons.mpr ⟨mw_148, List.forall_mem_cons.mpr ⟨mw_149, List.forall_mem_cons.mpr ⟨mw_150, List.forall_mem_cons.mpr ⟨mw_151, List.forall_mem_cons.mpr ⟨mw_152, List.forall_mem_cons.mpr ⟨mw_153, List.forall_mem_cons.mpr ⟨mw_154, List.forall_mem_cons.mpr ⟨mw_155, List.forall_mem_cons.mpr ⟨mw_156, List.forall_mem_cons.mpr ⟨mw_157, List.forall_mem_cons.mpr ⟨mw_158, List.forall_mem_cons.mpr ⟨mw_159, List.forall_mem_cons.mpr ⟨mw_160, fun _ h => absurd h List.not_mem_nil⟩⟩⟩⟩⟩⟩⟩⟩⟩⟩⟩⟩⟩⟩⟩⟩⟩⟩⟩⟩
theorem mo_8 : ∀ y ∈ [161, 162, 163, 164, 165, 166, 167, 168, 169, 170, 171, 172, 173, 174, 175, 176, 177, 178, 179, 180], MOK y := List.forall_mem_cons.mpr ⟨mw_161, List.forall_mem_cons.mpr ⟨mw_162, List.forall_mem_cons.mpr ⟨mw_163, List.forall_mem_cons.mpr ⟨mw_164, List.forall_mem_cons.mpr ⟨mw_165, List.forall_mem_cons.mpr ⟨mw_166, List.forall_mem_cons.mpr ⟨mw_167, List.forall_mem_cons.mpr ⟨mw_168, List.forall_mem_cons.mpr ⟨mw_169, List.forall_mem_cons.mpr ⟨mw_170, List.forall_mem_cons.mpr ⟨mw_171, List.forall_mem_cons.mpr ⟨mw_172, List.forall_mem_cons.mpr ⟨mw_173, List.forall_mem_cons.mpr ⟨mw_174, List.forall_mem_cons.mpr ⟨mw_175, List.forall_mem_cons.mpr ⟨mw_176, List.forall_mem_cons.mpr ⟨mw_177, List.forall_mem_cons.mpr ⟨mw_178, List.forall_mem_cons.mpr ⟨mw_179, List.forall_mem_cons.mpr ⟨mw_180, fun _ h => absurd h List.not_mem_nil⟩⟩⟩⟩⟩⟩⟩⟩⟩⟩⟩⟩⟩⟩⟩⟩⟩⟩⟩⟩
theorem mo_9 : ∀ y ∈ [181, 182, 183, 184, 185, 186, 187, 188, 189, 190, 191, 192, 193, 194, 195, 196, 197, 198, 199, 200], MOK y := List.forall_mem_cons.mpr ⟨mw_181, List.forall_mem_cons.mpr ⟨mw_182, List.forall_mem_cons.mpr ⟨mw_183, List.forall_mem_cons.mpr ⟨mw_184, List.forall_mem_cons.mpr ⟨mw_185, List.forall_mem_cons.mpr ⟨mw_186, List.forall_mem_cons.mpr ⟨mw_187, List.forall_mem_cons.mpr ⟨mw_188, List.forall_mem_cons.mpr ⟨mw_189, List.forall_mem_cons.mpr ⟨mw_190, List.forall_mem_cons.mpr ⟨mw_191, List.forall_mem_cons.mpr ⟨mw_192, List.forall_mem_cons.mpr ⟨mw_193, List.forall_mem_cons.mpr ⟨mw_194, List.forall_mem_cons.mpr ⟨mw_195, List.forall_mem_cons.mpr ⟨mw_196, List.forall_mem_cons.mpr ⟨mw_197, List.forall_mem_cons.mpr ⟨mw_198, List.forall_mem_cons.mpr ⟨mw_199, List.forall_mem_cons.mpr ⟨mw_200, fun _ h => absurd h List.not_mem_nil⟩⟩⟩⟩⟩⟩⟩⟩⟩⟩⟩⟩⟩⟩⟩⟩⟩⟩⟩⟩
theorem mo_10 : ∀ y ∈ [201, 202, 203, 204, 205, 206, 207, 208, 209, 210, 211, 212, 213, 214, 215, 216, 217, 218, 219, 220], MOK y := List.forall_mem_cons.mpr ⟨mw_201, List.forall_mem_cons.mpr ⟨mw_202, List.forall_mem_cons.mpr ⟨mw_203, List.forall_mem_cons.mpr ⟨mw_204, List.forall_mem_cons.mpr ⟨mw_205, List.forall_mem_cons.mpr ⟨mw_206, List.forall_mem_cons.mpr ⟨mw_207, List.forall_mem_cons.mpr ⟨mw_208, List.forall_mem_cons.mpr ⟨mw_209, List.forall_mem_cons.mpr ⟨mw_210, List.forall_mem_cons.mpr ⟨mw_211, List.forall_mem_cons.mpr ⟨mw_212, List.forall_mem_cons.mpr ⟨mw_213, List.forall_mem_cons.mpr ⟨mw_214, List.forall_mem_cons.mpr ⟨mw_215, List.forall_mem_cons.mpr ⟨mw_216, List.forall_mem_cons.mpr ⟨mw_217, List.forall_mem_cons.mpr ⟨mw_218, List.forall_mem_cons.mpr ⟨mw_219, List.forall_mem_cons.mpr ⟨mw_220, fun _ h => absurd h List.not_mem_nil⟩⟩⟩⟩⟩⟩⟩⟩⟩⟩⟩⟩⟩⟩⟩⟩⟩⟩⟩⟩
theorem mo_11 : ∀ y ∈ [221, 222, 223, 224, 225, 226, 227, 228, 229, 230, 231, 232, 233, 234, 235, 236, 237, 238, 239, 240], MOK y := List.forall_mem_cons.mpr ⟨mw_221, List.forall_mem_cons.mpr ⟨mw_222, List.forall_mem_cons.mpr ⟨mw_223, List.forall_mem_cons.mpr ⟨mw_224, List.forall_mem_cons.mpr ⟨mw_225, List.forall_mem_cons.mpr ⟨mw_226, List.forall_mem_cons.mpr ⟨mw_227, List.forall_mem_cons.mpr ⟨mw_228, List.forall_mem_cons.mpr ⟨mw_229, List.forall_mem_cons.mpr ⟨mw_230, List.forall_mem_cons.mpr ⟨mw_231, List.forall_mem_cons.mpr ⟨mw_232, List.forall_mem_cons.mpr ⟨mw_233, List.forall_mem_cons.mpr ⟨mw_234, List.forall_mem_cons.mpr ⟨mw_235, List.forall_mem_cons.mpr ⟨mw_236, List.forall_mem_cons.mpr ⟨mw_237, List.forall_mem_cons.mpr ⟨mw_238, List.forall_mem_cons.mpr ⟨mw_239, List.forall_mem_cons.mpr ⟨mw_240, fun _ h => absurd h List.not_mem_nil⟩⟩⟩⟩⟩⟩⟩⟩⟩⟩⟩⟩⟩⟩⟩⟩⟩⟩⟩⟩
theorem mo_12 : ∀ y ∈ [241, 242, 243, 244, 245, 246, 247, 248, 249, 250, 251, 252, 253, 254, 255, 256, 257, 258, 259, 260], MOK y := List.forall_mem_cons.mpr ⟨mw_241, List.forall_mem_cons.mpr ⟨mw_242, List.forall_mem_cons.mpr ⟨mw_243, List.forall_mem_cons.mpr ⟨mw_244, List.forall_mem_cons.mpr ⟨mw_245, List.forall_mem_cons.mpr ⟨mw_246, List.forall_mem_cons.mpr ⟨mw_247, List.forall_mem_cons.mpr ⟨mw_248, List.forall_mem_cons.mpr ⟨mw_249, List.forall_mem_cons.mpr ⟨mw_250, List.forall_mem_cons.mpr ⟨mw_251, List.forall_mem_cons.mpr ⟨mw_252, List.forall_mem_cons.mpr ⟨mw_253, List.forall_mem_cons.mpr ⟨mw_254, List.forall_mem_cons.mpr ⟨mw_255, List.forall_mem_cons.mpr ⟨mw_256, List.forall_mem_cons.mpr ⟨mw_257, List.forall_mem_cons.mpr ⟨mw_258, List.forall_mem_cons.mpr ⟨mw_259, List.forall_mem_cons.mpr ⟨mw_260, fun _ h => absurd h List.not_mem_nil⟩⟩⟩⟩⟩⟩⟩⟩⟩⟩⟩⟩⟩⟩⟩⟩⟩⟩⟩⟩
theorem mo_13 : ∀ y ∈ [261, 262, 263, 264, 265, 266, 267, 268, 269], MOK y := List.forall_mem_cons.mpr ⟨mw_261, List.forall_mem_cons.mpr ⟨mw_262, List.forall_mem_cons.mpr ⟨mw_263, List.forall_mem_cons.mpr ⟨mw_264, List.forall_mem_cons.mpr ⟨mw_265, List.forall_mem_cons.mpr ⟨mw_266, List.forall_mem_cons.mpr ⟨mw_267, List.forall_mem_cons.mpr ⟨mw_268, List.forall_mem_cons.mpr ⟨mw_269, fun _ h => absurd h List.not_mem_nil⟩⟩⟩⟩⟩⟩⟩⟩⟩
theorem m_ok : ∀ y, 0 < y → y < 270 → MOK y := by
  intro y h0 h
  rcases Nat.lt_or_ge y 21 with q0 | q0
  · refine mo_0 y ?_
    have : y ∈ (List.range 20).map (fun k => k + 1) := List.mem_map.mpr ⟨y - 1, List.mem_range.mpr (by omega), by omega⟩
    exact this
  rcases Nat.lt_or_ge y 41 with q1 | q1
  · refine mo_1 y ?_
    have : y ∈ (List.range 20).map (fun k => k + 21) := List.mem_map.mpr ⟨y - 21, List.mem_range.mpr (by omega), by omega⟩
    exact this
  rcases Nat.lt_or_ge y 61 with q2 | q2
  · refine mo_2 y ?_
    have : y ∈ (List.range 20).map (fun k => k + 41) := List.mem_map.mpr ⟨y - 41, List.mem_range.mpr (by omega), by omega⟩
    exact this
  rcases Nat.lt_or_ge y 81 with q3 | q3
  · refine mo_3 y ?_
    have : y ∈ (List.range 20).map (fun k => k + 61) := List.mem_map.mpr ⟨y - 61, List.mem_range.mpr (by omega), by omega⟩
    exact this
  rcases Nat.lt_or_ge y 101 with q4 | q4
  · refine mo_4 y ?_
    have : y ∈ (List.range 20).map (fun k => k + 81) := List.mem_map.mpr ⟨y - 81, List.mem_range.mpr (by omega), by omega⟩
    exact this
  rcases Nat.lt_or_ge y 121 with q5 | q5
  · refine mo_5 y ?_
    have : y ∈ (List.range 20).map (fun k => k + 101) := List.mem_map.mpr ⟨y - 101, List.mem_range.mpr (by omega), by omega⟩
    exact this
  rcases Nat.lt_or_ge y 141 with q6 | q6
  · refine mo_6 y ?_
    have : y ∈ (List.range 20).map (fun k => k + 121) := List.mem_map.mpr ⟨y - 121, List.mem_range.mpr (by omega), by omega⟩
    exact this
  rcases Nat.lt_or_ge y 161 with q7 | q7
  · refine mo_7 y ?_
    have : y ∈ (List.range 20).map (fun k => k + 141) := List.mem_map.mpr ⟨y - 141, List.mem_range.mpr (by omega), by omega⟩
    exact this
  rcases Nat.lt_or_ge y 181 with q8 | q8
  · refine mo_8 y ?_
    have : y ∈ (List.range 20).map (fun k => k + 161) := List.mem_map.mpr ⟨y - 161, List.mem_range.mpr (by omega), by omega⟩
    exact this
  rcases Nat.lt_or_ge y 201 with q9 | q9
  · refine mo_9 y ?_
    have : y ∈ (List.range 20).map (fun k => k + 181) := List.mem_map.mpr ⟨y - 181, List.mem_range.mpr (by omega), by omega⟩
    exact this
  rcases Nat.lt_or_ge y 221 with q10 | q10
  · refine mo_10 y ?_
    have : y ∈ (List.range 20).map (fun k => k + 201) := List.mem_map.mpr ⟨y - 201, List.mem_range.mpr (by omega), by omega⟩
    exact this
  rcases Nat.lt_or_ge y 241 with q11 | q11
  · refine mo_11 y ?_
    have : y ∈ (List.range 20).map (fun k => k + 221) := List.mem_map.mpr ⟨y - 221, List.mem_range.mpr (by omega), by omega⟩
    exact this
  rcases Nat.lt_or_ge y 261 with q12 | q12
  · refine mo_12 y ?_
    have : y ∈ (List.range 20).map (fun k => k + 241) := List.mem_map.mpr ⟨y - 241, List.mem_range.mpr (by omega), by omega⟩
    exact this
  rcases Nat.lt_or_ge y 270 with q13 | q13
  · refine mo_13 y ?_
    have : y ∈ (List.range 9).map (fun k => k + 261) := List.mem_map.mpr ⟨y - 261, List.mem_range.mpr (by omega), by omega⟩
    exact this
  omega
