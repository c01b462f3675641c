/-! words, fields and methods of the law -/
theorem tw_576 : Cond.code ⟨"PromiseVatsModel", "<init>", "(I)V"⟩ prog_12_method_1_code 3 (Option.none : Option FieldType) ∈ tb_ := tb_in 644 (by decide +kernel) rfl
theorem tw_577 : Cond.methodLink "PromiseVatsLaw" 20 ⟨"PromiseVatsModel", "<init>", "(I)V"⟩ ∈ tb_ := tb_in 642 (by decide +kernel) rfl
theorem tw_578 : Cond.instanceMethod ⟨"PromiseVatsModel", "<init>", "(I)V"⟩ ∈ tb_ := tb_in 643 (by decide +kernel) rfl
theorem tw_579 : Cond.initialized "PromiseVatsLaw" ∈ tb_ := tb_in 0 (by decide +kernel) rfl
theorem tw_580 : Cond.code ⟨"PromiseVatsLaw", "cell", "([II)I"⟩ method_2_code 2 (Option.some FieldType.int) ∈ tb_ := tb_in 639 (by decide +kernel) rfl
theorem tw_581 : Cond.methodLink "PromiseVatsLaw" 9 ⟨"PromiseVatsLaw", "cell", "([II)I"⟩ ∈ tb_ := tb_in 637 (by decide +kernel) rfl
theorem tw_582 : Cond.static ⟨"PromiseVatsLaw", "cell", "([II)I"⟩ ∈ tb_ := tb_in 638 (by decide +kernel) rfl
theorem tw_583 : Cond.classLink "PromiseVatsLaw" 18 "PromiseVatsModel" ∈ tb_ := tb_in 640 (by decide +kernel) rfl
theorem tw_584 : Cond.instantiable "PromiseVatsModel" 36 ∈ tb_ := tb_in 641 (by decide +kernel) rfl
theorem tw_585 : Cond.code ⟨"PromiseVats", "<init>", "(I)V"⟩ prog_1_method_1_code 5 (Option.none : Option FieldType) ∈ tb_ := tb_in 25 (by decide +kernel) rfl
theorem tw_586 : Cond.methodLink "PromiseVatsLaw" 15 ⟨"PromiseVats", "<init>", "(I)V"⟩ ∈ tb_ := tb_in 23 (by decide +kernel) rfl
theorem tw_587 : Cond.instanceMethod ⟨"PromiseVats", "<init>", "(I)V"⟩ ∈ tb_ := tb_in 24 (by decide +kernel) rfl
theorem tw_588 : Cond.classLink "PromiseVatsLaw" 7 "PromiseVats" ∈ tb_ := tb_in 21 (by decide +kernel) rfl
theorem tw_589 : Cond.instantiable "PromiseVats" 10 ∈ tb_ := tb_in 22 (by decide +kernel) rfl
theorem tw_590 : Cond.code ⟨"PromiseVatsModel", "code", "(III)Z"⟩ prog_12_method_5_code 6 (Option.some FieldType.boolean) ∈ tb_ := tb_in 761 (by decide +kernel) rfl
theorem tw_591 : Cond.methodLink "PromiseVatsLaw" 25 ⟨"PromiseVatsModel", "code", "(III)Z"⟩ ∈ tb_ := tb_in 758 (by decide +kernel) rfl
theorem tw_592 : Cond.instanceMethod ⟨"PromiseVatsModel", "code", "(III)Z"⟩ ∈ tb_ := tb_in 759 (by decide +kernel) rfl
theorem tw_593 : Cond.selects "PromiseVatsModel" ⟨"PromiseVatsModel", "code", "(III)Z"⟩ ⟨"PromiseVatsModel", "code", "(III)Z"⟩ ∈ tb_ := tb_in 760 (by decide +kernel) rfl
theorem tw_594 : Cond.code ⟨"PromiseVats", "code", "(III)Z"⟩ prog_1_method_2_code 5 (Option.some FieldType.boolean) ∈ tb_ := tb_in 250 (by decide +kernel) rfl
theorem tw_595 : Cond.methodLink "PromiseVatsLaw" 21 ⟨"PromiseVats", "code", "(III)Z"⟩ ∈ tb_ := tb_in 247 (by decide +kernel) rfl
theorem tw_596 : Cond.instanceMethod ⟨"PromiseVats", "code", "(III)Z"⟩ ∈ tb_ := tb_in 248 (by decide +kernel) rfl
theorem tw_597 : Cond.selects "PromiseVats" ⟨"PromiseVats", "code", "(III)Z"⟩ ⟨"PromiseVats", "code", "(III)Z"⟩ ∈ tb_ := tb_in 249 (by decide +kernel) rfl
theorem tw_598 : Cond.code ⟨"PromiseVatsModel", "clea\x72", "(I)Z"⟩ prog_12_method_6_code 2 (Option.some FieldType.boolean) ∈ tb_ := tb_in 765 (by decide +kernel) rfl
theorem tw_599 : Cond.methodLink "PromiseVatsLaw" 30 ⟨"PromiseVatsModel", "clea\x72", "(I)Z"⟩ ∈ tb_ := tb_in 762 (by decide +kernel) rfl
theorem tw_600 : Cond.instanceMethod ⟨"PromiseVatsModel", "clea\x72", "(I)Z"⟩ ∈ tb_ := tb_in 763 (by decide +kernel) rfl
theorem tw_601 : Cond.selects "PromiseVatsModel" ⟨"PromiseVatsModel", "clea\x72", "(I)Z"⟩ ⟨"PromiseVatsModel", "clea\x72", "(I)Z"⟩ ∈ tb_ := tb_in 764 (by decide +kernel) rfl
theorem tw_602 : Cond.code ⟨"PromiseVats", "clea\x72", "(I)Z"⟩ prog_1_method_3_code 2 (Option.some FieldType.boolean) ∈ tb_ := tb_in 263 (by decide +kernel) rfl
theorem tw_603 : Cond.methodLink "PromiseVatsLaw" 26 ⟨"PromiseVats", "clea\x72", "(I)Z"⟩ ∈ tb_ := tb_in 260 (by decide +kernel) rfl
theorem tw_604 : Cond.instanceMethod ⟨"PromiseVats", "clea\x72", "(I)Z"⟩ ∈ tb_ := tb_in 261 (by decide +kernel) rfl
theorem tw_605 : Cond.selects "PromiseVats" ⟨"PromiseVats", "clea\x72", "(I)Z"⟩ ⟨"PromiseVats", "clea\x72", "(I)Z"⟩ ∈ tb_ := tb_in 262 (by decide +kernel) rfl
theorem tw_606 : Cond.code ⟨"PromiseVatsModel", "give", "(III)Z"⟩ prog_12_method_21_code 4 (Option.some FieldType.boolean) ∈ tb_ := tb_in 829 (by decide +kernel) rfl
theorem tw_607 : Cond.methodLink "PromiseVatsLaw" 34 ⟨"PromiseVatsModel", "give", "(III)Z"⟩ ∈ tb_ := tb_in 826 (by decide +kernel) rfl
theorem tw_608 : Cond.instanceMethod ⟨"PromiseVatsModel", "give", "(III)Z"⟩ ∈ tb_ := tb_in 827 (by decide +kernel) rfl
theorem tw_609 : Cond.selects "PromiseVatsModel" ⟨"PromiseVatsModel", "give", "(III)Z"⟩ ⟨"PromiseVatsModel", "give", "(III)Z"⟩ ∈ tb_ := tb_in 828 (by decide +kernel) rfl
theorem tw_610 : Cond.code ⟨"PromiseVats", "give", "(III)Z"⟩ prog_1_method_4_code 5 (Option.some FieldType.boolean) ∈ tb_ := tb_in 267 (by decide +kernel) rfl
theorem tw_611 : Cond.methodLink "PromiseVatsLaw" 31 ⟨"PromiseVats", "give", "(III)Z"⟩ ∈ tb_ := tb_in 264 (by decide +kernel) rfl
theorem tw_612 : Cond.instanceMethod ⟨"PromiseVats", "give", "(III)Z"⟩ ∈ tb_ := tb_in 265 (by decide +kernel) rfl
theorem tw_613 : Cond.selects "PromiseVats" ⟨"PromiseVats", "give", "(III)Z"⟩ ⟨"PromiseVats", "give", "(III)Z"⟩ ∈ tb_ := tb_in 266 (by decide +kernel) rfl
theorem tw_614 : Cond.code ⟨"PromiseVatsModel", "poke", "(II)Z"⟩ prog_12_method_23_code 3 (Option.some FieldType.boolean) ∈ tb_ := tb_in 837 (by decide +kernel) rfl
theorem tw_615 : Cond.methodLink "PromiseVatsLaw" 39 ⟨"PromiseVatsModel", "poke", "(II)Z"⟩ ∈ tb_ := tb_in 834 (by decide +kernel) rfl
theorem tw_616 : Cond.instanceMethod ⟨"PromiseVatsModel", "poke", "(II)Z"⟩ ∈ tb_ := tb_in 835 (by decide +kernel) rfl
theorem tw_617 : Cond.selects "PromiseVatsModel" ⟨"PromiseVatsModel", "poke", "(II)Z"⟩ ⟨"PromiseVatsModel", "poke", "(II)Z"⟩ ∈ tb_ := tb_in 836 (by decide +kernel) rfl
theorem tw_618 : Cond.code ⟨"PromiseVats", "poke", "(II)Z"⟩ prog_1_method_5_code 3 (Option.some FieldType.boolean) ∈ tb_ := tb_in 275 (by decide +kernel) rfl
theorem tw_619 : Cond.methodLink "PromiseVatsLaw" 35 ⟨"PromiseVats", "poke", "(II)Z"⟩ ∈ tb_ := tb_in 272 (by decide +kernel) rfl
theorem tw_620 : Cond.instanceMethod ⟨"PromiseVats", "poke", "(II)Z"⟩ ∈ tb_ := tb_in 273 (by decide +kernel) rfl
theorem tw_621 : Cond.selects "PromiseVats" ⟨"PromiseVats", "poke", "(II)Z"⟩ ⟨"PromiseVats", "poke", "(II)Z"⟩ ∈ tb_ := tb_in 274 (by decide +kernel) rfl
theorem tw_622 : Cond.code ⟨"PromiseVatsModel", "turn", "(I)I"⟩ prog_12_method_28_code 8 (Option.some FieldType.int) ∈ tb_ := tb_in 842 (by decide +kernel) rfl
theorem tw_623 : Cond.methodLink "PromiseVatsLaw" 44 ⟨"PromiseVatsModel", "turn", "(I)I"⟩ ∈ tb_ := tb_in 839 (by decide +kernel) rfl
theorem tw_624 : Cond.instanceMethod ⟨"PromiseVatsModel", "turn", "(I)I"⟩ ∈ tb_ := tb_in 840 (by decide +kernel) rfl
theorem tw_625 : Cond.selects "PromiseVatsModel" ⟨"PromiseVatsModel", "turn", "(I)I"⟩ ⟨"PromiseVatsModel", "turn", "(I)I"⟩ ∈ tb_ := tb_in 841 (by decide +kernel) rfl
theorem tw_626 : Cond.code ⟨"PromiseVats", "turn", "(I)I"⟩ prog_1_method_6_code 6 (Option.some FieldType.int) ∈ tb_ := tb_in 411 (by decide +kernel) rfl
theorem tw_627 : Cond.methodLink "PromiseVatsLaw" 40 ⟨"PromiseVats", "turn", "(I)I"⟩ ∈ tb_ := tb_in 408 (by decide +kernel) rfl
theorem tw_628 : Cond.instanceMethod ⟨"PromiseVats", "turn", "(I)I"⟩ ∈ tb_ := tb_in 409 (by decide +kernel) rfl
theorem tw_629 : Cond.selects "PromiseVats" ⟨"PromiseVats", "turn", "(I)I"⟩ ⟨"PromiseVats", "turn", "(I)I"⟩ ∈ tb_ := tb_in 410 (by decide +kernel) rfl
theorem tw_630 : Cond.code ⟨"PromiseVatsModel", "delive\x72", "(II)I"⟩ prog_12_method_13_code 9 (Option.some FieldType.int) ∈ tb_ := tb_in 769 (by decide +kernel) rfl
theorem tw_631 : Cond.methodLink "PromiseVatsLaw" 49 ⟨"PromiseVatsModel", "delive\x72", "(II)I"⟩ ∈ tb_ := tb_in 766 (by decide +kernel) rfl
theorem tw_632 : Cond.instanceMethod ⟨"PromiseVatsModel", "delive\x72", "(II)I"⟩ ∈ tb_ := tb_in 767 (by decide +kernel) rfl
theorem tw_633 : Cond.selects "PromiseVatsModel" ⟨"PromiseVatsModel", "delive\x72", "(II)I"⟩ ⟨"PromiseVatsModel", "delive\x72", "(II)I"⟩ ∈ tb_ := tb_in 768 (by decide +kernel) rfl
theorem tw_634 : Cond.code ⟨"PromiseVats", "delive\x72", "(II)I"⟩ prog_1_method_7_code 4 (Option.some FieldType.int) ∈ tb_ := tb_in 504 (by decide +kernel) rfl
theorem tw_635 : Cond.methodLink "PromiseVatsLaw" 45 ⟨"PromiseVats", "delive\x72", "(II)I"⟩ ∈ tb_ := tb_in 501 (by decide +kernel) rfl
theorem tw_636 : Cond.instanceMethod ⟨"PromiseVats", "delive\x72", "(II)I"⟩ ∈ tb_ := tb_in 502 (by decide +kernel) rfl
theorem tw_637 : Cond.selects "PromiseVats" ⟨"PromiseVats", "delive\x72", "(II)I"⟩ ⟨"PromiseVats", "delive\x72", "(II)I"⟩ ∈ tb_ := tb_in 503 (by decide +kernel) rfl
theorem tw_638 : Cond.code ⟨"PromiseVatsModel", "sweep", "(I)I"⟩ prog_12_method_32_code 5 (Option.some FieldType.int) ∈ tb_ := tb_in 862 (by decide +kernel) rfl
theorem tw_639 : Cond.methodLink "PromiseVatsLaw" 53 ⟨"PromiseVatsModel", "sweep", "(I)I"⟩ ∈ tb_ := tb_in 859 (by decide +kernel) rfl
theorem tw_640 : Cond.instanceMethod ⟨"PromiseVatsModel", "sweep", "(I)I"⟩ ∈ tb_ := tb_in 860 (by decide +kernel) rfl
theorem tw_641 : Cond.selects "PromiseVatsModel" ⟨"PromiseVatsModel", "sweep", "(I)I"⟩ ⟨"PromiseVatsModel", "sweep", "(I)I"⟩ ∈ tb_ := tb_in 861 (by decide +kernel) rfl
theorem tw_642 : Cond.code ⟨"PromiseVats", "sweep", "(I)I"⟩ prog_1_method_8_code 3 (Option.some FieldType.int) ∈ tb_ := tb_in 526 (by decide +kernel) rfl
theorem tw_643 : Cond.methodLink "PromiseVatsLaw" 50 ⟨"PromiseVats", "sweep", "(I)I"⟩ ∈ tb_ := tb_in 523 (by decide +kernel) rfl
theorem tw_644 : Cond.instanceMethod ⟨"PromiseVats", "sweep", "(I)I"⟩ ∈ tb_ := tb_in 524 (by decide +kernel) rfl
theorem tw_645 : Cond.selects "PromiseVats" ⟨"PromiseVats", "sweep", "(I)I"⟩ ⟨"PromiseVats", "sweep", "(I)I"⟩ ∈ tb_ := tb_in 525 (by decide +kernel) rfl
theorem tw_646 : Cond.code ⟨"PromiseVatsModel", "flying", "(II)I"⟩ prog_12_method_33_code 5 (Option.some FieldType.int) ∈ tb_ := tb_in 886 (by decide +kernel) rfl
theorem tw_647 : Cond.methodLink "PromiseVatsLaw" 57 ⟨"PromiseVatsModel", "flying", "(II)I"⟩ ∈ tb_ := tb_in 883 (by decide +kernel) rfl
theorem tw_648 : Cond.instanceMethod ⟨"PromiseVatsModel", "flying", "(II)I"⟩ ∈ tb_ := tb_in 884 (by decide +kernel) rfl
theorem tw_649 : Cond.selects "PromiseVatsModel" ⟨"PromiseVatsModel", "flying", "(II)I"⟩ ⟨"PromiseVatsModel", "flying", "(II)I"⟩ ∈ tb_ := tb_in 885 (by decide +kernel) rfl
theorem tw_650 : Cond.methodLink "PromiseVatsLaw" 54 ⟨"PromiseVats", "flying", "(II)I"⟩ ∈ tb_ := tb_in 579 (by decide +kernel) rfl
theorem tw_651 : Cond.methodLink "PromiseVatsLaw" 61 ⟨"PromiseVatsModel", "inbox", "(I)I"⟩ ∈ tb_ := tb_in 830 (by decide +kernel) rfl
theorem tw_652 : Cond.code ⟨"PromiseVats", "inbox", "(I)I"⟩ prog_1_method_10_code 2 (Option.some FieldType.int) ∈ tb_ := tb_in 583 (by decide +kernel) rfl
theorem tw_653 : Cond.methodLink "PromiseVatsLaw" 58 ⟨"PromiseVats", "inbox", "(I)I"⟩ ∈ tb_ := tb_in 580 (by decide +kernel) rfl
theorem tw_654 : Cond.instanceMethod ⟨"PromiseVats", "inbox", "(I)I"⟩ ∈ tb_ := tb_in 581 (by decide +kernel) rfl
theorem tw_655 : Cond.selects "PromiseVats" ⟨"PromiseVats", "inbox", "(I)I"⟩ ⟨"PromiseVats", "inbox", "(I)I"⟩ ∈ tb_ := tb_in 582 (by decide +kernel) rfl
theorem tw_656 : Cond.code ⟨"PromiseVatsModel", "count", "(II)I"⟩ prog_12_method_35_code 6 (Option.some FieldType.int) ∈ tb_ := tb_in 890 (by decide +kernel) rfl
theorem tw_657 : Cond.methodLink "PromiseVatsLaw" 65 ⟨"PromiseVatsModel", "count", "(II)I"⟩ ∈ tb_ := tb_in 887 (by decide +kernel) rfl
theorem tw_658 : Cond.instanceMethod ⟨"PromiseVatsModel", "count", "(II)I"⟩ ∈ tb_ := tb_in 888 (by decide +kernel) rfl
theorem tw_659 : Cond.selects "PromiseVatsModel" ⟨"PromiseVatsModel", "count", "(II)I"⟩ ⟨"PromiseVatsModel", "count", "(II)I"⟩ ∈ tb_ := tb_in 889 (by decide +kernel) rfl
theorem tw_660 : Cond.code ⟨"PromiseVats", "count", "(II)I"⟩ prog_1_method_11_code 5 (Option.some FieldType.int) ∈ tb_ := tb_in 587 (by decide +kernel) rfl
theorem tw_661 : Cond.methodLink "PromiseVatsLaw" 62 ⟨"PromiseVats", "count", "(II)I"⟩ ∈ tb_ := tb_in 584 (by decide +kernel) rfl
theorem tw_662 : Cond.instanceMethod ⟨"PromiseVats", "count", "(II)I"⟩ ∈ tb_ := tb_in 585 (by decide +kernel) rfl
theorem tw_663 : Cond.selects "PromiseVats" ⟨"PromiseVats", "count", "(II)I"⟩ ⟨"PromiseVats", "count", "(II)I"⟩ ∈ tb_ := tb_in 586 (by decide +kernel) rfl
theorem tw_664 : Cond.code ⟨"PromiseVatsModel", "imported", "(II)I"⟩ prog_12_method_36_code 3 (Option.some FieldType.int) ∈ tb_ := tb_in 898 (by decide +kernel) rfl
theorem tw_665 : Cond.methodLink "PromiseVatsLaw" 69 ⟨"PromiseVatsModel", "imported", "(II)I"⟩ ∈ tb_ := tb_in 895 (by decide +kernel) rfl
theorem tw_666 : Cond.instanceMethod ⟨"PromiseVatsModel", "imported", "(II)I"⟩ ∈ tb_ := tb_in 896 (by decide +kernel) rfl
theorem tw_667 : Cond.selects "PromiseVatsModel" ⟨"PromiseVatsModel", "imported", "(II)I"⟩ ⟨"PromiseVatsModel", "imported", "(II)I"⟩ ∈ tb_ := tb_in 897 (by decide +kernel) rfl
theorem tw_668 : Cond.code ⟨"PromiseVats", "imported", "(II)I"⟩ prog_1_method_12_code 4 (Option.some FieldType.int) ∈ tb_ := tb_in 601 (by decide +kernel) rfl
theorem tw_669 : Cond.methodLink "PromiseVatsLaw" 66 ⟨"PromiseVats", "imported", "(II)I"⟩ ∈ tb_ := tb_in 598 (by decide +kernel) rfl
theorem tw_670 : Cond.instanceMethod ⟨"PromiseVats", "imported", "(II)I"⟩ ∈ tb_ := tb_in 599 (by decide +kernel) rfl
theorem tw_671 : Cond.selects "PromiseVats" ⟨"PromiseVats", "imported", "(II)I"⟩ ⟨"PromiseVats", "imported", "(II)I"⟩ ∈ tb_ := tb_in 600 (by decide +kernel) rfl
theorem tw_672 : Cond.code ⟨"PromiseVatsModel", "exported", "(II)I"⟩ prog_12_method_37_code 3 (Option.some FieldType.int) ∈ tb_ := tb_in 902 (by decide +kernel) rfl
theorem tw_673 : Cond.methodLink "PromiseVatsLaw" 73 ⟨"PromiseVatsModel", "exported", "(II)I"⟩ ∈ tb_ := tb_in 899 (by decide +kernel) rfl
theorem tw_674 : Cond.instanceMethod ⟨"PromiseVatsModel", "exported", "(II)I"⟩ ∈ tb_ := tb_in 900 (by decide +kernel) rfl
theorem tw_675 : Cond.selects "PromiseVatsModel" ⟨"PromiseVatsModel", "exported", "(II)I"⟩ ⟨"PromiseVatsModel", "exported", "(II)I"⟩ ∈ tb_ := tb_in 901 (by decide +kernel) rfl
theorem tw_676 : Cond.code ⟨"PromiseVats", "exported", "(II)I"⟩ prog_1_method_13_code 4 (Option.some FieldType.int) ∈ tb_ := tb_in 609 (by decide +kernel) rfl
theorem tw_677 : Cond.methodLink "PromiseVatsLaw" 70 ⟨"PromiseVats", "exported", "(II)I"⟩ ∈ tb_ := tb_in 606 (by decide +kernel) rfl
theorem tw_678 : Cond.instanceMethod ⟨"PromiseVats", "exported", "(II)I"⟩ ∈ tb_ := tb_in 607 (by decide +kernel) rfl
theorem tw_679 : Cond.selects "PromiseVats" ⟨"PromiseVats", "exported", "(II)I"⟩ ⟨"PromiseVats", "exported", "(II)I"⟩ ∈ tb_ := tb_in 608 (by decide +kernel) rfl
theorem tw_680 : Cond.code ⟨"PromiseVatsModel", "home", "(I)I"⟩ prog_12_method_38_code 2 (Option.some FieldType.int) ∈ tb_ := tb_in 906 (by decide +kernel) rfl
theorem tw_681 : Cond.methodLink "PromiseVatsLaw" 77 ⟨"PromiseVatsModel", "home", "(I)I"⟩ ∈ tb_ := tb_in 903 (by decide +kernel) rfl
theorem tw_682 : Cond.instanceMethod ⟨"PromiseVatsModel", "home", "(I)I"⟩ ∈ tb_ := tb_in 904 (by decide +kernel) rfl
theorem tw_683 : Cond.selects "PromiseVatsModel" ⟨"PromiseVatsModel", "home", "(I)I"⟩ ⟨"PromiseVatsModel", "home", "(I)I"⟩ ∈ tb_ := tb_in 905 (by decide +kernel) rfl
theorem tw_684 : Cond.code ⟨"PromiseVats", "home", "(I)I"⟩ prog_1_method_14_code 3 (Option.some FieldType.int) ∈ tb_ := tb_in 617 (by decide +kernel) rfl
theorem tw_685 : Cond.methodLink "PromiseVatsLaw" 74 ⟨"PromiseVats", "home", "(I)I"⟩ ∈ tb_ := tb_in 614 (by decide +kernel) rfl
theorem tw_686 : Cond.instanceMethod ⟨"PromiseVats", "home", "(I)I"⟩ ∈ tb_ := tb_in 615 (by decide +kernel) rfl
theorem tw_687 : Cond.selects "PromiseVats" ⟨"PromiseVats", "home", "(I)I"⟩ ⟨"PromiseVats", "home", "(I)I"⟩ ∈ tb_ := tb_in 616 (by decide +kernel) rfl
theorem tw_688 : Cond.code ⟨"PromiseVatsModel", "slot", "(II)I"⟩ prog_12_method_39_code 3 (Option.some FieldType.int) ∈ tb_ := tb_in 910 (by decide +kernel) rfl
theorem tw_689 : Cond.methodLink "PromiseVatsLaw" 81 ⟨"PromiseVatsModel", "slot", "(II)I"⟩ ∈ tb_ := tb_in 907 (by decide +kernel) rfl
theorem tw_690 : Cond.instanceMethod ⟨"PromiseVatsModel", "slot", "(II)I"⟩ ∈ tb_ := tb_in 908 (by decide +kernel) rfl
theorem tw_691 : Cond.selects "PromiseVatsModel" ⟨"PromiseVatsModel", "slot", "(II)I"⟩ ⟨"PromiseVatsModel", "slot", "(II)I"⟩ ∈ tb_ := tb_in 909 (by decide +kernel) rfl
theorem tw_692 : Cond.code ⟨"PromiseVats", "slot", "(II)I"⟩ prog_1_method_15_code 5 (Option.some FieldType.int) ∈ tb_ := tb_in 621 (by decide +kernel) rfl
theorem tw_693 : Cond.methodLink "PromiseVatsLaw" 78 ⟨"PromiseVats", "slot", "(II)I"⟩ ∈ tb_ := tb_in 618 (by decide +kernel) rfl
theorem tw_694 : Cond.instanceMethod ⟨"PromiseVats", "slot", "(II)I"⟩ ∈ tb_ := tb_in 619 (by decide +kernel) rfl
theorem tw_695 : Cond.selects "PromiseVats" ⟨"PromiseVats", "slot", "(II)I"⟩ ⟨"PromiseVats", "slot", "(II)I"⟩ ∈ tb_ := tb_in 620 (by decide +kernel) rfl
theorem tw_696 : Cond.code ⟨"PromiseVatsModel", "numbe\x72", "(I)I"⟩ prog_12_method_40_code 2 (Option.some FieldType.int) ∈ tb_ := tb_in 914 (by decide +kernel) rfl
theorem tw_697 : Cond.methodLink "PromiseVatsLaw" 85 ⟨"PromiseVatsModel", "numbe\x72", "(I)I"⟩ ∈ tb_ := tb_in 911 (by decide +kernel) rfl
theorem tw_698 : Cond.instanceMethod ⟨"PromiseVatsModel", "numbe\x72", "(I)I"⟩ ∈ tb_ := tb_in 912 (by decide +kernel) rfl
theorem tw_699 : Cond.selects "PromiseVatsModel" ⟨"PromiseVatsModel", "numbe\x72", "(I)I"⟩ ⟨"PromiseVatsModel", "numbe\x72", "(I)I"⟩ ∈ tb_ := tb_in 913 (by decide +kernel) rfl
theorem tw_700 : Cond.code ⟨"PromiseVats", "numbe\x72", "(I)I"⟩ prog_1_method_16_code 4 (Option.some FieldType.int) ∈ tb_ := tb_in 628 (by decide +kernel) rfl
theorem tw_701 : Cond.methodLink "PromiseVatsLaw" 82 ⟨"PromiseVats", "numbe\x72", "(I)I"⟩ ∈ tb_ := tb_in 625 (by decide +kernel) rfl
theorem tw_702 : Cond.instanceMethod ⟨"PromiseVats", "numbe\x72", "(I)I"⟩ ∈ tb_ := tb_in 626 (by decide +kernel) rfl
theorem tw_703 : Cond.selects "PromiseVats" ⟨"PromiseVats", "numbe\x72", "(I)I"⟩ ⟨"PromiseVats", "numbe\x72", "(I)I"⟩ ∈ tb_ := tb_in 627 (by decide +kernel) rfl
theorem tw_704 : Cond.code ⟨"PromiseVatsModel", "resolved", "(I)I"⟩ prog_12_method_41_code 2 (Option.some FieldType.int) ∈ tb_ := tb_in 918 (by decide +kernel) rfl
theorem tw_705 : Cond.methodLink "PromiseVatsLaw" 89 ⟨"PromiseVatsModel", "resolved", "(I)I"⟩ ∈ tb_ := tb_in 915 (by decide +kernel) rfl
theorem tw_706 : Cond.instanceMethod ⟨"PromiseVatsModel", "resolved", "(I)I"⟩ ∈ tb_ := tb_in 916 (by decide +kernel) rfl
theorem tw_707 : Cond.selects "PromiseVatsModel" ⟨"PromiseVatsModel", "resolved", "(I)I"⟩ ⟨"PromiseVatsModel", "resolved", "(I)I"⟩ ∈ tb_ := tb_in 917 (by decide +kernel) rfl
theorem tw_708 : Cond.code ⟨"PromiseVats", "resolved", "(I)I"⟩ prog_1_method_17_code 4 (Option.some FieldType.int) ∈ tb_ := tb_in 632 (by decide +kernel) rfl
theorem tw_709 : Cond.methodLink "PromiseVatsLaw" 86 ⟨"PromiseVats", "resolved", "(I)I"⟩ ∈ tb_ := tb_in 629 (by decide +kernel) rfl
theorem tw_710 : Cond.instanceMethod ⟨"PromiseVats", "resolved", "(I)I"⟩ ∈ tb_ := tb_in 630 (by decide +kernel) rfl
theorem tw_711 : Cond.selects "PromiseVats" ⟨"PromiseVats", "resolved", "(I)I"⟩ ⟨"PromiseVats", "resolved", "(I)I"⟩ ∈ tb_ := tb_in 631 (by decide +kernel) rfl
theorem tw_712 : Cond.code ⟨"PromiseVatsModel", "output", "(II)I"⟩ prog_12_method_42_code 3 (Option.some FieldType.int) ∈ tb_ := tb_in 922 (by decide +kernel) rfl
theorem tw_713 : Cond.methodLink "PromiseVatsLaw" 93 ⟨"PromiseVatsModel", "output", "(II)I"⟩ ∈ tb_ := tb_in 919 (by decide +kernel) rfl
theorem tw_714 : Cond.instanceMethod ⟨"PromiseVatsModel", "output", "(II)I"⟩ ∈ tb_ := tb_in 920 (by decide +kernel) rfl
theorem tw_715 : Cond.selects "PromiseVatsModel" ⟨"PromiseVatsModel", "output", "(II)I"⟩ ⟨"PromiseVatsModel", "output", "(II)I"⟩ ∈ tb_ := tb_in 921 (by decide +kernel) rfl
theorem tw_716 : Cond.code ⟨"PromiseVats", "output", "(II)I"⟩ prog_1_method_18_code 3 (Option.some FieldType.int) ∈ tb_ := tb_in 636 (by decide +kernel) rfl
theorem tw_717 : Cond.methodLink "PromiseVatsLaw" 90 ⟨"PromiseVats", "output", "(II)I"⟩ ∈ tb_ := tb_in 633 (by decide +kernel) rfl
theorem tw_718 : Cond.instanceMethod ⟨"PromiseVats", "output", "(II)I"⟩ ∈ tb_ := tb_in 634 (by decide +kernel) rfl
theorem tw_719 : Cond.selects "PromiseVats" ⟨"PromiseVats", "output", "(II)I"⟩ ⟨"PromiseVats", "output", "(II)I"⟩ ∈ tb_ := tb_in 635 (by decide +kernel) rfl
theorem se_68 : ∀ ci ∈ ([10] : List Nat), ∃ q : vw_C, cl_[ci]? = some q ∧ Cond.selects q.1 ⟨"PromiseVatsModel", "code", "(III)Z"⟩ ⟨"PromiseVatsModel", "code", "(III)Z"⟩ ∈ tb_ := by
  intro ci h
  simp only [List.mem_cons, List.not_mem_nil, or_false] at h
  rcases h with rfl
  · exact ⟨_, rfl, tw_593⟩
theorem se_69 : ∀ ci ∈ ([0] : List Nat), ∃ q : vw_C, cl_[ci]? = some q ∧ Cond.selects q.1 ⟨"PromiseVats", "code", "(III)Z"⟩ ⟨"PromiseVats", "code", "(III)Z"⟩ ∈ tb_ := by
  intro ci h
  simp only [List.mem_cons, List.not_mem_nil, or_false] at h
  rcases h with rfl
  · exact ⟨_, rfl, tw_597⟩
theorem se_70 : ∀ ci ∈ ([10] : List Nat), ∃ q : vw_C, cl_[ci]? = some q ∧ Cond.selects q.1 ⟨"PromiseVatsModel", "clea\x72", "(I)Z"⟩ ⟨"PromiseVatsModel", "clea\x72", "(I)Z"⟩ ∈ tb_ := by
  intro ci h
  simp only [List.mem_cons, List.not_mem_nil, or_false] at h
  rcases h with rfl
  · exact ⟨_, rfl, tw_601⟩
theorem se_71 : ∀ ci ∈ ([0] : List Nat), ∃ q : vw_C, cl_[ci]? = some q ∧ Cond.selects q.1 ⟨"PromiseVats", "clea\x72", "(I)Z"⟩ ⟨"PromiseVats", "clea\x72", "(I)Z"⟩ ∈ tb_ := by
  intro ci h
  simp only [List.mem_cons, List.not_mem_nil, or_false] at h
  rcases h with rfl
  · exact ⟨_, rfl, tw_605⟩
theorem se_72 : ∀ ci ∈ ([10] : List Nat), ∃ q : vw_C, cl_[ci]? = some q ∧ Cond.selects q.1 ⟨"PromiseVatsModel", "give", "(III)Z"⟩ ⟨"PromiseVatsModel", "give", "(III)Z"⟩ ∈ tb_ := by
  intro ci h
  simp only [List.mem_cons, List.not_mem_nil, or_false] at h
  rcases h with rfl
  · exact ⟨_, rfl, tw_609⟩
theorem se_73 : ∀ ci ∈ ([0] : List Nat), ∃ q : vw_C, cl_[ci]? = some q ∧ Cond.selects q.1 ⟨"PromiseVats", "give", "(III)Z"⟩ ⟨"PromiseVats", "give", "(III)Z"⟩ ∈ tb_ := by
  intro ci h
  simp only [List.mem_cons, List.not_mem_nil, or_false] at h
  rcases h with rfl
  · exact ⟨_, rfl, tw_613⟩
theorem se_74 : ∀ ci ∈ ([10] : List Nat), ∃ q : vw_C, cl_[ci]? = some q ∧ Cond.selects q.1 ⟨"PromiseVatsModel", "poke", "(II)Z"⟩ ⟨"PromiseVatsModel", "poke", "(II)Z"⟩ ∈ tb_ := by
  intro ci h
  simp only [List.mem_cons, List.not_mem_nil, or_false] at h
  rcases h with rfl
  · exact ⟨_, rfl, tw_617⟩
theorem se_75 : ∀ ci ∈ ([0] : List Nat), ∃ q : vw_C, cl_[ci]? = some q ∧ Cond.selects q.1 ⟨"PromiseVats", "poke", "(II)Z"⟩ ⟨"PromiseVats", "poke", "(II)Z"⟩ ∈ tb_ := by
  intro ci h
  simp only [List.mem_cons, List.not_mem_nil, or_false] at h
  rcases h with rfl
  · exact ⟨_, rfl, tw_621⟩
theorem se_76 : ∀ ci ∈ ([10] : List Nat), ∃ q : vw_C, cl_[ci]? = some q ∧ Cond.selects q.1 ⟨"PromiseVatsModel", "turn", "(I)I"⟩ ⟨"PromiseVatsModel", "turn", "(I)I"⟩ ∈ tb_ := by
  intro ci h
  simp only [List.mem_cons, List.not_mem_nil, or_false] at h
  rcases h with rfl
  · exact ⟨_, rfl, tw_625⟩
theorem se_77 : ∀ ci ∈ ([0] : List Nat), ∃ q : vw_C, cl_[ci]? = some q ∧ Cond.selects q.1 ⟨"PromiseVats", "turn", "(I)I"⟩ ⟨"PromiseVats", "turn", "(I)I"⟩ ∈ tb_ := by
  intro ci h
  simp only [List.mem_cons, List.not_mem_nil, or_false] at h
  rcases h with rfl
  · exact ⟨_, rfl, tw_629⟩
theorem se_78 : ∀ ci ∈ ([10] : List Nat), ∃ q : vw_C, cl_[ci]? = some q ∧ Cond.selects q.1 ⟨"PromiseVatsModel", "delive\x72", "(II)I"⟩ ⟨"PromiseVatsModel", "delive\x72", "(II)I"⟩ ∈ tb_ := by
  intro ci h
  simp only [List.mem_cons, List.not_mem_nil, or_false] at h
  rcases h with rfl
  · exact ⟨_, rfl, tw_633⟩
theorem se_79 : ∀ ci ∈ ([0] : List Nat), ∃ q : vw_C, cl_[ci]? = some q ∧ Cond.selects q.1 ⟨"PromiseVats", "delive\x72", "(II)I"⟩ ⟨"PromiseVats", "delive\x72", "(II)I"⟩ ∈ tb_ := by
  intro ci h
  simp only [List.mem_cons, List.not_mem_nil, or_false] at h
  rcases h with rfl
  · exact ⟨_, rfl, tw_637⟩
theorem se_80 : ∀ ci ∈ ([10] : List Nat), ∃ q : vw_C, cl_[ci]? = some q ∧ Cond.selects q.1 ⟨"PromiseVatsModel", "sweep", "(I)I"⟩ ⟨"PromiseVatsModel", "sweep", "(I)I"⟩ ∈ tb_ := by
  intro ci h
  simp only [List.mem_cons, List.not_mem_nil, or_false] at h
  rcases h with rfl
  · exact ⟨_, rfl, tw_641⟩
theorem se_81 : ∀ ci ∈ ([0] : List Nat), ∃ q : vw_C, cl_[ci]? = some q ∧ Cond.selects q.1 ⟨"PromiseVats", "sweep", "(I)I"⟩ ⟨"PromiseVats", "sweep", "(I)I"⟩ ∈ tb_ := by
  intro ci h
  simp only [List.mem_cons, List.not_mem_nil, or_false] at h
  rcases h with rfl
  · exact ⟨_, rfl, tw_645⟩
theorem se_82 : ∀ ci ∈ ([10] : List Nat), ∃ q : vw_C, cl_[ci]? = some q ∧ Cond.selects q.1 ⟨"PromiseVatsModel", "flying", "(II)I"⟩ ⟨"PromiseVatsModel", "flying", "(II)I"⟩ ∈ tb_ := by
  intro ci h
  simp only [List.mem_cons, List.not_mem_nil, or_false] at h
  rcases h with rfl
  · exact ⟨_, rfl, tw_649⟩
theorem se_83 : ∀ ci ∈ ([0] : List Nat), ∃ q : vw_C, cl_[ci]? = some q ∧ Cond.selects q.1 ⟨"PromiseVats", "inbox", "(I)I"⟩ ⟨"PromiseVats", "inbox", "(I)I"⟩ ∈ tb_ := by
  intro ci h
  simp only [List.mem_cons, List.not_mem_nil, or_false] at h
  rcases h with rfl
  · exact ⟨_, rfl, tw_655⟩
theorem se_84 : ∀ ci ∈ ([10] : List Nat), ∃ q : vw_C, cl_[ci]? = some q ∧ Cond.selects q.1 ⟨"PromiseVatsModel", "count", "(II)I"⟩ ⟨"PromiseVatsModel", "count", "(II)I"⟩ ∈ tb_ := by
  intro ci h
  simp only [List.mem_cons, List.not_mem_nil, or_false] at h
  rcases h with rfl
  · exact ⟨_, rfl, tw_659⟩
theorem se_85 : ∀ ci ∈ ([0] : List Nat), ∃ q : vw_C, cl_[ci]? = some q ∧ Cond.selects q.1 ⟨"PromiseVats", "count", "(II)I"⟩ ⟨"PromiseVats", "count", "(II)I"⟩ ∈ tb_ := by
  intro ci h
  simp only [List.mem_cons, List.not_mem_nil, or_false] at h
  rcases h with rfl
  · exact ⟨_, rfl, tw_663⟩
theorem se_86 : ∀ ci ∈ ([10] : List Nat), ∃ q : vw_C, cl_[ci]? = some q ∧ Cond.selects q.1 ⟨"PromiseVatsModel", "imported", "(II)I"⟩ ⟨"PromiseVatsModel", "imported", "(II)I"⟩ ∈ tb_ := by
  intro ci h
  simp only [List.mem_cons, List.not_mem_nil, or_false] at h
  rcases h with rfl
  · exact ⟨_, rfl, tw_667⟩
theorem se_87 : ∀ ci ∈ ([0] : List Nat), ∃ q : vw_C, cl_[ci]? = some q ∧ Cond.selects q.1 ⟨"PromiseVats", "imported", "(II)I"⟩ ⟨"PromiseVats", "imported", "(II)I"⟩ ∈ tb_ := by
  intro ci h
  simp only [List.mem_cons, List.not_mem_nil, or_false] at h
  rcases h with rfl
  · exact ⟨_, rfl, tw_671⟩
theorem se_88 : ∀ ci ∈ ([10] : List Nat), ∃ q : vw_C, cl_[ci]? = some q ∧ Cond.selects q.1 ⟨"PromiseVatsModel", "exported", "(II)I"⟩ ⟨"PromiseVatsModel", "exported", "(II)I"⟩ ∈ tb_ := by
  intro ci h
  simp only [List.mem_cons, List.not_mem_nil, or_false] at h
  rcases h with rfl
  · exact ⟨_, rfl, tw_675⟩
theorem se_89 : ∀ ci ∈ ([0] : List Nat), ∃ q : vw_C, cl_[ci]? = some q ∧ Cond.selects q.1 ⟨"PromiseVats", "exported", "(II)I"⟩ ⟨"PromiseVats", "exported", "(II)I"⟩ ∈ tb_ := by
  intro ci h
  simp only [List.mem_cons, List.not_mem_nil, or_false] at h
  rcases h with rfl
  · exact ⟨_, rfl, tw_679⟩
theorem se_90 : ∀ ci ∈ ([10] : List Nat), ∃ q : vw_C, cl_[ci]? = some q ∧ Cond.selects q.1 ⟨"PromiseVatsModel", "home", "(I)I"⟩ ⟨"PromiseVatsModel", "home", "(I)I"⟩ ∈ tb_ := by
  intro ci h
  simp only [List.mem_cons, List.not_mem_nil, or_false] at h
  rcases h with rfl
  · exact ⟨_, rfl, tw_683⟩
theorem se_91 : ∀ ci ∈ ([0] : List Nat), ∃ q : vw_C, cl_[ci]? = some q ∧ Cond.selects q.1 ⟨"PromiseVats", "home", "(I)I"⟩ ⟨"PromiseVats", "home", "(I)I"⟩ ∈ tb_ := by
  intro ci h
  simp only [List.mem_cons, List.not_mem_nil, or_false] at h
  rcases h with rfl
  · exact ⟨_, rfl, tw_687⟩
theorem se_92 : ∀ ci ∈ ([10] : List Nat), ∃ q : vw_C, cl_[ci]? = some q ∧ Cond.selects q.1 ⟨"PromiseVatsModel", "slot", "(II)I"⟩ ⟨"PromiseVatsModel", "slot", "(II)I"⟩ ∈ tb_ := by
  intro ci h
  simp only [List.mem_cons, List.not_mem_nil, or_false] at h
  rcases h with rfl
  · exact ⟨_, rfl, tw_691⟩
theorem se_93 : ∀ ci ∈ ([0] : List Nat), ∃ q : vw_C, cl_[ci]? = some q ∧ Cond.selects q.1 ⟨"PromiseVats", "slot", "(II)I"⟩ ⟨"PromiseVats", "slot", "(II)I"⟩ ∈ tb_ := by
  intro ci h
  simp only [List.mem_cons, List.not_mem_nil, or_false] at h
  rcases h with rfl
  · exact ⟨_, rfl, tw_695⟩
theorem se_94 : ∀ ci ∈ ([10] : List Nat), ∃ q : vw_C, cl_[ci]? = some q ∧ Cond.selects q.1 ⟨"PromiseVatsModel", "numbe\x72", "(I)I"⟩ ⟨"PromiseVatsModel", "numbe\x72", "(I)I"⟩ ∈ tb_ := by
  intro ci h
  simp only [List.mem_cons, List.not_mem_nil, or_false] at h
  rcases h with rfl
  · exact ⟨_, rfl, tw_699⟩
theorem se_95 : ∀ ci ∈ ([0] : List Nat), ∃ q : vw_C, cl_[ci]? = some q ∧ Cond.selects q.1 ⟨"PromiseVats", "numbe\x72", "(I)I"⟩ ⟨"PromiseVats", "numbe\x72", "(I)I"⟩ ∈ tb_ := by
  intro ci h
  simp only [List.mem_cons, List.not_mem_nil, or_false] at h
  rcases h with rfl
  · exact ⟨_, rfl, tw_703⟩
theorem se_96 : ∀ ci ∈ ([10] : List Nat), ∃ q : vw_C, cl_[ci]? = some q ∧ Cond.selects q.1 ⟨"PromiseVatsModel", "resolved", "(I)I"⟩ ⟨"PromiseVatsModel", "resolved", "(I)I"⟩ ∈ tb_ := by
  intro ci h
  simp only [List.mem_cons, List.not_mem_nil, or_false] at h
  rcases h with rfl
  · exact ⟨_, rfl, tw_707⟩
theorem se_97 : ∀ ci ∈ ([0] : List Nat), ∃ q : vw_C, cl_[ci]? = some q ∧ Cond.selects q.1 ⟨"PromiseVats", "resolved", "(I)I"⟩ ⟨"PromiseVats", "resolved", "(I)I"⟩ ∈ tb_ := by
  intro ci h
  simp only [List.mem_cons, List.not_mem_nil, or_false] at h
  rcases h with rfl
  · exact ⟨_, rfl, tw_711⟩
theorem se_98 : ∀ ci ∈ ([10] : List Nat), ∃ q : vw_C, cl_[ci]? = some q ∧ Cond.selects q.1 ⟨"PromiseVatsModel", "output", "(II)I"⟩ ⟨"PromiseVatsModel", "output", "(II)I"⟩ ∈ tb_ := by
  intro ci h
  simp only [List.mem_cons, List.not_mem_nil, or_false] at h
  rcases h with rfl
  · exact ⟨_, rfl, tw_715⟩
theorem se_99 : ∀ ci ∈ ([0] : List Nat), ∃ q : vw_C, cl_[ci]? = some q ∧ Cond.selects q.1 ⟨"PromiseVats", "output", "(II)I"⟩ ⟨"PromiseVats", "output", "(II)I"⟩ ∈ tb_ := by
  intro ci h
  simp only [List.mem_cons, List.not_mem_nil, or_false] at h
  rcases h with rfl
  · exact ⟨_, rfl, tw_719⟩
theorem dd_lx_cell_0 : decode method_2_code 0 = .ok (.iload_n 1, 1) := by decide +kernel
theorem dd_lx_cell_1 : decode method_2_code 1 = .ok (.aload_n 0, 1) := by decide +kernel
theorem dd_lx_cell_2 : decode method_2_code 2 = .ok (.arraylength, 1) := by decide +kernel
theorem dd_lx_cell_3 : decode method_2_code 3 = .ok (.if_icmp .ge 9, 3) := by decide +kernel
theorem dd_lx_cell_6 : decode method_2_code 6 = .ok (.aload_n 0, 1) := by decide +kernel
theorem dd_lx_cell_7 : decode method_2_code 7 = .ok (.iload_n 1, 1) := by decide +kernel
theorem dd_lx_cell_8 : decode method_2_code 8 = .ok (.iaload, 1) := by decide +kernel
theorem dd_lx_cell_9 : decode method_2_code 9 = .ok (.goto 4, 3) := by decide +kernel
theorem dd_lx_cell_12 : decode method_2_code 12 = .ok (.iconst 0, 1) := by decide +kernel
theorem dd_lx_cell_13 : decode method_2_code 13 = .ok (.ireturn, 1) := by decide +kernel
set_option maxHeartbeats 4000000 in
set_option maxRecDepth 100000 in
theorem kc_lx_cell (l : Launch) (D : va_G) (ac : Nat → ClassId) (a0 : Nat) (gl : gl_T) (v0 : Option Nat) (v1 : Int32) (st : st_S) (rF : Int32) (stF : st_S) (iT jT : Nat) (h : lx_cell gl v0 v1 st = some (rF, stF, iT, jT)) :
    ct_ l ⟨"PromiseVatsLaw", "cell", "([II)I"⟩ (Cond.code ⟨"PromiseVatsLaw", "cell", "([II)I"⟩ method_2_code 2 (Option.some FieldType.int) :: tb_) 0 0 D cl_ ac a0 (kn_ D ac a0 gl) [(va_rf v0), (.int v1)] st (vb_i rF) stF iT jT := by
  refine ct_of (kn_ok D ac a0 gl) (plainFor_of_name (by decide +kernel)) (by simp [rf_cat, ic_cat]) (by simp) ?_
  intro p e s m args below meth c ls X hw hKs hlk hret hnm hl
  unfold lx_cell at h
  have hl : lh_ ls 2 [(0, (va_rf v0)), (1, (.int v1))] := hl
  obtain ⟨z0, hz0⟩ : ∃ z : Nat, 0 = z := ⟨0, rfl⟩
  obtain ⟨z1, hz1⟩ : ∃ z : Nat, 0 = z := ⟨0, rfl⟩
  refine W.cs hz0 hz1 ?_
  have hci : z0 + iT = iT := by omega
  have hcj : z1 + jT = jT := by omega
  refine lv_iload_n X.1 X.2.1 dd_lx_cell_0 rfl (lv_at hl.1 1 rfl) ?_
  refine rr_aldn X dd_lx_cell_1 rfl (lv_at hl.1 0 rfl) ?_
  obtain ⟨t1, ht1, h⟩ := st_g_some h
  refine rr_xln X hKs hw ht1 dd_lx_cell_2 ?_
  by_cases hc3 : t1 ≤ v1
  · rw [if_pos hc3] at h
    refine lv_icmp_ge (tgt := 12) X.1 X.2.1 dd_lx_cell_3 (by decide) (fun _ => ?_) (fun z => absurd hc3 z)
    refine lv_iconst (v := (0 : Int32)) X.1 X.2.1 dd_lx_cell_12 (by decide) ?_
    obtain ⟨rfl, rfl, rfl, rfl⟩ := st_r_some h
    exact rr_iret X hw hlk hret rfl hci hcj dd_lx_cell_13
  · rw [if_neg hc3] at h
    refine lv_icmp_ge (tgt := 12) X.1 X.2.1 dd_lx_cell_3 (by decide) (fun z => absurd z hc3) (fun _ => ?_)
    refine rr_aldn X dd_lx_cell_6 rfl (lv_at hl.1 0 rfl) ?_
    refine lv_iload_n X.1 X.2.1 dd_lx_cell_7 rfl (lv_at hl.1 1 rfl) ?_
    obtain ⟨t2, ht2, h⟩ := st_g_some h
    refine rr_xld X hKs hw ht2 dd_lx_cell_8 ?_
    refine lv_goto (tgt := 13) X.1 X.2.1 dd_lx_cell_9 (by decide) ?_
    obtain ⟨rfl, rfl, rfl, rfl⟩ := st_r_some h
    exact rr_iret X hw hlk hret rfl hci hcj dd_lx_cell_13
theorem dd_lx_law_0 : decode code 0 = .ok (.new 7, 3) := by decide +kernel
theorem dd_lx_law_3 : decode code 3 = .ok (.dup, 1) := by decide +kernel
theorem dd_lx_law_4 : decode code 4 = .ok (.aload_n 0, 1) := by decide +kernel
theorem dd_lx_law_5 : decode code 5 = .ok (.iconst 0, 1) := by decide +kernel
theorem dd_lx_law_6 : decode code 6 = .ok (.invokestatic 9, 3) := by decide +kernel
theorem dd_lx_law_9 : decode code 9 = .ok (.invokespecial 15, 3) := by decide +kernel
theorem dd_lx_law_12 : decode code 12 = .ok (.astore_n 1, 1) := by decide +kernel
theorem dd_lx_law_13 : decode code 13 = .ok (.new 18, 3) := by decide +kernel
theorem dd_lx_law_16 : decode code 16 = .ok (.dup, 1) := by decide +kernel
theorem dd_lx_law_17 : decode code 17 = .ok (.aload_n 0, 1) := by decide +kernel
theorem dd_lx_law_18 : decode code 18 = .ok (.iconst 0, 1) := by decide +kernel
theorem dd_lx_law_19 : decode code 19 = .ok (.invokestatic 9, 3) := by decide +kernel
theorem dd_lx_law_22 : decode code 22 = .ok (.invokespecial 20, 3) := by decide +kernel
theorem dd_lx_law_25 : decode code 25 = .ok (.astore_n 2, 1) := by decide +kernel
theorem dd_lx_law_26 : decode code 26 = .ok (.iconst 1, 1) := by decide +kernel
theorem dd_lx_law_27 : decode code 27 = .ok (.istore_n 3, 1) := by decide +kernel
theorem dd_lx_law_28 : decode code 28 = .ok (.iload_n 3, 1) := by decide +kernel
theorem dd_lx_law_29 : decode code 29 = .ok (.aload_n 0, 1) := by decide +kernel
theorem dd_lx_law_30 : decode code 30 = .ok (.arraylength, 1) := by decide +kernel
theorem dd_lx_law_31 : decode code 31 = .ok (.iconst 4, 1) := by decide +kernel
theorem dd_lx_law_32 : decode code 32 = .ok (.isub, 1) := by decide +kernel
theorem dd_lx_law_33 : decode code 33 = .ok (.if_icmp .gt 608, 3) := by decide +kernel
theorem dd_lx_law_36 : decode code 36 = .ok (.aload_n 0, 1) := by decide +kernel
theorem dd_lx_law_37 : decode code 37 = .ok (.iload_n 3, 1) := by decide +kernel
theorem dd_lx_law_38 : decode code 38 = .ok (.iaload, 1) := by decide +kernel
theorem dd_lx_law_39 : decode code 39 = .ok (.bipush 31, 2) := by decide +kernel
theorem dd_lx_law_41 : decode code 41 = .ok (.iand, 1) := by decide +kernel
theorem dd_lx_law_42 : decode code 42 = .ok (.tableswitch 593 0 16 #[82, 125, 148, 191, 224, 247, 280, 303, 336, 359, 392, 425, 458, 481, 514, 537, 560], 82) := by decide +kernel
theorem dd_lx_law_124 : decode code 124 = .ok (.aload_n 1, 1) := by decide +kernel
theorem dd_lx_law_125 : decode code 125 = .ok (.aload_n 0, 1) := by decide +kernel
theorem dd_lx_law_126 : decode code 126 = .ok (.iload_n 3, 1) := by decide +kernel
theorem dd_lx_law_127 : decode code 127 = .ok (.iconst 1, 1) := by decide +kernel
theorem dd_lx_law_128 : decode code 128 = .ok (.iadd, 1) := by decide +kernel
theorem dd_lx_law_129 : decode code 129 = .ok (.iaload, 1) := by decide +kernel
theorem dd_lx_law_130 : decode code 130 = .ok (.aload_n 0, 1) := by decide +kernel
theorem dd_lx_law_131 : decode code 131 = .ok (.iload_n 3, 1) := by decide +kernel
theorem dd_lx_law_132 : decode code 132 = .ok (.iconst 2, 1) := by decide +kernel
theorem dd_lx_law_133 : decode code 133 = .ok (.iadd, 1) := by decide +kernel
theorem dd_lx_law_134 : decode code 134 = .ok (.iaload, 1) := by decide +kernel
theorem dd_lx_law_135 : decode code 135 = .ok (.aload_n 0, 1) := by decide +kernel
theorem dd_lx_law_136 : decode code 136 = .ok (.iload_n 3, 1) := by decide +kernel
theorem dd_lx_law_137 : decode code 137 = .ok (.iconst 3, 1) := by decide +kernel
theorem dd_lx_law_138 : decode code 138 = .ok (.iadd, 1) := by decide +kernel
theorem dd_lx_law_139 : decode code 139 = .ok (.iaload, 1) := by decide +kernel
theorem dd_lx_law_140 : decode code 140 = .ok (.invokevirtual 21, 3) := by decide +kernel
theorem dd_lx_law_143 : decode code 143 = .ok (.aload_n 2, 1) := by decide +kernel
theorem dd_lx_law_144 : decode code 144 = .ok (.aload_n 0, 1) := by decide +kernel
theorem dd_lx_law_145 : decode code 145 = .ok (.iload_n 3, 1) := by decide +kernel
theorem dd_lx_law_146 : decode code 146 = .ok (.iconst 1, 1) := by decide +kernel
theorem dd_lx_law_147 : decode code 147 = .ok (.iadd, 1) := by decide +kernel
theorem dd_lx_law_148 : decode code 148 = .ok (.iaload, 1) := by decide +kernel
theorem dd_lx_law_149 : decode code 149 = .ok (.aload_n 0, 1) := by decide +kernel
theorem dd_lx_law_150 : decode code 150 = .ok (.iload_n 3, 1) := by decide +kernel
theorem dd_lx_law_151 : decode code 151 = .ok (.iconst 2, 1) := by decide +kernel
theorem dd_lx_law_152 : decode code 152 = .ok (.iadd, 1) := by decide +kernel
theorem dd_lx_law_153 : decode code 153 = .ok (.iaload, 1) := by decide +kernel
theorem dd_lx_law_154 : decode code 154 = .ok (.aload_n 0, 1) := by decide +kernel
theorem dd_lx_law_155 : decode code 155 = .ok (.iload_n 3, 1) := by decide +kernel
theorem dd_lx_law_156 : decode code 156 = .ok (.iconst 3, 1) := by decide +kernel
theorem dd_lx_law_157 : decode code 157 = .ok (.iadd, 1) := by decide +kernel
theorem dd_lx_law_158 : decode code 158 = .ok (.iaload, 1) := by decide +kernel
theorem dd_lx_law_159 : decode code 159 = .ok (.invokevirtual 25, 3) := by decide +kernel
theorem dd_lx_law_162 : decode code 162 = .ok (.if_icmp .eq 473, 3) := by decide +kernel
theorem dd_lx_law_165 : decode code 165 = .ok (.iconst 0, 1) := by decide +kernel
theorem dd_lx_law_166 : decode code 166 = .ok (.ireturn, 1) := by decide +kernel
theorem dd_lx_law_167 : decode code 167 = .ok (.aload_n 1, 1) := by decide +kernel
theorem dd_lx_law_168 : decode code 168 = .ok (.aload_n 0, 1) := by decide +kernel
theorem dd_lx_law_169 : decode code 169 = .ok (.iload_n 3, 1) := by decide +kernel
theorem dd_lx_law_170 : decode code 170 = .ok (.iconst 1, 1) := by decide +kernel
theorem dd_lx_law_171 : decode code 171 = .ok (.iadd, 1) := by decide +kernel
theorem dd_lx_law_172 : decode code 172 = .ok (.iaload, 1) := by decide +kernel
theorem dd_lx_law_173 : decode code 173 = .ok (.invokevirtual 26, 3) := by decide +kernel
theorem dd_lx_law_176 : decode code 176 = .ok (.aload_n 2, 1) := by decide +kernel
theorem dd_lx_law_177 : decode code 177 = .ok (.aload_n 0, 1) := by decide +kernel
theorem dd_lx_law_178 : decode code 178 = .ok (.iload_n 3, 1) := by decide +kernel
theorem dd_lx_law_179 : decode code 179 = .ok (.iconst 1, 1) := by decide +kernel
theorem dd_lx_law_180 : decode code 180 = .ok (.iadd, 1) := by decide +kernel
theorem dd_lx_law_181 : decode code 181 = .ok (.iaload, 1) := by decide +kernel
theorem dd_lx_law_182 : decode code 182 = .ok (.invokevirtual 30, 3) := by decide +kernel
theorem dd_lx_law_185 : decode code 185 = .ok (.if_icmp .eq 450, 3) := by decide +kernel
theorem dd_lx_law_188 : decode code 188 = .ok (.iconst 0, 1) := by decide +kernel
theorem dd_lx_law_189 : decode code 189 = .ok (.ireturn, 1) := by decide +kernel
theorem dd_lx_law_190 : decode code 190 = .ok (.aload_n 1, 1) := by decide +kernel
theorem dd_lx_law_191 : decode code 191 = .ok (.aload_n 0, 1) := by decide +kernel
theorem dd_lx_law_192 : decode code 192 = .ok (.iload_n 3, 1) := by decide +kernel
theorem dd_lx_law_193 : decode code 193 = .ok (.iconst 1, 1) := by decide +kernel
theorem dd_lx_law_194 : decode code 194 = .ok (.iadd, 1) := by decide +kernel
theorem dd_lx_law_195 : decode code 195 = .ok (.iaload, 1) := by decide +kernel
theorem dd_lx_law_196 : decode code 196 = .ok (.aload_n 0, 1) := by decide +kernel
theorem dd_lx_law_197 : decode code 197 = .ok (.iload_n 3, 1) := by decide +kernel
theorem dd_lx_law_198 : decode code 198 = .ok (.iconst 2, 1) := by decide +kernel
theorem dd_lx_law_199 : decode code 199 = .ok (.iadd, 1) := by decide +kernel
theorem dd_lx_law_200 : decode code 200 = .ok (.iaload, 1) := by decide +kernel
theorem dd_lx_law_201 : decode code 201 = .ok (.aload_n 0, 1) := by decide +kernel
theorem dd_lx_law_202 : decode code 202 = .ok (.iload_n 3, 1) := by decide +kernel
theorem dd_lx_law_203 : decode code 203 = .ok (.iconst 3, 1) := by decide +kernel
theorem dd_lx_law_204 : decode code 204 = .ok (.iadd, 1) := by decide +kernel
theorem dd_lx_law_205 : decode code 205 = .ok (.iaload, 1) := by decide +kernel
theorem dd_lx_law_206 : decode code 206 = .ok (.invokevirtual 31, 3) := by decide +kernel
theorem dd_lx_law_209 : decode code 209 = .ok (.aload_n 2, 1) := by decide +kernel
theorem dd_lx_law_210 : decode code 210 = .ok (.aload_n 0, 1) := by decide +kernel
theorem dd_lx_law_211 : decode code 211 = .ok (.iload_n 3, 1) := by decide +kernel
theorem dd_lx_law_212 : decode code 212 = .ok (.iconst 1, 1) := by decide +kernel
theorem dd_lx_law_213 : decode code 213 = .ok (.iadd, 1) := by decide +kernel
theorem dd_lx_law_214 : decode code 214 = .ok (.iaload, 1) := by decide +kernel
theorem dd_lx_law_215 : decode code 215 = .ok (.aload_n 0, 1) := by decide +kernel
theorem dd_lx_law_216 : decode code 216 = .ok (.iload_n 3, 1) := by decide +kernel
theorem dd_lx_law_217 : decode code 217 = .ok (.iconst 2, 1) := by decide +kernel
theorem dd_lx_law_218 : decode code 218 = .ok (.iadd, 1) := by decide +kernel
theorem dd_lx_law_219 : decode code 219 = .ok (.iaload, 1) := by decide +kernel
theorem dd_lx_law_220 : decode code 220 = .ok (.aload_n 0, 1) := by decide +kernel
theorem dd_lx_law_221 : decode code 221 = .ok (.iload_n 3, 1) := by decide +kernel
theorem dd_lx_law_222 : decode code 222 = .ok (.iconst 3, 1) := by decide +kernel
theorem dd_lx_law_223 : decode code 223 = .ok (.iadd, 1) := by decide +kernel
theorem dd_lx_law_224 : decode code 224 = .ok (.iaload, 1) := by decide +kernel
theorem dd_lx_law_225 : decode code 225 = .ok (.invokevirtual 34, 3) := by decide +kernel
theorem dd_lx_law_228 : decode code 228 = .ok (.if_icmp .eq 407, 3) := by decide +kernel
theorem dd_lx_law_231 : decode code 231 = .ok (.iconst 0, 1) := by decide +kernel
theorem dd_lx_law_232 : decode code 232 = .ok (.ireturn, 1) := by decide +kernel
theorem dd_lx_law_233 : decode code 233 = .ok (.aload_n 1, 1) := by decide +kernel
theorem dd_lx_law_234 : decode code 234 = .ok (.aload_n 0, 1) := by decide +kernel
theorem dd_lx_law_235 : decode code 235 = .ok (.iload_n 3, 1) := by decide +kernel
theorem dd_lx_law_236 : decode code 236 = .ok (.iconst 1, 1) := by decide +kernel
theorem dd_lx_law_237 : decode code 237 = .ok (.iadd, 1) := by decide +kernel
theorem dd_lx_law_238 : decode code 238 = .ok (.iaload, 1) := by decide +kernel
theorem dd_lx_law_239 : decode code 239 = .ok (.aload_n 0, 1) := by decide +kernel
theorem dd_lx_law_240 : decode code 240 = .ok (.iload_n 3, 1) := by decide +kernel
theorem dd_lx_law_241 : decode code 241 = .ok (.iconst 2, 1) := by decide +kernel
theorem dd_lx_law_242 : decode code 242 = .ok (.iadd, 1) := by decide +kernel
theorem dd_lx_law_243 : decode code 243 = .ok (.iaload, 1) := by decide +kernel
theorem dd_lx_law_244 : decode code 244 = .ok (.invokevirtual 35, 3) := by decide +kernel
theorem dd_lx_law_247 : decode code 247 = .ok (.aload_n 2, 1) := by decide +kernel
theorem dd_lx_law_248 : decode code 248 = .ok (.aload_n 0, 1) := by decide +kernel
theorem dd_lx_law_249 : decode code 249 = .ok (.iload_n 3, 1) := by decide +kernel
theorem dd_lx_law_250 : decode code 250 = .ok (.iconst 1, 1) := by decide +kernel
theorem dd_lx_law_251 : decode code 251 = .ok (.iadd, 1) := by decide +kernel
theorem dd_lx_law_252 : decode code 252 = .ok (.iaload, 1) := by decide +kernel
theorem dd_lx_law_253 : decode code 253 = .ok (.aload_n 0, 1) := by decide +kernel
theorem dd_lx_law_254 : decode code 254 = .ok (.iload_n 3, 1) := by decide +kernel
theorem dd_lx_law_255 : decode code 255 = .ok (.iconst 2, 1) := by decide +kernel
theorem dd_lx_law_256 : decode code 256 = .ok (.iadd, 1) := by decide +kernel
theorem dd_lx_law_257 : decode code 257 = .ok (.iaload, 1) := by decide +kernel
theorem dd_lx_law_258 : decode code 258 = .ok (.invokevirtual 39, 3) := by decide +kernel
theorem dd_lx_law_261 : decode code 261 = .ok (.if_icmp .eq 374, 3) := by decide +kernel
theorem dd_lx_law_264 : decode code 264 = .ok (.iconst 0, 1) := by decide +kernel
theorem dd_lx_law_265 : decode code 265 = .ok (.ireturn, 1) := by decide +kernel
theorem dd_lx_law_266 : decode code 266 = .ok (.aload_n 1, 1) := by decide +kernel
theorem dd_lx_law_267 : decode code 267 = .ok (.aload_n 0, 1) := by decide +kernel
theorem dd_lx_law_268 : decode code 268 = .ok (.iload_n 3, 1) := by decide +kernel
theorem dd_lx_law_269 : decode code 269 = .ok (.iconst 1, 1) := by decide +kernel
theorem dd_lx_law_270 : decode code 270 = .ok (.iadd, 1) := by decide +kernel
theorem dd_lx_law_271 : decode code 271 = .ok (.iaload, 1) := by decide +kernel
theorem dd_lx_law_272 : decode code 272 = .ok (.invokevirtual 40, 3) := by decide +kernel
theorem dd_lx_law_275 : decode code 275 = .ok (.aload_n 2, 1) := by decide +kernel
theorem dd_lx_law_276 : decode code 276 = .ok (.aload_n 0, 1) := by decide +kernel
theorem dd_lx_law_277 : decode code 277 = .ok (.iload_n 3, 1) := by decide +kernel
theorem dd_lx_law_278 : decode code 278 = .ok (.iconst 1, 1) := by decide +kernel
theorem dd_lx_law_279 : decode code 279 = .ok (.iadd, 1) := by decide +kernel
theorem dd_lx_law_280 : decode code 280 = .ok (.iaload, 1) := by decide +kernel
theorem dd_lx_law_281 : decode code 281 = .ok (.invokevirtual 44, 3) := by decide +kernel
theorem dd_lx_law_284 : decode code 284 = .ok (.if_icmp .eq 351, 3) := by decide +kernel
theorem dd_lx_law_287 : decode code 287 = .ok (.iconst 0, 1) := by decide +kernel
theorem dd_lx_law_288 : decode code 288 = .ok (.ireturn, 1) := by decide +kernel
theorem dd_lx_law_289 : decode code 289 = .ok (.aload_n 1, 1) := by decide +kernel
theorem dd_lx_law_290 : decode code 290 = .ok (.aload_n 0, 1) := by decide +kernel
theorem dd_lx_law_291 : decode code 291 = .ok (.iload_n 3, 1) := by decide +kernel
theorem dd_lx_law_292 : decode code 292 = .ok (.iconst 1, 1) := by decide +kernel
theorem dd_lx_law_293 : decode code 293 = .ok (.iadd, 1) := by decide +kernel
theorem dd_lx_law_294 : decode code 294 = .ok (.iaload, 1) := by decide +kernel
theorem dd_lx_law_295 : decode code 295 = .ok (.aload_n 0, 1) := by decide +kernel
theorem dd_lx_law_296 : decode code 296 = .ok (.iload_n 3, 1) := by decide +kernel
theorem dd_lx_law_297 : decode code 297 = .ok (.iconst 2, 1) := by decide +kernel
theorem dd_lx_law_298 : decode code 298 = .ok (.iadd, 1) := by decide +kernel
theorem dd_lx_law_299 : decode code 299 = .ok (.iaload, 1) := by decide +kernel
theorem dd_lx_law_300 : decode code 300 = .ok (.invokevirtual 45, 3) := by decide +kernel
theorem dd_lx_law_303 : decode code 303 = .ok (.aload_n 2, 1) := by decide +kernel
theorem dd_lx_law_304 : decode code 304 = .ok (.aload_n 0, 1) := by decide +kernel
theorem dd_lx_law_305 : decode code 305 = .ok (.iload_n 3, 1) := by decide +kernel
theorem dd_lx_law_306 : decode code 306 = .ok (.iconst 1, 1) := by decide +kernel
theorem dd_lx_law_307 : decode code 307 = .ok (.iadd, 1) := by decide +kernel
theorem dd_lx_law_308 : decode code 308 = .ok (.iaload, 1) := by decide +kernel
theorem dd_lx_law_309 : decode code 309 = .ok (.aload_n 0, 1) := by decide +kernel
theorem dd_lx_law_310 : decode code 310 = .ok (.iload_n 3, 1) := by decide +kernel
theorem dd_lx_law_311 : decode code 311 = .ok (.iconst 2, 1) := by decide +kernel
theorem dd_lx_law_312 : decode code 312 = .ok (.iadd, 1) := by decide +kernel
theorem dd_lx_law_313 : decode code 313 = .ok (.iaload, 1) := by decide +kernel
theorem dd_lx_law_314 : decode code 314 = .ok (.invokevirtual 49, 3) := by decide +kernel
theorem dd_lx_law_317 : decode code 317 = .ok (.if_icmp .eq 318, 3) := by decide +kernel
theorem dd_lx_law_320 : decode code 320 = .ok (.iconst 0, 1) := by decide +kernel
theorem dd_lx_law_321 : decode code 321 = .ok (.ireturn, 1) := by decide +kernel
theorem dd_lx_law_322 : decode code 322 = .ok (.aload_n 1, 1) := by decide +kernel
theorem dd_lx_law_323 : decode code 323 = .ok (.aload_n 0, 1) := by decide +kernel
theorem dd_lx_law_324 : decode code 324 = .ok (.iload_n 3, 1) := by decide +kernel
theorem dd_lx_law_325 : decode code 325 = .ok (.iconst 1, 1) := by decide +kernel
theorem dd_lx_law_326 : decode code 326 = .ok (.iadd, 1) := by decide +kernel
theorem dd_lx_law_327 : decode code 327 = .ok (.iaload, 1) := by decide +kernel
theorem dd_lx_law_328 : decode code 328 = .ok (.invokevirtual 50, 3) := by decide +kernel
theorem dd_lx_law_331 : decode code 331 = .ok (.aload_n 2, 1) := by decide +kernel
theorem dd_lx_law_332 : decode code 332 = .ok (.aload_n 0, 1) := by decide +kernel
theorem dd_lx_law_333 : decode code 333 = .ok (.iload_n 3, 1) := by decide +kernel
theorem dd_lx_law_334 : decode code 334 = .ok (.iconst 1, 1) := by decide +kernel
theorem dd_lx_law_335 : decode code 335 = .ok (.iadd, 1) := by decide +kernel
theorem dd_lx_law_336 : decode code 336 = .ok (.iaload, 1) := by decide +kernel
theorem dd_lx_law_337 : decode code 337 = .ok (.invokevirtual 53, 3) := by decide +kernel
theorem dd_lx_law_340 : decode code 340 = .ok (.if_icmp .eq 295, 3) := by decide +kernel
theorem dd_lx_law_343 : decode code 343 = .ok (.iconst 0, 1) := by decide +kernel
theorem dd_lx_law_344 : decode code 344 = .ok (.ireturn, 1) := by decide +kernel
theorem dd_lx_law_345 : decode code 345 = .ok (.aload_n 1, 1) := by decide +kernel
theorem dd_lx_law_346 : decode code 346 = .ok (.aload_n 0, 1) := by decide +kernel
theorem dd_lx_law_347 : decode code 347 = .ok (.iload_n 3, 1) := by decide +kernel
theorem dd_lx_law_348 : decode code 348 = .ok (.iconst 1, 1) := by decide +kernel
theorem dd_lx_law_349 : decode code 349 = .ok (.iadd, 1) := by decide +kernel
theorem dd_lx_law_350 : decode code 350 = .ok (.iaload, 1) := by decide +kernel
theorem dd_lx_law_351 : decode code 351 = .ok (.aload_n 0, 1) := by decide +kernel
theorem dd_lx_law_352 : decode code 352 = .ok (.iload_n 3, 1) := by decide +kernel
theorem dd_lx_law_353 : decode code 353 = .ok (.iconst 2, 1) := by decide +kernel
theorem dd_lx_law_354 : decode code 354 = .ok (.iadd, 1) := by decide +kernel
theorem dd_lx_law_355 : decode code 355 = .ok (.iaload, 1) := by decide +kernel
theorem dd_lx_law_356 : decode code 356 = .ok (.invokevirtual 54, 3) := by decide +kernel
theorem dd_lx_law_359 : decode code 359 = .ok (.aload_n 2, 1) := by decide +kernel
theorem dd_lx_law_360 : decode code 360 = .ok (.aload_n 0, 1) := by decide +kernel
theorem dd_lx_law_361 : decode code 361 = .ok (.iload_n 3, 1) := by decide +kernel
theorem dd_lx_law_362 : decode code 362 = .ok (.iconst 1, 1) := by decide +kernel
theorem dd_lx_law_363 : decode code 363 = .ok (.iadd, 1) := by decide +kernel
theorem dd_lx_law_364 : decode code 364 = .ok (.iaload, 1) := by decide +kernel
theorem dd_lx_law_365 : decode code 365 = .ok (.aload_n 0, 1) := by decide +kernel
theorem dd_lx_law_366 : decode code 366 = .ok (.iload_n 3, 1) := by decide +kernel
theorem dd_lx_law_367 : decode code 367 = .ok (.iconst 2, 1) := by decide +kernel
theorem dd_lx_law_368 : decode code 368 = .ok (.iadd, 1) := by decide +kernel
theorem dd_lx_law_369 : decode code 369 = .ok (.iaload, 1) := by decide +kernel
theorem dd_lx_law_370 : decode code 370 = .ok (.invokevirtual 57, 3) := by decide +kernel
theorem dd_lx_law_373 : decode code 373 = .ok (.if_icmp .eq 262, 3) := by decide +kernel
theorem dd_lx_law_376 : decode code 376 = .ok (.iconst 0, 1) := by decide +kernel
theorem dd_lx_law_377 : decode code 377 = .ok (.ireturn, 1) := by decide +kernel
theorem dd_lx_law_378 : decode code 378 = .ok (.aload_n 1, 1) := by decide +kernel
theorem dd_lx_law_379 : decode code 379 = .ok (.aload_n 0, 1) := by decide +kernel
theorem dd_lx_law_380 : decode code 380 = .ok (.iload_n 3, 1) := by decide +kernel
theorem dd_lx_law_381 : decode code 381 = .ok (.iconst 1, 1) := by decide +kernel
theorem dd_lx_law_382 : decode code 382 = .ok (.iadd, 1) := by decide +kernel
theorem dd_lx_law_383 : decode code 383 = .ok (.iaload, 1) := by decide +kernel
theorem dd_lx_law_384 : decode code 384 = .ok (.invokevirtual 58, 3) := by decide +kernel
theorem dd_lx_law_387 : decode code 387 = .ok (.aload_n 2, 1) := by decide +kernel
theorem dd_lx_law_388 : decode code 388 = .ok (.aload_n 0, 1) := by decide +kernel
theorem dd_lx_law_389 : decode code 389 = .ok (.iload_n 3, 1) := by decide +kernel
theorem dd_lx_law_390 : decode code 390 = .ok (.iconst 1, 1) := by decide +kernel
theorem dd_lx_law_391 : decode code 391 = .ok (.iadd, 1) := by decide +kernel
theorem dd_lx_law_392 : decode code 392 = .ok (.iaload, 1) := by decide +kernel
theorem dd_lx_law_393 : decode code 393 = .ok (.invokevirtual 61, 3) := by decide +kernel
theorem dd_lx_law_396 : decode code 396 = .ok (.if_icmp .eq 239, 3) := by decide +kernel
theorem dd_lx_law_399 : decode code 399 = .ok (.iconst 0, 1) := by decide +kernel
theorem dd_lx_law_400 : decode code 400 = .ok (.ireturn, 1) := by decide +kernel
theorem dd_lx_law_401 : decode code 401 = .ok (.aload_n 1, 1) := by decide +kernel
theorem dd_lx_law_402 : decode code 402 = .ok (.aload_n 0, 1) := by decide +kernel
theorem dd_lx_law_403 : decode code 403 = .ok (.iload_n 3, 1) := by decide +kernel
theorem dd_lx_law_404 : decode code 404 = .ok (.iconst 1, 1) := by decide +kernel
theorem dd_lx_law_405 : decode code 405 = .ok (.iadd, 1) := by decide +kernel
theorem dd_lx_law_406 : decode code 406 = .ok (.iaload, 1) := by decide +kernel
theorem dd_lx_law_407 : decode code 407 = .ok (.aload_n 0, 1) := by decide +kernel
theorem dd_lx_law_408 : decode code 408 = .ok (.iload_n 3, 1) := by decide +kernel
theorem dd_lx_law_409 : decode code 409 = .ok (.iconst 2, 1) := by decide +kernel
theorem dd_lx_law_410 : decode code 410 = .ok (.iadd, 1) := by decide +kernel
theorem dd_lx_law_411 : decode code 411 = .ok (.iaload, 1) := by decide +kernel
theorem dd_lx_law_412 : decode code 412 = .ok (.invokevirtual 62, 3) := by decide +kernel
theorem dd_lx_law_415 : decode code 415 = .ok (.aload_n 2, 1) := by decide +kernel
theorem dd_lx_law_416 : decode code 416 = .ok (.aload_n 0, 1) := by decide +kernel
theorem dd_lx_law_417 : decode code 417 = .ok (.iload_n 3, 1) := by decide +kernel
theorem dd_lx_law_418 : decode code 418 = .ok (.iconst 1, 1) := by decide +kernel
theorem dd_lx_law_419 : decode code 419 = .ok (.iadd, 1) := by decide +kernel
theorem dd_lx_law_420 : decode code 420 = .ok (.iaload, 1) := by decide +kernel
theorem dd_lx_law_421 : decode code 421 = .ok (.aload_n 0, 1) := by decide +kernel
theorem dd_lx_law_422 : decode code 422 = .ok (.iload_n 3, 1) := by decide +kernel
theorem dd_lx_law_423 : decode code 423 = .ok (.iconst 2, 1) := by decide +kernel
theorem dd_lx_law_424 : decode code 424 = .ok (.iadd, 1) := by decide +kernel
theorem dd_lx_law_425 : decode code 425 = .ok (.iaload, 1) := by decide +kernel
theorem dd_lx_law_426 : decode code 426 = .ok (.invokevirtual 65, 3) := by decide +kernel
theorem dd_lx_law_429 : decode code 429 = .ok (.if_icmp .eq 206, 3) := by decide +kernel
theorem dd_lx_law_432 : decode code 432 = .ok (.iconst 0, 1) := by decide +kernel
theorem dd_lx_law_433 : decode code 433 = .ok (.ireturn, 1) := by decide +kernel
theorem dd_lx_law_434 : decode code 434 = .ok (.aload_n 1, 1) := by decide +kernel
theorem dd_lx_law_435 : decode code 435 = .ok (.aload_n 0, 1) := by decide +kernel
theorem dd_lx_law_436 : decode code 436 = .ok (.iload_n 3, 1) := by decide +kernel
theorem dd_lx_law_437 : decode code 437 = .ok (.iconst 1, 1) := by decide +kernel
theorem dd_lx_law_438 : decode code 438 = .ok (.iadd, 1) := by decide +kernel
theorem dd_lx_law_439 : decode code 439 = .ok (.iaload, 1) := by decide +kernel
theorem dd_lx_law_440 : decode code 440 = .ok (.aload_n 0, 1) := by decide +kernel
theorem dd_lx_law_441 : decode code 441 = .ok (.iload_n 3, 1) := by decide +kernel
theorem dd_lx_law_442 : decode code 442 = .ok (.iconst 2, 1) := by decide +kernel
theorem dd_lx_law_443 : decode code 443 = .ok (.iadd, 1) := by decide +kernel
theorem dd_lx_law_444 : decode code 444 = .ok (.iaload, 1) := by decide +kernel
theorem dd_lx_law_445 : decode code 445 = .ok (.invokevirtual 66, 3) := by decide +kernel
theorem dd_lx_law_448 : decode code 448 = .ok (.aload_n 2, 1) := by decide +kernel
theorem dd_lx_law_449 : decode code 449 = .ok (.aload_n 0, 1) := by decide +kernel
theorem dd_lx_law_450 : decode code 450 = .ok (.iload_n 3, 1) := by decide +kernel
theorem dd_lx_law_451 : decode code 451 = .ok (.iconst 1, 1) := by decide +kernel
theorem dd_lx_law_452 : decode code 452 = .ok (.iadd, 1) := by decide +kernel
theorem dd_lx_law_453 : decode code 453 = .ok (.iaload, 1) := by decide +kernel
theorem dd_lx_law_454 : decode code 454 = .ok (.aload_n 0, 1) := by decide +kernel
theorem dd_lx_law_455 : decode code 455 = .ok (.iload_n 3, 1) := by decide +kernel
theorem dd_lx_law_456 : decode code 456 = .ok (.iconst 2, 1) := by decide +kernel
theorem dd_lx_law_457 : decode code 457 = .ok (.iadd, 1) := by decide +kernel
theorem dd_lx_law_458 : decode code 458 = .ok (.iaload, 1) := by decide +kernel
theorem dd_lx_law_459 : decode code 459 = .ok (.invokevirtual 69, 3) := by decide +kernel
theorem dd_lx_law_462 : decode code 462 = .ok (.if_icmp .eq 173, 3) := by decide +kernel
theorem dd_lx_law_465 : decode code 465 = .ok (.iconst 0, 1) := by decide +kernel
theorem dd_lx_law_466 : decode code 466 = .ok (.ireturn, 1) := by decide +kernel
theorem dd_lx_law_467 : decode code 467 = .ok (.aload_n 1, 1) := by decide +kernel
theorem dd_lx_law_468 : decode code 468 = .ok (.aload_n 0, 1) := by decide +kernel
theorem dd_lx_law_469 : decode code 469 = .ok (.iload_n 3, 1) := by decide +kernel
theorem dd_lx_law_470 : decode code 470 = .ok (.iconst 1, 1) := by decide +kernel
theorem dd_lx_law_471 : decode code 471 = .ok (.iadd, 1) := by decide +kernel
theorem dd_lx_law_472 : decode code 472 = .ok (.iaload, 1) := by decide +kernel
theorem dd_lx_law_473 : decode code 473 = .ok (.aload_n 0, 1) := by decide +kernel
theorem dd_lx_law_474 : decode code 474 = .ok (.iload_n 3, 1) := by decide +kernel
theorem dd_lx_law_475 : decode code 475 = .ok (.iconst 2, 1) := by decide +kernel
theorem dd_lx_law_476 : decode code 476 = .ok (.iadd, 1) := by decide +kernel
theorem dd_lx_law_477 : decode code 477 = .ok (.iaload, 1) := by decide +kernel
theorem dd_lx_law_478 : decode code 478 = .ok (.invokevirtual 70, 3) := by decide +kernel
theorem dd_lx_law_481 : decode code 481 = .ok (.aload_n 2, 1) := by decide +kernel
theorem dd_lx_law_482 : decode code 482 = .ok (.aload_n 0, 1) := by decide +kernel
theorem dd_lx_law_483 : decode code 483 = .ok (.iload_n 3, 1) := by decide +kernel
theorem dd_lx_law_484 : decode code 484 = .ok (.iconst 1, 1) := by decide +kernel
theorem dd_lx_law_485 : decode code 485 = .ok (.iadd, 1) := by decide +kernel
theorem dd_lx_law_486 : decode code 486 = .ok (.iaload, 1) := by decide +kernel
theorem dd_lx_law_487 : decode code 487 = .ok (.aload_n 0, 1) := by decide +kernel
theorem dd_lx_law_488 : decode code 488 = .ok (.iload_n 3, 1) := by decide +kernel
theorem dd_lx_law_489 : decode code 489 = .ok (.iconst 2, 1) := by decide +kernel
theorem dd_lx_law_490 : decode code 490 = .ok (.iadd, 1) := by decide +kernel
theorem dd_lx_law_491 : decode code 491 = .ok (.iaload, 1) := by decide +kernel
theorem dd_lx_law_492 : decode code 492 = .ok (.invokevirtual 73, 3) := by decide +kernel
theorem dd_lx_law_495 : decode code 495 = .ok (.if_icmp .eq 140, 3) := by decide +kernel
theorem dd_lx_law_498 : decode code 498 = .ok (.iconst 0, 1) := by decide +kernel
theorem dd_lx_law_499 : decode code 499 = .ok (.ireturn, 1) := by decide +kernel
theorem dd_lx_law_500 : decode code 500 = .ok (.aload_n 1, 1) := by decide +kernel
theorem dd_lx_law_501 : decode code 501 = .ok (.aload_n 0, 1) := by decide +kernel
theorem dd_lx_law_502 : decode code 502 = .ok (.iload_n 3, 1) := by decide +kernel
theorem dd_lx_law_503 : decode code 503 = .ok (.iconst 1, 1) := by decide +kernel
theorem dd_lx_law_504 : decode code 504 = .ok (.iadd, 1) := by decide +kernel
theorem dd_lx_law_505 : decode code 505 = .ok (.iaload, 1) := by decide +kernel
theorem dd_lx_law_506 : decode code 506 = .ok (.invokevirtual 74, 3) := by decide +kernel
theorem dd_lx_law_509 : decode code 509 = .ok (.aload_n 2, 1) := by decide +kernel
theorem dd_lx_law_510 : decode code 510 = .ok (.aload_n 0, 1) := by decide +kernel
theorem dd_lx_law_511 : decode code 511 = .ok (.iload_n 3, 1) := by decide +kernel
theorem dd_lx_law_512 : decode code 512 = .ok (.iconst 1, 1) := by decide +kernel
theorem dd_lx_law_513 : decode code 513 = .ok (.iadd, 1) := by decide +kernel
theorem dd_lx_law_514 : decode code 514 = .ok (.iaload, 1) := by decide +kernel
theorem dd_lx_law_515 : decode code 515 = .ok (.invokevirtual 77, 3) := by decide +kernel
theorem dd_lx_law_518 : decode code 518 = .ok (.if_icmp .eq 117, 3) := by decide +kernel
theorem dd_lx_law_521 : decode code 521 = .ok (.iconst 0, 1) := by decide +kernel
theorem dd_lx_law_522 : decode code 522 = .ok (.ireturn, 1) := by decide +kernel
theorem dd_lx_law_523 : decode code 523 = .ok (.aload_n 1, 1) := by decide +kernel
theorem dd_lx_law_524 : decode code 524 = .ok (.aload_n 0, 1) := by decide +kernel
theorem dd_lx_law_525 : decode code 525 = .ok (.iload_n 3, 1) := by decide +kernel
theorem dd_lx_law_526 : decode code 526 = .ok (.iconst 1, 1) := by decide +kernel
theorem dd_lx_law_527 : decode code 527 = .ok (.iadd, 1) := by decide +kernel
theorem dd_lx_law_528 : decode code 528 = .ok (.iaload, 1) := by decide +kernel
theorem dd_lx_law_529 : decode code 529 = .ok (.aload_n 0, 1) := by decide +kernel
theorem dd_lx_law_530 : decode code 530 = .ok (.iload_n 3, 1) := by decide +kernel
theorem dd_lx_law_531 : decode code 531 = .ok (.iconst 2, 1) := by decide +kernel
theorem dd_lx_law_532 : decode code 532 = .ok (.iadd, 1) := by decide +kernel
theorem dd_lx_law_533 : decode code 533 = .ok (.iaload, 1) := by decide +kernel
theorem dd_lx_law_534 : decode code 534 = .ok (.invokevirtual 78, 3) := by decide +kernel
theorem dd_lx_law_537 : decode code 537 = .ok (.aload_n 2, 1) := by decide +kernel
theorem dd_lx_law_538 : decode code 538 = .ok (.aload_n 0, 1) := by decide +kernel
theorem dd_lx_law_539 : decode code 539 = .ok (.iload_n 3, 1) := by decide +kernel
theorem dd_lx_law_540 : decode code 540 = .ok (.iconst 1, 1) := by decide +kernel
theorem dd_lx_law_541 : decode code 541 = .ok (.iadd, 1) := by decide +kernel
theorem dd_lx_law_542 : decode code 542 = .ok (.iaload, 1) := by decide +kernel
theorem dd_lx_law_543 : decode code 543 = .ok (.aload_n 0, 1) := by decide +kernel
theorem dd_lx_law_544 : decode code 544 = .ok (.iload_n 3, 1) := by decide +kernel
theorem dd_lx_law_545 : decode code 545 = .ok (.iconst 2, 1) := by decide +kernel
theorem dd_lx_law_546 : decode code 546 = .ok (.iadd, 1) := by decide +kernel
theorem dd_lx_law_547 : decode code 547 = .ok (.iaload, 1) := by decide +kernel
theorem dd_lx_law_548 : decode code 548 = .ok (.invokevirtual 81, 3) := by decide +kernel
theorem dd_lx_law_551 : decode code 551 = .ok (.if_icmp .eq 84, 3) := by decide +kernel
theorem dd_lx_law_554 : decode code 554 = .ok (.iconst 0, 1) := by decide +kernel
theorem dd_lx_law_555 : decode code 555 = .ok (.ireturn, 1) := by decide +kernel
theorem dd_lx_law_556 : decode code 556 = .ok (.aload_n 1, 1) := by decide +kernel
theorem dd_lx_law_557 : decode code 557 = .ok (.aload_n 0, 1) := by decide +kernel
theorem dd_lx_law_558 : decode code 558 = .ok (.iload_n 3, 1) := by decide +kernel
theorem dd_lx_law_559 : decode code 559 = .ok (.iconst 1, 1) := by decide +kernel
theorem dd_lx_law_560 : decode code 560 = .ok (.iadd, 1) := by decide +kernel
theorem dd_lx_law_561 : decode code 561 = .ok (.iaload, 1) := by decide +kernel
theorem dd_lx_law_562 : decode code 562 = .ok (.invokevirtual 82, 3) := by decide +kernel
theorem dd_lx_law_565 : decode code 565 = .ok (.aload_n 2, 1) := by decide +kernel
theorem dd_lx_law_566 : decode code 566 = .ok (.aload_n 0, 1) := by decide +kernel
theorem dd_lx_law_567 : decode code 567 = .ok (.iload_n 3, 1) := by decide +kernel
theorem dd_lx_law_568 : decode code 568 = .ok (.iconst 1, 1) := by decide +kernel
theorem dd_lx_law_569 : decode code 569 = .ok (.iadd, 1) := by decide +kernel
theorem dd_lx_law_570 : decode code 570 = .ok (.iaload, 1) := by decide +kernel
theorem dd_lx_law_571 : decode code 571 = .ok (.invokevirtual 85, 3) := by decide +kernel
theorem dd_lx_law_574 : decode code 574 = .ok (.if_icmp .eq 61, 3) := by decide +kernel
theorem dd_lx_law_577 : decode code 577 = .ok (.iconst 0, 1) := by decide +kernel
theorem dd_lx_law_578 : decode code 578 = .ok (.ireturn, 1) := by decide +kernel
theorem dd_lx_law_579 : decode code 579 = .ok (.aload_n 1, 1) := by decide +kernel
theorem dd_lx_law_580 : decode code 580 = .ok (.aload_n 0, 1) := by decide +kernel
theorem dd_lx_law_581 : decode code 581 = .ok (.iload_n 3, 1) := by decide +kernel
theorem dd_lx_law_582 : decode code 582 = .ok (.iconst 1, 1) := by decide +kernel
theorem dd_lx_law_583 : decode code 583 = .ok (.iadd, 1) := by decide +kernel
theorem dd_lx_law_584 : decode code 584 = .ok (.iaload, 1) := by decide +kernel
theorem dd_lx_law_585 : decode code 585 = .ok (.invokevirtual 86, 3) := by decide +kernel
theorem dd_lx_law_588 : decode code 588 = .ok (.aload_n 2, 1) := by decide +kernel
theorem dd_lx_law_589 : decode code 589 = .ok (.aload_n 0, 1) := by decide +kernel
theorem dd_lx_law_590 : decode code 590 = .ok (.iload_n 3, 1) := by decide +kernel
theorem dd_lx_law_591 : decode code 591 = .ok (.iconst 1, 1) := by decide +kernel
theorem dd_lx_law_592 : decode code 592 = .ok (.iadd, 1) := by decide +kernel
theorem dd_lx_law_593 : decode code 593 = .ok (.iaload, 1) := by decide +kernel
theorem dd_lx_law_594 : decode code 594 = .ok (.invokevirtual 89, 3) := by decide +kernel
theorem dd_lx_law_597 : decode code 597 = .ok (.if_icmp .eq 38, 3) := by decide +kernel
theorem dd_lx_law_600 : decode code 600 = .ok (.iconst 0, 1) := by decide +kernel
theorem dd_lx_law_601 : decode code 601 = .ok (.ireturn, 1) := by decide +kernel
theorem dd_lx_law_602 : decode code 602 = .ok (.aload_n 1, 1) := by decide +kernel
theorem dd_lx_law_603 : decode code 603 = .ok (.aload_n 0, 1) := by decide +kernel
theorem dd_lx_law_604 : decode code 604 = .ok (.iload_n 3, 1) := by decide +kernel
theorem dd_lx_law_605 : decode code 605 = .ok (.iconst 1, 1) := by decide +kernel
theorem dd_lx_law_606 : decode code 606 = .ok (.iadd, 1) := by decide +kernel
theorem dd_lx_law_607 : decode code 607 = .ok (.iaload, 1) := by decide +kernel
theorem dd_lx_law_608 : decode code 608 = .ok (.aload_n 0, 1) := by decide +kernel
theorem dd_lx_law_609 : decode code 609 = .ok (.iload_n 3, 1) := by decide +kernel
theorem dd_lx_law_610 : decode code 610 = .ok (.iconst 2, 1) := by decide +kernel
theorem dd_lx_law_611 : decode code 611 = .ok (.iadd, 1) := by decide +kernel
theorem dd_lx_law_612 : decode code 612 = .ok (.iaload, 1) := by decide +kernel
theorem dd_lx_law_613 : decode code 613 = .ok (.invokevirtual 90, 3) := by decide +kernel
theorem dd_lx_law_616 : decode code 616 = .ok (.aload_n 2, 1) := by decide +kernel
theorem dd_lx_law_617 : decode code 617 = .ok (.aload_n 0, 1) := by decide +kernel
theorem dd_lx_law_618 : decode code 618 = .ok (.iload_n 3, 1) := by decide +kernel
theorem dd_lx_law_619 : decode code 619 = .ok (.iconst 1, 1) := by decide +kernel
theorem dd_lx_law_620 : decode code 620 = .ok (.iadd, 1) := by decide +kernel
theorem dd_lx_law_621 : decode code 621 = .ok (.iaload, 1) := by decide +kernel
theorem dd_lx_law_622 : decode code 622 = .ok (.aload_n 0, 1) := by decide +kernel
theorem dd_lx_law_623 : decode code 623 = .ok (.iload_n 3, 1) := by decide +kernel
theorem dd_lx_law_624 : decode code 624 = .ok (.iconst 2, 1) := by decide +kernel
theorem dd_lx_law_625 : decode code 625 = .ok (.iadd, 1) := by decide +kernel
theorem dd_lx_law_626 : decode code 626 = .ok (.iaload, 1) := by decide +kernel
theorem dd_lx_law_627 : decode code 627 = .ok (.invokevirtual 93, 3) := by decide +kernel
theorem dd_lx_law_630 : decode code 630 = .ok (.if_icmp .eq 5, 3) := by decide +kernel
theorem dd_lx_law_633 : decode code 633 = .ok (.iconst 0, 1) := by decide +kernel
theorem dd_lx_law_634 : decode code 634 = .ok (.ireturn, 1) := by decide +kernel
theorem dd_lx_law_635 : decode code 635 = .ok (.iinc 3 4, 3) := by decide +kernel
theorem dd_lx_law_638 : decode code 638 = .ok (.goto (-610), 3) := by decide +kernel
theorem dd_lx_law_641 : decode code 641 = .ok (.iconst 1, 1) := by decide +kernel
theorem dd_lx_law_642 : decode code 642 = .ok (.ireturn, 1) := by decide +kernel
