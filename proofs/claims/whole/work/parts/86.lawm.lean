/-! THE LAW'S METHODS: names, links -/
def mL_drum : MD := (yL_drum, cL_drum, 4, some FieldType.int, { frames := 8, cells := 2, slots := 12, locals := 149 }, [(0, 9, 12, 13), (0, 9, 15, 15)])
theorem oL_drum : fOKH mL_drum 3 := ⟨(fun h => by cases h), lw_of (i := 579) (by decide +kernel), lw_of (i := 0) (by decide +kernel), by decide +kernel, by decide +kernel⟩
theorem sL_drum : Cond.static yL_drum ∈ lw_tbl := lw_of (i := 578) (by decide +kernel)
def mL_age : MD := (yL_age, cL_age, 4, some FieldType.int, { frames := 8, cells := 1, slots := 6, locals := 149 }, [(0, 9, 12, 13)])
theorem oL_age : fOKH mL_age 3 := ⟨(fun h => by cases h), lw_of (i := 710) (by decide +kernel), lw_of (i := 0) (by decide +kernel), by decide +kernel, by decide +kernel⟩
theorem sL_age : Cond.static yL_age ∈ lw_tbl := lw_of (i := 709) (by decide +kernel)
def mL_sample : MD := (yL_sample, cL_sample, 4, some FieldType.int, { frames := 8, cells := 1, slots := 6, locals := 170 }, [(0, 9, 12, 23), (0, 9, 15, 15)])
theorem oL_sample : fOKH mL_sample 3 := ⟨(fun h => by cases h), lw_of (i := 722) (by decide +kernel), lw_of (i := 0) (by decide +kernel), by decide +kernel, by decide +kernel⟩
theorem sL_sample : Cond.static yL_sample ∈ lw_tbl := lw_of (i := 721) (by decide +kernel)
def mL_toss : MD := (yL_toss, cL_toss, 4, some FieldType.int, { frames := 8, cells := 1, slots := 6, locals := 149 }, [(0, 9, 12, 23)])
theorem oL_toss : fOKH mL_toss 3 := ⟨(fun h => by cases h), lw_of (i := 744) (by decide +kernel), lw_of (i := 0) (by decide +kernel), by decide +kernel, by decide +kernel⟩
theorem sL_toss : Cond.static yL_toss ∈ lw_tbl := lw_of (i := 743) (by decide +kernel)
def mL_bath : MD := (yL_bath, cL_bath, 5, some FieldType.int, { frames := 8, cells := 2, slots := 12, locals := 153 }, [(0, 10, 13, 23), (0, 10, 17, 15)])
theorem oL_bath : fOKH mL_bath 4 := ⟨(fun h => by cases h), lw_of (i := 759) (by decide +kernel), lw_of (i := 0) (by decide +kernel), by decide +kernel, by decide +kernel⟩
theorem sL_bath : Cond.static yL_bath ∈ lw_tbl := lw_of (i := 758) (by decide +kernel)
def mL_warm : MD := (yL_warm, cL_warm, 5, some FieldType.int, { frames := 8, cells := 2, slots := 12, locals := 151 }, [(0, 10, 13, 23), (0, 10, 17, 13)])
theorem oL_warm : fOKH mL_warm 4 := ⟨(fun h => by cases h), lw_of (i := 778) (by decide +kernel), lw_of (i := 0) (by decide +kernel), by decide +kernel, by decide +kernel⟩
theorem sL_warm : Cond.static yL_warm ∈ lw_tbl := lw_of (i := 777) (by decide +kernel)
def mL_pass : MD := (yL_pass, cL_pass, 4, some FieldType.int, { frames := 8, cells := 1, slots := 6, locals := 153 }, [(0, 9, 12, 13)])
theorem oL_pass : fOKH mL_pass 3 := ⟨(fun h => by cases h), lw_of (i := 785) (by decide +kernel), lw_of (i := 0) (by decide +kernel), by decide +kernel, by decide +kernel⟩
theorem sL_pass : Cond.static yL_pass ∈ lw_tbl := lw_of (i := 784) (by decide +kernel)
def mL_sink : MD := (yL_sink, cL_sink, 7, some FieldType.int, { frames := 8, cells := 5, slots := 30, locals := 206 }, [(0, 14, 17, 23), (0, 14, 21, 13), (0, 14, 25, 15)])
theorem oL_sink : fOKH mL_sink 6 := ⟨(fun h => by cases h), lw_of (i := 800) (by decide +kernel), lw_of (i := 0) (by decide +kernel), by decide +kernel, by decide +kernel⟩
theorem sL_sink : Cond.static yL_sink ∈ lw_tbl := lw_of (i := 799) (by decide +kernel)
def mL_renew : MD := (yL_renew, cL_renew, 4, some FieldType.int, { frames := 8, cells := 1, slots := 6, locals := 149 }, [(0, 9, 12, 23)])
theorem oL_renew : fOKH mL_renew 3 := ⟨(fun h => by cases h), lw_of (i := 829) (by decide +kernel), lw_of (i := 0) (by decide +kernel), by decide +kernel, by decide +kernel⟩
theorem sL_renew : Cond.static yL_renew ∈ lw_tbl := lw_of (i := 828) (by decide +kernel)
def mL_ring : MD := (yL_ring, cL_ring, 4, some FieldType.int, { frames := 8, cells := 1, slots := 6, locals := 149 }, [(0, 9, 12, 23), (0, 9, 15, 15)])
theorem oL_ring : fOKH mL_ring 3 := ⟨(fun h => by cases h), lw_of (i := 840) (by decide +kernel), lw_of (i := 0) (by decide +kernel), by decide +kernel, by decide +kernel⟩
theorem sL_ring : Cond.static yL_ring ∈ lw_tbl := lw_of (i := 839) (by decide +kernel)
def mL_sell : MD := (yL_sell, cL_sell, 4, some FieldType.int, { frames := 8, cells := 1, slots := 6, locals := 182 }, [(0, 9, 12, 23), (0, 9, 15, 15)])
theorem oL_sell : fOKH mL_sell 3 := ⟨(fun h => by cases h), lw_of (i := 855) (by decide +kernel), lw_of (i := 0) (by decide +kernel), by decide +kernel, by decide +kernel⟩
theorem sL_sell : Cond.static yL_sell ∈ lw_tbl := lw_of (i := 854) (by decide +kernel)
def mL_set : MD := (yL_set, cL_set, 5, some FieldType.int, { frames := 8, cells := 2, slots := 12, locals := 151 }, [(0, 10, 13, 23), (0, 10, 17, 13)])
theorem oL_set : fOKH mL_set 4 := ⟨(fun h => by cases h), lw_of (i := 865) (by decide +kernel), lw_of (i := 0) (by decide +kernel), by decide +kernel, by decide +kernel⟩
theorem sL_set : Cond.static yL_set ∈ lw_tbl := lw_of (i := 864) (by decide +kernel)
def mL_append : MD := (yL_append, cL_append, 4, some FieldType.int, { frames := 8, cells := 2, slots := 12, locals := 139 }, [(0, 9, 12, 13), (0, 9, 15, 15)])
theorem oL_append : fOKH mL_append 3 := ⟨(fun h => by cases h), lw_of (i := 874) (by decide +kernel), lw_of (i := 0) (by decide +kernel), by decide +kernel, by decide +kernel⟩
theorem sL_append : Cond.static yL_append ∈ lw_tbl := lw_of (i := 873) (by decide +kernel)
def mL_obey : MD := (yL_obey, cL_obey, 3, some FieldType.int, { frames := 11, cells := 1, slots := 6, locals := 279 }, [(0, 8, 11, 13)])
theorem oL_obey : fOKH mL_obey 2 := ⟨(fun h => by cases h), lw_of (i := 885) (by decide +kernel), lw_of (i := 0) (by decide +kernel), by decide +kernel, by decide +kernel⟩
theorem sL_obey : Cond.static yL_obey ∈ lw_tbl := lw_of (i := 884) (by decide +kernel)
def mL_stopped : MD := (yL_stopped, cL_stopped, 4, some FieldType.int, { frames := 8, cells := 1, slots := 6, locals := 139 }, [(0, 9, 12, 13)])
theorem oL_stopped : fOKH mL_stopped 3 := ⟨(fun h => by cases h), lw_of (i := 911) (by decide +kernel), lw_of (i := 0) (by decide +kernel), by decide +kernel, by decide +kernel⟩
theorem sL_stopped : Cond.static yL_stopped ∈ lw_tbl := lw_of (i := 910) (by decide +kernel)
def mL_undo : MD := (yL_undo, cL_undo, 3, some FieldType.int, { frames := 7, cells := 1, slots := 6, locals := 148 }, [(0, 8, 11, 15)])
theorem oL_undo : fOKH mL_undo 2 := ⟨(fun h => by cases h), lw_of (i := 918) (by decide +kernel), lw_of (i := 0) (by decide +kernel), by decide +kernel, by decide +kernel⟩
theorem sL_undo : Cond.static yL_undo ∈ lw_tbl := lw_of (i := 917) (by decide +kernel)
def mL_restore : MD := (yL_restore, cL_restore, 3, some FieldType.int, { frames := 7, cells := 1, slots := 6, locals := 148 }, [(0, 8, 11, 15)])
theorem oL_restore : fOKH mL_restore 2 := ⟨(fun h => by cases h), lw_of (i := 930) (by decide +kernel), lw_of (i := 0) (by decide +kernel), by decide +kernel, by decide +kernel⟩
theorem sL_restore : Cond.static yL_restore ∈ lw_tbl := lw_of (i := 929) (by decide +kernel)
def mL_drumOf : MD := (yL_drumOf, cL_drumOf, 5, some FieldType.int, { frames := 8, cells := 2, slots := 12, locals := 199 }, [(0, 10, 13, 23), (0, 10, 17, 13)])
theorem oL_drumOf : fOKH mL_drumOf 4 := ⟨(fun h => by cases h), lw_of (i := 938) (by decide +kernel), lw_of (i := 0) (by decide +kernel), by decide +kernel, by decide +kernel⟩
theorem sL_drumOf : Cond.static yL_drumOf ∈ lw_tbl := lw_of (i := 937) (by decide +kernel)
def mL_sampleOf : MD := (yL_sampleOf, cL_sampleOf, 5, some FieldType.int, { frames := 8, cells := 2, slots := 12, locals := 156 }, [(0, 10, 13, 23), (0, 10, 17, 13)])
theorem oL_sampleOf : fOKH mL_sampleOf 4 := ⟨(fun h => by cases h), lw_of (i := 945) (by decide +kernel), lw_of (i := 0) (by decide +kernel), by decide +kernel, by decide +kernel⟩
theorem sL_sampleOf : Cond.static yL_sampleOf ∈ lw_tbl := lw_of (i := 944) (by decide +kernel)
def mL_reading : MD := (yL_reading, cL_reading, 6, some FieldType.int, { frames := 8, cells := 3, slots := 18, locals := 141 }, [(0, 12, 15, 23), (0, 12, 19, 13)])
theorem oL_reading : fOKH mL_reading 5 := ⟨(fun h => by cases h), lw_of (i := 952) (by decide +kernel), lw_of (i := 0) (by decide +kernel), by decide +kernel, by decide +kernel⟩
theorem sL_reading : Cond.static yL_reading ∈ lw_tbl := lw_of (i := 951) (by decide +kernel)
def mL_needle : MD := (yL_needle, cL_needle, 5, some FieldType.int, { frames := 8, cells := 2, slots := 12, locals := 140 }, [(0, 10, 13, 23), (0, 10, 17, 13)])
theorem oL_needle : fOKH mL_needle 4 := ⟨(fun h => by cases h), lw_of (i := 960) (by decide +kernel), lw_of (i := 0) (by decide +kernel), by decide +kernel, by decide +kernel⟩
theorem sL_needle : Cond.static yL_needle ∈ lw_tbl := lw_of (i := 959) (by decide +kernel)
def mL_bathOf : MD := (yL_bathOf, cL_bathOf, 5, some FieldType.int, { frames := 8, cells := 2, slots := 12, locals := 152 }, [(0, 10, 13, 23), (0, 10, 17, 13)])
theorem oL_bathOf : fOKH mL_bathOf 4 := ⟨(fun h => by cases h), lw_of (i := 967) (by decide +kernel), lw_of (i := 0) (by decide +kernel), by decide +kernel, by decide +kernel⟩
theorem sL_bathOf : Cond.static yL_bathOf ∈ lw_tbl := lw_of (i := 966) (by decide +kernel)
def mL_count : MD := (yL_count, cL_count, 4, some FieldType.int, { frames := 8, cells := 1, slots := 6, locals := 153 }, [(0, 9, 12, 13)])
theorem oL_count : fOKH mL_count 3 := ⟨(fun h => by cases h), lw_of (i := 974) (by decide +kernel), lw_of (i := 0) (by decide +kernel), by decide +kernel, by decide +kernel⟩
theorem sL_count : Cond.static yL_count ∈ lw_tbl := lw_of (i := 973) (by decide +kernel)
def mL_noSink : MD := (yL_noSink, cL_noSink, 5, some FieldType.int, { frames := 8, cells := 2, slots := 12, locals := 139 }, [(0, 10, 13, 23)])
theorem oL_noSink : fOKH mL_noSink 4 := ⟨(fun h => by cases h), lw_of (i := 981) (by decide +kernel), lw_of (i := 0) (by decide +kernel), by decide +kernel, by decide +kernel⟩
theorem sL_noSink : Cond.static yL_noSink ∈ lw_tbl := lw_of (i := 980) (by decide +kernel)
def mL_noSale : MD := (yL_noSale, cL_noSale, 4, some FieldType.int, { frames := 8, cells := 1, slots := 6, locals := 182 }, [(0, 9, 12, 23)])
theorem oL_noSale : fOKH mL_noSale 3 := ⟨(fun h => by cases h), lw_of (i := 988) (by decide +kernel), lw_of (i := 0) (by decide +kernel), by decide +kernel, by decide +kernel⟩
theorem sL_noSale : Cond.static yL_noSale ∈ lw_tbl := lw_of (i := 987) (by decide +kernel)
def mL_ifSunk : MD := (yL_ifSunk, cL_ifSunk, 7, some FieldType.int, { frames := 8, cells := 4, slots := 24, locals := 181 }, [(0, 14, 17, 23), (0, 14, 21, 13)])
theorem oL_ifSunk : fOKH mL_ifSunk 6 := ⟨(fun h => by cases h), lw_of (i := 995) (by decide +kernel), lw_of (i := 0) (by decide +kernel), by decide +kernel, by decide +kernel⟩
theorem sL_ifSunk : Cond.static yL_ifSunk ∈ lw_tbl := lw_of (i := 994) (by decide +kernel)
def mL_secondsTo : MD := (yL_secondsTo, cL_secondsTo, 7, some FieldType.int, { frames := 8, cells := 4, slots := 24, locals := 182 }, [(0, 14, 17, 23), (0, 14, 21, 13)])
theorem oL_secondsTo : fOKH mL_secondsTo 6 := ⟨(fun h => by cases h), lw_of (i := 1003) (by decide +kernel), lw_of (i := 0) (by decide +kernel), by decide +kernel, by decide +kernel⟩
theorem sL_secondsTo : Cond.static yL_secondsTo ∈ lw_tbl := lw_of (i := 1002) (by decide +kernel)
def mL_readyIn : MD := (yL_readyIn, cL_readyIn, 4, some FieldType.int, { frames := 8, cells := 1, slots := 6, locals := 176 }, [(0, 9, 12, 23)])
theorem oL_readyIn : fOKH mL_readyIn 3 := ⟨(fun h => by cases h), lw_of (i := 1010) (by decide +kernel), lw_of (i := 0) (by decide +kernel), by decide +kernel, by decide +kernel⟩
theorem sL_readyIn : Cond.static yL_readyIn ∈ lw_tbl := lw_of (i := 1009) (by decide +kernel)
def mL_bestBath : MD := (yL_bestBath, cL_bestBath, 4, some FieldType.int, { frames := 8, cells := 1, slots := 6, locals := 179 }, [(0, 9, 12, 23)])
theorem oL_bestBath : fOKH mL_bestBath 3 := ⟨(fun h => by cases h), lw_of (i := 1017) (by decide +kernel), lw_of (i := 0) (by decide +kernel), by decide +kernel, by decide +kernel⟩
theorem sL_bestBath : Cond.static yL_bestBath ∈ lw_tbl := lw_of (i := 1016) (by decide +kernel)
theorem kN_IllegalArgumentException : Cond.castable "java/lang/IllegalArgumentException" "java/lang/IllegalArgumentException" ∈ lw_tbl := lw_of (i := 591) (by decide +kernel)
theorem kN_IndexOutOfBoundsException : Cond.castable "java/lang/IndexOutOfBoundsException" "java/lang/IndexOutOfBoundsException" ∈ lw_tbl := lw_of (i := 661) (by decide +kernel)
theorem kN_IllegalStateException : Cond.castable "java/lang/IllegalStateException" "java/lang/IllegalStateException" ∈ lw_tbl := lw_of (i := 677) (by decide +kernel)
theorem kL_7M : Cond.methodLink RL 7 yX8_drum ∈ lw_tbl := lw_of (i := 582) (by decide +kernel)
theorem kL_8C : Cond.classLink RL 8 "BitumenNeedle" ∈ lw_tbl := lw_of (i := 24) (by decide +kernel)
theorem kL_13C : Cond.classLink RL 13 "java/lang/IllegalArgumentException" ∈ lw_tbl := lw_of (i := 580) (by decide +kernel)
theorem kL_15C : Cond.classLink RL 15 "java/lang/IllegalStateException" ∈ lw_tbl := lw_of (i := 581) (by decide +kernel)
theorem kL_17M : Cond.methodLink RL 17 yX8_age ∈ lw_tbl := lw_of (i := 711) (by decide +kernel)
theorem kL_20M : Cond.methodLink RL 20 yX8_sample ∈ lw_tbl := lw_of (i := 724) (by decide +kernel)
theorem kL_23C : Cond.classLink RL 23 "java/lang/IndexOutOfBoundsException" ∈ lw_tbl := lw_of (i := 723) (by decide +kernel)
theorem kL_25M : Cond.methodLink RL 25 yX8_toss ∈ lw_tbl := lw_of (i := 745) (by decide +kernel)
theorem kL_28M : Cond.methodLink RL 28 yX8_bath ∈ lw_tbl := lw_of (i := 760) (by decide +kernel)
theorem kL_32M : Cond.methodLink RL 32 yX8_warm ∈ lw_tbl := lw_of (i := 779) (by decide +kernel)
theorem kL_35M : Cond.methodLink RL 35 yX8_pass ∈ lw_tbl := lw_of (i := 786) (by decide +kernel)
theorem kL_38M : Cond.methodLink RL 38 yX8_sink ∈ lw_tbl := lw_of (i := 801) (by decide +kernel)
theorem kL_42M : Cond.methodLink RL 42 yX8_renew ∈ lw_tbl := lw_of (i := 830) (by decide +kernel)
theorem kL_45M : Cond.methodLink RL 45 yX8_ring ∈ lw_tbl := lw_of (i := 841) (by decide +kernel)
theorem kL_48M : Cond.methodLink RL 48 yX8_sell ∈ lw_tbl := lw_of (i := 856) (by decide +kernel)
theorem kL_51M : Cond.methodLink RL 51 yX8_set ∈ lw_tbl := lw_of (i := 866) (by decide +kernel)
theorem kL_54M : Cond.methodLink RL 54 yX8_append ∈ lw_tbl := lw_of (i := 875) (by decide +kernel)
theorem kL_57M : Cond.methodLink RL 57 yX8_obey ∈ lw_tbl := lw_of (i := 886) (by decide +kernel)
theorem kL_61M : Cond.methodLink RL 61 yX8_stopped ∈ lw_tbl := lw_of (i := 912) (by decide +kernel)
theorem kL_64M : Cond.methodLink RL 64 yX8_undo ∈ lw_tbl := lw_of (i := 919) (by decide +kernel)
theorem kL_67M : Cond.methodLink RL 67 yX8_restore ∈ lw_tbl := lw_of (i := 931) (by decide +kernel)
theorem kL_70M : Cond.methodLink RL 70 yX8_drumOf ∈ lw_tbl := lw_of (i := 939) (by decide +kernel)
theorem kL_73M : Cond.methodLink RL 73 yX8_sampleOf ∈ lw_tbl := lw_of (i := 946) (by decide +kernel)
theorem kL_76M : Cond.methodLink RL 76 yX8_reading ∈ lw_tbl := lw_of (i := 953) (by decide +kernel)
theorem kL_80M : Cond.methodLink RL 80 yX8_needle ∈ lw_tbl := lw_of (i := 961) (by decide +kernel)
theorem kL_83M : Cond.methodLink RL 83 yX8_bathOf ∈ lw_tbl := lw_of (i := 968) (by decide +kernel)
theorem kL_86M : Cond.methodLink RL 86 yX8_count ∈ lw_tbl := lw_of (i := 975) (by decide +kernel)
theorem kL_89M : Cond.methodLink RL 89 yX8_noSink ∈ lw_tbl := lw_of (i := 982) (by decide +kernel)
theorem kL_92M : Cond.methodLink RL 92 yX8_noSale ∈ lw_tbl := lw_of (i := 989) (by decide +kernel)
theorem kL_95M : Cond.methodLink RL 95 yX8_ifSunk ∈ lw_tbl := lw_of (i := 996) (by decide +kernel)
theorem kL_98M : Cond.methodLink RL 98 yX8_secondsTo ∈ lw_tbl := lw_of (i := 1004) (by decide +kernel)
theorem kL_101M : Cond.methodLink RL 101 yX8_readyIn ∈ lw_tbl := lw_of (i := 1011) (by decide +kernel)
theorem kL_104M : Cond.methodLink RL 104 yX8_bestBath ∈ lw_tbl := lw_of (i := 1018) (by decide +kernel)
theorem kL_107M : Cond.methodLink RL 107 yX8_init ∈ lw_tbl := lw_of (i := 26) (by decide +kernel)
theorem kL_108C : Cond.classLink RL 108 "BitumenNeedleModel" ∈ lw_tbl := lw_of (i := 1022) (by decide +kernel)
theorem kL_110M : Cond.methodLink RL 110 yX9_init ∈ lw_tbl := lw_of (i := 1024) (by decide +kernel)
theorem kL_111M : Cond.methodLink RL 111 yL_drum ∈ lw_tbl := lw_of (i := 577) (by decide +kernel)
theorem kL_116M : Cond.methodLink RL 116 yX9_drum ∈ lw_tbl := lw_of (i := 1063) (by decide +kernel)
theorem kL_117M : Cond.methodLink RL 117 yX9_thrown ∈ lw_tbl := lw_of (i := 1059) (by decide +kernel)
theorem kL_120M : Cond.methodLink RL 120 yL_age ∈ lw_tbl := lw_of (i := 708) (by decide +kernel)
theorem kL_122M : Cond.methodLink RL 122 yX9_age ∈ lw_tbl := lw_of (i := 1082) (by decide +kernel)
theorem kL_123M : Cond.methodLink RL 123 yL_sample ∈ lw_tbl := lw_of (i := 720) (by decide +kernel)
theorem kL_125M : Cond.methodLink RL 125 yX9_sample ∈ lw_tbl := lw_of (i := 1090) (by decide +kernel)
theorem kL_126M : Cond.methodLink RL 126 yL_toss ∈ lw_tbl := lw_of (i := 742) (by decide +kernel)
theorem kL_128M : Cond.methodLink RL 128 yX9_toss ∈ lw_tbl := lw_of (i := 1110) (by decide +kernel)
theorem kL_129M : Cond.methodLink RL 129 yL_bath ∈ lw_tbl := lw_of (i := 757) (by decide +kernel)
theorem kL_132M : Cond.methodLink RL 132 yX9_bath ∈ lw_tbl := lw_of (i := 1122) (by decide +kernel)
theorem kL_133M : Cond.methodLink RL 133 yL_warm ∈ lw_tbl := lw_of (i := 776) (by decide +kernel)
theorem kL_135M : Cond.methodLink RL 135 yX9_warm ∈ lw_tbl := lw_of (i := 1141) (by decide +kernel)
theorem kL_136M : Cond.methodLink RL 136 yL_pass ∈ lw_tbl := lw_of (i := 783) (by decide +kernel)
theorem kL_138M : Cond.methodLink RL 138 yX9_pass ∈ lw_tbl := lw_of (i := 1145) (by decide +kernel)
theorem kL_139M : Cond.methodLink RL 139 yL_sink ∈ lw_tbl := lw_of (i := 798) (by decide +kernel)
theorem kL_142M : Cond.methodLink RL 142 yX9_sink ∈ lw_tbl := lw_of (i := 1159) (by decide +kernel)
theorem kL_143M : Cond.methodLink RL 143 yL_renew ∈ lw_tbl := lw_of (i := 827) (by decide +kernel)
theorem kL_145M : Cond.methodLink RL 145 yX9_renew ∈ lw_tbl := lw_of (i := 1182) (by decide +kernel)
theorem kL_146M : Cond.methodLink RL 146 yL_ring ∈ lw_tbl := lw_of (i := 838) (by decide +kernel)
theorem kL_148M : Cond.methodLink RL 148 yX9_ring ∈ lw_tbl := lw_of (i := 1186) (by decide +kernel)
theorem kL_149M : Cond.methodLink RL 149 yL_sell ∈ lw_tbl := lw_of (i := 853) (by decide +kernel)
theorem kL_151M : Cond.methodLink RL 151 yX9_sell ∈ lw_tbl := lw_of (i := 1194) (by decide +kernel)
theorem kL_152M : Cond.methodLink RL 152 yL_set ∈ lw_tbl := lw_of (i := 863) (by decide +kernel)
theorem kL_154M : Cond.methodLink RL 154 yX9_set ∈ lw_tbl := lw_of (i := 1234) (by decide +kernel)
theorem kL_155M : Cond.methodLink RL 155 yL_append ∈ lw_tbl := lw_of (i := 872) (by decide +kernel)
theorem kL_157M : Cond.methodLink RL 157 yX9_append ∈ lw_tbl := lw_of (i := 1238) (by decide +kernel)
theorem kL_158M : Cond.methodLink RL 158 yX8_clearBuffer ∈ lw_tbl := lw_of (i := 258) (by decide +kernel)
theorem kL_161M : Cond.methodLink RL 161 yX9_clearBuffer ∈ lw_tbl := lw_of (i := 1242) (by decide +kernel)
theorem kL_162M : Cond.methodLink RL 162 yX8_firstError ∈ lw_tbl := lw_of (i := 266) (by decide +kernel)
theorem kL_165M : Cond.methodLink RL 165 yX9_firstError ∈ lw_tbl := lw_of (i := 1246) (by decide +kernel)
theorem kL_166M : Cond.methodLink RL 166 yL_obey ∈ lw_tbl := lw_of (i := 883) (by decide +kernel)
theorem kL_169M : Cond.methodLink RL 169 yX9_obey ∈ lw_tbl := lw_of (i := 1277) (by decide +kernel)
theorem kL_170M : Cond.methodLink RL 170 yL_stopped ∈ lw_tbl := lw_of (i := 909) (by decide +kernel)
theorem kL_172M : Cond.methodLink RL 172 yX9_stopped ∈ lw_tbl := lw_of (i := 1289) (by decide +kernel)
theorem kL_173M : Cond.methodLink RL 173 yL_undo ∈ lw_tbl := lw_of (i := 916) (by decide +kernel)
theorem kL_175M : Cond.methodLink RL 175 yX9_undo ∈ lw_tbl := lw_of (i := 1293) (by decide +kernel)
theorem kL_176M : Cond.methodLink RL 176 yX8_keep ∈ lw_tbl := lw_of (i := 371) (by decide +kernel)
theorem kL_179M : Cond.methodLink RL 179 yX9_keep ∈ lw_tbl := lw_of (i := 1297) (by decide +kernel)
theorem kL_180M : Cond.methodLink RL 180 yL_restore ∈ lw_tbl := lw_of (i := 928) (by decide +kernel)
theorem kL_182M : Cond.methodLink RL 182 yX9_restore ∈ lw_tbl := lw_of (i := 1301) (by decide +kernel)
theorem kL_183M : Cond.methodLink RL 183 yL_drumOf ∈ lw_tbl := lw_of (i := 936) (by decide +kernel)
theorem kL_185M : Cond.methodLink RL 185 yX9_drumOf ∈ lw_tbl := lw_of (i := 1305) (by decide +kernel)
theorem kL_186M : Cond.methodLink RL 186 yL_sampleOf ∈ lw_tbl := lw_of (i := 943) (by decide +kernel)
theorem kL_188M : Cond.methodLink RL 188 yX9_sampleOf ∈ lw_tbl := lw_of (i := 1317) (by decide +kernel)
theorem kL_189M : Cond.methodLink RL 189 yL_reading ∈ lw_tbl := lw_of (i := 950) (by decide +kernel)
theorem kL_192M : Cond.methodLink RL 192 yX9_reading ∈ lw_tbl := lw_of (i := 1325) (by decide +kernel)
theorem kL_193M : Cond.methodLink RL 193 yL_needle ∈ lw_tbl := lw_of (i := 958) (by decide +kernel)
theorem kL_195M : Cond.methodLink RL 195 yX9_needle ∈ lw_tbl := lw_of (i := 1329) (by decide +kernel)
theorem kL_196M : Cond.methodLink RL 196 yL_bathOf ∈ lw_tbl := lw_of (i := 965) (by decide +kernel)
theorem kL_198M : Cond.methodLink RL 198 yX9_bathOf ∈ lw_tbl := lw_of (i := 1333) (by decide +kernel)
theorem kL_199M : Cond.methodLink RL 199 yL_count ∈ lw_tbl := lw_of (i := 972) (by decide +kernel)
theorem kL_201M : Cond.methodLink RL 201 yX9_count ∈ lw_tbl := lw_of (i := 1345) (by decide +kernel)
theorem kL_202M : Cond.methodLink RL 202 yL_noSink ∈ lw_tbl := lw_of (i := 979) (by decide +kernel)
theorem kL_204M : Cond.methodLink RL 204 yX9_noSink ∈ lw_tbl := lw_of (i := 1361) (by decide +kernel)
theorem kL_205M : Cond.methodLink RL 205 yL_noSale ∈ lw_tbl := lw_of (i := 986) (by decide +kernel)
theorem kL_207M : Cond.methodLink RL 207 yX9_noSale ∈ lw_tbl := lw_of (i := 1365) (by decide +kernel)
theorem kL_208M : Cond.methodLink RL 208 yL_ifSunk ∈ lw_tbl := lw_of (i := 993) (by decide +kernel)
theorem kL_210M : Cond.methodLink RL 210 yX9_ifSunk ∈ lw_tbl := lw_of (i := 1369) (by decide +kernel)
theorem kL_211M : Cond.methodLink RL 211 yL_secondsTo ∈ lw_tbl := lw_of (i := 1001) (by decide +kernel)
theorem kL_213M : Cond.methodLink RL 213 yX9_secondsTo ∈ lw_tbl := lw_of (i := 1373) (by decide +kernel)
theorem kL_214M : Cond.methodLink RL 214 yL_readyIn ∈ lw_tbl := lw_of (i := 1008) (by decide +kernel)
theorem kL_216M : Cond.methodLink RL 216 yX9_readyIn ∈ lw_tbl := lw_of (i := 1377) (by decide +kernel)
theorem kL_217M : Cond.methodLink RL 217 yL_bestBath ∈ lw_tbl := lw_of (i := 1015) (by decide +kernel)
theorem kL_219M : Cond.methodLink RL 219 yX9_bestBath ∈ lw_tbl := lw_of (i := 1389) (by decide +kernel)
theorem kL_220M : Cond.methodLink RL 220 yX8_readShare ∈ lw_tbl := lw_of (i := 395) (by decide +kernel)
theorem kL_224M : Cond.methodLink RL 224 yX9_readShare ∈ lw_tbl := lw_of (i := 1397) (by decide +kernel)
theorem kL_225M : Cond.methodLink RL 225 yX8_digest ∈ lw_tbl := lw_of (i := 413) (by decide +kernel)
theorem kL_229M : Cond.methodLink RL 229 yX9_digest ∈ lw_tbl := lw_of (i := 1405) (by decide +kernel)
theorem dL_drum_0 : decode cL_drum 0 = .ok (.aload_n 2, 1) := by decide +kernel
theorem dL_drum_1 : decode cL_drum 1 = .ok (.iconst 0, 1) := by decide +kernel
theorem dL_drum_2 : decode cL_drum 2 = .ok (.aload_n 0, 1) := by decide +kernel
theorem dL_drum_3 : decode cL_drum 3 = .ok (.iload_n 1, 1) := by decide +kernel
theorem dL_drum_4 : decode cL_drum 4 = .ok (.invokevirtual 7, 3) := by decide +kernel
theorem dL_drum_7 : decode cL_drum 7 = .ok (.i2l, 1) := by decide +kernel
theorem dL_drum_8 : decode cL_drum 8 = .ok (.lastore, 1) := by decide +kernel
theorem dL_drum_9 : decode cL_drum 9 = .ok (.goto 9, 3) := by decide +kernel
theorem dL_drum_12 : decode cL_drum 12 = .ok (.astore_n 3, 1) := by decide +kernel
theorem dL_drum_13 : decode cL_drum 13 = .ok (.iconst 1, 1) := by decide +kernel
theorem dL_drum_14 : decode cL_drum 14 = .ok (.ireturn, 1) := by decide +kernel
theorem dL_drum_15 : decode cL_drum 15 = .ok (.astore_n 3, 1) := by decide +kernel
theorem dL_drum_16 : decode cL_drum 16 = .ok (.iconst 2, 1) := by decide +kernel
theorem dL_drum_17 : decode cL_drum 17 = .ok (.ireturn, 1) := by decide +kernel
theorem dL_drum_18 : decode cL_drum 18 = .ok (.iconst 0, 1) := by decide +kernel
theorem dL_drum_19 : decode cL_drum 19 = .ok (.ireturn, 1) := by decide +kernel
theorem dL_age_0 : decode cL_age 0 = .ok (.aload_n 2, 1) := by decide +kernel
theorem dL_age_1 : decode cL_age 1 = .ok (.iconst 0, 1) := by decide +kernel
theorem dL_age_2 : decode cL_age 2 = .ok (.aload_n 0, 1) := by decide +kernel
theorem dL_age_3 : decode cL_age 3 = .ok (.iload_n 1, 1) := by decide +kernel
theorem dL_age_4 : decode cL_age 4 = .ok (.invokevirtual 17, 3) := by decide +kernel
theorem dL_age_7 : decode cL_age 7 = .ok (.i2l, 1) := by decide +kernel
theorem dL_age_8 : decode cL_age 8 = .ok (.lastore, 1) := by decide +kernel
theorem dL_age_9 : decode cL_age 9 = .ok (.goto 6, 3) := by decide +kernel
theorem dL_age_12 : decode cL_age 12 = .ok (.astore_n 3, 1) := by decide +kernel
theorem dL_age_13 : decode cL_age 13 = .ok (.iconst 1, 1) := by decide +kernel
theorem dL_age_14 : decode cL_age 14 = .ok (.ireturn, 1) := by decide +kernel
theorem dL_age_15 : decode cL_age 15 = .ok (.iconst 0, 1) := by decide +kernel
theorem dL_age_16 : decode cL_age 16 = .ok (.ireturn, 1) := by decide +kernel
theorem dL_sample_0 : decode cL_sample 0 = .ok (.aload_n 2, 1) := by decide +kernel
theorem dL_sample_1 : decode cL_sample 1 = .ok (.iconst 0, 1) := by decide +kernel
theorem dL_sample_2 : decode cL_sample 2 = .ok (.aload_n 0, 1) := by decide +kernel
theorem dL_sample_3 : decode cL_sample 3 = .ok (.iload_n 1, 1) := by decide +kernel
theorem dL_sample_4 : decode cL_sample 4 = .ok (.invokevirtual 20, 3) := by decide +kernel
theorem dL_sample_7 : decode cL_sample 7 = .ok (.i2l, 1) := by decide +kernel
theorem dL_sample_8 : decode cL_sample 8 = .ok (.lastore, 1) := by decide +kernel
theorem dL_sample_9 : decode cL_sample 9 = .ok (.goto 9, 3) := by decide +kernel
theorem dL_sample_12 : decode cL_sample 12 = .ok (.astore_n 3, 1) := by decide +kernel
theorem dL_sample_13 : decode cL_sample 13 = .ok (.iconst 1, 1) := by decide +kernel
theorem dL_sample_14 : decode cL_sample 14 = .ok (.ireturn, 1) := by decide +kernel
theorem dL_sample_15 : decode cL_sample 15 = .ok (.astore_n 3, 1) := by decide +kernel
theorem dL_sample_16 : decode cL_sample 16 = .ok (.iconst 2, 1) := by decide +kernel
theorem dL_sample_17 : decode cL_sample 17 = .ok (.ireturn, 1) := by decide +kernel
theorem dL_sample_18 : decode cL_sample 18 = .ok (.iconst 0, 1) := by decide +kernel
theorem dL_sample_19 : decode cL_sample 19 = .ok (.ireturn, 1) := by decide +kernel
theorem dL_toss_0 : decode cL_toss 0 = .ok (.aload_n 2, 1) := by decide +kernel
theorem dL_toss_1 : decode cL_toss 1 = .ok (.iconst 0, 1) := by decide +kernel
theorem dL_toss_2 : decode cL_toss 2 = .ok (.aload_n 0, 1) := by decide +kernel
theorem dL_toss_3 : decode cL_toss 3 = .ok (.iload_n 1, 1) := by decide +kernel
theorem dL_toss_4 : decode cL_toss 4 = .ok (.invokevirtual 25, 3) := by decide +kernel
theorem dL_toss_7 : decode cL_toss 7 = .ok (.i2l, 1) := by decide +kernel
theorem dL_toss_8 : decode cL_toss 8 = .ok (.lastore, 1) := by decide +kernel
theorem dL_toss_9 : decode cL_toss 9 = .ok (.goto 6, 3) := by decide +kernel
theorem dL_toss_12 : decode cL_toss 12 = .ok (.astore_n 3, 1) := by decide +kernel
theorem dL_toss_13 : decode cL_toss 13 = .ok (.iconst 1, 1) := by decide +kernel
theorem dL_toss_14 : decode cL_toss 14 = .ok (.ireturn, 1) := by decide +kernel
theorem dL_toss_15 : decode cL_toss 15 = .ok (.iconst 0, 1) := by decide +kernel
theorem dL_toss_16 : decode cL_toss 16 = .ok (.ireturn, 1) := by decide +kernel
theorem dL_bath_0 : decode cL_bath 0 = .ok (.aload_n 3, 1) := by decide +kernel
theorem dL_bath_1 : decode cL_bath 1 = .ok (.iconst 0, 1) := by decide +kernel
theorem dL_bath_2 : decode cL_bath 2 = .ok (.aload_n 0, 1) := by decide +kernel
theorem dL_bath_3 : decode cL_bath 3 = .ok (.iload_n 1, 1) := by decide +kernel
theorem dL_bath_4 : decode cL_bath 4 = .ok (.iload_n 2, 1) := by decide +kernel
theorem dL_bath_5 : decode cL_bath 5 = .ok (.invokevirtual 28, 3) := by decide +kernel
theorem dL_bath_8 : decode cL_bath 8 = .ok (.i2l, 1) := by decide +kernel
theorem dL_bath_9 : decode cL_bath 9 = .ok (.lastore, 1) := by decide +kernel
theorem dL_bath_10 : decode cL_bath 10 = .ok (.goto 11, 3) := by decide +kernel
theorem dL_bath_13 : decode cL_bath 13 = .ok (.astore 4, 2) := by decide +kernel
theorem dL_bath_15 : decode cL_bath 15 = .ok (.iconst 1, 1) := by decide +kernel
theorem dL_bath_16 : decode cL_bath 16 = .ok (.ireturn, 1) := by decide +kernel
theorem dL_bath_17 : decode cL_bath 17 = .ok (.astore 4, 2) := by decide +kernel
theorem dL_bath_19 : decode cL_bath 19 = .ok (.iconst 2, 1) := by decide +kernel
theorem dL_bath_20 : decode cL_bath 20 = .ok (.ireturn, 1) := by decide +kernel
theorem dL_bath_21 : decode cL_bath 21 = .ok (.iconst 0, 1) := by decide +kernel
theorem dL_bath_22 : decode cL_bath 22 = .ok (.ireturn, 1) := by decide +kernel
theorem dL_warm_0 : decode cL_warm 0 = .ok (.aload_n 3, 1) := by decide +kernel
theorem dL_warm_1 : decode cL_warm 1 = .ok (.iconst 0, 1) := by decide +kernel
theorem dL_warm_2 : decode cL_warm 2 = .ok (.aload_n 0, 1) := by decide +kernel
theorem dL_warm_3 : decode cL_warm 3 = .ok (.iload_n 1, 1) := by decide +kernel
theorem dL_warm_4 : decode cL_warm 4 = .ok (.iload_n 2, 1) := by decide +kernel
theorem dL_warm_5 : decode cL_warm 5 = .ok (.invokevirtual 32, 3) := by decide +kernel
theorem dL_warm_8 : decode cL_warm 8 = .ok (.i2l, 1) := by decide +kernel
theorem dL_warm_9 : decode cL_warm 9 = .ok (.lastore, 1) := by decide +kernel
theorem dL_warm_10 : decode cL_warm 10 = .ok (.goto 11, 3) := by decide +kernel
theorem dL_warm_13 : decode cL_warm 13 = .ok (.astore 4, 2) := by decide +kernel
theorem dL_warm_15 : decode cL_warm 15 = .ok (.iconst 1, 1) := by decide +kernel
theorem dL_warm_16 : decode cL_warm 16 = .ok (.ireturn, 1) := by decide +kernel
theorem dL_warm_17 : decode cL_warm 17 = .ok (.astore 4, 2) := by decide +kernel
theorem dL_warm_19 : decode cL_warm 19 = .ok (.iconst 2, 1) := by decide +kernel
theorem dL_warm_20 : decode cL_warm 20 = .ok (.ireturn, 1) := by decide +kernel
theorem dL_warm_21 : decode cL_warm 21 = .ok (.iconst 0, 1) := by decide +kernel
theorem dL_warm_22 : decode cL_warm 22 = .ok (.ireturn, 1) := by decide +kernel
theorem dL_pass_0 : decode cL_pass 0 = .ok (.aload_n 2, 1) := by decide +kernel
theorem dL_pass_1 : decode cL_pass 1 = .ok (.iconst 0, 1) := by decide +kernel
theorem dL_pass_2 : decode cL_pass 2 = .ok (.aload_n 0, 1) := by decide +kernel
theorem dL_pass_3 : decode cL_pass 3 = .ok (.iload_n 1, 1) := by decide +kernel
theorem dL_pass_4 : decode cL_pass 4 = .ok (.invokevirtual 35, 3) := by decide +kernel
theorem dL_pass_7 : decode cL_pass 7 = .ok (.i2l, 1) := by decide +kernel
theorem dL_pass_8 : decode cL_pass 8 = .ok (.lastore, 1) := by decide +kernel
theorem dL_pass_9 : decode cL_pass 9 = .ok (.goto 6, 3) := by decide +kernel
theorem dL_pass_12 : decode cL_pass 12 = .ok (.astore_n 3, 1) := by decide +kernel
theorem dL_pass_13 : decode cL_pass 13 = .ok (.iconst 1, 1) := by decide +kernel
theorem dL_pass_14 : decode cL_pass 14 = .ok (.ireturn, 1) := by decide +kernel
theorem dL_pass_15 : decode cL_pass 15 = .ok (.iconst 0, 1) := by decide +kernel
theorem dL_pass_16 : decode cL_pass 16 = .ok (.ireturn, 1) := by decide +kernel
theorem dL_sink_0 : decode cL_sink 0 = .ok (.aload 5, 2) := by decide +kernel
theorem dL_sink_2 : decode cL_sink 2 = .ok (.iconst 0, 1) := by decide +kernel
theorem dL_sink_3 : decode cL_sink 3 = .ok (.aload_n 0, 1) := by decide +kernel
theorem dL_sink_4 : decode cL_sink 4 = .ok (.iload_n 1, 1) := by decide +kernel
theorem dL_sink_5 : decode cL_sink 5 = .ok (.iload_n 2, 1) := by decide +kernel
theorem dL_sink_6 : decode cL_sink 6 = .ok (.iload_n 3, 1) := by decide +kernel
theorem dL_sink_7 : decode cL_sink 7 = .ok (.iload 4, 2) := by decide +kernel
theorem dL_sink_9 : decode cL_sink 9 = .ok (.invokevirtual 38, 3) := by decide +kernel
theorem dL_sink_12 : decode cL_sink 12 = .ok (.i2l, 1) := by decide +kernel
theorem dL_sink_13 : decode cL_sink 13 = .ok (.lastore, 1) := by decide +kernel
theorem dL_sink_14 : decode cL_sink 14 = .ok (.goto 15, 3) := by decide +kernel
theorem dL_sink_17 : decode cL_sink 17 = .ok (.astore 6, 2) := by decide +kernel
theorem dL_sink_19 : decode cL_sink 19 = .ok (.iconst 1, 1) := by decide +kernel
theorem dL_sink_20 : decode cL_sink 20 = .ok (.ireturn, 1) := by decide +kernel
theorem dL_sink_21 : decode cL_sink 21 = .ok (.astore 6, 2) := by decide +kernel
theorem dL_sink_23 : decode cL_sink 23 = .ok (.iconst 2, 1) := by decide +kernel
theorem dL_sink_24 : decode cL_sink 24 = .ok (.ireturn, 1) := by decide +kernel
theorem dL_sink_25 : decode cL_sink 25 = .ok (.astore 6, 2) := by decide +kernel
theorem dL_sink_27 : decode cL_sink 27 = .ok (.iconst 3, 1) := by decide +kernel
theorem dL_sink_28 : decode cL_sink 28 = .ok (.ireturn, 1) := by decide +kernel
theorem dL_sink_29 : decode cL_sink 29 = .ok (.iconst 0, 1) := by decide +kernel
theorem dL_sink_30 : decode cL_sink 30 = .ok (.ireturn, 1) := by decide +kernel
theorem dL_renew_0 : decode cL_renew 0 = .ok (.aload_n 2, 1) := by decide +kernel
theorem dL_renew_1 : decode cL_renew 1 = .ok (.iconst 0, 1) := by decide +kernel
theorem dL_renew_2 : decode cL_renew 2 = .ok (.aload_n 0, 1) := by decide +kernel
theorem dL_renew_3 : decode cL_renew 3 = .ok (.iload_n 1, 1) := by decide +kernel
theorem dL_renew_4 : decode cL_renew 4 = .ok (.invokevirtual 42, 3) := by decide +kernel
theorem dL_renew_7 : decode cL_renew 7 = .ok (.i2l, 1) := by decide +kernel
theorem dL_renew_8 : decode cL_renew 8 = .ok (.lastore, 1) := by decide +kernel
theorem dL_renew_9 : decode cL_renew 9 = .ok (.goto 6, 3) := by decide +kernel
theorem dL_renew_12 : decode cL_renew 12 = .ok (.astore_n 3, 1) := by decide +kernel
theorem dL_renew_13 : decode cL_renew 13 = .ok (.iconst 1, 1) := by decide +kernel
theorem dL_renew_14 : decode cL_renew 14 = .ok (.ireturn, 1) := by decide +kernel
theorem dL_renew_15 : decode cL_renew 15 = .ok (.iconst 0, 1) := by decide +kernel
theorem dL_renew_16 : decode cL_renew 16 = .ok (.ireturn, 1) := by decide +kernel
theorem dL_ring_0 : decode cL_ring 0 = .ok (.aload_n 2, 1) := by decide +kernel
theorem dL_ring_1 : decode cL_ring 1 = .ok (.iconst 0, 1) := by decide +kernel
theorem dL_ring_2 : decode cL_ring 2 = .ok (.aload_n 0, 1) := by decide +kernel
theorem dL_ring_3 : decode cL_ring 3 = .ok (.iload_n 1, 1) := by decide +kernel
theorem dL_ring_4 : decode cL_ring 4 = .ok (.invokevirtual 45, 3) := by decide +kernel
theorem dL_ring_7 : decode cL_ring 7 = .ok (.i2l, 1) := by decide +kernel
theorem dL_ring_8 : decode cL_ring 8 = .ok (.lastore, 1) := by decide +kernel
theorem dL_ring_9 : decode cL_ring 9 = .ok (.goto 9, 3) := by decide +kernel
theorem dL_ring_12 : decode cL_ring 12 = .ok (.astore_n 3, 1) := by decide +kernel
theorem dL_ring_13 : decode cL_ring 13 = .ok (.iconst 1, 1) := by decide +kernel
theorem dL_ring_14 : decode cL_ring 14 = .ok (.ireturn, 1) := by decide +kernel
theorem dL_ring_15 : decode cL_ring 15 = .ok (.astore_n 3, 1) := by decide +kernel
theorem dL_ring_16 : decode cL_ring 16 = .ok (.iconst 2, 1) := by decide +kernel
theorem dL_ring_17 : decode cL_ring 17 = .ok (.ireturn, 1) := by decide +kernel
theorem dL_ring_18 : decode cL_ring 18 = .ok (.iconst 0, 1) := by decide +kernel
theorem dL_ring_19 : decode cL_ring 19 = .ok (.ireturn, 1) := by decide +kernel
theorem dL_sell_0 : decode cL_sell 0 = .ok (.aload_n 2, 1) := by decide +kernel
theorem dL_sell_1 : decode cL_sell 1 = .ok (.iconst 0, 1) := by decide +kernel
theorem dL_sell_2 : decode cL_sell 2 = .ok (.aload_n 0, 1) := by decide +kernel
theorem dL_sell_3 : decode cL_sell 3 = .ok (.iload_n 1, 1) := by decide +kernel
theorem dL_sell_4 : decode cL_sell 4 = .ok (.invokevirtual 48, 3) := by decide +kernel
theorem dL_sell_7 : decode cL_sell 7 = .ok (.i2l, 1) := by decide +kernel
theorem dL_sell_8 : decode cL_sell 8 = .ok (.lastore, 1) := by decide +kernel
theorem dL_sell_9 : decode cL_sell 9 = .ok (.goto 9, 3) := by decide +kernel
theorem dL_sell_12 : decode cL_sell 12 = .ok (.astore_n 3, 1) := by decide +kernel
theorem dL_sell_13 : decode cL_sell 13 = .ok (.iconst 1, 1) := by decide +kernel
theorem dL_sell_14 : decode cL_sell 14 = .ok (.ireturn, 1) := by decide +kernel
theorem dL_sell_15 : decode cL_sell 15 = .ok (.astore_n 3, 1) := by decide +kernel
theorem dL_sell_16 : decode cL_sell 16 = .ok (.iconst 2, 1) := by decide +kernel
theorem dL_sell_17 : decode cL_sell 17 = .ok (.ireturn, 1) := by decide +kernel
theorem dL_sell_18 : decode cL_sell 18 = .ok (.iconst 0, 1) := by decide +kernel
theorem dL_sell_19 : decode cL_sell 19 = .ok (.ireturn, 1) := by decide +kernel
theorem dL_set_0 : decode cL_set 0 = .ok (.aload_n 3, 1) := by decide +kernel
theorem dL_set_1 : decode cL_set 1 = .ok (.iconst 0, 1) := by decide +kernel
theorem dL_set_2 : decode cL_set 2 = .ok (.aload_n 0, 1) := by decide +kernel
theorem dL_set_3 : decode cL_set 3 = .ok (.iload_n 1, 1) := by decide +kernel
theorem dL_set_4 : decode cL_set 4 = .ok (.iload_n 2, 1) := by decide +kernel
theorem dL_set_5 : decode cL_set 5 = .ok (.invokevirtual 51, 3) := by decide +kernel
theorem dL_set_8 : decode cL_set 8 = .ok (.i2l, 1) := by decide +kernel
theorem dL_set_9 : decode cL_set 9 = .ok (.lastore, 1) := by decide +kernel
theorem dL_set_10 : decode cL_set 10 = .ok (.goto 11, 3) := by decide +kernel
theorem dL_set_13 : decode cL_set 13 = .ok (.astore 4, 2) := by decide +kernel
theorem dL_set_15 : decode cL_set 15 = .ok (.iconst 1, 1) := by decide +kernel
theorem dL_set_16 : decode cL_set 16 = .ok (.ireturn, 1) := by decide +kernel
theorem dL_set_17 : decode cL_set 17 = .ok (.astore 4, 2) := by decide +kernel
theorem dL_set_19 : decode cL_set 19 = .ok (.iconst 2, 1) := by decide +kernel
theorem dL_set_20 : decode cL_set 20 = .ok (.ireturn, 1) := by decide +kernel
theorem dL_set_21 : decode cL_set 21 = .ok (.iconst 0, 1) := by decide +kernel
theorem dL_set_22 : decode cL_set 22 = .ok (.ireturn, 1) := by decide +kernel
theorem dL_append_0 : decode cL_append 0 = .ok (.aload_n 2, 1) := by decide +kernel
theorem dL_append_1 : decode cL_append 1 = .ok (.iconst 0, 1) := by decide +kernel
theorem dL_append_2 : decode cL_append 2 = .ok (.aload_n 0, 1) := by decide +kernel
theorem dL_append_3 : decode cL_append 3 = .ok (.iload_n 1, 1) := by decide +kernel
theorem dL_append_4 : decode cL_append 4 = .ok (.invokevirtual 54, 3) := by decide +kernel
theorem dL_append_7 : decode cL_append 7 = .ok (.i2l, 1) := by decide +kernel
theorem dL_append_8 : decode cL_append 8 = .ok (.lastore, 1) := by decide +kernel
theorem dL_append_9 : decode cL_append 9 = .ok (.goto 9, 3) := by decide +kernel
theorem dL_append_12 : decode cL_append 12 = .ok (.astore_n 3, 1) := by decide +kernel
theorem dL_append_13 : decode cL_append 13 = .ok (.iconst 1, 1) := by decide +kernel
theorem dL_append_14 : decode cL_append 14 = .ok (.ireturn, 1) := by decide +kernel
theorem dL_append_15 : decode cL_append 15 = .ok (.astore_n 3, 1) := by decide +kernel
theorem dL_append_16 : decode cL_append 16 = .ok (.iconst 2, 1) := by decide +kernel
theorem dL_append_17 : decode cL_append 17 = .ok (.ireturn, 1) := by decide +kernel
theorem dL_append_18 : decode cL_append 18 = .ok (.iconst 0, 1) := by decide +kernel
theorem dL_append_19 : decode cL_append 19 = .ok (.ireturn, 1) := by decide +kernel
theorem dL_obey_0 : decode cL_obey 0 = .ok (.aload_n 1, 1) := by decide +kernel
theorem dL_obey_1 : decode cL_obey 1 = .ok (.iconst 0, 1) := by decide +kernel
theorem dL_obey_2 : decode cL_obey 2 = .ok (.aload_n 0, 1) := by decide +kernel
theorem dL_obey_3 : decode cL_obey 3 = .ok (.invokevirtual 57, 3) := by decide +kernel
theorem dL_obey_6 : decode cL_obey 6 = .ok (.i2l, 1) := by decide +kernel
theorem dL_obey_7 : decode cL_obey 7 = .ok (.lastore, 1) := by decide +kernel
theorem dL_obey_8 : decode cL_obey 8 = .ok (.goto 6, 3) := by decide +kernel
theorem dL_obey_11 : decode cL_obey 11 = .ok (.astore_n 2, 1) := by decide +kernel
theorem dL_obey_12 : decode cL_obey 12 = .ok (.iconst 1, 1) := by decide +kernel
theorem dL_obey_13 : decode cL_obey 13 = .ok (.ireturn, 1) := by decide +kernel
theorem dL_obey_14 : decode cL_obey 14 = .ok (.iconst 0, 1) := by decide +kernel
theorem dL_obey_15 : decode cL_obey 15 = .ok (.ireturn, 1) := by decide +kernel
theorem dL_stopped_0 : decode cL_stopped 0 = .ok (.aload_n 2, 1) := by decide +kernel
theorem dL_stopped_1 : decode cL_stopped 1 = .ok (.iconst 0, 1) := by decide +kernel
theorem dL_stopped_2 : decode cL_stopped 2 = .ok (.aload_n 0, 1) := by decide +kernel
theorem dL_stopped_3 : decode cL_stopped 3 = .ok (.iload_n 1, 1) := by decide +kernel
theorem dL_stopped_4 : decode cL_stopped 4 = .ok (.invokevirtual 61, 3) := by decide +kernel
theorem dL_stopped_7 : decode cL_stopped 7 = .ok (.i2l, 1) := by decide +kernel
theorem dL_stopped_8 : decode cL_stopped 8 = .ok (.lastore, 1) := by decide +kernel
theorem dL_stopped_9 : decode cL_stopped 9 = .ok (.goto 6, 3) := by decide +kernel
theorem dL_stopped_12 : decode cL_stopped 12 = .ok (.astore_n 3, 1) := by decide +kernel
theorem dL_stopped_13 : decode cL_stopped 13 = .ok (.iconst 1, 1) := by decide +kernel
theorem dL_stopped_14 : decode cL_stopped 14 = .ok (.ireturn, 1) := by decide +kernel
theorem dL_stopped_15 : decode cL_stopped 15 = .ok (.iconst 0, 1) := by decide +kernel
theorem dL_stopped_16 : decode cL_stopped 16 = .ok (.ireturn, 1) := by decide +kernel
theorem dL_undo_0 : decode cL_undo 0 = .ok (.aload_n 1, 1) := by decide +kernel
theorem dL_undo_1 : decode cL_undo 1 = .ok (.iconst 0, 1) := by decide +kernel
theorem dL_undo_2 : decode cL_undo 2 = .ok (.aload_n 0, 1) := by decide +kernel
theorem dL_undo_3 : decode cL_undo 3 = .ok (.invokevirtual 64, 3) := by decide +kernel
theorem dL_undo_6 : decode cL_undo 6 = .ok (.i2l, 1) := by decide +kernel
theorem dL_undo_7 : decode cL_undo 7 = .ok (.lastore, 1) := by decide +kernel
theorem dL_undo_8 : decode cL_undo 8 = .ok (.goto 6, 3) := by decide +kernel
theorem dL_undo_11 : decode cL_undo 11 = .ok (.astore_n 2, 1) := by decide +kernel
theorem dL_undo_12 : decode cL_undo 12 = .ok (.iconst 1, 1) := by decide +kernel
theorem dL_undo_13 : decode cL_undo 13 = .ok (.ireturn, 1) := by decide +kernel
theorem dL_undo_14 : decode cL_undo 14 = .ok (.iconst 0, 1) := by decide +kernel
theorem dL_undo_15 : decode cL_undo 15 = .ok (.ireturn, 1) := by decide +kernel
theorem dL_restore_0 : decode cL_restore 0 = .ok (.aload_n 1, 1) := by decide +kernel
theorem dL_restore_1 : decode cL_restore 1 = .ok (.iconst 0, 1) := by decide +kernel
theorem dL_restore_2 : decode cL_restore 2 = .ok (.aload_n 0, 1) := by decide +kernel
theorem dL_restore_3 : decode cL_restore 3 = .ok (.invokevirtual 67, 3) := by decide +kernel
theorem dL_restore_6 : decode cL_restore 6 = .ok (.i2l, 1) := by decide +kernel
theorem dL_restore_7 : decode cL_restore 7 = .ok (.lastore, 1) := by decide +kernel
theorem dL_restore_8 : decode cL_restore 8 = .ok (.goto 6, 3) := by decide +kernel
theorem dL_restore_11 : decode cL_restore 11 = .ok (.astore_n 2, 1) := by decide +kernel
theorem dL_restore_12 : decode cL_restore 12 = .ok (.iconst 1, 1) := by decide +kernel
theorem dL_restore_13 : decode cL_restore 13 = .ok (.ireturn, 1) := by decide +kernel
theorem dL_restore_14 : decode cL_restore 14 = .ok (.iconst 0, 1) := by decide +kernel
theorem dL_restore_15 : decode cL_restore 15 = .ok (.ireturn, 1) := by decide +kernel
theorem dL_drumOf_0 : decode cL_drumOf 0 = .ok (.aload_n 3, 1) := by decide +kernel
theorem dL_drumOf_1 : decode cL_drumOf 1 = .ok (.iconst 0, 1) := by decide +kernel
theorem dL_drumOf_2 : decode cL_drumOf 2 = .ok (.aload_n 0, 1) := by decide +kernel
theorem dL_drumOf_3 : decode cL_drumOf 3 = .ok (.iload_n 1, 1) := by decide +kernel
theorem dL_drumOf_4 : decode cL_drumOf 4 = .ok (.iload_n 2, 1) := by decide +kernel
theorem dL_drumOf_5 : decode cL_drumOf 5 = .ok (.invokevirtual 70, 3) := by decide +kernel
theorem dL_drumOf_8 : decode cL_drumOf 8 = .ok (.i2l, 1) := by decide +kernel
theorem dL_drumOf_9 : decode cL_drumOf 9 = .ok (.lastore, 1) := by decide +kernel
theorem dL_drumOf_10 : decode cL_drumOf 10 = .ok (.goto 11, 3) := by decide +kernel
theorem dL_drumOf_13 : decode cL_drumOf 13 = .ok (.astore 4, 2) := by decide +kernel
theorem dL_drumOf_15 : decode cL_drumOf 15 = .ok (.iconst 1, 1) := by decide +kernel
theorem dL_drumOf_16 : decode cL_drumOf 16 = .ok (.ireturn, 1) := by decide +kernel
theorem dL_drumOf_17 : decode cL_drumOf 17 = .ok (.astore 4, 2) := by decide +kernel
theorem dL_drumOf_19 : decode cL_drumOf 19 = .ok (.iconst 2, 1) := by decide +kernel
theorem dL_drumOf_20 : decode cL_drumOf 20 = .ok (.ireturn, 1) := by decide +kernel
theorem dL_drumOf_21 : decode cL_drumOf 21 = .ok (.iconst 0, 1) := by decide +kernel
theorem dL_drumOf_22 : decode cL_drumOf 22 = .ok (.ireturn, 1) := by decide +kernel
theorem dL_sampleOf_0 : decode cL_sampleOf 0 = .ok (.aload_n 3, 1) := by decide +kernel
theorem dL_sampleOf_1 : decode cL_sampleOf 1 = .ok (.iconst 0, 1) := by decide +kernel
theorem dL_sampleOf_2 : decode cL_sampleOf 2 = .ok (.aload_n 0, 1) := by decide +kernel
theorem dL_sampleOf_3 : decode cL_sampleOf 3 = .ok (.iload_n 1, 1) := by decide +kernel
theorem dL_sampleOf_4 : decode cL_sampleOf 4 = .ok (.iload_n 2, 1) := by decide +kernel
theorem dL_sampleOf_5 : decode cL_sampleOf 5 = .ok (.invokevirtual 73, 3) := by decide +kernel
theorem dL_sampleOf_8 : decode cL_sampleOf 8 = .ok (.i2l, 1) := by decide +kernel
theorem dL_sampleOf_9 : decode cL_sampleOf 9 = .ok (.lastore, 1) := by decide +kernel
theorem dL_sampleOf_10 : decode cL_sampleOf 10 = .ok (.goto 11, 3) := by decide +kernel
theorem dL_sampleOf_13 : decode cL_sampleOf 13 = .ok (.astore 4, 2) := by decide +kernel
theorem dL_sampleOf_15 : decode cL_sampleOf 15 = .ok (.iconst 1, 1) := by decide +kernel
theorem dL_sampleOf_16 : decode cL_sampleOf 16 = .ok (.ireturn, 1) := by decide +kernel
theorem dL_sampleOf_17 : decode cL_sampleOf 17 = .ok (.astore 4, 2) := by decide +kernel
theorem dL_sampleOf_19 : decode cL_sampleOf 19 = .ok (.iconst 2, 1) := by decide +kernel
theorem dL_sampleOf_20 : decode cL_sampleOf 20 = .ok (.ireturn, 1) := by decide +kernel
theorem dL_sampleOf_21 : decode cL_sampleOf 21 = .ok (.iconst 0, 1) := by decide +kernel
theorem dL_sampleOf_22 : decode cL_sampleOf 22 = .ok (.ireturn, 1) := by decide +kernel
theorem dL_reading_0 : decode cL_reading 0 = .ok (.aload 4, 2) := by decide +kernel
theorem dL_reading_2 : decode cL_reading 2 = .ok (.iconst 0, 1) := by decide +kernel
theorem dL_reading_3 : decode cL_reading 3 = .ok (.aload_n 0, 1) := by decide +kernel
theorem dL_reading_4 : decode cL_reading 4 = .ok (.iload_n 1, 1) := by decide +kernel
theorem dL_reading_5 : decode cL_reading 5 = .ok (.iload_n 2, 1) := by decide +kernel
theorem dL_reading_6 : decode cL_reading 6 = .ok (.iload_n 3, 1) := by decide +kernel
theorem dL_reading_7 : decode cL_reading 7 = .ok (.invokevirtual 76, 3) := by decide +kernel
theorem dL_reading_10 : decode cL_reading 10 = .ok (.i2l, 1) := by decide +kernel
theorem dL_reading_11 : decode cL_reading 11 = .ok (.lastore, 1) := by decide +kernel
theorem dL_reading_12 : decode cL_reading 12 = .ok (.goto 11, 3) := by decide +kernel
theorem dL_reading_15 : decode cL_reading 15 = .ok (.astore 5, 2) := by decide +kernel
theorem dL_reading_17 : decode cL_reading 17 = .ok (.iconst 1, 1) := by decide +kernel
theorem dL_reading_18 : decode cL_reading 18 = .ok (.ireturn, 1) := by decide +kernel
theorem dL_reading_19 : decode cL_reading 19 = .ok (.astore 5, 2) := by decide +kernel
theorem dL_reading_21 : decode cL_reading 21 = .ok (.iconst 2, 1) := by decide +kernel
theorem dL_reading_22 : decode cL_reading 22 = .ok (.ireturn, 1) := by decide +kernel
theorem dL_reading_23 : decode cL_reading 23 = .ok (.iconst 0, 1) := by decide +kernel
theorem dL_reading_24 : decode cL_reading 24 = .ok (.ireturn, 1) := by decide +kernel
theorem dL_needle_0 : decode cL_needle 0 = .ok (.aload_n 3, 1) := by decide +kernel
theorem dL_needle_1 : decode cL_needle 1 = .ok (.iconst 0, 1) := by decide +kernel
theorem dL_needle_2 : decode cL_needle 2 = .ok (.aload_n 0, 1) := by decide +kernel
theorem dL_needle_3 : decode cL_needle 3 = .ok (.iload_n 1, 1) := by decide +kernel
theorem dL_needle_4 : decode cL_needle 4 = .ok (.iload_n 2, 1) := by decide +kernel
theorem dL_needle_5 : decode cL_needle 5 = .ok (.invokevirtual 80, 3) := by decide +kernel
theorem dL_needle_8 : decode cL_needle 8 = .ok (.i2l, 1) := by decide +kernel
theorem dL_needle_9 : decode cL_needle 9 = .ok (.lastore, 1) := by decide +kernel
theorem dL_needle_10 : decode cL_needle 10 = .ok (.goto 11, 3) := by decide +kernel
theorem dL_needle_13 : decode cL_needle 13 = .ok (.astore 4, 2) := by decide +kernel
theorem dL_needle_15 : decode cL_needle 15 = .ok (.iconst 1, 1) := by decide +kernel
theorem dL_needle_16 : decode cL_needle 16 = .ok (.ireturn, 1) := by decide +kernel
theorem dL_needle_17 : decode cL_needle 17 = .ok (.astore 4, 2) := by decide +kernel
theorem dL_needle_19 : decode cL_needle 19 = .ok (.iconst 2, 1) := by decide +kernel
theorem dL_needle_20 : decode cL_needle 20 = .ok (.ireturn, 1) := by decide +kernel
theorem dL_needle_21 : decode cL_needle 21 = .ok (.iconst 0, 1) := by decide +kernel
theorem dL_needle_22 : decode cL_needle 22 = .ok (.ireturn, 1) := by decide +kernel
theorem dL_bathOf_0 : decode cL_bathOf 0 = .ok (.aload_n 3, 1) := by decide +kernel
theorem dL_bathOf_1 : decode cL_bathOf 1 = .ok (.iconst 0, 1) := by decide +kernel
theorem dL_bathOf_2 : decode cL_bathOf 2 = .ok (.aload_n 0, 1) := by decide +kernel
theorem dL_bathOf_3 : decode cL_bathOf 3 = .ok (.iload_n 1, 1) := by decide +kernel
theorem dL_bathOf_4 : decode cL_bathOf 4 = .ok (.iload_n 2, 1) := by decide +kernel
theorem dL_bathOf_5 : decode cL_bathOf 5 = .ok (.invokevirtual 83, 3) := by decide +kernel
theorem dL_bathOf_8 : decode cL_bathOf 8 = .ok (.i2l, 1) := by decide +kernel
theorem dL_bathOf_9 : decode cL_bathOf 9 = .ok (.lastore, 1) := by decide +kernel
theorem dL_bathOf_10 : decode cL_bathOf 10 = .ok (.goto 11, 3) := by decide +kernel
theorem dL_bathOf_13 : decode cL_bathOf 13 = .ok (.astore 4, 2) := by decide +kernel
theorem dL_bathOf_15 : decode cL_bathOf 15 = .ok (.iconst 1, 1) := by decide +kernel
theorem dL_bathOf_16 : decode cL_bathOf 16 = .ok (.ireturn, 1) := by decide +kernel
theorem dL_bathOf_17 : decode cL_bathOf 17 = .ok (.astore 4, 2) := by decide +kernel
theorem dL_bathOf_19 : decode cL_bathOf 19 = .ok (.iconst 2, 1) := by decide +kernel
theorem dL_bathOf_20 : decode cL_bathOf 20 = .ok (.ireturn, 1) := by decide +kernel
theorem dL_bathOf_21 : decode cL_bathOf 21 = .ok (.iconst 0, 1) := by decide +kernel
theorem dL_bathOf_22 : decode cL_bathOf 22 = .ok (.ireturn, 1) := by decide +kernel
theorem dL_count_0 : decode cL_count 0 = .ok (.aload_n 2, 1) := by decide +kernel
theorem dL_count_1 : decode cL_count 1 = .ok (.iconst 0, 1) := by decide +kernel
theorem dL_count_2 : decode cL_count 2 = .ok (.aload_n 0, 1) := by decide +kernel
theorem dL_count_3 : decode cL_count 3 = .ok (.iload_n 1, 1) := by decide +kernel
theorem dL_count_4 : decode cL_count 4 = .ok (.invokevirtual 86, 3) := by decide +kernel
theorem dL_count_7 : decode cL_count 7 = .ok (.i2l, 1) := by decide +kernel
theorem dL_count_8 : decode cL_count 8 = .ok (.lastore, 1) := by decide +kernel
theorem dL_count_9 : decode cL_count 9 = .ok (.goto 6, 3) := by decide +kernel
theorem dL_count_12 : decode cL_count 12 = .ok (.astore_n 3, 1) := by decide +kernel
theorem dL_count_13 : decode cL_count 13 = .ok (.iconst 1, 1) := by decide +kernel
theorem dL_count_14 : decode cL_count 14 = .ok (.ireturn, 1) := by decide +kernel
theorem dL_count_15 : decode cL_count 15 = .ok (.iconst 0, 1) := by decide +kernel
theorem dL_count_16 : decode cL_count 16 = .ok (.ireturn, 1) := by decide +kernel
theorem dL_noSink_0 : decode cL_noSink 0 = .ok (.aload_n 3, 1) := by decide +kernel
theorem dL_noSink_1 : decode cL_noSink 1 = .ok (.iconst 0, 1) := by decide +kernel
theorem dL_noSink_2 : decode cL_noSink 2 = .ok (.aload_n 0, 1) := by decide +kernel
theorem dL_noSink_3 : decode cL_noSink 3 = .ok (.iload_n 1, 1) := by decide +kernel
theorem dL_noSink_4 : decode cL_noSink 4 = .ok (.iload_n 2, 1) := by decide +kernel
theorem dL_noSink_5 : decode cL_noSink 5 = .ok (.invokevirtual 89, 3) := by decide +kernel
theorem dL_noSink_8 : decode cL_noSink 8 = .ok (.i2l, 1) := by decide +kernel
theorem dL_noSink_9 : decode cL_noSink 9 = .ok (.lastore, 1) := by decide +kernel
theorem dL_noSink_10 : decode cL_noSink 10 = .ok (.goto 7, 3) := by decide +kernel
theorem dL_noSink_13 : decode cL_noSink 13 = .ok (.astore 4, 2) := by decide +kernel
theorem dL_noSink_15 : decode cL_noSink 15 = .ok (.iconst 1, 1) := by decide +kernel
theorem dL_noSink_16 : decode cL_noSink 16 = .ok (.ireturn, 1) := by decide +kernel
theorem dL_noSink_17 : decode cL_noSink 17 = .ok (.iconst 0, 1) := by decide +kernel
theorem dL_noSink_18 : decode cL_noSink 18 = .ok (.ireturn, 1) := by decide +kernel
theorem dL_noSale_0 : decode cL_noSale 0 = .ok (.aload_n 2, 1) := by decide +kernel
theorem dL_noSale_1 : decode cL_noSale 1 = .ok (.iconst 0, 1) := by decide +kernel
theorem dL_noSale_2 : decode cL_noSale 2 = .ok (.aload_n 0, 1) := by decide +kernel
theorem dL_noSale_3 : decode cL_noSale 3 = .ok (.iload_n 1, 1) := by decide +kernel
theorem dL_noSale_4 : decode cL_noSale 4 = .ok (.invokevirtual 92, 3) := by decide +kernel
theorem dL_noSale_7 : decode cL_noSale 7 = .ok (.i2l, 1) := by decide +kernel
theorem dL_noSale_8 : decode cL_noSale 8 = .ok (.lastore, 1) := by decide +kernel
theorem dL_noSale_9 : decode cL_noSale 9 = .ok (.goto 6, 3) := by decide +kernel
theorem dL_noSale_12 : decode cL_noSale 12 = .ok (.astore_n 3, 1) := by decide +kernel
theorem dL_noSale_13 : decode cL_noSale 13 = .ok (.iconst 1, 1) := by decide +kernel
theorem dL_noSale_14 : decode cL_noSale 14 = .ok (.ireturn, 1) := by decide +kernel
theorem dL_noSale_15 : decode cL_noSale 15 = .ok (.iconst 0, 1) := by decide +kernel
theorem dL_noSale_16 : decode cL_noSale 16 = .ok (.ireturn, 1) := by decide +kernel
theorem dL_ifSunk_0 : decode cL_ifSunk 0 = .ok (.aload 5, 2) := by decide +kernel
theorem dL_ifSunk_2 : decode cL_ifSunk 2 = .ok (.iconst 0, 1) := by decide +kernel
theorem dL_ifSunk_3 : decode cL_ifSunk 3 = .ok (.aload_n 0, 1) := by decide +kernel
theorem dL_ifSunk_4 : decode cL_ifSunk 4 = .ok (.iload_n 1, 1) := by decide +kernel
theorem dL_ifSunk_5 : decode cL_ifSunk 5 = .ok (.iload_n 2, 1) := by decide +kernel
theorem dL_ifSunk_6 : decode cL_ifSunk 6 = .ok (.iload_n 3, 1) := by decide +kernel
theorem dL_ifSunk_7 : decode cL_ifSunk 7 = .ok (.iload 4, 2) := by decide +kernel
theorem dL_ifSunk_9 : decode cL_ifSunk 9 = .ok (.invokevirtual 95, 3) := by decide +kernel
theorem dL_ifSunk_12 : decode cL_ifSunk 12 = .ok (.i2l, 1) := by decide +kernel
theorem dL_ifSunk_13 : decode cL_ifSunk 13 = .ok (.lastore, 1) := by decide +kernel
theorem dL_ifSunk_14 : decode cL_ifSunk 14 = .ok (.goto 11, 3) := by decide +kernel
theorem dL_ifSunk_17 : decode cL_ifSunk 17 = .ok (.astore 6, 2) := by decide +kernel
theorem dL_ifSunk_19 : decode cL_ifSunk 19 = .ok (.iconst 1, 1) := by decide +kernel
theorem dL_ifSunk_20 : decode cL_ifSunk 20 = .ok (.ireturn, 1) := by decide +kernel
theorem dL_ifSunk_21 : decode cL_ifSunk 21 = .ok (.astore 6, 2) := by decide +kernel
theorem dL_ifSunk_23 : decode cL_ifSunk 23 = .ok (.iconst 2, 1) := by decide +kernel
theorem dL_ifSunk_24 : decode cL_ifSunk 24 = .ok (.ireturn, 1) := by decide +kernel
theorem dL_ifSunk_25 : decode cL_ifSunk 25 = .ok (.iconst 0, 1) := by decide +kernel
theorem dL_ifSunk_26 : decode cL_ifSunk 26 = .ok (.ireturn, 1) := by decide +kernel
theorem dL_secondsTo_0 : decode cL_secondsTo 0 = .ok (.aload 5, 2) := by decide +kernel
theorem dL_secondsTo_2 : decode cL_secondsTo 2 = .ok (.iconst 0, 1) := by decide +kernel
theorem dL_secondsTo_3 : decode cL_secondsTo 3 = .ok (.aload_n 0, 1) := by decide +kernel
theorem dL_secondsTo_4 : decode cL_secondsTo 4 = .ok (.iload_n 1, 1) := by decide +kernel
theorem dL_secondsTo_5 : decode cL_secondsTo 5 = .ok (.iload_n 2, 1) := by decide +kernel
theorem dL_secondsTo_6 : decode cL_secondsTo 6 = .ok (.iload_n 3, 1) := by decide +kernel
theorem dL_secondsTo_7 : decode cL_secondsTo 7 = .ok (.iload 4, 2) := by decide +kernel
theorem dL_secondsTo_9 : decode cL_secondsTo 9 = .ok (.invokevirtual 98, 3) := by decide +kernel
theorem dL_secondsTo_12 : decode cL_secondsTo 12 = .ok (.i2l, 1) := by decide +kernel
theorem dL_secondsTo_13 : decode cL_secondsTo 13 = .ok (.lastore, 1) := by decide +kernel
theorem dL_secondsTo_14 : decode cL_secondsTo 14 = .ok (.goto 11, 3) := by decide +kernel
theorem dL_secondsTo_17 : decode cL_secondsTo 17 = .ok (.astore 6, 2) := by decide +kernel
theorem dL_secondsTo_19 : decode cL_secondsTo 19 = .ok (.iconst 1, 1) := by decide +kernel
theorem dL_secondsTo_20 : decode cL_secondsTo 20 = .ok (.ireturn, 1) := by decide +kernel
theorem dL_secondsTo_21 : decode cL_secondsTo 21 = .ok (.astore 6, 2) := by decide +kernel
theorem dL_secondsTo_23 : decode cL_secondsTo 23 = .ok (.iconst 2, 1) := by decide +kernel
theorem dL_secondsTo_24 : decode cL_secondsTo 24 = .ok (.ireturn, 1) := by decide +kernel
theorem dL_secondsTo_25 : decode cL_secondsTo 25 = .ok (.iconst 0, 1) := by decide +kernel
theorem dL_secondsTo_26 : decode cL_secondsTo 26 = .ok (.ireturn, 1) := by decide +kernel
theorem dL_readyIn_0 : decode cL_readyIn 0 = .ok (.aload_n 2, 1) := by decide +kernel
theorem dL_readyIn_1 : decode cL_readyIn 1 = .ok (.iconst 0, 1) := by decide +kernel
theorem dL_readyIn_2 : decode cL_readyIn 2 = .ok (.aload_n 0, 1) := by decide +kernel
theorem dL_readyIn_3 : decode cL_readyIn 3 = .ok (.iload_n 1, 1) := by decide +kernel
theorem dL_readyIn_4 : decode cL_readyIn 4 = .ok (.invokevirtual 101, 3) := by decide +kernel
theorem dL_readyIn_7 : decode cL_readyIn 7 = .ok (.i2l, 1) := by decide +kernel
theorem dL_readyIn_8 : decode cL_readyIn 8 = .ok (.lastore, 1) := by decide +kernel
theorem dL_readyIn_9 : decode cL_readyIn 9 = .ok (.goto 6, 3) := by decide +kernel
theorem dL_readyIn_12 : decode cL_readyIn 12 = .ok (.astore_n 3, 1) := by decide +kernel
theorem dL_readyIn_13 : decode cL_readyIn 13 = .ok (.iconst 1, 1) := by decide +kernel
theorem dL_readyIn_14 : decode cL_readyIn 14 = .ok (.ireturn, 1) := by decide +kernel
theorem dL_readyIn_15 : decode cL_readyIn 15 = .ok (.iconst 0, 1) := by decide +kernel
theorem dL_readyIn_16 : decode cL_readyIn 16 = .ok (.ireturn, 1) := by decide +kernel
theorem dL_bestBath_0 : decode cL_bestBath 0 = .ok (.aload_n 2, 1) := by decide +kernel
theorem dL_bestBath_1 : decode cL_bestBath 1 = .ok (.iconst 0, 1) := by decide +kernel
theorem dL_bestBath_2 : decode cL_bestBath 2 = .ok (.aload_n 0, 1) := by decide +kernel
theorem dL_bestBath_3 : decode cL_bestBath 3 = .ok (.iload_n 1, 1) := by decide +kernel
theorem dL_bestBath_4 : decode cL_bestBath 4 = .ok (.invokevirtual 104, 3) := by decide +kernel
theorem dL_bestBath_7 : decode cL_bestBath 7 = .ok (.i2l, 1) := by decide +kernel
theorem dL_bestBath_8 : decode cL_bestBath 8 = .ok (.lastore, 1) := by decide +kernel
theorem dL_bestBath_9 : decode cL_bestBath 9 = .ok (.goto 6, 3) := by decide +kernel
theorem dL_bestBath_12 : decode cL_bestBath 12 = .ok (.astore_n 3, 1) := by decide +kernel
theorem dL_bestBath_13 : decode cL_bestBath 13 = .ok (.iconst 1, 1) := by decide +kernel
theorem dL_bestBath_14 : decode cL_bestBath 14 = .ok (.ireturn, 1) := by decide +kernel
theorem dL_bestBath_15 : decode cL_bestBath 15 = .ok (.iconst 0, 1) := by decide +kernel
theorem dL_bestBath_16 : decode cL_bestBath 16 = .ok (.ireturn, 1) := by decide +kernel
